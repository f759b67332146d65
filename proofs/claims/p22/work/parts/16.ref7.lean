
def rf_at (κ : Nat) (G : pG) (n0 p0 : Nat) : Prop := n0 < κ ∧ p0 < G.1 2 n0
theorem rg_lix {x : Int64} {c : Nat} {a : Int64} (ha : a.toInt = 0) (hc : c < 2 ^ 30) : (a ≤ x ∧ x ≤ (nI c - nI 1).toInt64) ↔ ∃ j : Nat, j < c ∧ x = lN j := by
  rw [Int64.le_iff_toInt_le, Int64.le_iff_toInt_le, Int32.toInt_toInt64, ha, pk_sub_toInt hc (by decide)]
  constructor
  · rintro ⟨h1, h2⟩
    refine ⟨x.toInt.toNat, by omega, ?_⟩
    apply Int64.toInt_inj.mp
    rw [lN_toInt (by omega)]
    omega
  · rintro ⟨j, hj, rfl⟩
    rw [lN_toInt (by omega)]
    omega

set_option maxHeartbeats 4000000 in
set_option maxRecDepth 100000 in
theorem cR_partAt (l : Launch) (D : va_G) (t : Nat → ClassId) (A : Nat → Prop) (f : rl_M) (z : Nat) (m : Nat) (I : Nat → Nat → Int32) (L : Nat → Nat → Int64) (F : Nat → Int32) (hR : RM t f m I L F) (T : Nat → Nat → Nat) (ρ κ : Nat) (G : pG) (hρ : ρ ≤ 43100) (hκ : κ ≤ 26200) (hTc : RTc T (I 0) (I 1) (I 2)) (hTp : RTp T (I 3) (I 4) (I 5) (I 6)) (hGW : GW T ρ κ G) (hGr : RGr ρ G (I 12) (I 13)) (hGd : RGd κ G (I 15) (I 16) (L 17) (I 18)) (hGp : RGp G (I 19) (L 20) (I 21)) (x1 x2 : Int32) : rl_Met l yX12_partAt (.code yX12_partAt cX12_partAt 4 (some FieldType.int)) (rl_rm 2 0 0) D t A f z [.ref (m), .int (x1), .int (x2)] (rl_qi z fun r f1 => f = f1 ∧ ((r = -1 ∧ pu_at G x1 x2 = none) ∨ ∃ n0 p0, pu_at G x1 x2 = some (n0, p0) ∧ rf_at κ G n0 p0 ∧ r = nI (5 * n0 + p0))) := by
  refine rl_begin (own := RX12) (lv := [(0, .ref (m)), (1, .int (x1)), (2, .int (x2))]) (by decide +kernel) rfl (Nat.le_of_ble_eq_true rfl) rfl fun p e s m0 args below meth c ls H locs hC hr hlk hnm hW hl hx hb => ?_
  refine lv_iload_n hx hb dX12_partAt_0 rfl (lv_at hl 1 rfl) ?_
  refine rl_calliQ (rl_runS (As := [.int (x1)]) (rest := []) hC hW (cR_isPlace l D t A _ z _) cs_X12_148 sm_X12_isPlace ⟨(Nat.le_of_ble_eq_true rfl), (Nat.le_of_ble_eq_true rfl)⟩ rfl hl.1 rfl (Nat.le_of_ble_eq_true rfl) dX12_partAt_1 ⟨(Nat.le_of_ble_eq_true rfl), (Nat.le_of_ble_eq_true rfl)⟩) hW (fun r f1 H locs hp hW => ?_)
  obtain ⟨rfl, hp⟩ := hp
  rcases hp with ⟨rfl, hp⟩ | ⟨rfl, hp⟩
  · obtain ⟨p0, hp0, rfl⟩ := hp
    refine lv_if_eq (tgt := 21) hx hb dX12_partAt_4 (by decide) (fun c9 => ?_) (fun c9 => ?_)
    · exact absurd c9 (by decide)
    · refine lv_aload_n hx hb dX12_partAt_7 rfl (lv_at hl 0 rfl) ?_
      refine lv_aload_n hx hb dX12_partAt_8 rfl (lv_at hl 0 rfl) ?_
      refine rl_get (v := .ref (m + 18)) hC hW fl_X12_66 hR.1 rfl dX12_partAt_9 ?_
      refine lv_iload_n hx hb dX12_partAt_12 rfl (lv_at hl 1 rfl) ?_
      refine rl_iald_n (g := I 19) hC hW hR.a19 (by omega) (by decide) dX12_partAt_13 ?_
      refine rl_calliQ (rl_runV (b := m) (As := [.int (I 19 (p0))]) (rest := []) hC hW (cR_familyOf l D t A _ z m _ L F hR T (fun n hn => ⟨(hTc.2.2.2 n hn).2.1, (hTc.2.2.2 n hn).2.2.1⟩) ρ κ hρ hκ _ _ (hGp.1 p0 hp0) (hGW.2.2.1 p0 hp0)) cs_X12_160 im_X12_familyOf sl_X12_familyOf hR.1 rfl ⟨(Nat.le_of_ble_eq_true rfl), (Nat.le_of_ble_eq_true rfl)⟩ rfl hl.1 rfl (Nat.le_of_ble_eq_true rfl) dX12_partAt_14 ⟨(Nat.le_of_ble_eq_true rfl), (Nat.le_of_ble_eq_true rfl)⟩) hW (fun r f1 H locs hp hW => ?_)
      obtain ⟨rfl, hp⟩ := hp
      rcases hp with ⟨hh, rfl⟩ | ⟨n0, hn0, hh, ⟨rfl, -⟩ | ⟨rfl, -⟩⟩ | ⟨n0, hn0, hh, rfl⟩ | ⟨n0, hn0, hh, rfl⟩
      · refine lv_iconst (v := (nI (4))) hx hb dX12_partAt_17 (by decide) ?_
        refine lv_icmp_eq (tgt := 23) hx hb dX12_partAt_18 (by decide) (fun c_1 => ?_) (fun c_1 => ?_)
        · first | exact absurd c_1 (by decide) | exact absurd (by decide) c_1
        · refine lv_iconst (v := (-1)) hx hb dX12_partAt_21 (by decide) ?_
          exact rl_iret hC hW hr hlk (Nat.le_refl _) (Nat.le_refl _) ⟨_, rfl, rfl, rfl, rfl, Or.inl ⟨rfl, (by simp only [pu_at, ob, pu_ix_s hp0 (by decide), hh])⟩⟩ dX12_partAt_22
      · refine lv_iconst (v := (nI (4))) hx hb dX12_partAt_17 (by decide) ?_
        refine lv_icmp_eq (tgt := 23) hx hb dX12_partAt_18 (by decide) (fun c_2 => ?_) (fun c_2 => ?_)
        · first | exact absurd c_2 (by decide) | exact absurd (by decide) c_2
        · refine lv_iconst (v := (-1)) hx hb dX12_partAt_21 (by decide) ?_
          exact rl_iret hC hW hr hlk (Nat.le_refl _) (Nat.le_refl _) ⟨_, rfl, rfl, rfl, rfl, Or.inl ⟨rfl, (by simp only [pu_at, ob, pu_ix_s hp0 (by decide), hh])⟩⟩ dX12_partAt_22
      · refine lv_iconst (v := (nI (4))) hx hb dX12_partAt_17 (by decide) ?_
        refine lv_icmp_eq (tgt := 23) hx hb dX12_partAt_18 (by decide) (fun c_3 => ?_) (fun c_3 => ?_)
        · first | exact absurd c_3 (by decide) | exact absurd (by decide) c_3
        · refine lv_iconst (v := (-1)) hx hb dX12_partAt_21 (by decide) ?_
          exact rl_iret hC hW hr hlk (Nat.le_refl _) (Nat.le_refl _) ⟨_, rfl, rfl, rfl, rfl, Or.inl ⟨rfl, (by simp only [pu_at, ob, pu_ix_s hp0 (by decide), hh])⟩⟩ dX12_partAt_22
      · refine lv_iconst (v := (nI (4))) hx hb dX12_partAt_17 (by decide) ?_
        refine lv_icmp_eq (tgt := 23) hx hb dX12_partAt_18 (by decide) (fun c_4 => ?_) (fun c_4 => ?_)
        · first | exact absurd c_4 (by decide) | exact absurd (by decide) c_4
        · refine lv_iconst (v := (-1)) hx hb dX12_partAt_21 (by decide) ?_
          exact rl_iret hC hW hr hlk (Nat.le_refl _) (Nat.le_refl _) ⟨_, rfl, rfl, rfl, rfl, Or.inl ⟨rfl, (by simp only [pu_at, ob, pu_ix_s hp0 (by decide), hh])⟩⟩ dX12_partAt_22
      · have he := hGp.1 p0 hp0
        rw [hh] at he
        replace he : I 19 p0 = nI (1000000 + n0) := he
        obtain ⟨h15, h16, -⟩ := hGd n0 hn0
        obtain ⟨hsh, hpn, -⟩ := hGW.2.1 n0 hn0
        have h5 := (hTp.1 _ hsh).2
        refine lv_iconst (v := (nI (4))) hx hb dX12_partAt_17 (by decide) ?_
        refine lv_icmp_eq (tgt := 23) hx hb dX12_partAt_18 (by decide) (fun c2 => ?_) (fun c2 => ?_)
        · refine lv_aload_n hx hb dX12_partAt_23 rfl (lv_at hl 0 rfl) ?_
          refine rl_get (v := .ref (m + 18)) hC hW fl_X12_66 hR.1 rfl dX12_partAt_24 ?_
          refine lv_iload_n hx hb dX12_partAt_27 rfl (lv_at hl 1 rfl) ?_
          refine rl_iald_n (g := I 19) hC hW hR.a19 (by omega) (by decide) dX12_partAt_28 ?_
          refine rl_topn (he) ?_
          refine lv_ldc (v := nI 1000000) hx hb hC.2.2.2.1 (hC.2.2.2.2.1 _ (List.mem_cons_of_mem _ mw_859)) dX12_partAt_29 ?_
          refine lv_isub hx hb dX12_partAt_31 ?_
          refine rl_topn (rg_sub (c := n0) (by omega)) ?_
          refine lv_istore_n (lv' := [(3, .int (nI (n0))), (0, .ref (m)), (1, .int (nI (p0))), (2, .int (x2))]) hx hb dX12_partAt_32 rfl hl (by decide) rfl (fun ls hl => ?_)
          refine lv_iload_n hx hb dX12_partAt_33 rfl (lv_at hl 3 rfl) ?_
          refine lv_i2l hx hb dX12_partAt_34 rfl ?_
          refine lv_lconst (v := 0) hx hb dX12_partAt_35 (by decide) ?_
          refine lv_aload_n hx hb dX12_partAt_36 rfl (lv_at hl 1 rfl) ?_
          refine rl_get (v := .ref (m + 15)) hC hW fl_X12_55 hR.1 rfl dX12_partAt_37 ?_
          refine lv_iload_n hx hb dX12_partAt_40 rfl (lv_at hl 0 rfl) ?_
          refine rl_iald_n (g := I 16) hC hW hR.a16 (by omega) (by decide) dX12_partAt_41 ?_
          refine rl_topn (h16) ?_
          refine lv_iconst (v := (nI (1))) hx hb dX12_partAt_42 (by decide) ?_
          refine lv_isub hx hb dX12_partAt_43 ?_
          refine lv_i2l hx hb dX12_partAt_44 rfl ?_
          refine rl_calliQ (rl_runS (As := [.long ((x2).toInt64), .long (0), .long (((nI (G.1 2 n0)) - (nI (1))).toInt64)]) (rest := []) hC hW (cR_in l D t A _ z _ _ _) cs_X12_117 sm_X12_in ⟨(Nat.le_of_ble_eq_true rfl), (Nat.le_of_ble_eq_true rfl)⟩ rfl hl.1 rfl (Nat.le_of_ble_eq_true rfl) dX12_partAt_45 ⟨(Nat.le_of_ble_eq_true rfl), (Nat.le_of_ble_eq_true rfl)⟩) hW (fun r f1 H locs hp hW => ?_)
          obtain ⟨rfl, hp⟩ := hp
          rw [rg_ixm (by decide) (by omega)] at hp
          rcases hp with ⟨rfl, hp⟩ | ⟨rfl, hp⟩
          · obtain ⟨i0, hi0, rfl⟩ := hp
            refine lv_if_eq (tgt := 59) hx hb dX12_partAt_48 (by decide) (fun c_5 => ?_) (fun c_5 => ?_)
            · first | exact absurd c_5 (by decide) | exact absurd (by decide) c_5
            · refine lv_iconst (v := (nI (5))) hx hb dX12_partAt_51 (by decide) ?_
              refine lv_iload_n hx hb dX12_partAt_52 rfl (lv_at hl 0 rfl) ?_
              refine lv_imul hx hb dX12_partAt_53 ?_
              refine rl_topn (pk_mul _ _) ?_
              refine lv_iload_n hx hb dX12_partAt_54 rfl (lv_at hl 3 rfl) ?_
              refine lv_iadd hx hb dX12_partAt_55 ?_
              refine rl_topn (nI_add _ _) ?_
              refine lv_goto (tgt := 60) hx hb dX12_partAt_56 (by decide) ?_
              exact rl_iret hC hW hr hlk (Nat.le_refl _) (Nat.le_refl _) ⟨_, rfl, rfl, rfl, rfl, Or.inr ⟨n0, i0, (by simp only [pu_at, ob, pu_ix_s hp0 (by decide), hh, pu_ix_s hi0 (by omega)]), ⟨hn0, hi0⟩, rfl⟩⟩ dX12_partAt_60
          · refine lv_if_eq (tgt := 59) hx hb dX12_partAt_48 (by decide) (fun c_6 => ?_) (fun c_6 => ?_)
            · refine lv_iconst (v := (-1)) hx hb dX12_partAt_59 (by decide) ?_
              exact rl_iret hC hW hr hlk (Nat.le_refl _) (Nat.le_refl _) ⟨_, rfl, rfl, rfl, rfl, Or.inl ⟨rfl, (by simp only [pu_at, ob, pu_ix_s hp0 (by decide), hh, pu_ix_n (n := G.1 2 n0) (by omega) hp])⟩⟩ dX12_partAt_60
            · first | exact absurd c_6 (by decide) | exact absurd (by decide) c_6
        · exact absurd (by decide) c2
  · have hq := hp
    refine lv_if_eq (tgt := 21) hx hb dX12_partAt_4 (by decide) (fun c9 => ?_) (fun c9 => ?_)
    · refine lv_iconst (v := (-1)) hx hb dX12_partAt_21 (by decide) ?_
      exact rl_iret hC hW hr hlk (Nat.le_refl _) (Nat.le_refl _) ⟨_, rfl, rfl, rfl, rfl, Or.inl ⟨rfl, (by simp only [pu_at, ob, pu_ix_n (n := 10) (by decide) hq])⟩⟩ dX12_partAt_22
    · exact absurd rfl c9

set_option maxHeartbeats 4000000 in
set_option maxRecDepth 100000 in
theorem cR_isNumber (l : Launch) (D : va_G) (t : Nat → ClassId) (A : Nat → Prop) (f : rl_M) (z : Nat) (m : Nat) (I : Nat → Nat → Int32) (L : Nat → Nat → Int64) (F : Nat → Int32) (hR : RM t f m I L F) (T : Nat → Nat → Nat) (ρ κ : Nat) (G : pG) (hρ : ρ ≤ 43100) (hκ : κ ≤ 26200) (hTc : RTc T (I 0) (I 1) (I 2)) (hTp : RTp T (I 3) (I 4) (I 5) (I 6)) (hGW : GW T ρ κ G) (hGr : RGr ρ G (I 12) (I 13)) (hGd : RGd κ G (I 15) (I 16) (L 17) (I 18)) (hGp : RGp G (I 19) (L 20) (I 21)) (n0 p0 : Nat) (hat : rf_at κ G n0 p0) : rl_Met l yX12_isNumber (.code yX12_isNumber cX12_isNumber 2 (some FieldType.boolean)) (rl_rm 0 0 0) D t A f z [.ref (m), .int (nI (5 * n0 + p0))] (rl_qi z fun r f1 => f = f1 ∧ ((r = 1 ∧ T 4 (5 * G.1 1 n0 + p0) < 2) ∨ (r = 0 ∧ 2 ≤ T 4 (5 * G.1 1 n0 + p0)))) := by
  refine rl_begin (own := RX12) (lv := [(0, .ref (m)), (1, .int (nI (5 * n0 + p0)))]) (by decide +kernel) rfl (Nat.le_of_ble_eq_true rfl) rfl fun p e s m0 args below meth c ls H locs hC hr hlk hnm hW hl hx hb => ?_
  obtain ⟨hn0, hp0⟩ := hat
  obtain ⟨h15, h16, h17⟩ := hGd n0 hn0
  obtain ⟨hsh, hpn, hth⟩ := hGW.2.1 n0 hn0
  have h5 := (hTp.1 _ hsh).2
  have hnm := hTp.2 _ p0 hsh (by omega)
  refine lv_aload_n hx hb dX12_isNumber_0 rfl (lv_at hl 0 rfl) ?_
  refine rl_get (v := .ref (m + 6)) hC hW fl_X12_26 hR.1 rfl dX12_isNumber_1 ?_
  refine lv_iconst (v := (nI (5))) hx hb dX12_isNumber_4 (by decide) ?_
  refine lv_aload_n hx hb dX12_isNumber_5 rfl (lv_at hl 0 rfl) ?_
  refine rl_get (v := .ref (m + 14)) hC hW fl_X12_52 hR.1 rfl dX12_isNumber_6 ?_
  refine lv_iload_n hx hb dX12_isNumber_9 rfl (lv_at hl 1 rfl) ?_
  refine lv_iconst (v := (nI (5))) hx hb dX12_isNumber_10 (by decide) ?_
  refine lv_idiv hx hb dX12_isNumber_11 (by decide) ?_
  refine rl_topn (y := nI (n0)) (by rw [pk_div (by omega) (by decide) (by decide)]; congr 1; omega) ?_
  refine rl_iald_n (g := I 15) hC hW hR.a15 (by omega) (by decide) dX12_isNumber_12 ?_
  refine rl_topn (h15) ?_
  refine lv_imul hx hb dX12_isNumber_13 ?_
  refine rl_topn (pk_mul _ _) ?_
  refine lv_iload_n hx hb dX12_isNumber_14 rfl (lv_at hl 1 rfl) ?_
  refine lv_iconst (v := (nI (5))) hx hb dX12_isNumber_15 (by decide) ?_
  refine lv_irem hx hb dX12_isNumber_16 (by decide) ?_
  refine rl_topn (y := nI (p0)) (by rw [pk_rem (by omega) (by decide) (by decide)]; congr 1; omega) ?_
  refine lv_iadd hx hb dX12_isNumber_17 ?_
  refine rl_topn (nI_add _ _) ?_
  refine rl_iald_n (g := I 5) hC hW hR.a5 (by omega) (by decide) dX12_isNumber_18 ?_
  refine rl_topn (hnm.2.2.1) ?_
  refine lv_iconst (v := (nI (2))) hx hb dX12_isNumber_19 (by decide) ?_
  refine lv_icmp_ge (tgt := 27) hx hb dX12_isNumber_20 (by decide) (fun c1 => ?_) (fun c1 => ?_)
  · refine lv_iconst (v := (nI (0))) hx hb dX12_isNumber_27 (by decide) ?_
    exact rl_zret hC hW hr hlk rfl (Nat.le_refl _) (Nat.le_refl _) ⟨_, rfl, rfl, rfl, rfl, Or.inr ⟨by decide, rg_le c1 (by decide) (by omega)⟩⟩ dX12_isNumber_28
  · refine lv_iconst (v := (nI (1))) hx hb dX12_isNumber_23 (by decide) ?_
    refine lv_goto (tgt := 28) hx hb dX12_isNumber_24 (by decide) ?_
    exact rl_zret hC hW hr hlk rfl (Nat.le_refl _) (Nat.le_refl _) ⟨_, rfl, rfl, rfl, rfl, Or.inl ⟨by decide, rg_lt c1 (by decide) (by omega)⟩⟩ dX12_isNumber_28

set_option maxHeartbeats 4000000 in
set_option maxRecDepth 100000 in
theorem cR_number (l : Launch) (D : va_G) (t : Nat → ClassId) (A : Nat → Prop) (f : rl_M) (z : Nat) (m : Nat) (T : Nat → Nat → Nat) (ρ κ : Nat) (G : pG) (hS : RS t f m T ρ κ G) (hρ : ρ + 84 ≤ 43100) (hκ : κ + 51 ≤ 26200) (x1 x2 : Int32) : rl_Met l yX12_number (.code yX12_number cX12_number 4 (some FieldType.long)) (rl_rm 3 0 0) D t A f z [.ref (m), .int (x1), .int (x2)] (rl_ql z fun r f1 => f_number T G x1 x2 = r ∧ RS t f1 m T ρ κ G) := by
  obtain ⟨I, L, F, hR, hTc, hTp, hTk, hGW, hGr, hGd, hGp, hGt, hGc, hF11, hF14⟩ := hS
  refine rl_begin (own := RX12) (lv := [(0, .ref (m)), (1, .int (x1)), (2, .int (x2))]) (by decide +kernel) rfl (Nat.le_of_ble_eq_true rfl) rfl fun p e s m0 args below meth c ls H locs hC hr hlk hnm hW hl hx hb => ?_
  refine lv_aload_n hx hb dX12_number_0 rfl (lv_at hl 0 rfl) ?_
  refine lv_iload_n hx hb dX12_number_1 rfl (lv_at hl 1 rfl) ?_
  refine lv_iload_n hx hb dX12_number_2 rfl (lv_at hl 2 rfl) ?_
  refine rl_calliQ (rl_runV (b := m) (As := [.int (x1), .int (x2)]) (rest := []) hC hW (cR_partAt l D t A _ z m I L F hR T ρ κ G (by omega) (by omega) hTc hTp hGW hGr hGd hGp _ _) cs_X12_195 im_X12_partAt sl_X12_partAt hR.1 rfl ⟨(Nat.le_of_ble_eq_true rfl), (Nat.le_of_ble_eq_true rfl)⟩ rfl hl.1 rfl (Nat.le_of_ble_eq_true rfl) dX12_number_3 ⟨(Nat.le_of_ble_eq_true rfl), (Nat.le_of_ble_eq_true rfl)⟩) hW (fun r f1 H locs hp hW => ?_)
  obtain ⟨rfl, hp⟩ := hp
  rcases hp with ⟨rfl, hpa⟩ | ⟨n0, p0, hpa, hat, rfl⟩
  · refine lv_istore_n (lv' := [(3, .int (-1)), (0, .ref (m)), (1, .int (x1)), (2, .int (x2))]) hx hb dX12_number_6 rfl hl (by decide) rfl (fun ls hl => ?_)
    refine lv_aload_n hx hb dX12_number_7 rfl (lv_at hl 1 rfl) ?_
    refine lv_iload_n hx hb dX12_number_8 rfl (lv_at hl 0 rfl) ?_
    refine lv_if_ge (tgt := 16) hx hb dX12_number_9 (by decide) (fun c_1 => ?_) (fun c_1 => ?_)
    · first | exact absurd c_1 (by decide) | exact absurd (by decide) c_1
    · refine lv_iconst (v := (-1)) hx hb dX12_number_12 (by decide) ?_
      refine lv_goto (tgt := 17) hx hb dX12_number_13 (by decide) ?_
      refine rl_put (v := .int (-1)) hC hW fp_X12_198 hR.1 (Nat.le_of_ble_eq_true rfl) rfl rfl dX12_number_17 (fun H locs hW => ?_)
      have hR := hR.f27 (-1)
      refine lv_iload_n hx hb dX12_number_20 rfl (lv_at hl 0 rfl) ?_
      refine lv_if_ge (tgt := 28) hx hb dX12_number_21 (by decide) (fun c_2 => ?_) (fun c_2 => ?_)
      · first | exact absurd c_2 (by decide) | exact absurd (by decide) c_2
      · refine lv_lconst (v := 0) hx hb dX12_number_24 (by decide) ?_
        refine lv_goto (tgt := 60) hx hb dX12_number_25 (by decide) ?_
        exact rl_lret hC hW hr hlk (Nat.le_refl _) (Nat.le_refl _) ⟨_, rfl, rfl, rfl, by simp only [f_number, hpa], ⟨_, _, _, hR, hTc, hTp, hTk, hGW, hGr, hGd, hGp, hGt, hGc, hF11, hF14⟩⟩ dX12_number_60
  · have hat0 := hat
    obtain ⟨hn0, hp0⟩ := hat
    obtain ⟨h15, h16, h17⟩ := hGd n0 hn0
    obtain ⟨hsh, hpn, hth⟩ := hGW.2.1 n0 hn0
    have h5 := (hTp.1 _ hsh).2
    refine lv_istore_n (lv' := [(3, .int (nI (5 * n0 + p0))), (0, .ref (m)), (1, .int (x1)), (2, .int (x2))]) hx hb dX12_number_6 rfl hl (by decide) rfl (fun ls hl => ?_)
    refine lv_aload_n hx hb dX12_number_7 rfl (lv_at hl 1 rfl) ?_
    refine lv_iload_n hx hb dX12_number_8 rfl (lv_at hl 0 rfl) ?_
    refine lv_if_ge (tgt := 16) hx hb dX12_number_9 (by decide) (fun c1 => ?_) (fun c1 => ?_)
    · refine lv_iconst (v := (nI (0))) hx hb dX12_number_16 (by decide) ?_
      refine rl_put (v := .int (nI (0))) hC hW fp_X12_198 hR.1 (Nat.le_of_ble_eq_true rfl) rfl rfl dX12_number_17 (fun H locs hW => ?_)
      have hR := hR.f27 (nI (0))
      refine lv_iload_n hx hb dX12_number_20 rfl (lv_at hl 0 rfl) ?_
      refine lv_if_ge (tgt := 28) hx hb dX12_number_21 (by decide) (fun c2 => ?_) (fun c2 => ?_)
      · refine lv_aload_n hx hb dX12_number_28 rfl (lv_at hl 1 rfl) ?_
        refine lv_iload_n hx hb dX12_number_29 rfl (lv_at hl 0 rfl) ?_
        refine rl_calliQ (rl_runV (b := m) (As := [.int (nI (5 * n0 + p0))]) (rest := []) hC hW (cR_isNumber l D t A _ z m _ _ _ hR T ρ κ G (by omega) (by omega) hTc hTp hGW hGr hGd hGp n0 p0 hat0) cs_X12_201 im_X12_isNumber sl_X12_isNumber hR.1 rfl ⟨(Nat.le_of_ble_eq_true rfl), (Nat.le_of_ble_eq_true rfl)⟩ rfl hl.1 rfl (Nat.le_of_ble_eq_true rfl) dX12_number_30 ⟨(Nat.le_of_ble_eq_true rfl), (Nat.le_of_ble_eq_true rfl)⟩) hW (fun r f1 H locs hp hW => ?_)
        obtain ⟨rfl, hp⟩ := hp
        rcases hp with ⟨rfl, hp⟩ | ⟨rfl, hp⟩
        · refine lv_if_eq (tgt := 45) hx hb dX12_number_33 (by decide) (fun c_3 => ?_) (fun c_3 => ?_)
          · first | exact absurd c_3 (by decide) | exact absurd (by decide) c_3
          · refine lv_aload_n hx hb dX12_number_36 rfl (lv_at hl 1 rfl) ?_
            refine rl_get (v := .ref (m + 16)) hC hW fl_X12_59 hR.1 rfl dX12_number_37 ?_
            refine lv_iload_n hx hb dX12_number_40 rfl (lv_at hl 0 rfl) ?_
            refine rl_lald_n (g := L 17) hC hW hR.a17 (by omega) (by decide) dX12_number_41 ?_
            refine lv_goto (tgt := 60) hx hb dX12_number_42 (by decide) ?_
            exact rl_lret hC hW hr hlk (Nat.le_refl _) (Nat.le_refl _) ⟨_, rfl, rfl, rfl, by simp only [f_number, hpa, if_pos hp]; exact (h17 p0 hp0).1.symm, ⟨_, _, _, hR, hTc, hTp, hTk, hGW, hGr, hGd, hGp, hGt, hGc, hF11, hF14⟩⟩ dX12_number_60
        · refine lv_if_eq (tgt := 45) hx hb dX12_number_33 (by decide) (fun c_4 => ?_) (fun c_4 => ?_)
          · refine lv_aload_n hx hb dX12_number_45 rfl (lv_at hl 1 rfl) ?_
            refine lv_aload_n hx hb dX12_number_46 rfl (lv_at hl 1 rfl) ?_
            refine rl_get (v := .ref (m + 17)) hC hW fl_X12_63 hR.1 rfl dX12_number_47 ?_
            refine lv_iload_n hx hb dX12_number_50 rfl (lv_at hl 0 rfl) ?_
            refine rl_iald_n (g := I 18) hC hW hR.a18 (by omega) (by decide) dX12_number_51 ?_
            refine rl_calliQ (rl_runV (b := m) (As := [.int (I 18 (5 * n0 + p0))]) (rest := []) hC hW (cR_familyOf l D t A _ z m _ _ _ hR T (fun n hn => ⟨(hTc.2.2.2 n hn).2.1, (hTc.2.2.2 n hn).2.2.1⟩) ρ κ (by omega) (by omega) _ _ (h17 p0 hp0).2 (hth p0 hp0).1) cs_X12_160 im_X12_familyOf sl_X12_familyOf hR.1 rfl ⟨(Nat.le_of_ble_eq_true rfl), (Nat.le_of_ble_eq_true rfl)⟩ rfl hl.1 rfl (Nat.le_of_ble_eq_true rfl) dX12_number_52 ⟨(Nat.le_of_ble_eq_true rfl), (Nat.le_of_ble_eq_true rfl)⟩) hW (fun r f1 H locs hp hW => ?_)
            obtain ⟨rfl, hp2⟩ := hp
            have hfe := hp2.e
            have hnn : ¬ T 4 (5 * G.1 1 n0 + p0) < 2 := by omega
            subst hfe
            refine lv_i2l hx hb dX12_number_55 rfl ?_
            refine lv_ldc2 (v := 10) hx hb hC.2.2.2.1 (hC.2.2.2.2.1 _ (List.mem_cons_of_mem _ mw_904)) dX12_number_56 ?_
            refine lv_lsub hx hb dX12_number_59 ?_
            refine lv_topl (fun x_5 ex_5 => ?_)
            exact rl_lret hC hW hr hlk (Nat.le_refl _) (Nat.le_refl _) ⟨_, rfl, rfl, rfl, by simp only [f_number, hpa, if_neg hnn]; first | rfl | (rw [ex_5]) | (simp [*]), ⟨_, _, _, hR, hTc, hTp, hTk, hGW, hGr, hGd, hGp, hGt, hGc, hF11, hF14⟩⟩ dX12_number_60
          · first | exact absurd c_4 (by decide) | exact absurd (by decide) c_4
      · exact absurd (nI_pos' (by omega)) c2
    · exact absurd (nI_pos' (by omega)) c1

set_option maxHeartbeats 4000000 in
set_option maxRecDepth 100000 in
theorem cR_take (l : Launch) (D : va_G) (t : Nat → ClassId) (A : Nat → Prop) (f : rl_M) (z : Nat) (m : Nat) (T : Nat → Nat → Nat) (ρ κ : Nat) (G : pG) (hS : RS t f m T ρ κ G) (hρ : ρ + 84 ≤ 43100) (hκ : κ + 51 ≤ 26200) (x1 x2 x3 : Int32) : rl_Met l yX12_take (.code yX12_take cX12_take 5 (some FieldType.int)) (rl_rm 3 0 0) D t A f z [.ref (m), .int (x1), .int (x2), .int (x3)] (rl_qi z fun r f1 => ∃ ρ' κ' G', f_take T ρ κ G x1 x2 x3 = (r, ρ', κ', G') ∧ ρ' ≤ ρ + 84 ∧ κ' ≤ κ + 51 ∧ RS t f1 m T ρ' κ' G') := by
  obtain ⟨I, L, F, hR, hTc, hTp, hTk, hGW, hGr, hGd, hGp, hGt, hGc, hF11, hF14⟩ := hS
  refine rl_begin (own := RX12) (lv := [(0, .ref (m)), (1, .int (x1)), (2, .int (x2)), (3, .int (x3))]) (by decide +kernel) rfl (Nat.le_of_ble_eq_true rfl) rfl fun p e s m0 args below meth c ls H locs hC hr hlk hnm hW hl hx hb => ?_
  refine lv_aload_n hx hb dX12_take_0 rfl (lv_at hl 0 rfl) ?_
  refine lv_iload_n hx hb dX12_take_1 rfl (lv_at hl 1 rfl) ?_
  refine lv_iload_n hx hb dX12_take_2 rfl (lv_at hl 2 rfl) ?_
  refine rl_calliQ (rl_runV (b := m) (As := [.int (x1), .int (x2)]) (rest := []) hC hW (cR_partAt l D t A _ z m I L F hR T ρ κ G (by omega) (by omega) hTc hTp hGW hGr hGd hGp _ _) cs_X12_195 im_X12_partAt sl_X12_partAt hR.1 rfl ⟨(Nat.le_of_ble_eq_true rfl), (Nat.le_of_ble_eq_true rfl)⟩ rfl hl.1 rfl (Nat.le_of_ble_eq_true rfl) dX12_take_3 ⟨(Nat.le_of_ble_eq_true rfl), (Nat.le_of_ble_eq_true rfl)⟩) hW (fun r f1 H locs hp hW => ?_)
  obtain ⟨rfl, hp⟩ := hp
  rcases hp with ⟨rfl, hpa⟩ | ⟨n0, p0, hpa, hat, rfl⟩
  · refine lv_istore (lv' := [(4, .int (-1)), (0, .ref (m)), (1, .int (x1)), (2, .int (x2)), (3, .int (x3))]) hx hb dX12_take_6 hl (by decide) rfl (fun ls hl => ?_)
    refine lv_iload hx hb dX12_take_8 (lv_at hl 0 rfl) ?_
    refine lv_if_lt (tgt := 29) hx hb dX12_take_10 (by decide) (fun c_1 => ?_) (fun c_1 => ?_)
    · refine lv_iconst (v := (-1)) hx hb dX12_take_29 (by decide) ?_
      exact rl_iret hC hW hr hlk (Nat.le_refl _) (Nat.le_refl _) ⟨_, rfl, rfl, rfl, ρ, κ, G, (by simp only [f_take, hpa]), by omega, by omega, ⟨_, _, _, hR, hTc, hTp, hTk, hGW, hGr, hGd, hGp, hGt, hGc, hF11, hF14⟩⟩ dX12_take_30
    · first | exact absurd c_1 (by decide) | exact absurd (by decide) c_1
  · have hat0 := hat
    obtain ⟨hn0, hp0⟩ := hat
    obtain ⟨h15, h16, h17⟩ := hGd n0 hn0
    obtain ⟨hsh, hpn, hth⟩ := hGW.2.1 n0 hn0
    have h5 := (hTp.1 _ hsh).2
    refine lv_istore (lv' := [(4, .int (nI (5 * n0 + p0))), (0, .ref (m)), (1, .int (x1)), (2, .int (x2)), (3, .int (x3))]) hx hb dX12_take_6 hl (by decide) rfl (fun ls hl => ?_)
    refine lv_iload hx hb dX12_take_8 (lv_at hl 0 rfl) ?_
    refine lv_if_lt (tgt := 29) hx hb dX12_take_10 (by decide) (fun c1 => ?_) (fun c1 => ?_)
    · exact absurd c1 (nI_pos (by omega))
    · refine lv_iload_n hx hb dX12_take_13 rfl (lv_at hl 4 rfl) ?_
      refine rl_calliQ (rl_runS (As := [.int (x3)]) (rest := []) hC hW (cR_isPlace l D t A _ z _) cs_X12_148 sm_X12_isPlace ⟨(Nat.le_of_ble_eq_true rfl), (Nat.le_of_ble_eq_true rfl)⟩ rfl hl.1 rfl (Nat.le_of_ble_eq_true rfl) dX12_take_14 ⟨(Nat.le_of_ble_eq_true rfl), (Nat.le_of_ble_eq_true rfl)⟩) hW (fun r f1 H locs hp hW => ?_)
      obtain ⟨rfl, hp⟩ := hp
      rcases hp with ⟨rfl, hp⟩ | ⟨rfl, hp⟩
      · obtain ⟨q0, hq0, rfl⟩ := hp
        refine lv_if_eq (tgt := 29) hx hb dX12_take_17 (by decide) (fun c9 => ?_) (fun c9 => ?_)
        · exact absurd c9 (by decide)
        · refine lv_aload_n hx hb dX12_take_20 rfl (lv_at hl 1 rfl) ?_
          refine lv_iload hx hb dX12_take_21 (lv_at hl 0 rfl) ?_
          refine rl_calliQ (rl_runV (b := m) (As := [.int (nI (5 * n0 + p0))]) (rest := []) hC hW (cR_isNumber l D t A _ z m _ _ _ hR T ρ κ G (by omega) (by omega) hTc hTp hGW hGr hGd hGp n0 p0 hat0) cs_X12_201 im_X12_isNumber sl_X12_isNumber hR.1 rfl ⟨(Nat.le_of_ble_eq_true rfl), (Nat.le_of_ble_eq_true rfl)⟩ rfl hl.1 rfl (Nat.le_of_ble_eq_true rfl) dX12_take_23 ⟨(Nat.le_of_ble_eq_true rfl), (Nat.le_of_ble_eq_true rfl)⟩) hW (fun r f1 H locs hp hW => ?_)
          obtain ⟨rfl, hp⟩ := hp
          rcases hp with ⟨rfl, hp⟩ | ⟨rfl, hp⟩
          · refine lv_if_eq (tgt := 31) hx hb dX12_take_26 (by decide) (fun c_2 => ?_) (fun c_2 => ?_)
            · first | exact absurd c_2 (by decide) | exact absurd (by decide) c_2
            · refine lv_iconst (v := (-1)) hx hb dX12_take_29 (by decide) ?_
              exact rl_iret hC hW hr hlk (Nat.le_refl _) (Nat.le_refl _) ⟨_, rfl, rfl, rfl, ρ, κ, G, (by simp only [f_take, hpa, ob, pu_ix_s hq0 (by decide), if_pos hp]), by omega, by omega, ⟨_, _, _, hR, hTc, hTp, hTk, hGW, hGr, hGd, hGp, hGt, hGc, hF11, hF14⟩⟩ dX12_take_30
          · have hnn : ¬ T 4 (5 * G.1 1 n0 + p0) < 2 := by omega
            refine lv_if_eq (tgt := 31) hx hb dX12_take_26 (by decide) (fun c_3 => ?_) (fun c_3 => ?_)
            · refine lv_aload_n hx hb dX12_take_31 rfl (lv_at hl 1 rfl) ?_
              refine rl_get (v := .ref (m + 18)) hC hW fl_X12_66 hR.1 rfl dX12_take_32 ?_
              refine lv_iload_n hx hb dX12_take_35 rfl (lv_at hl 4 rfl) ?_
              refine lv_aload_n hx hb dX12_take_36 rfl (lv_at hl 1 rfl) ?_
              refine rl_get (v := .ref (m + 17)) hC hW fl_X12_63 hR.1 rfl dX12_take_37 ?_
              refine lv_iload hx hb dX12_take_40 (lv_at hl 0 rfl) ?_
              refine rl_iald_n (g := I 18) hC hW hR.a18 (by omega) (by decide) dX12_take_42 ?_
              refine rl_topn ((h17 p0 hp0).2) ?_
              refine rl_iast_n (g := I 19) hC hW hR.a19 (by omega) (by decide) dX12_take_43 (fun H locs hW => ?_)
              have hR := hR.s19 (upd (I 19) (q0) ((enc (G.2.2.2 1 (5 * n0 + p0)))))
              refine lv_aload_n hx hb dX12_take_44 rfl (lv_at hl 1 rfl) ?_
              refine lv_aload_n hx hb dX12_take_45 rfl (lv_at hl 1 rfl) ?_
              refine rl_get (v := .ref (m + 18)) hC hW fl_X12_66 hR.1 rfl dX12_take_46 ?_
              refine lv_iload_n hx hb dX12_take_49 rfl (lv_at hl 4 rfl) ?_
              refine rl_iald_n (g := upd (I 19) (q0) ((enc (G.2.2.2 1 (5 * n0 + p0))))) hC hW hR.a19 (by omega) (by decide) dX12_take_50 ?_
              have hpx : upd (I 19) q0 (enc (G.2.2.2 1 (5 * n0 + p0))) q0 = enc (G.2.2.2 1 (5 * n0 + p0)) := by simp [upd]
              refine rl_calliQ (rl_runV (b := m) (As := [.int ((upd (I 19) (q0) ((enc (G.2.2.2 1 (5 * n0 + p0))))) (q0))]) (rest := []) hC hW (cR_familyOf l D t A _ z m _ _ _ hR T (fun n hn => ⟨(hTc.2.2.2 n hn).2.1, (hTc.2.2.2 n hn).2.2.1⟩) ρ κ (by omega) (by omega) _ _ hpx (hth p0 hp0).1) cs_X12_160 im_X12_familyOf sl_X12_familyOf hR.1 rfl ⟨(Nat.le_of_ble_eq_true rfl), (Nat.le_of_ble_eq_true rfl)⟩ rfl hl.1 rfl (Nat.le_of_ble_eq_true rfl) dX12_take_51 ⟨(Nat.le_of_ble_eq_true rfl), (Nat.le_of_ble_eq_true rfl)⟩) hW (fun r f1 H locs hp hW => ?_)
              obtain ⟨rfl, hp2⟩ := hp
              have hfe := hp2.e
              exact rl_iret hC hW hr hlk (Nat.le_refl _) (Nat.le_refl _) ⟨_, rfl, rfl, rfl, ρ, κ, gX G 0 (va_up (G.2.2.2 0) q0 (G.2.2.2 1 (5 * n0 + p0))), (by simp only [f_take, hpa, ob, pu_ix_s hq0 (by decide), if_neg hnn]; rw [hfe]), by omega, by omega, ⟨_, _, _, hR, hTc, hTp, hTk, hGW.pl (hth p0 hp0).1, hGr, hGd, hGp.pl rfl, hGt, hGc, hF11, hF14⟩⟩ dX12_take_54
            · first | exact absurd c_3 (by decide) | exact absurd (by decide) c_3
      · have hq := hp
        refine lv_if_eq (tgt := 29) hx hb dX12_take_17 (by decide) (fun c9 => ?_) (fun c9 => ?_)
        · refine lv_iconst (v := (-1)) hx hb dX12_take_29 (by decide) ?_
          exact rl_iret hC hW hr hlk (Nat.le_refl _) (Nat.le_refl _) ⟨_, rfl, rfl, rfl, ρ, κ, G, (by simp only [f_take, hpa, ob, pu_ix_n (n := 10) (by decide) hq]), by omega, by omega, ⟨_, _, _, hR, hTc, hTp, hTk, hGW, hGr, hGd, hGp, hGt, hGc, hF11, hF14⟩⟩ dX12_take_30
        · exact absurd rfl c9

set_option maxHeartbeats 4000000 in
set_option maxRecDepth 100000 in
theorem cR_about (l : Launch) (D : va_G) (t : Nat → ClassId) (A : Nat → Prop) (f : rl_M) (z : Nat) (m : Nat) (T : Nat → Nat → Nat) (ρ κ : Nat) (G : pG) (hS : RS t f m T ρ κ G) (hρ : ρ + 84 ≤ 43100) (hκ : κ + 51 ≤ 26200) (x1 x2 : Int32) : rl_Met l yX12_about (.code yX12_about cX12_about 7 (some FieldType.int)) (rl_rm 2 0 0) D t A f z [.ref (m), .int (x1), .int (x2)] (rl_qi z fun r f1 => f_about T G x1 x2 = r ∧ RS t f1 m T ρ κ G) := by
  obtain ⟨I, L, F, hR, hTc, hTp, hTk, hGW, hGr, hGd, hGp, hGt, hGc, hF11, hF14⟩ := hS
  refine rl_begin (own := RX12) (lv := [(0, .ref (m)), (1, .int (x1)), (2, .int (x2))]) (by decide +kernel) rfl (Nat.le_of_ble_eq_true rfl) rfl fun p e s m0 args below meth c ls H locs hC hr hlk hnm hW hl hx hb => ?_
  refine lv_iload_n hx hb dX12_about_0 rfl (lv_at hl 1 rfl) ?_
  refine rl_calliQ (rl_runS (As := [.int (x1)]) (rest := []) hC hW (cR_isPlace l D t A _ z _) cs_X12_148 sm_X12_isPlace ⟨(Nat.le_of_ble_eq_true rfl), (Nat.le_of_ble_eq_true rfl)⟩ rfl hl.1 rfl (Nat.le_of_ble_eq_true rfl) dX12_about_1 ⟨(Nat.le_of_ble_eq_true rfl), (Nat.le_of_ble_eq_true rfl)⟩) hW (fun r f1 H locs hp hW => ?_)
  obtain ⟨rfl, hp⟩ := hp
  rcases hp with ⟨rfl, hp⟩ | ⟨rfl, hp⟩
  · obtain ⟨p0, hp0, rfl⟩ := hp
    refine lv_if_eq (tgt := 19) hx hb dX12_about_4 (by decide) (fun c9 => ?_) (fun c9 => ?_)
    · exact absurd c9 (by decide)
    · refine lv_iload_n hx hb dX12_about_7 rfl (lv_at hl 2 rfl) ?_
      refine lv_i2l hx hb dX12_about_8 rfl ?_
      refine lv_lconst (v := 0) hx hb dX12_about_9 (by decide) ?_
      refine lv_ldc2 (v := 3) hx hb hC.2.2.2.1 (hC.2.2.2.2.1 _ (List.mem_cons_of_mem _ mw_891)) dX12_about_10 ?_
      refine rl_calliQ (rl_runS (As := [.long ((x2).toInt64), .long (0), .long (3)]) (rest := []) hC hW (cR_in l D t A _ z _ _ _) cs_X12_117 sm_X12_in ⟨(Nat.le_of_ble_eq_true rfl), (Nat.le_of_ble_eq_true rfl)⟩ rfl hl.1 rfl (Nat.le_of_ble_eq_true rfl) dX12_about_13 ⟨(Nat.le_of_ble_eq_true rfl), (Nat.le_of_ble_eq_true rfl)⟩) hW (fun r f1 H locs hp hW => ?_)
      obtain ⟨rfl, hp⟩ := hp
      rw [rg_ix (n := 3) (by decide) (by decide) (by decide)] at hp
      rcases hp with ⟨rfl, hp⟩ | ⟨rfl, hp⟩
      · obtain ⟨w0, hw0, rfl⟩ := hp
        refine lv_if_ne (tgt := 21) hx hb dX12_about_16 (by decide) (fun c9 => ?_) (fun c9 => ?_)
        · refine lv_aload_n hx hb dX12_about_21 rfl (lv_at hl 0 rfl) ?_
          refine rl_get (v := .ref (m + 18)) hC hW fl_X12_66 hR.1 rfl dX12_about_22 ?_
          refine lv_iload_n hx hb dX12_about_25 rfl (lv_at hl 1 rfl) ?_
          refine rl_iald_n (g := I 19) hC hW hR.a19 (by omega) (by decide) dX12_about_26 ?_
          refine lv_istore_n (lv' := [(3, .int (I 19 (p0))), (0, .ref (m)), (1, .int (nI (p0))), (2, .int (nI (w0)))]) hx hb dX12_about_27 rfl hl (by decide) rfl (fun ls hl => ?_)
          refine lv_aload_n hx hb dX12_about_28 rfl (lv_at hl 1 rfl) ?_
          refine lv_iload_n hx hb dX12_about_29 rfl (lv_at hl 0 rfl) ?_
          refine rl_calliQ (rl_runV (b := m) (As := [.int (I 19 (p0))]) (rest := []) hC hW (cR_familyOf l D t A _ z m _ L F hR T (fun n hn => ⟨(hTc.2.2.2 n hn).2.1, (hTc.2.2.2 n hn).2.2.1⟩) ρ κ (by omega) (by omega) _ _ (hGp.1 p0 hp0) (hGW.2.2.1 p0 hp0)) cs_X12_160 im_X12_familyOf sl_X12_familyOf hR.1 rfl ⟨(Nat.le_of_ble_eq_true rfl), (Nat.le_of_ble_eq_true rfl)⟩ rfl hl.1 rfl (Nat.le_of_ble_eq_true rfl) dX12_about_30 ⟨(Nat.le_of_ble_eq_true rfl), (Nat.le_of_ble_eq_true rfl)⟩) hW (fun r f1 H locs hp hW => ?_)
          obtain ⟨rfl, hp⟩ := hp
          have hfe := hp.e
          rcases hp with ⟨hh, rfl⟩ | ⟨n0, hn0, hh, ⟨rfl, -⟩ | ⟨rfl, -⟩⟩ | ⟨n0, hn0, hh, rfl⟩ | ⟨n0, hn0, hh, rfl⟩
          · have hwc : w0 = 0 ∨ w0 = 1 ∨ w0 = 2 ∨ w0 = 3 := by omega
            rcases hwc with rfl | rfl | rfl | rfl
            · refine lv_istore (lv' := [(4, .int (0)), (3, .int (I 19 (p0))), (0, .ref (m)), (1, .int (nI (p0))), (2, .int (nI (0)))]) hx hb dX12_about_33 hl (by decide) rfl (fun ls hl => ?_)
              refine lv_iload hx hb dX12_about_35 (lv_at hl 0 rfl) ?_
              refine lv_iconst (v := (nI (1))) hx hb dX12_about_37 (by decide) ?_
              refine lv_icmp_eq (tgt := 47) hx hb dX12_about_38 (by decide) (fun c_1 => ?_) (fun c_1 => ?_)
              · first | exact absurd c_1 (by decide) | exact absurd (by decide) c_1
              · refine lv_iload hx hb dX12_about_41 (lv_at hl 0 rfl) ?_
                refine lv_iconst (v := (nI (2))) hx hb dX12_about_43 (by decide) ?_
                refine lv_icmp_ne (tgt := 51) hx hb dX12_about_44 (by decide) (fun c_2 => ?_) (fun c_2 => ?_)
                · refine lv_iconst (v := (nI (0))) hx hb dX12_about_51 (by decide) ?_
                  refine lv_istore (lv' := [(5, .int (nI (0))), (4, .int (0)), (3, .int (I 19 (p0))), (0, .ref (m)), (1, .int (nI (p0))), (2, .int (nI (0)))]) hx hb dX12_about_52 hl (by decide) rfl (fun ls hl => ?_)
                  refine lv_iload_n hx hb dX12_about_54 rfl (lv_at hl 5 rfl) ?_
                  refine lv_if_ne (tgt := 61) hx hb dX12_about_55 (by decide) (fun c_3 => ?_) (fun c_3 => ?_)
                  · first | exact absurd c_3 (by decide) | exact absurd (by decide) c_3
                  · refine lv_iload hx hb dX12_about_58 (lv_at hl 1 rfl) ?_
                    exact rl_iret hC hW hr hlk (Nat.le_refl _) (Nat.le_refl _) ⟨_, rfl, rfl, rfl, by (simp only [f_about, ob, pu_ix_s hp0 (by decide), pu_ix_s hw0 (by decide), hh]); first | rfl | exact hfe.symm | (rw [hh] at hfe; exact hfe.symm), ⟨_, _, _, hR, hTc, hTp, hTk, hGW, hGr, hGd, hGp, hGt, hGc, hF11, hF14⟩⟩ dX12_about_60
                · first | exact absurd c_2 (by decide) | exact absurd (by decide) c_2
            · refine lv_istore (lv' := [(4, .int (0)), (3, .int (I 19 (p0))), (0, .ref (m)), (1, .int (nI (p0))), (2, .int (nI (1)))]) hx hb dX12_about_33 hl (by decide) rfl (fun ls hl => ?_)
              refine lv_iload hx hb dX12_about_35 (lv_at hl 0 rfl) ?_
              refine lv_iconst (v := (nI (1))) hx hb dX12_about_37 (by decide) ?_
              refine lv_icmp_eq (tgt := 47) hx hb dX12_about_38 (by decide) (fun c_4 => ?_) (fun c_4 => ?_)
              · first | exact absurd c_4 (by decide) | exact absurd (by decide) c_4
              · refine lv_iload hx hb dX12_about_41 (lv_at hl 0 rfl) ?_
                refine lv_iconst (v := (nI (2))) hx hb dX12_about_43 (by decide) ?_
                refine lv_icmp_ne (tgt := 51) hx hb dX12_about_44 (by decide) (fun c_5 => ?_) (fun c_5 => ?_)
                · refine lv_iconst (v := (nI (0))) hx hb dX12_about_51 (by decide) ?_
                  refine lv_istore (lv' := [(5, .int (nI (0))), (4, .int (0)), (3, .int (I 19 (p0))), (0, .ref (m)), (1, .int (nI (p0))), (2, .int (nI (1)))]) hx hb dX12_about_52 hl (by decide) rfl (fun ls hl => ?_)
                  refine lv_iload_n hx hb dX12_about_54 rfl (lv_at hl 5 rfl) ?_
                  refine lv_if_ne (tgt := 61) hx hb dX12_about_55 (by decide) (fun c_6 => ?_) (fun c_6 => ?_)
                  · refine lv_iload_n hx hb dX12_about_61 rfl (lv_at hl 5 rfl) ?_
                    refine lv_iconst (v := (nI (3))) hx hb dX12_about_62 (by decide) ?_
                    refine lv_icmp_ne (tgt := 115) hx hb dX12_about_63 (by decide) (fun c_7 => ?_) (fun c_7 => ?_)
                    · refine lv_iload hx hb dX12_about_115 (lv_at hl 1 rfl) ?_
                      refine lv_if_eq (tgt := 126) hx hb dX12_about_117 (by decide) (fun c_8 => ?_) (fun c_8 => ?_)
                      · refine lv_bipush (v := (-3)) hx hb dX12_about_126 (by decide) ?_
                        exact rl_iret hC hW hr hlk (Nat.le_refl _) (Nat.le_refl _) ⟨_, rfl, rfl, rfl, by (simp only [f_about, ob, pu_ix_s hp0 (by decide), pu_ix_s hw0 (by decide), hh]); first | rfl | exact hfe.symm | (rw [hh] at hfe; exact hfe.symm), ⟨_, _, _, hR, hTc, hTp, hTk, hGW, hGr, hGd, hGp, hGt, hGc, hF11, hF14⟩⟩ dX12_about_128
                      · first | exact absurd c_8 (by decide) | exact absurd (by decide) c_8
                    · first | exact absurd c_7 (by decide) | exact absurd (by decide) c_7
                  · first | exact absurd c_6 (by decide) | exact absurd (by decide) c_6
                · first | exact absurd c_5 (by decide) | exact absurd (by decide) c_5
            · refine lv_istore (lv' := [(4, .int (0)), (3, .int (I 19 (p0))), (0, .ref (m)), (1, .int (nI (p0))), (2, .int (nI (2)))]) hx hb dX12_about_33 hl (by decide) rfl (fun ls hl => ?_)
              refine lv_iload hx hb dX12_about_35 (lv_at hl 0 rfl) ?_
              refine lv_iconst (v := (nI (1))) hx hb dX12_about_37 (by decide) ?_
              refine lv_icmp_eq (tgt := 47) hx hb dX12_about_38 (by decide) (fun c_9 => ?_) (fun c_9 => ?_)
              · first | exact absurd c_9 (by decide) | exact absurd (by decide) c_9
              · refine lv_iload hx hb dX12_about_41 (lv_at hl 0 rfl) ?_
                refine lv_iconst (v := (nI (2))) hx hb dX12_about_43 (by decide) ?_
                refine lv_icmp_ne (tgt := 51) hx hb dX12_about_44 (by decide) (fun c_10 => ?_) (fun c_10 => ?_)
                · refine lv_iconst (v := (nI (0))) hx hb dX12_about_51 (by decide) ?_
                  refine lv_istore (lv' := [(5, .int (nI (0))), (4, .int (0)), (3, .int (I 19 (p0))), (0, .ref (m)), (1, .int (nI (p0))), (2, .int (nI (2)))]) hx hb dX12_about_52 hl (by decide) rfl (fun ls hl => ?_)
                  refine lv_iload_n hx hb dX12_about_54 rfl (lv_at hl 5 rfl) ?_
                  refine lv_if_ne (tgt := 61) hx hb dX12_about_55 (by decide) (fun c_11 => ?_) (fun c_11 => ?_)
                  · refine lv_iload_n hx hb dX12_about_61 rfl (lv_at hl 5 rfl) ?_
                    refine lv_iconst (v := (nI (3))) hx hb dX12_about_62 (by decide) ?_
                    refine lv_icmp_ne (tgt := 115) hx hb dX12_about_63 (by decide) (fun c_12 => ?_) (fun c_12 => ?_)
                    · refine lv_iload hx hb dX12_about_115 (lv_at hl 1 rfl) ?_
                      refine lv_if_eq (tgt := 126) hx hb dX12_about_117 (by decide) (fun c_13 => ?_) (fun c_13 => ?_)
                      · refine lv_bipush (v := (-3)) hx hb dX12_about_126 (by decide) ?_
                        exact rl_iret hC hW hr hlk (Nat.le_refl _) (Nat.le_refl _) ⟨_, rfl, rfl, rfl, by (simp only [f_about, ob, pu_ix_s hp0 (by decide), pu_ix_s hw0 (by decide), hh]); first | rfl | exact hfe.symm | (rw [hh] at hfe; exact hfe.symm), ⟨_, _, _, hR, hTc, hTp, hTk, hGW, hGr, hGd, hGp, hGt, hGc, hF11, hF14⟩⟩ dX12_about_128
                      · first | exact absurd c_13 (by decide) | exact absurd (by decide) c_13
                    · first | exact absurd c_12 (by decide) | exact absurd (by decide) c_12
                  · first | exact absurd c_11 (by decide) | exact absurd (by decide) c_11
                · first | exact absurd c_10 (by decide) | exact absurd (by decide) c_10
            · refine lv_istore (lv' := [(4, .int (0)), (3, .int (I 19 (p0))), (0, .ref (m)), (1, .int (nI (p0))), (2, .int (nI (3)))]) hx hb dX12_about_33 hl (by decide) rfl (fun ls hl => ?_)
              refine lv_iload hx hb dX12_about_35 (lv_at hl 0 rfl) ?_
              refine lv_iconst (v := (nI (1))) hx hb dX12_about_37 (by decide) ?_
              refine lv_icmp_eq (tgt := 47) hx hb dX12_about_38 (by decide) (fun c_14 => ?_) (fun c_14 => ?_)
              · first | exact absurd c_14 (by decide) | exact absurd (by decide) c_14
              · refine lv_iload hx hb dX12_about_41 (lv_at hl 0 rfl) ?_
                refine lv_iconst (v := (nI (2))) hx hb dX12_about_43 (by decide) ?_
                refine lv_icmp_ne (tgt := 51) hx hb dX12_about_44 (by decide) (fun c_15 => ?_) (fun c_15 => ?_)
                · refine lv_iconst (v := (nI (0))) hx hb dX12_about_51 (by decide) ?_
                  refine lv_istore (lv' := [(5, .int (nI (0))), (4, .int (0)), (3, .int (I 19 (p0))), (0, .ref (m)), (1, .int (nI (p0))), (2, .int (nI (3)))]) hx hb dX12_about_52 hl (by decide) rfl (fun ls hl => ?_)
                  refine lv_iload_n hx hb dX12_about_54 rfl (lv_at hl 5 rfl) ?_
                  refine lv_if_ne (tgt := 61) hx hb dX12_about_55 (by decide) (fun c_16 => ?_) (fun c_16 => ?_)
                  · refine lv_iload_n hx hb dX12_about_61 rfl (lv_at hl 5 rfl) ?_
                    refine lv_iconst (v := (nI (3))) hx hb dX12_about_62 (by decide) ?_
                    refine lv_icmp_ne (tgt := 115) hx hb dX12_about_63 (by decide) (fun c_17 => ?_) (fun c_17 => ?_)
                    · first | exact absurd c_17 (by decide) | exact absurd (by decide) c_17
                    · refine lv_iload hx hb dX12_about_66 (lv_at hl 1 rfl) ?_
                      refine lv_if_ne (tgt := 75) hx hb dX12_about_68 (by decide) (fun c_18 => ?_) (fun c_18 => ?_)
                      · first | exact absurd c_18 (by decide) | exact absurd (by decide) c_18
                      · refine lv_iconst (v := (nI (0))) hx hb dX12_about_71 (by decide) ?_
                        refine lv_goto (tgt := 114) hx hb dX12_about_72 (by decide) ?_
                        exact rl_iret hC hW hr hlk (Nat.le_refl _) (Nat.le_refl _) ⟨_, rfl, rfl, rfl, by (simp only [f_about, ob, pu_ix_s hp0 (by decide), pu_ix_s hw0 (by decide), hh]); first | rfl | exact hfe.symm | (rw [hh] at hfe; exact hfe.symm), ⟨_, _, _, hR, hTc, hTp, hTk, hGW, hGr, hGd, hGp, hGt, hGc, hF11, hF14⟩⟩ dX12_about_114
                  · first | exact absurd c_16 (by decide) | exact absurd (by decide) c_16
                · first | exact absurd c_15 (by decide) | exact absurd (by decide) c_15
          · have hwc : w0 = 0 ∨ w0 = 1 ∨ w0 = 2 ∨ w0 = 3 := by omega
            rcases hwc with rfl | rfl | rfl | rfl
            · have he := hGp.1 p0 hp0
              rw [hh] at he
              replace he : I 19 p0 = nI n0 := he
              rw [he] at hl
              refine lv_istore (lv' := [(4, .int (1)), (3, .int (nI (n0))), (0, .ref (m)), (1, .int (nI (p0))), (2, .int (nI (0)))]) hx hb dX12_about_33 hl (by decide) rfl (fun ls hl => ?_)
              refine lv_iload hx hb dX12_about_35 (lv_at hl 0 rfl) ?_
              refine lv_iconst (v := (nI (1))) hx hb dX12_about_37 (by decide) ?_
              refine lv_icmp_eq (tgt := 47) hx hb dX12_about_38 (by decide) (fun c_19 => ?_) (fun c_19 => ?_)
              · refine lv_iconst (v := (nI (1))) hx hb dX12_about_47 (by decide) ?_
                refine lv_goto (tgt := 52) hx hb dX12_about_48 (by decide) ?_
                refine lv_istore (lv' := [(5, .int (nI (1))), (4, .int (1)), (3, .int (nI (n0))), (0, .ref (m)), (1, .int (nI (p0))), (2, .int (nI (0)))]) hx hb dX12_about_52 hl (by decide) rfl (fun ls hl => ?_)
                refine lv_iload_n hx hb dX12_about_54 rfl (lv_at hl 5 rfl) ?_
                refine lv_if_ne (tgt := 61) hx hb dX12_about_55 (by decide) (fun c_20 => ?_) (fun c_20 => ?_)
                · first | exact absurd c_20 (by decide) | exact absurd (by decide) c_20
                · refine lv_iload hx hb dX12_about_58 (lv_at hl 1 rfl) ?_
                  exact rl_iret hC hW hr hlk (Nat.le_refl _) (Nat.le_refl _) ⟨_, rfl, rfl, rfl, by (simp only [f_about, ob, pu_ix_s hp0 (by decide), pu_ix_s hw0 (by decide), hh]); first | rfl | exact hfe.symm | (rw [hh] at hfe; exact hfe.symm), ⟨_, _, _, hR, hTc, hTp, hTk, hGW, hGr, hGd, hGp, hGt, hGc, hF11, hF14⟩⟩ dX12_about_60
              · first | exact absurd c_19 (by decide) | exact absurd (by decide) c_19
            · have he := hGp.1 p0 hp0
              rw [hh] at he
              replace he : I 19 p0 = nI n0 := he
              rw [he] at hl
              refine lv_istore (lv' := [(4, .int (1)), (3, .int (nI (n0))), (0, .ref (m)), (1, .int (nI (p0))), (2, .int (nI (1)))]) hx hb dX12_about_33 hl (by decide) rfl (fun ls hl => ?_)
              refine lv_iload hx hb dX12_about_35 (lv_at hl 0 rfl) ?_
              refine lv_iconst (v := (nI (1))) hx hb dX12_about_37 (by decide) ?_
              refine lv_icmp_eq (tgt := 47) hx hb dX12_about_38 (by decide) (fun c_21 => ?_) (fun c_21 => ?_)
              · refine lv_iconst (v := (nI (1))) hx hb dX12_about_47 (by decide) ?_
                refine lv_goto (tgt := 52) hx hb dX12_about_48 (by decide) ?_
                refine lv_istore (lv' := [(5, .int (nI (1))), (4, .int (1)), (3, .int (nI (n0))), (0, .ref (m)), (1, .int (nI (p0))), (2, .int (nI (1)))]) hx hb dX12_about_52 hl (by decide) rfl (fun ls hl => ?_)
                refine lv_iload_n hx hb dX12_about_54 rfl (lv_at hl 5 rfl) ?_
                refine lv_if_ne (tgt := 61) hx hb dX12_about_55 (by decide) (fun c_22 => ?_) (fun c_22 => ?_)
                · refine lv_iload_n hx hb dX12_about_61 rfl (lv_at hl 5 rfl) ?_
                  refine lv_iconst (v := (nI (3))) hx hb dX12_about_62 (by decide) ?_
                  refine lv_icmp_ne (tgt := 115) hx hb dX12_about_63 (by decide) (fun c_23 => ?_) (fun c_23 => ?_)
                  · refine lv_iload hx hb dX12_about_115 (lv_at hl 1 rfl) ?_
                    refine lv_if_eq (tgt := 126) hx hb dX12_about_117 (by decide) (fun c_24 => ?_) (fun c_24 => ?_)
                    · first | exact absurd c_24 (by decide) | exact absurd (by decide) c_24
                    · refine lv_iload hx hb dX12_about_120 (lv_at hl 1 rfl) ?_
                      refine lv_iconst (v := (nI (3))) hx hb dX12_about_122 (by decide) ?_
                      refine lv_icmp_ne (tgt := 129) hx hb dX12_about_123 (by decide) (fun c_25 => ?_) (fun c_25 => ?_)
                      · refine lv_iload hx hb dX12_about_129 (lv_at hl 0 rfl) ?_
                        refine lv_if_eq (tgt := 141) hx hb dX12_about_131 (by decide) (fun c_26 => ?_) (fun c_26 => ?_)
                        · first | exact absurd c_26 (by decide) | exact absurd (by decide) c_26
                        · refine lv_iload_n hx hb dX12_about_134 rfl (lv_at hl 2 rfl) ?_
                          refine lv_bipush (v := (nI (10))) hx hb dX12_about_135 (by decide) ?_
                          refine lv_idiv hx hb dX12_about_137 (by decide) ?_
                          refine rl_topn (pk_div (by omega) (by decide) (by decide)) ?_
                          refine lv_goto (tgt := 150) hx hb dX12_about_138 (by decide) ?_
                          refine lv_istore (lv' := [(6, .int (nI ((n0) / 10))), (5, .int (nI (1))), (4, .int (1)), (3, .int (nI (n0))), (0, .ref (m)), (1, .int (nI (p0))), (2, .int (nI (1)))]) hx hb dX12_about_150 hl (by decide) rfl (fun ls hl => ?_)
                          refine lv_iload_n hx hb dX12_about_152 rfl (lv_at hl 6 rfl) ?_
                          refine lv_iconst (v := (nI (2))) hx hb dX12_about_153 (by decide) ?_
                          refine lv_icmp_ne (tgt := 164) hx hb dX12_about_154 (by decide) (fun c_27 => ?_) (fun c_27 => ?_)
                          · refine lv_iload hx hb dX12_about_164 (lv_at hl 1 rfl) ?_
                            refine lv_if_eq (tgt := 176) hx hb dX12_about_166 (by decide) (fun c_28 => ?_) (fun c_28 => ?_)
                            · first | exact absurd c_28 (by decide) | exact absurd (by decide) c_28
                            · refine lv_iload hx hb dX12_about_169 (lv_at hl 0 rfl) ?_
                              refine lv_iconst (v := (nI (3))) hx hb dX12_about_171 (by decide) ?_
                              refine lv_idiv hx hb dX12_about_172 (by decide) ?_
                              refine rl_topn (pk_div (by omega) (by decide) (by decide)) ?_
                              refine lv_goto (tgt := 182) hx hb dX12_about_173 (by decide) ?_
                              exact rl_iret hC hW hr hlk (Nat.le_refl _) (Nat.le_refl _) ⟨_, rfl, rfl, rfl, by (simp only [f_about, ob, pu_ix_s hp0 (by decide), pu_ix_s hw0 (by decide), hh]); first | rfl | exact hfe.symm | (rw [hh] at hfe; exact hfe.symm), ⟨_, _, _, hR, hTc, hTp, hTk, hGW, hGr, hGd, hGp, hGt, hGc, hF11, hF14⟩⟩ dX12_about_182
                          · first | exact absurd c_27 (by decide) | exact absurd (by decide) c_27
                      · first | exact absurd c_25 (by decide) | exact absurd (by decide) c_25
                  · first | exact absurd c_23 (by decide) | exact absurd (by decide) c_23
                · first | exact absurd c_22 (by decide) | exact absurd (by decide) c_22
              · first | exact absurd c_21 (by decide) | exact absurd (by decide) c_21
            · have he := hGp.1 p0 hp0
              rw [hh] at he
              replace he : I 19 p0 = nI n0 := he
              rw [he] at hl
              refine lv_istore (lv' := [(4, .int (1)), (3, .int (nI (n0))), (0, .ref (m)), (1, .int (nI (p0))), (2, .int (nI (2)))]) hx hb dX12_about_33 hl (by decide) rfl (fun ls hl => ?_)
              refine lv_iload hx hb dX12_about_35 (lv_at hl 0 rfl) ?_
              refine lv_iconst (v := (nI (1))) hx hb dX12_about_37 (by decide) ?_
              refine lv_icmp_eq (tgt := 47) hx hb dX12_about_38 (by decide) (fun c_29 => ?_) (fun c_29 => ?_)
              · refine lv_iconst (v := (nI (1))) hx hb dX12_about_47 (by decide) ?_
                refine lv_goto (tgt := 52) hx hb dX12_about_48 (by decide) ?_
                refine lv_istore (lv' := [(5, .int (nI (1))), (4, .int (1)), (3, .int (nI (n0))), (0, .ref (m)), (1, .int (nI (p0))), (2, .int (nI (2)))]) hx hb dX12_about_52 hl (by decide) rfl (fun ls hl => ?_)
                refine lv_iload_n hx hb dX12_about_54 rfl (lv_at hl 5 rfl) ?_
                refine lv_if_ne (tgt := 61) hx hb dX12_about_55 (by decide) (fun c_30 => ?_) (fun c_30 => ?_)
                · refine lv_iload_n hx hb dX12_about_61 rfl (lv_at hl 5 rfl) ?_
                  refine lv_iconst (v := (nI (3))) hx hb dX12_about_62 (by decide) ?_
                  refine lv_icmp_ne (tgt := 115) hx hb dX12_about_63 (by decide) (fun c_31 => ?_) (fun c_31 => ?_)
                  · refine lv_iload hx hb dX12_about_115 (lv_at hl 1 rfl) ?_
                    refine lv_if_eq (tgt := 126) hx hb dX12_about_117 (by decide) (fun c_32 => ?_) (fun c_32 => ?_)
                    · first | exact absurd c_32 (by decide) | exact absurd (by decide) c_32
                    · refine lv_iload hx hb dX12_about_120 (lv_at hl 1 rfl) ?_
                      refine lv_iconst (v := (nI (3))) hx hb dX12_about_122 (by decide) ?_
                      refine lv_icmp_ne (tgt := 129) hx hb dX12_about_123 (by decide) (fun c_33 => ?_) (fun c_33 => ?_)
                      · refine lv_iload hx hb dX12_about_129 (lv_at hl 0 rfl) ?_
                        refine lv_if_eq (tgt := 141) hx hb dX12_about_131 (by decide) (fun c_34 => ?_) (fun c_34 => ?_)
                        · first | exact absurd c_34 (by decide) | exact absurd (by decide) c_34
                        · refine lv_iload_n hx hb dX12_about_134 rfl (lv_at hl 2 rfl) ?_
                          refine lv_bipush (v := (nI (10))) hx hb dX12_about_135 (by decide) ?_
                          refine lv_idiv hx hb dX12_about_137 (by decide) ?_
                          refine rl_topn (pk_div (by omega) (by decide) (by decide)) ?_
                          refine lv_goto (tgt := 150) hx hb dX12_about_138 (by decide) ?_
                          refine lv_istore (lv' := [(6, .int (nI ((n0) / 10))), (5, .int (nI (1))), (4, .int (1)), (3, .int (nI (n0))), (0, .ref (m)), (1, .int (nI (p0))), (2, .int (nI (2)))]) hx hb dX12_about_150 hl (by decide) rfl (fun ls hl => ?_)
                          refine lv_iload_n hx hb dX12_about_152 rfl (lv_at hl 6 rfl) ?_
                          refine lv_iconst (v := (nI (2))) hx hb dX12_about_153 (by decide) ?_
                          refine lv_icmp_ne (tgt := 164) hx hb dX12_about_154 (by decide) (fun c_35 => ?_) (fun c_35 => ?_)
                          · first | exact absurd c_35 (by decide) | exact absurd (by decide) c_35
                          · refine lv_iload hx hb dX12_about_157 (lv_at hl 0 rfl) ?_
                            refine lv_iconst (v := (nI (3))) hx hb dX12_about_159 (by decide) ?_
                            refine lv_irem hx hb dX12_about_160 (by decide) ?_
                            refine rl_topn (pk_rem (by omega) (by decide) (by decide)) ?_
                            refine lv_goto (tgt := 182) hx hb dX12_about_161 (by decide) ?_
                            exact rl_iret hC hW hr hlk (Nat.le_refl _) (Nat.le_refl _) ⟨_, rfl, rfl, rfl, by (simp only [f_about, ob, pu_ix_s hp0 (by decide), pu_ix_s hw0 (by decide), hh]); first | rfl | exact hfe.symm | (rw [hh] at hfe; exact hfe.symm), ⟨_, _, _, hR, hTc, hTp, hTk, hGW, hGr, hGd, hGp, hGt, hGc, hF11, hF14⟩⟩ dX12_about_182
                      · first | exact absurd c_33 (by decide) | exact absurd (by decide) c_33
                  · first | exact absurd c_31 (by decide) | exact absurd (by decide) c_31
                · first | exact absurd c_30 (by decide) | exact absurd (by decide) c_30
              · first | exact absurd c_29 (by decide) | exact absurd (by decide) c_29
            · have he := hGp.1 p0 hp0
              rw [hh] at he
              replace he : I 19 p0 = nI n0 := he
              rw [he] at hl
              refine lv_istore (lv' := [(4, .int (1)), (3, .int (nI (n0))), (0, .ref (m)), (1, .int (nI (p0))), (2, .int (nI (3)))]) hx hb dX12_about_33 hl (by decide) rfl (fun ls hl => ?_)
              refine lv_iload hx hb dX12_about_35 (lv_at hl 0 rfl) ?_
              refine lv_iconst (v := (nI (1))) hx hb dX12_about_37 (by decide) ?_
              refine lv_icmp_eq (tgt := 47) hx hb dX12_about_38 (by decide) (fun c_36 => ?_) (fun c_36 => ?_)
              · refine lv_iconst (v := (nI (1))) hx hb dX12_about_47 (by decide) ?_
                refine lv_goto (tgt := 52) hx hb dX12_about_48 (by decide) ?_
                refine lv_istore (lv' := [(5, .int (nI (1))), (4, .int (1)), (3, .int (nI (n0))), (0, .ref (m)), (1, .int (nI (p0))), (2, .int (nI (3)))]) hx hb dX12_about_52 hl (by decide) rfl (fun ls hl => ?_)
                refine lv_iload_n hx hb dX12_about_54 rfl (lv_at hl 5 rfl) ?_
                refine lv_if_ne (tgt := 61) hx hb dX12_about_55 (by decide) (fun c_37 => ?_) (fun c_37 => ?_)
                · refine lv_iload_n hx hb dX12_about_61 rfl (lv_at hl 5 rfl) ?_
                  refine lv_iconst (v := (nI (3))) hx hb dX12_about_62 (by decide) ?_
                  refine lv_icmp_ne (tgt := 115) hx hb dX12_about_63 (by decide) (fun c_38 => ?_) (fun c_38 => ?_)
                  · first | exact absurd c_38 (by decide) | exact absurd (by decide) c_38
                  · refine lv_iload hx hb dX12_about_66 (lv_at hl 1 rfl) ?_
                    refine lv_if_ne (tgt := 75) hx hb dX12_about_68 (by decide) (fun c_39 => ?_) (fun c_39 => ?_)
                    · refine lv_iload hx hb dX12_about_75 (lv_at hl 0 rfl) ?_
                      refine lv_if_eq (tgt := 87) hx hb dX12_about_77 (by decide) (fun c_40 => ?_) (fun c_40 => ?_)
                      · first | exact absurd c_40 (by decide) | exact absurd (by decide) c_40
                      · refine lv_iload_n hx hb dX12_about_80 rfl (lv_at hl 2 rfl) ?_
                        refine lv_bipush (v := (nI (10))) hx hb dX12_about_81 (by decide) ?_
                        refine lv_irem hx hb dX12_about_83 (by decide) ?_
                        refine rl_topn (pk_rem (by omega) (by decide) (by decide)) ?_
                        refine lv_goto (tgt := 114) hx hb dX12_about_84 (by decide) ?_
                        exact rl_iret hC hW hr hlk (Nat.le_refl _) (Nat.le_refl _) ⟨_, rfl, rfl, rfl, by (simp only [f_about, ob, pu_ix_s hp0 (by decide), pu_ix_s hw0 (by decide), hh]); first | rfl | exact hfe.symm | (rw [hh] at hfe; exact hfe.symm), ⟨_, _, _, hR, hTc, hTp, hTk, hGW, hGr, hGd, hGp, hGt, hGc, hF11, hF14⟩⟩ dX12_about_114
                    · first | exact absurd c_39 (by decide) | exact absurd (by decide) c_39
                · first | exact absurd c_37 (by decide) | exact absurd (by decide) c_37
              · first | exact absurd c_36 (by decide) | exact absurd (by decide) c_36
          · have hwc : w0 = 0 ∨ w0 = 1 ∨ w0 = 2 ∨ w0 = 3 := by omega
            rcases hwc with rfl | rfl | rfl | rfl
            · have he := hGp.1 p0 hp0
              rw [hh] at he
              replace he : I 19 p0 = nI n0 := he
              rw [he] at hl
              refine lv_istore (lv' := [(4, .int (2)), (3, .int (nI (n0))), (0, .ref (m)), (1, .int (nI (p0))), (2, .int (nI (0)))]) hx hb dX12_about_33 hl (by decide) rfl (fun ls hl => ?_)
              refine lv_iload hx hb dX12_about_35 (lv_at hl 0 rfl) ?_
              refine lv_iconst (v := (nI (1))) hx hb dX12_about_37 (by decide) ?_
              refine lv_icmp_eq (tgt := 47) hx hb dX12_about_38 (by decide) (fun c_41 => ?_) (fun c_41 => ?_)
              · first | exact absurd c_41 (by decide) | exact absurd (by decide) c_41
              · refine lv_iload hx hb dX12_about_41 (lv_at hl 0 rfl) ?_
                refine lv_iconst (v := (nI (2))) hx hb dX12_about_43 (by decide) ?_
                refine lv_icmp_ne (tgt := 51) hx hb dX12_about_44 (by decide) (fun c_42 => ?_) (fun c_42 => ?_)
                · first | exact absurd c_42 (by decide) | exact absurd (by decide) c_42
                · refine lv_iconst (v := (nI (1))) hx hb dX12_about_47 (by decide) ?_
                  refine lv_goto (tgt := 52) hx hb dX12_about_48 (by decide) ?_
                  refine lv_istore (lv' := [(5, .int (nI (1))), (4, .int (2)), (3, .int (nI (n0))), (0, .ref (m)), (1, .int (nI (p0))), (2, .int (nI (0)))]) hx hb dX12_about_52 hl (by decide) rfl (fun ls hl => ?_)
                  refine lv_iload_n hx hb dX12_about_54 rfl (lv_at hl 5 rfl) ?_
                  refine lv_if_ne (tgt := 61) hx hb dX12_about_55 (by decide) (fun c_43 => ?_) (fun c_43 => ?_)
                  · first | exact absurd c_43 (by decide) | exact absurd (by decide) c_43
                  · refine lv_iload hx hb dX12_about_58 (lv_at hl 1 rfl) ?_
                    exact rl_iret hC hW hr hlk (Nat.le_refl _) (Nat.le_refl _) ⟨_, rfl, rfl, rfl, by (simp only [f_about, ob, pu_ix_s hp0 (by decide), pu_ix_s hw0 (by decide), hh]); first | rfl | exact hfe.symm | (rw [hh] at hfe; exact hfe.symm), ⟨_, _, _, hR, hTc, hTp, hTk, hGW, hGr, hGd, hGp, hGt, hGc, hF11, hF14⟩⟩ dX12_about_60
            · have he := hGp.1 p0 hp0
              rw [hh] at he
              replace he : I 19 p0 = nI n0 := he
              rw [he] at hl
              refine lv_istore (lv' := [(4, .int (2)), (3, .int (nI (n0))), (0, .ref (m)), (1, .int (nI (p0))), (2, .int (nI (1)))]) hx hb dX12_about_33 hl (by decide) rfl (fun ls hl => ?_)
              refine lv_iload hx hb dX12_about_35 (lv_at hl 0 rfl) ?_
              refine lv_iconst (v := (nI (1))) hx hb dX12_about_37 (by decide) ?_
              refine lv_icmp_eq (tgt := 47) hx hb dX12_about_38 (by decide) (fun c_44 => ?_) (fun c_44 => ?_)
              · first | exact absurd c_44 (by decide) | exact absurd (by decide) c_44
              · refine lv_iload hx hb dX12_about_41 (lv_at hl 0 rfl) ?_
                refine lv_iconst (v := (nI (2))) hx hb dX12_about_43 (by decide) ?_
                refine lv_icmp_ne (tgt := 51) hx hb dX12_about_44 (by decide) (fun c_45 => ?_) (fun c_45 => ?_)
                · first | exact absurd c_45 (by decide) | exact absurd (by decide) c_45
                · refine lv_iconst (v := (nI (1))) hx hb dX12_about_47 (by decide) ?_
                  refine lv_goto (tgt := 52) hx hb dX12_about_48 (by decide) ?_
                  refine lv_istore (lv' := [(5, .int (nI (1))), (4, .int (2)), (3, .int (nI (n0))), (0, .ref (m)), (1, .int (nI (p0))), (2, .int (nI (1)))]) hx hb dX12_about_52 hl (by decide) rfl (fun ls hl => ?_)
                  refine lv_iload_n hx hb dX12_about_54 rfl (lv_at hl 5 rfl) ?_
                  refine lv_if_ne (tgt := 61) hx hb dX12_about_55 (by decide) (fun c_46 => ?_) (fun c_46 => ?_)
                  · refine lv_iload_n hx hb dX12_about_61 rfl (lv_at hl 5 rfl) ?_
                    refine lv_iconst (v := (nI (3))) hx hb dX12_about_62 (by decide) ?_
                    refine lv_icmp_ne (tgt := 115) hx hb dX12_about_63 (by decide) (fun c_47 => ?_) (fun c_47 => ?_)
                    · refine lv_iload hx hb dX12_about_115 (lv_at hl 1 rfl) ?_
                      refine lv_if_eq (tgt := 126) hx hb dX12_about_117 (by decide) (fun c_48 => ?_) (fun c_48 => ?_)
                      · first | exact absurd c_48 (by decide) | exact absurd (by decide) c_48
                      · refine lv_iload hx hb dX12_about_120 (lv_at hl 1 rfl) ?_
                        refine lv_iconst (v := (nI (3))) hx hb dX12_about_122 (by decide) ?_
                        refine lv_icmp_ne (tgt := 129) hx hb dX12_about_123 (by decide) (fun c_49 => ?_) (fun c_49 => ?_)
                        · refine lv_iload hx hb dX12_about_129 (lv_at hl 0 rfl) ?_
                          refine lv_if_eq (tgt := 141) hx hb dX12_about_131 (by decide) (fun c_50 => ?_) (fun c_50 => ?_)
                          · first | exact absurd c_50 (by decide) | exact absurd (by decide) c_50
                          · refine lv_iload_n hx hb dX12_about_134 rfl (lv_at hl 2 rfl) ?_
                            refine lv_bipush (v := (nI (10))) hx hb dX12_about_135 (by decide) ?_
                            refine lv_idiv hx hb dX12_about_137 (by decide) ?_
                            refine rl_topn (pk_div (by omega) (by decide) (by decide)) ?_
                            refine lv_goto (tgt := 150) hx hb dX12_about_138 (by decide) ?_
                            refine lv_istore (lv' := [(6, .int (nI ((n0) / 10))), (5, .int (nI (1))), (4, .int (2)), (3, .int (nI (n0))), (0, .ref (m)), (1, .int (nI (p0))), (2, .int (nI (1)))]) hx hb dX12_about_150 hl (by decide) rfl (fun ls hl => ?_)
                            refine lv_iload_n hx hb dX12_about_152 rfl (lv_at hl 6 rfl) ?_
                            refine lv_iconst (v := (nI (2))) hx hb dX12_about_153 (by decide) ?_
                            refine lv_icmp_ne (tgt := 164) hx hb dX12_about_154 (by decide) (fun c_51 => ?_) (fun c_51 => ?_)
                            · refine lv_iload hx hb dX12_about_164 (lv_at hl 1 rfl) ?_
                              refine lv_if_eq (tgt := 176) hx hb dX12_about_166 (by decide) (fun c_52 => ?_) (fun c_52 => ?_)
                              · first | exact absurd c_52 (by decide) | exact absurd (by decide) c_52
                              · refine lv_iload hx hb dX12_about_169 (lv_at hl 0 rfl) ?_
                                refine lv_iconst (v := (nI (3))) hx hb dX12_about_171 (by decide) ?_
                                refine lv_idiv hx hb dX12_about_172 (by decide) ?_
                                refine rl_topn (pk_div (by omega) (by decide) (by decide)) ?_
                                refine lv_goto (tgt := 182) hx hb dX12_about_173 (by decide) ?_
                                exact rl_iret hC hW hr hlk (Nat.le_refl _) (Nat.le_refl _) ⟨_, rfl, rfl, rfl, by (simp only [f_about, ob, pu_ix_s hp0 (by decide), pu_ix_s hw0 (by decide), hh]); first | rfl | exact hfe.symm | (rw [hh] at hfe; exact hfe.symm), ⟨_, _, _, hR, hTc, hTp, hTk, hGW, hGr, hGd, hGp, hGt, hGc, hF11, hF14⟩⟩ dX12_about_182
                            · first | exact absurd c_51 (by decide) | exact absurd (by decide) c_51
                        · first | exact absurd c_49 (by decide) | exact absurd (by decide) c_49
                    · first | exact absurd c_47 (by decide) | exact absurd (by decide) c_47
                  · first | exact absurd c_46 (by decide) | exact absurd (by decide) c_46
            · have he := hGp.1 p0 hp0
              rw [hh] at he
              replace he : I 19 p0 = nI n0 := he
              rw [he] at hl
              refine lv_istore (lv' := [(4, .int (2)), (3, .int (nI (n0))), (0, .ref (m)), (1, .int (nI (p0))), (2, .int (nI (2)))]) hx hb dX12_about_33 hl (by decide) rfl (fun ls hl => ?_)
              refine lv_iload hx hb dX12_about_35 (lv_at hl 0 rfl) ?_
              refine lv_iconst (v := (nI (1))) hx hb dX12_about_37 (by decide) ?_
              refine lv_icmp_eq (tgt := 47) hx hb dX12_about_38 (by decide) (fun c_53 => ?_) (fun c_53 => ?_)
              · first | exact absurd c_53 (by decide) | exact absurd (by decide) c_53
              · refine lv_iload hx hb dX12_about_41 (lv_at hl 0 rfl) ?_
                refine lv_iconst (v := (nI (2))) hx hb dX12_about_43 (by decide) ?_
                refine lv_icmp_ne (tgt := 51) hx hb dX12_about_44 (by decide) (fun c_54 => ?_) (fun c_54 => ?_)
                · first | exact absurd c_54 (by decide) | exact absurd (by decide) c_54
                · refine lv_iconst (v := (nI (1))) hx hb dX12_about_47 (by decide) ?_
                  refine lv_goto (tgt := 52) hx hb dX12_about_48 (by decide) ?_
                  refine lv_istore (lv' := [(5, .int (nI (1))), (4, .int (2)), (3, .int (nI (n0))), (0, .ref (m)), (1, .int (nI (p0))), (2, .int (nI (2)))]) hx hb dX12_about_52 hl (by decide) rfl (fun ls hl => ?_)
                  refine lv_iload_n hx hb dX12_about_54 rfl (lv_at hl 5 rfl) ?_
                  refine lv_if_ne (tgt := 61) hx hb dX12_about_55 (by decide) (fun c_55 => ?_) (fun c_55 => ?_)
                  · refine lv_iload_n hx hb dX12_about_61 rfl (lv_at hl 5 rfl) ?_
                    refine lv_iconst (v := (nI (3))) hx hb dX12_about_62 (by decide) ?_
                    refine lv_icmp_ne (tgt := 115) hx hb dX12_about_63 (by decide) (fun c_56 => ?_) (fun c_56 => ?_)
                    · refine lv_iload hx hb dX12_about_115 (lv_at hl 1 rfl) ?_
                      refine lv_if_eq (tgt := 126) hx hb dX12_about_117 (by decide) (fun c_57 => ?_) (fun c_57 => ?_)
                      · first | exact absurd c_57 (by decide) | exact absurd (by decide) c_57
                      · refine lv_iload hx hb dX12_about_120 (lv_at hl 1 rfl) ?_
                        refine lv_iconst (v := (nI (3))) hx hb dX12_about_122 (by decide) ?_
                        refine lv_icmp_ne (tgt := 129) hx hb dX12_about_123 (by decide) (fun c_58 => ?_) (fun c_58 => ?_)
                        · refine lv_iload hx hb dX12_about_129 (lv_at hl 0 rfl) ?_
                          refine lv_if_eq (tgt := 141) hx hb dX12_about_131 (by decide) (fun c_59 => ?_) (fun c_59 => ?_)
                          · first | exact absurd c_59 (by decide) | exact absurd (by decide) c_59
                          · refine lv_iload_n hx hb dX12_about_134 rfl (lv_at hl 2 rfl) ?_
                            refine lv_bipush (v := (nI (10))) hx hb dX12_about_135 (by decide) ?_
                            refine lv_idiv hx hb dX12_about_137 (by decide) ?_
                            refine rl_topn (pk_div (by omega) (by decide) (by decide)) ?_
                            refine lv_goto (tgt := 150) hx hb dX12_about_138 (by decide) ?_
                            refine lv_istore (lv' := [(6, .int (nI ((n0) / 10))), (5, .int (nI (1))), (4, .int (2)), (3, .int (nI (n0))), (0, .ref (m)), (1, .int (nI (p0))), (2, .int (nI (2)))]) hx hb dX12_about_150 hl (by decide) rfl (fun ls hl => ?_)
                            refine lv_iload_n hx hb dX12_about_152 rfl (lv_at hl 6 rfl) ?_
                            refine lv_iconst (v := (nI (2))) hx hb dX12_about_153 (by decide) ?_
                            refine lv_icmp_ne (tgt := 164) hx hb dX12_about_154 (by decide) (fun c_60 => ?_) (fun c_60 => ?_)
                            · first | exact absurd c_60 (by decide) | exact absurd (by decide) c_60
                            · refine lv_iload hx hb dX12_about_157 (lv_at hl 0 rfl) ?_
                              refine lv_iconst (v := (nI (3))) hx hb dX12_about_159 (by decide) ?_
                              refine lv_irem hx hb dX12_about_160 (by decide) ?_
                              refine rl_topn (pk_rem (by omega) (by decide) (by decide)) ?_
                              refine lv_goto (tgt := 182) hx hb dX12_about_161 (by decide) ?_
                              exact rl_iret hC hW hr hlk (Nat.le_refl _) (Nat.le_refl _) ⟨_, rfl, rfl, rfl, by (simp only [f_about, ob, pu_ix_s hp0 (by decide), pu_ix_s hw0 (by decide), hh]); first | rfl | exact hfe.symm | (rw [hh] at hfe; exact hfe.symm), ⟨_, _, _, hR, hTc, hTp, hTk, hGW, hGr, hGd, hGp, hGt, hGc, hF11, hF14⟩⟩ dX12_about_182
                        · first | exact absurd c_58 (by decide) | exact absurd (by decide) c_58
                    · first | exact absurd c_56 (by decide) | exact absurd (by decide) c_56
                  · first | exact absurd c_55 (by decide) | exact absurd (by decide) c_55
            · have he := hGp.1 p0 hp0
              rw [hh] at he
              replace he : I 19 p0 = nI n0 := he
              rw [he] at hl
              refine lv_istore (lv' := [(4, .int (2)), (3, .int (nI (n0))), (0, .ref (m)), (1, .int (nI (p0))), (2, .int (nI (3)))]) hx hb dX12_about_33 hl (by decide) rfl (fun ls hl => ?_)
              refine lv_iload hx hb dX12_about_35 (lv_at hl 0 rfl) ?_
              refine lv_iconst (v := (nI (1))) hx hb dX12_about_37 (by decide) ?_
              refine lv_icmp_eq (tgt := 47) hx hb dX12_about_38 (by decide) (fun c_61 => ?_) (fun c_61 => ?_)
              · first | exact absurd c_61 (by decide) | exact absurd (by decide) c_61
              · refine lv_iload hx hb dX12_about_41 (lv_at hl 0 rfl) ?_
                refine lv_iconst (v := (nI (2))) hx hb dX12_about_43 (by decide) ?_
                refine lv_icmp_ne (tgt := 51) hx hb dX12_about_44 (by decide) (fun c_62 => ?_) (fun c_62 => ?_)
                · first | exact absurd c_62 (by decide) | exact absurd (by decide) c_62
                · refine lv_iconst (v := (nI (1))) hx hb dX12_about_47 (by decide) ?_
                  refine lv_goto (tgt := 52) hx hb dX12_about_48 (by decide) ?_
                  refine lv_istore (lv' := [(5, .int (nI (1))), (4, .int (2)), (3, .int (nI (n0))), (0, .ref (m)), (1, .int (nI (p0))), (2, .int (nI (3)))]) hx hb dX12_about_52 hl (by decide) rfl (fun ls hl => ?_)
                  refine lv_iload_n hx hb dX12_about_54 rfl (lv_at hl 5 rfl) ?_
                  refine lv_if_ne (tgt := 61) hx hb dX12_about_55 (by decide) (fun c_63 => ?_) (fun c_63 => ?_)
                  · refine lv_iload_n hx hb dX12_about_61 rfl (lv_at hl 5 rfl) ?_
                    refine lv_iconst (v := (nI (3))) hx hb dX12_about_62 (by decide) ?_
                    refine lv_icmp_ne (tgt := 115) hx hb dX12_about_63 (by decide) (fun c_64 => ?_) (fun c_64 => ?_)
                    · first | exact absurd c_64 (by decide) | exact absurd (by decide) c_64
                    · refine lv_iload hx hb dX12_about_66 (lv_at hl 1 rfl) ?_
                      refine lv_if_ne (tgt := 75) hx hb dX12_about_68 (by decide) (fun c_65 => ?_) (fun c_65 => ?_)
                      · refine lv_iload hx hb dX12_about_75 (lv_at hl 0 rfl) ?_
                        refine lv_if_eq (tgt := 87) hx hb dX12_about_77 (by decide) (fun c_66 => ?_) (fun c_66 => ?_)
                        · first | exact absurd c_66 (by decide) | exact absurd (by decide) c_66
                        · refine lv_iload_n hx hb dX12_about_80 rfl (lv_at hl 2 rfl) ?_
                          refine lv_bipush (v := (nI (10))) hx hb dX12_about_81 (by decide) ?_
                          refine lv_irem hx hb dX12_about_83 (by decide) ?_
                          refine rl_topn (pk_rem (by omega) (by decide) (by decide)) ?_
                          refine lv_goto (tgt := 114) hx hb dX12_about_84 (by decide) ?_
                          exact rl_iret hC hW hr hlk (Nat.le_refl _) (Nat.le_refl _) ⟨_, rfl, rfl, rfl, by (simp only [f_about, ob, pu_ix_s hp0 (by decide), pu_ix_s hw0 (by decide), hh]); first | rfl | exact hfe.symm | (rw [hh] at hfe; exact hfe.symm), ⟨_, _, _, hR, hTc, hTp, hTk, hGW, hGr, hGd, hGp, hGt, hGc, hF11, hF14⟩⟩ dX12_about_114
                      · first | exact absurd c_65 (by decide) | exact absurd (by decide) c_65
                  · first | exact absurd c_63 (by decide) | exact absurd (by decide) c_63
          · have hwc : w0 = 0 ∨ w0 = 1 ∨ w0 = 2 ∨ w0 = 3 := by omega
            rcases hwc with rfl | rfl | rfl | rfl
            · have he := hGp.1 p0 hp0
              rw [hh] at he
              replace he : I 19 p0 = nI (100 + n0) := he
              rw [he] at hl
              refine lv_istore (lv' := [(4, .int (3)), (3, .int (nI (100 + n0))), (0, .ref (m)), (1, .int (nI (p0))), (2, .int (nI (0)))]) hx hb dX12_about_33 hl (by decide) rfl (fun ls hl => ?_)
              refine lv_iload hx hb dX12_about_35 (lv_at hl 0 rfl) ?_
              refine lv_iconst (v := (nI (1))) hx hb dX12_about_37 (by decide) ?_
              refine lv_icmp_eq (tgt := 47) hx hb dX12_about_38 (by decide) (fun c_67 => ?_) (fun c_67 => ?_)
              · first | exact absurd c_67 (by decide) | exact absurd (by decide) c_67
              · refine lv_iload hx hb dX12_about_41 (lv_at hl 0 rfl) ?_
                refine lv_iconst (v := (nI (2))) hx hb dX12_about_43 (by decide) ?_
                refine lv_icmp_ne (tgt := 51) hx hb dX12_about_44 (by decide) (fun c_68 => ?_) (fun c_68 => ?_)
                · refine lv_iconst (v := (nI (0))) hx hb dX12_about_51 (by decide) ?_
                  refine lv_istore (lv' := [(5, .int (nI (0))), (4, .int (3)), (3, .int (nI (100 + n0))), (0, .ref (m)), (1, .int (nI (p0))), (2, .int (nI (0)))]) hx hb dX12_about_52 hl (by decide) rfl (fun ls hl => ?_)
                  refine lv_iload_n hx hb dX12_about_54 rfl (lv_at hl 5 rfl) ?_
                  refine lv_if_ne (tgt := 61) hx hb dX12_about_55 (by decide) (fun c_69 => ?_) (fun c_69 => ?_)
                  · first | exact absurd c_69 (by decide) | exact absurd (by decide) c_69
                  · refine lv_iload hx hb dX12_about_58 (lv_at hl 1 rfl) ?_
                    exact rl_iret hC hW hr hlk (Nat.le_refl _) (Nat.le_refl _) ⟨_, rfl, rfl, rfl, by (simp only [f_about, ob, pu_ix_s hp0 (by decide), pu_ix_s hw0 (by decide), hh]); first | rfl | exact hfe.symm | (rw [hh] at hfe; exact hfe.symm), ⟨_, _, _, hR, hTc, hTp, hTk, hGW, hGr, hGd, hGp, hGt, hGc, hF11, hF14⟩⟩ dX12_about_60
                · first | exact absurd c_68 (by decide) | exact absurd (by decide) c_68
            · have he := hGp.1 p0 hp0
              rw [hh] at he
              replace he : I 19 p0 = nI (100 + n0) := he
              rw [he] at hl
              refine lv_istore (lv' := [(4, .int (3)), (3, .int (nI (100 + n0))), (0, .ref (m)), (1, .int (nI (p0))), (2, .int (nI (1)))]) hx hb dX12_about_33 hl (by decide) rfl (fun ls hl => ?_)
              refine lv_iload hx hb dX12_about_35 (lv_at hl 0 rfl) ?_
              refine lv_iconst (v := (nI (1))) hx hb dX12_about_37 (by decide) ?_
              refine lv_icmp_eq (tgt := 47) hx hb dX12_about_38 (by decide) (fun c_70 => ?_) (fun c_70 => ?_)
              · first | exact absurd c_70 (by decide) | exact absurd (by decide) c_70
              · refine lv_iload hx hb dX12_about_41 (lv_at hl 0 rfl) ?_
                refine lv_iconst (v := (nI (2))) hx hb dX12_about_43 (by decide) ?_
                refine lv_icmp_ne (tgt := 51) hx hb dX12_about_44 (by decide) (fun c_71 => ?_) (fun c_71 => ?_)
                · refine lv_iconst (v := (nI (0))) hx hb dX12_about_51 (by decide) ?_
                  refine lv_istore (lv' := [(5, .int (nI (0))), (4, .int (3)), (3, .int (nI (100 + n0))), (0, .ref (m)), (1, .int (nI (p0))), (2, .int (nI (1)))]) hx hb dX12_about_52 hl (by decide) rfl (fun ls hl => ?_)
                  refine lv_iload_n hx hb dX12_about_54 rfl (lv_at hl 5 rfl) ?_
                  refine lv_if_ne (tgt := 61) hx hb dX12_about_55 (by decide) (fun c_72 => ?_) (fun c_72 => ?_)
                  · refine lv_iload_n hx hb dX12_about_61 rfl (lv_at hl 5 rfl) ?_
                    refine lv_iconst (v := (nI (3))) hx hb dX12_about_62 (by decide) ?_
                    refine lv_icmp_ne (tgt := 115) hx hb dX12_about_63 (by decide) (fun c_73 => ?_) (fun c_73 => ?_)
                    · refine lv_iload hx hb dX12_about_115 (lv_at hl 1 rfl) ?_
                      refine lv_if_eq (tgt := 126) hx hb dX12_about_117 (by decide) (fun c_74 => ?_) (fun c_74 => ?_)
                      · first | exact absurd c_74 (by decide) | exact absurd (by decide) c_74
                      · refine lv_iload hx hb dX12_about_120 (lv_at hl 1 rfl) ?_
                        refine lv_iconst (v := (nI (3))) hx hb dX12_about_122 (by decide) ?_
                        refine lv_icmp_ne (tgt := 129) hx hb dX12_about_123 (by decide) (fun c_75 => ?_) (fun c_75 => ?_)
                        · first | exact absurd c_75 (by decide) | exact absurd (by decide) c_75
                        · refine lv_bipush (v := (-3)) hx hb dX12_about_126 (by decide) ?_
                          exact rl_iret hC hW hr hlk (Nat.le_refl _) (Nat.le_refl _) ⟨_, rfl, rfl, rfl, by (simp only [f_about, ob, pu_ix_s hp0 (by decide), pu_ix_s hw0 (by decide), hh]); first | rfl | exact hfe.symm | (rw [hh] at hfe; exact hfe.symm), ⟨_, _, _, hR, hTc, hTp, hTk, hGW, hGr, hGd, hGp, hGt, hGc, hF11, hF14⟩⟩ dX12_about_128
                    · first | exact absurd c_73 (by decide) | exact absurd (by decide) c_73
                  · first | exact absurd c_72 (by decide) | exact absurd (by decide) c_72
                · first | exact absurd c_71 (by decide) | exact absurd (by decide) c_71
            · have he := hGp.1 p0 hp0
              rw [hh] at he
              replace he : I 19 p0 = nI (100 + n0) := he
              rw [he] at hl
              refine lv_istore (lv' := [(4, .int (3)), (3, .int (nI (100 + n0))), (0, .ref (m)), (1, .int (nI (p0))), (2, .int (nI (2)))]) hx hb dX12_about_33 hl (by decide) rfl (fun ls hl => ?_)
              refine lv_iload hx hb dX12_about_35 (lv_at hl 0 rfl) ?_
              refine lv_iconst (v := (nI (1))) hx hb dX12_about_37 (by decide) ?_
              refine lv_icmp_eq (tgt := 47) hx hb dX12_about_38 (by decide) (fun c_76 => ?_) (fun c_76 => ?_)
              · first | exact absurd c_76 (by decide) | exact absurd (by decide) c_76
              · refine lv_iload hx hb dX12_about_41 (lv_at hl 0 rfl) ?_
                refine lv_iconst (v := (nI (2))) hx hb dX12_about_43 (by decide) ?_
                refine lv_icmp_ne (tgt := 51) hx hb dX12_about_44 (by decide) (fun c_77 => ?_) (fun c_77 => ?_)
                · refine lv_iconst (v := (nI (0))) hx hb dX12_about_51 (by decide) ?_
                  refine lv_istore (lv' := [(5, .int (nI (0))), (4, .int (3)), (3, .int (nI (100 + n0))), (0, .ref (m)), (1, .int (nI (p0))), (2, .int (nI (2)))]) hx hb dX12_about_52 hl (by decide) rfl (fun ls hl => ?_)
                  refine lv_iload_n hx hb dX12_about_54 rfl (lv_at hl 5 rfl) ?_
                  refine lv_if_ne (tgt := 61) hx hb dX12_about_55 (by decide) (fun c_78 => ?_) (fun c_78 => ?_)
                  · refine lv_iload_n hx hb dX12_about_61 rfl (lv_at hl 5 rfl) ?_
                    refine lv_iconst (v := (nI (3))) hx hb dX12_about_62 (by decide) ?_
                    refine lv_icmp_ne (tgt := 115) hx hb dX12_about_63 (by decide) (fun c_79 => ?_) (fun c_79 => ?_)
                    · refine lv_iload hx hb dX12_about_115 (lv_at hl 1 rfl) ?_
                      refine lv_if_eq (tgt := 126) hx hb dX12_about_117 (by decide) (fun c_80 => ?_) (fun c_80 => ?_)
                      · first | exact absurd c_80 (by decide) | exact absurd (by decide) c_80
                      · refine lv_iload hx hb dX12_about_120 (lv_at hl 1 rfl) ?_
                        refine lv_iconst (v := (nI (3))) hx hb dX12_about_122 (by decide) ?_
                        refine lv_icmp_ne (tgt := 129) hx hb dX12_about_123 (by decide) (fun c_81 => ?_) (fun c_81 => ?_)
                        · first | exact absurd c_81 (by decide) | exact absurd (by decide) c_81
                        · refine lv_bipush (v := (-3)) hx hb dX12_about_126 (by decide) ?_
                          exact rl_iret hC hW hr hlk (Nat.le_refl _) (Nat.le_refl _) ⟨_, rfl, rfl, rfl, by (simp only [f_about, ob, pu_ix_s hp0 (by decide), pu_ix_s hw0 (by decide), hh]); first | rfl | exact hfe.symm | (rw [hh] at hfe; exact hfe.symm), ⟨_, _, _, hR, hTc, hTp, hTk, hGW, hGr, hGd, hGp, hGt, hGc, hF11, hF14⟩⟩ dX12_about_128
                    · first | exact absurd c_79 (by decide) | exact absurd (by decide) c_79
                  · first | exact absurd c_78 (by decide) | exact absurd (by decide) c_78
                · first | exact absurd c_77 (by decide) | exact absurd (by decide) c_77
            · have he := hGp.1 p0 hp0
              rw [hh] at he
              replace he : I 19 p0 = nI (100 + n0) := he
              rw [he] at hl
              refine lv_istore (lv' := [(4, .int (3)), (3, .int (nI (100 + n0))), (0, .ref (m)), (1, .int (nI (p0))), (2, .int (nI (3)))]) hx hb dX12_about_33 hl (by decide) rfl (fun ls hl => ?_)
              refine lv_iload hx hb dX12_about_35 (lv_at hl 0 rfl) ?_
              refine lv_iconst (v := (nI (1))) hx hb dX12_about_37 (by decide) ?_
              refine lv_icmp_eq (tgt := 47) hx hb dX12_about_38 (by decide) (fun c_82 => ?_) (fun c_82 => ?_)
              · first | exact absurd c_82 (by decide) | exact absurd (by decide) c_82
              · refine lv_iload hx hb dX12_about_41 (lv_at hl 0 rfl) ?_
                refine lv_iconst (v := (nI (2))) hx hb dX12_about_43 (by decide) ?_
                refine lv_icmp_ne (tgt := 51) hx hb dX12_about_44 (by decide) (fun c_83 => ?_) (fun c_83 => ?_)
                · refine lv_iconst (v := (nI (0))) hx hb dX12_about_51 (by decide) ?_
                  refine lv_istore (lv' := [(5, .int (nI (0))), (4, .int (3)), (3, .int (nI (100 + n0))), (0, .ref (m)), (1, .int (nI (p0))), (2, .int (nI (3)))]) hx hb dX12_about_52 hl (by decide) rfl (fun ls hl => ?_)
                  refine lv_iload_n hx hb dX12_about_54 rfl (lv_at hl 5 rfl) ?_
                  refine lv_if_ne (tgt := 61) hx hb dX12_about_55 (by decide) (fun c_84 => ?_) (fun c_84 => ?_)
                  · refine lv_iload_n hx hb dX12_about_61 rfl (lv_at hl 5 rfl) ?_
                    refine lv_iconst (v := (nI (3))) hx hb dX12_about_62 (by decide) ?_
                    refine lv_icmp_ne (tgt := 115) hx hb dX12_about_63 (by decide) (fun c_85 => ?_) (fun c_85 => ?_)
                    · first | exact absurd c_85 (by decide) | exact absurd (by decide) c_85
                    · refine lv_iload hx hb dX12_about_66 (lv_at hl 1 rfl) ?_
                      refine lv_if_ne (tgt := 75) hx hb dX12_about_68 (by decide) (fun c_86 => ?_) (fun c_86 => ?_)
                      · refine lv_iload hx hb dX12_about_75 (lv_at hl 0 rfl) ?_
                        refine lv_if_eq (tgt := 87) hx hb dX12_about_77 (by decide) (fun c_87 => ?_) (fun c_87 => ?_)
                        · refine lv_iload hx hb dX12_about_87 (lv_at hl 1 rfl) ?_
                          refine lv_iconst (v := (nI (3))) hx hb dX12_about_89 (by decide) ?_
                          refine lv_icmp_ne (tgt := 105) hx hb dX12_about_90 (by decide) (fun c_88 => ?_) (fun c_88 => ?_)
                          · first | exact absurd c_88 (by decide) | exact absurd (by decide) c_88
                          · refine lv_aload_n hx hb dX12_about_93 rfl (lv_at hl 3 rfl) ?_
                            refine rl_get (v := .ref (m + 12)) hC hW fl_X12_45 hR.1 rfl dX12_about_94 ?_
                            refine lv_iload_n hx hb dX12_about_97 rfl (lv_at hl 2 rfl) ?_
                            refine lv_bipush (v := (nI (100))) hx hb dX12_about_98 (by decide) ?_
                            refine lv_isub hx hb dX12_about_100 ?_
                            refine rl_topn (rg_sub (c := n0) (by omega)) ?_
                            refine rl_iald_n (g := I 12) hC hW hR.a12 (by omega) (by decide) dX12_about_101 ?_
                            refine rl_topn (hGr.1 n0 hn0) ?_
                            refine lv_goto (tgt := 114) hx hb dX12_about_102 (by decide) ?_
                            exact rl_iret hC hW hr hlk (Nat.le_refl _) (Nat.le_refl _) ⟨_, rfl, rfl, rfl, by (simp only [f_about, ob, pu_ix_s hp0 (by decide), pu_ix_s hw0 (by decide), hh]); first | rfl | exact hfe.symm | (rw [hh] at hfe; exact hfe.symm), ⟨_, _, _, hR, hTc, hTp, hTk, hGW, hGr, hGd, hGp, hGt, hGc, hF11, hF14⟩⟩ dX12_about_114
                        · first | exact absurd c_87 (by decide) | exact absurd (by decide) c_87
                      · first | exact absurd c_86 (by decide) | exact absurd (by decide) c_86
                  · first | exact absurd c_84 (by decide) | exact absurd (by decide) c_84
                · first | exact absurd c_83 (by decide) | exact absurd (by decide) c_83
          · have hwc : w0 = 0 ∨ w0 = 1 ∨ w0 = 2 ∨ w0 = 3 := by omega
            rcases hwc with rfl | rfl | rfl | rfl
            · have he := hGp.1 p0 hp0
              rw [hh] at he
              replace he : I 19 p0 = nI (1000000 + n0) := he
              rw [he] at hl
              obtain ⟨h15, h16, -⟩ := hGd n0 hn0
              obtain ⟨hsh, hpn, -⟩ := hGW.2.1 n0 hn0
              refine lv_istore (lv' := [(4, .int (4)), (3, .int (nI (1000000 + n0))), (0, .ref (m)), (1, .int (nI (p0))), (2, .int (nI (0)))]) hx hb dX12_about_33 hl (by decide) rfl (fun ls hl => ?_)
              refine lv_iload hx hb dX12_about_35 (lv_at hl 0 rfl) ?_
              refine lv_iconst (v := (nI (1))) hx hb dX12_about_37 (by decide) ?_
              refine lv_icmp_eq (tgt := 47) hx hb dX12_about_38 (by decide) (fun c_89 => ?_) (fun c_89 => ?_)
              · first | exact absurd c_89 (by decide) | exact absurd (by decide) c_89
              · refine lv_iload hx hb dX12_about_41 (lv_at hl 0 rfl) ?_
                refine lv_iconst (v := (nI (2))) hx hb dX12_about_43 (by decide) ?_
                refine lv_icmp_ne (tgt := 51) hx hb dX12_about_44 (by decide) (fun c_90 => ?_) (fun c_90 => ?_)
                · refine lv_iconst (v := (nI (0))) hx hb dX12_about_51 (by decide) ?_
                  refine lv_istore (lv' := [(5, .int (nI (0))), (4, .int (4)), (3, .int (nI (1000000 + n0))), (0, .ref (m)), (1, .int (nI (p0))), (2, .int (nI (0)))]) hx hb dX12_about_52 hl (by decide) rfl (fun ls hl => ?_)
                  refine lv_iload_n hx hb dX12_about_54 rfl (lv_at hl 5 rfl) ?_
                  refine lv_if_ne (tgt := 61) hx hb dX12_about_55 (by decide) (fun c_91 => ?_) (fun c_91 => ?_)
                  · first | exact absurd c_91 (by decide) | exact absurd (by decide) c_91
                  · refine lv_iload hx hb dX12_about_58 (lv_at hl 1 rfl) ?_
                    exact rl_iret hC hW hr hlk (Nat.le_refl _) (Nat.le_refl _) ⟨_, rfl, rfl, rfl, by (simp only [f_about, ob, pu_ix_s hp0 (by decide), pu_ix_s hw0 (by decide), hh]); first | rfl | exact hfe.symm | (rw [hh] at hfe; exact hfe.symm), ⟨_, _, _, hR, hTc, hTp, hTk, hGW, hGr, hGd, hGp, hGt, hGc, hF11, hF14⟩⟩ dX12_about_60
                · first | exact absurd c_90 (by decide) | exact absurd (by decide) c_90
            · have he := hGp.1 p0 hp0
              rw [hh] at he
              replace he : I 19 p0 = nI (1000000 + n0) := he
              rw [he] at hl
              obtain ⟨h15, h16, -⟩ := hGd n0 hn0
              obtain ⟨hsh, hpn, -⟩ := hGW.2.1 n0 hn0
              refine lv_istore (lv' := [(4, .int (4)), (3, .int (nI (1000000 + n0))), (0, .ref (m)), (1, .int (nI (p0))), (2, .int (nI (1)))]) hx hb dX12_about_33 hl (by decide) rfl (fun ls hl => ?_)
              refine lv_iload hx hb dX12_about_35 (lv_at hl 0 rfl) ?_
              refine lv_iconst (v := (nI (1))) hx hb dX12_about_37 (by decide) ?_
              refine lv_icmp_eq (tgt := 47) hx hb dX12_about_38 (by decide) (fun c_92 => ?_) (fun c_92 => ?_)
              · first | exact absurd c_92 (by decide) | exact absurd (by decide) c_92
              · refine lv_iload hx hb dX12_about_41 (lv_at hl 0 rfl) ?_
                refine lv_iconst (v := (nI (2))) hx hb dX12_about_43 (by decide) ?_
                refine lv_icmp_ne (tgt := 51) hx hb dX12_about_44 (by decide) (fun c_93 => ?_) (fun c_93 => ?_)
                · refine lv_iconst (v := (nI (0))) hx hb dX12_about_51 (by decide) ?_
                  refine lv_istore (lv' := [(5, .int (nI (0))), (4, .int (4)), (3, .int (nI (1000000 + n0))), (0, .ref (m)), (1, .int (nI (p0))), (2, .int (nI (1)))]) hx hb dX12_about_52 hl (by decide) rfl (fun ls hl => ?_)
                  refine lv_iload_n hx hb dX12_about_54 rfl (lv_at hl 5 rfl) ?_
                  refine lv_if_ne (tgt := 61) hx hb dX12_about_55 (by decide) (fun c_94 => ?_) (fun c_94 => ?_)
                  · refine lv_iload_n hx hb dX12_about_61 rfl (lv_at hl 5 rfl) ?_
                    refine lv_iconst (v := (nI (3))) hx hb dX12_about_62 (by decide) ?_
                    refine lv_icmp_ne (tgt := 115) hx hb dX12_about_63 (by decide) (fun c_95 => ?_) (fun c_95 => ?_)
                    · refine lv_iload hx hb dX12_about_115 (lv_at hl 1 rfl) ?_
                      refine lv_if_eq (tgt := 126) hx hb dX12_about_117 (by decide) (fun c_96 => ?_) (fun c_96 => ?_)
                      · first | exact absurd c_96 (by decide) | exact absurd (by decide) c_96
                      · refine lv_iload hx hb dX12_about_120 (lv_at hl 1 rfl) ?_
                        refine lv_iconst (v := (nI (3))) hx hb dX12_about_122 (by decide) ?_
                        refine lv_icmp_ne (tgt := 129) hx hb dX12_about_123 (by decide) (fun c_97 => ?_) (fun c_97 => ?_)
                        · refine lv_iload hx hb dX12_about_129 (lv_at hl 0 rfl) ?_
                          refine lv_if_eq (tgt := 141) hx hb dX12_about_131 (by decide) (fun c_98 => ?_) (fun c_98 => ?_)
                          · refine lv_aload_n hx hb dX12_about_141 rfl (lv_at hl 3 rfl) ?_
                            refine rl_get (v := .ref (m + 14)) hC hW fl_X12_52 hR.1 rfl dX12_about_142 ?_
                            refine lv_iload_n hx hb dX12_about_145 rfl (lv_at hl 2 rfl) ?_
                            refine lv_ldc (v := nI 1000000) hx hb hC.2.2.2.1 (hC.2.2.2.2.1 _ (List.mem_cons_of_mem _ mw_859)) dX12_about_146 ?_
                            refine lv_isub hx hb dX12_about_148 ?_
                            refine rl_topn (rg_sub (c := n0) (by omega)) ?_
                            refine rl_iald_n (g := I 15) hC hW hR.a15 (by omega) (by decide) dX12_about_149 ?_
                            refine rl_topn (h15) ?_
                            refine lv_istore (lv' := [(6, .int (nI (G.1 1 n0))), (5, .int (nI (0))), (4, .int (4)), (3, .int (nI (1000000 + n0))), (0, .ref (m)), (1, .int (nI (p0))), (2, .int (nI (1)))]) hx hb dX12_about_150 hl (by decide) rfl (fun ls hl => ?_)
                            refine lv_iload_n hx hb dX12_about_152 rfl (lv_at hl 6 rfl) ?_
                            refine lv_iconst (v := (nI (2))) hx hb dX12_about_153 (by decide) ?_
                            refine lv_icmp_ne (tgt := 164) hx hb dX12_about_154 (by decide) (fun c_99 => ?_) (fun c_99 => ?_)
                            · refine lv_iload hx hb dX12_about_164 (lv_at hl 1 rfl) ?_
                              refine lv_if_eq (tgt := 176) hx hb dX12_about_166 (by decide) (fun c_100 => ?_) (fun c_100 => ?_)
                              · refine lv_iconst (v := (nI (2))) hx hb dX12_about_176 (by decide) ?_
                                refine lv_iload hx hb dX12_about_177 (lv_at hl 0 rfl) ?_
                                refine lv_iconst (v := (nI (3))) hx hb dX12_about_179 (by decide) ?_
                                refine lv_idiv hx hb dX12_about_180 (by decide) ?_
                                refine rl_topn (pk_div (by omega) (by decide) (by decide)) ?_
                                refine lv_iadd hx hb dX12_about_181 ?_
                                refine rl_topn (nI_add _ _) ?_
                                exact rl_iret hC hW hr hlk (Nat.le_refl _) (Nat.le_refl _) ⟨_, rfl, rfl, rfl, by (simp only [f_about, ob, pu_ix_s hp0 (by decide), pu_ix_s hw0 (by decide), hh]); first | rfl | exact hfe.symm | (rw [hh] at hfe; exact hfe.symm), ⟨_, _, _, hR, hTc, hTp, hTk, hGW, hGr, hGd, hGp, hGt, hGc, hF11, hF14⟩⟩ dX12_about_182
                              · first | exact absurd c_100 (by decide) | exact absurd (by decide) c_100
                            · first | exact absurd c_99 (by decide) | exact absurd (by decide) c_99
                          · first | exact absurd c_98 (by decide) | exact absurd (by decide) c_98
                        · first | exact absurd c_97 (by decide) | exact absurd (by decide) c_97
                    · first | exact absurd c_95 (by decide) | exact absurd (by decide) c_95
                  · first | exact absurd c_94 (by decide) | exact absurd (by decide) c_94
                · first | exact absurd c_93 (by decide) | exact absurd (by decide) c_93
            · have he := hGp.1 p0 hp0
              rw [hh] at he
              replace he : I 19 p0 = nI (1000000 + n0) := he
              rw [he] at hl
              obtain ⟨h15, h16, -⟩ := hGd n0 hn0
              obtain ⟨hsh, hpn, -⟩ := hGW.2.1 n0 hn0
              refine lv_istore (lv' := [(4, .int (4)), (3, .int (nI (1000000 + n0))), (0, .ref (m)), (1, .int (nI (p0))), (2, .int (nI (2)))]) hx hb dX12_about_33 hl (by decide) rfl (fun ls hl => ?_)
              refine lv_iload hx hb dX12_about_35 (lv_at hl 0 rfl) ?_
              refine lv_iconst (v := (nI (1))) hx hb dX12_about_37 (by decide) ?_
              refine lv_icmp_eq (tgt := 47) hx hb dX12_about_38 (by decide) (fun c_101 => ?_) (fun c_101 => ?_)
              · first | exact absurd c_101 (by decide) | exact absurd (by decide) c_101
              · refine lv_iload hx hb dX12_about_41 (lv_at hl 0 rfl) ?_
                refine lv_iconst (v := (nI (2))) hx hb dX12_about_43 (by decide) ?_
                refine lv_icmp_ne (tgt := 51) hx hb dX12_about_44 (by decide) (fun c_102 => ?_) (fun c_102 => ?_)
                · refine lv_iconst (v := (nI (0))) hx hb dX12_about_51 (by decide) ?_
                  refine lv_istore (lv' := [(5, .int (nI (0))), (4, .int (4)), (3, .int (nI (1000000 + n0))), (0, .ref (m)), (1, .int (nI (p0))), (2, .int (nI (2)))]) hx hb dX12_about_52 hl (by decide) rfl (fun ls hl => ?_)
                  refine lv_iload_n hx hb dX12_about_54 rfl (lv_at hl 5 rfl) ?_
                  refine lv_if_ne (tgt := 61) hx hb dX12_about_55 (by decide) (fun c_103 => ?_) (fun c_103 => ?_)
                  · refine lv_iload_n hx hb dX12_about_61 rfl (lv_at hl 5 rfl) ?_
                    refine lv_iconst (v := (nI (3))) hx hb dX12_about_62 (by decide) ?_
                    refine lv_icmp_ne (tgt := 115) hx hb dX12_about_63 (by decide) (fun c_104 => ?_) (fun c_104 => ?_)
                    · refine lv_iload hx hb dX12_about_115 (lv_at hl 1 rfl) ?_
                      refine lv_if_eq (tgt := 126) hx hb dX12_about_117 (by decide) (fun c_105 => ?_) (fun c_105 => ?_)
                      · first | exact absurd c_105 (by decide) | exact absurd (by decide) c_105
                      · refine lv_iload hx hb dX12_about_120 (lv_at hl 1 rfl) ?_
                        refine lv_iconst (v := (nI (3))) hx hb dX12_about_122 (by decide) ?_
                        refine lv_icmp_ne (tgt := 129) hx hb dX12_about_123 (by decide) (fun c_106 => ?_) (fun c_106 => ?_)
                        · refine lv_iload hx hb dX12_about_129 (lv_at hl 0 rfl) ?_
                          refine lv_if_eq (tgt := 141) hx hb dX12_about_131 (by decide) (fun c_107 => ?_) (fun c_107 => ?_)
                          · refine lv_aload_n hx hb dX12_about_141 rfl (lv_at hl 3 rfl) ?_
                            refine rl_get (v := .ref (m + 14)) hC hW fl_X12_52 hR.1 rfl dX12_about_142 ?_
                            refine lv_iload_n hx hb dX12_about_145 rfl (lv_at hl 2 rfl) ?_
                            refine lv_ldc (v := nI 1000000) hx hb hC.2.2.2.1 (hC.2.2.2.2.1 _ (List.mem_cons_of_mem _ mw_859)) dX12_about_146 ?_
                            refine lv_isub hx hb dX12_about_148 ?_
                            refine rl_topn (rg_sub (c := n0) (by omega)) ?_
                            refine rl_iald_n (g := I 15) hC hW hR.a15 (by omega) (by decide) dX12_about_149 ?_
                            refine rl_topn (h15) ?_
                            refine lv_istore (lv' := [(6, .int (nI (G.1 1 n0))), (5, .int (nI (0))), (4, .int (4)), (3, .int (nI (1000000 + n0))), (0, .ref (m)), (1, .int (nI (p0))), (2, .int (nI (2)))]) hx hb dX12_about_150 hl (by decide) rfl (fun ls hl => ?_)
                            refine lv_iload_n hx hb dX12_about_152 rfl (lv_at hl 6 rfl) ?_
                            refine lv_iconst (v := (nI (2))) hx hb dX12_about_153 (by decide) ?_
                            refine lv_icmp_ne (tgt := 164) hx hb dX12_about_154 (by decide) (fun c_108 => ?_) (fun c_108 => ?_)
                            · first | exact absurd c_108 (by decide) | exact absurd (by decide) c_108
                            · refine lv_iload hx hb dX12_about_157 (lv_at hl 0 rfl) ?_
                              refine lv_iconst (v := (nI (3))) hx hb dX12_about_159 (by decide) ?_
                              refine lv_irem hx hb dX12_about_160 (by decide) ?_
                              refine rl_topn (pk_rem (by omega) (by decide) (by decide)) ?_
                              refine lv_goto (tgt := 182) hx hb dX12_about_161 (by decide) ?_
                              exact rl_iret hC hW hr hlk (Nat.le_refl _) (Nat.le_refl _) ⟨_, rfl, rfl, rfl, by (simp only [f_about, ob, pu_ix_s hp0 (by decide), pu_ix_s hw0 (by decide), hh]); first | rfl | exact hfe.symm | (rw [hh] at hfe; exact hfe.symm), ⟨_, _, _, hR, hTc, hTp, hTk, hGW, hGr, hGd, hGp, hGt, hGc, hF11, hF14⟩⟩ dX12_about_182
                          · first | exact absurd c_107 (by decide) | exact absurd (by decide) c_107
                        · first | exact absurd c_106 (by decide) | exact absurd (by decide) c_106
                    · first | exact absurd c_104 (by decide) | exact absurd (by decide) c_104
                  · first | exact absurd c_103 (by decide) | exact absurd (by decide) c_103
                · first | exact absurd c_102 (by decide) | exact absurd (by decide) c_102
            · have he := hGp.1 p0 hp0
              rw [hh] at he
              replace he : I 19 p0 = nI (1000000 + n0) := he
              rw [he] at hl
              obtain ⟨h15, h16, -⟩ := hGd n0 hn0
              obtain ⟨hsh, hpn, -⟩ := hGW.2.1 n0 hn0
              refine lv_istore (lv' := [(4, .int (4)), (3, .int (nI (1000000 + n0))), (0, .ref (m)), (1, .int (nI (p0))), (2, .int (nI (3)))]) hx hb dX12_about_33 hl (by decide) rfl (fun ls hl => ?_)
              refine lv_iload hx hb dX12_about_35 (lv_at hl 0 rfl) ?_
              refine lv_iconst (v := (nI (1))) hx hb dX12_about_37 (by decide) ?_
              refine lv_icmp_eq (tgt := 47) hx hb dX12_about_38 (by decide) (fun c_109 => ?_) (fun c_109 => ?_)
              · first | exact absurd c_109 (by decide) | exact absurd (by decide) c_109
              · refine lv_iload hx hb dX12_about_41 (lv_at hl 0 rfl) ?_
                refine lv_iconst (v := (nI (2))) hx hb dX12_about_43 (by decide) ?_
                refine lv_icmp_ne (tgt := 51) hx hb dX12_about_44 (by decide) (fun c_110 => ?_) (fun c_110 => ?_)
                · refine lv_iconst (v := (nI (0))) hx hb dX12_about_51 (by decide) ?_
                  refine lv_istore (lv' := [(5, .int (nI (0))), (4, .int (4)), (3, .int (nI (1000000 + n0))), (0, .ref (m)), (1, .int (nI (p0))), (2, .int (nI (3)))]) hx hb dX12_about_52 hl (by decide) rfl (fun ls hl => ?_)
                  refine lv_iload_n hx hb dX12_about_54 rfl (lv_at hl 5 rfl) ?_
                  refine lv_if_ne (tgt := 61) hx hb dX12_about_55 (by decide) (fun c_111 => ?_) (fun c_111 => ?_)
                  · refine lv_iload_n hx hb dX12_about_61 rfl (lv_at hl 5 rfl) ?_
                    refine lv_iconst (v := (nI (3))) hx hb dX12_about_62 (by decide) ?_
                    refine lv_icmp_ne (tgt := 115) hx hb dX12_about_63 (by decide) (fun c_112 => ?_) (fun c_112 => ?_)
                    · first | exact absurd c_112 (by decide) | exact absurd (by decide) c_112
                    · refine lv_iload hx hb dX12_about_66 (lv_at hl 1 rfl) ?_
                      refine lv_if_ne (tgt := 75) hx hb dX12_about_68 (by decide) (fun c_113 => ?_) (fun c_113 => ?_)
                      · refine lv_iload hx hb dX12_about_75 (lv_at hl 0 rfl) ?_
                        refine lv_if_eq (tgt := 87) hx hb dX12_about_77 (by decide) (fun c_114 => ?_) (fun c_114 => ?_)
                        · refine lv_iload hx hb dX12_about_87 (lv_at hl 1 rfl) ?_
                          refine lv_iconst (v := (nI (3))) hx hb dX12_about_89 (by decide) ?_
                          refine lv_icmp_ne (tgt := 105) hx hb dX12_about_90 (by decide) (fun c_115 => ?_) (fun c_115 => ?_)
                          · refine lv_aload_n hx hb dX12_about_105 rfl (lv_at hl 3 rfl) ?_
                            refine rl_get (v := .ref (m + 15)) hC hW fl_X12_55 hR.1 rfl dX12_about_106 ?_
                            refine lv_iload_n hx hb dX12_about_109 rfl (lv_at hl 2 rfl) ?_
                            refine lv_ldc (v := nI 1000000) hx hb hC.2.2.2.1 (hC.2.2.2.2.1 _ (List.mem_cons_of_mem _ mw_859)) dX12_about_110 ?_
                            refine lv_isub hx hb dX12_about_112 ?_
                            refine rl_topn (rg_sub (c := n0) (by omega)) ?_
                            refine rl_iald_n (g := I 16) hC hW hR.a16 (by omega) (by decide) dX12_about_113 ?_
                            refine rl_topn (h16) ?_
                            exact rl_iret hC hW hr hlk (Nat.le_refl _) (Nat.le_refl _) ⟨_, rfl, rfl, rfl, by (simp only [f_about, ob, pu_ix_s hp0 (by decide), pu_ix_s hw0 (by decide), hh]); first | rfl | exact hfe.symm | (rw [hh] at hfe; exact hfe.symm), ⟨_, _, _, hR, hTc, hTp, hTk, hGW, hGr, hGd, hGp, hGt, hGc, hF11, hF14⟩⟩ dX12_about_114
                          · first | exact absurd c_115 (by decide) | exact absurd (by decide) c_115
                        · first | exact absurd c_114 (by decide) | exact absurd (by decide) c_114
                      · first | exact absurd c_113 (by decide) | exact absurd (by decide) c_113
                  · first | exact absurd c_111 (by decide) | exact absurd (by decide) c_111
                · first | exact absurd c_110 (by decide) | exact absurd (by decide) c_110
        · exact absurd c9 (by decide)
      · have hq := hp
        refine lv_if_ne (tgt := 21) hx hb dX12_about_16 (by decide) (fun c9 => ?_) (fun c9 => ?_)
        · exact absurd rfl c9
        · refine lv_iconst (v := (-1)) hx hb dX12_about_19 (by decide) ?_
          exact rl_iret hC hW hr hlk (Nat.le_refl _) (Nat.le_refl _) ⟨_, rfl, rfl, rfl, (by simp only [f_about, ob, pu_ix_s hp0 (by decide), pu_ix_n (n := 4) (by decide) hq]), ⟨_, _, _, hR, hTc, hTp, hTk, hGW, hGr, hGd, hGp, hGt, hGc, hF11, hF14⟩⟩ dX12_about_20
  · have hq := hp
    refine lv_if_eq (tgt := 19) hx hb dX12_about_4 (by decide) (fun c9 => ?_) (fun c9 => ?_)
    · refine lv_iconst (v := (-1)) hx hb dX12_about_19 (by decide) ?_
      exact rl_iret hC hW hr hlk (Nat.le_refl _) (Nat.le_refl _) ⟨_, rfl, rfl, rfl, (by simp only [f_about, ob, pu_ix_n (n := 10) (by decide) hq]), ⟨_, _, _, hR, hTc, hTp, hTk, hGW, hGr, hGd, hGp, hGt, hGc, hF11, hF14⟩⟩ dX12_about_20
    · exact absurd rfl c9
