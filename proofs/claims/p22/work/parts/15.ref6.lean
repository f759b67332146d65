set_option maxHeartbeats 4000000 in
set_option maxRecDepth 100000 in
theorem cR_newRow (l : Launch) (D : va_G) (t : Nat → ClassId) (A : Nat → Prop) (f : rl_M) (z : Nat) (m : Nat) (I : Nat → Nat → Int32) (L : Nat → Nat → Int64) (F : Nat → Int32) (hR : RM t f m I L F) (ρ : Nat) (hρ : ρ < 43100) (hF11 : F 11 = nI ρ) (c0 : Nat) : rl_Met l yX12_newRow (.code yX12_newRow cX12_newRow 3 (some FieldType.int)) (rl_rm 0 0 0) D t A f z [.ref (m), .int (nI (c0))] (rl_qi z fun r f1 => r = nI (100 + ρ) ∧ RM t f1 m (va_up (va_up I 12 (upd (I 12) ρ (nI c0))) 13 (pu_up (8 * ρ) (fun _ => 0) 8 (I 13))) L (upd F 11 (nI (ρ + 1)))) := by
  refine rl_begin (own := RX12) (lv := [(0, .ref (m)), (1, .int (nI (c0)))]) (by decide +kernel) rfl (Nat.le_of_ble_eq_true rfl) rfl fun p e s m0 args below meth c ls H locs hC hr hlk hnm hW hl hx hb => ?_
  refine lv_aload_n hx hb dX12_newRow_0 rfl (lv_at hl 0 rfl) ?_
  refine rl_get (v := .ref (m + 12)) hC hW fl_X12_45 hR.1 rfl dX12_newRow_1 ?_
  refine lv_aload_n hx hb dX12_newRow_4 rfl (lv_at hl 0 rfl) ?_
  refine rl_get (v := .int (F 11)) hC hW fl_X12_151 hR.1 rfl dX12_newRow_5 ?_
  refine rl_topn (y := nI (ρ)) (hF11) ?_
  refine lv_iload_n hx hb dX12_newRow_8 rfl (lv_at hl 1 rfl) ?_
  refine rl_iast_n (g := I 12) hC hW hR.a12 (by omega) (by decide) dX12_newRow_9 (fun H locs hW => ?_)
  have hR := hR.s12 (upd (I 12) (ρ) ((nI (c0))))
  refine lv_iconst (v := (nI (0))) hx hb dX12_newRow_10 (by decide) ?_
  refine lv_istore_n (lv' := [(2, .int (nI (0))), (0, .ref (m)), (1, .int (nI (c0)))]) hx hb dX12_newRow_11 rfl hl (by decide) rfl (fun ls hl => ?_)
  replace hl : lv_has ls 3 [(0, .ref (m)), (1, .int (nI (c0))), (2, .int (nI (0)))] := lv_sub hl [1, 2, 0] rfl
  have hinv : ∃ f2 : rl_M, ∃ g : Nat → Int32, ∃ i : Nat, rl_W D A f2 z s.heap H locs ∧ RM t f2 m (va_up (va_up I 12 (upd (I 12) ρ (nI c0))) 13 g) L F ∧ (i ≤ 8) ∧ (g = pu_up (8 * ρ) (fun _ => 0) i (I 13)) ∧ lv_has ls 3 [(0, .ref (m)), (1, .int (nI (c0))), (2, .int (nI (i)))] := ⟨_, I 13, 0, hW, (Eq.mpr (congrArg (fun J => RM t _ m J L F) (va_up_same (va_up I 12 (upd (I 12) ρ (nI c0))) 13)) hR), Nat.zero_le _, pu_up_0.symm, hl⟩
  clear hW hR hl
  obtain ⟨f2, g, i, hW, hR, hi, hg, hl⟩ := hinv
  obtain ⟨n, hn⟩ : ∃ n, 8 - i < n := ⟨_, Nat.lt_succ_self _⟩
  induction n generalizing f2 g i H locs ls  with
  | zero => exact absurd hn (Nat.not_lt_zero _)
  | succ n ih =>
    refine lv_iload_n hx hb dX12_newRow_12 rfl (lv_at hl 2 rfl) ?_
    refine lv_bipush (v := (nI (8))) hx hb dX12_newRow_13 (by decide) ?_
    refine lv_icmp_ge (tgt := 39) hx hb dX12_newRow_15 (by decide) (fun c1 => ?_) (fun c1 => ?_)
    · have h8 : i = 8 := by have := rg_le c1 (by decide) (by omega); omega
      subst h8
      subst hg
      refine lv_aload_n hx hb dX12_newRow_39 rfl (lv_at hl 0 rfl) ?_
      refine lv_dup hx hb dX12_newRow_40 rfl ?_
      refine rl_get (v := .int (F 11)) hC hW fl_X12_151 hR.1 rfl dX12_newRow_41 ?_
      refine rl_topn (y := nI (ρ)) (hF11) ?_
      refine lv_iconst (v := (nI (1))) hx hb dX12_newRow_44 (by decide) ?_
      refine lv_iadd hx hb dX12_newRow_45 ?_
      refine rl_topn (nI_add _ _) ?_
      refine rl_put (v := .int (nI ((ρ) + (1)))) hC hW fp_X12_151 hR.1 (Nat.le_of_ble_eq_true rfl) rfl rfl dX12_newRow_46 (fun H locs hW => ?_)
      have hR := hR.f11 (nI ((ρ) + (1)))
      refine lv_bipush (v := (nI (100))) hx hb dX12_newRow_49 (by decide) ?_
      refine lv_aload_n hx hb dX12_newRow_51 rfl (lv_at hl 0 rfl) ?_
      refine rl_get (v := .int (nI ((ρ) + (1)))) hC hW fl_X12_151 hR.1 rfl dX12_newRow_52 ?_
      refine lv_iadd hx hb dX12_newRow_55 ?_
      refine rl_topn (nI_add _ _) ?_
      refine lv_iconst (v := (nI (1))) hx hb dX12_newRow_56 (by decide) ?_
      refine lv_isub hx hb dX12_newRow_57 ?_
      exact rl_iret hC hW hr hlk (Nat.le_refl _) (Nat.le_refl _) ⟨_, rfl, rfl, rfl, rg_sub (c := 100 + ρ) (by omega), hR⟩ dX12_newRow_58
    · have hlt : i < 8 := rg_lt c1 (by omega) (by omega)
      refine lv_aload_n hx hb dX12_newRow_18 rfl (lv_at hl 0 rfl) ?_
      refine rl_get (v := .ref (m + 13)) hC hW fl_X12_49 hR.1 rfl dX12_newRow_19 ?_
      refine lv_bipush (v := (nI (8))) hx hb dX12_newRow_22 (by decide) ?_
      refine lv_aload_n hx hb dX12_newRow_24 rfl (lv_at hl 0 rfl) ?_
      refine rl_get (v := .int (F 11)) hC hW fl_X12_151 hR.1 rfl dX12_newRow_25 ?_
      refine rl_topn (y := nI (ρ)) (hF11) ?_
      refine lv_imul hx hb dX12_newRow_28 ?_
      refine rl_topn (pk_mul _ _) ?_
      refine lv_iload_n hx hb dX12_newRow_29 rfl (lv_at hl 2 rfl) ?_
      refine lv_iadd hx hb dX12_newRow_30 ?_
      refine rl_topn (nI_add _ _) ?_
      refine lv_iconst (v := (nI (0))) hx hb dX12_newRow_31 (by decide) ?_
      refine rl_iast_n (g := g) hC hW hR.a13 (by omega) (by decide) dX12_newRow_32 (fun H locs hW => ?_)
      have hR := hR.s13 (upd (g) (((8) * (ρ)) + (i)) ((nI (0))))
      refine lv_iinc (v := (nI ((i) + 1))) (lv' := [(2, .int (nI ((i) + 1))), (0, .ref (m)), (1, .int (nI (c0)))]) hx hb dX12_newRow_33 hl (k := 2) rfl (nI_1 _) (by decide) rfl (fun ls hl => ?_)
      refine lv_goto (tgt := 12) hx hb dX12_newRow_36 (by decide) ?_
      replace hl : lv_has ls 3 [(0, .ref (m)), (1, .int (nI (c0))), (2, .int (nI ((i) + 1)))] := lv_sub hl [1, 2, 0] rfl
      rw [va_up_up] at hR
      exact ih _ _ _ _ _ (i + 1) hW hR (by omega) (by rw [hg]; exact pu_up_s rfl) hl (by omega)

set_option maxHeartbeats 4000000 in
set_option maxRecDepth 100000 in
theorem cR_row (l : Launch) (D : va_G) (t : Nat → ClassId) (A : Nat → Prop) (f : rl_M) (z : Nat) (m : Nat) (T : Nat → Nat → Nat) (ρ κ : Nat) (G : pG) (hS : RS t f m T ρ κ G) (hρ : ρ + 84 ≤ 43100) (hκ : κ + 51 ≤ 26200) (x1 x2 : Int32) : rl_Met l yX12_row (.code yX12_row cX12_row 3 (some FieldType.int)) (rl_rm 2 0 0) D t A f z [.ref (m), .int (x1), .int (x2)] (rl_qi z fun r f1 => ∃ ρ' κ' G', f_row ρ κ G x1 x2 = (r, ρ', κ', G') ∧ ρ' ≤ ρ + 84 ∧ κ' ≤ κ + 51 ∧ RS t f1 m T ρ' κ' G') := by
  obtain ⟨I, L, F, hR, hTc, hTp, hTk, hGW, hGr, hGd, hGp, hGt, hGc, hF11, hF14⟩ := hS
  refine rl_begin (own := RX12) (lv := [(0, .ref (m)), (1, .int (x1)), (2, .int (x2))]) (by decide +kernel) rfl (Nat.le_of_ble_eq_true rfl) rfl fun p e s m0 args below meth c ls H locs hC hr hlk hnm hW hl hx hb => ?_
  refine lv_iload_n hx hb dX12_row_0 rfl (lv_at hl 1 rfl) ?_
  refine rl_calliQ (rl_runS (As := [.int (x1)]) (rest := []) hC hW (cR_isPlace l D t A _ z _) cs_X12_148 sm_X12_isPlace ⟨(Nat.le_of_ble_eq_true rfl), (Nat.le_of_ble_eq_true rfl)⟩ rfl hl.1 rfl (Nat.le_of_ble_eq_true rfl) dX12_row_1 ⟨(Nat.le_of_ble_eq_true rfl), (Nat.le_of_ble_eq_true rfl)⟩) hW (fun r f1 H locs hp hW => ?_)
  obtain ⟨rfl, hp⟩ := hp
  rcases hp with ⟨rfl, hp⟩ | ⟨rfl, hp⟩
  · obtain ⟨p0, hp0, rfl⟩ := hp
    refine lv_if_eq (tgt := 25) hx hb dX12_row_4 (by decide) (fun c9 => ?_) (fun c9 => ?_)
    · exact absurd c9 (by decide)
    · refine lv_iload_n hx hb dX12_row_7 rfl (lv_at hl 2 rfl) ?_
      refine lv_bipush (v := (-3)) hx hb dX12_row_8 (by decide) ?_
      refine lv_icmp_eq (tgt := 27) hx hb dX12_row_10 (by decide) (fun c2 => ?_) (fun c2 => ?_)
      · subst c2
        refine lv_aload_n hx hb dX12_row_27 rfl (lv_at hl 0 rfl) ?_
        refine rl_get (v := .ref (m + 18)) hC hW fl_X12_66 hR.1 rfl dX12_row_28 ?_
        refine lv_iload_n hx hb dX12_row_31 rfl (lv_at hl 1 rfl) ?_
        refine lv_iload_n hx hb dX12_row_32 rfl (lv_at hl 2 rfl) ?_
        refine lv_bipush (v := (-3)) hx hb dX12_row_33 (by decide) ?_
        refine lv_icmp_ne (tgt := 42) hx hb dX12_row_35 (by decide) (fun c3 => ?_) (fun c3 => ?_)
        · exact absurd rfl c3
        · refine lv_iconst (v := (-1)) hx hb dX12_row_38 (by decide) ?_
          refine lv_goto (tgt := 47) hx hb dX12_row_39 (by decide) ?_
          refine rl_iast_n (g := I 19) hC hW hR.a19 (by omega) (by decide) dX12_row_47 (fun H locs hW => ?_)
          have hR := hR.s19 (upd (I 19) (p0) ((-1)))
          refine lv_iconst (v := (nI (1))) hx hb dX12_row_48 (by decide) ?_
          exact rl_iret hC hW hr hlk (Nat.le_refl _) (Nat.le_refl _) ⟨_, rfl, rfl, rfl, ρ, κ, gX G 0 (va_up (G.2.2.2 0) p0 none), (by simp only [f_row, ob, pu_ix_s hp0 (by decide), if_true]; rfl), by omega, by omega, ⟨_, _, _, hR, hTc, hTp, hTk, hGW.pl trivial, hGr, hGd, hGp.pl rfl, hGt, hGc, hF11, hF14⟩⟩ dX12_row_49
      · refine lv_iload_n hx hb dX12_row_13 rfl (lv_at hl 2 rfl) ?_
        refine lv_i2l hx hb dX12_row_14 rfl ?_
        refine lv_lconst (v := 0) hx hb dX12_row_15 (by decide) ?_
        refine lv_ldc2 (v := 8) hx hb hC.2.2.2.1 (hC.2.2.2.2.1 _ (List.mem_cons_of_mem _ mw_846)) dX12_row_16 ?_
        refine rl_calliQ (rl_runS (As := [.long ((x2).toInt64), .long (0), .long (8)]) (rest := []) hC hW (cR_in l D t A _ z _ _ _) cs_X12_117 sm_X12_in ⟨(Nat.le_of_ble_eq_true rfl), (Nat.le_of_ble_eq_true rfl)⟩ rfl hl.1 rfl (Nat.le_of_ble_eq_true rfl) dX12_row_19 ⟨(Nat.le_of_ble_eq_true rfl), (Nat.le_of_ble_eq_true rfl)⟩) hW (fun r f1 H locs hp hW => ?_)
        obtain ⟨rfl, hp⟩ := hp
        rw [rg_ix (n := 8) (by decide) (by decide) (by decide)] at hp
        rcases hp with ⟨rfl, hp⟩ | ⟨rfl, hp⟩
        · obtain ⟨n0, hn0, rfl⟩ := hp
          refine lv_if_ne (tgt := 27) hx hb dX12_row_22 (by decide) (fun c9 => ?_) (fun c9 => ?_)
          · refine lv_aload_n hx hb dX12_row_27 rfl (lv_at hl 0 rfl) ?_
            refine rl_get (v := .ref (m + 18)) hC hW fl_X12_66 hR.1 rfl dX12_row_28 ?_
            refine lv_iload_n hx hb dX12_row_31 rfl (lv_at hl 1 rfl) ?_
            refine lv_iload_n hx hb dX12_row_32 rfl (lv_at hl 2 rfl) ?_
            refine lv_bipush (v := (-3)) hx hb dX12_row_33 (by decide) ?_
            refine lv_icmp_ne (tgt := 42) hx hb dX12_row_35 (by decide) (fun c4 => ?_) (fun c4 => ?_)
            · refine lv_aload_n hx hb dX12_row_42 rfl (lv_at hl 0 rfl) ?_
              refine lv_iload_n hx hb dX12_row_43 rfl (lv_at hl 2 rfl) ?_
              refine rl_calliQ (rl_runV (b := m) (As := [.int (nI (n0))]) (rest := [.int (nI (p0)), .ref (m + 18)]) hC hW (cR_newRow l D t A _ z m I L F hR ρ (by omega) hF11 n0) cs_X12_156 im_X12_newRow sl_X12_newRow hR.1 rfl ⟨(Nat.le_of_ble_eq_true rfl), (Nat.le_of_ble_eq_true rfl)⟩ rfl hl.1 rfl (Nat.le_of_ble_eq_true rfl) dX12_row_44 ⟨(Nat.le_of_ble_eq_true rfl), (Nat.le_of_ble_eq_true rfl)⟩) hW (fun r f1 H locs hp hW => ?_)
              obtain ⟨rfl, hR⟩ := hp
              refine rl_iast_n (g := I 19) hC hW hR.a19 (by omega) (by decide) dX12_row_47 (fun H locs hW => ?_)
              have hR := hR.s19 (upd (I 19) (p0) ((nI (100 + ρ))))
              refine lv_iconst (v := (nI (1))) hx hb dX12_row_48 (by decide) ?_
              exact rl_iret hC hW hr hlk (Nat.le_refl _) (Nat.le_refl _) ⟨_, rfl, rfl, rfl, ρ + 1, κ, gX (pu_row ρ G n0) 0 (va_up (G.2.2.2 0) p0 (hrow ρ)), (by simp only [f_row, ob, pu_ix_s hp0 (by decide), c2, if_false, pu_ix_s hn0 (by decide)]; rfl), by omega, by omega, ⟨_, _, _, hR, hTc, hTp, hTk, (hGW.row (by omega)).pl (G := pu_row ρ G n0) (show ρ < ρ + 1 by omega), hGr.row rfl, hGd, RGp.pl (G := pu_row ρ G n0) hGp rfl, hGt, hGc, rfl, hF14⟩⟩ dX12_row_49
            · exact absurd c4 c2
          · exact absurd c9 (by decide)
        · have hq := hp
          refine lv_if_ne (tgt := 27) hx hb dX12_row_22 (by decide) (fun c9 => ?_) (fun c9 => ?_)
          · exact absurd rfl c9
          · refine lv_iconst (v := (-1)) hx hb dX12_row_25 (by decide) ?_
            exact rl_iret hC hW hr hlk (Nat.le_refl _) (Nat.le_refl _) ⟨_, rfl, rfl, rfl, ρ, κ, G, (by simp only [f_row, ob, pu_ix_s hp0 (by decide), c2, if_false, pu_ix_n (n := 9) (by decide) hq]), by omega, by omega, ⟨_, _, _, hR, hTc, hTp, hTk, hGW, hGr, hGd, hGp, hGt, hGc, hF11, hF14⟩⟩ dX12_row_26
  · have hq := hp
    refine lv_if_eq (tgt := 25) hx hb dX12_row_4 (by decide) (fun c9 => ?_) (fun c9 => ?_)
    · refine lv_iconst (v := (-1)) hx hb dX12_row_25 (by decide) ?_
      exact rl_iret hC hW hr hlk (Nat.le_refl _) (Nat.le_refl _) ⟨_, rfl, rfl, rfl, ρ, κ, G, (by simp only [f_row, ob, pu_ix_n (n := 10) (by decide) hq]), by omega, by omega, ⟨_, _, _, hR, hTc, hTp, hTk, hGW, hGr, hGd, hGp, hGt, hGc, hF11, hF14⟩⟩ dX12_row_26
    · exact absurd rfl c9

set_option maxHeartbeats 4000000 in
set_option maxRecDepth 100000 in
theorem cR_give (l : Launch) (D : va_G) (t : Nat → ClassId) (A : Nat → Prop) (f : rl_M) (z : Nat) (m : Nat) (T : Nat → Nat → Nat) (ρ κ : Nat) (G : pG) (hS : RS t f m T ρ κ G) (hρ : ρ + 84 ≤ 43100) (hκ : κ + 51 ≤ 26200) (x1 : Int32) (x2 : Int64) (x4 : Int32) : rl_Met l yX12_give (.code yX12_give cX12_give 5 (some FieldType.int)) (rl_rm 2 0 0) D t A f z [.ref (m), .int (x1), .long (x2), .int (x4)] (rl_qi z fun r f1 => ∃ ρ' κ' G', f_give ρ κ G x1 x2 x4 = (r, ρ', κ', G') ∧ ρ' ≤ ρ + 84 ∧ κ' ≤ κ + 51 ∧ RS t f1 m T ρ' κ' G') := by
  obtain ⟨I, L, F, hR, hTc, hTp, hTk, hGW, hGr, hGd, hGp, hGt, hGc, hF11, hF14⟩ := hS
  refine rl_begin (own := RX12) (lv := [(0, .ref (m)), (1, .int (x1)), (2, .long (x2)), (4, .int (x4))]) (by decide +kernel) rfl (Nat.le_of_ble_eq_true rfl) rfl fun p e s m0 args below meth c ls H locs hC hr hlk hnm hW hl hx hb => ?_
  refine lv_iload_n hx hb dX12_give_0 rfl (lv_at hl 1 rfl) ?_
  refine lv_i2l hx hb dX12_give_1 rfl ?_
  refine lv_lconst (v := 0) hx hb dX12_give_2 (by decide) ?_
  refine lv_ldc2 (v := 4) hx hb hC.2.2.2.1 (hC.2.2.2.2.1 _ (List.mem_cons_of_mem _ mw_822)) dX12_give_3 ?_
  refine rl_calliQ (rl_runS (As := [.long ((x1).toInt64), .long (0), .long (4)]) (rest := []) hC hW (cR_in l D t A _ z _ _ _) cs_X12_117 sm_X12_in ⟨(Nat.le_of_ble_eq_true rfl), (Nat.le_of_ble_eq_true rfl)⟩ rfl hl.1 rfl (Nat.le_of_ble_eq_true rfl) dX12_give_6 ⟨(Nat.le_of_ble_eq_true rfl), (Nat.le_of_ble_eq_true rfl)⟩) hW (fun r f1 H locs hp hW => ?_)
  obtain ⟨rfl, hp⟩ := hp
  rw [rg_ix (n := 4) (by decide) (by decide) (by decide)] at hp
  rcases hp with ⟨rfl, hp⟩ | ⟨rfl, hp⟩
  · obtain ⟨p0, hp0, rfl⟩ := hp
    refine lv_if_eq (tgt := 20) hx hb dX12_give_9 (by decide) (fun c9 => ?_) (fun c9 => ?_)
    · exact absurd c9 (by decide)
    · refine lv_iload hx hb dX12_give_12 (lv_at hl 3 rfl) ?_
      refine rl_calliQ (rl_runS (As := [.int (x4)]) (rest := []) hC hW (cR_isPlace l D t A _ z _) cs_X12_148 sm_X12_isPlace ⟨(Nat.le_of_ble_eq_true rfl), (Nat.le_of_ble_eq_true rfl)⟩ rfl hl.1 rfl (Nat.le_of_ble_eq_true rfl) dX12_give_14 ⟨(Nat.le_of_ble_eq_true rfl), (Nat.le_of_ble_eq_true rfl)⟩) hW (fun r f1 H locs hp hW => ?_)
      obtain ⟨rfl, hp⟩ := hp
      rcases hp with ⟨rfl, hp⟩ | ⟨rfl, hp⟩
      · obtain ⟨q0, hq0, rfl⟩ := hp
        refine lv_if_ne (tgt := 22) hx hb dX12_give_17 (by decide) (fun c9 => ?_) (fun c9 => ?_)
        · refine lv_aload_n hx hb dX12_give_22 rfl (lv_at hl 0 rfl) ?_
          refine rl_get (v := .ref (m + 19)) hC hW fl_X12_69 hR.1 rfl dX12_give_23 ?_
          refine lv_iload_n hx hb dX12_give_26 rfl (lv_at hl 1 rfl) ?_
          refine lv_lload_n hx hb dX12_give_27 rfl (lv_at hl 2 rfl) ?_
          refine rl_last_n (g := L 20) hC hW hR.a20 (by omega) (by decide) dX12_give_28 (fun H locs hW => ?_)
          have hR := hR.s20 (vp_updL (L 20) (p0) (x2))
          refine lv_aload_n hx hb dX12_give_29 rfl (lv_at hl 0 rfl) ?_
          refine rl_get (v := .ref (m + 20)) hC hW fl_X12_72 hR.1 rfl dX12_give_30 ?_
          refine lv_iload_n hx hb dX12_give_33 rfl (lv_at hl 1 rfl) ?_
          refine lv_iload hx hb dX12_give_34 (lv_at hl 3 rfl) ?_
          refine rl_iast_n (g := I 21) hC hW hR.a21 (by omega) (by decide) dX12_give_36 (fun H locs hW => ?_)
          have hR := hR.s21 (upd (I 21) (p0) ((nI (q0))))
          refine lv_iconst (v := (nI (1))) hx hb dX12_give_37 (by decide) ?_
          exact rl_iret hC hW hr hlk (Nat.le_refl _) (Nat.le_refl _) ⟨_, rfl, rfl, rfl, ρ, κ, gN (gZ G 1 (vp_updL (G.2.2.1 1) p0 x2)) 3 (va_up (G.1 3) p0 q0), (by simp only [f_give, ob, pu_ix_s hp0 (by decide), pu_ix_s hq0 (by decide)]; rfl), by omega, by omega, ⟨_, _, _, hR, hTc, hTp, hTk, hGW.give hq0, hGr, hGd, hGp.give, hGt, hGc, hF11, hF14⟩⟩ dX12_give_38
        · exact absurd c9 (by decide)
      · have hq := hp
        refine lv_if_ne (tgt := 22) hx hb dX12_give_17 (by decide) (fun c9 => ?_) (fun c9 => ?_)
        · exact absurd rfl c9
        · refine lv_iconst (v := (-1)) hx hb dX12_give_20 (by decide) ?_
          exact rl_iret hC hW hr hlk (Nat.le_refl _) (Nat.le_refl _) ⟨_, rfl, rfl, rfl, ρ, κ, G, (by simp only [f_give, ob, pu_ix_s hp0 (by decide), pu_ix_n (n := 10) (by decide) hq]), by omega, by omega, ⟨_, _, _, hR, hTc, hTp, hTk, hGW, hGr, hGd, hGp, hGt, hGc, hF11, hF14⟩⟩ dX12_give_21
  · have hq := hp
    refine lv_if_eq (tgt := 20) hx hb dX12_give_9 (by decide) (fun c9 => ?_) (fun c9 => ?_)
    · refine lv_iconst (v := (-1)) hx hb dX12_give_20 (by decide) ?_
      exact rl_iret hC hW hr hlk (Nat.le_refl _) (Nat.le_refl _) ⟨_, rfl, rfl, rfl, ρ, κ, G, (by simp only [f_give, ob, pu_ix_n (n := 5) (by decide) hq]), by omega, by omega, ⟨_, _, _, hR, hTc, hTp, hTk, hGW, hGr, hGd, hGp, hGt, hGc, hF11, hF14⟩⟩ dX12_give_21
    · exact absurd rfl c9

set_option maxHeartbeats 4000000 in
set_option maxRecDepth 100000 in
theorem cR_share (l : Launch) (D : va_G) (t : Nat → ClassId) (A : Nat → Prop) (f : rl_M) (z : Nat) (m : Nat) (T : Nat → Nat → Nat) (ρ κ : Nat) (G : pG) (hS : RS t f m T ρ κ G) (hρ : ρ + 84 ≤ 43100) (hκ : κ + 51 ≤ 26200) (x1 x2 : Int32) : rl_Met l yX12_share (.code yX12_share cX12_share 3 (some FieldType.int)) (rl_rm 2 0 0) D t A f z [.ref (m), .int (x1), .int (x2)] (rl_qi z fun r f1 => ∃ ρ' κ' G', f_share T ρ κ G x1 x2 = (r, ρ', κ', G') ∧ ρ' ≤ ρ + 84 ∧ κ' ≤ κ + 51 ∧ RS t f1 m T ρ' κ' G') := by
  obtain ⟨I, L, F, hR, hTc, hTp, hTk, hGW, hGr, hGd, hGp, hGt, hGc, hF11, hF14⟩ := hS
  refine rl_begin (own := RX12) (lv := [(0, .ref (m)), (1, .int (x1)), (2, .int (x2))]) (by decide +kernel) rfl (Nat.le_of_ble_eq_true rfl) rfl fun p e s m0 args below meth c ls H locs hC hr hlk hnm hW hl hx hb => ?_
  refine lv_iload_n hx hb dX12_share_0 rfl (lv_at hl 1 rfl) ?_
  refine rl_calliQ (rl_runS (As := [.int (x1)]) (rest := []) hC hW (cR_isPlace l D t A _ z _) cs_X12_148 sm_X12_isPlace ⟨(Nat.le_of_ble_eq_true rfl), (Nat.le_of_ble_eq_true rfl)⟩ rfl hl.1 rfl (Nat.le_of_ble_eq_true rfl) dX12_share_1 ⟨(Nat.le_of_ble_eq_true rfl), (Nat.le_of_ble_eq_true rfl)⟩) hW (fun r f1 H locs hp hW => ?_)
  obtain ⟨rfl, hp⟩ := hp
  rcases hp with ⟨rfl, hp⟩ | ⟨rfl, hp⟩
  · obtain ⟨p0, hp0, rfl⟩ := hp
    refine lv_if_eq (tgt := 14) hx hb dX12_share_4 (by decide) (fun c9 => ?_) (fun c9 => ?_)
    · exact absurd c9 (by decide)
    · refine lv_iload_n hx hb dX12_share_7 rfl (lv_at hl 2 rfl) ?_
      refine rl_calliQ (rl_runS (As := [.int (x2)]) (rest := []) hC hW (cR_isPlace l D t A _ z _) cs_X12_148 sm_X12_isPlace ⟨(Nat.le_of_ble_eq_true rfl), (Nat.le_of_ble_eq_true rfl)⟩ rfl hl.1 rfl (Nat.le_of_ble_eq_true rfl) dX12_share_8 ⟨(Nat.le_of_ble_eq_true rfl), (Nat.le_of_ble_eq_true rfl)⟩) hW (fun r f1 H locs hp hW => ?_)
      obtain ⟨rfl, hp⟩ := hp
      rcases hp with ⟨rfl, hp⟩ | ⟨rfl, hp⟩
      · obtain ⟨q0, hq0, rfl⟩ := hp
        refine lv_if_ne (tgt := 16) hx hb dX12_share_11 (by decide) (fun c9 => ?_) (fun c9 => ?_)
        · refine lv_aload_n hx hb dX12_share_16 rfl (lv_at hl 0 rfl) ?_
          refine rl_get (v := .ref (m + 18)) hC hW fl_X12_66 hR.1 rfl dX12_share_17 ?_
          refine lv_iload_n hx hb dX12_share_20 rfl (lv_at hl 1 rfl) ?_
          refine lv_aload_n hx hb dX12_share_21 rfl (lv_at hl 0 rfl) ?_
          refine rl_get (v := .ref (m + 18)) hC hW fl_X12_66 hR.1 rfl dX12_share_22 ?_
          refine lv_iload_n hx hb dX12_share_25 rfl (lv_at hl 2 rfl) ?_
          refine rl_iald_n (g := I 19) hC hW hR.a19 (by omega) (by decide) dX12_share_26 ?_
          refine rl_iast_n (g := I 19) hC hW hR.a19 (by omega) (by decide) dX12_share_27 (fun H locs hW => ?_)
          have hR := hR.s19 (upd (I 19) (p0) ((I 19 (q0))))
          refine lv_aload_n hx hb dX12_share_28 rfl (lv_at hl 0 rfl) ?_
          refine lv_aload_n hx hb dX12_share_29 rfl (lv_at hl 0 rfl) ?_
          refine rl_get (v := .ref (m + 18)) hC hW fl_X12_66 hR.1 rfl dX12_share_30 ?_
          refine lv_iload_n hx hb dX12_share_33 rfl (lv_at hl 1 rfl) ?_
          refine rl_iald_n (g := upd (I 19) (p0) ((I 19 (q0)))) hC hW hR.a19 (by omega) (by decide) dX12_share_34 ?_
          have hpx : upd (I 19) p0 (I 19 q0) p0 = enc (G.2.2.2 0 q0) := by simp only [upd, if_true]; exact hGp.1 q0 hq0
          refine rl_calliQ (rl_runV (b := m) (As := [.int ((upd (I 19) (p0) ((I 19 (q0)))) (p0))]) (rest := []) hC hW (cR_familyOf l D t A _ z m _ L F hR T (fun n hn => ⟨(hTc.2.2.2 n hn).2.1, (hTc.2.2.2 n hn).2.2.1⟩) ρ κ (by omega) (by omega) _ (G.2.2.2 0 q0) hpx (hGW.2.2.1 q0 hq0)) cs_X12_160 im_X12_familyOf sl_X12_familyOf hR.1 rfl ⟨(Nat.le_of_ble_eq_true rfl), (Nat.le_of_ble_eq_true rfl)⟩ rfl hl.1 rfl (Nat.le_of_ble_eq_true rfl) dX12_share_35 ⟨(Nat.le_of_ble_eq_true rfl), (Nat.le_of_ble_eq_true rfl)⟩) hW (fun r f1 H locs hp hW => ?_)
          obtain ⟨rfl, hp⟩ := hp
          have hfe := hp.e
          exact rl_iret hC hW hr hlk (Nat.le_refl _) (Nat.le_refl _) ⟨_, rfl, rfl, rfl, ρ, κ, gX G 0 (va_up (G.2.2.2 0) p0 (G.2.2.2 0 q0)), (by simp only [f_share, ob, pu_ix_s hp0 (by decide), pu_ix_s hq0 (by decide)]; rw [hfe]), by omega, by omega, ⟨_, _, _, hR, hTc, hTp, hTk, hGW.pl (hGW.2.2.1 q0 hq0), hGr, hGd, hGp.pl (hGp.1 q0 hq0), hGt, hGc, hF11, hF14⟩⟩ dX12_share_38
        · exact absurd c9 (by decide)
      · have hq := hp
        refine lv_if_ne (tgt := 16) hx hb dX12_share_11 (by decide) (fun c9 => ?_) (fun c9 => ?_)
        · exact absurd rfl c9
        · refine lv_iconst (v := (-1)) hx hb dX12_share_14 (by decide) ?_
          exact rl_iret hC hW hr hlk (Nat.le_refl _) (Nat.le_refl _) ⟨_, rfl, rfl, rfl, ρ, κ, G, (by simp only [f_share, ob, pu_ix_s hp0 (by decide), pu_ix_n (n := 10) (by decide) hq]), by omega, by omega, ⟨_, _, _, hR, hTc, hTp, hTk, hGW, hGr, hGd, hGp, hGt, hGc, hF11, hF14⟩⟩ dX12_share_15
  · have hq := hp
    refine lv_if_eq (tgt := 14) hx hb dX12_share_4 (by decide) (fun c9 => ?_) (fun c9 => ?_)
    · refine lv_iconst (v := (-1)) hx hb dX12_share_14 (by decide) ?_
      exact rl_iret hC hW hr hlk (Nat.le_refl _) (Nat.le_refl _) ⟨_, rfl, rfl, rfl, ρ, κ, G, (by simp only [f_share, ob, pu_ix_n (n := 10) (by decide) hq]), by omega, by omega, ⟨_, _, _, hR, hTc, hTp, hTk, hGW, hGr, hGd, hGp, hGt, hGc, hF11, hF14⟩⟩ dX12_share_15
    · exact absurd rfl c9

set_option maxHeartbeats 4000000 in
set_option maxRecDepth 100000 in
theorem cR_item (l : Launch) (D : va_G) (t : Nat → ClassId) (A : Nat → Prop) (f : rl_M) (z : Nat) (m : Nat) (T : Nat → Nat → Nat) (ρ κ : Nat) (G : pG) (hS : RS t f m T ρ κ G) (hρ : ρ + 84 ≤ 43100) (hκ : κ + 51 ≤ 26200) (x1 x2 x3 : Int32) : rl_Met l yX12_item (.code yX12_item cX12_item 6 (some FieldType.int)) (rl_rm 2 0 0) D t A f z [.ref (m), .int (x1), .int (x2), .int (x3)] (rl_qi z fun r f1 => ∃ ρ' κ' G', f_item ρ κ G x1 x2 x3 = (r, ρ', κ', G') ∧ ρ' ≤ ρ + 84 ∧ κ' ≤ κ + 51 ∧ RS t f1 m T ρ' κ' G') := by
  obtain ⟨I, L, F, hR, hTc, hTp, hTk, hGW, hGr, hGd, hGp, hGt, hGc, hF11, hF14⟩ := hS
  refine rl_begin (own := RX12) (lv := [(0, .ref (m)), (1, .int (x1)), (2, .int (x2)), (3, .int (x3))]) (by decide +kernel) rfl (Nat.le_of_ble_eq_true rfl) rfl fun p e s m0 args below meth c ls H locs hC hr hlk hnm hW hl hx hb => ?_
  refine lv_iload_n hx hb dX12_item_0 rfl (lv_at hl 1 rfl) ?_
  refine rl_calliQ (rl_runS (As := [.int (x1)]) (rest := []) hC hW (cR_isPlace l D t A _ z _) cs_X12_148 sm_X12_isPlace ⟨(Nat.le_of_ble_eq_true rfl), (Nat.le_of_ble_eq_true rfl)⟩ rfl hl.1 rfl (Nat.le_of_ble_eq_true rfl) dX12_item_1 ⟨(Nat.le_of_ble_eq_true rfl), (Nat.le_of_ble_eq_true rfl)⟩) hW (fun r f1 H locs hp hW => ?_)
  obtain ⟨rfl, hp⟩ := hp
  rcases hp with ⟨rfl, hp⟩ | ⟨rfl, hp⟩
  · obtain ⟨p0, hp0, rfl⟩ := hp
    refine lv_if_eq (tgt := 21) hx hb dX12_item_4 (by decide) (fun c9 => ?_) (fun c9 => ?_)
    · exact absurd c9 (by decide)
    · refine lv_aload_n hx hb dX12_item_7 rfl (lv_at hl 0 rfl) ?_
      refine lv_aload_n hx hb dX12_item_8 rfl (lv_at hl 0 rfl) ?_
      refine rl_get (v := .ref (m + 18)) hC hW fl_X12_66 hR.1 rfl dX12_item_9 ?_
      refine lv_iload_n hx hb dX12_item_12 rfl (lv_at hl 1 rfl) ?_
      refine rl_iald_n (g := I 19) hC hW hR.a19 (by omega) (by decide) dX12_item_13 ?_
      refine rl_calliQ (rl_runV (b := m) (As := [.int (I 19 (p0))]) (rest := []) hC hW (cR_familyOf l D t A _ z m _ L F hR T (fun n hn => ⟨(hTc.2.2.2 n hn).2.1, (hTc.2.2.2 n hn).2.2.1⟩) ρ κ (by omega) (by omega) _ _ (hGp.1 p0 hp0) (hGW.2.2.1 p0 hp0)) cs_X12_160 im_X12_familyOf sl_X12_familyOf hR.1 rfl ⟨(Nat.le_of_ble_eq_true rfl), (Nat.le_of_ble_eq_true rfl)⟩ rfl hl.1 rfl (Nat.le_of_ble_eq_true rfl) dX12_item_14 ⟨(Nat.le_of_ble_eq_true rfl), (Nat.le_of_ble_eq_true rfl)⟩) hW (fun r f1 H locs hp hW => ?_)
      obtain ⟨rfl, hp⟩ := hp
      rcases hp with ⟨hh, rfl⟩ | ⟨n0, hn0, hh, ⟨rfl, -⟩ | ⟨rfl, -⟩⟩ | ⟨n0, hn0, hh, rfl⟩ | ⟨n0, hn0, hh, rfl⟩
      · refine lv_iconst (v := (nI (3))) hx hb dX12_item_17 (by decide) ?_
        refine lv_icmp_eq (tgt := 23) hx hb dX12_item_18 (by decide) (fun c_1 => ?_) (fun c_1 => ?_)
        · first | exact absurd c_1 (by decide) | exact absurd (by decide) c_1
        · refine lv_iconst (v := (-1)) hx hb dX12_item_21 (by decide) ?_
          exact rl_iret hC hW hr hlk (Nat.le_refl _) (Nat.le_refl _) ⟨_, rfl, rfl, rfl, ρ, κ, G, (by simp only [f_item, ob, pu_ix_s hp0 (by decide), hh]), by omega, by omega, ⟨_, _, _, hR, hTc, hTp, hTk, hGW, hGr, hGd, hGp, hGt, hGc, hF11, hF14⟩⟩ dX12_item_22
      · refine lv_iconst (v := (nI (3))) hx hb dX12_item_17 (by decide) ?_
        refine lv_icmp_eq (tgt := 23) hx hb dX12_item_18 (by decide) (fun c_2 => ?_) (fun c_2 => ?_)
        · first | exact absurd c_2 (by decide) | exact absurd (by decide) c_2
        · refine lv_iconst (v := (-1)) hx hb dX12_item_21 (by decide) ?_
          exact rl_iret hC hW hr hlk (Nat.le_refl _) (Nat.le_refl _) ⟨_, rfl, rfl, rfl, ρ, κ, G, (by simp only [f_item, ob, pu_ix_s hp0 (by decide), hh]), by omega, by omega, ⟨_, _, _, hR, hTc, hTp, hTk, hGW, hGr, hGd, hGp, hGt, hGc, hF11, hF14⟩⟩ dX12_item_22
      · refine lv_iconst (v := (nI (3))) hx hb dX12_item_17 (by decide) ?_
        refine lv_icmp_eq (tgt := 23) hx hb dX12_item_18 (by decide) (fun c_3 => ?_) (fun c_3 => ?_)
        · first | exact absurd c_3 (by decide) | exact absurd (by decide) c_3
        · refine lv_iconst (v := (-1)) hx hb dX12_item_21 (by decide) ?_
          exact rl_iret hC hW hr hlk (Nat.le_refl _) (Nat.le_refl _) ⟨_, rfl, rfl, rfl, ρ, κ, G, (by simp only [f_item, ob, pu_ix_s hp0 (by decide), hh]), by omega, by omega, ⟨_, _, _, hR, hTc, hTp, hTk, hGW, hGr, hGd, hGp, hGt, hGc, hF11, hF14⟩⟩ dX12_item_22
      · have he := hGp.1 p0 hp0
        rw [hh] at he
        replace he : I 19 p0 = nI (100 + n0) := he
        have hs0 := hGr.1 n0 hn0
        have hc0 := hGW.1 n0 hn0
        refine lv_iconst (v := (nI (3))) hx hb dX12_item_17 (by decide) ?_
        refine lv_icmp_eq (tgt := 23) hx hb dX12_item_18 (by decide) (fun c2 => ?_) (fun c2 => ?_)
        · refine lv_aload_n hx hb dX12_item_23 rfl (lv_at hl 0 rfl) ?_
          refine rl_get (v := .ref (m + 18)) hC hW fl_X12_66 hR.1 rfl dX12_item_24 ?_
          refine lv_iload_n hx hb dX12_item_27 rfl (lv_at hl 1 rfl) ?_
          refine rl_iald_n (g := I 19) hC hW hR.a19 (by omega) (by decide) dX12_item_28 ?_
          refine rl_topn (he) ?_
          refine lv_bipush (v := (nI (100))) hx hb dX12_item_29 (by decide) ?_
          refine lv_isub hx hb dX12_item_31 ?_
          refine rl_topn (rg_sub (c := n0) (by omega)) ?_
          refine lv_istore (lv' := [(4, .int (nI (n0))), (0, .ref (m)), (1, .int (nI (p0))), (2, .int (x2)), (3, .int (x3))]) hx hb dX12_item_32 hl (by decide) rfl (fun ls hl => ?_)
          refine lv_iload_n hx hb dX12_item_34 rfl (lv_at hl 3 rfl) ?_
          refine lv_i2l hx hb dX12_item_35 rfl ?_
          refine lv_lconst (v := 0) hx hb dX12_item_36 (by decide) ?_
          refine lv_aload_n hx hb dX12_item_37 rfl (lv_at hl 1 rfl) ?_
          refine rl_get (v := .ref (m + 12)) hC hW fl_X12_45 hR.1 rfl dX12_item_38 ?_
          refine lv_iload hx hb dX12_item_41 (lv_at hl 0 rfl) ?_
          refine rl_iald_n (g := I 12) hC hW hR.a12 (by omega) (by decide) dX12_item_43 ?_
          refine rl_topn (hs0) ?_
          refine lv_iconst (v := (nI (1))) hx hb dX12_item_44 (by decide) ?_
          refine lv_isub hx hb dX12_item_45 ?_
          refine lv_i2l hx hb dX12_item_46 rfl ?_
          refine rl_calliQ (rl_runS (As := [.long ((x2).toInt64), .long (0), .long (((nI (G.1 0 n0)) - (nI (1))).toInt64)]) (rest := []) hC hW (cR_in l D t A _ z _ _ _) cs_X12_117 sm_X12_in ⟨(Nat.le_of_ble_eq_true rfl), (Nat.le_of_ble_eq_true rfl)⟩ rfl hl.1 rfl (Nat.le_of_ble_eq_true rfl) dX12_item_47 ⟨(Nat.le_of_ble_eq_true rfl), (Nat.le_of_ble_eq_true rfl)⟩) hW (fun r f1 H locs hp hW => ?_)
          obtain ⟨rfl, hp⟩ := hp
          rw [rg_ixm (by decide) (by omega)] at hp
          rcases hp with ⟨rfl, hp⟩ | ⟨rfl, hp⟩
          · obtain ⟨i0, hi0, rfl⟩ := hp
            refine lv_if_ne (tgt := 55) hx hb dX12_item_50 (by decide) (fun c9 => ?_) (fun c9 => ?_)
            · refine lv_aload_n hx hb dX12_item_55 rfl (lv_at hl 1 rfl) ?_
              refine rl_get (v := .ref (m + 13)) hC hW fl_X12_49 hR.1 rfl dX12_item_56 ?_
              refine lv_bipush (v := (nI (8))) hx hb dX12_item_59 (by decide) ?_
              refine lv_iload hx hb dX12_item_61 (lv_at hl 0 rfl) ?_
              refine lv_imul hx hb dX12_item_63 ?_
              refine rl_topn (pk_mul _ _) ?_
              refine lv_iload_n hx hb dX12_item_64 rfl (lv_at hl 3 rfl) ?_
              refine lv_iadd hx hb dX12_item_65 ?_
              refine rl_topn (nI_add _ _) ?_
              refine rl_iald_n (g := I 13) hC hW hR.a13 (by omega) (by decide) dX12_item_66 ?_
              refine rl_topn (hGr.2 _ (by omega)) ?_
              refine lv_istore (lv' := [(5, .int (G.2.1 1 (8 * n0 + i0))), (4, .int (nI (n0))), (0, .ref (m)), (1, .int (nI (p0))), (2, .int (nI (i0))), (3, .int (x3))]) hx hb dX12_item_67 hl (by decide) rfl (fun ls hl => ?_)
              refine lv_aload_n hx hb dX12_item_69 rfl (lv_at hl 2 rfl) ?_
              refine rl_get (v := .ref (m + 13)) hC hW fl_X12_49 hR.1 rfl dX12_item_70 ?_
              refine lv_bipush (v := (nI (8))) hx hb dX12_item_73 (by decide) ?_
              refine lv_iload hx hb dX12_item_75 (lv_at hl 1 rfl) ?_
              refine lv_imul hx hb dX12_item_77 ?_
              refine rl_topn (pk_mul _ _) ?_
              refine lv_iload_n hx hb dX12_item_78 rfl (lv_at hl 4 rfl) ?_
              refine lv_iadd hx hb dX12_item_79 ?_
              refine rl_topn (nI_add _ _) ?_
              refine lv_iload_n hx hb dX12_item_80 rfl (lv_at hl 5 rfl) ?_
              refine rl_iast_n (g := I 13) hC hW hR.a13 (by omega) (by decide) dX12_item_81 (fun H locs hW => ?_)
              have hR := hR.s13 (upd (I 13) (((8) * (n0)) + (i0)) ((x3)))
              refine lv_iload hx hb dX12_item_82 (lv_at hl 0 rfl) ?_
              exact rl_iret hC hW hr hlk (Nat.le_refl _) (Nat.le_refl _) ⟨_, rfl, rfl, rfl, ρ, κ, gY G 1 (upd (G.2.1 1) (8 * n0 + i0) x3), (by simp only [f_item, ob, pu_ix_s hp0 (by decide), hh, pu_ix_s hi0 (by omega)]), by omega, by omega, ⟨_, _, _, hR, hTc, hTp, hTk, hGW, hGr.item, hGd, hGp, hGt, hGc, hF11, hF14⟩⟩ dX12_item_84
            · exact absurd c9 (by decide)
          · refine lv_if_ne (tgt := 55) hx hb dX12_item_50 (by decide) (fun c9 => ?_) (fun c9 => ?_)
            · exact absurd rfl c9
            · refine lv_iconst (v := (-1)) hx hb dX12_item_53 (by decide) ?_
              exact rl_iret hC hW hr hlk (Nat.le_refl _) (Nat.le_refl _) ⟨_, rfl, rfl, rfl, ρ, κ, G, (by simp only [f_item, ob, pu_ix_s hp0 (by decide), hh, pu_ix_n (n := G.1 0 n0) (by omega) hp]), by omega, by omega, ⟨_, _, _, hR, hTc, hTp, hTk, hGW, hGr, hGd, hGp, hGt, hGc, hF11, hF14⟩⟩ dX12_item_54
        · exact absurd (by decide) c2
      · refine lv_iconst (v := (nI (3))) hx hb dX12_item_17 (by decide) ?_
        refine lv_icmp_eq (tgt := 23) hx hb dX12_item_18 (by decide) (fun c_4 => ?_) (fun c_4 => ?_)
        · first | exact absurd c_4 (by decide) | exact absurd (by decide) c_4
        · refine lv_iconst (v := (-1)) hx hb dX12_item_21 (by decide) ?_
          exact rl_iret hC hW hr hlk (Nat.le_refl _) (Nat.le_refl _) ⟨_, rfl, rfl, rfl, ρ, κ, G, (by simp only [f_item, ob, pu_ix_s hp0 (by decide), hh]), by omega, by omega, ⟨_, _, _, hR, hTc, hTp, hTk, hGW, hGr, hGd, hGp, hGt, hGc, hF11, hF14⟩⟩ dX12_item_22
  · have hq := hp
    refine lv_if_eq (tgt := 21) hx hb dX12_item_4 (by decide) (fun c9 => ?_) (fun c9 => ?_)
    · refine lv_iconst (v := (-1)) hx hb dX12_item_21 (by decide) ?_
      exact rl_iret hC hW hr hlk (Nat.le_refl _) (Nat.le_refl _) ⟨_, rfl, rfl, rfl, ρ, κ, G, (by simp only [f_item, ob, pu_ix_n (n := 10) (by decide) hq]), by omega, by omega, ⟨_, _, _, hR, hTc, hTp, hTk, hGW, hGr, hGd, hGp, hGt, hGc, hF11, hF14⟩⟩ dX12_item_22
    · exact absurd rfl c9

set_option maxHeartbeats 4000000 in
set_option maxRecDepth 100000 in
theorem cR_cause (l : Launch) (D : va_G) (t : Nat → ClassId) (A : Nat → Prop) (f : rl_M) (z : Nat) (m : Nat) (T : Nat → Nat → Nat) (ρ κ : Nat) (G : pG) (hS : RS t f m T ρ κ G) (hρ : ρ + 84 ≤ 43100) (hκ : κ + 51 ≤ 26200) (x1 : Int32) : rl_Met l yX12_cause (.code yX12_cause cX12_cause 2 (some FieldType.int)) (rl_rm 2 0 0) D t A f z [.ref (m), .int (x1)] (rl_qi z fun r f1 => f_cause G x1 = r ∧ RS t f1 m T ρ κ G) := by
  obtain ⟨I, L, F, hR, hTc, hTp, hTk, hGW, hGr, hGd, hGp, hGt, hGc, hF11, hF14⟩ := hS
  refine rl_begin (own := RX12) (lv := [(0, .ref (m)), (1, .int (x1))]) (by decide +kernel) rfl (Nat.le_of_ble_eq_true rfl) rfl fun p e s m0 args below meth c ls H locs hC hr hlk hnm hW hl hx hb => ?_
  refine lv_iload_n hx hb dX12_cause_0 rfl (lv_at hl 1 rfl) ?_
  refine lv_if_ne (tgt := 11) hx hb dX12_cause_1 (by decide) (fun c_1 => ?_) (fun c_1 => ?_)
  · refine lv_iload_n hx hb dX12_cause_11 rfl (lv_at hl 1 rfl) ?_
    refine lv_iconst (v := (nI (1))) hx hb dX12_cause_12 (by decide) ?_
    refine lv_icmp_ne (tgt := 23) hx hb dX12_cause_13 (by decide) (fun c_2 => ?_) (fun c_2 => ?_)
    · refine lv_iload_n hx hb dX12_cause_23 rfl (lv_at hl 1 rfl) ?_
      refine lv_iconst (v := (nI (2))) hx hb dX12_cause_24 (by decide) ?_
      refine lv_icmp_ne (tgt := 35) hx hb dX12_cause_25 (by decide) (fun c_3 => ?_) (fun c_3 => ?_)
      · refine lv_iconst (v := (-1)) hx hb dX12_cause_35 (by decide) ?_
        exact rl_iret hC hW hr hlk (Nat.le_refl _) (Nat.le_refl _) ⟨_, rfl, rfl, rfl, by unfold f_cause; (repeat (first | rw [if_pos (by assumption)] | rw [if_neg (by assumption)])); first | done | rfl | exact hGc.1.symm | exact hGc.2.1.symm | exact hGc.2.2.1.symm, ⟨_, _, _, hR, hTc, hTp, hTk, hGW, hGr, hGd, hGp, hGt, hGc, hF11, hF14⟩⟩ dX12_cause_36
      · refine lv_aload_n hx hb dX12_cause_28 rfl (lv_at hl 0 rfl) ?_
        refine rl_get (v := .int (F 26)) hC hW fl_X12_190 hR.1 rfl dX12_cause_29 ?_
        refine lv_goto (tgt := 36) hx hb dX12_cause_32 (by decide) ?_
        exact rl_iret hC hW hr hlk (Nat.le_refl _) (Nat.le_refl _) ⟨_, rfl, rfl, rfl, by unfold f_cause; (repeat (first | rw [if_pos (by assumption)] | rw [if_neg (by assumption)])); first | done | rfl | exact hGc.1.symm | exact hGc.2.1.symm | exact hGc.2.2.1.symm, ⟨_, _, _, hR, hTc, hTp, hTk, hGW, hGr, hGd, hGp, hGt, hGc, hF11, hF14⟩⟩ dX12_cause_36
    · refine lv_aload_n hx hb dX12_cause_16 rfl (lv_at hl 0 rfl) ?_
      refine rl_get (v := .int (F 25)) hC hW fl_X12_78 hR.1 rfl dX12_cause_17 ?_
      refine lv_goto (tgt := 36) hx hb dX12_cause_20 (by decide) ?_
      exact rl_iret hC hW hr hlk (Nat.le_refl _) (Nat.le_refl _) ⟨_, rfl, rfl, rfl, by unfold f_cause; (repeat (first | rw [if_pos (by assumption)] | rw [if_neg (by assumption)])); first | done | rfl | exact hGc.1.symm | exact hGc.2.1.symm | exact hGc.2.2.1.symm, ⟨_, _, _, hR, hTc, hTp, hTk, hGW, hGr, hGd, hGp, hGt, hGc, hF11, hF14⟩⟩ dX12_cause_36
  · refine lv_aload_n hx hb dX12_cause_4 rfl (lv_at hl 0 rfl) ?_
    refine rl_get (v := .int (F 24)) hC hW fl_X12_187 hR.1 rfl dX12_cause_5 ?_
    refine lv_goto (tgt := 36) hx hb dX12_cause_8 (by decide) ?_
    exact rl_iret hC hW hr hlk (Nat.le_refl _) (Nat.le_refl _) ⟨_, rfl, rfl, rfl, by unfold f_cause; (repeat (first | rw [if_pos (by assumption)] | rw [if_neg (by assumption)])); first | done | rfl | exact hGc.1.symm | exact hGc.2.1.symm | exact hGc.2.2.1.symm, ⟨_, _, _, hR, hTc, hTp, hTk, hGW, hGr, hGd, hGp, hGt, hGc, hF11, hF14⟩⟩ dX12_cause_36

set_option maxHeartbeats 4000000 in
set_option maxRecDepth 100000 in
theorem cR_status (l : Launch) (D : va_G) (t : Nat → ClassId) (A : Nat → Prop) (f : rl_M) (z : Nat) (m : Nat) (T : Nat → Nat → Nat) (ρ κ : Nat) (G : pG) (hS : RS t f m T ρ κ G) (hρ : ρ + 84 ≤ 43100) (hκ : κ + 51 ≤ 26200) : rl_Met l yX12_status (.code yX12_status cX12_status 1 (some FieldType.int)) (rl_rm 2 0 0) D t A f z [.ref (m)] (rl_qi z fun r f1 => RS t f1 m T ρ κ G) := by
  obtain ⟨I, L, F, hR, hTc, hTp, hTk, hGW, hGr, hGd, hGp, hGt, hGc, hF11, hF14⟩ := hS
  refine rl_begin (own := RX12) (lv := [(0, .ref (m))]) (by decide +kernel) rfl (Nat.le_of_ble_eq_true rfl) rfl fun p e s m0 args below meth c ls H locs hC hr hlk hnm hW hl hx hb => ?_
  refine lv_aload_n hx hb dX12_status_0 rfl (lv_at hl 0 rfl) ?_
  refine rl_get (v := .int (F 27)) hC hW fl_X12_198 hR.1 rfl dX12_status_1 ?_
  exact rl_iret hC hW hr hlk (Nat.le_refl _) (Nat.le_refl _) ⟨_, rfl, rfl, rfl, ⟨_, _, _, hR, hTc, hTp, hTk, hGW, hGr, hGd, hGp, hGt, hGc, hF11, hF14⟩⟩ dX12_status_4

set_option maxHeartbeats 4000000 in
set_option maxRecDepth 100000 in
theorem cR_count (l : Launch) (D : va_G) (t : Nat → ClassId) (A : Nat → Prop) (f : rl_M) (z : Nat) (m : Nat) (T : Nat → Nat → Nat) (ρ κ : Nat) (G : pG) (hS : RS t f m T ρ κ G) (hρ : ρ + 84 ≤ 43100) (hκ : κ + 51 ≤ 26200) (x1 : Int32) : rl_Met l yX12_count (.code yX12_count cX12_count 4 (some FieldType.int)) (rl_rm 2 0 0) D t A f z [.ref (m), .int (x1)] (rl_qi z fun r f1 => f_count G x1 = r ∧ RS t f1 m T ρ κ G) := by
  obtain ⟨I, L, F, hR, hTc, hTp, hTk, hGW, hGr, hGd, hGp, hGt, hGc, hF11, hF14⟩ := hS
  refine rl_begin (own := RX12) (lv := [(0, .ref (m)), (1, .int (x1))]) (by decide +kernel) rfl (Nat.le_of_ble_eq_true rfl) rfl fun p e s m0 args below meth c ls H locs hC hr hlk hnm hW hl hx hb => ?_
  refine lv_iconst (v := (nI (0))) hx hb dX12_count_0 (by decide) ?_
  refine lv_istore_n (lv' := [(2, .int (nI (0))), (0, .ref (m)), (1, .int (x1))]) hx hb dX12_count_1 rfl hl (by decide) rfl (fun ls hl => ?_)
  refine lv_iconst (v := (nI (0))) hx hb dX12_count_2 (by decide) ?_
  refine lv_istore_n (lv' := [(3, .int (nI (0))), (2, .int (nI (0))), (0, .ref (m)), (1, .int (x1))]) hx hb dX12_count_3 rfl hl (by decide) rfl (fun ls hl => ?_)
  replace hl : lv_has ls 4 [(0, .ref (m)), (1, .int (x1)), (2, .int (nI (0))), (3, .int (nI (0)))] := lv_sub hl [2, 3, 1, 0] rfl
  replace hl : ∃ i : Nat, ∃ y : Nat, (i ≤ 10) ∧ (y = pu_held (G.2.2.2 0) i) ∧ lv_has ls 4 [(0, .ref (m)), (1, .int (x1)), (2, .int (nI (y))), (3, .int (nI (i)))] := ⟨0, _, Nat.zero_le _, rfl, hl⟩
  obtain ⟨i, y, hi, hy, hl⟩ := hl
  obtain ⟨n, hn⟩ : ∃ n, 10 - i < n := ⟨_, Nat.lt_succ_self _⟩
  induction n generalizing i y ls with
  | zero => exact absurd hn (Nat.not_lt_zero _)
  | succ n ih =>
    have hyl := pu_held_le (G.2.2.2 0) i
    rw [← hy] at hyl
    refine lv_iload_n hx hb dX12_count_4 rfl (lv_at hl 3 rfl) ?_
    refine lv_bipush (v := (nI (10))) hx hb dX12_count_5 (by decide) ?_
    refine lv_icmp_ge (tgt := 34) hx hb dX12_count_7 (by decide) (fun c1 => ?_) (fun c1 => ?_)
    · have h10 : i = 10 := by have := rg_le c1 (by decide) (by omega); omega
      refine lv_iload_n hx hb dX12_count_34 rfl (lv_at hl 1 rfl) ?_
      refine lv_if_ne (tgt := 45) hx hb dX12_count_35 (by decide) (fun c_1 => ?_) (fun c_1 => ?_)
      · refine lv_iload_n hx hb dX12_count_45 rfl (lv_at hl 1 rfl) ?_
        refine lv_iconst (v := (nI (1))) hx hb dX12_count_46 (by decide) ?_
        refine lv_icmp_ne (tgt := 57) hx hb dX12_count_47 (by decide) (fun c_2 => ?_) (fun c_2 => ?_)
        · refine lv_iload_n hx hb dX12_count_57 rfl (lv_at hl 1 rfl) ?_
          refine lv_iconst (v := (nI (2))) hx hb dX12_count_58 (by decide) ?_
          refine lv_icmp_ne (tgt := 69) hx hb dX12_count_59 (by decide) (fun c_3 => ?_) (fun c_3 => ?_)
          · refine lv_iload_n hx hb dX12_count_69 rfl (lv_at hl 1 rfl) ?_
            refine lv_iconst (v := (nI (3))) hx hb dX12_count_70 (by decide) ?_
            refine lv_icmp_ne (tgt := 81) hx hb dX12_count_71 (by decide) (fun c_4 => ?_) (fun c_4 => ?_)
            · refine lv_iload_n hx hb dX12_count_81 rfl (lv_at hl 1 rfl) ?_
              refine lv_iconst (v := (nI (4))) hx hb dX12_count_82 (by decide) ?_
              refine lv_icmp_ne (tgt := 90) hx hb dX12_count_83 (by decide) (fun c_5 => ?_) (fun c_5 => ?_)
              · refine lv_iconst (v := (-1)) hx hb dX12_count_90 (by decide) ?_
                exact rl_iret hC hW hr hlk (Nat.le_refl _) (Nat.le_refl _) ⟨_, rfl, rfl, rfl, by unfold f_count; (repeat (first | rw [if_pos (by assumption)] | rw [if_neg (by assumption)])); first | done | rfl | exact hGc.2.2.2.1.symm | exact hGc.2.2.2.2.1.symm | exact hGc.2.2.2.2.2.symm | exact hGt.1.symm | rw [hy, h10], ⟨_, _, _, hR, hTc, hTp, hTk, hGW, hGr, hGd, hGp, hGt, hGc, hF11, hF14⟩⟩ dX12_count_91
              · refine lv_iload_n hx hb dX12_count_86 rfl (lv_at hl 2 rfl) ?_
                refine lv_goto (tgt := 91) hx hb dX12_count_87 (by decide) ?_
                exact rl_iret hC hW hr hlk (Nat.le_refl _) (Nat.le_refl _) ⟨_, rfl, rfl, rfl, by unfold f_count; (repeat (first | rw [if_pos (by assumption)] | rw [if_neg (by assumption)])); first | done | rfl | exact hGc.2.2.2.1.symm | exact hGc.2.2.2.2.1.symm | exact hGc.2.2.2.2.2.symm | exact hGt.1.symm | rw [hy, h10], ⟨_, _, _, hR, hTc, hTp, hTk, hGW, hGr, hGd, hGp, hGt, hGc, hF11, hF14⟩⟩ dX12_count_91
            · refine lv_aload_n hx hb dX12_count_74 rfl (lv_at hl 0 rfl) ?_
              refine rl_get (v := .int (F 22)) hC hW fl_X12_235 hR.1 rfl dX12_count_75 ?_
              refine lv_goto (tgt := 91) hx hb dX12_count_78 (by decide) ?_
              exact rl_iret hC hW hr hlk (Nat.le_refl _) (Nat.le_refl _) ⟨_, rfl, rfl, rfl, by unfold f_count; (repeat (first | rw [if_pos (by assumption)] | rw [if_neg (by assumption)])); first | done | rfl | exact hGc.2.2.2.1.symm | exact hGc.2.2.2.2.1.symm | exact hGc.2.2.2.2.2.symm | exact hGt.1.symm | rw [hy, h10], ⟨_, _, _, hR, hTc, hTp, hTk, hGW, hGr, hGd, hGp, hGt, hGc, hF11, hF14⟩⟩ dX12_count_91
          · refine lv_aload_n hx hb dX12_count_62 rfl (lv_at hl 0 rfl) ?_
            refine rl_get (v := .int (F 30)) hC hW fl_X12_279 hR.1 rfl dX12_count_63 ?_
            refine lv_goto (tgt := 91) hx hb dX12_count_66 (by decide) ?_
            exact rl_iret hC hW hr hlk (Nat.le_refl _) (Nat.le_refl _) ⟨_, rfl, rfl, rfl, by unfold f_count; (repeat (first | rw [if_pos (by assumption)] | rw [if_neg (by assumption)])); first | done | rfl | exact hGc.2.2.2.1.symm | exact hGc.2.2.2.2.1.symm | exact hGc.2.2.2.2.2.symm | exact hGt.1.symm | rw [hy, h10], ⟨_, _, _, hR, hTc, hTp, hTk, hGW, hGr, hGd, hGp, hGt, hGc, hF11, hF14⟩⟩ dX12_count_91
        · refine lv_aload_n hx hb dX12_count_50 rfl (lv_at hl 0 rfl) ?_
          refine rl_get (v := .int (F 29)) hC hW fl_X12_276 hR.1 rfl dX12_count_51 ?_
          refine lv_goto (tgt := 91) hx hb dX12_count_54 (by decide) ?_
          exact rl_iret hC hW hr hlk (Nat.le_refl _) (Nat.le_refl _) ⟨_, rfl, rfl, rfl, by unfold f_count; (repeat (first | rw [if_pos (by assumption)] | rw [if_neg (by assumption)])); first | done | rfl | exact hGc.2.2.2.1.symm | exact hGc.2.2.2.2.1.symm | exact hGc.2.2.2.2.2.symm | exact hGt.1.symm | rw [hy, h10], ⟨_, _, _, hR, hTc, hTp, hTk, hGW, hGr, hGd, hGp, hGt, hGc, hF11, hF14⟩⟩ dX12_count_91
      · refine lv_aload_n hx hb dX12_count_38 rfl (lv_at hl 0 rfl) ?_
        refine rl_get (v := .int (F 28)) hC hW fl_X12_180 hR.1 rfl dX12_count_39 ?_
        refine lv_goto (tgt := 91) hx hb dX12_count_42 (by decide) ?_
        exact rl_iret hC hW hr hlk (Nat.le_refl _) (Nat.le_refl _) ⟨_, rfl, rfl, rfl, by unfold f_count; (repeat (first | rw [if_pos (by assumption)] | rw [if_neg (by assumption)])); first | done | rfl | exact hGc.2.2.2.1.symm | exact hGc.2.2.2.2.1.symm | exact hGc.2.2.2.2.2.symm | exact hGt.1.symm | rw [hy, h10], ⟨_, _, _, hR, hTc, hTp, hTk, hGW, hGr, hGd, hGp, hGt, hGc, hF11, hF14⟩⟩ dX12_count_91
    · have hlt : i < 10 := rg_lt c1 (by omega) (by omega)
      refine lv_iload_n hx hb dX12_count_10 rfl (lv_at hl 2 rfl) ?_
      refine lv_aload_n hx hb dX12_count_11 rfl (lv_at hl 0 rfl) ?_
      refine rl_get (v := .ref (m + 18)) hC hW fl_X12_66 hR.1 rfl dX12_count_12 ?_
      refine lv_iload_n hx hb dX12_count_15 rfl (lv_at hl 3 rfl) ?_
      refine rl_iald_n (g := I 19) hC hW hR.a19 (by omega) (by decide) dX12_count_16 ?_
      refine rl_topn (hGp.1 i hlt) ?_
      refine lv_iconst (v := (-1)) hx hb dX12_count_17 (by decide) ?_
      refine lv_icmp_ne (tgt := 25) hx hb dX12_count_18 (by decide) (fun c2 => ?_) (fun c2 => ?_)
      · have hno : G.2.2.2 0 i ≠ none := fun q => c2 (by rw [q]; rfl)
        refine lv_iconst (v := (nI (1))) hx hb dX12_count_25 (by decide) ?_
        refine lv_iadd hx hb dX12_count_26 ?_
        refine rl_topn (nI_add _ _) ?_
        refine lv_istore_n (lv' := [(2, .int (nI ((y) + (1)))), (0, .ref (m)), (1, .int (x1)), (3, .int (nI (i)))]) hx hb dX12_count_27 rfl hl (by decide) rfl (fun ls hl => ?_)
        refine lv_iinc (v := (nI ((i) + 1))) (lv' := [(3, .int (nI ((i) + 1))), (2, .int (nI ((y) + (1)))), (0, .ref (m)), (1, .int (x1))]) hx hb dX12_count_28 hl (k := 3) rfl (nI_1 _) (by decide) rfl (fun ls hl => ?_)
        refine lv_goto (tgt := 4) hx hb dX12_count_31 (by decide) ?_
        replace hl : lv_has ls 4 [(0, .ref (m)), (1, .int (x1)), (2, .int (nI ((y) + (1)))), (3, .int (nI ((i) + 1)))] := lv_sub hl [2, 3, 1, 0] rfl
        exact ih ls (i + 1) _ (by omega) (by rw [hy, pu_held]; cases hx : G.2.2.2 0 i with | none => exact absurd hx hno | some x => rfl) hl (by omega)
      · have hno : G.2.2.2 0 i = none := enc_inj (ρ := ρ) (κ := κ) (by omega) (by omega) (hGW.2.2.1 i hlt) trivial c2
        refine lv_iconst (v := (nI (0))) hx hb dX12_count_21 (by decide) ?_
        refine lv_goto (tgt := 26) hx hb dX12_count_22 (by decide) ?_
        refine lv_iadd hx hb dX12_count_26 ?_
        refine rl_topn (nI_add _ _) ?_
        refine lv_istore_n (lv' := [(2, .int (nI ((y) + (0)))), (0, .ref (m)), (1, .int (x1)), (3, .int (nI (i)))]) hx hb dX12_count_27 rfl hl (by decide) rfl (fun ls hl => ?_)
        refine lv_iinc (v := (nI ((i) + 1))) (lv' := [(3, .int (nI ((i) + 1))), (2, .int (nI ((y) + (0)))), (0, .ref (m)), (1, .int (x1))]) hx hb dX12_count_28 hl (k := 3) rfl (nI_1 _) (by decide) rfl (fun ls hl => ?_)
        refine lv_goto (tgt := 4) hx hb dX12_count_31 (by decide) ?_
        replace hl : lv_has ls 4 [(0, .ref (m)), (1, .int (x1)), (2, .int (nI ((y) + (0)))), (3, .int (nI ((i) + 1)))] := lv_sub hl [2, 3, 1, 0] rfl
        exact ih ls (i + 1) _ (by omega) (by rw [hy, pu_held]; rw [hno]) hl (by omega)

set_option maxHeartbeats 4000000 in
set_option maxRecDepth 100000 in
theorem cR_leaf (l : Launch) (D : va_G) (t : Nat → ClassId) (A : Nat → Prop) (f : rl_M) (z : Nat) (m : Nat) (T : Nat → Nat → Nat) (ρ κ : Nat) (G : pG) (hS : RS t f m T ρ κ G) (hρ : ρ + 84 ≤ 43100) (hκ : κ + 51 ≤ 26200) (x1 : Int32) : rl_Met l yX12_leaf (.code yX12_leaf cX12_leaf 3 (some FieldType.long)) (rl_rm 2 0 0) D t A f z [.ref (m), .int (x1)] (rl_ql z fun r f1 => f_leaf G x1 = r ∧ RS t f1 m T ρ κ G) := by
  obtain ⟨I, L, F, hR, hTc, hTp, hTk, hGW, hGr, hGd, hGp, hGt, hGc, hF11, hF14⟩ := hS
  refine rl_begin (own := RX12) (lv := [(0, .ref (m)), (1, .int (x1))]) (by decide +kernel) rfl (Nat.le_of_ble_eq_true rfl) rfl fun p e s m0 args below meth c ls H locs hC hr hlk hnm hW hl hx hb => ?_
  have hlv := hGW.2.2.2.2
  refine lv_iload_n hx hb dX12_leaf_0 rfl (lv_at hl 1 rfl) ?_
  refine lv_i2l hx hb dX12_leaf_1 rfl ?_
  refine lv_lconst (v := 0) hx hb dX12_leaf_2 (by decide) ?_
  refine lv_aload_n hx hb dX12_leaf_3 rfl (lv_at hl 0 rfl) ?_
  refine rl_get (v := .int (F 22)) hC hW fl_X12_235 hR.1 rfl dX12_leaf_4 ?_
  refine rl_topn (y := nI (G.1 4 0)) (hGt.1) ?_
  refine lv_iconst (v := (nI (1))) hx hb dX12_leaf_7 (by decide) ?_
  refine lv_isub hx hb dX12_leaf_8 ?_
  refine lv_i2l hx hb dX12_leaf_9 rfl ?_
  refine rl_calliQ (rl_runS (As := [.long ((x1).toInt64), .long (0), .long (((nI (G.1 4 0)) - (nI (1))).toInt64)]) (rest := []) hC hW (cR_in l D t A _ z _ _ _) cs_X12_117 sm_X12_in ⟨(Nat.le_of_ble_eq_true rfl), (Nat.le_of_ble_eq_true rfl)⟩ rfl hl.1 rfl (Nat.le_of_ble_eq_true rfl) dX12_leaf_10 ⟨(Nat.le_of_ble_eq_true rfl), (Nat.le_of_ble_eq_true rfl)⟩) hW (fun r f1 H locs hp hW => ?_)
  obtain ⟨rfl, hp⟩ := hp
  rw [rg_ixm (by decide) (by omega)] at hp
  rcases hp with ⟨rfl, hp⟩ | ⟨rfl, hp⟩
  · obtain ⟨i0, hi0, rfl⟩ := hp
    refine lv_istore_n (lv' := [(2, .int (1)), (0, .ref (m)), (1, .int (nI (i0)))]) hx hb dX12_leaf_13 rfl hl (by decide) rfl (fun ls hl => ?_)
    refine lv_aload_n hx hb dX12_leaf_14 rfl (lv_at hl 1 rfl) ?_
    refine lv_iload_n hx hb dX12_leaf_15 rfl (lv_at hl 0 rfl) ?_
    refine lv_if_eq (tgt := 23) hx hb dX12_leaf_16 (by decide) (fun c_1 => ?_) (fun c_1 => ?_)
    · first | exact absurd c_1 (by decide) | exact absurd (by decide) c_1
    · refine lv_iconst (v := (nI (0))) hx hb dX12_leaf_19 (by decide) ?_
      refine lv_goto (tgt := 24) hx hb dX12_leaf_20 (by decide) ?_
      refine rl_put (v := .int (nI (0))) hC hW fp_X12_198 hR.1 (Nat.le_of_ble_eq_true rfl) rfl rfl dX12_leaf_24 (fun H locs hW => ?_)
      have hR := hR.f27 (nI (0))
      refine lv_iload_n hx hb dX12_leaf_27 rfl (lv_at hl 0 rfl) ?_
      refine lv_if_eq (tgt := 40) hx hb dX12_leaf_28 (by decide) (fun c_2 => ?_) (fun c_2 => ?_)
      · first | exact absurd c_2 (by decide) | exact absurd (by decide) c_2
      · refine lv_aload_n hx hb dX12_leaf_31 rfl (lv_at hl 1 rfl) ?_
        refine rl_get (v := .ref (m + 21)) hC hW fl_X12_75 hR.1 rfl dX12_leaf_32 ?_
        refine lv_iload_n hx hb dX12_leaf_35 rfl (lv_at hl 2 rfl) ?_
        refine rl_lald_n (g := L 23) hC hW hR.a23 (by omega) (by decide) dX12_leaf_36 ?_
        refine lv_goto (tgt := 41) hx hb dX12_leaf_37 (by decide) ?_
        exact rl_lret hC hW hr hlk (Nat.le_refl _) (Nat.le_refl _) ⟨_, rfl, rfl, rfl, by simp only [f_leaf, ob, pu_ix_s hi0 (show G.1 4 0 < 2 ^ 31 by omega)]; exact (hGt.2 i0 hi0).symm, ⟨_, _, _, hR, hTc, hTp, hTk, hGW, hGr, hGd, hGp, hGt, hGc, hF11, hF14⟩⟩ dX12_leaf_41
  · refine lv_istore_n (lv' := [(2, .int (0)), (0, .ref (m)), (1, .int (x1))]) hx hb dX12_leaf_13 rfl hl (by decide) rfl (fun ls hl => ?_)
    refine lv_aload_n hx hb dX12_leaf_14 rfl (lv_at hl 1 rfl) ?_
    refine lv_iload_n hx hb dX12_leaf_15 rfl (lv_at hl 0 rfl) ?_
    refine lv_if_eq (tgt := 23) hx hb dX12_leaf_16 (by decide) (fun c_3 => ?_) (fun c_3 => ?_)
    · refine lv_iconst (v := (-1)) hx hb dX12_leaf_23 (by decide) ?_
      refine rl_put (v := .int (-1)) hC hW fp_X12_198 hR.1 (Nat.le_of_ble_eq_true rfl) rfl rfl dX12_leaf_24 (fun H locs hW => ?_)
      have hR := hR.f27 (-1)
      refine lv_iload_n hx hb dX12_leaf_27 rfl (lv_at hl 0 rfl) ?_
      refine lv_if_eq (tgt := 40) hx hb dX12_leaf_28 (by decide) (fun c_4 => ?_) (fun c_4 => ?_)
      · refine lv_lconst (v := 0) hx hb dX12_leaf_40 (by decide) ?_
        exact rl_lret hC hW hr hlk (Nat.le_refl _) (Nat.le_refl _) ⟨_, rfl, rfl, rfl, by simp only [f_leaf, ob, pu_ix_n (show G.1 4 0 < 2 ^ 31 by omega) hp], ⟨_, _, _, hR, hTc, hTp, hTk, hGW, hGr, hGd, hGp, hGt, hGc, hF11, hF14⟩⟩ dX12_leaf_41
      · first | exact absurd c_4 (by decide) | exact absurd (by decide) c_4
    · first | exact absurd c_3 (by decide) | exact absurd (by decide) c_3

theorem rg_ixn {x : Int32} {c : Nat} {a : Int64} (ha : a.toInt = 0) (hc : c < 2 ^ 30) : (a ≤ x.toInt64 ∧ x.toInt64 ≤ (nI c).toInt64) ↔ ∃ j : Nat, j ≤ c ∧ x = nI j := by
  rw [Int64.le_iff_toInt_le, Int64.le_iff_toInt_le, Int32.toInt_toInt64, Int32.toInt_toInt64, ha, nI_toInt (n := c) (by omega)]
  constructor
  · rintro ⟨h1, h2⟩
    refine ⟨x.toInt.toNat, by omega, ?_⟩
    apply Int32.toInt_inj.mp
    rw [nI_toInt (by omega)]
    omega
  · rintro ⟨j, hj, rfl⟩
    rw [nI_toInt (by omega)]
    omega

theorem rg_le1 {x : Int32} {c : Nat} : (¬ ∃ j : Nat, j ≤ c ∧ x = nI j) → ¬ ∃ j : Nat, j < c + 1 ∧ x = nI j := fun h ⟨j, h1, h2⟩ => h ⟨j, by omega, h2⟩
theorem GW.lv {T : Nat → Nat → Nat} {ρ κ n : Nat} {G : pG} (hG : GW T ρ κ G) (hn : n ≤ 250) {g : Nat → Int64} : GW T ρ κ (gN (gZ G 2 g) 4 (fun _ => n)) := ⟨hG.1, hG.2.1, hG.2.2.1, hG.2.2.2.1, hn⟩
theorem GW.cut {T : Nat → Nat → Nat} {ρ κ n : Nat} {G : pG} (hG : GW T ρ κ G) (hn : n ≤ 250) : GW T ρ κ (gN G 4 (fun _ => n)) := ⟨hG.1, hG.2.1, hG.2.2.1, hG.2.2.2.1, hn⟩
theorem RGt.set {G : pG} {f22 v : Int32} {b23 : Nat → Int64} {k n : Nat} {x : Int64} (hG : RGt G f22 b23) (hk : k ≤ G.1 4 0) (hn : n = max (G.1 4 0) (k + 1)) (hv : v = nI n) : RGt (gN (gZ G 2 (vp_updL (G.2.2.1 2) k x)) 4 (fun _ => n)) v (vp_updL b23 k x) := by
  refine ⟨hv, fun y hy => ?_⟩
  show vp_updL b23 k x y = vp_updL (G.2.2.1 2) k x y
  replace hy : y < n := hy
  unfold vp_updL
  split
  · rfl
  · exact hG.2 y (by omega)

set_option maxHeartbeats 4000000 in
set_option maxRecDepth 100000 in
theorem cR_set (l : Launch) (D : va_G) (t : Nat → ClassId) (A : Nat → Prop) (f : rl_M) (z : Nat) (m : Nat) (T : Nat → Nat → Nat) (ρ κ : Nat) (G : pG) (hS : RS t f m T ρ κ G) (hρ : ρ + 84 ≤ 43100) (hκ : κ + 51 ≤ 26200) (x1 : Int32) (x2 : Int64) : rl_Met l yX12_set (.code yX12_set cX12_set 4 (some FieldType.int)) (rl_rm 2 0 0) D t A f z [.ref (m), .int (x1), .long (x2)] (rl_qi z fun r f1 => ∃ ρ' κ' G', f_set ρ κ G x1 x2 = (r, ρ', κ', G') ∧ ρ' ≤ ρ + 84 ∧ κ' ≤ κ + 51 ∧ RS t f1 m T ρ' κ' G') := by
  obtain ⟨I, L, F, hR, hTc, hTp, hTk, hGW, hGr, hGd, hGp, hGt, hGc, hF11, hF14⟩ := hS
  refine rl_begin (own := RX12) (lv := [(0, .ref (m)), (1, .int (x1)), (2, .long (x2))]) (by decide +kernel) rfl (Nat.le_of_ble_eq_true rfl) rfl fun p e s m0 args below meth c ls H locs hC hr hlk hnm hW hl hx hb => ?_
  have hlv := hGW.2.2.2.2
  refine lv_iload_n hx hb dX12_set_0 rfl (lv_at hl 1 rfl) ?_
  refine lv_i2l hx hb dX12_set_1 rfl ?_
  refine lv_lconst (v := 0) hx hb dX12_set_2 (by decide) ?_
  refine lv_aload_n hx hb dX12_set_3 rfl (lv_at hl 0 rfl) ?_
  refine rl_get (v := .int (F 22)) hC hW fl_X12_235 hR.1 rfl dX12_set_4 ?_
  refine rl_topn (y := nI (G.1 4 0)) (hGt.1) ?_
  refine lv_i2l hx hb dX12_set_7 rfl ?_
  refine rl_calliQ (rl_runS (As := [.long ((x1).toInt64), .long (0), .long ((nI (G.1 4 0)).toInt64)]) (rest := []) hC hW (cR_in l D t A _ z _ _ _) cs_X12_117 sm_X12_in ⟨(Nat.le_of_ble_eq_true rfl), (Nat.le_of_ble_eq_true rfl)⟩ rfl hl.1 rfl (Nat.le_of_ble_eq_true rfl) dX12_set_8 ⟨(Nat.le_of_ble_eq_true rfl), (Nat.le_of_ble_eq_true rfl)⟩) hW (fun r f1 H locs hp hW => ?_)
  obtain ⟨rfl, hp⟩ := hp
  rw [rg_ixn (by decide) (by omega)] at hp
  rcases hp with ⟨rfl, hp⟩ | ⟨rfl, hp⟩
  · obtain ⟨i0, hi0, rfl⟩ := hp
    have hix := pu_ix_s (n := G.1 4 0 + 1) (j := i0) (by omega) (by omega)
    refine lv_if_ne (tgt := 16) hx hb dX12_set_11 (by decide) (fun c9 => ?_) (fun c9 => ?_)
    · refine lv_iload_n hx hb dX12_set_16 rfl (lv_at hl 1 rfl) ?_
      refine lv_sipush (v := (nI (250))) hx hb dX12_set_17 (by decide) ?_
      refine lv_icmp_ne (tgt := 26) hx hb dX12_set_20 (by decide) (fun c3 => ?_) (fun c3 => ?_)
      · have n250 : i0 ≠ 250 := fun q => c3 (by rw [q])
        refine lv_aload_n hx hb dX12_set_26 rfl (lv_at hl 0 rfl) ?_
        refine rl_get (v := .ref (m + 21)) hC hW fl_X12_75 hR.1 rfl dX12_set_27 ?_
        refine lv_iload_n hx hb dX12_set_30 rfl (lv_at hl 1 rfl) ?_
        refine lv_lload_n hx hb dX12_set_31 rfl (lv_at hl 2 rfl) ?_
        refine rl_last_n (g := L 23) hC hW hR.a23 (by omega) (by decide) dX12_set_32 (fun H locs hW => ?_)
        have hR := hR.s23 (vp_updL (L 23) (i0) (x2))
        refine lv_aload_n hx hb dX12_set_33 rfl (lv_at hl 0 rfl) ?_
        refine lv_dup hx hb dX12_set_34 rfl ?_
        refine rl_get (v := .int (F 22)) hC hW fl_X12_235 hR.1 rfl dX12_set_35 ?_
        refine rl_topn (y := nI (G.1 4 0)) (hGt.1) ?_
        refine lv_iload_n hx hb dX12_set_38 rfl (lv_at hl 1 rfl) ?_
        refine lv_aload_n hx hb dX12_set_39 rfl (lv_at hl 0 rfl) ?_
        refine rl_get (v := .int (F 22)) hC hW fl_X12_235 hR.1 rfl dX12_set_40 ?_
        refine rl_topn (y := nI (G.1 4 0)) (hGt.1) ?_
        refine lv_icmp_ne (tgt := 50) hx hb dX12_set_43 (by decide) (fun c4 => ?_) (fun c4 => ?_)
        · have e0 : i0 ≠ G.1 4 0 := fun q => c4 (by rw [q])
          refine lv_iconst (v := (nI (0))) hx hb dX12_set_50 (by decide) ?_
          refine lv_iadd hx hb dX12_set_51 ?_
          refine rl_topn (nI_add _ _) ?_
          refine rl_put (v := .int (nI ((G.1 4 0) + (0)))) hC hW fp_X12_235 hR.1 (Nat.le_of_ble_eq_true rfl) rfl rfl dX12_set_52 (fun H locs hW => ?_)
          have hR := hR.f22 (nI ((G.1 4 0) + (0)))
          refine lv_aload_n hx hb dX12_set_55 rfl (lv_at hl 0 rfl) ?_
          refine rl_get (v := .int (nI ((G.1 4 0) + (0)))) hC hW fl_X12_235 hR.1 rfl dX12_set_56 ?_
          exact rl_iret hC hW hr hlk (Nat.le_refl _) (Nat.le_refl _) ⟨_, rfl, rfl, rfl, ρ, κ, gN (gZ G 2 (vp_updL (G.2.2.1 2) i0 x2)) 4 (fun _ => G.1 4 0 + 0), (by simp only [f_set, ob, hix, if_neg n250]; rw [show max (G.1 4 0) (i0 + 1) = G.1 4 0 + 0 by omega]), by omega, by omega, ⟨_, _, _, hR, hTc, hTp, hTk, hGW.lv (by omega), hGr, hGd, hGp, hGt.set (by omega) (by omega) rfl, hGc, hF11, hF14⟩⟩ dX12_set_59
        · have e0 : i0 = G.1 4 0 := (nI_eq (by omega) (by omega)).mp c4
          refine lv_iconst (v := (nI (1))) hx hb dX12_set_46 (by decide) ?_
          refine lv_goto (tgt := 51) hx hb dX12_set_47 (by decide) ?_
          refine lv_iadd hx hb dX12_set_51 ?_
          refine rl_topn (nI_add _ _) ?_
          refine rl_put (v := .int (nI ((G.1 4 0) + (1)))) hC hW fp_X12_235 hR.1 (Nat.le_of_ble_eq_true rfl) rfl rfl dX12_set_52 (fun H locs hW => ?_)
          have hR := hR.f22 (nI ((G.1 4 0) + (1)))
          refine lv_aload_n hx hb dX12_set_55 rfl (lv_at hl 0 rfl) ?_
          refine rl_get (v := .int (nI ((G.1 4 0) + (1)))) hC hW fl_X12_235 hR.1 rfl dX12_set_56 ?_
          exact rl_iret hC hW hr hlk (Nat.le_refl _) (Nat.le_refl _) ⟨_, rfl, rfl, rfl, ρ, κ, gN (gZ G 2 (vp_updL (G.2.2.1 2) i0 x2)) 4 (fun _ => G.1 4 0 + 1), (by simp only [f_set, ob, hix, if_neg n250]; rw [show max (G.1 4 0) (i0 + 1) = G.1 4 0 + 1 by omega]), by omega, by omega, ⟨_, _, _, hR, hTc, hTp, hTk, hGW.lv (by omega), hGr, hGd, hGp, hGt.set (by omega) (by omega) rfl, hGc, hF11, hF14⟩⟩ dX12_set_59
      · have e250 : i0 = 250 := (nI_eq (by omega) (by decide)).mp c3
        refine lv_bipush (v := (-2)) hx hb dX12_set_23 (by decide) ?_
        exact rl_iret hC hW hr hlk (Nat.le_refl _) (Nat.le_refl _) ⟨_, rfl, rfl, rfl, ρ, κ, G, (by subst e250; simp only [f_set, ob, hix, if_true]), by omega, by omega, ⟨_, _, _, hR, hTc, hTp, hTk, hGW, hGr, hGd, hGp, hGt, hGc, hF11, hF14⟩⟩ dX12_set_25
    · exact absurd c9 (by decide)
  · refine lv_if_ne (tgt := 16) hx hb dX12_set_11 (by decide) (fun c_1 => ?_) (fun c_1 => ?_)
    · first | exact absurd c_1 (by decide) | exact absurd (by decide) c_1
    · refine lv_iconst (v := (-1)) hx hb dX12_set_14 (by decide) ?_
      exact rl_iret hC hW hr hlk (Nat.le_refl _) (Nat.le_refl _) ⟨_, rfl, rfl, rfl, ρ, κ, G, (by simp only [f_set, ob, pu_ix_n (show G.1 4 0 + 1 < 2 ^ 31 by omega) (rg_le1 hp)]), by omega, by omega, ⟨_, _, _, hR, hTc, hTp, hTk, hGW, hGr, hGd, hGp, hGt, hGc, hF11, hF14⟩⟩ dX12_set_15

set_option maxHeartbeats 4000000 in
set_option maxRecDepth 100000 in
theorem cR_cut (l : Launch) (D : va_G) (t : Nat → ClassId) (A : Nat → Prop) (f : rl_M) (z : Nat) (m : Nat) (T : Nat → Nat → Nat) (ρ κ : Nat) (G : pG) (hS : RS t f m T ρ κ G) (hρ : ρ + 84 ≤ 43100) (hκ : κ + 51 ≤ 26200) (x1 : Int32) : rl_Met l yX12_cut (.code yX12_cut cX12_cut 3 (some FieldType.int)) (rl_rm 2 0 0) D t A f z [.ref (m), .int (x1)] (rl_qi z fun r f1 => ∃ ρ' κ' G', f_cut ρ κ G x1 = (r, ρ', κ', G') ∧ ρ' ≤ ρ + 84 ∧ κ' ≤ κ + 51 ∧ RS t f1 m T ρ' κ' G') := by
  obtain ⟨I, L, F, hR, hTc, hTp, hTk, hGW, hGr, hGd, hGp, hGt, hGc, hF11, hF14⟩ := hS
  refine rl_begin (own := RX12) (lv := [(0, .ref (m)), (1, .int (x1))]) (by decide +kernel) rfl (Nat.le_of_ble_eq_true rfl) rfl fun p e s m0 args below meth c ls H locs hC hr hlk hnm hW hl hx hb => ?_
  have hlv := hGW.2.2.2.2
  refine lv_iload_n hx hb dX12_cut_0 rfl (lv_at hl 1 rfl) ?_
  refine lv_i2l hx hb dX12_cut_1 rfl ?_
  refine lv_lconst (v := 0) hx hb dX12_cut_2 (by decide) ?_
  refine lv_aload_n hx hb dX12_cut_3 rfl (lv_at hl 0 rfl) ?_
  refine rl_get (v := .int (F 22)) hC hW fl_X12_235 hR.1 rfl dX12_cut_4 ?_
  refine rl_topn (y := nI (G.1 4 0)) (hGt.1) ?_
  refine lv_i2l hx hb dX12_cut_7 rfl ?_
  refine rl_calliQ (rl_runS (As := [.long ((x1).toInt64), .long (0), .long ((nI (G.1 4 0)).toInt64)]) (rest := []) hC hW (cR_in l D t A _ z _ _ _) cs_X12_117 sm_X12_in ⟨(Nat.le_of_ble_eq_true rfl), (Nat.le_of_ble_eq_true rfl)⟩ rfl hl.1 rfl (Nat.le_of_ble_eq_true rfl) dX12_cut_8 ⟨(Nat.le_of_ble_eq_true rfl), (Nat.le_of_ble_eq_true rfl)⟩) hW (fun r f1 H locs hp hW => ?_)
  obtain ⟨rfl, hp⟩ := hp
  rw [rg_ixn (by decide) (by omega)] at hp
  rcases hp with ⟨rfl, hp⟩ | ⟨rfl, hp⟩
  · obtain ⟨i0, hi0, rfl⟩ := hp
    have hix := pu_ix_s (n := G.1 4 0 + 1) (j := i0) (by omega) (by omega)
    refine lv_if_ne (tgt := 16) hx hb dX12_cut_11 (by decide) (fun c9 => ?_) (fun c9 => ?_)
    · refine lv_aload_n hx hb dX12_cut_16 rfl (lv_at hl 0 rfl) ?_
      refine rl_get (v := .int (F 22)) hC hW fl_X12_235 hR.1 rfl dX12_cut_17 ?_
      refine rl_topn (y := nI (G.1 4 0)) (hGt.1) ?_
      refine lv_iload_n hx hb dX12_cut_20 rfl (lv_at hl 1 rfl) ?_
      refine lv_isub hx hb dX12_cut_21 ?_
      refine lv_istore_n (lv' := [(2, .int ((nI (G.1 4 0)) - (nI (i0)))), (0, .ref (m)), (1, .int (nI (i0)))]) hx hb dX12_cut_22 rfl hl (by decide) rfl (fun ls hl => ?_)
      refine lv_aload_n hx hb dX12_cut_23 rfl (lv_at hl 1 rfl) ?_
      refine lv_iload_n hx hb dX12_cut_24 rfl (lv_at hl 2 rfl) ?_
      refine rl_put (v := .int (nI (i0))) hC hW fp_X12_235 hR.1 (Nat.le_of_ble_eq_true rfl) rfl rfl dX12_cut_25 (fun H locs hW => ?_)
      have hR := hR.f22 (nI (i0))
      refine lv_iload_n hx hb dX12_cut_28 rfl (lv_at hl 0 rfl) ?_
      exact rl_iret hC hW hr hlk (Nat.le_refl _) (Nat.le_refl _) ⟨_, rfl, rfl, rfl, ρ, κ, gN G 4 (fun _ => i0), (by simp only [f_cut, ob, hix]; rw [rg_sub (a := G.1 4 0) (b := i0) (c := G.1 4 0 - i0) (by omega)]), by omega, by omega, ⟨_, _, _, hR, hTc, hTp, hTk, hGW.cut (by omega), hGr, hGd, hGp, ⟨rfl, fun y hy => hGt.2 y (Nat.lt_of_lt_of_le hy hi0)⟩, hGc, hF11, hF14⟩⟩ dX12_cut_29
    · exact absurd c9 (by decide)
  · refine lv_if_ne (tgt := 16) hx hb dX12_cut_11 (by decide) (fun c_1 => ?_) (fun c_1 => ?_)
    · first | exact absurd c_1 (by decide) | exact absurd (by decide) c_1
    · refine lv_iconst (v := (-1)) hx hb dX12_cut_14 (by decide) ?_
      exact rl_iret hC hW hr hlk (Nat.le_refl _) (Nat.le_refl _) ⟨_, rfl, rfl, rfl, ρ, κ, G, (by simp only [f_cut, ob, pu_ix_n (show G.1 4 0 + 1 < 2 ^ 31 by omega) (rg_le1 hp)]), by omega, by omega, ⟨_, _, _, hR, hTc, hTp, hTk, hGW, hGr, hGd, hGp, hGt, hGc, hF11, hF14⟩⟩ dX12_cut_15
