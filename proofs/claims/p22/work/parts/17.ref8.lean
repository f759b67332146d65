
section TKL
variable {T : Nat → Nat → Nat} {G : pG} {j p n w : Nat} {v b : Int64} {h : pHd}
theorem tk_i (hs : T 4 (5 * j + p) = 0) (hv : (-2147483648 : Int64) ≤ v ∧ v ≤ 2147483647) : pu_tk T G j p v h = 0 := by
  unfold pu_tk
  rw [if_pos (by omega), if_neg (fun q => q.2 hv)]
theorem tk_j (hs : T 4 (5 * j + p) = 0) (hv : ¬ ((-2147483648 : Int64) ≤ v ∧ v ≤ 2147483647)) : pu_tk T G j p v h = 2 := by
  unfold pu_tk
  rw [if_pos (by omega), if_pos ⟨hs, hv⟩]
theorem tk_l (hs : T 4 (5 * j + p) = 1) : pu_tk T G j p v h = 0 := by
  unfold pu_tk
  rw [if_pos (by omega), if_neg (fun q => by omega)]
theorem tk_n (hs : 2 ≤ T 4 (5 * j + p)) : pu_tk T G j p v none = 0 := by
  unfold pu_tk
  rw [if_neg (by omega)]
theorem tk_c (hs : T 4 (5 * j + p) = 2) : pu_tk T G j p v (hcon n) = if n / 10 = 3 * T 8 (5 * j + p) + j % 3 then 0 else 2 := by
  unfold pu_tk
  rw [if_neg (by omega)]
  show (if T 4 (5 * j + p) = 2 then _ else 1) = _
  rw [if_pos hs]
theorem tk_cx (h2 : 2 ≤ T 4 (5 * j + p)) (hs : T 4 (5 * j + p) ≠ 2) : pu_tk T G j p v (hcon n) = 1 := by
  unfold pu_tk
  rw [if_neg (by omega)]
  show (if T 4 (5 * j + p) = 2 then _ else 1) = _
  rw [if_neg hs]
theorem tk_r (hs : T 4 (5 * j + p) = 4) : pu_tk T G j p v (hrow n) = 0 := by
  unfold pu_tk
  rw [if_neg (by omega)]
  show (if T 4 (5 * j + p) = 4 then 0 else 1) = _
  rw [if_pos hs]
theorem tk_rx (h2 : 2 ≤ T 4 (5 * j + p)) (hs : T 4 (5 * j + p) ≠ 4) : pu_tk T G j p v (hrow n) = 1 := by
  unfold pu_tk
  rw [if_neg (by omega)]
  show (if T 4 (5 * j + p) = 4 then 0 else 1) = _
  rw [if_neg hs]
theorem tk_d (hs : T 4 (5 * j + p) = 3) : pu_tk T G j p v (hrec n) = if G.1 1 n = 3 * (T 8 (5 * j + p) - 2) + j % 3 then 0 else 2 := by
  unfold pu_tk
  rw [if_neg (by omega)]
  show (if T 4 (5 * j + p) = 3 then _ else 1) = _
  rw [if_pos hs]
theorem tk_dx (h2 : 2 ≤ T 4 (5 * j + p)) (hs : T 4 (5 * j + p) ≠ 3) : pu_tk T G j p v (hrec n) = 1 := by
  unfold pu_tk
  rw [if_neg (by omega)]
  show (if T 4 (5 * j + p) = 3 then _ else 1) = _
  rw [if_neg hs]
theorem tk_st (h0 : pu_tk T G j p v h = 0) (h2 : 2 ≤ T 4 (5 * j + p)) : hst (T 4 (5 * j + p)) h := by
  rcases h with _ | n | n | n
  · trivial
  · by_cases hs : T 4 (5 * j + p) = 2
    · exact hs
    · rw [tk_cx h2 hs] at h0; omega
  · by_cases hs : T 4 (5 * j + p) = 4
    · exact hs
    · rw [tk_rx h2 hs] at h0; omega
  · by_cases hs : T 4 (5 * j + p) = 3
    · exact hs
    · rw [tk_dx h2 hs] at h0; omega
theorem ck_0 {m : Int64} : pu_ck T G 0 m h b = if m ≤ b then 0 else 2 := by unfold pu_ck; rw [if_pos rfl]
theorem ck_1 {m : Int64} : pu_ck T G 1 m h b = if m = 0 then 5 else if (100 : Int64) - 100 / m * m = 0 then 0 else 2 := by unfold pu_ck; rw [if_neg (by decide), if_pos rfl]
theorem ck_n {m : Int64} (hw : 2 ≤ w) : pu_ck T G w m none b = 3 := by unfold pu_ck; rw [if_neg (by omega), if_neg (by omega)]
theorem ck_c {m : Int64} (hw : 2 ≤ w) : pu_ck T G w m (hcon n) b = if (nI (n % 10)).toInt64 < b then 0 else 2 := by unfold pu_ck; rw [if_neg (by omega), if_neg (by omega)]
theorem ck_r {m : Int64} (hw : 2 ≤ w) : pu_ck T G w m (hrow n) b = if 0 ≤ b.toInt ∧ b.toInt < G.1 0 n then (if (0 : Int32) < G.2.1 1 (8 * n + b.toInt.toNat) then 0 else 2) else 4 := by unfold pu_ck; rw [if_neg (by omega), if_neg (by omega)]
theorem ck_r4 {m : Int64} (hw : 2 ≤ w) (hb : ¬ ∃ i : Nat, i < G.1 0 n ∧ b = lN i) (hn : G.1 0 n ≤ 8) : pu_ck T G w m (hrow n) b = 4 := by
  rw [ck_r hw, if_neg]
  rintro ⟨h1, h2⟩
  refine hb ⟨b.toInt.toNat, by omega, ?_⟩
  apply Int64.toInt_inj.mp
  rw [lN_toInt (by omega)]
  omega
theorem ck_ri {m : Int64} {i : Nat} (hw : 2 ≤ w) (hi : i < G.1 0 n) (hn : G.1 0 n ≤ 8) : pu_ck T G w m (hrow n) (lN i) = if (0 : Int32) < G.2.1 1 (8 * n + i) then 0 else 2 := by
  rw [ck_r hw, lN_toInt (by omega), if_pos ⟨by omega, by omega⟩]
  simp
theorem ck_d {m : Int64} (hw : 2 ≤ w) : pu_ck T G w m (hrec n) b = if G.1 2 n = 0 then 4 else if 2 ≤ T 4 (5 * G.1 1 n) then 1 else if G.2.2.1 0 (5 * n) = b then 0 else 2 := by unfold pu_ck; rw [if_neg (by omega), if_neg (by omega)]
end TKL

set_option maxHeartbeats 4000000 in
set_option maxRecDepth 100000 in
theorem cR_taken (l : Launch) (D : va_G) (t : Nat → ClassId) (A : Nat → Prop) (f : rl_M) (z : Nat) (m : Nat) (I : Nat → Nat → Int32) (L : Nat → Nat → Int64) (F : Nat → Int32) (hR : RM t f m I L F) (T : Nat → Nat → Nat) (ρ κ : Nat) (G : pG) (hρ : ρ ≤ 43100) (hκ : κ ≤ 26200) (hTc : RTc T (I 0) (I 1) (I 2)) (hTp : RTp T (I 3) (I 4) (I 5) (I 6)) (hGW : GW T ρ κ G) (hGr : RGr ρ G (I 12) (I 13)) (hGd : RGd κ G (I 15) (I 16) (L 17) (I 18)) (j p0 : Nat) (hj : j < 12) (hp0 : p0 < T 2 j) (v : Int64) (x : Int32) (h : pHd) (hx0 : x = enc h) (hV : hok ρ κ h) : rl_Met l yX12_taken (.code yX12_taken cX12_taken 10 (some FieldType.int)) (rl_rm 1 0 0) D t A f z [.ref (m), .int (nI (j)), .int (nI (p0)), .long (v), .int (x)] (rl_qi z fun r f1 => f = f1 ∧ r = nI (pu_tk T G j p0 v h)) := by
  refine rl_begin (own := RX12) (lv := [(0, .ref (m)), (1, .int (nI (j))), (2, .int (nI (p0))), (3, .long (v)), (5, .int (x))]) (by decide +kernel) rfl (Nat.le_of_ble_eq_true rfl) rfl fun p e s m0 args below meth c ls H locs hC hr hlk hnm hW hl hx hb => ?_
  have hnm := hTp.2 j p0 hj hp0
  have h5 := (hTp.1 j hj).2
  have hs5 := hnm.2.2.2.1
  have hcase : T 4 (5 * j + p0) = 0 ∨ T 4 (5 * j + p0) = 1 ∨ T 4 (5 * j + p0) = 2 ∨ T 4 (5 * j + p0) = 3 ∨ T 4 (5 * j + p0) = 4 := by omega
  rcases hcase with hs | hs | hs | hs | hs
  · refine lv_aload_n hx hb dX12_taken_0 rfl (lv_at hl 0 rfl) ?_
    refine rl_get (v := .ref (m + 6)) hC hW fl_X12_26 hR.1 rfl dX12_taken_1 ?_
    refine lv_iconst (v := (nI (5))) hx hb dX12_taken_4 (by decide) ?_
    refine lv_iload_n hx hb dX12_taken_5 rfl (lv_at hl 1 rfl) ?_
    refine lv_imul hx hb dX12_taken_6 ?_
    refine rl_topn (pk_mul _ _) ?_
    refine lv_iload_n hx hb dX12_taken_7 rfl (lv_at hl 2 rfl) ?_
    refine lv_iadd hx hb dX12_taken_8 ?_
    refine rl_topn (nI_add _ _) ?_
    refine rl_iald_n (g := I 5) hC hW hR.a5 (by omega) (by decide) dX12_taken_9 ?_
    refine rl_topn (hnm.2.2.1.trans (by rw [hs])) ?_
    refine lv_istore (lv' := [(6, .int (nI (0))), (0, .ref (m)), (1, .int (nI (j))), (2, .int (nI (p0))), (3, .long (v)), (5, .int (x))]) hx hb dX12_taken_10 hl (by decide) rfl (fun ls hl => ?_)
    refine lv_aload_n hx hb dX12_taken_12 rfl (lv_at hl 1 rfl) ?_
    refine rl_get (v := .ref (m + 7)) hC hW fl_X12_29 hR.1 rfl dX12_taken_13 ?_
    refine lv_iconst (v := (nI (5))) hx hb dX12_taken_16 (by decide) ?_
    refine lv_iload_n hx hb dX12_taken_17 rfl (lv_at hl 2 rfl) ?_
    refine lv_imul hx hb dX12_taken_18 ?_
    refine rl_topn (pk_mul _ _) ?_
    refine lv_iload_n hx hb dX12_taken_19 rfl (lv_at hl 3 rfl) ?_
    refine lv_iadd hx hb dX12_taken_20 ?_
    refine rl_topn (nI_add _ _) ?_
    refine rl_iald_n (g := I 6) hC hW hR.a6 (by omega) (by decide) dX12_taken_21 ?_
    refine lv_istore (lv' := [(7, .int (I 6 (((5) * (j)) + (p0)))), (6, .int (nI (0))), (0, .ref (m)), (1, .int (nI (j))), (2, .int (nI (p0))), (3, .long (v)), (5, .int (x))]) hx hb dX12_taken_22 hl (by decide) rfl (fun ls hl => ?_)
    refine lv_iload hx hb dX12_taken_24 (lv_at hl 1 rfl) ?_
    refine lv_iconst (v := (nI (2))) hx hb dX12_taken_26 (by decide) ?_
    refine lv_icmp_ge (tgt := 54) hx hb dX12_taken_27 (by decide) (fun c_1 => ?_) (fun c_1 => ?_)
    · first | exact absurd c_1 (by decide) | exact absurd (by decide) c_1
    · refine lv_iload hx hb dX12_taken_30 (lv_at hl 1 rfl) ?_
      refine lv_if_ne (tgt := 52) hx hb dX12_taken_32 (by decide) (fun c_2 => ?_) (fun c_2 => ?_)
      · first | exact absurd c_2 (by decide) | exact absurd (by decide) c_2
      · refine lv_lload_n hx hb dX12_taken_35 rfl (lv_at hl 5 rfl) ?_
        refine lv_ldc2 (v := -2147483648) hx hb hC.2.2.2.1 (hC.2.2.2.2.1 _ (List.mem_cons_of_mem _ mw_880)) dX12_taken_36 ?_
        refine lv_ldc2 (v := 2147483647) hx hb hC.2.2.2.1 (hC.2.2.2.2.1 _ (List.mem_cons_of_mem _ mw_881)) dX12_taken_39 ?_
        refine rl_calliQ (rl_runS (As := [.long (v), .long (-2147483648), .long (2147483647)]) (rest := []) hC hW (cR_in l D t A _ z _ _ _) cs_X12_117 sm_X12_in ⟨(Nat.le_of_ble_eq_true rfl), (Nat.le_of_ble_eq_true rfl)⟩ rfl hl.1 rfl (Nat.le_of_ble_eq_true rfl) dX12_taken_42 ⟨(Nat.le_of_ble_eq_true rfl), (Nat.le_of_ble_eq_true rfl)⟩) hW (fun r f1 H locs hp hW => ?_)
        obtain ⟨rfl, hp⟩ := hp
        rcases hp with ⟨rfl, hp⟩ | ⟨rfl, hp⟩
        · refine lv_if_ne (tgt := 52) hx hb dX12_taken_45 (by decide) (fun c_3 => ?_) (fun c_3 => ?_)
          · refine lv_iconst (v := (nI (0))) hx hb dX12_taken_52 (by decide) ?_
            exact rl_iret hC hW hr hlk (Nat.le_refl _) (Nat.le_refl _) ⟨_, rfl, rfl, rfl, rfl, by rw [tk_i hs hp]⟩ dX12_taken_53
          · first | exact absurd c_3 (by decide) | exact absurd (by decide) c_3
        · refine lv_if_ne (tgt := 52) hx hb dX12_taken_45 (by decide) (fun c_4 => ?_) (fun c_4 => ?_)
          · first | exact absurd c_4 (by decide) | exact absurd (by decide) c_4
          · refine lv_iconst (v := (nI (2))) hx hb dX12_taken_48 (by decide) ?_
            refine lv_goto (tgt := 53) hx hb dX12_taken_49 (by decide) ?_
            exact rl_iret hC hW hr hlk (Nat.le_refl _) (Nat.le_refl _) ⟨_, rfl, rfl, rfl, rfl, by rw [tk_j hs hp]⟩ dX12_taken_53
  · refine lv_aload_n hx hb dX12_taken_0 rfl (lv_at hl 0 rfl) ?_
    refine rl_get (v := .ref (m + 6)) hC hW fl_X12_26 hR.1 rfl dX12_taken_1 ?_
    refine lv_iconst (v := (nI (5))) hx hb dX12_taken_4 (by decide) ?_
    refine lv_iload_n hx hb dX12_taken_5 rfl (lv_at hl 1 rfl) ?_
    refine lv_imul hx hb dX12_taken_6 ?_
    refine rl_topn (pk_mul _ _) ?_
    refine lv_iload_n hx hb dX12_taken_7 rfl (lv_at hl 2 rfl) ?_
    refine lv_iadd hx hb dX12_taken_8 ?_
    refine rl_topn (nI_add _ _) ?_
    refine rl_iald_n (g := I 5) hC hW hR.a5 (by omega) (by decide) dX12_taken_9 ?_
    refine rl_topn (hnm.2.2.1.trans (by rw [hs])) ?_
    refine lv_istore (lv' := [(6, .int (nI (1))), (0, .ref (m)), (1, .int (nI (j))), (2, .int (nI (p0))), (3, .long (v)), (5, .int (x))]) hx hb dX12_taken_10 hl (by decide) rfl (fun ls hl => ?_)
    refine lv_aload_n hx hb dX12_taken_12 rfl (lv_at hl 1 rfl) ?_
    refine rl_get (v := .ref (m + 7)) hC hW fl_X12_29 hR.1 rfl dX12_taken_13 ?_
    refine lv_iconst (v := (nI (5))) hx hb dX12_taken_16 (by decide) ?_
    refine lv_iload_n hx hb dX12_taken_17 rfl (lv_at hl 2 rfl) ?_
    refine lv_imul hx hb dX12_taken_18 ?_
    refine rl_topn (pk_mul _ _) ?_
    refine lv_iload_n hx hb dX12_taken_19 rfl (lv_at hl 3 rfl) ?_
    refine lv_iadd hx hb dX12_taken_20 ?_
    refine rl_topn (nI_add _ _) ?_
    refine rl_iald_n (g := I 6) hC hW hR.a6 (by omega) (by decide) dX12_taken_21 ?_
    refine lv_istore (lv' := [(7, .int (I 6 (((5) * (j)) + (p0)))), (6, .int (nI (1))), (0, .ref (m)), (1, .int (nI (j))), (2, .int (nI (p0))), (3, .long (v)), (5, .int (x))]) hx hb dX12_taken_22 hl (by decide) rfl (fun ls hl => ?_)
    refine lv_iload hx hb dX12_taken_24 (lv_at hl 1 rfl) ?_
    refine lv_iconst (v := (nI (2))) hx hb dX12_taken_26 (by decide) ?_
    refine lv_icmp_ge (tgt := 54) hx hb dX12_taken_27 (by decide) (fun c_5 => ?_) (fun c_5 => ?_)
    · first | exact absurd c_5 (by decide) | exact absurd (by decide) c_5
    · refine lv_iload hx hb dX12_taken_30 (lv_at hl 1 rfl) ?_
      refine lv_if_ne (tgt := 52) hx hb dX12_taken_32 (by decide) (fun c_6 => ?_) (fun c_6 => ?_)
      · refine lv_iconst (v := (nI (0))) hx hb dX12_taken_52 (by decide) ?_
        exact rl_iret hC hW hr hlk (Nat.le_refl _) (Nat.le_refl _) ⟨_, rfl, rfl, rfl, rfl, by rw [tk_l hs]⟩ dX12_taken_53
      · first | exact absurd c_6 (by decide) | exact absurd (by decide) c_6
  · have hof := hnm.2.2.2.2.1 hs
    refine lv_aload_n hx hb dX12_taken_0 rfl (lv_at hl 0 rfl) ?_
    refine rl_get (v := .ref (m + 6)) hC hW fl_X12_26 hR.1 rfl dX12_taken_1 ?_
    refine lv_iconst (v := (nI (5))) hx hb dX12_taken_4 (by decide) ?_
    refine lv_iload_n hx hb dX12_taken_5 rfl (lv_at hl 1 rfl) ?_
    refine lv_imul hx hb dX12_taken_6 ?_
    refine rl_topn (pk_mul _ _) ?_
    refine lv_iload_n hx hb dX12_taken_7 rfl (lv_at hl 2 rfl) ?_
    refine lv_iadd hx hb dX12_taken_8 ?_
    refine rl_topn (nI_add _ _) ?_
    refine rl_iald_n (g := I 5) hC hW hR.a5 (by omega) (by decide) dX12_taken_9 ?_
    refine rl_topn (hnm.2.2.1.trans (by rw [hs])) ?_
    refine lv_istore (lv' := [(6, .int (nI (2))), (0, .ref (m)), (1, .int (nI (j))), (2, .int (nI (p0))), (3, .long (v)), (5, .int (x))]) hx hb dX12_taken_10 hl (by decide) rfl (fun ls hl => ?_)
    refine lv_aload_n hx hb dX12_taken_12 rfl (lv_at hl 1 rfl) ?_
    refine rl_get (v := .ref (m + 7)) hC hW fl_X12_29 hR.1 rfl dX12_taken_13 ?_
    refine lv_iconst (v := (nI (5))) hx hb dX12_taken_16 (by decide) ?_
    refine lv_iload_n hx hb dX12_taken_17 rfl (lv_at hl 2 rfl) ?_
    refine lv_imul hx hb dX12_taken_18 ?_
    refine rl_topn (pk_mul _ _) ?_
    refine lv_iload_n hx hb dX12_taken_19 rfl (lv_at hl 3 rfl) ?_
    refine lv_iadd hx hb dX12_taken_20 ?_
    refine rl_topn (nI_add _ _) ?_
    refine rl_iald_n (g := I 6) hC hW hR.a6 (by omega) (by decide) dX12_taken_21 ?_
    refine rl_topn (hof.2) ?_
    refine lv_istore (lv' := [(7, .int (nI (T 8 (5 * j + p0)))), (6, .int (nI (2))), (0, .ref (m)), (1, .int (nI (j))), (2, .int (nI (p0))), (3, .long (v)), (5, .int (x))]) hx hb dX12_taken_22 hl (by decide) rfl (fun ls hl => ?_)
    refine lv_iload hx hb dX12_taken_24 (lv_at hl 1 rfl) ?_
    refine lv_iconst (v := (nI (2))) hx hb dX12_taken_26 (by decide) ?_
    refine lv_icmp_ge (tgt := 54) hx hb dX12_taken_27 (by decide) (fun c_7 => ?_) (fun c_7 => ?_)
    · refine lv_aload_n hx hb dX12_taken_54 rfl (lv_at hl 2 rfl) ?_
      refine lv_iload hx hb dX12_taken_55 (lv_at hl 6 rfl) ?_
      refine rl_calliQ (rl_runV (b := m) (As := [.int (x)]) (rest := []) hC hW (cR_familyOf l D t A _ z m _ L F hR T (fun n hn => ⟨(hTc.2.2.2 n hn).2.1, (hTc.2.2.2 n hn).2.2.1⟩) ρ κ hρ hκ _ h hx0 hV) cs_X12_160 im_X12_familyOf sl_X12_familyOf hR.1 rfl ⟨(Nat.le_of_ble_eq_true rfl), (Nat.le_of_ble_eq_true rfl)⟩ rfl hl.1 rfl (Nat.le_of_ble_eq_true rfl) dX12_taken_57 ⟨(Nat.le_of_ble_eq_true rfl), (Nat.le_of_ble_eq_true rfl)⟩) hW (fun r f1 H locs hp hW => ?_)
      obtain ⟨rfl, hp⟩ := hp
      rcases hp with ⟨hh, rfl⟩ | ⟨n0, hn0, hh, ⟨rfl, -⟩ | ⟨rfl, -⟩⟩ | ⟨n0, hn0, hh, rfl⟩ | ⟨n0, hn0, hh, rfl⟩
      · subst hh
        refine lv_istore (lv' := [(8, .int (0)), (7, .int (nI (T 8 (5 * j + p0)))), (6, .int (nI (2))), (0, .ref (m)), (1, .int (nI (j))), (2, .int (nI (p0))), (3, .long (v)), (5, .int (x))]) hx hb dX12_taken_60 hl (by decide) rfl (fun ls hl => ?_)
        refine lv_iload hx hb dX12_taken_62 (lv_at hl 0 rfl) ?_
        refine lv_if_ne (tgt := 69) hx hb dX12_taken_64 (by decide) (fun c_8 => ?_) (fun c_8 => ?_)
        · first | exact absurd c_8 (by decide) | exact absurd (by decide) c_8
        · refine lv_iconst (v := (nI (0))) hx hb dX12_taken_67 (by decide) ?_
          exact rl_iret hC hW hr hlk (Nat.le_refl _) (Nat.le_refl _) ⟨_, rfl, rfl, rfl, rfl, by rw [tk_n (by omega)]⟩ dX12_taken_68
      · subst hh
        obtain rfl : x = nI n0 := hx0
        refine lv_istore (lv' := [(8, .int (1)), (7, .int (nI (T 8 (5 * j + p0)))), (6, .int (nI (2))), (0, .ref (m)), (1, .int (nI (j))), (2, .int (nI (p0))), (3, .long (v)), (5, .int (nI (n0)))]) hx hb dX12_taken_60 hl (by decide) rfl (fun ls hl => ?_)
        refine lv_iload hx hb dX12_taken_62 (lv_at hl 0 rfl) ?_
        refine lv_if_ne (tgt := 69) hx hb dX12_taken_64 (by decide) (fun c_9 => ?_) (fun c_9 => ?_)
        · refine lv_iload hx hb dX12_taken_69 (lv_at hl 2 rfl) ?_
          refine lv_iconst (v := (nI (2))) hx hb dX12_taken_71 (by decide) ?_
          refine lv_icmp_ne (tgt := 89) hx hb dX12_taken_72 (by decide) (fun c_10 => ?_) (fun c_10 => ?_)
          · first | exact absurd c_10 (by decide) | exact absurd (by decide) c_10
          · refine lv_iload hx hb dX12_taken_75 (lv_at hl 0 rfl) ?_
            refine lv_iconst (v := (nI (3))) hx hb dX12_taken_77 (by decide) ?_
            refine lv_icmp_ge (tgt := 85) hx hb dX12_taken_78 (by decide) (fun c_11 => ?_) (fun c_11 => ?_)
            · first | exact absurd c_11 (by decide) | exact absurd (by decide) c_11
            · refine lv_iconst (v := (nI (1))) hx hb dX12_taken_81 (by decide) ?_
              refine lv_goto (tgt := 120) hx hb dX12_taken_82 (by decide) ?_
              refine lv_istore (lv' := [(9, .int (nI (1))), (8, .int (1)), (7, .int (nI (T 8 (5 * j + p0)))), (6, .int (nI (2))), (0, .ref (m)), (1, .int (nI (j))), (2, .int (nI (p0))), (3, .long (v)), (5, .int (nI (n0)))]) hx hb dX12_taken_120 hl (by decide) rfl (fun ls hl => ?_)
              refine lv_iload hx hb dX12_taken_122 (lv_at hl 0 rfl) ?_
              refine lv_if_ne (tgt := 129) hx hb dX12_taken_124 (by decide) (fun c_12 => ?_) (fun c_12 => ?_)
              · refine lv_iload hx hb dX12_taken_129 (lv_at hl 3 rfl) ?_
                refine lv_iconst (v := (nI (2))) hx hb dX12_taken_131 (by decide) ?_
                refine lv_icmp_ne (tgt := 157) hx hb dX12_taken_132 (by decide) (fun c_13 => ?_) (fun c_13 => ?_)
                · first | exact absurd c_13 (by decide) | exact absurd (by decide) c_13
                · refine lv_iload hx hb dX12_taken_135 (lv_at hl 8 rfl) ?_
                  refine lv_bipush (v := (nI (10))) hx hb dX12_taken_137 (by decide) ?_
                  refine lv_idiv hx hb dX12_taken_139 (by decide) ?_
                  refine rl_topn (pk_div (by omega) (by decide) (by decide)) ?_
                  refine lv_iconst (v := (nI (3))) hx hb dX12_taken_140 (by decide) ?_
                  refine lv_iload hx hb dX12_taken_141 (lv_at hl 2 rfl) ?_
                  refine lv_imul hx hb dX12_taken_143 ?_
                  refine rl_topn (pk_mul _ _) ?_
                  refine lv_iload_n hx hb dX12_taken_144 rfl (lv_at hl 5 rfl) ?_
                  refine lv_iconst (v := (nI (3))) hx hb dX12_taken_145 (by decide) ?_
                  refine lv_irem hx hb dX12_taken_146 (by decide) ?_
                  refine rl_topn (pk_rem (by omega) (by decide) (by decide)) ?_
                  refine lv_iadd hx hb dX12_taken_147 ?_
                  refine rl_topn (nI_add _ _) ?_
                  refine lv_icmp_ne (tgt := 155) hx hb dX12_taken_148 (by decide) (fun cq => ?_) (fun cq => ?_)
                  · refine lv_iconst (v := (nI (2))) hx hb dX12_taken_155 (by decide) ?_
                    exact rl_iret hC hW hr hlk (Nat.le_refl _) (Nat.le_refl _) ⟨_, rfl, rfl, rfl, rfl, by rw [tk_c hs, if_neg (fun q => cq (by rw [q]))]⟩ dX12_taken_156
                  · refine lv_iconst (v := (nI (0))) hx hb dX12_taken_151 (by decide) ?_
                    refine lv_goto (tgt := 156) hx hb dX12_taken_152 (by decide) ?_
                    exact rl_iret hC hW hr hlk (Nat.le_refl _) (Nat.le_refl _) ⟨_, rfl, rfl, rfl, rfl, by rw [tk_c hs, if_pos ((nI_eq (by omega) (by omega)).mp cq)]⟩ dX12_taken_156
              · first | exact absurd c_12 (by decide) | exact absurd (by decide) c_12
        · first | exact absurd c_9 (by decide) | exact absurd (by decide) c_9
      · subst hh
        obtain rfl : x = nI n0 := hx0
        refine lv_istore (lv' := [(8, .int (2)), (7, .int (nI (T 8 (5 * j + p0)))), (6, .int (nI (2))), (0, .ref (m)), (1, .int (nI (j))), (2, .int (nI (p0))), (3, .long (v)), (5, .int (nI (n0)))]) hx hb dX12_taken_60 hl (by decide) rfl (fun ls hl => ?_)
        refine lv_iload hx hb dX12_taken_62 (lv_at hl 0 rfl) ?_
        refine lv_if_ne (tgt := 69) hx hb dX12_taken_64 (by decide) (fun c_14 => ?_) (fun c_14 => ?_)
        · refine lv_iload hx hb dX12_taken_69 (lv_at hl 2 rfl) ?_
          refine lv_iconst (v := (nI (2))) hx hb dX12_taken_71 (by decide) ?_
          refine lv_icmp_ne (tgt := 89) hx hb dX12_taken_72 (by decide) (fun c_15 => ?_) (fun c_15 => ?_)
          · first | exact absurd c_15 (by decide) | exact absurd (by decide) c_15
          · refine lv_iload hx hb dX12_taken_75 (lv_at hl 0 rfl) ?_
            refine lv_iconst (v := (nI (3))) hx hb dX12_taken_77 (by decide) ?_
            refine lv_icmp_ge (tgt := 85) hx hb dX12_taken_78 (by decide) (fun c_16 => ?_) (fun c_16 => ?_)
            · first | exact absurd c_16 (by decide) | exact absurd (by decide) c_16
            · refine lv_iconst (v := (nI (1))) hx hb dX12_taken_81 (by decide) ?_
              refine lv_goto (tgt := 120) hx hb dX12_taken_82 (by decide) ?_
              refine lv_istore (lv' := [(9, .int (nI (1))), (8, .int (2)), (7, .int (nI (T 8 (5 * j + p0)))), (6, .int (nI (2))), (0, .ref (m)), (1, .int (nI (j))), (2, .int (nI (p0))), (3, .long (v)), (5, .int (nI (n0)))]) hx hb dX12_taken_120 hl (by decide) rfl (fun ls hl => ?_)
              refine lv_iload hx hb dX12_taken_122 (lv_at hl 0 rfl) ?_
              refine lv_if_ne (tgt := 129) hx hb dX12_taken_124 (by decide) (fun c_17 => ?_) (fun c_17 => ?_)
              · refine lv_iload hx hb dX12_taken_129 (lv_at hl 3 rfl) ?_
                refine lv_iconst (v := (nI (2))) hx hb dX12_taken_131 (by decide) ?_
                refine lv_icmp_ne (tgt := 157) hx hb dX12_taken_132 (by decide) (fun c_18 => ?_) (fun c_18 => ?_)
                · first | exact absurd c_18 (by decide) | exact absurd (by decide) c_18
                · refine lv_iload hx hb dX12_taken_135 (lv_at hl 8 rfl) ?_
                  refine lv_bipush (v := (nI (10))) hx hb dX12_taken_137 (by decide) ?_
                  refine lv_idiv hx hb dX12_taken_139 (by decide) ?_
                  refine rl_topn (pk_div (by omega) (by decide) (by decide)) ?_
                  refine lv_iconst (v := (nI (3))) hx hb dX12_taken_140 (by decide) ?_
                  refine lv_iload hx hb dX12_taken_141 (lv_at hl 2 rfl) ?_
                  refine lv_imul hx hb dX12_taken_143 ?_
                  refine rl_topn (pk_mul _ _) ?_
                  refine lv_iload_n hx hb dX12_taken_144 rfl (lv_at hl 5 rfl) ?_
                  refine lv_iconst (v := (nI (3))) hx hb dX12_taken_145 (by decide) ?_
                  refine lv_irem hx hb dX12_taken_146 (by decide) ?_
                  refine rl_topn (pk_rem (by omega) (by decide) (by decide)) ?_
                  refine lv_iadd hx hb dX12_taken_147 ?_
                  refine rl_topn (nI_add _ _) ?_
                  refine lv_icmp_ne (tgt := 155) hx hb dX12_taken_148 (by decide) (fun cq => ?_) (fun cq => ?_)
                  · refine lv_iconst (v := (nI (2))) hx hb dX12_taken_155 (by decide) ?_
                    exact rl_iret hC hW hr hlk (Nat.le_refl _) (Nat.le_refl _) ⟨_, rfl, rfl, rfl, rfl, by rw [tk_c hs, if_neg (fun q => cq (by rw [q]))]⟩ dX12_taken_156
                  · refine lv_iconst (v := (nI (0))) hx hb dX12_taken_151 (by decide) ?_
                    refine lv_goto (tgt := 156) hx hb dX12_taken_152 (by decide) ?_
                    exact rl_iret hC hW hr hlk (Nat.le_refl _) (Nat.le_refl _) ⟨_, rfl, rfl, rfl, rfl, by rw [tk_c hs, if_pos ((nI_eq (by omega) (by omega)).mp cq)]⟩ dX12_taken_156
              · first | exact absurd c_17 (by decide) | exact absurd (by decide) c_17
        · first | exact absurd c_14 (by decide) | exact absurd (by decide) c_14
      · subst hh
        obtain rfl : x = nI (100 + n0) := hx0
        refine lv_istore (lv' := [(8, .int (3)), (7, .int (nI (T 8 (5 * j + p0)))), (6, .int (nI (2))), (0, .ref (m)), (1, .int (nI (j))), (2, .int (nI (p0))), (3, .long (v)), (5, .int (nI (100 + n0)))]) hx hb dX12_taken_60 hl (by decide) rfl (fun ls hl => ?_)
        refine lv_iload hx hb dX12_taken_62 (lv_at hl 0 rfl) ?_
        refine lv_if_ne (tgt := 69) hx hb dX12_taken_64 (by decide) (fun c_19 => ?_) (fun c_19 => ?_)
        · refine lv_iload hx hb dX12_taken_69 (lv_at hl 2 rfl) ?_
          refine lv_iconst (v := (nI (2))) hx hb dX12_taken_71 (by decide) ?_
          refine lv_icmp_ne (tgt := 89) hx hb dX12_taken_72 (by decide) (fun c_20 => ?_) (fun c_20 => ?_)
          · first | exact absurd c_20 (by decide) | exact absurd (by decide) c_20
          · refine lv_iload hx hb dX12_taken_75 (lv_at hl 0 rfl) ?_
            refine lv_iconst (v := (nI (3))) hx hb dX12_taken_77 (by decide) ?_
            refine lv_icmp_ge (tgt := 85) hx hb dX12_taken_78 (by decide) (fun c_21 => ?_) (fun c_21 => ?_)
            · refine lv_iconst (v := (nI (0))) hx hb dX12_taken_85 (by decide) ?_
              refine lv_goto (tgt := 120) hx hb dX12_taken_86 (by decide) ?_
              refine lv_istore (lv' := [(9, .int (nI (0))), (8, .int (3)), (7, .int (nI (T 8 (5 * j + p0)))), (6, .int (nI (2))), (0, .ref (m)), (1, .int (nI (j))), (2, .int (nI (p0))), (3, .long (v)), (5, .int (nI (100 + n0)))]) hx hb dX12_taken_120 hl (by decide) rfl (fun ls hl => ?_)
              refine lv_iload hx hb dX12_taken_122 (lv_at hl 0 rfl) ?_
              refine lv_if_ne (tgt := 129) hx hb dX12_taken_124 (by decide) (fun c_22 => ?_) (fun c_22 => ?_)
              · first | exact absurd c_22 (by decide) | exact absurd (by decide) c_22
              · refine lv_iconst (v := (nI (1))) hx hb dX12_taken_127 (by decide) ?_
                exact rl_iret hC hW hr hlk (Nat.le_refl _) (Nat.le_refl _) ⟨_, rfl, rfl, rfl, rfl, by rw [tk_rx (by omega) (by omega)]⟩ dX12_taken_128
            · first | exact absurd c_21 (by decide) | exact absurd (by decide) c_21
        · first | exact absurd c_19 (by decide) | exact absurd (by decide) c_19
      · subst hh
        obtain rfl : x = nI (1000000 + n0) := hx0
        have h15 := (hGd n0 hn0).1
        have hsh := (hGW.2.1 n0 hn0).1
        refine lv_istore (lv' := [(8, .int (4)), (7, .int (nI (T 8 (5 * j + p0)))), (6, .int (nI (2))), (0, .ref (m)), (1, .int (nI (j))), (2, .int (nI (p0))), (3, .long (v)), (5, .int (nI (1000000 + n0)))]) hx hb dX12_taken_60 hl (by decide) rfl (fun ls hl => ?_)
        refine lv_iload hx hb dX12_taken_62 (lv_at hl 0 rfl) ?_
        refine lv_if_ne (tgt := 69) hx hb dX12_taken_64 (by decide) (fun c_23 => ?_) (fun c_23 => ?_)
        · refine lv_iload hx hb dX12_taken_69 (lv_at hl 2 rfl) ?_
          refine lv_iconst (v := (nI (2))) hx hb dX12_taken_71 (by decide) ?_
          refine lv_icmp_ne (tgt := 89) hx hb dX12_taken_72 (by decide) (fun c_24 => ?_) (fun c_24 => ?_)
          · first | exact absurd c_24 (by decide) | exact absurd (by decide) c_24
          · refine lv_iload hx hb dX12_taken_75 (lv_at hl 0 rfl) ?_
            refine lv_iconst (v := (nI (3))) hx hb dX12_taken_77 (by decide) ?_
            refine lv_icmp_ge (tgt := 85) hx hb dX12_taken_78 (by decide) (fun c_25 => ?_) (fun c_25 => ?_)
            · refine lv_iconst (v := (nI (0))) hx hb dX12_taken_85 (by decide) ?_
              refine lv_goto (tgt := 120) hx hb dX12_taken_86 (by decide) ?_
              refine lv_istore (lv' := [(9, .int (nI (0))), (8, .int (4)), (7, .int (nI (T 8 (5 * j + p0)))), (6, .int (nI (2))), (0, .ref (m)), (1, .int (nI (j))), (2, .int (nI (p0))), (3, .long (v)), (5, .int (nI (1000000 + n0)))]) hx hb dX12_taken_120 hl (by decide) rfl (fun ls hl => ?_)
              refine lv_iload hx hb dX12_taken_122 (lv_at hl 0 rfl) ?_
              refine lv_if_ne (tgt := 129) hx hb dX12_taken_124 (by decide) (fun c_26 => ?_) (fun c_26 => ?_)
              · first | exact absurd c_26 (by decide) | exact absurd (by decide) c_26
              · refine lv_iconst (v := (nI (1))) hx hb dX12_taken_127 (by decide) ?_
                exact rl_iret hC hW hr hlk (Nat.le_refl _) (Nat.le_refl _) ⟨_, rfl, rfl, rfl, rfl, by rw [tk_dx (by omega) (by omega)]⟩ dX12_taken_128
            · first | exact absurd c_25 (by decide) | exact absurd (by decide) c_25
        · first | exact absurd c_23 (by decide) | exact absurd (by decide) c_23
    · first | exact absurd c_7 (by decide) | exact absurd (by decide) c_7
  · have hof := hnm.2.2.2.2.2 hs
    refine lv_aload_n hx hb dX12_taken_0 rfl (lv_at hl 0 rfl) ?_
    refine rl_get (v := .ref (m + 6)) hC hW fl_X12_26 hR.1 rfl dX12_taken_1 ?_
    refine lv_iconst (v := (nI (5))) hx hb dX12_taken_4 (by decide) ?_
    refine lv_iload_n hx hb dX12_taken_5 rfl (lv_at hl 1 rfl) ?_
    refine lv_imul hx hb dX12_taken_6 ?_
    refine rl_topn (pk_mul _ _) ?_
    refine lv_iload_n hx hb dX12_taken_7 rfl (lv_at hl 2 rfl) ?_
    refine lv_iadd hx hb dX12_taken_8 ?_
    refine rl_topn (nI_add _ _) ?_
    refine rl_iald_n (g := I 5) hC hW hR.a5 (by omega) (by decide) dX12_taken_9 ?_
    refine rl_topn (hnm.2.2.1.trans (by rw [hs])) ?_
    refine lv_istore (lv' := [(6, .int (nI (3))), (0, .ref (m)), (1, .int (nI (j))), (2, .int (nI (p0))), (3, .long (v)), (5, .int (x))]) hx hb dX12_taken_10 hl (by decide) rfl (fun ls hl => ?_)
    refine lv_aload_n hx hb dX12_taken_12 rfl (lv_at hl 1 rfl) ?_
    refine rl_get (v := .ref (m + 7)) hC hW fl_X12_29 hR.1 rfl dX12_taken_13 ?_
    refine lv_iconst (v := (nI (5))) hx hb dX12_taken_16 (by decide) ?_
    refine lv_iload_n hx hb dX12_taken_17 rfl (lv_at hl 2 rfl) ?_
    refine lv_imul hx hb dX12_taken_18 ?_
    refine rl_topn (pk_mul _ _) ?_
    refine lv_iload_n hx hb dX12_taken_19 rfl (lv_at hl 3 rfl) ?_
    refine lv_iadd hx hb dX12_taken_20 ?_
    refine rl_topn (nI_add _ _) ?_
    refine rl_iald_n (g := I 6) hC hW hR.a6 (by omega) (by decide) dX12_taken_21 ?_
    refine rl_topn (hof.2.2) ?_
    refine lv_istore (lv' := [(7, .int (nI (T 8 (5 * j + p0)))), (6, .int (nI (3))), (0, .ref (m)), (1, .int (nI (j))), (2, .int (nI (p0))), (3, .long (v)), (5, .int (x))]) hx hb dX12_taken_22 hl (by decide) rfl (fun ls hl => ?_)
    refine lv_iload hx hb dX12_taken_24 (lv_at hl 1 rfl) ?_
    refine lv_iconst (v := (nI (2))) hx hb dX12_taken_26 (by decide) ?_
    refine lv_icmp_ge (tgt := 54) hx hb dX12_taken_27 (by decide) (fun c_27 => ?_) (fun c_27 => ?_)
    · refine lv_aload_n hx hb dX12_taken_54 rfl (lv_at hl 2 rfl) ?_
      refine lv_iload hx hb dX12_taken_55 (lv_at hl 6 rfl) ?_
      refine rl_calliQ (rl_runV (b := m) (As := [.int (x)]) (rest := []) hC hW (cR_familyOf l D t A _ z m _ L F hR T (fun n hn => ⟨(hTc.2.2.2 n hn).2.1, (hTc.2.2.2 n hn).2.2.1⟩) ρ κ hρ hκ _ h hx0 hV) cs_X12_160 im_X12_familyOf sl_X12_familyOf hR.1 rfl ⟨(Nat.le_of_ble_eq_true rfl), (Nat.le_of_ble_eq_true rfl)⟩ rfl hl.1 rfl (Nat.le_of_ble_eq_true rfl) dX12_taken_57 ⟨(Nat.le_of_ble_eq_true rfl), (Nat.le_of_ble_eq_true rfl)⟩) hW (fun r f1 H locs hp hW => ?_)
      obtain ⟨rfl, hp⟩ := hp
      rcases hp with ⟨hh, rfl⟩ | ⟨n0, hn0, hh, ⟨rfl, -⟩ | ⟨rfl, -⟩⟩ | ⟨n0, hn0, hh, rfl⟩ | ⟨n0, hn0, hh, rfl⟩
      · subst hh
        refine lv_istore (lv' := [(8, .int (0)), (7, .int (nI (T 8 (5 * j + p0)))), (6, .int (nI (3))), (0, .ref (m)), (1, .int (nI (j))), (2, .int (nI (p0))), (3, .long (v)), (5, .int (x))]) hx hb dX12_taken_60 hl (by decide) rfl (fun ls hl => ?_)
        refine lv_iload hx hb dX12_taken_62 (lv_at hl 0 rfl) ?_
        refine lv_if_ne (tgt := 69) hx hb dX12_taken_64 (by decide) (fun c_28 => ?_) (fun c_28 => ?_)
        · first | exact absurd c_28 (by decide) | exact absurd (by decide) c_28
        · refine lv_iconst (v := (nI (0))) hx hb dX12_taken_67 (by decide) ?_
          exact rl_iret hC hW hr hlk (Nat.le_refl _) (Nat.le_refl _) ⟨_, rfl, rfl, rfl, rfl, by rw [tk_n (by omega)]⟩ dX12_taken_68
      · subst hh
        obtain rfl : x = nI n0 := hx0
        refine lv_istore (lv' := [(8, .int (1)), (7, .int (nI (T 8 (5 * j + p0)))), (6, .int (nI (3))), (0, .ref (m)), (1, .int (nI (j))), (2, .int (nI (p0))), (3, .long (v)), (5, .int (nI (n0)))]) hx hb dX12_taken_60 hl (by decide) rfl (fun ls hl => ?_)
        refine lv_iload hx hb dX12_taken_62 (lv_at hl 0 rfl) ?_
        refine lv_if_ne (tgt := 69) hx hb dX12_taken_64 (by decide) (fun c_29 => ?_) (fun c_29 => ?_)
        · refine lv_iload hx hb dX12_taken_69 (lv_at hl 2 rfl) ?_
          refine lv_iconst (v := (nI (2))) hx hb dX12_taken_71 (by decide) ?_
          refine lv_icmp_ne (tgt := 89) hx hb dX12_taken_72 (by decide) (fun c_30 => ?_) (fun c_30 => ?_)
          · refine lv_iload hx hb dX12_taken_89 (lv_at hl 2 rfl) ?_
            refine lv_iconst (v := (nI (3))) hx hb dX12_taken_91 (by decide) ?_
            refine lv_icmp_ne (tgt := 109) hx hb dX12_taken_92 (by decide) (fun c_31 => ?_) (fun c_31 => ?_)
            · first | exact absurd c_31 (by decide) | exact absurd (by decide) c_31
            · refine lv_iload hx hb dX12_taken_95 (lv_at hl 0 rfl) ?_
              refine lv_iconst (v := (nI (4))) hx hb dX12_taken_97 (by decide) ?_
              refine lv_icmp_ne (tgt := 105) hx hb dX12_taken_98 (by decide) (fun c_32 => ?_) (fun c_32 => ?_)
              · refine lv_iconst (v := (nI (0))) hx hb dX12_taken_105 (by decide) ?_
                refine lv_goto (tgt := 120) hx hb dX12_taken_106 (by decide) ?_
                refine lv_istore (lv' := [(9, .int (nI (0))), (8, .int (1)), (7, .int (nI (T 8 (5 * j + p0)))), (6, .int (nI (3))), (0, .ref (m)), (1, .int (nI (j))), (2, .int (nI (p0))), (3, .long (v)), (5, .int (nI (n0)))]) hx hb dX12_taken_120 hl (by decide) rfl (fun ls hl => ?_)
                refine lv_iload hx hb dX12_taken_122 (lv_at hl 0 rfl) ?_
                refine lv_if_ne (tgt := 129) hx hb dX12_taken_124 (by decide) (fun c_33 => ?_) (fun c_33 => ?_)
                · first | exact absurd c_33 (by decide) | exact absurd (by decide) c_33
                · refine lv_iconst (v := (nI (1))) hx hb dX12_taken_127 (by decide) ?_
                  exact rl_iret hC hW hr hlk (Nat.le_refl _) (Nat.le_refl _) ⟨_, rfl, rfl, rfl, rfl, by rw [tk_cx (by omega) (by omega)]⟩ dX12_taken_128
              · first | exact absurd c_32 (by decide) | exact absurd (by decide) c_32
          · first | exact absurd c_30 (by decide) | exact absurd (by decide) c_30
        · first | exact absurd c_29 (by decide) | exact absurd (by decide) c_29
      · subst hh
        obtain rfl : x = nI n0 := hx0
        refine lv_istore (lv' := [(8, .int (2)), (7, .int (nI (T 8 (5 * j + p0)))), (6, .int (nI (3))), (0, .ref (m)), (1, .int (nI (j))), (2, .int (nI (p0))), (3, .long (v)), (5, .int (nI (n0)))]) hx hb dX12_taken_60 hl (by decide) rfl (fun ls hl => ?_)
        refine lv_iload hx hb dX12_taken_62 (lv_at hl 0 rfl) ?_
        refine lv_if_ne (tgt := 69) hx hb dX12_taken_64 (by decide) (fun c_34 => ?_) (fun c_34 => ?_)
        · refine lv_iload hx hb dX12_taken_69 (lv_at hl 2 rfl) ?_
          refine lv_iconst (v := (nI (2))) hx hb dX12_taken_71 (by decide) ?_
          refine lv_icmp_ne (tgt := 89) hx hb dX12_taken_72 (by decide) (fun c_35 => ?_) (fun c_35 => ?_)
          · refine lv_iload hx hb dX12_taken_89 (lv_at hl 2 rfl) ?_
            refine lv_iconst (v := (nI (3))) hx hb dX12_taken_91 (by decide) ?_
            refine lv_icmp_ne (tgt := 109) hx hb dX12_taken_92 (by decide) (fun c_36 => ?_) (fun c_36 => ?_)
            · first | exact absurd c_36 (by decide) | exact absurd (by decide) c_36
            · refine lv_iload hx hb dX12_taken_95 (lv_at hl 0 rfl) ?_
              refine lv_iconst (v := (nI (4))) hx hb dX12_taken_97 (by decide) ?_
              refine lv_icmp_ne (tgt := 105) hx hb dX12_taken_98 (by decide) (fun c_37 => ?_) (fun c_37 => ?_)
              · refine lv_iconst (v := (nI (0))) hx hb dX12_taken_105 (by decide) ?_
                refine lv_goto (tgt := 120) hx hb dX12_taken_106 (by decide) ?_
                refine lv_istore (lv' := [(9, .int (nI (0))), (8, .int (2)), (7, .int (nI (T 8 (5 * j + p0)))), (6, .int (nI (3))), (0, .ref (m)), (1, .int (nI (j))), (2, .int (nI (p0))), (3, .long (v)), (5, .int (nI (n0)))]) hx hb dX12_taken_120 hl (by decide) rfl (fun ls hl => ?_)
                refine lv_iload hx hb dX12_taken_122 (lv_at hl 0 rfl) ?_
                refine lv_if_ne (tgt := 129) hx hb dX12_taken_124 (by decide) (fun c_38 => ?_) (fun c_38 => ?_)
                · first | exact absurd c_38 (by decide) | exact absurd (by decide) c_38
                · refine lv_iconst (v := (nI (1))) hx hb dX12_taken_127 (by decide) ?_
                  exact rl_iret hC hW hr hlk (Nat.le_refl _) (Nat.le_refl _) ⟨_, rfl, rfl, rfl, rfl, by rw [tk_cx (by omega) (by omega)]⟩ dX12_taken_128
              · first | exact absurd c_37 (by decide) | exact absurd (by decide) c_37
          · first | exact absurd c_35 (by decide) | exact absurd (by decide) c_35
        · first | exact absurd c_34 (by decide) | exact absurd (by decide) c_34
      · subst hh
        obtain rfl : x = nI (100 + n0) := hx0
        refine lv_istore (lv' := [(8, .int (3)), (7, .int (nI (T 8 (5 * j + p0)))), (6, .int (nI (3))), (0, .ref (m)), (1, .int (nI (j))), (2, .int (nI (p0))), (3, .long (v)), (5, .int (nI (100 + n0)))]) hx hb dX12_taken_60 hl (by decide) rfl (fun ls hl => ?_)
        refine lv_iload hx hb dX12_taken_62 (lv_at hl 0 rfl) ?_
        refine lv_if_ne (tgt := 69) hx hb dX12_taken_64 (by decide) (fun c_39 => ?_) (fun c_39 => ?_)
        · refine lv_iload hx hb dX12_taken_69 (lv_at hl 2 rfl) ?_
          refine lv_iconst (v := (nI (2))) hx hb dX12_taken_71 (by decide) ?_
          refine lv_icmp_ne (tgt := 89) hx hb dX12_taken_72 (by decide) (fun c_40 => ?_) (fun c_40 => ?_)
          · refine lv_iload hx hb dX12_taken_89 (lv_at hl 2 rfl) ?_
            refine lv_iconst (v := (nI (3))) hx hb dX12_taken_91 (by decide) ?_
            refine lv_icmp_ne (tgt := 109) hx hb dX12_taken_92 (by decide) (fun c_41 => ?_) (fun c_41 => ?_)
            · first | exact absurd c_41 (by decide) | exact absurd (by decide) c_41
            · refine lv_iload hx hb dX12_taken_95 (lv_at hl 0 rfl) ?_
              refine lv_iconst (v := (nI (4))) hx hb dX12_taken_97 (by decide) ?_
              refine lv_icmp_ne (tgt := 105) hx hb dX12_taken_98 (by decide) (fun c_42 => ?_) (fun c_42 => ?_)
              · refine lv_iconst (v := (nI (0))) hx hb dX12_taken_105 (by decide) ?_
                refine lv_goto (tgt := 120) hx hb dX12_taken_106 (by decide) ?_
                refine lv_istore (lv' := [(9, .int (nI (0))), (8, .int (3)), (7, .int (nI (T 8 (5 * j + p0)))), (6, .int (nI (3))), (0, .ref (m)), (1, .int (nI (j))), (2, .int (nI (p0))), (3, .long (v)), (5, .int (nI (100 + n0)))]) hx hb dX12_taken_120 hl (by decide) rfl (fun ls hl => ?_)
                refine lv_iload hx hb dX12_taken_122 (lv_at hl 0 rfl) ?_
                refine lv_if_ne (tgt := 129) hx hb dX12_taken_124 (by decide) (fun c_43 => ?_) (fun c_43 => ?_)
                · first | exact absurd c_43 (by decide) | exact absurd (by decide) c_43
                · refine lv_iconst (v := (nI (1))) hx hb dX12_taken_127 (by decide) ?_
                  exact rl_iret hC hW hr hlk (Nat.le_refl _) (Nat.le_refl _) ⟨_, rfl, rfl, rfl, rfl, by rw [tk_rx (by omega) (by omega)]⟩ dX12_taken_128
              · first | exact absurd c_42 (by decide) | exact absurd (by decide) c_42
          · first | exact absurd c_40 (by decide) | exact absurd (by decide) c_40
        · first | exact absurd c_39 (by decide) | exact absurd (by decide) c_39
      · subst hh
        obtain rfl : x = nI (1000000 + n0) := hx0
        have h15 := (hGd n0 hn0).1
        have hsh := (hGW.2.1 n0 hn0).1
        refine lv_istore (lv' := [(8, .int (4)), (7, .int (nI (T 8 (5 * j + p0)))), (6, .int (nI (3))), (0, .ref (m)), (1, .int (nI (j))), (2, .int (nI (p0))), (3, .long (v)), (5, .int (nI (1000000 + n0)))]) hx hb dX12_taken_60 hl (by decide) rfl (fun ls hl => ?_)
        refine lv_iload hx hb dX12_taken_62 (lv_at hl 0 rfl) ?_
        refine lv_if_ne (tgt := 69) hx hb dX12_taken_64 (by decide) (fun c_44 => ?_) (fun c_44 => ?_)
        · refine lv_iload hx hb dX12_taken_69 (lv_at hl 2 rfl) ?_
          refine lv_iconst (v := (nI (2))) hx hb dX12_taken_71 (by decide) ?_
          refine lv_icmp_ne (tgt := 89) hx hb dX12_taken_72 (by decide) (fun c_45 => ?_) (fun c_45 => ?_)
          · refine lv_iload hx hb dX12_taken_89 (lv_at hl 2 rfl) ?_
            refine lv_iconst (v := (nI (3))) hx hb dX12_taken_91 (by decide) ?_
            refine lv_icmp_ne (tgt := 109) hx hb dX12_taken_92 (by decide) (fun c_46 => ?_) (fun c_46 => ?_)
            · first | exact absurd c_46 (by decide) | exact absurd (by decide) c_46
            · refine lv_iload hx hb dX12_taken_95 (lv_at hl 0 rfl) ?_
              refine lv_iconst (v := (nI (4))) hx hb dX12_taken_97 (by decide) ?_
              refine lv_icmp_ne (tgt := 105) hx hb dX12_taken_98 (by decide) (fun c_47 => ?_) (fun c_47 => ?_)
              · first | exact absurd c_47 (by decide) | exact absurd (by decide) c_47
              · refine lv_iconst (v := (nI (1))) hx hb dX12_taken_101 (by decide) ?_
                refine lv_goto (tgt := 120) hx hb dX12_taken_102 (by decide) ?_
                refine lv_istore (lv' := [(9, .int (nI (1))), (8, .int (4)), (7, .int (nI (T 8 (5 * j + p0)))), (6, .int (nI (3))), (0, .ref (m)), (1, .int (nI (j))), (2, .int (nI (p0))), (3, .long (v)), (5, .int (nI (1000000 + n0)))]) hx hb dX12_taken_120 hl (by decide) rfl (fun ls hl => ?_)
                refine lv_iload hx hb dX12_taken_122 (lv_at hl 0 rfl) ?_
                refine lv_if_ne (tgt := 129) hx hb dX12_taken_124 (by decide) (fun c_48 => ?_) (fun c_48 => ?_)
                · refine lv_iload hx hb dX12_taken_129 (lv_at hl 3 rfl) ?_
                  refine lv_iconst (v := (nI (2))) hx hb dX12_taken_131 (by decide) ?_
                  refine lv_icmp_ne (tgt := 157) hx hb dX12_taken_132 (by decide) (fun c_49 => ?_) (fun c_49 => ?_)
                  · refine lv_iload hx hb dX12_taken_157 (lv_at hl 3 rfl) ?_
                    refine lv_iconst (v := (nI (3))) hx hb dX12_taken_159 (by decide) ?_
                    refine lv_icmp_ne (tgt := 190) hx hb dX12_taken_160 (by decide) (fun c_50 => ?_) (fun c_50 => ?_)
                    · first | exact absurd c_50 (by decide) | exact absurd (by decide) c_50
                    · refine lv_aload_n hx hb dX12_taken_163 rfl (lv_at hl 4 rfl) ?_
                      refine rl_get (v := .ref (m + 14)) hC hW fl_X12_52 hR.1 rfl dX12_taken_164 ?_
                      refine lv_iload hx hb dX12_taken_167 (lv_at hl 8 rfl) ?_
                      refine lv_ldc (v := nI 1000000) hx hb hC.2.2.2.1 (hC.2.2.2.2.1 _ (List.mem_cons_of_mem _ mw_859)) dX12_taken_169 ?_
                      refine lv_isub hx hb dX12_taken_171 ?_
                      refine rl_topn (rg_sub (c := n0) (by omega)) ?_
                      refine rl_iald_n (g := I 15) hC hW hR.a15 (by omega) (by decide) dX12_taken_172 ?_
                      refine rl_topn (h15) ?_
                      refine lv_iconst (v := (nI (3))) hx hb dX12_taken_173 (by decide) ?_
                      refine lv_iload hx hb dX12_taken_174 (lv_at hl 2 rfl) ?_
                      refine lv_iconst (v := (nI (2))) hx hb dX12_taken_176 (by decide) ?_
                      refine lv_isub hx hb dX12_taken_177 ?_
                      refine rl_topn (rg_sub (c := T 8 (5 * j + p0) - 2) (by omega)) ?_
                      refine lv_imul hx hb dX12_taken_178 ?_
                      refine rl_topn (pk_mul _ _) ?_
                      refine lv_iload_n hx hb dX12_taken_179 rfl (lv_at hl 5 rfl) ?_
                      refine lv_iconst (v := (nI (3))) hx hb dX12_taken_180 (by decide) ?_
                      refine lv_irem hx hb dX12_taken_181 (by decide) ?_
                      refine rl_topn (pk_rem (by omega) (by decide) (by decide)) ?_
                      refine lv_iadd hx hb dX12_taken_182 ?_
                      refine rl_topn (nI_add _ _) ?_
                      refine lv_icmp_eq (tgt := 190) hx hb dX12_taken_183 (by decide) (fun cq => ?_) (fun cq => ?_)
                      · refine lv_iconst (v := (nI (0))) hx hb dX12_taken_190 (by decide) ?_
                        exact rl_iret hC hW hr hlk (Nat.le_refl _) (Nat.le_refl _) ⟨_, rfl, rfl, rfl, rfl, by rw [tk_d hs, if_pos ((nI_eq (by omega) (by omega)).mp cq)]⟩ dX12_taken_191
                      · refine lv_iconst (v := (nI (2))) hx hb dX12_taken_186 (by decide) ?_
                        refine lv_goto (tgt := 191) hx hb dX12_taken_187 (by decide) ?_
                        exact rl_iret hC hW hr hlk (Nat.le_refl _) (Nat.le_refl _) ⟨_, rfl, rfl, rfl, rfl, by rw [tk_d hs, if_neg (fun q => cq (by rw [q]))]⟩ dX12_taken_191
                  · first | exact absurd c_49 (by decide) | exact absurd (by decide) c_49
                · first | exact absurd c_48 (by decide) | exact absurd (by decide) c_48
          · first | exact absurd c_45 (by decide) | exact absurd (by decide) c_45
        · first | exact absurd c_44 (by decide) | exact absurd (by decide) c_44
    · first | exact absurd c_27 (by decide) | exact absurd (by decide) c_27
  · refine lv_aload_n hx hb dX12_taken_0 rfl (lv_at hl 0 rfl) ?_
    refine rl_get (v := .ref (m + 6)) hC hW fl_X12_26 hR.1 rfl dX12_taken_1 ?_
    refine lv_iconst (v := (nI (5))) hx hb dX12_taken_4 (by decide) ?_
    refine lv_iload_n hx hb dX12_taken_5 rfl (lv_at hl 1 rfl) ?_
    refine lv_imul hx hb dX12_taken_6 ?_
    refine rl_topn (pk_mul _ _) ?_
    refine lv_iload_n hx hb dX12_taken_7 rfl (lv_at hl 2 rfl) ?_
    refine lv_iadd hx hb dX12_taken_8 ?_
    refine rl_topn (nI_add _ _) ?_
    refine rl_iald_n (g := I 5) hC hW hR.a5 (by omega) (by decide) dX12_taken_9 ?_
    refine rl_topn (hnm.2.2.1.trans (by rw [hs])) ?_
    refine lv_istore (lv' := [(6, .int (nI (4))), (0, .ref (m)), (1, .int (nI (j))), (2, .int (nI (p0))), (3, .long (v)), (5, .int (x))]) hx hb dX12_taken_10 hl (by decide) rfl (fun ls hl => ?_)
    refine lv_aload_n hx hb dX12_taken_12 rfl (lv_at hl 1 rfl) ?_
    refine rl_get (v := .ref (m + 7)) hC hW fl_X12_29 hR.1 rfl dX12_taken_13 ?_
    refine lv_iconst (v := (nI (5))) hx hb dX12_taken_16 (by decide) ?_
    refine lv_iload_n hx hb dX12_taken_17 rfl (lv_at hl 2 rfl) ?_
    refine lv_imul hx hb dX12_taken_18 ?_
    refine rl_topn (pk_mul _ _) ?_
    refine lv_iload_n hx hb dX12_taken_19 rfl (lv_at hl 3 rfl) ?_
    refine lv_iadd hx hb dX12_taken_20 ?_
    refine rl_topn (nI_add _ _) ?_
    refine rl_iald_n (g := I 6) hC hW hR.a6 (by omega) (by decide) dX12_taken_21 ?_
    refine lv_istore (lv' := [(7, .int (I 6 (((5) * (j)) + (p0)))), (6, .int (nI (4))), (0, .ref (m)), (1, .int (nI (j))), (2, .int (nI (p0))), (3, .long (v)), (5, .int (x))]) hx hb dX12_taken_22 hl (by decide) rfl (fun ls hl => ?_)
    refine lv_iload hx hb dX12_taken_24 (lv_at hl 1 rfl) ?_
    refine lv_iconst (v := (nI (2))) hx hb dX12_taken_26 (by decide) ?_
    refine lv_icmp_ge (tgt := 54) hx hb dX12_taken_27 (by decide) (fun c_51 => ?_) (fun c_51 => ?_)
    · refine lv_aload_n hx hb dX12_taken_54 rfl (lv_at hl 2 rfl) ?_
      refine lv_iload hx hb dX12_taken_55 (lv_at hl 6 rfl) ?_
      refine rl_calliQ (rl_runV (b := m) (As := [.int (x)]) (rest := []) hC hW (cR_familyOf l D t A _ z m _ L F hR T (fun n hn => ⟨(hTc.2.2.2 n hn).2.1, (hTc.2.2.2 n hn).2.2.1⟩) ρ κ hρ hκ _ h hx0 hV) cs_X12_160 im_X12_familyOf sl_X12_familyOf hR.1 rfl ⟨(Nat.le_of_ble_eq_true rfl), (Nat.le_of_ble_eq_true rfl)⟩ rfl hl.1 rfl (Nat.le_of_ble_eq_true rfl) dX12_taken_57 ⟨(Nat.le_of_ble_eq_true rfl), (Nat.le_of_ble_eq_true rfl)⟩) hW (fun r f1 H locs hp hW => ?_)
      obtain ⟨rfl, hp⟩ := hp
      rcases hp with ⟨hh, rfl⟩ | ⟨n0, hn0, hh, ⟨rfl, -⟩ | ⟨rfl, -⟩⟩ | ⟨n0, hn0, hh, rfl⟩ | ⟨n0, hn0, hh, rfl⟩
      · subst hh
        refine lv_istore (lv' := [(8, .int (0)), (7, .int (I 6 (((5) * (j)) + (p0)))), (6, .int (nI (4))), (0, .ref (m)), (1, .int (nI (j))), (2, .int (nI (p0))), (3, .long (v)), (5, .int (x))]) hx hb dX12_taken_60 hl (by decide) rfl (fun ls hl => ?_)
        refine lv_iload hx hb dX12_taken_62 (lv_at hl 0 rfl) ?_
        refine lv_if_ne (tgt := 69) hx hb dX12_taken_64 (by decide) (fun c_52 => ?_) (fun c_52 => ?_)
        · first | exact absurd c_52 (by decide) | exact absurd (by decide) c_52
        · refine lv_iconst (v := (nI (0))) hx hb dX12_taken_67 (by decide) ?_
          exact rl_iret hC hW hr hlk (Nat.le_refl _) (Nat.le_refl _) ⟨_, rfl, rfl, rfl, rfl, by rw [tk_n (by omega)]⟩ dX12_taken_68
      · subst hh
        obtain rfl : x = nI n0 := hx0
        refine lv_istore (lv' := [(8, .int (1)), (7, .int (I 6 (((5) * (j)) + (p0)))), (6, .int (nI (4))), (0, .ref (m)), (1, .int (nI (j))), (2, .int (nI (p0))), (3, .long (v)), (5, .int (nI (n0)))]) hx hb dX12_taken_60 hl (by decide) rfl (fun ls hl => ?_)
        refine lv_iload hx hb dX12_taken_62 (lv_at hl 0 rfl) ?_
        refine lv_if_ne (tgt := 69) hx hb dX12_taken_64 (by decide) (fun c_53 => ?_) (fun c_53 => ?_)
        · refine lv_iload hx hb dX12_taken_69 (lv_at hl 2 rfl) ?_
          refine lv_iconst (v := (nI (2))) hx hb dX12_taken_71 (by decide) ?_
          refine lv_icmp_ne (tgt := 89) hx hb dX12_taken_72 (by decide) (fun c_54 => ?_) (fun c_54 => ?_)
          · refine lv_iload hx hb dX12_taken_89 (lv_at hl 2 rfl) ?_
            refine lv_iconst (v := (nI (3))) hx hb dX12_taken_91 (by decide) ?_
            refine lv_icmp_ne (tgt := 109) hx hb dX12_taken_92 (by decide) (fun c_55 => ?_) (fun c_55 => ?_)
            · refine lv_iload hx hb dX12_taken_109 (lv_at hl 0 rfl) ?_
              refine lv_iconst (v := (nI (3))) hx hb dX12_taken_111 (by decide) ?_
              refine lv_icmp_ne (tgt := 119) hx hb dX12_taken_112 (by decide) (fun c_56 => ?_) (fun c_56 => ?_)
              · refine lv_iconst (v := (nI (0))) hx hb dX12_taken_119 (by decide) ?_
                refine lv_istore (lv' := [(9, .int (nI (0))), (8, .int (1)), (7, .int (I 6 (((5) * (j)) + (p0)))), (6, .int (nI (4))), (0, .ref (m)), (1, .int (nI (j))), (2, .int (nI (p0))), (3, .long (v)), (5, .int (nI (n0)))]) hx hb dX12_taken_120 hl (by decide) rfl (fun ls hl => ?_)
                refine lv_iload hx hb dX12_taken_122 (lv_at hl 0 rfl) ?_
                refine lv_if_ne (tgt := 129) hx hb dX12_taken_124 (by decide) (fun c_57 => ?_) (fun c_57 => ?_)
                · first | exact absurd c_57 (by decide) | exact absurd (by decide) c_57
                · refine lv_iconst (v := (nI (1))) hx hb dX12_taken_127 (by decide) ?_
                  exact rl_iret hC hW hr hlk (Nat.le_refl _) (Nat.le_refl _) ⟨_, rfl, rfl, rfl, rfl, by rw [tk_cx (by omega) (by omega)]⟩ dX12_taken_128
              · first | exact absurd c_56 (by decide) | exact absurd (by decide) c_56
            · first | exact absurd c_55 (by decide) | exact absurd (by decide) c_55
          · first | exact absurd c_54 (by decide) | exact absurd (by decide) c_54
        · first | exact absurd c_53 (by decide) | exact absurd (by decide) c_53
      · subst hh
        obtain rfl : x = nI n0 := hx0
        refine lv_istore (lv' := [(8, .int (2)), (7, .int (I 6 (((5) * (j)) + (p0)))), (6, .int (nI (4))), (0, .ref (m)), (1, .int (nI (j))), (2, .int (nI (p0))), (3, .long (v)), (5, .int (nI (n0)))]) hx hb dX12_taken_60 hl (by decide) rfl (fun ls hl => ?_)
        refine lv_iload hx hb dX12_taken_62 (lv_at hl 0 rfl) ?_
        refine lv_if_ne (tgt := 69) hx hb dX12_taken_64 (by decide) (fun c_58 => ?_) (fun c_58 => ?_)
        · refine lv_iload hx hb dX12_taken_69 (lv_at hl 2 rfl) ?_
          refine lv_iconst (v := (nI (2))) hx hb dX12_taken_71 (by decide) ?_
          refine lv_icmp_ne (tgt := 89) hx hb dX12_taken_72 (by decide) (fun c_59 => ?_) (fun c_59 => ?_)
          · refine lv_iload hx hb dX12_taken_89 (lv_at hl 2 rfl) ?_
            refine lv_iconst (v := (nI (3))) hx hb dX12_taken_91 (by decide) ?_
            refine lv_icmp_ne (tgt := 109) hx hb dX12_taken_92 (by decide) (fun c_60 => ?_) (fun c_60 => ?_)
            · refine lv_iload hx hb dX12_taken_109 (lv_at hl 0 rfl) ?_
              refine lv_iconst (v := (nI (3))) hx hb dX12_taken_111 (by decide) ?_
              refine lv_icmp_ne (tgt := 119) hx hb dX12_taken_112 (by decide) (fun c_61 => ?_) (fun c_61 => ?_)
              · refine lv_iconst (v := (nI (0))) hx hb dX12_taken_119 (by decide) ?_
                refine lv_istore (lv' := [(9, .int (nI (0))), (8, .int (2)), (7, .int (I 6 (((5) * (j)) + (p0)))), (6, .int (nI (4))), (0, .ref (m)), (1, .int (nI (j))), (2, .int (nI (p0))), (3, .long (v)), (5, .int (nI (n0)))]) hx hb dX12_taken_120 hl (by decide) rfl (fun ls hl => ?_)
                refine lv_iload hx hb dX12_taken_122 (lv_at hl 0 rfl) ?_
                refine lv_if_ne (tgt := 129) hx hb dX12_taken_124 (by decide) (fun c_62 => ?_) (fun c_62 => ?_)
                · first | exact absurd c_62 (by decide) | exact absurd (by decide) c_62
                · refine lv_iconst (v := (nI (1))) hx hb dX12_taken_127 (by decide) ?_
                  exact rl_iret hC hW hr hlk (Nat.le_refl _) (Nat.le_refl _) ⟨_, rfl, rfl, rfl, rfl, by rw [tk_cx (by omega) (by omega)]⟩ dX12_taken_128
              · first | exact absurd c_61 (by decide) | exact absurd (by decide) c_61
            · first | exact absurd c_60 (by decide) | exact absurd (by decide) c_60
          · first | exact absurd c_59 (by decide) | exact absurd (by decide) c_59
        · first | exact absurd c_58 (by decide) | exact absurd (by decide) c_58
      · subst hh
        obtain rfl : x = nI (100 + n0) := hx0
        refine lv_istore (lv' := [(8, .int (3)), (7, .int (I 6 (((5) * (j)) + (p0)))), (6, .int (nI (4))), (0, .ref (m)), (1, .int (nI (j))), (2, .int (nI (p0))), (3, .long (v)), (5, .int (nI (100 + n0)))]) hx hb dX12_taken_60 hl (by decide) rfl (fun ls hl => ?_)
        refine lv_iload hx hb dX12_taken_62 (lv_at hl 0 rfl) ?_
        refine lv_if_ne (tgt := 69) hx hb dX12_taken_64 (by decide) (fun c_63 => ?_) (fun c_63 => ?_)
        · refine lv_iload hx hb dX12_taken_69 (lv_at hl 2 rfl) ?_
          refine lv_iconst (v := (nI (2))) hx hb dX12_taken_71 (by decide) ?_
          refine lv_icmp_ne (tgt := 89) hx hb dX12_taken_72 (by decide) (fun c_64 => ?_) (fun c_64 => ?_)
          · refine lv_iload hx hb dX12_taken_89 (lv_at hl 2 rfl) ?_
            refine lv_iconst (v := (nI (3))) hx hb dX12_taken_91 (by decide) ?_
            refine lv_icmp_ne (tgt := 109) hx hb dX12_taken_92 (by decide) (fun c_65 => ?_) (fun c_65 => ?_)
            · refine lv_iload hx hb dX12_taken_109 (lv_at hl 0 rfl) ?_
              refine lv_iconst (v := (nI (3))) hx hb dX12_taken_111 (by decide) ?_
              refine lv_icmp_ne (tgt := 119) hx hb dX12_taken_112 (by decide) (fun c_66 => ?_) (fun c_66 => ?_)
              · first | exact absurd c_66 (by decide) | exact absurd (by decide) c_66
              · refine lv_iconst (v := (nI (1))) hx hb dX12_taken_115 (by decide) ?_
                refine lv_goto (tgt := 120) hx hb dX12_taken_116 (by decide) ?_
                refine lv_istore (lv' := [(9, .int (nI (1))), (8, .int (3)), (7, .int (I 6 (((5) * (j)) + (p0)))), (6, .int (nI (4))), (0, .ref (m)), (1, .int (nI (j))), (2, .int (nI (p0))), (3, .long (v)), (5, .int (nI (100 + n0)))]) hx hb dX12_taken_120 hl (by decide) rfl (fun ls hl => ?_)
                refine lv_iload hx hb dX12_taken_122 (lv_at hl 0 rfl) ?_
                refine lv_if_ne (tgt := 129) hx hb dX12_taken_124 (by decide) (fun c_67 => ?_) (fun c_67 => ?_)
                · refine lv_iload hx hb dX12_taken_129 (lv_at hl 3 rfl) ?_
                  refine lv_iconst (v := (nI (2))) hx hb dX12_taken_131 (by decide) ?_
                  refine lv_icmp_ne (tgt := 157) hx hb dX12_taken_132 (by decide) (fun c_68 => ?_) (fun c_68 => ?_)
                  · refine lv_iload hx hb dX12_taken_157 (lv_at hl 3 rfl) ?_
                    refine lv_iconst (v := (nI (3))) hx hb dX12_taken_159 (by decide) ?_
                    refine lv_icmp_ne (tgt := 190) hx hb dX12_taken_160 (by decide) (fun c_69 => ?_) (fun c_69 => ?_)
                    · refine lv_iconst (v := (nI (0))) hx hb dX12_taken_190 (by decide) ?_
                      exact rl_iret hC hW hr hlk (Nat.le_refl _) (Nat.le_refl _) ⟨_, rfl, rfl, rfl, rfl, by rw [tk_r hs]⟩ dX12_taken_191
                    · first | exact absurd c_69 (by decide) | exact absurd (by decide) c_69
                  · first | exact absurd c_68 (by decide) | exact absurd (by decide) c_68
                · first | exact absurd c_67 (by decide) | exact absurd (by decide) c_67
            · first | exact absurd c_65 (by decide) | exact absurd (by decide) c_65
          · first | exact absurd c_64 (by decide) | exact absurd (by decide) c_64
        · first | exact absurd c_63 (by decide) | exact absurd (by decide) c_63
      · subst hh
        obtain rfl : x = nI (1000000 + n0) := hx0
        have h15 := (hGd n0 hn0).1
        have hsh := (hGW.2.1 n0 hn0).1
        refine lv_istore (lv' := [(8, .int (4)), (7, .int (I 6 (((5) * (j)) + (p0)))), (6, .int (nI (4))), (0, .ref (m)), (1, .int (nI (j))), (2, .int (nI (p0))), (3, .long (v)), (5, .int (nI (1000000 + n0)))]) hx hb dX12_taken_60 hl (by decide) rfl (fun ls hl => ?_)
        refine lv_iload hx hb dX12_taken_62 (lv_at hl 0 rfl) ?_
        refine lv_if_ne (tgt := 69) hx hb dX12_taken_64 (by decide) (fun c_70 => ?_) (fun c_70 => ?_)
        · refine lv_iload hx hb dX12_taken_69 (lv_at hl 2 rfl) ?_
          refine lv_iconst (v := (nI (2))) hx hb dX12_taken_71 (by decide) ?_
          refine lv_icmp_ne (tgt := 89) hx hb dX12_taken_72 (by decide) (fun c_71 => ?_) (fun c_71 => ?_)
          · refine lv_iload hx hb dX12_taken_89 (lv_at hl 2 rfl) ?_
            refine lv_iconst (v := (nI (3))) hx hb dX12_taken_91 (by decide) ?_
            refine lv_icmp_ne (tgt := 109) hx hb dX12_taken_92 (by decide) (fun c_72 => ?_) (fun c_72 => ?_)
            · refine lv_iload hx hb dX12_taken_109 (lv_at hl 0 rfl) ?_
              refine lv_iconst (v := (nI (3))) hx hb dX12_taken_111 (by decide) ?_
              refine lv_icmp_ne (tgt := 119) hx hb dX12_taken_112 (by decide) (fun c_73 => ?_) (fun c_73 => ?_)
              · refine lv_iconst (v := (nI (0))) hx hb dX12_taken_119 (by decide) ?_
                refine lv_istore (lv' := [(9, .int (nI (0))), (8, .int (4)), (7, .int (I 6 (((5) * (j)) + (p0)))), (6, .int (nI (4))), (0, .ref (m)), (1, .int (nI (j))), (2, .int (nI (p0))), (3, .long (v)), (5, .int (nI (1000000 + n0)))]) hx hb dX12_taken_120 hl (by decide) rfl (fun ls hl => ?_)
                refine lv_iload hx hb dX12_taken_122 (lv_at hl 0 rfl) ?_
                refine lv_if_ne (tgt := 129) hx hb dX12_taken_124 (by decide) (fun c_74 => ?_) (fun c_74 => ?_)
                · first | exact absurd c_74 (by decide) | exact absurd (by decide) c_74
                · refine lv_iconst (v := (nI (1))) hx hb dX12_taken_127 (by decide) ?_
                  exact rl_iret hC hW hr hlk (Nat.le_refl _) (Nat.le_refl _) ⟨_, rfl, rfl, rfl, rfl, by rw [tk_dx (by omega) (by omega)]⟩ dX12_taken_128
              · first | exact absurd c_73 (by decide) | exact absurd (by decide) c_73
            · first | exact absurd c_72 (by decide) | exact absurd (by decide) c_72
          · first | exact absurd c_71 (by decide) | exact absurd (by decide) c_71
        · first | exact absurd c_70 (by decide) | exact absurd (by decide) c_70
    · first | exact absurd c_51 (by decide) | exact absurd (by decide) c_51

set_option maxHeartbeats 4000000 in
set_option maxRecDepth 100000 in
theorem cR_checked (l : Launch) (D : va_G) (t : Nat → ClassId) (A : Nat → Prop) (f : rl_M) (z : Nat) (m : Nat) (I : Nat → Nat → Int32) (L : Nat → Nat → Int64) (F : Nat → Int32) (hR : RM t f m I L F) (T : Nat → Nat → Nat) (ρ κ : Nat) (G : pG) (hρ : ρ ≤ 43100) (hκ : κ ≤ 26200) (hTc : RTc T (I 0) (I 1) (I 2)) (hTp : RTp T (I 3) (I 4) (I 5) (I 6)) (hGW : GW T ρ κ G) (hGr : RGr ρ G (I 12) (I 13)) (hGd : RGd κ G (I 15) (I 16) (L 17) (I 18)) (w : Nat) (hw5 : w < 5) (n : Int64) (x : Int32) (y : Int64) (h : pHd) (hx0 : x = enc h) (hV : 2 ≤ w → hok ρ κ h ∧ hst (rt_srt w) h) : rl_Met l yX12_checked (.code yX12_checked cX12_checked 8 (some FieldType.int)) (rl_rm 1 0 0) D t A f z [.ref (m), .int (nI (w)), .long (n), .int (x), .long (y)] (rl_qi z fun r f1 => f = f1 ∧ r = nI (pu_ck T G w n h y)) := by
  refine rl_begin (own := RX12) (lv := [(0, .ref (m)), (1, .int (nI (w))), (2, .long (n)), (4, .int (x)), (5, .long (y))]) (by decide +kernel) rfl (Nat.le_of_ble_eq_true rfl) rfl fun p e s m0 args below meth c ls H locs hC hr hlk hnm hW hl hx hb => ?_
  have hcase : w = 0 ∨ w = 1 ∨ w = 2 ∨ w = 3 ∨ w = 4 := by omega
  rcases hcase with hh | hh | hh | hh | hh
  · subst hh
    refine lv_iload_n hx hb dX12_checked_0 rfl (lv_at hl 1 rfl) ?_
    refine lv_if_ne (tgt := 17) hx hb dX12_checked_1 (by decide) (fun c_1 => ?_) (fun c_1 => ?_)
    · first | exact absurd c_1 (by decide) | exact absurd (by decide) c_1
    · refine lv_lload_n hx hb dX12_checked_4 rfl (lv_at hl 2 rfl) ?_
      refine lv_lload hx hb dX12_checked_5 (lv_at hl 4 rfl) ?_
      refine W.lcmp hx hb dX12_checked_7 ?_
      refine lv_if_gt (tgt := 15) hx hb dX12_checked_8 (by decide) (fun cq => ?_) (fun cq => ?_)
      · refine lv_iconst (v := (nI (2))) hx hb dX12_checked_15 (by decide) ?_
        exact rl_iret hC hW hr hlk (Nat.le_refl _) (Nat.le_refl _) ⟨_, rfl, rfl, rfl, rfl, by rw [ck_0, if_neg (Int64.not_le.mpr ((lg_cmp_gt _ _).mp cq))]⟩ dX12_checked_16
      · refine lv_iconst (v := (nI (0))) hx hb dX12_checked_11 (by decide) ?_
        refine lv_goto (tgt := 16) hx hb dX12_checked_12 (by decide) ?_
        exact rl_iret hC hW hr hlk (Nat.le_refl _) (Nat.le_refl _) ⟨_, rfl, rfl, rfl, rfl, by rw [ck_0, if_pos (Int64.not_lt.mp (fun q => cq ((lg_cmp_gt _ _).mpr q)))]⟩ dX12_checked_16
  · subst hh
    refine lv_iload_n hx hb dX12_checked_0 rfl (lv_at hl 1 rfl) ?_
    refine lv_if_ne (tgt := 17) hx hb dX12_checked_1 (by decide) (fun c_2 => ?_) (fun c_2 => ?_)
    · refine lv_iload_n hx hb dX12_checked_17 rfl (lv_at hl 1 rfl) ?_
      refine lv_iconst (v := (nI (1))) hx hb dX12_checked_18 (by decide) ?_
      refine lv_icmp_ne (tgt := 48) hx hb dX12_checked_19 (by decide) (fun c_3 => ?_) (fun c_3 => ?_)
      · first | exact absurd c_3 (by decide) | exact absurd (by decide) c_3
      · refine lv_lload_n hx hb dX12_checked_22 rfl (lv_at hl 2 rfl) ?_
        refine lv_lconst (v := 0) hx hb dX12_checked_23 (by decide) ?_
        refine W.lcmp hx hb dX12_checked_24 ?_
        refine lv_if_ne (tgt := 32) hx hb dX12_checked_25 (by decide) (fun cq => ?_) (fun cq => ?_)
        · have hnz : ¬ n = 0 := fun q => cq ((lg_cmp_eq _ _).mpr q)
          refine lv_ldc2 (v := 100) hx hb hC.2.2.2.1 (hC.2.2.2.2.1 _ (List.mem_cons_of_mem _ mw_886)) dX12_checked_32 ?_
          refine lv_lload_n hx hb dX12_checked_35 rfl (lv_at hl 2 rfl) ?_
          refine lv_lrem hx hb dX12_checked_36 hnz ?_
          refine lv_lconst (v := 0) hx hb dX12_checked_37 (by decide) ?_
          refine W.lcmp hx hb dX12_checked_38 ?_
          refine lv_if_ne (tgt := 46) hx hb dX12_checked_39 (by decide) (fun cr => ?_) (fun cr => ?_)
          · refine lv_iconst (v := (nI (2))) hx hb dX12_checked_46 (by decide) ?_
            exact rl_iret hC hW hr hlk (Nat.le_refl _) (Nat.le_refl _) ⟨_, rfl, rfl, rfl, rfl, by rw [ck_1, if_neg hnz, if_neg (fun q => cr ((lg_cmp_eq _ _).mpr q))]⟩ dX12_checked_47
          · refine lv_iconst (v := (nI (0))) hx hb dX12_checked_42 (by decide) ?_
            refine lv_goto (tgt := 47) hx hb dX12_checked_43 (by decide) ?_
            exact rl_iret hC hW hr hlk (Nat.le_refl _) (Nat.le_refl _) ⟨_, rfl, rfl, rfl, rfl, by rw [ck_1, if_neg hnz, if_pos ((lg_cmp_eq _ _).mp cr)]⟩ dX12_checked_47
        · refine lv_iconst (v := (nI (5))) hx hb dX12_checked_28 (by decide) ?_
          refine lv_goto (tgt := 47) hx hb dX12_checked_29 (by decide) ?_
          exact rl_iret hC hW hr hlk (Nat.le_refl _) (Nat.le_refl _) ⟨_, rfl, rfl, rfl, rfl, by rw [ck_1, if_pos ((lg_cmp_eq _ _).mp cq)]⟩ dX12_checked_47
    · first | exact absurd c_2 (by decide) | exact absurd (by decide) c_2
  · subst hh
    obtain ⟨hV, hS⟩ := hV (by decide)
    rcases h with _ | n0 | n0 | n0
    · obtain rfl : x = -1 := hx0
      refine lv_iload_n hx hb dX12_checked_0 rfl (lv_at hl 1 rfl) ?_
      refine lv_if_ne (tgt := 17) hx hb dX12_checked_1 (by decide) (fun c_4 => ?_) (fun c_4 => ?_)
      · refine lv_iload_n hx hb dX12_checked_17 rfl (lv_at hl 1 rfl) ?_
        refine lv_iconst (v := (nI (1))) hx hb dX12_checked_18 (by decide) ?_
        refine lv_icmp_ne (tgt := 48) hx hb dX12_checked_19 (by decide) (fun c_5 => ?_) (fun c_5 => ?_)
        · refine lv_iload hx hb dX12_checked_48 (lv_at hl 3 rfl) ?_
          refine lv_iconst (v := (-1)) hx hb dX12_checked_50 (by decide) ?_
          refine lv_icmp_ne (tgt := 56) hx hb dX12_checked_51 (by decide) (fun c_6 => ?_) (fun c_6 => ?_)
          · first | exact absurd c_6 (by decide) | exact absurd (by decide) c_6
          · refine lv_iconst (v := (nI (3))) hx hb dX12_checked_54 (by decide) ?_
            exact rl_iret hC hW hr hlk (Nat.le_refl _) (Nat.le_refl _) ⟨_, rfl, rfl, rfl, rfl, by rw [ck_n (by decide)]⟩ dX12_checked_55
        · first | exact absurd c_5 (by decide) | exact absurd (by decide) c_5
      · first | exact absurd c_4 (by decide) | exact absurd (by decide) c_4
    · exact absurd (show rt_srt 2 = 2 from hS) (by decide)
    · obtain rfl : x = nI (100 + n0) := hx0
      have hn0 : n0 < ρ := hV
      have hs0 := hGr.1 n0 hn0
      have hc0 := hGW.1 n0 hn0
      refine lv_iload_n hx hb dX12_checked_0 rfl (lv_at hl 1 rfl) ?_
      refine lv_if_ne (tgt := 17) hx hb dX12_checked_1 (by decide) (fun c_7 => ?_) (fun c_7 => ?_)
      · refine lv_iload_n hx hb dX12_checked_17 rfl (lv_at hl 1 rfl) ?_
        refine lv_iconst (v := (nI (1))) hx hb dX12_checked_18 (by decide) ?_
        refine lv_icmp_ne (tgt := 48) hx hb dX12_checked_19 (by decide) (fun c_8 => ?_) (fun c_8 => ?_)
        · refine lv_iload hx hb dX12_checked_48 (lv_at hl 3 rfl) ?_
          refine lv_iconst (v := (-1)) hx hb dX12_checked_50 (by decide) ?_
          refine lv_icmp_ne (tgt := 56) hx hb dX12_checked_51 (by decide) (fun c_9 => ?_) (fun c_9 => ?_)
          · refine lv_iload_n hx hb dX12_checked_56 rfl (lv_at hl 1 rfl) ?_
            refine lv_iconst (v := (nI (2))) hx hb dX12_checked_57 (by decide) ?_
            refine lv_icmp_ne (tgt := 114) hx hb dX12_checked_58 (by decide) (fun c_10 => ?_) (fun c_10 => ?_)
            · first | exact absurd c_10 (by decide) | exact absurd (by decide) c_10
            · refine lv_iload hx hb dX12_checked_61 (lv_at hl 3 rfl) ?_
              refine lv_bipush (v := (nI (100))) hx hb dX12_checked_63 (by decide) ?_
              refine lv_isub hx hb dX12_checked_65 ?_
              refine rl_topn (rg_sub (c := n0) (by omega)) ?_
              refine lv_istore (lv' := [(7, .int (nI (n0))), (0, .ref (m)), (1, .int (nI (2))), (2, .long (n)), (4, .int (nI (100 + n0))), (5, .long (y))]) hx hb dX12_checked_66 hl (by decide) rfl (fun ls hl => ?_)
              refine lv_lload hx hb dX12_checked_68 (lv_at hl 5 rfl) ?_
              refine lv_lconst (v := 0) hx hb dX12_checked_70 (by decide) ?_
              refine lv_aload_n hx hb dX12_checked_71 rfl (lv_at hl 1 rfl) ?_
              refine rl_get (v := .ref (m + 12)) hC hW fl_X12_45 hR.1 rfl dX12_checked_72 ?_
              refine lv_iload hx hb dX12_checked_75 (lv_at hl 0 rfl) ?_
              refine rl_iald_n (g := I 12) hC hW hR.a12 (by omega) (by decide) dX12_checked_77 ?_
              refine rl_topn (hs0) ?_
              refine lv_iconst (v := (nI (1))) hx hb dX12_checked_78 (by decide) ?_
              refine lv_isub hx hb dX12_checked_79 ?_
              refine lv_i2l hx hb dX12_checked_80 rfl ?_
              refine rl_calliQ (rl_runS (As := [.long (y), .long (0), .long (((nI (G.1 0 n0)) - (nI (1))).toInt64)]) (rest := []) hC hW (cR_in l D t A _ z _ _ _) cs_X12_117 sm_X12_in ⟨(Nat.le_of_ble_eq_true rfl), (Nat.le_of_ble_eq_true rfl)⟩ rfl hl.1 rfl (Nat.le_of_ble_eq_true rfl) dX12_checked_81 ⟨(Nat.le_of_ble_eq_true rfl), (Nat.le_of_ble_eq_true rfl)⟩) hW (fun r f1 H locs hp hW => ?_)
              obtain ⟨rfl, hp⟩ := hp
              rw [rg_lix (by decide) (by omega)] at hp
              rcases hp with ⟨rfl, hp⟩ | ⟨rfl, hp⟩
              · obtain ⟨i0, hi0, rfl⟩ := hp
                refine lv_if_ne (tgt := 91) hx hb dX12_checked_84 (by decide) (fun c_11 => ?_) (fun c_11 => ?_)
                · refine lv_aload_n hx hb dX12_checked_91 rfl (lv_at hl 1 rfl) ?_
                  refine rl_get (v := .ref (m + 13)) hC hW fl_X12_49 hR.1 rfl dX12_checked_92 ?_
                  refine lv_bipush (v := (nI (8))) hx hb dX12_checked_95 (by decide) ?_
                  refine lv_iload hx hb dX12_checked_97 (lv_at hl 0 rfl) ?_
                  refine lv_imul hx hb dX12_checked_99 ?_
                  refine rl_topn (pk_mul _ _) ?_
                  refine lv_lload hx hb dX12_checked_100 (lv_at hl 5 rfl) ?_
                  refine lv_l2i hx hb dX12_checked_102 rfl ?_
                  refine rl_topn (lN_i i0) ?_
                  refine lv_iadd hx hb dX12_checked_103 ?_
                  refine rl_topn (nI_add _ _) ?_
                  refine rl_iald_n (g := I 13) hC hW hR.a13 (by omega) (by decide) dX12_checked_104 ?_
                  refine rl_topn (hGr.2 _ (by omega)) ?_
                  refine lv_if_le (tgt := 112) hx hb dX12_checked_105 (by decide) (fun cq => ?_) (fun cq => ?_)
                  · refine lv_iconst (v := (nI (2))) hx hb dX12_checked_112 (by decide) ?_
                    exact rl_iret hC hW hr hlk (Nat.le_refl _) (Nat.le_refl _) ⟨_, rfl, rfl, rfl, rfl, by rw [ck_ri (by decide) hi0 hc0, if_neg (Int32.not_lt.mpr cq)]⟩ dX12_checked_113
                  · refine lv_iconst (v := (nI (0))) hx hb dX12_checked_108 (by decide) ?_
                    refine lv_goto (tgt := 113) hx hb dX12_checked_109 (by decide) ?_
                    exact rl_iret hC hW hr hlk (Nat.le_refl _) (Nat.le_refl _) ⟨_, rfl, rfl, rfl, rfl, by rw [ck_ri (by decide) hi0 hc0, if_pos (Int32.not_le.mp cq)]⟩ dX12_checked_113
                · first | exact absurd c_11 (by decide) | exact absurd (by decide) c_11
              · refine lv_if_ne (tgt := 91) hx hb dX12_checked_84 (by decide) (fun c_12 => ?_) (fun c_12 => ?_)
                · first | exact absurd c_12 (by decide) | exact absurd (by decide) c_12
                · refine lv_iconst (v := (nI (4))) hx hb dX12_checked_87 (by decide) ?_
                  refine lv_goto (tgt := 113) hx hb dX12_checked_88 (by decide) ?_
                  exact rl_iret hC hW hr hlk (Nat.le_refl _) (Nat.le_refl _) ⟨_, rfl, rfl, rfl, rfl, by rw [ck_r4 (by decide) hp hc0]⟩ dX12_checked_113
          · exact absurd c_9 (rg_mn (by omega) (by decide))
        · first | exact absurd c_8 (by decide) | exact absurd (by decide) c_8
      · first | exact absurd c_7 (by decide) | exact absurd (by decide) c_7
    · exact absurd (show rt_srt 2 = 3 from hS) (by decide)
  · subst hh
    obtain ⟨hV, hS⟩ := hV (by decide)
    rcases h with _ | n0 | n0 | n0
    · obtain rfl : x = -1 := hx0
      refine lv_iload_n hx hb dX12_checked_0 rfl (lv_at hl 1 rfl) ?_
      refine lv_if_ne (tgt := 17) hx hb dX12_checked_1 (by decide) (fun c_13 => ?_) (fun c_13 => ?_)
      · refine lv_iload_n hx hb dX12_checked_17 rfl (lv_at hl 1 rfl) ?_
        refine lv_iconst (v := (nI (1))) hx hb dX12_checked_18 (by decide) ?_
        refine lv_icmp_ne (tgt := 48) hx hb dX12_checked_19 (by decide) (fun c_14 => ?_) (fun c_14 => ?_)
        · refine lv_iload hx hb dX12_checked_48 (lv_at hl 3 rfl) ?_
          refine lv_iconst (v := (-1)) hx hb dX12_checked_50 (by decide) ?_
          refine lv_icmp_ne (tgt := 56) hx hb dX12_checked_51 (by decide) (fun c_15 => ?_) (fun c_15 => ?_)
          · first | exact absurd c_15 (by decide) | exact absurd (by decide) c_15
          · refine lv_iconst (v := (nI (3))) hx hb dX12_checked_54 (by decide) ?_
            exact rl_iret hC hW hr hlk (Nat.le_refl _) (Nat.le_refl _) ⟨_, rfl, rfl, rfl, rfl, by rw [ck_n (by decide)]⟩ dX12_checked_55
        · first | exact absurd c_14 (by decide) | exact absurd (by decide) c_14
      · first | exact absurd c_13 (by decide) | exact absurd (by decide) c_13
    · exact absurd (show rt_srt 3 = 2 from hS) (by decide)
    · exact absurd (show rt_srt 3 = 4 from hS) (by decide)
    · obtain rfl : x = nI (1000000 + n0) := hx0
      have hn0 : n0 < κ := hV
      obtain ⟨h15, h16, h17⟩ := hGd n0 hn0
      obtain ⟨hsh, hpn, -⟩ := hGW.2.1 n0 hn0
      have h5 := (hTp.1 _ hsh).2
      refine lv_iload_n hx hb dX12_checked_0 rfl (lv_at hl 1 rfl) ?_
      refine lv_if_ne (tgt := 17) hx hb dX12_checked_1 (by decide) (fun c_16 => ?_) (fun c_16 => ?_)
      · refine lv_iload_n hx hb dX12_checked_17 rfl (lv_at hl 1 rfl) ?_
        refine lv_iconst (v := (nI (1))) hx hb dX12_checked_18 (by decide) ?_
        refine lv_icmp_ne (tgt := 48) hx hb dX12_checked_19 (by decide) (fun c_17 => ?_) (fun c_17 => ?_)
        · refine lv_iload hx hb dX12_checked_48 (lv_at hl 3 rfl) ?_
          refine lv_iconst (v := (-1)) hx hb dX12_checked_50 (by decide) ?_
          refine lv_icmp_ne (tgt := 56) hx hb dX12_checked_51 (by decide) (fun c_18 => ?_) (fun c_18 => ?_)
          · refine lv_iload_n hx hb dX12_checked_56 rfl (lv_at hl 1 rfl) ?_
            refine lv_iconst (v := (nI (2))) hx hb dX12_checked_57 (by decide) ?_
            refine lv_icmp_ne (tgt := 114) hx hb dX12_checked_58 (by decide) (fun c_19 => ?_) (fun c_19 => ?_)
            · refine lv_iload_n hx hb dX12_checked_114 rfl (lv_at hl 1 rfl) ?_
              refine lv_iconst (v := (nI (4))) hx hb dX12_checked_115 (by decide) ?_
              refine lv_icmp_ne (tgt := 137) hx hb dX12_checked_116 (by decide) (fun c_20 => ?_) (fun c_20 => ?_)
              · refine lv_iload hx hb dX12_checked_137 (lv_at hl 3 rfl) ?_
                refine lv_ldc (v := nI 1000000) hx hb hC.2.2.2.1 (hC.2.2.2.2.1 _ (List.mem_cons_of_mem _ mw_859)) dX12_checked_139 ?_
                refine lv_isub hx hb dX12_checked_141 ?_
                refine rl_topn (rg_sub (c := n0) (by omega)) ?_
                refine lv_istore (lv' := [(7, .int (nI (n0))), (0, .ref (m)), (1, .int (nI (3))), (2, .long (n)), (4, .int (nI (1000000 + n0))), (5, .long (y))]) hx hb dX12_checked_142 hl (by decide) rfl (fun ls hl => ?_)
                refine lv_aload_n hx hb dX12_checked_144 rfl (lv_at hl 1 rfl) ?_
                refine rl_get (v := .ref (m + 15)) hC hW fl_X12_55 hR.1 rfl dX12_checked_145 ?_
                refine lv_iload hx hb dX12_checked_148 (lv_at hl 0 rfl) ?_
                refine rl_iald_n (g := I 16) hC hW hR.a16 (by omega) (by decide) dX12_checked_150 ?_
                refine rl_topn (h16) ?_
                refine lv_if_ne (tgt := 158) hx hb dX12_checked_151 (by decide) (fun cq => ?_) (fun cq => ?_)
                · have hnz : G.1 2 n0 ≠ 0 := fun q => cq (by rw [q]; rfl)
                  have hs0 := (hTp.2 _ 0 hsh (by omega)).2.2.1
                  rw [Nat.add_zero] at hs0
                  have hs1 := (hTp.2 _ 0 hsh (by omega)).2.2.2.1
                  rw [Nat.add_zero] at hs1
                  refine lv_aload_n hx hb dX12_checked_158 rfl (lv_at hl 1 rfl) ?_
                  refine rl_get (v := .ref (m + 6)) hC hW fl_X12_26 hR.1 rfl dX12_checked_159 ?_
                  refine lv_iconst (v := (nI (5))) hx hb dX12_checked_162 (by decide) ?_
                  refine lv_aload_n hx hb dX12_checked_163 rfl (lv_at hl 1 rfl) ?_
                  refine rl_get (v := .ref (m + 14)) hC hW fl_X12_52 hR.1 rfl dX12_checked_164 ?_
                  refine lv_iload hx hb dX12_checked_167 (lv_at hl 0 rfl) ?_
                  refine rl_iald_n (g := I 15) hC hW hR.a15 (by omega) (by decide) dX12_checked_169 ?_
                  refine rl_topn (h15) ?_
                  refine lv_imul hx hb dX12_checked_170 ?_
                  refine rl_topn (pk_mul _ _) ?_
                  refine rl_iald_n (g := I 5) hC hW hR.a5 (by omega) (by decide) dX12_checked_171 ?_
                  refine rl_topn (hs0) ?_
                  refine lv_iconst (v := (nI (1))) hx hb dX12_checked_172 (by decide) ?_
                  refine lv_icmp_le (tgt := 180) hx hb dX12_checked_173 (by decide) (fun cr => ?_) (fun cr => ?_)
                  · have hle : ¬ 2 ≤ T 4 (5 * G.1 1 n0) := by have := rg_le cr (by omega) (by decide); omega
                    have h170 := (h17 0 (by omega)).1
                    rw [Nat.add_zero] at h170
                    refine lv_aload_n hx hb dX12_checked_180 rfl (lv_at hl 1 rfl) ?_
                    refine rl_get (v := .ref (m + 16)) hC hW fl_X12_59 hR.1 rfl dX12_checked_181 ?_
                    refine lv_iconst (v := (nI (5))) hx hb dX12_checked_184 (by decide) ?_
                    refine lv_iload hx hb dX12_checked_185 (lv_at hl 0 rfl) ?_
                    refine lv_imul hx hb dX12_checked_187 ?_
                    refine rl_topn (pk_mul _ _) ?_
                    refine rl_lald_n (g := L 17) hC hW hR.a17 (by omega) (by decide) dX12_checked_188 ?_
                    refine lv_lload hx hb dX12_checked_189 (lv_at hl 5 rfl) ?_
                    refine W.lcmp hx hb dX12_checked_191 ?_
                    refine lv_if_ne (tgt := 199) hx hb dX12_checked_192 (by decide) (fun cs => ?_) (fun cs => ?_)
                    · refine lv_iconst (v := (nI (2))) hx hb dX12_checked_199 (by decide) ?_
                      exact rl_iret hC hW hr hlk (Nat.le_refl _) (Nat.le_refl _) ⟨_, rfl, rfl, rfl, rfl, by rw [ck_d (by decide), if_neg hnz, if_neg hle, if_neg (fun q => cs ((lg_cmp_eq _ _).mpr (h170.trans q)))]⟩ dX12_checked_200
                    · refine lv_iconst (v := (nI (0))) hx hb dX12_checked_195 (by decide) ?_
                      refine lv_goto (tgt := 200) hx hb dX12_checked_196 (by decide) ?_
                      exact rl_iret hC hW hr hlk (Nat.le_refl _) (Nat.le_refl _) ⟨_, rfl, rfl, rfl, rfl, by rw [ck_d (by decide), if_neg hnz, if_neg hle, if_pos (h170.symm.trans ((lg_cmp_eq _ _).mp cs))]⟩ dX12_checked_200
                  · refine lv_iconst (v := (nI (1))) hx hb dX12_checked_176 (by decide) ?_
                    refine lv_goto (tgt := 200) hx hb dX12_checked_177 (by decide) ?_
                    exact rl_iret hC hW hr hlk (Nat.le_refl _) (Nat.le_refl _) ⟨_, rfl, rfl, rfl, rfl, by rw [ck_d (by decide), if_neg hnz, if_pos (by have := rg_lt cr (by omega) (by decide); omega)]⟩ dX12_checked_200
                · refine lv_iconst (v := (nI (4))) hx hb dX12_checked_154 (by decide) ?_
                  refine lv_goto (tgt := 200) hx hb dX12_checked_155 (by decide) ?_
                  exact rl_iret hC hW hr hlk (Nat.le_refl _) (Nat.le_refl _) ⟨_, rfl, rfl, rfl, rfl, by rw [ck_d (by decide), if_pos ((nI_eq (by omega) (by decide)).mp cq)]⟩ dX12_checked_200
              · first | exact absurd c_20 (by decide) | exact absurd (by decide) c_20
            · first | exact absurd c_19 (by decide) | exact absurd (by decide) c_19
          · exact absurd c_18 (rg_mn (by omega) (by decide))
        · first | exact absurd c_17 (by decide) | exact absurd (by decide) c_17
      · first | exact absurd c_16 (by decide) | exact absurd (by decide) c_16
  · subst hh
    obtain ⟨hV, hS⟩ := hV (by decide)
    rcases h with _ | n0 | n0 | n0
    · obtain rfl : x = -1 := hx0
      refine lv_iload_n hx hb dX12_checked_0 rfl (lv_at hl 1 rfl) ?_
      refine lv_if_ne (tgt := 17) hx hb dX12_checked_1 (by decide) (fun c_21 => ?_) (fun c_21 => ?_)
      · refine lv_iload_n hx hb dX12_checked_17 rfl (lv_at hl 1 rfl) ?_
        refine lv_iconst (v := (nI (1))) hx hb dX12_checked_18 (by decide) ?_
        refine lv_icmp_ne (tgt := 48) hx hb dX12_checked_19 (by decide) (fun c_22 => ?_) (fun c_22 => ?_)
        · refine lv_iload hx hb dX12_checked_48 (lv_at hl 3 rfl) ?_
          refine lv_iconst (v := (-1)) hx hb dX12_checked_50 (by decide) ?_
          refine lv_icmp_ne (tgt := 56) hx hb dX12_checked_51 (by decide) (fun c_23 => ?_) (fun c_23 => ?_)
          · first | exact absurd c_23 (by decide) | exact absurd (by decide) c_23
          · refine lv_iconst (v := (nI (3))) hx hb dX12_checked_54 (by decide) ?_
            exact rl_iret hC hW hr hlk (Nat.le_refl _) (Nat.le_refl _) ⟨_, rfl, rfl, rfl, rfl, by rw [ck_n (by decide)]⟩ dX12_checked_55
        · first | exact absurd c_22 (by decide) | exact absurd (by decide) c_22
      · first | exact absurd c_21 (by decide) | exact absurd (by decide) c_21
    · obtain rfl : x = nI (n0) := hx0
      have hn0 : n0 < 60 := hV
      refine lv_iload_n hx hb dX12_checked_0 rfl (lv_at hl 1 rfl) ?_
      refine lv_if_ne (tgt := 17) hx hb dX12_checked_1 (by decide) (fun c_24 => ?_) (fun c_24 => ?_)
      · refine lv_iload_n hx hb dX12_checked_17 rfl (lv_at hl 1 rfl) ?_
        refine lv_iconst (v := (nI (1))) hx hb dX12_checked_18 (by decide) ?_
        refine lv_icmp_ne (tgt := 48) hx hb dX12_checked_19 (by decide) (fun c_25 => ?_) (fun c_25 => ?_)
        · refine lv_iload hx hb dX12_checked_48 (lv_at hl 3 rfl) ?_
          refine lv_iconst (v := (-1)) hx hb dX12_checked_50 (by decide) ?_
          refine lv_icmp_ne (tgt := 56) hx hb dX12_checked_51 (by decide) (fun c_26 => ?_) (fun c_26 => ?_)
          · refine lv_iload_n hx hb dX12_checked_56 rfl (lv_at hl 1 rfl) ?_
            refine lv_iconst (v := (nI (2))) hx hb dX12_checked_57 (by decide) ?_
            refine lv_icmp_ne (tgt := 114) hx hb dX12_checked_58 (by decide) (fun c_27 => ?_) (fun c_27 => ?_)
            · refine lv_iload_n hx hb dX12_checked_114 rfl (lv_at hl 1 rfl) ?_
              refine lv_iconst (v := (nI (4))) hx hb dX12_checked_115 (by decide) ?_
              refine lv_icmp_ne (tgt := 137) hx hb dX12_checked_116 (by decide) (fun c_28 => ?_) (fun c_28 => ?_)
              · first | exact absurd c_28 (by decide) | exact absurd (by decide) c_28
              · refine lv_iload hx hb dX12_checked_119 (lv_at hl 3 rfl) ?_
                refine lv_bipush (v := (nI (10))) hx hb dX12_checked_121 (by decide) ?_
                refine lv_irem hx hb dX12_checked_123 (by decide) ?_
                refine rl_topn (pk_rem (by omega) (by decide) (by decide)) ?_
                refine lv_i2l hx hb dX12_checked_124 rfl ?_
                refine lv_lload hx hb dX12_checked_125 (lv_at hl 4 rfl) ?_
                refine W.lcmp hx hb dX12_checked_127 ?_
                refine lv_if_ge (tgt := 135) hx hb dX12_checked_128 (by decide) (fun cq => ?_) (fun cq => ?_)
                · refine lv_iconst (v := (nI (2))) hx hb dX12_checked_135 (by decide) ?_
                  exact rl_iret hC hW hr hlk (Nat.le_refl _) (Nat.le_refl _) ⟨_, rfl, rfl, rfl, rfl, by rw [ck_c (by decide), if_neg (Int64.not_lt.mpr ((lg_cmp_ge _ _).mp cq))]⟩ dX12_checked_136
                · refine lv_iconst (v := (nI (0))) hx hb dX12_checked_131 (by decide) ?_
                  refine lv_goto (tgt := 136) hx hb dX12_checked_132 (by decide) ?_
                  exact rl_iret hC hW hr hlk (Nat.le_refl _) (Nat.le_refl _) ⟨_, rfl, rfl, rfl, rfl, by rw [ck_c (by decide), if_pos (Int64.not_le.mp (fun q => cq ((lg_cmp_ge _ _).mpr q)))]⟩ dX12_checked_136
            · first | exact absurd c_27 (by decide) | exact absurd (by decide) c_27
          · exact absurd c_26 (rg_mn (by omega) (by decide))
        · first | exact absurd c_25 (by decide) | exact absurd (by decide) c_25
      · first | exact absurd c_24 (by decide) | exact absurd (by decide) c_24
    · exact absurd (show rt_srt 4 = 4 from hS) (by decide)
    · exact absurd (show rt_srt 4 = 3 from hS) (by decide)
