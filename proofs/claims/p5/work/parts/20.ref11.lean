
def rf_sp (ρ κ n : Nat) (a34 a35 a36 : Nat → Int32) : Prop := ∀ i, i < n → RVt ρ κ (a34 i) ∧ RVt ρ κ (a35 i) ∧ ∃ w : Nat, w ≤ 6 ∧ i ≤ 5 * w ∧ a36 i = nI w
def rf_mu (a36 : Nat → Int32) : Nat → Nat
  | 0 => 0
  | n + 1 => rf_mu a36 n + 6 ^ (7 - (a36 n).toNatClampNeg)
theorem rf_mu_eq {a b : Nat → Int32} : ∀ {n : Nat}, (∀ i, i < n → a i = b i) → rf_mu a n = rf_mu b n
  | 0, _ => rfl
  | n + 1, h => by
    show rf_mu a n + _ = rf_mu b n + _
    rw [rf_mu_eq (fun i hi => h i (by omega)), h n (by omega)]
theorem rf_sp.push {ρ κ n w : Nat} {a34 a35 a36 : Nat → Int32} {x y : Int32} (h : rf_sp ρ κ n a34 a35 a36) (hx : RVt ρ κ x) (hy : RVt ρ κ y) (hw : w ≤ 6) (hn : n ≤ 5 * w) : rf_sp ρ κ (n + 1) (upd a34 n x) (upd a35 n y) (upd a36 n (nI w)) := by
  intro i hi
  by_cases he : i = n
  · subst he
    rw [rg_ups, rg_ups, rg_ups]
    exact ⟨hx, hy, w, hw, hn, rfl⟩
  · rw [rg_upl he, rg_upl he, rg_upl he]
    exact h i (by omega)
theorem rf_mu.push {n w : Nat} {a36 : Nat → Int32} (hw : w ≤ 6) : rf_mu (upd a36 n (nI w)) (n + 1) = rf_mu a36 n + 6 ^ (7 - w) := by
  show rf_mu _ n + _ = _
  rw [rf_mu_eq (b := a36) (fun i hi => rg_upl (by omega)), rg_ups, nI_clamp (by omega)]
/-- only the pairs' arrays and their number may differ -/
def rf_s36 (I I' : Nat → Nat → Int32) (F F' : Nat → Int32) : Prop := (∀ j, j < 34 ∨ 36 < j → I' j = I j) ∧ ∀ j, j ≠ 33 → F' j = F j

set_option maxHeartbeats 4000000 in
set_option maxRecDepth 100000 in
theorem cR_pair (l : Launch) (D : va_G) (t : Nat → ClassId) (A : Nat → Prop) (f : rl_M) (z : Nat) (m : Nat) (I : Nat → Nat → Int32) (L : Nat → Nat → Int64) (F : Nat → Int32) (hR : RM t f m I L F) (n0 : Nat) (hn0 : n0 < 40) (hF33 : F 33 = nI n0) (x y : Int32) (w0 : Nat) : rl_Met l yX12_pair (.code yX12_pair cX12_pair 4 none) (rl_rm 0 0 0) D t A f z [.ref (m), .int (x), .int (y), .int (nI (w0))] (rl_qv z fun f1 => RM t f1 m (va_up (va_up (va_up I 34 (upd (I 34) n0 x)) 35 (upd (I 35) n0 y)) 36 (upd (I 36) n0 (nI w0))) L (upd F 33 (nI (n0 + 1)))) := by
  refine rl_begin (own := RX12) (lv := [(0, .ref (m)), (1, .int (x)), (2, .int (y)), (3, .int (nI (w0)))]) (by decide +kernel) rfl (Nat.le_of_ble_eq_true rfl) rfl fun p e s m0 args below meth c ls H locs hC hr hlk hnm hW hl hx hb => ?_
  refine lv_aload_n hx hb dX12_pair_0 rfl (lv_at hl 0 rfl) ?_
  refine rl_get (v := .ref (m + 24)) hC hW fl_X12_88 hR.1 rfl dX12_pair_1 ?_
  refine lv_aload_n hx hb dX12_pair_4 rfl (lv_at hl 0 rfl) ?_
  refine rl_get (v := .int (F 33)) hC hW fl_X12_206 hR.1 rfl dX12_pair_5 ?_
  refine rl_topn (hF33) ?_
  refine lv_iload_n hx hb dX12_pair_8 rfl (lv_at hl 1 rfl) ?_
  refine rl_iast_n (g := I 34) hC hW hR.a34 (by omega) (by decide) dX12_pair_9 (fun H locs hW => ?_)
  have hR := hR.s34 (upd (I 34) (n0) ((x)))
  refine lv_aload_n hx hb dX12_pair_10 rfl (lv_at hl 0 rfl) ?_
  refine rl_get (v := .ref (m + 25)) hC hW fl_X12_91 hR.1 rfl dX12_pair_11 ?_
  refine lv_aload_n hx hb dX12_pair_14 rfl (lv_at hl 0 rfl) ?_
  refine rl_get (v := .int (F 33)) hC hW fl_X12_206 hR.1 rfl dX12_pair_15 ?_
  refine rl_topn (hF33) ?_
  refine lv_iload_n hx hb dX12_pair_18 rfl (lv_at hl 2 rfl) ?_
  refine rl_iast_n (g := I 35) hC hW hR.a35 (by omega) (by decide) dX12_pair_19 (fun H locs hW => ?_)
  have hR := hR.s35 (upd (I 35) (n0) ((y)))
  refine lv_aload_n hx hb dX12_pair_20 rfl (lv_at hl 0 rfl) ?_
  refine rl_get (v := .ref (m + 26)) hC hW fl_X12_94 hR.1 rfl dX12_pair_21 ?_
  refine lv_aload_n hx hb dX12_pair_24 rfl (lv_at hl 0 rfl) ?_
  refine rl_get (v := .int (F 33)) hC hW fl_X12_206 hR.1 rfl dX12_pair_25 ?_
  refine rl_topn (hF33) ?_
  refine lv_iload_n hx hb dX12_pair_28 rfl (lv_at hl 3 rfl) ?_
  refine rl_iast_n (g := I 36) hC hW hR.a36 (by omega) (by decide) dX12_pair_29 (fun H locs hW => ?_)
  have hR := hR.s36 (upd (I 36) (n0) ((nI (w0))))
  refine lv_aload_n hx hb dX12_pair_30 rfl (lv_at hl 0 rfl) ?_
  refine lv_dup hx hb dX12_pair_31 rfl ?_
  refine rl_get (v := .int (F 33)) hC hW fl_X12_206 hR.1 rfl dX12_pair_32 ?_
  refine rl_topn (hF33) ?_
  refine lv_iconst (v := (nI (1))) hx hb dX12_pair_35 (by decide) ?_
  refine lv_iadd hx hb dX12_pair_36 ?_
  refine rl_topn (nI_add _ _) ?_
  refine rl_put (v := .int (nI ((n0) + (1)))) hC hW fp_X12_206 hR.1 (Nat.le_of_ble_eq_true rfl) rfl rfl dX12_pair_37 (fun H locs hW => ?_)
  have hR := hR.f33 (nI ((n0) + (1)))
  exact rl_vret hC hW hr hlk (Nat.le_refl _) (Nat.le_refl _) ⟨rfl, rfl, rfl, hR⟩ dX12_pair_40

set_option maxHeartbeats 4000000 in
set_option maxRecDepth 100000 in
theorem cR_rowsLike (l : Launch) (D : va_G) (t : Nat → ClassId) (A : Nat → Prop) (f : rl_M) (z : Nat) (m : Nat) (I : Nat → Nat → Int32) (L : Nat → Nat → Int64) (F : Nat → Int32) (hR : RM t f m I L F) (ρ : Nat) (hρ : ρ ≤ 43100) (hVw : RVw ρ (I 12)) (a bb : Nat) (ha : a < ρ) (hbb : bb < ρ) : rl_Met l yX12_rowsLike (.code yX12_rowsLike cX12_rowsLike 5 (some FieldType.boolean)) (rl_rm 0 0 0) D t A f z [.ref (m), .int (nI (a)), .int (nI (bb))] (rl_qi z fun r f1 => f = f1 ∧ (r = 0 ∨ r = 1)) := by
  refine rl_begin (own := RX12) (lv := [(0, .ref (m)), (1, .int (nI (a))), (2, .int (nI (bb)))]) (by decide +kernel) rfl (Nat.le_of_ble_eq_true rfl) rfl fun p e s m0 args below meth c ls H locs hC hr hlk hnm hW hl hx hb => ?_
  obtain ⟨ca, hca, ea⟩ := hVw a ha
  obtain ⟨cb, hcb, eb⟩ := hVw bb hbb
  refine lv_aload_n hx hb dX12_rowsLike_0 rfl (lv_at hl 0 rfl) ?_
  refine rl_get (v := .ref (m + 12)) hC hW fl_X12_45 hR.1 rfl dX12_rowsLike_1 ?_
  refine lv_iload_n hx hb dX12_rowsLike_4 rfl (lv_at hl 1 rfl) ?_
  refine rl_iald_n (g := I 12) hC hW hR.a12 (by omega) (by decide) dX12_rowsLike_5 ?_
  refine lv_aload_n hx hb dX12_rowsLike_6 rfl (lv_at hl 0 rfl) ?_
  refine rl_get (v := .ref (m + 12)) hC hW fl_X12_45 hR.1 rfl dX12_rowsLike_7 ?_
  refine lv_iload_n hx hb dX12_rowsLike_10 rfl (lv_at hl 2 rfl) ?_
  refine rl_iald_n (g := I 12) hC hW hR.a12 (by omega) (by decide) dX12_rowsLike_11 ?_
  refine lv_icmp_ne (tgt := 19) hx hb dX12_rowsLike_12 (by decide) (fun c0 => ?_) (fun c0 => ?_)
  · refine lv_iconst (v := (nI (0))) hx hb dX12_rowsLike_19 (by decide) ?_
    refine lv_istore_n (lv' := [(3, .int (nI (0))), (0, .ref (m)), (1, .int (nI (a))), (2, .int (nI (bb)))]) hx hb dX12_rowsLike_20 rfl hl (by decide) rfl (fun ls hl => ?_)
    refine lv_iconst (v := (nI (0))) hx hb dX12_rowsLike_21 (by decide) ?_
    refine lv_istore (lv' := [(4, .int (nI (0))), (3, .int (nI (0))), (0, .ref (m)), (1, .int (nI (a))), (2, .int (nI (bb)))]) hx hb dX12_rowsLike_22 hl (by decide) rfl (fun ls hl => ?_)
    replace hl : lv_has ls 5 [(0, .ref (m)), (1, .int (nI (a))), (2, .int (nI (bb))), (3, .int (nI (0))), (4, .int (nI (0)))] := lv_sub hl [2, 3, 4, 1, 0] rfl
    replace hl : ∃ i : Nat, ∃ y : Int32, (i ≤ 8) ∧ (y = 0 ∨ y = 1) ∧ lv_has ls 5 [(0, .ref (m)), (1, .int (nI (a))), (2, .int (nI (bb))), (3, .int (y)), (4, .int (nI (i)))] := ⟨0, _, Nat.zero_le _, by decide, hl⟩
    obtain ⟨i, y, hi, hy, hl⟩ := hl
    obtain ⟨n, hn⟩ : ∃ n, 8 - i < n := ⟨_, Nat.lt_succ_self _⟩
    induction n generalizing i y ls with
    | zero => exact absurd hn (Nat.not_lt_zero _)
    | succ n ih =>
      refine lv_iload hx hb dX12_rowsLike_24 (lv_at hl 4 rfl) ?_
      refine lv_aload_n hx hb dX12_rowsLike_26 rfl (lv_at hl 0 rfl) ?_
      refine rl_get (v := .ref (m + 12)) hC hW fl_X12_45 hR.1 rfl dX12_rowsLike_27 ?_
      refine lv_iload_n hx hb dX12_rowsLike_30 rfl (lv_at hl 1 rfl) ?_
      refine rl_iald_n (g := I 12) hC hW hR.a12 (by omega) (by decide) dX12_rowsLike_31 ?_
      refine rl_topn (ea) ?_
      refine lv_icmp_ge (tgt := 78) hx hb dX12_rowsLike_32 (by decide) (fun c1 => ?_) (fun c1 => ?_)
      · refine lv_iload_n hx hb dX12_rowsLike_78 rfl (lv_at hl 3 rfl) ?_
        exact rl_zret hC hW hr hlk (by rcases hy with rfl | rfl <;> rfl) (Nat.le_refl _) (Nat.le_refl _) ⟨_, rfl, rfl, rfl, rfl, hy⟩ dX12_rowsLike_79
      · have hlt : i < ca := rg_lt c1 (by omega) (by omega)
        refine lv_iload_n hx hb dX12_rowsLike_35 rfl (lv_at hl 3 rfl) ?_
        refine lv_if_eq (tgt := 78) hx hb dX12_rowsLike_36 (by decide) (fun c2 => ?_) (fun c2 => ?_)
        · refine lv_iload_n hx hb dX12_rowsLike_78 rfl (lv_at hl 3 rfl) ?_
          exact rl_zret hC hW hr hlk (by rcases hy with rfl | rfl <;> rfl) (Nat.le_refl _) (Nat.le_refl _) ⟨_, rfl, rfl, rfl, rfl, hy⟩ dX12_rowsLike_79
        · refine lv_aload_n hx hb dX12_rowsLike_39 rfl (lv_at hl 0 rfl) ?_
          refine rl_get (v := .ref (m + 13)) hC hW fl_X12_49 hR.1 rfl dX12_rowsLike_40 ?_
          refine lv_bipush (v := (nI (8))) hx hb dX12_rowsLike_43 (by decide) ?_
          refine lv_iload_n hx hb dX12_rowsLike_45 rfl (lv_at hl 1 rfl) ?_
          refine lv_imul hx hb dX12_rowsLike_46 ?_
          refine rl_topn (pk_mul _ _) ?_
          refine lv_iload hx hb dX12_rowsLike_47 (lv_at hl 4 rfl) ?_
          refine lv_iadd hx hb dX12_rowsLike_49 ?_
          refine rl_topn (nI_add _ _) ?_
          refine rl_iald_n (g := I 13) hC hW hR.a13 (by omega) (by decide) dX12_rowsLike_50 ?_
          refine lv_aload_n hx hb dX12_rowsLike_51 rfl (lv_at hl 0 rfl) ?_
          refine rl_get (v := .ref (m + 13)) hC hW fl_X12_49 hR.1 rfl dX12_rowsLike_52 ?_
          refine lv_bipush (v := (nI (8))) hx hb dX12_rowsLike_55 (by decide) ?_
          refine lv_iload_n hx hb dX12_rowsLike_57 rfl (lv_at hl 2 rfl) ?_
          refine lv_imul hx hb dX12_rowsLike_58 ?_
          refine rl_topn (pk_mul _ _) ?_
          refine lv_iload hx hb dX12_rowsLike_59 (lv_at hl 4 rfl) ?_
          refine lv_iadd hx hb dX12_rowsLike_61 ?_
          refine rl_topn (nI_add _ _) ?_
          refine rl_iald_n (g := I 13) hC hW hR.a13 (by omega) (by decide) dX12_rowsLike_62 ?_
          refine lv_icmp_ne (tgt := 70) hx hb dX12_rowsLike_63 (by decide) (fun c3 => ?_) (fun c3 => ?_)
          · refine lv_iconst (v := (nI (0))) hx hb dX12_rowsLike_70 (by decide) ?_
            refine lv_istore_n (lv' := [(3, .int (nI (0))), (0, .ref (m)), (1, .int (nI (a))), (2, .int (nI (bb))), (4, .int (nI (i)))]) hx hb dX12_rowsLike_71 rfl hl (by decide) rfl (fun ls hl => ?_)
            refine lv_iinc (v := (nI ((i) + 1))) (lv' := [(4, .int (nI ((i) + 1))), (3, .int (nI (0))), (0, .ref (m)), (1, .int (nI (a))), (2, .int (nI (bb)))]) hx hb dX12_rowsLike_72 hl (k := 4) rfl (nI_1 _) (by decide) rfl (fun ls hl => ?_)
            refine lv_goto (tgt := 24) hx hb dX12_rowsLike_75 (by decide) ?_
            replace hl : lv_has ls 5 [(0, .ref (m)), (1, .int (nI (a))), (2, .int (nI (bb))), (3, .int (nI (0))), (4, .int (nI ((i) + 1)))] := lv_sub hl [2, 3, 4, 1, 0] rfl
            exact ih ls (i + 1) _ (by omega) (by decide) hl (by omega)
          · refine lv_iconst (v := (nI (1))) hx hb dX12_rowsLike_66 (by decide) ?_
            refine lv_goto (tgt := 71) hx hb dX12_rowsLike_67 (by decide) ?_
            refine lv_istore_n (lv' := [(3, .int (nI (1))), (0, .ref (m)), (1, .int (nI (a))), (2, .int (nI (bb))), (4, .int (nI (i)))]) hx hb dX12_rowsLike_71 rfl hl (by decide) rfl (fun ls hl => ?_)
            refine lv_iinc (v := (nI ((i) + 1))) (lv' := [(4, .int (nI ((i) + 1))), (3, .int (nI (1))), (0, .ref (m)), (1, .int (nI (a))), (2, .int (nI (bb)))]) hx hb dX12_rowsLike_72 hl (k := 4) rfl (nI_1 _) (by decide) rfl (fun ls hl => ?_)
            refine lv_goto (tgt := 24) hx hb dX12_rowsLike_75 (by decide) ?_
            replace hl : lv_has ls 5 [(0, .ref (m)), (1, .int (nI (a))), (2, .int (nI (bb))), (3, .int (nI (1))), (4, .int (nI ((i) + 1)))] := lv_sub hl [2, 3, 4, 1, 0] rfl
            exact ih ls (i + 1) _ (by omega) (by decide) hl (by omega)
  · refine lv_iconst (v := (nI (1))) hx hb dX12_rowsLike_15 (by decide) ?_
    refine lv_goto (tgt := 20) hx hb dX12_rowsLike_16 (by decide) ?_
    refine lv_istore_n (lv' := [(3, .int (nI (1))), (0, .ref (m)), (1, .int (nI (a))), (2, .int (nI (bb)))]) hx hb dX12_rowsLike_20 rfl hl (by decide) rfl (fun ls hl => ?_)
    refine lv_iconst (v := (nI (0))) hx hb dX12_rowsLike_21 (by decide) ?_
    refine lv_istore (lv' := [(4, .int (nI (0))), (3, .int (nI (1))), (0, .ref (m)), (1, .int (nI (a))), (2, .int (nI (bb)))]) hx hb dX12_rowsLike_22 hl (by decide) rfl (fun ls hl => ?_)
    replace hl : lv_has ls 5 [(0, .ref (m)), (1, .int (nI (a))), (2, .int (nI (bb))), (3, .int (nI (1))), (4, .int (nI (0)))] := lv_sub hl [2, 3, 4, 1, 0] rfl
    replace hl : ∃ i : Nat, ∃ y : Int32, (i ≤ 8) ∧ (y = 0 ∨ y = 1) ∧ lv_has ls 5 [(0, .ref (m)), (1, .int (nI (a))), (2, .int (nI (bb))), (3, .int (y)), (4, .int (nI (i)))] := ⟨0, _, Nat.zero_le _, by decide, hl⟩
    obtain ⟨i, y, hi, hy, hl⟩ := hl
    obtain ⟨n, hn⟩ : ∃ n, 8 - i < n := ⟨_, Nat.lt_succ_self _⟩
    induction n generalizing i y ls with
    | zero => exact absurd hn (Nat.not_lt_zero _)
    | succ n ih =>
      refine lv_iload hx hb dX12_rowsLike_24 (lv_at hl 4 rfl) ?_
      refine lv_aload_n hx hb dX12_rowsLike_26 rfl (lv_at hl 0 rfl) ?_
      refine rl_get (v := .ref (m + 12)) hC hW fl_X12_45 hR.1 rfl dX12_rowsLike_27 ?_
      refine lv_iload_n hx hb dX12_rowsLike_30 rfl (lv_at hl 1 rfl) ?_
      refine rl_iald_n (g := I 12) hC hW hR.a12 (by omega) (by decide) dX12_rowsLike_31 ?_
      refine rl_topn (ea) ?_
      refine lv_icmp_ge (tgt := 78) hx hb dX12_rowsLike_32 (by decide) (fun c1 => ?_) (fun c1 => ?_)
      · refine lv_iload_n hx hb dX12_rowsLike_78 rfl (lv_at hl 3 rfl) ?_
        exact rl_zret hC hW hr hlk (by rcases hy with rfl | rfl <;> rfl) (Nat.le_refl _) (Nat.le_refl _) ⟨_, rfl, rfl, rfl, rfl, hy⟩ dX12_rowsLike_79
      · have hlt : i < ca := rg_lt c1 (by omega) (by omega)
        refine lv_iload_n hx hb dX12_rowsLike_35 rfl (lv_at hl 3 rfl) ?_
        refine lv_if_eq (tgt := 78) hx hb dX12_rowsLike_36 (by decide) (fun c2 => ?_) (fun c2 => ?_)
        · refine lv_iload_n hx hb dX12_rowsLike_78 rfl (lv_at hl 3 rfl) ?_
          exact rl_zret hC hW hr hlk (by rcases hy with rfl | rfl <;> rfl) (Nat.le_refl _) (Nat.le_refl _) ⟨_, rfl, rfl, rfl, rfl, hy⟩ dX12_rowsLike_79
        · refine lv_aload_n hx hb dX12_rowsLike_39 rfl (lv_at hl 0 rfl) ?_
          refine rl_get (v := .ref (m + 13)) hC hW fl_X12_49 hR.1 rfl dX12_rowsLike_40 ?_
          refine lv_bipush (v := (nI (8))) hx hb dX12_rowsLike_43 (by decide) ?_
          refine lv_iload_n hx hb dX12_rowsLike_45 rfl (lv_at hl 1 rfl) ?_
          refine lv_imul hx hb dX12_rowsLike_46 ?_
          refine rl_topn (pk_mul _ _) ?_
          refine lv_iload hx hb dX12_rowsLike_47 (lv_at hl 4 rfl) ?_
          refine lv_iadd hx hb dX12_rowsLike_49 ?_
          refine rl_topn (nI_add _ _) ?_
          refine rl_iald_n (g := I 13) hC hW hR.a13 (by omega) (by decide) dX12_rowsLike_50 ?_
          refine lv_aload_n hx hb dX12_rowsLike_51 rfl (lv_at hl 0 rfl) ?_
          refine rl_get (v := .ref (m + 13)) hC hW fl_X12_49 hR.1 rfl dX12_rowsLike_52 ?_
          refine lv_bipush (v := (nI (8))) hx hb dX12_rowsLike_55 (by decide) ?_
          refine lv_iload_n hx hb dX12_rowsLike_57 rfl (lv_at hl 2 rfl) ?_
          refine lv_imul hx hb dX12_rowsLike_58 ?_
          refine rl_topn (pk_mul _ _) ?_
          refine lv_iload hx hb dX12_rowsLike_59 (lv_at hl 4 rfl) ?_
          refine lv_iadd hx hb dX12_rowsLike_61 ?_
          refine rl_topn (nI_add _ _) ?_
          refine rl_iald_n (g := I 13) hC hW hR.a13 (by omega) (by decide) dX12_rowsLike_62 ?_
          refine lv_icmp_ne (tgt := 70) hx hb dX12_rowsLike_63 (by decide) (fun c3 => ?_) (fun c3 => ?_)
          · refine lv_iconst (v := (nI (0))) hx hb dX12_rowsLike_70 (by decide) ?_
            refine lv_istore_n (lv' := [(3, .int (nI (0))), (0, .ref (m)), (1, .int (nI (a))), (2, .int (nI (bb))), (4, .int (nI (i)))]) hx hb dX12_rowsLike_71 rfl hl (by decide) rfl (fun ls hl => ?_)
            refine lv_iinc (v := (nI ((i) + 1))) (lv' := [(4, .int (nI ((i) + 1))), (3, .int (nI (0))), (0, .ref (m)), (1, .int (nI (a))), (2, .int (nI (bb)))]) hx hb dX12_rowsLike_72 hl (k := 4) rfl (nI_1 _) (by decide) rfl (fun ls hl => ?_)
            refine lv_goto (tgt := 24) hx hb dX12_rowsLike_75 (by decide) ?_
            replace hl : lv_has ls 5 [(0, .ref (m)), (1, .int (nI (a))), (2, .int (nI (bb))), (3, .int (nI (0))), (4, .int (nI ((i) + 1)))] := lv_sub hl [2, 3, 4, 1, 0] rfl
            exact ih ls (i + 1) _ (by omega) (by decide) hl (by omega)
          · refine lv_iconst (v := (nI (1))) hx hb dX12_rowsLike_66 (by decide) ?_
            refine lv_goto (tgt := 71) hx hb dX12_rowsLike_67 (by decide) ?_
            refine lv_istore_n (lv' := [(3, .int (nI (1))), (0, .ref (m)), (1, .int (nI (a))), (2, .int (nI (bb))), (4, .int (nI (i)))]) hx hb dX12_rowsLike_71 rfl hl (by decide) rfl (fun ls hl => ?_)
            refine lv_iinc (v := (nI ((i) + 1))) (lv' := [(4, .int (nI ((i) + 1))), (3, .int (nI (1))), (0, .ref (m)), (1, .int (nI (a))), (2, .int (nI (bb)))]) hx hb dX12_rowsLike_72 hl (k := 4) rfl (nI_1 _) (by decide) rfl (fun ls hl => ?_)
            refine lv_goto (tgt := 24) hx hb dX12_rowsLike_75 (by decide) ?_
            replace hl : lv_has ls 5 [(0, .ref (m)), (1, .int (nI (a))), (2, .int (nI (bb))), (3, .int (nI (1))), (4, .int (nI ((i) + 1)))] := lv_sub hl [2, 3, 4, 1, 0] rfl
            exact ih ls (i + 1) _ (by omega) (by decide) hl (by omega)

set_option maxHeartbeats 4000000 in
set_option maxRecDepth 100000 in
theorem cR_opens (l : Launch) (D : va_G) (t : Nat → ClassId) (A : Nat → Prop) (f : rl_M) (z : Nat) (m : Nat) (I : Nat → Nat → Int32) (L : Nat → Nat → Int64) (F : Nat → Int32) (hR : RM t f m I L F) (T : Nat → Nat → Nat) (ρ κ : Nat) (hρ : ρ ≤ 43100) (hκ : κ ≤ 26200) (hTp : RTp T (I 3) (I 4) (I 5) (I 6)) (hVw : RVw ρ (I 12)) (hVe : RVe T ρ κ (I 15) (I 16) (I 18)) (hVp : RVp ρ κ (I 19) (I 21)) (n0 a bb d : Nat) (ha : a < κ) (hbb : bb < κ) (hd6 : d ≤ 6) (hnd : n0 ≤ 5 * d) (hF33 : F 33 = nI n0) (hsp : rf_sp ρ κ n0 (I 34) (I 35) (I 36)) : rl_Met l yX12_opens (.code yX12_opens cX12_opens 6 (some FieldType.boolean)) (rl_rm 1 0 0) D t A f z [.ref (m), .int (nI (a)), .int (nI (bb)), .int (nI (d))] (rl_qi z fun r f1 => (r = 0 ∨ r = 1) ∧ ∃ (I' : Nat → Nat → Int32) (F' : Nat → Int32) (n1 : Nat), RM t f1 m I' L F' ∧ rf_s36 I I' F F' ∧ F' 33 = nI n1 ∧ n0 ≤ n1 ∧ rf_sp ρ κ n1 (I' 34) (I' 35) (I' 36) ∧ rf_mu (I' 36) n1 ≤ rf_mu (I 36) n0 + 5 * 6 ^ (6 - d)) := by
  refine rl_begin (own := RX12) (lv := [(0, .ref (m)), (1, .int (nI (a))), (2, .int (nI (bb))), (3, .int (nI (d)))]) (by decide +kernel) rfl (Nat.le_of_ble_eq_true rfl) rfl fun p e s m0 args below meth c ls H locs hC hr hlk hnm hW hl hx hb => ?_
  obtain ⟨sa, pa, hsa, a15, a16, hpa, tha⟩ := hVe a ha
  obtain ⟨sb, pb, hsb, b15, b16, hpb, thb⟩ := hVe bb hbb
  have h5a := (hTp.1 sa hsa).2
  have h5b := (hTp.1 sb hsb).2
  refine lv_iload_n hx hb dX12_opens_0 rfl (lv_at hl 3 rfl) ?_
  refine lv_iconst (v := (nI (5))) hx hb dX12_opens_1 (by decide) ?_
  refine lv_icmp_gt (tgt := 35) hx hb dX12_opens_2 (by decide) (fun c1 => ?_) (fun c1 => ?_)
  · refine lv_iconst (v := (nI (0))) hx hb dX12_opens_35 (by decide) ?_
    exact rl_zret hC hW hr hlk rfl (Nat.le_refl _) (Nat.le_refl _) ⟨_, rfl, rfl, rfl, by decide, I, F, n0, hR, ⟨fun _ _ => rfl, fun _ _ => rfl⟩, hF33, Nat.le_refl _, hsp, Nat.le_add_right _ _⟩ dX12_opens_36
  · have hd : d ≤ 5 := Nat.le_of_not_lt (fun q => c1 ((nI_ltI (by decide) (by omega)).mpr q))
    refine lv_aload_n hx hb dX12_opens_5 rfl (lv_at hl 0 rfl) ?_
    refine rl_get (v := .ref (m + 14)) hC hW fl_X12_52 hR.1 rfl dX12_opens_6 ?_
    refine lv_iload_n hx hb dX12_opens_9 rfl (lv_at hl 1 rfl) ?_
    refine rl_iald_n (g := I 15) hC hW hR.a15 (by omega) (by decide) dX12_opens_10 ?_
    refine lv_aload_n hx hb dX12_opens_11 rfl (lv_at hl 0 rfl) ?_
    refine rl_get (v := .ref (m + 14)) hC hW fl_X12_52 hR.1 rfl dX12_opens_12 ?_
    refine lv_iload_n hx hb dX12_opens_15 rfl (lv_at hl 2 rfl) ?_
    refine rl_iald_n (g := I 15) hC hW hR.a15 (by omega) (by decide) dX12_opens_16 ?_
    refine lv_icmp_ne (tgt := 35) hx hb dX12_opens_17 (by decide) (fun c2 => ?_) (fun c2 => ?_)
    · refine lv_iconst (v := (nI (0))) hx hb dX12_opens_35 (by decide) ?_
      exact rl_zret hC hW hr hlk rfl (Nat.le_refl _) (Nat.le_refl _) ⟨_, rfl, rfl, rfl, by decide, I, F, n0, hR, ⟨fun _ _ => rfl, fun _ _ => rfl⟩, hF33, Nat.le_refl _, hsp, Nat.le_add_right _ _⟩ dX12_opens_36
    · refine lv_aload_n hx hb dX12_opens_20 rfl (lv_at hl 0 rfl) ?_
      refine rl_get (v := .ref (m + 15)) hC hW fl_X12_55 hR.1 rfl dX12_opens_21 ?_
      refine lv_iload_n hx hb dX12_opens_24 rfl (lv_at hl 1 rfl) ?_
      refine rl_iald_n (g := I 16) hC hW hR.a16 (by omega) (by decide) dX12_opens_25 ?_
      refine lv_aload_n hx hb dX12_opens_26 rfl (lv_at hl 0 rfl) ?_
      refine rl_get (v := .ref (m + 15)) hC hW fl_X12_55 hR.1 rfl dX12_opens_27 ?_
      refine lv_iload_n hx hb dX12_opens_30 rfl (lv_at hl 2 rfl) ?_
      refine rl_iald_n (g := I 16) hC hW hR.a16 (by omega) (by decide) dX12_opens_31 ?_
      refine lv_icmp_eq (tgt := 37) hx hb dX12_opens_32 (by decide) (fun c3 => ?_) (fun c3 => ?_)
      · rw [a15, b15] at c2
        have e1 : sa = sb := (nI_eq (by omega) (by omega)).mp c2
        rw [a16, b16] at c3
        have e2 : pa = pb := (nI_eq (by omega) (by omega)).mp c3
        subst e1; subst e2
        refine lv_iconst (v := (nI (1))) hx hb dX12_opens_37 (by decide) ?_
        refine lv_istore (lv' := [(4, .int (nI (1))), (0, .ref (m)), (1, .int (nI (a))), (2, .int (nI (bb))), (3, .int (nI (d)))]) hx hb dX12_opens_38 hl (by decide) rfl (fun ls hl => ?_)
        refine lv_iconst (v := (nI (0))) hx hb dX12_opens_40 (by decide) ?_
        refine lv_istore (lv' := [(5, .int (nI (0))), (4, .int (nI (1))), (0, .ref (m)), (1, .int (nI (a))), (2, .int (nI (bb))), (3, .int (nI (d)))]) hx hb dX12_opens_41 hl (by decide) rfl (fun ls hl => ?_)
        replace hl : lv_has ls 6 [(0, .ref (m)), (1, .int (nI (a))), (2, .int (nI (bb))), (3, .int (nI (d))), (4, .int (nI (1))), (5, .int (nI (0)))] := lv_sub hl [2, 3, 4, 5, 1, 0] rfl
        have hinv : ∃ f2 : rl_M, ∃ I' : Nat → Nat → Int32, ∃ F' : Nat → Int32, ∃ n1 : Nat, ∃ i : Nat, ∃ y : Int32, rl_W D A f2 z s.heap H locs ∧ RM t f2 m I' L F' ∧ (rf_s36 I I' F F') ∧ (F' 33 = nI n1) ∧ (n0 ≤ n1 ∧ n1 ≤ n0 + i) ∧ (i ≤ pa) ∧ (y = 0 ∨ y = 1) ∧ (rf_sp ρ κ n1 (I' 34) (I' 35) (I' 36)) ∧ (rf_mu (I' 36) n1 ≤ rf_mu (I 36) n0 + i * 6 ^ (6 - d)) ∧ lv_has ls 6 [(0, .ref (m)), (1, .int (nI (a))), (2, .int (nI (bb))), (3, .int (nI (d))), (4, .int (y)), (5, .int (nI (i)))] := ⟨_, I, F, n0, 0, _, hW, hR, ⟨fun _ _ => rfl, fun _ _ => rfl⟩, hF33, ⟨Nat.le_refl _, Nat.le_refl _⟩, Nat.zero_le _, by decide, hsp, Nat.le_add_right _ _, hl⟩
        clear hW hR hl
        obtain ⟨f2, I', F', n1, i, y, hW, hR, hs, h33, hle, hi, hy, hsp, hmu, hl⟩ := hinv
        obtain ⟨n, hn⟩ : ∃ n, pa - i < n := ⟨_, Nat.lt_succ_self _⟩
        induction n generalizing f2 I' F' n1 i y H locs ls  with
        | zero => exact absurd hn (Nat.not_lt_zero _)
        | succ n ih =>
          have a16' : I' 16 a = nI pa := by rw [hs.1 16 (Or.inl (by decide))]; exact a16
          refine lv_iload hx hb dX12_opens_43 (lv_at hl 5 rfl) ?_
          refine lv_aload_n hx hb dX12_opens_45 rfl (lv_at hl 0 rfl) ?_
          refine rl_get (v := .ref (m + 15)) hC hW fl_X12_55 hR.1 rfl dX12_opens_46 ?_
          refine lv_iload_n hx hb dX12_opens_49 rfl (lv_at hl 1 rfl) ?_
          refine rl_iald_n (g := I' 16) hC hW hR.a16 (by omega) (by decide) dX12_opens_50 ?_
          refine rl_topn (a16') ?_
          refine lv_icmp_ge (tgt := 141) hx hb dX12_opens_51 (by decide) (fun c4 => ?_) (fun c4 => ?_)
          · refine lv_iload hx hb dX12_opens_141 (lv_at hl 4 rfl) ?_
            exact rl_zret hC hW hr hlk (by rcases hy with rfl | rfl <;> rfl) (Nat.le_refl _) (Nat.le_refl _) ⟨_, rfl, rfl, rfl, hy, I', F', n1, hR, hs, h33, hle.1, hsp, Nat.le_trans hmu (Nat.add_le_add_left (Nat.mul_le_mul_right _ (by omega)) _)⟩ dX12_opens_143
          · have hlt : i < pa := rg_lt c4 (by omega) (by omega)
            have hsI := hs.1
            have hTp' : RTp T (I' 3) (I' 4) (I' 5) (I' 6) := (by rw [hsI 3 (Or.inl (by decide)), hsI 4 (Or.inl (by decide)), hsI 5 (Or.inl (by decide)), hsI 6 (Or.inl (by decide))]; exact hTp)
            have hVw' : RVw ρ (I' 12) := (by rw [hsI 12 (Or.inl (by decide))]; exact hVw)
            have hVe' : RVe T ρ κ (I' 15) (I' 16) (I' 18) := (by rw [hsI 15 (Or.inl (by decide)), hsI 16 (Or.inl (by decide)), hsI 18 (Or.inl (by decide))]; exact hVe)
            have hVp' : RVp ρ κ (I' 19) (I' 21) := (by rw [hsI 19 (Or.inl (by decide)), hsI 21 (Or.inl (by decide))]; exact hVp)
            have hat : rf_at T ρ κ (I' 15) (I' 18) a i sa := ⟨ha, hsa, by rw [hsI 15 (Or.inl (by decide))]; exact a15, by omega, by rw [hsI 18 (Or.inl (by decide))]; exact tha i hlt⟩
            refine lv_aload_n hx hb dX12_opens_54 rfl (lv_at hl 0 rfl) ?_
            refine lv_iconst (v := (nI (5))) hx hb dX12_opens_55 (by decide) ?_
            refine lv_iload_n hx hb dX12_opens_56 rfl (lv_at hl 1 rfl) ?_
            refine lv_imul hx hb dX12_opens_57 ?_
            refine rl_topn (pk_mul _ _) ?_
            refine lv_iload hx hb dX12_opens_58 (lv_at hl 5 rfl) ?_
            refine lv_iadd hx hb dX12_opens_60 ?_
            refine rl_topn (nI_add _ _) ?_
            refine rl_calliQ (rl_runV (b := m) (As := [.int (nI (((5) * (a)) + (i)))]) (rest := []) hC hW (cR_isNumber l D t A _ z m I' L F' hR T ρ κ hρ (by omega) hTp' hVw' hVe' hVp' a i sa hat) cs_X12_201 im_X12_isNumber sl_X12_isNumber hR.1 rfl ⟨(Nat.le_of_ble_eq_true rfl), (Nat.le_of_ble_eq_true rfl)⟩ rfl hl.1 rfl (Nat.le_of_ble_eq_true rfl) dX12_opens_61 ⟨(Nat.le_of_ble_eq_true rfl), (Nat.le_of_ble_eq_true rfl)⟩) hW (fun r f1 H locs hp hW => ?_)
            obtain ⟨rfl, hp⟩ := hp
            rcases hp with ⟨rfl, hp⟩ | ⟨rfl, hp⟩
            · refine lv_if_eq (tgt := 106) hx hb dX12_opens_64 (by decide) (fun c5 => ?_) (fun c5 => ?_)
              · exact absurd c5 (by decide)
              · refine lv_iload hx hb dX12_opens_67 (lv_at hl 4 rfl) ?_
                refine lv_aload_n hx hb dX12_opens_69 rfl (lv_at hl 0 rfl) ?_
                refine rl_get (v := .ref (m + 16)) hC hW fl_X12_59 hR.1 rfl dX12_opens_70 ?_
                refine lv_iconst (v := (nI (5))) hx hb dX12_opens_73 (by decide) ?_
                refine lv_iload_n hx hb dX12_opens_74 rfl (lv_at hl 1 rfl) ?_
                refine lv_imul hx hb dX12_opens_75 ?_
                refine rl_topn (pk_mul _ _) ?_
                refine lv_iload hx hb dX12_opens_76 (lv_at hl 5 rfl) ?_
                refine lv_iadd hx hb dX12_opens_78 ?_
                refine rl_topn (nI_add _ _) ?_
                refine rl_lald_n (g := L 17) hC hW hR.a17 (by omega) (by decide) dX12_opens_79 ?_
                refine lv_aload_n hx hb dX12_opens_80 rfl (lv_at hl 0 rfl) ?_
                refine rl_get (v := .ref (m + 16)) hC hW fl_X12_59 hR.1 rfl dX12_opens_81 ?_
                refine lv_iconst (v := (nI (5))) hx hb dX12_opens_84 (by decide) ?_
                refine lv_iload_n hx hb dX12_opens_85 rfl (lv_at hl 2 rfl) ?_
                refine lv_imul hx hb dX12_opens_86 ?_
                refine rl_topn (pk_mul _ _) ?_
                refine lv_iload hx hb dX12_opens_87 (lv_at hl 5 rfl) ?_
                refine lv_iadd hx hb dX12_opens_89 ?_
                refine rl_topn (nI_add _ _) ?_
                refine rl_lald_n (g := L 17) hC hW hR.a17 (by omega) (by decide) dX12_opens_90 ?_
                refine W.lcmp hx hb dX12_opens_91 ?_
                refine lv_if_ne (tgt := 99) hx hb dX12_opens_92 (by decide) (fun c6 => ?_) (fun c6 => ?_)
                · refine lv_iconst (v := (nI (0))) hx hb dX12_opens_99 (by decide) ?_
                  refine lv_iand hx hb dX12_opens_100 ?_
                  refine lv_topi (fun x_1 ex_1 => ?_)
                  refine lv_istore (lv' := [(4, .int (x_1)), (0, .ref (m)), (1, .int (nI (a))), (2, .int (nI (bb))), (3, .int (nI (d))), (5, .int (nI (i)))]) hx hb dX12_opens_101 hl (by decide) rfl (fun ls hl => ?_)
                  refine lv_goto (tgt := 135) hx hb dX12_opens_103 (by decide) ?_
                  refine lv_iinc (v := (nI ((i) + 1))) (lv' := [(5, .int (nI ((i) + 1))), (4, .int (x_1)), (0, .ref (m)), (1, .int (nI (a))), (2, .int (nI (bb))), (3, .int (nI (d)))]) hx hb dX12_opens_135 hl (k := 5) rfl (nI_1 _) (by decide) rfl (fun ls hl => ?_)
                  refine lv_goto (tgt := 43) hx hb dX12_opens_138 (by decide) ?_
                  replace hl : lv_has ls 6 [(0, .ref (m)), (1, .int (nI (a))), (2, .int (nI (bb))), (3, .int (nI (d))), (4, .int (x_1)), (5, .int (nI ((i) + 1)))] := lv_sub hl [2, 3, 4, 5, 1, 0] rfl
                  exact ih _ _ _ _ _ _ _ (i + 1) _ hW hR hs h33 ⟨hle.1, by omega⟩ (by omega) (by rcases hy with rfl | rfl <;> subst ex_1 <;> decide) hsp (Nat.le_trans hmu (Nat.add_le_add_left (Nat.mul_le_mul_right _ (by omega)) _)) hl (by omega)
                · refine lv_iconst (v := (nI (1))) hx hb dX12_opens_95 (by decide) ?_
                  refine lv_goto (tgt := 100) hx hb dX12_opens_96 (by decide) ?_
                  refine lv_iand hx hb dX12_opens_100 ?_
                  refine lv_topi (fun x_2 ex_2 => ?_)
                  refine lv_istore (lv' := [(4, .int (x_2)), (0, .ref (m)), (1, .int (nI (a))), (2, .int (nI (bb))), (3, .int (nI (d))), (5, .int (nI (i)))]) hx hb dX12_opens_101 hl (by decide) rfl (fun ls hl => ?_)
                  refine lv_goto (tgt := 135) hx hb dX12_opens_103 (by decide) ?_
                  refine lv_iinc (v := (nI ((i) + 1))) (lv' := [(5, .int (nI ((i) + 1))), (4, .int (x_2)), (0, .ref (m)), (1, .int (nI (a))), (2, .int (nI (bb))), (3, .int (nI (d)))]) hx hb dX12_opens_135 hl (k := 5) rfl (nI_1 _) (by decide) rfl (fun ls hl => ?_)
                  refine lv_goto (tgt := 43) hx hb dX12_opens_138 (by decide) ?_
                  replace hl : lv_has ls 6 [(0, .ref (m)), (1, .int (nI (a))), (2, .int (nI (bb))), (3, .int (nI (d))), (4, .int (x_2)), (5, .int (nI ((i) + 1)))] := lv_sub hl [2, 3, 4, 5, 1, 0] rfl
                  exact ih _ _ _ _ _ _ _ (i + 1) _ hW hR hs h33 ⟨hle.1, by omega⟩ (by omega) (by rcases hy with rfl | rfl <;> subst ex_2 <;> decide) hsp (Nat.le_trans hmu (Nat.add_le_add_left (Nat.mul_le_mul_right _ (by omega)) _)) hl (by omega)
            · refine lv_if_eq (tgt := 106) hx hb dX12_opens_64 (by decide) (fun c5 => ?_) (fun c5 => ?_)
              · refine lv_aload_n hx hb dX12_opens_106 rfl (lv_at hl 0 rfl) ?_
                refine lv_aload_n hx hb dX12_opens_107 rfl (lv_at hl 0 rfl) ?_
                refine rl_get (v := .ref (m + 17)) hC hW fl_X12_63 hR.1 rfl dX12_opens_108 ?_
                refine lv_iconst (v := (nI (5))) hx hb dX12_opens_111 (by decide) ?_
                refine lv_iload_n hx hb dX12_opens_112 rfl (lv_at hl 1 rfl) ?_
                refine lv_imul hx hb dX12_opens_113 ?_
                refine rl_topn (pk_mul _ _) ?_
                refine lv_iload hx hb dX12_opens_114 (lv_at hl 5 rfl) ?_
                refine lv_iadd hx hb dX12_opens_116 ?_
                refine rl_topn (nI_add _ _) ?_
                refine rl_iald_n (g := I' 18) hC hW hR.a18 (by omega) (by decide) dX12_opens_117 ?_
                refine lv_aload_n hx hb dX12_opens_118 rfl (lv_at hl 0 rfl) ?_
                refine rl_get (v := .ref (m + 17)) hC hW fl_X12_63 hR.1 rfl dX12_opens_119 ?_
                refine lv_iconst (v := (nI (5))) hx hb dX12_opens_122 (by decide) ?_
                refine lv_iload_n hx hb dX12_opens_123 rfl (lv_at hl 2 rfl) ?_
                refine lv_imul hx hb dX12_opens_124 ?_
                refine rl_topn (pk_mul _ _) ?_
                refine lv_iload hx hb dX12_opens_125 (lv_at hl 5 rfl) ?_
                refine lv_iadd hx hb dX12_opens_127 ?_
                refine rl_topn (nI_add _ _) ?_
                refine rl_iald_n (g := I' 18) hC hW hR.a18 (by omega) (by decide) dX12_opens_128 ?_
                refine lv_iload_n hx hb dX12_opens_129 rfl (lv_at hl 3 rfl) ?_
                refine lv_iconst (v := (nI (1))) hx hb dX12_opens_130 (by decide) ?_
                refine lv_iadd hx hb dX12_opens_131 ?_
                refine rl_topn (nI_add _ _) ?_
                refine rl_callvQ (rl_runV (b := m) (As := [.int (I' 18 (((5) * (a)) + (i))), .int (I' 18 (((5) * (bb)) + (i))), .int (nI ((d) + (1)))]) (rest := []) hC hW (cR_pair l D t A _ z m I' L F' hR n1 (by omega) h33 _ _ (d + 1)) cs_X12_209 im_X12_pair sl_X12_pair hR.1 rfl ⟨(Nat.le_of_ble_eq_true rfl), (Nat.le_of_ble_eq_true rfl)⟩ rfl hl.1 rfl (Nat.le_of_ble_eq_true rfl) dX12_opens_132 ⟨(Nat.le_of_ble_eq_true rfl), (Nat.le_of_ble_eq_true rfl)⟩) hW (fun f1 H locs hp hW => ?_)
                have hR := hp
                refine lv_iinc (v := (nI ((i) + 1))) (lv' := [(5, .int (nI ((i) + 1))), (0, .ref (m)), (1, .int (nI (a))), (2, .int (nI (bb))), (3, .int (nI (d))), (4, .int (y))]) hx hb dX12_opens_135 hl (k := 5) rfl (nI_1 _) (by decide) rfl (fun ls hl => ?_)
                refine lv_goto (tgt := 43) hx hb dX12_opens_138 (by decide) ?_
                replace hl : lv_has ls 6 [(0, .ref (m)), (1, .int (nI (a))), (2, .int (nI (bb))), (3, .int (nI (d))), (4, .int (y)), (5, .int (nI ((i) + 1)))] := lv_sub hl [1, 2, 3, 4, 5, 0] rfl
                have hsp2 := hsp.push (x := I' 18 (5 * a + i)) (y := I' 18 (5 * bb + i)) (w := d + 1) (by rw [hsI 18 (Or.inl (by decide))]; exact (tha i hlt).t) (by rw [hsI 18 (Or.inl (by decide))]; exact (thb i hlt).t) (by omega) (by omega)
                exact ih _ _ _ _ _ _ (n1 + 1) (i + 1) _ hW hR ⟨fun j hj => by rw [va_up_n _ _ (by omega), va_up_n _ _ (by omega), va_up_n _ _ (by omega)]; exact hsI j hj, fun j hj => by rw [rg_upl hj]; exact hs.2 j hj⟩ rfl ⟨by omega, by omega⟩ (by omega) hy hsp2 (by show rf_mu (upd (I' 36) n1 (nI (d + 1))) (n1 + 1) ≤ _; rw [rf_mu.push (by omega), show 7 - (d + 1) = 6 - d by omega, Nat.add_mul, Nat.one_mul]; omega) hl (by omega)
              · exact absurd rfl c5
      · refine lv_iconst (v := (nI (0))) hx hb dX12_opens_35 (by decide) ?_
        exact rl_zret hC hW hr hlk rfl (Nat.le_refl _) (Nat.le_refl _) ⟨_, rfl, rfl, rfl, by decide, I, F, n0, hR, ⟨fun _ _ => rfl, fun _ _ => rfl⟩, hF33, Nat.le_refl _, hsp, Nat.le_add_right _ _⟩ dX12_opens_36

theorem rf_mu_pop {a : Nat → Int32} {n2 n : Nat} (h : rf_mu a (n2 + 1) < n + 1) : rf_mu a n2 < n := by
  have h1 : rf_mu a (n2 + 1) = rf_mu a n2 + 6 ^ (7 - (a n2).toNatClampNeg) := rfl
  have h2 := Nat.pow_pos (n := 7 - (a n2).toNatClampNeg) (show 0 < 6 by decide)
  omega
theorem rf_lk {a a' : Nat → Int32} {n2 n3 n w0 : Nat} {P : Prop} (hw6 : w0 ≤ 6) (hwe : a n2 = nI w0) (hmu : rf_mu a' n3 ≤ rf_mu a n2 + 5 * 6 ^ (6 - w0)) (h : rf_mu a (n2 + 1) < n + 1) (k : rf_mu a' n3 < n → P) : P := by
  have h1 : rf_mu a (n2 + 1) = rf_mu a n2 + 6 ^ (7 - (a n2).toNatClampNeg) := rfl
  rw [hwe, nI_clamp (by omega), show 7 - w0 = (6 - w0) + 1 by omega, Nat.pow_succ] at h1
  have h2 := Nat.pow_pos (n := 6 - w0) (show 0 < 6 by decide)
  exact k (by omega)

set_option maxHeartbeats 4000000 in
set_option maxRecDepth 100000 in
theorem cR_like (l : Launch) (D : va_G) (t : Nat → ClassId) (A : Nat → Prop) (f : rl_M) (z : Nat) (m : Nat) (T : Nat → Nat → Nat) (ρ κ : Nat) (hS : RS t f m T ρ κ) (hρ : ρ + 84 ≤ 43100) (hκ : κ + 51 ≤ 26200) (x1 x2 : Int32) : rl_Met l yX12_like (.code yX12_like cX12_like 7 (some FieldType.int)) (rl_rm 2 0 0) D t A f z [.ref (m), .int (x1), .int (x2)] (rl_qi z fun r f1 => ∃ ρ' κ', ρ' ≤ ρ + 84 ∧ κ' ≤ κ + 51 ∧ RS t f1 m T ρ' κ') := by
  obtain ⟨I, L, F, lv', hR, hTc, hTp, hTk, hVw, hVe, hVp, hF11, hF14, hF22, hlv⟩ := hS
  refine rl_begin (own := RX12) (lv := [(0, .ref (m)), (1, .int (x1)), (2, .int (x2))]) (by decide +kernel) rfl (Nat.le_of_ble_eq_true rfl) rfl fun p e s m0 args below meth c ls H locs hC hr hlk hnm hW hl hx hb => ?_
  refine lv_iload_n hx hb dX12_like_0 rfl (lv_at hl 1 rfl) ?_
  refine rl_calliQ (rl_runS (As := [.int (x1)]) (rest := []) hC hW (cR_isPlace l D t A _ z _) cs_X12_148 sm_X12_isPlace ⟨(Nat.le_of_ble_eq_true rfl), (Nat.le_of_ble_eq_true rfl)⟩ rfl hl.1 rfl (Nat.le_of_ble_eq_true rfl) dX12_like_1 ⟨(Nat.le_of_ble_eq_true rfl), (Nat.le_of_ble_eq_true rfl)⟩) hW (fun r f1 H locs hp hW => ?_)
  obtain ⟨rfl, hp⟩ := hp
  rcases hp with ⟨rfl, hp⟩ | ⟨rfl, hp⟩
  · obtain ⟨p0, hp0, rfl⟩ := hp
    refine lv_if_eq (tgt := 14) hx hb dX12_like_4 (by decide) (fun c9 => ?_) (fun c9 => ?_)
    · exact absurd c9 (by decide)
    · refine lv_iload_n hx hb dX12_like_7 rfl (lv_at hl 2 rfl) ?_
      refine rl_calliQ (rl_runS (As := [.int (x2)]) (rest := []) hC hW (cR_isPlace l D t A _ z _) cs_X12_148 sm_X12_isPlace ⟨(Nat.le_of_ble_eq_true rfl), (Nat.le_of_ble_eq_true rfl)⟩ rfl hl.1 rfl (Nat.le_of_ble_eq_true rfl) dX12_like_8 ⟨(Nat.le_of_ble_eq_true rfl), (Nat.le_of_ble_eq_true rfl)⟩) hW (fun r f1 H locs hp hW => ?_)
      obtain ⟨rfl, hp⟩ := hp
      rcases hp with ⟨rfl, hp⟩ | ⟨rfl, hp⟩
      · obtain ⟨q0, hq0, rfl⟩ := hp
        refine lv_if_ne (tgt := 16) hx hb dX12_like_11 (by decide) (fun c9 => ?_) (fun c9 => ?_)
        · refine lv_aload_n hx hb dX12_like_16 rfl (lv_at hl 0 rfl) ?_
          refine lv_iconst (v := (nI (0))) hx hb dX12_like_17 (by decide) ?_
          refine rl_put (v := .int (nI (0))) hC hW fp_X12_206 hR.1 (Nat.le_of_ble_eq_true rfl) rfl rfl dX12_like_18 (fun H locs hW => ?_)
          have hR := hR.f33 (nI (0))
          refine lv_aload_n hx hb dX12_like_21 rfl (lv_at hl 0 rfl) ?_
          refine lv_aload_n hx hb dX12_like_22 rfl (lv_at hl 0 rfl) ?_
          refine rl_get (v := .ref (m + 18)) hC hW fl_X12_66 hR.1 rfl dX12_like_23 ?_
          refine lv_iload_n hx hb dX12_like_26 rfl (lv_at hl 1 rfl) ?_
          refine rl_iald_n (g := I 19) hC hW hR.a19 (by omega) (by decide) dX12_like_27 ?_
          refine lv_aload_n hx hb dX12_like_28 rfl (lv_at hl 0 rfl) ?_
          refine rl_get (v := .ref (m + 18)) hC hW fl_X12_66 hR.1 rfl dX12_like_29 ?_
          refine lv_iload_n hx hb dX12_like_32 rfl (lv_at hl 2 rfl) ?_
          refine rl_iald_n (g := I 19) hC hW hR.a19 (by omega) (by decide) dX12_like_33 ?_
          refine lv_iconst (v := (nI (0))) hx hb dX12_like_34 (by decide) ?_
          refine rl_callvQ (rl_runV (b := m) (As := [.int (I 19 (p0)), .int (I 19 (q0)), .int (nI (0))]) (rest := []) hC hW (cR_pair l D t A _ z m I L (upd F 33 (nI 0)) hR 0 (by decide) rfl _ _ 0) cs_X12_209 im_X12_pair sl_X12_pair hR.1 rfl ⟨(Nat.le_of_ble_eq_true rfl), (Nat.le_of_ble_eq_true rfl)⟩ rfl hl.1 rfl (Nat.le_of_ble_eq_true rfl) dX12_like_35 ⟨(Nat.le_of_ble_eq_true rfl), (Nat.le_of_ble_eq_true rfl)⟩) hW (fun f1 H locs hp hW => ?_)
          have hR := hp
          refine lv_iconst (v := (nI (1))) hx hb dX12_like_38 (by decide) ?_
          refine lv_istore_n (lv' := [(3, .int (nI (1))), (0, .ref (m)), (1, .int (nI (p0))), (2, .int (nI (q0)))]) hx hb dX12_like_39 rfl hl (by decide) rfl (fun ls hl => ?_)
          replace hl : lv_has ls 7 [(0, .ref (m)), (3, .int (nI (1)))] := lv_sub hl [1, 0] rfl
          have hsp0 : rf_sp ρ κ 1 (upd (I 34) 0 (I 19 p0)) (upd (I 35) 0 (I 19 q0)) (upd (I 36) 0 (nI 0)) := rf_sp.push (n := 0) (w := 0) (fun i hi => absurd hi (Nat.not_lt_zero _)) (hVp.1 p0 hp0) (hVp.1 q0 hq0) (by decide) (by decide)
          have hinv : ∃ f2 : rl_M, ∃ I' : Nat → Nat → Int32, ∃ F' : Nat → Int32, ∃ n1 : Nat, ∃ y : Int32, rl_W D A f2 z s.heap H locs ∧ RM t f2 m I' L F' ∧ (rf_s36 I I' F F') ∧ (F' 33 = nI n1) ∧ (y = 0 ∨ y = 1) ∧ (rf_sp ρ κ n1 (I' 34) (I' 35) (I' 36)) ∧ lv_has ls 7 [(0, .ref (m)), (3, .int (y))] := ⟨_, _, _, 1, _, hW, hR, ⟨fun j hj => by rw [va_up_n _ _ (by omega), va_up_n _ _ (by omega), va_up_n _ _ (by omega)], fun j hj => by rw [rg_upl hj, rg_upl hj]⟩, rfl, by decide, hsp0, hl⟩
          clear hW hR hl
          obtain ⟨f2, I', F', n1, y, hW, hR, hs, h33, hy, hsp, hl⟩ := hinv
          obtain ⟨n, hn⟩ : ∃ n, rf_mu (I' 36) n1 < n := ⟨_, Nat.lt_succ_self _⟩
          induction n generalizing f2 I' F' n1 y H locs ls  with
          | zero => exact absurd hn (Nat.not_lt_zero _)
          | succ n ih =>
            have hsI := hs.1
            have hn31 : n1 ≤ 31 := by rcases Nat.eq_zero_or_pos n1 with q | q; omega; obtain ⟨_, _, w1, hw1, hw2, _⟩ := hsp (n1 - 1) (by omega); omega
            have hTc' : RTc T (I' 0) (I' 1) := (by rw [hsI 0 (Or.inl (by decide)), hsI 1 (Or.inl (by decide))]; exact hTc)
            have hTp' : RTp T (I' 3) (I' 4) (I' 5) (I' 6) := (by rw [hsI 3 (Or.inl (by decide)), hsI 4 (Or.inl (by decide)), hsI 5 (Or.inl (by decide)), hsI 6 (Or.inl (by decide))]; exact hTp)
            have hTk' : RTk T (I' 7) (I' 8) (I' 9) (I' 10) := (by rw [hsI 7 (Or.inl (by decide)), hsI 8 (Or.inl (by decide)), hsI 9 (Or.inl (by decide)), hsI 10 (Or.inl (by decide))]; exact hTk)
            have hVw' : RVw ρ (I' 12) := (by rw [hsI 12 (Or.inl (by decide))]; exact hVw)
            have hVe' : RVe T ρ κ (I' 15) (I' 16) (I' 18) := (by rw [hsI 15 (Or.inl (by decide)), hsI 16 (Or.inl (by decide)), hsI 18 (Or.inl (by decide))]; exact hVe)
            have hVp' : RVp ρ κ (I' 19) (I' 21) := (by rw [hsI 19 (Or.inl (by decide)), hsI 21 (Or.inl (by decide))]; exact hVp)
            have hF11' : F' 11 = nI ρ := (by rw [hs.2 11 (by decide)]; exact hF11)
            have hF14' : F' 14 = nI κ := (by rw [hs.2 14 (by decide)]; exact hF14)
            have hF22' : F' 22 = nI lv' := (by rw [hs.2 22 (by decide)]; exact hF22)
            refine lv_aload_n hx hb dX12_like_40 rfl (lv_at hl 0 rfl) ?_
            refine rl_get (v := .int (F' 33)) hC hW fl_X12_206 hR.1 rfl dX12_like_41 ?_
            refine rl_topn (h33) ?_
            refine lv_if_le (tgt := 186) hx hb dX12_like_44 (by decide) (fun c1 => ?_) (fun c1 => ?_)
            · refine lv_iload_n hx hb dX12_like_186 rfl (lv_at hl 1 rfl) ?_
              refine lv_if_eq (tgt := 194) hx hb dX12_like_187 (by decide) (fun c_1 => ?_) (fun c_1 => ?_)
              · refine lv_iconst (v := (nI (0))) hx hb dX12_like_194 (by decide) ?_
                exact rl_iret hC hW hr hlk (Nat.le_refl _) (Nat.le_refl _) ⟨_, rfl, rfl, rfl, ρ, κ, by omega, by omega, ⟨_, _, _, lv', hR, hTc', hTp', hTk', hVw', hVe', hVp', hF11', hF14', hF22', hlv⟩⟩ dX12_like_195
              · refine lv_iconst (v := (nI (1))) hx hb dX12_like_190 (by decide) ?_
                refine lv_goto (tgt := 195) hx hb dX12_like_191 (by decide) ?_
                exact rl_iret hC hW hr hlk (Nat.le_refl _) (Nat.le_refl _) ⟨_, rfl, rfl, rfl, ρ, κ, by omega, by omega, ⟨_, _, _, lv', hR, hTc', hTp', hTk', hVw', hVe', hVp', hF11', hF14', hF22', hlv⟩⟩ dX12_like_195
            · refine lv_iload_n hx hb dX12_like_47 rfl (lv_at hl 1 rfl) ?_
              refine lv_if_eq (tgt := 186) hx hb dX12_like_48 (by decide) (fun c2 => ?_) (fun c2 => ?_)
              · refine lv_iload_n hx hb dX12_like_186 rfl (lv_at hl 1 rfl) ?_
                refine lv_if_eq (tgt := 194) hx hb dX12_like_187 (by decide) (fun c_2 => ?_) (fun c_2 => ?_)
                · refine lv_iconst (v := (nI (0))) hx hb dX12_like_194 (by decide) ?_
                  exact rl_iret hC hW hr hlk (Nat.le_refl _) (Nat.le_refl _) ⟨_, rfl, rfl, rfl, ρ, κ, by omega, by omega, ⟨_, _, _, lv', hR, hTc', hTp', hTk', hVw', hVe', hVp', hF11', hF14', hF22', hlv⟩⟩ dX12_like_195
                · refine lv_iconst (v := (nI (1))) hx hb dX12_like_190 (by decide) ?_
                  refine lv_goto (tgt := 195) hx hb dX12_like_191 (by decide) ?_
                  exact rl_iret hC hW hr hlk (Nat.le_refl _) (Nat.le_refl _) ⟨_, rfl, rfl, rfl, ρ, κ, by omega, by omega, ⟨_, _, _, lv', hR, hTc', hTp', hTk', hVw', hVe', hVp', hF11', hF14', hF22', hlv⟩⟩ dX12_like_195
              · have hn0 : n1 ≠ 0 := fun q => c1 (by rw [q]; decide)
                obtain ⟨n2, rfl⟩ : ∃ n2, n1 = n2 + 1 := ⟨n1 - 1, by omega⟩
                obtain ⟨hxA, hxB, w0, hw6, hw5, hwe⟩ := hsp n2 (by omega)
                refine lv_aload_n hx hb dX12_like_51 rfl (lv_at hl 0 rfl) ?_
                refine lv_dup hx hb dX12_like_52 rfl ?_
                refine rl_get (v := .int (F' 33)) hC hW fl_X12_206 hR.1 rfl dX12_like_53 ?_
                refine rl_topn (h33) ?_
                refine lv_iconst (v := (nI (1))) hx hb dX12_like_56 (by decide) ?_
                refine lv_isub hx hb dX12_like_57 ?_
                refine rl_topn (rg_sub (c := n2) (by omega)) ?_
                refine rl_put (v := .int (nI (n2))) hC hW fp_X12_206 hR.1 (Nat.le_of_ble_eq_true rfl) rfl rfl dX12_like_58 (fun H locs hW => ?_)
                have hR := hR.f33 (nI (n2))
                refine lv_aload_n hx hb dX12_like_61 rfl (lv_at hl 0 rfl) ?_
                refine rl_get (v := .ref (m + 24)) hC hW fl_X12_88 hR.1 rfl dX12_like_62 ?_
                refine lv_aload_n hx hb dX12_like_65 rfl (lv_at hl 0 rfl) ?_
                refine rl_get (v := .int (nI (n2))) hC hW fl_X12_206 hR.1 rfl dX12_like_66 ?_
                refine rl_iald_n (g := I' 34) hC hW hR.a34 (by omega) (by decide) dX12_like_69 ?_
                refine lv_istore (lv' := [(4, .int (I' 34 (n2))), (0, .ref (m)), (3, .int (y))]) hx hb dX12_like_70 hl (by decide) rfl (fun ls hl => ?_)
                refine lv_aload_n hx hb dX12_like_72 rfl (lv_at hl 1 rfl) ?_
                refine rl_get (v := .ref (m + 25)) hC hW fl_X12_91 hR.1 rfl dX12_like_73 ?_
                refine lv_aload_n hx hb dX12_like_76 rfl (lv_at hl 1 rfl) ?_
                refine rl_get (v := .int (nI (n2))) hC hW fl_X12_206 hR.1 rfl dX12_like_77 ?_
                refine rl_iald_n (g := I' 35) hC hW hR.a35 (by omega) (by decide) dX12_like_80 ?_
                refine lv_istore (lv' := [(5, .int (I' 35 (n2))), (4, .int (I' 34 (n2))), (0, .ref (m)), (3, .int (y))]) hx hb dX12_like_81 hl (by decide) rfl (fun ls hl => ?_)
                refine lv_iload hx hb dX12_like_83 (lv_at hl 1 rfl) ?_
                refine lv_iload hx hb dX12_like_85 (lv_at hl 0 rfl) ?_
                refine lv_icmp_eq (tgt := 183) hx hb dX12_like_87 (by decide) (fun c3 => ?_) (fun c3 => ?_)
                · refine lv_goto (tgt := 40) hx hb dX12_like_183 (by decide) ?_
                  replace hl : lv_has ls 7 [(0, .ref (m)), (3, .int (y))] := lv_sub hl [2, 3] rfl
                  exact ih _ _ _ _ I' _ n2 _ hW hR ⟨fun j hj => hsI j hj, fun j hj => by rw [rg_upl hj]; exact hs.2 j hj⟩ rfl hy (fun i hi => hsp i (by omega)) hl (rf_mu_pop hn)
                · refine lv_aload_n hx hb dX12_like_90 rfl (lv_at hl 2 rfl) ?_
                  refine lv_iload hx hb dX12_like_91 (lv_at hl 1 rfl) ?_
                  refine rl_calliQ (rl_runV (b := m) (As := [.int (I' 34 (n2))]) (rest := []) hC hW (cR_familyOf l D t A _ z m I' L _ hR ρ κ (by omega) (by omega) _ hxA) cs_X12_160 im_X12_familyOf sl_X12_familyOf hR.1 rfl ⟨(Nat.le_of_ble_eq_true rfl), (Nat.le_of_ble_eq_true rfl)⟩ rfl hl.1 rfl (Nat.le_of_ble_eq_true rfl) dX12_like_93 ⟨(Nat.le_of_ble_eq_true rfl), (Nat.le_of_ble_eq_true rfl)⟩) hW (fun r f1 H locs hp hW => ?_)
                  obtain ⟨rfl, hp1⟩ := hp
                  refine lv_istore (lv' := [(6, .int (r)), (5, .int (I' 35 (n2))), (4, .int (I' 34 (n2))), (0, .ref (m)), (3, .int (y))]) hx hb dX12_like_96 hl (by decide) rfl (fun ls hl => ?_)
                  refine lv_iload hx hb dX12_like_98 (lv_at hl 0 rfl) ?_
                  refine lv_aload_n hx hb dX12_like_100 rfl (lv_at hl 3 rfl) ?_
                  refine lv_iload hx hb dX12_like_101 (lv_at hl 1 rfl) ?_
                  refine rl_calliQ (rl_runV (b := m) (As := [.int (I' 35 (n2))]) (rest := [.int (r)]) hC hW (cR_familyOf l D t A _ z m I' L _ hR ρ κ (by omega) (by omega) _ hxB) cs_X12_160 im_X12_familyOf sl_X12_familyOf hR.1 rfl ⟨(Nat.le_of_ble_eq_true rfl), (Nat.le_of_ble_eq_true rfl)⟩ rfl hl.1 rfl (Nat.le_of_ble_eq_true rfl) dX12_like_103 ⟨(Nat.le_of_ble_eq_true rfl), (Nat.le_of_ble_eq_true rfl)⟩) hW (fun r2 f1 H locs hp hW => ?_)
                  obtain ⟨rfl, hp2⟩ := hp
                  rcases hp1 with ⟨_, rfl⟩ | ⟨_, rfl | rfl⟩ | ⟨hp1, rfl⟩ | ⟨hp1, rfl⟩
                  · rcases hp2 with ⟨_, rfl⟩ | ⟨_, rfl | rfl⟩ | ⟨hp2, rfl⟩ | ⟨hp2, rfl⟩
                    · refine lv_icmp_ne (tgt := 119) hx hb dX12_like_106 (by decide) (fun c_3 => ?_) (fun c_3 => ?_)
                      · first | exact absurd c_3 (by decide) | exact absurd (by decide) c_3
                      · refine lv_iload hx hb dX12_like_109 (lv_at hl 0 rfl) ?_
                        refine lv_iconst (v := (nI (2))) hx hb dX12_like_111 (by decide) ?_
                        refine lv_icmp_le (tgt := 119) hx hb dX12_like_112 (by decide) (fun c_4 => ?_) (fun c_4 => ?_)
                        · refine lv_iconst (v := (nI (0))) hx hb dX12_like_119 (by decide) ?_
                          refine lv_istore_n (lv' := [(3, .int (nI (0))), (6, .int (0)), (5, .int (I' 35 (n2))), (4, .int (I' 34 (n2))), (0, .ref (m))]) hx hb dX12_like_120 rfl hl (by decide) rfl (fun ls hl => ?_)
                          refine lv_iload_n hx hb dX12_like_121 rfl (lv_at hl 0 rfl) ?_
                          refine lv_if_eq (tgt := 181) hx hb dX12_like_122 (by decide) (fun c_5 => ?_) (fun c_5 => ?_)
                          · refine lv_iconst (v := (nI (0))) hx hb dX12_like_181 (by decide) ?_
                            refine lv_istore_n (lv' := [(3, .int (nI (0))), (6, .int (0)), (5, .int (I' 35 (n2))), (4, .int (I' 34 (n2))), (0, .ref (m))]) hx hb dX12_like_182 rfl hl (by decide) rfl (fun ls hl => ?_)
                            refine lv_goto (tgt := 40) hx hb dX12_like_183 (by decide) ?_
                            replace hl : lv_has ls 7 [(0, .ref (m)), (3, .int (nI (0)))] := lv_sub hl [4, 0] rfl
                            exact ih _ _ _ _ I' _ n2 _ hW hR ⟨fun j hj => hsI j hj, fun j hj => by rw [rg_upl hj]; exact hs.2 j hj⟩ rfl (by decide) (fun i hi => hsp i (by omega)) hl (rf_mu_pop hn)
                          · first | exact absurd c_5 (by decide) | exact absurd (by decide) c_5
                        · first | exact absurd c_4 (by decide) | exact absurd (by decide) c_4
                    · refine lv_icmp_ne (tgt := 119) hx hb dX12_like_106 (by decide) (fun c_6 => ?_) (fun c_6 => ?_)
                      · refine lv_iconst (v := (nI (0))) hx hb dX12_like_119 (by decide) ?_
                        refine lv_istore_n (lv' := [(3, .int (nI (0))), (6, .int (0)), (5, .int (I' 35 (n2))), (4, .int (I' 34 (n2))), (0, .ref (m))]) hx hb dX12_like_120 rfl hl (by decide) rfl (fun ls hl => ?_)
                        refine lv_iload_n hx hb dX12_like_121 rfl (lv_at hl 0 rfl) ?_
                        refine lv_if_eq (tgt := 181) hx hb dX12_like_122 (by decide) (fun c_7 => ?_) (fun c_7 => ?_)
                        · refine lv_iconst (v := (nI (0))) hx hb dX12_like_181 (by decide) ?_
                          refine lv_istore_n (lv' := [(3, .int (nI (0))), (6, .int (0)), (5, .int (I' 35 (n2))), (4, .int (I' 34 (n2))), (0, .ref (m))]) hx hb dX12_like_182 rfl hl (by decide) rfl (fun ls hl => ?_)
                          refine lv_goto (tgt := 40) hx hb dX12_like_183 (by decide) ?_
                          replace hl : lv_has ls 7 [(0, .ref (m)), (3, .int (nI (0)))] := lv_sub hl [4, 0] rfl
                          exact ih _ _ _ _ I' _ n2 _ hW hR ⟨fun j hj => hsI j hj, fun j hj => by rw [rg_upl hj]; exact hs.2 j hj⟩ rfl (by decide) (fun i hi => hsp i (by omega)) hl (rf_mu_pop hn)
                        · first | exact absurd c_7 (by decide) | exact absurd (by decide) c_7
                      · first | exact absurd c_6 (by decide) | exact absurd (by decide) c_6
                    · refine lv_icmp_ne (tgt := 119) hx hb dX12_like_106 (by decide) (fun c_8 => ?_) (fun c_8 => ?_)
                      · refine lv_iconst (v := (nI (0))) hx hb dX12_like_119 (by decide) ?_
                        refine lv_istore_n (lv' := [(3, .int (nI (0))), (6, .int (0)), (5, .int (I' 35 (n2))), (4, .int (I' 34 (n2))), (0, .ref (m))]) hx hb dX12_like_120 rfl hl (by decide) rfl (fun ls hl => ?_)
                        refine lv_iload_n hx hb dX12_like_121 rfl (lv_at hl 0 rfl) ?_
                        refine lv_if_eq (tgt := 181) hx hb dX12_like_122 (by decide) (fun c_9 => ?_) (fun c_9 => ?_)
                        · refine lv_iconst (v := (nI (0))) hx hb dX12_like_181 (by decide) ?_
                          refine lv_istore_n (lv' := [(3, .int (nI (0))), (6, .int (0)), (5, .int (I' 35 (n2))), (4, .int (I' 34 (n2))), (0, .ref (m))]) hx hb dX12_like_182 rfl hl (by decide) rfl (fun ls hl => ?_)
                          refine lv_goto (tgt := 40) hx hb dX12_like_183 (by decide) ?_
                          replace hl : lv_has ls 7 [(0, .ref (m)), (3, .int (nI (0)))] := lv_sub hl [4, 0] rfl
                          exact ih _ _ _ _ I' _ n2 _ hW hR ⟨fun j hj => hsI j hj, fun j hj => by rw [rg_upl hj]; exact hs.2 j hj⟩ rfl (by decide) (fun i hi => hsp i (by omega)) hl (rf_mu_pop hn)
                        · first | exact absurd c_9 (by decide) | exact absurd (by decide) c_9
                      · first | exact absurd c_8 (by decide) | exact absurd (by decide) c_8
                    · refine lv_icmp_ne (tgt := 119) hx hb dX12_like_106 (by decide) (fun c_10 => ?_) (fun c_10 => ?_)
                      · refine lv_iconst (v := (nI (0))) hx hb dX12_like_119 (by decide) ?_
                        refine lv_istore_n (lv' := [(3, .int (nI (0))), (6, .int (0)), (5, .int (I' 35 (n2))), (4, .int (I' 34 (n2))), (0, .ref (m))]) hx hb dX12_like_120 rfl hl (by decide) rfl (fun ls hl => ?_)
                        refine lv_iload_n hx hb dX12_like_121 rfl (lv_at hl 0 rfl) ?_
                        refine lv_if_eq (tgt := 181) hx hb dX12_like_122 (by decide) (fun c_11 => ?_) (fun c_11 => ?_)
                        · refine lv_iconst (v := (nI (0))) hx hb dX12_like_181 (by decide) ?_
                          refine lv_istore_n (lv' := [(3, .int (nI (0))), (6, .int (0)), (5, .int (I' 35 (n2))), (4, .int (I' 34 (n2))), (0, .ref (m))]) hx hb dX12_like_182 rfl hl (by decide) rfl (fun ls hl => ?_)
                          refine lv_goto (tgt := 40) hx hb dX12_like_183 (by decide) ?_
                          replace hl : lv_has ls 7 [(0, .ref (m)), (3, .int (nI (0)))] := lv_sub hl [4, 0] rfl
                          exact ih _ _ _ _ I' _ n2 _ hW hR ⟨fun j hj => hsI j hj, fun j hj => by rw [rg_upl hj]; exact hs.2 j hj⟩ rfl (by decide) (fun i hi => hsp i (by omega)) hl (rf_mu_pop hn)
                        · first | exact absurd c_11 (by decide) | exact absurd (by decide) c_11
                      · first | exact absurd c_10 (by decide) | exact absurd (by decide) c_10
                    · refine lv_icmp_ne (tgt := 119) hx hb dX12_like_106 (by decide) (fun c_12 => ?_) (fun c_12 => ?_)
                      · refine lv_iconst (v := (nI (0))) hx hb dX12_like_119 (by decide) ?_
                        refine lv_istore_n (lv' := [(3, .int (nI (0))), (6, .int (0)), (5, .int (I' 35 (n2))), (4, .int (I' 34 (n2))), (0, .ref (m))]) hx hb dX12_like_120 rfl hl (by decide) rfl (fun ls hl => ?_)
                        refine lv_iload_n hx hb dX12_like_121 rfl (lv_at hl 0 rfl) ?_
                        refine lv_if_eq (tgt := 181) hx hb dX12_like_122 (by decide) (fun c_13 => ?_) (fun c_13 => ?_)
                        · refine lv_iconst (v := (nI (0))) hx hb dX12_like_181 (by decide) ?_
                          refine lv_istore_n (lv' := [(3, .int (nI (0))), (6, .int (0)), (5, .int (I' 35 (n2))), (4, .int (I' 34 (n2))), (0, .ref (m))]) hx hb dX12_like_182 rfl hl (by decide) rfl (fun ls hl => ?_)
                          refine lv_goto (tgt := 40) hx hb dX12_like_183 (by decide) ?_
                          replace hl : lv_has ls 7 [(0, .ref (m)), (3, .int (nI (0)))] := lv_sub hl [4, 0] rfl
                          exact ih _ _ _ _ I' _ n2 _ hW hR ⟨fun j hj => hsI j hj, fun j hj => by rw [rg_upl hj]; exact hs.2 j hj⟩ rfl (by decide) (fun i hi => hsp i (by omega)) hl (rf_mu_pop hn)
                        · first | exact absurd c_13 (by decide) | exact absurd (by decide) c_13
                      · first | exact absurd c_12 (by decide) | exact absurd (by decide) c_12
                  · rcases hp2 with ⟨_, rfl⟩ | ⟨_, rfl | rfl⟩ | ⟨hp2, rfl⟩ | ⟨hp2, rfl⟩
                    · refine lv_icmp_ne (tgt := 119) hx hb dX12_like_106 (by decide) (fun c_14 => ?_) (fun c_14 => ?_)
                      · refine lv_iconst (v := (nI (0))) hx hb dX12_like_119 (by decide) ?_
                        refine lv_istore_n (lv' := [(3, .int (nI (0))), (6, .int (1)), (5, .int (I' 35 (n2))), (4, .int (I' 34 (n2))), (0, .ref (m))]) hx hb dX12_like_120 rfl hl (by decide) rfl (fun ls hl => ?_)
                        refine lv_iload_n hx hb dX12_like_121 rfl (lv_at hl 0 rfl) ?_
                        refine lv_if_eq (tgt := 181) hx hb dX12_like_122 (by decide) (fun c_15 => ?_) (fun c_15 => ?_)
                        · refine lv_iconst (v := (nI (0))) hx hb dX12_like_181 (by decide) ?_
                          refine lv_istore_n (lv' := [(3, .int (nI (0))), (6, .int (1)), (5, .int (I' 35 (n2))), (4, .int (I' 34 (n2))), (0, .ref (m))]) hx hb dX12_like_182 rfl hl (by decide) rfl (fun ls hl => ?_)
                          refine lv_goto (tgt := 40) hx hb dX12_like_183 (by decide) ?_
                          replace hl : lv_has ls 7 [(0, .ref (m)), (3, .int (nI (0)))] := lv_sub hl [4, 0] rfl
                          exact ih _ _ _ _ I' _ n2 _ hW hR ⟨fun j hj => hsI j hj, fun j hj => by rw [rg_upl hj]; exact hs.2 j hj⟩ rfl (by decide) (fun i hi => hsp i (by omega)) hl (rf_mu_pop hn)
                        · first | exact absurd c_15 (by decide) | exact absurd (by decide) c_15
                      · first | exact absurd c_14 (by decide) | exact absurd (by decide) c_14
                    · refine lv_icmp_ne (tgt := 119) hx hb dX12_like_106 (by decide) (fun c_16 => ?_) (fun c_16 => ?_)
                      · first | exact absurd c_16 (by decide) | exact absurd (by decide) c_16
                      · refine lv_iload hx hb dX12_like_109 (lv_at hl 0 rfl) ?_
                        refine lv_iconst (v := (nI (2))) hx hb dX12_like_111 (by decide) ?_
                        refine lv_icmp_le (tgt := 119) hx hb dX12_like_112 (by decide) (fun c_17 => ?_) (fun c_17 => ?_)
                        · refine lv_iconst (v := (nI (0))) hx hb dX12_like_119 (by decide) ?_
                          refine lv_istore_n (lv' := [(3, .int (nI (0))), (6, .int (1)), (5, .int (I' 35 (n2))), (4, .int (I' 34 (n2))), (0, .ref (m))]) hx hb dX12_like_120 rfl hl (by decide) rfl (fun ls hl => ?_)
                          refine lv_iload_n hx hb dX12_like_121 rfl (lv_at hl 0 rfl) ?_
                          refine lv_if_eq (tgt := 181) hx hb dX12_like_122 (by decide) (fun c_18 => ?_) (fun c_18 => ?_)
                          · refine lv_iconst (v := (nI (0))) hx hb dX12_like_181 (by decide) ?_
                            refine lv_istore_n (lv' := [(3, .int (nI (0))), (6, .int (1)), (5, .int (I' 35 (n2))), (4, .int (I' 34 (n2))), (0, .ref (m))]) hx hb dX12_like_182 rfl hl (by decide) rfl (fun ls hl => ?_)
                            refine lv_goto (tgt := 40) hx hb dX12_like_183 (by decide) ?_
                            replace hl : lv_has ls 7 [(0, .ref (m)), (3, .int (nI (0)))] := lv_sub hl [4, 0] rfl
                            exact ih _ _ _ _ I' _ n2 _ hW hR ⟨fun j hj => hsI j hj, fun j hj => by rw [rg_upl hj]; exact hs.2 j hj⟩ rfl (by decide) (fun i hi => hsp i (by omega)) hl (rf_mu_pop hn)
                          · first | exact absurd c_18 (by decide) | exact absurd (by decide) c_18
                        · first | exact absurd c_17 (by decide) | exact absurd (by decide) c_17
                    · refine lv_icmp_ne (tgt := 119) hx hb dX12_like_106 (by decide) (fun c_19 => ?_) (fun c_19 => ?_)
                      · refine lv_iconst (v := (nI (0))) hx hb dX12_like_119 (by decide) ?_
                        refine lv_istore_n (lv' := [(3, .int (nI (0))), (6, .int (1)), (5, .int (I' 35 (n2))), (4, .int (I' 34 (n2))), (0, .ref (m))]) hx hb dX12_like_120 rfl hl (by decide) rfl (fun ls hl => ?_)
                        refine lv_iload_n hx hb dX12_like_121 rfl (lv_at hl 0 rfl) ?_
                        refine lv_if_eq (tgt := 181) hx hb dX12_like_122 (by decide) (fun c_20 => ?_) (fun c_20 => ?_)
                        · refine lv_iconst (v := (nI (0))) hx hb dX12_like_181 (by decide) ?_
                          refine lv_istore_n (lv' := [(3, .int (nI (0))), (6, .int (1)), (5, .int (I' 35 (n2))), (4, .int (I' 34 (n2))), (0, .ref (m))]) hx hb dX12_like_182 rfl hl (by decide) rfl (fun ls hl => ?_)
                          refine lv_goto (tgt := 40) hx hb dX12_like_183 (by decide) ?_
                          replace hl : lv_has ls 7 [(0, .ref (m)), (3, .int (nI (0)))] := lv_sub hl [4, 0] rfl
                          exact ih _ _ _ _ I' _ n2 _ hW hR ⟨fun j hj => hsI j hj, fun j hj => by rw [rg_upl hj]; exact hs.2 j hj⟩ rfl (by decide) (fun i hi => hsp i (by omega)) hl (rf_mu_pop hn)
                        · first | exact absurd c_20 (by decide) | exact absurd (by decide) c_20
                      · first | exact absurd c_19 (by decide) | exact absurd (by decide) c_19
                    · refine lv_icmp_ne (tgt := 119) hx hb dX12_like_106 (by decide) (fun c_21 => ?_) (fun c_21 => ?_)
                      · refine lv_iconst (v := (nI (0))) hx hb dX12_like_119 (by decide) ?_
                        refine lv_istore_n (lv' := [(3, .int (nI (0))), (6, .int (1)), (5, .int (I' 35 (n2))), (4, .int (I' 34 (n2))), (0, .ref (m))]) hx hb dX12_like_120 rfl hl (by decide) rfl (fun ls hl => ?_)
                        refine lv_iload_n hx hb dX12_like_121 rfl (lv_at hl 0 rfl) ?_
                        refine lv_if_eq (tgt := 181) hx hb dX12_like_122 (by decide) (fun c_22 => ?_) (fun c_22 => ?_)
                        · refine lv_iconst (v := (nI (0))) hx hb dX12_like_181 (by decide) ?_
                          refine lv_istore_n (lv' := [(3, .int (nI (0))), (6, .int (1)), (5, .int (I' 35 (n2))), (4, .int (I' 34 (n2))), (0, .ref (m))]) hx hb dX12_like_182 rfl hl (by decide) rfl (fun ls hl => ?_)
                          refine lv_goto (tgt := 40) hx hb dX12_like_183 (by decide) ?_
                          replace hl : lv_has ls 7 [(0, .ref (m)), (3, .int (nI (0)))] := lv_sub hl [4, 0] rfl
                          exact ih _ _ _ _ I' _ n2 _ hW hR ⟨fun j hj => hsI j hj, fun j hj => by rw [rg_upl hj]; exact hs.2 j hj⟩ rfl (by decide) (fun i hi => hsp i (by omega)) hl (rf_mu_pop hn)
                        · first | exact absurd c_22 (by decide) | exact absurd (by decide) c_22
                      · first | exact absurd c_21 (by decide) | exact absurd (by decide) c_21
                    · refine lv_icmp_ne (tgt := 119) hx hb dX12_like_106 (by decide) (fun c_23 => ?_) (fun c_23 => ?_)
                      · refine lv_iconst (v := (nI (0))) hx hb dX12_like_119 (by decide) ?_
                        refine lv_istore_n (lv' := [(3, .int (nI (0))), (6, .int (1)), (5, .int (I' 35 (n2))), (4, .int (I' 34 (n2))), (0, .ref (m))]) hx hb dX12_like_120 rfl hl (by decide) rfl (fun ls hl => ?_)
                        refine lv_iload_n hx hb dX12_like_121 rfl (lv_at hl 0 rfl) ?_
                        refine lv_if_eq (tgt := 181) hx hb dX12_like_122 (by decide) (fun c_24 => ?_) (fun c_24 => ?_)
                        · refine lv_iconst (v := (nI (0))) hx hb dX12_like_181 (by decide) ?_
                          refine lv_istore_n (lv' := [(3, .int (nI (0))), (6, .int (1)), (5, .int (I' 35 (n2))), (4, .int (I' 34 (n2))), (0, .ref (m))]) hx hb dX12_like_182 rfl hl (by decide) rfl (fun ls hl => ?_)
                          refine lv_goto (tgt := 40) hx hb dX12_like_183 (by decide) ?_
                          replace hl : lv_has ls 7 [(0, .ref (m)), (3, .int (nI (0)))] := lv_sub hl [4, 0] rfl
                          exact ih _ _ _ _ I' _ n2 _ hW hR ⟨fun j hj => hsI j hj, fun j hj => by rw [rg_upl hj]; exact hs.2 j hj⟩ rfl (by decide) (fun i hi => hsp i (by omega)) hl (rf_mu_pop hn)
                        · first | exact absurd c_24 (by decide) | exact absurd (by decide) c_24
                      · first | exact absurd c_23 (by decide) | exact absurd (by decide) c_23
                  · rcases hp2 with ⟨_, rfl⟩ | ⟨_, rfl | rfl⟩ | ⟨hp2, rfl⟩ | ⟨hp2, rfl⟩
                    · refine lv_icmp_ne (tgt := 119) hx hb dX12_like_106 (by decide) (fun c_25 => ?_) (fun c_25 => ?_)
                      · refine lv_iconst (v := (nI (0))) hx hb dX12_like_119 (by decide) ?_
                        refine lv_istore_n (lv' := [(3, .int (nI (0))), (6, .int (2)), (5, .int (I' 35 (n2))), (4, .int (I' 34 (n2))), (0, .ref (m))]) hx hb dX12_like_120 rfl hl (by decide) rfl (fun ls hl => ?_)
                        refine lv_iload_n hx hb dX12_like_121 rfl (lv_at hl 0 rfl) ?_
                        refine lv_if_eq (tgt := 181) hx hb dX12_like_122 (by decide) (fun c_26 => ?_) (fun c_26 => ?_)
                        · refine lv_iconst (v := (nI (0))) hx hb dX12_like_181 (by decide) ?_
                          refine lv_istore_n (lv' := [(3, .int (nI (0))), (6, .int (2)), (5, .int (I' 35 (n2))), (4, .int (I' 34 (n2))), (0, .ref (m))]) hx hb dX12_like_182 rfl hl (by decide) rfl (fun ls hl => ?_)
                          refine lv_goto (tgt := 40) hx hb dX12_like_183 (by decide) ?_
                          replace hl : lv_has ls 7 [(0, .ref (m)), (3, .int (nI (0)))] := lv_sub hl [4, 0] rfl
                          exact ih _ _ _ _ I' _ n2 _ hW hR ⟨fun j hj => hsI j hj, fun j hj => by rw [rg_upl hj]; exact hs.2 j hj⟩ rfl (by decide) (fun i hi => hsp i (by omega)) hl (rf_mu_pop hn)
                        · first | exact absurd c_26 (by decide) | exact absurd (by decide) c_26
                      · first | exact absurd c_25 (by decide) | exact absurd (by decide) c_25
                    · refine lv_icmp_ne (tgt := 119) hx hb dX12_like_106 (by decide) (fun c_27 => ?_) (fun c_27 => ?_)
                      · refine lv_iconst (v := (nI (0))) hx hb dX12_like_119 (by decide) ?_
                        refine lv_istore_n (lv' := [(3, .int (nI (0))), (6, .int (2)), (5, .int (I' 35 (n2))), (4, .int (I' 34 (n2))), (0, .ref (m))]) hx hb dX12_like_120 rfl hl (by decide) rfl (fun ls hl => ?_)
                        refine lv_iload_n hx hb dX12_like_121 rfl (lv_at hl 0 rfl) ?_
                        refine lv_if_eq (tgt := 181) hx hb dX12_like_122 (by decide) (fun c_28 => ?_) (fun c_28 => ?_)
                        · refine lv_iconst (v := (nI (0))) hx hb dX12_like_181 (by decide) ?_
                          refine lv_istore_n (lv' := [(3, .int (nI (0))), (6, .int (2)), (5, .int (I' 35 (n2))), (4, .int (I' 34 (n2))), (0, .ref (m))]) hx hb dX12_like_182 rfl hl (by decide) rfl (fun ls hl => ?_)
                          refine lv_goto (tgt := 40) hx hb dX12_like_183 (by decide) ?_
                          replace hl : lv_has ls 7 [(0, .ref (m)), (3, .int (nI (0)))] := lv_sub hl [4, 0] rfl
                          exact ih _ _ _ _ I' _ n2 _ hW hR ⟨fun j hj => hsI j hj, fun j hj => by rw [rg_upl hj]; exact hs.2 j hj⟩ rfl (by decide) (fun i hi => hsp i (by omega)) hl (rf_mu_pop hn)
                        · first | exact absurd c_28 (by decide) | exact absurd (by decide) c_28
                      · first | exact absurd c_27 (by decide) | exact absurd (by decide) c_27
                    · refine lv_icmp_ne (tgt := 119) hx hb dX12_like_106 (by decide) (fun c_29 => ?_) (fun c_29 => ?_)
                      · first | exact absurd c_29 (by decide) | exact absurd (by decide) c_29
                      · refine lv_iload hx hb dX12_like_109 (lv_at hl 0 rfl) ?_
                        refine lv_iconst (v := (nI (2))) hx hb dX12_like_111 (by decide) ?_
                        refine lv_icmp_le (tgt := 119) hx hb dX12_like_112 (by decide) (fun c_30 => ?_) (fun c_30 => ?_)
                        · refine lv_iconst (v := (nI (0))) hx hb dX12_like_119 (by decide) ?_
                          refine lv_istore_n (lv' := [(3, .int (nI (0))), (6, .int (2)), (5, .int (I' 35 (n2))), (4, .int (I' 34 (n2))), (0, .ref (m))]) hx hb dX12_like_120 rfl hl (by decide) rfl (fun ls hl => ?_)
                          refine lv_iload_n hx hb dX12_like_121 rfl (lv_at hl 0 rfl) ?_
                          refine lv_if_eq (tgt := 181) hx hb dX12_like_122 (by decide) (fun c_31 => ?_) (fun c_31 => ?_)
                          · refine lv_iconst (v := (nI (0))) hx hb dX12_like_181 (by decide) ?_
                            refine lv_istore_n (lv' := [(3, .int (nI (0))), (6, .int (2)), (5, .int (I' 35 (n2))), (4, .int (I' 34 (n2))), (0, .ref (m))]) hx hb dX12_like_182 rfl hl (by decide) rfl (fun ls hl => ?_)
                            refine lv_goto (tgt := 40) hx hb dX12_like_183 (by decide) ?_
                            replace hl : lv_has ls 7 [(0, .ref (m)), (3, .int (nI (0)))] := lv_sub hl [4, 0] rfl
                            exact ih _ _ _ _ I' _ n2 _ hW hR ⟨fun j hj => hsI j hj, fun j hj => by rw [rg_upl hj]; exact hs.2 j hj⟩ rfl (by decide) (fun i hi => hsp i (by omega)) hl (rf_mu_pop hn)
                          · first | exact absurd c_31 (by decide) | exact absurd (by decide) c_31
                        · first | exact absurd c_30 (by decide) | exact absurd (by decide) c_30
                    · refine lv_icmp_ne (tgt := 119) hx hb dX12_like_106 (by decide) (fun c_32 => ?_) (fun c_32 => ?_)
                      · refine lv_iconst (v := (nI (0))) hx hb dX12_like_119 (by decide) ?_
                        refine lv_istore_n (lv' := [(3, .int (nI (0))), (6, .int (2)), (5, .int (I' 35 (n2))), (4, .int (I' 34 (n2))), (0, .ref (m))]) hx hb dX12_like_120 rfl hl (by decide) rfl (fun ls hl => ?_)
                        refine lv_iload_n hx hb dX12_like_121 rfl (lv_at hl 0 rfl) ?_
                        refine lv_if_eq (tgt := 181) hx hb dX12_like_122 (by decide) (fun c_33 => ?_) (fun c_33 => ?_)
                        · refine lv_iconst (v := (nI (0))) hx hb dX12_like_181 (by decide) ?_
                          refine lv_istore_n (lv' := [(3, .int (nI (0))), (6, .int (2)), (5, .int (I' 35 (n2))), (4, .int (I' 34 (n2))), (0, .ref (m))]) hx hb dX12_like_182 rfl hl (by decide) rfl (fun ls hl => ?_)
                          refine lv_goto (tgt := 40) hx hb dX12_like_183 (by decide) ?_
                          replace hl : lv_has ls 7 [(0, .ref (m)), (3, .int (nI (0)))] := lv_sub hl [4, 0] rfl
                          exact ih _ _ _ _ I' _ n2 _ hW hR ⟨fun j hj => hsI j hj, fun j hj => by rw [rg_upl hj]; exact hs.2 j hj⟩ rfl (by decide) (fun i hi => hsp i (by omega)) hl (rf_mu_pop hn)
                        · first | exact absurd c_33 (by decide) | exact absurd (by decide) c_33
                      · first | exact absurd c_32 (by decide) | exact absurd (by decide) c_32
                    · refine lv_icmp_ne (tgt := 119) hx hb dX12_like_106 (by decide) (fun c_34 => ?_) (fun c_34 => ?_)
                      · refine lv_iconst (v := (nI (0))) hx hb dX12_like_119 (by decide) ?_
                        refine lv_istore_n (lv' := [(3, .int (nI (0))), (6, .int (2)), (5, .int (I' 35 (n2))), (4, .int (I' 34 (n2))), (0, .ref (m))]) hx hb dX12_like_120 rfl hl (by decide) rfl (fun ls hl => ?_)
                        refine lv_iload_n hx hb dX12_like_121 rfl (lv_at hl 0 rfl) ?_
                        refine lv_if_eq (tgt := 181) hx hb dX12_like_122 (by decide) (fun c_35 => ?_) (fun c_35 => ?_)
                        · refine lv_iconst (v := (nI (0))) hx hb dX12_like_181 (by decide) ?_
                          refine lv_istore_n (lv' := [(3, .int (nI (0))), (6, .int (2)), (5, .int (I' 35 (n2))), (4, .int (I' 34 (n2))), (0, .ref (m))]) hx hb dX12_like_182 rfl hl (by decide) rfl (fun ls hl => ?_)
                          refine lv_goto (tgt := 40) hx hb dX12_like_183 (by decide) ?_
                          replace hl : lv_has ls 7 [(0, .ref (m)), (3, .int (nI (0)))] := lv_sub hl [4, 0] rfl
                          exact ih _ _ _ _ I' _ n2 _ hW hR ⟨fun j hj => hsI j hj, fun j hj => by rw [rg_upl hj]; exact hs.2 j hj⟩ rfl (by decide) (fun i hi => hsp i (by omega)) hl (rf_mu_pop hn)
                        · first | exact absurd c_35 (by decide) | exact absurd (by decide) c_35
                      · first | exact absurd c_34 (by decide) | exact absurd (by decide) c_34
                  · rcases hp2 with ⟨_, rfl⟩ | ⟨_, rfl | rfl⟩ | ⟨hp2, rfl⟩ | ⟨hp2, rfl⟩
                    · refine lv_icmp_ne (tgt := 119) hx hb dX12_like_106 (by decide) (fun c_36 => ?_) (fun c_36 => ?_)
                      · refine lv_iconst (v := (nI (0))) hx hb dX12_like_119 (by decide) ?_
                        refine lv_istore_n (lv' := [(3, .int (nI (0))), (6, .int (3)), (5, .int (I' 35 (n2))), (4, .int (I' 34 (n2))), (0, .ref (m))]) hx hb dX12_like_120 rfl hl (by decide) rfl (fun ls hl => ?_)
                        refine lv_iload_n hx hb dX12_like_121 rfl (lv_at hl 0 rfl) ?_
                        refine lv_if_eq (tgt := 181) hx hb dX12_like_122 (by decide) (fun c_37 => ?_) (fun c_37 => ?_)
                        · refine lv_iconst (v := (nI (0))) hx hb dX12_like_181 (by decide) ?_
                          refine lv_istore_n (lv' := [(3, .int (nI (0))), (6, .int (3)), (5, .int (I' 35 (n2))), (4, .int (I' 34 (n2))), (0, .ref (m))]) hx hb dX12_like_182 rfl hl (by decide) rfl (fun ls hl => ?_)
                          refine lv_goto (tgt := 40) hx hb dX12_like_183 (by decide) ?_
                          replace hl : lv_has ls 7 [(0, .ref (m)), (3, .int (nI (0)))] := lv_sub hl [4, 0] rfl
                          exact ih _ _ _ _ I' _ n2 _ hW hR ⟨fun j hj => hsI j hj, fun j hj => by rw [rg_upl hj]; exact hs.2 j hj⟩ rfl (by decide) (fun i hi => hsp i (by omega)) hl (rf_mu_pop hn)
                        · first | exact absurd c_37 (by decide) | exact absurd (by decide) c_37
                      · first | exact absurd c_36 (by decide) | exact absurd (by decide) c_36
                    · refine lv_icmp_ne (tgt := 119) hx hb dX12_like_106 (by decide) (fun c_38 => ?_) (fun c_38 => ?_)
                      · refine lv_iconst (v := (nI (0))) hx hb dX12_like_119 (by decide) ?_
                        refine lv_istore_n (lv' := [(3, .int (nI (0))), (6, .int (3)), (5, .int (I' 35 (n2))), (4, .int (I' 34 (n2))), (0, .ref (m))]) hx hb dX12_like_120 rfl hl (by decide) rfl (fun ls hl => ?_)
                        refine lv_iload_n hx hb dX12_like_121 rfl (lv_at hl 0 rfl) ?_
                        refine lv_if_eq (tgt := 181) hx hb dX12_like_122 (by decide) (fun c_39 => ?_) (fun c_39 => ?_)
                        · refine lv_iconst (v := (nI (0))) hx hb dX12_like_181 (by decide) ?_
                          refine lv_istore_n (lv' := [(3, .int (nI (0))), (6, .int (3)), (5, .int (I' 35 (n2))), (4, .int (I' 34 (n2))), (0, .ref (m))]) hx hb dX12_like_182 rfl hl (by decide) rfl (fun ls hl => ?_)
                          refine lv_goto (tgt := 40) hx hb dX12_like_183 (by decide) ?_
                          replace hl : lv_has ls 7 [(0, .ref (m)), (3, .int (nI (0)))] := lv_sub hl [4, 0] rfl
                          exact ih _ _ _ _ I' _ n2 _ hW hR ⟨fun j hj => hsI j hj, fun j hj => by rw [rg_upl hj]; exact hs.2 j hj⟩ rfl (by decide) (fun i hi => hsp i (by omega)) hl (rf_mu_pop hn)
                        · first | exact absurd c_39 (by decide) | exact absurd (by decide) c_39
                      · first | exact absurd c_38 (by decide) | exact absurd (by decide) c_38
                    · refine lv_icmp_ne (tgt := 119) hx hb dX12_like_106 (by decide) (fun c_40 => ?_) (fun c_40 => ?_)
                      · refine lv_iconst (v := (nI (0))) hx hb dX12_like_119 (by decide) ?_
                        refine lv_istore_n (lv' := [(3, .int (nI (0))), (6, .int (3)), (5, .int (I' 35 (n2))), (4, .int (I' 34 (n2))), (0, .ref (m))]) hx hb dX12_like_120 rfl hl (by decide) rfl (fun ls hl => ?_)
                        refine lv_iload_n hx hb dX12_like_121 rfl (lv_at hl 0 rfl) ?_
                        refine lv_if_eq (tgt := 181) hx hb dX12_like_122 (by decide) (fun c_41 => ?_) (fun c_41 => ?_)
                        · refine lv_iconst (v := (nI (0))) hx hb dX12_like_181 (by decide) ?_
                          refine lv_istore_n (lv' := [(3, .int (nI (0))), (6, .int (3)), (5, .int (I' 35 (n2))), (4, .int (I' 34 (n2))), (0, .ref (m))]) hx hb dX12_like_182 rfl hl (by decide) rfl (fun ls hl => ?_)
                          refine lv_goto (tgt := 40) hx hb dX12_like_183 (by decide) ?_
                          replace hl : lv_has ls 7 [(0, .ref (m)), (3, .int (nI (0)))] := lv_sub hl [4, 0] rfl
                          exact ih _ _ _ _ I' _ n2 _ hW hR ⟨fun j hj => hsI j hj, fun j hj => by rw [rg_upl hj]; exact hs.2 j hj⟩ rfl (by decide) (fun i hi => hsp i (by omega)) hl (rf_mu_pop hn)
                        · first | exact absurd c_41 (by decide) | exact absurd (by decide) c_41
                      · first | exact absurd c_40 (by decide) | exact absurd (by decide) c_40
                    · obtain ⟨k1, hk1, he1⟩ := hp1
                      obtain ⟨k2, hk2, he2⟩ := hp2
                      rw [he1, he2] at hl
                      refine lv_icmp_ne (tgt := 119) hx hb dX12_like_106 (by decide) (fun c_42 => ?_) (fun c_42 => ?_)
                      · first | exact absurd c_42 (by decide) | exact absurd (by decide) c_42
                      · refine lv_iload hx hb dX12_like_109 (lv_at hl 0 rfl) ?_
                        refine lv_iconst (v := (nI (2))) hx hb dX12_like_111 (by decide) ?_
                        refine lv_icmp_le (tgt := 119) hx hb dX12_like_112 (by decide) (fun c_43 => ?_) (fun c_43 => ?_)
                        · first | exact absurd c_43 (by decide) | exact absurd (by decide) c_43
                        · refine lv_iconst (v := (nI (1))) hx hb dX12_like_115 (by decide) ?_
                          refine lv_goto (tgt := 120) hx hb dX12_like_116 (by decide) ?_
                          refine lv_istore_n (lv' := [(3, .int (nI (1))), (6, .int (3)), (5, .int (nI (100 + k2))), (4, .int (nI (100 + k1))), (0, .ref (m))]) hx hb dX12_like_120 rfl hl (by decide) rfl (fun ls hl => ?_)
                          refine lv_iload_n hx hb dX12_like_121 rfl (lv_at hl 0 rfl) ?_
                          refine lv_if_eq (tgt := 181) hx hb dX12_like_122 (by decide) (fun c_44 => ?_) (fun c_44 => ?_)
                          · first | exact absurd c_44 (by decide) | exact absurd (by decide) c_44
                          · refine lv_iload hx hb dX12_like_125 (lv_at hl 1 rfl) ?_
                            refine lv_iconst (v := (nI (3))) hx hb dX12_like_127 (by decide) ?_
                            refine lv_icmp_ne (tgt := 151) hx hb dX12_like_128 (by decide) (fun c_45 => ?_) (fun c_45 => ?_)
                            · first | exact absurd c_45 (by decide) | exact absurd (by decide) c_45
                            · refine lv_aload_n hx hb dX12_like_131 rfl (lv_at hl 4 rfl) ?_
                              refine lv_iload hx hb dX12_like_132 (lv_at hl 3 rfl) ?_
                              refine lv_bipush (v := (nI (100))) hx hb dX12_like_134 (by decide) ?_
                              refine lv_isub hx hb dX12_like_136 ?_
                              refine rl_topn (rg_sub (c := k1) (by omega)) ?_
                              refine lv_iload hx hb dX12_like_137 (lv_at hl 2 rfl) ?_
                              refine lv_bipush (v := (nI (100))) hx hb dX12_like_139 (by decide) ?_
                              refine lv_isub hx hb dX12_like_141 ?_
                              refine rl_topn (rg_sub (c := k2) (by omega)) ?_
                              refine rl_calliQ (rl_runV (b := m) (As := [.int (nI (k1)), .int (nI (k2))]) (rest := []) hC hW (cR_rowsLike l D t A _ z m I' L _ hR ρ (by omega) hVw' k1 k2 hk1 hk2) cs_X12_213 im_X12_rowsLike sl_X12_rowsLike hR.1 rfl ⟨(Nat.le_of_ble_eq_true rfl), (Nat.le_of_ble_eq_true rfl)⟩ rfl hl.1 rfl (Nat.le_of_ble_eq_true rfl) dX12_like_142 ⟨(Nat.le_of_ble_eq_true rfl), (Nat.le_of_ble_eq_true rfl)⟩) hW (fun r f1 H locs hp hW => ?_)
                              obtain ⟨rfl, hp⟩ := hp
                              rcases hp with rfl | rfl
                              · refine lv_if_eq (tgt := 181) hx hb dX12_like_145 (by decide) (fun c_46 => ?_) (fun c_46 => ?_)
                                · refine lv_iconst (v := (nI (0))) hx hb dX12_like_181 (by decide) ?_
                                  refine lv_istore_n (lv' := [(3, .int (nI (0))), (6, .int (3)), (5, .int (nI (100 + k2))), (4, .int (nI (100 + k1))), (0, .ref (m))]) hx hb dX12_like_182 rfl hl (by decide) rfl (fun ls hl => ?_)
                                  refine lv_goto (tgt := 40) hx hb dX12_like_183 (by decide) ?_
                                  replace hl : lv_has ls 7 [(0, .ref (m)), (3, .int (nI (0)))] := lv_sub hl [4, 0] rfl
                                  exact ih _ _ _ _ I' _ n2 _ hW hR ⟨fun j hj => hsI j hj, fun j hj => by rw [rg_upl hj]; exact hs.2 j hj⟩ rfl (by decide) (fun i hi => hsp i (by omega)) hl (rf_mu_pop hn)
                                · first | exact absurd c_46 (by decide) | exact absurd (by decide) c_46
                              · refine lv_if_eq (tgt := 181) hx hb dX12_like_145 (by decide) (fun c_47 => ?_) (fun c_47 => ?_)
                                · first | exact absurd c_47 (by decide) | exact absurd (by decide) c_47
                                · refine lv_goto (tgt := 177) hx hb dX12_like_148 (by decide) ?_
                                  refine lv_iconst (v := (nI (1))) hx hb dX12_like_177 (by decide) ?_
                                  refine lv_goto (tgt := 182) hx hb dX12_like_178 (by decide) ?_
                                  refine lv_istore_n (lv' := [(3, .int (nI (1))), (6, .int (3)), (5, .int (nI (100 + k2))), (4, .int (nI (100 + k1))), (0, .ref (m))]) hx hb dX12_like_182 rfl hl (by decide) rfl (fun ls hl => ?_)
                                  refine lv_goto (tgt := 40) hx hb dX12_like_183 (by decide) ?_
                                  replace hl : lv_has ls 7 [(0, .ref (m)), (3, .int (nI (1)))] := lv_sub hl [4, 0] rfl
                                  exact ih _ _ _ _ I' _ n2 _ hW hR ⟨fun j hj => hsI j hj, fun j hj => by rw [rg_upl hj]; exact hs.2 j hj⟩ rfl (by decide) (fun i hi => hsp i (by omega)) hl (rf_mu_pop hn)
                    · refine lv_icmp_ne (tgt := 119) hx hb dX12_like_106 (by decide) (fun c_48 => ?_) (fun c_48 => ?_)
                      · refine lv_iconst (v := (nI (0))) hx hb dX12_like_119 (by decide) ?_
                        refine lv_istore_n (lv' := [(3, .int (nI (0))), (6, .int (3)), (5, .int (I' 35 (n2))), (4, .int (I' 34 (n2))), (0, .ref (m))]) hx hb dX12_like_120 rfl hl (by decide) rfl (fun ls hl => ?_)
                        refine lv_iload_n hx hb dX12_like_121 rfl (lv_at hl 0 rfl) ?_
                        refine lv_if_eq (tgt := 181) hx hb dX12_like_122 (by decide) (fun c_49 => ?_) (fun c_49 => ?_)
                        · refine lv_iconst (v := (nI (0))) hx hb dX12_like_181 (by decide) ?_
                          refine lv_istore_n (lv' := [(3, .int (nI (0))), (6, .int (3)), (5, .int (I' 35 (n2))), (4, .int (I' 34 (n2))), (0, .ref (m))]) hx hb dX12_like_182 rfl hl (by decide) rfl (fun ls hl => ?_)
                          refine lv_goto (tgt := 40) hx hb dX12_like_183 (by decide) ?_
                          replace hl : lv_has ls 7 [(0, .ref (m)), (3, .int (nI (0)))] := lv_sub hl [4, 0] rfl
                          exact ih _ _ _ _ I' _ n2 _ hW hR ⟨fun j hj => hsI j hj, fun j hj => by rw [rg_upl hj]; exact hs.2 j hj⟩ rfl (by decide) (fun i hi => hsp i (by omega)) hl (rf_mu_pop hn)
                        · first | exact absurd c_49 (by decide) | exact absurd (by decide) c_49
                      · first | exact absurd c_48 (by decide) | exact absurd (by decide) c_48
                  · rcases hp2 with ⟨_, rfl⟩ | ⟨_, rfl | rfl⟩ | ⟨hp2, rfl⟩ | ⟨hp2, rfl⟩
                    · refine lv_icmp_ne (tgt := 119) hx hb dX12_like_106 (by decide) (fun c_50 => ?_) (fun c_50 => ?_)
                      · refine lv_iconst (v := (nI (0))) hx hb dX12_like_119 (by decide) ?_
                        refine lv_istore_n (lv' := [(3, .int (nI (0))), (6, .int (4)), (5, .int (I' 35 (n2))), (4, .int (I' 34 (n2))), (0, .ref (m))]) hx hb dX12_like_120 rfl hl (by decide) rfl (fun ls hl => ?_)
                        refine lv_iload_n hx hb dX12_like_121 rfl (lv_at hl 0 rfl) ?_
                        refine lv_if_eq (tgt := 181) hx hb dX12_like_122 (by decide) (fun c_51 => ?_) (fun c_51 => ?_)
                        · refine lv_iconst (v := (nI (0))) hx hb dX12_like_181 (by decide) ?_
                          refine lv_istore_n (lv' := [(3, .int (nI (0))), (6, .int (4)), (5, .int (I' 35 (n2))), (4, .int (I' 34 (n2))), (0, .ref (m))]) hx hb dX12_like_182 rfl hl (by decide) rfl (fun ls hl => ?_)
                          refine lv_goto (tgt := 40) hx hb dX12_like_183 (by decide) ?_
                          replace hl : lv_has ls 7 [(0, .ref (m)), (3, .int (nI (0)))] := lv_sub hl [4, 0] rfl
                          exact ih _ _ _ _ I' _ n2 _ hW hR ⟨fun j hj => hsI j hj, fun j hj => by rw [rg_upl hj]; exact hs.2 j hj⟩ rfl (by decide) (fun i hi => hsp i (by omega)) hl (rf_mu_pop hn)
                        · first | exact absurd c_51 (by decide) | exact absurd (by decide) c_51
                      · first | exact absurd c_50 (by decide) | exact absurd (by decide) c_50
                    · refine lv_icmp_ne (tgt := 119) hx hb dX12_like_106 (by decide) (fun c_52 => ?_) (fun c_52 => ?_)
                      · refine lv_iconst (v := (nI (0))) hx hb dX12_like_119 (by decide) ?_
                        refine lv_istore_n (lv' := [(3, .int (nI (0))), (6, .int (4)), (5, .int (I' 35 (n2))), (4, .int (I' 34 (n2))), (0, .ref (m))]) hx hb dX12_like_120 rfl hl (by decide) rfl (fun ls hl => ?_)
                        refine lv_iload_n hx hb dX12_like_121 rfl (lv_at hl 0 rfl) ?_
                        refine lv_if_eq (tgt := 181) hx hb dX12_like_122 (by decide) (fun c_53 => ?_) (fun c_53 => ?_)
                        · refine lv_iconst (v := (nI (0))) hx hb dX12_like_181 (by decide) ?_
                          refine lv_istore_n (lv' := [(3, .int (nI (0))), (6, .int (4)), (5, .int (I' 35 (n2))), (4, .int (I' 34 (n2))), (0, .ref (m))]) hx hb dX12_like_182 rfl hl (by decide) rfl (fun ls hl => ?_)
                          refine lv_goto (tgt := 40) hx hb dX12_like_183 (by decide) ?_
                          replace hl : lv_has ls 7 [(0, .ref (m)), (3, .int (nI (0)))] := lv_sub hl [4, 0] rfl
                          exact ih _ _ _ _ I' _ n2 _ hW hR ⟨fun j hj => hsI j hj, fun j hj => by rw [rg_upl hj]; exact hs.2 j hj⟩ rfl (by decide) (fun i hi => hsp i (by omega)) hl (rf_mu_pop hn)
                        · first | exact absurd c_53 (by decide) | exact absurd (by decide) c_53
                      · first | exact absurd c_52 (by decide) | exact absurd (by decide) c_52
                    · refine lv_icmp_ne (tgt := 119) hx hb dX12_like_106 (by decide) (fun c_54 => ?_) (fun c_54 => ?_)
                      · refine lv_iconst (v := (nI (0))) hx hb dX12_like_119 (by decide) ?_
                        refine lv_istore_n (lv' := [(3, .int (nI (0))), (6, .int (4)), (5, .int (I' 35 (n2))), (4, .int (I' 34 (n2))), (0, .ref (m))]) hx hb dX12_like_120 rfl hl (by decide) rfl (fun ls hl => ?_)
                        refine lv_iload_n hx hb dX12_like_121 rfl (lv_at hl 0 rfl) ?_
                        refine lv_if_eq (tgt := 181) hx hb dX12_like_122 (by decide) (fun c_55 => ?_) (fun c_55 => ?_)
                        · refine lv_iconst (v := (nI (0))) hx hb dX12_like_181 (by decide) ?_
                          refine lv_istore_n (lv' := [(3, .int (nI (0))), (6, .int (4)), (5, .int (I' 35 (n2))), (4, .int (I' 34 (n2))), (0, .ref (m))]) hx hb dX12_like_182 rfl hl (by decide) rfl (fun ls hl => ?_)
                          refine lv_goto (tgt := 40) hx hb dX12_like_183 (by decide) ?_
                          replace hl : lv_has ls 7 [(0, .ref (m)), (3, .int (nI (0)))] := lv_sub hl [4, 0] rfl
                          exact ih _ _ _ _ I' _ n2 _ hW hR ⟨fun j hj => hsI j hj, fun j hj => by rw [rg_upl hj]; exact hs.2 j hj⟩ rfl (by decide) (fun i hi => hsp i (by omega)) hl (rf_mu_pop hn)
                        · first | exact absurd c_55 (by decide) | exact absurd (by decide) c_55
                      · first | exact absurd c_54 (by decide) | exact absurd (by decide) c_54
                    · refine lv_icmp_ne (tgt := 119) hx hb dX12_like_106 (by decide) (fun c_56 => ?_) (fun c_56 => ?_)
                      · refine lv_iconst (v := (nI (0))) hx hb dX12_like_119 (by decide) ?_
                        refine lv_istore_n (lv' := [(3, .int (nI (0))), (6, .int (4)), (5, .int (I' 35 (n2))), (4, .int (I' 34 (n2))), (0, .ref (m))]) hx hb dX12_like_120 rfl hl (by decide) rfl (fun ls hl => ?_)
                        refine lv_iload_n hx hb dX12_like_121 rfl (lv_at hl 0 rfl) ?_
                        refine lv_if_eq (tgt := 181) hx hb dX12_like_122 (by decide) (fun c_57 => ?_) (fun c_57 => ?_)
                        · refine lv_iconst (v := (nI (0))) hx hb dX12_like_181 (by decide) ?_
                          refine lv_istore_n (lv' := [(3, .int (nI (0))), (6, .int (4)), (5, .int (I' 35 (n2))), (4, .int (I' 34 (n2))), (0, .ref (m))]) hx hb dX12_like_182 rfl hl (by decide) rfl (fun ls hl => ?_)
                          refine lv_goto (tgt := 40) hx hb dX12_like_183 (by decide) ?_
                          replace hl : lv_has ls 7 [(0, .ref (m)), (3, .int (nI (0)))] := lv_sub hl [4, 0] rfl
                          exact ih _ _ _ _ I' _ n2 _ hW hR ⟨fun j hj => hsI j hj, fun j hj => by rw [rg_upl hj]; exact hs.2 j hj⟩ rfl (by decide) (fun i hi => hsp i (by omega)) hl (rf_mu_pop hn)
                        · first | exact absurd c_57 (by decide) | exact absurd (by decide) c_57
                      · first | exact absurd c_56 (by decide) | exact absurd (by decide) c_56
                    · obtain ⟨k1, hk1, he1⟩ := hp1
                      obtain ⟨k2, hk2, he2⟩ := hp2
                      rw [he1, he2] at hl
                      refine lv_icmp_ne (tgt := 119) hx hb dX12_like_106 (by decide) (fun c_58 => ?_) (fun c_58 => ?_)
                      · first | exact absurd c_58 (by decide) | exact absurd (by decide) c_58
                      · refine lv_iload hx hb dX12_like_109 (lv_at hl 0 rfl) ?_
                        refine lv_iconst (v := (nI (2))) hx hb dX12_like_111 (by decide) ?_
                        refine lv_icmp_le (tgt := 119) hx hb dX12_like_112 (by decide) (fun c_59 => ?_) (fun c_59 => ?_)
                        · first | exact absurd c_59 (by decide) | exact absurd (by decide) c_59
                        · refine lv_iconst (v := (nI (1))) hx hb dX12_like_115 (by decide) ?_
                          refine lv_goto (tgt := 120) hx hb dX12_like_116 (by decide) ?_
                          refine lv_istore_n (lv' := [(3, .int (nI (1))), (6, .int (4)), (5, .int (nI (1000000 + k2))), (4, .int (nI (1000000 + k1))), (0, .ref (m))]) hx hb dX12_like_120 rfl hl (by decide) rfl (fun ls hl => ?_)
                          refine lv_iload_n hx hb dX12_like_121 rfl (lv_at hl 0 rfl) ?_
                          refine lv_if_eq (tgt := 181) hx hb dX12_like_122 (by decide) (fun c_60 => ?_) (fun c_60 => ?_)
                          · first | exact absurd c_60 (by decide) | exact absurd (by decide) c_60
                          · refine lv_iload hx hb dX12_like_125 (lv_at hl 1 rfl) ?_
                            refine lv_iconst (v := (nI (3))) hx hb dX12_like_127 (by decide) ?_
                            refine lv_icmp_ne (tgt := 151) hx hb dX12_like_128 (by decide) (fun c_61 => ?_) (fun c_61 => ?_)
                            · refine lv_aload_n hx hb dX12_like_151 rfl (lv_at hl 4 rfl) ?_
                              refine lv_iload hx hb dX12_like_152 (lv_at hl 3 rfl) ?_
                              refine lv_ldc (v := nI 1000000) hx hb hC.2.2.2.1 (hC.2.2.2.2.1 _ (List.mem_cons_of_mem _ mw_859)) dX12_like_154 ?_
                              refine lv_isub hx hb dX12_like_156 ?_
                              refine rl_topn (rg_sub (c := k1) (by omega)) ?_
                              refine lv_iload hx hb dX12_like_157 (lv_at hl 2 rfl) ?_
                              refine lv_ldc (v := nI 1000000) hx hb hC.2.2.2.1 (hC.2.2.2.2.1 _ (List.mem_cons_of_mem _ mw_859)) dX12_like_159 ?_
                              refine lv_isub hx hb dX12_like_161 ?_
                              refine rl_topn (rg_sub (c := k2) (by omega)) ?_
                              refine lv_aload_n hx hb dX12_like_162 rfl (lv_at hl 4 rfl) ?_
                              refine rl_get (v := .ref (m + 26)) hC hW fl_X12_94 hR.1 rfl dX12_like_163 ?_
                              refine lv_aload_n hx hb dX12_like_166 rfl (lv_at hl 4 rfl) ?_
                              refine rl_get (v := .int (nI (n2))) hC hW fl_X12_206 hR.1 rfl dX12_like_167 ?_
                              refine rl_iald_n (g := I' 36) hC hW hR.a36 (by omega) (by decide) dX12_like_170 ?_
                              refine rl_topn (hwe) ?_
                              refine rl_calliQ (rl_runV (b := m) (As := [.int (nI (k1)), .int (nI (k2)), .int (nI (w0))]) (rest := []) hC hW (cR_opens l D t A _ z m I' L _ hR T ρ κ (by omega) (by omega) hTp' hVw' hVe' hVp' n2 k1 k2 w0 hk1 hk2 hw6 hw5 rfl (fun i hi => hsp i (by omega))) cs_X12_217 im_X12_opens sl_X12_opens hR.1 rfl ⟨(Nat.le_of_ble_eq_true rfl), (Nat.le_of_ble_eq_true rfl)⟩ rfl hl.1 rfl (Nat.le_of_ble_eq_true rfl) dX12_like_171 ⟨(Nat.le_of_ble_eq_true rfl), (Nat.le_of_ble_eq_true rfl)⟩) hW (fun r f1 H locs hp hW => ?_)
                              obtain ⟨hr01, I2, F2, n3, hR, hs2, h33b, hn3, hsp2, hmu2⟩ := hp
                              rcases hr01 with rfl | rfl
                              · refine lv_if_eq (tgt := 181) hx hb dX12_like_174 (by decide) (fun c_62 => ?_) (fun c_62 => ?_)
                                · refine lv_iconst (v := (nI (0))) hx hb dX12_like_181 (by decide) ?_
                                  refine lv_istore_n (lv' := [(3, .int (nI (0))), (6, .int (4)), (5, .int (nI (1000000 + k2))), (4, .int (nI (1000000 + k1))), (0, .ref (m))]) hx hb dX12_like_182 rfl hl (by decide) rfl (fun ls hl => ?_)
                                  refine lv_goto (tgt := 40) hx hb dX12_like_183 (by decide) ?_
                                  replace hl : lv_has ls 7 [(0, .ref (m)), (3, .int (nI (0)))] := lv_sub hl [4, 0] rfl
                                  exact rf_lk hw6 hwe hmu2 hn (fun hm => ih _ _ _ _ I2 F2 n3 _ hW hR ⟨fun j hj => by rw [hs2.1 j hj]; exact hsI j hj, fun j hj => by rw [hs2.2 j hj, rg_upl hj]; exact hs.2 j hj⟩ h33b (by decide) hsp2 hl hm)
                                · first | exact absurd c_62 (by decide) | exact absurd (by decide) c_62
                              · refine lv_if_eq (tgt := 181) hx hb dX12_like_174 (by decide) (fun c_63 => ?_) (fun c_63 => ?_)
                                · first | exact absurd c_63 (by decide) | exact absurd (by decide) c_63
                                · refine lv_iconst (v := (nI (1))) hx hb dX12_like_177 (by decide) ?_
                                  refine lv_goto (tgt := 182) hx hb dX12_like_178 (by decide) ?_
                                  refine lv_istore_n (lv' := [(3, .int (nI (1))), (6, .int (4)), (5, .int (nI (1000000 + k2))), (4, .int (nI (1000000 + k1))), (0, .ref (m))]) hx hb dX12_like_182 rfl hl (by decide) rfl (fun ls hl => ?_)
                                  refine lv_goto (tgt := 40) hx hb dX12_like_183 (by decide) ?_
                                  replace hl : lv_has ls 7 [(0, .ref (m)), (3, .int (nI (1)))] := lv_sub hl [4, 0] rfl
                                  exact rf_lk hw6 hwe hmu2 hn (fun hm => ih _ _ _ _ I2 F2 n3 _ hW hR ⟨fun j hj => by rw [hs2.1 j hj]; exact hsI j hj, fun j hj => by rw [hs2.2 j hj, rg_upl hj]; exact hs.2 j hj⟩ h33b (by decide) hsp2 hl hm)
                            · first | exact absurd c_61 (by decide) | exact absurd (by decide) c_61
        · exact absurd c9 (by decide)
      · have hq := hp
        refine lv_if_ne (tgt := 16) hx hb dX12_like_11 (by decide) (fun c9 => ?_) (fun c9 => ?_)
        · exact absurd rfl c9
        · refine lv_iconst (v := (-1)) hx hb dX12_like_14 (by decide) ?_
          exact rl_iret hC hW hr hlk (Nat.le_refl _) (Nat.le_refl _) ⟨_, rfl, rfl, rfl, ρ, κ, by omega, by omega, ⟨_, _, _, lv', hR, hTc, hTp, hTk, hVw, hVe, hVp, hF11, hF14, hF22, hlv⟩⟩ dX12_like_15
  · have hq := hp
    refine lv_if_eq (tgt := 14) hx hb dX12_like_4 (by decide) (fun c9 => ?_) (fun c9 => ?_)
    · refine lv_iconst (v := (-1)) hx hb dX12_like_14 (by decide) ?_
      exact rl_iret hC hW hr hlk (Nat.le_refl _) (Nat.le_refl _) ⟨_, rfl, rfl, rfl, ρ, κ, by omega, by omega, ⟨_, _, _, lv', hR, hTc, hTp, hTk, hVw, hVe, hVp, hF11, hF14, hF22, hlv⟩⟩ dX12_like_15
    · exact absurd rfl c9
