
section LKL
variable {G : pG} {k a b : Nat} {x y : pHd}
theorem lk_eq (h : x = y) : pu_lk G k x y := by cases k <;> exact Or.inl h
theorem lk_row (h : hrow a ≠ hrow b) : pu_lk G k (hrow a) (hrow b) ↔ pu_rl G a b := by
  cases k with
  | zero =>
    constructor
    · rintro (q | ⟨a', b', e1, e2, q⟩)
      · exact absurd q h
      · cases e1; cases e2; exact q
    · exact fun q => Or.inr ⟨a, b, rfl, rfl, q⟩
  | succ k =>
    constructor
    · rintro (q | ⟨a', b', e1, e2, q⟩ | ⟨a', b', e1, -⟩)
      · exact absurd q h
      · cases e1; cases e2; exact q
      · cases e1
    · exact fun q => Or.inr (Or.inl ⟨a, b, rfl, rfl, q⟩)
theorem lk_rec (h : hrec a ≠ hrec b) : pu_lk G k (hrec a) (hrec b) ↔ 1 ≤ k ∧ pu_op G a b ∧ ∀ p, p < G.1 2 a → pu_lk G (k - 1) (G.2.2.2 1 (5 * a + p)) (G.2.2.2 1 (5 * b + p)) := by
  cases k with
  | zero =>
    constructor
    · rintro (q | ⟨a', b', e1, -⟩)
      · exact absurd q h
      · cases e1
    · intro q; omega
  | succ k =>
    constructor
    · rintro (q | ⟨a', b', e1, -⟩ | ⟨a', b', e1, e2, q⟩)
      · exact absurd q h
      · cases e1
      · cases e1; cases e2; exact ⟨by omega, q⟩
    · exact fun q => Or.inr (Or.inr ⟨a, b, rfl, rfl, q.2⟩)
theorem lk_no (h : x ≠ y) (h1 : ∀ a b, x = hrow a → y = hrow b → False) (h2 : ∀ a b, x = hrec a → y = hrec b → False) : ¬ pu_lk G k x y := by
  cases k with
  | zero =>
    rintro (q | ⟨a', b', e1, e2, q⟩)
    · exact h q
    · exact h1 _ _ e1 e2
  | succ k =>
    rintro (q | ⟨a', b', e1, e2, q⟩ | ⟨a', b', e1, e2, q⟩)
    · exact h q
    · exact h1 _ _ e1 e2
    · exact h2 _ _ e1 e2
end LKL
theorem hst_0 {s : Nat} {h : pHd} (q : hst s h) (hs : s < 2) : h = none := by
  rcases h with _ | n | n | n
  · rfl
  · replace q : s = 2 := q; omega
  · replace q : s = 4 := q; omega
  · replace q : s = 3 := q; omega
def rf_sp (ρ κ n : Nat) (PA PB : Nat → pHd) (PW : Nat → Nat) (a34 a35 a36 : Nat → Int32) : Prop := ∀ i, i < n → a34 i = enc (PA i) ∧ hok ρ κ (PA i) ∧ a35 i = enc (PB i) ∧ hok ρ κ (PB i) ∧ a36 i = nI (PW i) ∧ PW i ≤ 6 ∧ i ≤ 5 * PW i
def rf_sc (G : pG) (n : Nat) (PA PB : Nat → pHd) (PW : Nat → Nat) : Prop := ∀ i, i < n → pu_lk G (6 - PW i) (PA i) (PB i)
def rf_mu (a36 : Nat → Int32) : Nat → Nat
  | 0 => 0
  | n + 1 => rf_mu a36 n + 6 ^ (7 - (a36 n).toNatClampNeg)
theorem rf_mu_eq {a b : Nat → Int32} : ∀ {n : Nat}, (∀ i, i < n → a i = b i) → rf_mu a n = rf_mu b n
  | 0, _ => rfl
  | n + 1, h => by
    show rf_mu a n + _ = rf_mu b n + _
    rw [rf_mu_eq (fun i hi => h i (by omega)), h n (by omega)]
theorem rf_sp.push {ρ κ n w : Nat} {PA PB : Nat → pHd} {PW : Nat → Nat} {a34 a35 a36 : Nat → Int32} {x y : pHd} {x' y' : Int32} (h : rf_sp ρ κ n PA PB PW a34 a35 a36) (ex : x' = enc x) (ey : y' = enc y) (hx : hok ρ κ x) (hy : hok ρ κ y) (hw : w ≤ 6) (hn : n ≤ 5 * w) : rf_sp ρ κ (n + 1) (va_up PA n x) (va_up PB n y) (va_up PW n w) (upd a34 n x') (upd a35 n y') (upd a36 n (nI w)) := by
  intro i hi
  by_cases he : i = n
  · subst he
    rw [rg_ups, rg_ups, rg_ups, va_up_s, va_up_s, va_up_s]
    exact ⟨ex, hx, ey, hy, rfl, hw, hn⟩
  · rw [rg_upl he, rg_upl he, rg_upl he, va_up_n _ _ he, va_up_n _ _ he, va_up_n _ _ he]
    exact h i (by omega)
theorem rf_sc.push {G : pG} {n w : Nat} {PA PB : Nat → pHd} {PW : Nat → Nat} {x y : pHd} : rf_sc G (n + 1) (va_up PA n x) (va_up PB n y) (va_up PW n w) ↔ rf_sc G n PA PB PW ∧ pu_lk G (6 - w) x y := by
  constructor
  · intro h
    refine ⟨fun i hi => ?_, ?_⟩
    · have := h i (by omega)
      rw [va_up_n _ _ (by omega), va_up_n _ _ (by omega), va_up_n _ _ (by omega)] at this
      exact this
    · have := h n (by omega)
      rw [va_up_s, va_up_s, va_up_s] at this
      exact this
  · rintro ⟨h1, h2⟩ i hi
    by_cases he : i = n
    · subst he
      rw [va_up_s, va_up_s, va_up_s]
      exact h2
    · rw [va_up_n _ _ he, va_up_n _ _ he, va_up_n _ _ he]
      exact h1 i (by omega)
theorem rf_sc.pop {G : pG} {n : Nat} {PA PB : Nat → pHd} {PW : Nat → Nat} : rf_sc G (n + 1) PA PB PW ↔ rf_sc G n PA PB PW ∧ pu_lk G (6 - PW n) (PA n) (PB n) := by
  constructor
  · exact fun h => ⟨fun i hi => h i (by omega), h n (by omega)⟩
  · rintro ⟨h1, h2⟩ i hi
    rcases Nat.lt_succ_iff_lt_or_eq.mp hi with q | rfl
    · exact h1 i q
    · exact h2
theorem rf_mu.push {n w : Nat} {a36 : Nat → Int32} (hw : w ≤ 6) : rf_mu (upd a36 n (nI w)) (n + 1) = rf_mu a36 n + 6 ^ (7 - w) := by
  show rf_mu _ n + _ = _
  rw [rf_mu_eq (b := a36) (fun i hi => rg_upl (by omega)), rg_ups, nI_clamp (by omega)]
/-- only the pairs' arrays and their number may differ -/
def rf_s36 (I I' : Nat → Nat → Int32) (F F' : Nat → Int32) : Prop := (∀ j, j < 34 ∨ 36 < j → I' j = I j) ∧ ∀ j, j ≠ 33 → F' j = F j

set_option maxHeartbeats 4000000 in
set_option maxRecDepth 100000 in
theorem cR_pair (l : Launch) (D : va_G) (t : Nat → ClassId) (A : Nat → Prop) (f : rl_M) (z : Nat) (m : Nat) (I : Nat → Nat → Int32) (L : Nat → Nat → Int64) (F : Nat → Int32) (hR : RM t f m I L F) (n0 : Nat) (hn0 : n0 < 40) (hF33 : F 33 = nI n0) (x y : Int32) (w0 : Nat) : rl_Met l yX12_pair (.code yX12_pair cX12_pair 4 none) (rl_rm 0 0 0) D t A f z [.ref (m), .int (x), .int (y), .int (nI (w0))] (rl_qv z fun f1 => RM t f1 m (va_up (va_up (va_up I 34 (upd (I 34) n0 x)) 35 (upd (I 35) n0 y)) 36 (upd (I 36) n0 (nI w0))) L (upd F 33 (nI (n0 + 1)))) := by
  refine rl_begin (own := RX12) (lv := [(0, .ref (m)), (1, .int (x)), (2, .int (y)), (3, .int (nI (w0)))]) (by decide +kernel) rfl (Nat.le_of_ble_eq_true rfl) rfl fun p e s m0 args below meth c ls H locs hC hr hlk hnm hW hl hx hb => ?_
  refine lv_aload_n hx hb dX12_pair_0 rfl (lv_at hl 0 rfl) ?_
  refine rl_get (v := .ref (m + 24)) hC hW fl_X12_88 hR.1 rfl dX12_pair_1 ?_
  refine lv_aload_n hx hb dX12_pair_4 rfl (lv_at hl 0 rfl) ?_
  refine rl_get (v := .int (F 33)) hC hW fl_X12_206 hR.1 rfl dX12_pair_5 ?_
  refine rl_topn (y := nI (n0)) (hF33) ?_
  refine lv_iload_n hx hb dX12_pair_8 rfl (lv_at hl 1 rfl) ?_
  refine rl_iast_n (g := I 34) hC hW hR.a34 (by omega) (by decide) dX12_pair_9 (fun H locs hW => ?_)
  have hR := hR.s34 (upd (I 34) (n0) ((x)))
  refine lv_aload_n hx hb dX12_pair_10 rfl (lv_at hl 0 rfl) ?_
  refine rl_get (v := .ref (m + 25)) hC hW fl_X12_91 hR.1 rfl dX12_pair_11 ?_
  refine lv_aload_n hx hb dX12_pair_14 rfl (lv_at hl 0 rfl) ?_
  refine rl_get (v := .int (F 33)) hC hW fl_X12_206 hR.1 rfl dX12_pair_15 ?_
  refine rl_topn (y := nI (n0)) (hF33) ?_
  refine lv_iload_n hx hb dX12_pair_18 rfl (lv_at hl 2 rfl) ?_
  refine rl_iast_n (g := I 35) hC hW hR.a35 (by omega) (by decide) dX12_pair_19 (fun H locs hW => ?_)
  have hR := hR.s35 (upd (I 35) (n0) ((y)))
  refine lv_aload_n hx hb dX12_pair_20 rfl (lv_at hl 0 rfl) ?_
  refine rl_get (v := .ref (m + 26)) hC hW fl_X12_94 hR.1 rfl dX12_pair_21 ?_
  refine lv_aload_n hx hb dX12_pair_24 rfl (lv_at hl 0 rfl) ?_
  refine rl_get (v := .int (F 33)) hC hW fl_X12_206 hR.1 rfl dX12_pair_25 ?_
  refine rl_topn (y := nI (n0)) (hF33) ?_
  refine lv_iload_n hx hb dX12_pair_28 rfl (lv_at hl 3 rfl) ?_
  refine rl_iast_n (g := I 36) hC hW hR.a36 (by omega) (by decide) dX12_pair_29 (fun H locs hW => ?_)
  have hR := hR.s36 (upd (I 36) (n0) ((nI (w0))))
  refine lv_aload_n hx hb dX12_pair_30 rfl (lv_at hl 0 rfl) ?_
  refine lv_dup hx hb dX12_pair_31 rfl ?_
  refine rl_get (v := .int (F 33)) hC hW fl_X12_206 hR.1 rfl dX12_pair_32 ?_
  refine rl_topn (y := nI (n0)) (hF33) ?_
  refine lv_iconst (v := (nI (1))) hx hb dX12_pair_35 (by decide) ?_
  refine lv_iadd hx hb dX12_pair_36 ?_
  refine rl_topn (nI_add _ _) ?_
  refine rl_put (v := .int (nI ((n0) + (1)))) hC hW fp_X12_206 hR.1 (Nat.le_of_ble_eq_true rfl) rfl rfl dX12_pair_37 (fun H locs hW => ?_)
  have hR := hR.f33 (nI ((n0) + (1)))
  exact rl_vret hC hW hr hlk (Nat.le_refl _) (Nat.le_refl _) ⟨rfl, rfl, rfl, hR⟩ dX12_pair_40

set_option maxHeartbeats 4000000 in
set_option maxRecDepth 100000 in
theorem cR_rowsLike (l : Launch) (D : va_G) (t : Nat → ClassId) (A : Nat → Prop) (f : rl_M) (z : Nat) (m : Nat) (I : Nat → Nat → Int32) (L : Nat → Nat → Int64) (F : Nat → Int32) (hR : RM t f m I L F) (T : Nat → Nat → Nat) (ρ κ : Nat) (G : pG) (hρ : ρ ≤ 43100) (hGW : GW T ρ κ G) (hGr : RGr ρ G (I 12) (I 13)) (a bb : Nat) (ha : a < ρ) (hbb : bb < ρ) : rl_Met l yX12_rowsLike (.code yX12_rowsLike cX12_rowsLike 5 (some FieldType.boolean)) (rl_rm 0 0 0) D t A f z [.ref (m), .int (nI (a)), .int (nI (bb))] (rl_qi z fun r f1 => f = f1 ∧ ((r = 1 ∧ pu_rl G a bb) ∨ (r = 0 ∧ ¬ pu_rl G a bb))) := by
  refine rl_begin (own := RX12) (lv := [(0, .ref (m)), (1, .int (nI (a))), (2, .int (nI (bb)))]) (by decide +kernel) rfl (Nat.le_of_ble_eq_true rfl) rfl fun p e s m0 args below meth c ls H locs hC hr hlk hnm hW hl hx hb => ?_
  have ea := hGr.1 a ha
  have eb := hGr.1 bb hbb
  have hca := hGW.1 a ha
  have hcb := hGW.1 bb hbb
  refine lv_aload_n hx hb dX12_rowsLike_0 rfl (lv_at hl 0 rfl) ?_
  refine rl_get (v := .ref (m + 12)) hC hW fl_X12_45 hR.1 rfl dX12_rowsLike_1 ?_
  refine lv_iload_n hx hb dX12_rowsLike_4 rfl (lv_at hl 1 rfl) ?_
  refine rl_iald_n (g := I 12) hC hW hR.a12 (by omega) (by decide) dX12_rowsLike_5 ?_
  refine lv_aload_n hx hb dX12_rowsLike_6 rfl (lv_at hl 0 rfl) ?_
  refine rl_get (v := .ref (m + 12)) hC hW fl_X12_45 hR.1 rfl dX12_rowsLike_7 ?_
  refine lv_iload_n hx hb dX12_rowsLike_10 rfl (lv_at hl 2 rfl) ?_
  refine rl_iald_n (g := I 12) hC hW hR.a12 (by omega) (by decide) dX12_rowsLike_11 ?_
  refine lv_icmp_ne (tgt := 19) hx hb dX12_rowsLike_12 (by decide) (fun c0 => ?_) (fun c0 => ?_)
  · have hsz : ¬ G.1 0 a = G.1 0 bb := fun q => c0 (by rw [ea, eb, q])
    refine lv_iconst (v := (nI (0))) hx hb dX12_rowsLike_19 (by decide) ?_
    refine lv_istore_n (lv' := [(3, .int (nI (0))), (0, .ref (m)), (1, .int (nI (a))), (2, .int (nI (bb)))]) hx hb dX12_rowsLike_20 rfl hl (by decide) rfl (fun ls hl => ?_)
    refine lv_iconst (v := (nI (0))) hx hb dX12_rowsLike_21 (by decide) ?_
    refine lv_istore (lv' := [(4, .int (nI (0))), (3, .int (nI (0))), (0, .ref (m)), (1, .int (nI (a))), (2, .int (nI (bb)))]) hx hb dX12_rowsLike_22 hl (by decide) rfl (fun ls hl => ?_)
    replace hl : lv_has ls 5 [(0, .ref (m)), (1, .int (nI (a))), (2, .int (nI (bb))), (3, .int (nI (0))), (4, .int (nI (0)))] := lv_sub hl [2, 3, 4, 1, 0] rfl
    replace hl : ∃ i : Nat, ∃ y : Int32, (i ≤ 8) ∧ ((y = 1 ∧ G.1 0 a = G.1 0 bb ∧ ∀ q, q < i → G.2.1 1 (8 * a + q) = G.2.1 1 (8 * bb + q)) ∨ (y = 0 ∧ ¬ pu_rl G a bb)) ∧ lv_has ls 5 [(0, .ref (m)), (1, .int (nI (a))), (2, .int (nI (bb))), (3, .int (y)), (4, .int (nI (i)))] := ⟨0, _, Nat.zero_le _, Or.inr ⟨rfl, fun q => hsz q.1⟩, hl⟩
    obtain ⟨i, y, hi, hy, hl⟩ := hl
    obtain ⟨n, hn⟩ : ∃ n, 8 - i < n := ⟨_, Nat.lt_succ_self _⟩
    induction n generalizing i y ls with
    | zero => exact absurd hn (Nat.not_lt_zero _)
    | succ n ih =>
      refine lv_iload hx hb dX12_rowsLike_24 (lv_at hl 4 rfl) ?_
      refine lv_aload_n hx hb dX12_rowsLike_26 rfl (lv_at hl 0 rfl) ?_
      refine rl_get (v := .ref (m + 12)) hC hW fl_X12_45 hR.1 rfl dX12_rowsLike_27 ?_
      refine lv_iload_n hx hb dX12_rowsLike_30 rfl (lv_at hl 1 rfl) ?_
      refine rl_iald_n (g := I 12) hC hW hR.a12 (by omega) (by decide) dX12_rowsLike_31 ?_
      refine rl_topn (ea) ?_
      refine lv_icmp_ge (tgt := 78) hx hb dX12_rowsLike_32 (by decide) (fun c1 => ?_) (fun c1 => ?_)
      · have hge := rg_le c1 (by omega) (by omega)
        have hfin : (y = 1 ∧ pu_rl G a bb) ∨ (y = 0 ∧ ¬ pu_rl G a bb) := hy.imp (fun q => ⟨q.1, q.2.1, fun i hi => q.2.2 i (by omega)⟩) id
        refine lv_iload_n hx hb dX12_rowsLike_78 rfl (lv_at hl 3 rfl) ?_
        exact rl_zret hC hW hr hlk (by rcases hfin with ⟨rfl, -⟩ | ⟨rfl, -⟩ <;> rfl) (Nat.le_refl _) (Nat.le_refl _) ⟨_, rfl, rfl, rfl, rfl, hfin⟩ dX12_rowsLike_79
      · have hlt : i < G.1 0 a := rg_lt c1 (by omega) (by omega)
        refine lv_iload_n hx hb dX12_rowsLike_35 rfl (lv_at hl 3 rfl) ?_
        refine lv_if_eq (tgt := 78) hx hb dX12_rowsLike_36 (by decide) (fun c2 => ?_) (fun c2 => ?_)
        · have hfin : (y = 1 ∧ pu_rl G a bb) ∨ (y = 0 ∧ ¬ pu_rl G a bb) := hy.elim (fun q => absurd (q.1.symm.trans c2) (by decide)) Or.inr
          refine lv_iload_n hx hb dX12_rowsLike_78 rfl (lv_at hl 3 rfl) ?_
          exact rl_zret hC hW hr hlk (by rcases hfin with ⟨rfl, -⟩ | ⟨rfl, -⟩ <;> rfl) (Nat.le_refl _) (Nat.le_refl _) ⟨_, rfl, rfl, rfl, rfl, hfin⟩ dX12_rowsLike_79
        · rcases hy with ⟨-, hy1, hy2⟩ | ⟨hy0, -⟩
          · have xa := hGr.2 (8 * a + i) (by omega)
            have xb := hGr.2 (8 * bb + i) (by omega)
            refine lv_aload_n hx hb dX12_rowsLike_39 rfl (lv_at hl 0 rfl) ?_
            refine rl_get (v := .ref (m + 13)) hC hW fl_X12_49 hR.1 rfl dX12_rowsLike_40 ?_
            refine lv_bipush (v := (nI (8))) hx hb dX12_rowsLike_43 (by decide) ?_
            refine lv_iload_n hx hb dX12_rowsLike_45 rfl (lv_at hl 1 rfl) ?_
            refine lv_imul hx hb dX12_rowsLike_46 ?_
            refine rl_topn (pk_mul _ _) ?_
            refine lv_iload hx hb dX12_rowsLike_47 (lv_at hl 4 rfl) ?_
            refine lv_iadd hx hb dX12_rowsLike_49 ?_
            refine rl_topn (nI_add _ _) ?_
            refine rl_iald_n (g := I 13) hC hW hR.a13 (by omega) (by decide) dX12_rowsLike_50 ?_
            refine lv_aload_n hx hb dX12_rowsLike_51 rfl (lv_at hl 0 rfl) ?_
            refine rl_get (v := .ref (m + 13)) hC hW fl_X12_49 hR.1 rfl dX12_rowsLike_52 ?_
            refine lv_bipush (v := (nI (8))) hx hb dX12_rowsLike_55 (by decide) ?_
            refine lv_iload_n hx hb dX12_rowsLike_57 rfl (lv_at hl 2 rfl) ?_
            refine lv_imul hx hb dX12_rowsLike_58 ?_
            refine rl_topn (pk_mul _ _) ?_
            refine lv_iload hx hb dX12_rowsLike_59 (lv_at hl 4 rfl) ?_
            refine lv_iadd hx hb dX12_rowsLike_61 ?_
            refine rl_topn (nI_add _ _) ?_
            refine rl_iald_n (g := I 13) hC hW hR.a13 (by omega) (by decide) dX12_rowsLike_62 ?_
            refine lv_icmp_ne (tgt := 70) hx hb dX12_rowsLike_63 (by decide) (fun c3 => ?_) (fun c3 => ?_)
            · refine lv_iconst (v := (nI (0))) hx hb dX12_rowsLike_70 (by decide) ?_
              refine lv_istore_n (lv' := [(3, .int (nI (0))), (0, .ref (m)), (1, .int (nI (a))), (2, .int (nI (bb))), (4, .int (nI (i)))]) hx hb dX12_rowsLike_71 rfl hl (by decide) rfl (fun ls hl => ?_)
              refine lv_iinc (v := (nI ((i) + 1))) (lv' := [(4, .int (nI ((i) + 1))), (3, .int (nI (0))), (0, .ref (m)), (1, .int (nI (a))), (2, .int (nI (bb)))]) hx hb dX12_rowsLike_72 hl (k := 4) rfl (nI_1 _) (by decide) rfl (fun ls hl => ?_)
              refine lv_goto (tgt := 24) hx hb dX12_rowsLike_75 (by decide) ?_
              replace hl : lv_has ls 5 [(0, .ref (m)), (1, .int (nI (a))), (2, .int (nI (bb))), (3, .int (nI (0))), (4, .int (nI ((i) + 1)))] := lv_sub hl [2, 3, 4, 1, 0] rfl
              exact ih ls (i + 1) _ (by omega) (Or.inr ⟨rfl, fun q => c3 (by rw [xa, xb]; exact q.2 i hlt)⟩) hl (by omega)
            · refine lv_iconst (v := (nI (1))) hx hb dX12_rowsLike_66 (by decide) ?_
              refine lv_goto (tgt := 71) hx hb dX12_rowsLike_67 (by decide) ?_
              refine lv_istore_n (lv' := [(3, .int (nI (1))), (0, .ref (m)), (1, .int (nI (a))), (2, .int (nI (bb))), (4, .int (nI (i)))]) hx hb dX12_rowsLike_71 rfl hl (by decide) rfl (fun ls hl => ?_)
              refine lv_iinc (v := (nI ((i) + 1))) (lv' := [(4, .int (nI ((i) + 1))), (3, .int (nI (1))), (0, .ref (m)), (1, .int (nI (a))), (2, .int (nI (bb)))]) hx hb dX12_rowsLike_72 hl (k := 4) rfl (nI_1 _) (by decide) rfl (fun ls hl => ?_)
              refine lv_goto (tgt := 24) hx hb dX12_rowsLike_75 (by decide) ?_
              replace hl : lv_has ls 5 [(0, .ref (m)), (1, .int (nI (a))), (2, .int (nI (bb))), (3, .int (nI (1))), (4, .int (nI ((i) + 1)))] := lv_sub hl [2, 3, 4, 1, 0] rfl
              exact ih ls (i + 1) _ (by omega) (Or.inl ⟨rfl, hy1, rg_step hy2 (by rw [← xa, ← xb]; exact c3)⟩) hl (by omega)
          · exact absurd hy0 c2
  · rw [ea, eb] at c0
    have hsz : G.1 0 a = G.1 0 bb := (nI_eq (by omega) (by omega)).mp c0
    refine lv_iconst (v := (nI (1))) hx hb dX12_rowsLike_15 (by decide) ?_
    refine lv_goto (tgt := 20) hx hb dX12_rowsLike_16 (by decide) ?_
    refine lv_istore_n (lv' := [(3, .int (nI (1))), (0, .ref (m)), (1, .int (nI (a))), (2, .int (nI (bb)))]) hx hb dX12_rowsLike_20 rfl hl (by decide) rfl (fun ls hl => ?_)
    refine lv_iconst (v := (nI (0))) hx hb dX12_rowsLike_21 (by decide) ?_
    refine lv_istore (lv' := [(4, .int (nI (0))), (3, .int (nI (1))), (0, .ref (m)), (1, .int (nI (a))), (2, .int (nI (bb)))]) hx hb dX12_rowsLike_22 hl (by decide) rfl (fun ls hl => ?_)
    replace hl : lv_has ls 5 [(0, .ref (m)), (1, .int (nI (a))), (2, .int (nI (bb))), (3, .int (nI (1))), (4, .int (nI (0)))] := lv_sub hl [2, 3, 4, 1, 0] rfl
    replace hl : ∃ i : Nat, ∃ y : Int32, (i ≤ 8) ∧ ((y = 1 ∧ G.1 0 a = G.1 0 bb ∧ ∀ q, q < i → G.2.1 1 (8 * a + q) = G.2.1 1 (8 * bb + q)) ∨ (y = 0 ∧ ¬ pu_rl G a bb)) ∧ lv_has ls 5 [(0, .ref (m)), (1, .int (nI (a))), (2, .int (nI (bb))), (3, .int (y)), (4, .int (nI (i)))] := ⟨0, _, Nat.zero_le _, Or.inl ⟨rfl, hsz, fun _ h => absurd h (Nat.not_lt_zero _)⟩, hl⟩
    obtain ⟨i, y, hi, hy, hl⟩ := hl
    obtain ⟨n, hn⟩ : ∃ n, 8 - i < n := ⟨_, Nat.lt_succ_self _⟩
    induction n generalizing i y ls with
    | zero => exact absurd hn (Nat.not_lt_zero _)
    | succ n ih =>
      refine lv_iload hx hb dX12_rowsLike_24 (lv_at hl 4 rfl) ?_
      refine lv_aload_n hx hb dX12_rowsLike_26 rfl (lv_at hl 0 rfl) ?_
      refine rl_get (v := .ref (m + 12)) hC hW fl_X12_45 hR.1 rfl dX12_rowsLike_27 ?_
      refine lv_iload_n hx hb dX12_rowsLike_30 rfl (lv_at hl 1 rfl) ?_
      refine rl_iald_n (g := I 12) hC hW hR.a12 (by omega) (by decide) dX12_rowsLike_31 ?_
      refine rl_topn (ea) ?_
      refine lv_icmp_ge (tgt := 78) hx hb dX12_rowsLike_32 (by decide) (fun c1 => ?_) (fun c1 => ?_)
      · have hge := rg_le c1 (by omega) (by omega)
        have hfin : (y = 1 ∧ pu_rl G a bb) ∨ (y = 0 ∧ ¬ pu_rl G a bb) := hy.imp (fun q => ⟨q.1, q.2.1, fun i hi => q.2.2 i (by omega)⟩) id
        refine lv_iload_n hx hb dX12_rowsLike_78 rfl (lv_at hl 3 rfl) ?_
        exact rl_zret hC hW hr hlk (by rcases hfin with ⟨rfl, -⟩ | ⟨rfl, -⟩ <;> rfl) (Nat.le_refl _) (Nat.le_refl _) ⟨_, rfl, rfl, rfl, rfl, hfin⟩ dX12_rowsLike_79
      · have hlt : i < G.1 0 a := rg_lt c1 (by omega) (by omega)
        refine lv_iload_n hx hb dX12_rowsLike_35 rfl (lv_at hl 3 rfl) ?_
        refine lv_if_eq (tgt := 78) hx hb dX12_rowsLike_36 (by decide) (fun c2 => ?_) (fun c2 => ?_)
        · have hfin : (y = 1 ∧ pu_rl G a bb) ∨ (y = 0 ∧ ¬ pu_rl G a bb) := hy.elim (fun q => absurd (q.1.symm.trans c2) (by decide)) Or.inr
          refine lv_iload_n hx hb dX12_rowsLike_78 rfl (lv_at hl 3 rfl) ?_
          exact rl_zret hC hW hr hlk (by rcases hfin with ⟨rfl, -⟩ | ⟨rfl, -⟩ <;> rfl) (Nat.le_refl _) (Nat.le_refl _) ⟨_, rfl, rfl, rfl, rfl, hfin⟩ dX12_rowsLike_79
        · rcases hy with ⟨-, hy1, hy2⟩ | ⟨hy0, -⟩
          · have xa := hGr.2 (8 * a + i) (by omega)
            have xb := hGr.2 (8 * bb + i) (by omega)
            refine lv_aload_n hx hb dX12_rowsLike_39 rfl (lv_at hl 0 rfl) ?_
            refine rl_get (v := .ref (m + 13)) hC hW fl_X12_49 hR.1 rfl dX12_rowsLike_40 ?_
            refine lv_bipush (v := (nI (8))) hx hb dX12_rowsLike_43 (by decide) ?_
            refine lv_iload_n hx hb dX12_rowsLike_45 rfl (lv_at hl 1 rfl) ?_
            refine lv_imul hx hb dX12_rowsLike_46 ?_
            refine rl_topn (pk_mul _ _) ?_
            refine lv_iload hx hb dX12_rowsLike_47 (lv_at hl 4 rfl) ?_
            refine lv_iadd hx hb dX12_rowsLike_49 ?_
            refine rl_topn (nI_add _ _) ?_
            refine rl_iald_n (g := I 13) hC hW hR.a13 (by omega) (by decide) dX12_rowsLike_50 ?_
            refine lv_aload_n hx hb dX12_rowsLike_51 rfl (lv_at hl 0 rfl) ?_
            refine rl_get (v := .ref (m + 13)) hC hW fl_X12_49 hR.1 rfl dX12_rowsLike_52 ?_
            refine lv_bipush (v := (nI (8))) hx hb dX12_rowsLike_55 (by decide) ?_
            refine lv_iload_n hx hb dX12_rowsLike_57 rfl (lv_at hl 2 rfl) ?_
            refine lv_imul hx hb dX12_rowsLike_58 ?_
            refine rl_topn (pk_mul _ _) ?_
            refine lv_iload hx hb dX12_rowsLike_59 (lv_at hl 4 rfl) ?_
            refine lv_iadd hx hb dX12_rowsLike_61 ?_
            refine rl_topn (nI_add _ _) ?_
            refine rl_iald_n (g := I 13) hC hW hR.a13 (by omega) (by decide) dX12_rowsLike_62 ?_
            refine lv_icmp_ne (tgt := 70) hx hb dX12_rowsLike_63 (by decide) (fun c3 => ?_) (fun c3 => ?_)
            · refine lv_iconst (v := (nI (0))) hx hb dX12_rowsLike_70 (by decide) ?_
              refine lv_istore_n (lv' := [(3, .int (nI (0))), (0, .ref (m)), (1, .int (nI (a))), (2, .int (nI (bb))), (4, .int (nI (i)))]) hx hb dX12_rowsLike_71 rfl hl (by decide) rfl (fun ls hl => ?_)
              refine lv_iinc (v := (nI ((i) + 1))) (lv' := [(4, .int (nI ((i) + 1))), (3, .int (nI (0))), (0, .ref (m)), (1, .int (nI (a))), (2, .int (nI (bb)))]) hx hb dX12_rowsLike_72 hl (k := 4) rfl (nI_1 _) (by decide) rfl (fun ls hl => ?_)
              refine lv_goto (tgt := 24) hx hb dX12_rowsLike_75 (by decide) ?_
              replace hl : lv_has ls 5 [(0, .ref (m)), (1, .int (nI (a))), (2, .int (nI (bb))), (3, .int (nI (0))), (4, .int (nI ((i) + 1)))] := lv_sub hl [2, 3, 4, 1, 0] rfl
              exact ih ls (i + 1) _ (by omega) (Or.inr ⟨rfl, fun q => c3 (by rw [xa, xb]; exact q.2 i hlt)⟩) hl (by omega)
            · refine lv_iconst (v := (nI (1))) hx hb dX12_rowsLike_66 (by decide) ?_
              refine lv_goto (tgt := 71) hx hb dX12_rowsLike_67 (by decide) ?_
              refine lv_istore_n (lv' := [(3, .int (nI (1))), (0, .ref (m)), (1, .int (nI (a))), (2, .int (nI (bb))), (4, .int (nI (i)))]) hx hb dX12_rowsLike_71 rfl hl (by decide) rfl (fun ls hl => ?_)
              refine lv_iinc (v := (nI ((i) + 1))) (lv' := [(4, .int (nI ((i) + 1))), (3, .int (nI (1))), (0, .ref (m)), (1, .int (nI (a))), (2, .int (nI (bb)))]) hx hb dX12_rowsLike_72 hl (k := 4) rfl (nI_1 _) (by decide) rfl (fun ls hl => ?_)
              refine lv_goto (tgt := 24) hx hb dX12_rowsLike_75 (by decide) ?_
              replace hl : lv_has ls 5 [(0, .ref (m)), (1, .int (nI (a))), (2, .int (nI (bb))), (3, .int (nI (1))), (4, .int (nI ((i) + 1)))] := lv_sub hl [2, 3, 4, 1, 0] rfl
              exact ih ls (i + 1) _ (by omega) (Or.inl ⟨rfl, hy1, rg_step hy2 (by rw [← xa, ← xb]; exact c3)⟩) hl (by omega)
          · exact absurd hy0 c2

set_option maxHeartbeats 4000000 in
set_option maxRecDepth 100000 in
theorem cR_opens (l : Launch) (D : va_G) (t : Nat → ClassId) (A : Nat → Prop) (f : rl_M) (z : Nat) (m : Nat) (I : Nat → Nat → Int32) (L : Nat → Nat → Int64) (F : Nat → Int32) (hR : RM t f m I L F) (T : Nat → Nat → Nat) (ρ κ : Nat) (G : pG) (hρ : ρ ≤ 43100) (hκ : κ ≤ 26200) (hTc : RTc T (I 0) (I 1) (I 2)) (hTp : RTp T (I 3) (I 4) (I 5) (I 6)) (hGW : GW T ρ κ G) (hGr : RGr ρ G (I 12) (I 13)) (hGd : RGd κ G (I 15) (I 16) (L 17) (I 18)) (hGp : RGp G (I 19) (L 20) (I 21)) (n0 a bb d : Nat) (PA PB : Nat → pHd) (PW : Nat → Nat) (ha : a < κ) (hbb : bb < κ) (hd6 : d ≤ 6) (hnd : n0 ≤ 5 * d) (hF33 : F 33 = nI n0) (hsp : rf_sp ρ κ n0 PA PB PW (I 34) (I 35) (I 36)) : rl_Met l yX12_opens (.code yX12_opens cX12_opens 6 (some FieldType.boolean)) (rl_rm 1 0 0) D t A f z [.ref (m), .int (nI (a)), .int (nI (bb)), .int (nI (d))] (rl_qi z fun r f1 => (r = 0 ∨ r = 1) ∧ ∃ (I' : Nat → Nat → Int32) (F' : Nat → Int32) (n1 : Nat) (QA QB : Nat → pHd) (QW : Nat → Nat), RM t f1 m I' L F' ∧ rf_s36 I I' F F' ∧ F' 33 = nI n1 ∧ n0 ≤ n1 ∧ rf_sp ρ κ n1 QA QB QW (I' 34) (I' 35) (I' 36) ∧ rf_mu (I' 36) n1 ≤ rf_mu (I 36) n0 + 5 * 6 ^ (6 - d) ∧ (r = 1 → d ≤ 5 ∧ pu_op G a bb ∧ (rf_sc G n1 QA QB QW ↔ rf_sc G n0 PA PB PW ∧ ∀ q, q < G.1 2 a → pu_lk G (6 - (d + 1)) (G.2.2.2 1 (5 * a + q)) (G.2.2.2 1 (5 * bb + q)))) ∧ (r = 0 → ¬ (d ≤ 5 ∧ pu_op G a bb))) := by
  refine rl_begin (own := RX12) (lv := [(0, .ref (m)), (1, .int (nI (a))), (2, .int (nI (bb))), (3, .int (nI (d)))]) (by decide +kernel) rfl (Nat.le_of_ble_eq_true rfl) rfl fun p e s m0 args below meth c ls H locs hC hr hlk hnm hW hl hx hb => ?_
  obtain ⟨a15, a16, a17⟩ := hGd a ha
  obtain ⟨b15, b16, b17⟩ := hGd bb hbb
  obtain ⟨hsa, hpa, tha⟩ := hGW.2.1 a ha
  obtain ⟨hsb, hpb, thb⟩ := hGW.2.1 bb hbb
  have h5a := (hTp.1 _ hsa).2
  have h5b := (hTp.1 _ hsb).2
  refine lv_iload_n hx hb dX12_opens_0 rfl (lv_at hl 3 rfl) ?_
  refine lv_iconst (v := (nI (5))) hx hb dX12_opens_1 (by decide) ?_
  refine lv_icmp_gt (tgt := 35) hx hb dX12_opens_2 (by decide) (fun c1 => ?_) (fun c1 => ?_)
  · refine lv_iconst (v := (nI (0))) hx hb dX12_opens_35 (by decide) ?_
    exact rl_zret hC hW hr hlk rfl (Nat.le_refl _) (Nat.le_refl _) ⟨_, rfl, rfl, rfl, Or.inl (by decide), I, F, n0, PA, PB, PW, hR, ⟨fun _ _ => rfl, fun _ _ => rfl⟩, hF33, Nat.le_refl _, hsp, Nat.le_add_right _ _, fun q => absurd q (by decide), fun _ q => absurd ((nI_ltI (by decide) (by omega)).mp c1) (by omega)⟩ dX12_opens_36
  · have hd : d ≤ 5 := Nat.le_of_not_lt (fun q => c1 ((nI_ltI (by decide) (by omega)).mpr q))
    refine lv_aload_n hx hb dX12_opens_5 rfl (lv_at hl 0 rfl) ?_
    refine rl_get (v := .ref (m + 14)) hC hW fl_X12_52 hR.1 rfl dX12_opens_6 ?_
    refine lv_iload_n hx hb dX12_opens_9 rfl (lv_at hl 1 rfl) ?_
    refine rl_iald_n (g := I 15) hC hW hR.a15 (by omega) (by decide) dX12_opens_10 ?_
    refine lv_aload_n hx hb dX12_opens_11 rfl (lv_at hl 0 rfl) ?_
    refine rl_get (v := .ref (m + 14)) hC hW fl_X12_52 hR.1 rfl dX12_opens_12 ?_
    refine lv_iload_n hx hb dX12_opens_15 rfl (lv_at hl 2 rfl) ?_
    refine rl_iald_n (g := I 15) hC hW hR.a15 (by omega) (by decide) dX12_opens_16 ?_
    refine lv_icmp_ne (tgt := 35) hx hb dX12_opens_17 (by decide) (fun c2 => ?_) (fun c2 => ?_)
    · refine lv_iconst (v := (nI (0))) hx hb dX12_opens_35 (by decide) ?_
      exact rl_zret hC hW hr hlk rfl (Nat.le_refl _) (Nat.le_refl _) ⟨_, rfl, rfl, rfl, Or.inl (by decide), I, F, n0, PA, PB, PW, hR, ⟨fun _ _ => rfl, fun _ _ => rfl⟩, hF33, Nat.le_refl _, hsp, Nat.le_add_right _ _, fun q => absurd q (by decide), fun _ q => c2 (by rw [a15, b15, q.2.1])⟩ dX12_opens_36
    · refine lv_aload_n hx hb dX12_opens_20 rfl (lv_at hl 0 rfl) ?_
      refine rl_get (v := .ref (m + 15)) hC hW fl_X12_55 hR.1 rfl dX12_opens_21 ?_
      refine lv_iload_n hx hb dX12_opens_24 rfl (lv_at hl 1 rfl) ?_
      refine rl_iald_n (g := I 16) hC hW hR.a16 (by omega) (by decide) dX12_opens_25 ?_
      refine lv_aload_n hx hb dX12_opens_26 rfl (lv_at hl 0 rfl) ?_
      refine rl_get (v := .ref (m + 15)) hC hW fl_X12_55 hR.1 rfl dX12_opens_27 ?_
      refine lv_iload_n hx hb dX12_opens_30 rfl (lv_at hl 2 rfl) ?_
      refine rl_iald_n (g := I 16) hC hW hR.a16 (by omega) (by decide) dX12_opens_31 ?_
      refine lv_icmp_eq (tgt := 37) hx hb dX12_opens_32 (by decide) (fun c3 => ?_) (fun c3 => ?_)
      · rw [a15, b15] at c2
        have e1 : G.1 1 a = G.1 1 bb := (nI_eq (by omega) (by omega)).mp c2
        rw [a16, b16] at c3
        have e2 : G.1 2 a = G.1 2 bb := (nI_eq (by omega) (by omega)).mp c3
        refine lv_iconst (v := (nI (1))) hx hb dX12_opens_37 (by decide) ?_
        refine lv_istore (lv' := [(4, .int (nI (1))), (0, .ref (m)), (1, .int (nI (a))), (2, .int (nI (bb))), (3, .int (nI (d)))]) hx hb dX12_opens_38 hl (by decide) rfl (fun ls hl => ?_)
        refine lv_iconst (v := (nI (0))) hx hb dX12_opens_40 (by decide) ?_
        refine lv_istore (lv' := [(5, .int (nI (0))), (4, .int (nI (1))), (0, .ref (m)), (1, .int (nI (a))), (2, .int (nI (bb))), (3, .int (nI (d)))]) hx hb dX12_opens_41 hl (by decide) rfl (fun ls hl => ?_)
        replace hl : lv_has ls 6 [(0, .ref (m)), (1, .int (nI (a))), (2, .int (nI (bb))), (3, .int (nI (d))), (4, .int (nI (1))), (5, .int (nI (0)))] := lv_sub hl [2, 3, 4, 5, 1, 0] rfl
        have hinv : ∃ f2 : rl_M, ∃ I' : Nat → Nat → Int32, ∃ F' : Nat → Int32, ∃ n1 : Nat, ∃ QA : Nat → pHd, ∃ QB : Nat → pHd, ∃ QW : Nat → Nat, ∃ i : Nat, ∃ y : Int32, rl_W D A f2 z s.heap H locs ∧ RM t f2 m I' L F' ∧ (rf_s36 I I' F F') ∧ (F' 33 = nI n1) ∧ (n0 ≤ n1 ∧ n1 ≤ n0 + i) ∧ (i ≤ G.1 2 a) ∧ ((y = 1 ∧ ∀ q, q < i → G.2.2.1 0 (5 * a + q) = G.2.2.1 0 (5 * bb + q)) ∨ (y = 0 ∧ ¬ pu_op G a bb)) ∧ (rf_sp ρ κ n1 QA QB QW (I' 34) (I' 35) (I' 36)) ∧ (rf_mu (I' 36) n1 ≤ rf_mu (I 36) n0 + i * 6 ^ (6 - d)) ∧ (rf_sc G n1 QA QB QW ↔ rf_sc G n0 PA PB PW ∧ ∀ q, q < i → pu_lk G (6 - (d + 1)) (G.2.2.2 1 (5 * a + q)) (G.2.2.2 1 (5 * bb + q))) ∧ lv_has ls 6 [(0, .ref (m)), (1, .int (nI (a))), (2, .int (nI (bb))), (3, .int (nI (d))), (4, .int (y)), (5, .int (nI (i)))] := ⟨_, I, F, n0, PA, PB, PW, 0, _, hW, hR, ⟨fun _ _ => rfl, fun _ _ => rfl⟩, hF33, ⟨Nat.le_refl _, Nat.le_refl _⟩, Nat.zero_le _, Or.inl ⟨rfl, fun _ h => absurd h (Nat.not_lt_zero _)⟩, hsp, Nat.le_add_right _ _, ⟨fun q => ⟨q, fun _ h => absurd h (Nat.not_lt_zero _)⟩, fun q => q.1⟩, hl⟩
        clear hW hR hl
        obtain ⟨f2, I', F', n1, QA, QB, QW, i, y, hW, hR, hs, h33, hle, hi, hy, hsp, hmu, hsc, hl⟩ := hinv
        obtain ⟨n, hn⟩ : ∃ n, G.1 2 a - i < n := ⟨_, Nat.lt_succ_self _⟩
        induction n generalizing f2 I' F' n1 QA QB QW i y H locs ls  with
        | zero => exact absurd hn (Nat.not_lt_zero _)
        | succ n ih =>
          have hsI := hs.1
          have a16' : I' 16 a = nI (G.1 2 a) := by rw [hsI 16 (Or.inl (by decide))]; exact a16
          refine lv_iload hx hb dX12_opens_43 (lv_at hl 5 rfl) ?_
          refine lv_aload_n hx hb dX12_opens_45 rfl (lv_at hl 0 rfl) ?_
          refine rl_get (v := .ref (m + 15)) hC hW fl_X12_55 hR.1 rfl dX12_opens_46 ?_
          refine lv_iload_n hx hb dX12_opens_49 rfl (lv_at hl 1 rfl) ?_
          refine rl_iald_n (g := I' 16) hC hW hR.a16 (by omega) (by decide) dX12_opens_50 ?_
          refine rl_topn (a16') ?_
          refine lv_icmp_ge (tgt := 141) hx hb dX12_opens_51 (by decide) (fun c4 => ?_) (fun c4 => ?_)
          · have hie : i = G.1 2 a := by have := rg_le c4 (by omega) (by omega); omega
            rw [hie] at hsc hy
            refine lv_iload hx hb dX12_opens_141 (lv_at hl 4 rfl) ?_
            exact rl_zret hC hW hr hlk (by rcases hy with ⟨rfl, -⟩ | ⟨rfl, -⟩ <;> rfl) (Nat.le_refl _) (Nat.le_refl _) ⟨_, rfl, rfl, rfl, hy.elim (fun q => Or.inr q.1) (fun q => Or.inl q.1), I', F', n1, QA, QB, QW, hR, hs, h33, hle.1, hsp, Nat.le_trans hmu (Nat.add_le_add_left (Nat.mul_le_mul_right _ (by omega)) _), (fun e => hy.elim (fun q => ⟨hd, ⟨e1, e2, q.2⟩, hsc⟩) (fun q => absurd (q.1.symm.trans e) (by decide))), (fun e q => hy.elim (fun q' => absurd (q'.1.symm.trans e) (by decide)) (fun q' => q'.2 q.2))⟩ dX12_opens_143
          · have hlt : i < G.1 2 a := rg_lt c4 (by omega) (by omega)
            obtain ⟨xa17, xa18⟩ := a17 i hlt
            obtain ⟨xb17, xb18⟩ := b17 i (by omega)
            obtain ⟨oka, sta, z0a⟩ := tha i hlt
            obtain ⟨okb, stb, z0b⟩ := thb i (by omega)
            have hTc' : RTc T (I' 0) (I' 1) (I' 2) := (by rw [hsI 0 (Or.inl (by decide)), hsI 1 (Or.inl (by decide)), hsI 2 (Or.inl (by decide))]; exact hTc)
            have hTp' : RTp T (I' 3) (I' 4) (I' 5) (I' 6) := (by rw [hsI 3 (Or.inl (by decide)), hsI 4 (Or.inl (by decide)), hsI 5 (Or.inl (by decide)), hsI 6 (Or.inl (by decide))]; exact hTp)
            have hGr' : RGr ρ G (I' 12) (I' 13) := (by rw [hsI 12 (Or.inl (by decide)), hsI 13 (Or.inl (by decide))]; exact hGr)
            have hGd' : RGd κ G (I' 15) (I' 16) (L 17) (I' 18) := (by rw [hsI 15 (Or.inl (by decide)), hsI 16 (Or.inl (by decide)), hsI 18 (Or.inl (by decide))]; exact hGd)
            have hGp' : RGp G (I' 19) (L 20) (I' 21) := (by rw [hsI 19 (Or.inl (by decide)), hsI 21 (Or.inl (by decide))]; exact hGp)
            refine lv_aload_n hx hb dX12_opens_54 rfl (lv_at hl 0 rfl) ?_
            refine lv_iconst (v := (nI (5))) hx hb dX12_opens_55 (by decide) ?_
            refine lv_iload_n hx hb dX12_opens_56 rfl (lv_at hl 1 rfl) ?_
            refine lv_imul hx hb dX12_opens_57 ?_
            refine rl_topn (pk_mul _ _) ?_
            refine lv_iload hx hb dX12_opens_58 (lv_at hl 5 rfl) ?_
            refine lv_iadd hx hb dX12_opens_60 ?_
            refine rl_topn (nI_add _ _) ?_
            refine rl_calliQ (rl_runV (b := m) (As := [.int (nI (((5) * (a)) + (i)))]) (rest := []) hC hW (cR_isNumber l D t A _ z m I' L F' hR T ρ κ G hρ (by omega) hTc' hTp' hGW hGr' hGd' hGp' a i ⟨ha, hlt⟩) cs_X12_201 im_X12_isNumber sl_X12_isNumber hR.1 rfl ⟨(Nat.le_of_ble_eq_true rfl), (Nat.le_of_ble_eq_true rfl)⟩ rfl hl.1 rfl (Nat.le_of_ble_eq_true rfl) dX12_opens_61 ⟨(Nat.le_of_ble_eq_true rfl), (Nat.le_of_ble_eq_true rfl)⟩) hW (fun r f1 H locs hp hW => ?_)
            obtain ⟨rfl, hp⟩ := hp
            rcases hp with ⟨rfl, hp⟩ | ⟨rfl, hp⟩
            · refine lv_if_eq (tgt := 106) hx hb dX12_opens_64 (by decide) (fun c5 => ?_) (fun c5 => ?_)
              · exact absurd c5 (by decide)
              · refine lv_iload hx hb dX12_opens_67 (lv_at hl 4 rfl) ?_
                refine lv_aload_n hx hb dX12_opens_69 rfl (lv_at hl 0 rfl) ?_
                refine rl_get (v := .ref (m + 16)) hC hW fl_X12_59 hR.1 rfl dX12_opens_70 ?_
                refine lv_iconst (v := (nI (5))) hx hb dX12_opens_73 (by decide) ?_
                refine lv_iload_n hx hb dX12_opens_74 rfl (lv_at hl 1 rfl) ?_
                refine lv_imul hx hb dX12_opens_75 ?_
                refine rl_topn (pk_mul _ _) ?_
                refine lv_iload hx hb dX12_opens_76 (lv_at hl 5 rfl) ?_
                refine lv_iadd hx hb dX12_opens_78 ?_
                refine rl_topn (nI_add _ _) ?_
                refine rl_lald_n (g := L 17) hC hW hR.a17 (by omega) (by decide) dX12_opens_79 ?_
                refine lv_aload_n hx hb dX12_opens_80 rfl (lv_at hl 0 rfl) ?_
                refine rl_get (v := .ref (m + 16)) hC hW fl_X12_59 hR.1 rfl dX12_opens_81 ?_
                refine lv_iconst (v := (nI (5))) hx hb dX12_opens_84 (by decide) ?_
                refine lv_iload_n hx hb dX12_opens_85 rfl (lv_at hl 2 rfl) ?_
                refine lv_imul hx hb dX12_opens_86 ?_
                refine rl_topn (pk_mul _ _) ?_
                refine lv_iload hx hb dX12_opens_87 (lv_at hl 5 rfl) ?_
                refine lv_iadd hx hb dX12_opens_89 ?_
                refine rl_topn (nI_add _ _) ?_
                refine rl_lald_n (g := L 17) hC hW hR.a17 (by omega) (by decide) dX12_opens_90 ?_
                refine W.lcmp hx hb dX12_opens_91 ?_
                refine lv_if_ne (tgt := 99) hx hb dX12_opens_92 (by decide) (fun c6 => ?_) (fun c6 => ?_)
                · refine lv_iconst (v := (nI (0))) hx hb dX12_opens_99 (by decide) ?_
                  refine lv_iand hx hb dX12_opens_100 ?_
                  refine lv_topi (fun x_1 ex_1 => ?_)
                  refine lv_istore (lv' := [(4, .int (x_1)), (0, .ref (m)), (1, .int (nI (a))), (2, .int (nI (bb))), (3, .int (nI (d))), (5, .int (nI (i)))]) hx hb dX12_opens_101 hl (by decide) rfl (fun ls hl => ?_)
                  refine lv_goto (tgt := 135) hx hb dX12_opens_103 (by decide) ?_
                  refine lv_iinc (v := (nI ((i) + 1))) (lv' := [(5, .int (nI ((i) + 1))), (4, .int (x_1)), (0, .ref (m)), (1, .int (nI (a))), (2, .int (nI (bb))), (3, .int (nI (d)))]) hx hb dX12_opens_135 hl (k := 5) rfl (nI_1 _) (by decide) rfl (fun ls hl => ?_)
                  refine lv_goto (tgt := 43) hx hb dX12_opens_138 (by decide) ?_
                  replace hl : lv_has ls 6 [(0, .ref (m)), (1, .int (nI (a))), (2, .int (nI (bb))), (3, .int (nI (d))), (4, .int (x_1)), (5, .int (nI ((i) + 1)))] := lv_sub hl [2, 3, 4, 5, 1, 0] rfl
                  have hyN : (x_1 = 1 ∧ ∀ q, q < i + 1 → G.2.2.1 0 (5 * a + q) = G.2.2.1 0 (5 * bb + q)) ∨ (x_1 = 0 ∧ ¬ pu_op G a bb) := by
                    rcases hy with ⟨hy1, hy2⟩ | ⟨hy1, hy2⟩
                    · exact Or.inr ⟨by rw [ex_1, hy1]; decide, fun q => c6 ((lg_cmp_eq _ _).mpr (by rw [xa17, xb17]; exact q.2.2 i hlt))⟩
                    · exact Or.inr ⟨by rw [ex_1, hy1]; decide, fun q => c6 ((lg_cmp_eq _ _).mpr (by rw [xa17, xb17]; exact q.2.2 i hlt))⟩
                  exact ih _ _ _ _ _ _ _ _ _ _ (i + 1) _ hW hR hs h33 ⟨hle.1, by omega⟩ (by omega) hyN hsp (Nat.le_trans hmu (Nat.add_le_add_left (Nat.mul_le_mul_right _ (by omega)) _)) (hsc.trans ⟨fun q => ⟨q.1, rg_step q.2 (by rw [hst_0 sta hp, hst_0 stb (by rw [← e1]; exact hp)]; exact lk_eq rfl)⟩, fun q => ⟨q.1, fun x hx => q.2 x (by omega)⟩⟩) hl (by omega)
                · refine lv_iconst (v := (nI (1))) hx hb dX12_opens_95 (by decide) ?_
                  refine lv_goto (tgt := 100) hx hb dX12_opens_96 (by decide) ?_
                  refine lv_iand hx hb dX12_opens_100 ?_
                  refine lv_topi (fun x_2 ex_2 => ?_)
                  refine lv_istore (lv' := [(4, .int (x_2)), (0, .ref (m)), (1, .int (nI (a))), (2, .int (nI (bb))), (3, .int (nI (d))), (5, .int (nI (i)))]) hx hb dX12_opens_101 hl (by decide) rfl (fun ls hl => ?_)
                  refine lv_goto (tgt := 135) hx hb dX12_opens_103 (by decide) ?_
                  refine lv_iinc (v := (nI ((i) + 1))) (lv' := [(5, .int (nI ((i) + 1))), (4, .int (x_2)), (0, .ref (m)), (1, .int (nI (a))), (2, .int (nI (bb))), (3, .int (nI (d)))]) hx hb dX12_opens_135 hl (k := 5) rfl (nI_1 _) (by decide) rfl (fun ls hl => ?_)
                  refine lv_goto (tgt := 43) hx hb dX12_opens_138 (by decide) ?_
                  replace hl : lv_has ls 6 [(0, .ref (m)), (1, .int (nI (a))), (2, .int (nI (bb))), (3, .int (nI (d))), (4, .int (x_2)), (5, .int (nI ((i) + 1)))] := lv_sub hl [2, 3, 4, 5, 1, 0] rfl
                  have hyN : (x_2 = 1 ∧ ∀ q, q < i + 1 → G.2.2.1 0 (5 * a + q) = G.2.2.1 0 (5 * bb + q)) ∨ (x_2 = 0 ∧ ¬ pu_op G a bb) := by
                    rcases hy with ⟨hy1, hy2⟩ | ⟨hy1, hy2⟩
                    · exact Or.inl ⟨by rw [ex_2, hy1]; decide, rg_step hy2 (by rw [← xa17, ← xb17]; exact (lg_cmp_eq _ _).mp c6)⟩
                    · exact Or.inr ⟨by rw [ex_2, hy1]; decide, hy2⟩
                  exact ih _ _ _ _ _ _ _ _ _ _ (i + 1) _ hW hR hs h33 ⟨hle.1, by omega⟩ (by omega) hyN hsp (Nat.le_trans hmu (Nat.add_le_add_left (Nat.mul_le_mul_right _ (by omega)) _)) (hsc.trans ⟨fun q => ⟨q.1, rg_step q.2 (by rw [hst_0 sta hp, hst_0 stb (by rw [← e1]; exact hp)]; exact lk_eq rfl)⟩, fun q => ⟨q.1, fun x hx => q.2 x (by omega)⟩⟩) hl (by omega)
            · refine lv_if_eq (tgt := 106) hx hb dX12_opens_64 (by decide) (fun c5 => ?_) (fun c5 => ?_)
              · have hpn2 := hp
                refine lv_aload_n hx hb dX12_opens_106 rfl (lv_at hl 0 rfl) ?_
                refine lv_aload_n hx hb dX12_opens_107 rfl (lv_at hl 0 rfl) ?_
                refine rl_get (v := .ref (m + 17)) hC hW fl_X12_63 hR.1 rfl dX12_opens_108 ?_
                refine lv_iconst (v := (nI (5))) hx hb dX12_opens_111 (by decide) ?_
                refine lv_iload_n hx hb dX12_opens_112 rfl (lv_at hl 1 rfl) ?_
                refine lv_imul hx hb dX12_opens_113 ?_
                refine rl_topn (pk_mul _ _) ?_
                refine lv_iload hx hb dX12_opens_114 (lv_at hl 5 rfl) ?_
                refine lv_iadd hx hb dX12_opens_116 ?_
                refine rl_topn (nI_add _ _) ?_
                refine rl_iald_n (g := I' 18) hC hW hR.a18 (by omega) (by decide) dX12_opens_117 ?_
                refine lv_aload_n hx hb dX12_opens_118 rfl (lv_at hl 0 rfl) ?_
                refine rl_get (v := .ref (m + 17)) hC hW fl_X12_63 hR.1 rfl dX12_opens_119 ?_
                refine lv_iconst (v := (nI (5))) hx hb dX12_opens_122 (by decide) ?_
                refine lv_iload_n hx hb dX12_opens_123 rfl (lv_at hl 2 rfl) ?_
                refine lv_imul hx hb dX12_opens_124 ?_
                refine rl_topn (pk_mul _ _) ?_
                refine lv_iload hx hb dX12_opens_125 (lv_at hl 5 rfl) ?_
                refine lv_iadd hx hb dX12_opens_127 ?_
                refine rl_topn (nI_add _ _) ?_
                refine rl_iald_n (g := I' 18) hC hW hR.a18 (by omega) (by decide) dX12_opens_128 ?_
                refine lv_iload_n hx hb dX12_opens_129 rfl (lv_at hl 3 rfl) ?_
                refine lv_iconst (v := (nI (1))) hx hb dX12_opens_130 (by decide) ?_
                refine lv_iadd hx hb dX12_opens_131 ?_
                refine rl_topn (nI_add _ _) ?_
                refine rl_callvQ (rl_runV (b := m) (As := [.int (I' 18 (((5) * (a)) + (i))), .int (I' 18 (((5) * (bb)) + (i))), .int (nI ((d) + (1)))]) (rest := []) hC hW (cR_pair l D t A _ z m I' L F' hR n1 (by omega) h33 _ _ (d + 1)) cs_X12_209 im_X12_pair sl_X12_pair hR.1 rfl ⟨(Nat.le_of_ble_eq_true rfl), (Nat.le_of_ble_eq_true rfl)⟩ rfl hl.1 rfl (Nat.le_of_ble_eq_true rfl) dX12_opens_132 ⟨(Nat.le_of_ble_eq_true rfl), (Nat.le_of_ble_eq_true rfl)⟩) hW (fun f1 H locs hp hW => ?_)
                have hR := hp
                refine lv_iinc (v := (nI ((i) + 1))) (lv' := [(5, .int (nI ((i) + 1))), (0, .ref (m)), (1, .int (nI (a))), (2, .int (nI (bb))), (3, .int (nI (d))), (4, .int (y))]) hx hb dX12_opens_135 hl (k := 5) rfl (nI_1 _) (by decide) rfl (fun ls hl => ?_)
                refine lv_goto (tgt := 43) hx hb dX12_opens_138 (by decide) ?_
                replace hl : lv_has ls 6 [(0, .ref (m)), (1, .int (nI (a))), (2, .int (nI (bb))), (3, .int (nI (d))), (4, .int (y)), (5, .int (nI ((i) + 1)))] := lv_sub hl [1, 2, 3, 4, 5, 0] rfl
                have hsp2 := hsp.push (x := G.2.2.2 1 (5 * a + i)) (y := G.2.2.2 1 (5 * bb + i)) (x' := I' 18 (5 * a + i)) (y' := I' 18 (5 * bb + i)) (w := d + 1) (by rw [hsI 18 (Or.inl (by decide))]; exact xa18) (by rw [hsI 18 (Or.inl (by decide))]; exact xb18) oka okb (by omega) (by omega)
                exact ih _ _ _ _ _ _ (n1 + 1) _ _ _ (i + 1) _ hW hR ⟨fun j hj => by rw [va_up_n _ _ (by omega), va_up_n _ _ (by omega), va_up_n _ _ (by omega)]; exact hsI j hj, fun j hj => by rw [rg_upl hj]; exact hs.2 j hj⟩ rfl ⟨by omega, by omega⟩ (by omega) (hy.imp (fun q => ⟨q.1, rg_step q.2 (by rw [z0a hpn2, z0b (by rw [← e1]; exact hpn2)])⟩) id) hsp2 (by show rf_mu (upd (I' 36) n1 (nI (d + 1))) (n1 + 1) ≤ _; rw [rf_mu.push (by omega), show 7 - (d + 1) = 6 - d by omega, Nat.add_mul, Nat.one_mul]; omega) (rf_sc.push.trans ⟨fun q => ⟨(hsc.mp q.1).1, rg_step (hsc.mp q.1).2 q.2⟩, fun q => ⟨hsc.mpr ⟨q.1, fun x hx => q.2 x (by omega)⟩, q.2 i (by omega)⟩⟩) hl (by omega)
              · exact absurd rfl c5
      · refine lv_iconst (v := (nI (0))) hx hb dX12_opens_35 (by decide) ?_
        exact rl_zret hC hW hr hlk rfl (Nat.le_refl _) (Nat.le_refl _) ⟨_, rfl, rfl, rfl, Or.inl (by decide), I, F, n0, PA, PB, PW, hR, ⟨fun _ _ => rfl, fun _ _ => rfl⟩, hF33, Nat.le_refl _, hsp, Nat.le_add_right _ _, fun q => absurd q (by decide), fun _ q => c3 (by rw [a16, b16, q.2.2.1])⟩ dX12_opens_36

theorem rf_mu_pop {a : Nat → Int32} {n2 n : Nat} (h : rf_mu a (n2 + 1) < n + 1) : rf_mu a n2 < n := by
  have h1 : rf_mu a (n2 + 1) = rf_mu a n2 + 6 ^ (7 - (a n2).toNatClampNeg) := rfl
  have h2 := Nat.pow_pos (n := 7 - (a n2).toNatClampNeg) (show 0 < 6 by decide)
  omega
theorem rf_lk {a a' : Nat → Int32} {n2 n3 n w0 : Nat} {P : Prop} (hw6 : w0 ≤ 6) (hwe : a n2 = nI w0) (hmu : rf_mu a' n3 ≤ rf_mu a n2 + 5 * 6 ^ (6 - w0)) (h : rf_mu a (n2 + 1) < n + 1) (k : rf_mu a' n3 < n → P) : P := by
  have h1 : rf_mu a (n2 + 1) = rf_mu a n2 + 6 ^ (7 - (a n2).toNatClampNeg) := rfl
  rw [hwe, nI_clamp (by omega), show 7 - w0 = (6 - w0) + 1 by omega, Nat.pow_succ] at h1
  have h2 := Nat.pow_pos (n := 6 - w0) (show 0 < 6 by decide)
  exact k (by omega)

set_option maxHeartbeats 4000000 in
set_option maxRecDepth 100000 in
theorem cR_like (l : Launch) (D : va_G) (t : Nat → ClassId) (A : Nat → Prop) (f : rl_M) (z : Nat) (m : Nat) (T : Nat → Nat → Nat) (ρ κ : Nat) (G : pG) (hS : RS t f m T ρ κ G) (hρ : ρ + 84 ≤ 43100) (hκ : κ + 51 ≤ 26200) (x1 x2 : Int32) : rl_Met l yX12_like (.code yX12_like cX12_like 7 (some FieldType.int)) (rl_rm 2 0 0) D t A f z [.ref (m), .int (x1), .int (x2)] (rl_qi z fun r f1 => f_like G x1 x2 = r ∧ RS t f1 m T ρ κ G) := by
  obtain ⟨I, L, F, hR, hTc, hTp, hTk, hGW, hGr, hGd, hGp, hGt, hGc, hF11, hF14⟩ := hS
  refine rl_begin (own := RX12) (lv := [(0, .ref (m)), (1, .int (x1)), (2, .int (x2))]) (by decide +kernel) rfl (Nat.le_of_ble_eq_true rfl) rfl fun p e s m0 args below meth c ls H locs hC hr hlk hnm hW hl hx hb => ?_
  refine lv_iload_n hx hb dX12_like_0 rfl (lv_at hl 1 rfl) ?_
  refine rl_calliQ (rl_runS (As := [.int (x1)]) (rest := []) hC hW (cR_isPlace l D t A _ z _) cs_X12_148 sm_X12_isPlace ⟨(Nat.le_of_ble_eq_true rfl), (Nat.le_of_ble_eq_true rfl)⟩ rfl hl.1 rfl (Nat.le_of_ble_eq_true rfl) dX12_like_1 ⟨(Nat.le_of_ble_eq_true rfl), (Nat.le_of_ble_eq_true rfl)⟩) hW (fun r f1 H locs hp hW => ?_)
  obtain ⟨rfl, hp⟩ := hp
  rcases hp with ⟨rfl, hp⟩ | ⟨rfl, hp⟩
  · obtain ⟨p0, hp0, rfl⟩ := hp
    refine lv_if_eq (tgt := 14) hx hb dX12_like_4 (by decide) (fun c9 => ?_) (fun c9 => ?_)
    · exact absurd c9 (by decide)
    · refine lv_iload_n hx hb dX12_like_7 rfl (lv_at hl 2 rfl) ?_
      refine rl_calliQ (rl_runS (As := [.int (x2)]) (rest := []) hC hW (cR_isPlace l D t A _ z _) cs_X12_148 sm_X12_isPlace ⟨(Nat.le_of_ble_eq_true rfl), (Nat.le_of_ble_eq_true rfl)⟩ rfl hl.1 rfl (Nat.le_of_ble_eq_true rfl) dX12_like_8 ⟨(Nat.le_of_ble_eq_true rfl), (Nat.le_of_ble_eq_true rfl)⟩) hW (fun r f1 H locs hp hW => ?_)
      obtain ⟨rfl, hp⟩ := hp
      rcases hp with ⟨rfl, hp⟩ | ⟨rfl, hp⟩
      · obtain ⟨q0, hq0, rfl⟩ := hp
        refine lv_if_ne (tgt := 16) hx hb dX12_like_11 (by decide) (fun c9 => ?_) (fun c9 => ?_)
        · refine lv_aload_n hx hb dX12_like_16 rfl (lv_at hl 0 rfl) ?_
          refine lv_iconst (v := (nI (0))) hx hb dX12_like_17 (by decide) ?_
          refine rl_put (v := .int (nI (0))) hC hW fp_X12_206 hR.1 (Nat.le_of_ble_eq_true rfl) rfl rfl dX12_like_18 (fun H locs hW => ?_)
          have hR := hR.f33 (nI (0))
          refine lv_aload_n hx hb dX12_like_21 rfl (lv_at hl 0 rfl) ?_
          refine lv_aload_n hx hb dX12_like_22 rfl (lv_at hl 0 rfl) ?_
          refine rl_get (v := .ref (m + 18)) hC hW fl_X12_66 hR.1 rfl dX12_like_23 ?_
          refine lv_iload_n hx hb dX12_like_26 rfl (lv_at hl 1 rfl) ?_
          refine rl_iald_n (g := I 19) hC hW hR.a19 (by omega) (by decide) dX12_like_27 ?_
          refine lv_aload_n hx hb dX12_like_28 rfl (lv_at hl 0 rfl) ?_
          refine rl_get (v := .ref (m + 18)) hC hW fl_X12_66 hR.1 rfl dX12_like_29 ?_
          refine lv_iload_n hx hb dX12_like_32 rfl (lv_at hl 2 rfl) ?_
          refine rl_iald_n (g := I 19) hC hW hR.a19 (by omega) (by decide) dX12_like_33 ?_
          refine lv_iconst (v := (nI (0))) hx hb dX12_like_34 (by decide) ?_
          refine rl_callvQ (rl_runV (b := m) (As := [.int (I 19 (p0)), .int (I 19 (q0)), .int (nI (0))]) (rest := []) hC hW (cR_pair l D t A _ z m I L (upd F 33 (nI 0)) hR 0 (by decide) rfl _ _ 0) cs_X12_209 im_X12_pair sl_X12_pair hR.1 rfl ⟨(Nat.le_of_ble_eq_true rfl), (Nat.le_of_ble_eq_true rfl)⟩ rfl hl.1 rfl (Nat.le_of_ble_eq_true rfl) dX12_like_35 ⟨(Nat.le_of_ble_eq_true rfl), (Nat.le_of_ble_eq_true rfl)⟩) hW (fun f1 H locs hp hW => ?_)
          have hR := hp
          refine lv_iconst (v := (nI (1))) hx hb dX12_like_38 (by decide) ?_
          refine lv_istore_n (lv' := [(3, .int (nI (1))), (0, .ref (m)), (1, .int (nI (p0))), (2, .int (nI (q0)))]) hx hb dX12_like_39 rfl hl (by decide) rfl (fun ls hl => ?_)
          replace hl : lv_has ls 7 [(0, .ref (m)), (3, .int (nI (1)))] := lv_sub hl [1, 0] rfl
          have hsp0 : rf_sp ρ κ 1 (va_up (fun _ => none) 0 (G.2.2.2 0 p0)) (va_up (fun _ => none) 0 (G.2.2.2 0 q0)) (va_up (fun _ => 0) 0 0) (upd (I 34) 0 (I 19 p0)) (upd (I 35) 0 (I 19 q0)) (upd (I 36) 0 (nI 0)) := rf_sp.push (n := 0) (w := 0) (fun i hi => absurd hi (Nat.not_lt_zero _)) (hGp.1 p0 hp0) (hGp.1 q0 hq0) (hGW.2.2.1 p0 hp0) (hGW.2.2.1 q0 hq0) (by decide) (by decide)
          have hinv : ∃ f2 : rl_M, ∃ I' : Nat → Nat → Int32, ∃ F' : Nat → Int32, ∃ n1 : Nat, ∃ PA : Nat → pHd, ∃ PB : Nat → pHd, ∃ PW : Nat → Nat, ∃ y : Int32, rl_W D A f2 z s.heap H locs ∧ RM t f2 m I' L F' ∧ (rf_s36 I I' F F') ∧ (F' 33 = nI n1) ∧ (y = 0 ∨ y = 1) ∧ (rf_sp ρ κ n1 PA PB PW (I' 34) (I' 35) (I' 36)) ∧ (pu_lk G 6 (G.2.2.2 0 p0) (G.2.2.2 0 q0) ↔ y = 1 ∧ rf_sc G n1 PA PB PW) ∧ lv_has ls 7 [(0, .ref (m)), (3, .int (y))] := ⟨_, _, _, 1, _, _, _, _, hW, hR, ⟨fun j hj => by rw [va_up_n _ _ (by omega), va_up_n _ _ (by omega), va_up_n _ _ (by omega)], fun j hj => by rw [rg_upl hj, rg_upl hj]⟩, rfl, by decide, hsp0, ⟨fun q => ⟨rfl, rf_sc.push.mpr ⟨fun i hi => absurd hi (Nat.not_lt_zero _), q⟩⟩, fun q => (rf_sc.push.mp q.2).2⟩, hl⟩
          clear hW hR hl
          obtain ⟨f2, I', F', n1, PA, PB, PW, y, hW, hR, hs, h33, hy, hsp, hlkk, hl⟩ := hinv
          obtain ⟨n, hn⟩ : ∃ n, rf_mu (I' 36) n1 < n := ⟨_, Nat.lt_succ_self _⟩
          induction n generalizing f2 I' F' n1 PA PB PW y H locs ls  with
          | zero => exact absurd hn (Nat.not_lt_zero _)
          | succ n ih =>
            have hsI := hs.1
            have hn31 : n1 ≤ 31 := by rcases Nat.eq_zero_or_pos n1 with q | q; omega; obtain ⟨_, _, _, _, _, hw1, hw2⟩ := hsp (n1 - 1) (by omega); omega
            have hTc' : RTc T (I' 0) (I' 1) (I' 2) := (by rw [hsI 0 (Or.inl (by decide)), hsI 1 (Or.inl (by decide)), hsI 2 (Or.inl (by decide))]; exact hTc)
            have hTp' : RTp T (I' 3) (I' 4) (I' 5) (I' 6) := (by rw [hsI 3 (Or.inl (by decide)), hsI 4 (Or.inl (by decide)), hsI 5 (Or.inl (by decide)), hsI 6 (Or.inl (by decide))]; exact hTp)
            have hTk' : RTk T (I' 7) (I' 8) (I' 9) (I' 10) := (by rw [hsI 7 (Or.inl (by decide)), hsI 8 (Or.inl (by decide)), hsI 9 (Or.inl (by decide)), hsI 10 (Or.inl (by decide))]; exact hTk)
            have hGr' : RGr ρ G (I' 12) (I' 13) := (by rw [hsI 12 (Or.inl (by decide)), hsI 13 (Or.inl (by decide))]; exact hGr)
            have hGd' : RGd κ G (I' 15) (I' 16) (L 17) (I' 18) := (by rw [hsI 15 (Or.inl (by decide)), hsI 16 (Or.inl (by decide)), hsI 18 (Or.inl (by decide))]; exact hGd)
            have hGp' : RGp G (I' 19) (L 20) (I' 21) := (by rw [hsI 19 (Or.inl (by decide)), hsI 21 (Or.inl (by decide))]; exact hGp)
            have hGt' : RGt G (F' 22) (L 23) := (by rw [hs.2 22 (by decide)]; exact hGt)
            have hF11' : F' 11 = nI ρ := (by rw [hs.2 11 (by decide)]; exact hF11)
            have hF14' : F' 14 = nI κ := (by rw [hs.2 14 (by decide)]; exact hF14)
            have hGc' : RGc G F' := by unfold RGc; rw [hs.2 24 (by decide), hs.2 25 (by decide), hs.2 26 (by decide), hs.2 28 (by decide), hs.2 29 (by decide), hs.2 30 (by decide)]; exact hGc
            refine lv_aload_n hx hb dX12_like_40 rfl (lv_at hl 0 rfl) ?_
            refine rl_get (v := .int (F' 33)) hC hW fl_X12_206 hR.1 rfl dX12_like_41 ?_
            refine rl_topn (y := nI (n1)) (h33) ?_
            refine lv_if_le (tgt := 186) hx hb dX12_like_44 (by decide) (fun c1 => ?_) (fun c1 => ?_)
            · have hn0 : n1 = 0 := by have := rg_le (a := n1) (b := 0) c1 (by omega) (by decide); omega
              have hsc0 : rf_sc G n1 PA PB PW := fun i hi => by omega
              rcases hy with rfl | rfl
              · refine lv_iload_n hx hb dX12_like_186 rfl (lv_at hl 1 rfl) ?_
                refine lv_if_eq (tgt := 194) hx hb dX12_like_187 (by decide) (fun c_1 => ?_) (fun c_1 => ?_)
                · refine lv_iconst (v := (nI (0))) hx hb dX12_like_194 (by decide) ?_
                  exact rl_iret hC hW hr hlk (Nat.le_refl _) (Nat.le_refl _) ⟨_, rfl, rfl, rfl, by simp only [f_like, ob, pu_ix_s hp0 (by decide), pu_ix_s hq0 (by decide)]; rw [if_neg (fun q => absurd (hlkk.mp q).1 (by decide))]; rfl, ⟨_, _, _, hR, hTc', hTp', hTk', hGW, hGr', hGd', hGp', hGt', hGc', hF11', hF14'⟩⟩ dX12_like_195
                · first | exact absurd c_1 (by decide) | exact absurd (by decide) c_1
              · refine lv_iload_n hx hb dX12_like_186 rfl (lv_at hl 1 rfl) ?_
                refine lv_if_eq (tgt := 194) hx hb dX12_like_187 (by decide) (fun c_2 => ?_) (fun c_2 => ?_)
                · first | exact absurd c_2 (by decide) | exact absurd (by decide) c_2
                · refine lv_iconst (v := (nI (1))) hx hb dX12_like_190 (by decide) ?_
                  refine lv_goto (tgt := 195) hx hb dX12_like_191 (by decide) ?_
                  exact rl_iret hC hW hr hlk (Nat.le_refl _) (Nat.le_refl _) ⟨_, rfl, rfl, rfl, by simp only [f_like, ob, pu_ix_s hp0 (by decide), pu_ix_s hq0 (by decide)]; rw [if_pos (hlkk.mpr ⟨rfl, hsc0⟩)]; rfl, ⟨_, _, _, hR, hTc', hTp', hTk', hGW, hGr', hGd', hGp', hGt', hGc', hF11', hF14'⟩⟩ dX12_like_195
            · refine lv_iload_n hx hb dX12_like_47 rfl (lv_at hl 1 rfl) ?_
              refine lv_if_eq (tgt := 186) hx hb dX12_like_48 (by decide) (fun c2 => ?_) (fun c2 => ?_)
              · subst c2
                refine lv_iload_n hx hb dX12_like_186 rfl (lv_at hl 1 rfl) ?_
                refine lv_if_eq (tgt := 194) hx hb dX12_like_187 (by decide) (fun c_3 => ?_) (fun c_3 => ?_)
                · refine lv_iconst (v := (nI (0))) hx hb dX12_like_194 (by decide) ?_
                  exact rl_iret hC hW hr hlk (Nat.le_refl _) (Nat.le_refl _) ⟨_, rfl, rfl, rfl, by simp only [f_like, ob, pu_ix_s hp0 (by decide), pu_ix_s hq0 (by decide)]; rw [if_neg (fun q => absurd (hlkk.mp q).1 (by decide))]; rfl, ⟨_, _, _, hR, hTc', hTp', hTk', hGW, hGr', hGd', hGp', hGt', hGc', hF11', hF14'⟩⟩ dX12_like_195
                · first | exact absurd c_3 (by decide) | exact absurd (by decide) c_3
              · obtain rfl : y = 1 := hy.resolve_left c2
                have hn0 : n1 ≠ 0 := fun q => c1 (by rw [q]; decide)
                obtain ⟨n2, rfl⟩ : ∃ n2, n1 = n2 + 1 := ⟨n1 - 1, by omega⟩
                obtain ⟨exA, hxA, exB, hxB, hwe, hw6, hw5⟩ := hsp n2 (by omega)
                rw [rf_sc.pop] at hlkk
                refine lv_aload_n hx hb dX12_like_51 rfl (lv_at hl 0 rfl) ?_
                refine lv_dup hx hb dX12_like_52 rfl ?_
                refine rl_get (v := .int (F' 33)) hC hW fl_X12_206 hR.1 rfl dX12_like_53 ?_
                refine rl_topn (y := nI (n2 + 1)) (h33) ?_
                refine lv_iconst (v := (nI (1))) hx hb dX12_like_56 (by decide) ?_
                refine lv_isub hx hb dX12_like_57 ?_
                refine rl_topn (rg_sub (c := n2) (by omega)) ?_
                refine rl_put (v := .int (nI (n2))) hC hW fp_X12_206 hR.1 (Nat.le_of_ble_eq_true rfl) rfl rfl dX12_like_58 (fun H locs hW => ?_)
                have hR := hR.f33 (nI (n2))
                refine lv_aload_n hx hb dX12_like_61 rfl (lv_at hl 0 rfl) ?_
                refine rl_get (v := .ref (m + 24)) hC hW fl_X12_88 hR.1 rfl dX12_like_62 ?_
                refine lv_aload_n hx hb dX12_like_65 rfl (lv_at hl 0 rfl) ?_
                refine rl_get (v := .int (nI (n2))) hC hW fl_X12_206 hR.1 rfl dX12_like_66 ?_
                refine rl_iald_n (g := I' 34) hC hW hR.a34 (by omega) (by decide) dX12_like_69 ?_
                refine rl_topn (exA) ?_
                refine lv_istore (lv' := [(4, .int (enc (PA n2))), (0, .ref (m)), (3, .int (1))]) hx hb dX12_like_70 hl (by decide) rfl (fun ls hl => ?_)
                refine lv_aload_n hx hb dX12_like_72 rfl (lv_at hl 1 rfl) ?_
                refine rl_get (v := .ref (m + 25)) hC hW fl_X12_91 hR.1 rfl dX12_like_73 ?_
                refine lv_aload_n hx hb dX12_like_76 rfl (lv_at hl 1 rfl) ?_
                refine rl_get (v := .int (nI (n2))) hC hW fl_X12_206 hR.1 rfl dX12_like_77 ?_
                refine rl_iald_n (g := I' 35) hC hW hR.a35 (by omega) (by decide) dX12_like_80 ?_
                refine rl_topn (exB) ?_
                refine lv_istore (lv' := [(5, .int (enc (PB n2))), (4, .int (enc (PA n2))), (0, .ref (m)), (3, .int (1))]) hx hb dX12_like_81 hl (by decide) rfl (fun ls hl => ?_)
                refine lv_iload hx hb dX12_like_83 (lv_at hl 1 rfl) ?_
                refine lv_iload hx hb dX12_like_85 (lv_at hl 0 rfl) ?_
                refine lv_icmp_eq (tgt := 183) hx hb dX12_like_87 (by decide) (fun c3 => ?_) (fun c3 => ?_)
                · have hpe : PA n2 = PB n2 := enc_inj (ρ := ρ) (κ := κ) (by omega) (by omega) hxA hxB c3
                  refine lv_goto (tgt := 40) hx hb dX12_like_183 (by decide) ?_
                  replace hl : lv_has ls 7 [(0, .ref (m)), (3, .int (1))] := lv_sub hl [2, 3] rfl
                  exact ih _ _ _ _ I' _ n2 PA PB PW _ hW hR ⟨fun j hj => hsI j hj, fun j hj => by rw [rg_upl hj]; exact hs.2 j hj⟩ rfl (Or.inr rfl) (fun i hi => hsp i (by omega)) (hlkk.trans ⟨fun q => ⟨rfl, q.2.1⟩, fun q => ⟨rfl, q.2, lk_eq hpe⟩⟩) hl (rf_mu_pop hn)
                · have hpn : PA n2 ≠ PB n2 := fun q => c3 (by rw [q])
                  refine lv_aload_n hx hb dX12_like_90 rfl (lv_at hl 2 rfl) ?_
                  refine lv_iload hx hb dX12_like_91 (lv_at hl 1 rfl) ?_
                  refine rl_calliQ (rl_runV (b := m) (As := [.int (enc (PA n2))]) (rest := []) hC hW (cR_familyOf l D t A _ z m I' L _ hR T (fun n hn => ⟨(hTc'.2.2.2 n hn).2.1, (hTc'.2.2.2 n hn).2.2.1⟩) ρ κ (by omega) (by omega) _ _ rfl hxA) cs_X12_160 im_X12_familyOf sl_X12_familyOf hR.1 rfl ⟨(Nat.le_of_ble_eq_true rfl), (Nat.le_of_ble_eq_true rfl)⟩ rfl hl.1 rfl (Nat.le_of_ble_eq_true rfl) dX12_like_93 ⟨(Nat.le_of_ble_eq_true rfl), (Nat.le_of_ble_eq_true rfl)⟩) hW (fun r f1 H locs hp hW => ?_)
                  obtain ⟨rfl, hp1⟩ := hp
                  refine lv_istore (lv' := [(6, .int (r)), (5, .int (enc (PB n2))), (4, .int (enc (PA n2))), (0, .ref (m)), (3, .int (1))]) hx hb dX12_like_96 hl (by decide) rfl (fun ls hl => ?_)
                  refine lv_iload hx hb dX12_like_98 (lv_at hl 0 rfl) ?_
                  refine lv_aload_n hx hb dX12_like_100 rfl (lv_at hl 3 rfl) ?_
                  refine lv_iload hx hb dX12_like_101 (lv_at hl 1 rfl) ?_
                  refine rl_calliQ (rl_runV (b := m) (As := [.int (enc (PB n2))]) (rest := [.int (r)]) hC hW (cR_familyOf l D t A _ z m I' L _ hR T (fun n hn => ⟨(hTc'.2.2.2 n hn).2.1, (hTc'.2.2.2 n hn).2.2.1⟩) ρ κ (by omega) (by omega) _ _ rfl hxB) cs_X12_160 im_X12_familyOf sl_X12_familyOf hR.1 rfl ⟨(Nat.le_of_ble_eq_true rfl), (Nat.le_of_ble_eq_true rfl)⟩ rfl hl.1 rfl (Nat.le_of_ble_eq_true rfl) dX12_like_103 ⟨(Nat.le_of_ble_eq_true rfl), (Nat.le_of_ble_eq_true rfl)⟩) hW (fun r2 f1 H locs hp hW => ?_)
                  obtain ⟨rfl, hp2⟩ := hp
                  rcases hp1 with ⟨hh1, rfl⟩ | ⟨k1, hk1, hh1, ⟨rfl, -⟩ | ⟨rfl, -⟩⟩ | ⟨k1, hk1, hh1, rfl⟩ | ⟨k1, hk1, hh1, rfl⟩
                  · rcases hp2 with ⟨hh2, rfl⟩ | ⟨k2, hk2, hh2, ⟨rfl, -⟩ | ⟨rfl, -⟩⟩ | ⟨k2, hk2, hh2, rfl⟩ | ⟨k2, hk2, hh2, rfl⟩
                    · have hnl : ¬ pu_lk G (6 - PW n2) (PA n2) (PB n2) := by rw [hh1, hh2] at hpn ⊢; exact lk_no hpn (fun _ _ e1 e2 => by first | (cases e1; done) | (cases e2; done)) (fun _ _ e1 e2 => by first | (cases e1; done) | (cases e2; done))
                      refine lv_icmp_ne (tgt := 119) hx hb dX12_like_106 (by decide) (fun c_4 => ?_) (fun c_4 => ?_)
                      · first | exact absurd c_4 (by decide) | exact absurd (by decide) c_4
                      · refine lv_iload hx hb dX12_like_109 (lv_at hl 0 rfl) ?_
                        refine lv_iconst (v := (nI (2))) hx hb dX12_like_111 (by decide) ?_
                        refine lv_icmp_le (tgt := 119) hx hb dX12_like_112 (by decide) (fun c_5 => ?_) (fun c_5 => ?_)
                        · refine lv_iconst (v := (nI (0))) hx hb dX12_like_119 (by decide) ?_
                          refine lv_istore_n (lv' := [(3, .int (nI (0))), (6, .int (0)), (5, .int (enc (PB n2))), (4, .int (enc (PA n2))), (0, .ref (m))]) hx hb dX12_like_120 rfl hl (by decide) rfl (fun ls hl => ?_)
                          refine lv_iload_n hx hb dX12_like_121 rfl (lv_at hl 0 rfl) ?_
                          refine lv_if_eq (tgt := 181) hx hb dX12_like_122 (by decide) (fun c_6 => ?_) (fun c_6 => ?_)
                          · refine lv_iconst (v := (nI (0))) hx hb dX12_like_181 (by decide) ?_
                            refine lv_istore_n (lv' := [(3, .int (nI (0))), (6, .int (0)), (5, .int (enc (PB n2))), (4, .int (enc (PA n2))), (0, .ref (m))]) hx hb dX12_like_182 rfl hl (by decide) rfl (fun ls hl => ?_)
                            refine lv_goto (tgt := 40) hx hb dX12_like_183 (by decide) ?_
                            replace hl : lv_has ls 7 [(0, .ref (m)), (3, .int (nI (0)))] := lv_sub hl [4, 0] rfl
                            exact ih _ _ _ _ I' _ n2 PA PB PW _ hW hR ⟨fun j hj => hsI j hj, fun j hj => by rw [rg_upl hj]; exact hs.2 j hj⟩ rfl (by decide) (fun i hi => hsp i (by omega)) (hlkk.trans ⟨fun q => absurd q.2.2 hnl, fun q => absurd q.1 (by decide)⟩) hl (rf_mu_pop hn)
                          · first | exact absurd c_6 (by decide) | exact absurd (by decide) c_6
                        · first | exact absurd c_5 (by decide) | exact absurd (by decide) c_5
                    · have hnl : ¬ pu_lk G (6 - PW n2) (PA n2) (PB n2) := by rw [hh1, hh2] at hpn ⊢; exact lk_no hpn (fun _ _ e1 e2 => by first | (cases e1; done) | (cases e2; done)) (fun _ _ e1 e2 => by first | (cases e1; done) | (cases e2; done))
                      refine lv_icmp_ne (tgt := 119) hx hb dX12_like_106 (by decide) (fun c_7 => ?_) (fun c_7 => ?_)
                      · refine lv_iconst (v := (nI (0))) hx hb dX12_like_119 (by decide) ?_
                        refine lv_istore_n (lv' := [(3, .int (nI (0))), (6, .int (0)), (5, .int (enc (PB n2))), (4, .int (enc (PA n2))), (0, .ref (m))]) hx hb dX12_like_120 rfl hl (by decide) rfl (fun ls hl => ?_)
                        refine lv_iload_n hx hb dX12_like_121 rfl (lv_at hl 0 rfl) ?_
                        refine lv_if_eq (tgt := 181) hx hb dX12_like_122 (by decide) (fun c_8 => ?_) (fun c_8 => ?_)
                        · refine lv_iconst (v := (nI (0))) hx hb dX12_like_181 (by decide) ?_
                          refine lv_istore_n (lv' := [(3, .int (nI (0))), (6, .int (0)), (5, .int (enc (PB n2))), (4, .int (enc (PA n2))), (0, .ref (m))]) hx hb dX12_like_182 rfl hl (by decide) rfl (fun ls hl => ?_)
                          refine lv_goto (tgt := 40) hx hb dX12_like_183 (by decide) ?_
                          replace hl : lv_has ls 7 [(0, .ref (m)), (3, .int (nI (0)))] := lv_sub hl [4, 0] rfl
                          exact ih _ _ _ _ I' _ n2 PA PB PW _ hW hR ⟨fun j hj => hsI j hj, fun j hj => by rw [rg_upl hj]; exact hs.2 j hj⟩ rfl (by decide) (fun i hi => hsp i (by omega)) (hlkk.trans ⟨fun q => absurd q.2.2 hnl, fun q => absurd q.1 (by decide)⟩) hl (rf_mu_pop hn)
                        · first | exact absurd c_8 (by decide) | exact absurd (by decide) c_8
                      · first | exact absurd c_7 (by decide) | exact absurd (by decide) c_7
                    · have hnl : ¬ pu_lk G (6 - PW n2) (PA n2) (PB n2) := by rw [hh1, hh2] at hpn ⊢; exact lk_no hpn (fun _ _ e1 e2 => by first | (cases e1; done) | (cases e2; done)) (fun _ _ e1 e2 => by first | (cases e1; done) | (cases e2; done))
                      refine lv_icmp_ne (tgt := 119) hx hb dX12_like_106 (by decide) (fun c_9 => ?_) (fun c_9 => ?_)
                      · refine lv_iconst (v := (nI (0))) hx hb dX12_like_119 (by decide) ?_
                        refine lv_istore_n (lv' := [(3, .int (nI (0))), (6, .int (0)), (5, .int (enc (PB n2))), (4, .int (enc (PA n2))), (0, .ref (m))]) hx hb dX12_like_120 rfl hl (by decide) rfl (fun ls hl => ?_)
                        refine lv_iload_n hx hb dX12_like_121 rfl (lv_at hl 0 rfl) ?_
                        refine lv_if_eq (tgt := 181) hx hb dX12_like_122 (by decide) (fun c_10 => ?_) (fun c_10 => ?_)
                        · refine lv_iconst (v := (nI (0))) hx hb dX12_like_181 (by decide) ?_
                          refine lv_istore_n (lv' := [(3, .int (nI (0))), (6, .int (0)), (5, .int (enc (PB n2))), (4, .int (enc (PA n2))), (0, .ref (m))]) hx hb dX12_like_182 rfl hl (by decide) rfl (fun ls hl => ?_)
                          refine lv_goto (tgt := 40) hx hb dX12_like_183 (by decide) ?_
                          replace hl : lv_has ls 7 [(0, .ref (m)), (3, .int (nI (0)))] := lv_sub hl [4, 0] rfl
                          exact ih _ _ _ _ I' _ n2 PA PB PW _ hW hR ⟨fun j hj => hsI j hj, fun j hj => by rw [rg_upl hj]; exact hs.2 j hj⟩ rfl (by decide) (fun i hi => hsp i (by omega)) (hlkk.trans ⟨fun q => absurd q.2.2 hnl, fun q => absurd q.1 (by decide)⟩) hl (rf_mu_pop hn)
                        · first | exact absurd c_10 (by decide) | exact absurd (by decide) c_10
                      · first | exact absurd c_9 (by decide) | exact absurd (by decide) c_9
                    · have hnl : ¬ pu_lk G (6 - PW n2) (PA n2) (PB n2) := by rw [hh1, hh2] at hpn ⊢; exact lk_no hpn (fun _ _ e1 e2 => by first | (cases e1; done) | (cases e2; done)) (fun _ _ e1 e2 => by first | (cases e1; done) | (cases e2; done))
                      refine lv_icmp_ne (tgt := 119) hx hb dX12_like_106 (by decide) (fun c_11 => ?_) (fun c_11 => ?_)
                      · refine lv_iconst (v := (nI (0))) hx hb dX12_like_119 (by decide) ?_
                        refine lv_istore_n (lv' := [(3, .int (nI (0))), (6, .int (0)), (5, .int (enc (PB n2))), (4, .int (enc (PA n2))), (0, .ref (m))]) hx hb dX12_like_120 rfl hl (by decide) rfl (fun ls hl => ?_)
                        refine lv_iload_n hx hb dX12_like_121 rfl (lv_at hl 0 rfl) ?_
                        refine lv_if_eq (tgt := 181) hx hb dX12_like_122 (by decide) (fun c_12 => ?_) (fun c_12 => ?_)
                        · refine lv_iconst (v := (nI (0))) hx hb dX12_like_181 (by decide) ?_
                          refine lv_istore_n (lv' := [(3, .int (nI (0))), (6, .int (0)), (5, .int (enc (PB n2))), (4, .int (enc (PA n2))), (0, .ref (m))]) hx hb dX12_like_182 rfl hl (by decide) rfl (fun ls hl => ?_)
                          refine lv_goto (tgt := 40) hx hb dX12_like_183 (by decide) ?_
                          replace hl : lv_has ls 7 [(0, .ref (m)), (3, .int (nI (0)))] := lv_sub hl [4, 0] rfl
                          exact ih _ _ _ _ I' _ n2 PA PB PW _ hW hR ⟨fun j hj => hsI j hj, fun j hj => by rw [rg_upl hj]; exact hs.2 j hj⟩ rfl (by decide) (fun i hi => hsp i (by omega)) (hlkk.trans ⟨fun q => absurd q.2.2 hnl, fun q => absurd q.1 (by decide)⟩) hl (rf_mu_pop hn)
                        · first | exact absurd c_12 (by decide) | exact absurd (by decide) c_12
                      · first | exact absurd c_11 (by decide) | exact absurd (by decide) c_11
                    · have hnl : ¬ pu_lk G (6 - PW n2) (PA n2) (PB n2) := by rw [hh1, hh2] at hpn ⊢; exact lk_no hpn (fun _ _ e1 e2 => by first | (cases e1; done) | (cases e2; done)) (fun _ _ e1 e2 => by first | (cases e1; done) | (cases e2; done))
                      refine lv_icmp_ne (tgt := 119) hx hb dX12_like_106 (by decide) (fun c_13 => ?_) (fun c_13 => ?_)
                      · refine lv_iconst (v := (nI (0))) hx hb dX12_like_119 (by decide) ?_
                        refine lv_istore_n (lv' := [(3, .int (nI (0))), (6, .int (0)), (5, .int (enc (PB n2))), (4, .int (enc (PA n2))), (0, .ref (m))]) hx hb dX12_like_120 rfl hl (by decide) rfl (fun ls hl => ?_)
                        refine lv_iload_n hx hb dX12_like_121 rfl (lv_at hl 0 rfl) ?_
                        refine lv_if_eq (tgt := 181) hx hb dX12_like_122 (by decide) (fun c_14 => ?_) (fun c_14 => ?_)
                        · refine lv_iconst (v := (nI (0))) hx hb dX12_like_181 (by decide) ?_
                          refine lv_istore_n (lv' := [(3, .int (nI (0))), (6, .int (0)), (5, .int (enc (PB n2))), (4, .int (enc (PA n2))), (0, .ref (m))]) hx hb dX12_like_182 rfl hl (by decide) rfl (fun ls hl => ?_)
                          refine lv_goto (tgt := 40) hx hb dX12_like_183 (by decide) ?_
                          replace hl : lv_has ls 7 [(0, .ref (m)), (3, .int (nI (0)))] := lv_sub hl [4, 0] rfl
                          exact ih _ _ _ _ I' _ n2 PA PB PW _ hW hR ⟨fun j hj => hsI j hj, fun j hj => by rw [rg_upl hj]; exact hs.2 j hj⟩ rfl (by decide) (fun i hi => hsp i (by omega)) (hlkk.trans ⟨fun q => absurd q.2.2 hnl, fun q => absurd q.1 (by decide)⟩) hl (rf_mu_pop hn)
                        · first | exact absurd c_14 (by decide) | exact absurd (by decide) c_14
                      · first | exact absurd c_13 (by decide) | exact absurd (by decide) c_13
                  · rcases hp2 with ⟨hh2, rfl⟩ | ⟨k2, hk2, hh2, ⟨rfl, -⟩ | ⟨rfl, -⟩⟩ | ⟨k2, hk2, hh2, rfl⟩ | ⟨k2, hk2, hh2, rfl⟩
                    · have hnl : ¬ pu_lk G (6 - PW n2) (PA n2) (PB n2) := by rw [hh1, hh2] at hpn ⊢; exact lk_no hpn (fun _ _ e1 e2 => by first | (cases e1; done) | (cases e2; done)) (fun _ _ e1 e2 => by first | (cases e1; done) | (cases e2; done))
                      refine lv_icmp_ne (tgt := 119) hx hb dX12_like_106 (by decide) (fun c_15 => ?_) (fun c_15 => ?_)
                      · refine lv_iconst (v := (nI (0))) hx hb dX12_like_119 (by decide) ?_
                        refine lv_istore_n (lv' := [(3, .int (nI (0))), (6, .int (1)), (5, .int (enc (PB n2))), (4, .int (enc (PA n2))), (0, .ref (m))]) hx hb dX12_like_120 rfl hl (by decide) rfl (fun ls hl => ?_)
                        refine lv_iload_n hx hb dX12_like_121 rfl (lv_at hl 0 rfl) ?_
                        refine lv_if_eq (tgt := 181) hx hb dX12_like_122 (by decide) (fun c_16 => ?_) (fun c_16 => ?_)
                        · refine lv_iconst (v := (nI (0))) hx hb dX12_like_181 (by decide) ?_
                          refine lv_istore_n (lv' := [(3, .int (nI (0))), (6, .int (1)), (5, .int (enc (PB n2))), (4, .int (enc (PA n2))), (0, .ref (m))]) hx hb dX12_like_182 rfl hl (by decide) rfl (fun ls hl => ?_)
                          refine lv_goto (tgt := 40) hx hb dX12_like_183 (by decide) ?_
                          replace hl : lv_has ls 7 [(0, .ref (m)), (3, .int (nI (0)))] := lv_sub hl [4, 0] rfl
                          exact ih _ _ _ _ I' _ n2 PA PB PW _ hW hR ⟨fun j hj => hsI j hj, fun j hj => by rw [rg_upl hj]; exact hs.2 j hj⟩ rfl (by decide) (fun i hi => hsp i (by omega)) (hlkk.trans ⟨fun q => absurd q.2.2 hnl, fun q => absurd q.1 (by decide)⟩) hl (rf_mu_pop hn)
                        · first | exact absurd c_16 (by decide) | exact absurd (by decide) c_16
                      · first | exact absurd c_15 (by decide) | exact absurd (by decide) c_15
                    · have hnl : ¬ pu_lk G (6 - PW n2) (PA n2) (PB n2) := by rw [hh1, hh2] at hpn ⊢; exact lk_no hpn (fun _ _ e1 e2 => by first | (cases e1; done) | (cases e2; done)) (fun _ _ e1 e2 => by first | (cases e1; done) | (cases e2; done))
                      refine lv_icmp_ne (tgt := 119) hx hb dX12_like_106 (by decide) (fun c_17 => ?_) (fun c_17 => ?_)
                      · first | exact absurd c_17 (by decide) | exact absurd (by decide) c_17
                      · refine lv_iload hx hb dX12_like_109 (lv_at hl 0 rfl) ?_
                        refine lv_iconst (v := (nI (2))) hx hb dX12_like_111 (by decide) ?_
                        refine lv_icmp_le (tgt := 119) hx hb dX12_like_112 (by decide) (fun c_18 => ?_) (fun c_18 => ?_)
                        · refine lv_iconst (v := (nI (0))) hx hb dX12_like_119 (by decide) ?_
                          refine lv_istore_n (lv' := [(3, .int (nI (0))), (6, .int (1)), (5, .int (enc (PB n2))), (4, .int (enc (PA n2))), (0, .ref (m))]) hx hb dX12_like_120 rfl hl (by decide) rfl (fun ls hl => ?_)
                          refine lv_iload_n hx hb dX12_like_121 rfl (lv_at hl 0 rfl) ?_
                          refine lv_if_eq (tgt := 181) hx hb dX12_like_122 (by decide) (fun c_19 => ?_) (fun c_19 => ?_)
                          · refine lv_iconst (v := (nI (0))) hx hb dX12_like_181 (by decide) ?_
                            refine lv_istore_n (lv' := [(3, .int (nI (0))), (6, .int (1)), (5, .int (enc (PB n2))), (4, .int (enc (PA n2))), (0, .ref (m))]) hx hb dX12_like_182 rfl hl (by decide) rfl (fun ls hl => ?_)
                            refine lv_goto (tgt := 40) hx hb dX12_like_183 (by decide) ?_
                            replace hl : lv_has ls 7 [(0, .ref (m)), (3, .int (nI (0)))] := lv_sub hl [4, 0] rfl
                            exact ih _ _ _ _ I' _ n2 PA PB PW _ hW hR ⟨fun j hj => hsI j hj, fun j hj => by rw [rg_upl hj]; exact hs.2 j hj⟩ rfl (by decide) (fun i hi => hsp i (by omega)) (hlkk.trans ⟨fun q => absurd q.2.2 hnl, fun q => absurd q.1 (by decide)⟩) hl (rf_mu_pop hn)
                          · first | exact absurd c_19 (by decide) | exact absurd (by decide) c_19
                        · first | exact absurd c_18 (by decide) | exact absurd (by decide) c_18
                    · have hnl : ¬ pu_lk G (6 - PW n2) (PA n2) (PB n2) := by rw [hh1, hh2] at hpn ⊢; exact lk_no hpn (fun _ _ e1 e2 => by first | (cases e1; done) | (cases e2; done)) (fun _ _ e1 e2 => by first | (cases e1; done) | (cases e2; done))
                      refine lv_icmp_ne (tgt := 119) hx hb dX12_like_106 (by decide) (fun c_20 => ?_) (fun c_20 => ?_)
                      · refine lv_iconst (v := (nI (0))) hx hb dX12_like_119 (by decide) ?_
                        refine lv_istore_n (lv' := [(3, .int (nI (0))), (6, .int (1)), (5, .int (enc (PB n2))), (4, .int (enc (PA n2))), (0, .ref (m))]) hx hb dX12_like_120 rfl hl (by decide) rfl (fun ls hl => ?_)
                        refine lv_iload_n hx hb dX12_like_121 rfl (lv_at hl 0 rfl) ?_
                        refine lv_if_eq (tgt := 181) hx hb dX12_like_122 (by decide) (fun c_21 => ?_) (fun c_21 => ?_)
                        · refine lv_iconst (v := (nI (0))) hx hb dX12_like_181 (by decide) ?_
                          refine lv_istore_n (lv' := [(3, .int (nI (0))), (6, .int (1)), (5, .int (enc (PB n2))), (4, .int (enc (PA n2))), (0, .ref (m))]) hx hb dX12_like_182 rfl hl (by decide) rfl (fun ls hl => ?_)
                          refine lv_goto (tgt := 40) hx hb dX12_like_183 (by decide) ?_
                          replace hl : lv_has ls 7 [(0, .ref (m)), (3, .int (nI (0)))] := lv_sub hl [4, 0] rfl
                          exact ih _ _ _ _ I' _ n2 PA PB PW _ hW hR ⟨fun j hj => hsI j hj, fun j hj => by rw [rg_upl hj]; exact hs.2 j hj⟩ rfl (by decide) (fun i hi => hsp i (by omega)) (hlkk.trans ⟨fun q => absurd q.2.2 hnl, fun q => absurd q.1 (by decide)⟩) hl (rf_mu_pop hn)
                        · first | exact absurd c_21 (by decide) | exact absurd (by decide) c_21
                      · first | exact absurd c_20 (by decide) | exact absurd (by decide) c_20
                    · have hnl : ¬ pu_lk G (6 - PW n2) (PA n2) (PB n2) := by rw [hh1, hh2] at hpn ⊢; exact lk_no hpn (fun _ _ e1 e2 => by first | (cases e1; done) | (cases e2; done)) (fun _ _ e1 e2 => by first | (cases e1; done) | (cases e2; done))
                      refine lv_icmp_ne (tgt := 119) hx hb dX12_like_106 (by decide) (fun c_22 => ?_) (fun c_22 => ?_)
                      · refine lv_iconst (v := (nI (0))) hx hb dX12_like_119 (by decide) ?_
                        refine lv_istore_n (lv' := [(3, .int (nI (0))), (6, .int (1)), (5, .int (enc (PB n2))), (4, .int (enc (PA n2))), (0, .ref (m))]) hx hb dX12_like_120 rfl hl (by decide) rfl (fun ls hl => ?_)
                        refine lv_iload_n hx hb dX12_like_121 rfl (lv_at hl 0 rfl) ?_
                        refine lv_if_eq (tgt := 181) hx hb dX12_like_122 (by decide) (fun c_23 => ?_) (fun c_23 => ?_)
                        · refine lv_iconst (v := (nI (0))) hx hb dX12_like_181 (by decide) ?_
                          refine lv_istore_n (lv' := [(3, .int (nI (0))), (6, .int (1)), (5, .int (enc (PB n2))), (4, .int (enc (PA n2))), (0, .ref (m))]) hx hb dX12_like_182 rfl hl (by decide) rfl (fun ls hl => ?_)
                          refine lv_goto (tgt := 40) hx hb dX12_like_183 (by decide) ?_
                          replace hl : lv_has ls 7 [(0, .ref (m)), (3, .int (nI (0)))] := lv_sub hl [4, 0] rfl
                          exact ih _ _ _ _ I' _ n2 PA PB PW _ hW hR ⟨fun j hj => hsI j hj, fun j hj => by rw [rg_upl hj]; exact hs.2 j hj⟩ rfl (by decide) (fun i hi => hsp i (by omega)) (hlkk.trans ⟨fun q => absurd q.2.2 hnl, fun q => absurd q.1 (by decide)⟩) hl (rf_mu_pop hn)
                        · first | exact absurd c_23 (by decide) | exact absurd (by decide) c_23
                      · first | exact absurd c_22 (by decide) | exact absurd (by decide) c_22
                    · have hnl : ¬ pu_lk G (6 - PW n2) (PA n2) (PB n2) := by rw [hh1, hh2] at hpn ⊢; exact lk_no hpn (fun _ _ e1 e2 => by first | (cases e1; done) | (cases e2; done)) (fun _ _ e1 e2 => by first | (cases e1; done) | (cases e2; done))
                      refine lv_icmp_ne (tgt := 119) hx hb dX12_like_106 (by decide) (fun c_24 => ?_) (fun c_24 => ?_)
                      · refine lv_iconst (v := (nI (0))) hx hb dX12_like_119 (by decide) ?_
                        refine lv_istore_n (lv' := [(3, .int (nI (0))), (6, .int (1)), (5, .int (enc (PB n2))), (4, .int (enc (PA n2))), (0, .ref (m))]) hx hb dX12_like_120 rfl hl (by decide) rfl (fun ls hl => ?_)
                        refine lv_iload_n hx hb dX12_like_121 rfl (lv_at hl 0 rfl) ?_
                        refine lv_if_eq (tgt := 181) hx hb dX12_like_122 (by decide) (fun c_25 => ?_) (fun c_25 => ?_)
                        · refine lv_iconst (v := (nI (0))) hx hb dX12_like_181 (by decide) ?_
                          refine lv_istore_n (lv' := [(3, .int (nI (0))), (6, .int (1)), (5, .int (enc (PB n2))), (4, .int (enc (PA n2))), (0, .ref (m))]) hx hb dX12_like_182 rfl hl (by decide) rfl (fun ls hl => ?_)
                          refine lv_goto (tgt := 40) hx hb dX12_like_183 (by decide) ?_
                          replace hl : lv_has ls 7 [(0, .ref (m)), (3, .int (nI (0)))] := lv_sub hl [4, 0] rfl
                          exact ih _ _ _ _ I' _ n2 PA PB PW _ hW hR ⟨fun j hj => hsI j hj, fun j hj => by rw [rg_upl hj]; exact hs.2 j hj⟩ rfl (by decide) (fun i hi => hsp i (by omega)) (hlkk.trans ⟨fun q => absurd q.2.2 hnl, fun q => absurd q.1 (by decide)⟩) hl (rf_mu_pop hn)
                        · first | exact absurd c_25 (by decide) | exact absurd (by decide) c_25
                      · first | exact absurd c_24 (by decide) | exact absurd (by decide) c_24
                  · rcases hp2 with ⟨hh2, rfl⟩ | ⟨k2, hk2, hh2, ⟨rfl, -⟩ | ⟨rfl, -⟩⟩ | ⟨k2, hk2, hh2, rfl⟩ | ⟨k2, hk2, hh2, rfl⟩
                    · have hnl : ¬ pu_lk G (6 - PW n2) (PA n2) (PB n2) := by rw [hh1, hh2] at hpn ⊢; exact lk_no hpn (fun _ _ e1 e2 => by first | (cases e1; done) | (cases e2; done)) (fun _ _ e1 e2 => by first | (cases e1; done) | (cases e2; done))
                      refine lv_icmp_ne (tgt := 119) hx hb dX12_like_106 (by decide) (fun c_26 => ?_) (fun c_26 => ?_)
                      · refine lv_iconst (v := (nI (0))) hx hb dX12_like_119 (by decide) ?_
                        refine lv_istore_n (lv' := [(3, .int (nI (0))), (6, .int (2)), (5, .int (enc (PB n2))), (4, .int (enc (PA n2))), (0, .ref (m))]) hx hb dX12_like_120 rfl hl (by decide) rfl (fun ls hl => ?_)
                        refine lv_iload_n hx hb dX12_like_121 rfl (lv_at hl 0 rfl) ?_
                        refine lv_if_eq (tgt := 181) hx hb dX12_like_122 (by decide) (fun c_27 => ?_) (fun c_27 => ?_)
                        · refine lv_iconst (v := (nI (0))) hx hb dX12_like_181 (by decide) ?_
                          refine lv_istore_n (lv' := [(3, .int (nI (0))), (6, .int (2)), (5, .int (enc (PB n2))), (4, .int (enc (PA n2))), (0, .ref (m))]) hx hb dX12_like_182 rfl hl (by decide) rfl (fun ls hl => ?_)
                          refine lv_goto (tgt := 40) hx hb dX12_like_183 (by decide) ?_
                          replace hl : lv_has ls 7 [(0, .ref (m)), (3, .int (nI (0)))] := lv_sub hl [4, 0] rfl
                          exact ih _ _ _ _ I' _ n2 PA PB PW _ hW hR ⟨fun j hj => hsI j hj, fun j hj => by rw [rg_upl hj]; exact hs.2 j hj⟩ rfl (by decide) (fun i hi => hsp i (by omega)) (hlkk.trans ⟨fun q => absurd q.2.2 hnl, fun q => absurd q.1 (by decide)⟩) hl (rf_mu_pop hn)
                        · first | exact absurd c_27 (by decide) | exact absurd (by decide) c_27
                      · first | exact absurd c_26 (by decide) | exact absurd (by decide) c_26
                    · have hnl : ¬ pu_lk G (6 - PW n2) (PA n2) (PB n2) := by rw [hh1, hh2] at hpn ⊢; exact lk_no hpn (fun _ _ e1 e2 => by first | (cases e1; done) | (cases e2; done)) (fun _ _ e1 e2 => by first | (cases e1; done) | (cases e2; done))
                      refine lv_icmp_ne (tgt := 119) hx hb dX12_like_106 (by decide) (fun c_28 => ?_) (fun c_28 => ?_)
                      · refine lv_iconst (v := (nI (0))) hx hb dX12_like_119 (by decide) ?_
                        refine lv_istore_n (lv' := [(3, .int (nI (0))), (6, .int (2)), (5, .int (enc (PB n2))), (4, .int (enc (PA n2))), (0, .ref (m))]) hx hb dX12_like_120 rfl hl (by decide) rfl (fun ls hl => ?_)
                        refine lv_iload_n hx hb dX12_like_121 rfl (lv_at hl 0 rfl) ?_
                        refine lv_if_eq (tgt := 181) hx hb dX12_like_122 (by decide) (fun c_29 => ?_) (fun c_29 => ?_)
                        · refine lv_iconst (v := (nI (0))) hx hb dX12_like_181 (by decide) ?_
                          refine lv_istore_n (lv' := [(3, .int (nI (0))), (6, .int (2)), (5, .int (enc (PB n2))), (4, .int (enc (PA n2))), (0, .ref (m))]) hx hb dX12_like_182 rfl hl (by decide) rfl (fun ls hl => ?_)
                          refine lv_goto (tgt := 40) hx hb dX12_like_183 (by decide) ?_
                          replace hl : lv_has ls 7 [(0, .ref (m)), (3, .int (nI (0)))] := lv_sub hl [4, 0] rfl
                          exact ih _ _ _ _ I' _ n2 PA PB PW _ hW hR ⟨fun j hj => hsI j hj, fun j hj => by rw [rg_upl hj]; exact hs.2 j hj⟩ rfl (by decide) (fun i hi => hsp i (by omega)) (hlkk.trans ⟨fun q => absurd q.2.2 hnl, fun q => absurd q.1 (by decide)⟩) hl (rf_mu_pop hn)
                        · first | exact absurd c_29 (by decide) | exact absurd (by decide) c_29
                      · first | exact absurd c_28 (by decide) | exact absurd (by decide) c_28
                    · have hnl : ¬ pu_lk G (6 - PW n2) (PA n2) (PB n2) := by rw [hh1, hh2] at hpn ⊢; exact lk_no hpn (fun _ _ e1 e2 => by first | (cases e1; done) | (cases e2; done)) (fun _ _ e1 e2 => by first | (cases e1; done) | (cases e2; done))
                      refine lv_icmp_ne (tgt := 119) hx hb dX12_like_106 (by decide) (fun c_30 => ?_) (fun c_30 => ?_)
                      · first | exact absurd c_30 (by decide) | exact absurd (by decide) c_30
                      · refine lv_iload hx hb dX12_like_109 (lv_at hl 0 rfl) ?_
                        refine lv_iconst (v := (nI (2))) hx hb dX12_like_111 (by decide) ?_
                        refine lv_icmp_le (tgt := 119) hx hb dX12_like_112 (by decide) (fun c_31 => ?_) (fun c_31 => ?_)
                        · refine lv_iconst (v := (nI (0))) hx hb dX12_like_119 (by decide) ?_
                          refine lv_istore_n (lv' := [(3, .int (nI (0))), (6, .int (2)), (5, .int (enc (PB n2))), (4, .int (enc (PA n2))), (0, .ref (m))]) hx hb dX12_like_120 rfl hl (by decide) rfl (fun ls hl => ?_)
                          refine lv_iload_n hx hb dX12_like_121 rfl (lv_at hl 0 rfl) ?_
                          refine lv_if_eq (tgt := 181) hx hb dX12_like_122 (by decide) (fun c_32 => ?_) (fun c_32 => ?_)
                          · refine lv_iconst (v := (nI (0))) hx hb dX12_like_181 (by decide) ?_
                            refine lv_istore_n (lv' := [(3, .int (nI (0))), (6, .int (2)), (5, .int (enc (PB n2))), (4, .int (enc (PA n2))), (0, .ref (m))]) hx hb dX12_like_182 rfl hl (by decide) rfl (fun ls hl => ?_)
                            refine lv_goto (tgt := 40) hx hb dX12_like_183 (by decide) ?_
                            replace hl : lv_has ls 7 [(0, .ref (m)), (3, .int (nI (0)))] := lv_sub hl [4, 0] rfl
                            exact ih _ _ _ _ I' _ n2 PA PB PW _ hW hR ⟨fun j hj => hsI j hj, fun j hj => by rw [rg_upl hj]; exact hs.2 j hj⟩ rfl (by decide) (fun i hi => hsp i (by omega)) (hlkk.trans ⟨fun q => absurd q.2.2 hnl, fun q => absurd q.1 (by decide)⟩) hl (rf_mu_pop hn)
                          · first | exact absurd c_32 (by decide) | exact absurd (by decide) c_32
                        · first | exact absurd c_31 (by decide) | exact absurd (by decide) c_31
                    · have hnl : ¬ pu_lk G (6 - PW n2) (PA n2) (PB n2) := by rw [hh1, hh2] at hpn ⊢; exact lk_no hpn (fun _ _ e1 e2 => by first | (cases e1; done) | (cases e2; done)) (fun _ _ e1 e2 => by first | (cases e1; done) | (cases e2; done))
                      refine lv_icmp_ne (tgt := 119) hx hb dX12_like_106 (by decide) (fun c_33 => ?_) (fun c_33 => ?_)
                      · refine lv_iconst (v := (nI (0))) hx hb dX12_like_119 (by decide) ?_
                        refine lv_istore_n (lv' := [(3, .int (nI (0))), (6, .int (2)), (5, .int (enc (PB n2))), (4, .int (enc (PA n2))), (0, .ref (m))]) hx hb dX12_like_120 rfl hl (by decide) rfl (fun ls hl => ?_)
                        refine lv_iload_n hx hb dX12_like_121 rfl (lv_at hl 0 rfl) ?_
                        refine lv_if_eq (tgt := 181) hx hb dX12_like_122 (by decide) (fun c_34 => ?_) (fun c_34 => ?_)
                        · refine lv_iconst (v := (nI (0))) hx hb dX12_like_181 (by decide) ?_
                          refine lv_istore_n (lv' := [(3, .int (nI (0))), (6, .int (2)), (5, .int (enc (PB n2))), (4, .int (enc (PA n2))), (0, .ref (m))]) hx hb dX12_like_182 rfl hl (by decide) rfl (fun ls hl => ?_)
                          refine lv_goto (tgt := 40) hx hb dX12_like_183 (by decide) ?_
                          replace hl : lv_has ls 7 [(0, .ref (m)), (3, .int (nI (0)))] := lv_sub hl [4, 0] rfl
                          exact ih _ _ _ _ I' _ n2 PA PB PW _ hW hR ⟨fun j hj => hsI j hj, fun j hj => by rw [rg_upl hj]; exact hs.2 j hj⟩ rfl (by decide) (fun i hi => hsp i (by omega)) (hlkk.trans ⟨fun q => absurd q.2.2 hnl, fun q => absurd q.1 (by decide)⟩) hl (rf_mu_pop hn)
                        · first | exact absurd c_34 (by decide) | exact absurd (by decide) c_34
                      · first | exact absurd c_33 (by decide) | exact absurd (by decide) c_33
                    · have hnl : ¬ pu_lk G (6 - PW n2) (PA n2) (PB n2) := by rw [hh1, hh2] at hpn ⊢; exact lk_no hpn (fun _ _ e1 e2 => by first | (cases e1; done) | (cases e2; done)) (fun _ _ e1 e2 => by first | (cases e1; done) | (cases e2; done))
                      refine lv_icmp_ne (tgt := 119) hx hb dX12_like_106 (by decide) (fun c_35 => ?_) (fun c_35 => ?_)
                      · refine lv_iconst (v := (nI (0))) hx hb dX12_like_119 (by decide) ?_
                        refine lv_istore_n (lv' := [(3, .int (nI (0))), (6, .int (2)), (5, .int (enc (PB n2))), (4, .int (enc (PA n2))), (0, .ref (m))]) hx hb dX12_like_120 rfl hl (by decide) rfl (fun ls hl => ?_)
                        refine lv_iload_n hx hb dX12_like_121 rfl (lv_at hl 0 rfl) ?_
                        refine lv_if_eq (tgt := 181) hx hb dX12_like_122 (by decide) (fun c_36 => ?_) (fun c_36 => ?_)
                        · refine lv_iconst (v := (nI (0))) hx hb dX12_like_181 (by decide) ?_
                          refine lv_istore_n (lv' := [(3, .int (nI (0))), (6, .int (2)), (5, .int (enc (PB n2))), (4, .int (enc (PA n2))), (0, .ref (m))]) hx hb dX12_like_182 rfl hl (by decide) rfl (fun ls hl => ?_)
                          refine lv_goto (tgt := 40) hx hb dX12_like_183 (by decide) ?_
                          replace hl : lv_has ls 7 [(0, .ref (m)), (3, .int (nI (0)))] := lv_sub hl [4, 0] rfl
                          exact ih _ _ _ _ I' _ n2 PA PB PW _ hW hR ⟨fun j hj => hsI j hj, fun j hj => by rw [rg_upl hj]; exact hs.2 j hj⟩ rfl (by decide) (fun i hi => hsp i (by omega)) (hlkk.trans ⟨fun q => absurd q.2.2 hnl, fun q => absurd q.1 (by decide)⟩) hl (rf_mu_pop hn)
                        · first | exact absurd c_36 (by decide) | exact absurd (by decide) c_36
                      · first | exact absurd c_35 (by decide) | exact absurd (by decide) c_35
                  · rcases hp2 with ⟨hh2, rfl⟩ | ⟨k2, hk2, hh2, ⟨rfl, -⟩ | ⟨rfl, -⟩⟩ | ⟨k2, hk2, hh2, rfl⟩ | ⟨k2, hk2, hh2, rfl⟩
                    · have hnl : ¬ pu_lk G (6 - PW n2) (PA n2) (PB n2) := by rw [hh1, hh2] at hpn ⊢; exact lk_no hpn (fun _ _ e1 e2 => by first | (cases e1; done) | (cases e2; done)) (fun _ _ e1 e2 => by first | (cases e1; done) | (cases e2; done))
                      refine lv_icmp_ne (tgt := 119) hx hb dX12_like_106 (by decide) (fun c_37 => ?_) (fun c_37 => ?_)
                      · refine lv_iconst (v := (nI (0))) hx hb dX12_like_119 (by decide) ?_
                        refine lv_istore_n (lv' := [(3, .int (nI (0))), (6, .int (3)), (5, .int (enc (PB n2))), (4, .int (enc (PA n2))), (0, .ref (m))]) hx hb dX12_like_120 rfl hl (by decide) rfl (fun ls hl => ?_)
                        refine lv_iload_n hx hb dX12_like_121 rfl (lv_at hl 0 rfl) ?_
                        refine lv_if_eq (tgt := 181) hx hb dX12_like_122 (by decide) (fun c_38 => ?_) (fun c_38 => ?_)
                        · refine lv_iconst (v := (nI (0))) hx hb dX12_like_181 (by decide) ?_
                          refine lv_istore_n (lv' := [(3, .int (nI (0))), (6, .int (3)), (5, .int (enc (PB n2))), (4, .int (enc (PA n2))), (0, .ref (m))]) hx hb dX12_like_182 rfl hl (by decide) rfl (fun ls hl => ?_)
                          refine lv_goto (tgt := 40) hx hb dX12_like_183 (by decide) ?_
                          replace hl : lv_has ls 7 [(0, .ref (m)), (3, .int (nI (0)))] := lv_sub hl [4, 0] rfl
                          exact ih _ _ _ _ I' _ n2 PA PB PW _ hW hR ⟨fun j hj => hsI j hj, fun j hj => by rw [rg_upl hj]; exact hs.2 j hj⟩ rfl (by decide) (fun i hi => hsp i (by omega)) (hlkk.trans ⟨fun q => absurd q.2.2 hnl, fun q => absurd q.1 (by decide)⟩) hl (rf_mu_pop hn)
                        · first | exact absurd c_38 (by decide) | exact absurd (by decide) c_38
                      · first | exact absurd c_37 (by decide) | exact absurd (by decide) c_37
                    · have hnl : ¬ pu_lk G (6 - PW n2) (PA n2) (PB n2) := by rw [hh1, hh2] at hpn ⊢; exact lk_no hpn (fun _ _ e1 e2 => by first | (cases e1; done) | (cases e2; done)) (fun _ _ e1 e2 => by first | (cases e1; done) | (cases e2; done))
                      refine lv_icmp_ne (tgt := 119) hx hb dX12_like_106 (by decide) (fun c_39 => ?_) (fun c_39 => ?_)
                      · refine lv_iconst (v := (nI (0))) hx hb dX12_like_119 (by decide) ?_
                        refine lv_istore_n (lv' := [(3, .int (nI (0))), (6, .int (3)), (5, .int (enc (PB n2))), (4, .int (enc (PA n2))), (0, .ref (m))]) hx hb dX12_like_120 rfl hl (by decide) rfl (fun ls hl => ?_)
                        refine lv_iload_n hx hb dX12_like_121 rfl (lv_at hl 0 rfl) ?_
                        refine lv_if_eq (tgt := 181) hx hb dX12_like_122 (by decide) (fun c_40 => ?_) (fun c_40 => ?_)
                        · refine lv_iconst (v := (nI (0))) hx hb dX12_like_181 (by decide) ?_
                          refine lv_istore_n (lv' := [(3, .int (nI (0))), (6, .int (3)), (5, .int (enc (PB n2))), (4, .int (enc (PA n2))), (0, .ref (m))]) hx hb dX12_like_182 rfl hl (by decide) rfl (fun ls hl => ?_)
                          refine lv_goto (tgt := 40) hx hb dX12_like_183 (by decide) ?_
                          replace hl : lv_has ls 7 [(0, .ref (m)), (3, .int (nI (0)))] := lv_sub hl [4, 0] rfl
                          exact ih _ _ _ _ I' _ n2 PA PB PW _ hW hR ⟨fun j hj => hsI j hj, fun j hj => by rw [rg_upl hj]; exact hs.2 j hj⟩ rfl (by decide) (fun i hi => hsp i (by omega)) (hlkk.trans ⟨fun q => absurd q.2.2 hnl, fun q => absurd q.1 (by decide)⟩) hl (rf_mu_pop hn)
                        · first | exact absurd c_40 (by decide) | exact absurd (by decide) c_40
                      · first | exact absurd c_39 (by decide) | exact absurd (by decide) c_39
                    · have hnl : ¬ pu_lk G (6 - PW n2) (PA n2) (PB n2) := by rw [hh1, hh2] at hpn ⊢; exact lk_no hpn (fun _ _ e1 e2 => by first | (cases e1; done) | (cases e2; done)) (fun _ _ e1 e2 => by first | (cases e1; done) | (cases e2; done))
                      refine lv_icmp_ne (tgt := 119) hx hb dX12_like_106 (by decide) (fun c_41 => ?_) (fun c_41 => ?_)
                      · refine lv_iconst (v := (nI (0))) hx hb dX12_like_119 (by decide) ?_
                        refine lv_istore_n (lv' := [(3, .int (nI (0))), (6, .int (3)), (5, .int (enc (PB n2))), (4, .int (enc (PA n2))), (0, .ref (m))]) hx hb dX12_like_120 rfl hl (by decide) rfl (fun ls hl => ?_)
                        refine lv_iload_n hx hb dX12_like_121 rfl (lv_at hl 0 rfl) ?_
                        refine lv_if_eq (tgt := 181) hx hb dX12_like_122 (by decide) (fun c_42 => ?_) (fun c_42 => ?_)
                        · refine lv_iconst (v := (nI (0))) hx hb dX12_like_181 (by decide) ?_
                          refine lv_istore_n (lv' := [(3, .int (nI (0))), (6, .int (3)), (5, .int (enc (PB n2))), (4, .int (enc (PA n2))), (0, .ref (m))]) hx hb dX12_like_182 rfl hl (by decide) rfl (fun ls hl => ?_)
                          refine lv_goto (tgt := 40) hx hb dX12_like_183 (by decide) ?_
                          replace hl : lv_has ls 7 [(0, .ref (m)), (3, .int (nI (0)))] := lv_sub hl [4, 0] rfl
                          exact ih _ _ _ _ I' _ n2 PA PB PW _ hW hR ⟨fun j hj => hsI j hj, fun j hj => by rw [rg_upl hj]; exact hs.2 j hj⟩ rfl (by decide) (fun i hi => hsp i (by omega)) (hlkk.trans ⟨fun q => absurd q.2.2 hnl, fun q => absurd q.1 (by decide)⟩) hl (rf_mu_pop hn)
                        · first | exact absurd c_42 (by decide) | exact absurd (by decide) c_42
                      · first | exact absurd c_41 (by decide) | exact absurd (by decide) c_41
                    · have he1 : enc (PA n2) = nI (100 + k1) := by rw [hh1]; rfl
                      have he2 : enc (PB n2) = nI (100 + k2) := by rw [hh2]; rfl
                      rw [he1, he2] at hl
                      have hlr : pu_lk G (6 - PW n2) (PA n2) (PB n2) ↔ pu_rl G k1 k2 := by rw [hh1, hh2] at hpn ⊢; exact lk_row hpn
                      refine lv_icmp_ne (tgt := 119) hx hb dX12_like_106 (by decide) (fun c_43 => ?_) (fun c_43 => ?_)
                      · first | exact absurd c_43 (by decide) | exact absurd (by decide) c_43
                      · refine lv_iload hx hb dX12_like_109 (lv_at hl 0 rfl) ?_
                        refine lv_iconst (v := (nI (2))) hx hb dX12_like_111 (by decide) ?_
                        refine lv_icmp_le (tgt := 119) hx hb dX12_like_112 (by decide) (fun c_44 => ?_) (fun c_44 => ?_)
                        · first | exact absurd c_44 (by decide) | exact absurd (by decide) c_44
                        · refine lv_iconst (v := (nI (1))) hx hb dX12_like_115 (by decide) ?_
                          refine lv_goto (tgt := 120) hx hb dX12_like_116 (by decide) ?_
                          refine lv_istore_n (lv' := [(3, .int (nI (1))), (6, .int (3)), (5, .int (nI (100 + k2))), (4, .int (nI (100 + k1))), (0, .ref (m))]) hx hb dX12_like_120 rfl hl (by decide) rfl (fun ls hl => ?_)
                          refine lv_iload_n hx hb dX12_like_121 rfl (lv_at hl 0 rfl) ?_
                          refine lv_if_eq (tgt := 181) hx hb dX12_like_122 (by decide) (fun c_45 => ?_) (fun c_45 => ?_)
                          · first | exact absurd c_45 (by decide) | exact absurd (by decide) c_45
                          · refine lv_iload hx hb dX12_like_125 (lv_at hl 1 rfl) ?_
                            refine lv_iconst (v := (nI (3))) hx hb dX12_like_127 (by decide) ?_
                            refine lv_icmp_ne (tgt := 151) hx hb dX12_like_128 (by decide) (fun c_46 => ?_) (fun c_46 => ?_)
                            · first | exact absurd c_46 (by decide) | exact absurd (by decide) c_46
                            · refine lv_aload_n hx hb dX12_like_131 rfl (lv_at hl 4 rfl) ?_
                              refine lv_iload hx hb dX12_like_132 (lv_at hl 3 rfl) ?_
                              refine lv_bipush (v := (nI (100))) hx hb dX12_like_134 (by decide) ?_
                              refine lv_isub hx hb dX12_like_136 ?_
                              refine rl_topn (rg_sub (c := k1) (by omega)) ?_
                              refine lv_iload hx hb dX12_like_137 (lv_at hl 2 rfl) ?_
                              refine lv_bipush (v := (nI (100))) hx hb dX12_like_139 (by decide) ?_
                              refine lv_isub hx hb dX12_like_141 ?_
                              refine rl_topn (rg_sub (c := k2) (by omega)) ?_
                              refine rl_calliQ (rl_runV (b := m) (As := [.int (nI (k1)), .int (nI (k2))]) (rest := []) hC hW (cR_rowsLike l D t A _ z m I' L _ hR T ρ κ G (by omega) hGW hGr' k1 k2 hk1 hk2) cs_X12_213 im_X12_rowsLike sl_X12_rowsLike hR.1 rfl ⟨(Nat.le_of_ble_eq_true rfl), (Nat.le_of_ble_eq_true rfl)⟩ rfl hl.1 rfl (Nat.le_of_ble_eq_true rfl) dX12_like_142 ⟨(Nat.le_of_ble_eq_true rfl), (Nat.le_of_ble_eq_true rfl)⟩) hW (fun r f1 H locs hp hW => ?_)
                              obtain ⟨rfl, hp⟩ := hp
                              rcases hp with ⟨rfl, hp⟩ | ⟨rfl, hp⟩
                              · refine lv_if_eq (tgt := 181) hx hb dX12_like_145 (by decide) (fun c_47 => ?_) (fun c_47 => ?_)
                                · first | exact absurd c_47 (by decide) | exact absurd (by decide) c_47
                                · refine lv_goto (tgt := 177) hx hb dX12_like_148 (by decide) ?_
                                  refine lv_iconst (v := (nI (1))) hx hb dX12_like_177 (by decide) ?_
                                  refine lv_goto (tgt := 182) hx hb dX12_like_178 (by decide) ?_
                                  refine lv_istore_n (lv' := [(3, .int (nI (1))), (6, .int (3)), (5, .int (nI (100 + k2))), (4, .int (nI (100 + k1))), (0, .ref (m))]) hx hb dX12_like_182 rfl hl (by decide) rfl (fun ls hl => ?_)
                                  refine lv_goto (tgt := 40) hx hb dX12_like_183 (by decide) ?_
                                  replace hl : lv_has ls 7 [(0, .ref (m)), (3, .int (nI (1)))] := lv_sub hl [4, 0] rfl
                                  exact ih _ _ _ _ I' _ n2 PA PB PW _ hW hR ⟨fun j hj => hsI j hj, fun j hj => by rw [rg_upl hj]; exact hs.2 j hj⟩ rfl (Or.inr rfl) (fun i hi => hsp i (by omega)) (hlkk.trans ⟨fun q => ⟨rfl, q.2.1⟩, fun q => ⟨rfl, q.2, hlr.mpr hp⟩⟩) hl (rf_mu_pop hn)
                              · refine lv_if_eq (tgt := 181) hx hb dX12_like_145 (by decide) (fun c_48 => ?_) (fun c_48 => ?_)
                                · refine lv_iconst (v := (nI (0))) hx hb dX12_like_181 (by decide) ?_
                                  refine lv_istore_n (lv' := [(3, .int (nI (0))), (6, .int (3)), (5, .int (nI (100 + k2))), (4, .int (nI (100 + k1))), (0, .ref (m))]) hx hb dX12_like_182 rfl hl (by decide) rfl (fun ls hl => ?_)
                                  refine lv_goto (tgt := 40) hx hb dX12_like_183 (by decide) ?_
                                  replace hl : lv_has ls 7 [(0, .ref (m)), (3, .int (nI (0)))] := lv_sub hl [4, 0] rfl
                                  exact ih _ _ _ _ I' _ n2 PA PB PW _ hW hR ⟨fun j hj => hsI j hj, fun j hj => by rw [rg_upl hj]; exact hs.2 j hj⟩ rfl (Or.inl rfl) (fun i hi => hsp i (by omega)) (hlkk.trans ⟨fun q => absurd (hlr.mp q.2.2) hp, fun q => absurd q.1 (by decide)⟩) hl (rf_mu_pop hn)
                                · first | exact absurd c_48 (by decide) | exact absurd (by decide) c_48
                    · have hnl : ¬ pu_lk G (6 - PW n2) (PA n2) (PB n2) := by rw [hh1, hh2] at hpn ⊢; exact lk_no hpn (fun _ _ e1 e2 => by first | (cases e1; done) | (cases e2; done)) (fun _ _ e1 e2 => by first | (cases e1; done) | (cases e2; done))
                      refine lv_icmp_ne (tgt := 119) hx hb dX12_like_106 (by decide) (fun c_49 => ?_) (fun c_49 => ?_)
                      · refine lv_iconst (v := (nI (0))) hx hb dX12_like_119 (by decide) ?_
                        refine lv_istore_n (lv' := [(3, .int (nI (0))), (6, .int (3)), (5, .int (enc (PB n2))), (4, .int (enc (PA n2))), (0, .ref (m))]) hx hb dX12_like_120 rfl hl (by decide) rfl (fun ls hl => ?_)
                        refine lv_iload_n hx hb dX12_like_121 rfl (lv_at hl 0 rfl) ?_
                        refine lv_if_eq (tgt := 181) hx hb dX12_like_122 (by decide) (fun c_50 => ?_) (fun c_50 => ?_)
                        · refine lv_iconst (v := (nI (0))) hx hb dX12_like_181 (by decide) ?_
                          refine lv_istore_n (lv' := [(3, .int (nI (0))), (6, .int (3)), (5, .int (enc (PB n2))), (4, .int (enc (PA n2))), (0, .ref (m))]) hx hb dX12_like_182 rfl hl (by decide) rfl (fun ls hl => ?_)
                          refine lv_goto (tgt := 40) hx hb dX12_like_183 (by decide) ?_
                          replace hl : lv_has ls 7 [(0, .ref (m)), (3, .int (nI (0)))] := lv_sub hl [4, 0] rfl
                          exact ih _ _ _ _ I' _ n2 PA PB PW _ hW hR ⟨fun j hj => hsI j hj, fun j hj => by rw [rg_upl hj]; exact hs.2 j hj⟩ rfl (by decide) (fun i hi => hsp i (by omega)) (hlkk.trans ⟨fun q => absurd q.2.2 hnl, fun q => absurd q.1 (by decide)⟩) hl (rf_mu_pop hn)
                        · first | exact absurd c_50 (by decide) | exact absurd (by decide) c_50
                      · first | exact absurd c_49 (by decide) | exact absurd (by decide) c_49
                  · rcases hp2 with ⟨hh2, rfl⟩ | ⟨k2, hk2, hh2, ⟨rfl, -⟩ | ⟨rfl, -⟩⟩ | ⟨k2, hk2, hh2, rfl⟩ | ⟨k2, hk2, hh2, rfl⟩
                    · have hnl : ¬ pu_lk G (6 - PW n2) (PA n2) (PB n2) := by rw [hh1, hh2] at hpn ⊢; exact lk_no hpn (fun _ _ e1 e2 => by first | (cases e1; done) | (cases e2; done)) (fun _ _ e1 e2 => by first | (cases e1; done) | (cases e2; done))
                      refine lv_icmp_ne (tgt := 119) hx hb dX12_like_106 (by decide) (fun c_51 => ?_) (fun c_51 => ?_)
                      · refine lv_iconst (v := (nI (0))) hx hb dX12_like_119 (by decide) ?_
                        refine lv_istore_n (lv' := [(3, .int (nI (0))), (6, .int (4)), (5, .int (enc (PB n2))), (4, .int (enc (PA n2))), (0, .ref (m))]) hx hb dX12_like_120 rfl hl (by decide) rfl (fun ls hl => ?_)
                        refine lv_iload_n hx hb dX12_like_121 rfl (lv_at hl 0 rfl) ?_
                        refine lv_if_eq (tgt := 181) hx hb dX12_like_122 (by decide) (fun c_52 => ?_) (fun c_52 => ?_)
                        · refine lv_iconst (v := (nI (0))) hx hb dX12_like_181 (by decide) ?_
                          refine lv_istore_n (lv' := [(3, .int (nI (0))), (6, .int (4)), (5, .int (enc (PB n2))), (4, .int (enc (PA n2))), (0, .ref (m))]) hx hb dX12_like_182 rfl hl (by decide) rfl (fun ls hl => ?_)
                          refine lv_goto (tgt := 40) hx hb dX12_like_183 (by decide) ?_
                          replace hl : lv_has ls 7 [(0, .ref (m)), (3, .int (nI (0)))] := lv_sub hl [4, 0] rfl
                          exact ih _ _ _ _ I' _ n2 PA PB PW _ hW hR ⟨fun j hj => hsI j hj, fun j hj => by rw [rg_upl hj]; exact hs.2 j hj⟩ rfl (by decide) (fun i hi => hsp i (by omega)) (hlkk.trans ⟨fun q => absurd q.2.2 hnl, fun q => absurd q.1 (by decide)⟩) hl (rf_mu_pop hn)
                        · first | exact absurd c_52 (by decide) | exact absurd (by decide) c_52
                      · first | exact absurd c_51 (by decide) | exact absurd (by decide) c_51
                    · have hnl : ¬ pu_lk G (6 - PW n2) (PA n2) (PB n2) := by rw [hh1, hh2] at hpn ⊢; exact lk_no hpn (fun _ _ e1 e2 => by first | (cases e1; done) | (cases e2; done)) (fun _ _ e1 e2 => by first | (cases e1; done) | (cases e2; done))
                      refine lv_icmp_ne (tgt := 119) hx hb dX12_like_106 (by decide) (fun c_53 => ?_) (fun c_53 => ?_)
                      · refine lv_iconst (v := (nI (0))) hx hb dX12_like_119 (by decide) ?_
                        refine lv_istore_n (lv' := [(3, .int (nI (0))), (6, .int (4)), (5, .int (enc (PB n2))), (4, .int (enc (PA n2))), (0, .ref (m))]) hx hb dX12_like_120 rfl hl (by decide) rfl (fun ls hl => ?_)
                        refine lv_iload_n hx hb dX12_like_121 rfl (lv_at hl 0 rfl) ?_
                        refine lv_if_eq (tgt := 181) hx hb dX12_like_122 (by decide) (fun c_54 => ?_) (fun c_54 => ?_)
                        · refine lv_iconst (v := (nI (0))) hx hb dX12_like_181 (by decide) ?_
                          refine lv_istore_n (lv' := [(3, .int (nI (0))), (6, .int (4)), (5, .int (enc (PB n2))), (4, .int (enc (PA n2))), (0, .ref (m))]) hx hb dX12_like_182 rfl hl (by decide) rfl (fun ls hl => ?_)
                          refine lv_goto (tgt := 40) hx hb dX12_like_183 (by decide) ?_
                          replace hl : lv_has ls 7 [(0, .ref (m)), (3, .int (nI (0)))] := lv_sub hl [4, 0] rfl
                          exact ih _ _ _ _ I' _ n2 PA PB PW _ hW hR ⟨fun j hj => hsI j hj, fun j hj => by rw [rg_upl hj]; exact hs.2 j hj⟩ rfl (by decide) (fun i hi => hsp i (by omega)) (hlkk.trans ⟨fun q => absurd q.2.2 hnl, fun q => absurd q.1 (by decide)⟩) hl (rf_mu_pop hn)
                        · first | exact absurd c_54 (by decide) | exact absurd (by decide) c_54
                      · first | exact absurd c_53 (by decide) | exact absurd (by decide) c_53
                    · have hnl : ¬ pu_lk G (6 - PW n2) (PA n2) (PB n2) := by rw [hh1, hh2] at hpn ⊢; exact lk_no hpn (fun _ _ e1 e2 => by first | (cases e1; done) | (cases e2; done)) (fun _ _ e1 e2 => by first | (cases e1; done) | (cases e2; done))
                      refine lv_icmp_ne (tgt := 119) hx hb dX12_like_106 (by decide) (fun c_55 => ?_) (fun c_55 => ?_)
                      · refine lv_iconst (v := (nI (0))) hx hb dX12_like_119 (by decide) ?_
                        refine lv_istore_n (lv' := [(3, .int (nI (0))), (6, .int (4)), (5, .int (enc (PB n2))), (4, .int (enc (PA n2))), (0, .ref (m))]) hx hb dX12_like_120 rfl hl (by decide) rfl (fun ls hl => ?_)
                        refine lv_iload_n hx hb dX12_like_121 rfl (lv_at hl 0 rfl) ?_
                        refine lv_if_eq (tgt := 181) hx hb dX12_like_122 (by decide) (fun c_56 => ?_) (fun c_56 => ?_)
                        · refine lv_iconst (v := (nI (0))) hx hb dX12_like_181 (by decide) ?_
                          refine lv_istore_n (lv' := [(3, .int (nI (0))), (6, .int (4)), (5, .int (enc (PB n2))), (4, .int (enc (PA n2))), (0, .ref (m))]) hx hb dX12_like_182 rfl hl (by decide) rfl (fun ls hl => ?_)
                          refine lv_goto (tgt := 40) hx hb dX12_like_183 (by decide) ?_
                          replace hl : lv_has ls 7 [(0, .ref (m)), (3, .int (nI (0)))] := lv_sub hl [4, 0] rfl
                          exact ih _ _ _ _ I' _ n2 PA PB PW _ hW hR ⟨fun j hj => hsI j hj, fun j hj => by rw [rg_upl hj]; exact hs.2 j hj⟩ rfl (by decide) (fun i hi => hsp i (by omega)) (hlkk.trans ⟨fun q => absurd q.2.2 hnl, fun q => absurd q.1 (by decide)⟩) hl (rf_mu_pop hn)
                        · first | exact absurd c_56 (by decide) | exact absurd (by decide) c_56
                      · first | exact absurd c_55 (by decide) | exact absurd (by decide) c_55
                    · have hnl : ¬ pu_lk G (6 - PW n2) (PA n2) (PB n2) := by rw [hh1, hh2] at hpn ⊢; exact lk_no hpn (fun _ _ e1 e2 => by first | (cases e1; done) | (cases e2; done)) (fun _ _ e1 e2 => by first | (cases e1; done) | (cases e2; done))
                      refine lv_icmp_ne (tgt := 119) hx hb dX12_like_106 (by decide) (fun c_57 => ?_) (fun c_57 => ?_)
                      · refine lv_iconst (v := (nI (0))) hx hb dX12_like_119 (by decide) ?_
                        refine lv_istore_n (lv' := [(3, .int (nI (0))), (6, .int (4)), (5, .int (enc (PB n2))), (4, .int (enc (PA n2))), (0, .ref (m))]) hx hb dX12_like_120 rfl hl (by decide) rfl (fun ls hl => ?_)
                        refine lv_iload_n hx hb dX12_like_121 rfl (lv_at hl 0 rfl) ?_
                        refine lv_if_eq (tgt := 181) hx hb dX12_like_122 (by decide) (fun c_58 => ?_) (fun c_58 => ?_)
                        · refine lv_iconst (v := (nI (0))) hx hb dX12_like_181 (by decide) ?_
                          refine lv_istore_n (lv' := [(3, .int (nI (0))), (6, .int (4)), (5, .int (enc (PB n2))), (4, .int (enc (PA n2))), (0, .ref (m))]) hx hb dX12_like_182 rfl hl (by decide) rfl (fun ls hl => ?_)
                          refine lv_goto (tgt := 40) hx hb dX12_like_183 (by decide) ?_
                          replace hl : lv_has ls 7 [(0, .ref (m)), (3, .int (nI (0)))] := lv_sub hl [4, 0] rfl
                          exact ih _ _ _ _ I' _ n2 PA PB PW _ hW hR ⟨fun j hj => hsI j hj, fun j hj => by rw [rg_upl hj]; exact hs.2 j hj⟩ rfl (by decide) (fun i hi => hsp i (by omega)) (hlkk.trans ⟨fun q => absurd q.2.2 hnl, fun q => absurd q.1 (by decide)⟩) hl (rf_mu_pop hn)
                        · first | exact absurd c_58 (by decide) | exact absurd (by decide) c_58
                      · first | exact absurd c_57 (by decide) | exact absurd (by decide) c_57
                    · have he1 : enc (PA n2) = nI (1000000 + k1) := by rw [hh1]; rfl
                      have he2 : enc (PB n2) = nI (1000000 + k2) := by rw [hh2]; rfl
                      rw [he1, he2] at hl
                      have hlr : pu_lk G (6 - PW n2) (PA n2) (PB n2) ↔ (1 ≤ 6 - PW n2 ∧ pu_op G k1 k2 ∧ ∀ p, p < G.1 2 k1 → pu_lk G (6 - PW n2 - 1) (G.2.2.2 1 (5 * k1 + p)) (G.2.2.2 1 (5 * k2 + p))) := by rw [hh1, hh2] at hpn ⊢; exact lk_rec hpn
                      refine lv_icmp_ne (tgt := 119) hx hb dX12_like_106 (by decide) (fun c_59 => ?_) (fun c_59 => ?_)
                      · first | exact absurd c_59 (by decide) | exact absurd (by decide) c_59
                      · refine lv_iload hx hb dX12_like_109 (lv_at hl 0 rfl) ?_
                        refine lv_iconst (v := (nI (2))) hx hb dX12_like_111 (by decide) ?_
                        refine lv_icmp_le (tgt := 119) hx hb dX12_like_112 (by decide) (fun c_60 => ?_) (fun c_60 => ?_)
                        · first | exact absurd c_60 (by decide) | exact absurd (by decide) c_60
                        · refine lv_iconst (v := (nI (1))) hx hb dX12_like_115 (by decide) ?_
                          refine lv_goto (tgt := 120) hx hb dX12_like_116 (by decide) ?_
                          refine lv_istore_n (lv' := [(3, .int (nI (1))), (6, .int (4)), (5, .int (nI (1000000 + k2))), (4, .int (nI (1000000 + k1))), (0, .ref (m))]) hx hb dX12_like_120 rfl hl (by decide) rfl (fun ls hl => ?_)
                          refine lv_iload_n hx hb dX12_like_121 rfl (lv_at hl 0 rfl) ?_
                          refine lv_if_eq (tgt := 181) hx hb dX12_like_122 (by decide) (fun c_61 => ?_) (fun c_61 => ?_)
                          · first | exact absurd c_61 (by decide) | exact absurd (by decide) c_61
                          · refine lv_iload hx hb dX12_like_125 (lv_at hl 1 rfl) ?_
                            refine lv_iconst (v := (nI (3))) hx hb dX12_like_127 (by decide) ?_
                            refine lv_icmp_ne (tgt := 151) hx hb dX12_like_128 (by decide) (fun c_62 => ?_) (fun c_62 => ?_)
                            · refine lv_aload_n hx hb dX12_like_151 rfl (lv_at hl 4 rfl) ?_
                              refine lv_iload hx hb dX12_like_152 (lv_at hl 3 rfl) ?_
                              refine lv_ldc (v := nI 1000000) hx hb hC.2.2.2.1 (hC.2.2.2.2.1 _ (List.mem_cons_of_mem _ mw_859)) dX12_like_154 ?_
                              refine lv_isub hx hb dX12_like_156 ?_
                              refine rl_topn (rg_sub (c := k1) (by omega)) ?_
                              refine lv_iload hx hb dX12_like_157 (lv_at hl 2 rfl) ?_
                              refine lv_ldc (v := nI 1000000) hx hb hC.2.2.2.1 (hC.2.2.2.2.1 _ (List.mem_cons_of_mem _ mw_859)) dX12_like_159 ?_
                              refine lv_isub hx hb dX12_like_161 ?_
                              refine rl_topn (rg_sub (c := k2) (by omega)) ?_
                              refine lv_aload_n hx hb dX12_like_162 rfl (lv_at hl 4 rfl) ?_
                              refine rl_get (v := .ref (m + 26)) hC hW fl_X12_94 hR.1 rfl dX12_like_163 ?_
                              refine lv_aload_n hx hb dX12_like_166 rfl (lv_at hl 4 rfl) ?_
                              refine rl_get (v := .int (nI (n2))) hC hW fl_X12_206 hR.1 rfl dX12_like_167 ?_
                              refine rl_iald_n (g := I' 36) hC hW hR.a36 (by omega) (by decide) dX12_like_170 ?_
                              refine rl_topn (hwe) ?_
                              refine rl_calliQ (rl_runV (b := m) (As := [.int (nI (k1)), .int (nI (k2)), .int (nI (PW n2))]) (rest := []) hC hW (cR_opens l D t A _ z m I' L _ hR T ρ κ G (by omega) (by omega) hTc' hTp' hGW hGr' hGd' hGp' n2 k1 k2 (PW n2) PA PB PW hk1 hk2 hw6 hw5 rfl (fun i hi => hsp i (by omega))) cs_X12_217 im_X12_opens sl_X12_opens hR.1 rfl ⟨(Nat.le_of_ble_eq_true rfl), (Nat.le_of_ble_eq_true rfl)⟩ rfl hl.1 rfl (Nat.le_of_ble_eq_true rfl) dX12_like_171 ⟨(Nat.le_of_ble_eq_true rfl), (Nat.le_of_ble_eq_true rfl)⟩) hW (fun r f1 H locs hp hW => ?_)
                              obtain ⟨hr01, I2, F2, n3, QA, QB, QW, hR, hs2, h33b, hn3, hsp2, hmu2, hop1, hop0⟩ := hp
                              rcases hr01 with rfl | rfl
                              · have hn0b := hop0 rfl
                                refine lv_if_eq (tgt := 181) hx hb dX12_like_174 (by decide) (fun c_63 => ?_) (fun c_63 => ?_)
                                · refine lv_iconst (v := (nI (0))) hx hb dX12_like_181 (by decide) ?_
                                  refine lv_istore_n (lv' := [(3, .int (nI (0))), (6, .int (4)), (5, .int (nI (1000000 + k2))), (4, .int (nI (1000000 + k1))), (0, .ref (m))]) hx hb dX12_like_182 rfl hl (by decide) rfl (fun ls hl => ?_)
                                  refine lv_goto (tgt := 40) hx hb dX12_like_183 (by decide) ?_
                                  replace hl : lv_has ls 7 [(0, .ref (m)), (3, .int (nI (0)))] := lv_sub hl [4, 0] rfl
                                  exact rf_lk hw6 hwe hmu2 hn (fun hm => ih _ _ _ _ I2 F2 n3 QA QB QW _ hW hR ⟨fun j hj => by rw [hs2.1 j hj]; exact hsI j hj, fun j hj => by rw [hs2.2 j hj, rg_upl hj]; exact hs.2 j hj⟩ h33b (by decide) hsp2 (hlkk.trans ⟨fun q => absurd ⟨by have := (hlr.mp q.2.2).1; omega, (hlr.mp q.2.2).2.1⟩ hn0b, fun q => absurd q.1 (by decide)⟩) hl hm)
                                · first | exact absurd c_63 (by decide) | exact absurd (by decide) c_63
                              · obtain ⟨hd5, hpo, hsc2⟩ := hop1 rfl
                                rw [show 6 - (PW n2 + 1) = 6 - PW n2 - 1 by omega] at hsc2
                                refine lv_if_eq (tgt := 181) hx hb dX12_like_174 (by decide) (fun c_64 => ?_) (fun c_64 => ?_)
                                · first | exact absurd c_64 (by decide) | exact absurd (by decide) c_64
                                · refine lv_iconst (v := (nI (1))) hx hb dX12_like_177 (by decide) ?_
                                  refine lv_goto (tgt := 182) hx hb dX12_like_178 (by decide) ?_
                                  refine lv_istore_n (lv' := [(3, .int (nI (1))), (6, .int (4)), (5, .int (nI (1000000 + k2))), (4, .int (nI (1000000 + k1))), (0, .ref (m))]) hx hb dX12_like_182 rfl hl (by decide) rfl (fun ls hl => ?_)
                                  refine lv_goto (tgt := 40) hx hb dX12_like_183 (by decide) ?_
                                  replace hl : lv_has ls 7 [(0, .ref (m)), (3, .int (nI (1)))] := lv_sub hl [4, 0] rfl
                                  exact rf_lk hw6 hwe hmu2 hn (fun hm => ih _ _ _ _ I2 F2 n3 QA QB QW _ hW hR ⟨fun j hj => by rw [hs2.1 j hj]; exact hsI j hj, fun j hj => by rw [hs2.2 j hj, rg_upl hj]; exact hs.2 j hj⟩ h33b (by decide) hsp2 (hlkk.trans ⟨fun q => ⟨rfl, hsc2.mpr ⟨q.2.1, (hlr.mp q.2.2).2.2⟩⟩, fun q => ⟨rfl, (hsc2.mp q.2).1, hlr.mpr ⟨by omega, hpo, (hsc2.mp q.2).2⟩⟩⟩) hl hm)
                            · first | exact absurd c_62 (by decide) | exact absurd (by decide) c_62
        · exact absurd c9 (by decide)
      · have hq := hp
        refine lv_if_ne (tgt := 16) hx hb dX12_like_11 (by decide) (fun c9 => ?_) (fun c9 => ?_)
        · exact absurd rfl c9
        · refine lv_iconst (v := (-1)) hx hb dX12_like_14 (by decide) ?_
          exact rl_iret hC hW hr hlk (Nat.le_refl _) (Nat.le_refl _) ⟨_, rfl, rfl, rfl, (by simp only [f_like, ob, pu_ix_s hp0 (by decide), pu_ix_n (n := 10) (by decide) hq]), ⟨_, _, _, hR, hTc, hTp, hTk, hGW, hGr, hGd, hGp, hGt, hGc, hF11, hF14⟩⟩ dX12_like_15
  · have hq := hp
    refine lv_if_eq (tgt := 14) hx hb dX12_like_4 (by decide) (fun c9 => ?_) (fun c9 => ?_)
    · refine lv_iconst (v := (-1)) hx hb dX12_like_14 (by decide) ?_
      exact rl_iret hC hW hr hlk (Nat.le_refl _) (Nat.le_refl _) ⟨_, rfl, rfl, rfl, (by simp only [f_like, ob, pu_ix_n (n := 10) (by decide) hq]), ⟨_, _, _, hR, hTc, hTp, hTk, hGW, hGr, hGd, hGp, hGt, hGc, hF11, hF14⟩⟩ dX12_like_15
    · exact absurd rfl c9
