
theorem rl_ups {f : rl_M} {a : Nat} {e0 : va_E} (_ : f a = some e0) (e : va_E) : rl_up f a e a = some e := rl_up_s _ _ _
section RDR
variable {t : Nat → ClassId} {f f1 f2 : rl_M} {x : Nat} {T : Nat → Nat → Nat} {Th Th1 Th2 : Nat → Prop}
theorem cTH.rdr {a b : Nat} {fs fs2 : List Value} (h : cTH t f x T Th b) (ha : f a = some (.inr (5, fs))) : cTH t (rl_up f a (.inr (5, fs2))) x T Th b := by
  obtain ⟨h0, h | h | h⟩ := h
  · obtain ⟨b', nm, o, lo, h1, h2⟩ := h
    exact ⟨h0, Or.inl ⟨b', nm, o, lo, h1, by rw [rl_up_n (rl_ne h2 ha (by simp))]; exact h2⟩⟩
  · obtain ⟨r, n, g, h1, h2, h3, h4⟩ := h
    exact ⟨h0, Or.inr (Or.inl ⟨r, n, g, h1, h2, by rw [rl_up_n (rl_ne h3 ha (by simp))]; exact h3, by rw [rl_up_n (rl_ne h4 ha (by simp))]; exact h4⟩)⟩
  · obtain ⟨j, nu, th, n, gn, gt, h1, h2, h3, h4, h5, h6, h7, h8⟩ := h
    exact ⟨h0, Or.inr (Or.inr ⟨j, nu, th, n, gn, gt, h1, h2, h3, h4, by rw [rl_up_n (rl_ne h5 ha (by simp))]; exact h5, by rw [rl_up_n (rl_ne h6 ha (by simp))]; exact h6, by rw [rl_up_n (rl_ne h7 ha (by simp))]; exact h7, h8⟩)⟩
theorem CI.rdr {a : Nat} {fs fs2 : List Value} (h : CI t f x T Th) (hx : x + 58 ≤ a) (ha : f a = some (.inr (5, fs))) : CI t (rl_up f a (.inr (5, fs2))) x T Th := by
  obtain ⟨h1, h2, h3, h4, h5, h6, h7, h9⟩ := h
  exact ⟨h1.off (by omega), h2.off (by omega) (fun q fs e => rl_ne e ha (by simp)), h3.off (by omega) (fun q fs e => rl_ne e ha (by simp)) (fun q fs e => rl_ne e ha (by simp)), h4.off (by omega), h5.off (by omega), h6.off (by omega), h7.off (by omega), fun b hb => (h9 b hb).rdr ha⟩
def rl_on (r : Nat) (f f1 : rl_M) : Prop := ∀ q e, f q = some e → q ≠ r → f1 q = some e
theorem rl_on.rf {r : Nat} : rl_on r f f := fun _ _ h _ => h
theorem rl_on.tr {r : Nat} (a : rl_on r f f1) (b : rl_on r f1 f2) : rl_on r f f2 := fun q e h n => b q e (a q e h n) n
theorem rl_on.up {r : Nat} {e : va_E} : rl_on r f (rl_up f r e) := fun q e h n => by rw [rl_up_n n]; exact h
theorem rl_on.sh {r : Nat} {fs : List Value} (h : rl_on r f f1) (hr : f r = some (.inr (5, fs))) : rl_sh t f f1 := fun q =>
  ⟨fun _ e => h _ _ e (rl_ne e hr (by simp)), fun _ e => h _ _ e (rl_ne e hr (by simp)), fun _ g e => ⟨g, h _ _ e (rl_ne e hr (by simp))⟩, fun _ g e => ⟨g, h _ _ e (rl_ne e hr (by simp))⟩, fun _ g e => ⟨g, h _ _ e (rl_ne e hr (by simp))⟩⟩
/-- the reader's state -/
def cRD (t : Nat → ClassId) (f : rl_M) (x : Nat) (T : Nat → Nat → Nat) (Th : Nat → Prop) (r nx op : Nat) (wh : Int32) : Prop := CI t f x T Th ∧ x + 58 ≤ r ∧ nx ≤ 250 ∧ op ≤ 6 ∧ ∃ v la md : Int32, f r = some (.inr (5, [.ref (x + 1), .ref (x + 55), .int v, .int (nI nx), .int la, .int (nI op), .int wh, .int md]))
def cRJ (t : Nat → ClassId) (f : rl_M) (Th : Nat → Prop) (nx op : Nat) (wh : Int32) (f1 : rl_M) (Th1 : Nat → Prop) (nx1 op1 : Nat) (wh1 : Int32) : Prop := (∀ q, Th q → Th1 q) ∧ rl_sh t f f1 ∧ nx ≤ nx1 ∧ (wh1 = 0 → op1 = op ∧ wh = 0)
theorem cRJ.rf {nx op : Nat} {wh : Int32} : cRJ t f Th nx op wh f Th nx op wh := ⟨fun _ h => h, rl_sh.rf f, Nat.le_refl _, fun h => ⟨rfl, h⟩⟩
theorem cRJ.tr {nx op nx1 op1 nx2 op2 : Nat} {wh wh1 wh2 : Int32} (a : cRJ t f Th nx op wh f1 Th1 nx1 op1 wh1) (b : cRJ t f1 Th1 nx1 op1 wh1 f2 Th2 nx2 op2 wh2) : cRJ t f Th nx op wh f2 Th2 nx2 op2 wh2 :=
  ⟨fun q h => b.1 q (a.1 q h), a.2.1.tr b.2.1, Nat.le_trans a.2.2.1 b.2.2.1, fun h => by
    obtain ⟨e1, e2⟩ := b.2.2.2 h
    obtain ⟨e3, e4⟩ := a.2.2.2 e2
    exact ⟨e1.trans e3, e4⟩⟩
def cST (t : Nat → ClassId) (x : Nat) (T : Nat → Nat → Nat) (r : Nat) (f : rl_M) (Th : Nat → Prop) (z nx op : Nat) (wh : Int32) (r0 : Option Nat) (f1 : rl_M) (z1 d1 : Nat) : Prop := ∃ (Th1 : Nat → Prop) (nx1 op1 : Nat) (wh1 : Int32), cRD t f1 x T Th1 r nx1 op1 wh1 ∧ cRJ t f Th nx op wh f1 Th1 nx1 op1 wh1 ∧ z1 ≤ z + 3 * (nx1 - nx) ∧ d1 ≤ 13 * (nx1 - nx) ∧ ∀ q, r0 = some q → Th1 q
/-- the draft, if one is wanted -/
def cDO (t : Nat → ClassId) (f : rl_M) (x : Nat) (T : Nat → Nat → Nat) (Th : Nat → Prop) (dr : Option Nat) : Prop := ∀ a, dr = some a → Th a ∧ ∃ j nu th, cDR t f x T a j nu th
theorem cDO.j {dr : Option Nat} {nx op nx1 op1 : Nat} {wh wh1 : Int32} (h : cDO t f x T Th dr) (hj : cRJ t f Th nx op wh f1 Th1 nx1 op1 wh1) : cDO t f1 x T Th1 dr := fun a e => by
  obtain ⟨h1, j, nu, th, h2⟩ := h a e
  exact ⟨hj.1 a h1, j, nu, th, h2.sh hj.2.1⟩
end RDR

set_option maxHeartbeats 4000000 in
set_option maxRecDepth 100000 in
theorem cC_fail (l : Launch) (D : va_G) (t : Nat → ClassId) (A : Nat → Prop) (f : rl_M) (z : Nat) (x : Nat) (T : Nat → Nat → Nat) (Th : Nat → Prop) (r nx op : Nat) (wh : Int32) (hS : cRD t f x T Th r nx op wh) (re : Int32) (hre : re ≠ 0) : rl_Met l yX5_fail (.code yX5_fail cX5_fail 2 none) (rl_rm 0 0 0) D t A f z [.ref (r), .int (re)] (rl_qv z fun f1 => ∃ wh1 : Int32, wh1 ≠ 0 ∧ cRD t f1 x T Th r nx op wh1 ∧ rl_on r f f1) := by
  refine rl_begin (own := RX5) (lv := [(0, .ref (r)), (1, .int (re))]) (by decide +kernel) rfl (Nat.le_of_ble_eq_true rfl) rfl fun p e s m0 args below meth c ls H locs hC hr hlk hnm hW hl hx hb => ?_
  have hon := rl_on.rf (r := r) (f := f)
  obtain ⟨hI, hrx, hnl, hop, v, la, md, hrd⟩ := id hS
  refine lv_aload_n hx hb dX5_fail_0 rfl (lv_at hl 0 rfl) ?_
  refine rl_get (v := .int (wh)) hC hW fl_X5_23 hrd rfl dX5_fail_1 ?_
  refine lv_if_ne (tgt := 12) hx hb dX5_fail_4 (by decide) (fun c1 => ?_) (fun c1 => ?_)
  · exact rl_vret hC hW hr hlk (Nat.le_refl _) (Nat.le_refl _) ⟨rfl, rfl, rfl, wh, c1, hS, hon⟩ dX5_fail_12
  · refine lv_aload_n hx hb dX5_fail_7 rfl (lv_at hl 0 rfl) ?_
    refine lv_iload_n hx hb dX5_fail_8 rfl (lv_at hl 1 rfl) ?_
    refine rl_put (v := .int (re)) hC hW fp_X5_23 hrd (Nat.le_of_ble_eq_true rfl) rfl rfl dX5_fail_9 (fun H locs hW => ?_)
    replace hW : rl_W D A (rl_up _ r (.inr (5, [.ref (x + 1), .ref (x + 55), .int (v), .int (nI (nx)), .int (la), .int (nI (op)), .int (re), .int (md)]))) z s.heap H locs := hW
    replace hI := hI.rdr (fs2 := [.ref (x + 1), .ref (x + 55), .int (v), .int (nI (nx)), .int (la), .int (nI (op)), .int (re), .int (md)]) hrx hrd
    replace hon := hon.tr (rl_on.up (r := r) (e := .inr (5, [.ref (x + 1), .ref (x + 55), .int (v), .int (nI (nx)), .int (la), .int (nI (op)), .int (re), .int (md)])))
    replace hrd := rl_ups hrd (.inr (5, [.ref (x + 1), .ref (x + 55), .int (v), .int (nI (nx)), .int (la), .int (nI (op)), .int (re), .int (md)]))
    exact rl_vret hC hW hr hlk (Nat.le_refl _) (Nat.le_refl _) ⟨rfl, rfl, rfl, re, hre, ⟨hI, hrx, hnl, hop, _, _, _, hrd⟩, hon⟩ dX5_fail_12

set_option maxHeartbeats 4000000 in
set_option maxRecDepth 100000 in
theorem cC_nextLeaf (l : Launch) (D : va_G) (t : Nat → ClassId) (A : Nat → Prop) (f : rl_M) (z : Nat) (x : Nat) (T : Nat → Nat → Nat) (Th : Nat → Prop) (r nx op : Nat) (wh : Int32) (hS : cRD t f x T Th r nx op wh) : rl_Met l yX5_nextLeaf (.code yX5_nextLeaf cX5_nextLeaf 1 (some FieldType.long)) (rl_rm 0 0 0) D t A f z [.ref (r)] (rl_ql z fun y f1 => ∃ (nx1 : Nat) (wh1 : Int32), cRD t f1 x T Th r nx1 op wh1 ∧ rl_on r f f1 ∧ nx ≤ nx1 ∧ (wh1 = 0 → wh = 0 ∧ nx1 = nx + 1) ∧ (wh1 ≠ 0 → y = 0)) := by
  refine rl_begin (own := RX5) (lv := [(0, .ref (r))]) (by decide +kernel) rfl (Nat.le_of_ble_eq_true rfl) rfl fun p e s m0 args below meth c ls H locs hC hr hlk hnm hW hl hx hb => ?_
  have hon := rl_on.rf (r := r) (f := f)
  obtain ⟨hI, hrx, hnl, hop, v, la, md, hrd⟩ := id hS
  refine lv_aload_n hx hb dX5_nextLeaf_0 rfl (lv_at hl 0 rfl) ?_
  refine rl_get (v := .int (wh)) hC hW fl_X5_23 hrd rfl dX5_nextLeaf_1 ?_
  refine lv_if_eq (tgt := 9) hx hb dX5_nextLeaf_4 (by decide) (fun c1 => ?_) (fun c1 => ?_)
  · subst c1
    refine lv_aload_n hx hb dX5_nextLeaf_9 rfl (lv_at hl 0 rfl) ?_
    refine lv_aload_n hx hb dX5_nextLeaf_10 rfl (lv_at hl 0 rfl) ?_
    refine rl_get (v := .int (nI (nx))) hC hW fl_X5_26 hrd rfl dX5_nextLeaf_11 ?_
    refine rl_put (v := .int (nI (nx))) hC hW fp_X5_29 hrd (Nat.le_of_ble_eq_true rfl) rfl rfl dX5_nextLeaf_14 (fun H locs hW => ?_)
    replace hW : rl_W D A (rl_up _ r (.inr (5, [.ref (x + 1), .ref (x + 55), .int (v), .int (nI (nx)), .int (nI (nx)), .int (nI (op)), .int (0), .int (md)]))) z s.heap H locs := hW
    replace hI := hI.rdr (fs2 := [.ref (x + 1), .ref (x + 55), .int (v), .int (nI (nx)), .int (nI (nx)), .int (nI (op)), .int (0), .int (md)]) hrx hrd
    replace hon := hon.tr (rl_on.up (r := r) (e := .inr (5, [.ref (x + 1), .ref (x + 55), .int (v), .int (nI (nx)), .int (nI (nx)), .int (nI (op)), .int (0), .int (md)])))
    replace hrd := rl_ups hrd (.inr (5, [.ref (x + 1), .ref (x + 55), .int (v), .int (nI (nx)), .int (nI (nx)), .int (nI (op)), .int (0), .int (md)]))
    obtain ⟨-, -, -, -, -, -, ⟨⟨sz, fz, htp, hsz⟩, ⟨glv, hlv⟩, -⟩, -⟩ := id hI
    refine lv_aload_n hx hb dX5_nextLeaf_17 rfl (lv_at hl 0 rfl) ?_
    refine rl_get (v := .int (nI (nx))) hC hW fl_X5_26 hrd rfl dX5_nextLeaf_18 ?_
    refine lv_aload_n hx hb dX5_nextLeaf_21 rfl (lv_at hl 0 rfl) ?_
    refine rl_get (v := .ref (x + 55)) hC hW fl_X5_15 hrd rfl dX5_nextLeaf_22 ?_
    refine rl_get (v := .int (nI (sz))) hC hW fl_X5_32 htp rfl dX5_nextLeaf_25 ?_
    refine lv_icmp_lt (tgt := 38) hx hb dX5_nextLeaf_28 (by decide) (fun c2 => ?_) (fun c2 => ?_)
    · have hlt : nx < sz := (nI_ltI (by omega) (by omega)).mp c2
      refine lv_aload_n hx hb dX5_nextLeaf_38 rfl (lv_at hl 0 rfl) ?_
      refine lv_dup hx hb dX5_nextLeaf_39 rfl ?_
      refine rl_get (v := .int (nI (nx))) hC hW fl_X5_26 hrd rfl dX5_nextLeaf_40 ?_
      refine lv_iconst (v := (nI (1))) hx hb dX5_nextLeaf_43 (by decide) ?_
      refine lv_iadd hx hb dX5_nextLeaf_44 ?_
      refine rl_topn (nI_add _ _) ?_
      refine rl_put (v := .int (nI ((nx) + (1)))) hC hW fp_X5_26 hrd (Nat.le_of_ble_eq_true rfl) rfl rfl dX5_nextLeaf_45 (fun H locs hW => ?_)
      replace hW : rl_W D A (rl_up _ r (.inr (5, [.ref (x + 1), .ref (x + 55), .int (v), .int (nI ((nx) + (1))), .int (nI (nx)), .int (nI (op)), .int (0), .int (md)]))) z s.heap H locs := hW
      replace hI := hI.rdr (fs2 := [.ref (x + 1), .ref (x + 55), .int (v), .int (nI ((nx) + (1))), .int (nI (nx)), .int (nI (op)), .int (0), .int (md)]) hrx hrd
      replace hon := hon.tr (rl_on.up (r := r) (e := .inr (5, [.ref (x + 1), .ref (x + 55), .int (v), .int (nI ((nx) + (1))), .int (nI (nx)), .int (nI (op)), .int (0), .int (md)])))
      replace hrd := rl_ups hrd (.inr (5, [.ref (x + 1), .ref (x + 55), .int (v), .int (nI ((nx) + (1))), .int (nI (nx)), .int (nI (op)), .int (0), .int (md)]))
      obtain ⟨-, -, -, -, -, -, ⟨⟨sz, fz, htp, hsz⟩, ⟨glv, hlv⟩, -⟩, -⟩ := id hI
      refine lv_aload_n hx hb dX5_nextLeaf_48 rfl (lv_at hl 0 rfl) ?_
      refine rl_get (v := .ref (x + 55)) hC hW fl_X5_15 hrd rfl dX5_nextLeaf_49 ?_
      refine rl_get (v := .ref (x + 56)) hC hW fl_X5_37 htp rfl dX5_nextLeaf_52 ?_
      refine lv_aload_n hx hb dX5_nextLeaf_55 rfl (lv_at hl 0 rfl) ?_
      refine rl_get (v := .int (nI (nx))) hC hW fl_X5_29 hrd rfl dX5_nextLeaf_56 ?_
      refine rl_lald_n hC hW hlv (by omega) (by decide) dX5_nextLeaf_59 ?_
      exact rl_lret hC hW hr hlk (Nat.le_refl _) (Nat.le_refl _) ⟨_, rfl, rfl, rfl, nx + 1, 0, ⟨hI, hrx, by omega, hop, _, _, _, hrd⟩, hon, by omega, fun _ => ⟨rfl, rfl⟩, fun q => absurd rfl q⟩ dX5_nextLeaf_60
    · refine lv_aload_n hx hb dX5_nextLeaf_31 rfl (lv_at hl 0 rfl) ?_
      refine lv_iconst (v := (nI (4))) hx hb dX5_nextLeaf_32 (by decide) ?_
      refine rl_put (v := .int (nI (4))) hC hW fp_X5_23 hrd (Nat.le_of_ble_eq_true rfl) rfl rfl dX5_nextLeaf_33 (fun H locs hW => ?_)
      replace hW : rl_W D A (rl_up _ r (.inr (5, [.ref (x + 1), .ref (x + 55), .int (v), .int (nI (nx)), .int (nI (nx)), .int (nI (op)), .int (nI (4)), .int (md)]))) z s.heap H locs := hW
      replace hI := hI.rdr (fs2 := [.ref (x + 1), .ref (x + 55), .int (v), .int (nI (nx)), .int (nI (nx)), .int (nI (op)), .int (nI (4)), .int (md)]) hrx hrd
      replace hon := hon.tr (rl_on.up (r := r) (e := .inr (5, [.ref (x + 1), .ref (x + 55), .int (v), .int (nI (nx)), .int (nI (nx)), .int (nI (op)), .int (nI (4)), .int (md)])))
      replace hrd := rl_ups hrd (.inr (5, [.ref (x + 1), .ref (x + 55), .int (v), .int (nI (nx)), .int (nI (nx)), .int (nI (op)), .int (nI (4)), .int (md)]))
      refine lv_lconst (v := 0) hx hb dX5_nextLeaf_36 (by decide) ?_
      exact rl_lret hC hW hr hlk (Nat.le_refl _) (Nat.le_refl _) ⟨_, rfl, rfl, rfl, nx, nI 4, ⟨hI, hrx, hnl, hop, _, _, _, hrd⟩, hon, Nat.le_refl _, fun q => absurd q (by decide), fun _ => rfl⟩ dX5_nextLeaf_37
  · refine lv_lconst (v := 0) hx hb dX5_nextLeaf_7 (by decide) ?_
    exact rl_lret hC hW hr hlk (Nat.le_refl _) (Nat.le_refl _) ⟨_, rfl, rfl, rfl, nx, wh, hS, hon, Nat.le_refl _, fun q => absurd q c1, fun _ => rfl⟩ dX5_nextLeaf_8
