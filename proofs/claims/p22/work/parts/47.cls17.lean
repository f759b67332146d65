

set_option maxHeartbeats 4000000 in
set_option maxRecDepth 100000 in
theorem cC_EV_init (l : Launch) (D : va_G) (t : Nat → ClassId) (A : Nat → Prop) (f : rl_M) (z : Nat) (a : Nat) (k1 k2 : Int32) (h0 : f a = some (.inr (2, [.int 0, .int 0, .null, .int 0]))) : rl_Met l yX2_init (.code yX2_init cX2_init 3 none) (rl_rm 1 1 10) D t A f z [.ref (a), .int (k1), .int (k2)] (rl_pv fun f1 z1 d1 => f1 a = some (.inr (2, [.int k1, .int k2, .ref z, .int 0])) ∧ f1 z = some (.inl (t 4, 10, .inr (.inr (.inr (.inr (fun _ => none)))))) ∧ rl_on a f f1 ∧ z1 = z + 1 ∧ d1 ≤ 10) := by
  refine rl_begin (own := RX2) (lv := [(0, .ref (a)), (1, .int (k1)), (2, .int (k2))]) (by decide +kernel) rfl (Nat.le_of_ble_eq_true rfl) rfl fun p e s m0 args below meth c ls H locs hC hr hlk hnm hW hl hx hb => ?_
  have hfz := hW.fresh
  have haz := hW.lt h0
  have hW0 := hW
  refine lv_aload_n hx hb dX2_init_0 rfl (lv_at hl 0 rfl) ?_
  refine rl_objInit hC mw_36 mw_22 mw_23 hl.1 dX2_init_1 (Nat.le_of_ble_eq_true rfl) (Nat.le_of_ble_eq_true rfl) ?_
  refine lv_aload_n hx hb dX2_init_4 rfl (lv_at hl 0 rfl) ?_
  refine lv_iload_n hx hb dX2_init_5 rfl (lv_at hl 1 rfl) ?_
  refine rl_putF (v := .int (k1)) hC hW fp_X2_9 hnm h0 (Nat.le_of_ble_eq_true rfl) rfl rfl dX2_init_6 (fun H locs hW => ?_)
  replace hW : rl_W D A (rl_up _ a (.inr (2, [.int k1, .int 0, .null, .int 0]))) (z) s.heap H locs := hW
  refine lv_aload_n hx hb dX2_init_9 rfl (lv_at hl 0 rfl) ?_
  refine lv_iload_n hx hb dX2_init_10 rfl (lv_at hl 2 rfl) ?_
  refine rl_putF (v := .int (k2)) hC hW fp_X2_15 hnm (by exact rl_up_s _ _ _) (Nat.le_of_ble_eq_true rfl) rfl rfl dX2_init_11 (fun H locs hW => ?_)
  replace hW : rl_W D A (rl_up _ a (.inr (2, [.int k1, .int k2, .null, .int 0]))) (z) s.heap H locs := hW
  refine lv_aload_n hx hb dX2_init_14 rfl (lv_at hl 0 rfl) ?_
  refine lv_bipush (v := (nI (10))) hx hb dX2_init_15 (by decide) ?_
  refine rl_newq 4 (N' := 10) hC hW rfl mw_37 mt_38 (nI_pos (by decide)) (nI_clamp (by decide)) (by decide) (by simp only [rl_rm]; omega) (by simp only [rl_rm]; omega) dX2_init_17 (fun H hW => ?_)
  refine rl_putF (v := .ref (z)) hC hW fp_X2_20 hnm (by rw [rl_up_n (by omega)]; exact rl_up_s _ _ _) (Nat.le_of_ble_eq_true rfl) rfl rfl dX2_init_20 (fun H locs hW => ?_)
  replace hW : rl_W D A (rl_up _ a (.inr (2, [.int k1, .int k2, .ref z, .int 0]))) (z + 1) s.heap H locs := hW
  exact rl_vret hC hW hr hlk (by simp only [rl_rm]; omega) (by simp only [rl_rm]; omega) ⟨rfl, rl_up_s _ _ _, (by rw [rl_up_n (by omega)]; exact rl_up_s _ _ _), (fun q e hq hn => by have := hW0.lt hq; rw [rl_up_n hn, rl_up_n (by omega), rl_up_n hn, rl_up_n hn]; exact hq), rfl, by omega⟩ dX2_init_23

set_option maxHeartbeats 4000000 in
set_option maxRecDepth 100000 in
theorem cC_RV_init (l : Launch) (D : va_G) (t : Nat → ClassId) (A : Nat → Prop) (f : rl_M) (z : Nat) (a : Nat) (k1 k2 : Int32) (h0 : f a = some (.inr (7, [.int 0, .int 0, .null, .null, .int 0, .int 0]))) : rl_Met l yX7_init (.code yX7_init cX7_init 3 none) (rl_rm 1 2 7) D t A f z [.ref (a), .int (k1), .int (k2)] (rl_pv fun f1 z1 d1 => f1 a = some (.inr (7, [.int k1, .int k2, .ref z, .ref (z + 1), .int 0, .int 0])) ∧ f1 z = some (.inl (t 5, 5, .inr (.inr (.inr (.inr (fun _ => none)))))) ∧ f1 (z + 1) = some (.inl (t 6, 2, .inr (.inr (.inr (.inr (fun _ => none)))))) ∧ rl_on a f f1 ∧ z1 = z + 2 ∧ d1 ≤ 7) := by
  refine rl_begin (own := RX7) (lv := [(0, .ref (a)), (1, .int (k1)), (2, .int (k2))]) (by decide +kernel) rfl (Nat.le_of_ble_eq_true rfl) rfl fun p e s m0 args below meth c ls H locs hC hr hlk hnm hW hl hx hb => ?_
  have hfz := hW.fresh
  have haz := hW.lt h0
  have hW0 := hW
  refine lv_aload_n hx hb dX7_init_0 rfl (lv_at hl 0 rfl) ?_
  refine rl_objInit hC mw_60 mw_22 mw_23 hl.1 dX7_init_1 (Nat.le_of_ble_eq_true rfl) (Nat.le_of_ble_eq_true rfl) ?_
  refine lv_aload_n hx hb dX7_init_4 rfl (lv_at hl 0 rfl) ?_
  refine lv_iload_n hx hb dX7_init_5 rfl (lv_at hl 1 rfl) ?_
  refine rl_putF (v := .int (k1)) hC hW fp_X7_9 hnm h0 (Nat.le_of_ble_eq_true rfl) rfl rfl dX7_init_6 (fun H locs hW => ?_)
  replace hW : rl_W D A (rl_up _ a (.inr (7, [.int k1, .int 0, .null, .null, .int 0, .int 0]))) (z) s.heap H locs := hW
  refine lv_aload_n hx hb dX7_init_9 rfl (lv_at hl 0 rfl) ?_
  refine lv_iload_n hx hb dX7_init_10 rfl (lv_at hl 2 rfl) ?_
  refine rl_putF (v := .int (k2)) hC hW fp_X7_15 hnm (by exact rl_up_s _ _ _) (Nat.le_of_ble_eq_true rfl) rfl rfl dX7_init_11 (fun H locs hW => ?_)
  replace hW : rl_W D A (rl_up _ a (.inr (7, [.int k1, .int k2, .null, .null, .int 0, .int 0]))) (z) s.heap H locs := hW
  refine lv_aload_n hx hb dX7_init_14 rfl (lv_at hl 0 rfl) ?_
  refine lv_iconst (v := (nI (5))) hx hb dX7_init_15 (by decide) ?_
  refine rl_newq 5 (N' := 5) hC hW rfl mw_61 mt_62 (nI_pos (by decide)) (nI_clamp (by decide)) (by decide) (by simp only [rl_rm]; omega) (by simp only [rl_rm]; omega) dX7_init_16 (fun H hW => ?_)
  refine rl_putF (v := .ref (z)) hC hW fp_X7_20 hnm (by rw [rl_up_n (by omega)]; exact rl_up_s _ _ _) (Nat.le_of_ble_eq_true rfl) rfl rfl dX7_init_19 (fun H locs hW => ?_)
  replace hW : rl_W D A (rl_up _ a (.inr (7, [.int k1, .int k2, .ref z, .null, .int 0, .int 0]))) (z + 1) s.heap H locs := hW
  refine lv_aload_n hx hb dX7_init_22 rfl (lv_at hl 0 rfl) ?_
  refine lv_iconst (v := (nI (2))) hx hb dX7_init_23 (by decide) ?_
  refine rl_newq 6 (N' := 2) hC hW rfl mw_63 mt_64 (nI_pos (by decide)) (nI_clamp (by decide)) (by decide) (by simp only [rl_rm]; omega) (by simp only [rl_rm]; omega) dX7_init_24 (fun H hW => ?_)
  refine rl_putF (v := .ref (z + 1)) hC hW fp_X7_26 hnm (by rw [rl_up_n (by omega)]; exact rl_up_s _ _ _) (Nat.le_of_ble_eq_true rfl) rfl rfl dX7_init_27 (fun H locs hW => ?_)
  replace hW : rl_W D A (rl_up _ a (.inr (7, [.int k1, .int k2, .ref z, .ref (z + 1), .int 0, .int 0]))) (z + 1 + 1) s.heap H locs := hW
  exact rl_vret hC hW hr hlk (by simp only [rl_rm]; omega) (by simp only [rl_rm]; omega) ⟨rfl, rl_up_s _ _ _, (by rw [rl_up_n (by omega), rl_up_n (by omega), rl_up_n (by omega)]; exact rl_up_s _ _ _), (by rw [rl_up_n (by omega)]; exact rl_up_s _ _ _), (fun q e hq hn => by have := hW0.lt hq; rw [rl_up_n hn, rl_up_n (by omega), rl_up_n hn, rl_up_n (by omega), rl_up_n hn, rl_up_n hn]; exact hq), rfl, by omega⟩ dX7_init_30

set_option maxHeartbeats 4000000 in
set_option maxRecDepth 100000 in
theorem cC_Tape_init (l : Launch) (D : va_G) (t : Nat → ClassId) (A : Nat → Prop) (f : rl_M) (z : Nat) (a : Nat) (h0 : f a = some (.inr (9, [.null, .null, .int 0, .int 0]))) : rl_Met l yX9_init (.code yX9_init cX9_init 1 none) (rl_rm 1 2 500) D t A f z [.ref (a)] (rl_pv fun f1 z1 d1 => f1 a = some (.inr (9, [.ref z, .ref (z + 1), .int 0, .int 0])) ∧ f1 z = some (.inl (t 1, 250, .inr (.inl (fun _ => 0)))) ∧ f1 (z + 1) = some (.inl (t 1, 250, .inr (.inl (fun _ => 0)))) ∧ rl_on a f f1 ∧ z1 = z + 2 ∧ d1 ≤ 500) := by
  refine rl_begin (own := RX9) (lv := [(0, .ref (a))]) (by decide +kernel) rfl (Nat.le_of_ble_eq_true rfl) rfl fun p e s m0 args below meth c ls H locs hC hr hlk hnm hW hl hx hb => ?_
  have hfz := hW.fresh
  have haz := hW.lt h0
  have hW0 := hW
  refine lv_aload_n hx hb dX9_init_0 rfl (lv_at hl 0 rfl) ?_
  refine rl_objInit hC mw_104 mw_22 mw_23 hl.1 dX9_init_1 (Nat.le_of_ble_eq_true rfl) (Nat.le_of_ble_eq_true rfl) ?_
  refine lv_aload_n hx hb dX9_init_4 rfl (lv_at hl 0 rfl) ?_
  refine lv_sipush (v := (nI (250))) hx hb dX9_init_5 (by decide) ?_
  refine rl_newl (N' := 250) hC hW mw_122 (nI_pos (by decide)) (nI_clamp (by decide)) (by decide) (by simp only [rl_rm]; omega) (by simp only [rl_rm]; omega) dX9_init_8 (fun H hW => ?_)
  refine rl_putF (v := .ref (z)) hC hW fp_X9_9 hnm ((rl_up_n (by omega)).trans h0) (Nat.le_of_ble_eq_true rfl) rfl rfl dX9_init_10 (fun H locs hW => ?_)
  replace hW : rl_W D A (rl_up _ a (.inr (9, [.ref z, .null, .int 0, .int 0]))) (z + 1) s.heap H locs := hW
  refine lv_aload_n hx hb dX9_init_13 rfl (lv_at hl 0 rfl) ?_
  refine lv_sipush (v := (nI (250))) hx hb dX9_init_14 (by decide) ?_
  refine rl_newl (N' := 250) hC hW mw_122 (nI_pos (by decide)) (nI_clamp (by decide)) (by decide) (by simp only [rl_rm]; omega) (by simp only [rl_rm]; omega) dX9_init_17 (fun H hW => ?_)
  refine rl_putF (v := .ref (z + 1)) hC hW fp_X9_15 hnm (by rw [rl_up_n (by omega)]; exact rl_up_s _ _ _) (Nat.le_of_ble_eq_true rfl) rfl rfl dX9_init_19 (fun H locs hW => ?_)
  replace hW : rl_W D A (rl_up _ a (.inr (9, [.ref z, .ref (z + 1), .int 0, .int 0]))) (z + 1 + 1) s.heap H locs := hW
  exact rl_vret hC hW hr hlk (by simp only [rl_rm]; omega) (by simp only [rl_rm]; omega) ⟨rfl, rl_up_s _ _ _, (by rw [rl_up_n (by omega), rl_up_n (by omega), rl_up_n (by omega)]; exact rl_up_s _ _ _), (by rw [rl_up_n (by omega)]; exact rl_up_s _ _ _), (fun q e hq hn => by have := hW0.lt hq; rw [rl_up_n hn, rl_up_n (by omega), rl_up_n hn, rl_up_n (by omega)]; exact hq), rfl, by omega⟩ dX9_init_22


def kE (t : Nat → ClassId) (f : rl_M) (x i : Nat) : Prop := (∃ g : Nat → Option Nat, f (x + 2) = some (.inl (t 7, 6, .inr (.inr (.inr (.inr g))))) ∧ ∀ b, b < i → g b = some (x + 3 + 2 * b)) ∧ ∀ b, b < i → f (x + 3 + 2 * b) = some (.inr (2, [.int (nI (b / 3)), .int (nI (b % 3)), .ref (x + 4 + 2 * b), .int 0])) ∧ f (x + 4 + 2 * b) = some (.inl (t 4, 10, .inr (.inr (.inr (.inr (fun _ => none))))))
def kR (t : Nat → ClassId) (f : rl_M) (x i : Nat) : Prop := (∃ g : Nat → Option Nat, f (x + 15) = some (.inl (t 8, 12, .inr (.inr (.inr (.inr g))))) ∧ ∀ b, b < i → g b = some (x + 16 + 3 * b)) ∧ ∀ b, b < i → f (x + 16 + 3 * b) = some (.inr (7, [.int (nI (2 + b / 3)), .int (nI (b % 3)), .ref (x + 17 + 3 * b), .ref (x + 18 + 3 * b), .int 0, .int 0])) ∧ f (x + 17 + 3 * b) = some (.inl (t 5, 5, .inr (.inr (.inr (.inr (fun _ => none)))))) ∧ f (x + 18 + 3 * b) = some (.inl (t 6, 2, .inr (.inr (.inr (.inr (fun _ => none))))))
section KE
variable {t : Nat → ClassId} {f f1 : rl_M} {x i : Nat}
theorem kE.on {a : Nat} (h : kE t f x i) (ho : rl_on a f f1) (ha : a < x + 2 ∨ x + 3 + 2 * i ≤ a) (hi : i ≤ 6) : kE t f1 x i := by
  obtain ⟨⟨g, h1, h2⟩, h3⟩ := h
  refine ⟨⟨g, ho _ _ h1 (by omega), h2⟩, fun b hb => ?_⟩
  exact ⟨ho _ _ (h3 b hb).1 (by omega), ho _ _ (h3 b hb).2 (by omega)⟩
theorem kE.add {g : Nat → Option Nat} (h : kE t f x i) (hi : i < 6) (hg : f (x + 2) = some (.inl (t 7, 6, .inr (.inr (.inr (.inr g)))))) (h1 : f (x + 3 + 2 * i) = some (.inr (2, [.int (nI (i / 3)), .int (nI (i % 3)), .ref (x + 4 + 2 * i), .int 0]))) (h2 : f (x + 4 + 2 * i) = some (.inl (t 4, 10, .inr (.inr (.inr (.inr (fun _ => none))))))) : kE t (rl_up f (x + 2) (.inl (t 7, 6, .inr (.inr (.inr (.inr (va_up g i (some (x + 3 + 2 * i))))))))) x (i + 1) := by
  obtain ⟨⟨g', e1, e2⟩, e3⟩ := h
  have hgg : g' = g := by rw [e1] at hg; simpa using hg
  subst hgg
  refine ⟨⟨_, rl_up_s _ _ _, fun b hb => ?_⟩, fun b hb => ?_⟩
  · by_cases hbi : b = i
    · subst hbi
      exact va_up_s _ _ _
    · rw [va_up_n _ _ hbi]
      exact e2 b (by omega)
  · rw [rl_up_n (by omega), rl_up_n (by omega)]
    by_cases hbi : b = i
    · subst hbi
      exact ⟨h1, h2⟩
    · exact e3 b (by omega)
theorem kR.on {a : Nat} (h : kR t f x i) (ho : rl_on a f f1) (ha : a < x + 15 ∨ x + 16 + 3 * i ≤ a) (hi : i ≤ 12) : kR t f1 x i := by
  obtain ⟨⟨g, h1, h2⟩, h3⟩ := h
  refine ⟨⟨g, ho _ _ h1 (by omega), h2⟩, fun b hb => ?_⟩
  exact ⟨ho _ _ (h3 b hb).1 (by omega), ho _ _ (h3 b hb).2.1 (by omega), ho _ _ (h3 b hb).2.2 (by omega)⟩
theorem kR.add {g : Nat → Option Nat} (h : kR t f x i) (hi : i < 12) (hg : f (x + 15) = some (.inl (t 8, 12, .inr (.inr (.inr (.inr g)))))) (h1 : f (x + 16 + 3 * i) = some (.inr (7, [.int (nI (2 + i / 3)), .int (nI (i % 3)), .ref (x + 17 + 3 * i), .ref (x + 18 + 3 * i), .int 0, .int 0]))) (h2 : f (x + 17 + 3 * i) = some (.inl (t 5, 5, .inr (.inr (.inr (.inr (fun _ => none))))))) (h4 : f (x + 18 + 3 * i) = some (.inl (t 6, 2, .inr (.inr (.inr (.inr (fun _ => none))))))) : kR t (rl_up f (x + 15) (.inl (t 8, 12, .inr (.inr (.inr (.inr (va_up g i (some (x + 16 + 3 * i))))))))) x (i + 1) := by
  obtain ⟨⟨g', e1, e2⟩, e3⟩ := h
  have hgg : g' = g := by rw [e1] at hg; simpa using hg
  subst hgg
  refine ⟨⟨_, rl_up_s _ _ _, fun b hb => ?_⟩, fun b hb => ?_⟩
  · by_cases hbi : b = i
    · subst hbi
      exact va_up_s _ _ _
    · rw [va_up_n _ _ hbi]
      exact e2 b (by omega)
  · rw [rl_up_n (by omega), rl_up_n (by omega), rl_up_n (by omega)]
    by_cases hbi : b = i
    · subst hbi
      exact ⟨h1, h2, h4⟩
    · exact e3 b (by omega)
theorem rl_on.fresh {z : Nat} {e : va_E} {a : Nat} (h : f z = none) : rl_on a f (rl_up f z e) := fun q e hq _ => rl_le.fresh h q e hq
theorem rl_on.tole {z : Nat} (h : rl_on z f f1) (hz : f z = none) : rl_le f f1 := fun q e hq => h q e hq (fun w => by rw [w, hz] at hq; cases hq)
end KE


theorem rl_old {D : va_G} {A : Nat → Prop} {f : rl_M} {z : Nat} {H0 H : Heap} {locs : List Loc} {q a : Nat} {e : va_E} (h : rl_W D A f z H0 H locs) (hq : f q = some e) (ha : z ≤ a) : q ≠ a := by
  have := h.lt hq
  omega
def KK (t : Nat → ClassId) (f : rl_M) (x : Nat) : Prop := cF0 t f x ∧ cEV t f x (fun _ _ => 0) (fun _ _ => 0) ∧ cRV t f x (fun _ _ => 0)
theorem k_done {t : Nat → ClassId} {f : rl_M} {x : Nat} (h0 : f (x + 1) = some (.inr (3, [.ref (x + 2), .ref (x + 15)]))) (hE : kE t f x 6) (hR : kR t f x 12) : KK t f x := by
  obtain ⟨⟨g, e1, e2⟩, e3⟩ := hE
  obtain ⟨⟨g', r1, r2⟩, r3⟩ := hR
  refine ⟨⟨h0, ⟨g, e1, e2⟩, ⟨g', r1, r2⟩⟩, fun b hb => ⟨(e3 b hb).1, Nat.zero_le _, _, (e3 b hb).2, fun i hi => absurd hi (Nat.not_lt_zero _)⟩, fun j hj => ⟨(r3 j hj).1, Nat.zero_le _, Nat.zero_le _, ⟨_, (r3 j hj).2.1, fun i hi => absurd hi (Nat.not_lt_zero _)⟩, ⟨_, (r3 j hj).2.2, fun i hi => absurd hi (Nat.not_lt_zero _)⟩⟩⟩
theorem KK.le {t : Nat → ClassId} {f f1 : rl_M} {x : Nat} (h : KK t f x) (hl : rl_le f f1) : KK t f1 x := by
  obtain ⟨⟨a1, ⟨g1, a2, a3⟩, ⟨g2, a4, a5⟩⟩, h2, h3⟩ := h
  exact ⟨⟨hl _ _ a1, ⟨g1, hl _ _ a2, a3⟩, ⟨g2, hl _ _ a4, a5⟩⟩, h2.le hl, h3.le hl⟩
theorem KK.x {t : Nat → ClassId} {f : rl_M} {x : Nat} {fs fs2 : List Value} (h : KK t f x) (hx : f x = some (.inr (10, fs))) : KK t (rl_up f x (.inr (10, fs2))) x :=
  ⟨h.1.off (by omega), h.2.1.off (by omega) (fun q fs e => rl_ne e hx (by simp)), h.2.2.off (by omega) (fun q fs e => rl_ne e hx (by simp)) (fun q fs e => rl_ne e hx (by simp))⟩

set_option maxHeartbeats 4000000 in
set_option maxRecDepth 100000 in
theorem cC_Kinds_init (l : Launch) (D : va_G) (t : Nat → ClassId) (A : Nat → Prop) (f : rl_M) (z : Nat) (x : Nat) (hz : z = x + 1 + 1) (h0 : f (x + 1) = some (.inr (3, [.null, .null]))) : rl_Met l yX3_init (.code yX3_init cX3_init 2 none) (rl_rm 2 50 258) D t A f z [.ref (x + 1)] (rl_pv fun f1 z1 d1 => KK t f1 x ∧ rl_on (x + 1) f f1 ∧ z1 = x + 52 ∧ d1 ≤ 258) := by
  refine rl_begin (own := RX3) (lv := [(0, .ref (x + 1))]) (by decide +kernel) rfl (Nat.le_of_ble_eq_true rfl) rfl fun p e s m0 args below meth c ls H locs hC hr hlk hnm hW hl hx hb => ?_
  subst hz
  have hfz := hW.fresh
  have hW0 := hW
  refine lv_aload_n hx hb dX3_init_0 rfl (lv_at hl 0 rfl) ?_
  refine rl_objInit hC mw_29 mw_22 mw_23 hl.1 dX3_init_1 (Nat.le_of_ble_eq_true rfl) (Nat.le_of_ble_eq_true rfl) ?_
  refine lv_aload_n hx hb dX3_init_4 rfl (lv_at hl 0 rfl) ?_
  refine lv_bipush (v := (nI (6))) hx hb dX3_init_5 (by decide) ?_
  refine rl_newq 7 (N' := 6) hC hW rfl mw_30 mt_31 (nI_pos (by decide)) (nI_clamp (by decide)) (by decide) (by simp only [rl_rm]; omega) (by simp only [rl_rm]; omega) dX3_init_7 (fun H hW => ?_)
  rw [show x + 1 + 1 = x + 2 by omega] at hW hfz ⊢
  refine rl_putF (v := .ref (x + 2)) hC hW fp_X3_11 hnm ((rl_up_n (by omega)).trans h0) (Nat.le_of_ble_eq_true rfl) rfl rfl dX3_init_10 (fun H locs hW => ?_)
  replace hW : rl_W D A (rl_up _ (x + 1) (.inr (3, [.ref (x + 2), .null]))) (x + 2 + 1) s.heap H locs := hW
  refine lv_iconst (v := (nI (0))) hx hb dX3_init_13 (by decide) ?_
  refine lv_istore_n (lv' := [(1, .int (nI (0))), (0, .ref (x + 1))]) hx hb dX3_init_14 rfl hl (by decide) rfl (fun ls hl => ?_)
  replace hl : lv_has ls 2 [(0, .ref (x + 1)), (1, .int (nI (0)))] := lv_sub hl [1, 0] rfl
  have hinv : ∃ (f2 : rl_M) (z2 i : Nat), z2 = x + 3 + 2 * i ∧ rl_W D A f2 z2 s.heap H locs ∧ f2 (x + 1) = some (.inr (3, [.ref (x + 2), .null])) ∧ kE t f2 x i ∧ rl_on (x + 1) f f2 ∧ i ≤ 6 ∧ lv_has ls 2 [(0, .ref (x + 1)), (1, .int (nI (i)))] := ⟨_, _, 0, rfl, hW, rl_up_s _ _ _, ⟨⟨_, by rw [rl_up_n (by omega)]; exact rl_up_s _ _ _, fun b hb => absurd hb (by omega)⟩, fun b hb => absurd hb (by omega)⟩, (rl_on.fresh hfz).tr rl_on.up, by omega, hl⟩
  clear hW hl
  obtain ⟨f2, z2, i, hz2, hW, hk0, hE, hon, hi, hl⟩ := hinv
  refine W.widen (show _ ≤ 1 by omega) (show _ ≤ 6 by omega) ?_
  refine W.widen (show _ ≤ 1 + 2 * i by omega) (show _ ≤ 6 + 14 * i by omega) ?_
  obtain ⟨n9, hn9⟩ : ∃ n9, 6 - i < n9 := ⟨_, Nat.lt_succ_self _⟩
  induction n9 generalizing f2 z2 i H locs ls with
  | zero => exact absurd hn9 (Nat.not_lt_zero _)
  | succ n9 ih =>
    obtain ⟨⟨g, hen, hge⟩, hEb⟩ := id hE
    refine lv_iload_n hx hb dX3_init_15 rfl (lv_at hl 1 rfl) ?_
    refine lv_aload_n hx hb dX3_init_16 rfl (lv_at hl 0 rfl) ?_
    refine rl_get (v := .ref (x + 2)) hC hW fl_X3_11 hk0 rfl dX3_init_17 ?_
    refine rl_alen 7 (v := nI (6)) hC hW rfl hen rfl dX3_init_20 ?_
    refine lv_icmp_ge (tgt := 49) hx hb dX3_init_21 (by decide) (fun c1 => ?_) (fun c1 => ?_)
    · have hi6 : i = 6 := by have := rg_le c1 (by decide) (by omega); omega
      subst hi6
      subst hz2
      clear ih hn9 hi hen hge hEb c1
      have hfz2 := hW.fresh
      refine lv_aload_n hx hb dX3_init_49 rfl (lv_at hl 0 rfl) ?_
      refine lv_bipush (v := (nI (12))) hx hb dX3_init_50 (by decide) ?_
      refine rl_newq 8 (N' := 12) hC hW rfl mw_54 mt_55 (nI_pos (by decide)) (nI_clamp (by decide)) (by decide) (by simp only [rl_rm]; omega) (by simp only [rl_rm]; omega) dX3_init_52 (fun H hW => ?_)
      rw [show x + 3 + 2 * 6 = x + 15 by omega] at hW hfz2 ⊢
      refine rl_putF (v := .ref (x + 15)) hC hW fp_X3_22 hnm ((rl_up_n (by omega)).trans hk0) (Nat.le_of_ble_eq_true rfl) rfl rfl dX3_init_55 (fun H locs hW => ?_)
      replace hW : rl_W D A (rl_up _ (x + 1) (.inr (3, [.ref (x + 2), .ref (x + 15)]))) (x + 15 + 1) s.heap H locs := hW
      refine lv_iconst (v := (nI (0))) hx hb dX3_init_58 (by decide) ?_
      refine lv_istore_n (lv' := [(1, .int (nI (0))), (0, .ref (x + 1))]) hx hb dX3_init_59 rfl hl (by decide) rfl (fun ls hl => ?_)
      replace hl : lv_has ls 2 [(0, .ref (x + 1)), (1, .int (nI (0)))] := lv_sub hl [1, 0] rfl
      have hon2 := (rl_on.fresh (a := x + 1) (e := .inl (t 8, 12, .inr (.inr (.inr (.inr (fun _ => none)))))) hfz2).tr (rl_on.up (r := x + 1) (e := .inr (3, [.ref (x + 2), .ref (x + 15)])))
      have hinv : ∃ (f2 : rl_M) (z2 i : Nat), z2 = x + 16 + 3 * i ∧ rl_W D A f2 z2 s.heap H locs ∧ f2 (x + 1) = some (.inr (3, [.ref (x + 2), .ref (x + 15)])) ∧ kE t f2 x 6 ∧ kR t f2 x i ∧ rl_on (x + 1) f f2 ∧ i ≤ 12 ∧ lv_has ls 2 [(0, .ref (x + 1)), (1, .int (nI (i)))] := ⟨_, _, 0, rfl, hW, rl_up_s _ _ _, hE.on hon2 (by omega) (by omega), ⟨⟨_, by rw [rl_up_n (by omega)]; exact rl_up_s _ _ _, fun b hb => absurd hb (by omega)⟩, fun b hb => absurd hb (by omega)⟩, hon.tr hon2, by omega, hl⟩
      clear hW hl hon hE hk0 hfz2 hon2
      obtain ⟨f2, z2, i, hz2, hW, hk0, hE, hR, hon, hi, hl⟩ := hinv
      refine W.widen (show _ ≤ 14 by omega) (show _ ≤ 102 by omega) ?_
      refine W.widen (show _ ≤ 14 + 3 * i by omega) (show _ ≤ 102 + 13 * i by omega) ?_
      obtain ⟨n9, hn9⟩ : ∃ n9, 12 - i < n9 := ⟨_, Nat.lt_succ_self _⟩
      induction n9 generalizing f2 z2 i H locs ls with
      | zero => exact absurd hn9 (Nat.not_lt_zero _)
      | succ n9 ih =>
        obtain ⟨⟨g, hen, hge⟩, hEb⟩ := id hR
        refine lv_iload_n hx hb dX3_init_60 rfl (lv_at hl 1 rfl) ?_
        refine lv_aload_n hx hb dX3_init_61 rfl (lv_at hl 0 rfl) ?_
        refine rl_get (v := .ref (x + 15)) hC hW fl_X3_22 hk0 rfl dX3_init_62 ?_
        refine rl_alen 8 (v := nI (12)) hC hW rfl hen rfl dX3_init_65 ?_
        refine lv_icmp_ge (tgt := 96) hx hb dX3_init_66 (by decide) (fun c1 => ?_) (fun c1 => ?_)
        · have hi12 : i = 12 := by have := rg_le c1 (by decide) (by omega); omega
          subst hi12
          exact rl_vret hC hW hr hlk (by simp only [rl_rm]; omega) (by simp only [rl_rm]; omega) ⟨rfl, k_done hk0 hE hR, hon, by omega, by omega⟩ dX3_init_96
        · have hlt : i < 12 := rg_lt c1 (by omega) (by omega)
          have hfz2 := hW.fresh
          refine lv_aload_n hx hb dX3_init_69 rfl (lv_at hl 0 rfl) ?_
          refine rl_get (v := .ref (x + 15)) hC hW fl_X3_22 hk0 rfl dX3_init_70 ?_
          refine lv_iload_n hx hb dX3_init_73 rfl (lv_at hl 1 rfl) ?_
          subst hz2
          refine rl_new hC hW cn_X3_20 (by simp only [rl_rm]; omega) (by simp only [rl_rm]; omega) dX3_init_74 (fun H hW => ?_)
          rw [show x + 16 + 3 * i + 1 = x + 17 + 3 * i by omega] at hW
          refine lv_dup hx hb dX3_init_77 rfl ?_
          refine lv_iconst (v := (nI (2))) hx hb dX3_init_78 (by decide) ?_
          refine lv_iload_n hx hb dX3_init_79 rfl (lv_at hl 1 rfl) ?_
          refine lv_iconst (v := (nI (3))) hx hb dX3_init_80 (by decide) ?_
          refine lv_idiv hx hb dX3_init_81 (by decide) ?_
          refine rl_topn (pk_div (by omega) (by decide) (by decide)) ?_
          refine lv_iadd hx hb dX3_init_82 ?_
          refine rl_topn (nI_add _ _) ?_
          refine lv_iload_n hx hb dX3_init_83 rfl (lv_at hl 1 rfl) ?_
          refine lv_iconst (v := (nI (3))) hx hb dX3_init_84 (by decide) ?_
          refine lv_irem hx hb dX3_init_85 (by decide) ?_
          refine rl_topn (pk_rem (by omega) (by decide) (by decide)) ?_
          refine rl_callv (rl_runI (b := x + 16 + 3 * i) (As := [.int (nI ((2) + ((i) / 3))), .int (nI ((i) % 3))]) (rest := [.ref (x + 16 + 3 * i), .int (nI (i)), .ref (x + 15)]) hC hW (cC_RV_init l D t A _ (x + 17 + 3 * i) (x + 16 + 3 * i) _ _ (rl_up_s _ _ _)) cs_X3_26 im_X7_init rfl ⟨(Nat.le_of_ble_eq_true rfl), (Nat.le_of_ble_eq_true rfl)⟩ rfl hl.1 rfl (Nat.le_of_ble_eq_true rfl) dX3_init_86 ⟨by simp only [rl_rm]; omega, by simp only [rl_rm]; omega⟩) hW (fun f3 z1 d1 H locs hp hW hz1 => ?_)
          obtain ⟨g1, g2, g2b, g3, rfl, hd1⟩ := hp
          rw [show x + 17 + 3 * i + 1 = x + 18 + 3 * i by omega] at g1 g2b
          have hle3 : rl_le f2 f3 := (show rl_on (x + 16 + 3 * i) f2 f3 from (rl_on.fresh hfz2).tr g3).tole hfz2
          refine rl_aast_n 8 (g := g) hC hW rfl (hle3 _ _ hen) g1 rfl (Or.inl rfl) hlt (by decide) dX3_init_89 (fun H locs hW => ?_)
          have hR3 := (hR.on (a := x + 16 + 3 * i) (fun q e hq _ => hle3 q e hq) (by omega) hi).add hlt (hle3 _ _ hen) g1 g2 g2b
          have hE3 := (hE.on (a := x + 16 + 3 * i) (fun q e hq _ => hle3 q e hq) (by omega) (by omega)).on (a := x + 15) (rl_on.up (e := .inl (t 8, 12, .inr (.inr (.inr (.inr (va_up g i (some (x + 16 + 3 * i))))))))) (by omega) (by omega)
          refine lv_iinc (v := (nI ((i) + 1))) (lv' := [(1, .int (nI ((i) + 1))), (0, .ref (x + 1))]) hx hb dX3_init_90 hl (k := 1) rfl (nI_1 _) (by decide) rfl (fun ls hl => ?_)
          refine lv_goto (tgt := 60) hx hb dX3_init_93 (by decide) ?_
          replace hl : lv_has ls 2 [(0, .ref (x + 1)), (1, .int (nI ((i) + 1)))] := lv_sub hl [1, 0] rfl
          refine W.widen (show _ ≤ 14 + 3 * (i + 1) by omega) (show _ ≤ 102 + 13 * (i + 1) by omega) ?_
          exact ih H locs ls _ _ (i + 1) (by omega) hW ((rl_up_n (by omega)).trans (hle3 _ _ hk0)) hE3 hR3 (fun q e hq hn => by rw [rl_up_n (rl_old hW0 hq (by omega))]; exact hle3 _ _ (hon q e hq hn)) (by omega) hl (by omega)
    · have hlt : i < 6 := rg_lt c1 (by omega) (by omega)
      have hfz2 := hW.fresh
      refine lv_aload_n hx hb dX3_init_24 rfl (lv_at hl 0 rfl) ?_
      refine rl_get (v := .ref (x + 2)) hC hW fl_X3_11 hk0 rfl dX3_init_25 ?_
      refine lv_iload_n hx hb dX3_init_28 rfl (lv_at hl 1 rfl) ?_
      subst hz2
      refine rl_new hC hW cn_X3_9 (by simp only [rl_rm]; omega) (by simp only [rl_rm]; omega) dX3_init_29 (fun H hW => ?_)
      rw [show x + 3 + 2 * i + 1 = x + 4 + 2 * i by omega] at hW
      refine lv_dup hx hb dX3_init_32 rfl ?_
      refine lv_iload_n hx hb dX3_init_33 rfl (lv_at hl 1 rfl) ?_
      refine lv_iconst (v := (nI (3))) hx hb dX3_init_34 (by decide) ?_
      refine lv_idiv hx hb dX3_init_35 (by decide) ?_
      refine rl_topn (pk_div (by omega) (by decide) (by decide)) ?_
      refine lv_iload_n hx hb dX3_init_36 rfl (lv_at hl 1 rfl) ?_
      refine lv_iconst (v := (nI (3))) hx hb dX3_init_37 (by decide) ?_
      refine lv_irem hx hb dX3_init_38 (by decide) ?_
      refine rl_topn (pk_rem (by omega) (by decide) (by decide)) ?_
      refine rl_callv (rl_runI (b := x + 3 + 2 * i) (As := [.int (nI ((i) / 3)), .int (nI ((i) % 3))]) (rest := [.ref (x + 3 + 2 * i), .int (nI (i)), .ref (x + 2)]) hC hW (cC_EV_init l D t A _ (x + 4 + 2 * i) (x + 3 + 2 * i) _ _ (rl_up_s _ _ _)) cs_X3_17 im_X2_init rfl ⟨(Nat.le_of_ble_eq_true rfl), (Nat.le_of_ble_eq_true rfl)⟩ rfl hl.1 rfl (Nat.le_of_ble_eq_true rfl) dX3_init_39 ⟨by simp only [rl_rm]; omega, by simp only [rl_rm]; omega⟩) hW (fun f3 z1 d1 H locs hp hW hz1 => ?_)
      obtain ⟨g1, g2, g3, rfl, hd1⟩ := hp
      have hle3 : rl_le f2 f3 := (show rl_on (x + 3 + 2 * i) f2 f3 from (rl_on.fresh hfz2).tr g3).tole hfz2
      refine rl_aast_n 7 (g := g) hC hW rfl (hle3 _ _ hen) g1 rfl (Or.inl rfl) hlt (by decide) dX3_init_42 (fun H locs hW => ?_)
      have hE3 := (hE.on (a := x + 3 + 2 * i) (fun q e hq _ => hle3 q e hq) (by omega) hi).add hlt (hle3 _ _ hen) g1 g2
      refine lv_iinc (v := (nI ((i) + 1))) (lv' := [(1, .int (nI ((i) + 1))), (0, .ref (x + 1))]) hx hb dX3_init_43 hl (k := 1) rfl (nI_1 _) (by decide) rfl (fun ls hl => ?_)
      refine lv_goto (tgt := 15) hx hb dX3_init_46 (by decide) ?_
      replace hl : lv_has ls 2 [(0, .ref (x + 1)), (1, .int (nI ((i) + 1)))] := lv_sub hl [1, 0] rfl
      refine W.widen (show _ ≤ 1 + 2 * (i + 1) by omega) (show _ ≤ 6 + 14 * (i + 1) by omega) ?_
      exact ih H locs ls _ _ (i + 1) (by omega) hW ((rl_up_n (by omega)).trans (hle3 _ _ hk0)) hE3 (fun q e hq hn => by rw [rl_up_n (rl_old hW0 hq (by omega))]; exact hle3 _ _ (hon q e hq hn)) (by omega) hl (by omega)

theorem rl_ups2 {f : rl_M} {a : Nat} (_ : f a = none) (e : va_E) : rl_up f a e a = some e := rl_up_s _ _ _

set_option maxHeartbeats 4000000 in
set_option maxRecDepth 100000 in
theorem cC_init (l : Launch) (D : va_G) (t : Nat → ClassId) (A : Nat → Prop) (f : rl_M) (z : Nat) (x : Nat) (hz : z = x + 1) (h0 : f x = some (.inr (10, [.null, .null, .null, .null, .null, .int 0, .int 0, .int 0, .int 0, .int 0, .int 0, .int 0]))) : rl_Met l yX11_init (.code yX11_init cX11_init 1 none) (rl_rm 3 57 784) D t A f z [.ref (x)] (rl_pv fun f1 z1 d1 => CI t f1 x (fun _ _ => 0) 0 0 pg_0 (fun _ _ => 0) ∧ z1 = x + 58 ∧ d1 ≤ 784) := by
  refine rl_begin (own := RX11) (lv := [(0, .ref (x))]) (by decide +kernel) rfl (Nat.le_of_ble_eq_true rfl) rfl fun p e s m0 args below meth c ls H locs hC hr hlk hnm hW hl hx hb => ?_
  subst hz
  have hfz := hW.fresh
  refine lv_aload_n hx hb dX11_init_0 rfl (lv_at hl 0 rfl) ?_
  refine rl_objInit hC mw_21 mw_22 mw_23 hl.1 dX11_init_1 (Nat.le_of_ble_eq_true rfl) (Nat.le_of_ble_eq_true rfl) ?_
  refine lv_aload_n hx hb dX11_init_4 rfl (lv_at hl 0 rfl) ?_
  refine rl_new hC hW cn_X11_7 (by simp only [rl_rm]; omega) (by simp only [rl_rm]; omega) dX11_init_5 (fun H hW => ?_)
  refine lv_dup hx hb dX11_init_8 rfl ?_
  refine rl_callv (rl_runI (b := x + 1) (As := []) (rest := [.ref (x + 1), .ref (x)]) hC hW (cC_Kinds_init l D t A _ (x + 1 + 1) x rfl (rl_up_s _ _ _)) cs_X11_9 im_X3_init rfl ⟨(Nat.le_of_ble_eq_true rfl), (Nat.le_of_ble_eq_true rfl)⟩ rfl hl.1 rfl (Nat.le_of_ble_eq_true rfl) dX11_init_9 ⟨by simp only [rl_rm]; omega, by simp only [rl_rm]; omega⟩) hW (fun f1 z1 d1 H locs hp hW hz1 => ?_)
  obtain ⟨hK, hon, rfl, hd1⟩ := hp
  have hle := rl_on.tole (f := f) ((rl_on.fresh hfz).tr hon) hfz
  replace h0 := hle _ _ h0
  clear hon hle
  refine rl_putF (v := .ref (x + 1)) hC hW fp_X11_10 hnm h0 (Nat.le_of_ble_eq_true rfl) rfl rfl dX11_init_12 (fun H locs hW => ?_)
  replace hW : rl_W D A (rl_up _ x (.inr (10, [.ref (x + 1), .null, .null, .null, .null, .int 0, .int 0, .int 0, .int 0, .int 0, .int 0, .int 0]))) (x + 52) s.heap H locs := hW
  replace hK := hK.x (fs2 := [.ref (x + 1), .null, .null, .null, .null, .int 0, .int 0, .int 0, .int 0, .int 0, .int 0, .int 0]) h0
  replace h0 := rl_ups h0 (.inr (10, [.ref (x + 1), .null, .null, .null, .null, .int 0, .int 0, .int 0, .int 0, .int 0, .int 0, .int 0]))
  refine lv_aload_n hx hb dX11_init_15 rfl (lv_at hl 0 rfl) ?_
  refine lv_bipush (v := (nI (10))) hx hb dX11_init_16 (by decide) ?_
  have hfz := hW.fresh
  refine rl_newq 3 (N' := 10) hC hW rfl mw_97 mt_98 (nI_pos (by decide)) (nI_clamp (by decide)) (by decide) (by simp only [rl_rm]; omega) (by simp only [rl_rm]; omega) dX11_init_18 (fun H hW => ?_)
  have hle := rl_le.fresh (e := .inl (t 3, 10, .inr (.inr (.inr (.inr (fun _ => none)))))) hfz
  replace hK := hK.le hle
  replace h0 := hle _ _ h0
  have p52 := rl_ups2 hfz (.inl (t 3, 10, .inr (.inr (.inr (.inr (fun _ => none))))))
  clear hle hfz
  replace hW : rl_W D A _ (x + 53) s.heap H locs := hW
  refine rl_putF (v := .ref (x + 52)) hC hW fp_X11_18 hnm h0 (Nat.le_of_ble_eq_true rfl) rfl rfl dX11_init_21 (fun H locs hW => ?_)
  replace hW : rl_W D A (rl_up _ x (.inr (10, [.ref (x + 1), .ref (x + 52), .null, .null, .null, .int 0, .int 0, .int 0, .int 0, .int 0, .int 0, .int 0]))) (x + 53) s.heap H locs := hW
  replace hK := hK.x (fs2 := [.ref (x + 1), .ref (x + 52), .null, .null, .null, .int 0, .int 0, .int 0, .int 0, .int 0, .int 0, .int 0]) h0
  replace p52 := (rl_up_n (a := x) (b := x + 52) (e := .inr (10, [.ref (x + 1), .ref (x + 52), .null, .null, .null, .int 0, .int 0, .int 0, .int 0, .int 0, .int 0, .int 0])) (by omega)).trans p52
  replace h0 := rl_ups h0 (.inr (10, [.ref (x + 1), .ref (x + 52), .null, .null, .null, .int 0, .int 0, .int 0, .int 0, .int 0, .int 0, .int 0]))
  refine lv_aload_n hx hb dX11_init_24 rfl (lv_at hl 0 rfl) ?_
  refine lv_iconst (v := (nI (5))) hx hb dX11_init_25 (by decide) ?_
  have hfz := hW.fresh
  refine rl_newl (N' := 5) hC hW mw_122 (nI_pos (by decide)) (nI_clamp (by decide)) (by decide) (by simp only [rl_rm]; omega) (by simp only [rl_rm]; omega) dX11_init_26 (fun H hW => ?_)
  have hle := rl_le.fresh (e := .inl (t 1, 5, .inr (.inl (fun _ => 0)))) hfz
  replace hK := hK.le hle
  replace h0 := hle _ _ h0
  replace p52 := hle _ _ p52
  have p53 := rl_ups2 hfz (.inl (t 1, 5, .inr (.inl (fun _ => 0))))
  clear hle hfz
  replace hW : rl_W D A _ (x + 54) s.heap H locs := hW
  refine rl_putF (v := .ref (x + 53)) hC hW fp_X11_22 hnm h0 (Nat.le_of_ble_eq_true rfl) rfl rfl dX11_init_28 (fun H locs hW => ?_)
  replace hW : rl_W D A (rl_up _ x (.inr (10, [.ref (x + 1), .ref (x + 52), .ref (x + 53), .null, .null, .int 0, .int 0, .int 0, .int 0, .int 0, .int 0, .int 0]))) (x + 54) s.heap H locs := hW
  replace hK := hK.x (fs2 := [.ref (x + 1), .ref (x + 52), .ref (x + 53), .null, .null, .int 0, .int 0, .int 0, .int 0, .int 0, .int 0, .int 0]) h0
  replace p52 := (rl_up_n (a := x) (b := x + 52) (e := .inr (10, [.ref (x + 1), .ref (x + 52), .ref (x + 53), .null, .null, .int 0, .int 0, .int 0, .int 0, .int 0, .int 0, .int 0])) (by omega)).trans p52
  replace p53 := (rl_up_n (a := x) (b := x + 53) (e := .inr (10, [.ref (x + 1), .ref (x + 52), .ref (x + 53), .null, .null, .int 0, .int 0, .int 0, .int 0, .int 0, .int 0, .int 0])) (by omega)).trans p53
  replace h0 := rl_ups h0 (.inr (10, [.ref (x + 1), .ref (x + 52), .ref (x + 53), .null, .null, .int 0, .int 0, .int 0, .int 0, .int 0, .int 0, .int 0]))
  refine lv_aload_n hx hb dX11_init_31 rfl (lv_at hl 0 rfl) ?_
  refine lv_iconst (v := (nI (5))) hx hb dX11_init_32 (by decide) ?_
  have hfz := hW.fresh
  refine rl_newi (N' := 5) hC hW mw_123 (nI_pos (by decide)) (nI_clamp (by decide)) (by decide) (by simp only [rl_rm]; omega) (by simp only [rl_rm]; omega) dX11_init_33 (fun H hW => ?_)
  have hle := rl_le.fresh (e := .inl (t 0, 5, .inl (fun _ => 0))) hfz
  replace hK := hK.le hle
  replace h0 := hle _ _ h0
  replace p52 := hle _ _ p52
  replace p53 := hle _ _ p53
  have p54 := rl_ups2 hfz (.inl (t 0, 5, .inl (fun _ => 0)))
  clear hle hfz
  replace hW : rl_W D A _ (x + 55) s.heap H locs := hW
  refine rl_putF (v := .ref (x + 54)) hC hW fp_X11_26 hnm h0 (Nat.le_of_ble_eq_true rfl) rfl rfl dX11_init_35 (fun H locs hW => ?_)
  replace hW : rl_W D A (rl_up _ x (.inr (10, [.ref (x + 1), .ref (x + 52), .ref (x + 53), .ref (x + 54), .null, .int 0, .int 0, .int 0, .int 0, .int 0, .int 0, .int 0]))) (x + 55) s.heap H locs := hW
  replace hK := hK.x (fs2 := [.ref (x + 1), .ref (x + 52), .ref (x + 53), .ref (x + 54), .null, .int 0, .int 0, .int 0, .int 0, .int 0, .int 0, .int 0]) h0
  replace p52 := (rl_up_n (a := x) (b := x + 52) (e := .inr (10, [.ref (x + 1), .ref (x + 52), .ref (x + 53), .ref (x + 54), .null, .int 0, .int 0, .int 0, .int 0, .int 0, .int 0, .int 0])) (by omega)).trans p52
  replace p53 := (rl_up_n (a := x) (b := x + 53) (e := .inr (10, [.ref (x + 1), .ref (x + 52), .ref (x + 53), .ref (x + 54), .null, .int 0, .int 0, .int 0, .int 0, .int 0, .int 0, .int 0])) (by omega)).trans p53
  replace p54 := (rl_up_n (a := x) (b := x + 54) (e := .inr (10, [.ref (x + 1), .ref (x + 52), .ref (x + 53), .ref (x + 54), .null, .int 0, .int 0, .int 0, .int 0, .int 0, .int 0, .int 0])) (by omega)).trans p54
  replace h0 := rl_ups h0 (.inr (10, [.ref (x + 1), .ref (x + 52), .ref (x + 53), .ref (x + 54), .null, .int 0, .int 0, .int 0, .int 0, .int 0, .int 0, .int 0]))
  refine lv_aload_n hx hb dX11_init_38 rfl (lv_at hl 0 rfl) ?_
  have hfz := hW.fresh
  refine rl_new hC hW cn_X11_30 (by simp only [rl_rm]; omega) (by simp only [rl_rm]; omega) dX11_init_39 (fun H hW => ?_)
  refine lv_dup hx hb dX11_init_42 rfl ?_
  refine rl_callv (rl_runI (b := x + 55) (As := []) (rest := [.ref (x + 55), .ref (x)]) hC hW (cC_Tape_init l D t A _ (x + 56) (x + 55) (rl_up_s _ _ _)) cs_X11_32 im_X9_init rfl ⟨(Nat.le_of_ble_eq_true rfl), (Nat.le_of_ble_eq_true rfl)⟩ rfl hl.1 rfl (Nat.le_of_ble_eq_true rfl) dX11_init_43 ⟨by simp only [rl_rm]; omega, by simp only [rl_rm]; omega⟩) hW (fun f2 z1 d1 H locs hp hW hz1 => ?_)
  obtain ⟨g1, g2, g3, hon, rfl, hd2⟩ := hp
  have hle := rl_on.tole ((rl_on.fresh hfz).tr hon) hfz
  replace hK := hK.le hle
  replace h0 := hle _ _ h0
  replace p52 := hle _ _ p52
  replace p53 := hle _ _ p53
  replace p54 := hle _ _ p54
  clear hle hon hfz
  replace g3 : f2 (x + 57) = _ := g3
  replace hW : rl_W D A f2 (x + 58) s.heap H locs := hW
  replace g1 : f2 (x + 55) = some (.inr (9, [.ref (x + 56), .ref (x + 57), .int 0, .int 0])) := g1
  refine rl_putF (v := .ref (x + 55)) hC hW fp_X11_33 hnm h0 (Nat.le_of_ble_eq_true rfl) rfl rfl dX11_init_46 (fun H locs hW => ?_)
  replace hW : rl_W D A (rl_up _ x (.inr (10, [.ref (x + 1), .ref (x + 52), .ref (x + 53), .ref (x + 54), .ref (x + 55), .int 0, .int 0, .int 0, .int 0, .int 0, .int 0, .int 0]))) (x + 58) s.heap H locs := hW
  replace hK := hK.x (fs2 := [.ref (x + 1), .ref (x + 52), .ref (x + 53), .ref (x + 54), .ref (x + 55), .int 0, .int 0, .int 0, .int 0, .int 0, .int 0, .int 0]) h0
  replace p52 := (rl_up_n (a := x) (b := x + 52) (e := .inr (10, [.ref (x + 1), .ref (x + 52), .ref (x + 53), .ref (x + 54), .ref (x + 55), .int 0, .int 0, .int 0, .int 0, .int 0, .int 0, .int 0])) (by omega)).trans p52
  replace p53 := (rl_up_n (a := x) (b := x + 53) (e := .inr (10, [.ref (x + 1), .ref (x + 52), .ref (x + 53), .ref (x + 54), .ref (x + 55), .int 0, .int 0, .int 0, .int 0, .int 0, .int 0, .int 0])) (by omega)).trans p53
  replace p54 := (rl_up_n (a := x) (b := x + 54) (e := .inr (10, [.ref (x + 1), .ref (x + 52), .ref (x + 53), .ref (x + 54), .ref (x + 55), .int 0, .int 0, .int 0, .int 0, .int 0, .int 0, .int 0])) (by omega)).trans p54
  replace g1 := (rl_up_n (a := x) (b := x + 55) (e := .inr (10, [.ref (x + 1), .ref (x + 52), .ref (x + 53), .ref (x + 54), .ref (x + 55), .int 0, .int 0, .int 0, .int 0, .int 0, .int 0, .int 0])) (by omega)).trans g1
  replace g2 := (rl_up_n (a := x) (b := x + 56) (e := .inr (10, [.ref (x + 1), .ref (x + 52), .ref (x + 53), .ref (x + 54), .ref (x + 55), .int 0, .int 0, .int 0, .int 0, .int 0, .int 0, .int 0])) (by omega)).trans g2
  replace g3 := (rl_up_n (a := x) (b := x + 57) (e := .inr (10, [.ref (x + 1), .ref (x + 52), .ref (x + 53), .ref (x + 54), .ref (x + 55), .int 0, .int 0, .int 0, .int 0, .int 0, .int 0, .int 0])) (by omega)).trans g3
  replace h0 := rl_ups h0 (.inr (10, [.ref (x + 1), .ref (x + 52), .ref (x + 53), .ref (x + 54), .ref (x + 55), .int 0, .int 0, .int 0, .int 0, .int 0, .int 0, .int 0]))
  refine lv_aload_n hx hb dX11_init_49 rfl (lv_at hl 0 rfl) ?_
  refine lv_iconst (v := (-1)) hx hb dX11_init_50 (by decide) ?_
  refine rl_put (v := .int (-1)) hC hW fp_X11_37 h0 (Nat.le_of_ble_eq_true rfl) rfl rfl dX11_init_51 (fun H locs hW => ?_)
  replace hW : rl_W D A (rl_up _ x (.inr (10, [.ref (x + 1), .ref (x + 52), .ref (x + 53), .ref (x + 54), .ref (x + 55), .int (-1), .int 0, .int 0, .int 0, .int 0, .int 0, .int 0]))) (x + 58) s.heap H locs := hW
  replace hK := hK.x (fs2 := [.ref (x + 1), .ref (x + 52), .ref (x + 53), .ref (x + 54), .ref (x + 55), .int (-1), .int 0, .int 0, .int 0, .int 0, .int 0, .int 0]) h0
  replace p52 := (rl_up_n (a := x) (b := x + 52) (e := .inr (10, [.ref (x + 1), .ref (x + 52), .ref (x + 53), .ref (x + 54), .ref (x + 55), .int (-1), .int 0, .int 0, .int 0, .int 0, .int 0, .int 0])) (by omega)).trans p52
  replace p53 := (rl_up_n (a := x) (b := x + 53) (e := .inr (10, [.ref (x + 1), .ref (x + 52), .ref (x + 53), .ref (x + 54), .ref (x + 55), .int (-1), .int 0, .int 0, .int 0, .int 0, .int 0, .int 0])) (by omega)).trans p53
  replace p54 := (rl_up_n (a := x) (b := x + 54) (e := .inr (10, [.ref (x + 1), .ref (x + 52), .ref (x + 53), .ref (x + 54), .ref (x + 55), .int (-1), .int 0, .int 0, .int 0, .int 0, .int 0, .int 0])) (by omega)).trans p54
  replace g1 := (rl_up_n (a := x) (b := x + 55) (e := .inr (10, [.ref (x + 1), .ref (x + 52), .ref (x + 53), .ref (x + 54), .ref (x + 55), .int (-1), .int 0, .int 0, .int 0, .int 0, .int 0, .int 0])) (by omega)).trans g1
  replace g2 := (rl_up_n (a := x) (b := x + 56) (e := .inr (10, [.ref (x + 1), .ref (x + 52), .ref (x + 53), .ref (x + 54), .ref (x + 55), .int (-1), .int 0, .int 0, .int 0, .int 0, .int 0, .int 0])) (by omega)).trans g2
  replace g3 := (rl_up_n (a := x) (b := x + 57) (e := .inr (10, [.ref (x + 1), .ref (x + 52), .ref (x + 53), .ref (x + 54), .ref (x + 55), .int (-1), .int 0, .int 0, .int 0, .int 0, .int 0, .int 0])) (by omega)).trans g3
  replace h0 := rl_ups h0 (.inr (10, [.ref (x + 1), .ref (x + 52), .ref (x + 53), .ref (x + 54), .ref (x + 55), .int (-1), .int 0, .int 0, .int 0, .int 0, .int 0, .int 0]))
  refine lv_aload_n hx hb dX11_init_54 rfl (lv_at hl 0 rfl) ?_
  refine lv_bipush (v := (-3)) hx hb dX11_init_55 (by decide) ?_
  refine rl_put (v := .int (-3)) hC hW fp_X11_41 h0 (Nat.le_of_ble_eq_true rfl) rfl rfl dX11_init_57 (fun H locs hW => ?_)
  replace hW : rl_W D A (rl_up _ x (.inr (10, [.ref (x + 1), .ref (x + 52), .ref (x + 53), .ref (x + 54), .ref (x + 55), .int (-1), .int 0, .int (-3), .int 0, .int 0, .int 0, .int 0]))) (x + 58) s.heap H locs := hW
  replace hK := hK.x (fs2 := [.ref (x + 1), .ref (x + 52), .ref (x + 53), .ref (x + 54), .ref (x + 55), .int (-1), .int 0, .int (-3), .int 0, .int 0, .int 0, .int 0]) h0
  replace p52 := (rl_up_n (a := x) (b := x + 52) (e := .inr (10, [.ref (x + 1), .ref (x + 52), .ref (x + 53), .ref (x + 54), .ref (x + 55), .int (-1), .int 0, .int (-3), .int 0, .int 0, .int 0, .int 0])) (by omega)).trans p52
  replace p53 := (rl_up_n (a := x) (b := x + 53) (e := .inr (10, [.ref (x + 1), .ref (x + 52), .ref (x + 53), .ref (x + 54), .ref (x + 55), .int (-1), .int 0, .int (-3), .int 0, .int 0, .int 0, .int 0])) (by omega)).trans p53
  replace p54 := (rl_up_n (a := x) (b := x + 54) (e := .inr (10, [.ref (x + 1), .ref (x + 52), .ref (x + 53), .ref (x + 54), .ref (x + 55), .int (-1), .int 0, .int (-3), .int 0, .int 0, .int 0, .int 0])) (by omega)).trans p54
  replace g1 := (rl_up_n (a := x) (b := x + 55) (e := .inr (10, [.ref (x + 1), .ref (x + 52), .ref (x + 53), .ref (x + 54), .ref (x + 55), .int (-1), .int 0, .int (-3), .int 0, .int 0, .int 0, .int 0])) (by omega)).trans g1
  replace g2 := (rl_up_n (a := x) (b := x + 56) (e := .inr (10, [.ref (x + 1), .ref (x + 52), .ref (x + 53), .ref (x + 54), .ref (x + 55), .int (-1), .int 0, .int (-3), .int 0, .int 0, .int 0, .int 0])) (by omega)).trans g2
  replace g3 := (rl_up_n (a := x) (b := x + 57) (e := .inr (10, [.ref (x + 1), .ref (x + 52), .ref (x + 53), .ref (x + 54), .ref (x + 55), .int (-1), .int 0, .int (-3), .int 0, .int 0, .int 0, .int 0])) (by omega)).trans g3
  replace h0 := rl_ups h0 (.inr (10, [.ref (x + 1), .ref (x + 52), .ref (x + 53), .ref (x + 54), .ref (x + 55), .int (-1), .int 0, .int (-3), .int 0, .int 0, .int 0, .int 0]))
  exact rl_vret hC hW hr hlk (by simp only [rl_rm]; omega) (by simp only [rl_rm]; omega) ⟨rfl, ⟨hK.1, hK.2.1, hK.2.2, ⟨_, h0⟩, ⟨_, p52, fun p hp => ⟨rfl, trivial⟩⟩, ⟨⟨_, p53, fun p hp => rfl⟩, ⟨_, p54, fun p hp => rfl⟩⟩, ⟨⟨0, g1⟩, ⟨_, g2, fun k hk => absurd hk (Nat.not_lt_zero _)⟩, ⟨_, g3⟩⟩, fun r hr => absurd hr (Nat.not_lt_zero _), fun r hr => absurd hr (Nat.not_lt_zero _), fun r r2 h1 => absurd h1 (Nat.not_lt_zero _), fun r r2 h1 => absurd h1 (Nat.not_lt_zero _)⟩, rfl, by omega⟩ dX11_init_60
