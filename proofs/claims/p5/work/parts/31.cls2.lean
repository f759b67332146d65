
/-- the class's state: the versions' tables -/
def cEV (t : Nat → ClassId) (f : rl_M) (x : Nat) (T : Nat → Nat → Nat) : Prop := ∀ b, b < 6 → f (x + 3 + 2 * b) = some (.inr (2, [.int (nI (b / 3)), .int (nI (b % 3)), .ref (x + 4 + 2 * b), .int (nI (T 0 b))])) ∧ T 0 b ≤ 10 ∧ ∃ g : Nat → Option Nat, f (x + 4 + 2 * b) = some (.inl (t 4, 10, .inr (.inr (.inr (.inr g))))) ∧ ∀ i, i < T 0 b → ∃ (q : Nat) (lo : Int32), g i = some q ∧ x + 58 ≤ q ∧ f q = some (.inr (1, [.ref (x + 3 + 2 * b), .int (nI (T 1 (10 * b + i))), .int (nI i), .int lo]))
def cPA (t : Nat → ClassId) (f : rl_M) (x : Nat) (T : Nat → Nat → Nat) (j : Nat) : Prop := ∃ g : Nat → Option Nat, f (x + 17 + 3 * j) = some (.inl (t 5, 5, .inr (.inr (.inr (.inr g))))) ∧ ∀ p, p < T 2 j → ∃ (q : Nat) (o : Int32), g p = some q ∧ x + 58 ≤ q ∧ f q = some (.inr (4, [.int (nI (T 3 (5 * j + p))), .int (nI (T 4 (5 * j + p))), .int o]))
def cKA (t : Nat → ClassId) (f : rl_M) (x : Nat) (T : Nat → Nat → Nat) (j : Nat) : Prop := ∃ g : Nat → Option Nat, f (x + 18 + 3 * j) = some (.inl (t 6, 2, .inr (.inr (.inr (.inr g))))) ∧ ∀ c, c < T 5 j → ∃ (q : Nat) (b : Int32), g c = some q ∧ x + 58 ≤ q ∧ f q = some (.inr (0, [.int (nI (T 6 (2 * j + c))), .int (nI (T 7 (2 * j + c))), .int b])) ∧ T 7 (2 * j + c) < T 2 j ∧ rt_kb (T 6 (2 * j + c)) (T 2 j) b
def cRV (t : Nat → ClassId) (f : rl_M) (x : Nat) (T : Nat → Nat → Nat) : Prop := ∀ j, j < 12 → f (x + 16 + 3 * j) = some (.inr (7, [.int (nI (2 + j / 3)), .int (nI (j % 3)), .ref (x + 17 + 3 * j), .ref (x + 18 + 3 * j), .int (nI (T 2 j)), .int (nI (T 5 j))])) ∧ T 2 j ≤ 5 ∧ T 5 j ≤ 2 ∧ cPA t f x T j ∧ cKA t f x T j
/-- a thing: a constant, a row, a record -/
def cT1 (f : rl_M) (x a : Nat) : Prop := ∃ (b : Nat) (nm o lo : Int32), b < 6 ∧ f a = some (.inr (1, [.ref (x + 3 + 2 * b), .int nm, .int o, .int lo]))
def cT8 (t : Nat → ClassId) (f : rl_M) (x a : Nat) : Prop := ∃ (r n : Nat) (g : Nat → Int32), x + 58 ≤ r ∧ n ≤ 8 ∧ f a = some (.inr (8, [.ref r])) ∧ f r = some (.inl (t 0, n, .inl g))
def cT6 (t : Nat → ClassId) (f : rl_M) (x : Nat) (T : Nat → Nat → Nat) (Th : Nat → Prop) (a : Nat) : Prop := ∃ (j nu th n : Nat) (gn : Nat → Int64) (gt : Nat → Option Nat), j < 12 ∧ x + 58 ≤ nu ∧ x + 58 ≤ th ∧ n ≤ T 2 j ∧ f a = some (.inr (6, [.ref (x + 16 + 3 * j), .ref nu, .ref th])) ∧ f nu = some (.inl (t 1, n, .inr (.inl gn))) ∧ f th = some (.inl (t 3, n, .inr (.inr (.inr (.inr gt))))) ∧ ∀ i, i < n → ∀ q, gt i = some q → Th q
def cTH (t : Nat → ClassId) (f : rl_M) (x : Nat) (T : Nat → Nat → Nat) (Th : Nat → Prop) (a : Nat) : Prop := x + 58 ≤ a ∧ (cT1 f x a ∨ cT8 t f x a ∨ cT6 t f x T Th a)
/-- the fixed cells around them -/
def cF0 (t : Nat → ClassId) (f : rl_M) (x : Nat) : Prop := f (x + 1) = some (.inr (3, [.ref (x + 2), .ref (x + 15)])) ∧ (∃ g : Nat → Option Nat, f (x + 2) = some (.inl (t 7, 6, .inr (.inr (.inr (.inr g))))) ∧ ∀ b, b < 6 → g b = some (x + 3 + 2 * b)) ∧ ∃ g : Nat → Option Nat, f (x + 15) = some (.inl (t 8, 12, .inr (.inr (.inr (.inr g))))) ∧ ∀ j, j < 12 → g j = some (x + 16 + 3 * j)
def cX (f : rl_M) (x : Nat) : Prop := ∃ v5 v6 v7 v8 v9 v10 v11 : Int32, f x = some (.inr (10, [.ref (x + 1), .ref (x + 52), .ref (x + 53), .ref (x + 54), .ref (x + 55), .int v5, .int v6, .int v7, .int v8, .int v9, .int v10, .int v11]))
def cPL (t : Nat → ClassId) (f : rl_M) (x : Nat) (Th : Nat → Prop) : Prop := ∃ g : Nat → Option Nat, f (x + 52) = some (.inl (t 3, 10, .inr (.inr (.inr (.inr g))))) ∧ ∀ p, p < 10 → ∀ q, g p = some q → Th q
def cGV (t : Nat → ClassId) (f : rl_M) (x : Nat) : Prop := (∃ g : Nat → Int64, f (x + 53) = some (.inl (t 1, 5, .inr (.inl g)))) ∧ ∃ g : Nat → Int32, f (x + 54) = some (.inl (t 0, 5, .inl g)) ∧ ∀ p, p < 5 → ∃ q : Nat, q < 10 ∧ g p = nI q
def cTP (t : Nat → ClassId) (f : rl_M) (x : Nat) : Prop := (∃ (sz : Nat) (fz : Int32), f (x + 55) = some (.inr (9, [.ref (x + 56), .ref (x + 57), .int (nI sz), .int fz])) ∧ sz ≤ 250) ∧ (∃ g : Nat → Int64, f (x + 56) = some (.inl (t 1, 250, .inr (.inl g)))) ∧ ∃ g : Nat → Int64, f (x + 57) = some (.inl (t 1, 250, .inr (.inl g)))
def CI (t : Nat → ClassId) (f : rl_M) (x : Nat) (T : Nat → Nat → Nat) (Th : Nat → Prop) : Prop := cF0 t f x ∧ cEV t f x T ∧ cRV t f x T ∧ cX f x ∧ cPL t f x Th ∧ cGV t f x ∧ cTP t f x ∧ ∀ a, Th a → cTH t f x T Th a
section CIL
variable {t : Nat → ClassId} {f f1 : rl_M} {x : Nat} {T : Nat → Nat → Nat} {Th : Nat → Prop}
theorem cEV.le (h : cEV t f x T) (hl : rl_le f f1) : cEV t f1 x T := by
  intro b hb
  obtain ⟨h1, h2, g, h3, h4⟩ := h b hb
  refine ⟨hl _ _ h1, h2, g, hl _ _ h3, fun i hi => ?_⟩
  obtain ⟨q, lo, e1, e2, e3⟩ := h4 i hi
  exact ⟨q, lo, e1, e2, hl _ _ e3⟩
theorem cRV.le (h : cRV t f x T) (hl : rl_le f f1) : cRV t f1 x T := by
  intro j hj
  obtain ⟨h1, h2, h3, ⟨g, h4, h5⟩, ⟨g', h6, h7⟩⟩ := h j hj
  refine ⟨hl _ _ h1, h2, h3, ⟨g, hl _ _ h4, fun p hp => ?_⟩, ⟨g', hl _ _ h6, fun c hc => ?_⟩⟩
  · obtain ⟨q, o, e1, e2, e3⟩ := h5 p hp
    exact ⟨q, o, e1, e2, hl _ _ e3⟩
  · obtain ⟨q, b, e1, e2, e3, e4⟩ := h7 c hc
    exact ⟨q, b, e1, e2, hl _ _ e3, e4⟩
theorem cTH.le {a : Nat} (h : cTH t f x T Th a) (hl : rl_le f f1) : cTH t f1 x T Th a := by
  obtain ⟨h0, h | h | h⟩ := h
  · obtain ⟨b, nm, o, lo, h1, h2⟩ := h
    exact ⟨h0, Or.inl ⟨b, nm, o, lo, h1, hl _ _ h2⟩⟩
  · obtain ⟨r, n, g, h1, h2, h3, h4⟩ := h
    exact ⟨h0, Or.inr (Or.inl ⟨r, n, g, h1, h2, hl _ _ h3, hl _ _ h4⟩)⟩
  · obtain ⟨j, nu, th, n, gn, gt, h1, h2, h3, h4, h5, h6, h7, h8⟩ := h
    exact ⟨h0, Or.inr (Or.inr ⟨j, nu, th, n, gn, gt, h1, h2, h3, h4, hl _ _ h5, hl _ _ h6, hl _ _ h7, h8⟩)⟩
theorem cTH.more {Th' : Nat → Prop} {a : Nat} (h : cTH t f x T Th a) (ht : ∀ q, Th q → Th' q) : cTH t f x T Th' a := by
  obtain ⟨h0, h | h | h⟩ := h
  · exact ⟨h0, Or.inl h⟩
  · exact ⟨h0, Or.inr (Or.inl h)⟩
  · obtain ⟨j, nu, th, n, gn, gt, h1, h2, h3, h4, h5, h6, h7, h8⟩ := h
    exact ⟨h0, Or.inr (Or.inr ⟨j, nu, th, n, gn, gt, h1, h2, h3, h4, h5, h6, h7, fun i hi q e => ht q (h8 i hi q e)⟩)⟩
theorem CI.le (h : CI t f x T Th) (hl : rl_le f f1) : CI t f1 x T Th := by
  obtain ⟨⟨a1, ⟨g1, a2, a3⟩, ⟨g2, a4, a5⟩⟩, h2, h3, ⟨v5, v6, v7, v8, v9, v10, v11, b1⟩, ⟨g3, c1, c2⟩, ⟨⟨g4, d1⟩, ⟨g5, d2, d3⟩⟩, ⟨⟨sz, fz, e1, e2⟩, ⟨g6, e3⟩, ⟨g7, e4⟩⟩, h9⟩ := h
  exact ⟨⟨hl _ _ a1, ⟨g1, hl _ _ a2, a3⟩, ⟨g2, hl _ _ a4, a5⟩⟩, h2.le hl, h3.le hl, ⟨v5, v6, v7, v8, v9, v10, v11, hl _ _ b1⟩, ⟨g3, hl _ _ c1, c2⟩, ⟨⟨g4, hl _ _ d1⟩, ⟨g5, hl _ _ d2, d3⟩⟩, ⟨⟨sz, fz, hl _ _ e1, e2⟩, ⟨g6, hl _ _ e3⟩, ⟨g7, hl _ _ e4⟩⟩, fun a ha => (h9 a ha).le hl⟩
/-- a new thing is one of the things -/
theorem CI.thing {a : Nat} (h : CI t f x T Th) (ha : cTH t f x T Th a) : CI t f x T (fun q => Th q ∨ q = a) := by
  obtain ⟨h1, h2, h3, h4, ⟨g, h5, h6⟩, h7, h8, h9⟩ := h
  refine ⟨h1, h2, h3, h4, ⟨g, h5, fun p hp q e => Or.inl (h6 p hp q e)⟩, h7, h8, fun b hb => ?_⟩
  rcases hb with hb | rfl
  · exact (h9 b hb).more (fun q hq => Or.inl hq)
  · exact ha.more (fun q hq => Or.inl hq)
/-- an update of a cell that nothing of the versions' tables and of the things is -/
theorem cEV.off {a : Nat} {e : va_E} (h : cEV t f x T) (h1 : ∀ b, b < 6 → a ≠ x + 3 + 2 * b ∧ a ≠ x + 4 + 2 * b) (h2 : ∀ q fs, f q = some (.inr (1, fs)) → q ≠ a) : cEV t (rl_up f a e) x T := by
  intro b hb
  obtain ⟨e1, e2, g, e3, e4⟩ := h b hb
  have hne := h1 b hb
  refine ⟨by rw [rl_up_n (Ne.symm hne.1)]; exact e1, e2, g, by rw [rl_up_n (Ne.symm hne.2)]; exact e3, fun i hi => ?_⟩
  obtain ⟨q, lo, k1, k2, k3⟩ := e4 i hi
  exact ⟨q, lo, k1, k2, by rw [rl_up_n (h2 q _ k3)]; exact k3⟩
theorem cRV.off {a : Nat} {e : va_E} (h : cRV t f x T) (h1 : ∀ j, j < 12 → a ≠ x + 16 + 3 * j ∧ a ≠ x + 17 + 3 * j ∧ a ≠ x + 18 + 3 * j) (h2 : ∀ q fs, f q = some (.inr (4, fs)) → q ≠ a) (h3 : ∀ q fs, f q = some (.inr (0, fs)) → q ≠ a) : cRV t (rl_up f a e) x T := by
  intro j hj
  obtain ⟨e1, e2, e3, ⟨g, e4, e5⟩, ⟨g', e6, e7⟩⟩ := h j hj
  have hne := h1 j hj
  refine ⟨by rw [rl_up_n (Ne.symm hne.1)]; exact e1, e2, e3, ⟨g, by rw [rl_up_n (Ne.symm hne.2.1)]; exact e4, fun p hp => ?_⟩, ⟨g', by rw [rl_up_n (Ne.symm hne.2.2)]; exact e6, fun c hc => ?_⟩⟩
  · obtain ⟨q, o, k1, k2, k3⟩ := e5 p hp
    exact ⟨q, o, k1, k2, by rw [rl_up_n (h2 q _ k3)]; exact k3⟩
  · obtain ⟨q, b, k1, k2, k3, k4⟩ := e7 c hc
    exact ⟨q, b, k1, k2, by rw [rl_up_n (h3 q _ k3)]; exact k3, k4⟩
theorem cTH.low {a b : Nat} {e : va_E} (h : cTH t f x T Th b) (ha : a < x + 58) : cTH t (rl_up f a e) x T Th b := by
  obtain ⟨h0, h | h | h⟩ := h
  · obtain ⟨b', nm, o, lo, h1, h2⟩ := h
    exact ⟨h0, Or.inl ⟨b', nm, o, lo, h1, by rw [rl_up_n (by omega)]; exact h2⟩⟩
  · obtain ⟨r, n, g, h1, h2, h3, h4⟩ := h
    exact ⟨h0, Or.inr (Or.inl ⟨r, n, g, h1, h2, by rw [rl_up_n (by omega)]; exact h3, by rw [rl_up_n (by omega)]; exact h4⟩)⟩
  · obtain ⟨j, nu, th, n, gn, gt, h1, h2, h3, h4, h5, h6, h7, h8⟩ := h
    exact ⟨h0, Or.inr (Or.inr ⟨j, nu, th, n, gn, gt, h1, h2, h3, h4, by rw [rl_up_n (by omega)]; exact h5, by rw [rl_up_n (by omega)]; exact h6, by rw [rl_up_n (by omega)]; exact h7, h8⟩)⟩
theorem cF0.off {a : Nat} {e : va_E} (h : cF0 t f x) (h1 : a ≠ x + 1 ∧ a ≠ x + 2 ∧ a ≠ x + 15) : cF0 t (rl_up f a e) x := by
  obtain ⟨e1, ⟨g, e2, e3⟩, ⟨g', e4, e5⟩⟩ := h
  exact ⟨by rw [rl_up_n (Ne.symm h1.1)]; exact e1, ⟨g, by rw [rl_up_n (Ne.symm h1.2.1)]; exact e2, e3⟩, ⟨g', by rw [rl_up_n (Ne.symm h1.2.2)]; exact e4, e5⟩⟩
theorem cX.off {a : Nat} {e : va_E} (h : cX f x) (h1 : a ≠ x) : cX (rl_up f a e) x := by
  obtain ⟨v5, v6, v7, v8, v9, v10, v11, b1⟩ := h
  exact ⟨v5, v6, v7, v8, v9, v10, v11, by rw [rl_up_n (Ne.symm h1)]; exact b1⟩
theorem cPL.off {a : Nat} {e : va_E} (h : cPL t f x Th) (h1 : a ≠ x + 52) : cPL t (rl_up f a e) x Th := by
  obtain ⟨g, e1, e2⟩ := h
  exact ⟨g, by rw [rl_up_n (Ne.symm h1)]; exact e1, e2⟩
theorem cGV.off {a : Nat} {e : va_E} (h : cGV t f x) (h1 : a ≠ x + 53 ∧ a ≠ x + 54) : cGV t (rl_up f a e) x := by
  obtain ⟨⟨g, e1⟩, ⟨g', e2, e3⟩⟩ := h
  exact ⟨⟨g, by rw [rl_up_n (Ne.symm h1.1)]; exact e1⟩, ⟨g', by rw [rl_up_n (Ne.symm h1.2)]; exact e2, e3⟩⟩
theorem cTP.off {a : Nat} {e : va_E} (h : cTP t f x) (h1 : a ≠ x + 55 ∧ a ≠ x + 56 ∧ a ≠ x + 57) : cTP t (rl_up f a e) x := by
  obtain ⟨⟨sz, fz, e1, e2⟩, ⟨g6, e3⟩, ⟨g7, e4⟩⟩ := h
  exact ⟨⟨sz, fz, by rw [rl_up_n (Ne.symm h1.1)]; exact e1, e2⟩, ⟨g6, by rw [rl_up_n (Ne.symm h1.2.1)]; exact e3⟩, ⟨g7, by rw [rl_up_n (Ne.symm h1.2.2)]; exact e4⟩⟩
/-- the object's own numbers change -/
theorem CI.setx (h : CI t f x T Th) (v5 v6 v7 v8 v9 v10 v11 : Int32) : CI t (rl_up f x (.inr (10, [.ref (x + 1), .ref (x + 52), .ref (x + 53), .ref (x + 54), .ref (x + 55), .int v5, .int v6, .int v7, .int v8, .int v9, .int v10, .int v11]))) x T Th := by
  obtain ⟨h1, h2, h3, ⟨w5, w6, w7, w8, w9, w10, w11, b1⟩, h5, h6, h7, h9⟩ := h
  refine ⟨h1.off (by omega), h2.off (by omega) (fun q fs e => rl_ne e b1 (by simp)), h3.off (by omega) (fun q fs e => rl_ne e b1 (by simp)) (fun q fs e => rl_ne e b1 (by simp)), ⟨v5, v6, v7, v8, v9, v10, v11, rl_up_s _ _ _⟩, h5.off (by omega), h6.off (by omega), h7.off (by omega), fun a ha => (h9 a ha).low (by omega)⟩
/-- a place gets a thing, or none -/
theorem CI.setp {g : Nat → Option Nat} {p : Nat} {r : Option Nat} (h : CI t f x T Th) (hg : f (x + 52) = some (.inl (t 3, 10, .inr (.inr (.inr (.inr g)))))) (hr : ∀ q, r = some q → Th q) : CI t (rl_up f (x + 52) (.inl (t 3, 10, .inr (.inr (.inr (.inr (va_up g p r))))))) x T Th := by
  obtain ⟨h1, h2, h3, h4, ⟨g', e1, e2⟩, h6, h7, h9⟩ := h
  have hgg : g' = g := by rw [e1] at hg; simpa using hg
  subst hgg
  refine ⟨h1.off (by omega), h2.off (by omega) (fun q fs e => rl_ne e e1 (by simp)), h3.off (by omega) (fun q fs e => rl_ne e e1 (by simp)) (fun q fs e => rl_ne e e1 (by simp)), h4.off (by omega), ⟨_, rl_up_s _ _ _, fun p' hp q hq => ?_⟩, h6.off (by omega), h7.off (by omega), fun a ha => (h9 a ha).low (by omega)⟩
  unfold va_up at hq
  split at hq
  · exact hr q hq
  · exact e2 p' hp q hq
/-- a given number, a given place -/
theorem CI.setgn {g : Nat → Int64} (h : CI t f x T Th) : CI t (rl_up f (x + 53) (.inl (t 1, 5, .inr (.inl g)))) x T Th := by
  obtain ⟨h1, h2, h3, h4, h5, ⟨⟨g0, e1⟩, ⟨g', e2, e3⟩⟩, h7, h9⟩ := h
  exact ⟨h1.off (by omega), h2.off (by omega) (fun q fs e => rl_ne e e1 (by simp)), h3.off (by omega) (fun q fs e => rl_ne e e1 (by simp)) (fun q fs e => rl_ne e e1 (by simp)), h4.off (by omega), h5.off (by omega), ⟨⟨g, rl_up_s _ _ _⟩, ⟨g', by rw [rl_up_n (by omega)]; exact e2, e3⟩⟩, h7.off (by omega), fun a ha => (h9 a ha).low (by omega)⟩
theorem CI.setgp {g : Nat → Int32} {p q : Nat} (h : CI t f x T Th) (hg : f (x + 54) = some (.inl (t 0, 5, .inl g))) (hq : q < 10) : CI t (rl_up f (x + 54) (.inl (t 0, 5, .inl (upd g p (nI q))))) x T Th := by
  obtain ⟨h1, h2, h3, h4, h5, ⟨⟨g0, e1⟩, ⟨g', e2, e3⟩⟩, h7, h9⟩ := h
  have hgg : g' = g := by rw [e2] at hg; simpa using hg
  subst hgg
  refine ⟨h1.off (by omega), h2.off (by omega) (fun q fs e => rl_ne e e2 (by simp)), h3.off (by omega) (fun q fs e => rl_ne e e2 (by simp)) (fun q fs e => rl_ne e e2 (by simp)), h4.off (by omega), h5.off (by omega), ⟨⟨g0, by rw [rl_up_n (by omega)]; exact e1⟩, ⟨_, rl_up_s _ _ _, fun p' hp => ?_⟩⟩, h7.off (by omega), fun a ha => (h9 a ha).low (by omega)⟩
  unfold upd
  split
  · exact ⟨q, hq, rfl⟩
  · exact e3 p' hp
/-- the tape -/
theorem CI.settp {sz : Nat} {fz : Int32} (h : CI t f x T Th) (hs : sz ≤ 250) : CI t (rl_up f (x + 55) (.inr (9, [.ref (x + 56), .ref (x + 57), .int (nI sz), .int fz]))) x T Th := by
  obtain ⟨h1, h2, h3, h4, h5, h6, ⟨⟨sz0, fz0, e1, e2⟩, ⟨g6, e3⟩, ⟨g7, e4⟩⟩, h9⟩ := h
  exact ⟨h1.off (by omega), h2.off (by omega) (fun q fs e => rl_ne e e1 (by simp)), h3.off (by omega) (fun q fs e => rl_ne e e1 (by simp)) (fun q fs e => rl_ne e e1 (by simp)), h4.off (by omega), h5.off (by omega), h6.off (by omega), ⟨⟨sz, fz, rl_up_s _ _ _, hs⟩, ⟨g6, by rw [rl_up_n (by omega)]; exact e3⟩, ⟨g7, by rw [rl_up_n (by omega)]; exact e4⟩⟩, fun a ha => (h9 a ha).low (by omega)⟩
theorem CI.setlv {g : Nat → Int64} (h : CI t f x T Th) : CI t (rl_up f (x + 56) (.inl (t 1, 250, .inr (.inl g)))) x T Th := by
  obtain ⟨h1, h2, h3, h4, h5, h6, ⟨⟨sz0, fz0, e1, e2⟩, ⟨g6, e3⟩, ⟨g7, e4⟩⟩, h9⟩ := h
  exact ⟨h1.off (by omega), h2.off (by omega) (fun q fs e => rl_ne e e3 (by simp)), h3.off (by omega) (fun q fs e => rl_ne e e3 (by simp)) (fun q fs e => rl_ne e e3 (by simp)), h4.off (by omega), h5.off (by omega), h6.off (by omega), ⟨⟨sz0, fz0, by rw [rl_up_n (by omega)]; exact e1, e2⟩, ⟨g, rl_up_s _ _ _⟩, ⟨g7, by rw [rl_up_n (by omega)]; exact e4⟩⟩, fun a ha => (h9 a ha).low (by omega)⟩
theorem CI.setfr {g : Nat → Int64} (h : CI t f x T Th) : CI t (rl_up f (x + 57) (.inl (t 1, 250, .inr (.inl g)))) x T Th := by
  obtain ⟨h1, h2, h3, h4, h5, h6, ⟨⟨sz0, fz0, e1, e2⟩, ⟨g6, e3⟩, ⟨g7, e4⟩⟩, h9⟩ := h
  exact ⟨h1.off (by omega), h2.off (by omega) (fun q fs e => rl_ne e e4 (by simp)), h3.off (by omega) (fun q fs e => rl_ne e e4 (by simp)) (fun q fs e => rl_ne e e4 (by simp)), h4.off (by omega), h5.off (by omega), h6.off (by omega), ⟨⟨sz0, fz0, by rw [rl_up_n (by omega)]; exact e1, e2⟩, ⟨g6, by rw [rl_up_n (by omega)]; exact e3⟩, ⟨g, rl_up_s _ _ _⟩⟩, fun a ha => (h9 a ha).low (by omega)⟩
end CIL
