
/-- where the class holds the things: E 0 the constants, E 1 the rows, E 2 the records -/
def ca (E : Nat → Nat → Nat) : pHd → Option Nat
  | none => none
  | some (.inl n) => some (E 0 n)
  | some (.inr (.inl n)) => some (E 1 n)
  | some (.inr (.inr n)) => some (E 2 n)
theorem cok.cases {T : Nat → Nat → Nat} {ρ κ : Nat} {h : pHd} (q : cok T ρ κ h) : h = none ∨ (∃ n, (n < 60 ∧ n % 10 < T 0 (n / 10)) ∧ h = hcon n) ∨ (∃ n, n < ρ ∧ h = hrow n) ∨ ∃ n, n < κ ∧ h = hrec n := by
  rcases h with _ | n | n | n
  · exact Or.inl rfl
  · exact Or.inr (Or.inl ⟨n, q, rfl⟩)
  · exact Or.inr (Or.inr (Or.inl ⟨n, q, rfl⟩))
  · exact Or.inr (Or.inr (Or.inr ⟨n, q, rfl⟩))
/-- the class's state: the versions' tables -/
def cEV (t : Nat → ClassId) (f : rl_M) (x : Nat) (T : Nat → Nat → Nat) (E : Nat → Nat → Nat) : Prop := ∀ b, b < 6 → f (x + 3 + 2 * b) = some (.inr (2, [.int (nI (b / 3)), .int (nI (b % 3)), .ref (x + 4 + 2 * b), .int (nI (T 0 b))])) ∧ T 0 b ≤ 10 ∧ ∃ g : Nat → Option Nat, f (x + 4 + 2 * b) = some (.inl (t 4, 10, .inr (.inr (.inr (.inr g))))) ∧ ∀ i, i < T 0 b → g i = some (E 0 (10 * b + i)) ∧ x + 58 ≤ E 0 (10 * b + i) ∧ f (E 0 (10 * b + i)) = some (.inr (1, [.ref (x + 3 + 2 * b), .int (nI (T 1 (10 * b + i))), .int (nI i), .int (nI (T 9 (10 * b + i)))]))
def cPA (t : Nat → ClassId) (f : rl_M) (x : Nat) (T : Nat → Nat → Nat) (j : Nat) : Prop := ∃ g : Nat → Option Nat, f (x + 17 + 3 * j) = some (.inl (t 5, 5, .inr (.inr (.inr (.inr g))))) ∧ ∀ p, p < T 2 j → ∃ (q : Nat) (o : Int32), g p = some q ∧ x + 58 ≤ q ∧ f q = some (.inr (4, [.int (nI (T 3 (5 * j + p))), .int (nI (T 4 (5 * j + p))), .int o])) ∧ rt_of (T 4 (5 * j + p)) (T 8 (5 * j + p)) o
def cKA (t : Nat → ClassId) (f : rl_M) (x : Nat) (T : Nat → Nat → Nat) (j : Nat) : Prop := ∃ g : Nat → Option Nat, f (x + 18 + 3 * j) = some (.inl (t 6, 2, .inr (.inr (.inr (.inr g))))) ∧ ∀ c, c < T 5 j → ∃ (q : Nat) (b : Int32), g c = some q ∧ x + 58 ≤ q ∧ f q = some (.inr (0, [.int (nI (T 6 (2 * j + c))), .int (nI (T 7 (2 * j + c))), .int b])) ∧ T 7 (2 * j + c) < T 2 j ∧ rt_kb T j (T 6 (2 * j + c)) (T 10 (2 * j + c)) b
def cRV (t : Nat → ClassId) (f : rl_M) (x : Nat) (T : Nat → Nat → Nat) : Prop := ∀ j, j < 12 → f (x + 16 + 3 * j) = some (.inr (7, [.int (nI (2 + j / 3)), .int (nI (j % 3)), .ref (x + 17 + 3 * j), .ref (x + 18 + 3 * j), .int (nI (T 2 j)), .int (nI (T 5 j))])) ∧ T 2 j ≤ 5 ∧ T 5 j ≤ 2 ∧ cPA t f x T j ∧ cKA t f x T j
/-- rows, records -/
def cRW (t : Nat → ClassId) (f : rl_M) (x ρ : Nat) (G : pG) (E : Nat → Nat → Nat) : Prop := ∀ r, r < ρ → x + 58 ≤ E 1 r ∧ f (E 1 r) = some (.inr (8, [.ref (E 1 r + 1)])) ∧ ∃ g : Nat → Int32, f (E 1 r + 1) = some (.inl (t 0, G.1 0 r, .inl g)) ∧ ∀ i, i < G.1 0 r → g i = G.2.1 1 (8 * r + i)
def cRC (t : Nat → ClassId) (f : rl_M) (x : Nat) (T : Nat → Nat → Nat) (ρ κ : Nat) (G : pG) (E : Nat → Nat → Nat) : Prop := ∀ r, r < κ → x + 58 ≤ E 2 r ∧ f (E 2 r) = some (.inr (6, [.ref (x + 16 + 3 * G.1 1 r), .ref (E 2 r + 1), .ref (E 2 r + 2)])) ∧ (∃ gn : Nat → Int64, f (E 2 r + 1) = some (.inl (t 1, G.1 2 r, .inr (.inl gn))) ∧ ∀ p, p < G.1 2 r → gn p = G.2.2.1 0 (5 * r + p)) ∧ ∃ gt : Nat → Option Nat, f (E 2 r + 2) = some (.inl (t 3, G.1 2 r, .inr (.inr (.inr (.inr gt))))) ∧ ∀ p, p < G.1 2 r → gt p = ca E (G.2.2.2 1 (5 * r + p)) ∧ cok T ρ κ (G.2.2.2 1 (5 * r + p))
def cIN (ρ κ : Nat) (E : Nat → Nat → Nat) : Prop := (∀ r r', r < ρ → r' < ρ → E 1 r = E 1 r' → r = r') ∧ ∀ r r', r < κ → r' < κ → E 2 r = E 2 r' → r = r'
/-- the fixed cells around them -/
def cF0 (t : Nat → ClassId) (f : rl_M) (x : Nat) : Prop := f (x + 1) = some (.inr (3, [.ref (x + 2), .ref (x + 15)])) ∧ (∃ g : Nat → Option Nat, f (x + 2) = some (.inl (t 7, 6, .inr (.inr (.inr (.inr g))))) ∧ ∀ b, b < 6 → g b = some (x + 3 + 2 * b)) ∧ ∃ g : Nat → Option Nat, f (x + 15) = some (.inl (t 8, 12, .inr (.inr (.inr (.inr g))))) ∧ ∀ j, j < 12 → g j = some (x + 16 + 3 * j)
def cX (f : rl_M) (x : Nat) (g : Nat → Int32) (mo : Int32) : Prop := ∃ v5 : Int32, f x = some (.inr (10, [.ref (x + 1), .ref (x + 52), .ref (x + 53), .ref (x + 54), .ref (x + 55), .int v5, .int (g 0), .int (g 1), .int (g 2), .int mo, .int (g 4), .int (g 5)]))
def cPL (t : Nat → ClassId) (f : rl_M) (x : Nat) (T : Nat → Nat → Nat) (ρ κ : Nat) (G : pG) (E : Nat → Nat → Nat) : Prop := ∃ g : Nat → Option Nat, f (x + 52) = some (.inl (t 3, 10, .inr (.inr (.inr (.inr g))))) ∧ ∀ p, p < 10 → g p = ca E (G.2.2.2 0 p) ∧ cok T ρ κ (G.2.2.2 0 p)
def cGV (t : Nat → ClassId) (f : rl_M) (x : Nat) (G : pG) : Prop := (∃ g : Nat → Int64, f (x + 53) = some (.inl (t 1, 5, .inr (.inl g))) ∧ ∀ p, p < 5 → g p = G.2.2.1 1 p) ∧ ∃ g : Nat → Int32, f (x + 54) = some (.inl (t 0, 5, .inl g)) ∧ ∀ p, p < 5 → g p = nI (G.1 3 p)
def cTP (t : Nat → ClassId) (f : rl_M) (x : Nat) (G : pG) : Prop := (∃ fz : Int32, f (x + 55) = some (.inr (9, [.ref (x + 56), .ref (x + 57), .int (nI (G.1 4 0)), .int fz]))) ∧ (∃ g : Nat → Int64, f (x + 56) = some (.inl (t 1, 250, .inr (.inl g))) ∧ ∀ k, k < G.1 4 0 → g k = G.2.2.1 2 k) ∧ ∃ g : Nat → Int64, f (x + 57) = some (.inl (t 1, 250, .inr (.inl g)))
def CJ (t : Nat → ClassId) (f : rl_M) (x : Nat) (T : Nat → Nat → Nat) (ρ κ : Nat) (G : pG) (E : Nat → Nat → Nat) (g : Nat → Int32) (mo : Int32) : Prop := cF0 t f x ∧ cEV t f x T E ∧ cRV t f x T ∧ cX f x g mo ∧ cPL t f x T ρ κ G E ∧ cGV t f x G ∧ cTP t f x G ∧ cRW t f x ρ G E ∧ cRC t f x T ρ κ G E ∧ cIN ρ κ E
def CI (t : Nat → ClassId) (f : rl_M) (x : Nat) (T : Nat → Nat → Nat) (ρ κ : Nat) (G : pG) (E : Nat → Nat → Nat) : Prop := CJ t f x T ρ κ G E (G.2.1 0) (G.2.1 0 3)
section CIL
variable {t : Nat → ClassId} {f f1 : rl_M} {x : Nat} {T : Nat → Nat → Nat} {ρ κ : Nat} {G : pG} {E : Nat → Nat → Nat} {g : Nat → Int32} {mo : Int32}
theorem cEV.le (h : cEV t f x T E) (hl : rl_le f f1) : cEV t f1 x T E := by
  intro b hb
  obtain ⟨h1, h2, g, h3, h4⟩ := h b hb
  exact ⟨hl _ _ h1, h2, g, hl _ _ h3, fun i hi => ⟨(h4 i hi).1, (h4 i hi).2.1, hl _ _ (h4 i hi).2.2⟩⟩
theorem cRV.le (h : cRV t f x T) (hl : rl_le f f1) : cRV t f1 x T := by
  intro j hj
  obtain ⟨h1, h2, h3, ⟨g, h4, h5⟩, ⟨g', h6, h7⟩⟩ := h j hj
  refine ⟨hl _ _ h1, h2, h3, ⟨g, hl _ _ h4, fun p hp => ?_⟩, ⟨g', hl _ _ h6, fun c hc => ?_⟩⟩
  · obtain ⟨q, o, e1, e2, e3, e4⟩ := h5 p hp
    exact ⟨q, o, e1, e2, hl _ _ e3, e4⟩
  · obtain ⟨q, b, e1, e2, e3, e4⟩ := h7 c hc
    exact ⟨q, b, e1, e2, hl _ _ e3, e4⟩
theorem cRW.le (h : cRW t f x ρ G E) (hl : rl_le f f1) : cRW t f1 x ρ G E := fun r hr => by
  obtain ⟨h1, h2, g, h3, h4⟩ := h r hr
  exact ⟨h1, hl _ _ h2, g, hl _ _ h3, h4⟩
theorem cRC.le (h : cRC t f x T ρ κ G E) (hl : rl_le f f1) : cRC t f1 x T ρ κ G E := fun r hr => by
  obtain ⟨h1, h2, ⟨gn, h3, h4⟩, ⟨gt, h5, h6⟩⟩ := h r hr
  exact ⟨h1, hl _ _ h2, ⟨gn, hl _ _ h3, h4⟩, ⟨gt, hl _ _ h5, h6⟩⟩
theorem cF0.le (h : cF0 t f x) (hl : rl_le f f1) : cF0 t f1 x := by
  obtain ⟨a1, ⟨g1, a2, a3⟩, ⟨g2, a4, a5⟩⟩ := h
  exact ⟨hl _ _ a1, ⟨g1, hl _ _ a2, a3⟩, ⟨g2, hl _ _ a4, a5⟩⟩
theorem cX.le (h : cX f x g mo) (hl : rl_le f f1) : cX f1 x g mo := by
  obtain ⟨v5, h⟩ := h
  exact ⟨v5, hl _ _ h⟩
theorem cPL.le (h : cPL t f x T ρ κ G E) (hl : rl_le f f1) : cPL t f1 x T ρ κ G E := by
  obtain ⟨g, h1, h2⟩ := h
  exact ⟨g, hl _ _ h1, h2⟩
theorem cGV.le (h : cGV t f x G) (hl : rl_le f f1) : cGV t f1 x G := by
  obtain ⟨⟨g, h1, h2⟩, ⟨g', h3, h4⟩⟩ := h
  exact ⟨⟨g, hl _ _ h1, h2⟩, ⟨g', hl _ _ h3, h4⟩⟩
theorem cTP.le (h : cTP t f x G) (hl : rl_le f f1) : cTP t f1 x G := by
  obtain ⟨⟨fz, h1⟩, ⟨g, h2, h3⟩, ⟨g', h4⟩⟩ := h
  exact ⟨⟨fz, hl _ _ h1⟩, ⟨g, hl _ _ h2, h3⟩, ⟨g', hl _ _ h4⟩⟩
theorem CJ.le (h : CJ t f x T ρ κ G E g mo) (hl : rl_le f f1) : CJ t f1 x T ρ κ G E g mo := ⟨h.1.le hl, h.2.1.le hl, h.2.2.1.le hl, h.2.2.2.1.le hl, h.2.2.2.2.1.le hl, h.2.2.2.2.2.1.le hl, h.2.2.2.2.2.2.1.le hl, h.2.2.2.2.2.2.2.1.le hl, h.2.2.2.2.2.2.2.2.1.le hl, h.2.2.2.2.2.2.2.2.2⟩
/-- an update of a cell that is none of theirs -/
theorem cEV.off {a : Nat} {e : va_E} (h : cEV t f x T E) (h1 : ∀ b, b < 6 → a ≠ x + 3 + 2 * b ∧ a ≠ x + 4 + 2 * b) (h2 : ∀ q fs, f q = some (.inr (1, fs)) → q ≠ a) : cEV t (rl_up f a e) x T E := by
  intro b hb
  obtain ⟨e1, e2, g, e3, e4⟩ := h b hb
  have hne := h1 b hb
  refine ⟨by rw [rl_up_n (Ne.symm hne.1)]; exact e1, e2, g, by rw [rl_up_n (Ne.symm hne.2)]; exact e3, fun i hi => ?_⟩
  obtain ⟨k1, k2, k3⟩ := e4 i hi
  exact ⟨k1, k2, by rw [rl_up_n (h2 _ _ k3)]; exact k3⟩
theorem cRV.off {a : Nat} {e : va_E} (h : cRV t f x T) (h1 : ∀ j, j < 12 → a ≠ x + 16 + 3 * j ∧ a ≠ x + 17 + 3 * j ∧ a ≠ x + 18 + 3 * j) (h2 : ∀ q fs, f q = some (.inr (4, fs)) → q ≠ a) (h3 : ∀ q fs, f q = some (.inr (0, fs)) → q ≠ a) : cRV t (rl_up f a e) x T := by
  intro j hj
  obtain ⟨e1, e2, e3, ⟨g, e4, e5⟩, ⟨g', e6, e7⟩⟩ := h j hj
  have hne := h1 j hj
  refine ⟨by rw [rl_up_n (Ne.symm hne.1)]; exact e1, e2, e3, ⟨g, by rw [rl_up_n (Ne.symm hne.2.1)]; exact e4, fun p hp => ?_⟩, ⟨g', by rw [rl_up_n (Ne.symm hne.2.2)]; exact e6, fun c hc => ?_⟩⟩
  · obtain ⟨q, o, k1, k2, k3, k4⟩ := e5 p hp
    exact ⟨q, o, k1, k2, by rw [rl_up_n (h2 q _ k3)]; exact k3, k4⟩
  · obtain ⟨q, b, k1, k2, k3, k4⟩ := e7 c hc
    exact ⟨q, b, k1, k2, by rw [rl_up_n (h3 q _ k3)]; exact k3, k4⟩
theorem cRW.off {a : Nat} {e : va_E} (h : cRW t f x ρ G E) (h1 : ∀ r, r < ρ → E 1 r ≠ a ∧ E 1 r + 1 ≠ a) : cRW t (rl_up f a e) x ρ G E := fun r hr => by
  obtain ⟨k1, k2, g, k3, k4⟩ := h r hr
  exact ⟨k1, by rw [rl_up_n (h1 r hr).1]; exact k2, g, by rw [rl_up_n (h1 r hr).2]; exact k3, k4⟩
theorem cRW.low {a : Nat} {e : va_E} (h : cRW t f x ρ G E) (ha : a < x + 58) : cRW t (rl_up f a e) x ρ G E := h.off (fun r hr => by have := (h r hr).1; omega)
theorem cRC.off {a : Nat} {e : va_E} (h : cRC t f x T ρ κ G E) (h1 : ∀ r, r < κ → E 2 r ≠ a ∧ E 2 r + 1 ≠ a ∧ E 2 r + 2 ≠ a) : cRC t (rl_up f a e) x T ρ κ G E := fun r hr => by
  obtain ⟨k1, k2, ⟨gn, k3, k4⟩, ⟨gt, k5, k6⟩⟩ := h r hr
  exact ⟨k1, by rw [rl_up_n (h1 r hr).1]; exact k2, ⟨gn, by rw [rl_up_n (h1 r hr).2.1]; exact k3, k4⟩, ⟨gt, by rw [rl_up_n (h1 r hr).2.2]; exact k5, k6⟩⟩
theorem cRC.low {a : Nat} {e : va_E} (h : cRC t f x T ρ κ G E) (ha : a < x + 58) : cRC t (rl_up f a e) x T ρ κ G E := h.off (fun r hr => by have := (h r hr).1; omega)
theorem cF0.off {a : Nat} {e : va_E} (h : cF0 t f x) (h1 : a ≠ x + 1 ∧ a ≠ x + 2 ∧ a ≠ x + 15) : cF0 t (rl_up f a e) x := by
  obtain ⟨e1, ⟨g, e2, e3⟩, ⟨g', e4, e5⟩⟩ := h
  exact ⟨by rw [rl_up_n (Ne.symm h1.1)]; exact e1, ⟨g, by rw [rl_up_n (Ne.symm h1.2.1)]; exact e2, e3⟩, ⟨g', by rw [rl_up_n (Ne.symm h1.2.2)]; exact e4, e5⟩⟩
theorem cX.off {a : Nat} {e : va_E} (h : cX f x g mo) (h1 : a ≠ x) : cX (rl_up f a e) x g mo := by
  obtain ⟨v5, b1⟩ := h
  exact ⟨v5, by rw [rl_up_n (Ne.symm h1)]; exact b1⟩
theorem cPL.off {a : Nat} {e : va_E} (h : cPL t f x T ρ κ G E) (h1 : a ≠ x + 52) : cPL t (rl_up f a e) x T ρ κ G E := by
  obtain ⟨g, e1, e2⟩ := h
  exact ⟨g, by rw [rl_up_n (Ne.symm h1)]; exact e1, e2⟩
theorem cGV.off {a : Nat} {e : va_E} (h : cGV t f x G) (h1 : a ≠ x + 53 ∧ a ≠ x + 54) : cGV t (rl_up f a e) x G := by
  obtain ⟨⟨g, e1, e1'⟩, ⟨g', e2, e3⟩⟩ := h
  exact ⟨⟨g, by rw [rl_up_n (Ne.symm h1.1)]; exact e1, e1'⟩, ⟨g', by rw [rl_up_n (Ne.symm h1.2)]; exact e2, e3⟩⟩
theorem cTP.off {a : Nat} {e : va_E} (h : cTP t f x G) (h1 : a ≠ x + 55 ∧ a ≠ x + 56 ∧ a ≠ x + 57) : cTP t (rl_up f a e) x G := by
  obtain ⟨⟨fz, e1⟩, ⟨g6, e3, e3'⟩, ⟨g7, e4⟩⟩ := h
  exact ⟨⟨fz, by rw [rl_up_n (Ne.symm h1.1)]; exact e1⟩, ⟨g6, by rw [rl_up_n (Ne.symm h1.2.1)]; exact e3, e3'⟩, ⟨g7, by rw [rl_up_n (Ne.symm h1.2.2)]; exact e4⟩⟩
/-- the object's own numbers change -/
theorem CJ.setx (h : CJ t f x T ρ κ G E g mo) (v5 : Int32) (g' : Nat → Int32) (mo' : Int32) : CJ t (rl_up f x (.inr (10, [.ref (x + 1), .ref (x + 52), .ref (x + 53), .ref (x + 54), .ref (x + 55), .int v5, .int (g' 0), .int (g' 1), .int (g' 2), .int mo', .int (g' 4), .int (g' 5)]))) x T ρ κ G E g' mo' := by
  obtain ⟨h1, h2, h3, ⟨w5, b1⟩, h5, h6, h7, h8, h9, h10⟩ := h
  exact ⟨h1.off (by omega), h2.off (by omega) (fun q fs e => rl_ne e b1 (by simp)), h3.off (by omega) (fun q fs e => rl_ne e b1 (by simp)) (fun q fs e => rl_ne e b1 (by simp)), ⟨v5, rl_up_s _ _ _⟩, h5.off (by omega), h6.off (by omega), h7.off (by omega), h8.low (by omega), h9.low (by omega), h10⟩
/-- a place gets a thing, or none -/
theorem CJ.setp {gp : Nat → Option Nat} {p : Nat} {r : Option Nat} {hd : pHd} (h : CJ t f x T ρ κ G E g mo) (hg : f (x + 52) = some (.inl (t 3, 10, .inr (.inr (.inr (.inr gp)))))) (hr : r = ca E hd) (hk : cok T ρ κ hd) : CJ t (rl_up f (x + 52) (.inl (t 3, 10, .inr (.inr (.inr (.inr (va_up gp p r))))))) x T ρ κ (gX G 0 (va_up (G.2.2.2 0) p hd)) E g mo := by
  obtain ⟨h1, h2, h3, h4, ⟨g', e1, e2⟩, h6, h7, h8, h9, h10⟩ := h
  have hgg : g' = gp := by rw [e1] at hg; simpa using hg
  subst hgg
  refine ⟨h1.off (by omega), h2.off (by omega) (fun q fs e => rl_ne e e1 (by simp)), h3.off (by omega) (fun q fs e => rl_ne e e1 (by simp)) (fun q fs e => rl_ne e e1 (by simp)), h4.off (by omega), ⟨_, rl_up_s _ _ _, fun p' hp => ?_⟩, h6.off (by omega), h7.off (by omega), h8.low (by omega), h9.low (by omega), h10⟩
  show va_up g' p r p' = ca E (va_up (G.2.2.2 0) p hd p') ∧ cok T ρ κ (va_up (G.2.2.2 0) p hd p')
  unfold va_up
  split
  · exact ⟨hr, hk⟩
  · exact e2 p' hp
/-- a given number, a given place -/
theorem CJ.setgn {gg : Nat → Int64} {p : Nat} {v : Int64} (h : CJ t f x T ρ κ G E g mo) (hg : f (x + 53) = some (.inl (t 1, 5, .inr (.inl gg)))) : CJ t (rl_up f (x + 53) (.inl (t 1, 5, .inr (.inl (vp_updL gg p v))))) x T ρ κ (gZ G 1 (vp_updL (G.2.2.1 1) p v)) E g mo := by
  obtain ⟨h1, h2, h3, h4, h5, ⟨⟨g0, e1, e1'⟩, ⟨g', e2, e3⟩⟩, h7, h8, h9, h10⟩ := h
  have hgg : g0 = gg := by rw [e1] at hg; simpa using hg
  subst hgg
  refine ⟨h1.off (by omega), h2.off (by omega) (fun q fs e => rl_ne e e1 (by simp)), h3.off (by omega) (fun q fs e => rl_ne e e1 (by simp)) (fun q fs e => rl_ne e e1 (by simp)), h4.off (by omega), h5.off (by omega), ⟨⟨_, rl_up_s _ _ _, fun p' hp => ?_⟩, ⟨g', by rw [rl_up_n (by omega)]; exact e2, e3⟩⟩, h7.off (by omega), h8.low (by omega), h9.low (by omega), h10⟩
  show vp_updL g0 p v p' = vp_updL (G.2.2.1 1) p v p'
  unfold vp_updL
  split
  · rfl
  · exact e1' p' hp
theorem CJ.setgp {gg : Nat → Int32} {p q : Nat} (h : CJ t f x T ρ κ G E g mo) (hg : f (x + 54) = some (.inl (t 0, 5, .inl gg))) : CJ t (rl_up f (x + 54) (.inl (t 0, 5, .inl (upd gg p (nI q))))) x T ρ κ (gN G 3 (va_up (G.1 3) p q)) E g mo := by
  obtain ⟨h1, h2, h3, h4, h5, ⟨⟨g0, e1, e1'⟩, ⟨g', e2, e3⟩⟩, h7, h8, h9, h10⟩ := h
  have hgg : g' = gg := by rw [e2] at hg; simpa using hg
  subst hgg
  refine ⟨h1.off (by omega), h2.off (by omega) (fun q fs e => rl_ne e e2 (by simp)), h3.off (by omega) (fun q fs e => rl_ne e e2 (by simp)) (fun q fs e => rl_ne e e2 (by simp)), h4.off (by omega), h5.off (by omega), ⟨⟨g0, by rw [rl_up_n (by omega)]; exact e1, e1'⟩, ⟨_, rl_up_s _ _ _, fun p' hp => ?_⟩⟩, h7.off (by omega), h8.low (by omega), h9.low (by omega), h10⟩
  show upd g' p (nI q) p' = nI (va_up (G.1 3) p q p')
  unfold upd va_up
  split
  · rfl
  · exact e3 p' hp
/-- the tape: how many leaves; its leaves; the fresh ones -/
theorem CJ.settp {sz : Nat} {fz : Int32} {gl : Nat → Int64} (h : CJ t f x T ρ κ G E g mo) (hg : f (x + 56) = some (.inl (t 1, 250, .inr (.inl gl)))) : CJ t (rl_up f (x + 55) (.inr (9, [.ref (x + 56), .ref (x + 57), .int (nI sz), .int fz]))) x T ρ κ (gN (gZ G 2 gl) 4 (fun _ => sz)) E g mo := by
  obtain ⟨h1, h2, h3, h4, h5, h6, ⟨⟨fz0, e1⟩, ⟨g6, e3, e3'⟩, ⟨g7, e4⟩⟩, h8, h9, h10⟩ := h
  exact ⟨h1.off (by omega), h2.off (by omega) (fun q fs e => rl_ne e e1 (by simp)), h3.off (by omega) (fun q fs e => rl_ne e e1 (by simp)) (fun q fs e => rl_ne e e1 (by simp)), h4.off (by omega), h5.off (by omega), h6.off (by omega), ⟨⟨fz, rl_up_s _ _ _⟩, ⟨gl, by rw [rl_up_n (by omega)]; exact hg, fun _ _ => rfl⟩, ⟨g7, by rw [rl_up_n (by omega)]; exact e4⟩⟩, h8.low (by omega), h9.low (by omega), h10⟩
theorem CJ.setfz {fz : Int32} (h : CJ t f x T ρ κ G E g mo) : CJ t (rl_up f (x + 55) (.inr (9, [.ref (x + 56), .ref (x + 57), .int (nI (G.1 4 0)), .int fz]))) x T ρ κ G E g mo := by
  obtain ⟨h1, h2, h3, h4, h5, h6, ⟨⟨fz0, e1⟩, ⟨g6, e3, e3'⟩, ⟨g7, e4⟩⟩, h8, h9, h10⟩ := h
  exact ⟨h1.off (by omega), h2.off (by omega) (fun q fs e => rl_ne e e1 (by simp)), h3.off (by omega) (fun q fs e => rl_ne e e1 (by simp)) (fun q fs e => rl_ne e e1 (by simp)), h4.off (by omega), h5.off (by omega), h6.off (by omega), ⟨⟨fz, rl_up_s _ _ _⟩, ⟨g6, by rw [rl_up_n (by omega)]; exact e3, e3'⟩, ⟨g7, by rw [rl_up_n (by omega)]; exact e4⟩⟩, h8.low (by omega), h9.low (by omega), h10⟩
theorem CJ.setlv {gl : Nat → Int64} (h : CJ t f x T ρ κ G E g mo) : CJ t (rl_up f (x + 56) (.inl (t 1, 250, .inr (.inl gl)))) x T ρ κ (gZ G 2 gl) E g mo := by
  obtain ⟨h1, h2, h3, h4, h5, h6, ⟨⟨fz0, e1⟩, ⟨g6, e3, e3'⟩, ⟨g7, e4⟩⟩, h8, h9, h10⟩ := h
  exact ⟨h1.off (by omega), h2.off (by omega) (fun q fs e => rl_ne e e3 (by simp)), h3.off (by omega) (fun q fs e => rl_ne e e3 (by simp)) (fun q fs e => rl_ne e e3 (by simp)), h4.off (by omega), h5.off (by omega), h6.off (by omega), ⟨⟨fz0, by rw [rl_up_n (by omega)]; exact e1⟩, ⟨gl, rl_up_s _ _ _, fun _ _ => rfl⟩, ⟨g7, by rw [rl_up_n (by omega)]; exact e4⟩⟩, h8.low (by omega), h9.low (by omega), h10⟩
theorem CJ.setfr {gl : Nat → Int64} (h : CJ t f x T ρ κ G E g mo) : CJ t (rl_up f (x + 57) (.inl (t 1, 250, .inr (.inl gl)))) x T ρ κ G E g mo := by
  obtain ⟨h1, h2, h3, h4, h5, h6, ⟨⟨fz0, e1⟩, ⟨g6, e3, e3'⟩, ⟨g7, e4⟩⟩, h8, h9, h10⟩ := h
  exact ⟨h1.off (by omega), h2.off (by omega) (fun q fs e => rl_ne e e4 (by simp)), h3.off (by omega) (fun q fs e => rl_ne e e4 (by simp)) (fun q fs e => rl_ne e e4 (by simp)), h4.off (by omega), h5.off (by omega), h6.off (by omega), ⟨⟨fz0, by rw [rl_up_n (by omega)]; exact e1⟩, ⟨g6, by rw [rl_up_n (by omega)]; exact e3, e3'⟩, ⟨_, rl_up_s _ _ _⟩⟩, h8.low (by omega), h9.low (by omega), h10⟩
/-- an item of a row -/
theorem CJ.item {r i : Nat} {v : Int32} {gi : Nat → Int32} (h : CJ t f x T ρ κ G E g mo) (hr : r < ρ) (hi : i < G.1 0 r) (h8 : ∀ r, r < ρ → G.1 0 r ≤ 8) (hg : f (E 1 r + 1) = some (.inl (t 0, G.1 0 r, .inl gi))) : CJ t (rl_up f (E 1 r + 1) (.inl (t 0, G.1 0 r, .inl (upd gi i v)))) x T ρ κ (gY G 1 (upd (G.2.1 1) (8 * r + i) v)) E g mo := by
  obtain ⟨h1, h2, h3, h4, h5, h6, h7, h8', h9, h10⟩ := h
  have hx := (h8' r hr).1
  refine ⟨h1.off (by omega), h2.off (by omega) (fun q fs e => rl_ne e hg (by simp)), h3.off (by omega) (fun q fs e => rl_ne e hg (by simp)) (fun q fs e => rl_ne e hg (by simp)), h4.off (by omega), h5.off (by omega), h6.off (by omega), h7.off (by omega), fun r' hr' => ?_, h9.off (fun k hk => ?_), h10⟩
  · obtain ⟨k1, k2, g', k3, k4⟩ := h8' r' hr'
    refine ⟨k1, by rw [rl_up_n (rl_ne k2 hg (by simp))]; exact k2, ?_⟩
    by_cases e : r' = r
    · subst e
      refine ⟨_, rl_up_s _ _ _, fun j hj => ?_⟩
      have hgg : g' = gi := by rw [k3] at hg; simpa using hg
      subst hgg
      show upd g' i v j = upd (G.2.1 1) (8 * r' + i) v (8 * r' + j)
      unfold upd
      by_cases hji : j = i
      · rw [if_pos hji, if_pos (by omega)]
      · rw [if_neg hji, if_neg (by omega)]
        exact k4 j hj
    · have hne : E 1 r' + 1 ≠ E 1 r + 1 := fun q => e (h10.1 r' r hr' hr (by omega))
      refine ⟨g', by rw [rl_up_n hne]; exact k3, fun j hj => ?_⟩
      show g' j = upd (G.2.1 1) (8 * r + i) v (8 * r' + j)
      have a1 := h8 r hr
      have a2 := h8 r' hr'
      have hj' : j < G.1 0 r' := hj
      unfold upd
      rw [if_neg (by omega)]
      exact k4 j hj
  · obtain ⟨k1, k2, ⟨gn, k3, -⟩, ⟨gt, k5, -⟩⟩ := h9 k hk
    exact ⟨rl_ne k2 hg (by simp), rl_ne k3 hg (by simp), rl_ne k5 hg (by simp)⟩
/-- what a thing's cells are -/
theorem CJ.con {n : Nat} (h : CJ t f x T ρ κ G E g mo) (hn : n < 60 ∧ n % 10 < T 0 (n / 10)) : x + 58 ≤ E 0 n ∧ f (E 0 n) = some (.inr (1, [.ref (x + 3 + 2 * (n / 10)), .int (nI (T 1 n)), .int (nI (n % 10)), .int (nI (T 9 n))])) ∧ f (x + 3 + 2 * (n / 10)) = some (.inr (2, [.int (nI (n / 10 / 3)), .int (nI (n / 10 % 3)), .ref (x + 4 + 2 * (n / 10)), .int (nI (T 0 (n / 10)))])) := by
  obtain ⟨e1, -, g', -, e4⟩ := h.2.1 (n / 10) (by omega)
  obtain ⟨-, k2, k3⟩ := e4 (n % 10) hn.2
  rw [show 10 * (n / 10) + n % 10 = n by omega] at k2 k3
  exact ⟨k2, k3, e1⟩
theorem CJ.row {r : Nat} (h : CJ t f x T ρ κ G E g mo) (hr : r < ρ) : x + 58 ≤ E 1 r ∧ f (E 1 r) = some (.inr (8, [.ref (E 1 r + 1)])) ∧ ∃ g : Nat → Int32, f (E 1 r + 1) = some (.inl (t 0, G.1 0 r, .inl g)) ∧ ∀ i, i < G.1 0 r → g i = G.2.1 1 (8 * r + i) := h.2.2.2.2.2.2.2.1 r hr
theorem CJ.rec {r : Nat} (h : CJ t f x T ρ κ G E g mo) (hr : r < κ) : x + 58 ≤ E 2 r ∧ f (E 2 r) = some (.inr (6, [.ref (x + 16 + 3 * G.1 1 r), .ref (E 2 r + 1), .ref (E 2 r + 2)])) ∧ (∃ gn : Nat → Int64, f (E 2 r + 1) = some (.inl (t 1, G.1 2 r, .inr (.inl gn))) ∧ ∀ p, p < G.1 2 r → gn p = G.2.2.1 0 (5 * r + p)) ∧ ∃ gt : Nat → Option Nat, f (E 2 r + 2) = some (.inl (t 3, G.1 2 r, .inr (.inr (.inr (.inr gt))))) ∧ ∀ p, p < G.1 2 r → gt p = ca E (G.2.2.2 1 (5 * r + p)) ∧ cok T ρ κ (G.2.2.2 1 (5 * r + p)) := h.2.2.2.2.2.2.2.2.1 r hr
/-- the address of a thing is a thing's -/
def cAT (f : rl_M) (q : Nat) : Prop := (∃ fs, f q = some (.inr (1, fs))) ∨ (∃ fs, f q = some (.inr (8, fs))) ∨ ∃ fs, f q = some (.inr (6, fs))
theorem CJ.at {hd : pHd} {q : Nat} (h : CJ t f x T ρ κ G E g mo) (hk : cok T ρ κ hd) (hq : ca E hd = some q) : cAT f q ∧ x + 58 ≤ q := by
  rcases hd with _ | n | n | n
  · cases hq
  · cases hq
    obtain ⟨k1, k2, -⟩ := h.con hk
    exact ⟨Or.inl ⟨_, k2⟩, k1⟩
  · cases hq
    obtain ⟨k1, k2, -⟩ := h.row hk
    exact ⟨Or.inr (Or.inl ⟨_, k2⟩), k1⟩
  · cases hq
    obtain ⟨k1, k2, -⟩ := h.rec hk
    exact ⟨Or.inr (Or.inr ⟨_, k2⟩), k1⟩
/-- two things at one address are the same -/
theorem CJ.inj {h1 h2 : pHd} (h : CJ t f x T ρ κ G E g mo) (k1 : cok T ρ κ h1) (k2 : cok T ρ κ h2) (e : ca E h1 = ca E h2) : h1 = h2 := by
  rcases h1 with _ | n | n | n <;> rcases h2 with _ | n' | n' | n' <;> simp only [ca, Option.some.injEq, reduceCtorEq] at e
  · rfl
  · have a := (h.con k1).2.1
    have b := (h.con k2).2.1
    rw [e, b] at a
    have e1 : nI (n' % 10) = nI (n % 10) := by simp at a; exact a.2.2.1
    have e2 : x + 3 + 2 * (n' / 10) = x + 3 + 2 * (n / 10) := by simp at a; omega
    have e3 := (nI_eq (by omega) (by omega)).mp e1
    have : n = n' := by omega
    rw [this]
  · exact absurd e (rl_ne (h.con k1).2.1 (h.row k2).2.1 (by simp))
  · exact absurd e (rl_ne (h.con k1).2.1 (h.rec k2).2.1 (by simp))
  · exact absurd e (rl_ne (h.row k1).2.1 (h.con k2).2.1 (by simp))
  · rw [h.2.2.2.2.2.2.2.2.2.1 n n' k1 k2 e]
  · exact absurd e (rl_ne (h.row k1).2.1 (h.rec k2).2.1 (by simp))
  · exact absurd e (rl_ne (h.rec k1).2.1 (h.con k2).2.1 (by simp))
  · exact absurd e (rl_ne (h.rec k1).2.1 (h.row k2).2.1 (by simp))
  · rw [h.2.2.2.2.2.2.2.2.2.2 n n' k1 k2 e]
end CIL
