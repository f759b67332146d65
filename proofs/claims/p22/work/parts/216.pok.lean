
/-- what was there before stays, but for the number of records made -/
def gle (ρ κ : Nat) (G G' : pG) : Prop := (∀ r, r < ρ → G'.1 0 r = G.1 0 r) ∧ (∀ x, x < 8 * ρ → G'.2.1 1 x = G.2.1 1 x) ∧ (∀ r, r < κ → G'.1 1 r = G.1 1 r ∧ G'.1 2 r = G.1 2 r) ∧ (∀ x, x < 5 * κ → G'.2.2.1 0 x = G.2.2.1 0 x ∧ G'.2.2.2 1 x = G.2.2.2 1 x) ∧ G'.1 3 = G.1 3 ∧ G'.1 4 = G.1 4 ∧ (∀ i, i ≠ 3 → G'.2.1 0 i = G.2.1 0 i) ∧ G'.2.2.1 1 = G.2.2.1 1 ∧ G'.2.2.1 2 = G.2.2.1 2 ∧ G'.2.2.2 0 = G.2.2.2 0
section GLE
variable {T : Nat → Nat → Nat} {ρ κ ρ' κ' : Nat} {G G' G'' : pG}
theorem gle.rf : gle ρ κ G G := ⟨fun _ _ => rfl, fun _ _ => rfl, fun _ _ => ⟨rfl, rfl⟩, fun _ _ => ⟨rfl, rfl⟩, rfl, rfl, fun _ _ => rfl, rfl, rfl, rfl⟩
theorem gle.tr (a : gle ρ κ G G') (b : gle ρ' κ' G' G'') (hr : ρ ≤ ρ') (hk : κ ≤ κ') : gle ρ κ G G'' := by
  obtain ⟨a1, a2, a3, a4, a5, a6, a7, a8, a9, a10⟩ := a
  obtain ⟨b1, b2, b3, b4, b5, b6, b7, b8, b9, b10⟩ := b
  exact ⟨fun r h => (b1 r (by omega)).trans (a1 r h), fun x h => (b2 x (by omega)).trans (a2 x h), fun r h => ⟨(b3 r (by omega)).1.trans (a3 r h).1, (b3 r (by omega)).2.trans (a3 r h).2⟩, fun x h => ⟨(b4 x (by omega)).1.trans (a4 x h).1, (b4 x (by omega)).2.trans (a4 x h).2⟩, b5.trans a5, b6.trans a6, fun i h => (b7 i h).trans (a7 i h), b8.trans a8, b9.trans a9, b10.trans a10⟩
theorem gle.row {r n : Nat} (hr : ρ ≤ r) : gle ρ κ G (pu_row r G n) := by
  refine ⟨fun x h => ?_, fun x h => ?_, fun _ _ => ⟨rfl, rfl⟩, fun _ _ => ⟨rfl, rfl⟩, rfl, rfl, fun _ _ => rfl, rfl, rfl, rfl⟩
  · show va_up (G.1 0) r n x = _
    exact va_up_n _ _ (by omega)
  · show pu_up (8 * r) (fun _ => 0) 8 (G.2.1 1) x = _
    exact pu_up_o (by omega)
theorem gle.item {y : Nat} {v : Int32} (hy : 8 * ρ ≤ y) : gle ρ κ G (gY G 1 (upd (G.2.1 1) y v)) := by
  refine ⟨fun _ _ => rfl, fun x h => ?_, fun _ _ => ⟨rfl, rfl⟩, fun _ _ => ⟨rfl, rfl⟩, rfl, rfl, fun _ _ => rfl, rfl, rfl, rfl⟩
  show upd (G.2.1 1) y v x = _
  exact rg_upl (by omega)
theorem gle.new {k j : Nat} {N : Nat → Int64} {X : Nat → pHd} (hk : κ ≤ k) : gle ρ κ G (pu_new T k G j N X) := by
  refine ⟨fun _ _ => rfl, fun _ _ => rfl, fun r h => ⟨?_, ?_⟩, fun x h => ⟨?_, ?_⟩, rfl, rfl, fun i h => ?_, rfl, rfl, rfl⟩
  · show va_up (G.1 1) k j r = _
    exact va_up_n _ _ (by omega)
  · show va_up (G.1 2) k (T 2 j) r = _
    exact va_up_n _ _ (by omega)
  · show pu_up (5 * k) (fun p => if T 4 (5 * j + p) < 2 then N p else 0) (T 2 j) (G.2.2.1 0) x = _
    exact pu_up_o (by omega)
  · show pu_up (5 * k) (fun p => if T 4 (5 * j + p) < 2 then none else X p) (T 2 j) (G.2.2.2 1) x = _
    exact pu_up_o (by omega)
  · show upd (G.2.1 0) 3 _ i = _
    exact rg_upl h
theorem RGr.old {a12 a13 : Nat → Int32} (h : RGr ρ' G' a12 a13) (hg : gle ρ κ G G') (hr : ρ ≤ ρ') : RGr ρ G a12 a13 := ⟨fun r hr2 => by rw [h.1 r (by omega), hg.1 r hr2], fun x hx => by rw [h.2 x (by omega), hg.2.1 x hx]⟩
theorem RGd.old {a15 a16 a18 : Nat → Int32} {b17 : Nat → Int64} (h : RGd κ' G' a15 a16 b17 a18) (hg : gle ρ κ G G') (hk : κ ≤ κ') (hG : GW T ρ κ G) (h5 : ∀ y, y < 12 → T 2 y ≤ 5) : RGd κ G a15 a16 b17 a18 := by
  intro r hr
  obtain ⟨h1, h2, h3⟩ := h r (by omega)
  obtain ⟨g1, g2⟩ := hg.2.2.1 r hr
  obtain ⟨k1, k2, -⟩ := hG.2.1 r hr
  have := h5 _ k1
  rw [g1] at h1
  rw [g2] at h2 h3
  refine ⟨h1, h2, fun p hp => ?_⟩
  obtain ⟨e1, e2⟩ := hg.2.2.2.1 (5 * r + p) (by omega)
  rw [← e1, ← e2]
  exact h3 p hp
theorem RGp.old {a19 a21 : Nat → Int32} {b20 : Nat → Int64} (h : RGp G' a19 b20 a21) (hg : gle ρ κ G G') : RGp G a19 b20 a21 := by
  unfold RGp at h ⊢
  rw [hg.2.2.2.2.1, hg.2.2.2.2.2.2.2.1, hg.2.2.2.2.2.2.2.2.2] at h
  exact h
theorem RGt.old {f22 : Int32} {b23 : Nat → Int64} (h : RGt G' f22 b23) (hg : gle ρ κ G G') : RGt G f22 b23 := by
  unfold RGt at h ⊢
  rw [hg.2.2.2.2.2.1, hg.2.2.2.2.2.2.2.2.1] at h
  exact h
end GLE
/-- a thing that there is -/
def cok (T : Nat → Nat → Nat) (ρ κ : Nat) : pHd → Prop
  | none => True
  | some (.inl n) => n < 60 ∧ n % 10 < T 0 (n / 10)
  | some (.inr (.inl n)) => n < ρ
  | some (.inr (.inr n)) => n < κ
theorem cok.hok {T : Nat → Nat → Nat} {ρ κ : Nat} {h : pHd} (q : cok T ρ κ h) : hok ρ κ h := by
  rcases h with _ | n | n | n
  · trivial
  · exact q.1
  · exact q
  · exact q
theorem cok.mono {T : Nat → Nat → Nat} {ρ κ ρ' κ' : Nat} {h : pHd} (q : cok T ρ κ h) (hr : ρ ≤ ρ') (hk : κ ≤ κ') : cok T ρ' κ' h := by
  rcases h with _ | n | n | n
  · trivial
  · exact q
  · exact Nat.lt_of_lt_of_le q hr
  · exact Nat.lt_of_lt_of_le q hk
/-- the tables, without arrays -/
def rt_ok (T : Nat → Nat → Nat) : Prop := (∀ b, b < 6 → T 0 b ≤ 10) ∧ (∀ y, y < 12 → T 2 y ≤ 5 ∧ T 5 y ≤ 2) ∧ (∀ j p, j < 12 → p < T 2 j → T 3 (5 * j + p) < 10 ∧ T 4 (5 * j + p) < 5 ∧ (T 4 (5 * j + p) = 2 → T 8 (5 * j + p) < 2) ∧ (T 4 (5 * j + p) = 3 → 2 ≤ T 8 (5 * j + p) ∧ T 8 (5 * j + p) < 6)) ∧ (∀ b i, b < 6 → i < T 0 b → T 1 (10 * b + i) < 10) ∧ (∀ j c, j < 12 → c < T 5 j → T 6 (2 * j + c) < 5 ∧ T 7 (2 * j + c) < T 2 j ∧ T 4 (5 * j + T 7 (2 * j + c)) = rt_srt (T 6 (2 * j + c)) ∧ (T 6 (2 * j + c) ≠ 1 → T 10 (2 * j + c) < T 2 j ∧ T 4 (5 * j + T 10 (2 * j + c)) = 0)) ∧ (∀ n, n < 60 → T 9 n < 2 ∧ T 1 n < 10) ∧ ∀ b i i', b < 6 → i < T 0 b → i' < T 0 b → T 1 (10 * b + i) = T 1 (10 * b + i') → i = i'
theorem rt_ok.of {T : Nat → Nat → Nat} {a0 a1 a2 a3 a4 a5 a6 a7 a8 a9 a10 : Nat → Int32} (hc : RTc T a0 a1 a2) (hp : RTp T a3 a4 a5 a6) (hk : RTk T a7 a8 a9 a10) : rt_ok T := by
  refine ⟨fun b hb => (hc.1 b hb).2, fun y hy => ⟨(hp.1 y hy).2, (hk.1 y hy).2⟩, fun j p hj h => ?_, fun b i hb hi => (hc.2.1 b i hb hi).2, fun j c hj h => ?_, fun n hn => ⟨(hc.2.2.2 n hn).2.2.1, (hc.2.2.2 n hn).2.2.2⟩, hc.2.2.1⟩
  · obtain ⟨-, g2, -, g4, g5⟩ := hp.2 j p hj h
    exact ⟨g2, g4, fun e => (g5.1 e).1, fun e => ⟨(g5.2 e).1, (g5.2 e).2.1⟩⟩
  · obtain ⟨-, g2, -, g4, g5, g6⟩ := hk.2 j c hj h
    exact ⟨g2, g4, g5, fun e => ⟨(g6 e).1, (g6 e).2.2⟩⟩
/-- a draft that is in order -/
def qdo (T : Nat → Nat → Nat) (w ρ κ : Nat) (D : pD) : Prop := ∀ j N X, D = some (j, N, X) → j < 12 ∧ j % 3 = w ∧ ∀ p, p < T 2 j → cok T ρ κ (X p) ∧ (T 4 (5 * j + p) < 2 → X p = none) ∧ (2 ≤ T 4 (5 * j + p) → N p = 0)
theorem qdo.mono {T : Nat → Nat → Nat} {w ρ κ ρ' κ' : Nat} {D : pD} (h : qdo T w ρ κ D) (hr : ρ ≤ ρ') (hk : κ ≤ κ') : qdo T w ρ' κ' D := fun j N X e => ⟨(h j N X e).1, (h j N X e).2.1, fun p hp => ⟨(((h j N X e).2.2 p hp).1).mono hr hk, ((h j N X e).2.2 p hp).2⟩⟩
/-- a step of a reading -/
def qst (T : Nat → Nat → Nat) (q q' : pQ) : Prop := gle (q_rho q) (q_kap q) (q_G q) (q_G q') ∧ q_rho q ≤ q_rho q' ∧ q_kap q ≤ q_kap q' ∧ q_at q ≤ q_at q' ∧ (q_at q ≤ (q_G q).1 4 0 → q_at q' ≤ (q_G q).1 4 0) ∧ GW T (q_rho q') (q_kap q') (q_G q') ∧ (q_bad q' = 0 → q_bad q = 0 ∧ q_dp q' = q_dp q)
abbrev qGW (T : Nat → Nat → Nat) (q : pQ) : Prop := GW T (q_rho q) (q_kap q) (q_G q)
section QST
variable {T : Nat → Nat → Nat} {q q' q'' : pQ} {c w : Nat} {kn : Bool} {R : Bool → pQ → pHd × pQ} {D : pD}
theorem qst.rf (h : qGW T q) : qst T q q := ⟨gle.rf, Nat.le_refl _, Nat.le_refl _, Nat.le_refl _, fun h => h, h, fun h => ⟨h, rfl⟩⟩
theorem qst.tr (a : qst T q q') (b : qst T q' q'') : qst T q q'' := by
  obtain ⟨a1, a2, a3, a4, a5, a6, a7⟩ := a
  obtain ⟨b1, b2, b3, b4, b5, b6, b7⟩ := b
  refine ⟨a1.tr b1 a2 a3, Nat.le_trans a2 b2, Nat.le_trans a3 b3, Nat.le_trans a4 b4, fun h => ?_, b6, fun h => ?_⟩
  · have e : (q_G q').1 4 = (q_G q).1 4 := a1.2.2.2.2.2.1
    rw [← e]
    rw [← e] at a5 h
    exact b5 (a5 h)
  · obtain ⟨e1, e2⟩ := b7 h
    obtain ⟨e3, e4⟩ := a7 e1
    exact ⟨e3, e2.trans e4⟩
theorem st_leaf (h : qGW T q) : qst T q (q_leaf q).2 := by
  unfold q_leaf
  split
  · split
    · rename_i h0 hl
      refine ⟨gle.rf, Nat.le_refl _, Nat.le_refl _, Nat.le_succ _, fun _ => hl, h, fun e => ⟨h0, rfl⟩⟩
    · exact ⟨gle.rf, Nat.le_refl _, Nat.le_refl _, Nat.le_refl _, fun h => h, h, fun e => absurd (show (4 : Nat) = 0 from e) (by decide)⟩
  · exact qst.rf h
theorem lf_G : q_G (q_leaf q).2 = q_G q ∧ q_rho (q_leaf q).2 = q_rho q ∧ q_kap (q_leaf q).2 = q_kap q ∧ q_dp (q_leaf q).2 = q_dp q := by
  by_cases h0 : q_bad q = 0
  · by_cases hl : q_at q < (q_G q).1 4 0
    · rw [lf_0 h0 hl]
      exact ⟨rfl, rfl, rfl, rfl⟩
    · rw [lf_4 h0 hl]
      exact ⟨rfl, rfl, rfl, rfl⟩
  · rw [lf_b h0]
    exact ⟨rfl, rfl, rfl, rfl⟩
theorem lf_at (h : q_bad (q_leaf q).2 = 0) : q_at (q_leaf q).2 = q_at q + 1 := by
  unfold q_leaf at h ⊢
  split at h
  · rename_i h0
    rw [if_pos h0]
    split at h
    · rename_i hl
      rw [if_pos hl]
    · exact absurd (show (4 : Nat) = 0 from h) (by decide)
  · rename_i h0
    exact absurd h h0
theorem st_fail (h : qGW T q) (hc : c ≠ 0) : qst T q (q_fail c q) := by
  unfold q_fail
  split
  · exact ⟨gle.rf, Nat.le_refl _, Nat.le_refl _, Nat.le_refl _, fun h => h, h, fun e => absurd (show c = 0 from e) hc⟩
  · exact qst.rf h
/-- the items of a row -/
def qit (T : Nat → Nat → Nat) (ρ κ : Nat) (G0 : pG) (q q' : pQ) : Prop := gle ρ κ G0 (q_G q') ∧ q_rho q' = q_rho q ∧ q_kap q' = q_kap q ∧ q_at q ≤ q_at q' ∧ (q_at q ≤ G0.1 4 0 → q_at q' ≤ G0.1 4 0) ∧ GW T (q_rho q') (q_kap q') (q_G q') ∧ (q_bad q' = 0 → q_bad q = 0 ∧ q_dp q' = q_dp q)
theorem st_items {ρ κ r : Nat} {G0 : pG} (hr : kn = true → ρ ≤ r) : ∀ (n i : Nat) (q : pQ), qGW T q → gle ρ κ G0 (q_G q) → qit T ρ κ G0 q (q_items kn r n i q)
  | 0, _, q, h, hg => ⟨hg, rfl, rfl, Nat.le_refl _, fun h => h, h, fun h => ⟨h, rfl⟩⟩
  | n + 1, i, q, h, hg => by
    unfold q_items
    by_cases hb : q_bad q = 0
    · rw [if_pos hb]
      obtain ⟨a1, a2, a3, a4, a5, a6, a7⟩ := st_leaf h
      obtain ⟨eG, er, ek, -⟩ := lf_G (q := q)
      have hg2 : gle ρ κ G0 (q_G (q_it kn r i (q_leaf q).1 (q_leaf q).2)) := by
        have hg1 : gle ρ κ G0 (q_G (q_leaf q).2) := by rw [eG]; exact hg
        cases kn with
        | true => exact hg1.tr (ρ' := ρ) (κ' := κ) (gle.item (by have := hr rfl; omega)) (Nat.le_refl _) (Nat.le_refl _)
        | false => exact hg1
      have hG2 : qGW T (q_it kn r i (q_leaf q).1 (q_leaf q).2) := by
        cases kn with
        | true => exact a6
        | false => exact a6
      obtain ⟨b1, b2, b3, b4, b5, b6, b7⟩ := st_items hr n (i + 1) _ hG2 hg2
      have e4 : (q_G q).1 4 = G0.1 4 := hg.2.2.2.2.2.1
      refine ⟨b1, b2.trans er, b3.trans ek, Nat.le_trans a4 b4, fun hq => b5 ?_, b6, fun hq => ?_⟩
      · rw [← e4]
        rw [← e4] at hq
        exact a5 hq
      · obtain ⟨e1, e2⟩ := b7 hq
        obtain ⟨e3, e5⟩ := a7 e1
        exact ⟨e3, e2.trans e5⟩
    · rw [if_neg hb]
      exact ⟨hg, rfl, rfl, Nat.le_refl _, fun h => h, h, fun h => ⟨h, rfl⟩⟩
theorem rg_m8 {m : Int64} (h : ¬ 8 < m) : m.toInt.toNat ≤ 8 := by
  rw [Int64.lt_iff_toInt_lt, show (8 : Int64).toInt = 8 by decide] at h
  omega
theorem st_row1 {m : Int64} (h : qGW T q) : qst T q (q_row1 kn m q).2 ∧ cok T (q_rho (q_row1 kn m q).2) (q_kap (q_row1 kn m q).2) (q_row1 kn m q).1 := by
  unfold q_row1
  split
  · rename_i hb
    split
    · exact ⟨st_fail h (by decide), trivial⟩
    · split
      · exact ⟨qst.rf h, trivial⟩
      · split
        · exact ⟨st_fail h (by decide), trivial⟩
        · rename_i h8
          split
          · have hG2 : qGW T (q_mk q m.toInt.toNat) := GW.row h (rg_m8 h8)
            obtain ⟨b1, b2, b3, b4, b5, b6, b7⟩ := st_items (kn := true) (r := q_rho q) (ρ := q_rho q) (κ := q_kap q) (G0 := q_G q) (fun _ => Nat.le_refl _) m.toInt.toNat 0 (q_mk q m.toInt.toNat) hG2 (gle.row (Nat.le_refl _))
            have b2' : q_rho (q_items true (q_rho q) m.toInt.toNat 0 (q_mk q m.toInt.toNat)) = q_rho q + 1 := b2
            have b3' : q_kap (q_items true (q_rho q) m.toInt.toNat 0 (q_mk q m.toInt.toNat)) = q_kap q := b3
            refine ⟨⟨b1, ?_, ?_, b4, b5, b6, b7⟩, ?_⟩
            · show q_rho q ≤ q_rho (q_items true (q_rho q) m.toInt.toNat 0 (q_mk q m.toInt.toNat))
              omega
            · show q_kap q ≤ q_kap (q_items true (q_rho q) m.toInt.toNat 0 (q_mk q m.toInt.toNat))
              omega
            · show q_rho q < q_rho (q_items true (q_rho q) m.toInt.toNat 0 (q_mk q m.toInt.toNat))
              omega
          · obtain ⟨b1, b2, b3, b4, b5, b6, b7⟩ := st_items (kn := false) (r := 0) (ρ := q_rho q) (κ := q_kap q) (G0 := q_G q) (fun e => by cases e) m.toInt.toNat 0 q h gle.rf
            exact ⟨⟨b1, Nat.le_of_eq b2.symm, Nat.le_of_eq b3.symm, b4, b5, b6, b7⟩, trivial⟩
  · exact ⟨qst.rf h, trivial⟩
theorem st_row (h : qGW T q) : qst T q (q_row kn q).2 ∧ cok T (q_rho (q_row kn q).2) (q_kap (q_row kn q).2) (q_row kn q).1 := by
  have a := st_leaf h
  have b := st_row1 (kn := kn) (m := (q_leaf q).1) (q := (q_leaf q).2) a.2.2.2.2.2.1
  exact ⟨a.tr b.1, b.2⟩
theorem qdo.num {ρ κ : Nat} {p : Option Nat} {v : Int64} (h : qdo T w ρ κ D) (hp : ∀ j N X p', D = some (j, N, X) → p = some p' → T 4 (5 * j + p') < 2) : qdo T w ρ κ (q_num D p v) := by
  rcases D with _ | ⟨j, N, X⟩
  · exact h
  · rcases p with _ | p
    · exact h
    · intro j' N' X' e
      cases e
      obtain ⟨h1, h2, h3⟩ := h j N X rfl
      refine ⟨h1, h2, fun x hx => ⟨(h3 x hx).1, (h3 x hx).2.1, fun h2' => ?_⟩⟩
      unfold vp_updL
      split
      · rename_i e
        subst e
        have := hp j N X x rfl rfl
        omega
      · exact (h3 x hx).2.2 h2'
theorem qdo.put {ρ κ : Nat} {p : Option Nat} {x : pHd} (h : qdo T w ρ κ D) (hx : cok T ρ κ x) (hp : ∀ j N X p', D = some (j, N, X) → p = some p' → 2 ≤ T 4 (5 * j + p')) : qdo T w ρ κ (q_put D p x) := by
  rcases D with _ | ⟨j, N, X⟩
  · exact h
  · rcases p with _ | p
    · exact h
    · intro j' N' X' e
      cases e
      obtain ⟨h1, h2, h3⟩ := h j N X rfl
      refine ⟨h1, h2, fun y hy => ?_⟩
      by_cases e : y = p
      · subst e
        rw [va_up_s]
        have := hp j N X y rfl rfl
        exact ⟨hx, fun q => by omega, (h3 y hy).2.2⟩
      · rw [va_up_n _ _ e]
        exact h3 y hy
theorem pu_find_lt {g : Nat → Nat} {x : Int64} {i : Nat} : ∀ {n : Nat}, pu_find g x n = some i → i < n ∧ (nI (g i)).toInt64 = x
  | 0, h => by cases h
  | n + 1, h => by
    unfold pu_find at h
    cases hf : pu_find g x n with
    | some i' =>
      rw [hf] at h
      cases h
      have := pu_find_lt hf
      exact ⟨by omega, this.2⟩
    | none =>
      rw [hf] at h
      simp only at h
      split at h
      · rename_i e
        cases h
        exact ⟨by omega, e⟩
      · cases h
theorem q_find_lt {x : Int64} {p : Nat} {j : Nat} {N : Nat → Int64} {X : Nat → pHd} (h : q_find T (some (j, N, X)) x = some p) : p < T 2 j := (pu_find_lt (g := fun i => T 3 (5 * j + i)) h).1
/-- what reading a record does -/
def Rok (T : Nat → Nat → Nat) (R : Bool → pQ → pHd × pQ) : Prop := ∀ b q, qGW T q → qst T q (R b q).2 ∧ cok T (q_rho (R b q).2) (q_kap (R b q).2) (R b q).1
theorem st_con {p : Option Nat} {v : Int64} (hT : rt_ok T) (hw : w < 3) (h : qGW T q) (hD : qdo T w (q_rho q) (q_kap q) D) (hp : ∀ j N X p', D = some (j, N, X) → p = some p' → p' < T 2 j ∧ T 4 (5 * j + p') = 2) : qst T q (q_con T w D p v q).2 ∧ qdo T w (q_rho (q_con T w D p v q).2) (q_kap (q_con T w D p v q).2) (q_con T w D p v q).1 := by
  rcases D with _ | ⟨j, N, X⟩
  · exact ⟨qst.rf h, hD⟩
  · rcases p with _ | p
    · exact ⟨qst.rf h, hD⟩
    · obtain ⟨hp1, hp2⟩ := hp j N X p rfl rfl
      obtain ⟨hj, -, -⟩ := hD j N X rfl
      have ho := (hT.2.2.1 j p hj hp1).2.2.1 hp2
      have nn := hD.put (p := some p) (x := none) trivial (fun j' N' X' p' e1 e2 => by cases e1; cases e2; omega)
      show qst T q (ite _ _ _ : pD × pQ).2 ∧ qdo T w (q_rho (ite _ _ _ : pD × pQ).2) (q_kap (ite _ _ _ : pD × pQ).2) (ite _ _ _ : pD × pQ).1
      by_cases hc : q_bad q = 0 ∧ v ≠ -1
      · rw [if_pos hc]
        cases hf : pu_find (fun i => T 1 (10 * (3 * T 8 (5 * j + p) + w) + i)) v (T 0 (3 * T 8 (5 * j + p) + w)) with
        | none =>
          have s := st_fail (c := 7) h (by decide)
          refine ⟨s, nn.mono s.2.1 s.2.2.1⟩
        | some i =>
          have hi := (pu_find_lt hf).1
          have h10 := hT.1 (3 * T 8 (5 * j + p) + w) (by omega)
          refine ⟨qst.rf h, hD.put (p := some p) (x := hcon (10 * (3 * T 8 (5 * j + p) + w) + i)) ⟨by omega, ?_⟩ (fun j' N' X' p' e1 e2 => by cases e1; cases e2; omega)⟩
          rw [show (10 * (3 * T 8 (5 * j + p) + w) + i) % 10 = i by omega, show (10 * (3 * T 8 (5 * j + p) + w) + i) / 10 = 3 * T 8 (5 * j + p) + w by omega]
          exact hi
      · rw [if_neg hc]
        exact ⟨qst.rf h, nn⟩
theorem st_inn {p : Option Nat} {v : Int64} (hR : Rok T R) (h : qGW T q) (hD : qdo T w (q_rho q) (q_kap q) D) (hp : ∀ j N X p', D = some (j, N, X) → p = some p' → 2 ≤ T 4 (5 * j + p')) : qst T q (q_inn R D p v q).2 ∧ qdo T w (q_rho (q_inn R D p v q).2) (q_kap (q_inn R D p v q).2) (q_inn R D p v q).1 := by
  unfold q_inn
  split
  · exact ⟨qst.rf h, hD.put trivial hp⟩
  · obtain ⟨s, hc⟩ := hR p.isSome q h
    exact ⟨s, (hD.mono s.2.1 s.2.2.1).put hc hp⟩
theorem st_val {p : Option Nat} {s : Nat} (hT : rt_ok T) (hw : w < 3) (hR : Rok T R) (hs : s < 5) (h : qGW T q) (hD : qdo T w (q_rho q) (q_kap q) D) (hp : ∀ j N X p', D = some (j, N, X) → p = some p' → p' < T 2 j ∧ T 4 (5 * j + p') = s) : qst T q (q_val T w R D p s q).2 ∧ qdo T w (q_rho (q_val T w R D p s q).2) (q_kap (q_val T w R D p s q).2) (q_val T w R D p s q).1 := by
  have a := st_leaf h
  unfold q_val
  split
  · rename_i h2
    exact ⟨a, (hD.mono a.2.1 a.2.2.1).num (fun j N X p' e1 e2 => by have := (hp j N X p' e1 e2).2; omega)⟩
  · split
    · rename_i h2
      subst h2
      have b := st_con (v := (q_leaf q).1) hT hw a.2.2.2.2.2.1 (hD.mono a.2.1 a.2.2.1) hp
      exact ⟨a.tr b.1, b.2⟩
    · split
      · obtain ⟨b, hc⟩ := st_row (kn := p.isSome) h
        exact ⟨b, (hD.mono b.2.1 b.2.2.1).put hc (fun j N X p' e1 e2 => by have := (hp j N X p' e1 e2).2; omega)⟩
      · have b := st_inn (p := p) (v := (q_leaf q).1) hR a.2.2.2.2.2.1 (hD.mono a.2.1 a.2.2.1) (fun j N X p' e1 e2 => by have := (hp j N X p' e1 e2).2; omega)
        exact ⟨a.tr b.1, b.2⟩
theorem st_prt {n s : Int64} (hT : rt_ok T) (hw : w < 3) (hR : Rok T R) (h : qGW T q) (hD : qdo T w (q_rho q) (q_kap q) D) : qst T q (q_prt T w R D n s q).2 ∧ qdo T w (q_rho (q_prt T w R D n s q).2) (q_kap (q_prt T w R D n s q).2) (q_prt T w R D n s q).1 := by
  unfold q_prt
  by_cases hb : q_bad q = 0
  · rw [if_pos hb]
    by_cases hs : 0 ≤ s.toInt ∧ s.toInt < 5
    · rw [if_pos hs]
      by_cases hc : q_cast T D (q_find T D n) s.toInt.toNat
      · rw [if_pos hc]
        have f := st_fail (c := 1) h (by decide)
        exact ⟨f, hD.mono f.2.1 f.2.2.1⟩
      · rw [if_neg hc]
        refine st_val hT hw hR (by omega) h hD (fun j N X p' e1 e2 => ?_)
        subst e1
        refine ⟨q_find_lt e2, ?_⟩
        rw [e2] at hc
        exact Decidable.byContradiction fun hh => hc hh
    · rw [if_neg hs]
      have f := st_fail (c := 2) h (by decide)
      exact ⟨f, hD.mono f.2.1 f.2.2.1⟩
  · rw [if_neg hb]
    exact ⟨qst.rf h, hD⟩
theorem st_part (hT : rt_ok T) (hw : w < 3) (hR : Rok T R) (h : qGW T q) (hD : qdo T w (q_rho q) (q_kap q) D) : qst T q (q_part T w R D q).2 ∧ qdo T w (q_rho (q_part T w R D q).2) (q_kap (q_part T w R D q).2) (q_part T w R D q).1 ∧ (q_bad (q_part T w R D q).2 = 0 → q_at q + 2 ≤ q_at (q_part T w R D q).2) := by
  have a := st_leaf h
  have b := st_leaf a.2.2.2.2.2.1
  have ab := a.tr b
  have c := st_prt (n := (q_leaf q).1) (s := (q_leaf (q_leaf q).2).1) hT hw hR b.2.2.2.2.2.1 (hD.mono ab.2.1 ab.2.2.1)
  refine ⟨ab.tr c.1, c.2, fun hb => ?_⟩
  have h2 := (c.1.2.2.2.2.2.2 hb).1
  have h1 := (b.2.2.2.2.2.2 h2).1
  have e2 := lf_at h2
  have e1 := lf_at h1
  have e3 := c.1.2.2.2.1
  show q_at q + 2 ≤ q_at (q_prt T w R D _ _ _).2
  omega
theorem st_parts (hT : rt_ok T) (hw : w < 3) (hR : Rok T R) : ∀ (n : Nat) (D : pD) (q : pQ), qGW T q → qdo T w (q_rho q) (q_kap q) D → qst T q (q_parts T w R n D q).2 ∧ qdo T w (q_rho (q_parts T w R n D q).2) (q_kap (q_parts T w R n D q).2) (q_parts T w R n D q).1
  | 0, D, q, h, hD => ⟨qst.rf h, hD⟩
  | n + 1, D, q, h, hD => by
    by_cases hb : q_bad q = 0
    · rw [ps_s hb]
      obtain ⟨a, b, -⟩ := st_part hT hw hR h hD
      have c := st_parts hT hw hR n _ _ a.2.2.2.2.2.1 b
      exact ⟨a.tr c.1, c.2⟩
    · rw [ps_b hb]
      exact ⟨qst.rf h, hD⟩
theorem ps_big (hT : rt_ok T) (hw : w < 3) (hR : Rok T R) : ∀ (m n n' : Nat) (D : pD) (q : pQ), qGW T q → qdo T w (q_rho q) (q_kap q) D → q_at q ≤ (q_G q).1 4 0 → (q_G q).1 4 0 - q_at q ≤ m → m < n → m < n' → q_parts T w R n D q = q_parts T w R n' D q := by
  intro m
  induction m with
  | zero =>
    intro n n' D q h hD hl hm h1 h2
    obtain ⟨n1, rfl⟩ : ∃ k, n = k + 1 := ⟨n - 1, by omega⟩
    obtain ⟨n2, rfl⟩ : ∃ k, n' = k + 1 := ⟨n' - 1, by omega⟩
    by_cases hb : q_bad q = 0
    · rw [ps_s hb, ps_s hb]
      obtain ⟨a, b, c⟩ := st_part hT hw hR h hD
      by_cases hb2 : q_bad (q_part T w R D q).2 = 0
      · have h3 := c hb2
        have h4 := a.2.2.2.2.1 hl
        omega
      · rw [ps_b hb2, ps_b hb2]
    · rw [ps_b hb, ps_b hb]
  | succ m ih =>
    intro n n' D q h hD hl hm h1 h2
    obtain ⟨n1, rfl⟩ : ∃ k, n = k + 1 := ⟨n - 1, by omega⟩
    obtain ⟨n2, rfl⟩ : ∃ k, n' = k + 1 := ⟨n' - 1, by omega⟩
    by_cases hb : q_bad q = 0
    · rw [ps_s hb, ps_s hb]
      obtain ⟨a, b, c⟩ := st_part hT hw hR h hD
      by_cases hb2 : q_bad (q_part T w R D q).2 = 0
      · have h3 := c hb2
        have h4 := a.2.2.2.2.1 hl
        have e : (q_G (q_part T w R D q).2).1 4 = (q_G q).1 4 := a.1.2.2.2.2.2.1
        rw [← e] at h4 hm
        exact ih n1 n2 _ _ a.2.2.2.2.2.1 b h4 (by omega) (by omega) (by omega)
      · rw [ps_b hb2, ps_b hb2]
    · rw [ps_b hb, ps_b hb]
/-- the end of a record: one less is open -/
theorem st_end (hT : rt_ok T) (h : qGW T q) (hD : qdo T w (q_rho q) (q_kap q) D) : qst T (q_up q (q_dp q - 1)) (q_end T D q).2 ∧ cok T (q_rho (q_end T D q).2) (q_kap (q_end T D q).2) (q_end T D q).1 := by
  unfold q_end
  by_cases hb : q_bad q = 0
  · rw [if_pos hb]
    rcases D with _ | ⟨j, N, X⟩
    · exact ⟨qst.rf (q := q_up q (q_dp q - 1)) h, trivial⟩
    · show qst T _ (ite _ _ _ : pHd × pQ).2 ∧ cok T (q_rho (ite _ _ _ : pHd × pQ).2) (q_kap (ite _ _ _ : pHd × pQ).2) (ite _ _ _ : pHd × pQ).1
      obtain ⟨hj, -, hX⟩ := hD j N X rfl
      by_cases hw0 : pu_why T (q_G q) j N X = 0
      · rw [if_pos hw0]
        have hg := GW.new h hj (fun y hy => (hT.2.1 y hy).1) (fun p hp => (hX p hp).1.hok) hw0
        exact ⟨⟨gle.new (Nat.le_refl _), Nat.le_refl _, Nat.le_succ _, Nat.le_refl _, fun h => h, hg, fun e => ⟨e, rfl⟩⟩, Nat.lt_succ_self _⟩
      · rw [if_neg hw0]
        rw [fl_0 hb]
        exact ⟨⟨gle.rf, Nat.le_refl _, Nat.le_refl _, Nat.le_refl _, fun h => h, h, fun e => absurd e hw0⟩, trivial⟩
  · rw [if_neg hb]
    exact ⟨⟨gle.rf, Nat.le_refl _, Nat.le_refl _, Nat.le_refl _, fun h => h, h, fun e => absurd e hb⟩, trivial⟩
theorem pu_rk_lt {x : Int64} {k : Nat} (h : pu_rk x = some k) : k < 4 ∧ x = lN (2 + k) := by
  unfold pu_rk at h
  split at h
  · rename_i hx
    cases h
    refine ⟨by omega, ?_⟩
    apply Int64.toInt_inj.mp
    rw [lN_toInt (by omega)]
    omega
  · cases h
theorem qdo.d0 {kd ρ κ : Nat} {b : Bool} (hw : w < 3) (hk : kd < 4) : qdo T w ρ κ (q_d0 w kd b) := by
  intro j N X e
  unfold q_d0 at e
  split at e
  · cases e
    exact ⟨by omega, by omega, fun p _ => ⟨trivial, fun _ => rfl, fun _ => rfl⟩⟩
  · cases e
theorem st_rec (hT : rt_ok T) (hw : w < 3) : ∀ k, Rok T (q_rec T w k)
  | 0 => fun b q h => ⟨st_fail h (by decide), trivial⟩
  | k + 1 => fun b q h => by
    have a : qst T (q_up q (q_dp q + 1)) (q_leaf (q_up q (q_dp q + 1))).2 := st_leaf (q := q_up q (q_dp q + 1)) h
    have up : ∀ {q2 : pQ}, qst T (q_up q (q_dp q + 1)) q2 → (q_bad q2 = 0 → q_dp q2 = q_dp q + 1) ∧ (∀ q3 : pQ, qst T (q_up q2 (q_dp q2 - 1)) q3 → qst T q q3) := fun {q2} s => by
      obtain ⟨b1, b2, b3, b4, b5, b6, b7⟩ := s
      refine ⟨fun e => (b7 e).2, fun q3 t => ?_⟩
      obtain ⟨c1, c2, c3, c4, c5, c6, c7⟩ := t
      refine ⟨b1.tr c1 b2 b3, Nat.le_trans b2 c2, Nat.le_trans b3 c3, Nat.le_trans b4 c4, fun hq => ?_, c6, fun hq => ?_⟩
      · have e : (q_G q2).1 4 = (q_G q).1 4 := b1.2.2.2.2.2.1
        rw [← e]
        exact c5 (by rw [show (q_G (q_up q2 (q_dp q2 - 1))).1 4 = (q_G q).1 4 from e]; exact b5 hq)
      · obtain ⟨e1, e2⟩ := c7 hq
        obtain ⟨e3, e4⟩ := b7 e1
        refine ⟨e3, e2.trans ?_⟩
        show q_dp q2 - 1 = q_dp q
        have e5 : q_dp q2 = q_dp q + 1 := e4
        omega
    unfold q_rec
    cases hf : pu_rk (q_leaf (q_up q (q_dp q + 1))).1 with
    | none =>
      have s := st_fail (c := 2) a.2.2.2.2.2.1 (by decide)
      have s2 := a.tr s
      refine ⟨?_, trivial⟩
      obtain ⟨b1, b2, b3, b4, b5, b6, b7⟩ := s2
      refine ⟨b1, b2, b3, b4, b5, b6, fun e => ?_⟩
      have e' : q_bad (q_fail 2 (q_leaf (q_up q (q_dp q + 1))).2) = 0 := e
      unfold q_fail at e'
      split at e'
      · exact absurd (show (2 : Nat) = 0 from e') (by decide)
      · rename_i h0
        exact absurd e' h0
    | some kd =>
      have hk := (pu_rk_lt hf).1
      have s := st_leaf a.2.2.2.2.2.1
      have s2 := a.tr s
      have p := st_parts hT hw (st_rec hT hw k) (q_leaf (q_leaf (q_up q (q_dp q + 1))).2).1.toInt.toNat (q_d0 w kd b) _ s.2.2.2.2.2.1 (qdo.d0 hw hk)
      have s3 := s2.tr p.1
      have e := st_end hT p.1.2.2.2.2.2.1 p.2
      exact ⟨(up s3).2 _ e.1, e.2⟩
end QST
theorem q_fail_ne {q : pQ} {c : Nat} (hc : c ≠ 0) : q_bad (q_fail c q) ≠ 0 := by
  unfold q_fail
  split
  · exact hc
  · assumption
theorem q_rec_la {T : Nat → Nat → Nat} {w k : Nat} {b : Bool} {a ρ κ d : Nat} {l l' : Int32} {G : pG} : q_rec T w (k + 1) b (a, l, 0, d, ρ, κ, G) = q_rec T w (k + 1) b (a, l', 0, d, ρ, κ, G) := by
  have e : q_leaf (q_up (a, l, 0, d, ρ, κ, G) (d + 1)) = q_leaf (q_up (a, l', 0, d, ρ, κ, G) (d + 1)) := by
    unfold q_leaf q_up
    simp only [if_true]
  show (match pu_rk (q_leaf (q_up (a, l, 0, d, ρ, κ, G) (d + 1))).1 with
    | none => (none, q_fail 2 (q_leaf (q_up (a, l, 0, d, ρ, κ, G) (d + 1))).2)
    | some kd => q_rec1 T w (q_rec T w k) b kd (q_leaf (q_leaf (q_up (a, l, 0, d, ρ, κ, G) (d + 1))).2).1 (q_leaf (q_leaf (q_up (a, l, 0, d, ρ, κ, G) (d + 1))).2).2) = _
  rw [e]
  rfl
