
section RLA
variable {p : Program} {l : Launch} {e : Env} {R : Room} {s : State} {m : MethodId} {args : Array Value} {below : List Frame} {meth : Method} {c : Code} {H : Heap} {locs : List Loc} {cells slots : Nat} {Q : State → Prop}
variable {cc : ByteArray} {nL pc : Nat} {ls : Array Slot} {rest : List Value} {D : va_G} {t : Nat → ClassId} {A : Nat → Prop} {a z x : Nat} {f : rl_M} {own : String} {cw : Cond}
theorem rl_aast_n (j : Nat) {E : String} {n v ci i : Nat} {vs : List Value} {r : vw_C} {g : Nat → Option Nat} (hC : rl_C p m c cc nL s args own cw D t A) (hW : rl_W D A f z s.heap H locs) (hj : (rl_tys t)[j]? = some (t j, .object E)) (he : f a = some (.inl (t j, n, .inr (.inr (.inr (.inr g)))))) (hv : f v = some (.inr (ci, vs))) (hc : rl_cl[ci]? = some r) (hca : r.1 = E ∨ Cond.castable r.1 E ∈ lw_tbl) (hi : i < n) (hN : n < 2 ^ 31) (hdg : decode cc pc = .ok (.aastore, 1))
    (kk : ∀ (H1 : Heap) (locs1 : List Loc), rl_W D A (rl_up f a (.inl (t j, n, .inr (.inr (.inr (.inr (va_up g i (some v)))))))) z s.heap H1 locs1 → W p l e R s m args below meth c H1 locs1 cells slots Q (F0 m (pc + 1) ls rest)) : W p l e R s m args below meth c H locs cells slots Q (F0 m pc ls (.ref v :: .int (nI i) :: .ref a :: rest)) :=
  rl_aast j hC hW hj he hv hc hca (rl_in hi hN).1 hdg (by rw [(rl_in hi hN).2]; exact kk)
end RLA
theorem pu_find_no {g : Nat → Nat} {x : Int64} : ∀ {n : Nat}, pu_find g x n = none → ∀ i, i < n → (nI (g i)).toInt64 ≠ x
  | 0, _, i, hi => absurd hi (Nat.not_lt_zero _)
  | n + 1, h, i, hi => by
    unfold pu_find at h
    cases hf : pu_find g x n with
    | some i' => rw [hf] at h; cases h
    | none =>
      rw [hf] at h
      simp only at h
      split at h
      · cases h
      · rename_i hne
        rcases Nat.lt_succ_iff_lt_or_eq.mp hi with q | rfl
        · exact pu_find_no hf i q
        · exact hne
theorem rt_ok.lt {T : Nat → Nat → Nat} (h : rt_ok T) {b n : Nat} (hb : b < 6) (hn : n < 10) (hf : ∀ i, i < T 0 b → T 1 (10 * b + i) ≠ n) : T 0 b < 10 :=
  rg_pig1 (g := fun i => T 1 (10 * b + i)) (fun i hi => h.2.2.2.1 b i hb hi) (fun i j hi hj e => h.2.2.2.2.2.2 b i j hb hi hj e) hn hf
section CIK
variable {t : Nat → ClassId} {f f' : rl_M} {x : Nat} {T T' : Nat → Nat → Nat} {ρ κ : Nat} {G : pG} {E E' : Nat → Nat → Nat} {g : Nat → Int32} {mo : Int32}
theorem cEV.kp (h : cEV t f x T E) (hk : ∀ q e, f q = some e → ¬ (x + 16 ≤ q ∧ q < x + 52) → f' q = some e) (h0 : T' 0 = T 0) (h1 : T' 1 = T 1) (h9 : T' 9 = T 9) : cEV t f' x T' E := by
  intro b hb
  obtain ⟨e1, e2, g, e3, e4⟩ := h b hb
  rw [h0, h1, h9]
  refine ⟨hk _ _ e1 (by omega), e2, g, hk _ _ e3 (by omega), fun i hi => ?_⟩
  obtain ⟨k1, k2, k3⟩ := e4 i hi
  exact ⟨k1, k2, hk _ _ k3 (by omega)⟩
theorem cRV.kp (h : cRV t f x T) (hk : ∀ q e, f q = some e → ¬ (x + 3 ≤ q ∧ q < x + 15) → f' q = some e) (hT : ∀ k, k ≠ 0 → k ≠ 1 → k ≠ 9 → T' k = T k) : cRV t f' x T' := by
  intro j hj
  obtain ⟨e1, e2, e3, ⟨g, e4, e5⟩, ⟨g', e6, e7⟩⟩ := h j hj
  have t2 := hT 2 (by decide) (by decide) (by decide)
  have t3 := hT 3 (by decide) (by decide) (by decide)
  have t4 := hT 4 (by decide) (by decide) (by decide)
  have t5 := hT 5 (by decide) (by decide) (by decide)
  have t6 := hT 6 (by decide) (by decide) (by decide)
  have t7 := hT 7 (by decide) (by decide) (by decide)
  have t8 := hT 8 (by decide) (by decide) (by decide)
  have t10 := hT 10 (by decide) (by decide) (by decide)
  unfold cPA cKA rt_kb
  rw [t2, t3, t4, t5, t6, t7, t8, t10]
  refine ⟨hk _ _ e1 (by omega), e2, e3, ⟨g, hk _ _ e4 (by omega), fun p hp => ?_⟩, ⟨g', hk _ _ e6 (by omega), fun c hc => ?_⟩⟩
  · obtain ⟨q, o, k1, k2, k3, k4⟩ := e5 p hp
    exact ⟨q, o, k1, k2, hk _ _ k3 (by omega), k4⟩
  · obtain ⟨q, b, k1, k2, k3, k4⟩ := e7 c hc
    exact ⟨q, b, k1, k2, hk _ _ k3 (by omega), k4⟩
theorem CJ.kp (h : CJ t f x T ρ κ G E g mo) (hk : ∀ q e, f q = some e → ¬ (x + 3 ≤ q ∧ q < x + 15) → ¬ (x + 16 ≤ q ∧ q < x + 52) → f' q = some e) (hc : ∀ h, cok T ρ κ h → ca E' h = ca E h ∧ cok T' ρ κ h) (h1 : E' 1 = E 1) (h2 : E' 2 = E 2) (hE : cEV t f' x T' E') (hR : cRV t f' x T') : CJ t f' x T' ρ κ G E' g mo := by
  obtain ⟨⟨a1, ⟨g1, a2, a3⟩, ⟨g2, a4, a5⟩⟩, -, -, ⟨v5, b1⟩, ⟨g3, c1, c2⟩, ⟨⟨g4, d1, d1'⟩, ⟨g5, d2, d3⟩⟩, ⟨⟨fz, e1⟩, ⟨g6, e3, e3'⟩, ⟨g7, e4⟩⟩, h8, h9, h10⟩ := h
  refine ⟨⟨hk _ _ a1 (by omega) (by omega), ⟨g1, hk _ _ a2 (by omega) (by omega), a3⟩, ⟨g2, hk _ _ a4 (by omega) (by omega), a5⟩⟩, hE, hR, ⟨v5, hk _ _ b1 (by omega) (by omega)⟩, ⟨g3, hk _ _ c1 (by omega) (by omega), fun p hp => ?_⟩, ⟨⟨g4, hk _ _ d1 (by omega) (by omega), d1'⟩, ⟨g5, hk _ _ d2 (by omega) (by omega), d3⟩⟩, ⟨⟨fz, hk _ _ e1 (by omega) (by omega)⟩, ⟨g6, hk _ _ e3 (by omega) (by omega), e3'⟩, ⟨g7, hk _ _ e4 (by omega) (by omega)⟩⟩, fun r hr => ?_, fun r hr => ?_, ?_⟩
  · obtain ⟨k1, k2⟩ := c2 p hp
    obtain ⟨m1, m2⟩ := hc _ k2
    exact ⟨by rw [m1]; exact k1, m2⟩
  · rw [h1]
    obtain ⟨k1, k2, gg, k3, k4⟩ := h8 r hr
    exact ⟨k1, hk _ _ k2 (by omega) (by omega), gg, hk _ _ k3 (by omega) (by omega), k4⟩
  · rw [h2]
    obtain ⟨k1, k2, ⟨gn, k3, k4⟩, ⟨gt, k5, k6⟩⟩ := h9 r hr
    refine ⟨k1, hk _ _ k2 (by omega) (by omega), ⟨gn, hk _ _ k3 (by omega) (by omega), k4⟩, ⟨gt, hk _ _ k5 (by omega) (by omega), fun p hp => ?_⟩⟩
    obtain ⟨m1, m2⟩ := hc _ (k6 p hp).2
    exact ⟨by rw [m1]; exact (k6 p hp).1, m2⟩
  · unfold cIN
    rw [h1, h2]
    exact h10
theorem rl_up3 {f : rl_M} {a b c : Nat} {e1 e2 e3 e : va_E} {q : Nat} (h : f q = some e) (h1 : q ≠ a) (h2 : q ≠ b) (h3 : q ≠ c) : rl_up (rl_up (rl_up f a e1) b e2) c e3 q = some e := by rw [rl_up_n h3, rl_up_n h2, rl_up_n h1]; exact h
/-- a constant more -/
def eup (E : Nat → Nat → Nat) (i n z : Nat) : Nat → Nat → Nat := va_up E i (va_up (E i) n z)
theorem CJ.addc {bb nm lo z : Nat} {gc : Nat → Option Nat} (h : CJ t f x T ρ κ G E g mo) (hb : bb < 6) (hlt : T 0 bb < 10) (hz : f z = none) (hzx : x + 58 ≤ z) (hg : f (x + 4 + 2 * bb) = some (.inl (t 4, 10, .inr (.inr (.inr (.inr gc)))))) :
    CJ t (rl_up (rl_up (rl_up f z (.inr (1, [.ref (x + 3 + 2 * bb), .int (nI nm), .int (nI (T 0 bb)), .int (nI lo)]))) (x + 4 + 2 * bb) (.inl (t 4, 10, .inr (.inr (.inr (.inr (va_up gc (T 0 bb) (some z)))))))) (x + 3 + 2 * bb) (.inr (2, [.int (nI (bb / 3)), .int (nI (bb % 3)), .ref (x + 4 + 2 * bb), .int (nI (T 0 bb + 1))]))) x (rt_addc T bb nm lo) ρ κ G (eup E 0 (10 * bb + T 0 bb) z) g mo := by
  have kz : ∀ q e, f q = some e → q ≠ z := fun q e hq w => by rw [w, hz] at hq; cases hq
  have hE := h.2.1
  have hR := h.2.2.1
  have t0 : rt_addc T bb nm lo 0 = va_up (T 0) bb (T 0 bb + 1) := by simp [rt_addc, va_up]
  have t1 : rt_addc T bb nm lo 1 = va_up (T 1) (10 * bb + T 0 bb) nm := by simp [rt_addc, va_up]
  have t9 : rt_addc T bb nm lo 9 = va_up (T 9) (10 * bb + T 0 bb) lo := by simp [rt_addc, va_up]
  have t2 : ∀ k, k ≠ 0 → k ≠ 1 → k ≠ 9 → rt_addc T bb nm lo k = T k := fun k h0 h1 h9 => by unfold rt_addc; rw [va_up_n _ _ h9, va_up_n _ _ h1, va_up_n _ _ h0]
  have eE : eup E 0 (10 * bb + T 0 bb) z 0 = va_up (E 0) (10 * bb + T 0 bb) z := va_up_s _ _ _
  refine h.kp (fun q e hq h1 h2 => rl_up3 hq (kz q e hq) (by omega) (by omega)) (fun hd hk => ?_) (va_up_n _ _ (by decide)) (va_up_n _ _ (by decide)) ?_ (hR.kp (fun q e hq h1 => rl_up3 hq (kz q e hq) (by omega) (by omega)) t2)
  · rcases hd with _ | n | n | n
    · exact ⟨rfl, trivial⟩
    · have hn : n ≠ 10 * bb + T 0 bb := fun q => by
        have h9 := hk.2
        rw [q, show (10 * bb + T 0 bb) % 10 = T 0 bb by omega, show (10 * bb + T 0 bb) / 10 = bb by omega] at h9
        omega
      refine ⟨?_, hk.1, ?_⟩
      · show some (eup E 0 (10 * bb + T 0 bb) z 0 n) = some (E 0 n)
        rw [eE, va_up_n _ _ hn]
      · rw [t0]
        unfold va_up
        have h9 := hk.2
        split
        · rename_i w
          rw [w] at h9
          omega
        · exact h9
    · exact ⟨rfl, hk⟩
    · exact ⟨rfl, hk⟩
  intro b hb'
  rw [t0, t1, t9, eE]
  by_cases hbb : b = bb
  · subst hbb
    obtain ⟨e1, e2, g', e3, e4⟩ := hE b hb
    have hgg : g' = gc := by rw [e3] at hg; simpa using hg
    subst hgg
    rw [va_up_s]
    refine ⟨rl_up_s _ _ _, by omega, _, by rw [rl_up_n (by omega)]; exact rl_up_s _ _ _, fun i hi => ?_⟩
    by_cases hib : i = T 0 b
    · subst hib
      rw [va_up_s, va_up_s, va_up_s, va_up_s, rl_up_n (by omega), rl_up_n (by omega)]
      exact ⟨rfl, hzx, rl_up_s _ _ _⟩
    · obtain ⟨k1, k2, k3⟩ := e4 i (by omega)
      have hne : 10 * b + i ≠ 10 * b + T 0 b := by omega
      rw [va_up_n _ _ hib, va_up_n _ _ hne, va_up_n _ _ hne, va_up_n _ _ hne]
      exact ⟨k1, k2, rl_up3 k3 (kz _ _ k3) (by omega) (by omega)⟩
  · obtain ⟨e1, e2, g', e3, e4⟩ := hE b hb'
    rw [va_up_n _ _ hbb]
    refine ⟨rl_up3 e1 (kz _ _ e1) (by omega) (by omega), e2, g', rl_up3 e3 (kz _ _ e3) (by omega) (by omega), fun i hi => ?_⟩
    obtain ⟨k1, k2, k3⟩ := e4 i hi
    have hne : 10 * b + i ≠ 10 * bb + T 0 bb := by omega
    rw [va_up_n _ _ hne, va_up_n _ _ hne, va_up_n _ _ hne]
    exact ⟨k1, k2, rl_up3 k3 (kz _ _ k3) (by omega) (by omega)⟩
theorem rl_up2 {f : rl_M} {a b : Nat} {e1 e2 e : va_E} {q : Nat} (h : f q = some e) (h1 : q ≠ a) (h2 : q ≠ b) : rl_up (rl_up f a e1) b e2 q = some e := by rw [rl_up_n h2, rl_up_n h1]; exact h
theorem CJ.addp {jj nm so o z : Nat} {oo : Int32} {gc : Nat → Option Nat} (h : CJ t f x T ρ κ G E g mo) (hb : jj < 12) (hlt : T 2 jj < 5) (hof : rt_of so o oo) (hz : f z = some (.inr (4, [.int (nI nm), .int (nI so), .int oo]))) (hzx : x + 58 ≤ z) (hg : f (x + 17 + 3 * jj) = some (.inl (t 5, 5, .inr (.inr (.inr (.inr gc)))))) :
    CJ t (rl_up (rl_up f (x + 17 + 3 * jj) (.inl (t 5, 5, .inr (.inr (.inr (.inr (va_up gc (T 2 jj) (some z)))))))) (x + 16 + 3 * jj) (.inr (7, [.int (nI (2 + jj / 3)), .int (nI (jj % 3)), .ref (x + 17 + 3 * jj), .ref (x + 18 + 3 * jj), .int (nI (T 2 jj + 1)), .int (nI (T 5 jj))]))) x (rt_addp T jj nm so o) ρ κ G E g mo := by
  have hE := h.2.1
  have hR := h.2.2.1
  have t0 : rt_addp T jj nm so o 0 = T 0 := by simp [rt_addp, va_up]
  have t1 : rt_addp T jj nm so o 1 = T 1 := by simp [rt_addp, va_up]
  have t9 : rt_addp T jj nm so o 9 = T 9 := by simp [rt_addp, va_up]
  have t5 : rt_addp T jj nm so o 5 = T 5 := by simp [rt_addp, va_up]
  have t6 : rt_addp T jj nm so o 6 = T 6 := by simp [rt_addp, va_up]
  have t7 : rt_addp T jj nm so o 7 = T 7 := by simp [rt_addp, va_up]
  have t10 : rt_addp T jj nm so o 10 = T 10 := by simp [rt_addp, va_up]
  have tm : ∀ j, T 2 j ≤ rt_addp T jj nm so o 2 j := fun j => by
    rw [rt_p2]
    split
    · rename_i w
      rw [w]
      omega
    · exact Nat.le_refl _
  refine h.kp (fun q e hq h1 h2 => rl_up2 hq (by omega) (by omega)) (fun hd hk => ⟨rfl, ?_⟩) rfl rfl (hE.kp (fun q e hq h1 => rl_up2 hq (by omega) (by omega)) t0 t1 t9) ?_
  · rcases hd with _ | n | n | n
    · trivial
    · exact ⟨hk.1, by rw [t0]; exact hk.2⟩
    · exact hk
    · exact hk
  intro j hj
  obtain ⟨e1, e2, e3, ⟨g', e4, e5⟩, ⟨g2, e6, e7⟩⟩ := hR j hj
  have hjj5 := (hR jj hb).2.1
  have hK : cKA t (rl_up (rl_up f (x + 17 + 3 * jj) (.inl (t 5, 5, .inr (.inr (.inr (.inr (va_up gc (T 2 jj) (some z)))))))) (x + 16 + 3 * jj) (.inr (7, [.int (nI (2 + jj / 3)), .int (nI (jj % 3)), .ref (x + 17 + 3 * jj), .ref (x + 18 + 3 * jj), .int (nI (T 2 jj + 1)), .int (nI (T 5 jj))]))) x (rt_addp T jj nm so o) j := by
    unfold cKA
    rw [t5, t6, t7, t10]
    refine ⟨g2, rl_up2 e6 (by omega) (by omega), fun c hc => ?_⟩
    obtain ⟨q, b, k1, k2, k3, k4, k5⟩ := e7 c hc
    have := tm j
    refine ⟨q, b, k1, k2, rl_up2 k3 (by omega) (by omega), by omega, fun w => ?_⟩
    obtain ⟨w1, w2, w3⟩ := k5 w
    refine ⟨by omega, w2, ?_⟩
    rw [rt_p4, if_neg]
    · exact w3
    · intro w4
      by_cases hjj : j = jj
      · subst hjj; omega
      · omega
  rw [t5]
  by_cases hbb : j = jj
  · subst hbb
    have hgg : g' = gc := by rw [e4] at hg; simpa using hg
    subst hgg
    have t2 : rt_addp T j nm so o 2 j = T 2 j + 1 := by rw [rt_p2, if_pos rfl]
    refine ⟨by rw [t2]; exact rl_up_s _ _ _, by omega, e3, ⟨_, by rw [rl_up_n (by omega)]; exact rl_up_s _ _ _, fun i hi => ?_⟩, hK⟩
    rw [rt_p3, rt_p4, rt_p8]
    by_cases hib : i = T 2 j
    · subst hib
      rw [if_pos rfl, if_pos rfl, if_pos rfl]
      exact ⟨z, oo, va_up_s _ _ _, hzx, rl_up2 hz (by omega) (by omega), hof⟩
    · obtain ⟨q, o', k1, k2, k3, k4⟩ := e5 i (by omega)
      rw [if_neg (by omega), if_neg (by omega), if_neg (by omega)]
      exact ⟨q, o', by rw [va_up_n _ _ hib]; exact k1, k2, rl_up2 k3 (by omega) (by omega), k4⟩
  · have t2 : rt_addp T jj nm so o 2 j = T 2 j := by rw [rt_p2, if_neg hbb]
    refine ⟨by rw [t2]; exact rl_up2 e1 (by omega) (by omega), by omega, e3, ⟨g', rl_up2 e4 (by omega) (by omega), fun i hi => ?_⟩, hK⟩
    rw [t2] at hi
    obtain ⟨q, o', k1, k2, k3, k4⟩ := e5 i hi
    rw [rt_p3, rt_p4, rt_p8, if_neg (by omega), if_neg (by omega), if_neg (by omega)]
    exact ⟨q, o', k1, k2, rl_up2 k3 (by omega) (by omega), k4⟩
theorem CJ.addk {jj ho a b0 z : Nat} {o : Int32} {gc : Nat → Option Nat} (h : CJ t f x T ρ κ G E g mo) (hb : jj < 12) (hlt : T 5 jj < 2) (ha : a < T 2 jj) (hkb : rt_kb T jj ho b0 o) (hz : f z = some (.inr (0, [.int (nI ho), .int (nI a), .int o]))) (hzx : x + 58 ≤ z) (hg : f (x + 18 + 3 * jj) = some (.inl (t 6, 2, .inr (.inr (.inr (.inr gc)))))) :
    CJ t (rl_up (rl_up f (x + 18 + 3 * jj) (.inl (t 6, 2, .inr (.inr (.inr (.inr (va_up gc (T 5 jj) (some z)))))))) (x + 16 + 3 * jj) (.inr (7, [.int (nI (2 + jj / 3)), .int (nI (jj % 3)), .ref (x + 17 + 3 * jj), .ref (x + 18 + 3 * jj), .int (nI (T 2 jj)), .int (nI (T 5 jj + 1))]))) x (rt_addk T jj ho a b0) ρ κ G E g mo := by
  have hE := h.2.1
  have hR := h.2.2.1
  have t0 : rt_addk T jj ho a b0 0 = T 0 := by simp [rt_addk, va_up]
  have t1 : rt_addk T jj ho a b0 1 = T 1 := by simp [rt_addk, va_up]
  have t9 : rt_addk T jj ho a b0 9 = T 9 := by simp [rt_addk, va_up]
  have t2 : rt_addk T jj ho a b0 2 = T 2 := by simp [rt_addk, va_up]
  have t3 : rt_addk T jj ho a b0 3 = T 3 := by simp [rt_addk, va_up]
  have t4 : rt_addk T jj ho a b0 4 = T 4 := by simp [rt_addk, va_up]
  have t8 : rt_addk T jj ho a b0 8 = T 8 := by simp [rt_addk, va_up]
  refine h.kp (fun q e hq h1 h2 => rl_up2 hq (by omega) (by omega)) (fun hd hk => ⟨rfl, ?_⟩) rfl rfl (hE.kp (fun q e hq h1 => rl_up2 hq (by omega) (by omega)) t0 t1 t9) ?_
  · rcases hd with _ | n | n | n
    · trivial
    · exact ⟨hk.1, by rw [t0]; exact hk.2⟩
    · exact hk
    · exact hk
  intro j hj
  obtain ⟨e1, e2, e3, ⟨g', e4, e5⟩, ⟨g2, e6, e7⟩⟩ := hR j hj
  have hK : cPA t (rl_up (rl_up f (x + 18 + 3 * jj) (.inl (t 6, 2, .inr (.inr (.inr (.inr (va_up gc (T 5 jj) (some z)))))))) (x + 16 + 3 * jj) (.inr (7, [.int (nI (2 + jj / 3)), .int (nI (jj % 3)), .ref (x + 17 + 3 * jj), .ref (x + 18 + 3 * jj), .int (nI (T 2 jj)), .int (nI (T 5 jj + 1))]))) x (rt_addk T jj ho a b0) j := by
    unfold cPA
    rw [t2, t3, t4, t8]
    refine ⟨g', rl_up2 e4 (by omega) (by omega), fun i hi => ?_⟩
    obtain ⟨q, o', k1, k2, k3, k4⟩ := e5 i hi
    exact ⟨q, o', k1, k2, rl_up2 k3 (by omega) (by omega), k4⟩
  rw [t2]
  by_cases hbb : j = jj
  · subst hbb
    have hgg : g2 = gc := by rw [e6] at hg; simpa using hg
    subst hgg
    have t5 : rt_addk T j ho a b0 5 j = T 5 j + 1 := by rw [rt_k5, if_pos rfl]
    refine ⟨by rw [t5]; exact rl_up_s _ _ _, e2, by omega, hK, ⟨_, by rw [rl_up_n (by omega)]; exact rl_up_s _ _ _, fun i hi => ?_⟩⟩
    unfold rt_kb
    rw [rt_k6, rt_k7, rt_k10, t2, t4]
    by_cases hib : i = T 5 j
    · subst hib
      rw [if_pos rfl, if_pos rfl, if_pos rfl]
      exact ⟨z, o, va_up_s _ _ _, hzx, rl_up2 hz (by omega) (by omega), ha, hkb⟩
    · obtain ⟨q, o', k1, k2, k3, k4⟩ := e7 i (by omega)
      rw [if_neg (by omega), if_neg (by omega), if_neg (by omega)]
      exact ⟨q, o', by rw [va_up_n _ _ hib]; exact k1, k2, rl_up2 k3 (by omega) (by omega), k4⟩
  · have t5 : rt_addk T jj ho a b0 5 j = T 5 j := by rw [rt_k5, if_neg hbb]
    refine ⟨by rw [t5]; exact rl_up2 e1 (by omega) (by omega), e2, by omega, hK, ⟨g2, rl_up2 e6 (by omega) (by omega), fun i hi => ?_⟩⟩
    rw [t5] at hi
    obtain ⟨q, o', k1, k2, k3, k4⟩ := e7 i hi
    unfold rt_kb
    rw [rt_k6, rt_k7, rt_k10, t2, t4, if_neg (by omega), if_neg (by omega), if_neg (by omega)]
    exact ⟨q, o', k1, k2, rl_up2 k3 (by omega) (by omega), k4⟩
end CIK

set_option maxHeartbeats 4000000 in
set_option maxRecDepth 100000 in
theorem cC_EV_add (l : Launch) (D : va_G) (t : Nat → ClassId) (A : Nat → Prop) (f : rl_M) (z : Nat) (x : Nat) (T : Nat → Nat → Nat) (ρ κ : Nat) (G : pG) (E : Nat → Nat → Nat) (gx : Nat → Int32) (mo : Int32) (hI : CJ t f x T ρ κ G E gx mo) (bb nm lo : Nat) (hlo : lo < 2) (hbb : bb < 6) (hlt : T 0 bb < 10) : rl_Met l yX2_add (.code yX2_add cX2_add 3 (some FieldType.int)) (rl_rm 3 1 4) D t A f z [.ref (x + 3 + 2 * bb), .int (nI (nm)), .int (nI (lo))] (rl_pi fun r f1 z1 d1 => r = nI (T 0 bb) ∧ CJ t f1 x (rt_addc T bb nm lo) ρ κ G (eup E 0 (10 * bb + T 0 bb) z) gx mo ∧ z1 ≤ z + 1 ∧ d1 ≤ 4) := by
  refine rl_begin (own := RX2) (lv := [(0, .ref (x + 3 + 2 * bb)), (1, .int (nI (nm))), (2, .int (nI (lo)))]) (by decide +kernel) rfl (Nat.le_of_ble_eq_true rfl) rfl fun p e s m0 args below meth c ls H locs hC hr hlk hnm hW hl hx hb => ?_
  have hzx : x + 58 ≤ z := by obtain ⟨-, -, -, -, -, -, ⟨-, -, ⟨g9, e9⟩⟩, -⟩ := id hI; exact hW.lt e9
  obtain ⟨hev, h10, gc, hca, hcc⟩ := id (hI.2.1 bb hbb)
  have hfz := hW.fresh
  have h9 : lo = 0 ∨ lo = 1 := by omega
  have hlo2 : nI lo = 0 ∨ nI lo = 1 := by rcases h9 with rfl | rfl <;> decide
  refine lv_aload_n hx hb dX2_add_0 rfl (lv_at hl 0 rfl) ?_
  refine rl_get (v := .int (nI (T 0 bb))) hC hW fl_X2_24 hev rfl dX2_add_1 ?_
  refine lv_bipush (v := (nI (10))) hx hb dX2_add_4 (by decide) ?_
  refine lv_icmp_lt (tgt := 11) hx hb dX2_add_6 (by decide) (fun c1 => ?_) (fun c1 => ?_)
  · refine lv_aload_n hx hb dX2_add_11 rfl (lv_at hl 0 rfl) ?_
    refine rl_get (v := .ref (x + 4 + 2 * bb)) hC hW fl_X2_20 hev rfl dX2_add_12 ?_
    refine lv_aload_n hx hb dX2_add_15 rfl (lv_at hl 0 rfl) ?_
    refine rl_get (v := .int (nI (T 0 bb))) hC hW fl_X2_24 hev rfl dX2_add_16 ?_
    refine rl_new hC hW cn_X2_18 (by simp only [rl_rm]; omega) (by simp only [rl_rm]; omega) dX2_add_19 (fun H hW => ?_)
    have hev1 := rl_le.fresh (e := .inr (1, [.null, .int 0, .int 0, .int 0])) hfz _ _ hev
    refine lv_dup hx hb dX2_add_22 rfl ?_
    refine lv_aload_n hx hb dX2_add_23 rfl (lv_at hl 0 rfl) ?_
    refine lv_iload_n hx hb dX2_add_24 rfl (lv_at hl 1 rfl) ?_
    refine lv_aload_n hx hb dX2_add_25 rfl (lv_at hl 0 rfl) ?_
    refine rl_get (v := .int (nI (T 0 bb))) hC hW fl_X2_24 hev1 rfl dX2_add_26 ?_
    refine lv_iload_n hx hb dX2_add_29 rfl (lv_at hl 2 rfl) ?_
    refine rl_callvQ (rl_runI (b := z) (As := [.ref (x + 3 + 2 * bb), .int (nI (nm)), .int (nI (T 0 bb)), .int (nI (lo))]) (rest := [.ref (z), .int (nI (T 0 bb)), .ref (x + 4 + 2 * bb)]) hC hW (cC_Constant_init l D t A _ (z + 1) z (x + 3 + 2 * bb) (nI nm) (nI (T 0 bb)) (nI lo) hlo2 (rl_up_s _ _ _)) cs_X2_30 im_X1_init rfl ⟨(Nat.le_of_ble_eq_true rfl), (Nat.le_of_ble_eq_true rfl)⟩ rfl hl.1 rfl (Nat.le_of_ble_eq_true rfl) dX2_add_30 ⟨by simp only [rl_rm]; omega, by simp only [rl_rm]; omega⟩) hW (fun f1 H locs hp hW => ?_)
    obtain rfl := hp
    rw [rl_up_up2] at hW
    refine rl_aast_n 4 (g := gc) hC hW rfl ((rl_up_n (by omega)).trans hca) (rl_up_s _ _ _) rfl (Or.inl rfl) hlt (by decide) dX2_add_33 (fun H locs hW => ?_)
    have hev2 : rl_up (rl_up f z (.inr (1, [.ref (x + 3 + 2 * bb), .int (nI nm), .int (nI (T 0 bb)), .int (nI lo)]))) (x + 4 + 2 * bb) (.inl (t 4, 10, .inr (.inr (.inr (.inr (va_up gc (T 0 bb) (some z))))))) (x + 3 + 2 * bb) = _ := rl_up2 hev (by omega) (by omega)
    refine lv_aload_n hx hb dX2_add_34 rfl (lv_at hl 0 rfl) ?_
    refine lv_dup hx hb dX2_add_35 rfl ?_
    refine rl_get (v := .int (nI (T 0 bb))) hC hW fl_X2_24 hev2 rfl dX2_add_36 ?_
    refine lv_iconst (v := (nI (1))) hx hb dX2_add_39 (by decide) ?_
    refine lv_iadd hx hb dX2_add_40 ?_
    refine rl_topn (nI_add _ _) ?_
    refine rl_put (v := .int (nI ((T 0 bb) + (1)))) hC hW fp_X2_24 hev2 (Nat.le_of_ble_eq_true rfl) rfl rfl dX2_add_41 (fun H locs hW => ?_)
    replace hW : rl_W D A (rl_up _ (x + 3 + 2 * bb) (.inr (2, [.int (nI (bb / 3)), .int (nI (bb % 3)), .ref (x + 4 + 2 * bb), .int (nI (T 0 bb + 1))]))) (z + 1) s.heap H locs := hW
    refine lv_aload_n hx hb dX2_add_44 rfl (lv_at hl 0 rfl) ?_
    refine rl_get (v := .int (nI (T 0 bb + 1))) hC hW fl_X2_24 (rl_up_s _ _ _) rfl dX2_add_45 ?_
    refine lv_iconst (v := (nI (1))) hx hb dX2_add_48 (by decide) ?_
    refine lv_isub hx hb dX2_add_49 ?_
    refine rl_topn (rg_sub rfl) ?_
    exact rl_iret hC hW hr hlk (by simp only [rl_rm]; omega) (by simp only [rl_rm]; omega) ⟨_, rfl, rfl, hI.addc hbb hlt hfz hzx hca, by omega, by omega⟩ dX2_add_50
  · exact absurd ((nI_ltI (by omega) (by decide)).mpr hlt) c1

set_option maxHeartbeats 4000000 in
set_option maxRecDepth 100000 in
theorem cC_constant (l : Launch) (D : va_G) (t : Nat → ClassId) (A : Nat → Prop) (f : rl_M) (z : Nat) (x : Nat) (T : Nat → Nat → Nat) (ρ κ : Nat) (G : pG) (E : Nat → Nat → Nat) (hI : CI t f x T ρ κ G E) (hT : rt_ok T) (hG : GW T ρ κ G) (x1 x2 x3 : Int32) (lo : Nat) (hlo : lo < 2) : rl_Met l yX11_constant (.code yX11_constant cX11_constant 6 (some FieldType.int)) (rl_rm 4 1 4) D t A f z [.ref (x), .int (x1), .int (x2), .int (x3), .int (nI (lo))] (rl_pi fun r f1 z1 d1 => (∃ T' E', rt_con T x1 x2 x3 lo r T' ∧ CI t f1 x T' ρ κ G E') ∧ z1 ≤ z + 1 ∧ d1 ≤ 4) := by
  refine rl_begin (own := RX11) (lv := [(0, .ref (x)), (1, .int (x1)), (2, .int (x2)), (3, .int (x3)), (4, .int (nI (lo)))]) (by decide +kernel) rfl (Nat.le_of_ble_eq_true rfl) rfl fun p e s m0 args below meth c ls H locs hC hr hlk hnm hW hl hx hb => ?_
  replace hI : CJ t _ x T ρ κ G E (G.2.1 0) (G.2.1 0 3) := hI
  obtain ⟨hF0, hEV, hRV, ⟨v5, hx0⟩, ⟨gpl, hpl, hpt⟩, ⟨⟨ggn, hgn, hgnE⟩, ⟨ggp, hgp, hgq⟩⟩, ⟨⟨fz, htp⟩, ⟨glv, hlv, hlvE⟩, ⟨gfr, hfr⟩⟩, hRW, hRC, hIN⟩ := id hI
  obtain ⟨hk0, -, -⟩ := id hI.1
  refine lv_aload_n hx hb dX11_constant_0 rfl (lv_at hl 0 rfl) ?_
  refine rl_get (v := .ref (x + 1)) hC hW fl_X11_10 hx0 rfl dX11_constant_1 ?_
  refine lv_iload_n hx hb dX11_constant_4 rfl (lv_at hl 1 rfl) ?_
  refine lv_iload_n hx hb dX11_constant_5 rfl (lv_at hl 2 rfl) ?_
  refine rl_callqQ (rl_runV (b := x + 1) (As := [.int (x1), .int (x2)]) (rest := []) hC hW (cC_enumVersion l D t A _ z x T ρ κ G E _ _ hI _ _) cs_X11_44 im_X3_enumVersion sl_X3_enumVersion hk0 rfl ⟨(Nat.le_of_ble_eq_true rfl), (Nat.le_of_ble_eq_true rfl)⟩ rfl hl.1 rfl (Nat.le_of_ble_eq_true rfl) dX11_constant_6 ⟨by simp only [rl_rm]; omega, by simp only [rl_rm]; omega⟩) hW (fun r1 f1 H locs hp hW => ?_)
  obtain ⟨rfl, hp⟩ := hp
  rcases hp with ⟨k, v, hk, hv, rfl, rfl, rfl⟩ | ⟨rfl, hp⟩
  · refine lv_astore (lv' := [(5, .ref (x + 3 + 2 * (3 * k + v))), (0, .ref (x)), (1, .int (nI (k))), (2, .int (nI (v))), (3, .int (x3)), (4, .int (nI (lo)))]) hx hb dX11_constant_9 hl (by decide) rfl (fun ls hl => ?_)
    refine lv_aload hx hb dX11_constant_11 (lv_at hl 0 rfl) ?_
    refine lv_ifnull hx hb dX11_constant_13 ?_
    refine lv_iload_n hx hb dX11_constant_16 rfl (lv_at hl 4 rfl) ?_
    refine lv_bipush (v := (nI (10))) hx hb dX11_constant_17 (by decide) ?_
    refine rl_calliQ (rl_runS (As := [.int (x3), .int (nI (10))]) (rest := []) hC hW (cC_below l D t A _ z _ (10) (by omega)) cs_X11_48 sm_X11_below ⟨(Nat.le_of_ble_eq_true rfl), (Nat.le_of_ble_eq_true rfl)⟩ rfl hl.1 rfl (Nat.le_of_ble_eq_true rfl) dX11_constant_19 ⟨by simp only [rl_rm]; omega, by simp only [rl_rm]; omega⟩) hW (fun r f1 H locs hp hW => ?_)
    obtain ⟨rfl, hp⟩ := hp
    rcases hp with ⟨rfl, hp⟩ | ⟨rfl, hp⟩
    · obtain ⟨n, hn, rfl⟩ := hp
      refine lv_if_eq (tgt := 35) hx hb dX11_constant_22 (by decide) (fun c9 => ?_) (fun c9 => ?_)
      · exact absurd c9 (by decide)
      · have hb6 : 3 * k + v < 6 := by omega
        obtain ⟨hev, h10, -⟩ := hI.2.1 _ hb6
        have hT1 : ∀ i, i < T 0 (3 * k + v) → T 1 (10 * (3 * k + v) + i) < 10 := fun i hi => hT.2.2.2.1 _ i hb6 hi
        refine lv_aload hx hb dX11_constant_25 (lv_at hl 0 rfl) ?_
        refine lv_iload_n hx hb dX11_constant_27 rfl (lv_at hl 4 rfl) ?_
        refine lv_i2l hx hb dX11_constant_28 rfl ?_
        refine rl_callqQ (rl_runV (b := x + 3 + 2 * (3 * k + v)) (As := [.long ((nI (n)).toInt64)]) (rest := []) hC hW (cC_named l D t A _ z x T ρ κ G E _ _ hI (3 * k + v) hb6 _) cs_X11_52 im_X2_named sl_X2_named hev rfl ⟨(Nat.le_of_ble_eq_true rfl), (Nat.le_of_ble_eq_true rfl)⟩ rfl hl.1 rfl (Nat.le_of_ble_eq_true rfl) dX11_constant_29 ⟨by simp only [rl_rm]; omega, by simp only [rl_rm]; omega⟩) hW (fun r2 f1 H locs hp hW => ?_)
        obtain ⟨rfl, hp⟩ := hp
        rcases hp with ⟨i, hi, rfl, hp⟩ | ⟨rfl, hp⟩
        · have hTi := hT1 i hi
          have he : (nI (T 1 (10 * (3 * k + v) + i))).toInt64 = (nI n).toInt64 := (pu_find_lt hp).2
          refine lv_ifnull hx hb dX11_constant_32 ?_
          refine lv_iconst (v := (-1)) hx hb dX11_constant_35 (by decide) ?_
          exact rl_iret hC hW hr hlk (by simp only [rl_rm]; omega) (by simp only [rl_rm]; omega) ⟨_, rfl, ⟨T, E, Or.inr ⟨by decide, rfl, fun ⟨k', v', n', q1, q2, q3, q4, q5, q6, q7⟩ => by
            cases (nI_eq (by omega) (by omega)).mp q4
            cases (nI_eq (by omega) (by omega)).mp q5
            cases (nI_eq (by omega) (by omega)).mp q6
            exact q7 i hi ((rg_l (by omega) (by omega)).mp he)⟩, hI⟩, by omega, by omega⟩ dX11_constant_36
        · have hno : ∀ i, i < T 0 (3 * k + v) → T 1 (10 * (3 * k + v) + i) ≠ n := fun i hi e => pu_find_no hp i hi (by show (nI (T 1 (10 * (3 * k + v) + i))).toInt64 = _; rw [e])
          have hlt := hT.lt hb6 hn hno
          refine lv_ifnullN (tgt := 37) hx hb dX11_constant_32 (by decide) ?_
          refine lv_aload hx hb dX11_constant_37 (lv_at hl 0 rfl) ?_
          refine lv_iload_n hx hb dX11_constant_39 rfl (lv_at hl 4 rfl) ?_
          refine lv_iload hx hb dX11_constant_40 (lv_at hl 5 rfl) ?_
          refine rl_calli (rl_runV (b := x + 3 + 2 * (3 * k + v)) (As := [.int (nI (n)), .int (nI (lo))]) (rest := []) hC hW (cC_EV_add l D t A _ z x T ρ κ G E _ _ hI (3 * k + v) n lo hlo hb6 hlt) cs_X11_58 im_X2_add sl_X2_add hev rfl ⟨(Nat.le_of_ble_eq_true rfl), (Nat.le_of_ble_eq_true rfl)⟩ rfl hl.1 rfl (Nat.le_of_ble_eq_true rfl) dX11_constant_42 ⟨by simp only [rl_rm]; omega, by simp only [rl_rm]; omega⟩) hW (fun r f1 z1 d1 H locs hp hW hz1 => ?_)
          obtain ⟨rfl, hI2, hz2, hd2⟩ := hp
          exact rl_iret hC hW hr hlk (by simp only [rl_rm]; omega) (by simp only [rl_rm]; omega) ⟨_, rfl, ⟨_, _, Or.inl ⟨k, v, n, ⟨hk, hv, hn, rfl, rfl, rfl, hno⟩, rfl, rfl⟩, hI2⟩, by omega, by omega⟩ dX11_constant_45
    · have hq := hp
      refine lv_if_eq (tgt := 35) hx hb dX11_constant_22 (by decide) (fun c9 => ?_) (fun c9 => ?_)
      · refine lv_iconst (v := (-1)) hx hb dX11_constant_35 (by decide) ?_
        exact rl_iret hC hW hr hlk (by simp only [rl_rm]; omega) (by simp only [rl_rm]; omega) ⟨_, rfl, ⟨T, E, Or.inr ⟨by decide, rfl, fun ⟨_, _, n', _, _, q1, _, _, q4, _⟩ => hq ⟨n', q1, q4⟩⟩, hI⟩, by omega, by omega⟩ dX11_constant_36
      · exact absurd rfl c9
  · refine lv_astoreN (lv' := [(5, .null), (0, .ref (x)), (1, .int (x1)), (2, .int (x2)), (3, .int (x3)), (4, .int (nI (lo)))]) hx hb dX11_constant_9 hl (by decide) rfl (fun ls hl => ?_)
    refine lv_aloadN hx hb dX11_constant_11 (lv_at hl 0 rfl) ?_
    refine lv_ifnullN (tgt := 35) hx hb dX11_constant_13 (by decide) ?_
    refine lv_iconst (v := (-1)) hx hb dX11_constant_35 (by decide) ?_
    exact rl_iret hC hW hr hlk (by simp only [rl_rm]; omega) (by simp only [rl_rm]; omega) ⟨_, rfl, ⟨T, E, Or.inr ⟨by decide, rfl, fun ⟨k', v', _, q1, q2, _, q4, q5, _⟩ => hp ⟨k', v', q1, q2, q4, q5⟩⟩, hI⟩, by omega, by omega⟩ dX11_constant_36
