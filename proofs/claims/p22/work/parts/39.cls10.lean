
/-- a draft: a record with all of its version's parts -/
def cDR (t : Nat → ClassId) (f : rl_M) (x : Nat) (T : Nat → Nat → Nat) (E : Nat → Nat → Nat) (a j : Nat) (N : Nat → Int64) (X : Nat → pHd) : Prop := j < 12 ∧ x + 58 ≤ a ∧ f a = some (.inr (6, [.ref (x + 16 + 3 * j), .ref (a + 1), .ref (a + 2)])) ∧ (∃ gn : Nat → Int64, f (a + 1) = some (.inl (t 1, T 2 j, .inr (.inl gn))) ∧ ∀ p, p < T 2 j → gn p = N p) ∧ ∃ gt : Nat → Option Nat, f (a + 2) = some (.inl (t 3, T 2 j, .inr (.inr (.inr (.inr gt))))) ∧ ∀ p, p < T 2 j → gt p = ca E (X p)
def rl_dr (a : Nat) (f f1 : rl_M) : Prop := ∀ q e, f q = some e → q ≠ a + 1 → q ≠ a + 2 → f1 q = some e
section DRF
variable {t : Nat → ClassId} {f f1 : rl_M} {x : Nat} {T : Nat → Nat → Nat} {ρ κ : Nat} {G : pG} {E : Nat → Nat → Nat} {g : Nat → Int32} {mo : Int32}
theorem cDR.on {a j : Nat} {N : Nat → Int64} {X : Nat → pHd} (h : cDR t f x T E a j N X) (h0 : ∀ e, f a = some e → f1 a = some e) (h1 : ∀ e, f (a + 1) = some e → f1 (a + 1) = some e) (h2 : ∀ e, f (a + 2) = some e → f1 (a + 2) = some e) : cDR t f1 x T E a j N X := by
  obtain ⟨k1, k2, k3, ⟨gn, k4, k5⟩, ⟨gt, k6, k7⟩⟩ := h
  exact ⟨k1, k2, h0 _ k3, ⟨gn, h1 _ k4, k5⟩, ⟨gt, h2 _ k6, k7⟩⟩
theorem CJ.drn {a n : Nat} {g1 g2 : Nat → Int64} (h : CJ t f x T ρ κ G E g mo) (hx : x + 58 ≤ a) (hf : ∀ r, r < κ → E 2 r ≠ a) (ha : f (a + 1) = some (.inl (t 1, n, .inr (.inl g1)))) : CJ t (rl_up f (a + 1) (.inl (t 1, n, .inr (.inl g2)))) x T ρ κ G E g mo := by
  obtain ⟨h1, h2, h3, h4, h5, h6, h7, h8, h9, h10⟩ := h
  refine ⟨h1.off (by omega), h2.off (by omega) (fun q fs e => rl_ne e ha (by simp)), h3.off (by omega) (fun q fs e => rl_ne e ha (by simp)) (fun q fs e => rl_ne e ha (by simp)), h4.off (by omega), h5.off (by omega), h6.off (by omega), h7.off (by omega), h8.off (fun r hr => ?_), h9.off (fun r hr => ?_), h10⟩
  · obtain ⟨-, k2, gg, k3, -⟩ := h8 r hr
    exact ⟨rl_ne k2 ha (by simp), rl_ne k3 ha (by simp)⟩
  · obtain ⟨-, k2, -, ⟨gt, k5, -⟩⟩ := h9 r hr
    have := hf r hr
    exact ⟨rl_ne k2 ha (by simp), by omega, rl_ne k5 ha (by simp)⟩
theorem CJ.drt {a n : Nat} {g1 g2 : Nat → Option Nat} (h : CJ t f x T ρ κ G E g mo) (hx : x + 58 ≤ a) (hf : ∀ r, r < κ → E 2 r ≠ a) (ha : f (a + 2) = some (.inl (t 3, n, .inr (.inr (.inr (.inr g1)))))) : CJ t (rl_up f (a + 2) (.inl (t 3, n, .inr (.inr (.inr (.inr g2)))))) x T ρ κ G E g mo := by
  obtain ⟨h1, h2, h3, h4, h5, h6, h7, h8, h9, h10⟩ := h
  refine ⟨h1.off (by omega), h2.off (by omega) (fun q fs e => rl_ne e ha (by simp)), h3.off (by omega) (fun q fs e => rl_ne e ha (by simp)) (fun q fs e => rl_ne e ha (by simp)), h4.off (by omega), h5.off (by omega), h6.off (by omega), h7.off (by omega), h8.off (fun r hr => ?_), h9.off (fun r hr => ?_), h10⟩
  · obtain ⟨-, k2, gg, k3, -⟩ := h8 r hr
    exact ⟨rl_ne k2 ha (by simp), rl_ne k3 ha (by simp)⟩
  · obtain ⟨-, k2, ⟨gn, k3, -⟩, -⟩ := h9 r hr
    have := hf r hr
    exact ⟨rl_ne k2 ha (by simp), rl_ne k3 ha (by simp), by omega⟩
/-- a draft becomes a record -/
theorem CJ.newrec {a j : Nat} {N : Nat → Int64} {X : Nat → pHd} (h : CJ t f x T ρ κ G E g mo) (hD : cDR t f x T E a j N X) (hf : ∀ r, r < κ → E 2 r ≠ a) (hq : ∀ p, p < T 2 j → cok T ρ κ (X p) ∧ (T 4 (5 * j + p) < 2 → X p = none) ∧ (2 ≤ T 4 (5 * j + p) → N p = 0)) (h5 : ∀ r, r < κ → G.1 2 r ≤ 5) : CJ t f x T ρ (κ + 1) (pu_new T κ G j N X) (eup E 2 κ a) g mo := by
  obtain ⟨h1, h2, h3, h4, ⟨gp, h5a, h5b⟩, h6, h7, hw, hc, hi⟩ := h
  obtain ⟨k1, k2, k3, ⟨gn, k4, k5⟩, ⟨gt, k6, k7⟩⟩ := hD
  have e2 : eup E 2 κ a 2 = va_up (E 2) κ a := va_up_s _ _ _
  have m1 : (pu_new T κ G j N X).1 1 = va_up (G.1 1) κ j := rfl
  have m2 : (pu_new T κ G j N X).1 2 = va_up (G.1 2) κ (T 2 j) := rfl
  have m3 : (pu_new T κ G j N X).2.2.2 1 = pu_up (5 * κ) (fun p => if T 4 (5 * j + p) < 2 then none else X p) (T 2 j) (G.2.2.2 1) := rfl
  have m4 : (pu_new T κ G j N X).2.2.1 0 = pu_up (5 * κ) (fun p => if T 4 (5 * j + p) < 2 then N p else 0) (T 2 j) (G.2.2.1 0) := rfl
  refine ⟨h1, h2, h3, h4, ⟨gp, h5a, fun p hp => ⟨(h5b p hp).1.trans (ca_eup2 (h5b p hp).2).symm, (h5b p hp).2.mono (Nat.le_refl _) (by omega)⟩⟩, h6, h7, hw, fun r hr => ?_, ?_⟩
  · rw [e2, m1, m2, m3, m4]
    by_cases e : r = κ
    · subst e
      rw [va_up_s, va_up_s, va_up_s]
      refine ⟨k2, k3, ⟨gn, k4, fun p hp => ?_⟩, ⟨gt, k6, fun p hp => ?_⟩⟩
      · rw [pu_up_i hp]
        try dsimp only
        split
        · exact k5 p hp
        · rw [k5 p hp]
          exact (hq p hp).2.2 (by omega)
      · rw [pu_up_i hp]
        try dsimp only
        split
        · rename_i hs
          rw [k7 p hp, (hq p hp).2.1 hs]
          exact ⟨rfl, trivial⟩
        · exact ⟨(k7 p hp).trans (ca_eup2 (hq p hp).1).symm, (hq p hp).1.mono (Nat.le_refl _) (by omega)⟩
    · rw [va_up_n _ _ e, va_up_n _ _ e, va_up_n _ _ e]
      obtain ⟨n1, n2, ⟨gn', n3, n4⟩, ⟨gt', n5, n6⟩⟩ := hc r (by omega)
      have := h5 r (by omega)
      refine ⟨n1, n2, ⟨gn', n3, fun p hp => ?_⟩, ⟨gt', n5, fun p hp => ?_⟩⟩
      · rw [pu_up_o (by omega)]
        exact n4 p hp
      · rw [pu_up_o (by omega)]
        exact ⟨(n6 p hp).1.trans (ca_eup2 (n6 p hp).2).symm, (n6 p hp).2.mono (Nat.le_refl _) (by omega)⟩
  · unfold cIN
    rw [e2]
    refine ⟨hi.1, fun r r' hr hr' e => ?_⟩
    by_cases a1 : r = κ
    · by_cases b1 : r' = κ
      · omega
      · rw [a1, va_up_s, va_up_n _ _ b1] at e
        exact absurd e.symm (hf r' (by omega))
    · by_cases b1 : r' = κ
      · rw [b1, va_up_s, va_up_n _ _ a1] at e
        exact absurd e (hf r (by omega))
      · rw [va_up_n _ _ a1, va_up_n _ _ b1] at e
        exact hi.2 r r' (by omega) (by omega) e
end DRF
theorem rg_lxx {y : Int64} {n : Nat} (h1 : ¬ y < 0) (h2 : y < (nI n).toInt64) (hn : n < 2 ^ 31) : ∃ i : Nat, i < n ∧ y = lN i := by
  rw [nI_l hn, Int64.lt_iff_toInt_lt, lN_toInt (by omega)] at h2
  rw [Int64.lt_iff_toInt_lt, show (0 : Int64).toInt = 0 by decide] at h1
  refine ⟨y.toInt.toNat, by omega, ?_⟩
  apply Int64.toInt_inj.mp
  rw [lN_toInt (by omega)]
  omega
theorem rg_nxx {y : Int64} {n : Nat} (hn : n < 2 ^ 31) (h : y < 0 ∨ ¬ y < (nI n).toInt64) : ¬ ∃ i : Nat, i < n ∧ y = lN i := by
  rintro ⟨i, hi, rfl⟩
  rcases h with h | h
  · rw [Int64.lt_iff_toInt_lt, lN_toInt (by omega), show (0 : Int64).toInt = 0 by decide] at h
    omega
  · rw [nI_l hn, Int64.lt_iff_toInt_lt, lN_toInt (by omega), lN_toInt (by omega)] at h
    omega
theorem rg_i32 {y : Int64} : y = y.toInt32.toInt64 ↔ ((-2147483648 : Int64) ≤ y ∧ y ≤ 2147483647) := by
  rw [Int64.le_iff_toInt_le, Int64.le_iff_toInt_le, show (-2147483648 : Int64).toInt = -2147483648 by decide, show (2147483647 : Int64).toInt = 2147483647 by decide]
  constructor
  · intro h
    have h1 := congrArg Int64.toInt h
    rw [Int32.toInt_toInt64] at h1
    have h2 := Int32.le_toInt y.toInt32
    have h3 := Int32.toInt_lt y.toInt32
    omega
  · intro h
    apply Int64.toInt_inj.mp
    rw [Int32.toInt_toInt64, Int64.toInt_toInt32]
    exact (Int.bmod_eq_of_le (by omega) (by omega)).symm

set_option maxHeartbeats 4000000 in
set_option maxRecDepth 100000 in
theorem cC_Rec_init (l : Launch) (D : va_G) (t : Nat → ClassId) (A : Nat → Prop) (f : rl_M) (z : Nat) (x : Nat) (T : Nat → Nat → Nat) (ρ κ : Nat) (G : pG) (E : Nat → Nat → Nat) (gx : Nat → Int32) (mo : Int32) (hI : CJ t f x T ρ κ G E gx mo) (a j : Nat) (hj : j < 12) (h0 : f a = some (.inr (6, [.null, .null, .null]))) : rl_Met l yX6_init (.code yX6_init cX6_init 2 none) (rl_rm 2 2 10) D t A f z [.ref (a), .ref (x + 16 + 3 * j)] (rl_pv fun f1 z1 d1 => f1 a = some (.inr (6, [.ref (x + 16 + 3 * j), .ref z, .ref (z + 1)])) ∧ f1 z = some (.inl (t 1, T 2 j, .inr (.inl (fun _ => 0)))) ∧ f1 (z + 1) = some (.inl (t 3, T 2 j, .inr (.inr (.inr (.inr (fun _ => none)))))) ∧ (∀ q e, f q = some e → q ≠ a → f1 q = some e) ∧ z1 = z + 2 ∧ d1 ≤ 10) := by
  refine rl_begin (own := RX6) (lv := [(0, .ref (a)), (1, .ref (x + 16 + 3 * j))]) (by decide +kernel) rfl (Nat.le_of_ble_eq_true rfl) rfl fun p e s m0 args below meth c ls H locs hC hr hlk hnm hW hl hx hb => ?_
  have hW0 := hW
  have hzx : x + 58 ≤ z := by obtain ⟨-, -, -, -, -, -, ⟨-, -, ⟨g9, e9⟩⟩, -⟩ := id hI; exact hW.lt e9
  obtain ⟨hrv, hj5, -⟩ := id (hI.2.2.1 j hj)
  have hfz := hW.fresh
  have hne := rl_ne0 h0 hfz
  have hnr : x + 16 + 3 * j ≠ a := rl_ne hrv h0 (by simp)
  have haz : a < z := hW.lt h0
  refine lv_aload_n hx hb dX6_init_0 rfl (lv_at hl 0 rfl) ?_
  refine rl_callvQ (rl_runI (b := a) (As := []) (rest := []) hC hW (cC_Thing_init l D t A _ z a) cs_X6_3 im_X10_init rfl ⟨(Nat.le_of_ble_eq_true rfl), (Nat.le_of_ble_eq_true rfl)⟩ rfl hl.1 rfl (Nat.le_of_ble_eq_true rfl) dX6_init_1 ⟨by simp only [rl_rm]; omega, by simp only [rl_rm]; omega⟩) hW (fun f1 H locs hp hW => ?_)
  obtain rfl := hp
  refine lv_aload_n hx hb dX6_init_4 rfl (lv_at hl 0 rfl) ?_
  refine lv_aload_n hx hb dX6_init_5 rfl (lv_at hl 1 rfl) ?_
  refine rl_putF (v := .ref (x + 16 + 3 * j)) hC hW fp_X6_9 hnm h0 (Nat.le_of_ble_eq_true rfl) rfl rfl dX6_init_6 (fun H locs hW => ?_)
  replace hW : rl_W D A (rl_up _ a (.inr (6, [.ref (x + 16 + 3 * j), .null, .null]))) z s.heap H locs := hW
  have hr1 := (rl_up_n (f := f) (e := .inr (6, [.ref (x + 16 + 3 * j), .null, .null])) hnr).trans hrv
  refine lv_aload_n hx hb dX6_init_9 rfl (lv_at hl 0 rfl) ?_
  refine lv_aload_n hx hb dX6_init_10 rfl (lv_at hl 1 rfl) ?_
  refine rl_get (v := .int (nI (T 2 j))) hC hW fl_X6_15 hr1 rfl dX6_init_11 ?_
  refine rl_newl (N' := T 2 j) hC hW mw_122 (nI_pos (by omega)) (nI_clamp (by omega)) (by omega) (by simp only [rl_rm]; omega) (by simp only [rl_rm]; omega) dX6_init_14 (fun H hW => ?_)
  refine rl_putF (v := .ref (z)) hC hW fp_X6_21 hnm ((rl_up_n hne).trans (rl_up_s _ _ _)) (Nat.le_of_ble_eq_true rfl) rfl rfl dX6_init_16 (fun H locs hW => ?_)
  replace hW : rl_W D A (rl_up _ a (.inr (6, [.ref (x + 16 + 3 * j), .ref z, .null]))) (z + 1) s.heap H locs := hW
  have hr2 := (rl_up_n (f := rl_up (rl_up f a (.inr (6, [.ref (x + 16 + 3 * j), .null, .null]))) z (.inl (t 1, T 2 j, .inr (.inl (fun _ => 0))))) (e := .inr (6, [.ref (x + 16 + 3 * j), .ref z, .null])) hnr).trans ((rl_up_n (by omega)).trans hr1)
  refine lv_aload_n hx hb dX6_init_19 rfl (lv_at hl 0 rfl) ?_
  refine lv_aload_n hx hb dX6_init_20 rfl (lv_at hl 1 rfl) ?_
  refine rl_get (v := .int (nI (T 2 j))) hC hW fl_X6_15 hr2 rfl dX6_init_21 ?_
  refine rl_newq 3 (N' := T 2 j) hC hW rfl mw_344 mt_98 (nI_pos (by omega)) (nI_clamp (by omega)) (by omega) (by simp only [rl_rm]; omega) (by simp only [rl_rm]; omega) dX6_init_24 (fun H hW => ?_)
  refine rl_putF (v := .ref (z + 1)) hC hW fp_X6_25 hnm ((rl_up_n (by omega)).trans (rl_up_s _ _ _)) (Nat.le_of_ble_eq_true rfl) rfl rfl dX6_init_27 (fun H locs hW => ?_)
  replace hW : rl_W D A (rl_up _ a (.inr (6, [.ref (x + 16 + 3 * j), .ref z, .ref (z + 1)]))) (z + 1 + 1) s.heap H locs := hW
  exact rl_vret hC hW hr hlk (by simp only [rl_rm]; omega) (by simp only [rl_rm]; omega) ⟨rfl, rl_up_s _ _ _, (by rw [rl_up_n (by omega), rl_up_n (by omega), rl_up_n (by omega)]; exact rl_up_s _ _ _), (by rw [rl_up_n (by omega)]; exact rl_up_s _ _ _), (fun q e hq hqa => by have := hW0.lt hq; rw [rl_up_n hqa, rl_up_n (by omega), rl_up_n hqa, rl_up_n (by omega), rl_up_n hqa]; exact hq), rfl, by omega⟩ dX6_init_30

def dr_N (T : Nat → Nat → Nat) (j p : Nat) (y : Int64) (N : Nat → Int64) : Nat → Int64 := if T 4 (5 * j + p) < 2 then vp_updL N p y else N
def dr_X (T : Nat → Nat → Nat) (j p : Nat) (h : pHd) (X : Nat → pHd) : Nat → pHd := if T 4 (5 * j + p) < 2 then X else va_up X p h

set_option maxHeartbeats 4000000 in
set_option maxRecDepth 100000 in
theorem cC_Rec_put (l : Launch) (D : va_G) (t : Nat → ClassId) (A : Nat → Prop) (f : rl_M) (z : Nat) (x : Nat) (T : Nat → Nat → Nat) (ρ κ : Nat) (G : pG) (E : Nat → Nat → Nat) (gx : Nat → Int32) (mo : Int32) (hI : CJ t f x T ρ κ G E gx mo) (hT : rt_ok T) (a j : Nat) (N : Nat → Int64) (X : Nat → pHd) (hD : cDR t f x T E a j N X) (hfr : ∀ r, r < κ → E 2 r ≠ a) (p0 : Nat) (hp0 : p0 < T 2 j) (y : Int64) (hd0 : pHd) (r0 : Option Nat) (er0 : r0 = ca E hd0) (hok0 : cok T ρ κ hd0) : rl_Met l yX6_put (.code yX6_put cX6_put 5 none) (rl_rm 1 0 0) D t A f z [.ref (a), .int (nI (p0)), .long (y), va_rf (r0)] (rl_qv z fun f1 => CJ t f1 x T ρ κ G E gx mo ∧ cDR t f1 x T E a j (dr_N T j p0 y N) (dr_X T j p0 hd0 X) ∧ rl_dr a f f1) := by
  refine rl_begin (own := RX6) (lv := [(0, .ref (a)), (1, .int (nI (p0))), (2, .long (y)), (4, va_rf (r0))]) (by decide +kernel) rfl (by cases r0 <;> exact Nat.le_of_ble_eq_true rfl) (by cases r0 <;> rfl) fun p e s m0 args below meth c ls H locs hC hr hlk hnm hW hl hx hb => ?_
  obtain ⟨hj, hxa, h0, ⟨gn, h1, hgnE⟩, ⟨gt, h2, hgtE⟩⟩ := id hD
  obtain ⟨hrv, hj5, hj2, ⟨gp, hpa, hpp⟩, ⟨gk, hka, hkk⟩⟩ := id (hI.2.2.1 j hj)
  have hs4 := (hT.2.2.1 j p0 hj hp0).2.1
  refine lv_aload_n hx hb dX6_put_0 rfl (lv_at hl 0 rfl) ?_
  refine lv_iload_n hx hb dX6_put_1 rfl (lv_at hl 1 rfl) ?_
  refine rl_calliQ (rl_runV (b := a) (As := [.int (nI (p0))]) (rest := []) hC hW (cC_isNumber l D t A _ z x T ρ κ G E _ _ hI a j _ _ p0 hj hp0 (by omega) h0) cs_X6_44 im_X6_isNumber sl_X6_isNumber h0 rfl ⟨(Nat.le_of_ble_eq_true rfl), (Nat.le_of_ble_eq_true rfl)⟩ rfl hl.1 rfl (Nat.le_of_ble_eq_true rfl) dX6_put_2 ⟨(Nat.le_of_ble_eq_true rfl), (Nat.le_of_ble_eq_true rfl)⟩) hW (fun r f1 H locs hp hW => ?_)
  obtain ⟨rfl, hp⟩ := hp
  rcases hp with ⟨rfl, hp⟩ | ⟨rfl, hp⟩
  · refine lv_if_eq (tgt := 18) hx hb dX6_put_5 (by decide) (fun c1 => ?_) (fun c1 => ?_)
    · exact absurd c1 (by decide)
    · refine lv_aload_n hx hb dX6_put_8 rfl (lv_at hl 0 rfl) ?_
      refine rl_get (v := .ref (a + 1)) hC hW fl_X6_21 h0 rfl dX6_put_9 ?_
      refine lv_iload_n hx hb dX6_put_12 rfl (lv_at hl 1 rfl) ?_
      refine lv_lload_n hx hb dX6_put_13 rfl (lv_at hl 2 rfl) ?_
      refine rl_last_n hC hW h1 (by omega) (by omega) dX6_put_14 (fun H locs hW => ?_)
      replace hI := CJ.drn (g2 := vp_updL gn p0 y) hI hxa hfr h1
      refine lv_goto (tgt := 26) hx hb dX6_put_15 (by decide) ?_
      exact rl_vret hC hW hr hlk (Nat.le_refl _) (Nat.le_refl _) ⟨rfl, rfl, rfl, hI, ⟨hj, hxa, by rw [rl_up_n (by omega)]; exact h0, ⟨_, rl_up_s _ _ _, fun p hp9 => by unfold dr_N; rw [if_pos hp]; unfold vp_updL; split; rfl; exact hgnE p hp9⟩, ⟨gt, by rw [rl_up_n (by omega)]; exact h2, fun p hp9 => by unfold dr_X; rw [if_pos hp]; exact hgtE p hp9⟩⟩, fun q e hq n1 n2 => by rw [rl_up_n n1]; exact hq⟩ dX6_put_26
  · have hnn : ¬ T 4 (5 * j + p0) < 2 := by omega
    refine lv_if_eq (tgt := 18) hx hb dX6_put_5 (by decide) (fun c1 => ?_) (fun c1 => ?_)
    · refine lv_aload_n hx hb dX6_put_18 rfl (lv_at hl 0 rfl) ?_
      refine rl_get (v := .ref (a + 2)) hC hW fl_X6_25 h0 rfl dX6_put_19 ?_
      refine lv_iload_n hx hb dX6_put_22 rfl (lv_at hl 1 rfl) ?_
      refine rl_aloadq hx hb dX6_put_23 (lv_at hl 3 rfl) ?_
      refine rl_astT (r := r0) hC hW h2 (fun q e => (hI.at hok0 (er0.symm.trans e)).1) (by omega) (by omega) dX6_put_25 (fun H locs hW => ?_)
      replace hI := CJ.drt (g2 := va_up gt p0 r0) hI hxa hfr h2
      exact rl_vret hC hW hr hlk (Nat.le_refl _) (Nat.le_refl _) ⟨rfl, rfl, rfl, hI, ⟨hj, hxa, by rw [rl_up_n (by omega)]; exact h0, ⟨gn, by rw [rl_up_n (by omega)]; exact h1, fun p hp9 => by unfold dr_N; rw [if_neg hnn]; exact hgnE p hp9⟩, ⟨_, rl_up_s _ _ _, fun p hp9 => by unfold dr_X; rw [if_neg hnn]; unfold va_up; split; exact er0; exact hgtE p hp9⟩⟩, fun q e hq n1 n2 => by rw [rl_up_n n2]; exact hq⟩ dX6_put_26
    · exact absurd rfl c1

set_option maxHeartbeats 4000000 in
set_option maxRecDepth 100000 in
theorem cC_isOfClass (l : Launch) (D : va_G) (t : Nat → ClassId) (A : Nat → Prop) (f : rl_M) (z : Nat) (x : Nat) (T : Nat → Nat → Nat) (ρ κ : Nat) (G : pG) (E : Nat → Nat → Nat) (gx : Nat → Int32) (mo : Int32) (hI : CJ t f x T ρ κ G E gx mo) (hT : rt_ok T) (hG : GW T ρ κ G) (a s0 : Nat) (pn po : Int32) (hs2 : 2 ≤ s0) (hs5 : s0 < 5) (hP : f a = some (.inr (4, [.int pn, .int (nI s0), .int po]))) (hd0 : pHd) (r0 : Option Nat) (er0 : r0 = ca E hd0) (hok0 : cok T ρ κ hd0) (hnn : hd0 ≠ none) : rl_Met l yX4_isOfClass (.code yX4_isOfClass cX4_isOfClass 2 (some FieldType.boolean)) (rl_rm 0 0 0) D t A f z [.ref (a), va_rf (r0)] (rl_qi z fun r f1 => f = f1 ∧ ((r = 1 ∧ hst s0 hd0) ∨ (r = 0 ∧ ¬ hst s0 hd0))) := by
  refine rl_begin (own := RX4) (lv := [(0, .ref (a)), (1, va_rf (r0))]) (by decide +kernel) rfl (by cases r0 <;> exact Nat.le_of_ble_eq_true rfl) (by cases r0 <;> rfl) fun p e s m0 args below meth c ls H locs hC hr hlk hnm hW hl hx hb => ?_
  have hs9 : s0 = 2 ∨ s0 = 3 ∨ s0 = 4 := by omega
  rcases hs9 with rfl | rfl | rfl
  · refine lv_aload_n hx hb dX4_isOfClass_0 rfl (lv_at hl 0 rfl) ?_
    refine rl_get (v := .int (nI (2))) hC hW fl_X4_15 hP rfl dX4_isOfClass_1 ?_
    refine lv_lookup (tgt := 32) hx hb dX4_isOfClass_4 (by decide) rfl (by decide) ?_
    rcases hok0.cases with hh | ⟨n0, hn0, hh⟩ | ⟨n0, hn0, hh⟩ | ⟨n0, hn0, hh⟩
    · obtain rfl : r0 = none := by rw [er0, hh]; rfl
      exact absurd hh hnn
    · obtain rfl : r0 = some (E 0 n0) := by rw [er0, hh]; rfl
      obtain ⟨hx58, h0, h1⟩ := hI.con hn0
      have hlo := (hT.2.2.2.2.2.1 n0 hn0.1).1
      refine lv_aload_n hx hb dX4_isOfClass_32 rfl (lv_at hl 1 rfl) ?_
      refine rl_instY hC hW h0 rfl mw_391 mt_997 dX4_isOfClass_33 ?_
      refine rl_topn (y := nI 1) (by decide) ?_
      exact rl_zret hC hW hr hlk rfl (Nat.le_refl _) (Nat.le_refl _) ⟨_, rfl, rfl, rfl, rfl, Or.inl ⟨by decide, by rw [hh]; exact rfl⟩⟩ dX4_isOfClass_36
    · obtain rfl : r0 = some (E 1 n0) := by rw [er0, hh]; rfl
      obtain ⟨hx58, h0, g, h1, hgi⟩ := hI.row hn0
      have hn8 := hG.1 n0 hn0
      refine lv_aload_n hx hb dX4_isOfClass_32 rfl (lv_at hl 1 rfl) ?_
      refine rl_instNo hC hW h0 rfl mw_391 (by decide) dX4_isOfClass_33 ?_
      refine rl_topn (y := nI 0) (by decide) ?_
      exact rl_zret hC hW hr hlk rfl (Nat.le_refl _) (Nat.le_refl _) ⟨_, rfl, rfl, rfl, rfl, Or.inr ⟨by decide, by rw [hh]; exact fun q => absurd (show 2 = 4 from q) (by decide)⟩⟩ dX4_isOfClass_36
    · obtain rfl : r0 = some (E 2 n0) := by rw [er0, hh]; rfl
      obtain ⟨hx58, h0, ⟨gn, h1, hgnv⟩, ⟨gt, h2, hgtv⟩⟩ := hI.rec hn0
      obtain ⟨hj, hnT, -⟩ := hG.2.1 n0 hn0
      obtain ⟨hrv, hj5, hj2, hpa, hka⟩ := id (hI.2.2.1 _ hj)
      refine lv_aload_n hx hb dX4_isOfClass_32 rfl (lv_at hl 1 rfl) ?_
      refine rl_instNo hC hW h0 rfl mw_391 (by decide) dX4_isOfClass_33 ?_
      refine rl_topn (y := nI 0) (by decide) ?_
      exact rl_zret hC hW hr hlk rfl (Nat.le_refl _) (Nat.le_refl _) ⟨_, rfl, rfl, rfl, rfl, Or.inr ⟨by decide, by rw [hh]; exact fun q => absurd (show 2 = 3 from q) (by decide)⟩⟩ dX4_isOfClass_36
  · refine lv_aload_n hx hb dX4_isOfClass_0 rfl (lv_at hl 0 rfl) ?_
    refine rl_get (v := .int (nI (3))) hC hW fl_X4_15 hP rfl dX4_isOfClass_1 ?_
    refine lv_lookup (tgt := 37) hx hb dX4_isOfClass_4 (by decide) rfl (by decide) ?_
    rcases hok0.cases with hh | ⟨n0, hn0, hh⟩ | ⟨n0, hn0, hh⟩ | ⟨n0, hn0, hh⟩
    · obtain rfl : r0 = none := by rw [er0, hh]; rfl
      exact absurd hh hnn
    · obtain rfl : r0 = some (E 0 n0) := by rw [er0, hh]; rfl
      obtain ⟨hx58, h0, h1⟩ := hI.con hn0
      have hlo := (hT.2.2.2.2.2.1 n0 hn0.1).1
      refine lv_aload_n hx hb dX4_isOfClass_37 rfl (lv_at hl 1 rfl) ?_
      refine rl_instNo hC hW h0 rfl mw_392 (by decide) dX4_isOfClass_38 ?_
      refine rl_topn (y := nI 0) (by decide) ?_
      exact rl_zret hC hW hr hlk rfl (Nat.le_refl _) (Nat.le_refl _) ⟨_, rfl, rfl, rfl, rfl, Or.inr ⟨by decide, by rw [hh]; exact fun q => absurd (show 3 = 2 from q) (by decide)⟩⟩ dX4_isOfClass_41
    · obtain rfl : r0 = some (E 1 n0) := by rw [er0, hh]; rfl
      obtain ⟨hx58, h0, g, h1, hgi⟩ := hI.row hn0
      have hn8 := hG.1 n0 hn0
      refine lv_aload_n hx hb dX4_isOfClass_37 rfl (lv_at hl 1 rfl) ?_
      refine rl_instNo hC hW h0 rfl mw_392 (by decide) dX4_isOfClass_38 ?_
      refine rl_topn (y := nI 0) (by decide) ?_
      exact rl_zret hC hW hr hlk rfl (Nat.le_refl _) (Nat.le_refl _) ⟨_, rfl, rfl, rfl, rfl, Or.inr ⟨by decide, by rw [hh]; exact fun q => absurd (show 3 = 4 from q) (by decide)⟩⟩ dX4_isOfClass_41
    · obtain rfl : r0 = some (E 2 n0) := by rw [er0, hh]; rfl
      obtain ⟨hx58, h0, ⟨gn, h1, hgnv⟩, ⟨gt, h2, hgtv⟩⟩ := hI.rec hn0
      obtain ⟨hj, hnT, -⟩ := hG.2.1 n0 hn0
      obtain ⟨hrv, hj5, hj2, hpa, hka⟩ := id (hI.2.2.1 _ hj)
      refine lv_aload_n hx hb dX4_isOfClass_37 rfl (lv_at hl 1 rfl) ?_
      refine rl_instY hC hW h0 rfl mw_392 mt_998 dX4_isOfClass_38 ?_
      refine rl_topn (y := nI 1) (by decide) ?_
      exact rl_zret hC hW hr hlk rfl (Nat.le_refl _) (Nat.le_refl _) ⟨_, rfl, rfl, rfl, rfl, Or.inl ⟨by decide, by rw [hh]; exact rfl⟩⟩ dX4_isOfClass_41
  · refine lv_aload_n hx hb dX4_isOfClass_0 rfl (lv_at hl 0 rfl) ?_
    refine rl_get (v := .int (nI (4))) hC hW fl_X4_15 hP rfl dX4_isOfClass_1 ?_
    refine lv_lookup (tgt := 42) hx hb dX4_isOfClass_4 (by decide) rfl (by decide) ?_
    rcases hok0.cases with hh | ⟨n0, hn0, hh⟩ | ⟨n0, hn0, hh⟩ | ⟨n0, hn0, hh⟩
    · obtain rfl : r0 = none := by rw [er0, hh]; rfl
      exact absurd hh hnn
    · obtain rfl : r0 = some (E 0 n0) := by rw [er0, hh]; rfl
      obtain ⟨hx58, h0, h1⟩ := hI.con hn0
      have hlo := (hT.2.2.2.2.2.1 n0 hn0.1).1
      refine lv_aload_n hx hb dX4_isOfClass_42 rfl (lv_at hl 1 rfl) ?_
      refine rl_instNo hC hW h0 rfl mw_393 (by decide) dX4_isOfClass_43 ?_
      refine rl_topn (y := nI 0) (by decide) ?_
      exact rl_zret hC hW hr hlk rfl (Nat.le_refl _) (Nat.le_refl _) ⟨_, rfl, rfl, rfl, rfl, Or.inr ⟨by decide, by rw [hh]; exact fun q => absurd (show 4 = 2 from q) (by decide)⟩⟩ dX4_isOfClass_46
    · obtain rfl : r0 = some (E 1 n0) := by rw [er0, hh]; rfl
      obtain ⟨hx58, h0, g, h1, hgi⟩ := hI.row hn0
      have hn8 := hG.1 n0 hn0
      refine lv_aload_n hx hb dX4_isOfClass_42 rfl (lv_at hl 1 rfl) ?_
      refine rl_instY hC hW h0 rfl mw_393 mt_996 dX4_isOfClass_43 ?_
      refine rl_topn (y := nI 1) (by decide) ?_
      exact rl_zret hC hW hr hlk rfl (Nat.le_refl _) (Nat.le_refl _) ⟨_, rfl, rfl, rfl, rfl, Or.inl ⟨by decide, by rw [hh]; exact rfl⟩⟩ dX4_isOfClass_46
    · obtain rfl : r0 = some (E 2 n0) := by rw [er0, hh]; rfl
      obtain ⟨hx58, h0, ⟨gn, h1, hgnv⟩, ⟨gt, h2, hgtv⟩⟩ := hI.rec hn0
      obtain ⟨hj, hnT, -⟩ := hG.2.1 n0 hn0
      obtain ⟨hrv, hj5, hj2, hpa, hka⟩ := id (hI.2.2.1 _ hj)
      refine lv_aload_n hx hb dX4_isOfClass_42 rfl (lv_at hl 1 rfl) ?_
      refine rl_instNo hC hW h0 rfl mw_393 (by decide) dX4_isOfClass_43 ?_
      refine rl_topn (y := nI 0) (by decide) ?_
      exact rl_zret hC hW hr hlk rfl (Nat.le_refl _) (Nat.le_refl _) ⟨_, rfl, rfl, rfl, rfl, Or.inr ⟨by decide, by rw [hh]; exact fun q => absurd (show 4 = 3 from q) (by decide)⟩⟩ dX4_isOfClass_46

set_option maxHeartbeats 4000000 in
set_option maxRecDepth 100000 in
theorem cC_whyNotTaken (l : Launch) (D : va_G) (t : Nat → ClassId) (A : Nat → Prop) (f : rl_M) (z : Nat) (x : Nat) (T : Nat → Nat → Nat) (ρ κ : Nat) (G : pG) (E : Nat → Nat → Nat) (gx : Nat → Int32) (mo : Int32) (hI : CJ t f x T ρ κ G E gx mo) (hT : rt_ok T) (hG : GW T ρ κ G) (a j p0 : Nat) (hj : j < 12) (hp0 : p0 < T 2 j) (o : Int32) (hP : f a = some (.inr (4, [.int (nI (T 3 (5 * j + p0))), .int (nI (T 4 (5 * j + p0))), .int o]))) (hof : rt_of (T 4 (5 * j + p0)) (T 8 (5 * j + p0)) o) (y : Int64) (hd0 : pHd) (r0 : Option Nat) (er0 : r0 = ca E hd0) (hok0 : cok T ρ κ hd0) : rl_Met l yX4_whyNotTaken (.code yX4_whyNotTaken cX4_whyNotTaken 5 (some FieldType.int)) (rl_rm 1 0 0) D t A f z [.ref (a), .long (y), va_rf (r0), .int (nI (j % 3))] (rl_qi z fun r f1 => f = f1 ∧ r = nI (pu_tk T G j p0 y hd0)) := by
  refine rl_begin (own := RX4) (lv := [(0, .ref (a)), (1, .long (y)), (3, va_rf (r0)), (4, .int (nI (j % 3)))]) (by decide +kernel) rfl (by cases r0 <;> exact Nat.le_of_ble_eq_true rfl) (by cases r0 <;> rfl) fun p e s m0 args below meth c ls H locs hC hr hlk hnm hW hl hx hb => ?_
  have hs4 := (hT.2.2.1 j p0 hj hp0).2.1
  have hs9 : T 4 (5 * j + p0) = 0 ∨ T 4 (5 * j + p0) = 1 ∨ T 4 (5 * j + p0) = 2 ∨ T 4 (5 * j + p0) = 3 ∨ T 4 (5 * j + p0) = 4 := by omega
  rcases hs9 with hs | hs | hs | hs | hs
  · rw [hs] at hP
    refine lv_aload_n hx hb dX4_whyNotTaken_0 rfl (lv_at hl 0 rfl) ?_
    refine rl_get (v := .int (nI (0))) hC hW fl_X4_15 hP rfl dX4_whyNotTaken_1 ?_
    refine lv_if_ne (tgt := 21) hx hb dX4_whyNotTaken_4 (by decide) (fun c_1 => ?_) (fun c_1 => ?_)
    · first | exact absurd c_1 (by decide) | exact absurd (by decide) c_1
    · refine lv_lload_n hx hb dX4_whyNotTaken_7 rfl (lv_at hl 1 rfl) ?_
      refine lv_lload_n hx hb dX4_whyNotTaken_8 rfl (lv_at hl 1 rfl) ?_
      refine lv_l2i hx hb dX4_whyNotTaken_9 rfl ?_
      refine lv_i2l hx hb dX4_whyNotTaken_10 rfl ?_
      refine W.lcmp hx hb dX4_whyNotTaken_11 ?_
      refine lv_if_ne (tgt := 19) hx hb dX4_whyNotTaken_12 (by decide) (fun ci => ?_) (fun ci => ?_)
      · refine lv_iconst (v := (nI (2))) hx hb dX4_whyNotTaken_19 (by decide) ?_
        exact rl_iret hC hW hr hlk (Nat.le_refl _) (Nat.le_refl _) ⟨_, rfl, rfl, rfl, rfl, by rw [tk_j hs (fun q => ci ((lg_cmp_eq _ _).mpr (rg_i32.mpr q)))]⟩ dX4_whyNotTaken_20
      · refine lv_iconst (v := (nI (0))) hx hb dX4_whyNotTaken_15 (by decide) ?_
        refine lv_goto (tgt := 20) hx hb dX4_whyNotTaken_16 (by decide) ?_
        exact rl_iret hC hW hr hlk (Nat.le_refl _) (Nat.le_refl _) ⟨_, rfl, rfl, rfl, rfl, by rw [tk_i hs (rg_i32.mp ((lg_cmp_eq _ _).mp ci))]⟩ dX4_whyNotTaken_20
  · rw [hs] at hP
    refine lv_aload_n hx hb dX4_whyNotTaken_0 rfl (lv_at hl 0 rfl) ?_
    refine rl_get (v := .int (nI (1))) hC hW fl_X4_15 hP rfl dX4_whyNotTaken_1 ?_
    refine lv_if_ne (tgt := 21) hx hb dX4_whyNotTaken_4 (by decide) (fun c_2 => ?_) (fun c_2 => ?_)
    · refine lv_aload_n hx hb dX4_whyNotTaken_21 rfl (lv_at hl 0 rfl) ?_
      refine rl_get (v := .int (nI (1))) hC hW fl_X4_15 hP rfl dX4_whyNotTaken_22 ?_
      refine lv_iconst (v := (nI (1))) hx hb dX4_whyNotTaken_25 (by decide) ?_
      refine lv_icmp_eq (tgt := 33) hx hb dX4_whyNotTaken_26 (by decide) (fun c_3 => ?_) (fun c_3 => ?_)
      · refine lv_iconst (v := (nI (0))) hx hb dX4_whyNotTaken_33 (by decide) ?_
        exact rl_iret hC hW hr hlk (Nat.le_refl _) (Nat.le_refl _) ⟨_, rfl, rfl, rfl, rfl, by rw [tk_l hs]⟩ dX4_whyNotTaken_34
      · first | exact absurd c_3 (by decide) | exact absurd (by decide) c_3
    · first | exact absurd c_2 (by decide) | exact absurd (by decide) c_2
  · rw [hs] at hP
    rcases hok0.cases with hh | ⟨n0, hn0, hh⟩ | ⟨n0, hn0, hh⟩ | ⟨n0, hn0, hh⟩
    · obtain rfl : r0 = none := by rw [er0, hh]; rfl
      refine lv_aload_n hx hb dX4_whyNotTaken_0 rfl (lv_at hl 0 rfl) ?_
      refine rl_get (v := .int (nI (2))) hC hW fl_X4_15 hP rfl dX4_whyNotTaken_1 ?_
      refine lv_if_ne (tgt := 21) hx hb dX4_whyNotTaken_4 (by decide) (fun c_4 => ?_) (fun c_4 => ?_)
      · refine lv_aload_n hx hb dX4_whyNotTaken_21 rfl (lv_at hl 0 rfl) ?_
        refine rl_get (v := .int (nI (2))) hC hW fl_X4_15 hP rfl dX4_whyNotTaken_22 ?_
        refine lv_iconst (v := (nI (1))) hx hb dX4_whyNotTaken_25 (by decide) ?_
        refine lv_icmp_eq (tgt := 33) hx hb dX4_whyNotTaken_26 (by decide) (fun c_5 => ?_) (fun c_5 => ?_)
        · first | exact absurd c_5 (by decide) | exact absurd (by decide) c_5
        · refine lv_aload_nN hx hb dX4_whyNotTaken_29 rfl (lv_at hl 2 rfl) ?_
          refine lv_ifnonnullN hx hb dX4_whyNotTaken_30 ?_
          refine lv_iconst (v := (nI (0))) hx hb dX4_whyNotTaken_33 (by decide) ?_
          exact rl_iret hC hW hr hlk (Nat.le_refl _) (Nat.le_refl _) ⟨_, rfl, rfl, rfl, rfl, by rw [hh, tk_n (by omega)]⟩ dX4_whyNotTaken_34
      · first | exact absurd c_4 (by decide) | exact absurd (by decide) c_4
    · obtain rfl : r0 = some (E 0 n0) := by rw [er0, hh]; rfl
      obtain ⟨hx58, h0, h1⟩ := hI.con hn0
      have hlo := (hT.2.2.2.2.2.1 n0 hn0.1).1
      have hnn : hd0 ≠ none := by rw [hh]; exact fun q => by cases q
      refine lv_aload_n hx hb dX4_whyNotTaken_0 rfl (lv_at hl 0 rfl) ?_
      refine rl_get (v := .int (nI (2))) hC hW fl_X4_15 hP rfl dX4_whyNotTaken_1 ?_
      refine lv_if_ne (tgt := 21) hx hb dX4_whyNotTaken_4 (by decide) (fun c_6 => ?_) (fun c_6 => ?_)
      · refine lv_aload_n hx hb dX4_whyNotTaken_21 rfl (lv_at hl 0 rfl) ?_
        refine rl_get (v := .int (nI (2))) hC hW fl_X4_15 hP rfl dX4_whyNotTaken_22 ?_
        refine lv_iconst (v := (nI (1))) hx hb dX4_whyNotTaken_25 (by decide) ?_
        refine lv_icmp_eq (tgt := 33) hx hb dX4_whyNotTaken_26 (by decide) (fun c_7 => ?_) (fun c_7 => ?_)
        · first | exact absurd c_7 (by decide) | exact absurd (by decide) c_7
        · refine lv_aload_n hx hb dX4_whyNotTaken_29 rfl (lv_at hl 2 rfl) ?_
          refine lv_ifnonnull (tgt := 35) hx hb dX4_whyNotTaken_30 (by decide) ?_
          refine lv_aload_n hx hb dX4_whyNotTaken_35 rfl (lv_at hl 0 rfl) ?_
          refine lv_aload_n hx hb dX4_whyNotTaken_36 rfl (lv_at hl 2 rfl) ?_
          refine rl_calliQ (rl_runV (b := a) (As := [.ref (E 0 n0)]) (rest := []) hC hW (cC_isOfClass l D t A _ z x T ρ κ G E _ _ hI hT hG a 2 _ _ (by decide) (by decide) hP hd0 (some (E 0 n0)) er0 hok0 hnn) cs_X4_21 im_X4_isOfClass sl_X4_isOfClass hP rfl ⟨(Nat.le_of_ble_eq_true rfl), (Nat.le_of_ble_eq_true rfl)⟩ rfl hl.1 rfl (Nat.le_of_ble_eq_true rfl) dX4_whyNotTaken_37 ⟨(Nat.le_of_ble_eq_true rfl), (Nat.le_of_ble_eq_true rfl)⟩) hW (fun r f1 H locs hp hW => ?_)
          obtain ⟨rfl, hp⟩ := hp
          rcases hp with ⟨rfl, hp⟩ | ⟨rfl, hp⟩
          · obtain ⟨ho, rfl⟩ := hof.1 hs
            refine lv_if_ne (tgt := 45) hx hb dX4_whyNotTaken_40 (by decide) (fun c_8 => ?_) (fun c_8 => ?_)
            · refine lv_aload_n hx hb dX4_whyNotTaken_45 rfl (lv_at hl 0 rfl) ?_
              refine rl_get (v := .int (nI (2))) hC hW fl_X4_15 hP rfl dX4_whyNotTaken_46 ?_
              refine lv_iconst (v := (nI (4))) hx hb dX4_whyNotTaken_49 (by decide) ?_
              refine lv_icmp_eq (tgt := 73) hx hb dX4_whyNotTaken_50 (by decide) (fun c_9 => ?_) (fun c_9 => ?_)
              · first | exact absurd c_9 (by decide) | exact absurd (by decide) c_9
              · refine lv_aload_n hx hb dX4_whyNotTaken_53 rfl (lv_at hl 2 rfl) ?_
                refine rl_calliQ (rl_runU (b := E 0 n0) (As := []) (rest := []) hC hW (cC_Constant_kind l D t A _ z _ _ _ _ _ hlo _ _ _ _ h0 h1) cu_X4_25_X1 h0 rfl ⟨(Nat.le_of_ble_eq_true rfl), (Nat.le_of_ble_eq_true rfl)⟩ rfl hl.1 rfl (Nat.le_of_ble_eq_true rfl) dX4_whyNotTaken_54 ⟨(Nat.le_of_ble_eq_true rfl), (Nat.le_of_ble_eq_true rfl)⟩) hW (fun r f1 H locs hp hW => ?_)
                obtain ⟨rfl, rfl⟩ := hp
                refine lv_aload_n hx hb dX4_whyNotTaken_57 rfl (lv_at hl 0 rfl) ?_
                refine rl_get (v := .int (nI (T 8 (5 * j + p0)))) hC hW fl_X4_18 hP rfl dX4_whyNotTaken_58 ?_
                refine lv_icmp_ne (tgt := 77) hx hb dX4_whyNotTaken_61 (by decide) (fun ck => ?_) (fun ck => ?_)
                · have hk9 : ¬ (n0 / 10 / 3) = T 8 (5 * j + p0) := fun q => ck (by rw [q])
                  refine lv_iconst (v := (nI (2))) hx hb dX4_whyNotTaken_77 (by decide) ?_
                  exact rl_iret hC hW hr hlk (Nat.le_refl _) (Nat.le_refl _) ⟨_, rfl, rfl, rfl, rfl, by rw [hh, tk_c hs, if_neg (by omega)]⟩ dX4_whyNotTaken_78
                · have hk9 := (nI_eq (a := n0 / 10 / 3) (b := T 8 (5 * j + p0)) (by omega) (by omega)).mp ck
                  refine lv_aload_n hx hb dX4_whyNotTaken_64 rfl (lv_at hl 2 rfl) ?_
                  refine rl_calliQ (rl_runU (b := E 0 n0) (As := []) (rest := []) hC hW (cC_Constant_version l D t A _ z _ _ _ _ _ hlo _ _ _ _ h0 h1) cu_X4_31_X1 h0 rfl ⟨(Nat.le_of_ble_eq_true rfl), (Nat.le_of_ble_eq_true rfl)⟩ rfl hl.1 rfl (Nat.le_of_ble_eq_true rfl) dX4_whyNotTaken_65 ⟨(Nat.le_of_ble_eq_true rfl), (Nat.le_of_ble_eq_true rfl)⟩) hW (fun r f1 H locs hp hW => ?_)
                  obtain ⟨rfl, rfl⟩ := hp
                  refine lv_iload hx hb dX4_whyNotTaken_68 (lv_at hl 3 rfl) ?_
                  refine lv_icmp_ne (tgt := 77) hx hb dX4_whyNotTaken_70 (by decide) (fun cv => ?_) (fun cv => ?_)
                  · have hv9 : ¬ (n0 / 10 % 3) = j % 3 := fun q => cv (by rw [q])
                    refine lv_iconst (v := (nI (2))) hx hb dX4_whyNotTaken_77 (by decide) ?_
                    exact rl_iret hC hW hr hlk (Nat.le_refl _) (Nat.le_refl _) ⟨_, rfl, rfl, rfl, rfl, by rw [hh, tk_c hs, if_neg (by omega)]⟩ dX4_whyNotTaken_78
                  · have hv9 := (nI_eq (a := n0 / 10 % 3) (b := j % 3) (by omega) (by omega)).mp cv
                    refine lv_iconst (v := (nI (0))) hx hb dX4_whyNotTaken_73 (by decide) ?_
                    refine lv_goto (tgt := 78) hx hb dX4_whyNotTaken_74 (by decide) ?_
                    exact rl_iret hC hW hr hlk (Nat.le_refl _) (Nat.le_refl _) ⟨_, rfl, rfl, rfl, rfl, by rw [hh, tk_c hs, if_pos (by omega)]⟩ dX4_whyNotTaken_78
            · first | exact absurd c_8 (by decide) | exact absurd (by decide) c_8
          · exact absurd (show hst 2 hd0 by rw [hh]; exact rfl) hp
      · first | exact absurd c_6 (by decide) | exact absurd (by decide) c_6
    · obtain rfl : r0 = some (E 1 n0) := by rw [er0, hh]; rfl
      obtain ⟨hx58, h0, g, h1, hgi⟩ := hI.row hn0
      have hn8 := hG.1 n0 hn0
      have hnn : hd0 ≠ none := by rw [hh]; exact fun q => by cases q
      refine lv_aload_n hx hb dX4_whyNotTaken_0 rfl (lv_at hl 0 rfl) ?_
      refine rl_get (v := .int (nI (2))) hC hW fl_X4_15 hP rfl dX4_whyNotTaken_1 ?_
      refine lv_if_ne (tgt := 21) hx hb dX4_whyNotTaken_4 (by decide) (fun c_10 => ?_) (fun c_10 => ?_)
      · refine lv_aload_n hx hb dX4_whyNotTaken_21 rfl (lv_at hl 0 rfl) ?_
        refine rl_get (v := .int (nI (2))) hC hW fl_X4_15 hP rfl dX4_whyNotTaken_22 ?_
        refine lv_iconst (v := (nI (1))) hx hb dX4_whyNotTaken_25 (by decide) ?_
        refine lv_icmp_eq (tgt := 33) hx hb dX4_whyNotTaken_26 (by decide) (fun c_11 => ?_) (fun c_11 => ?_)
        · first | exact absurd c_11 (by decide) | exact absurd (by decide) c_11
        · refine lv_aload_n hx hb dX4_whyNotTaken_29 rfl (lv_at hl 2 rfl) ?_
          refine lv_ifnonnull (tgt := 35) hx hb dX4_whyNotTaken_30 (by decide) ?_
          refine lv_aload_n hx hb dX4_whyNotTaken_35 rfl (lv_at hl 0 rfl) ?_
          refine lv_aload_n hx hb dX4_whyNotTaken_36 rfl (lv_at hl 2 rfl) ?_
          refine rl_calliQ (rl_runV (b := a) (As := [.ref (E 1 n0)]) (rest := []) hC hW (cC_isOfClass l D t A _ z x T ρ κ G E _ _ hI hT hG a 2 _ _ (by decide) (by decide) hP hd0 (some (E 1 n0)) er0 hok0 hnn) cs_X4_21 im_X4_isOfClass sl_X4_isOfClass hP rfl ⟨(Nat.le_of_ble_eq_true rfl), (Nat.le_of_ble_eq_true rfl)⟩ rfl hl.1 rfl (Nat.le_of_ble_eq_true rfl) dX4_whyNotTaken_37 ⟨(Nat.le_of_ble_eq_true rfl), (Nat.le_of_ble_eq_true rfl)⟩) hW (fun r f1 H locs hp hW => ?_)
          obtain ⟨rfl, hp⟩ := hp
          rcases hp with ⟨rfl, hp⟩ | ⟨rfl, hp⟩
          · exact absurd (show 2 = 4 by have h9 := hp; rw [hh] at h9; exact h9) (by decide)
          · refine lv_if_ne (tgt := 45) hx hb dX4_whyNotTaken_40 (by decide) (fun c_12 => ?_) (fun c_12 => ?_)
            · first | exact absurd c_12 (by decide) | exact absurd (by decide) c_12
            · refine lv_iconst (v := (nI (1))) hx hb dX4_whyNotTaken_43 (by decide) ?_
              exact rl_iret hC hW hr hlk (Nat.le_refl _) (Nat.le_refl _) ⟨_, rfl, rfl, rfl, rfl, by rw [hh, tk_rx (by omega) (by omega)]⟩ dX4_whyNotTaken_44
      · first | exact absurd c_10 (by decide) | exact absurd (by decide) c_10
    · obtain rfl : r0 = some (E 2 n0) := by rw [er0, hh]; rfl
      obtain ⟨hx58, h0, ⟨gn, h1, hgnv⟩, ⟨gt, h2, hgtv⟩⟩ := hI.rec hn0
      obtain ⟨hj, hnT, -⟩ := hG.2.1 n0 hn0
      obtain ⟨hrv, hj5, hj2, hpa, hka⟩ := id (hI.2.2.1 _ hj)
      have hnn : hd0 ≠ none := by rw [hh]; exact fun q => by cases q
      refine lv_aload_n hx hb dX4_whyNotTaken_0 rfl (lv_at hl 0 rfl) ?_
      refine rl_get (v := .int (nI (2))) hC hW fl_X4_15 hP rfl dX4_whyNotTaken_1 ?_
      refine lv_if_ne (tgt := 21) hx hb dX4_whyNotTaken_4 (by decide) (fun c_13 => ?_) (fun c_13 => ?_)
      · refine lv_aload_n hx hb dX4_whyNotTaken_21 rfl (lv_at hl 0 rfl) ?_
        refine rl_get (v := .int (nI (2))) hC hW fl_X4_15 hP rfl dX4_whyNotTaken_22 ?_
        refine lv_iconst (v := (nI (1))) hx hb dX4_whyNotTaken_25 (by decide) ?_
        refine lv_icmp_eq (tgt := 33) hx hb dX4_whyNotTaken_26 (by decide) (fun c_14 => ?_) (fun c_14 => ?_)
        · first | exact absurd c_14 (by decide) | exact absurd (by decide) c_14
        · refine lv_aload_n hx hb dX4_whyNotTaken_29 rfl (lv_at hl 2 rfl) ?_
          refine lv_ifnonnull (tgt := 35) hx hb dX4_whyNotTaken_30 (by decide) ?_
          refine lv_aload_n hx hb dX4_whyNotTaken_35 rfl (lv_at hl 0 rfl) ?_
          refine lv_aload_n hx hb dX4_whyNotTaken_36 rfl (lv_at hl 2 rfl) ?_
          refine rl_calliQ (rl_runV (b := a) (As := [.ref (E 2 n0)]) (rest := []) hC hW (cC_isOfClass l D t A _ z x T ρ κ G E _ _ hI hT hG a 2 _ _ (by decide) (by decide) hP hd0 (some (E 2 n0)) er0 hok0 hnn) cs_X4_21 im_X4_isOfClass sl_X4_isOfClass hP rfl ⟨(Nat.le_of_ble_eq_true rfl), (Nat.le_of_ble_eq_true rfl)⟩ rfl hl.1 rfl (Nat.le_of_ble_eq_true rfl) dX4_whyNotTaken_37 ⟨(Nat.le_of_ble_eq_true rfl), (Nat.le_of_ble_eq_true rfl)⟩) hW (fun r f1 H locs hp hW => ?_)
          obtain ⟨rfl, hp⟩ := hp
          rcases hp with ⟨rfl, hp⟩ | ⟨rfl, hp⟩
          · exact absurd (show 2 = 3 by have h9 := hp; rw [hh] at h9; exact h9) (by decide)
          · refine lv_if_ne (tgt := 45) hx hb dX4_whyNotTaken_40 (by decide) (fun c_15 => ?_) (fun c_15 => ?_)
            · first | exact absurd c_15 (by decide) | exact absurd (by decide) c_15
            · refine lv_iconst (v := (nI (1))) hx hb dX4_whyNotTaken_43 (by decide) ?_
              exact rl_iret hC hW hr hlk (Nat.le_refl _) (Nat.le_refl _) ⟨_, rfl, rfl, rfl, rfl, by rw [hh, tk_dx (by omega) (by omega)]⟩ dX4_whyNotTaken_44
      · first | exact absurd c_13 (by decide) | exact absurd (by decide) c_13
  · rw [hs] at hP
    rcases hok0.cases with hh | ⟨n0, hn0, hh⟩ | ⟨n0, hn0, hh⟩ | ⟨n0, hn0, hh⟩
    · obtain rfl : r0 = none := by rw [er0, hh]; rfl
      refine lv_aload_n hx hb dX4_whyNotTaken_0 rfl (lv_at hl 0 rfl) ?_
      refine rl_get (v := .int (nI (3))) hC hW fl_X4_15 hP rfl dX4_whyNotTaken_1 ?_
      refine lv_if_ne (tgt := 21) hx hb dX4_whyNotTaken_4 (by decide) (fun c_16 => ?_) (fun c_16 => ?_)
      · refine lv_aload_n hx hb dX4_whyNotTaken_21 rfl (lv_at hl 0 rfl) ?_
        refine rl_get (v := .int (nI (3))) hC hW fl_X4_15 hP rfl dX4_whyNotTaken_22 ?_
        refine lv_iconst (v := (nI (1))) hx hb dX4_whyNotTaken_25 (by decide) ?_
        refine lv_icmp_eq (tgt := 33) hx hb dX4_whyNotTaken_26 (by decide) (fun c_17 => ?_) (fun c_17 => ?_)
        · first | exact absurd c_17 (by decide) | exact absurd (by decide) c_17
        · refine lv_aload_nN hx hb dX4_whyNotTaken_29 rfl (lv_at hl 2 rfl) ?_
          refine lv_ifnonnullN hx hb dX4_whyNotTaken_30 ?_
          refine lv_iconst (v := (nI (0))) hx hb dX4_whyNotTaken_33 (by decide) ?_
          exact rl_iret hC hW hr hlk (Nat.le_refl _) (Nat.le_refl _) ⟨_, rfl, rfl, rfl, rfl, by rw [hh, tk_n (by omega)]⟩ dX4_whyNotTaken_34
      · first | exact absurd c_16 (by decide) | exact absurd (by decide) c_16
    · obtain rfl : r0 = some (E 0 n0) := by rw [er0, hh]; rfl
      obtain ⟨hx58, h0, h1⟩ := hI.con hn0
      have hlo := (hT.2.2.2.2.2.1 n0 hn0.1).1
      have hnn : hd0 ≠ none := by rw [hh]; exact fun q => by cases q
      refine lv_aload_n hx hb dX4_whyNotTaken_0 rfl (lv_at hl 0 rfl) ?_
      refine rl_get (v := .int (nI (3))) hC hW fl_X4_15 hP rfl dX4_whyNotTaken_1 ?_
      refine lv_if_ne (tgt := 21) hx hb dX4_whyNotTaken_4 (by decide) (fun c_18 => ?_) (fun c_18 => ?_)
      · refine lv_aload_n hx hb dX4_whyNotTaken_21 rfl (lv_at hl 0 rfl) ?_
        refine rl_get (v := .int (nI (3))) hC hW fl_X4_15 hP rfl dX4_whyNotTaken_22 ?_
        refine lv_iconst (v := (nI (1))) hx hb dX4_whyNotTaken_25 (by decide) ?_
        refine lv_icmp_eq (tgt := 33) hx hb dX4_whyNotTaken_26 (by decide) (fun c_19 => ?_) (fun c_19 => ?_)
        · first | exact absurd c_19 (by decide) | exact absurd (by decide) c_19
        · refine lv_aload_n hx hb dX4_whyNotTaken_29 rfl (lv_at hl 2 rfl) ?_
          refine lv_ifnonnull (tgt := 35) hx hb dX4_whyNotTaken_30 (by decide) ?_
          refine lv_aload_n hx hb dX4_whyNotTaken_35 rfl (lv_at hl 0 rfl) ?_
          refine lv_aload_n hx hb dX4_whyNotTaken_36 rfl (lv_at hl 2 rfl) ?_
          refine rl_calliQ (rl_runV (b := a) (As := [.ref (E 0 n0)]) (rest := []) hC hW (cC_isOfClass l D t A _ z x T ρ κ G E _ _ hI hT hG a 3 _ _ (by decide) (by decide) hP hd0 (some (E 0 n0)) er0 hok0 hnn) cs_X4_21 im_X4_isOfClass sl_X4_isOfClass hP rfl ⟨(Nat.le_of_ble_eq_true rfl), (Nat.le_of_ble_eq_true rfl)⟩ rfl hl.1 rfl (Nat.le_of_ble_eq_true rfl) dX4_whyNotTaken_37 ⟨(Nat.le_of_ble_eq_true rfl), (Nat.le_of_ble_eq_true rfl)⟩) hW (fun r f1 H locs hp hW => ?_)
          obtain ⟨rfl, hp⟩ := hp
          rcases hp with ⟨rfl, hp⟩ | ⟨rfl, hp⟩
          · exact absurd (show 3 = 2 by have h9 := hp; rw [hh] at h9; exact h9) (by decide)
          · refine lv_if_ne (tgt := 45) hx hb dX4_whyNotTaken_40 (by decide) (fun c_20 => ?_) (fun c_20 => ?_)
            · first | exact absurd c_20 (by decide) | exact absurd (by decide) c_20
            · refine lv_iconst (v := (nI (1))) hx hb dX4_whyNotTaken_43 (by decide) ?_
              exact rl_iret hC hW hr hlk (Nat.le_refl _) (Nat.le_refl _) ⟨_, rfl, rfl, rfl, rfl, by rw [hh, tk_cx (by omega) (by omega)]⟩ dX4_whyNotTaken_44
      · first | exact absurd c_18 (by decide) | exact absurd (by decide) c_18
    · obtain rfl : r0 = some (E 1 n0) := by rw [er0, hh]; rfl
      obtain ⟨hx58, h0, g, h1, hgi⟩ := hI.row hn0
      have hn8 := hG.1 n0 hn0
      have hnn : hd0 ≠ none := by rw [hh]; exact fun q => by cases q
      refine lv_aload_n hx hb dX4_whyNotTaken_0 rfl (lv_at hl 0 rfl) ?_
      refine rl_get (v := .int (nI (3))) hC hW fl_X4_15 hP rfl dX4_whyNotTaken_1 ?_
      refine lv_if_ne (tgt := 21) hx hb dX4_whyNotTaken_4 (by decide) (fun c_21 => ?_) (fun c_21 => ?_)
      · refine lv_aload_n hx hb dX4_whyNotTaken_21 rfl (lv_at hl 0 rfl) ?_
        refine rl_get (v := .int (nI (3))) hC hW fl_X4_15 hP rfl dX4_whyNotTaken_22 ?_
        refine lv_iconst (v := (nI (1))) hx hb dX4_whyNotTaken_25 (by decide) ?_
        refine lv_icmp_eq (tgt := 33) hx hb dX4_whyNotTaken_26 (by decide) (fun c_22 => ?_) (fun c_22 => ?_)
        · first | exact absurd c_22 (by decide) | exact absurd (by decide) c_22
        · refine lv_aload_n hx hb dX4_whyNotTaken_29 rfl (lv_at hl 2 rfl) ?_
          refine lv_ifnonnull (tgt := 35) hx hb dX4_whyNotTaken_30 (by decide) ?_
          refine lv_aload_n hx hb dX4_whyNotTaken_35 rfl (lv_at hl 0 rfl) ?_
          refine lv_aload_n hx hb dX4_whyNotTaken_36 rfl (lv_at hl 2 rfl) ?_
          refine rl_calliQ (rl_runV (b := a) (As := [.ref (E 1 n0)]) (rest := []) hC hW (cC_isOfClass l D t A _ z x T ρ κ G E _ _ hI hT hG a 3 _ _ (by decide) (by decide) hP hd0 (some (E 1 n0)) er0 hok0 hnn) cs_X4_21 im_X4_isOfClass sl_X4_isOfClass hP rfl ⟨(Nat.le_of_ble_eq_true rfl), (Nat.le_of_ble_eq_true rfl)⟩ rfl hl.1 rfl (Nat.le_of_ble_eq_true rfl) dX4_whyNotTaken_37 ⟨(Nat.le_of_ble_eq_true rfl), (Nat.le_of_ble_eq_true rfl)⟩) hW (fun r f1 H locs hp hW => ?_)
          obtain ⟨rfl, hp⟩ := hp
          rcases hp with ⟨rfl, hp⟩ | ⟨rfl, hp⟩
          · exact absurd (show 3 = 4 by have h9 := hp; rw [hh] at h9; exact h9) (by decide)
          · refine lv_if_ne (tgt := 45) hx hb dX4_whyNotTaken_40 (by decide) (fun c_23 => ?_) (fun c_23 => ?_)
            · first | exact absurd c_23 (by decide) | exact absurd (by decide) c_23
            · refine lv_iconst (v := (nI (1))) hx hb dX4_whyNotTaken_43 (by decide) ?_
              exact rl_iret hC hW hr hlk (Nat.le_refl _) (Nat.le_refl _) ⟨_, rfl, rfl, rfl, rfl, by rw [hh, tk_rx (by omega) (by omega)]⟩ dX4_whyNotTaken_44
      · first | exact absurd c_21 (by decide) | exact absurd (by decide) c_21
    · obtain rfl : r0 = some (E 2 n0) := by rw [er0, hh]; rfl
      obtain ⟨hx58, h0, ⟨gn, h1, hgnv⟩, ⟨gt, h2, hgtv⟩⟩ := hI.rec hn0
      obtain ⟨hj, hnT, -⟩ := hG.2.1 n0 hn0
      obtain ⟨hrv, hj5, hj2, hpa, hka⟩ := id (hI.2.2.1 _ hj)
      have hnn : hd0 ≠ none := by rw [hh]; exact fun q => by cases q
      refine lv_aload_n hx hb dX4_whyNotTaken_0 rfl (lv_at hl 0 rfl) ?_
      refine rl_get (v := .int (nI (3))) hC hW fl_X4_15 hP rfl dX4_whyNotTaken_1 ?_
      refine lv_if_ne (tgt := 21) hx hb dX4_whyNotTaken_4 (by decide) (fun c_24 => ?_) (fun c_24 => ?_)
      · refine lv_aload_n hx hb dX4_whyNotTaken_21 rfl (lv_at hl 0 rfl) ?_
        refine rl_get (v := .int (nI (3))) hC hW fl_X4_15 hP rfl dX4_whyNotTaken_22 ?_
        refine lv_iconst (v := (nI (1))) hx hb dX4_whyNotTaken_25 (by decide) ?_
        refine lv_icmp_eq (tgt := 33) hx hb dX4_whyNotTaken_26 (by decide) (fun c_25 => ?_) (fun c_25 => ?_)
        · first | exact absurd c_25 (by decide) | exact absurd (by decide) c_25
        · refine lv_aload_n hx hb dX4_whyNotTaken_29 rfl (lv_at hl 2 rfl) ?_
          refine lv_ifnonnull (tgt := 35) hx hb dX4_whyNotTaken_30 (by decide) ?_
          refine lv_aload_n hx hb dX4_whyNotTaken_35 rfl (lv_at hl 0 rfl) ?_
          refine lv_aload_n hx hb dX4_whyNotTaken_36 rfl (lv_at hl 2 rfl) ?_
          refine rl_calliQ (rl_runV (b := a) (As := [.ref (E 2 n0)]) (rest := []) hC hW (cC_isOfClass l D t A _ z x T ρ κ G E _ _ hI hT hG a 3 _ _ (by decide) (by decide) hP hd0 (some (E 2 n0)) er0 hok0 hnn) cs_X4_21 im_X4_isOfClass sl_X4_isOfClass hP rfl ⟨(Nat.le_of_ble_eq_true rfl), (Nat.le_of_ble_eq_true rfl)⟩ rfl hl.1 rfl (Nat.le_of_ble_eq_true rfl) dX4_whyNotTaken_37 ⟨(Nat.le_of_ble_eq_true rfl), (Nat.le_of_ble_eq_true rfl)⟩) hW (fun r f1 H locs hp hW => ?_)
          obtain ⟨rfl, hp⟩ := hp
          rcases hp with ⟨rfl, hp⟩ | ⟨rfl, hp⟩
          · obtain ⟨ho2, ho6, rfl⟩ := hof.2 hs
            refine lv_if_ne (tgt := 45) hx hb dX4_whyNotTaken_40 (by decide) (fun c_26 => ?_) (fun c_26 => ?_)
            · refine lv_aload_n hx hb dX4_whyNotTaken_45 rfl (lv_at hl 0 rfl) ?_
              refine rl_get (v := .int (nI (3))) hC hW fl_X4_15 hP rfl dX4_whyNotTaken_46 ?_
              refine lv_iconst (v := (nI (4))) hx hb dX4_whyNotTaken_49 (by decide) ?_
              refine lv_icmp_eq (tgt := 73) hx hb dX4_whyNotTaken_50 (by decide) (fun c_27 => ?_) (fun c_27 => ?_)
              · first | exact absurd c_27 (by decide) | exact absurd (by decide) c_27
              · refine lv_aload_n hx hb dX4_whyNotTaken_53 rfl (lv_at hl 2 rfl) ?_
                refine rl_calliQ (rl_runU (b := E 2 n0) (As := []) (rest := []) hC hW (cC_Rec_kind l D t A _ z _ _ _ _ _ _ _ gn gt _ _ _ _ h0 h1 hrv) cu_X4_25_X6 h0 rfl ⟨(Nat.le_of_ble_eq_true rfl), (Nat.le_of_ble_eq_true rfl)⟩ rfl hl.1 rfl (Nat.le_of_ble_eq_true rfl) dX4_whyNotTaken_54 ⟨(Nat.le_of_ble_eq_true rfl), (Nat.le_of_ble_eq_true rfl)⟩) hW (fun r f1 H locs hp hW => ?_)
                obtain ⟨rfl, rfl⟩ := hp
                refine lv_aload_n hx hb dX4_whyNotTaken_57 rfl (lv_at hl 0 rfl) ?_
                refine rl_get (v := .int (nI (T 8 (5 * j + p0)))) hC hW fl_X4_18 hP rfl dX4_whyNotTaken_58 ?_
                refine lv_icmp_ne (tgt := 77) hx hb dX4_whyNotTaken_61 (by decide) (fun ck => ?_) (fun ck => ?_)
                · have hk9 : ¬ (2 + G.1 1 n0 / 3) = T 8 (5 * j + p0) := fun q => ck (by rw [q])
                  refine lv_iconst (v := (nI (2))) hx hb dX4_whyNotTaken_77 (by decide) ?_
                  exact rl_iret hC hW hr hlk (Nat.le_refl _) (Nat.le_refl _) ⟨_, rfl, rfl, rfl, rfl, by rw [hh, tk_d hs, if_neg (by omega)]⟩ dX4_whyNotTaken_78
                · have hk9 := (nI_eq (a := 2 + G.1 1 n0 / 3) (b := T 8 (5 * j + p0)) (by omega) (by omega)).mp ck
                  refine lv_aload_n hx hb dX4_whyNotTaken_64 rfl (lv_at hl 2 rfl) ?_
                  refine rl_calliQ (rl_runU (b := E 2 n0) (As := []) (rest := []) hC hW (cC_Rec_version l D t A _ z _ _ _ _ _ _ _ gn gt _ _ _ _ h0 h1 hrv) cu_X4_31_X6 h0 rfl ⟨(Nat.le_of_ble_eq_true rfl), (Nat.le_of_ble_eq_true rfl)⟩ rfl hl.1 rfl (Nat.le_of_ble_eq_true rfl) dX4_whyNotTaken_65 ⟨(Nat.le_of_ble_eq_true rfl), (Nat.le_of_ble_eq_true rfl)⟩) hW (fun r f1 H locs hp hW => ?_)
                  obtain ⟨rfl, rfl⟩ := hp
                  refine lv_iload hx hb dX4_whyNotTaken_68 (lv_at hl 3 rfl) ?_
                  refine lv_icmp_ne (tgt := 77) hx hb dX4_whyNotTaken_70 (by decide) (fun cv => ?_) (fun cv => ?_)
                  · have hv9 : ¬ (G.1 1 n0 % 3) = j % 3 := fun q => cv (by rw [q])
                    refine lv_iconst (v := (nI (2))) hx hb dX4_whyNotTaken_77 (by decide) ?_
                    exact rl_iret hC hW hr hlk (Nat.le_refl _) (Nat.le_refl _) ⟨_, rfl, rfl, rfl, rfl, by rw [hh, tk_d hs, if_neg (by omega)]⟩ dX4_whyNotTaken_78
                  · have hv9 := (nI_eq (a := G.1 1 n0 % 3) (b := j % 3) (by omega) (by omega)).mp cv
                    refine lv_iconst (v := (nI (0))) hx hb dX4_whyNotTaken_73 (by decide) ?_
                    refine lv_goto (tgt := 78) hx hb dX4_whyNotTaken_74 (by decide) ?_
                    exact rl_iret hC hW hr hlk (Nat.le_refl _) (Nat.le_refl _) ⟨_, rfl, rfl, rfl, rfl, by rw [hh, tk_d hs, if_pos (by omega)]⟩ dX4_whyNotTaken_78
            · first | exact absurd c_26 (by decide) | exact absurd (by decide) c_26
          · exact absurd (show hst 3 hd0 by rw [hh]; exact rfl) hp
      · first | exact absurd c_24 (by decide) | exact absurd (by decide) c_24
  · rw [hs] at hP
    rcases hok0.cases with hh | ⟨n0, hn0, hh⟩ | ⟨n0, hn0, hh⟩ | ⟨n0, hn0, hh⟩
    · obtain rfl : r0 = none := by rw [er0, hh]; rfl
      refine lv_aload_n hx hb dX4_whyNotTaken_0 rfl (lv_at hl 0 rfl) ?_
      refine rl_get (v := .int (nI (4))) hC hW fl_X4_15 hP rfl dX4_whyNotTaken_1 ?_
      refine lv_if_ne (tgt := 21) hx hb dX4_whyNotTaken_4 (by decide) (fun c_28 => ?_) (fun c_28 => ?_)
      · refine lv_aload_n hx hb dX4_whyNotTaken_21 rfl (lv_at hl 0 rfl) ?_
        refine rl_get (v := .int (nI (4))) hC hW fl_X4_15 hP rfl dX4_whyNotTaken_22 ?_
        refine lv_iconst (v := (nI (1))) hx hb dX4_whyNotTaken_25 (by decide) ?_
        refine lv_icmp_eq (tgt := 33) hx hb dX4_whyNotTaken_26 (by decide) (fun c_29 => ?_) (fun c_29 => ?_)
        · first | exact absurd c_29 (by decide) | exact absurd (by decide) c_29
        · refine lv_aload_nN hx hb dX4_whyNotTaken_29 rfl (lv_at hl 2 rfl) ?_
          refine lv_ifnonnullN hx hb dX4_whyNotTaken_30 ?_
          refine lv_iconst (v := (nI (0))) hx hb dX4_whyNotTaken_33 (by decide) ?_
          exact rl_iret hC hW hr hlk (Nat.le_refl _) (Nat.le_refl _) ⟨_, rfl, rfl, rfl, rfl, by rw [hh, tk_n (by omega)]⟩ dX4_whyNotTaken_34
      · first | exact absurd c_28 (by decide) | exact absurd (by decide) c_28
    · obtain rfl : r0 = some (E 0 n0) := by rw [er0, hh]; rfl
      obtain ⟨hx58, h0, h1⟩ := hI.con hn0
      have hlo := (hT.2.2.2.2.2.1 n0 hn0.1).1
      have hnn : hd0 ≠ none := by rw [hh]; exact fun q => by cases q
      refine lv_aload_n hx hb dX4_whyNotTaken_0 rfl (lv_at hl 0 rfl) ?_
      refine rl_get (v := .int (nI (4))) hC hW fl_X4_15 hP rfl dX4_whyNotTaken_1 ?_
      refine lv_if_ne (tgt := 21) hx hb dX4_whyNotTaken_4 (by decide) (fun c_30 => ?_) (fun c_30 => ?_)
      · refine lv_aload_n hx hb dX4_whyNotTaken_21 rfl (lv_at hl 0 rfl) ?_
        refine rl_get (v := .int (nI (4))) hC hW fl_X4_15 hP rfl dX4_whyNotTaken_22 ?_
        refine lv_iconst (v := (nI (1))) hx hb dX4_whyNotTaken_25 (by decide) ?_
        refine lv_icmp_eq (tgt := 33) hx hb dX4_whyNotTaken_26 (by decide) (fun c_31 => ?_) (fun c_31 => ?_)
        · first | exact absurd c_31 (by decide) | exact absurd (by decide) c_31
        · refine lv_aload_n hx hb dX4_whyNotTaken_29 rfl (lv_at hl 2 rfl) ?_
          refine lv_ifnonnull (tgt := 35) hx hb dX4_whyNotTaken_30 (by decide) ?_
          refine lv_aload_n hx hb dX4_whyNotTaken_35 rfl (lv_at hl 0 rfl) ?_
          refine lv_aload_n hx hb dX4_whyNotTaken_36 rfl (lv_at hl 2 rfl) ?_
          refine rl_calliQ (rl_runV (b := a) (As := [.ref (E 0 n0)]) (rest := []) hC hW (cC_isOfClass l D t A _ z x T ρ κ G E _ _ hI hT hG a 4 _ _ (by decide) (by decide) hP hd0 (some (E 0 n0)) er0 hok0 hnn) cs_X4_21 im_X4_isOfClass sl_X4_isOfClass hP rfl ⟨(Nat.le_of_ble_eq_true rfl), (Nat.le_of_ble_eq_true rfl)⟩ rfl hl.1 rfl (Nat.le_of_ble_eq_true rfl) dX4_whyNotTaken_37 ⟨(Nat.le_of_ble_eq_true rfl), (Nat.le_of_ble_eq_true rfl)⟩) hW (fun r f1 H locs hp hW => ?_)
          obtain ⟨rfl, hp⟩ := hp
          rcases hp with ⟨rfl, hp⟩ | ⟨rfl, hp⟩
          · exact absurd (show 4 = 2 by have h9 := hp; rw [hh] at h9; exact h9) (by decide)
          · refine lv_if_ne (tgt := 45) hx hb dX4_whyNotTaken_40 (by decide) (fun c_32 => ?_) (fun c_32 => ?_)
            · first | exact absurd c_32 (by decide) | exact absurd (by decide) c_32
            · refine lv_iconst (v := (nI (1))) hx hb dX4_whyNotTaken_43 (by decide) ?_
              exact rl_iret hC hW hr hlk (Nat.le_refl _) (Nat.le_refl _) ⟨_, rfl, rfl, rfl, rfl, by rw [hh, tk_cx (by omega) (by omega)]⟩ dX4_whyNotTaken_44
      · first | exact absurd c_30 (by decide) | exact absurd (by decide) c_30
    · obtain rfl : r0 = some (E 1 n0) := by rw [er0, hh]; rfl
      obtain ⟨hx58, h0, g, h1, hgi⟩ := hI.row hn0
      have hn8 := hG.1 n0 hn0
      have hnn : hd0 ≠ none := by rw [hh]; exact fun q => by cases q
      refine lv_aload_n hx hb dX4_whyNotTaken_0 rfl (lv_at hl 0 rfl) ?_
      refine rl_get (v := .int (nI (4))) hC hW fl_X4_15 hP rfl dX4_whyNotTaken_1 ?_
      refine lv_if_ne (tgt := 21) hx hb dX4_whyNotTaken_4 (by decide) (fun c_33 => ?_) (fun c_33 => ?_)
      · refine lv_aload_n hx hb dX4_whyNotTaken_21 rfl (lv_at hl 0 rfl) ?_
        refine rl_get (v := .int (nI (4))) hC hW fl_X4_15 hP rfl dX4_whyNotTaken_22 ?_
        refine lv_iconst (v := (nI (1))) hx hb dX4_whyNotTaken_25 (by decide) ?_
        refine lv_icmp_eq (tgt := 33) hx hb dX4_whyNotTaken_26 (by decide) (fun c_34 => ?_) (fun c_34 => ?_)
        · first | exact absurd c_34 (by decide) | exact absurd (by decide) c_34
        · refine lv_aload_n hx hb dX4_whyNotTaken_29 rfl (lv_at hl 2 rfl) ?_
          refine lv_ifnonnull (tgt := 35) hx hb dX4_whyNotTaken_30 (by decide) ?_
          refine lv_aload_n hx hb dX4_whyNotTaken_35 rfl (lv_at hl 0 rfl) ?_
          refine lv_aload_n hx hb dX4_whyNotTaken_36 rfl (lv_at hl 2 rfl) ?_
          refine rl_calliQ (rl_runV (b := a) (As := [.ref (E 1 n0)]) (rest := []) hC hW (cC_isOfClass l D t A _ z x T ρ κ G E _ _ hI hT hG a 4 _ _ (by decide) (by decide) hP hd0 (some (E 1 n0)) er0 hok0 hnn) cs_X4_21 im_X4_isOfClass sl_X4_isOfClass hP rfl ⟨(Nat.le_of_ble_eq_true rfl), (Nat.le_of_ble_eq_true rfl)⟩ rfl hl.1 rfl (Nat.le_of_ble_eq_true rfl) dX4_whyNotTaken_37 ⟨(Nat.le_of_ble_eq_true rfl), (Nat.le_of_ble_eq_true rfl)⟩) hW (fun r f1 H locs hp hW => ?_)
          obtain ⟨rfl, hp⟩ := hp
          rcases hp with ⟨rfl, hp⟩ | ⟨rfl, hp⟩
          · refine lv_if_ne (tgt := 45) hx hb dX4_whyNotTaken_40 (by decide) (fun c_35 => ?_) (fun c_35 => ?_)
            · refine lv_aload_n hx hb dX4_whyNotTaken_45 rfl (lv_at hl 0 rfl) ?_
              refine rl_get (v := .int (nI (4))) hC hW fl_X4_15 hP rfl dX4_whyNotTaken_46 ?_
              refine lv_iconst (v := (nI (4))) hx hb dX4_whyNotTaken_49 (by decide) ?_
              refine lv_icmp_eq (tgt := 73) hx hb dX4_whyNotTaken_50 (by decide) (fun c_36 => ?_) (fun c_36 => ?_)
              · refine lv_iconst (v := (nI (0))) hx hb dX4_whyNotTaken_73 (by decide) ?_
                refine lv_goto (tgt := 78) hx hb dX4_whyNotTaken_74 (by decide) ?_
                exact rl_iret hC hW hr hlk (Nat.le_refl _) (Nat.le_refl _) ⟨_, rfl, rfl, rfl, rfl, by rw [hh, tk_r hs]⟩ dX4_whyNotTaken_78
              · first | exact absurd c_36 (by decide) | exact absurd (by decide) c_36
            · first | exact absurd c_35 (by decide) | exact absurd (by decide) c_35
          · exact absurd (show hst 4 hd0 by rw [hh]; exact rfl) hp
      · first | exact absurd c_33 (by decide) | exact absurd (by decide) c_33
    · obtain rfl : r0 = some (E 2 n0) := by rw [er0, hh]; rfl
      obtain ⟨hx58, h0, ⟨gn, h1, hgnv⟩, ⟨gt, h2, hgtv⟩⟩ := hI.rec hn0
      obtain ⟨hj, hnT, -⟩ := hG.2.1 n0 hn0
      obtain ⟨hrv, hj5, hj2, hpa, hka⟩ := id (hI.2.2.1 _ hj)
      have hnn : hd0 ≠ none := by rw [hh]; exact fun q => by cases q
      refine lv_aload_n hx hb dX4_whyNotTaken_0 rfl (lv_at hl 0 rfl) ?_
      refine rl_get (v := .int (nI (4))) hC hW fl_X4_15 hP rfl dX4_whyNotTaken_1 ?_
      refine lv_if_ne (tgt := 21) hx hb dX4_whyNotTaken_4 (by decide) (fun c_37 => ?_) (fun c_37 => ?_)
      · refine lv_aload_n hx hb dX4_whyNotTaken_21 rfl (lv_at hl 0 rfl) ?_
        refine rl_get (v := .int (nI (4))) hC hW fl_X4_15 hP rfl dX4_whyNotTaken_22 ?_
        refine lv_iconst (v := (nI (1))) hx hb dX4_whyNotTaken_25 (by decide) ?_
        refine lv_icmp_eq (tgt := 33) hx hb dX4_whyNotTaken_26 (by decide) (fun c_38 => ?_) (fun c_38 => ?_)
        · first | exact absurd c_38 (by decide) | exact absurd (by decide) c_38
        · refine lv_aload_n hx hb dX4_whyNotTaken_29 rfl (lv_at hl 2 rfl) ?_
          refine lv_ifnonnull (tgt := 35) hx hb dX4_whyNotTaken_30 (by decide) ?_
          refine lv_aload_n hx hb dX4_whyNotTaken_35 rfl (lv_at hl 0 rfl) ?_
          refine lv_aload_n hx hb dX4_whyNotTaken_36 rfl (lv_at hl 2 rfl) ?_
          refine rl_calliQ (rl_runV (b := a) (As := [.ref (E 2 n0)]) (rest := []) hC hW (cC_isOfClass l D t A _ z x T ρ κ G E _ _ hI hT hG a 4 _ _ (by decide) (by decide) hP hd0 (some (E 2 n0)) er0 hok0 hnn) cs_X4_21 im_X4_isOfClass sl_X4_isOfClass hP rfl ⟨(Nat.le_of_ble_eq_true rfl), (Nat.le_of_ble_eq_true rfl)⟩ rfl hl.1 rfl (Nat.le_of_ble_eq_true rfl) dX4_whyNotTaken_37 ⟨(Nat.le_of_ble_eq_true rfl), (Nat.le_of_ble_eq_true rfl)⟩) hW (fun r f1 H locs hp hW => ?_)
          obtain ⟨rfl, hp⟩ := hp
          rcases hp with ⟨rfl, hp⟩ | ⟨rfl, hp⟩
          · exact absurd (show 4 = 3 by have h9 := hp; rw [hh] at h9; exact h9) (by decide)
          · refine lv_if_ne (tgt := 45) hx hb dX4_whyNotTaken_40 (by decide) (fun c_39 => ?_) (fun c_39 => ?_)
            · first | exact absurd c_39 (by decide) | exact absurd (by decide) c_39
            · refine lv_iconst (v := (nI (1))) hx hb dX4_whyNotTaken_43 (by decide) ?_
              exact rl_iret hC hW hr hlk (Nat.le_refl _) (Nat.le_refl _) ⟨_, rfl, rfl, rfl, rfl, by rw [hh, tk_dx (by omega) (by omega)]⟩ dX4_whyNotTaken_44
      · first | exact absurd c_37 (by decide) | exact absurd (by decide) c_37

set_option maxHeartbeats 4000000 in
set_option maxRecDepth 100000 in
theorem cC_ownUnless (l : Launch) (D : va_G) (t : Nat → ClassId) (A : Nat → Prop) (f : rl_M) (z : Nat) (yb : Nat) (hyb : yb < 2) : rl_Met l yX0_ownUnless (.code yX0_ownUnless cX0_ownUnless 1 (some FieldType.int)) (rl_rm 0 0 0) D t A f z [.int (nI (yb))] (rl_qi z fun r f1 => f = f1 ∧ r = nI (2 - 2 * yb)) := by
  refine rl_begin (own := RX0) (lv := [(0, .int (nI (yb)))]) (by decide +kernel) rfl (Nat.le_of_ble_eq_true rfl) rfl fun p e s m0 args below meth c ls H locs hC hr hlk hnm hW hl hx hb => ?_
  have hyc : yb = 0 ∨ yb = 1 := by omega
  rcases hyc with rfl | rfl
  · refine lv_iload_n hx hb dX0_ownUnless_0 rfl (lv_at hl 0 rfl) ?_
    refine lv_if_eq (tgt := 8) hx hb dX0_ownUnless_1 (by decide) (fun c_1 => ?_) (fun c_1 => ?_)
    · refine lv_iconst (v := (nI (2))) hx hb dX0_ownUnless_8 (by decide) ?_
      exact rl_iret hC hW hr hlk (Nat.le_refl _) (Nat.le_refl _) ⟨_, rfl, rfl, rfl, rfl, by decide⟩ dX0_ownUnless_9
    · first | exact absurd c_1 (by decide) | exact absurd (by decide) c_1
  · refine lv_iload_n hx hb dX0_ownUnless_0 rfl (lv_at hl 0 rfl) ?_
    refine lv_if_eq (tgt := 8) hx hb dX0_ownUnless_1 (by decide) (fun c_2 => ?_) (fun c_2 => ?_)
    · first | exact absurd c_2 (by decide) | exact absurd (by decide) c_2
    · refine lv_iconst (v := (nI (0))) hx hb dX0_ownUnless_4 (by decide) ?_
      refine lv_goto (tgt := 9) hx hb dX0_ownUnless_5 (by decide) ?_
      exact rl_iret hC hW hr hlk (Nat.le_refl _) (Nat.le_refl _) ⟨_, rfl, rfl, rfl, rfl, by decide⟩ dX0_ownUnless_9

set_option maxHeartbeats 4000000 in
set_option maxRecDepth 100000 in
theorem cC_whyNotDivisor (l : Launch) (D : va_G) (t : Nat → ClassId) (A : Nat → Prop) (f : rl_M) (z : Nat) (y : Int64) : rl_Met l yX0_whyNotDivisor (.code yX0_whyNotDivisor cX0_whyNotDivisor 2 (some FieldType.int)) (rl_rm 1 0 0) D t A f z [.long (y)] (rl_qi z fun r f1 => f = f1 ∧ r = nI (if y = 0 then 5 else if (100 : Int64) - 100 / y * y = 0 then 0 else 2)) := by
  refine rl_begin (own := RX0) (lv := [(0, .long (y))]) (by decide +kernel) rfl (Nat.le_of_ble_eq_true rfl) rfl fun p e s m0 args below meth c ls H locs hC hr hlk hnm hW hl hx hb => ?_
  refine lv_lload_n hx hb dX0_whyNotDivisor_0 rfl (lv_at hl 0 rfl) ?_
  refine lv_lconst (v := 0) hx hb dX0_whyNotDivisor_1 (by decide) ?_
  refine W.lcmp hx hb dX0_whyNotDivisor_2 ?_
  refine lv_if_ne (tgt := 10) hx hb dX0_whyNotDivisor_3 (by decide) (fun c1 => ?_) (fun c1 => ?_)
  · have hnz : y ≠ 0 := fun q => c1 ((lg_cmp_eq _ _).mpr q)
    refine lv_ldc2 (v := 100) hx hb hC.2.2.2.1 (hC.2.2.2.2.1 _ (List.mem_cons_of_mem _ mw_428)) dX0_whyNotDivisor_10 ?_
    refine lv_lload_n hx hb dX0_whyNotDivisor_13 rfl (lv_at hl 0 rfl) ?_
    refine lv_lrem hx hb dX0_whyNotDivisor_14 hnz ?_
    refine lv_lconst (v := 0) hx hb dX0_whyNotDivisor_15 (by decide) ?_
    refine W.lcmp hx hb dX0_whyNotDivisor_16 ?_
    refine lv_if_ne (tgt := 24) hx hb dX0_whyNotDivisor_17 (by decide) (fun c2 => ?_) (fun c2 => ?_)
    · have h2 : ¬ (100 : Int64) - 100 / y * y = 0 := fun q => c2 ((lg_cmp_eq _ _).mpr q)
      refine lv_iconst (v := (nI (0))) hx hb dX0_whyNotDivisor_24 (by decide) ?_
      refine rl_calliQ (rl_runS (As := [.int (nI (0))]) (rest := []) hC hW (cC_ownUnless l D t A _ z 0 (by decide)) cs_X0_27 sm_X0_ownUnless ⟨(Nat.le_of_ble_eq_true rfl), (Nat.le_of_ble_eq_true rfl)⟩ rfl hl.1 rfl (Nat.le_of_ble_eq_true rfl) dX0_whyNotDivisor_25 ⟨(Nat.le_of_ble_eq_true rfl), (Nat.le_of_ble_eq_true rfl)⟩) hW (fun r f1 H locs hp hW => ?_)
      obtain ⟨rfl, hp⟩ := hp
      obtain rfl : r = nI 2 := hp
      exact rl_iret hC hW hr hlk (Nat.le_refl _) (Nat.le_refl _) ⟨_, rfl, rfl, rfl, rfl, by rw [if_neg hnz, if_neg h2]⟩ dX0_whyNotDivisor_28
    · have h2 : (100 : Int64) - 100 / y * y = 0 := (lg_cmp_eq _ _).mp c2
      refine lv_iconst (v := (nI (1))) hx hb dX0_whyNotDivisor_20 (by decide) ?_
      refine lv_goto (tgt := 25) hx hb dX0_whyNotDivisor_21 (by decide) ?_
      refine rl_calliQ (rl_runS (As := [.int (nI (1))]) (rest := []) hC hW (cC_ownUnless l D t A _ z 1 (by decide)) cs_X0_27 sm_X0_ownUnless ⟨(Nat.le_of_ble_eq_true rfl), (Nat.le_of_ble_eq_true rfl)⟩ rfl hl.1 rfl (Nat.le_of_ble_eq_true rfl) dX0_whyNotDivisor_25 ⟨(Nat.le_of_ble_eq_true rfl), (Nat.le_of_ble_eq_true rfl)⟩) hW (fun r f1 H locs hp hW => ?_)
      obtain ⟨rfl, hp⟩ := hp
      obtain rfl : r = nI 0 := hp
      exact rl_iret hC hW hr hlk (Nat.le_refl _) (Nat.le_refl _) ⟨_, rfl, rfl, rfl, rfl, by rw [if_neg hnz, if_pos h2]⟩ dX0_whyNotDivisor_28
  · have hz : y = 0 := (lg_cmp_eq _ _).mp c1
    refine lv_iconst (v := (nI (5))) hx hb dX0_whyNotDivisor_6 (by decide) ?_
    refine lv_goto (tgt := 28) hx hb dX0_whyNotDivisor_7 (by decide) ?_
    exact rl_iret hC hW hr hlk (Nat.le_refl _) (Nat.le_refl _) ⟨_, rfl, rfl, rfl, rfl, by rw [if_pos hz]⟩ dX0_whyNotDivisor_28

set_option maxHeartbeats 4000000 in
set_option maxRecDepth 100000 in
theorem cC_whyNotItemAbove (l : Launch) (D : va_G) (t : Nat → ClassId) (A : Nat → Prop) (f : rl_M) (z : Nat) (x : Nat) (T : Nat → Nat → Nat) (ρ κ : Nat) (G : pG) (E : Nat → Nat → Nat) (gx : Nat → Int32) (mo : Int32) (hI : CJ t f x T ρ κ G E gx mo) (hT : rt_ok T) (hG : GW T ρ κ G) (hd0 : pHd) (r0 : Option Nat) (er0 : r0 = ca E hd0) (hok0 : cok T ρ κ hd0) (hst0 : hst 4 hd0) (y m9 : Int64) : rl_Met l yX0_whyNotItemAbove (.code yX0_whyNotItemAbove cX0_whyNotItemAbove 4 (some FieldType.int)) (rl_rm 1 0 0) D t A f z [va_rf (r0), .long (y)] (rl_qi z fun r f1 => f = f1 ∧ r = nI (pu_ck T G 2 m9 hd0 y)) := by
  refine rl_begin (own := RX0) (lv := [(0, va_rf (r0)), (1, .long (y))]) (by decide +kernel) rfl (by cases r0 <;> exact Nat.le_of_ble_eq_true rfl) (by cases r0 <;> rfl) fun p e s m0 args below meth c ls H locs hC hr hlk hnm hW hl hx hb => ?_
  rcases hok0.cases with hh | ⟨n0, hn0, hh⟩ | ⟨n0, hn0, hh⟩ | ⟨n0, hn0, hh⟩
  · obtain rfl : r0 = none := by rw [er0, hh]; rfl
    refine lv_aload_nN hx hb dX0_whyNotItemAbove_0 rfl (lv_at hl 0 rfl) ?_
    refine lv_instN hx hb dX0_whyNotItemAbove_1 ?_
    refine rl_topn (y := nI 0) (by decide) ?_
    refine lv_if_eq (tgt := 15) hx hb dX0_whyNotItemAbove_4 (by decide) (fun c_1 => ?_) (fun c_1 => ?_)
    · refine lv_iconst (v := (nI (3))) hx hb dX0_whyNotItemAbove_15 (by decide) ?_
      exact rl_iret hC hW hr hlk (Nat.le_refl _) (Nat.le_refl _) ⟨_, rfl, rfl, rfl, rfl, by rw [hh, ck_n (by decide)]⟩ dX0_whyNotItemAbove_16
    · first | exact absurd c_1 (by decide) | exact absurd (by decide) c_1
  · obtain rfl : r0 = some (E 0 n0) := by rw [er0, hh]; rfl
    obtain ⟨hx58, h0, h1⟩ := hI.con hn0
    have hlo := (hT.2.2.2.2.2.1 n0 hn0.1).1
    exact absurd (show 4 = 2 by have h9 := hst0; rw [hh] at h9; exact h9) (by decide)
  · obtain rfl : r0 = some (E 1 n0) := by rw [er0, hh]; rfl
    obtain ⟨hx58, h0, g, h1, hgi⟩ := hI.row hn0
    have hn8 := hG.1 n0 hn0
    refine lv_aload_n hx hb dX0_whyNotItemAbove_0 rfl (lv_at hl 0 rfl) ?_
    refine rl_instY hC hW h0 rfl mw_432 mt_996 dX0_whyNotItemAbove_1 ?_
    refine rl_topn (y := nI 1) (by decide) ?_
    refine lv_if_eq (tgt := 15) hx hb dX0_whyNotItemAbove_4 (by decide) (fun c8 => ?_) (fun c8 => ?_)
    · exact absurd c8 (by decide)
    · refine lv_aload_n hx hb dX0_whyNotItemAbove_7 rfl (lv_at hl 0 rfl) ?_
      refine rl_castY hC hW h0 rfl mw_432 mt_996 dX0_whyNotItemAbove_8 ?_
      refine lv_astore_n (lv' := [(3, .ref (E 1 n0)), (0, .ref (E 1 n0)), (1, .long (y))]) hx hb dX0_whyNotItemAbove_11 rfl hl (by decide) rfl (fun ls hl => ?_)
      refine lv_goto (tgt := 17) hx hb dX0_whyNotItemAbove_12 (by decide) ?_
      refine lv_lload_n hx hb dX0_whyNotItemAbove_17 rfl (lv_at hl 2 rfl) ?_
      refine lv_lconst (v := 0) hx hb dX0_whyNotItemAbove_18 (by decide) ?_
      refine W.lcmp hx hb dX0_whyNotItemAbove_19 ?_
      refine lv_if_lt (tgt := 34) hx hb dX0_whyNotItemAbove_20 (by decide) (fun c2 => ?_) (fun c2 => ?_)
      · refine lv_iconst (v := (nI (4))) hx hb dX0_whyNotItemAbove_34 (by decide) ?_
        exact rl_iret hC hW hr hlk (Nat.le_refl _) (Nat.le_refl _) ⟨_, rfl, rfl, rfl, rfl, by rw [hh, ck_r4 (by decide) (rg_nxx (by omega) (Or.inl ((lg_cmp_lt _ _).mp c2))) hn8]⟩ dX0_whyNotItemAbove_35
      · refine lv_lload_n hx hb dX0_whyNotItemAbove_23 rfl (lv_at hl 2 rfl) ?_
        refine lv_aload_n hx hb dX0_whyNotItemAbove_24 rfl (lv_at hl 0 rfl) ?_
        refine rl_get (v := .ref (E 1 n0 + 1)) hC hW fl_X0_53 h0 rfl dX0_whyNotItemAbove_25 ?_
        refine rl_alen 0 (v := nI (G.1 0 n0)) hC hW rfl h1 rfl dX0_whyNotItemAbove_28 ?_
        refine lv_i2l hx hb dX0_whyNotItemAbove_29 rfl ?_
        refine W.lcmp hx hb dX0_whyNotItemAbove_30 ?_
        refine lv_if_lt (tgt := 36) hx hb dX0_whyNotItemAbove_31 (by decide) (fun c3 => ?_) (fun c3 => ?_)
        · obtain ⟨i, hi, rfl⟩ := rg_lxx (fun q9 => c2 ((lg_cmp_lt _ _).mpr q9)) ((lg_cmp_lt _ _).mp c3) (by omega)
          have hgv := hgi i hi
          refine lv_aload_n hx hb dX0_whyNotItemAbove_36 rfl (lv_at hl 0 rfl) ?_
          refine rl_get (v := .ref (E 1 n0 + 1)) hC hW fl_X0_53 h0 rfl dX0_whyNotItemAbove_37 ?_
          refine lv_lload_n hx hb dX0_whyNotItemAbove_40 rfl (lv_at hl 2 rfl) ?_
          refine lv_l2i hx hb dX0_whyNotItemAbove_41 rfl ?_
          refine rl_topn (lN_i _) ?_
          refine rl_iald_n hC hW h1 (by omega) (by omega) dX0_whyNotItemAbove_42 ?_
          refine lv_if_le (tgt := 50) hx hb dX0_whyNotItemAbove_43 (by decide) (fun c4 => ?_) (fun c4 => ?_)
          · have h4 : ¬ (0 : Int32) < G.2.1 1 (8 * n0 + i) := by rw [← hgv]; exact Int32.not_lt.mpr c4
            refine lv_iconst (v := (nI (0))) hx hb dX0_whyNotItemAbove_50 (by decide) ?_
            refine rl_calliQ (rl_runS (As := [.int (nI (0))]) (rest := []) hC hW (cC_ownUnless l D t A _ z 0 (by decide)) cs_X0_27 sm_X0_ownUnless ⟨(Nat.le_of_ble_eq_true rfl), (Nat.le_of_ble_eq_true rfl)⟩ rfl hl.1 rfl (Nat.le_of_ble_eq_true rfl) dX0_whyNotItemAbove_51 ⟨(Nat.le_of_ble_eq_true rfl), (Nat.le_of_ble_eq_true rfl)⟩) hW (fun r f1 H locs hp hW => ?_)
            obtain ⟨rfl, hp⟩ := hp
            obtain rfl : r = nI 2 := hp
            exact rl_iret hC hW hr hlk (Nat.le_refl _) (Nat.le_refl _) ⟨_, rfl, rfl, rfl, rfl, by rw [hh, ck_ri (by decide) hi hn8, if_neg h4]⟩ dX0_whyNotItemAbove_54
          · have h4 : (0 : Int32) < G.2.1 1 (8 * n0 + i) := by rw [← hgv]; exact Int32.not_le.mp c4
            refine lv_iconst (v := (nI (1))) hx hb dX0_whyNotItemAbove_46 (by decide) ?_
            refine lv_goto (tgt := 51) hx hb dX0_whyNotItemAbove_47 (by decide) ?_
            refine rl_calliQ (rl_runS (As := [.int (nI (1))]) (rest := []) hC hW (cC_ownUnless l D t A _ z 1 (by decide)) cs_X0_27 sm_X0_ownUnless ⟨(Nat.le_of_ble_eq_true rfl), (Nat.le_of_ble_eq_true rfl)⟩ rfl hl.1 rfl (Nat.le_of_ble_eq_true rfl) dX0_whyNotItemAbove_51 ⟨(Nat.le_of_ble_eq_true rfl), (Nat.le_of_ble_eq_true rfl)⟩) hW (fun r f1 H locs hp hW => ?_)
            obtain ⟨rfl, hp⟩ := hp
            obtain rfl : r = nI 0 := hp
            exact rl_iret hC hW hr hlk (Nat.le_refl _) (Nat.le_refl _) ⟨_, rfl, rfl, rfl, rfl, by rw [hh, ck_ri (by decide) hi hn8, if_pos h4]⟩ dX0_whyNotItemAbove_54
        · refine lv_iconst (v := (nI (4))) hx hb dX0_whyNotItemAbove_34 (by decide) ?_
          exact rl_iret hC hW hr hlk (Nat.le_refl _) (Nat.le_refl _) ⟨_, rfl, rfl, rfl, rfl, by rw [hh, ck_r4 (by decide) (rg_nxx (by omega) (Or.inr (fun q => c3 ((lg_cmp_lt _ _).mpr q)))) hn8]⟩ dX0_whyNotItemAbove_35
  · obtain rfl : r0 = some (E 2 n0) := by rw [er0, hh]; rfl
    obtain ⟨hx58, h0, ⟨gn, h1, hgnv⟩, ⟨gt, h2, hgtv⟩⟩ := hI.rec hn0
    obtain ⟨hj, hnT, -⟩ := hG.2.1 n0 hn0
    obtain ⟨hrv, hj5, hj2, hpa, hka⟩ := id (hI.2.2.1 _ hj)
    exact absurd (show 4 = 3 by have h9 := hst0; rw [hh] at h9; exact h9) (by decide)

set_option maxHeartbeats 4000000 in
set_option maxRecDepth 100000 in
theorem cC_whyNotOrderBelow (l : Launch) (D : va_G) (t : Nat → ClassId) (A : Nat → Prop) (f : rl_M) (z : Nat) (x : Nat) (T : Nat → Nat → Nat) (ρ κ : Nat) (G : pG) (E : Nat → Nat → Nat) (gx : Nat → Int32) (mo : Int32) (hI : CJ t f x T ρ κ G E gx mo) (hT : rt_ok T) (hG : GW T ρ κ G) (hd0 : pHd) (r0 : Option Nat) (er0 : r0 = ca E hd0) (hok0 : cok T ρ κ hd0) (hst0 : hst 2 hd0) (y m9 : Int64) : rl_Met l yX0_whyNotOrderBelow (.code yX0_whyNotOrderBelow cX0_whyNotOrderBelow 4 (some FieldType.int)) (rl_rm 1 0 0) D t A f z [va_rf (r0), .long (y)] (rl_qi z fun r f1 => f = f1 ∧ r = nI (pu_ck T G 4 m9 hd0 y)) := by
  refine rl_begin (own := RX0) (lv := [(0, va_rf (r0)), (1, .long (y))]) (by decide +kernel) rfl (by cases r0 <;> exact Nat.le_of_ble_eq_true rfl) (by cases r0 <;> rfl) fun p e s m0 args below meth c ls H locs hC hr hlk hnm hW hl hx hb => ?_
  rcases hok0.cases with hh | ⟨n0, hn0, hh⟩ | ⟨n0, hn0, hh⟩ | ⟨n0, hn0, hh⟩
  · obtain rfl : r0 = none := by rw [er0, hh]; rfl
    refine lv_aload_nN hx hb dX0_whyNotOrderBelow_0 rfl (lv_at hl 0 rfl) ?_
    refine lv_instN hx hb dX0_whyNotOrderBelow_1 ?_
    refine rl_topn (y := nI 0) (by decide) ?_
    refine lv_if_eq (tgt := 15) hx hb dX0_whyNotOrderBelow_4 (by decide) (fun c_1 => ?_) (fun c_1 => ?_)
    · refine lv_iconst (v := (nI (3))) hx hb dX0_whyNotOrderBelow_15 (by decide) ?_
      exact rl_iret hC hW hr hlk (Nat.le_refl _) (Nat.le_refl _) ⟨_, rfl, rfl, rfl, rfl, by rw [hh, ck_n (by decide)]⟩ dX0_whyNotOrderBelow_16
    · first | exact absurd c_1 (by decide) | exact absurd (by decide) c_1
  · obtain rfl : r0 = some (E 0 n0) := by rw [er0, hh]; rfl
    obtain ⟨hx58, h0, h1⟩ := hI.con hn0
    have hlo := (hT.2.2.2.2.2.1 n0 hn0.1).1
    refine lv_aload_n hx hb dX0_whyNotOrderBelow_0 rfl (lv_at hl 0 rfl) ?_
    refine rl_instY hC hW h0 rfl mw_442 mt_997 dX0_whyNotOrderBelow_1 ?_
    refine rl_topn (y := nI 1) (by decide) ?_
    refine lv_if_eq (tgt := 15) hx hb dX0_whyNotOrderBelow_4 (by decide) (fun c8 => ?_) (fun c8 => ?_)
    · exact absurd c8 (by decide)
    · refine lv_aload_n hx hb dX0_whyNotOrderBelow_7 rfl (lv_at hl 0 rfl) ?_
      refine rl_castY hC hW h0 rfl mw_442 mt_997 dX0_whyNotOrderBelow_8 ?_
      refine lv_astore_n (lv' := [(3, .ref (E 0 n0)), (0, .ref (E 0 n0)), (1, .long (y))]) hx hb dX0_whyNotOrderBelow_11 rfl hl (by decide) rfl (fun ls hl => ?_)
      refine lv_goto (tgt := 17) hx hb dX0_whyNotOrderBelow_12 (by decide) ?_
      refine lv_aload_n hx hb dX0_whyNotOrderBelow_17 rfl (lv_at hl 0 rfl) ?_
      refine rl_get (v := .int (nI (n0 % 10))) hC hW fl_X0_67 h0 rfl dX0_whyNotOrderBelow_18 ?_
      refine lv_i2l hx hb dX0_whyNotOrderBelow_21 rfl ?_
      refine lv_lload_n hx hb dX0_whyNotOrderBelow_22 rfl (lv_at hl 2 rfl) ?_
      refine W.lcmp hx hb dX0_whyNotOrderBelow_23 ?_
      refine lv_if_ge (tgt := 31) hx hb dX0_whyNotOrderBelow_24 (by decide) (fun c2 => ?_) (fun c2 => ?_)
      · have h2 : ¬ (nI (n0 % 10)).toInt64 < y := fun q => absurd ((lg_cmp_lt _ _).mpr q) (Int32.not_lt.mpr c2)
        refine lv_iconst (v := (nI (0))) hx hb dX0_whyNotOrderBelow_31 (by decide) ?_
        refine rl_calliQ (rl_runS (As := [.int (nI (0))]) (rest := []) hC hW (cC_ownUnless l D t A _ z 0 (by decide)) cs_X0_27 sm_X0_ownUnless ⟨(Nat.le_of_ble_eq_true rfl), (Nat.le_of_ble_eq_true rfl)⟩ rfl hl.1 rfl (Nat.le_of_ble_eq_true rfl) dX0_whyNotOrderBelow_32 ⟨(Nat.le_of_ble_eq_true rfl), (Nat.le_of_ble_eq_true rfl)⟩) hW (fun r f1 H locs hp hW => ?_)
        obtain ⟨rfl, hp⟩ := hp
        obtain rfl : r = nI 2 := hp
        exact rl_iret hC hW hr hlk (Nat.le_refl _) (Nat.le_refl _) ⟨_, rfl, rfl, rfl, rfl, by rw [hh, ck_c (by decide), if_neg h2]⟩ dX0_whyNotOrderBelow_35
      · have h2 : (nI (n0 % 10)).toInt64 < y := (lg_cmp_lt _ _).mp (Int32.not_le.mp c2)
        refine lv_iconst (v := (nI (1))) hx hb dX0_whyNotOrderBelow_27 (by decide) ?_
        refine lv_goto (tgt := 32) hx hb dX0_whyNotOrderBelow_28 (by decide) ?_
        refine rl_calliQ (rl_runS (As := [.int (nI (1))]) (rest := []) hC hW (cC_ownUnless l D t A _ z 1 (by decide)) cs_X0_27 sm_X0_ownUnless ⟨(Nat.le_of_ble_eq_true rfl), (Nat.le_of_ble_eq_true rfl)⟩ rfl hl.1 rfl (Nat.le_of_ble_eq_true rfl) dX0_whyNotOrderBelow_32 ⟨(Nat.le_of_ble_eq_true rfl), (Nat.le_of_ble_eq_true rfl)⟩) hW (fun r f1 H locs hp hW => ?_)
        obtain ⟨rfl, hp⟩ := hp
        obtain rfl : r = nI 0 := hp
        exact rl_iret hC hW hr hlk (Nat.le_refl _) (Nat.le_refl _) ⟨_, rfl, rfl, rfl, rfl, by rw [hh, ck_c (by decide), if_pos h2]⟩ dX0_whyNotOrderBelow_35
  · obtain rfl : r0 = some (E 1 n0) := by rw [er0, hh]; rfl
    obtain ⟨hx58, h0, g, h1, hgi⟩ := hI.row hn0
    have hn8 := hG.1 n0 hn0
    exact absurd (show 2 = 4 by have h9 := hst0; rw [hh] at h9; exact h9) (by decide)
  · obtain rfl : r0 = some (E 2 n0) := by rw [er0, hh]; rfl
    obtain ⟨hx58, h0, ⟨gn, h1, hgnv⟩, ⟨gt, h2, hgtv⟩⟩ := hI.rec hn0
    obtain ⟨hj, hnT, -⟩ := hG.2.1 n0 hn0
    obtain ⟨hrv, hj5, hj2, hpa, hka⟩ := id (hI.2.2.1 _ hj)
    exact absurd (show 2 = 3 by have h9 := hst0; rw [hh] at h9; exact h9) (by decide)

set_option maxHeartbeats 4000000 in
set_option maxRecDepth 100000 in
theorem cC_whyNotPartIs (l : Launch) (D : va_G) (t : Nat → ClassId) (A : Nat → Prop) (f : rl_M) (z : Nat) (x : Nat) (T : Nat → Nat → Nat) (ρ κ : Nat) (G : pG) (E : Nat → Nat → Nat) (gx : Nat → Int32) (mo : Int32) (hI : CJ t f x T ρ κ G E gx mo) (hT : rt_ok T) (hG : GW T ρ κ G) (hd0 : pHd) (r0 : Option Nat) (er0 : r0 = ca E hd0) (hok0 : cok T ρ κ hd0) (hst0 : hst 3 hd0) (y m9 : Int64) : rl_Met l yX0_whyNotPartIs (.code yX0_whyNotPartIs cX0_whyNotPartIs 4 (some FieldType.int)) (rl_rm 1 0 0) D t A f z [va_rf (r0), .long (y)] (rl_qi z fun r f1 => f = f1 ∧ r = nI (pu_ck T G 3 m9 hd0 y)) := by
  refine rl_begin (own := RX0) (lv := [(0, va_rf (r0)), (1, .long (y))]) (by decide +kernel) rfl (by cases r0 <;> exact Nat.le_of_ble_eq_true rfl) (by cases r0 <;> rfl) fun p e s m0 args below meth c ls H locs hC hr hlk hnm hW hl hx hb => ?_
  rcases hok0.cases with hh | ⟨n0, hn0, hh⟩ | ⟨n0, hn0, hh⟩ | ⟨n0, hn0, hh⟩
  · obtain rfl : r0 = none := by rw [er0, hh]; rfl
    refine lv_aload_nN hx hb dX0_whyNotPartIs_0 rfl (lv_at hl 0 rfl) ?_
    refine lv_instN hx hb dX0_whyNotPartIs_1 ?_
    refine rl_topn (y := nI 0) (by decide) ?_
    refine lv_if_eq (tgt := 15) hx hb dX0_whyNotPartIs_4 (by decide) (fun c_1 => ?_) (fun c_1 => ?_)
    · refine lv_iconst (v := (nI (3))) hx hb dX0_whyNotPartIs_15 (by decide) ?_
      exact rl_iret hC hW hr hlk (Nat.le_refl _) (Nat.le_refl _) ⟨_, rfl, rfl, rfl, rfl, by rw [hh, ck_n (by decide)]⟩ dX0_whyNotPartIs_16
    · first | exact absurd c_1 (by decide) | exact absurd (by decide) c_1
  · obtain rfl : r0 = some (E 0 n0) := by rw [er0, hh]; rfl
    obtain ⟨hx58, h0, h1⟩ := hI.con hn0
    have hlo := (hT.2.2.2.2.2.1 n0 hn0.1).1
    exact absurd (show 3 = 2 by have h9 := hst0; rw [hh] at h9; exact h9) (by decide)
  · obtain rfl : r0 = some (E 1 n0) := by rw [er0, hh]; rfl
    obtain ⟨hx58, h0, g, h1, hgi⟩ := hI.row hn0
    have hn8 := hG.1 n0 hn0
    exact absurd (show 3 = 4 by have h9 := hst0; rw [hh] at h9; exact h9) (by decide)
  · obtain rfl : r0 = some (E 2 n0) := by rw [er0, hh]; rfl
    obtain ⟨hx58, h0, ⟨gn, h1, hgnv⟩, ⟨gt, h2, hgtv⟩⟩ := hI.rec hn0
    obtain ⟨hj, hnT, -⟩ := hG.2.1 n0 hn0
    obtain ⟨hrv, hj5, hj2, hpa, hka⟩ := id (hI.2.2.1 _ hj)
    refine lv_aload_n hx hb dX0_whyNotPartIs_0 rfl (lv_at hl 0 rfl) ?_
    refine rl_instY hC hW h0 rfl mw_436 mt_998 dX0_whyNotPartIs_1 ?_
    refine rl_topn (y := nI 1) (by decide) ?_
    refine lv_if_eq (tgt := 15) hx hb dX0_whyNotPartIs_4 (by decide) (fun c8 => ?_) (fun c8 => ?_)
    · exact absurd c8 (by decide)
    · refine lv_aload_n hx hb dX0_whyNotPartIs_7 rfl (lv_at hl 0 rfl) ?_
      refine rl_castY hC hW h0 rfl mw_436 mt_998 dX0_whyNotPartIs_8 ?_
      refine lv_astore_n (lv' := [(3, .ref (E 2 n0)), (0, .ref (E 2 n0)), (1, .long (y))]) hx hb dX0_whyNotPartIs_11 rfl hl (by decide) rfl (fun ls hl => ?_)
      refine lv_goto (tgt := 17) hx hb dX0_whyNotPartIs_12 (by decide) ?_
      refine lv_aload_n hx hb dX0_whyNotPartIs_17 rfl (lv_at hl 0 rfl) ?_
      refine rl_calliQ (rl_runV (b := E 2 n0) (As := []) (rest := []) hC hW (cC_Rec_extent l D t A _ z _ _ _ _ _ gn h0 h1) cs_X0_57 im_X6_extent sl_X6_extent h0 rfl ⟨(Nat.le_of_ble_eq_true rfl), (Nat.le_of_ble_eq_true rfl)⟩ rfl hl.1 rfl (Nat.le_of_ble_eq_true rfl) dX0_whyNotPartIs_18 ⟨(Nat.le_of_ble_eq_true rfl), (Nat.le_of_ble_eq_true rfl)⟩) hW (fun r f1 H locs hp hW => ?_)
      obtain ⟨rfl, rfl⟩ := hp
      refine lv_if_ne (tgt := 26) hx hb dX0_whyNotPartIs_21 (by decide) (fun c2 => ?_) (fun c2 => ?_)
      · have hnz : G.1 2 n0 ≠ 0 := fun q9 => c2 (by rw [q9]; rfl)
        have hs4 := (hT.2.2.1 _ 0 hj (by omega)).2.1
        refine lv_aload_n hx hb dX0_whyNotPartIs_26 rfl (lv_at hl 0 rfl) ?_
        refine lv_iconst (v := (nI (0))) hx hb dX0_whyNotPartIs_27 (by decide) ?_
        refine rl_calliQ (rl_runV (b := E 2 n0) (As := [.int (nI (0))]) (rest := []) hC hW (cC_isNumber l D t A _ z x T ρ κ G E _ _ hI _ (G.1 1 n0) _ _ 0 hj (by omega) (by omega) h0) cs_X0_61 im_X6_isNumber sl_X6_isNumber h0 rfl ⟨(Nat.le_of_ble_eq_true rfl), (Nat.le_of_ble_eq_true rfl)⟩ rfl hl.1 rfl (Nat.le_of_ble_eq_true rfl) dX0_whyNotPartIs_28 ⟨(Nat.le_of_ble_eq_true rfl), (Nat.le_of_ble_eq_true rfl)⟩) hW (fun r f1 H locs hp hW => ?_)
        obtain ⟨rfl, hp⟩ := hp
        rcases hp with ⟨rfl, hp⟩ | ⟨rfl, hp⟩
        · have hgv := hgnv 0 (by omega)
          have h9 : ¬ 2 ≤ T 4 (5 * G.1 1 n0) := by have := hp; rw [Nat.add_zero] at this; omega
          rw [Nat.add_zero] at hgv
          refine lv_if_eq (tgt := 56) hx hb dX0_whyNotPartIs_31 (by decide) (fun c3 => ?_) (fun c3 => ?_)
          · exact absurd c3 (by decide)
          · refine lv_aload_n hx hb dX0_whyNotPartIs_34 rfl (lv_at hl 0 rfl) ?_
            refine rl_get (v := .ref (E 2 n0 + 1)) hC hW fl_X0_21 h0 rfl dX0_whyNotPartIs_35 ?_
            refine lv_iconst (v := (nI (0))) hx hb dX0_whyNotPartIs_38 (by decide) ?_
            refine rl_lald_n hC hW h1 (by omega) (by omega) dX0_whyNotPartIs_39 ?_
            refine lv_lload_n hx hb dX0_whyNotPartIs_40 rfl (lv_at hl 2 rfl) ?_
            refine W.lcmp hx hb dX0_whyNotPartIs_41 ?_
            refine lv_if_ne (tgt := 49) hx hb dX0_whyNotPartIs_42 (by decide) (fun c4 => ?_) (fun c4 => ?_)
            · have h4 : ¬ G.2.2.1 0 (5 * n0) = y := fun q => c4 ((lg_cmp_eq _ _).mpr (hgv.trans q))
              refine lv_iconst (v := (nI (0))) hx hb dX0_whyNotPartIs_49 (by decide) ?_
              refine rl_calliQ (rl_runS (As := [.int (nI (0))]) (rest := []) hC hW (cC_ownUnless l D t A _ z 0 (by decide)) cs_X0_27 sm_X0_ownUnless ⟨(Nat.le_of_ble_eq_true rfl), (Nat.le_of_ble_eq_true rfl)⟩ rfl hl.1 rfl (Nat.le_of_ble_eq_true rfl) dX0_whyNotPartIs_50 ⟨(Nat.le_of_ble_eq_true rfl), (Nat.le_of_ble_eq_true rfl)⟩) hW (fun r f1 H locs hp hW => ?_)
              obtain ⟨rfl, hp⟩ := hp
              obtain rfl : r = nI 2 := hp
              refine lv_goto (tgt := 57) hx hb dX0_whyNotPartIs_53 (by decide) ?_
              exact rl_iret hC hW hr hlk (Nat.le_refl _) (Nat.le_refl _) ⟨_, rfl, rfl, rfl, rfl, by rw [hh, ck_d (by decide), if_neg hnz, if_neg h9, if_neg h4]⟩ dX0_whyNotPartIs_57
            · have h4 : G.2.2.1 0 (5 * n0) = y := hgv.symm.trans ((lg_cmp_eq _ _).mp c4)
              refine lv_iconst (v := (nI (1))) hx hb dX0_whyNotPartIs_45 (by decide) ?_
              refine lv_goto (tgt := 50) hx hb dX0_whyNotPartIs_46 (by decide) ?_
              refine rl_calliQ (rl_runS (As := [.int (nI (1))]) (rest := []) hC hW (cC_ownUnless l D t A _ z 1 (by decide)) cs_X0_27 sm_X0_ownUnless ⟨(Nat.le_of_ble_eq_true rfl), (Nat.le_of_ble_eq_true rfl)⟩ rfl hl.1 rfl (Nat.le_of_ble_eq_true rfl) dX0_whyNotPartIs_50 ⟨(Nat.le_of_ble_eq_true rfl), (Nat.le_of_ble_eq_true rfl)⟩) hW (fun r f1 H locs hp hW => ?_)
              obtain ⟨rfl, hp⟩ := hp
              obtain rfl : r = nI 0 := hp
              refine lv_goto (tgt := 57) hx hb dX0_whyNotPartIs_53 (by decide) ?_
              exact rl_iret hC hW hr hlk (Nat.le_refl _) (Nat.le_refl _) ⟨_, rfl, rfl, rfl, rfl, by rw [hh, ck_d (by decide), if_neg hnz, if_neg h9, if_pos h4]⟩ dX0_whyNotPartIs_57
        · have h9 : 2 ≤ T 4 (5 * G.1 1 n0) := hp
          refine lv_if_eq (tgt := 56) hx hb dX0_whyNotPartIs_31 (by decide) (fun c_2 => ?_) (fun c_2 => ?_)
          · refine lv_iconst (v := (nI (1))) hx hb dX0_whyNotPartIs_56 (by decide) ?_
            exact rl_iret hC hW hr hlk (Nat.le_refl _) (Nat.le_refl _) ⟨_, rfl, rfl, rfl, rfl, by rw [hh, ck_d (by decide), if_neg hnz, if_pos h9]⟩ dX0_whyNotPartIs_57
          · first | exact absurd c_2 (by decide) | exact absurd (by decide) c_2
      · have hnz : G.1 2 n0 = 0 := (nI_eq (by omega) (by decide)).mp c2
        refine lv_iconst (v := (nI (4))) hx hb dX0_whyNotPartIs_24 (by decide) ?_
        exact rl_iret hC hW hr hlk (Nat.le_refl _) (Nat.le_refl _) ⟨_, rfl, rfl, rfl, rfl, by rw [hh, ck_d (by decide), if_pos hnz]⟩ dX0_whyNotPartIs_25

set_option maxHeartbeats 4000000 in
set_option maxRecDepth 100000 in
theorem cC_whyNotPassed (l : Launch) (D : va_G) (t : Nat → ClassId) (A : Nat → Prop) (f : rl_M) (z : Nat) (x : Nat) (T : Nat → Nat → Nat) (ρ κ : Nat) (G : pG) (E : Nat → Nat → Nat) (gx : Nat → Int32) (mo : Int32) (hI : CJ t f x T ρ κ G E gx mo) (hT : rt_ok T) (hG : GW T ρ κ G) (a j : Nat) (N : Nat → Int64) (X : Nat → pHd) (hD : cDR t f x T E a j N X) (k ho p0 b0 : Nat) (o : Int32) (hh : ho < 5) (hp0 : p0 < T 2 j) (hkb : rt_kb T j ho b0 o) (hK : f k = some (.inr (0, [.int (nI ho), .int (nI p0), .int o]))) (hokp : cok T ρ κ (X p0)) (hstp : 2 ≤ ho → hst (rt_srt ho) (X p0)) : rl_Met l yX0_whyNotPassed (.code yX0_whyNotPassed cX0_whyNotPassed 2 (some FieldType.int)) (rl_rm 2 0 0) D t A f z [.ref (k), .ref (a)] (rl_qi z fun r f1 => f = f1 ∧ r = nI (pu_ck T G ho (N p0) (X p0) (N b0))) := by
  refine rl_begin (own := RX0) (lv := [(0, .ref (k)), (1, .ref (a))]) (by decide +kernel) rfl (Nat.le_of_ble_eq_true rfl) rfl fun p e s m0 args below meth c ls H locs hC hr hlk hnm hW hl hx hb => ?_
  obtain ⟨hj, hxa, h0, ⟨gn, h1, hgnE⟩, ⟨gt, h2, hgtE⟩⟩ := id hD
  obtain ⟨hrv, hj5, hj2, ⟨gp, hpa, hpp⟩, ⟨gk, hka, hkk⟩⟩ := id (hI.2.2.1 j hj)
  have hs9 : ho = 0 ∨ ho = 1 ∨ ho = 2 ∨ ho = 3 ∨ ho = 4 := by omega
  rcases hs9 with rfl | rfl | rfl | rfl | rfl
  · obtain ⟨hb0, rfl, -⟩ := hkb (by decide)
    have hnp := hgnE p0 hp0
    have hnb := hgnE b0 hb0
    refine lv_aload_n hx hb dX0_whyNotPassed_0 rfl (lv_at hl 0 rfl) ?_
    refine rl_get (v := .int (nI (0))) hC hW fl_X0_9 hK rfl dX0_whyNotPassed_1 ?_
    refine lv_tableIn (tgt := 36) hx hb dX0_whyNotPassed_4 (by decide) (by decide) rfl (by decide) ?_
    refine lv_aload_n hx hb dX0_whyNotPassed_36 rfl (lv_at hl 1 rfl) ?_
    refine rl_get (v := .ref (a + 1)) hC hW fl_X0_21 h0 rfl dX0_whyNotPassed_37 ?_
    refine lv_aload_n hx hb dX0_whyNotPassed_40 rfl (lv_at hl 0 rfl) ?_
    refine rl_get (v := .int (nI (p0))) hC hW fl_X0_15 hK rfl dX0_whyNotPassed_41 ?_
    refine rl_lald_n hC hW h1 (by omega) (by omega) dX0_whyNotPassed_44 ?_
    refine lv_aload_n hx hb dX0_whyNotPassed_45 rfl (lv_at hl 1 rfl) ?_
    refine rl_get (v := .ref (a + 1)) hC hW fl_X0_21 h0 rfl dX0_whyNotPassed_46 ?_
    refine lv_aload_n hx hb dX0_whyNotPassed_49 rfl (lv_at hl 0 rfl) ?_
    refine rl_get (v := .int (nI (b0))) hC hW fl_X0_18 hK rfl dX0_whyNotPassed_50 ?_
    refine rl_lald_n hC hW h1 (by omega) (by omega) dX0_whyNotPassed_53 ?_
    refine W.lcmp hx hb dX0_whyNotPassed_54 ?_
    refine lv_if_gt (tgt := 62) hx hb dX0_whyNotPassed_55 (by decide) (fun c2 => ?_) (fun c2 => ?_)
    · have h2 : ¬ N p0 ≤ N b0 := fun q => absurd ((lg_cmp_le _ _).mpr (by rw [hnp, hnb]; exact q)) (Int32.not_le.mpr c2)
      refine lv_iconst (v := (nI (0))) hx hb dX0_whyNotPassed_62 (by decide) ?_
      refine rl_calliQ (rl_runS (As := [.int (nI (0))]) (rest := []) hC hW (cC_ownUnless l D t A _ z 0 (by decide)) cs_X0_27 sm_X0_ownUnless ⟨(Nat.le_of_ble_eq_true rfl), (Nat.le_of_ble_eq_true rfl)⟩ rfl hl.1 rfl (Nat.le_of_ble_eq_true rfl) dX0_whyNotPassed_63 ⟨(Nat.le_of_ble_eq_true rfl), (Nat.le_of_ble_eq_true rfl)⟩) hW (fun r f1 H locs hp hW => ?_)
      obtain ⟨rfl, hp⟩ := hp
      obtain rfl : r = nI 2 := hp
      exact rl_iret hC hW hr hlk (Nat.le_refl _) (Nat.le_refl _) ⟨_, rfl, rfl, rfl, rfl, by rw [ck_0, if_neg h2]⟩ dX0_whyNotPassed_66
    · have h2 : N p0 ≤ N b0 := by rw [← hnp, ← hnb]; exact (lg_cmp_le _ _).mp (Int32.not_lt.mp c2)
      refine lv_iconst (v := (nI (1))) hx hb dX0_whyNotPassed_58 (by decide) ?_
      refine lv_goto (tgt := 63) hx hb dX0_whyNotPassed_59 (by decide) ?_
      refine rl_calliQ (rl_runS (As := [.int (nI (1))]) (rest := []) hC hW (cC_ownUnless l D t A _ z 1 (by decide)) cs_X0_27 sm_X0_ownUnless ⟨(Nat.le_of_ble_eq_true rfl), (Nat.le_of_ble_eq_true rfl)⟩ rfl hl.1 rfl (Nat.le_of_ble_eq_true rfl) dX0_whyNotPassed_63 ⟨(Nat.le_of_ble_eq_true rfl), (Nat.le_of_ble_eq_true rfl)⟩) hW (fun r f1 H locs hp hW => ?_)
      obtain ⟨rfl, hp⟩ := hp
      obtain rfl : r = nI 0 := hp
      exact rl_iret hC hW hr hlk (Nat.le_refl _) (Nat.le_refl _) ⟨_, rfl, rfl, rfl, rfl, by rw [ck_0, if_pos h2]⟩ dX0_whyNotPassed_66
  · have hnp := hgnE p0 hp0
    refine lv_aload_n hx hb dX0_whyNotPassed_0 rfl (lv_at hl 0 rfl) ?_
    refine rl_get (v := .int (nI (1))) hC hW fl_X0_9 hK rfl dX0_whyNotPassed_1 ?_
    refine lv_tableIn (tgt := 67) hx hb dX0_whyNotPassed_4 (by decide) (by decide) rfl (by decide) ?_
    refine lv_aload_n hx hb dX0_whyNotPassed_67 rfl (lv_at hl 1 rfl) ?_
    refine rl_get (v := .ref (a + 1)) hC hW fl_X0_21 h0 rfl dX0_whyNotPassed_68 ?_
    refine lv_aload_n hx hb dX0_whyNotPassed_71 rfl (lv_at hl 0 rfl) ?_
    refine rl_get (v := .int (nI (p0))) hC hW fl_X0_15 hK rfl dX0_whyNotPassed_72 ?_
    refine rl_lald_n hC hW h1 (by omega) (by omega) dX0_whyNotPassed_75 ?_
    refine rl_calliQ (rl_runS (As := [.long (gn (p0))]) (rest := []) hC hW (cC_whyNotDivisor l D t A _ z _) cs_X0_31 sm_X0_whyNotDivisor ⟨(Nat.le_of_ble_eq_true rfl), (Nat.le_of_ble_eq_true rfl)⟩ rfl hl.1 rfl (Nat.le_of_ble_eq_true rfl) dX0_whyNotPassed_76 ⟨(Nat.le_of_ble_eq_true rfl), (Nat.le_of_ble_eq_true rfl)⟩) hW (fun r f1 H locs hp hW => ?_)
    obtain ⟨rfl, hp⟩ := hp
    exact rl_iret hC hW hr hlk (Nat.le_refl _) (Nat.le_refl _) ⟨_, rfl, rfl, rfl, rfl, by rw [hp, ck_1, hnp]⟩ dX0_whyNotPassed_79
  · obtain ⟨hb0, rfl, -⟩ := hkb (by decide)
    have hnp := hgnE p0 hp0
    have hnb := hgnE b0 hb0
    refine lv_aload_n hx hb dX0_whyNotPassed_0 rfl (lv_at hl 0 rfl) ?_
    refine rl_get (v := .int (nI (2))) hC hW fl_X0_9 hK rfl dX0_whyNotPassed_1 ?_
    refine lv_tableIn (tgt := 80) hx hb dX0_whyNotPassed_4 (by decide) (by decide) rfl (by decide) ?_
    refine lv_aload_n hx hb dX0_whyNotPassed_80 rfl (lv_at hl 1 rfl) ?_
    refine rl_get (v := .ref (a + 2)) hC hW fl_X0_35 h0 rfl dX0_whyNotPassed_81 ?_
    refine lv_aload_n hx hb dX0_whyNotPassed_84 rfl (lv_at hl 0 rfl) ?_
    refine rl_get (v := .int (nI (p0))) hC hW fl_X0_15 hK rfl dX0_whyNotPassed_85 ?_
    refine rl_aald_n 3 hC hW rfl h2 (by omega) (by omega) dX0_whyNotPassed_88 ?_
    obtain ⟨r1, er1⟩ : ∃ r : Option Nat, r = gt (p0) := ⟨_, rfl⟩
    refine rl_topqq er1.symm ?_
    refine lv_aload_n hx hb dX0_whyNotPassed_89 rfl (lv_at hl 1 rfl) ?_
    refine rl_get (v := .ref (a + 1)) hC hW fl_X0_21 h0 rfl dX0_whyNotPassed_90 ?_
    refine lv_aload_n hx hb dX0_whyNotPassed_93 rfl (lv_at hl 0 rfl) ?_
    refine rl_get (v := .int (nI (b0))) hC hW fl_X0_18 hK rfl dX0_whyNotPassed_94 ?_
    refine rl_lald_n hC hW h1 (by omega) (by omega) dX0_whyNotPassed_97 ?_
    refine rl_calliQ (rl_runS (As := [va_rf (r1), .long (gn (b0))]) (rest := []) hC hW (cC_whyNotItemAbove l D t A _ z x T ρ κ G E _ _ hI hT hG (X p0) r1 (er1.trans (hgtE p0 hp0)) hokp (hstp (by decide)) _ (N p0)) cs_X0_39 sm_X0_whyNotItemAbove ⟨(Nat.le_of_ble_eq_true rfl), (Nat.le_of_ble_eq_true rfl)⟩ rfl hl.1 rfl (Nat.le_of_ble_eq_true rfl) dX0_whyNotPassed_98 ⟨(Nat.le_of_ble_eq_true rfl), (Nat.le_of_ble_eq_true rfl)⟩) hW (fun r f1 H locs hp hW => ?_)
    obtain ⟨rfl, hp⟩ := hp
    exact rl_iret hC hW hr hlk (Nat.le_refl _) (Nat.le_refl _) ⟨_, rfl, rfl, rfl, rfl, by rw [hp, hnb]⟩ dX0_whyNotPassed_101
  · obtain ⟨hb0, rfl, -⟩ := hkb (by decide)
    have hnp := hgnE p0 hp0
    have hnb := hgnE b0 hb0
    refine lv_aload_n hx hb dX0_whyNotPassed_0 rfl (lv_at hl 0 rfl) ?_
    refine rl_get (v := .int (nI (3))) hC hW fl_X0_9 hK rfl dX0_whyNotPassed_1 ?_
    refine lv_tableIn (tgt := 102) hx hb dX0_whyNotPassed_4 (by decide) (by decide) rfl (by decide) ?_
    refine lv_aload_n hx hb dX0_whyNotPassed_102 rfl (lv_at hl 1 rfl) ?_
    refine rl_get (v := .ref (a + 2)) hC hW fl_X0_35 h0 rfl dX0_whyNotPassed_103 ?_
    refine lv_aload_n hx hb dX0_whyNotPassed_106 rfl (lv_at hl 0 rfl) ?_
    refine rl_get (v := .int (nI (p0))) hC hW fl_X0_15 hK rfl dX0_whyNotPassed_107 ?_
    refine rl_aald_n 3 hC hW rfl h2 (by omega) (by omega) dX0_whyNotPassed_110 ?_
    obtain ⟨r1, er1⟩ : ∃ r : Option Nat, r = gt (p0) := ⟨_, rfl⟩
    refine rl_topqq er1.symm ?_
    refine lv_aload_n hx hb dX0_whyNotPassed_111 rfl (lv_at hl 1 rfl) ?_
    refine rl_get (v := .ref (a + 1)) hC hW fl_X0_21 h0 rfl dX0_whyNotPassed_112 ?_
    refine lv_aload_n hx hb dX0_whyNotPassed_115 rfl (lv_at hl 0 rfl) ?_
    refine rl_get (v := .int (nI (b0))) hC hW fl_X0_18 hK rfl dX0_whyNotPassed_116 ?_
    refine rl_lald_n hC hW h1 (by omega) (by omega) dX0_whyNotPassed_119 ?_
    refine rl_calliQ (rl_runS (As := [va_rf (r1), .long (gn (b0))]) (rest := []) hC hW (cC_whyNotPartIs l D t A _ z x T ρ κ G E _ _ hI hT hG (X p0) r1 (er1.trans (hgtE p0 hp0)) hokp (hstp (by decide)) _ (N p0)) cs_X0_43 sm_X0_whyNotPartIs ⟨(Nat.le_of_ble_eq_true rfl), (Nat.le_of_ble_eq_true rfl)⟩ rfl hl.1 rfl (Nat.le_of_ble_eq_true rfl) dX0_whyNotPassed_120 ⟨(Nat.le_of_ble_eq_true rfl), (Nat.le_of_ble_eq_true rfl)⟩) hW (fun r f1 H locs hp hW => ?_)
    obtain ⟨rfl, hp⟩ := hp
    exact rl_iret hC hW hr hlk (Nat.le_refl _) (Nat.le_refl _) ⟨_, rfl, rfl, rfl, rfl, by rw [hp, hnb]⟩ dX0_whyNotPassed_123
  · obtain ⟨hb0, rfl, -⟩ := hkb (by decide)
    have hnp := hgnE p0 hp0
    have hnb := hgnE b0 hb0
    refine lv_aload_n hx hb dX0_whyNotPassed_0 rfl (lv_at hl 0 rfl) ?_
    refine rl_get (v := .int (nI (4))) hC hW fl_X0_9 hK rfl dX0_whyNotPassed_1 ?_
    refine lv_tableOut (tgt := 124) hx hb dX0_whyNotPassed_4 (by decide) (by decide) ?_
    refine lv_aload_n hx hb dX0_whyNotPassed_124 rfl (lv_at hl 1 rfl) ?_
    refine rl_get (v := .ref (a + 2)) hC hW fl_X0_35 h0 rfl dX0_whyNotPassed_125 ?_
    refine lv_aload_n hx hb dX0_whyNotPassed_128 rfl (lv_at hl 0 rfl) ?_
    refine rl_get (v := .int (nI (p0))) hC hW fl_X0_15 hK rfl dX0_whyNotPassed_129 ?_
    refine rl_aald_n 3 hC hW rfl h2 (by omega) (by omega) dX0_whyNotPassed_132 ?_
    obtain ⟨r1, er1⟩ : ∃ r : Option Nat, r = gt (p0) := ⟨_, rfl⟩
    refine rl_topqq er1.symm ?_
    refine lv_aload_n hx hb dX0_whyNotPassed_133 rfl (lv_at hl 1 rfl) ?_
    refine rl_get (v := .ref (a + 1)) hC hW fl_X0_21 h0 rfl dX0_whyNotPassed_134 ?_
    refine lv_aload_n hx hb dX0_whyNotPassed_137 rfl (lv_at hl 0 rfl) ?_
    refine rl_get (v := .int (nI (b0))) hC hW fl_X0_18 hK rfl dX0_whyNotPassed_138 ?_
    refine rl_lald_n hC hW h1 (by omega) (by omega) dX0_whyNotPassed_141 ?_
    refine rl_calliQ (rl_runS (As := [va_rf (r1), .long (gn (b0))]) (rest := []) hC hW (cC_whyNotOrderBelow l D t A _ z x T ρ κ G E _ _ hI hT hG (X p0) r1 (er1.trans (hgtE p0 hp0)) hokp (hstp (by decide)) _ (N p0)) cs_X0_46 sm_X0_whyNotOrderBelow ⟨(Nat.le_of_ble_eq_true rfl), (Nat.le_of_ble_eq_true rfl)⟩ rfl hl.1 rfl (Nat.le_of_ble_eq_true rfl) dX0_whyNotPassed_142 ⟨(Nat.le_of_ble_eq_true rfl), (Nat.le_of_ble_eq_true rfl)⟩) hW (fun r f1 H locs hp hW => ?_)
    obtain ⟨rfl, hp⟩ := hp
    exact rl_iret hC hW hr hlk (Nat.le_refl _) (Nat.le_refl _) ⟨_, rfl, rfl, rfl, rfl, by rw [hp, hnb]⟩ dX0_whyNotPassed_145

set_option maxHeartbeats 4000000 in
set_option maxRecDepth 100000 in
theorem cC_whyNotMade (l : Launch) (D : va_G) (t : Nat → ClassId) (A : Nat → Prop) (f : rl_M) (z : Nat) (x : Nat) (T : Nat → Nat → Nat) (ρ κ : Nat) (G : pG) (E : Nat → Nat → Nat) (gx : Nat → Int32) (mo : Int32) (hI : CJ t f x T ρ κ G E gx mo) (hT : rt_ok T) (hG : GW T ρ κ G) (a j : Nat) (N : Nat → Int64) (X : Nat → pHd) (hD : cDR t f x T E a j N X) (hX : ∀ p, p < T 2 j → cok T ρ κ (X p)) : rl_Met l yX7_whyNotMade (.code yX7_whyNotMade cX7_whyNotMade 4 (some FieldType.int)) (rl_rm 3 0 0) D t A f z [.ref (x + 16 + 3 * j), .ref (a)] (rl_qi z fun r f1 => f = f1 ∧ r = nI (pu_why T G j N X)) := by
  refine rl_begin (own := RX7) (lv := [(0, .ref (x + 16 + 3 * j)), (1, .ref (a))]) (by decide +kernel) rfl (Nat.le_of_ble_eq_true rfl) rfl fun p e s m0 args below meth c ls H locs hC hr hlk hnm hW hl hx hb => ?_
  obtain ⟨hj, hxa, h0, ⟨gn, h1, hgnE⟩, ⟨gt, h2, hgtE⟩⟩ := id hD
  obtain ⟨hrv, hj5, hj2, ⟨gp, hpa, hpp⟩, ⟨gk, hka, hkk⟩⟩ := id (hI.2.2.1 j hj)
  refine lv_iconst (v := (nI (0))) hx hb dX7_whyNotMade_0 (by decide) ?_
  refine lv_istore_n (lv' := [(2, .int (nI (0))), (0, .ref (x + 16 + 3 * j)), (1, .ref (a))]) hx hb dX7_whyNotMade_1 rfl hl (by decide) rfl (fun ls hl => ?_)
  replace hl : lv_has ls 4 [(0, .ref (x + 16 + 3 * j)), (1, .ref (a)), (2, .int (nI (0)))] := lv_sub hl [1, 2, 0] rfl
  replace hl : ∃ i : Nat, (i ≤ T 2 j) ∧ (pu_fst (pu_ta T G j N X) i = 0) ∧ lv_has ls 4 [(0, .ref (x + 16 + 3 * j)), (1, .ref (a)), (2, .int (nI (i)))] := ⟨0, Nat.zero_le _, rfl, hl⟩
  obtain ⟨i, hi, hfs, hl⟩ := hl
  obtain ⟨n, hn⟩ : ∃ n, T 2 j - i < n := ⟨_, Nat.lt_succ_self _⟩
  induction n generalizing i H locs ls with
  | zero => exact absurd hn (Nat.not_lt_zero _)
  | succ n ih =>
    refine lv_iload_n hx hb dX7_whyNotMade_2 rfl (lv_at hl 2 rfl) ?_
    refine lv_aload_n hx hb dX7_whyNotMade_3 rfl (lv_at hl 1 rfl) ?_
    refine rl_calliQ (rl_runV (b := a) (As := []) (rest := [.int (nI (i))]) hC hW (cC_Rec_extent l D t A _ z a _ _ _ _ gn h0 h1) cs_X7_46 im_X6_extent sl_X6_extent h0 rfl ⟨(Nat.le_of_ble_eq_true rfl), (Nat.le_of_ble_eq_true rfl)⟩ rfl hl.1 rfl (Nat.le_of_ble_eq_true rfl) dX7_whyNotMade_4 ⟨(Nat.le_of_ble_eq_true rfl), (Nat.le_of_ble_eq_true rfl)⟩) hW (fun r f1 H locs hp hW => ?_)
    obtain ⟨rfl, rfl⟩ := hp
    refine lv_icmp_ge (tgt := 48) hx hb dX7_whyNotMade_7 (by decide) (fun c1 => ?_) (fun c1 => ?_)
    · have hie : i = T 2 j := by have := rg_le c1 (by omega) (by omega); omega
      have hw0 : pu_wk T G j N X 0 = 0 := by rw [wk_0, ← hie]; exact hfs
      clear ih hn hi c1
      refine lv_iconst (v := (nI (0))) hx hb dX7_whyNotMade_48 (by decide) ?_
      refine lv_istore_n (lv' := [(2, .int (nI (0))), (0, .ref (x + 16 + 3 * j)), (1, .ref (a))]) hx hb dX7_whyNotMade_49 rfl hl (by decide) rfl (fun ls hl => ?_)
      replace hl : lv_has ls 4 [(0, .ref (x + 16 + 3 * j)), (1, .ref (a)), (2, .int (nI (0)))] := lv_sub hl [1, 2, 0] rfl
      replace hl : ∃ c : Nat, (c ≤ T 5 j) ∧ (pu_wk T G j N X c = 0) ∧ lv_has ls 4 [(0, .ref (x + 16 + 3 * j)), (1, .ref (a)), (2, .int (nI (c)))] := ⟨0, Nat.zero_le _, hw0, hl⟩
      obtain ⟨c, hc, hwc, hl⟩ := hl
      obtain ⟨n, hn⟩ : ∃ n, T 5 j - c < n := ⟨_, Nat.lt_succ_self _⟩
      induction n generalizing c H locs ls with
      | zero => exact absurd hn (Nat.not_lt_zero _)
      | succ n ih =>
        refine lv_iload_n hx hb dX7_whyNotMade_50 rfl (lv_at hl 2 rfl) ?_
        refine lv_aload_n hx hb dX7_whyNotMade_51 rfl (lv_at hl 0 rfl) ?_
        refine rl_get (v := .int (nI (T 5 j))) hC hW fl_X7_43 hrv rfl dX7_whyNotMade_52 ?_
        refine lv_icmp_ge (tgt := 81) hx hb dX7_whyNotMade_55 (by decide) (fun c1 => ?_) (fun c1 => ?_)
        · have hce : c = T 5 j := by have := rg_le c1 (by omega) (by omega); omega
          have hwy : pu_why T G j N X = 0 := by rw [wk_e, ← hce]; exact hwc
          refine lv_iconst (v := (nI (0))) hx hb dX7_whyNotMade_81 (by decide) ?_
          exact rl_iret hC hW hr hlk (Nat.le_refl _) (Nat.le_refl _) ⟨_, rfl, rfl, rfl, rfl, by rw [hwy]⟩ dX7_whyNotMade_82
        · have hlt : c < T 5 j := rg_lt c1 (by omega) (by omega)
          obtain ⟨q, o, hq1, hq2, hq3, hq4, hq5⟩ := hkk c hlt
          obtain ⟨hh5, -, hsa, -⟩ := hT.2.2.2.2.1 j c hj hlt
          refine lv_aload_n hx hb dX7_whyNotMade_58 rfl (lv_at hl 0 rfl) ?_
          refine rl_get (v := .ref (x + 18 + 3 * j)) hC hW fl_X7_26 hrv rfl dX7_whyNotMade_59 ?_
          refine lv_iload_n hx hb dX7_whyNotMade_62 rfl (lv_at hl 2 rfl) ?_
          refine rl_aald_n 6 hC hW rfl hka (by omega) (by decide) dX7_whyNotMade_63 ?_
          refine rl_topq (hq1) ?_
          refine lv_aload_n hx hb dX7_whyNotMade_64 rfl (lv_at hl 1 rfl) ?_
          refine rl_calliQ (rl_runV (b := q) (As := [.ref (a)]) (rest := []) hC hW (cC_whyNotPassed l D t A _ z x T ρ κ G E _ _ hI hT hG a j N X hD q _ _ _ o hh5 hq4 hq5 hq3 (hX _ hq4) (fun h2 => by
            have h9 := tk_st (wk_t hwc hq4) (by rw [hsa]; unfold rt_srt; split; omega; split; omega; split <;> omega)
            rw [hsa] at h9
            exact h9)) cs_X7_64 im_X0_whyNotPassed sl_X0_whyNotPassed hq3 rfl ⟨(Nat.le_of_ble_eq_true rfl), (Nat.le_of_ble_eq_true rfl)⟩ rfl hl.1 rfl (Nat.le_of_ble_eq_true rfl) dX7_whyNotMade_65 ⟨(Nat.le_of_ble_eq_true rfl), (Nat.le_of_ble_eq_true rfl)⟩) hW (fun r f1 H locs hp hW => ?_)
          obtain ⟨rfl, hp⟩ := hp
          have hp2 : r = nI (pu_ca T G j N X c) := hp
          subst hp2
          refine lv_istore_n (lv' := [(3, .int (nI (pu_ca T G j N X c))), (0, .ref (x + 16 + 3 * j)), (1, .ref (a)), (2, .int (nI (c)))]) hx hb dX7_whyNotMade_68 rfl hl (by decide) rfl (fun ls hl => ?_)
          refine lv_iload_n hx hb dX7_whyNotMade_69 rfl (lv_at hl 0 rfl) ?_
          refine lv_if_eq (tgt := 75) hx hb dX7_whyNotMade_70 (by decide) (fun c2 => ?_) (fun c2 => ?_)
          · have h0c : pu_ca T G j N X c = 0 := (nI_eq (by have := pu_ck_le T G (T 6 (2 * j + c)) (N (T 7 (2 * j + c))) (X (T 7 (2 * j + c))) (N (T 10 (2 * j + c))); show pu_ck _ _ _ _ _ _ < _; omega) (by decide)).mp c2
            refine lv_iinc (v := (nI ((c) + 1))) (lv' := [(2, .int (nI ((c) + 1))), (3, .int (nI (pu_ca T G j N X c))), (0, .ref (x + 16 + 3 * j)), (1, .ref (a))]) hx hb dX7_whyNotMade_75 hl (k := 3) rfl (nI_1 _) (by decide) rfl (fun ls hl => ?_)
            refine lv_goto (tgt := 50) hx hb dX7_whyNotMade_78 (by decide) ?_
            replace hl : lv_has ls 4 [(0, .ref (x + 16 + 3 * j)), (1, .ref (a)), (2, .int (nI ((c) + 1)))] := lv_sub hl [2, 3, 0] rfl
            exact ih H locs hW ls (c + 1) (by omega) ((wk_s hwc).trans h0c) hl (by omega)
          · have hne : pu_ca T G j N X c ≠ 0 := fun q => c2 (by rw [q]; rfl)
            have hwy : pu_why T G j N X = pu_ca T G j N X c := by rw [← wk_s hwc] at hne ⊢; exact wk_k hne (by omega)
            refine lv_iload_n hx hb dX7_whyNotMade_73 rfl (lv_at hl 0 rfl) ?_
            exact rl_iret hC hW hr hlk (Nat.le_refl _) (Nat.le_refl _) ⟨_, rfl, rfl, rfl, rfl, by rw [hwy]⟩ dX7_whyNotMade_74
    · have hlt : i < T 2 j := rg_lt c1 (by omega) (by omega)
      obtain ⟨q, o, hq1, hq2, hq3, hq4⟩ := hpp i hlt
      refine lv_aload_n hx hb dX7_whyNotMade_10 rfl (lv_at hl 0 rfl) ?_
      refine rl_get (v := .ref (x + 17 + 3 * j)) hC hW fl_X7_20 hrv rfl dX7_whyNotMade_11 ?_
      refine lv_iload_n hx hb dX7_whyNotMade_14 rfl (lv_at hl 2 rfl) ?_
      refine rl_aald_n 5 hC hW rfl hpa (by omega) (by decide) dX7_whyNotMade_15 ?_
      refine rl_topq (hq1) ?_
      refine lv_aload_n hx hb dX7_whyNotMade_16 rfl (lv_at hl 1 rfl) ?_
      refine rl_get (v := .ref (a + 1)) hC hW fl_X7_52 h0 rfl dX7_whyNotMade_17 ?_
      refine lv_iload_n hx hb dX7_whyNotMade_20 rfl (lv_at hl 2 rfl) ?_
      refine rl_lald_n hC hW h1 (by omega) (by omega) dX7_whyNotMade_21 ?_
      refine lv_aload_n hx hb dX7_whyNotMade_22 rfl (lv_at hl 1 rfl) ?_
      refine rl_get (v := .ref (a + 2)) hC hW fl_X7_56 h0 rfl dX7_whyNotMade_23 ?_
      refine lv_iload_n hx hb dX7_whyNotMade_26 rfl (lv_at hl 2 rfl) ?_
      refine rl_aald_n 3 hC hW rfl h2 (by omega) (by omega) dX7_whyNotMade_27 ?_
      obtain ⟨r1, er1⟩ : ∃ r : Option Nat, r = gt (i) := ⟨_, rfl⟩
      refine rl_topqq er1.symm ?_
      refine lv_aload_n hx hb dX7_whyNotMade_28 rfl (lv_at hl 0 rfl) ?_
      refine rl_get (v := .int (nI (j % 3))) hC hW fl_X7_15 hrv rfl dX7_whyNotMade_29 ?_
      refine rl_calliQ (rl_runV (b := q) (As := [.long (gn (i)), va_rf (r1), .int (nI (j % 3))]) (rest := []) hC hW (cC_whyNotTaken l D t A _ z x T ρ κ G E _ _ hI hT hG q j i hj hlt o hq3 hq4 _ (X i) r1 (er1.trans (hgtE i hlt)) (hX i hlt)) cs_X7_60 im_X4_whyNotTaken sl_X4_whyNotTaken hq3 rfl ⟨(Nat.le_of_ble_eq_true rfl), (Nat.le_of_ble_eq_true rfl)⟩ rfl hl.1 rfl (Nat.le_of_ble_eq_true rfl) dX7_whyNotMade_32 ⟨(Nat.le_of_ble_eq_true rfl), (Nat.le_of_ble_eq_true rfl)⟩) hW (fun r f1 H locs hp hW => ?_)
      obtain ⟨rfl, hp⟩ := hp
      rw [hgnE i hlt] at hp
      have hp2 : r = nI (pu_ta T G j N X i) := hp
      subst hp2
      refine lv_istore_n (lv' := [(3, .int (nI (pu_ta T G j N X i))), (0, .ref (x + 16 + 3 * j)), (1, .ref (a)), (2, .int (nI (i)))]) hx hb dX7_whyNotMade_35 rfl hl (by decide) rfl (fun ls hl => ?_)
      refine lv_iload_n hx hb dX7_whyNotMade_36 rfl (lv_at hl 0 rfl) ?_
      refine lv_if_eq (tgt := 42) hx hb dX7_whyNotMade_37 (by decide) (fun c2 => ?_) (fun c2 => ?_)
      · have h0c : pu_ta T G j N X i = 0 := (nI_eq (by have := pu_tk_le T G j i (N i) (X i); show pu_tk _ _ _ _ _ _ < _; omega) (by decide)).mp c2
        refine lv_iinc (v := (nI ((i) + 1))) (lv' := [(2, .int (nI ((i) + 1))), (3, .int (nI (pu_ta T G j N X i))), (0, .ref (x + 16 + 3 * j)), (1, .ref (a))]) hx hb dX7_whyNotMade_42 hl (k := 3) rfl (nI_1 _) (by decide) rfl (fun ls hl => ?_)
        refine lv_goto (tgt := 2) hx hb dX7_whyNotMade_45 (by decide) ?_
        replace hl : lv_has ls 4 [(0, .ref (x + 16 + 3 * j)), (1, .ref (a)), (2, .int (nI ((i) + 1)))] := lv_sub hl [2, 3, 0] rfl
        exact ih H locs hW ls (i + 1) (by omega) ((pu_fst_s hfs).trans h0c) hl (by omega)
      · have hne : pu_ta T G j N X i ≠ 0 := fun q => c2 (by rw [q]; rfl)
        have hwy : pu_why T G j N X = pu_ta T G j N X i := by rw [← pu_fst_s hfs] at hne ⊢; exact why_a hne (by omega)
        refine lv_iload_n hx hb dX7_whyNotMade_40 rfl (lv_at hl 0 rfl) ?_
        exact rl_iret hC hW hr hlk (Nat.le_refl _) (Nat.le_refl _) ⟨_, rfl, rfl, rfl, rfl, by rw [hwy]⟩ dX7_whyNotMade_41
