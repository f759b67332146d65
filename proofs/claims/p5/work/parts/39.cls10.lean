
/-- the shapes stay: records, rows, the lengths of arrays -/
def rl_sh (t : Nat → ClassId) (f f1 : rl_M) : Prop := ∀ q, (∀ fs, f q = some (.inr (6, fs)) → f1 q = some (.inr (6, fs))) ∧ (∀ fs, f q = some (.inr (8, fs)) → f1 q = some (.inr (8, fs))) ∧ (∀ n g, f q = some (.inl (t 0, n, .inl g)) → ∃ g', f1 q = some (.inl (t 0, n, .inl g'))) ∧ (∀ n g, f q = some (.inl (t 1, n, .inr (.inl g))) → ∃ g', f1 q = some (.inl (t 1, n, .inr (.inl g')))) ∧ ∀ n g, f q = some (.inl (t 3, n, .inr (.inr (.inr (.inr g))))) → ∃ g', f1 q = some (.inl (t 3, n, .inr (.inr (.inr (.inr g')))))
section SH
variable {t : Nat → ClassId} {f f1 f2 : rl_M} {x : Nat} {T : Nat → Nat → Nat} {Th : Nat → Prop}
theorem rl_le.sh (h : rl_le f f1) : rl_sh t f f1 := fun q => ⟨fun _ e => h _ _ e, fun _ e => h _ _ e, fun _ g e => ⟨g, h _ _ e⟩, fun _ g e => ⟨g, h _ _ e⟩, fun _ g e => ⟨g, h _ _ e⟩⟩
theorem rl_sh.rf (f : rl_M) : rl_sh t f f := (rl_le.rf f).sh
theorem rl_sh.tr (a : rl_sh t f f1) (b : rl_sh t f1 f2) : rl_sh t f f2 := fun q => ⟨fun fs e => (b q).1 fs ((a q).1 fs e), fun fs e => (b q).2.1 fs ((a q).2.1 fs e), fun n g e => by
    obtain ⟨g', e'⟩ := (a q).2.2.1 n g e
    exact (b q).2.2.1 n g' e', fun n g e => by
    obtain ⟨g', e'⟩ := (a q).2.2.2.1 n g e
    exact (b q).2.2.2.1 n g' e', fun n g e => by
    obtain ⟨g', e'⟩ := (a q).2.2.2.2 n g e
    exact (b q).2.2.2.2 n g' e'⟩
theorem rl_sh.long {a n : Nat} {g g2 : Nat → Int64} (h : f a = some (.inl (t 1, n, .inr (.inl g)))) : rl_sh t f (rl_up f a (.inl (t 1, n, .inr (.inl g2)))) := fun q => by
  by_cases hq : q = a
  · subst hq
    refine ⟨fun fs e => ?_, fun fs e => ?_, fun n' g' e => ?_, fun n' g' e => ?_, fun n' g' e => ?_⟩ <;> rw [h] at e
    · simp at e
    · simp at e
    · simp at e
    · have hn : n = n' := by simpa using congrArg (fun o : Option va_E => match o with | some (.inl (_, k, _)) => k | _ => 0) e
      subst hn
      exact ⟨g2, rl_up_s _ _ _⟩
    · simp at e
  · rw [rl_up_n hq]
    exact rl_sh.rf f q
theorem rl_sh.int {a n : Nat} {g g2 : Nat → Int32} (h : f a = some (.inl (t 0, n, .inl g))) : rl_sh t f (rl_up f a (.inl (t 0, n, .inl g2))) := fun q => by
  by_cases hq : q = a
  · subst hq
    refine ⟨fun fs e => ?_, fun fs e => ?_, fun n' g' e => ?_, fun n' g' e => ?_, fun n' g' e => ?_⟩ <;> rw [h] at e
    · simp at e
    · simp at e
    · have hn : n = n' := by simpa using congrArg (fun o : Option va_E => match o with | some (.inl (_, k, _)) => k | _ => 0) e
      subst hn
      exact ⟨g2, rl_up_s _ _ _⟩
    · simp at e
    · simp at e
  · rw [rl_up_n hq]
    exact rl_sh.rf f q
theorem rl_sh.refs {a n : Nat} {g g2 : Nat → Option Nat} (h : f a = some (.inl (t 3, n, .inr (.inr (.inr (.inr g)))))) : rl_sh t f (rl_up f a (.inl (t 3, n, .inr (.inr (.inr (.inr g2)))))) := fun q => by
  by_cases hq : q = a
  · subst hq
    refine ⟨fun fs e => ?_, fun fs e => ?_, fun n' g' e => ?_, fun n' g' e => ?_, fun n' g' e => ?_⟩ <;> rw [h] at e
    · simp at e
    · simp at e
    · simp at e
    · simp at e
    · have hn : n = n' := by simpa using congrArg (fun o : Option va_E => match o with | some (.inl (_, k, _)) => k | _ => 0) e
      subst hn
      exact ⟨g2, rl_up_s _ _ _⟩
  · rw [rl_up_n hq]
    exact rl_sh.rf f q
theorem rl_sh.obj {a ci : Nat} {fs fs2 : List Value} (h : f a = some (.inr (ci, fs))) (h6 : ci ≠ 6) (h8 : ci ≠ 8) : rl_sh t f (rl_up f a (.inr (ci, fs2))) := fun q => by
  by_cases hq : q = a
  · subst hq
    refine ⟨fun fs e => ?_, fun fs e => ?_, fun n' g' e => ?_, fun n' g' e => ?_, fun n' g' e => ?_⟩ <;> rw [h] at e
    · cases e; exact absurd rfl h6
    · cases e; exact absurd rfl h8
    · simp at e
    · simp at e
    · simp at e
  · rw [rl_up_n hq]
    exact rl_sh.rf f q
/-- the objects stay -/
def rl_ob (f f1 : rl_M) : Prop := ∀ q p, f q = some (.inr p) → f1 q = some (.inr p)
theorem rl_ob.arr {a : Nat} {p p2 : ClassId × vp_A} (h : f a = some (.inl p)) : rl_ob f (rl_up f a (.inl p2)) := fun q p e => by rw [rl_up_n (rl_ne e h (by simp))]; exact e
/-- a draft: a record with all of its version's parts -/
def cDR (t : Nat → ClassId) (f : rl_M) (x : Nat) (T : Nat → Nat → Nat) (a j nu th : Nat) : Prop := j < 12 ∧ x + 58 ≤ nu ∧ x + 58 ≤ th ∧ f a = some (.inr (6, [.ref (x + 16 + 3 * j), .ref nu, .ref th])) ∧ (∃ gn : Nat → Int64, f nu = some (.inl (t 1, T 2 j, .inr (.inl gn)))) ∧ ∃ gt : Nat → Option Nat, f th = some (.inl (t 3, T 2 j, .inr (.inr (.inr (.inr gt)))))
theorem cDR.sh {a j nu th : Nat} (h : cDR t f x T a j nu th) (hs : rl_sh t f f1) : cDR t f1 x T a j nu th := by
  obtain ⟨h1, h2, h3, h4, ⟨gn, h5⟩, ⟨gt, h6⟩⟩ := h
  exact ⟨h1, h2, h3, (hs a).1 _ h4, (hs nu).2.2.2.1 _ _ h5, (hs th).2.2.2.2 _ _ h6⟩
theorem cDR.op {a j nu th : Nat} (h : cDR t f x T a j nu th) (hT : cTH t f x T Th a) : ∃ (gn : Nat → Int64) (gt : Nat → Option Nat), f nu = some (.inl (t 1, T 2 j, .inr (.inl gn))) ∧ f th = some (.inl (t 3, T 2 j, .inr (.inr (.inr (.inr gt))))) ∧ ∀ i, i < T 2 j → ∀ q, gt i = some q → Th q := by
  obtain ⟨h1, h2, h3, h4, ⟨gn, h5⟩, ⟨gt, h6⟩⟩ := h
  refine ⟨gn, gt, h5, h6, ?_⟩
  obtain ⟨-, hT | hT | hT⟩ := hT
  · obtain ⟨b, nm, o, lo, -, e⟩ := hT
    rw [h4] at e
    cases e
  · obtain ⟨r, n, g, -, -, e, -⟩ := hT
    rw [h4] at e
    cases e
  · obtain ⟨j', nu', th', n, gn', gt', -, -, -, -, e1, -, e3, e4⟩ := hT
    rw [h4] at e1
    have ht : th = th' := by simp at e1; exact e1.2.2
    subst ht
    rw [h6] at e3
    have hn : T 2 j = n := by simpa using congrArg (fun o : Option va_E => match o with | some (.inl (_, k, _)) => k | _ => 0) e3
    subst hn
    have hg : gt = gt' := by simpa using e3
    subst hg
    exact e4
end SH
theorem rg_lxx {y : Int64} {n : Nat} (h1 : ¬ y < 0) (h2 : y < (nI n).toInt64) (hn : n < 2 ^ 31) : ∃ i : Nat, i < n ∧ y = lN i := by
  rw [nI_l hn, Int64.lt_iff_toInt_lt, lN_toInt (by omega)] at h2
  rw [Int64.lt_iff_toInt_lt, show (0 : Int64).toInt = 0 by decide] at h1
  refine ⟨y.toInt.toNat, by omega, ?_⟩
  apply Int64.toInt_inj.mp
  rw [lN_toInt (by omega)]
  omega
def rt_pk (T : Nat → Nat → Nat) : Prop := ∃ a7 a8 a9 a10 : Nat → Int32, RTk T a7 a8 a9 a10

set_option maxHeartbeats 4000000 in
set_option maxRecDepth 100000 in
theorem cC_Rec_init (l : Launch) (D : va_G) (t : Nat → ClassId) (A : Nat → Prop) (f : rl_M) (z : Nat) (x : Nat) (T : Nat → Nat → Nat) (Th : Nat → Prop) (hI : CI t f x T Th) (a j : Nat) (hj : j < 12) (h0 : f a = some (.inr (6, [.null, .null, .null]))) : rl_Met l yX6_init (.code yX6_init cX6_init 2 none) (rl_rm 2 2 10) D t A f z [.ref (a), .ref (x + 16 + 3 * j)] (rl_pv fun f1 z1 d1 => f1 a = some (.inr (6, [.ref (x + 16 + 3 * j), .ref z, .ref (z + 1)])) ∧ f1 z = some (.inl (t 1, T 2 j, .inr (.inl (fun _ => 0)))) ∧ f1 (z + 1) = some (.inl (t 3, T 2 j, .inr (.inr (.inr (.inr (fun _ => none)))))) ∧ (∀ q e, f q = some e → q ≠ a → f1 q = some e) ∧ z1 = z + 2 ∧ d1 ≤ 10) := by
  refine rl_begin (own := RX6) (lv := [(0, .ref (a)), (1, .ref (x + 16 + 3 * j))]) (by decide +kernel) rfl (Nat.le_of_ble_eq_true rfl) rfl fun p e s m0 args below meth c ls H locs hC hr hlk hnm hW hl hx hb => ?_
  have hW0 := hW
  have hzx : x + 58 ≤ z := by obtain ⟨-, -, -, -, -, -, ⟨-, -, ⟨g9, e9⟩⟩, -⟩ := id hI; exact hW.lt e9
  obtain ⟨hrv, hj5, -⟩ := id (hI.2.2.1 j hj)
  have hfz := hW.fresh
  have hne := rl_ne0 h0 hfz
  have hnr : x + 16 + 3 * j ≠ a := rl_ne hrv h0 (by simp)
  have haz : a < z := hW.lt h0
  refine lv_aload_n hx hb dX6_init_0 rfl (lv_at hl 0 rfl) ?_
  refine rl_callvQ (rl_runI (b := a) (As := []) (rest := []) hC hW (cC_Thing_init l D t A _ z a) cs_X6_3 im_X10_init rfl ⟨(Nat.le_of_ble_eq_true rfl), (Nat.le_of_ble_eq_true rfl)⟩ rfl hl.1 rfl (Nat.le_of_ble_eq_true rfl) dX6_init_1 ⟨by simp only [rl_rm]; omega, by simp only [rl_rm]; omega⟩) hW (fun f1 H locs hp hW => ?_)
  obtain rfl := hp
  refine lv_aload_n hx hb dX6_init_4 rfl (lv_at hl 0 rfl) ?_
  refine lv_aload_n hx hb dX6_init_5 rfl (lv_at hl 1 rfl) ?_
  refine rl_putF (v := .ref (x + 16 + 3 * j)) hC hW fp_X6_9 hnm h0 (Nat.le_of_ble_eq_true rfl) rfl rfl dX6_init_6 (fun H locs hW => ?_)
  replace hW : rl_W D A (rl_up _ a (.inr (6, [.ref (x + 16 + 3 * j), .null, .null]))) z s.heap H locs := hW
  have hr1 := (rl_up_n (f := f) (e := .inr (6, [.ref (x + 16 + 3 * j), .null, .null])) hnr).trans hrv
  refine lv_aload_n hx hb dX6_init_9 rfl (lv_at hl 0 rfl) ?_
  refine lv_aload_n hx hb dX6_init_10 rfl (lv_at hl 1 rfl) ?_
  refine rl_get (v := .int (nI (T 2 j))) hC hW fl_X6_15 hr1 rfl dX6_init_11 ?_
  refine rl_newl (N' := T 2 j) hC hW mw_122 (nI_pos (by omega)) (nI_clamp (by omega)) (by omega) (by simp only [rl_rm]; omega) (by simp only [rl_rm]; omega) dX6_init_14 (fun H hW => ?_)
  refine rl_putF (v := .ref (z)) hC hW fp_X6_21 hnm ((rl_up_n hne).trans (rl_up_s _ _ _)) (Nat.le_of_ble_eq_true rfl) rfl rfl dX6_init_16 (fun H locs hW => ?_)
  replace hW : rl_W D A (rl_up _ a (.inr (6, [.ref (x + 16 + 3 * j), .ref z, .null]))) (z + 1) s.heap H locs := hW
  have hr2 := (rl_up_n (f := rl_up (rl_up f a (.inr (6, [.ref (x + 16 + 3 * j), .null, .null]))) z (.inl (t 1, T 2 j, .inr (.inl (fun _ => 0))))) (e := .inr (6, [.ref (x + 16 + 3 * j), .ref z, .null])) hnr).trans ((rl_up_n (by omega)).trans hr1)
  refine lv_aload_n hx hb dX6_init_19 rfl (lv_at hl 0 rfl) ?_
  refine lv_aload_n hx hb dX6_init_20 rfl (lv_at hl 1 rfl) ?_
  refine rl_get (v := .int (nI (T 2 j))) hC hW fl_X6_15 hr2 rfl dX6_init_21 ?_
  refine rl_newq 3 (N' := T 2 j) hC hW rfl mw_344 mt_98 (nI_pos (by omega)) (nI_clamp (by omega)) (by omega) (by simp only [rl_rm]; omega) (by simp only [rl_rm]; omega) dX6_init_24 (fun H hW => ?_)
  refine rl_putF (v := .ref (z + 1)) hC hW fp_X6_25 hnm ((rl_up_n (by omega)).trans (rl_up_s _ _ _)) (Nat.le_of_ble_eq_true rfl) rfl rfl dX6_init_27 (fun H locs hW => ?_)
  replace hW : rl_W D A (rl_up _ a (.inr (6, [.ref (x + 16 + 3 * j), .ref z, .ref (z + 1)]))) (z + 1 + 1) s.heap H locs := hW
  exact rl_vret hC hW hr hlk (by simp only [rl_rm]; omega) (by simp only [rl_rm]; omega) ⟨rfl, rl_up_s _ _ _, (by rw [rl_up_n (by omega), rl_up_n (by omega), rl_up_n (by omega)]; exact rl_up_s _ _ _), (by rw [rl_up_n (by omega)]; exact rl_up_s _ _ _), (fun q e hq hqa => by have := hW0.lt hq; rw [rl_up_n hqa, rl_up_n (by omega), rl_up_n hqa, rl_up_n (by omega), rl_up_n hqa]; exact hq), rfl, by omega⟩ dX6_init_30

theorem va_up_all {n p0 : Nat} {gt : Nat → Option Nat} {r0 : Option Nat} {Th : Nat → Prop} (h3 : ∀ i, i < n → ∀ q, gt i = some q → Th q) (hr : ∀ q, r0 = some q → Th q) : ∀ i, i < n → ∀ q, va_up gt p0 r0 i = some q → Th q := fun i hi q e => by
  unfold va_up at e
  split at e
  · exact hr q e
  · exact h3 i hi q e

set_option maxHeartbeats 4000000 in
set_option maxRecDepth 100000 in
theorem cC_Rec_put (l : Launch) (D : va_G) (t : Nat → ClassId) (A : Nat → Prop) (f : rl_M) (z : Nat) (x : Nat) (T : Nat → Nat → Nat) (Th : Nat → Prop) (hI : CI t f x T Th) (hTP : rt_pure T) (a j nu th : Nat) (hTa : Th a) (hD : cDR t f x T a j nu th) (p0 : Nat) (hp0 : p0 < T 2 j) (y : Int64) (r0 : Option Nat) (hr0 : ∀ q, r0 = some q → Th q) : rl_Met l yX6_put (.code yX6_put cX6_put 5 none) (rl_rm 1 0 0) D t A f z [.ref (a), .int (nI (p0)), .long (y), va_rf (r0)] (rl_qv z fun f1 => CI t f1 x T Th ∧ rl_sh t f f1 ∧ rl_ob f f1) := by
  refine rl_begin (own := RX6) (lv := [(0, .ref (a)), (1, .int (nI (p0))), (2, .long (y)), (4, va_rf (r0))]) (by decide +kernel) rfl (by cases r0 <;> exact Nat.le_of_ble_eq_true rfl) (by cases r0 <;> rfl) fun p e s m0 args below meth c ls H locs hC hr hlk hnm hW hl hx hb => ?_
  obtain ⟨hj, hnu, hth, h0, -⟩ := id hD
  obtain ⟨gn, gt, h1, h2, h3⟩ := hD.op (hI.th hTa)
  obtain ⟨hrv, hj5, hj2, ⟨gp, hpa, hpp⟩, ⟨gk, hka, hkk⟩⟩ := id (hI.2.2.1 j hj)
  have hs4 := hTP.s4 hj hp0
  refine lv_aload_n hx hb dX6_put_0 rfl (lv_at hl 0 rfl) ?_
  refine lv_iload_n hx hb dX6_put_1 rfl (lv_at hl 1 rfl) ?_
  refine rl_calliQ (rl_runV (b := a) (As := [.int (nI (p0))]) (rest := []) hC hW (cC_isNumber l D t A _ z x T Th hI a j nu th p0 hj hp0 (by omega) h0) cs_X6_44 im_X6_isNumber sl_X6_isNumber h0 rfl ⟨(Nat.le_of_ble_eq_true rfl), (Nat.le_of_ble_eq_true rfl)⟩ rfl hl.1 rfl (Nat.le_of_ble_eq_true rfl) dX6_put_2 ⟨(Nat.le_of_ble_eq_true rfl), (Nat.le_of_ble_eq_true rfl)⟩) hW (fun r f1 H locs hp hW => ?_)
  obtain ⟨rfl, hp⟩ := hp
  rcases hp with ⟨rfl, hp⟩ | ⟨rfl, hp⟩
  · refine lv_if_eq (tgt := 18) hx hb dX6_put_5 (by decide) (fun c1 => ?_) (fun c1 => ?_)
    · exact absurd c1 (by decide)
    · refine lv_aload_n hx hb dX6_put_8 rfl (lv_at hl 0 rfl) ?_
      refine rl_get (v := .ref (nu)) hC hW fl_X6_21 h0 rfl dX6_put_9 ?_
      refine lv_iload_n hx hb dX6_put_12 rfl (lv_at hl 1 rfl) ?_
      refine lv_lload_n hx hb dX6_put_13 rfl (lv_at hl 2 rfl) ?_
      refine rl_last_n hC hW h1 (by omega) (by omega) dX6_put_14 (fun H locs hW => ?_)
      replace hI := CI.long (g2 := vp_updL gn p0 y) hI hnu h1
      refine lv_goto (tgt := 26) hx hb dX6_put_15 (by decide) ?_
      exact rl_vret hC hW hr hlk (Nat.le_refl _) (Nat.le_refl _) ⟨rfl, rfl, rfl, hI, rl_sh.long h1, rl_ob.arr h1⟩ dX6_put_26
  · refine lv_if_eq (tgt := 18) hx hb dX6_put_5 (by decide) (fun c1 => ?_) (fun c1 => ?_)
    · refine lv_aload_n hx hb dX6_put_18 rfl (lv_at hl 0 rfl) ?_
      refine rl_get (v := .ref (th)) hC hW fl_X6_25 h0 rfl dX6_put_19 ?_
      refine lv_iload_n hx hb dX6_put_22 rfl (lv_at hl 1 rfl) ?_
      refine rl_aloadq hx hb dX6_put_23 (lv_at hl 3 rfl) ?_
      refine rl_astT (r := r0) (x := x) (T := T) (Th := Th) hC hW h2 (fun q e => hI.th (hr0 q e)) (by omega) (by omega) dX6_put_25 (fun H locs hW => ?_)
      replace hI := CI.refs (g2 := va_up gt p0 r0) hI hth h2 (va_up_all h3 hr0)
      exact rl_vret hC hW hr hlk (Nat.le_refl _) (Nat.le_refl _) ⟨rfl, rfl, rfl, hI, rl_sh.refs h2, rl_ob.arr h2⟩ dX6_put_26
    · exact absurd rfl c1

set_option maxHeartbeats 4000000 in
set_option maxRecDepth 100000 in
theorem cC_isOfClass (l : Launch) (D : va_G) (t : Nat → ClassId) (A : Nat → Prop) (f : rl_M) (z : Nat) (x : Nat) (T : Nat → Nat → Nat) (Th : Nat → Prop) (hI : CI t f x T Th) (a s0 q : Nat) (pn po : Int32) (hs2 : 2 ≤ s0) (hs5 : s0 < 5) (hP : f a = some (.inr (4, [.int pn, .int (nI s0), .int po]))) (hTh : cTH t f x T Th q) : rl_Met l yX4_isOfClass (.code yX4_isOfClass cX4_isOfClass 2 (some FieldType.boolean)) (rl_rm 0 0 0) D t A f z [.ref (a), .ref (q)] (rl_qi z fun r f1 => f = f1) := by
  refine rl_begin (own := RX4) (lv := [(0, .ref (a)), (1, .ref (q))]) (by decide +kernel) rfl (Nat.le_of_ble_eq_true rfl) rfl fun p e s m0 args below meth c ls H locs hC hr hlk hnm hW hl hx hb => ?_
  have hs9 : s0 = 2 ∨ s0 = 3 ∨ s0 = 4 := by omega
  rcases hs9 with rfl | rfl | rfl
  · refine lv_aload_n hx hb dX4_isOfClass_0 rfl (lv_at hl 0 rfl) ?_
    refine rl_get (v := .int (nI (2))) hC hW fl_X4_15 hP rfl dX4_isOfClass_1 ?_
    refine lv_lookup (tgt := 32) hx hb dX4_isOfClass_4 (by decide) rfl (by decide) ?_
    obtain ⟨hge, hTh⟩ := hTh
    rcases hTh with hTh | hTh | hTh
    · obtain ⟨bb, nm, o, lo, hbb, h0⟩ := hTh
      obtain ⟨h1, -⟩ := hI.2.1 bb hbb
      refine lv_aload_n hx hb dX4_isOfClass_32 rfl (lv_at hl 1 rfl) ?_
      refine rl_instY hC hW h0 rfl mw_391 mt_997 dX4_isOfClass_33 ?_
      refine rl_topn (y := nI 1) (by decide) ?_
      exact rl_zret hC hW hr hlk rfl (Nat.le_refl _) (Nat.le_refl _) ⟨_, rfl, rfl, rfl, rfl⟩ dX4_isOfClass_36
    · obtain ⟨rr, n, g, hrr, hn8, h0, h1⟩ := hTh
      refine lv_aload_n hx hb dX4_isOfClass_32 rfl (lv_at hl 1 rfl) ?_
      refine rl_instNo hC hW h0 rfl mw_391 (by decide) dX4_isOfClass_33 ?_
      refine rl_topn (y := nI 0) (by decide) ?_
      exact rl_zret hC hW hr hlk rfl (Nat.le_refl _) (Nat.le_refl _) ⟨_, rfl, rfl, rfl, rfl⟩ dX4_isOfClass_36
    · obtain ⟨j, nu, th, n, gn, gt, hj, hnu, hth, hnT, h0, h1, h2, h3⟩ := hTh
      obtain ⟨hrv, hj5, hj2, hpa, hka⟩ := id (hI.2.2.1 j hj)
      refine lv_aload_n hx hb dX4_isOfClass_32 rfl (lv_at hl 1 rfl) ?_
      refine rl_instNo hC hW h0 rfl mw_391 (by decide) dX4_isOfClass_33 ?_
      refine rl_topn (y := nI 0) (by decide) ?_
      exact rl_zret hC hW hr hlk rfl (Nat.le_refl _) (Nat.le_refl _) ⟨_, rfl, rfl, rfl, rfl⟩ dX4_isOfClass_36
  · refine lv_aload_n hx hb dX4_isOfClass_0 rfl (lv_at hl 0 rfl) ?_
    refine rl_get (v := .int (nI (3))) hC hW fl_X4_15 hP rfl dX4_isOfClass_1 ?_
    refine lv_lookup (tgt := 37) hx hb dX4_isOfClass_4 (by decide) rfl (by decide) ?_
    obtain ⟨hge, hTh⟩ := hTh
    rcases hTh with hTh | hTh | hTh
    · obtain ⟨bb, nm, o, lo, hbb, h0⟩ := hTh
      obtain ⟨h1, -⟩ := hI.2.1 bb hbb
      refine lv_aload_n hx hb dX4_isOfClass_37 rfl (lv_at hl 1 rfl) ?_
      refine rl_instNo hC hW h0 rfl mw_392 (by decide) dX4_isOfClass_38 ?_
      refine rl_topn (y := nI 0) (by decide) ?_
      exact rl_zret hC hW hr hlk rfl (Nat.le_refl _) (Nat.le_refl _) ⟨_, rfl, rfl, rfl, rfl⟩ dX4_isOfClass_41
    · obtain ⟨rr, n, g, hrr, hn8, h0, h1⟩ := hTh
      refine lv_aload_n hx hb dX4_isOfClass_37 rfl (lv_at hl 1 rfl) ?_
      refine rl_instNo hC hW h0 rfl mw_392 (by decide) dX4_isOfClass_38 ?_
      refine rl_topn (y := nI 0) (by decide) ?_
      exact rl_zret hC hW hr hlk rfl (Nat.le_refl _) (Nat.le_refl _) ⟨_, rfl, rfl, rfl, rfl⟩ dX4_isOfClass_41
    · obtain ⟨j, nu, th, n, gn, gt, hj, hnu, hth, hnT, h0, h1, h2, h3⟩ := hTh
      obtain ⟨hrv, hj5, hj2, hpa, hka⟩ := id (hI.2.2.1 j hj)
      refine lv_aload_n hx hb dX4_isOfClass_37 rfl (lv_at hl 1 rfl) ?_
      refine rl_instY hC hW h0 rfl mw_392 mt_998 dX4_isOfClass_38 ?_
      refine rl_topn (y := nI 1) (by decide) ?_
      exact rl_zret hC hW hr hlk rfl (Nat.le_refl _) (Nat.le_refl _) ⟨_, rfl, rfl, rfl, rfl⟩ dX4_isOfClass_41
  · refine lv_aload_n hx hb dX4_isOfClass_0 rfl (lv_at hl 0 rfl) ?_
    refine rl_get (v := .int (nI (4))) hC hW fl_X4_15 hP rfl dX4_isOfClass_1 ?_
    refine lv_lookup (tgt := 42) hx hb dX4_isOfClass_4 (by decide) rfl (by decide) ?_
    obtain ⟨hge, hTh⟩ := hTh
    rcases hTh with hTh | hTh | hTh
    · obtain ⟨bb, nm, o, lo, hbb, h0⟩ := hTh
      obtain ⟨h1, -⟩ := hI.2.1 bb hbb
      refine lv_aload_n hx hb dX4_isOfClass_42 rfl (lv_at hl 1 rfl) ?_
      refine rl_instNo hC hW h0 rfl mw_393 (by decide) dX4_isOfClass_43 ?_
      refine rl_topn (y := nI 0) (by decide) ?_
      exact rl_zret hC hW hr hlk rfl (Nat.le_refl _) (Nat.le_refl _) ⟨_, rfl, rfl, rfl, rfl⟩ dX4_isOfClass_46
    · obtain ⟨rr, n, g, hrr, hn8, h0, h1⟩ := hTh
      refine lv_aload_n hx hb dX4_isOfClass_42 rfl (lv_at hl 1 rfl) ?_
      refine rl_instY hC hW h0 rfl mw_393 mt_996 dX4_isOfClass_43 ?_
      refine rl_topn (y := nI 1) (by decide) ?_
      exact rl_zret hC hW hr hlk rfl (Nat.le_refl _) (Nat.le_refl _) ⟨_, rfl, rfl, rfl, rfl⟩ dX4_isOfClass_46
    · obtain ⟨j, nu, th, n, gn, gt, hj, hnu, hth, hnT, h0, h1, h2, h3⟩ := hTh
      obtain ⟨hrv, hj5, hj2, hpa, hka⟩ := id (hI.2.2.1 j hj)
      refine lv_aload_n hx hb dX4_isOfClass_42 rfl (lv_at hl 1 rfl) ?_
      refine rl_instNo hC hW h0 rfl mw_393 (by decide) dX4_isOfClass_43 ?_
      refine rl_topn (y := nI 0) (by decide) ?_
      exact rl_zret hC hW hr hlk rfl (Nat.le_refl _) (Nat.le_refl _) ⟨_, rfl, rfl, rfl, rfl⟩ dX4_isOfClass_46

set_option maxHeartbeats 4000000 in
set_option maxRecDepth 100000 in
theorem cC_whyNotTaken (l : Launch) (D : va_G) (t : Nat → ClassId) (A : Nat → Prop) (f : rl_M) (z : Nat) (x : Nat) (T : Nat → Nat → Nat) (Th : Nat → Prop) (hI : CI t f x T Th) (a s0 : Nat) (pn po : Int32) (hs5 : s0 < 5) (hP : f a = some (.inr (4, [.int pn, .int (nI s0), .int po]))) (y : Int64) (r0 : Option Nat) (hr0 : ∀ q, r0 = some q → cTH t f x T Th q) (v : Int32) : rl_Met l yX4_whyNotTaken (.code yX4_whyNotTaken cX4_whyNotTaken 5 (some FieldType.int)) (rl_rm 1 0 0) D t A f z [.ref (a), .long (y), va_rf (r0), .int (v)] (rl_qi z fun r f1 => f = f1) := by
  refine rl_begin (own := RX4) (lv := [(0, .ref (a)), (1, .long (y)), (3, va_rf (r0)), (4, .int (v))]) (by decide +kernel) rfl (by cases r0 <;> exact Nat.le_of_ble_eq_true rfl) (by cases r0 <;> rfl) fun p e s m0 args below meth c ls H locs hC hr hlk hnm hW hl hx hb => ?_
  have hs9 : s0 = 0 ∨ s0 = 1 ∨ s0 = 2 ∨ s0 = 3 ∨ s0 = 4 := by omega
  rcases hs9 with rfl | rfl | rfl | rfl | rfl
  · refine lv_aload_n hx hb dX4_whyNotTaken_0 rfl (lv_at hl 0 rfl) ?_
    refine rl_get (v := .int (nI (0))) hC hW fl_X4_15 hP rfl dX4_whyNotTaken_1 ?_
    refine lv_if_ne (tgt := 21) hx hb dX4_whyNotTaken_4 (by decide) (fun c_1 => ?_) (fun c_1 => ?_)
    · first | exact absurd c_1 (by decide) | exact absurd (by decide) c_1
    · refine lv_lload_n hx hb dX4_whyNotTaken_7 rfl (lv_at hl 1 rfl) ?_
      refine lv_lload_n hx hb dX4_whyNotTaken_8 rfl (lv_at hl 1 rfl) ?_
      refine lv_l2i hx hb dX4_whyNotTaken_9 rfl ?_
      refine lv_i2l hx hb dX4_whyNotTaken_10 rfl ?_
      refine W.lcmp hx hb dX4_whyNotTaken_11 ?_
      refine lv_if_ne (tgt := 19) hx hb dX4_whyNotTaken_12 (by decide) (fun c_2 => ?_) (fun c_2 => ?_)
      · refine lv_iconst (v := (nI (2))) hx hb dX4_whyNotTaken_19 (by decide) ?_
        exact rl_iret hC hW hr hlk (Nat.le_refl _) (Nat.le_refl _) ⟨_, rfl, rfl, rfl, rfl⟩ dX4_whyNotTaken_20
      · refine lv_iconst (v := (nI (0))) hx hb dX4_whyNotTaken_15 (by decide) ?_
        refine lv_goto (tgt := 20) hx hb dX4_whyNotTaken_16 (by decide) ?_
        exact rl_iret hC hW hr hlk (Nat.le_refl _) (Nat.le_refl _) ⟨_, rfl, rfl, rfl, rfl⟩ dX4_whyNotTaken_20
  · refine lv_aload_n hx hb dX4_whyNotTaken_0 rfl (lv_at hl 0 rfl) ?_
    refine rl_get (v := .int (nI (1))) hC hW fl_X4_15 hP rfl dX4_whyNotTaken_1 ?_
    refine lv_if_ne (tgt := 21) hx hb dX4_whyNotTaken_4 (by decide) (fun c_3 => ?_) (fun c_3 => ?_)
    · refine lv_aload_n hx hb dX4_whyNotTaken_21 rfl (lv_at hl 0 rfl) ?_
      refine rl_get (v := .int (nI (1))) hC hW fl_X4_15 hP rfl dX4_whyNotTaken_22 ?_
      refine lv_iconst (v := (nI (1))) hx hb dX4_whyNotTaken_25 (by decide) ?_
      refine lv_icmp_eq (tgt := 33) hx hb dX4_whyNotTaken_26 (by decide) (fun c_4 => ?_) (fun c_4 => ?_)
      · refine lv_iconst (v := (nI (0))) hx hb dX4_whyNotTaken_33 (by decide) ?_
        exact rl_iret hC hW hr hlk (Nat.le_refl _) (Nat.le_refl _) ⟨_, rfl, rfl, rfl, rfl⟩ dX4_whyNotTaken_34
      · first | exact absurd c_4 (by decide) | exact absurd (by decide) c_4
    · first | exact absurd c_3 (by decide) | exact absurd (by decide) c_3
  · rcases r0 with _ | q
    · refine lv_aload_n hx hb dX4_whyNotTaken_0 rfl (lv_at hl 0 rfl) ?_
      refine rl_get (v := .int (nI (2))) hC hW fl_X4_15 hP rfl dX4_whyNotTaken_1 ?_
      refine lv_if_ne (tgt := 21) hx hb dX4_whyNotTaken_4 (by decide) (fun c_5 => ?_) (fun c_5 => ?_)
      · refine lv_aload_n hx hb dX4_whyNotTaken_21 rfl (lv_at hl 0 rfl) ?_
        refine rl_get (v := .int (nI (2))) hC hW fl_X4_15 hP rfl dX4_whyNotTaken_22 ?_
        refine lv_iconst (v := (nI (1))) hx hb dX4_whyNotTaken_25 (by decide) ?_
        refine lv_icmp_eq (tgt := 33) hx hb dX4_whyNotTaken_26 (by decide) (fun c_6 => ?_) (fun c_6 => ?_)
        · first | exact absurd c_6 (by decide) | exact absurd (by decide) c_6
        · refine lv_aload_nN hx hb dX4_whyNotTaken_29 rfl (lv_at hl 2 rfl) ?_
          refine lv_ifnonnullN hx hb dX4_whyNotTaken_30 ?_
          refine lv_iconst (v := (nI (0))) hx hb dX4_whyNotTaken_33 (by decide) ?_
          exact rl_iret hC hW hr hlk (Nat.le_refl _) (Nat.le_refl _) ⟨_, rfl, rfl, rfl, rfl⟩ dX4_whyNotTaken_34
      · first | exact absurd c_5 (by decide) | exact absurd (by decide) c_5
    · have hTh := hr0 q rfl
      refine lv_aload_n hx hb dX4_whyNotTaken_0 rfl (lv_at hl 0 rfl) ?_
      refine rl_get (v := .int (nI (2))) hC hW fl_X4_15 hP rfl dX4_whyNotTaken_1 ?_
      refine lv_if_ne (tgt := 21) hx hb dX4_whyNotTaken_4 (by decide) (fun c_7 => ?_) (fun c_7 => ?_)
      · refine lv_aload_n hx hb dX4_whyNotTaken_21 rfl (lv_at hl 0 rfl) ?_
        refine rl_get (v := .int (nI (2))) hC hW fl_X4_15 hP rfl dX4_whyNotTaken_22 ?_
        refine lv_iconst (v := (nI (1))) hx hb dX4_whyNotTaken_25 (by decide) ?_
        refine lv_icmp_eq (tgt := 33) hx hb dX4_whyNotTaken_26 (by decide) (fun c_8 => ?_) (fun c_8 => ?_)
        · first | exact absurd c_8 (by decide) | exact absurd (by decide) c_8
        · refine lv_aload_n hx hb dX4_whyNotTaken_29 rfl (lv_at hl 2 rfl) ?_
          refine lv_ifnonnull (tgt := 35) hx hb dX4_whyNotTaken_30 (by decide) ?_
          refine lv_aload_n hx hb dX4_whyNotTaken_35 rfl (lv_at hl 0 rfl) ?_
          refine lv_aload_n hx hb dX4_whyNotTaken_36 rfl (lv_at hl 2 rfl) ?_
          refine rl_calliQ (rl_runV (b := a) (As := [.ref (q)]) (rest := []) hC hW (cC_isOfClass l D t A _ z x T Th hI a 2 q pn po (by decide) (by decide) hP hTh) cs_X4_21 im_X4_isOfClass sl_X4_isOfClass hP rfl ⟨(Nat.le_of_ble_eq_true rfl), (Nat.le_of_ble_eq_true rfl)⟩ rfl hl.1 rfl (Nat.le_of_ble_eq_true rfl) dX4_whyNotTaken_37 ⟨(Nat.le_of_ble_eq_true rfl), (Nat.le_of_ble_eq_true rfl)⟩) hW (fun r f1 H locs hp hW => ?_)
          obtain rfl := hp
          obtain ⟨hge, hTh⟩ := hTh
          rcases hTh with hTh | hTh | hTh
          · obtain ⟨bb, nm, o, lo, hbb, h0⟩ := hTh
            obtain ⟨h1, -⟩ := hI.2.1 bb hbb
            refine lv_if_ne (tgt := 45) hx hb dX4_whyNotTaken_40 (by decide) (fun c_9 => ?_) (fun c_9 => ?_)
            · refine lv_aload_n hx hb dX4_whyNotTaken_45 rfl (lv_at hl 0 rfl) ?_
              refine rl_get (v := .int (nI (2))) hC hW fl_X4_15 hP rfl dX4_whyNotTaken_46 ?_
              refine lv_iconst (v := (nI (4))) hx hb dX4_whyNotTaken_49 (by decide) ?_
              refine lv_icmp_eq (tgt := 73) hx hb dX4_whyNotTaken_50 (by decide) (fun c_10 => ?_) (fun c_10 => ?_)
              · first | exact absurd c_10 (by decide) | exact absurd (by decide) c_10
              · refine lv_aload_n hx hb dX4_whyNotTaken_53 rfl (lv_at hl 2 rfl) ?_
                refine rl_calliQ (rl_runU (b := q) (As := []) (rest := []) hC hW (cC_Constant_kind l D t A _ z _ _ _ _ _ _ _ _ _ h0 h1) cu_X4_25_X1 h0 rfl ⟨(Nat.le_of_ble_eq_true rfl), (Nat.le_of_ble_eq_true rfl)⟩ rfl hl.1 rfl (Nat.le_of_ble_eq_true rfl) dX4_whyNotTaken_54 ⟨(Nat.le_of_ble_eq_true rfl), (Nat.le_of_ble_eq_true rfl)⟩) hW (fun r f1 H locs hp hW => ?_)
                obtain rfl := hp
                refine lv_aload_n hx hb dX4_whyNotTaken_57 rfl (lv_at hl 0 rfl) ?_
                refine rl_get (v := .int (po)) hC hW fl_X4_18 hP rfl dX4_whyNotTaken_58 ?_
                refine lv_icmp_ne (tgt := 77) hx hb dX4_whyNotTaken_61 (by decide) (fun c_11 => ?_) (fun c_11 => ?_)
                · refine lv_iconst (v := (nI (2))) hx hb dX4_whyNotTaken_77 (by decide) ?_
                  exact rl_iret hC hW hr hlk (Nat.le_refl _) (Nat.le_refl _) ⟨_, rfl, rfl, rfl, rfl⟩ dX4_whyNotTaken_78
                · refine lv_aload_n hx hb dX4_whyNotTaken_64 rfl (lv_at hl 2 rfl) ?_
                  refine rl_calliQ (rl_runU (b := q) (As := []) (rest := []) hC hW (cC_Constant_version l D t A _ z _ _ _ _ _ _ _ _ _ h0 h1) cu_X4_31_X1 h0 rfl ⟨(Nat.le_of_ble_eq_true rfl), (Nat.le_of_ble_eq_true rfl)⟩ rfl hl.1 rfl (Nat.le_of_ble_eq_true rfl) dX4_whyNotTaken_65 ⟨(Nat.le_of_ble_eq_true rfl), (Nat.le_of_ble_eq_true rfl)⟩) hW (fun r f1 H locs hp hW => ?_)
                  obtain rfl := hp
                  refine lv_iload hx hb dX4_whyNotTaken_68 (lv_at hl 3 rfl) ?_
                  refine lv_icmp_ne (tgt := 77) hx hb dX4_whyNotTaken_70 (by decide) (fun c_12 => ?_) (fun c_12 => ?_)
                  · refine lv_iconst (v := (nI (2))) hx hb dX4_whyNotTaken_77 (by decide) ?_
                    exact rl_iret hC hW hr hlk (Nat.le_refl _) (Nat.le_refl _) ⟨_, rfl, rfl, rfl, rfl⟩ dX4_whyNotTaken_78
                  · refine lv_iconst (v := (nI (0))) hx hb dX4_whyNotTaken_73 (by decide) ?_
                    refine lv_goto (tgt := 78) hx hb dX4_whyNotTaken_74 (by decide) ?_
                    exact rl_iret hC hW hr hlk (Nat.le_refl _) (Nat.le_refl _) ⟨_, rfl, rfl, rfl, rfl⟩ dX4_whyNotTaken_78
            · refine lv_iconst (v := (nI (1))) hx hb dX4_whyNotTaken_43 (by decide) ?_
              exact rl_iret hC hW hr hlk (Nat.le_refl _) (Nat.le_refl _) ⟨_, rfl, rfl, rfl, rfl⟩ dX4_whyNotTaken_44
          · obtain ⟨rr, n, g, hrr, hn8, h0, h1⟩ := hTh
            refine lv_if_ne (tgt := 45) hx hb dX4_whyNotTaken_40 (by decide) (fun c_13 => ?_) (fun c_13 => ?_)
            · refine lv_aload_n hx hb dX4_whyNotTaken_45 rfl (lv_at hl 0 rfl) ?_
              refine rl_get (v := .int (nI (2))) hC hW fl_X4_15 hP rfl dX4_whyNotTaken_46 ?_
              refine lv_iconst (v := (nI (4))) hx hb dX4_whyNotTaken_49 (by decide) ?_
              refine lv_icmp_eq (tgt := 73) hx hb dX4_whyNotTaken_50 (by decide) (fun c_14 => ?_) (fun c_14 => ?_)
              · first | exact absurd c_14 (by decide) | exact absurd (by decide) c_14
              · refine lv_aload_n hx hb dX4_whyNotTaken_53 rfl (lv_at hl 2 rfl) ?_
                refine rl_calliQ (rl_runU (b := q) (As := []) (rest := []) hC hW (cC_Row_kind l D t A _ z _) cu_X4_25_X8 h0 rfl ⟨(Nat.le_of_ble_eq_true rfl), (Nat.le_of_ble_eq_true rfl)⟩ rfl hl.1 rfl (Nat.le_of_ble_eq_true rfl) dX4_whyNotTaken_54 ⟨(Nat.le_of_ble_eq_true rfl), (Nat.le_of_ble_eq_true rfl)⟩) hW (fun r f1 H locs hp hW => ?_)
                obtain rfl := hp
                refine lv_aload_n hx hb dX4_whyNotTaken_57 rfl (lv_at hl 0 rfl) ?_
                refine rl_get (v := .int (po)) hC hW fl_X4_18 hP rfl dX4_whyNotTaken_58 ?_
                refine lv_icmp_ne (tgt := 77) hx hb dX4_whyNotTaken_61 (by decide) (fun c_15 => ?_) (fun c_15 => ?_)
                · refine lv_iconst (v := (nI (2))) hx hb dX4_whyNotTaken_77 (by decide) ?_
                  exact rl_iret hC hW hr hlk (Nat.le_refl _) (Nat.le_refl _) ⟨_, rfl, rfl, rfl, rfl⟩ dX4_whyNotTaken_78
                · refine lv_aload_n hx hb dX4_whyNotTaken_64 rfl (lv_at hl 2 rfl) ?_
                  refine rl_calliQ (rl_runU (b := q) (As := []) (rest := []) hC hW (cC_Row_version l D t A _ z _) cu_X4_31_X8 h0 rfl ⟨(Nat.le_of_ble_eq_true rfl), (Nat.le_of_ble_eq_true rfl)⟩ rfl hl.1 rfl (Nat.le_of_ble_eq_true rfl) dX4_whyNotTaken_65 ⟨(Nat.le_of_ble_eq_true rfl), (Nat.le_of_ble_eq_true rfl)⟩) hW (fun r f1 H locs hp hW => ?_)
                  obtain rfl := hp
                  refine lv_iload hx hb dX4_whyNotTaken_68 (lv_at hl 3 rfl) ?_
                  refine lv_icmp_ne (tgt := 77) hx hb dX4_whyNotTaken_70 (by decide) (fun c_16 => ?_) (fun c_16 => ?_)
                  · refine lv_iconst (v := (nI (2))) hx hb dX4_whyNotTaken_77 (by decide) ?_
                    exact rl_iret hC hW hr hlk (Nat.le_refl _) (Nat.le_refl _) ⟨_, rfl, rfl, rfl, rfl⟩ dX4_whyNotTaken_78
                  · refine lv_iconst (v := (nI (0))) hx hb dX4_whyNotTaken_73 (by decide) ?_
                    refine lv_goto (tgt := 78) hx hb dX4_whyNotTaken_74 (by decide) ?_
                    exact rl_iret hC hW hr hlk (Nat.le_refl _) (Nat.le_refl _) ⟨_, rfl, rfl, rfl, rfl⟩ dX4_whyNotTaken_78
            · refine lv_iconst (v := (nI (1))) hx hb dX4_whyNotTaken_43 (by decide) ?_
              exact rl_iret hC hW hr hlk (Nat.le_refl _) (Nat.le_refl _) ⟨_, rfl, rfl, rfl, rfl⟩ dX4_whyNotTaken_44
          · obtain ⟨j, nu, th, n, gn, gt, hj, hnu, hth, hnT, h0, h1, h2, h3⟩ := hTh
            obtain ⟨hrv, hj5, hj2, hpa, hka⟩ := id (hI.2.2.1 j hj)
            refine lv_if_ne (tgt := 45) hx hb dX4_whyNotTaken_40 (by decide) (fun c_17 => ?_) (fun c_17 => ?_)
            · refine lv_aload_n hx hb dX4_whyNotTaken_45 rfl (lv_at hl 0 rfl) ?_
              refine rl_get (v := .int (nI (2))) hC hW fl_X4_15 hP rfl dX4_whyNotTaken_46 ?_
              refine lv_iconst (v := (nI (4))) hx hb dX4_whyNotTaken_49 (by decide) ?_
              refine lv_icmp_eq (tgt := 73) hx hb dX4_whyNotTaken_50 (by decide) (fun c_18 => ?_) (fun c_18 => ?_)
              · first | exact absurd c_18 (by decide) | exact absurd (by decide) c_18
              · refine lv_aload_n hx hb dX4_whyNotTaken_53 rfl (lv_at hl 2 rfl) ?_
                refine rl_calliQ (rl_runU (b := q) (As := []) (rest := []) hC hW (cC_Rec_kind l D t A _ z _ _ _ _ _ _ _ gn gt _ _ _ _ h0 h1 hrv) cu_X4_25_X6 h0 rfl ⟨(Nat.le_of_ble_eq_true rfl), (Nat.le_of_ble_eq_true rfl)⟩ rfl hl.1 rfl (Nat.le_of_ble_eq_true rfl) dX4_whyNotTaken_54 ⟨(Nat.le_of_ble_eq_true rfl), (Nat.le_of_ble_eq_true rfl)⟩) hW (fun r f1 H locs hp hW => ?_)
                obtain rfl := hp
                refine lv_aload_n hx hb dX4_whyNotTaken_57 rfl (lv_at hl 0 rfl) ?_
                refine rl_get (v := .int (po)) hC hW fl_X4_18 hP rfl dX4_whyNotTaken_58 ?_
                refine lv_icmp_ne (tgt := 77) hx hb dX4_whyNotTaken_61 (by decide) (fun c_19 => ?_) (fun c_19 => ?_)
                · refine lv_iconst (v := (nI (2))) hx hb dX4_whyNotTaken_77 (by decide) ?_
                  exact rl_iret hC hW hr hlk (Nat.le_refl _) (Nat.le_refl _) ⟨_, rfl, rfl, rfl, rfl⟩ dX4_whyNotTaken_78
                · refine lv_aload_n hx hb dX4_whyNotTaken_64 rfl (lv_at hl 2 rfl) ?_
                  refine rl_calliQ (rl_runU (b := q) (As := []) (rest := []) hC hW (cC_Rec_version l D t A _ z _ _ _ _ _ _ _ gn gt _ _ _ _ h0 h1 hrv) cu_X4_31_X6 h0 rfl ⟨(Nat.le_of_ble_eq_true rfl), (Nat.le_of_ble_eq_true rfl)⟩ rfl hl.1 rfl (Nat.le_of_ble_eq_true rfl) dX4_whyNotTaken_65 ⟨(Nat.le_of_ble_eq_true rfl), (Nat.le_of_ble_eq_true rfl)⟩) hW (fun r f1 H locs hp hW => ?_)
                  obtain rfl := hp
                  refine lv_iload hx hb dX4_whyNotTaken_68 (lv_at hl 3 rfl) ?_
                  refine lv_icmp_ne (tgt := 77) hx hb dX4_whyNotTaken_70 (by decide) (fun c_20 => ?_) (fun c_20 => ?_)
                  · refine lv_iconst (v := (nI (2))) hx hb dX4_whyNotTaken_77 (by decide) ?_
                    exact rl_iret hC hW hr hlk (Nat.le_refl _) (Nat.le_refl _) ⟨_, rfl, rfl, rfl, rfl⟩ dX4_whyNotTaken_78
                  · refine lv_iconst (v := (nI (0))) hx hb dX4_whyNotTaken_73 (by decide) ?_
                    refine lv_goto (tgt := 78) hx hb dX4_whyNotTaken_74 (by decide) ?_
                    exact rl_iret hC hW hr hlk (Nat.le_refl _) (Nat.le_refl _) ⟨_, rfl, rfl, rfl, rfl⟩ dX4_whyNotTaken_78
            · refine lv_iconst (v := (nI (1))) hx hb dX4_whyNotTaken_43 (by decide) ?_
              exact rl_iret hC hW hr hlk (Nat.le_refl _) (Nat.le_refl _) ⟨_, rfl, rfl, rfl, rfl⟩ dX4_whyNotTaken_44
      · first | exact absurd c_7 (by decide) | exact absurd (by decide) c_7
  · rcases r0 with _ | q
    · refine lv_aload_n hx hb dX4_whyNotTaken_0 rfl (lv_at hl 0 rfl) ?_
      refine rl_get (v := .int (nI (3))) hC hW fl_X4_15 hP rfl dX4_whyNotTaken_1 ?_
      refine lv_if_ne (tgt := 21) hx hb dX4_whyNotTaken_4 (by decide) (fun c_21 => ?_) (fun c_21 => ?_)
      · refine lv_aload_n hx hb dX4_whyNotTaken_21 rfl (lv_at hl 0 rfl) ?_
        refine rl_get (v := .int (nI (3))) hC hW fl_X4_15 hP rfl dX4_whyNotTaken_22 ?_
        refine lv_iconst (v := (nI (1))) hx hb dX4_whyNotTaken_25 (by decide) ?_
        refine lv_icmp_eq (tgt := 33) hx hb dX4_whyNotTaken_26 (by decide) (fun c_22 => ?_) (fun c_22 => ?_)
        · first | exact absurd c_22 (by decide) | exact absurd (by decide) c_22
        · refine lv_aload_nN hx hb dX4_whyNotTaken_29 rfl (lv_at hl 2 rfl) ?_
          refine lv_ifnonnullN hx hb dX4_whyNotTaken_30 ?_
          refine lv_iconst (v := (nI (0))) hx hb dX4_whyNotTaken_33 (by decide) ?_
          exact rl_iret hC hW hr hlk (Nat.le_refl _) (Nat.le_refl _) ⟨_, rfl, rfl, rfl, rfl⟩ dX4_whyNotTaken_34
      · first | exact absurd c_21 (by decide) | exact absurd (by decide) c_21
    · have hTh := hr0 q rfl
      refine lv_aload_n hx hb dX4_whyNotTaken_0 rfl (lv_at hl 0 rfl) ?_
      refine rl_get (v := .int (nI (3))) hC hW fl_X4_15 hP rfl dX4_whyNotTaken_1 ?_
      refine lv_if_ne (tgt := 21) hx hb dX4_whyNotTaken_4 (by decide) (fun c_23 => ?_) (fun c_23 => ?_)
      · refine lv_aload_n hx hb dX4_whyNotTaken_21 rfl (lv_at hl 0 rfl) ?_
        refine rl_get (v := .int (nI (3))) hC hW fl_X4_15 hP rfl dX4_whyNotTaken_22 ?_
        refine lv_iconst (v := (nI (1))) hx hb dX4_whyNotTaken_25 (by decide) ?_
        refine lv_icmp_eq (tgt := 33) hx hb dX4_whyNotTaken_26 (by decide) (fun c_24 => ?_) (fun c_24 => ?_)
        · first | exact absurd c_24 (by decide) | exact absurd (by decide) c_24
        · refine lv_aload_n hx hb dX4_whyNotTaken_29 rfl (lv_at hl 2 rfl) ?_
          refine lv_ifnonnull (tgt := 35) hx hb dX4_whyNotTaken_30 (by decide) ?_
          refine lv_aload_n hx hb dX4_whyNotTaken_35 rfl (lv_at hl 0 rfl) ?_
          refine lv_aload_n hx hb dX4_whyNotTaken_36 rfl (lv_at hl 2 rfl) ?_
          refine rl_calliQ (rl_runV (b := a) (As := [.ref (q)]) (rest := []) hC hW (cC_isOfClass l D t A _ z x T Th hI a 3 q pn po (by decide) (by decide) hP hTh) cs_X4_21 im_X4_isOfClass sl_X4_isOfClass hP rfl ⟨(Nat.le_of_ble_eq_true rfl), (Nat.le_of_ble_eq_true rfl)⟩ rfl hl.1 rfl (Nat.le_of_ble_eq_true rfl) dX4_whyNotTaken_37 ⟨(Nat.le_of_ble_eq_true rfl), (Nat.le_of_ble_eq_true rfl)⟩) hW (fun r f1 H locs hp hW => ?_)
          obtain rfl := hp
          obtain ⟨hge, hTh⟩ := hTh
          rcases hTh with hTh | hTh | hTh
          · obtain ⟨bb, nm, o, lo, hbb, h0⟩ := hTh
            obtain ⟨h1, -⟩ := hI.2.1 bb hbb
            refine lv_if_ne (tgt := 45) hx hb dX4_whyNotTaken_40 (by decide) (fun c_25 => ?_) (fun c_25 => ?_)
            · refine lv_aload_n hx hb dX4_whyNotTaken_45 rfl (lv_at hl 0 rfl) ?_
              refine rl_get (v := .int (nI (3))) hC hW fl_X4_15 hP rfl dX4_whyNotTaken_46 ?_
              refine lv_iconst (v := (nI (4))) hx hb dX4_whyNotTaken_49 (by decide) ?_
              refine lv_icmp_eq (tgt := 73) hx hb dX4_whyNotTaken_50 (by decide) (fun c_26 => ?_) (fun c_26 => ?_)
              · first | exact absurd c_26 (by decide) | exact absurd (by decide) c_26
              · refine lv_aload_n hx hb dX4_whyNotTaken_53 rfl (lv_at hl 2 rfl) ?_
                refine rl_calliQ (rl_runU (b := q) (As := []) (rest := []) hC hW (cC_Constant_kind l D t A _ z _ _ _ _ _ _ _ _ _ h0 h1) cu_X4_25_X1 h0 rfl ⟨(Nat.le_of_ble_eq_true rfl), (Nat.le_of_ble_eq_true rfl)⟩ rfl hl.1 rfl (Nat.le_of_ble_eq_true rfl) dX4_whyNotTaken_54 ⟨(Nat.le_of_ble_eq_true rfl), (Nat.le_of_ble_eq_true rfl)⟩) hW (fun r f1 H locs hp hW => ?_)
                obtain rfl := hp
                refine lv_aload_n hx hb dX4_whyNotTaken_57 rfl (lv_at hl 0 rfl) ?_
                refine rl_get (v := .int (po)) hC hW fl_X4_18 hP rfl dX4_whyNotTaken_58 ?_
                refine lv_icmp_ne (tgt := 77) hx hb dX4_whyNotTaken_61 (by decide) (fun c_27 => ?_) (fun c_27 => ?_)
                · refine lv_iconst (v := (nI (2))) hx hb dX4_whyNotTaken_77 (by decide) ?_
                  exact rl_iret hC hW hr hlk (Nat.le_refl _) (Nat.le_refl _) ⟨_, rfl, rfl, rfl, rfl⟩ dX4_whyNotTaken_78
                · refine lv_aload_n hx hb dX4_whyNotTaken_64 rfl (lv_at hl 2 rfl) ?_
                  refine rl_calliQ (rl_runU (b := q) (As := []) (rest := []) hC hW (cC_Constant_version l D t A _ z _ _ _ _ _ _ _ _ _ h0 h1) cu_X4_31_X1 h0 rfl ⟨(Nat.le_of_ble_eq_true rfl), (Nat.le_of_ble_eq_true rfl)⟩ rfl hl.1 rfl (Nat.le_of_ble_eq_true rfl) dX4_whyNotTaken_65 ⟨(Nat.le_of_ble_eq_true rfl), (Nat.le_of_ble_eq_true rfl)⟩) hW (fun r f1 H locs hp hW => ?_)
                  obtain rfl := hp
                  refine lv_iload hx hb dX4_whyNotTaken_68 (lv_at hl 3 rfl) ?_
                  refine lv_icmp_ne (tgt := 77) hx hb dX4_whyNotTaken_70 (by decide) (fun c_28 => ?_) (fun c_28 => ?_)
                  · refine lv_iconst (v := (nI (2))) hx hb dX4_whyNotTaken_77 (by decide) ?_
                    exact rl_iret hC hW hr hlk (Nat.le_refl _) (Nat.le_refl _) ⟨_, rfl, rfl, rfl, rfl⟩ dX4_whyNotTaken_78
                  · refine lv_iconst (v := (nI (0))) hx hb dX4_whyNotTaken_73 (by decide) ?_
                    refine lv_goto (tgt := 78) hx hb dX4_whyNotTaken_74 (by decide) ?_
                    exact rl_iret hC hW hr hlk (Nat.le_refl _) (Nat.le_refl _) ⟨_, rfl, rfl, rfl, rfl⟩ dX4_whyNotTaken_78
            · refine lv_iconst (v := (nI (1))) hx hb dX4_whyNotTaken_43 (by decide) ?_
              exact rl_iret hC hW hr hlk (Nat.le_refl _) (Nat.le_refl _) ⟨_, rfl, rfl, rfl, rfl⟩ dX4_whyNotTaken_44
          · obtain ⟨rr, n, g, hrr, hn8, h0, h1⟩ := hTh
            refine lv_if_ne (tgt := 45) hx hb dX4_whyNotTaken_40 (by decide) (fun c_29 => ?_) (fun c_29 => ?_)
            · refine lv_aload_n hx hb dX4_whyNotTaken_45 rfl (lv_at hl 0 rfl) ?_
              refine rl_get (v := .int (nI (3))) hC hW fl_X4_15 hP rfl dX4_whyNotTaken_46 ?_
              refine lv_iconst (v := (nI (4))) hx hb dX4_whyNotTaken_49 (by decide) ?_
              refine lv_icmp_eq (tgt := 73) hx hb dX4_whyNotTaken_50 (by decide) (fun c_30 => ?_) (fun c_30 => ?_)
              · first | exact absurd c_30 (by decide) | exact absurd (by decide) c_30
              · refine lv_aload_n hx hb dX4_whyNotTaken_53 rfl (lv_at hl 2 rfl) ?_
                refine rl_calliQ (rl_runU (b := q) (As := []) (rest := []) hC hW (cC_Row_kind l D t A _ z _) cu_X4_25_X8 h0 rfl ⟨(Nat.le_of_ble_eq_true rfl), (Nat.le_of_ble_eq_true rfl)⟩ rfl hl.1 rfl (Nat.le_of_ble_eq_true rfl) dX4_whyNotTaken_54 ⟨(Nat.le_of_ble_eq_true rfl), (Nat.le_of_ble_eq_true rfl)⟩) hW (fun r f1 H locs hp hW => ?_)
                obtain rfl := hp
                refine lv_aload_n hx hb dX4_whyNotTaken_57 rfl (lv_at hl 0 rfl) ?_
                refine rl_get (v := .int (po)) hC hW fl_X4_18 hP rfl dX4_whyNotTaken_58 ?_
                refine lv_icmp_ne (tgt := 77) hx hb dX4_whyNotTaken_61 (by decide) (fun c_31 => ?_) (fun c_31 => ?_)
                · refine lv_iconst (v := (nI (2))) hx hb dX4_whyNotTaken_77 (by decide) ?_
                  exact rl_iret hC hW hr hlk (Nat.le_refl _) (Nat.le_refl _) ⟨_, rfl, rfl, rfl, rfl⟩ dX4_whyNotTaken_78
                · refine lv_aload_n hx hb dX4_whyNotTaken_64 rfl (lv_at hl 2 rfl) ?_
                  refine rl_calliQ (rl_runU (b := q) (As := []) (rest := []) hC hW (cC_Row_version l D t A _ z _) cu_X4_31_X8 h0 rfl ⟨(Nat.le_of_ble_eq_true rfl), (Nat.le_of_ble_eq_true rfl)⟩ rfl hl.1 rfl (Nat.le_of_ble_eq_true rfl) dX4_whyNotTaken_65 ⟨(Nat.le_of_ble_eq_true rfl), (Nat.le_of_ble_eq_true rfl)⟩) hW (fun r f1 H locs hp hW => ?_)
                  obtain rfl := hp
                  refine lv_iload hx hb dX4_whyNotTaken_68 (lv_at hl 3 rfl) ?_
                  refine lv_icmp_ne (tgt := 77) hx hb dX4_whyNotTaken_70 (by decide) (fun c_32 => ?_) (fun c_32 => ?_)
                  · refine lv_iconst (v := (nI (2))) hx hb dX4_whyNotTaken_77 (by decide) ?_
                    exact rl_iret hC hW hr hlk (Nat.le_refl _) (Nat.le_refl _) ⟨_, rfl, rfl, rfl, rfl⟩ dX4_whyNotTaken_78
                  · refine lv_iconst (v := (nI (0))) hx hb dX4_whyNotTaken_73 (by decide) ?_
                    refine lv_goto (tgt := 78) hx hb dX4_whyNotTaken_74 (by decide) ?_
                    exact rl_iret hC hW hr hlk (Nat.le_refl _) (Nat.le_refl _) ⟨_, rfl, rfl, rfl, rfl⟩ dX4_whyNotTaken_78
            · refine lv_iconst (v := (nI (1))) hx hb dX4_whyNotTaken_43 (by decide) ?_
              exact rl_iret hC hW hr hlk (Nat.le_refl _) (Nat.le_refl _) ⟨_, rfl, rfl, rfl, rfl⟩ dX4_whyNotTaken_44
          · obtain ⟨j, nu, th, n, gn, gt, hj, hnu, hth, hnT, h0, h1, h2, h3⟩ := hTh
            obtain ⟨hrv, hj5, hj2, hpa, hka⟩ := id (hI.2.2.1 j hj)
            refine lv_if_ne (tgt := 45) hx hb dX4_whyNotTaken_40 (by decide) (fun c_33 => ?_) (fun c_33 => ?_)
            · refine lv_aload_n hx hb dX4_whyNotTaken_45 rfl (lv_at hl 0 rfl) ?_
              refine rl_get (v := .int (nI (3))) hC hW fl_X4_15 hP rfl dX4_whyNotTaken_46 ?_
              refine lv_iconst (v := (nI (4))) hx hb dX4_whyNotTaken_49 (by decide) ?_
              refine lv_icmp_eq (tgt := 73) hx hb dX4_whyNotTaken_50 (by decide) (fun c_34 => ?_) (fun c_34 => ?_)
              · first | exact absurd c_34 (by decide) | exact absurd (by decide) c_34
              · refine lv_aload_n hx hb dX4_whyNotTaken_53 rfl (lv_at hl 2 rfl) ?_
                refine rl_calliQ (rl_runU (b := q) (As := []) (rest := []) hC hW (cC_Rec_kind l D t A _ z _ _ _ _ _ _ _ gn gt _ _ _ _ h0 h1 hrv) cu_X4_25_X6 h0 rfl ⟨(Nat.le_of_ble_eq_true rfl), (Nat.le_of_ble_eq_true rfl)⟩ rfl hl.1 rfl (Nat.le_of_ble_eq_true rfl) dX4_whyNotTaken_54 ⟨(Nat.le_of_ble_eq_true rfl), (Nat.le_of_ble_eq_true rfl)⟩) hW (fun r f1 H locs hp hW => ?_)
                obtain rfl := hp
                refine lv_aload_n hx hb dX4_whyNotTaken_57 rfl (lv_at hl 0 rfl) ?_
                refine rl_get (v := .int (po)) hC hW fl_X4_18 hP rfl dX4_whyNotTaken_58 ?_
                refine lv_icmp_ne (tgt := 77) hx hb dX4_whyNotTaken_61 (by decide) (fun c_35 => ?_) (fun c_35 => ?_)
                · refine lv_iconst (v := (nI (2))) hx hb dX4_whyNotTaken_77 (by decide) ?_
                  exact rl_iret hC hW hr hlk (Nat.le_refl _) (Nat.le_refl _) ⟨_, rfl, rfl, rfl, rfl⟩ dX4_whyNotTaken_78
                · refine lv_aload_n hx hb dX4_whyNotTaken_64 rfl (lv_at hl 2 rfl) ?_
                  refine rl_calliQ (rl_runU (b := q) (As := []) (rest := []) hC hW (cC_Rec_version l D t A _ z _ _ _ _ _ _ _ gn gt _ _ _ _ h0 h1 hrv) cu_X4_31_X6 h0 rfl ⟨(Nat.le_of_ble_eq_true rfl), (Nat.le_of_ble_eq_true rfl)⟩ rfl hl.1 rfl (Nat.le_of_ble_eq_true rfl) dX4_whyNotTaken_65 ⟨(Nat.le_of_ble_eq_true rfl), (Nat.le_of_ble_eq_true rfl)⟩) hW (fun r f1 H locs hp hW => ?_)
                  obtain rfl := hp
                  refine lv_iload hx hb dX4_whyNotTaken_68 (lv_at hl 3 rfl) ?_
                  refine lv_icmp_ne (tgt := 77) hx hb dX4_whyNotTaken_70 (by decide) (fun c_36 => ?_) (fun c_36 => ?_)
                  · refine lv_iconst (v := (nI (2))) hx hb dX4_whyNotTaken_77 (by decide) ?_
                    exact rl_iret hC hW hr hlk (Nat.le_refl _) (Nat.le_refl _) ⟨_, rfl, rfl, rfl, rfl⟩ dX4_whyNotTaken_78
                  · refine lv_iconst (v := (nI (0))) hx hb dX4_whyNotTaken_73 (by decide) ?_
                    refine lv_goto (tgt := 78) hx hb dX4_whyNotTaken_74 (by decide) ?_
                    exact rl_iret hC hW hr hlk (Nat.le_refl _) (Nat.le_refl _) ⟨_, rfl, rfl, rfl, rfl⟩ dX4_whyNotTaken_78
            · refine lv_iconst (v := (nI (1))) hx hb dX4_whyNotTaken_43 (by decide) ?_
              exact rl_iret hC hW hr hlk (Nat.le_refl _) (Nat.le_refl _) ⟨_, rfl, rfl, rfl, rfl⟩ dX4_whyNotTaken_44
      · first | exact absurd c_23 (by decide) | exact absurd (by decide) c_23
  · rcases r0 with _ | q
    · refine lv_aload_n hx hb dX4_whyNotTaken_0 rfl (lv_at hl 0 rfl) ?_
      refine rl_get (v := .int (nI (4))) hC hW fl_X4_15 hP rfl dX4_whyNotTaken_1 ?_
      refine lv_if_ne (tgt := 21) hx hb dX4_whyNotTaken_4 (by decide) (fun c_37 => ?_) (fun c_37 => ?_)
      · refine lv_aload_n hx hb dX4_whyNotTaken_21 rfl (lv_at hl 0 rfl) ?_
        refine rl_get (v := .int (nI (4))) hC hW fl_X4_15 hP rfl dX4_whyNotTaken_22 ?_
        refine lv_iconst (v := (nI (1))) hx hb dX4_whyNotTaken_25 (by decide) ?_
        refine lv_icmp_eq (tgt := 33) hx hb dX4_whyNotTaken_26 (by decide) (fun c_38 => ?_) (fun c_38 => ?_)
        · first | exact absurd c_38 (by decide) | exact absurd (by decide) c_38
        · refine lv_aload_nN hx hb dX4_whyNotTaken_29 rfl (lv_at hl 2 rfl) ?_
          refine lv_ifnonnullN hx hb dX4_whyNotTaken_30 ?_
          refine lv_iconst (v := (nI (0))) hx hb dX4_whyNotTaken_33 (by decide) ?_
          exact rl_iret hC hW hr hlk (Nat.le_refl _) (Nat.le_refl _) ⟨_, rfl, rfl, rfl, rfl⟩ dX4_whyNotTaken_34
      · first | exact absurd c_37 (by decide) | exact absurd (by decide) c_37
    · have hTh := hr0 q rfl
      refine lv_aload_n hx hb dX4_whyNotTaken_0 rfl (lv_at hl 0 rfl) ?_
      refine rl_get (v := .int (nI (4))) hC hW fl_X4_15 hP rfl dX4_whyNotTaken_1 ?_
      refine lv_if_ne (tgt := 21) hx hb dX4_whyNotTaken_4 (by decide) (fun c_39 => ?_) (fun c_39 => ?_)
      · refine lv_aload_n hx hb dX4_whyNotTaken_21 rfl (lv_at hl 0 rfl) ?_
        refine rl_get (v := .int (nI (4))) hC hW fl_X4_15 hP rfl dX4_whyNotTaken_22 ?_
        refine lv_iconst (v := (nI (1))) hx hb dX4_whyNotTaken_25 (by decide) ?_
        refine lv_icmp_eq (tgt := 33) hx hb dX4_whyNotTaken_26 (by decide) (fun c_40 => ?_) (fun c_40 => ?_)
        · first | exact absurd c_40 (by decide) | exact absurd (by decide) c_40
        · refine lv_aload_n hx hb dX4_whyNotTaken_29 rfl (lv_at hl 2 rfl) ?_
          refine lv_ifnonnull (tgt := 35) hx hb dX4_whyNotTaken_30 (by decide) ?_
          refine lv_aload_n hx hb dX4_whyNotTaken_35 rfl (lv_at hl 0 rfl) ?_
          refine lv_aload_n hx hb dX4_whyNotTaken_36 rfl (lv_at hl 2 rfl) ?_
          refine rl_calliQ (rl_runV (b := a) (As := [.ref (q)]) (rest := []) hC hW (cC_isOfClass l D t A _ z x T Th hI a 4 q pn po (by decide) (by decide) hP hTh) cs_X4_21 im_X4_isOfClass sl_X4_isOfClass hP rfl ⟨(Nat.le_of_ble_eq_true rfl), (Nat.le_of_ble_eq_true rfl)⟩ rfl hl.1 rfl (Nat.le_of_ble_eq_true rfl) dX4_whyNotTaken_37 ⟨(Nat.le_of_ble_eq_true rfl), (Nat.le_of_ble_eq_true rfl)⟩) hW (fun r f1 H locs hp hW => ?_)
          obtain rfl := hp
          obtain ⟨hge, hTh⟩ := hTh
          rcases hTh with hTh | hTh | hTh
          · obtain ⟨bb, nm, o, lo, hbb, h0⟩ := hTh
            obtain ⟨h1, -⟩ := hI.2.1 bb hbb
            refine lv_if_ne (tgt := 45) hx hb dX4_whyNotTaken_40 (by decide) (fun c_41 => ?_) (fun c_41 => ?_)
            · refine lv_aload_n hx hb dX4_whyNotTaken_45 rfl (lv_at hl 0 rfl) ?_
              refine rl_get (v := .int (nI (4))) hC hW fl_X4_15 hP rfl dX4_whyNotTaken_46 ?_
              refine lv_iconst (v := (nI (4))) hx hb dX4_whyNotTaken_49 (by decide) ?_
              refine lv_icmp_eq (tgt := 73) hx hb dX4_whyNotTaken_50 (by decide) (fun c_42 => ?_) (fun c_42 => ?_)
              · refine lv_iconst (v := (nI (0))) hx hb dX4_whyNotTaken_73 (by decide) ?_
                refine lv_goto (tgt := 78) hx hb dX4_whyNotTaken_74 (by decide) ?_
                exact rl_iret hC hW hr hlk (Nat.le_refl _) (Nat.le_refl _) ⟨_, rfl, rfl, rfl, rfl⟩ dX4_whyNotTaken_78
              · first | exact absurd c_42 (by decide) | exact absurd (by decide) c_42
            · refine lv_iconst (v := (nI (1))) hx hb dX4_whyNotTaken_43 (by decide) ?_
              exact rl_iret hC hW hr hlk (Nat.le_refl _) (Nat.le_refl _) ⟨_, rfl, rfl, rfl, rfl⟩ dX4_whyNotTaken_44
          · obtain ⟨rr, n, g, hrr, hn8, h0, h1⟩ := hTh
            refine lv_if_ne (tgt := 45) hx hb dX4_whyNotTaken_40 (by decide) (fun c_43 => ?_) (fun c_43 => ?_)
            · refine lv_aload_n hx hb dX4_whyNotTaken_45 rfl (lv_at hl 0 rfl) ?_
              refine rl_get (v := .int (nI (4))) hC hW fl_X4_15 hP rfl dX4_whyNotTaken_46 ?_
              refine lv_iconst (v := (nI (4))) hx hb dX4_whyNotTaken_49 (by decide) ?_
              refine lv_icmp_eq (tgt := 73) hx hb dX4_whyNotTaken_50 (by decide) (fun c_44 => ?_) (fun c_44 => ?_)
              · refine lv_iconst (v := (nI (0))) hx hb dX4_whyNotTaken_73 (by decide) ?_
                refine lv_goto (tgt := 78) hx hb dX4_whyNotTaken_74 (by decide) ?_
                exact rl_iret hC hW hr hlk (Nat.le_refl _) (Nat.le_refl _) ⟨_, rfl, rfl, rfl, rfl⟩ dX4_whyNotTaken_78
              · first | exact absurd c_44 (by decide) | exact absurd (by decide) c_44
            · refine lv_iconst (v := (nI (1))) hx hb dX4_whyNotTaken_43 (by decide) ?_
              exact rl_iret hC hW hr hlk (Nat.le_refl _) (Nat.le_refl _) ⟨_, rfl, rfl, rfl, rfl⟩ dX4_whyNotTaken_44
          · obtain ⟨j, nu, th, n, gn, gt, hj, hnu, hth, hnT, h0, h1, h2, h3⟩ := hTh
            obtain ⟨hrv, hj5, hj2, hpa, hka⟩ := id (hI.2.2.1 j hj)
            refine lv_if_ne (tgt := 45) hx hb dX4_whyNotTaken_40 (by decide) (fun c_45 => ?_) (fun c_45 => ?_)
            · refine lv_aload_n hx hb dX4_whyNotTaken_45 rfl (lv_at hl 0 rfl) ?_
              refine rl_get (v := .int (nI (4))) hC hW fl_X4_15 hP rfl dX4_whyNotTaken_46 ?_
              refine lv_iconst (v := (nI (4))) hx hb dX4_whyNotTaken_49 (by decide) ?_
              refine lv_icmp_eq (tgt := 73) hx hb dX4_whyNotTaken_50 (by decide) (fun c_46 => ?_) (fun c_46 => ?_)
              · refine lv_iconst (v := (nI (0))) hx hb dX4_whyNotTaken_73 (by decide) ?_
                refine lv_goto (tgt := 78) hx hb dX4_whyNotTaken_74 (by decide) ?_
                exact rl_iret hC hW hr hlk (Nat.le_refl _) (Nat.le_refl _) ⟨_, rfl, rfl, rfl, rfl⟩ dX4_whyNotTaken_78
              · first | exact absurd c_46 (by decide) | exact absurd (by decide) c_46
            · refine lv_iconst (v := (nI (1))) hx hb dX4_whyNotTaken_43 (by decide) ?_
              exact rl_iret hC hW hr hlk (Nat.le_refl _) (Nat.le_refl _) ⟨_, rfl, rfl, rfl, rfl⟩ dX4_whyNotTaken_44
      · first | exact absurd c_39 (by decide) | exact absurd (by decide) c_39

set_option maxHeartbeats 4000000 in
set_option maxRecDepth 100000 in
theorem cC_ownUnless (l : Launch) (D : va_G) (t : Nat → ClassId) (A : Nat → Prop) (f : rl_M) (z : Nat) (y : Int32) : rl_Met l yX0_ownUnless (.code yX0_ownUnless cX0_ownUnless 1 (some FieldType.int)) (rl_rm 0 0 0) D t A f z [.int (y)] (rl_qi z fun r f1 => f = f1) := by
  refine rl_begin (own := RX0) (lv := [(0, .int (y))]) (by decide +kernel) rfl (Nat.le_of_ble_eq_true rfl) rfl fun p e s m0 args below meth c ls H locs hC hr hlk hnm hW hl hx hb => ?_
  refine lv_iload_n hx hb dX0_ownUnless_0 rfl (lv_at hl 0 rfl) ?_
  refine lv_if_eq (tgt := 8) hx hb dX0_ownUnless_1 (by decide) (fun c_1 => ?_) (fun c_1 => ?_)
  · refine lv_iconst (v := (nI (2))) hx hb dX0_ownUnless_8 (by decide) ?_
    exact rl_iret hC hW hr hlk (Nat.le_refl _) (Nat.le_refl _) ⟨_, rfl, rfl, rfl, rfl⟩ dX0_ownUnless_9
  · refine lv_iconst (v := (nI (0))) hx hb dX0_ownUnless_4 (by decide) ?_
    refine lv_goto (tgt := 9) hx hb dX0_ownUnless_5 (by decide) ?_
    exact rl_iret hC hW hr hlk (Nat.le_refl _) (Nat.le_refl _) ⟨_, rfl, rfl, rfl, rfl⟩ dX0_ownUnless_9

set_option maxHeartbeats 4000000 in
set_option maxRecDepth 100000 in
theorem cC_whyNotDivisor (l : Launch) (D : va_G) (t : Nat → ClassId) (A : Nat → Prop) (f : rl_M) (z : Nat) (y : Int64) : rl_Met l yX0_whyNotDivisor (.code yX0_whyNotDivisor cX0_whyNotDivisor 2 (some FieldType.int)) (rl_rm 1 0 0) D t A f z [.long (y)] (rl_qi z fun r f1 => f = f1) := by
  refine rl_begin (own := RX0) (lv := [(0, .long (y))]) (by decide +kernel) rfl (Nat.le_of_ble_eq_true rfl) rfl fun p e s m0 args below meth c ls H locs hC hr hlk hnm hW hl hx hb => ?_
  refine lv_lload_n hx hb dX0_whyNotDivisor_0 rfl (lv_at hl 0 rfl) ?_
  refine lv_lconst (v := 0) hx hb dX0_whyNotDivisor_1 (by decide) ?_
  refine W.lcmp hx hb dX0_whyNotDivisor_2 ?_
  refine lv_if_ne (tgt := 10) hx hb dX0_whyNotDivisor_3 (by decide) (fun c1 => ?_) (fun c1 => ?_)
  · refine lv_ldc2 (v := 100) hx hb hC.2.2.2.1 (hC.2.2.2.2.1 _ (List.mem_cons_of_mem _ mw_428)) dX0_whyNotDivisor_10 ?_
    refine lv_lload_n hx hb dX0_whyNotDivisor_13 rfl (lv_at hl 0 rfl) ?_
    refine lv_lrem hx hb dX0_whyNotDivisor_14 (fun q => c1 ((lg_cmp_eq _ _).mpr q)) ?_
    refine lv_topl (fun y2 ey2 => ?_)
    refine lv_lconst (v := 0) hx hb dX0_whyNotDivisor_15 (by decide) ?_
    refine W.lcmp hx hb dX0_whyNotDivisor_16 ?_
    refine lv_if_ne (tgt := 24) hx hb dX0_whyNotDivisor_17 (by decide) (fun c_1 => ?_) (fun c_1 => ?_)
    · refine lv_iconst (v := (nI (0))) hx hb dX0_whyNotDivisor_24 (by decide) ?_
      refine rl_calliQ (rl_runS (As := [.int (nI (0))]) (rest := []) hC hW (cC_ownUnless l D t A _ z _) cs_X0_27 sm_X0_ownUnless ⟨(Nat.le_of_ble_eq_true rfl), (Nat.le_of_ble_eq_true rfl)⟩ rfl hl.1 rfl (Nat.le_of_ble_eq_true rfl) dX0_whyNotDivisor_25 ⟨(Nat.le_of_ble_eq_true rfl), (Nat.le_of_ble_eq_true rfl)⟩) hW (fun r f1 H locs hp hW => ?_)
      obtain rfl := hp
      exact rl_iret hC hW hr hlk (Nat.le_refl _) (Nat.le_refl _) ⟨_, rfl, rfl, rfl, rfl⟩ dX0_whyNotDivisor_28
    · refine lv_iconst (v := (nI (1))) hx hb dX0_whyNotDivisor_20 (by decide) ?_
      refine lv_goto (tgt := 25) hx hb dX0_whyNotDivisor_21 (by decide) ?_
      refine rl_calliQ (rl_runS (As := [.int (nI (1))]) (rest := []) hC hW (cC_ownUnless l D t A _ z _) cs_X0_27 sm_X0_ownUnless ⟨(Nat.le_of_ble_eq_true rfl), (Nat.le_of_ble_eq_true rfl)⟩ rfl hl.1 rfl (Nat.le_of_ble_eq_true rfl) dX0_whyNotDivisor_25 ⟨(Nat.le_of_ble_eq_true rfl), (Nat.le_of_ble_eq_true rfl)⟩) hW (fun r f1 H locs hp hW => ?_)
      obtain rfl := hp
      exact rl_iret hC hW hr hlk (Nat.le_refl _) (Nat.le_refl _) ⟨_, rfl, rfl, rfl, rfl⟩ dX0_whyNotDivisor_28
  · refine lv_iconst (v := (nI (5))) hx hb dX0_whyNotDivisor_6 (by decide) ?_
    refine lv_goto (tgt := 28) hx hb dX0_whyNotDivisor_7 (by decide) ?_
    exact rl_iret hC hW hr hlk (Nat.le_refl _) (Nat.le_refl _) ⟨_, rfl, rfl, rfl, rfl⟩ dX0_whyNotDivisor_28

set_option maxHeartbeats 4000000 in
set_option maxRecDepth 100000 in
theorem cC_whyNotItemAbove (l : Launch) (D : va_G) (t : Nat → ClassId) (A : Nat → Prop) (f : rl_M) (z : Nat) (x : Nat) (T : Nat → Nat → Nat) (Th : Nat → Prop) (hI : CI t f x T Th) (r0 : Option Nat) (hr0 : ∀ q, r0 = some q → cTH t f x T Th q) (y : Int64) : rl_Met l yX0_whyNotItemAbove (.code yX0_whyNotItemAbove cX0_whyNotItemAbove 4 (some FieldType.int)) (rl_rm 1 0 0) D t A f z [va_rf (r0), .long (y)] (rl_qi z fun r f1 => f = f1) := by
  refine rl_begin (own := RX0) (lv := [(0, va_rf (r0)), (1, .long (y))]) (by decide +kernel) rfl (by cases r0 <;> exact Nat.le_of_ble_eq_true rfl) (by cases r0 <;> rfl) fun p e s m0 args below meth c ls H locs hC hr hlk hnm hW hl hx hb => ?_
  rcases r0 with _ | q
  · refine lv_aload_nN hx hb dX0_whyNotItemAbove_0 rfl (lv_at hl 0 rfl) ?_
    refine lv_instN hx hb dX0_whyNotItemAbove_1 ?_
    refine rl_topn (y := nI 0) (by decide) ?_
    refine lv_if_eq (tgt := 15) hx hb dX0_whyNotItemAbove_4 (by decide) (fun c_1 => ?_) (fun c_1 => ?_)
    · refine lv_iconst (v := (nI (3))) hx hb dX0_whyNotItemAbove_15 (by decide) ?_
      exact rl_iret hC hW hr hlk (Nat.le_refl _) (Nat.le_refl _) ⟨_, rfl, rfl, rfl, rfl⟩ dX0_whyNotItemAbove_16
    · first | exact absurd c_1 (by decide) | exact absurd (by decide) c_1
  · have hTh := hr0 q rfl
    obtain ⟨hge, hTh⟩ := hTh
    rcases hTh with hTh | hTh | hTh
    · obtain ⟨bb, nm, o, lo, hbb, h0⟩ := hTh
      obtain ⟨h1, -⟩ := hI.2.1 bb hbb
      refine lv_aload_n hx hb dX0_whyNotItemAbove_0 rfl (lv_at hl 0 rfl) ?_
      refine rl_instNo hC hW h0 rfl mw_432 (by decide) dX0_whyNotItemAbove_1 ?_
      refine rl_topn (y := nI 0) (by decide) ?_
      refine lv_if_eq (tgt := 15) hx hb dX0_whyNotItemAbove_4 (by decide) (fun c_2 => ?_) (fun c_2 => ?_)
      · refine lv_iconst (v := (nI (3))) hx hb dX0_whyNotItemAbove_15 (by decide) ?_
        exact rl_iret hC hW hr hlk (Nat.le_refl _) (Nat.le_refl _) ⟨_, rfl, rfl, rfl, rfl⟩ dX0_whyNotItemAbove_16
      · first | exact absurd c_2 (by decide) | exact absurd (by decide) c_2
    · obtain ⟨rr, n, g, hrr, hn8, h0, h1⟩ := hTh
      refine lv_aload_n hx hb dX0_whyNotItemAbove_0 rfl (lv_at hl 0 rfl) ?_
      refine rl_instY hC hW h0 rfl mw_432 mt_996 dX0_whyNotItemAbove_1 ?_
      refine rl_topn (y := nI 1) (by decide) ?_
      refine lv_if_eq (tgt := 15) hx hb dX0_whyNotItemAbove_4 (by decide) (fun c8 => ?_) (fun c8 => ?_)
      · exact absurd c8 (by decide)
      · refine lv_aload_n hx hb dX0_whyNotItemAbove_7 rfl (lv_at hl 0 rfl) ?_
        refine rl_castY hC hW h0 rfl mw_432 mt_996 dX0_whyNotItemAbove_8 ?_
        refine lv_astore_n (lv' := [(3, .ref (q)), (0, .ref (q)), (1, .long (y))]) hx hb dX0_whyNotItemAbove_11 rfl hl (by decide) rfl (fun ls hl => ?_)
        refine lv_goto (tgt := 17) hx hb dX0_whyNotItemAbove_12 (by decide) ?_
        refine lv_lload_n hx hb dX0_whyNotItemAbove_17 rfl (lv_at hl 2 rfl) ?_
        refine lv_lconst (v := 0) hx hb dX0_whyNotItemAbove_18 (by decide) ?_
        refine W.lcmp hx hb dX0_whyNotItemAbove_19 ?_
        refine lv_if_lt (tgt := 34) hx hb dX0_whyNotItemAbove_20 (by decide) (fun c2 => ?_) (fun c2 => ?_)
        · refine lv_iconst (v := (nI (4))) hx hb dX0_whyNotItemAbove_34 (by decide) ?_
          exact rl_iret hC hW hr hlk (Nat.le_refl _) (Nat.le_refl _) ⟨_, rfl, rfl, rfl, rfl⟩ dX0_whyNotItemAbove_35
        · refine lv_lload_n hx hb dX0_whyNotItemAbove_23 rfl (lv_at hl 2 rfl) ?_
          refine lv_aload_n hx hb dX0_whyNotItemAbove_24 rfl (lv_at hl 0 rfl) ?_
          refine rl_get (v := .ref (rr)) hC hW fl_X0_53 h0 rfl dX0_whyNotItemAbove_25 ?_
          refine rl_alen 0 (v := nI (n)) hC hW rfl h1 rfl dX0_whyNotItemAbove_28 ?_
          refine lv_i2l hx hb dX0_whyNotItemAbove_29 rfl ?_
          refine W.lcmp hx hb dX0_whyNotItemAbove_30 ?_
          refine lv_if_lt (tgt := 36) hx hb dX0_whyNotItemAbove_31 (by decide) (fun c3 => ?_) (fun c3 => ?_)
          · obtain ⟨i, hi, rfl⟩ := rg_lxx (fun q9 => c2 ((lg_cmp_lt _ _).mpr q9)) ((lg_cmp_lt _ _).mp c3) (by omega)
            refine lv_aload_n hx hb dX0_whyNotItemAbove_36 rfl (lv_at hl 0 rfl) ?_
            refine rl_get (v := .ref (rr)) hC hW fl_X0_53 h0 rfl dX0_whyNotItemAbove_37 ?_
            refine lv_lload_n hx hb dX0_whyNotItemAbove_40 rfl (lv_at hl 2 rfl) ?_
            refine lv_l2i hx hb dX0_whyNotItemAbove_41 rfl ?_
            refine rl_topn (lN_i _) ?_
            refine rl_iald_n hC hW h1 (by omega) (by omega) dX0_whyNotItemAbove_42 ?_
            refine lv_if_le (tgt := 50) hx hb dX0_whyNotItemAbove_43 (by decide) (fun c_3 => ?_) (fun c_3 => ?_)
            · refine lv_iconst (v := (nI (0))) hx hb dX0_whyNotItemAbove_50 (by decide) ?_
              refine rl_calliQ (rl_runS (As := [.int (nI (0))]) (rest := []) hC hW (cC_ownUnless l D t A _ z _) cs_X0_27 sm_X0_ownUnless ⟨(Nat.le_of_ble_eq_true rfl), (Nat.le_of_ble_eq_true rfl)⟩ rfl hl.1 rfl (Nat.le_of_ble_eq_true rfl) dX0_whyNotItemAbove_51 ⟨(Nat.le_of_ble_eq_true rfl), (Nat.le_of_ble_eq_true rfl)⟩) hW (fun r f1 H locs hp hW => ?_)
              obtain rfl := hp
              exact rl_iret hC hW hr hlk (Nat.le_refl _) (Nat.le_refl _) ⟨_, rfl, rfl, rfl, rfl⟩ dX0_whyNotItemAbove_54
            · refine lv_iconst (v := (nI (1))) hx hb dX0_whyNotItemAbove_46 (by decide) ?_
              refine lv_goto (tgt := 51) hx hb dX0_whyNotItemAbove_47 (by decide) ?_
              refine rl_calliQ (rl_runS (As := [.int (nI (1))]) (rest := []) hC hW (cC_ownUnless l D t A _ z _) cs_X0_27 sm_X0_ownUnless ⟨(Nat.le_of_ble_eq_true rfl), (Nat.le_of_ble_eq_true rfl)⟩ rfl hl.1 rfl (Nat.le_of_ble_eq_true rfl) dX0_whyNotItemAbove_51 ⟨(Nat.le_of_ble_eq_true rfl), (Nat.le_of_ble_eq_true rfl)⟩) hW (fun r f1 H locs hp hW => ?_)
              obtain rfl := hp
              exact rl_iret hC hW hr hlk (Nat.le_refl _) (Nat.le_refl _) ⟨_, rfl, rfl, rfl, rfl⟩ dX0_whyNotItemAbove_54
          · refine lv_iconst (v := (nI (4))) hx hb dX0_whyNotItemAbove_34 (by decide) ?_
            exact rl_iret hC hW hr hlk (Nat.le_refl _) (Nat.le_refl _) ⟨_, rfl, rfl, rfl, rfl⟩ dX0_whyNotItemAbove_35
    · obtain ⟨j, nu, th, n, gn, gt, hj, hnu, hth, hnT, h0, h1, h2, h3⟩ := hTh
      obtain ⟨hrv, hj5, hj2, hpa, hka⟩ := id (hI.2.2.1 j hj)
      refine lv_aload_n hx hb dX0_whyNotItemAbove_0 rfl (lv_at hl 0 rfl) ?_
      refine rl_instNo hC hW h0 rfl mw_432 (by decide) dX0_whyNotItemAbove_1 ?_
      refine rl_topn (y := nI 0) (by decide) ?_
      refine lv_if_eq (tgt := 15) hx hb dX0_whyNotItemAbove_4 (by decide) (fun c_4 => ?_) (fun c_4 => ?_)
      · refine lv_iconst (v := (nI (3))) hx hb dX0_whyNotItemAbove_15 (by decide) ?_
        exact rl_iret hC hW hr hlk (Nat.le_refl _) (Nat.le_refl _) ⟨_, rfl, rfl, rfl, rfl⟩ dX0_whyNotItemAbove_16
      · first | exact absurd c_4 (by decide) | exact absurd (by decide) c_4

set_option maxHeartbeats 4000000 in
set_option maxRecDepth 100000 in
theorem cC_whyNotOrderBelow (l : Launch) (D : va_G) (t : Nat → ClassId) (A : Nat → Prop) (f : rl_M) (z : Nat) (x : Nat) (T : Nat → Nat → Nat) (Th : Nat → Prop) (hI : CI t f x T Th) (r0 : Option Nat) (hr0 : ∀ q, r0 = some q → cTH t f x T Th q) (y : Int64) : rl_Met l yX0_whyNotOrderBelow (.code yX0_whyNotOrderBelow cX0_whyNotOrderBelow 4 (some FieldType.int)) (rl_rm 1 0 0) D t A f z [va_rf (r0), .long (y)] (rl_qi z fun r f1 => f = f1) := by
  refine rl_begin (own := RX0) (lv := [(0, va_rf (r0)), (1, .long (y))]) (by decide +kernel) rfl (by cases r0 <;> exact Nat.le_of_ble_eq_true rfl) (by cases r0 <;> rfl) fun p e s m0 args below meth c ls H locs hC hr hlk hnm hW hl hx hb => ?_
  rcases r0 with _ | q
  · refine lv_aload_nN hx hb dX0_whyNotOrderBelow_0 rfl (lv_at hl 0 rfl) ?_
    refine lv_instN hx hb dX0_whyNotOrderBelow_1 ?_
    refine rl_topn (y := nI 0) (by decide) ?_
    refine lv_if_eq (tgt := 15) hx hb dX0_whyNotOrderBelow_4 (by decide) (fun c_1 => ?_) (fun c_1 => ?_)
    · refine lv_iconst (v := (nI (3))) hx hb dX0_whyNotOrderBelow_15 (by decide) ?_
      exact rl_iret hC hW hr hlk (Nat.le_refl _) (Nat.le_refl _) ⟨_, rfl, rfl, rfl, rfl⟩ dX0_whyNotOrderBelow_16
    · first | exact absurd c_1 (by decide) | exact absurd (by decide) c_1
  · have hTh := hr0 q rfl
    obtain ⟨hge, hTh⟩ := hTh
    rcases hTh with hTh | hTh | hTh
    · obtain ⟨bb, nm, o, lo, hbb, h0⟩ := hTh
      obtain ⟨h1, -⟩ := hI.2.1 bb hbb
      refine lv_aload_n hx hb dX0_whyNotOrderBelow_0 rfl (lv_at hl 0 rfl) ?_
      refine rl_instY hC hW h0 rfl mw_442 mt_997 dX0_whyNotOrderBelow_1 ?_
      refine rl_topn (y := nI 1) (by decide) ?_
      refine lv_if_eq (tgt := 15) hx hb dX0_whyNotOrderBelow_4 (by decide) (fun c_2 => ?_) (fun c_2 => ?_)
      · first | exact absurd c_2 (by decide) | exact absurd (by decide) c_2
      · refine lv_aload_n hx hb dX0_whyNotOrderBelow_7 rfl (lv_at hl 0 rfl) ?_
        refine rl_castY hC hW h0 rfl mw_442 mt_997 dX0_whyNotOrderBelow_8 ?_
        refine lv_astore_n (lv' := [(3, .ref (q)), (0, .ref (q)), (1, .long (y))]) hx hb dX0_whyNotOrderBelow_11 rfl hl (by decide) rfl (fun ls hl => ?_)
        refine lv_goto (tgt := 17) hx hb dX0_whyNotOrderBelow_12 (by decide) ?_
        refine lv_aload_n hx hb dX0_whyNotOrderBelow_17 rfl (lv_at hl 0 rfl) ?_
        refine rl_get (v := .int (o)) hC hW fl_X0_67 h0 rfl dX0_whyNotOrderBelow_18 ?_
        refine lv_i2l hx hb dX0_whyNotOrderBelow_21 rfl ?_
        refine lv_lload_n hx hb dX0_whyNotOrderBelow_22 rfl (lv_at hl 2 rfl) ?_
        refine W.lcmp hx hb dX0_whyNotOrderBelow_23 ?_
        refine lv_if_ge (tgt := 31) hx hb dX0_whyNotOrderBelow_24 (by decide) (fun c_3 => ?_) (fun c_3 => ?_)
        · refine lv_iconst (v := (nI (0))) hx hb dX0_whyNotOrderBelow_31 (by decide) ?_
          refine rl_calliQ (rl_runS (As := [.int (nI (0))]) (rest := []) hC hW (cC_ownUnless l D t A _ z _) cs_X0_27 sm_X0_ownUnless ⟨(Nat.le_of_ble_eq_true rfl), (Nat.le_of_ble_eq_true rfl)⟩ rfl hl.1 rfl (Nat.le_of_ble_eq_true rfl) dX0_whyNotOrderBelow_32 ⟨(Nat.le_of_ble_eq_true rfl), (Nat.le_of_ble_eq_true rfl)⟩) hW (fun r f1 H locs hp hW => ?_)
          obtain rfl := hp
          exact rl_iret hC hW hr hlk (Nat.le_refl _) (Nat.le_refl _) ⟨_, rfl, rfl, rfl, rfl⟩ dX0_whyNotOrderBelow_35
        · refine lv_iconst (v := (nI (1))) hx hb dX0_whyNotOrderBelow_27 (by decide) ?_
          refine lv_goto (tgt := 32) hx hb dX0_whyNotOrderBelow_28 (by decide) ?_
          refine rl_calliQ (rl_runS (As := [.int (nI (1))]) (rest := []) hC hW (cC_ownUnless l D t A _ z _) cs_X0_27 sm_X0_ownUnless ⟨(Nat.le_of_ble_eq_true rfl), (Nat.le_of_ble_eq_true rfl)⟩ rfl hl.1 rfl (Nat.le_of_ble_eq_true rfl) dX0_whyNotOrderBelow_32 ⟨(Nat.le_of_ble_eq_true rfl), (Nat.le_of_ble_eq_true rfl)⟩) hW (fun r f1 H locs hp hW => ?_)
          obtain rfl := hp
          exact rl_iret hC hW hr hlk (Nat.le_refl _) (Nat.le_refl _) ⟨_, rfl, rfl, rfl, rfl⟩ dX0_whyNotOrderBelow_35
    · obtain ⟨rr, n, g, hrr, hn8, h0, h1⟩ := hTh
      refine lv_aload_n hx hb dX0_whyNotOrderBelow_0 rfl (lv_at hl 0 rfl) ?_
      refine rl_instNo hC hW h0 rfl mw_442 (by decide) dX0_whyNotOrderBelow_1 ?_
      refine rl_topn (y := nI 0) (by decide) ?_
      refine lv_if_eq (tgt := 15) hx hb dX0_whyNotOrderBelow_4 (by decide) (fun c_4 => ?_) (fun c_4 => ?_)
      · refine lv_iconst (v := (nI (3))) hx hb dX0_whyNotOrderBelow_15 (by decide) ?_
        exact rl_iret hC hW hr hlk (Nat.le_refl _) (Nat.le_refl _) ⟨_, rfl, rfl, rfl, rfl⟩ dX0_whyNotOrderBelow_16
      · first | exact absurd c_4 (by decide) | exact absurd (by decide) c_4
    · obtain ⟨j, nu, th, n, gn, gt, hj, hnu, hth, hnT, h0, h1, h2, h3⟩ := hTh
      obtain ⟨hrv, hj5, hj2, hpa, hka⟩ := id (hI.2.2.1 j hj)
      refine lv_aload_n hx hb dX0_whyNotOrderBelow_0 rfl (lv_at hl 0 rfl) ?_
      refine rl_instNo hC hW h0 rfl mw_442 (by decide) dX0_whyNotOrderBelow_1 ?_
      refine rl_topn (y := nI 0) (by decide) ?_
      refine lv_if_eq (tgt := 15) hx hb dX0_whyNotOrderBelow_4 (by decide) (fun c_5 => ?_) (fun c_5 => ?_)
      · refine lv_iconst (v := (nI (3))) hx hb dX0_whyNotOrderBelow_15 (by decide) ?_
        exact rl_iret hC hW hr hlk (Nat.le_refl _) (Nat.le_refl _) ⟨_, rfl, rfl, rfl, rfl⟩ dX0_whyNotOrderBelow_16
      · first | exact absurd c_5 (by decide) | exact absurd (by decide) c_5

set_option maxHeartbeats 4000000 in
set_option maxRecDepth 100000 in
theorem cC_whyNotPartIs (l : Launch) (D : va_G) (t : Nat → ClassId) (A : Nat → Prop) (f : rl_M) (z : Nat) (x : Nat) (T : Nat → Nat → Nat) (Th : Nat → Prop) (hI : CI t f x T Th) (hTP : rt_pure T) (r0 : Option Nat) (hr0 : ∀ q, r0 = some q → cTH t f x T Th q) (y : Int64) : rl_Met l yX0_whyNotPartIs (.code yX0_whyNotPartIs cX0_whyNotPartIs 4 (some FieldType.int)) (rl_rm 1 0 0) D t A f z [va_rf (r0), .long (y)] (rl_qi z fun r f1 => f = f1) := by
  refine rl_begin (own := RX0) (lv := [(0, va_rf (r0)), (1, .long (y))]) (by decide +kernel) rfl (by cases r0 <;> exact Nat.le_of_ble_eq_true rfl) (by cases r0 <;> rfl) fun p e s m0 args below meth c ls H locs hC hr hlk hnm hW hl hx hb => ?_
  rcases r0 with _ | q
  · refine lv_aload_nN hx hb dX0_whyNotPartIs_0 rfl (lv_at hl 0 rfl) ?_
    refine lv_instN hx hb dX0_whyNotPartIs_1 ?_
    refine rl_topn (y := nI 0) (by decide) ?_
    refine lv_if_eq (tgt := 15) hx hb dX0_whyNotPartIs_4 (by decide) (fun c_1 => ?_) (fun c_1 => ?_)
    · refine lv_iconst (v := (nI (3))) hx hb dX0_whyNotPartIs_15 (by decide) ?_
      exact rl_iret hC hW hr hlk (Nat.le_refl _) (Nat.le_refl _) ⟨_, rfl, rfl, rfl, rfl⟩ dX0_whyNotPartIs_16
    · first | exact absurd c_1 (by decide) | exact absurd (by decide) c_1
  · have hTh := hr0 q rfl
    obtain ⟨hge, hTh⟩ := hTh
    rcases hTh with hTh | hTh | hTh
    · obtain ⟨bb, nm, o, lo, hbb, h0⟩ := hTh
      obtain ⟨h1, -⟩ := hI.2.1 bb hbb
      refine lv_aload_n hx hb dX0_whyNotPartIs_0 rfl (lv_at hl 0 rfl) ?_
      refine rl_instNo hC hW h0 rfl mw_436 (by decide) dX0_whyNotPartIs_1 ?_
      refine rl_topn (y := nI 0) (by decide) ?_
      refine lv_if_eq (tgt := 15) hx hb dX0_whyNotPartIs_4 (by decide) (fun c_2 => ?_) (fun c_2 => ?_)
      · refine lv_iconst (v := (nI (3))) hx hb dX0_whyNotPartIs_15 (by decide) ?_
        exact rl_iret hC hW hr hlk (Nat.le_refl _) (Nat.le_refl _) ⟨_, rfl, rfl, rfl, rfl⟩ dX0_whyNotPartIs_16
      · first | exact absurd c_2 (by decide) | exact absurd (by decide) c_2
    · obtain ⟨rr, n, g, hrr, hn8, h0, h1⟩ := hTh
      refine lv_aload_n hx hb dX0_whyNotPartIs_0 rfl (lv_at hl 0 rfl) ?_
      refine rl_instNo hC hW h0 rfl mw_436 (by decide) dX0_whyNotPartIs_1 ?_
      refine rl_topn (y := nI 0) (by decide) ?_
      refine lv_if_eq (tgt := 15) hx hb dX0_whyNotPartIs_4 (by decide) (fun c_3 => ?_) (fun c_3 => ?_)
      · refine lv_iconst (v := (nI (3))) hx hb dX0_whyNotPartIs_15 (by decide) ?_
        exact rl_iret hC hW hr hlk (Nat.le_refl _) (Nat.le_refl _) ⟨_, rfl, rfl, rfl, rfl⟩ dX0_whyNotPartIs_16
      · first | exact absurd c_3 (by decide) | exact absurd (by decide) c_3
    · obtain ⟨j, nu, th, n, gn, gt, hj, hnu, hth, hnT, h0, h1, h2, h3⟩ := hTh
      obtain ⟨hrv, hj5, hj2, hpa, hka⟩ := id (hI.2.2.1 j hj)
      refine lv_aload_n hx hb dX0_whyNotPartIs_0 rfl (lv_at hl 0 rfl) ?_
      refine rl_instY hC hW h0 rfl mw_436 mt_998 dX0_whyNotPartIs_1 ?_
      refine rl_topn (y := nI 1) (by decide) ?_
      refine lv_if_eq (tgt := 15) hx hb dX0_whyNotPartIs_4 (by decide) (fun c8 => ?_) (fun c8 => ?_)
      · exact absurd c8 (by decide)
      · refine lv_aload_n hx hb dX0_whyNotPartIs_7 rfl (lv_at hl 0 rfl) ?_
        refine rl_castY hC hW h0 rfl mw_436 mt_998 dX0_whyNotPartIs_8 ?_
        refine lv_astore_n (lv' := [(3, .ref (q)), (0, .ref (q)), (1, .long (y))]) hx hb dX0_whyNotPartIs_11 rfl hl (by decide) rfl (fun ls hl => ?_)
        refine lv_goto (tgt := 17) hx hb dX0_whyNotPartIs_12 (by decide) ?_
        refine lv_aload_n hx hb dX0_whyNotPartIs_17 rfl (lv_at hl 0 rfl) ?_
        refine rl_calliQ (rl_runV (b := q) (As := []) (rest := []) hC hW (cC_Rec_extent l D t A _ z q _ nu th n gn h0 h1) cs_X0_57 im_X6_extent sl_X6_extent h0 rfl ⟨(Nat.le_of_ble_eq_true rfl), (Nat.le_of_ble_eq_true rfl)⟩ rfl hl.1 rfl (Nat.le_of_ble_eq_true rfl) dX0_whyNotPartIs_18 ⟨(Nat.le_of_ble_eq_true rfl), (Nat.le_of_ble_eq_true rfl)⟩) hW (fun r f1 H locs hp hW => ?_)
        obtain ⟨rfl, rfl⟩ := hp
        refine lv_if_ne (tgt := 26) hx hb dX0_whyNotPartIs_21 (by decide) (fun c2 => ?_) (fun c2 => ?_)
        · have hn0 : n ≠ 0 := fun q9 => c2 (by rw [q9]; rfl)
          have hs4 := hTP.s4 (p := 0) hj (by omega)
          refine lv_aload_n hx hb dX0_whyNotPartIs_26 rfl (lv_at hl 0 rfl) ?_
          refine lv_iconst (v := (nI (0))) hx hb dX0_whyNotPartIs_27 (by decide) ?_
          refine rl_calliQ (rl_runV (b := q) (As := [.int (nI (0))]) (rest := []) hC hW (cC_isNumber l D t A _ z x T Th hI q j nu th 0 hj (by omega) (by omega) h0) cs_X0_61 im_X6_isNumber sl_X6_isNumber h0 rfl ⟨(Nat.le_of_ble_eq_true rfl), (Nat.le_of_ble_eq_true rfl)⟩ rfl hl.1 rfl (Nat.le_of_ble_eq_true rfl) dX0_whyNotPartIs_28 ⟨(Nat.le_of_ble_eq_true rfl), (Nat.le_of_ble_eq_true rfl)⟩) hW (fun r f1 H locs hp hW => ?_)
          obtain ⟨rfl, hp⟩ := hp
          rcases hp with ⟨rfl, hp⟩ | ⟨rfl, hp⟩
          · refine lv_if_eq (tgt := 56) hx hb dX0_whyNotPartIs_31 (by decide) (fun c_4 => ?_) (fun c_4 => ?_)
            · first | exact absurd c_4 (by decide) | exact absurd (by decide) c_4
            · refine lv_aload_n hx hb dX0_whyNotPartIs_34 rfl (lv_at hl 0 rfl) ?_
              refine rl_get (v := .ref (nu)) hC hW fl_X0_21 h0 rfl dX0_whyNotPartIs_35 ?_
              refine lv_iconst (v := (nI (0))) hx hb dX0_whyNotPartIs_38 (by decide) ?_
              refine rl_lald_n hC hW h1 (by omega) (by omega) dX0_whyNotPartIs_39 ?_
              refine lv_lload_n hx hb dX0_whyNotPartIs_40 rfl (lv_at hl 2 rfl) ?_
              refine W.lcmp hx hb dX0_whyNotPartIs_41 ?_
              refine lv_if_ne (tgt := 49) hx hb dX0_whyNotPartIs_42 (by decide) (fun c_5 => ?_) (fun c_5 => ?_)
              · refine lv_iconst (v := (nI (0))) hx hb dX0_whyNotPartIs_49 (by decide) ?_
                refine rl_calliQ (rl_runS (As := [.int (nI (0))]) (rest := []) hC hW (cC_ownUnless l D t A _ z _) cs_X0_27 sm_X0_ownUnless ⟨(Nat.le_of_ble_eq_true rfl), (Nat.le_of_ble_eq_true rfl)⟩ rfl hl.1 rfl (Nat.le_of_ble_eq_true rfl) dX0_whyNotPartIs_50 ⟨(Nat.le_of_ble_eq_true rfl), (Nat.le_of_ble_eq_true rfl)⟩) hW (fun r f1 H locs hp hW => ?_)
                obtain rfl := hp
                refine lv_goto (tgt := 57) hx hb dX0_whyNotPartIs_53 (by decide) ?_
                exact rl_iret hC hW hr hlk (Nat.le_refl _) (Nat.le_refl _) ⟨_, rfl, rfl, rfl, rfl⟩ dX0_whyNotPartIs_57
              · refine lv_iconst (v := (nI (1))) hx hb dX0_whyNotPartIs_45 (by decide) ?_
                refine lv_goto (tgt := 50) hx hb dX0_whyNotPartIs_46 (by decide) ?_
                refine rl_calliQ (rl_runS (As := [.int (nI (1))]) (rest := []) hC hW (cC_ownUnless l D t A _ z _) cs_X0_27 sm_X0_ownUnless ⟨(Nat.le_of_ble_eq_true rfl), (Nat.le_of_ble_eq_true rfl)⟩ rfl hl.1 rfl (Nat.le_of_ble_eq_true rfl) dX0_whyNotPartIs_50 ⟨(Nat.le_of_ble_eq_true rfl), (Nat.le_of_ble_eq_true rfl)⟩) hW (fun r f1 H locs hp hW => ?_)
                obtain rfl := hp
                refine lv_goto (tgt := 57) hx hb dX0_whyNotPartIs_53 (by decide) ?_
                exact rl_iret hC hW hr hlk (Nat.le_refl _) (Nat.le_refl _) ⟨_, rfl, rfl, rfl, rfl⟩ dX0_whyNotPartIs_57
          · refine lv_if_eq (tgt := 56) hx hb dX0_whyNotPartIs_31 (by decide) (fun c_6 => ?_) (fun c_6 => ?_)
            · refine lv_iconst (v := (nI (1))) hx hb dX0_whyNotPartIs_56 (by decide) ?_
              exact rl_iret hC hW hr hlk (Nat.le_refl _) (Nat.le_refl _) ⟨_, rfl, rfl, rfl, rfl⟩ dX0_whyNotPartIs_57
            · first | exact absurd c_6 (by decide) | exact absurd (by decide) c_6
        · refine lv_iconst (v := (nI (4))) hx hb dX0_whyNotPartIs_24 (by decide) ?_
          exact rl_iret hC hW hr hlk (Nat.le_refl _) (Nat.le_refl _) ⟨_, rfl, rfl, rfl, rfl⟩ dX0_whyNotPartIs_25

set_option maxHeartbeats 4000000 in
set_option maxRecDepth 100000 in
theorem cC_whyNotPassed (l : Launch) (D : va_G) (t : Nat → ClassId) (A : Nat → Prop) (f : rl_M) (z : Nat) (x : Nat) (T : Nat → Nat → Nat) (Th : Nat → Prop) (hI : CI t f x T Th) (hTP : rt_pure T) (a j nu th : Nat) (hTa : Th a) (hD : cDR t f x T a j nu th) (k ho p0 : Nat) (o : Int32) (hh : ho < 5) (hp0 : p0 < T 2 j) (hkb : rt_kb ho (T 2 j) o) (hK : f k = some (.inr (0, [.int (nI ho), .int (nI p0), .int o]))) : rl_Met l yX0_whyNotPassed (.code yX0_whyNotPassed cX0_whyNotPassed 2 (some FieldType.int)) (rl_rm 2 0 0) D t A f z [.ref (k), .ref (a)] (rl_qi z fun r f1 => f = f1) := by
  refine rl_begin (own := RX0) (lv := [(0, .ref (k)), (1, .ref (a))]) (by decide +kernel) rfl (Nat.le_of_ble_eq_true rfl) rfl fun p e s m0 args below meth c ls H locs hC hr hlk hnm hW hl hx hb => ?_
  obtain ⟨hj, hnu, hth, h0, -⟩ := id hD
  obtain ⟨gn, gt, h1, h2, h3⟩ := hD.op (hI.th hTa)
  obtain ⟨hrv, hj5, hj2, ⟨gp, hpa, hpp⟩, ⟨gk, hka, hkk⟩⟩ := id (hI.2.2.1 j hj)
  have hs9 : ho = 0 ∨ ho = 1 ∨ ho = 2 ∨ ho = 3 ∨ ho = 4 := by omega
  rcases hs9 with rfl | rfl | rfl | rfl | rfl
  · obtain ⟨b0, hb0, rfl⟩ := hkb (by decide)
    refine lv_aload_n hx hb dX0_whyNotPassed_0 rfl (lv_at hl 0 rfl) ?_
    refine rl_get (v := .int (nI (0))) hC hW fl_X0_9 hK rfl dX0_whyNotPassed_1 ?_
    refine lv_tableIn (tgt := 36) hx hb dX0_whyNotPassed_4 (by decide) (by decide) rfl (by decide) ?_
    refine lv_aload_n hx hb dX0_whyNotPassed_36 rfl (lv_at hl 1 rfl) ?_
    refine rl_get (v := .ref (nu)) hC hW fl_X0_21 h0 rfl dX0_whyNotPassed_37 ?_
    refine lv_aload_n hx hb dX0_whyNotPassed_40 rfl (lv_at hl 0 rfl) ?_
    refine rl_get (v := .int (nI (p0))) hC hW fl_X0_15 hK rfl dX0_whyNotPassed_41 ?_
    refine rl_lald_n hC hW h1 (by omega) (by omega) dX0_whyNotPassed_44 ?_
    refine lv_aload_n hx hb dX0_whyNotPassed_45 rfl (lv_at hl 1 rfl) ?_
    refine rl_get (v := .ref (nu)) hC hW fl_X0_21 h0 rfl dX0_whyNotPassed_46 ?_
    refine lv_aload_n hx hb dX0_whyNotPassed_49 rfl (lv_at hl 0 rfl) ?_
    refine rl_get (v := .int (nI (b0))) hC hW fl_X0_18 hK rfl dX0_whyNotPassed_50 ?_
    refine rl_lald_n hC hW h1 (by omega) (by omega) dX0_whyNotPassed_53 ?_
    refine W.lcmp hx hb dX0_whyNotPassed_54 ?_
    refine lv_if_gt (tgt := 62) hx hb dX0_whyNotPassed_55 (by decide) (fun c_1 => ?_) (fun c_1 => ?_)
    · refine lv_iconst (v := (nI (0))) hx hb dX0_whyNotPassed_62 (by decide) ?_
      refine rl_calliQ (rl_runS (As := [.int (nI (0))]) (rest := []) hC hW (cC_ownUnless l D t A _ z _) cs_X0_27 sm_X0_ownUnless ⟨(Nat.le_of_ble_eq_true rfl), (Nat.le_of_ble_eq_true rfl)⟩ rfl hl.1 rfl (Nat.le_of_ble_eq_true rfl) dX0_whyNotPassed_63 ⟨(Nat.le_of_ble_eq_true rfl), (Nat.le_of_ble_eq_true rfl)⟩) hW (fun r f1 H locs hp hW => ?_)
      obtain rfl := hp
      exact rl_iret hC hW hr hlk (Nat.le_refl _) (Nat.le_refl _) ⟨_, rfl, rfl, rfl, rfl⟩ dX0_whyNotPassed_66
    · refine lv_iconst (v := (nI (1))) hx hb dX0_whyNotPassed_58 (by decide) ?_
      refine lv_goto (tgt := 63) hx hb dX0_whyNotPassed_59 (by decide) ?_
      refine rl_calliQ (rl_runS (As := [.int (nI (1))]) (rest := []) hC hW (cC_ownUnless l D t A _ z _) cs_X0_27 sm_X0_ownUnless ⟨(Nat.le_of_ble_eq_true rfl), (Nat.le_of_ble_eq_true rfl)⟩ rfl hl.1 rfl (Nat.le_of_ble_eq_true rfl) dX0_whyNotPassed_63 ⟨(Nat.le_of_ble_eq_true rfl), (Nat.le_of_ble_eq_true rfl)⟩) hW (fun r f1 H locs hp hW => ?_)
      obtain rfl := hp
      exact rl_iret hC hW hr hlk (Nat.le_refl _) (Nat.le_refl _) ⟨_, rfl, rfl, rfl, rfl⟩ dX0_whyNotPassed_66
  · refine lv_aload_n hx hb dX0_whyNotPassed_0 rfl (lv_at hl 0 rfl) ?_
    refine rl_get (v := .int (nI (1))) hC hW fl_X0_9 hK rfl dX0_whyNotPassed_1 ?_
    refine lv_tableIn (tgt := 67) hx hb dX0_whyNotPassed_4 (by decide) (by decide) rfl (by decide) ?_
    refine lv_aload_n hx hb dX0_whyNotPassed_67 rfl (lv_at hl 1 rfl) ?_
    refine rl_get (v := .ref (nu)) hC hW fl_X0_21 h0 rfl dX0_whyNotPassed_68 ?_
    refine lv_aload_n hx hb dX0_whyNotPassed_71 rfl (lv_at hl 0 rfl) ?_
    refine rl_get (v := .int (nI (p0))) hC hW fl_X0_15 hK rfl dX0_whyNotPassed_72 ?_
    refine rl_lald_n hC hW h1 (by omega) (by omega) dX0_whyNotPassed_75 ?_
    refine rl_calliQ (rl_runS (As := [.long (gn (p0))]) (rest := []) hC hW (cC_whyNotDivisor l D t A _ z _) cs_X0_31 sm_X0_whyNotDivisor ⟨(Nat.le_of_ble_eq_true rfl), (Nat.le_of_ble_eq_true rfl)⟩ rfl hl.1 rfl (Nat.le_of_ble_eq_true rfl) dX0_whyNotPassed_76 ⟨(Nat.le_of_ble_eq_true rfl), (Nat.le_of_ble_eq_true rfl)⟩) hW (fun r f1 H locs hp hW => ?_)
    obtain rfl := hp
    exact rl_iret hC hW hr hlk (Nat.le_refl _) (Nat.le_refl _) ⟨_, rfl, rfl, rfl, rfl⟩ dX0_whyNotPassed_79
  · obtain ⟨b0, hb0, rfl⟩ := hkb (by decide)
    refine lv_aload_n hx hb dX0_whyNotPassed_0 rfl (lv_at hl 0 rfl) ?_
    refine rl_get (v := .int (nI (2))) hC hW fl_X0_9 hK rfl dX0_whyNotPassed_1 ?_
    refine lv_tableIn (tgt := 80) hx hb dX0_whyNotPassed_4 (by decide) (by decide) rfl (by decide) ?_
    refine lv_aload_n hx hb dX0_whyNotPassed_80 rfl (lv_at hl 1 rfl) ?_
    refine rl_get (v := .ref (th)) hC hW fl_X0_35 h0 rfl dX0_whyNotPassed_81 ?_
    refine lv_aload_n hx hb dX0_whyNotPassed_84 rfl (lv_at hl 0 rfl) ?_
    refine rl_get (v := .int (nI (p0))) hC hW fl_X0_15 hK rfl dX0_whyNotPassed_85 ?_
    refine rl_aald_n 3 hC hW rfl h2 (by omega) (by omega) dX0_whyNotPassed_88 ?_
    obtain ⟨r1, er1⟩ : ∃ r : Option Nat, r = gt (p0) := ⟨_, rfl⟩
    refine rl_topqq er1.symm ?_
    refine lv_aload_n hx hb dX0_whyNotPassed_89 rfl (lv_at hl 1 rfl) ?_
    refine rl_get (v := .ref (nu)) hC hW fl_X0_21 h0 rfl dX0_whyNotPassed_90 ?_
    refine lv_aload_n hx hb dX0_whyNotPassed_93 rfl (lv_at hl 0 rfl) ?_
    refine rl_get (v := .int (nI (b0))) hC hW fl_X0_18 hK rfl dX0_whyNotPassed_94 ?_
    refine rl_lald_n hC hW h1 (by omega) (by omega) dX0_whyNotPassed_97 ?_
    refine rl_calliQ (rl_runS (As := [va_rf (r1), .long (gn (b0))]) (rest := []) hC hW (cC_whyNotItemAbove l D t A _ z x T Th hI r1 (fun q e => hI.th (h3 p0 hp0 q (er1.symm.trans e))) _) cs_X0_39 sm_X0_whyNotItemAbove ⟨(Nat.le_of_ble_eq_true rfl), (Nat.le_of_ble_eq_true rfl)⟩ rfl hl.1 rfl (Nat.le_of_ble_eq_true rfl) dX0_whyNotPassed_98 ⟨(Nat.le_of_ble_eq_true rfl), (Nat.le_of_ble_eq_true rfl)⟩) hW (fun r f1 H locs hp hW => ?_)
    obtain rfl := hp
    exact rl_iret hC hW hr hlk (Nat.le_refl _) (Nat.le_refl _) ⟨_, rfl, rfl, rfl, rfl⟩ dX0_whyNotPassed_101
  · obtain ⟨b0, hb0, rfl⟩ := hkb (by decide)
    refine lv_aload_n hx hb dX0_whyNotPassed_0 rfl (lv_at hl 0 rfl) ?_
    refine rl_get (v := .int (nI (3))) hC hW fl_X0_9 hK rfl dX0_whyNotPassed_1 ?_
    refine lv_tableIn (tgt := 102) hx hb dX0_whyNotPassed_4 (by decide) (by decide) rfl (by decide) ?_
    refine lv_aload_n hx hb dX0_whyNotPassed_102 rfl (lv_at hl 1 rfl) ?_
    refine rl_get (v := .ref (th)) hC hW fl_X0_35 h0 rfl dX0_whyNotPassed_103 ?_
    refine lv_aload_n hx hb dX0_whyNotPassed_106 rfl (lv_at hl 0 rfl) ?_
    refine rl_get (v := .int (nI (p0))) hC hW fl_X0_15 hK rfl dX0_whyNotPassed_107 ?_
    refine rl_aald_n 3 hC hW rfl h2 (by omega) (by omega) dX0_whyNotPassed_110 ?_
    obtain ⟨r1, er1⟩ : ∃ r : Option Nat, r = gt (p0) := ⟨_, rfl⟩
    refine rl_topqq er1.symm ?_
    refine lv_aload_n hx hb dX0_whyNotPassed_111 rfl (lv_at hl 1 rfl) ?_
    refine rl_get (v := .ref (nu)) hC hW fl_X0_21 h0 rfl dX0_whyNotPassed_112 ?_
    refine lv_aload_n hx hb dX0_whyNotPassed_115 rfl (lv_at hl 0 rfl) ?_
    refine rl_get (v := .int (nI (b0))) hC hW fl_X0_18 hK rfl dX0_whyNotPassed_116 ?_
    refine rl_lald_n hC hW h1 (by omega) (by omega) dX0_whyNotPassed_119 ?_
    refine rl_calliQ (rl_runS (As := [va_rf (r1), .long (gn (b0))]) (rest := []) hC hW (cC_whyNotPartIs l D t A _ z x T Th hI hTP r1 (fun q e => hI.th (h3 p0 hp0 q (er1.symm.trans e))) _) cs_X0_43 sm_X0_whyNotPartIs ⟨(Nat.le_of_ble_eq_true rfl), (Nat.le_of_ble_eq_true rfl)⟩ rfl hl.1 rfl (Nat.le_of_ble_eq_true rfl) dX0_whyNotPassed_120 ⟨(Nat.le_of_ble_eq_true rfl), (Nat.le_of_ble_eq_true rfl)⟩) hW (fun r f1 H locs hp hW => ?_)
    obtain rfl := hp
    exact rl_iret hC hW hr hlk (Nat.le_refl _) (Nat.le_refl _) ⟨_, rfl, rfl, rfl, rfl⟩ dX0_whyNotPassed_123
  · obtain ⟨b0, hb0, rfl⟩ := hkb (by decide)
    refine lv_aload_n hx hb dX0_whyNotPassed_0 rfl (lv_at hl 0 rfl) ?_
    refine rl_get (v := .int (nI (4))) hC hW fl_X0_9 hK rfl dX0_whyNotPassed_1 ?_
    refine lv_tableOut (tgt := 124) hx hb dX0_whyNotPassed_4 (by decide) (by decide) ?_
    refine lv_aload_n hx hb dX0_whyNotPassed_124 rfl (lv_at hl 1 rfl) ?_
    refine rl_get (v := .ref (th)) hC hW fl_X0_35 h0 rfl dX0_whyNotPassed_125 ?_
    refine lv_aload_n hx hb dX0_whyNotPassed_128 rfl (lv_at hl 0 rfl) ?_
    refine rl_get (v := .int (nI (p0))) hC hW fl_X0_15 hK rfl dX0_whyNotPassed_129 ?_
    refine rl_aald_n 3 hC hW rfl h2 (by omega) (by omega) dX0_whyNotPassed_132 ?_
    obtain ⟨r1, er1⟩ : ∃ r : Option Nat, r = gt (p0) := ⟨_, rfl⟩
    refine rl_topqq er1.symm ?_
    refine lv_aload_n hx hb dX0_whyNotPassed_133 rfl (lv_at hl 1 rfl) ?_
    refine rl_get (v := .ref (nu)) hC hW fl_X0_21 h0 rfl dX0_whyNotPassed_134 ?_
    refine lv_aload_n hx hb dX0_whyNotPassed_137 rfl (lv_at hl 0 rfl) ?_
    refine rl_get (v := .int (nI (b0))) hC hW fl_X0_18 hK rfl dX0_whyNotPassed_138 ?_
    refine rl_lald_n hC hW h1 (by omega) (by omega) dX0_whyNotPassed_141 ?_
    refine rl_calliQ (rl_runS (As := [va_rf (r1), .long (gn (b0))]) (rest := []) hC hW (cC_whyNotOrderBelow l D t A _ z x T Th hI r1 (fun q e => hI.th (h3 p0 hp0 q (er1.symm.trans e))) _) cs_X0_46 sm_X0_whyNotOrderBelow ⟨(Nat.le_of_ble_eq_true rfl), (Nat.le_of_ble_eq_true rfl)⟩ rfl hl.1 rfl (Nat.le_of_ble_eq_true rfl) dX0_whyNotPassed_142 ⟨(Nat.le_of_ble_eq_true rfl), (Nat.le_of_ble_eq_true rfl)⟩) hW (fun r f1 H locs hp hW => ?_)
    obtain rfl := hp
    exact rl_iret hC hW hr hlk (Nat.le_refl _) (Nat.le_refl _) ⟨_, rfl, rfl, rfl, rfl⟩ dX0_whyNotPassed_145

set_option maxHeartbeats 4000000 in
set_option maxRecDepth 100000 in
theorem cC_whyNotMade (l : Launch) (D : va_G) (t : Nat → ClassId) (A : Nat → Prop) (f : rl_M) (z : Nat) (x : Nat) (T : Nat → Nat → Nat) (Th : Nat → Prop) (hI : CI t f x T Th) (hTP : rt_pure T) (hTK : rt_pk T) (a j nu th : Nat) (hTa : Th a) (hD : cDR t f x T a j nu th) : rl_Met l yX7_whyNotMade (.code yX7_whyNotMade cX7_whyNotMade 4 (some FieldType.int)) (rl_rm 3 0 0) D t A f z [.ref (x + 16 + 3 * j), .ref (a)] (rl_qi z fun r f1 => f = f1) := by
  refine rl_begin (own := RX7) (lv := [(0, .ref (x + 16 + 3 * j)), (1, .ref (a))]) (by decide +kernel) rfl (Nat.le_of_ble_eq_true rfl) rfl fun p e s m0 args below meth c ls H locs hC hr hlk hnm hW hl hx hb => ?_
  obtain ⟨hj, hnu, hth, h0, -⟩ := id hD
  obtain ⟨gn, gt, h1, h2, h3⟩ := hD.op (hI.th hTa)
  obtain ⟨hrv, hj5, hj2, ⟨gp, hpa, hpp⟩, ⟨gk, hka, hkk⟩⟩ := id (hI.2.2.1 j hj)
  refine lv_iconst (v := (nI (0))) hx hb dX7_whyNotMade_0 (by decide) ?_
  refine lv_istore_n (lv' := [(2, .int (nI (0))), (0, .ref (x + 16 + 3 * j)), (1, .ref (a))]) hx hb dX7_whyNotMade_1 rfl hl (by decide) rfl (fun ls hl => ?_)
  replace hl : lv_has ls 4 [(0, .ref (x + 16 + 3 * j)), (1, .ref (a)), (2, .int (nI (0)))] := lv_sub hl [1, 2, 0] rfl
  replace hl : ∃ i : Nat, (i ≤ T 2 j) ∧ lv_has ls 4 [(0, .ref (x + 16 + 3 * j)), (1, .ref (a)), (2, .int (nI (i)))] := ⟨0, Nat.zero_le _, hl⟩
  obtain ⟨i, hi, hl⟩ := hl
  obtain ⟨n, hn⟩ : ∃ n, T 2 j - i < n := ⟨_, Nat.lt_succ_self _⟩
  induction n generalizing i H locs ls with
  | zero => exact absurd hn (Nat.not_lt_zero _)
  | succ n ih =>
    refine lv_iload_n hx hb dX7_whyNotMade_2 rfl (lv_at hl 2 rfl) ?_
    refine lv_aload_n hx hb dX7_whyNotMade_3 rfl (lv_at hl 1 rfl) ?_
    refine rl_calliQ (rl_runV (b := a) (As := []) (rest := [.int (nI (i))]) hC hW (cC_Rec_extent l D t A _ z a _ nu th _ gn h0 h1) cs_X7_46 im_X6_extent sl_X6_extent h0 rfl ⟨(Nat.le_of_ble_eq_true rfl), (Nat.le_of_ble_eq_true rfl)⟩ rfl hl.1 rfl (Nat.le_of_ble_eq_true rfl) dX7_whyNotMade_4 ⟨(Nat.le_of_ble_eq_true rfl), (Nat.le_of_ble_eq_true rfl)⟩) hW (fun r f1 H locs hp hW => ?_)
    obtain ⟨rfl, rfl⟩ := hp
    refine lv_icmp_ge (tgt := 48) hx hb dX7_whyNotMade_7 (by decide) (fun c1 => ?_) (fun c1 => ?_)
    · clear ih hn hi c1
      refine lv_iconst (v := (nI (0))) hx hb dX7_whyNotMade_48 (by decide) ?_
      refine lv_istore_n (lv' := [(2, .int (nI (0))), (0, .ref (x + 16 + 3 * j)), (1, .ref (a))]) hx hb dX7_whyNotMade_49 rfl hl (by decide) rfl (fun ls hl => ?_)
      replace hl : lv_has ls 4 [(0, .ref (x + 16 + 3 * j)), (1, .ref (a)), (2, .int (nI (0)))] := lv_sub hl [1, 2, 0] rfl
      replace hl : ∃ c : Nat, (c ≤ T 5 j) ∧ lv_has ls 4 [(0, .ref (x + 16 + 3 * j)), (1, .ref (a)), (2, .int (nI (c)))] := ⟨0, Nat.zero_le _, hl⟩
      obtain ⟨c, hc, hl⟩ := hl
      obtain ⟨n, hn⟩ : ∃ n, T 5 j - c < n := ⟨_, Nat.lt_succ_self _⟩
      induction n generalizing c H locs ls with
      | zero => exact absurd hn (Nat.not_lt_zero _)
      | succ n ih =>
        refine lv_iload_n hx hb dX7_whyNotMade_50 rfl (lv_at hl 2 rfl) ?_
        refine lv_aload_n hx hb dX7_whyNotMade_51 rfl (lv_at hl 0 rfl) ?_
        refine rl_get (v := .int (nI (T 5 j))) hC hW fl_X7_43 hrv rfl dX7_whyNotMade_52 ?_
        refine lv_icmp_ge (tgt := 81) hx hb dX7_whyNotMade_55 (by decide) (fun c1 => ?_) (fun c1 => ?_)
        · refine lv_iconst (v := (nI (0))) hx hb dX7_whyNotMade_81 (by decide) ?_
          exact rl_iret hC hW hr hlk (Nat.le_refl _) (Nat.le_refl _) ⟨_, rfl, rfl, rfl, rfl⟩ dX7_whyNotMade_82
        · have hlt : c < T 5 j := rg_lt c1 (by omega) (by omega)
          obtain ⟨q, o, hq1, hq2, hq3, hq4, hq5⟩ := hkk c hlt
          have hh5 : T 6 (2 * j + c) < 5 := by obtain ⟨a7, a8, a9, a10, hk⟩ := hTK; exact (hk.2 j c hj hlt).2.1
          refine lv_aload_n hx hb dX7_whyNotMade_58 rfl (lv_at hl 0 rfl) ?_
          refine rl_get (v := .ref (x + 18 + 3 * j)) hC hW fl_X7_26 hrv rfl dX7_whyNotMade_59 ?_
          refine lv_iload_n hx hb dX7_whyNotMade_62 rfl (lv_at hl 2 rfl) ?_
          refine rl_aald_n 6 hC hW rfl hka (by omega) (by decide) dX7_whyNotMade_63 ?_
          refine rl_topq (hq1) ?_
          refine lv_aload_n hx hb dX7_whyNotMade_64 rfl (lv_at hl 1 rfl) ?_
          refine rl_calliQ (rl_runV (b := q) (As := [.ref (a)]) (rest := []) hC hW (cC_whyNotPassed l D t A _ z x T Th hI hTP a j nu th hTa hD q _ _ o hh5 hq4 hq5 hq3) cs_X7_64 im_X0_whyNotPassed sl_X0_whyNotPassed hq3 rfl ⟨(Nat.le_of_ble_eq_true rfl), (Nat.le_of_ble_eq_true rfl)⟩ rfl hl.1 rfl (Nat.le_of_ble_eq_true rfl) dX7_whyNotMade_65 ⟨(Nat.le_of_ble_eq_true rfl), (Nat.le_of_ble_eq_true rfl)⟩) hW (fun r f1 H locs hp hW => ?_)
          obtain rfl := hp
          refine lv_istore_n (lv' := [(3, .int (r)), (0, .ref (x + 16 + 3 * j)), (1, .ref (a)), (2, .int (nI (c)))]) hx hb dX7_whyNotMade_68 rfl hl (by decide) rfl (fun ls hl => ?_)
          refine lv_iload_n hx hb dX7_whyNotMade_69 rfl (lv_at hl 0 rfl) ?_
          refine lv_if_eq (tgt := 75) hx hb dX7_whyNotMade_70 (by decide) (fun c2 => ?_) (fun c2 => ?_)
          · refine lv_iinc (v := (nI ((c) + 1))) (lv' := [(2, .int (nI ((c) + 1))), (3, .int (r)), (0, .ref (x + 16 + 3 * j)), (1, .ref (a))]) hx hb dX7_whyNotMade_75 hl (k := 3) rfl (nI_1 _) (by decide) rfl (fun ls hl => ?_)
            refine lv_goto (tgt := 50) hx hb dX7_whyNotMade_78 (by decide) ?_
            replace hl : lv_has ls 4 [(0, .ref (x + 16 + 3 * j)), (1, .ref (a)), (2, .int (nI ((c) + 1)))] := lv_sub hl [2, 3, 0] rfl
            exact ih H locs hW ls (c + 1) (by omega) hl (by omega)
          · refine lv_iload_n hx hb dX7_whyNotMade_73 rfl (lv_at hl 0 rfl) ?_
            exact rl_iret hC hW hr hlk (Nat.le_refl _) (Nat.le_refl _) ⟨_, rfl, rfl, rfl, rfl⟩ dX7_whyNotMade_74
    · have hlt : i < T 2 j := rg_lt c1 (by omega) (by omega)
      obtain ⟨q, o, hq1, hq2, hq3⟩ := hpp i hlt
      have hs4 := hTP.s4 hj hlt
      refine lv_aload_n hx hb dX7_whyNotMade_10 rfl (lv_at hl 0 rfl) ?_
      refine rl_get (v := .ref (x + 17 + 3 * j)) hC hW fl_X7_20 hrv rfl dX7_whyNotMade_11 ?_
      refine lv_iload_n hx hb dX7_whyNotMade_14 rfl (lv_at hl 2 rfl) ?_
      refine rl_aald_n 5 hC hW rfl hpa (by omega) (by decide) dX7_whyNotMade_15 ?_
      refine rl_topq (hq1) ?_
      refine lv_aload_n hx hb dX7_whyNotMade_16 rfl (lv_at hl 1 rfl) ?_
      refine rl_get (v := .ref (nu)) hC hW fl_X7_52 h0 rfl dX7_whyNotMade_17 ?_
      refine lv_iload_n hx hb dX7_whyNotMade_20 rfl (lv_at hl 2 rfl) ?_
      refine rl_lald_n hC hW h1 (by omega) (by omega) dX7_whyNotMade_21 ?_
      refine lv_aload_n hx hb dX7_whyNotMade_22 rfl (lv_at hl 1 rfl) ?_
      refine rl_get (v := .ref (th)) hC hW fl_X7_56 h0 rfl dX7_whyNotMade_23 ?_
      refine lv_iload_n hx hb dX7_whyNotMade_26 rfl (lv_at hl 2 rfl) ?_
      refine rl_aald_n 3 hC hW rfl h2 (by omega) (by omega) dX7_whyNotMade_27 ?_
      obtain ⟨r1, er1⟩ : ∃ r : Option Nat, r = gt (i) := ⟨_, rfl⟩
      refine rl_topqq er1.symm ?_
      refine lv_aload_n hx hb dX7_whyNotMade_28 rfl (lv_at hl 0 rfl) ?_
      refine rl_get (v := .int (nI (j % 3))) hC hW fl_X7_15 hrv rfl dX7_whyNotMade_29 ?_
      refine rl_calliQ (rl_runV (b := q) (As := [.long (gn (i)), va_rf (r1), .int (nI (j % 3))]) (rest := []) hC hW (cC_whyNotTaken l D t A _ z x T Th hI q _ _ o hs4 hq3 _ r1 (fun q e => hI.th (h3 i hlt q (er1.symm.trans e))) _) cs_X7_60 im_X4_whyNotTaken sl_X4_whyNotTaken hq3 rfl ⟨(Nat.le_of_ble_eq_true rfl), (Nat.le_of_ble_eq_true rfl)⟩ rfl hl.1 rfl (Nat.le_of_ble_eq_true rfl) dX7_whyNotMade_32 ⟨(Nat.le_of_ble_eq_true rfl), (Nat.le_of_ble_eq_true rfl)⟩) hW (fun r f1 H locs hp hW => ?_)
      obtain rfl := hp
      refine lv_istore_n (lv' := [(3, .int (r)), (0, .ref (x + 16 + 3 * j)), (1, .ref (a)), (2, .int (nI (i)))]) hx hb dX7_whyNotMade_35 rfl hl (by decide) rfl (fun ls hl => ?_)
      refine lv_iload_n hx hb dX7_whyNotMade_36 rfl (lv_at hl 0 rfl) ?_
      refine lv_if_eq (tgt := 42) hx hb dX7_whyNotMade_37 (by decide) (fun c2 => ?_) (fun c2 => ?_)
      · refine lv_iinc (v := (nI ((i) + 1))) (lv' := [(2, .int (nI ((i) + 1))), (3, .int (r)), (0, .ref (x + 16 + 3 * j)), (1, .ref (a))]) hx hb dX7_whyNotMade_42 hl (k := 3) rfl (nI_1 _) (by decide) rfl (fun ls hl => ?_)
        refine lv_goto (tgt := 2) hx hb dX7_whyNotMade_45 (by decide) ?_
        replace hl : lv_has ls 4 [(0, .ref (x + 16 + 3 * j)), (1, .ref (a)), (2, .int (nI ((i) + 1)))] := lv_sub hl [2, 3, 0] rfl
        exact ih H locs hW ls (i + 1) (by omega) hl (by omega)
      · refine lv_iload_n hx hb dX7_whyNotMade_40 rfl (lv_at hl 0 rfl) ?_
        exact rl_iret hC hW hr hlk (Nat.le_refl _) (Nat.le_refl _) ⟨_, rfl, rfl, rfl, rfl⟩ dX7_whyNotMade_41
