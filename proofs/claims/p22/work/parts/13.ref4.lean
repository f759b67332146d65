
theorem rg_ixm {x : Int32} {c : Nat} {a : Int64} (ha : a.toInt = 0) (hc : c < 2 ^ 30) : (a ≤ x.toInt64 ∧ x.toInt64 ≤ (nI c - nI 1).toInt64) ↔ ∃ j : Nat, j < c ∧ x = nI j := by
  rw [Int64.le_iff_toInt_le, Int64.le_iff_toInt_le, Int32.toInt_toInt64, Int32.toInt_toInt64, ha, pk_sub_toInt hc (by decide)]
  constructor
  · rintro ⟨h1, h2⟩
    refine ⟨x.toInt.toNat, by omega, ?_⟩
    apply Int32.toInt_inj.mp
    rw [nI_toInt (by omega)]
    omega
  · rintro ⟨j, hj, rfl⟩
    rw [nI_toInt (by omega)]
    omega
theorem rg_sub {a b c : Nat} (h : a = c + b) : nI a - nI b = nI c := by rw [h, pk_sub (by omega)]; congr 1; omega
def rt_addp (T : Nat → Nat → Nat) (j n s o : Nat) : Nat → Nat → Nat := va_up (va_up (va_up (va_up T 2 (va_up (T 2) j (T 2 j + 1))) 3 (va_up (T 3) (5 * j + T 2 j) n)) 4 (va_up (T 4) (5 * j + T 2 j) s)) 8 (va_up (T 8) (5 * j + T 2 j) o)
def rt_okp (T : Nat → Nat → Nat) (x1 x2 x3 x4 x5 : Int32) (k v n s o : Nat) : Prop := k < 4 ∧ v < 3 ∧ n < 10 ∧ s < 5 ∧ x1 = nI (2 + k) ∧ x2 = nI v ∧ x3 = nI n ∧ x4 = nI s ∧ (s = 2 → o < 2 ∧ x5 = nI o) ∧ (s = 3 → 2 ≤ o ∧ o < 6 ∧ x5 = nI o) ∧ (s ≠ 2 → s ≠ 3 → o = 0) ∧ ∀ p, p < T 2 (3 * k + v) → T 3 (5 * (3 * k + v) + p) ≠ n
def rt_par (T : Nat → Nat → Nat) (x1 x2 x3 x4 x5 : Int32) (r : Int32) (T' : Nat → Nat → Nat) : Prop := (∃ k v n s o, rt_okp T x1 x2 x3 x4 x5 k v n s o ∧ ((T 2 (3 * k + v) = 5 ∧ r = -2 ∧ T' = T) ∨ (T 2 (3 * k + v) ≠ 5 ∧ r = nI (T 2 (3 * k + v)) ∧ T' = rt_addp T (3 * k + v) n s o))) ∨ (r = -1 ∧ T' = T ∧ ¬ ∃ k v n s o, rt_okp T x1 x2 x3 x4 x5 k v n s o)
def rt_addk (T : Nat → Nat → Nat) (j h a b : Nat) : Nat → Nat → Nat := va_up (va_up (va_up (va_up T 5 (va_up (T 5) j (T 5 j + 1))) 6 (va_up (T 6) (2 * j + T 5 j) h)) 7 (va_up (T 7) (2 * j + T 5 j) a)) 10 (va_up (T 10) (2 * j + T 5 j) b)
def rt_okk (T : Nat → Nat → Nat) (x1 x2 x3 x4 x5 : Int32) (k v h a b : Nat) : Prop := k < 4 ∧ v < 3 ∧ h < 5 ∧ x1 = nI (2 + k) ∧ x2 = nI v ∧ x3 = nI h ∧ a < T 2 (3 * k + v) ∧ x4 = nI a ∧ T 4 (5 * (3 * k + v) + a) = rt_srt h ∧ (h ≠ 1 → b < T 2 (3 * k + v) ∧ x5 = nI b ∧ T 4 (5 * (3 * k + v) + b) = 0) ∧ (h = 1 → b = 0)
def rt_chk (T : Nat → Nat → Nat) (x1 x2 x3 x4 x5 : Int32) (r : Int32) (T' : Nat → Nat → Nat) : Prop := (∃ k v h a b, rt_okk T x1 x2 x3 x4 x5 k v h a b ∧ ((T 5 (3 * k + v) = 2 ∧ r = -2 ∧ T' = T) ∨ (T 5 (3 * k + v) ≠ 2 ∧ r = nI (T 5 (3 * k + v)) ∧ T' = rt_addk T (3 * k + v) h a b))) ∨ (r = -1 ∧ T' = T ∧ ¬ ∃ k v h a b, rt_okk T x1 x2 x3 x4 x5 k v h a b)
section RTL
variable {T : Nat → Nat → Nat} {j n s o h a b : Nat}
theorem rt_p2 (x : Nat) : rt_addp T j n s o 2 x = if x = j then T 2 j + 1 else T 2 x := by simp [rt_addp, va_up]
theorem rt_p3 (x : Nat) : rt_addp T j n s o 3 x = if x = 5 * j + T 2 j then n else T 3 x := by simp [rt_addp, va_up]
theorem rt_p4 (x : Nat) : rt_addp T j n s o 4 x = if x = 5 * j + T 2 j then s else T 4 x := by simp [rt_addp, va_up]
theorem rt_k5 (x : Nat) : rt_addk T j h a b 5 x = if x = j then T 5 j + 1 else T 5 x := by simp [rt_addk, va_up]
theorem rt_k6 (x : Nat) : rt_addk T j h a b 6 x = if x = 2 * j + T 5 j then h else T 6 x := by simp [rt_addk, va_up]
theorem rt_k7 (x : Nat) : rt_addk T j h a b 7 x = if x = 2 * j + T 5 j then a else T 7 x := by simp [rt_addk, va_up]
theorem rt_p8 (x : Nat) : rt_addp T j n s o 8 x = if x = 5 * j + T 2 j then o else T 8 x := by simp [rt_addp, va_up]
theorem rt_k10 (x : Nat) : rt_addk T j h a b 10 x = if x = 2 * j + T 5 j then b else T 10 x := by simp [rt_addk, va_up]
theorem RTp.add {a3 a4 a5 a6 : Nat → Int32} {x : Int32} (hT : RTp T a3 a4 a5 a6) (hj : j < 12) (hn : n < 10) (hs : s < 5) (hc : T 2 j ≠ 5) (h2 : rt_of s o x) : RTp (rt_addp T j n s o) (upd a3 j (nI (T 2 j + 1))) (upd a4 (5 * j + T 2 j) (nI n)) (upd a5 (5 * j + T 2 j) (nI s)) (upd a6 (5 * j + T 2 j) x) := by
  have hc5 := (hT.1 j hj).2
  refine ⟨fun y hy => ?_, fun y p hy hp => ?_⟩
  · rw [rt_p2]
    unfold upd
    split
    · exact ⟨rfl, by omega⟩
    · exact hT.1 y hy
  · rw [rt_p2] at hp
    rw [rt_p3, rt_p4, rt_p8]
    unfold upd
    split at hp
    · rename_i hyj
      subst hyj
      by_cases hpe : p = T 2 y
      · subst hpe
        rw [if_pos rfl, if_pos rfl, if_pos rfl, if_pos rfl, if_pos rfl, if_pos rfl]
        exact ⟨rfl, hn, rfl, hs, h2⟩
      · rw [if_neg (by omega), if_neg (by omega), if_neg (by omega), if_neg (by omega), if_neg (by omega), if_neg (by omega)]
        exact hT.2 y p hy (by omega)
    · have := (hT.1 y hy).2
      rw [if_neg (by omega), if_neg (by omega), if_neg (by omega), if_neg (by omega), if_neg (by omega), if_neg (by omega)]
      exact hT.2 y p hy hp
theorem RTk.part {a3 a4 a5 a6 a7 a8 a9 a10 : Nat → Int32} (hT : RTp T a3 a4 a5 a6) (hK : RTk T a7 a8 a9 a10) (hj : j < 12) (hc5 : T 2 j ≠ 5) : RTk (rt_addp T j n s o) a7 a8 a9 a10 := by
  refine ⟨hK.1, fun y c hy hc => ?_⟩
  obtain ⟨g1, g2, g3, g4, g5, g6⟩ := hK.2 y c hy hc
  have e6 : rt_addp T j n s o 6 = T 6 := rfl
  have e7 : rt_addp T j n s o 7 = T 7 := rfl
  have hy5 := (hT.1 y hy).2
  have hj5 := (hT.1 j hj).2
  have m2 : ∀ q, q < T 2 y → q < rt_addp T j n s o 2 y := fun q hq => by
    rw [rt_p2]
    split
    · rename_i e; subst e; omega
    · exact hq
  have e10 : rt_addp T j n s o 10 = T 10 := rfl
  rw [e6, e7, e10]
  refine ⟨g1, g2, g3, m2 _ g4, ?_, fun hne => ?_⟩
  · rw [rt_p4, if_neg]
    · exact g5
    · intro e
      by_cases hyj : y = j
      · subst hyj; omega
      · omega
  · obtain ⟨hb, e, e4⟩ := g6 hne
    refine ⟨m2 _ hb, e, ?_⟩
    rw [rt_p4, if_neg]
    · exact e4
    · intro e'
      by_cases hyj : y = j
      · subst hyj; omega
      · omega
theorem GW.part {ρ κ : Nat} {G : pG} {a3 a4 a5 a6 : Nat → Int32} (hT : RTp T a3 a4 a5 a6) (hV : GW T ρ κ G) (hj : j < 12) (hc5 : T 2 j ≠ 5) : GW (rt_addp T j n s o) ρ κ G := by
  refine ⟨hV.1, fun r hr => ?_, hV.2.2⟩
  obtain ⟨g1, g4, g5⟩ := hV.2.1 r hr
  have hs5 := (hT.1 _ g1).2
  have hj5 := (hT.1 j hj).2
  refine ⟨g1, ?_, fun p hp => ?_⟩
  · rw [rt_p2]
    split
    · rename_i e; rw [e] at g4; omega
    · exact g4
  · rw [rt_p4, if_neg]
    · exact g5 p hp
    · intro e
      by_cases hyj : G.1 1 r = j
      · rw [hyj] at g4 e; omega
      · omega
theorem RTk.add {a7 a8 a9 a10 : Nat → Int32} {x : Int32} (hK : RTk T a7 a8 a9 a10) (hj : j < 12) (hh : h < 5) (hc : T 5 j ≠ 2) (ha : a < T 2 j) (hs : T 4 (5 * j + a) = rt_srt h) (hb : rt_kb T j h b x) : RTk (rt_addk T j h a b) (upd a7 j (nI (T 5 j + 1))) (upd a8 (2 * j + T 5 j) (nI h)) (upd a9 (2 * j + T 5 j) (nI a)) (upd a10 (2 * j + T 5 j) x) := by
  have hc5 := (hK.1 j hj).2
  have e2 : rt_addk T j h a b 2 = T 2 := rfl
  have e4 : rt_addk T j h a b 4 = T 4 := rfl
  refine ⟨fun y hy => ?_, fun y c hy hp => ?_⟩
  · rw [rt_k5]
    unfold upd
    split
    · exact ⟨rfl, by omega⟩
    · exact hK.1 y hy
  · rw [rt_k5] at hp
    unfold rt_kb
    rw [rt_k6, rt_k7, rt_k10, e2, e4]
    unfold upd
    split at hp
    · rename_i hyj
      subst hyj
      by_cases hpe : c = T 5 y
      · subst hpe
        rw [if_pos rfl, if_pos rfl, if_pos rfl, if_pos rfl, if_pos rfl, if_pos rfl]
        exact ⟨rfl, hh, rfl, ha, hs, hb⟩
      · rw [if_neg (by omega), if_neg (by omega), if_neg (by omega), if_neg (by omega), if_neg (by omega), if_neg (by omega)]
        exact hK.2 y c hy (by omega)
    · have := (hK.1 y hy).2
      rw [if_neg (by omega), if_neg (by omega), if_neg (by omega), if_neg (by omega), if_neg (by omega), if_neg (by omega)]
      exact hK.2 y c hy hp
end RTL

set_option maxHeartbeats 4000000 in
set_option maxRecDepth 100000 in
theorem cR_partBy (l : Launch) (D : va_G) (t : Nat → ClassId) (A : Nat → Prop) (f : rl_M) (z : Nat) (m : Nat) (I : Nat → Nat → Int32) (L : Nat → Nat → Int64) (F : Nat → Int32) (hR : RM t f m I L F) (T : Nat → Nat → Nat) (hT : RTp T (I 3) (I 4) (I 5) (I 6)) (j : Nat) (hj : j < 12) (x : Int64) : rl_Met l yX12_partBy (.code yX12_partBy cX12_partBy 5 (some FieldType.int)) (rl_rm 0 0 0) D t A f z [.ref (m), .int (nI (j)), .long (x)] (rl_qi z fun r f1 => f = f1 ∧ ((∃ i, i < T 2 j ∧ r = nI i ∧ (nI (T 3 (5 * j + i))).toInt64 = x ∧ ∀ i', i' < i → (nI (T 3 (5 * j + i'))).toInt64 ≠ x) ∨ (r = -3 ∧ ∀ i, i < T 2 j → (nI (T 3 (5 * j + i))).toInt64 ≠ x))) := by
  refine rl_begin (own := RX12) (lv := [(0, .ref (m)), (1, .int (nI (j))), (2, .long (x))]) (by decide +kernel) rfl (Nat.le_of_ble_eq_true rfl) rfl fun p e s m0 args below meth c ls H locs hC hr hlk hnm hW hl hx hb => ?_
  refine lv_iconst (v := (nI (0))) hx hb dX12_partBy_0 (by decide) ?_
  refine lv_istore (lv' := [(4, .int (nI (0))), (0, .ref (m)), (1, .int (nI (j))), (2, .long (x))]) hx hb dX12_partBy_1 hl (by decide) rfl (fun ls hl => ?_)
  replace hl : lv_has ls 5 [(0, .ref (m)), (1, .int (nI (j))), (2, .long (x)), (4, .int (nI (0)))] := lv_sub hl [1, 2, 3, 0] rfl
  replace hl : ∃ i : Nat, (i ≤ T 2 j) ∧ (∀ i', i' < i → (nI (T 3 (5 * j + i'))).toInt64 ≠ x) ∧ lv_has ls 5 [(0, .ref (m)), (1, .int (nI (j))), (2, .long (x)), (4, .int (nI (i)))] := ⟨0, Nat.zero_le _, fun _ h => absurd h (Nat.not_lt_zero _), hl⟩
  obtain ⟨i, hi, hpr, hl⟩ := hl
  obtain ⟨n, hn⟩ : ∃ n, T 2 j - i < n := ⟨_, Nat.lt_succ_self _⟩
  induction n generalizing i ls with
  | zero => exact absurd hn (Nat.not_lt_zero _)
  | succ n ih =>
    have hc := hT.1 j hj
    refine lv_iload hx hb dX12_partBy_3 (lv_at hl 3 rfl) ?_
    refine lv_aload_n hx hb dX12_partBy_5 rfl (lv_at hl 0 rfl) ?_
    refine rl_get (v := .ref (m + 4)) hC hW fl_X12_20 hR.1 rfl dX12_partBy_6 ?_
    refine lv_iload_n hx hb dX12_partBy_9 rfl (lv_at hl 1 rfl) ?_
    refine rl_iald_n (g := I 3) hC hW hR.a3 (by omega) (by decide) dX12_partBy_10 ?_
    refine rl_topn (hc.1) ?_
    refine lv_icmp_ge (tgt := 40) hx hb dX12_partBy_11 (by decide) (fun c1 => ?_) (fun c1 => ?_)
    · refine lv_bipush (v := (-3)) hx hb dX12_partBy_40 (by decide) ?_
      exact rl_iret hC hW hr hlk (Nat.le_refl _) (Nat.le_refl _) ⟨_, rfl, rfl, rfl, rfl, Or.inr ⟨rfl, fun i' h' => hpr i' (by have := rg_le c1 (by omega) (by omega); omega)⟩⟩ dX12_partBy_42
    · have hlt : i < T 2 j := rg_lt c1 (by omega) (by omega)
      have hnm := hT.2 j i hj hlt
      refine lv_aload_n hx hb dX12_partBy_14 rfl (lv_at hl 0 rfl) ?_
      refine rl_get (v := .ref (m + 5)) hC hW fl_X12_23 hR.1 rfl dX12_partBy_15 ?_
      refine lv_iconst (v := (nI (5))) hx hb dX12_partBy_18 (by decide) ?_
      refine lv_iload_n hx hb dX12_partBy_19 rfl (lv_at hl 1 rfl) ?_
      refine lv_imul hx hb dX12_partBy_20 ?_
      refine rl_topn (pk_mul _ _) ?_
      refine lv_iload hx hb dX12_partBy_21 (lv_at hl 3 rfl) ?_
      refine lv_iadd hx hb dX12_partBy_23 ?_
      refine rl_topn (nI_add _ _) ?_
      refine rl_iald_n (g := I 4) hC hW hR.a4 (by omega) (by decide) dX12_partBy_24 ?_
      refine rl_topn (hnm.1) ?_
      refine lv_i2l hx hb dX12_partBy_25 rfl ?_
      refine lv_lload_n hx hb dX12_partBy_26 rfl (lv_at hl 2 rfl) ?_
      refine W.lcmp hx hb dX12_partBy_27 ?_
      refine lv_if_ne (tgt := 34) hx hb dX12_partBy_28 (by decide) (fun c2 => ?_) (fun c2 => ?_)
      · refine lv_iinc (v := (nI ((i) + 1))) (lv' := [(4, .int (nI ((i) + 1))), (0, .ref (m)), (1, .int (nI (j))), (2, .long (x))]) hx hb dX12_partBy_34 hl (k := 3) rfl (nI_1 _) (by decide) rfl (fun ls hl => ?_)
        refine lv_goto (tgt := 3) hx hb dX12_partBy_37 (by decide) ?_
        replace hl : lv_has ls 5 [(0, .ref (m)), (1, .int (nI (j))), (2, .long (x)), (4, .int (nI ((i) + 1)))] := lv_sub hl [1, 2, 3, 0] rfl
        exact ih ls (i + 1) (by omega) (rg_step hpr (fun q => c2 ((lg_cmp_eq _ _).mpr q))) hl (by omega)
      · refine lv_iload hx hb dX12_partBy_31 (lv_at hl 3 rfl) ?_
        exact rl_iret hC hW hr hlk (Nat.le_refl _) (Nat.le_refl _) ⟨_, rfl, rfl, rfl, rfl, Or.inl ⟨i, hlt, rfl, (lg_cmp_eq _ _).mp c2, hpr⟩⟩ dX12_partBy_33

set_option maxHeartbeats 4000000 in
set_option maxRecDepth 100000 in
theorem cR_isSort (l : Launch) (D : va_G) (t : Nat → ClassId) (A : Nat → Prop) (f : rl_M) (z : Nat) (m : Nat) (I : Nat → Nat → Int32) (L : Nat → Nat → Int64) (F : Nat → Int32) (hR : RM t f m I L F) (T : Nat → Nat → Nat) (hT : RTp T (I 3) (I 4) (I 5) (I 6)) (j : Nat) (hj : j < 12) (x : Int32) (s0 : Nat) (hs0 : s0 < 5) : rl_Met l yX12_isSort (.code yX12_isSort cX12_isSort 4 (some FieldType.boolean)) (rl_rm 1 0 0) D t A f z [.ref (m), .int (nI (j)), .int (x), .int (nI (s0))] (rl_qi z fun r f1 => f = f1 ∧ ((r = 1 ∧ ∃ q, q < T 2 j ∧ x = nI q ∧ T 4 (5 * j + q) = s0) ∨ (r = 0 ∧ ¬ ∃ q, q < T 2 j ∧ x = nI q ∧ T 4 (5 * j + q) = s0))) := by
  refine rl_begin (own := RX12) (lv := [(0, .ref (m)), (1, .int (nI (j))), (2, .int (x)), (3, .int (nI (s0)))]) (by decide +kernel) rfl (Nat.le_of_ble_eq_true rfl) rfl fun p e s m0 args below meth c ls H locs hC hr hlk hnm hW hl hx hb => ?_
  have hc := hT.1 j hj
  refine lv_iload_n hx hb dX12_isSort_0 rfl (lv_at hl 2 rfl) ?_
  refine lv_i2l hx hb dX12_isSort_1 rfl ?_
  refine lv_lconst (v := 0) hx hb dX12_isSort_2 (by decide) ?_
  refine lv_aload_n hx hb dX12_isSort_3 rfl (lv_at hl 0 rfl) ?_
  refine rl_get (v := .ref (m + 4)) hC hW fl_X12_20 hR.1 rfl dX12_isSort_4 ?_
  refine lv_iload_n hx hb dX12_isSort_7 rfl (lv_at hl 1 rfl) ?_
  refine rl_iald_n (g := I 3) hC hW hR.a3 (by omega) (by decide) dX12_isSort_8 ?_
  refine rl_topn (hc.1) ?_
  refine lv_iconst (v := (nI (1))) hx hb dX12_isSort_9 (by decide) ?_
  refine lv_isub hx hb dX12_isSort_10 ?_
  refine lv_i2l hx hb dX12_isSort_11 rfl ?_
  refine rl_calliQ (rl_runS (As := [.long ((x).toInt64), .long (0), .long (((nI (T 2 (j))) - (nI (1))).toInt64)]) (rest := []) hC hW (cR_in l D t A _ z _ _ _) cs_X12_117 sm_X12_in ⟨(Nat.le_of_ble_eq_true rfl), (Nat.le_of_ble_eq_true rfl)⟩ rfl hl.1 rfl (Nat.le_of_ble_eq_true rfl) dX12_isSort_12 ⟨(Nat.le_of_ble_eq_true rfl), (Nat.le_of_ble_eq_true rfl)⟩) hW (fun r f1 H locs hp hW => ?_)
  obtain ⟨rfl, hp⟩ := hp
  rw [rg_ixm (by decide) (by omega)] at hp
  rcases hp with ⟨rfl, hp⟩ | ⟨rfl, hp⟩
  · obtain ⟨q, hq, rfl⟩ := hp
    have hnm := hT.2 j q hj hq
    refine lv_if_eq (tgt := 36) hx hb dX12_isSort_15 (by decide) (fun c9 => ?_) (fun c9 => ?_)
    · exact absurd c9 (by decide)
    · refine lv_aload_n hx hb dX12_isSort_18 rfl (lv_at hl 0 rfl) ?_
      refine rl_get (v := .ref (m + 6)) hC hW fl_X12_26 hR.1 rfl dX12_isSort_19 ?_
      refine lv_iconst (v := (nI (5))) hx hb dX12_isSort_22 (by decide) ?_
      refine lv_iload_n hx hb dX12_isSort_23 rfl (lv_at hl 1 rfl) ?_
      refine lv_imul hx hb dX12_isSort_24 ?_
      refine rl_topn (pk_mul _ _) ?_
      refine lv_iload_n hx hb dX12_isSort_25 rfl (lv_at hl 2 rfl) ?_
      refine lv_iadd hx hb dX12_isSort_26 ?_
      refine rl_topn (nI_add _ _) ?_
      refine rl_iald_n (g := I 5) hC hW hR.a5 (by omega) (by decide) dX12_isSort_27 ?_
      refine rl_topn (hnm.2.2.1) ?_
      refine lv_iload_n hx hb dX12_isSort_28 rfl (lv_at hl 3 rfl) ?_
      refine lv_icmp_ne (tgt := 36) hx hb dX12_isSort_29 (by decide) (fun c2 => ?_) (fun c2 => ?_)
      · refine lv_iconst (v := (nI (0))) hx hb dX12_isSort_36 (by decide) ?_
        exact rl_zret hC hW hr hlk rfl (Nat.le_refl _) (Nat.le_refl _) ⟨_, rfl, rfl, rfl, rfl, Or.inr ⟨by decide, fun ⟨q2, h1, h2, h3⟩ => c2 (by rw [← h3, (nI_eq (by omega) (by omega)).mp h2])⟩⟩ dX12_isSort_37
      · refine lv_iconst (v := (nI (1))) hx hb dX12_isSort_32 (by decide) ?_
        refine lv_goto (tgt := 37) hx hb dX12_isSort_33 (by decide) ?_
        exact rl_zret hC hW hr hlk rfl (Nat.le_refl _) (Nat.le_refl _) ⟨_, rfl, rfl, rfl, rfl, Or.inl ⟨by decide, q, hq, rfl, (nI_eq (by omega) (by omega)).mp c2⟩⟩ dX12_isSort_37
  · refine lv_if_eq (tgt := 36) hx hb dX12_isSort_15 (by decide) (fun c9 => ?_) (fun c9 => ?_)
    · refine lv_iconst (v := (nI (0))) hx hb dX12_isSort_36 (by decide) ?_
      exact rl_zret hC hW hr hlk rfl (Nat.le_refl _) (Nat.le_refl _) ⟨_, rfl, rfl, rfl, rfl, Or.inr ⟨by decide, fun ⟨q2, h1, h2, _⟩ => hp ⟨q2, h1, h2⟩⟩⟩ dX12_isSort_37
    · exact absurd rfl c9

set_option maxHeartbeats 4000000 in
set_option maxRecDepth 100000 in
theorem cR_part (l : Launch) (D : va_G) (t : Nat → ClassId) (A : Nat → Prop) (f : rl_M) (z : Nat) (m : Nat) (T : Nat → Nat → Nat) (ρ κ : Nat) (G : pG) (hS : RS t f m T ρ κ G) (x1 x2 x3 x4 x5 : Int32) : rl_Met l yX12_part (.code yX12_part cX12_part 8 (some FieldType.int)) (rl_rm 2 0 0) D t A f z [.ref (m), .int (x1), .int (x2), .int (x3), .int (x4), .int (x5)] (rl_qi z fun r f1 => ∃ T', rt_par T x1 x2 x3 x4 x5 r T' ∧ RS t f1 m T' ρ κ G) := by
  obtain ⟨I, L, F, hR, hTc, hTp, hTk, hGW, hGr, hGd, hGp, hGt, hGc, hF11, hF14⟩ := hS
  refine rl_begin (own := RX12) (lv := [(0, .ref (m)), (1, .int (x1)), (2, .int (x2)), (3, .int (x3)), (4, .int (x4)), (5, .int (x5))]) (by decide +kernel) rfl (Nat.le_of_ble_eq_true rfl) rfl fun p e s m0 args below meth c ls H locs hC hr hlk hnm hW hl hx hb => ?_
  refine lv_iload_n hx hb dX12_part_0 rfl (lv_at hl 1 rfl) ?_
  refine lv_i2l hx hb dX12_part_1 rfl ?_
  refine rl_calliQ (rl_runS (As := [.long ((x1).toInt64)]) (rest := []) hC hW (cR_isRecordKind l D t A _ z _) cs_X12_133 sm_X12_isRecordKind ⟨(Nat.le_of_ble_eq_true rfl), (Nat.le_of_ble_eq_true rfl)⟩ rfl hl.1 rfl (Nat.le_of_ble_eq_true rfl) dX12_part_2 ⟨(Nat.le_of_ble_eq_true rfl), (Nat.le_of_ble_eq_true rfl)⟩) hW (fun r f1 H locs hp hW => ?_)
  obtain ⟨rfl, hp⟩ := hp
  rw [rg_rk] at hp
  rcases hp with ⟨rfl, hp⟩ | ⟨rfl, hp⟩
  · obtain ⟨k, hk, rfl⟩ := hp
    refine lv_if_eq (tgt := 72) hx hb dX12_part_5 (by decide) (fun c9 => ?_) (fun c9 => ?_)
    · exact absurd c9 (by decide)
    · refine lv_iload_n hx hb dX12_part_8 rfl (lv_at hl 2 rfl) ?_
      refine rl_calliQ (rl_runS (As := [.int (x2)]) (rest := []) hC hW (cR_isVersion l D t A _ z _) cs_X12_125 sm_X12_isVersion ⟨(Nat.le_of_ble_eq_true rfl), (Nat.le_of_ble_eq_true rfl)⟩ rfl hl.1 rfl (Nat.le_of_ble_eq_true rfl) dX12_part_9 ⟨(Nat.le_of_ble_eq_true rfl), (Nat.le_of_ble_eq_true rfl)⟩) hW (fun r f1 H locs hp hW => ?_)
      obtain ⟨rfl, hp⟩ := hp
      rcases hp with ⟨rfl, hp⟩ | ⟨rfl, hp⟩
      · obtain ⟨v, hv, rfl⟩ := hp
        refine lv_if_eq (tgt := 72) hx hb dX12_part_12 (by decide) (fun c9 => ?_) (fun c9 => ?_)
        · exact absurd c9 (by decide)
        · refine lv_iload_n hx hb dX12_part_15 rfl (lv_at hl 3 rfl) ?_
          refine lv_i2l hx hb dX12_part_16 rfl ?_
          refine lv_lconst (v := 0) hx hb dX12_part_17 (by decide) ?_
          refine lv_ldc2 (v := 9) hx hb hC.2.2.2.1 (hC.2.2.2.2.1 _ (List.mem_cons_of_mem _ mw_809)) dX12_part_18 ?_
          refine rl_calliQ (rl_runS (As := [.long ((x3).toInt64), .long (0), .long (9)]) (rest := []) hC hW (cR_in l D t A _ z _ _ _) cs_X12_117 sm_X12_in ⟨(Nat.le_of_ble_eq_true rfl), (Nat.le_of_ble_eq_true rfl)⟩ rfl hl.1 rfl (Nat.le_of_ble_eq_true rfl) dX12_part_21 ⟨(Nat.le_of_ble_eq_true rfl), (Nat.le_of_ble_eq_true rfl)⟩) hW (fun r f1 H locs hp hW => ?_)
          obtain ⟨rfl, hp⟩ := hp
          rw [rg_ix (n := 9) (by decide) (by decide) (by decide)] at hp
          rcases hp with ⟨rfl, hp⟩ | ⟨rfl, hp⟩
          · obtain ⟨n, hn, rfl⟩ := hp
            refine lv_if_eq (tgt := 72) hx hb dX12_part_24 (by decide) (fun c9 => ?_) (fun c9 => ?_)
            · exact absurd c9 (by decide)
            · refine lv_iload hx hb dX12_part_27 (lv_at hl 4 rfl) ?_
              refine lv_i2l hx hb dX12_part_29 rfl ?_
              refine lv_lconst (v := 0) hx hb dX12_part_30 (by decide) ?_
              refine lv_ldc2 (v := 4) hx hb hC.2.2.2.1 (hC.2.2.2.2.1 _ (List.mem_cons_of_mem _ mw_822)) dX12_part_31 ?_
              refine rl_calliQ (rl_runS (As := [.long ((x4).toInt64), .long (0), .long (4)]) (rest := []) hC hW (cR_in l D t A _ z _ _ _) cs_X12_117 sm_X12_in ⟨(Nat.le_of_ble_eq_true rfl), (Nat.le_of_ble_eq_true rfl)⟩ rfl hl.1 rfl (Nat.le_of_ble_eq_true rfl) dX12_part_34 ⟨(Nat.le_of_ble_eq_true rfl), (Nat.le_of_ble_eq_true rfl)⟩) hW (fun r f1 H locs hp hW => ?_)
              obtain ⟨rfl, hp⟩ := hp
              rw [rg_ix (n := 4) (by decide) (by decide) (by decide)] at hp
              rcases hp with ⟨rfl, hp⟩ | ⟨rfl, hp⟩
              · obtain ⟨sr, hsr, rfl⟩ := hp
                refine lv_if_eq (tgt := 72) hx hb dX12_part_37 (by decide) (fun c9 => ?_) (fun c9 => ?_)
                · exact absurd c9 (by decide)
                · refine lv_iload hx hb dX12_part_40 (lv_at hl 4 rfl) ?_
                  refine lv_iconst (v := (nI (2))) hx hb dX12_part_42 (by decide) ?_
                  refine lv_icmp_ne (tgt := 57) hx hb dX12_part_43 (by decide) (fun c2 => ?_) (fun c2 => ?_)
                  · have n2 : sr ≠ 2 := fun q => c2 (by rw [q])
                    refine lv_iload hx hb dX12_part_57 (lv_at hl 4 rfl) ?_
                    refine lv_iconst (v := (nI (3))) hx hb dX12_part_59 (by decide) ?_
                    refine lv_icmp_ne (tgt := 74) hx hb dX12_part_60 (by decide) (fun c3 => ?_) (fun c3 => ?_)
                    · have n3 : sr ≠ 3 := fun q => c3 (by rw [q])
                      have hj12 : 3 * k + v < 12 := by omega
                      have hc := hTp.1 (3 * k + v) hj12
                      refine lv_iconst (v := (nI (3))) hx hb dX12_part_74 (by decide) ?_
                      refine lv_iload_n hx hb dX12_part_75 rfl (lv_at hl 1 rfl) ?_
                      refine lv_iconst (v := (nI (2))) hx hb dX12_part_76 (by decide) ?_
                      refine lv_isub hx hb dX12_part_77 ?_
                      refine rl_topn (rg_sub (c := k) (by omega)) ?_
                      refine lv_imul hx hb dX12_part_78 ?_
                      refine rl_topn (pk_mul _ _) ?_
                      refine lv_iload_n hx hb dX12_part_79 rfl (lv_at hl 2 rfl) ?_
                      refine lv_iadd hx hb dX12_part_80 ?_
                      refine rl_topn (nI_add _ _) ?_
                      refine lv_istore (lv' := [(6, .int (nI (((3) * (k)) + (v)))), (0, .ref (m)), (1, .int (nI (2 + k))), (2, .int (nI (v))), (3, .int (nI (n))), (4, .int (nI (sr))), (5, .int (x5))]) hx hb dX12_part_81 hl (by decide) rfl (fun ls hl => ?_)
                      refine lv_aload_n hx hb dX12_part_83 rfl (lv_at hl 1 rfl) ?_
                      refine lv_iload hx hb dX12_part_84 (lv_at hl 0 rfl) ?_
                      refine lv_iload_n hx hb dX12_part_86 rfl (lv_at hl 4 rfl) ?_
                      refine lv_i2l hx hb dX12_part_87 rfl ?_
                      refine rl_calliQ (rl_runV (b := m) (As := [.int (nI (((3) * (k)) + (v))), .long ((nI (n)).toInt64)]) (rest := []) hC hW (cR_partBy l D t A _ z m I L F hR T hTp (3 * k + v) hj12 _) cs_X12_139 im_X12_partBy sl_X12_partBy hR.1 rfl ⟨(Nat.le_of_ble_eq_true rfl), (Nat.le_of_ble_eq_true rfl)⟩ rfl hl.1 rfl (Nat.le_of_ble_eq_true rfl) dX12_part_88 ⟨(Nat.le_of_ble_eq_true rfl), (Nat.le_of_ble_eq_true rfl)⟩) hW (fun r f1 H locs hp hW => ?_)
                      obtain ⟨rfl, hp⟩ := hp
                      rcases hp with ⟨i, hi, rfl, he, -⟩ | ⟨rfl, hp⟩
                      · have hno : ¬ ∃ k' v' n' s' o', rt_okp T (nI (2 + k)) (nI v) (nI n) (nI sr) (x5) k' v' n' s' o' := fun ⟨k', v', n', s', o', q1, q2, q3, q4, q5, q6, q7, q8, q9, q10, q10', q11⟩ => by
                          have e1 := (nI_eq (by omega) (by omega)).mp q5
                          have e1 : k = k' := by omega
                          have e2 := (nI_eq (by omega) (by omega)).mp q6
                          have e3 := (nI_eq (by omega) (by omega)).mp q7
                          subst e1; subst e2; subst e3
                          exact q11 i hi ((rg_l (by have := (hTp.2 _ i hj12 hi).2.1; omega) (by omega)).mp he)
                        refine lv_if_lt (tgt := 96) hx hb dX12_part_91 (by decide) (fun c9 => ?_) (fun c9 => ?_)
                        · exact absurd c9 (nI_pos (by omega))
                        · refine lv_iconst (v := (-1)) hx hb dX12_part_94 (by decide) ?_
                          exact rl_iret hC hW hr hlk (Nat.le_refl _) (Nat.le_refl _) ⟨_, rfl, rfl, rfl, T, Or.inr ⟨by decide, rfl, hno⟩, ⟨_, _, _, hR, hTc, hTp, hTk, hGW, hGr, hGd, hGp, hGt, hGc, hF11, hF14⟩⟩ dX12_part_95
                      · refine lv_if_lt (tgt := 96) hx hb dX12_part_91 (by decide) (fun c9 => ?_) (fun c9 => ?_)
                        · have hfr : ∀ i, i < T 2 (3 * k + v) → T 3 (5 * (3 * k + v) + i) ≠ n := fun i hi q => hp i hi (by rw [q])
                          refine lv_aload_n hx hb dX12_part_96 rfl (lv_at hl 1 rfl) ?_
                          refine rl_get (v := .ref (m + 4)) hC hW fl_X12_20 hR.1 rfl dX12_part_97 ?_
                          refine lv_iload hx hb dX12_part_100 (lv_at hl 0 rfl) ?_
                          refine rl_iald_n (g := I 3) hC hW hR.a3 (by omega) (by decide) dX12_part_102 ?_
                          refine rl_topn (hc.1) ?_
                          refine lv_iconst (v := (nI (5))) hx hb dX12_part_103 (by decide) ?_
                          refine lv_icmp_ne (tgt := 110) hx hb dX12_part_104 (by decide) (fun c4 => ?_) (fun c4 => ?_)
                          · have n5 : T 2 (3 * k + v) ≠ 5 := fun q => c4 (by rw [q])
                            refine lv_aload_n hx hb dX12_part_110 rfl (lv_at hl 1 rfl) ?_
                            refine rl_get (v := .ref (m + 4)) hC hW fl_X12_20 hR.1 rfl dX12_part_111 ?_
                            refine lv_iload hx hb dX12_part_114 (lv_at hl 0 rfl) ?_
                            refine rl_iald_n (g := I 3) hC hW hR.a3 (by omega) (by decide) dX12_part_116 ?_
                            refine rl_topn (hc.1) ?_
                            refine lv_istore (lv' := [(7, .int (nI (T 2 (((3) * (k)) + (v))))), (6, .int (nI (((3) * (k)) + (v)))), (0, .ref (m)), (1, .int (nI (2 + k))), (2, .int (nI (v))), (3, .int (nI (n))), (4, .int (nI (sr))), (5, .int (x5))]) hx hb dX12_part_117 hl (by decide) rfl (fun ls hl => ?_)
                            refine lv_aload_n hx hb dX12_part_119 rfl (lv_at hl 2 rfl) ?_
                            refine rl_get (v := .ref (m + 5)) hC hW fl_X12_23 hR.1 rfl dX12_part_120 ?_
                            refine lv_iconst (v := (nI (5))) hx hb dX12_part_123 (by decide) ?_
                            refine lv_iload hx hb dX12_part_124 (lv_at hl 1 rfl) ?_
                            refine lv_imul hx hb dX12_part_126 ?_
                            refine rl_topn (pk_mul _ _) ?_
                            refine lv_iload hx hb dX12_part_127 (lv_at hl 0 rfl) ?_
                            refine lv_iadd hx hb dX12_part_129 ?_
                            refine rl_topn (nI_add _ _) ?_
                            refine lv_iload_n hx hb dX12_part_130 rfl (lv_at hl 5 rfl) ?_
                            refine rl_iast_n (g := I 4) hC hW hR.a4 (by omega) (by decide) dX12_part_131 (fun H locs hW => ?_)
                            have hR := hR.s4 (upd (I 4) (((5) * (((3) * (k)) + (v))) + (T 2 (((3) * (k)) + (v)))) ((nI (n))))
                            refine lv_aload_n hx hb dX12_part_132 rfl (lv_at hl 2 rfl) ?_
                            refine rl_get (v := .ref (m + 6)) hC hW fl_X12_26 hR.1 rfl dX12_part_133 ?_
                            refine lv_iconst (v := (nI (5))) hx hb dX12_part_136 (by decide) ?_
                            refine lv_iload hx hb dX12_part_137 (lv_at hl 1 rfl) ?_
                            refine lv_imul hx hb dX12_part_139 ?_
                            refine rl_topn (pk_mul _ _) ?_
                            refine lv_iload hx hb dX12_part_140 (lv_at hl 0 rfl) ?_
                            refine lv_iadd hx hb dX12_part_142 ?_
                            refine rl_topn (nI_add _ _) ?_
                            refine lv_iload hx hb dX12_part_143 (lv_at hl 6 rfl) ?_
                            refine rl_iast_n (g := I 5) hC hW hR.a5 (by omega) (by decide) dX12_part_145 (fun H locs hW => ?_)
                            have hR := hR.s5 (upd (I 5) (((5) * (((3) * (k)) + (v))) + (T 2 (((3) * (k)) + (v)))) ((nI (sr))))
                            refine lv_aload_n hx hb dX12_part_146 rfl (lv_at hl 2 rfl) ?_
                            refine rl_get (v := .ref (m + 7)) hC hW fl_X12_29 hR.1 rfl dX12_part_147 ?_
                            refine lv_iconst (v := (nI (5))) hx hb dX12_part_150 (by decide) ?_
                            refine lv_iload hx hb dX12_part_151 (lv_at hl 1 rfl) ?_
                            refine lv_imul hx hb dX12_part_153 ?_
                            refine rl_topn (pk_mul _ _) ?_
                            refine lv_iload hx hb dX12_part_154 (lv_at hl 0 rfl) ?_
                            refine lv_iadd hx hb dX12_part_156 ?_
                            refine rl_topn (nI_add _ _) ?_
                            refine lv_iload hx hb dX12_part_157 (lv_at hl 7 rfl) ?_
                            refine rl_iast_n (g := I 6) hC hW hR.a6 (by omega) (by decide) dX12_part_159 (fun H locs hW => ?_)
                            have hR := hR.s6 (upd (I 6) (((5) * (((3) * (k)) + (v))) + (T 2 (((3) * (k)) + (v)))) ((x5)))
                            refine lv_aload_n hx hb dX12_part_160 rfl (lv_at hl 2 rfl) ?_
                            refine rl_get (v := .ref (m + 4)) hC hW fl_X12_20 hR.1 rfl dX12_part_161 ?_
                            refine lv_iload hx hb dX12_part_164 (lv_at hl 1 rfl) ?_
                            refine lv_dup2_11 hx hb dX12_part_166 rfl rfl ?_
                            refine rl_iald_n (g := I 3) hC hW hR.a3 (by omega) (by decide) dX12_part_167 ?_
                            refine rl_topn (hc.1) ?_
                            refine lv_iconst (v := (nI (1))) hx hb dX12_part_168 (by decide) ?_
                            refine lv_iadd hx hb dX12_part_169 ?_
                            refine rl_topn (nI_add _ _) ?_
                            refine rl_iast_n (g := I 3) hC hW hR.a3 (by omega) (by decide) dX12_part_170 (fun H locs hW => ?_)
                            have hR := hR.s3 (upd (I 3) (((3) * (k)) + (v)) ((nI ((T 2 (((3) * (k)) + (v))) + (1)))))
                            refine lv_iload hx hb dX12_part_171 (lv_at hl 0 rfl) ?_
                            exact rl_iret hC hW hr hlk (Nat.le_refl _) (Nat.le_refl _) ⟨_, rfl, rfl, rfl, _, Or.inl ⟨k, v, n, _, 0, ⟨hk, hv, hn, by omega, rfl, rfl, rfl, rfl, fun h => absurd h n2, fun h => absurd h n3, fun _ _ => rfl, hfr⟩, Or.inr ⟨n5, rfl, rfl⟩⟩, ⟨_, _, _, hR, hTc, hTp.add hj12 hn (by omega) n5 ⟨fun h => absurd h n2, fun h => absurd h n3⟩, RTk.part hTp hTk hj12 n5, GW.part hTp hGW hj12 n5, hGr, hGd, hGp, hGt, hGc, hF11, hF14⟩⟩ dX12_part_173
                          · have e5 : T 2 (3 * k + v) = 5 := (nI_eq (by omega) (by decide)).mp c4
                            refine lv_bipush (v := (-2)) hx hb dX12_part_107 (by decide) ?_
                            exact rl_iret hC hW hr hlk (Nat.le_refl _) (Nat.le_refl _) ⟨_, rfl, rfl, rfl, T, Or.inl ⟨k, v, n, _, 0, ⟨hk, hv, hn, by omega, rfl, rfl, rfl, rfl, fun h => absurd h n2, fun h => absurd h n3, fun _ _ => rfl, hfr⟩, Or.inl ⟨e5, rfl, rfl⟩⟩, ⟨_, _, _, hR, hTc, hTp, hTk, hGW, hGr, hGd, hGp, hGt, hGc, hF11, hF14⟩⟩ dX12_part_109
                        · exact absurd (by decide) c9
                    · have e3 : sr = 3 := (nI_eq (by omega) (by decide)).mp c3
                      subst e3
                      refine lv_iload hx hb dX12_part_63 (lv_at hl 5 rfl) ?_
                      refine lv_i2l hx hb dX12_part_65 rfl ?_
                      refine rl_calliQ (rl_runS (As := [.long ((x5).toInt64)]) (rest := []) hC hW (cR_isRecordKind l D t A _ z _) cs_X12_133 sm_X12_isRecordKind ⟨(Nat.le_of_ble_eq_true rfl), (Nat.le_of_ble_eq_true rfl)⟩ rfl hl.1 rfl (Nat.le_of_ble_eq_true rfl) dX12_part_66 ⟨(Nat.le_of_ble_eq_true rfl), (Nat.le_of_ble_eq_true rfl)⟩) hW (fun r f1 H locs hp hW => ?_)
                      obtain ⟨rfl, hp⟩ := hp
                      rw [rg_rk] at hp
                      rcases hp with ⟨rfl, hp⟩ | ⟨rfl, hp⟩
                      · obtain ⟨o, ho, rfl⟩ := hp
                        refine lv_if_ne (tgt := 74) hx hb dX12_part_69 (by decide) (fun c9 => ?_) (fun c9 => ?_)
                        · have hj12 : 3 * k + v < 12 := by omega
                          have hc := hTp.1 (3 * k + v) hj12
                          refine lv_iconst (v := (nI (3))) hx hb dX12_part_74 (by decide) ?_
                          refine lv_iload_n hx hb dX12_part_75 rfl (lv_at hl 1 rfl) ?_
                          refine lv_iconst (v := (nI (2))) hx hb dX12_part_76 (by decide) ?_
                          refine lv_isub hx hb dX12_part_77 ?_
                          refine rl_topn (rg_sub (c := k) (by omega)) ?_
                          refine lv_imul hx hb dX12_part_78 ?_
                          refine rl_topn (pk_mul _ _) ?_
                          refine lv_iload_n hx hb dX12_part_79 rfl (lv_at hl 2 rfl) ?_
                          refine lv_iadd hx hb dX12_part_80 ?_
                          refine rl_topn (nI_add _ _) ?_
                          refine lv_istore (lv' := [(6, .int (nI (((3) * (k)) + (v)))), (0, .ref (m)), (1, .int (nI (2 + k))), (2, .int (nI (v))), (3, .int (nI (n))), (4, .int (nI (3))), (5, .int (nI (2 + o)))]) hx hb dX12_part_81 hl (by decide) rfl (fun ls hl => ?_)
                          refine lv_aload_n hx hb dX12_part_83 rfl (lv_at hl 1 rfl) ?_
                          refine lv_iload hx hb dX12_part_84 (lv_at hl 0 rfl) ?_
                          refine lv_iload_n hx hb dX12_part_86 rfl (lv_at hl 4 rfl) ?_
                          refine lv_i2l hx hb dX12_part_87 rfl ?_
                          refine rl_calliQ (rl_runV (b := m) (As := [.int (nI (((3) * (k)) + (v))), .long ((nI (n)).toInt64)]) (rest := []) hC hW (cR_partBy l D t A _ z m I L F hR T hTp (3 * k + v) hj12 _) cs_X12_139 im_X12_partBy sl_X12_partBy hR.1 rfl ⟨(Nat.le_of_ble_eq_true rfl), (Nat.le_of_ble_eq_true rfl)⟩ rfl hl.1 rfl (Nat.le_of_ble_eq_true rfl) dX12_part_88 ⟨(Nat.le_of_ble_eq_true rfl), (Nat.le_of_ble_eq_true rfl)⟩) hW (fun r f1 H locs hp hW => ?_)
                          obtain ⟨rfl, hp⟩ := hp
                          rcases hp with ⟨i, hi, rfl, he, -⟩ | ⟨rfl, hp⟩
                          · have hno : ¬ ∃ k' v' n' s' o', rt_okp T (nI (2 + k)) (nI v) (nI n) (nI 3) (nI (2 + o)) k' v' n' s' o' := fun ⟨k', v', n', s', o', q1, q2, q3, q4, q5, q6, q7, q8, q9, q10, q10', q11⟩ => by
                              have e1 := (nI_eq (by omega) (by omega)).mp q5
                              have e1 : k = k' := by omega
                              have e2 := (nI_eq (by omega) (by omega)).mp q6
                              have e3 := (nI_eq (by omega) (by omega)).mp q7
                              subst e1; subst e2; subst e3
                              exact q11 i hi ((rg_l (by have := (hTp.2 _ i hj12 hi).2.1; omega) (by omega)).mp he)
                            refine lv_if_lt (tgt := 96) hx hb dX12_part_91 (by decide) (fun c9 => ?_) (fun c9 => ?_)
                            · exact absurd c9 (nI_pos (by omega))
                            · refine lv_iconst (v := (-1)) hx hb dX12_part_94 (by decide) ?_
                              exact rl_iret hC hW hr hlk (Nat.le_refl _) (Nat.le_refl _) ⟨_, rfl, rfl, rfl, T, Or.inr ⟨by decide, rfl, hno⟩, ⟨_, _, _, hR, hTc, hTp, hTk, hGW, hGr, hGd, hGp, hGt, hGc, hF11, hF14⟩⟩ dX12_part_95
                          · refine lv_if_lt (tgt := 96) hx hb dX12_part_91 (by decide) (fun c9 => ?_) (fun c9 => ?_)
                            · have hfr : ∀ i, i < T 2 (3 * k + v) → T 3 (5 * (3 * k + v) + i) ≠ n := fun i hi q => hp i hi (by rw [q])
                              refine lv_aload_n hx hb dX12_part_96 rfl (lv_at hl 1 rfl) ?_
                              refine rl_get (v := .ref (m + 4)) hC hW fl_X12_20 hR.1 rfl dX12_part_97 ?_
                              refine lv_iload hx hb dX12_part_100 (lv_at hl 0 rfl) ?_
                              refine rl_iald_n (g := I 3) hC hW hR.a3 (by omega) (by decide) dX12_part_102 ?_
                              refine rl_topn (hc.1) ?_
                              refine lv_iconst (v := (nI (5))) hx hb dX12_part_103 (by decide) ?_
                              refine lv_icmp_ne (tgt := 110) hx hb dX12_part_104 (by decide) (fun c4 => ?_) (fun c4 => ?_)
                              · have n5 : T 2 (3 * k + v) ≠ 5 := fun q => c4 (by rw [q])
                                refine lv_aload_n hx hb dX12_part_110 rfl (lv_at hl 1 rfl) ?_
                                refine rl_get (v := .ref (m + 4)) hC hW fl_X12_20 hR.1 rfl dX12_part_111 ?_
                                refine lv_iload hx hb dX12_part_114 (lv_at hl 0 rfl) ?_
                                refine rl_iald_n (g := I 3) hC hW hR.a3 (by omega) (by decide) dX12_part_116 ?_
                                refine rl_topn (hc.1) ?_
                                refine lv_istore (lv' := [(7, .int (nI (T 2 (((3) * (k)) + (v))))), (6, .int (nI (((3) * (k)) + (v)))), (0, .ref (m)), (1, .int (nI (2 + k))), (2, .int (nI (v))), (3, .int (nI (n))), (4, .int (nI (3))), (5, .int (nI (2 + o)))]) hx hb dX12_part_117 hl (by decide) rfl (fun ls hl => ?_)
                                refine lv_aload_n hx hb dX12_part_119 rfl (lv_at hl 2 rfl) ?_
                                refine rl_get (v := .ref (m + 5)) hC hW fl_X12_23 hR.1 rfl dX12_part_120 ?_
                                refine lv_iconst (v := (nI (5))) hx hb dX12_part_123 (by decide) ?_
                                refine lv_iload hx hb dX12_part_124 (lv_at hl 1 rfl) ?_
                                refine lv_imul hx hb dX12_part_126 ?_
                                refine rl_topn (pk_mul _ _) ?_
                                refine lv_iload hx hb dX12_part_127 (lv_at hl 0 rfl) ?_
                                refine lv_iadd hx hb dX12_part_129 ?_
                                refine rl_topn (nI_add _ _) ?_
                                refine lv_iload_n hx hb dX12_part_130 rfl (lv_at hl 5 rfl) ?_
                                refine rl_iast_n (g := I 4) hC hW hR.a4 (by omega) (by decide) dX12_part_131 (fun H locs hW => ?_)
                                have hR := hR.s4 (upd (I 4) (((5) * (((3) * (k)) + (v))) + (T 2 (((3) * (k)) + (v)))) ((nI (n))))
                                refine lv_aload_n hx hb dX12_part_132 rfl (lv_at hl 2 rfl) ?_
                                refine rl_get (v := .ref (m + 6)) hC hW fl_X12_26 hR.1 rfl dX12_part_133 ?_
                                refine lv_iconst (v := (nI (5))) hx hb dX12_part_136 (by decide) ?_
                                refine lv_iload hx hb dX12_part_137 (lv_at hl 1 rfl) ?_
                                refine lv_imul hx hb dX12_part_139 ?_
                                refine rl_topn (pk_mul _ _) ?_
                                refine lv_iload hx hb dX12_part_140 (lv_at hl 0 rfl) ?_
                                refine lv_iadd hx hb dX12_part_142 ?_
                                refine rl_topn (nI_add _ _) ?_
                                refine lv_iload hx hb dX12_part_143 (lv_at hl 6 rfl) ?_
                                refine rl_iast_n (g := I 5) hC hW hR.a5 (by omega) (by decide) dX12_part_145 (fun H locs hW => ?_)
                                have hR := hR.s5 (upd (I 5) (((5) * (((3) * (k)) + (v))) + (T 2 (((3) * (k)) + (v)))) ((nI (3))))
                                refine lv_aload_n hx hb dX12_part_146 rfl (lv_at hl 2 rfl) ?_
                                refine rl_get (v := .ref (m + 7)) hC hW fl_X12_29 hR.1 rfl dX12_part_147 ?_
                                refine lv_iconst (v := (nI (5))) hx hb dX12_part_150 (by decide) ?_
                                refine lv_iload hx hb dX12_part_151 (lv_at hl 1 rfl) ?_
                                refine lv_imul hx hb dX12_part_153 ?_
                                refine rl_topn (pk_mul _ _) ?_
                                refine lv_iload hx hb dX12_part_154 (lv_at hl 0 rfl) ?_
                                refine lv_iadd hx hb dX12_part_156 ?_
                                refine rl_topn (nI_add _ _) ?_
                                refine lv_iload hx hb dX12_part_157 (lv_at hl 7 rfl) ?_
                                refine rl_iast_n (g := I 6) hC hW hR.a6 (by omega) (by decide) dX12_part_159 (fun H locs hW => ?_)
                                have hR := hR.s6 (upd (I 6) (((5) * (((3) * (k)) + (v))) + (T 2 (((3) * (k)) + (v)))) ((nI (2 + o))))
                                refine lv_aload_n hx hb dX12_part_160 rfl (lv_at hl 2 rfl) ?_
                                refine rl_get (v := .ref (m + 4)) hC hW fl_X12_20 hR.1 rfl dX12_part_161 ?_
                                refine lv_iload hx hb dX12_part_164 (lv_at hl 1 rfl) ?_
                                refine lv_dup2_11 hx hb dX12_part_166 rfl rfl ?_
                                refine rl_iald_n (g := I 3) hC hW hR.a3 (by omega) (by decide) dX12_part_167 ?_
                                refine rl_topn (hc.1) ?_
                                refine lv_iconst (v := (nI (1))) hx hb dX12_part_168 (by decide) ?_
                                refine lv_iadd hx hb dX12_part_169 ?_
                                refine rl_topn (nI_add _ _) ?_
                                refine rl_iast_n (g := I 3) hC hW hR.a3 (by omega) (by decide) dX12_part_170 (fun H locs hW => ?_)
                                have hR := hR.s3 (upd (I 3) (((3) * (k)) + (v)) ((nI ((T 2 (((3) * (k)) + (v))) + (1)))))
                                refine lv_iload hx hb dX12_part_171 (lv_at hl 0 rfl) ?_
                                exact rl_iret hC hW hr hlk (Nat.le_refl _) (Nat.le_refl _) ⟨_, rfl, rfl, rfl, _, Or.inl ⟨k, v, n, _, 2 + o, ⟨hk, hv, hn, by omega, rfl, rfl, rfl, rfl, fun h => absurd h (by decide), fun _ => ⟨by omega, by omega, rfl⟩, fun _ h => absurd rfl h, hfr⟩, Or.inr ⟨n5, rfl, rfl⟩⟩, ⟨_, _, _, hR, hTc, hTp.add hj12 hn (by omega) n5 ⟨fun h => absurd h (by decide), fun _ => ⟨by omega, by omega, rfl⟩⟩, RTk.part hTp hTk hj12 n5, GW.part hTp hGW hj12 n5, hGr, hGd, hGp, hGt, hGc, hF11, hF14⟩⟩ dX12_part_173
                              · have e5 : T 2 (3 * k + v) = 5 := (nI_eq (by omega) (by decide)).mp c4
                                refine lv_bipush (v := (-2)) hx hb dX12_part_107 (by decide) ?_
                                exact rl_iret hC hW hr hlk (Nat.le_refl _) (Nat.le_refl _) ⟨_, rfl, rfl, rfl, T, Or.inl ⟨k, v, n, _, 2 + o, ⟨hk, hv, hn, by omega, rfl, rfl, rfl, rfl, fun h => absurd h (by decide), fun _ => ⟨by omega, by omega, rfl⟩, fun _ h => absurd rfl h, hfr⟩, Or.inl ⟨e5, rfl, rfl⟩⟩, ⟨_, _, _, hR, hTc, hTp, hTk, hGW, hGr, hGd, hGp, hGt, hGc, hF11, hF14⟩⟩ dX12_part_109
                            · exact absurd (by decide) c9
                        · exact absurd c9 (by decide)
                      · have hq := hp
                        refine lv_if_ne (tgt := 74) hx hb dX12_part_69 (by decide) (fun c9 => ?_) (fun c9 => ?_)
                        · exact absurd rfl c9
                        · refine lv_iconst (v := (-1)) hx hb dX12_part_72 (by decide) ?_
                          exact rl_iret hC hW hr hlk (Nat.le_refl _) (Nat.le_refl _) ⟨_, rfl, rfl, rfl, T, Or.inr ⟨by decide, rfl, fun ⟨_, _, _, s', o', _, _, _, _, _, _, _, q8, _, q9, _⟩ => hq (by
                              obtain ⟨a1, a2, a3⟩ := q9 (by have := (nI_eq (by omega) (by omega)).mp q8; omega)
                              exact ⟨o' - 2, by omega, by rw [a3]; congr 1; omega⟩)⟩, ⟨_, _, _, hR, hTc, hTp, hTk, hGW, hGr, hGd, hGp, hGt, hGc, hF11, hF14⟩⟩ dX12_part_73
                  · have e2 : sr = 2 := (nI_eq (by omega) (by decide)).mp c2
                    subst e2
                    refine lv_iload hx hb dX12_part_46 (lv_at hl 5 rfl) ?_
                    refine lv_i2l hx hb dX12_part_48 rfl ?_
                    refine lv_lconst (v := 0) hx hb dX12_part_49 (by decide) ?_
                    refine lv_lconst (v := 1) hx hb dX12_part_50 (by decide) ?_
                    refine rl_calliQ (rl_runS (As := [.long ((x5).toInt64), .long (0), .long (1)]) (rest := []) hC hW (cR_in l D t A _ z _ _ _) cs_X12_117 sm_X12_in ⟨(Nat.le_of_ble_eq_true rfl), (Nat.le_of_ble_eq_true rfl)⟩ rfl hl.1 rfl (Nat.le_of_ble_eq_true rfl) dX12_part_51 ⟨(Nat.le_of_ble_eq_true rfl), (Nat.le_of_ble_eq_true rfl)⟩) hW (fun r f1 H locs hp hW => ?_)
                    obtain ⟨rfl, hp⟩ := hp
                    rw [rg_ix (n := 1) (by decide) (by decide) (by decide)] at hp
                    rcases hp with ⟨rfl, hp⟩ | ⟨rfl, hp⟩
                    · obtain ⟨o, ho, rfl⟩ := hp
                      refine lv_if_eq (tgt := 72) hx hb dX12_part_54 (by decide) (fun c9 => ?_) (fun c9 => ?_)
                      · exact absurd c9 (by decide)
                      · refine lv_iload hx hb dX12_part_57 (lv_at hl 4 rfl) ?_
                        refine lv_iconst (v := (nI (3))) hx hb dX12_part_59 (by decide) ?_
                        refine lv_icmp_ne (tgt := 74) hx hb dX12_part_60 (by decide) (fun c3 => ?_) (fun c3 => ?_)
                        · have hj12 : 3 * k + v < 12 := by omega
                          have hc := hTp.1 (3 * k + v) hj12
                          refine lv_iconst (v := (nI (3))) hx hb dX12_part_74 (by decide) ?_
                          refine lv_iload_n hx hb dX12_part_75 rfl (lv_at hl 1 rfl) ?_
                          refine lv_iconst (v := (nI (2))) hx hb dX12_part_76 (by decide) ?_
                          refine lv_isub hx hb dX12_part_77 ?_
                          refine rl_topn (rg_sub (c := k) (by omega)) ?_
                          refine lv_imul hx hb dX12_part_78 ?_
                          refine rl_topn (pk_mul _ _) ?_
                          refine lv_iload_n hx hb dX12_part_79 rfl (lv_at hl 2 rfl) ?_
                          refine lv_iadd hx hb dX12_part_80 ?_
                          refine rl_topn (nI_add _ _) ?_
                          refine lv_istore (lv' := [(6, .int (nI (((3) * (k)) + (v)))), (0, .ref (m)), (1, .int (nI (2 + k))), (2, .int (nI (v))), (3, .int (nI (n))), (4, .int (nI (2))), (5, .int (nI (o)))]) hx hb dX12_part_81 hl (by decide) rfl (fun ls hl => ?_)
                          refine lv_aload_n hx hb dX12_part_83 rfl (lv_at hl 1 rfl) ?_
                          refine lv_iload hx hb dX12_part_84 (lv_at hl 0 rfl) ?_
                          refine lv_iload_n hx hb dX12_part_86 rfl (lv_at hl 4 rfl) ?_
                          refine lv_i2l hx hb dX12_part_87 rfl ?_
                          refine rl_calliQ (rl_runV (b := m) (As := [.int (nI (((3) * (k)) + (v))), .long ((nI (n)).toInt64)]) (rest := []) hC hW (cR_partBy l D t A _ z m I L F hR T hTp (3 * k + v) hj12 _) cs_X12_139 im_X12_partBy sl_X12_partBy hR.1 rfl ⟨(Nat.le_of_ble_eq_true rfl), (Nat.le_of_ble_eq_true rfl)⟩ rfl hl.1 rfl (Nat.le_of_ble_eq_true rfl) dX12_part_88 ⟨(Nat.le_of_ble_eq_true rfl), (Nat.le_of_ble_eq_true rfl)⟩) hW (fun r f1 H locs hp hW => ?_)
                          obtain ⟨rfl, hp⟩ := hp
                          rcases hp with ⟨i, hi, rfl, he, -⟩ | ⟨rfl, hp⟩
                          · have hno : ¬ ∃ k' v' n' s' o', rt_okp T (nI (2 + k)) (nI v) (nI n) (nI 2) (nI (o)) k' v' n' s' o' := fun ⟨k', v', n', s', o', q1, q2, q3, q4, q5, q6, q7, q8, q9, q10, q10', q11⟩ => by
                              have e1 := (nI_eq (by omega) (by omega)).mp q5
                              have e1 : k = k' := by omega
                              have e2 := (nI_eq (by omega) (by omega)).mp q6
                              have e3 := (nI_eq (by omega) (by omega)).mp q7
                              subst e1; subst e2; subst e3
                              exact q11 i hi ((rg_l (by have := (hTp.2 _ i hj12 hi).2.1; omega) (by omega)).mp he)
                            refine lv_if_lt (tgt := 96) hx hb dX12_part_91 (by decide) (fun c9 => ?_) (fun c9 => ?_)
                            · exact absurd c9 (nI_pos (by omega))
                            · refine lv_iconst (v := (-1)) hx hb dX12_part_94 (by decide) ?_
                              exact rl_iret hC hW hr hlk (Nat.le_refl _) (Nat.le_refl _) ⟨_, rfl, rfl, rfl, T, Or.inr ⟨by decide, rfl, hno⟩, ⟨_, _, _, hR, hTc, hTp, hTk, hGW, hGr, hGd, hGp, hGt, hGc, hF11, hF14⟩⟩ dX12_part_95
                          · refine lv_if_lt (tgt := 96) hx hb dX12_part_91 (by decide) (fun c9 => ?_) (fun c9 => ?_)
                            · have hfr : ∀ i, i < T 2 (3 * k + v) → T 3 (5 * (3 * k + v) + i) ≠ n := fun i hi q => hp i hi (by rw [q])
                              refine lv_aload_n hx hb dX12_part_96 rfl (lv_at hl 1 rfl) ?_
                              refine rl_get (v := .ref (m + 4)) hC hW fl_X12_20 hR.1 rfl dX12_part_97 ?_
                              refine lv_iload hx hb dX12_part_100 (lv_at hl 0 rfl) ?_
                              refine rl_iald_n (g := I 3) hC hW hR.a3 (by omega) (by decide) dX12_part_102 ?_
                              refine rl_topn (hc.1) ?_
                              refine lv_iconst (v := (nI (5))) hx hb dX12_part_103 (by decide) ?_
                              refine lv_icmp_ne (tgt := 110) hx hb dX12_part_104 (by decide) (fun c4 => ?_) (fun c4 => ?_)
                              · have n5 : T 2 (3 * k + v) ≠ 5 := fun q => c4 (by rw [q])
                                refine lv_aload_n hx hb dX12_part_110 rfl (lv_at hl 1 rfl) ?_
                                refine rl_get (v := .ref (m + 4)) hC hW fl_X12_20 hR.1 rfl dX12_part_111 ?_
                                refine lv_iload hx hb dX12_part_114 (lv_at hl 0 rfl) ?_
                                refine rl_iald_n (g := I 3) hC hW hR.a3 (by omega) (by decide) dX12_part_116 ?_
                                refine rl_topn (hc.1) ?_
                                refine lv_istore (lv' := [(7, .int (nI (T 2 (((3) * (k)) + (v))))), (6, .int (nI (((3) * (k)) + (v)))), (0, .ref (m)), (1, .int (nI (2 + k))), (2, .int (nI (v))), (3, .int (nI (n))), (4, .int (nI (2))), (5, .int (nI (o)))]) hx hb dX12_part_117 hl (by decide) rfl (fun ls hl => ?_)
                                refine lv_aload_n hx hb dX12_part_119 rfl (lv_at hl 2 rfl) ?_
                                refine rl_get (v := .ref (m + 5)) hC hW fl_X12_23 hR.1 rfl dX12_part_120 ?_
                                refine lv_iconst (v := (nI (5))) hx hb dX12_part_123 (by decide) ?_
                                refine lv_iload hx hb dX12_part_124 (lv_at hl 1 rfl) ?_
                                refine lv_imul hx hb dX12_part_126 ?_
                                refine rl_topn (pk_mul _ _) ?_
                                refine lv_iload hx hb dX12_part_127 (lv_at hl 0 rfl) ?_
                                refine lv_iadd hx hb dX12_part_129 ?_
                                refine rl_topn (nI_add _ _) ?_
                                refine lv_iload_n hx hb dX12_part_130 rfl (lv_at hl 5 rfl) ?_
                                refine rl_iast_n (g := I 4) hC hW hR.a4 (by omega) (by decide) dX12_part_131 (fun H locs hW => ?_)
                                have hR := hR.s4 (upd (I 4) (((5) * (((3) * (k)) + (v))) + (T 2 (((3) * (k)) + (v)))) ((nI (n))))
                                refine lv_aload_n hx hb dX12_part_132 rfl (lv_at hl 2 rfl) ?_
                                refine rl_get (v := .ref (m + 6)) hC hW fl_X12_26 hR.1 rfl dX12_part_133 ?_
                                refine lv_iconst (v := (nI (5))) hx hb dX12_part_136 (by decide) ?_
                                refine lv_iload hx hb dX12_part_137 (lv_at hl 1 rfl) ?_
                                refine lv_imul hx hb dX12_part_139 ?_
                                refine rl_topn (pk_mul _ _) ?_
                                refine lv_iload hx hb dX12_part_140 (lv_at hl 0 rfl) ?_
                                refine lv_iadd hx hb dX12_part_142 ?_
                                refine rl_topn (nI_add _ _) ?_
                                refine lv_iload hx hb dX12_part_143 (lv_at hl 6 rfl) ?_
                                refine rl_iast_n (g := I 5) hC hW hR.a5 (by omega) (by decide) dX12_part_145 (fun H locs hW => ?_)
                                have hR := hR.s5 (upd (I 5) (((5) * (((3) * (k)) + (v))) + (T 2 (((3) * (k)) + (v)))) ((nI (2))))
                                refine lv_aload_n hx hb dX12_part_146 rfl (lv_at hl 2 rfl) ?_
                                refine rl_get (v := .ref (m + 7)) hC hW fl_X12_29 hR.1 rfl dX12_part_147 ?_
                                refine lv_iconst (v := (nI (5))) hx hb dX12_part_150 (by decide) ?_
                                refine lv_iload hx hb dX12_part_151 (lv_at hl 1 rfl) ?_
                                refine lv_imul hx hb dX12_part_153 ?_
                                refine rl_topn (pk_mul _ _) ?_
                                refine lv_iload hx hb dX12_part_154 (lv_at hl 0 rfl) ?_
                                refine lv_iadd hx hb dX12_part_156 ?_
                                refine rl_topn (nI_add _ _) ?_
                                refine lv_iload hx hb dX12_part_157 (lv_at hl 7 rfl) ?_
                                refine rl_iast_n (g := I 6) hC hW hR.a6 (by omega) (by decide) dX12_part_159 (fun H locs hW => ?_)
                                have hR := hR.s6 (upd (I 6) (((5) * (((3) * (k)) + (v))) + (T 2 (((3) * (k)) + (v)))) ((nI (o))))
                                refine lv_aload_n hx hb dX12_part_160 rfl (lv_at hl 2 rfl) ?_
                                refine rl_get (v := .ref (m + 4)) hC hW fl_X12_20 hR.1 rfl dX12_part_161 ?_
                                refine lv_iload hx hb dX12_part_164 (lv_at hl 1 rfl) ?_
                                refine lv_dup2_11 hx hb dX12_part_166 rfl rfl ?_
                                refine rl_iald_n (g := I 3) hC hW hR.a3 (by omega) (by decide) dX12_part_167 ?_
                                refine rl_topn (hc.1) ?_
                                refine lv_iconst (v := (nI (1))) hx hb dX12_part_168 (by decide) ?_
                                refine lv_iadd hx hb dX12_part_169 ?_
                                refine rl_topn (nI_add _ _) ?_
                                refine rl_iast_n (g := I 3) hC hW hR.a3 (by omega) (by decide) dX12_part_170 (fun H locs hW => ?_)
                                have hR := hR.s3 (upd (I 3) (((3) * (k)) + (v)) ((nI ((T 2 (((3) * (k)) + (v))) + (1)))))
                                refine lv_iload hx hb dX12_part_171 (lv_at hl 0 rfl) ?_
                                exact rl_iret hC hW hr hlk (Nat.le_refl _) (Nat.le_refl _) ⟨_, rfl, rfl, rfl, _, Or.inl ⟨k, v, n, _, o, ⟨hk, hv, hn, by omega, rfl, rfl, rfl, rfl, fun _ => ⟨ho, rfl⟩, fun h => absurd h (by decide), fun h => absurd rfl h, hfr⟩, Or.inr ⟨n5, rfl, rfl⟩⟩, ⟨_, _, _, hR, hTc, hTp.add hj12 hn (by omega) n5 ⟨fun _ => ⟨ho, rfl⟩, fun h => absurd h (by decide)⟩, RTk.part hTp hTk hj12 n5, GW.part hTp hGW hj12 n5, hGr, hGd, hGp, hGt, hGc, hF11, hF14⟩⟩ dX12_part_173
                              · have e5 : T 2 (3 * k + v) = 5 := (nI_eq (by omega) (by decide)).mp c4
                                refine lv_bipush (v := (-2)) hx hb dX12_part_107 (by decide) ?_
                                exact rl_iret hC hW hr hlk (Nat.le_refl _) (Nat.le_refl _) ⟨_, rfl, rfl, rfl, T, Or.inl ⟨k, v, n, _, o, ⟨hk, hv, hn, by omega, rfl, rfl, rfl, rfl, fun _ => ⟨ho, rfl⟩, fun h => absurd h (by decide), fun h => absurd rfl h, hfr⟩, Or.inl ⟨e5, rfl, rfl⟩⟩, ⟨_, _, _, hR, hTc, hTp, hTk, hGW, hGr, hGd, hGp, hGt, hGc, hF11, hF14⟩⟩ dX12_part_109
                            · exact absurd (by decide) c9
                        · exact absurd c3 (by decide)
                    · have hq := hp
                      refine lv_if_eq (tgt := 72) hx hb dX12_part_54 (by decide) (fun c9 => ?_) (fun c9 => ?_)
                      · refine lv_iconst (v := (-1)) hx hb dX12_part_72 (by decide) ?_
                        exact rl_iret hC hW hr hlk (Nat.le_refl _) (Nat.le_refl _) ⟨_, rfl, rfl, rfl, T, Or.inr ⟨by decide, rfl, fun ⟨_, _, _, s', o', _, _, _, _, _, _, _, q8, q9, _⟩ => hq ⟨o', q9 (by have := (nI_eq (by omega) (by omega)).mp q8; omega)⟩⟩, ⟨_, _, _, hR, hTc, hTp, hTk, hGW, hGr, hGd, hGp, hGt, hGc, hF11, hF14⟩⟩ dX12_part_73
                      · exact absurd rfl c9
              · have hq := hp
                refine lv_if_eq (tgt := 72) hx hb dX12_part_37 (by decide) (fun c9 => ?_) (fun c9 => ?_)
                · refine lv_iconst (v := (-1)) hx hb dX12_part_72 (by decide) ?_
                  exact rl_iret hC hW hr hlk (Nat.le_refl _) (Nat.le_refl _) ⟨_, rfl, rfl, rfl, T, Or.inr ⟨by decide, rfl, fun ⟨_, _, _, s', _, _, _, _, q4, _, _, _, q8, _⟩ => hq ⟨s', q4, q8⟩⟩, ⟨_, _, _, hR, hTc, hTp, hTk, hGW, hGr, hGd, hGp, hGt, hGc, hF11, hF14⟩⟩ dX12_part_73
                · exact absurd rfl c9
          · have hq := hp
            refine lv_if_eq (tgt := 72) hx hb dX12_part_24 (by decide) (fun c9 => ?_) (fun c9 => ?_)
            · refine lv_iconst (v := (-1)) hx hb dX12_part_72 (by decide) ?_
              exact rl_iret hC hW hr hlk (Nat.le_refl _) (Nat.le_refl _) ⟨_, rfl, rfl, rfl, T, Or.inr ⟨by decide, rfl, fun ⟨_, _, n', _, _, _, _, q3, _, _, _, q7, _⟩ => hq ⟨n', q3, q7⟩⟩, ⟨_, _, _, hR, hTc, hTp, hTk, hGW, hGr, hGd, hGp, hGt, hGc, hF11, hF14⟩⟩ dX12_part_73
            · exact absurd rfl c9
      · have hq := hp
        refine lv_if_eq (tgt := 72) hx hb dX12_part_12 (by decide) (fun c9 => ?_) (fun c9 => ?_)
        · refine lv_iconst (v := (-1)) hx hb dX12_part_72 (by decide) ?_
          exact rl_iret hC hW hr hlk (Nat.le_refl _) (Nat.le_refl _) ⟨_, rfl, rfl, rfl, T, Or.inr ⟨by decide, rfl, fun ⟨_, v', _, _, _, _, q2, _, _, _, q6, _⟩ => hq ⟨v', q2, q6⟩⟩, ⟨_, _, _, hR, hTc, hTp, hTk, hGW, hGr, hGd, hGp, hGt, hGc, hF11, hF14⟩⟩ dX12_part_73
        · exact absurd rfl c9
  · have hq := hp
    refine lv_if_eq (tgt := 72) hx hb dX12_part_5 (by decide) (fun c9 => ?_) (fun c9 => ?_)
    · refine lv_iconst (v := (-1)) hx hb dX12_part_72 (by decide) ?_
      exact rl_iret hC hW hr hlk (Nat.le_refl _) (Nat.le_refl _) ⟨_, rfl, rfl, rfl, T, Or.inr ⟨by decide, rfl, fun ⟨k', _, _, _, _, q1, _, _, _, q4, _⟩ => hq ⟨k', q1, q4⟩⟩, ⟨_, _, _, hR, hTc, hTp, hTk, hGW, hGr, hGd, hGp, hGt, hGc, hF11, hF14⟩⟩ dX12_part_73
    · exact absurd rfl c9
