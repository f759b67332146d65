
theorem pu_fst_eq {g g' : Nat → Nat} : ∀ {n : Nat}, (∀ i, i < n → g i = g' i) → pu_fst g n = pu_fst g' n
  | 0, _ => rfl
  | n + 1, h => by rw [pu_fst, pu_fst, pu_fst_eq (fun i hi => h i (by omega)), h n (by omega)]
theorem why_mask {T : Nat → Nat → Nat} {G : pG} {j : Nat} {N N' : Nat → Int64} {X X' : Nat → pHd} (hT : rt_ok T) (hj : j < 12) (h : ∀ p, p < T 2 j → (T 4 (5 * j + p) < 2 → N' p = N p) ∧ (2 ≤ T 4 (5 * j + p) → X' p = X p)) : pu_why T G j N' X' = pu_why T G j N X := by
  have e1 : pu_fst (fun p => pu_tk T G j p (N' p) (X' p)) (T 2 j) = pu_fst (fun p => pu_tk T G j p (N p) (X p)) (T 2 j) := pu_fst_eq (fun p hp => by
    try dsimp only
    by_cases hs : T 4 (5 * j + p) < 2
    · rw [(h p hp).1 hs]
      unfold pu_tk
      rw [if_pos hs, if_pos hs]
    · rw [(h p hp).2 (by omega)]
      unfold pu_tk
      rw [if_neg hs, if_neg hs])
  have e2 : pu_fst (fun c => pu_ck T G (T 6 (2 * j + c)) (N' (T 7 (2 * j + c))) (X' (T 7 (2 * j + c))) (N' (T 10 (2 * j + c)))) (T 5 j) = pu_fst (fun c => pu_ck T G (T 6 (2 * j + c)) (N (T 7 (2 * j + c))) (X (T 7 (2 * j + c))) (N (T 10 (2 * j + c)))) (T 5 j) := pu_fst_eq (fun c hc => by
    try dsimp only
    obtain ⟨h5, ha, hsa, hb⟩ := hT.2.2.2.2.1 j c hj hc
    by_cases h1 : T 6 (2 * j + c) = 1
    · rw [h1, ck_1, ck_1, (h _ ha).1 (by rw [hsa, h1]; decide)]
    · obtain ⟨hb1, hb2⟩ := hb h1
      rw [(h _ hb1).1 (by omega)]
      by_cases h0 : T 6 (2 * j + c) = 0
      · rw [h0, ck_0, ck_0, (h _ ha).1 (by rw [hsa, h0]; decide)]
      · rw [(h _ ha).2 (by rw [hsa]; unfold rt_srt; split; omega; split; omega; split <;> omega)]
        unfold pu_ck
        rw [if_neg h0, if_neg h1, if_neg h0, if_neg h1])
  unfold pu_why
  rw [e1, e2]
theorem pu_up_eq {α : Type} {c : Nat} {v v' d : Nat → α} {i : Nat} (h : ∀ p, p < i → v p = v' p) : pu_up c v i d = pu_up c v' i d := by
  funext x
  unfold pu_up
  split
  · exact h _ (by omega)
  · rfl
theorem new_mask {T : Nat → Nat → Nat} {κ : Nat} {G : pG} {j : Nat} {N N' : Nat → Int64} {X X' : Nat → pHd} (h : ∀ p, p < T 2 j → (T 4 (5 * j + p) < 2 → N' p = N p) ∧ (2 ≤ T 4 (5 * j + p) → X' p = X p)) : pu_new T κ G j N' X' = pu_new T κ G j N X := by
  unfold pu_new
  rw [pu_up_eq (v := fun p => if T 4 (5 * j + p) < 2 then N' p else 0) (v' := fun p => if T 4 (5 * j + p) < 2 then N p else 0) (fun p hp => by
      try dsimp only
      split
      · exact (h p hp).1 (by assumption)
      · rfl), pu_up_eq (v := fun p => if T 4 (5 * j + p) < 2 then none else X' p) (v' := fun p => if T 4 (5 * j + p) < 2 then none else X p) (fun p hp => by
      try dsimp only
      split
      · rfl
      · exact (h p hp).2 (by omega))]
def mk_N (T : Nat → Nat → Nat) (j i : Nat) (N : Nat → Int64) : Nat → Int64 := fun p => if p < i ∧ T 4 (5 * j + p) < 2 then N p else 0
def mk_X (T : Nat → Nat → Nat) (j i : Nat) (X : Nat → pHd) : Nat → pHd := fun p => if p < i ∧ ¬ T 4 (5 * j + p) < 2 then X p else none
theorem mk_Ns {T : Nat → Nat → Nat} {j i : Nat} {N : Nat → Int64} {y : Int64} (hy : y = N i) : dr_N T j i y (mk_N T j i N) = mk_N T j (i + 1) N := by
  subst hy
  funext p
  unfold dr_N mk_N
  by_cases hs : T 4 (5 * j + i) < 2
  · rw [if_pos hs]
    unfold vp_updL
    by_cases e : p = i
    · subst e
      rw [if_pos rfl, if_pos ⟨by omega, hs⟩]
    · rw [if_neg e]
      try dsimp only
      by_cases h : p < i ∧ T 4 (5 * j + p) < 2
      · rw [if_pos h, if_pos ⟨by omega, h.2⟩]
      · rw [if_neg h, if_neg (fun q => h ⟨by omega, q.2⟩)]
  · rw [if_neg hs]
    by_cases h : p < i ∧ T 4 (5 * j + p) < 2
    · rw [if_pos h, if_pos ⟨by omega, h.2⟩]
    · rw [if_neg h, if_neg]
      rintro ⟨q1, q2⟩
      by_cases e : p = i
      · subst e
        exact hs q2
      · exact h ⟨by omega, q2⟩
theorem mk_Xs {T : Nat → Nat → Nat} {j i : Nat} {X : Nat → pHd} : dr_X T j i (X i) (mk_X T j i X) = mk_X T j (i + 1) X := by
  funext p
  unfold dr_X mk_X
  by_cases hs : T 4 (5 * j + i) < 2
  · rw [if_pos hs]
    by_cases h : p < i ∧ ¬ T 4 (5 * j + p) < 2
    · rw [if_pos h, if_pos ⟨by omega, h.2⟩]
    · rw [if_neg h, if_neg]
      rintro ⟨q1, q2⟩
      by_cases e : p = i
      · subst e
        exact q2 hs
      · exact h ⟨by omega, q2⟩
  · rw [if_neg hs]
    unfold va_up
    by_cases e : p = i
    · subst e
      rw [if_pos rfl, if_pos ⟨by omega, hs⟩]
    · rw [if_neg e]
      try dsimp only
      by_cases h : p < i ∧ ¬ T 4 (5 * j + p) < 2
      · rw [if_pos h, if_pos ⟨by omega, h.2⟩]
      · rw [if_neg h, if_neg (fun q => h ⟨by omega, q.2⟩)]
theorem mk_ok {T : Nat → Nat → Nat} {j : Nat} {N : Nat → Int64} {X : Nat → pHd} : ∀ p, p < T 2 j → (T 4 (5 * j + p) < 2 → mk_N T j (T 2 j) N p = N p) ∧ (2 ≤ T 4 (5 * j + p) → mk_X T j (T 2 j) X p = X p) := fun p hp => by
  unfold mk_N mk_X
  exact ⟨fun h => by rw [if_pos ⟨hp, h⟩], fun h => by rw [if_pos ⟨hp, by omega⟩]⟩
theorem mk_q {T : Nat → Nat → Nat} {ρ κ j i : Nat} {N : Nat → Int64} {X : Nat → pHd} (h : ∀ p, p < T 2 j → cok T ρ κ (X p)) : ∀ p, p < T 2 j → cok T ρ κ (mk_X T j i X p) ∧ (T 4 (5 * j + p) < 2 → mk_X T j i X p = none) ∧ (2 ≤ T 4 (5 * j + p) → mk_N T j i N p = 0) := fun p hp => by
  unfold mk_N mk_X
  refine ⟨?_, fun h9 => by rw [if_neg (fun q => q.2 h9)], fun h9 => by rw [if_neg (fun q => by omega)]⟩
  split
  · exact h p hp
  · trivial
theorem fm_no {T : Nat → Nat → Nat} {ρ κ : Nat} {G : pG} {x1 x2 x3 : Int32} (h : ¬ ∃ k v : Nat, k < 4 ∧ v < 3 ∧ x1 = nI (2 + k) ∧ x2 = nI v) : f_make T ρ κ G x1 x2 x3 = (-1, ρ, κ, G) := by
  unfold f_make
  by_cases h2 : ∃ k : Nat, k < 4 ∧ x1 = nI (2 + k)
  · obtain ⟨k, hk, rfl⟩ := h2
    have h3 : ¬ ∃ v : Nat, v < 3 ∧ x2 = nI v := fun ⟨v, hv, e⟩ => h ⟨k, v, hk, hv, rfl, e⟩
    rw [pu_rk_s hk, pu_ix_n (n := 3) (by decide) h3]
    rfl
  · rw [pu_rk_n (x := x1.toInt64) (fun q => h2 (rg_rk.mp q))]
    rfl
theorem CJ.gx {t : Nat → ClassId} {f : rl_M} {x : Nat} {T : Nat → Nat → Nat} {ρ κ : Nat} {G : pG} {E : Nat → Nat → Nat} {g g' : Nat → Int32} {mo mo' : Int32} (h : CJ t f x T ρ κ G E g mo) (h0 : g' 0 = g 0) (h1 : g' 1 = g 1) (h2 : g' 2 = g 2) (h4 : g' 4 = g 4) (h5 : g' 5 = g 5) (hm : mo' = mo) : CJ t f x T ρ κ G E g' mo' := by
  obtain ⟨a1, a2, a3, ⟨v5, a4⟩, a5⟩ := h
  exact ⟨a1, a2, a3, ⟨v5, by rw [h0, h1, h2, h4, h5, hm]; exact a4⟩, a5⟩

set_option maxHeartbeats 4000000 in
set_option maxRecDepth 100000 in
theorem cC_make (l : Launch) (D : va_G) (t : Nat → ClassId) (A : Nat → Prop) (f : rl_M) (z : Nat) (x : Nat) (T : Nat → Nat → Nat) (ρ κ : Nat) (G : pG) (E : Nat → Nat → Nat) (hI : CI t f x T ρ κ G E) (hT : rt_ok T) (hG : GW T ρ κ G) (x1 x2 x3 : Int32) : rl_Met l yX11_make (.code yX11_make cX11_make 7 (some FieldType.int)) (rl_rm 5 3 13) D t A f z [.ref (x), .int (x1), .int (x2), .int (x3)] (rl_pi fun r f1 z1 d1 => (∃ ρ' κ' G' E', f_make T ρ κ G x1 x2 x3 = (r, ρ', κ', G') ∧ CI t f1 x T ρ' κ' G' E') ∧ z1 ≤ z + 3 ∧ d1 ≤ 13) := by
  refine rl_begin (own := RX11) (lv := [(0, .ref (x)), (1, .int (x1)), (2, .int (x2)), (3, .int (x3))]) (by decide +kernel) rfl (Nat.le_of_ble_eq_true rfl) rfl fun p e s m0 args below meth c ls H locs hC hr hlk hnm hW hl hx hb => ?_
  have hzx : x + 58 ≤ z := by obtain ⟨-, -, -, -, -, -, ⟨-, -, ⟨g9, e9⟩⟩, -⟩ := id hI; exact hW.lt e9
  replace hI : CJ t _ x T ρ κ G E (G.2.1 0) (G.2.1 0 3) := hI
  obtain ⟨hF0, hEV, hRV, ⟨v5, hx0⟩, ⟨gpl, hpl, hpt⟩, ⟨⟨ggn, hgn, hgnE⟩, ⟨ggp, hgp, hgq⟩⟩, ⟨⟨fz, htp⟩, ⟨glv, hlv, hlvE⟩, ⟨gfr, hfr⟩⟩, hRW, hRC, hIN⟩ := id hI
  obtain ⟨hk0, -, -⟩ := id hI.1
  refine lv_aload_n hx hb dX11_make_0 rfl (lv_at hl 0 rfl) ?_
  refine rl_get (v := .ref (x + 1)) hC hW fl_X11_10 hx0 rfl dX11_make_1 ?_
  refine lv_iload_n hx hb dX11_make_4 rfl (lv_at hl 1 rfl) ?_
  refine lv_i2l hx hb dX11_make_5 rfl ?_
  refine lv_iload_n hx hb dX11_make_6 rfl (lv_at hl 2 rfl) ?_
  refine rl_callqQ (rl_runV (b := x + 1) (As := [.long ((x1).toInt64), .int (x2)]) (rest := []) hC hW (cC_recordVersion l D t A _ z x T ρ κ G E _ _ hI _ _) cs_X11_62 im_X3_recordVersion sl_X3_recordVersion hk0 rfl ⟨(Nat.le_of_ble_eq_true rfl), (Nat.le_of_ble_eq_true rfl)⟩ rfl hl.1 rfl (Nat.le_of_ble_eq_true rfl) dX11_make_7 ⟨by simp only [rl_rm]; omega, by simp only [rl_rm]; omega⟩) hW (fun r1 f1 H locs hp hW => ?_)
  obtain ⟨rfl, hp⟩ := hp
  rcases hp with ⟨k, v, hk, hv, h1, rfl, rfl⟩ | ⟨rfl, hp⟩
  · have hx1 : x1 = nI (2 + k) := rg_il (by omega) h1
    subst hx1
    have hj : 3 * k + v < 12 := by omega
    refine lv_astore (lv' := [(4, .ref (x + 16 + 3 * (3 * k + v))), (0, .ref (x)), (1, .int (nI (2 + k))), (2, .int (nI (v))), (3, .int (x3))]) hx hb dX11_make_10 hl (by decide) rfl (fun ls hl => ?_)
    refine lv_aload hx hb dX11_make_12 (lv_at hl 0 rfl) ?_
    refine lv_ifnull hx hb dX11_make_14 ?_
    refine lv_iload_n hx hb dX11_make_17 rfl (lv_at hl 4 rfl) ?_
    refine lv_bipush (v := (nI (10))) hx hb dX11_make_18 (by decide) ?_
    refine rl_calliQ (rl_runS (As := [.int (x3), .int (nI (10))]) (rest := []) hC hW (cC_below l D t A _ z _ (10) (by omega)) cs_X11_48 sm_X11_below ⟨(Nat.le_of_ble_eq_true rfl), (Nat.le_of_ble_eq_true rfl)⟩ rfl hl.1 rfl (Nat.le_of_ble_eq_true rfl) dX11_make_20 ⟨by simp only [rl_rm]; omega, by simp only [rl_rm]; omega⟩) hW (fun r f1 H locs hp hW => ?_)
    obtain ⟨rfl, hp⟩ := hp
    rcases hp with ⟨rfl, hp⟩ | ⟨rfl, hp⟩
    · obtain ⟨p0, hp0, rfl⟩ := hp
      refine lv_if_ne (tgt := 28) hx hb dX11_make_23 (by decide) (fun c9 => ?_) (fun c9 => ?_)
      · obtain ⟨j, hjj⟩ : ∃ j, j = 3 * k + v := ⟨_, rfl⟩
        rw [← hjj] at hl hj
        have hfz := hW.fresh
        have hfre : ∀ r, r < κ → E 2 r ≠ z := fun r hr q => by have h9 := (hI.rec hr).2.1; rw [q, hfz] at h9; cases h9
        refine rl_new hC hW cn_X11_115 (by simp only [rl_rm]; omega) (by simp only [rl_rm]; omega) dX11_make_28 (fun H hW => ?_)
        refine lv_dup hx hb dX11_make_31 rfl ?_
        refine lv_aload hx hb dX11_make_32 (lv_at hl 0 rfl) ?_
        refine rl_callv (rl_runI (b := z) (As := [.ref (x + 16 + 3 * j)]) (rest := [.ref (z)]) hC hW (cC_Rec_init l D t A _ (z + 1) x T ρ κ G E _ _ (hI.le (rl_le.fresh hfz)) (z) (j) hj (rl_up_s _ _ _)) cs_X11_117 im_X6_init rfl ⟨(Nat.le_of_ble_eq_true rfl), (Nat.le_of_ble_eq_true rfl)⟩ rfl hl.1 rfl (Nat.le_of_ble_eq_true rfl) dX11_make_34 ⟨by simp only [rl_rm]; omega, by simp only [rl_rm]; omega⟩) hW (fun f1 z1 d1 H locs hp hW hz1 => ?_)
        obtain ⟨hD1, hD2, hD3, hD4, rfl, hd1⟩ := hp
        have hle1 := rl_le.sub hfz (fun q e hq hqz => hD4 q e (rl_le.fresh hfz q e hq) hqz)
        have hD : cDR t f1 x T E (z) (j) (fun _ => 0) (fun _ => none) := ⟨hj, hzx, hD1, ⟨_, hD2, fun _ _ => rfl⟩, ⟨_, hD3, fun _ _ => rfl⟩⟩
        replace hI := hI.le hle1
        have hD : cDR t f1 x T E z j (mk_N T j 0 (G.2.2.1 1)) (mk_X T j 0 (fun q => G.2.2.2 0 (G.1 3 q))) := by
          have e1 : mk_N T j 0 (G.2.2.1 1) = fun _ => 0 := by funext p; unfold mk_N; rw [if_neg (by omega)]
          have e2 : mk_X T j 0 (fun q => G.2.2.2 0 (G.1 3 q)) = fun _ => none := by funext p; unfold mk_X; rw [if_neg (by omega)]
          rw [e1, e2]; exact hD
        refine lv_astore (lv' := [(5, .ref (z)), (4, .ref (x + 16 + 3 * j)), (0, .ref (x)), (1, .int (nI (2 + k))), (2, .int (nI (v))), (3, .int (nI (p0)))]) hx hb dX11_make_37 hl (by decide) rfl (fun ls hl => ?_)
        refine lv_iconst (v := (nI (0))) hx hb dX11_make_39 (by decide) ?_
        refine lv_istore (lv' := [(6, .int (nI (0))), (5, .ref (z)), (4, .ref (x + 16 + 3 * j)), (0, .ref (x)), (1, .int (nI (2 + k))), (2, .int (nI (v))), (3, .int (nI (p0)))]) hx hb dX11_make_40 hl (by decide) rfl (fun ls hl => ?_)
        replace hl : lv_has ls 7 [(0, .ref (x)), (1, .int (nI (2 + k))), (2, .int (nI (v))), (3, .int (nI (p0))), (4, .ref (x + 16 + 3 * j)), (5, .ref (z)), (6, .int (nI (0)))] := lv_sub hl [3, 4, 5, 6, 2, 1, 0] rfl
        have hinv : ∃ (f2 : rl_M) (i : Nat), rl_W D A f2 (z + 1 + 2) s.heap H locs ∧ CJ t f2 x T ρ κ G E (G.2.1 0) (G.2.1 0 3) ∧ cDR t f2 x T E z j (mk_N T j i (G.2.2.1 1)) (mk_X T j i (fun q => G.2.2.2 0 (G.1 3 q))) ∧ i ≤ T 2 j ∧ lv_has ls 7 [(0, .ref (x)), (1, .int (nI (2 + k))), (2, .int (nI (v))), (3, .int (nI (p0))), (4, .ref (x + 16 + 3 * j)), (5, .ref (z)), (6, .int (nI (i)))] := ⟨_, 0, hW, hI, hD, Nat.zero_le _, hl⟩
        clear hW hI hD hl
        obtain ⟨f2, i, hW, hI, hD, hi, hl⟩ := hinv
        obtain ⟨n, hn⟩ : ∃ n, T 2 j - i < n := ⟨_, Nat.lt_succ_self _⟩
        induction n generalizing f2 i H locs ls with
        | zero => exact absurd hn (Nat.not_lt_zero _)
        | succ n ih =>
          obtain ⟨-, hxa, h0, ⟨gn, h1, hgnE9⟩, ⟨gt, h2, hgtE9⟩⟩ := id hD
          obtain ⟨hrv, hj5, -⟩ := id (hI.2.2.1 j hj)
          obtain ⟨hF0, hEV, hRV, ⟨v5, hx0⟩, ⟨gpl, hpl, hpt⟩, ⟨⟨ggn, hgn, hgnE⟩, ⟨ggp, hgp, hgq⟩⟩, ⟨⟨fz, htp⟩, ⟨glv, hlv, hlvE⟩, ⟨gfr, hfr⟩⟩, hRW, hRC, hIN⟩ := id hI
          refine lv_iload hx hb dX11_make_42 (lv_at hl 6 rfl) ?_
          refine lv_aload hx hb dX11_make_44 (lv_at hl 5 rfl) ?_
          refine rl_calliQ (rl_runV (b := z) (As := []) (rest := [.int (nI (i))]) hC hW (cC_Rec_extent l D t A _ (z + 1 + 2) z _ _ _ _ gn h0 h1) cs_X11_120 im_X6_extent sl_X6_extent h0 rfl ⟨(Nat.le_of_ble_eq_true rfl), (Nat.le_of_ble_eq_true rfl)⟩ rfl hl.1 rfl (Nat.le_of_ble_eq_true rfl) dX11_make_46 ⟨by simp only [rl_rm]; omega, by simp only [rl_rm]; omega⟩) hW (fun r f1 H locs hp hW => ?_)
          obtain ⟨rfl, rfl⟩ := hp
          refine lv_icmp_ge (tgt := 84) hx hb dX11_make_49 (by decide) (fun c1 => ?_) (fun c1 => ?_)
          · have hie : i = T 2 j := by have := rg_le c1 (by omega) (by omega); omega
            subst hie
            clear ih
            have hXo : ∀ p, p < T 2 j → cok T ρ κ (G.2.2.2 0 (G.1 3 p)) := fun p hp => (hpt _ (hG.2.2.2.1 p (by omega))).2
            have hmq := mk_q (i := T 2 j) (N := G.2.2.1 1) (X := fun q => G.2.2.2 0 (G.1 3 q)) hXo
            refine lv_aload hx hb dX11_make_84 (lv_at hl 4 rfl) ?_
            refine lv_aload hx hb dX11_make_86 (lv_at hl 5 rfl) ?_
            refine rl_calliQ (rl_runV (b := x + 16 + 3 * j) (As := [.ref (z)]) (rest := []) hC hW (cC_whyNotMade l D t A _ (z + 1 + 2) x T ρ κ G E _ _ hI hT hG z j _ _ hD (fun p hp => (hmq p hp).1)) cs_X11_128 im_X7_whyNotMade sl_X7_whyNotMade hrv rfl ⟨(Nat.le_of_ble_eq_true rfl), (Nat.le_of_ble_eq_true rfl)⟩ rfl hl.1 rfl (Nat.le_of_ble_eq_true rfl) dX11_make_88 ⟨by simp only [rl_rm]; omega, by simp only [rl_rm]; omega⟩) hW (fun r f1 H locs hp hW => ?_)
            obtain ⟨rfl, hp⟩ := hp
            rw [why_mask hT hj mk_ok, hjj] at hp
            subst hp
            have hW8 := pu_why_le T G (3 * k + v) (G.2.2.1 1) (fun q => G.2.2.2 0 (G.1 3 q))
            refine lv_istore (lv' := [(6, .int (nI (pu_why T G (3 * k + v) (G.2.2.1 1) (fun q => G.2.2.2 0 (G.1 3 q))))), (0, .ref (x)), (1, .int (nI (2 + k))), (2, .int (nI (v))), (3, .int (nI (p0))), (4, .ref (x + 16 + 3 * j)), (5, .ref (z))]) hx hb dX11_make_91 hl (by decide) rfl (fun ls hl => ?_)
            refine lv_iload hx hb dX11_make_93 (lv_at hl 0 rfl) ?_
            refine lv_if_ne (tgt := 116) hx hb dX11_make_95 (by decide) (fun c2 => ?_) (fun c2 => ?_)
            · have hne : pu_why T G (3 * k + v) (G.2.2.1 1) (fun q => G.2.2.2 0 (G.1 3 q)) ≠ 0 := fun q => c2 (by rw [q]; rfl)
              refine lv_aload_n hx hb dX11_make_116 rfl (lv_at hl 1 rfl) ?_
              refine lv_iload hx hb dX11_make_117 (lv_at hl 0 rfl) ?_
              refine lv_bipush (v := (-3)) hx hb dX11_make_119 (by decide) ?_
              refine lv_iconst (v := (nI (0))) hx hb dX11_make_121 (by decide) ?_
              refine rl_callvQ (rl_runV (b := x) (As := [.int (nI (pu_why T G (3 * k + v) (G.2.2.1 1) (fun q => G.2.2.2 0 (G.1 3 q)))), .int (-3), .int (nI (0))]) (rest := []) hC hW (cC_rememberCause l D t A _ (z + 1 + 2) x T ρ κ (G) (E) _ _ hI _ _ _) cs_X11_135 im_X11_rememberCause sl_X11_rememberCause hx0 rfl ⟨(Nat.le_of_ble_eq_true rfl), (Nat.le_of_ble_eq_true rfl)⟩ rfl hl.1 rfl (Nat.le_of_ble_eq_true rfl) dX11_make_122 ⟨by simp only [rl_rm]; omega, by simp only [rl_rm]; omega⟩) hW (fun f1 H locs hp hW => ?_)
              have hI := hp.1
              refine lv_iload hx hb dX11_make_125 (lv_at hl 0 rfl) ?_
              exact rl_iret hC hW hr hlk (by simp only [rl_rm]; omega) (by simp only [rl_rm]; omega) ⟨_, rfl, ⟨ρ, κ, pu_say G (nI (pu_why T G (3 * k + v) (G.2.2.1 1) (fun q => G.2.2.2 0 (G.1 3 q)))) (-3) 0, E, (by simp only [f_make, ob, pu_rk_s hk, pu_ix_s hv (by decide), pu_ix_s hp0 (by decide)]; rw [if_neg hne]), hI⟩, by omega, by omega⟩ dX11_make_127
            · have he0 : pu_why T G (3 * k + v) (G.2.2.1 1) (fun q => G.2.2.2 0 (G.1 3 q)) = 0 := (nI_eq (by omega) (by decide)).mp c2
              refine lv_aload_n hx hb dX11_make_98 rfl (lv_at hl 1 rfl) ?_
              refine lv_dup hx hb dX11_make_99 rfl ?_
              refine rl_get (v := .int ((G.2.1 0 3))) hC hW fl_X11_132 hx0 rfl dX11_make_100 ?_
              refine lv_iconst (v := (nI (1))) hx hb dX11_make_103 (by decide) ?_
              refine lv_iadd hx hb dX11_make_104 ?_
              refine lv_topi (fun x_1 ex_1 => ?_)
              refine rl_put (v := .int (x_1)) hC hW fp_X11_132 hx0 (Nat.le_of_ble_eq_true rfl) rfl rfl dX11_make_105 (fun H locs hW => ?_)
              replace hW : rl_W D A (rl_up _ x (.inr (10, [.ref (x + 1), .ref (x + 52), .ref (x + 53), .ref (x + 54), .ref (x + 55), .int v5, .int ((G.2.1 0) 0), .int ((G.2.1 0) 1), .int ((G.2.1 0) 2), .int (x_1), .int ((G.2.1 0) 4), .int ((G.2.1 0) 5)]))) (z + 1 + 2) s.heap H locs := hW
              replace hI := hI.setx v5 (G.2.1 0) (x_1)
              replace h0 := (rl_up_n (a := x) (b := z) (e := .inr (10, [.ref (x + 1), .ref (x + 52), .ref (x + 53), .ref (x + 54), .ref (x + 55), .int v5, .int ((G.2.1 0) 0), .int ((G.2.1 0) 1), .int ((G.2.1 0) 2), .int (x_1), .int ((G.2.1 0) 4), .int ((G.2.1 0) 5)])) (by omega)).trans h0
              replace h1 := (rl_up_n (a := x) (b := z + 1) (e := .inr (10, [.ref (x + 1), .ref (x + 52), .ref (x + 53), .ref (x + 54), .ref (x + 55), .int v5, .int ((G.2.1 0) 0), .int ((G.2.1 0) 1), .int ((G.2.1 0) 2), .int (x_1), .int ((G.2.1 0) 4), .int ((G.2.1 0) 5)])) (by omega)).trans h1
              replace h2 := (rl_up_n (a := x) (b := z + 2) (e := .inr (10, [.ref (x + 1), .ref (x + 52), .ref (x + 53), .ref (x + 54), .ref (x + 55), .int v5, .int ((G.2.1 0) 0), .int ((G.2.1 0) 1), .int ((G.2.1 0) 2), .int (x_1), .int ((G.2.1 0) 4), .int ((G.2.1 0) 5)])) (by omega)).trans h2
              obtain ⟨hF0, hEV, hRV, ⟨v5, hx0⟩, ⟨gpl, hpl, hpt⟩, ⟨⟨ggn, hgn, hgnE⟩, ⟨ggp, hgp, hgq⟩⟩, ⟨⟨fz, htp⟩, ⟨glv, hlv, hlvE⟩, ⟨gfr, hfr⟩⟩, hRW, hRC, hIN⟩ := id hI
              replace hD : cDR t _ x T E z j _ _ := ⟨hj, hxa, h0, ⟨gn, h1, hgnE9⟩, ⟨gt, h2, hgtE9⟩⟩
              refine lv_aload_n hx hb dX11_make_108 rfl (lv_at hl 1 rfl) ?_
              refine rl_get (v := .ref (x + 52)) hC hW fl_X11_18 hx0 rfl dX11_make_109 ?_
              refine lv_iload_n hx hb dX11_make_112 rfl (lv_at hl 4 rfl) ?_
              refine lv_aload hx hb dX11_make_113 (lv_at hl 6 rfl) ?_
              have hI9 := hI.newrec hD hfre hmq (fun r hr => Nat.le_trans (hG.2.1 r hr).2.1 (hT.2.1 _ (hG.2.1 r hr).1).1)
              rw [new_mask mk_ok, hjj] at hI9
              obtain ⟨-, -, -, -, ⟨gpl9, hpl9, -⟩, -⟩ := id hI9
              refine rl_astT (r := some z) hC hW hpl9 (fun q e => by cases e; exact Or.inr (Or.inr ⟨_, h0⟩)) (by omega) (by decide) dX11_make_115 (fun H locs hW => ?_)
              replace hI := hI9.setp (p := p0) (r := some z) (hd := hrec κ) hpl9 (by show some z = some (va_up E 2 (va_up (E 2) κ z) 2 κ); rw [va_up_s, va_up_s]) (show κ < κ + 1 by omega)
              obtain ⟨hF0, hEV, hRV, ⟨v5, hx0⟩, ⟨gpl, hpl, hpt⟩, ⟨⟨ggn, hgn, hgnE⟩, ⟨ggp, hgp, hgq⟩⟩, ⟨⟨fz, htp⟩, ⟨glv, hlv, hlvE⟩, ⟨gfr, hfr⟩⟩, hRW, hRC, hIN⟩ := id hI
              refine lv_aload_n hx hb dX11_make_116 rfl (lv_at hl 1 rfl) ?_
              refine lv_iload hx hb dX11_make_117 (lv_at hl 0 rfl) ?_
              refine lv_bipush (v := (-3)) hx hb dX11_make_119 (by decide) ?_
              refine lv_iconst (v := (nI (0))) hx hb dX11_make_121 (by decide) ?_
              refine rl_callvQ (rl_runV (b := x) (As := [.int (nI (pu_why T G (3 * k + v) (G.2.2.1 1) (fun q => G.2.2.2 0 (G.1 3 q)))), .int (-3), .int (nI (0))]) (rest := []) hC hW (cC_rememberCause l D t A _ (z + 1 + 2) x T ρ (κ + 1) (gX (pu_new T κ G (3 * k + v) (G.2.2.1 1) (fun q => G.2.2.2 0 (G.1 3 q))) 0 (va_up (G.2.2.2 0) p0 (hrec κ))) (eup E 2 κ z) _ _ hI _ _ _) cs_X11_135 im_X11_rememberCause sl_X11_rememberCause hx0 rfl ⟨(Nat.le_of_ble_eq_true rfl), (Nat.le_of_ble_eq_true rfl)⟩ rfl hl.1 rfl (Nat.le_of_ble_eq_true rfl) dX11_make_122 ⟨by simp only [rl_rm]; omega, by simp only [rl_rm]; omega⟩) hW (fun f1 H locs hp hW => ?_)
              have hI := hp.1
              replace hI : CI t _ x T ρ (κ + 1) (pu_say (gX (pu_new T κ G (3 * k + v) (G.2.2.1 1) (fun q => G.2.2.2 0 (G.1 3 q))) 0 (va_up (G.2.2.2 0) p0 (hrec κ))) 0 (-3) 0) (eup E 2 κ z) := hI.gx (by show (0 : Int32) = nI (pu_why T G (3 * k + v) (G.2.2.1 1) (fun q => G.2.2.2 0 (G.1 3 q))); rw [he0]; rfl) rfl rfl rfl rfl (by show G.2.1 0 3 + 1 = x_1; rw [ex_1]; rfl)
              refine lv_iload hx hb dX11_make_125 (lv_at hl 0 rfl) ?_
              exact rl_iret hC hW hr hlk (by simp only [rl_rm]; omega) (by simp only [rl_rm]; omega) ⟨_, rfl, ⟨ρ, κ + 1, pu_say (gX (pu_new T κ G (3 * k + v) (G.2.2.1 1) (fun q => G.2.2.2 0 (G.1 3 q))) 0 (va_up (G.2.2.2 0) p0 (hrec κ))) 0 (-3) 0, eup E 2 κ z, (by simp only [f_make, ob, pu_rk_s hk, pu_ix_s hv (by decide), pu_ix_s hp0 (by decide)]; rw [if_pos he0, he0]; rfl), hI⟩, by omega, by omega⟩ dX11_make_127
          · have hlt : i < T 2 j := rg_lt c1 (by omega) (by omega)
            have eq0 := hgq i (by omega)
            have hq10 := hG.2.2.2.1 i (by omega)
            obtain ⟨hpe, hok0⟩ := hpt _ hq10
            refine lv_aload hx hb dX11_make_52 (lv_at hl 5 rfl) ?_
            refine lv_iload hx hb dX11_make_54 (lv_at hl 6 rfl) ?_
            refine lv_aload_n hx hb dX11_make_56 rfl (lv_at hl 0 rfl) ?_
            refine rl_get (v := .ref (x + 53)) hC hW fl_X11_22 hx0 rfl dX11_make_57 ?_
            refine lv_iload hx hb dX11_make_60 (lv_at hl 6 rfl) ?_
            refine rl_lald_n hC hW hgn (by omega) (by decide) dX11_make_62 ?_
            refine lv_aload_n hx hb dX11_make_63 rfl (lv_at hl 0 rfl) ?_
            refine rl_get (v := .ref (x + 52)) hC hW fl_X11_18 hx0 rfl dX11_make_64 ?_
            refine lv_aload_n hx hb dX11_make_67 rfl (lv_at hl 0 rfl) ?_
            refine rl_get (v := .ref (x + 54)) hC hW fl_X11_26 hx0 rfl dX11_make_68 ?_
            refine lv_iload hx hb dX11_make_71 (lv_at hl 6 rfl) ?_
            refine rl_iald_n hC hW hgp (by omega) (by decide) dX11_make_73 ?_
            refine rl_topn (y := nI (G.1 3 i)) (eq0) ?_
            refine rl_aald_n 3 hC hW rfl hpl (by omega) (by decide) dX11_make_74 ?_
            obtain ⟨r0, er0⟩ : ∃ r : Option Nat, r = gpl (G.1 3 i) := ⟨_, rfl⟩
            refine rl_topqq er0.symm ?_
            refine rl_callvQ (rl_runV (b := z) (As := [.int (nI (i)), .long (ggn (i)), va_rf (r0)]) (rest := []) hC hW (cC_Rec_put l D t A _ (z + 1 + 2) x T ρ κ G E _ _ hI hT z j _ _ hD hfre i hlt _ (G.2.2.2 0 (G.1 3 i)) r0 (er0.trans hpe) hok0) cs_X11_124 im_X6_put sl_X6_put h0 rfl ⟨(Nat.le_of_ble_eq_true rfl), (Nat.le_of_ble_eq_true rfl)⟩ rfl hl.1 rfl (Nat.le_of_ble_eq_true rfl) dX11_make_75 ⟨by simp only [rl_rm]; omega, by simp only [rl_rm]; omega⟩) hW (fun f3 H locs hp hW => ?_)
            obtain ⟨hI2, hD2, -⟩ := hp
            rw [mk_Ns (hgnE i (by omega)), mk_Xs (X := fun q => G.2.2.2 0 (G.1 3 q))] at hD2
            refine lv_iinc (v := (nI ((i) + 1))) (lv' := [(6, .int (nI ((i) + 1))), (0, .ref (x)), (1, .int (nI (2 + k))), (2, .int (nI (v))), (3, .int (nI (p0))), (4, .ref (x + 16 + 3 * j)), (5, .ref (z))]) hx hb dX11_make_78 hl (k := 6) rfl (nI_1 _) (by decide) rfl (fun ls hl => ?_)
            refine lv_goto (tgt := 42) hx hb dX11_make_81 (by decide) ?_
            replace hl : lv_has ls 7 [(0, .ref (x)), (1, .int (nI (2 + k))), (2, .int (nI (v))), (3, .int (nI (p0))), (4, .ref (x + 16 + 3 * j)), (5, .ref (z)), (6, .int (nI ((i) + 1)))] := lv_sub hl [1, 2, 3, 4, 5, 6, 0] rfl
            exact ih H locs ls f3 (i + 1) hW hI2 hD2 (by omega) hl (by omega)
      · exact absurd c9 (by decide)
    · have hq := hp
      refine lv_if_ne (tgt := 28) hx hb dX11_make_23 (by decide) (fun c9 => ?_) (fun c9 => ?_)
      · exact absurd rfl c9
      · refine lv_iconst (v := (-1)) hx hb dX11_make_26 (by decide) ?_
        exact rl_iret hC hW hr hlk (by simp only [rl_rm]; omega) (by simp only [rl_rm]; omega) ⟨_, rfl, ⟨ρ, κ, G, E, (by simp only [f_make, ob, pu_rk_s hk, pu_ix_s hv (by decide), pu_ix_n (n := 10) (by decide) hq]), hI⟩, by omega, by omega⟩ dX11_make_27
  · have hp' : ¬ ∃ k v : Nat, k < 4 ∧ v < 3 ∧ x1 = nI (2 + k) ∧ x2 = nI v := fun ⟨k, v, q1, q2, q3, q4⟩ => hp ⟨k, v, q1, q2, by rw [q3]; exact rg_li (by omega), q4⟩
    refine lv_astoreN (lv' := [(4, .null), (0, .ref (x)), (1, .int (x1)), (2, .int (x2)), (3, .int (x3))]) hx hb dX11_make_10 hl (by decide) rfl (fun ls hl => ?_)
    refine lv_aloadN hx hb dX11_make_12 (lv_at hl 0 rfl) ?_
    refine lv_ifnullN (tgt := 26) hx hb dX11_make_14 (by decide) ?_
    refine lv_iconst (v := (-1)) hx hb dX11_make_26 (by decide) ?_
    exact rl_iret hC hW hr hlk (by simp only [rl_rm]; omega) (by simp only [rl_rm]; omega) ⟨_, rfl, ⟨ρ, κ, G, E, fm_no hp', hI⟩, by omega, by omega⟩ dX11_make_27

set_option maxHeartbeats 4000000 in
set_option maxRecDepth 100000 in
theorem cC_sameItems (l : Launch) (D : va_G) (t : Nat → ClassId) (A : Nat → Prop) (f : rl_M) (z : Nat) (a1 a2 n1 n2 : Nat) (g1 g2 : Nat → Int32) (hn1 : n1 ≤ 8) (hn2 : n2 ≤ 8) (h1 : f a1 = some (.inl (t 0, n1, .inl g1))) (h2 : f a2 = some (.inl (t 0, n2, .inl g2))) : rl_Met l yX11_sameItems (.code yX11_sameItems cX11_sameItems 3 (some FieldType.boolean)) (rl_rm 0 0 0) D t A f z [.ref (a1), .ref (a2)] (rl_qi z fun r f1 => f = f1 ∧ ((r = 1 ∧ (n1 = n2 ∧ ∀ q, q < n1 → g1 q = g2 q)) ∨ (r = 0 ∧ ¬ (n1 = n2 ∧ ∀ q, q < n1 → g1 q = g2 q)))) := by
  refine rl_begin (own := RX11) (lv := [(0, .ref (a1)), (1, .ref (a2))]) (by decide +kernel) rfl (Nat.le_of_ble_eq_true rfl) rfl fun p e s m0 args below meth c ls H locs hC hr hlk hnm hW hl hx hb => ?_
  refine lv_aload_n hx hb dX11_sameItems_0 rfl (lv_at hl 0 rfl) ?_
  refine rl_alen 0 (v := nI (n1)) hC hW rfl h1 rfl dX11_sameItems_1 ?_
  refine lv_aload_n hx hb dX11_sameItems_2 rfl (lv_at hl 1 rfl) ?_
  refine rl_alen 0 (v := nI (n2)) hC hW rfl h2 rfl dX11_sameItems_3 ?_
  refine lv_icmp_eq (tgt := 9) hx hb dX11_sameItems_4 (by decide) (fun c1 => ?_) (fun c1 => ?_)
  · have e12 : n1 = n2 := (nI_eq (by omega) (by omega)).mp c1
    subst e12
    refine lv_iconst (v := (nI (0))) hx hb dX11_sameItems_9 (by decide) ?_
    refine lv_istore_n (lv' := [(2, .int (nI (0))), (0, .ref (a1)), (1, .ref (a2))]) hx hb dX11_sameItems_10 rfl hl (by decide) rfl (fun ls hl => ?_)
    replace hl : lv_has ls 3 [(0, .ref (a1)), (1, .ref (a2)), (2, .int (nI (0)))] := lv_sub hl [1, 2, 0] rfl
    replace hl : ∃ i : Nat, (i ≤ n1) ∧ (∀ q, q < i → g1 q = g2 q) ∧ lv_has ls 3 [(0, .ref (a1)), (1, .ref (a2)), (2, .int (nI (i)))] := ⟨0, Nat.zero_le _, fun _ h => absurd h (Nat.not_lt_zero _), hl⟩
    obtain ⟨i, hi, hpr, hl⟩ := hl
    obtain ⟨n, hn⟩ : ∃ n, n1 - i < n := ⟨_, Nat.lt_succ_self _⟩
    induction n generalizing i ls with
    | zero => exact absurd hn (Nat.not_lt_zero _)
    | succ n ih =>
      refine lv_iload_n hx hb dX11_sameItems_11 rfl (lv_at hl 2 rfl) ?_
      refine lv_aload_n hx hb dX11_sameItems_12 rfl (lv_at hl 0 rfl) ?_
      refine rl_alen 0 (v := nI (n1)) hC hW rfl h1 rfl dX11_sameItems_13 ?_
      refine lv_icmp_ge (tgt := 34) hx hb dX11_sameItems_14 (by decide) (fun c2 => ?_) (fun c2 => ?_)
      · have hge := rg_le c2 (by omega) (by omega)
        refine lv_iconst (v := (nI (1))) hx hb dX11_sameItems_34 (by decide) ?_
        exact rl_zret hC hW hr hlk rfl (Nat.le_refl _) (Nat.le_refl _) ⟨_, rfl, rfl, rfl, rfl, Or.inl ⟨by decide, rfl, fun q hq => hpr q (by omega)⟩⟩ dX11_sameItems_35
      · have hlt : i < n1 := rg_lt c2 (by omega) (by omega)
        refine lv_aload_n hx hb dX11_sameItems_17 rfl (lv_at hl 0 rfl) ?_
        refine lv_iload_n hx hb dX11_sameItems_18 rfl (lv_at hl 2 rfl) ?_
        refine rl_iald_n hC hW h1 (by omega) (by omega) dX11_sameItems_19 ?_
        refine lv_aload_n hx hb dX11_sameItems_20 rfl (lv_at hl 1 rfl) ?_
        refine lv_iload_n hx hb dX11_sameItems_21 rfl (lv_at hl 2 rfl) ?_
        refine rl_iald_n hC hW h2 (by omega) (by omega) dX11_sameItems_22 ?_
        refine lv_icmp_eq (tgt := 28) hx hb dX11_sameItems_23 (by decide) (fun c3 => ?_) (fun c3 => ?_)
        · refine lv_iinc (v := (nI ((i) + 1))) (lv' := [(2, .int (nI ((i) + 1))), (0, .ref (a1)), (1, .ref (a2))]) hx hb dX11_sameItems_28 hl (k := 2) rfl (nI_1 _) (by decide) rfl (fun ls hl => ?_)
          refine lv_goto (tgt := 11) hx hb dX11_sameItems_31 (by decide) ?_
          replace hl : lv_has ls 3 [(0, .ref (a1)), (1, .ref (a2)), (2, .int (nI ((i) + 1)))] := lv_sub hl [1, 2, 0] rfl
          exact ih ls (i + 1) (by omega) (rg_step hpr c3) hl (by omega)
        · refine lv_iconst (v := (nI (0))) hx hb dX11_sameItems_26 (by decide) ?_
          exact rl_zret hC hW hr hlk rfl (Nat.le_refl _) (Nat.le_refl _) ⟨_, rfl, rfl, rfl, rfl, Or.inr ⟨by decide, fun q => c3 (q.2 i hlt)⟩⟩ dX11_sameItems_27
  · refine lv_iconst (v := (nI (0))) hx hb dX11_sameItems_7 (by decide) ?_
    exact rl_zret hC hW hr hlk rfl (Nat.le_refl _) (Nat.le_refl _) ⟨_, rfl, rfl, rfl, rfl, Or.inr ⟨by decide, fun q => c1 (by rw [q.1])⟩⟩ dX11_sameItems_8

set_option maxHeartbeats 4000000 in
set_option maxRecDepth 100000 in
theorem cC_alikeRecords (l : Launch) (D : va_G) (t : Nat → ClassId) (A : Nat → Prop) (f : rl_M) (z : Nat) (x : Nat) (T : Nat → Nat → Nat) (ρ κ : Nat) (G : pG) (E : Nat → Nat → Nat) (gx : Nat → Int32) (mo : Int32) (hI : CJ t f x T ρ κ G E gx mo) (hT : rt_ok T) (hG : GW T ρ κ G) (w : Nat) (hw : w < 6) (hAL : ∀ (r1 r2 : Option Nat) (hd1 hd2 : pHd), r1 = ca E hd1 → cok T ρ κ hd1 → r2 = ca E hd2 → cok T ρ κ hd2 → rl_Met l yX11_alike (.code yX11_alike cX11_alike 5 (some FieldType.boolean)) (rl_rm (1 + 2 * (6 - (w + 1))) 0 0) D t A f z [va_rf (r1), va_rf (r2), .int (nI (w + 1))] (rl_qi z fun r f1 => f = f1 ∧ ((r = 1 ∧ pu_lk G (6 - (w + 1)) hd1 hd2) ∨ (r = 0 ∧ ¬ pu_lk G (6 - (w + 1)) hd1 hd2)))) (k1 k2 : Nat) (hk1 : k1 < κ) (hk2 : k2 < κ) : rl_Met l yX11_alikeRecords (.code yX11_alikeRecords cX11_alikeRecords 4 (some FieldType.boolean)) (rl_rm (2 * (6 - w)) 0 0) D t A f z [.ref (E 2 k1), .ref (E 2 k2), .int (nI (w))] (rl_qi z fun r f1 => f = f1 ∧ ((r = 1 ∧ (pu_op G k1 k2 ∧ ∀ p, p < G.1 2 k1 → pu_lk G (6 - (w + 1)) (G.2.2.2 1 (5 * k1 + p)) (G.2.2.2 1 (5 * k2 + p)))) ∨ (r = 0 ∧ ¬ (pu_op G k1 k2 ∧ ∀ p, p < G.1 2 k1 → pu_lk G (6 - (w + 1)) (G.2.2.2 1 (5 * k1 + p)) (G.2.2.2 1 (5 * k2 + p)))))) := by
  refine rl_begin (own := RX11) (lv := [(0, .ref (E 2 k1)), (1, .ref (E 2 k2)), (2, .int (nI (w)))]) (by decide +kernel) rfl (Nat.le_of_ble_eq_true rfl) rfl fun p e s m0 args below meth c ls H locs hC hr hlk hnm hW hl hx hb => ?_
  have hrm : ∃ k, 2 * (6 - w) = k + 1 := ⟨2 * (6 - w) - 1, by omega⟩
  obtain ⟨-, h01, ⟨gn1, h11, hgnv1⟩, ⟨gt1, h21, hgtv1⟩⟩ := hI.rec hk1
  obtain ⟨hj1, hnT1, -⟩ := hG.2.1 k1 hk1
  have hj51 := (hT.2.1 _ hj1).1
  obtain ⟨-, h02, ⟨gn2, h12, hgnv2⟩, ⟨gt2, h22, hgtv2⟩⟩ := hI.rec hk2
  obtain ⟨hj2, hnT2, -⟩ := hG.2.1 k2 hk2
  have hj52 := (hT.2.1 _ hj2).1
  refine lv_aload_n hx hb dX11_alikeRecords_0 rfl (lv_at hl 0 rfl) ?_
  refine rl_get (v := .ref (x + 16 + 3 * G.1 1 k1)) hC hW fl_X11_219 h01 rfl dX11_alikeRecords_1 ?_
  refine lv_aload_n hx hb dX11_alikeRecords_4 rfl (lv_at hl 1 rfl) ?_
  refine rl_get (v := .ref (x + 16 + 3 * G.1 1 k2)) hC hW fl_X11_219 h02 rfl dX11_alikeRecords_5 ?_
  refine lv_acmp_ne (rx := some (x + 16 + 3 * G.1 1 k1)) (ry := some (x + 16 + 3 * G.1 1 k2)) (tgt := 22) hx hb dX11_alikeRecords_8 (by decide) (fun c1 => ?_) (fun c1 => ?_)
  · refine lv_iconst (v := (nI (0))) hx hb dX11_alikeRecords_22 (by decide) ?_
    exact rl_zret hC hW hr hlk rfl (Nat.le_refl _) (Nat.le_refl _) ⟨_, rfl, rfl, rfl, rfl, Or.inr ⟨by decide, fun q => c1 (by rw [q.1.1])⟩⟩ dX11_alikeRecords_23
  · have e1 : G.1 1 k1 = G.1 1 k2 := by have h9 := Option.some.inj c1; omega
    refine lv_aload_n hx hb dX11_alikeRecords_11 rfl (lv_at hl 0 rfl) ?_
    refine rl_calliQ (rl_runV (b := E 2 k1) (As := []) (rest := []) hC hW (cC_Rec_extent l D t A _ z _ _ _ _ _ gn1 h01 h11) cs_X11_120 im_X6_extent sl_X6_extent h01 rfl ⟨by simp only [rl_rm]; omega, by simp only [rl_rm]; omega⟩ rfl hl.1 rfl (Nat.le_of_ble_eq_true rfl) dX11_alikeRecords_12 ⟨(Nat.le_of_ble_eq_true rfl), (Nat.le_of_ble_eq_true rfl)⟩) hW (fun r f1 H locs hp hW => ?_)
    obtain ⟨rfl, rfl⟩ := hp
    refine lv_aload_n hx hb dX11_alikeRecords_15 rfl (lv_at hl 1 rfl) ?_
    refine rl_calliQ (rl_runV (b := E 2 k2) (As := []) (rest := [.int (nI (G.1 2 k1))]) hC hW (cC_Rec_extent l D t A _ z _ _ _ _ _ gn2 h02 h12) cs_X11_120 im_X6_extent sl_X6_extent h02 rfl ⟨by simp only [rl_rm]; omega, by simp only [rl_rm]; omega⟩ rfl hl.1 rfl (Nat.le_of_ble_eq_true rfl) dX11_alikeRecords_16 ⟨(Nat.le_of_ble_eq_true rfl), (Nat.le_of_ble_eq_true rfl)⟩) hW (fun r f1 H locs hp hW => ?_)
    obtain ⟨rfl, rfl⟩ := hp
    refine lv_icmp_eq (tgt := 24) hx hb dX11_alikeRecords_19 (by decide) (fun c2 => ?_) (fun c2 => ?_)
    · have e2 : G.1 2 k1 = G.1 2 k2 := (nI_eq (by omega) (by omega)).mp c2
      refine lv_iconst (v := (nI (0))) hx hb dX11_alikeRecords_24 (by decide) ?_
      refine lv_istore_n (lv' := [(3, .int (nI (0))), (0, .ref (E 2 k1)), (1, .ref (E 2 k2)), (2, .int (nI (w)))]) hx hb dX11_alikeRecords_25 rfl hl (by decide) rfl (fun ls hl => ?_)
      replace hl : lv_has ls 4 [(0, .ref (E 2 k1)), (1, .ref (E 2 k2)), (2, .int (nI (w))), (3, .int (nI (0)))] := lv_sub hl [1, 2, 3, 0] rfl
      replace hl : ∃ i : Nat, (i ≤ G.1 2 k1) ∧ (∀ q, q < i → G.2.2.1 0 (5 * k1 + q) = G.2.2.1 0 (5 * k2 + q)) ∧ lv_has ls 4 [(0, .ref (E 2 k1)), (1, .ref (E 2 k2)), (2, .int (nI (w))), (3, .int (nI (i)))] := ⟨0, Nat.zero_le _, fun _ h => absurd h (Nat.not_lt_zero _), hl⟩
      obtain ⟨i, hi, hpr, hl⟩ := hl
      obtain ⟨n, hn⟩ : ∃ n, G.1 2 k1 - i < n := ⟨_, Nat.lt_succ_self _⟩
      induction n generalizing i H locs ls with
      | zero => exact absurd hn (Nat.not_lt_zero _)
      | succ n ih =>
        refine lv_iload_n hx hb dX11_alikeRecords_26 rfl (lv_at hl 3 rfl) ?_
        refine lv_aload_n hx hb dX11_alikeRecords_27 rfl (lv_at hl 0 rfl) ?_
        refine rl_calliQ (rl_runV (b := E 2 k1) (As := []) (rest := [.int (nI (i))]) hC hW (cC_Rec_extent l D t A _ z _ _ _ _ _ gn1 h01 h11) cs_X11_120 im_X6_extent sl_X6_extent h01 rfl ⟨by simp only [rl_rm]; omega, by simp only [rl_rm]; omega⟩ rfl hl.1 rfl (Nat.le_of_ble_eq_true rfl) dX11_alikeRecords_28 ⟨(Nat.le_of_ble_eq_true rfl), (Nat.le_of_ble_eq_true rfl)⟩) hW (fun r f1 H locs hp hW => ?_)
        obtain ⟨rfl, rfl⟩ := hp
        refine lv_icmp_ge (tgt := 58) hx hb dX11_alikeRecords_31 (by decide) (fun c3 => ?_) (fun c3 => ?_)
        · have hge := rg_le c3 (by omega) (by omega)
          have hop : pu_op G k1 k2 := ⟨e1, e2, fun p hp => hpr p (by omega)⟩
          clear ih hn hi c3 hpr hge
          refine lv_iconst (v := (nI (0))) hx hb dX11_alikeRecords_58 (by decide) ?_
          refine lv_istore_n (lv' := [(3, .int (nI (0))), (0, .ref (E 2 k1)), (1, .ref (E 2 k2)), (2, .int (nI (w)))]) hx hb dX11_alikeRecords_59 rfl hl (by decide) rfl (fun ls hl => ?_)
          replace hl : lv_has ls 4 [(0, .ref (E 2 k1)), (1, .ref (E 2 k2)), (2, .int (nI (w))), (3, .int (nI (0)))] := lv_sub hl [1, 2, 3, 0] rfl
          replace hl : ∃ i : Nat, (i ≤ G.1 2 k1) ∧ (∀ p, p < i → pu_lk G (6 - (w + 1)) (G.2.2.2 1 (5 * k1 + p)) (G.2.2.2 1 (5 * k2 + p))) ∧ lv_has ls 4 [(0, .ref (E 2 k1)), (1, .ref (E 2 k2)), (2, .int (nI (w))), (3, .int (nI (i)))] := ⟨0, Nat.zero_le _, fun _ h => absurd h (Nat.not_lt_zero _), hl⟩
          obtain ⟨i, hi, hpr, hl⟩ := hl
          obtain ⟨n, hn⟩ : ∃ n, G.1 2 k1 - i < n := ⟨_, Nat.lt_succ_self _⟩
          induction n generalizing i H locs ls with
          | zero => exact absurd hn (Nat.not_lt_zero _)
          | succ n ih =>
            refine lv_iload_n hx hb dX11_alikeRecords_60 rfl (lv_at hl 3 rfl) ?_
            refine lv_aload_n hx hb dX11_alikeRecords_61 rfl (lv_at hl 0 rfl) ?_
            refine rl_calliQ (rl_runV (b := E 2 k1) (As := []) (rest := [.int (nI (i))]) hC hW (cC_Rec_extent l D t A _ z _ _ _ _ _ gn1 h01 h11) cs_X11_120 im_X6_extent sl_X6_extent h01 rfl ⟨by simp only [rl_rm]; omega, by simp only [rl_rm]; omega⟩ rfl hl.1 rfl (Nat.le_of_ble_eq_true rfl) dX11_alikeRecords_62 ⟨(Nat.le_of_ble_eq_true rfl), (Nat.le_of_ble_eq_true rfl)⟩) hW (fun r f1 H locs hp hW => ?_)
            obtain ⟨rfl, rfl⟩ := hp
            refine lv_icmp_ge (tgt := 97) hx hb dX11_alikeRecords_65 (by decide) (fun c3 => ?_) (fun c3 => ?_)
            · have hge := rg_le c3 (by omega) (by omega)
              refine lv_iconst (v := (nI (1))) hx hb dX11_alikeRecords_97 (by decide) ?_
              exact rl_zret hC hW hr hlk rfl (Nat.le_refl _) (Nat.le_refl _) ⟨_, rfl, rfl, rfl, rfl, Or.inl ⟨by decide, hop, fun p hp => hpr p (by omega)⟩⟩ dX11_alikeRecords_98
            · have hlt : i < G.1 2 k1 := rg_lt c3 (by omega) (by omega)
              obtain ⟨he1, ho1⟩ := hgtv1 i hlt
              obtain ⟨he2, ho2⟩ := hgtv2 i (by omega)
              refine lv_aload_n hx hb dX11_alikeRecords_68 rfl (lv_at hl 0 rfl) ?_
              refine rl_get (v := .ref (E 2 k1 + 2)) hC hW fl_X11_152 h01 rfl dX11_alikeRecords_69 ?_
              refine lv_iload_n hx hb dX11_alikeRecords_72 rfl (lv_at hl 3 rfl) ?_
              refine rl_aald_n 3 hC hW rfl h21 (by omega) (by omega) dX11_alikeRecords_73 ?_
              obtain ⟨r1, er1⟩ : ∃ r : Option Nat, r = gt1 (i) := ⟨_, rfl⟩
              refine rl_topqq er1.symm ?_
              refine lv_aload_n hx hb dX11_alikeRecords_74 rfl (lv_at hl 1 rfl) ?_
              refine rl_get (v := .ref (E 2 k2 + 2)) hC hW fl_X11_152 h02 rfl dX11_alikeRecords_75 ?_
              refine lv_iload_n hx hb dX11_alikeRecords_78 rfl (lv_at hl 3 rfl) ?_
              refine rl_aald_n 3 hC hW rfl h22 (by omega) (by omega) dX11_alikeRecords_79 ?_
              obtain ⟨r2, er2⟩ : ∃ r : Option Nat, r = gt2 (i) := ⟨_, rfl⟩
              refine rl_topqq er2.symm ?_
              refine lv_iload_n hx hb dX11_alikeRecords_80 rfl (lv_at hl 2 rfl) ?_
              refine lv_iconst (v := (nI (1))) hx hb dX11_alikeRecords_81 (by decide) ?_
              refine lv_iadd hx hb dX11_alikeRecords_82 ?_
              refine rl_topn (nI_add _ _) ?_
              refine rl_calliQ (rl_runS (As := [va_rf (r1), va_rf (r2), .int (nI ((w) + (1)))]) (rest := []) hC hW (hAL r1 r2 _ _ (er1.trans he1) ho1 (er2.trans he2) ho2) cs_X11_155 sm_X11_alike ⟨by simp only [rl_rm]; omega, by simp only [rl_rm]; omega⟩ rfl hl.1 rfl (Nat.le_of_ble_eq_true rfl) dX11_alikeRecords_83 ⟨(Nat.le_of_ble_eq_true rfl), (Nat.le_of_ble_eq_true rfl)⟩) hW (fun r f1 H locs hp hW => ?_)
              obtain ⟨rfl, hp⟩ := hp
              rcases hp with ⟨rfl, hp⟩ | ⟨rfl, hp⟩
              · refine lv_if_ne (tgt := 91) hx hb dX11_alikeRecords_86 (by decide) (fun c4 => ?_) (fun c4 => ?_)
                · refine lv_iinc (v := (nI ((i) + 1))) (lv' := [(3, .int (nI ((i) + 1))), (0, .ref (E 2 k1)), (1, .ref (E 2 k2)), (2, .int (nI (w)))]) hx hb dX11_alikeRecords_91 hl (k := 3) rfl (nI_1 _) (by decide) rfl (fun ls hl => ?_)
                  refine lv_goto (tgt := 60) hx hb dX11_alikeRecords_94 (by decide) ?_
                  replace hl : lv_has ls 4 [(0, .ref (E 2 k1)), (1, .ref (E 2 k2)), (2, .int (nI (w))), (3, .int (nI ((i) + 1)))] := lv_sub hl [1, 2, 3, 0] rfl
                  exact ih H locs hW ls (i + 1) (by omega) (rg_step hpr hp) hl (by omega)
                · exact absurd c4 (by decide)
              · refine lv_if_ne (tgt := 91) hx hb dX11_alikeRecords_86 (by decide) (fun c4 => ?_) (fun c4 => ?_)
                · exact absurd rfl c4
                · refine lv_iconst (v := (nI (0))) hx hb dX11_alikeRecords_89 (by decide) ?_
                  exact rl_zret hC hW hr hlk rfl (Nat.le_refl _) (Nat.le_refl _) ⟨_, rfl, rfl, rfl, rfl, Or.inr ⟨by decide, fun q => hp (q.2 i hlt)⟩⟩ dX11_alikeRecords_90
        · have hlt : i < G.1 2 k1 := rg_lt c3 (by omega) (by omega)
          have v1 := hgnv1 i hlt
          have v2 := hgnv2 i (by omega)
          refine lv_aload_n hx hb dX11_alikeRecords_34 rfl (lv_at hl 0 rfl) ?_
          refine rl_get (v := .ref (E 2 k1 + 1)) hC hW fl_X11_149 h01 rfl dX11_alikeRecords_35 ?_
          refine lv_iload_n hx hb dX11_alikeRecords_38 rfl (lv_at hl 3 rfl) ?_
          refine rl_lald_n hC hW h11 (by omega) (by omega) dX11_alikeRecords_39 ?_
          refine lv_aload_n hx hb dX11_alikeRecords_40 rfl (lv_at hl 1 rfl) ?_
          refine rl_get (v := .ref (E 2 k2 + 1)) hC hW fl_X11_149 h02 rfl dX11_alikeRecords_41 ?_
          refine lv_iload_n hx hb dX11_alikeRecords_44 rfl (lv_at hl 3 rfl) ?_
          refine rl_lald_n hC hW h12 (by omega) (by omega) dX11_alikeRecords_45 ?_
          refine W.lcmp hx hb dX11_alikeRecords_46 ?_
          refine lv_if_eq (tgt := 52) hx hb dX11_alikeRecords_47 (by decide) (fun c4 => ?_) (fun c4 => ?_)
          · refine lv_iinc (v := (nI ((i) + 1))) (lv' := [(3, .int (nI ((i) + 1))), (0, .ref (E 2 k1)), (1, .ref (E 2 k2)), (2, .int (nI (w)))]) hx hb dX11_alikeRecords_52 hl (k := 3) rfl (nI_1 _) (by decide) rfl (fun ls hl => ?_)
            refine lv_goto (tgt := 26) hx hb dX11_alikeRecords_55 (by decide) ?_
            replace hl : lv_has ls 4 [(0, .ref (E 2 k1)), (1, .ref (E 2 k2)), (2, .int (nI (w))), (3, .int (nI ((i) + 1)))] := lv_sub hl [1, 2, 3, 0] rfl
            exact ih H locs hW ls (i + 1) (by omega) (rg_step hpr (v1.symm.trans (((lg_cmp_eq _ _).mp c4).trans v2))) hl (by omega)
          · refine lv_iconst (v := (nI (0))) hx hb dX11_alikeRecords_50 (by decide) ?_
            exact rl_zret hC hW hr hlk rfl (Nat.le_refl _) (Nat.le_refl _) ⟨_, rfl, rfl, rfl, rfl, Or.inr ⟨by decide, fun q => c4 ((lg_cmp_eq _ _).mpr (v1.trans ((q.1.2.2 i hlt).trans v2.symm)))⟩⟩ dX11_alikeRecords_51
    · refine lv_iconst (v := (nI (0))) hx hb dX11_alikeRecords_22 (by decide) ?_
      exact rl_zret hC hW hr hlk rfl (Nat.le_refl _) (Nat.le_refl _) ⟨_, rfl, rfl, rfl, rfl, Or.inr ⟨by decide, fun q => c2 (by rw [q.1.2.1])⟩⟩ dX11_alikeRecords_23

set_option maxHeartbeats 4000000 in
set_option maxRecDepth 100000 in
theorem cC_alike0 (l : Launch) (D : va_G) (t : Nat → ClassId) (A : Nat → Prop) (f : rl_M) (z : Nat) (x : Nat) (T : Nat → Nat → Nat) (ρ κ : Nat) (G : pG) (E : Nat → Nat → Nat) (gx : Nat → Int32) (mo : Int32) (hI : CJ t f x T ρ κ G E gx mo) (hT : rt_ok T) (hG : GW T ρ κ G) (w : Nat) (hw : w ≤ 6) (hAR : w < 6 → ∀ k1 k2 : Nat, k1 < κ → k2 < κ → rl_Met l yX11_alikeRecords (.code yX11_alikeRecords cX11_alikeRecords 4 (some FieldType.boolean)) (rl_rm (2 * (6 - w)) 0 0) D t A f z [.ref (E 2 k1), .ref (E 2 k2), .int (nI (w))] (rl_qi z fun r f1 => f = f1 ∧ ((r = 1 ∧ (pu_op G k1 k2 ∧ ∀ p, p < G.1 2 k1 → pu_lk G (6 - (w + 1)) (G.2.2.2 1 (5 * k1 + p)) (G.2.2.2 1 (5 * k2 + p)))) ∨ (r = 0 ∧ ¬ (pu_op G k1 k2 ∧ ∀ p, p < G.1 2 k1 → pu_lk G (6 - (w + 1)) (G.2.2.2 1 (5 * k1 + p)) (G.2.2.2 1 (5 * k2 + p))))))) (r1 r2 : Option Nat) (hd1 hd2 : pHd) (er1 : r1 = ca E hd1) (hok1 : cok T ρ κ hd1) (er2 : r2 = ca E hd2) (hok2 : cok T ρ κ hd2) : rl_Met l yX11_alike (.code yX11_alike cX11_alike 5 (some FieldType.boolean)) (rl_rm (1 + 2 * (6 - w)) 0 0) D t A f z [va_rf (r1), va_rf (r2), .int (nI (w))] (rl_qi z fun r f1 => f = f1 ∧ ((r = 1 ∧ pu_lk G (6 - w) hd1 hd2) ∨ (r = 0 ∧ ¬ pu_lk G (6 - w) hd1 hd2))) := by
  refine rl_begin (own := RX11) (lv := [(0, va_rf (r1)), (1, va_rf (r2)), (2, .int (nI (w)))]) (by decide +kernel) rfl (by cases r1 <;> cases r2 <;> exact Nat.le_of_ble_eq_true rfl) (by cases r1 <;> cases r2 <;> rfl) fun p e s m0 args below meth c ls H locs hC hr hlk hnm hW hl hx hb => ?_
  refine rl_aloadq_n hx hb dX11_alike_0 rfl (lv_at hl 0 rfl) ?_
  refine rl_aloadq_n hx hb dX11_alike_1 rfl (lv_at hl 1 rfl) ?_
  refine lv_acmp_ne (rx := r1) (ry := r2) (tgt := 7) hx hb dX11_alike_2 (by decide) (fun c1 => ?_) (fun c1 => ?_)
  · have hne : hd1 ≠ hd2 := fun q => c1 (by rw [er1, er2, q])
    rcases hok1.cases with hh1 | ⟨n01, hn01, hh1⟩ | ⟨n01, hn01, hh1⟩ | ⟨n01, hn01, hh1⟩
    · obtain rfl : r1 = none := by rw [er1, hh1]; rfl
      rcases hok2.cases with hh2 | ⟨n02, hn02, hh2⟩ | ⟨n02, hn02, hh2⟩ | ⟨n02, hn02, hh2⟩
      · obtain rfl : r2 = none := by rw [er2, hh2]; rfl
        rw [hh1, hh2] at hne
        have hno : ¬ pu_lk G (6 - w) hd1 hd2 := by rw [hh1, hh2]; exact lk_no hne (fun _ _ e1 e2 => by first | (cases e1; done) | (cases e2; done)) (fun _ _ e1 e2 => by first | (cases e1; done) | (cases e2; done))
        refine lv_aload_nN hx hb dX11_alike_7 rfl (lv_at hl 0 rfl) ?_
        refine lv_instN hx hb dX11_alike_8 ?_
        refine rl_topn (y := nI 0) (by decide) ?_
        refine lv_if_eq (tgt := 45) hx hb dX11_alike_11 (by decide) (fun c_1 => ?_) (fun c_1 => ?_)
        · refine lv_iload_n hx hb dX11_alike_45 rfl (lv_at hl 2 rfl) ?_
          refine lv_bipush (v := (nI (6))) hx hb dX11_alike_46 (by decide) ?_
          refine lv_icmp_ge (tgt := 84) hx hb dX11_alike_48 (by decide) (fun cw => ?_) (fun cw => ?_)
          · refine lv_iconst (v := (nI (0))) hx hb dX11_alike_84 (by decide) ?_
            exact rl_zret hC hW hr hlk rfl (Nat.le_refl _) (Nat.le_refl _) ⟨_, rfl, rfl, rfl, rfl, Or.inr ⟨by decide, hno⟩⟩ dX11_alike_85
          · refine lv_aload_nN hx hb dX11_alike_51 rfl (lv_at hl 0 rfl) ?_
            refine lv_instN hx hb dX11_alike_52 ?_
            refine rl_topn (y := nI 0) (by decide) ?_
            refine lv_if_eq (tgt := 84) hx hb dX11_alike_55 (by decide) (fun c_2 => ?_) (fun c_2 => ?_)
            · refine lv_iconst (v := (nI (0))) hx hb dX11_alike_84 (by decide) ?_
              exact rl_zret hC hW hr hlk rfl (Nat.le_refl _) (Nat.le_refl _) ⟨_, rfl, rfl, rfl, rfl, Or.inr ⟨by decide, hno⟩⟩ dX11_alike_85
            · first | exact absurd c_2 (by decide) | exact absurd (by decide) c_2
        · first | exact absurd c_1 (by decide) | exact absurd (by decide) c_1
      · obtain rfl : r2 = some (E 0 n02) := by rw [er2, hh2]; rfl
        obtain ⟨hx582, h02, h12⟩ := hI.con hn02
        have hlo2 := (hT.2.2.2.2.2.1 n02 hn02.1).1
        rw [hh1, hh2] at hne
        have hno : ¬ pu_lk G (6 - w) hd1 hd2 := by rw [hh1, hh2]; exact lk_no hne (fun _ _ e1 e2 => by first | (cases e1; done) | (cases e2; done)) (fun _ _ e1 e2 => by first | (cases e1; done) | (cases e2; done))
        refine lv_aload_nN hx hb dX11_alike_7 rfl (lv_at hl 0 rfl) ?_
        refine lv_instN hx hb dX11_alike_8 ?_
        refine rl_topn (y := nI 0) (by decide) ?_
        refine lv_if_eq (tgt := 45) hx hb dX11_alike_11 (by decide) (fun c_3 => ?_) (fun c_3 => ?_)
        · refine lv_iload_n hx hb dX11_alike_45 rfl (lv_at hl 2 rfl) ?_
          refine lv_bipush (v := (nI (6))) hx hb dX11_alike_46 (by decide) ?_
          refine lv_icmp_ge (tgt := 84) hx hb dX11_alike_48 (by decide) (fun cw => ?_) (fun cw => ?_)
          · refine lv_iconst (v := (nI (0))) hx hb dX11_alike_84 (by decide) ?_
            exact rl_zret hC hW hr hlk rfl (Nat.le_refl _) (Nat.le_refl _) ⟨_, rfl, rfl, rfl, rfl, Or.inr ⟨by decide, hno⟩⟩ dX11_alike_85
          · refine lv_aload_nN hx hb dX11_alike_51 rfl (lv_at hl 0 rfl) ?_
            refine lv_instN hx hb dX11_alike_52 ?_
            refine rl_topn (y := nI 0) (by decide) ?_
            refine lv_if_eq (tgt := 84) hx hb dX11_alike_55 (by decide) (fun c_4 => ?_) (fun c_4 => ?_)
            · refine lv_iconst (v := (nI (0))) hx hb dX11_alike_84 (by decide) ?_
              exact rl_zret hC hW hr hlk rfl (Nat.le_refl _) (Nat.le_refl _) ⟨_, rfl, rfl, rfl, rfl, Or.inr ⟨by decide, hno⟩⟩ dX11_alike_85
            · first | exact absurd c_4 (by decide) | exact absurd (by decide) c_4
        · first | exact absurd c_3 (by decide) | exact absurd (by decide) c_3
      · obtain rfl : r2 = some (E 1 n02) := by rw [er2, hh2]; rfl
        obtain ⟨hx582, h02, g2, h12, hgi2⟩ := hI.row hn02
        have hn82 := hG.1 n02 hn02
        rw [hh1, hh2] at hne
        have hno : ¬ pu_lk G (6 - w) hd1 hd2 := by rw [hh1, hh2]; exact lk_no hne (fun _ _ e1 e2 => by first | (cases e1; done) | (cases e2; done)) (fun _ _ e1 e2 => by first | (cases e1; done) | (cases e2; done))
        refine lv_aload_nN hx hb dX11_alike_7 rfl (lv_at hl 0 rfl) ?_
        refine lv_instN hx hb dX11_alike_8 ?_
        refine rl_topn (y := nI 0) (by decide) ?_
        refine lv_if_eq (tgt := 45) hx hb dX11_alike_11 (by decide) (fun c_5 => ?_) (fun c_5 => ?_)
        · refine lv_iload_n hx hb dX11_alike_45 rfl (lv_at hl 2 rfl) ?_
          refine lv_bipush (v := (nI (6))) hx hb dX11_alike_46 (by decide) ?_
          refine lv_icmp_ge (tgt := 84) hx hb dX11_alike_48 (by decide) (fun cw => ?_) (fun cw => ?_)
          · refine lv_iconst (v := (nI (0))) hx hb dX11_alike_84 (by decide) ?_
            exact rl_zret hC hW hr hlk rfl (Nat.le_refl _) (Nat.le_refl _) ⟨_, rfl, rfl, rfl, rfl, Or.inr ⟨by decide, hno⟩⟩ dX11_alike_85
          · refine lv_aload_nN hx hb dX11_alike_51 rfl (lv_at hl 0 rfl) ?_
            refine lv_instN hx hb dX11_alike_52 ?_
            refine rl_topn (y := nI 0) (by decide) ?_
            refine lv_if_eq (tgt := 84) hx hb dX11_alike_55 (by decide) (fun c_6 => ?_) (fun c_6 => ?_)
            · refine lv_iconst (v := (nI (0))) hx hb dX11_alike_84 (by decide) ?_
              exact rl_zret hC hW hr hlk rfl (Nat.le_refl _) (Nat.le_refl _) ⟨_, rfl, rfl, rfl, rfl, Or.inr ⟨by decide, hno⟩⟩ dX11_alike_85
            · first | exact absurd c_6 (by decide) | exact absurd (by decide) c_6
        · first | exact absurd c_5 (by decide) | exact absurd (by decide) c_5
      · obtain rfl : r2 = some (E 2 n02) := by rw [er2, hh2]; rfl
        obtain ⟨hx582, h02, ⟨gn2, h12, hgnv2⟩, ⟨gt2, h22, hgtv2⟩⟩ := hI.rec hn02
        obtain ⟨hj2, hnT2, -⟩ := hG.2.1 n02 hn02
        obtain ⟨hrv2, hj52, hj22, hpa2, hka2⟩ := id (hI.2.2.1 _ hj2)
        rw [hh1, hh2] at hne
        have hno : ¬ pu_lk G (6 - w) hd1 hd2 := by rw [hh1, hh2]; exact lk_no hne (fun _ _ e1 e2 => by first | (cases e1; done) | (cases e2; done)) (fun _ _ e1 e2 => by first | (cases e1; done) | (cases e2; done))
        refine lv_aload_nN hx hb dX11_alike_7 rfl (lv_at hl 0 rfl) ?_
        refine lv_instN hx hb dX11_alike_8 ?_
        refine rl_topn (y := nI 0) (by decide) ?_
        refine lv_if_eq (tgt := 45) hx hb dX11_alike_11 (by decide) (fun c_7 => ?_) (fun c_7 => ?_)
        · refine lv_iload_n hx hb dX11_alike_45 rfl (lv_at hl 2 rfl) ?_
          refine lv_bipush (v := (nI (6))) hx hb dX11_alike_46 (by decide) ?_
          refine lv_icmp_ge (tgt := 84) hx hb dX11_alike_48 (by decide) (fun cw => ?_) (fun cw => ?_)
          · refine lv_iconst (v := (nI (0))) hx hb dX11_alike_84 (by decide) ?_
            exact rl_zret hC hW hr hlk rfl (Nat.le_refl _) (Nat.le_refl _) ⟨_, rfl, rfl, rfl, rfl, Or.inr ⟨by decide, hno⟩⟩ dX11_alike_85
          · refine lv_aload_nN hx hb dX11_alike_51 rfl (lv_at hl 0 rfl) ?_
            refine lv_instN hx hb dX11_alike_52 ?_
            refine rl_topn (y := nI 0) (by decide) ?_
            refine lv_if_eq (tgt := 84) hx hb dX11_alike_55 (by decide) (fun c_8 => ?_) (fun c_8 => ?_)
            · refine lv_iconst (v := (nI (0))) hx hb dX11_alike_84 (by decide) ?_
              exact rl_zret hC hW hr hlk rfl (Nat.le_refl _) (Nat.le_refl _) ⟨_, rfl, rfl, rfl, rfl, Or.inr ⟨by decide, hno⟩⟩ dX11_alike_85
            · first | exact absurd c_8 (by decide) | exact absurd (by decide) c_8
        · first | exact absurd c_7 (by decide) | exact absurd (by decide) c_7
    · obtain rfl : r1 = some (E 0 n01) := by rw [er1, hh1]; rfl
      obtain ⟨hx581, h01, h11⟩ := hI.con hn01
      have hlo1 := (hT.2.2.2.2.2.1 n01 hn01.1).1
      rcases hok2.cases with hh2 | ⟨n02, hn02, hh2⟩ | ⟨n02, hn02, hh2⟩ | ⟨n02, hn02, hh2⟩
      · obtain rfl : r2 = none := by rw [er2, hh2]; rfl
        rw [hh1, hh2] at hne
        have hno : ¬ pu_lk G (6 - w) hd1 hd2 := by rw [hh1, hh2]; exact lk_no hne (fun _ _ e1 e2 => by first | (cases e1; done) | (cases e2; done)) (fun _ _ e1 e2 => by first | (cases e1; done) | (cases e2; done))
        refine lv_aload_n hx hb dX11_alike_7 rfl (lv_at hl 0 rfl) ?_
        refine rl_instNo hC hW h01 rfl mw_290 (by decide) dX11_alike_8 ?_
        refine rl_topn (y := nI 0) (by decide) ?_
        refine lv_if_eq (tgt := 45) hx hb dX11_alike_11 (by decide) (fun c_9 => ?_) (fun c_9 => ?_)
        · refine lv_iload_n hx hb dX11_alike_45 rfl (lv_at hl 2 rfl) ?_
          refine lv_bipush (v := (nI (6))) hx hb dX11_alike_46 (by decide) ?_
          refine lv_icmp_ge (tgt := 84) hx hb dX11_alike_48 (by decide) (fun cw => ?_) (fun cw => ?_)
          · refine lv_iconst (v := (nI (0))) hx hb dX11_alike_84 (by decide) ?_
            exact rl_zret hC hW hr hlk rfl (Nat.le_refl _) (Nat.le_refl _) ⟨_, rfl, rfl, rfl, rfl, Or.inr ⟨by decide, hno⟩⟩ dX11_alike_85
          · refine lv_aload_n hx hb dX11_alike_51 rfl (lv_at hl 0 rfl) ?_
            refine rl_instNo hC hW h01 rfl mw_338 (by decide) dX11_alike_52 ?_
            refine rl_topn (y := nI 0) (by decide) ?_
            refine lv_if_eq (tgt := 84) hx hb dX11_alike_55 (by decide) (fun c_10 => ?_) (fun c_10 => ?_)
            · refine lv_iconst (v := (nI (0))) hx hb dX11_alike_84 (by decide) ?_
              exact rl_zret hC hW hr hlk rfl (Nat.le_refl _) (Nat.le_refl _) ⟨_, rfl, rfl, rfl, rfl, Or.inr ⟨by decide, hno⟩⟩ dX11_alike_85
            · first | exact absurd c_10 (by decide) | exact absurd (by decide) c_10
        · first | exact absurd c_9 (by decide) | exact absurd (by decide) c_9
      · obtain rfl : r2 = some (E 0 n02) := by rw [er2, hh2]; rfl
        obtain ⟨hx582, h02, h12⟩ := hI.con hn02
        have hlo2 := (hT.2.2.2.2.2.1 n02 hn02.1).1
        rw [hh1, hh2] at hne
        have hno : ¬ pu_lk G (6 - w) hd1 hd2 := by rw [hh1, hh2]; exact lk_no hne (fun _ _ e1 e2 => by first | (cases e1; done) | (cases e2; done)) (fun _ _ e1 e2 => by first | (cases e1; done) | (cases e2; done))
        refine lv_aload_n hx hb dX11_alike_7 rfl (lv_at hl 0 rfl) ?_
        refine rl_instNo hC hW h01 rfl mw_290 (by decide) dX11_alike_8 ?_
        refine rl_topn (y := nI 0) (by decide) ?_
        refine lv_if_eq (tgt := 45) hx hb dX11_alike_11 (by decide) (fun c_11 => ?_) (fun c_11 => ?_)
        · refine lv_iload_n hx hb dX11_alike_45 rfl (lv_at hl 2 rfl) ?_
          refine lv_bipush (v := (nI (6))) hx hb dX11_alike_46 (by decide) ?_
          refine lv_icmp_ge (tgt := 84) hx hb dX11_alike_48 (by decide) (fun cw => ?_) (fun cw => ?_)
          · refine lv_iconst (v := (nI (0))) hx hb dX11_alike_84 (by decide) ?_
            exact rl_zret hC hW hr hlk rfl (Nat.le_refl _) (Nat.le_refl _) ⟨_, rfl, rfl, rfl, rfl, Or.inr ⟨by decide, hno⟩⟩ dX11_alike_85
          · refine lv_aload_n hx hb dX11_alike_51 rfl (lv_at hl 0 rfl) ?_
            refine rl_instNo hC hW h01 rfl mw_338 (by decide) dX11_alike_52 ?_
            refine rl_topn (y := nI 0) (by decide) ?_
            refine lv_if_eq (tgt := 84) hx hb dX11_alike_55 (by decide) (fun c_12 => ?_) (fun c_12 => ?_)
            · refine lv_iconst (v := (nI (0))) hx hb dX11_alike_84 (by decide) ?_
              exact rl_zret hC hW hr hlk rfl (Nat.le_refl _) (Nat.le_refl _) ⟨_, rfl, rfl, rfl, rfl, Or.inr ⟨by decide, hno⟩⟩ dX11_alike_85
            · first | exact absurd c_12 (by decide) | exact absurd (by decide) c_12
        · first | exact absurd c_11 (by decide) | exact absurd (by decide) c_11
      · obtain rfl : r2 = some (E 1 n02) := by rw [er2, hh2]; rfl
        obtain ⟨hx582, h02, g2, h12, hgi2⟩ := hI.row hn02
        have hn82 := hG.1 n02 hn02
        rw [hh1, hh2] at hne
        have hno : ¬ pu_lk G (6 - w) hd1 hd2 := by rw [hh1, hh2]; exact lk_no hne (fun _ _ e1 e2 => by first | (cases e1; done) | (cases e2; done)) (fun _ _ e1 e2 => by first | (cases e1; done) | (cases e2; done))
        refine lv_aload_n hx hb dX11_alike_7 rfl (lv_at hl 0 rfl) ?_
        refine rl_instNo hC hW h01 rfl mw_290 (by decide) dX11_alike_8 ?_
        refine rl_topn (y := nI 0) (by decide) ?_
        refine lv_if_eq (tgt := 45) hx hb dX11_alike_11 (by decide) (fun c_13 => ?_) (fun c_13 => ?_)
        · refine lv_iload_n hx hb dX11_alike_45 rfl (lv_at hl 2 rfl) ?_
          refine lv_bipush (v := (nI (6))) hx hb dX11_alike_46 (by decide) ?_
          refine lv_icmp_ge (tgt := 84) hx hb dX11_alike_48 (by decide) (fun cw => ?_) (fun cw => ?_)
          · refine lv_iconst (v := (nI (0))) hx hb dX11_alike_84 (by decide) ?_
            exact rl_zret hC hW hr hlk rfl (Nat.le_refl _) (Nat.le_refl _) ⟨_, rfl, rfl, rfl, rfl, Or.inr ⟨by decide, hno⟩⟩ dX11_alike_85
          · refine lv_aload_n hx hb dX11_alike_51 rfl (lv_at hl 0 rfl) ?_
            refine rl_instNo hC hW h01 rfl mw_338 (by decide) dX11_alike_52 ?_
            refine rl_topn (y := nI 0) (by decide) ?_
            refine lv_if_eq (tgt := 84) hx hb dX11_alike_55 (by decide) (fun c_14 => ?_) (fun c_14 => ?_)
            · refine lv_iconst (v := (nI (0))) hx hb dX11_alike_84 (by decide) ?_
              exact rl_zret hC hW hr hlk rfl (Nat.le_refl _) (Nat.le_refl _) ⟨_, rfl, rfl, rfl, rfl, Or.inr ⟨by decide, hno⟩⟩ dX11_alike_85
            · first | exact absurd c_14 (by decide) | exact absurd (by decide) c_14
        · first | exact absurd c_13 (by decide) | exact absurd (by decide) c_13
      · obtain rfl : r2 = some (E 2 n02) := by rw [er2, hh2]; rfl
        obtain ⟨hx582, h02, ⟨gn2, h12, hgnv2⟩, ⟨gt2, h22, hgtv2⟩⟩ := hI.rec hn02
        obtain ⟨hj2, hnT2, -⟩ := hG.2.1 n02 hn02
        obtain ⟨hrv2, hj52, hj22, hpa2, hka2⟩ := id (hI.2.2.1 _ hj2)
        rw [hh1, hh2] at hne
        have hno : ¬ pu_lk G (6 - w) hd1 hd2 := by rw [hh1, hh2]; exact lk_no hne (fun _ _ e1 e2 => by first | (cases e1; done) | (cases e2; done)) (fun _ _ e1 e2 => by first | (cases e1; done) | (cases e2; done))
        refine lv_aload_n hx hb dX11_alike_7 rfl (lv_at hl 0 rfl) ?_
        refine rl_instNo hC hW h01 rfl mw_290 (by decide) dX11_alike_8 ?_
        refine rl_topn (y := nI 0) (by decide) ?_
        refine lv_if_eq (tgt := 45) hx hb dX11_alike_11 (by decide) (fun c_15 => ?_) (fun c_15 => ?_)
        · refine lv_iload_n hx hb dX11_alike_45 rfl (lv_at hl 2 rfl) ?_
          refine lv_bipush (v := (nI (6))) hx hb dX11_alike_46 (by decide) ?_
          refine lv_icmp_ge (tgt := 84) hx hb dX11_alike_48 (by decide) (fun cw => ?_) (fun cw => ?_)
          · refine lv_iconst (v := (nI (0))) hx hb dX11_alike_84 (by decide) ?_
            exact rl_zret hC hW hr hlk rfl (Nat.le_refl _) (Nat.le_refl _) ⟨_, rfl, rfl, rfl, rfl, Or.inr ⟨by decide, hno⟩⟩ dX11_alike_85
          · refine lv_aload_n hx hb dX11_alike_51 rfl (lv_at hl 0 rfl) ?_
            refine rl_instNo hC hW h01 rfl mw_338 (by decide) dX11_alike_52 ?_
            refine rl_topn (y := nI 0) (by decide) ?_
            refine lv_if_eq (tgt := 84) hx hb dX11_alike_55 (by decide) (fun c_16 => ?_) (fun c_16 => ?_)
            · refine lv_iconst (v := (nI (0))) hx hb dX11_alike_84 (by decide) ?_
              exact rl_zret hC hW hr hlk rfl (Nat.le_refl _) (Nat.le_refl _) ⟨_, rfl, rfl, rfl, rfl, Or.inr ⟨by decide, hno⟩⟩ dX11_alike_85
            · first | exact absurd c_16 (by decide) | exact absurd (by decide) c_16
        · first | exact absurd c_15 (by decide) | exact absurd (by decide) c_15
    · obtain rfl : r1 = some (E 1 n01) := by rw [er1, hh1]; rfl
      obtain ⟨hx581, h01, g1, h11, hgi1⟩ := hI.row hn01
      have hn81 := hG.1 n01 hn01
      rcases hok2.cases with hh2 | ⟨n02, hn02, hh2⟩ | ⟨n02, hn02, hh2⟩ | ⟨n02, hn02, hh2⟩
      · obtain rfl : r2 = none := by rw [er2, hh2]; rfl
        rw [hh1, hh2] at hne
        have hno : ¬ pu_lk G (6 - w) hd1 hd2 := by rw [hh1, hh2]; exact lk_no hne (fun _ _ e1 e2 => by first | (cases e1; done) | (cases e2; done)) (fun _ _ e1 e2 => by first | (cases e1; done) | (cases e2; done))
        refine lv_aload_n hx hb dX11_alike_7 rfl (lv_at hl 0 rfl) ?_
        refine rl_instY hC hW h01 rfl mw_290 mt_996 dX11_alike_8 ?_
        refine rl_topn (y := nI 1) (by decide) ?_
        refine lv_if_eq (tgt := 45) hx hb dX11_alike_11 (by decide) (fun c_17 => ?_) (fun c_17 => ?_)
        · first | exact absurd c_17 (by decide) | exact absurd (by decide) c_17
        · refine lv_aload_n hx hb dX11_alike_14 rfl (lv_at hl 0 rfl) ?_
          refine rl_castY hC hW h01 rfl mw_290 mt_996 dX11_alike_15 ?_
          refine lv_astore_n (lv' := [(3, .ref (E 1 n01)), (0, .ref (E 1 n01)), (1, .null), (2, .int (nI (w)))]) hx hb dX11_alike_18 rfl hl (by decide) rfl (fun ls hl => ?_)
          refine lv_aload_nN hx hb dX11_alike_19 rfl (lv_at hl 2 rfl) ?_
          refine lv_instN hx hb dX11_alike_20 ?_
          refine rl_topn (y := nI 0) (by decide) ?_
          refine lv_if_eq (tgt := 45) hx hb dX11_alike_23 (by decide) (fun c_18 => ?_) (fun c_18 => ?_)
          · refine lv_iload_n hx hb dX11_alike_45 rfl (lv_at hl 3 rfl) ?_
            refine lv_bipush (v := (nI (6))) hx hb dX11_alike_46 (by decide) ?_
            refine lv_icmp_ge (tgt := 84) hx hb dX11_alike_48 (by decide) (fun cw => ?_) (fun cw => ?_)
            · refine lv_iconst (v := (nI (0))) hx hb dX11_alike_84 (by decide) ?_
              exact rl_zret hC hW hr hlk rfl (Nat.le_refl _) (Nat.le_refl _) ⟨_, rfl, rfl, rfl, rfl, Or.inr ⟨by decide, hno⟩⟩ dX11_alike_85
            · refine lv_aload_n hx hb dX11_alike_51 rfl (lv_at hl 1 rfl) ?_
              refine rl_instNo hC hW h01 rfl mw_338 (by decide) dX11_alike_52 ?_
              refine rl_topn (y := nI 0) (by decide) ?_
              refine lv_if_eq (tgt := 84) hx hb dX11_alike_55 (by decide) (fun c_19 => ?_) (fun c_19 => ?_)
              · refine lv_iconst (v := (nI (0))) hx hb dX11_alike_84 (by decide) ?_
                exact rl_zret hC hW hr hlk rfl (Nat.le_refl _) (Nat.le_refl _) ⟨_, rfl, rfl, rfl, rfl, Or.inr ⟨by decide, hno⟩⟩ dX11_alike_85
              · first | exact absurd c_19 (by decide) | exact absurd (by decide) c_19
          · first | exact absurd c_18 (by decide) | exact absurd (by decide) c_18
      · obtain rfl : r2 = some (E 0 n02) := by rw [er2, hh2]; rfl
        obtain ⟨hx582, h02, h12⟩ := hI.con hn02
        have hlo2 := (hT.2.2.2.2.2.1 n02 hn02.1).1
        rw [hh1, hh2] at hne
        have hno : ¬ pu_lk G (6 - w) hd1 hd2 := by rw [hh1, hh2]; exact lk_no hne (fun _ _ e1 e2 => by first | (cases e1; done) | (cases e2; done)) (fun _ _ e1 e2 => by first | (cases e1; done) | (cases e2; done))
        refine lv_aload_n hx hb dX11_alike_7 rfl (lv_at hl 0 rfl) ?_
        refine rl_instY hC hW h01 rfl mw_290 mt_996 dX11_alike_8 ?_
        refine rl_topn (y := nI 1) (by decide) ?_
        refine lv_if_eq (tgt := 45) hx hb dX11_alike_11 (by decide) (fun c_20 => ?_) (fun c_20 => ?_)
        · first | exact absurd c_20 (by decide) | exact absurd (by decide) c_20
        · refine lv_aload_n hx hb dX11_alike_14 rfl (lv_at hl 0 rfl) ?_
          refine rl_castY hC hW h01 rfl mw_290 mt_996 dX11_alike_15 ?_
          refine lv_astore_n (lv' := [(3, .ref (E 1 n01)), (0, .ref (E 1 n01)), (1, .ref (E 0 n02)), (2, .int (nI (w)))]) hx hb dX11_alike_18 rfl hl (by decide) rfl (fun ls hl => ?_)
          refine lv_aload_n hx hb dX11_alike_19 rfl (lv_at hl 2 rfl) ?_
          refine rl_instNo hC hW h02 rfl mw_290 (by decide) dX11_alike_20 ?_
          refine rl_topn (y := nI 0) (by decide) ?_
          refine lv_if_eq (tgt := 45) hx hb dX11_alike_23 (by decide) (fun c_21 => ?_) (fun c_21 => ?_)
          · refine lv_iload_n hx hb dX11_alike_45 rfl (lv_at hl 3 rfl) ?_
            refine lv_bipush (v := (nI (6))) hx hb dX11_alike_46 (by decide) ?_
            refine lv_icmp_ge (tgt := 84) hx hb dX11_alike_48 (by decide) (fun cw => ?_) (fun cw => ?_)
            · refine lv_iconst (v := (nI (0))) hx hb dX11_alike_84 (by decide) ?_
              exact rl_zret hC hW hr hlk rfl (Nat.le_refl _) (Nat.le_refl _) ⟨_, rfl, rfl, rfl, rfl, Or.inr ⟨by decide, hno⟩⟩ dX11_alike_85
            · refine lv_aload_n hx hb dX11_alike_51 rfl (lv_at hl 1 rfl) ?_
              refine rl_instNo hC hW h01 rfl mw_338 (by decide) dX11_alike_52 ?_
              refine rl_topn (y := nI 0) (by decide) ?_
              refine lv_if_eq (tgt := 84) hx hb dX11_alike_55 (by decide) (fun c_22 => ?_) (fun c_22 => ?_)
              · refine lv_iconst (v := (nI (0))) hx hb dX11_alike_84 (by decide) ?_
                exact rl_zret hC hW hr hlk rfl (Nat.le_refl _) (Nat.le_refl _) ⟨_, rfl, rfl, rfl, rfl, Or.inr ⟨by decide, hno⟩⟩ dX11_alike_85
              · first | exact absurd c_22 (by decide) | exact absurd (by decide) c_22
          · first | exact absurd c_21 (by decide) | exact absurd (by decide) c_21
      · obtain rfl : r2 = some (E 1 n02) := by rw [er2, hh2]; rfl
        obtain ⟨hx582, h02, g2, h12, hgi2⟩ := hI.row hn02
        have hn82 := hG.1 n02 hn02
        rw [hh1, hh2] at hne
        have hlr : pu_lk G (6 - w) hd1 hd2 ↔ pu_rl G n01 n02 := by rw [hh1, hh2]; exact lk_row hne
        refine lv_aload_n hx hb dX11_alike_7 rfl (lv_at hl 0 rfl) ?_
        refine rl_instY hC hW h01 rfl mw_290 mt_996 dX11_alike_8 ?_
        refine rl_topn (y := nI 1) (by decide) ?_
        refine lv_if_eq (tgt := 45) hx hb dX11_alike_11 (by decide) (fun c_23 => ?_) (fun c_23 => ?_)
        · first | exact absurd c_23 (by decide) | exact absurd (by decide) c_23
        · refine lv_aload_n hx hb dX11_alike_14 rfl (lv_at hl 0 rfl) ?_
          refine rl_castY hC hW h01 rfl mw_290 mt_996 dX11_alike_15 ?_
          refine lv_astore_n (lv' := [(3, .ref (E 1 n01)), (0, .ref (E 1 n01)), (1, .ref (E 1 n02)), (2, .int (nI (w)))]) hx hb dX11_alike_18 rfl hl (by decide) rfl (fun ls hl => ?_)
          refine lv_aload_n hx hb dX11_alike_19 rfl (lv_at hl 2 rfl) ?_
          refine rl_instY hC hW h02 rfl mw_290 mt_996 dX11_alike_20 ?_
          refine rl_topn (y := nI 1) (by decide) ?_
          refine lv_if_eq (tgt := 45) hx hb dX11_alike_23 (by decide) (fun c_24 => ?_) (fun c_24 => ?_)
          · first | exact absurd c_24 (by decide) | exact absurd (by decide) c_24
          · refine lv_aload_n hx hb dX11_alike_26 rfl (lv_at hl 2 rfl) ?_
            refine rl_castY hC hW h02 rfl mw_290 mt_996 dX11_alike_27 ?_
            refine lv_astore (lv' := [(4, .ref (E 1 n02)), (3, .ref (E 1 n01)), (0, .ref (E 1 n01)), (1, .ref (E 1 n02)), (2, .int (nI (w)))]) hx hb dX11_alike_30 hl (by decide) rfl (fun ls hl => ?_)
            refine lv_aload_n hx hb dX11_alike_32 rfl (lv_at hl 1 rfl) ?_
            refine rl_get (v := .ref (E 1 n01 + 1)) hC hW fl_X11_108 h01 rfl dX11_alike_33 ?_
            refine lv_aload hx hb dX11_alike_36 (lv_at hl 0 rfl) ?_
            refine rl_get (v := .ref (E 1 n02 + 1)) hC hW fl_X11_108 h02 rfl dX11_alike_38 ?_
            refine rl_calliQ (rl_runS (As := [.ref (E 1 n01 + 1), .ref (E 1 n02 + 1)]) (rest := []) hC hW (cC_sameItems l D t A _ z _ _ _ _ _ _ hn81 hn82 h11 h12) cs_X11_211 sm_X11_sameItems ⟨by simp only [rl_rm]; omega, by simp only [rl_rm]; omega⟩ rfl hl.1 rfl (Nat.le_of_ble_eq_true rfl) dX11_alike_41 ⟨(Nat.le_of_ble_eq_true rfl), (Nat.le_of_ble_eq_true rfl)⟩) hW (fun r f1 H locs hp hW => ?_)
            obtain ⟨rfl, hp⟩ := hp
            have hri : (G.1 0 n01 = G.1 0 n02 ∧ ∀ q, q < G.1 0 n01 → g1 q = g2 q) ↔ pu_rl G n01 n02 := ⟨fun h => ⟨h.1, fun q hq => by rw [← hgi1 q hq, ← hgi2 q (by rw [← h.1]; exact hq)]; exact h.2 q hq⟩, fun h => ⟨h.1, fun q hq => by rw [hgi1 q hq, hgi2 q (by rw [← h.1]; exact hq)]; exact h.2 q hq⟩⟩
            rcases hp with ⟨rfl, hp⟩ | ⟨rfl, hp⟩
            · exact rl_zret hC hW hr hlk rfl (Nat.le_refl _) (Nat.le_refl _) ⟨_, rfl, rfl, rfl, rfl, Or.inl ⟨by decide, hlr.mpr (hri.mp hp)⟩⟩ dX11_alike_44
            · exact rl_zret hC hW hr hlk rfl (Nat.le_refl _) (Nat.le_refl _) ⟨_, rfl, rfl, rfl, rfl, Or.inr ⟨by decide, fun q => hp (hri.mpr (hlr.mp q))⟩⟩ dX11_alike_44
      · obtain rfl : r2 = some (E 2 n02) := by rw [er2, hh2]; rfl
        obtain ⟨hx582, h02, ⟨gn2, h12, hgnv2⟩, ⟨gt2, h22, hgtv2⟩⟩ := hI.rec hn02
        obtain ⟨hj2, hnT2, -⟩ := hG.2.1 n02 hn02
        obtain ⟨hrv2, hj52, hj22, hpa2, hka2⟩ := id (hI.2.2.1 _ hj2)
        rw [hh1, hh2] at hne
        have hno : ¬ pu_lk G (6 - w) hd1 hd2 := by rw [hh1, hh2]; exact lk_no hne (fun _ _ e1 e2 => by first | (cases e1; done) | (cases e2; done)) (fun _ _ e1 e2 => by first | (cases e1; done) | (cases e2; done))
        refine lv_aload_n hx hb dX11_alike_7 rfl (lv_at hl 0 rfl) ?_
        refine rl_instY hC hW h01 rfl mw_290 mt_996 dX11_alike_8 ?_
        refine rl_topn (y := nI 1) (by decide) ?_
        refine lv_if_eq (tgt := 45) hx hb dX11_alike_11 (by decide) (fun c_25 => ?_) (fun c_25 => ?_)
        · first | exact absurd c_25 (by decide) | exact absurd (by decide) c_25
        · refine lv_aload_n hx hb dX11_alike_14 rfl (lv_at hl 0 rfl) ?_
          refine rl_castY hC hW h01 rfl mw_290 mt_996 dX11_alike_15 ?_
          refine lv_astore_n (lv' := [(3, .ref (E 1 n01)), (0, .ref (E 1 n01)), (1, .ref (E 2 n02)), (2, .int (nI (w)))]) hx hb dX11_alike_18 rfl hl (by decide) rfl (fun ls hl => ?_)
          refine lv_aload_n hx hb dX11_alike_19 rfl (lv_at hl 2 rfl) ?_
          refine rl_instNo hC hW h02 rfl mw_290 (by decide) dX11_alike_20 ?_
          refine rl_topn (y := nI 0) (by decide) ?_
          refine lv_if_eq (tgt := 45) hx hb dX11_alike_23 (by decide) (fun c_26 => ?_) (fun c_26 => ?_)
          · refine lv_iload_n hx hb dX11_alike_45 rfl (lv_at hl 3 rfl) ?_
            refine lv_bipush (v := (nI (6))) hx hb dX11_alike_46 (by decide) ?_
            refine lv_icmp_ge (tgt := 84) hx hb dX11_alike_48 (by decide) (fun cw => ?_) (fun cw => ?_)
            · refine lv_iconst (v := (nI (0))) hx hb dX11_alike_84 (by decide) ?_
              exact rl_zret hC hW hr hlk rfl (Nat.le_refl _) (Nat.le_refl _) ⟨_, rfl, rfl, rfl, rfl, Or.inr ⟨by decide, hno⟩⟩ dX11_alike_85
            · refine lv_aload_n hx hb dX11_alike_51 rfl (lv_at hl 1 rfl) ?_
              refine rl_instNo hC hW h01 rfl mw_338 (by decide) dX11_alike_52 ?_
              refine rl_topn (y := nI 0) (by decide) ?_
              refine lv_if_eq (tgt := 84) hx hb dX11_alike_55 (by decide) (fun c_27 => ?_) (fun c_27 => ?_)
              · refine lv_iconst (v := (nI (0))) hx hb dX11_alike_84 (by decide) ?_
                exact rl_zret hC hW hr hlk rfl (Nat.le_refl _) (Nat.le_refl _) ⟨_, rfl, rfl, rfl, rfl, Or.inr ⟨by decide, hno⟩⟩ dX11_alike_85
              · first | exact absurd c_27 (by decide) | exact absurd (by decide) c_27
          · first | exact absurd c_26 (by decide) | exact absurd (by decide) c_26
    · obtain rfl : r1 = some (E 2 n01) := by rw [er1, hh1]; rfl
      obtain ⟨hx581, h01, ⟨gn1, h11, hgnv1⟩, ⟨gt1, h21, hgtv1⟩⟩ := hI.rec hn01
      obtain ⟨hj1, hnT1, -⟩ := hG.2.1 n01 hn01
      obtain ⟨hrv1, hj51, hj21, hpa1, hka1⟩ := id (hI.2.2.1 _ hj1)
      rcases hok2.cases with hh2 | ⟨n02, hn02, hh2⟩ | ⟨n02, hn02, hh2⟩ | ⟨n02, hn02, hh2⟩
      · obtain rfl : r2 = none := by rw [er2, hh2]; rfl
        rw [hh1, hh2] at hne
        have hno : ¬ pu_lk G (6 - w) hd1 hd2 := by rw [hh1, hh2]; exact lk_no hne (fun _ _ e1 e2 => by first | (cases e1; done) | (cases e2; done)) (fun _ _ e1 e2 => by first | (cases e1; done) | (cases e2; done))
        refine lv_aload_n hx hb dX11_alike_7 rfl (lv_at hl 0 rfl) ?_
        refine rl_instNo hC hW h01 rfl mw_290 (by decide) dX11_alike_8 ?_
        refine rl_topn (y := nI 0) (by decide) ?_
        refine lv_if_eq (tgt := 45) hx hb dX11_alike_11 (by decide) (fun c_28 => ?_) (fun c_28 => ?_)
        · refine lv_iload_n hx hb dX11_alike_45 rfl (lv_at hl 2 rfl) ?_
          refine lv_bipush (v := (nI (6))) hx hb dX11_alike_46 (by decide) ?_
          refine lv_icmp_ge (tgt := 84) hx hb dX11_alike_48 (by decide) (fun cw => ?_) (fun cw => ?_)
          · refine lv_iconst (v := (nI (0))) hx hb dX11_alike_84 (by decide) ?_
            exact rl_zret hC hW hr hlk rfl (Nat.le_refl _) (Nat.le_refl _) ⟨_, rfl, rfl, rfl, rfl, Or.inr ⟨by decide, hno⟩⟩ dX11_alike_85
          · refine lv_aload_n hx hb dX11_alike_51 rfl (lv_at hl 0 rfl) ?_
            refine rl_instY hC hW h01 rfl mw_338 mt_998 dX11_alike_52 ?_
            refine rl_topn (y := nI 1) (by decide) ?_
            refine lv_if_eq (tgt := 84) hx hb dX11_alike_55 (by decide) (fun c_29 => ?_) (fun c_29 => ?_)
            · first | exact absurd c_29 (by decide) | exact absurd (by decide) c_29
            · refine lv_aload_n hx hb dX11_alike_58 rfl (lv_at hl 0 rfl) ?_
              refine rl_castY hC hW h01 rfl mw_338 mt_998 dX11_alike_59 ?_
              refine lv_astore_n (lv' := [(3, .ref (E 2 n01)), (0, .ref (E 2 n01)), (1, .null), (2, .int (nI (w)))]) hx hb dX11_alike_62 rfl hl (by decide) rfl (fun ls hl => ?_)
              refine lv_aload_nN hx hb dX11_alike_63 rfl (lv_at hl 2 rfl) ?_
              refine lv_instN hx hb dX11_alike_64 ?_
              refine rl_topn (y := nI 0) (by decide) ?_
              refine lv_if_eq (tgt := 84) hx hb dX11_alike_67 (by decide) (fun c_30 => ?_) (fun c_30 => ?_)
              · refine lv_iconst (v := (nI (0))) hx hb dX11_alike_84 (by decide) ?_
                exact rl_zret hC hW hr hlk rfl (Nat.le_refl _) (Nat.le_refl _) ⟨_, rfl, rfl, rfl, rfl, Or.inr ⟨by decide, hno⟩⟩ dX11_alike_85
              · first | exact absurd c_30 (by decide) | exact absurd (by decide) c_30
        · first | exact absurd c_28 (by decide) | exact absurd (by decide) c_28
      · obtain rfl : r2 = some (E 0 n02) := by rw [er2, hh2]; rfl
        obtain ⟨hx582, h02, h12⟩ := hI.con hn02
        have hlo2 := (hT.2.2.2.2.2.1 n02 hn02.1).1
        rw [hh1, hh2] at hne
        have hno : ¬ pu_lk G (6 - w) hd1 hd2 := by rw [hh1, hh2]; exact lk_no hne (fun _ _ e1 e2 => by first | (cases e1; done) | (cases e2; done)) (fun _ _ e1 e2 => by first | (cases e1; done) | (cases e2; done))
        refine lv_aload_n hx hb dX11_alike_7 rfl (lv_at hl 0 rfl) ?_
        refine rl_instNo hC hW h01 rfl mw_290 (by decide) dX11_alike_8 ?_
        refine rl_topn (y := nI 0) (by decide) ?_
        refine lv_if_eq (tgt := 45) hx hb dX11_alike_11 (by decide) (fun c_31 => ?_) (fun c_31 => ?_)
        · refine lv_iload_n hx hb dX11_alike_45 rfl (lv_at hl 2 rfl) ?_
          refine lv_bipush (v := (nI (6))) hx hb dX11_alike_46 (by decide) ?_
          refine lv_icmp_ge (tgt := 84) hx hb dX11_alike_48 (by decide) (fun cw => ?_) (fun cw => ?_)
          · refine lv_iconst (v := (nI (0))) hx hb dX11_alike_84 (by decide) ?_
            exact rl_zret hC hW hr hlk rfl (Nat.le_refl _) (Nat.le_refl _) ⟨_, rfl, rfl, rfl, rfl, Or.inr ⟨by decide, hno⟩⟩ dX11_alike_85
          · refine lv_aload_n hx hb dX11_alike_51 rfl (lv_at hl 0 rfl) ?_
            refine rl_instY hC hW h01 rfl mw_338 mt_998 dX11_alike_52 ?_
            refine rl_topn (y := nI 1) (by decide) ?_
            refine lv_if_eq (tgt := 84) hx hb dX11_alike_55 (by decide) (fun c_32 => ?_) (fun c_32 => ?_)
            · first | exact absurd c_32 (by decide) | exact absurd (by decide) c_32
            · refine lv_aload_n hx hb dX11_alike_58 rfl (lv_at hl 0 rfl) ?_
              refine rl_castY hC hW h01 rfl mw_338 mt_998 dX11_alike_59 ?_
              refine lv_astore_n (lv' := [(3, .ref (E 2 n01)), (0, .ref (E 2 n01)), (1, .ref (E 0 n02)), (2, .int (nI (w)))]) hx hb dX11_alike_62 rfl hl (by decide) rfl (fun ls hl => ?_)
              refine lv_aload_n hx hb dX11_alike_63 rfl (lv_at hl 2 rfl) ?_
              refine rl_instNo hC hW h02 rfl mw_338 (by decide) dX11_alike_64 ?_
              refine rl_topn (y := nI 0) (by decide) ?_
              refine lv_if_eq (tgt := 84) hx hb dX11_alike_67 (by decide) (fun c_33 => ?_) (fun c_33 => ?_)
              · refine lv_iconst (v := (nI (0))) hx hb dX11_alike_84 (by decide) ?_
                exact rl_zret hC hW hr hlk rfl (Nat.le_refl _) (Nat.le_refl _) ⟨_, rfl, rfl, rfl, rfl, Or.inr ⟨by decide, hno⟩⟩ dX11_alike_85
              · first | exact absurd c_33 (by decide) | exact absurd (by decide) c_33
        · first | exact absurd c_31 (by decide) | exact absurd (by decide) c_31
      · obtain rfl : r2 = some (E 1 n02) := by rw [er2, hh2]; rfl
        obtain ⟨hx582, h02, g2, h12, hgi2⟩ := hI.row hn02
        have hn82 := hG.1 n02 hn02
        rw [hh1, hh2] at hne
        have hno : ¬ pu_lk G (6 - w) hd1 hd2 := by rw [hh1, hh2]; exact lk_no hne (fun _ _ e1 e2 => by first | (cases e1; done) | (cases e2; done)) (fun _ _ e1 e2 => by first | (cases e1; done) | (cases e2; done))
        refine lv_aload_n hx hb dX11_alike_7 rfl (lv_at hl 0 rfl) ?_
        refine rl_instNo hC hW h01 rfl mw_290 (by decide) dX11_alike_8 ?_
        refine rl_topn (y := nI 0) (by decide) ?_
        refine lv_if_eq (tgt := 45) hx hb dX11_alike_11 (by decide) (fun c_34 => ?_) (fun c_34 => ?_)
        · refine lv_iload_n hx hb dX11_alike_45 rfl (lv_at hl 2 rfl) ?_
          refine lv_bipush (v := (nI (6))) hx hb dX11_alike_46 (by decide) ?_
          refine lv_icmp_ge (tgt := 84) hx hb dX11_alike_48 (by decide) (fun cw => ?_) (fun cw => ?_)
          · refine lv_iconst (v := (nI (0))) hx hb dX11_alike_84 (by decide) ?_
            exact rl_zret hC hW hr hlk rfl (Nat.le_refl _) (Nat.le_refl _) ⟨_, rfl, rfl, rfl, rfl, Or.inr ⟨by decide, hno⟩⟩ dX11_alike_85
          · refine lv_aload_n hx hb dX11_alike_51 rfl (lv_at hl 0 rfl) ?_
            refine rl_instY hC hW h01 rfl mw_338 mt_998 dX11_alike_52 ?_
            refine rl_topn (y := nI 1) (by decide) ?_
            refine lv_if_eq (tgt := 84) hx hb dX11_alike_55 (by decide) (fun c_35 => ?_) (fun c_35 => ?_)
            · first | exact absurd c_35 (by decide) | exact absurd (by decide) c_35
            · refine lv_aload_n hx hb dX11_alike_58 rfl (lv_at hl 0 rfl) ?_
              refine rl_castY hC hW h01 rfl mw_338 mt_998 dX11_alike_59 ?_
              refine lv_astore_n (lv' := [(3, .ref (E 2 n01)), (0, .ref (E 2 n01)), (1, .ref (E 1 n02)), (2, .int (nI (w)))]) hx hb dX11_alike_62 rfl hl (by decide) rfl (fun ls hl => ?_)
              refine lv_aload_n hx hb dX11_alike_63 rfl (lv_at hl 2 rfl) ?_
              refine rl_instNo hC hW h02 rfl mw_338 (by decide) dX11_alike_64 ?_
              refine rl_topn (y := nI 0) (by decide) ?_
              refine lv_if_eq (tgt := 84) hx hb dX11_alike_67 (by decide) (fun c_36 => ?_) (fun c_36 => ?_)
              · refine lv_iconst (v := (nI (0))) hx hb dX11_alike_84 (by decide) ?_
                exact rl_zret hC hW hr hlk rfl (Nat.le_refl _) (Nat.le_refl _) ⟨_, rfl, rfl, rfl, rfl, Or.inr ⟨by decide, hno⟩⟩ dX11_alike_85
              · first | exact absurd c_36 (by decide) | exact absurd (by decide) c_36
        · first | exact absurd c_34 (by decide) | exact absurd (by decide) c_34
      · obtain rfl : r2 = some (E 2 n02) := by rw [er2, hh2]; rfl
        obtain ⟨hx582, h02, ⟨gn2, h12, hgnv2⟩, ⟨gt2, h22, hgtv2⟩⟩ := hI.rec hn02
        obtain ⟨hj2, hnT2, -⟩ := hG.2.1 n02 hn02
        obtain ⟨hrv2, hj52, hj22, hpa2, hka2⟩ := id (hI.2.2.1 _ hj2)
        rw [hh1, hh2] at hne
        have hlr : pu_lk G (6 - w) hd1 hd2 ↔ (1 ≤ 6 - w ∧ pu_op G n01 n02 ∧ ∀ p, p < G.1 2 n01 → pu_lk G (6 - w - 1) (G.2.2.2 1 (5 * n01 + p)) (G.2.2.2 1 (5 * n02 + p))) := by rw [hh1, hh2]; exact lk_rec hne
        refine lv_aload_n hx hb dX11_alike_7 rfl (lv_at hl 0 rfl) ?_
        refine rl_instNo hC hW h01 rfl mw_290 (by decide) dX11_alike_8 ?_
        refine rl_topn (y := nI 0) (by decide) ?_
        refine lv_if_eq (tgt := 45) hx hb dX11_alike_11 (by decide) (fun c_37 => ?_) (fun c_37 => ?_)
        · refine lv_iload_n hx hb dX11_alike_45 rfl (lv_at hl 2 rfl) ?_
          refine lv_bipush (v := (nI (6))) hx hb dX11_alike_46 (by decide) ?_
          refine lv_icmp_ge (tgt := 84) hx hb dX11_alike_48 (by decide) (fun cw => ?_) (fun cw => ?_)
          · have hge := rg_le cw (by decide) (by omega)
            refine lv_iconst (v := (nI (0))) hx hb dX11_alike_84 (by decide) ?_
            exact rl_zret hC hW hr hlk rfl (Nat.le_refl _) (Nat.le_refl _) ⟨_, rfl, rfl, rfl, rfl, Or.inr ⟨by decide, fun q => by have := (hlr.mp q).1; omega⟩⟩ dX11_alike_85
          · have hw6 : w < 6 := rg_lt cw (by omega) (by omega)
            refine lv_aload_n hx hb dX11_alike_51 rfl (lv_at hl 0 rfl) ?_
            refine rl_instY hC hW h01 rfl mw_338 mt_998 dX11_alike_52 ?_
            refine rl_topn (y := nI 1) (by decide) ?_
            refine lv_if_eq (tgt := 84) hx hb dX11_alike_55 (by decide) (fun c_38 => ?_) (fun c_38 => ?_)
            · first | exact absurd c_38 (by decide) | exact absurd (by decide) c_38
            · refine lv_aload_n hx hb dX11_alike_58 rfl (lv_at hl 0 rfl) ?_
              refine rl_castY hC hW h01 rfl mw_338 mt_998 dX11_alike_59 ?_
              refine lv_astore_n (lv' := [(3, .ref (E 2 n01)), (0, .ref (E 2 n01)), (1, .ref (E 2 n02)), (2, .int (nI (w)))]) hx hb dX11_alike_62 rfl hl (by decide) rfl (fun ls hl => ?_)
              refine lv_aload_n hx hb dX11_alike_63 rfl (lv_at hl 2 rfl) ?_
              refine rl_instY hC hW h02 rfl mw_338 mt_998 dX11_alike_64 ?_
              refine rl_topn (y := nI 1) (by decide) ?_
              refine lv_if_eq (tgt := 84) hx hb dX11_alike_67 (by decide) (fun c_39 => ?_) (fun c_39 => ?_)
              · first | exact absurd c_39 (by decide) | exact absurd (by decide) c_39
              · refine lv_aload_n hx hb dX11_alike_70 rfl (lv_at hl 2 rfl) ?_
                refine rl_castY hC hW h02 rfl mw_338 mt_998 dX11_alike_71 ?_
                refine lv_astore (lv' := [(4, .ref (E 2 n02)), (3, .ref (E 2 n01)), (0, .ref (E 2 n01)), (1, .ref (E 2 n02)), (2, .int (nI (w)))]) hx hb dX11_alike_74 hl (by decide) rfl (fun ls hl => ?_)
                refine lv_aload_n hx hb dX11_alike_76 rfl (lv_at hl 1 rfl) ?_
                refine lv_aload hx hb dX11_alike_77 (lv_at hl 0 rfl) ?_
                refine lv_iload_n hx hb dX11_alike_79 rfl (lv_at hl 4 rfl) ?_
                refine rl_calliQ (rl_runS (As := [.ref (E 2 n01), .ref (E 2 n02), .int (nI (w))]) (rest := []) hC hW (hAR hw6 n01 n02 hn01 hn02) cs_X11_215 sm_X11_alikeRecords ⟨by simp only [rl_rm]; omega, by simp only [rl_rm]; omega⟩ rfl hl.1 rfl (Nat.le_of_ble_eq_true rfl) dX11_alike_80 ⟨(Nat.le_of_ble_eq_true rfl), (Nat.le_of_ble_eq_true rfl)⟩) hW (fun r f1 H locs hp hW => ?_)
                obtain ⟨rfl, hp⟩ := hp
                rw [show 6 - (w + 1) = 6 - w - 1 by omega] at hp
                rcases hp with ⟨rfl, hp⟩ | ⟨rfl, hp⟩
                · exact rl_zret hC hW hr hlk rfl (Nat.le_refl _) (Nat.le_refl _) ⟨_, rfl, rfl, rfl, rfl, Or.inl ⟨by decide, hlr.mpr ⟨by omega, hp⟩⟩⟩ dX11_alike_83
                · exact rl_zret hC hW hr hlk rfl (Nat.le_refl _) (Nat.le_refl _) ⟨_, rfl, rfl, rfl, rfl, Or.inr ⟨by decide, fun q => hp (hlr.mp q).2⟩⟩ dX11_alike_83
        · first | exact absurd c_37 (by decide) | exact absurd (by decide) c_37
  · refine lv_iconst (v := (nI (1))) hx hb dX11_alike_5 (by decide) ?_
    exact rl_zret hC hW hr hlk rfl (Nat.le_refl _) (Nat.le_refl _) ⟨_, rfl, rfl, rfl, rfl, Or.inl ⟨by decide, lk_eq (hI.inj hok1 hok2 (er1.symm.trans (c1.trans er2)))⟩⟩ dX11_alike_6

theorem cC_alike (l : Launch) (D : va_G) (t : Nat → ClassId) (A : Nat → Prop) (f : rl_M) (z : Nat) (x : Nat) (T : Nat → Nat → Nat) (ρ κ : Nat) (G : pG) (E : Nat → Nat → Nat) (gx : Nat → Int32) (mo : Int32) (hI : CJ t f x T ρ κ G E gx mo) (hT : rt_ok T) (hG : GW T ρ κ G) : ∀ (d w : Nat), w + d = 6 → ∀ (r1 r2 : Option Nat) (hd1 hd2 : pHd), r1 = ca E hd1 → cok T ρ κ hd1 → r2 = ca E hd2 → cok T ρ κ hd2 → rl_Met l yX11_alike (.code yX11_alike cX11_alike 5 (some FieldType.boolean)) (rl_rm (1 + 2 * (6 - w)) 0 0) D t A f z [va_rf (r1), va_rf (r2), .int (nI (w))] (rl_qi z fun r f1 => f = f1 ∧ ((r = 1 ∧ pu_lk G (6 - w) hd1 hd2) ∨ (r = 0 ∧ ¬ pu_lk G (6 - w) hd1 hd2)))
  | 0, w, h, r1, r2, hd1, hd2, e1, o1, e2, o2 => cC_alike0 l D t A f z x T ρ κ G E gx mo hI hT hG w (by omega) (fun q => absurd q (by omega)) r1 r2 hd1 hd2 e1 o1 e2 o2
  | d + 1, w, h, r1, r2, hd1, hd2, e1, o1, e2, o2 => cC_alike0 l D t A f z x T ρ κ G E gx mo hI hT hG w (by omega) (fun _ k1 k2 q1 q2 => cC_alikeRecords l D t A f z x T ρ κ G E gx mo hI hT hG w (by omega) (fun r1 r2 hd1 hd2 e1 o1 e2 o2 => cC_alike l D t A f z x T ρ κ G E gx mo hI hT hG d (w + 1) (by omega) r1 r2 hd1 hd2 e1 o1 e2 o2) k1 k2 q1 q2) r1 r2 hd1 hd2 e1 o1 e2 o2

set_option maxHeartbeats 4000000 in
set_option maxRecDepth 100000 in
theorem cC_like (l : Launch) (D : va_G) (t : Nat → ClassId) (A : Nat → Prop) (f : rl_M) (z : Nat) (x : Nat) (T : Nat → Nat → Nat) (ρ κ : Nat) (G : pG) (E : Nat → Nat → Nat) (hI : CI t f x T ρ κ G E) (hT : rt_ok T) (hG : GW T ρ κ G) (x1 x2 : Int32) : rl_Met l yX11_like (.code yX11_like cX11_like 3 (some FieldType.int)) (rl_rm 14 0 0) D t A f z [.ref (x), .int (x1), .int (x2)] (rl_qi z fun r f1 => f_like G x1 x2 = r ∧ CI t f1 x T ρ κ G E) := by
  refine rl_begin (own := RX11) (lv := [(0, .ref (x)), (1, .int (x1)), (2, .int (x2))]) (by decide +kernel) rfl (Nat.le_of_ble_eq_true rfl) rfl fun p e s m0 args below meth c ls H locs hC hr hlk hnm hW hl hx hb => ?_
  replace hI : CJ t _ x T ρ κ G E (G.2.1 0) (G.2.1 0 3) := hI
  obtain ⟨hF0, hEV, hRV, ⟨v5, hx0⟩, ⟨gpl, hpl, hpt⟩, ⟨⟨ggn, hgn, hgnE⟩, ⟨ggp, hgp, hgq⟩⟩, ⟨⟨fz, htp⟩, ⟨glv, hlv, hlvE⟩, ⟨gfr, hfr⟩⟩, hRW, hRC, hIN⟩ := id hI
  refine lv_iload_n hx hb dX11_like_0 rfl (lv_at hl 1 rfl) ?_
  refine lv_bipush (v := (nI (10))) hx hb dX11_like_1 (by decide) ?_
  refine rl_calliQ (rl_runS (As := [.int (x1), .int (nI (10))]) (rest := []) hC hW (cC_below l D t A _ z _ (10) (by omega)) cs_X11_48 sm_X11_below ⟨(Nat.le_of_ble_eq_true rfl), (Nat.le_of_ble_eq_true rfl)⟩ rfl hl.1 rfl (Nat.le_of_ble_eq_true rfl) dX11_like_3 ⟨(Nat.le_of_ble_eq_true rfl), (Nat.le_of_ble_eq_true rfl)⟩) hW (fun r f1 H locs hp hW => ?_)
  obtain ⟨rfl, hp⟩ := hp
  rcases hp with ⟨rfl, hp⟩ | ⟨rfl, hp⟩
  · obtain ⟨p0, hp0, rfl⟩ := hp
    refine lv_if_eq (tgt := 18) hx hb dX11_like_6 (by decide) (fun c9 => ?_) (fun c9 => ?_)
    · exact absurd c9 (by decide)
    · refine lv_iload_n hx hb dX11_like_9 rfl (lv_at hl 2 rfl) ?_
      refine lv_bipush (v := (nI (10))) hx hb dX11_like_10 (by decide) ?_
      refine rl_calliQ (rl_runS (As := [.int (x2), .int (nI (10))]) (rest := []) hC hW (cC_below l D t A _ z _ (10) (by omega)) cs_X11_48 sm_X11_below ⟨(Nat.le_of_ble_eq_true rfl), (Nat.le_of_ble_eq_true rfl)⟩ rfl hl.1 rfl (Nat.le_of_ble_eq_true rfl) dX11_like_12 ⟨(Nat.le_of_ble_eq_true rfl), (Nat.le_of_ble_eq_true rfl)⟩) hW (fun r f1 H locs hp hW => ?_)
      obtain ⟨rfl, hp⟩ := hp
      rcases hp with ⟨rfl, hp⟩ | ⟨rfl, hp⟩
      · obtain ⟨q0, hq0, rfl⟩ := hp
        refine lv_if_ne (tgt := 20) hx hb dX11_like_15 (by decide) (fun c9 => ?_) (fun c9 => ?_)
        · obtain ⟨hpe, hok1⟩ := hpt p0 hp0
          obtain ⟨hqe, hok2⟩ := hpt q0 hq0
          refine lv_aload_n hx hb dX11_like_20 rfl (lv_at hl 0 rfl) ?_
          refine rl_get (v := .ref (x + 52)) hC hW fl_X11_18 hx0 rfl dX11_like_21 ?_
          refine lv_iload_n hx hb dX11_like_24 rfl (lv_at hl 1 rfl) ?_
          refine rl_aald_n 3 hC hW rfl hpl (by omega) (by decide) dX11_like_25 ?_
          obtain ⟨r0, er0⟩ : ∃ r : Option Nat, r = gpl (p0) := ⟨_, rfl⟩
          refine rl_topqq er0.symm ?_
          refine lv_aload_n hx hb dX11_like_26 rfl (lv_at hl 0 rfl) ?_
          refine rl_get (v := .ref (x + 52)) hC hW fl_X11_18 hx0 rfl dX11_like_27 ?_
          refine lv_iload_n hx hb dX11_like_30 rfl (lv_at hl 2 rfl) ?_
          refine rl_aald_n 3 hC hW rfl hpl (by omega) (by decide) dX11_like_31 ?_
          obtain ⟨r1, er1⟩ : ∃ r : Option Nat, r = gpl (q0) := ⟨_, rfl⟩
          refine rl_topqq er1.symm ?_
          refine lv_iconst (v := (nI (0))) hx hb dX11_like_32 (by decide) ?_
          refine rl_calliQ (rl_runS (As := [va_rf (r0), va_rf (r1), .int (nI (0))]) (rest := []) hC hW (cC_alike l D t A _ z x T ρ κ G E _ _ hI hT hG 6 0 rfl r0 r1 _ _ (er0.trans hpe) hok1 (er1.trans hqe) hok2) cs_X11_155 sm_X11_alike ⟨(Nat.le_of_ble_eq_true rfl), (Nat.le_of_ble_eq_true rfl)⟩ rfl hl.1 rfl (Nat.le_of_ble_eq_true rfl) dX11_like_33 ⟨(Nat.le_of_ble_eq_true rfl), (Nat.le_of_ble_eq_true rfl)⟩) hW (fun r f1 H locs hp hW => ?_)
          obtain ⟨rfl, hp⟩ := hp
          rcases hp with ⟨rfl, hp⟩ | ⟨rfl, hp⟩
          · refine lv_if_eq (tgt := 43) hx hb dX11_like_36 (by decide) (fun c_1 => ?_) (fun c_1 => ?_)
            · first | exact absurd c_1 (by decide) | exact absurd (by decide) c_1
            · refine lv_iconst (v := (nI (1))) hx hb dX11_like_39 (by decide) ?_
              refine lv_goto (tgt := 44) hx hb dX11_like_40 (by decide) ?_
              exact rl_iret hC hW hr hlk (Nat.le_refl _) (Nat.le_refl _) ⟨_, rfl, rfl, rfl, (by simp only [f_like, ob, pu_ix_s hp0 (by decide), pu_ix_s hq0 (by decide)]; rw [if_pos hp]; rfl), hI⟩ dX11_like_44
          · refine lv_if_eq (tgt := 43) hx hb dX11_like_36 (by decide) (fun c_2 => ?_) (fun c_2 => ?_)
            · refine lv_iconst (v := (nI (0))) hx hb dX11_like_43 (by decide) ?_
              exact rl_iret hC hW hr hlk (Nat.le_refl _) (Nat.le_refl _) ⟨_, rfl, rfl, rfl, (by simp only [f_like, ob, pu_ix_s hp0 (by decide), pu_ix_s hq0 (by decide)]; rw [if_neg hp]; rfl), hI⟩ dX11_like_44
            · first | exact absurd c_2 (by decide) | exact absurd (by decide) c_2
        · exact absurd c9 (by decide)
      · have hq := hp
        refine lv_if_ne (tgt := 20) hx hb dX11_like_15 (by decide) (fun c9 => ?_) (fun c9 => ?_)
        · exact absurd rfl c9
        · refine lv_iconst (v := (-1)) hx hb dX11_like_18 (by decide) ?_
          exact rl_iret hC hW hr hlk (Nat.le_refl _) (Nat.le_refl _) ⟨_, rfl, rfl, rfl, (by simp only [f_like, ob, pu_ix_s hp0 (by decide), pu_ix_n (n := 10) (by decide) hq]), hI⟩ dX11_like_19
  · have hq := hp
    refine lv_if_eq (tgt := 18) hx hb dX11_like_6 (by decide) (fun c9 => ?_) (fun c9 => ?_)
    · refine lv_iconst (v := (-1)) hx hb dX11_like_18 (by decide) ?_
      exact rl_iret hC hW hr hlk (Nat.le_refl _) (Nat.le_refl _) ⟨_, rfl, rfl, rfl, (by simp only [f_like, ob, pu_ix_n (n := 10) (by decide) hq]), hI⟩ dX11_like_19
    · exact absurd rfl c9
