
theorem rt_srt_lt (h : Nat) : rt_srt h < 5 := by unfold rt_srt; split <;> (try split) <;> (try split) <;> omega
theorem rl_le.sub {f f' : rl_M} {z : Nat} (hz : f z = none) (h : ∀ q e, f q = some e → q ≠ z → f' q = some e) : rl_le f f' := fun q e hq => h q e hq (fun w => by rw [w, hz] at hq; cases hq)

set_option maxHeartbeats 4000000 in
set_option maxRecDepth 100000 in
theorem cC_addPart (l : Launch) (D : va_G) (t : Nat → ClassId) (A : Nat → Prop) (f : rl_M) (z : Nat) (x : Nat) (T : Nat → Nat → Nat) (Th : Nat → Prop) (hI : CI t f x T Th) (j q : Nat) (hj : j < 12) (hq2 : x + 58 ≤ q) (nm so : Nat) (o : Int32) (hq3 : f q = some (.inr (4, [.int (nI nm), .int (nI so), .int o]))) : rl_Met l yX7_addPart (.code yX7_addPart cX7_addPart 2 (some FieldType.int)) (rl_rm 0 0 0) D t A f z [.ref (x + 16 + 3 * j), .ref (q)] (rl_qi z fun r f1 => (T 2 j = 5 ∧ r = -2 ∧ f = f1) ∨ (T 2 j ≠ 5 ∧ r = nI (T 2 j) ∧ CI t f1 x (rt_addp T j nm so) Th)) := by
  refine rl_begin (own := RX7) (lv := [(0, .ref (x + 16 + 3 * j)), (1, .ref (q))]) (by decide +kernel) rfl (Nat.le_of_ble_eq_true rfl) rfl fun p e s m0 args below meth c ls H locs hC hr hlk hnm hW hl hx hb => ?_
  obtain ⟨hrv, hj5, hj2, ⟨gp, hpa, hpp⟩, ⟨gk, hka, hkk⟩⟩ := id (hI.2.2.1 j hj)
  refine lv_aload_n hx hb dX7_addPart_0 rfl (lv_at hl 0 rfl) ?_
  refine rl_get (v := .int (nI (T 2 j))) hC hW fl_X7_30 hrv rfl dX7_addPart_1 ?_
  refine lv_iconst (v := (nI (5))) hx hb dX7_addPart_4 (by decide) ?_
  refine lv_icmp_lt (tgt := 11) hx hb dX7_addPart_5 (by decide) (fun c1 => ?_) (fun c1 => ?_)
  · have hlt : T 2 j < 5 := (nI_ltI (by omega) (by decide)).mp c1
    refine lv_aload_n hx hb dX7_addPart_11 rfl (lv_at hl 0 rfl) ?_
    refine rl_get (v := .ref (x + 17 + 3 * j)) hC hW fl_X7_20 hrv rfl dX7_addPart_12 ?_
    refine lv_aload_n hx hb dX7_addPart_15 rfl (lv_at hl 0 rfl) ?_
    refine rl_get (v := .int (nI (T 2 j))) hC hW fl_X7_30 hrv rfl dX7_addPart_16 ?_
    refine lv_aload_n hx hb dX7_addPart_19 rfl (lv_at hl 1 rfl) ?_
    refine rl_aast_n 5 (g := gp) hC hW rfl hpa hq3 rfl (Or.inl rfl) hlt (by decide) dX7_addPart_20 (fun H locs hW => ?_)
    have hrv2 := rl_up_n (f := f) (a := x + 17 + 3 * j) (b := x + 16 + 3 * j) (e := .inl (t 5, 5, .inr (.inr (.inr (.inr (va_up gp (T 2 j) (some q))))))) (by omega)
    replace hrv2 := hrv2.trans hrv
    refine lv_aload_n hx hb dX7_addPart_21 rfl (lv_at hl 0 rfl) ?_
    refine lv_dup hx hb dX7_addPart_22 rfl ?_
    refine rl_get (v := .int (nI (T 2 j))) hC hW fl_X7_30 hrv2 rfl dX7_addPart_23 ?_
    refine lv_iconst (v := (nI (1))) hx hb dX7_addPart_26 (by decide) ?_
    refine lv_iadd hx hb dX7_addPart_27 ?_
    refine rl_topn (nI_add _ _) ?_
    refine rl_put (v := .int (nI ((T 2 j) + (1)))) hC hW fp_X7_30 hrv2 (Nat.le_of_ble_eq_true rfl) rfl rfl dX7_addPart_28 (fun H locs hW => ?_)
    replace hW : rl_W D A (rl_up _ (x + 16 + 3 * j) (.inr (7, [.int (nI (2 + j / 3)), .int (nI (j % 3)), .ref (x + 17 + 3 * j), .ref (x + 18 + 3 * j), .int (nI (T 2 j + 1)), .int (nI (T 5 j))]))) z s.heap H locs := hW
    refine lv_aload_n hx hb dX7_addPart_31 rfl (lv_at hl 0 rfl) ?_
    refine rl_get (v := .int (nI (T 2 j + 1))) hC hW fl_X7_30 (rl_up_s _ _ _) rfl dX7_addPart_32 ?_
    refine lv_iconst (v := (nI (1))) hx hb dX7_addPart_35 (by decide) ?_
    refine lv_isub hx hb dX7_addPart_36 ?_
    refine rl_topn (rg_sub rfl) ?_
    exact rl_iret hC hW hr hlk (Nat.le_refl _) (Nat.le_refl _) ⟨_, rfl, rfl, rfl, Or.inr ⟨by omega, rfl, hI.addp hj hlt hq3 hq2 hpa⟩⟩ dX7_addPart_37
  · have hge : ¬ T 2 j < 5 := fun q9 => c1 ((nI_ltI (by omega) (by decide)).mpr q9)
    refine lv_bipush (v := (-2)) hx hb dX7_addPart_8 (by decide) ?_
    exact rl_iret hC hW hr hlk (Nat.le_refl _) (Nat.le_refl _) ⟨_, rfl, rfl, rfl, Or.inl ⟨by omega, by decide, rfl⟩⟩ dX7_addPart_10

set_option maxHeartbeats 4000000 in
set_option maxRecDepth 100000 in
theorem cC_addCheck (l : Launch) (D : va_G) (t : Nat → ClassId) (A : Nat → Prop) (f : rl_M) (z : Nat) (x : Nat) (T : Nat → Nat → Nat) (Th : Nat → Prop) (hI : CI t f x T Th) (j q : Nat) (hj : j < 12) (hq2 : x + 58 ≤ q) (ho a : Nat) (o : Int32) (ha : a < T 2 j) (hkb : rt_kb ho (T 2 j) o) (hq3 : f q = some (.inr (0, [.int (nI ho), .int (nI a), .int o]))) : rl_Met l yX7_addCheck (.code yX7_addCheck cX7_addCheck 2 (some FieldType.int)) (rl_rm 0 0 0) D t A f z [.ref (x + 16 + 3 * j), .ref (q)] (rl_qi z fun r f1 => (T 5 j = 2 ∧ r = -2 ∧ f = f1) ∨ (T 5 j ≠ 2 ∧ r = nI (T 5 j) ∧ CI t f1 x (rt_addk T j ho a) Th)) := by
  refine rl_begin (own := RX7) (lv := [(0, .ref (x + 16 + 3 * j)), (1, .ref (q))]) (by decide +kernel) rfl (Nat.le_of_ble_eq_true rfl) rfl fun p e s m0 args below meth c ls H locs hC hr hlk hnm hW hl hx hb => ?_
  obtain ⟨hrv, hj5, hj2, ⟨gp, hpa, hpp⟩, ⟨gk, hka, hkk⟩⟩ := id (hI.2.2.1 j hj)
  refine lv_aload_n hx hb dX7_addCheck_0 rfl (lv_at hl 0 rfl) ?_
  refine rl_get (v := .int (nI (T 5 j))) hC hW fl_X7_43 hrv rfl dX7_addCheck_1 ?_
  refine lv_iconst (v := (nI (2))) hx hb dX7_addCheck_4 (by decide) ?_
  refine lv_icmp_lt (tgt := 11) hx hb dX7_addCheck_5 (by decide) (fun c1 => ?_) (fun c1 => ?_)
  · have hlt : T 5 j < 2 := (nI_ltI (by omega) (by decide)).mp c1
    refine lv_aload_n hx hb dX7_addCheck_11 rfl (lv_at hl 0 rfl) ?_
    refine rl_get (v := .ref (x + 18 + 3 * j)) hC hW fl_X7_26 hrv rfl dX7_addCheck_12 ?_
    refine lv_aload_n hx hb dX7_addCheck_15 rfl (lv_at hl 0 rfl) ?_
    refine rl_get (v := .int (nI (T 5 j))) hC hW fl_X7_43 hrv rfl dX7_addCheck_16 ?_
    refine lv_aload_n hx hb dX7_addCheck_19 rfl (lv_at hl 1 rfl) ?_
    refine rl_aast_n 6 (g := gk) hC hW rfl hka hq3 rfl (Or.inl rfl) hlt (by decide) dX7_addCheck_20 (fun H locs hW => ?_)
    have hrv2 := rl_up_n (f := f) (a := x + 18 + 3 * j) (b := x + 16 + 3 * j) (e := .inl (t 6, 2, .inr (.inr (.inr (.inr (va_up gk (T 5 j) (some q))))))) (by omega)
    replace hrv2 := hrv2.trans hrv
    refine lv_aload_n hx hb dX7_addCheck_21 rfl (lv_at hl 0 rfl) ?_
    refine lv_dup hx hb dX7_addCheck_22 rfl ?_
    refine rl_get (v := .int (nI (T 5 j))) hC hW fl_X7_43 hrv2 rfl dX7_addCheck_23 ?_
    refine lv_iconst (v := (nI (1))) hx hb dX7_addCheck_26 (by decide) ?_
    refine lv_iadd hx hb dX7_addCheck_27 ?_
    refine rl_topn (nI_add _ _) ?_
    refine rl_put (v := .int (nI ((T 5 j) + (1)))) hC hW fp_X7_43 hrv2 (Nat.le_of_ble_eq_true rfl) rfl rfl dX7_addCheck_28 (fun H locs hW => ?_)
    replace hW : rl_W D A (rl_up _ (x + 16 + 3 * j) (.inr (7, [.int (nI (2 + j / 3)), .int (nI (j % 3)), .ref (x + 17 + 3 * j), .ref (x + 18 + 3 * j), .int (nI (T 2 j)), .int (nI (T 5 j + 1))]))) z s.heap H locs := hW
    refine lv_aload_n hx hb dX7_addCheck_31 rfl (lv_at hl 0 rfl) ?_
    refine rl_get (v := .int (nI (T 5 j + 1))) hC hW fl_X7_43 (rl_up_s _ _ _) rfl dX7_addCheck_32 ?_
    refine lv_iconst (v := (nI (1))) hx hb dX7_addCheck_35 (by decide) ?_
    refine lv_isub hx hb dX7_addCheck_36 ?_
    refine rl_topn (rg_sub rfl) ?_
    exact rl_iret hC hW hr hlk (Nat.le_refl _) (Nat.le_refl _) ⟨_, rfl, rfl, rfl, Or.inr ⟨by omega, rfl, hI.addk hj hlt ha hkb hq3 hq2 hka⟩⟩ dX7_addCheck_37
  · have hge : ¬ T 5 j < 2 := fun q9 => c1 ((nI_ltI (by omega) (by decide)).mpr q9)
    refine lv_bipush (v := (-2)) hx hb dX7_addCheck_8 (by decide) ?_
    exact rl_iret hC hW hr hlk (Nat.le_refl _) (Nat.le_refl _) ⟨_, rfl, rfl, rfl, Or.inl ⟨by omega, by decide, rfl⟩⟩ dX7_addCheck_10

theorem rg_li {n : Nat} (h : n < 2 ^ 31) : (nI n).toInt64 = lN n := nI_l h
theorem rg_il {x : Int32} {n : Nat} (h : n < 2 ^ 31) (e : x.toInt64 = lN n) : x = nI n := by
  rw [← rg_li h] at e
  apply Int32.toInt_inj.mp
  have := congrArg Int64.toInt e
  rwa [Int32.toInt_toInt64, Int32.toInt_toInt64] at this

set_option maxHeartbeats 4000000 in
set_option maxRecDepth 100000 in
theorem cC_part (l : Launch) (D : va_G) (t : Nat → ClassId) (A : Nat → Prop) (f : rl_M) (z : Nat) (x : Nat) (T : Nat → Nat → Nat) (Th : Nat → Prop) (hI : CI t f x T Th) (hTP : rt_pure T) (x1 x2 x3 x4 x5 : Int32) : rl_Met l yX11_part (.code yX11_part cX11_part 7 (some FieldType.int)) (rl_rm 4 1 3) D t A f z [.ref (x), .int (x1), .int (x2), .int (x3), .int (x4), .int (x5)] (rl_pi fun r f1 z1 d1 => (∃ T', rt_par T x1 x2 x3 x4 x5 r T' ∧ CI t f1 x T' Th) ∧ z1 ≤ z + 1 ∧ d1 ≤ 3) := by
  refine rl_begin (own := RX11) (lv := [(0, .ref (x)), (1, .int (x1)), (2, .int (x2)), (3, .int (x3)), (4, .int (x4)), (5, .int (x5))]) (by decide +kernel) rfl (Nat.le_of_ble_eq_true rfl) rfl fun p e s m0 args below meth c ls H locs hC hr hlk hnm hW hl hx hb => ?_
  have hzx : x + 58 ≤ z := by obtain ⟨-, -, -, -, -, -, ⟨-, -, ⟨g9, e9⟩⟩, -⟩ := id hI; exact hW.lt e9
  obtain ⟨hF0, hEV, hRV, ⟨v5, v6, v7, v8, v9, v10, v11, hx0⟩, ⟨gpl, hpl, hpt⟩, ⟨⟨ggn, hgn⟩, ⟨ggp, hgp, hgq⟩⟩, ⟨⟨sz, fz, htp, hsz⟩, ⟨glv, hlv⟩, ⟨gfr, hfr⟩⟩, hTH⟩ := id hI
  obtain ⟨hk0, -, -⟩ := id hI.1
  refine lv_aload_n hx hb dX11_part_0 rfl (lv_at hl 0 rfl) ?_
  refine rl_get (v := .ref (x + 1)) hC hW fl_X11_10 hx0 rfl dX11_part_1 ?_
  refine lv_iload_n hx hb dX11_part_4 rfl (lv_at hl 1 rfl) ?_
  refine lv_i2l hx hb dX11_part_5 rfl ?_
  refine lv_iload_n hx hb dX11_part_6 rfl (lv_at hl 2 rfl) ?_
  refine rl_callqQ (rl_runV (b := x + 1) (As := [.long ((x1).toInt64), .int (x2)]) (rest := []) hC hW (cC_recordVersion l D t A _ z x T Th hI _ _) cs_X11_62 im_X3_recordVersion sl_X3_recordVersion hk0 rfl ⟨(Nat.le_of_ble_eq_true rfl), (Nat.le_of_ble_eq_true rfl)⟩ rfl hl.1 rfl (Nat.le_of_ble_eq_true rfl) dX11_part_7 ⟨by simp only [rl_rm]; omega, by simp only [rl_rm]; omega⟩) hW (fun r1 f1 H locs hp hW => ?_)
  obtain ⟨rfl, hp⟩ := hp
  rcases hp with ⟨k, v, hk, hv, h1, rfl, rfl⟩ | ⟨rfl, hp⟩
  · have hx1 : x1 = nI (2 + k) := rg_il (by omega) h1
    subst hx1
    have hj : 3 * k + v < 12 := by omega
    refine lv_astore (lv' := [(6, .ref (x + 16 + 3 * (3 * k + v))), (0, .ref (x)), (1, .int (nI (2 + k))), (2, .int (nI (v))), (3, .int (x3)), (4, .int (x4)), (5, .int (x5))]) hx hb dX11_part_10 hl (by decide) rfl (fun ls hl => ?_)
    refine lv_aload hx hb dX11_part_12 (lv_at hl 0 rfl) ?_
    refine lv_ifnull hx hb dX11_part_14 ?_
    refine lv_iload_n hx hb dX11_part_17 rfl (lv_at hl 4 rfl) ?_
    refine lv_bipush (v := (nI (10))) hx hb dX11_part_18 (by decide) ?_
    refine rl_calliQ (rl_runS (As := [.int (x3), .int (nI (10))]) (rest := []) hC hW (cC_below l D t A _ z _ (10) (by omega)) cs_X11_48 sm_X11_below ⟨(Nat.le_of_ble_eq_true rfl), (Nat.le_of_ble_eq_true rfl)⟩ rfl hl.1 rfl (Nat.le_of_ble_eq_true rfl) dX11_part_20 ⟨by simp only [rl_rm]; omega, by simp only [rl_rm]; omega⟩) hW (fun r f1 H locs hp hW => ?_)
    obtain ⟨rfl, hp⟩ := hp
    rcases hp with ⟨rfl, hp⟩ | ⟨rfl, hp⟩
    · obtain ⟨n, hn, rfl⟩ := hp
      refine lv_if_eq (tgt := 45) hx hb dX11_part_23 (by decide) (fun c9 => ?_) (fun c9 => ?_)
      · exact absurd c9 (by decide)
      · refine lv_iload hx hb dX11_part_26 (lv_at hl 5 rfl) ?_
        refine lv_iconst (v := (nI (5))) hx hb dX11_part_28 (by decide) ?_
        refine rl_calliQ (rl_runS (As := [.int (x4), .int (nI (5))]) (rest := []) hC hW (cC_below l D t A _ z _ (5) (by omega)) cs_X11_48 sm_X11_below ⟨(Nat.le_of_ble_eq_true rfl), (Nat.le_of_ble_eq_true rfl)⟩ rfl hl.1 rfl (Nat.le_of_ble_eq_true rfl) dX11_part_29 ⟨by simp only [rl_rm]; omega, by simp only [rl_rm]; omega⟩) hW (fun r f1 H locs hp hW => ?_)
        obtain ⟨rfl, hp⟩ := hp
        rcases hp with ⟨rfl, hp⟩ | ⟨rfl, hp⟩
        · obtain ⟨s0, hs0, rfl⟩ := hp
          refine lv_if_eq (tgt := 45) hx hb dX11_part_32 (by decide) (fun c9 => ?_) (fun c9 => ?_)
          · exact absurd c9 (by decide)
          · refine lv_iload hx hb dX11_part_35 (lv_at hl 5 rfl) ?_
            refine lv_iload hx hb dX11_part_37 (lv_at hl 6 rfl) ?_
            refine rl_calliQ (rl_runS (As := [.int (nI (s0)), .int (x5)]) (rest := []) hC hW (cC_mayBeOf l D t A _ z s0 hs0 x5) cs_X11_66 sm_X11_mayBeOf ⟨(Nat.le_of_ble_eq_true rfl), (Nat.le_of_ble_eq_true rfl)⟩ rfl hl.1 rfl (Nat.le_of_ble_eq_true rfl) dX11_part_39 ⟨by simp only [rl_rm]; omega, by simp only [rl_rm]; omega⟩) hW (fun r f1 H locs hp hW => ?_)
            obtain ⟨rfl, hp⟩ := hp
            rcases hp with ⟨rfl, hp⟩ | ⟨rfl, hp⟩
            · have hmay := hp
              refine lv_if_ne (tgt := 47) hx hb dX11_part_42 (by decide) (fun c9 => ?_) (fun c9 => ?_)
              · obtain ⟨hrv, hj5, -⟩ := id (hI.2.2.1 _ hj)
                have hT3 : ∀ p, p < T 2 (3 * k + v) → T 3 (5 * (3 * k + v) + p) < 10 := by obtain ⟨-, a3, a4, a5, a6, hc⟩ := hTP; exact fun p hp => (hc.2 _ p hj hp).2.1
                refine lv_aload hx hb dX11_part_47 (lv_at hl 0 rfl) ?_
                refine lv_iload_n hx hb dX11_part_49 rfl (lv_at hl 4 rfl) ?_
                refine lv_i2l hx hb dX11_part_50 rfl ?_
                refine rl_calliQ (rl_runV (b := x + 16 + 3 * (3 * k + v)) (As := [.long ((nI (n)).toInt64)]) (rest := []) hC hW (cC_partNamed l D t A _ z x T Th hI (3 * k + v) hj _) cs_X11_69 im_X7_partNamed sl_X7_partNamed hrv rfl ⟨(Nat.le_of_ble_eq_true rfl), (Nat.le_of_ble_eq_true rfl)⟩ rfl hl.1 rfl (Nat.le_of_ble_eq_true rfl) dX11_part_51 ⟨by simp only [rl_rm]; omega, by simp only [rl_rm]; omega⟩) hW (fun r2 f1 H locs hp hW => ?_)
                obtain ⟨rfl, hp⟩ := hp
                rcases hp with ⟨i, hi, rfl, he⟩ | ⟨rfl, hp⟩
                · have hTi := hT3 i hi
                  refine lv_bipush (v := (-3)) hx hb dX11_part_54 (by decide) ?_
                  refine lv_icmp_eq (tgt := 61) hx hb dX11_part_56 (by decide) (fun c_1 => ?_) (fun c_1 => ?_)
                  · exact absurd c_1 (rg_mn (by omega) (by decide))
                  · refine lv_iconst (v := (-1)) hx hb dX11_part_59 (by decide) ?_
                    exact rl_iret hC hW hr hlk (by simp only [rl_rm]; omega) (by simp only [rl_rm]; omega) ⟨_, rfl, ⟨T, Or.inr ⟨by decide, rfl, fun ⟨k', v', n', s', q1, q2, q3, q3', q4, q5, q6, q7, q8, q9, qq⟩ => by
                      have e1 := (nI_eq (by omega) (by omega)).mp q4
                      have e2 := (nI_eq (by omega) (by omega)).mp q5
                      have e3 := (nI_eq (by omega) (by omega)).mp q6
                      have e4 : k' = k := by omega
                      subst e4 e2 e3
                      exact qq i hi ((rg_l (by omega) (by omega)).mp he)⟩, hI⟩, by omega, by omega⟩ dX11_part_60
                · refine lv_bipush (v := (-3)) hx hb dX11_part_54 (by decide) ?_
                  refine lv_icmp_eq (tgt := 61) hx hb dX11_part_56 (by decide) (fun c7 => ?_) (fun c7 => ?_)
                  · have hno : ∀ i, i < T 2 (3 * k + v) → T 3 (5 * (3 * k + v) + i) ≠ n := fun i hi e => hp i hi (by rw [e])
                    have hokp : rt_okp T (nI (2 + k)) (nI v) (nI n) (nI s0) x5 k v n s0 := ⟨hk, hv, hn, hs0, rfl, rfl, rfl, rfl, hmay.1, hmay.2, hno⟩
                    have hfz := hW.fresh
                    refine lv_aload hx hb dX11_part_61 (lv_at hl 0 rfl) ?_
                    refine rl_new hC hW cn_X11_75 (by simp only [rl_rm]; omega) (by simp only [rl_rm]; omega) dX11_part_63 (fun H hW => ?_)
                    refine lv_dup hx hb dX11_part_66 rfl ?_
                    refine lv_iload_n hx hb dX11_part_67 rfl (lv_at hl 4 rfl) ?_
                    refine lv_iload hx hb dX11_part_68 (lv_at hl 5 rfl) ?_
                    refine lv_iload hx hb dX11_part_70 (lv_at hl 6 rfl) ?_
                    refine rl_callvQ (rl_runI (b := z) (As := [.int (nI (n)), .int (nI (s0)), .int (x5)]) (rest := [.ref (z), .ref (x + 16 + 3 * (3 * k + v))]) hC hW (cC_Part_init l D t A _ (z + 1) z (nI n) (nI s0) x5 (rl_up_s _ _ _)) cs_X11_77 im_X4_init rfl ⟨(Nat.le_of_ble_eq_true rfl), (Nat.le_of_ble_eq_true rfl)⟩ rfl hl.1 rfl (Nat.le_of_ble_eq_true rfl) dX11_part_72 ⟨by simp only [rl_rm]; omega, by simp only [rl_rm]; omega⟩) hW (fun f1 H locs hp hW => ?_)
                    obtain rfl := hp
                    rw [rl_up_up2] at hW
                    replace hI := hI.le (rl_le.fresh (e := .inr (4, [.int (nI n), .int (nI s0), .int x5])) hfz)
                    replace hrv := (hI.2.2.1 _ hj).1
                    refine rl_calliQ (rl_runV (b := x + 16 + 3 * (3 * k + v)) (As := [.ref (z)]) (rest := []) hC hW (cC_addPart l D t A _ (z + 1) x T Th hI (3 * k + v) z hj hzx n s0 x5 (rl_up_s _ _ _)) cs_X11_80 im_X7_addPart sl_X7_addPart hrv rfl ⟨(Nat.le_of_ble_eq_true rfl), (Nat.le_of_ble_eq_true rfl)⟩ rfl hl.1 rfl (Nat.le_of_ble_eq_true rfl) dX11_part_75 ⟨by simp only [rl_rm]; omega, by simp only [rl_rm]; omega⟩) hW (fun r3 f2 H locs hp hW => ?_)
                    rcases hp with ⟨h5, hr3, hf⟩ | ⟨h5, hr3, hI2⟩
                    · subst hf
                      exact rl_iret hC hW hr hlk (by simp only [rl_rm]; omega) (by simp only [rl_rm]; omega) ⟨_, rfl, ⟨T, Or.inl ⟨k, v, n, s0, hokp, Or.inl ⟨h5, hr3, rfl⟩⟩, hI⟩, by omega, by omega⟩ dX11_part_78
                    · exact rl_iret hC hW hr hlk (by simp only [rl_rm]; omega) (by simp only [rl_rm]; omega) ⟨_, rfl, ⟨_, Or.inl ⟨k, v, n, s0, hokp, Or.inr ⟨h5, hr3, rfl⟩⟩, hI2⟩, by omega, by omega⟩ dX11_part_78
                  · exact absurd rfl c7
              · exact absurd c9 (by decide)
            · have hmay := hp
              refine lv_if_ne (tgt := 47) hx hb dX11_part_42 (by decide) (fun c9 => ?_) (fun c9 => ?_)
              · exact absurd rfl c9
              · refine lv_iconst (v := (-1)) hx hb dX11_part_45 (by decide) ?_
                exact rl_iret hC hW hr hlk (by simp only [rl_rm]; omega) (by simp only [rl_rm]; omega) ⟨_, rfl, ⟨T, Or.inr ⟨by decide, rfl, fun ⟨k', v', n', s', q1, q2, q3, q3', q4, q5, q6, q7, q8, q9, qq⟩ => by
                  have e1 := (nI_eq (by omega) (by omega)).mp q7
                  subst e1
                  exact hmay ⟨q8, q9⟩⟩, hI⟩, by omega, by omega⟩ dX11_part_46
        · have hq := hp
          refine lv_if_eq (tgt := 45) hx hb dX11_part_32 (by decide) (fun c9 => ?_) (fun c9 => ?_)
          · refine lv_iconst (v := (-1)) hx hb dX11_part_45 (by decide) ?_
            exact rl_iret hC hW hr hlk (by simp only [rl_rm]; omega) (by simp only [rl_rm]; omega) ⟨_, rfl, ⟨T, Or.inr ⟨by decide, rfl, fun ⟨_, _, _, s', _, _, _, q1, _, _, _, q4, _⟩ => hq ⟨s', q1, q4⟩⟩, hI⟩, by omega, by omega⟩ dX11_part_46
          · exact absurd rfl c9
    · have hq := hp
      refine lv_if_eq (tgt := 45) hx hb dX11_part_23 (by decide) (fun c9 => ?_) (fun c9 => ?_)
      · refine lv_iconst (v := (-1)) hx hb dX11_part_45 (by decide) ?_
        exact rl_iret hC hW hr hlk (by simp only [rl_rm]; omega) (by simp only [rl_rm]; omega) ⟨_, rfl, ⟨T, Or.inr ⟨by decide, rfl, fun ⟨_, _, n', _, _, _, q1, _, _, _, q4, _⟩ => hq ⟨n', q1, q4⟩⟩, hI⟩, by omega, by omega⟩ dX11_part_46
      · exact absurd rfl c9
  · have hp' : ¬ ∃ k v : Nat, k < 4 ∧ v < 3 ∧ x1 = nI (2 + k) ∧ x2 = nI v := fun ⟨k, v, q1, q2, q3, q4⟩ => hp ⟨k, v, q1, q2, by rw [q3]; exact rg_li (by omega), q4⟩
    refine lv_astoreN (lv' := [(6, .null), (0, .ref (x)), (1, .int (x1)), (2, .int (x2)), (3, .int (x3)), (4, .int (x4)), (5, .int (x5))]) hx hb dX11_part_10 hl (by decide) rfl (fun ls hl => ?_)
    refine lv_aloadN hx hb dX11_part_12 (lv_at hl 0 rfl) ?_
    refine lv_ifnullN (tgt := 45) hx hb dX11_part_14 (by decide) ?_
    refine lv_iconst (v := (-1)) hx hb dX11_part_45 (by decide) ?_
    exact rl_iret hC hW hr hlk (by simp only [rl_rm]; omega) (by simp only [rl_rm]; omega) ⟨_, rfl, ⟨T, Or.inr ⟨by decide, rfl, fun ⟨k', v', _, _, q1, q2, _, _, q4, q5, _⟩ => hp' ⟨k', v', q1, q2, q4, q5⟩⟩, hI⟩, by omega, by omega⟩ dX11_part_46

set_option maxHeartbeats 4000000 in
set_option maxRecDepth 100000 in
theorem cC_check (l : Launch) (D : va_G) (t : Nat → ClassId) (A : Nat → Prop) (f : rl_M) (z : Nat) (x : Nat) (T : Nat → Nat → Nat) (Th : Nat → Prop) (hI : CI t f x T Th) (hTP : rt_pure T) (x1 x2 x3 x4 x5 : Int32) : rl_Met l yX11_check (.code yX11_check cX11_check 7 (some FieldType.int)) (rl_rm 4 1 3) D t A f z [.ref (x), .int (x1), .int (x2), .int (x3), .int (x4), .int (x5)] (rl_pi fun r f1 z1 d1 => (∃ T', rt_chk T x1 x2 x3 x4 x5 r T' ∧ CI t f1 x T' Th) ∧ z1 ≤ z + 1 ∧ d1 ≤ 3) := by
  refine rl_begin (own := RX11) (lv := [(0, .ref (x)), (1, .int (x1)), (2, .int (x2)), (3, .int (x3)), (4, .int (x4)), (5, .int (x5))]) (by decide +kernel) rfl (Nat.le_of_ble_eq_true rfl) rfl fun p e s m0 args below meth c ls H locs hC hr hlk hnm hW hl hx hb => ?_
  have hzx : x + 58 ≤ z := by obtain ⟨-, -, -, -, -, -, ⟨-, -, ⟨g9, e9⟩⟩, -⟩ := id hI; exact hW.lt e9
  obtain ⟨hF0, hEV, hRV, ⟨v5, v6, v7, v8, v9, v10, v11, hx0⟩, ⟨gpl, hpl, hpt⟩, ⟨⟨ggn, hgn⟩, ⟨ggp, hgp, hgq⟩⟩, ⟨⟨sz, fz, htp, hsz⟩, ⟨glv, hlv⟩, ⟨gfr, hfr⟩⟩, hTH⟩ := id hI
  obtain ⟨hk0, -, -⟩ := id hI.1
  refine lv_aload_n hx hb dX11_check_0 rfl (lv_at hl 0 rfl) ?_
  refine rl_get (v := .ref (x + 1)) hC hW fl_X11_10 hx0 rfl dX11_check_1 ?_
  refine lv_iload_n hx hb dX11_check_4 rfl (lv_at hl 1 rfl) ?_
  refine lv_i2l hx hb dX11_check_5 rfl ?_
  refine lv_iload_n hx hb dX11_check_6 rfl (lv_at hl 2 rfl) ?_
  refine rl_callqQ (rl_runV (b := x + 1) (As := [.long ((x1).toInt64), .int (x2)]) (rest := []) hC hW (cC_recordVersion l D t A _ z x T Th hI _ _) cs_X11_62 im_X3_recordVersion sl_X3_recordVersion hk0 rfl ⟨(Nat.le_of_ble_eq_true rfl), (Nat.le_of_ble_eq_true rfl)⟩ rfl hl.1 rfl (Nat.le_of_ble_eq_true rfl) dX11_check_7 ⟨by simp only [rl_rm]; omega, by simp only [rl_rm]; omega⟩) hW (fun r1 f1 H locs hp hW => ?_)
  obtain ⟨rfl, hp⟩ := hp
  rcases hp with ⟨k, v, hk, hv, h1, rfl, rfl⟩ | ⟨rfl, hp⟩
  · have hx1 : x1 = nI (2 + k) := rg_il (by omega) h1
    subst hx1
    have hj : 3 * k + v < 12 := by omega
    obtain ⟨hrv, hj5, -⟩ := id (hI.2.2.1 _ hj)
    have hT4 : ∀ p, p < T 2 (3 * k + v) → T 4 (5 * (3 * k + v) + p) < 2 ^ 31 := fun p hp => by have := hTP.s4 hj hp; omega
    refine lv_astore (lv' := [(6, .ref (x + 16 + 3 * (3 * k + v))), (0, .ref (x)), (1, .int (nI (2 + k))), (2, .int (nI (v))), (3, .int (x3)), (4, .int (x4)), (5, .int (x5))]) hx hb dX11_check_10 hl (by decide) rfl (fun ls hl => ?_)
    refine lv_aload hx hb dX11_check_12 (lv_at hl 0 rfl) ?_
    refine lv_ifnull hx hb dX11_check_14 ?_
    refine lv_iload_n hx hb dX11_check_17 rfl (lv_at hl 4 rfl) ?_
    refine lv_iconst (v := (nI (5))) hx hb dX11_check_18 (by decide) ?_
    refine rl_calliQ (rl_runS (As := [.int (x3), .int (nI (5))]) (rest := []) hC hW (cC_below l D t A _ z _ (5) (by omega)) cs_X11_48 sm_X11_below ⟨(Nat.le_of_ble_eq_true rfl), (Nat.le_of_ble_eq_true rfl)⟩ rfl hl.1 rfl (Nat.le_of_ble_eq_true rfl) dX11_check_19 ⟨by simp only [rl_rm]; omega, by simp only [rl_rm]; omega⟩) hW (fun r f1 H locs hp hW => ?_)
    obtain ⟨rfl, hp⟩ := hp
    rcases hp with ⟨rfl, hp⟩ | ⟨rfl, hp⟩
    · obtain ⟨h, hh, rfl⟩ := hp
      refine lv_if_eq (tgt := 39) hx hb dX11_check_22 (by decide) (fun c9 => ?_) (fun c9 => ?_)
      · exact absurd c9 (by decide)
      · refine lv_aload hx hb dX11_check_25 (lv_at hl 0 rfl) ?_
        refine lv_iload hx hb dX11_check_27 (lv_at hl 5 rfl) ?_
        refine lv_iload_n hx hb dX11_check_29 rfl (lv_at hl 4 rfl) ?_
        refine rl_calliQ (rl_runS (As := [.int (nI (h))]) (rest := [.int (x4), .ref (x + 16 + 3 * (3 * k + v))]) hC hW (cC_sortChecked l D t A _ z h hh) cs_X11_84 sm_X11_sortChecked ⟨(Nat.le_of_ble_eq_true rfl), (Nat.le_of_ble_eq_true rfl)⟩ rfl hl.1 rfl (Nat.le_of_ble_eq_true rfl) dX11_check_30 ⟨by simp only [rl_rm]; omega, by simp only [rl_rm]; omega⟩) hW (fun r f1 H locs hp hW => ?_)
        obtain ⟨rfl, rfl⟩ := hp
        refine rl_calliQ (rl_runV (b := x + 16 + 3 * (3 * k + v)) (As := [.int (x4), .int (nI (rt_srt h))]) (rest := []) hC hW (cC_hasPart l D t A _ z x T Th hI (3 * k + v) hj hT4 x4 (rt_srt h) (rt_srt_lt h)) cs_X11_88 im_X7_hasPart sl_X7_hasPart hrv rfl ⟨(Nat.le_of_ble_eq_true rfl), (Nat.le_of_ble_eq_true rfl)⟩ rfl hl.1 rfl (Nat.le_of_ble_eq_true rfl) dX11_check_33 ⟨by simp only [rl_rm]; omega, by simp only [rl_rm]; omega⟩) hW (fun r f1 H locs hp hW => ?_)
        obtain ⟨rfl, hp⟩ := hp
        rcases hp with ⟨rfl, hp⟩ | ⟨rfl, hp⟩
        · obtain ⟨a, ha, rfl, hsa⟩ := hp
          refine lv_if_ne (tgt := 41) hx hb dX11_check_36 (by decide) (fun c9 => ?_) (fun c9 => ?_)
          · refine lv_iload_n hx hb dX11_check_41 rfl (lv_at hl 4 rfl) ?_
            refine lv_iconst (v := (nI (1))) hx hb dX11_check_42 (by decide) ?_
            refine lv_icmp_eq (tgt := 59) hx hb dX11_check_43 (by decide) (fun c5 => ?_) (fun c5 => ?_)
            · have hh1 : h = 1 := (nI_eq (by omega) (by decide)).mp c5
              have hbb : h ≠ 1 → ∃ b : Nat, b < T 2 (3 * k + v) ∧ x5 = nI b ∧ T 4 (5 * (3 * k + v) + b) = 0 := fun w => absurd hh1 w
              have hokk : rt_okk T (nI (2 + k)) (nI v) (nI h) (nI a) x5 k v h a := ⟨hk, hv, hh, rfl, rfl, rfl, ha, rfl, hsa, hbb⟩
              have hkb : rt_kb h (T 2 (3 * k + v)) x5 := fun w => by obtain ⟨b9, w1, w2, -⟩ := hbb w; exact ⟨b9, w1, w2⟩
              have hfz := hW.fresh
              refine lv_aload hx hb dX11_check_59 (lv_at hl 0 rfl) ?_
              refine rl_new hC hW cn_X11_91 (by simp only [rl_rm]; omega) (by simp only [rl_rm]; omega) dX11_check_61 (fun H hW => ?_)
              refine lv_dup hx hb dX11_check_64 rfl ?_
              refine lv_iload_n hx hb dX11_check_65 rfl (lv_at hl 4 rfl) ?_
              refine lv_iload hx hb dX11_check_66 (lv_at hl 5 rfl) ?_
              refine lv_iload hx hb dX11_check_68 (lv_at hl 6 rfl) ?_
              refine rl_callvQ (rl_runI (b := z) (As := [.int (nI (h)), .int (nI (a)), .int (x5)]) (rest := [.ref (z), .ref (x + 16 + 3 * (3 * k + v))]) hC hW (cC_Check_init l D t A _ (z + 1) z (nI h) (nI a) x5 (rl_up_s _ _ _)) cs_X11_93 im_X0_init rfl ⟨(Nat.le_of_ble_eq_true rfl), (Nat.le_of_ble_eq_true rfl)⟩ rfl hl.1 rfl (Nat.le_of_ble_eq_true rfl) dX11_check_70 ⟨by simp only [rl_rm]; omega, by simp only [rl_rm]; omega⟩) hW (fun f1 H locs hp hW => ?_)
              obtain rfl := hp
              rw [rl_up_up2] at hW
              replace hI := hI.le (rl_le.fresh (e := .inr (0, [.int (nI h), .int (nI a), .int x5])) hfz)
              replace hrv := (hI.2.2.1 _ hj).1
              refine rl_calliQ (rl_runV (b := x + 16 + 3 * (3 * k + v)) (As := [.ref (z)]) (rest := []) hC hW (cC_addCheck l D t A _ (z + 1) x T Th hI (3 * k + v) z hj hzx h a x5 ha hkb (rl_up_s _ _ _)) cs_X11_94 im_X7_addCheck sl_X7_addCheck hrv rfl ⟨(Nat.le_of_ble_eq_true rfl), (Nat.le_of_ble_eq_true rfl)⟩ rfl hl.1 rfl (Nat.le_of_ble_eq_true rfl) dX11_check_73 ⟨by simp only [rl_rm]; omega, by simp only [rl_rm]; omega⟩) hW (fun r3 f2 H locs hp hW => ?_)
              rcases hp with ⟨h5, hr3, hf⟩ | ⟨h5, hr3, hI2⟩
              · subst hf
                exact rl_iret hC hW hr hlk (by simp only [rl_rm]; omega) (by simp only [rl_rm]; omega) ⟨_, rfl, ⟨T, Or.inl ⟨k, v, h, a, hokk, Or.inl ⟨h5, hr3, rfl⟩⟩, hI⟩, by omega, by omega⟩ dX11_check_76
              · exact rl_iret hC hW hr hlk (by simp only [rl_rm]; omega) (by simp only [rl_rm]; omega) ⟨_, rfl, ⟨_, Or.inl ⟨k, v, h, a, hokk, Or.inr ⟨h5, hr3, rfl⟩⟩, hI2⟩, by omega, by omega⟩ dX11_check_76
            · have hh1 : h ≠ 1 := fun q9 => c5 (by rw [q9])
              refine lv_aload hx hb dX11_check_46 (lv_at hl 0 rfl) ?_
              refine lv_iload hx hb dX11_check_48 (lv_at hl 6 rfl) ?_
              refine lv_iconst (v := (nI (0))) hx hb dX11_check_50 (by decide) ?_
              refine rl_calliQ (rl_runV (b := x + 16 + 3 * (3 * k + v)) (As := [.int (x5), .int (nI (0))]) (rest := []) hC hW (cC_hasPart l D t A _ z x T Th hI (3 * k + v) hj hT4 x5 0 (by decide)) cs_X11_88 im_X7_hasPart sl_X7_hasPart hrv rfl ⟨(Nat.le_of_ble_eq_true rfl), (Nat.le_of_ble_eq_true rfl)⟩ rfl hl.1 rfl (Nat.le_of_ble_eq_true rfl) dX11_check_51 ⟨by simp only [rl_rm]; omega, by simp only [rl_rm]; omega⟩) hW (fun r f1 H locs hp hW => ?_)
              obtain ⟨rfl, hp⟩ := hp
              rcases hp with ⟨rfl, hp⟩ | ⟨rfl, hp⟩
              · refine lv_if_ne (tgt := 59) hx hb dX11_check_54 (by decide) (fun c9 => ?_) (fun c9 => ?_)
                · have hbb : h ≠ 1 → ∃ b : Nat, b < T 2 (3 * k + v) ∧ x5 = nI b ∧ T 4 (5 * (3 * k + v) + b) = 0 := fun _ => hp
                  have hokk : rt_okk T (nI (2 + k)) (nI v) (nI h) (nI a) x5 k v h a := ⟨hk, hv, hh, rfl, rfl, rfl, ha, rfl, hsa, hbb⟩
                  have hkb : rt_kb h (T 2 (3 * k + v)) x5 := fun w => by obtain ⟨b9, w1, w2, -⟩ := hbb w; exact ⟨b9, w1, w2⟩
                  have hfz := hW.fresh
                  refine lv_aload hx hb dX11_check_59 (lv_at hl 0 rfl) ?_
                  refine rl_new hC hW cn_X11_91 (by simp only [rl_rm]; omega) (by simp only [rl_rm]; omega) dX11_check_61 (fun H hW => ?_)
                  refine lv_dup hx hb dX11_check_64 rfl ?_
                  refine lv_iload_n hx hb dX11_check_65 rfl (lv_at hl 4 rfl) ?_
                  refine lv_iload hx hb dX11_check_66 (lv_at hl 5 rfl) ?_
                  refine lv_iload hx hb dX11_check_68 (lv_at hl 6 rfl) ?_
                  refine rl_callvQ (rl_runI (b := z) (As := [.int (nI (h)), .int (nI (a)), .int (x5)]) (rest := [.ref (z), .ref (x + 16 + 3 * (3 * k + v))]) hC hW (cC_Check_init l D t A _ (z + 1) z (nI h) (nI a) x5 (rl_up_s _ _ _)) cs_X11_93 im_X0_init rfl ⟨(Nat.le_of_ble_eq_true rfl), (Nat.le_of_ble_eq_true rfl)⟩ rfl hl.1 rfl (Nat.le_of_ble_eq_true rfl) dX11_check_70 ⟨by simp only [rl_rm]; omega, by simp only [rl_rm]; omega⟩) hW (fun f1 H locs hp hW => ?_)
                  obtain rfl := hp
                  rw [rl_up_up2] at hW
                  replace hI := hI.le (rl_le.fresh (e := .inr (0, [.int (nI h), .int (nI a), .int x5])) hfz)
                  replace hrv := (hI.2.2.1 _ hj).1
                  refine rl_calliQ (rl_runV (b := x + 16 + 3 * (3 * k + v)) (As := [.ref (z)]) (rest := []) hC hW (cC_addCheck l D t A _ (z + 1) x T Th hI (3 * k + v) z hj hzx h a x5 ha hkb (rl_up_s _ _ _)) cs_X11_94 im_X7_addCheck sl_X7_addCheck hrv rfl ⟨(Nat.le_of_ble_eq_true rfl), (Nat.le_of_ble_eq_true rfl)⟩ rfl hl.1 rfl (Nat.le_of_ble_eq_true rfl) dX11_check_73 ⟨by simp only [rl_rm]; omega, by simp only [rl_rm]; omega⟩) hW (fun r3 f2 H locs hp hW => ?_)
                  rcases hp with ⟨h5, hr3, hf⟩ | ⟨h5, hr3, hI2⟩
                  · subst hf
                    exact rl_iret hC hW hr hlk (by simp only [rl_rm]; omega) (by simp only [rl_rm]; omega) ⟨_, rfl, ⟨T, Or.inl ⟨k, v, h, a, hokk, Or.inl ⟨h5, hr3, rfl⟩⟩, hI⟩, by omega, by omega⟩ dX11_check_76
                  · exact rl_iret hC hW hr hlk (by simp only [rl_rm]; omega) (by simp only [rl_rm]; omega) ⟨_, rfl, ⟨_, Or.inl ⟨k, v, h, a, hokk, Or.inr ⟨h5, hr3, rfl⟩⟩, hI2⟩, by omega, by omega⟩ dX11_check_76
                · exact absurd c9 (by decide)
              · refine lv_if_ne (tgt := 59) hx hb dX11_check_54 (by decide) (fun c9 => ?_) (fun c9 => ?_)
                · exact absurd rfl c9
                · refine lv_iconst (v := (-1)) hx hb dX11_check_57 (by decide) ?_
                  exact rl_iret hC hW hr hlk (by simp only [rl_rm]; omega) (by simp only [rl_rm]; omega) ⟨_, rfl, ⟨T, Or.inr ⟨by decide, rfl, fun ⟨k', v', h', a', q1, q2, q3, q4, q5, q6, q7, q8, q9, qq⟩ => by
                    have e1 := (nI_eq (by omega) (by omega)).mp q4
                    have e2 := (nI_eq (by omega) (by omega)).mp q5
                    have e3 := (nI_eq (by omega) (by omega)).mp q6
                    have e4 : k' = k := by omega
                    subst e4 e2 e3
                    exact hp (qq hh1)⟩, hI⟩, by omega, by omega⟩ dX11_check_58
          · exact absurd c9 (by decide)
        · refine lv_if_ne (tgt := 41) hx hb dX11_check_36 (by decide) (fun c9 => ?_) (fun c9 => ?_)
          · exact absurd rfl c9
          · refine lv_iconst (v := (-1)) hx hb dX11_check_39 (by decide) ?_
            exact rl_iret hC hW hr hlk (by simp only [rl_rm]; omega) (by simp only [rl_rm]; omega) ⟨_, rfl, ⟨T, Or.inr ⟨by decide, rfl, fun ⟨k', v', h', a', q1, q2, q3, q4, q5, q6, q7, q8, q9, qq⟩ => by
              have e1 := (nI_eq (by omega) (by omega)).mp q4
              have e2 := (nI_eq (by omega) (by omega)).mp q5
              have e3 := (nI_eq (by omega) (by omega)).mp q6
              have e4 : k' = k := by omega
              subst e4 e2 e3
              exact hp ⟨a', q7, q8, q9⟩⟩, hI⟩, by omega, by omega⟩ dX11_check_40
    · have hq := hp
      refine lv_if_eq (tgt := 39) hx hb dX11_check_22 (by decide) (fun c9 => ?_) (fun c9 => ?_)
      · refine lv_iconst (v := (-1)) hx hb dX11_check_39 (by decide) ?_
        exact rl_iret hC hW hr hlk (by simp only [rl_rm]; omega) (by simp only [rl_rm]; omega) ⟨_, rfl, ⟨T, Or.inr ⟨by decide, rfl, fun ⟨_, _, h', _, _, _, q1, _, _, q4, _⟩ => hq ⟨h', q1, q4⟩⟩, hI⟩, by omega, by omega⟩ dX11_check_40
      · exact absurd rfl c9
  · have hp' : ¬ ∃ k v : Nat, k < 4 ∧ v < 3 ∧ x1 = nI (2 + k) ∧ x2 = nI v := fun ⟨k, v, q1, q2, q3, q4⟩ => hp ⟨k, v, q1, q2, by rw [q3]; exact rg_li (by omega), q4⟩
    refine lv_astoreN (lv' := [(6, .null), (0, .ref (x)), (1, .int (x1)), (2, .int (x2)), (3, .int (x3)), (4, .int (x4)), (5, .int (x5))]) hx hb dX11_check_10 hl (by decide) rfl (fun ls hl => ?_)
    refine lv_aloadN hx hb dX11_check_12 (lv_at hl 0 rfl) ?_
    refine lv_ifnullN (tgt := 39) hx hb dX11_check_14 (by decide) ?_
    refine lv_iconst (v := (-1)) hx hb dX11_check_39 (by decide) ?_
    exact rl_iret hC hW hr hlk (by simp only [rl_rm]; omega) (by simp only [rl_rm]; omega) ⟨_, rfl, ⟨T, Or.inr ⟨by decide, rfl, fun ⟨k', v', _, _, q1, q2, _, q4, q5, _⟩ => hp' ⟨k', v', q1, q2, q4, q5⟩⟩, hI⟩, by omega, by omega⟩ dX11_check_40

set_option maxHeartbeats 4000000 in
set_option maxRecDepth 100000 in
theorem cC_Row_init (l : Launch) (D : va_G) (t : Nat → ClassId) (A : Nat → Prop) (f : rl_M) (z : Nat) (a n : Nat) (hn : n ≤ 8) (h0 : f a = some (.inr (8, [.null]))) : rl_Met l yX8_init (.code yX8_init cX8_init 2 none) (rl_rm 2 1 8) D t A f z [.ref (a), .int (nI (n))] (rl_pv fun f1 z1 d1 => rl_up (rl_up f z (.inl (t 0, n, .inl (fun _ => 0)))) a (.inr (8, [.ref z])) = f1 ∧ z1 = z + 1 ∧ d1 ≤ 8) := by
  refine rl_begin (own := RX8) (lv := [(0, .ref (a)), (1, .int (nI (n)))]) (by decide +kernel) rfl (Nat.le_of_ble_eq_true rfl) rfl fun p e s m0 args below meth c ls H locs hC hr hlk hnm hW hl hx hb => ?_
  have hfz := hW.fresh
  have hne := rl_ne0 h0 hfz
  refine lv_aload_n hx hb dX8_init_0 rfl (lv_at hl 0 rfl) ?_
  refine rl_callvQ (rl_runI (b := a) (As := []) (rest := []) hC hW (cC_Thing_init l D t A _ z a) cs_X8_3 im_X10_init rfl ⟨(Nat.le_of_ble_eq_true rfl), (Nat.le_of_ble_eq_true rfl)⟩ rfl hl.1 rfl (Nat.le_of_ble_eq_true rfl) dX8_init_1 ⟨by simp only [rl_rm]; omega, by simp only [rl_rm]; omega⟩) hW (fun f1 H locs hp hW => ?_)
  obtain rfl := hp
  refine lv_aload_n hx hb dX8_init_4 rfl (lv_at hl 0 rfl) ?_
  refine lv_iload_n hx hb dX8_init_5 rfl (lv_at hl 1 rfl) ?_
  refine lv_iconst (v := (nI (0))) hx hb dX8_init_6 (by decide) ?_
  refine rl_mmax (x := nI n) (y := nI 0) hC mw_296 hl.1 (Nat.le_of_ble_eq_true rfl) (Nat.le_of_ble_eq_true rfl) (Nat.le_of_ble_eq_true rfl) (Nat.le_of_ble_eq_true rfl) dX8_init_7 ?_
  refine rl_topn (y := nI n) ((rg_max (by omega) (by decide)).trans (by rw [Nat.max_eq_left (Nat.zero_le _)])) ?_
  refine rl_newi (N' := n) hC hW mw_123 (nI_pos (by omega)) (nI_clamp (by omega)) (by omega) (by simp only [rl_rm]; omega) (by simp only [rl_rm]; omega) dX8_init_10 (fun H hW => ?_)
  refine rl_putF (v := .ref (z)) hC hW fp_X8_15 hnm ((rl_up_n hne).trans h0) (Nat.le_of_ble_eq_true rfl) rfl rfl dX8_init_12 (fun H locs hW => ?_)
  replace hW : rl_W D A (rl_up _ a (.inr (8, [.ref z]))) (z + 1) s.heap H locs := hW
  exact rl_vret hC hW hr hlk (by simp only [rl_rm]; omega) (by simp only [rl_rm]; omega) ⟨rfl, rfl, rfl, by omega⟩ dX8_init_15

theorem rl_up_row (f : rl_M) (z : Nat) (e0 e1 e2 : va_E) : rl_up (rl_up (rl_up f z e0) (z + 1) e1) z e2 = rl_up (rl_up f (z + 1) e1) z e2 := by
  funext b
  unfold rl_up
  split
  · rfl
  · rfl
theorem rl_le.row {f : rl_M} {z : Nat} {e0 e1 e2 : va_E} (hz : f z = none) (hz1 : rl_up f z e0 (z + 1) = none) : rl_le f (rl_up (rl_up f (z + 1) e1) z e2) := fun q e hq => by
  rw [rl_up_n (by omega)] at hz1
  exact rl_up2 hq (fun w => by rw [w, hz1] at hq; cases hq) (fun w => by rw [w, hz] at hq; cases hq)

set_option maxHeartbeats 4000000 in
set_option maxRecDepth 100000 in
theorem cC_row (l : Launch) (D : va_G) (t : Nat → ClassId) (A : Nat → Prop) (f : rl_M) (z : Nat) (x : Nat) (T : Nat → Nat → Nat) (Th : Nat → Prop) (hI : CI t f x T Th) (x1 x2 : Int32) : rl_Met l yX11_row (.code yX11_row cX11_row 3 (some FieldType.int)) (rl_rm 4 2 9) D t A f z [.ref (x), .int (x1), .int (x2)] (rl_pi fun r f1 z1 d1 => rt_row x1 x2 r ∧ (∃ Th', CI t f1 x T Th') ∧ z1 ≤ z + 2 ∧ d1 ≤ 9) := by
  refine rl_begin (own := RX11) (lv := [(0, .ref (x)), (1, .int (x1)), (2, .int (x2))]) (by decide +kernel) rfl (Nat.le_of_ble_eq_true rfl) rfl fun p e s m0 args below meth c ls H locs hC hr hlk hnm hW hl hx hb => ?_
  have hzx : x + 58 ≤ z := by obtain ⟨-, -, -, -, -, -, ⟨-, -, ⟨g9, e9⟩⟩, -⟩ := id hI; exact hW.lt e9
  obtain ⟨hF0, hEV, hRV, ⟨v5, v6, v7, v8, v9, v10, v11, hx0⟩, ⟨gpl, hpl, hpt⟩, ⟨⟨ggn, hgn⟩, ⟨ggp, hgp, hgq⟩⟩, ⟨⟨sz, fz, htp, hsz⟩, ⟨glv, hlv⟩, ⟨gfr, hfr⟩⟩, hTH⟩ := id hI
  refine lv_iload_n hx hb dX11_row_0 rfl (lv_at hl 1 rfl) ?_
  refine lv_bipush (v := (nI (10))) hx hb dX11_row_1 (by decide) ?_
  refine rl_calliQ (rl_runS (As := [.int (x1), .int (nI (10))]) (rest := []) hC hW (cC_below l D t A _ z _ (10) (by omega)) cs_X11_48 sm_X11_below ⟨(Nat.le_of_ble_eq_true rfl), (Nat.le_of_ble_eq_true rfl)⟩ rfl hl.1 rfl (Nat.le_of_ble_eq_true rfl) dX11_row_3 ⟨by simp only [rl_rm]; omega, by simp only [rl_rm]; omega⟩) hW (fun r f1 H locs hp hW => ?_)
  obtain ⟨rfl, hp⟩ := hp
  rcases hp with ⟨rfl, hp⟩ | ⟨rfl, hp⟩
  · obtain ⟨p0, hp0, rfl⟩ := hp
    refine lv_if_eq (tgt := 24) hx hb dX11_row_6 (by decide) (fun c9 => ?_) (fun c9 => ?_)
    · exact absurd c9 (by decide)
    · refine lv_iload_n hx hb dX11_row_9 rfl (lv_at hl 2 rfl) ?_
      refine lv_bipush (v := (-3)) hx hb dX11_row_10 (by decide) ?_
      refine lv_icmp_eq (tgt := 26) hx hb dX11_row_12 (by decide) (fun c1 => ?_) (fun c1 => ?_)
      · subst c1
        refine lv_aload_n hx hb dX11_row_26 rfl (lv_at hl 0 rfl) ?_
        refine rl_get (v := .ref (x + 52)) hC hW fl_X11_18 hx0 rfl dX11_row_27 ?_
        refine lv_iload_n hx hb dX11_row_30 rfl (lv_at hl 1 rfl) ?_
        refine lv_iload_n hx hb dX11_row_31 rfl (lv_at hl 2 rfl) ?_
        refine lv_bipush (v := (-3)) hx hb dX11_row_32 (by decide) ?_
        refine lv_icmp_ne (tgt := 41) hx hb dX11_row_34 (by decide) (fun c3 => ?_) (fun c3 => ?_)
        · exact absurd rfl c3
        · refine lv_null hx hb dX11_row_37 ?_
          refine lv_goto (tgt := 49) hx hb dX11_row_38 (by decide) ?_
          refine rl_astT (r := none) (x := x) (T := T) (Th := Th) hC hW hpl (fun q e => by cases e) (by omega) (by decide) dX11_row_49 (fun H locs hW => ?_)
          replace hI := hI.setp (p := p0) (r := none) hpl (fun q e => by cases e)
          refine lv_iconst (v := (nI (1))) hx hb dX11_row_50 (by decide) ?_
          exact rl_iret hC hW hr hlk (by simp only [rl_rm]; omega) (by simp only [rl_rm]; omega) ⟨_, rfl, Or.inl ⟨by decide, ⟨p0, hp0, rfl⟩, Or.inl rfl⟩, ⟨_, hI⟩, by omega, by omega⟩ dX11_row_51
      · refine lv_iload_n hx hb dX11_row_15 rfl (lv_at hl 2 rfl) ?_
        refine lv_bipush (v := (nI (9))) hx hb dX11_row_16 (by decide) ?_
        refine rl_calliQ (rl_runS (As := [.int (x2), .int (nI (9))]) (rest := []) hC hW (cC_below l D t A _ z _ (9) (by omega)) cs_X11_48 sm_X11_below ⟨(Nat.le_of_ble_eq_true rfl), (Nat.le_of_ble_eq_true rfl)⟩ rfl hl.1 rfl (Nat.le_of_ble_eq_true rfl) dX11_row_18 ⟨by simp only [rl_rm]; omega, by simp only [rl_rm]; omega⟩) hW (fun r f1 H locs hp hW => ?_)
        obtain ⟨rfl, hp⟩ := hp
        rcases hp with ⟨rfl, hp⟩ | ⟨rfl, hp⟩
        · obtain ⟨n0, hn0, rfl⟩ := hp
          refine lv_if_ne (tgt := 26) hx hb dX11_row_21 (by decide) (fun c9 => ?_) (fun c9 => ?_)
          · refine lv_aload_n hx hb dX11_row_26 rfl (lv_at hl 0 rfl) ?_
            refine rl_get (v := .ref (x + 52)) hC hW fl_X11_18 hx0 rfl dX11_row_27 ?_
            refine lv_iload_n hx hb dX11_row_30 rfl (lv_at hl 1 rfl) ?_
            refine lv_iload_n hx hb dX11_row_31 rfl (lv_at hl 2 rfl) ?_
            refine lv_bipush (v := (-3)) hx hb dX11_row_32 (by decide) ?_
            refine lv_icmp_ne (tgt := 41) hx hb dX11_row_34 (by decide) (fun c3 => ?_) (fun c3 => ?_)
            · have hfz := hW.fresh
              refine rl_new hC hW cn_X11_103 (by simp only [rl_rm]; omega) (by simp only [rl_rm]; omega) dX11_row_41 (fun H hW => ?_)
              have hfz1 := hW.fresh
              refine lv_dup hx hb dX11_row_44 rfl ?_
              refine lv_iload_n hx hb dX11_row_45 rfl (lv_at hl 2 rfl) ?_
              refine rl_callv (rl_runI (b := z) (As := [.int (nI (n0))]) (rest := [.ref (z), .int (nI (p0)), .ref (x + 52)]) hC hW (cC_Row_init l D t A _ (z + 1) z n0 (by omega) (rl_up_s _ _ _)) cs_X11_105 im_X8_init rfl ⟨(Nat.le_of_ble_eq_true rfl), (Nat.le_of_ble_eq_true rfl)⟩ rfl hl.1 rfl (Nat.le_of_ble_eq_true rfl) dX11_row_46 ⟨by simp only [rl_rm]; omega, by simp only [rl_rm]; omega⟩) hW (fun f1 z1 d1 H locs hp hW hz1 => ?_)
              obtain ⟨rfl, rfl, hd1⟩ := hp
              rw [rl_up_row] at hW
              replace hI := (hI.le (rl_le.row (e1 := .inl (t 0, n0, .inl (fun _ => 0))) (e2 := .inr (8, [.ref (z + 1)])) hfz hfz1)).thing (a := z) ⟨hzx, Or.inr (Or.inl ⟨z + 1, n0, _, by omega, by omega, rl_up_s _ _ _, (rl_up_n (by omega)).trans (rl_up_s _ _ _)⟩)⟩
              obtain ⟨hF0, hEV, hRV, ⟨v5, v6, v7, v8, v9, v10, v11, hx0⟩, ⟨gpl, hpl, hpt⟩, ⟨⟨ggn, hgn⟩, ⟨ggp, hgp, hgq⟩⟩, ⟨⟨sz, fz, htp, hsz⟩, ⟨glv, hlv⟩, ⟨gfr, hfr⟩⟩, hTH⟩ := id hI
              refine rl_astT (r := some z) (x := x) (T := T) (Th := fun y => Th y ∨ y = z) hC hW hpl (fun y e => by cases e; exact hI.th (Or.inr rfl)) (by omega) (by decide) dX11_row_49 (fun H locs hW => ?_)
              replace hI := hI.setp (p := p0) (r := some z) hpl (fun y e => by cases e; exact Or.inr rfl)
              refine lv_iconst (v := (nI (1))) hx hb dX11_row_50 (by decide) ?_
              exact rl_iret hC hW hr hlk (by simp only [rl_rm]; omega) (by simp only [rl_rm]; omega) ⟨_, rfl, Or.inl ⟨by decide, ⟨p0, hp0, rfl⟩, Or.inr ⟨n0, hn0, rfl⟩⟩, ⟨_, hI⟩, by omega, by omega⟩ dX11_row_51
            · exact absurd c3 c1
          · exact absurd c9 (by decide)
        · have hq := hp
          refine lv_if_ne (tgt := 26) hx hb dX11_row_21 (by decide) (fun c9 => ?_) (fun c9 => ?_)
          · exact absurd rfl c9
          · refine lv_iconst (v := (-1)) hx hb dX11_row_24 (by decide) ?_
            exact rl_iret hC hW hr hlk (by simp only [rl_rm]; omega) (by simp only [rl_rm]; omega) ⟨_, rfl, Or.inr ⟨by decide, fun ⟨_, h⟩ => h.elim c1 hq⟩, ⟨_, hI⟩, by omega, by omega⟩ dX11_row_25
  · have hq := hp
    refine lv_if_eq (tgt := 24) hx hb dX11_row_6 (by decide) (fun c9 => ?_) (fun c9 => ?_)
    · refine lv_iconst (v := (-1)) hx hb dX11_row_24 (by decide) ?_
      exact rl_iret hC hW hr hlk (by simp only [rl_rm]; omega) (by simp only [rl_rm]; omega) ⟨_, rfl, Or.inr ⟨by decide, fun ⟨h, _⟩ => hq h⟩, ⟨_, hI⟩, by omega, by omega⟩ dX11_row_25
    · exact absurd rfl c9
