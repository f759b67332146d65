
theorem rt_srt_lt (h : Nat) : rt_srt h < 5 := by unfold rt_srt; split <;> (try split) <;> (try split) <;> omega
theorem rg_may {s0 : Nat} {y : Int32} (h : rt_may s0 y) : ∃ o, rt_of s0 o y ∧ (s0 ≠ 2 → s0 ≠ 3 → o = 0) := by
  by_cases h2 : s0 = 2
  · obtain ⟨o, ho, e⟩ := h.1 h2
    exact ⟨o, ⟨fun _ => ⟨ho, e⟩, fun q => by omega⟩, fun q => absurd h2 q⟩
  · by_cases h3 : s0 = 3
    · obtain ⟨o, ho, e⟩ := h.2 h3
      exact ⟨2 + o, ⟨fun q => absurd q h2, fun _ => ⟨by omega, by omega, e⟩⟩, fun _ q => absurd h3 q⟩
    · exact ⟨0, ⟨fun q => absurd q h2, fun q => absurd q h3⟩, fun _ _ => rfl⟩
theorem rl_le.sub {f f' : rl_M} {z : Nat} (hz : f z = none) (h : ∀ q e, f q = some e → q ≠ z → f' q = some e) : rl_le f f' := fun q e hq => h q e hq (fun w => by rw [w, hz] at hq; cases hq)

set_option maxHeartbeats 4000000 in
set_option maxRecDepth 100000 in
theorem cC_addPart (l : Launch) (D : va_G) (t : Nat → ClassId) (A : Nat → Prop) (f : rl_M) (z : Nat) (x : Nat) (T : Nat → Nat → Nat) (ρ κ : Nat) (G : pG) (E : Nat → Nat → Nat) (gx : Nat → Int32) (mo : Int32) (hI : CJ t f x T ρ κ G E gx mo) (j q : Nat) (hj : j < 12) (hq2 : x + 58 ≤ q) (nm so o0 : Nat) (o : Int32) (hof : rt_of so o0 o) (hq3 : f q = some (.inr (4, [.int (nI nm), .int (nI so), .int o]))) : rl_Met l yX7_addPart (.code yX7_addPart cX7_addPart 2 (some FieldType.int)) (rl_rm 0 0 0) D t A f z [.ref (x + 16 + 3 * j), .ref (q)] (rl_qi z fun r f1 => (T 2 j = 5 ∧ r = -2 ∧ f = f1) ∨ (T 2 j ≠ 5 ∧ r = nI (T 2 j) ∧ CJ t f1 x (rt_addp T j nm so o0) ρ κ G E gx mo)) := by
  refine rl_begin (own := RX7) (lv := [(0, .ref (x + 16 + 3 * j)), (1, .ref (q))]) (by decide +kernel) rfl (Nat.le_of_ble_eq_true rfl) rfl fun p e s m0 args below meth c ls H locs hC hr hlk hnm hW hl hx hb => ?_
  obtain ⟨hrv, hj5, hj2, ⟨gp, hpa, hpp⟩, ⟨gk, hka, hkk⟩⟩ := id (hI.2.2.1 j hj)
  refine lv_aload_n hx hb dX7_addPart_0 rfl (lv_at hl 0 rfl) ?_
  refine rl_get (v := .int (nI (T 2 j))) hC hW fl_X7_30 hrv rfl dX7_addPart_1 ?_
  refine lv_iconst (v := (nI (5))) hx hb dX7_addPart_4 (by decide) ?_
  refine lv_icmp_lt (tgt := 11) hx hb dX7_addPart_5 (by decide) (fun c1 => ?_) (fun c1 => ?_)
  · have hlt : T 2 j < 5 := (nI_ltI (by omega) (by decide)).mp c1
    refine lv_aload_n hx hb dX7_addPart_11 rfl (lv_at hl 0 rfl) ?_
    refine rl_get (v := .ref (x + 17 + 3 * j)) hC hW fl_X7_20 hrv rfl dX7_addPart_12 ?_
    refine lv_aload_n hx hb dX7_addPart_15 rfl (lv_at hl 0 rfl) ?_
    refine rl_get (v := .int (nI (T 2 j))) hC hW fl_X7_30 hrv rfl dX7_addPart_16 ?_
    refine lv_aload_n hx hb dX7_addPart_19 rfl (lv_at hl 1 rfl) ?_
    refine rl_aast_n 5 (g := gp) hC hW rfl hpa hq3 rfl (Or.inl rfl) hlt (by decide) dX7_addPart_20 (fun H locs hW => ?_)
    have hrv2 := rl_up_n (f := f) (a := x + 17 + 3 * j) (b := x + 16 + 3 * j) (e := .inl (t 5, 5, .inr (.inr (.inr (.inr (va_up gp (T 2 j) (some q))))))) (by omega)
    replace hrv2 := hrv2.trans hrv
    refine lv_aload_n hx hb dX7_addPart_21 rfl (lv_at hl 0 rfl) ?_
    refine lv_dup hx hb dX7_addPart_22 rfl ?_
    refine rl_get (v := .int (nI (T 2 j))) hC hW fl_X7_30 hrv2 rfl dX7_addPart_23 ?_
    refine lv_iconst (v := (nI (1))) hx hb dX7_addPart_26 (by decide) ?_
    refine lv_iadd hx hb dX7_addPart_27 ?_
    refine rl_topn (nI_add _ _) ?_
    refine rl_put (v := .int (nI ((T 2 j) + (1)))) hC hW fp_X7_30 hrv2 (Nat.le_of_ble_eq_true rfl) rfl rfl dX7_addPart_28 (fun H locs hW => ?_)
    replace hW : rl_W D A (rl_up _ (x + 16 + 3 * j) (.inr (7, [.int (nI (2 + j / 3)), .int (nI (j % 3)), .ref (x + 17 + 3 * j), .ref (x + 18 + 3 * j), .int (nI (T 2 j + 1)), .int (nI (T 5 j))]))) z s.heap H locs := hW
    refine lv_aload_n hx hb dX7_addPart_31 rfl (lv_at hl 0 rfl) ?_
    refine rl_get (v := .int (nI (T 2 j + 1))) hC hW fl_X7_30 (rl_up_s _ _ _) rfl dX7_addPart_32 ?_
    refine lv_iconst (v := (nI (1))) hx hb dX7_addPart_35 (by decide) ?_
    refine lv_isub hx hb dX7_addPart_36 ?_
    refine rl_topn (rg_sub rfl) ?_
    exact rl_iret hC hW hr hlk (Nat.le_refl _) (Nat.le_refl _) ⟨_, rfl, rfl, rfl, Or.inr ⟨by omega, rfl, hI.addp hj hlt hof hq3 hq2 hpa⟩⟩ dX7_addPart_37
  · have hge : ¬ T 2 j < 5 := fun q9 => c1 ((nI_ltI (by omega) (by decide)).mpr q9)
    refine lv_bipush (v := (-2)) hx hb dX7_addPart_8 (by decide) ?_
    exact rl_iret hC hW hr hlk (Nat.le_refl _) (Nat.le_refl _) ⟨_, rfl, rfl, rfl, Or.inl ⟨by omega, by decide, rfl⟩⟩ dX7_addPart_10

set_option maxHeartbeats 4000000 in
set_option maxRecDepth 100000 in
theorem cC_addCheck (l : Launch) (D : va_G) (t : Nat → ClassId) (A : Nat → Prop) (f : rl_M) (z : Nat) (x : Nat) (T : Nat → Nat → Nat) (ρ κ : Nat) (G : pG) (E : Nat → Nat → Nat) (gx : Nat → Int32) (mo : Int32) (hI : CJ t f x T ρ κ G E gx mo) (j q : Nat) (hj : j < 12) (hq2 : x + 58 ≤ q) (ho a b0 : Nat) (o : Int32) (ha : a < T 2 j) (hkb : rt_kb T j ho b0 o) (hq3 : f q = some (.inr (0, [.int (nI ho), .int (nI a), .int o]))) : rl_Met l yX7_addCheck (.code yX7_addCheck cX7_addCheck 2 (some FieldType.int)) (rl_rm 0 0 0) D t A f z [.ref (x + 16 + 3 * j), .ref (q)] (rl_qi z fun r f1 => (T 5 j = 2 ∧ r = -2 ∧ f = f1) ∨ (T 5 j ≠ 2 ∧ r = nI (T 5 j) ∧ CJ t f1 x (rt_addk T j ho a b0) ρ κ G E gx mo)) := by
  refine rl_begin (own := RX7) (lv := [(0, .ref (x + 16 + 3 * j)), (1, .ref (q))]) (by decide +kernel) rfl (Nat.le_of_ble_eq_true rfl) rfl fun p e s m0 args below meth c ls H locs hC hr hlk hnm hW hl hx hb => ?_
  obtain ⟨hrv, hj5, hj2, ⟨gp, hpa, hpp⟩, ⟨gk, hka, hkk⟩⟩ := id (hI.2.2.1 j hj)
  refine lv_aload_n hx hb dX7_addCheck_0 rfl (lv_at hl 0 rfl) ?_
  refine rl_get (v := .int (nI (T 5 j))) hC hW fl_X7_43 hrv rfl dX7_addCheck_1 ?_
  refine lv_iconst (v := (nI (2))) hx hb dX7_addCheck_4 (by decide) ?_
  refine lv_icmp_lt (tgt := 11) hx hb dX7_addCheck_5 (by decide) (fun c1 => ?_) (fun c1 => ?_)
  · have hlt : T 5 j < 2 := (nI_ltI (by omega) (by decide)).mp c1
    refine lv_aload_n hx hb dX7_addCheck_11 rfl (lv_at hl 0 rfl) ?_
    refine rl_get (v := .ref (x + 18 + 3 * j)) hC hW fl_X7_26 hrv rfl dX7_addCheck_12 ?_
    refine lv_aload_n hx hb dX7_addCheck_15 rfl (lv_at hl 0 rfl) ?_
    refine rl_get (v := .int (nI (T 5 j))) hC hW fl_X7_43 hrv rfl dX7_addCheck_16 ?_
    refine lv_aload_n hx hb dX7_addCheck_19 rfl (lv_at hl 1 rfl) ?_
    refine rl_aast_n 6 (g := gk) hC hW rfl hka hq3 rfl (Or.inl rfl) hlt (by decide) dX7_addCheck_20 (fun H locs hW => ?_)
    have hrv2 := rl_up_n (f := f) (a := x + 18 + 3 * j) (b := x + 16 + 3 * j) (e := .inl (t 6, 2, .inr (.inr (.inr (.inr (va_up gk (T 5 j) (some q))))))) (by omega)
    replace hrv2 := hrv2.trans hrv
    refine lv_aload_n hx hb dX7_addCheck_21 rfl (lv_at hl 0 rfl) ?_
    refine lv_dup hx hb dX7_addCheck_22 rfl ?_
    refine rl_get (v := .int (nI (T 5 j))) hC hW fl_X7_43 hrv2 rfl dX7_addCheck_23 ?_
    refine lv_iconst (v := (nI (1))) hx hb dX7_addCheck_26 (by decide) ?_
    refine lv_iadd hx hb dX7_addCheck_27 ?_
    refine rl_topn (nI_add _ _) ?_
    refine rl_put (v := .int (nI ((T 5 j) + (1)))) hC hW fp_X7_43 hrv2 (Nat.le_of_ble_eq_true rfl) rfl rfl dX7_addCheck_28 (fun H locs hW => ?_)
    replace hW : rl_W D A (rl_up _ (x + 16 + 3 * j) (.inr (7, [.int (nI (2 + j / 3)), .int (nI (j % 3)), .ref (x + 17 + 3 * j), .ref (x + 18 + 3 * j), .int (nI (T 2 j)), .int (nI (T 5 j + 1))]))) z s.heap H locs := hW
    refine lv_aload_n hx hb dX7_addCheck_31 rfl (lv_at hl 0 rfl) ?_
    refine rl_get (v := .int (nI (T 5 j + 1))) hC hW fl_X7_43 (rl_up_s _ _ _) rfl dX7_addCheck_32 ?_
    refine lv_iconst (v := (nI (1))) hx hb dX7_addCheck_35 (by decide) ?_
    refine lv_isub hx hb dX7_addCheck_36 ?_
    refine rl_topn (rg_sub rfl) ?_
    exact rl_iret hC hW hr hlk (Nat.le_refl _) (Nat.le_refl _) ⟨_, rfl, rfl, rfl, Or.inr ⟨by omega, rfl, hI.addk hj hlt ha hkb hq3 hq2 hka⟩⟩ dX7_addCheck_37
  · have hge : ¬ T 5 j < 2 := fun q9 => c1 ((nI_ltI (by omega) (by decide)).mpr q9)
    refine lv_bipush (v := (-2)) hx hb dX7_addCheck_8 (by decide) ?_
    exact rl_iret hC hW hr hlk (Nat.le_refl _) (Nat.le_refl _) ⟨_, rfl, rfl, rfl, Or.inl ⟨by omega, by decide, rfl⟩⟩ dX7_addCheck_10

theorem rg_li {n : Nat} (h : n < 2 ^ 31) : (nI n).toInt64 = lN n := nI_l h
theorem rg_il {x : Int32} {n : Nat} (h : n < 2 ^ 31) (e : x.toInt64 = lN n) : x = nI n := by
  rw [← rg_li h] at e
  apply Int32.toInt_inj.mp
  have := congrArg Int64.toInt e
  rwa [Int32.toInt_toInt64, Int32.toInt_toInt64] at this

set_option maxHeartbeats 4000000 in
set_option maxRecDepth 100000 in
theorem cC_part (l : Launch) (D : va_G) (t : Nat → ClassId) (A : Nat → Prop) (f : rl_M) (z : Nat) (x : Nat) (T : Nat → Nat → Nat) (ρ κ : Nat) (G : pG) (E : Nat → Nat → Nat) (hI : CI t f x T ρ κ G E) (hT : rt_ok T) (hG : GW T ρ κ G) (x1 x2 x3 x4 x5 : Int32) : rl_Met l yX11_part (.code yX11_part cX11_part 7 (some FieldType.int)) (rl_rm 4 1 3) D t A f z [.ref (x), .int (x1), .int (x2), .int (x3), .int (x4), .int (x5)] (rl_pi fun r f1 z1 d1 => (∃ T' E', rt_par T x1 x2 x3 x4 x5 r T' ∧ CI t f1 x T' ρ κ G E') ∧ z1 ≤ z + 1 ∧ d1 ≤ 3) := by
  refine rl_begin (own := RX11) (lv := [(0, .ref (x)), (1, .int (x1)), (2, .int (x2)), (3, .int (x3)), (4, .int (x4)), (5, .int (x5))]) (by decide +kernel) rfl (Nat.le_of_ble_eq_true rfl) rfl fun p e s m0 args below meth c ls H locs hC hr hlk hnm hW hl hx hb => ?_
  have hzx : x + 58 ≤ z := by obtain ⟨-, -, -, -, -, -, ⟨-, -, ⟨g9, e9⟩⟩, -⟩ := id hI; exact hW.lt e9
  replace hI : CJ t _ x T ρ κ G E (G.2.1 0) (G.2.1 0 3) := hI
  obtain ⟨hF0, hEV, hRV, ⟨v5, hx0⟩, ⟨gpl, hpl, hpt⟩, ⟨⟨ggn, hgn, hgnE⟩, ⟨ggp, hgp, hgq⟩⟩, ⟨⟨fz, htp⟩, ⟨glv, hlv, hlvE⟩, ⟨gfr, hfr⟩⟩, hRW, hRC, hIN⟩ := id hI
  obtain ⟨hk0, -, -⟩ := id hI.1
  refine lv_aload_n hx hb dX11_part_0 rfl (lv_at hl 0 rfl) ?_
  refine rl_get (v := .ref (x + 1)) hC hW fl_X11_10 hx0 rfl dX11_part_1 ?_
  refine lv_iload_n hx hb dX11_part_4 rfl (lv_at hl 1 rfl) ?_
  refine lv_i2l hx hb dX11_part_5 rfl ?_
  refine lv_iload_n hx hb dX11_part_6 rfl (lv_at hl 2 rfl) ?_
  refine rl_callqQ (rl_runV (b := x + 1) (As := [.long ((x1).toInt64), .int (x2)]) (rest := []) hC hW (cC_recordVersion l D t A _ z x T ρ κ G E _ _ hI _ _) cs_X11_62 im_X3_recordVersion sl_X3_recordVersion hk0 rfl ⟨(Nat.le_of_ble_eq_true rfl), (Nat.le_of_ble_eq_true rfl)⟩ rfl hl.1 rfl (Nat.le_of_ble_eq_true rfl) dX11_part_7 ⟨by simp only [rl_rm]; omega, by simp only [rl_rm]; omega⟩) hW (fun r1 f1 H locs hp hW => ?_)
  obtain ⟨rfl, hp⟩ := hp
  rcases hp with ⟨k, v, hk, hv, h1, rfl, rfl⟩ | ⟨rfl, hp⟩
  · have hx1 : x1 = nI (2 + k) := rg_il (by omega) h1
    subst hx1
    have hj : 3 * k + v < 12 := by omega
    refine lv_astore (lv' := [(6, .ref (x + 16 + 3 * (3 * k + v))), (0, .ref (x)), (1, .int (nI (2 + k))), (2, .int (nI (v))), (3, .int (x3)), (4, .int (x4)), (5, .int (x5))]) hx hb dX11_part_10 hl (by decide) rfl (fun ls hl => ?_)
    refine lv_aload hx hb dX11_part_12 (lv_at hl 0 rfl) ?_
    refine lv_ifnull hx hb dX11_part_14 ?_
    refine lv_iload_n hx hb dX11_part_17 rfl (lv_at hl 4 rfl) ?_
    refine lv_bipush (v := (nI (10))) hx hb dX11_part_18 (by decide) ?_
    refine rl_calliQ (rl_runS (As := [.int (x3), .int (nI (10))]) (rest := []) hC hW (cC_below l D t A _ z _ (10) (by omega)) cs_X11_48 sm_X11_below ⟨(Nat.le_of_ble_eq_true rfl), (Nat.le_of_ble_eq_true rfl)⟩ rfl hl.1 rfl (Nat.le_of_ble_eq_true rfl) dX11_part_20 ⟨by simp only [rl_rm]; omega, by simp only [rl_rm]; omega⟩) hW (fun r f1 H locs hp hW => ?_)
    obtain ⟨rfl, hp⟩ := hp
    rcases hp with ⟨rfl, hp⟩ | ⟨rfl, hp⟩
    · obtain ⟨n, hn, rfl⟩ := hp
      refine lv_if_eq (tgt := 45) hx hb dX11_part_23 (by decide) (fun c9 => ?_) (fun c9 => ?_)
      · exact absurd c9 (by decide)
      · refine lv_iload hx hb dX11_part_26 (lv_at hl 5 rfl) ?_
        refine lv_iconst (v := (nI (5))) hx hb dX11_part_28 (by decide) ?_
        refine rl_calliQ (rl_runS (As := [.int (x4), .int (nI (5))]) (rest := []) hC hW (cC_below l D t A _ z _ (5) (by omega)) cs_X11_48 sm_X11_below ⟨(Nat.le_of_ble_eq_true rfl), (Nat.le_of_ble_eq_true rfl)⟩ rfl hl.1 rfl (Nat.le_of_ble_eq_true rfl) dX11_part_29 ⟨by simp only [rl_rm]; omega, by simp only [rl_rm]; omega⟩) hW (fun r f1 H locs hp hW => ?_)
        obtain ⟨rfl, hp⟩ := hp
        rcases hp with ⟨rfl, hp⟩ | ⟨rfl, hp⟩
        · obtain ⟨s0, hs0, rfl⟩ := hp
          refine lv_if_eq (tgt := 45) hx hb dX11_part_32 (by decide) (fun c9 => ?_) (fun c9 => ?_)
          · exact absurd c9 (by decide)
          · refine lv_iload hx hb dX11_part_35 (lv_at hl 5 rfl) ?_
            refine lv_iload hx hb dX11_part_37 (lv_at hl 6 rfl) ?_
            refine rl_calliQ (rl_runS (As := [.int (nI (s0)), .int (x5)]) (rest := []) hC hW (cC_mayBeOf l D t A _ z s0 hs0 x5) cs_X11_66 sm_X11_mayBeOf ⟨(Nat.le_of_ble_eq_true rfl), (Nat.le_of_ble_eq_true rfl)⟩ rfl hl.1 rfl (Nat.le_of_ble_eq_true rfl) dX11_part_39 ⟨by simp only [rl_rm]; omega, by simp only [rl_rm]; omega⟩) hW (fun r f1 H locs hp hW => ?_)
            obtain ⟨rfl, hp⟩ := hp
            rcases hp with ⟨rfl, hp⟩ | ⟨rfl, hp⟩
            · have hmay := hp
              refine lv_if_ne (tgt := 47) hx hb dX11_part_42 (by decide) (fun c9 => ?_) (fun c9 => ?_)
              · obtain ⟨hrv, hj5, -⟩ := id (hI.2.2.1 _ hj)
                have hT3 : ∀ p, p < T 2 (3 * k + v) → T 3 (5 * (3 * k + v) + p) < 10 := fun p hp => (hT.2.2.1 _ p hj hp).1
                refine lv_aload hx hb dX11_part_47 (lv_at hl 0 rfl) ?_
                refine lv_iload_n hx hb dX11_part_49 rfl (lv_at hl 4 rfl) ?_
                refine lv_i2l hx hb dX11_part_50 rfl ?_
                refine rl_calliQ (rl_runV (b := x + 16 + 3 * (3 * k + v)) (As := [.long ((nI (n)).toInt64)]) (rest := []) hC hW (cC_partNamed l D t A _ z x T ρ κ G E _ _ hI (3 * k + v) hj _) cs_X11_69 im_X7_partNamed sl_X7_partNamed hrv rfl ⟨(Nat.le_of_ble_eq_true rfl), (Nat.le_of_ble_eq_true rfl)⟩ rfl hl.1 rfl (Nat.le_of_ble_eq_true rfl) dX11_part_51 ⟨by simp only [rl_rm]; omega, by simp only [rl_rm]; omega⟩) hW (fun r2 f1 H locs hp hW => ?_)
                obtain ⟨rfl, hp⟩ := hp
                rcases hp with ⟨i, hi, rfl, hp⟩ | ⟨rfl, hp⟩
                · have hTi := hT3 i hi
                  have he : (nI (T 3 (5 * (3 * k + v) + i))).toInt64 = (nI n).toInt64 := (pu_find_lt hp).2
                  refine lv_bipush (v := (-3)) hx hb dX11_part_54 (by decide) ?_
                  refine lv_icmp_eq (tgt := 61) hx hb dX11_part_56 (by decide) (fun c_1 => ?_) (fun c_1 => ?_)
                  · exact absurd c_1 (rg_mn (by omega) (by decide))
                  · refine lv_iconst (v := (-1)) hx hb dX11_part_59 (by decide) ?_
                    exact rl_iret hC hW hr hlk (by simp only [rl_rm]; omega) (by simp only [rl_rm]; omega) ⟨_, rfl, ⟨T, E, Or.inr ⟨by decide, rfl, fun ⟨k', v', n', s', o', q1, q2, q3, q3', q4, q5, q6, q7, q8, q9, q10, qq⟩ => by
                      have e1 := (nI_eq (by omega) (by omega)).mp q4
                      have e2 := (nI_eq (by omega) (by omega)).mp q5
                      have e3 := (nI_eq (by omega) (by omega)).mp q6
                      have e4 : k' = k := by omega
                      subst e4 e2 e3
                      exact qq i hi ((rg_l (by omega) (by omega)).mp he)⟩, hI⟩, by omega, by omega⟩ dX11_part_60
                · refine lv_bipush (v := (-3)) hx hb dX11_part_54 (by decide) ?_
                  refine lv_icmp_eq (tgt := 61) hx hb dX11_part_56 (by decide) (fun c7 => ?_) (fun c7 => ?_)
                  · have hno : ∀ i, i < T 2 (3 * k + v) → T 3 (5 * (3 * k + v) + i) ≠ n := fun i hi e => pu_find_no hp i hi (by show (nI (T 3 (5 * (3 * k + v) + i))).toInt64 = _; rw [e])
                    obtain ⟨o0, hof, ho0⟩ := rg_may hmay
                    have hokp : rt_okp T (nI (2 + k)) (nI v) (nI n) (nI s0) x5 k v n s0 o0 := ⟨hk, hv, hn, hs0, rfl, rfl, rfl, rfl, hof.1, hof.2, ho0, hno⟩
                    have hfz := hW.fresh
                    refine lv_aload hx hb dX11_part_61 (lv_at hl 0 rfl) ?_
                    refine rl_new hC hW cn_X11_75 (by simp only [rl_rm]; omega) (by simp only [rl_rm]; omega) dX11_part_63 (fun H hW => ?_)
                    refine lv_dup hx hb dX11_part_66 rfl ?_
                    refine lv_iload_n hx hb dX11_part_67 rfl (lv_at hl 4 rfl) ?_
                    refine lv_iload hx hb dX11_part_68 (lv_at hl 5 rfl) ?_
                    refine lv_iload hx hb dX11_part_70 (lv_at hl 6 rfl) ?_
                    refine rl_callvQ (rl_runI (b := z) (As := [.int (nI (n)), .int (nI (s0)), .int (x5)]) (rest := [.ref (z), .ref (x + 16 + 3 * (3 * k + v))]) hC hW (cC_Part_init l D t A _ (z + 1) z (nI n) (nI s0) x5 (rl_up_s _ _ _)) cs_X11_77 im_X4_init rfl ⟨(Nat.le_of_ble_eq_true rfl), (Nat.le_of_ble_eq_true rfl)⟩ rfl hl.1 rfl (Nat.le_of_ble_eq_true rfl) dX11_part_72 ⟨by simp only [rl_rm]; omega, by simp only [rl_rm]; omega⟩) hW (fun f1 H locs hp hW => ?_)
                    obtain rfl := hp
                    rw [rl_up_up2] at hW
                    replace hI := hI.le (rl_le.fresh (e := .inr (4, [.int (nI n), .int (nI s0), .int x5])) hfz)
                    replace hrv := (hI.2.2.1 _ hj).1
                    refine rl_calliQ (rl_runV (b := x + 16 + 3 * (3 * k + v)) (As := [.ref (z)]) (rest := []) hC hW (cC_addPart l D t A _ (z + 1) x T ρ κ G E _ _ hI (3 * k + v) z hj hzx n s0 o0 x5 hof (rl_up_s _ _ _)) cs_X11_80 im_X7_addPart sl_X7_addPart hrv rfl ⟨(Nat.le_of_ble_eq_true rfl), (Nat.le_of_ble_eq_true rfl)⟩ rfl hl.1 rfl (Nat.le_of_ble_eq_true rfl) dX11_part_75 ⟨by simp only [rl_rm]; omega, by simp only [rl_rm]; omega⟩) hW (fun r3 f2 H locs hp hW => ?_)
                    rcases hp with ⟨h5, hr3, hf⟩ | ⟨h5, hr3, hI2⟩
                    · subst hf
                      exact rl_iret hC hW hr hlk (by simp only [rl_rm]; omega) (by simp only [rl_rm]; omega) ⟨_, rfl, ⟨T, E, Or.inl ⟨k, v, n, s0, o0, hokp, Or.inl ⟨h5, hr3, rfl⟩⟩, hI⟩, by omega, by omega⟩ dX11_part_78
                    · exact rl_iret hC hW hr hlk (by simp only [rl_rm]; omega) (by simp only [rl_rm]; omega) ⟨_, rfl, ⟨_, E, Or.inl ⟨k, v, n, s0, o0, hokp, Or.inr ⟨h5, hr3, rfl⟩⟩, hI2⟩, by omega, by omega⟩ dX11_part_78
                  · exact absurd rfl c7
              · exact absurd c9 (by decide)
            · have hmay := hp
              refine lv_if_ne (tgt := 47) hx hb dX11_part_42 (by decide) (fun c9 => ?_) (fun c9 => ?_)
              · exact absurd rfl c9
              · refine lv_iconst (v := (-1)) hx hb dX11_part_45 (by decide) ?_
                exact rl_iret hC hW hr hlk (by simp only [rl_rm]; omega) (by simp only [rl_rm]; omega) ⟨_, rfl, ⟨T, E, Or.inr ⟨by decide, rfl, fun ⟨k', v', n', s', o', q1, q2, q3, q3', q4, q5, q6, q7, q8, q9, q10, qq⟩ => by
                  have e1 := (nI_eq (by omega) (by omega)).mp q7
                  subst e1
                  exact hmay ⟨fun w => ⟨o', q8 w⟩, fun w => by
                    obtain ⟨w1, w2, w3⟩ := q9 w
                    exact ⟨o' - 2, by omega, by rw [w3]; congr 1; omega⟩⟩⟩, hI⟩, by omega, by omega⟩ dX11_part_46
        · have hq := hp
          refine lv_if_eq (tgt := 45) hx hb dX11_part_32 (by decide) (fun c9 => ?_) (fun c9 => ?_)
          · refine lv_iconst (v := (-1)) hx hb dX11_part_45 (by decide) ?_
            exact rl_iret hC hW hr hlk (by simp only [rl_rm]; omega) (by simp only [rl_rm]; omega) ⟨_, rfl, ⟨T, E, Or.inr ⟨by decide, rfl, fun ⟨_, _, _, s', _, _, _, _, q1, _, _, _, q4, _⟩ => hq ⟨s', q1, q4⟩⟩, hI⟩, by omega, by omega⟩ dX11_part_46
          · exact absurd rfl c9
    · have hq := hp
      refine lv_if_eq (tgt := 45) hx hb dX11_part_23 (by decide) (fun c9 => ?_) (fun c9 => ?_)
      · refine lv_iconst (v := (-1)) hx hb dX11_part_45 (by decide) ?_
        exact rl_iret hC hW hr hlk (by simp only [rl_rm]; omega) (by simp only [rl_rm]; omega) ⟨_, rfl, ⟨T, E, Or.inr ⟨by decide, rfl, fun ⟨_, _, n', _, _, _, _, q1, _, _, _, q4, _⟩ => hq ⟨n', q1, q4⟩⟩, hI⟩, by omega, by omega⟩ dX11_part_46
      · exact absurd rfl c9
  · have hp' : ¬ ∃ k v : Nat, k < 4 ∧ v < 3 ∧ x1 = nI (2 + k) ∧ x2 = nI v := fun ⟨k, v, q1, q2, q3, q4⟩ => hp ⟨k, v, q1, q2, by rw [q3]; exact rg_li (by omega), q4⟩
    refine lv_astoreN (lv' := [(6, .null), (0, .ref (x)), (1, .int (x1)), (2, .int (x2)), (3, .int (x3)), (4, .int (x4)), (5, .int (x5))]) hx hb dX11_part_10 hl (by decide) rfl (fun ls hl => ?_)
    refine lv_aloadN hx hb dX11_part_12 (lv_at hl 0 rfl) ?_
    refine lv_ifnullN (tgt := 45) hx hb dX11_part_14 (by decide) ?_
    refine lv_iconst (v := (-1)) hx hb dX11_part_45 (by decide) ?_
    exact rl_iret hC hW hr hlk (by simp only [rl_rm]; omega) (by simp only [rl_rm]; omega) ⟨_, rfl, ⟨T, E, Or.inr ⟨by decide, rfl, fun ⟨k', v', _, _, _, q1, q2, _, _, q4, q5, _⟩ => hp' ⟨k', v', q1, q2, q4, q5⟩⟩, hI⟩, by omega, by omega⟩ dX11_part_46

set_option maxHeartbeats 4000000 in
set_option maxRecDepth 100000 in
theorem cC_check (l : Launch) (D : va_G) (t : Nat → ClassId) (A : Nat → Prop) (f : rl_M) (z : Nat) (x : Nat) (T : Nat → Nat → Nat) (ρ κ : Nat) (G : pG) (E : Nat → Nat → Nat) (hI : CI t f x T ρ κ G E) (hT : rt_ok T) (hG : GW T ρ κ G) (x1 x2 x3 x4 x5 : Int32) : rl_Met l yX11_check (.code yX11_check cX11_check 7 (some FieldType.int)) (rl_rm 4 1 3) D t A f z [.ref (x), .int (x1), .int (x2), .int (x3), .int (x4), .int (x5)] (rl_pi fun r f1 z1 d1 => (∃ T' E', rt_chk T x1 x2 x3 x4 x5 r T' ∧ CI t f1 x T' ρ κ G E') ∧ z1 ≤ z + 1 ∧ d1 ≤ 3) := by
  refine rl_begin (own := RX11) (lv := [(0, .ref (x)), (1, .int (x1)), (2, .int (x2)), (3, .int (x3)), (4, .int (x4)), (5, .int (x5))]) (by decide +kernel) rfl (Nat.le_of_ble_eq_true rfl) rfl fun p e s m0 args below meth c ls H locs hC hr hlk hnm hW hl hx hb => ?_
  have hzx : x + 58 ≤ z := by obtain ⟨-, -, -, -, -, -, ⟨-, -, ⟨g9, e9⟩⟩, -⟩ := id hI; exact hW.lt e9
  replace hI : CJ t _ x T ρ κ G E (G.2.1 0) (G.2.1 0 3) := hI
  obtain ⟨hF0, hEV, hRV, ⟨v5, hx0⟩, ⟨gpl, hpl, hpt⟩, ⟨⟨ggn, hgn, hgnE⟩, ⟨ggp, hgp, hgq⟩⟩, ⟨⟨fz, htp⟩, ⟨glv, hlv, hlvE⟩, ⟨gfr, hfr⟩⟩, hRW, hRC, hIN⟩ := id hI
  obtain ⟨hk0, -, -⟩ := id hI.1
  refine lv_aload_n hx hb dX11_check_0 rfl (lv_at hl 0 rfl) ?_
  refine rl_get (v := .ref (x + 1)) hC hW fl_X11_10 hx0 rfl dX11_check_1 ?_
  refine lv_iload_n hx hb dX11_check_4 rfl (lv_at hl 1 rfl) ?_
  refine lv_i2l hx hb dX11_check_5 rfl ?_
  refine lv_iload_n hx hb dX11_check_6 rfl (lv_at hl 2 rfl) ?_
  refine rl_callqQ (rl_runV (b := x + 1) (As := [.long ((x1).toInt64), .int (x2)]) (rest := []) hC hW (cC_recordVersion l D t A _ z x T ρ κ G E _ _ hI _ _) cs_X11_62 im_X3_recordVersion sl_X3_recordVersion hk0 rfl ⟨(Nat.le_of_ble_eq_true rfl), (Nat.le_of_ble_eq_true rfl)⟩ rfl hl.1 rfl (Nat.le_of_ble_eq_true rfl) dX11_check_7 ⟨by simp only [rl_rm]; omega, by simp only [rl_rm]; omega⟩) hW (fun r1 f1 H locs hp hW => ?_)
  obtain ⟨rfl, hp⟩ := hp
  rcases hp with ⟨k, v, hk, hv, h1, rfl, rfl⟩ | ⟨rfl, hp⟩
  · have hx1 : x1 = nI (2 + k) := rg_il (by omega) h1
    subst hx1
    have hj : 3 * k + v < 12 := by omega
    obtain ⟨hrv, hj5, -⟩ := id (hI.2.2.1 _ hj)
    have hT4 : ∀ p, p < T 2 (3 * k + v) → T 4 (5 * (3 * k + v) + p) < 2 ^ 31 := fun p hp => by have := (hT.2.2.1 _ p hj hp).2.1; omega
    refine lv_astore (lv' := [(6, .ref (x + 16 + 3 * (3 * k + v))), (0, .ref (x)), (1, .int (nI (2 + k))), (2, .int (nI (v))), (3, .int (x3)), (4, .int (x4)), (5, .int (x5))]) hx hb dX11_check_10 hl (by decide) rfl (fun ls hl => ?_)
    refine lv_aload hx hb dX11_check_12 (lv_at hl 0 rfl) ?_
    refine lv_ifnull hx hb dX11_check_14 ?_
    refine lv_iload_n hx hb dX11_check_17 rfl (lv_at hl 4 rfl) ?_
    refine lv_iconst (v := (nI (5))) hx hb dX11_check_18 (by decide) ?_
    refine rl_calliQ (rl_runS (As := [.int (x3), .int (nI (5))]) (rest := []) hC hW (cC_below l D t A _ z _ (5) (by omega)) cs_X11_48 sm_X11_below ⟨(Nat.le_of_ble_eq_true rfl), (Nat.le_of_ble_eq_true rfl)⟩ rfl hl.1 rfl (Nat.le_of_ble_eq_true rfl) dX11_check_19 ⟨by simp only [rl_rm]; omega, by simp only [rl_rm]; omega⟩) hW (fun r f1 H locs hp hW => ?_)
    obtain ⟨rfl, hp⟩ := hp
    rcases hp with ⟨rfl, hp⟩ | ⟨rfl, hp⟩
    · obtain ⟨h, hh, rfl⟩ := hp
      refine lv_if_eq (tgt := 39) hx hb dX11_check_22 (by decide) (fun c9 => ?_) (fun c9 => ?_)
      · exact absurd c9 (by decide)
      · refine lv_aload hx hb dX11_check_25 (lv_at hl 0 rfl) ?_
        refine lv_iload hx hb dX11_check_27 (lv_at hl 5 rfl) ?_
        refine lv_iload_n hx hb dX11_check_29 rfl (lv_at hl 4 rfl) ?_
        refine rl_calliQ (rl_runS (As := [.int (nI (h))]) (rest := [.int (x4), .ref (x + 16 + 3 * (3 * k + v))]) hC hW (cC_sortChecked l D t A _ z h hh) cs_X11_84 sm_X11_sortChecked ⟨(Nat.le_of_ble_eq_true rfl), (Nat.le_of_ble_eq_true rfl)⟩ rfl hl.1 rfl (Nat.le_of_ble_eq_true rfl) dX11_check_30 ⟨by simp only [rl_rm]; omega, by simp only [rl_rm]; omega⟩) hW (fun r f1 H locs hp hW => ?_)
        obtain ⟨rfl, rfl⟩ := hp
        refine rl_calliQ (rl_runV (b := x + 16 + 3 * (3 * k + v)) (As := [.int (x4), .int (nI (rt_srt h))]) (rest := []) hC hW (cC_hasPart l D t A _ z x T ρ κ G E _ _ hI (3 * k + v) hj hT4 x4 (rt_srt h) (rt_srt_lt h)) cs_X11_88 im_X7_hasPart sl_X7_hasPart hrv rfl ⟨(Nat.le_of_ble_eq_true rfl), (Nat.le_of_ble_eq_true rfl)⟩ rfl hl.1 rfl (Nat.le_of_ble_eq_true rfl) dX11_check_33 ⟨by simp only [rl_rm]; omega, by simp only [rl_rm]; omega⟩) hW (fun r f1 H locs hp hW => ?_)
        obtain ⟨rfl, hp⟩ := hp
        rcases hp with ⟨rfl, hp⟩ | ⟨rfl, hp⟩
        · obtain ⟨a, ha, rfl, hsa⟩ := hp
          refine lv_if_ne (tgt := 41) hx hb dX11_check_36 (by decide) (fun c9 => ?_) (fun c9 => ?_)
          · refine lv_iload_n hx hb dX11_check_41 rfl (lv_at hl 4 rfl) ?_
            refine lv_iconst (v := (nI (1))) hx hb dX11_check_42 (by decide) ?_
            refine lv_icmp_eq (tgt := 59) hx hb dX11_check_43 (by decide) (fun c5 => ?_) (fun c5 => ?_)
            · have hh1 : h = 1 := (nI_eq (by omega) (by decide)).mp c5
              have hbb : ∃ b0 : Nat, (h ≠ 1 → b0 < T 2 (3 * k + v) ∧ x5 = nI b0 ∧ T 4 (5 * (3 * k + v) + b0) = 0) ∧ (h = 1 → b0 = 0) := ⟨0, fun w => absurd hh1 w, fun _ => rfl⟩
              obtain ⟨b0, hbb, hb1⟩ := hbb
              have hokk : rt_okk T (nI (2 + k)) (nI v) (nI h) (nI a) x5 k v h a b0 := ⟨hk, hv, hh, rfl, rfl, rfl, ha, rfl, hsa, hbb, hb1⟩
              have hkb : rt_kb T (3 * k + v) h b0 x5 := hbb
              have hfz := hW.fresh
              refine lv_aload hx hb dX11_check_59 (lv_at hl 0 rfl) ?_
              refine rl_new hC hW cn_X11_91 (by simp only [rl_rm]; omega) (by simp only [rl_rm]; omega) dX11_check_61 (fun H hW => ?_)
              refine lv_dup hx hb dX11_check_64 rfl ?_
              refine lv_iload_n hx hb dX11_check_65 rfl (lv_at hl 4 rfl) ?_
              refine lv_iload hx hb dX11_check_66 (lv_at hl 5 rfl) ?_
              refine lv_iload hx hb dX11_check_68 (lv_at hl 6 rfl) ?_
              refine rl_callvQ (rl_runI (b := z) (As := [.int (nI (h)), .int (nI (a)), .int (x5)]) (rest := [.ref (z), .ref (x + 16 + 3 * (3 * k + v))]) hC hW (cC_Check_init l D t A _ (z + 1) z (nI h) (nI a) x5 (rl_up_s _ _ _)) cs_X11_93 im_X0_init rfl ⟨(Nat.le_of_ble_eq_true rfl), (Nat.le_of_ble_eq_true rfl)⟩ rfl hl.1 rfl (Nat.le_of_ble_eq_true rfl) dX11_check_70 ⟨by simp only [rl_rm]; omega, by simp only [rl_rm]; omega⟩) hW (fun f1 H locs hp hW => ?_)
              obtain rfl := hp
              rw [rl_up_up2] at hW
              replace hI := hI.le (rl_le.fresh (e := .inr (0, [.int (nI h), .int (nI a), .int x5])) hfz)
              replace hrv := (hI.2.2.1 _ hj).1
              refine rl_calliQ (rl_runV (b := x + 16 + 3 * (3 * k + v)) (As := [.ref (z)]) (rest := []) hC hW (cC_addCheck l D t A _ (z + 1) x T ρ κ G E _ _ hI (3 * k + v) z hj hzx h a b0 x5 ha hkb (rl_up_s _ _ _)) cs_X11_94 im_X7_addCheck sl_X7_addCheck hrv rfl ⟨(Nat.le_of_ble_eq_true rfl), (Nat.le_of_ble_eq_true rfl)⟩ rfl hl.1 rfl (Nat.le_of_ble_eq_true rfl) dX11_check_73 ⟨by simp only [rl_rm]; omega, by simp only [rl_rm]; omega⟩) hW (fun r3 f2 H locs hp hW => ?_)
              rcases hp with ⟨h5, hr3, hf⟩ | ⟨h5, hr3, hI2⟩
              · subst hf
                exact rl_iret hC hW hr hlk (by simp only [rl_rm]; omega) (by simp only [rl_rm]; omega) ⟨_, rfl, ⟨T, E, Or.inl ⟨k, v, h, a, b0, hokk, Or.inl ⟨h5, hr3, rfl⟩⟩, hI⟩, by omega, by omega⟩ dX11_check_76
              · exact rl_iret hC hW hr hlk (by simp only [rl_rm]; omega) (by simp only [rl_rm]; omega) ⟨_, rfl, ⟨_, E, Or.inl ⟨k, v, h, a, b0, hokk, Or.inr ⟨h5, hr3, rfl⟩⟩, hI2⟩, by omega, by omega⟩ dX11_check_76
            · have hh1 : h ≠ 1 := fun q9 => c5 (by rw [q9])
              refine lv_aload hx hb dX11_check_46 (lv_at hl 0 rfl) ?_
              refine lv_iload hx hb dX11_check_48 (lv_at hl 6 rfl) ?_
              refine lv_iconst (v := (nI (0))) hx hb dX11_check_50 (by decide) ?_
              refine rl_calliQ (rl_runV (b := x + 16 + 3 * (3 * k + v)) (As := [.int (x5), .int (nI (0))]) (rest := []) hC hW (cC_hasPart l D t A _ z x T ρ κ G E _ _ hI (3 * k + v) hj hT4 x5 0 (by decide)) cs_X11_88 im_X7_hasPart sl_X7_hasPart hrv rfl ⟨(Nat.le_of_ble_eq_true rfl), (Nat.le_of_ble_eq_true rfl)⟩ rfl hl.1 rfl (Nat.le_of_ble_eq_true rfl) dX11_check_51 ⟨by simp only [rl_rm]; omega, by simp only [rl_rm]; omega⟩) hW (fun r f1 H locs hp hW => ?_)
              obtain ⟨rfl, hp⟩ := hp
              rcases hp with ⟨rfl, hp⟩ | ⟨rfl, hp⟩
              · refine lv_if_ne (tgt := 59) hx hb dX11_check_54 (by decide) (fun c9 => ?_) (fun c9 => ?_)
                · have hbb : ∃ b0 : Nat, (h ≠ 1 → b0 < T 2 (3 * k + v) ∧ x5 = nI b0 ∧ T 4 (5 * (3 * k + v) + b0) = 0) ∧ (h = 1 → b0 = 0) := by obtain ⟨b9, w9⟩ := hp; exact ⟨b9, fun _ => w9, fun w => absurd w hh1⟩
                  obtain ⟨b0, hbb, hb1⟩ := hbb
                  have hokk : rt_okk T (nI (2 + k)) (nI v) (nI h) (nI a) x5 k v h a b0 := ⟨hk, hv, hh, rfl, rfl, rfl, ha, rfl, hsa, hbb, hb1⟩
                  have hkb : rt_kb T (3 * k + v) h b0 x5 := hbb
                  have hfz := hW.fresh
                  refine lv_aload hx hb dX11_check_59 (lv_at hl 0 rfl) ?_
                  refine rl_new hC hW cn_X11_91 (by simp only [rl_rm]; omega) (by simp only [rl_rm]; omega) dX11_check_61 (fun H hW => ?_)
                  refine lv_dup hx hb dX11_check_64 rfl ?_
                  refine lv_iload_n hx hb dX11_check_65 rfl (lv_at hl 4 rfl) ?_
                  refine lv_iload hx hb dX11_check_66 (lv_at hl 5 rfl) ?_
                  refine lv_iload hx hb dX11_check_68 (lv_at hl 6 rfl) ?_
                  refine rl_callvQ (rl_runI (b := z) (As := [.int (nI (h)), .int (nI (a)), .int (x5)]) (rest := [.ref (z), .ref (x + 16 + 3 * (3 * k + v))]) hC hW (cC_Check_init l D t A _ (z + 1) z (nI h) (nI a) x5 (rl_up_s _ _ _)) cs_X11_93 im_X0_init rfl ⟨(Nat.le_of_ble_eq_true rfl), (Nat.le_of_ble_eq_true rfl)⟩ rfl hl.1 rfl (Nat.le_of_ble_eq_true rfl) dX11_check_70 ⟨by simp only [rl_rm]; omega, by simp only [rl_rm]; omega⟩) hW (fun f1 H locs hp hW => ?_)
                  obtain rfl := hp
                  rw [rl_up_up2] at hW
                  replace hI := hI.le (rl_le.fresh (e := .inr (0, [.int (nI h), .int (nI a), .int x5])) hfz)
                  replace hrv := (hI.2.2.1 _ hj).1
                  refine rl_calliQ (rl_runV (b := x + 16 + 3 * (3 * k + v)) (As := [.ref (z)]) (rest := []) hC hW (cC_addCheck l D t A _ (z + 1) x T ρ κ G E _ _ hI (3 * k + v) z hj hzx h a b0 x5 ha hkb (rl_up_s _ _ _)) cs_X11_94 im_X7_addCheck sl_X7_addCheck hrv rfl ⟨(Nat.le_of_ble_eq_true rfl), (Nat.le_of_ble_eq_true rfl)⟩ rfl hl.1 rfl (Nat.le_of_ble_eq_true rfl) dX11_check_73 ⟨by simp only [rl_rm]; omega, by simp only [rl_rm]; omega⟩) hW (fun r3 f2 H locs hp hW => ?_)
                  rcases hp with ⟨h5, hr3, hf⟩ | ⟨h5, hr3, hI2⟩
                  · subst hf
                    exact rl_iret hC hW hr hlk (by simp only [rl_rm]; omega) (by simp only [rl_rm]; omega) ⟨_, rfl, ⟨T, E, Or.inl ⟨k, v, h, a, b0, hokk, Or.inl ⟨h5, hr3, rfl⟩⟩, hI⟩, by omega, by omega⟩ dX11_check_76
                  · exact rl_iret hC hW hr hlk (by simp only [rl_rm]; omega) (by simp only [rl_rm]; omega) ⟨_, rfl, ⟨_, E, Or.inl ⟨k, v, h, a, b0, hokk, Or.inr ⟨h5, hr3, rfl⟩⟩, hI2⟩, by omega, by omega⟩ dX11_check_76
                · exact absurd c9 (by decide)
              · refine lv_if_ne (tgt := 59) hx hb dX11_check_54 (by decide) (fun c9 => ?_) (fun c9 => ?_)
                · exact absurd rfl c9
                · refine lv_iconst (v := (-1)) hx hb dX11_check_57 (by decide) ?_
                  exact rl_iret hC hW hr hlk (by simp only [rl_rm]; omega) (by simp only [rl_rm]; omega) ⟨_, rfl, ⟨T, E, Or.inr ⟨by decide, rfl, fun ⟨k', v', h', a', b', q1, q2, q3, q4, q5, q6, q7, q8, q9, qq, _⟩ => by
                    have e1 := (nI_eq (by omega) (by omega)).mp q4
                    have e2 := (nI_eq (by omega) (by omega)).mp q5
                    have e3 := (nI_eq (by omega) (by omega)).mp q6
                    have e4 : k' = k := by omega
                    subst e4 e2 e3
                    exact hp ⟨b', qq hh1⟩⟩, hI⟩, by omega, by omega⟩ dX11_check_58
          · exact absurd c9 (by decide)
        · refine lv_if_ne (tgt := 41) hx hb dX11_check_36 (by decide) (fun c9 => ?_) (fun c9 => ?_)
          · exact absurd rfl c9
          · refine lv_iconst (v := (-1)) hx hb dX11_check_39 (by decide) ?_
            exact rl_iret hC hW hr hlk (by simp only [rl_rm]; omega) (by simp only [rl_rm]; omega) ⟨_, rfl, ⟨T, E, Or.inr ⟨by decide, rfl, fun ⟨k', v', h', a', b', q1, q2, q3, q4, q5, q6, q7, q8, q9, qq, _⟩ => by
              have e1 := (nI_eq (by omega) (by omega)).mp q4
              have e2 := (nI_eq (by omega) (by omega)).mp q5
              have e3 := (nI_eq (by omega) (by omega)).mp q6
              have e4 : k' = k := by omega
              subst e4 e2 e3
              exact hp ⟨a', q7, q8, q9⟩⟩, hI⟩, by omega, by omega⟩ dX11_check_40
    · have hq := hp
      refine lv_if_eq (tgt := 39) hx hb dX11_check_22 (by decide) (fun c9 => ?_) (fun c9 => ?_)
      · refine lv_iconst (v := (-1)) hx hb dX11_check_39 (by decide) ?_
        exact rl_iret hC hW hr hlk (by simp only [rl_rm]; omega) (by simp only [rl_rm]; omega) ⟨_, rfl, ⟨T, E, Or.inr ⟨by decide, rfl, fun ⟨_, _, h', _, _, _, _, q1, _, _, q4, _⟩ => hq ⟨h', q1, q4⟩⟩, hI⟩, by omega, by omega⟩ dX11_check_40
      · exact absurd rfl c9
  · have hp' : ¬ ∃ k v : Nat, k < 4 ∧ v < 3 ∧ x1 = nI (2 + k) ∧ x2 = nI v := fun ⟨k, v, q1, q2, q3, q4⟩ => hp ⟨k, v, q1, q2, by rw [q3]; exact rg_li (by omega), q4⟩
    refine lv_astoreN (lv' := [(6, .null), (0, .ref (x)), (1, .int (x1)), (2, .int (x2)), (3, .int (x3)), (4, .int (x4)), (5, .int (x5))]) hx hb dX11_check_10 hl (by decide) rfl (fun ls hl => ?_)
    refine lv_aloadN hx hb dX11_check_12 (lv_at hl 0 rfl) ?_
    refine lv_ifnullN (tgt := 39) hx hb dX11_check_14 (by decide) ?_
    refine lv_iconst (v := (-1)) hx hb dX11_check_39 (by decide) ?_
    exact rl_iret hC hW hr hlk (by simp only [rl_rm]; omega) (by simp only [rl_rm]; omega) ⟨_, rfl, ⟨T, E, Or.inr ⟨by decide, rfl, fun ⟨k', v', _, _, _, q1, q2, _, q4, q5, _⟩ => hp' ⟨k', v', q1, q2, q4, q5⟩⟩, hI⟩, by omega, by omega⟩ dX11_check_40

set_option maxHeartbeats 4000000 in
set_option maxRecDepth 100000 in
theorem cC_Row_init (l : Launch) (D : va_G) (t : Nat → ClassId) (A : Nat → Prop) (f : rl_M) (z : Nat) (a n : Nat) (hn : n ≤ 8) (h0 : f a = some (.inr (8, [.null]))) : rl_Met l yX8_init (.code yX8_init cX8_init 2 none) (rl_rm 2 1 8) D t A f z [.ref (a), .int (nI (n))] (rl_pv fun f1 z1 d1 => rl_up (rl_up f z (.inl (t 0, n, .inl (fun _ => 0)))) a (.inr (8, [.ref z])) = f1 ∧ z1 = z + 1 ∧ d1 ≤ 8) := by
  refine rl_begin (own := RX8) (lv := [(0, .ref (a)), (1, .int (nI (n)))]) (by decide +kernel) rfl (Nat.le_of_ble_eq_true rfl) rfl fun p e s m0 args below meth c ls H locs hC hr hlk hnm hW hl hx hb => ?_
  have hfz := hW.fresh
  have hne := rl_ne0 h0 hfz
  refine lv_aload_n hx hb dX8_init_0 rfl (lv_at hl 0 rfl) ?_
  refine rl_callvQ (rl_runI (b := a) (As := []) (rest := []) hC hW (cC_Thing_init l D t A _ z a) cs_X8_3 im_X10_init rfl ⟨(Nat.le_of_ble_eq_true rfl), (Nat.le_of_ble_eq_true rfl)⟩ rfl hl.1 rfl (Nat.le_of_ble_eq_true rfl) dX8_init_1 ⟨by simp only [rl_rm]; omega, by simp only [rl_rm]; omega⟩) hW (fun f1 H locs hp hW => ?_)
  obtain rfl := hp
  refine lv_aload_n hx hb dX8_init_4 rfl (lv_at hl 0 rfl) ?_
  refine lv_iload_n hx hb dX8_init_5 rfl (lv_at hl 1 rfl) ?_
  refine lv_iconst (v := (nI (0))) hx hb dX8_init_6 (by decide) ?_
  refine rl_mmax (x := nI n) (y := nI 0) hC mw_296 hl.1 (Nat.le_of_ble_eq_true rfl) (Nat.le_of_ble_eq_true rfl) (Nat.le_of_ble_eq_true rfl) (Nat.le_of_ble_eq_true rfl) dX8_init_7 ?_
  refine rl_topn (y := nI n) ((rg_max (by omega) (by decide)).trans (by rw [Nat.max_eq_left (Nat.zero_le _)])) ?_
  refine rl_newi (N' := n) hC hW mw_123 (nI_pos (by omega)) (nI_clamp (by omega)) (by omega) (by simp only [rl_rm]; omega) (by simp only [rl_rm]; omega) dX8_init_10 (fun H hW => ?_)
  refine rl_putF (v := .ref (z)) hC hW fp_X8_15 hnm ((rl_up_n hne).trans h0) (Nat.le_of_ble_eq_true rfl) rfl rfl dX8_init_12 (fun H locs hW => ?_)
  replace hW : rl_W D A (rl_up _ a (.inr (8, [.ref z]))) (z + 1) s.heap H locs := hW
  exact rl_vret hC hW hr hlk (by simp only [rl_rm]; omega) (by simp only [rl_rm]; omega) ⟨rfl, rfl, rfl, by omega⟩ dX8_init_15

theorem rl_up_row (f : rl_M) (z : Nat) (e0 e1 e2 : va_E) : rl_up (rl_up (rl_up f z e0) (z + 1) e1) z e2 = rl_up (rl_up f (z + 1) e1) z e2 := by
  funext b
  unfold rl_up
  split
  · rfl
  · rfl
theorem rl_le.row {f : rl_M} {z : Nat} {e0 e1 e2 : va_E} (hz : f z = none) (hz1 : rl_up f z e0 (z + 1) = none) : rl_le f (rl_up (rl_up f (z + 1) e1) z e2) := fun q e hq => by
  rw [rl_up_n (by omega)] at hz1
  exact rl_up2 hq (fun w => by rw [w, hz1] at hq; cases hq) (fun w => by rw [w, hz] at hq; cases hq)

section NRW
variable {t : Nat → ClassId} {f f' : rl_M} {x : Nat} {T : Nat → Nat → Nat} {ρ κ : Nat} {G : pG} {E : Nat → Nat → Nat} {g : Nat → Int32} {mo : Int32}
theorem ca_eup1 {h : pHd} {z : Nat} (hk : cok T ρ κ h) : ca (eup E 1 ρ z) h = ca E h := by
  rcases h with _ | n | n | n
  · rfl
  · rfl
  · show some (va_up E 1 (va_up (E 1) ρ z) 1 n) = some (E 1 n)
    have hn : n < ρ := hk
    rw [va_up_s, va_up_n _ _ (by omega)]
  · rfl
theorem ca_eup2 {h : pHd} {z : Nat} (hk : cok T ρ κ h) : ca (eup E 2 κ z) h = ca E h := by
  rcases h with _ | n | n | n
  · rfl
  · rfl
  · rfl
  · show some (va_up E 2 (va_up (E 2) κ z) 2 n) = some (E 2 n)
    have hn : n < κ := hk
    rw [va_up_s, va_up_n _ _ (by omega)]
/-- a new row -/
theorem CJ.newrow {n z : Nat} (h : CJ t f x T ρ κ G E g mo) (h8 : ∀ r, r < ρ → G.1 0 r ≤ 8) (hn : n ≤ 8) (hz : f z = none) (hzx : x + 58 ≤ z) (hl : rl_le f f') (k0 : f' z = some (.inr (8, [.ref (z + 1)]))) (k1 : f' (z + 1) = some (.inl (t 0, n, .inl (fun _ => 0)))) : CJ t f' x T (ρ + 1) κ (pu_row ρ G n) (eup E 1 ρ z) g mo := by
  obtain ⟨h1, h2, h3, h4, ⟨gp, h5, h5'⟩, h6, h7, hw, hc, hi⟩ := h.le hl
  have e1 : eup E 1 ρ z 1 = va_up (E 1) ρ z := va_up_s _ _ _
  have old : ∀ r, r < ρ → E 1 r ≠ z := fun r hr q => by
    have := (h.row hr).2.1
    rw [q, hz] at this
    cases this
  refine ⟨h1, h2, h3, h4, ⟨gp, h5, fun p hp => ⟨(h5' p hp).1.trans (ca_eup1 (h5' p hp).2).symm, (h5' p hp).2.mono (by omega) (Nat.le_refl _)⟩⟩, h6, h7, fun r hr => ?_, fun r hr => ?_, ?_⟩
  · rw [e1]
    show x + 58 ≤ va_up (E 1) ρ z r ∧ f' (va_up (E 1) ρ z r) = some (.inr (8, [.ref (va_up (E 1) ρ z r + 1)])) ∧ ∃ g : Nat → Int32, f' (va_up (E 1) ρ z r + 1) = some (.inl (t 0, va_up (G.1 0) ρ n r, .inl g)) ∧ ∀ i, i < va_up (G.1 0) ρ n r → g i = pu_up (8 * ρ) (fun _ => 0) 8 (G.2.1 1) (8 * r + i)
    by_cases e : r = ρ
    · subst e
      rw [va_up_s, va_up_s]
      exact ⟨hzx, k0, _, k1, fun i hi => (pu_up_i (c := 8 * r) (v := fun _ => 0) (i := 8) (d := G.2.1 1) (x := i) (by omega)).symm⟩
    · rw [va_up_n _ _ e, va_up_n _ _ e]
      obtain ⟨m1, m2, gg, m3, m4⟩ := hw r (by omega)
      have := h8 r (by omega)
      exact ⟨m1, m2, gg, m3, fun i hi => by rw [pu_up_o (by omega)]; exact m4 i hi⟩
  · obtain ⟨m1, m2, m3, ⟨gt, m4, m5⟩⟩ := hc r hr
    exact ⟨m1, m2, m3, ⟨gt, m4, fun p hp => ⟨(m5 p hp).1.trans (ca_eup1 (m5 p hp).2).symm, (m5 p hp).2.mono (by omega) (Nat.le_refl _)⟩⟩⟩
  · unfold cIN
    rw [e1]
    refine ⟨fun r r' hr hr' e => ?_, hi.2⟩
    by_cases a : r = ρ
    · by_cases b : r' = ρ
      · omega
      · rw [a, va_up_s, va_up_n _ _ b] at e
        exact absurd e.symm (old r' (by omega))
    · by_cases b : r' = ρ
      · rw [b, va_up_s, va_up_n _ _ a] at e
        exact absurd e (old r (by omega))
      · rw [va_up_n _ _ a, va_up_n _ _ b] at e
        exact hi.1 r r' (by omega) (by omega) e
end NRW

set_option maxHeartbeats 4000000 in
set_option maxRecDepth 100000 in
theorem cC_row (l : Launch) (D : va_G) (t : Nat → ClassId) (A : Nat → Prop) (f : rl_M) (z : Nat) (x : Nat) (T : Nat → Nat → Nat) (ρ κ : Nat) (G : pG) (E : Nat → Nat → Nat) (hI : CI t f x T ρ κ G E) (hT : rt_ok T) (hG : GW T ρ κ G) (x1 x2 : Int32) : rl_Met l yX11_row (.code yX11_row cX11_row 3 (some FieldType.int)) (rl_rm 4 2 9) D t A f z [.ref (x), .int (x1), .int (x2)] (rl_pi fun r f1 z1 d1 => (∃ ρ' κ' G' E', f_row ρ κ G x1 x2 = (r, ρ', κ', G') ∧ CI t f1 x T ρ' κ' G' E') ∧ z1 ≤ z + 2 ∧ d1 ≤ 9) := by
  refine rl_begin (own := RX11) (lv := [(0, .ref (x)), (1, .int (x1)), (2, .int (x2))]) (by decide +kernel) rfl (Nat.le_of_ble_eq_true rfl) rfl fun p e s m0 args below meth c ls H locs hC hr hlk hnm hW hl hx hb => ?_
  have hzx : x + 58 ≤ z := by obtain ⟨-, -, -, -, -, -, ⟨-, -, ⟨g9, e9⟩⟩, -⟩ := id hI; exact hW.lt e9
  replace hI : CJ t _ x T ρ κ G E (G.2.1 0) (G.2.1 0 3) := hI
  obtain ⟨hF0, hEV, hRV, ⟨v5, hx0⟩, ⟨gpl, hpl, hpt⟩, ⟨⟨ggn, hgn, hgnE⟩, ⟨ggp, hgp, hgq⟩⟩, ⟨⟨fz, htp⟩, ⟨glv, hlv, hlvE⟩, ⟨gfr, hfr⟩⟩, hRW, hRC, hIN⟩ := id hI
  refine lv_iload_n hx hb dX11_row_0 rfl (lv_at hl 1 rfl) ?_
  refine lv_bipush (v := (nI (10))) hx hb dX11_row_1 (by decide) ?_
  refine rl_calliQ (rl_runS (As := [.int (x1), .int (nI (10))]) (rest := []) hC hW (cC_below l D t A _ z _ (10) (by omega)) cs_X11_48 sm_X11_below ⟨(Nat.le_of_ble_eq_true rfl), (Nat.le_of_ble_eq_true rfl)⟩ rfl hl.1 rfl (Nat.le_of_ble_eq_true rfl) dX11_row_3 ⟨by simp only [rl_rm]; omega, by simp only [rl_rm]; omega⟩) hW (fun r f1 H locs hp hW => ?_)
  obtain ⟨rfl, hp⟩ := hp
  rcases hp with ⟨rfl, hp⟩ | ⟨rfl, hp⟩
  · obtain ⟨p0, hp0, rfl⟩ := hp
    refine lv_if_eq (tgt := 24) hx hb dX11_row_6 (by decide) (fun c9 => ?_) (fun c9 => ?_)
    · exact absurd c9 (by decide)
    · refine lv_iload_n hx hb dX11_row_9 rfl (lv_at hl 2 rfl) ?_
      refine lv_bipush (v := (-3)) hx hb dX11_row_10 (by decide) ?_
      refine lv_icmp_eq (tgt := 26) hx hb dX11_row_12 (by decide) (fun c1 => ?_) (fun c1 => ?_)
      · subst c1
        refine lv_aload_n hx hb dX11_row_26 rfl (lv_at hl 0 rfl) ?_
        refine rl_get (v := .ref (x + 52)) hC hW fl_X11_18 hx0 rfl dX11_row_27 ?_
        refine lv_iload_n hx hb dX11_row_30 rfl (lv_at hl 1 rfl) ?_
        refine lv_iload_n hx hb dX11_row_31 rfl (lv_at hl 2 rfl) ?_
        refine lv_bipush (v := (-3)) hx hb dX11_row_32 (by decide) ?_
        refine lv_icmp_ne (tgt := 41) hx hb dX11_row_34 (by decide) (fun c3 => ?_) (fun c3 => ?_)
        · exact absurd rfl c3
        · refine lv_null hx hb dX11_row_37 ?_
          refine lv_goto (tgt := 49) hx hb dX11_row_38 (by decide) ?_
          refine rl_astT (r := none) hC hW hpl (fun q e => by cases e) (by omega) (by decide) dX11_row_49 (fun H locs hW => ?_)
          replace hI := hI.setp (p := p0) (r := none) (hd := none) hpl rfl trivial
          refine lv_iconst (v := (nI (1))) hx hb dX11_row_50 (by decide) ?_
          exact rl_iret hC hW hr hlk (by simp only [rl_rm]; omega) (by simp only [rl_rm]; omega) ⟨_, rfl, ⟨ρ, κ, gX G 0 (va_up (G.2.2.2 0) p0 none), E, (by simp only [f_row, ob, pu_ix_s hp0 (by decide), if_true]; rfl), hI⟩, by omega, by omega⟩ dX11_row_51
      · refine lv_iload_n hx hb dX11_row_15 rfl (lv_at hl 2 rfl) ?_
        refine lv_bipush (v := (nI (9))) hx hb dX11_row_16 (by decide) ?_
        refine rl_calliQ (rl_runS (As := [.int (x2), .int (nI (9))]) (rest := []) hC hW (cC_below l D t A _ z _ (9) (by omega)) cs_X11_48 sm_X11_below ⟨(Nat.le_of_ble_eq_true rfl), (Nat.le_of_ble_eq_true rfl)⟩ rfl hl.1 rfl (Nat.le_of_ble_eq_true rfl) dX11_row_18 ⟨by simp only [rl_rm]; omega, by simp only [rl_rm]; omega⟩) hW (fun r f1 H locs hp hW => ?_)
        obtain ⟨rfl, hp⟩ := hp
        rcases hp with ⟨rfl, hp⟩ | ⟨rfl, hp⟩
        · obtain ⟨n0, hn0, rfl⟩ := hp
          refine lv_if_ne (tgt := 26) hx hb dX11_row_21 (by decide) (fun c9 => ?_) (fun c9 => ?_)
          · refine lv_aload_n hx hb dX11_row_26 rfl (lv_at hl 0 rfl) ?_
            refine rl_get (v := .ref (x + 52)) hC hW fl_X11_18 hx0 rfl dX11_row_27 ?_
            refine lv_iload_n hx hb dX11_row_30 rfl (lv_at hl 1 rfl) ?_
            refine lv_iload_n hx hb dX11_row_31 rfl (lv_at hl 2 rfl) ?_
            refine lv_bipush (v := (-3)) hx hb dX11_row_32 (by decide) ?_
            refine lv_icmp_ne (tgt := 41) hx hb dX11_row_34 (by decide) (fun c3 => ?_) (fun c3 => ?_)
            · have hfz := hW.fresh
              refine rl_new hC hW cn_X11_103 (by simp only [rl_rm]; omega) (by simp only [rl_rm]; omega) dX11_row_41 (fun H hW => ?_)
              have hfz1 := hW.fresh
              refine lv_dup hx hb dX11_row_44 rfl ?_
              refine lv_iload_n hx hb dX11_row_45 rfl (lv_at hl 2 rfl) ?_
              refine rl_callv (rl_runI (b := z) (As := [.int (nI (n0))]) (rest := [.ref (z), .int (nI (p0)), .ref (x + 52)]) hC hW (cC_Row_init l D t A _ (z + 1) z n0 (by omega) (rl_up_s _ _ _)) cs_X11_105 im_X8_init rfl ⟨(Nat.le_of_ble_eq_true rfl), (Nat.le_of_ble_eq_true rfl)⟩ rfl hl.1 rfl (Nat.le_of_ble_eq_true rfl) dX11_row_46 ⟨by simp only [rl_rm]; omega, by simp only [rl_rm]; omega⟩) hW (fun f1 z1 d1 H locs hp hW hz1 => ?_)
              obtain ⟨rfl, rfl, hd1⟩ := hp
              rw [rl_up_row] at hW
              have hfz2 := hfz1
              rw [rl_up_n (by omega)] at hfz2
              replace hI := hI.newrow (n := n0) hG.1 (by omega) hfz hzx (rl_le.row (e1 := .inl (t 0, n0, .inl (fun _ => 0))) (e2 := .inr (8, [.ref (z + 1)])) hfz hfz1) (rl_up_s _ _ _) ((rl_up_n (by omega)).trans (rl_up_s _ _ _))
              obtain ⟨hF0, hEV, hRV, ⟨v5, hx0⟩, ⟨gpl, hpl, hpt⟩, ⟨⟨ggn, hgn, hgnE⟩, ⟨ggp, hgp, hgq⟩⟩, ⟨⟨fz, htp⟩, ⟨glv, hlv, hlvE⟩, ⟨gfr, hfr⟩⟩, hRW, hRC, hIN⟩ := id hI
              refine rl_astT (r := some z) hC hW hpl (fun q e => by cases e; exact Or.inr (Or.inl ⟨_, rl_up_s _ _ _⟩)) (by omega) (by decide) dX11_row_49 (fun H locs hW => ?_)
              replace hI := hI.setp (p := p0) (r := some z) (hd := hrow ρ) hpl (by show some z = some (va_up E 1 (va_up (E 1) ρ z) 1 ρ); rw [va_up_s, va_up_s]) (show ρ < ρ + 1 by omega)
              refine lv_iconst (v := (nI (1))) hx hb dX11_row_50 (by decide) ?_
              exact rl_iret hC hW hr hlk (by simp only [rl_rm]; omega) (by simp only [rl_rm]; omega) ⟨_, rfl, ⟨ρ + 1, κ, gX (pu_row ρ G n0) 0 (va_up (G.2.2.2 0) p0 (hrow ρ)), eup E 1 ρ z, (by simp only [f_row, ob, pu_ix_s hp0 (by decide), c1, if_false, pu_ix_s hn0 (by decide)]; rfl), hI⟩, by omega, by omega⟩ dX11_row_51
            · exact absurd c3 c1
          · exact absurd c9 (by decide)
        · have hq := hp
          refine lv_if_ne (tgt := 26) hx hb dX11_row_21 (by decide) (fun c9 => ?_) (fun c9 => ?_)
          · exact absurd rfl c9
          · refine lv_iconst (v := (-1)) hx hb dX11_row_24 (by decide) ?_
            exact rl_iret hC hW hr hlk (by simp only [rl_rm]; omega) (by simp only [rl_rm]; omega) ⟨_, rfl, ⟨ρ, κ, G, E, (by simp only [f_row, ob, pu_ix_s hp0 (by decide), c1, if_false, pu_ix_n (n := 9) (by decide) hq]), hI⟩, by omega, by omega⟩ dX11_row_25
  · have hq := hp
    refine lv_if_eq (tgt := 24) hx hb dX11_row_6 (by decide) (fun c9 => ?_) (fun c9 => ?_)
    · refine lv_iconst (v := (-1)) hx hb dX11_row_24 (by decide) ?_
      exact rl_iret hC hW hr hlk (by simp only [rl_rm]; omega) (by simp only [rl_rm]; omega) ⟨_, rfl, ⟨ρ, κ, G, E, (by simp only [f_row, ob, pu_ix_n (n := 10) (by decide) hq]), hI⟩, by omega, by omega⟩ dX11_row_25
    · exact absurd rfl c9
