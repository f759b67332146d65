set_option maxHeartbeats 4000000 in
set_option maxRecDepth 100000 in
theorem cC_make (l : Launch) (D : va_G) (t : Nat → ClassId) (A : Nat → Prop) (f : rl_M) (z : Nat) (x : Nat) (T : Nat → Nat → Nat) (Th : Nat → Prop) (hI : CI t f x T Th) (hTP : rt_pure T) (hTK : rt_pk T) (x1 x2 x3 : Int32) : rl_Met l yX11_make (.code yX11_make cX11_make 7 (some FieldType.int)) (rl_rm 5 3 13) D t A f z [.ref (x), .int (x1), .int (x2), .int (x3)] (rl_pi fun r f1 z1 d1 => (∃ Th', CI t f1 x T Th') ∧ z1 ≤ z + 3 ∧ d1 ≤ 13) := by
  refine rl_begin (own := RX11) (lv := [(0, .ref (x)), (1, .int (x1)), (2, .int (x2)), (3, .int (x3))]) (by decide +kernel) rfl (Nat.le_of_ble_eq_true rfl) rfl fun p e s m0 args below meth c ls H locs hC hr hlk hnm hW hl hx hb => ?_
  have hzx : x + 58 ≤ z := by obtain ⟨-, -, -, -, -, -, ⟨-, -, ⟨g9, e9⟩⟩, -⟩ := id hI; exact hW.lt e9
  obtain ⟨hF0, hEV, hRV, ⟨v5, v6, v7, v8, v9, v10, v11, hx0⟩, ⟨gpl, hpl, hpt⟩, ⟨⟨ggn, hgn⟩, ⟨ggp, hgp, hgq⟩⟩, ⟨⟨sz, fz, htp, hsz⟩, ⟨glv, hlv⟩, ⟨gfr, hfr⟩⟩, hTH⟩ := id hI
  obtain ⟨hk0, -, -⟩ := id hI.1
  refine lv_aload_n hx hb dX11_make_0 rfl (lv_at hl 0 rfl) ?_
  refine rl_get (v := .ref (x + 1)) hC hW fl_X11_10 hx0 rfl dX11_make_1 ?_
  refine lv_iload_n hx hb dX11_make_4 rfl (lv_at hl 1 rfl) ?_
  refine lv_i2l hx hb dX11_make_5 rfl ?_
  refine lv_iload_n hx hb dX11_make_6 rfl (lv_at hl 2 rfl) ?_
  refine rl_callqQ (rl_runV (b := x + 1) (As := [.long ((x1).toInt64), .int (x2)]) (rest := []) hC hW (cC_recordVersion l D t A _ z x T Th hI _ _) cs_X11_62 im_X3_recordVersion sl_X3_recordVersion hk0 rfl ⟨(Nat.le_of_ble_eq_true rfl), (Nat.le_of_ble_eq_true rfl)⟩ rfl hl.1 rfl (Nat.le_of_ble_eq_true rfl) dX11_make_7 ⟨by simp only [rl_rm]; omega, by simp only [rl_rm]; omega⟩) hW (fun r1 f1 H locs hp hW => ?_)
  obtain ⟨rfl, hp⟩ := hp
  rcases hp with ⟨k, v, hk, hv, h1, rfl, rfl⟩ | ⟨rfl, hp⟩
  · have hx1 : x1 = nI (2 + k) := rg_il (by omega) h1
    subst hx1
    have hj : 3 * k + v < 12 := by omega
    refine lv_astore (lv' := [(4, .ref (x + 16 + 3 * (3 * k + v))), (0, .ref (x)), (1, .int (nI (2 + k))), (2, .int (nI (v))), (3, .int (x3))]) hx hb dX11_make_10 hl (by decide) rfl (fun ls hl => ?_)
    refine lv_aload hx hb dX11_make_12 (lv_at hl 0 rfl) ?_
    refine lv_ifnull hx hb dX11_make_14 ?_
    refine lv_iload_n hx hb dX11_make_17 rfl (lv_at hl 4 rfl) ?_
    refine lv_bipush (v := (nI (10))) hx hb dX11_make_18 (by decide) ?_
    refine rl_calliQ (rl_runS (As := [.int (x3), .int (nI (10))]) (rest := []) hC hW (cC_below l D t A _ z _ (10) (by omega)) cs_X11_48 sm_X11_below ⟨(Nat.le_of_ble_eq_true rfl), (Nat.le_of_ble_eq_true rfl)⟩ rfl hl.1 rfl (Nat.le_of_ble_eq_true rfl) dX11_make_20 ⟨by simp only [rl_rm]; omega, by simp only [rl_rm]; omega⟩) hW (fun r f1 H locs hp hW => ?_)
    obtain ⟨rfl, hp⟩ := hp
    rcases hp with ⟨rfl, hp⟩ | ⟨rfl, hp⟩
    · obtain ⟨p0, hp0, rfl⟩ := hp
      refine lv_if_ne (tgt := 28) hx hb dX11_make_23 (by decide) (fun c9 => ?_) (fun c9 => ?_)
      · obtain ⟨j, hjj⟩ : ∃ j, j = 3 * k + v := ⟨_, rfl⟩
        rw [← hjj] at hl hj
        have hfz := hW.fresh
        refine rl_new hC hW cn_X11_115 (by simp only [rl_rm]; omega) (by simp only [rl_rm]; omega) dX11_make_28 (fun H hW => ?_)
        refine lv_dup hx hb dX11_make_31 rfl ?_
        refine lv_aload hx hb dX11_make_32 (lv_at hl 0 rfl) ?_
        refine rl_callv (rl_runI (b := z) (As := [.ref (x + 16 + 3 * j)]) (rest := [.ref (z)]) hC hW (cC_Rec_init l D t A _ (z + 1) x T Th (hI.le (rl_le.fresh hfz)) (z) (j) hj (rl_up_s _ _ _)) cs_X11_117 im_X6_init rfl ⟨(Nat.le_of_ble_eq_true rfl), (Nat.le_of_ble_eq_true rfl)⟩ rfl hl.1 rfl (Nat.le_of_ble_eq_true rfl) dX11_make_34 ⟨by simp only [rl_rm]; omega, by simp only [rl_rm]; omega⟩) hW (fun f1 z1 d1 H locs hp hW hz1 => ?_)
        obtain ⟨hD1, hD2, hD3, hD4, rfl, hd1⟩ := hp
        have hle1 := rl_le.sub hfz (fun q e hq hqz => hD4 q e (rl_le.fresh hfz q e hq) hqz)
        have hD : cDR t f1 x T (z) (j) (z + 1) (z + 1 + 1) := ⟨hj, by omega, by omega, hD1, ⟨_, hD2⟩, ⟨_, hD3⟩⟩
        have hI2 : ∃ Th2 : Nat → Prop, CI t f1 x T Th2 ∧ Th2 (z) ∧ ∀ q, Th q → Th2 q := ⟨_, (hI.le hle1).thing (a := z) ⟨by omega, Or.inr (Or.inr ⟨j, _, _, _, _, _, hj, hD.2.1, hD.2.2.1, Nat.le_refl _, hD1, hD2, hD3, fun i hi q e => by cases e⟩)⟩, Or.inr rfl, fun q h => Or.inl h⟩
        clear hI
        obtain ⟨Th3, hI, hTz, hTm⟩ := hI2
        refine lv_astore (lv' := [(5, .ref (z)), (4, .ref (x + 16 + 3 * j)), (0, .ref (x)), (1, .int (nI (2 + k))), (2, .int (nI (v))), (3, .int (nI (p0)))]) hx hb dX11_make_37 hl (by decide) rfl (fun ls hl => ?_)
        refine lv_iconst (v := (nI (0))) hx hb dX11_make_39 (by decide) ?_
        refine lv_istore (lv' := [(6, .int (nI (0))), (5, .ref (z)), (4, .ref (x + 16 + 3 * j)), (0, .ref (x)), (1, .int (nI (2 + k))), (2, .int (nI (v))), (3, .int (nI (p0)))]) hx hb dX11_make_40 hl (by decide) rfl (fun ls hl => ?_)
        replace hl : lv_has ls 7 [(0, .ref (x)), (1, .int (nI (2 + k))), (2, .int (nI (v))), (3, .int (nI (p0))), (4, .ref (x + 16 + 3 * j)), (5, .ref (z)), (6, .int (nI (0)))] := lv_sub hl [3, 4, 5, 6, 2, 1, 0] rfl
        have hinv : ∃ (f2 : rl_M) (Th2 : Nat → Prop), ∃ i : Nat, rl_W D A f2 (z + 1 + 2) s.heap H locs ∧ CI t f2 x T Th2 ∧ (Th2 z) ∧ (cDR t f2 x T z j (z + 1) (z + 1 + 1)) ∧ (i ≤ T 2 j) ∧ lv_has ls 7 [(0, .ref (x)), (1, .int (nI (2 + k))), (2, .int (nI (v))), (3, .int (nI (p0))), (4, .ref (x + 16 + 3 * j)), (5, .ref (z)), (6, .int (nI (i)))] := ⟨_, _, 0, hW, hI, hTz, hD, Nat.zero_le _, hl⟩
        clear hW hI hl
        obtain ⟨f2, Th, i, hW, hI, hTz, hD, hi, hl⟩ := hinv
        obtain ⟨n, hn⟩ : ∃ n, T 2 j - i < n := ⟨_, Nat.lt_succ_self _⟩
        induction n generalizing f2 Th i H locs ls  with
        | zero => exact absurd hn (Nat.not_lt_zero _)
        | succ n ih =>
          obtain ⟨-, hnu, hth, h0, -⟩ := id hD
          obtain ⟨gn, gt, h1, h2, h3⟩ := hD.op (hI.th hTz)
          obtain ⟨hrv, hj5, -⟩ := id (hI.2.2.1 j hj)
          obtain ⟨hF0, hEV, hRV, ⟨v5, v6, v7, v8, v9, v10, v11, hx0⟩, ⟨gpl, hpl, hpt⟩, ⟨⟨ggn, hgn⟩, ⟨ggp, hgp, hgq⟩⟩, ⟨⟨sz, fz, htp, hsz⟩, ⟨glv, hlv⟩, ⟨gfr, hfr⟩⟩, hTH⟩ := id hI
          refine lv_iload hx hb dX11_make_42 (lv_at hl 6 rfl) ?_
          refine lv_aload hx hb dX11_make_44 (lv_at hl 5 rfl) ?_
          refine rl_calliQ (rl_runV (b := z) (As := []) (rest := [.int (nI (i))]) hC hW (cC_Rec_extent l D t A _ (z + 1 + 2) z _ (z + 1) (z + 1 + 1) _ gn h0 h1) cs_X11_120 im_X6_extent sl_X6_extent h0 rfl ⟨(Nat.le_of_ble_eq_true rfl), (Nat.le_of_ble_eq_true rfl)⟩ rfl hl.1 rfl (Nat.le_of_ble_eq_true rfl) dX11_make_46 ⟨by simp only [rl_rm]; omega, by simp only [rl_rm]; omega⟩) hW (fun r f1 H locs hp hW => ?_)
          obtain ⟨rfl, rfl⟩ := hp
          refine lv_icmp_ge (tgt := 84) hx hb dX11_make_49 (by decide) (fun c1 => ?_) (fun c1 => ?_)
          · clear ih
            refine lv_aload hx hb dX11_make_84 (lv_at hl 4 rfl) ?_
            refine lv_aload hx hb dX11_make_86 (lv_at hl 5 rfl) ?_
            refine rl_calliQ (rl_runV (b := x + 16 + 3 * j) (As := [.ref (z)]) (rest := []) hC hW (cC_whyNotMade l D t A _ (z + 1 + 2) x T Th hI hTP hTK z j _ _ hTz hD) cs_X11_128 im_X7_whyNotMade sl_X7_whyNotMade hrv rfl ⟨(Nat.le_of_ble_eq_true rfl), (Nat.le_of_ble_eq_true rfl)⟩ rfl hl.1 rfl (Nat.le_of_ble_eq_true rfl) dX11_make_88 ⟨by simp only [rl_rm]; omega, by simp only [rl_rm]; omega⟩) hW (fun why f1 H locs hp hW => ?_)
            obtain rfl := hp
            refine lv_istore (lv' := [(6, .int (why)), (0, .ref (x)), (1, .int (nI (2 + k))), (2, .int (nI (v))), (3, .int (nI (p0))), (4, .ref (x + 16 + 3 * j)), (5, .ref (z))]) hx hb dX11_make_91 hl (by decide) rfl (fun ls hl => ?_)
            refine lv_iload hx hb dX11_make_93 (lv_at hl 0 rfl) ?_
            refine lv_if_ne (tgt := 116) hx hb dX11_make_95 (by decide) (fun c2 => ?_) (fun c2 => ?_)
            · refine lv_aload_n hx hb dX11_make_116 rfl (lv_at hl 1 rfl) ?_
              refine lv_iload hx hb dX11_make_117 (lv_at hl 0 rfl) ?_
              refine lv_bipush (v := (-3)) hx hb dX11_make_119 (by decide) ?_
              refine lv_iconst (v := (nI (0))) hx hb dX11_make_121 (by decide) ?_
              refine rl_callvQ (rl_runV (b := x) (As := [.int (why), .int (-3), .int (nI (0))]) (rest := []) hC hW (cC_rememberCause l D t A _ (z + 1 + 2) x T Th hI _ _ _) cs_X11_135 im_X11_rememberCause sl_X11_rememberCause hx0 rfl ⟨(Nat.le_of_ble_eq_true rfl), (Nat.le_of_ble_eq_true rfl)⟩ rfl hl.1 rfl (Nat.le_of_ble_eq_true rfl) dX11_make_122 ⟨by simp only [rl_rm]; omega, by simp only [rl_rm]; omega⟩) hW (fun f1 H locs hp hW => ?_)
              have hI := hp.1
              refine lv_iload hx hb dX11_make_125 (lv_at hl 0 rfl) ?_
              exact rl_iret hC hW hr hlk (by simp only [rl_rm]; omega) (by simp only [rl_rm]; omega) ⟨_, rfl, ⟨_, hI⟩, by omega, by omega⟩ dX11_make_127
            · refine lv_aload_n hx hb dX11_make_98 rfl (lv_at hl 1 rfl) ?_
              refine lv_dup hx hb dX11_make_99 rfl ?_
              refine rl_get (v := .int (v9)) hC hW fl_X11_132 hx0 rfl dX11_make_100 ?_
              refine lv_iconst (v := (nI (1))) hx hb dX11_make_103 (by decide) ?_
              refine lv_iadd hx hb dX11_make_104 ?_
              refine lv_topi (fun x_1 ex_1 => ?_)
              refine rl_put (v := .int (x_1)) hC hW fp_X11_132 hx0 (Nat.le_of_ble_eq_true rfl) rfl rfl dX11_make_105 (fun H locs hW => ?_)
              replace hW : rl_W D A (rl_up _ x (.inr (10, [.ref (x + 1), .ref (x + 52), .ref (x + 53), .ref (x + 54), .ref (x + 55), .int (v5), .int (v6), .int (v7), .int (v8), .int (x_1), .int (v10), .int (v11)]))) (z + 1 + 2) s.heap H locs := hW
              replace hI := hI.setx (v5) (v6) (v7) (v8) (x_1) (v10) (v11)
              obtain ⟨hF0, hEV, hRV, ⟨v5, v6, v7, v8, v9, v10, v11, hx0⟩, ⟨gpl, hpl, hpt⟩, ⟨⟨ggn, hgn⟩, ⟨ggp, hgp, hgq⟩⟩, ⟨⟨sz, fz, htp, hsz⟩, ⟨glv, hlv⟩, ⟨gfr, hfr⟩⟩, hTH⟩ := id hI
              refine lv_aload_n hx hb dX11_make_108 rfl (lv_at hl 1 rfl) ?_
              refine rl_get (v := .ref (x + 52)) hC hW fl_X11_18 hx0 rfl dX11_make_109 ?_
              refine lv_iload_n hx hb dX11_make_112 rfl (lv_at hl 4 rfl) ?_
              refine lv_aload hx hb dX11_make_113 (lv_at hl 6 rfl) ?_
              refine rl_astT (r := some (z)) (x := x) (T := T) (Th := Th) hC hW hpl (fun q e => by cases e; exact hI.th hTz) (by omega) (by decide) dX11_make_115 (fun H locs hW => ?_)
              replace hI := hI.setp (p := p0) (r := some z) hpl (fun q e => by cases e; exact hTz)
              obtain ⟨hF0, hEV, hRV, ⟨v5, v6, v7, v8, v9, v10, v11, hx0⟩, ⟨gpl, hpl, hpt⟩, ⟨⟨ggn, hgn⟩, ⟨ggp, hgp, hgq⟩⟩, ⟨⟨sz, fz, htp, hsz⟩, ⟨glv, hlv⟩, ⟨gfr, hfr⟩⟩, hTH⟩ := id hI
              refine lv_aload_n hx hb dX11_make_116 rfl (lv_at hl 1 rfl) ?_
              refine lv_iload hx hb dX11_make_117 (lv_at hl 0 rfl) ?_
              refine lv_bipush (v := (-3)) hx hb dX11_make_119 (by decide) ?_
              refine lv_iconst (v := (nI (0))) hx hb dX11_make_121 (by decide) ?_
              refine rl_callvQ (rl_runV (b := x) (As := [.int (why), .int (-3), .int (nI (0))]) (rest := []) hC hW (cC_rememberCause l D t A _ (z + 1 + 2) x T Th hI _ _ _) cs_X11_135 im_X11_rememberCause sl_X11_rememberCause hx0 rfl ⟨(Nat.le_of_ble_eq_true rfl), (Nat.le_of_ble_eq_true rfl)⟩ rfl hl.1 rfl (Nat.le_of_ble_eq_true rfl) dX11_make_122 ⟨by simp only [rl_rm]; omega, by simp only [rl_rm]; omega⟩) hW (fun f1 H locs hp hW => ?_)
              have hI := hp.1
              refine lv_iload hx hb dX11_make_125 (lv_at hl 0 rfl) ?_
              exact rl_iret hC hW hr hlk (by simp only [rl_rm]; omega) (by simp only [rl_rm]; omega) ⟨_, rfl, ⟨_, hI⟩, by omega, by omega⟩ dX11_make_127
          · have hlt : i < T 2 j := rg_lt c1 (by omega) (by omega)
            obtain ⟨q0, hq0, eq0⟩ := hgq i (by omega)
            refine lv_aload hx hb dX11_make_52 (lv_at hl 5 rfl) ?_
            refine lv_iload hx hb dX11_make_54 (lv_at hl 6 rfl) ?_
            refine lv_aload_n hx hb dX11_make_56 rfl (lv_at hl 0 rfl) ?_
            refine rl_get (v := .ref (x + 53)) hC hW fl_X11_22 hx0 rfl dX11_make_57 ?_
            refine lv_iload hx hb dX11_make_60 (lv_at hl 6 rfl) ?_
            refine rl_lald_n hC hW hgn (by omega) (by decide) dX11_make_62 ?_
            refine lv_aload_n hx hb dX11_make_63 rfl (lv_at hl 0 rfl) ?_
            refine rl_get (v := .ref (x + 52)) hC hW fl_X11_18 hx0 rfl dX11_make_64 ?_
            refine lv_aload_n hx hb dX11_make_67 rfl (lv_at hl 0 rfl) ?_
            refine rl_get (v := .ref (x + 54)) hC hW fl_X11_26 hx0 rfl dX11_make_68 ?_
            refine lv_iload hx hb dX11_make_71 (lv_at hl 6 rfl) ?_
            refine rl_iald_n hC hW hgp (by omega) (by decide) dX11_make_73 ?_
            refine rl_topn (y := nI (q0)) (eq0) ?_
            refine rl_aald_n 3 hC hW rfl hpl (by omega) (by decide) dX11_make_74 ?_
            obtain ⟨r0, er0⟩ : ∃ r : Option Nat, r = gpl (q0) := ⟨_, rfl⟩
            refine rl_topqq er0.symm ?_
            refine rl_callvQ (rl_runV (b := z) (As := [.int (nI (i)), .long (ggn (i)), va_rf (r0)]) (rest := []) hC hW (cC_Rec_put l D t A _ (z + 1 + 2) x T Th hI hTP z j _ _ hTz hD i hlt _ r0 (fun q e => hpt q0 hq0 q (er0.symm.trans e))) cs_X11_124 im_X6_put sl_X6_put h0 rfl ⟨(Nat.le_of_ble_eq_true rfl), (Nat.le_of_ble_eq_true rfl)⟩ rfl hl.1 rfl (Nat.le_of_ble_eq_true rfl) dX11_make_75 ⟨by simp only [rl_rm]; omega, by simp only [rl_rm]; omega⟩) hW (fun f3 H locs hp hW => ?_)
            obtain ⟨hI2, hsh, -⟩ := hp
            refine lv_iinc (v := (nI ((i) + 1))) (lv' := [(6, .int (nI ((i) + 1))), (0, .ref (x)), (1, .int (nI (2 + k))), (2, .int (nI (v))), (3, .int (nI (p0))), (4, .ref (x + 16 + 3 * j)), (5, .ref (z))]) hx hb dX11_make_78 hl (k := 6) rfl (nI_1 _) (by decide) rfl (fun ls hl => ?_)
            refine lv_goto (tgt := 42) hx hb dX11_make_81 (by decide) ?_
            replace hl : lv_has ls 7 [(0, .ref (x)), (1, .int (nI (2 + k))), (2, .int (nI (v))), (3, .int (nI (p0))), (4, .ref (x + 16 + 3 * j)), (5, .ref (z)), (6, .int (nI ((i) + 1)))] := lv_sub hl [1, 2, 3, 4, 5, 6, 0] rfl
            exact ih H locs ls f3 Th (i + 1) hW hI2 hTz (hD.sh hsh) (by omega) hl (by omega)
      · exact absurd c9 (by decide)
    · have hq := hp
      refine lv_if_ne (tgt := 28) hx hb dX11_make_23 (by decide) (fun c9 => ?_) (fun c9 => ?_)
      · exact absurd rfl c9
      · refine lv_iconst (v := (-1)) hx hb dX11_make_26 (by decide) ?_
        exact rl_iret hC hW hr hlk (by simp only [rl_rm]; omega) (by simp only [rl_rm]; omega) ⟨_, rfl, ⟨_, hI⟩, by omega, by omega⟩ dX11_make_27
  · have hp' : ¬ ∃ k v : Nat, k < 4 ∧ v < 3 ∧ x1 = nI (2 + k) ∧ x2 = nI v := fun ⟨k, v, q1, q2, q3, q4⟩ => hp ⟨k, v, q1, q2, by rw [q3]; exact rg_li (by omega), q4⟩
    refine lv_astoreN (lv' := [(4, .null), (0, .ref (x)), (1, .int (x1)), (2, .int (x2)), (3, .int (x3))]) hx hb dX11_make_10 hl (by decide) rfl (fun ls hl => ?_)
    refine lv_aloadN hx hb dX11_make_12 (lv_at hl 0 rfl) ?_
    refine lv_ifnullN (tgt := 26) hx hb dX11_make_14 (by decide) ?_
    refine lv_iconst (v := (-1)) hx hb dX11_make_26 (by decide) ?_
    exact rl_iret hC hW hr hlk (by simp only [rl_rm]; omega) (by simp only [rl_rm]; omega) ⟨_, rfl, ⟨_, hI⟩, by omega, by omega⟩ dX11_make_27

set_option maxHeartbeats 4000000 in
set_option maxRecDepth 100000 in
theorem cC_sameItems (l : Launch) (D : va_G) (t : Nat → ClassId) (A : Nat → Prop) (f : rl_M) (z : Nat) (a1 a2 n1 n2 : Nat) (g1 g2 : Nat → Int32) (hn1 : n1 ≤ 8) (hn2 : n2 ≤ 8) (h1 : f a1 = some (.inl (t 0, n1, .inl g1))) (h2 : f a2 = some (.inl (t 0, n2, .inl g2))) : rl_Met l yX11_sameItems (.code yX11_sameItems cX11_sameItems 3 (some FieldType.boolean)) (rl_rm 0 0 0) D t A f z [.ref (a1), .ref (a2)] (rl_qi z fun r f1 => f = f1 ∧ (r = 0 ∨ r = 1)) := by
  refine rl_begin (own := RX11) (lv := [(0, .ref (a1)), (1, .ref (a2))]) (by decide +kernel) rfl (Nat.le_of_ble_eq_true rfl) rfl fun p e s m0 args below meth c ls H locs hC hr hlk hnm hW hl hx hb => ?_
  refine lv_aload_n hx hb dX11_sameItems_0 rfl (lv_at hl 0 rfl) ?_
  refine rl_alen 0 (v := nI (n1)) hC hW rfl h1 rfl dX11_sameItems_1 ?_
  refine lv_aload_n hx hb dX11_sameItems_2 rfl (lv_at hl 1 rfl) ?_
  refine rl_alen 0 (v := nI (n2)) hC hW rfl h2 rfl dX11_sameItems_3 ?_
  refine lv_icmp_eq (tgt := 9) hx hb dX11_sameItems_4 (by decide) (fun c1 => ?_) (fun c1 => ?_)
  · have e12 : n1 = n2 := (nI_eq (by omega) (by omega)).mp c1
    subst e12
    refine lv_iconst (v := (nI (0))) hx hb dX11_sameItems_9 (by decide) ?_
    refine lv_istore_n (lv' := [(2, .int (nI (0))), (0, .ref (a1)), (1, .ref (a2))]) hx hb dX11_sameItems_10 rfl hl (by decide) rfl (fun ls hl => ?_)
    replace hl : lv_has ls 3 [(0, .ref (a1)), (1, .ref (a2)), (2, .int (nI (0)))] := lv_sub hl [1, 2, 0] rfl
    replace hl : ∃ i : Nat, (i ≤ n1) ∧ lv_has ls 3 [(0, .ref (a1)), (1, .ref (a2)), (2, .int (nI (i)))] := ⟨0, Nat.zero_le _, hl⟩
    obtain ⟨i, hi, hl⟩ := hl
    obtain ⟨n, hn⟩ : ∃ n, n1 - i < n := ⟨_, Nat.lt_succ_self _⟩
    induction n generalizing i ls with
    | zero => exact absurd hn (Nat.not_lt_zero _)
    | succ n ih =>
      refine lv_iload_n hx hb dX11_sameItems_11 rfl (lv_at hl 2 rfl) ?_
      refine lv_aload_n hx hb dX11_sameItems_12 rfl (lv_at hl 0 rfl) ?_
      refine rl_alen 0 (v := nI (n1)) hC hW rfl h1 rfl dX11_sameItems_13 ?_
      refine lv_icmp_ge (tgt := 34) hx hb dX11_sameItems_14 (by decide) (fun c2 => ?_) (fun c2 => ?_)
      · refine lv_iconst (v := (nI (1))) hx hb dX11_sameItems_34 (by decide) ?_
        exact rl_zret hC hW hr hlk rfl (Nat.le_refl _) (Nat.le_refl _) ⟨_, rfl, rfl, rfl, rfl, by decide⟩ dX11_sameItems_35
      · have hlt : i < n1 := rg_lt c2 (by omega) (by omega)
        refine lv_aload_n hx hb dX11_sameItems_17 rfl (lv_at hl 0 rfl) ?_
        refine lv_iload_n hx hb dX11_sameItems_18 rfl (lv_at hl 2 rfl) ?_
        refine rl_iald_n hC hW h1 (by omega) (by omega) dX11_sameItems_19 ?_
        refine lv_aload_n hx hb dX11_sameItems_20 rfl (lv_at hl 1 rfl) ?_
        refine lv_iload_n hx hb dX11_sameItems_21 rfl (lv_at hl 2 rfl) ?_
        refine rl_iald_n hC hW h2 (by omega) (by omega) dX11_sameItems_22 ?_
        refine lv_icmp_eq (tgt := 28) hx hb dX11_sameItems_23 (by decide) (fun c3 => ?_) (fun c3 => ?_)
        · refine lv_iinc (v := (nI ((i) + 1))) (lv' := [(2, .int (nI ((i) + 1))), (0, .ref (a1)), (1, .ref (a2))]) hx hb dX11_sameItems_28 hl (k := 2) rfl (nI_1 _) (by decide) rfl (fun ls hl => ?_)
          refine lv_goto (tgt := 11) hx hb dX11_sameItems_31 (by decide) ?_
          replace hl : lv_has ls 3 [(0, .ref (a1)), (1, .ref (a2)), (2, .int (nI ((i) + 1)))] := lv_sub hl [1, 2, 0] rfl
          exact ih ls (i + 1) (by omega) hl (by omega)
        · refine lv_iconst (v := (nI (0))) hx hb dX11_sameItems_26 (by decide) ?_
          exact rl_zret hC hW hr hlk rfl (Nat.le_refl _) (Nat.le_refl _) ⟨_, rfl, rfl, rfl, rfl, by decide⟩ dX11_sameItems_27
  · refine lv_iconst (v := (nI (0))) hx hb dX11_sameItems_7 (by decide) ?_
    exact rl_zret hC hW hr hlk rfl (Nat.le_refl _) (Nat.le_refl _) ⟨_, rfl, rfl, rfl, rfl, by decide⟩ dX11_sameItems_8

set_option maxHeartbeats 4000000 in
set_option maxRecDepth 100000 in
theorem cC_alikeRecords (l : Launch) (D : va_G) (t : Nat → ClassId) (A : Nat → Prop) (f : rl_M) (z : Nat) (x : Nat) (T : Nat → Nat → Nat) (Th : Nat → Prop) (hI : CI t f x T Th) (w : Nat) (hw : w < 6) (hAL : ∀ r1 r2 : Option Nat, (∀ q, r1 = some q → Th q) → (∀ q, r2 = some q → Th q) → rl_Met l yX11_alike (.code yX11_alike cX11_alike 5 (some FieldType.boolean)) (rl_rm (1 + 2 * (6 - (w + 1))) 0 0) D t A f z [va_rf (r1), va_rf (r2), .int (nI (w + 1))] (rl_qi z fun r f1 => f = f1 ∧ (r = 0 ∨ r = 1))) (a1 a2 : Nat) (hT1 : cT6 t f x T Th a1) (hT2 : cT6 t f x T Th a2) : rl_Met l yX11_alikeRecords (.code yX11_alikeRecords cX11_alikeRecords 4 (some FieldType.boolean)) (rl_rm (2 * (6 - w)) 0 0) D t A f z [.ref (a1), .ref (a2), .int (nI (w))] (rl_qi z fun r f1 => f = f1 ∧ (r = 0 ∨ r = 1)) := by
  refine rl_begin (own := RX11) (lv := [(0, .ref (a1)), (1, .ref (a2)), (2, .int (nI (w)))]) (by decide +kernel) rfl (Nat.le_of_ble_eq_true rfl) rfl fun p e s m0 args below meth c ls H locs hC hr hlk hnm hW hl hx hb => ?_
  have hrm : ∃ k, 2 * (6 - w) = k + 1 := ⟨2 * (6 - w) - 1, by omega⟩
  obtain ⟨j1, nu1, th1, n1, gn1, gt1, hj1, -, -, hnT1, k01, k11, k21, k31⟩ := hT1
  obtain ⟨-, hj51, -⟩ := id (hI.2.2.1 j1 hj1)
  obtain ⟨j2, nu2, th2, n2, gn2, gt2, hj2, -, -, hnT2, k02, k12, k22, k32⟩ := hT2
  obtain ⟨-, hj52, -⟩ := id (hI.2.2.1 j2 hj2)
  refine lv_aload_n hx hb dX11_alikeRecords_0 rfl (lv_at hl 0 rfl) ?_
  refine rl_get (v := .ref (x + 16 + 3 * j1)) hC hW fl_X11_219 k01 rfl dX11_alikeRecords_1 ?_
  refine lv_aload_n hx hb dX11_alikeRecords_4 rfl (lv_at hl 1 rfl) ?_
  refine rl_get (v := .ref (x + 16 + 3 * j2)) hC hW fl_X11_219 k02 rfl dX11_alikeRecords_5 ?_
  refine lv_acmp_ne (rx := some (x + 16 + 3 * j1)) (ry := some (x + 16 + 3 * j2)) (tgt := 22) hx hb dX11_alikeRecords_8 (by decide) (fun c1 => ?_) (fun c1 => ?_)
  · refine lv_iconst (v := (nI (0))) hx hb dX11_alikeRecords_22 (by decide) ?_
    exact rl_zret hC hW hr hlk rfl (Nat.le_refl _) (Nat.le_refl _) ⟨_, rfl, rfl, rfl, rfl, by decide⟩ dX11_alikeRecords_23
  · refine lv_aload_n hx hb dX11_alikeRecords_11 rfl (lv_at hl 0 rfl) ?_
    refine rl_calliQ (rl_runV (b := a1) (As := []) (rest := []) hC hW (cC_Rec_extent l D t A _ z a1 _ nu1 th1 _ gn1 k01 k11) cs_X11_120 im_X6_extent sl_X6_extent k01 rfl ⟨by simp only [rl_rm]; omega, by simp only [rl_rm]; omega⟩ rfl hl.1 rfl (Nat.le_of_ble_eq_true rfl) dX11_alikeRecords_12 ⟨(Nat.le_of_ble_eq_true rfl), (Nat.le_of_ble_eq_true rfl)⟩) hW (fun r f1 H locs hp hW => ?_)
    obtain ⟨rfl, rfl⟩ := hp
    refine lv_aload_n hx hb dX11_alikeRecords_15 rfl (lv_at hl 1 rfl) ?_
    refine rl_calliQ (rl_runV (b := a2) (As := []) (rest := [.int (nI (n1))]) hC hW (cC_Rec_extent l D t A _ z a2 _ nu2 th2 _ gn2 k02 k12) cs_X11_120 im_X6_extent sl_X6_extent k02 rfl ⟨by simp only [rl_rm]; omega, by simp only [rl_rm]; omega⟩ rfl hl.1 rfl (Nat.le_of_ble_eq_true rfl) dX11_alikeRecords_16 ⟨(Nat.le_of_ble_eq_true rfl), (Nat.le_of_ble_eq_true rfl)⟩) hW (fun r f1 H locs hp hW => ?_)
    obtain ⟨rfl, rfl⟩ := hp
    refine lv_icmp_eq (tgt := 24) hx hb dX11_alikeRecords_19 (by decide) (fun c2 => ?_) (fun c2 => ?_)
    · have e12 : n1 = n2 := (nI_eq (by omega) (by omega)).mp c2
      subst e12
      refine lv_iconst (v := (nI (0))) hx hb dX11_alikeRecords_24 (by decide) ?_
      refine lv_istore_n (lv' := [(3, .int (nI (0))), (0, .ref (a1)), (1, .ref (a2)), (2, .int (nI (w)))]) hx hb dX11_alikeRecords_25 rfl hl (by decide) rfl (fun ls hl => ?_)
      replace hl : lv_has ls 4 [(0, .ref (a1)), (1, .ref (a2)), (2, .int (nI (w))), (3, .int (nI (0)))] := lv_sub hl [1, 2, 3, 0] rfl
      replace hl : ∃ i : Nat, (i ≤ n1) ∧ lv_has ls 4 [(0, .ref (a1)), (1, .ref (a2)), (2, .int (nI (w))), (3, .int (nI (i)))] := ⟨0, Nat.zero_le _, hl⟩
      obtain ⟨i, hi, hl⟩ := hl
      obtain ⟨n, hn⟩ : ∃ n, n1 - i < n := ⟨_, Nat.lt_succ_self _⟩
      induction n generalizing i H locs ls with
      | zero => exact absurd hn (Nat.not_lt_zero _)
      | succ n ih =>
        refine lv_iload_n hx hb dX11_alikeRecords_26 rfl (lv_at hl 3 rfl) ?_
        refine lv_aload_n hx hb dX11_alikeRecords_27 rfl (lv_at hl 0 rfl) ?_
        refine rl_calliQ (rl_runV (b := a1) (As := []) (rest := [.int (nI (i))]) hC hW (cC_Rec_extent l D t A _ z a1 _ nu1 th1 _ gn1 k01 k11) cs_X11_120 im_X6_extent sl_X6_extent k01 rfl ⟨by simp only [rl_rm]; omega, by simp only [rl_rm]; omega⟩ rfl hl.1 rfl (Nat.le_of_ble_eq_true rfl) dX11_alikeRecords_28 ⟨(Nat.le_of_ble_eq_true rfl), (Nat.le_of_ble_eq_true rfl)⟩) hW (fun r f1 H locs hp hW => ?_)
        obtain ⟨rfl, rfl⟩ := hp
        refine lv_icmp_ge (tgt := 58) hx hb dX11_alikeRecords_31 (by decide) (fun c3 => ?_) (fun c3 => ?_)
        · clear ih hn hi c3
          refine lv_iconst (v := (nI (0))) hx hb dX11_alikeRecords_58 (by decide) ?_
          refine lv_istore_n (lv' := [(3, .int (nI (0))), (0, .ref (a1)), (1, .ref (a2)), (2, .int (nI (w)))]) hx hb dX11_alikeRecords_59 rfl hl (by decide) rfl (fun ls hl => ?_)
          replace hl : lv_has ls 4 [(0, .ref (a1)), (1, .ref (a2)), (2, .int (nI (w))), (3, .int (nI (0)))] := lv_sub hl [1, 2, 3, 0] rfl
          replace hl : ∃ i : Nat, (i ≤ n1) ∧ lv_has ls 4 [(0, .ref (a1)), (1, .ref (a2)), (2, .int (nI (w))), (3, .int (nI (i)))] := ⟨0, Nat.zero_le _, hl⟩
          obtain ⟨i, hi, hl⟩ := hl
          obtain ⟨n, hn⟩ : ∃ n, n1 - i < n := ⟨_, Nat.lt_succ_self _⟩
          induction n generalizing i H locs ls with
          | zero => exact absurd hn (Nat.not_lt_zero _)
          | succ n ih =>
            refine lv_iload_n hx hb dX11_alikeRecords_60 rfl (lv_at hl 3 rfl) ?_
            refine lv_aload_n hx hb dX11_alikeRecords_61 rfl (lv_at hl 0 rfl) ?_
            refine rl_calliQ (rl_runV (b := a1) (As := []) (rest := [.int (nI (i))]) hC hW (cC_Rec_extent l D t A _ z a1 _ nu1 th1 _ gn1 k01 k11) cs_X11_120 im_X6_extent sl_X6_extent k01 rfl ⟨by simp only [rl_rm]; omega, by simp only [rl_rm]; omega⟩ rfl hl.1 rfl (Nat.le_of_ble_eq_true rfl) dX11_alikeRecords_62 ⟨(Nat.le_of_ble_eq_true rfl), (Nat.le_of_ble_eq_true rfl)⟩) hW (fun r f1 H locs hp hW => ?_)
            obtain ⟨rfl, rfl⟩ := hp
            refine lv_icmp_ge (tgt := 97) hx hb dX11_alikeRecords_65 (by decide) (fun c3 => ?_) (fun c3 => ?_)
            · refine lv_iconst (v := (nI (1))) hx hb dX11_alikeRecords_97 (by decide) ?_
              exact rl_zret hC hW hr hlk rfl (Nat.le_refl _) (Nat.le_refl _) ⟨_, rfl, rfl, rfl, rfl, by decide⟩ dX11_alikeRecords_98
            · have hlt : i < n1 := rg_lt c3 (by omega) (by omega)
              refine lv_aload_n hx hb dX11_alikeRecords_68 rfl (lv_at hl 0 rfl) ?_
              refine rl_get (v := .ref (th1)) hC hW fl_X11_152 k01 rfl dX11_alikeRecords_69 ?_
              refine lv_iload_n hx hb dX11_alikeRecords_72 rfl (lv_at hl 3 rfl) ?_
              refine rl_aald_n 3 hC hW rfl k21 (by omega) (by omega) dX11_alikeRecords_73 ?_
              obtain ⟨r1, er1⟩ : ∃ r : Option Nat, r = gt1 (i) := ⟨_, rfl⟩
              refine rl_topqq er1.symm ?_
              refine lv_aload_n hx hb dX11_alikeRecords_74 rfl (lv_at hl 1 rfl) ?_
              refine rl_get (v := .ref (th2)) hC hW fl_X11_152 k02 rfl dX11_alikeRecords_75 ?_
              refine lv_iload_n hx hb dX11_alikeRecords_78 rfl (lv_at hl 3 rfl) ?_
              refine rl_aald_n 3 hC hW rfl k22 (by omega) (by omega) dX11_alikeRecords_79 ?_
              obtain ⟨r2, er2⟩ : ∃ r : Option Nat, r = gt2 (i) := ⟨_, rfl⟩
              refine rl_topqq er2.symm ?_
              refine lv_iload_n hx hb dX11_alikeRecords_80 rfl (lv_at hl 2 rfl) ?_
              refine lv_iconst (v := (nI (1))) hx hb dX11_alikeRecords_81 (by decide) ?_
              refine lv_iadd hx hb dX11_alikeRecords_82 ?_
              refine rl_topn (nI_add _ _) ?_
              refine rl_calliQ (rl_runS (As := [va_rf (r1), va_rf (r2), .int (nI ((w) + (1)))]) (rest := []) hC hW (hAL r1 r2 (fun q e => k31 i hlt q (er1.symm.trans e)) (fun q e => k32 i hlt q (er2.symm.trans e))) cs_X11_155 sm_X11_alike ⟨by simp only [rl_rm]; omega, by simp only [rl_rm]; omega⟩ rfl hl.1 rfl (Nat.le_of_ble_eq_true rfl) dX11_alikeRecords_83 ⟨(Nat.le_of_ble_eq_true rfl), (Nat.le_of_ble_eq_true rfl)⟩) hW (fun r f1 H locs hp hW => ?_)
              obtain ⟨rfl, hb01⟩ := hp
              refine lv_if_ne (tgt := 91) hx hb dX11_alikeRecords_86 (by decide) (fun c4 => ?_) (fun c4 => ?_)
              · refine lv_iinc (v := (nI ((i) + 1))) (lv' := [(3, .int (nI ((i) + 1))), (0, .ref (a1)), (1, .ref (a2)), (2, .int (nI (w)))]) hx hb dX11_alikeRecords_91 hl (k := 3) rfl (nI_1 _) (by decide) rfl (fun ls hl => ?_)
                refine lv_goto (tgt := 60) hx hb dX11_alikeRecords_94 (by decide) ?_
                replace hl : lv_has ls 4 [(0, .ref (a1)), (1, .ref (a2)), (2, .int (nI (w))), (3, .int (nI ((i) + 1)))] := lv_sub hl [1, 2, 3, 0] rfl
                exact ih H locs hW ls (i + 1) (by omega) hl (by omega)
              · refine lv_iconst (v := (nI (0))) hx hb dX11_alikeRecords_89 (by decide) ?_
                exact rl_zret hC hW hr hlk rfl (Nat.le_refl _) (Nat.le_refl _) ⟨_, rfl, rfl, rfl, rfl, by decide⟩ dX11_alikeRecords_90
        · have hlt : i < n1 := rg_lt c3 (by omega) (by omega)
          refine lv_aload_n hx hb dX11_alikeRecords_34 rfl (lv_at hl 0 rfl) ?_
          refine rl_get (v := .ref (nu1)) hC hW fl_X11_149 k01 rfl dX11_alikeRecords_35 ?_
          refine lv_iload_n hx hb dX11_alikeRecords_38 rfl (lv_at hl 3 rfl) ?_
          refine rl_lald_n hC hW k11 (by omega) (by omega) dX11_alikeRecords_39 ?_
          refine lv_aload_n hx hb dX11_alikeRecords_40 rfl (lv_at hl 1 rfl) ?_
          refine rl_get (v := .ref (nu2)) hC hW fl_X11_149 k02 rfl dX11_alikeRecords_41 ?_
          refine lv_iload_n hx hb dX11_alikeRecords_44 rfl (lv_at hl 3 rfl) ?_
          refine rl_lald_n hC hW k12 (by omega) (by omega) dX11_alikeRecords_45 ?_
          refine W.lcmp hx hb dX11_alikeRecords_46 ?_
          refine lv_if_eq (tgt := 52) hx hb dX11_alikeRecords_47 (by decide) (fun c4 => ?_) (fun c4 => ?_)
          · refine lv_iinc (v := (nI ((i) + 1))) (lv' := [(3, .int (nI ((i) + 1))), (0, .ref (a1)), (1, .ref (a2)), (2, .int (nI (w)))]) hx hb dX11_alikeRecords_52 hl (k := 3) rfl (nI_1 _) (by decide) rfl (fun ls hl => ?_)
            refine lv_goto (tgt := 26) hx hb dX11_alikeRecords_55 (by decide) ?_
            replace hl : lv_has ls 4 [(0, .ref (a1)), (1, .ref (a2)), (2, .int (nI (w))), (3, .int (nI ((i) + 1)))] := lv_sub hl [1, 2, 3, 0] rfl
            exact ih H locs hW ls (i + 1) (by omega) hl (by omega)
          · refine lv_iconst (v := (nI (0))) hx hb dX11_alikeRecords_50 (by decide) ?_
            exact rl_zret hC hW hr hlk rfl (Nat.le_refl _) (Nat.le_refl _) ⟨_, rfl, rfl, rfl, rfl, by decide⟩ dX11_alikeRecords_51
    · refine lv_iconst (v := (nI (0))) hx hb dX11_alikeRecords_22 (by decide) ?_
      exact rl_zret hC hW hr hlk rfl (Nat.le_refl _) (Nat.le_refl _) ⟨_, rfl, rfl, rfl, rfl, by decide⟩ dX11_alikeRecords_23

set_option maxHeartbeats 4000000 in
set_option maxRecDepth 100000 in
theorem cC_alike0 (l : Launch) (D : va_G) (t : Nat → ClassId) (A : Nat → Prop) (f : rl_M) (z : Nat) (x : Nat) (T : Nat → Nat → Nat) (Th : Nat → Prop) (hI : CI t f x T Th) (w : Nat) (hw : w ≤ 6) (hAR : w < 6 → ∀ a1 a2 : Nat, cT6 t f x T Th a1 → cT6 t f x T Th a2 → rl_Met l yX11_alikeRecords (.code yX11_alikeRecords cX11_alikeRecords 4 (some FieldType.boolean)) (rl_rm (2 * (6 - w)) 0 0) D t A f z [.ref (a1), .ref (a2), .int (nI (w))] (rl_qi z fun r f1 => f = f1 ∧ (r = 0 ∨ r = 1))) (r1 r2 : Option Nat) (hr1 : ∀ q, r1 = some q → Th q) (hr2 : ∀ q, r2 = some q → Th q) : rl_Met l yX11_alike (.code yX11_alike cX11_alike 5 (some FieldType.boolean)) (rl_rm (1 + 2 * (6 - w)) 0 0) D t A f z [va_rf (r1), va_rf (r2), .int (nI (w))] (rl_qi z fun r f1 => f = f1 ∧ (r = 0 ∨ r = 1)) := by
  refine rl_begin (own := RX11) (lv := [(0, va_rf (r1)), (1, va_rf (r2)), (2, .int (nI (w)))]) (by decide +kernel) rfl (by cases r1 <;> cases r2 <;> exact Nat.le_of_ble_eq_true rfl) (by cases r1 <;> cases r2 <;> rfl) fun p e s m0 args below meth c ls H locs hC hr hlk hnm hW hl hx hb => ?_
  refine rl_aloadq_n hx hb dX11_alike_0 rfl (lv_at hl 0 rfl) ?_
  refine rl_aloadq_n hx hb dX11_alike_1 rfl (lv_at hl 1 rfl) ?_
  refine lv_acmp_ne (rx := r1) (ry := r2) (tgt := 7) hx hb dX11_alike_2 (by decide) (fun c1 => ?_) (fun c1 => ?_)
  · rcases r1 with _ | a1
    · rcases r2 with _ | a2
      · refine lv_aload_nN hx hb dX11_alike_7 rfl (lv_at hl 0 rfl) ?_
        refine lv_instN hx hb dX11_alike_8 ?_
        refine rl_topn (y := nI 0) (by decide) ?_
        refine lv_if_eq (tgt := 45) hx hb dX11_alike_11 (by decide) (fun c_1 => ?_) (fun c_1 => ?_)
        · refine lv_iload_n hx hb dX11_alike_45 rfl (lv_at hl 2 rfl) ?_
          refine lv_bipush (v := (nI (6))) hx hb dX11_alike_46 (by decide) ?_
          refine lv_icmp_ge (tgt := 84) hx hb dX11_alike_48 (by decide) (fun cw => ?_) (fun cw => ?_)
          · refine lv_iconst (v := (nI (0))) hx hb dX11_alike_84 (by decide) ?_
            exact rl_zret hC hW hr hlk rfl (Nat.le_refl _) (Nat.le_refl _) ⟨_, rfl, rfl, rfl, rfl, by decide⟩ dX11_alike_85
          · have hw6 : w < 6 := rg_lt cw (by omega) (by omega)
            refine lv_aload_nN hx hb dX11_alike_51 rfl (lv_at hl 0 rfl) ?_
            refine lv_instN hx hb dX11_alike_52 ?_
            refine rl_topn (y := nI 0) (by decide) ?_
            refine lv_if_eq (tgt := 84) hx hb dX11_alike_55 (by decide) (fun c_2 => ?_) (fun c_2 => ?_)
            · refine lv_iconst (v := (nI (0))) hx hb dX11_alike_84 (by decide) ?_
              exact rl_zret hC hW hr hlk rfl (Nat.le_refl _) (Nat.le_refl _) ⟨_, rfl, rfl, rfl, rfl, by decide⟩ dX11_alike_85
            · first | exact absurd c_2 (by decide) | exact absurd (by decide) c_2
        · first | exact absurd c_1 (by decide) | exact absurd (by decide) c_1
      · obtain ⟨-, hT2⟩ := hI.th (hr2 a2 rfl)
        rcases hT2 with hT2 | hT2 | hT2
        · obtain ⟨bb2, nm2, o2, lo2, -, k02⟩ := hT2
          refine lv_aload_nN hx hb dX11_alike_7 rfl (lv_at hl 0 rfl) ?_
          refine lv_instN hx hb dX11_alike_8 ?_
          refine rl_topn (y := nI 0) (by decide) ?_
          refine lv_if_eq (tgt := 45) hx hb dX11_alike_11 (by decide) (fun c_3 => ?_) (fun c_3 => ?_)
          · refine lv_iload_n hx hb dX11_alike_45 rfl (lv_at hl 2 rfl) ?_
            refine lv_bipush (v := (nI (6))) hx hb dX11_alike_46 (by decide) ?_
            refine lv_icmp_ge (tgt := 84) hx hb dX11_alike_48 (by decide) (fun cw => ?_) (fun cw => ?_)
            · refine lv_iconst (v := (nI (0))) hx hb dX11_alike_84 (by decide) ?_
              exact rl_zret hC hW hr hlk rfl (Nat.le_refl _) (Nat.le_refl _) ⟨_, rfl, rfl, rfl, rfl, by decide⟩ dX11_alike_85
            · have hw6 : w < 6 := rg_lt cw (by omega) (by omega)
              refine lv_aload_nN hx hb dX11_alike_51 rfl (lv_at hl 0 rfl) ?_
              refine lv_instN hx hb dX11_alike_52 ?_
              refine rl_topn (y := nI 0) (by decide) ?_
              refine lv_if_eq (tgt := 84) hx hb dX11_alike_55 (by decide) (fun c_4 => ?_) (fun c_4 => ?_)
              · refine lv_iconst (v := (nI (0))) hx hb dX11_alike_84 (by decide) ?_
                exact rl_zret hC hW hr hlk rfl (Nat.le_refl _) (Nat.le_refl _) ⟨_, rfl, rfl, rfl, rfl, by decide⟩ dX11_alike_85
              · first | exact absurd c_4 (by decide) | exact absurd (by decide) c_4
          · first | exact absurd c_3 (by decide) | exact absurd (by decide) c_3
        · obtain ⟨rr2, n2, g2, -, hn82, k02, k12⟩ := hT2
          refine lv_aload_nN hx hb dX11_alike_7 rfl (lv_at hl 0 rfl) ?_
          refine lv_instN hx hb dX11_alike_8 ?_
          refine rl_topn (y := nI 0) (by decide) ?_
          refine lv_if_eq (tgt := 45) hx hb dX11_alike_11 (by decide) (fun c_5 => ?_) (fun c_5 => ?_)
          · refine lv_iload_n hx hb dX11_alike_45 rfl (lv_at hl 2 rfl) ?_
            refine lv_bipush (v := (nI (6))) hx hb dX11_alike_46 (by decide) ?_
            refine lv_icmp_ge (tgt := 84) hx hb dX11_alike_48 (by decide) (fun cw => ?_) (fun cw => ?_)
            · refine lv_iconst (v := (nI (0))) hx hb dX11_alike_84 (by decide) ?_
              exact rl_zret hC hW hr hlk rfl (Nat.le_refl _) (Nat.le_refl _) ⟨_, rfl, rfl, rfl, rfl, by decide⟩ dX11_alike_85
            · have hw6 : w < 6 := rg_lt cw (by omega) (by omega)
              refine lv_aload_nN hx hb dX11_alike_51 rfl (lv_at hl 0 rfl) ?_
              refine lv_instN hx hb dX11_alike_52 ?_
              refine rl_topn (y := nI 0) (by decide) ?_
              refine lv_if_eq (tgt := 84) hx hb dX11_alike_55 (by decide) (fun c_6 => ?_) (fun c_6 => ?_)
              · refine lv_iconst (v := (nI (0))) hx hb dX11_alike_84 (by decide) ?_
                exact rl_zret hC hW hr hlk rfl (Nat.le_refl _) (Nat.le_refl _) ⟨_, rfl, rfl, rfl, rfl, by decide⟩ dX11_alike_85
              · first | exact absurd c_6 (by decide) | exact absurd (by decide) c_6
          · first | exact absurd c_5 (by decide) | exact absurd (by decide) c_5
        · have hT62 := hT2
          obtain ⟨j2, nu2, th2, n2, gn2, gt2, -, -, -, -, k02, -⟩ := hT2
          refine lv_aload_nN hx hb dX11_alike_7 rfl (lv_at hl 0 rfl) ?_
          refine lv_instN hx hb dX11_alike_8 ?_
          refine rl_topn (y := nI 0) (by decide) ?_
          refine lv_if_eq (tgt := 45) hx hb dX11_alike_11 (by decide) (fun c_7 => ?_) (fun c_7 => ?_)
          · refine lv_iload_n hx hb dX11_alike_45 rfl (lv_at hl 2 rfl) ?_
            refine lv_bipush (v := (nI (6))) hx hb dX11_alike_46 (by decide) ?_
            refine lv_icmp_ge (tgt := 84) hx hb dX11_alike_48 (by decide) (fun cw => ?_) (fun cw => ?_)
            · refine lv_iconst (v := (nI (0))) hx hb dX11_alike_84 (by decide) ?_
              exact rl_zret hC hW hr hlk rfl (Nat.le_refl _) (Nat.le_refl _) ⟨_, rfl, rfl, rfl, rfl, by decide⟩ dX11_alike_85
            · have hw6 : w < 6 := rg_lt cw (by omega) (by omega)
              refine lv_aload_nN hx hb dX11_alike_51 rfl (lv_at hl 0 rfl) ?_
              refine lv_instN hx hb dX11_alike_52 ?_
              refine rl_topn (y := nI 0) (by decide) ?_
              refine lv_if_eq (tgt := 84) hx hb dX11_alike_55 (by decide) (fun c_8 => ?_) (fun c_8 => ?_)
              · refine lv_iconst (v := (nI (0))) hx hb dX11_alike_84 (by decide) ?_
                exact rl_zret hC hW hr hlk rfl (Nat.le_refl _) (Nat.le_refl _) ⟨_, rfl, rfl, rfl, rfl, by decide⟩ dX11_alike_85
              · first | exact absurd c_8 (by decide) | exact absurd (by decide) c_8
          · first | exact absurd c_7 (by decide) | exact absurd (by decide) c_7
    · obtain ⟨-, hT1⟩ := hI.th (hr1 a1 rfl)
      rcases hT1 with hT1 | hT1 | hT1
      · obtain ⟨bb1, nm1, o1, lo1, -, k01⟩ := hT1
        rcases r2 with _ | a2
        · refine lv_aload_n hx hb dX11_alike_7 rfl (lv_at hl 0 rfl) ?_
          refine rl_instNo hC hW k01 rfl mw_290 (by decide) dX11_alike_8 ?_
          refine rl_topn (y := nI 0) (by decide) ?_
          refine lv_if_eq (tgt := 45) hx hb dX11_alike_11 (by decide) (fun c_9 => ?_) (fun c_9 => ?_)
          · refine lv_iload_n hx hb dX11_alike_45 rfl (lv_at hl 2 rfl) ?_
            refine lv_bipush (v := (nI (6))) hx hb dX11_alike_46 (by decide) ?_
            refine lv_icmp_ge (tgt := 84) hx hb dX11_alike_48 (by decide) (fun cw => ?_) (fun cw => ?_)
            · refine lv_iconst (v := (nI (0))) hx hb dX11_alike_84 (by decide) ?_
              exact rl_zret hC hW hr hlk rfl (Nat.le_refl _) (Nat.le_refl _) ⟨_, rfl, rfl, rfl, rfl, by decide⟩ dX11_alike_85
            · have hw6 : w < 6 := rg_lt cw (by omega) (by omega)
              refine lv_aload_n hx hb dX11_alike_51 rfl (lv_at hl 0 rfl) ?_
              refine rl_instNo hC hW k01 rfl mw_338 (by decide) dX11_alike_52 ?_
              refine rl_topn (y := nI 0) (by decide) ?_
              refine lv_if_eq (tgt := 84) hx hb dX11_alike_55 (by decide) (fun c_10 => ?_) (fun c_10 => ?_)
              · refine lv_iconst (v := (nI (0))) hx hb dX11_alike_84 (by decide) ?_
                exact rl_zret hC hW hr hlk rfl (Nat.le_refl _) (Nat.le_refl _) ⟨_, rfl, rfl, rfl, rfl, by decide⟩ dX11_alike_85
              · first | exact absurd c_10 (by decide) | exact absurd (by decide) c_10
          · first | exact absurd c_9 (by decide) | exact absurd (by decide) c_9
        · obtain ⟨-, hT2⟩ := hI.th (hr2 a2 rfl)
          rcases hT2 with hT2 | hT2 | hT2
          · obtain ⟨bb2, nm2, o2, lo2, -, k02⟩ := hT2
            refine lv_aload_n hx hb dX11_alike_7 rfl (lv_at hl 0 rfl) ?_
            refine rl_instNo hC hW k01 rfl mw_290 (by decide) dX11_alike_8 ?_
            refine rl_topn (y := nI 0) (by decide) ?_
            refine lv_if_eq (tgt := 45) hx hb dX11_alike_11 (by decide) (fun c_11 => ?_) (fun c_11 => ?_)
            · refine lv_iload_n hx hb dX11_alike_45 rfl (lv_at hl 2 rfl) ?_
              refine lv_bipush (v := (nI (6))) hx hb dX11_alike_46 (by decide) ?_
              refine lv_icmp_ge (tgt := 84) hx hb dX11_alike_48 (by decide) (fun cw => ?_) (fun cw => ?_)
              · refine lv_iconst (v := (nI (0))) hx hb dX11_alike_84 (by decide) ?_
                exact rl_zret hC hW hr hlk rfl (Nat.le_refl _) (Nat.le_refl _) ⟨_, rfl, rfl, rfl, rfl, by decide⟩ dX11_alike_85
              · have hw6 : w < 6 := rg_lt cw (by omega) (by omega)
                refine lv_aload_n hx hb dX11_alike_51 rfl (lv_at hl 0 rfl) ?_
                refine rl_instNo hC hW k01 rfl mw_338 (by decide) dX11_alike_52 ?_
                refine rl_topn (y := nI 0) (by decide) ?_
                refine lv_if_eq (tgt := 84) hx hb dX11_alike_55 (by decide) (fun c_12 => ?_) (fun c_12 => ?_)
                · refine lv_iconst (v := (nI (0))) hx hb dX11_alike_84 (by decide) ?_
                  exact rl_zret hC hW hr hlk rfl (Nat.le_refl _) (Nat.le_refl _) ⟨_, rfl, rfl, rfl, rfl, by decide⟩ dX11_alike_85
                · first | exact absurd c_12 (by decide) | exact absurd (by decide) c_12
            · first | exact absurd c_11 (by decide) | exact absurd (by decide) c_11
          · obtain ⟨rr2, n2, g2, -, hn82, k02, k12⟩ := hT2
            refine lv_aload_n hx hb dX11_alike_7 rfl (lv_at hl 0 rfl) ?_
            refine rl_instNo hC hW k01 rfl mw_290 (by decide) dX11_alike_8 ?_
            refine rl_topn (y := nI 0) (by decide) ?_
            refine lv_if_eq (tgt := 45) hx hb dX11_alike_11 (by decide) (fun c_13 => ?_) (fun c_13 => ?_)
            · refine lv_iload_n hx hb dX11_alike_45 rfl (lv_at hl 2 rfl) ?_
              refine lv_bipush (v := (nI (6))) hx hb dX11_alike_46 (by decide) ?_
              refine lv_icmp_ge (tgt := 84) hx hb dX11_alike_48 (by decide) (fun cw => ?_) (fun cw => ?_)
              · refine lv_iconst (v := (nI (0))) hx hb dX11_alike_84 (by decide) ?_
                exact rl_zret hC hW hr hlk rfl (Nat.le_refl _) (Nat.le_refl _) ⟨_, rfl, rfl, rfl, rfl, by decide⟩ dX11_alike_85
              · have hw6 : w < 6 := rg_lt cw (by omega) (by omega)
                refine lv_aload_n hx hb dX11_alike_51 rfl (lv_at hl 0 rfl) ?_
                refine rl_instNo hC hW k01 rfl mw_338 (by decide) dX11_alike_52 ?_
                refine rl_topn (y := nI 0) (by decide) ?_
                refine lv_if_eq (tgt := 84) hx hb dX11_alike_55 (by decide) (fun c_14 => ?_) (fun c_14 => ?_)
                · refine lv_iconst (v := (nI (0))) hx hb dX11_alike_84 (by decide) ?_
                  exact rl_zret hC hW hr hlk rfl (Nat.le_refl _) (Nat.le_refl _) ⟨_, rfl, rfl, rfl, rfl, by decide⟩ dX11_alike_85
                · first | exact absurd c_14 (by decide) | exact absurd (by decide) c_14
            · first | exact absurd c_13 (by decide) | exact absurd (by decide) c_13
          · have hT62 := hT2
            obtain ⟨j2, nu2, th2, n2, gn2, gt2, -, -, -, -, k02, -⟩ := hT2
            refine lv_aload_n hx hb dX11_alike_7 rfl (lv_at hl 0 rfl) ?_
            refine rl_instNo hC hW k01 rfl mw_290 (by decide) dX11_alike_8 ?_
            refine rl_topn (y := nI 0) (by decide) ?_
            refine lv_if_eq (tgt := 45) hx hb dX11_alike_11 (by decide) (fun c_15 => ?_) (fun c_15 => ?_)
            · refine lv_iload_n hx hb dX11_alike_45 rfl (lv_at hl 2 rfl) ?_
              refine lv_bipush (v := (nI (6))) hx hb dX11_alike_46 (by decide) ?_
              refine lv_icmp_ge (tgt := 84) hx hb dX11_alike_48 (by decide) (fun cw => ?_) (fun cw => ?_)
              · refine lv_iconst (v := (nI (0))) hx hb dX11_alike_84 (by decide) ?_
                exact rl_zret hC hW hr hlk rfl (Nat.le_refl _) (Nat.le_refl _) ⟨_, rfl, rfl, rfl, rfl, by decide⟩ dX11_alike_85
              · have hw6 : w < 6 := rg_lt cw (by omega) (by omega)
                refine lv_aload_n hx hb dX11_alike_51 rfl (lv_at hl 0 rfl) ?_
                refine rl_instNo hC hW k01 rfl mw_338 (by decide) dX11_alike_52 ?_
                refine rl_topn (y := nI 0) (by decide) ?_
                refine lv_if_eq (tgt := 84) hx hb dX11_alike_55 (by decide) (fun c_16 => ?_) (fun c_16 => ?_)
                · refine lv_iconst (v := (nI (0))) hx hb dX11_alike_84 (by decide) ?_
                  exact rl_zret hC hW hr hlk rfl (Nat.le_refl _) (Nat.le_refl _) ⟨_, rfl, rfl, rfl, rfl, by decide⟩ dX11_alike_85
                · first | exact absurd c_16 (by decide) | exact absurd (by decide) c_16
            · first | exact absurd c_15 (by decide) | exact absurd (by decide) c_15
      · obtain ⟨rr1, n1, g1, -, hn81, k01, k11⟩ := hT1
        rcases r2 with _ | a2
        · refine lv_aload_n hx hb dX11_alike_7 rfl (lv_at hl 0 rfl) ?_
          refine rl_instY hC hW k01 rfl mw_290 mt_996 dX11_alike_8 ?_
          refine rl_topn (y := nI 1) (by decide) ?_
          refine lv_if_eq (tgt := 45) hx hb dX11_alike_11 (by decide) (fun c_17 => ?_) (fun c_17 => ?_)
          · first | exact absurd c_17 (by decide) | exact absurd (by decide) c_17
          · refine lv_aload_n hx hb dX11_alike_14 rfl (lv_at hl 0 rfl) ?_
            refine rl_castY hC hW k01 rfl mw_290 mt_996 dX11_alike_15 ?_
            refine lv_astore_n (lv' := [(3, .ref (a1)), (0, .ref (a1)), (1, .null), (2, .int (nI (w)))]) hx hb dX11_alike_18 rfl hl (by decide) rfl (fun ls hl => ?_)
            refine lv_aload_nN hx hb dX11_alike_19 rfl (lv_at hl 2 rfl) ?_
            refine lv_instN hx hb dX11_alike_20 ?_
            refine rl_topn (y := nI 0) (by decide) ?_
            refine lv_if_eq (tgt := 45) hx hb dX11_alike_23 (by decide) (fun c_18 => ?_) (fun c_18 => ?_)
            · refine lv_iload_n hx hb dX11_alike_45 rfl (lv_at hl 3 rfl) ?_
              refine lv_bipush (v := (nI (6))) hx hb dX11_alike_46 (by decide) ?_
              refine lv_icmp_ge (tgt := 84) hx hb dX11_alike_48 (by decide) (fun cw => ?_) (fun cw => ?_)
              · refine lv_iconst (v := (nI (0))) hx hb dX11_alike_84 (by decide) ?_
                exact rl_zret hC hW hr hlk rfl (Nat.le_refl _) (Nat.le_refl _) ⟨_, rfl, rfl, rfl, rfl, by decide⟩ dX11_alike_85
              · have hw6 : w < 6 := rg_lt cw (by omega) (by omega)
                refine lv_aload_n hx hb dX11_alike_51 rfl (lv_at hl 1 rfl) ?_
                refine rl_instNo hC hW k01 rfl mw_338 (by decide) dX11_alike_52 ?_
                refine rl_topn (y := nI 0) (by decide) ?_
                refine lv_if_eq (tgt := 84) hx hb dX11_alike_55 (by decide) (fun c_19 => ?_) (fun c_19 => ?_)
                · refine lv_iconst (v := (nI (0))) hx hb dX11_alike_84 (by decide) ?_
                  exact rl_zret hC hW hr hlk rfl (Nat.le_refl _) (Nat.le_refl _) ⟨_, rfl, rfl, rfl, rfl, by decide⟩ dX11_alike_85
                · first | exact absurd c_19 (by decide) | exact absurd (by decide) c_19
            · first | exact absurd c_18 (by decide) | exact absurd (by decide) c_18
        · obtain ⟨-, hT2⟩ := hI.th (hr2 a2 rfl)
          rcases hT2 with hT2 | hT2 | hT2
          · obtain ⟨bb2, nm2, o2, lo2, -, k02⟩ := hT2
            refine lv_aload_n hx hb dX11_alike_7 rfl (lv_at hl 0 rfl) ?_
            refine rl_instY hC hW k01 rfl mw_290 mt_996 dX11_alike_8 ?_
            refine rl_topn (y := nI 1) (by decide) ?_
            refine lv_if_eq (tgt := 45) hx hb dX11_alike_11 (by decide) (fun c_20 => ?_) (fun c_20 => ?_)
            · first | exact absurd c_20 (by decide) | exact absurd (by decide) c_20
            · refine lv_aload_n hx hb dX11_alike_14 rfl (lv_at hl 0 rfl) ?_
              refine rl_castY hC hW k01 rfl mw_290 mt_996 dX11_alike_15 ?_
              refine lv_astore_n (lv' := [(3, .ref (a1)), (0, .ref (a1)), (1, .ref (a2)), (2, .int (nI (w)))]) hx hb dX11_alike_18 rfl hl (by decide) rfl (fun ls hl => ?_)
              refine lv_aload_n hx hb dX11_alike_19 rfl (lv_at hl 2 rfl) ?_
              refine rl_instNo hC hW k02 rfl mw_290 (by decide) dX11_alike_20 ?_
              refine rl_topn (y := nI 0) (by decide) ?_
              refine lv_if_eq (tgt := 45) hx hb dX11_alike_23 (by decide) (fun c_21 => ?_) (fun c_21 => ?_)
              · refine lv_iload_n hx hb dX11_alike_45 rfl (lv_at hl 3 rfl) ?_
                refine lv_bipush (v := (nI (6))) hx hb dX11_alike_46 (by decide) ?_
                refine lv_icmp_ge (tgt := 84) hx hb dX11_alike_48 (by decide) (fun cw => ?_) (fun cw => ?_)
                · refine lv_iconst (v := (nI (0))) hx hb dX11_alike_84 (by decide) ?_
                  exact rl_zret hC hW hr hlk rfl (Nat.le_refl _) (Nat.le_refl _) ⟨_, rfl, rfl, rfl, rfl, by decide⟩ dX11_alike_85
                · have hw6 : w < 6 := rg_lt cw (by omega) (by omega)
                  refine lv_aload_n hx hb dX11_alike_51 rfl (lv_at hl 1 rfl) ?_
                  refine rl_instNo hC hW k01 rfl mw_338 (by decide) dX11_alike_52 ?_
                  refine rl_topn (y := nI 0) (by decide) ?_
                  refine lv_if_eq (tgt := 84) hx hb dX11_alike_55 (by decide) (fun c_22 => ?_) (fun c_22 => ?_)
                  · refine lv_iconst (v := (nI (0))) hx hb dX11_alike_84 (by decide) ?_
                    exact rl_zret hC hW hr hlk rfl (Nat.le_refl _) (Nat.le_refl _) ⟨_, rfl, rfl, rfl, rfl, by decide⟩ dX11_alike_85
                  · first | exact absurd c_22 (by decide) | exact absurd (by decide) c_22
              · first | exact absurd c_21 (by decide) | exact absurd (by decide) c_21
          · obtain ⟨rr2, n2, g2, -, hn82, k02, k12⟩ := hT2
            refine lv_aload_n hx hb dX11_alike_7 rfl (lv_at hl 0 rfl) ?_
            refine rl_instY hC hW k01 rfl mw_290 mt_996 dX11_alike_8 ?_
            refine rl_topn (y := nI 1) (by decide) ?_
            refine lv_if_eq (tgt := 45) hx hb dX11_alike_11 (by decide) (fun c_23 => ?_) (fun c_23 => ?_)
            · first | exact absurd c_23 (by decide) | exact absurd (by decide) c_23
            · refine lv_aload_n hx hb dX11_alike_14 rfl (lv_at hl 0 rfl) ?_
              refine rl_castY hC hW k01 rfl mw_290 mt_996 dX11_alike_15 ?_
              refine lv_astore_n (lv' := [(3, .ref (a1)), (0, .ref (a1)), (1, .ref (a2)), (2, .int (nI (w)))]) hx hb dX11_alike_18 rfl hl (by decide) rfl (fun ls hl => ?_)
              refine lv_aload_n hx hb dX11_alike_19 rfl (lv_at hl 2 rfl) ?_
              refine rl_instY hC hW k02 rfl mw_290 mt_996 dX11_alike_20 ?_
              refine rl_topn (y := nI 1) (by decide) ?_
              refine lv_if_eq (tgt := 45) hx hb dX11_alike_23 (by decide) (fun c_24 => ?_) (fun c_24 => ?_)
              · first | exact absurd c_24 (by decide) | exact absurd (by decide) c_24
              · refine lv_aload_n hx hb dX11_alike_26 rfl (lv_at hl 2 rfl) ?_
                refine rl_castY hC hW k02 rfl mw_290 mt_996 dX11_alike_27 ?_
                refine lv_astore (lv' := [(4, .ref (a2)), (3, .ref (a1)), (0, .ref (a1)), (1, .ref (a2)), (2, .int (nI (w)))]) hx hb dX11_alike_30 hl (by decide) rfl (fun ls hl => ?_)
                refine lv_aload_n hx hb dX11_alike_32 rfl (lv_at hl 1 rfl) ?_
                refine rl_get (v := .ref (rr1)) hC hW fl_X11_108 k01 rfl dX11_alike_33 ?_
                refine lv_aload hx hb dX11_alike_36 (lv_at hl 0 rfl) ?_
                refine rl_get (v := .ref (rr2)) hC hW fl_X11_108 k02 rfl dX11_alike_38 ?_
                refine rl_calliQ (rl_runS (As := [.ref (rr1), .ref (rr2)]) (rest := []) hC hW (cC_sameItems l D t A _ z _ _ _ _ _ _ hn81 hn82 k11 k12) cs_X11_211 sm_X11_sameItems ⟨by simp only [rl_rm]; omega, by simp only [rl_rm]; omega⟩ rfl hl.1 rfl (Nat.le_of_ble_eq_true rfl) dX11_alike_41 ⟨(Nat.le_of_ble_eq_true rfl), (Nat.le_of_ble_eq_true rfl)⟩) hW (fun r f1 H locs hp hW => ?_)
                obtain ⟨rfl, hb01⟩ := hp
                exact rl_zret hC hW hr hlk (by rcases hb01 with h9 | h9 <;> rw [h9] <;> rfl) (Nat.le_refl _) (Nat.le_refl _) ⟨_, rfl, rfl, rfl, rfl, hb01⟩ dX11_alike_44
          · have hT62 := hT2
            obtain ⟨j2, nu2, th2, n2, gn2, gt2, -, -, -, -, k02, -⟩ := hT2
            refine lv_aload_n hx hb dX11_alike_7 rfl (lv_at hl 0 rfl) ?_
            refine rl_instY hC hW k01 rfl mw_290 mt_996 dX11_alike_8 ?_
            refine rl_topn (y := nI 1) (by decide) ?_
            refine lv_if_eq (tgt := 45) hx hb dX11_alike_11 (by decide) (fun c_25 => ?_) (fun c_25 => ?_)
            · first | exact absurd c_25 (by decide) | exact absurd (by decide) c_25
            · refine lv_aload_n hx hb dX11_alike_14 rfl (lv_at hl 0 rfl) ?_
              refine rl_castY hC hW k01 rfl mw_290 mt_996 dX11_alike_15 ?_
              refine lv_astore_n (lv' := [(3, .ref (a1)), (0, .ref (a1)), (1, .ref (a2)), (2, .int (nI (w)))]) hx hb dX11_alike_18 rfl hl (by decide) rfl (fun ls hl => ?_)
              refine lv_aload_n hx hb dX11_alike_19 rfl (lv_at hl 2 rfl) ?_
              refine rl_instNo hC hW k02 rfl mw_290 (by decide) dX11_alike_20 ?_
              refine rl_topn (y := nI 0) (by decide) ?_
              refine lv_if_eq (tgt := 45) hx hb dX11_alike_23 (by decide) (fun c_26 => ?_) (fun c_26 => ?_)
              · refine lv_iload_n hx hb dX11_alike_45 rfl (lv_at hl 3 rfl) ?_
                refine lv_bipush (v := (nI (6))) hx hb dX11_alike_46 (by decide) ?_
                refine lv_icmp_ge (tgt := 84) hx hb dX11_alike_48 (by decide) (fun cw => ?_) (fun cw => ?_)
                · refine lv_iconst (v := (nI (0))) hx hb dX11_alike_84 (by decide) ?_
                  exact rl_zret hC hW hr hlk rfl (Nat.le_refl _) (Nat.le_refl _) ⟨_, rfl, rfl, rfl, rfl, by decide⟩ dX11_alike_85
                · have hw6 : w < 6 := rg_lt cw (by omega) (by omega)
                  refine lv_aload_n hx hb dX11_alike_51 rfl (lv_at hl 1 rfl) ?_
                  refine rl_instNo hC hW k01 rfl mw_338 (by decide) dX11_alike_52 ?_
                  refine rl_topn (y := nI 0) (by decide) ?_
                  refine lv_if_eq (tgt := 84) hx hb dX11_alike_55 (by decide) (fun c_27 => ?_) (fun c_27 => ?_)
                  · refine lv_iconst (v := (nI (0))) hx hb dX11_alike_84 (by decide) ?_
                    exact rl_zret hC hW hr hlk rfl (Nat.le_refl _) (Nat.le_refl _) ⟨_, rfl, rfl, rfl, rfl, by decide⟩ dX11_alike_85
                  · first | exact absurd c_27 (by decide) | exact absurd (by decide) c_27
              · first | exact absurd c_26 (by decide) | exact absurd (by decide) c_26
      · have hT61 := hT1
        obtain ⟨j1, nu1, th1, n1, gn1, gt1, -, -, -, -, k01, -⟩ := hT1
        rcases r2 with _ | a2
        · refine lv_aload_n hx hb dX11_alike_7 rfl (lv_at hl 0 rfl) ?_
          refine rl_instNo hC hW k01 rfl mw_290 (by decide) dX11_alike_8 ?_
          refine rl_topn (y := nI 0) (by decide) ?_
          refine lv_if_eq (tgt := 45) hx hb dX11_alike_11 (by decide) (fun c_28 => ?_) (fun c_28 => ?_)
          · refine lv_iload_n hx hb dX11_alike_45 rfl (lv_at hl 2 rfl) ?_
            refine lv_bipush (v := (nI (6))) hx hb dX11_alike_46 (by decide) ?_
            refine lv_icmp_ge (tgt := 84) hx hb dX11_alike_48 (by decide) (fun cw => ?_) (fun cw => ?_)
            · refine lv_iconst (v := (nI (0))) hx hb dX11_alike_84 (by decide) ?_
              exact rl_zret hC hW hr hlk rfl (Nat.le_refl _) (Nat.le_refl _) ⟨_, rfl, rfl, rfl, rfl, by decide⟩ dX11_alike_85
            · have hw6 : w < 6 := rg_lt cw (by omega) (by omega)
              refine lv_aload_n hx hb dX11_alike_51 rfl (lv_at hl 0 rfl) ?_
              refine rl_instY hC hW k01 rfl mw_338 mt_998 dX11_alike_52 ?_
              refine rl_topn (y := nI 1) (by decide) ?_
              refine lv_if_eq (tgt := 84) hx hb dX11_alike_55 (by decide) (fun c_29 => ?_) (fun c_29 => ?_)
              · first | exact absurd c_29 (by decide) | exact absurd (by decide) c_29
              · refine lv_aload_n hx hb dX11_alike_58 rfl (lv_at hl 0 rfl) ?_
                refine rl_castY hC hW k01 rfl mw_338 mt_998 dX11_alike_59 ?_
                refine lv_astore_n (lv' := [(3, .ref (a1)), (0, .ref (a1)), (1, .null), (2, .int (nI (w)))]) hx hb dX11_alike_62 rfl hl (by decide) rfl (fun ls hl => ?_)
                refine lv_aload_nN hx hb dX11_alike_63 rfl (lv_at hl 2 rfl) ?_
                refine lv_instN hx hb dX11_alike_64 ?_
                refine rl_topn (y := nI 0) (by decide) ?_
                refine lv_if_eq (tgt := 84) hx hb dX11_alike_67 (by decide) (fun c_30 => ?_) (fun c_30 => ?_)
                · refine lv_iconst (v := (nI (0))) hx hb dX11_alike_84 (by decide) ?_
                  exact rl_zret hC hW hr hlk rfl (Nat.le_refl _) (Nat.le_refl _) ⟨_, rfl, rfl, rfl, rfl, by decide⟩ dX11_alike_85
                · first | exact absurd c_30 (by decide) | exact absurd (by decide) c_30
          · first | exact absurd c_28 (by decide) | exact absurd (by decide) c_28
        · obtain ⟨-, hT2⟩ := hI.th (hr2 a2 rfl)
          rcases hT2 with hT2 | hT2 | hT2
          · obtain ⟨bb2, nm2, o2, lo2, -, k02⟩ := hT2
            refine lv_aload_n hx hb dX11_alike_7 rfl (lv_at hl 0 rfl) ?_
            refine rl_instNo hC hW k01 rfl mw_290 (by decide) dX11_alike_8 ?_
            refine rl_topn (y := nI 0) (by decide) ?_
            refine lv_if_eq (tgt := 45) hx hb dX11_alike_11 (by decide) (fun c_31 => ?_) (fun c_31 => ?_)
            · refine lv_iload_n hx hb dX11_alike_45 rfl (lv_at hl 2 rfl) ?_
              refine lv_bipush (v := (nI (6))) hx hb dX11_alike_46 (by decide) ?_
              refine lv_icmp_ge (tgt := 84) hx hb dX11_alike_48 (by decide) (fun cw => ?_) (fun cw => ?_)
              · refine lv_iconst (v := (nI (0))) hx hb dX11_alike_84 (by decide) ?_
                exact rl_zret hC hW hr hlk rfl (Nat.le_refl _) (Nat.le_refl _) ⟨_, rfl, rfl, rfl, rfl, by decide⟩ dX11_alike_85
              · have hw6 : w < 6 := rg_lt cw (by omega) (by omega)
                refine lv_aload_n hx hb dX11_alike_51 rfl (lv_at hl 0 rfl) ?_
                refine rl_instY hC hW k01 rfl mw_338 mt_998 dX11_alike_52 ?_
                refine rl_topn (y := nI 1) (by decide) ?_
                refine lv_if_eq (tgt := 84) hx hb dX11_alike_55 (by decide) (fun c_32 => ?_) (fun c_32 => ?_)
                · first | exact absurd c_32 (by decide) | exact absurd (by decide) c_32
                · refine lv_aload_n hx hb dX11_alike_58 rfl (lv_at hl 0 rfl) ?_
                  refine rl_castY hC hW k01 rfl mw_338 mt_998 dX11_alike_59 ?_
                  refine lv_astore_n (lv' := [(3, .ref (a1)), (0, .ref (a1)), (1, .ref (a2)), (2, .int (nI (w)))]) hx hb dX11_alike_62 rfl hl (by decide) rfl (fun ls hl => ?_)
                  refine lv_aload_n hx hb dX11_alike_63 rfl (lv_at hl 2 rfl) ?_
                  refine rl_instNo hC hW k02 rfl mw_338 (by decide) dX11_alike_64 ?_
                  refine rl_topn (y := nI 0) (by decide) ?_
                  refine lv_if_eq (tgt := 84) hx hb dX11_alike_67 (by decide) (fun c_33 => ?_) (fun c_33 => ?_)
                  · refine lv_iconst (v := (nI (0))) hx hb dX11_alike_84 (by decide) ?_
                    exact rl_zret hC hW hr hlk rfl (Nat.le_refl _) (Nat.le_refl _) ⟨_, rfl, rfl, rfl, rfl, by decide⟩ dX11_alike_85
                  · first | exact absurd c_33 (by decide) | exact absurd (by decide) c_33
            · first | exact absurd c_31 (by decide) | exact absurd (by decide) c_31
          · obtain ⟨rr2, n2, g2, -, hn82, k02, k12⟩ := hT2
            refine lv_aload_n hx hb dX11_alike_7 rfl (lv_at hl 0 rfl) ?_
            refine rl_instNo hC hW k01 rfl mw_290 (by decide) dX11_alike_8 ?_
            refine rl_topn (y := nI 0) (by decide) ?_
            refine lv_if_eq (tgt := 45) hx hb dX11_alike_11 (by decide) (fun c_34 => ?_) (fun c_34 => ?_)
            · refine lv_iload_n hx hb dX11_alike_45 rfl (lv_at hl 2 rfl) ?_
              refine lv_bipush (v := (nI (6))) hx hb dX11_alike_46 (by decide) ?_
              refine lv_icmp_ge (tgt := 84) hx hb dX11_alike_48 (by decide) (fun cw => ?_) (fun cw => ?_)
              · refine lv_iconst (v := (nI (0))) hx hb dX11_alike_84 (by decide) ?_
                exact rl_zret hC hW hr hlk rfl (Nat.le_refl _) (Nat.le_refl _) ⟨_, rfl, rfl, rfl, rfl, by decide⟩ dX11_alike_85
              · have hw6 : w < 6 := rg_lt cw (by omega) (by omega)
                refine lv_aload_n hx hb dX11_alike_51 rfl (lv_at hl 0 rfl) ?_
                refine rl_instY hC hW k01 rfl mw_338 mt_998 dX11_alike_52 ?_
                refine rl_topn (y := nI 1) (by decide) ?_
                refine lv_if_eq (tgt := 84) hx hb dX11_alike_55 (by decide) (fun c_35 => ?_) (fun c_35 => ?_)
                · first | exact absurd c_35 (by decide) | exact absurd (by decide) c_35
                · refine lv_aload_n hx hb dX11_alike_58 rfl (lv_at hl 0 rfl) ?_
                  refine rl_castY hC hW k01 rfl mw_338 mt_998 dX11_alike_59 ?_
                  refine lv_astore_n (lv' := [(3, .ref (a1)), (0, .ref (a1)), (1, .ref (a2)), (2, .int (nI (w)))]) hx hb dX11_alike_62 rfl hl (by decide) rfl (fun ls hl => ?_)
                  refine lv_aload_n hx hb dX11_alike_63 rfl (lv_at hl 2 rfl) ?_
                  refine rl_instNo hC hW k02 rfl mw_338 (by decide) dX11_alike_64 ?_
                  refine rl_topn (y := nI 0) (by decide) ?_
                  refine lv_if_eq (tgt := 84) hx hb dX11_alike_67 (by decide) (fun c_36 => ?_) (fun c_36 => ?_)
                  · refine lv_iconst (v := (nI (0))) hx hb dX11_alike_84 (by decide) ?_
                    exact rl_zret hC hW hr hlk rfl (Nat.le_refl _) (Nat.le_refl _) ⟨_, rfl, rfl, rfl, rfl, by decide⟩ dX11_alike_85
                  · first | exact absurd c_36 (by decide) | exact absurd (by decide) c_36
            · first | exact absurd c_34 (by decide) | exact absurd (by decide) c_34
          · have hT62 := hT2
            obtain ⟨j2, nu2, th2, n2, gn2, gt2, -, -, -, -, k02, -⟩ := hT2
            refine lv_aload_n hx hb dX11_alike_7 rfl (lv_at hl 0 rfl) ?_
            refine rl_instNo hC hW k01 rfl mw_290 (by decide) dX11_alike_8 ?_
            refine rl_topn (y := nI 0) (by decide) ?_
            refine lv_if_eq (tgt := 45) hx hb dX11_alike_11 (by decide) (fun c_37 => ?_) (fun c_37 => ?_)
            · refine lv_iload_n hx hb dX11_alike_45 rfl (lv_at hl 2 rfl) ?_
              refine lv_bipush (v := (nI (6))) hx hb dX11_alike_46 (by decide) ?_
              refine lv_icmp_ge (tgt := 84) hx hb dX11_alike_48 (by decide) (fun cw => ?_) (fun cw => ?_)
              · refine lv_iconst (v := (nI (0))) hx hb dX11_alike_84 (by decide) ?_
                exact rl_zret hC hW hr hlk rfl (Nat.le_refl _) (Nat.le_refl _) ⟨_, rfl, rfl, rfl, rfl, by decide⟩ dX11_alike_85
              · have hw6 : w < 6 := rg_lt cw (by omega) (by omega)
                refine lv_aload_n hx hb dX11_alike_51 rfl (lv_at hl 0 rfl) ?_
                refine rl_instY hC hW k01 rfl mw_338 mt_998 dX11_alike_52 ?_
                refine rl_topn (y := nI 1) (by decide) ?_
                refine lv_if_eq (tgt := 84) hx hb dX11_alike_55 (by decide) (fun c_38 => ?_) (fun c_38 => ?_)
                · first | exact absurd c_38 (by decide) | exact absurd (by decide) c_38
                · refine lv_aload_n hx hb dX11_alike_58 rfl (lv_at hl 0 rfl) ?_
                  refine rl_castY hC hW k01 rfl mw_338 mt_998 dX11_alike_59 ?_
                  refine lv_astore_n (lv' := [(3, .ref (a1)), (0, .ref (a1)), (1, .ref (a2)), (2, .int (nI (w)))]) hx hb dX11_alike_62 rfl hl (by decide) rfl (fun ls hl => ?_)
                  refine lv_aload_n hx hb dX11_alike_63 rfl (lv_at hl 2 rfl) ?_
                  refine rl_instY hC hW k02 rfl mw_338 mt_998 dX11_alike_64 ?_
                  refine rl_topn (y := nI 1) (by decide) ?_
                  refine lv_if_eq (tgt := 84) hx hb dX11_alike_67 (by decide) (fun c_39 => ?_) (fun c_39 => ?_)
                  · first | exact absurd c_39 (by decide) | exact absurd (by decide) c_39
                  · refine lv_aload_n hx hb dX11_alike_70 rfl (lv_at hl 2 rfl) ?_
                    refine rl_castY hC hW k02 rfl mw_338 mt_998 dX11_alike_71 ?_
                    refine lv_astore (lv' := [(4, .ref (a2)), (3, .ref (a1)), (0, .ref (a1)), (1, .ref (a2)), (2, .int (nI (w)))]) hx hb dX11_alike_74 hl (by decide) rfl (fun ls hl => ?_)
                    refine lv_aload_n hx hb dX11_alike_76 rfl (lv_at hl 1 rfl) ?_
                    refine lv_aload hx hb dX11_alike_77 (lv_at hl 0 rfl) ?_
                    refine lv_iload_n hx hb dX11_alike_79 rfl (lv_at hl 4 rfl) ?_
                    refine rl_calliQ (rl_runS (As := [.ref (a1), .ref (a2), .int (nI (w))]) (rest := []) hC hW (hAR hw6 a1 a2 hT61 hT62) cs_X11_215 sm_X11_alikeRecords ⟨by simp only [rl_rm]; omega, by simp only [rl_rm]; omega⟩ rfl hl.1 rfl (Nat.le_of_ble_eq_true rfl) dX11_alike_80 ⟨(Nat.le_of_ble_eq_true rfl), (Nat.le_of_ble_eq_true rfl)⟩) hW (fun r f1 H locs hp hW => ?_)
                    obtain ⟨rfl, hb01⟩ := hp
                    exact rl_zret hC hW hr hlk (by rcases hb01 with h9 | h9 <;> rw [h9] <;> rfl) (Nat.le_refl _) (Nat.le_refl _) ⟨_, rfl, rfl, rfl, rfl, hb01⟩ dX11_alike_83
            · first | exact absurd c_37 (by decide) | exact absurd (by decide) c_37
  · refine lv_iconst (v := (nI (1))) hx hb dX11_alike_5 (by decide) ?_
    exact rl_zret hC hW hr hlk rfl (Nat.le_refl _) (Nat.le_refl _) ⟨_, rfl, rfl, rfl, rfl, by decide⟩ dX11_alike_6

theorem cC_alike (l : Launch) (D : va_G) (t : Nat → ClassId) (A : Nat → Prop) (f : rl_M) (z : Nat) (x : Nat) (T : Nat → Nat → Nat) (Th : Nat → Prop) (hI : CI t f x T Th) : ∀ (d w : Nat), w + d = 6 → ∀ r1 r2 : Option Nat, (∀ q, r1 = some q → Th q) → (∀ q, r2 = some q → Th q) → rl_Met l yX11_alike (.code yX11_alike cX11_alike 5 (some FieldType.boolean)) (rl_rm (1 + 2 * (6 - w)) 0 0) D t A f z [va_rf (r1), va_rf (r2), .int (nI (w))] (rl_qi z fun r f1 => f = f1 ∧ (r = 0 ∨ r = 1))
  | 0, w, h, r1, r2, h1, h2 => cC_alike0 l D t A f z x T Th hI w (by omega) (fun q => absurd q (by omega)) r1 r2 h1 h2
  | d + 1, w, h, r1, r2, h1, h2 => cC_alike0 l D t A f z x T Th hI w (by omega) (fun _ a1 a2 q1 q2 => cC_alikeRecords l D t A f z x T Th hI w (by omega) (fun r1 r2 h1 h2 => cC_alike l D t A f z x T Th hI d (w + 1) (by omega) r1 r2 h1 h2) a1 a2 q1 q2) r1 r2 h1 h2

set_option maxHeartbeats 4000000 in
set_option maxRecDepth 100000 in
theorem cC_like (l : Launch) (D : va_G) (t : Nat → ClassId) (A : Nat → Prop) (f : rl_M) (z : Nat) (x : Nat) (T : Nat → Nat → Nat) (Th : Nat → Prop) (hI : CI t f x T Th) (x1 x2 : Int32) : rl_Met l yX11_like (.code yX11_like cX11_like 3 (some FieldType.int)) (rl_rm 14 0 0) D t A f z [.ref (x), .int (x1), .int (x2)] (rl_qi z fun r f1 => ∃ Th', CI t f1 x T Th') := by
  refine rl_begin (own := RX11) (lv := [(0, .ref (x)), (1, .int (x1)), (2, .int (x2))]) (by decide +kernel) rfl (Nat.le_of_ble_eq_true rfl) rfl fun p e s m0 args below meth c ls H locs hC hr hlk hnm hW hl hx hb => ?_
  obtain ⟨hF0, hEV, hRV, ⟨v5, v6, v7, v8, v9, v10, v11, hx0⟩, ⟨gpl, hpl, hpt⟩, ⟨⟨ggn, hgn⟩, ⟨ggp, hgp, hgq⟩⟩, ⟨⟨sz, fz, htp, hsz⟩, ⟨glv, hlv⟩, ⟨gfr, hfr⟩⟩, hTH⟩ := id hI
  refine lv_iload_n hx hb dX11_like_0 rfl (lv_at hl 1 rfl) ?_
  refine lv_bipush (v := (nI (10))) hx hb dX11_like_1 (by decide) ?_
  refine rl_calliQ (rl_runS (As := [.int (x1), .int (nI (10))]) (rest := []) hC hW (cC_below l D t A _ z _ (10) (by omega)) cs_X11_48 sm_X11_below ⟨(Nat.le_of_ble_eq_true rfl), (Nat.le_of_ble_eq_true rfl)⟩ rfl hl.1 rfl (Nat.le_of_ble_eq_true rfl) dX11_like_3 ⟨(Nat.le_of_ble_eq_true rfl), (Nat.le_of_ble_eq_true rfl)⟩) hW (fun r f1 H locs hp hW => ?_)
  obtain ⟨rfl, hp⟩ := hp
  rcases hp with ⟨rfl, hp⟩ | ⟨rfl, hp⟩
  · obtain ⟨p0, hp0, rfl⟩ := hp
    refine lv_if_eq (tgt := 18) hx hb dX11_like_6 (by decide) (fun c9 => ?_) (fun c9 => ?_)
    · exact absurd c9 (by decide)
    · refine lv_iload_n hx hb dX11_like_9 rfl (lv_at hl 2 rfl) ?_
      refine lv_bipush (v := (nI (10))) hx hb dX11_like_10 (by decide) ?_
      refine rl_calliQ (rl_runS (As := [.int (x2), .int (nI (10))]) (rest := []) hC hW (cC_below l D t A _ z _ (10) (by omega)) cs_X11_48 sm_X11_below ⟨(Nat.le_of_ble_eq_true rfl), (Nat.le_of_ble_eq_true rfl)⟩ rfl hl.1 rfl (Nat.le_of_ble_eq_true rfl) dX11_like_12 ⟨(Nat.le_of_ble_eq_true rfl), (Nat.le_of_ble_eq_true rfl)⟩) hW (fun r f1 H locs hp hW => ?_)
      obtain ⟨rfl, hp⟩ := hp
      rcases hp with ⟨rfl, hp⟩ | ⟨rfl, hp⟩
      · obtain ⟨q0, hq0, rfl⟩ := hp
        refine lv_if_ne (tgt := 20) hx hb dX11_like_15 (by decide) (fun c9 => ?_) (fun c9 => ?_)
        · refine lv_aload_n hx hb dX11_like_20 rfl (lv_at hl 0 rfl) ?_
          refine rl_get (v := .ref (x + 52)) hC hW fl_X11_18 hx0 rfl dX11_like_21 ?_
          refine lv_iload_n hx hb dX11_like_24 rfl (lv_at hl 1 rfl) ?_
          refine rl_aald_n 3 hC hW rfl hpl (by omega) (by decide) dX11_like_25 ?_
          obtain ⟨r0, er0⟩ : ∃ r : Option Nat, r = gpl (p0) := ⟨_, rfl⟩
          refine rl_topqq er0.symm ?_
          refine lv_aload_n hx hb dX11_like_26 rfl (lv_at hl 0 rfl) ?_
          refine rl_get (v := .ref (x + 52)) hC hW fl_X11_18 hx0 rfl dX11_like_27 ?_
          refine lv_iload_n hx hb dX11_like_30 rfl (lv_at hl 2 rfl) ?_
          refine rl_aald_n 3 hC hW rfl hpl (by omega) (by decide) dX11_like_31 ?_
          obtain ⟨r1, er1⟩ : ∃ r : Option Nat, r = gpl (q0) := ⟨_, rfl⟩
          refine rl_topqq er1.symm ?_
          refine lv_iconst (v := (nI (0))) hx hb dX11_like_32 (by decide) ?_
          refine rl_calliQ (rl_runS (As := [va_rf (r0), va_rf (r1), .int (nI (0))]) (rest := []) hC hW (cC_alike l D t A _ z x T Th hI 6 0 rfl r0 r1 (fun q e => hpt p0 hp0 q (er0.symm.trans e)) (fun q e => hpt q0 hq0 q (er1.symm.trans e))) cs_X11_155 sm_X11_alike ⟨(Nat.le_of_ble_eq_true rfl), (Nat.le_of_ble_eq_true rfl)⟩ rfl hl.1 rfl (Nat.le_of_ble_eq_true rfl) dX11_like_33 ⟨(Nat.le_of_ble_eq_true rfl), (Nat.le_of_ble_eq_true rfl)⟩) hW (fun r f1 H locs hp hW => ?_)
          obtain ⟨rfl, hb01⟩ := hp
          refine lv_if_eq (tgt := 43) hx hb dX11_like_36 (by decide) (fun c_1 => ?_) (fun c_1 => ?_)
          · refine lv_iconst (v := (nI (0))) hx hb dX11_like_43 (by decide) ?_
            exact rl_iret hC hW hr hlk (Nat.le_refl _) (Nat.le_refl _) ⟨_, rfl, rfl, rfl, _, hI⟩ dX11_like_44
          · refine lv_iconst (v := (nI (1))) hx hb dX11_like_39 (by decide) ?_
            refine lv_goto (tgt := 44) hx hb dX11_like_40 (by decide) ?_
            exact rl_iret hC hW hr hlk (Nat.le_refl _) (Nat.le_refl _) ⟨_, rfl, rfl, rfl, _, hI⟩ dX11_like_44
        · exact absurd c9 (by decide)
      · have hq := hp
        refine lv_if_ne (tgt := 20) hx hb dX11_like_15 (by decide) (fun c9 => ?_) (fun c9 => ?_)
        · exact absurd rfl c9
        · refine lv_iconst (v := (-1)) hx hb dX11_like_18 (by decide) ?_
          exact rl_iret hC hW hr hlk (Nat.le_refl _) (Nat.le_refl _) ⟨_, rfl, rfl, rfl, _, hI⟩ dX11_like_19
  · have hq := hp
    refine lv_if_eq (tgt := 18) hx hb dX11_like_6 (by decide) (fun c9 => ?_) (fun c9 => ?_)
    · refine lv_iconst (v := (-1)) hx hb dX11_like_18 (by decide) ?_
      exact rl_iret hC hW hr hlk (Nat.le_refl _) (Nat.le_refl _) ⟨_, rfl, rfl, rfl, _, hI⟩ dX11_like_19
    · exact absurd rfl c9
