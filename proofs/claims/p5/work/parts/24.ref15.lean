
theorem rg_mn {n : Nat} {x : Int32} (h : n < 2 ^ 31) (hx : x < 0) : ¬ nI n = x := fun e => nI_pos h (by rw [e]; exact hx)
theorem rg_cmpi {i c : Nat} (hi : i < 2 ^ 31) (hc : c < 2 ^ 31) : (0 ≤ lg_cmp (nI i).toInt64 (lN c)) ↔ c ≤ i := by rw [lg_cmp_ge, nI_l hi, lN_le hc hi]
theorem rg_lm1 {x : Int64} (h1 : ¬ x < -1) (h2 : x < 0) : x = -1 := by
  apply Int64.toInt_inj.mp
  rw [Int64.lt_iff_toInt_lt] at h1 h2
  rw [show (-1 : Int64).toInt = -1 by decide] at *
  rw [show (0 : Int64).toInt = 0 by decide] at h2
  omega
theorem rg_l8 {x : Int64} (h1 : ¬ x < 0) (h2 : x ≤ 8) : ∃ c : Nat, c ≤ 8 ∧ x = lN c := by
  rw [Int64.lt_iff_toInt_lt, show (0 : Int64).toInt = 0 by decide] at h1
  rw [Int64.le_iff_toInt_le, show (8 : Int64).toInt = 8 by decide] at h2
  refine ⟨x.toInt.toNat, by omega, ?_⟩
  apply Int64.toInt_inj.mp
  rw [lN_toInt (by omega)]
  omega

set_option maxHeartbeats 4000000 in
set_option maxRecDepth 100000 in
theorem cR_readRow (l : Launch) (D : va_G) (t : Nat → ClassId) (A : Nat → Prop) (f : rl_M) (z : Nat) (m : Nat) (T : Nat → Nat → Nat) (ρ0 κ0 lv v ρ κ a d j0 : Nat) (hQ : RQ t f m T ρ0 κ0 lv v ρ κ a d d j0 0) (hB : ρ0 + 84 ≤ 43100) (hp : 3 * (ρ - ρ0) + 2 ≤ a) (kn : Nat) (hkn : kn = 0 ∨ kn = 1) : rl_Met l yX12_readRow (.code yX12_readRow cX12_readRow 7 (some FieldType.int)) (rl_rm 2 0 0) D t A f z [.ref (m), .int (nI (kn))] (rl_qi z fun r f1 => ∃ (ρ' a' : Nat) (β' : Int32), RQ t f1 m T ρ0 κ0 lv v ρ' κ a' d d j0 β' ∧ ρ ≤ ρ' ∧ (β' = 0 → 3 * (ρ' - ρ0) ≤ a' ∧ a ≤ a' ∧ RVt ρ' κ r)) := by
  obtain ⟨I, L, F, hR, hTc, hTp, hTk, hVw, hVe, hVe0, hVp, hF11, hF14, hF22, hF44, hF41, hF43, hF45, hN, hSI⟩ := hQ
  obtain ⟨hlv, ha, hd6, hv3, hρ0, hκ0⟩ := id hN
  refine rl_begin (own := RX12) (lv := [(0, .ref (m)), (1, .int (nI (kn)))]) (by decide +kernel) rfl (Nat.le_of_ble_eq_true rfl) rfl fun p e s m0 args below meth c ls H locs hC hr hlk hnm hW hl hx hb => ?_
  rcases hkn with rfl | rfl
  · refine lv_aload_n hx hb dX12_readRow_0 rfl (lv_at hl 0 rfl) ?_
    refine rl_calllQ (rl_runV (b := m) (As := []) (rest := []) hC hW (cR_want l D t A _ z m T ρ0 κ0 lv v ρ κ a d d _ 0 ⟨_, _, _, hR, hTc, hTp, hTk, hVw, hVe, hVe0, hVp, hF11, hF14, hF22, hF44, hF41, hF43, hF45, hN, hSI⟩) cs_X12_254 im_X12_want sl_X12_want hR.1 rfl ⟨(Nat.le_of_ble_eq_true rfl), (Nat.le_of_ble_eq_true rfl)⟩ rfl hl.1 rfl (Nat.le_of_ble_eq_true rfl) dX12_readRow_1 ⟨(Nat.le_of_ble_eq_true rfl), (Nat.le_of_ble_eq_true rfl)⟩) hW (fun rk f1 H locs hp hW => ?_)
    obtain ⟨a', β', hQ, hw⟩ := hp
    rcases hw with hw | hw
    · obtain ⟨-, rfl, rfl⟩ := hw
      obtain ⟨I, L, F, hR, hTc, hTp, hTk, hVw, hVe, hVe0, hVp, hF11, hF14, hF22, hF44, hF41, hF43, hF45, hN, hSI⟩ := hQ
      obtain ⟨hlv, ha, hd6, hv3, hρ0, hκ0⟩ := id hN
      refine lv_lstore_n (lv' := [(2, .long (rk)), (0, .ref (m)), (1, .int (nI (0)))]) hx hb dX12_readRow_4 rfl hl (by decide) rfl (fun ls hl => ?_)
      refine lv_aload_n hx hb dX12_readRow_5 rfl (lv_at hl 1 rfl) ?_
      refine rl_get (v := .int (F 43)) hC hW fl_X12_238 hR.1 rfl dX12_readRow_6 ?_
      refine rl_topn (y := nI (0)) (hF43.trans (by decide)) ?_
      refine lv_if_ne (tgt := 26) hx hb dX12_readRow_9 (by decide) (fun c1 => ?_) (fun c1 => ?_)
      · exact absurd rfl c1
      · refine lv_lload_n hx hb dX12_readRow_12 rfl (lv_at hl 0 rfl) ?_
        refine lv_ldc2 (v := -1) hx hb hC.2.2.2.1 (hC.2.2.2.2.1 _ (List.mem_cons_of_mem _ mw_941)) dX12_readRow_13 ?_
        refine W.lcmp hx hb dX12_readRow_16 ?_
        refine lv_if_ge (tgt := 26) hx hb dX12_readRow_17 (by decide) (fun c2 => ?_) (fun c2 => ?_)
        · have g1 : ¬ rk < -1 := fun q => absurd ((lg_cmp_lt _ _).mpr q) (Int32.not_lt.mpr c2)
          refine lv_aload_n hx hb dX12_readRow_26 rfl (lv_at hl 1 rfl) ?_
          refine rl_get (v := .int (F 43)) hC hW fl_X12_238 hR.1 rfl dX12_readRow_27 ?_
          refine rl_topn (y := nI (0)) (hF43.trans (by decide)) ?_
          refine lv_if_ne (tgt := 46) hx hb dX12_readRow_30 (by decide) (fun c3 => ?_) (fun c3 => ?_)
          · exact absurd rfl c3
          · refine lv_lload_n hx hb dX12_readRow_33 rfl (lv_at hl 0 rfl) ?_
            refine lv_ldc2 (v := 8) hx hb hC.2.2.2.1 (hC.2.2.2.2.1 _ (List.mem_cons_of_mem _ mw_846)) dX12_readRow_34 ?_
            refine W.lcmp hx hb dX12_readRow_37 ?_
            refine lv_if_le (tgt := 46) hx hb dX12_readRow_38 (by decide) (fun c4 => ?_) (fun c4 => ?_)
            · have g2 : rk ≤ 8 := (lg_cmp_le _ _).mp c4
              refine lv_aload_n hx hb dX12_readRow_46 rfl (lv_at hl 1 rfl) ?_
              refine rl_get (v := .int (F 43)) hC hW fl_X12_238 hR.1 rfl dX12_readRow_47 ?_
              refine rl_topn (y := nI (0)) (hF43.trans (by decide)) ?_
              refine lv_if_ne (tgt := 72) hx hb dX12_readRow_50 (by decide) (fun c5 => ?_) (fun c5 => ?_)
              · exact absurd rfl c5
              · refine lv_lload_n hx hb dX12_readRow_53 rfl (lv_at hl 0 rfl) ?_
                refine lv_lconst (v := 0) hx hb dX12_readRow_54 (by decide) ?_
                refine W.lcmp hx hb dX12_readRow_55 ?_
                refine lv_if_lt (tgt := 72) hx hb dX12_readRow_56 (by decide) (fun c6 => ?_) (fun c6 => ?_)
                · have g3 := rg_lm1 g1 ((lg_cmp_lt _ _).mp c6)
                  subst g3
                  refine lv_iconst (v := (-1)) hx hb dX12_readRow_72 (by decide) ?_
                  refine lv_istore (lv' := [(4, .int (-1)), (2, .long (-1)), (0, .ref (m)), (1, .int (nI (0)))]) hx hb dX12_readRow_73 hl (by decide) rfl (fun ls hl => ?_)
                  refine lv_iconst (v := (nI (0))) hx hb dX12_readRow_75 (by decide) ?_
                  refine lv_istore (lv' := [(5, .int (nI (0))), (4, .int (-1)), (2, .long (-1)), (0, .ref (m)), (1, .int (nI (0)))]) hx hb dX12_readRow_76 hl (by decide) rfl (fun ls hl => ?_)
                  refine lv_iload hx hb dX12_readRow_78 (lv_at hl 0 rfl) ?_
                  refine lv_i2l hx hb dX12_readRow_80 rfl ?_
                  refine lv_lload_n hx hb dX12_readRow_81 rfl (lv_at hl 2 rfl) ?_
                  refine W.lcmp hx hb dX12_readRow_82 ?_
                  refine rl_topn (y := 1) (by decide) ?_
                  refine lv_if_ge (tgt := 130) hx hb dX12_readRow_83 (by decide) (fun c_1 => ?_) (fun c_1 => ?_)
                  · refine lv_iload hx hb dX12_readRow_130 (lv_at hl 1 rfl) ?_
                    exact rl_iret hC hW hr hlk (Nat.le_refl _) (Nat.le_refl _) ⟨_, rfl, rfl, rfl, ρ, a + 1, 0, ⟨_, _, _, hR, hTc, hTp, hTk, hVw, hVe, hVe0, hVp, hF11, hF14, hF22, hF44, hF41, hF43, hF45, hN, hSI⟩, Nat.le_refl _, fun _ => ⟨by omega, by omega, Or.inl rfl⟩⟩ dX12_readRow_132
                  · first | exact absurd c_1 (by decide) | exact absurd (by decide) c_1
                · obtain ⟨c0, hc0, rfl⟩ := rg_l8 (fun q => c6 ((lg_cmp_lt _ _).mpr q)) g2
                  refine lv_iload_n hx hb dX12_readRow_59 rfl (lv_at hl 2 rfl) ?_
                  refine lv_if_eq (tgt := 72) hx hb dX12_readRow_60 (by decide) (fun c7 => ?_) (fun c7 => ?_)
                  · refine lv_iconst (v := (-1)) hx hb dX12_readRow_72 (by decide) ?_
                    refine lv_istore (lv' := [(4, .int (-1)), (2, .long (lN c0)), (0, .ref (m)), (1, .int (nI (0)))]) hx hb dX12_readRow_73 hl (by decide) rfl (fun ls hl => ?_)
                    refine lv_iconst (v := (nI (0))) hx hb dX12_readRow_75 (by decide) ?_
                    refine lv_istore (lv' := [(5, .int (nI (0))), (4, .int (-1)), (2, .long (lN c0)), (0, .ref (m)), (1, .int (nI (0)))]) hx hb dX12_readRow_76 hl (by decide) rfl (fun ls hl => ?_)
                    replace hl : lv_has ls 7 [(0, .ref (m)), (2, .long (lN c0)), (4, .int (-1)), (5, .int (nI (0)))] := lv_sub hl [3, 2, 1, 0] rfl
                    have hinv : ∃ (f2 : rl_M) (a1 : Nat) (β1 : Int32) (i : Nat), rl_W D A f2 z s.heap H locs ∧ RQ t f2 m T ρ0 κ0 lv v ρ κ a1 d d j0 β1 ∧ i ≤ c0 ∧ (β1 = 0 → a + 1 ≤ a1) ∧ lv_has ls 7 [(0, .ref (m)), (2, .long (lN c0)), (4, .int (-1)), (5, .int (nI (i)))] := ⟨_, a + 1, 0, 0, hW, ⟨_, _, _, hR, hTc, hTp, hTk, hVw, hVe, hVe0, hVp, hF11, hF14, hF22, hF44, hF41, hF43, hF45, hN, hSI⟩, Nat.zero_le _, fun _ => Nat.le_refl _, hl⟩
                    clear hW hR hl
                    obtain ⟨f2, a1, β1, i, hW, hQ, hi, hpa, hl⟩ := hinv
                    obtain ⟨n, hn⟩ : ∃ n, c0 - i < n := ⟨_, Nat.lt_succ_self _⟩
                    induction n generalizing f2 a1 β1 i H locs ls with
                    | zero => exact absurd hn (Nat.not_lt_zero _)
                    | succ n ih =>
                      obtain ⟨I, L, F, hR, hTc, hTp, hTk, hVw, hVe, hVe0, hVp, hF11, hF14, hF22, hF44, hF41, hF43, hF45, hN, hSI⟩ := hQ
                      obtain ⟨hlv, ha, hd6, hv3, hρ0, hκ0⟩ := id hN
                      refine lv_iload hx hb dX12_readRow_78 (lv_at hl 3 rfl) ?_
                      refine lv_i2l hx hb dX12_readRow_80 rfl ?_
                      refine lv_lload_n hx hb dX12_readRow_81 rfl (lv_at hl 1 rfl) ?_
                      refine W.lcmp hx hb dX12_readRow_82 ?_
                      refine lv_if_ge (tgt := 130) hx hb dX12_readRow_83 (by decide) (fun c8 => ?_) (fun c8 => ?_)
                      · refine lv_iload hx hb dX12_readRow_130 (lv_at hl 2 rfl) ?_
                        exact rl_iret hC hW hr hlk (Nat.le_refl _) (Nat.le_refl _) ⟨_, rfl, rfl, rfl, ρ, a1, β1, ⟨_, _, _, hR, hTc, hTp, hTk, hVw, hVe, hVe0, hVp, hF11, hF14, hF22, hF44, hF41, hF43, hF45, hN, hSI⟩, by omega, fun q => ⟨by have := hpa q; omega, by have := hpa q; omega, Or.inl rfl⟩⟩ dX12_readRow_132
                      · have hlt : i < c0 := Nat.lt_of_not_le (fun q => c8 ((rg_cmpi (by omega) (by omega)).mpr q))
                        refine lv_aload_n hx hb dX12_readRow_86 rfl (lv_at hl 0 rfl) ?_
                        refine rl_get (v := .int (F 43)) hC hW fl_X12_238 hR.1 rfl dX12_readRow_87 ?_
                        refine lv_if_ne (tgt := 130) hx hb dX12_readRow_90 (by decide) (fun c9 => ?_) (fun c9 => ?_)
                        · refine lv_iload hx hb dX12_readRow_130 (lv_at hl 2 rfl) ?_
                          exact rl_iret hC hW hr hlk (Nat.le_refl _) (Nat.le_refl _) ⟨_, rfl, rfl, rfl, ρ, a1, β1, ⟨_, _, _, hR, hTc, hTp, hTk, hVw, hVe, hVe0, hVp, hF11, hF14, hF22, hF44, hF41, hF43, hF45, hN, hSI⟩, by omega, fun q => ⟨by have := hpa q; omega, by have := hpa q; omega, Or.inl rfl⟩⟩ dX12_readRow_132
                        · have hβ0 : β1 = 0 := hF43.symm.trans c9
                          subst hβ0
                          refine lv_aload_n hx hb dX12_readRow_93 rfl (lv_at hl 0 rfl) ?_
                          refine rl_calllQ (rl_runV (b := m) (As := []) (rest := []) hC hW (cR_want l D t A _ z m T ρ0 κ0 lv v ρ κ a1 d d _ 0 ⟨_, _, _, hR, hTc, hTp, hTk, hVw, hVe, hVe0, hVp, hF11, hF14, hF22, hF44, hF41, hF43, hF45, hN, hSI⟩) cs_X12_254 im_X12_want sl_X12_want hR.1 rfl ⟨(Nat.le_of_ble_eq_true rfl), (Nat.le_of_ble_eq_true rfl)⟩ rfl hl.1 rfl (Nat.le_of_ble_eq_true rfl) dX12_readRow_94 ⟨(Nat.le_of_ble_eq_true rfl), (Nat.le_of_ble_eq_true rfl)⟩) hW (fun ri f1 H locs hp hW => ?_)
                          obtain ⟨a', β', hQ, hw⟩ := hp
                          rcases hw with hw | hw
                          · obtain ⟨-, rfl, rfl⟩ := hw
                            obtain ⟨I, L, F, hR, hTc, hTp, hTk, hVw, hVe, hVe0, hVp, hF11, hF14, hF22, hF44, hF41, hF43, hF45, hN, hSI⟩ := hQ
                            obtain ⟨hlv, ha, hd6, hv3, hρ0, hκ0⟩ := id hN
                            refine lv_l2i hx hb dX12_readRow_97 rfl ?_
                            refine lv_istore (lv' := [(6, .int ((ri).toInt32)), (0, .ref (m)), (2, .long (lN c0)), (4, .int (-1)), (5, .int (nI (i)))]) hx hb dX12_readRow_98 hl (by decide) rfl (fun ls hl => ?_)
                            refine lv_iload hx hb dX12_readRow_100 (lv_at hl 3 rfl) ?_
                            refine lv_iconst (v := (-1)) hx hb dX12_readRow_102 (by decide) ?_
                            refine lv_icmp_eq (tgt := 124) hx hb dX12_readRow_103 (by decide) (fun c7 => ?_) (fun c7 => ?_)
                            · refine lv_iinc (v := (nI ((i) + 1))) (lv' := [(5, .int (nI ((i) + 1))), (6, .int ((ri).toInt32)), (0, .ref (m)), (2, .long (lN c0)), (4, .int (-1))]) hx hb dX12_readRow_124 hl (k := 4) rfl (nI_1 _) (by decide) rfl (fun ls hl => ?_)
                              refine lv_goto (tgt := 78) hx hb dX12_readRow_127 (by decide) ?_
                              replace hl : lv_has ls 7 [(0, .ref (m)), (2, .long (lN c0)), (4, .int (-1)), (5, .int (nI ((i) + 1)))] := lv_sub hl [2, 3, 4, 0] rfl
                              exact ih _ _ _ _ _ _ (i + 1) hW ⟨_, _, _, hR, hTc, hTp, hTk, hVw, hVe, hVe0, hVp, hF11, hF14, hF22, hF44, hF41, hF43, hF45, hN, hSI⟩ (by omega) (fun q => by have := hpa rfl; omega) hl (by omega)
                            · exact absurd rfl c7
                          · obtain ⟨hβ, rfl⟩ := hw
                            obtain ⟨I, L, F, hR, hTc, hTp, hTk, hVw, hVe, hVe0, hVp, hF11, hF14, hF22, hF44, hF41, hF43, hF45, hN, hSI⟩ := hQ
                            obtain ⟨hlv, ha, hd6, hv3, hρ0, hκ0⟩ := id hN
                            refine lv_l2i hx hb dX12_readRow_97 rfl ?_
                            refine lv_istore (lv' := [(6, .int ((ri).toInt32)), (0, .ref (m)), (2, .long (lN c0)), (4, .int (-1)), (5, .int (nI (i)))]) hx hb dX12_readRow_98 hl (by decide) rfl (fun ls hl => ?_)
                            refine lv_iload hx hb dX12_readRow_100 (lv_at hl 3 rfl) ?_
                            refine lv_iconst (v := (-1)) hx hb dX12_readRow_102 (by decide) ?_
                            refine lv_icmp_eq (tgt := 124) hx hb dX12_readRow_103 (by decide) (fun c7 => ?_) (fun c7 => ?_)
                            · refine lv_iinc (v := (nI ((i) + 1))) (lv' := [(5, .int (nI ((i) + 1))), (6, .int ((ri).toInt32)), (0, .ref (m)), (2, .long (lN c0)), (4, .int (-1))]) hx hb dX12_readRow_124 hl (k := 4) rfl (nI_1 _) (by decide) rfl (fun ls hl => ?_)
                              refine lv_goto (tgt := 78) hx hb dX12_readRow_127 (by decide) ?_
                              replace hl : lv_has ls 7 [(0, .ref (m)), (2, .long (lN c0)), (4, .int (-1)), (5, .int (nI ((i) + 1)))] := lv_sub hl [2, 3, 4, 0] rfl
                              exact ih _ _ _ _ _ _ (i + 1) hW ⟨_, _, _, hR, hTc, hTp, hTk, hVw, hVe, hVe0, hVp, hF11, hF14, hF22, hF44, hF41, hF43, hF45, hN, hSI⟩ (by omega) (fun q => absurd q hβ) hl (by omega)
                            · exact absurd rfl c7
                  · first | exact absurd c7 (by decide) | exact absurd (by decide) c7
            · refine lv_aload_n hx hb dX12_readRow_41 rfl (lv_at hl 1 rfl) ?_
              refine lv_iconst (v := (nI (2))) hx hb dX12_readRow_42 (by decide) ?_
              refine rl_callvQ (rl_runV (b := m) (As := [.int (nI (2))]) (rest := []) hC hW (cR_fails l D t A _ z m T ρ0 κ0 lv v ρ κ (a + 1) d d _ 0 ⟨_, _, _, hR, hTc, hTp, hTk, hVw, hVe, hVe0, hVp, hF11, hF14, hF22, hF44, hF41, hF43, hF45, hN, hSI⟩ _ (by decide)) cs_X12_247 im_X12_fails sl_X12_fails hR.1 rfl ⟨(Nat.le_of_ble_eq_true rfl), (Nat.le_of_ble_eq_true rfl)⟩ rfl hl.1 rfl (Nat.le_of_ble_eq_true rfl) dX12_readRow_43 ⟨(Nat.le_of_ble_eq_true rfl), (Nat.le_of_ble_eq_true rfl)⟩) hW (fun f1 H locs hp hW => ?_)
              obtain ⟨β', hβ, hQ⟩ := hp
              obtain ⟨I, L, F, hR, hTc, hTp, hTk, hVw, hVe, hVe0, hVp, hF11, hF14, hF22, hF44, hF41, hF43, hF45, hN, hSI⟩ := hQ
              obtain ⟨hlv, ha, hd6, hv3, hρ0, hκ0⟩ := id hN
              refine lv_aload_n hx hb dX12_readRow_46 rfl (lv_at hl 1 rfl) ?_
              refine rl_get (v := .int (F 43)) hC hW fl_X12_238 hR.1 rfl dX12_readRow_47 ?_
              refine lv_if_ne (tgt := 72) hx hb dX12_readRow_50 (by decide) (fun c_2 => ?_) (fun c_2 => ?_)
              · refine lv_iconst (v := (-1)) hx hb dX12_readRow_72 (by decide) ?_
                refine lv_istore (lv' := [(4, .int (-1)), (2, .long (rk)), (0, .ref (m)), (1, .int (nI (0)))]) hx hb dX12_readRow_73 hl (by decide) rfl (fun ls hl => ?_)
                refine lv_iconst (v := (nI (0))) hx hb dX12_readRow_75 (by decide) ?_
                refine lv_istore (lv' := [(5, .int (nI (0))), (4, .int (-1)), (2, .long (rk)), (0, .ref (m)), (1, .int (nI (0)))]) hx hb dX12_readRow_76 hl (by decide) rfl (fun ls hl => ?_)
                refine lv_iload hx hb dX12_readRow_78 (lv_at hl 0 rfl) ?_
                refine lv_i2l hx hb dX12_readRow_80 rfl ?_
                refine lv_lload_n hx hb dX12_readRow_81 rfl (lv_at hl 2 rfl) ?_
                refine W.lcmp hx hb dX12_readRow_82 ?_
                refine lv_if_ge (tgt := 130) hx hb dX12_readRow_83 (by decide) (fun c_3 => ?_) (fun c_3 => ?_)
                · refine lv_iload hx hb dX12_readRow_130 (lv_at hl 1 rfl) ?_
                  exact rl_iret hC hW hr hlk (Nat.le_refl _) (Nat.le_refl _) ⟨_, rfl, rfl, rfl, ρ, _, _, ⟨_, _, _, hR, hTc, hTp, hTk, hVw, hVe, hVe0, hVp, hF11, hF14, hF22, hF44, hF41, hF43, hF45, hN, hSI⟩, Nat.le_refl _, fun q => absurd q hβ⟩ dX12_readRow_132
                · refine lv_aload_n hx hb dX12_readRow_86 rfl (lv_at hl 3 rfl) ?_
                  refine rl_get (v := .int (F 43)) hC hW fl_X12_238 hR.1 rfl dX12_readRow_87 ?_
                  refine lv_if_ne (tgt := 130) hx hb dX12_readRow_90 (by decide) (fun c_4 => ?_) (fun c_4 => ?_)
                  · refine lv_iload hx hb dX12_readRow_130 (lv_at hl 1 rfl) ?_
                    exact rl_iret hC hW hr hlk (Nat.le_refl _) (Nat.le_refl _) ⟨_, rfl, rfl, rfl, ρ, _, _, ⟨_, _, _, hR, hTc, hTp, hTk, hVw, hVe, hVe0, hVp, hF11, hF14, hF22, hF44, hF41, hF43, hF45, hN, hSI⟩, Nat.le_refl _, fun q => absurd q hβ⟩ dX12_readRow_132
                  · exact absurd (hF43.symm.trans c_4) hβ
              · exact absurd (hF43.symm.trans c_2) hβ
        · refine lv_aload_n hx hb dX12_readRow_20 rfl (lv_at hl 1 rfl) ?_
          refine lv_bipush (v := (nI (6))) hx hb dX12_readRow_21 (by decide) ?_
          refine rl_callvQ (rl_runV (b := m) (As := [.int (nI (6))]) (rest := []) hC hW (cR_fails l D t A _ z m T ρ0 κ0 lv v ρ κ (a + 1) d d _ 0 ⟨_, _, _, hR, hTc, hTp, hTk, hVw, hVe, hVe0, hVp, hF11, hF14, hF22, hF44, hF41, hF43, hF45, hN, hSI⟩ _ (by decide)) cs_X12_247 im_X12_fails sl_X12_fails hR.1 rfl ⟨(Nat.le_of_ble_eq_true rfl), (Nat.le_of_ble_eq_true rfl)⟩ rfl hl.1 rfl (Nat.le_of_ble_eq_true rfl) dX12_readRow_23 ⟨(Nat.le_of_ble_eq_true rfl), (Nat.le_of_ble_eq_true rfl)⟩) hW (fun f1 H locs hp hW => ?_)
          obtain ⟨β', hβ, hQ⟩ := hp
          obtain ⟨I, L, F, hR, hTc, hTp, hTk, hVw, hVe, hVe0, hVp, hF11, hF14, hF22, hF44, hF41, hF43, hF45, hN, hSI⟩ := hQ
          obtain ⟨hlv, ha, hd6, hv3, hρ0, hκ0⟩ := id hN
          refine lv_aload_n hx hb dX12_readRow_26 rfl (lv_at hl 1 rfl) ?_
          refine rl_get (v := .int (F 43)) hC hW fl_X12_238 hR.1 rfl dX12_readRow_27 ?_
          refine lv_if_ne (tgt := 46) hx hb dX12_readRow_30 (by decide) (fun c_5 => ?_) (fun c_5 => ?_)
          · refine lv_aload_n hx hb dX12_readRow_46 rfl (lv_at hl 1 rfl) ?_
            refine rl_get (v := .int (F 43)) hC hW fl_X12_238 hR.1 rfl dX12_readRow_47 ?_
            refine lv_if_ne (tgt := 72) hx hb dX12_readRow_50 (by decide) (fun c_6 => ?_) (fun c_6 => ?_)
            · refine lv_iconst (v := (-1)) hx hb dX12_readRow_72 (by decide) ?_
              refine lv_istore (lv' := [(4, .int (-1)), (2, .long (rk)), (0, .ref (m)), (1, .int (nI (0)))]) hx hb dX12_readRow_73 hl (by decide) rfl (fun ls hl => ?_)
              refine lv_iconst (v := (nI (0))) hx hb dX12_readRow_75 (by decide) ?_
              refine lv_istore (lv' := [(5, .int (nI (0))), (4, .int (-1)), (2, .long (rk)), (0, .ref (m)), (1, .int (nI (0)))]) hx hb dX12_readRow_76 hl (by decide) rfl (fun ls hl => ?_)
              refine lv_iload hx hb dX12_readRow_78 (lv_at hl 0 rfl) ?_
              refine lv_i2l hx hb dX12_readRow_80 rfl ?_
              refine lv_lload_n hx hb dX12_readRow_81 rfl (lv_at hl 2 rfl) ?_
              refine W.lcmp hx hb dX12_readRow_82 ?_
              refine lv_if_ge (tgt := 130) hx hb dX12_readRow_83 (by decide) (fun c_7 => ?_) (fun c_7 => ?_)
              · refine lv_iload hx hb dX12_readRow_130 (lv_at hl 1 rfl) ?_
                exact rl_iret hC hW hr hlk (Nat.le_refl _) (Nat.le_refl _) ⟨_, rfl, rfl, rfl, ρ, _, _, ⟨_, _, _, hR, hTc, hTp, hTk, hVw, hVe, hVe0, hVp, hF11, hF14, hF22, hF44, hF41, hF43, hF45, hN, hSI⟩, Nat.le_refl _, fun q => absurd q hβ⟩ dX12_readRow_132
              · refine lv_aload_n hx hb dX12_readRow_86 rfl (lv_at hl 3 rfl) ?_
                refine rl_get (v := .int (F 43)) hC hW fl_X12_238 hR.1 rfl dX12_readRow_87 ?_
                refine lv_if_ne (tgt := 130) hx hb dX12_readRow_90 (by decide) (fun c_8 => ?_) (fun c_8 => ?_)
                · refine lv_iload hx hb dX12_readRow_130 (lv_at hl 1 rfl) ?_
                  exact rl_iret hC hW hr hlk (Nat.le_refl _) (Nat.le_refl _) ⟨_, rfl, rfl, rfl, ρ, _, _, ⟨_, _, _, hR, hTc, hTp, hTk, hVw, hVe, hVe0, hVp, hF11, hF14, hF22, hF44, hF41, hF43, hF45, hN, hSI⟩, Nat.le_refl _, fun q => absurd q hβ⟩ dX12_readRow_132
                · exact absurd (hF43.symm.trans c_8) hβ
            · exact absurd (hF43.symm.trans c_6) hβ
          · exact absurd (hF43.symm.trans c_5) hβ
    · obtain ⟨hβ, rfl⟩ := hw
      obtain ⟨I, L, F, hR, hTc, hTp, hTk, hVw, hVe, hVe0, hVp, hF11, hF14, hF22, hF44, hF41, hF43, hF45, hN, hSI⟩ := hQ
      obtain ⟨hlv, ha, hd6, hv3, hρ0, hκ0⟩ := id hN
      refine lv_lstore_n (lv' := [(2, .long (rk)), (0, .ref (m)), (1, .int (nI (0)))]) hx hb dX12_readRow_4 rfl hl (by decide) rfl (fun ls hl => ?_)
      refine lv_aload_n hx hb dX12_readRow_5 rfl (lv_at hl 1 rfl) ?_
      refine rl_get (v := .int (F 43)) hC hW fl_X12_238 hR.1 rfl dX12_readRow_6 ?_
      refine lv_if_ne (tgt := 26) hx hb dX12_readRow_9 (by decide) (fun c_9 => ?_) (fun c_9 => ?_)
      · refine lv_aload_n hx hb dX12_readRow_26 rfl (lv_at hl 1 rfl) ?_
        refine rl_get (v := .int (F 43)) hC hW fl_X12_238 hR.1 rfl dX12_readRow_27 ?_
        refine lv_if_ne (tgt := 46) hx hb dX12_readRow_30 (by decide) (fun c_10 => ?_) (fun c_10 => ?_)
        · refine lv_aload_n hx hb dX12_readRow_46 rfl (lv_at hl 1 rfl) ?_
          refine rl_get (v := .int (F 43)) hC hW fl_X12_238 hR.1 rfl dX12_readRow_47 ?_
          refine lv_if_ne (tgt := 72) hx hb dX12_readRow_50 (by decide) (fun c_11 => ?_) (fun c_11 => ?_)
          · refine lv_iconst (v := (-1)) hx hb dX12_readRow_72 (by decide) ?_
            refine lv_istore (lv' := [(4, .int (-1)), (2, .long (rk)), (0, .ref (m)), (1, .int (nI (0)))]) hx hb dX12_readRow_73 hl (by decide) rfl (fun ls hl => ?_)
            refine lv_iconst (v := (nI (0))) hx hb dX12_readRow_75 (by decide) ?_
            refine lv_istore (lv' := [(5, .int (nI (0))), (4, .int (-1)), (2, .long (rk)), (0, .ref (m)), (1, .int (nI (0)))]) hx hb dX12_readRow_76 hl (by decide) rfl (fun ls hl => ?_)
            refine lv_iload hx hb dX12_readRow_78 (lv_at hl 0 rfl) ?_
            refine lv_i2l hx hb dX12_readRow_80 rfl ?_
            refine lv_lload_n hx hb dX12_readRow_81 rfl (lv_at hl 2 rfl) ?_
            refine W.lcmp hx hb dX12_readRow_82 ?_
            refine lv_if_ge (tgt := 130) hx hb dX12_readRow_83 (by decide) (fun c_12 => ?_) (fun c_12 => ?_)
            · refine lv_iload hx hb dX12_readRow_130 (lv_at hl 1 rfl) ?_
              exact rl_iret hC hW hr hlk (Nat.le_refl _) (Nat.le_refl _) ⟨_, rfl, rfl, rfl, ρ, _, _, ⟨_, _, _, hR, hTc, hTp, hTk, hVw, hVe, hVe0, hVp, hF11, hF14, hF22, hF44, hF41, hF43, hF45, hN, hSI⟩, Nat.le_refl _, fun q => absurd q hβ⟩ dX12_readRow_132
            · refine lv_aload_n hx hb dX12_readRow_86 rfl (lv_at hl 3 rfl) ?_
              refine rl_get (v := .int (F 43)) hC hW fl_X12_238 hR.1 rfl dX12_readRow_87 ?_
              refine lv_if_ne (tgt := 130) hx hb dX12_readRow_90 (by decide) (fun c_13 => ?_) (fun c_13 => ?_)
              · refine lv_iload hx hb dX12_readRow_130 (lv_at hl 1 rfl) ?_
                exact rl_iret hC hW hr hlk (Nat.le_refl _) (Nat.le_refl _) ⟨_, rfl, rfl, rfl, ρ, _, _, ⟨_, _, _, hR, hTc, hTp, hTk, hVw, hVe, hVe0, hVp, hF11, hF14, hF22, hF44, hF41, hF43, hF45, hN, hSI⟩, Nat.le_refl _, fun q => absurd q hβ⟩ dX12_readRow_132
              · exact absurd (hF43.symm.trans c_13) hβ
          · exact absurd (hF43.symm.trans c_11) hβ
        · exact absurd (hF43.symm.trans c_10) hβ
      · exact absurd (hF43.symm.trans c_9) hβ
  · refine lv_aload_n hx hb dX12_readRow_0 rfl (lv_at hl 0 rfl) ?_
    refine rl_calllQ (rl_runV (b := m) (As := []) (rest := []) hC hW (cR_want l D t A _ z m T ρ0 κ0 lv v ρ κ a d d _ 0 ⟨_, _, _, hR, hTc, hTp, hTk, hVw, hVe, hVe0, hVp, hF11, hF14, hF22, hF44, hF41, hF43, hF45, hN, hSI⟩) cs_X12_254 im_X12_want sl_X12_want hR.1 rfl ⟨(Nat.le_of_ble_eq_true rfl), (Nat.le_of_ble_eq_true rfl)⟩ rfl hl.1 rfl (Nat.le_of_ble_eq_true rfl) dX12_readRow_1 ⟨(Nat.le_of_ble_eq_true rfl), (Nat.le_of_ble_eq_true rfl)⟩) hW (fun rk f1 H locs hp hW => ?_)
    obtain ⟨a', β', hQ, hw⟩ := hp
    rcases hw with hw | hw
    · obtain ⟨-, rfl, rfl⟩ := hw
      obtain ⟨I, L, F, hR, hTc, hTp, hTk, hVw, hVe, hVe0, hVp, hF11, hF14, hF22, hF44, hF41, hF43, hF45, hN, hSI⟩ := hQ
      obtain ⟨hlv, ha, hd6, hv3, hρ0, hκ0⟩ := id hN
      refine lv_lstore_n (lv' := [(2, .long (rk)), (0, .ref (m)), (1, .int (nI (1)))]) hx hb dX12_readRow_4 rfl hl (by decide) rfl (fun ls hl => ?_)
      refine lv_aload_n hx hb dX12_readRow_5 rfl (lv_at hl 1 rfl) ?_
      refine rl_get (v := .int (F 43)) hC hW fl_X12_238 hR.1 rfl dX12_readRow_6 ?_
      refine rl_topn (y := nI (0)) (hF43.trans (by decide)) ?_
      refine lv_if_ne (tgt := 26) hx hb dX12_readRow_9 (by decide) (fun c1 => ?_) (fun c1 => ?_)
      · exact absurd rfl c1
      · refine lv_lload_n hx hb dX12_readRow_12 rfl (lv_at hl 0 rfl) ?_
        refine lv_ldc2 (v := -1) hx hb hC.2.2.2.1 (hC.2.2.2.2.1 _ (List.mem_cons_of_mem _ mw_941)) dX12_readRow_13 ?_
        refine W.lcmp hx hb dX12_readRow_16 ?_
        refine lv_if_ge (tgt := 26) hx hb dX12_readRow_17 (by decide) (fun c2 => ?_) (fun c2 => ?_)
        · have g1 : ¬ rk < -1 := fun q => absurd ((lg_cmp_lt _ _).mpr q) (Int32.not_lt.mpr c2)
          refine lv_aload_n hx hb dX12_readRow_26 rfl (lv_at hl 1 rfl) ?_
          refine rl_get (v := .int (F 43)) hC hW fl_X12_238 hR.1 rfl dX12_readRow_27 ?_
          refine rl_topn (y := nI (0)) (hF43.trans (by decide)) ?_
          refine lv_if_ne (tgt := 46) hx hb dX12_readRow_30 (by decide) (fun c3 => ?_) (fun c3 => ?_)
          · exact absurd rfl c3
          · refine lv_lload_n hx hb dX12_readRow_33 rfl (lv_at hl 0 rfl) ?_
            refine lv_ldc2 (v := 8) hx hb hC.2.2.2.1 (hC.2.2.2.2.1 _ (List.mem_cons_of_mem _ mw_846)) dX12_readRow_34 ?_
            refine W.lcmp hx hb dX12_readRow_37 ?_
            refine lv_if_le (tgt := 46) hx hb dX12_readRow_38 (by decide) (fun c4 => ?_) (fun c4 => ?_)
            · have g2 : rk ≤ 8 := (lg_cmp_le _ _).mp c4
              refine lv_aload_n hx hb dX12_readRow_46 rfl (lv_at hl 1 rfl) ?_
              refine rl_get (v := .int (F 43)) hC hW fl_X12_238 hR.1 rfl dX12_readRow_47 ?_
              refine rl_topn (y := nI (0)) (hF43.trans (by decide)) ?_
              refine lv_if_ne (tgt := 72) hx hb dX12_readRow_50 (by decide) (fun c5 => ?_) (fun c5 => ?_)
              · exact absurd rfl c5
              · refine lv_lload_n hx hb dX12_readRow_53 rfl (lv_at hl 0 rfl) ?_
                refine lv_lconst (v := 0) hx hb dX12_readRow_54 (by decide) ?_
                refine W.lcmp hx hb dX12_readRow_55 ?_
                refine lv_if_lt (tgt := 72) hx hb dX12_readRow_56 (by decide) (fun c6 => ?_) (fun c6 => ?_)
                · have g3 := rg_lm1 g1 ((lg_cmp_lt _ _).mp c6)
                  subst g3
                  refine lv_iconst (v := (-1)) hx hb dX12_readRow_72 (by decide) ?_
                  refine lv_istore (lv' := [(4, .int (-1)), (2, .long (-1)), (0, .ref (m)), (1, .int (nI (1)))]) hx hb dX12_readRow_73 hl (by decide) rfl (fun ls hl => ?_)
                  refine lv_iconst (v := (nI (0))) hx hb dX12_readRow_75 (by decide) ?_
                  refine lv_istore (lv' := [(5, .int (nI (0))), (4, .int (-1)), (2, .long (-1)), (0, .ref (m)), (1, .int (nI (1)))]) hx hb dX12_readRow_76 hl (by decide) rfl (fun ls hl => ?_)
                  refine lv_iload hx hb dX12_readRow_78 (lv_at hl 0 rfl) ?_
                  refine lv_i2l hx hb dX12_readRow_80 rfl ?_
                  refine lv_lload_n hx hb dX12_readRow_81 rfl (lv_at hl 2 rfl) ?_
                  refine W.lcmp hx hb dX12_readRow_82 ?_
                  refine rl_topn (y := 1) (by decide) ?_
                  refine lv_if_ge (tgt := 130) hx hb dX12_readRow_83 (by decide) (fun c_14 => ?_) (fun c_14 => ?_)
                  · refine lv_iload hx hb dX12_readRow_130 (lv_at hl 1 rfl) ?_
                    exact rl_iret hC hW hr hlk (Nat.le_refl _) (Nat.le_refl _) ⟨_, rfl, rfl, rfl, ρ, a + 1, 0, ⟨_, _, _, hR, hTc, hTp, hTk, hVw, hVe, hVe0, hVp, hF11, hF14, hF22, hF44, hF41, hF43, hF45, hN, hSI⟩, Nat.le_refl _, fun _ => ⟨by omega, by omega, Or.inl rfl⟩⟩ dX12_readRow_132
                  · first | exact absurd c_14 (by decide) | exact absurd (by decide) c_14
                · obtain ⟨c0, hc0, rfl⟩ := rg_l8 (fun q => c6 ((lg_cmp_lt _ _).mpr q)) g2
                  refine lv_iload_n hx hb dX12_readRow_59 rfl (lv_at hl 2 rfl) ?_
                  refine lv_if_eq (tgt := 72) hx hb dX12_readRow_60 (by decide) (fun c7 => ?_) (fun c7 => ?_)
                  · first | exact absurd c7 (by decide) | exact absurd (by decide) c7
                  · refine lv_aload_n hx hb dX12_readRow_63 rfl (lv_at hl 1 rfl) ?_
                    refine lv_lload_n hx hb dX12_readRow_64 rfl (lv_at hl 0 rfl) ?_
                    refine lv_l2i hx hb dX12_readRow_65 rfl ?_
                    refine rl_topn (lN_i c0) ?_
                    refine rl_calliQ (rl_runV (b := m) (As := [.int (nI (c0))]) (rest := []) hC hW (cR_newRow l D t A _ z m I L F hR ρ (by omega) hF11 c0) cs_X12_156 im_X12_newRow sl_X12_newRow hR.1 rfl ⟨(Nat.le_of_ble_eq_true rfl), (Nat.le_of_ble_eq_true rfl)⟩ rfl hl.1 rfl (Nat.le_of_ble_eq_true rfl) dX12_readRow_66 ⟨(Nat.le_of_ble_eq_true rfl), (Nat.le_of_ble_eq_true rfl)⟩) hW (fun r f1 H locs hp hW => ?_)
                    obtain ⟨g13, rfl, hR⟩ := hp
                    refine lv_goto (tgt := 73) hx hb dX12_readRow_69 (by decide) ?_
                    refine lv_istore (lv' := [(4, .int (nI (100 + ρ))), (2, .long (lN c0)), (0, .ref (m)), (1, .int (nI (1)))]) hx hb dX12_readRow_73 hl (by decide) rfl (fun ls hl => ?_)
                    refine lv_iconst (v := (nI (0))) hx hb dX12_readRow_75 (by decide) ?_
                    refine lv_istore (lv' := [(5, .int (nI (0))), (4, .int (nI (100 + ρ))), (2, .long (lN c0)), (0, .ref (m)), (1, .int (nI (1)))]) hx hb dX12_readRow_76 hl (by decide) rfl (fun ls hl => ?_)
                    replace hl : lv_has ls 7 [(0, .ref (m)), (2, .long (lN c0)), (4, .int (nI (100 + ρ))), (5, .int (nI (0)))] := lv_sub hl [3, 2, 1, 0] rfl
                    have hinv : ∃ (f2 : rl_M) (a1 : Nat) (β1 : Int32) (i : Nat), rl_W D A f2 z s.heap H locs ∧ RQ t f2 m T ρ0 κ0 lv v (ρ + 1) κ a1 d d j0 β1 ∧ i ≤ c0 ∧ (β1 = 0 → a + 1 ≤ a1) ∧ lv_has ls 7 [(0, .ref (m)), (2, .long (lN c0)), (4, .int (nI (100 + ρ))), (5, .int (nI (i)))] := ⟨_, a + 1, 0, 0, hW, ⟨_, _, _, hR, hTc, hTp, hTk, hVw.add hc0, hVe.mono (by omega), hVe0, hVp, rfl, hF14, hF22, hF44, hF41, hF43, hF45, ⟨by omega, by omega, by omega, by omega, by omega, by omega⟩, (fun q => (hSI q).mono (by omega) (Nat.le_refl _))⟩, Nat.zero_le _, fun _ => Nat.le_refl _, hl⟩
                    clear hW hR hl
                    obtain ⟨f2, a1, β1, i, hW, hQ, hi, hpa, hl⟩ := hinv
                    obtain ⟨n, hn⟩ : ∃ n, c0 - i < n := ⟨_, Nat.lt_succ_self _⟩
                    induction n generalizing f2 a1 β1 i H locs ls with
                    | zero => exact absurd hn (Nat.not_lt_zero _)
                    | succ n ih =>
                      obtain ⟨I, L, F, hR, hTc, hTp, hTk, hVw, hVe, hVe0, hVp, hF11, hF14, hF22, hF44, hF41, hF43, hF45, hN, hSI⟩ := hQ
                      obtain ⟨hlv, ha, hd6, hv3, hρ0, hκ0⟩ := id hN
                      refine lv_iload hx hb dX12_readRow_78 (lv_at hl 3 rfl) ?_
                      refine lv_i2l hx hb dX12_readRow_80 rfl ?_
                      refine lv_lload_n hx hb dX12_readRow_81 rfl (lv_at hl 1 rfl) ?_
                      refine W.lcmp hx hb dX12_readRow_82 ?_
                      refine lv_if_ge (tgt := 130) hx hb dX12_readRow_83 (by decide) (fun c8 => ?_) (fun c8 => ?_)
                      · refine lv_iload hx hb dX12_readRow_130 (lv_at hl 2 rfl) ?_
                        exact rl_iret hC hW hr hlk (Nat.le_refl _) (Nat.le_refl _) ⟨_, rfl, rfl, rfl, (ρ + 1), a1, β1, ⟨_, _, _, hR, hTc, hTp, hTk, hVw, hVe, hVe0, hVp, hF11, hF14, hF22, hF44, hF41, hF43, hF45, hN, hSI⟩, by omega, fun q => ⟨by have := hpa q; omega, by have := hpa q; omega, Or.inr (Or.inr (Or.inl ⟨ρ, by omega, rfl⟩))⟩⟩ dX12_readRow_132
                      · have hlt : i < c0 := Nat.lt_of_not_le (fun q => c8 ((rg_cmpi (by omega) (by omega)).mpr q))
                        refine lv_aload_n hx hb dX12_readRow_86 rfl (lv_at hl 0 rfl) ?_
                        refine rl_get (v := .int (F 43)) hC hW fl_X12_238 hR.1 rfl dX12_readRow_87 ?_
                        refine lv_if_ne (tgt := 130) hx hb dX12_readRow_90 (by decide) (fun c9 => ?_) (fun c9 => ?_)
                        · refine lv_iload hx hb dX12_readRow_130 (lv_at hl 2 rfl) ?_
                          exact rl_iret hC hW hr hlk (Nat.le_refl _) (Nat.le_refl _) ⟨_, rfl, rfl, rfl, (ρ + 1), a1, β1, ⟨_, _, _, hR, hTc, hTp, hTk, hVw, hVe, hVe0, hVp, hF11, hF14, hF22, hF44, hF41, hF43, hF45, hN, hSI⟩, by omega, fun q => ⟨by have := hpa q; omega, by have := hpa q; omega, Or.inr (Or.inr (Or.inl ⟨ρ, by omega, rfl⟩))⟩⟩ dX12_readRow_132
                        · have hβ0 : β1 = 0 := hF43.symm.trans c9
                          subst hβ0
                          refine lv_aload_n hx hb dX12_readRow_93 rfl (lv_at hl 0 rfl) ?_
                          refine rl_calllQ (rl_runV (b := m) (As := []) (rest := []) hC hW (cR_want l D t A _ z m T ρ0 κ0 lv v (ρ + 1) κ a1 d d _ 0 ⟨_, _, _, hR, hTc, hTp, hTk, hVw, hVe, hVe0, hVp, hF11, hF14, hF22, hF44, hF41, hF43, hF45, hN, hSI⟩) cs_X12_254 im_X12_want sl_X12_want hR.1 rfl ⟨(Nat.le_of_ble_eq_true rfl), (Nat.le_of_ble_eq_true rfl)⟩ rfl hl.1 rfl (Nat.le_of_ble_eq_true rfl) dX12_readRow_94 ⟨(Nat.le_of_ble_eq_true rfl), (Nat.le_of_ble_eq_true rfl)⟩) hW (fun ri f1 H locs hp hW => ?_)
                          obtain ⟨a', β', hQ, hw⟩ := hp
                          rcases hw with hw | hw
                          · obtain ⟨-, rfl, rfl⟩ := hw
                            obtain ⟨I, L, F, hR, hTc, hTp, hTk, hVw, hVe, hVe0, hVp, hF11, hF14, hF22, hF44, hF41, hF43, hF45, hN, hSI⟩ := hQ
                            obtain ⟨hlv, ha, hd6, hv3, hρ0, hκ0⟩ := id hN
                            refine lv_l2i hx hb dX12_readRow_97 rfl ?_
                            refine lv_istore (lv' := [(6, .int ((ri).toInt32)), (0, .ref (m)), (2, .long (lN c0)), (4, .int (nI (100 + ρ))), (5, .int (nI (i)))]) hx hb dX12_readRow_98 hl (by decide) rfl (fun ls hl => ?_)
                            refine lv_iload hx hb dX12_readRow_100 (lv_at hl 3 rfl) ?_
                            refine lv_iconst (v := (-1)) hx hb dX12_readRow_102 (by decide) ?_
                            refine lv_icmp_eq (tgt := 124) hx hb dX12_readRow_103 (by decide) (fun c7 => ?_) (fun c7 => ?_)
                            · exact absurd c7 (rg_mn (by omega) (by decide))
                            · refine lv_aload_n hx hb dX12_readRow_106 rfl (lv_at hl 1 rfl) ?_
                              refine rl_get (v := .ref (m + 13)) hC hW fl_X12_49 hR.1 rfl dX12_readRow_107 ?_
                              refine lv_bipush (v := (nI (8))) hx hb dX12_readRow_110 (by decide) ?_
                              refine lv_iload hx hb dX12_readRow_112 (lv_at hl 3 rfl) ?_
                              refine lv_bipush (v := (nI (100))) hx hb dX12_readRow_114 (by decide) ?_
                              refine lv_isub hx hb dX12_readRow_116 ?_
                              refine rl_topn (rg_sub (c := ρ) (by omega)) ?_
                              refine lv_imul hx hb dX12_readRow_117 ?_
                              refine rl_topn (pk_mul _ _) ?_
                              refine lv_iload hx hb dX12_readRow_118 (lv_at hl 4 rfl) ?_
                              refine lv_iadd hx hb dX12_readRow_120 ?_
                              refine rl_topn (nI_add _ _) ?_
                              refine lv_iload hx hb dX12_readRow_121 (lv_at hl 0 rfl) ?_
                              refine rl_iast_n (g := I 13) hC hW hR.a13 (by omega) (by decide) dX12_readRow_123 (fun H locs hW => ?_)
                              have hR := hR.s13 (upd (I 13) (((8) * (ρ)) + (i)) (((ri).toInt32)))
                              refine lv_iinc (v := (nI ((i) + 1))) (lv' := [(5, .int (nI ((i) + 1))), (6, .int ((ri).toInt32)), (0, .ref (m)), (2, .long (lN c0)), (4, .int (nI (100 + ρ)))]) hx hb dX12_readRow_124 hl (k := 4) rfl (nI_1 _) (by decide) rfl (fun ls hl => ?_)
                              refine lv_goto (tgt := 78) hx hb dX12_readRow_127 (by decide) ?_
                              replace hl : lv_has ls 7 [(0, .ref (m)), (2, .long (lN c0)), (4, .int (nI (100 + ρ))), (5, .int (nI ((i) + 1)))] := lv_sub hl [2, 3, 4, 0] rfl
                              exact ih _ _ _ _ _ _ (i + 1) hW ⟨_, _, _, hR, hTc, hTp, hTk, hVw, hVe, hVe0, hVp, hF11, hF14, hF22, hF44, hF41, hF43, hF45, hN, hSI⟩ (by omega) (fun q => by have := hpa rfl; omega) hl (by omega)
                          · obtain ⟨hβ, rfl⟩ := hw
                            obtain ⟨I, L, F, hR, hTc, hTp, hTk, hVw, hVe, hVe0, hVp, hF11, hF14, hF22, hF44, hF41, hF43, hF45, hN, hSI⟩ := hQ
                            obtain ⟨hlv, ha, hd6, hv3, hρ0, hκ0⟩ := id hN
                            refine lv_l2i hx hb dX12_readRow_97 rfl ?_
                            refine lv_istore (lv' := [(6, .int ((ri).toInt32)), (0, .ref (m)), (2, .long (lN c0)), (4, .int (nI (100 + ρ))), (5, .int (nI (i)))]) hx hb dX12_readRow_98 hl (by decide) rfl (fun ls hl => ?_)
                            refine lv_iload hx hb dX12_readRow_100 (lv_at hl 3 rfl) ?_
                            refine lv_iconst (v := (-1)) hx hb dX12_readRow_102 (by decide) ?_
                            refine lv_icmp_eq (tgt := 124) hx hb dX12_readRow_103 (by decide) (fun c7 => ?_) (fun c7 => ?_)
                            · exact absurd c7 (rg_mn (by omega) (by decide))
                            · refine lv_aload_n hx hb dX12_readRow_106 rfl (lv_at hl 1 rfl) ?_
                              refine rl_get (v := .ref (m + 13)) hC hW fl_X12_49 hR.1 rfl dX12_readRow_107 ?_
                              refine lv_bipush (v := (nI (8))) hx hb dX12_readRow_110 (by decide) ?_
                              refine lv_iload hx hb dX12_readRow_112 (lv_at hl 3 rfl) ?_
                              refine lv_bipush (v := (nI (100))) hx hb dX12_readRow_114 (by decide) ?_
                              refine lv_isub hx hb dX12_readRow_116 ?_
                              refine rl_topn (rg_sub (c := ρ) (by omega)) ?_
                              refine lv_imul hx hb dX12_readRow_117 ?_
                              refine rl_topn (pk_mul _ _) ?_
                              refine lv_iload hx hb dX12_readRow_118 (lv_at hl 4 rfl) ?_
                              refine lv_iadd hx hb dX12_readRow_120 ?_
                              refine rl_topn (nI_add _ _) ?_
                              refine lv_iload hx hb dX12_readRow_121 (lv_at hl 0 rfl) ?_
                              refine rl_iast_n (g := I 13) hC hW hR.a13 (by omega) (by decide) dX12_readRow_123 (fun H locs hW => ?_)
                              have hR := hR.s13 (upd (I 13) (((8) * (ρ)) + (i)) (((ri).toInt32)))
                              refine lv_iinc (v := (nI ((i) + 1))) (lv' := [(5, .int (nI ((i) + 1))), (6, .int ((ri).toInt32)), (0, .ref (m)), (2, .long (lN c0)), (4, .int (nI (100 + ρ)))]) hx hb dX12_readRow_124 hl (k := 4) rfl (nI_1 _) (by decide) rfl (fun ls hl => ?_)
                              refine lv_goto (tgt := 78) hx hb dX12_readRow_127 (by decide) ?_
                              replace hl : lv_has ls 7 [(0, .ref (m)), (2, .long (lN c0)), (4, .int (nI (100 + ρ))), (5, .int (nI ((i) + 1)))] := lv_sub hl [2, 3, 4, 0] rfl
                              exact ih _ _ _ _ _ _ (i + 1) hW ⟨_, _, _, hR, hTc, hTp, hTk, hVw, hVe, hVe0, hVp, hF11, hF14, hF22, hF44, hF41, hF43, hF45, hN, hSI⟩ (by omega) (fun q => absurd q hβ) hl (by omega)
            · refine lv_aload_n hx hb dX12_readRow_41 rfl (lv_at hl 1 rfl) ?_
              refine lv_iconst (v := (nI (2))) hx hb dX12_readRow_42 (by decide) ?_
              refine rl_callvQ (rl_runV (b := m) (As := [.int (nI (2))]) (rest := []) hC hW (cR_fails l D t A _ z m T ρ0 κ0 lv v ρ κ (a + 1) d d _ 0 ⟨_, _, _, hR, hTc, hTp, hTk, hVw, hVe, hVe0, hVp, hF11, hF14, hF22, hF44, hF41, hF43, hF45, hN, hSI⟩ _ (by decide)) cs_X12_247 im_X12_fails sl_X12_fails hR.1 rfl ⟨(Nat.le_of_ble_eq_true rfl), (Nat.le_of_ble_eq_true rfl)⟩ rfl hl.1 rfl (Nat.le_of_ble_eq_true rfl) dX12_readRow_43 ⟨(Nat.le_of_ble_eq_true rfl), (Nat.le_of_ble_eq_true rfl)⟩) hW (fun f1 H locs hp hW => ?_)
              obtain ⟨β', hβ, hQ⟩ := hp
              obtain ⟨I, L, F, hR, hTc, hTp, hTk, hVw, hVe, hVe0, hVp, hF11, hF14, hF22, hF44, hF41, hF43, hF45, hN, hSI⟩ := hQ
              obtain ⟨hlv, ha, hd6, hv3, hρ0, hκ0⟩ := id hN
              refine lv_aload_n hx hb dX12_readRow_46 rfl (lv_at hl 1 rfl) ?_
              refine rl_get (v := .int (F 43)) hC hW fl_X12_238 hR.1 rfl dX12_readRow_47 ?_
              refine lv_if_ne (tgt := 72) hx hb dX12_readRow_50 (by decide) (fun c_15 => ?_) (fun c_15 => ?_)
              · refine lv_iconst (v := (-1)) hx hb dX12_readRow_72 (by decide) ?_
                refine lv_istore (lv' := [(4, .int (-1)), (2, .long (rk)), (0, .ref (m)), (1, .int (nI (1)))]) hx hb dX12_readRow_73 hl (by decide) rfl (fun ls hl => ?_)
                refine lv_iconst (v := (nI (0))) hx hb dX12_readRow_75 (by decide) ?_
                refine lv_istore (lv' := [(5, .int (nI (0))), (4, .int (-1)), (2, .long (rk)), (0, .ref (m)), (1, .int (nI (1)))]) hx hb dX12_readRow_76 hl (by decide) rfl (fun ls hl => ?_)
                refine lv_iload hx hb dX12_readRow_78 (lv_at hl 0 rfl) ?_
                refine lv_i2l hx hb dX12_readRow_80 rfl ?_
                refine lv_lload_n hx hb dX12_readRow_81 rfl (lv_at hl 2 rfl) ?_
                refine W.lcmp hx hb dX12_readRow_82 ?_
                refine lv_if_ge (tgt := 130) hx hb dX12_readRow_83 (by decide) (fun c_16 => ?_) (fun c_16 => ?_)
                · refine lv_iload hx hb dX12_readRow_130 (lv_at hl 1 rfl) ?_
                  exact rl_iret hC hW hr hlk (Nat.le_refl _) (Nat.le_refl _) ⟨_, rfl, rfl, rfl, ρ, _, _, ⟨_, _, _, hR, hTc, hTp, hTk, hVw, hVe, hVe0, hVp, hF11, hF14, hF22, hF44, hF41, hF43, hF45, hN, hSI⟩, Nat.le_refl _, fun q => absurd q hβ⟩ dX12_readRow_132
                · refine lv_aload_n hx hb dX12_readRow_86 rfl (lv_at hl 3 rfl) ?_
                  refine rl_get (v := .int (F 43)) hC hW fl_X12_238 hR.1 rfl dX12_readRow_87 ?_
                  refine lv_if_ne (tgt := 130) hx hb dX12_readRow_90 (by decide) (fun c_17 => ?_) (fun c_17 => ?_)
                  · refine lv_iload hx hb dX12_readRow_130 (lv_at hl 1 rfl) ?_
                    exact rl_iret hC hW hr hlk (Nat.le_refl _) (Nat.le_refl _) ⟨_, rfl, rfl, rfl, ρ, _, _, ⟨_, _, _, hR, hTc, hTp, hTk, hVw, hVe, hVe0, hVp, hF11, hF14, hF22, hF44, hF41, hF43, hF45, hN, hSI⟩, Nat.le_refl _, fun q => absurd q hβ⟩ dX12_readRow_132
                  · exact absurd (hF43.symm.trans c_17) hβ
              · exact absurd (hF43.symm.trans c_15) hβ
        · refine lv_aload_n hx hb dX12_readRow_20 rfl (lv_at hl 1 rfl) ?_
          refine lv_bipush (v := (nI (6))) hx hb dX12_readRow_21 (by decide) ?_
          refine rl_callvQ (rl_runV (b := m) (As := [.int (nI (6))]) (rest := []) hC hW (cR_fails l D t A _ z m T ρ0 κ0 lv v ρ κ (a + 1) d d _ 0 ⟨_, _, _, hR, hTc, hTp, hTk, hVw, hVe, hVe0, hVp, hF11, hF14, hF22, hF44, hF41, hF43, hF45, hN, hSI⟩ _ (by decide)) cs_X12_247 im_X12_fails sl_X12_fails hR.1 rfl ⟨(Nat.le_of_ble_eq_true rfl), (Nat.le_of_ble_eq_true rfl)⟩ rfl hl.1 rfl (Nat.le_of_ble_eq_true rfl) dX12_readRow_23 ⟨(Nat.le_of_ble_eq_true rfl), (Nat.le_of_ble_eq_true rfl)⟩) hW (fun f1 H locs hp hW => ?_)
          obtain ⟨β', hβ, hQ⟩ := hp
          obtain ⟨I, L, F, hR, hTc, hTp, hTk, hVw, hVe, hVe0, hVp, hF11, hF14, hF22, hF44, hF41, hF43, hF45, hN, hSI⟩ := hQ
          obtain ⟨hlv, ha, hd6, hv3, hρ0, hκ0⟩ := id hN
          refine lv_aload_n hx hb dX12_readRow_26 rfl (lv_at hl 1 rfl) ?_
          refine rl_get (v := .int (F 43)) hC hW fl_X12_238 hR.1 rfl dX12_readRow_27 ?_
          refine lv_if_ne (tgt := 46) hx hb dX12_readRow_30 (by decide) (fun c_18 => ?_) (fun c_18 => ?_)
          · refine lv_aload_n hx hb dX12_readRow_46 rfl (lv_at hl 1 rfl) ?_
            refine rl_get (v := .int (F 43)) hC hW fl_X12_238 hR.1 rfl dX12_readRow_47 ?_
            refine lv_if_ne (tgt := 72) hx hb dX12_readRow_50 (by decide) (fun c_19 => ?_) (fun c_19 => ?_)
            · refine lv_iconst (v := (-1)) hx hb dX12_readRow_72 (by decide) ?_
              refine lv_istore (lv' := [(4, .int (-1)), (2, .long (rk)), (0, .ref (m)), (1, .int (nI (1)))]) hx hb dX12_readRow_73 hl (by decide) rfl (fun ls hl => ?_)
              refine lv_iconst (v := (nI (0))) hx hb dX12_readRow_75 (by decide) ?_
              refine lv_istore (lv' := [(5, .int (nI (0))), (4, .int (-1)), (2, .long (rk)), (0, .ref (m)), (1, .int (nI (1)))]) hx hb dX12_readRow_76 hl (by decide) rfl (fun ls hl => ?_)
              refine lv_iload hx hb dX12_readRow_78 (lv_at hl 0 rfl) ?_
              refine lv_i2l hx hb dX12_readRow_80 rfl ?_
              refine lv_lload_n hx hb dX12_readRow_81 rfl (lv_at hl 2 rfl) ?_
              refine W.lcmp hx hb dX12_readRow_82 ?_
              refine lv_if_ge (tgt := 130) hx hb dX12_readRow_83 (by decide) (fun c_20 => ?_) (fun c_20 => ?_)
              · refine lv_iload hx hb dX12_readRow_130 (lv_at hl 1 rfl) ?_
                exact rl_iret hC hW hr hlk (Nat.le_refl _) (Nat.le_refl _) ⟨_, rfl, rfl, rfl, ρ, _, _, ⟨_, _, _, hR, hTc, hTp, hTk, hVw, hVe, hVe0, hVp, hF11, hF14, hF22, hF44, hF41, hF43, hF45, hN, hSI⟩, Nat.le_refl _, fun q => absurd q hβ⟩ dX12_readRow_132
              · refine lv_aload_n hx hb dX12_readRow_86 rfl (lv_at hl 3 rfl) ?_
                refine rl_get (v := .int (F 43)) hC hW fl_X12_238 hR.1 rfl dX12_readRow_87 ?_
                refine lv_if_ne (tgt := 130) hx hb dX12_readRow_90 (by decide) (fun c_21 => ?_) (fun c_21 => ?_)
                · refine lv_iload hx hb dX12_readRow_130 (lv_at hl 1 rfl) ?_
                  exact rl_iret hC hW hr hlk (Nat.le_refl _) (Nat.le_refl _) ⟨_, rfl, rfl, rfl, ρ, _, _, ⟨_, _, _, hR, hTc, hTp, hTk, hVw, hVe, hVe0, hVp, hF11, hF14, hF22, hF44, hF41, hF43, hF45, hN, hSI⟩, Nat.le_refl _, fun q => absurd q hβ⟩ dX12_readRow_132
                · exact absurd (hF43.symm.trans c_21) hβ
            · exact absurd (hF43.symm.trans c_19) hβ
          · exact absurd (hF43.symm.trans c_18) hβ
    · obtain ⟨hβ, rfl⟩ := hw
      obtain ⟨I, L, F, hR, hTc, hTp, hTk, hVw, hVe, hVe0, hVp, hF11, hF14, hF22, hF44, hF41, hF43, hF45, hN, hSI⟩ := hQ
      obtain ⟨hlv, ha, hd6, hv3, hρ0, hκ0⟩ := id hN
      refine lv_lstore_n (lv' := [(2, .long (rk)), (0, .ref (m)), (1, .int (nI (1)))]) hx hb dX12_readRow_4 rfl hl (by decide) rfl (fun ls hl => ?_)
      refine lv_aload_n hx hb dX12_readRow_5 rfl (lv_at hl 1 rfl) ?_
      refine rl_get (v := .int (F 43)) hC hW fl_X12_238 hR.1 rfl dX12_readRow_6 ?_
      refine lv_if_ne (tgt := 26) hx hb dX12_readRow_9 (by decide) (fun c_22 => ?_) (fun c_22 => ?_)
      · refine lv_aload_n hx hb dX12_readRow_26 rfl (lv_at hl 1 rfl) ?_
        refine rl_get (v := .int (F 43)) hC hW fl_X12_238 hR.1 rfl dX12_readRow_27 ?_
        refine lv_if_ne (tgt := 46) hx hb dX12_readRow_30 (by decide) (fun c_23 => ?_) (fun c_23 => ?_)
        · refine lv_aload_n hx hb dX12_readRow_46 rfl (lv_at hl 1 rfl) ?_
          refine rl_get (v := .int (F 43)) hC hW fl_X12_238 hR.1 rfl dX12_readRow_47 ?_
          refine lv_if_ne (tgt := 72) hx hb dX12_readRow_50 (by decide) (fun c_24 => ?_) (fun c_24 => ?_)
          · refine lv_iconst (v := (-1)) hx hb dX12_readRow_72 (by decide) ?_
            refine lv_istore (lv' := [(4, .int (-1)), (2, .long (rk)), (0, .ref (m)), (1, .int (nI (1)))]) hx hb dX12_readRow_73 hl (by decide) rfl (fun ls hl => ?_)
            refine lv_iconst (v := (nI (0))) hx hb dX12_readRow_75 (by decide) ?_
            refine lv_istore (lv' := [(5, .int (nI (0))), (4, .int (-1)), (2, .long (rk)), (0, .ref (m)), (1, .int (nI (1)))]) hx hb dX12_readRow_76 hl (by decide) rfl (fun ls hl => ?_)
            refine lv_iload hx hb dX12_readRow_78 (lv_at hl 0 rfl) ?_
            refine lv_i2l hx hb dX12_readRow_80 rfl ?_
            refine lv_lload_n hx hb dX12_readRow_81 rfl (lv_at hl 2 rfl) ?_
            refine W.lcmp hx hb dX12_readRow_82 ?_
            refine lv_if_ge (tgt := 130) hx hb dX12_readRow_83 (by decide) (fun c_25 => ?_) (fun c_25 => ?_)
            · refine lv_iload hx hb dX12_readRow_130 (lv_at hl 1 rfl) ?_
              exact rl_iret hC hW hr hlk (Nat.le_refl _) (Nat.le_refl _) ⟨_, rfl, rfl, rfl, ρ, _, _, ⟨_, _, _, hR, hTc, hTp, hTk, hVw, hVe, hVe0, hVp, hF11, hF14, hF22, hF44, hF41, hF43, hF45, hN, hSI⟩, Nat.le_refl _, fun q => absurd q hβ⟩ dX12_readRow_132
            · refine lv_aload_n hx hb dX12_readRow_86 rfl (lv_at hl 3 rfl) ?_
              refine rl_get (v := .int (F 43)) hC hW fl_X12_238 hR.1 rfl dX12_readRow_87 ?_
              refine lv_if_ne (tgt := 130) hx hb dX12_readRow_90 (by decide) (fun c_26 => ?_) (fun c_26 => ?_)
              · refine lv_iload hx hb dX12_readRow_130 (lv_at hl 1 rfl) ?_
                exact rl_iret hC hW hr hlk (Nat.le_refl _) (Nat.le_refl _) ⟨_, rfl, rfl, rfl, ρ, _, _, ⟨_, _, _, hR, hTc, hTp, hTk, hVw, hVe, hVe0, hVp, hF11, hF14, hF22, hF44, hF41, hF43, hF45, hN, hSI⟩, Nat.le_refl _, fun q => absurd q hβ⟩ dX12_readRow_132
              · exact absurd (hF43.symm.trans c_26) hβ
          · exact absurd (hF43.symm.trans c_24) hβ
        · exact absurd (hF43.symm.trans c_23) hβ
      · exact absurd (hF43.symm.trans c_22) hβ
