
section RCH
variable {T : Nat → Nat → Nat} {u : pQ} {w : Nat} {R : Bool → pQ → pHd × pQ} {D : pD} {y N : Int64} {i : Nat}
theorem ps_min (hT : rt_ok T) (hw : w < 3) (hR : Rok T R) (h : qGW T u) (hD : qdo T w (q_rho u) (q_kap u) D) (hat : q_at u ≤ (q_G u).1 4 0) (h1 : q_bad u = 0 → 1 ≤ q_at u) (hN : N = (if (250 : Int64) < y then (250 : Int64) else y)) : q_parts T w R y.toInt.toNat D u = q_parts T w R N.toInt.toNat D u := by
  subst hN
  by_cases hb : q_bad u = 0
  · by_cases hy : (250 : Int64) < y
    · rw [if_pos hy]
      rw [Int64.lt_iff_toInt_lt, show (250 : Int64).toInt = 250 by decide] at hy
      have h9 := h.2.2.2.2
      have h8 := h1 hb
      rw [show (250 : Int64).toInt.toNat = 250 by decide]
      exact ps_big hT hw hR 249 _ _ D u h hD hat (by omega) (by omega) (by omega)
    · rw [if_neg hy]
  · rw [ps_b hb, ps_b hb]
theorem rg_iN (hi : i ≤ 250) : 0 ≤ lg_cmp (nI i).toInt64 N ↔ N.toInt ≤ (i : Int) := by
  rw [lg_cmp_ge, nI_l (by omega), Int64.le_iff_toInt_le, lN_toInt (by omega)]
theorem rg_N250 (hN : N ≤ 250) : N.toInt ≤ 250 := by
  rw [Int64.le_iff_toInt_le, show (250 : Int64).toInt = 250 by decide] at hN
  exact hN
end RCH
theorem rg_l2 {k : Nat} (hk : k < 4) : lN (2 + k) ≠ 0 := fun e => by
  have h := congrArg Int64.toInt e
  rw [lN_toInt (by omega), show (0 : Int64).toInt = 0 by decide] at h
  omega

set_option maxHeartbeats 4000000 in
set_option maxRecDepth 100000 in
theorem cC_nextRecord0 (l : Launch) (D : va_G) (t : Nat → ClassId) (A : Nat → Prop) (f : rl_M) (z : Nat) (x : Nat) (T : Nat → Nat → Nat) (w r : Nat) (E : Nat → Nat → Nat) (gx : Nat → Int32) (mo : Int32) (u : pQ) (hS : cRD t f x T w r E gx mo u) (hT : rt_ok T) (hw : w < 3) (op wt : Nat) (hwt : wt < 2) (hb0 : q_bad u = 0) (hdpo : q_dp u = op) (hNP : op < 6 → cNP l D t A x T w r gx mo (op + 1)) : rl_Met l yX5_nextRecord (.code yX5_nextRecord cX5_nextRecord 9 (some (FieldType.object "RecordLeaves$RecordThing"))) (rl_rm (8 + 3 * (6 - op)) (3 * (250 - q_at u)) (13 * (250 - q_at u))) D t A f z [.ref (r), .int (nI (wt))] (rl_pq fun r0 f1 z1 d1 => cST t x T w r gx mo f E z u (q_rec T w (6 - op) (wt == 1) u) r0 f1 z1 d1) := by
  refine rl_begin (own := RX5) (lv := [(0, .ref (r)), (1, .int (nI (wt)))]) (by decide +kernel) rfl (Nat.le_of_ble_eq_true rfl) rfl fun p e s m0 args below meth c ls H locs hC hr hlk hnm hW hl hx hb => ?_
  obtain ⟨hI, hGq, hrx, hat, hbd, hdp, md, hmd, hrd⟩ := id hS
  have hl250 := hGq.2.2.2.2
  have hq250 := hS.at2
  have hon := rl_on.rf (r := r) (f := f)
  have hzx : x + 58 ≤ z := by have := hW.lt hrd; omega
  have hz0 : ∀ q e, f q = some e → q < z := fun q e h => hW.lt h
  refine lv_aload_n hx hb dX5_nextRecord_0 rfl (lv_at hl 0 rfl) ?_
  refine rl_get (v := .int (nI (q_dp u))) hC hW fl_X5_41 hrd rfl dX5_nextRecord_1 ?_
  refine lv_bipush (v := (nI (6))) hx hb dX5_nextRecord_4 (by decide) ?_
  refine lv_icmp_lt (tgt := 17) hx hb dX5_nextRecord_6 (by decide) (fun c1 => ?_) (fun c1 => ?_)
  · have hop6 : op < 6 := by have := (nI_ltI (by omega) (by decide)).mp c1; omega
    have hwt2 : wt = 0 ∨ wt = 1 := by omega
    rcases hwt2 with rfl | rfl
    · refine lv_aload_n hx hb dX5_nextRecord_17 rfl (lv_at hl 0 rfl) ?_
      refine lv_dup hx hb dX5_nextRecord_18 rfl ?_
      refine rl_get (v := .int (nI (q_dp u))) hC hW fl_X5_41 hrd rfl dX5_nextRecord_19 ?_
      refine lv_iconst (v := (nI (1))) hx hb dX5_nextRecord_22 (by decide) ?_
      refine lv_iadd hx hb dX5_nextRecord_23 ?_
      refine rl_topn (nI_add _ _) ?_
      refine rl_put (v := .int (nI ((q_dp u) + (1)))) hC hW fp_X5_41 hrd (Nat.le_of_ble_eq_true rfl) rfl rfl dX5_nextRecord_24 (fun H locs hW => ?_)
      replace hW : rl_W D A (rl_up _ r (.inr (5, [.ref (x + 1), .ref (x + 55), .int (nI (w)), .int (nI (q_at u)), .int (q_la u), .int (nI ((q_dp u) + (1))), .int (nI (q_bad u)), .int (md)]))) z s.heap H locs := hW
      replace hI := hI.rdr (fs2 := [.ref (x + 1), .ref (x + 55), .int (nI (w)), .int (nI (q_at u)), .int (q_la u), .int (nI ((q_dp u) + (1))), .int (nI (q_bad u)), .int (md)]) hrx hrd
      replace hon := hon.tr (rl_on.up (r := r) (e := .inr (5, [.ref (x + 1), .ref (x + 55), .int (nI (w)), .int (nI (q_at u)), .int (q_la u), .int (nI ((q_dp u) + (1))), .int (nI (q_bad u)), .int (md)])))
      replace hrd := rl_ups hrd (.inr (5, [.ref (x + 1), .ref (x + 55), .int (nI (w)), .int (nI (q_at u)), .int (q_la u), .int (nI ((q_dp u) + (1))), .int (nI (q_bad u)), .int (md)]))
      obtain ⟨u0, eu0, e0a, e0r, e0k, e0d, e0b, e0G⟩ : ∃ u0, u0 = q_up u (q_dp u + 1) ∧ q_at u0 = q_at u ∧ q_rho u0 = q_rho u ∧ q_kap u0 = q_kap u ∧ q_dp u0 = q_dp u + 1 ∧ q_bad u0 = q_bad u ∧ q_G u0 = q_G u := ⟨_, rfl, rfl, rfl, rfl, rfl, rfl, rfl⟩
      obtain ⟨f0, ef0⟩ : ∃ g, g = rl_up f r (.inr (5, [.ref (x + 1), .ref (x + 55), .int (nI (w)), .int (nI (q_at u)), .int (q_la u), .int (nI ((q_dp u) + (1))), .int (nI (q_bad u)), .int (md)])) := ⟨_, rfl⟩
      rw [← ef0] at hW hI hrd hon
      have hS0 : cRD t f0 x T w r E gx mo u0 := by rw [eu0]; exact ⟨hI, hGq, hrx, hat, hbd, (show q_dp u + 1 ≤ 6 by omega), md, hmd, hrd⟩
      have hO0 := hon
      clear ef0 hI hrd
      obtain ⟨hI0, hGq0, hrx0, hat0, hbd0, hdp0, md0, hmd0, hrd0⟩ := id hS0
      have hl2500 := hGq0.2.2.2.2
      refine lv_aload_n hx hb dX5_nextRecord_27 rfl (lv_at hl 0 rfl) ?_
      refine rl_calllQ (rl_runV (b := r) (As := []) (rest := []) hC hW (cC_nextLeaf l D t A _ z x T w r E _ _ u0 hS0) cs_X5_48 im_X5_nextLeaf sl_X5_nextLeaf hrd0 rfl ⟨by simp only [rl_rm]; omega, by simp only [rl_rm]; omega⟩ rfl hl.1 rfl (Nat.le_of_ble_eq_true rfl) dX5_nextRecord_28 ⟨by simp only [rl_rm]; omega, by simp only [rl_rm]; omega⟩) hW (fun y1 f1 H locs hp hW => ?_)
      obtain ⟨u1, hlf1, hS1, hon1⟩ := hp
      obtain ⟨hst1, eG1, er1, ek1, ed1, hw1, hy1⟩ := lf_all hGq0 hlf1
      have hO1 := hO0.tr hon1
      obtain ⟨hI1, hGq1, hrx1, hat1, hbd1, hdp1, md1, hmd1, hrd1⟩ := id hS1
      have hl2501 := hGq1.2.2.2.2
      obtain ⟨hk0, -, -⟩ := id hI1.1
      have hlu : q_leaf (q_up u (q_dp u + 1)) = (y1, u1) := by rw [← eu0]; exact hlf1
      have hfu : 6 - op = (6 - (op + 1)) + 1 := by omega
      refine lv_lstore_n (lv' := [(2, .long (y1)), (0, .ref (r)), (1, .int (nI (0)))]) hx hb dX5_nextRecord_31 rfl hl (by decide) rfl (fun ls hl => ?_)
      refine lv_aload_n hx hb dX5_nextRecord_32 rfl (lv_at hl 1 rfl) ?_
      refine rl_get (v := .ref (x + 1)) hC hW fl_X5_9 hrd1 rfl dX5_nextRecord_33 ?_
      refine lv_lload_n hx hb dX5_nextRecord_36 rfl (lv_at hl 0 rfl) ?_
      refine lv_aload_n hx hb dX5_nextRecord_37 rfl (lv_at hl 1 rfl) ?_
      refine rl_get (v := .int (nI (w))) hC hW fl_X5_19 hrd1 rfl dX5_nextRecord_38 ?_
      refine rl_callqQ (rl_runV (b := x + 1) (As := [.long (y1), .int (nI (w))]) (rest := []) hC hW (cC_recordVersion l D t A _ z x T _ _ _ E _ _ hI1 _ _) cs_X5_52 im_X3_recordVersion sl_X3_recordVersion hk0 rfl ⟨by simp only [rl_rm]; omega, by simp only [rl_rm]; omega⟩ rfl hl.1 rfl (Nat.le_of_ble_eq_true rfl) dX5_nextRecord_41 ⟨by simp only [rl_rm]; omega, by simp only [rl_rm]; omega⟩) hW (fun r1 f1 H locs hp hW => ?_)
      obtain ⟨rfl, hp⟩ := hp
      rcases hp with ⟨k, v9, hk, hv, e1, e2, rfl⟩ | ⟨rfl, hp⟩
      · obtain rfl := (nI_eq (by omega) (by omega)).mp e2
        have hb1 : q_bad u1 = 0 := Decidable.byContradiction fun q => rg_l2 hk ((e1.symm.trans (hy1 q)))
        obtain ⟨-, hat1e⟩ := hw1 hb1
        have hrk : pu_rk y1 = some k := by rw [e1]; exact rk_lN hk
        have hj : 3 * k + w < 12 := by omega
        refine lv_astore (lv' := [(4, .ref (x + 16 + 3 * (3 * k + w))), (2, .long (y1)), (0, .ref (r)), (1, .int (nI (0)))]) hx hb dX5_nextRecord_44 hl (by decide) rfl (fun ls hl => ?_)
        refine lv_aload hx hb dX5_nextRecord_46 (lv_at hl 0 rfl) ?_
        refine lv_ifnonnull (tgt := 58) hx hb dX5_nextRecord_48 (by decide) ?_
        refine lv_iload_n hx hb dX5_nextRecord_58 rfl (lv_at hl 3 rfl) ?_
        refine lv_if_eq (tgt := 74) hx hb dX5_nextRecord_59 (by decide) (fun c6 => ?_) (fun c6 => ?_)
        · have hDO1 : cDO t f1 x T w E u1 (none) (q_d0 w k false) := ⟨qdo.d0 hw hk, Or.inl ⟨rfl, rfl⟩⟩
          have hst01 := hst1
          refine lv_null hx hb dX5_nextRecord_74 ?_
          refine lv_astoreN (lv' := [(5, .null), (4, .ref (x + 16 + 3 * (3 * k + w))), (2, .long (y1)), (0, .ref (r)), (1, .int (nI (0)))]) hx hb dX5_nextRecord_75 hl (by decide) rfl (fun ls hl => ?_)
          refine lv_aload_n hx hb dX5_nextRecord_77 rfl (lv_at hl 3 rfl) ?_
          refine rl_calllQ (rl_runV (b := r) (As := []) (rest := []) hC hW (cC_nextLeaf l D t A _ z x T w r E _ _ u1 hS1) cs_X5_48 im_X5_nextLeaf sl_X5_nextLeaf hrd1 rfl ⟨by simp only [rl_rm]; omega, by simp only [rl_rm]; omega⟩ rfl hl.1 rfl (Nat.le_of_ble_eq_true rfl) dX5_nextRecord_78 ⟨by simp only [rl_rm]; omega, by simp only [rl_rm]; omega⟩) hW (fun y3 f3 H locs hp hW => ?_)
          obtain ⟨u3, hlf3, hS3, hon3⟩ := hp
          obtain ⟨hst3, eG3, er3, ek3, ed3, hw3, hy3⟩ := lf_all hGq1 hlf3
          have hO3 := hO1.tr hon3
          obtain ⟨hI3, hGq3, hrx3, hat3, hbd3, hdp3, md3, hmd3, hrd3⟩ := id hS3
          have hl2503 := hGq3.2.2.2.2
          have hDO3 := hDO1.q hon3 hrd1 er3 ek3
          have hst03 := hst01.tr hst3
          have ha3 := hst3.2.2.2.1
          have hq2503 := hS3.at2
          refine lv_ldc2 (v := 250) hx hb hC.2.2.2.1 (hC.2.2.2.2.1 _ (List.mem_cons_of_mem _ mw_589)) dX5_nextRecord_81 ?_
          refine rl_mminl (x := y3) (y := 250) hC mw_590 hl.1 (by simp only [rl_rm]; omega) (by simp only [rl_rm, List.map_cons, List.map_nil, List.sum_cons, List.sum_nil, Value.category]; omega) (by simp only [rl_rm]; omega) (by simp only [rl_rm]; omega) dX5_nextRecord_84 ?_
          obtain ⟨N, eN⟩ : ∃ N : Int64, N = (if (250 : Int64) < y3 then (250 : Int64) else y3) := ⟨_, rfl⟩
          refine rl_topl eN.symm ?_
          have hN : N ≤ 250 := by rw [eN]; exact rg_minl y3
          replace hN := rg_N250 hN
          have hRec : q_rec T w (6 - op) false u = q_end T (q_parts T w (q_rec T w (6 - (op + 1))) N.toInt.toNat (q_d0 w k false) u3).1 (q_parts T w (q_rec T w (6 - (op + 1))) N.toInt.toNat (q_d0 w k false) u3).2 := by rw [hfu, rec_s hlu hrk hlf3, ps_min hT hw (st_rec hT hw _) hGq3 hDO3.1 hat3 (fun _ => by omega) eN]
          clear eN
          refine lv_lstore (lv' := [(6, .long (N)), (5, .null), (4, .ref (x + 16 + 3 * (3 * k + w))), (2, .long (y1)), (0, .ref (r)), (1, .int (nI (0)))]) hx hb dX5_nextRecord_87 hl (by decide) rfl (fun ls hl => ?_)
          refine lv_iconst (v := (nI (0))) hx hb dX5_nextRecord_89 (by decide) ?_
          refine lv_istore (lv' := [(8, .int (nI (0))), (6, .long (N)), (5, .null), (4, .ref (x + 16 + 3 * (3 * k + w))), (2, .long (y1)), (0, .ref (r)), (1, .int (nI (0)))]) hx hb dX5_nextRecord_90 hl (by decide) rfl (fun ls hl => ?_)
          replace hl : lv_has ls 9 [(0, .ref (r)), (5, .null), (6, .long (N)), (8, .int (nI (0)))] := lv_sub hl [5, 2, 1, 0] rfl
          have hinv : ∃ (f4 : rl_M) (E4 : Nat → Nat → Nat) (z4 : Nat) (u4 : pQ) (D4 : pD) (i : Nat), rl_W D A f4 z4 s.heap H locs ∧ cRD t f4 x T w r E4 gx mo u4 ∧ cDO t f4 x T w E4 u4 (none) D4 ∧ qst T u0 u4 ∧ eag z (q_rho u) (q_kap u) (q_kap u4) E E4 ∧ rl_on r f f4 ∧ q_parts T w (q_rec T w (6 - (op + 1))) (N.toInt.toNat - i) D4 u4 = q_parts T w (q_rec T w (6 - (op + 1))) N.toInt.toNat (q_d0 w k false) u3 ∧ q_at u + 1 ≤ q_at u4 ∧ z ≤ z4 ∧ z4 ≤ z + 3 * (q_at u4 - q_at u) ∧ i ≤ 250 ∧ lv_has ls 9 [(0, .ref (r)), (5, .null), (6, .long (N)), (8, .int (nI (i)))] := ⟨f3, E, z, u3, _, 0, hW, hS3, hDO3, hst03, (ek3.trans (ek1.trans e0k)) ▸ eag.rf, hO3, rfl, by omega, by omega, by omega, by omega, hl⟩
          refine W.widen (show _ ≤ 3 by omega) (show _ ≤ 13 by omega) ?_
          clear hW hl hS3 hDO3
          obtain ⟨f4, E4, z4, u4, D4, i, hW, hS4, hDO, hq4, heg4, hO4, hps, hn4, hz4, hzz4, hi, hl⟩ := hinv
          have hq2504 := hS4.at2
          refine W.widen (show _ ≤ 3 * (q_at u4 - q_at u) by omega) (show _ ≤ 13 * (q_at u4 - q_at u) by omega) ?_
          clear hq2504
          obtain ⟨n9, hn9⟩ : ∃ n9, 250 - i < n9 := ⟨_, Nat.lt_succ_self _⟩
          induction n9 generalizing f4 E4 z4 u4 D4 i H locs ls with
          | zero => exact absurd hn9 (Nat.not_lt_zero _)
          | succ n9 ih =>
            obtain ⟨hI4, hGq4, hrx4, hat4, hbd4, hdp4, md4, hmd4, hrd4⟩ := id hS4
            have hl2504 := hGq4.2.2.2.2
            have hq2504 := hS4.at2
            have hdp4u : q_bad u4 = 0 → q_dp u4 = op + 1 := fun q => by have h9 := (hq4.2.2.2.2.2.2 q).2; omega
            have hrle : q_rho u ≤ q_rho u4 := e0r ▸ hq4.2.1
            have hkle : q_kap u ≤ q_kap u4 := e0k ▸ hq4.2.2.1
            refine lv_iload hx hb dX5_nextRecord_92 (lv_at hl 3 rfl) ?_
            refine lv_i2l hx hb dX5_nextRecord_94 rfl ?_
            refine lv_lload hx hb dX5_nextRecord_95 (lv_at hl 2 rfl) ?_
            refine W.lcmp hx hb dX5_nextRecord_97 ?_
            refine lv_if_ge (tgt := 120) hx hb dX5_nextRecord_98 (by decide) (fun c8 => ?_) (fun c8 => ?_)
            · have hge : N.toInt ≤ (i : Int) := (rg_iN hi).mp c8
              have hend : q_parts T w (q_rec T w (6 - (op + 1))) (N.toInt.toNat - i) D4 u4 = (D4, u4) := by rw [show N.toInt.toNat - i = 0 by omega]; rfl
              refine lv_aload_n hx hb dX5_nextRecord_120 rfl (lv_at hl 0 rfl) ?_
              refine lv_aloadN hx hb dX5_nextRecord_121 (lv_at hl 1 rfl) ?_
              refine rl_callqQ (rl_runV (b := r) (As := [.null]) (rest := []) hC hW (cC_finished l D t A _ z4 x T w r E4 _ _ u4 hS4 hT hw (none) D4 hDO z (fun a e => by cases e) (fun q => by have := hdp4u q; omega)) cs_X5_75 im_X5_finished sl_X5_finished hrd4 rfl ⟨by simp only [rl_rm]; omega, by simp only [rl_rm]; omega⟩ rfl hl.1 rfl (Nat.le_of_ble_eq_true rfl) dX5_nextRecord_123 ⟨by simp only [rl_rm]; omega, by simp only [rl_rm]; omega⟩) hW (fun r5 f5 H locs hp hW => ?_)
              obtain ⟨E5, h5d, u5, he5, hr5, hS5, heg5, hon5⟩ := hp
              have ha5 : q_at u4 ≤ q_at u5 := by have h9 := (st_end hT hGq4 hDO.1).1.2.2.2.1; rw [he5] at h9; exact h9
              have hq2505 := hS5.at2
              exact rl_aret (v := r5) hC hW hr hlk (by simp only [rl_rm]; omega) (by simp only [rl_rm]; omega) ⟨_, rfl, ⟨E5, h5d, u5, hRec.trans (by rw [← hps, hend]; exact he5), hr5, hS5, heg4.tr heg5 (Nat.le_refl _) hrle hkle, hO4.tr hon5, by omega, by omega⟩⟩ dX5_nextRecord_126
            · have hlt : i < N.toInt.toNat := by have h9 : ¬ N.toInt ≤ (i : Int) := fun q => c8 ((rg_iN hi).mpr q); omega
              refine lv_aload_n hx hb dX5_nextRecord_101 rfl (lv_at hl 0 rfl) ?_
              refine rl_get (v := .int (nI (q_bad u4))) hC hW fl_X5_23 hrd4 rfl dX5_nextRecord_102 ?_
              refine lv_if_ne (tgt := 120) hx hb dX5_nextRecord_105 (by decide) (fun c9 => ?_) (fun c9 => ?_)
              · have hb4 : q_bad u4 ≠ 0 := fun q => c9 (by rw [q]; rfl)
                have hend : q_parts T w (q_rec T w (6 - (op + 1))) (N.toInt.toNat - i) D4 u4 = (D4, u4) := ps_b hb4 _
                refine lv_aload_n hx hb dX5_nextRecord_120 rfl (lv_at hl 0 rfl) ?_
                refine lv_aloadN hx hb dX5_nextRecord_121 (lv_at hl 1 rfl) ?_
                refine rl_callqQ (rl_runV (b := r) (As := [.null]) (rest := []) hC hW (cC_finished l D t A _ z4 x T w r E4 _ _ u4 hS4 hT hw (none) D4 hDO z (fun a e => by cases e) (fun q => by have := hdp4u q; omega)) cs_X5_75 im_X5_finished sl_X5_finished hrd4 rfl ⟨by simp only [rl_rm]; omega, by simp only [rl_rm]; omega⟩ rfl hl.1 rfl (Nat.le_of_ble_eq_true rfl) dX5_nextRecord_123 ⟨by simp only [rl_rm]; omega, by simp only [rl_rm]; omega⟩) hW (fun r5 f5 H locs hp hW => ?_)
                obtain ⟨E5, h5d, u5, he5, hr5, hS5, heg5, hon5⟩ := hp
                have ha5 : q_at u4 ≤ q_at u5 := by have h9 := (st_end hT hGq4 hDO.1).1.2.2.2.1; rw [he5] at h9; exact h9
                have hq2505 := hS5.at2
                exact rl_aret (v := r5) hC hW hr hlk (by simp only [rl_rm]; omega) (by simp only [rl_rm]; omega) ⟨_, rfl, ⟨E5, h5d, u5, hRec.trans (by rw [← hps, hend]; exact he5), hr5, hS5, heg4.tr heg5 (Nat.le_refl _) hrle hkle, hO4.tr hon5, by omega, by omega⟩⟩ dX5_nextRecord_126
              · have hb4 : q_bad u4 = 0 := (nI_eq (by omega) (by decide)).mp c9
                have hz4f : ∀ q e, f4 q = some e → q < z4 := fun q e h => hW.lt h
                refine lv_aload_n hx hb dX5_nextRecord_108 rfl (lv_at hl 0 rfl) ?_
                refine lv_aloadN hx hb dX5_nextRecord_109 (lv_at hl 1 rfl) ?_
                refine rl_callv (rl_runV (b := r) (As := [.null]) (rest := []) hC hW (hNP hop6 _ z4 E4 u4 (none) D4 hS4 hdp4u hDO) cs_X5_71 im_X5_nextPart sl_X5_nextPart hrd4 rfl ⟨by simp only [rl_rm]; omega, by simp only [rl_rm]; omega⟩ rfl hl.1 rfl (Nat.le_of_ble_eq_true rfl) dX5_nextRecord_111 ⟨by simp only [rl_rm]; omega, by simp only [rl_rm]; omega⟩) hW (fun f5 z1 d1 H locs hp hW hz1 => ?_)
                obtain ⟨E5, D5, u5, he5, hS5, hDO5, heg5, hpn5, hz5, hd5⟩ := hp
                have hq2505 := hS5.at2
                have hst5 : qst T u4 u5 := by have h9 := (st_part hT hw (st_rec hT hw (6 - (op + 1))) hGq4 hDO.1).1; rw [he5] at h9; exact h9
                have ha5 := hst5.2.2.2.1
                rw [show N.toInt.toNat - i = (N.toInt.toNat - (i + 1)) + 1 by omega, ps_s hb4, he5] at hps
                have hO5 : rl_on r f f5 := fun q e h1 h2 => hpn5 q e (hO4 q e h1 h2) h2 (fun a ea => by cases ea)
                refine lv_iinc (v := (nI ((i) + 1))) (lv' := [(8, .int (nI ((i) + 1))), (0, .ref (r)), (5, .null), (6, .long (N))]) hx hb dX5_nextRecord_114 hl (k := 3) rfl (nI_1 _) (by decide) rfl (fun ls hl => ?_)
                refine lv_goto (tgt := 92) hx hb dX5_nextRecord_117 (by decide) ?_
                replace hl : lv_has ls 9 [(0, .ref (r)), (5, .null), (6, .long (N)), (8, .int (nI ((i) + 1)))] := lv_sub hl [1, 2, 3, 0] rfl
                refine W.widen (show _ ≤ 3 * (q_at u5 - q_at u) by omega) (show _ ≤ 13 * (q_at u5 - q_at u) by omega) ?_
                exact ih H locs ls f5 E5 z1 u5 D5 (i + 1) hW hS5 hDO5 (hq4.tr hst5) (heg4.tr heg5 hz4 hrle hkle) hO5 hps (by omega) (by omega) (by omega) (by omega) hl (by omega)
        · exact absurd rfl c6
      · have hrk : pu_rk y1 = none := rk_no (fun ⟨k, hk, e⟩ => hp ⟨k, w, hk, hw, e, rfl⟩)
        refine lv_astoreN (lv' := [(4, .null), (2, .long (y1)), (0, .ref (r)), (1, .int (nI (0)))]) hx hb dX5_nextRecord_44 hl (by decide) rfl (fun ls hl => ?_)
        refine lv_aloadN hx hb dX5_nextRecord_46 (lv_at hl 0 rfl) ?_
        refine lv_ifnonnullN hx hb dX5_nextRecord_48 ?_
        refine lv_aload_n hx hb dX5_nextRecord_51 rfl (lv_at hl 2 rfl) ?_
        refine lv_iconst (v := (nI (2))) hx hb dX5_nextRecord_52 (by decide) ?_
        refine rl_callvQ (rl_runV (b := r) (As := [.int (nI (2))]) (rest := []) hC hW (cC_fail l D t A _ z x T w r E _ _ u1 hS1 2 (by decide)) cs_X5_44 im_X5_fail sl_X5_fail hrd1 rfl ⟨by simp only [rl_rm]; omega, by simp only [rl_rm]; omega⟩ rfl hl.1 rfl (Nat.le_of_ble_eq_true rfl) dX5_nextRecord_53 ⟨by simp only [rl_rm]; omega, by simp only [rl_rm]; omega⟩) hW (fun f2 H locs hp hW => ?_)
        obtain ⟨u2, hfl2, hS2, hon2⟩ := hp
        obtain ⟨eG2, er2, ek2, ed2, ea2⟩ : q_G u2 = q_G u1 ∧ q_rho u2 = q_rho u1 ∧ q_kap u2 = q_kap u1 ∧ q_dp u2 = q_dp u1 ∧ q_at u2 = q_at u1 := by rw [hfl2]; exact fl_G
        have hne2 : q_bad u2 ≠ 0 := by rw [hfl2]; exact q_fail_ne (by decide)
        have hst2 : qst T u1 u2 := by rw [hfl2]; exact st_fail hGq1 (by decide)
        have hO2 := hO1.tr hon2
        obtain ⟨hI2, hGq2, hrx2, hat2, hbd2, hdp2, md2, hmd2, hrd2⟩ := id hS2
        have hl2502 := hGq2.2.2.2.2
        have ha12 := (hst1.tr hst2).2.2.2.1
        refine lv_null hx hb dX5_nextRecord_56 ?_
        exact rl_aret (v := none) hC hW hr hlk (by simp only [rl_rm]; omega) (by simp only [rl_rm]; omega) ⟨_, rfl, ⟨E, none, u2, (by rw [hfu]; exact (rec_k hlu hrk).trans (by rw [hfl2])), rfl, hS2, (ek2.trans (ek1.trans e0k)) ▸ eag.rf, hO2, by omega, by omega⟩⟩ dX5_nextRecord_57
    · refine lv_aload_n hx hb dX5_nextRecord_17 rfl (lv_at hl 0 rfl) ?_
      refine lv_dup hx hb dX5_nextRecord_18 rfl ?_
      refine rl_get (v := .int (nI (q_dp u))) hC hW fl_X5_41 hrd rfl dX5_nextRecord_19 ?_
      refine lv_iconst (v := (nI (1))) hx hb dX5_nextRecord_22 (by decide) ?_
      refine lv_iadd hx hb dX5_nextRecord_23 ?_
      refine rl_topn (nI_add _ _) ?_
      refine rl_put (v := .int (nI ((q_dp u) + (1)))) hC hW fp_X5_41 hrd (Nat.le_of_ble_eq_true rfl) rfl rfl dX5_nextRecord_24 (fun H locs hW => ?_)
      replace hW : rl_W D A (rl_up _ r (.inr (5, [.ref (x + 1), .ref (x + 55), .int (nI (w)), .int (nI (q_at u)), .int (q_la u), .int (nI ((q_dp u) + (1))), .int (nI (q_bad u)), .int (md)]))) z s.heap H locs := hW
      replace hI := hI.rdr (fs2 := [.ref (x + 1), .ref (x + 55), .int (nI (w)), .int (nI (q_at u)), .int (q_la u), .int (nI ((q_dp u) + (1))), .int (nI (q_bad u)), .int (md)]) hrx hrd
      replace hon := hon.tr (rl_on.up (r := r) (e := .inr (5, [.ref (x + 1), .ref (x + 55), .int (nI (w)), .int (nI (q_at u)), .int (q_la u), .int (nI ((q_dp u) + (1))), .int (nI (q_bad u)), .int (md)])))
      replace hrd := rl_ups hrd (.inr (5, [.ref (x + 1), .ref (x + 55), .int (nI (w)), .int (nI (q_at u)), .int (q_la u), .int (nI ((q_dp u) + (1))), .int (nI (q_bad u)), .int (md)]))
      obtain ⟨u0, eu0, e0a, e0r, e0k, e0d, e0b, e0G⟩ : ∃ u0, u0 = q_up u (q_dp u + 1) ∧ q_at u0 = q_at u ∧ q_rho u0 = q_rho u ∧ q_kap u0 = q_kap u ∧ q_dp u0 = q_dp u + 1 ∧ q_bad u0 = q_bad u ∧ q_G u0 = q_G u := ⟨_, rfl, rfl, rfl, rfl, rfl, rfl, rfl⟩
      obtain ⟨f0, ef0⟩ : ∃ g, g = rl_up f r (.inr (5, [.ref (x + 1), .ref (x + 55), .int (nI (w)), .int (nI (q_at u)), .int (q_la u), .int (nI ((q_dp u) + (1))), .int (nI (q_bad u)), .int (md)])) := ⟨_, rfl⟩
      rw [← ef0] at hW hI hrd hon
      have hS0 : cRD t f0 x T w r E gx mo u0 := by rw [eu0]; exact ⟨hI, hGq, hrx, hat, hbd, (show q_dp u + 1 ≤ 6 by omega), md, hmd, hrd⟩
      have hO0 := hon
      clear ef0 hI hrd
      obtain ⟨hI0, hGq0, hrx0, hat0, hbd0, hdp0, md0, hmd0, hrd0⟩ := id hS0
      have hl2500 := hGq0.2.2.2.2
      refine lv_aload_n hx hb dX5_nextRecord_27 rfl (lv_at hl 0 rfl) ?_
      refine rl_calllQ (rl_runV (b := r) (As := []) (rest := []) hC hW (cC_nextLeaf l D t A _ z x T w r E _ _ u0 hS0) cs_X5_48 im_X5_nextLeaf sl_X5_nextLeaf hrd0 rfl ⟨by simp only [rl_rm]; omega, by simp only [rl_rm]; omega⟩ rfl hl.1 rfl (Nat.le_of_ble_eq_true rfl) dX5_nextRecord_28 ⟨by simp only [rl_rm]; omega, by simp only [rl_rm]; omega⟩) hW (fun y1 f1 H locs hp hW => ?_)
      obtain ⟨u1, hlf1, hS1, hon1⟩ := hp
      obtain ⟨hst1, eG1, er1, ek1, ed1, hw1, hy1⟩ := lf_all hGq0 hlf1
      have hO1 := hO0.tr hon1
      obtain ⟨hI1, hGq1, hrx1, hat1, hbd1, hdp1, md1, hmd1, hrd1⟩ := id hS1
      have hl2501 := hGq1.2.2.2.2
      obtain ⟨hk0, -, -⟩ := id hI1.1
      have hlu : q_leaf (q_up u (q_dp u + 1)) = (y1, u1) := by rw [← eu0]; exact hlf1
      have hfu : 6 - op = (6 - (op + 1)) + 1 := by omega
      refine lv_lstore_n (lv' := [(2, .long (y1)), (0, .ref (r)), (1, .int (nI (1)))]) hx hb dX5_nextRecord_31 rfl hl (by decide) rfl (fun ls hl => ?_)
      refine lv_aload_n hx hb dX5_nextRecord_32 rfl (lv_at hl 1 rfl) ?_
      refine rl_get (v := .ref (x + 1)) hC hW fl_X5_9 hrd1 rfl dX5_nextRecord_33 ?_
      refine lv_lload_n hx hb dX5_nextRecord_36 rfl (lv_at hl 0 rfl) ?_
      refine lv_aload_n hx hb dX5_nextRecord_37 rfl (lv_at hl 1 rfl) ?_
      refine rl_get (v := .int (nI (w))) hC hW fl_X5_19 hrd1 rfl dX5_nextRecord_38 ?_
      refine rl_callqQ (rl_runV (b := x + 1) (As := [.long (y1), .int (nI (w))]) (rest := []) hC hW (cC_recordVersion l D t A _ z x T _ _ _ E _ _ hI1 _ _) cs_X5_52 im_X3_recordVersion sl_X3_recordVersion hk0 rfl ⟨by simp only [rl_rm]; omega, by simp only [rl_rm]; omega⟩ rfl hl.1 rfl (Nat.le_of_ble_eq_true rfl) dX5_nextRecord_41 ⟨by simp only [rl_rm]; omega, by simp only [rl_rm]; omega⟩) hW (fun r1 f1 H locs hp hW => ?_)
      obtain ⟨rfl, hp⟩ := hp
      rcases hp with ⟨k, v9, hk, hv, e1, e2, rfl⟩ | ⟨rfl, hp⟩
      · obtain rfl := (nI_eq (by omega) (by omega)).mp e2
        have hb1 : q_bad u1 = 0 := Decidable.byContradiction fun q => rg_l2 hk ((e1.symm.trans (hy1 q)))
        obtain ⟨-, hat1e⟩ := hw1 hb1
        have hrk : pu_rk y1 = some k := by rw [e1]; exact rk_lN hk
        have hj : 3 * k + w < 12 := by omega
        refine lv_astore (lv' := [(4, .ref (x + 16 + 3 * (3 * k + w))), (2, .long (y1)), (0, .ref (r)), (1, .int (nI (1)))]) hx hb dX5_nextRecord_44 hl (by decide) rfl (fun ls hl => ?_)
        refine lv_aload hx hb dX5_nextRecord_46 (lv_at hl 0 rfl) ?_
        refine lv_ifnonnull (tgt := 58) hx hb dX5_nextRecord_48 (by decide) ?_
        refine lv_iload_n hx hb dX5_nextRecord_58 rfl (lv_at hl 3 rfl) ?_
        refine lv_if_eq (tgt := 74) hx hb dX5_nextRecord_59 (by decide) (fun c6 => ?_) (fun c6 => ?_)
        · exact absurd c6 (by decide)
        · have hfz := hW.fresh
          have hfre : ∀ n, n < q_kap u1 → E 2 n ≠ z := fun n hn q => by have h9 := (hI1.rec hn).2.1; rw [q, hfz] at h9; cases h9
          refine rl_new hC hW cn_X5_58 (by simp only [rl_rm]; omega) (by simp only [rl_rm]; omega) dX5_nextRecord_62 (fun H hW => ?_)
          refine lv_dup hx hb dX5_nextRecord_65 rfl ?_
          refine lv_aload hx hb dX5_nextRecord_66 (lv_at hl 0 rfl) ?_
          refine rl_callv (rl_runI (b := z) (As := [.ref (x + 16 + 3 * (3 * k + w))]) (rest := [.ref (z)]) hC hW (cC_Rec_init l D t A _ (z + 1) x T _ _ _ E _ _ (hI1.le (rl_le.fresh hfz)) z (3 * k + w) hj (rl_up_s _ _ _)) cs_X5_60 im_X6_init rfl ⟨by simp only [rl_rm]; omega, by simp only [rl_rm]; omega⟩ rfl hl.1 rfl (Nat.le_of_ble_eq_true rfl) dX5_nextRecord_68 ⟨by simp only [rl_rm]; omega, by simp only [rl_rm]; omega⟩) hW (fun f2 z1 d1 H locs hp hW hz1 => ?_)
          obtain ⟨hD1, hD2, hD3, hD4, rfl, hd1⟩ := hp
          have hle2 : rl_le f1 f2 := rl_le.sub hfz (fun q e hq hqz => hD4 q e (rl_le.fresh hfz q e hq) hqz)
          have hD : cDR t f2 x T E z (3 * k + w) (fun _ => 0) (fun _ => none) := ⟨hj, hzx, hD1, ⟨_, hD2, fun _ _ => rfl⟩, ⟨_, hD3, fun _ _ => rfl⟩⟩
          replace hI1 := hI1.le hle2
          replace hrd1 := hle2 _ _ hrd1
          replace hS1 : cRD t f2 x T w r E gx mo u1 := ⟨hI1, hGq1, hrx1, hat1, hbd1, hdp1, md1, hmd1, hrd1⟩
          replace hO1 := hO1.tr (rl_on.le (r := r) hle2)
          have hDO1 : cDO t f2 x T w E u1 (some z) (q_d0 w k true) := ⟨qdo.d0 hw hk, Or.inr ⟨z, _, _, _, rfl, rfl, hD, hfre⟩⟩
          have hst01 := hst1
          refine lv_goto (tgt := 75) hx hb dX5_nextRecord_71 (by decide) ?_
          refine lv_astore (lv' := [(5, .ref (z)), (4, .ref (x + 16 + 3 * (3 * k + w))), (2, .long (y1)), (0, .ref (r)), (1, .int (nI (1)))]) hx hb dX5_nextRecord_75 hl (by decide) rfl (fun ls hl => ?_)
          refine lv_aload_n hx hb dX5_nextRecord_77 rfl (lv_at hl 3 rfl) ?_
          refine rl_calllQ (rl_runV (b := r) (As := []) (rest := []) hC hW (cC_nextLeaf l D t A _ (z + 1 + 2) x T w r E _ _ u1 hS1) cs_X5_48 im_X5_nextLeaf sl_X5_nextLeaf hrd1 rfl ⟨by simp only [rl_rm]; omega, by simp only [rl_rm]; omega⟩ rfl hl.1 rfl (Nat.le_of_ble_eq_true rfl) dX5_nextRecord_78 ⟨by simp only [rl_rm]; omega, by simp only [rl_rm]; omega⟩) hW (fun y3 f3 H locs hp hW => ?_)
          obtain ⟨u3, hlf3, hS3, hon3⟩ := hp
          obtain ⟨hst3, eG3, er3, ek3, ed3, hw3, hy3⟩ := lf_all hGq1 hlf3
          have hO3 := hO1.tr hon3
          obtain ⟨hI3, hGq3, hrx3, hat3, hbd3, hdp3, md3, hmd3, hrd3⟩ := id hS3
          have hl2503 := hGq3.2.2.2.2
          have hDO3 := hDO1.q hon3 hrd1 er3 ek3
          have hst03 := hst01.tr hst3
          have ha3 := hst3.2.2.2.1
          have hq2503 := hS3.at2
          refine lv_ldc2 (v := 250) hx hb hC.2.2.2.1 (hC.2.2.2.2.1 _ (List.mem_cons_of_mem _ mw_589)) dX5_nextRecord_81 ?_
          refine rl_mminl (x := y3) (y := 250) hC mw_590 hl.1 (by simp only [rl_rm]; omega) (by simp only [rl_rm, List.map_cons, List.map_nil, List.sum_cons, List.sum_nil, Value.category]; omega) (by simp only [rl_rm]; omega) (by simp only [rl_rm]; omega) dX5_nextRecord_84 ?_
          obtain ⟨N, eN⟩ : ∃ N : Int64, N = (if (250 : Int64) < y3 then (250 : Int64) else y3) := ⟨_, rfl⟩
          refine rl_topl eN.symm ?_
          have hN : N ≤ 250 := by rw [eN]; exact rg_minl y3
          replace hN := rg_N250 hN
          have hRec : q_rec T w (6 - op) true u = q_end T (q_parts T w (q_rec T w (6 - (op + 1))) N.toInt.toNat (q_d0 w k true) u3).1 (q_parts T w (q_rec T w (6 - (op + 1))) N.toInt.toNat (q_d0 w k true) u3).2 := by rw [hfu, rec_s hlu hrk hlf3, ps_min hT hw (st_rec hT hw _) hGq3 hDO3.1 hat3 (fun _ => by omega) eN]
          clear eN
          refine lv_lstore (lv' := [(6, .long (N)), (5, .ref (z)), (4, .ref (x + 16 + 3 * (3 * k + w))), (2, .long (y1)), (0, .ref (r)), (1, .int (nI (1)))]) hx hb dX5_nextRecord_87 hl (by decide) rfl (fun ls hl => ?_)
          refine lv_iconst (v := (nI (0))) hx hb dX5_nextRecord_89 (by decide) ?_
          refine lv_istore (lv' := [(8, .int (nI (0))), (6, .long (N)), (5, .ref (z)), (4, .ref (x + 16 + 3 * (3 * k + w))), (2, .long (y1)), (0, .ref (r)), (1, .int (nI (1)))]) hx hb dX5_nextRecord_90 hl (by decide) rfl (fun ls hl => ?_)
          replace hl : lv_has ls 9 [(0, .ref (r)), (5, .ref (z)), (6, .long (N)), (8, .int (nI (0)))] := lv_sub hl [5, 2, 1, 0] rfl
          have hinv : ∃ (f4 : rl_M) (E4 : Nat → Nat → Nat) (z4 : Nat) (u4 : pQ) (D4 : pD) (i : Nat), rl_W D A f4 z4 s.heap H locs ∧ cRD t f4 x T w r E4 gx mo u4 ∧ cDO t f4 x T w E4 u4 (some z) D4 ∧ qst T u0 u4 ∧ eag z (q_rho u) (q_kap u) (q_kap u4) E E4 ∧ rl_on r f f4 ∧ q_parts T w (q_rec T w (6 - (op + 1))) (N.toInt.toNat - i) D4 u4 = q_parts T w (q_rec T w (6 - (op + 1))) N.toInt.toNat (q_d0 w k true) u3 ∧ q_at u + 1 ≤ q_at u4 ∧ z ≤ z4 ∧ z4 ≤ z + 3 * (q_at u4 - q_at u) ∧ i ≤ 250 ∧ lv_has ls 9 [(0, .ref (r)), (5, .ref (z)), (6, .long (N)), (8, .int (nI (i)))] := ⟨f3, E, (z + 1 + 2), u3, _, 0, hW, hS3, hDO3, hst03, (ek3.trans (ek1.trans e0k)) ▸ eag.rf, hO3, rfl, by omega, by omega, by omega, by omega, hl⟩
          refine W.widen (show _ ≤ 3 by omega) (show _ ≤ 13 by omega) ?_
          clear hW hl hS3 hDO3
          obtain ⟨f4, E4, z4, u4, D4, i, hW, hS4, hDO, hq4, heg4, hO4, hps, hn4, hz4, hzz4, hi, hl⟩ := hinv
          have hq2504 := hS4.at2
          refine W.widen (show _ ≤ 3 * (q_at u4 - q_at u) by omega) (show _ ≤ 13 * (q_at u4 - q_at u) by omega) ?_
          clear hq2504
          obtain ⟨n9, hn9⟩ : ∃ n9, 250 - i < n9 := ⟨_, Nat.lt_succ_self _⟩
          induction n9 generalizing f4 E4 z4 u4 D4 i H locs ls with
          | zero => exact absurd hn9 (Nat.not_lt_zero _)
          | succ n9 ih =>
            obtain ⟨hI4, hGq4, hrx4, hat4, hbd4, hdp4, md4, hmd4, hrd4⟩ := id hS4
            have hl2504 := hGq4.2.2.2.2
            have hq2504 := hS4.at2
            have hdp4u : q_bad u4 = 0 → q_dp u4 = op + 1 := fun q => by have h9 := (hq4.2.2.2.2.2.2 q).2; omega
            have hrle : q_rho u ≤ q_rho u4 := e0r ▸ hq4.2.1
            have hkle : q_kap u ≤ q_kap u4 := e0k ▸ hq4.2.2.1
            refine lv_iload hx hb dX5_nextRecord_92 (lv_at hl 3 rfl) ?_
            refine lv_i2l hx hb dX5_nextRecord_94 rfl ?_
            refine lv_lload hx hb dX5_nextRecord_95 (lv_at hl 2 rfl) ?_
            refine W.lcmp hx hb dX5_nextRecord_97 ?_
            refine lv_if_ge (tgt := 120) hx hb dX5_nextRecord_98 (by decide) (fun c8 => ?_) (fun c8 => ?_)
            · have hge : N.toInt ≤ (i : Int) := (rg_iN hi).mp c8
              have hend : q_parts T w (q_rec T w (6 - (op + 1))) (N.toInt.toNat - i) D4 u4 = (D4, u4) := by rw [show N.toInt.toNat - i = 0 by omega]; rfl
              refine lv_aload_n hx hb dX5_nextRecord_120 rfl (lv_at hl 0 rfl) ?_
              refine lv_aload hx hb dX5_nextRecord_121 (lv_at hl 1 rfl) ?_
              refine rl_callqQ (rl_runV (b := r) (As := [.ref (z)]) (rest := []) hC hW (cC_finished l D t A _ z4 x T w r E4 _ _ u4 hS4 hT hw (some z) D4 hDO z (fun a e => by cases e; exact Nat.le_refl _) (fun q => by have := hdp4u q; omega)) cs_X5_75 im_X5_finished sl_X5_finished hrd4 rfl ⟨by simp only [rl_rm]; omega, by simp only [rl_rm]; omega⟩ rfl hl.1 rfl (Nat.le_of_ble_eq_true rfl) dX5_nextRecord_123 ⟨by simp only [rl_rm]; omega, by simp only [rl_rm]; omega⟩) hW (fun r5 f5 H locs hp hW => ?_)
              obtain ⟨E5, h5d, u5, he5, hr5, hS5, heg5, hon5⟩ := hp
              have ha5 : q_at u4 ≤ q_at u5 := by have h9 := (st_end hT hGq4 hDO.1).1.2.2.2.1; rw [he5] at h9; exact h9
              have hq2505 := hS5.at2
              exact rl_aret (v := r5) hC hW hr hlk (by simp only [rl_rm]; omega) (by simp only [rl_rm]; omega) ⟨_, rfl, ⟨E5, h5d, u5, hRec.trans (by rw [← hps, hend]; exact he5), hr5, hS5, heg4.tr heg5 (Nat.le_refl _) hrle hkle, hO4.tr hon5, by omega, by omega⟩⟩ dX5_nextRecord_126
            · have hlt : i < N.toInt.toNat := by have h9 : ¬ N.toInt ≤ (i : Int) := fun q => c8 ((rg_iN hi).mpr q); omega
              refine lv_aload_n hx hb dX5_nextRecord_101 rfl (lv_at hl 0 rfl) ?_
              refine rl_get (v := .int (nI (q_bad u4))) hC hW fl_X5_23 hrd4 rfl dX5_nextRecord_102 ?_
              refine lv_if_ne (tgt := 120) hx hb dX5_nextRecord_105 (by decide) (fun c9 => ?_) (fun c9 => ?_)
              · have hb4 : q_bad u4 ≠ 0 := fun q => c9 (by rw [q]; rfl)
                have hend : q_parts T w (q_rec T w (6 - (op + 1))) (N.toInt.toNat - i) D4 u4 = (D4, u4) := ps_b hb4 _
                refine lv_aload_n hx hb dX5_nextRecord_120 rfl (lv_at hl 0 rfl) ?_
                refine lv_aload hx hb dX5_nextRecord_121 (lv_at hl 1 rfl) ?_
                refine rl_callqQ (rl_runV (b := r) (As := [.ref (z)]) (rest := []) hC hW (cC_finished l D t A _ z4 x T w r E4 _ _ u4 hS4 hT hw (some z) D4 hDO z (fun a e => by cases e; exact Nat.le_refl _) (fun q => by have := hdp4u q; omega)) cs_X5_75 im_X5_finished sl_X5_finished hrd4 rfl ⟨by simp only [rl_rm]; omega, by simp only [rl_rm]; omega⟩ rfl hl.1 rfl (Nat.le_of_ble_eq_true rfl) dX5_nextRecord_123 ⟨by simp only [rl_rm]; omega, by simp only [rl_rm]; omega⟩) hW (fun r5 f5 H locs hp hW => ?_)
                obtain ⟨E5, h5d, u5, he5, hr5, hS5, heg5, hon5⟩ := hp
                have ha5 : q_at u4 ≤ q_at u5 := by have h9 := (st_end hT hGq4 hDO.1).1.2.2.2.1; rw [he5] at h9; exact h9
                have hq2505 := hS5.at2
                exact rl_aret (v := r5) hC hW hr hlk (by simp only [rl_rm]; omega) (by simp only [rl_rm]; omega) ⟨_, rfl, ⟨E5, h5d, u5, hRec.trans (by rw [← hps, hend]; exact he5), hr5, hS5, heg4.tr heg5 (Nat.le_refl _) hrle hkle, hO4.tr hon5, by omega, by omega⟩⟩ dX5_nextRecord_126
              · have hb4 : q_bad u4 = 0 := (nI_eq (by omega) (by decide)).mp c9
                have hz4f : ∀ q e, f4 q = some e → q < z4 := fun q e h => hW.lt h
                refine lv_aload_n hx hb dX5_nextRecord_108 rfl (lv_at hl 0 rfl) ?_
                refine lv_aload hx hb dX5_nextRecord_109 (lv_at hl 1 rfl) ?_
                refine rl_callv (rl_runV (b := r) (As := [.ref (z)]) (rest := []) hC hW (hNP hop6 _ z4 E4 u4 (some z) D4 hS4 hdp4u hDO) cs_X5_71 im_X5_nextPart sl_X5_nextPart hrd4 rfl ⟨by simp only [rl_rm]; omega, by simp only [rl_rm]; omega⟩ rfl hl.1 rfl (Nat.le_of_ble_eq_true rfl) dX5_nextRecord_111 ⟨by simp only [rl_rm]; omega, by simp only [rl_rm]; omega⟩) hW (fun f5 z1 d1 H locs hp hW hz1 => ?_)
                obtain ⟨E5, D5, u5, he5, hS5, hDO5, heg5, hpn5, hz5, hd5⟩ := hp
                have hq2505 := hS5.at2
                have hst5 : qst T u4 u5 := by have h9 := (st_part hT hw (st_rec hT hw (6 - (op + 1))) hGq4 hDO.1).1; rw [he5] at h9; exact h9
                have ha5 := hst5.2.2.2.1
                rw [show N.toInt.toNat - i = (N.toInt.toNat - (i + 1)) + 1 by omega, ps_s hb4, he5] at hps
                have hO5 : rl_on r f f5 := fun q e h1 h2 => hpn5 q e (hO4 q e h1 h2) h2 (fun a ea => by cases ea; have := hz0 q e h1; omega)
                refine lv_iinc (v := (nI ((i) + 1))) (lv' := [(8, .int (nI ((i) + 1))), (0, .ref (r)), (5, .ref (z)), (6, .long (N))]) hx hb dX5_nextRecord_114 hl (k := 3) rfl (nI_1 _) (by decide) rfl (fun ls hl => ?_)
                refine lv_goto (tgt := 92) hx hb dX5_nextRecord_117 (by decide) ?_
                replace hl : lv_has ls 9 [(0, .ref (r)), (5, .ref (z)), (6, .long (N)), (8, .int (nI ((i) + 1)))] := lv_sub hl [1, 2, 3, 0] rfl
                refine W.widen (show _ ≤ 3 * (q_at u5 - q_at u) by omega) (show _ ≤ 13 * (q_at u5 - q_at u) by omega) ?_
                exact ih H locs ls f5 E5 z1 u5 D5 (i + 1) hW hS5 hDO5 (hq4.tr hst5) (heg4.tr heg5 hz4 hrle hkle) hO5 hps (by omega) (by omega) (by omega) (by omega) hl (by omega)
      · have hrk : pu_rk y1 = none := rk_no (fun ⟨k, hk, e⟩ => hp ⟨k, w, hk, hw, e, rfl⟩)
        refine lv_astoreN (lv' := [(4, .null), (2, .long (y1)), (0, .ref (r)), (1, .int (nI (1)))]) hx hb dX5_nextRecord_44 hl (by decide) rfl (fun ls hl => ?_)
        refine lv_aloadN hx hb dX5_nextRecord_46 (lv_at hl 0 rfl) ?_
        refine lv_ifnonnullN hx hb dX5_nextRecord_48 ?_
        refine lv_aload_n hx hb dX5_nextRecord_51 rfl (lv_at hl 2 rfl) ?_
        refine lv_iconst (v := (nI (2))) hx hb dX5_nextRecord_52 (by decide) ?_
        refine rl_callvQ (rl_runV (b := r) (As := [.int (nI (2))]) (rest := []) hC hW (cC_fail l D t A _ z x T w r E _ _ u1 hS1 2 (by decide)) cs_X5_44 im_X5_fail sl_X5_fail hrd1 rfl ⟨by simp only [rl_rm]; omega, by simp only [rl_rm]; omega⟩ rfl hl.1 rfl (Nat.le_of_ble_eq_true rfl) dX5_nextRecord_53 ⟨by simp only [rl_rm]; omega, by simp only [rl_rm]; omega⟩) hW (fun f2 H locs hp hW => ?_)
        obtain ⟨u2, hfl2, hS2, hon2⟩ := hp
        obtain ⟨eG2, er2, ek2, ed2, ea2⟩ : q_G u2 = q_G u1 ∧ q_rho u2 = q_rho u1 ∧ q_kap u2 = q_kap u1 ∧ q_dp u2 = q_dp u1 ∧ q_at u2 = q_at u1 := by rw [hfl2]; exact fl_G
        have hne2 : q_bad u2 ≠ 0 := by rw [hfl2]; exact q_fail_ne (by decide)
        have hst2 : qst T u1 u2 := by rw [hfl2]; exact st_fail hGq1 (by decide)
        have hO2 := hO1.tr hon2
        obtain ⟨hI2, hGq2, hrx2, hat2, hbd2, hdp2, md2, hmd2, hrd2⟩ := id hS2
        have hl2502 := hGq2.2.2.2.2
        have ha12 := (hst1.tr hst2).2.2.2.1
        refine lv_null hx hb dX5_nextRecord_56 ?_
        exact rl_aret (v := none) hC hW hr hlk (by simp only [rl_rm]; omega) (by simp only [rl_rm]; omega) ⟨_, rfl, ⟨E, none, u2, (by rw [hfu]; exact (rec_k hlu hrk).trans (by rw [hfl2])), rfl, hS2, (ek2.trans (ek1.trans e0k)) ▸ eag.rf, hO2, by omega, by omega⟩⟩ dX5_nextRecord_57
  · have hop6 : op = 6 := by rcases Nat.lt_or_ge (q_dp u) 6 with h | h; exact absurd ((nI_ltI (by omega) (by decide)).mpr h) c1; omega
    subst hop6
    refine lv_aload_n hx hb dX5_nextRecord_9 rfl (lv_at hl 0 rfl) ?_
    refine lv_bipush (v := (nI (8))) hx hb dX5_nextRecord_10 (by decide) ?_
    refine rl_callvQ (rl_runV (b := r) (As := [.int (nI (8))]) (rest := []) hC hW (cC_fail l D t A _ z x T w r E _ _ u hS 8 (by decide)) cs_X5_44 im_X5_fail sl_X5_fail hrd rfl ⟨by simp only [rl_rm]; omega, by simp only [rl_rm]; omega⟩ rfl hl.1 rfl (Nat.le_of_ble_eq_true rfl) dX5_nextRecord_12 ⟨by simp only [rl_rm]; omega, by simp only [rl_rm]; omega⟩) hW (fun f2 H locs hp hW => ?_)
    obtain ⟨u2, hfl2, hS2, hon2⟩ := hp
    obtain ⟨eG2, er2, ek2, ed2, ea2⟩ : q_G u2 = q_G u ∧ q_rho u2 = q_rho u ∧ q_kap u2 = q_kap u ∧ q_dp u2 = q_dp u ∧ q_at u2 = q_at u := by rw [hfl2]; exact fl_G
    have hne2 : q_bad u2 ≠ 0 := by rw [hfl2]; exact q_fail_ne (by decide)
    have hst2 : qst T u u2 := by rw [hfl2]; exact st_fail hGq (by decide)
    have hO2 := hon2
    obtain ⟨hI2, hGq2, hrx2, hat2, hbd2, hdp2, md2, hmd2, hrd2⟩ := id hS2
    have hl2502 := hGq2.2.2.2.2
    refine lv_null hx hb dX5_nextRecord_15 ?_
    exact rl_aret (v := none) hC hW hr hlk (by simp only [rl_rm]; omega) (by simp only [rl_rm]; omega) ⟨_, rfl, ⟨E, none, u2, (rec_6 (T := T) (w := w) (q := u)).trans (by rw [hfl2]), rfl, hS2, ek2 ▸ eag.rf, hO2, by omega, by omega⟩⟩ dX5_nextRecord_16

theorem cC_nextRecord (l : Launch) (D : va_G) (t : Nat → ClassId) (A : Nat → Prop) (x : Nat) (T : Nat → Nat → Nat) (w r : Nat) (gx : Nat → Int32) (mo : Int32) (hT : rt_ok T) (hw : w < 3) : ∀ (d op : Nat), op + d = 6 → cNR l D t A x T w r gx mo op
  | 0, op, h => fun f z E u wt hwt hS hb hd => cC_nextRecord0 l D t A f z x T w r E gx mo u hS hT hw op wt hwt hb hd (fun q => absurd q (by omega))
  | d + 1, op, h => fun f z E u wt hwt hS hb hd => cC_nextRecord0 l D t A f z x T w r E gx mo u hS hT hw op wt hwt hb hd (fun _ => fun f z E u dr Dr hS hdo hdr => cC_nextPart l D t A f z x T w r E gx mo u hS hT hw (op + 1) (cC_nextRecord l D t A x T w r gx mo hT hw d (op + 1) (by omega)) hdo dr Dr hdr)
