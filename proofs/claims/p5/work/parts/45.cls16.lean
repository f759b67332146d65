set_option maxHeartbeats 4000000 in
set_option maxRecDepth 100000 in
theorem cC_nextRecord0 (l : Launch) (D : va_G) (t : Nat → ClassId) (A : Nat → Prop) (f : rl_M) (z : Nat) (x : Nat) (T : Nat → Nat → Nat) (Th : Nat → Prop) (r nx op : Nat) (wh : Int32) (hS : cRD t f x T Th r nx op wh) (hTP : rt_pure T) (hTK : rt_pk T) (wt : Nat) (hwt : wt < 2) (hNP : op < 6 → cNP l D t A x T r (op + 1)) : rl_Met l yX5_nextRecord (.code yX5_nextRecord cX5_nextRecord 9 (some (FieldType.object "RecordLeaves$RecordThing"))) (rl_rm (8 + 3 * (6 - op)) (3 * (250 - nx)) (13 * (250 - nx))) D t A f z [.ref (r), .int (nI (wt))] (rl_pq fun r0 f1 z1 d1 => cST t x T r f Th z nx op wh r0 f1 z1 d1) := by
  refine rl_begin (own := RX5) (lv := [(0, .ref (r)), (1, .int (nI (wt)))]) (by decide +kernel) rfl (Nat.le_of_ble_eq_true rfl) rfl fun p e s m0 args below meth c ls H locs hC hr hlk hnm hW hl hx hb => ?_
  obtain ⟨hI, hrx, hnl, hop, v, la, md, hrd⟩ := id hS
  have hon := rl_on.rf (r := r) (f := f)
  have hzx : x + 58 ≤ z := by have := hW.lt hrd; omega
  refine lv_aload_n hx hb dX5_nextRecord_0 rfl (lv_at hl 0 rfl) ?_
  refine rl_get (v := .int (nI (op))) hC hW fl_X5_41 hrd rfl dX5_nextRecord_1 ?_
  refine lv_bipush (v := (nI (6))) hx hb dX5_nextRecord_4 (by decide) ?_
  refine lv_icmp_lt (tgt := 17) hx hb dX5_nextRecord_6 (by decide) (fun c1 => ?_) (fun c1 => ?_)
  · have hop6 : op < 6 := (nI_ltI (by omega) (by decide)).mp c1
    have hwt2 : wt = 0 ∨ wt = 1 := by omega
    rcases hwt2 with rfl | rfl
    · refine lv_aload_n hx hb dX5_nextRecord_17 rfl (lv_at hl 0 rfl) ?_
      refine lv_dup hx hb dX5_nextRecord_18 rfl ?_
      refine rl_get (v := .int (nI (op))) hC hW fl_X5_41 hrd rfl dX5_nextRecord_19 ?_
      refine lv_iconst (v := (nI (1))) hx hb dX5_nextRecord_22 (by decide) ?_
      refine lv_iadd hx hb dX5_nextRecord_23 ?_
      refine rl_topn (nI_add _ _) ?_
      have hrd9 := hrd
      refine rl_put (v := .int (nI ((op) + (1)))) hC hW fp_X5_41 hrd (Nat.le_of_ble_eq_true rfl) rfl rfl dX5_nextRecord_24 (fun H locs hW => ?_)
      replace hW : rl_W D A (rl_up _ r (.inr (5, [.ref (x + 1), .ref (x + 55), .int (v), .int (nI (nx)), .int (la), .int (nI ((op) + (1))), .int (wh), .int (md)]))) z s.heap H locs := hW
      replace hI := hI.rdr (fs2 := [.ref (x + 1), .ref (x + 55), .int (v), .int (nI (nx)), .int (la), .int (nI ((op) + (1))), .int (wh), .int (md)]) hrx hrd
      replace hon := hon.tr (rl_on.up (r := r) (e := .inr (5, [.ref (x + 1), .ref (x + 55), .int (v), .int (nI (nx)), .int (la), .int (nI ((op) + (1))), .int (wh), .int (md)])))
      replace hrd := rl_ups hrd (.inr (5, [.ref (x + 1), .ref (x + 55), .int (v), .int (nI (nx)), .int (la), .int (nI ((op) + (1))), .int (wh), .int (md)]))
      obtain ⟨f0, ef0⟩ : ∃ g, g = rl_up f r (.inr (5, [.ref (x + 1), .ref (x + 55), .int (v), .int (nI (nx)), .int (la), .int (nI ((op) + (1))), .int (wh), .int (md)])) := ⟨_, rfl⟩
      rw [← ef0] at hW hI hrd hon
      have hS0 : cRD t f0 x T Th r nx (op + 1) wh := ⟨hI, hrx, hnl, by omega, _, _, _, hrd⟩
      have hsh0 : rl_sh t f f0 := hon.sh hrd9
      clear ef0
      refine lv_aload_n hx hb dX5_nextRecord_27 rfl (lv_at hl 0 rfl) ?_
      refine rl_calllQ (rl_runV (b := r) (As := []) (rest := []) hC hW (cC_nextLeaf l D t A _ z x T Th r _ (op + 1) _ hS0) cs_X5_48 im_X5_nextLeaf sl_X5_nextLeaf hrd rfl ⟨by simp only [rl_rm]; omega, by simp only [rl_rm]; omega⟩ rfl hl.1 rfl (Nat.le_of_ble_eq_true rfl) dX5_nextRecord_28 ⟨by simp only [rl_rm]; omega, by simp only [rl_rm]; omega⟩) hW (fun y1 f1 H locs hp hW => ?_)
      obtain ⟨nx1, wh1, hS1, hon1, hnx1, hw1, hy1⟩ := hp
      have hJ1 := cRJ_leaf (t := t) (Th := Th) (op := op + 1) hon1 hrd hnx1 hw1
      obtain ⟨hI1, hrx1, hnl1, hop1, v1, la1, md1, hrd1⟩ := id hS1
      obtain ⟨hk0, -, -⟩ := id hI1.1
      refine lv_lstore_n (lv' := [(2, .long (y1)), (0, .ref (r)), (1, .int (nI (0)))]) hx hb dX5_nextRecord_31 rfl hl (by decide) rfl (fun ls hl => ?_)
      refine lv_aload_n hx hb dX5_nextRecord_32 rfl (lv_at hl 1 rfl) ?_
      refine rl_get (v := .ref (x + 1)) hC hW fl_X5_9 hrd1 rfl dX5_nextRecord_33 ?_
      refine lv_lload_n hx hb dX5_nextRecord_36 rfl (lv_at hl 0 rfl) ?_
      refine lv_aload_n hx hb dX5_nextRecord_37 rfl (lv_at hl 1 rfl) ?_
      refine rl_get (v := .int (v1)) hC hW fl_X5_19 hrd1 rfl dX5_nextRecord_38 ?_
      refine rl_callqQ (rl_runV (b := x + 1) (As := [.long (y1), .int (v1)]) (rest := []) hC hW (cC_recordVersion l D t A _ z x T Th hI1 _ _) cs_X5_52 im_X3_recordVersion sl_X3_recordVersion hk0 rfl ⟨by simp only [rl_rm]; omega, by simp only [rl_rm]; omega⟩ rfl hl.1 rfl (Nat.le_of_ble_eq_true rfl) dX5_nextRecord_41 ⟨by simp only [rl_rm]; omega, by simp only [rl_rm]; omega⟩) hW (fun r1 f1 H locs hp hW => ?_)
      obtain ⟨rfl, hp⟩ := hp
      rcases hp with ⟨k, v9, hk, hv, e1, e2, rfl⟩ | ⟨rfl, hp⟩
      · have hw0 : wh1 = 0 := Decidable.byContradiction fun q => rg_l2 hk ((e1.symm.trans (hy1 q)))
        obtain ⟨hwh, hnx1e⟩ := hw1 hw0
        subst hnx1e
        obtain ⟨j, hjj⟩ : ∃ j, j = 3 * k + v9 := ⟨_, rfl⟩
        rw [← hjj]
        have hj : j < 12 := by omega
        refine lv_astore (lv' := [(4, .ref (x + 16 + 3 * j)), (2, .long (y1)), (0, .ref (r)), (1, .int (nI (0)))]) hx hb dX5_nextRecord_44 hl (by decide) rfl (fun ls hl => ?_)
        refine lv_aload hx hb dX5_nextRecord_46 (lv_at hl 0 rfl) ?_
        refine lv_ifnonnull (tgt := 58) hx hb dX5_nextRecord_48 (by decide) ?_
        refine lv_iload_n hx hb dX5_nextRecord_58 rfl (lv_at hl 3 rfl) ?_
        refine lv_if_eq (tgt := 74) hx hb dX5_nextRecord_59 (by decide) (fun c6 => ?_) (fun c6 => ?_)
        · have hDO : cDO t f1 x T Th (none) := (fun a e => by cases e)
          skip
          refine lv_null hx hb dX5_nextRecord_74 ?_
          refine lv_astoreN (lv' := [(5, .null), (4, .ref (x + 16 + 3 * j)), (2, .long (y1)), (0, .ref (r)), (1, .int (nI (0)))]) hx hb dX5_nextRecord_75 hl (by decide) rfl (fun ls hl => ?_)
          refine lv_aload_n hx hb dX5_nextRecord_77 rfl (lv_at hl 3 rfl) ?_
          refine rl_calllQ (rl_runV (b := r) (As := []) (rest := []) hC hW (cC_nextLeaf l D t A _ z x T Th r _ (op + 1) _ hS1) cs_X5_48 im_X5_nextLeaf sl_X5_nextLeaf hrd1 rfl ⟨by simp only [rl_rm]; omega, by simp only [rl_rm]; omega⟩ rfl hl.1 rfl (Nat.le_of_ble_eq_true rfl) dX5_nextRecord_78 ⟨by simp only [rl_rm]; omega, by simp only [rl_rm]; omega⟩) hW (fun y3 f3 H locs hp hW => ?_)
          obtain ⟨nx3, wh3, hS3, hon3, hnx3, hw3, hy3⟩ := hp
          have hJ3 := cRJ_leaf (t := t) (Th := Th) (op := op + 1) hon3 hrd1 hnx3 hw3
          replace hDO := hDO.j hJ3
          replace hJ3 := hJ1.tr hJ3
          have hnb3 : nx3 ≤ 250 := hS3.2.2.1
          refine lv_ldc2 (v := 250) hx hb hC.2.2.2.1 (hC.2.2.2.2.1 _ (List.mem_cons_of_mem _ mw_589)) dX5_nextRecord_81 ?_
          refine rl_mminl (x := y3) (y := 250) hC mw_590 hl.1 (by simp only [rl_rm]; omega) (by simp only [rl_rm, List.map_cons, List.map_nil, List.sum_cons, List.sum_nil, Value.category]; omega) (by simp only [rl_rm]; omega) (by simp only [rl_rm]; omega) dX5_nextRecord_84 ?_
          obtain ⟨N, eN⟩ : ∃ N : Int64, N = (if (250 : Int64) < y3 then (250 : Int64) else y3) := ⟨_, rfl⟩
          refine rl_topl eN.symm ?_
          have hN : N ≤ 250 := by rw [eN]; exact rg_minl y3
          clear eN
          refine lv_lstore (lv' := [(6, .long (N)), (5, .null), (4, .ref (x + 16 + 3 * j)), (2, .long (y1)), (0, .ref (r)), (1, .int (nI (0)))]) hx hb dX5_nextRecord_87 hl (by decide) rfl (fun ls hl => ?_)
          refine lv_iconst (v := (nI (0))) hx hb dX5_nextRecord_89 (by decide) ?_
          refine lv_istore (lv' := [(8, .int (nI (0))), (6, .long (N)), (5, .null), (4, .ref (x + 16 + 3 * j)), (2, .long (y1)), (0, .ref (r)), (1, .int (nI (0)))]) hx hb dX5_nextRecord_90 hl (by decide) rfl (fun ls hl => ?_)
          replace hl : lv_has ls 9 [(0, .ref (r)), (5, .null), (6, .long (N)), (8, .int (nI (0)))] := lv_sub hl [5, 2, 1, 0] rfl
          have hinv : ∃ (f4 : rl_M) (Th4 : Nat → Prop) (z4 nx4 op4 : Nat) (wh4 : Int32) (i : Nat), rl_W D A f4 z4 s.heap H locs ∧ cRD t f4 x T Th4 r nx4 op4 wh4 ∧ cRJ t f0 Th nx (op + 1) wh f4 Th4 nx4 op4 wh4 ∧ cDO t f4 x T Th4 (none) ∧ nx + 1 ≤ nx4 ∧ z ≤ z4 ∧ z4 ≤ z + 3 * (nx4 - nx) ∧ i ≤ 250 ∧ lv_has ls 9 [(0, .ref (r)), (5, .null), (6, .long (N)), (8, .int (nI (i)))] := ⟨f3, _, z, nx3, op + 1, wh3, 0, hW, hS3, hJ3, hDO, by omega, by omega, by omega, by omega, hl⟩
          refine W.widen (show _ ≤ 3 by omega) (show _ ≤ 13 by omega) ?_
          clear hW hl hS3 hJ3 hDO
          obtain ⟨f4, Th4, z4, nx4, op4, wh4, i, hW, hS4, hJ4, hDO, hn4, hz4, hzz4, hi, hl⟩ := hinv
          refine W.widen (show _ ≤ 3 * (nx4 - nx) by omega) (show _ ≤ 13 * (nx4 - nx) by omega) ?_
          obtain ⟨n9, hn9⟩ : ∃ n9, 250 - i < n9 := ⟨_, Nat.lt_succ_self _⟩
          induction n9 generalizing f4 Th4 z4 nx4 op4 wh4 i H locs ls with
          | zero => exact absurd hn9 (Nat.not_lt_zero _)
          | succ n9 ih =>
            have hnb4 : nx4 ≤ 250 := hS4.2.2.1
            obtain ⟨hI4, hrx4, hnl4, hop4, v4, la4, md4, hrd4⟩ := id hS4
            refine lv_iload hx hb dX5_nextRecord_92 (lv_at hl 3 rfl) ?_
            refine lv_i2l hx hb dX5_nextRecord_94 rfl ?_
            refine lv_lload hx hb dX5_nextRecord_95 (lv_at hl 2 rfl) ?_
            refine W.lcmp hx hb dX5_nextRecord_97 ?_
            refine lv_if_ge (tgt := 120) hx hb dX5_nextRecord_98 (by decide) (fun c8 => ?_) (fun c8 => ?_)
            · refine lv_aload_n hx hb dX5_nextRecord_120 rfl (lv_at hl 0 rfl) ?_
              refine lv_aloadN hx hb dX5_nextRecord_121 (lv_at hl 1 rfl) ?_
              refine rl_callqQ (rl_runV (b := r) (As := [.null]) (rest := []) hC hW (cC_finished l D t A _ z4 x T Th4 r nx4 op4 wh4 hS4 hTP hTK (none) hDO (fun q => by have := (hJ4.2.2.2 q).1; omega)) cs_X5_75 im_X5_finished sl_X5_finished hrd4 rfl ⟨by simp only [rl_rm]; omega, by simp only [rl_rm]; omega⟩ rfl hl.1 rfl (Nat.le_of_ble_eq_true rfl) dX5_nextRecord_123 ⟨by simp only [rl_rm]; omega, by simp only [rl_rm]; omega⟩) hW (fun r5 f5 H locs hp hW => ?_)
              obtain ⟨op5, wh5, hS5, hon5, hw5, hq5⟩ := hp
              exact rl_aret (v := r5) hC hW hr hlk (by simp only [rl_rm]; omega) (by simp only [rl_rm]; omega) ⟨_, rfl, ⟨Th4, nx4, op5, wh5, hS5, ⟨hJ4.1, (hsh0.tr hJ4.2.1).tr (hon5.sh hrd4), hJ4.2.2.1, fun q => ⟨by have h1 := hw5 q; have h2 := (hJ4.2.2.2 h1.1).1; omega, hwh⟩⟩, hzz4, by omega, hq5⟩⟩ dX5_nextRecord_126
            · have hlt : i < 250 := rg_i250 hN hi c8
              refine lv_aload_n hx hb dX5_nextRecord_101 rfl (lv_at hl 0 rfl) ?_
              refine rl_get (v := .int (wh4)) hC hW fl_X5_23 hrd4 rfl dX5_nextRecord_102 ?_
              refine lv_if_ne (tgt := 120) hx hb dX5_nextRecord_105 (by decide) (fun c9 => ?_) (fun c9 => ?_)
              · refine lv_aload_n hx hb dX5_nextRecord_120 rfl (lv_at hl 0 rfl) ?_
                refine lv_aloadN hx hb dX5_nextRecord_121 (lv_at hl 1 rfl) ?_
                refine rl_callqQ (rl_runV (b := r) (As := [.null]) (rest := []) hC hW (cC_finished l D t A _ z4 x T Th4 r nx4 op4 wh4 hS4 hTP hTK (none) hDO (fun q => by have := (hJ4.2.2.2 q).1; omega)) cs_X5_75 im_X5_finished sl_X5_finished hrd4 rfl ⟨by simp only [rl_rm]; omega, by simp only [rl_rm]; omega⟩ rfl hl.1 rfl (Nat.le_of_ble_eq_true rfl) dX5_nextRecord_123 ⟨by simp only [rl_rm]; omega, by simp only [rl_rm]; omega⟩) hW (fun r5 f5 H locs hp hW => ?_)
                obtain ⟨op5, wh5, hS5, hon5, hw5, hq5⟩ := hp
                exact rl_aret (v := r5) hC hW hr hlk (by simp only [rl_rm]; omega) (by simp only [rl_rm]; omega) ⟨_, rfl, ⟨Th4, nx4, op5, wh5, hS5, ⟨hJ4.1, (hsh0.tr hJ4.2.1).tr (hon5.sh hrd4), hJ4.2.2.1, fun q => ⟨by have h1 := hw5 q; have h2 := (hJ4.2.2.2 h1.1).1; omega, hwh⟩⟩, hzz4, by omega, hq5⟩⟩ dX5_nextRecord_126
              · have hop4e : op4 = op + 1 := (hJ4.2.2.2 c9).1
                subst hop4e
                refine lv_aload_n hx hb dX5_nextRecord_108 rfl (lv_at hl 0 rfl) ?_
                refine lv_aloadN hx hb dX5_nextRecord_109 (lv_at hl 1 rfl) ?_
                refine rl_callv (rl_runV (b := r) (As := [.null]) (rest := []) hC hW (hNP hop6 _ z4 Th4 nx4 wh4 (none) hS4 hDO) cs_X5_71 im_X5_nextPart sl_X5_nextPart hrd4 rfl ⟨by simp only [rl_rm]; omega, by simp only [rl_rm]; omega⟩ rfl hl.1 rfl (Nat.le_of_ble_eq_true rfl) dX5_nextRecord_111 ⟨by simp only [rl_rm]; omega, by simp only [rl_rm]; omega⟩) hW (fun f5 z1 d1 H locs hp hW hz1 => ?_)
                obtain ⟨Th5, nx5, op5, wh5, hS5, hJ5, hz5, hd5, hq5⟩ := hp
                have hnb5 : nx5 ≤ 250 := hS5.2.2.1
                have hnm5 := hJ5.2.2.1
                replace hDO := hDO.j hJ5
                replace hJ5 := hJ4.tr hJ5
                refine lv_iinc (v := (nI ((i) + 1))) (lv' := [(8, .int (nI ((i) + 1))), (0, .ref (r)), (5, .null), (6, .long (N))]) hx hb dX5_nextRecord_114 hl (k := 3) rfl (nI_1 _) (by decide) rfl (fun ls hl => ?_)
                refine lv_goto (tgt := 92) hx hb dX5_nextRecord_117 (by decide) ?_
                replace hl : lv_has ls 9 [(0, .ref (r)), (5, .null), (6, .long (N)), (8, .int (nI ((i) + 1)))] := lv_sub hl [1, 2, 3, 0] rfl
                refine W.widen (show _ ≤ 3 * (nx5 - nx) by omega) (show _ ≤ 13 * (nx5 - nx) by omega) ?_
                exact ih H locs ls f5 Th5 z1 nx5 op5 wh5 (i + 1) hW hS5 hJ5 hDO (by omega) (by omega) (by omega) (by omega) hl (by omega)
        · exact absurd rfl c6
      · refine lv_astoreN (lv' := [(4, .null), (2, .long (y1)), (0, .ref (r)), (1, .int (nI (0)))]) hx hb dX5_nextRecord_44 hl (by decide) rfl (fun ls hl => ?_)
        refine lv_aloadN hx hb dX5_nextRecord_46 (lv_at hl 0 rfl) ?_
        refine lv_ifnonnullN hx hb dX5_nextRecord_48 ?_
        refine lv_aload_n hx hb dX5_nextRecord_51 rfl (lv_at hl 2 rfl) ?_
        refine lv_iconst (v := (nI (2))) hx hb dX5_nextRecord_52 (by decide) ?_
        refine rl_callvQ (rl_runV (b := r) (As := [.int (nI (2))]) (rest := []) hC hW (cC_fail l D t A _ z x T Th r _ (op + 1) _ hS1 (nI 2) (by decide)) cs_X5_44 im_X5_fail sl_X5_fail hrd1 rfl ⟨by simp only [rl_rm]; omega, by simp only [rl_rm]; omega⟩ rfl hl.1 rfl (Nat.le_of_ble_eq_true rfl) dX5_nextRecord_53 ⟨by simp only [rl_rm]; omega, by simp only [rl_rm]; omega⟩) hW (fun f2 H locs hp hW => ?_)
        obtain ⟨wh2, hne2, hS2, hon2⟩ := hp
        have hJ2 := cRJ_fail (t := t) (op1 := op + 1) (Th := Th) (op := op + 1) (nx := nx1) (wh := wh1) hon2 hrd1 hne2
        obtain ⟨hI2, hrx2, hnl2, hop2, v2, la2, md2, hrd2⟩ := id hS2
        have hJ12 := hJ1.tr hJ2
        have hnx2_ := hJ12.2.2.1
        refine lv_null hx hb dX5_nextRecord_56 ?_
        exact rl_aret (v := none) hC hW hr hlk (by simp only [rl_rm]; omega) (by simp only [rl_rm]; omega) ⟨_, rfl, ⟨Th, nx1, op + 1, wh2, hS2, ⟨fun q h => h, hsh0.tr hJ12.2.1, hJ12.2.2.1, fun q => absurd q hne2⟩, by omega, by omega, (fun q e => by cases e)⟩⟩ dX5_nextRecord_57
    · refine lv_aload_n hx hb dX5_nextRecord_17 rfl (lv_at hl 0 rfl) ?_
      refine lv_dup hx hb dX5_nextRecord_18 rfl ?_
      refine rl_get (v := .int (nI (op))) hC hW fl_X5_41 hrd rfl dX5_nextRecord_19 ?_
      refine lv_iconst (v := (nI (1))) hx hb dX5_nextRecord_22 (by decide) ?_
      refine lv_iadd hx hb dX5_nextRecord_23 ?_
      refine rl_topn (nI_add _ _) ?_
      have hrd9 := hrd
      refine rl_put (v := .int (nI ((op) + (1)))) hC hW fp_X5_41 hrd (Nat.le_of_ble_eq_true rfl) rfl rfl dX5_nextRecord_24 (fun H locs hW => ?_)
      replace hW : rl_W D A (rl_up _ r (.inr (5, [.ref (x + 1), .ref (x + 55), .int (v), .int (nI (nx)), .int (la), .int (nI ((op) + (1))), .int (wh), .int (md)]))) z s.heap H locs := hW
      replace hI := hI.rdr (fs2 := [.ref (x + 1), .ref (x + 55), .int (v), .int (nI (nx)), .int (la), .int (nI ((op) + (1))), .int (wh), .int (md)]) hrx hrd
      replace hon := hon.tr (rl_on.up (r := r) (e := .inr (5, [.ref (x + 1), .ref (x + 55), .int (v), .int (nI (nx)), .int (la), .int (nI ((op) + (1))), .int (wh), .int (md)])))
      replace hrd := rl_ups hrd (.inr (5, [.ref (x + 1), .ref (x + 55), .int (v), .int (nI (nx)), .int (la), .int (nI ((op) + (1))), .int (wh), .int (md)]))
      obtain ⟨f0, ef0⟩ : ∃ g, g = rl_up f r (.inr (5, [.ref (x + 1), .ref (x + 55), .int (v), .int (nI (nx)), .int (la), .int (nI ((op) + (1))), .int (wh), .int (md)])) := ⟨_, rfl⟩
      rw [← ef0] at hW hI hrd hon
      have hS0 : cRD t f0 x T Th r nx (op + 1) wh := ⟨hI, hrx, hnl, by omega, _, _, _, hrd⟩
      have hsh0 : rl_sh t f f0 := hon.sh hrd9
      clear ef0
      refine lv_aload_n hx hb dX5_nextRecord_27 rfl (lv_at hl 0 rfl) ?_
      refine rl_calllQ (rl_runV (b := r) (As := []) (rest := []) hC hW (cC_nextLeaf l D t A _ z x T Th r _ (op + 1) _ hS0) cs_X5_48 im_X5_nextLeaf sl_X5_nextLeaf hrd rfl ⟨by simp only [rl_rm]; omega, by simp only [rl_rm]; omega⟩ rfl hl.1 rfl (Nat.le_of_ble_eq_true rfl) dX5_nextRecord_28 ⟨by simp only [rl_rm]; omega, by simp only [rl_rm]; omega⟩) hW (fun y1 f1 H locs hp hW => ?_)
      obtain ⟨nx1, wh1, hS1, hon1, hnx1, hw1, hy1⟩ := hp
      have hJ1 := cRJ_leaf (t := t) (Th := Th) (op := op + 1) hon1 hrd hnx1 hw1
      obtain ⟨hI1, hrx1, hnl1, hop1, v1, la1, md1, hrd1⟩ := id hS1
      obtain ⟨hk0, -, -⟩ := id hI1.1
      refine lv_lstore_n (lv' := [(2, .long (y1)), (0, .ref (r)), (1, .int (nI (1)))]) hx hb dX5_nextRecord_31 rfl hl (by decide) rfl (fun ls hl => ?_)
      refine lv_aload_n hx hb dX5_nextRecord_32 rfl (lv_at hl 1 rfl) ?_
      refine rl_get (v := .ref (x + 1)) hC hW fl_X5_9 hrd1 rfl dX5_nextRecord_33 ?_
      refine lv_lload_n hx hb dX5_nextRecord_36 rfl (lv_at hl 0 rfl) ?_
      refine lv_aload_n hx hb dX5_nextRecord_37 rfl (lv_at hl 1 rfl) ?_
      refine rl_get (v := .int (v1)) hC hW fl_X5_19 hrd1 rfl dX5_nextRecord_38 ?_
      refine rl_callqQ (rl_runV (b := x + 1) (As := [.long (y1), .int (v1)]) (rest := []) hC hW (cC_recordVersion l D t A _ z x T Th hI1 _ _) cs_X5_52 im_X3_recordVersion sl_X3_recordVersion hk0 rfl ⟨by simp only [rl_rm]; omega, by simp only [rl_rm]; omega⟩ rfl hl.1 rfl (Nat.le_of_ble_eq_true rfl) dX5_nextRecord_41 ⟨by simp only [rl_rm]; omega, by simp only [rl_rm]; omega⟩) hW (fun r1 f1 H locs hp hW => ?_)
      obtain ⟨rfl, hp⟩ := hp
      rcases hp with ⟨k, v9, hk, hv, e1, e2, rfl⟩ | ⟨rfl, hp⟩
      · have hw0 : wh1 = 0 := Decidable.byContradiction fun q => rg_l2 hk ((e1.symm.trans (hy1 q)))
        obtain ⟨hwh, hnx1e⟩ := hw1 hw0
        subst hnx1e
        obtain ⟨j, hjj⟩ : ∃ j, j = 3 * k + v9 := ⟨_, rfl⟩
        rw [← hjj]
        have hj : j < 12 := by omega
        refine lv_astore (lv' := [(4, .ref (x + 16 + 3 * j)), (2, .long (y1)), (0, .ref (r)), (1, .int (nI (1)))]) hx hb dX5_nextRecord_44 hl (by decide) rfl (fun ls hl => ?_)
        refine lv_aload hx hb dX5_nextRecord_46 (lv_at hl 0 rfl) ?_
        refine lv_ifnonnull (tgt := 58) hx hb dX5_nextRecord_48 (by decide) ?_
        refine lv_iload_n hx hb dX5_nextRecord_58 rfl (lv_at hl 3 rfl) ?_
        refine lv_if_eq (tgt := 74) hx hb dX5_nextRecord_59 (by decide) (fun c6 => ?_) (fun c6 => ?_)
        · exact absurd c6 (by decide)
        · have hfz := hW.fresh
          refine rl_new hC hW cn_X5_58 (by simp only [rl_rm]; omega) (by simp only [rl_rm]; omega) dX5_nextRecord_62 (fun H hW => ?_)
          refine lv_dup hx hb dX5_nextRecord_65 rfl ?_
          refine lv_aload hx hb dX5_nextRecord_66 (lv_at hl 0 rfl) ?_
          refine rl_callv (rl_runI (b := z) (As := [.ref (x + 16 + 3 * j)]) (rest := [.ref (z)]) hC hW (cC_Rec_init l D t A _ (z + 1) x T Th (hI1.le (rl_le.fresh hfz)) z j hj (rl_up_s _ _ _)) cs_X5_60 im_X6_init rfl ⟨by simp only [rl_rm]; omega, by simp only [rl_rm]; omega⟩ rfl hl.1 rfl (Nat.le_of_ble_eq_true rfl) dX5_nextRecord_68 ⟨by simp only [rl_rm]; omega, by simp only [rl_rm]; omega⟩) hW (fun f2 z1 d1 H locs hp hW hz1 => ?_)
          obtain ⟨hD1, hD2, hD3, hD4, rfl, hd1⟩ := hp
          have hle2 : rl_le f1 f2 := rl_le.sub hfz (fun q e hq hqz => hD4 q e (rl_le.fresh hfz q e hq) hqz)
          have hD : cDR t f2 x T z j (z + 1) (z + 1 + 1) := ⟨hj, by omega, by omega, hD1, ⟨_, hD2⟩, ⟨_, hD3⟩⟩
          have hI2 := (hI1.le hle2).thing (a := z) ⟨hzx, Or.inr (Or.inr ⟨j, _, _, _, _, _, hj, hD.2.1, hD.2.2.1, Nat.le_refl _, hD1, hD2, hD3, fun i hi q e => by cases e⟩)⟩
          have hS2 : cRD t f2 x T _ r (nx + 1) (op + 1) wh1 := ⟨hI2, hrx1, hnl1, hop1, v1, la1, md1, hle2 _ _ hrd1⟩
          have hJ2 := cRJ_thing (Th1 := fun q => Th q ∨ q = z) (hJ1.tr (⟨fun _ h => h, hle2.sh, Nat.le_refl _, fun q => ⟨rfl, q⟩⟩ : cRJ t f1 Th (nx + 1) (op + 1) wh1 f2 Th (nx + 1) (op + 1) wh1)) (fun q h => Or.inl h)
          have hDO : cDO t f2 x T (fun q => Th q ∨ q = z) (some z) := (fun a e => by cases e; exact ⟨Or.inr rfl, _, _, _, hD⟩)
          clear hS1 hJ1
          refine lv_goto (tgt := 75) hx hb dX5_nextRecord_71 (by decide) ?_
          refine lv_astore (lv' := [(5, .ref (z)), (4, .ref (x + 16 + 3 * j)), (2, .long (y1)), (0, .ref (r)), (1, .int (nI (1)))]) hx hb dX5_nextRecord_75 hl (by decide) rfl (fun ls hl => ?_)
          refine lv_aload_n hx hb dX5_nextRecord_77 rfl (lv_at hl 3 rfl) ?_
          refine rl_calllQ (rl_runV (b := r) (As := []) (rest := []) hC hW (cC_nextLeaf l D t A _ (z + 1 + 2) x T (fun q => Th q ∨ q = z) r _ (op + 1) _ hS2) cs_X5_48 im_X5_nextLeaf sl_X5_nextLeaf (hle2 _ _ hrd1) rfl ⟨by simp only [rl_rm]; omega, by simp only [rl_rm]; omega⟩ rfl hl.1 rfl (Nat.le_of_ble_eq_true rfl) dX5_nextRecord_78 ⟨by simp only [rl_rm]; omega, by simp only [rl_rm]; omega⟩) hW (fun y3 f3 H locs hp hW => ?_)
          obtain ⟨nx3, wh3, hS3, hon3, hnx3, hw3, hy3⟩ := hp
          have hJ3 := cRJ_leaf (t := t) (Th := (fun q => Th q ∨ q = z)) (op := op + 1) hon3 (hle2 _ _ hrd1) hnx3 hw3
          replace hDO := hDO.j hJ3
          replace hJ3 := hJ2.tr hJ3
          have hnb3 : nx3 ≤ 250 := hS3.2.2.1
          refine lv_ldc2 (v := 250) hx hb hC.2.2.2.1 (hC.2.2.2.2.1 _ (List.mem_cons_of_mem _ mw_589)) dX5_nextRecord_81 ?_
          refine rl_mminl (x := y3) (y := 250) hC mw_590 hl.1 (by simp only [rl_rm]; omega) (by simp only [rl_rm, List.map_cons, List.map_nil, List.sum_cons, List.sum_nil, Value.category]; omega) (by simp only [rl_rm]; omega) (by simp only [rl_rm]; omega) dX5_nextRecord_84 ?_
          obtain ⟨N, eN⟩ : ∃ N : Int64, N = (if (250 : Int64) < y3 then (250 : Int64) else y3) := ⟨_, rfl⟩
          refine rl_topl eN.symm ?_
          have hN : N ≤ 250 := by rw [eN]; exact rg_minl y3
          clear eN
          refine lv_lstore (lv' := [(6, .long (N)), (5, .ref (z)), (4, .ref (x + 16 + 3 * j)), (2, .long (y1)), (0, .ref (r)), (1, .int (nI (1)))]) hx hb dX5_nextRecord_87 hl (by decide) rfl (fun ls hl => ?_)
          refine lv_iconst (v := (nI (0))) hx hb dX5_nextRecord_89 (by decide) ?_
          refine lv_istore (lv' := [(8, .int (nI (0))), (6, .long (N)), (5, .ref (z)), (4, .ref (x + 16 + 3 * j)), (2, .long (y1)), (0, .ref (r)), (1, .int (nI (1)))]) hx hb dX5_nextRecord_90 hl (by decide) rfl (fun ls hl => ?_)
          replace hl : lv_has ls 9 [(0, .ref (r)), (5, .ref (z)), (6, .long (N)), (8, .int (nI (0)))] := lv_sub hl [5, 2, 1, 0] rfl
          have hinv : ∃ (f4 : rl_M) (Th4 : Nat → Prop) (z4 nx4 op4 : Nat) (wh4 : Int32) (i : Nat), rl_W D A f4 z4 s.heap H locs ∧ cRD t f4 x T Th4 r nx4 op4 wh4 ∧ cRJ t f0 Th nx (op + 1) wh f4 Th4 nx4 op4 wh4 ∧ cDO t f4 x T Th4 (some z) ∧ nx + 1 ≤ nx4 ∧ z ≤ z4 ∧ z4 ≤ z + 3 * (nx4 - nx) ∧ i ≤ 250 ∧ lv_has ls 9 [(0, .ref (r)), (5, .ref (z)), (6, .long (N)), (8, .int (nI (i)))] := ⟨f3, _, (z + 1 + 2), nx3, op + 1, wh3, 0, hW, hS3, hJ3, hDO, by omega, by omega, by omega, by omega, hl⟩
          refine W.widen (show _ ≤ 3 by omega) (show _ ≤ 13 by omega) ?_
          clear hW hl hS3 hJ3 hDO
          obtain ⟨f4, Th4, z4, nx4, op4, wh4, i, hW, hS4, hJ4, hDO, hn4, hz4, hzz4, hi, hl⟩ := hinv
          refine W.widen (show _ ≤ 3 * (nx4 - nx) by omega) (show _ ≤ 13 * (nx4 - nx) by omega) ?_
          obtain ⟨n9, hn9⟩ : ∃ n9, 250 - i < n9 := ⟨_, Nat.lt_succ_self _⟩
          induction n9 generalizing f4 Th4 z4 nx4 op4 wh4 i H locs ls with
          | zero => exact absurd hn9 (Nat.not_lt_zero _)
          | succ n9 ih =>
            have hnb4 : nx4 ≤ 250 := hS4.2.2.1
            obtain ⟨hI4, hrx4, hnl4, hop4, v4, la4, md4, hrd4⟩ := id hS4
            refine lv_iload hx hb dX5_nextRecord_92 (lv_at hl 3 rfl) ?_
            refine lv_i2l hx hb dX5_nextRecord_94 rfl ?_
            refine lv_lload hx hb dX5_nextRecord_95 (lv_at hl 2 rfl) ?_
            refine W.lcmp hx hb dX5_nextRecord_97 ?_
            refine lv_if_ge (tgt := 120) hx hb dX5_nextRecord_98 (by decide) (fun c8 => ?_) (fun c8 => ?_)
            · refine lv_aload_n hx hb dX5_nextRecord_120 rfl (lv_at hl 0 rfl) ?_
              refine lv_aload hx hb dX5_nextRecord_121 (lv_at hl 1 rfl) ?_
              refine rl_callqQ (rl_runV (b := r) (As := [.ref (z)]) (rest := []) hC hW (cC_finished l D t A _ z4 x T Th4 r nx4 op4 wh4 hS4 hTP hTK (some z) hDO (fun q => by have := (hJ4.2.2.2 q).1; omega)) cs_X5_75 im_X5_finished sl_X5_finished hrd4 rfl ⟨by simp only [rl_rm]; omega, by simp only [rl_rm]; omega⟩ rfl hl.1 rfl (Nat.le_of_ble_eq_true rfl) dX5_nextRecord_123 ⟨by simp only [rl_rm]; omega, by simp only [rl_rm]; omega⟩) hW (fun r5 f5 H locs hp hW => ?_)
              obtain ⟨op5, wh5, hS5, hon5, hw5, hq5⟩ := hp
              exact rl_aret (v := r5) hC hW hr hlk (by simp only [rl_rm]; omega) (by simp only [rl_rm]; omega) ⟨_, rfl, ⟨Th4, nx4, op5, wh5, hS5, ⟨hJ4.1, (hsh0.tr hJ4.2.1).tr (hon5.sh hrd4), hJ4.2.2.1, fun q => ⟨by have h1 := hw5 q; have h2 := (hJ4.2.2.2 h1.1).1; omega, hwh⟩⟩, hzz4, by omega, hq5⟩⟩ dX5_nextRecord_126
            · have hlt : i < 250 := rg_i250 hN hi c8
              refine lv_aload_n hx hb dX5_nextRecord_101 rfl (lv_at hl 0 rfl) ?_
              refine rl_get (v := .int (wh4)) hC hW fl_X5_23 hrd4 rfl dX5_nextRecord_102 ?_
              refine lv_if_ne (tgt := 120) hx hb dX5_nextRecord_105 (by decide) (fun c9 => ?_) (fun c9 => ?_)
              · refine lv_aload_n hx hb dX5_nextRecord_120 rfl (lv_at hl 0 rfl) ?_
                refine lv_aload hx hb dX5_nextRecord_121 (lv_at hl 1 rfl) ?_
                refine rl_callqQ (rl_runV (b := r) (As := [.ref (z)]) (rest := []) hC hW (cC_finished l D t A _ z4 x T Th4 r nx4 op4 wh4 hS4 hTP hTK (some z) hDO (fun q => by have := (hJ4.2.2.2 q).1; omega)) cs_X5_75 im_X5_finished sl_X5_finished hrd4 rfl ⟨by simp only [rl_rm]; omega, by simp only [rl_rm]; omega⟩ rfl hl.1 rfl (Nat.le_of_ble_eq_true rfl) dX5_nextRecord_123 ⟨by simp only [rl_rm]; omega, by simp only [rl_rm]; omega⟩) hW (fun r5 f5 H locs hp hW => ?_)
                obtain ⟨op5, wh5, hS5, hon5, hw5, hq5⟩ := hp
                exact rl_aret (v := r5) hC hW hr hlk (by simp only [rl_rm]; omega) (by simp only [rl_rm]; omega) ⟨_, rfl, ⟨Th4, nx4, op5, wh5, hS5, ⟨hJ4.1, (hsh0.tr hJ4.2.1).tr (hon5.sh hrd4), hJ4.2.2.1, fun q => ⟨by have h1 := hw5 q; have h2 := (hJ4.2.2.2 h1.1).1; omega, hwh⟩⟩, hzz4, by omega, hq5⟩⟩ dX5_nextRecord_126
              · have hop4e : op4 = op + 1 := (hJ4.2.2.2 c9).1
                subst hop4e
                refine lv_aload_n hx hb dX5_nextRecord_108 rfl (lv_at hl 0 rfl) ?_
                refine lv_aload hx hb dX5_nextRecord_109 (lv_at hl 1 rfl) ?_
                refine rl_callv (rl_runV (b := r) (As := [.ref (z)]) (rest := []) hC hW (hNP hop6 _ z4 Th4 nx4 wh4 (some z) hS4 hDO) cs_X5_71 im_X5_nextPart sl_X5_nextPart hrd4 rfl ⟨by simp only [rl_rm]; omega, by simp only [rl_rm]; omega⟩ rfl hl.1 rfl (Nat.le_of_ble_eq_true rfl) dX5_nextRecord_111 ⟨by simp only [rl_rm]; omega, by simp only [rl_rm]; omega⟩) hW (fun f5 z1 d1 H locs hp hW hz1 => ?_)
                obtain ⟨Th5, nx5, op5, wh5, hS5, hJ5, hz5, hd5, hq5⟩ := hp
                have hnb5 : nx5 ≤ 250 := hS5.2.2.1
                have hnm5 := hJ5.2.2.1
                replace hDO := hDO.j hJ5
                replace hJ5 := hJ4.tr hJ5
                refine lv_iinc (v := (nI ((i) + 1))) (lv' := [(8, .int (nI ((i) + 1))), (0, .ref (r)), (5, .ref (z)), (6, .long (N))]) hx hb dX5_nextRecord_114 hl (k := 3) rfl (nI_1 _) (by decide) rfl (fun ls hl => ?_)
                refine lv_goto (tgt := 92) hx hb dX5_nextRecord_117 (by decide) ?_
                replace hl : lv_has ls 9 [(0, .ref (r)), (5, .ref (z)), (6, .long (N)), (8, .int (nI ((i) + 1)))] := lv_sub hl [1, 2, 3, 0] rfl
                refine W.widen (show _ ≤ 3 * (nx5 - nx) by omega) (show _ ≤ 13 * (nx5 - nx) by omega) ?_
                exact ih H locs ls f5 Th5 z1 nx5 op5 wh5 (i + 1) hW hS5 hJ5 hDO (by omega) (by omega) (by omega) (by omega) hl (by omega)
      · refine lv_astoreN (lv' := [(4, .null), (2, .long (y1)), (0, .ref (r)), (1, .int (nI (1)))]) hx hb dX5_nextRecord_44 hl (by decide) rfl (fun ls hl => ?_)
        refine lv_aloadN hx hb dX5_nextRecord_46 (lv_at hl 0 rfl) ?_
        refine lv_ifnonnullN hx hb dX5_nextRecord_48 ?_
        refine lv_aload_n hx hb dX5_nextRecord_51 rfl (lv_at hl 2 rfl) ?_
        refine lv_iconst (v := (nI (2))) hx hb dX5_nextRecord_52 (by decide) ?_
        refine rl_callvQ (rl_runV (b := r) (As := [.int (nI (2))]) (rest := []) hC hW (cC_fail l D t A _ z x T Th r _ (op + 1) _ hS1 (nI 2) (by decide)) cs_X5_44 im_X5_fail sl_X5_fail hrd1 rfl ⟨by simp only [rl_rm]; omega, by simp only [rl_rm]; omega⟩ rfl hl.1 rfl (Nat.le_of_ble_eq_true rfl) dX5_nextRecord_53 ⟨by simp only [rl_rm]; omega, by simp only [rl_rm]; omega⟩) hW (fun f2 H locs hp hW => ?_)
        obtain ⟨wh2, hne2, hS2, hon2⟩ := hp
        have hJ2 := cRJ_fail (t := t) (op1 := op + 1) (Th := Th) (op := op + 1) (nx := nx1) (wh := wh1) hon2 hrd1 hne2
        obtain ⟨hI2, hrx2, hnl2, hop2, v2, la2, md2, hrd2⟩ := id hS2
        have hJ12 := hJ1.tr hJ2
        have hnx2_ := hJ12.2.2.1
        refine lv_null hx hb dX5_nextRecord_56 ?_
        exact rl_aret (v := none) hC hW hr hlk (by simp only [rl_rm]; omega) (by simp only [rl_rm]; omega) ⟨_, rfl, ⟨Th, nx1, op + 1, wh2, hS2, ⟨fun q h => h, hsh0.tr hJ12.2.1, hJ12.2.2.1, fun q => absurd q hne2⟩, by omega, by omega, (fun q e => by cases e)⟩⟩ dX5_nextRecord_57
  · refine lv_aload_n hx hb dX5_nextRecord_9 rfl (lv_at hl 0 rfl) ?_
    refine lv_bipush (v := (nI (8))) hx hb dX5_nextRecord_10 (by decide) ?_
    refine rl_callvQ (rl_runV (b := r) (As := [.int (nI (8))]) (rest := []) hC hW (cC_fail l D t A _ z x T Th r _ (op) _ hS (nI 8) (by decide)) cs_X5_44 im_X5_fail sl_X5_fail hrd rfl ⟨by simp only [rl_rm]; omega, by simp only [rl_rm]; omega⟩ rfl hl.1 rfl (Nat.le_of_ble_eq_true rfl) dX5_nextRecord_12 ⟨by simp only [rl_rm]; omega, by simp only [rl_rm]; omega⟩) hW (fun f2 H locs hp hW => ?_)
    obtain ⟨wh2, hne2, hS2, hon2⟩ := hp
    have hJ2 := cRJ_fail (t := t) (op1 := op) (Th := Th) (op := op) (nx := nx) (wh := wh) hon2 hrd hne2
    obtain ⟨hI2, hrx2, hnl2, hop2, v2, la2, md2, hrd2⟩ := id hS2
    refine lv_null hx hb dX5_nextRecord_15 ?_
    exact rl_aret (v := none) hC hW hr hlk (by simp only [rl_rm]; omega) (by simp only [rl_rm]; omega) ⟨_, rfl, ⟨Th, nx, op, wh2, hS2, hJ2, by omega, by omega, (fun q e => by cases e)⟩⟩ dX5_nextRecord_16

theorem cC_nextRecord (l : Launch) (D : va_G) (t : Nat → ClassId) (A : Nat → Prop) (x : Nat) (T : Nat → Nat → Nat) (hTP : rt_pure T) (hTK : rt_pk T) (r : Nat) : ∀ (d op : Nat), op + d = 6 → cNR l D t A x T r op
  | 0, op, h => fun f z Th nx wh wt hwt hS => cC_nextRecord0 l D t A f z x T Th r nx op wh hS hTP hTK wt hwt (fun q => absurd q (by omega))
  | d + 1, op, h => fun f z Th nx wh wt hwt hS => cC_nextRecord0 l D t A f z x T Th r nx op wh hS hTP hTK wt hwt (fun _ => fun f z Th nx wh dr hS hdr => cC_nextPart l D t A f z x T Th r nx (op + 1) wh hS hTP (cC_nextRecord l D t A x T hTP hTK r d (op + 1) (by omega)) dr hdr)

set_option maxHeartbeats 4000000 in
set_option maxRecDepth 100000 in
theorem cC_Reader_init (l : Launch) (D : va_G) (t : Nat → ClassId) (A : Nat → Prop) (f : rl_M) (z : Nat) (a k1 k2 : Nat) (v : Int32) (h0 : f a = some (.inr (5, [.null, .null, .int 0, .int 0, .int 0, .int 0, .int 0, .int 0]))) : rl_Met l yX5_init (.code yX5_init cX5_init 4 none) (rl_rm 1 0 0) D t A f z [.ref (a), .ref (k1), .ref (k2), .int (v)] (rl_qv z fun f1 => rl_up f a (.inr (5, [.ref k1, .ref k2, .int v, .int 0, .int 0, .int 0, .int 0, .int 0])) = f1) := by
  refine rl_begin (own := RX5) (lv := [(0, .ref (a)), (1, .ref (k1)), (2, .ref (k2)), (3, .int (v))]) (by decide +kernel) rfl (Nat.le_of_ble_eq_true rfl) rfl fun p e s m0 args below meth c ls H locs hC hr hlk hnm hW hl hx hb => ?_
  refine lv_aload_n hx hb dX5_init_0 rfl (lv_at hl 0 rfl) ?_
  refine rl_objInit hC mw_544 mw_22 mw_23 hl.1 dX5_init_1 (Nat.le_of_ble_eq_true rfl) (Nat.le_of_ble_eq_true rfl) ?_
  refine lv_aload_n hx hb dX5_init_4 rfl (lv_at hl 0 rfl) ?_
  refine lv_aload_n hx hb dX5_init_5 rfl (lv_at hl 1 rfl) ?_
  refine rl_putF (v := .ref (k1)) hC hW fp_X5_9 hnm h0 (Nat.le_of_ble_eq_true rfl) rfl rfl dX5_init_6 (fun H locs hW => ?_)
  refine lv_aload_n hx hb dX5_init_9 rfl (lv_at hl 0 rfl) ?_
  refine lv_aload_n hx hb dX5_init_10 rfl (lv_at hl 2 rfl) ?_
  refine rl_putF (v := .ref (k2)) hC hW fp_X5_15 hnm (rl_up_s _ _ _) (Nat.le_of_ble_eq_true rfl) rfl rfl dX5_init_11 (fun H locs hW => ?_)
  rw [rl_up_up2] at hW
  refine lv_aload_n hx hb dX5_init_14 rfl (lv_at hl 0 rfl) ?_
  refine lv_iload_n hx hb dX5_init_15 rfl (lv_at hl 3 rfl) ?_
  refine rl_putF (v := .int (v)) hC hW fp_X5_19 hnm (rl_up_s _ _ _) (Nat.le_of_ble_eq_true rfl) rfl rfl dX5_init_16 (fun H locs hW => ?_)
  rw [rl_up_up2] at hW
  exact rl_vret hC hW hr hlk (Nat.le_refl _) (Nat.le_refl _) ⟨rfl, rfl, rfl, rfl⟩ dX5_init_19

set_option maxHeartbeats 4000000 in
set_option maxRecDepth 100000 in
theorem cC_read (l : Launch) (D : va_G) (t : Nat → ClassId) (A : Nat → Prop) (f : rl_M) (z : Nat) (x : Nat) (T : Nat → Nat → Nat) (Th : Nat → Prop) (hI : CI t f x T Th) (hTP : rt_pure T) (hTK : rt_pk T) (x1 x2 : Int32) : rl_Met l yX11_read (.code yX11_read cX11_read 5 (some FieldType.int)) (rl_rm 28 751 3258) D t A f z [.ref (x), .int (x1), .int (x2)] (rl_pi fun r f1 z1 d1 => (∃ Th', CI t f1 x T Th') ∧ z1 ≤ z + 751 ∧ d1 ≤ 3258) := by
  refine rl_begin (own := RX11) (lv := [(0, .ref (x)), (1, .int (x1)), (2, .int (x2))]) (by decide +kernel) rfl (Nat.le_of_ble_eq_true rfl) rfl fun p e s m0 args below meth c ls H locs hC hr hlk hnm hW hl hx hb => ?_
  have hzx : x + 58 ≤ z := by obtain ⟨-, -, -, -, -, -, ⟨-, -, ⟨g9, e9⟩⟩, -⟩ := id hI; exact hW.lt e9
  obtain ⟨hF0, hEV, hRV, ⟨v5, v6, v7, v8, v9, v10, v11, hx0⟩, ⟨gpl, hpl, hpt⟩, ⟨⟨ggn, hgn⟩, ⟨ggp, hgp, hgq⟩⟩, ⟨⟨sz, fz, htp, hsz⟩, ⟨glv, hlv⟩, ⟨gfr, hfr⟩⟩, hTH⟩ := id hI
  refine lv_iload_n hx hb dX11_read_0 rfl (lv_at hl 1 rfl) ?_
  refine lv_iconst (v := (nI (3))) hx hb dX11_read_1 (by decide) ?_
  refine rl_calliQ (rl_runS (As := [.int (x1), .int (nI (3))]) (rest := []) hC hW (cC_below l D t A _ z _ (3) (by omega)) cs_X11_48 sm_X11_below ⟨(Nat.le_of_ble_eq_true rfl), (Nat.le_of_ble_eq_true rfl)⟩ rfl hl.1 rfl (Nat.le_of_ble_eq_true rfl) dX11_read_2 ⟨by simp only [rl_rm]; omega, by simp only [rl_rm]; omega⟩) hW (fun r f1 H locs hp hW => ?_)
  obtain ⟨rfl, hp⟩ := hp
  rcases hp with ⟨rfl, hp⟩ | ⟨rfl, hp⟩
  · obtain ⟨v0, hv0, rfl⟩ := hp
    refine lv_if_eq (tgt := 17) hx hb dX11_read_5 (by decide) (fun c9 => ?_) (fun c9 => ?_)
    · exact absurd c9 (by decide)
    · refine lv_iload_n hx hb dX11_read_8 rfl (lv_at hl 2 rfl) ?_
      refine lv_bipush (v := (nI (10))) hx hb dX11_read_9 (by decide) ?_
      refine rl_calliQ (rl_runS (As := [.int (x2), .int (nI (10))]) (rest := []) hC hW (cC_below l D t A _ z _ (10) (by omega)) cs_X11_48 sm_X11_below ⟨(Nat.le_of_ble_eq_true rfl), (Nat.le_of_ble_eq_true rfl)⟩ rfl hl.1 rfl (Nat.le_of_ble_eq_true rfl) dX11_read_11 ⟨by simp only [rl_rm]; omega, by simp only [rl_rm]; omega⟩) hW (fun r f1 H locs hp hW => ?_)
      obtain ⟨rfl, hp⟩ := hp
      rcases hp with ⟨rfl, hp⟩ | ⟨rfl, hp⟩
      · obtain ⟨p0, hp0, rfl⟩ := hp
        refine lv_if_ne (tgt := 19) hx hb dX11_read_14 (by decide) (fun c9 => ?_) (fun c9 => ?_)
        · have hfz := hW.fresh
          refine rl_new hC hW cn_X11_174 (by simp only [rl_rm]; omega) (by simp only [rl_rm]; omega) dX11_read_19 (fun H hW => ?_)
          have hx1 := rl_le.fresh (e := .inr (5, [.null, .null, .int 0, .int 0, .int 0, .int 0, .int 0, .int 0])) hfz _ _ hx0
          refine lv_dup hx hb dX11_read_22 rfl ?_
          refine lv_aload_n hx hb dX11_read_23 rfl (lv_at hl 0 rfl) ?_
          refine rl_get (v := .ref (x + 1)) hC hW fl_X11_10 hx1 rfl dX11_read_24 ?_
          refine lv_aload_n hx hb dX11_read_27 rfl (lv_at hl 0 rfl) ?_
          refine rl_get (v := .ref (x + 55)) hC hW fl_X11_33 hx1 rfl dX11_read_28 ?_
          refine lv_iload_n hx hb dX11_read_31 rfl (lv_at hl 1 rfl) ?_
          refine rl_callvQ (rl_runI (b := z) (As := [.ref (x + 1), .ref (x + 55), .int (nI (v0))]) (rest := [.ref (z)]) hC hW (cC_Reader_init l D t A _ (z + 1) z (x + 1) (x + 55) (nI v0) (rl_up_s _ _ _)) cs_X11_176 im_X5_init rfl ⟨by simp only [rl_rm]; omega, by simp only [rl_rm]; omega⟩ rfl hl.1 rfl (Nat.le_of_ble_eq_true rfl) dX11_read_32 ⟨by simp only [rl_rm]; omega, by simp only [rl_rm]; omega⟩) hW (fun f1 H locs hp hW => ?_)
          obtain rfl := hp
          rw [rl_up_up2] at hW
          have hS : cRD t (rl_up f z (.inr (5, [.ref (x + 1), .ref (x + 55), .int (nI v0), .int 0, .int 0, .int 0, .int 0, .int 0]))) x T Th z 0 0 0 := ⟨hI.le (rl_le.fresh hfz), hzx, by decide, by decide, nI v0, 0, 0, rl_up_s _ _ _⟩
          refine lv_astore_n (lv' := [(3, .ref (z)), (0, .ref (x)), (1, .int (nI (v0))), (2, .int (nI (p0)))]) hx hb dX11_read_35 rfl hl (by decide) rfl (fun ls hl => ?_)
          refine lv_aload_n hx hb dX11_read_36 rfl (lv_at hl 0 rfl) ?_
          refine lv_iconst (v := (nI (1))) hx hb dX11_read_37 (by decide) ?_
          refine rl_callq (rl_runV (b := z) (As := [.int (nI (1))]) (rest := []) hC hW (cC_nextRecord l D t A x T hTP hTK z 6 0 rfl _ (z + 1) Th 0 0 1 (by decide) hS) cs_X11_179 im_X5_nextRecord sl_X5_nextRecord (rl_up_s _ _ _) rfl ⟨by simp only [rl_rm]; omega, by simp only [rl_rm]; omega⟩ rfl hl.1 rfl (Nat.le_of_ble_eq_true rfl) dX11_read_38 ⟨by simp only [rl_rm]; omega, by simp only [rl_rm]; omega⟩) hW (fun r2 f2 z1 d1 H locs hp hW hz1 => ?_)
          obtain ⟨Th2, nx2, op2, wh2, hS2, hJ2, hz2, hd2, hq2⟩ := hp
          have hnb2 : nx2 ≤ 250 := hS2.2.2.1
          clear hI
          obtain ⟨hI, hrx2, hnl2, hop2, v2, la2, md2, hrd2⟩ := hS2
          obtain ⟨Th, hTh3⟩ : ∃ Th3 : Nat → Prop, Th3 = Th2 := ⟨_, rfl⟩
          rw [← hTh3] at hI hq2
          obtain ⟨hF0, hEV, hRV, ⟨v5, v6, v7, v8, v9, v10, v11, hx0⟩, ⟨gpl, hpl, hpt⟩, ⟨⟨ggn, hgn⟩, ⟨ggp, hgp, hgq⟩⟩, ⟨⟨sz, fz, htp, hsz⟩, ⟨glv, hlv⟩, ⟨gfr, hfr⟩⟩, hTH⟩ := id hI
          refine rl_astoreq (lv' := [(4, va_rf (r2)), (3, .ref (z)), (0, .ref (x)), (1, .int (nI (v0))), (2, .int (nI (p0)))]) hx hb dX11_read_41 hl (by decide) rfl (fun ls hl => ?_)
          refine lv_aload_n hx hb dX11_read_43 rfl (lv_at hl 2 rfl) ?_
          refine lv_dup hx hb dX11_read_44 rfl ?_
          refine rl_get (v := .int (v9)) hC hW fl_X11_132 hx0 rfl dX11_read_45 ?_
          refine lv_aload_n hx hb dX11_read_48 rfl (lv_at hl 1 rfl) ?_
          refine rl_get (v := .int (md2)) hC hW fl_X11_183 hrd2 rfl dX11_read_49 ?_
          refine lv_iadd hx hb dX11_read_52 ?_
          refine lv_topi (fun x_1 ex_1 => ?_)
          refine rl_put (v := .int (x_1)) hC hW fp_X11_132 hx0 (Nat.le_of_ble_eq_true rfl) rfl rfl dX11_read_53 (fun H locs hW => ?_)
          replace hW : rl_W D A (rl_up _ x (.inr (10, [.ref (x + 1), .ref (x + 52), .ref (x + 53), .ref (x + 54), .ref (x + 55), .int (v5), .int (v6), .int (v7), .int (v8), .int (x_1), .int (v10), .int (v11)]))) z1 s.heap H locs := hW
          replace hI := hI.setx (v5) (v6) (v7) (v8) (x_1) (v10) (v11)
          replace hrd2 := (rl_up_n (a := x) (b := z) (e := .inr (10, [.ref (x + 1), .ref (x + 52), .ref (x + 53), .ref (x + 54), .ref (x + 55), .int (v5), .int (v6), .int (v7), .int (v8), .int (x_1), .int (v10), .int (v11)])) (by omega)).trans hrd2
          obtain ⟨hF0, hEV, hRV, ⟨v5, v6, v7, v8, v9, v10, v11, hx0⟩, ⟨gpl, hpl, hpt⟩, ⟨⟨ggn, hgn⟩, ⟨ggp, hgp, hgq⟩⟩, ⟨⟨sz, fz, htp, hsz⟩, ⟨glv, hlv⟩, ⟨gfr, hfr⟩⟩, hTH⟩ := id hI
          refine lv_aload_n hx hb dX11_read_56 rfl (lv_at hl 1 rfl) ?_
          refine rl_get (v := .int (wh2)) hC hW fl_X11_184 hrd2 rfl dX11_read_57 ?_
          refine lv_if_ne (tgt := 92) hx hb dX11_read_60 (by decide) (fun c5 => ?_) (fun c5 => ?_)
          · refine lv_aload_n hx hb dX11_read_92 rfl (lv_at hl 2 rfl) ?_
            refine lv_dup hx hb dX11_read_93 rfl ?_
            refine rl_get (v := .int (v11)) hC hW fl_X11_190 hx0 rfl dX11_read_94 ?_
            refine lv_iconst (v := (nI (1))) hx hb dX11_read_97 (by decide) ?_
            refine lv_iadd hx hb dX11_read_98 ?_
            refine lv_topi (fun x_2 ex_2 => ?_)
            refine rl_put (v := .int (x_2)) hC hW fp_X11_190 hx0 (Nat.le_of_ble_eq_true rfl) rfl rfl dX11_read_99 (fun H locs hW => ?_)
            replace hW : rl_W D A (rl_up _ x (.inr (10, [.ref (x + 1), .ref (x + 52), .ref (x + 53), .ref (x + 54), .ref (x + 55), .int (v5), .int (v6), .int (v7), .int (v8), .int (v9), .int (v10), .int (x_2)]))) z1 s.heap H locs := hW
            replace hI := hI.setx (v5) (v6) (v7) (v8) (v9) (v10) (x_2)
            replace hrd2 := (rl_up_n (a := x) (b := z) (e := .inr (10, [.ref (x + 1), .ref (x + 52), .ref (x + 53), .ref (x + 54), .ref (x + 55), .int (v5), .int (v6), .int (v7), .int (v8), .int (v9), .int (v10), .int (x_2)])) (by omega)).trans hrd2
            obtain ⟨hF0, hEV, hRV, ⟨v5, v6, v7, v8, v9, v10, v11, hx0⟩, ⟨gpl, hpl, hpt⟩, ⟨⟨ggn, hgn⟩, ⟨ggp, hgp, hgq⟩⟩, ⟨⟨sz, fz, htp, hsz⟩, ⟨glv, hlv⟩, ⟨gfr, hfr⟩⟩, hTH⟩ := id hI
            refine lv_aload_n hx hb dX11_read_102 rfl (lv_at hl 2 rfl) ?_
            refine lv_aload_n hx hb dX11_read_103 rfl (lv_at hl 1 rfl) ?_
            refine rl_get (v := .int (wh2)) hC hW fl_X11_184 hrd2 rfl dX11_read_104 ?_
            refine lv_aload_n hx hb dX11_read_107 rfl (lv_at hl 1 rfl) ?_
            refine rl_get (v := .int (la2)) hC hW fl_X11_193 hrd2 rfl dX11_read_108 ?_
            refine lv_aload_n hx hb dX11_read_111 rfl (lv_at hl 1 rfl) ?_
            refine rl_get (v := .int (nI (op2))) hC hW fl_X11_196 hrd2 rfl dX11_read_112 ?_
            refine rl_callvQ (rl_runV (b := x) (As := [.int (wh2), .int (la2), .int (nI (op2))]) (rest := []) hC hW (cC_rememberCause l D t A _ z1 x T Th hI _ _ _) cs_X11_135 im_X11_rememberCause sl_X11_rememberCause hx0 rfl ⟨by simp only [rl_rm]; omega, by simp only [rl_rm]; omega⟩ rfl hl.1 rfl (Nat.le_of_ble_eq_true rfl) dX11_read_115 ⟨by simp only [rl_rm]; omega, by simp only [rl_rm]; omega⟩) hW (fun f3 H locs hp hW => ?_)
            have hI := hp.1
            replace hrd2 := hp.2 _ _ hrd2 (by omega)
            refine lv_aload_n hx hb dX11_read_118 rfl (lv_at hl 1 rfl) ?_
            refine rl_get (v := .int (wh2)) hC hW fl_X11_184 hrd2 rfl dX11_read_119 ?_
            exact rl_iret hC hW hr hlk (by simp only [rl_rm]; omega) (by simp only [rl_rm]; omega) ⟨_, rfl, ⟨_, hI⟩, by omega, by omega⟩ dX11_read_122
          · refine lv_aload_n hx hb dX11_read_63 rfl (lv_at hl 2 rfl) ?_
            refine lv_dup hx hb dX11_read_64 rfl ?_
            refine rl_get (v := .int (v10)) hC hW fl_X11_187 hx0 rfl dX11_read_65 ?_
            refine lv_iconst (v := (nI (1))) hx hb dX11_read_68 (by decide) ?_
            refine lv_iadd hx hb dX11_read_69 ?_
            refine lv_topi (fun x_3 ex_3 => ?_)
            refine rl_put (v := .int (x_3)) hC hW fp_X11_187 hx0 (Nat.le_of_ble_eq_true rfl) rfl rfl dX11_read_70 (fun H locs hW => ?_)
            replace hW : rl_W D A (rl_up _ x (.inr (10, [.ref (x + 1), .ref (x + 52), .ref (x + 53), .ref (x + 54), .ref (x + 55), .int (v5), .int (v6), .int (v7), .int (v8), .int (v9), .int (x_3), .int (v11)]))) z1 s.heap H locs := hW
            replace hI := hI.setx (v5) (v6) (v7) (v8) (v9) (x_3) (v11)
            replace hrd2 := (rl_up_n (a := x) (b := z) (e := .inr (10, [.ref (x + 1), .ref (x + 52), .ref (x + 53), .ref (x + 54), .ref (x + 55), .int (v5), .int (v6), .int (v7), .int (v8), .int (v9), .int (x_3), .int (v11)])) (by omega)).trans hrd2
            obtain ⟨hF0, hEV, hRV, ⟨v5, v6, v7, v8, v9, v10, v11, hx0⟩, ⟨gpl, hpl, hpt⟩, ⟨⟨ggn, hgn⟩, ⟨ggp, hgp, hgq⟩⟩, ⟨⟨sz, fz, htp, hsz⟩, ⟨glv, hlv⟩, ⟨gfr, hfr⟩⟩, hTH⟩ := id hI
            refine lv_aload_n hx hb dX11_read_73 rfl (lv_at hl 2 rfl) ?_
            refine rl_get (v := .ref (x + 52)) hC hW fl_X11_18 hx0 rfl dX11_read_74 ?_
            refine lv_iload_n hx hb dX11_read_77 rfl (lv_at hl 4 rfl) ?_
            refine rl_aloadq hx hb dX11_read_78 (lv_at hl 0 rfl) ?_
            refine rl_astT (r := r2) (x := x) (T := T) (Th := Th) hC hW hpl (fun y e => hI.th (hq2 y e)) (by omega) (by decide) dX11_read_80 (fun H locs hW => ?_)
            replace hI := hI.setp (p := p0) (r := r2) hpl (fun y e => hq2 y e)
            replace hrd2 := (rl_up_n (a := x + 52) (b := z) (e := .inl (t 3, 10, .inr (.inr (.inr (.inr (va_up gpl p0 r2)))))) (by omega)).trans hrd2
            obtain ⟨hF0, hEV, hRV, ⟨v5, v6, v7, v8, v9, v10, v11, hx0⟩, ⟨gpl, hpl, hpt⟩, ⟨⟨ggn, hgn⟩, ⟨ggp, hgp, hgq⟩⟩, ⟨⟨sz, fz, htp, hsz⟩, ⟨glv, hlv⟩, ⟨gfr, hfr⟩⟩, hTH⟩ := id hI
            refine lv_aload_n hx hb dX11_read_81 rfl (lv_at hl 2 rfl) ?_
            refine lv_iconst (v := (nI (0))) hx hb dX11_read_82 (by decide) ?_
            refine lv_bipush (v := (-3)) hx hb dX11_read_83 (by decide) ?_
            refine lv_iconst (v := (nI (0))) hx hb dX11_read_85 (by decide) ?_
            refine rl_callvQ (rl_runV (b := x) (As := [.int (nI (0)), .int (-3), .int (nI (0))]) (rest := []) hC hW (cC_rememberCause l D t A _ z1 x T Th hI _ _ _) cs_X11_135 im_X11_rememberCause sl_X11_rememberCause hx0 rfl ⟨by simp only [rl_rm]; omega, by simp only [rl_rm]; omega⟩ rfl hl.1 rfl (Nat.le_of_ble_eq_true rfl) dX11_read_86 ⟨by simp only [rl_rm]; omega, by simp only [rl_rm]; omega⟩) hW (fun f3 H locs hp hW => ?_)
            have hI := hp.1
            replace hrd2 := hp.2 _ _ hrd2 (by omega)
            refine lv_goto (tgt := 118) hx hb dX11_read_89 (by decide) ?_
            refine lv_aload_n hx hb dX11_read_118 rfl (lv_at hl 1 rfl) ?_
            refine rl_get (v := .int (wh2)) hC hW fl_X11_184 hrd2 rfl dX11_read_119 ?_
            exact rl_iret hC hW hr hlk (by simp only [rl_rm]; omega) (by simp only [rl_rm]; omega) ⟨_, rfl, ⟨_, hI⟩, by omega, by omega⟩ dX11_read_122
        · exact absurd c9 (by decide)
      · have hq := hp
        refine lv_if_ne (tgt := 19) hx hb dX11_read_14 (by decide) (fun c9 => ?_) (fun c9 => ?_)
        · exact absurd rfl c9
        · refine lv_iconst (v := (-1)) hx hb dX11_read_17 (by decide) ?_
          exact rl_iret hC hW hr hlk (by simp only [rl_rm]; omega) (by simp only [rl_rm]; omega) ⟨_, rfl, ⟨_, hI⟩, by omega, by omega⟩ dX11_read_18
  · have hq := hp
    refine lv_if_eq (tgt := 17) hx hb dX11_read_5 (by decide) (fun c9 => ?_) (fun c9 => ?_)
    · refine lv_iconst (v := (-1)) hx hb dX11_read_17 (by decide) ?_
      exact rl_iret hC hW hr hlk (by simp only [rl_rm]; omega) (by simp only [rl_rm]; omega) ⟨_, rfl, ⟨_, hI⟩, by omega, by omega⟩ dX11_read_18
    · exact absurd rfl c9
