/-- what reading a record, a part, promises, with so many records open -/
def cNR (l : Launch) (D : va_G) (t : Nat → ClassId) (A : Nat → Prop) (x : Nat) (T : Nat → Nat → Nat) (r op : Nat) : Prop := ∀ (f : rl_M) (z : Nat) (Th : Nat → Prop) (nx : Nat) (wh : Int32) (wt : Nat), wt < 2 → cRD t f x T Th r nx op wh → rl_Met l yX5_nextRecord (.code yX5_nextRecord cX5_nextRecord 9 (some (FieldType.object "RecordLeaves$RecordThing"))) (rl_rm (8 + 3 * (6 - op)) (3 * (250 - nx)) (13 * (250 - nx))) D t A f z [.ref (r), .int (nI (wt))] (rl_pq fun r0 f1 z1 d1 => cST t x T r f Th z nx op wh r0 f1 z1 d1)
def cNP (l : Launch) (D : va_G) (t : Nat → ClassId) (A : Nat → Prop) (x : Nat) (T : Nat → Nat → Nat) (r op : Nat) : Prop := ∀ (f : rl_M) (z : Nat) (Th : Nat → Prop) (nx : Nat) (wh : Int32) (dr : Option Nat), cRD t f x T Th r nx op wh → cDO t f x T Th dr → rl_Met l yX5_nextPart (.code yX5_nextPart cX5_nextPart 9 none) (rl_rm (10 + 3 * (6 - op)) (3 * (250 - nx)) (13 * (250 - nx))) D t A f z [.ref (r), va_rf (dr)] (rl_pv fun f1 z1 d1 => cST t x T r f Th z nx op wh none f1 z1 d1)

set_option maxHeartbeats 4000000 in
set_option maxRecDepth 100000 in
theorem cC_nextThing (l : Launch) (D : va_G) (t : Nat → ClassId) (A : Nat → Prop) (f : rl_M) (z : Nat) (x : Nat) (T : Nat → Nat → Nat) (Th : Nat → Prop) (r nx op : Nat) (wh : Int32) (hS : cRD t f x T Th r nx op wh) (hNR : cNR l D t A x T r op) (s0 : Nat) (pr : Option Nat) (hpr : ∀ q, pr = some q → ∃ pn ps po : Int32, f q = some (.inr (4, [.int pn, .int ps, .int po]))) : rl_Met l yX5_nextThing (.code yX5_nextThing cX5_nextThing 3 (some (FieldType.object "RecordLeaves$Thing"))) (rl_rm (9 + 3 * (6 - op)) (3 * (250 - nx)) (13 * (250 - nx))) D t A f z [.ref (r), .int (nI (s0)), va_rf (pr)] (rl_pq fun r0 f1 z1 d1 => cST t x T r f Th z nx op wh r0 f1 z1 d1) := by
  refine rl_begin (own := RX5) (lv := [(0, .ref (r)), (1, .int (nI (s0))), (2, va_rf (pr))]) (by decide +kernel) rfl (by cases pr <;> exact Nat.le_of_ble_eq_true rfl) (by cases pr <;> rfl) fun p e s m0 args below meth c ls H locs hC hr hlk hnm hW hl hx hb => ?_
  obtain ⟨hI, hrx, hnl, hop, v, la, md, hrd⟩ := id hS
  refine lv_iload_n hx hb dX5_nextThing_0 rfl (lv_at hl 1 rfl) ?_
  refine lv_iconst (v := (nI (2))) hx hb dX5_nextThing_1 (by decide) ?_
  refine lv_icmp_ne (tgt := 11) hx hb dX5_nextThing_2 (by decide) (fun c1 => ?_) (fun c1 => ?_)
  · have n2 : s0 ≠ 2 := fun q => c1 (by rw [q])
    refine lv_iload_n hx hb dX5_nextThing_11 rfl (lv_at hl 1 rfl) ?_
    refine lv_iconst (v := (nI (4))) hx hb dX5_nextThing_12 (by decide) ?_
    refine lv_icmp_ne (tgt := 30) hx hb dX5_nextThing_13 (by decide) (fun c2 => ?_) (fun c2 => ?_)
    · refine lv_aload_n hx hb dX5_nextThing_30 rfl (lv_at hl 0 rfl) ?_
      refine rl_calllQ (rl_runV (b := r) (As := []) (rest := []) hC hW (cC_nextLeaf l D t A _ z x T Th r _ (op) _ hS) cs_X5_48 im_X5_nextLeaf sl_X5_nextLeaf hrd rfl ⟨by simp only [rl_rm]; omega, by simp only [rl_rm]; omega⟩ rfl hl.1 rfl (Nat.le_of_ble_eq_true rfl) dX5_nextThing_31 ⟨by simp only [rl_rm]; omega, by simp only [rl_rm]; omega⟩) hW (fun y1 f1 H locs hp hW => ?_)
      obtain ⟨nx1, wh1, hS1, hon1, hnx1, hw1, hy1⟩ := hp
      have hJ1 := cRJ_leaf (t := t) (Th := Th) (op := op) hon1 hrd hnx1 hw1
      obtain ⟨hI1, hrx1, hnl1, hop1, v1, la1, md1, hrd1⟩ := id hS1
      refine lv_lconst (v := 0) hx hb dX5_nextThing_34 (by decide) ?_
      refine W.lcmp hx hb dX5_nextThing_35 ?_
      refine lv_if_ne (tgt := 43) hx hb dX5_nextThing_36 (by decide) (fun c3 => ?_) (fun c3 => ?_)
      · refine lv_aload_n hx hb dX5_nextThing_43 rfl (lv_at hl 0 rfl) ?_
        refine rl_aloadq_n hx hb dX5_nextThing_44 rfl (lv_at hl 2 rfl) ?_
        rcases pr with _ | a
        · refine lv_ifnullN (tgt := 52) hx hb dX5_nextThing_45 (by decide) ?_
          refine lv_iconst (v := (nI (0))) hx hb dX5_nextThing_52 (by decide) ?_
          refine rl_callq (rl_runV (b := r) (As := [.int (nI (0))]) (rest := []) hC hW (hNR _ z Th nx1 wh1 0 (by decide) hS1) cs_X5_123 im_X5_nextRecord sl_X5_nextRecord hrd1 rfl ⟨by simp only [rl_rm]; omega, by simp only [rl_rm]; omega⟩ rfl hl.1 rfl (Nat.le_of_ble_eq_true rfl) dX5_nextThing_53 ⟨by simp only [rl_rm]; omega, by simp only [rl_rm]; omega⟩) hW (fun r0 f2 z1 d1 H locs hp hW hz1 => ?_)
          obtain ⟨Th2, nx2, op2, wh2, hS2, hJ2, hz2, hd2, hq2⟩ := hp
          have hnb2 : nx2 ≤ 250 := hS2.2.2.1
          have hnl2 := hJ2.2.2.1
          have hJ12 := hJ1.tr hJ2
          exact rl_aret (v := r0) hC hW hr hlk (by simp only [rl_rm]; omega) (by simp only [rl_rm]; omega) ⟨_, rfl, ⟨Th2, nx2, op2, wh2, hS2, hJ12, by omega, by omega, hq2⟩⟩ dX5_nextThing_56
        · refine lv_ifnull hx hb dX5_nextThing_45 ?_
          refine lv_iconst (v := (nI (1))) hx hb dX5_nextThing_48 (by decide) ?_
          refine lv_goto (tgt := 53) hx hb dX5_nextThing_49 (by decide) ?_
          refine rl_callq (rl_runV (b := r) (As := [.int (nI (1))]) (rest := []) hC hW (hNR _ z Th nx1 wh1 1 (by decide) hS1) cs_X5_123 im_X5_nextRecord sl_X5_nextRecord hrd1 rfl ⟨by simp only [rl_rm]; omega, by simp only [rl_rm]; omega⟩ rfl hl.1 rfl (Nat.le_of_ble_eq_true rfl) dX5_nextThing_53 ⟨by simp only [rl_rm]; omega, by simp only [rl_rm]; omega⟩) hW (fun r0 f2 z1 d1 H locs hp hW hz1 => ?_)
          obtain ⟨Th2, nx2, op2, wh2, hS2, hJ2, hz2, hd2, hq2⟩ := hp
          have hnb2 : nx2 ≤ 250 := hS2.2.2.1
          have hnl2 := hJ2.2.2.1
          have hJ12 := hJ1.tr hJ2
          exact rl_aret (v := r0) hC hW hr hlk (by simp only [rl_rm]; omega) (by simp only [rl_rm]; omega) ⟨_, rfl, ⟨Th2, nx2, op2, wh2, hS2, hJ12, by omega, by omega, hq2⟩⟩ dX5_nextThing_56
      · refine lv_null hx hb dX5_nextThing_39 ?_
        refine lv_goto (tgt := 56) hx hb dX5_nextThing_40 (by decide) ?_
        exact rl_aret (v := none) hC hW hr hlk (by simp only [rl_rm]; omega) (by simp only [rl_rm]; omega) ⟨_, rfl, ⟨Th, nx1, op, wh1, hS1, hJ1, by omega, by omega, (fun q e => by cases e)⟩⟩ dX5_nextThing_56
    · refine lv_aload_n hx hb dX5_nextThing_16 rfl (lv_at hl 0 rfl) ?_
      refine rl_aloadq_n hx hb dX5_nextThing_17 rfl (lv_at hl 2 rfl) ?_
      rcases pr with _ | a
      · refine lv_ifnullN (tgt := 25) hx hb dX5_nextThing_18 (by decide) ?_
        refine lv_iconst (v := (nI (0))) hx hb dX5_nextThing_25 (by decide) ?_
        refine rl_callq (rl_runV (b := r) (As := [.int (nI (0))]) (rest := []) hC hW (cC_nextRow l D t A _ z x T Th r nx op wh hS 0 (by decide)) cs_X5_119 im_X5_nextRow sl_X5_nextRow hrd rfl ⟨by simp only [rl_rm]; omega, by simp only [rl_rm]; omega⟩ rfl hl.1 rfl (Nat.le_of_ble_eq_true rfl) dX5_nextThing_26 ⟨by simp only [rl_rm]; omega, by simp only [rl_rm]; omega⟩) hW (fun r0 f1 z1 d1 H locs hp hW hz1 => ?_)
        obtain ⟨Th2, nx2, op2, wh2, hS2, hJ2, hz2, hd2, hq2⟩ := hp
        have hnb2 : nx2 ≤ 250 := hS2.2.2.1
        exact rl_aret (v := r0) hC hW hr hlk (by simp only [rl_rm]; omega) (by simp only [rl_rm]; omega) ⟨_, rfl, ⟨Th2, nx2, op2, wh2, hS2, hJ2, by omega, by omega, hq2⟩⟩ dX5_nextThing_29
      · refine lv_ifnull hx hb dX5_nextThing_18 ?_
        refine lv_iconst (v := (nI (1))) hx hb dX5_nextThing_21 (by decide) ?_
        refine lv_goto (tgt := 26) hx hb dX5_nextThing_22 (by decide) ?_
        refine rl_callq (rl_runV (b := r) (As := [.int (nI (1))]) (rest := []) hC hW (cC_nextRow l D t A _ z x T Th r nx op wh hS 1 (by decide)) cs_X5_119 im_X5_nextRow sl_X5_nextRow hrd rfl ⟨by simp only [rl_rm]; omega, by simp only [rl_rm]; omega⟩ rfl hl.1 rfl (Nat.le_of_ble_eq_true rfl) dX5_nextThing_26 ⟨by simp only [rl_rm]; omega, by simp only [rl_rm]; omega⟩) hW (fun r0 f1 z1 d1 H locs hp hW hz1 => ?_)
        obtain ⟨Th2, nx2, op2, wh2, hS2, hJ2, hz2, hd2, hq2⟩ := hp
        have hnb2 : nx2 ≤ 250 := hS2.2.2.1
        exact rl_aret (v := r0) hC hW hr hlk (by simp only [rl_rm]; omega) (by simp only [rl_rm]; omega) ⟨_, rfl, ⟨Th2, nx2, op2, wh2, hS2, hJ2, by omega, by omega, hq2⟩⟩ dX5_nextThing_29
  · refine lv_aload_n hx hb dX5_nextThing_5 rfl (lv_at hl 0 rfl) ?_
    refine rl_aloadq_n hx hb dX5_nextThing_6 rfl (lv_at hl 2 rfl) ?_
    refine rl_callqQ (rl_runV (b := r) (As := [va_rf (pr)]) (rest := []) hC hW (cC_nextConstant l D t A _ z x T Th r nx op wh hS pr hpr) cs_X5_115 im_X5_nextConstant sl_X5_nextConstant hrd rfl ⟨by simp only [rl_rm]; omega, by simp only [rl_rm]; omega⟩ rfl hl.1 rfl (Nat.le_of_ble_eq_true rfl) dX5_nextThing_7 ⟨by simp only [rl_rm]; omega, by simp only [rl_rm]; omega⟩) hW (fun r0 f1 H locs hp hW => ?_)
    exact rl_aret (v := r0) hC hW hr hlk (by simp only [rl_rm]; omega) (by simp only [rl_rm]; omega) ⟨_, rfl, hp⟩ dX5_nextThing_10

theorem rg_gt1 {s0 : Nat} (h : s0 < 2 ^ 31) (c : 0 < lg_cmp (lN s0) 1) : 2 ≤ s0 := by
  rw [lg_cmp_gt, show (1 : Int64) = lN 1 by decide, lN_lt (by decide) h] at c
  omega

set_option maxHeartbeats 4000000 in
set_option maxRecDepth 100000 in
theorem cC_nextPart (l : Launch) (D : va_G) (t : Nat → ClassId) (A : Nat → Prop) (f : rl_M) (z : Nat) (x : Nat) (T : Nat → Nat → Nat) (Th : Nat → Prop) (r nx op : Nat) (wh : Int32) (hS : cRD t f x T Th r nx op wh) (hTP : rt_pure T) (hNR : cNR l D t A x T r op) (dr : Option Nat) (hdr : cDO t f x T Th dr) : rl_Met l yX5_nextPart (.code yX5_nextPart cX5_nextPart 9 none) (rl_rm (10 + 3 * (6 - op)) (3 * (250 - nx)) (13 * (250 - nx))) D t A f z [.ref (r), va_rf (dr)] (rl_pv fun f1 z1 d1 => cST t x T r f Th z nx op wh none f1 z1 d1) := by
  refine rl_begin (own := RX5) (lv := [(0, .ref (r)), (1, va_rf (dr))]) (by decide +kernel) rfl (by cases dr <;> exact Nat.le_of_ble_eq_true rfl) (by cases dr <;> rfl) fun p e s m0 args below meth c ls H locs hC hr hlk hnm hW hl hx hb => ?_
  obtain ⟨hI, hrx, hnl, hop, v, la, md, hrd⟩ := id hS
  have hJ := cRJ.rf (t := t) (f := f) (Th := Th) (nx := nx) (op := op) (wh := wh)
  rcases dr with _ | a
  · refine lv_aload_n hx hb dX5_nextPart_0 rfl (lv_at hl 0 rfl) ?_
    refine rl_calllQ (rl_runV (b := r) (As := []) (rest := []) hC hW (cC_nextLeaf l D t A _ z x T Th r _ (op) _ hS) cs_X5_48 im_X5_nextLeaf sl_X5_nextLeaf hrd rfl ⟨by simp only [rl_rm]; omega, by simp only [rl_rm]; omega⟩ rfl hl.1 rfl (Nat.le_of_ble_eq_true rfl) dX5_nextPart_1 ⟨by simp only [rl_rm]; omega, by simp only [rl_rm]; omega⟩) hW (fun y1 f1 H locs hp hW => ?_)
    obtain ⟨nx1, wh1, hS1, hon1, hnx1, hw1, hy1⟩ := hp
    have hJ1 := cRJ_leaf (t := t) (Th := Th) (op := op) hon1 hrd hnx1 hw1
    obtain ⟨hI1, hrx1, hnl1, hop1, v1, la1, md1, hrd1⟩ := id hS1
    refine lv_lstore_n (lv' := [(2, .long (y1)), (0, .ref (r)), (1, .null)]) hx hb dX5_nextPart_4 rfl hl (by decide) rfl (fun ls hl => ?_)
    refine lv_aload_n hx hb dX5_nextPart_5 rfl (lv_at hl 1 rfl) ?_
    refine rl_calllQ (rl_runV (b := r) (As := []) (rest := []) hC hW (cC_nextLeaf l D t A _ z x T Th r _ (op) _ hS1) cs_X5_48 im_X5_nextLeaf sl_X5_nextLeaf hrd1 rfl ⟨by simp only [rl_rm]; omega, by simp only [rl_rm]; omega⟩ rfl hl.1 rfl (Nat.le_of_ble_eq_true rfl) dX5_nextPart_6 ⟨by simp only [rl_rm]; omega, by simp only [rl_rm]; omega⟩) hW (fun y2 f2 H locs hp hW => ?_)
    obtain ⟨nx2, wh2, hS2, hon2, hnx2, hw2, hy2⟩ := hp
    have hJ2 := cRJ_leaf (t := t) (Th := Th) (op := op) hon2 hrd1 hnx2 hw2
    obtain ⟨hI2, hrx2, hnl2, hop2, v2, la2, md2, hrd2⟩ := id hS2
    replace hJ2 := hJ1.tr hJ2
    refine lv_lstore (lv' := [(4, .long (y2)), (2, .long (y1)), (0, .ref (r)), (1, .null)]) hx hb dX5_nextPart_9 hl (by decide) rfl (fun ls hl => ?_)
    refine lv_lload hx hb dX5_nextPart_11 (lv_at hl 0 rfl) ?_
    refine lv_lconst (v := 0) hx hb dX5_nextPart_13 (by decide) ?_
    refine W.lcmp hx hb dX5_nextPart_14 ?_
    refine lv_if_lt (tgt := 27) hx hb dX5_nextPart_15 (by decide) (fun c2 => ?_) (fun c2 => ?_)
    · refine lv_aload_n hx hb dX5_nextPart_27 rfl (lv_at hl 2 rfl) ?_
      refine lv_iconst (v := (nI (2))) hx hb dX5_nextPart_28 (by decide) ?_
      refine rl_callvQ (rl_runV (b := r) (As := [.int (nI (2))]) (rest := []) hC hW (cC_fail l D t A _ z x T Th r _ (op) _ hS2 (nI 2) (by decide)) cs_X5_44 im_X5_fail sl_X5_fail hrd2 rfl ⟨by simp only [rl_rm]; omega, by simp only [rl_rm]; omega⟩ rfl hl.1 rfl (Nat.le_of_ble_eq_true rfl) dX5_nextPart_29 ⟨by simp only [rl_rm]; omega, by simp only [rl_rm]; omega⟩) hW (fun f3 H locs hp hW => ?_)
      obtain ⟨wh3, hne3, hS3, hon3⟩ := hp
      have hJ3 := cRJ_fail (t := t) (op1 := op) (Th := Th) (op := op) (nx := nx2) (wh := wh2) hon3 hrd2 hne3
      obtain ⟨hI3, hrx3, hnl3, hop3, v3, la3, md3, hrd3⟩ := id hS3
      replace hJ3 := hJ2.tr hJ3
      refine lv_aload_nN hx hb dX5_nextPart_32 rfl (lv_at hl 3 rfl) ?_
      refine lv_ifnonnullN hx hb dX5_nextPart_33 ?_
      refine lv_bipush (v := (-3)) hx hb dX5_nextPart_36 (by decide) ?_
      refine lv_goto (tgt := 49) hx hb dX5_nextPart_38 (by decide) ?_
      refine lv_istore (lv' := [(6, .int (-3)), (4, .long (y2)), (2, .long (y1)), (0, .ref (r)), (1, .null)]) hx hb dX5_nextPart_49 hl (by decide) rfl (fun ls hl => ?_)
      refine lv_iload hx hb dX5_nextPart_51 (lv_at hl 0 rfl) ?_
      refine lv_bipush (v := (-3)) hx hb dX5_nextPart_53 (by decide) ?_
      refine lv_icmp_eq (tgt := 83) hx hb dX5_nextPart_55 (by decide) (fun c5 => ?_) (fun c5 => absurd rfl c5)
      refine lv_aload_n hx hb dX5_nextPart_83 rfl (lv_at hl 3 rfl) ?_
      refine rl_get (v := .int (wh3)) hC hW fl_X5_23 hrd3 rfl dX5_nextPart_84 ?_
      refine lv_if_eq (tgt := 91) hx hb dX5_nextPart_87 (by decide) (fun c7 => ?_) (fun c7 => ?_)
      · exact absurd c7 hne3
      · exact rl_vret hC hW hr hlk (by simp only [rl_rm]; omega) (by simp only [rl_rm]; omega) ⟨rfl, ⟨Th, nx2, op, wh3, hS3, hJ3, by omega, by omega, (fun q e => by cases e)⟩⟩ dX5_nextPart_90
    · refine lv_lload hx hb dX5_nextPart_18 (lv_at hl 0 rfl) ?_
      refine lv_ldc2 (v := 5) hx hb hC.2.2.2.1 (hC.2.2.2.2.1 _ (List.mem_cons_of_mem _ mw_597)) dX5_nextPart_20 ?_
      refine W.lcmp hx hb dX5_nextPart_23 ?_
      refine lv_if_lt (tgt := 32) hx hb dX5_nextPart_24 (by decide) (fun c3 => ?_) (fun c3 => ?_)
      · obtain ⟨s0, hs0, rfl⟩ := rg_l5 (fun q => c2 ((lg_cmp_lt _ _).mpr q)) ((lg_cmp_lt _ _).mp c3)
        refine lv_aload_nN hx hb dX5_nextPart_32 rfl (lv_at hl 3 rfl) ?_
        refine lv_ifnonnullN hx hb dX5_nextPart_33 ?_
        refine lv_bipush (v := (-3)) hx hb dX5_nextPart_36 (by decide) ?_
        refine lv_goto (tgt := 49) hx hb dX5_nextPart_38 (by decide) ?_
        refine lv_istore (lv' := [(6, .int (-3)), (4, .long (lN s0)), (2, .long (y1)), (0, .ref (r)), (1, .null)]) hx hb dX5_nextPart_49 hl (by decide) rfl (fun ls hl => ?_)
        refine lv_iload hx hb dX5_nextPart_51 (lv_at hl 0 rfl) ?_
        refine lv_bipush (v := (-3)) hx hb dX5_nextPart_53 (by decide) ?_
        refine lv_icmp_eq (tgt := 83) hx hb dX5_nextPart_55 (by decide) (fun c5 => ?_) (fun c5 => absurd rfl c5)
        refine lv_aload_n hx hb dX5_nextPart_83 rfl (lv_at hl 3 rfl) ?_
        refine rl_get (v := .int (wh2)) hC hW fl_X5_23 hrd2 rfl dX5_nextPart_84 ?_
        refine lv_if_eq (tgt := 91) hx hb dX5_nextPart_87 (by decide) (fun c7 => ?_) (fun c7 => ?_)
        · obtain ⟨hw0, hnx2e⟩ := hw2 c7
          refine lv_lload hx hb dX5_nextPart_91 (lv_at hl 1 rfl) ?_
          refine lv_lconst (v := 1) hx hb dX5_nextPart_93 (by decide) ?_
          refine W.lcmp hx hb dX5_nextPart_94 ?_
          refine lv_if_gt (tgt := 121) hx hb dX5_nextPart_95 (by decide) (fun c8 => ?_) (fun c8 => ?_)
          · have hs2 : 2 ≤ s0 := rg_gt1 (by omega) c8
            refine lv_aload_n hx hb dX5_nextPart_121 rfl (lv_at hl 3 rfl) ?_
            refine lv_lload hx hb dX5_nextPart_122 (lv_at hl 1 rfl) ?_
            refine lv_l2i hx hb dX5_nextPart_124 rfl ?_
            refine rl_topn (lN_i _) ?_
            refine lv_iload hx hb dX5_nextPart_125 (lv_at hl 0 rfl) ?_
            refine lv_bipush (v := (-3)) hx hb dX5_nextPart_127 (by decide) ?_
            refine lv_icmp_ne (tgt := 136) hx hb dX5_nextPart_129 (by decide) (fun c10 => ?_) (fun c10 => ?_)
            · exact absurd rfl c10
            · refine lv_null hx hb dX5_nextPart_132 ?_
              refine lv_goto (tgt := 146) hx hb dX5_nextPart_133 (by decide) ?_
              refine rl_callq (rl_runV (b := r) (As := [.int (nI (s0)), .null]) (rest := []) hC hW (cC_nextThing l D t A _ z x T Th r _ op _ hS2 hNR s0 (none) (fun q e => by cases e)) cs_X5_111 im_X5_nextThing sl_X5_nextThing hrd2 rfl ⟨by simp only [rl_rm]; omega, by simp only [rl_rm]; omega⟩ rfl hl.1 rfl (Nat.le_of_ble_eq_true rfl) dX5_nextPart_146 ⟨by simp only [rl_rm]; omega, by simp only [rl_rm]; omega⟩) hW (fun r0 f3 z1 d1 H locs hp hW hz1 => ?_)
              obtain ⟨Th3, nx3, op3, wh3, hS3, hJ3, hz3, hd3, hqr3⟩ := hp
              have hnb3 : nx3 ≤ 250 := hS3.2.2.1
              have hnl3z := hJ3.2.2.1
              replace hJ3 := hJ2.tr hJ3
              refine rl_astoreq (lv' := [(7, va_rf (r0)), (6, .int (-3)), (4, .long (lN s0)), (2, .long (y1)), (0, .ref (r)), (1, .null)]) hx hb dX5_nextPart_149 hl (by decide) rfl (fun ls hl => ?_)
              refine lv_iload hx hb dX5_nextPart_151 (lv_at hl 1 rfl) ?_
              refine lv_bipush (v := (-3)) hx hb dX5_nextPart_153 (by decide) ?_
              refine lv_icmp_eq (tgt := 167) hx hb dX5_nextPart_155 (by decide) (fun c5 => ?_) (fun c5 => absurd rfl c5)
              exact rl_vret hC hW hr hlk (by simp only [rl_rm]; omega) (by simp only [rl_rm]; omega) ⟨rfl, ⟨Th3, nx3, op3, wh3, hS3, hJ3, by omega, by omega, (fun q e => by cases e)⟩⟩ dX5_nextPart_167
          · refine lv_aload_n hx hb dX5_nextPart_98 rfl (lv_at hl 3 rfl) ?_
            refine rl_calllQ (rl_runV (b := r) (As := []) (rest := []) hC hW (cC_nextLeaf l D t A _ z x T Th r _ (op) _ hS2) cs_X5_48 im_X5_nextLeaf sl_X5_nextLeaf hrd2 rfl ⟨by simp only [rl_rm]; omega, by simp only [rl_rm]; omega⟩ rfl hl.1 rfl (Nat.le_of_ble_eq_true rfl) dX5_nextPart_99 ⟨by simp only [rl_rm]; omega, by simp only [rl_rm]; omega⟩) hW (fun y3 f3 H locs hp hW => ?_)
            obtain ⟨nx3, wh3, hS3, hon3, hnx3, hw3, hy3⟩ := hp
            have hJ3 := cRJ_leaf (t := t) (Th := Th) (op := op) hon3 hrd2 hnx3 hw3
            obtain ⟨hI3, hrx3, hnl3, hop3, v3, la3, md3, hrd3⟩ := id hS3
            have hJ23 := hJ3
            replace hJ3 := hJ2.tr hJ3
            refine lv_lstore (lv' := [(7, .long (y3)), (6, .int (-3)), (4, .long (lN s0)), (2, .long (y1)), (0, .ref (r)), (1, .null)]) hx hb dX5_nextPart_102 hl (by decide) rfl (fun ls hl => ?_)
            refine lv_iload hx hb dX5_nextPart_104 (lv_at hl 1 rfl) ?_
            refine lv_bipush (v := (-3)) hx hb dX5_nextPart_106 (by decide) ?_
            refine lv_icmp_eq (tgt := 120) hx hb dX5_nextPart_108 (by decide) (fun c5 => ?_) (fun c5 => absurd rfl c5)
            exact rl_vret hC hW hr hlk (by simp only [rl_rm]; omega) (by simp only [rl_rm]; omega) ⟨rfl, ⟨Th, nx3, op, wh3, hS3, hJ3, by omega, by omega, (fun q e => by cases e)⟩⟩ dX5_nextPart_120
        · exact rl_vret hC hW hr hlk (by simp only [rl_rm]; omega) (by simp only [rl_rm]; omega) ⟨rfl, ⟨Th, nx2, op, wh2, hS2, hJ2, by omega, by omega, (fun q e => by cases e)⟩⟩ dX5_nextPart_90
      · refine lv_aload_n hx hb dX5_nextPart_27 rfl (lv_at hl 2 rfl) ?_
        refine lv_iconst (v := (nI (2))) hx hb dX5_nextPart_28 (by decide) ?_
        refine rl_callvQ (rl_runV (b := r) (As := [.int (nI (2))]) (rest := []) hC hW (cC_fail l D t A _ z x T Th r _ (op) _ hS2 (nI 2) (by decide)) cs_X5_44 im_X5_fail sl_X5_fail hrd2 rfl ⟨by simp only [rl_rm]; omega, by simp only [rl_rm]; omega⟩ rfl hl.1 rfl (Nat.le_of_ble_eq_true rfl) dX5_nextPart_29 ⟨by simp only [rl_rm]; omega, by simp only [rl_rm]; omega⟩) hW (fun f3 H locs hp hW => ?_)
        obtain ⟨wh3, hne3, hS3, hon3⟩ := hp
        have hJ3 := cRJ_fail (t := t) (op1 := op) (Th := Th) (op := op) (nx := nx2) (wh := wh2) hon3 hrd2 hne3
        obtain ⟨hI3, hrx3, hnl3, hop3, v3, la3, md3, hrd3⟩ := id hS3
        replace hJ3 := hJ2.tr hJ3
        refine lv_aload_nN hx hb dX5_nextPart_32 rfl (lv_at hl 3 rfl) ?_
        refine lv_ifnonnullN hx hb dX5_nextPart_33 ?_
        refine lv_bipush (v := (-3)) hx hb dX5_nextPart_36 (by decide) ?_
        refine lv_goto (tgt := 49) hx hb dX5_nextPart_38 (by decide) ?_
        refine lv_istore (lv' := [(6, .int (-3)), (4, .long (y2)), (2, .long (y1)), (0, .ref (r)), (1, .null)]) hx hb dX5_nextPart_49 hl (by decide) rfl (fun ls hl => ?_)
        refine lv_iload hx hb dX5_nextPart_51 (lv_at hl 0 rfl) ?_
        refine lv_bipush (v := (-3)) hx hb dX5_nextPart_53 (by decide) ?_
        refine lv_icmp_eq (tgt := 83) hx hb dX5_nextPart_55 (by decide) (fun c5 => ?_) (fun c5 => absurd rfl c5)
        refine lv_aload_n hx hb dX5_nextPart_83 rfl (lv_at hl 3 rfl) ?_
        refine rl_get (v := .int (wh3)) hC hW fl_X5_23 hrd3 rfl dX5_nextPart_84 ?_
        refine lv_if_eq (tgt := 91) hx hb dX5_nextPart_87 (by decide) (fun c7 => ?_) (fun c7 => ?_)
        · exact absurd c7 hne3
        · exact rl_vret hC hW hr hlk (by simp only [rl_rm]; omega) (by simp only [rl_rm]; omega) ⟨rfl, ⟨Th, nx2, op, wh3, hS3, hJ3, by omega, by omega, (fun q e => by cases e)⟩⟩ dX5_nextPart_90
  · refine lv_aload_n hx hb dX5_nextPart_0 rfl (lv_at hl 0 rfl) ?_
    refine rl_calllQ (rl_runV (b := r) (As := []) (rest := []) hC hW (cC_nextLeaf l D t A _ z x T Th r _ (op) _ hS) cs_X5_48 im_X5_nextLeaf sl_X5_nextLeaf hrd rfl ⟨by simp only [rl_rm]; omega, by simp only [rl_rm]; omega⟩ rfl hl.1 rfl (Nat.le_of_ble_eq_true rfl) dX5_nextPart_1 ⟨by simp only [rl_rm]; omega, by simp only [rl_rm]; omega⟩) hW (fun y1 f1 H locs hp hW => ?_)
    obtain ⟨nx1, wh1, hS1, hon1, hnx1, hw1, hy1⟩ := hp
    have hJ1 := cRJ_leaf (t := t) (Th := Th) (op := op) hon1 hrd hnx1 hw1
    obtain ⟨hI1, hrx1, hnl1, hop1, v1, la1, md1, hrd1⟩ := id hS1
    refine lv_lstore_n (lv' := [(2, .long (y1)), (0, .ref (r)), (1, .ref (a))]) hx hb dX5_nextPart_4 rfl hl (by decide) rfl (fun ls hl => ?_)
    refine lv_aload_n hx hb dX5_nextPart_5 rfl (lv_at hl 1 rfl) ?_
    refine rl_calllQ (rl_runV (b := r) (As := []) (rest := []) hC hW (cC_nextLeaf l D t A _ z x T Th r _ (op) _ hS1) cs_X5_48 im_X5_nextLeaf sl_X5_nextLeaf hrd1 rfl ⟨by simp only [rl_rm]; omega, by simp only [rl_rm]; omega⟩ rfl hl.1 rfl (Nat.le_of_ble_eq_true rfl) dX5_nextPart_6 ⟨by simp only [rl_rm]; omega, by simp only [rl_rm]; omega⟩) hW (fun y2 f2 H locs hp hW => ?_)
    obtain ⟨nx2, wh2, hS2, hon2, hnx2, hw2, hy2⟩ := hp
    have hJ2 := cRJ_leaf (t := t) (Th := Th) (op := op) hon2 hrd1 hnx2 hw2
    obtain ⟨hI2, hrx2, hnl2, hop2, v2, la2, md2, hrd2⟩ := id hS2
    replace hJ2 := hJ1.tr hJ2
    refine lv_lstore (lv' := [(4, .long (y2)), (2, .long (y1)), (0, .ref (r)), (1, .ref (a))]) hx hb dX5_nextPart_9 hl (by decide) rfl (fun ls hl => ?_)
    refine lv_lload hx hb dX5_nextPart_11 (lv_at hl 0 rfl) ?_
    refine lv_lconst (v := 0) hx hb dX5_nextPart_13 (by decide) ?_
    refine W.lcmp hx hb dX5_nextPart_14 ?_
    refine lv_if_lt (tgt := 27) hx hb dX5_nextPart_15 (by decide) (fun c2 => ?_) (fun c2 => ?_)
    · refine lv_aload_n hx hb dX5_nextPart_27 rfl (lv_at hl 2 rfl) ?_
      refine lv_iconst (v := (nI (2))) hx hb dX5_nextPart_28 (by decide) ?_
      refine rl_callvQ (rl_runV (b := r) (As := [.int (nI (2))]) (rest := []) hC hW (cC_fail l D t A _ z x T Th r _ (op) _ hS2 (nI 2) (by decide)) cs_X5_44 im_X5_fail sl_X5_fail hrd2 rfl ⟨by simp only [rl_rm]; omega, by simp only [rl_rm]; omega⟩ rfl hl.1 rfl (Nat.le_of_ble_eq_true rfl) dX5_nextPart_29 ⟨by simp only [rl_rm]; omega, by simp only [rl_rm]; omega⟩) hW (fun f3 H locs hp hW => ?_)
      obtain ⟨wh3, hne3, hS3, hon3⟩ := hp
      have hJ3 := cRJ_fail (t := t) (op1 := op) (Th := Th) (op := op) (nx := nx2) (wh := wh2) hon3 hrd2 hne3
      obtain ⟨hI3, hrx3, hnl3, hop3, v3, la3, md3, hrd3⟩ := id hS3
      replace hJ3 := hJ2.tr hJ3
      refine lv_aload_n hx hb dX5_nextPart_32 rfl (lv_at hl 3 rfl) ?_
      refine lv_ifnonnull (tgt := 41) hx hb dX5_nextPart_33 (by decide) ?_
      refine lv_aload_n hx hb dX5_nextPart_41 rfl (lv_at hl 3 rfl) ?_
      obtain ⟨hTa, j, nu, th, hD⟩ := (hdr.j hJ3) a rfl
      obtain ⟨hj, hnu, hth, h0, -⟩ := id hD
      obtain ⟨gn, gt, h1, h2, h3⟩ := hD.op (hI3.th hTa)
      obtain ⟨hrv, hj5, hj2, ⟨gp, hpa, hpp⟩, -⟩ := id (hI3.2.2.1 j hj)
      refine rl_get (v := .ref (x + 16 + 3 * j)) hC hW fl_X5_79 h0 rfl dX5_nextPart_42 ?_
      refine lv_lload_n hx hb dX5_nextPart_45 rfl (lv_at hl 1 rfl) ?_
      refine rl_calliQ (rl_runV (b := x + 16 + 3 * j) (As := [.long (y1)]) (rest := []) hC hW (cC_partNamed l D t A _ z x T Th hI3 j hj _) cs_X5_94 im_X7_partNamed sl_X7_partNamed hrv rfl ⟨by simp only [rl_rm]; omega, by simp only [rl_rm]; omega⟩ rfl hl.1 rfl (Nat.le_of_ble_eq_true rfl) dX5_nextPart_46 ⟨by simp only [rl_rm]; omega, by simp only [rl_rm]; omega⟩) hW (fun p9 f1 H locs hp hW => ?_)
      obtain ⟨rfl, hp⟩ := hp
      rcases hp with ⟨p0, hp0, rfl, he⟩ | ⟨rfl, hp⟩
      · obtain ⟨q, o, hq1, hq2, hq3⟩ := hpp p0 hp0
        refine lv_istore (lv' := [(6, .int (nI (p0))), (4, .long (y2)), (2, .long (y1)), (0, .ref (r)), (1, .ref (a))]) hx hb dX5_nextPart_49 hl (by decide) rfl (fun ls hl => ?_)
        refine lv_iload hx hb dX5_nextPart_51 (lv_at hl 0 rfl) ?_
        refine lv_bipush (v := (-3)) hx hb dX5_nextPart_53 (by decide) ?_
        refine lv_icmp_eq (tgt := 83) hx hb dX5_nextPart_55 (by decide) (fun c5 => ?_) (fun c5 => ?_)
        · exact absurd c5 (rg_mn (by omega) (by decide))
        · refine lv_aload_n hx hb dX5_nextPart_58 rfl (lv_at hl 4 rfl) ?_
          refine rl_get (v := .ref (x + 16 + 3 * j)) hC hW fl_X5_79 h0 rfl dX5_nextPart_59 ?_
          refine rl_get (v := .ref (x + 17 + 3 * j)) hC hW fl_X5_98 hrv rfl dX5_nextPart_62 ?_
          refine lv_iload hx hb dX5_nextPart_65 (lv_at hl 0 rfl) ?_
          refine rl_aald_n 5 hC hW rfl hpa (by omega) (by decide) dX5_nextPart_67 ?_
          refine rl_topq (hq1) ?_
          refine rl_get (v := .int (nI (T 4 (5 * j + p0)))) hC hW fl_X5_102 hq3 rfl dX5_nextPart_68 ?_
          refine lv_i2l hx hb dX5_nextPart_71 rfl ?_
          refine lv_lload hx hb dX5_nextPart_72 (lv_at hl 1 rfl) ?_
          refine W.lcmp hx hb dX5_nextPart_74 ?_
          refine lv_if_eq (tgt := 83) hx hb dX5_nextPart_75 (by decide) (fun c6 => ?_) (fun c6 => ?_)
          · refine lv_aload_n hx hb dX5_nextPart_83 rfl (lv_at hl 3 rfl) ?_
            refine rl_get (v := .int (wh3)) hC hW fl_X5_23 hrd3 rfl dX5_nextPart_84 ?_
            refine lv_if_eq (tgt := 91) hx hb dX5_nextPart_87 (by decide) (fun c7 => ?_) (fun c7 => ?_)
            · exact absurd c7 hne3
            · exact rl_vret hC hW hr hlk (by simp only [rl_rm]; omega) (by simp only [rl_rm]; omega) ⟨rfl, ⟨Th, nx2, op, wh3, hS3, hJ3, by omega, by omega, (fun q e => by cases e)⟩⟩ dX5_nextPart_90
          · refine lv_aload_n hx hb dX5_nextPart_78 rfl (lv_at hl 3 rfl) ?_
            refine lv_iconst (v := (nI (1))) hx hb dX5_nextPart_79 (by decide) ?_
            refine rl_callvQ (rl_runV (b := r) (As := [.int (nI (1))]) (rest := []) hC hW (cC_fail l D t A _ z x T Th r _ (op) _ hS3 (nI 1) (by decide)) cs_X5_44 im_X5_fail sl_X5_fail hrd3 rfl ⟨by simp only [rl_rm]; omega, by simp only [rl_rm]; omega⟩ rfl hl.1 rfl (Nat.le_of_ble_eq_true rfl) dX5_nextPart_80 ⟨by simp only [rl_rm]; omega, by simp only [rl_rm]; omega⟩) hW (fun f4 H locs hp hW => ?_)
            obtain ⟨wh4, hne4, hS4, hon4⟩ := hp
            have hJ4 := cRJ_fail (t := t) (op1 := op) (Th := Th) (op := op) (nx := nx2) (wh := wh3) hon4 hrd3 hne4
            obtain ⟨hI4, hrx4, hnl4, hop4, v4, la4, md4, hrd4⟩ := id hS4
            replace hJ4 := hJ3.tr hJ4
            refine lv_aload_n hx hb dX5_nextPart_83 rfl (lv_at hl 3 rfl) ?_
            refine rl_get (v := .int (wh4)) hC hW fl_X5_23 hrd4 rfl dX5_nextPart_84 ?_
            refine lv_if_eq (tgt := 91) hx hb dX5_nextPart_87 (by decide) (fun c7 => ?_) (fun c7 => ?_)
            · exact absurd c7 hne4
            · exact rl_vret hC hW hr hlk (by simp only [rl_rm]; omega) (by simp only [rl_rm]; omega) ⟨rfl, ⟨Th, nx2, op, wh4, hS4, hJ4, by omega, by omega, (fun q e => by cases e)⟩⟩ dX5_nextPart_90
      · refine lv_istore (lv' := [(6, .int (-3)), (4, .long (y2)), (2, .long (y1)), (0, .ref (r)), (1, .ref (a))]) hx hb dX5_nextPart_49 hl (by decide) rfl (fun ls hl => ?_)
        refine lv_iload hx hb dX5_nextPart_51 (lv_at hl 0 rfl) ?_
        refine lv_bipush (v := (-3)) hx hb dX5_nextPart_53 (by decide) ?_
        refine lv_icmp_eq (tgt := 83) hx hb dX5_nextPart_55 (by decide) (fun c5 => ?_) (fun c5 => absurd rfl c5)
        refine lv_aload_n hx hb dX5_nextPart_83 rfl (lv_at hl 3 rfl) ?_
        refine rl_get (v := .int (wh3)) hC hW fl_X5_23 hrd3 rfl dX5_nextPart_84 ?_
        refine lv_if_eq (tgt := 91) hx hb dX5_nextPart_87 (by decide) (fun c7 => ?_) (fun c7 => ?_)
        · exact absurd c7 hne3
        · exact rl_vret hC hW hr hlk (by simp only [rl_rm]; omega) (by simp only [rl_rm]; omega) ⟨rfl, ⟨Th, nx2, op, wh3, hS3, hJ3, by omega, by omega, (fun q e => by cases e)⟩⟩ dX5_nextPart_90
    · refine lv_lload hx hb dX5_nextPart_18 (lv_at hl 0 rfl) ?_
      refine lv_ldc2 (v := 5) hx hb hC.2.2.2.1 (hC.2.2.2.2.1 _ (List.mem_cons_of_mem _ mw_597)) dX5_nextPart_20 ?_
      refine W.lcmp hx hb dX5_nextPart_23 ?_
      refine lv_if_lt (tgt := 32) hx hb dX5_nextPart_24 (by decide) (fun c3 => ?_) (fun c3 => ?_)
      · obtain ⟨s0, hs0, rfl⟩ := rg_l5 (fun q => c2 ((lg_cmp_lt _ _).mpr q)) ((lg_cmp_lt _ _).mp c3)
        refine lv_aload_n hx hb dX5_nextPart_32 rfl (lv_at hl 3 rfl) ?_
        refine lv_ifnonnull (tgt := 41) hx hb dX5_nextPart_33 (by decide) ?_
        refine lv_aload_n hx hb dX5_nextPart_41 rfl (lv_at hl 3 rfl) ?_
        obtain ⟨hTa, j, nu, th, hD⟩ := (hdr.j hJ2) a rfl
        obtain ⟨hj, hnu, hth, h0, -⟩ := id hD
        obtain ⟨gn, gt, h1, h2, h3⟩ := hD.op (hI2.th hTa)
        obtain ⟨hrv, hj5, hj2, ⟨gp, hpa, hpp⟩, -⟩ := id (hI2.2.2.1 j hj)
        refine rl_get (v := .ref (x + 16 + 3 * j)) hC hW fl_X5_79 h0 rfl dX5_nextPart_42 ?_
        refine lv_lload_n hx hb dX5_nextPart_45 rfl (lv_at hl 1 rfl) ?_
        refine rl_calliQ (rl_runV (b := x + 16 + 3 * j) (As := [.long (y1)]) (rest := []) hC hW (cC_partNamed l D t A _ z x T Th hI2 j hj _) cs_X5_94 im_X7_partNamed sl_X7_partNamed hrv rfl ⟨by simp only [rl_rm]; omega, by simp only [rl_rm]; omega⟩ rfl hl.1 rfl (Nat.le_of_ble_eq_true rfl) dX5_nextPart_46 ⟨by simp only [rl_rm]; omega, by simp only [rl_rm]; omega⟩) hW (fun p9 f1 H locs hp hW => ?_)
        obtain ⟨rfl, hp⟩ := hp
        rcases hp with ⟨p0, hp0, rfl, he⟩ | ⟨rfl, hp⟩
        · obtain ⟨q, o, hq1, hq2, hq3⟩ := hpp p0 hp0
          refine lv_istore (lv' := [(6, .int (nI (p0))), (4, .long (lN s0)), (2, .long (y1)), (0, .ref (r)), (1, .ref (a))]) hx hb dX5_nextPart_49 hl (by decide) rfl (fun ls hl => ?_)
          refine lv_iload hx hb dX5_nextPart_51 (lv_at hl 0 rfl) ?_
          refine lv_bipush (v := (-3)) hx hb dX5_nextPart_53 (by decide) ?_
          refine lv_icmp_eq (tgt := 83) hx hb dX5_nextPart_55 (by decide) (fun c5 => ?_) (fun c5 => ?_)
          · exact absurd c5 (rg_mn (by omega) (by decide))
          · refine lv_aload_n hx hb dX5_nextPart_58 rfl (lv_at hl 4 rfl) ?_
            refine rl_get (v := .ref (x + 16 + 3 * j)) hC hW fl_X5_79 h0 rfl dX5_nextPart_59 ?_
            refine rl_get (v := .ref (x + 17 + 3 * j)) hC hW fl_X5_98 hrv rfl dX5_nextPart_62 ?_
            refine lv_iload hx hb dX5_nextPart_65 (lv_at hl 0 rfl) ?_
            refine rl_aald_n 5 hC hW rfl hpa (by omega) (by decide) dX5_nextPart_67 ?_
            refine rl_topq (hq1) ?_
            refine rl_get (v := .int (nI (T 4 (5 * j + p0)))) hC hW fl_X5_102 hq3 rfl dX5_nextPart_68 ?_
            refine lv_i2l hx hb dX5_nextPart_71 rfl ?_
            refine lv_lload hx hb dX5_nextPart_72 (lv_at hl 1 rfl) ?_
            refine W.lcmp hx hb dX5_nextPart_74 ?_
            refine lv_if_eq (tgt := 83) hx hb dX5_nextPart_75 (by decide) (fun c6 => ?_) (fun c6 => ?_)
            · refine lv_aload_n hx hb dX5_nextPart_83 rfl (lv_at hl 3 rfl) ?_
              refine rl_get (v := .int (wh2)) hC hW fl_X5_23 hrd2 rfl dX5_nextPart_84 ?_
              refine lv_if_eq (tgt := 91) hx hb dX5_nextPart_87 (by decide) (fun c7 => ?_) (fun c7 => ?_)
              · obtain ⟨hw0, hnx2e⟩ := hw2 c7
                refine lv_lload hx hb dX5_nextPart_91 (lv_at hl 1 rfl) ?_
                refine lv_lconst (v := 1) hx hb dX5_nextPart_93 (by decide) ?_
                refine W.lcmp hx hb dX5_nextPart_94 ?_
                refine lv_if_gt (tgt := 121) hx hb dX5_nextPart_95 (by decide) (fun c8 => ?_) (fun c8 => ?_)
                · have hs2 : 2 ≤ s0 := rg_gt1 (by omega) c8
                  refine lv_aload_n hx hb dX5_nextPart_121 rfl (lv_at hl 3 rfl) ?_
                  refine lv_lload hx hb dX5_nextPart_122 (lv_at hl 1 rfl) ?_
                  refine lv_l2i hx hb dX5_nextPart_124 rfl ?_
                  refine rl_topn (lN_i _) ?_
                  refine lv_iload hx hb dX5_nextPart_125 (lv_at hl 0 rfl) ?_
                  refine lv_bipush (v := (-3)) hx hb dX5_nextPart_127 (by decide) ?_
                  refine lv_icmp_ne (tgt := 136) hx hb dX5_nextPart_129 (by decide) (fun c10 => ?_) (fun c10 => ?_)
                  · refine lv_aload_n hx hb dX5_nextPart_136 rfl (lv_at hl 4 rfl) ?_
                    refine rl_get (v := .ref (x + 16 + 3 * j)) hC hW fl_X5_79 h0 rfl dX5_nextPart_137 ?_
                    refine rl_get (v := .ref (x + 17 + 3 * j)) hC hW fl_X5_98 hrv rfl dX5_nextPart_140 ?_
                    refine lv_iload hx hb dX5_nextPart_143 (lv_at hl 0 rfl) ?_
                    refine rl_aald_n 5 hC hW rfl hpa (by omega) (by decide) dX5_nextPart_145 ?_
                    refine rl_topq (hq1) ?_
                    refine rl_callq (rl_runV (b := r) (As := [.int (nI (s0)), .ref (q)]) (rest := []) hC hW (cC_nextThing l D t A _ z x T Th r _ op _ hS2 hNR s0 (some q) (fun q e => by cases e; exact ⟨_, _, _, hq3⟩)) cs_X5_111 im_X5_nextThing sl_X5_nextThing hrd2 rfl ⟨by simp only [rl_rm]; omega, by simp only [rl_rm]; omega⟩ rfl hl.1 rfl (Nat.le_of_ble_eq_true rfl) dX5_nextPart_146 ⟨by simp only [rl_rm]; omega, by simp only [rl_rm]; omega⟩) hW (fun r0 f3 z1 d1 H locs hp hW hz1 => ?_)
                    obtain ⟨Th3, nx3, op3, wh3, hS3, hJ3, hz3, hd3, hqr3⟩ := hp
                    have hnb3 : nx3 ≤ 250 := hS3.2.2.1
                    have hnl3z := hJ3.2.2.1
                    have hJ23 := hJ3
                    replace hJ3 := hJ2.tr hJ3
                    obtain ⟨hI3, hrx3, hnl3, hop3, v3, la3, md3, hrd3⟩ := id hS3
                    have hnl3_ : nx3 ≤ 250 := hS3.2.2.1
                    have hop3_ : op3 ≤ 6 := hS3.2.2.2.1
                    have hq3_ := hqr3
                    replace hD := hD.sh hJ23.2.1
                    replace hTa := hJ23.1 a hTa
                    refine rl_astoreq (lv' := [(7, va_rf (r0)), (6, .int (nI (p0))), (4, .long (lN s0)), (2, .long (y1)), (0, .ref (r)), (1, .ref (a))]) hx hb dX5_nextPart_149 hl (by decide) rfl (fun ls hl => ?_)
                    refine lv_iload hx hb dX5_nextPart_151 (lv_at hl 1 rfl) ?_
                    refine lv_bipush (v := (-3)) hx hb dX5_nextPart_153 (by decide) ?_
                    refine lv_icmp_eq (tgt := 167) hx hb dX5_nextPart_155 (by decide) (fun c9 => ?_) (fun c9 => ?_)
                    · exact absurd c9 (rg_mn (by omega) (by decide))
                    · refine lv_aload_n hx hb dX5_nextPart_158 rfl (lv_at hl 5 rfl) ?_
                      refine lv_iload hx hb dX5_nextPart_159 (lv_at hl 1 rfl) ?_
                      refine lv_lconst (v := 0) hx hb dX5_nextPart_161 (by decide) ?_
                      refine rl_aloadq hx hb dX5_nextPart_162 (lv_at hl 0 rfl) ?_
                      refine rl_callvQ (rl_runV (b := a) (As := [.int (nI (p0)), .long (0), va_rf (r0)]) (rest := []) hC hW (cC_Rec_put l D t A _ z1 x T Th3 hI3 hTP a j nu th hTa hD p0 hp0 _ r0 hq3_) cs_X5_107 im_X6_put sl_X6_put hD.2.2.2.1 rfl ⟨by simp only [rl_rm]; omega, by simp only [rl_rm]; omega⟩ rfl hl.1 rfl (Nat.le_of_ble_eq_true rfl) dX5_nextPart_164 ⟨by simp only [rl_rm]; omega, by simp only [rl_rm]; omega⟩) hW (fun f4 H locs hp hW => ?_)
                      obtain ⟨hI4, hsh4, hob4⟩ := hp
                      have hS4 : cRD t f4 x T Th3 r nx3 op3 wh3 := ⟨hI4, hrx3, hnl3_, hop3_, v3, la3, md3, hob4 _ _ hrd3⟩
                      have hJ4 := hJ3.tr (⟨fun _ h => h, hsh4, Nat.le_refl _, fun q => ⟨rfl, q⟩⟩ : cRJ t f3 Th3 nx3 op3 wh3 f4 Th3 nx3 op3 wh3)
                      exact rl_vret hC hW hr hlk (by simp only [rl_rm]; omega) (by simp only [rl_rm]; omega) ⟨rfl, ⟨Th3, nx3, op3, wh3, hS4, hJ4, by omega, by omega, (fun q e => by cases e)⟩⟩ dX5_nextPart_167
                  · exact absurd c10 (rg_mn (by omega) (by decide))
                · refine lv_aload_n hx hb dX5_nextPart_98 rfl (lv_at hl 3 rfl) ?_
                  refine rl_calllQ (rl_runV (b := r) (As := []) (rest := []) hC hW (cC_nextLeaf l D t A _ z x T Th r _ (op) _ hS2) cs_X5_48 im_X5_nextLeaf sl_X5_nextLeaf hrd2 rfl ⟨by simp only [rl_rm]; omega, by simp only [rl_rm]; omega⟩ rfl hl.1 rfl (Nat.le_of_ble_eq_true rfl) dX5_nextPart_99 ⟨by simp only [rl_rm]; omega, by simp only [rl_rm]; omega⟩) hW (fun y3 f3 H locs hp hW => ?_)
                  obtain ⟨nx3, wh3, hS3, hon3, hnx3, hw3, hy3⟩ := hp
                  have hJ3 := cRJ_leaf (t := t) (Th := Th) (op := op) hon3 hrd2 hnx3 hw3
                  obtain ⟨hI3, hrx3, hnl3, hop3, v3, la3, md3, hrd3⟩ := id hS3
                  have hJ23 := hJ3
                  replace hJ3 := hJ2.tr hJ3
                  refine lv_lstore (lv' := [(7, .long (y3)), (6, .int (nI (p0))), (4, .long (lN s0)), (2, .long (y1)), (0, .ref (r)), (1, .ref (a))]) hx hb dX5_nextPart_102 hl (by decide) rfl (fun ls hl => ?_)
                  refine lv_iload hx hb dX5_nextPart_104 (lv_at hl 1 rfl) ?_
                  refine lv_bipush (v := (-3)) hx hb dX5_nextPart_106 (by decide) ?_
                  refine lv_icmp_eq (tgt := 120) hx hb dX5_nextPart_108 (by decide) (fun c9 => ?_) (fun c9 => ?_)
                  · exact absurd c9 (rg_mn (by omega) (by decide))
                  · replace hD := hD.sh hJ23.2.1
                    refine lv_aload_n hx hb dX5_nextPart_111 rfl (lv_at hl 5 rfl) ?_
                    refine lv_iload hx hb dX5_nextPart_112 (lv_at hl 1 rfl) ?_
                    refine lv_lload hx hb dX5_nextPart_114 (lv_at hl 0 rfl) ?_
                    refine lv_null hx hb dX5_nextPart_116 ?_
                    refine rl_callvQ (rl_runV (b := a) (As := [.int (nI (p0)), .long (y3), .null]) (rest := []) hC hW (cC_Rec_put l D t A _ z x T Th hI3 hTP a j nu th hTa hD p0 hp0 _ none (fun q e => by cases e)) cs_X5_107 im_X6_put sl_X6_put hD.2.2.2.1 rfl ⟨by simp only [rl_rm]; omega, by simp only [rl_rm]; omega⟩ rfl hl.1 rfl (Nat.le_of_ble_eq_true rfl) dX5_nextPart_117 ⟨by simp only [rl_rm]; omega, by simp only [rl_rm]; omega⟩) hW (fun f4 H locs hp hW => ?_)
                    obtain ⟨hI4, hsh4, hob4⟩ := hp
                    have hS4 : cRD t f4 x T Th r nx3 op wh3 := ⟨hI4, hrx3, hnl3, hop3, v3, la3, md3, hob4 _ _ hrd3⟩
                    have hJ4 := hJ3.tr (⟨fun _ h => h, hsh4, Nat.le_refl _, fun q => ⟨rfl, q⟩⟩ : cRJ t f3 Th nx3 op wh3 f4 Th nx3 op wh3)
                    exact rl_vret hC hW hr hlk (by simp only [rl_rm]; omega) (by simp only [rl_rm]; omega) ⟨rfl, ⟨Th, nx3, op, wh3, hS4, hJ4, by omega, by omega, (fun q e => by cases e)⟩⟩ dX5_nextPart_120
              · exact rl_vret hC hW hr hlk (by simp only [rl_rm]; omega) (by simp only [rl_rm]; omega) ⟨rfl, ⟨Th, nx2, op, wh2, hS2, hJ2, by omega, by omega, (fun q e => by cases e)⟩⟩ dX5_nextPart_90
            · refine lv_aload_n hx hb dX5_nextPart_78 rfl (lv_at hl 3 rfl) ?_
              refine lv_iconst (v := (nI (1))) hx hb dX5_nextPart_79 (by decide) ?_
              refine rl_callvQ (rl_runV (b := r) (As := [.int (nI (1))]) (rest := []) hC hW (cC_fail l D t A _ z x T Th r _ (op) _ hS2 (nI 1) (by decide)) cs_X5_44 im_X5_fail sl_X5_fail hrd2 rfl ⟨by simp only [rl_rm]; omega, by simp only [rl_rm]; omega⟩ rfl hl.1 rfl (Nat.le_of_ble_eq_true rfl) dX5_nextPart_80 ⟨by simp only [rl_rm]; omega, by simp only [rl_rm]; omega⟩) hW (fun f3 H locs hp hW => ?_)
              obtain ⟨wh3, hne3, hS3, hon3⟩ := hp
              have hJ3 := cRJ_fail (t := t) (op1 := op) (Th := Th) (op := op) (nx := nx2) (wh := wh2) hon3 hrd2 hne3
              obtain ⟨hI3, hrx3, hnl3, hop3, v3, la3, md3, hrd3⟩ := id hS3
              replace hJ3 := hJ2.tr hJ3
              refine lv_aload_n hx hb dX5_nextPart_83 rfl (lv_at hl 3 rfl) ?_
              refine rl_get (v := .int (wh3)) hC hW fl_X5_23 hrd3 rfl dX5_nextPart_84 ?_
              refine lv_if_eq (tgt := 91) hx hb dX5_nextPart_87 (by decide) (fun c7 => ?_) (fun c7 => ?_)
              · exact absurd c7 hne3
              · exact rl_vret hC hW hr hlk (by simp only [rl_rm]; omega) (by simp only [rl_rm]; omega) ⟨rfl, ⟨Th, nx2, op, wh3, hS3, hJ3, by omega, by omega, (fun q e => by cases e)⟩⟩ dX5_nextPart_90
        · refine lv_istore (lv' := [(6, .int (-3)), (4, .long (lN s0)), (2, .long (y1)), (0, .ref (r)), (1, .ref (a))]) hx hb dX5_nextPart_49 hl (by decide) rfl (fun ls hl => ?_)
          refine lv_iload hx hb dX5_nextPart_51 (lv_at hl 0 rfl) ?_
          refine lv_bipush (v := (-3)) hx hb dX5_nextPart_53 (by decide) ?_
          refine lv_icmp_eq (tgt := 83) hx hb dX5_nextPart_55 (by decide) (fun c5 => ?_) (fun c5 => absurd rfl c5)
          refine lv_aload_n hx hb dX5_nextPart_83 rfl (lv_at hl 3 rfl) ?_
          refine rl_get (v := .int (wh2)) hC hW fl_X5_23 hrd2 rfl dX5_nextPart_84 ?_
          refine lv_if_eq (tgt := 91) hx hb dX5_nextPart_87 (by decide) (fun c7 => ?_) (fun c7 => ?_)
          · obtain ⟨hw0, hnx2e⟩ := hw2 c7
            refine lv_lload hx hb dX5_nextPart_91 (lv_at hl 1 rfl) ?_
            refine lv_lconst (v := 1) hx hb dX5_nextPart_93 (by decide) ?_
            refine W.lcmp hx hb dX5_nextPart_94 ?_
            refine lv_if_gt (tgt := 121) hx hb dX5_nextPart_95 (by decide) (fun c8 => ?_) (fun c8 => ?_)
            · have hs2 : 2 ≤ s0 := rg_gt1 (by omega) c8
              refine lv_aload_n hx hb dX5_nextPart_121 rfl (lv_at hl 3 rfl) ?_
              refine lv_lload hx hb dX5_nextPart_122 (lv_at hl 1 rfl) ?_
              refine lv_l2i hx hb dX5_nextPart_124 rfl ?_
              refine rl_topn (lN_i _) ?_
              refine lv_iload hx hb dX5_nextPart_125 (lv_at hl 0 rfl) ?_
              refine lv_bipush (v := (-3)) hx hb dX5_nextPart_127 (by decide) ?_
              refine lv_icmp_ne (tgt := 136) hx hb dX5_nextPart_129 (by decide) (fun c10 => ?_) (fun c10 => ?_)
              · exact absurd rfl c10
              · refine lv_null hx hb dX5_nextPart_132 ?_
                refine lv_goto (tgt := 146) hx hb dX5_nextPart_133 (by decide) ?_
                refine rl_callq (rl_runV (b := r) (As := [.int (nI (s0)), .null]) (rest := []) hC hW (cC_nextThing l D t A _ z x T Th r _ op _ hS2 hNR s0 (none) (fun q e => by cases e)) cs_X5_111 im_X5_nextThing sl_X5_nextThing hrd2 rfl ⟨by simp only [rl_rm]; omega, by simp only [rl_rm]; omega⟩ rfl hl.1 rfl (Nat.le_of_ble_eq_true rfl) dX5_nextPart_146 ⟨by simp only [rl_rm]; omega, by simp only [rl_rm]; omega⟩) hW (fun r0 f3 z1 d1 H locs hp hW hz1 => ?_)
                obtain ⟨Th3, nx3, op3, wh3, hS3, hJ3, hz3, hd3, hqr3⟩ := hp
                have hnb3 : nx3 ≤ 250 := hS3.2.2.1
                have hnl3z := hJ3.2.2.1
                replace hJ3 := hJ2.tr hJ3
                refine rl_astoreq (lv' := [(7, va_rf (r0)), (6, .int (-3)), (4, .long (lN s0)), (2, .long (y1)), (0, .ref (r)), (1, .ref (a))]) hx hb dX5_nextPart_149 hl (by decide) rfl (fun ls hl => ?_)
                refine lv_iload hx hb dX5_nextPart_151 (lv_at hl 1 rfl) ?_
                refine lv_bipush (v := (-3)) hx hb dX5_nextPart_153 (by decide) ?_
                refine lv_icmp_eq (tgt := 167) hx hb dX5_nextPart_155 (by decide) (fun c5 => ?_) (fun c5 => absurd rfl c5)
                exact rl_vret hC hW hr hlk (by simp only [rl_rm]; omega) (by simp only [rl_rm]; omega) ⟨rfl, ⟨Th3, nx3, op3, wh3, hS3, hJ3, by omega, by omega, (fun q e => by cases e)⟩⟩ dX5_nextPart_167
            · refine lv_aload_n hx hb dX5_nextPart_98 rfl (lv_at hl 3 rfl) ?_
              refine rl_calllQ (rl_runV (b := r) (As := []) (rest := []) hC hW (cC_nextLeaf l D t A _ z x T Th r _ (op) _ hS2) cs_X5_48 im_X5_nextLeaf sl_X5_nextLeaf hrd2 rfl ⟨by simp only [rl_rm]; omega, by simp only [rl_rm]; omega⟩ rfl hl.1 rfl (Nat.le_of_ble_eq_true rfl) dX5_nextPart_99 ⟨by simp only [rl_rm]; omega, by simp only [rl_rm]; omega⟩) hW (fun y3 f3 H locs hp hW => ?_)
              obtain ⟨nx3, wh3, hS3, hon3, hnx3, hw3, hy3⟩ := hp
              have hJ3 := cRJ_leaf (t := t) (Th := Th) (op := op) hon3 hrd2 hnx3 hw3
              obtain ⟨hI3, hrx3, hnl3, hop3, v3, la3, md3, hrd3⟩ := id hS3
              have hJ23 := hJ3
              replace hJ3 := hJ2.tr hJ3
              refine lv_lstore (lv' := [(7, .long (y3)), (6, .int (-3)), (4, .long (lN s0)), (2, .long (y1)), (0, .ref (r)), (1, .ref (a))]) hx hb dX5_nextPart_102 hl (by decide) rfl (fun ls hl => ?_)
              refine lv_iload hx hb dX5_nextPart_104 (lv_at hl 1 rfl) ?_
              refine lv_bipush (v := (-3)) hx hb dX5_nextPart_106 (by decide) ?_
              refine lv_icmp_eq (tgt := 120) hx hb dX5_nextPart_108 (by decide) (fun c5 => ?_) (fun c5 => absurd rfl c5)
              exact rl_vret hC hW hr hlk (by simp only [rl_rm]; omega) (by simp only [rl_rm]; omega) ⟨rfl, ⟨Th, nx3, op, wh3, hS3, hJ3, by omega, by omega, (fun q e => by cases e)⟩⟩ dX5_nextPart_120
          · exact rl_vret hC hW hr hlk (by simp only [rl_rm]; omega) (by simp only [rl_rm]; omega) ⟨rfl, ⟨Th, nx2, op, wh2, hS2, hJ2, by omega, by omega, (fun q e => by cases e)⟩⟩ dX5_nextPart_90
      · refine lv_aload_n hx hb dX5_nextPart_27 rfl (lv_at hl 2 rfl) ?_
        refine lv_iconst (v := (nI (2))) hx hb dX5_nextPart_28 (by decide) ?_
        refine rl_callvQ (rl_runV (b := r) (As := [.int (nI (2))]) (rest := []) hC hW (cC_fail l D t A _ z x T Th r _ (op) _ hS2 (nI 2) (by decide)) cs_X5_44 im_X5_fail sl_X5_fail hrd2 rfl ⟨by simp only [rl_rm]; omega, by simp only [rl_rm]; omega⟩ rfl hl.1 rfl (Nat.le_of_ble_eq_true rfl) dX5_nextPart_29 ⟨by simp only [rl_rm]; omega, by simp only [rl_rm]; omega⟩) hW (fun f3 H locs hp hW => ?_)
        obtain ⟨wh3, hne3, hS3, hon3⟩ := hp
        have hJ3 := cRJ_fail (t := t) (op1 := op) (Th := Th) (op := op) (nx := nx2) (wh := wh2) hon3 hrd2 hne3
        obtain ⟨hI3, hrx3, hnl3, hop3, v3, la3, md3, hrd3⟩ := id hS3
        replace hJ3 := hJ2.tr hJ3
        refine lv_aload_n hx hb dX5_nextPart_32 rfl (lv_at hl 3 rfl) ?_
        refine lv_ifnonnull (tgt := 41) hx hb dX5_nextPart_33 (by decide) ?_
        refine lv_aload_n hx hb dX5_nextPart_41 rfl (lv_at hl 3 rfl) ?_
        obtain ⟨hTa, j, nu, th, hD⟩ := (hdr.j hJ3) a rfl
        obtain ⟨hj, hnu, hth, h0, -⟩ := id hD
        obtain ⟨gn, gt, h1, h2, h3⟩ := hD.op (hI3.th hTa)
        obtain ⟨hrv, hj5, hj2, ⟨gp, hpa, hpp⟩, -⟩ := id (hI3.2.2.1 j hj)
        refine rl_get (v := .ref (x + 16 + 3 * j)) hC hW fl_X5_79 h0 rfl dX5_nextPart_42 ?_
        refine lv_lload_n hx hb dX5_nextPart_45 rfl (lv_at hl 1 rfl) ?_
        refine rl_calliQ (rl_runV (b := x + 16 + 3 * j) (As := [.long (y1)]) (rest := []) hC hW (cC_partNamed l D t A _ z x T Th hI3 j hj _) cs_X5_94 im_X7_partNamed sl_X7_partNamed hrv rfl ⟨by simp only [rl_rm]; omega, by simp only [rl_rm]; omega⟩ rfl hl.1 rfl (Nat.le_of_ble_eq_true rfl) dX5_nextPart_46 ⟨by simp only [rl_rm]; omega, by simp only [rl_rm]; omega⟩) hW (fun p9 f1 H locs hp hW => ?_)
        obtain ⟨rfl, hp⟩ := hp
        rcases hp with ⟨p0, hp0, rfl, he⟩ | ⟨rfl, hp⟩
        · obtain ⟨q, o, hq1, hq2, hq3⟩ := hpp p0 hp0
          refine lv_istore (lv' := [(6, .int (nI (p0))), (4, .long (y2)), (2, .long (y1)), (0, .ref (r)), (1, .ref (a))]) hx hb dX5_nextPart_49 hl (by decide) rfl (fun ls hl => ?_)
          refine lv_iload hx hb dX5_nextPart_51 (lv_at hl 0 rfl) ?_
          refine lv_bipush (v := (-3)) hx hb dX5_nextPart_53 (by decide) ?_
          refine lv_icmp_eq (tgt := 83) hx hb dX5_nextPart_55 (by decide) (fun c5 => ?_) (fun c5 => ?_)
          · exact absurd c5 (rg_mn (by omega) (by decide))
          · refine lv_aload_n hx hb dX5_nextPart_58 rfl (lv_at hl 4 rfl) ?_
            refine rl_get (v := .ref (x + 16 + 3 * j)) hC hW fl_X5_79 h0 rfl dX5_nextPart_59 ?_
            refine rl_get (v := .ref (x + 17 + 3 * j)) hC hW fl_X5_98 hrv rfl dX5_nextPart_62 ?_
            refine lv_iload hx hb dX5_nextPart_65 (lv_at hl 0 rfl) ?_
            refine rl_aald_n 5 hC hW rfl hpa (by omega) (by decide) dX5_nextPart_67 ?_
            refine rl_topq (hq1) ?_
            refine rl_get (v := .int (nI (T 4 (5 * j + p0)))) hC hW fl_X5_102 hq3 rfl dX5_nextPart_68 ?_
            refine lv_i2l hx hb dX5_nextPart_71 rfl ?_
            refine lv_lload hx hb dX5_nextPart_72 (lv_at hl 1 rfl) ?_
            refine W.lcmp hx hb dX5_nextPart_74 ?_
            refine lv_if_eq (tgt := 83) hx hb dX5_nextPart_75 (by decide) (fun c6 => ?_) (fun c6 => ?_)
            · refine lv_aload_n hx hb dX5_nextPart_83 rfl (lv_at hl 3 rfl) ?_
              refine rl_get (v := .int (wh3)) hC hW fl_X5_23 hrd3 rfl dX5_nextPart_84 ?_
              refine lv_if_eq (tgt := 91) hx hb dX5_nextPart_87 (by decide) (fun c7 => ?_) (fun c7 => ?_)
              · exact absurd c7 hne3
              · exact rl_vret hC hW hr hlk (by simp only [rl_rm]; omega) (by simp only [rl_rm]; omega) ⟨rfl, ⟨Th, nx2, op, wh3, hS3, hJ3, by omega, by omega, (fun q e => by cases e)⟩⟩ dX5_nextPart_90
            · refine lv_aload_n hx hb dX5_nextPart_78 rfl (lv_at hl 3 rfl) ?_
              refine lv_iconst (v := (nI (1))) hx hb dX5_nextPart_79 (by decide) ?_
              refine rl_callvQ (rl_runV (b := r) (As := [.int (nI (1))]) (rest := []) hC hW (cC_fail l D t A _ z x T Th r _ (op) _ hS3 (nI 1) (by decide)) cs_X5_44 im_X5_fail sl_X5_fail hrd3 rfl ⟨by simp only [rl_rm]; omega, by simp only [rl_rm]; omega⟩ rfl hl.1 rfl (Nat.le_of_ble_eq_true rfl) dX5_nextPart_80 ⟨by simp only [rl_rm]; omega, by simp only [rl_rm]; omega⟩) hW (fun f4 H locs hp hW => ?_)
              obtain ⟨wh4, hne4, hS4, hon4⟩ := hp
              have hJ4 := cRJ_fail (t := t) (op1 := op) (Th := Th) (op := op) (nx := nx2) (wh := wh3) hon4 hrd3 hne4
              obtain ⟨hI4, hrx4, hnl4, hop4, v4, la4, md4, hrd4⟩ := id hS4
              replace hJ4 := hJ3.tr hJ4
              refine lv_aload_n hx hb dX5_nextPart_83 rfl (lv_at hl 3 rfl) ?_
              refine rl_get (v := .int (wh4)) hC hW fl_X5_23 hrd4 rfl dX5_nextPart_84 ?_
              refine lv_if_eq (tgt := 91) hx hb dX5_nextPart_87 (by decide) (fun c7 => ?_) (fun c7 => ?_)
              · exact absurd c7 hne4
              · exact rl_vret hC hW hr hlk (by simp only [rl_rm]; omega) (by simp only [rl_rm]; omega) ⟨rfl, ⟨Th, nx2, op, wh4, hS4, hJ4, by omega, by omega, (fun q e => by cases e)⟩⟩ dX5_nextPart_90
        · refine lv_istore (lv' := [(6, .int (-3)), (4, .long (y2)), (2, .long (y1)), (0, .ref (r)), (1, .ref (a))]) hx hb dX5_nextPart_49 hl (by decide) rfl (fun ls hl => ?_)
          refine lv_iload hx hb dX5_nextPart_51 (lv_at hl 0 rfl) ?_
          refine lv_bipush (v := (-3)) hx hb dX5_nextPart_53 (by decide) ?_
          refine lv_icmp_eq (tgt := 83) hx hb dX5_nextPart_55 (by decide) (fun c5 => ?_) (fun c5 => absurd rfl c5)
          refine lv_aload_n hx hb dX5_nextPart_83 rfl (lv_at hl 3 rfl) ?_
          refine rl_get (v := .int (wh3)) hC hW fl_X5_23 hrd3 rfl dX5_nextPart_84 ?_
          refine lv_if_eq (tgt := 91) hx hb dX5_nextPart_87 (by decide) (fun c7 => ?_) (fun c7 => ?_)
          · exact absurd c7 hne3
          · exact rl_vret hC hW hr hlk (by simp only [rl_rm]; omega) (by simp only [rl_rm]; omega) ⟨rfl, ⟨Th, nx2, op, wh3, hS3, hJ3, by omega, by omega, (fun q e => by cases e)⟩⟩ dX5_nextPart_90
