
theorem rg_l2 {k : Nat} (hk : k < 4) : lN (2 + k) ≠ 0 := fun e => by
  have h := congrArg Int64.toInt e
  rw [lN_toInt (by omega), show (0 : Int64).toInt = 0 by decide] at h
  omega
theorem rg_minl (y : Int64) : (if (250 : Int64) < y then (250 : Int64) else y) ≤ 250 := by
  split
  · exact Int64.le_refl _
  · rename_i h
    exact Int64.not_lt.mp h
theorem rg_i250 {i : Nat} {N : Int64} (hN : N ≤ 250) (hi : i ≤ 250) (h : ¬ 0 ≤ lg_cmp (nI i).toInt64 N) : i < 250 := by
  rw [lg_cmp_ge, nI_l (by omega)] at h
  rcases Nat.lt_or_ge i 250 with h1 | h1
  · exact h1
  · have e : i = 250 := by omega
    subst e
    exact absurd hN h
theorem rg_l5 {x : Int64} (h1 : ¬ x < 0) (h2 : x < 5) : ∃ c : Nat, c < 5 ∧ x = lN c := by
  rw [Int64.lt_iff_toInt_lt, show (0 : Int64).toInt = 0 by decide] at h1
  rw [Int64.lt_iff_toInt_lt, show (5 : Int64).toInt = 5 by decide] at h2
  refine ⟨x.toInt.toNat, by omega, ?_⟩
  apply Int64.toInt_inj.mp
  rw [lN_toInt (by omega)]
  omega

set_option maxHeartbeats 4000000 in
set_option maxRecDepth 100000 in
theorem cC_finished (l : Launch) (D : va_G) (t : Nat → ClassId) (A : Nat → Prop) (f : rl_M) (z : Nat) (x : Nat) (T : Nat → Nat → Nat) (Th : Nat → Prop) (r nx op : Nat) (wh : Int32) (hS : cRD t f x T Th r nx op wh) (hTP : rt_pure T) (hTK : rt_pk T) (dr : Option Nat) (hdr : cDO t f x T Th dr) (hop1 : wh = 0 → 1 ≤ op) : rl_Met l yX5_finished (.code yX5_finished cX5_finished 2 (some (FieldType.object "RecordLeaves$RecordThing"))) (rl_rm 4 0 0) D t A f z [.ref (r), va_rf (dr)] (rl_qq z fun r0 f1 => ∃ (op1 : Nat) (wh1 : Int32), cRD t f1 x T Th r nx op1 wh1 ∧ rl_on r f f1 ∧ (wh1 = 0 → wh = 0 ∧ op1 + 1 = op) ∧ ∀ q, r0 = some q → Th q) := by
  refine rl_begin (own := RX5) (lv := [(0, .ref (r)), (1, va_rf (dr))]) (by decide +kernel) rfl (by cases dr <;> exact Nat.le_of_ble_eq_true rfl) (by cases dr <;> rfl) fun p e s m0 args below meth c ls H locs hC hr hlk hnm hW hl hx hb => ?_
  have hon := rl_on.rf (r := r) (f := f)
  obtain ⟨hI, hrx, hnl, hop, v, la, md, hrd⟩ := id hS
  refine lv_aload_n hx hb dX5_finished_0 rfl (lv_at hl 0 rfl) ?_
  refine rl_get (v := .int (wh)) hC hW fl_X5_23 hrd rfl dX5_finished_1 ?_
  refine lv_if_ne (tgt := 44) hx hb dX5_finished_4 (by decide) (fun c1 => ?_) (fun c1 => ?_)
  · refine lv_aload_n hx hb dX5_finished_44 rfl (lv_at hl 0 rfl) ?_
    refine rl_get (v := .int (wh)) hC hW fl_X5_23 hrd rfl dX5_finished_45 ?_
    refine lv_if_eq (tgt := 53) hx hb dX5_finished_48 (by decide) (fun c2 => ?_) (fun c2 => ?_)
    · exact absurd c2 c1
    · refine lv_null hx hb dX5_finished_51 ?_
      exact rl_aret (v := none) hC hW hr hlk (Nat.le_refl _) (Nat.le_refl _) ⟨_, rfl, rfl, rfl, op, wh, hS, hon, (fun q => absurd q c1), fun q e => by cases e⟩ dX5_finished_52
  · subst c1
    have hop1 := hop1 rfl
    rcases dr with _ | a
    · refine lv_aload_nN hx hb dX5_finished_7 rfl (lv_at hl 1 rfl) ?_
      refine lv_ifnullN (tgt := 44) hx hb dX5_finished_8 (by decide) ?_
      refine lv_aload_n hx hb dX5_finished_44 rfl (lv_at hl 0 rfl) ?_
      refine rl_get (v := .int (0)) hC hW fl_X5_23 hrd rfl dX5_finished_45 ?_
      refine lv_if_eq (tgt := 53) hx hb dX5_finished_48 (by decide) (fun c2 => ?_) (fun c2 => ?_)
      · refine lv_aload_n hx hb dX5_finished_53 rfl (lv_at hl 0 rfl) ?_
        refine lv_dup hx hb dX5_finished_54 rfl ?_
        refine rl_get (v := .int (nI (op))) hC hW fl_X5_41 hrd rfl dX5_finished_55 ?_
        refine lv_iconst (v := (nI (1))) hx hb dX5_finished_58 (by decide) ?_
        refine lv_isub hx hb dX5_finished_59 ?_
        refine rl_topn (rg_sub (c := op - 1) (by omega)) ?_
        refine rl_put (v := .int (nI (op - 1))) hC hW fp_X5_41 hrd (Nat.le_of_ble_eq_true rfl) rfl rfl dX5_finished_60 (fun H locs hW => ?_)
        replace hW : rl_W D A (rl_up _ r (.inr (5, [.ref (x + 1), .ref (x + 55), .int (v), .int (nI (nx)), .int (la), .int (nI (op - 1)), .int (0), .int (md)]))) z s.heap H locs := hW
        replace hI := hI.rdr (fs2 := [.ref (x + 1), .ref (x + 55), .int (v), .int (nI (nx)), .int (la), .int (nI (op - 1)), .int (0), .int (md)]) hrx hrd
        replace hon := hon.tr (rl_on.up (r := r) (e := .inr (5, [.ref (x + 1), .ref (x + 55), .int (v), .int (nI (nx)), .int (la), .int (nI (op - 1)), .int (0), .int (md)])))
        replace hrd := rl_ups hrd (.inr (5, [.ref (x + 1), .ref (x + 55), .int (v), .int (nI (nx)), .int (la), .int (nI (op - 1)), .int (0), .int (md)]))
        refine lv_aload_nN hx hb dX5_finished_63 rfl (lv_at hl 1 rfl) ?_
        exact rl_aret (v := none) hC hW hr hlk (Nat.le_refl _) (Nat.le_refl _) ⟨_, rfl, rfl, rfl, op - 1, 0, ⟨hI, hrx, hnl, by omega, _, _, _, hrd⟩, hon, (fun _ => ⟨rfl, by omega⟩), fun q e => by cases e⟩ dX5_finished_64
      · exact absurd rfl c2
    · obtain ⟨hTa, j, nu, th, hD⟩ := hdr a rfl
      obtain ⟨hj, hnu, hth, h0, -⟩ := id hD
      obtain ⟨gn, gt, h1, h2, h3⟩ := hD.op (hI.th hTa)
      obtain ⟨hrv, hj5, hj2, ⟨gp, hpa, hpp⟩, ⟨gk, hka, hkk⟩⟩ := id (hI.2.2.1 j hj)
      refine lv_aload_n hx hb dX5_finished_7 rfl (lv_at hl 1 rfl) ?_
      refine lv_ifnull hx hb dX5_finished_8 ?_
      refine lv_aload_n hx hb dX5_finished_11 rfl (lv_at hl 0 rfl) ?_
      refine lv_aload_n hx hb dX5_finished_12 rfl (lv_at hl 1 rfl) ?_
      refine rl_get (v := .ref (x + 16 + 3 * j)) hC hW fl_X5_79 h0 rfl dX5_finished_13 ?_
      refine lv_aload_n hx hb dX5_finished_16 rfl (lv_at hl 1 rfl) ?_
      refine rl_calliQ (rl_runV (b := x + 16 + 3 * j) (As := [.ref (a)]) (rest := [.ref (r)]) hC hW (cC_whyNotMade l D t A _ z x T Th hI hTP hTK a j nu th hTa hD) cs_X5_83 im_X7_whyNotMade sl_X7_whyNotMade hrv rfl ⟨(Nat.le_of_ble_eq_true rfl), (Nat.le_of_ble_eq_true rfl)⟩ rfl hl.1 rfl (Nat.le_of_ble_eq_true rfl) dX5_finished_17 ⟨(Nat.le_of_ble_eq_true rfl), (Nat.le_of_ble_eq_true rfl)⟩) hW (fun why f1 H locs hp hW => ?_)
      obtain rfl := hp
      refine rl_put (v := .int (why)) hC hW fp_X5_23 hrd (Nat.le_of_ble_eq_true rfl) rfl rfl dX5_finished_20 (fun H locs hW => ?_)
      replace hW : rl_W D A (rl_up _ r (.inr (5, [.ref (x + 1), .ref (x + 55), .int (v), .int (nI (nx)), .int (la), .int (nI (op)), .int (why), .int (md)]))) z s.heap H locs := hW
      replace hI := hI.rdr (fs2 := [.ref (x + 1), .ref (x + 55), .int (v), .int (nI (nx)), .int (la), .int (nI (op)), .int (why), .int (md)]) hrx hrd
      replace hon := hon.tr (rl_on.up (r := r) (e := .inr (5, [.ref (x + 1), .ref (x + 55), .int (v), .int (nI (nx)), .int (la), .int (nI (op)), .int (why), .int (md)])))
      replace hrd := rl_ups hrd (.inr (5, [.ref (x + 1), .ref (x + 55), .int (v), .int (nI (nx)), .int (la), .int (nI (op)), .int (why), .int (md)]))
      refine lv_aload_n hx hb dX5_finished_23 rfl (lv_at hl 0 rfl) ?_
      refine lv_dup hx hb dX5_finished_24 rfl ?_
      refine rl_get (v := .int (md)) hC hW fl_X5_89 hrd rfl dX5_finished_25 ?_
      refine lv_aload_n hx hb dX5_finished_28 rfl (lv_at hl 0 rfl) ?_
      refine rl_get (v := .int (why)) hC hW fl_X5_23 hrd rfl dX5_finished_29 ?_
      refine lv_if_ne (tgt := 39) hx hb dX5_finished_32 (by decide) (fun c2 => ?_) (fun c2 => ?_)
      · refine lv_iconst (v := (nI (0))) hx hb dX5_finished_39 (by decide) ?_
        refine lv_iadd hx hb dX5_finished_40 ?_
        refine lv_topi (fun x_1 ex_1 => ?_)
        refine rl_put (v := .int (x_1)) hC hW fp_X5_89 hrd (Nat.le_of_ble_eq_true rfl) rfl rfl dX5_finished_41 (fun H locs hW => ?_)
        replace hW : rl_W D A (rl_up _ r (.inr (5, [.ref (x + 1), .ref (x + 55), .int (v), .int (nI (nx)), .int (la), .int (nI (op)), .int (why), .int (x_1)]))) z s.heap H locs := hW
        replace hI := hI.rdr (fs2 := [.ref (x + 1), .ref (x + 55), .int (v), .int (nI (nx)), .int (la), .int (nI (op)), .int (why), .int (x_1)]) hrx hrd
        replace hon := hon.tr (rl_on.up (r := r) (e := .inr (5, [.ref (x + 1), .ref (x + 55), .int (v), .int (nI (nx)), .int (la), .int (nI (op)), .int (why), .int (x_1)])))
        replace hrd := rl_ups hrd (.inr (5, [.ref (x + 1), .ref (x + 55), .int (v), .int (nI (nx)), .int (la), .int (nI (op)), .int (why), .int (x_1)]))
        refine lv_aload_n hx hb dX5_finished_44 rfl (lv_at hl 0 rfl) ?_
        refine rl_get (v := .int (why)) hC hW fl_X5_23 hrd rfl dX5_finished_45 ?_
        refine lv_if_eq (tgt := 53) hx hb dX5_finished_48 (by decide) (fun c3 => ?_) (fun c3 => ?_)
        · exact absurd c3 c2
        · refine lv_null hx hb dX5_finished_51 ?_
          exact rl_aret (v := none) hC hW hr hlk (Nat.le_refl _) (Nat.le_refl _) ⟨_, rfl, rfl, rfl, op, why, ⟨hI, hrx, hnl, hop, _, _, _, hrd⟩, hon, (fun q => absurd q c2), fun q e => by cases e⟩ dX5_finished_52
      · refine lv_iconst (v := (nI (1))) hx hb dX5_finished_35 (by decide) ?_
        refine lv_goto (tgt := 40) hx hb dX5_finished_36 (by decide) ?_
        refine lv_iadd hx hb dX5_finished_40 ?_
        refine lv_topi (fun x_2 ex_2 => ?_)
        refine rl_put (v := .int (x_2)) hC hW fp_X5_89 hrd (Nat.le_of_ble_eq_true rfl) rfl rfl dX5_finished_41 (fun H locs hW => ?_)
        replace hW : rl_W D A (rl_up _ r (.inr (5, [.ref (x + 1), .ref (x + 55), .int (v), .int (nI (nx)), .int (la), .int (nI (op)), .int (why), .int (x_2)]))) z s.heap H locs := hW
        replace hI := hI.rdr (fs2 := [.ref (x + 1), .ref (x + 55), .int (v), .int (nI (nx)), .int (la), .int (nI (op)), .int (why), .int (x_2)]) hrx hrd
        replace hon := hon.tr (rl_on.up (r := r) (e := .inr (5, [.ref (x + 1), .ref (x + 55), .int (v), .int (nI (nx)), .int (la), .int (nI (op)), .int (why), .int (x_2)])))
        replace hrd := rl_ups hrd (.inr (5, [.ref (x + 1), .ref (x + 55), .int (v), .int (nI (nx)), .int (la), .int (nI (op)), .int (why), .int (x_2)]))
        refine lv_aload_n hx hb dX5_finished_44 rfl (lv_at hl 0 rfl) ?_
        refine rl_get (v := .int (why)) hC hW fl_X5_23 hrd rfl dX5_finished_45 ?_
        refine lv_if_eq (tgt := 53) hx hb dX5_finished_48 (by decide) (fun c3 => ?_) (fun c3 => ?_)
        · refine lv_aload_n hx hb dX5_finished_53 rfl (lv_at hl 0 rfl) ?_
          refine lv_dup hx hb dX5_finished_54 rfl ?_
          refine rl_get (v := .int (nI (op))) hC hW fl_X5_41 hrd rfl dX5_finished_55 ?_
          refine lv_iconst (v := (nI (1))) hx hb dX5_finished_58 (by decide) ?_
          refine lv_isub hx hb dX5_finished_59 ?_
          refine rl_topn (rg_sub (c := op - 1) (by omega)) ?_
          refine rl_put (v := .int (nI (op - 1))) hC hW fp_X5_41 hrd (Nat.le_of_ble_eq_true rfl) rfl rfl dX5_finished_60 (fun H locs hW => ?_)
          replace hW : rl_W D A (rl_up _ r (.inr (5, [.ref (x + 1), .ref (x + 55), .int (v), .int (nI (nx)), .int (la), .int (nI (op - 1)), .int (why), .int (x_2)]))) z s.heap H locs := hW
          replace hI := hI.rdr (fs2 := [.ref (x + 1), .ref (x + 55), .int (v), .int (nI (nx)), .int (la), .int (nI (op - 1)), .int (why), .int (x_2)]) hrx hrd
          replace hon := hon.tr (rl_on.up (r := r) (e := .inr (5, [.ref (x + 1), .ref (x + 55), .int (v), .int (nI (nx)), .int (la), .int (nI (op - 1)), .int (why), .int (x_2)])))
          replace hrd := rl_ups hrd (.inr (5, [.ref (x + 1), .ref (x + 55), .int (v), .int (nI (nx)), .int (la), .int (nI (op - 1)), .int (why), .int (x_2)]))
          refine lv_aload_n hx hb dX5_finished_63 rfl (lv_at hl 1 rfl) ?_
          exact rl_aret (v := some (a)) hC hW hr hlk (Nat.le_refl _) (Nat.le_refl _) ⟨_, rfl, rfl, rfl, op - 1, why, ⟨hI, hrx, hnl, by omega, _, _, _, hrd⟩, hon, (fun _ => ⟨rfl, by omega⟩), fun q e => by cases e; exact hTa⟩ dX5_finished_64
        · exact absurd c2 c3

theorem cRJ_leaf {t : Nat → ClassId} {f f1 : rl_M} {Th : Nat → Prop} {r nx nx1 op : Nat} {wh wh1 : Int32} {fs : List Value} (hon : rl_on r f f1) (hr : f r = some (.inr (5, fs))) (hn : nx ≤ nx1) (hw : wh1 = 0 → wh = 0 ∧ nx1 = nx + 1) : cRJ t f Th nx op wh f1 Th nx1 op wh1 := ⟨fun _ h => h, hon.sh hr, hn, fun q => ⟨rfl, (hw q).1⟩⟩
theorem cRJ_fail {t : Nat → ClassId} {f f1 : rl_M} {Th : Nat → Prop} {r nx op op1 : Nat} {wh wh1 : Int32} {fs : List Value} (hon : rl_on r f f1) (hr : f r = some (.inr (5, fs))) (hn : wh1 ≠ 0) : cRJ t f Th nx op wh f1 Th nx op1 wh1 := ⟨fun _ h => h, hon.sh hr, Nat.le_refl _, fun q => absurd q hn⟩
theorem cRJ_thing {t : Nat → ClassId} {f f1 : rl_M} {Th Th1 : Nat → Prop} {nx nx1 op op1 : Nat} {wh wh1 : Int32} (h : cRJ t f Th nx op wh f1 Th nx1 op1 wh1) (ht : ∀ q, Th q → Th1 q) : cRJ t f Th nx op wh f1 Th1 nx1 op1 wh1 := ⟨ht, h.2⟩

set_option maxHeartbeats 4000000 in
set_option maxRecDepth 100000 in
theorem cC_nextConstant (l : Launch) (D : va_G) (t : Nat → ClassId) (A : Nat → Prop) (f : rl_M) (z : Nat) (x : Nat) (T : Nat → Nat → Nat) (Th : Nat → Prop) (r nx op : Nat) (wh : Int32) (hS : cRD t f x T Th r nx op wh) (pr : Option Nat) (hpr : ∀ q, pr = some q → ∃ pn ps po : Int32, f q = some (.inr (4, [.int pn, .int ps, .int po]))) : rl_Met l yX5_nextConstant (.code yX5_nextConstant cX5_nextConstant 6 (some (FieldType.object "RecordLeaves$Constant"))) (rl_rm 3 0 0) D t A f z [.ref (r), va_rf (pr)] (rl_qq z fun r0 f1 => cST t x T r f Th z nx op wh r0 f1 z 0) := by
  refine rl_begin (own := RX5) (lv := [(0, .ref (r)), (1, va_rf (pr))]) (by decide +kernel) rfl (by cases pr <;> exact Nat.le_of_ble_eq_true rfl) (by cases pr <;> rfl) fun p e s m0 args below meth c ls H locs hC hr hlk hnm hW hl hx hb => ?_
  obtain ⟨hI, hrx, hnl, hop, v, la, md, hrd⟩ := id hS
  refine lv_aload_n hx hb dX5_nextConstant_0 rfl (lv_at hl 0 rfl) ?_
  refine rl_calllQ (rl_runV (b := r) (As := []) (rest := []) hC hW (cC_nextLeaf l D t A _ z x T Th r _ (op) _ hS) cs_X5_48 im_X5_nextLeaf sl_X5_nextLeaf hrd rfl ⟨(Nat.le_of_ble_eq_true rfl), (Nat.le_of_ble_eq_true rfl)⟩ rfl hl.1 rfl (Nat.le_of_ble_eq_true rfl) dX5_nextConstant_1 ⟨(Nat.le_of_ble_eq_true rfl), (Nat.le_of_ble_eq_true rfl)⟩) hW (fun y1 f1 H locs hp hW => ?_)
  obtain ⟨nx1, wh1, hS1, hon1, hnx1, hw1, hy1⟩ := hp
  have hJ1 := cRJ_leaf (t := t) (Th := Th) (op := op) hon1 hrd hnx1 hw1
  obtain ⟨hI1, hrx1, hnl1, hop1, v1, la1, md1, hrd1⟩ := id hS1
  rcases pr with _ | a
  · refine lv_lstore_n (lv' := [(2, .long (y1)), (0, .ref (r)), (1, .null)]) hx hb dX5_nextConstant_4 rfl hl (by decide) rfl (fun ls hl => ?_)
    refine lv_aload_nN hx hb dX5_nextConstant_5 rfl (lv_at hl 2 rfl) ?_
    refine lv_ifnullN (tgt := 24) hx hb dX5_nextConstant_6 (by decide) ?_
    refine lv_null hx hb dX5_nextConstant_24 ?_
    exact rl_aret (v := none) hC hW hr hlk (Nat.le_refl _) (Nat.le_refl _) ⟨_, rfl, rfl, rfl, ⟨Th, nx1, op, wh1, hS1, hJ1, by omega, by omega, (fun q e => by cases e)⟩⟩ dX5_nextConstant_25
  · obtain ⟨pn, ps, po, hP⟩ := hpr a rfl
    have hP1 := hon1 _ _ hP (rl_ne hP hrd (by simp))
    obtain ⟨hk0, -, -⟩ := id hI1.1
    refine lv_lstore_n (lv' := [(2, .long (y1)), (0, .ref (r)), (1, .ref (a))]) hx hb dX5_nextConstant_4 rfl hl (by decide) rfl (fun ls hl => ?_)
    refine lv_aload_n hx hb dX5_nextConstant_5 rfl (lv_at hl 2 rfl) ?_
    refine lv_ifnull hx hb dX5_nextConstant_6 ?_
    refine lv_lload_n hx hb dX5_nextConstant_9 rfl (lv_at hl 0 rfl) ?_
    refine lv_ldc2 (v := -1) hx hb hC.2.2.2.1 (hC.2.2.2.2.1 _ (List.mem_cons_of_mem _ mw_608)) dX5_nextConstant_10 ?_
    refine W.lcmp hx hb dX5_nextConstant_13 ?_
    refine lv_if_eq (tgt := 24) hx hb dX5_nextConstant_14 (by decide) (fun c2 => ?_) (fun c2 => ?_)
    · refine lv_null hx hb dX5_nextConstant_24 ?_
      exact rl_aret (v := none) hC hW hr hlk (Nat.le_refl _) (Nat.le_refl _) ⟨_, rfl, rfl, rfl, ⟨Th, nx1, op, wh1, hS1, hJ1, by omega, by omega, (fun q e => by cases e)⟩⟩ dX5_nextConstant_25
    · refine lv_aload_n hx hb dX5_nextConstant_17 rfl (lv_at hl 1 rfl) ?_
      refine rl_get (v := .int (wh1)) hC hW fl_X5_23 hrd1 rfl dX5_nextConstant_18 ?_
      refine lv_if_eq (tgt := 26) hx hb dX5_nextConstant_21 (by decide) (fun c3 => ?_) (fun c3 => ?_)
      · refine lv_aload_n hx hb dX5_nextConstant_26 rfl (lv_at hl 1 rfl) ?_
        refine rl_get (v := .ref (x + 1)) hC hW fl_X5_9 hrd1 rfl dX5_nextConstant_27 ?_
        refine lv_aload_n hx hb dX5_nextConstant_30 rfl (lv_at hl 2 rfl) ?_
        refine rl_get (v := .int (po)) hC hW fl_X5_129 hP1 rfl dX5_nextConstant_31 ?_
        refine lv_aload_n hx hb dX5_nextConstant_34 rfl (lv_at hl 1 rfl) ?_
        refine rl_get (v := .int (v1)) hC hW fl_X5_19 hrd1 rfl dX5_nextConstant_35 ?_
        refine rl_callqQ (rl_runV (b := x + 1) (As := [.int (po), .int (v1)]) (rest := []) hC hW (cC_enumVersion l D t A _ z x T Th hI1 _ _) cs_X5_132 im_X3_enumVersion sl_X3_enumVersion hk0 rfl ⟨(Nat.le_of_ble_eq_true rfl), (Nat.le_of_ble_eq_true rfl)⟩ rfl hl.1 rfl (Nat.le_of_ble_eq_true rfl) dX5_nextConstant_38 ⟨(Nat.le_of_ble_eq_true rfl), (Nat.le_of_ble_eq_true rfl)⟩) hW (fun r1 f1 H locs hp hW => ?_)
        obtain ⟨rfl, hp⟩ := hp
        rcases hp with ⟨k, v9, hk, hv, e1, e2, rfl⟩ | ⟨rfl, hp⟩
        · have hb6 : 3 * k + v9 < 6 := by omega
          obtain ⟨hev, h10, -⟩ := hI1.2.1 _ hb6
          refine lv_astore (lv' := [(4, .ref (x + 3 + 2 * (3 * k + v9))), (2, .long (y1)), (0, .ref (r)), (1, .ref (a))]) hx hb dX5_nextConstant_41 hl (by decide) rfl (fun ls hl => ?_)
          refine lv_aload hx hb dX5_nextConstant_43 (lv_at hl 0 rfl) ?_
          refine lv_ifnonnull (tgt := 52) hx hb dX5_nextConstant_45 (by decide) ?_
          refine lv_aload hx hb dX5_nextConstant_52 (lv_at hl 0 rfl) ?_
          refine lv_lload_n hx hb dX5_nextConstant_54 rfl (lv_at hl 1 rfl) ?_
          refine rl_callqQ (rl_runV (b := x + 3 + 2 * (3 * k + v9)) (As := [.long (y1)]) (rest := []) hC hW (cC_named l D t A _ z x T Th hI1 (3 * k + v9) hb6 _) cs_X5_136 im_X2_named sl_X2_named hev rfl ⟨(Nat.le_of_ble_eq_true rfl), (Nat.le_of_ble_eq_true rfl)⟩ rfl hl.1 rfl (Nat.le_of_ble_eq_true rfl) dX5_nextConstant_55 ⟨(Nat.le_of_ble_eq_true rfl), (Nat.le_of_ble_eq_true rfl)⟩) hW (fun r2 f1 H locs hp hW => ?_)
          obtain ⟨rfl, hp⟩ := hp
          rcases hp with ⟨i, q, lo, hi, rfl, he, hq2, hq3⟩ | ⟨rfl, hp⟩
          · have hI2 := hI1.thing (a := q) ⟨hq2, Or.inl ⟨3 * k + v9, _, _, _, hb6, hq3⟩⟩
            refine lv_astore (lv' := [(5, .ref (q)), (4, .ref (x + 3 + 2 * (3 * k + v9))), (2, .long (y1)), (0, .ref (r)), (1, .ref (a))]) hx hb dX5_nextConstant_58 hl (by decide) rfl (fun ls hl => ?_)
            refine lv_aload hx hb dX5_nextConstant_60 (lv_at hl 0 rfl) ?_
            refine lv_ifnonnull (tgt := 71) hx hb dX5_nextConstant_62 (by decide) ?_
            refine lv_aload hx hb dX5_nextConstant_71 (lv_at hl 0 rfl) ?_
            exact rl_aret (v := some (q)) hC hW hr hlk (Nat.le_refl _) (Nat.le_refl _) ⟨_, rfl, rfl, rfl, ⟨_, nx1, op, wh1, ⟨hI2, hrx1, hnl1, hop1, v1, la1, md1, hrd1⟩, cRJ_thing hJ1 (fun q h => Or.inl h), by omega, by omega, fun q e => by cases e; exact Or.inr rfl⟩⟩ dX5_nextConstant_73
          · refine lv_astoreN (lv' := [(5, .null), (4, .ref (x + 3 + 2 * (3 * k + v9))), (2, .long (y1)), (0, .ref (r)), (1, .ref (a))]) hx hb dX5_nextConstant_58 hl (by decide) rfl (fun ls hl => ?_)
            refine lv_aloadN hx hb dX5_nextConstant_60 (lv_at hl 0 rfl) ?_
            refine lv_ifnonnullN hx hb dX5_nextConstant_62 ?_
            refine lv_aload_n hx hb dX5_nextConstant_65 rfl (lv_at hl 3 rfl) ?_
            refine lv_bipush (v := (nI (7))) hx hb dX5_nextConstant_66 (by decide) ?_
            refine rl_callvQ (rl_runV (b := r) (As := [.int (nI (7))]) (rest := []) hC hW (cC_fail l D t A _ z x T Th r _ (op) _ hS1 (nI 7) (by decide)) cs_X5_44 im_X5_fail sl_X5_fail hrd1 rfl ⟨(Nat.le_of_ble_eq_true rfl), (Nat.le_of_ble_eq_true rfl)⟩ rfl hl.1 rfl (Nat.le_of_ble_eq_true rfl) dX5_nextConstant_68 ⟨(Nat.le_of_ble_eq_true rfl), (Nat.le_of_ble_eq_true rfl)⟩) hW (fun f2 H locs hp hW => ?_)
            obtain ⟨wh2, hne2, hS2, hon2⟩ := hp
            have hJ2 := cRJ_fail (t := t) (op1 := op) (Th := Th) (op := op) (nx := nx1) (wh := wh1) hon2 hrd1 hne2
            obtain ⟨hI2, hrx2, hnl2, hop2, v2, la2, md2, hrd2⟩ := id hS2
            refine lv_aloadN hx hb dX5_nextConstant_71 (lv_at hl 0 rfl) ?_
            exact rl_aret (v := none) hC hW hr hlk (Nat.le_refl _) (Nat.le_refl _) ⟨_, rfl, rfl, rfl, ⟨Th, nx1, op, wh2, hS2, hJ1.tr hJ2, by omega, by omega, (fun q e => by cases e)⟩⟩ dX5_nextConstant_73
        · refine lv_astoreN (lv' := [(4, .null), (2, .long (y1)), (0, .ref (r)), (1, .ref (a))]) hx hb dX5_nextConstant_41 hl (by decide) rfl (fun ls hl => ?_)
          refine lv_aloadN hx hb dX5_nextConstant_43 (lv_at hl 0 rfl) ?_
          refine lv_ifnonnullN hx hb dX5_nextConstant_45 ?_
          refine lv_null hx hb dX5_nextConstant_48 ?_
          refine lv_goto (tgt := 58) hx hb dX5_nextConstant_49 (by decide) ?_
          refine lv_astoreN (lv' := [(5, .null), (4, .null), (2, .long (y1)), (0, .ref (r)), (1, .ref (a))]) hx hb dX5_nextConstant_58 hl (by decide) rfl (fun ls hl => ?_)
          refine lv_aloadN hx hb dX5_nextConstant_60 (lv_at hl 0 rfl) ?_
          refine lv_ifnonnullN hx hb dX5_nextConstant_62 ?_
          refine lv_aload_n hx hb dX5_nextConstant_65 rfl (lv_at hl 3 rfl) ?_
          refine lv_bipush (v := (nI (7))) hx hb dX5_nextConstant_66 (by decide) ?_
          refine rl_callvQ (rl_runV (b := r) (As := [.int (nI (7))]) (rest := []) hC hW (cC_fail l D t A _ z x T Th r _ (op) _ hS1 (nI 7) (by decide)) cs_X5_44 im_X5_fail sl_X5_fail hrd1 rfl ⟨(Nat.le_of_ble_eq_true rfl), (Nat.le_of_ble_eq_true rfl)⟩ rfl hl.1 rfl (Nat.le_of_ble_eq_true rfl) dX5_nextConstant_68 ⟨(Nat.le_of_ble_eq_true rfl), (Nat.le_of_ble_eq_true rfl)⟩) hW (fun f2 H locs hp hW => ?_)
          obtain ⟨wh2, hne2, hS2, hon2⟩ := hp
          have hJ2 := cRJ_fail (t := t) (op1 := op) (Th := Th) (op := op) (nx := nx1) (wh := wh1) hon2 hrd1 hne2
          obtain ⟨hI2, hrx2, hnl2, hop2, v2, la2, md2, hrd2⟩ := id hS2
          refine lv_aloadN hx hb dX5_nextConstant_71 (lv_at hl 0 rfl) ?_
          exact rl_aret (v := none) hC hW hr hlk (Nat.le_refl _) (Nat.le_refl _) ⟨_, rfl, rfl, rfl, ⟨Th, nx1, op, wh2, hS2, hJ1.tr hJ2, by omega, by omega, (fun q e => by cases e)⟩⟩ dX5_nextConstant_73
      · refine lv_null hx hb dX5_nextConstant_24 ?_
        exact rl_aret (v := none) hC hW hr hlk (Nat.le_refl _) (Nat.le_refl _) ⟨_, rfl, rfl, rfl, ⟨Th, nx1, op, wh1, hS1, hJ1, by omega, by omega, (fun q e => by cases e)⟩⟩ dX5_nextConstant_25

set_option maxHeartbeats 4000000 in
set_option maxRecDepth 100000 in
theorem cC_nextRow (l : Launch) (D : va_G) (t : Nat → ClassId) (A : Nat → Prop) (f : rl_M) (z : Nat) (x : Nat) (T : Nat → Nat → Nat) (Th : Nat → Prop) (r nx op : Nat) (wh : Int32) (hS : cRD t f x T Th r nx op wh) (wt : Nat) (hwt : wt < 2) : rl_Met l yX5_nextRow (.code yX5_nextRow cX5_nextRow 7 (some (FieldType.object "RecordLeaves$Row"))) (rl_rm 4 (3 * (250 - nx)) (13 * (250 - nx))) D t A f z [.ref (r), .int (nI (wt))] (rl_pq fun r0 f1 z1 d1 => cST t x T r f Th z nx op wh r0 f1 z1 d1) := by
  refine rl_begin (own := RX5) (lv := [(0, .ref (r)), (1, .int (nI (wt)))]) (by decide +kernel) rfl (Nat.le_of_ble_eq_true rfl) rfl fun p e s m0 args below meth c ls H locs hC hr hlk hnm hW hl hx hb => ?_
  obtain ⟨hI, hrx, hnl, hop, v, la, md, hrd⟩ := id hS
  have hzx : x + 58 ≤ z := by have := hW.lt hrd; omega
  have hwt2 : wt = 0 ∨ wt = 1 := by omega
  rcases hwt2 with rfl | rfl
  · refine lv_aload_n hx hb dX5_nextRow_0 rfl (lv_at hl 0 rfl) ?_
    refine rl_calllQ (rl_runV (b := r) (As := []) (rest := []) hC hW (cC_nextLeaf l D t A _ z x T Th r _ (op) _ hS) cs_X5_48 im_X5_nextLeaf sl_X5_nextLeaf hrd rfl ⟨by simp only [rl_rm]; omega, by simp only [rl_rm]; omega⟩ rfl hl.1 rfl (Nat.le_of_ble_eq_true rfl) dX5_nextRow_1 ⟨by simp only [rl_rm]; omega, by simp only [rl_rm]; omega⟩) hW (fun y1 f1 H locs hp hW => ?_)
    obtain ⟨nx1, wh1, hS1, hon1, hnx1, hw1, hy1⟩ := hp
    have hJ1 := cRJ_leaf (t := t) (Th := Th) (op := op) hon1 hrd hnx1 hw1
    obtain ⟨hI1, hrx1, hnl1, hop1, v1, la1, md1, hrd1⟩ := id hS1
    refine lv_lstore_n (lv' := [(2, .long (y1)), (0, .ref (r)), (1, .int (nI (0)))]) hx hb dX5_nextRow_4 rfl hl (by decide) rfl (fun ls hl => ?_)
    refine lv_lload_n hx hb dX5_nextRow_5 rfl (lv_at hl 0 rfl) ?_
    refine lv_ldc2 (v := -1) hx hb hC.2.2.2.1 (hC.2.2.2.2.1 _ (List.mem_cons_of_mem _ mw_608)) dX5_nextRow_6 ?_
    refine W.lcmp hx hb dX5_nextRow_9 ?_
    refine lv_if_ne (tgt := 15) hx hb dX5_nextRow_10 (by decide) (fun c2 => ?_) (fun c2 => ?_)
    · refine lv_lload_n hx hb dX5_nextRow_15 rfl (lv_at hl 0 rfl) ?_
      refine lv_lconst (v := 0) hx hb dX5_nextRow_16 (by decide) ?_
      refine W.lcmp hx hb dX5_nextRow_17 ?_
      refine lv_if_ge (tgt := 30) hx hb dX5_nextRow_18 (by decide) (fun c3 => ?_) (fun c3 => ?_)
      · replace c3 : ¬ lg_cmp y1 0 < 0 := fun q => absurd c3 (Int32.not_le.mpr q)
        refine lv_lload_n hx hb dX5_nextRow_30 rfl (lv_at hl 0 rfl) ?_
        refine lv_ldc2 (v := 8) hx hb hC.2.2.2.1 (hC.2.2.2.2.1 _ (List.mem_cons_of_mem _ mw_615)) dX5_nextRow_31 ?_
        refine W.lcmp hx hb dX5_nextRow_34 ?_
        refine lv_if_le (tgt := 43) hx hb dX5_nextRow_35 (by decide) (fun c4 => ?_) (fun c4 => ?_)
        · replace c4 := (lg_cmp_le _ _).mp c4
          obtain ⟨c0, hc0, rfl⟩ := rg_l8 (fun q => c3 ((lg_cmp_lt _ _).mpr q)) (c4)
          refine lv_aload_n hx hb dX5_nextRow_43 rfl (lv_at hl 1 rfl) ?_
          refine rl_get (v := .int (wh1)) hC hW fl_X5_23 hrd1 rfl dX5_nextRow_44 ?_
          refine lv_if_eq (tgt := 52) hx hb dX5_nextRow_47 (by decide) (fun c5 => ?_) (fun c5 => ?_)
          · obtain ⟨hw0, hnx1e⟩ := hw1 c5
            subst hnx1e
            refine lv_iload_n hx hb dX5_nextRow_52 rfl (lv_at hl 2 rfl) ?_
            refine lv_if_eq (tgt := 68) hx hb dX5_nextRow_53 (by decide) (fun c6 => ?_) (fun c6 => ?_)
            · refine lv_null hx hb dX5_nextRow_68 ?_
              refine lv_astoreN (lv' := [(4, .null), (2, .long (lN c0)), (0, .ref (r)), (1, .int (nI (0)))]) hx hb dX5_nextRow_69 hl (by decide) rfl (fun ls hl => ?_)
              refine lv_iconst (v := (nI (0))) hx hb dX5_nextRow_71 (by decide) ?_
              refine lv_istore (lv' := [(5, .int (nI (0))), (4, .null), (2, .long (lN c0)), (0, .ref (r)), (1, .int (nI (0)))]) hx hb dX5_nextRow_72 hl (by decide) rfl (fun ls hl => ?_)
              replace hl : lv_has ls 7 [(0, .ref (r)), (2, .long (lN c0)), (4, .null), (5, .int (nI (0)))] := lv_sub hl [3, 2, 1, 0] rfl
              have hinv : ∃ (f3 : rl_M) (nx3 : Nat) (wh3 : Int32) (i : Nat), rl_W D A f3 z s.heap H locs ∧ cRD t f3 x T Th r nx3 op wh3 ∧ cRJ t f Th nx op wh f3 Th nx3 op wh3 ∧ nx + 1 ≤ nx3 ∧ i ≤ c0 ∧ lv_has ls 7 [(0, .ref (r)), (2, .long (lN c0)), (4, .null), (5, .int (nI (i)))] := ⟨_, _, _, 0, hW, hS1, hJ1, Nat.le_refl _, Nat.zero_le _, hl⟩
              clear hW hl
              obtain ⟨f3, nx3, wh3, i, hW, hS3, hJ3, hn3, hi, hl⟩ := hinv
              obtain ⟨n9, hn9⟩ : ∃ n9, c0 - i < n9 := ⟨_, Nat.lt_succ_self _⟩
              induction n9 generalizing f3 nx3 wh3 i H locs ls with
              | zero => exact absurd hn9 (Nat.not_lt_zero _)
              | succ n9 ih =>
                obtain ⟨hI3, hrx3, hnl3, hop3, v3, la3, md3, hrd3⟩ := id hS3
                refine lv_iload hx hb dX5_nextRow_74 (lv_at hl 3 rfl) ?_
                refine lv_i2l hx hb dX5_nextRow_76 rfl ?_
                refine lv_lload_n hx hb dX5_nextRow_77 rfl (lv_at hl 1 rfl) ?_
                refine W.lcmp hx hb dX5_nextRow_78 ?_
                refine lv_if_ge (tgt := 117) hx hb dX5_nextRow_79 (by decide) (fun c8 => ?_) (fun c8 => ?_)
                · refine lv_aloadN hx hb dX5_nextRow_117 (lv_at hl 2 rfl) ?_
                  exact rl_aret (v := none) hC hW hr hlk (by simp only [rl_rm]; omega) (by simp only [rl_rm]; omega) ⟨_, rfl, ⟨_, nx3, op, wh3, hS3, hJ3, by omega, by omega, (fun q e => by cases e)⟩⟩ dX5_nextRow_119
                · have hlt : i < c0 := Nat.lt_of_not_le (fun q => c8 ((rg_cmpi (by omega) (by omega)).mpr q))
                  refine lv_aload_n hx hb dX5_nextRow_82 rfl (lv_at hl 0 rfl) ?_
                  refine rl_get (v := .int (wh3)) hC hW fl_X5_23 hrd3 rfl dX5_nextRow_83 ?_
                  refine lv_if_ne (tgt := 117) hx hb dX5_nextRow_86 (by decide) (fun c9 => ?_) (fun c9 => ?_)
                  · refine lv_aloadN hx hb dX5_nextRow_117 (lv_at hl 2 rfl) ?_
                    exact rl_aret (v := none) hC hW hr hlk (by simp only [rl_rm]; omega) (by simp only [rl_rm]; omega) ⟨_, rfl, ⟨_, nx3, op, wh3, hS3, hJ3, by omega, by omega, (fun q e => by cases e)⟩⟩ dX5_nextRow_119
                  · refine lv_aload_n hx hb dX5_nextRow_89 rfl (lv_at hl 0 rfl) ?_
                    refine rl_calllQ (rl_runV (b := r) (As := []) (rest := []) hC hW (cC_nextLeaf l D t A _ z x T Th r _ (op) _ hS3) cs_X5_48 im_X5_nextLeaf sl_X5_nextLeaf hrd3 rfl ⟨by simp only [rl_rm]; omega, by simp only [rl_rm]; omega⟩ rfl hl.1 rfl (Nat.le_of_ble_eq_true rfl) dX5_nextRow_90 ⟨by simp only [rl_rm]; omega, by simp only [rl_rm]; omega⟩) hW (fun y4 f4 H locs hp hW => ?_)
                    obtain ⟨nx4, wh4, hS4, hon4, hnx4, hw4, hy4⟩ := hp
                    have hJ4 := cRJ_leaf (t := t) (Th := Th) (op := op) hon4 hrd3 hnx4 hw4
                    obtain ⟨hI4, hrx4, hnl4, hop4, v4, la4, md4, hrd4⟩ := id hS4
                    replace hJ4 := hJ3.tr hJ4
                    refine lv_l2i hx hb dX5_nextRow_93 rfl ?_
                    refine lv_istore (lv' := [(6, .int ((y4).toInt32)), (0, .ref (r)), (2, .long (lN c0)), (4, .null), (5, .int (nI (i)))]) hx hb dX5_nextRow_94 hl (by decide) rfl (fun ls hl => ?_)
                    refine lv_aloadN hx hb dX5_nextRow_96 (lv_at hl 3 rfl) ?_
                    refine lv_ifnullN (tgt := 111) hx hb dX5_nextRow_98 (by decide) ?_
                    refine lv_iinc (v := (nI ((i) + 1))) (lv' := [(5, .int (nI ((i) + 1))), (6, .int ((y4).toInt32)), (0, .ref (r)), (2, .long (lN c0)), (4, .null)]) hx hb dX5_nextRow_111 hl (k := 4) rfl (nI_1 _) (by decide) rfl (fun ls hl => ?_)
                    refine lv_goto (tgt := 74) hx hb dX5_nextRow_114 (by decide) ?_
                    replace hl : lv_has ls 7 [(0, .ref (r)), (2, .long (lN c0)), (4, .null), (5, .int (nI ((i) + 1)))] := lv_sub hl [2, 3, 4, 0] rfl
                    exact ih H locs ls f4 nx4 wh4 (i + 1) hW hS4 hJ4 (by omega) (by omega) hl (by omega)
            · exact absurd rfl c6
          · refine lv_null hx hb dX5_nextRow_50 ?_
            exact rl_aret (v := none) hC hW hr hlk (by simp only [rl_rm]; omega) (by simp only [rl_rm]; omega) ⟨_, rfl, ⟨Th, nx1, op, wh1, hS1, hJ1, by omega, by omega, (fun q e => by cases e)⟩⟩ dX5_nextRow_51
        · refine lv_aload_n hx hb dX5_nextRow_38 rfl (lv_at hl 1 rfl) ?_
          refine lv_iconst (v := (nI (2))) hx hb dX5_nextRow_39 (by decide) ?_
          refine rl_callvQ (rl_runV (b := r) (As := [.int (nI (2))]) (rest := []) hC hW (cC_fail l D t A _ z x T Th r _ (op) _ hS1 (nI 2) (by decide)) cs_X5_44 im_X5_fail sl_X5_fail hrd1 rfl ⟨by simp only [rl_rm]; omega, by simp only [rl_rm]; omega⟩ rfl hl.1 rfl (Nat.le_of_ble_eq_true rfl) dX5_nextRow_40 ⟨by simp only [rl_rm]; omega, by simp only [rl_rm]; omega⟩) hW (fun f2 H locs hp hW => ?_)
          obtain ⟨wh2, hne2, hS2, hon2⟩ := hp
          have hJ2 := cRJ_fail (t := t) (op1 := op) (Th := Th) (op := op) (nx := nx1) (wh := wh1) hon2 hrd1 hne2
          obtain ⟨hI2, hrx2, hnl2, hop2, v2, la2, md2, hrd2⟩ := id hS2
          refine lv_aload_n hx hb dX5_nextRow_43 rfl (lv_at hl 1 rfl) ?_
          refine rl_get (v := .int (wh2)) hC hW fl_X5_23 hrd2 rfl dX5_nextRow_44 ?_
          refine lv_if_eq (tgt := 52) hx hb dX5_nextRow_47 (by decide) (fun c7 => ?_) (fun c7 => ?_)
          · exact absurd c7 hne2
          · refine lv_null hx hb dX5_nextRow_50 ?_
            exact rl_aret (v := none) hC hW hr hlk (by simp only [rl_rm]; omega) (by simp only [rl_rm]; omega) ⟨_, rfl, ⟨Th, nx1, op, wh2, hS2, hJ1.tr hJ2, by omega, by omega, (fun q e => by cases e)⟩⟩ dX5_nextRow_51
      · refine lv_aload_n hx hb dX5_nextRow_21 rfl (lv_at hl 1 rfl) ?_
        refine lv_bipush (v := (nI (6))) hx hb dX5_nextRow_22 (by decide) ?_
        refine rl_callvQ (rl_runV (b := r) (As := [.int (nI (6))]) (rest := []) hC hW (cC_fail l D t A _ z x T Th r _ (op) _ hS1 (nI 6) (by decide)) cs_X5_44 im_X5_fail sl_X5_fail hrd1 rfl ⟨by simp only [rl_rm]; omega, by simp only [rl_rm]; omega⟩ rfl hl.1 rfl (Nat.le_of_ble_eq_true rfl) dX5_nextRow_24 ⟨by simp only [rl_rm]; omega, by simp only [rl_rm]; omega⟩) hW (fun f2 H locs hp hW => ?_)
        obtain ⟨wh2, hne2, hS2, hon2⟩ := hp
        have hJ2 := cRJ_fail (t := t) (op1 := op) (Th := Th) (op := op) (nx := nx1) (wh := wh1) hon2 hrd1 hne2
        obtain ⟨hI2, hrx2, hnl2, hop2, v2, la2, md2, hrd2⟩ := id hS2
        refine lv_goto (tgt := 43) hx hb dX5_nextRow_27 (by decide) ?_
        refine lv_aload_n hx hb dX5_nextRow_43 rfl (lv_at hl 1 rfl) ?_
        refine rl_get (v := .int (wh2)) hC hW fl_X5_23 hrd2 rfl dX5_nextRow_44 ?_
        refine lv_if_eq (tgt := 52) hx hb dX5_nextRow_47 (by decide) (fun c7 => ?_) (fun c7 => ?_)
        · exact absurd c7 hne2
        · refine lv_null hx hb dX5_nextRow_50 ?_
          exact rl_aret (v := none) hC hW hr hlk (by simp only [rl_rm]; omega) (by simp only [rl_rm]; omega) ⟨_, rfl, ⟨Th, nx1, op, wh2, hS2, hJ1.tr hJ2, by omega, by omega, (fun q e => by cases e)⟩⟩ dX5_nextRow_51
    · refine lv_null hx hb dX5_nextRow_13 ?_
      exact rl_aret (v := none) hC hW hr hlk (by simp only [rl_rm]; omega) (by simp only [rl_rm]; omega) ⟨_, rfl, ⟨Th, nx1, op, wh1, hS1, hJ1, by omega, by omega, (fun q e => by cases e)⟩⟩ dX5_nextRow_14
  · refine lv_aload_n hx hb dX5_nextRow_0 rfl (lv_at hl 0 rfl) ?_
    refine rl_calllQ (rl_runV (b := r) (As := []) (rest := []) hC hW (cC_nextLeaf l D t A _ z x T Th r _ (op) _ hS) cs_X5_48 im_X5_nextLeaf sl_X5_nextLeaf hrd rfl ⟨by simp only [rl_rm]; omega, by simp only [rl_rm]; omega⟩ rfl hl.1 rfl (Nat.le_of_ble_eq_true rfl) dX5_nextRow_1 ⟨by simp only [rl_rm]; omega, by simp only [rl_rm]; omega⟩) hW (fun y1 f1 H locs hp hW => ?_)
    obtain ⟨nx1, wh1, hS1, hon1, hnx1, hw1, hy1⟩ := hp
    have hJ1 := cRJ_leaf (t := t) (Th := Th) (op := op) hon1 hrd hnx1 hw1
    obtain ⟨hI1, hrx1, hnl1, hop1, v1, la1, md1, hrd1⟩ := id hS1
    refine lv_lstore_n (lv' := [(2, .long (y1)), (0, .ref (r)), (1, .int (nI (1)))]) hx hb dX5_nextRow_4 rfl hl (by decide) rfl (fun ls hl => ?_)
    refine lv_lload_n hx hb dX5_nextRow_5 rfl (lv_at hl 0 rfl) ?_
    refine lv_ldc2 (v := -1) hx hb hC.2.2.2.1 (hC.2.2.2.2.1 _ (List.mem_cons_of_mem _ mw_608)) dX5_nextRow_6 ?_
    refine W.lcmp hx hb dX5_nextRow_9 ?_
    refine lv_if_ne (tgt := 15) hx hb dX5_nextRow_10 (by decide) (fun c2 => ?_) (fun c2 => ?_)
    · refine lv_lload_n hx hb dX5_nextRow_15 rfl (lv_at hl 0 rfl) ?_
      refine lv_lconst (v := 0) hx hb dX5_nextRow_16 (by decide) ?_
      refine W.lcmp hx hb dX5_nextRow_17 ?_
      refine lv_if_ge (tgt := 30) hx hb dX5_nextRow_18 (by decide) (fun c3 => ?_) (fun c3 => ?_)
      · replace c3 : ¬ lg_cmp y1 0 < 0 := fun q => absurd c3 (Int32.not_le.mpr q)
        refine lv_lload_n hx hb dX5_nextRow_30 rfl (lv_at hl 0 rfl) ?_
        refine lv_ldc2 (v := 8) hx hb hC.2.2.2.1 (hC.2.2.2.2.1 _ (List.mem_cons_of_mem _ mw_615)) dX5_nextRow_31 ?_
        refine W.lcmp hx hb dX5_nextRow_34 ?_
        refine lv_if_le (tgt := 43) hx hb dX5_nextRow_35 (by decide) (fun c4 => ?_) (fun c4 => ?_)
        · replace c4 := (lg_cmp_le _ _).mp c4
          obtain ⟨c0, hc0, rfl⟩ := rg_l8 (fun q => c3 ((lg_cmp_lt _ _).mpr q)) (c4)
          refine lv_aload_n hx hb dX5_nextRow_43 rfl (lv_at hl 1 rfl) ?_
          refine rl_get (v := .int (wh1)) hC hW fl_X5_23 hrd1 rfl dX5_nextRow_44 ?_
          refine lv_if_eq (tgt := 52) hx hb dX5_nextRow_47 (by decide) (fun c5 => ?_) (fun c5 => ?_)
          · obtain ⟨hw0, hnx1e⟩ := hw1 c5
            subst hnx1e
            refine lv_iload_n hx hb dX5_nextRow_52 rfl (lv_at hl 2 rfl) ?_
            refine lv_if_eq (tgt := 68) hx hb dX5_nextRow_53 (by decide) (fun c6 => ?_) (fun c6 => ?_)
            · exact absurd c6 (by decide)
            · have hfz := hW.fresh
              have hI1x := hI1
              refine rl_new hC hW cn_X5_144 (by simp only [rl_rm]; omega) (by simp only [rl_rm]; omega) dX5_nextRow_56 (fun H hW => ?_)
              have hfz1 := hW.fresh
              refine lv_dup hx hb dX5_nextRow_59 rfl ?_
              refine lv_lload_n hx hb dX5_nextRow_60 rfl (lv_at hl 0 rfl) ?_
              refine lv_l2i hx hb dX5_nextRow_61 rfl ?_
              refine rl_topn (lN_i _) ?_
              refine rl_callv (rl_runI (b := z) (As := [.int (nI (c0))]) (rest := [.ref (z)]) hC hW (cC_Row_init l D t A _ (z + 1) z c0 hc0 (rl_up_s _ _ _)) cs_X5_146 im_X8_init rfl ⟨by simp only [rl_rm]; omega, by simp only [rl_rm]; omega⟩ rfl hl.1 rfl (Nat.le_of_ble_eq_true rfl) dX5_nextRow_62 ⟨by simp only [rl_rm]; omega, by simp only [rl_rm]; omega⟩) hW (fun f1 z1 d1 H locs hp hW hz1 => ?_)
              obtain ⟨rfl, rfl, hd1⟩ := hp
              rw [rl_up_row] at hW
              obtain ⟨f2, ef2⟩ : ∃ f2, f2 = rl_up (rl_up f1 (z + 1) (.inl (t 0, c0, .inl (fun _ => 0)))) z (.inr (8, [.ref (z + 1)])) := ⟨_, rfl⟩
              have hle2 : rl_le f1 f2 := by rw [ef2]; exact rl_le.row hfz hfz1
              have hz1a : f2 z = some (.inr (8, [.ref (z + 1)])) := by rw [ef2]; exact rl_up_s _ _ _
              have hz1b : f2 (z + 1) = some (.inl (t 0, c0, .inl (fun _ => 0))) := by rw [ef2]; exact (rl_up_n (by omega)).trans (rl_up_s _ _ _)
              rw [← ef2] at hW
              clear ef2
              have hI2 := (hI1.le hle2).thing (a := z) ⟨hzx, Or.inr (Or.inl ⟨z + 1, c0, _, by omega, hc0, hz1a, hz1b⟩)⟩
              have hS2 : cRD t f2 x T _ r (nx + 1) op wh1 := ⟨hI2, hrx1, hnl1, hop1, v1, la1, md1, hle2 _ _ hrd1⟩
              have hJ2 := cRJ_thing (Th1 := fun q => Th q ∨ q = z) (hJ1.tr (⟨fun _ h => h, hle2.sh, Nat.le_refl _, fun q => ⟨rfl, q⟩⟩ : cRJ t f1 Th (nx + 1) op wh1 f2 Th (nx + 1) op wh1)) (fun q h => Or.inl h)
              refine lv_goto (tgt := 69) hx hb dX5_nextRow_65 (by decide) ?_
              refine lv_astore (lv' := [(4, .ref (z)), (2, .long (lN c0)), (0, .ref (r)), (1, .int (nI (1)))]) hx hb dX5_nextRow_69 hl (by decide) rfl (fun ls hl => ?_)
              refine lv_iconst (v := (nI (0))) hx hb dX5_nextRow_71 (by decide) ?_
              refine lv_istore (lv' := [(5, .int (nI (0))), (4, .ref (z)), (2, .long (lN c0)), (0, .ref (r)), (1, .int (nI (1)))]) hx hb dX5_nextRow_72 hl (by decide) rfl (fun ls hl => ?_)
              replace hl : lv_has ls 7 [(0, .ref (r)), (2, .long (lN c0)), (4, .ref (z)), (5, .int (nI (0)))] := lv_sub hl [3, 2, 1, 0] rfl
              have hinv : ∃ (f3 : rl_M) (nx3 : Nat) (wh3 : Int32) (i : Nat), rl_W D A f3 (z + 1 + 1) s.heap H locs ∧ cRD t f3 x T (fun q => Th q ∨ q = z) r nx3 op wh3 ∧ cRJ t f Th nx op wh f3 (fun q => Th q ∨ q = z) nx3 op wh3 ∧ nx + 1 ≤ nx3 ∧ i ≤ c0 ∧ f3 z = some (.inr (8, [.ref (z + 1)])) ∧ (∃ g : Nat → Int32, f3 (z + 1) = some (.inl (t 0, c0, .inl g))) ∧ lv_has ls 7 [(0, .ref (r)), (2, .long (lN c0)), (4, .ref (z)), (5, .int (nI (i)))] := ⟨_, _, _, 0, hW, hS2, hJ2, Nat.le_refl _, Nat.zero_le _, hz1a, ⟨_, hz1b⟩, hl⟩
              clear hW hl
              obtain ⟨f3, nx3, wh3, i, hW, hS3, hJ3, hn3, hi, hza, hzb, hl⟩ := hinv
              refine W.widen (show _ ≤ 2 by omega) (show _ ≤ 9 by omega) ?_
              obtain ⟨n9, hn9⟩ : ∃ n9, c0 - i < n9 := ⟨_, Nat.lt_succ_self _⟩
              induction n9 generalizing f3 nx3 wh3 i H locs ls with
              | zero => exact absurd hn9 (Nat.not_lt_zero _)
              | succ n9 ih =>
                obtain ⟨hI3, hrx3, hnl3, hop3, v3, la3, md3, hrd3⟩ := id hS3
                obtain ⟨g, hzb⟩ := hzb
                refine lv_iload hx hb dX5_nextRow_74 (lv_at hl 3 rfl) ?_
                refine lv_i2l hx hb dX5_nextRow_76 rfl ?_
                refine lv_lload_n hx hb dX5_nextRow_77 rfl (lv_at hl 1 rfl) ?_
                refine W.lcmp hx hb dX5_nextRow_78 ?_
                refine lv_if_ge (tgt := 117) hx hb dX5_nextRow_79 (by decide) (fun c8 => ?_) (fun c8 => ?_)
                · refine lv_aload hx hb dX5_nextRow_117 (lv_at hl 2 rfl) ?_
                  exact rl_aret (v := some (z)) hC hW hr hlk (by simp only [rl_rm]; omega) (by simp only [rl_rm]; omega) ⟨_, rfl, ⟨_, nx3, op, wh3, hS3, hJ3, by omega, by omega, fun q e => by cases e; exact Or.inr rfl⟩⟩ dX5_nextRow_119
                · have hlt : i < c0 := Nat.lt_of_not_le (fun q => c8 ((rg_cmpi (by omega) (by omega)).mpr q))
                  refine lv_aload_n hx hb dX5_nextRow_82 rfl (lv_at hl 0 rfl) ?_
                  refine rl_get (v := .int (wh3)) hC hW fl_X5_23 hrd3 rfl dX5_nextRow_83 ?_
                  refine lv_if_ne (tgt := 117) hx hb dX5_nextRow_86 (by decide) (fun c9 => ?_) (fun c9 => ?_)
                  · refine lv_aload hx hb dX5_nextRow_117 (lv_at hl 2 rfl) ?_
                    exact rl_aret (v := some (z)) hC hW hr hlk (by simp only [rl_rm]; omega) (by simp only [rl_rm]; omega) ⟨_, rfl, ⟨_, nx3, op, wh3, hS3, hJ3, by omega, by omega, fun q e => by cases e; exact Or.inr rfl⟩⟩ dX5_nextRow_119
                  · refine lv_aload_n hx hb dX5_nextRow_89 rfl (lv_at hl 0 rfl) ?_
                    refine rl_calllQ (rl_runV (b := r) (As := []) (rest := []) hC hW (cC_nextLeaf l D t A _ (z + 1 + 1) x T (fun q => Th q ∨ q = z) r _ (op) _ hS3) cs_X5_48 im_X5_nextLeaf sl_X5_nextLeaf hrd3 rfl ⟨by simp only [rl_rm]; omega, by simp only [rl_rm]; omega⟩ rfl hl.1 rfl (Nat.le_of_ble_eq_true rfl) dX5_nextRow_90 ⟨by simp only [rl_rm]; omega, by simp only [rl_rm]; omega⟩) hW (fun y4 f4 H locs hp hW => ?_)
                    obtain ⟨nx4, wh4, hS4, hon4, hnx4, hw4, hy4⟩ := hp
                    have hJ4 := cRJ_leaf (t := t) (Th := (fun q => Th q ∨ q = z)) (op := op) hon4 hrd3 hnx4 hw4
                    obtain ⟨hI4, hrx4, hnl4, hop4, v4, la4, md4, hrd4⟩ := id hS4
                    replace hJ4 := hJ3.tr hJ4
                    replace hza := hon4 _ _ hza (rl_ne hza hrd3 (by simp))
                    replace hzb := hon4 _ _ hzb (rl_ne hzb hrd3 (by simp))
                    refine lv_l2i hx hb dX5_nextRow_93 rfl ?_
                    refine lv_istore (lv' := [(6, .int ((y4).toInt32)), (0, .ref (r)), (2, .long (lN c0)), (4, .ref (z)), (5, .int (nI (i)))]) hx hb dX5_nextRow_94 hl (by decide) rfl (fun ls hl => ?_)
                    refine lv_aload hx hb dX5_nextRow_96 (lv_at hl 3 rfl) ?_
                    refine lv_ifnull hx hb dX5_nextRow_98 ?_
                    refine lv_aload hx hb dX5_nextRow_101 (lv_at hl 3 rfl) ?_
                    refine rl_get (v := .ref (z + 1)) hC hW fl_X5_148 hza rfl dX5_nextRow_103 ?_
                    refine lv_iload hx hb dX5_nextRow_106 (lv_at hl 4 rfl) ?_
                    refine lv_iload hx hb dX5_nextRow_108 (lv_at hl 0 rfl) ?_
                    refine rl_iast_n hC hW hzb (by omega) (by omega) dX5_nextRow_110 (fun H locs hW => ?_)
                    have hI5 := CI.int (g2 := upd g i ((y4).toInt32)) hI4 (by omega) hzb
                    have hob := rl_ob.arr (p2 := (t 0, c0, .inl (upd g i ((y4).toInt32)))) hzb
                    have hS5 : cRD t _ x T _ r nx4 op wh4 := ⟨hI5, hrx4, hnl4, hop4, v4, la4, md4, hob _ _ hrd4⟩
                    have hJ5 := hJ4.tr (⟨fun _ h => h, rl_sh.int (g2 := upd g i ((y4).toInt32)) hzb, Nat.le_refl _, fun q => ⟨rfl, q⟩⟩ : cRJ t f4 (fun q => Th q ∨ q = z) nx4 op wh4 _ (fun q => Th q ∨ q = z) nx4 op wh4)
                    refine lv_iinc (v := (nI ((i) + 1))) (lv' := [(5, .int (nI ((i) + 1))), (6, .int ((y4).toInt32)), (0, .ref (r)), (2, .long (lN c0)), (4, .ref (z))]) hx hb dX5_nextRow_111 hl (k := 4) rfl (nI_1 _) (by decide) rfl (fun ls hl => ?_)
                    refine lv_goto (tgt := 74) hx hb dX5_nextRow_114 (by decide) ?_
                    replace hl : lv_has ls 7 [(0, .ref (r)), (2, .long (lN c0)), (4, .ref (z)), (5, .int (nI ((i) + 1)))] := lv_sub hl [2, 3, 4, 0] rfl
                    exact ih H locs ls _ nx4 wh4 (i + 1) hW hS5 hJ5 (by omega) (by omega) (hob _ _ hza) ⟨_, rl_up_s _ _ _⟩ hl (by omega)
          · refine lv_null hx hb dX5_nextRow_50 ?_
            exact rl_aret (v := none) hC hW hr hlk (by simp only [rl_rm]; omega) (by simp only [rl_rm]; omega) ⟨_, rfl, ⟨Th, nx1, op, wh1, hS1, hJ1, by omega, by omega, (fun q e => by cases e)⟩⟩ dX5_nextRow_51
        · refine lv_aload_n hx hb dX5_nextRow_38 rfl (lv_at hl 1 rfl) ?_
          refine lv_iconst (v := (nI (2))) hx hb dX5_nextRow_39 (by decide) ?_
          refine rl_callvQ (rl_runV (b := r) (As := [.int (nI (2))]) (rest := []) hC hW (cC_fail l D t A _ z x T Th r _ (op) _ hS1 (nI 2) (by decide)) cs_X5_44 im_X5_fail sl_X5_fail hrd1 rfl ⟨by simp only [rl_rm]; omega, by simp only [rl_rm]; omega⟩ rfl hl.1 rfl (Nat.le_of_ble_eq_true rfl) dX5_nextRow_40 ⟨by simp only [rl_rm]; omega, by simp only [rl_rm]; omega⟩) hW (fun f2 H locs hp hW => ?_)
          obtain ⟨wh2, hne2, hS2, hon2⟩ := hp
          have hJ2 := cRJ_fail (t := t) (op1 := op) (Th := Th) (op := op) (nx := nx1) (wh := wh1) hon2 hrd1 hne2
          obtain ⟨hI2, hrx2, hnl2, hop2, v2, la2, md2, hrd2⟩ := id hS2
          refine lv_aload_n hx hb dX5_nextRow_43 rfl (lv_at hl 1 rfl) ?_
          refine rl_get (v := .int (wh2)) hC hW fl_X5_23 hrd2 rfl dX5_nextRow_44 ?_
          refine lv_if_eq (tgt := 52) hx hb dX5_nextRow_47 (by decide) (fun c7 => ?_) (fun c7 => ?_)
          · exact absurd c7 hne2
          · refine lv_null hx hb dX5_nextRow_50 ?_
            exact rl_aret (v := none) hC hW hr hlk (by simp only [rl_rm]; omega) (by simp only [rl_rm]; omega) ⟨_, rfl, ⟨Th, nx1, op, wh2, hS2, hJ1.tr hJ2, by omega, by omega, (fun q e => by cases e)⟩⟩ dX5_nextRow_51
      · refine lv_aload_n hx hb dX5_nextRow_21 rfl (lv_at hl 1 rfl) ?_
        refine lv_bipush (v := (nI (6))) hx hb dX5_nextRow_22 (by decide) ?_
        refine rl_callvQ (rl_runV (b := r) (As := [.int (nI (6))]) (rest := []) hC hW (cC_fail l D t A _ z x T Th r _ (op) _ hS1 (nI 6) (by decide)) cs_X5_44 im_X5_fail sl_X5_fail hrd1 rfl ⟨by simp only [rl_rm]; omega, by simp only [rl_rm]; omega⟩ rfl hl.1 rfl (Nat.le_of_ble_eq_true rfl) dX5_nextRow_24 ⟨by simp only [rl_rm]; omega, by simp only [rl_rm]; omega⟩) hW (fun f2 H locs hp hW => ?_)
        obtain ⟨wh2, hne2, hS2, hon2⟩ := hp
        have hJ2 := cRJ_fail (t := t) (op1 := op) (Th := Th) (op := op) (nx := nx1) (wh := wh1) hon2 hrd1 hne2
        obtain ⟨hI2, hrx2, hnl2, hop2, v2, la2, md2, hrd2⟩ := id hS2
        refine lv_goto (tgt := 43) hx hb dX5_nextRow_27 (by decide) ?_
        refine lv_aload_n hx hb dX5_nextRow_43 rfl (lv_at hl 1 rfl) ?_
        refine rl_get (v := .int (wh2)) hC hW fl_X5_23 hrd2 rfl dX5_nextRow_44 ?_
        refine lv_if_eq (tgt := 52) hx hb dX5_nextRow_47 (by decide) (fun c7 => ?_) (fun c7 => ?_)
        · exact absurd c7 hne2
        · refine lv_null hx hb dX5_nextRow_50 ?_
          exact rl_aret (v := none) hC hW hr hlk (by simp only [rl_rm]; omega) (by simp only [rl_rm]; omega) ⟨_, rfl, ⟨Th, nx1, op, wh2, hS2, hJ1.tr hJ2, by omega, by omega, (fun q e => by cases e)⟩⟩ dX5_nextRow_51
    · refine lv_null hx hb dX5_nextRow_13 ?_
      exact rl_aret (v := none) hC hW hr hlk (by simp only [rl_rm]; omega) (by simp only [rl_rm]; omega) ⟨_, rfl, ⟨Th, nx1, op, wh1, hS1, hJ1, by omega, by omega, (fun q e => by cases e)⟩⟩ dX5_nextRow_14
