def rl_pn (r : Nat) (dr : Option Nat) (f f1 : rl_M) : Prop := ∀ q e, f q = some e → q ≠ r → (∀ a, dr = some a → q ≠ a + 1 ∧ q ≠ a + 2) → f1 q = some e
/-- what reading a record, a part, promises, with so many records open -/
def cNR (l : Launch) (D : va_G) (t : Nat → ClassId) (A : Nat → Prop) (x : Nat) (T : Nat → Nat → Nat) (w r : Nat) (gx : Nat → Int32) (mo : Int32) (op : Nat) : Prop := ∀ (f : rl_M) (z : Nat) (E : Nat → Nat → Nat) (u : pQ) (wt : Nat), wt < 2 → cRD t f x T w r E gx mo u → q_bad u = 0 → q_dp u = op → rl_Met l yX5_nextRecord (.code yX5_nextRecord cX5_nextRecord 9 (some (FieldType.object "RecordLeaves$RecordThing"))) (rl_rm (8 + 3 * (6 - op)) (3 * (250 - q_at u)) (13 * (250 - q_at u))) D t A f z [.ref (r), .int (nI (wt))] (rl_pq fun r0 f1 z1 d1 => cST t x T w r gx mo f E z u (q_rec T w (6 - op) (wt == 1) u) r0 f1 z1 d1)
def cNP (l : Launch) (D : va_G) (t : Nat → ClassId) (A : Nat → Prop) (x : Nat) (T : Nat → Nat → Nat) (w r : Nat) (gx : Nat → Int32) (mo : Int32) (op : Nat) : Prop := ∀ (f : rl_M) (z : Nat) (E : Nat → Nat → Nat) (u : pQ) (dr : Option Nat) (Dr : pD), cRD t f x T w r E gx mo u → (q_bad u = 0 → q_dp u = op) → cDO t f x T w E u dr Dr → rl_Met l yX5_nextPart (.code yX5_nextPart cX5_nextPart 9 none) (rl_rm (10 + 3 * (6 - op)) (3 * (250 - q_at u)) (13 * (250 - q_at u))) D t A f z [.ref (r), va_rf (dr)] (rl_pv fun f1 z1 d1 => ∃ E' D1 u1, q_part T w (q_rec T w (6 - op)) Dr u = (D1, u1) ∧ cRD t f1 x T w r E' gx mo u1 ∧ cDO t f1 x T w E' u1 dr D1 ∧ eag z (q_rho u) (q_kap u) (q_kap u1) E E' ∧ rl_pn r dr f f1 ∧ z1 ≤ z + 3 * (q_at u1 - q_at u) ∧ d1 ≤ 13 * (q_at u1 - q_at u))

section PTH
variable {t : Nat → ClassId} {f f1 : rl_M} {x : Nat} {T : Nat → Nat → Nat} {E E' : Nat → Nat → Nat} {u u1 u2 : pQ} {w a j s0 : Nat} {N : Nat → Int64} {X : Nat → pHd} {R : Bool → pQ → pHd × pQ} {D : pD} {p : Option Nat} {y y1 y2 : Int64}
theorem cDO.s (h : cDO t f x T w E u (some a) (some (j, N, X))) : cDR t f x T E a j N X ∧ (∀ n, n < q_kap u → E 2 n ≠ a) ∧ ∀ p, p < T 2 j → cok T (q_rho u) (q_kap u) (X p) := by
  obtain ⟨h1, h2⟩ := h
  rcases h2 with ⟨e, -⟩ | ⟨a', j', N', X', e1, e2, h3, h4⟩
  · cases e
  · cases e1
    cases e2
    exact ⟨h3, h4, fun p hp => ((h1 j N X rfl).2.2 p hp).1⟩
theorem pt_no (h1 : q_leaf u = (y1, u1)) (h2 : q_leaf u1 = (y2, u2)) (hn : ¬ ∃ j : Nat, j < 4 + 1 ∧ y2 = lN j) : q_part T w R D u = (D, q_fail 2 u2) := by
  by_cases h : q_bad u2 = 0
  · exact pt_o h1 h2 h hn
  · rw [fl_b h]
    exact pt_2 h1 h2 h
theorem pt_nc (h1 : q_leaf u = (y1, u1)) (h2 : q_leaf u1 = (lN s0, u2)) (hs : s0 < 5) (hf : q_find T D y1 = p) (hc : q_cast T D p s0) : q_part T w R D u = (D, q_fail 1 u2) := by
  by_cases h : q_bad u2 = 0
  · exact pt_c h1 h2 h hs hf hc
  · rw [fl_b h]
    exact pt_2 h1 h2 h
theorem rg_no5a (h : y < 0) : ¬ ∃ j : Nat, j < 4 + 1 ∧ y = lN j := fun ⟨j, hj, e⟩ => by
  rw [e, Int64.lt_iff_toInt_lt, lN_toInt (by omega), show (0 : Int64).toInt = 0 by decide] at h
  omega
theorem rg_no5b (h : ¬ y < 5) : ¬ ∃ j : Nat, j < 4 + 1 ∧ y = lN j := fun ⟨j, hj, e⟩ => by
  rw [e, Int64.lt_iff_toInt_lt, lN_toInt (by omega), show (5 : Int64).toInt = 5 by decide] at h
  omega
theorem rg_gt1 {s0 : Nat} (h : s0 < 2 ^ 31) (c : 0 < lg_cmp (lN s0) 1) : 2 ≤ s0 := by
  rw [lg_cmp_gt, show (1 : Int64) = lN 1 by decide, lN_lt (by decide) h] at c
  omega
theorem rg_s1 {s0 : Nat} (h : s0 < 2 ^ 31) (c : ¬ 0 < lg_cmp (lN s0) 1) : s0 < 2 := by
  rw [lg_cmp_gt, show (1 : Int64) = lN 1 by decide, lN_lt (by decide) h] at c
  omega
theorem rg_lne {a b : Nat} (ha : a < 2 ^ 31) (hb : b < 2 ^ 31) (h : (nI a).toInt64 = lN b) : a = b := by
  rw [nI_l ha] at h
  have h9 := congrArg Int64.toInt h
  rw [lN_toInt (by omega), lN_toInt (by omega)] at h9
  omega
theorem cRD.at2 {r : Nat} {g : Nat → Int32} {mo : Int32} (h : cRD t f x T w r E g mo u) : q_at u ≤ 250 := Nat.le_trans h.2.2.2.1 h.2.1.2.2.2.2
end PTH

set_option maxHeartbeats 4000000 in
set_option maxRecDepth 100000 in
theorem cC_nextThing (l : Launch) (D : va_G) (t : Nat → ClassId) (A : Nat → Prop) (f : rl_M) (z : Nat) (x : Nat) (T : Nat → Nat → Nat) (w r : Nat) (E : Nat → Nat → Nat) (gx : Nat → Int32) (mo : Int32) (u : pQ) (hS : cRD t f x T w r E gx mo u) (hT : rt_ok T) (hw : w < 3) (op : Nat) (hNR : cNR l D t A x T w r gx mo op) (hb0 : q_bad u = 0) (hdpo : q_dp u = op) (s0 : Nat) (hs0 : 2 ≤ s0 ∧ s0 < 5) (Dr : pD) (pp : Option Nat) (pr : Option Nat) (hpr : (pr = none ∧ pp = none) ∨ ∃ (a j : Nat) (N : Nat → Int64) (X : Nat → pHd) (p0 : Nat) (pn ps po : Int32), pr = some a ∧ Dr = some (j, N, X) ∧ pp = some p0 ∧ f a = some (.inr (4, [.int pn, .int ps, .int po])) ∧ (s0 = 2 → T 8 (5 * j + p0) < 2 ∧ po = nI (T 8 (5 * j + p0)))) : rl_Met l yX5_nextThing (.code yX5_nextThing cX5_nextThing 3 (some (FieldType.object "RecordLeaves$Thing"))) (rl_rm (9 + 3 * (6 - op)) (3 * (250 - q_at u)) (13 * (250 - q_at u))) D t A f z [.ref (r), .int (nI (s0)), va_rf (pr)] (rl_pq fun r0 f1 z1 d1 => ∃ E' h u1, q_val T w (q_rec T w (6 - op)) Dr pp s0 u = (q_put Dr pp h, u1) ∧ r0 = ca E' h ∧ cRD t f1 x T w r E' gx mo u1 ∧ eag z (q_rho u) (q_kap u) (q_kap u1) E E' ∧ rl_on r f f1 ∧ z1 ≤ z + 3 * (q_at u1 - q_at u) ∧ d1 ≤ 13 * (q_at u1 - q_at u)) := by
  refine rl_begin (own := RX5) (lv := [(0, .ref (r)), (1, .int (nI (s0))), (2, va_rf (pr))]) (by decide +kernel) rfl (by cases pr <;> exact Nat.le_of_ble_eq_true rfl) (by cases pr <;> rfl) fun p e s m0 args below meth c ls H locs hC hr hlk hnm hW hl hx hb => ?_
  obtain ⟨hI, hGq, hrx, hat, hbd, hdp, md, hmd, hrd⟩ := id hS
  have hl250 := hGq.2.2.2.2
  refine lv_iload_n hx hb dX5_nextThing_0 rfl (lv_at hl 1 rfl) ?_
  refine lv_iconst (v := (nI (2))) hx hb dX5_nextThing_1 (by decide) ?_
  refine lv_icmp_ne (tgt := 11) hx hb dX5_nextThing_2 (by decide) (fun c1 => ?_) (fun c1 => ?_)
  · have n2 : s0 ≠ 2 := fun q => c1 (by rw [q])
    refine lv_iload_n hx hb dX5_nextThing_11 rfl (lv_at hl 1 rfl) ?_
    refine lv_iconst (v := (nI (4))) hx hb dX5_nextThing_12 (by decide) ?_
    refine lv_icmp_ne (tgt := 30) hx hb dX5_nextThing_13 (by decide) (fun c2 => ?_) (fun c2 => ?_)
    · obtain rfl : s0 = 3 := by have h4 : s0 ≠ 4 := fun q => c2 (by rw [q]); omega
      refine lv_aload_n hx hb dX5_nextThing_30 rfl (lv_at hl 0 rfl) ?_
      refine rl_calllQ (rl_runV (b := r) (As := []) (rest := []) hC hW (cC_nextLeaf l D t A _ z x T w r E _ _ u hS) cs_X5_48 im_X5_nextLeaf sl_X5_nextLeaf hrd rfl ⟨by simp only [rl_rm]; omega, by simp only [rl_rm]; omega⟩ rfl hl.1 rfl (Nat.le_of_ble_eq_true rfl) dX5_nextThing_31 ⟨by simp only [rl_rm]; omega, by simp only [rl_rm]; omega⟩) hW (fun y1 f1 H locs hp hW => ?_)
      obtain ⟨u1, hlf1, hS1, hon1⟩ := hp
      obtain ⟨hst1, eG1, er1, ek1, ed1, hw1, hy1⟩ := lf_all hGq hlf1
      have hO1 := hon1
      obtain ⟨hI1, hGq1, hrx1, hat1, hbd1, hdp1, md1, hmd1, hrd1⟩ := id hS1
      have hl2501 := hGq1.2.2.2.2
      have hs4 := hst1.2.2.2.1
      refine lv_lconst (v := 0) hx hb dX5_nextThing_34 (by decide) ?_
      refine W.lcmp hx hb dX5_nextThing_35 ?_
      refine lv_if_ne (tgt := 43) hx hb dX5_nextThing_36 (by decide) (fun c3 => ?_) (fun c3 => ?_)
      · have hy0 : y1 ≠ 0 := fun q => c3 ((lg_cmp_eq _ _).mpr q)
        have hb1 : q_bad u1 = 0 := Decidable.byContradiction fun q => hy0 (hy1 q)
        refine lv_aload_n hx hb dX5_nextThing_43 rfl (lv_at hl 0 rfl) ?_
        refine rl_aloadq_n hx hb dX5_nextThing_44 rfl (lv_at hl 2 rfl) ?_
        rcases hpr with ⟨rfl, hpp⟩ | ⟨a, j, N, X, p0, pn, ps, po, rfl, hDr, hpp, hP, hpo⟩
        · refine lv_ifnullN (tgt := 52) hx hb dX5_nextThing_45 (by decide) ?_
          refine lv_iconst (v := (nI (0))) hx hb dX5_nextThing_52 (by decide) ?_
          refine rl_callq (rl_runV (b := r) (As := [.int (nI (0))]) (rest := []) hC hW (hNR _ z E u1 0 (by decide) hS1 hb1 (ed1.trans hdpo)) cs_X5_123 im_X5_nextRecord sl_X5_nextRecord hrd1 rfl ⟨by simp only [rl_rm]; omega, by simp only [rl_rm]; omega⟩ rfl hl.1 rfl (Nat.le_of_ble_eq_true rfl) dX5_nextThing_53 ⟨by simp only [rl_rm]; omega, by simp only [rl_rm]; omega⟩) hW (fun r0 f2 z1 d1 H locs hp hW hz1 => ?_)
          obtain ⟨E2, h2d, u2, he2, hr2, hS2, heg2, hon2, hz2, hd2⟩ := hp
          have hq2502 := hS2.at2
          have hpm : q_at u1 ≤ q_at u2 := by have h9 := (st_rec hT hw (6 - op) (0 == 1) u1 hGq1).1.2.2.2.1; rw [he2] at h9; exact h9
          rw [er1, ek1] at heg2
          exact rl_aret (v := r0) hC hW hr hlk (by simp only [rl_rm]; omega) (by simp only [rl_rm]; omega) ⟨_, rfl, E2, h2d, u2, (vl_i hlf1).trans ((in_s (b := (0 == 1)) hy0 (by rw [hpp]; rfl)).trans (by rw [he2])), hr2, hS2, heg2, hon1.tr hon2, by omega, by omega⟩ dX5_nextThing_56
        · refine lv_ifnull hx hb dX5_nextThing_45 ?_
          refine lv_iconst (v := (nI (1))) hx hb dX5_nextThing_48 (by decide) ?_
          refine lv_goto (tgt := 53) hx hb dX5_nextThing_49 (by decide) ?_
          refine rl_callq (rl_runV (b := r) (As := [.int (nI (1))]) (rest := []) hC hW (hNR _ z E u1 1 (by decide) hS1 hb1 (ed1.trans hdpo)) cs_X5_123 im_X5_nextRecord sl_X5_nextRecord hrd1 rfl ⟨by simp only [rl_rm]; omega, by simp only [rl_rm]; omega⟩ rfl hl.1 rfl (Nat.le_of_ble_eq_true rfl) dX5_nextThing_53 ⟨by simp only [rl_rm]; omega, by simp only [rl_rm]; omega⟩) hW (fun r0 f2 z1 d1 H locs hp hW hz1 => ?_)
          obtain ⟨E2, h2d, u2, he2, hr2, hS2, heg2, hon2, hz2, hd2⟩ := hp
          have hq2502 := hS2.at2
          have hpm : q_at u1 ≤ q_at u2 := by have h9 := (st_rec hT hw (6 - op) (1 == 1) u1 hGq1).1.2.2.2.1; rw [he2] at h9; exact h9
          rw [er1, ek1] at heg2
          exact rl_aret (v := r0) hC hW hr hlk (by simp only [rl_rm]; omega) (by simp only [rl_rm]; omega) ⟨_, rfl, E2, h2d, u2, (vl_i hlf1).trans ((in_s (b := (1 == 1)) hy0 (by rw [hpp]; rfl)).trans (by rw [he2])), hr2, hS2, heg2, hon1.tr hon2, by omega, by omega⟩ dX5_nextThing_56
      · have hy0 : y1 = 0 := (lg_cmp_eq _ _).mp c3
        refine lv_null hx hb dX5_nextThing_39 ?_
        refine lv_goto (tgt := 56) hx hb dX5_nextThing_40 (by decide) ?_
        exact rl_aret (v := none) hC hW hr hlk (by simp only [rl_rm]; omega) (by simp only [rl_rm]; omega) ⟨_, rfl, E, none, u1, (vl_i hlf1).trans (in_0 hy0), rfl, hS1, ek1 ▸ eag.rf, hon1, by omega, by omega⟩ dX5_nextThing_56
    · obtain rfl : s0 = 4 := (nI_eq (by omega) (by decide)).mp c2
      refine lv_aload_n hx hb dX5_nextThing_16 rfl (lv_at hl 0 rfl) ?_
      refine rl_aloadq_n hx hb dX5_nextThing_17 rfl (lv_at hl 2 rfl) ?_
      rcases hpr with ⟨rfl, hpp⟩ | ⟨a, j, N, X, p0, pn, ps, po, rfl, hDr, hpp, hP, hpo⟩
      · refine lv_ifnullN (tgt := 25) hx hb dX5_nextThing_18 (by decide) ?_
        refine lv_iconst (v := (nI (0))) hx hb dX5_nextThing_25 (by decide) ?_
        refine rl_callq (rl_runV (b := r) (As := [.int (nI (0))]) (rest := []) hC hW (cC_nextRow l D t A _ z x T w r E _ _ u hS 0 (by decide)) cs_X5_119 im_X5_nextRow sl_X5_nextRow hrd rfl ⟨by simp only [rl_rm]; omega, by simp only [rl_rm]; omega⟩ rfl hl.1 rfl (Nat.le_of_ble_eq_true rfl) dX5_nextThing_26 ⟨by simp only [rl_rm]; omega, by simp only [rl_rm]; omega⟩) hW (fun r0 f1 z1 d1 H locs hp hW hz1 => ?_)
        obtain ⟨E2, h2d, u2, he2, hr2, hS2, heg2, hon2, hz2, hd2⟩ := hp
        have hq2502 := hS2.at2
        exact rl_aret (v := r0) hC hW hr hlk (by simp only [rl_rm]; omega) (by simp only [rl_rm]; omega) ⟨_, rfl, E2, h2d, u2, (vl_r (b := (0 == 1)) (by rw [hpp]; rfl)).trans (by rw [he2]), hr2, hS2, heg2, hon2, by omega, by omega⟩ dX5_nextThing_29
      · refine lv_ifnull hx hb dX5_nextThing_18 ?_
        refine lv_iconst (v := (nI (1))) hx hb dX5_nextThing_21 (by decide) ?_
        refine lv_goto (tgt := 26) hx hb dX5_nextThing_22 (by decide) ?_
        refine rl_callq (rl_runV (b := r) (As := [.int (nI (1))]) (rest := []) hC hW (cC_nextRow l D t A _ z x T w r E _ _ u hS 1 (by decide)) cs_X5_119 im_X5_nextRow sl_X5_nextRow hrd rfl ⟨by simp only [rl_rm]; omega, by simp only [rl_rm]; omega⟩ rfl hl.1 rfl (Nat.le_of_ble_eq_true rfl) dX5_nextThing_26 ⟨by simp only [rl_rm]; omega, by simp only [rl_rm]; omega⟩) hW (fun r0 f1 z1 d1 H locs hp hW hz1 => ?_)
        obtain ⟨E2, h2d, u2, he2, hr2, hS2, heg2, hon2, hz2, hd2⟩ := hp
        have hq2502 := hS2.at2
        exact rl_aret (v := r0) hC hW hr hlk (by simp only [rl_rm]; omega) (by simp only [rl_rm]; omega) ⟨_, rfl, E2, h2d, u2, (vl_r (b := (1 == 1)) (by rw [hpp]; rfl)).trans (by rw [he2]), hr2, hS2, heg2, hon2, by omega, by omega⟩ dX5_nextThing_29
  · obtain rfl : s0 = 2 := (nI_eq (by omega) (by decide)).mp c1
    have hpr2 : (pr = none ∧ pp = none) ∨ ∃ (a j : Nat) (N : Nat → Int64) (X : Nat → pHd) (p0 : Nat) (pn ps po : Int32), pr = some a ∧ Dr = some (j, N, X) ∧ pp = some p0 ∧ f a = some (.inr (4, [.int pn, .int ps, .int po])) ∧ po = nI (T 8 (5 * j + p0)) ∧ T 8 (5 * j + p0) < 2 := hpr.imp id (fun ⟨a, j, N, X, p0, pn, ps, po, h1, h2, h3, h4, h5⟩ => ⟨a, j, N, X, p0, pn, ps, po, h1, h2, h3, h4, (h5 rfl).2, (h5 rfl).1⟩)
    refine lv_aload_n hx hb dX5_nextThing_5 rfl (lv_at hl 0 rfl) ?_
    refine rl_aloadq_n hx hb dX5_nextThing_6 rfl (lv_at hl 2 rfl) ?_
    refine rl_callqQ (rl_runV (b := r) (As := [va_rf (pr)]) (rest := []) hC hW (cC_nextConstant l D t A _ z x T w r E _ _ u hS hT hw Dr pp pr hpr2) cs_X5_115 im_X5_nextConstant sl_X5_nextConstant hrd rfl ⟨by simp only [rl_rm]; omega, by simp only [rl_rm]; omega⟩ rfl hl.1 rfl (Nat.le_of_ble_eq_true rfl) dX5_nextThing_7 ⟨by simp only [rl_rm]; omega, by simp only [rl_rm]; omega⟩) hW (fun r0 f1 H locs hp hW => ?_)
    obtain ⟨h2d, u2, he2, hr2, hS2, hon2, hk2⟩ := hp
    exact rl_aret (v := r0) hC hW hr hlk (by simp only [rl_rm]; omega) (by simp only [rl_rm]; omega) ⟨_, rfl, E, h2d, u2, (vl_c (v := (q_leaf u).1) (q1 := (q_leaf u).2) rfl).trans he2, hr2, hS2, hk2 ▸ eag.rf, hon2, by omega, by omega⟩ dX5_nextThing_10

set_option maxHeartbeats 4000000 in
set_option maxRecDepth 100000 in
theorem cC_nextPart (l : Launch) (D : va_G) (t : Nat → ClassId) (A : Nat → Prop) (f : rl_M) (z : Nat) (x : Nat) (T : Nat → Nat → Nat) (w r : Nat) (E : Nat → Nat → Nat) (gx : Nat → Int32) (mo : Int32) (u : pQ) (hS : cRD t f x T w r E gx mo u) (hT : rt_ok T) (hw : w < 3) (op : Nat) (hNR : cNR l D t A x T w r gx mo op) (hdpo : q_bad u = 0 → q_dp u = op) (dr : Option Nat) (Dr : pD) (hdr : cDO t f x T w E u dr Dr) : rl_Met l yX5_nextPart (.code yX5_nextPart cX5_nextPart 9 none) (rl_rm (10 + 3 * (6 - op)) (3 * (250 - q_at u)) (13 * (250 - q_at u))) D t A f z [.ref (r), va_rf (dr)] (rl_pv fun f1 z1 d1 => ∃ E' D1 u1, q_part T w (q_rec T w (6 - op)) Dr u = (D1, u1) ∧ cRD t f1 x T w r E' gx mo u1 ∧ cDO t f1 x T w E' u1 dr D1 ∧ eag z (q_rho u) (q_kap u) (q_kap u1) E E' ∧ rl_pn r dr f f1 ∧ z1 ≤ z + 3 * (q_at u1 - q_at u) ∧ d1 ≤ 13 * (q_at u1 - q_at u)) := by
  refine rl_begin (own := RX5) (lv := [(0, .ref (r)), (1, va_rf (dr))]) (by decide +kernel) rfl (by cases dr <;> exact Nat.le_of_ble_eq_true rfl) (by cases dr <;> rfl) fun p e s m0 args below meth c ls H locs hC hr hlk hnm hW hl hx hb => ?_
  obtain ⟨hI, hGq, hrx, hat, hbd, hdp, md, hmd, hrd⟩ := id hS
  have hl250 := hGq.2.2.2.2
  have hq250 := hS.at2
  have hz0 : ∀ q e, f q = some e → q < z := fun q e h => hW.lt h
  obtain ⟨-, hdrx⟩ := id hdr
  rcases hdrx with ⟨rfl, rfl⟩ | ⟨a, j, N, X, rfl, rfl, -, -⟩
  · refine lv_aload_n hx hb dX5_nextPart_0 rfl (lv_at hl 0 rfl) ?_
    refine rl_calllQ (rl_runV (b := r) (As := []) (rest := []) hC hW (cC_nextLeaf l D t A _ z x T w r E _ _ u hS) cs_X5_48 im_X5_nextLeaf sl_X5_nextLeaf hrd rfl ⟨by simp only [rl_rm]; omega, by simp only [rl_rm]; omega⟩ rfl hl.1 rfl (Nat.le_of_ble_eq_true rfl) dX5_nextPart_1 ⟨by simp only [rl_rm]; omega, by simp only [rl_rm]; omega⟩) hW (fun y1 f1 H locs hp hW => ?_)
    obtain ⟨u1, hlf1, hS1, hon1⟩ := hp
    obtain ⟨hst1, eG1, er1, ek1, ed1, hw1, hy1⟩ := lf_all hGq hlf1
    have hO1 := hon1
    obtain ⟨hI1, hGq1, hrx1, hat1, hbd1, hdp1, md1, hmd1, hrd1⟩ := id hS1
    have hl2501 := hGq1.2.2.2.2
    have hek1 := ek1
    have hdr1 := hdr.q hon1 hrd er1 ek1
    refine lv_lstore_n (lv' := [(2, .long (y1)), (0, .ref (r)), (1, .null)]) hx hb dX5_nextPart_4 rfl hl (by decide) rfl (fun ls hl => ?_)
    refine lv_aload_n hx hb dX5_nextPart_5 rfl (lv_at hl 1 rfl) ?_
    refine rl_calllQ (rl_runV (b := r) (As := []) (rest := []) hC hW (cC_nextLeaf l D t A _ z x T w r E _ _ u1 hS1) cs_X5_48 im_X5_nextLeaf sl_X5_nextLeaf hrd1 rfl ⟨by simp only [rl_rm]; omega, by simp only [rl_rm]; omega⟩ rfl hl.1 rfl (Nat.le_of_ble_eq_true rfl) dX5_nextPart_6 ⟨by simp only [rl_rm]; omega, by simp only [rl_rm]; omega⟩) hW (fun y2 f2 H locs hp hW => ?_)
    obtain ⟨u2, hlf2, hS2, hon2⟩ := hp
    obtain ⟨hst2, eG2, er2, ek2, ed2, hw2, hy2⟩ := lf_all hGq1 hlf2
    have hO2 := hO1.tr hon2
    obtain ⟨hI2, hGq2, hrx2, hat2, hbd2, hdp2, md2, hmd2, hrd2⟩ := id hS2
    have hl2502 := hGq2.2.2.2.2
    have hek2 := ek2.trans ek1
    have her2 := er2.trans er1
    have hdr2 := hdr1.q hon2 hrd1 er2 ek2
    have hst2u := hst1.tr hst2
    have hat2u := hst2u.2.2.2.1
    refine lv_lstore (lv' := [(4, .long (y2)), (2, .long (y1)), (0, .ref (r)), (1, .null)]) hx hb dX5_nextPart_9 hl (by decide) rfl (fun ls hl => ?_)
    refine lv_lload hx hb dX5_nextPart_11 (lv_at hl 0 rfl) ?_
    refine lv_lconst (v := 0) hx hb dX5_nextPart_13 (by decide) ?_
    refine W.lcmp hx hb dX5_nextPart_14 ?_
    refine lv_if_lt (tgt := 27) hx hb dX5_nextPart_15 (by decide) (fun c2 => ?_) (fun c2 => ?_)
    · refine lv_aload_n hx hb dX5_nextPart_27 rfl (lv_at hl 2 rfl) ?_
      refine lv_iconst (v := (nI (2))) hx hb dX5_nextPart_28 (by decide) ?_
      refine rl_callvQ (rl_runV (b := r) (As := [.int (nI (2))]) (rest := []) hC hW (cC_fail l D t A _ z x T w r E _ _ u2 hS2 2 (by decide)) cs_X5_44 im_X5_fail sl_X5_fail hrd2 rfl ⟨by simp only [rl_rm]; omega, by simp only [rl_rm]; omega⟩ rfl hl.1 rfl (Nat.le_of_ble_eq_true rfl) dX5_nextPart_29 ⟨by simp only [rl_rm]; omega, by simp only [rl_rm]; omega⟩) hW (fun f3 H locs hp hW => ?_)
      obtain ⟨u3, hfl3, hS3, hon3⟩ := hp
      obtain ⟨eG3, er3, ek3, ed3, ea3⟩ : q_G u3 = q_G u2 ∧ q_rho u3 = q_rho u2 ∧ q_kap u3 = q_kap u2 ∧ q_dp u3 = q_dp u2 ∧ q_at u3 = q_at u2 := by rw [hfl3]; exact fl_G
      have hne3 : q_bad u3 ≠ 0 := by rw [hfl3]; exact q_fail_ne (by decide)
      have hst3 : qst T u2 u3 := by rw [hfl3]; exact st_fail hGq2 (by decide)
      have hO3 := hO2.tr hon3
      obtain ⟨hI3, hGq3, hrx3, hat3, hbd3, hdp3, md3, hmd3, hrd3⟩ := id hS3
      have hl2503 := hGq3.2.2.2.2
      have hek3 := ek3.trans hek2
      have hdr3 := hdr2.q hon3 hrd2 er3 ek3
      have hpe := (pt_no (T := T) (w := w) (R := (q_rec T w (6 - op))) (D := none) hlf1 hlf2 (rg_no5a ((lg_cmp_lt _ _).mp c2))).trans (by rw [← hfl3])
      refine lv_aload_nN hx hb dX5_nextPart_32 rfl (lv_at hl 3 rfl) ?_
      refine lv_ifnonnullN hx hb dX5_nextPart_33 ?_
      refine lv_bipush (v := (-3)) hx hb dX5_nextPart_36 (by decide) ?_
      refine lv_goto (tgt := 49) hx hb dX5_nextPart_38 (by decide) ?_
      refine lv_istore (lv' := [(6, .int (-3)), (4, .long (y2)), (2, .long (y1)), (0, .ref (r)), (1, .null)]) hx hb dX5_nextPart_49 hl (by decide) rfl (fun ls hl => ?_)
      refine lv_iload hx hb dX5_nextPart_51 (lv_at hl 0 rfl) ?_
      refine lv_bipush (v := (-3)) hx hb dX5_nextPart_53 (by decide) ?_
      refine lv_icmp_eq (tgt := 83) hx hb dX5_nextPart_55 (by decide) (fun c5 => ?_) (fun c5 => absurd rfl c5)
      refine lv_aload_n hx hb dX5_nextPart_83 rfl (lv_at hl 3 rfl) ?_
      refine rl_get (v := .int (nI (q_bad u3))) hC hW fl_X5_23 hrd3 rfl dX5_nextPart_84 ?_
      refine lv_if_eq (tgt := 91) hx hb dX5_nextPart_87 (by decide) (fun c7 => ?_) (fun c7 => ?_)
      · exact absurd ((nI_eq (by omega) (by decide)).mp c7) hne3
      · exact rl_vret hC hW hr hlk (by simp only [rl_rm]; omega) (by simp only [rl_rm]; omega) ⟨rfl, ⟨E, _, u3, hpe, hS3, hdr3, hek3 ▸ eag.rf, fun q e h1 h2 _ => hO3 q e h1 h2, by omega, by omega⟩⟩ dX5_nextPart_90
    · refine lv_lload hx hb dX5_nextPart_18 (lv_at hl 0 rfl) ?_
      refine lv_ldc2 (v := 5) hx hb hC.2.2.2.1 (hC.2.2.2.2.1 _ (List.mem_cons_of_mem _ mw_597)) dX5_nextPart_20 ?_
      refine W.lcmp hx hb dX5_nextPart_23 ?_
      refine lv_if_lt (tgt := 32) hx hb dX5_nextPart_24 (by decide) (fun c3 => ?_) (fun c3 => ?_)
      · obtain ⟨s0, hs0, rfl⟩ := rg_l5 (fun q => c2 ((lg_cmp_lt _ _).mpr q)) ((lg_cmp_lt _ _).mp c3)
        refine lv_aload_nN hx hb dX5_nextPart_32 rfl (lv_at hl 3 rfl) ?_
        refine lv_ifnonnullN hx hb dX5_nextPart_33 ?_
        refine lv_bipush (v := (-3)) hx hb dX5_nextPart_36 (by decide) ?_
        refine lv_goto (tgt := 49) hx hb dX5_nextPart_38 (by decide) ?_
        refine lv_istore (lv' := [(6, .int (-3)), (4, .long (lN s0)), (2, .long (y1)), (0, .ref (r)), (1, .null)]) hx hb dX5_nextPart_49 hl (by decide) rfl (fun ls hl => ?_)
        refine lv_iload hx hb dX5_nextPart_51 (lv_at hl 0 rfl) ?_
        refine lv_bipush (v := (-3)) hx hb dX5_nextPart_53 (by decide) ?_
        refine lv_icmp_eq (tgt := 83) hx hb dX5_nextPart_55 (by decide) (fun c5 => ?_) (fun c5 => absurd rfl c5)
        refine lv_aload_n hx hb dX5_nextPart_83 rfl (lv_at hl 3 rfl) ?_
        refine rl_get (v := .int (nI (q_bad u2))) hC hW fl_X5_23 hrd2 rfl dX5_nextPart_84 ?_
        refine lv_if_eq (tgt := 91) hx hb dX5_nextPart_87 (by decide) (fun c7 => ?_) (fun c7 => ?_)
        · have hbz : q_bad u2 = 0 := (nI_eq (by omega) (by decide)).mp c7
          have hdp2 : q_dp u2 = op := by have h9 := hst2u.2.2.2.2.2.2 hbz; rw [h9.2]; exact hdpo h9.1
          have hfp : q_find T none y1 = none := rfl
          have hnc : ¬ q_cast T none none s0 := id
          have hpv := pt_v (w := w) (R := (q_rec T w (6 - op))) hlf1 hlf2 hbz hs0 hfp hnc
          have hhp : ∀ j9 N9 X9 p', (none : pD) = some (j9, N9, X9) → (none : Option Nat) = some p' → p' < T 2 j9 ∧ T 4 (5 * j9 + p') = s0 := fun j N X p' e1 e2 => by cases e2
          refine lv_lload hx hb dX5_nextPart_91 (lv_at hl 1 rfl) ?_
          refine lv_lconst (v := 1) hx hb dX5_nextPart_93 (by decide) ?_
          refine W.lcmp hx hb dX5_nextPart_94 ?_
          refine lv_if_gt (tgt := 121) hx hb dX5_nextPart_95 (by decide) (fun c8 => ?_) (fun c8 => ?_)
          · have hs2 : 2 ≤ s0 := rg_gt1 (by omega) c8
            refine lv_aload_n hx hb dX5_nextPart_121 rfl (lv_at hl 3 rfl) ?_
            refine lv_lload hx hb dX5_nextPart_122 (lv_at hl 1 rfl) ?_
            refine lv_l2i hx hb dX5_nextPart_124 rfl ?_
            refine rl_topn (lN_i _) ?_
            refine lv_iload hx hb dX5_nextPart_125 (lv_at hl 0 rfl) ?_
            refine lv_bipush (v := (-3)) hx hb dX5_nextPart_127 (by decide) ?_
            refine lv_icmp_ne (tgt := 136) hx hb dX5_nextPart_129 (by decide) (fun c10 => ?_) (fun c10 => ?_)
            · exact absurd rfl c10
            · refine lv_null hx hb dX5_nextPart_132 ?_
              refine lv_goto (tgt := 146) hx hb dX5_nextPart_133 (by decide) ?_
              have hz2 : ∀ q e, f2 q = some e → q < z := fun q e h => hW.lt h
              refine rl_callq (rl_runV (b := r) (As := [.int (nI (s0)), .null]) (rest := []) hC hW (cC_nextThing l D t A _ z x T w r E _ _ u2 hS2 hT hw op hNR hbz hdp2 s0 ⟨hs2, hs0⟩ none none (none) (Or.inl ⟨rfl, rfl⟩)) cs_X5_111 im_X5_nextThing sl_X5_nextThing hrd2 rfl ⟨by simp only [rl_rm]; omega, by simp only [rl_rm]; omega⟩ rfl hl.1 rfl (Nat.le_of_ble_eq_true rfl) dX5_nextPart_146 ⟨by simp only [rl_rm]; omega, by simp only [rl_rm]; omega⟩) hW (fun r0 f3 z1 d1 H locs hp hW hz1 => ?_)
              obtain ⟨E3, h3d, u3, he3, hr3, hS3, heg3, hon3, hzz3, hdd3⟩ := hp
              have hq2503 := hS3.at2
              obtain ⟨hst3, hqd3⟩ : qst T u2 u3 ∧ qdo T w (q_rho u3) (q_kap u3) (q_put none none h3d) := by have h9 := st_val (s := s0) hT hw (st_rec hT hw (6 - op)) hs0 hGq2 hdr2.1 hhp; rw [he3] at h9; exact h9
              have hs3a := hst3.2.2.2.1
              have hpe := hpv.trans he3
              have hdr3 := hdr2.j hon3 hrd2 heg3 hst3 hz2
              have hO3 := hO2.tr hon3
              rw [her2, hek2] at heg3
              obtain ⟨hI3, hGq3, hrx3, hat3, hbd3, hdp3, md3, hmd3, hrd3⟩ := id hS3
              have hl2503 := hGq3.2.2.2.2
              replace hpe : q_part T w (q_rec T w (6 - op)) none u = (none, u3) := hpe
              refine rl_astoreq (lv' := [(7, va_rf (r0)), (6, .int (-3)), (4, .long (lN s0)), (2, .long (y1)), (0, .ref (r)), (1, .null)]) hx hb dX5_nextPart_149 hl (by decide) rfl (fun ls hl => ?_)
              refine lv_iload hx hb dX5_nextPart_151 (lv_at hl 1 rfl) ?_
              refine lv_bipush (v := (-3)) hx hb dX5_nextPart_153 (by decide) ?_
              refine lv_icmp_eq (tgt := 167) hx hb dX5_nextPart_155 (by decide) (fun c5 => ?_) (fun c5 => absurd rfl c5)
              exact rl_vret hC hW hr hlk (by simp only [rl_rm]; omega) (by simp only [rl_rm]; omega) ⟨rfl, ⟨E3, _, u3, hpe, hS3, hdr3, heg3, fun q e h1 h2 _ => hO3 q e h1 h2, by omega, by omega⟩⟩ dX5_nextPart_167
          · have hs2 : s0 < 2 := rg_s1 (by omega) c8
            refine lv_aload_n hx hb dX5_nextPart_98 rfl (lv_at hl 3 rfl) ?_
            refine rl_calllQ (rl_runV (b := r) (As := []) (rest := []) hC hW (cC_nextLeaf l D t A _ z x T w r E _ _ u2 hS2) cs_X5_48 im_X5_nextLeaf sl_X5_nextLeaf hrd2 rfl ⟨by simp only [rl_rm]; omega, by simp only [rl_rm]; omega⟩ rfl hl.1 rfl (Nat.le_of_ble_eq_true rfl) dX5_nextPart_99 ⟨by simp only [rl_rm]; omega, by simp only [rl_rm]; omega⟩) hW (fun y3 f3 H locs hp hW => ?_)
            obtain ⟨u3, hlf3, hS3, hon3⟩ := hp
            obtain ⟨hst3, eG3, er3, ek3, ed3, hw3, hy3⟩ := lf_all hGq2 hlf3
            have hO3 := hO2.tr hon3
            obtain ⟨hI3, hGq3, hrx3, hat3, hbd3, hdp3, md3, hmd3, hrd3⟩ := id hS3
            have hl2503 := hGq3.2.2.2.2
            have hqd3 : qdo T w (q_rho u3) (q_kap u3) (q_num none none y3) := by have h9 := (st_val (s := s0) hT hw (st_rec hT hw (6 - op)) hs0 hGq2 hdr2.1 hhp).2; rw [vl_n hs2 hlf3] at h9; exact h9
            have hs3a := hst3.2.2.2.1
            have hpe := hpv.trans (vl_n hs2 hlf3)
            have hdr3 := hdr2.q hon3 hrd2 er3 ek3
            have hq2503 := hS3.at2
            have heg3 : eag z (q_rho u) (q_kap u) (q_kap u3) E E := (ek3.trans hek2) ▸ eag.rf
            replace hpe : q_part T w (q_rec T w (6 - op)) none u = (none, u3) := hpe
            refine lv_lstore (lv' := [(7, .long (y3)), (6, .int (-3)), (4, .long (lN s0)), (2, .long (y1)), (0, .ref (r)), (1, .null)]) hx hb dX5_nextPart_102 hl (by decide) rfl (fun ls hl => ?_)
            refine lv_iload hx hb dX5_nextPart_104 (lv_at hl 1 rfl) ?_
            refine lv_bipush (v := (-3)) hx hb dX5_nextPart_106 (by decide) ?_
            refine lv_icmp_eq (tgt := 120) hx hb dX5_nextPart_108 (by decide) (fun c5 => ?_) (fun c5 => absurd rfl c5)
            exact rl_vret hC hW hr hlk (by simp only [rl_rm]; omega) (by simp only [rl_rm]; omega) ⟨rfl, ⟨E, _, u3, hpe, hS3, hdr3, heg3, fun q e h1 h2 _ => hO3 q e h1 h2, by omega, by omega⟩⟩ dX5_nextPart_120
        · have hbz : q_bad u2 ≠ 0 := fun q => c7 (by rw [q]; rfl)
          have hpe := pt_2 (T := T) (w := w) (R := (q_rec T w (6 - op))) (D := none) hlf1 hlf2 hbz
          exact rl_vret hC hW hr hlk (by simp only [rl_rm]; omega) (by simp only [rl_rm]; omega) ⟨rfl, ⟨E, _, u2, hpe, hS2, hdr2, hek2 ▸ eag.rf, fun q e h1 h2 _ => hO2 q e h1 h2, by omega, by omega⟩⟩ dX5_nextPart_90
      · refine lv_aload_n hx hb dX5_nextPart_27 rfl (lv_at hl 2 rfl) ?_
        refine lv_iconst (v := (nI (2))) hx hb dX5_nextPart_28 (by decide) ?_
        refine rl_callvQ (rl_runV (b := r) (As := [.int (nI (2))]) (rest := []) hC hW (cC_fail l D t A _ z x T w r E _ _ u2 hS2 2 (by decide)) cs_X5_44 im_X5_fail sl_X5_fail hrd2 rfl ⟨by simp only [rl_rm]; omega, by simp only [rl_rm]; omega⟩ rfl hl.1 rfl (Nat.le_of_ble_eq_true rfl) dX5_nextPart_29 ⟨by simp only [rl_rm]; omega, by simp only [rl_rm]; omega⟩) hW (fun f3 H locs hp hW => ?_)
        obtain ⟨u3, hfl3, hS3, hon3⟩ := hp
        obtain ⟨eG3, er3, ek3, ed3, ea3⟩ : q_G u3 = q_G u2 ∧ q_rho u3 = q_rho u2 ∧ q_kap u3 = q_kap u2 ∧ q_dp u3 = q_dp u2 ∧ q_at u3 = q_at u2 := by rw [hfl3]; exact fl_G
        have hne3 : q_bad u3 ≠ 0 := by rw [hfl3]; exact q_fail_ne (by decide)
        have hst3 : qst T u2 u3 := by rw [hfl3]; exact st_fail hGq2 (by decide)
        have hO3 := hO2.tr hon3
        obtain ⟨hI3, hGq3, hrx3, hat3, hbd3, hdp3, md3, hmd3, hrd3⟩ := id hS3
        have hl2503 := hGq3.2.2.2.2
        have hek3 := ek3.trans hek2
        have hdr3 := hdr2.q hon3 hrd2 er3 ek3
        have hpe := (pt_no (T := T) (w := w) (R := (q_rec T w (6 - op))) (D := none) hlf1 hlf2 (rg_no5b (fun q => c3 ((lg_cmp_lt _ _).mpr q)))).trans (by rw [← hfl3])
        refine lv_aload_nN hx hb dX5_nextPart_32 rfl (lv_at hl 3 rfl) ?_
        refine lv_ifnonnullN hx hb dX5_nextPart_33 ?_
        refine lv_bipush (v := (-3)) hx hb dX5_nextPart_36 (by decide) ?_
        refine lv_goto (tgt := 49) hx hb dX5_nextPart_38 (by decide) ?_
        refine lv_istore (lv' := [(6, .int (-3)), (4, .long (y2)), (2, .long (y1)), (0, .ref (r)), (1, .null)]) hx hb dX5_nextPart_49 hl (by decide) rfl (fun ls hl => ?_)
        refine lv_iload hx hb dX5_nextPart_51 (lv_at hl 0 rfl) ?_
        refine lv_bipush (v := (-3)) hx hb dX5_nextPart_53 (by decide) ?_
        refine lv_icmp_eq (tgt := 83) hx hb dX5_nextPart_55 (by decide) (fun c5 => ?_) (fun c5 => absurd rfl c5)
        refine lv_aload_n hx hb dX5_nextPart_83 rfl (lv_at hl 3 rfl) ?_
        refine rl_get (v := .int (nI (q_bad u3))) hC hW fl_X5_23 hrd3 rfl dX5_nextPart_84 ?_
        refine lv_if_eq (tgt := 91) hx hb dX5_nextPart_87 (by decide) (fun c7 => ?_) (fun c7 => ?_)
        · exact absurd ((nI_eq (by omega) (by decide)).mp c7) hne3
        · exact rl_vret hC hW hr hlk (by simp only [rl_rm]; omega) (by simp only [rl_rm]; omega) ⟨rfl, ⟨E, _, u3, hpe, hS3, hdr3, hek3 ▸ eag.rf, fun q e h1 h2 _ => hO3 q e h1 h2, by omega, by omega⟩⟩ dX5_nextPart_90
  · refine lv_aload_n hx hb dX5_nextPart_0 rfl (lv_at hl 0 rfl) ?_
    refine rl_calllQ (rl_runV (b := r) (As := []) (rest := []) hC hW (cC_nextLeaf l D t A _ z x T w r E _ _ u hS) cs_X5_48 im_X5_nextLeaf sl_X5_nextLeaf hrd rfl ⟨by simp only [rl_rm]; omega, by simp only [rl_rm]; omega⟩ rfl hl.1 rfl (Nat.le_of_ble_eq_true rfl) dX5_nextPart_1 ⟨by simp only [rl_rm]; omega, by simp only [rl_rm]; omega⟩) hW (fun y1 f1 H locs hp hW => ?_)
    obtain ⟨u1, hlf1, hS1, hon1⟩ := hp
    obtain ⟨hst1, eG1, er1, ek1, ed1, hw1, hy1⟩ := lf_all hGq hlf1
    have hO1 := hon1
    obtain ⟨hI1, hGq1, hrx1, hat1, hbd1, hdp1, md1, hmd1, hrd1⟩ := id hS1
    have hl2501 := hGq1.2.2.2.2
    have hek1 := ek1
    have hdr1 := hdr.q hon1 hrd er1 ek1
    refine lv_lstore_n (lv' := [(2, .long (y1)), (0, .ref (r)), (1, .ref (a))]) hx hb dX5_nextPart_4 rfl hl (by decide) rfl (fun ls hl => ?_)
    refine lv_aload_n hx hb dX5_nextPart_5 rfl (lv_at hl 1 rfl) ?_
    refine rl_calllQ (rl_runV (b := r) (As := []) (rest := []) hC hW (cC_nextLeaf l D t A _ z x T w r E _ _ u1 hS1) cs_X5_48 im_X5_nextLeaf sl_X5_nextLeaf hrd1 rfl ⟨by simp only [rl_rm]; omega, by simp only [rl_rm]; omega⟩ rfl hl.1 rfl (Nat.le_of_ble_eq_true rfl) dX5_nextPart_6 ⟨by simp only [rl_rm]; omega, by simp only [rl_rm]; omega⟩) hW (fun y2 f2 H locs hp hW => ?_)
    obtain ⟨u2, hlf2, hS2, hon2⟩ := hp
    obtain ⟨hst2, eG2, er2, ek2, ed2, hw2, hy2⟩ := lf_all hGq1 hlf2
    have hO2 := hO1.tr hon2
    obtain ⟨hI2, hGq2, hrx2, hat2, hbd2, hdp2, md2, hmd2, hrd2⟩ := id hS2
    have hl2502 := hGq2.2.2.2.2
    have hek2 := ek2.trans ek1
    have her2 := er2.trans er1
    have hdr2 := hdr1.q hon2 hrd1 er2 ek2
    have hst2u := hst1.tr hst2
    have hat2u := hst2u.2.2.2.1
    refine lv_lstore (lv' := [(4, .long (y2)), (2, .long (y1)), (0, .ref (r)), (1, .ref (a))]) hx hb dX5_nextPart_9 hl (by decide) rfl (fun ls hl => ?_)
    refine lv_lload hx hb dX5_nextPart_11 (lv_at hl 0 rfl) ?_
    refine lv_lconst (v := 0) hx hb dX5_nextPart_13 (by decide) ?_
    refine W.lcmp hx hb dX5_nextPart_14 ?_
    refine lv_if_lt (tgt := 27) hx hb dX5_nextPart_15 (by decide) (fun c2 => ?_) (fun c2 => ?_)
    · refine lv_aload_n hx hb dX5_nextPart_27 rfl (lv_at hl 2 rfl) ?_
      refine lv_iconst (v := (nI (2))) hx hb dX5_nextPart_28 (by decide) ?_
      refine rl_callvQ (rl_runV (b := r) (As := [.int (nI (2))]) (rest := []) hC hW (cC_fail l D t A _ z x T w r E _ _ u2 hS2 2 (by decide)) cs_X5_44 im_X5_fail sl_X5_fail hrd2 rfl ⟨by simp only [rl_rm]; omega, by simp only [rl_rm]; omega⟩ rfl hl.1 rfl (Nat.le_of_ble_eq_true rfl) dX5_nextPart_29 ⟨by simp only [rl_rm]; omega, by simp only [rl_rm]; omega⟩) hW (fun f3 H locs hp hW => ?_)
      obtain ⟨u3, hfl3, hS3, hon3⟩ := hp
      obtain ⟨eG3, er3, ek3, ed3, ea3⟩ : q_G u3 = q_G u2 ∧ q_rho u3 = q_rho u2 ∧ q_kap u3 = q_kap u2 ∧ q_dp u3 = q_dp u2 ∧ q_at u3 = q_at u2 := by rw [hfl3]; exact fl_G
      have hne3 : q_bad u3 ≠ 0 := by rw [hfl3]; exact q_fail_ne (by decide)
      have hst3 : qst T u2 u3 := by rw [hfl3]; exact st_fail hGq2 (by decide)
      have hO3 := hO2.tr hon3
      obtain ⟨hI3, hGq3, hrx3, hat3, hbd3, hdp3, md3, hmd3, hrd3⟩ := id hS3
      have hl2503 := hGq3.2.2.2.2
      have hek3 := ek3.trans hek2
      have hdr3 := hdr2.q hon3 hrd2 er3 ek3
      have hpe := (pt_no (T := T) (w := w) (R := (q_rec T w (6 - op))) (D := (some (j, N, X))) hlf1 hlf2 (rg_no5a ((lg_cmp_lt _ _).mp c2))).trans (by rw [← hfl3])
      refine lv_aload_n hx hb dX5_nextPart_32 rfl (lv_at hl 3 rfl) ?_
      refine lv_ifnonnull (tgt := 41) hx hb dX5_nextPart_33 (by decide) ?_
      refine lv_aload_n hx hb dX5_nextPart_41 rfl (lv_at hl 3 rfl) ?_
      obtain ⟨hD, hfre, hXo⟩ := hdr3.s
      obtain ⟨hj, hxa, h0, -⟩ := id hD
      obtain ⟨hrv, hj5, hj2, ⟨gp, hpa, hpp⟩, -⟩ := id (hI3.2.2.1 j hj)
      refine rl_get (v := .ref (x + 16 + 3 * j)) hC hW fl_X5_79 h0 rfl dX5_nextPart_42 ?_
      refine lv_lload_n hx hb dX5_nextPart_45 rfl (lv_at hl 1 rfl) ?_
      refine rl_calliQ (rl_runV (b := x + 16 + 3 * j) (As := [.long (y1)]) (rest := []) hC hW (cC_partNamed l D t A _ z x T _ _ _ E _ _ hI3 j hj _) cs_X5_94 im_X7_partNamed sl_X7_partNamed hrv rfl ⟨by simp only [rl_rm]; omega, by simp only [rl_rm]; omega⟩ rfl hl.1 rfl (Nat.le_of_ble_eq_true rfl) dX5_nextPart_46 ⟨by simp only [rl_rm]; omega, by simp only [rl_rm]; omega⟩) hW (fun p9 f1 H locs hp hW => ?_)
      obtain ⟨rfl, hp⟩ := hp
      rcases hp with ⟨p0, hp0, rfl, hfd⟩ | ⟨rfl, hfd⟩
      · obtain ⟨q, o, hq1, hq2, hq3, hqo⟩ := hpp p0 hp0
        have hs45 := (hT.2.2.1 j p0 hj hp0).2.1
        refine lv_istore (lv' := [(6, .int (nI (p0))), (4, .long (y2)), (2, .long (y1)), (0, .ref (r)), (1, .ref (a))]) hx hb dX5_nextPart_49 hl (by decide) rfl (fun ls hl => ?_)
        refine lv_iload hx hb dX5_nextPart_51 (lv_at hl 0 rfl) ?_
        refine lv_bipush (v := (-3)) hx hb dX5_nextPart_53 (by decide) ?_
        refine lv_icmp_eq (tgt := 83) hx hb dX5_nextPart_55 (by decide) (fun c5 => ?_) (fun c5 => ?_)
        · exact absurd c5 (rg_mn (by omega) (by decide))
        · refine lv_aload_n hx hb dX5_nextPart_58 rfl (lv_at hl 4 rfl) ?_
          refine rl_get (v := .ref (x + 16 + 3 * j)) hC hW fl_X5_79 h0 rfl dX5_nextPart_59 ?_
          refine rl_get (v := .ref (x + 17 + 3 * j)) hC hW fl_X5_98 hrv rfl dX5_nextPart_62 ?_
          refine lv_iload hx hb dX5_nextPart_65 (lv_at hl 0 rfl) ?_
          refine rl_aald_n 5 hC hW rfl hpa (by omega) (by decide) dX5_nextPart_67 ?_
          refine rl_topq (hq1) ?_
          refine rl_get (v := .int (nI (T 4 (5 * j + p0)))) hC hW fl_X5_102 hq3 rfl dX5_nextPart_68 ?_
          refine lv_i2l hx hb dX5_nextPart_71 rfl ?_
          refine lv_lload hx hb dX5_nextPart_72 (lv_at hl 1 rfl) ?_
          refine W.lcmp hx hb dX5_nextPart_74 ?_
          refine lv_if_eq (tgt := 83) hx hb dX5_nextPart_75 (by decide) (fun c6 => ?_) (fun c6 => ?_)
          · refine lv_aload_n hx hb dX5_nextPart_83 rfl (lv_at hl 3 rfl) ?_
            refine rl_get (v := .int (nI (q_bad u3))) hC hW fl_X5_23 hrd3 rfl dX5_nextPart_84 ?_
            refine lv_if_eq (tgt := 91) hx hb dX5_nextPart_87 (by decide) (fun c7 => ?_) (fun c7 => ?_)
            · exact absurd ((nI_eq (by omega) (by decide)).mp c7) hne3
            · exact rl_vret hC hW hr hlk (by simp only [rl_rm]; omega) (by simp only [rl_rm]; omega) ⟨rfl, ⟨E, _, u3, hpe, hS3, hdr3, hek3 ▸ eag.rf, fun q e h1 h2 _ => hO3 q e h1 h2, by omega, by omega⟩⟩ dX5_nextPart_90
          · refine lv_aload_n hx hb dX5_nextPart_78 rfl (lv_at hl 3 rfl) ?_
            refine lv_iconst (v := (nI (1))) hx hb dX5_nextPart_79 (by decide) ?_
            refine rl_callvQ (rl_runV (b := r) (As := [.int (nI (1))]) (rest := []) hC hW (cC_fail l D t A _ z x T w r E _ _ u3 hS3 1 (by decide)) cs_X5_44 im_X5_fail sl_X5_fail hrd3 rfl ⟨by simp only [rl_rm]; omega, by simp only [rl_rm]; omega⟩ rfl hl.1 rfl (Nat.le_of_ble_eq_true rfl) dX5_nextPart_80 ⟨by simp only [rl_rm]; omega, by simp only [rl_rm]; omega⟩) hW (fun f4 H locs hp hW => ?_)
            obtain ⟨u4, hfl4, hS4, hon4⟩ := hp
            obtain ⟨eG4, er4, ek4, ed4, ea4⟩ : q_G u4 = q_G u3 ∧ q_rho u4 = q_rho u3 ∧ q_kap u4 = q_kap u3 ∧ q_dp u4 = q_dp u3 ∧ q_at u4 = q_at u3 := by rw [hfl4]; exact fl_G
            have hne4 : q_bad u4 ≠ 0 := by rw [hfl4]; exact q_fail_ne (by decide)
            have hst4 : qst T u3 u4 := by rw [hfl4]; exact st_fail hGq3 (by decide)
            have hO4 := hO3.tr hon4
            obtain ⟨hI4, hGq4, hrx4, hat4, hbd4, hdp4, md4, hmd4, hrd4⟩ := id hS4
            have hl2504 := hGq4.2.2.2.2
            have hek4 := ek4.trans hek3
            have hdr4 := hdr3.q hon4 hrd3 er4 ek4
            replace hpe := hpe.trans (congrArg (Prod.mk _) (show u3 = u4 by rw [hfl4, fl_b hne3]))
            refine lv_aload_n hx hb dX5_nextPart_83 rfl (lv_at hl 3 rfl) ?_
            refine rl_get (v := .int (nI (q_bad u4))) hC hW fl_X5_23 hrd4 rfl dX5_nextPart_84 ?_
            refine lv_if_eq (tgt := 91) hx hb dX5_nextPart_87 (by decide) (fun c7 => ?_) (fun c7 => ?_)
            · exact absurd ((nI_eq (by omega) (by decide)).mp c7) hne4
            · exact rl_vret hC hW hr hlk (by simp only [rl_rm]; omega) (by simp only [rl_rm]; omega) ⟨rfl, ⟨E, _, u4, hpe, hS4, hdr4, hek4 ▸ eag.rf, fun q e h1 h2 _ => hO4 q e h1 h2, by omega, by omega⟩⟩ dX5_nextPart_90
      · refine lv_istore (lv' := [(6, .int (-3)), (4, .long (y2)), (2, .long (y1)), (0, .ref (r)), (1, .ref (a))]) hx hb dX5_nextPart_49 hl (by decide) rfl (fun ls hl => ?_)
        refine lv_iload hx hb dX5_nextPart_51 (lv_at hl 0 rfl) ?_
        refine lv_bipush (v := (-3)) hx hb dX5_nextPart_53 (by decide) ?_
        refine lv_icmp_eq (tgt := 83) hx hb dX5_nextPart_55 (by decide) (fun c5 => ?_) (fun c5 => absurd rfl c5)
        refine lv_aload_n hx hb dX5_nextPart_83 rfl (lv_at hl 3 rfl) ?_
        refine rl_get (v := .int (nI (q_bad u3))) hC hW fl_X5_23 hrd3 rfl dX5_nextPart_84 ?_
        refine lv_if_eq (tgt := 91) hx hb dX5_nextPart_87 (by decide) (fun c7 => ?_) (fun c7 => ?_)
        · exact absurd ((nI_eq (by omega) (by decide)).mp c7) hne3
        · exact rl_vret hC hW hr hlk (by simp only [rl_rm]; omega) (by simp only [rl_rm]; omega) ⟨rfl, ⟨E, _, u3, hpe, hS3, hdr3, hek3 ▸ eag.rf, fun q e h1 h2 _ => hO3 q e h1 h2, by omega, by omega⟩⟩ dX5_nextPart_90
    · refine lv_lload hx hb dX5_nextPart_18 (lv_at hl 0 rfl) ?_
      refine lv_ldc2 (v := 5) hx hb hC.2.2.2.1 (hC.2.2.2.2.1 _ (List.mem_cons_of_mem _ mw_597)) dX5_nextPart_20 ?_
      refine W.lcmp hx hb dX5_nextPart_23 ?_
      refine lv_if_lt (tgt := 32) hx hb dX5_nextPart_24 (by decide) (fun c3 => ?_) (fun c3 => ?_)
      · obtain ⟨s0, hs0, rfl⟩ := rg_l5 (fun q => c2 ((lg_cmp_lt _ _).mpr q)) ((lg_cmp_lt _ _).mp c3)
        refine lv_aload_n hx hb dX5_nextPart_32 rfl (lv_at hl 3 rfl) ?_
        refine lv_ifnonnull (tgt := 41) hx hb dX5_nextPart_33 (by decide) ?_
        refine lv_aload_n hx hb dX5_nextPart_41 rfl (lv_at hl 3 rfl) ?_
        obtain ⟨hD, hfre, hXo⟩ := hdr2.s
        obtain ⟨hj, hxa, h0, -⟩ := id hD
        obtain ⟨hrv, hj5, hj2, ⟨gp, hpa, hpp⟩, -⟩ := id (hI2.2.2.1 j hj)
        refine rl_get (v := .ref (x + 16 + 3 * j)) hC hW fl_X5_79 h0 rfl dX5_nextPart_42 ?_
        refine lv_lload_n hx hb dX5_nextPart_45 rfl (lv_at hl 1 rfl) ?_
        refine rl_calliQ (rl_runV (b := x + 16 + 3 * j) (As := [.long (y1)]) (rest := []) hC hW (cC_partNamed l D t A _ z x T _ _ _ E _ _ hI2 j hj _) cs_X5_94 im_X7_partNamed sl_X7_partNamed hrv rfl ⟨by simp only [rl_rm]; omega, by simp only [rl_rm]; omega⟩ rfl hl.1 rfl (Nat.le_of_ble_eq_true rfl) dX5_nextPart_46 ⟨by simp only [rl_rm]; omega, by simp only [rl_rm]; omega⟩) hW (fun p9 f1 H locs hp hW => ?_)
        obtain ⟨rfl, hp⟩ := hp
        rcases hp with ⟨p0, hp0, rfl, hfd⟩ | ⟨rfl, hfd⟩
        · obtain ⟨q, o, hq1, hq2, hq3, hqo⟩ := hpp p0 hp0
          have hs45 := (hT.2.2.1 j p0 hj hp0).2.1
          refine lv_istore (lv' := [(6, .int (nI (p0))), (4, .long (lN s0)), (2, .long (y1)), (0, .ref (r)), (1, .ref (a))]) hx hb dX5_nextPart_49 hl (by decide) rfl (fun ls hl => ?_)
          refine lv_iload hx hb dX5_nextPart_51 (lv_at hl 0 rfl) ?_
          refine lv_bipush (v := (-3)) hx hb dX5_nextPart_53 (by decide) ?_
          refine lv_icmp_eq (tgt := 83) hx hb dX5_nextPart_55 (by decide) (fun c5 => ?_) (fun c5 => ?_)
          · exact absurd c5 (rg_mn (by omega) (by decide))
          · refine lv_aload_n hx hb dX5_nextPart_58 rfl (lv_at hl 4 rfl) ?_
            refine rl_get (v := .ref (x + 16 + 3 * j)) hC hW fl_X5_79 h0 rfl dX5_nextPart_59 ?_
            refine rl_get (v := .ref (x + 17 + 3 * j)) hC hW fl_X5_98 hrv rfl dX5_nextPart_62 ?_
            refine lv_iload hx hb dX5_nextPart_65 (lv_at hl 0 rfl) ?_
            refine rl_aald_n 5 hC hW rfl hpa (by omega) (by decide) dX5_nextPart_67 ?_
            refine rl_topq (hq1) ?_
            refine rl_get (v := .int (nI (T 4 (5 * j + p0)))) hC hW fl_X5_102 hq3 rfl dX5_nextPart_68 ?_
            refine lv_i2l hx hb dX5_nextPart_71 rfl ?_
            refine lv_lload hx hb dX5_nextPart_72 (lv_at hl 1 rfl) ?_
            refine W.lcmp hx hb dX5_nextPart_74 ?_
            refine lv_if_eq (tgt := 83) hx hb dX5_nextPart_75 (by decide) (fun c6 => ?_) (fun c6 => ?_)
            · have h4s : T 4 (5 * j + p0) = s0 := rg_lne (by omega) (by omega) ((lg_cmp_eq _ _).mp c6)
              refine lv_aload_n hx hb dX5_nextPart_83 rfl (lv_at hl 3 rfl) ?_
              refine rl_get (v := .int (nI (q_bad u2))) hC hW fl_X5_23 hrd2 rfl dX5_nextPart_84 ?_
              refine lv_if_eq (tgt := 91) hx hb dX5_nextPart_87 (by decide) (fun c7 => ?_) (fun c7 => ?_)
              · have hbz : q_bad u2 = 0 := (nI_eq (by omega) (by decide)).mp c7
                have hdp2 : q_dp u2 = op := by have h9 := hst2u.2.2.2.2.2.2 hbz; rw [h9.2]; exact hdpo h9.1
                have hfp : q_find T (some (j, N, X)) y1 = (some p0) := hfd
                have hnc : ¬ q_cast T (some (j, N, X)) (some p0) s0 := fun q => q h4s
                have hpv := pt_v (w := w) (R := (q_rec T w (6 - op))) hlf1 hlf2 hbz hs0 hfp hnc
                have hhp : ∀ j9 N9 X9 p', ((some (j, N, X)) : pD) = some (j9, N9, X9) → ((some p0) : Option Nat) = some p' → p' < T 2 j9 ∧ T 4 (5 * j9 + p') = s0 := fun j N X p' e1 e2 => by cases e1; cases e2; exact ⟨hp0, h4s⟩
                refine lv_lload hx hb dX5_nextPart_91 (lv_at hl 1 rfl) ?_
                refine lv_lconst (v := 1) hx hb dX5_nextPart_93 (by decide) ?_
                refine W.lcmp hx hb dX5_nextPart_94 ?_
                refine lv_if_gt (tgt := 121) hx hb dX5_nextPart_95 (by decide) (fun c8 => ?_) (fun c8 => ?_)
                · have hs2 : 2 ≤ s0 := rg_gt1 (by omega) c8
                  refine lv_aload_n hx hb dX5_nextPart_121 rfl (lv_at hl 3 rfl) ?_
                  refine lv_lload hx hb dX5_nextPart_122 (lv_at hl 1 rfl) ?_
                  refine lv_l2i hx hb dX5_nextPart_124 rfl ?_
                  refine rl_topn (lN_i _) ?_
                  refine lv_iload hx hb dX5_nextPart_125 (lv_at hl 0 rfl) ?_
                  refine lv_bipush (v := (-3)) hx hb dX5_nextPart_127 (by decide) ?_
                  refine lv_icmp_ne (tgt := 136) hx hb dX5_nextPart_129 (by decide) (fun c10 => ?_) (fun c10 => ?_)
                  · refine lv_aload_n hx hb dX5_nextPart_136 rfl (lv_at hl 4 rfl) ?_
                    refine rl_get (v := .ref (x + 16 + 3 * j)) hC hW fl_X5_79 h0 rfl dX5_nextPart_137 ?_
                    refine rl_get (v := .ref (x + 17 + 3 * j)) hC hW fl_X5_98 hrv rfl dX5_nextPart_140 ?_
                    refine lv_iload hx hb dX5_nextPart_143 (lv_at hl 0 rfl) ?_
                    refine rl_aald_n 5 hC hW rfl hpa (by omega) (by decide) dX5_nextPart_145 ?_
                    refine rl_topq (hq1) ?_
                    have hz2 : ∀ q e, f2 q = some e → q < z := fun q e h => hW.lt h
                    refine rl_callq (rl_runV (b := r) (As := [.int (nI (s0)), .ref (q)]) (rest := []) hC hW (cC_nextThing l D t A _ z x T w r E _ _ u2 hS2 hT hw op hNR hbz hdp2 s0 ⟨hs2, hs0⟩ (some (j, N, X)) (some p0) (some q) (Or.inr ⟨q, j, N, X, p0, _, _, _, rfl, rfl, rfl, hq3, fun e => hqo.1 (h4s.trans e)⟩)) cs_X5_111 im_X5_nextThing sl_X5_nextThing hrd2 rfl ⟨by simp only [rl_rm]; omega, by simp only [rl_rm]; omega⟩ rfl hl.1 rfl (Nat.le_of_ble_eq_true rfl) dX5_nextPart_146 ⟨by simp only [rl_rm]; omega, by simp only [rl_rm]; omega⟩) hW (fun r0 f3 z1 d1 H locs hp hW hz1 => ?_)
                    obtain ⟨E3, h3d, u3, he3, hr3, hS3, heg3, hon3, hzz3, hdd3⟩ := hp
                    have hq2503 := hS3.at2
                    obtain ⟨hst3, hqd3⟩ : qst T u2 u3 ∧ qdo T w (q_rho u3) (q_kap u3) (q_put (some (j, N, X)) (some p0) h3d) := by have h9 := st_val (s := s0) hT hw (st_rec hT hw (6 - op)) hs0 hGq2 hdr2.1 hhp; rw [he3] at h9; exact h9
                    have hs3a := hst3.2.2.2.1
                    have hpe := hpv.trans he3
                    have hdr3 := hdr2.j hon3 hrd2 heg3 hst3 hz2
                    have hO3 := hO2.tr hon3
                    rw [her2, hek2] at heg3
                    obtain ⟨hI3, hGq3, hrx3, hat3, hbd3, hdp3, md3, hmd3, hrd3⟩ := id hS3
                    have hl2503 := hGq3.2.2.2.2
                    obtain ⟨hD3, hfre3, -⟩ := hdr3.s
                    have h03 := hD3.2.2.1
                    have hok3 : cok T (q_rho u3) (q_kap u3) h3d := by have h9 := ((hqd3 j N (va_up X p0 h3d) rfl).2.2 p0 hp0).1; rw [va_up_s] at h9; exact h9
                    refine rl_astoreq (lv' := [(7, va_rf (r0)), (6, .int (nI (p0))), (4, .long (lN s0)), (2, .long (y1)), (0, .ref (r)), (1, .ref (a))]) hx hb dX5_nextPart_149 hl (by decide) rfl (fun ls hl => ?_)
                    refine lv_iload hx hb dX5_nextPart_151 (lv_at hl 1 rfl) ?_
                    refine lv_bipush (v := (-3)) hx hb dX5_nextPart_153 (by decide) ?_
                    refine lv_icmp_eq (tgt := 167) hx hb dX5_nextPart_155 (by decide) (fun c9 => ?_) (fun c9 => ?_)
                    · exact absurd c9 (rg_mn (by omega) (by decide))
                    · refine lv_aload_n hx hb dX5_nextPart_158 rfl (lv_at hl 5 rfl) ?_
                      refine lv_iload hx hb dX5_nextPart_159 (lv_at hl 1 rfl) ?_
                      refine lv_lconst (v := 0) hx hb dX5_nextPart_161 (by decide) ?_
                      refine rl_aloadq hx hb dX5_nextPart_162 (lv_at hl 0 rfl) ?_
                      refine rl_callvQ (rl_runV (b := a) (As := [.int (nI (p0)), .long (0), va_rf (r0)]) (rest := []) hC hW (cC_Rec_put l D t A _ z1 x T _ _ _ E3 _ _ hI3 hT a j N X hD3 hfre3 p0 hp0 _ (h3d) (r0) hr3 hok3) cs_X5_107 im_X6_put sl_X6_put h03 rfl ⟨by simp only [rl_rm]; omega, by simp only [rl_rm]; omega⟩ rfl hl.1 rfl (Nat.le_of_ble_eq_true rfl) dX5_nextPart_164 ⟨by simp only [rl_rm]; omega, by simp only [rl_rm]; omega⟩) hW (fun f4 H locs hp hW => ?_)
                      obtain ⟨hI4, hD4, hdr4⟩ := hp
                      obtain ⟨-, -, -, ⟨gn3, k4, -⟩, ⟨gt3, k5, -⟩⟩ := id hD3
                      have hS4 : cRD t f4 x T w r E3 gx mo u3 := ⟨hI4, hGq3, hrx3, hat3, hbd3, hdp3, md3, hmd3, hdr4 _ _ hrd3 (rl_ne hrd3 k4 (by simp)) (rl_ne hrd3 k5 (by simp))⟩
                      have hDO : cDO t f4 x T w E3 u3 (some a) (q_put (some (j, N, X)) (some p0) h3d) := ⟨hqd3, Or.inr ⟨a, j, _, _, rfl, rfl, (by have h9 := hD4; unfold dr_N dr_X at h9; rw [if_neg (by omega), if_neg (by omega)] at h9; exact h9), hfre3⟩⟩
                      exact rl_vret hC hW hr hlk (by simp only [rl_rm]; omega) (by simp only [rl_rm]; omega) ⟨rfl, ⟨E3, _, u3, hpe, hS4, hDO, heg3, fun q e h1 h2 h3 => hdr4 q e (hO3 q e h1 h2) (h3 a rfl).1 (h3 a rfl).2, by omega, by omega⟩⟩ dX5_nextPart_167
                  · exact absurd c10 (rg_mn (by omega) (by decide))
                · have hs2 : s0 < 2 := rg_s1 (by omega) c8
                  refine lv_aload_n hx hb dX5_nextPart_98 rfl (lv_at hl 3 rfl) ?_
                  refine rl_calllQ (rl_runV (b := r) (As := []) (rest := []) hC hW (cC_nextLeaf l D t A _ z x T w r E _ _ u2 hS2) cs_X5_48 im_X5_nextLeaf sl_X5_nextLeaf hrd2 rfl ⟨by simp only [rl_rm]; omega, by simp only [rl_rm]; omega⟩ rfl hl.1 rfl (Nat.le_of_ble_eq_true rfl) dX5_nextPart_99 ⟨by simp only [rl_rm]; omega, by simp only [rl_rm]; omega⟩) hW (fun y3 f3 H locs hp hW => ?_)
                  obtain ⟨u3, hlf3, hS3, hon3⟩ := hp
                  obtain ⟨hst3, eG3, er3, ek3, ed3, hw3, hy3⟩ := lf_all hGq2 hlf3
                  have hO3 := hO2.tr hon3
                  obtain ⟨hI3, hGq3, hrx3, hat3, hbd3, hdp3, md3, hmd3, hrd3⟩ := id hS3
                  have hl2503 := hGq3.2.2.2.2
                  have hqd3 : qdo T w (q_rho u3) (q_kap u3) (q_num (some (j, N, X)) (some p0) y3) := by have h9 := (st_val (s := s0) hT hw (st_rec hT hw (6 - op)) hs0 hGq2 hdr2.1 hhp).2; rw [vl_n hs2 hlf3] at h9; exact h9
                  have hs3a := hst3.2.2.2.1
                  have hpe := hpv.trans (vl_n hs2 hlf3)
                  have hdr3 := hdr2.q hon3 hrd2 er3 ek3
                  have hq2503 := hS3.at2
                  have heg3 : eag z (q_rho u) (q_kap u) (q_kap u3) E E := (ek3.trans hek2) ▸ eag.rf
                  obtain ⟨hD3, hfre3, -⟩ := hdr3.s
                  have h03 := hD3.2.2.1
                  refine lv_lstore (lv' := [(7, .long (y3)), (6, .int (nI (p0))), (4, .long (lN s0)), (2, .long (y1)), (0, .ref (r)), (1, .ref (a))]) hx hb dX5_nextPart_102 hl (by decide) rfl (fun ls hl => ?_)
                  refine lv_iload hx hb dX5_nextPart_104 (lv_at hl 1 rfl) ?_
                  refine lv_bipush (v := (-3)) hx hb dX5_nextPart_106 (by decide) ?_
                  refine lv_icmp_eq (tgt := 120) hx hb dX5_nextPart_108 (by decide) (fun c9 => ?_) (fun c9 => ?_)
                  · exact absurd c9 (rg_mn (by omega) (by decide))
                  · refine lv_aload_n hx hb dX5_nextPart_111 rfl (lv_at hl 5 rfl) ?_
                    refine lv_iload hx hb dX5_nextPart_112 (lv_at hl 1 rfl) ?_
                    refine lv_lload hx hb dX5_nextPart_114 (lv_at hl 0 rfl) ?_
                    refine lv_null hx hb dX5_nextPart_116 ?_
                    refine rl_callvQ (rl_runV (b := a) (As := [.int (nI (p0)), .long (y3), .null]) (rest := []) hC hW (cC_Rec_put l D t A _ z x T _ _ _ E _ _ hI3 hT a j N X hD3 hfre3 p0 hp0 _ (none) (none) rfl trivial) cs_X5_107 im_X6_put sl_X6_put h03 rfl ⟨by simp only [rl_rm]; omega, by simp only [rl_rm]; omega⟩ rfl hl.1 rfl (Nat.le_of_ble_eq_true rfl) dX5_nextPart_117 ⟨by simp only [rl_rm]; omega, by simp only [rl_rm]; omega⟩) hW (fun f4 H locs hp hW => ?_)
                    obtain ⟨hI4, hD4, hdr4⟩ := hp
                    obtain ⟨-, -, -, ⟨gn3, k4, -⟩, ⟨gt3, k5, -⟩⟩ := id hD3
                    have hS4 : cRD t f4 x T w r E gx mo u3 := ⟨hI4, hGq3, hrx3, hat3, hbd3, hdp3, md3, hmd3, hdr4 _ _ hrd3 (rl_ne hrd3 k4 (by simp)) (rl_ne hrd3 k5 (by simp))⟩
                    have hDO : cDO t f4 x T w E u3 (some a) (q_num (some (j, N, X)) (some p0) y3) := ⟨hqd3, Or.inr ⟨a, j, _, _, rfl, rfl, (by have h9 := hD4; unfold dr_N dr_X at h9; rw [if_pos (by omega), if_pos (by omega)] at h9; exact h9), hfre3⟩⟩
                    exact rl_vret hC hW hr hlk (by simp only [rl_rm]; omega) (by simp only [rl_rm]; omega) ⟨rfl, ⟨E, _, u3, hpe, hS4, hDO, heg3, fun q e h1 h2 h3 => hdr4 q e (hO3 q e h1 h2) (h3 a rfl).1 (h3 a rfl).2, by omega, by omega⟩⟩ dX5_nextPart_120
              · have hbz : q_bad u2 ≠ 0 := fun q => c7 (by rw [q]; rfl)
                have hpe := pt_2 (T := T) (w := w) (R := (q_rec T w (6 - op))) (D := (some (j, N, X))) hlf1 hlf2 hbz
                exact rl_vret hC hW hr hlk (by simp only [rl_rm]; omega) (by simp only [rl_rm]; omega) ⟨rfl, ⟨E, _, u2, hpe, hS2, hdr2, hek2 ▸ eag.rf, fun q e h1 h2 _ => hO2 q e h1 h2, by omega, by omega⟩⟩ dX5_nextPart_90
            · refine lv_aload_n hx hb dX5_nextPart_78 rfl (lv_at hl 3 rfl) ?_
              refine lv_iconst (v := (nI (1))) hx hb dX5_nextPart_79 (by decide) ?_
              refine rl_callvQ (rl_runV (b := r) (As := [.int (nI (1))]) (rest := []) hC hW (cC_fail l D t A _ z x T w r E _ _ u2 hS2 1 (by decide)) cs_X5_44 im_X5_fail sl_X5_fail hrd2 rfl ⟨by simp only [rl_rm]; omega, by simp only [rl_rm]; omega⟩ rfl hl.1 rfl (Nat.le_of_ble_eq_true rfl) dX5_nextPart_80 ⟨by simp only [rl_rm]; omega, by simp only [rl_rm]; omega⟩) hW (fun f3 H locs hp hW => ?_)
              obtain ⟨u3, hfl3, hS3, hon3⟩ := hp
              obtain ⟨eG3, er3, ek3, ed3, ea3⟩ : q_G u3 = q_G u2 ∧ q_rho u3 = q_rho u2 ∧ q_kap u3 = q_kap u2 ∧ q_dp u3 = q_dp u2 ∧ q_at u3 = q_at u2 := by rw [hfl3]; exact fl_G
              have hne3 : q_bad u3 ≠ 0 := by rw [hfl3]; exact q_fail_ne (by decide)
              have hst3 : qst T u2 u3 := by rw [hfl3]; exact st_fail hGq2 (by decide)
              have hO3 := hO2.tr hon3
              obtain ⟨hI3, hGq3, hrx3, hat3, hbd3, hdp3, md3, hmd3, hrd3⟩ := id hS3
              have hl2503 := hGq3.2.2.2.2
              have hek3 := ek3.trans hek2
              have hdr3 := hdr2.q hon3 hrd2 er3 ek3
              have hpe := (pt_nc (w := w) (R := (q_rec T w (6 - op))) (D := some (j, N, X)) (T := T) hlf1 hlf2 hs0 hfd (fun q => c6 (by rw [q, nI_l (by omega)]; exact (lg_cmp_eq _ _).mpr rfl))).trans (by rw [← hfl3])
              refine lv_aload_n hx hb dX5_nextPart_83 rfl (lv_at hl 3 rfl) ?_
              refine rl_get (v := .int (nI (q_bad u3))) hC hW fl_X5_23 hrd3 rfl dX5_nextPart_84 ?_
              refine lv_if_eq (tgt := 91) hx hb dX5_nextPart_87 (by decide) (fun c7 => ?_) (fun c7 => ?_)
              · exact absurd ((nI_eq (by omega) (by decide)).mp c7) hne3
              · exact rl_vret hC hW hr hlk (by simp only [rl_rm]; omega) (by simp only [rl_rm]; omega) ⟨rfl, ⟨E, _, u3, hpe, hS3, hdr3, hek3 ▸ eag.rf, fun q e h1 h2 _ => hO3 q e h1 h2, by omega, by omega⟩⟩ dX5_nextPart_90
        · refine lv_istore (lv' := [(6, .int (-3)), (4, .long (lN s0)), (2, .long (y1)), (0, .ref (r)), (1, .ref (a))]) hx hb dX5_nextPart_49 hl (by decide) rfl (fun ls hl => ?_)
          refine lv_iload hx hb dX5_nextPart_51 (lv_at hl 0 rfl) ?_
          refine lv_bipush (v := (-3)) hx hb dX5_nextPart_53 (by decide) ?_
          refine lv_icmp_eq (tgt := 83) hx hb dX5_nextPart_55 (by decide) (fun c5 => ?_) (fun c5 => absurd rfl c5)
          refine lv_aload_n hx hb dX5_nextPart_83 rfl (lv_at hl 3 rfl) ?_
          refine rl_get (v := .int (nI (q_bad u2))) hC hW fl_X5_23 hrd2 rfl dX5_nextPart_84 ?_
          refine lv_if_eq (tgt := 91) hx hb dX5_nextPart_87 (by decide) (fun c7 => ?_) (fun c7 => ?_)
          · have hbz : q_bad u2 = 0 := (nI_eq (by omega) (by decide)).mp c7
            have hdp2 : q_dp u2 = op := by have h9 := hst2u.2.2.2.2.2.2 hbz; rw [h9.2]; exact hdpo h9.1
            have hfp : q_find T (some (j, N, X)) y1 = none := hfd
            have hnc : ¬ q_cast T (some (j, N, X)) none s0 := id
            have hpv := pt_v (w := w) (R := (q_rec T w (6 - op))) hlf1 hlf2 hbz hs0 hfp hnc
            have hhp : ∀ j9 N9 X9 p', ((some (j, N, X)) : pD) = some (j9, N9, X9) → (none : Option Nat) = some p' → p' < T 2 j9 ∧ T 4 (5 * j9 + p') = s0 := fun j N X p' e1 e2 => by cases e2
            refine lv_lload hx hb dX5_nextPart_91 (lv_at hl 1 rfl) ?_
            refine lv_lconst (v := 1) hx hb dX5_nextPart_93 (by decide) ?_
            refine W.lcmp hx hb dX5_nextPart_94 ?_
            refine lv_if_gt (tgt := 121) hx hb dX5_nextPart_95 (by decide) (fun c8 => ?_) (fun c8 => ?_)
            · have hs2 : 2 ≤ s0 := rg_gt1 (by omega) c8
              refine lv_aload_n hx hb dX5_nextPart_121 rfl (lv_at hl 3 rfl) ?_
              refine lv_lload hx hb dX5_nextPart_122 (lv_at hl 1 rfl) ?_
              refine lv_l2i hx hb dX5_nextPart_124 rfl ?_
              refine rl_topn (lN_i _) ?_
              refine lv_iload hx hb dX5_nextPart_125 (lv_at hl 0 rfl) ?_
              refine lv_bipush (v := (-3)) hx hb dX5_nextPart_127 (by decide) ?_
              refine lv_icmp_ne (tgt := 136) hx hb dX5_nextPart_129 (by decide) (fun c10 => ?_) (fun c10 => ?_)
              · exact absurd rfl c10
              · refine lv_null hx hb dX5_nextPart_132 ?_
                refine lv_goto (tgt := 146) hx hb dX5_nextPart_133 (by decide) ?_
                have hz2 : ∀ q e, f2 q = some e → q < z := fun q e h => hW.lt h
                refine rl_callq (rl_runV (b := r) (As := [.int (nI (s0)), .null]) (rest := []) hC hW (cC_nextThing l D t A _ z x T w r E _ _ u2 hS2 hT hw op hNR hbz hdp2 s0 ⟨hs2, hs0⟩ (some (j, N, X)) none (none) (Or.inl ⟨rfl, rfl⟩)) cs_X5_111 im_X5_nextThing sl_X5_nextThing hrd2 rfl ⟨by simp only [rl_rm]; omega, by simp only [rl_rm]; omega⟩ rfl hl.1 rfl (Nat.le_of_ble_eq_true rfl) dX5_nextPart_146 ⟨by simp only [rl_rm]; omega, by simp only [rl_rm]; omega⟩) hW (fun r0 f3 z1 d1 H locs hp hW hz1 => ?_)
                obtain ⟨E3, h3d, u3, he3, hr3, hS3, heg3, hon3, hzz3, hdd3⟩ := hp
                have hq2503 := hS3.at2
                obtain ⟨hst3, hqd3⟩ : qst T u2 u3 ∧ qdo T w (q_rho u3) (q_kap u3) (q_put (some (j, N, X)) none h3d) := by have h9 := st_val (s := s0) hT hw (st_rec hT hw (6 - op)) hs0 hGq2 hdr2.1 hhp; rw [he3] at h9; exact h9
                have hs3a := hst3.2.2.2.1
                have hpe := hpv.trans he3
                have hdr3 := hdr2.j hon3 hrd2 heg3 hst3 hz2
                have hO3 := hO2.tr hon3
                rw [her2, hek2] at heg3
                obtain ⟨hI3, hGq3, hrx3, hat3, hbd3, hdp3, md3, hmd3, hrd3⟩ := id hS3
                have hl2503 := hGq3.2.2.2.2
                replace hpe : q_part T w (q_rec T w (6 - op)) (some (j, N, X)) u = ((some (j, N, X)), u3) := hpe
                refine rl_astoreq (lv' := [(7, va_rf (r0)), (6, .int (-3)), (4, .long (lN s0)), (2, .long (y1)), (0, .ref (r)), (1, .ref (a))]) hx hb dX5_nextPart_149 hl (by decide) rfl (fun ls hl => ?_)
                refine lv_iload hx hb dX5_nextPart_151 (lv_at hl 1 rfl) ?_
                refine lv_bipush (v := (-3)) hx hb dX5_nextPart_153 (by decide) ?_
                refine lv_icmp_eq (tgt := 167) hx hb dX5_nextPart_155 (by decide) (fun c5 => ?_) (fun c5 => absurd rfl c5)
                exact rl_vret hC hW hr hlk (by simp only [rl_rm]; omega) (by simp only [rl_rm]; omega) ⟨rfl, ⟨E3, _, u3, hpe, hS3, hdr3, heg3, fun q e h1 h2 _ => hO3 q e h1 h2, by omega, by omega⟩⟩ dX5_nextPart_167
            · have hs2 : s0 < 2 := rg_s1 (by omega) c8
              refine lv_aload_n hx hb dX5_nextPart_98 rfl (lv_at hl 3 rfl) ?_
              refine rl_calllQ (rl_runV (b := r) (As := []) (rest := []) hC hW (cC_nextLeaf l D t A _ z x T w r E _ _ u2 hS2) cs_X5_48 im_X5_nextLeaf sl_X5_nextLeaf hrd2 rfl ⟨by simp only [rl_rm]; omega, by simp only [rl_rm]; omega⟩ rfl hl.1 rfl (Nat.le_of_ble_eq_true rfl) dX5_nextPart_99 ⟨by simp only [rl_rm]; omega, by simp only [rl_rm]; omega⟩) hW (fun y3 f3 H locs hp hW => ?_)
              obtain ⟨u3, hlf3, hS3, hon3⟩ := hp
              obtain ⟨hst3, eG3, er3, ek3, ed3, hw3, hy3⟩ := lf_all hGq2 hlf3
              have hO3 := hO2.tr hon3
              obtain ⟨hI3, hGq3, hrx3, hat3, hbd3, hdp3, md3, hmd3, hrd3⟩ := id hS3
              have hl2503 := hGq3.2.2.2.2
              have hqd3 : qdo T w (q_rho u3) (q_kap u3) (q_num (some (j, N, X)) none y3) := by have h9 := (st_val (s := s0) hT hw (st_rec hT hw (6 - op)) hs0 hGq2 hdr2.1 hhp).2; rw [vl_n hs2 hlf3] at h9; exact h9
              have hs3a := hst3.2.2.2.1
              have hpe := hpv.trans (vl_n hs2 hlf3)
              have hdr3 := hdr2.q hon3 hrd2 er3 ek3
              have hq2503 := hS3.at2
              have heg3 : eag z (q_rho u) (q_kap u) (q_kap u3) E E := (ek3.trans hek2) ▸ eag.rf
              replace hpe : q_part T w (q_rec T w (6 - op)) (some (j, N, X)) u = ((some (j, N, X)), u3) := hpe
              refine lv_lstore (lv' := [(7, .long (y3)), (6, .int (-3)), (4, .long (lN s0)), (2, .long (y1)), (0, .ref (r)), (1, .ref (a))]) hx hb dX5_nextPart_102 hl (by decide) rfl (fun ls hl => ?_)
              refine lv_iload hx hb dX5_nextPart_104 (lv_at hl 1 rfl) ?_
              refine lv_bipush (v := (-3)) hx hb dX5_nextPart_106 (by decide) ?_
              refine lv_icmp_eq (tgt := 120) hx hb dX5_nextPart_108 (by decide) (fun c5 => ?_) (fun c5 => absurd rfl c5)
              exact rl_vret hC hW hr hlk (by simp only [rl_rm]; omega) (by simp only [rl_rm]; omega) ⟨rfl, ⟨E, _, u3, hpe, hS3, hdr3, heg3, fun q e h1 h2 _ => hO3 q e h1 h2, by omega, by omega⟩⟩ dX5_nextPart_120
          · have hbz : q_bad u2 ≠ 0 := fun q => c7 (by rw [q]; rfl)
            have hpe := pt_2 (T := T) (w := w) (R := (q_rec T w (6 - op))) (D := (some (j, N, X))) hlf1 hlf2 hbz
            exact rl_vret hC hW hr hlk (by simp only [rl_rm]; omega) (by simp only [rl_rm]; omega) ⟨rfl, ⟨E, _, u2, hpe, hS2, hdr2, hek2 ▸ eag.rf, fun q e h1 h2 _ => hO2 q e h1 h2, by omega, by omega⟩⟩ dX5_nextPart_90
      · refine lv_aload_n hx hb dX5_nextPart_27 rfl (lv_at hl 2 rfl) ?_
        refine lv_iconst (v := (nI (2))) hx hb dX5_nextPart_28 (by decide) ?_
        refine rl_callvQ (rl_runV (b := r) (As := [.int (nI (2))]) (rest := []) hC hW (cC_fail l D t A _ z x T w r E _ _ u2 hS2 2 (by decide)) cs_X5_44 im_X5_fail sl_X5_fail hrd2 rfl ⟨by simp only [rl_rm]; omega, by simp only [rl_rm]; omega⟩ rfl hl.1 rfl (Nat.le_of_ble_eq_true rfl) dX5_nextPart_29 ⟨by simp only [rl_rm]; omega, by simp only [rl_rm]; omega⟩) hW (fun f3 H locs hp hW => ?_)
        obtain ⟨u3, hfl3, hS3, hon3⟩ := hp
        obtain ⟨eG3, er3, ek3, ed3, ea3⟩ : q_G u3 = q_G u2 ∧ q_rho u3 = q_rho u2 ∧ q_kap u3 = q_kap u2 ∧ q_dp u3 = q_dp u2 ∧ q_at u3 = q_at u2 := by rw [hfl3]; exact fl_G
        have hne3 : q_bad u3 ≠ 0 := by rw [hfl3]; exact q_fail_ne (by decide)
        have hst3 : qst T u2 u3 := by rw [hfl3]; exact st_fail hGq2 (by decide)
        have hO3 := hO2.tr hon3
        obtain ⟨hI3, hGq3, hrx3, hat3, hbd3, hdp3, md3, hmd3, hrd3⟩ := id hS3
        have hl2503 := hGq3.2.2.2.2
        have hek3 := ek3.trans hek2
        have hdr3 := hdr2.q hon3 hrd2 er3 ek3
        have hpe := (pt_no (T := T) (w := w) (R := (q_rec T w (6 - op))) (D := (some (j, N, X))) hlf1 hlf2 (rg_no5b (fun q => c3 ((lg_cmp_lt _ _).mpr q)))).trans (by rw [← hfl3])
        refine lv_aload_n hx hb dX5_nextPart_32 rfl (lv_at hl 3 rfl) ?_
        refine lv_ifnonnull (tgt := 41) hx hb dX5_nextPart_33 (by decide) ?_
        refine lv_aload_n hx hb dX5_nextPart_41 rfl (lv_at hl 3 rfl) ?_
        obtain ⟨hD, hfre, hXo⟩ := hdr3.s
        obtain ⟨hj, hxa, h0, -⟩ := id hD
        obtain ⟨hrv, hj5, hj2, ⟨gp, hpa, hpp⟩, -⟩ := id (hI3.2.2.1 j hj)
        refine rl_get (v := .ref (x + 16 + 3 * j)) hC hW fl_X5_79 h0 rfl dX5_nextPart_42 ?_
        refine lv_lload_n hx hb dX5_nextPart_45 rfl (lv_at hl 1 rfl) ?_
        refine rl_calliQ (rl_runV (b := x + 16 + 3 * j) (As := [.long (y1)]) (rest := []) hC hW (cC_partNamed l D t A _ z x T _ _ _ E _ _ hI3 j hj _) cs_X5_94 im_X7_partNamed sl_X7_partNamed hrv rfl ⟨by simp only [rl_rm]; omega, by simp only [rl_rm]; omega⟩ rfl hl.1 rfl (Nat.le_of_ble_eq_true rfl) dX5_nextPart_46 ⟨by simp only [rl_rm]; omega, by simp only [rl_rm]; omega⟩) hW (fun p9 f1 H locs hp hW => ?_)
        obtain ⟨rfl, hp⟩ := hp
        rcases hp with ⟨p0, hp0, rfl, hfd⟩ | ⟨rfl, hfd⟩
        · obtain ⟨q, o, hq1, hq2, hq3, hqo⟩ := hpp p0 hp0
          have hs45 := (hT.2.2.1 j p0 hj hp0).2.1
          refine lv_istore (lv' := [(6, .int (nI (p0))), (4, .long (y2)), (2, .long (y1)), (0, .ref (r)), (1, .ref (a))]) hx hb dX5_nextPart_49 hl (by decide) rfl (fun ls hl => ?_)
          refine lv_iload hx hb dX5_nextPart_51 (lv_at hl 0 rfl) ?_
          refine lv_bipush (v := (-3)) hx hb dX5_nextPart_53 (by decide) ?_
          refine lv_icmp_eq (tgt := 83) hx hb dX5_nextPart_55 (by decide) (fun c5 => ?_) (fun c5 => ?_)
          · exact absurd c5 (rg_mn (by omega) (by decide))
          · refine lv_aload_n hx hb dX5_nextPart_58 rfl (lv_at hl 4 rfl) ?_
            refine rl_get (v := .ref (x + 16 + 3 * j)) hC hW fl_X5_79 h0 rfl dX5_nextPart_59 ?_
            refine rl_get (v := .ref (x + 17 + 3 * j)) hC hW fl_X5_98 hrv rfl dX5_nextPart_62 ?_
            refine lv_iload hx hb dX5_nextPart_65 (lv_at hl 0 rfl) ?_
            refine rl_aald_n 5 hC hW rfl hpa (by omega) (by decide) dX5_nextPart_67 ?_
            refine rl_topq (hq1) ?_
            refine rl_get (v := .int (nI (T 4 (5 * j + p0)))) hC hW fl_X5_102 hq3 rfl dX5_nextPart_68 ?_
            refine lv_i2l hx hb dX5_nextPart_71 rfl ?_
            refine lv_lload hx hb dX5_nextPart_72 (lv_at hl 1 rfl) ?_
            refine W.lcmp hx hb dX5_nextPart_74 ?_
            refine lv_if_eq (tgt := 83) hx hb dX5_nextPart_75 (by decide) (fun c6 => ?_) (fun c6 => ?_)
            · refine lv_aload_n hx hb dX5_nextPart_83 rfl (lv_at hl 3 rfl) ?_
              refine rl_get (v := .int (nI (q_bad u3))) hC hW fl_X5_23 hrd3 rfl dX5_nextPart_84 ?_
              refine lv_if_eq (tgt := 91) hx hb dX5_nextPart_87 (by decide) (fun c7 => ?_) (fun c7 => ?_)
              · exact absurd ((nI_eq (by omega) (by decide)).mp c7) hne3
              · exact rl_vret hC hW hr hlk (by simp only [rl_rm]; omega) (by simp only [rl_rm]; omega) ⟨rfl, ⟨E, _, u3, hpe, hS3, hdr3, hek3 ▸ eag.rf, fun q e h1 h2 _ => hO3 q e h1 h2, by omega, by omega⟩⟩ dX5_nextPart_90
            · refine lv_aload_n hx hb dX5_nextPart_78 rfl (lv_at hl 3 rfl) ?_
              refine lv_iconst (v := (nI (1))) hx hb dX5_nextPart_79 (by decide) ?_
              refine rl_callvQ (rl_runV (b := r) (As := [.int (nI (1))]) (rest := []) hC hW (cC_fail l D t A _ z x T w r E _ _ u3 hS3 1 (by decide)) cs_X5_44 im_X5_fail sl_X5_fail hrd3 rfl ⟨by simp only [rl_rm]; omega, by simp only [rl_rm]; omega⟩ rfl hl.1 rfl (Nat.le_of_ble_eq_true rfl) dX5_nextPart_80 ⟨by simp only [rl_rm]; omega, by simp only [rl_rm]; omega⟩) hW (fun f4 H locs hp hW => ?_)
              obtain ⟨u4, hfl4, hS4, hon4⟩ := hp
              obtain ⟨eG4, er4, ek4, ed4, ea4⟩ : q_G u4 = q_G u3 ∧ q_rho u4 = q_rho u3 ∧ q_kap u4 = q_kap u3 ∧ q_dp u4 = q_dp u3 ∧ q_at u4 = q_at u3 := by rw [hfl4]; exact fl_G
              have hne4 : q_bad u4 ≠ 0 := by rw [hfl4]; exact q_fail_ne (by decide)
              have hst4 : qst T u3 u4 := by rw [hfl4]; exact st_fail hGq3 (by decide)
              have hO4 := hO3.tr hon4
              obtain ⟨hI4, hGq4, hrx4, hat4, hbd4, hdp4, md4, hmd4, hrd4⟩ := id hS4
              have hl2504 := hGq4.2.2.2.2
              have hek4 := ek4.trans hek3
              have hdr4 := hdr3.q hon4 hrd3 er4 ek4
              replace hpe := hpe.trans (congrArg (Prod.mk _) (show u3 = u4 by rw [hfl4, fl_b hne3]))
              refine lv_aload_n hx hb dX5_nextPart_83 rfl (lv_at hl 3 rfl) ?_
              refine rl_get (v := .int (nI (q_bad u4))) hC hW fl_X5_23 hrd4 rfl dX5_nextPart_84 ?_
              refine lv_if_eq (tgt := 91) hx hb dX5_nextPart_87 (by decide) (fun c7 => ?_) (fun c7 => ?_)
              · exact absurd ((nI_eq (by omega) (by decide)).mp c7) hne4
              · exact rl_vret hC hW hr hlk (by simp only [rl_rm]; omega) (by simp only [rl_rm]; omega) ⟨rfl, ⟨E, _, u4, hpe, hS4, hdr4, hek4 ▸ eag.rf, fun q e h1 h2 _ => hO4 q e h1 h2, by omega, by omega⟩⟩ dX5_nextPart_90
        · refine lv_istore (lv' := [(6, .int (-3)), (4, .long (y2)), (2, .long (y1)), (0, .ref (r)), (1, .ref (a))]) hx hb dX5_nextPart_49 hl (by decide) rfl (fun ls hl => ?_)
          refine lv_iload hx hb dX5_nextPart_51 (lv_at hl 0 rfl) ?_
          refine lv_bipush (v := (-3)) hx hb dX5_nextPart_53 (by decide) ?_
          refine lv_icmp_eq (tgt := 83) hx hb dX5_nextPart_55 (by decide) (fun c5 => ?_) (fun c5 => absurd rfl c5)
          refine lv_aload_n hx hb dX5_nextPart_83 rfl (lv_at hl 3 rfl) ?_
          refine rl_get (v := .int (nI (q_bad u3))) hC hW fl_X5_23 hrd3 rfl dX5_nextPart_84 ?_
          refine lv_if_eq (tgt := 91) hx hb dX5_nextPart_87 (by decide) (fun c7 => ?_) (fun c7 => ?_)
          · exact absurd ((nI_eq (by omega) (by decide)).mp c7) hne3
          · exact rl_vret hC hW hr hlk (by simp only [rl_rm]; omega) (by simp only [rl_rm]; omega) ⟨rfl, ⟨E, _, u3, hpe, hS3, hdr3, hek3 ▸ eag.rf, fun q e h1 h2 _ => hO3 q e h1 h2, by omega, by omega⟩⟩ dX5_nextPart_90
