
theorem rl_ups {f : rl_M} {a : Nat} {e0 : va_E} (_ : f a = some e0) (e : va_E) : rl_up f a e a = some e := rl_up_s _ _ _
section RDR
variable {t : Nat → ClassId} {f f1 f2 : rl_M} {x : Nat} {T : Nat → Nat → Nat} {ρ κ : Nat} {G : pG} {E E' E'' : Nat → Nat → Nat} {g : Nat → Int32} {mo : Int32} {u u1 u2 : pQ} {w : Nat}
theorem CJ.rdr {a : Nat} {fs fs2 : List Value} (h : CJ t f x T ρ κ G E g mo) (hx : x + 58 ≤ a) (ha : f a = some (.inr (5, fs))) : CJ t (rl_up f a (.inr (5, fs2))) x T ρ κ G E g mo := by
  obtain ⟨h1, h2, h3, h4, h5, h6, h7, h8, h9, h10⟩ := h
  refine ⟨h1.off (by omega), h2.off (by omega) (fun q fs e => rl_ne e ha (by simp)), h3.off (by omega) (fun q fs e => rl_ne e ha (by simp)) (fun q fs e => rl_ne e ha (by simp)), h4.off (by omega), h5.off (by omega), h6.off (by omega), h7.off (by omega), h8.off (fun r hr => ?_), h9.off (fun r hr => ?_), h10⟩
  · obtain ⟨-, k2, gg, k3, -⟩ := h8 r hr
    exact ⟨rl_ne k2 ha (by simp), rl_ne k3 ha (by simp)⟩
  · obtain ⟨-, k2, ⟨gn, k3, -⟩, ⟨gt, k5, -⟩⟩ := h9 r hr
    exact ⟨rl_ne k2 ha (by simp), rl_ne k3 ha (by simp), rl_ne k5 ha (by simp)⟩
def rl_on (r : Nat) (f f1 : rl_M) : Prop := ∀ q e, f q = some e → q ≠ r → f1 q = some e
theorem rl_on.rf {r : Nat} : rl_on r f f := fun _ _ h _ => h
theorem rl_on.tr {r : Nat} (a : rl_on r f f1) (b : rl_on r f1 f2) : rl_on r f f2 := fun q e h n => b q e (a q e h n) n
theorem rl_on.up {r : Nat} {e : va_E} : rl_on r f (rl_up f r e) := fun q e h n => by rw [rl_up_n n]; exact h
theorem rl_on.le {r : Nat} (h : rl_le f f1) : rl_on r f f1 := fun q e hq _ => h q e hq
/-- the reader's state -/
def cRD (t : Nat → ClassId) (f : rl_M) (x : Nat) (T : Nat → Nat → Nat) (w r : Nat) (E : Nat → Nat → Nat) (g : Nat → Int32) (mo : Int32) (u : pQ) : Prop := CJ t f x T (q_rho u) (q_kap u) (q_G u) E g mo ∧ qGW T u ∧ x + 58 ≤ r ∧ q_at u ≤ (q_G u).1 4 0 ∧ q_bad u ≤ 8 ∧ q_dp u ≤ 6 ∧ ∃ md : Int32, (q_G u).2.1 0 3 = mo + md ∧ f r = some (.inr (5, [.ref (x + 1), .ref (x + 55), .int (nI w), .int (nI (q_at u)), .int (q_la u), .int (nI (q_dp u)), .int (nI (q_bad u)), .int md]))
/-- the addresses go on -/
def eag (z ρ κ κ' : Nat) (E E' : Nat → Nat → Nat) : Prop := E' 0 = E 0 ∧ (∀ n, n < ρ → E' 1 n = E 1 n) ∧ (∀ n, n < κ → E' 2 n = E 2 n) ∧ ∀ n, κ ≤ n → n < κ' → z ≤ E' 2 n
theorem eag.rf {z : Nat} : eag z ρ κ κ E E := ⟨rfl, fun _ _ => rfl, fun _ _ => rfl, fun n h1 h2 => absurd h2 (by omega)⟩
theorem eag.tr {z z' ρ' κ' κ'' : Nat} (a : eag z ρ κ κ' E E') (b : eag z' ρ' κ' κ'' E' E'') (hz : z ≤ z') (hr : ρ ≤ ρ') (hk : κ ≤ κ') : eag z ρ κ κ'' E E'' := by
  obtain ⟨a1, a2, a3, a4⟩ := a
  obtain ⟨b1, b2, b3, b4⟩ := b
  refine ⟨b1.trans a1, fun n h => (b2 n (by omega)).trans (a2 n h), fun n h => (b3 n (by omega)).trans (a3 n h), fun n h1 h2 => ?_⟩
  by_cases h : n < κ'
  · rw [b3 n h]
    exact a4 n h1 h
  · exact Nat.le_trans hz (b4 n (by omega) h2)
theorem eag.ca {z κ' : Nat} (a : eag z ρ κ κ' E E') {hd : pHd} (h : cok T ρ κ hd) : ca E' hd = ca E hd := by
  rcases hd with _ | n | n | n
  · rfl
  · show some (E' 0 n) = some (E 0 n)
    rw [a.1]
  · show some (E' 1 n) = some (E 1 n)
    rw [a.2.1 n h]
  · show some (E' 2 n) = some (E 2 n)
    rw [a.2.2.1 n h]
/-- the draft, if one is wanted -/
def cDO (t : Nat → ClassId) (f : rl_M) (x : Nat) (T : Nat → Nat → Nat) (w : Nat) (E : Nat → Nat → Nat) (u : pQ) (dr : Option Nat) (D : pD) : Prop := qdo T w (q_rho u) (q_kap u) D ∧ ((dr = none ∧ D = none) ∨ ∃ a j N X, dr = some a ∧ D = some (j, N, X) ∧ cDR t f x T E a j N X ∧ ∀ n, n < q_kap u → E 2 n ≠ a)
theorem cDR.ee {z κ' a j : Nat} {N : Nat → Int64} {X : Nat → pHd} (h : cDR t f x T E a j N X) (he : eag z ρ κ κ' E E') (hX : ∀ p, p < T 2 j → cok T ρ κ (X p)) : cDR t f x T E' a j N X := by
  obtain ⟨h1, h2, h3, h4, ⟨gt, h5, h6⟩⟩ := h
  exact ⟨h1, h2, h3, h4, ⟨gt, h5, fun p hp => (h6 p hp).trans (he.ca (hX p hp)).symm⟩⟩
theorem cDR.rd {r a j : Nat} {fs : List Value} {N : Nat → Int64} {X : Nat → pHd} (h : cDR t f x T E a j N X) (hon : rl_on r f f1) (hr : f r = some (.inr (5, fs))) : cDR t f1 x T E a j N X := by
  obtain ⟨gn, h4, -⟩ := id h.2.2.2.1
  obtain ⟨gt, h5, -⟩ := id h.2.2.2.2
  exact h.on (fun e he => hon _ _ he (rl_ne h.2.2.1 hr (by simp))) (fun e he => hon _ _ he (rl_ne h4 hr (by simp))) (fun e he => hon _ _ he (rl_ne h5 hr (by simp)))
theorem cDO.j {r z : Nat} {fs : List Value} {dr : Option Nat} {D : pD} (h : cDO t f x T w E u dr D) (hon : rl_on r f f1) (hr : f r = some (.inr (5, fs))) (he : eag z (q_rho u) (q_kap u) (q_kap u1) E E') (hq : qst T u u1) (hz : ∀ q e, f q = some e → q < z) : cDO t f1 x T w E' u1 dr D := by
  obtain ⟨h1, h2⟩ := h
  refine ⟨h1.mono hq.2.1 hq.2.2.1, ?_⟩
  rcases h2 with h2 | ⟨a, j, N, X, e1, e2, h3, h4⟩
  · exact Or.inl h2
  · refine Or.inr ⟨a, j, N, X, e1, e2, (h3.rd hon hr).ee he (fun p hp => ((h1 j N X e2).2.2 p hp).1), fun n hn => ?_⟩
    have ha := hz _ _ h3.2.2.1
    by_cases q : n < q_kap u
    · rw [he.2.2.1 n q]
      exact h4 n q
    · have := he.2.2.2 n (by omega) hn
      omega
theorem cDO.q {r : Nat} {fs : List Value} {dr : Option Nat} {D : pD} (h : cDO t f x T w E u dr D) (hon : rl_on r f f1) (hr : f r = some (.inr (5, fs))) (h1 : q_rho u1 = q_rho u) (h2 : q_kap u1 = q_kap u) : cDO t f1 x T w E u1 dr D := by
  unfold cDO
  rw [h1, h2]
  refine ⟨h.1, ?_⟩
  rcases h.2 with h2 | ⟨a, j, N, X, e1, e2, h3, h4⟩
  · exact Or.inl h2
  · exact Or.inr ⟨a, j, N, X, e1, e2, h3.rd hon hr, h4⟩
theorem fl_G {c : Nat} : q_G (q_fail c u) = q_G u ∧ q_rho (q_fail c u) = q_rho u ∧ q_kap (q_fail c u) = q_kap u ∧ q_dp (q_fail c u) = q_dp u ∧ q_at (q_fail c u) = q_at u := by
  unfold q_fail
  split <;> exact ⟨rfl, rfl, rfl, rfl, rfl⟩
end RDR

set_option maxHeartbeats 4000000 in
set_option maxRecDepth 100000 in
theorem cC_fail (l : Launch) (D : va_G) (t : Nat → ClassId) (A : Nat → Prop) (f : rl_M) (z : Nat) (x : Nat) (T : Nat → Nat → Nat) (w r : Nat) (E : Nat → Nat → Nat) (gx : Nat → Int32) (mo : Int32) (u : pQ) (hS : cRD t f x T w r E gx mo u) (ce : Nat) (hce : ce ≤ 8) : rl_Met l yX5_fail (.code yX5_fail cX5_fail 2 none) (rl_rm 0 0 0) D t A f z [.ref (r), .int (nI (ce))] (rl_qv z fun f1 => ∃ u1, u1 = q_fail ce u ∧ cRD t f1 x T w r E gx mo u1 ∧ rl_on r f f1) := by
  refine rl_begin (own := RX5) (lv := [(0, .ref (r)), (1, .int (nI (ce)))]) (by decide +kernel) rfl (Nat.le_of_ble_eq_true rfl) rfl fun p e s m0 args below meth c ls H locs hC hr hlk hnm hW hl hx hb => ?_
  have hon := rl_on.rf (r := r) (f := f)
  obtain ⟨hI, hGq, hrx, hat, hbd, hdp, md, hmd, hrd⟩ := id hS
  have hl250 := hGq.2.2.2.2
  refine lv_aload_n hx hb dX5_fail_0 rfl (lv_at hl 0 rfl) ?_
  refine rl_get (v := .int (nI (q_bad u))) hC hW fl_X5_23 hrd rfl dX5_fail_1 ?_
  refine lv_if_ne (tgt := 12) hx hb dX5_fail_4 (by decide) (fun c1 => ?_) (fun c1 => ?_)
  · have hbz : q_bad u ≠ 0 := fun q => c1 (by rw [q]; rfl)
    exact rl_vret hC hW hr hlk (Nat.le_refl _) (Nat.le_refl _) ⟨rfl, rfl, rfl, u, (fl_b hbz).symm, hS, hon⟩ dX5_fail_12
  · have hbz : q_bad u = 0 := (nI_eq (by omega) (by decide)).mp c1
    refine lv_aload_n hx hb dX5_fail_7 rfl (lv_at hl 0 rfl) ?_
    refine lv_iload_n hx hb dX5_fail_8 rfl (lv_at hl 1 rfl) ?_
    refine rl_put (v := .int (nI (ce))) hC hW fp_X5_23 hrd (Nat.le_of_ble_eq_true rfl) rfl rfl dX5_fail_9 (fun H locs hW => ?_)
    replace hW : rl_W D A (rl_up _ r (.inr (5, [.ref (x + 1), .ref (x + 55), .int (nI (w)), .int (nI (q_at u)), .int (q_la u), .int (nI (q_dp u)), .int (nI (ce)), .int (md)]))) z s.heap H locs := hW
    replace hI := hI.rdr (fs2 := [.ref (x + 1), .ref (x + 55), .int (nI (w)), .int (nI (q_at u)), .int (q_la u), .int (nI (q_dp u)), .int (nI (ce)), .int (md)]) hrx hrd
    replace hon := hon.tr (rl_on.up (r := r) (e := .inr (5, [.ref (x + 1), .ref (x + 55), .int (nI (w)), .int (nI (q_at u)), .int (q_la u), .int (nI (q_dp u)), .int (nI (ce)), .int (md)])))
    replace hrd := rl_ups hrd (.inr (5, [.ref (x + 1), .ref (x + 55), .int (nI (w)), .int (nI (q_at u)), .int (q_la u), .int (nI (q_dp u)), .int (nI (ce)), .int (md)]))
    exact rl_vret hC hW hr hlk (Nat.le_refl _) (Nat.le_refl _) ⟨rfl, rfl, rfl, _, (fl_0 hbz).symm, ⟨hI, hGq, hrx, hat, hce, hdp, md, hmd, hrd⟩, hon⟩ dX5_fail_12

set_option maxHeartbeats 4000000 in
set_option maxRecDepth 100000 in
theorem cC_nextLeaf (l : Launch) (D : va_G) (t : Nat → ClassId) (A : Nat → Prop) (f : rl_M) (z : Nat) (x : Nat) (T : Nat → Nat → Nat) (w r : Nat) (E : Nat → Nat → Nat) (gx : Nat → Int32) (mo : Int32) (u : pQ) (hS : cRD t f x T w r E gx mo u) : rl_Met l yX5_nextLeaf (.code yX5_nextLeaf cX5_nextLeaf 1 (some FieldType.long)) (rl_rm 0 0 0) D t A f z [.ref (r)] (rl_ql z fun y f1 => ∃ u1, q_leaf u = (y, u1) ∧ cRD t f1 x T w r E gx mo u1 ∧ rl_on r f f1) := by
  refine rl_begin (own := RX5) (lv := [(0, .ref (r))]) (by decide +kernel) rfl (Nat.le_of_ble_eq_true rfl) rfl fun p e s m0 args below meth c ls H locs hC hr hlk hnm hW hl hx hb => ?_
  have hon := rl_on.rf (r := r) (f := f)
  obtain ⟨hI, hGq, hrx, hat, hbd, hdp, md, hmd, hrd⟩ := id hS
  have hl250 := hGq.2.2.2.2
  refine lv_aload_n hx hb dX5_nextLeaf_0 rfl (lv_at hl 0 rfl) ?_
  refine rl_get (v := .int (nI (q_bad u))) hC hW fl_X5_23 hrd rfl dX5_nextLeaf_1 ?_
  refine lv_if_eq (tgt := 9) hx hb dX5_nextLeaf_4 (by decide) (fun c1 => ?_) (fun c1 => ?_)
  · have hbz : q_bad u = 0 := (nI_eq (by omega) (by decide)).mp c1
    refine lv_aload_n hx hb dX5_nextLeaf_9 rfl (lv_at hl 0 rfl) ?_
    refine lv_aload_n hx hb dX5_nextLeaf_10 rfl (lv_at hl 0 rfl) ?_
    refine rl_get (v := .int (nI (q_at u))) hC hW fl_X5_26 hrd rfl dX5_nextLeaf_11 ?_
    refine rl_put (v := .int (nI (q_at u))) hC hW fp_X5_29 hrd (Nat.le_of_ble_eq_true rfl) rfl rfl dX5_nextLeaf_14 (fun H locs hW => ?_)
    replace hW : rl_W D A (rl_up _ r (.inr (5, [.ref (x + 1), .ref (x + 55), .int (nI (w)), .int (nI (q_at u)), .int (nI (q_at u)), .int (nI (q_dp u)), .int (nI (q_bad u)), .int (md)]))) z s.heap H locs := hW
    replace hI := hI.rdr (fs2 := [.ref (x + 1), .ref (x + 55), .int (nI (w)), .int (nI (q_at u)), .int (nI (q_at u)), .int (nI (q_dp u)), .int (nI (q_bad u)), .int (md)]) hrx hrd
    replace hon := hon.tr (rl_on.up (r := r) (e := .inr (5, [.ref (x + 1), .ref (x + 55), .int (nI (w)), .int (nI (q_at u)), .int (nI (q_at u)), .int (nI (q_dp u)), .int (nI (q_bad u)), .int (md)])))
    replace hrd := rl_ups hrd (.inr (5, [.ref (x + 1), .ref (x + 55), .int (nI (w)), .int (nI (q_at u)), .int (nI (q_at u)), .int (nI (q_dp u)), .int (nI (q_bad u)), .int (md)]))
    obtain ⟨-, -, -, -, -, -, ⟨⟨fz, htp⟩, ⟨glv, hlv, hlvE⟩, -⟩, -⟩ := id hI
    refine lv_aload_n hx hb dX5_nextLeaf_17 rfl (lv_at hl 0 rfl) ?_
    refine rl_get (v := .int (nI (q_at u))) hC hW fl_X5_26 hrd rfl dX5_nextLeaf_18 ?_
    refine lv_aload_n hx hb dX5_nextLeaf_21 rfl (lv_at hl 0 rfl) ?_
    refine rl_get (v := .ref (x + 55)) hC hW fl_X5_15 hrd rfl dX5_nextLeaf_22 ?_
    refine rl_get (v := .int (nI ((q_G u).1 4 0))) hC hW fl_X5_32 htp rfl dX5_nextLeaf_25 ?_
    refine lv_icmp_lt (tgt := 38) hx hb dX5_nextLeaf_28 (by decide) (fun c2 => ?_) (fun c2 => ?_)
    · have hlt : q_at u < (q_G u).1 4 0 := (nI_ltI (by omega) (by omega)).mp c2
      refine lv_aload_n hx hb dX5_nextLeaf_38 rfl (lv_at hl 0 rfl) ?_
      refine lv_dup hx hb dX5_nextLeaf_39 rfl ?_
      refine rl_get (v := .int (nI (q_at u))) hC hW fl_X5_26 hrd rfl dX5_nextLeaf_40 ?_
      refine lv_iconst (v := (nI (1))) hx hb dX5_nextLeaf_43 (by decide) ?_
      refine lv_iadd hx hb dX5_nextLeaf_44 ?_
      refine rl_topn (nI_add _ _) ?_
      refine rl_put (v := .int (nI ((q_at u) + (1)))) hC hW fp_X5_26 hrd (Nat.le_of_ble_eq_true rfl) rfl rfl dX5_nextLeaf_45 (fun H locs hW => ?_)
      replace hW : rl_W D A (rl_up _ r (.inr (5, [.ref (x + 1), .ref (x + 55), .int (nI (w)), .int (nI ((q_at u) + (1))), .int (nI (q_at u)), .int (nI (q_dp u)), .int (nI (q_bad u)), .int (md)]))) z s.heap H locs := hW
      replace hI := hI.rdr (fs2 := [.ref (x + 1), .ref (x + 55), .int (nI (w)), .int (nI ((q_at u) + (1))), .int (nI (q_at u)), .int (nI (q_dp u)), .int (nI (q_bad u)), .int (md)]) hrx hrd
      replace hon := hon.tr (rl_on.up (r := r) (e := .inr (5, [.ref (x + 1), .ref (x + 55), .int (nI (w)), .int (nI ((q_at u) + (1))), .int (nI (q_at u)), .int (nI (q_dp u)), .int (nI (q_bad u)), .int (md)])))
      replace hrd := rl_ups hrd (.inr (5, [.ref (x + 1), .ref (x + 55), .int (nI (w)), .int (nI ((q_at u) + (1))), .int (nI (q_at u)), .int (nI (q_dp u)), .int (nI (q_bad u)), .int (md)]))
      obtain ⟨-, -, -, -, -, -, ⟨⟨fz, htp⟩, ⟨glv, hlv, hlvE⟩, -⟩, -⟩ := id hI
      refine lv_aload_n hx hb dX5_nextLeaf_48 rfl (lv_at hl 0 rfl) ?_
      refine rl_get (v := .ref (x + 55)) hC hW fl_X5_15 hrd rfl dX5_nextLeaf_49 ?_
      refine rl_get (v := .ref (x + 56)) hC hW fl_X5_37 htp rfl dX5_nextLeaf_52 ?_
      refine lv_aload_n hx hb dX5_nextLeaf_55 rfl (lv_at hl 0 rfl) ?_
      refine rl_get (v := .int (nI (q_at u))) hC hW fl_X5_29 hrd rfl dX5_nextLeaf_56 ?_
      refine rl_lald_n hC hW hlv (by omega) (by decide) dX5_nextLeaf_59 ?_
      exact rl_lret hC hW hr hlk (Nat.le_refl _) (Nat.le_refl _) ⟨_, rfl, rfl, rfl, (u.1 + 1, nI u.1, u.2.2), (by rw [lf_0 hbz hlt, hlvE _ hlt]), ⟨hI, hGq, hrx, hlt, hbd, hdp, md, hmd, hrd⟩, hon⟩ dX5_nextLeaf_60
    · have hge : ¬ q_at u < (q_G u).1 4 0 := fun q => c2 ((nI_ltI (by omega) (by omega)).mpr q)
      refine lv_aload_n hx hb dX5_nextLeaf_31 rfl (lv_at hl 0 rfl) ?_
      refine lv_iconst (v := (nI (4))) hx hb dX5_nextLeaf_32 (by decide) ?_
      refine rl_put (v := .int (nI (4))) hC hW fp_X5_23 hrd (Nat.le_of_ble_eq_true rfl) rfl rfl dX5_nextLeaf_33 (fun H locs hW => ?_)
      replace hW : rl_W D A (rl_up _ r (.inr (5, [.ref (x + 1), .ref (x + 55), .int (nI (w)), .int (nI (q_at u)), .int (nI (q_at u)), .int (nI (q_dp u)), .int (nI (4)), .int (md)]))) z s.heap H locs := hW
      replace hI := hI.rdr (fs2 := [.ref (x + 1), .ref (x + 55), .int (nI (w)), .int (nI (q_at u)), .int (nI (q_at u)), .int (nI (q_dp u)), .int (nI (4)), .int (md)]) hrx hrd
      replace hon := hon.tr (rl_on.up (r := r) (e := .inr (5, [.ref (x + 1), .ref (x + 55), .int (nI (w)), .int (nI (q_at u)), .int (nI (q_at u)), .int (nI (q_dp u)), .int (nI (4)), .int (md)])))
      replace hrd := rl_ups hrd (.inr (5, [.ref (x + 1), .ref (x + 55), .int (nI (w)), .int (nI (q_at u)), .int (nI (q_at u)), .int (nI (q_dp u)), .int (nI (4)), .int (md)]))
      refine lv_lconst (v := 0) hx hb dX5_nextLeaf_36 (by decide) ?_
      exact rl_lret hC hW hr hlk (Nat.le_refl _) (Nat.le_refl _) ⟨_, rfl, rfl, rfl, _, lf_4 hbz hge, ⟨hI, hGq, hrx, hat, (by decide : 4 ≤ 8), hdp, md, hmd, hrd⟩, hon⟩ dX5_nextLeaf_37
  · have hbz : q_bad u ≠ 0 := fun q => c1 (by rw [q]; rfl)
    refine lv_lconst (v := 0) hx hb dX5_nextLeaf_7 (by decide) ?_
    exact rl_lret hC hW hr hlk (Nat.le_refl _) (Nat.le_refl _) ⟨_, rfl, rfl, rfl, u, lf_b hbz, hS, hon⟩ dX5_nextLeaf_8
