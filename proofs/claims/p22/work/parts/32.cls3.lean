
theorem rg_sw {x : Int32} (k : Int32) {n : Int} (hk : k.toInt = n) (h : x ≠ k) : x.toInt ≠ n := fun q => h (Int32.toInt_inj.mp (q.trans hk.symm))
section RLM
variable {p : Program} {l : Launch} {e : Env} {R : Room} {s : State} {m : MethodId} {args : Array Value} {below : List Frame} {meth : Method} {c : Code} {H : Heap} {locs : List Loc} {cells slots : Nat} {Q : State → Prop}
variable {cc : ByteArray} {nL pc : Nat} {ls : Array Slot} {rest : List Value} {D : va_G} {t : Nat → ClassId} {A : Nat → Prop} {own : String} {cw : Cond}
theorem rl_mmax {index : Nat} {x y : Int32} (hC : rl_C p m c cc nL s args own cw D t A) (h1 : Cond.methodLink own index Lib.Math.max.name ∈ rl_G) (hl : ls.size = nL) (hfr : 1 ≤ R.frames) (hlo : (rest.map fun v => v.category).sum + 13 ≤ R.locals) (hc : cells ≤ R.cells) (hs : slots ≤ R.slots) (hdg : decode cc pc = .ok (.invokestatic index, 3))
    (kk : W p l e R s m args below meth c H locs cells slots Q (F0 m (pc + 3) ls (.int (if x < y then y else x) :: rest))) : W p l e R s m args below meth c H locs cells slots Q (F0 m pc ls (.int y :: .int x :: rest)) := by
  have g : ∀ {w : Cond}, w ∈ rl_G → w.before args s = true := fun h => hC.2.2.2.2.1 _ (List.mem_cons_of_mem _ h)
  exact va_mmax hC.1 hC.2.1 (by rw [hC.2.2.1, hl]) hC.2.2.2.1 (g h1) (g mw_297) (g mw_12) (g mw_298) hfr hlo hc hs hdg kk
end RLM

set_option maxHeartbeats 4000000 in
set_option maxRecDepth 100000 in
theorem cC_Constant_family (l : Launch) (D : va_G) (t : Nat → ClassId) (A : Nat → Prop) (f : rl_M) (z : Nat) (a ev : Nat) (nm o : Int32) (lo : Nat) (hlo : lo < 2) (k1 k2 k4 : Int32) (k3 : Nat) (h0 : f a = some (.inr (1, [.ref ev, .int nm, .int o, .int (nI lo)]))) (h1 : f ev = some (.inr (2, [.int k1, .int k2, .ref k3, .int k4]))) : rl_Met l yX1_family (.code yX1_family cX1_family 1 (some FieldType.int)) (rl_rm 0 0 0) D t A f z [.ref (a)] (rl_qi z fun r f1 => f = f1 ∧ r = nI (1 + lo)) := by
  refine rl_begin (own := RX1) (lv := [(0, .ref (a))]) (by decide +kernel) rfl (Nat.le_of_ble_eq_true rfl) rfl fun p e s m0 args below meth c ls H locs hC hr hlk hnm hW hl hx hb => ?_
  have hlc : lo = 0 ∨ lo = 1 := by omega
  rcases hlc with rfl | rfl
  · refine lv_aload_n hx hb dX1_family_0 rfl (lv_at hl 0 rfl) ?_
    refine rl_get (v := .int (nI (0))) hC hW fl_X1_22 h0 rfl dX1_family_1 ?_
    refine lv_if_eq (tgt := 11) hx hb dX1_family_4 (by decide) (fun c_1 => ?_) (fun c_1 => ?_)
    · refine lv_iconst (v := (nI (1))) hx hb dX1_family_11 (by decide) ?_
      exact rl_iret hC hW hr hlk (Nat.le_refl _) (Nat.le_refl _) ⟨_, rfl, rfl, rfl, rfl, rfl⟩ dX1_family_12
    · first | exact absurd c_1 (by decide) | exact absurd (by decide) c_1
  · refine lv_aload_n hx hb dX1_family_0 rfl (lv_at hl 0 rfl) ?_
    refine rl_get (v := .int (nI (1))) hC hW fl_X1_22 h0 rfl dX1_family_1 ?_
    refine lv_if_eq (tgt := 11) hx hb dX1_family_4 (by decide) (fun c_2 => ?_) (fun c_2 => ?_)
    · first | exact absurd c_2 (by decide) | exact absurd (by decide) c_2
    · refine lv_iconst (v := (nI (2))) hx hb dX1_family_7 (by decide) ?_
      refine lv_goto (tgt := 12) hx hb dX1_family_8 (by decide) ?_
      exact rl_iret hC hW hr hlk (Nat.le_refl _) (Nat.le_refl _) ⟨_, rfl, rfl, rfl, rfl, rfl⟩ dX1_family_12

set_option maxHeartbeats 4000000 in
set_option maxRecDepth 100000 in
theorem cC_Constant_kind (l : Launch) (D : va_G) (t : Nat → ClassId) (A : Nat → Prop) (f : rl_M) (z : Nat) (a ev : Nat) (nm o : Int32) (lo : Nat) (hlo : lo < 2) (k1 k2 k4 : Int32) (k3 : Nat) (h0 : f a = some (.inr (1, [.ref ev, .int nm, .int o, .int (nI lo)]))) (h1 : f ev = some (.inr (2, [.int k1, .int k2, .ref k3, .int k4]))) : rl_Met l yX1_kind (.code yX1_kind cX1_kind 1 (some FieldType.int)) (rl_rm 0 0 0) D t A f z [.ref (a)] (rl_qi z fun r f1 => f = f1 ∧ r = k1) := by
  refine rl_begin (own := RX1) (lv := [(0, .ref (a))]) (by decide +kernel) rfl (Nat.le_of_ble_eq_true rfl) rfl fun p e s m0 args below meth c ls H locs hC hr hlk hnm hW hl hx hb => ?_
  refine lv_aload_n hx hb dX1_kind_0 rfl (lv_at hl 0 rfl) ?_
  refine rl_get (v := .ref (ev)) hC hW fl_X1_9 h0 rfl dX1_kind_1 ?_
  refine rl_get (v := .int (k1)) hC hW fl_X1_26 h1 rfl dX1_kind_4 ?_
  exact rl_iret hC hW hr hlk (Nat.le_refl _) (Nat.le_refl _) ⟨_, rfl, rfl, rfl, rfl, rfl⟩ dX1_kind_7

set_option maxHeartbeats 4000000 in
set_option maxRecDepth 100000 in
theorem cC_Constant_version (l : Launch) (D : va_G) (t : Nat → ClassId) (A : Nat → Prop) (f : rl_M) (z : Nat) (a ev : Nat) (nm o : Int32) (lo : Nat) (hlo : lo < 2) (k1 k2 k4 : Int32) (k3 : Nat) (h0 : f a = some (.inr (1, [.ref ev, .int nm, .int o, .int (nI lo)]))) (h1 : f ev = some (.inr (2, [.int k1, .int k2, .ref k3, .int k4]))) : rl_Met l yX1_version (.code yX1_version cX1_version 1 (some FieldType.int)) (rl_rm 0 0 0) D t A f z [.ref (a)] (rl_qi z fun r f1 => f = f1 ∧ r = k2) := by
  refine rl_begin (own := RX1) (lv := [(0, .ref (a))]) (by decide +kernel) rfl (Nat.le_of_ble_eq_true rfl) rfl fun p e s m0 args below meth c ls H locs hC hr hlk hnm hW hl hx hb => ?_
  refine lv_aload_n hx hb dX1_version_0 rfl (lv_at hl 0 rfl) ?_
  refine rl_get (v := .ref (ev)) hC hW fl_X1_9 h0 rfl dX1_version_1 ?_
  refine rl_get (v := .int (k2)) hC hW fl_X1_31 h1 rfl dX1_version_4 ?_
  exact rl_iret hC hW hr hlk (Nat.le_refl _) (Nat.le_refl _) ⟨_, rfl, rfl, rfl, rfl, rfl⟩ dX1_version_7

set_option maxHeartbeats 4000000 in
set_option maxRecDepth 100000 in
theorem cC_Constant_extent (l : Launch) (D : va_G) (t : Nat → ClassId) (A : Nat → Prop) (f : rl_M) (z : Nat) (a ev : Nat) (nm o : Int32) (lo : Nat) (hlo : lo < 2) (k1 k2 k4 : Int32) (k3 : Nat) (h0 : f a = some (.inr (1, [.ref ev, .int nm, .int o, .int (nI lo)]))) (h1 : f ev = some (.inr (2, [.int k1, .int k2, .ref k3, .int k4]))) : rl_Met l yX1_extent (.code yX1_extent cX1_extent 1 (some FieldType.int)) (rl_rm 0 0 0) D t A f z [.ref (a)] (rl_qi z fun r f1 => f = f1 ∧ r = o) := by
  refine rl_begin (own := RX1) (lv := [(0, .ref (a))]) (by decide +kernel) rfl (Nat.le_of_ble_eq_true rfl) rfl fun p e s m0 args below meth c ls H locs hC hr hlk hnm hW hl hx hb => ?_
  refine lv_aload_n hx hb dX1_extent_0 rfl (lv_at hl 0 rfl) ?_
  refine rl_get (v := .int (o)) hC hW fl_X1_19 h0 rfl dX1_extent_1 ?_
  exact rl_iret hC hW hr hlk (Nat.le_refl _) (Nat.le_refl _) ⟨_, rfl, rfl, rfl, rfl, rfl⟩ dX1_extent_4

set_option maxHeartbeats 4000000 in
set_option maxRecDepth 100000 in
theorem cC_Row_family (l : Launch) (D : va_G) (t : Nat → ClassId) (A : Nat → Prop) (f : rl_M) (z : Nat) (a : Nat) : rl_Met l yX8_family (.code yX8_family cX8_family 1 (some FieldType.int)) (rl_rm 0 0 0) D t A f z [.ref (a)] (rl_qi z fun r f1 => f = f1 ∧ r = nI 3) := by
  refine rl_begin (own := RX8) (lv := [(0, .ref (a))]) (by decide +kernel) rfl (Nat.le_of_ble_eq_true rfl) rfl fun p e s m0 args below meth c ls H locs hC hr hlk hnm hW hl hx hb => ?_
  refine lv_iconst (v := (nI (3))) hx hb dX8_family_0 (by decide) ?_
  exact rl_iret hC hW hr hlk (Nat.le_refl _) (Nat.le_refl _) ⟨_, rfl, rfl, rfl, rfl, by decide⟩ dX8_family_1

set_option maxHeartbeats 4000000 in
set_option maxRecDepth 100000 in
theorem cC_Row_kind (l : Launch) (D : va_G) (t : Nat → ClassId) (A : Nat → Prop) (f : rl_M) (z : Nat) (a : Nat) : rl_Met l yX8_kind (.code yX8_kind cX8_kind 1 (some FieldType.int)) (rl_rm 0 0 0) D t A f z [.ref (a)] (rl_qi z fun r f1 => f = f1 ∧ r = (-3)) := by
  refine rl_begin (own := RX8) (lv := [(0, .ref (a))]) (by decide +kernel) rfl (Nat.le_of_ble_eq_true rfl) rfl fun p e s m0 args below meth c ls H locs hC hr hlk hnm hW hl hx hb => ?_
  refine lv_bipush (v := (-3)) hx hb dX8_kind_0 (by decide) ?_
  exact rl_iret hC hW hr hlk (Nat.le_refl _) (Nat.le_refl _) ⟨_, rfl, rfl, rfl, rfl, by decide⟩ dX8_kind_2

set_option maxHeartbeats 4000000 in
set_option maxRecDepth 100000 in
theorem cC_Row_version (l : Launch) (D : va_G) (t : Nat → ClassId) (A : Nat → Prop) (f : rl_M) (z : Nat) (a : Nat) : rl_Met l yX8_version (.code yX8_version cX8_version 1 (some FieldType.int)) (rl_rm 0 0 0) D t A f z [.ref (a)] (rl_qi z fun r f1 => f = f1 ∧ r = (-3)) := by
  refine rl_begin (own := RX8) (lv := [(0, .ref (a))]) (by decide +kernel) rfl (Nat.le_of_ble_eq_true rfl) rfl fun p e s m0 args below meth c ls H locs hC hr hlk hnm hW hl hx hb => ?_
  refine lv_bipush (v := (-3)) hx hb dX8_version_0 (by decide) ?_
  exact rl_iret hC hW hr hlk (Nat.le_refl _) (Nat.le_refl _) ⟨_, rfl, rfl, rfl, rfl, by decide⟩ dX8_version_2

set_option maxHeartbeats 4000000 in
set_option maxRecDepth 100000 in
theorem cC_Row_extent (l : Launch) (D : va_G) (t : Nat → ClassId) (A : Nat → Prop) (f : rl_M) (z : Nat) (a r n : Nat) (g : Nat → Int32) (h0 : f a = some (.inr (8, [.ref r]))) (h1 : f r = some (.inl (t 0, n, .inl g))) : rl_Met l yX8_extent (.code yX8_extent cX8_extent 1 (some FieldType.int)) (rl_rm 0 0 0) D t A f z [.ref (a)] (rl_qi z fun r' f1 => f = f1 ∧ r' = nI n) := by
  refine rl_begin (own := RX8) (lv := [(0, .ref (a))]) (by decide +kernel) rfl (Nat.le_of_ble_eq_true rfl) rfl fun p e s m0 args below meth c ls H locs hC hr hlk hnm hW hl hx hb => ?_
  refine lv_aload_n hx hb dX8_extent_0 rfl (lv_at hl 0 rfl) ?_
  refine rl_get (v := .ref (r)) hC hW fl_X8_15 h0 rfl dX8_extent_1 ?_
  refine rl_alen 0 (v := nI (n)) hC hW rfl h1 rfl dX8_extent_4 ?_
  exact rl_iret hC hW hr hlk (Nat.le_refl _) (Nat.le_refl _) ⟨_, rfl, rfl, rfl, rfl, rfl⟩ dX8_extent_5

set_option maxHeartbeats 4000000 in
set_option maxRecDepth 100000 in
theorem cC_Rec_kind (l : Launch) (D : va_G) (t : Nat → ClassId) (A : Nat → Prop) (f : rl_M) (z : Nat) (a rv nu th n pa ka : Nat) (gn : Nat → Int64) (gt : Nat → Option Nat) (k1 k2 k3 k4 : Int32) (h0 : f a = some (.inr (6, [.ref rv, .ref nu, .ref th]))) (h1 : f nu = some (.inl (t 1, n, .inr (.inl gn)))) (h2 : f rv = some (.inr (7, [.int k1, .int k2, .ref pa, .ref ka, .int k3, .int k4]))) : rl_Met l yX6_kind (.code yX6_kind cX6_kind 1 (some FieldType.int)) (rl_rm 0 0 0) D t A f z [.ref (a)] (rl_qi z fun r f1 => f = f1 ∧ r = k1) := by
  refine rl_begin (own := RX6) (lv := [(0, .ref (a))]) (by decide +kernel) rfl (Nat.le_of_ble_eq_true rfl) rfl fun p e s m0 args below meth c ls H locs hC hr hlk hnm hW hl hx hb => ?_
  refine lv_aload_n hx hb dX6_kind_0 rfl (lv_at hl 0 rfl) ?_
  refine rl_get (v := .ref (rv)) hC hW fl_X6_9 h0 rfl dX6_kind_1 ?_
  refine rl_get (v := .int (k1)) hC hW fl_X6_29 h2 rfl dX6_kind_4 ?_
  exact rl_iret hC hW hr hlk (Nat.le_refl _) (Nat.le_refl _) ⟨_, rfl, rfl, rfl, rfl, rfl⟩ dX6_kind_7

set_option maxHeartbeats 4000000 in
set_option maxRecDepth 100000 in
theorem cC_Rec_version (l : Launch) (D : va_G) (t : Nat → ClassId) (A : Nat → Prop) (f : rl_M) (z : Nat) (a rv nu th n pa ka : Nat) (gn : Nat → Int64) (gt : Nat → Option Nat) (k1 k2 k3 k4 : Int32) (h0 : f a = some (.inr (6, [.ref rv, .ref nu, .ref th]))) (h1 : f nu = some (.inl (t 1, n, .inr (.inl gn)))) (h2 : f rv = some (.inr (7, [.int k1, .int k2, .ref pa, .ref ka, .int k3, .int k4]))) : rl_Met l yX6_version (.code yX6_version cX6_version 1 (some FieldType.int)) (rl_rm 0 0 0) D t A f z [.ref (a)] (rl_qi z fun r f1 => f = f1 ∧ r = k2) := by
  refine rl_begin (own := RX6) (lv := [(0, .ref (a))]) (by decide +kernel) rfl (Nat.le_of_ble_eq_true rfl) rfl fun p e s m0 args below meth c ls H locs hC hr hlk hnm hW hl hx hb => ?_
  refine lv_aload_n hx hb dX6_version_0 rfl (lv_at hl 0 rfl) ?_
  refine rl_get (v := .ref (rv)) hC hW fl_X6_9 h0 rfl dX6_version_1 ?_
  refine rl_get (v := .int (k2)) hC hW fl_X6_32 h2 rfl dX6_version_4 ?_
  exact rl_iret hC hW hr hlk (Nat.le_refl _) (Nat.le_refl _) ⟨_, rfl, rfl, rfl, rfl, rfl⟩ dX6_version_7

set_option maxHeartbeats 4000000 in
set_option maxRecDepth 100000 in
theorem cC_Rec_family (l : Launch) (D : va_G) (t : Nat → ClassId) (A : Nat → Prop) (f : rl_M) (z : Nat) (a : Nat) : rl_Met l yX6_family (.code yX6_family cX6_family 1 (some FieldType.int)) (rl_rm 0 0 0) D t A f z [.ref (a)] (rl_qi z fun r f1 => f = f1 ∧ r = nI 4) := by
  refine rl_begin (own := RX6) (lv := [(0, .ref (a))]) (by decide +kernel) rfl (Nat.le_of_ble_eq_true rfl) rfl fun p e s m0 args below meth c ls H locs hC hr hlk hnm hW hl hx hb => ?_
  refine lv_iconst (v := (nI (4))) hx hb dX6_family_0 (by decide) ?_
  exact rl_iret hC hW hr hlk (Nat.le_refl _) (Nat.le_refl _) ⟨_, rfl, rfl, rfl, rfl, by decide⟩ dX6_family_1

set_option maxHeartbeats 4000000 in
set_option maxRecDepth 100000 in
theorem cC_Rec_extent (l : Launch) (D : va_G) (t : Nat → ClassId) (A : Nat → Prop) (f : rl_M) (z : Nat) (a rv nu th n : Nat) (gn : Nat → Int64) (h0 : f a = some (.inr (6, [.ref rv, .ref nu, .ref th]))) (h1 : f nu = some (.inl (t 1, n, .inr (.inl gn)))) : rl_Met l yX6_extent (.code yX6_extent cX6_extent 1 (some FieldType.int)) (rl_rm 0 0 0) D t A f z [.ref (a)] (rl_qi z fun r f1 => f = f1 ∧ r = nI n) := by
  refine rl_begin (own := RX6) (lv := [(0, .ref (a))]) (by decide +kernel) rfl (Nat.le_of_ble_eq_true rfl) rfl fun p e s m0 args below meth c ls H locs hC hr hlk hnm hW hl hx hb => ?_
  refine lv_aload_n hx hb dX6_extent_0 rfl (lv_at hl 0 rfl) ?_
  refine rl_get (v := .ref (nu)) hC hW fl_X6_21 h0 rfl dX6_extent_1 ?_
  refine rl_alen 1 (v := nI (n)) hC hW rfl h1 rfl dX6_extent_4 ?_
  exact rl_iret hC hW hr hlk (Nat.le_refl _) (Nat.le_refl _) ⟨_, rfl, rfl, rfl, rfl, rfl⟩ dX6_extent_5

set_option maxHeartbeats 4000000 in
set_option maxRecDepth 100000 in
theorem cC_isNumber (l : Launch) (D : va_G) (t : Nat → ClassId) (A : Nat → Prop) (f : rl_M) (z : Nat) (x : Nat) (T : Nat → Nat → Nat) (ρ κ : Nat) (G : pG) (E : Nat → Nat → Nat) (gx : Nat → Int32) (mo : Int32) (hI : CJ t f x T ρ κ G E gx mo) (a j nu th p0 : Nat) (hj : j < 12) (hp0 : p0 < T 2 j) (hT4 : T 4 (5 * j + p0) < 2 ^ 31) (h0 : f a = some (.inr (6, [.ref (x + 16 + 3 * j), .ref nu, .ref th]))) : rl_Met l yX6_isNumber (.code yX6_isNumber cX6_isNumber 2 (some FieldType.boolean)) (rl_rm 0 0 0) D t A f z [.ref (a), .int (nI (p0))] (rl_qi z fun r f1 => f = f1 ∧ ((r = 1 ∧ T 4 (5 * j + p0) < 2) ∨ (r = 0 ∧ 2 ≤ T 4 (5 * j + p0)))) := by
  refine rl_begin (own := RX6) (lv := [(0, .ref (a)), (1, .int (nI (p0)))]) (by decide +kernel) rfl (Nat.le_of_ble_eq_true rfl) rfl fun p e s m0 args below meth c ls H locs hC hr hlk hnm hW hl hx hb => ?_
  obtain ⟨hrv, hj5, hj2, ⟨gp, hpa, hpp⟩, hka⟩ := hI.2.2.1 j hj
  obtain ⟨q, o, hq1, hq2, hq3, hq4⟩ := hpp p0 hp0
  refine lv_aload_n hx hb dX6_isNumber_0 rfl (lv_at hl 0 rfl) ?_
  refine rl_get (v := .ref (x + 16 + 3 * j)) hC hW fl_X6_9 h0 rfl dX6_isNumber_1 ?_
  refine rl_get (v := .ref (x + 17 + 3 * j)) hC hW fl_X6_35 hrv rfl dX6_isNumber_4 ?_
  refine lv_iload_n hx hb dX6_isNumber_7 rfl (lv_at hl 1 rfl) ?_
  refine rl_aald_n 5 hC hW rfl hpa (by omega) (by decide) dX6_isNumber_8 ?_
  refine rl_topq (hq1) ?_
  refine rl_get (v := .int (nI (T 4 (5 * j + p0)))) hC hW fl_X6_39 hq3 rfl dX6_isNumber_9 ?_
  refine lv_iconst (v := (nI (1))) hx hb dX6_isNumber_12 (by decide) ?_
  refine lv_icmp_gt (tgt := 20) hx hb dX6_isNumber_13 (by decide) (fun c1 => ?_) (fun c1 => ?_)
  · refine lv_iconst (v := (nI (0))) hx hb dX6_isNumber_20 (by decide) ?_
    exact rl_zret hC hW hr hlk rfl (Nat.le_refl _) (Nat.le_refl _) ⟨_, rfl, rfl, rfl, rfl, Or.inr ⟨by decide, by have := (nI_ltI (by decide) hT4).mp c1; omega⟩⟩ dX6_isNumber_21
  · refine lv_iconst (v := (nI (1))) hx hb dX6_isNumber_16 (by decide) ?_
    refine lv_goto (tgt := 21) hx hb dX6_isNumber_17 (by decide) ?_
    exact rl_zret hC hW hr hlk rfl (Nat.le_refl _) (Nat.le_refl _) ⟨_, rfl, rfl, rfl, rfl, Or.inl ⟨by decide, Nat.lt_of_not_le (fun q => c1 ((nI_ltI (by decide) hT4).mpr (by omega)))⟩⟩ dX6_isNumber_21

set_option maxHeartbeats 4000000 in
set_option maxRecDepth 100000 in
theorem cC_familyOf (l : Launch) (D : va_G) (t : Nat → ClassId) (A : Nat → Prop) (f : rl_M) (z : Nat) (x : Nat) (T : Nat → Nat → Nat) (ρ κ : Nat) (G : pG) (E : Nat → Nat → Nat) (gx : Nat → Int32) (mo : Int32) (hI : CJ t f x T ρ κ G E gx mo) (hT : rt_ok T) (hG : GW T ρ κ G) (hd0 : pHd) (r0 : Option Nat) (er0 : r0 = ca E hd0) (hok0 : cok T ρ κ hd0) : rl_Met l yX11_familyOf (.code yX11_familyOf cX11_familyOf 1 (some FieldType.int)) (rl_rm 1 0 0) D t A f z [va_rf (r0)] (rl_qi z fun r f1 => f = f1 ∧ r = nI (fam T hd0)) := by
  refine rl_begin (own := RX11) (lv := [(0, va_rf (r0))]) (by decide +kernel) rfl (by cases r0 <;> exact Nat.le_of_ble_eq_true rfl) (by cases r0 <;> rfl) fun p e s m0 args below meth c ls H locs hC hr hlk hnm hW hl hx hb => ?_
  rcases hok0.cases with hh | ⟨n0, hn0, hh⟩ | ⟨n0, hn0, hh⟩ | ⟨n0, hn0, hh⟩
  · obtain rfl : r0 = none := by rw [er0, hh]; rfl
    refine lv_aload_nN hx hb dX11_familyOf_0 rfl (lv_at hl 0 rfl) ?_
    refine lv_ifnonnullN hx hb dX11_familyOf_1 ?_
    refine lv_iconst (v := (nI (0))) hx hb dX11_familyOf_4 (by decide) ?_
    refine lv_goto (tgt := 12) hx hb dX11_familyOf_5 (by decide) ?_
    exact rl_iret hC hW hr hlk (Nat.le_refl _) (Nat.le_refl _) ⟨_, rfl, rfl, rfl, rfl, by rw [hh]; rfl⟩ dX11_familyOf_12
  · obtain rfl : r0 = some (E 0 n0) := by rw [er0, hh]; rfl
    obtain ⟨hx58, h0, h1⟩ := hI.con hn0
    have hlo := (hT.2.2.2.2.2.1 n0 hn0.1).1
    refine lv_aload_n hx hb dX11_familyOf_0 rfl (lv_at hl 0 rfl) ?_
    refine lv_ifnonnull (tgt := 8) hx hb dX11_familyOf_1 (by decide) ?_
    refine lv_aload_n hx hb dX11_familyOf_8 rfl (lv_at hl 0 rfl) ?_
    refine rl_calliQ (rl_runU (b := E 0 n0) (As := []) (rest := []) hC hW (cC_Constant_family l D t A _ z _ _ _ _ _ hlo _ _ _ _ h0 h1) cu_X11_208_X1 h0 rfl ⟨(Nat.le_of_ble_eq_true rfl), (Nat.le_of_ble_eq_true rfl)⟩ rfl hl.1 rfl (Nat.le_of_ble_eq_true rfl) dX11_familyOf_9 ⟨(Nat.le_of_ble_eq_true rfl), (Nat.le_of_ble_eq_true rfl)⟩) hW (fun r f1 H locs hp hW => ?_)
    obtain ⟨rfl, rfl⟩ := hp
    exact rl_iret hC hW hr hlk (Nat.le_refl _) (Nat.le_refl _) ⟨_, rfl, rfl, rfl, rfl, by rw [hh]; rfl⟩ dX11_familyOf_12
  · obtain rfl : r0 = some (E 1 n0) := by rw [er0, hh]; rfl
    obtain ⟨hx58, h0, g, h1, hgi⟩ := hI.row hn0
    have hn8 := hG.1 n0 hn0
    refine lv_aload_n hx hb dX11_familyOf_0 rfl (lv_at hl 0 rfl) ?_
    refine lv_ifnonnull (tgt := 8) hx hb dX11_familyOf_1 (by decide) ?_
    refine lv_aload_n hx hb dX11_familyOf_8 rfl (lv_at hl 0 rfl) ?_
    refine rl_calliQ (rl_runU (b := E 1 n0) (As := []) (rest := []) hC hW (cC_Row_family l D t A _ z _) cu_X11_208_X8 h0 rfl ⟨(Nat.le_of_ble_eq_true rfl), (Nat.le_of_ble_eq_true rfl)⟩ rfl hl.1 rfl (Nat.le_of_ble_eq_true rfl) dX11_familyOf_9 ⟨(Nat.le_of_ble_eq_true rfl), (Nat.le_of_ble_eq_true rfl)⟩) hW (fun r f1 H locs hp hW => ?_)
    obtain ⟨rfl, rfl⟩ := hp
    exact rl_iret hC hW hr hlk (Nat.le_refl _) (Nat.le_refl _) ⟨_, rfl, rfl, rfl, rfl, by rw [hh]; rfl⟩ dX11_familyOf_12
  · obtain rfl : r0 = some (E 2 n0) := by rw [er0, hh]; rfl
    obtain ⟨hx58, h0, ⟨gn, h1, hgnv⟩, ⟨gt, h2, hgtv⟩⟩ := hI.rec hn0
    obtain ⟨hj, hnT, -⟩ := hG.2.1 n0 hn0
    obtain ⟨hrv, hj5, hj2, hpa, hka⟩ := id (hI.2.2.1 _ hj)
    refine lv_aload_n hx hb dX11_familyOf_0 rfl (lv_at hl 0 rfl) ?_
    refine lv_ifnonnull (tgt := 8) hx hb dX11_familyOf_1 (by decide) ?_
    refine lv_aload_n hx hb dX11_familyOf_8 rfl (lv_at hl 0 rfl) ?_
    refine rl_calliQ (rl_runU (b := E 2 n0) (As := []) (rest := []) hC hW (cC_Rec_family l D t A _ z _) cu_X11_208_X6 h0 rfl ⟨(Nat.le_of_ble_eq_true rfl), (Nat.le_of_ble_eq_true rfl)⟩ rfl hl.1 rfl (Nat.le_of_ble_eq_true rfl) dX11_familyOf_9 ⟨(Nat.le_of_ble_eq_true rfl), (Nat.le_of_ble_eq_true rfl)⟩) hW (fun r f1 H locs hp hW => ?_)
    obtain ⟨rfl, rfl⟩ := hp
    exact rl_iret hC hW hr hlk (Nat.le_refl _) (Nat.le_refl _) ⟨_, rfl, rfl, rfl, rfl, by rw [hh]; rfl⟩ dX11_familyOf_12
