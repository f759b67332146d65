set_option maxHeartbeats 4000000 in
set_option maxRecDepth 100000 in
theorem cC_enumVersion (l : Launch) (D : va_G) (t : Nat → ClassId) (A : Nat → Prop) (f : rl_M) (z : Nat) (x : Nat) (T : Nat → Nat → Nat) (ρ κ : Nat) (G : pG) (E : Nat → Nat → Nat) (gx : Nat → Int32) (mo : Int32) (hI : CJ t f x T ρ κ G E gx mo) (x1 x2 : Int32) : rl_Met l yX3_enumVersion (.code yX3_enumVersion cX3_enumVersion 4 (some (FieldType.object "RecordLeaves$EnumVersion"))) (rl_rm 1 0 0) D t A f z [.ref (x + 1), .int (x1), .int (x2)] (rl_qq z fun r f1 => f = f1 ∧ ((∃ k v : Nat, k < 2 ∧ v < 3 ∧ x1 = nI k ∧ x2 = nI v ∧ r = some (x + 3 + 2 * (3 * k + v))) ∨ (r = none ∧ ¬ ∃ k v : Nat, k < 2 ∧ v < 3 ∧ x1 = nI k ∧ x2 = nI v))) := by
  refine rl_begin (own := RX3) (lv := [(0, .ref (x + 1)), (1, .int (x1)), (2, .int (x2))]) (by decide +kernel) rfl (Nat.le_of_ble_eq_true rfl) rfl fun p e s m0 args below meth c ls H locs hC hr hlk hnm hW hl hx hb => ?_
  obtain ⟨hk0, ⟨ge, hen, hge⟩, -⟩ := hI.1
  refine lv_iload_n hx hb dX3_enumVersion_0 rfl (lv_at hl 1 rfl) ?_
  refine lv_iconst (v := (nI (2))) hx hb dX3_enumVersion_1 (by decide) ?_
  refine rl_calliQ (rl_runS (As := [.int (x1), .int (nI (2))]) (rest := []) hC hW (cC_below l D t A _ z _ (2) (by omega)) cs_X3_27 sm_X11_below ⟨(Nat.le_of_ble_eq_true rfl), (Nat.le_of_ble_eq_true rfl)⟩ rfl hl.1 rfl (Nat.le_of_ble_eq_true rfl) dX3_enumVersion_2 ⟨(Nat.le_of_ble_eq_true rfl), (Nat.le_of_ble_eq_true rfl)⟩) hW (fun r f1 H locs hp hW => ?_)
  obtain ⟨rfl, hp⟩ := hp
  rcases hp with ⟨rfl, hp⟩ | ⟨rfl, hp⟩
  · obtain ⟨k, hk, rfl⟩ := hp
    refine lv_if_eq (tgt := 20) hx hb dX3_enumVersion_5 (by decide) (fun c9 => ?_) (fun c9 => ?_)
    · exact absurd c9 (by decide)
    · refine lv_iload_n hx hb dX3_enumVersion_8 rfl (lv_at hl 2 rfl) ?_
      refine lv_iconst (v := (nI (3))) hx hb dX3_enumVersion_9 (by decide) ?_
      refine rl_calliQ (rl_runS (As := [.int (x2), .int (nI (3))]) (rest := []) hC hW (cC_below l D t A _ z _ (3) (by omega)) cs_X3_27 sm_X11_below ⟨(Nat.le_of_ble_eq_true rfl), (Nat.le_of_ble_eq_true rfl)⟩ rfl hl.1 rfl (Nat.le_of_ble_eq_true rfl) dX3_enumVersion_10 ⟨(Nat.le_of_ble_eq_true rfl), (Nat.le_of_ble_eq_true rfl)⟩) hW (fun r f1 H locs hp hW => ?_)
      obtain ⟨rfl, hp⟩ := hp
      rcases hp with ⟨rfl, hp⟩ | ⟨rfl, hp⟩
      · obtain ⟨v, hv, rfl⟩ := hp
        refine lv_if_eq (tgt := 20) hx hb dX3_enumVersion_13 (by decide) (fun c9 => ?_) (fun c9 => ?_)
        · exact absurd c9 (by decide)
        · have hix : k * 3 + v < 6 := by omega
          refine lv_iconst (v := (nI (1))) hx hb dX3_enumVersion_16 (by decide) ?_
          refine lv_goto (tgt := 21) hx hb dX3_enumVersion_17 (by decide) ?_
          refine lv_istore_n (lv' := [(3, .int (nI (1))), (0, .ref (x + 1)), (1, .int (nI (k))), (2, .int (nI (v)))]) hx hb dX3_enumVersion_21 rfl hl (by decide) rfl (fun ls hl => ?_)
          refine lv_iload_n hx hb dX3_enumVersion_22 rfl (lv_at hl 0 rfl) ?_
          refine lv_if_eq (tgt := 39) hx hb dX3_enumVersion_23 (by decide) (fun c_1 => ?_) (fun c_1 => ?_)
          · first | exact absurd c_1 (by decide) | exact absurd (by decide) c_1
          · refine lv_aload_n hx hb dX3_enumVersion_26 rfl (lv_at hl 1 rfl) ?_
            refine rl_get (v := .ref (x + 2)) hC hW fl_X3_11 hk0 rfl dX3_enumVersion_27 ?_
            refine lv_iload_n hx hb dX3_enumVersion_30 rfl (lv_at hl 2 rfl) ?_
            refine lv_iconst (v := (nI (3))) hx hb dX3_enumVersion_31 (by decide) ?_
            refine lv_imul hx hb dX3_enumVersion_32 ?_
            refine rl_topn (pk_mul _ _) ?_
            refine lv_iload_n hx hb dX3_enumVersion_33 rfl (lv_at hl 3 rfl) ?_
            refine lv_iadd hx hb dX3_enumVersion_34 ?_
            refine rl_topn (nI_add _ _) ?_
            refine rl_aald_n 7 hC hW rfl hen (by omega) (by decide) dX3_enumVersion_35 ?_
            refine rl_topq ((hge _ hix).trans (by rw [Nat.mul_comm k 3])) ?_
            refine lv_goto (tgt := 40) hx hb dX3_enumVersion_36 (by decide) ?_
            exact rl_aret (v := some (x + 3 + 2 * (3 * k + v))) hC hW hr hlk (Nat.le_refl _) (Nat.le_refl _) ⟨_, rfl, rfl, rfl, rfl, Or.inl ⟨k, v, hk, hv, rfl, rfl, rfl⟩⟩ dX3_enumVersion_40
      · have hq := hp
        refine lv_if_eq (tgt := 20) hx hb dX3_enumVersion_13 (by decide) (fun c9 => ?_) (fun c9 => ?_)
        · refine lv_iconst (v := (nI (0))) hx hb dX3_enumVersion_20 (by decide) ?_
          refine lv_istore_n (lv' := [(3, .int (nI (0))), (0, .ref (x + 1)), (1, .int (nI (k))), (2, .int (x2))]) hx hb dX3_enumVersion_21 rfl hl (by decide) rfl (fun ls hl => ?_)
          refine lv_iload_n hx hb dX3_enumVersion_22 rfl (lv_at hl 0 rfl) ?_
          refine lv_if_eq (tgt := 39) hx hb dX3_enumVersion_23 (by decide) (fun c_2 => ?_) (fun c_2 => ?_)
          · refine lv_null hx hb dX3_enumVersion_39 ?_
            exact rl_aret (v := none) hC hW hr hlk (Nat.le_refl _) (Nat.le_refl _) ⟨_, rfl, rfl, rfl, rfl, Or.inr ⟨rfl, fun ⟨_, v', _, q2, _, q4⟩ => hq ⟨v', q2, q4⟩⟩⟩ dX3_enumVersion_40
          · first | exact absurd c_2 (by decide) | exact absurd (by decide) c_2
        · exact absurd rfl c9
  · have hq := hp
    refine lv_if_eq (tgt := 20) hx hb dX3_enumVersion_5 (by decide) (fun c9 => ?_) (fun c9 => ?_)
    · refine lv_iconst (v := (nI (0))) hx hb dX3_enumVersion_20 (by decide) ?_
      refine lv_istore_n (lv' := [(3, .int (nI (0))), (0, .ref (x + 1)), (1, .int (x1)), (2, .int (x2))]) hx hb dX3_enumVersion_21 rfl hl (by decide) rfl (fun ls hl => ?_)
      refine lv_iload_n hx hb dX3_enumVersion_22 rfl (lv_at hl 0 rfl) ?_
      refine lv_if_eq (tgt := 39) hx hb dX3_enumVersion_23 (by decide) (fun c_3 => ?_) (fun c_3 => ?_)
      · refine lv_null hx hb dX3_enumVersion_39 ?_
        exact rl_aret (v := none) hC hW hr hlk (Nat.le_refl _) (Nat.le_refl _) ⟨_, rfl, rfl, rfl, rfl, Or.inr ⟨rfl, fun ⟨k', _, q1, _, q3, _⟩ => hq ⟨k', q1, q3⟩⟩⟩ dX3_enumVersion_40
      · first | exact absurd c_3 (by decide) | exact absurd (by decide) c_3
    · exact absurd rfl c9

theorem rg_k26 {x : Int64} (h1 : ¬ x < 2) (h2 : ¬ 6 ≤ x) : ∃ k : Nat, k < 4 ∧ x = lN (2 + k) := by
  rw [Int64.lt_iff_toInt_lt, show (2 : Int64).toInt = 2 by decide] at h1
  rw [Int64.le_iff_toInt_le, show (6 : Int64).toInt = 6 by decide] at h2
  refine ⟨x.toInt.toNat - 2, by omega, ?_⟩
  apply Int64.toInt_inj.mp
  rw [lN_toInt (by omega)]
  omega

set_option maxHeartbeats 4000000 in
set_option maxRecDepth 100000 in
theorem cC_recordVersion (l : Launch) (D : va_G) (t : Nat → ClassId) (A : Nat → Prop) (f : rl_M) (z : Nat) (x : Nat) (T : Nat → Nat → Nat) (ρ κ : Nat) (G : pG) (E : Nat → Nat → Nat) (gx : Nat → Int32) (mo : Int32) (hI : CJ t f x T ρ κ G E gx mo) (x1 : Int64) (x2 : Int32) : rl_Met l yX3_recordVersion (.code yX3_recordVersion cX3_recordVersion 5 (some (FieldType.object "RecordLeaves$RecordVersion"))) (rl_rm 1 0 0) D t A f z [.ref (x + 1), .long (x1), .int (x2)] (rl_qq z fun r f1 => f = f1 ∧ ((∃ k v : Nat, k < 4 ∧ v < 3 ∧ x1 = lN (2 + k) ∧ x2 = nI v ∧ r = some (x + 16 + 3 * (3 * k + v))) ∨ (r = none ∧ ¬ ∃ k v : Nat, k < 4 ∧ v < 3 ∧ x1 = lN (2 + k) ∧ x2 = nI v))) := by
  refine rl_begin (own := RX3) (lv := [(0, .ref (x + 1)), (1, .long (x1)), (3, .int (x2))]) (by decide +kernel) rfl (Nat.le_of_ble_eq_true rfl) rfl fun p e s m0 args below meth c ls H locs hC hr hlk hnm hW hl hx hb => ?_
  obtain ⟨hk0, -, ⟨ge, hen, hge⟩⟩ := hI.1
  refine lv_lload_n hx hb dX3_recordVersion_0 rfl (lv_at hl 1 rfl) ?_
  refine lv_ldc2 (v := 2) hx hb hC.2.2.2.1 (hC.2.2.2.2.1 _ (List.mem_cons_of_mem _ mw_214)) dX3_recordVersion_1 ?_
  refine W.lcmp hx hb dX3_recordVersion_4 ?_
  refine lv_if_lt (tgt := 28) hx hb dX3_recordVersion_5 (by decide) (fun c1 => ?_) (fun c1 => ?_)
  · refine lv_iconst (v := (nI (0))) hx hb dX3_recordVersion_28 (by decide) ?_
    refine lv_istore (lv' := [(4, .int (nI (0))), (0, .ref (x + 1)), (1, .long (x1)), (3, .int (x2))]) hx hb dX3_recordVersion_29 hl (by decide) rfl (fun ls hl => ?_)
    refine lv_iload hx hb dX3_recordVersion_31 (lv_at hl 0 rfl) ?_
    refine lv_if_eq (tgt := 52) hx hb dX3_recordVersion_33 (by decide) (fun c_1 => ?_) (fun c_1 => ?_)
    · refine lv_null hx hb dX3_recordVersion_52 ?_
      exact rl_aret (v := none) hC hW hr hlk (Nat.le_refl _) (Nat.le_refl _) ⟨_, rfl, rfl, rfl, rfl, Or.inr ⟨rfl, fun ⟨k', _, q1, _, q3, _⟩ => by subst q3; have := (lg_cmp_lt _ _).mp c1; rw [show (2 : Int64) = lN 2 by decide, lN_lt (by omega) (by decide)] at this; omega⟩⟩ dX3_recordVersion_53
    · first | exact absurd c_1 (by decide) | exact absurd (by decide) c_1
  · refine lv_lload_n hx hb dX3_recordVersion_8 rfl (lv_at hl 1 rfl) ?_
    refine lv_ldc2 (v := 6) hx hb hC.2.2.2.1 (hC.2.2.2.2.1 _ (List.mem_cons_of_mem _ mw_215)) dX3_recordVersion_9 ?_
    refine W.lcmp hx hb dX3_recordVersion_12 ?_
    refine lv_if_ge (tgt := 28) hx hb dX3_recordVersion_13 (by decide) (fun c2 => ?_) (fun c2 => ?_)
    · refine lv_iconst (v := (nI (0))) hx hb dX3_recordVersion_28 (by decide) ?_
      refine lv_istore (lv' := [(4, .int (nI (0))), (0, .ref (x + 1)), (1, .long (x1)), (3, .int (x2))]) hx hb dX3_recordVersion_29 hl (by decide) rfl (fun ls hl => ?_)
      refine lv_iload hx hb dX3_recordVersion_31 (lv_at hl 0 rfl) ?_
      refine lv_if_eq (tgt := 52) hx hb dX3_recordVersion_33 (by decide) (fun c_2 => ?_) (fun c_2 => ?_)
      · refine lv_null hx hb dX3_recordVersion_52 ?_
        exact rl_aret (v := none) hC hW hr hlk (Nat.le_refl _) (Nat.le_refl _) ⟨_, rfl, rfl, rfl, rfl, Or.inr ⟨rfl, fun ⟨k', _, q1, _, q3, _⟩ => by subst q3; have := (lg_cmp_ge _ _).mp c2; rw [show (6 : Int64) = lN 6 by decide, lN_le (by decide) (by omega)] at this; omega⟩⟩ dX3_recordVersion_53
      · first | exact absurd c_2 (by decide) | exact absurd (by decide) c_2
    · obtain ⟨k, hk, rfl⟩ := rg_k26 (fun q => c1 ((lg_cmp_lt _ _).mpr q)) (fun q => c2 ((lg_cmp_ge _ _).mpr q))
      refine lv_iload_n hx hb dX3_recordVersion_16 rfl (lv_at hl 2 rfl) ?_
      refine lv_iconst (v := (nI (3))) hx hb dX3_recordVersion_17 (by decide) ?_
      refine rl_calliQ (rl_runS (As := [.int (x2), .int (nI (3))]) (rest := []) hC hW (cC_below l D t A _ z _ (3) (by omega)) cs_X3_27 sm_X11_below ⟨(Nat.le_of_ble_eq_true rfl), (Nat.le_of_ble_eq_true rfl)⟩ rfl hl.1 rfl (Nat.le_of_ble_eq_true rfl) dX3_recordVersion_18 ⟨(Nat.le_of_ble_eq_true rfl), (Nat.le_of_ble_eq_true rfl)⟩) hW (fun r f1 H locs hp hW => ?_)
      obtain ⟨rfl, hp⟩ := hp
      rcases hp with ⟨rfl, hp⟩ | ⟨rfl, hp⟩
      · obtain ⟨v, hv, rfl⟩ := hp
        refine lv_if_eq (tgt := 28) hx hb dX3_recordVersion_21 (by decide) (fun c9 => ?_) (fun c9 => ?_)
        · exact absurd c9 (by decide)
        · have hix : k * 3 + v < 12 := by omega
          refine lv_iconst (v := (nI (1))) hx hb dX3_recordVersion_24 (by decide) ?_
          refine lv_goto (tgt := 29) hx hb dX3_recordVersion_25 (by decide) ?_
          refine lv_istore (lv' := [(4, .int (nI (1))), (0, .ref (x + 1)), (1, .long (lN (2 + k))), (3, .int (nI (v)))]) hx hb dX3_recordVersion_29 hl (by decide) rfl (fun ls hl => ?_)
          refine lv_iload hx hb dX3_recordVersion_31 (lv_at hl 0 rfl) ?_
          refine lv_if_eq (tgt := 52) hx hb dX3_recordVersion_33 (by decide) (fun c_3 => ?_) (fun c_3 => ?_)
          · first | exact absurd c_3 (by decide) | exact absurd (by decide) c_3
          · refine lv_aload_n hx hb dX3_recordVersion_36 rfl (lv_at hl 1 rfl) ?_
            refine rl_get (v := .ref (x + 15)) hC hW fl_X3_22 hk0 rfl dX3_recordVersion_37 ?_
            refine lv_lload_n hx hb dX3_recordVersion_40 rfl (lv_at hl 2 rfl) ?_
            refine lv_l2i hx hb dX3_recordVersion_41 rfl ?_
            refine rl_topn (lN_i _) ?_
            refine lv_iconst (v := (nI (2))) hx hb dX3_recordVersion_42 (by decide) ?_
            refine lv_isub hx hb dX3_recordVersion_43 ?_
            refine rl_topn (rg_sub (c := k) (by omega)) ?_
            refine lv_iconst (v := (nI (3))) hx hb dX3_recordVersion_44 (by decide) ?_
            refine lv_imul hx hb dX3_recordVersion_45 ?_
            refine rl_topn (pk_mul _ _) ?_
            refine lv_iload_n hx hb dX3_recordVersion_46 rfl (lv_at hl 3 rfl) ?_
            refine lv_iadd hx hb dX3_recordVersion_47 ?_
            refine rl_topn (nI_add _ _) ?_
            refine rl_aald_n 8 hC hW rfl hen (by omega) (by decide) dX3_recordVersion_48 ?_
            refine rl_topq ((hge _ hix).trans (by rw [Nat.mul_comm k 3])) ?_
            refine lv_goto (tgt := 53) hx hb dX3_recordVersion_49 (by decide) ?_
            exact rl_aret (v := some (x + 16 + 3 * (3 * k + v))) hC hW hr hlk (Nat.le_refl _) (Nat.le_refl _) ⟨_, rfl, rfl, rfl, rfl, Or.inl ⟨k, v, hk, hv, rfl, rfl, rfl⟩⟩ dX3_recordVersion_53
      · have hq := hp
        refine lv_if_eq (tgt := 28) hx hb dX3_recordVersion_21 (by decide) (fun c9 => ?_) (fun c9 => ?_)
        · refine lv_iconst (v := (nI (0))) hx hb dX3_recordVersion_28 (by decide) ?_
          refine lv_istore (lv' := [(4, .int (nI (0))), (0, .ref (x + 1)), (1, .long (lN (2 + k))), (3, .int (x2))]) hx hb dX3_recordVersion_29 hl (by decide) rfl (fun ls hl => ?_)
          refine lv_iload hx hb dX3_recordVersion_31 (lv_at hl 0 rfl) ?_
          refine lv_if_eq (tgt := 52) hx hb dX3_recordVersion_33 (by decide) (fun c_4 => ?_) (fun c_4 => ?_)
          · refine lv_null hx hb dX3_recordVersion_52 ?_
            exact rl_aret (v := none) hC hW hr hlk (Nat.le_refl _) (Nat.le_refl _) ⟨_, rfl, rfl, rfl, rfl, Or.inr ⟨rfl, fun ⟨_, v', _, q2, _, q4⟩ => hq ⟨v', q2, q4⟩⟩⟩ dX3_recordVersion_53
          · first | exact absurd c_4 (by decide) | exact absurd (by decide) c_4
        · exact absurd rfl c9

set_option maxHeartbeats 4000000 in
set_option maxRecDepth 100000 in
theorem cC_named (l : Launch) (D : va_G) (t : Nat → ClassId) (A : Nat → Prop) (f : rl_M) (z : Nat) (x : Nat) (T : Nat → Nat → Nat) (ρ κ : Nat) (G : pG) (E : Nat → Nat → Nat) (gx : Nat → Int32) (mo : Int32) (hI : CJ t f x T ρ κ G E gx mo) (bb : Nat) (hbb : bb < 6) (y : Int64) : rl_Met l yX2_named (.code yX2_named cX2_named 4 (some (FieldType.object "RecordLeaves$Constant"))) (rl_rm 0 0 0) D t A f z [.ref (x + 3 + 2 * bb), .long (y)] (rl_qq z fun r f1 => f = f1 ∧ ((∃ i, i < T 0 bb ∧ r = some (E 0 (10 * bb + i)) ∧ pu_find (fun i => T 1 (10 * bb + i)) y (T 0 bb) = some i) ∨ (r = none ∧ pu_find (fun i => T 1 (10 * bb + i)) y (T 0 bb) = none))) := by
  refine rl_begin (own := RX2) (lv := [(0, .ref (x + 3 + 2 * bb)), (1, .long (y))]) (by decide +kernel) rfl (Nat.le_of_ble_eq_true rfl) rfl fun p e s m0 args below meth c ls H locs hC hr hlk hnm hW hl hx hb => ?_
  obtain ⟨hev, h10, gc, hca, hcc⟩ := hI.2.1 bb hbb
  refine lv_iconst (v := (nI (0))) hx hb dX2_named_0 (by decide) ?_
  refine lv_istore_n (lv' := [(3, .int (nI (0))), (0, .ref (x + 3 + 2 * bb)), (1, .long (y))]) hx hb dX2_named_1 rfl hl (by decide) rfl (fun ls hl => ?_)
  replace hl : lv_has ls 4 [(0, .ref (x + 3 + 2 * bb)), (1, .long (y)), (3, .int (nI (0)))] := lv_sub hl [1, 2, 0] rfl
  replace hl : ∃ i : Nat, (i ≤ T 0 bb) ∧ (∀ i', i' < i → (nI (T 1 (10 * bb + i'))).toInt64 ≠ y) ∧ lv_has ls 4 [(0, .ref (x + 3 + 2 * bb)), (1, .long (y)), (3, .int (nI (i)))] := ⟨0, Nat.zero_le _, fun _ h => absurd h (Nat.not_lt_zero _), hl⟩
  obtain ⟨i, hi, hpr, hl⟩ := hl
  obtain ⟨n, hn⟩ : ∃ n, T 0 bb - i < n := ⟨_, Nat.lt_succ_self _⟩
  induction n generalizing i ls with
  | zero => exact absurd hn (Nat.not_lt_zero _)
  | succ n ih =>
    refine lv_iload_n hx hb dX2_named_2 rfl (lv_at hl 2 rfl) ?_
    refine lv_aload_n hx hb dX2_named_3 rfl (lv_at hl 0 rfl) ?_
    refine rl_get (v := .int (nI (T 0 bb))) hC hW fl_X2_24 hev rfl dX2_named_4 ?_
    refine lv_icmp_ge (tgt := 38) hx hb dX2_named_7 (by decide) (fun c1 => ?_) (fun c1 => ?_)
    · refine lv_null hx hb dX2_named_38 ?_
      exact rl_aret (v := none) hC hW hr hlk (Nat.le_refl _) (Nat.le_refl _) ⟨_, rfl, rfl, rfl, rfl, Or.inr ⟨rfl, pu_find_n (g := fun i => T 1 (10 * bb + i)) (fun i' h' => hpr i' (by have := rg_le c1 (by omega) (by omega); omega))⟩⟩ dX2_named_39
    · have hlt : i < T 0 bb := rg_lt c1 (by omega) (by omega)
      obtain ⟨hq1, hq2, hq3⟩ := hcc i hlt
      refine lv_aload_n hx hb dX2_named_10 rfl (lv_at hl 0 rfl) ?_
      refine rl_get (v := .ref (x + 4 + 2 * bb)) hC hW fl_X2_20 hev rfl dX2_named_11 ?_
      refine lv_iload_n hx hb dX2_named_14 rfl (lv_at hl 2 rfl) ?_
      refine rl_aald_n 4 hC hW rfl hca (by omega) (by decide) dX2_named_15 ?_
      refine rl_topq (hq1) ?_
      refine rl_get (v := .int (nI (T 1 (10 * bb + i)))) hC hW fl_X2_27 hq3 rfl dX2_named_16 ?_
      refine lv_i2l hx hb dX2_named_19 rfl ?_
      refine lv_lload_n hx hb dX2_named_20 rfl (lv_at hl 1 rfl) ?_
      refine W.lcmp hx hb dX2_named_21 ?_
      refine lv_if_ne (tgt := 32) hx hb dX2_named_22 (by decide) (fun c2 => ?_) (fun c2 => ?_)
      · refine lv_iinc (v := (nI ((i) + 1))) (lv' := [(3, .int (nI ((i) + 1))), (0, .ref (x + 3 + 2 * bb)), (1, .long (y))]) hx hb dX2_named_32 hl (k := 2) rfl (nI_1 _) (by decide) rfl (fun ls hl => ?_)
        refine lv_goto (tgt := 2) hx hb dX2_named_35 (by decide) ?_
        replace hl : lv_has ls 4 [(0, .ref (x + 3 + 2 * bb)), (1, .long (y)), (3, .int (nI ((i) + 1)))] := lv_sub hl [1, 2, 0] rfl
        exact ih ls (i + 1) (by omega) (rg_step hpr (fun q => c2 ((lg_cmp_eq _ _).mpr q))) hl (by omega)
      · refine lv_aload_n hx hb dX2_named_25 rfl (lv_at hl 0 rfl) ?_
        refine rl_get (v := .ref (x + 4 + 2 * bb)) hC hW fl_X2_20 hev rfl dX2_named_26 ?_
        refine lv_iload_n hx hb dX2_named_29 rfl (lv_at hl 2 rfl) ?_
        refine rl_aald_n 4 hC hW rfl hca (by omega) (by decide) dX2_named_30 ?_
        refine rl_topq (hq1) ?_
        exact rl_aret (v := some (E 0 (10 * bb + i))) hC hW hr hlk (Nat.le_refl _) (Nat.le_refl _) ⟨_, rfl, rfl, rfl, rfl, Or.inl ⟨i, hlt, rfl, pu_find_s (g := fun i => T 1 (10 * bb + i)) hpr ((lg_cmp_eq _ _).mp c2) hlt⟩⟩ dX2_named_31

set_option maxHeartbeats 4000000 in
set_option maxRecDepth 100000 in
theorem cC_partNamed (l : Launch) (D : va_G) (t : Nat → ClassId) (A : Nat → Prop) (f : rl_M) (z : Nat) (x : Nat) (T : Nat → Nat → Nat) (ρ κ : Nat) (G : pG) (E : Nat → Nat → Nat) (gx : Nat → Int32) (mo : Int32) (hI : CJ t f x T ρ κ G E gx mo) (j : Nat) (hj : j < 12) (y : Int64) : rl_Met l yX7_partNamed (.code yX7_partNamed cX7_partNamed 4 (some FieldType.int)) (rl_rm 0 0 0) D t A f z [.ref (x + 16 + 3 * j), .long (y)] (rl_qi z fun r f1 => f = f1 ∧ ((∃ i, i < T 2 j ∧ r = nI i ∧ pu_find (fun i => T 3 (5 * j + i)) y (T 2 j) = some i) ∨ (r = -3 ∧ pu_find (fun i => T 3 (5 * j + i)) y (T 2 j) = none))) := by
  refine rl_begin (own := RX7) (lv := [(0, .ref (x + 16 + 3 * j)), (1, .long (y))]) (by decide +kernel) rfl (Nat.le_of_ble_eq_true rfl) rfl fun p e s m0 args below meth c ls H locs hC hr hlk hnm hW hl hx hb => ?_
  obtain ⟨hrv, hj5, hj2, ⟨gp, hpa, hpp⟩, ⟨gk, hka, hkk⟩⟩ := id (hI.2.2.1 j hj)
  refine lv_iconst (v := (nI (0))) hx hb dX7_partNamed_0 (by decide) ?_
  refine lv_istore_n (lv' := [(3, .int (nI (0))), (0, .ref (x + 16 + 3 * j)), (1, .long (y))]) hx hb dX7_partNamed_1 rfl hl (by decide) rfl (fun ls hl => ?_)
  replace hl : lv_has ls 4 [(0, .ref (x + 16 + 3 * j)), (1, .long (y)), (3, .int (nI (0)))] := lv_sub hl [1, 2, 0] rfl
  replace hl : ∃ i : Nat, (i ≤ T 2 j) ∧ (∀ i', i' < i → (nI (T 3 (5 * j + i'))).toInt64 ≠ y) ∧ lv_has ls 4 [(0, .ref (x + 16 + 3 * j)), (1, .long (y)), (3, .int (nI (i)))] := ⟨0, Nat.zero_le _, fun _ h => absurd h (Nat.not_lt_zero _), hl⟩
  obtain ⟨i, hi, hpr, hl⟩ := hl
  obtain ⟨n, hn⟩ : ∃ n, T 2 j - i < n := ⟨_, Nat.lt_succ_self _⟩
  induction n generalizing i ls with
  | zero => exact absurd hn (Nat.not_lt_zero _)
  | succ n ih =>
    refine lv_iload_n hx hb dX7_partNamed_2 rfl (lv_at hl 2 rfl) ?_
    refine lv_aload_n hx hb dX7_partNamed_3 rfl (lv_at hl 0 rfl) ?_
    refine rl_get (v := .int (nI (T 2 j))) hC hW fl_X7_30 hrv rfl dX7_partNamed_4 ?_
    refine lv_icmp_ge (tgt := 33) hx hb dX7_partNamed_7 (by decide) (fun c1 => ?_) (fun c1 => ?_)
    · refine lv_bipush (v := (-3)) hx hb dX7_partNamed_33 (by decide) ?_
      exact rl_iret hC hW hr hlk (Nat.le_refl _) (Nat.le_refl _) ⟨_, rfl, rfl, rfl, rfl, Or.inr ⟨rfl, pu_find_n (g := fun i => T 3 (5 * j + i)) (fun i' h' => hpr i' (by have := rg_le c1 (by omega) (by omega); omega))⟩⟩ dX7_partNamed_35
    · have hlt : i < T 2 j := rg_lt c1 (by omega) (by omega)
      obtain ⟨q, o, hq1, hq2, hq3, hq4⟩ := hpp i hlt
      refine lv_aload_n hx hb dX7_partNamed_10 rfl (lv_at hl 0 rfl) ?_
      refine rl_get (v := .ref (x + 17 + 3 * j)) hC hW fl_X7_20 hrv rfl dX7_partNamed_11 ?_
      refine lv_iload_n hx hb dX7_partNamed_14 rfl (lv_at hl 2 rfl) ?_
      refine rl_aald_n 5 hC hW rfl hpa (by omega) (by decide) dX7_partNamed_15 ?_
      refine rl_topq (hq1) ?_
      refine rl_get (v := .int (nI (T 3 (5 * j + i)))) hC hW fl_X7_33 hq3 rfl dX7_partNamed_16 ?_
      refine lv_i2l hx hb dX7_partNamed_19 rfl ?_
      refine lv_lload_n hx hb dX7_partNamed_20 rfl (lv_at hl 1 rfl) ?_
      refine W.lcmp hx hb dX7_partNamed_21 ?_
      refine lv_if_ne (tgt := 27) hx hb dX7_partNamed_22 (by decide) (fun c2 => ?_) (fun c2 => ?_)
      · refine lv_iinc (v := (nI ((i) + 1))) (lv' := [(3, .int (nI ((i) + 1))), (0, .ref (x + 16 + 3 * j)), (1, .long (y))]) hx hb dX7_partNamed_27 hl (k := 2) rfl (nI_1 _) (by decide) rfl (fun ls hl => ?_)
        refine lv_goto (tgt := 2) hx hb dX7_partNamed_30 (by decide) ?_
        replace hl : lv_has ls 4 [(0, .ref (x + 16 + 3 * j)), (1, .long (y)), (3, .int (nI ((i) + 1)))] := lv_sub hl [1, 2, 0] rfl
        exact ih ls (i + 1) (by omega) (rg_step hpr (fun q => c2 ((lg_cmp_eq _ _).mpr q))) hl (by omega)
      · refine lv_iload_n hx hb dX7_partNamed_25 rfl (lv_at hl 2 rfl) ?_
        exact rl_iret hC hW hr hlk (Nat.le_refl _) (Nat.le_refl _) ⟨_, rfl, rfl, rfl, rfl, Or.inl ⟨i, hlt, rfl, pu_find_s (g := fun i => T 3 (5 * j + i)) hpr ((lg_cmp_eq _ _).mp c2) hlt⟩⟩ dX7_partNamed_26

set_option maxHeartbeats 4000000 in
set_option maxRecDepth 100000 in
theorem cC_hasPart (l : Launch) (D : va_G) (t : Nat → ClassId) (A : Nat → Prop) (f : rl_M) (z : Nat) (x : Nat) (T : Nat → Nat → Nat) (ρ κ : Nat) (G : pG) (E : Nat → Nat → Nat) (gx : Nat → Int32) (mo : Int32) (hI : CJ t f x T ρ κ G E gx mo) (j : Nat) (hj : j < 12) (hT4 : ∀ q, q < T 2 j → T 4 (5 * j + q) < 2 ^ 31) (y : Int32) (s0 : Nat) (hs0 : s0 < 5) : rl_Met l yX7_hasPart (.code yX7_hasPart cX7_hasPart 3 (some FieldType.boolean)) (rl_rm 1 0 0) D t A f z [.ref (x + 16 + 3 * j), .int (y), .int (nI (s0))] (rl_qi z fun r f1 => f = f1 ∧ ((r = 1 ∧ ∃ q, q < T 2 j ∧ y = nI q ∧ T 4 (5 * j + q) = s0) ∨ (r = 0 ∧ ¬ ∃ q, q < T 2 j ∧ y = nI q ∧ T 4 (5 * j + q) = s0))) := by
  refine rl_begin (own := RX7) (lv := [(0, .ref (x + 16 + 3 * j)), (1, .int (y)), (2, .int (nI (s0)))]) (by decide +kernel) rfl (Nat.le_of_ble_eq_true rfl) rfl fun p e s m0 args below meth c ls H locs hC hr hlk hnm hW hl hx hb => ?_
  obtain ⟨hrv, hj5, hj2, ⟨gp, hpa, hpp⟩, ⟨gk, hka, hkk⟩⟩ := id (hI.2.2.1 j hj)
  refine lv_iload_n hx hb dX7_hasPart_0 rfl (lv_at hl 1 rfl) ?_
  refine lv_aload_n hx hb dX7_hasPart_1 rfl (lv_at hl 0 rfl) ?_
  refine rl_get (v := .int (nI (T 2 j))) hC hW fl_X7_30 hrv rfl dX7_hasPart_2 ?_
  refine rl_calliQ (rl_runS (As := [.int (y), .int (nI (T 2 j))]) (rest := []) hC hW (cC_below l D t A _ z _ (T 2 j) (by omega)) cs_X7_36 sm_X11_below ⟨(Nat.le_of_ble_eq_true rfl), (Nat.le_of_ble_eq_true rfl)⟩ rfl hl.1 rfl (Nat.le_of_ble_eq_true rfl) dX7_hasPart_5 ⟨(Nat.le_of_ble_eq_true rfl), (Nat.le_of_ble_eq_true rfl)⟩) hW (fun r f1 H locs hp hW => ?_)
  obtain ⟨rfl, hp⟩ := hp
  rcases hp with ⟨rfl, hp⟩ | ⟨rfl, hp⟩
  · obtain ⟨q, hq, rfl⟩ := hp
    refine lv_if_eq (tgt := 28) hx hb dX7_hasPart_8 (by decide) (fun c9 => ?_) (fun c9 => ?_)
    · exact absurd c9 (by decide)
    · obtain ⟨q9, o, hq1, hq2, hq3, hq4⟩ := hpp q hq
      refine lv_aload_n hx hb dX7_hasPart_11 rfl (lv_at hl 0 rfl) ?_
      refine rl_get (v := .ref (x + 17 + 3 * j)) hC hW fl_X7_20 hrv rfl dX7_hasPart_12 ?_
      refine lv_iload_n hx hb dX7_hasPart_15 rfl (lv_at hl 1 rfl) ?_
      refine rl_aald_n 5 hC hW rfl hpa (by omega) (by decide) dX7_hasPart_16 ?_
      refine rl_topq (hq1) ?_
      refine rl_get (v := .int (nI (T 4 (5 * j + q)))) hC hW fl_X7_40 hq3 rfl dX7_hasPart_17 ?_
      refine lv_iload_n hx hb dX7_hasPart_20 rfl (lv_at hl 2 rfl) ?_
      refine lv_icmp_ne (tgt := 28) hx hb dX7_hasPart_21 (by decide) (fun c2 => ?_) (fun c2 => ?_)
      · refine lv_iconst (v := (nI (0))) hx hb dX7_hasPart_28 (by decide) ?_
        exact rl_zret hC hW hr hlk rfl (Nat.le_refl _) (Nat.le_refl _) ⟨_, rfl, rfl, rfl, rfl, Or.inr ⟨by decide, fun ⟨q2, h1, h2, h3⟩ => c2 (by rw [← h3, (nI_eq (by omega) (by omega)).mp h2])⟩⟩ dX7_hasPart_29
      · refine lv_iconst (v := (nI (1))) hx hb dX7_hasPart_24 (by decide) ?_
        refine lv_goto (tgt := 29) hx hb dX7_hasPart_25 (by decide) ?_
        exact rl_zret hC hW hr hlk rfl (Nat.le_refl _) (Nat.le_refl _) ⟨_, rfl, rfl, rfl, rfl, Or.inl ⟨by decide, q, hq, rfl, (nI_eq (hT4 q hq) (by omega)).mp c2⟩⟩ dX7_hasPart_29
  · have hqn := hp
    refine lv_if_eq (tgt := 28) hx hb dX7_hasPart_8 (by decide) (fun c9 => ?_) (fun c9 => ?_)
    · refine lv_iconst (v := (nI (0))) hx hb dX7_hasPart_28 (by decide) ?_
      exact rl_zret hC hW hr hlk rfl (Nat.le_refl _) (Nat.le_refl _) ⟨_, rfl, rfl, rfl, rfl, Or.inr ⟨by decide, fun ⟨q2, h1, h2, _⟩ => hqn ⟨q2, h1, h2⟩⟩⟩ dX7_hasPart_29
    · exact absurd rfl c9
