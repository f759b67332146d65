
theorem rg_ix {x : Int32} {n : Nat} {a b : Int64} (ha : a.toInt = 0) (hb : b.toInt = n) (hn : n < 2 ^ 31) : (a ≤ x.toInt64 ∧ x.toInt64 ≤ b) ↔ ∃ j : Nat, j < n + 1 ∧ x = nI j := by
  rw [Int64.le_iff_toInt_le, Int64.le_iff_toInt_le, Int32.toInt_toInt64, ha, hb]
  constructor
  · rintro ⟨h1, h2⟩
    refine ⟨x.toInt.toNat, by omega, ?_⟩
    apply Int32.toInt_inj.mp
    rw [nI_toInt (by omega)]
    omega
  · rintro ⟨j, hj, rfl⟩
    rw [nI_toInt (by omega)]
    omega
theorem rg_lt {a b : Nat} (h : ¬ nI a ≤ nI b) (ha : a < 2 ^ 31) (hb : b < 2 ^ 31) : b < a := Nat.lt_of_not_le fun q => h ((nI_leI ha hb).mpr q)
theorem rg_le {a b : Nat} (h : nI a ≤ nI b) (ha : a < 2 ^ 31) (hb : b < 2 ^ 31) : a ≤ b := (nI_leI ha hb).mp h
theorem rg_step {P : Nat → Prop} {i : Nat} (h : ∀ k, k < i → P k) (hi : P i) : ∀ k, k < i + 1 → P k := fun k hk => by
  rcases Nat.lt_succ_iff_lt_or_eq.mp hk with q | rfl
  · exact h k q
  · exact hi
theorem rg_no {x : Int32} {n : Nat} (h : ¬ ∃ j : Nat, j < n ∧ x = nI j) : ∀ j : Nat, j < n → x ≠ nI j := fun j hj e => h ⟨j, hj, e⟩

set_option maxHeartbeats 4000000 in
set_option maxRecDepth 100000 in
theorem cR_in (l : Launch) (D : va_G) (t : Nat → ClassId) (A : Nat → Prop) (f : rl_M) (z : Nat) (v a b : Int64) : rl_Met l yX12_in (.code yX12_in cX12_in 6 (some FieldType.boolean)) (rl_rm 0 0 0) D t A f z [.long (v), .long (a), .long (b)] (rl_qi z fun r f1 => f = f1 ∧ ((r = 1 ∧ (a ≤ v ∧ v ≤ b)) ∨ (r = 0 ∧ ¬ (a ≤ v ∧ v ≤ b)))) := by
  refine rl_begin (own := RX12) (lv := [(0, .long (v)), (2, .long (a)), (4, .long (b))]) (by decide +kernel) rfl (Nat.le_of_ble_eq_true rfl) rfl fun p e s m0 args below meth c ls H locs hC hr hlk hnm hW hl hx hb => ?_
  refine lv_lload_n hx hb dX12_in_0 rfl (lv_at hl 0 rfl) ?_
  refine lv_lload_n hx hb dX12_in_1 rfl (lv_at hl 1 rfl) ?_
  refine W.lcmp hx hb dX12_in_2 ?_
  refine lv_if_lt (tgt := 17) hx hb dX12_in_3 (by decide) (fun c1 => ?_) (fun c1 => ?_)
  · refine lv_iconst (v := (nI (0))) hx hb dX12_in_17 (by decide) ?_
    exact rl_zret hC hW hr hlk rfl (Nat.le_refl _) (Nat.le_refl _) ⟨_, rfl, rfl, rfl, rfl, Or.inr ⟨by decide, fun q => absurd ((lg_cmp_lt _ _).mp c1) (Int64.not_lt.mpr q.1)⟩⟩ dX12_in_18
  · refine lv_lload_n hx hb dX12_in_6 rfl (lv_at hl 0 rfl) ?_
    refine lv_lload hx hb dX12_in_7 (lv_at hl 2 rfl) ?_
    refine W.lcmp hx hb dX12_in_9 ?_
    refine lv_if_gt (tgt := 17) hx hb dX12_in_10 (by decide) (fun c2 => ?_) (fun c2 => ?_)
    · refine lv_iconst (v := (nI (0))) hx hb dX12_in_17 (by decide) ?_
      exact rl_zret hC hW hr hlk rfl (Nat.le_refl _) (Nat.le_refl _) ⟨_, rfl, rfl, rfl, rfl, Or.inr ⟨by decide, fun q => absurd ((lg_cmp_gt _ _).mp c2) (Int64.not_lt.mpr q.2)⟩⟩ dX12_in_18
    · refine lv_iconst (v := (nI (1))) hx hb dX12_in_13 (by decide) ?_
      refine lv_goto (tgt := 18) hx hb dX12_in_14 (by decide) ?_
      exact rl_zret hC hW hr hlk rfl (Nat.le_refl _) (Nat.le_refl _) ⟨_, rfl, rfl, rfl, rfl, Or.inl ⟨by decide, Int64.not_lt.mp (fun q => c1 ((lg_cmp_lt _ _).mpr q)), Int64.not_lt.mp (fun q => c2 ((lg_cmp_gt _ _).mpr q))⟩⟩ dX12_in_18

set_option maxHeartbeats 4000000 in
set_option maxRecDepth 100000 in
theorem cR_isPlace (l : Launch) (D : va_G) (t : Nat → ClassId) (A : Nat → Prop) (f : rl_M) (z : Nat) (x : Int32) : rl_Met l yX12_isPlace (.code yX12_isPlace cX12_isPlace 1 (some FieldType.boolean)) (rl_rm 1 0 0) D t A f z [.int (x)] (rl_qi z fun r f1 => f = f1 ∧ ((r = 1 ∧ ∃ j : Nat, j < 10 ∧ x = nI j) ∨ (r = 0 ∧ ¬ ∃ j : Nat, j < 10 ∧ x = nI j))) := by
  refine rl_begin (own := RX12) (lv := [(0, .int (x))]) (by decide +kernel) rfl (Nat.le_of_ble_eq_true rfl) rfl fun p e s m0 args below meth c ls H locs hC hr hlk hnm hW hl hx hb => ?_
  refine lv_iload_n hx hb dX12_isPlace_0 rfl (lv_at hl 0 rfl) ?_
  refine lv_i2l hx hb dX12_isPlace_1 rfl ?_
  refine lv_lconst (v := 0) hx hb dX12_isPlace_2 (by decide) ?_
  refine lv_ldc2 (v := 9) hx hb hC.2.2.2.1 (hC.2.2.2.2.1 _ (List.mem_cons_of_mem _ mw_809)) dX12_isPlace_3 ?_
  refine rl_calliQ (rl_runS (As := [.long ((x).toInt64), .long (0), .long (9)]) (rest := []) hC hW (cR_in l D t A f z _ _ _) cs_X12_117 sm_X12_in ⟨(Nat.le_of_ble_eq_true rfl), (Nat.le_of_ble_eq_true rfl)⟩ rfl hl.1 rfl (Nat.le_of_ble_eq_true rfl) dX12_isPlace_6 ⟨(Nat.le_of_ble_eq_true rfl), (Nat.le_of_ble_eq_true rfl)⟩) hW (fun r f1 H locs hp hW => ?_)
  obtain ⟨rfl, hp⟩ := hp
  rcases hp with ⟨rfl, hp⟩ | ⟨rfl, hp⟩
  · exact rl_zret hC hW hr hlk rfl (Nat.le_refl _) (Nat.le_refl _) ⟨_, rfl, rfl, rfl, rfl, Or.inl ⟨rfl, (rg_ix (n := 9) (by decide) (by decide) (by decide)).mp hp⟩⟩ dX12_isPlace_9
  · exact rl_zret hC hW hr hlk rfl (Nat.le_refl _) (Nat.le_refl _) ⟨_, rfl, rfl, rfl, rfl, Or.inr ⟨rfl, fun q => hp ((rg_ix (n := 9) (by decide) (by decide) (by decide)).mpr q)⟩⟩ dX12_isPlace_9

set_option maxHeartbeats 4000000 in
set_option maxRecDepth 100000 in
theorem cR_isVersion (l : Launch) (D : va_G) (t : Nat → ClassId) (A : Nat → Prop) (f : rl_M) (z : Nat) (x : Int32) : rl_Met l yX12_isVersion (.code yX12_isVersion cX12_isVersion 1 (some FieldType.boolean)) (rl_rm 1 0 0) D t A f z [.int (x)] (rl_qi z fun r f1 => f = f1 ∧ ((r = 1 ∧ ∃ j : Nat, j < 3 ∧ x = nI j) ∨ (r = 0 ∧ ¬ ∃ j : Nat, j < 3 ∧ x = nI j))) := by
  refine rl_begin (own := RX12) (lv := [(0, .int (x))]) (by decide +kernel) rfl (Nat.le_of_ble_eq_true rfl) rfl fun p e s m0 args below meth c ls H locs hC hr hlk hnm hW hl hx hb => ?_
  refine lv_iload_n hx hb dX12_isVersion_0 rfl (lv_at hl 0 rfl) ?_
  refine lv_i2l hx hb dX12_isVersion_1 rfl ?_
  refine lv_lconst (v := 0) hx hb dX12_isVersion_2 (by decide) ?_
  refine lv_ldc2 (v := 2) hx hb hC.2.2.2.1 (hC.2.2.2.2.1 _ (List.mem_cons_of_mem _ mw_808)) dX12_isVersion_3 ?_
  refine rl_calliQ (rl_runS (As := [.long ((x).toInt64), .long (0), .long (2)]) (rest := []) hC hW (cR_in l D t A f z _ _ _) cs_X12_117 sm_X12_in ⟨(Nat.le_of_ble_eq_true rfl), (Nat.le_of_ble_eq_true rfl)⟩ rfl hl.1 rfl (Nat.le_of_ble_eq_true rfl) dX12_isVersion_6 ⟨(Nat.le_of_ble_eq_true rfl), (Nat.le_of_ble_eq_true rfl)⟩) hW (fun r f1 H locs hp hW => ?_)
  obtain ⟨rfl, hp⟩ := hp
  rcases hp with ⟨rfl, hp⟩ | ⟨rfl, hp⟩
  · exact rl_zret hC hW hr hlk rfl (Nat.le_refl _) (Nat.le_refl _) ⟨_, rfl, rfl, rfl, rfl, Or.inl ⟨rfl, (rg_ix (n := 2) (by decide) (by decide) (by decide)).mp hp⟩⟩ dX12_isVersion_9
  · exact rl_zret hC hW hr hlk rfl (Nat.le_refl _) (Nat.le_refl _) ⟨_, rfl, rfl, rfl, rfl, Or.inr ⟨rfl, fun q => hp ((rg_ix (n := 2) (by decide) (by decide) (by decide)).mpr q)⟩⟩ dX12_isVersion_9

set_option maxHeartbeats 4000000 in
set_option maxRecDepth 100000 in
theorem cR_isRecordKind (l : Launch) (D : va_G) (t : Nat → ClassId) (A : Nat → Prop) (f : rl_M) (z : Nat) (x : Int64) : rl_Met l yX12_isRecordKind (.code yX12_isRecordKind cX12_isRecordKind 2 (some FieldType.boolean)) (rl_rm 1 0 0) D t A f z [.long (x)] (rl_qi z fun r f1 => f = f1 ∧ ((r = 1 ∧ (2 ≤ x ∧ x ≤ 5)) ∨ (r = 0 ∧ ¬ (2 ≤ x ∧ x ≤ 5)))) := by
  refine rl_begin (own := RX12) (lv := [(0, .long (x))]) (by decide +kernel) rfl (Nat.le_of_ble_eq_true rfl) rfl fun p e s m0 args below meth c ls H locs hC hr hlk hnm hW hl hx hb => ?_
  refine lv_lload_n hx hb dX12_isRecordKind_0 rfl (lv_at hl 0 rfl) ?_
  refine lv_ldc2 (v := 2) hx hb hC.2.2.2.1 (hC.2.2.2.2.1 _ (List.mem_cons_of_mem _ mw_808)) dX12_isRecordKind_1 ?_
  refine lv_ldc2 (v := 5) hx hb hC.2.2.2.1 (hC.2.2.2.2.1 _ (List.mem_cons_of_mem _ mw_821)) dX12_isRecordKind_4 ?_
  refine rl_calliQ (rl_runS (As := [.long (x), .long (2), .long (5)]) (rest := []) hC hW (cR_in l D t A f z _ _ _) cs_X12_117 sm_X12_in ⟨(Nat.le_of_ble_eq_true rfl), (Nat.le_of_ble_eq_true rfl)⟩ rfl hl.1 rfl (Nat.le_of_ble_eq_true rfl) dX12_isRecordKind_7 ⟨(Nat.le_of_ble_eq_true rfl), (Nat.le_of_ble_eq_true rfl)⟩) hW (fun r f1 H locs hp hW => ?_)
  obtain ⟨rfl, hp⟩ := hp
  rcases hp with ⟨rfl, hp⟩ | ⟨rfl, hp⟩
  · exact rl_zret hC hW hr hlk rfl (Nat.le_refl _) (Nat.le_refl _) ⟨_, rfl, rfl, rfl, rfl, Or.inl ⟨rfl, hp⟩⟩ dX12_isRecordKind_10
  · exact rl_zret hC hW hr hlk rfl (Nat.le_refl _) (Nat.le_refl _) ⟨_, rfl, rfl, rfl, rfl, Or.inr ⟨rfl, hp⟩⟩ dX12_isRecordKind_10
