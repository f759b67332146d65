
theorem rg_pig : ∀ (N c : Nat) (g : Nat → Nat), (∀ i, i < c → g i < N) → (∀ i j, i < c → j < c → g i = g j → i = j) → c ≤ N
  | 0, c, g, h1, _ => by
    rcases Nat.eq_zero_or_pos c with h | h
    · omega
    · exact absurd (h1 0 h) (Nat.not_lt_zero _)
  | N + 1, c, g, h1, h2 => by
    by_cases hx : ∃ i, i < c ∧ g i = N
    · obtain ⟨i0, hi0, hg⟩ := hx
      have := rg_pig N (c - 1) (fun i => if i < i0 then g i else g (i + 1)) (fun i hi => by
        try dsimp only
        split
        · have a := h1 i (by omega)
          have b : g i ≠ N := fun q => by have := h2 i i0 (by omega) hi0 (by omega); omega
          omega
        · have a := h1 (i + 1) (by omega)
          have b : g (i + 1) ≠ N := fun q => by have := h2 (i + 1) i0 (by omega) hi0 (by omega); omega
          omega) (fun i j hi hj h => by
        try dsimp only at h
        split at h <;> split at h
        · exact h2 i j (by omega) (by omega) h
        · have := h2 i (j + 1) (by omega) (by omega) h; omega
        · have := h2 (i + 1) j (by omega) (by omega) h; omega
        · have := h2 (i + 1) (j + 1) (by omega) (by omega) h; omega)
      omega
    · have := rg_pig N c g (fun i hi => by
        have a := h1 i hi
        have b : g i ≠ N := fun q => hx ⟨i, hi, q⟩
        omega) h2
      omega
theorem rg_pig1 {c n : Nat} {g : Nat → Nat} (h1 : ∀ i, i < c → g i < 10) (h2 : ∀ i j, i < c → j < c → g i = g j → i = j) (hn : n < 10) (h3 : ∀ i, i < c → g i ≠ n) : c < 10 := by
  have := rg_pig 10 (c + 1) (fun i => if i < c then g i else n) (fun i hi => by
    try dsimp only
    split
    · exact h1 i (by assumption)
    · exact hn) (fun i j hi hj h => by
    try dsimp only at h
    split at h <;> split at h
    · exact h2 i j (by assumption) (by assumption) h
    · exact absurd h (h3 i (by assumption))
    · exact absurd h.symm (h3 j (by assumption))
    · omega)
  omega
theorem rg_l {a b : Nat} (ha : a < 2 ^ 31) (hb : b < 2 ^ 31) : (nI a).toInt64 = (nI b).toInt64 ↔ a = b := by
  rw [nI_l ha, nI_l hb, lN_eq ha hb]
theorem rg_rk {x : Int32} : (2 ≤ x.toInt64 ∧ x.toInt64 ≤ 5) ↔ ∃ k : Nat, k < 4 ∧ x = nI (2 + k) := by
  rw [Int64.le_iff_toInt_le, Int64.le_iff_toInt_le, Int32.toInt_toInt64, show (2 : Int64).toInt = 2 by decide, show (5 : Int64).toInt = 5 by decide]
  constructor
  · rintro ⟨h1, h2⟩
    refine ⟨x.toInt.toNat - 2, by omega, ?_⟩
    apply Int32.toInt_inj.mp
    rw [nI_toInt (by omega)]
    omega
  · rintro ⟨j, hj, rfl⟩
    rw [nI_toInt (by omega)]
    omega
def rt_addc (T : Nat → Nat → Nat) (b n lo : Nat) : Nat → Nat → Nat := va_up (va_up (va_up T 0 (va_up (T 0) b (T 0 b + 1))) 1 (va_up (T 1) (10 * b + T 0 b) n)) 9 (va_up (T 9) (10 * b + T 0 b) lo)
def rt_okc (T : Nat → Nat → Nat) (x1 x2 x3 : Int32) (k v n : Nat) : Prop := k < 2 ∧ v < 3 ∧ n < 10 ∧ x1 = nI k ∧ x2 = nI v ∧ x3 = nI n ∧ ∀ i, i < T 0 (3 * k + v) → T 1 (10 * (3 * k + v) + i) ≠ n
def rt_con (T : Nat → Nat → Nat) (x1 x2 x3 : Int32) (lo : Nat) (r : Int32) (T' : Nat → Nat → Nat) : Prop := (∃ k v n, rt_okc T x1 x2 x3 k v n ∧ r = nI (T 0 (3 * k + v)) ∧ T' = rt_addc T (3 * k + v) n lo) ∨ (r = -1 ∧ T' = T ∧ ¬ ∃ k v n, rt_okc T x1 x2 x3 k v n)
theorem RTc.lt {T : Nat → Nat → Nat} {a0 a1 a2 : Nat → Int32} (h : RTc T a0 a1 a2) {b n : Nat} (hb : b < 6) (hn : n < 10) (hf : ∀ i, i < T 0 b → T 1 (10 * b + i) ≠ n) : T 0 b < 10 :=
  rg_pig1 (g := fun i => T 1 (10 * b + i)) (fun i hi => (h.2.1 b i hb hi).2) (fun i j hi hj e => h.2.2.1 b i j hb hi hj e) hn hf
theorem pu_nar {lo : Nat} (h : lo < 2) : vp_nar .boolean (nI lo) = nI lo := by
  have : lo = 0 ∨ lo = 1 := by omega
  rcases this with rfl | rfl <;> decide
theorem RTc.eq {T : Nat → Nat → Nat} {a0 a1 a2 a3 : Nat → Int32} (h : RTc T a0 a1 a2) (e : a3 = a2) : RTc T a0 a1 a3 := by rw [e]; exact h
theorem RTc.add {T : Nat → Nat → Nat} {a0 a1 a2 : Nat → Int32} (h : RTc T a0 a1 a2) {b n lo : Nat} (hb : b < 6) (hn : n < 10) (hlo : lo < 2) (hf : ∀ i, i < T 0 b → T 1 (10 * b + i) ≠ n) : RTc (rt_addc T b n lo) (upd a0 b (nI (T 0 b + 1))) (upd a1 (10 * b + T 0 b) (nI n)) (upd a2 (10 * b + T 0 b) (nI lo)) := by
  have hc := h.lt hb hn hf
  have e0 : ∀ x, rt_addc T b n lo 0 x = if x = b then T 0 b + 1 else T 0 x := fun x => by simp [rt_addc, va_up]
  have e1 : ∀ x, rt_addc T b n lo 1 x = if x = 10 * b + T 0 b then n else T 1 x := fun x => by simp [rt_addc, va_up]
  have e9 : ∀ x, rt_addc T b n lo 9 x = if x = 10 * b + T 0 b then lo else T 9 x := fun x => by simp [rt_addc, va_up]
  refine ⟨fun x hx => ?_, fun x i hx hi => ?_, fun x i i' hx hi hi' e => ?_, fun x hx => ?_⟩
  · rw [e0]
    unfold upd
    split
    · exact ⟨rfl, by omega⟩
    · exact h.1 x hx
  · rw [e0] at hi
    rw [e1]
    unfold upd
    split at hi
    · rename_i hxb
      subst hxb
      split
      · exact ⟨rfl, hn⟩
      · exact h.2.1 x i hx (by omega)
    · have := (h.1 x hx).2
      rw [if_neg (by omega), if_neg (by omega)]
      exact h.2.1 x i hx hi
  · rw [e0] at hi hi'
    rw [e1, e1] at e
    split at hi
    · rename_i hxb
      subst hxb
      rw [if_pos rfl] at hi'
      split at e <;> split at e
      · omega
      · exact absurd e.symm (hf i' (by omega))
      · exact absurd e (hf i (by omega))
      · exact h.2.2.1 x i i' hx (by omega) (by omega) e
    · rw [if_neg (by assumption)] at hi'
      have := (h.1 x hx).2
      rw [if_neg (by omega), if_neg (by omega)] at e
      exact h.2.2.1 x i i' hx hi hi' e
  · rw [e1, e9]
    unfold upd
    split
    · exact ⟨rfl, rfl, hlo, hn⟩
    · exact h.2.2.2 x hx

set_option maxHeartbeats 4000000 in
set_option maxRecDepth 100000 in
theorem cR_constant (l : Launch) (D : va_G) (t : Nat → ClassId) (A : Nat → Prop) (f : rl_M) (z : Nat) (m : Nat) (T : Nat → Nat → Nat) (ρ κ : Nat) (G : pG) (hS : RS t f m T ρ κ G) (x1 x2 x3 : Int32) (lo : Nat) (hlo : lo < 2) : rl_Met l yX12_constant (.code yX12_constant cX12_constant 7 (some FieldType.int)) (rl_rm 2 0 0) D t A f z [.ref (m), .int (x1), .int (x2), .int (x3), .int (nI (lo))] (rl_qi z fun r f1 => ∃ T', rt_con T x1 x2 x3 lo r T' ∧ RS t f1 m T' ρ κ G) := by
  obtain ⟨I, L, F, hR, hTc, hTp, hTk, hGW, hGr, hGd, hGp, hGt, hGc, hF11, hF14⟩ := hS
  refine rl_begin (own := RX12) (lv := [(0, .ref (m)), (1, .int (x1)), (2, .int (x2)), (3, .int (x3)), (4, .int (nI (lo)))]) (by decide +kernel) rfl (Nat.le_of_ble_eq_true rfl) rfl fun p e s m0 args below meth c ls H locs hC hr hlk hnm hW hl hx hb => ?_
  refine lv_iload_n hx hb dX12_constant_0 rfl (lv_at hl 1 rfl) ?_
  refine lv_i2l hx hb dX12_constant_1 rfl ?_
  refine lv_lconst (v := 0) hx hb dX12_constant_2 (by decide) ?_
  refine lv_lconst (v := 1) hx hb dX12_constant_3 (by decide) ?_
  refine rl_calliQ (rl_runS (As := [.long ((x1).toInt64), .long (0), .long (1)]) (rest := []) hC hW (cR_in l D t A _ z _ _ _) cs_X12_117 sm_X12_in ⟨(Nat.le_of_ble_eq_true rfl), (Nat.le_of_ble_eq_true rfl)⟩ rfl hl.1 rfl (Nat.le_of_ble_eq_true rfl) dX12_constant_4 ⟨(Nat.le_of_ble_eq_true rfl), (Nat.le_of_ble_eq_true rfl)⟩) hW (fun r f1 H locs hp hW => ?_)
  obtain ⟨rfl, hp⟩ := hp
  rw [rg_ix (n := 1) (by decide) (by decide) (by decide)] at hp
  rcases hp with ⟨rfl, hp⟩ | ⟨rfl, hp⟩
  · obtain ⟨k, hk, rfl⟩ := hp
    refine lv_if_eq (tgt := 40) hx hb dX12_constant_7 (by decide) (fun c9 => ?_) (fun c9 => ?_)
    · exact absurd c9 (by decide)
    · refine lv_iload_n hx hb dX12_constant_10 rfl (lv_at hl 2 rfl) ?_
      refine rl_calliQ (rl_runS (As := [.int (x2)]) (rest := []) hC hW (cR_isVersion l D t A _ z _) cs_X12_125 sm_X12_isVersion ⟨(Nat.le_of_ble_eq_true rfl), (Nat.le_of_ble_eq_true rfl)⟩ rfl hl.1 rfl (Nat.le_of_ble_eq_true rfl) dX12_constant_11 ⟨(Nat.le_of_ble_eq_true rfl), (Nat.le_of_ble_eq_true rfl)⟩) hW (fun r f1 H locs hp hW => ?_)
      obtain ⟨rfl, hp⟩ := hp
      rcases hp with ⟨rfl, hp⟩ | ⟨rfl, hp⟩
      · obtain ⟨v, hv, rfl⟩ := hp
        refine lv_if_eq (tgt := 40) hx hb dX12_constant_14 (by decide) (fun c9 => ?_) (fun c9 => ?_)
        · exact absurd c9 (by decide)
        · refine lv_iload_n hx hb dX12_constant_17 rfl (lv_at hl 3 rfl) ?_
          refine lv_i2l hx hb dX12_constant_18 rfl ?_
          refine lv_lconst (v := 0) hx hb dX12_constant_19 (by decide) ?_
          refine lv_ldc2 (v := 9) hx hb hC.2.2.2.1 (hC.2.2.2.2.1 _ (List.mem_cons_of_mem _ mw_809)) dX12_constant_20 ?_
          refine rl_calliQ (rl_runS (As := [.long ((x3).toInt64), .long (0), .long (9)]) (rest := []) hC hW (cR_in l D t A _ z _ _ _) cs_X12_117 sm_X12_in ⟨(Nat.le_of_ble_eq_true rfl), (Nat.le_of_ble_eq_true rfl)⟩ rfl hl.1 rfl (Nat.le_of_ble_eq_true rfl) dX12_constant_23 ⟨(Nat.le_of_ble_eq_true rfl), (Nat.le_of_ble_eq_true rfl)⟩) hW (fun r f1 H locs hp hW => ?_)
          obtain ⟨rfl, hp⟩ := hp
          rw [rg_ix (n := 9) (by decide) (by decide) (by decide)] at hp
          rcases hp with ⟨rfl, hp⟩ | ⟨rfl, hp⟩
          · obtain ⟨n, hn, rfl⟩ := hp
            refine lv_if_eq (tgt := 40) hx hb dX12_constant_26 (by decide) (fun c9 => ?_) (fun c9 => ?_)
            · exact absurd c9 (by decide)
            · refine lv_aload_n hx hb dX12_constant_29 rfl (lv_at hl 0 rfl) ?_
              refine lv_iload_n hx hb dX12_constant_30 rfl (lv_at hl 1 rfl) ?_
              refine lv_iload_n hx hb dX12_constant_31 rfl (lv_at hl 2 rfl) ?_
              refine lv_iload_n hx hb dX12_constant_32 rfl (lv_at hl 3 rfl) ?_
              refine lv_i2l hx hb dX12_constant_33 rfl ?_
              refine rl_calliQ (rl_runV (b := m) (As := [.int (nI (k)), .int (nI (v)), .long ((nI (n)).toInt64)]) (rest := []) hC hW (cR_constantBy l D t A _ z m I L F hR T hTc k v hk hv _) cs_X12_129 im_X12_constantBy sl_X12_constantBy hR.1 rfl ⟨(Nat.le_of_ble_eq_true rfl), (Nat.le_of_ble_eq_true rfl)⟩ rfl hl.1 rfl (Nat.le_of_ble_eq_true rfl) dX12_constant_34 ⟨(Nat.le_of_ble_eq_true rfl), (Nat.le_of_ble_eq_true rfl)⟩) hW (fun r f1 H locs hp hW => ?_)
              obtain ⟨rfl, hp⟩ := hp
              rcases hp with ⟨i, hi, rfl, he, -⟩ | ⟨rfl, hp⟩
              · have hno : ¬ ∃ k' v' n', rt_okc T (nI k) (nI v) (nI n) k' v' n' := fun ⟨k', v', n', q1, q2, q3, q4, q5, q6, q7⟩ => by
                  have e1 := (nI_eq (by omega) (by omega)).mp q4
                  have e2 := (nI_eq (by omega) (by omega)).mp q5
                  have e3 := (nI_eq (by omega) (by omega)).mp q6
                  subst e1; subst e2; subst e3
                  exact q7 i hi ((rg_l (by have := (hTc.2.1 _ i (by omega : 3 * k + v < 6) hi).2; omega) (by omega)).mp he)
                refine lv_if_lt (tgt := 42) hx hb dX12_constant_37 (by decide) (fun c9 => ?_) (fun c9 => ?_)
                · exact absurd c9 (nI_pos (by have := (hTc.1 (3 * k + v) (by omega)).2; omega))
                · refine lv_iconst (v := (-1)) hx hb dX12_constant_40 (by decide) ?_
                  exact rl_iret hC hW hr hlk (Nat.le_refl _) (Nat.le_refl _) ⟨_, rfl, rfl, rfl, T, Or.inr ⟨by decide, rfl, hno⟩, ⟨_, _, _, hR, hTc, hTp, hTk, hGW, hGr, hGd, hGp, hGt, hGc, hF11, hF14⟩⟩ dX12_constant_41
              · refine lv_if_lt (tgt := 42) hx hb dX12_constant_37 (by decide) (fun c9 => ?_) (fun c9 => ?_)
                · have hb6 : 3 * k + v < 6 := by omega
                  have hfr : ∀ i, i < T 0 (3 * k + v) → T 1 (10 * (3 * k + v) + i) ≠ n := fun i hi q => hp i hi (by rw [q])
                  have hc10 := hTc.lt hb6 hn hfr
                  have hc := hTc.1 (3 * k + v) hb6
                  refine lv_iconst (v := (nI (3))) hx hb dX12_constant_42 (by decide) ?_
                  refine lv_iload_n hx hb dX12_constant_43 rfl (lv_at hl 1 rfl) ?_
                  refine lv_imul hx hb dX12_constant_44 ?_
                  refine rl_topn (pk_mul _ _) ?_
                  refine lv_iload_n hx hb dX12_constant_45 rfl (lv_at hl 2 rfl) ?_
                  refine lv_iadd hx hb dX12_constant_46 ?_
                  refine rl_topn (nI_add _ _) ?_
                  refine lv_istore (lv' := [(5, .int (nI (((3) * (k)) + (v)))), (0, .ref (m)), (1, .int (nI (k))), (2, .int (nI (v))), (3, .int (nI (n))), (4, .int (nI (lo)))]) hx hb dX12_constant_47 hl (by decide) rfl (fun ls hl => ?_)
                  refine lv_aload_n hx hb dX12_constant_49 rfl (lv_at hl 1 rfl) ?_
                  refine rl_get (v := .ref (m + 1)) hC hW fl_X12_7 hR.1 rfl dX12_constant_50 ?_
                  refine lv_iload hx hb dX12_constant_53 (lv_at hl 0 rfl) ?_
                  refine rl_iald_n (g := I 0) hC hW hR.a0 (by omega) (by decide) dX12_constant_55 ?_
                  refine rl_topn (hc.1) ?_
                  refine lv_istore (lv' := [(6, .int (nI (T 0 (((3) * (k)) + (v))))), (5, .int (nI (((3) * (k)) + (v)))), (0, .ref (m)), (1, .int (nI (k))), (2, .int (nI (v))), (3, .int (nI (n))), (4, .int (nI (lo)))]) hx hb dX12_constant_56 hl (by decide) rfl (fun ls hl => ?_)
                  refine lv_aload_n hx hb dX12_constant_58 rfl (lv_at hl 2 rfl) ?_
                  refine rl_get (v := .ref (m + 2)) hC hW fl_X12_13 hR.1 rfl dX12_constant_59 ?_
                  refine lv_bipush (v := (nI (10))) hx hb dX12_constant_62 (by decide) ?_
                  refine lv_iload hx hb dX12_constant_64 (lv_at hl 1 rfl) ?_
                  refine lv_imul hx hb dX12_constant_66 ?_
                  refine rl_topn (pk_mul _ _) ?_
                  refine lv_iload hx hb dX12_constant_67 (lv_at hl 0 rfl) ?_
                  refine lv_iadd hx hb dX12_constant_69 ?_
                  refine rl_topn (nI_add _ _) ?_
                  refine lv_iload_n hx hb dX12_constant_70 rfl (lv_at hl 5 rfl) ?_
                  refine rl_iast_n (g := I 1) hC hW hR.a1 (by omega) (by decide) dX12_constant_71 (fun H locs hW => ?_)
                  have hR := hR.s1 (upd (I 1) (((10) * (((3) * (k)) + (v))) + (T 0 (((3) * (k)) + (v)))) ((nI (n))))
                  refine lv_aload_n hx hb dX12_constant_72 rfl (lv_at hl 2 rfl) ?_
                  refine rl_get (v := .ref (m + 3)) hC hW fl_X12_16 hR.1 rfl dX12_constant_73 ?_
                  refine lv_bipush (v := (nI (10))) hx hb dX12_constant_76 (by decide) ?_
                  refine lv_iload hx hb dX12_constant_78 (lv_at hl 1 rfl) ?_
                  refine lv_imul hx hb dX12_constant_80 ?_
                  refine rl_topn (pk_mul _ _) ?_
                  refine lv_iload hx hb dX12_constant_81 (lv_at hl 0 rfl) ?_
                  refine lv_iadd hx hb dX12_constant_83 ?_
                  refine rl_topn (nI_add _ _) ?_
                  refine lv_iload hx hb dX12_constant_84 (lv_at hl 6 rfl) ?_
                  refine rl_zast_n (g := I 2) hC hW hR.a2 (by omega) (by decide) dX12_constant_86 (fun H locs hW => ?_)
                  have hR := hR.s2 (upd (I 2) (((10) * (((3) * (k)) + (v))) + (T 0 (((3) * (k)) + (v)))) ((vp_nar .boolean (nI (lo)))))
                  refine lv_aload_n hx hb dX12_constant_87 rfl (lv_at hl 2 rfl) ?_
                  refine rl_get (v := .ref (m + 1)) hC hW fl_X12_7 hR.1 rfl dX12_constant_88 ?_
                  refine lv_iload hx hb dX12_constant_91 (lv_at hl 1 rfl) ?_
                  refine lv_dup2_11 hx hb dX12_constant_93 rfl rfl ?_
                  refine rl_iald_n (g := I 0) hC hW hR.a0 (by omega) (by decide) dX12_constant_94 ?_
                  refine rl_topn (hc.1) ?_
                  refine lv_iconst (v := (nI (1))) hx hb dX12_constant_95 (by decide) ?_
                  refine lv_iadd hx hb dX12_constant_96 ?_
                  refine rl_topn (nI_add _ _) ?_
                  refine rl_iast_n (g := I 0) hC hW hR.a0 (by omega) (by decide) dX12_constant_97 (fun H locs hW => ?_)
                  have hR := hR.s0 (upd (I 0) (((3) * (k)) + (v)) ((nI ((T 0 (((3) * (k)) + (v))) + (1)))))
                  refine lv_iload hx hb dX12_constant_98 (lv_at hl 0 rfl) ?_
                  exact rl_iret hC hW hr hlk (Nat.le_refl _) (Nat.le_refl _) ⟨_, rfl, rfl, rfl, _, Or.inl ⟨k, v, n, ⟨hk, hv, hn, rfl, rfl, rfl, hfr⟩, rfl, rfl⟩, ⟨_, _, _, hR, RTc.eq (hTc.add hb6 hn hlo hfr) (by rw [pu_nar hlo]; rfl), hTp, hTk, hGW, hGr, hGd, hGp, hGt, hGc, hF11, hF14⟩⟩ dX12_constant_100
                · exact absurd (by decide) c9
          · have hq := hp
            refine lv_if_eq (tgt := 40) hx hb dX12_constant_26 (by decide) (fun c9 => ?_) (fun c9 => ?_)
            · refine lv_iconst (v := (-1)) hx hb dX12_constant_40 (by decide) ?_
              exact rl_iret hC hW hr hlk (Nat.le_refl _) (Nat.le_refl _) ⟨_, rfl, rfl, rfl, T, Or.inr ⟨by decide, rfl, fun ⟨_, _, n', _, _, q3, _, _, q6, _⟩ => hq ⟨n', q3, q6⟩⟩, ⟨_, _, _, hR, hTc, hTp, hTk, hGW, hGr, hGd, hGp, hGt, hGc, hF11, hF14⟩⟩ dX12_constant_41
            · exact absurd rfl c9
      · have hq := hp
        refine lv_if_eq (tgt := 40) hx hb dX12_constant_14 (by decide) (fun c9 => ?_) (fun c9 => ?_)
        · refine lv_iconst (v := (-1)) hx hb dX12_constant_40 (by decide) ?_
          exact rl_iret hC hW hr hlk (Nat.le_refl _) (Nat.le_refl _) ⟨_, rfl, rfl, rfl, T, Or.inr ⟨by decide, rfl, fun ⟨_, v', _, _, q2, _, _, q5, _⟩ => hq ⟨v', q2, q5⟩⟩, ⟨_, _, _, hR, hTc, hTp, hTk, hGW, hGr, hGd, hGp, hGt, hGc, hF11, hF14⟩⟩ dX12_constant_41
        · exact absurd rfl c9
  · have hq := hp
    refine lv_if_eq (tgt := 40) hx hb dX12_constant_7 (by decide) (fun c9 => ?_) (fun c9 => ?_)
    · refine lv_iconst (v := (-1)) hx hb dX12_constant_40 (by decide) ?_
      exact rl_iret hC hW hr hlk (Nat.le_refl _) (Nat.le_refl _) ⟨_, rfl, rfl, rfl, T, Or.inr ⟨by decide, rfl, fun ⟨k', _, _, q1, _, _, q4, _⟩ => hq ⟨k', q1, q4⟩⟩, ⟨_, _, _, hR, hTc, hTp, hTk, hGW, hGr, hGd, hGp, hGt, hGc, hF11, hF14⟩⟩ dX12_constant_41
    · exact absurd rfl c9
