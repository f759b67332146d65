
def rf_si (ρ κ d j : Nat) (a32 a46 a48 : Nat → Int32) : Prop := (∀ i, i < d → (∀ p, p < 5 → RVt ρ κ (a32 (5 * (i + 1) + p))) ∧ (a46 i = -3 ∨ ∃ j : Nat, j < 12 ∧ a46 i = nI j)) ∧ ∀ i, i < j → (a48 i = -3 ∨ ∃ p : Nat, p < 5 ∧ a48 i = nI p)
def rf_nm (ρ0 κ0 lv v ρ κ a d : Nat) : Prop := lv ≤ 250 ∧ a ≤ lv ∧ d ≤ 6 ∧ v < 3 ∧ ρ0 ≤ ρ ∧ κ0 ≤ κ
/-- the reference within a reading -/
def RQ (t : Nat → ClassId) (f : rl_M) (m : Nat) (T : Nat → Nat → Nat) (ρ0 κ0 lv v ρ κ a d e j : Nat) (β : Int32) : Prop := ∃ (I : Nat → Nat → Int32) (L : Nat → Nat → Int64) (F : Nat → Int32), RM t f m I L F ∧ RTc T (I 0) (I 1) ∧ RTp T (I 3) (I 4) (I 5) (I 6) ∧ RTk T (I 7) (I 8) (I 9) (I 10) ∧ RVw ρ (I 12) ∧ RVe T ρ κ (I 15) (I 16) (I 18) ∧ RVe T ρ0 κ0 (I 15) (I 16) (I 18) ∧ RVp ρ0 κ0 (I 19) (I 21) ∧ F 11 = nI ρ ∧ F 14 = nI κ ∧ F 22 = nI lv ∧ F 44 = nI v ∧ F 41 = nI a ∧ F 43 = β ∧ F 45 = nI d ∧ rf_nm ρ0 κ0 lv v ρ κ a d ∧ (β = 0 → rf_si ρ κ e j (I 32) (I 46) (I 48))
theorem RVe.old {T : Nat → Nat → Nat} {ρ0 κ0 κ : Nat} {a15 a16 a18 g15 g16 g18 : Nat → Int32} (h : RVe T ρ0 κ0 a15 a16 a18) (h5 : ∀ j, j < 12 → T 2 j ≤ 5) (hk : κ0 ≤ κ) (h1 : ∀ x, x < κ → g15 x = a15 x ∧ g16 x = a16 x) (h2 : ∀ x, x < 5 * κ → g18 x = a18 x) : RVe T ρ0 κ0 g15 g16 g18 := by
  intro r hr
  obtain ⟨sh, pn, e1, e2, e3, e4, e5⟩ := h r hr
  have := h5 sh e1
  refine ⟨sh, pn, e1, by rw [(h1 r (by omega)).1]; exact e2, by rw [(h1 r (by omega)).2]; exact e3, e4, fun p hp => ?_⟩
  rw [h2 _ (by omega)]
  exact e5 p hp
theorem rf_si.mono {ρ κ ρ' κ' d j : Nat} {a32 a46 a48 : Nat → Int32} (h : rf_si ρ κ d j a32 a46 a48) (hr : ρ ≤ ρ') (hk : κ ≤ κ') : rf_si ρ' κ' d j a32 a46 a48 := ⟨fun i hi => ⟨fun p hp => ((h.1 i hi).1 p hp).mono hr hk, (h.1 i hi).2⟩, h.2⟩
theorem rf_si.pop {ρ κ d d' j j' : Nat} {a32 a46 a48 : Nat → Int32} (h : rf_si ρ κ d j a32 a46 a48) (hd : d' ≤ d) (hj : j' ≤ j) : rf_si ρ κ d' j' a32 a46 a48 := ⟨fun i hi => h.1 i (by omega), fun i hi => h.2 i (by omega)⟩
theorem rf_si.thing {ρ κ d n j : Nat} {a32 a46 a48 : Nat → Int32} {x : Int32} (h : rf_si ρ κ d j a32 a46 a48) (hx : RVt ρ κ x) : rf_si ρ κ d j (upd a32 n x) a46 a48 := by
  refine ⟨fun i hi => ⟨fun p hp => ?_, (h.1 i hi).2⟩, h.2⟩
  unfold upd
  split
  · exact hx
  · exact (h.1 i hi).1 p hp
theorem rf_si.inner {ρ κ d j : Nat} {a32 a46 a48 : Nat → Int32} {x : Int32} (h : rf_si ρ κ d j a32 a46 a48) (hx : x = -3 ∨ ∃ p : Nat, p < 5 ∧ x = nI p) : rf_si ρ κ d (j + 1) a32 a46 (upd a48 j x) := by
  refine ⟨h.1, fun i hi => ?_⟩
  unfold upd
  split
  · exact hx
  · exact h.2 i (by omega)
theorem rf_si.push {ρ κ d j : Nat} {a32 g32 a46 a48 : Nat → Int32} {x : Int32} (h : rf_si ρ κ d j a32 a46 a48) (hg : ∀ y, y < 5 * (d + 1) → g32 y = a32 y) (hn : ∀ p, p < 5 → g32 (5 * (d + 1) + p) = -1) (hx : x = -3 ∨ ∃ j : Nat, j < 12 ∧ x = nI j) : rf_si ρ κ (d + 1) j g32 (upd a46 d x) a48 := by
  refine ⟨fun i hi2 => ?_, h.2⟩
  by_cases he : i = d
  · subst he
    exact ⟨fun p hp => Or.inl (hn p hp), by rw [rg_ups]; exact hx⟩
  · obtain ⟨h1, h2⟩ := h.1 i (by omega)
    exact ⟨fun p hp => by rw [hg _ (by omega)]; exact h1 p hp, by rw [rg_upl he]; exact h2⟩
theorem rg_rkl {x : Int64} : (2 ≤ x ∧ x ≤ 5) ↔ ∃ k : Nat, k < 4 ∧ x = lN (2 + k) := by
  rw [Int64.le_iff_toInt_le, Int64.le_iff_toInt_le, show (2 : Int64).toInt = 2 by decide, show (5 : Int64).toInt = 5 by decide]
  constructor
  · rintro ⟨h1, h2⟩
    refine ⟨x.toInt.toNat - 2, by omega, ?_⟩
    apply Int64.toInt_inj.mp
    rw [lN_toInt (by omega)]
    omega
  · rintro ⟨j, hj, rfl⟩
    rw [lN_toInt (by omega)]
    omega
theorem rg_lin {x : Int64} {n : Nat} {a b : Int64} (ha : a.toInt = 0) (hb : b.toInt = n) (hn : n < 2 ^ 31) : (a ≤ x ∧ x ≤ b) ↔ ∃ j : Nat, j < n + 1 ∧ x = lN j := by
  rw [Int64.le_iff_toInt_le, Int64.le_iff_toInt_le, ha, hb]
  constructor
  · rintro ⟨h1, h2⟩
    refine ⟨x.toInt.toNat, by omega, ?_⟩
    apply Int64.toInt_inj.mp
    rw [lN_toInt (by omega)]
    omega
  · rintro ⟨j, hj, rfl⟩
    rw [lN_toInt (by omega)]
    omega

set_option maxHeartbeats 4000000 in
set_option maxRecDepth 100000 in
theorem cR_fails (l : Launch) (D : va_G) (t : Nat → ClassId) (A : Nat → Prop) (f : rl_M) (z : Nat) (m : Nat) (T : Nat → Nat → Nat) (ρ0 κ0 lv v ρ κ a d e0 j0 : Nat) (β : Int32) (hQ : RQ t f m T ρ0 κ0 lv v ρ κ a d e0 j0 β) (x : Int32) (hx0 : x ≠ 0) : rl_Met l yX12_fails (.code yX12_fails cX12_fails 2 none) (rl_rm 0 0 0) D t A f z [.ref (m), .int (x)] (rl_qv z fun f1 => ∃ β', β' ≠ 0 ∧ RQ t f1 m T ρ0 κ0 lv v ρ κ a d e0 j0 β') := by
  obtain ⟨I, L, F, hR, hTc, hTp, hTk, hVw, hVe, hVe0, hVp, hF11, hF14, hF22, hF44, hF41, hF43, hF45, hN, hSI⟩ := hQ
  obtain ⟨hlv, ha, hd6, hv3, hρ0, hκ0⟩ := id hN
  refine rl_begin (own := RX12) (lv := [(0, .ref (m)), (1, .int (x))]) (by decide +kernel) rfl (Nat.le_of_ble_eq_true rfl) rfl fun p e s m0 args below meth c ls H locs hC hr hlk hnm hW hl hx hb => ?_
  refine lv_aload_n hx hb dX12_fails_0 rfl (lv_at hl 0 rfl) ?_
  refine lv_aload_n hx hb dX12_fails_1 rfl (lv_at hl 0 rfl) ?_
  refine rl_get (v := .int (F 43)) hC hW fl_X12_238 hR.1 rfl dX12_fails_2 ?_
  refine lv_if_ne (tgt := 12) hx hb dX12_fails_5 (by decide) (fun c1 => ?_) (fun c1 => ?_)
  · refine lv_aload_n hx hb dX12_fails_12 rfl (lv_at hl 0 rfl) ?_
    refine rl_get (v := .int (F 43)) hC hW fl_X12_238 hR.1 rfl dX12_fails_13 ?_
    refine rl_put (v := .int (F 43)) hC hW fp_X12_238 hR.1 (Nat.le_of_ble_eq_true rfl) rfl rfl dX12_fails_16 (fun H locs hW => ?_)
    have hR := hR.f43 (F 43)
    exact rl_vret hC hW hr hlk (Nat.le_refl _) (Nat.le_refl _) ⟨rfl, rfl, rfl, β, fun q => c1 (by rw [hF43]; exact q), ⟨_, _, _, hR, hTc, hTp, hTk, hVw, hVe, hVe0, hVp, hF11, hF14, hF22, hF44, hF41, hF43, hF45, hN, hSI⟩⟩ dX12_fails_19
  · refine lv_iload_n hx hb dX12_fails_8 rfl (lv_at hl 1 rfl) ?_
    refine lv_goto (tgt := 16) hx hb dX12_fails_9 (by decide) ?_
    refine rl_put (v := .int (x)) hC hW fp_X12_238 hR.1 (Nat.le_of_ble_eq_true rfl) rfl rfl dX12_fails_16 (fun H locs hW => ?_)
    have hR := hR.f43 (x)
    exact rl_vret hC hW hr hlk (Nat.le_refl _) (Nat.le_refl _) ⟨rfl, rfl, rfl, x, hx0, ⟨_, _, _, hR, hTc, hTp, hTk, hVw, hVe, hVe0, hVp, hF11, hF14, hF22, hF44, hF41, rfl, hF45, hN, (fun q => absurd q hx0)⟩⟩ dX12_fails_19

set_option maxHeartbeats 4000000 in
set_option maxRecDepth 100000 in
theorem cR_want (l : Launch) (D : va_G) (t : Nat → ClassId) (A : Nat → Prop) (f : rl_M) (z : Nat) (m : Nat) (T : Nat → Nat → Nat) (ρ0 κ0 lv v ρ κ a d e0 j0 : Nat) (β : Int32) (hQ : RQ t f m T ρ0 κ0 lv v ρ κ a d e0 j0 β) : rl_Met l yX12_want (.code yX12_want cX12_want 1 (some FieldType.long)) (rl_rm 1 0 0) D t A f z [.ref (m)] (rl_ql z fun r f1 => ∃ (a' : Nat) (β' : Int32), RQ t f1 m T ρ0 κ0 lv v ρ κ a' d e0 j0 β' ∧ ((β = 0 ∧ β' = 0 ∧ a' = a + 1) ∨ (β' ≠ 0 ∧ a = a'))) := by
  obtain ⟨I, L, F, hR, hTc, hTp, hTk, hVw, hVe, hVe0, hVp, hF11, hF14, hF22, hF44, hF41, hF43, hF45, hN, hSI⟩ := hQ
  obtain ⟨hlv, ha, hd6, hv3, hρ0, hκ0⟩ := id hN
  refine rl_begin (own := RX12) (lv := [(0, .ref (m))]) (by decide +kernel) rfl (Nat.le_of_ble_eq_true rfl) rfl fun p e s m0 args below meth c ls H locs hC hr hlk hnm hW hl hx hb => ?_
  refine lv_aload_n hx hb dX12_want_0 rfl (lv_at hl 0 rfl) ?_
  refine rl_get (v := .int (F 43)) hC hW fl_X12_238 hR.1 rfl dX12_want_1 ?_
  refine lv_if_eq (tgt := 9) hx hb dX12_want_4 (by decide) (fun c1 => ?_) (fun c1 => ?_)
  · have hβ : β = 0 := hF43.symm.trans c1
    refine lv_aload_n hx hb dX12_want_9 rfl (lv_at hl 0 rfl) ?_
    refine lv_aload_n hx hb dX12_want_10 rfl (lv_at hl 0 rfl) ?_
    refine rl_get (v := .int (F 41)) hC hW fl_X12_241 hR.1 rfl dX12_want_11 ?_
    refine rl_topn (y := nI (a)) (hF41) ?_
    refine rl_put (v := .int (nI (a))) hC hW fp_X12_244 hR.1 (Nat.le_of_ble_eq_true rfl) rfl rfl dX12_want_14 (fun H locs hW => ?_)
    have hR := hR.f42 (nI (a))
    refine lv_aload_n hx hb dX12_want_17 rfl (lv_at hl 0 rfl) ?_
    refine rl_get (v := .int (F 41)) hC hW fl_X12_241 hR.1 rfl dX12_want_18 ?_
    refine rl_topn (y := nI (a)) (hF41) ?_
    refine lv_aload_n hx hb dX12_want_21 rfl (lv_at hl 0 rfl) ?_
    refine rl_get (v := .int (F 22)) hC hW fl_X12_235 hR.1 rfl dX12_want_22 ?_
    refine rl_topn (y := nI (lv)) (hF22) ?_
    refine lv_icmp_lt (tgt := 35) hx hb dX12_want_25 (by decide) (fun c2 => ?_) (fun c2 => ?_)
    · have hlt : a < lv := (nI_ltI (by omega) (by omega)).mp c2
      refine lv_aload_n hx hb dX12_want_35 rfl (lv_at hl 0 rfl) ?_
      refine lv_dup hx hb dX12_want_36 rfl ?_
      refine rl_get (v := .int (F 41)) hC hW fl_X12_241 hR.1 rfl dX12_want_37 ?_
      refine rl_topn (y := nI (a)) (hF41) ?_
      refine lv_iconst (v := (nI (1))) hx hb dX12_want_40 (by decide) ?_
      refine lv_iadd hx hb dX12_want_41 ?_
      refine rl_topn (nI_add _ _) ?_
      refine rl_put (v := .int (nI ((a) + (1)))) hC hW fp_X12_241 hR.1 (Nat.le_of_ble_eq_true rfl) rfl rfl dX12_want_42 (fun H locs hW => ?_)
      have hR := hR.f41 (nI ((a) + (1)))
      refine lv_aload_n hx hb dX12_want_45 rfl (lv_at hl 0 rfl) ?_
      refine rl_get (v := .ref (m + 21)) hC hW fl_X12_75 hR.1 rfl dX12_want_46 ?_
      refine lv_aload_n hx hb dX12_want_49 rfl (lv_at hl 0 rfl) ?_
      refine rl_get (v := .int (nI ((a) + (1)))) hC hW fl_X12_241 hR.1 rfl dX12_want_50 ?_
      refine lv_iconst (v := (nI (1))) hx hb dX12_want_53 (by decide) ?_
      refine lv_isub hx hb dX12_want_54 ?_
      refine rl_topn (rg_sub (c := a) (by omega)) ?_
      refine rl_lald_n (g := L 23) hC hW hR.a23 (by omega) (by decide) dX12_want_55 ?_
      exact rl_lret hC hW hr hlk (Nat.le_refl _) (Nat.le_refl _) ⟨_, rfl, rfl, rfl, a + 1, β, ⟨_, _, _, hR, hTc, hTp, hTk, hVw, hVe, hVe0, hVp, hF11, hF14, hF22, hF44, rfl, hF43, hF45, ⟨by omega, by omega, by omega, by omega, by omega, by omega⟩, hSI⟩, Or.inl ⟨hβ, hβ, rfl⟩⟩ dX12_want_56
    · refine lv_aload_n hx hb dX12_want_28 rfl (lv_at hl 0 rfl) ?_
      refine lv_iconst (v := (nI (4))) hx hb dX12_want_29 (by decide) ?_
      refine rl_callvQ (rl_runV (b := m) (As := [.int (nI (4))]) (rest := []) hC hW (cR_fails l D t A _ z m T ρ0 κ0 lv v ρ κ a d e0 j0 β ⟨_, _, _, hR, hTc, hTp, hTk, hVw, hVe, hVe0, hVp, hF11, hF14, hF22, hF44, hF41, hF43, hF45, hN, hSI⟩ _ (by decide)) cs_X12_247 im_X12_fails sl_X12_fails hR.1 rfl ⟨(Nat.le_of_ble_eq_true rfl), (Nat.le_of_ble_eq_true rfl)⟩ rfl hl.1 rfl (Nat.le_of_ble_eq_true rfl) dX12_want_30 ⟨(Nat.le_of_ble_eq_true rfl), (Nat.le_of_ble_eq_true rfl)⟩) hW (fun f1 H locs hp hW => ?_)
      obtain ⟨β', hβ', hQ⟩ := hp
      refine lv_lconst (v := 0) hx hb dX12_want_33 (by decide) ?_
      exact rl_lret hC hW hr hlk (Nat.le_refl _) (Nat.le_refl _) ⟨_, rfl, rfl, rfl, a, β', hQ, Or.inr ⟨hβ', rfl⟩⟩ dX12_want_34
  · refine lv_lconst (v := 0) hx hb dX12_want_7 (by decide) ?_
    exact rl_lret hC hW hr hlk (Nat.le_refl _) (Nat.le_refl _) ⟨_, rfl, rfl, rfl, a, β, ⟨_, _, _, hR, hTc, hTp, hTk, hVw, hVe, hVe0, hVp, hF11, hF14, hF22, hF44, hF41, hF43, hF45, hN, hSI⟩, Or.inr ⟨fun q => c1 (hF43.trans q), rfl⟩⟩ dX12_want_8
