
def rf_fr (ρ κ i : Nat) (a32 : Nat → Int32) (b31 : Nat → Int64) (x46 : Int32) : pD → Prop
  | none => x46 = -3
  | some (j, N, X) => j < 12 ∧ x46 = nI j ∧ ∀ p, p < 5 → b31 (5 * (i + 1) + p) = N p ∧ a32 (5 * (i + 1) + p) = enc (X p) ∧ hok ρ κ (X p)
/-- the records that are open -/
def rf_st (ρ κ e j : Nat) (SD : Nat → pD) (SL : Nat → Nat) (SI : Nat → Option Nat) (a32 : Nat → Int32) (b31 : Nat → Int64) (a46 : Nat → Int32) (b47 : Nat → Int64) (a48 : Nat → Int32) : Prop := (∀ i, i < e → rf_fr ρ κ i a32 b31 (a46 i) (SD i) ∧ (b47 i).toInt.toNat = SL i) ∧ ∀ i, i < j → (SI i = none ∧ a48 i = -3) ∨ ∃ p, p < 5 ∧ SI i = some p ∧ a48 i = nI p
def rq_nm (w ρ0 κ0 : Nat) (G0 : pG) (a bd d ρ κ : Nat) (G : pG) : Prop := a ≤ G.1 4 0 ∧ d ≤ 6 ∧ w < 3 ∧ ρ0 ≤ ρ ∧ κ0 ≤ κ ∧ bd ≤ 8 ∧ gle ρ0 κ0 G0 G
/-- the reference within a reading -/
def RQ (t : Nat → ClassId) (f : rl_M) (m : Nat) (T : Nat → Nat → Nat) (w ρ0 κ0 : Nat) (G0 : pG) (a : Nat) (la : Int32) (bd d ρ κ : Nat) (G : pG) (e j : Nat) (SD : Nat → pD) (SL : Nat → Nat) (SI : Nat → Option Nat) : Prop := ∃ (I : Nat → Nat → Int32) (L : Nat → Nat → Int64) (F : Nat → Int32), RM t f m I L F ∧ RTc T (I 0) (I 1) (I 2) ∧ RTp T (I 3) (I 4) (I 5) (I 6) ∧ RTk T (I 7) (I 8) (I 9) (I 10) ∧ GW T ρ κ G ∧ RGr ρ G (I 12) (I 13) ∧ RGd κ G (I 15) (I 16) (L 17) (I 18) ∧ RGp G (I 19) (L 20) (I 21) ∧ RGt G (F 22) (L 23) ∧ RGc G F ∧ F 11 = nI ρ ∧ F 14 = nI κ ∧ F 44 = nI w ∧ F 41 = nI a ∧ F 42 = la ∧ F 43 = nI bd ∧ F 45 = nI d ∧ rq_nm w ρ0 κ0 G0 a bd d ρ κ G ∧ (bd = 0 → rf_st ρ κ e j SD SL SI (I 32) (L 31) (I 46) (L 47) (I 48))
section RFS
variable {ρ κ ρ' κ' e j d : Nat} {SD : Nat → pD} {SL : Nat → Nat} {SI : Nat → Option Nat} {a32 g32 a46 a48 : Nat → Int32} {b31 g31 b47 : Nat → Int64}
theorem rf_fr.mono {i : Nat} {x : Int32} {D : pD} (h : rf_fr ρ κ i a32 b31 x D) (hr : ρ ≤ ρ') (hk : κ ≤ κ') : rf_fr ρ' κ' i a32 b31 x D := by
  rcases D with _ | ⟨j, N, X⟩
  · exact h
  · exact ⟨h.1, h.2.1, fun p hp => ⟨(h.2.2 p hp).1, (h.2.2 p hp).2.1, ((h.2.2 p hp).2.2).mono hr hk⟩⟩
theorem rf_fr.eq {i : Nat} {x : Int32} {D : pD} (h : rf_fr ρ κ i a32 b31 x D) (h1 : ∀ p, p < 5 → g32 (5 * (i + 1) + p) = a32 (5 * (i + 1) + p)) (h2 : ∀ p, p < 5 → g31 (5 * (i + 1) + p) = b31 (5 * (i + 1) + p)) : rf_fr ρ κ i g32 g31 x D := by
  rcases D with _ | ⟨j, N, X⟩
  · exact h
  · exact ⟨h.1, h.2.1, fun p hp => ⟨(h2 p hp).trans (h.2.2 p hp).1, (h1 p hp).trans (h.2.2 p hp).2.1, (h.2.2 p hp).2.2⟩⟩
theorem rf_st.mono (h : rf_st ρ κ e j SD SL SI a32 b31 a46 b47 a48) (hr : ρ ≤ ρ') (hk : κ ≤ κ') : rf_st ρ' κ' e j SD SL SI a32 b31 a46 b47 a48 := ⟨fun i hi => ⟨(h.1 i hi).1.mono hr hk, (h.1 i hi).2⟩, h.2⟩
theorem rf_st.pop {e' j' : Nat} (h : rf_st ρ κ e j SD SL SI a32 b31 a46 b47 a48) (he : e' ≤ e) (hj : j' ≤ j) : rf_st ρ κ e' j' SD SL SI a32 b31 a46 b47 a48 := ⟨fun i hi => h.1 i (by omega), fun i hi => h.2 i (by omega)⟩
theorem rf_st.same (h : rf_st ρ κ e j SD SL SI a32 b31 a46 b47 a48) (h1 : g32 = a32) (h2 : g31 = b31) : rf_st ρ κ e j SD SL SI g32 g31 a46 b47 a48 := by rw [h1, h2]; exact h
theorem rf_st.put {p : Nat} {x : pHd} {v : Int32} (h : rf_st ρ κ (d + 1) j SD SL SI a32 b31 a46 b47 a48) (hp : p < 5) (hv : v = enc x) (hx : hok ρ κ x) : rf_st ρ κ (d + 1) j (va_up SD d (q_put (SD d) (some p) x)) SL SI (upd a32 (5 * (d + 1) + p) v) b31 a46 b47 a48 := by
  refine ⟨fun i hi => ?_, h.2⟩
  obtain ⟨h1, h2⟩ := h.1 i hi
  refine ⟨?_, h2⟩
  by_cases he : i = d
  · subst he
    rw [va_up_s]
    cases hD : SD i with
    | none =>
      rw [hD] at h1
      exact h1
    | some D =>
      obtain ⟨j', N, X⟩ := D
      rw [hD] at h1
      refine ⟨h1.1, h1.2.1, fun p' hp' => ?_⟩
      by_cases hpe : p' = p
      · subst hpe
        rw [rg_ups, va_up_s]
        exact ⟨(h1.2.2 p' hp').1, hv, hx⟩
      · rw [rg_upl (by omega), va_up_n _ _ hpe]
        exact h1.2.2 p' hp'
  · rw [va_up_n _ _ he]
    exact h1.eq (fun p' hp' => rg_upl (by omega)) (fun _ _ => rfl)
theorem vp_upl_n {g : Nat → Int64} {k n : Nat} {x : Int64} (h : n ≠ k) : vp_updL g k x n = g n := by unfold vp_updL; rw [if_neg h]
theorem vp_upl_s {g : Nat → Int64} {k : Nat} {x : Int64} : vp_updL g k x k = x := by unfold vp_updL; rw [if_pos rfl]
theorem rf_st.num {p : Nat} {v : Int64} (h : rf_st ρ κ (d + 1) j SD SL SI a32 b31 a46 b47 a48) (hp : p < 5) : rf_st ρ κ (d + 1) j (va_up SD d (q_num (SD d) (some p) v)) SL SI a32 (vp_updL b31 (5 * (d + 1) + p) v) a46 b47 a48 := by
  refine ⟨fun i hi => ?_, h.2⟩
  obtain ⟨h1, h2⟩ := h.1 i hi
  refine ⟨?_, h2⟩
  by_cases he : i = d
  · subst he
    rw [va_up_s]
    cases hD : SD i with
    | none =>
      rw [hD] at h1
      exact h1
    | some D =>
      obtain ⟨j', N, X⟩ := D
      rw [hD] at h1
      refine ⟨h1.1, h1.2.1, fun p' hp' => ?_⟩
      by_cases hpe : p' = p
      · subst hpe
        rw [vp_upl_s, vp_upl_s]
        exact ⟨rfl, (h1.2.2 p' hp').2⟩
      · rw [vp_upl_n (by omega), vp_upl_n hpe]
        exact h1.2.2 p' hp'
  · rw [va_up_n _ _ he]
    exact h1.eq (fun _ _ => rfl) (fun p' hp' => vp_upl_n (by omega))
theorem rf_st.inner {x : Int32} {p : Option Nat} (h : rf_st ρ κ e j SD SL SI a32 b31 a46 b47 a48) (hx : (p = none ∧ x = -3) ∨ ∃ p', p' < 5 ∧ p = some p' ∧ x = nI p') : rf_st ρ κ e (j + 1) SD SL (va_up SI j p) a32 b31 a46 b47 (upd a48 j x) := by
  refine ⟨h.1, fun i hi => ?_⟩
  by_cases he : i = j
  · subst he
    rw [va_up_s, rg_ups]
    exact hx
  · rw [va_up_n _ _ he, rg_upl he]
    exact h.2 i (by omega)
theorem rf_st.left {n : Nat} {y : Int64} (h : rf_st ρ κ (d + 1) j SD SL SI a32 b31 a46 b47 a48) (hy : y.toInt.toNat = n) : rf_st ρ κ (d + 1) j SD (va_up SL d n) SI a32 b31 a46 (vp_updL b47 d y) a48 := by
  refine ⟨fun i hi => ?_, h.2⟩
  refine ⟨(h.1 i hi).1, ?_⟩
  by_cases he : i = d
  · subst he
    rw [va_up_s, vp_upl_s]
    exact hy
  · rw [va_up_n _ _ he, vp_upl_n he]
    exact (h.1 i hi).2
theorem rf_st.push {x : Int32} {y : Int64} {n : Nat} {D : pD} (h : rf_st ρ κ d j SD SL SI a32 b31 a46 b47 a48) (hg : ∀ y, y < 5 * (d + 1) → g32 y = a32 y) (hg2 : ∀ y, y < 5 * (d + 1) → g31 y = b31 y) (hn : ∀ p, p < 5 → g32 (5 * (d + 1) + p) = -1 ∧ g31 (5 * (d + 1) + p) = 0) (hx : (D = none ∧ x = -3) ∨ ∃ j : Nat, j < 12 ∧ D = some (j, fun _ => 0, fun _ => none) ∧ x = nI j) (hy : y.toInt.toNat = n) : rf_st ρ κ (d + 1) j (va_up SD d D) (va_up SL d n) SI g32 g31 (upd a46 d x) (vp_updL b47 d y) a48 := by
  refine ⟨fun i hi2 => ?_, h.2⟩
  by_cases he : i = d
  · subst he
    rw [va_up_s, va_up_s, rg_ups, vp_upl_s]
    refine ⟨?_, hy⟩
    rcases hx with ⟨rfl, rfl⟩ | ⟨j, hj, rfl, rfl⟩
    · rfl
    · exact ⟨hj, rfl, fun p hp => ⟨(hn p hp).2, (hn p hp).1, trivial⟩⟩
  · obtain ⟨h1, h2⟩ := h.1 i (by omega)
    rw [va_up_n _ _ he, va_up_n _ _ he, rg_upl he, vp_upl_n he]
    exact ⟨h1.eq (fun p hp => hg _ (by omega)) (fun p hp => hg2 _ (by omega)), h2⟩
end RFS
theorem upd_self {g : Nat → Int32} {k : Nat} : upd g k (g k) = g := by
  funext x
  unfold upd
  split
  · rename_i e; rw [e]
  · rfl
theorem updL_self {g : Nat → Int64} {k : Nat} : vp_updL g k (g k) = g := by
  funext x
  unfold vp_updL
  split
  · rename_i e; rw [e]
  · rfl
theorem rg_rkl {x : Int64} : (2 ≤ x ∧ x ≤ 5) ↔ ∃ k : Nat, k < 4 ∧ x = lN (2 + k) := by
  rw [Int64.le_iff_toInt_le, Int64.le_iff_toInt_le, show (2 : Int64).toInt = 2 by decide, show (5 : Int64).toInt = 5 by decide]
  constructor
  · rintro ⟨h1, h2⟩
    refine ⟨x.toInt.toNat - 2, by omega, ?_⟩
    apply Int64.toInt_inj.mp
    rw [lN_toInt (by omega)]
    omega
  · rintro ⟨j, hj, rfl⟩
    rw [lN_toInt (by omega)]
    omega
theorem rk_lN {k : Nat} (h : k < 4) : pu_rk (lN (2 + k)) = some k := by
  unfold pu_rk
  rw [lN_toInt (by omega), if_pos ⟨by omega, by omega⟩]
  congr 1
  omega
theorem rg_lin {x : Int64} {n : Nat} {a b : Int64} (ha : a.toInt = 0) (hb : b.toInt = n) (hn : n < 2 ^ 31) : (a ≤ x ∧ x ≤ b) ↔ ∃ j : Nat, j < n + 1 ∧ x = lN j := by
  rw [Int64.le_iff_toInt_le, Int64.le_iff_toInt_le, ha, hb]
  constructor
  · rintro ⟨h1, h2⟩
    refine ⟨x.toInt.toNat, by omega, ?_⟩
    apply Int64.toInt_inj.mp
    rw [lN_toInt (by omega)]
    omega
  · rintro ⟨j, hj, rfl⟩
    rw [lN_toInt (by omega)]
    omega

set_option maxHeartbeats 4000000 in
set_option maxRecDepth 100000 in
theorem cR_fails (l : Launch) (D : va_G) (t : Nat → ClassId) (A : Nat → Prop) (f : rl_M) (z : Nat) (m : Nat) (T : Nat → Nat → Nat) (w ρ0 κ0 : Nat) (G0 : pG) (a : Nat) (la : Int32) (bd d ρ κ : Nat) (G : pG) (e0 j0 : Nat) (SD : Nat → pD) (SL : Nat → Nat) (SI : Nat → Option Nat) (hQ : RQ t f m T w ρ0 κ0 G0 a la bd d ρ κ G e0 j0 SD SL SI) (xc : Nat) (hx0 : 0 < xc) (hx8 : xc ≤ 8) : rl_Met l yX12_fails (.code yX12_fails cX12_fails 2 none) (rl_rm 0 0 0) D t A f z [.ref (m), .int (nI (xc))] (rl_qv z fun f1 => ∃ bd', q_fail xc (a, la, bd, d, ρ, κ, G) = (a, la, bd', d, ρ, κ, G) ∧ bd' ≠ 0 ∧ RQ t f1 m T w ρ0 κ0 G0 a la bd' d ρ κ G e0 j0 SD SL SI) := by
  obtain ⟨I, L, F, hR, hTc, hTp, hTk, hGW, hGr, hGd, hGp, hGt, hGc, hF11, hF14, hF44, hF41, hF42, hF43, hF45, hN, hSI⟩ := hQ
  obtain ⟨hlv, hd6, hw3, hρ0, hκ0, hbd, hgl⟩ := id hN
  have hl250 := hGW.2.2.2.2
  refine rl_begin (own := RX12) (lv := [(0, .ref (m)), (1, .int (nI (xc)))]) (by decide +kernel) rfl (Nat.le_of_ble_eq_true rfl) rfl fun p e s m0 args below meth c ls H locs hC hr hlk hnm hW hl hx hb => ?_
  refine lv_aload_n hx hb dX12_fails_0 rfl (lv_at hl 0 rfl) ?_
  refine lv_aload_n hx hb dX12_fails_1 rfl (lv_at hl 0 rfl) ?_
  refine rl_get (v := .int (F 43)) hC hW fl_X12_238 hR.1 rfl dX12_fails_2 ?_
  refine rl_topn (y := nI (bd)) (hF43) ?_
  refine lv_if_ne (tgt := 12) hx hb dX12_fails_5 (by decide) (fun c1 => ?_) (fun c1 => ?_)
  · have hne : bd ≠ 0 := fun q => c1 (by rw [q]; rfl)
    refine lv_aload_n hx hb dX12_fails_12 rfl (lv_at hl 0 rfl) ?_
    refine rl_get (v := .int (F 43)) hC hW fl_X12_238 hR.1 rfl dX12_fails_13 ?_
    refine rl_topn (y := nI (bd)) (hF43) ?_
    refine rl_put (v := .int (nI (bd))) hC hW fp_X12_238 hR.1 (Nat.le_of_ble_eq_true rfl) rfl rfl dX12_fails_16 (fun H locs hW => ?_)
    have hR := hR.f43 (nI (bd))
    exact rl_vret hC hW hr hlk (Nat.le_refl _) (Nat.le_refl _) ⟨rfl, rfl, rfl, bd, fl_b hne, hne, ⟨_, _, _, hR, hTc, hTp, hTk, hGW, hGr, hGd, hGp, hGt, hGc, hF11, hF14, hF44, hF41, hF42, rfl, hF45, hN, hSI⟩⟩ dX12_fails_19
  · have hb0 : bd = 0 := (nI_eq (by omega) (by decide)).mp c1
    subst hb0
    refine lv_iload_n hx hb dX12_fails_8 rfl (lv_at hl 1 rfl) ?_
    refine lv_goto (tgt := 16) hx hb dX12_fails_9 (by decide) ?_
    refine rl_put (v := .int (nI (xc))) hC hW fp_X12_238 hR.1 (Nat.le_of_ble_eq_true rfl) rfl rfl dX12_fails_16 (fun H locs hW => ?_)
    have hR := hR.f43 (nI (xc))
    exact rl_vret hC hW hr hlk (Nat.le_refl _) (Nat.le_refl _) ⟨rfl, rfl, rfl, xc, fl_0 rfl, by omega, ⟨_, _, _, hR, hTc, hTp, hTk, hGW, hGr, hGd, hGp, hGt, hGc, hF11, hF14, hF44, hF41, hF42, rfl, hF45, ⟨by omega, by omega, by omega, by omega, by omega, by omega, hgl⟩, (fun q => absurd q (by omega))⟩⟩ dX12_fails_19

set_option maxHeartbeats 4000000 in
set_option maxRecDepth 100000 in
theorem cR_want (l : Launch) (D : va_G) (t : Nat → ClassId) (A : Nat → Prop) (f : rl_M) (z : Nat) (m : Nat) (T : Nat → Nat → Nat) (w ρ0 κ0 : Nat) (G0 : pG) (a : Nat) (la : Int32) (bd d ρ κ : Nat) (G : pG) (e0 j0 : Nat) (SD : Nat → pD) (SL : Nat → Nat) (SI : Nat → Option Nat) (hQ : RQ t f m T w ρ0 κ0 G0 a la bd d ρ κ G e0 j0 SD SL SI) : rl_Met l yX12_want (.code yX12_want cX12_want 1 (some FieldType.long)) (rl_rm 1 0 0) D t A f z [.ref (m)] (rl_ql z fun r f1 => ∃ (a' : Nat) (la' : Int32) (bd' : Nat), q_leaf (a, la, bd, d, ρ, κ, G) = (r, (a', la', bd', d, ρ, κ, G)) ∧ RQ t f1 m T w ρ0 κ0 G0 a' la' bd' d ρ κ G e0 j0 SD SL SI ∧ ((bd = 0 ∧ bd' = 0 ∧ a' = a + 1) ∨ (bd' ≠ 0 ∧ a = a' ∧ r = 0))) := by
  obtain ⟨I, L, F, hR, hTc, hTp, hTk, hGW, hGr, hGd, hGp, hGt, hGc, hF11, hF14, hF44, hF41, hF42, hF43, hF45, hN, hSI⟩ := hQ
  obtain ⟨hlv, hd6, hw3, hρ0, hκ0, hbd, hgl⟩ := id hN
  have hl250 := hGW.2.2.2.2
  refine rl_begin (own := RX12) (lv := [(0, .ref (m))]) (by decide +kernel) rfl (Nat.le_of_ble_eq_true rfl) rfl fun p e s m0 args below meth c ls H locs hC hr hlk hnm hW hl hx hb => ?_
  refine lv_aload_n hx hb dX12_want_0 rfl (lv_at hl 0 rfl) ?_
  refine rl_get (v := .int (F 43)) hC hW fl_X12_238 hR.1 rfl dX12_want_1 ?_
  refine rl_topn (y := nI (bd)) (hF43) ?_
  refine lv_if_eq (tgt := 9) hx hb dX12_want_4 (by decide) (fun c1 => ?_) (fun c1 => ?_)
  · have hb0 : bd = 0 := (nI_eq (by omega) (by decide)).mp c1
    subst hb0
    refine lv_aload_n hx hb dX12_want_9 rfl (lv_at hl 0 rfl) ?_
    refine lv_aload_n hx hb dX12_want_10 rfl (lv_at hl 0 rfl) ?_
    refine rl_get (v := .int (F 41)) hC hW fl_X12_241 hR.1 rfl dX12_want_11 ?_
    refine rl_topn (y := nI (a)) (hF41) ?_
    refine rl_put (v := .int (nI (a))) hC hW fp_X12_244 hR.1 (Nat.le_of_ble_eq_true rfl) rfl rfl dX12_want_14 (fun H locs hW => ?_)
    have hR := hR.f42 (nI (a))
    refine lv_aload_n hx hb dX12_want_17 rfl (lv_at hl 0 rfl) ?_
    refine rl_get (v := .int (F 41)) hC hW fl_X12_241 hR.1 rfl dX12_want_18 ?_
    refine rl_topn (y := nI (a)) (hF41) ?_
    refine lv_aload_n hx hb dX12_want_21 rfl (lv_at hl 0 rfl) ?_
    refine rl_get (v := .int (F 22)) hC hW fl_X12_235 hR.1 rfl dX12_want_22 ?_
    refine rl_topn (y := nI (G.1 4 0)) (hGt.1) ?_
    refine lv_icmp_lt (tgt := 35) hx hb dX12_want_25 (by decide) (fun c2 => ?_) (fun c2 => ?_)
    · have hlt : a < G.1 4 0 := (nI_ltI (by omega) (by omega)).mp c2
      refine lv_aload_n hx hb dX12_want_35 rfl (lv_at hl 0 rfl) ?_
      refine lv_dup hx hb dX12_want_36 rfl ?_
      refine rl_get (v := .int (F 41)) hC hW fl_X12_241 hR.1 rfl dX12_want_37 ?_
      refine rl_topn (y := nI (a)) (hF41) ?_
      refine lv_iconst (v := (nI (1))) hx hb dX12_want_40 (by decide) ?_
      refine lv_iadd hx hb dX12_want_41 ?_
      refine rl_topn (nI_add _ _) ?_
      refine rl_put (v := .int (nI ((a) + (1)))) hC hW fp_X12_241 hR.1 (Nat.le_of_ble_eq_true rfl) rfl rfl dX12_want_42 (fun H locs hW => ?_)
      have hR := hR.f41 (nI ((a) + (1)))
      refine lv_aload_n hx hb dX12_want_45 rfl (lv_at hl 0 rfl) ?_
      refine rl_get (v := .ref (m + 21)) hC hW fl_X12_75 hR.1 rfl dX12_want_46 ?_
      refine lv_aload_n hx hb dX12_want_49 rfl (lv_at hl 0 rfl) ?_
      refine rl_get (v := .int (nI ((a) + (1)))) hC hW fl_X12_241 hR.1 rfl dX12_want_50 ?_
      refine lv_iconst (v := (nI (1))) hx hb dX12_want_53 (by decide) ?_
      refine lv_isub hx hb dX12_want_54 ?_
      refine rl_topn (rg_sub (c := a) (by omega)) ?_
      refine rl_lald_n (g := L 23) hC hW hR.a23 (by omega) (by decide) dX12_want_55 ?_
      exact rl_lret hC hW hr hlk (Nat.le_refl _) (Nat.le_refl _) ⟨_, rfl, rfl, rfl, a + 1, nI a, 0, (lf_0 (q := (a, la, 0, d, ρ, κ, G)) rfl hlt).trans (by rw [hGt.2 a hlt]), ⟨_, _, _, hR, hTc, hTp, hTk, hGW, hGr, hGd, hGp, hGt, hGc, hF11, hF14, hF44, rfl, rfl, hF43, hF45, ⟨by omega, by omega, by omega, by omega, by omega, by omega, hgl⟩, hSI⟩, Or.inl ⟨rfl, rfl, rfl⟩⟩ dX12_want_56
    · have hge : ¬ a < G.1 4 0 := fun q => c2 ((nI_ltI (by omega) (by omega)).mpr q)
      refine lv_aload_n hx hb dX12_want_28 rfl (lv_at hl 0 rfl) ?_
      refine lv_iconst (v := (nI (4))) hx hb dX12_want_29 (by decide) ?_
      refine rl_callvQ (rl_runV (b := m) (As := [.int (nI (4))]) (rest := []) hC hW (cR_fails l D t A _ z m T w ρ0 κ0 G0 a (nI a) 0 d ρ κ G e0 j0 SD SL SI ⟨_, _, _, hR, hTc, hTp, hTk, hGW, hGr, hGd, hGp, hGt, hGc, hF11, hF14, hF44, hF41, rfl, hF43, hF45, hN, hSI⟩ 4 (by decide) (by decide)) cs_X12_247 im_X12_fails sl_X12_fails hR.1 rfl ⟨(Nat.le_of_ble_eq_true rfl), (Nat.le_of_ble_eq_true rfl)⟩ rfl hl.1 rfl (Nat.le_of_ble_eq_true rfl) dX12_want_30 ⟨(Nat.le_of_ble_eq_true rfl), (Nat.le_of_ble_eq_true rfl)⟩) hW (fun f1 H locs hp hW => ?_)
      obtain ⟨bd', hfe, hne, hQ⟩ := hp
      obtain rfl : 4 = bd' := by rw [fl_0 (q := (a, nI a, 0, d, ρ, κ, G)) rfl] at hfe; exact congrArg (fun q : pQ => q.2.2.1) hfe
      refine lv_lconst (v := 0) hx hb dX12_want_33 (by decide) ?_
      exact rl_lret hC hW hr hlk (Nat.le_refl _) (Nat.le_refl _) ⟨_, rfl, rfl, rfl, a, nI a, 4, lf_4 (q := (a, la, 0, d, ρ, κ, G)) rfl hge, hQ, Or.inr ⟨by decide, rfl, rfl⟩⟩ dX12_want_34
  · have hne : bd ≠ 0 := fun q => c1 (by rw [q]; rfl)
    refine lv_lconst (v := 0) hx hb dX12_want_7 (by decide) ?_
    exact rl_lret hC hW hr hlk (Nat.le_refl _) (Nat.le_refl _) ⟨_, rfl, rfl, rfl, a, la, bd, lf_b (q := (a, la, bd, d, ρ, κ, G)) hne, ⟨_, _, _, hR, hTc, hTp, hTk, hGW, hGr, hGd, hGp, hGt, hGc, hF11, hF14, hF44, hF41, hF42, hF43, hF45, hN, hSI⟩, Or.inr ⟨hne, rfl, rfl⟩⟩ dX12_want_8
