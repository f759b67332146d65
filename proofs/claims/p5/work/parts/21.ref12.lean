
def rf_wr (κ d : Nat) (a39 a40 a16 : Nat → Int32) : Prop := ∀ i, i < d → ∃ k q pn : Nat, k < κ ∧ a39 i = nI k ∧ a40 i = nI q ∧ a16 k = nI pn ∧ q ≤ pn ∧ pn ≤ 5
theorem rf_wr.mono {κ d d' : Nat} {a39 a40 a16 : Nat → Int32} (h : rf_wr κ d a39 a40 a16) (hd : d' ≤ d) : rf_wr κ d' a39 a40 a16 := fun i hi => h i (by omega)
theorem rf_wr.next {κ d q k pn : Nat} {a39 a40 a16 : Nat → Int32} (h : rf_wr κ (d + 1) a39 a40 a16) (hk : k < κ) (e1 : a39 d = nI k) (e3 : a16 k = nI pn) (hq : q < pn) (hp5 : pn ≤ 5) : rf_wr κ (d + 1) a39 (upd a40 d (nI (q + 1))) a16 := by
  intro i hi
  by_cases he : i = d
  · subst he
    exact ⟨k, q + 1, pn, hk, e1, rg_ups, e3, hq, hp5⟩
  · rw [rg_upl he]
    exact h i hi
theorem rf_wr.push {κ d k pn : Nat} {a39 a40 a16 : Nat → Int32} (h : rf_wr κ d a39 a40 a16) (hk : k < κ) (e3 : a16 k = nI pn) (hp5 : pn ≤ 5) : rf_wr κ (d + 1) (upd a39 d (nI k)) (upd a40 d (nI 0)) a16 := by
  intro i hi
  by_cases he : i = d
  · subst he
    exact ⟨k, 0, pn, hk, rg_ups, rg_ups, e3, Nat.zero_le _, hp5⟩
  · rw [rg_upl he, rg_upl he]
    exact h i (by omega)

set_option maxHeartbeats 4000000 in
set_option maxRecDepth 100000 in
theorem cR_put (l : Launch) (D : va_G) (t : Nat → ClassId) (A : Nat → Prop) (f : rl_M) (z : Nat) (m : Nat) (I : Nat → Nat → Int32) (L : Nat → Nat → Int64) (F : Nat → Int32) (hR : RM t f m I L F) (w0 : Nat) (hw0 : w0 < 1000) (hF37 : F 37 = nI w0) (v : Int64) : rl_Met l yX12_put (.code yX12_put cX12_put 3 none) (rl_rm 0 0 0) D t A f z [.ref (m), .long (v)] (rl_qv z fun f1 => ∃ L', RM t f1 m I L' (upd F 37 (nI (w0 + 1)))) := by
  refine rl_begin (own := RX12) (lv := [(0, .ref (m)), (1, .long (v))]) (by decide +kernel) rfl (Nat.le_of_ble_eq_true rfl) rfl fun p e s m0 args below meth c ls H locs hC hr hlk hnm hW hl hx hb => ?_
  refine lv_aload_n hx hb dX12_put_0 rfl (lv_at hl 0 rfl) ?_
  refine rl_get (v := .int (F 37)) hC hW fl_X12_220 hR.1 rfl dX12_put_1 ?_
  refine rl_topn (hF37) ?_
  refine lv_sipush (v := (nI (250))) hx hb dX12_put_4 (by decide) ?_
  refine lv_icmp_ge (tgt := 20) hx hb dX12_put_7 (by decide) (fun c1 => ?_) (fun c1 => ?_)
  · refine lv_aload_n hx hb dX12_put_20 rfl (lv_at hl 0 rfl) ?_
    refine lv_dup hx hb dX12_put_21 rfl ?_
    refine rl_get (v := .int (F 37)) hC hW fl_X12_220 hR.1 rfl dX12_put_22 ?_
    refine rl_topn (hF37) ?_
    refine lv_iconst (v := (nI (1))) hx hb dX12_put_25 (by decide) ?_
    refine lv_iadd hx hb dX12_put_26 ?_
    refine rl_topn (nI_add _ _) ?_
    refine rl_put (v := .int (nI ((w0) + (1)))) hC hW fp_X12_220 hR.1 (Nat.le_of_ble_eq_true rfl) rfl rfl dX12_put_27 (fun H locs hW => ?_)
    have hR := hR.f37 (nI ((w0) + (1)))
    exact rl_vret hC hW hr hlk (Nat.le_refl _) (Nat.le_refl _) ⟨rfl, rfl, rfl, _, hR⟩ dX12_put_30
  · have hlt : w0 < 250 := rg_lt c1 (by decide) (by omega)
    refine lv_aload_n hx hb dX12_put_10 rfl (lv_at hl 0 rfl) ?_
    refine rl_get (v := .ref (m + 27)) hC hW fl_X12_97 hR.1 rfl dX12_put_11 ?_
    refine lv_aload_n hx hb dX12_put_14 rfl (lv_at hl 0 rfl) ?_
    refine rl_get (v := .int (F 37)) hC hW fl_X12_220 hR.1 rfl dX12_put_15 ?_
    refine rl_topn (hF37) ?_
    refine lv_lload_n hx hb dX12_put_18 rfl (lv_at hl 1 rfl) ?_
    refine rl_last_n (g := L 38) hC hW hR.a38 (by omega) (by decide) dX12_put_19 (fun H locs hW => ?_)
    have hR := hR.s38 (vp_updL (L 38) (w0) (v))
    refine lv_aload_n hx hb dX12_put_20 rfl (lv_at hl 0 rfl) ?_
    refine lv_dup hx hb dX12_put_21 rfl ?_
    refine rl_get (v := .int (F 37)) hC hW fl_X12_220 hR.1 rfl dX12_put_22 ?_
    refine rl_topn (hF37) ?_
    refine lv_iconst (v := (nI (1))) hx hb dX12_put_25 (by decide) ?_
    refine lv_iadd hx hb dX12_put_26 ?_
    refine rl_topn (nI_add _ _) ?_
    refine rl_put (v := .int (nI ((w0) + (1)))) hC hW fp_X12_220 hR.1 (Nat.le_of_ble_eq_true rfl) rfl rfl dX12_put_27 (fun H locs hW => ?_)
    have hR := hR.f37 (nI ((w0) + (1)))
    exact rl_vret hC hW hr hlk (Nat.le_refl _) (Nat.le_refl _) ⟨rfl, rfl, rfl, _, hR⟩ dX12_put_30

set_option maxHeartbeats 4000000 in
set_option maxRecDepth 100000 in
theorem cR_begins (l : Launch) (D : va_G) (t : Nat → ClassId) (A : Nat → Prop) (f : rl_M) (z : Nat) (m : Nat) (I : Nat → Nat → Int32) (L : Nat → Nat → Int64) (F : Nat → Int32) (hR : RM t f m I L F) (T : Nat → Nat → Nat) (ρ κ : Nat) (hρ : ρ ≤ 43100) (hκ : κ ≤ 26200) (hTp : RTp T (I 3) (I 4) (I 5) (I 6)) (hVw : RVw ρ (I 12)) (hVe : RVe T ρ κ (I 15) (I 16) (I 18)) (d k w0 : Nat) (hd : d < 130) (hk : k < κ) (hw0 : w0 < 900) (hF37 : F 37 = nI w0) : rl_Met l yX12_begins (.code yX12_begins cX12_begins 3 (some FieldType.int)) (rl_rm 1 0 0) D t A f z [.ref (m), .int (nI (d)), .int (nI (k))] (rl_qi z fun r f1 => r = nI (d + 1) ∧ ∃ L', RM t f1 m (va_up (va_up I 39 (upd (I 39) d (nI k))) 40 (upd (I 40) d (nI 0))) L' (upd (upd F 37 (nI (w0 + 1))) 37 (nI (w0 + 1 + 1)))) := by
  refine rl_begin (own := RX12) (lv := [(0, .ref (m)), (1, .int (nI (d))), (2, .int (nI (k)))]) (by decide +kernel) rfl (Nat.le_of_ble_eq_true rfl) rfl fun p e s m0 args below meth c ls H locs hC hr hlk hnm hW hl hx hb => ?_
  obtain ⟨sh, pn, hsh, h15, h16, hpn, hth⟩ := hVe k hk
  refine lv_aload_n hx hb dX12_begins_0 rfl (lv_at hl 0 rfl) ?_
  refine rl_get (v := .ref (m + 28)) hC hW fl_X12_100 hR.1 rfl dX12_begins_1 ?_
  refine lv_iload_n hx hb dX12_begins_4 rfl (lv_at hl 1 rfl) ?_
  refine lv_iload_n hx hb dX12_begins_5 rfl (lv_at hl 2 rfl) ?_
  refine rl_iast_n (g := I 39) hC hW hR.a39 (by omega) (by decide) dX12_begins_6 (fun H locs hW => ?_)
  have hR := hR.s39 (upd (I 39) (d) ((nI (k))))
  refine lv_aload_n hx hb dX12_begins_7 rfl (lv_at hl 0 rfl) ?_
  refine rl_get (v := .ref (m + 29)) hC hW fl_X12_103 hR.1 rfl dX12_begins_8 ?_
  refine lv_iload_n hx hb dX12_begins_11 rfl (lv_at hl 1 rfl) ?_
  refine lv_iconst (v := (nI (0))) hx hb dX12_begins_12 (by decide) ?_
  refine rl_iast_n (g := I 40) hC hW hR.a40 (by omega) (by decide) dX12_begins_13 (fun H locs hW => ?_)
  have hR := hR.s40 (upd (I 40) (d) ((nI (0))))
  refine lv_aload_n hx hb dX12_begins_14 rfl (lv_at hl 0 rfl) ?_
  refine lv_iconst (v := (nI (2))) hx hb dX12_begins_15 (by decide) ?_
  refine lv_aload_n hx hb dX12_begins_16 rfl (lv_at hl 0 rfl) ?_
  refine rl_get (v := .ref (m + 14)) hC hW fl_X12_52 hR.1 rfl dX12_begins_17 ?_
  refine lv_iload_n hx hb dX12_begins_20 rfl (lv_at hl 2 rfl) ?_
  refine rl_iald_n (g := I 15) hC hW hR.a15 (by omega) (by decide) dX12_begins_21 ?_
  refine rl_topn (h15) ?_
  refine lv_iconst (v := (nI (3))) hx hb dX12_begins_22 (by decide) ?_
  refine lv_idiv hx hb dX12_begins_23 (by decide) ?_
  refine rl_topn (pk_div (by omega) (by decide) (by decide)) ?_
  refine lv_iadd hx hb dX12_begins_24 ?_
  refine rl_topn (nI_add _ _) ?_
  refine lv_i2l hx hb dX12_begins_25 rfl ?_
  refine rl_callvQ (rl_runV (b := m) (As := [.long ((nI ((2) + ((sh) / 3))).toInt64)]) (rest := []) hC hW (cR_put l D t A _ z m _ _ _ hR (w0) (by omega) hF37 _) cs_X12_223 im_X12_put sl_X12_put hR.1 rfl ⟨(Nat.le_of_ble_eq_true rfl), (Nat.le_of_ble_eq_true rfl)⟩ rfl hl.1 rfl (Nat.le_of_ble_eq_true rfl) dX12_begins_26 ⟨(Nat.le_of_ble_eq_true rfl), (Nat.le_of_ble_eq_true rfl)⟩) hW (fun f1 H locs hp hW => ?_)
  obtain ⟨L1, hR⟩ := hp
  refine lv_aload_n hx hb dX12_begins_29 rfl (lv_at hl 0 rfl) ?_
  refine lv_aload_n hx hb dX12_begins_30 rfl (lv_at hl 0 rfl) ?_
  refine rl_get (v := .ref (m + 15)) hC hW fl_X12_55 hR.1 rfl dX12_begins_31 ?_
  refine lv_iload_n hx hb dX12_begins_34 rfl (lv_at hl 2 rfl) ?_
  refine rl_iald_n (g := I 16) hC hW hR.a16 (by omega) (by decide) dX12_begins_35 ?_
  refine rl_topn (h16) ?_
  refine lv_i2l hx hb dX12_begins_36 rfl ?_
  refine rl_callvQ (rl_runV (b := m) (As := [.long ((nI (pn)).toInt64)]) (rest := []) hC hW (cR_put l D t A _ z m _ _ _ hR (w0 + 1) (by omega) rfl _) cs_X12_223 im_X12_put sl_X12_put hR.1 rfl ⟨(Nat.le_of_ble_eq_true rfl), (Nat.le_of_ble_eq_true rfl)⟩ rfl hl.1 rfl (Nat.le_of_ble_eq_true rfl) dX12_begins_37 ⟨(Nat.le_of_ble_eq_true rfl), (Nat.le_of_ble_eq_true rfl)⟩) hW (fun f1 H locs hp hW => ?_)
  obtain ⟨L2, hR⟩ := hp
  refine lv_iload_n hx hb dX12_begins_40 rfl (lv_at hl 1 rfl) ?_
  refine lv_iconst (v := (nI (1))) hx hb dX12_begins_41 (by decide) ?_
  refine lv_iadd hx hb dX12_begins_42 ?_
  refine rl_topn (nI_add _ _) ?_
  exact rl_iret hC hW hr hlk (Nat.le_refl _) (Nat.le_refl _) ⟨_, rfl, rfl, rfl, rfl, _, hR⟩ dX12_begins_43

set_option maxHeartbeats 4000000 in
set_option maxRecDepth 100000 in
theorem cR_writePart (l : Launch) (D : va_G) (t : Nat → ClassId) (A : Nat → Prop) (f : rl_M) (z : Nat) (m : Nat) (I : Nat → Nat → Int32) (L : Nat → Nat → Int64) (F : Nat → Int32) (hR : RM t f m I L F) (T : Nat → Nat → Nat) (ρ κ : Nat) (hρ : ρ ≤ 43100) (hκ : κ ≤ 26200) (hTp : RTp T (I 3) (I 4) (I 5) (I 6)) (hVw : RVw ρ (I 12)) (hVe : RVe T ρ κ (I 15) (I 16) (I 18)) (d k q pn w0 : Nat) (hd : d + 1 < 130) (hk : k < κ) (e39 : I 39 d = nI k) (e40 : I 40 d = nI q) (e16 : I 16 k = nI pn) (hpn5 : pn ≤ 5) (hq : q < pn) (hwr : rf_wr κ (d + 1) (I 39) (I 40) (I 16)) (hw0 : w0 < 800) (hF37 : F 37 = nI w0) : rl_Met l yX12_writePart (.code yX12_writePart cX12_writePart 7 (some FieldType.int)) (rl_rm 2 0 0) D t A f z [.ref (m), .int (nI (d + 1))] (rl_qi z fun r f1 => ∃ (d' w' : Nat) (I' : Nat → Nat → Int32) (L' : Nat → Nat → Int64) (F' : Nat → Int32), r = nI d' ∧ RM t f1 m I' L' F' ∧ (∀ j, j ≠ 39 → j ≠ 40 → I' j = I j) ∧ (∀ j, j ≠ 37 → F' j = F j) ∧ F' 37 = nI w' ∧ w0 + 3 ≤ w' ∧ w' ≤ w0 + 12 ∧ (d' = d + 1 ∨ (d' = d + 1 + 1 ∧ w0 + 5 ≤ w')) ∧ rf_wr κ d' (I' 39) (I' 40) (I 16)) := by
  refine rl_begin (own := RX12) (lv := [(0, .ref (m)), (1, .int (nI (d + 1)))]) (by decide +kernel) rfl (Nat.le_of_ble_eq_true rfl) rfl fun p e s m0 args below meth c ls H locs hC hr hlk hnm hW hl hx hb => ?_
  obtain ⟨sh, pn2, hsh, h15, h16, hpn, hth⟩ := hVe k hk
  have ep : pn2 = pn := by have h5 := (hTp.1 sh hsh).2; rw [e16] at h16; exact ((nI_eq (by omega) (by omega)).mp h16).symm
  subst ep
  have h5 := (hTp.1 sh hsh).2
  have hnm := hTp.2 sh q hsh (by omega)
  have hs5 := hnm.2.2.2.1
  have hX := hth q hq
  have hcase : T 4 (5 * sh + q) = 0 ∨ T 4 (5 * sh + q) = 1 ∨ T 4 (5 * sh + q) = 2 ∨ T 4 (5 * sh + q) = 3 ∨ T 4 (5 * sh + q) = 4 := by omega
  rcases hcase with hs | hs | hs | hs | hs
  · refine lv_aload_n hx hb dX12_writePart_0 rfl (lv_at hl 0 rfl) ?_
    refine rl_get (v := .ref (m + 28)) hC hW fl_X12_100 hR.1 rfl dX12_writePart_1 ?_
    refine lv_iload_n hx hb dX12_writePart_4 rfl (lv_at hl 1 rfl) ?_
    refine lv_iconst (v := (nI (1))) hx hb dX12_writePart_5 (by decide) ?_
    refine lv_isub hx hb dX12_writePart_6 ?_
    refine rl_topn (rg_sub (c := d) (by omega)) ?_
    refine rl_iald_n (g := I 39) hC hW hR.a39 (by omega) (by decide) dX12_writePart_7 ?_
    refine rl_topn (e39) ?_
    refine lv_istore_n (lv' := [(2, .int (nI (k))), (0, .ref (m)), (1, .int (nI (d + 1)))]) hx hb dX12_writePart_8 rfl hl (by decide) rfl (fun ls hl => ?_)
    refine lv_aload_n hx hb dX12_writePart_9 rfl (lv_at hl 1 rfl) ?_
    refine rl_get (v := .ref (m + 29)) hC hW fl_X12_103 hR.1 rfl dX12_writePart_10 ?_
    refine lv_iload_n hx hb dX12_writePart_13 rfl (lv_at hl 2 rfl) ?_
    refine lv_iconst (v := (nI (1))) hx hb dX12_writePart_14 (by decide) ?_
    refine lv_isub hx hb dX12_writePart_15 ?_
    refine rl_topn (rg_sub (c := d) (by omega)) ?_
    refine rl_iald_n (g := I 40) hC hW hR.a40 (by omega) (by decide) dX12_writePart_16 ?_
    refine rl_topn (e40) ?_
    refine lv_istore_n (lv' := [(3, .int (nI (q))), (2, .int (nI (k))), (0, .ref (m)), (1, .int (nI (d + 1)))]) hx hb dX12_writePart_17 rfl hl (by decide) rfl (fun ls hl => ?_)
    refine lv_aload_n hx hb dX12_writePart_18 rfl (lv_at hl 2 rfl) ?_
    refine rl_get (v := .ref (m + 17)) hC hW fl_X12_63 hR.1 rfl dX12_writePart_19 ?_
    refine lv_iconst (v := (nI (5))) hx hb dX12_writePart_22 (by decide) ?_
    refine lv_iload_n hx hb dX12_writePart_23 rfl (lv_at hl 1 rfl) ?_
    refine lv_imul hx hb dX12_writePart_24 ?_
    refine rl_topn (pk_mul _ _) ?_
    refine lv_iload_n hx hb dX12_writePart_25 rfl (lv_at hl 0 rfl) ?_
    refine lv_iadd hx hb dX12_writePart_26 ?_
    refine rl_topn (nI_add _ _) ?_
    refine rl_iald_n (g := I 18) hC hW hR.a18 (by omega) (by decide) dX12_writePart_27 ?_
    refine lv_istore (lv' := [(4, .int (I 18 (((5) * (k)) + (q)))), (3, .int (nI (q))), (2, .int (nI (k))), (0, .ref (m)), (1, .int (nI (d + 1)))]) hx hb dX12_writePart_28 hl (by decide) rfl (fun ls hl => ?_)
    refine lv_aload_n hx hb dX12_writePart_30 rfl (lv_at hl 3 rfl) ?_
    refine rl_get (v := .ref (m + 6)) hC hW fl_X12_26 hR.1 rfl dX12_writePart_31 ?_
    refine lv_iconst (v := (nI (5))) hx hb dX12_writePart_34 (by decide) ?_
    refine lv_aload_n hx hb dX12_writePart_35 rfl (lv_at hl 3 rfl) ?_
    refine rl_get (v := .ref (m + 14)) hC hW fl_X12_52 hR.1 rfl dX12_writePart_36 ?_
    refine lv_iload_n hx hb dX12_writePart_39 rfl (lv_at hl 2 rfl) ?_
    refine rl_iald_n (g := I 15) hC hW hR.a15 (by omega) (by decide) dX12_writePart_40 ?_
    refine rl_topn (h15) ?_
    refine lv_imul hx hb dX12_writePart_41 ?_
    refine rl_topn (pk_mul _ _) ?_
    refine lv_iload_n hx hb dX12_writePart_42 rfl (lv_at hl 1 rfl) ?_
    refine lv_iadd hx hb dX12_writePart_43 ?_
    refine rl_topn (nI_add _ _) ?_
    refine rl_iald_n (g := I 5) hC hW hR.a5 (by omega) (by decide) dX12_writePart_44 ?_
    refine rl_topn (hnm.2.2.1.trans (by rw [hs])) ?_
    refine lv_istore (lv' := [(5, .int (nI (0))), (4, .int (I 18 (((5) * (k)) + (q)))), (3, .int (nI (q))), (2, .int (nI (k))), (0, .ref (m)), (1, .int (nI (d + 1)))]) hx hb dX12_writePart_45 hl (by decide) rfl (fun ls hl => ?_)
    refine lv_aload_n hx hb dX12_writePart_47 rfl (lv_at hl 4 rfl) ?_
    refine rl_get (v := .ref (m + 29)) hC hW fl_X12_103 hR.1 rfl dX12_writePart_48 ?_
    refine lv_iload_n hx hb dX12_writePart_51 rfl (lv_at hl 5 rfl) ?_
    refine lv_iconst (v := (nI (1))) hx hb dX12_writePart_52 (by decide) ?_
    refine lv_isub hx hb dX12_writePart_53 ?_
    refine rl_topn (rg_sub (c := d) (by omega)) ?_
    refine lv_dup2_11 hx hb dX12_writePart_54 rfl rfl ?_
    refine rl_iald_n (g := I 40) hC hW hR.a40 (by omega) (by decide) dX12_writePart_55 ?_
    refine rl_topn (e40) ?_
    refine lv_iconst (v := (nI (1))) hx hb dX12_writePart_56 (by decide) ?_
    refine lv_iadd hx hb dX12_writePart_57 ?_
    refine rl_topn (nI_add _ _) ?_
    refine rl_iast_n (g := I 40) hC hW hR.a40 (by omega) (by decide) dX12_writePart_58 (fun H locs hW => ?_)
    have hR := hR.s40 (upd (I 40) (d) ((nI ((q) + (1)))))
    refine lv_aload_n hx hb dX12_writePart_59 rfl (lv_at hl 4 rfl) ?_
    refine lv_aload_n hx hb dX12_writePart_60 rfl (lv_at hl 4 rfl) ?_
    refine rl_get (v := .ref (m + 5)) hC hW fl_X12_23 hR.1 rfl dX12_writePart_61 ?_
    refine lv_iconst (v := (nI (5))) hx hb dX12_writePart_64 (by decide) ?_
    refine lv_aload_n hx hb dX12_writePart_65 rfl (lv_at hl 4 rfl) ?_
    refine rl_get (v := .ref (m + 14)) hC hW fl_X12_52 hR.1 rfl dX12_writePart_66 ?_
    refine lv_iload_n hx hb dX12_writePart_69 rfl (lv_at hl 3 rfl) ?_
    refine rl_iald_n (g := I 15) hC hW hR.a15 (by omega) (by decide) dX12_writePart_70 ?_
    refine rl_topn (h15) ?_
    refine lv_imul hx hb dX12_writePart_71 ?_
    refine rl_topn (pk_mul _ _) ?_
    refine lv_iload_n hx hb dX12_writePart_72 rfl (lv_at hl 2 rfl) ?_
    refine lv_iadd hx hb dX12_writePart_73 ?_
    refine rl_topn (nI_add _ _) ?_
    refine rl_iald_n (g := I 4) hC hW hR.a4 (by omega) (by decide) dX12_writePart_74 ?_
    refine rl_topn (hnm.1) ?_
    refine lv_i2l hx hb dX12_writePart_75 rfl ?_
    refine rl_callvQ (rl_runV (b := m) (As := [.long ((nI (T 3 (5 * sh + q))).toInt64)]) (rest := []) hC hW (cR_put l D t A _ z m _ _ _ hR (w0) (by omega) hF37 _) cs_X12_223 im_X12_put sl_X12_put hR.1 rfl ⟨(Nat.le_of_ble_eq_true rfl), (Nat.le_of_ble_eq_true rfl)⟩ rfl hl.1 rfl (Nat.le_of_ble_eq_true rfl) dX12_writePart_76 ⟨(Nat.le_of_ble_eq_true rfl), (Nat.le_of_ble_eq_true rfl)⟩) hW (fun f1 H locs hp hW => ?_)
    obtain ⟨L1, hR⟩ := hp
    refine lv_aload_n hx hb dX12_writePart_79 rfl (lv_at hl 4 rfl) ?_
    refine lv_iload hx hb dX12_writePart_80 (lv_at hl 0 rfl) ?_
    refine lv_i2l hx hb dX12_writePart_82 rfl ?_
    refine rl_callvQ (rl_runV (b := m) (As := [.long ((nI (0)).toInt64)]) (rest := []) hC hW (cR_put l D t A _ z m _ _ _ hR (w0 + 1) (by omega) rfl _) cs_X12_223 im_X12_put sl_X12_put hR.1 rfl ⟨(Nat.le_of_ble_eq_true rfl), (Nat.le_of_ble_eq_true rfl)⟩ rfl hl.1 rfl (Nat.le_of_ble_eq_true rfl) dX12_writePart_83 ⟨(Nat.le_of_ble_eq_true rfl), (Nat.le_of_ble_eq_true rfl)⟩) hW (fun f1 H locs hp hW => ?_)
    obtain ⟨L2, hR⟩ := hp
    refine lv_iload hx hb dX12_writePart_86 (lv_at hl 0 rfl) ?_
    refine lv_iconst (v := (nI (2))) hx hb dX12_writePart_88 (by decide) ?_
    refine lv_icmp_ge (tgt := 109) hx hb dX12_writePart_89 (by decide) (fun c_1 => ?_) (fun c_1 => ?_)
    · first | exact absurd c_1 (by decide) | exact absurd (by decide) c_1
    · refine lv_aload_n hx hb dX12_writePart_92 rfl (lv_at hl 4 rfl) ?_
      refine lv_aload_n hx hb dX12_writePart_93 rfl (lv_at hl 4 rfl) ?_
      refine rl_get (v := .ref (m + 16)) hC hW fl_X12_59 hR.1 rfl dX12_writePart_94 ?_
      refine lv_iconst (v := (nI (5))) hx hb dX12_writePart_97 (by decide) ?_
      refine lv_iload_n hx hb dX12_writePart_98 rfl (lv_at hl 3 rfl) ?_
      refine lv_imul hx hb dX12_writePart_99 ?_
      refine rl_topn (pk_mul _ _) ?_
      refine lv_iload_n hx hb dX12_writePart_100 rfl (lv_at hl 2 rfl) ?_
      refine lv_iadd hx hb dX12_writePart_101 ?_
      refine rl_topn (nI_add _ _) ?_
      refine rl_lald_n (g := L2 17) hC hW hR.a17 (by omega) (by decide) dX12_writePart_102 ?_
      refine rl_callvQ (rl_runV (b := m) (As := [.long (L2 17 (((5) * (k)) + (q)))]) (rest := []) hC hW (cR_put l D t A _ z m _ _ _ hR (w0 + 1 + 1) (by omega) rfl _) cs_X12_223 im_X12_put sl_X12_put hR.1 rfl ⟨(Nat.le_of_ble_eq_true rfl), (Nat.le_of_ble_eq_true rfl)⟩ rfl hl.1 rfl (Nat.le_of_ble_eq_true rfl) dX12_writePart_103 ⟨(Nat.le_of_ble_eq_true rfl), (Nat.le_of_ble_eq_true rfl)⟩) hW (fun f1 H locs hp hW => ?_)
      obtain ⟨L3, hR⟩ := hp
      refine lv_goto (tgt := 265) hx hb dX12_writePart_106 (by decide) ?_
      refine lv_iload_n hx hb dX12_writePart_265 rfl (lv_at hl 5 rfl) ?_
      exact rl_iret hC hW hr hlk (Nat.le_refl _) (Nat.le_refl _) ⟨_, rfl, rfl, rfl, d + 1, w0 + 1 + 1 + 1, _, _, _, rfl, hR, (fun j h1 h2 => by rw [va_up_n _ _ h2]), (fun j h1 => by repeat rw [rg_upl h1]), rfl, by omega, by omega, Or.inl rfl, hwr.next hk e39 e16 hq hpn5⟩ dX12_writePart_266
  · refine lv_aload_n hx hb dX12_writePart_0 rfl (lv_at hl 0 rfl) ?_
    refine rl_get (v := .ref (m + 28)) hC hW fl_X12_100 hR.1 rfl dX12_writePart_1 ?_
    refine lv_iload_n hx hb dX12_writePart_4 rfl (lv_at hl 1 rfl) ?_
    refine lv_iconst (v := (nI (1))) hx hb dX12_writePart_5 (by decide) ?_
    refine lv_isub hx hb dX12_writePart_6 ?_
    refine rl_topn (rg_sub (c := d) (by omega)) ?_
    refine rl_iald_n (g := I 39) hC hW hR.a39 (by omega) (by decide) dX12_writePart_7 ?_
    refine rl_topn (e39) ?_
    refine lv_istore_n (lv' := [(2, .int (nI (k))), (0, .ref (m)), (1, .int (nI (d + 1)))]) hx hb dX12_writePart_8 rfl hl (by decide) rfl (fun ls hl => ?_)
    refine lv_aload_n hx hb dX12_writePart_9 rfl (lv_at hl 1 rfl) ?_
    refine rl_get (v := .ref (m + 29)) hC hW fl_X12_103 hR.1 rfl dX12_writePart_10 ?_
    refine lv_iload_n hx hb dX12_writePart_13 rfl (lv_at hl 2 rfl) ?_
    refine lv_iconst (v := (nI (1))) hx hb dX12_writePart_14 (by decide) ?_
    refine lv_isub hx hb dX12_writePart_15 ?_
    refine rl_topn (rg_sub (c := d) (by omega)) ?_
    refine rl_iald_n (g := I 40) hC hW hR.a40 (by omega) (by decide) dX12_writePart_16 ?_
    refine rl_topn (e40) ?_
    refine lv_istore_n (lv' := [(3, .int (nI (q))), (2, .int (nI (k))), (0, .ref (m)), (1, .int (nI (d + 1)))]) hx hb dX12_writePart_17 rfl hl (by decide) rfl (fun ls hl => ?_)
    refine lv_aload_n hx hb dX12_writePart_18 rfl (lv_at hl 2 rfl) ?_
    refine rl_get (v := .ref (m + 17)) hC hW fl_X12_63 hR.1 rfl dX12_writePart_19 ?_
    refine lv_iconst (v := (nI (5))) hx hb dX12_writePart_22 (by decide) ?_
    refine lv_iload_n hx hb dX12_writePart_23 rfl (lv_at hl 1 rfl) ?_
    refine lv_imul hx hb dX12_writePart_24 ?_
    refine rl_topn (pk_mul _ _) ?_
    refine lv_iload_n hx hb dX12_writePart_25 rfl (lv_at hl 0 rfl) ?_
    refine lv_iadd hx hb dX12_writePart_26 ?_
    refine rl_topn (nI_add _ _) ?_
    refine rl_iald_n (g := I 18) hC hW hR.a18 (by omega) (by decide) dX12_writePart_27 ?_
    refine lv_istore (lv' := [(4, .int (I 18 (((5) * (k)) + (q)))), (3, .int (nI (q))), (2, .int (nI (k))), (0, .ref (m)), (1, .int (nI (d + 1)))]) hx hb dX12_writePart_28 hl (by decide) rfl (fun ls hl => ?_)
    refine lv_aload_n hx hb dX12_writePart_30 rfl (lv_at hl 3 rfl) ?_
    refine rl_get (v := .ref (m + 6)) hC hW fl_X12_26 hR.1 rfl dX12_writePart_31 ?_
    refine lv_iconst (v := (nI (5))) hx hb dX12_writePart_34 (by decide) ?_
    refine lv_aload_n hx hb dX12_writePart_35 rfl (lv_at hl 3 rfl) ?_
    refine rl_get (v := .ref (m + 14)) hC hW fl_X12_52 hR.1 rfl dX12_writePart_36 ?_
    refine lv_iload_n hx hb dX12_writePart_39 rfl (lv_at hl 2 rfl) ?_
    refine rl_iald_n (g := I 15) hC hW hR.a15 (by omega) (by decide) dX12_writePart_40 ?_
    refine rl_topn (h15) ?_
    refine lv_imul hx hb dX12_writePart_41 ?_
    refine rl_topn (pk_mul _ _) ?_
    refine lv_iload_n hx hb dX12_writePart_42 rfl (lv_at hl 1 rfl) ?_
    refine lv_iadd hx hb dX12_writePart_43 ?_
    refine rl_topn (nI_add _ _) ?_
    refine rl_iald_n (g := I 5) hC hW hR.a5 (by omega) (by decide) dX12_writePart_44 ?_
    refine rl_topn (hnm.2.2.1.trans (by rw [hs])) ?_
    refine lv_istore (lv' := [(5, .int (nI (1))), (4, .int (I 18 (((5) * (k)) + (q)))), (3, .int (nI (q))), (2, .int (nI (k))), (0, .ref (m)), (1, .int (nI (d + 1)))]) hx hb dX12_writePart_45 hl (by decide) rfl (fun ls hl => ?_)
    refine lv_aload_n hx hb dX12_writePart_47 rfl (lv_at hl 4 rfl) ?_
    refine rl_get (v := .ref (m + 29)) hC hW fl_X12_103 hR.1 rfl dX12_writePart_48 ?_
    refine lv_iload_n hx hb dX12_writePart_51 rfl (lv_at hl 5 rfl) ?_
    refine lv_iconst (v := (nI (1))) hx hb dX12_writePart_52 (by decide) ?_
    refine lv_isub hx hb dX12_writePart_53 ?_
    refine rl_topn (rg_sub (c := d) (by omega)) ?_
    refine lv_dup2_11 hx hb dX12_writePart_54 rfl rfl ?_
    refine rl_iald_n (g := I 40) hC hW hR.a40 (by omega) (by decide) dX12_writePart_55 ?_
    refine rl_topn (e40) ?_
    refine lv_iconst (v := (nI (1))) hx hb dX12_writePart_56 (by decide) ?_
    refine lv_iadd hx hb dX12_writePart_57 ?_
    refine rl_topn (nI_add _ _) ?_
    refine rl_iast_n (g := I 40) hC hW hR.a40 (by omega) (by decide) dX12_writePart_58 (fun H locs hW => ?_)
    have hR := hR.s40 (upd (I 40) (d) ((nI ((q) + (1)))))
    refine lv_aload_n hx hb dX12_writePart_59 rfl (lv_at hl 4 rfl) ?_
    refine lv_aload_n hx hb dX12_writePart_60 rfl (lv_at hl 4 rfl) ?_
    refine rl_get (v := .ref (m + 5)) hC hW fl_X12_23 hR.1 rfl dX12_writePart_61 ?_
    refine lv_iconst (v := (nI (5))) hx hb dX12_writePart_64 (by decide) ?_
    refine lv_aload_n hx hb dX12_writePart_65 rfl (lv_at hl 4 rfl) ?_
    refine rl_get (v := .ref (m + 14)) hC hW fl_X12_52 hR.1 rfl dX12_writePart_66 ?_
    refine lv_iload_n hx hb dX12_writePart_69 rfl (lv_at hl 3 rfl) ?_
    refine rl_iald_n (g := I 15) hC hW hR.a15 (by omega) (by decide) dX12_writePart_70 ?_
    refine rl_topn (h15) ?_
    refine lv_imul hx hb dX12_writePart_71 ?_
    refine rl_topn (pk_mul _ _) ?_
    refine lv_iload_n hx hb dX12_writePart_72 rfl (lv_at hl 2 rfl) ?_
    refine lv_iadd hx hb dX12_writePart_73 ?_
    refine rl_topn (nI_add _ _) ?_
    refine rl_iald_n (g := I 4) hC hW hR.a4 (by omega) (by decide) dX12_writePart_74 ?_
    refine rl_topn (hnm.1) ?_
    refine lv_i2l hx hb dX12_writePart_75 rfl ?_
    refine rl_callvQ (rl_runV (b := m) (As := [.long ((nI (T 3 (5 * sh + q))).toInt64)]) (rest := []) hC hW (cR_put l D t A _ z m _ _ _ hR (w0) (by omega) hF37 _) cs_X12_223 im_X12_put sl_X12_put hR.1 rfl ⟨(Nat.le_of_ble_eq_true rfl), (Nat.le_of_ble_eq_true rfl)⟩ rfl hl.1 rfl (Nat.le_of_ble_eq_true rfl) dX12_writePart_76 ⟨(Nat.le_of_ble_eq_true rfl), (Nat.le_of_ble_eq_true rfl)⟩) hW (fun f1 H locs hp hW => ?_)
    obtain ⟨L1, hR⟩ := hp
    refine lv_aload_n hx hb dX12_writePart_79 rfl (lv_at hl 4 rfl) ?_
    refine lv_iload hx hb dX12_writePart_80 (lv_at hl 0 rfl) ?_
    refine lv_i2l hx hb dX12_writePart_82 rfl ?_
    refine rl_callvQ (rl_runV (b := m) (As := [.long ((nI (1)).toInt64)]) (rest := []) hC hW (cR_put l D t A _ z m _ _ _ hR (w0 + 1) (by omega) rfl _) cs_X12_223 im_X12_put sl_X12_put hR.1 rfl ⟨(Nat.le_of_ble_eq_true rfl), (Nat.le_of_ble_eq_true rfl)⟩ rfl hl.1 rfl (Nat.le_of_ble_eq_true rfl) dX12_writePart_83 ⟨(Nat.le_of_ble_eq_true rfl), (Nat.le_of_ble_eq_true rfl)⟩) hW (fun f1 H locs hp hW => ?_)
    obtain ⟨L2, hR⟩ := hp
    refine lv_iload hx hb dX12_writePart_86 (lv_at hl 0 rfl) ?_
    refine lv_iconst (v := (nI (2))) hx hb dX12_writePart_88 (by decide) ?_
    refine lv_icmp_ge (tgt := 109) hx hb dX12_writePart_89 (by decide) (fun c_2 => ?_) (fun c_2 => ?_)
    · first | exact absurd c_2 (by decide) | exact absurd (by decide) c_2
    · refine lv_aload_n hx hb dX12_writePart_92 rfl (lv_at hl 4 rfl) ?_
      refine lv_aload_n hx hb dX12_writePart_93 rfl (lv_at hl 4 rfl) ?_
      refine rl_get (v := .ref (m + 16)) hC hW fl_X12_59 hR.1 rfl dX12_writePart_94 ?_
      refine lv_iconst (v := (nI (5))) hx hb dX12_writePart_97 (by decide) ?_
      refine lv_iload_n hx hb dX12_writePart_98 rfl (lv_at hl 3 rfl) ?_
      refine lv_imul hx hb dX12_writePart_99 ?_
      refine rl_topn (pk_mul _ _) ?_
      refine lv_iload_n hx hb dX12_writePart_100 rfl (lv_at hl 2 rfl) ?_
      refine lv_iadd hx hb dX12_writePart_101 ?_
      refine rl_topn (nI_add _ _) ?_
      refine rl_lald_n (g := L2 17) hC hW hR.a17 (by omega) (by decide) dX12_writePart_102 ?_
      refine rl_callvQ (rl_runV (b := m) (As := [.long (L2 17 (((5) * (k)) + (q)))]) (rest := []) hC hW (cR_put l D t A _ z m _ _ _ hR (w0 + 1 + 1) (by omega) rfl _) cs_X12_223 im_X12_put sl_X12_put hR.1 rfl ⟨(Nat.le_of_ble_eq_true rfl), (Nat.le_of_ble_eq_true rfl)⟩ rfl hl.1 rfl (Nat.le_of_ble_eq_true rfl) dX12_writePart_103 ⟨(Nat.le_of_ble_eq_true rfl), (Nat.le_of_ble_eq_true rfl)⟩) hW (fun f1 H locs hp hW => ?_)
      obtain ⟨L3, hR⟩ := hp
      refine lv_goto (tgt := 265) hx hb dX12_writePart_106 (by decide) ?_
      refine lv_iload_n hx hb dX12_writePart_265 rfl (lv_at hl 5 rfl) ?_
      exact rl_iret hC hW hr hlk (Nat.le_refl _) (Nat.le_refl _) ⟨_, rfl, rfl, rfl, d + 1, w0 + 1 + 1 + 1, _, _, _, rfl, hR, (fun j h1 h2 => by rw [va_up_n _ _ h2]), (fun j h1 => by repeat rw [rg_upl h1]), rfl, by omega, by omega, Or.inl rfl, hwr.next hk e39 e16 hq hpn5⟩ dX12_writePart_266
  · rw [hs] at hX
    rcases hX with hX | hX | hX | hX
    · refine lv_aload_n hx hb dX12_writePart_0 rfl (lv_at hl 0 rfl) ?_
      refine rl_get (v := .ref (m + 28)) hC hW fl_X12_100 hR.1 rfl dX12_writePart_1 ?_
      refine lv_iload_n hx hb dX12_writePart_4 rfl (lv_at hl 1 rfl) ?_
      refine lv_iconst (v := (nI (1))) hx hb dX12_writePart_5 (by decide) ?_
      refine lv_isub hx hb dX12_writePart_6 ?_
      refine rl_topn (rg_sub (c := d) (by omega)) ?_
      refine rl_iald_n (g := I 39) hC hW hR.a39 (by omega) (by decide) dX12_writePart_7 ?_
      refine rl_topn (e39) ?_
      refine lv_istore_n (lv' := [(2, .int (nI (k))), (0, .ref (m)), (1, .int (nI (d + 1)))]) hx hb dX12_writePart_8 rfl hl (by decide) rfl (fun ls hl => ?_)
      refine lv_aload_n hx hb dX12_writePart_9 rfl (lv_at hl 1 rfl) ?_
      refine rl_get (v := .ref (m + 29)) hC hW fl_X12_103 hR.1 rfl dX12_writePart_10 ?_
      refine lv_iload_n hx hb dX12_writePart_13 rfl (lv_at hl 2 rfl) ?_
      refine lv_iconst (v := (nI (1))) hx hb dX12_writePart_14 (by decide) ?_
      refine lv_isub hx hb dX12_writePart_15 ?_
      refine rl_topn (rg_sub (c := d) (by omega)) ?_
      refine rl_iald_n (g := I 40) hC hW hR.a40 (by omega) (by decide) dX12_writePart_16 ?_
      refine rl_topn (e40) ?_
      refine lv_istore_n (lv' := [(3, .int (nI (q))), (2, .int (nI (k))), (0, .ref (m)), (1, .int (nI (d + 1)))]) hx hb dX12_writePart_17 rfl hl (by decide) rfl (fun ls hl => ?_)
      refine lv_aload_n hx hb dX12_writePart_18 rfl (lv_at hl 2 rfl) ?_
      refine rl_get (v := .ref (m + 17)) hC hW fl_X12_63 hR.1 rfl dX12_writePart_19 ?_
      refine lv_iconst (v := (nI (5))) hx hb dX12_writePart_22 (by decide) ?_
      refine lv_iload_n hx hb dX12_writePart_23 rfl (lv_at hl 1 rfl) ?_
      refine lv_imul hx hb dX12_writePart_24 ?_
      refine rl_topn (pk_mul _ _) ?_
      refine lv_iload_n hx hb dX12_writePart_25 rfl (lv_at hl 0 rfl) ?_
      refine lv_iadd hx hb dX12_writePart_26 ?_
      refine rl_topn (nI_add _ _) ?_
      refine rl_iald_n (g := I 18) hC hW hR.a18 (by omega) (by decide) dX12_writePart_27 ?_
      refine rl_topn (hX) ?_
      refine lv_istore (lv' := [(4, .int (-1)), (3, .int (nI (q))), (2, .int (nI (k))), (0, .ref (m)), (1, .int (nI (d + 1)))]) hx hb dX12_writePart_28 hl (by decide) rfl (fun ls hl => ?_)
      refine lv_aload_n hx hb dX12_writePart_30 rfl (lv_at hl 3 rfl) ?_
      refine rl_get (v := .ref (m + 6)) hC hW fl_X12_26 hR.1 rfl dX12_writePart_31 ?_
      refine lv_iconst (v := (nI (5))) hx hb dX12_writePart_34 (by decide) ?_
      refine lv_aload_n hx hb dX12_writePart_35 rfl (lv_at hl 3 rfl) ?_
      refine rl_get (v := .ref (m + 14)) hC hW fl_X12_52 hR.1 rfl dX12_writePart_36 ?_
      refine lv_iload_n hx hb dX12_writePart_39 rfl (lv_at hl 2 rfl) ?_
      refine rl_iald_n (g := I 15) hC hW hR.a15 (by omega) (by decide) dX12_writePart_40 ?_
      refine rl_topn (h15) ?_
      refine lv_imul hx hb dX12_writePart_41 ?_
      refine rl_topn (pk_mul _ _) ?_
      refine lv_iload_n hx hb dX12_writePart_42 rfl (lv_at hl 1 rfl) ?_
      refine lv_iadd hx hb dX12_writePart_43 ?_
      refine rl_topn (nI_add _ _) ?_
      refine rl_iald_n (g := I 5) hC hW hR.a5 (by omega) (by decide) dX12_writePart_44 ?_
      refine rl_topn (hnm.2.2.1.trans (by rw [hs])) ?_
      refine lv_istore (lv' := [(5, .int (nI (2))), (4, .int (-1)), (3, .int (nI (q))), (2, .int (nI (k))), (0, .ref (m)), (1, .int (nI (d + 1)))]) hx hb dX12_writePart_45 hl (by decide) rfl (fun ls hl => ?_)
      refine lv_aload_n hx hb dX12_writePart_47 rfl (lv_at hl 4 rfl) ?_
      refine rl_get (v := .ref (m + 29)) hC hW fl_X12_103 hR.1 rfl dX12_writePart_48 ?_
      refine lv_iload_n hx hb dX12_writePart_51 rfl (lv_at hl 5 rfl) ?_
      refine lv_iconst (v := (nI (1))) hx hb dX12_writePart_52 (by decide) ?_
      refine lv_isub hx hb dX12_writePart_53 ?_
      refine rl_topn (rg_sub (c := d) (by omega)) ?_
      refine lv_dup2_11 hx hb dX12_writePart_54 rfl rfl ?_
      refine rl_iald_n (g := I 40) hC hW hR.a40 (by omega) (by decide) dX12_writePart_55 ?_
      refine rl_topn (e40) ?_
      refine lv_iconst (v := (nI (1))) hx hb dX12_writePart_56 (by decide) ?_
      refine lv_iadd hx hb dX12_writePart_57 ?_
      refine rl_topn (nI_add _ _) ?_
      refine rl_iast_n (g := I 40) hC hW hR.a40 (by omega) (by decide) dX12_writePart_58 (fun H locs hW => ?_)
      have hR := hR.s40 (upd (I 40) (d) ((nI ((q) + (1)))))
      refine lv_aload_n hx hb dX12_writePart_59 rfl (lv_at hl 4 rfl) ?_
      refine lv_aload_n hx hb dX12_writePart_60 rfl (lv_at hl 4 rfl) ?_
      refine rl_get (v := .ref (m + 5)) hC hW fl_X12_23 hR.1 rfl dX12_writePart_61 ?_
      refine lv_iconst (v := (nI (5))) hx hb dX12_writePart_64 (by decide) ?_
      refine lv_aload_n hx hb dX12_writePart_65 rfl (lv_at hl 4 rfl) ?_
      refine rl_get (v := .ref (m + 14)) hC hW fl_X12_52 hR.1 rfl dX12_writePart_66 ?_
      refine lv_iload_n hx hb dX12_writePart_69 rfl (lv_at hl 3 rfl) ?_
      refine rl_iald_n (g := I 15) hC hW hR.a15 (by omega) (by decide) dX12_writePart_70 ?_
      refine rl_topn (h15) ?_
      refine lv_imul hx hb dX12_writePart_71 ?_
      refine rl_topn (pk_mul _ _) ?_
      refine lv_iload_n hx hb dX12_writePart_72 rfl (lv_at hl 2 rfl) ?_
      refine lv_iadd hx hb dX12_writePart_73 ?_
      refine rl_topn (nI_add _ _) ?_
      refine rl_iald_n (g := I 4) hC hW hR.a4 (by omega) (by decide) dX12_writePart_74 ?_
      refine rl_topn (hnm.1) ?_
      refine lv_i2l hx hb dX12_writePart_75 rfl ?_
      refine rl_callvQ (rl_runV (b := m) (As := [.long ((nI (T 3 (5 * sh + q))).toInt64)]) (rest := []) hC hW (cR_put l D t A _ z m _ _ _ hR (w0) (by omega) hF37 _) cs_X12_223 im_X12_put sl_X12_put hR.1 rfl ⟨(Nat.le_of_ble_eq_true rfl), (Nat.le_of_ble_eq_true rfl)⟩ rfl hl.1 rfl (Nat.le_of_ble_eq_true rfl) dX12_writePart_76 ⟨(Nat.le_of_ble_eq_true rfl), (Nat.le_of_ble_eq_true rfl)⟩) hW (fun f1 H locs hp hW => ?_)
      obtain ⟨L1, hR⟩ := hp
      refine lv_aload_n hx hb dX12_writePart_79 rfl (lv_at hl 4 rfl) ?_
      refine lv_iload hx hb dX12_writePart_80 (lv_at hl 0 rfl) ?_
      refine lv_i2l hx hb dX12_writePart_82 rfl ?_
      refine rl_callvQ (rl_runV (b := m) (As := [.long ((nI (2)).toInt64)]) (rest := []) hC hW (cR_put l D t A _ z m _ _ _ hR (w0 + 1) (by omega) rfl _) cs_X12_223 im_X12_put sl_X12_put hR.1 rfl ⟨(Nat.le_of_ble_eq_true rfl), (Nat.le_of_ble_eq_true rfl)⟩ rfl hl.1 rfl (Nat.le_of_ble_eq_true rfl) dX12_writePart_83 ⟨(Nat.le_of_ble_eq_true rfl), (Nat.le_of_ble_eq_true rfl)⟩) hW (fun f1 H locs hp hW => ?_)
      obtain ⟨L2, hR⟩ := hp
      refine lv_iload hx hb dX12_writePart_86 (lv_at hl 0 rfl) ?_
      refine lv_iconst (v := (nI (2))) hx hb dX12_writePart_88 (by decide) ?_
      refine lv_icmp_ge (tgt := 109) hx hb dX12_writePart_89 (by decide) (fun c_3 => ?_) (fun c_3 => ?_)
      · refine lv_iload hx hb dX12_writePart_109 (lv_at hl 0 rfl) ?_
        refine lv_iconst (v := (nI (2))) hx hb dX12_writePart_111 (by decide) ?_
        refine lv_icmp_ne (tgt := 142) hx hb dX12_writePart_112 (by decide) (fun c_4 => ?_) (fun c_4 => ?_)
        · first | exact absurd c_4 (by decide) | exact absurd (by decide) c_4
        · refine lv_aload_n hx hb dX12_writePart_115 rfl (lv_at hl 4 rfl) ?_
          refine lv_iload hx hb dX12_writePart_116 (lv_at hl 1 rfl) ?_
          refine lv_iconst (v := (-1)) hx hb dX12_writePart_118 (by decide) ?_
          refine lv_icmp_ne (tgt := 128) hx hb dX12_writePart_119 (by decide) (fun c_5 => ?_) (fun c_5 => ?_)
          · first | exact absurd c_5 (by decide) | exact absurd (by decide) c_5
          · refine lv_ldc2 (v := -1) hx hb hC.2.2.2.1 (hC.2.2.2.2.1 _ (List.mem_cons_of_mem _ mw_941)) dX12_writePart_122 ?_
            refine lv_goto (tgt := 136) hx hb dX12_writePart_125 (by decide) ?_
            refine rl_callvQ (rl_runV (b := m) (As := [.long (-1)]) (rest := []) hC hW (cR_put l D t A _ z m _ _ _ hR (w0 + 1 + 1) (by omega) rfl _) cs_X12_223 im_X12_put sl_X12_put hR.1 rfl ⟨(Nat.le_of_ble_eq_true rfl), (Nat.le_of_ble_eq_true rfl)⟩ rfl hl.1 rfl (Nat.le_of_ble_eq_true rfl) dX12_writePart_136 ⟨(Nat.le_of_ble_eq_true rfl), (Nat.le_of_ble_eq_true rfl)⟩) hW (fun f1 H locs hp hW => ?_)
            obtain ⟨L3, hR⟩ := hp
            refine lv_goto (tgt := 265) hx hb dX12_writePart_139 (by decide) ?_
            refine lv_iload_n hx hb dX12_writePart_265 rfl (lv_at hl 5 rfl) ?_
            exact rl_iret hC hW hr hlk (Nat.le_refl _) (Nat.le_refl _) ⟨_, rfl, rfl, rfl, d + 1, w0 + 1 + 1 + 1, _, _, _, rfl, hR, (fun j h1 h2 => by rw [va_up_n _ _ h2]), (fun j h1 => by repeat rw [rg_upl h1]), rfl, by omega, by omega, Or.inl rfl, hwr.next hk e39 e16 hq hpn5⟩ dX12_writePart_266
      · first | exact absurd c_3 (by decide) | exact absurd (by decide) c_3
    · obtain ⟨n0, hn0, hX⟩ := hX.2
      refine lv_aload_n hx hb dX12_writePart_0 rfl (lv_at hl 0 rfl) ?_
      refine rl_get (v := .ref (m + 28)) hC hW fl_X12_100 hR.1 rfl dX12_writePart_1 ?_
      refine lv_iload_n hx hb dX12_writePart_4 rfl (lv_at hl 1 rfl) ?_
      refine lv_iconst (v := (nI (1))) hx hb dX12_writePart_5 (by decide) ?_
      refine lv_isub hx hb dX12_writePart_6 ?_
      refine rl_topn (rg_sub (c := d) (by omega)) ?_
      refine rl_iald_n (g := I 39) hC hW hR.a39 (by omega) (by decide) dX12_writePart_7 ?_
      refine rl_topn (e39) ?_
      refine lv_istore_n (lv' := [(2, .int (nI (k))), (0, .ref (m)), (1, .int (nI (d + 1)))]) hx hb dX12_writePart_8 rfl hl (by decide) rfl (fun ls hl => ?_)
      refine lv_aload_n hx hb dX12_writePart_9 rfl (lv_at hl 1 rfl) ?_
      refine rl_get (v := .ref (m + 29)) hC hW fl_X12_103 hR.1 rfl dX12_writePart_10 ?_
      refine lv_iload_n hx hb dX12_writePart_13 rfl (lv_at hl 2 rfl) ?_
      refine lv_iconst (v := (nI (1))) hx hb dX12_writePart_14 (by decide) ?_
      refine lv_isub hx hb dX12_writePart_15 ?_
      refine rl_topn (rg_sub (c := d) (by omega)) ?_
      refine rl_iald_n (g := I 40) hC hW hR.a40 (by omega) (by decide) dX12_writePart_16 ?_
      refine rl_topn (e40) ?_
      refine lv_istore_n (lv' := [(3, .int (nI (q))), (2, .int (nI (k))), (0, .ref (m)), (1, .int (nI (d + 1)))]) hx hb dX12_writePart_17 rfl hl (by decide) rfl (fun ls hl => ?_)
      refine lv_aload_n hx hb dX12_writePart_18 rfl (lv_at hl 2 rfl) ?_
      refine rl_get (v := .ref (m + 17)) hC hW fl_X12_63 hR.1 rfl dX12_writePart_19 ?_
      refine lv_iconst (v := (nI (5))) hx hb dX12_writePart_22 (by decide) ?_
      refine lv_iload_n hx hb dX12_writePart_23 rfl (lv_at hl 1 rfl) ?_
      refine lv_imul hx hb dX12_writePart_24 ?_
      refine rl_topn (pk_mul _ _) ?_
      refine lv_iload_n hx hb dX12_writePart_25 rfl (lv_at hl 0 rfl) ?_
      refine lv_iadd hx hb dX12_writePart_26 ?_
      refine rl_topn (nI_add _ _) ?_
      refine rl_iald_n (g := I 18) hC hW hR.a18 (by omega) (by decide) dX12_writePart_27 ?_
      refine rl_topn (hX) ?_
      refine lv_istore (lv' := [(4, .int (nI (n0))), (3, .int (nI (q))), (2, .int (nI (k))), (0, .ref (m)), (1, .int (nI (d + 1)))]) hx hb dX12_writePart_28 hl (by decide) rfl (fun ls hl => ?_)
      refine lv_aload_n hx hb dX12_writePart_30 rfl (lv_at hl 3 rfl) ?_
      refine rl_get (v := .ref (m + 6)) hC hW fl_X12_26 hR.1 rfl dX12_writePart_31 ?_
      refine lv_iconst (v := (nI (5))) hx hb dX12_writePart_34 (by decide) ?_
      refine lv_aload_n hx hb dX12_writePart_35 rfl (lv_at hl 3 rfl) ?_
      refine rl_get (v := .ref (m + 14)) hC hW fl_X12_52 hR.1 rfl dX12_writePart_36 ?_
      refine lv_iload_n hx hb dX12_writePart_39 rfl (lv_at hl 2 rfl) ?_
      refine rl_iald_n (g := I 15) hC hW hR.a15 (by omega) (by decide) dX12_writePart_40 ?_
      refine rl_topn (h15) ?_
      refine lv_imul hx hb dX12_writePart_41 ?_
      refine rl_topn (pk_mul _ _) ?_
      refine lv_iload_n hx hb dX12_writePart_42 rfl (lv_at hl 1 rfl) ?_
      refine lv_iadd hx hb dX12_writePart_43 ?_
      refine rl_topn (nI_add _ _) ?_
      refine rl_iald_n (g := I 5) hC hW hR.a5 (by omega) (by decide) dX12_writePart_44 ?_
      refine rl_topn (hnm.2.2.1.trans (by rw [hs])) ?_
      refine lv_istore (lv' := [(5, .int (nI (2))), (4, .int (nI (n0))), (3, .int (nI (q))), (2, .int (nI (k))), (0, .ref (m)), (1, .int (nI (d + 1)))]) hx hb dX12_writePart_45 hl (by decide) rfl (fun ls hl => ?_)
      refine lv_aload_n hx hb dX12_writePart_47 rfl (lv_at hl 4 rfl) ?_
      refine rl_get (v := .ref (m + 29)) hC hW fl_X12_103 hR.1 rfl dX12_writePart_48 ?_
      refine lv_iload_n hx hb dX12_writePart_51 rfl (lv_at hl 5 rfl) ?_
      refine lv_iconst (v := (nI (1))) hx hb dX12_writePart_52 (by decide) ?_
      refine lv_isub hx hb dX12_writePart_53 ?_
      refine rl_topn (rg_sub (c := d) (by omega)) ?_
      refine lv_dup2_11 hx hb dX12_writePart_54 rfl rfl ?_
      refine rl_iald_n (g := I 40) hC hW hR.a40 (by omega) (by decide) dX12_writePart_55 ?_
      refine rl_topn (e40) ?_
      refine lv_iconst (v := (nI (1))) hx hb dX12_writePart_56 (by decide) ?_
      refine lv_iadd hx hb dX12_writePart_57 ?_
      refine rl_topn (nI_add _ _) ?_
      refine rl_iast_n (g := I 40) hC hW hR.a40 (by omega) (by decide) dX12_writePart_58 (fun H locs hW => ?_)
      have hR := hR.s40 (upd (I 40) (d) ((nI ((q) + (1)))))
      refine lv_aload_n hx hb dX12_writePart_59 rfl (lv_at hl 4 rfl) ?_
      refine lv_aload_n hx hb dX12_writePart_60 rfl (lv_at hl 4 rfl) ?_
      refine rl_get (v := .ref (m + 5)) hC hW fl_X12_23 hR.1 rfl dX12_writePart_61 ?_
      refine lv_iconst (v := (nI (5))) hx hb dX12_writePart_64 (by decide) ?_
      refine lv_aload_n hx hb dX12_writePart_65 rfl (lv_at hl 4 rfl) ?_
      refine rl_get (v := .ref (m + 14)) hC hW fl_X12_52 hR.1 rfl dX12_writePart_66 ?_
      refine lv_iload_n hx hb dX12_writePart_69 rfl (lv_at hl 3 rfl) ?_
      refine rl_iald_n (g := I 15) hC hW hR.a15 (by omega) (by decide) dX12_writePart_70 ?_
      refine rl_topn (h15) ?_
      refine lv_imul hx hb dX12_writePart_71 ?_
      refine rl_topn (pk_mul _ _) ?_
      refine lv_iload_n hx hb dX12_writePart_72 rfl (lv_at hl 2 rfl) ?_
      refine lv_iadd hx hb dX12_writePart_73 ?_
      refine rl_topn (nI_add _ _) ?_
      refine rl_iald_n (g := I 4) hC hW hR.a4 (by omega) (by decide) dX12_writePart_74 ?_
      refine rl_topn (hnm.1) ?_
      refine lv_i2l hx hb dX12_writePart_75 rfl ?_
      refine rl_callvQ (rl_runV (b := m) (As := [.long ((nI (T 3 (5 * sh + q))).toInt64)]) (rest := []) hC hW (cR_put l D t A _ z m _ _ _ hR (w0) (by omega) hF37 _) cs_X12_223 im_X12_put sl_X12_put hR.1 rfl ⟨(Nat.le_of_ble_eq_true rfl), (Nat.le_of_ble_eq_true rfl)⟩ rfl hl.1 rfl (Nat.le_of_ble_eq_true rfl) dX12_writePart_76 ⟨(Nat.le_of_ble_eq_true rfl), (Nat.le_of_ble_eq_true rfl)⟩) hW (fun f1 H locs hp hW => ?_)
      obtain ⟨L1, hR⟩ := hp
      refine lv_aload_n hx hb dX12_writePart_79 rfl (lv_at hl 4 rfl) ?_
      refine lv_iload hx hb dX12_writePart_80 (lv_at hl 0 rfl) ?_
      refine lv_i2l hx hb dX12_writePart_82 rfl ?_
      refine rl_callvQ (rl_runV (b := m) (As := [.long ((nI (2)).toInt64)]) (rest := []) hC hW (cR_put l D t A _ z m _ _ _ hR (w0 + 1) (by omega) rfl _) cs_X12_223 im_X12_put sl_X12_put hR.1 rfl ⟨(Nat.le_of_ble_eq_true rfl), (Nat.le_of_ble_eq_true rfl)⟩ rfl hl.1 rfl (Nat.le_of_ble_eq_true rfl) dX12_writePart_83 ⟨(Nat.le_of_ble_eq_true rfl), (Nat.le_of_ble_eq_true rfl)⟩) hW (fun f1 H locs hp hW => ?_)
      obtain ⟨L2, hR⟩ := hp
      refine lv_iload hx hb dX12_writePart_86 (lv_at hl 0 rfl) ?_
      refine lv_iconst (v := (nI (2))) hx hb dX12_writePart_88 (by decide) ?_
      refine lv_icmp_ge (tgt := 109) hx hb dX12_writePart_89 (by decide) (fun c_6 => ?_) (fun c_6 => ?_)
      · refine lv_iload hx hb dX12_writePart_109 (lv_at hl 0 rfl) ?_
        refine lv_iconst (v := (nI (2))) hx hb dX12_writePart_111 (by decide) ?_
        refine lv_icmp_ne (tgt := 142) hx hb dX12_writePart_112 (by decide) (fun c_7 => ?_) (fun c_7 => ?_)
        · first | exact absurd c_7 (by decide) | exact absurd (by decide) c_7
        · refine lv_aload_n hx hb dX12_writePart_115 rfl (lv_at hl 4 rfl) ?_
          refine lv_iload hx hb dX12_writePart_116 (lv_at hl 1 rfl) ?_
          refine lv_iconst (v := (-1)) hx hb dX12_writePart_118 (by decide) ?_
          refine lv_icmp_ne (tgt := 128) hx hb dX12_writePart_119 (by decide) (fun c5 => ?_) (fun c5 => ?_)
          · refine lv_aload_n hx hb dX12_writePart_128 rfl (lv_at hl 4 rfl) ?_
            refine rl_get (v := .ref (m + 2)) hC hW fl_X12_13 hR.1 rfl dX12_writePart_129 ?_
            refine lv_iload hx hb dX12_writePart_132 (lv_at hl 1 rfl) ?_
            refine rl_iald_n (g := I 1) hC hW hR.a1 (by omega) (by decide) dX12_writePart_134 ?_
            refine lv_i2l hx hb dX12_writePart_135 rfl ?_
            refine rl_callvQ (rl_runV (b := m) (As := [.long ((I 1 (n0)).toInt64)]) (rest := []) hC hW (cR_put l D t A _ z m _ _ _ hR (w0 + 1 + 1) (by omega) rfl _) cs_X12_223 im_X12_put sl_X12_put hR.1 rfl ⟨(Nat.le_of_ble_eq_true rfl), (Nat.le_of_ble_eq_true rfl)⟩ rfl hl.1 rfl (Nat.le_of_ble_eq_true rfl) dX12_writePart_136 ⟨(Nat.le_of_ble_eq_true rfl), (Nat.le_of_ble_eq_true rfl)⟩) hW (fun f1 H locs hp hW => ?_)
            obtain ⟨L3, hR⟩ := hp
            refine lv_goto (tgt := 265) hx hb dX12_writePart_139 (by decide) ?_
            refine lv_iload_n hx hb dX12_writePart_265 rfl (lv_at hl 5 rfl) ?_
            exact rl_iret hC hW hr hlk (Nat.le_refl _) (Nat.le_refl _) ⟨_, rfl, rfl, rfl, d + 1, w0 + 1 + 1 + 1, _, _, _, rfl, hR, (fun j h1 h2 => by rw [va_up_n _ _ h2]), (fun j h1 => by repeat rw [rg_upl h1]), rfl, by omega, by omega, Or.inl rfl, hwr.next hk e39 e16 hq hpn5⟩ dX12_writePart_266
          · exact absurd c5 (rg_m1 (by omega))
      · first | exact absurd c_6 (by decide) | exact absurd (by decide) c_6
    · exact absurd hX.1 (by decide)
    · exact absurd hX.1 (by decide)
  · rw [hs] at hX
    rcases hX with hX | hX | hX | hX
    · refine lv_aload_n hx hb dX12_writePart_0 rfl (lv_at hl 0 rfl) ?_
      refine rl_get (v := .ref (m + 28)) hC hW fl_X12_100 hR.1 rfl dX12_writePart_1 ?_
      refine lv_iload_n hx hb dX12_writePart_4 rfl (lv_at hl 1 rfl) ?_
      refine lv_iconst (v := (nI (1))) hx hb dX12_writePart_5 (by decide) ?_
      refine lv_isub hx hb dX12_writePart_6 ?_
      refine rl_topn (rg_sub (c := d) (by omega)) ?_
      refine rl_iald_n (g := I 39) hC hW hR.a39 (by omega) (by decide) dX12_writePart_7 ?_
      refine rl_topn (e39) ?_
      refine lv_istore_n (lv' := [(2, .int (nI (k))), (0, .ref (m)), (1, .int (nI (d + 1)))]) hx hb dX12_writePart_8 rfl hl (by decide) rfl (fun ls hl => ?_)
      refine lv_aload_n hx hb dX12_writePart_9 rfl (lv_at hl 1 rfl) ?_
      refine rl_get (v := .ref (m + 29)) hC hW fl_X12_103 hR.1 rfl dX12_writePart_10 ?_
      refine lv_iload_n hx hb dX12_writePart_13 rfl (lv_at hl 2 rfl) ?_
      refine lv_iconst (v := (nI (1))) hx hb dX12_writePart_14 (by decide) ?_
      refine lv_isub hx hb dX12_writePart_15 ?_
      refine rl_topn (rg_sub (c := d) (by omega)) ?_
      refine rl_iald_n (g := I 40) hC hW hR.a40 (by omega) (by decide) dX12_writePart_16 ?_
      refine rl_topn (e40) ?_
      refine lv_istore_n (lv' := [(3, .int (nI (q))), (2, .int (nI (k))), (0, .ref (m)), (1, .int (nI (d + 1)))]) hx hb dX12_writePart_17 rfl hl (by decide) rfl (fun ls hl => ?_)
      refine lv_aload_n hx hb dX12_writePart_18 rfl (lv_at hl 2 rfl) ?_
      refine rl_get (v := .ref (m + 17)) hC hW fl_X12_63 hR.1 rfl dX12_writePart_19 ?_
      refine lv_iconst (v := (nI (5))) hx hb dX12_writePart_22 (by decide) ?_
      refine lv_iload_n hx hb dX12_writePart_23 rfl (lv_at hl 1 rfl) ?_
      refine lv_imul hx hb dX12_writePart_24 ?_
      refine rl_topn (pk_mul _ _) ?_
      refine lv_iload_n hx hb dX12_writePart_25 rfl (lv_at hl 0 rfl) ?_
      refine lv_iadd hx hb dX12_writePart_26 ?_
      refine rl_topn (nI_add _ _) ?_
      refine rl_iald_n (g := I 18) hC hW hR.a18 (by omega) (by decide) dX12_writePart_27 ?_
      refine rl_topn (hX) ?_
      refine lv_istore (lv' := [(4, .int (-1)), (3, .int (nI (q))), (2, .int (nI (k))), (0, .ref (m)), (1, .int (nI (d + 1)))]) hx hb dX12_writePart_28 hl (by decide) rfl (fun ls hl => ?_)
      refine lv_aload_n hx hb dX12_writePart_30 rfl (lv_at hl 3 rfl) ?_
      refine rl_get (v := .ref (m + 6)) hC hW fl_X12_26 hR.1 rfl dX12_writePart_31 ?_
      refine lv_iconst (v := (nI (5))) hx hb dX12_writePart_34 (by decide) ?_
      refine lv_aload_n hx hb dX12_writePart_35 rfl (lv_at hl 3 rfl) ?_
      refine rl_get (v := .ref (m + 14)) hC hW fl_X12_52 hR.1 rfl dX12_writePart_36 ?_
      refine lv_iload_n hx hb dX12_writePart_39 rfl (lv_at hl 2 rfl) ?_
      refine rl_iald_n (g := I 15) hC hW hR.a15 (by omega) (by decide) dX12_writePart_40 ?_
      refine rl_topn (h15) ?_
      refine lv_imul hx hb dX12_writePart_41 ?_
      refine rl_topn (pk_mul _ _) ?_
      refine lv_iload_n hx hb dX12_writePart_42 rfl (lv_at hl 1 rfl) ?_
      refine lv_iadd hx hb dX12_writePart_43 ?_
      refine rl_topn (nI_add _ _) ?_
      refine rl_iald_n (g := I 5) hC hW hR.a5 (by omega) (by decide) dX12_writePart_44 ?_
      refine rl_topn (hnm.2.2.1.trans (by rw [hs])) ?_
      refine lv_istore (lv' := [(5, .int (nI (3))), (4, .int (-1)), (3, .int (nI (q))), (2, .int (nI (k))), (0, .ref (m)), (1, .int (nI (d + 1)))]) hx hb dX12_writePart_45 hl (by decide) rfl (fun ls hl => ?_)
      refine lv_aload_n hx hb dX12_writePart_47 rfl (lv_at hl 4 rfl) ?_
      refine rl_get (v := .ref (m + 29)) hC hW fl_X12_103 hR.1 rfl dX12_writePart_48 ?_
      refine lv_iload_n hx hb dX12_writePart_51 rfl (lv_at hl 5 rfl) ?_
      refine lv_iconst (v := (nI (1))) hx hb dX12_writePart_52 (by decide) ?_
      refine lv_isub hx hb dX12_writePart_53 ?_
      refine rl_topn (rg_sub (c := d) (by omega)) ?_
      refine lv_dup2_11 hx hb dX12_writePart_54 rfl rfl ?_
      refine rl_iald_n (g := I 40) hC hW hR.a40 (by omega) (by decide) dX12_writePart_55 ?_
      refine rl_topn (e40) ?_
      refine lv_iconst (v := (nI (1))) hx hb dX12_writePart_56 (by decide) ?_
      refine lv_iadd hx hb dX12_writePart_57 ?_
      refine rl_topn (nI_add _ _) ?_
      refine rl_iast_n (g := I 40) hC hW hR.a40 (by omega) (by decide) dX12_writePart_58 (fun H locs hW => ?_)
      have hR := hR.s40 (upd (I 40) (d) ((nI ((q) + (1)))))
      refine lv_aload_n hx hb dX12_writePart_59 rfl (lv_at hl 4 rfl) ?_
      refine lv_aload_n hx hb dX12_writePart_60 rfl (lv_at hl 4 rfl) ?_
      refine rl_get (v := .ref (m + 5)) hC hW fl_X12_23 hR.1 rfl dX12_writePart_61 ?_
      refine lv_iconst (v := (nI (5))) hx hb dX12_writePart_64 (by decide) ?_
      refine lv_aload_n hx hb dX12_writePart_65 rfl (lv_at hl 4 rfl) ?_
      refine rl_get (v := .ref (m + 14)) hC hW fl_X12_52 hR.1 rfl dX12_writePart_66 ?_
      refine lv_iload_n hx hb dX12_writePart_69 rfl (lv_at hl 3 rfl) ?_
      refine rl_iald_n (g := I 15) hC hW hR.a15 (by omega) (by decide) dX12_writePart_70 ?_
      refine rl_topn (h15) ?_
      refine lv_imul hx hb dX12_writePart_71 ?_
      refine rl_topn (pk_mul _ _) ?_
      refine lv_iload_n hx hb dX12_writePart_72 rfl (lv_at hl 2 rfl) ?_
      refine lv_iadd hx hb dX12_writePart_73 ?_
      refine rl_topn (nI_add _ _) ?_
      refine rl_iald_n (g := I 4) hC hW hR.a4 (by omega) (by decide) dX12_writePart_74 ?_
      refine rl_topn (hnm.1) ?_
      refine lv_i2l hx hb dX12_writePart_75 rfl ?_
      refine rl_callvQ (rl_runV (b := m) (As := [.long ((nI (T 3 (5 * sh + q))).toInt64)]) (rest := []) hC hW (cR_put l D t A _ z m _ _ _ hR (w0) (by omega) hF37 _) cs_X12_223 im_X12_put sl_X12_put hR.1 rfl ⟨(Nat.le_of_ble_eq_true rfl), (Nat.le_of_ble_eq_true rfl)⟩ rfl hl.1 rfl (Nat.le_of_ble_eq_true rfl) dX12_writePart_76 ⟨(Nat.le_of_ble_eq_true rfl), (Nat.le_of_ble_eq_true rfl)⟩) hW (fun f1 H locs hp hW => ?_)
      obtain ⟨L1, hR⟩ := hp
      refine lv_aload_n hx hb dX12_writePart_79 rfl (lv_at hl 4 rfl) ?_
      refine lv_iload hx hb dX12_writePart_80 (lv_at hl 0 rfl) ?_
      refine lv_i2l hx hb dX12_writePart_82 rfl ?_
      refine rl_callvQ (rl_runV (b := m) (As := [.long ((nI (3)).toInt64)]) (rest := []) hC hW (cR_put l D t A _ z m _ _ _ hR (w0 + 1) (by omega) rfl _) cs_X12_223 im_X12_put sl_X12_put hR.1 rfl ⟨(Nat.le_of_ble_eq_true rfl), (Nat.le_of_ble_eq_true rfl)⟩ rfl hl.1 rfl (Nat.le_of_ble_eq_true rfl) dX12_writePart_83 ⟨(Nat.le_of_ble_eq_true rfl), (Nat.le_of_ble_eq_true rfl)⟩) hW (fun f1 H locs hp hW => ?_)
      obtain ⟨L2, hR⟩ := hp
      refine lv_iload hx hb dX12_writePart_86 (lv_at hl 0 rfl) ?_
      refine lv_iconst (v := (nI (2))) hx hb dX12_writePart_88 (by decide) ?_
      refine lv_icmp_ge (tgt := 109) hx hb dX12_writePart_89 (by decide) (fun c_8 => ?_) (fun c_8 => ?_)
      · refine lv_iload hx hb dX12_writePart_109 (lv_at hl 0 rfl) ?_
        refine lv_iconst (v := (nI (2))) hx hb dX12_writePart_111 (by decide) ?_
        refine lv_icmp_ne (tgt := 142) hx hb dX12_writePart_112 (by decide) (fun c_9 => ?_) (fun c_9 => ?_)
        · refine lv_iload hx hb dX12_writePart_142 (lv_at hl 0 rfl) ?_
          refine lv_iconst (v := (nI (4))) hx hb dX12_writePart_144 (by decide) ?_
          refine lv_icmp_ne (tgt := 229) hx hb dX12_writePart_145 (by decide) (fun c_10 => ?_) (fun c_10 => ?_)
          · refine lv_aload_n hx hb dX12_writePart_229 rfl (lv_at hl 4 rfl) ?_
            refine lv_iload hx hb dX12_writePart_230 (lv_at hl 1 rfl) ?_
            refine lv_iconst (v := (-1)) hx hb dX12_writePart_232 (by decide) ?_
            refine lv_icmp_ne (tgt := 240) hx hb dX12_writePart_233 (by decide) (fun c_11 => ?_) (fun c_11 => ?_)
            · first | exact absurd c_11 (by decide) | exact absurd (by decide) c_11
            · refine lv_lconst (v := 0) hx hb dX12_writePart_236 (by decide) ?_
              refine lv_goto (tgt := 241) hx hb dX12_writePart_237 (by decide) ?_
              refine rl_callvQ (rl_runV (b := m) (As := [.long (0)]) (rest := []) hC hW (cR_put l D t A _ z m _ _ _ hR (w0 + 1 + 1) (by omega) rfl _) cs_X12_223 im_X12_put sl_X12_put hR.1 rfl ⟨(Nat.le_of_ble_eq_true rfl), (Nat.le_of_ble_eq_true rfl)⟩ rfl hl.1 rfl (Nat.le_of_ble_eq_true rfl) dX12_writePart_241 ⟨(Nat.le_of_ble_eq_true rfl), (Nat.le_of_ble_eq_true rfl)⟩) hW (fun f1 H locs hp hW => ?_)
              obtain ⟨L3, hR⟩ := hp
              refine lv_iload hx hb dX12_writePart_244 (lv_at hl 1 rfl) ?_
              refine lv_iconst (v := (-1)) hx hb dX12_writePart_246 (by decide) ?_
              refine lv_icmp_ne (tgt := 254) hx hb dX12_writePart_247 (by decide) (fun c_12 => ?_) (fun c_12 => ?_)
              · first | exact absurd c_12 (by decide) | exact absurd (by decide) c_12
              · refine lv_iload_n hx hb dX12_writePart_250 rfl (lv_at hl 5 rfl) ?_
                refine lv_goto (tgt := 264) hx hb dX12_writePart_251 (by decide) ?_
                exact rl_iret hC hW hr hlk (Nat.le_refl _) (Nat.le_refl _) ⟨_, rfl, rfl, rfl, d + 1, w0 + 1 + 1 + 1, _, _, _, rfl, hR, (fun j h1 h2 => by rw [va_up_n _ _ h2]), (fun j h1 => by repeat rw [rg_upl h1]), rfl, by omega, by omega, Or.inl rfl, hwr.next hk e39 e16 hq hpn5⟩ dX12_writePart_264
          · first | exact absurd c_10 (by decide) | exact absurd (by decide) c_10
        · first | exact absurd c_9 (by decide) | exact absurd (by decide) c_9
      · first | exact absurd c_8 (by decide) | exact absurd (by decide) c_8
    · exact absurd hX.1 (by decide)
    · exact absurd hX.1 (by decide)
    · obtain ⟨n0, hn0, hX⟩ := hX.2
      obtain ⟨sh2, pn3, hsh2, _, h16b, hpn3, _⟩ := hVe n0 hn0
      refine lv_aload_n hx hb dX12_writePart_0 rfl (lv_at hl 0 rfl) ?_
      refine rl_get (v := .ref (m + 28)) hC hW fl_X12_100 hR.1 rfl dX12_writePart_1 ?_
      refine lv_iload_n hx hb dX12_writePart_4 rfl (lv_at hl 1 rfl) ?_
      refine lv_iconst (v := (nI (1))) hx hb dX12_writePart_5 (by decide) ?_
      refine lv_isub hx hb dX12_writePart_6 ?_
      refine rl_topn (rg_sub (c := d) (by omega)) ?_
      refine rl_iald_n (g := I 39) hC hW hR.a39 (by omega) (by decide) dX12_writePart_7 ?_
      refine rl_topn (e39) ?_
      refine lv_istore_n (lv' := [(2, .int (nI (k))), (0, .ref (m)), (1, .int (nI (d + 1)))]) hx hb dX12_writePart_8 rfl hl (by decide) rfl (fun ls hl => ?_)
      refine lv_aload_n hx hb dX12_writePart_9 rfl (lv_at hl 1 rfl) ?_
      refine rl_get (v := .ref (m + 29)) hC hW fl_X12_103 hR.1 rfl dX12_writePart_10 ?_
      refine lv_iload_n hx hb dX12_writePart_13 rfl (lv_at hl 2 rfl) ?_
      refine lv_iconst (v := (nI (1))) hx hb dX12_writePart_14 (by decide) ?_
      refine lv_isub hx hb dX12_writePart_15 ?_
      refine rl_topn (rg_sub (c := d) (by omega)) ?_
      refine rl_iald_n (g := I 40) hC hW hR.a40 (by omega) (by decide) dX12_writePart_16 ?_
      refine rl_topn (e40) ?_
      refine lv_istore_n (lv' := [(3, .int (nI (q))), (2, .int (nI (k))), (0, .ref (m)), (1, .int (nI (d + 1)))]) hx hb dX12_writePart_17 rfl hl (by decide) rfl (fun ls hl => ?_)
      refine lv_aload_n hx hb dX12_writePart_18 rfl (lv_at hl 2 rfl) ?_
      refine rl_get (v := .ref (m + 17)) hC hW fl_X12_63 hR.1 rfl dX12_writePart_19 ?_
      refine lv_iconst (v := (nI (5))) hx hb dX12_writePart_22 (by decide) ?_
      refine lv_iload_n hx hb dX12_writePart_23 rfl (lv_at hl 1 rfl) ?_
      refine lv_imul hx hb dX12_writePart_24 ?_
      refine rl_topn (pk_mul _ _) ?_
      refine lv_iload_n hx hb dX12_writePart_25 rfl (lv_at hl 0 rfl) ?_
      refine lv_iadd hx hb dX12_writePart_26 ?_
      refine rl_topn (nI_add _ _) ?_
      refine rl_iald_n (g := I 18) hC hW hR.a18 (by omega) (by decide) dX12_writePart_27 ?_
      refine rl_topn (hX) ?_
      refine lv_istore (lv' := [(4, .int (nI (1000000 + n0))), (3, .int (nI (q))), (2, .int (nI (k))), (0, .ref (m)), (1, .int (nI (d + 1)))]) hx hb dX12_writePart_28 hl (by decide) rfl (fun ls hl => ?_)
      refine lv_aload_n hx hb dX12_writePart_30 rfl (lv_at hl 3 rfl) ?_
      refine rl_get (v := .ref (m + 6)) hC hW fl_X12_26 hR.1 rfl dX12_writePart_31 ?_
      refine lv_iconst (v := (nI (5))) hx hb dX12_writePart_34 (by decide) ?_
      refine lv_aload_n hx hb dX12_writePart_35 rfl (lv_at hl 3 rfl) ?_
      refine rl_get (v := .ref (m + 14)) hC hW fl_X12_52 hR.1 rfl dX12_writePart_36 ?_
      refine lv_iload_n hx hb dX12_writePart_39 rfl (lv_at hl 2 rfl) ?_
      refine rl_iald_n (g := I 15) hC hW hR.a15 (by omega) (by decide) dX12_writePart_40 ?_
      refine rl_topn (h15) ?_
      refine lv_imul hx hb dX12_writePart_41 ?_
      refine rl_topn (pk_mul _ _) ?_
      refine lv_iload_n hx hb dX12_writePart_42 rfl (lv_at hl 1 rfl) ?_
      refine lv_iadd hx hb dX12_writePart_43 ?_
      refine rl_topn (nI_add _ _) ?_
      refine rl_iald_n (g := I 5) hC hW hR.a5 (by omega) (by decide) dX12_writePart_44 ?_
      refine rl_topn (hnm.2.2.1.trans (by rw [hs])) ?_
      refine lv_istore (lv' := [(5, .int (nI (3))), (4, .int (nI (1000000 + n0))), (3, .int (nI (q))), (2, .int (nI (k))), (0, .ref (m)), (1, .int (nI (d + 1)))]) hx hb dX12_writePart_45 hl (by decide) rfl (fun ls hl => ?_)
      refine lv_aload_n hx hb dX12_writePart_47 rfl (lv_at hl 4 rfl) ?_
      refine rl_get (v := .ref (m + 29)) hC hW fl_X12_103 hR.1 rfl dX12_writePart_48 ?_
      refine lv_iload_n hx hb dX12_writePart_51 rfl (lv_at hl 5 rfl) ?_
      refine lv_iconst (v := (nI (1))) hx hb dX12_writePart_52 (by decide) ?_
      refine lv_isub hx hb dX12_writePart_53 ?_
      refine rl_topn (rg_sub (c := d) (by omega)) ?_
      refine lv_dup2_11 hx hb dX12_writePart_54 rfl rfl ?_
      refine rl_iald_n (g := I 40) hC hW hR.a40 (by omega) (by decide) dX12_writePart_55 ?_
      refine rl_topn (e40) ?_
      refine lv_iconst (v := (nI (1))) hx hb dX12_writePart_56 (by decide) ?_
      refine lv_iadd hx hb dX12_writePart_57 ?_
      refine rl_topn (nI_add _ _) ?_
      refine rl_iast_n (g := I 40) hC hW hR.a40 (by omega) (by decide) dX12_writePart_58 (fun H locs hW => ?_)
      have hR := hR.s40 (upd (I 40) (d) ((nI ((q) + (1)))))
      refine lv_aload_n hx hb dX12_writePart_59 rfl (lv_at hl 4 rfl) ?_
      refine lv_aload_n hx hb dX12_writePart_60 rfl (lv_at hl 4 rfl) ?_
      refine rl_get (v := .ref (m + 5)) hC hW fl_X12_23 hR.1 rfl dX12_writePart_61 ?_
      refine lv_iconst (v := (nI (5))) hx hb dX12_writePart_64 (by decide) ?_
      refine lv_aload_n hx hb dX12_writePart_65 rfl (lv_at hl 4 rfl) ?_
      refine rl_get (v := .ref (m + 14)) hC hW fl_X12_52 hR.1 rfl dX12_writePart_66 ?_
      refine lv_iload_n hx hb dX12_writePart_69 rfl (lv_at hl 3 rfl) ?_
      refine rl_iald_n (g := I 15) hC hW hR.a15 (by omega) (by decide) dX12_writePart_70 ?_
      refine rl_topn (h15) ?_
      refine lv_imul hx hb dX12_writePart_71 ?_
      refine rl_topn (pk_mul _ _) ?_
      refine lv_iload_n hx hb dX12_writePart_72 rfl (lv_at hl 2 rfl) ?_
      refine lv_iadd hx hb dX12_writePart_73 ?_
      refine rl_topn (nI_add _ _) ?_
      refine rl_iald_n (g := I 4) hC hW hR.a4 (by omega) (by decide) dX12_writePart_74 ?_
      refine rl_topn (hnm.1) ?_
      refine lv_i2l hx hb dX12_writePart_75 rfl ?_
      refine rl_callvQ (rl_runV (b := m) (As := [.long ((nI (T 3 (5 * sh + q))).toInt64)]) (rest := []) hC hW (cR_put l D t A _ z m _ _ _ hR (w0) (by omega) hF37 _) cs_X12_223 im_X12_put sl_X12_put hR.1 rfl ⟨(Nat.le_of_ble_eq_true rfl), (Nat.le_of_ble_eq_true rfl)⟩ rfl hl.1 rfl (Nat.le_of_ble_eq_true rfl) dX12_writePart_76 ⟨(Nat.le_of_ble_eq_true rfl), (Nat.le_of_ble_eq_true rfl)⟩) hW (fun f1 H locs hp hW => ?_)
      obtain ⟨L1, hR⟩ := hp
      refine lv_aload_n hx hb dX12_writePart_79 rfl (lv_at hl 4 rfl) ?_
      refine lv_iload hx hb dX12_writePart_80 (lv_at hl 0 rfl) ?_
      refine lv_i2l hx hb dX12_writePart_82 rfl ?_
      refine rl_callvQ (rl_runV (b := m) (As := [.long ((nI (3)).toInt64)]) (rest := []) hC hW (cR_put l D t A _ z m _ _ _ hR (w0 + 1) (by omega) rfl _) cs_X12_223 im_X12_put sl_X12_put hR.1 rfl ⟨(Nat.le_of_ble_eq_true rfl), (Nat.le_of_ble_eq_true rfl)⟩ rfl hl.1 rfl (Nat.le_of_ble_eq_true rfl) dX12_writePart_83 ⟨(Nat.le_of_ble_eq_true rfl), (Nat.le_of_ble_eq_true rfl)⟩) hW (fun f1 H locs hp hW => ?_)
      obtain ⟨L2, hR⟩ := hp
      refine lv_iload hx hb dX12_writePart_86 (lv_at hl 0 rfl) ?_
      refine lv_iconst (v := (nI (2))) hx hb dX12_writePart_88 (by decide) ?_
      refine lv_icmp_ge (tgt := 109) hx hb dX12_writePart_89 (by decide) (fun c_13 => ?_) (fun c_13 => ?_)
      · refine lv_iload hx hb dX12_writePart_109 (lv_at hl 0 rfl) ?_
        refine lv_iconst (v := (nI (2))) hx hb dX12_writePart_111 (by decide) ?_
        refine lv_icmp_ne (tgt := 142) hx hb dX12_writePart_112 (by decide) (fun c_14 => ?_) (fun c_14 => ?_)
        · refine lv_iload hx hb dX12_writePart_142 (lv_at hl 0 rfl) ?_
          refine lv_iconst (v := (nI (4))) hx hb dX12_writePart_144 (by decide) ?_
          refine lv_icmp_ne (tgt := 229) hx hb dX12_writePart_145 (by decide) (fun c_15 => ?_) (fun c_15 => ?_)
          · refine lv_aload_n hx hb dX12_writePart_229 rfl (lv_at hl 4 rfl) ?_
            refine lv_iload hx hb dX12_writePart_230 (lv_at hl 1 rfl) ?_
            refine lv_iconst (v := (-1)) hx hb dX12_writePart_232 (by decide) ?_
            refine lv_icmp_ne (tgt := 240) hx hb dX12_writePart_233 (by decide) (fun c5 => ?_) (fun c5 => ?_)
            · refine lv_lconst (v := 1) hx hb dX12_writePart_240 (by decide) ?_
              refine rl_callvQ (rl_runV (b := m) (As := [.long (1)]) (rest := []) hC hW (cR_put l D t A _ z m _ _ _ hR (w0 + 1 + 1) (by omega) rfl _) cs_X12_223 im_X12_put sl_X12_put hR.1 rfl ⟨(Nat.le_of_ble_eq_true rfl), (Nat.le_of_ble_eq_true rfl)⟩ rfl hl.1 rfl (Nat.le_of_ble_eq_true rfl) dX12_writePart_241 ⟨(Nat.le_of_ble_eq_true rfl), (Nat.le_of_ble_eq_true rfl)⟩) hW (fun f1 H locs hp hW => ?_)
              obtain ⟨L3, hR⟩ := hp
              refine lv_iload hx hb dX12_writePart_244 (lv_at hl 1 rfl) ?_
              refine lv_iconst (v := (-1)) hx hb dX12_writePart_246 (by decide) ?_
              refine lv_icmp_ne (tgt := 254) hx hb dX12_writePart_247 (by decide) (fun c6 => ?_) (fun c6 => ?_)
              · refine lv_aload_n hx hb dX12_writePart_254 rfl (lv_at hl 4 rfl) ?_
                refine lv_iload_n hx hb dX12_writePart_255 rfl (lv_at hl 5 rfl) ?_
                refine lv_iload hx hb dX12_writePart_256 (lv_at hl 1 rfl) ?_
                refine lv_ldc (v := nI 1000000) hx hb hC.2.2.2.1 (hC.2.2.2.2.1 _ (List.mem_cons_of_mem _ mw_859)) dX12_writePart_258 ?_
                refine lv_isub hx hb dX12_writePart_260 ?_
                refine rl_topn (rg_sub (c := n0) (by omega)) ?_
                refine rl_calliQ (rl_runV (b := m) (As := [.int (nI (d + 1)), .int (nI (n0))]) (rest := []) hC hW (cR_begins l D t A _ z m _ _ _ hR T ρ κ hρ hκ hTp hVw hVe (d + 1) n0 (w0 + 1 + 1 + 1) (by omega) hn0 (by omega) rfl) cs_X12_229 im_X12_begins sl_X12_begins hR.1 rfl ⟨(Nat.le_of_ble_eq_true rfl), (Nat.le_of_ble_eq_true rfl)⟩ rfl hl.1 rfl (Nat.le_of_ble_eq_true rfl) dX12_writePart_261 ⟨(Nat.le_of_ble_eq_true rfl), (Nat.le_of_ble_eq_true rfl)⟩) hW (fun r f1 H locs hp hW => ?_)
                obtain ⟨rfl, L9, hR⟩ := hp
                exact rl_iret hC hW hr hlk (Nat.le_refl _) (Nat.le_refl _) ⟨_, rfl, rfl, rfl, d + 1 + 1, w0 + 1 + 1 + 1 + 1 + 1, _, _, _, rfl, hR, (fun j h1 h2 => by rw [va_up_n _ _ h2, va_up_n _ _ h1, va_up_n _ _ h2]), (fun j h1 => by repeat rw [rg_upl h1]), rfl, by omega, by omega, Or.inr ⟨rfl, by omega⟩, (hwr.next hk e39 e16 hq hpn5).push hn0 h16b (by have := (hTp.1 sh2 hsh2).2; omega)⟩ dX12_writePart_264
              · exact absurd c6 (rg_m1 (by omega))
            · exact absurd c5 (rg_m1 (by omega))
          · first | exact absurd c_15 (by decide) | exact absurd (by decide) c_15
        · first | exact absurd c_14 (by decide) | exact absurd (by decide) c_14
      · first | exact absurd c_13 (by decide) | exact absurd (by decide) c_13
  · rw [hs] at hX
    rcases hX with hX | hX | hX | hX
    · refine lv_aload_n hx hb dX12_writePart_0 rfl (lv_at hl 0 rfl) ?_
      refine rl_get (v := .ref (m + 28)) hC hW fl_X12_100 hR.1 rfl dX12_writePart_1 ?_
      refine lv_iload_n hx hb dX12_writePart_4 rfl (lv_at hl 1 rfl) ?_
      refine lv_iconst (v := (nI (1))) hx hb dX12_writePart_5 (by decide) ?_
      refine lv_isub hx hb dX12_writePart_6 ?_
      refine rl_topn (rg_sub (c := d) (by omega)) ?_
      refine rl_iald_n (g := I 39) hC hW hR.a39 (by omega) (by decide) dX12_writePart_7 ?_
      refine rl_topn (e39) ?_
      refine lv_istore_n (lv' := [(2, .int (nI (k))), (0, .ref (m)), (1, .int (nI (d + 1)))]) hx hb dX12_writePart_8 rfl hl (by decide) rfl (fun ls hl => ?_)
      refine lv_aload_n hx hb dX12_writePart_9 rfl (lv_at hl 1 rfl) ?_
      refine rl_get (v := .ref (m + 29)) hC hW fl_X12_103 hR.1 rfl dX12_writePart_10 ?_
      refine lv_iload_n hx hb dX12_writePart_13 rfl (lv_at hl 2 rfl) ?_
      refine lv_iconst (v := (nI (1))) hx hb dX12_writePart_14 (by decide) ?_
      refine lv_isub hx hb dX12_writePart_15 ?_
      refine rl_topn (rg_sub (c := d) (by omega)) ?_
      refine rl_iald_n (g := I 40) hC hW hR.a40 (by omega) (by decide) dX12_writePart_16 ?_
      refine rl_topn (e40) ?_
      refine lv_istore_n (lv' := [(3, .int (nI (q))), (2, .int (nI (k))), (0, .ref (m)), (1, .int (nI (d + 1)))]) hx hb dX12_writePart_17 rfl hl (by decide) rfl (fun ls hl => ?_)
      refine lv_aload_n hx hb dX12_writePart_18 rfl (lv_at hl 2 rfl) ?_
      refine rl_get (v := .ref (m + 17)) hC hW fl_X12_63 hR.1 rfl dX12_writePart_19 ?_
      refine lv_iconst (v := (nI (5))) hx hb dX12_writePart_22 (by decide) ?_
      refine lv_iload_n hx hb dX12_writePart_23 rfl (lv_at hl 1 rfl) ?_
      refine lv_imul hx hb dX12_writePart_24 ?_
      refine rl_topn (pk_mul _ _) ?_
      refine lv_iload_n hx hb dX12_writePart_25 rfl (lv_at hl 0 rfl) ?_
      refine lv_iadd hx hb dX12_writePart_26 ?_
      refine rl_topn (nI_add _ _) ?_
      refine rl_iald_n (g := I 18) hC hW hR.a18 (by omega) (by decide) dX12_writePart_27 ?_
      refine rl_topn (hX) ?_
      refine lv_istore (lv' := [(4, .int (-1)), (3, .int (nI (q))), (2, .int (nI (k))), (0, .ref (m)), (1, .int (nI (d + 1)))]) hx hb dX12_writePart_28 hl (by decide) rfl (fun ls hl => ?_)
      refine lv_aload_n hx hb dX12_writePart_30 rfl (lv_at hl 3 rfl) ?_
      refine rl_get (v := .ref (m + 6)) hC hW fl_X12_26 hR.1 rfl dX12_writePart_31 ?_
      refine lv_iconst (v := (nI (5))) hx hb dX12_writePart_34 (by decide) ?_
      refine lv_aload_n hx hb dX12_writePart_35 rfl (lv_at hl 3 rfl) ?_
      refine rl_get (v := .ref (m + 14)) hC hW fl_X12_52 hR.1 rfl dX12_writePart_36 ?_
      refine lv_iload_n hx hb dX12_writePart_39 rfl (lv_at hl 2 rfl) ?_
      refine rl_iald_n (g := I 15) hC hW hR.a15 (by omega) (by decide) dX12_writePart_40 ?_
      refine rl_topn (h15) ?_
      refine lv_imul hx hb dX12_writePart_41 ?_
      refine rl_topn (pk_mul _ _) ?_
      refine lv_iload_n hx hb dX12_writePart_42 rfl (lv_at hl 1 rfl) ?_
      refine lv_iadd hx hb dX12_writePart_43 ?_
      refine rl_topn (nI_add _ _) ?_
      refine rl_iald_n (g := I 5) hC hW hR.a5 (by omega) (by decide) dX12_writePart_44 ?_
      refine rl_topn (hnm.2.2.1.trans (by rw [hs])) ?_
      refine lv_istore (lv' := [(5, .int (nI (4))), (4, .int (-1)), (3, .int (nI (q))), (2, .int (nI (k))), (0, .ref (m)), (1, .int (nI (d + 1)))]) hx hb dX12_writePart_45 hl (by decide) rfl (fun ls hl => ?_)
      refine lv_aload_n hx hb dX12_writePart_47 rfl (lv_at hl 4 rfl) ?_
      refine rl_get (v := .ref (m + 29)) hC hW fl_X12_103 hR.1 rfl dX12_writePart_48 ?_
      refine lv_iload_n hx hb dX12_writePart_51 rfl (lv_at hl 5 rfl) ?_
      refine lv_iconst (v := (nI (1))) hx hb dX12_writePart_52 (by decide) ?_
      refine lv_isub hx hb dX12_writePart_53 ?_
      refine rl_topn (rg_sub (c := d) (by omega)) ?_
      refine lv_dup2_11 hx hb dX12_writePart_54 rfl rfl ?_
      refine rl_iald_n (g := I 40) hC hW hR.a40 (by omega) (by decide) dX12_writePart_55 ?_
      refine rl_topn (e40) ?_
      refine lv_iconst (v := (nI (1))) hx hb dX12_writePart_56 (by decide) ?_
      refine lv_iadd hx hb dX12_writePart_57 ?_
      refine rl_topn (nI_add _ _) ?_
      refine rl_iast_n (g := I 40) hC hW hR.a40 (by omega) (by decide) dX12_writePart_58 (fun H locs hW => ?_)
      have hR := hR.s40 (upd (I 40) (d) ((nI ((q) + (1)))))
      refine lv_aload_n hx hb dX12_writePart_59 rfl (lv_at hl 4 rfl) ?_
      refine lv_aload_n hx hb dX12_writePart_60 rfl (lv_at hl 4 rfl) ?_
      refine rl_get (v := .ref (m + 5)) hC hW fl_X12_23 hR.1 rfl dX12_writePart_61 ?_
      refine lv_iconst (v := (nI (5))) hx hb dX12_writePart_64 (by decide) ?_
      refine lv_aload_n hx hb dX12_writePart_65 rfl (lv_at hl 4 rfl) ?_
      refine rl_get (v := .ref (m + 14)) hC hW fl_X12_52 hR.1 rfl dX12_writePart_66 ?_
      refine lv_iload_n hx hb dX12_writePart_69 rfl (lv_at hl 3 rfl) ?_
      refine rl_iald_n (g := I 15) hC hW hR.a15 (by omega) (by decide) dX12_writePart_70 ?_
      refine rl_topn (h15) ?_
      refine lv_imul hx hb dX12_writePart_71 ?_
      refine rl_topn (pk_mul _ _) ?_
      refine lv_iload_n hx hb dX12_writePart_72 rfl (lv_at hl 2 rfl) ?_
      refine lv_iadd hx hb dX12_writePart_73 ?_
      refine rl_topn (nI_add _ _) ?_
      refine rl_iald_n (g := I 4) hC hW hR.a4 (by omega) (by decide) dX12_writePart_74 ?_
      refine rl_topn (hnm.1) ?_
      refine lv_i2l hx hb dX12_writePart_75 rfl ?_
      refine rl_callvQ (rl_runV (b := m) (As := [.long ((nI (T 3 (5 * sh + q))).toInt64)]) (rest := []) hC hW (cR_put l D t A _ z m _ _ _ hR (w0) (by omega) hF37 _) cs_X12_223 im_X12_put sl_X12_put hR.1 rfl ⟨(Nat.le_of_ble_eq_true rfl), (Nat.le_of_ble_eq_true rfl)⟩ rfl hl.1 rfl (Nat.le_of_ble_eq_true rfl) dX12_writePart_76 ⟨(Nat.le_of_ble_eq_true rfl), (Nat.le_of_ble_eq_true rfl)⟩) hW (fun f1 H locs hp hW => ?_)
      obtain ⟨L1, hR⟩ := hp
      refine lv_aload_n hx hb dX12_writePart_79 rfl (lv_at hl 4 rfl) ?_
      refine lv_iload hx hb dX12_writePart_80 (lv_at hl 0 rfl) ?_
      refine lv_i2l hx hb dX12_writePart_82 rfl ?_
      refine rl_callvQ (rl_runV (b := m) (As := [.long ((nI (4)).toInt64)]) (rest := []) hC hW (cR_put l D t A _ z m _ _ _ hR (w0 + 1) (by omega) rfl _) cs_X12_223 im_X12_put sl_X12_put hR.1 rfl ⟨(Nat.le_of_ble_eq_true rfl), (Nat.le_of_ble_eq_true rfl)⟩ rfl hl.1 rfl (Nat.le_of_ble_eq_true rfl) dX12_writePart_83 ⟨(Nat.le_of_ble_eq_true rfl), (Nat.le_of_ble_eq_true rfl)⟩) hW (fun f1 H locs hp hW => ?_)
      obtain ⟨L2, hR⟩ := hp
      refine lv_iload hx hb dX12_writePart_86 (lv_at hl 0 rfl) ?_
      refine lv_iconst (v := (nI (2))) hx hb dX12_writePart_88 (by decide) ?_
      refine lv_icmp_ge (tgt := 109) hx hb dX12_writePart_89 (by decide) (fun c_16 => ?_) (fun c_16 => ?_)
      · refine lv_iload hx hb dX12_writePart_109 (lv_at hl 0 rfl) ?_
        refine lv_iconst (v := (nI (2))) hx hb dX12_writePart_111 (by decide) ?_
        refine lv_icmp_ne (tgt := 142) hx hb dX12_writePart_112 (by decide) (fun c_17 => ?_) (fun c_17 => ?_)
        · refine lv_iload hx hb dX12_writePart_142 (lv_at hl 0 rfl) ?_
          refine lv_iconst (v := (nI (4))) hx hb dX12_writePart_144 (by decide) ?_
          refine lv_icmp_ne (tgt := 229) hx hb dX12_writePart_145 (by decide) (fun c_18 => ?_) (fun c_18 => ?_)
          · first | exact absurd c_18 (by decide) | exact absurd (by decide) c_18
          · refine lv_aload_n hx hb dX12_writePart_148 rfl (lv_at hl 4 rfl) ?_
            refine lv_iload hx hb dX12_writePart_149 (lv_at hl 1 rfl) ?_
            refine lv_iconst (v := (-1)) hx hb dX12_writePart_151 (by decide) ?_
            refine lv_icmp_ne (tgt := 161) hx hb dX12_writePart_152 (by decide) (fun c_19 => ?_) (fun c_19 => ?_)
            · first | exact absurd c_19 (by decide) | exact absurd (by decide) c_19
            · refine lv_ldc2 (v := -1) hx hb hC.2.2.2.1 (hC.2.2.2.2.1 _ (List.mem_cons_of_mem _ mw_941)) dX12_writePart_155 ?_
              refine lv_goto (tgt := 172) hx hb dX12_writePart_158 (by decide) ?_
              refine rl_callvQ (rl_runV (b := m) (As := [.long (-1)]) (rest := []) hC hW (cR_put l D t A _ z m _ _ _ hR (w0 + 1 + 1) (by omega) rfl _) cs_X12_223 im_X12_put sl_X12_put hR.1 rfl ⟨(Nat.le_of_ble_eq_true rfl), (Nat.le_of_ble_eq_true rfl)⟩ rfl hl.1 rfl (Nat.le_of_ble_eq_true rfl) dX12_writePart_172 ⟨(Nat.le_of_ble_eq_true rfl), (Nat.le_of_ble_eq_true rfl)⟩) hW (fun f1 H locs hp hW => ?_)
              obtain ⟨L3, hR⟩ := hp
              refine lv_iconst (v := (nI (0))) hx hb dX12_writePart_175 (by decide) ?_
              refine lv_istore (lv' := [(6, .int (nI (0))), (5, .int (nI (4))), (4, .int (-1)), (3, .int (nI (q))), (2, .int (nI (k))), (0, .ref (m)), (1, .int (nI (d + 1)))]) hx hb dX12_writePart_176 hl (by decide) rfl (fun ls hl => ?_)
              refine lv_iload hx hb dX12_writePart_178 (lv_at hl 2 rfl) ?_
              refine lv_iconst (v := (-1)) hx hb dX12_writePart_180 (by decide) ?_
              refine lv_icmp_eq (tgt := 226) hx hb dX12_writePart_181 (by decide) (fun c_20 => ?_) (fun c_20 => ?_)
              · refine lv_goto (tgt := 265) hx hb dX12_writePart_226 (by decide) ?_
                refine lv_iload_n hx hb dX12_writePart_265 rfl (lv_at hl 6 rfl) ?_
                exact rl_iret hC hW hr hlk (Nat.le_refl _) (Nat.le_refl _) ⟨_, rfl, rfl, rfl, d + 1, w0 + 1 + 1 + 1, _, _, _, rfl, hR, (fun j h1 h2 => by rw [va_up_n _ _ h2]), (fun j h1 => by repeat rw [rg_upl h1]), rfl, by omega, by omega, Or.inl rfl, hwr.next hk e39 e16 hq hpn5⟩ dX12_writePart_266
              · first | exact absurd c_20 (by decide) | exact absurd (by decide) c_20
        · first | exact absurd c_17 (by decide) | exact absurd (by decide) c_17
      · first | exact absurd c_16 (by decide) | exact absurd (by decide) c_16
    · exact absurd hX.1 (by decide)
    · obtain ⟨n0, hn0, hX⟩ := hX.2
      obtain ⟨c0, hc0, hs0⟩ := hVw n0 hn0
      refine lv_aload_n hx hb dX12_writePart_0 rfl (lv_at hl 0 rfl) ?_
      refine rl_get (v := .ref (m + 28)) hC hW fl_X12_100 hR.1 rfl dX12_writePart_1 ?_
      refine lv_iload_n hx hb dX12_writePart_4 rfl (lv_at hl 1 rfl) ?_
      refine lv_iconst (v := (nI (1))) hx hb dX12_writePart_5 (by decide) ?_
      refine lv_isub hx hb dX12_writePart_6 ?_
      refine rl_topn (rg_sub (c := d) (by omega)) ?_
      refine rl_iald_n (g := I 39) hC hW hR.a39 (by omega) (by decide) dX12_writePart_7 ?_
      refine rl_topn (e39) ?_
      refine lv_istore_n (lv' := [(2, .int (nI (k))), (0, .ref (m)), (1, .int (nI (d + 1)))]) hx hb dX12_writePart_8 rfl hl (by decide) rfl (fun ls hl => ?_)
      refine lv_aload_n hx hb dX12_writePart_9 rfl (lv_at hl 1 rfl) ?_
      refine rl_get (v := .ref (m + 29)) hC hW fl_X12_103 hR.1 rfl dX12_writePart_10 ?_
      refine lv_iload_n hx hb dX12_writePart_13 rfl (lv_at hl 2 rfl) ?_
      refine lv_iconst (v := (nI (1))) hx hb dX12_writePart_14 (by decide) ?_
      refine lv_isub hx hb dX12_writePart_15 ?_
      refine rl_topn (rg_sub (c := d) (by omega)) ?_
      refine rl_iald_n (g := I 40) hC hW hR.a40 (by omega) (by decide) dX12_writePart_16 ?_
      refine rl_topn (e40) ?_
      refine lv_istore_n (lv' := [(3, .int (nI (q))), (2, .int (nI (k))), (0, .ref (m)), (1, .int (nI (d + 1)))]) hx hb dX12_writePart_17 rfl hl (by decide) rfl (fun ls hl => ?_)
      refine lv_aload_n hx hb dX12_writePart_18 rfl (lv_at hl 2 rfl) ?_
      refine rl_get (v := .ref (m + 17)) hC hW fl_X12_63 hR.1 rfl dX12_writePart_19 ?_
      refine lv_iconst (v := (nI (5))) hx hb dX12_writePart_22 (by decide) ?_
      refine lv_iload_n hx hb dX12_writePart_23 rfl (lv_at hl 1 rfl) ?_
      refine lv_imul hx hb dX12_writePart_24 ?_
      refine rl_topn (pk_mul _ _) ?_
      refine lv_iload_n hx hb dX12_writePart_25 rfl (lv_at hl 0 rfl) ?_
      refine lv_iadd hx hb dX12_writePart_26 ?_
      refine rl_topn (nI_add _ _) ?_
      refine rl_iald_n (g := I 18) hC hW hR.a18 (by omega) (by decide) dX12_writePart_27 ?_
      refine rl_topn (hX) ?_
      refine lv_istore (lv' := [(4, .int (nI (100 + n0))), (3, .int (nI (q))), (2, .int (nI (k))), (0, .ref (m)), (1, .int (nI (d + 1)))]) hx hb dX12_writePart_28 hl (by decide) rfl (fun ls hl => ?_)
      refine lv_aload_n hx hb dX12_writePart_30 rfl (lv_at hl 3 rfl) ?_
      refine rl_get (v := .ref (m + 6)) hC hW fl_X12_26 hR.1 rfl dX12_writePart_31 ?_
      refine lv_iconst (v := (nI (5))) hx hb dX12_writePart_34 (by decide) ?_
      refine lv_aload_n hx hb dX12_writePart_35 rfl (lv_at hl 3 rfl) ?_
      refine rl_get (v := .ref (m + 14)) hC hW fl_X12_52 hR.1 rfl dX12_writePart_36 ?_
      refine lv_iload_n hx hb dX12_writePart_39 rfl (lv_at hl 2 rfl) ?_
      refine rl_iald_n (g := I 15) hC hW hR.a15 (by omega) (by decide) dX12_writePart_40 ?_
      refine rl_topn (h15) ?_
      refine lv_imul hx hb dX12_writePart_41 ?_
      refine rl_topn (pk_mul _ _) ?_
      refine lv_iload_n hx hb dX12_writePart_42 rfl (lv_at hl 1 rfl) ?_
      refine lv_iadd hx hb dX12_writePart_43 ?_
      refine rl_topn (nI_add _ _) ?_
      refine rl_iald_n (g := I 5) hC hW hR.a5 (by omega) (by decide) dX12_writePart_44 ?_
      refine rl_topn (hnm.2.2.1.trans (by rw [hs])) ?_
      refine lv_istore (lv' := [(5, .int (nI (4))), (4, .int (nI (100 + n0))), (3, .int (nI (q))), (2, .int (nI (k))), (0, .ref (m)), (1, .int (nI (d + 1)))]) hx hb dX12_writePart_45 hl (by decide) rfl (fun ls hl => ?_)
      refine lv_aload_n hx hb dX12_writePart_47 rfl (lv_at hl 4 rfl) ?_
      refine rl_get (v := .ref (m + 29)) hC hW fl_X12_103 hR.1 rfl dX12_writePart_48 ?_
      refine lv_iload_n hx hb dX12_writePart_51 rfl (lv_at hl 5 rfl) ?_
      refine lv_iconst (v := (nI (1))) hx hb dX12_writePart_52 (by decide) ?_
      refine lv_isub hx hb dX12_writePart_53 ?_
      refine rl_topn (rg_sub (c := d) (by omega)) ?_
      refine lv_dup2_11 hx hb dX12_writePart_54 rfl rfl ?_
      refine rl_iald_n (g := I 40) hC hW hR.a40 (by omega) (by decide) dX12_writePart_55 ?_
      refine rl_topn (e40) ?_
      refine lv_iconst (v := (nI (1))) hx hb dX12_writePart_56 (by decide) ?_
      refine lv_iadd hx hb dX12_writePart_57 ?_
      refine rl_topn (nI_add _ _) ?_
      refine rl_iast_n (g := I 40) hC hW hR.a40 (by omega) (by decide) dX12_writePart_58 (fun H locs hW => ?_)
      have hR := hR.s40 (upd (I 40) (d) ((nI ((q) + (1)))))
      refine lv_aload_n hx hb dX12_writePart_59 rfl (lv_at hl 4 rfl) ?_
      refine lv_aload_n hx hb dX12_writePart_60 rfl (lv_at hl 4 rfl) ?_
      refine rl_get (v := .ref (m + 5)) hC hW fl_X12_23 hR.1 rfl dX12_writePart_61 ?_
      refine lv_iconst (v := (nI (5))) hx hb dX12_writePart_64 (by decide) ?_
      refine lv_aload_n hx hb dX12_writePart_65 rfl (lv_at hl 4 rfl) ?_
      refine rl_get (v := .ref (m + 14)) hC hW fl_X12_52 hR.1 rfl dX12_writePart_66 ?_
      refine lv_iload_n hx hb dX12_writePart_69 rfl (lv_at hl 3 rfl) ?_
      refine rl_iald_n (g := I 15) hC hW hR.a15 (by omega) (by decide) dX12_writePart_70 ?_
      refine rl_topn (h15) ?_
      refine lv_imul hx hb dX12_writePart_71 ?_
      refine rl_topn (pk_mul _ _) ?_
      refine lv_iload_n hx hb dX12_writePart_72 rfl (lv_at hl 2 rfl) ?_
      refine lv_iadd hx hb dX12_writePart_73 ?_
      refine rl_topn (nI_add _ _) ?_
      refine rl_iald_n (g := I 4) hC hW hR.a4 (by omega) (by decide) dX12_writePart_74 ?_
      refine rl_topn (hnm.1) ?_
      refine lv_i2l hx hb dX12_writePart_75 rfl ?_
      refine rl_callvQ (rl_runV (b := m) (As := [.long ((nI (T 3 (5 * sh + q))).toInt64)]) (rest := []) hC hW (cR_put l D t A _ z m _ _ _ hR (w0) (by omega) hF37 _) cs_X12_223 im_X12_put sl_X12_put hR.1 rfl ⟨(Nat.le_of_ble_eq_true rfl), (Nat.le_of_ble_eq_true rfl)⟩ rfl hl.1 rfl (Nat.le_of_ble_eq_true rfl) dX12_writePart_76 ⟨(Nat.le_of_ble_eq_true rfl), (Nat.le_of_ble_eq_true rfl)⟩) hW (fun f1 H locs hp hW => ?_)
      obtain ⟨L1, hR⟩ := hp
      refine lv_aload_n hx hb dX12_writePart_79 rfl (lv_at hl 4 rfl) ?_
      refine lv_iload hx hb dX12_writePart_80 (lv_at hl 0 rfl) ?_
      refine lv_i2l hx hb dX12_writePart_82 rfl ?_
      refine rl_callvQ (rl_runV (b := m) (As := [.long ((nI (4)).toInt64)]) (rest := []) hC hW (cR_put l D t A _ z m _ _ _ hR (w0 + 1) (by omega) rfl _) cs_X12_223 im_X12_put sl_X12_put hR.1 rfl ⟨(Nat.le_of_ble_eq_true rfl), (Nat.le_of_ble_eq_true rfl)⟩ rfl hl.1 rfl (Nat.le_of_ble_eq_true rfl) dX12_writePart_83 ⟨(Nat.le_of_ble_eq_true rfl), (Nat.le_of_ble_eq_true rfl)⟩) hW (fun f1 H locs hp hW => ?_)
      obtain ⟨L2, hR⟩ := hp
      refine lv_iload hx hb dX12_writePart_86 (lv_at hl 0 rfl) ?_
      refine lv_iconst (v := (nI (2))) hx hb dX12_writePart_88 (by decide) ?_
      refine lv_icmp_ge (tgt := 109) hx hb dX12_writePart_89 (by decide) (fun c_21 => ?_) (fun c_21 => ?_)
      · refine lv_iload hx hb dX12_writePart_109 (lv_at hl 0 rfl) ?_
        refine lv_iconst (v := (nI (2))) hx hb dX12_writePart_111 (by decide) ?_
        refine lv_icmp_ne (tgt := 142) hx hb dX12_writePart_112 (by decide) (fun c_22 => ?_) (fun c_22 => ?_)
        · refine lv_iload hx hb dX12_writePart_142 (lv_at hl 0 rfl) ?_
          refine lv_iconst (v := (nI (4))) hx hb dX12_writePart_144 (by decide) ?_
          refine lv_icmp_ne (tgt := 229) hx hb dX12_writePart_145 (by decide) (fun c_23 => ?_) (fun c_23 => ?_)
          · first | exact absurd c_23 (by decide) | exact absurd (by decide) c_23
          · refine lv_aload_n hx hb dX12_writePart_148 rfl (lv_at hl 4 rfl) ?_
            refine lv_iload hx hb dX12_writePart_149 (lv_at hl 1 rfl) ?_
            refine lv_iconst (v := (-1)) hx hb dX12_writePart_151 (by decide) ?_
            refine lv_icmp_ne (tgt := 161) hx hb dX12_writePart_152 (by decide) (fun c5 => ?_) (fun c5 => ?_)
            · refine lv_aload_n hx hb dX12_writePart_161 rfl (lv_at hl 4 rfl) ?_
              refine rl_get (v := .ref (m + 12)) hC hW fl_X12_45 hR.1 rfl dX12_writePart_162 ?_
              refine lv_iload hx hb dX12_writePart_165 (lv_at hl 1 rfl) ?_
              refine lv_bipush (v := (nI (100))) hx hb dX12_writePart_167 (by decide) ?_
              refine lv_isub hx hb dX12_writePart_169 ?_
              refine rl_topn (rg_sub (c := n0) (by omega)) ?_
              refine rl_iald_n (g := I 12) hC hW hR.a12 (by omega) (by decide) dX12_writePart_170 ?_
              refine rl_topn (hs0) ?_
              refine lv_i2l hx hb dX12_writePart_171 rfl ?_
              refine rl_callvQ (rl_runV (b := m) (As := [.long ((nI (c0)).toInt64)]) (rest := []) hC hW (cR_put l D t A _ z m _ _ _ hR (w0 + 1 + 1) (by omega) rfl _) cs_X12_223 im_X12_put sl_X12_put hR.1 rfl ⟨(Nat.le_of_ble_eq_true rfl), (Nat.le_of_ble_eq_true rfl)⟩ rfl hl.1 rfl (Nat.le_of_ble_eq_true rfl) dX12_writePart_172 ⟨(Nat.le_of_ble_eq_true rfl), (Nat.le_of_ble_eq_true rfl)⟩) hW (fun f1 H locs hp hW => ?_)
              obtain ⟨L3, hR⟩ := hp
              refine lv_iconst (v := (nI (0))) hx hb dX12_writePart_175 (by decide) ?_
              refine lv_istore (lv' := [(6, .int (nI (0))), (5, .int (nI (4))), (4, .int (nI (100 + n0))), (3, .int (nI (q))), (2, .int (nI (k))), (0, .ref (m)), (1, .int (nI (d + 1)))]) hx hb dX12_writePart_176 hl (by decide) rfl (fun ls hl => ?_)
              replace hl : lv_has ls 7 [(0, .ref (m)), (1, .int (nI (d + 1))), (4, .int (nI (100 + n0))), (6, .int (nI (0)))] := lv_sub hl [5, 6, 2, 0] rfl
              have hinv : ∃ f2 : rl_M, ∃ L' : Nat → Nat → Int64, ∃ F' : Nat → Int32, ∃ i : Nat, rl_W D A f2 z s.heap H locs ∧ RM t f2 m (va_up I 40 (upd (I 40) d (nI (q + 1)))) L' F' ∧ (i ≤ c0 ∧ (∀ j, j ≠ 37 → F' j = F j) ∧ F' 37 = nI (w0 + 3 + i)) ∧ lv_has ls 7 [(0, .ref (m)), (1, .int (nI (d + 1))), (4, .int (nI (100 + n0))), (6, .int (nI (i)))] := ⟨_, _, _, 0, hW, hR, ⟨Nat.zero_le _, (fun j h1 => by repeat rw [rg_upl h1]), rfl⟩, hl⟩
              clear hW hR hl
              obtain ⟨f2, L', F', i, hW, hR, ⟨hi, hFF, hF37b⟩, hl⟩ := hinv
              obtain ⟨n, hn⟩ : ∃ n, c0 - i < n := ⟨_, Nat.lt_succ_self _⟩
              induction n generalizing f2 L' F' i H locs ls with
              | zero => exact absurd hn (Nat.not_lt_zero _)
              | succ n ih =>
                refine lv_iload hx hb dX12_writePart_178 (lv_at hl 2 rfl) ?_
                refine lv_iconst (v := (-1)) hx hb dX12_writePart_180 (by decide) ?_
                refine lv_icmp_eq (tgt := 226) hx hb dX12_writePart_181 (by decide) (fun c6 => ?_) (fun c6 => ?_)
                · exact absurd c6 (rg_m1 (by omega))
                · refine lv_iload hx hb dX12_writePart_184 (lv_at hl 3 rfl) ?_
                  refine lv_aload_n hx hb dX12_writePart_186 rfl (lv_at hl 0 rfl) ?_
                  refine rl_get (v := .ref (m + 12)) hC hW fl_X12_45 hR.1 rfl dX12_writePart_187 ?_
                  refine lv_iload hx hb dX12_writePart_190 (lv_at hl 2 rfl) ?_
                  refine lv_bipush (v := (nI (100))) hx hb dX12_writePart_192 (by decide) ?_
                  refine lv_isub hx hb dX12_writePart_194 ?_
                  refine rl_topn (rg_sub (c := n0) (by omega)) ?_
                  refine rl_iald_n (g := I 12) hC hW hR.a12 (by omega) (by decide) dX12_writePart_195 ?_
                  refine rl_topn (hs0) ?_
                  refine lv_icmp_ge (tgt := 226) hx hb dX12_writePart_196 (by decide) (fun c7 => ?_) (fun c7 => ?_)
                  · have hie := rg_le c7 (by omega) (by omega)
                    refine lv_goto (tgt := 265) hx hb dX12_writePart_226 (by decide) ?_
                    refine lv_iload_n hx hb dX12_writePart_265 rfl (lv_at hl 1 rfl) ?_
                    exact rl_iret hC hW hr hlk (Nat.le_refl _) (Nat.le_refl _) ⟨_, rfl, rfl, rfl, d + 1, w0 + 3 + i, _, _, _, rfl, hR, (fun j h1 h2 => by rw [va_up_n _ _ h2]), hFF, hF37b, by omega, by omega, Or.inl rfl, hwr.next hk e39 e16 hq hpn5⟩ dX12_writePart_266
                  · have hlt := rg_lt c7 (by omega) (by omega)
                    refine lv_aload_n hx hb dX12_writePart_199 rfl (lv_at hl 0 rfl) ?_
                    refine lv_aload_n hx hb dX12_writePart_200 rfl (lv_at hl 0 rfl) ?_
                    refine rl_get (v := .ref (m + 13)) hC hW fl_X12_49 hR.1 rfl dX12_writePart_201 ?_
                    refine lv_bipush (v := (nI (8))) hx hb dX12_writePart_204 (by decide) ?_
                    refine lv_iload hx hb dX12_writePart_206 (lv_at hl 2 rfl) ?_
                    refine lv_bipush (v := (nI (100))) hx hb dX12_writePart_208 (by decide) ?_
                    refine lv_isub hx hb dX12_writePart_210 ?_
                    refine rl_topn (rg_sub (c := n0) (by omega)) ?_
                    refine lv_imul hx hb dX12_writePart_211 ?_
                    refine rl_topn (pk_mul _ _) ?_
                    refine lv_iload hx hb dX12_writePart_212 (lv_at hl 3 rfl) ?_
                    refine lv_iadd hx hb dX12_writePart_214 ?_
                    refine rl_topn (nI_add _ _) ?_
                    refine rl_iald_n (g := I 13) hC hW hR.a13 (by omega) (by decide) dX12_writePart_215 ?_
                    refine lv_i2l hx hb dX12_writePart_216 rfl ?_
                    refine rl_callvQ (rl_runV (b := m) (As := [.long ((I 13 (((8) * (n0)) + (i))).toInt64)]) (rest := []) hC hW (cR_put l D t A _ z m _ _ _ hR (w0 + 3 + i) (by omega) hF37b _) cs_X12_223 im_X12_put sl_X12_put hR.1 rfl ⟨(Nat.le_of_ble_eq_true rfl), (Nat.le_of_ble_eq_true rfl)⟩ rfl hl.1 rfl (Nat.le_of_ble_eq_true rfl) dX12_writePart_217 ⟨(Nat.le_of_ble_eq_true rfl), (Nat.le_of_ble_eq_true rfl)⟩) hW (fun f1 H locs hp hW => ?_)
                    obtain ⟨L2, hR⟩ := hp
                    refine lv_iinc (v := (nI ((i) + 1))) (lv' := [(6, .int (nI ((i) + 1))), (0, .ref (m)), (1, .int (nI (d + 1))), (4, .int (nI (100 + n0)))]) hx hb dX12_writePart_220 hl (k := 3) rfl (nI_1 _) (by decide) rfl (fun ls hl => ?_)
                    refine lv_goto (tgt := 178) hx hb dX12_writePart_223 (by decide) ?_
                    replace hl : lv_has ls 7 [(0, .ref (m)), (1, .int (nI (d + 1))), (4, .int (nI (100 + n0))), (6, .int (nI ((i) + 1)))] := lv_sub hl [1, 2, 3, 0] rfl
                    exact ih _ _ _ _ _ _ (i + 1) hW hR hl (by omega) (fun j hj => by rw [rg_upl hj]; exact hFF j hj) rfl (by omega)
            · exact absurd c5 (rg_m1 (by omega))
        · first | exact absurd c_22 (by decide) | exact absurd (by decide) c_22
      · first | exact absurd c_21 (by decide) | exact absurd (by decide) c_21
    · exact absurd hX.1 (by decide)

theorem wb_inj9 {a b : Nat} (h : nI a = nI b) (hb : b ≤ 5) (ha : a < 2 ^ 31 := by omega) : a = b := (nI_eq ha (by omega)).mp h

set_option maxHeartbeats 4000000 in
set_option maxRecDepth 100000 in
theorem cR_write (l : Launch) (D : va_G) (t : Nat → ClassId) (A : Nat → Prop) (f : rl_M) (z : Nat) (m : Nat) (T : Nat → Nat → Nat) (ρ κ : Nat) (hS : RS t f m T ρ κ) (hρ : ρ + 84 ≤ 43100) (hκ : κ + 51 ≤ 26200) (x1 : Int32) : rl_Met l yX12_write (.code yX12_write cX12_write 4 (some FieldType.int)) (rl_rm 3 0 0) D t A f z [.ref (m), .int (x1)] (rl_qi z fun r f1 => ∃ ρ' κ', ρ' ≤ ρ + 84 ∧ κ' ≤ κ + 51 ∧ RS t f1 m T ρ' κ') := by
  obtain ⟨I, L, F, lv', hR, hTc, hTp, hTk, hVw, hVe, hVp, hF11, hF14, hF22, hlv⟩ := hS
  refine rl_begin (own := RX12) (lv := [(0, .ref (m)), (1, .int (x1))]) (by decide +kernel) rfl (Nat.le_of_ble_eq_true rfl) rfl fun p e s m0 args below meth c ls H locs hC hr hlk hnm hW hl hx hb => ?_
  refine lv_iload_n hx hb dX12_write_0 rfl (lv_at hl 1 rfl) ?_
  refine rl_calliQ (rl_runS (As := [.int (x1)]) (rest := []) hC hW (cR_isPlace l D t A _ z _) cs_X12_148 sm_X12_isPlace ⟨(Nat.le_of_ble_eq_true rfl), (Nat.le_of_ble_eq_true rfl)⟩ rfl hl.1 rfl (Nat.le_of_ble_eq_true rfl) dX12_write_1 ⟨(Nat.le_of_ble_eq_true rfl), (Nat.le_of_ble_eq_true rfl)⟩) hW (fun r f1 H locs hp hW => ?_)
  obtain ⟨rfl, hp⟩ := hp
  rcases hp with ⟨rfl, hp⟩ | ⟨rfl, hp⟩
  · obtain ⟨p0, hp0, rfl⟩ := hp
    refine lv_if_eq (tgt := 21) hx hb dX12_write_4 (by decide) (fun c9 => ?_) (fun c9 => ?_)
    · exact absurd c9 (by decide)
    · refine lv_aload_n hx hb dX12_write_7 rfl (lv_at hl 0 rfl) ?_
      refine lv_aload_n hx hb dX12_write_8 rfl (lv_at hl 0 rfl) ?_
      refine rl_get (v := .ref (m + 18)) hC hW fl_X12_66 hR.1 rfl dX12_write_9 ?_
      refine lv_iload_n hx hb dX12_write_12 rfl (lv_at hl 1 rfl) ?_
      refine rl_iald_n (g := I 19) hC hW hR.a19 (by omega) (by decide) dX12_write_13 ?_
      refine rl_calliQ (rl_runV (b := m) (As := [.int (I 19 (p0))]) (rest := []) hC hW (cR_familyOf l D t A _ z m _ L F hR ρ κ (by omega) (by omega) _ (hVp.1 p0 hp0)) cs_X12_160 im_X12_familyOf sl_X12_familyOf hR.1 rfl ⟨(Nat.le_of_ble_eq_true rfl), (Nat.le_of_ble_eq_true rfl)⟩ rfl hl.1 rfl (Nat.le_of_ble_eq_true rfl) dX12_write_14 ⟨(Nat.le_of_ble_eq_true rfl), (Nat.le_of_ble_eq_true rfl)⟩) hW (fun r f1 H locs hp hW => ?_)
      obtain ⟨rfl, hp⟩ := hp
      rcases hp with ⟨_, rfl⟩ | ⟨_, rfl | rfl⟩ | ⟨_, rfl⟩ | ⟨hp, rfl⟩
      · refine lv_iconst (v := (nI (4))) hx hb dX12_write_17 (by decide) ?_
        refine lv_icmp_eq (tgt := 23) hx hb dX12_write_18 (by decide) (fun c_1 => ?_) (fun c_1 => ?_)
        · first | exact absurd c_1 (by decide) | exact absurd (by decide) c_1
        · refine lv_iconst (v := (-1)) hx hb dX12_write_21 (by decide) ?_
          exact rl_iret hC hW hr hlk (Nat.le_refl _) (Nat.le_refl _) ⟨_, rfl, rfl, rfl, ρ, κ, by omega, by omega, ⟨_, _, _, lv', hR, hTc, hTp, hTk, hVw, hVe, hVp, hF11, hF14, hF22, hlv⟩⟩ dX12_write_22
      · refine lv_iconst (v := (nI (4))) hx hb dX12_write_17 (by decide) ?_
        refine lv_icmp_eq (tgt := 23) hx hb dX12_write_18 (by decide) (fun c_2 => ?_) (fun c_2 => ?_)
        · first | exact absurd c_2 (by decide) | exact absurd (by decide) c_2
        · refine lv_iconst (v := (-1)) hx hb dX12_write_21 (by decide) ?_
          exact rl_iret hC hW hr hlk (Nat.le_refl _) (Nat.le_refl _) ⟨_, rfl, rfl, rfl, ρ, κ, by omega, by omega, ⟨_, _, _, lv', hR, hTc, hTp, hTk, hVw, hVe, hVp, hF11, hF14, hF22, hlv⟩⟩ dX12_write_22
      · refine lv_iconst (v := (nI (4))) hx hb dX12_write_17 (by decide) ?_
        refine lv_icmp_eq (tgt := 23) hx hb dX12_write_18 (by decide) (fun c_3 => ?_) (fun c_3 => ?_)
        · first | exact absurd c_3 (by decide) | exact absurd (by decide) c_3
        · refine lv_iconst (v := (-1)) hx hb dX12_write_21 (by decide) ?_
          exact rl_iret hC hW hr hlk (Nat.le_refl _) (Nat.le_refl _) ⟨_, rfl, rfl, rfl, ρ, κ, by omega, by omega, ⟨_, _, _, lv', hR, hTc, hTp, hTk, hVw, hVe, hVp, hF11, hF14, hF22, hlv⟩⟩ dX12_write_22
      · refine lv_iconst (v := (nI (4))) hx hb dX12_write_17 (by decide) ?_
        refine lv_icmp_eq (tgt := 23) hx hb dX12_write_18 (by decide) (fun c_4 => ?_) (fun c_4 => ?_)
        · first | exact absurd c_4 (by decide) | exact absurd (by decide) c_4
        · refine lv_iconst (v := (-1)) hx hb dX12_write_21 (by decide) ?_
          exact rl_iret hC hW hr hlk (Nat.le_refl _) (Nat.le_refl _) ⟨_, rfl, rfl, rfl, ρ, κ, by omega, by omega, ⟨_, _, _, lv', hR, hTc, hTp, hTk, hVw, hVe, hVp, hF11, hF14, hF22, hlv⟩⟩ dX12_write_22
      · obtain ⟨n0, hn0, he⟩ := hp
        obtain ⟨sh, pn, hsh, h15, h16, hpn, hth⟩ := hVe n0 hn0
        refine lv_iconst (v := (nI (4))) hx hb dX12_write_17 (by decide) ?_
        refine lv_icmp_eq (tgt := 23) hx hb dX12_write_18 (by decide) (fun c2 => ?_) (fun c2 => ?_)
        · refine lv_aload_n hx hb dX12_write_23 rfl (lv_at hl 0 rfl) ?_
          refine lv_iconst (v := (nI (0))) hx hb dX12_write_24 (by decide) ?_
          refine rl_put (v := .int (nI (0))) hC hW fp_X12_220 hR.1 (Nat.le_of_ble_eq_true rfl) rfl rfl dX12_write_25 (fun H locs hW => ?_)
          have hR := hR.f37 (nI (0))
          refine lv_aload_n hx hb dX12_write_28 rfl (lv_at hl 0 rfl) ?_
          refine lv_iconst (v := (nI (0))) hx hb dX12_write_29 (by decide) ?_
          refine lv_aload_n hx hb dX12_write_30 rfl (lv_at hl 0 rfl) ?_
          refine rl_get (v := .ref (m + 18)) hC hW fl_X12_66 hR.1 rfl dX12_write_31 ?_
          refine lv_iload_n hx hb dX12_write_34 rfl (lv_at hl 1 rfl) ?_
          refine rl_iald_n (g := I 19) hC hW hR.a19 (by omega) (by decide) dX12_write_35 ?_
          refine rl_topn (he) ?_
          refine lv_ldc (v := nI 1000000) hx hb hC.2.2.2.1 (hC.2.2.2.2.1 _ (List.mem_cons_of_mem _ mw_859)) dX12_write_36 ?_
          refine lv_isub hx hb dX12_write_38 ?_
          refine rl_topn (rg_sub (c := n0) (by omega)) ?_
          refine rl_calliQ (rl_runV (b := m) (As := [.int (nI (0)), .int (nI (n0))]) (rest := []) hC hW (cR_begins l D t A _ z m _ _ _ hR T ρ κ (by omega) (by omega) hTp hVw hVe 0 n0 0 (by decide) hn0 (by decide) rfl) cs_X12_229 im_X12_begins sl_X12_begins hR.1 rfl ⟨(Nat.le_of_ble_eq_true rfl), (Nat.le_of_ble_eq_true rfl)⟩ rfl hl.1 rfl (Nat.le_of_ble_eq_true rfl) dX12_write_39 ⟨(Nat.le_of_ble_eq_true rfl), (Nat.le_of_ble_eq_true rfl)⟩) hW (fun r f1 H locs hp hW => ?_)
          obtain ⟨rfl, L1, hR⟩ := hp
          refine lv_istore_n (lv' := [(2, .int (nI (0 + 1))), (0, .ref (m)), (1, .int (nI (p0)))]) hx hb dX12_write_42 rfl hl (by decide) rfl (fun ls hl => ?_)
          replace hl : lv_has ls 4 [(0, .ref (m)), (1, .int (nI (p0))), (2, .int (nI (0 + 1)))] := lv_sub hl [1, 2, 0] rfl
          have hinv : ∃ f2 : rl_M, ∃ I' : Nat → Nat → Int32, ∃ L' : Nat → Nat → Int64, ∃ F' : Nat → Int32, ∃ d w0 : Nat, rl_W D A f2 z s.heap H locs ∧ RM t f2 m I' L' F' ∧ (∀ j, j ≠ 39 → j ≠ 40 → I' j = I j) ∧ (∀ j, j ≠ 37 → F' j = F j) ∧ F' 37 = nI w0 ∧ 5 * d ≤ w0 + 3 ∧ w0 ≤ 262 ∧ rf_wr κ d (I' 39) (I' 40) (I 16) ∧ lv_has ls 4 [(0, .ref (m)), (1, .int (nI (p0))), (2, .int (nI (d)))] := ⟨_, _, _, _, 0 + 1, 0 + 1 + 1, hW, hR, fun j h1 h2 => by rw [va_up_n _ _ h2, va_up_n _ _ h1], fun j h1 => by rw [rg_upl h1, rg_upl h1, rg_upl h1], rfl, by decide, by decide, rf_wr.push (d := 0) (fun i hi => absurd hi (Nat.not_lt_zero _)) hn0 h16 (by have := (hTp.1 sh hsh).2; omega), hl⟩
          clear hW hR hl
          obtain ⟨f2, I', L', F', d, w0, hW, hR, hsI, hsF, hF37, hdw, hw0, hwr, hl⟩ := hinv
          obtain ⟨n, hn⟩ : ∃ n, 2 * (300 - w0) + d < n := ⟨_, Nat.lt_succ_self _⟩
          induction n generalizing f2 I' L' F' d w0 H locs ls with
          | zero => exact absurd hn (Nat.not_lt_zero _)
          | succ n ih =>
            have hTc' : RTc T (I' 0) (I' 1) := (by rw [hsI 0 (by decide) (by decide), hsI 1 (by decide) (by decide)]; exact hTc)
            have hTp' : RTp T (I' 3) (I' 4) (I' 5) (I' 6) := (by rw [hsI 3 (by decide) (by decide), hsI 4 (by decide) (by decide), hsI 5 (by decide) (by decide), hsI 6 (by decide) (by decide)]; exact hTp)
            have hTk' : RTk T (I' 7) (I' 8) (I' 9) (I' 10) := (by rw [hsI 7 (by decide) (by decide), hsI 8 (by decide) (by decide), hsI 9 (by decide) (by decide), hsI 10 (by decide) (by decide)]; exact hTk)
            have hVw' : RVw ρ (I' 12) := (by rw [hsI 12 (by decide) (by decide)]; exact hVw)
            have hVe' : RVe T ρ κ (I' 15) (I' 16) (I' 18) := (by rw [hsI 15 (by decide) (by decide), hsI 16 (by decide) (by decide), hsI 18 (by decide) (by decide)]; exact hVe)
            have hVp' : RVp ρ κ (I' 19) (I' 21) := (by rw [hsI 19 (by decide) (by decide), hsI 21 (by decide) (by decide)]; exact hVp)
            have hF11' : F' 11 = nI ρ := (by rw [hsF 11 (by decide)]; exact hF11)
            have hF14' : F' 14 = nI κ := (by rw [hsF 14 (by decide)]; exact hF14)
            have hF22' : F' 22 = nI lv' := (by rw [hsF 22 (by decide)]; exact hF22)
            have hwr' : rf_wr κ d (I' 39) (I' 40) (I' 16) := (by rw [hsI 16 (by decide) (by decide)]; exact hwr)
            refine lv_iload_n hx hb dX12_write_43 rfl (lv_at hl 2 rfl) ?_
            refine lv_if_le (tgt := 96) hx hb dX12_write_44 (by decide) (fun c3 => ?_) (fun c3 => ?_)
            · refine lv_aload_n hx hb dX12_write_96 rfl (lv_at hl 0 rfl) ?_
              refine rl_get (v := .int (F' 37)) hC hW fl_X12_220 hR.1 rfl dX12_write_97 ?_
              refine rl_topn (hF37) ?_
              refine lv_sipush (v := (nI (250))) hx hb dX12_write_100 (by decide) ?_
              refine lv_icmp_le (tgt := 109) hx hb dX12_write_103 (by decide) (fun c8 => ?_) (fun c8 => ?_)
              · have hw250 : w0 ≤ 250 := rg_le c8 (by omega) (by decide)
                clear ih hn
                refine lv_aload_n hx hb dX12_write_109 rfl (lv_at hl 0 rfl) ?_
                refine lv_aload_n hx hb dX12_write_110 rfl (lv_at hl 0 rfl) ?_
                refine rl_get (v := .int (F' 37)) hC hW fl_X12_220 hR.1 rfl dX12_write_111 ?_
                refine rl_topn (hF37) ?_
                refine rl_put (v := .int (nI (w0))) hC hW fp_X12_235 hR.1 (Nat.le_of_ble_eq_true rfl) rfl rfl dX12_write_114 (fun H locs hW => ?_)
                have hR := hR.f22 (nI (w0))
                refine lv_iconst (v := (nI (0))) hx hb dX12_write_117 (by decide) ?_
                refine lv_istore_n (lv' := [(3, .int (nI (0))), (0, .ref (m)), (1, .int (nI (p0))), (2, .int (nI (d)))]) hx hb dX12_write_118 rfl hl (by decide) rfl (fun ls hl => ?_)
                replace hl : lv_has ls 4 [(0, .ref (m)), (1, .int (nI (p0))), (3, .int (nI (0)))] := lv_sub hl [1, 2, 0] rfl
                have hinv : ∃ f3 : rl_M, ∃ g : Nat → Int64, ∃ i : Nat, rl_W D A f3 z s.heap H locs ∧ RM t f3 m I' (va_up L' 23 g) (upd F' 22 (nI w0)) ∧ i ≤ w0 ∧ lv_has ls 4 [(0, .ref (m)), (1, .int (nI (p0))), (3, .int (nI (i)))] := ⟨_, _, 0, hW, RM.eq rfl (va_up_same L' 23) hR, Nat.zero_le _, hl⟩
                clear hW hR hl
                obtain ⟨f3, g, i, hW, hR, hiw, hl⟩ := hinv
                obtain ⟨n, hn⟩ : ∃ n, w0 - i < n := ⟨_, Nat.lt_succ_self _⟩
                induction n generalizing f3 g i H locs ls with
                | zero => exact absurd hn (Nat.not_lt_zero _)
                | succ n ih =>
                  refine lv_iload_n hx hb dX12_write_119 rfl (lv_at hl 2 rfl) ?_
                  refine lv_aload_n hx hb dX12_write_120 rfl (lv_at hl 0 rfl) ?_
                  refine rl_get (v := .int (F' 37)) hC hW fl_X12_220 hR.1 rfl dX12_write_121 ?_
                  refine rl_topn (hF37) ?_
                  refine lv_icmp_ge (tgt := 145) hx hb dX12_write_124 (by decide) (fun c9 => ?_) (fun c9 => ?_)
                  · refine lv_aload_n hx hb dX12_write_145 rfl (lv_at hl 0 rfl) ?_
                    refine rl_get (v := .int (nI (w0))) hC hW fl_X12_235 hR.1 rfl dX12_write_146 ?_
                    exact rl_iret hC hW hr hlk (Nat.le_refl _) (Nat.le_refl _) ⟨_, rfl, rfl, rfl, ρ, κ, by omega, by omega, ⟨_, _, _, w0, hR, hTc', hTp', hTk', hVw', hVe', hVp', hF11', hF14', rfl, hw250⟩⟩ dX12_write_149
                  · have hlt : i < w0 := rg_lt c9 (by omega) (by omega)
                    refine lv_aload_n hx hb dX12_write_127 rfl (lv_at hl 0 rfl) ?_
                    refine rl_get (v := .ref (m + 21)) hC hW fl_X12_75 hR.1 rfl dX12_write_128 ?_
                    refine lv_iload_n hx hb dX12_write_131 rfl (lv_at hl 2 rfl) ?_
                    refine lv_aload_n hx hb dX12_write_132 rfl (lv_at hl 0 rfl) ?_
                    refine rl_get (v := .ref (m + 27)) hC hW fl_X12_97 hR.1 rfl dX12_write_133 ?_
                    refine lv_iload_n hx hb dX12_write_136 rfl (lv_at hl 2 rfl) ?_
                    refine rl_lald_n (g := L' 38) hC hW hR.a38 (by omega) (by decide) dX12_write_137 ?_
                    refine rl_last_n (g := g) hC hW hR.a23 (by omega) (by decide) dX12_write_138 (fun H locs hW => ?_)
                    have hR := hR.s23 (vp_updL (g) (i) (L' 38 (i)))
                    refine lv_iinc (v := (nI ((i) + 1))) (lv' := [(3, .int (nI ((i) + 1))), (0, .ref (m)), (1, .int (nI (p0)))]) hx hb dX12_write_139 hl (k := 2) rfl (nI_1 _) (by decide) rfl (fun ls hl => ?_)
                    refine lv_goto (tgt := 119) hx hb dX12_write_142 (by decide) ?_
                    replace hl : lv_has ls 4 [(0, .ref (m)), (1, .int (nI (p0))), (3, .int (nI ((i) + 1)))] := lv_sub hl [1, 2, 0] rfl
                    replace hR := RM.eq rfl (va_up_up L' 23 g _).symm hR
                    exact ih _ _ _ _ _ (i + 1) hW hR (by omega) hl (by omega)
              · refine lv_bipush (v := (-2)) hx hb dX12_write_106 (by decide) ?_
                exact rl_iret hC hW hr hlk (Nat.le_refl _) (Nat.le_refl _) ⟨_, rfl, rfl, rfl, ρ, κ, by omega, by omega, ⟨_, _, _, lv', hR, hTc', hTp', hTk', hVw', hVe', hVp', hF11', hF14', hF22', hlv⟩⟩ dX12_write_108
            · refine lv_aload_n hx hb dX12_write_47 rfl (lv_at hl 0 rfl) ?_
              refine rl_get (v := .int (F' 37)) hC hW fl_X12_220 hR.1 rfl dX12_write_48 ?_
              refine rl_topn (hF37) ?_
              refine lv_sipush (v := (nI (250))) hx hb dX12_write_51 (by decide) ?_
              refine lv_icmp_gt (tgt := 96) hx hb dX12_write_54 (by decide) (fun c4 => ?_) (fun c4 => ?_)
              · refine lv_aload_n hx hb dX12_write_96 rfl (lv_at hl 0 rfl) ?_
                refine rl_get (v := .int (F' 37)) hC hW fl_X12_220 hR.1 rfl dX12_write_97 ?_
                refine rl_topn (hF37) ?_
                refine lv_sipush (v := (nI (250))) hx hb dX12_write_100 (by decide) ?_
                refine lv_icmp_le (tgt := 109) hx hb dX12_write_103 (by decide) (fun c8 => ?_) (fun c8 => ?_)
                · have hw250 : w0 ≤ 250 := rg_le c8 (by omega) (by decide)
                  clear ih hn
                  refine lv_aload_n hx hb dX12_write_109 rfl (lv_at hl 0 rfl) ?_
                  refine lv_aload_n hx hb dX12_write_110 rfl (lv_at hl 0 rfl) ?_
                  refine rl_get (v := .int (F' 37)) hC hW fl_X12_220 hR.1 rfl dX12_write_111 ?_
                  refine rl_topn (hF37) ?_
                  refine rl_put (v := .int (nI (w0))) hC hW fp_X12_235 hR.1 (Nat.le_of_ble_eq_true rfl) rfl rfl dX12_write_114 (fun H locs hW => ?_)
                  have hR := hR.f22 (nI (w0))
                  refine lv_iconst (v := (nI (0))) hx hb dX12_write_117 (by decide) ?_
                  refine lv_istore_n (lv' := [(3, .int (nI (0))), (0, .ref (m)), (1, .int (nI (p0))), (2, .int (nI (d)))]) hx hb dX12_write_118 rfl hl (by decide) rfl (fun ls hl => ?_)
                  replace hl : lv_has ls 4 [(0, .ref (m)), (1, .int (nI (p0))), (3, .int (nI (0)))] := lv_sub hl [1, 2, 0] rfl
                  have hinv : ∃ f3 : rl_M, ∃ g : Nat → Int64, ∃ i : Nat, rl_W D A f3 z s.heap H locs ∧ RM t f3 m I' (va_up L' 23 g) (upd F' 22 (nI w0)) ∧ i ≤ w0 ∧ lv_has ls 4 [(0, .ref (m)), (1, .int (nI (p0))), (3, .int (nI (i)))] := ⟨_, _, 0, hW, RM.eq rfl (va_up_same L' 23) hR, Nat.zero_le _, hl⟩
                  clear hW hR hl
                  obtain ⟨f3, g, i, hW, hR, hiw, hl⟩ := hinv
                  obtain ⟨n, hn⟩ : ∃ n, w0 - i < n := ⟨_, Nat.lt_succ_self _⟩
                  induction n generalizing f3 g i H locs ls with
                  | zero => exact absurd hn (Nat.not_lt_zero _)
                  | succ n ih =>
                    refine lv_iload_n hx hb dX12_write_119 rfl (lv_at hl 2 rfl) ?_
                    refine lv_aload_n hx hb dX12_write_120 rfl (lv_at hl 0 rfl) ?_
                    refine rl_get (v := .int (F' 37)) hC hW fl_X12_220 hR.1 rfl dX12_write_121 ?_
                    refine rl_topn (hF37) ?_
                    refine lv_icmp_ge (tgt := 145) hx hb dX12_write_124 (by decide) (fun c9 => ?_) (fun c9 => ?_)
                    · refine lv_aload_n hx hb dX12_write_145 rfl (lv_at hl 0 rfl) ?_
                      refine rl_get (v := .int (nI (w0))) hC hW fl_X12_235 hR.1 rfl dX12_write_146 ?_
                      exact rl_iret hC hW hr hlk (Nat.le_refl _) (Nat.le_refl _) ⟨_, rfl, rfl, rfl, ρ, κ, by omega, by omega, ⟨_, _, _, w0, hR, hTc', hTp', hTk', hVw', hVe', hVp', hF11', hF14', rfl, hw250⟩⟩ dX12_write_149
                    · have hlt : i < w0 := rg_lt c9 (by omega) (by omega)
                      refine lv_aload_n hx hb dX12_write_127 rfl (lv_at hl 0 rfl) ?_
                      refine rl_get (v := .ref (m + 21)) hC hW fl_X12_75 hR.1 rfl dX12_write_128 ?_
                      refine lv_iload_n hx hb dX12_write_131 rfl (lv_at hl 2 rfl) ?_
                      refine lv_aload_n hx hb dX12_write_132 rfl (lv_at hl 0 rfl) ?_
                      refine rl_get (v := .ref (m + 27)) hC hW fl_X12_97 hR.1 rfl dX12_write_133 ?_
                      refine lv_iload_n hx hb dX12_write_136 rfl (lv_at hl 2 rfl) ?_
                      refine rl_lald_n (g := L' 38) hC hW hR.a38 (by omega) (by decide) dX12_write_137 ?_
                      refine rl_last_n (g := g) hC hW hR.a23 (by omega) (by decide) dX12_write_138 (fun H locs hW => ?_)
                      have hR := hR.s23 (vp_updL (g) (i) (L' 38 (i)))
                      refine lv_iinc (v := (nI ((i) + 1))) (lv' := [(3, .int (nI ((i) + 1))), (0, .ref (m)), (1, .int (nI (p0)))]) hx hb dX12_write_139 hl (k := 2) rfl (nI_1 _) (by decide) rfl (fun ls hl => ?_)
                      refine lv_goto (tgt := 119) hx hb dX12_write_142 (by decide) ?_
                      replace hl : lv_has ls 4 [(0, .ref (m)), (1, .int (nI (p0))), (3, .int (nI ((i) + 1)))] := lv_sub hl [1, 2, 0] rfl
                      replace hR := RM.eq rfl (va_up_up L' 23 g _).symm hR
                      exact ih _ _ _ _ _ (i + 1) hW hR (by omega) hl (by omega)
                · refine lv_bipush (v := (-2)) hx hb dX12_write_106 (by decide) ?_
                  exact rl_iret hC hW hr hlk (Nat.le_refl _) (Nat.le_refl _) ⟨_, rfl, rfl, rfl, ρ, κ, by omega, by omega, ⟨_, _, _, lv', hR, hTc', hTp', hTk', hVw', hVe', hVp', hF11', hF14', hF22', hlv⟩⟩ dX12_write_108
              · have hw250 : w0 ≤ 250 := Nat.le_of_not_lt (fun q => c4 ((nI_ltI (by decide) (by omega)).mpr q))
                have hd0 : d ≠ 0 := fun q => c3 (by rw [q]; decide)
                obtain ⟨d, rfl⟩ : ∃ e, d = e + 1 := ⟨d - 1, by omega⟩
                obtain ⟨k, q, pk, hk, e39, e40, e16, hqp, hpk5⟩ := hwr' d (by omega)
                obtain ⟨sh2, pn2, hsh2, _, h16b, hpn2, _⟩ := hVe' k hk
                have h5 := (hTp.1 sh2 hsh2).2
                refine lv_aload_n hx hb dX12_write_57 rfl (lv_at hl 0 rfl) ?_
                refine rl_get (v := .ref (m + 29)) hC hW fl_X12_103 hR.1 rfl dX12_write_58 ?_
                refine lv_iload_n hx hb dX12_write_61 rfl (lv_at hl 2 rfl) ?_
                refine lv_iconst (v := (nI (1))) hx hb dX12_write_62 (by decide) ?_
                refine lv_isub hx hb dX12_write_63 ?_
                refine rl_topn (rg_sub (c := d) (by omega)) ?_
                refine rl_iald_n (g := I' 40) hC hW hR.a40 (by omega) (by decide) dX12_write_64 ?_
                refine rl_topn (e40) ?_
                refine lv_aload_n hx hb dX12_write_65 rfl (lv_at hl 0 rfl) ?_
                refine rl_get (v := .ref (m + 15)) hC hW fl_X12_55 hR.1 rfl dX12_write_66 ?_
                refine lv_aload_n hx hb dX12_write_69 rfl (lv_at hl 0 rfl) ?_
                refine rl_get (v := .ref (m + 28)) hC hW fl_X12_100 hR.1 rfl dX12_write_70 ?_
                refine lv_iload_n hx hb dX12_write_73 rfl (lv_at hl 2 rfl) ?_
                refine lv_iconst (v := (nI (1))) hx hb dX12_write_74 (by decide) ?_
                refine lv_isub hx hb dX12_write_75 ?_
                refine rl_topn (rg_sub (c := d) (by omega)) ?_
                refine rl_iald_n (g := I' 39) hC hW hR.a39 (by omega) (by decide) dX12_write_76 ?_
                refine rl_topn (e39) ?_
                refine rl_iald_n (g := I' 16) hC hW hR.a16 (by omega) (by decide) dX12_write_77 ?_
                refine rl_topn (e16) ?_
                refine lv_icmp_ne (tgt := 87) hx hb dX12_write_78 (by decide) (fun c5 => ?_) (fun c5 => ?_)
                · have hqn : q ≠ pk := fun e => c5 (by rw [e])
                  refine lv_aload_n hx hb dX12_write_87 rfl (lv_at hl 0 rfl) ?_
                  refine lv_iload_n hx hb dX12_write_88 rfl (lv_at hl 2 rfl) ?_
                  refine rl_calliQ (rl_runV (b := m) (As := [.int (nI (d + 1))]) (rest := []) hC hW (cR_writePart l D t A _ z m I' L' F' hR T ρ κ (by omega) (by omega) hTp' hVw' hVe' d k q pk w0 (by omega) hk e39 e40 e16 hpk5 (by omega) hwr' (by omega) hF37) cs_X12_232 im_X12_writePart sl_X12_writePart hR.1 rfl ⟨(Nat.le_of_ble_eq_true rfl), (Nat.le_of_ble_eq_true rfl)⟩ rfl hl.1 rfl (Nat.le_of_ble_eq_true rfl) dX12_write_89 ⟨(Nat.le_of_ble_eq_true rfl), (Nat.le_of_ble_eq_true rfl)⟩) hW (fun r f1 H locs hp hW => ?_)
                  obtain ⟨d2, w2, I2, L2, F2, rfl, hR, gI, gF, g37, gw1, gw2, gd, gwr⟩ := hp
                  refine lv_istore_n (lv' := [(2, .int (nI (d2))), (0, .ref (m)), (1, .int (nI (p0)))]) hx hb dX12_write_92 rfl hl (by decide) rfl (fun ls hl => ?_)
                  refine lv_goto (tgt := 43) hx hb dX12_write_93 (by decide) ?_
                  replace hl : lv_has ls 4 [(0, .ref (m)), (1, .int (nI (p0))), (2, .int (nI (d2)))] := lv_sub hl [1, 2, 0] rfl
                  exact ih _ _ _ _ I2 L2 F2 d2 w2 hW hR (fun j h1 h2 => by rw [gI j h1 h2]; exact hsI j h1 h2) (fun j h1 => by rw [gF j h1]; exact hsF j h1) g37 (by rcases gd with gd | gd <;> omega) (by omega) (by rw [← hsI 16 (by decide) (by decide)]; exact gwr) hl (by rcases gd with gd | gd <;> omega)
                · obtain ⟨x9, ex9⟩ : ∃ y : Int32, y = nI (d + 1) + Int32.ofInt (-1) := ⟨_, rfl⟩
                  have ex9 : x9 = nI d := by rw [ex9]; exact pk_m1 d
                  subst ex9
                  refine lv_iinc (v := nI d) (lv' := [(2, .int (nI (d))), (0, .ref (m)), (1, .int (nI (p0)))]) hx hb dX12_write_81 hl (k := 2) rfl (pk_m1 d) (by decide) rfl (fun ls hl => ?_)
                  refine lv_goto (tgt := 43) hx hb dX12_write_84 (by decide) ?_
                  replace hl : lv_has ls 4 [(0, .ref (m)), (1, .int (nI (p0))), (2, .int (nI (d)))] := lv_sub hl [1, 2, 0] rfl
                  exact ih _ _ _ _ I' L' F' d w0 hW hR hsI hsF hF37 (by omega) hw0 (hwr.mono (by omega)) hl (by omega)
        · exact absurd (by decide) c2
  · have hq := hp
    refine lv_if_eq (tgt := 21) hx hb dX12_write_4 (by decide) (fun c9 => ?_) (fun c9 => ?_)
    · refine lv_iconst (v := (-1)) hx hb dX12_write_21 (by decide) ?_
      exact rl_iret hC hW hr hlk (Nat.le_refl _) (Nat.le_refl _) ⟨_, rfl, rfl, rfl, ρ, κ, by omega, by omega, ⟨_, _, _, lv', hR, hTc, hTp, hTk, hVw, hVe, hVp, hF11, hF14, hF22, hlv⟩⟩ dX12_write_22
    · exact absurd rfl c9
