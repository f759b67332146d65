
/-- the leaves written so far, in the new tape -/
def rf_n8 (ws : List Int64) (g : Nat → Int64) : Prop := ∀ k, k < ws.length → k < 250 → g k = ws.getD k 0
theorem rf_n8.put {ws : List Int64} {g : Nat → Int64} {v : Int64} (h : rf_n8 ws g) : rf_n8 (ws ++ [v]) (vp_updL g ws.length v) := by
  intro k hk h2
  rw [List.length_append] at hk
  replace hk : k < ws.length + 1 := hk
  unfold vp_updL
  by_cases he : k = ws.length
  · subst he
    rw [if_pos rfl, List.getD_eq_getElem?_getD]
    simp
  · rw [if_neg he, h k (by omega) h2, List.getD_eq_getElem?_getD, List.getD_eq_getElem?_getD, List.getElem?_append_left (by omega)]
theorem rf_n8.full {ws : List Int64} {g : Nat → Int64} {v : Int64} (h : rf_n8 ws g) (hf : 250 ≤ ws.length) : rf_n8 (ws ++ [v]) g := by
  intro k hk h2
  rw [h k (by omega) h2, List.getD_eq_getElem?_getD, List.getD_eq_getElem?_getD, List.getElem?_append_left (by omega)]
/-- the records that are being written -/
def rf_wr (κ d : Nat) (G : pG) (SK SQ : Nat → Nat) (a39 a40 : Nat → Int32) : Prop := ∀ i, i < d → SK i < κ ∧ a39 i = nI (SK i) ∧ a40 i = nI (SQ i) ∧ SQ i ≤ G.1 2 (SK i)
theorem rf_wr.mono {κ d d' : Nat} {G : pG} {SK SQ : Nat → Nat} {a39 a40 : Nat → Int32} (h : rf_wr κ d G SK SQ a39 a40) (hd : d' ≤ d) : rf_wr κ d' G SK SQ a39 a40 := fun i hi => h i (by omega)
theorem rf_wr.next {κ d : Nat} {G : pG} {SK SQ : Nat → Nat} {a39 a40 : Nat → Int32} (h : rf_wr κ (d + 1) G SK SQ a39 a40) (hq : SQ d < G.1 2 (SK d)) : rf_wr κ (d + 1) G SK (va_up SQ d (SQ d + 1)) a39 (upd a40 d (nI (SQ d + 1))) := by
  intro i hi
  by_cases he : i = d
  · subst he
    rw [va_up_s, rg_ups]
    obtain ⟨g1, g2, g3, g4⟩ := h i hi
    exact ⟨g1, g2, rfl, hq⟩
  · rw [rg_upl he, va_up_n _ _ he]
    exact h i hi
theorem rf_wr.push {κ d k : Nat} {G : pG} {SK SQ : Nat → Nat} {a39 a40 : Nat → Int32} (h : rf_wr κ d G SK SQ a39 a40) (hk : k < κ) : rf_wr κ (d + 1) G (va_up SK d k) (va_up SQ d 0) (upd a39 d (nI k)) (upd a40 d (nI 0)) := by
  intro i hi
  by_cases he : i = d
  · subst he
    rw [va_up_s, va_up_s, rg_ups, rg_ups]
    exact ⟨hk, rfl, rfl, Nat.zero_le _⟩
  · rw [rg_upl he, rg_upl he, va_up_n _ _ he, va_up_n _ _ he]
    exact h i (by omega)
/-- what is still to be written -/
def rf_rest (T : Nat → Nat → Nat) (G : pG) (SK SQ : Nat → Nat) : Nat → List Int64
  | 0 => []
  | d + 1 => pu_wp T G (pu_wl T G (50 - (d + 1))) (SK d) (SQ d) (G.1 2 (SK d) - SQ d) ++ rf_rest T G SK SQ d
theorem rf_rest.eq {T : Nat → Nat → Nat} {G : pG} {SK SQ SK' SQ' : Nat → Nat} : ∀ {d : Nat}, (∀ i, i < d → SK' i = SK i ∧ SQ' i = SQ i) → rf_rest T G SK' SQ' d = rf_rest T G SK SQ d
  | 0, _ => rfl
  | d + 1, h => by
    rw [rf_rest, rf_rest, (h d (by omega)).1, (h d (by omega)).2, rf_rest.eq (fun i hi => h i (by omega))]
def rf_tot (T : Nat → Nat → Nat) (G : pG) (n0 d : Nat) (SK SQ : Nat → Nat) (ws : List Int64) : Prop := (ws ++ rf_rest T G SK SQ d = pu_wl T G 50 n0 ∧ d ≤ 50) ∨ (250 < ws.length ∧ 250 < (pu_wl T G 50 n0).length)
abbrev wl_nm (T : Nat → Nat → Nat) (G : pG) (k q : Nat) : Int64 := (nI (T 3 (5 * G.1 1 k + q))).toInt64
abbrev wl_st (T : Nat → Nat → Nat) (G : pG) (k q : Nat) : Int64 := (nI (T 4 (5 * G.1 1 k + q))).toInt64
abbrev wl_kd (G : pG) (k : Nat) : Int64 := (nI (2 + G.1 1 k / 3)).toInt64
abbrev wl_ct (G : pG) (k : Nat) : Int64 := (nI (G.1 2 k)).toInt64
theorem rf_tot.start {T : Nat → Nat → Nat} {G : pG} {n0 : Nat} {SK SQ : Nat → Nat} : rf_tot T G n0 1 (va_up SK 0 n0) (va_up SQ 0 0) ([] ++ [wl_kd G n0] ++ [wl_ct G n0]) := by
  refine Or.inl ⟨?_, by decide⟩
  have e : pu_wl T G 50 n0 = wl_kd G n0 :: wl_ct G n0 :: pu_wp T G (pu_wl T G 49) n0 0 (G.1 2 n0) := rfl
  rw [rf_rest, rf_rest, va_up_s, va_up_s, e]
  simp
theorem rf_tot.pop {T : Nat → Nat → Nat} {G : pG} {n0 d : Nat} {SK SQ : Nat → Nat} {ws : List Int64} (h : rf_tot T G n0 (d + 1) SK SQ ws) (he : SQ d = G.1 2 (SK d)) : rf_tot T G n0 d SK SQ ws := by
  rcases h with ⟨h, hd⟩ | h
  · refine Or.inl ⟨?_, by omega⟩
    rw [rf_rest, he, Nat.sub_self] at h
    simpa [pu_wp] using h
  · exact Or.inr h
theorem rf_tot.part {T : Nat → Nat → Nat} {G : pG} {n0 d : Nat} {SK SQ : Nat → Nat} {ws ws' : List Int64} (h : rf_tot T G n0 (d + 1) SK SQ ws) (hq : SQ d < G.1 2 (SK d)) (hw : ∀ R, ws' = ws ++ wl_nm T G (SK d) (SQ d) :: wl_st T G (SK d) (SQ d) :: pu_wv T G R (SK d) (SQ d)) : rf_tot T G n0 (d + 1) SK (va_up SQ d (SQ d + 1)) ws' := by
  rcases h with ⟨h, hd⟩ | h
  · refine Or.inl ⟨?_, hd⟩
    rw [rf_rest, show G.1 2 (SK d) - SQ d = (G.1 2 (SK d) - (SQ d + 1)) + 1 by omega, pu_wp] at h
    rw [rf_rest, va_up_s, rf_rest.eq (SQ := SQ) (SK := SK) (fun i hi => ⟨rfl, va_up_n _ _ (by omega)⟩), hw (pu_wl T G (50 - (d + 1)))]
    simpa using h
  · refine Or.inr ⟨?_, h.2⟩
    rw [hw (fun _ => [])]
    simp
    omega
theorem rf_tot.push {T : Nat → Nat → Nat} {G : pG} {n0 d k : Nat} {SK SQ : Nat → Nat} {ws ws' : List Int64} (h : rf_tot T G n0 (d + 1) SK SQ ws) (hq : SQ d < G.1 2 (SK d)) (hs : ¬ T 4 (5 * G.1 1 (SK d) + SQ d) < 2) (hx : G.2.2.2 1 (5 * SK d + SQ d) = hrec k) (hl : 5 * (d + 1) ≤ ws.length + 3) (hw : ws' = ws ++ [wl_nm T G (SK d) (SQ d), wl_st T G (SK d) (SQ d), 1, wl_kd G k, wl_ct G k]) : rf_tot T G n0 (d + 1 + 1) (va_up SK (d + 1) k) (va_up (va_up SQ d (SQ d + 1)) (d + 1) 0) ws' := by
  have hv : ∀ R, pu_wv T G R (SK d) (SQ d) = 1 :: R k := fun R => by unfold pu_wv; rw [if_neg hs, hx]
  rcases h with ⟨h, hd⟩ | h
  · rw [rf_rest, show G.1 2 (SK d) - SQ d = (G.1 2 (SK d) - (SQ d + 1)) + 1 by omega, pu_wp, hv] at h
    by_cases h50 : d + 1 = 50
    · refine Or.inr ⟨by rw [hw]; simp; omega, ?_⟩
      rw [← h, h50, show pu_wl T G (50 - 50) k = List.replicate 251 0 from rfl]
      simp only [List.length_append, List.length_cons, List.length_replicate]
      omega
    · refine Or.inl ⟨?_, by omega⟩
      rw [rf_rest, rf_rest, va_up_s, va_up_s, va_up_n _ _ (by omega), va_up_n _ _ (by omega), va_up_s, rf_rest.eq (SQ := SQ) (SK := SK) (fun i hi => ⟨va_up_n _ _ (by omega), by rw [va_up_n _ _ (by omega), va_up_n _ _ (by omega)]⟩), hw, ← h, show 50 - (d + 1) = (50 - (d + 1 + 1)) + 1 by omega, pu_wl]
      simp
  · refine Or.inr ⟨?_, h.2⟩
    rw [hw]
    simp
    omega

set_option maxHeartbeats 4000000 in
set_option maxRecDepth 100000 in
theorem cR_put (l : Launch) (D : va_G) (t : Nat → ClassId) (A : Nat → Prop) (f : rl_M) (z : Nat) (m : Nat) (I : Nat → Nat → Int32) (L : Nat → Nat → Int64) (F : Nat → Int32) (hR : RM t f m I L F) (ws : List Int64) (hw0 : ws.length < 1000) (hF37 : F 37 = nI ws.length) (hn8 : rf_n8 ws (L 38)) (v : Int64) : rl_Met l yX12_put (.code yX12_put cX12_put 3 none) (rl_rm 0 0 0) D t A f z [.ref (m), .long (v)] (rl_qv z fun f1 => ∃ L', RM t f1 m I L' (upd F 37 (nI (ws ++ [v]).length)) ∧ (∀ j, j ≠ 38 → L' j = L j) ∧ rf_n8 (ws ++ [v]) (L' 38)) := by
  refine rl_begin (own := RX12) (lv := [(0, .ref (m)), (1, .long (v))]) (by decide +kernel) rfl (Nat.le_of_ble_eq_true rfl) rfl fun p e s m0 args below meth c ls H locs hC hr hlk hnm hW hl hx hb => ?_
  refine lv_aload_n hx hb dX12_put_0 rfl (lv_at hl 0 rfl) ?_
  refine rl_get (v := .int (F 37)) hC hW fl_X12_220 hR.1 rfl dX12_put_1 ?_
  refine rl_topn (y := nI (ws.length)) (hF37) ?_
  refine lv_sipush (v := (nI (250))) hx hb dX12_put_4 (by decide) ?_
  refine lv_icmp_ge (tgt := 20) hx hb dX12_put_7 (by decide) (fun c1 => ?_) (fun c1 => ?_)
  · refine lv_aload_n hx hb dX12_put_20 rfl (lv_at hl 0 rfl) ?_
    refine lv_dup hx hb dX12_put_21 rfl ?_
    refine rl_get (v := .int (F 37)) hC hW fl_X12_220 hR.1 rfl dX12_put_22 ?_
    refine rl_topn (y := nI (ws.length)) (hF37) ?_
    refine lv_iconst (v := (nI (1))) hx hb dX12_put_25 (by decide) ?_
    refine lv_iadd hx hb dX12_put_26 ?_
    refine rl_topn (nI_add _ _) ?_
    refine rl_put (v := .int (nI ((ws.length) + (1)))) hC hW fp_X12_220 hR.1 (Nat.le_of_ble_eq_true rfl) rfl rfl dX12_put_27 (fun H locs hW => ?_)
    have hR := hR.f37 (nI ((ws.length) + (1)))
    exact rl_vret hC hW hr hlk (Nat.le_refl _) (Nat.le_refl _) ⟨rfl, rfl, rfl, _, by rw [List.length_append]; exact hR, fun _ _ => rfl, hn8.full (rg_le c1 (by decide) (by omega))⟩ dX12_put_30
  · have hlt : ws.length < 250 := rg_lt c1 (by decide) (by omega)
    refine lv_aload_n hx hb dX12_put_10 rfl (lv_at hl 0 rfl) ?_
    refine rl_get (v := .ref (m + 27)) hC hW fl_X12_97 hR.1 rfl dX12_put_11 ?_
    refine lv_aload_n hx hb dX12_put_14 rfl (lv_at hl 0 rfl) ?_
    refine rl_get (v := .int (F 37)) hC hW fl_X12_220 hR.1 rfl dX12_put_15 ?_
    refine rl_topn (y := nI (ws.length)) (hF37) ?_
    refine lv_lload_n hx hb dX12_put_18 rfl (lv_at hl 1 rfl) ?_
    refine rl_last_n (g := L 38) hC hW hR.a38 (by omega) (by decide) dX12_put_19 (fun H locs hW => ?_)
    have hR := hR.s38 (vp_updL (L 38) (ws.length) (v))
    refine lv_aload_n hx hb dX12_put_20 rfl (lv_at hl 0 rfl) ?_
    refine lv_dup hx hb dX12_put_21 rfl ?_
    refine rl_get (v := .int (F 37)) hC hW fl_X12_220 hR.1 rfl dX12_put_22 ?_
    refine rl_topn (y := nI (ws.length)) (hF37) ?_
    refine lv_iconst (v := (nI (1))) hx hb dX12_put_25 (by decide) ?_
    refine lv_iadd hx hb dX12_put_26 ?_
    refine rl_topn (nI_add _ _) ?_
    refine rl_put (v := .int (nI ((ws.length) + (1)))) hC hW fp_X12_220 hR.1 (Nat.le_of_ble_eq_true rfl) rfl rfl dX12_put_27 (fun H locs hW => ?_)
    have hR := hR.f37 (nI ((ws.length) + (1)))
    exact rl_vret hC hW hr hlk (Nat.le_refl _) (Nat.le_refl _) ⟨rfl, rfl, rfl, _, by rw [List.length_append]; exact hR, fun j hj => va_up_n _ _ hj, hn8.put⟩ dX12_put_30

set_option maxHeartbeats 4000000 in
set_option maxRecDepth 100000 in
theorem cR_begins (l : Launch) (D : va_G) (t : Nat → ClassId) (A : Nat → Prop) (f : rl_M) (z : Nat) (m : Nat) (I : Nat → Nat → Int32) (L : Nat → Nat → Int64) (F : Nat → Int32) (hR : RM t f m I L F) (T : Nat → Nat → Nat) (ρ κ : Nat) (G : pG) (hρ : ρ ≤ 43100) (hκ : κ ≤ 26200) (hTc : RTc T (I 0) (I 1) (I 2)) (hTp : RTp T (I 3) (I 4) (I 5) (I 6)) (hGW : GW T ρ κ G) (hGr : RGr ρ G (I 12) (I 13)) (hGd : RGd κ G (I 15) (I 16) (L 17) (I 18)) (d k : Nat) (ws : List Int64) (hd : d < 130) (hk : k < κ) (hw0 : ws.length < 900) (hF37 : F 37 = nI ws.length) (hn8 : rf_n8 ws (L 38)) : rl_Met l yX12_begins (.code yX12_begins cX12_begins 3 (some FieldType.int)) (rl_rm 1 0 0) D t A f z [.ref (m), .int (nI (d)), .int (nI (k))] (rl_qi z fun r f1 => r = nI (d + 1) ∧ ∃ L', RM t f1 m (va_up (va_up I 39 (upd (I 39) d (nI k))) 40 (upd (I 40) d (nI 0))) L' (upd (upd F 37 (nI (ws ++ [wl_kd G k]).length)) 37 (nI (ws ++ [wl_kd G k] ++ [wl_ct G k]).length)) ∧ (∀ j, j ≠ 38 → L' j = L j) ∧ rf_n8 (ws ++ [wl_kd G k] ++ [wl_ct G k]) (L' 38)) := by
  refine rl_begin (own := RX12) (lv := [(0, .ref (m)), (1, .int (nI (d))), (2, .int (nI (k)))]) (by decide +kernel) rfl (Nat.le_of_ble_eq_true rfl) rfl fun p e s m0 args below meth c ls H locs hC hr hlk hnm hW hl hx hb => ?_
  obtain ⟨h15, h16, -⟩ := hGd k hk
  obtain ⟨hsh, hpn, -⟩ := hGW.2.1 k hk
  have h5 := (hTp.1 _ hsh).2
  refine lv_aload_n hx hb dX12_begins_0 rfl (lv_at hl 0 rfl) ?_
  refine rl_get (v := .ref (m + 28)) hC hW fl_X12_100 hR.1 rfl dX12_begins_1 ?_
  refine lv_iload_n hx hb dX12_begins_4 rfl (lv_at hl 1 rfl) ?_
  refine lv_iload_n hx hb dX12_begins_5 rfl (lv_at hl 2 rfl) ?_
  refine rl_iast_n (g := I 39) hC hW hR.a39 (by omega) (by decide) dX12_begins_6 (fun H locs hW => ?_)
  have hR := hR.s39 (upd (I 39) (d) ((nI (k))))
  refine lv_aload_n hx hb dX12_begins_7 rfl (lv_at hl 0 rfl) ?_
  refine rl_get (v := .ref (m + 29)) hC hW fl_X12_103 hR.1 rfl dX12_begins_8 ?_
  refine lv_iload_n hx hb dX12_begins_11 rfl (lv_at hl 1 rfl) ?_
  refine lv_iconst (v := (nI (0))) hx hb dX12_begins_12 (by decide) ?_
  refine rl_iast_n (g := I 40) hC hW hR.a40 (by omega) (by decide) dX12_begins_13 (fun H locs hW => ?_)
  have hR := hR.s40 (upd (I 40) (d) ((nI (0))))
  refine lv_aload_n hx hb dX12_begins_14 rfl (lv_at hl 0 rfl) ?_
  refine lv_iconst (v := (nI (2))) hx hb dX12_begins_15 (by decide) ?_
  refine lv_aload_n hx hb dX12_begins_16 rfl (lv_at hl 0 rfl) ?_
  refine rl_get (v := .ref (m + 14)) hC hW fl_X12_52 hR.1 rfl dX12_begins_17 ?_
  refine lv_iload_n hx hb dX12_begins_20 rfl (lv_at hl 2 rfl) ?_
  refine rl_iald_n (g := I 15) hC hW hR.a15 (by omega) (by decide) dX12_begins_21 ?_
  refine rl_topn (h15) ?_
  refine lv_iconst (v := (nI (3))) hx hb dX12_begins_22 (by decide) ?_
  refine lv_idiv hx hb dX12_begins_23 (by decide) ?_
  refine rl_topn (pk_div (by omega) (by decide) (by decide)) ?_
  refine lv_iadd hx hb dX12_begins_24 ?_
  refine rl_topn (nI_add _ _) ?_
  refine lv_i2l hx hb dX12_begins_25 rfl ?_
  refine rl_callvQ (rl_runV (b := m) (As := [.long ((nI ((2) + ((G.1 1 k) / 3))).toInt64)]) (rest := []) hC hW (cR_put l D t A _ z m _ _ _ hR (ws) (by first | omega | (simp only [List.length_append, List.length_cons, List.length_nil, List.length_map, List.length_range]; done) | (simp only [List.length_append, List.length_cons, List.length_nil, List.length_map, List.length_range]; omega)) hF37 hn8 _) cs_X12_223 im_X12_put sl_X12_put hR.1 rfl ⟨(Nat.le_of_ble_eq_true rfl), (Nat.le_of_ble_eq_true rfl)⟩ rfl hl.1 rfl (Nat.le_of_ble_eq_true rfl) dX12_begins_26 ⟨(Nat.le_of_ble_eq_true rfl), (Nat.le_of_ble_eq_true rfl)⟩) hW (fun f1 H locs hp hW => ?_)
  obtain ⟨L1, hR, gl1, hn8⟩ := hp
  refine lv_aload_n hx hb dX12_begins_29 rfl (lv_at hl 0 rfl) ?_
  refine lv_aload_n hx hb dX12_begins_30 rfl (lv_at hl 0 rfl) ?_
  refine rl_get (v := .ref (m + 15)) hC hW fl_X12_55 hR.1 rfl dX12_begins_31 ?_
  refine lv_iload_n hx hb dX12_begins_34 rfl (lv_at hl 2 rfl) ?_
  refine rl_iald_n (g := I 16) hC hW hR.a16 (by omega) (by decide) dX12_begins_35 ?_
  refine rl_topn (h16) ?_
  refine lv_i2l hx hb dX12_begins_36 rfl ?_
  refine rl_callvQ (rl_runV (b := m) (As := [.long ((nI (G.1 2 k)).toInt64)]) (rest := []) hC hW (cR_put l D t A _ z m _ _ _ hR (ws ++ [(nI ((2) + ((G.1 1 k) / 3))).toInt64]) (by first | omega | (simp only [List.length_append, List.length_cons, List.length_nil, List.length_map, List.length_range]; done) | (simp only [List.length_append, List.length_cons, List.length_nil, List.length_map, List.length_range]; omega)) rfl hn8 _) cs_X12_223 im_X12_put sl_X12_put hR.1 rfl ⟨(Nat.le_of_ble_eq_true rfl), (Nat.le_of_ble_eq_true rfl)⟩ rfl hl.1 rfl (Nat.le_of_ble_eq_true rfl) dX12_begins_37 ⟨(Nat.le_of_ble_eq_true rfl), (Nat.le_of_ble_eq_true rfl)⟩) hW (fun f1 H locs hp hW => ?_)
  obtain ⟨L2, hR, gl2, hn8⟩ := hp
  refine lv_iload_n hx hb dX12_begins_40 rfl (lv_at hl 1 rfl) ?_
  refine lv_iconst (v := (nI (1))) hx hb dX12_begins_41 (by decide) ?_
  refine lv_iadd hx hb dX12_begins_42 ?_
  refine rl_topn (nI_add _ _) ?_
  exact rl_iret hC hW hr hlk (Nat.le_refl _) (Nat.le_refl _) ⟨_, rfl, rfl, rfl, rfl, _, hR, fun j hj => by rw [gl2 j hj, gl1 j hj], hn8⟩ dX12_begins_43

set_option maxHeartbeats 4000000 in
set_option maxRecDepth 100000 in
theorem cR_writePart (l : Launch) (D : va_G) (t : Nat → ClassId) (A : Nat → Prop) (f : rl_M) (z : Nat) (m : Nat) (I : Nat → Nat → Int32) (L : Nat → Nat → Int64) (F : Nat → Int32) (hR : RM t f m I L F) (T : Nat → Nat → Nat) (ρ κ : Nat) (G : pG) (hρ : ρ ≤ 43100) (hκ : κ ≤ 26200) (hTc : RTc T (I 0) (I 1) (I 2)) (hTp : RTp T (I 3) (I 4) (I 5) (I 6)) (hGW : GW T ρ κ G) (hGr : RGr ρ G (I 12) (I 13)) (hGd : RGd κ G (I 15) (I 16) (L 17) (I 18)) (d k q : Nat) (ws : List Int64) (hd : d + 1 < 130) (hk : k < κ) (e39 : I 39 d = nI k) (e40 : I 40 d = nI q) (hq : q < G.1 2 k) (hw0 : ws.length < 800) (hF37 : F 37 = nI ws.length) (hn8 : rf_n8 ws (L 38)) : rl_Met l yX12_writePart (.code yX12_writePart cX12_writePart 7 (some FieldType.int)) (rl_rm 2 0 0) D t A f z [.ref (m), .int (nI (d + 1))] (rl_qi z fun r f1 => ∃ (I' : Nat → Nat → Int32) (L' : Nat → Nat → Int64) (F' : Nat → Int32) (ws' : List Int64), RM t f1 m I' L' F' ∧ (∀ j, j ≠ 39 → j ≠ 40 → I' j = I j) ∧ (∀ j, j ≠ 38 → L' j = L j) ∧ (∀ j, j ≠ 37 → F' j = F j) ∧ F' 37 = nI ws'.length ∧ rf_n8 ws' (L' 38) ∧ ws.length + 3 ≤ ws'.length ∧ ws'.length ≤ ws.length + 12 ∧ ((r = nI (d + 1) ∧ I' 39 = I 39 ∧ I' 40 = upd (I 40) d (nI (q + 1)) ∧ ∀ R, ws' = ws ++ wl_nm T G k q :: wl_st T G k q :: pu_wv T G R k q) ∨ ∃ n0, n0 < κ ∧ G.2.2.2 1 (5 * k + q) = hrec n0 ∧ ¬ T 4 (5 * G.1 1 k + q) < 2 ∧ r = nI (d + 1 + 1) ∧ I' 39 = upd (I 39) (d + 1) (nI n0) ∧ I' 40 = upd (upd (I 40) d (nI (q + 1))) (d + 1) (nI 0) ∧ ws' = ws ++ [wl_nm T G k q, wl_st T G k q, 1, wl_kd G n0, wl_ct G n0] ∧ ws.length + 5 ≤ ws'.length)) := by
  refine rl_begin (own := RX12) (lv := [(0, .ref (m)), (1, .int (nI (d + 1)))]) (by decide +kernel) rfl (Nat.le_of_ble_eq_true rfl) rfl fun p e s m0 args below meth c ls H locs hC hr hlk hnm hW hl hx hb => ?_
  obtain ⟨h15, h16, h17⟩ := hGd k hk
  obtain ⟨hsh, hpn, hth⟩ := hGW.2.1 k hk
  have h5 := (hTp.1 _ hsh).2
  have hnm := hTp.2 _ q hsh (by omega)
  have hs5 := hnm.2.2.2.1
  obtain ⟨hX, hS, -⟩ := hth q hq
  obtain ⟨e17, e18⟩ := h17 q hq
  have hcase : T 4 (5 * G.1 1 k + q) = 0 ∨ T 4 (5 * G.1 1 k + q) = 1 ∨ T 4 (5 * G.1 1 k + q) = 2 ∨ T 4 (5 * G.1 1 k + q) = 3 ∨ T 4 (5 * G.1 1 k + q) = 4 := by omega
  rcases hcase with hs | hs | hs | hs | hs
  · refine lv_aload_n hx hb dX12_writePart_0 rfl (lv_at hl 0 rfl) ?_
    refine rl_get (v := .ref (m + 28)) hC hW fl_X12_100 hR.1 rfl dX12_writePart_1 ?_
    refine lv_iload_n hx hb dX12_writePart_4 rfl (lv_at hl 1 rfl) ?_
    refine lv_iconst (v := (nI (1))) hx hb dX12_writePart_5 (by decide) ?_
    refine lv_isub hx hb dX12_writePart_6 ?_
    refine rl_topn (rg_sub (c := d) (by omega)) ?_
    refine rl_iald_n (g := I 39) hC hW hR.a39 (by omega) (by decide) dX12_writePart_7 ?_
    refine rl_topn (e39) ?_
    refine lv_istore_n (lv' := [(2, .int (nI (k))), (0, .ref (m)), (1, .int (nI (d + 1)))]) hx hb dX12_writePart_8 rfl hl (by decide) rfl (fun ls hl => ?_)
    refine lv_aload_n hx hb dX12_writePart_9 rfl (lv_at hl 1 rfl) ?_
    refine rl_get (v := .ref (m + 29)) hC hW fl_X12_103 hR.1 rfl dX12_writePart_10 ?_
    refine lv_iload_n hx hb dX12_writePart_13 rfl (lv_at hl 2 rfl) ?_
    refine lv_iconst (v := (nI (1))) hx hb dX12_writePart_14 (by decide) ?_
    refine lv_isub hx hb dX12_writePart_15 ?_
    refine rl_topn (rg_sub (c := d) (by omega)) ?_
    refine rl_iald_n (g := I 40) hC hW hR.a40 (by omega) (by decide) dX12_writePart_16 ?_
    refine rl_topn (e40) ?_
    refine lv_istore_n (lv' := [(3, .int (nI (q))), (2, .int (nI (k))), (0, .ref (m)), (1, .int (nI (d + 1)))]) hx hb dX12_writePart_17 rfl hl (by decide) rfl (fun ls hl => ?_)
    refine lv_aload_n hx hb dX12_writePart_18 rfl (lv_at hl 2 rfl) ?_
    refine rl_get (v := .ref (m + 17)) hC hW fl_X12_63 hR.1 rfl dX12_writePart_19 ?_
    refine lv_iconst (v := (nI (5))) hx hb dX12_writePart_22 (by decide) ?_
    refine lv_iload_n hx hb dX12_writePart_23 rfl (lv_at hl 1 rfl) ?_
    refine lv_imul hx hb dX12_writePart_24 ?_
    refine rl_topn (pk_mul _ _) ?_
    refine lv_iload_n hx hb dX12_writePart_25 rfl (lv_at hl 0 rfl) ?_
    refine lv_iadd hx hb dX12_writePart_26 ?_
    refine rl_topn (nI_add _ _) ?_
    refine rl_iald_n (g := I 18) hC hW hR.a18 (by omega) (by decide) dX12_writePart_27 ?_
    refine lv_istore (lv' := [(4, .int (I 18 (((5) * (k)) + (q)))), (3, .int (nI (q))), (2, .int (nI (k))), (0, .ref (m)), (1, .int (nI (d + 1)))]) hx hb dX12_writePart_28 hl (by decide) rfl (fun ls hl => ?_)
    refine lv_aload_n hx hb dX12_writePart_30 rfl (lv_at hl 3 rfl) ?_
    refine rl_get (v := .ref (m + 6)) hC hW fl_X12_26 hR.1 rfl dX12_writePart_31 ?_
    refine lv_iconst (v := (nI (5))) hx hb dX12_writePart_34 (by decide) ?_
    refine lv_aload_n hx hb dX12_writePart_35 rfl (lv_at hl 3 rfl) ?_
    refine rl_get (v := .ref (m + 14)) hC hW fl_X12_52 hR.1 rfl dX12_writePart_36 ?_
    refine lv_iload_n hx hb dX12_writePart_39 rfl (lv_at hl 2 rfl) ?_
    refine rl_iald_n (g := I 15) hC hW hR.a15 (by omega) (by decide) dX12_writePart_40 ?_
    refine rl_topn (h15) ?_
    refine lv_imul hx hb dX12_writePart_41 ?_
    refine rl_topn (pk_mul _ _) ?_
    refine lv_iload_n hx hb dX12_writePart_42 rfl (lv_at hl 1 rfl) ?_
    refine lv_iadd hx hb dX12_writePart_43 ?_
    refine rl_topn (nI_add _ _) ?_
    refine rl_iald_n (g := I 5) hC hW hR.a5 (by omega) (by decide) dX12_writePart_44 ?_
    refine rl_topn (hnm.2.2.1.trans (by rw [hs])) ?_
    refine lv_istore (lv' := [(5, .int (nI (0))), (4, .int (I 18 (((5) * (k)) + (q)))), (3, .int (nI (q))), (2, .int (nI (k))), (0, .ref (m)), (1, .int (nI (d + 1)))]) hx hb dX12_writePart_45 hl (by decide) rfl (fun ls hl => ?_)
    refine lv_aload_n hx hb dX12_writePart_47 rfl (lv_at hl 4 rfl) ?_
    refine rl_get (v := .ref (m + 29)) hC hW fl_X12_103 hR.1 rfl dX12_writePart_48 ?_
    refine lv_iload_n hx hb dX12_writePart_51 rfl (lv_at hl 5 rfl) ?_
    refine lv_iconst (v := (nI (1))) hx hb dX12_writePart_52 (by decide) ?_
    refine lv_isub hx hb dX12_writePart_53 ?_
    refine rl_topn (rg_sub (c := d) (by omega)) ?_
    refine lv_dup2_11 hx hb dX12_writePart_54 rfl rfl ?_
    refine rl_iald_n (g := I 40) hC hW hR.a40 (by omega) (by decide) dX12_writePart_55 ?_
    refine rl_topn (e40) ?_
    refine lv_iconst (v := (nI (1))) hx hb dX12_writePart_56 (by decide) ?_
    refine lv_iadd hx hb dX12_writePart_57 ?_
    refine rl_topn (nI_add _ _) ?_
    refine rl_iast_n (g := I 40) hC hW hR.a40 (by omega) (by decide) dX12_writePart_58 (fun H locs hW => ?_)
    have hR := hR.s40 (upd (I 40) (d) ((nI ((q) + (1)))))
    refine lv_aload_n hx hb dX12_writePart_59 rfl (lv_at hl 4 rfl) ?_
    refine lv_aload_n hx hb dX12_writePart_60 rfl (lv_at hl 4 rfl) ?_
    refine rl_get (v := .ref (m + 5)) hC hW fl_X12_23 hR.1 rfl dX12_writePart_61 ?_
    refine lv_iconst (v := (nI (5))) hx hb dX12_writePart_64 (by decide) ?_
    refine lv_aload_n hx hb dX12_writePart_65 rfl (lv_at hl 4 rfl) ?_
    refine rl_get (v := .ref (m + 14)) hC hW fl_X12_52 hR.1 rfl dX12_writePart_66 ?_
    refine lv_iload_n hx hb dX12_writePart_69 rfl (lv_at hl 3 rfl) ?_
    refine rl_iald_n (g := I 15) hC hW hR.a15 (by omega) (by decide) dX12_writePart_70 ?_
    refine rl_topn (h15) ?_
    refine lv_imul hx hb dX12_writePart_71 ?_
    refine rl_topn (pk_mul _ _) ?_
    refine lv_iload_n hx hb dX12_writePart_72 rfl (lv_at hl 2 rfl) ?_
    refine lv_iadd hx hb dX12_writePart_73 ?_
    refine rl_topn (nI_add _ _) ?_
    refine rl_iald_n (g := I 4) hC hW hR.a4 (by omega) (by decide) dX12_writePart_74 ?_
    refine rl_topn (hnm.1) ?_
    refine lv_i2l hx hb dX12_writePart_75 rfl ?_
    refine rl_callvQ (rl_runV (b := m) (As := [.long ((nI (T 3 (5 * G.1 1 k + q))).toInt64)]) (rest := []) hC hW (cR_put l D t A _ z m _ _ _ hR (ws) (by first | omega | (simp only [List.length_append, List.length_cons, List.length_nil, List.length_map, List.length_range]; done) | (simp only [List.length_append, List.length_cons, List.length_nil, List.length_map, List.length_range]; omega)) hF37 hn8 _) cs_X12_223 im_X12_put sl_X12_put hR.1 rfl ⟨(Nat.le_of_ble_eq_true rfl), (Nat.le_of_ble_eq_true rfl)⟩ rfl hl.1 rfl (Nat.le_of_ble_eq_true rfl) dX12_writePart_76 ⟨(Nat.le_of_ble_eq_true rfl), (Nat.le_of_ble_eq_true rfl)⟩) hW (fun f1 H locs hp hW => ?_)
    obtain ⟨L1, hR, gl1, hn8⟩ := hp
    refine lv_aload_n hx hb dX12_writePart_79 rfl (lv_at hl 4 rfl) ?_
    refine lv_iload hx hb dX12_writePart_80 (lv_at hl 0 rfl) ?_
    refine lv_i2l hx hb dX12_writePart_82 rfl ?_
    refine rl_callvQ (rl_runV (b := m) (As := [.long ((nI (0)).toInt64)]) (rest := []) hC hW (cR_put l D t A _ z m _ _ _ hR (ws ++ [(nI (T 3 (5 * G.1 1 k + q))).toInt64]) (by first | omega | (simp only [List.length_append, List.length_cons, List.length_nil, List.length_map, List.length_range]; done) | (simp only [List.length_append, List.length_cons, List.length_nil, List.length_map, List.length_range]; omega)) rfl hn8 _) cs_X12_223 im_X12_put sl_X12_put hR.1 rfl ⟨(Nat.le_of_ble_eq_true rfl), (Nat.le_of_ble_eq_true rfl)⟩ rfl hl.1 rfl (Nat.le_of_ble_eq_true rfl) dX12_writePart_83 ⟨(Nat.le_of_ble_eq_true rfl), (Nat.le_of_ble_eq_true rfl)⟩) hW (fun f1 H locs hp hW => ?_)
    obtain ⟨L2, hR, gl2, hn8⟩ := hp
    refine lv_iload hx hb dX12_writePart_86 (lv_at hl 0 rfl) ?_
    refine lv_iconst (v := (nI (2))) hx hb dX12_writePart_88 (by decide) ?_
    refine lv_icmp_ge (tgt := 109) hx hb dX12_writePart_89 (by decide) (fun c_1 => ?_) (fun c_1 => ?_)
    · first | exact absurd c_1 (by decide) | exact absurd (by decide) c_1
    · refine lv_aload_n hx hb dX12_writePart_92 rfl (lv_at hl 4 rfl) ?_
      refine lv_aload_n hx hb dX12_writePart_93 rfl (lv_at hl 4 rfl) ?_
      refine rl_get (v := .ref (m + 16)) hC hW fl_X12_59 hR.1 rfl dX12_writePart_94 ?_
      refine lv_iconst (v := (nI (5))) hx hb dX12_writePart_97 (by decide) ?_
      refine lv_iload_n hx hb dX12_writePart_98 rfl (lv_at hl 3 rfl) ?_
      refine lv_imul hx hb dX12_writePart_99 ?_
      refine rl_topn (pk_mul _ _) ?_
      refine lv_iload_n hx hb dX12_writePart_100 rfl (lv_at hl 2 rfl) ?_
      refine lv_iadd hx hb dX12_writePart_101 ?_
      refine rl_topn (nI_add _ _) ?_
      refine rl_lald_n (g := L2 17) hC hW hR.a17 (by omega) (by decide) dX12_writePart_102 ?_
      refine rl_callvQ (rl_runV (b := m) (As := [.long (L2 17 (((5) * (k)) + (q)))]) (rest := []) hC hW (cR_put l D t A _ z m _ _ _ hR (ws ++ [(nI (T 3 (5 * G.1 1 k + q))).toInt64] ++ [(nI (0)).toInt64]) (by first | omega | (simp only [List.length_append, List.length_cons, List.length_nil, List.length_map, List.length_range]; done) | (simp only [List.length_append, List.length_cons, List.length_nil, List.length_map, List.length_range]; omega)) rfl hn8 _) cs_X12_223 im_X12_put sl_X12_put hR.1 rfl ⟨(Nat.le_of_ble_eq_true rfl), (Nat.le_of_ble_eq_true rfl)⟩ rfl hl.1 rfl (Nat.le_of_ble_eq_true rfl) dX12_writePart_103 ⟨(Nat.le_of_ble_eq_true rfl), (Nat.le_of_ble_eq_true rfl)⟩) hW (fun f1 H locs hp hW => ?_)
      obtain ⟨L3, hR, gl3, hn8⟩ := hp
      refine lv_goto (tgt := 265) hx hb dX12_writePart_106 (by decide) ?_
      refine lv_iload_n hx hb dX12_writePart_265 rfl (lv_at hl 5 rfl) ?_
      exact rl_iret hC hW hr hlk (Nat.le_refl _) (Nat.le_refl _) ⟨_, rfl, rfl, rfl, _, _, _, _, hR, fun j h1 h2 => by rw [va_up_n _ _ h2], fun j hj => by rw [gl3 j hj, gl2 j hj, gl1 j hj], fun j h1 => by repeat rw [rg_upl h1], rfl, hn8, by first | omega | (simp only [List.length_append, List.length_cons, List.length_nil, List.length_map, List.length_range]; done) | (simp only [List.length_append, List.length_cons, List.length_nil, List.length_map, List.length_range]; omega), by first | omega | (simp only [List.length_append, List.length_cons, List.length_nil, List.length_map, List.length_range]; done) | (simp only [List.length_append, List.length_cons, List.length_nil, List.length_map, List.length_range]; omega), Or.inl ⟨rfl, rfl, rfl, fun R => by rw [show pu_wv T G R k q = _ from by unfold pu_wv; rw [if_pos (by omega), ← e17, ← gl1 17 (by decide), ← gl2 17 (by decide)]]; simp [wl_nm, wl_st, hs]⟩⟩ dX12_writePart_266
  · refine lv_aload_n hx hb dX12_writePart_0 rfl (lv_at hl 0 rfl) ?_
    refine rl_get (v := .ref (m + 28)) hC hW fl_X12_100 hR.1 rfl dX12_writePart_1 ?_
    refine lv_iload_n hx hb dX12_writePart_4 rfl (lv_at hl 1 rfl) ?_
    refine lv_iconst (v := (nI (1))) hx hb dX12_writePart_5 (by decide) ?_
    refine lv_isub hx hb dX12_writePart_6 ?_
    refine rl_topn (rg_sub (c := d) (by omega)) ?_
    refine rl_iald_n (g := I 39) hC hW hR.a39 (by omega) (by decide) dX12_writePart_7 ?_
    refine rl_topn (e39) ?_
    refine lv_istore_n (lv' := [(2, .int (nI (k))), (0, .ref (m)), (1, .int (nI (d + 1)))]) hx hb dX12_writePart_8 rfl hl (by decide) rfl (fun ls hl => ?_)
    refine lv_aload_n hx hb dX12_writePart_9 rfl (lv_at hl 1 rfl) ?_
    refine rl_get (v := .ref (m + 29)) hC hW fl_X12_103 hR.1 rfl dX12_writePart_10 ?_
    refine lv_iload_n hx hb dX12_writePart_13 rfl (lv_at hl 2 rfl) ?_
    refine lv_iconst (v := (nI (1))) hx hb dX12_writePart_14 (by decide) ?_
    refine lv_isub hx hb dX12_writePart_15 ?_
    refine rl_topn (rg_sub (c := d) (by omega)) ?_
    refine rl_iald_n (g := I 40) hC hW hR.a40 (by omega) (by decide) dX12_writePart_16 ?_
    refine rl_topn (e40) ?_
    refine lv_istore_n (lv' := [(3, .int (nI (q))), (2, .int (nI (k))), (0, .ref (m)), (1, .int (nI (d + 1)))]) hx hb dX12_writePart_17 rfl hl (by decide) rfl (fun ls hl => ?_)
    refine lv_aload_n hx hb dX12_writePart_18 rfl (lv_at hl 2 rfl) ?_
    refine rl_get (v := .ref (m + 17)) hC hW fl_X12_63 hR.1 rfl dX12_writePart_19 ?_
    refine lv_iconst (v := (nI (5))) hx hb dX12_writePart_22 (by decide) ?_
    refine lv_iload_n hx hb dX12_writePart_23 rfl (lv_at hl 1 rfl) ?_
    refine lv_imul hx hb dX12_writePart_24 ?_
    refine rl_topn (pk_mul _ _) ?_
    refine lv_iload_n hx hb dX12_writePart_25 rfl (lv_at hl 0 rfl) ?_
    refine lv_iadd hx hb dX12_writePart_26 ?_
    refine rl_topn (nI_add _ _) ?_
    refine rl_iald_n (g := I 18) hC hW hR.a18 (by omega) (by decide) dX12_writePart_27 ?_
    refine lv_istore (lv' := [(4, .int (I 18 (((5) * (k)) + (q)))), (3, .int (nI (q))), (2, .int (nI (k))), (0, .ref (m)), (1, .int (nI (d + 1)))]) hx hb dX12_writePart_28 hl (by decide) rfl (fun ls hl => ?_)
    refine lv_aload_n hx hb dX12_writePart_30 rfl (lv_at hl 3 rfl) ?_
    refine rl_get (v := .ref (m + 6)) hC hW fl_X12_26 hR.1 rfl dX12_writePart_31 ?_
    refine lv_iconst (v := (nI (5))) hx hb dX12_writePart_34 (by decide) ?_
    refine lv_aload_n hx hb dX12_writePart_35 rfl (lv_at hl 3 rfl) ?_
    refine rl_get (v := .ref (m + 14)) hC hW fl_X12_52 hR.1 rfl dX12_writePart_36 ?_
    refine lv_iload_n hx hb dX12_writePart_39 rfl (lv_at hl 2 rfl) ?_
    refine rl_iald_n (g := I 15) hC hW hR.a15 (by omega) (by decide) dX12_writePart_40 ?_
    refine rl_topn (h15) ?_
    refine lv_imul hx hb dX12_writePart_41 ?_
    refine rl_topn (pk_mul _ _) ?_
    refine lv_iload_n hx hb dX12_writePart_42 rfl (lv_at hl 1 rfl) ?_
    refine lv_iadd hx hb dX12_writePart_43 ?_
    refine rl_topn (nI_add _ _) ?_
    refine rl_iald_n (g := I 5) hC hW hR.a5 (by omega) (by decide) dX12_writePart_44 ?_
    refine rl_topn (hnm.2.2.1.trans (by rw [hs])) ?_
    refine lv_istore (lv' := [(5, .int (nI (1))), (4, .int (I 18 (((5) * (k)) + (q)))), (3, .int (nI (q))), (2, .int (nI (k))), (0, .ref (m)), (1, .int (nI (d + 1)))]) hx hb dX12_writePart_45 hl (by decide) rfl (fun ls hl => ?_)
    refine lv_aload_n hx hb dX12_writePart_47 rfl (lv_at hl 4 rfl) ?_
    refine rl_get (v := .ref (m + 29)) hC hW fl_X12_103 hR.1 rfl dX12_writePart_48 ?_
    refine lv_iload_n hx hb dX12_writePart_51 rfl (lv_at hl 5 rfl) ?_
    refine lv_iconst (v := (nI (1))) hx hb dX12_writePart_52 (by decide) ?_
    refine lv_isub hx hb dX12_writePart_53 ?_
    refine rl_topn (rg_sub (c := d) (by omega)) ?_
    refine lv_dup2_11 hx hb dX12_writePart_54 rfl rfl ?_
    refine rl_iald_n (g := I 40) hC hW hR.a40 (by omega) (by decide) dX12_writePart_55 ?_
    refine rl_topn (e40) ?_
    refine lv_iconst (v := (nI (1))) hx hb dX12_writePart_56 (by decide) ?_
    refine lv_iadd hx hb dX12_writePart_57 ?_
    refine rl_topn (nI_add _ _) ?_
    refine rl_iast_n (g := I 40) hC hW hR.a40 (by omega) (by decide) dX12_writePart_58 (fun H locs hW => ?_)
    have hR := hR.s40 (upd (I 40) (d) ((nI ((q) + (1)))))
    refine lv_aload_n hx hb dX12_writePart_59 rfl (lv_at hl 4 rfl) ?_
    refine lv_aload_n hx hb dX12_writePart_60 rfl (lv_at hl 4 rfl) ?_
    refine rl_get (v := .ref (m + 5)) hC hW fl_X12_23 hR.1 rfl dX12_writePart_61 ?_
    refine lv_iconst (v := (nI (5))) hx hb dX12_writePart_64 (by decide) ?_
    refine lv_aload_n hx hb dX12_writePart_65 rfl (lv_at hl 4 rfl) ?_
    refine rl_get (v := .ref (m + 14)) hC hW fl_X12_52 hR.1 rfl dX12_writePart_66 ?_
    refine lv_iload_n hx hb dX12_writePart_69 rfl (lv_at hl 3 rfl) ?_
    refine rl_iald_n (g := I 15) hC hW hR.a15 (by omega) (by decide) dX12_writePart_70 ?_
    refine rl_topn (h15) ?_
    refine lv_imul hx hb dX12_writePart_71 ?_
    refine rl_topn (pk_mul _ _) ?_
    refine lv_iload_n hx hb dX12_writePart_72 rfl (lv_at hl 2 rfl) ?_
    refine lv_iadd hx hb dX12_writePart_73 ?_
    refine rl_topn (nI_add _ _) ?_
    refine rl_iald_n (g := I 4) hC hW hR.a4 (by omega) (by decide) dX12_writePart_74 ?_
    refine rl_topn (hnm.1) ?_
    refine lv_i2l hx hb dX12_writePart_75 rfl ?_
    refine rl_callvQ (rl_runV (b := m) (As := [.long ((nI (T 3 (5 * G.1 1 k + q))).toInt64)]) (rest := []) hC hW (cR_put l D t A _ z m _ _ _ hR (ws) (by first | omega | (simp only [List.length_append, List.length_cons, List.length_nil, List.length_map, List.length_range]; done) | (simp only [List.length_append, List.length_cons, List.length_nil, List.length_map, List.length_range]; omega)) hF37 hn8 _) cs_X12_223 im_X12_put sl_X12_put hR.1 rfl ⟨(Nat.le_of_ble_eq_true rfl), (Nat.le_of_ble_eq_true rfl)⟩ rfl hl.1 rfl (Nat.le_of_ble_eq_true rfl) dX12_writePart_76 ⟨(Nat.le_of_ble_eq_true rfl), (Nat.le_of_ble_eq_true rfl)⟩) hW (fun f1 H locs hp hW => ?_)
    obtain ⟨L1, hR, gl1, hn8⟩ := hp
    refine lv_aload_n hx hb dX12_writePart_79 rfl (lv_at hl 4 rfl) ?_
    refine lv_iload hx hb dX12_writePart_80 (lv_at hl 0 rfl) ?_
    refine lv_i2l hx hb dX12_writePart_82 rfl ?_
    refine rl_callvQ (rl_runV (b := m) (As := [.long ((nI (1)).toInt64)]) (rest := []) hC hW (cR_put l D t A _ z m _ _ _ hR (ws ++ [(nI (T 3 (5 * G.1 1 k + q))).toInt64]) (by first | omega | (simp only [List.length_append, List.length_cons, List.length_nil, List.length_map, List.length_range]; done) | (simp only [List.length_append, List.length_cons, List.length_nil, List.length_map, List.length_range]; omega)) rfl hn8 _) cs_X12_223 im_X12_put sl_X12_put hR.1 rfl ⟨(Nat.le_of_ble_eq_true rfl), (Nat.le_of_ble_eq_true rfl)⟩ rfl hl.1 rfl (Nat.le_of_ble_eq_true rfl) dX12_writePart_83 ⟨(Nat.le_of_ble_eq_true rfl), (Nat.le_of_ble_eq_true rfl)⟩) hW (fun f1 H locs hp hW => ?_)
    obtain ⟨L2, hR, gl2, hn8⟩ := hp
    refine lv_iload hx hb dX12_writePart_86 (lv_at hl 0 rfl) ?_
    refine lv_iconst (v := (nI (2))) hx hb dX12_writePart_88 (by decide) ?_
    refine lv_icmp_ge (tgt := 109) hx hb dX12_writePart_89 (by decide) (fun c_2 => ?_) (fun c_2 => ?_)
    · first | exact absurd c_2 (by decide) | exact absurd (by decide) c_2
    · refine lv_aload_n hx hb dX12_writePart_92 rfl (lv_at hl 4 rfl) ?_
      refine lv_aload_n hx hb dX12_writePart_93 rfl (lv_at hl 4 rfl) ?_
      refine rl_get (v := .ref (m + 16)) hC hW fl_X12_59 hR.1 rfl dX12_writePart_94 ?_
      refine lv_iconst (v := (nI (5))) hx hb dX12_writePart_97 (by decide) ?_
      refine lv_iload_n hx hb dX12_writePart_98 rfl (lv_at hl 3 rfl) ?_
      refine lv_imul hx hb dX12_writePart_99 ?_
      refine rl_topn (pk_mul _ _) ?_
      refine lv_iload_n hx hb dX12_writePart_100 rfl (lv_at hl 2 rfl) ?_
      refine lv_iadd hx hb dX12_writePart_101 ?_
      refine rl_topn (nI_add _ _) ?_
      refine rl_lald_n (g := L2 17) hC hW hR.a17 (by omega) (by decide) dX12_writePart_102 ?_
      refine rl_callvQ (rl_runV (b := m) (As := [.long (L2 17 (((5) * (k)) + (q)))]) (rest := []) hC hW (cR_put l D t A _ z m _ _ _ hR (ws ++ [(nI (T 3 (5 * G.1 1 k + q))).toInt64] ++ [(nI (1)).toInt64]) (by first | omega | (simp only [List.length_append, List.length_cons, List.length_nil, List.length_map, List.length_range]; done) | (simp only [List.length_append, List.length_cons, List.length_nil, List.length_map, List.length_range]; omega)) rfl hn8 _) cs_X12_223 im_X12_put sl_X12_put hR.1 rfl ⟨(Nat.le_of_ble_eq_true rfl), (Nat.le_of_ble_eq_true rfl)⟩ rfl hl.1 rfl (Nat.le_of_ble_eq_true rfl) dX12_writePart_103 ⟨(Nat.le_of_ble_eq_true rfl), (Nat.le_of_ble_eq_true rfl)⟩) hW (fun f1 H locs hp hW => ?_)
      obtain ⟨L3, hR, gl3, hn8⟩ := hp
      refine lv_goto (tgt := 265) hx hb dX12_writePart_106 (by decide) ?_
      refine lv_iload_n hx hb dX12_writePart_265 rfl (lv_at hl 5 rfl) ?_
      exact rl_iret hC hW hr hlk (Nat.le_refl _) (Nat.le_refl _) ⟨_, rfl, rfl, rfl, _, _, _, _, hR, fun j h1 h2 => by rw [va_up_n _ _ h2], fun j hj => by rw [gl3 j hj, gl2 j hj, gl1 j hj], fun j h1 => by repeat rw [rg_upl h1], rfl, hn8, by first | omega | (simp only [List.length_append, List.length_cons, List.length_nil, List.length_map, List.length_range]; done) | (simp only [List.length_append, List.length_cons, List.length_nil, List.length_map, List.length_range]; omega), by first | omega | (simp only [List.length_append, List.length_cons, List.length_nil, List.length_map, List.length_range]; done) | (simp only [List.length_append, List.length_cons, List.length_nil, List.length_map, List.length_range]; omega), Or.inl ⟨rfl, rfl, rfl, fun R => by rw [show pu_wv T G R k q = _ from by unfold pu_wv; rw [if_pos (by omega), ← e17, ← gl1 17 (by decide), ← gl2 17 (by decide)]]; simp [wl_nm, wl_st, hs]⟩⟩ dX12_writePart_266
  · have hnn : ¬ T 4 (5 * G.1 1 k + q) < 2 := by omega
    rcases GW.cases hX with hXe | ⟨n0, hn0, hXe⟩ | ⟨n0, hn0, hXe⟩ | ⟨n0, hn0, hXe⟩
    · have hX18 : I 18 (5 * k + q) = -1 := by rw [e18, hXe]; rfl
      refine lv_aload_n hx hb dX12_writePart_0 rfl (lv_at hl 0 rfl) ?_
      refine rl_get (v := .ref (m + 28)) hC hW fl_X12_100 hR.1 rfl dX12_writePart_1 ?_
      refine lv_iload_n hx hb dX12_writePart_4 rfl (lv_at hl 1 rfl) ?_
      refine lv_iconst (v := (nI (1))) hx hb dX12_writePart_5 (by decide) ?_
      refine lv_isub hx hb dX12_writePart_6 ?_
      refine rl_topn (rg_sub (c := d) (by omega)) ?_
      refine rl_iald_n (g := I 39) hC hW hR.a39 (by omega) (by decide) dX12_writePart_7 ?_
      refine rl_topn (e39) ?_
      refine lv_istore_n (lv' := [(2, .int (nI (k))), (0, .ref (m)), (1, .int (nI (d + 1)))]) hx hb dX12_writePart_8 rfl hl (by decide) rfl (fun ls hl => ?_)
      refine lv_aload_n hx hb dX12_writePart_9 rfl (lv_at hl 1 rfl) ?_
      refine rl_get (v := .ref (m + 29)) hC hW fl_X12_103 hR.1 rfl dX12_writePart_10 ?_
      refine lv_iload_n hx hb dX12_writePart_13 rfl (lv_at hl 2 rfl) ?_
      refine lv_iconst (v := (nI (1))) hx hb dX12_writePart_14 (by decide) ?_
      refine lv_isub hx hb dX12_writePart_15 ?_
      refine rl_topn (rg_sub (c := d) (by omega)) ?_
      refine rl_iald_n (g := I 40) hC hW hR.a40 (by omega) (by decide) dX12_writePart_16 ?_
      refine rl_topn (e40) ?_
      refine lv_istore_n (lv' := [(3, .int (nI (q))), (2, .int (nI (k))), (0, .ref (m)), (1, .int (nI (d + 1)))]) hx hb dX12_writePart_17 rfl hl (by decide) rfl (fun ls hl => ?_)
      refine lv_aload_n hx hb dX12_writePart_18 rfl (lv_at hl 2 rfl) ?_
      refine rl_get (v := .ref (m + 17)) hC hW fl_X12_63 hR.1 rfl dX12_writePart_19 ?_
      refine lv_iconst (v := (nI (5))) hx hb dX12_writePart_22 (by decide) ?_
      refine lv_iload_n hx hb dX12_writePart_23 rfl (lv_at hl 1 rfl) ?_
      refine lv_imul hx hb dX12_writePart_24 ?_
      refine rl_topn (pk_mul _ _) ?_
      refine lv_iload_n hx hb dX12_writePart_25 rfl (lv_at hl 0 rfl) ?_
      refine lv_iadd hx hb dX12_writePart_26 ?_
      refine rl_topn (nI_add _ _) ?_
      refine rl_iald_n (g := I 18) hC hW hR.a18 (by omega) (by decide) dX12_writePart_27 ?_
      refine rl_topn (hX18) ?_
      refine lv_istore (lv' := [(4, .int (-1)), (3, .int (nI (q))), (2, .int (nI (k))), (0, .ref (m)), (1, .int (nI (d + 1)))]) hx hb dX12_writePart_28 hl (by decide) rfl (fun ls hl => ?_)
      refine lv_aload_n hx hb dX12_writePart_30 rfl (lv_at hl 3 rfl) ?_
      refine rl_get (v := .ref (m + 6)) hC hW fl_X12_26 hR.1 rfl dX12_writePart_31 ?_
      refine lv_iconst (v := (nI (5))) hx hb dX12_writePart_34 (by decide) ?_
      refine lv_aload_n hx hb dX12_writePart_35 rfl (lv_at hl 3 rfl) ?_
      refine rl_get (v := .ref (m + 14)) hC hW fl_X12_52 hR.1 rfl dX12_writePart_36 ?_
      refine lv_iload_n hx hb dX12_writePart_39 rfl (lv_at hl 2 rfl) ?_
      refine rl_iald_n (g := I 15) hC hW hR.a15 (by omega) (by decide) dX12_writePart_40 ?_
      refine rl_topn (h15) ?_
      refine lv_imul hx hb dX12_writePart_41 ?_
      refine rl_topn (pk_mul _ _) ?_
      refine lv_iload_n hx hb dX12_writePart_42 rfl (lv_at hl 1 rfl) ?_
      refine lv_iadd hx hb dX12_writePart_43 ?_
      refine rl_topn (nI_add _ _) ?_
      refine rl_iald_n (g := I 5) hC hW hR.a5 (by omega) (by decide) dX12_writePart_44 ?_
      refine rl_topn (hnm.2.2.1.trans (by rw [hs])) ?_
      refine lv_istore (lv' := [(5, .int (nI (2))), (4, .int (-1)), (3, .int (nI (q))), (2, .int (nI (k))), (0, .ref (m)), (1, .int (nI (d + 1)))]) hx hb dX12_writePart_45 hl (by decide) rfl (fun ls hl => ?_)
      refine lv_aload_n hx hb dX12_writePart_47 rfl (lv_at hl 4 rfl) ?_
      refine rl_get (v := .ref (m + 29)) hC hW fl_X12_103 hR.1 rfl dX12_writePart_48 ?_
      refine lv_iload_n hx hb dX12_writePart_51 rfl (lv_at hl 5 rfl) ?_
      refine lv_iconst (v := (nI (1))) hx hb dX12_writePart_52 (by decide) ?_
      refine lv_isub hx hb dX12_writePart_53 ?_
      refine rl_topn (rg_sub (c := d) (by omega)) ?_
      refine lv_dup2_11 hx hb dX12_writePart_54 rfl rfl ?_
      refine rl_iald_n (g := I 40) hC hW hR.a40 (by omega) (by decide) dX12_writePart_55 ?_
      refine rl_topn (e40) ?_
      refine lv_iconst (v := (nI (1))) hx hb dX12_writePart_56 (by decide) ?_
      refine lv_iadd hx hb dX12_writePart_57 ?_
      refine rl_topn (nI_add _ _) ?_
      refine rl_iast_n (g := I 40) hC hW hR.a40 (by omega) (by decide) dX12_writePart_58 (fun H locs hW => ?_)
      have hR := hR.s40 (upd (I 40) (d) ((nI ((q) + (1)))))
      refine lv_aload_n hx hb dX12_writePart_59 rfl (lv_at hl 4 rfl) ?_
      refine lv_aload_n hx hb dX12_writePart_60 rfl (lv_at hl 4 rfl) ?_
      refine rl_get (v := .ref (m + 5)) hC hW fl_X12_23 hR.1 rfl dX12_writePart_61 ?_
      refine lv_iconst (v := (nI (5))) hx hb dX12_writePart_64 (by decide) ?_
      refine lv_aload_n hx hb dX12_writePart_65 rfl (lv_at hl 4 rfl) ?_
      refine rl_get (v := .ref (m + 14)) hC hW fl_X12_52 hR.1 rfl dX12_writePart_66 ?_
      refine lv_iload_n hx hb dX12_writePart_69 rfl (lv_at hl 3 rfl) ?_
      refine rl_iald_n (g := I 15) hC hW hR.a15 (by omega) (by decide) dX12_writePart_70 ?_
      refine rl_topn (h15) ?_
      refine lv_imul hx hb dX12_writePart_71 ?_
      refine rl_topn (pk_mul _ _) ?_
      refine lv_iload_n hx hb dX12_writePart_72 rfl (lv_at hl 2 rfl) ?_
      refine lv_iadd hx hb dX12_writePart_73 ?_
      refine rl_topn (nI_add _ _) ?_
      refine rl_iald_n (g := I 4) hC hW hR.a4 (by omega) (by decide) dX12_writePart_74 ?_
      refine rl_topn (hnm.1) ?_
      refine lv_i2l hx hb dX12_writePart_75 rfl ?_
      refine rl_callvQ (rl_runV (b := m) (As := [.long ((nI (T 3 (5 * G.1 1 k + q))).toInt64)]) (rest := []) hC hW (cR_put l D t A _ z m _ _ _ hR (ws) (by first | omega | (simp only [List.length_append, List.length_cons, List.length_nil, List.length_map, List.length_range]; done) | (simp only [List.length_append, List.length_cons, List.length_nil, List.length_map, List.length_range]; omega)) hF37 hn8 _) cs_X12_223 im_X12_put sl_X12_put hR.1 rfl ⟨(Nat.le_of_ble_eq_true rfl), (Nat.le_of_ble_eq_true rfl)⟩ rfl hl.1 rfl (Nat.le_of_ble_eq_true rfl) dX12_writePart_76 ⟨(Nat.le_of_ble_eq_true rfl), (Nat.le_of_ble_eq_true rfl)⟩) hW (fun f1 H locs hp hW => ?_)
      obtain ⟨L1, hR, gl1, hn8⟩ := hp
      refine lv_aload_n hx hb dX12_writePart_79 rfl (lv_at hl 4 rfl) ?_
      refine lv_iload hx hb dX12_writePart_80 (lv_at hl 0 rfl) ?_
      refine lv_i2l hx hb dX12_writePart_82 rfl ?_
      refine rl_callvQ (rl_runV (b := m) (As := [.long ((nI (2)).toInt64)]) (rest := []) hC hW (cR_put l D t A _ z m _ _ _ hR (ws ++ [(nI (T 3 (5 * G.1 1 k + q))).toInt64]) (by first | omega | (simp only [List.length_append, List.length_cons, List.length_nil, List.length_map, List.length_range]; done) | (simp only [List.length_append, List.length_cons, List.length_nil, List.length_map, List.length_range]; omega)) rfl hn8 _) cs_X12_223 im_X12_put sl_X12_put hR.1 rfl ⟨(Nat.le_of_ble_eq_true rfl), (Nat.le_of_ble_eq_true rfl)⟩ rfl hl.1 rfl (Nat.le_of_ble_eq_true rfl) dX12_writePart_83 ⟨(Nat.le_of_ble_eq_true rfl), (Nat.le_of_ble_eq_true rfl)⟩) hW (fun f1 H locs hp hW => ?_)
      obtain ⟨L2, hR, gl2, hn8⟩ := hp
      refine lv_iload hx hb dX12_writePart_86 (lv_at hl 0 rfl) ?_
      refine lv_iconst (v := (nI (2))) hx hb dX12_writePart_88 (by decide) ?_
      refine lv_icmp_ge (tgt := 109) hx hb dX12_writePart_89 (by decide) (fun c_3 => ?_) (fun c_3 => ?_)
      · refine lv_iload hx hb dX12_writePart_109 (lv_at hl 0 rfl) ?_
        refine lv_iconst (v := (nI (2))) hx hb dX12_writePart_111 (by decide) ?_
        refine lv_icmp_ne (tgt := 142) hx hb dX12_writePart_112 (by decide) (fun c_4 => ?_) (fun c_4 => ?_)
        · first | exact absurd c_4 (by decide) | exact absurd (by decide) c_4
        · refine lv_aload_n hx hb dX12_writePart_115 rfl (lv_at hl 4 rfl) ?_
          refine lv_iload hx hb dX12_writePart_116 (lv_at hl 1 rfl) ?_
          refine lv_iconst (v := (-1)) hx hb dX12_writePart_118 (by decide) ?_
          refine lv_icmp_ne (tgt := 128) hx hb dX12_writePart_119 (by decide) (fun c_5 => ?_) (fun c_5 => ?_)
          · first | exact absurd c_5 (by decide) | exact absurd (by decide) c_5
          · refine lv_ldc2 (v := -1) hx hb hC.2.2.2.1 (hC.2.2.2.2.1 _ (List.mem_cons_of_mem _ mw_941)) dX12_writePart_122 ?_
            refine lv_goto (tgt := 136) hx hb dX12_writePart_125 (by decide) ?_
            refine rl_callvQ (rl_runV (b := m) (As := [.long (-1)]) (rest := []) hC hW (cR_put l D t A _ z m _ _ _ hR (ws ++ [(nI (T 3 (5 * G.1 1 k + q))).toInt64] ++ [(nI (2)).toInt64]) (by first | omega | (simp only [List.length_append, List.length_cons, List.length_nil, List.length_map, List.length_range]; done) | (simp only [List.length_append, List.length_cons, List.length_nil, List.length_map, List.length_range]; omega)) rfl hn8 _) cs_X12_223 im_X12_put sl_X12_put hR.1 rfl ⟨(Nat.le_of_ble_eq_true rfl), (Nat.le_of_ble_eq_true rfl)⟩ rfl hl.1 rfl (Nat.le_of_ble_eq_true rfl) dX12_writePart_136 ⟨(Nat.le_of_ble_eq_true rfl), (Nat.le_of_ble_eq_true rfl)⟩) hW (fun f1 H locs hp hW => ?_)
            obtain ⟨L3, hR, gl3, hn8⟩ := hp
            refine lv_goto (tgt := 265) hx hb dX12_writePart_139 (by decide) ?_
            refine lv_iload_n hx hb dX12_writePart_265 rfl (lv_at hl 5 rfl) ?_
            exact rl_iret hC hW hr hlk (Nat.le_refl _) (Nat.le_refl _) ⟨_, rfl, rfl, rfl, _, _, _, _, hR, fun j h1 h2 => by rw [va_up_n _ _ h2], fun j hj => by rw [gl3 j hj, gl2 j hj, gl1 j hj], fun j h1 => by repeat rw [rg_upl h1], rfl, hn8, by first | omega | (simp only [List.length_append, List.length_cons, List.length_nil, List.length_map, List.length_range]; done) | (simp only [List.length_append, List.length_cons, List.length_nil, List.length_map, List.length_range]; omega), by first | omega | (simp only [List.length_append, List.length_cons, List.length_nil, List.length_map, List.length_range]; done) | (simp only [List.length_append, List.length_cons, List.length_nil, List.length_map, List.length_range]; omega), Or.inl ⟨rfl, rfl, rfl, fun R => by rw [show pu_wv T G R k q = _ from by unfold pu_wv; rw [if_neg hnn, hXe]]; simp [wl_nm, wl_st, hs]⟩⟩ dX12_writePart_266
      · first | exact absurd c_3 (by decide) | exact absurd (by decide) c_3
    · have hX18 : I 18 (5 * k + q) = nI n0 := by rw [e18, hXe]; rfl
      refine lv_aload_n hx hb dX12_writePart_0 rfl (lv_at hl 0 rfl) ?_
      refine rl_get (v := .ref (m + 28)) hC hW fl_X12_100 hR.1 rfl dX12_writePart_1 ?_
      refine lv_iload_n hx hb dX12_writePart_4 rfl (lv_at hl 1 rfl) ?_
      refine lv_iconst (v := (nI (1))) hx hb dX12_writePart_5 (by decide) ?_
      refine lv_isub hx hb dX12_writePart_6 ?_
      refine rl_topn (rg_sub (c := d) (by omega)) ?_
      refine rl_iald_n (g := I 39) hC hW hR.a39 (by omega) (by decide) dX12_writePart_7 ?_
      refine rl_topn (e39) ?_
      refine lv_istore_n (lv' := [(2, .int (nI (k))), (0, .ref (m)), (1, .int (nI (d + 1)))]) hx hb dX12_writePart_8 rfl hl (by decide) rfl (fun ls hl => ?_)
      refine lv_aload_n hx hb dX12_writePart_9 rfl (lv_at hl 1 rfl) ?_
      refine rl_get (v := .ref (m + 29)) hC hW fl_X12_103 hR.1 rfl dX12_writePart_10 ?_
      refine lv_iload_n hx hb dX12_writePart_13 rfl (lv_at hl 2 rfl) ?_
      refine lv_iconst (v := (nI (1))) hx hb dX12_writePart_14 (by decide) ?_
      refine lv_isub hx hb dX12_writePart_15 ?_
      refine rl_topn (rg_sub (c := d) (by omega)) ?_
      refine rl_iald_n (g := I 40) hC hW hR.a40 (by omega) (by decide) dX12_writePart_16 ?_
      refine rl_topn (e40) ?_
      refine lv_istore_n (lv' := [(3, .int (nI (q))), (2, .int (nI (k))), (0, .ref (m)), (1, .int (nI (d + 1)))]) hx hb dX12_writePart_17 rfl hl (by decide) rfl (fun ls hl => ?_)
      refine lv_aload_n hx hb dX12_writePart_18 rfl (lv_at hl 2 rfl) ?_
      refine rl_get (v := .ref (m + 17)) hC hW fl_X12_63 hR.1 rfl dX12_writePart_19 ?_
      refine lv_iconst (v := (nI (5))) hx hb dX12_writePart_22 (by decide) ?_
      refine lv_iload_n hx hb dX12_writePart_23 rfl (lv_at hl 1 rfl) ?_
      refine lv_imul hx hb dX12_writePart_24 ?_
      refine rl_topn (pk_mul _ _) ?_
      refine lv_iload_n hx hb dX12_writePart_25 rfl (lv_at hl 0 rfl) ?_
      refine lv_iadd hx hb dX12_writePart_26 ?_
      refine rl_topn (nI_add _ _) ?_
      refine rl_iald_n (g := I 18) hC hW hR.a18 (by omega) (by decide) dX12_writePart_27 ?_
      refine rl_topn (hX18) ?_
      refine lv_istore (lv' := [(4, .int (nI (n0))), (3, .int (nI (q))), (2, .int (nI (k))), (0, .ref (m)), (1, .int (nI (d + 1)))]) hx hb dX12_writePart_28 hl (by decide) rfl (fun ls hl => ?_)
      refine lv_aload_n hx hb dX12_writePart_30 rfl (lv_at hl 3 rfl) ?_
      refine rl_get (v := .ref (m + 6)) hC hW fl_X12_26 hR.1 rfl dX12_writePart_31 ?_
      refine lv_iconst (v := (nI (5))) hx hb dX12_writePart_34 (by decide) ?_
      refine lv_aload_n hx hb dX12_writePart_35 rfl (lv_at hl 3 rfl) ?_
      refine rl_get (v := .ref (m + 14)) hC hW fl_X12_52 hR.1 rfl dX12_writePart_36 ?_
      refine lv_iload_n hx hb dX12_writePart_39 rfl (lv_at hl 2 rfl) ?_
      refine rl_iald_n (g := I 15) hC hW hR.a15 (by omega) (by decide) dX12_writePart_40 ?_
      refine rl_topn (h15) ?_
      refine lv_imul hx hb dX12_writePart_41 ?_
      refine rl_topn (pk_mul _ _) ?_
      refine lv_iload_n hx hb dX12_writePart_42 rfl (lv_at hl 1 rfl) ?_
      refine lv_iadd hx hb dX12_writePart_43 ?_
      refine rl_topn (nI_add _ _) ?_
      refine rl_iald_n (g := I 5) hC hW hR.a5 (by omega) (by decide) dX12_writePart_44 ?_
      refine rl_topn (hnm.2.2.1.trans (by rw [hs])) ?_
      refine lv_istore (lv' := [(5, .int (nI (2))), (4, .int (nI (n0))), (3, .int (nI (q))), (2, .int (nI (k))), (0, .ref (m)), (1, .int (nI (d + 1)))]) hx hb dX12_writePart_45 hl (by decide) rfl (fun ls hl => ?_)
      refine lv_aload_n hx hb dX12_writePart_47 rfl (lv_at hl 4 rfl) ?_
      refine rl_get (v := .ref (m + 29)) hC hW fl_X12_103 hR.1 rfl dX12_writePart_48 ?_
      refine lv_iload_n hx hb dX12_writePart_51 rfl (lv_at hl 5 rfl) ?_
      refine lv_iconst (v := (nI (1))) hx hb dX12_writePart_52 (by decide) ?_
      refine lv_isub hx hb dX12_writePart_53 ?_
      refine rl_topn (rg_sub (c := d) (by omega)) ?_
      refine lv_dup2_11 hx hb dX12_writePart_54 rfl rfl ?_
      refine rl_iald_n (g := I 40) hC hW hR.a40 (by omega) (by decide) dX12_writePart_55 ?_
      refine rl_topn (e40) ?_
      refine lv_iconst (v := (nI (1))) hx hb dX12_writePart_56 (by decide) ?_
      refine lv_iadd hx hb dX12_writePart_57 ?_
      refine rl_topn (nI_add _ _) ?_
      refine rl_iast_n (g := I 40) hC hW hR.a40 (by omega) (by decide) dX12_writePart_58 (fun H locs hW => ?_)
      have hR := hR.s40 (upd (I 40) (d) ((nI ((q) + (1)))))
      refine lv_aload_n hx hb dX12_writePart_59 rfl (lv_at hl 4 rfl) ?_
      refine lv_aload_n hx hb dX12_writePart_60 rfl (lv_at hl 4 rfl) ?_
      refine rl_get (v := .ref (m + 5)) hC hW fl_X12_23 hR.1 rfl dX12_writePart_61 ?_
      refine lv_iconst (v := (nI (5))) hx hb dX12_writePart_64 (by decide) ?_
      refine lv_aload_n hx hb dX12_writePart_65 rfl (lv_at hl 4 rfl) ?_
      refine rl_get (v := .ref (m + 14)) hC hW fl_X12_52 hR.1 rfl dX12_writePart_66 ?_
      refine lv_iload_n hx hb dX12_writePart_69 rfl (lv_at hl 3 rfl) ?_
      refine rl_iald_n (g := I 15) hC hW hR.a15 (by omega) (by decide) dX12_writePart_70 ?_
      refine rl_topn (h15) ?_
      refine lv_imul hx hb dX12_writePart_71 ?_
      refine rl_topn (pk_mul _ _) ?_
      refine lv_iload_n hx hb dX12_writePart_72 rfl (lv_at hl 2 rfl) ?_
      refine lv_iadd hx hb dX12_writePart_73 ?_
      refine rl_topn (nI_add _ _) ?_
      refine rl_iald_n (g := I 4) hC hW hR.a4 (by omega) (by decide) dX12_writePart_74 ?_
      refine rl_topn (hnm.1) ?_
      refine lv_i2l hx hb dX12_writePart_75 rfl ?_
      refine rl_callvQ (rl_runV (b := m) (As := [.long ((nI (T 3 (5 * G.1 1 k + q))).toInt64)]) (rest := []) hC hW (cR_put l D t A _ z m _ _ _ hR (ws) (by first | omega | (simp only [List.length_append, List.length_cons, List.length_nil, List.length_map, List.length_range]; done) | (simp only [List.length_append, List.length_cons, List.length_nil, List.length_map, List.length_range]; omega)) hF37 hn8 _) cs_X12_223 im_X12_put sl_X12_put hR.1 rfl ⟨(Nat.le_of_ble_eq_true rfl), (Nat.le_of_ble_eq_true rfl)⟩ rfl hl.1 rfl (Nat.le_of_ble_eq_true rfl) dX12_writePart_76 ⟨(Nat.le_of_ble_eq_true rfl), (Nat.le_of_ble_eq_true rfl)⟩) hW (fun f1 H locs hp hW => ?_)
      obtain ⟨L1, hR, gl1, hn8⟩ := hp
      refine lv_aload_n hx hb dX12_writePart_79 rfl (lv_at hl 4 rfl) ?_
      refine lv_iload hx hb dX12_writePart_80 (lv_at hl 0 rfl) ?_
      refine lv_i2l hx hb dX12_writePart_82 rfl ?_
      refine rl_callvQ (rl_runV (b := m) (As := [.long ((nI (2)).toInt64)]) (rest := []) hC hW (cR_put l D t A _ z m _ _ _ hR (ws ++ [(nI (T 3 (5 * G.1 1 k + q))).toInt64]) (by first | omega | (simp only [List.length_append, List.length_cons, List.length_nil, List.length_map, List.length_range]; done) | (simp only [List.length_append, List.length_cons, List.length_nil, List.length_map, List.length_range]; omega)) rfl hn8 _) cs_X12_223 im_X12_put sl_X12_put hR.1 rfl ⟨(Nat.le_of_ble_eq_true rfl), (Nat.le_of_ble_eq_true rfl)⟩ rfl hl.1 rfl (Nat.le_of_ble_eq_true rfl) dX12_writePart_83 ⟨(Nat.le_of_ble_eq_true rfl), (Nat.le_of_ble_eq_true rfl)⟩) hW (fun f1 H locs hp hW => ?_)
      obtain ⟨L2, hR, gl2, hn8⟩ := hp
      refine lv_iload hx hb dX12_writePart_86 (lv_at hl 0 rfl) ?_
      refine lv_iconst (v := (nI (2))) hx hb dX12_writePart_88 (by decide) ?_
      refine lv_icmp_ge (tgt := 109) hx hb dX12_writePart_89 (by decide) (fun c_6 => ?_) (fun c_6 => ?_)
      · refine lv_iload hx hb dX12_writePart_109 (lv_at hl 0 rfl) ?_
        refine lv_iconst (v := (nI (2))) hx hb dX12_writePart_111 (by decide) ?_
        refine lv_icmp_ne (tgt := 142) hx hb dX12_writePart_112 (by decide) (fun c_7 => ?_) (fun c_7 => ?_)
        · first | exact absurd c_7 (by decide) | exact absurd (by decide) c_7
        · refine lv_aload_n hx hb dX12_writePart_115 rfl (lv_at hl 4 rfl) ?_
          refine lv_iload hx hb dX12_writePart_116 (lv_at hl 1 rfl) ?_
          refine lv_iconst (v := (-1)) hx hb dX12_writePart_118 (by decide) ?_
          refine lv_icmp_ne (tgt := 128) hx hb dX12_writePart_119 (by decide) (fun c5 => ?_) (fun c5 => ?_)
          · refine lv_aload_n hx hb dX12_writePart_128 rfl (lv_at hl 4 rfl) ?_
            refine rl_get (v := .ref (m + 2)) hC hW fl_X12_13 hR.1 rfl dX12_writePart_129 ?_
            refine lv_iload hx hb dX12_writePart_132 (lv_at hl 1 rfl) ?_
            refine rl_iald_n (g := I 1) hC hW hR.a1 (by omega) (by decide) dX12_writePart_134 ?_
            refine rl_topn ((hTc.2.2.2 n0 hn0).1) ?_
            refine lv_i2l hx hb dX12_writePart_135 rfl ?_
            refine rl_callvQ (rl_runV (b := m) (As := [.long ((nI (T 1 n0)).toInt64)]) (rest := []) hC hW (cR_put l D t A _ z m _ _ _ hR (ws ++ [(nI (T 3 (5 * G.1 1 k + q))).toInt64] ++ [(nI (2)).toInt64]) (by first | omega | (simp only [List.length_append, List.length_cons, List.length_nil, List.length_map, List.length_range]; done) | (simp only [List.length_append, List.length_cons, List.length_nil, List.length_map, List.length_range]; omega)) rfl hn8 _) cs_X12_223 im_X12_put sl_X12_put hR.1 rfl ⟨(Nat.le_of_ble_eq_true rfl), (Nat.le_of_ble_eq_true rfl)⟩ rfl hl.1 rfl (Nat.le_of_ble_eq_true rfl) dX12_writePart_136 ⟨(Nat.le_of_ble_eq_true rfl), (Nat.le_of_ble_eq_true rfl)⟩) hW (fun f1 H locs hp hW => ?_)
            obtain ⟨L3, hR, gl3, hn8⟩ := hp
            refine lv_goto (tgt := 265) hx hb dX12_writePart_139 (by decide) ?_
            refine lv_iload_n hx hb dX12_writePart_265 rfl (lv_at hl 5 rfl) ?_
            exact rl_iret hC hW hr hlk (Nat.le_refl _) (Nat.le_refl _) ⟨_, rfl, rfl, rfl, _, _, _, _, hR, fun j h1 h2 => by rw [va_up_n _ _ h2], fun j hj => by rw [gl3 j hj, gl2 j hj, gl1 j hj], fun j h1 => by repeat rw [rg_upl h1], rfl, hn8, by first | omega | (simp only [List.length_append, List.length_cons, List.length_nil, List.length_map, List.length_range]; done) | (simp only [List.length_append, List.length_cons, List.length_nil, List.length_map, List.length_range]; omega), by first | omega | (simp only [List.length_append, List.length_cons, List.length_nil, List.length_map, List.length_range]; done) | (simp only [List.length_append, List.length_cons, List.length_nil, List.length_map, List.length_range]; omega), Or.inl ⟨rfl, rfl, rfl, fun R => by rw [show pu_wv T G R k q = _ from by unfold pu_wv; rw [if_neg hnn, hXe]]; simp [wl_nm, wl_st, hs]⟩⟩ dX12_writePart_266
          · exact absurd c5 (rg_m1 (by omega))
      · first | exact absurd c_6 (by decide) | exact absurd (by decide) c_6
    · rw [hXe] at hS
      exact absurd (show T 4 (5 * G.1 1 k + q) = 4 from hS) (by omega)
    · rw [hXe] at hS
      exact absurd (show T 4 (5 * G.1 1 k + q) = 3 from hS) (by omega)
  · have hnn : ¬ T 4 (5 * G.1 1 k + q) < 2 := by omega
    rcases GW.cases hX with hXe | ⟨n0, hn0, hXe⟩ | ⟨n0, hn0, hXe⟩ | ⟨n0, hn0, hXe⟩
    · have hX18 : I 18 (5 * k + q) = -1 := by rw [e18, hXe]; rfl
      refine lv_aload_n hx hb dX12_writePart_0 rfl (lv_at hl 0 rfl) ?_
      refine rl_get (v := .ref (m + 28)) hC hW fl_X12_100 hR.1 rfl dX12_writePart_1 ?_
      refine lv_iload_n hx hb dX12_writePart_4 rfl (lv_at hl 1 rfl) ?_
      refine lv_iconst (v := (nI (1))) hx hb dX12_writePart_5 (by decide) ?_
      refine lv_isub hx hb dX12_writePart_6 ?_
      refine rl_topn (rg_sub (c := d) (by omega)) ?_
      refine rl_iald_n (g := I 39) hC hW hR.a39 (by omega) (by decide) dX12_writePart_7 ?_
      refine rl_topn (e39) ?_
      refine lv_istore_n (lv' := [(2, .int (nI (k))), (0, .ref (m)), (1, .int (nI (d + 1)))]) hx hb dX12_writePart_8 rfl hl (by decide) rfl (fun ls hl => ?_)
      refine lv_aload_n hx hb dX12_writePart_9 rfl (lv_at hl 1 rfl) ?_
      refine rl_get (v := .ref (m + 29)) hC hW fl_X12_103 hR.1 rfl dX12_writePart_10 ?_
      refine lv_iload_n hx hb dX12_writePart_13 rfl (lv_at hl 2 rfl) ?_
      refine lv_iconst (v := (nI (1))) hx hb dX12_writePart_14 (by decide) ?_
      refine lv_isub hx hb dX12_writePart_15 ?_
      refine rl_topn (rg_sub (c := d) (by omega)) ?_
      refine rl_iald_n (g := I 40) hC hW hR.a40 (by omega) (by decide) dX12_writePart_16 ?_
      refine rl_topn (e40) ?_
      refine lv_istore_n (lv' := [(3, .int (nI (q))), (2, .int (nI (k))), (0, .ref (m)), (1, .int (nI (d + 1)))]) hx hb dX12_writePart_17 rfl hl (by decide) rfl (fun ls hl => ?_)
      refine lv_aload_n hx hb dX12_writePart_18 rfl (lv_at hl 2 rfl) ?_
      refine rl_get (v := .ref (m + 17)) hC hW fl_X12_63 hR.1 rfl dX12_writePart_19 ?_
      refine lv_iconst (v := (nI (5))) hx hb dX12_writePart_22 (by decide) ?_
      refine lv_iload_n hx hb dX12_writePart_23 rfl (lv_at hl 1 rfl) ?_
      refine lv_imul hx hb dX12_writePart_24 ?_
      refine rl_topn (pk_mul _ _) ?_
      refine lv_iload_n hx hb dX12_writePart_25 rfl (lv_at hl 0 rfl) ?_
      refine lv_iadd hx hb dX12_writePart_26 ?_
      refine rl_topn (nI_add _ _) ?_
      refine rl_iald_n (g := I 18) hC hW hR.a18 (by omega) (by decide) dX12_writePart_27 ?_
      refine rl_topn (hX18) ?_
      refine lv_istore (lv' := [(4, .int (-1)), (3, .int (nI (q))), (2, .int (nI (k))), (0, .ref (m)), (1, .int (nI (d + 1)))]) hx hb dX12_writePart_28 hl (by decide) rfl (fun ls hl => ?_)
      refine lv_aload_n hx hb dX12_writePart_30 rfl (lv_at hl 3 rfl) ?_
      refine rl_get (v := .ref (m + 6)) hC hW fl_X12_26 hR.1 rfl dX12_writePart_31 ?_
      refine lv_iconst (v := (nI (5))) hx hb dX12_writePart_34 (by decide) ?_
      refine lv_aload_n hx hb dX12_writePart_35 rfl (lv_at hl 3 rfl) ?_
      refine rl_get (v := .ref (m + 14)) hC hW fl_X12_52 hR.1 rfl dX12_writePart_36 ?_
      refine lv_iload_n hx hb dX12_writePart_39 rfl (lv_at hl 2 rfl) ?_
      refine rl_iald_n (g := I 15) hC hW hR.a15 (by omega) (by decide) dX12_writePart_40 ?_
      refine rl_topn (h15) ?_
      refine lv_imul hx hb dX12_writePart_41 ?_
      refine rl_topn (pk_mul _ _) ?_
      refine lv_iload_n hx hb dX12_writePart_42 rfl (lv_at hl 1 rfl) ?_
      refine lv_iadd hx hb dX12_writePart_43 ?_
      refine rl_topn (nI_add _ _) ?_
      refine rl_iald_n (g := I 5) hC hW hR.a5 (by omega) (by decide) dX12_writePart_44 ?_
      refine rl_topn (hnm.2.2.1.trans (by rw [hs])) ?_
      refine lv_istore (lv' := [(5, .int (nI (3))), (4, .int (-1)), (3, .int (nI (q))), (2, .int (nI (k))), (0, .ref (m)), (1, .int (nI (d + 1)))]) hx hb dX12_writePart_45 hl (by decide) rfl (fun ls hl => ?_)
      refine lv_aload_n hx hb dX12_writePart_47 rfl (lv_at hl 4 rfl) ?_
      refine rl_get (v := .ref (m + 29)) hC hW fl_X12_103 hR.1 rfl dX12_writePart_48 ?_
      refine lv_iload_n hx hb dX12_writePart_51 rfl (lv_at hl 5 rfl) ?_
      refine lv_iconst (v := (nI (1))) hx hb dX12_writePart_52 (by decide) ?_
      refine lv_isub hx hb dX12_writePart_53 ?_
      refine rl_topn (rg_sub (c := d) (by omega)) ?_
      refine lv_dup2_11 hx hb dX12_writePart_54 rfl rfl ?_
      refine rl_iald_n (g := I 40) hC hW hR.a40 (by omega) (by decide) dX12_writePart_55 ?_
      refine rl_topn (e40) ?_
      refine lv_iconst (v := (nI (1))) hx hb dX12_writePart_56 (by decide) ?_
      refine lv_iadd hx hb dX12_writePart_57 ?_
      refine rl_topn (nI_add _ _) ?_
      refine rl_iast_n (g := I 40) hC hW hR.a40 (by omega) (by decide) dX12_writePart_58 (fun H locs hW => ?_)
      have hR := hR.s40 (upd (I 40) (d) ((nI ((q) + (1)))))
      refine lv_aload_n hx hb dX12_writePart_59 rfl (lv_at hl 4 rfl) ?_
      refine lv_aload_n hx hb dX12_writePart_60 rfl (lv_at hl 4 rfl) ?_
      refine rl_get (v := .ref (m + 5)) hC hW fl_X12_23 hR.1 rfl dX12_writePart_61 ?_
      refine lv_iconst (v := (nI (5))) hx hb dX12_writePart_64 (by decide) ?_
      refine lv_aload_n hx hb dX12_writePart_65 rfl (lv_at hl 4 rfl) ?_
      refine rl_get (v := .ref (m + 14)) hC hW fl_X12_52 hR.1 rfl dX12_writePart_66 ?_
      refine lv_iload_n hx hb dX12_writePart_69 rfl (lv_at hl 3 rfl) ?_
      refine rl_iald_n (g := I 15) hC hW hR.a15 (by omega) (by decide) dX12_writePart_70 ?_
      refine rl_topn (h15) ?_
      refine lv_imul hx hb dX12_writePart_71 ?_
      refine rl_topn (pk_mul _ _) ?_
      refine lv_iload_n hx hb dX12_writePart_72 rfl (lv_at hl 2 rfl) ?_
      refine lv_iadd hx hb dX12_writePart_73 ?_
      refine rl_topn (nI_add _ _) ?_
      refine rl_iald_n (g := I 4) hC hW hR.a4 (by omega) (by decide) dX12_writePart_74 ?_
      refine rl_topn (hnm.1) ?_
      refine lv_i2l hx hb dX12_writePart_75 rfl ?_
      refine rl_callvQ (rl_runV (b := m) (As := [.long ((nI (T 3 (5 * G.1 1 k + q))).toInt64)]) (rest := []) hC hW (cR_put l D t A _ z m _ _ _ hR (ws) (by first | omega | (simp only [List.length_append, List.length_cons, List.length_nil, List.length_map, List.length_range]; done) | (simp only [List.length_append, List.length_cons, List.length_nil, List.length_map, List.length_range]; omega)) hF37 hn8 _) cs_X12_223 im_X12_put sl_X12_put hR.1 rfl ⟨(Nat.le_of_ble_eq_true rfl), (Nat.le_of_ble_eq_true rfl)⟩ rfl hl.1 rfl (Nat.le_of_ble_eq_true rfl) dX12_writePart_76 ⟨(Nat.le_of_ble_eq_true rfl), (Nat.le_of_ble_eq_true rfl)⟩) hW (fun f1 H locs hp hW => ?_)
      obtain ⟨L1, hR, gl1, hn8⟩ := hp
      refine lv_aload_n hx hb dX12_writePart_79 rfl (lv_at hl 4 rfl) ?_
      refine lv_iload hx hb dX12_writePart_80 (lv_at hl 0 rfl) ?_
      refine lv_i2l hx hb dX12_writePart_82 rfl ?_
      refine rl_callvQ (rl_runV (b := m) (As := [.long ((nI (3)).toInt64)]) (rest := []) hC hW (cR_put l D t A _ z m _ _ _ hR (ws ++ [(nI (T 3 (5 * G.1 1 k + q))).toInt64]) (by first | omega | (simp only [List.length_append, List.length_cons, List.length_nil, List.length_map, List.length_range]; done) | (simp only [List.length_append, List.length_cons, List.length_nil, List.length_map, List.length_range]; omega)) rfl hn8 _) cs_X12_223 im_X12_put sl_X12_put hR.1 rfl ⟨(Nat.le_of_ble_eq_true rfl), (Nat.le_of_ble_eq_true rfl)⟩ rfl hl.1 rfl (Nat.le_of_ble_eq_true rfl) dX12_writePart_83 ⟨(Nat.le_of_ble_eq_true rfl), (Nat.le_of_ble_eq_true rfl)⟩) hW (fun f1 H locs hp hW => ?_)
      obtain ⟨L2, hR, gl2, hn8⟩ := hp
      refine lv_iload hx hb dX12_writePart_86 (lv_at hl 0 rfl) ?_
      refine lv_iconst (v := (nI (2))) hx hb dX12_writePart_88 (by decide) ?_
      refine lv_icmp_ge (tgt := 109) hx hb dX12_writePart_89 (by decide) (fun c_8 => ?_) (fun c_8 => ?_)
      · refine lv_iload hx hb dX12_writePart_109 (lv_at hl 0 rfl) ?_
        refine lv_iconst (v := (nI (2))) hx hb dX12_writePart_111 (by decide) ?_
        refine lv_icmp_ne (tgt := 142) hx hb dX12_writePart_112 (by decide) (fun c_9 => ?_) (fun c_9 => ?_)
        · refine lv_iload hx hb dX12_writePart_142 (lv_at hl 0 rfl) ?_
          refine lv_iconst (v := (nI (4))) hx hb dX12_writePart_144 (by decide) ?_
          refine lv_icmp_ne (tgt := 229) hx hb dX12_writePart_145 (by decide) (fun c_10 => ?_) (fun c_10 => ?_)
          · refine lv_aload_n hx hb dX12_writePart_229 rfl (lv_at hl 4 rfl) ?_
            refine lv_iload hx hb dX12_writePart_230 (lv_at hl 1 rfl) ?_
            refine lv_iconst (v := (-1)) hx hb dX12_writePart_232 (by decide) ?_
            refine lv_icmp_ne (tgt := 240) hx hb dX12_writePart_233 (by decide) (fun c_11 => ?_) (fun c_11 => ?_)
            · first | exact absurd c_11 (by decide) | exact absurd (by decide) c_11
            · refine lv_lconst (v := 0) hx hb dX12_writePart_236 (by decide) ?_
              refine lv_goto (tgt := 241) hx hb dX12_writePart_237 (by decide) ?_
              refine rl_callvQ (rl_runV (b := m) (As := [.long (0)]) (rest := []) hC hW (cR_put l D t A _ z m _ _ _ hR (ws ++ [(nI (T 3 (5 * G.1 1 k + q))).toInt64] ++ [(nI (3)).toInt64]) (by first | omega | (simp only [List.length_append, List.length_cons, List.length_nil, List.length_map, List.length_range]; done) | (simp only [List.length_append, List.length_cons, List.length_nil, List.length_map, List.length_range]; omega)) rfl hn8 _) cs_X12_223 im_X12_put sl_X12_put hR.1 rfl ⟨(Nat.le_of_ble_eq_true rfl), (Nat.le_of_ble_eq_true rfl)⟩ rfl hl.1 rfl (Nat.le_of_ble_eq_true rfl) dX12_writePart_241 ⟨(Nat.le_of_ble_eq_true rfl), (Nat.le_of_ble_eq_true rfl)⟩) hW (fun f1 H locs hp hW => ?_)
              obtain ⟨L3, hR, gl3, hn8⟩ := hp
              refine lv_iload hx hb dX12_writePart_244 (lv_at hl 1 rfl) ?_
              refine lv_iconst (v := (-1)) hx hb dX12_writePart_246 (by decide) ?_
              refine lv_icmp_ne (tgt := 254) hx hb dX12_writePart_247 (by decide) (fun c_12 => ?_) (fun c_12 => ?_)
              · first | exact absurd c_12 (by decide) | exact absurd (by decide) c_12
              · refine lv_iload_n hx hb dX12_writePart_250 rfl (lv_at hl 5 rfl) ?_
                refine lv_goto (tgt := 264) hx hb dX12_writePart_251 (by decide) ?_
                exact rl_iret hC hW hr hlk (Nat.le_refl _) (Nat.le_refl _) ⟨_, rfl, rfl, rfl, _, _, _, _, hR, fun j h1 h2 => by rw [va_up_n _ _ h2], fun j hj => by rw [gl3 j hj, gl2 j hj, gl1 j hj], fun j h1 => by repeat rw [rg_upl h1], rfl, hn8, by first | omega | (simp only [List.length_append, List.length_cons, List.length_nil, List.length_map, List.length_range]; done) | (simp only [List.length_append, List.length_cons, List.length_nil, List.length_map, List.length_range]; omega), by first | omega | (simp only [List.length_append, List.length_cons, List.length_nil, List.length_map, List.length_range]; done) | (simp only [List.length_append, List.length_cons, List.length_nil, List.length_map, List.length_range]; omega), Or.inl ⟨rfl, rfl, rfl, fun R => by rw [show pu_wv T G R k q = _ from by unfold pu_wv; rw [if_neg hnn, hXe]]; simp [wl_nm, wl_st, hs]⟩⟩ dX12_writePart_264
          · first | exact absurd c_10 (by decide) | exact absurd (by decide) c_10
        · first | exact absurd c_9 (by decide) | exact absurd (by decide) c_9
      · first | exact absurd c_8 (by decide) | exact absurd (by decide) c_8
    · rw [hXe] at hS
      exact absurd (show T 4 (5 * G.1 1 k + q) = 2 from hS) (by omega)
    · rw [hXe] at hS
      exact absurd (show T 4 (5 * G.1 1 k + q) = 4 from hS) (by omega)
    · have hX18 : I 18 (5 * k + q) = nI (1000000 + n0) := by rw [e18, hXe]; rfl
      refine lv_aload_n hx hb dX12_writePart_0 rfl (lv_at hl 0 rfl) ?_
      refine rl_get (v := .ref (m + 28)) hC hW fl_X12_100 hR.1 rfl dX12_writePart_1 ?_
      refine lv_iload_n hx hb dX12_writePart_4 rfl (lv_at hl 1 rfl) ?_
      refine lv_iconst (v := (nI (1))) hx hb dX12_writePart_5 (by decide) ?_
      refine lv_isub hx hb dX12_writePart_6 ?_
      refine rl_topn (rg_sub (c := d) (by omega)) ?_
      refine rl_iald_n (g := I 39) hC hW hR.a39 (by omega) (by decide) dX12_writePart_7 ?_
      refine rl_topn (e39) ?_
      refine lv_istore_n (lv' := [(2, .int (nI (k))), (0, .ref (m)), (1, .int (nI (d + 1)))]) hx hb dX12_writePart_8 rfl hl (by decide) rfl (fun ls hl => ?_)
      refine lv_aload_n hx hb dX12_writePart_9 rfl (lv_at hl 1 rfl) ?_
      refine rl_get (v := .ref (m + 29)) hC hW fl_X12_103 hR.1 rfl dX12_writePart_10 ?_
      refine lv_iload_n hx hb dX12_writePart_13 rfl (lv_at hl 2 rfl) ?_
      refine lv_iconst (v := (nI (1))) hx hb dX12_writePart_14 (by decide) ?_
      refine lv_isub hx hb dX12_writePart_15 ?_
      refine rl_topn (rg_sub (c := d) (by omega)) ?_
      refine rl_iald_n (g := I 40) hC hW hR.a40 (by omega) (by decide) dX12_writePart_16 ?_
      refine rl_topn (e40) ?_
      refine lv_istore_n (lv' := [(3, .int (nI (q))), (2, .int (nI (k))), (0, .ref (m)), (1, .int (nI (d + 1)))]) hx hb dX12_writePart_17 rfl hl (by decide) rfl (fun ls hl => ?_)
      refine lv_aload_n hx hb dX12_writePart_18 rfl (lv_at hl 2 rfl) ?_
      refine rl_get (v := .ref (m + 17)) hC hW fl_X12_63 hR.1 rfl dX12_writePart_19 ?_
      refine lv_iconst (v := (nI (5))) hx hb dX12_writePart_22 (by decide) ?_
      refine lv_iload_n hx hb dX12_writePart_23 rfl (lv_at hl 1 rfl) ?_
      refine lv_imul hx hb dX12_writePart_24 ?_
      refine rl_topn (pk_mul _ _) ?_
      refine lv_iload_n hx hb dX12_writePart_25 rfl (lv_at hl 0 rfl) ?_
      refine lv_iadd hx hb dX12_writePart_26 ?_
      refine rl_topn (nI_add _ _) ?_
      refine rl_iald_n (g := I 18) hC hW hR.a18 (by omega) (by decide) dX12_writePart_27 ?_
      refine rl_topn (hX18) ?_
      refine lv_istore (lv' := [(4, .int (nI (1000000 + n0))), (3, .int (nI (q))), (2, .int (nI (k))), (0, .ref (m)), (1, .int (nI (d + 1)))]) hx hb dX12_writePart_28 hl (by decide) rfl (fun ls hl => ?_)
      refine lv_aload_n hx hb dX12_writePart_30 rfl (lv_at hl 3 rfl) ?_
      refine rl_get (v := .ref (m + 6)) hC hW fl_X12_26 hR.1 rfl dX12_writePart_31 ?_
      refine lv_iconst (v := (nI (5))) hx hb dX12_writePart_34 (by decide) ?_
      refine lv_aload_n hx hb dX12_writePart_35 rfl (lv_at hl 3 rfl) ?_
      refine rl_get (v := .ref (m + 14)) hC hW fl_X12_52 hR.1 rfl dX12_writePart_36 ?_
      refine lv_iload_n hx hb dX12_writePart_39 rfl (lv_at hl 2 rfl) ?_
      refine rl_iald_n (g := I 15) hC hW hR.a15 (by omega) (by decide) dX12_writePart_40 ?_
      refine rl_topn (h15) ?_
      refine lv_imul hx hb dX12_writePart_41 ?_
      refine rl_topn (pk_mul _ _) ?_
      refine lv_iload_n hx hb dX12_writePart_42 rfl (lv_at hl 1 rfl) ?_
      refine lv_iadd hx hb dX12_writePart_43 ?_
      refine rl_topn (nI_add _ _) ?_
      refine rl_iald_n (g := I 5) hC hW hR.a5 (by omega) (by decide) dX12_writePart_44 ?_
      refine rl_topn (hnm.2.2.1.trans (by rw [hs])) ?_
      refine lv_istore (lv' := [(5, .int (nI (3))), (4, .int (nI (1000000 + n0))), (3, .int (nI (q))), (2, .int (nI (k))), (0, .ref (m)), (1, .int (nI (d + 1)))]) hx hb dX12_writePart_45 hl (by decide) rfl (fun ls hl => ?_)
      refine lv_aload_n hx hb dX12_writePart_47 rfl (lv_at hl 4 rfl) ?_
      refine rl_get (v := .ref (m + 29)) hC hW fl_X12_103 hR.1 rfl dX12_writePart_48 ?_
      refine lv_iload_n hx hb dX12_writePart_51 rfl (lv_at hl 5 rfl) ?_
      refine lv_iconst (v := (nI (1))) hx hb dX12_writePart_52 (by decide) ?_
      refine lv_isub hx hb dX12_writePart_53 ?_
      refine rl_topn (rg_sub (c := d) (by omega)) ?_
      refine lv_dup2_11 hx hb dX12_writePart_54 rfl rfl ?_
      refine rl_iald_n (g := I 40) hC hW hR.a40 (by omega) (by decide) dX12_writePart_55 ?_
      refine rl_topn (e40) ?_
      refine lv_iconst (v := (nI (1))) hx hb dX12_writePart_56 (by decide) ?_
      refine lv_iadd hx hb dX12_writePart_57 ?_
      refine rl_topn (nI_add _ _) ?_
      refine rl_iast_n (g := I 40) hC hW hR.a40 (by omega) (by decide) dX12_writePart_58 (fun H locs hW => ?_)
      have hR := hR.s40 (upd (I 40) (d) ((nI ((q) + (1)))))
      refine lv_aload_n hx hb dX12_writePart_59 rfl (lv_at hl 4 rfl) ?_
      refine lv_aload_n hx hb dX12_writePart_60 rfl (lv_at hl 4 rfl) ?_
      refine rl_get (v := .ref (m + 5)) hC hW fl_X12_23 hR.1 rfl dX12_writePart_61 ?_
      refine lv_iconst (v := (nI (5))) hx hb dX12_writePart_64 (by decide) ?_
      refine lv_aload_n hx hb dX12_writePart_65 rfl (lv_at hl 4 rfl) ?_
      refine rl_get (v := .ref (m + 14)) hC hW fl_X12_52 hR.1 rfl dX12_writePart_66 ?_
      refine lv_iload_n hx hb dX12_writePart_69 rfl (lv_at hl 3 rfl) ?_
      refine rl_iald_n (g := I 15) hC hW hR.a15 (by omega) (by decide) dX12_writePart_70 ?_
      refine rl_topn (h15) ?_
      refine lv_imul hx hb dX12_writePart_71 ?_
      refine rl_topn (pk_mul _ _) ?_
      refine lv_iload_n hx hb dX12_writePart_72 rfl (lv_at hl 2 rfl) ?_
      refine lv_iadd hx hb dX12_writePart_73 ?_
      refine rl_topn (nI_add _ _) ?_
      refine rl_iald_n (g := I 4) hC hW hR.a4 (by omega) (by decide) dX12_writePart_74 ?_
      refine rl_topn (hnm.1) ?_
      refine lv_i2l hx hb dX12_writePart_75 rfl ?_
      refine rl_callvQ (rl_runV (b := m) (As := [.long ((nI (T 3 (5 * G.1 1 k + q))).toInt64)]) (rest := []) hC hW (cR_put l D t A _ z m _ _ _ hR (ws) (by first | omega | (simp only [List.length_append, List.length_cons, List.length_nil, List.length_map, List.length_range]; done) | (simp only [List.length_append, List.length_cons, List.length_nil, List.length_map, List.length_range]; omega)) hF37 hn8 _) cs_X12_223 im_X12_put sl_X12_put hR.1 rfl ⟨(Nat.le_of_ble_eq_true rfl), (Nat.le_of_ble_eq_true rfl)⟩ rfl hl.1 rfl (Nat.le_of_ble_eq_true rfl) dX12_writePart_76 ⟨(Nat.le_of_ble_eq_true rfl), (Nat.le_of_ble_eq_true rfl)⟩) hW (fun f1 H locs hp hW => ?_)
      obtain ⟨L1, hR, gl1, hn8⟩ := hp
      refine lv_aload_n hx hb dX12_writePart_79 rfl (lv_at hl 4 rfl) ?_
      refine lv_iload hx hb dX12_writePart_80 (lv_at hl 0 rfl) ?_
      refine lv_i2l hx hb dX12_writePart_82 rfl ?_
      refine rl_callvQ (rl_runV (b := m) (As := [.long ((nI (3)).toInt64)]) (rest := []) hC hW (cR_put l D t A _ z m _ _ _ hR (ws ++ [(nI (T 3 (5 * G.1 1 k + q))).toInt64]) (by first | omega | (simp only [List.length_append, List.length_cons, List.length_nil, List.length_map, List.length_range]; done) | (simp only [List.length_append, List.length_cons, List.length_nil, List.length_map, List.length_range]; omega)) rfl hn8 _) cs_X12_223 im_X12_put sl_X12_put hR.1 rfl ⟨(Nat.le_of_ble_eq_true rfl), (Nat.le_of_ble_eq_true rfl)⟩ rfl hl.1 rfl (Nat.le_of_ble_eq_true rfl) dX12_writePart_83 ⟨(Nat.le_of_ble_eq_true rfl), (Nat.le_of_ble_eq_true rfl)⟩) hW (fun f1 H locs hp hW => ?_)
      obtain ⟨L2, hR, gl2, hn8⟩ := hp
      refine lv_iload hx hb dX12_writePart_86 (lv_at hl 0 rfl) ?_
      refine lv_iconst (v := (nI (2))) hx hb dX12_writePart_88 (by decide) ?_
      refine lv_icmp_ge (tgt := 109) hx hb dX12_writePart_89 (by decide) (fun c_13 => ?_) (fun c_13 => ?_)
      · refine lv_iload hx hb dX12_writePart_109 (lv_at hl 0 rfl) ?_
        refine lv_iconst (v := (nI (2))) hx hb dX12_writePart_111 (by decide) ?_
        refine lv_icmp_ne (tgt := 142) hx hb dX12_writePart_112 (by decide) (fun c_14 => ?_) (fun c_14 => ?_)
        · refine lv_iload hx hb dX12_writePart_142 (lv_at hl 0 rfl) ?_
          refine lv_iconst (v := (nI (4))) hx hb dX12_writePart_144 (by decide) ?_
          refine lv_icmp_ne (tgt := 229) hx hb dX12_writePart_145 (by decide) (fun c_15 => ?_) (fun c_15 => ?_)
          · refine lv_aload_n hx hb dX12_writePart_229 rfl (lv_at hl 4 rfl) ?_
            refine lv_iload hx hb dX12_writePart_230 (lv_at hl 1 rfl) ?_
            refine lv_iconst (v := (-1)) hx hb dX12_writePart_232 (by decide) ?_
            refine lv_icmp_ne (tgt := 240) hx hb dX12_writePart_233 (by decide) (fun c5 => ?_) (fun c5 => ?_)
            · refine lv_lconst (v := 1) hx hb dX12_writePart_240 (by decide) ?_
              refine rl_callvQ (rl_runV (b := m) (As := [.long (1)]) (rest := []) hC hW (cR_put l D t A _ z m _ _ _ hR (ws ++ [(nI (T 3 (5 * G.1 1 k + q))).toInt64] ++ [(nI (3)).toInt64]) (by first | omega | (simp only [List.length_append, List.length_cons, List.length_nil, List.length_map, List.length_range]; done) | (simp only [List.length_append, List.length_cons, List.length_nil, List.length_map, List.length_range]; omega)) rfl hn8 _) cs_X12_223 im_X12_put sl_X12_put hR.1 rfl ⟨(Nat.le_of_ble_eq_true rfl), (Nat.le_of_ble_eq_true rfl)⟩ rfl hl.1 rfl (Nat.le_of_ble_eq_true rfl) dX12_writePart_241 ⟨(Nat.le_of_ble_eq_true rfl), (Nat.le_of_ble_eq_true rfl)⟩) hW (fun f1 H locs hp hW => ?_)
              obtain ⟨L3, hR, gl3, hn8⟩ := hp
              refine lv_iload hx hb dX12_writePart_244 (lv_at hl 1 rfl) ?_
              refine lv_iconst (v := (-1)) hx hb dX12_writePart_246 (by decide) ?_
              refine lv_icmp_ne (tgt := 254) hx hb dX12_writePart_247 (by decide) (fun c6 => ?_) (fun c6 => ?_)
              · refine lv_aload_n hx hb dX12_writePart_254 rfl (lv_at hl 4 rfl) ?_
                refine lv_iload_n hx hb dX12_writePart_255 rfl (lv_at hl 5 rfl) ?_
                refine lv_iload hx hb dX12_writePart_256 (lv_at hl 1 rfl) ?_
                refine lv_ldc (v := nI 1000000) hx hb hC.2.2.2.1 (hC.2.2.2.2.1 _ (List.mem_cons_of_mem _ mw_859)) dX12_writePart_258 ?_
                refine lv_isub hx hb dX12_writePart_260 ?_
                refine rl_topn (rg_sub (c := n0) (by omega)) ?_
                refine rl_calliQ (rl_runV (b := m) (As := [.int (nI (d + 1)), .int (nI (n0))]) (rest := []) hC hW (cR_begins l D t A _ z m _ _ _ hR T ρ κ G hρ hκ hTc hTp hGW hGr (show RGd κ G (I 15) (I 16) (L3 17) (I 18) by rw [gl3 17 (by decide), gl2 17 (by decide), gl1 17 (by decide)]; exact hGd) (d + 1) n0 (ws ++ [(nI (T 3 (5 * G.1 1 k + q))).toInt64] ++ [(nI (3)).toInt64] ++ [1]) (by omega) hn0 (by first | omega | (simp only [List.length_append, List.length_cons, List.length_nil, List.length_map, List.length_range]; done) | (simp only [List.length_append, List.length_cons, List.length_nil, List.length_map, List.length_range]; omega)) rfl hn8) cs_X12_229 im_X12_begins sl_X12_begins hR.1 rfl ⟨(Nat.le_of_ble_eq_true rfl), (Nat.le_of_ble_eq_true rfl)⟩ rfl hl.1 rfl (Nat.le_of_ble_eq_true rfl) dX12_writePart_261 ⟨(Nat.le_of_ble_eq_true rfl), (Nat.le_of_ble_eq_true rfl)⟩) hW (fun r f1 H locs hp hW => ?_)
                obtain ⟨rfl, L9, hR, gl9, hn8⟩ := hp
                exact rl_iret hC hW hr hlk (Nat.le_refl _) (Nat.le_refl _) ⟨_, rfl, rfl, rfl, _, _, _, _, hR, fun j h1 h2 => by rw [va_up_n _ _ h2, va_up_n _ _ h1, va_up_n _ _ h2], fun j hj => by rw [gl9 j hj, gl3 j hj, gl2 j hj, gl1 j hj], fun j h1 => by repeat rw [rg_upl h1], rfl, hn8, by first | omega | (simp only [List.length_append, List.length_cons, List.length_nil, List.length_map, List.length_range]; done) | (simp only [List.length_append, List.length_cons, List.length_nil, List.length_map, List.length_range]; omega), by first | omega | (simp only [List.length_append, List.length_cons, List.length_nil, List.length_map, List.length_range]; done) | (simp only [List.length_append, List.length_cons, List.length_nil, List.length_map, List.length_range]; omega), Or.inr ⟨n0, hn0, hXe, hnn, rfl, rfl, rfl, by simp [wl_nm, wl_st, hs], by first | omega | (simp only [List.length_append, List.length_cons, List.length_nil, List.length_map, List.length_range]; done) | (simp only [List.length_append, List.length_cons, List.length_nil, List.length_map, List.length_range]; omega)⟩⟩ dX12_writePart_264
              · exact absurd c6 (rg_m1 (by omega))
            · exact absurd c5 (rg_m1 (by omega))
          · first | exact absurd c_15 (by decide) | exact absurd (by decide) c_15
        · first | exact absurd c_14 (by decide) | exact absurd (by decide) c_14
      · first | exact absurd c_13 (by decide) | exact absurd (by decide) c_13
  · have hnn : ¬ T 4 (5 * G.1 1 k + q) < 2 := by omega
    rcases GW.cases hX with hXe | ⟨n0, hn0, hXe⟩ | ⟨n0, hn0, hXe⟩ | ⟨n0, hn0, hXe⟩
    · have hX18 : I 18 (5 * k + q) = -1 := by rw [e18, hXe]; rfl
      refine lv_aload_n hx hb dX12_writePart_0 rfl (lv_at hl 0 rfl) ?_
      refine rl_get (v := .ref (m + 28)) hC hW fl_X12_100 hR.1 rfl dX12_writePart_1 ?_
      refine lv_iload_n hx hb dX12_writePart_4 rfl (lv_at hl 1 rfl) ?_
      refine lv_iconst (v := (nI (1))) hx hb dX12_writePart_5 (by decide) ?_
      refine lv_isub hx hb dX12_writePart_6 ?_
      refine rl_topn (rg_sub (c := d) (by omega)) ?_
      refine rl_iald_n (g := I 39) hC hW hR.a39 (by omega) (by decide) dX12_writePart_7 ?_
      refine rl_topn (e39) ?_
      refine lv_istore_n (lv' := [(2, .int (nI (k))), (0, .ref (m)), (1, .int (nI (d + 1)))]) hx hb dX12_writePart_8 rfl hl (by decide) rfl (fun ls hl => ?_)
      refine lv_aload_n hx hb dX12_writePart_9 rfl (lv_at hl 1 rfl) ?_
      refine rl_get (v := .ref (m + 29)) hC hW fl_X12_103 hR.1 rfl dX12_writePart_10 ?_
      refine lv_iload_n hx hb dX12_writePart_13 rfl (lv_at hl 2 rfl) ?_
      refine lv_iconst (v := (nI (1))) hx hb dX12_writePart_14 (by decide) ?_
      refine lv_isub hx hb dX12_writePart_15 ?_
      refine rl_topn (rg_sub (c := d) (by omega)) ?_
      refine rl_iald_n (g := I 40) hC hW hR.a40 (by omega) (by decide) dX12_writePart_16 ?_
      refine rl_topn (e40) ?_
      refine lv_istore_n (lv' := [(3, .int (nI (q))), (2, .int (nI (k))), (0, .ref (m)), (1, .int (nI (d + 1)))]) hx hb dX12_writePart_17 rfl hl (by decide) rfl (fun ls hl => ?_)
      refine lv_aload_n hx hb dX12_writePart_18 rfl (lv_at hl 2 rfl) ?_
      refine rl_get (v := .ref (m + 17)) hC hW fl_X12_63 hR.1 rfl dX12_writePart_19 ?_
      refine lv_iconst (v := (nI (5))) hx hb dX12_writePart_22 (by decide) ?_
      refine lv_iload_n hx hb dX12_writePart_23 rfl (lv_at hl 1 rfl) ?_
      refine lv_imul hx hb dX12_writePart_24 ?_
      refine rl_topn (pk_mul _ _) ?_
      refine lv_iload_n hx hb dX12_writePart_25 rfl (lv_at hl 0 rfl) ?_
      refine lv_iadd hx hb dX12_writePart_26 ?_
      refine rl_topn (nI_add _ _) ?_
      refine rl_iald_n (g := I 18) hC hW hR.a18 (by omega) (by decide) dX12_writePart_27 ?_
      refine rl_topn (hX18) ?_
      refine lv_istore (lv' := [(4, .int (-1)), (3, .int (nI (q))), (2, .int (nI (k))), (0, .ref (m)), (1, .int (nI (d + 1)))]) hx hb dX12_writePart_28 hl (by decide) rfl (fun ls hl => ?_)
      refine lv_aload_n hx hb dX12_writePart_30 rfl (lv_at hl 3 rfl) ?_
      refine rl_get (v := .ref (m + 6)) hC hW fl_X12_26 hR.1 rfl dX12_writePart_31 ?_
      refine lv_iconst (v := (nI (5))) hx hb dX12_writePart_34 (by decide) ?_
      refine lv_aload_n hx hb dX12_writePart_35 rfl (lv_at hl 3 rfl) ?_
      refine rl_get (v := .ref (m + 14)) hC hW fl_X12_52 hR.1 rfl dX12_writePart_36 ?_
      refine lv_iload_n hx hb dX12_writePart_39 rfl (lv_at hl 2 rfl) ?_
      refine rl_iald_n (g := I 15) hC hW hR.a15 (by omega) (by decide) dX12_writePart_40 ?_
      refine rl_topn (h15) ?_
      refine lv_imul hx hb dX12_writePart_41 ?_
      refine rl_topn (pk_mul _ _) ?_
      refine lv_iload_n hx hb dX12_writePart_42 rfl (lv_at hl 1 rfl) ?_
      refine lv_iadd hx hb dX12_writePart_43 ?_
      refine rl_topn (nI_add _ _) ?_
      refine rl_iald_n (g := I 5) hC hW hR.a5 (by omega) (by decide) dX12_writePart_44 ?_
      refine rl_topn (hnm.2.2.1.trans (by rw [hs])) ?_
      refine lv_istore (lv' := [(5, .int (nI (4))), (4, .int (-1)), (3, .int (nI (q))), (2, .int (nI (k))), (0, .ref (m)), (1, .int (nI (d + 1)))]) hx hb dX12_writePart_45 hl (by decide) rfl (fun ls hl => ?_)
      refine lv_aload_n hx hb dX12_writePart_47 rfl (lv_at hl 4 rfl) ?_
      refine rl_get (v := .ref (m + 29)) hC hW fl_X12_103 hR.1 rfl dX12_writePart_48 ?_
      refine lv_iload_n hx hb dX12_writePart_51 rfl (lv_at hl 5 rfl) ?_
      refine lv_iconst (v := (nI (1))) hx hb dX12_writePart_52 (by decide) ?_
      refine lv_isub hx hb dX12_writePart_53 ?_
      refine rl_topn (rg_sub (c := d) (by omega)) ?_
      refine lv_dup2_11 hx hb dX12_writePart_54 rfl rfl ?_
      refine rl_iald_n (g := I 40) hC hW hR.a40 (by omega) (by decide) dX12_writePart_55 ?_
      refine rl_topn (e40) ?_
      refine lv_iconst (v := (nI (1))) hx hb dX12_writePart_56 (by decide) ?_
      refine lv_iadd hx hb dX12_writePart_57 ?_
      refine rl_topn (nI_add _ _) ?_
      refine rl_iast_n (g := I 40) hC hW hR.a40 (by omega) (by decide) dX12_writePart_58 (fun H locs hW => ?_)
      have hR := hR.s40 (upd (I 40) (d) ((nI ((q) + (1)))))
      refine lv_aload_n hx hb dX12_writePart_59 rfl (lv_at hl 4 rfl) ?_
      refine lv_aload_n hx hb dX12_writePart_60 rfl (lv_at hl 4 rfl) ?_
      refine rl_get (v := .ref (m + 5)) hC hW fl_X12_23 hR.1 rfl dX12_writePart_61 ?_
      refine lv_iconst (v := (nI (5))) hx hb dX12_writePart_64 (by decide) ?_
      refine lv_aload_n hx hb dX12_writePart_65 rfl (lv_at hl 4 rfl) ?_
      refine rl_get (v := .ref (m + 14)) hC hW fl_X12_52 hR.1 rfl dX12_writePart_66 ?_
      refine lv_iload_n hx hb dX12_writePart_69 rfl (lv_at hl 3 rfl) ?_
      refine rl_iald_n (g := I 15) hC hW hR.a15 (by omega) (by decide) dX12_writePart_70 ?_
      refine rl_topn (h15) ?_
      refine lv_imul hx hb dX12_writePart_71 ?_
      refine rl_topn (pk_mul _ _) ?_
      refine lv_iload_n hx hb dX12_writePart_72 rfl (lv_at hl 2 rfl) ?_
      refine lv_iadd hx hb dX12_writePart_73 ?_
      refine rl_topn (nI_add _ _) ?_
      refine rl_iald_n (g := I 4) hC hW hR.a4 (by omega) (by decide) dX12_writePart_74 ?_
      refine rl_topn (hnm.1) ?_
      refine lv_i2l hx hb dX12_writePart_75 rfl ?_
      refine rl_callvQ (rl_runV (b := m) (As := [.long ((nI (T 3 (5 * G.1 1 k + q))).toInt64)]) (rest := []) hC hW (cR_put l D t A _ z m _ _ _ hR (ws) (by first | omega | (simp only [List.length_append, List.length_cons, List.length_nil, List.length_map, List.length_range]; done) | (simp only [List.length_append, List.length_cons, List.length_nil, List.length_map, List.length_range]; omega)) hF37 hn8 _) cs_X12_223 im_X12_put sl_X12_put hR.1 rfl ⟨(Nat.le_of_ble_eq_true rfl), (Nat.le_of_ble_eq_true rfl)⟩ rfl hl.1 rfl (Nat.le_of_ble_eq_true rfl) dX12_writePart_76 ⟨(Nat.le_of_ble_eq_true rfl), (Nat.le_of_ble_eq_true rfl)⟩) hW (fun f1 H locs hp hW => ?_)
      obtain ⟨L1, hR, gl1, hn8⟩ := hp
      refine lv_aload_n hx hb dX12_writePart_79 rfl (lv_at hl 4 rfl) ?_
      refine lv_iload hx hb dX12_writePart_80 (lv_at hl 0 rfl) ?_
      refine lv_i2l hx hb dX12_writePart_82 rfl ?_
      refine rl_callvQ (rl_runV (b := m) (As := [.long ((nI (4)).toInt64)]) (rest := []) hC hW (cR_put l D t A _ z m _ _ _ hR (ws ++ [(nI (T 3 (5 * G.1 1 k + q))).toInt64]) (by first | omega | (simp only [List.length_append, List.length_cons, List.length_nil, List.length_map, List.length_range]; done) | (simp only [List.length_append, List.length_cons, List.length_nil, List.length_map, List.length_range]; omega)) rfl hn8 _) cs_X12_223 im_X12_put sl_X12_put hR.1 rfl ⟨(Nat.le_of_ble_eq_true rfl), (Nat.le_of_ble_eq_true rfl)⟩ rfl hl.1 rfl (Nat.le_of_ble_eq_true rfl) dX12_writePart_83 ⟨(Nat.le_of_ble_eq_true rfl), (Nat.le_of_ble_eq_true rfl)⟩) hW (fun f1 H locs hp hW => ?_)
      obtain ⟨L2, hR, gl2, hn8⟩ := hp
      refine lv_iload hx hb dX12_writePart_86 (lv_at hl 0 rfl) ?_
      refine lv_iconst (v := (nI (2))) hx hb dX12_writePart_88 (by decide) ?_
      refine lv_icmp_ge (tgt := 109) hx hb dX12_writePart_89 (by decide) (fun c_16 => ?_) (fun c_16 => ?_)
      · refine lv_iload hx hb dX12_writePart_109 (lv_at hl 0 rfl) ?_
        refine lv_iconst (v := (nI (2))) hx hb dX12_writePart_111 (by decide) ?_
        refine lv_icmp_ne (tgt := 142) hx hb dX12_writePart_112 (by decide) (fun c_17 => ?_) (fun c_17 => ?_)
        · refine lv_iload hx hb dX12_writePart_142 (lv_at hl 0 rfl) ?_
          refine lv_iconst (v := (nI (4))) hx hb dX12_writePart_144 (by decide) ?_
          refine lv_icmp_ne (tgt := 229) hx hb dX12_writePart_145 (by decide) (fun c_18 => ?_) (fun c_18 => ?_)
          · first | exact absurd c_18 (by decide) | exact absurd (by decide) c_18
          · refine lv_aload_n hx hb dX12_writePart_148 rfl (lv_at hl 4 rfl) ?_
            refine lv_iload hx hb dX12_writePart_149 (lv_at hl 1 rfl) ?_
            refine lv_iconst (v := (-1)) hx hb dX12_writePart_151 (by decide) ?_
            refine lv_icmp_ne (tgt := 161) hx hb dX12_writePart_152 (by decide) (fun c_19 => ?_) (fun c_19 => ?_)
            · first | exact absurd c_19 (by decide) | exact absurd (by decide) c_19
            · refine lv_ldc2 (v := -1) hx hb hC.2.2.2.1 (hC.2.2.2.2.1 _ (List.mem_cons_of_mem _ mw_941)) dX12_writePart_155 ?_
              refine lv_goto (tgt := 172) hx hb dX12_writePart_158 (by decide) ?_
              refine rl_callvQ (rl_runV (b := m) (As := [.long (-1)]) (rest := []) hC hW (cR_put l D t A _ z m _ _ _ hR (ws ++ [(nI (T 3 (5 * G.1 1 k + q))).toInt64] ++ [(nI (4)).toInt64]) (by first | omega | (simp only [List.length_append, List.length_cons, List.length_nil, List.length_map, List.length_range]; done) | (simp only [List.length_append, List.length_cons, List.length_nil, List.length_map, List.length_range]; omega)) rfl hn8 _) cs_X12_223 im_X12_put sl_X12_put hR.1 rfl ⟨(Nat.le_of_ble_eq_true rfl), (Nat.le_of_ble_eq_true rfl)⟩ rfl hl.1 rfl (Nat.le_of_ble_eq_true rfl) dX12_writePart_172 ⟨(Nat.le_of_ble_eq_true rfl), (Nat.le_of_ble_eq_true rfl)⟩) hW (fun f1 H locs hp hW => ?_)
              obtain ⟨L3, hR, gl3, hn8⟩ := hp
              refine lv_iconst (v := (nI (0))) hx hb dX12_writePart_175 (by decide) ?_
              refine lv_istore (lv' := [(6, .int (nI (0))), (5, .int (nI (4))), (4, .int (-1)), (3, .int (nI (q))), (2, .int (nI (k))), (0, .ref (m)), (1, .int (nI (d + 1)))]) hx hb dX12_writePart_176 hl (by decide) rfl (fun ls hl => ?_)
              refine lv_iload hx hb dX12_writePart_178 (lv_at hl 2 rfl) ?_
              refine lv_iconst (v := (-1)) hx hb dX12_writePart_180 (by decide) ?_
              refine lv_icmp_eq (tgt := 226) hx hb dX12_writePart_181 (by decide) (fun c_20 => ?_) (fun c_20 => ?_)
              · refine lv_goto (tgt := 265) hx hb dX12_writePart_226 (by decide) ?_
                refine lv_iload_n hx hb dX12_writePart_265 rfl (lv_at hl 6 rfl) ?_
                exact rl_iret hC hW hr hlk (Nat.le_refl _) (Nat.le_refl _) ⟨_, rfl, rfl, rfl, _, _, _, _, hR, fun j h1 h2 => by rw [va_up_n _ _ h2], fun j hj => by rw [gl3 j hj, gl2 j hj, gl1 j hj], fun j h1 => by repeat rw [rg_upl h1], rfl, hn8, by first | omega | (simp only [List.length_append, List.length_cons, List.length_nil, List.length_map, List.length_range]; done) | (simp only [List.length_append, List.length_cons, List.length_nil, List.length_map, List.length_range]; omega), by first | omega | (simp only [List.length_append, List.length_cons, List.length_nil, List.length_map, List.length_range]; done) | (simp only [List.length_append, List.length_cons, List.length_nil, List.length_map, List.length_range]; omega), Or.inl ⟨rfl, rfl, rfl, fun R => by rw [show pu_wv T G R k q = _ from by unfold pu_wv; rw [if_neg hnn, hXe]]; simp [wl_nm, wl_st, hs]⟩⟩ dX12_writePart_266
              · first | exact absurd c_20 (by decide) | exact absurd (by decide) c_20
        · first | exact absurd c_17 (by decide) | exact absurd (by decide) c_17
      · first | exact absurd c_16 (by decide) | exact absurd (by decide) c_16
    · rw [hXe] at hS
      exact absurd (show T 4 (5 * G.1 1 k + q) = 2 from hS) (by omega)
    · have hX18 : I 18 (5 * k + q) = nI (100 + n0) := by rw [e18, hXe]; rfl
      have hs0 := hGr.1 n0 hn0
      have hc0 := hGW.1 n0 hn0
      refine lv_aload_n hx hb dX12_writePart_0 rfl (lv_at hl 0 rfl) ?_
      refine rl_get (v := .ref (m + 28)) hC hW fl_X12_100 hR.1 rfl dX12_writePart_1 ?_
      refine lv_iload_n hx hb dX12_writePart_4 rfl (lv_at hl 1 rfl) ?_
      refine lv_iconst (v := (nI (1))) hx hb dX12_writePart_5 (by decide) ?_
      refine lv_isub hx hb dX12_writePart_6 ?_
      refine rl_topn (rg_sub (c := d) (by omega)) ?_
      refine rl_iald_n (g := I 39) hC hW hR.a39 (by omega) (by decide) dX12_writePart_7 ?_
      refine rl_topn (e39) ?_
      refine lv_istore_n (lv' := [(2, .int (nI (k))), (0, .ref (m)), (1, .int (nI (d + 1)))]) hx hb dX12_writePart_8 rfl hl (by decide) rfl (fun ls hl => ?_)
      refine lv_aload_n hx hb dX12_writePart_9 rfl (lv_at hl 1 rfl) ?_
      refine rl_get (v := .ref (m + 29)) hC hW fl_X12_103 hR.1 rfl dX12_writePart_10 ?_
      refine lv_iload_n hx hb dX12_writePart_13 rfl (lv_at hl 2 rfl) ?_
      refine lv_iconst (v := (nI (1))) hx hb dX12_writePart_14 (by decide) ?_
      refine lv_isub hx hb dX12_writePart_15 ?_
      refine rl_topn (rg_sub (c := d) (by omega)) ?_
      refine rl_iald_n (g := I 40) hC hW hR.a40 (by omega) (by decide) dX12_writePart_16 ?_
      refine rl_topn (e40) ?_
      refine lv_istore_n (lv' := [(3, .int (nI (q))), (2, .int (nI (k))), (0, .ref (m)), (1, .int (nI (d + 1)))]) hx hb dX12_writePart_17 rfl hl (by decide) rfl (fun ls hl => ?_)
      refine lv_aload_n hx hb dX12_writePart_18 rfl (lv_at hl 2 rfl) ?_
      refine rl_get (v := .ref (m + 17)) hC hW fl_X12_63 hR.1 rfl dX12_writePart_19 ?_
      refine lv_iconst (v := (nI (5))) hx hb dX12_writePart_22 (by decide) ?_
      refine lv_iload_n hx hb dX12_writePart_23 rfl (lv_at hl 1 rfl) ?_
      refine lv_imul hx hb dX12_writePart_24 ?_
      refine rl_topn (pk_mul _ _) ?_
      refine lv_iload_n hx hb dX12_writePart_25 rfl (lv_at hl 0 rfl) ?_
      refine lv_iadd hx hb dX12_writePart_26 ?_
      refine rl_topn (nI_add _ _) ?_
      refine rl_iald_n (g := I 18) hC hW hR.a18 (by omega) (by decide) dX12_writePart_27 ?_
      refine rl_topn (hX18) ?_
      refine lv_istore (lv' := [(4, .int (nI (100 + n0))), (3, .int (nI (q))), (2, .int (nI (k))), (0, .ref (m)), (1, .int (nI (d + 1)))]) hx hb dX12_writePart_28 hl (by decide) rfl (fun ls hl => ?_)
      refine lv_aload_n hx hb dX12_writePart_30 rfl (lv_at hl 3 rfl) ?_
      refine rl_get (v := .ref (m + 6)) hC hW fl_X12_26 hR.1 rfl dX12_writePart_31 ?_
      refine lv_iconst (v := (nI (5))) hx hb dX12_writePart_34 (by decide) ?_
      refine lv_aload_n hx hb dX12_writePart_35 rfl (lv_at hl 3 rfl) ?_
      refine rl_get (v := .ref (m + 14)) hC hW fl_X12_52 hR.1 rfl dX12_writePart_36 ?_
      refine lv_iload_n hx hb dX12_writePart_39 rfl (lv_at hl 2 rfl) ?_
      refine rl_iald_n (g := I 15) hC hW hR.a15 (by omega) (by decide) dX12_writePart_40 ?_
      refine rl_topn (h15) ?_
      refine lv_imul hx hb dX12_writePart_41 ?_
      refine rl_topn (pk_mul _ _) ?_
      refine lv_iload_n hx hb dX12_writePart_42 rfl (lv_at hl 1 rfl) ?_
      refine lv_iadd hx hb dX12_writePart_43 ?_
      refine rl_topn (nI_add _ _) ?_
      refine rl_iald_n (g := I 5) hC hW hR.a5 (by omega) (by decide) dX12_writePart_44 ?_
      refine rl_topn (hnm.2.2.1.trans (by rw [hs])) ?_
      refine lv_istore (lv' := [(5, .int (nI (4))), (4, .int (nI (100 + n0))), (3, .int (nI (q))), (2, .int (nI (k))), (0, .ref (m)), (1, .int (nI (d + 1)))]) hx hb dX12_writePart_45 hl (by decide) rfl (fun ls hl => ?_)
      refine lv_aload_n hx hb dX12_writePart_47 rfl (lv_at hl 4 rfl) ?_
      refine rl_get (v := .ref (m + 29)) hC hW fl_X12_103 hR.1 rfl dX12_writePart_48 ?_
      refine lv_iload_n hx hb dX12_writePart_51 rfl (lv_at hl 5 rfl) ?_
      refine lv_iconst (v := (nI (1))) hx hb dX12_writePart_52 (by decide) ?_
      refine lv_isub hx hb dX12_writePart_53 ?_
      refine rl_topn (rg_sub (c := d) (by omega)) ?_
      refine lv_dup2_11 hx hb dX12_writePart_54 rfl rfl ?_
      refine rl_iald_n (g := I 40) hC hW hR.a40 (by omega) (by decide) dX12_writePart_55 ?_
      refine rl_topn (e40) ?_
      refine lv_iconst (v := (nI (1))) hx hb dX12_writePart_56 (by decide) ?_
      refine lv_iadd hx hb dX12_writePart_57 ?_
      refine rl_topn (nI_add _ _) ?_
      refine rl_iast_n (g := I 40) hC hW hR.a40 (by omega) (by decide) dX12_writePart_58 (fun H locs hW => ?_)
      have hR := hR.s40 (upd (I 40) (d) ((nI ((q) + (1)))))
      refine lv_aload_n hx hb dX12_writePart_59 rfl (lv_at hl 4 rfl) ?_
      refine lv_aload_n hx hb dX12_writePart_60 rfl (lv_at hl 4 rfl) ?_
      refine rl_get (v := .ref (m + 5)) hC hW fl_X12_23 hR.1 rfl dX12_writePart_61 ?_
      refine lv_iconst (v := (nI (5))) hx hb dX12_writePart_64 (by decide) ?_
      refine lv_aload_n hx hb dX12_writePart_65 rfl (lv_at hl 4 rfl) ?_
      refine rl_get (v := .ref (m + 14)) hC hW fl_X12_52 hR.1 rfl dX12_writePart_66 ?_
      refine lv_iload_n hx hb dX12_writePart_69 rfl (lv_at hl 3 rfl) ?_
      refine rl_iald_n (g := I 15) hC hW hR.a15 (by omega) (by decide) dX12_writePart_70 ?_
      refine rl_topn (h15) ?_
      refine lv_imul hx hb dX12_writePart_71 ?_
      refine rl_topn (pk_mul _ _) ?_
      refine lv_iload_n hx hb dX12_writePart_72 rfl (lv_at hl 2 rfl) ?_
      refine lv_iadd hx hb dX12_writePart_73 ?_
      refine rl_topn (nI_add _ _) ?_
      refine rl_iald_n (g := I 4) hC hW hR.a4 (by omega) (by decide) dX12_writePart_74 ?_
      refine rl_topn (hnm.1) ?_
      refine lv_i2l hx hb dX12_writePart_75 rfl ?_
      refine rl_callvQ (rl_runV (b := m) (As := [.long ((nI (T 3 (5 * G.1 1 k + q))).toInt64)]) (rest := []) hC hW (cR_put l D t A _ z m _ _ _ hR (ws) (by first | omega | (simp only [List.length_append, List.length_cons, List.length_nil, List.length_map, List.length_range]; done) | (simp only [List.length_append, List.length_cons, List.length_nil, List.length_map, List.length_range]; omega)) hF37 hn8 _) cs_X12_223 im_X12_put sl_X12_put hR.1 rfl ⟨(Nat.le_of_ble_eq_true rfl), (Nat.le_of_ble_eq_true rfl)⟩ rfl hl.1 rfl (Nat.le_of_ble_eq_true rfl) dX12_writePart_76 ⟨(Nat.le_of_ble_eq_true rfl), (Nat.le_of_ble_eq_true rfl)⟩) hW (fun f1 H locs hp hW => ?_)
      obtain ⟨L1, hR, gl1, hn8⟩ := hp
      refine lv_aload_n hx hb dX12_writePart_79 rfl (lv_at hl 4 rfl) ?_
      refine lv_iload hx hb dX12_writePart_80 (lv_at hl 0 rfl) ?_
      refine lv_i2l hx hb dX12_writePart_82 rfl ?_
      refine rl_callvQ (rl_runV (b := m) (As := [.long ((nI (4)).toInt64)]) (rest := []) hC hW (cR_put l D t A _ z m _ _ _ hR (ws ++ [(nI (T 3 (5 * G.1 1 k + q))).toInt64]) (by first | omega | (simp only [List.length_append, List.length_cons, List.length_nil, List.length_map, List.length_range]; done) | (simp only [List.length_append, List.length_cons, List.length_nil, List.length_map, List.length_range]; omega)) rfl hn8 _) cs_X12_223 im_X12_put sl_X12_put hR.1 rfl ⟨(Nat.le_of_ble_eq_true rfl), (Nat.le_of_ble_eq_true rfl)⟩ rfl hl.1 rfl (Nat.le_of_ble_eq_true rfl) dX12_writePart_83 ⟨(Nat.le_of_ble_eq_true rfl), (Nat.le_of_ble_eq_true rfl)⟩) hW (fun f1 H locs hp hW => ?_)
      obtain ⟨L2, hR, gl2, hn8⟩ := hp
      refine lv_iload hx hb dX12_writePart_86 (lv_at hl 0 rfl) ?_
      refine lv_iconst (v := (nI (2))) hx hb dX12_writePart_88 (by decide) ?_
      refine lv_icmp_ge (tgt := 109) hx hb dX12_writePart_89 (by decide) (fun c_21 => ?_) (fun c_21 => ?_)
      · refine lv_iload hx hb dX12_writePart_109 (lv_at hl 0 rfl) ?_
        refine lv_iconst (v := (nI (2))) hx hb dX12_writePart_111 (by decide) ?_
        refine lv_icmp_ne (tgt := 142) hx hb dX12_writePart_112 (by decide) (fun c_22 => ?_) (fun c_22 => ?_)
        · refine lv_iload hx hb dX12_writePart_142 (lv_at hl 0 rfl) ?_
          refine lv_iconst (v := (nI (4))) hx hb dX12_writePart_144 (by decide) ?_
          refine lv_icmp_ne (tgt := 229) hx hb dX12_writePart_145 (by decide) (fun c_23 => ?_) (fun c_23 => ?_)
          · first | exact absurd c_23 (by decide) | exact absurd (by decide) c_23
          · refine lv_aload_n hx hb dX12_writePart_148 rfl (lv_at hl 4 rfl) ?_
            refine lv_iload hx hb dX12_writePart_149 (lv_at hl 1 rfl) ?_
            refine lv_iconst (v := (-1)) hx hb dX12_writePart_151 (by decide) ?_
            refine lv_icmp_ne (tgt := 161) hx hb dX12_writePart_152 (by decide) (fun c5 => ?_) (fun c5 => ?_)
            · refine lv_aload_n hx hb dX12_writePart_161 rfl (lv_at hl 4 rfl) ?_
              refine rl_get (v := .ref (m + 12)) hC hW fl_X12_45 hR.1 rfl dX12_writePart_162 ?_
              refine lv_iload hx hb dX12_writePart_165 (lv_at hl 1 rfl) ?_
              refine lv_bipush (v := (nI (100))) hx hb dX12_writePart_167 (by decide) ?_
              refine lv_isub hx hb dX12_writePart_169 ?_
              refine rl_topn (rg_sub (c := n0) (by omega)) ?_
              refine rl_iald_n (g := I 12) hC hW hR.a12 (by omega) (by decide) dX12_writePart_170 ?_
              refine rl_topn (hs0) ?_
              refine lv_i2l hx hb dX12_writePart_171 rfl ?_
              refine rl_callvQ (rl_runV (b := m) (As := [.long ((nI (G.1 0 n0)).toInt64)]) (rest := []) hC hW (cR_put l D t A _ z m _ _ _ hR (ws ++ [(nI (T 3 (5 * G.1 1 k + q))).toInt64] ++ [(nI (4)).toInt64]) (by first | omega | (simp only [List.length_append, List.length_cons, List.length_nil, List.length_map, List.length_range]; done) | (simp only [List.length_append, List.length_cons, List.length_nil, List.length_map, List.length_range]; omega)) rfl hn8 _) cs_X12_223 im_X12_put sl_X12_put hR.1 rfl ⟨(Nat.le_of_ble_eq_true rfl), (Nat.le_of_ble_eq_true rfl)⟩ rfl hl.1 rfl (Nat.le_of_ble_eq_true rfl) dX12_writePart_172 ⟨(Nat.le_of_ble_eq_true rfl), (Nat.le_of_ble_eq_true rfl)⟩) hW (fun f1 H locs hp hW => ?_)
              obtain ⟨L3, hR, gl3, hn8⟩ := hp
              refine lv_iconst (v := (nI (0))) hx hb dX12_writePart_175 (by decide) ?_
              refine lv_istore (lv' := [(6, .int (nI (0))), (5, .int (nI (4))), (4, .int (nI (100 + n0))), (3, .int (nI (q))), (2, .int (nI (k))), (0, .ref (m)), (1, .int (nI (d + 1)))]) hx hb dX12_writePart_176 hl (by decide) rfl (fun ls hl => ?_)
              replace hl : lv_has ls 7 [(0, .ref (m)), (1, .int (nI (d + 1))), (4, .int (nI (100 + n0))), (6, .int (nI (0)))] := lv_sub hl [5, 6, 2, 0] rfl
              have hinv : ∃ f2 : rl_M, ∃ L' : Nat → Nat → Int64, ∃ F' : Nat → Int32, ∃ i : Nat, rl_W D A f2 z s.heap H locs ∧ RM t f2 m (va_up I 40 (upd (I 40) d (nI (q + 1)))) L' F' ∧ (i ≤ G.1 0 n0 ∧ (∀ j, j ≠ 37 → F' j = F j) ∧ F' 37 = nI (ws ++ [(nI (T 3 (5 * G.1 1 k + q))).toInt64] ++ [(nI (4)).toInt64] ++ [(nI (G.1 0 n0)).toInt64] ++ (List.range i).map (fun i => (G.2.1 1 (8 * n0 + i)).toInt64)).length ∧ rf_n8 (ws ++ [(nI (T 3 (5 * G.1 1 k + q))).toInt64] ++ [(nI (4)).toInt64] ++ [(nI (G.1 0 n0)).toInt64] ++ (List.range i).map (fun i => (G.2.1 1 (8 * n0 + i)).toInt64)) (L' 38) ∧ ∀ j, j ≠ 38 → L' j = L j) ∧ lv_has ls 7 [(0, .ref (m)), (1, .int (nI (d + 1))), (4, .int (nI (100 + n0))), (6, .int (nI (i)))] := ⟨_, _, _, 0, hW, hR, ⟨Nat.zero_le _, fun j h1 => by repeat rw [rg_upl h1], by simp [upd], by simpa using hn8, fun j hj => by rw [gl3 j hj, gl2 j hj, gl1 j hj]⟩, hl⟩
              clear hW hR hl hn8
              obtain ⟨f2, L', F', i, hW, hR, ⟨hi, hFF, hF37b, hn8, hLL⟩, hl⟩ := hinv
              obtain ⟨n, hn⟩ : ∃ n, G.1 0 n0 - i < n := ⟨_, Nat.lt_succ_self _⟩
              induction n generalizing f2 L' F' i H locs ls with
              | zero => exact absurd hn (Nat.not_lt_zero _)
              | succ n ih =>
                refine lv_iload hx hb dX12_writePart_178 (lv_at hl 2 rfl) ?_
                refine lv_iconst (v := (-1)) hx hb dX12_writePart_180 (by decide) ?_
                refine lv_icmp_eq (tgt := 226) hx hb dX12_writePart_181 (by decide) (fun c6 => ?_) (fun c6 => ?_)
                · exact absurd c6 (rg_m1 (by omega))
                · refine lv_iload hx hb dX12_writePart_184 (lv_at hl 3 rfl) ?_
                  refine lv_aload_n hx hb dX12_writePart_186 rfl (lv_at hl 0 rfl) ?_
                  refine rl_get (v := .ref (m + 12)) hC hW fl_X12_45 hR.1 rfl dX12_writePart_187 ?_
                  refine lv_iload hx hb dX12_writePart_190 (lv_at hl 2 rfl) ?_
                  refine lv_bipush (v := (nI (100))) hx hb dX12_writePart_192 (by decide) ?_
                  refine lv_isub hx hb dX12_writePart_194 ?_
                  refine rl_topn (rg_sub (c := n0) (by omega)) ?_
                  refine rl_iald_n (g := I 12) hC hW hR.a12 (by omega) (by decide) dX12_writePart_195 ?_
                  refine rl_topn (hs0) ?_
                  refine lv_icmp_ge (tgt := 226) hx hb dX12_writePart_196 (by decide) (fun c7 => ?_) (fun c7 => ?_)
                  · have hie : i = G.1 0 n0 := by have := rg_le c7 (by omega) (by omega); omega
                    refine lv_goto (tgt := 265) hx hb dX12_writePart_226 (by decide) ?_
                    refine lv_iload_n hx hb dX12_writePart_265 rfl (lv_at hl 1 rfl) ?_
                    exact rl_iret hC hW hr hlk (Nat.le_refl _) (Nat.le_refl _) ⟨_, rfl, rfl, rfl, _, _, _, _, hR, fun j h1 h2 => by rw [va_up_n _ _ h2], hLL, hFF, hF37b, hn8, by first | omega | (simp only [List.length_append, List.length_cons, List.length_nil, List.length_map, List.length_range]; done) | (simp only [List.length_append, List.length_cons, List.length_nil, List.length_map, List.length_range]; omega), by first | omega | (simp only [List.length_append, List.length_cons, List.length_nil, List.length_map, List.length_range]; done) | (simp only [List.length_append, List.length_cons, List.length_nil, List.length_map, List.length_range]; omega), Or.inl ⟨rfl, rfl, rfl, fun R => by rw [show pu_wv T G R k q = _ from by unfold pu_wv; rw [if_neg hnn, hXe]]; simp [wl_nm, wl_st, hs, hie]⟩⟩ dX12_writePart_266
                  · have hlt := rg_lt c7 (by omega) (by omega)
                    refine lv_aload_n hx hb dX12_writePart_199 rfl (lv_at hl 0 rfl) ?_
                    refine lv_aload_n hx hb dX12_writePart_200 rfl (lv_at hl 0 rfl) ?_
                    refine rl_get (v := .ref (m + 13)) hC hW fl_X12_49 hR.1 rfl dX12_writePart_201 ?_
                    refine lv_bipush (v := (nI (8))) hx hb dX12_writePart_204 (by decide) ?_
                    refine lv_iload hx hb dX12_writePart_206 (lv_at hl 2 rfl) ?_
                    refine lv_bipush (v := (nI (100))) hx hb dX12_writePart_208 (by decide) ?_
                    refine lv_isub hx hb dX12_writePart_210 ?_
                    refine rl_topn (rg_sub (c := n0) (by omega)) ?_
                    refine lv_imul hx hb dX12_writePart_211 ?_
                    refine rl_topn (pk_mul _ _) ?_
                    refine lv_iload hx hb dX12_writePart_212 (lv_at hl 3 rfl) ?_
                    refine lv_iadd hx hb dX12_writePart_214 ?_
                    refine rl_topn (nI_add _ _) ?_
                    refine rl_iald_n (g := I 13) hC hW hR.a13 (by omega) (by decide) dX12_writePart_215 ?_
                    refine rl_topn (hGr.2 _ (by omega)) ?_
                    refine lv_i2l hx hb dX12_writePart_216 rfl ?_
                    refine rl_callvQ (rl_runV (b := m) (As := [.long ((G.2.1 1 (8 * n0 + i)).toInt64)]) (rest := []) hC hW (cR_put l D t A _ z m _ _ _ hR (ws ++ [(nI (T 3 (5 * G.1 1 k + q))).toInt64] ++ [(nI (4)).toInt64] ++ [(nI (G.1 0 n0)).toInt64] ++ (List.range i).map (fun i => (G.2.1 1 (8 * n0 + i)).toInt64)) (by first | omega | (simp only [List.length_append, List.length_cons, List.length_nil, List.length_map, List.length_range]; done) | (simp only [List.length_append, List.length_cons, List.length_nil, List.length_map, List.length_range]; omega)) hF37b hn8 _) cs_X12_223 im_X12_put sl_X12_put hR.1 rfl ⟨(Nat.le_of_ble_eq_true rfl), (Nat.le_of_ble_eq_true rfl)⟩ rfl hl.1 rfl (Nat.le_of_ble_eq_true rfl) dX12_writePart_217 ⟨(Nat.le_of_ble_eq_true rfl), (Nat.le_of_ble_eq_true rfl)⟩) hW (fun f1 H locs hp hW => ?_)
                    obtain ⟨L2, hR, hL2, hn8⟩ := hp
                    refine lv_iinc (v := (nI ((i) + 1))) (lv' := [(6, .int (nI ((i) + 1))), (0, .ref (m)), (1, .int (nI (d + 1))), (4, .int (nI (100 + n0)))]) hx hb dX12_writePart_220 hl (k := 3) rfl (nI_1 _) (by decide) rfl (fun ls hl => ?_)
                    refine lv_goto (tgt := 178) hx hb dX12_writePart_223 (by decide) ?_
                    replace hl : lv_has ls 7 [(0, .ref (m)), (1, .int (nI (d + 1))), (4, .int (nI (100 + n0))), (6, .int (nI ((i) + 1)))] := lv_sub hl [1, 2, 3, 0] rfl
                    exact ih _ _ _ _ _ _ (i + 1) hW hR hl (by omega) (fun j hj => by rw [rg_upl hj]; exact hFF j hj) (by simp [upd, List.range_succ]) (by rw [List.range_succ, List.map_append, ← List.append_assoc]; exact hn8) (fun j hj => by rw [hL2 j hj]; exact hLL j hj) (by omega)
            · exact absurd c5 (rg_m1 (by omega))
        · first | exact absurd c_22 (by decide) | exact absurd (by decide) c_22
      · first | exact absurd c_21 (by decide) | exact absurd (by decide) c_21
    · rw [hXe] at hS
      exact absurd (show T 4 (5 * G.1 1 k + q) = 3 from hS) (by omega)

set_option maxHeartbeats 4000000 in
set_option maxRecDepth 100000 in
theorem cR_write (l : Launch) (D : va_G) (t : Nat → ClassId) (A : Nat → Prop) (f : rl_M) (z : Nat) (m : Nat) (T : Nat → Nat → Nat) (ρ κ : Nat) (G : pG) (hS : RS t f m T ρ κ G) (hρ : ρ + 84 ≤ 43100) (hκ : κ + 51 ≤ 26200) (x1 : Int32) : rl_Met l yX12_write (.code yX12_write cX12_write 4 (some FieldType.int)) (rl_rm 3 0 0) D t A f z [.ref (m), .int (x1)] (rl_qi z fun r f1 => ∃ ρ' κ' G', f_write T ρ κ G x1 = (r, ρ', κ', G') ∧ ρ' ≤ ρ + 84 ∧ κ' ≤ κ + 51 ∧ RS t f1 m T ρ' κ' G') := by
  obtain ⟨I, L, F, hR, hTc, hTp, hTk, hGW, hGr, hGd, hGp, hGt, hGc, hF11, hF14⟩ := hS
  refine rl_begin (own := RX12) (lv := [(0, .ref (m)), (1, .int (x1))]) (by decide +kernel) rfl (Nat.le_of_ble_eq_true rfl) rfl fun p e s m0 args below meth c ls H locs hC hr hlk hnm hW hl hx hb => ?_
  refine lv_iload_n hx hb dX12_write_0 rfl (lv_at hl 1 rfl) ?_
  refine rl_calliQ (rl_runS (As := [.int (x1)]) (rest := []) hC hW (cR_isPlace l D t A _ z _) cs_X12_148 sm_X12_isPlace ⟨(Nat.le_of_ble_eq_true rfl), (Nat.le_of_ble_eq_true rfl)⟩ rfl hl.1 rfl (Nat.le_of_ble_eq_true rfl) dX12_write_1 ⟨(Nat.le_of_ble_eq_true rfl), (Nat.le_of_ble_eq_true rfl)⟩) hW (fun r f1 H locs hp hW => ?_)
  obtain ⟨rfl, hp⟩ := hp
  rcases hp with ⟨rfl, hp⟩ | ⟨rfl, hp⟩
  · obtain ⟨p0, hp0, rfl⟩ := hp
    refine lv_if_eq (tgt := 21) hx hb dX12_write_4 (by decide) (fun c9 => ?_) (fun c9 => ?_)
    · exact absurd c9 (by decide)
    · refine lv_aload_n hx hb dX12_write_7 rfl (lv_at hl 0 rfl) ?_
      refine lv_aload_n hx hb dX12_write_8 rfl (lv_at hl 0 rfl) ?_
      refine rl_get (v := .ref (m + 18)) hC hW fl_X12_66 hR.1 rfl dX12_write_9 ?_
      refine lv_iload_n hx hb dX12_write_12 rfl (lv_at hl 1 rfl) ?_
      refine rl_iald_n (g := I 19) hC hW hR.a19 (by omega) (by decide) dX12_write_13 ?_
      refine rl_calliQ (rl_runV (b := m) (As := [.int (I 19 (p0))]) (rest := []) hC hW (cR_familyOf l D t A _ z m _ L F hR T (fun n hn => ⟨(hTc.2.2.2 n hn).2.1, (hTc.2.2.2 n hn).2.2.1⟩) ρ κ (by omega) (by omega) _ _ (hGp.1 p0 hp0) (hGW.2.2.1 p0 hp0)) cs_X12_160 im_X12_familyOf sl_X12_familyOf hR.1 rfl ⟨(Nat.le_of_ble_eq_true rfl), (Nat.le_of_ble_eq_true rfl)⟩ rfl hl.1 rfl (Nat.le_of_ble_eq_true rfl) dX12_write_14 ⟨(Nat.le_of_ble_eq_true rfl), (Nat.le_of_ble_eq_true rfl)⟩) hW (fun r f1 H locs hp hW => ?_)
      obtain ⟨rfl, hp⟩ := hp
      rcases hp with ⟨hh, rfl⟩ | ⟨n0, hn0, hh, ⟨rfl, -⟩ | ⟨rfl, -⟩⟩ | ⟨n0, hn0, hh, rfl⟩ | ⟨n0, hn0, hh, rfl⟩
      · refine lv_iconst (v := (nI (4))) hx hb dX12_write_17 (by decide) ?_
        refine lv_icmp_eq (tgt := 23) hx hb dX12_write_18 (by decide) (fun c_1 => ?_) (fun c_1 => ?_)
        · first | exact absurd c_1 (by decide) | exact absurd (by decide) c_1
        · refine lv_iconst (v := (-1)) hx hb dX12_write_21 (by decide) ?_
          exact rl_iret hC hW hr hlk (Nat.le_refl _) (Nat.le_refl _) ⟨_, rfl, rfl, rfl, ρ, κ, G, (by simp only [f_write, ob, pu_ix_s hp0 (by decide), hh]), by omega, by omega, ⟨_, _, _, hR, hTc, hTp, hTk, hGW, hGr, hGd, hGp, hGt, hGc, hF11, hF14⟩⟩ dX12_write_22
      · refine lv_iconst (v := (nI (4))) hx hb dX12_write_17 (by decide) ?_
        refine lv_icmp_eq (tgt := 23) hx hb dX12_write_18 (by decide) (fun c_2 => ?_) (fun c_2 => ?_)
        · first | exact absurd c_2 (by decide) | exact absurd (by decide) c_2
        · refine lv_iconst (v := (-1)) hx hb dX12_write_21 (by decide) ?_
          exact rl_iret hC hW hr hlk (Nat.le_refl _) (Nat.le_refl _) ⟨_, rfl, rfl, rfl, ρ, κ, G, (by simp only [f_write, ob, pu_ix_s hp0 (by decide), hh]), by omega, by omega, ⟨_, _, _, hR, hTc, hTp, hTk, hGW, hGr, hGd, hGp, hGt, hGc, hF11, hF14⟩⟩ dX12_write_22
      · refine lv_iconst (v := (nI (4))) hx hb dX12_write_17 (by decide) ?_
        refine lv_icmp_eq (tgt := 23) hx hb dX12_write_18 (by decide) (fun c_3 => ?_) (fun c_3 => ?_)
        · first | exact absurd c_3 (by decide) | exact absurd (by decide) c_3
        · refine lv_iconst (v := (-1)) hx hb dX12_write_21 (by decide) ?_
          exact rl_iret hC hW hr hlk (Nat.le_refl _) (Nat.le_refl _) ⟨_, rfl, rfl, rfl, ρ, κ, G, (by simp only [f_write, ob, pu_ix_s hp0 (by decide), hh]), by omega, by omega, ⟨_, _, _, hR, hTc, hTp, hTk, hGW, hGr, hGd, hGp, hGt, hGc, hF11, hF14⟩⟩ dX12_write_22
      · refine lv_iconst (v := (nI (4))) hx hb dX12_write_17 (by decide) ?_
        refine lv_icmp_eq (tgt := 23) hx hb dX12_write_18 (by decide) (fun c_4 => ?_) (fun c_4 => ?_)
        · first | exact absurd c_4 (by decide) | exact absurd (by decide) c_4
        · refine lv_iconst (v := (-1)) hx hb dX12_write_21 (by decide) ?_
          exact rl_iret hC hW hr hlk (Nat.le_refl _) (Nat.le_refl _) ⟨_, rfl, rfl, rfl, ρ, κ, G, (by simp only [f_write, ob, pu_ix_s hp0 (by decide), hh]), by omega, by omega, ⟨_, _, _, hR, hTc, hTp, hTk, hGW, hGr, hGd, hGp, hGt, hGc, hF11, hF14⟩⟩ dX12_write_22
      · have he : I 19 p0 = nI (1000000 + n0) := by rw [hGp.1 p0 hp0, hh]; rfl
        refine lv_iconst (v := (nI (4))) hx hb dX12_write_17 (by decide) ?_
        refine lv_icmp_eq (tgt := 23) hx hb dX12_write_18 (by decide) (fun c2 => ?_) (fun c2 => ?_)
        · refine lv_aload_n hx hb dX12_write_23 rfl (lv_at hl 0 rfl) ?_
          refine lv_iconst (v := (nI (0))) hx hb dX12_write_24 (by decide) ?_
          refine rl_put (v := .int (nI (0))) hC hW fp_X12_220 hR.1 (Nat.le_of_ble_eq_true rfl) rfl rfl dX12_write_25 (fun H locs hW => ?_)
          have hR := hR.f37 (nI (0))
          refine lv_aload_n hx hb dX12_write_28 rfl (lv_at hl 0 rfl) ?_
          refine lv_iconst (v := (nI (0))) hx hb dX12_write_29 (by decide) ?_
          refine lv_aload_n hx hb dX12_write_30 rfl (lv_at hl 0 rfl) ?_
          refine rl_get (v := .ref (m + 18)) hC hW fl_X12_66 hR.1 rfl dX12_write_31 ?_
          refine lv_iload_n hx hb dX12_write_34 rfl (lv_at hl 1 rfl) ?_
          refine rl_iald_n (g := I 19) hC hW hR.a19 (by omega) (by decide) dX12_write_35 ?_
          refine rl_topn (he) ?_
          refine lv_ldc (v := nI 1000000) hx hb hC.2.2.2.1 (hC.2.2.2.2.1 _ (List.mem_cons_of_mem _ mw_859)) dX12_write_36 ?_
          refine lv_isub hx hb dX12_write_38 ?_
          refine rl_topn (rg_sub (c := n0) (by omega)) ?_
          refine rl_calliQ (rl_runV (b := m) (As := [.int (nI (0)), .int (nI (n0))]) (rest := []) hC hW (cR_begins l D t A _ z m _ _ _ hR T ρ κ G (by omega) (by omega) hTc hTp hGW hGr hGd 0 n0 [] (by decide) hn0 (by decide) rfl (fun k hk => absurd hk (Nat.not_lt_zero _))) cs_X12_229 im_X12_begins sl_X12_begins hR.1 rfl ⟨(Nat.le_of_ble_eq_true rfl), (Nat.le_of_ble_eq_true rfl)⟩ rfl hl.1 rfl (Nat.le_of_ble_eq_true rfl) dX12_write_39 ⟨(Nat.le_of_ble_eq_true rfl), (Nat.le_of_ble_eq_true rfl)⟩) hW (fun r f1 H locs hp hW => ?_)
          obtain ⟨rfl, L1, hR, gL1, hn8⟩ := hp
          refine lv_istore_n (lv' := [(2, .int (nI (0 + 1))), (0, .ref (m)), (1, .int (nI (p0)))]) hx hb dX12_write_42 rfl hl (by decide) rfl (fun ls hl => ?_)
          replace hl : lv_has ls 4 [(0, .ref (m)), (1, .int (nI (p0))), (2, .int (nI (0 + 1)))] := lv_sub hl [1, 2, 0] rfl
          have hinv : ∃ f2 : rl_M, ∃ I' : Nat → Nat → Int32, ∃ L' : Nat → Nat → Int64, ∃ F' : Nat → Int32, ∃ d : Nat, ∃ SK SQ : Nat → Nat, ∃ ws : List Int64, rl_W D A f2 z s.heap H locs ∧ RM t f2 m I' L' F' ∧ (∀ j, j ≠ 39 → j ≠ 40 → I' j = I j) ∧ (∀ j, j ≠ 38 → L' j = L j) ∧ (∀ j, j ≠ 37 → F' j = F j) ∧ F' 37 = nI ws.length ∧ rf_n8 ws (L' 38) ∧ 5 * d ≤ ws.length + 3 ∧ ws.length ≤ 262 ∧ rf_wr κ d G SK SQ (I' 39) (I' 40) ∧ rf_tot T G n0 d SK SQ ws ∧ lv_has ls 4 [(0, .ref (m)), (1, .int (nI (p0))), (2, .int (nI (d)))] := ⟨_, _, _, _, 0 + 1, va_up (fun _ => 0) 0 n0, va_up (fun _ => 0) 0 0, _, hW, hR, fun j h1 h2 => by rw [va_up_n _ _ h2, va_up_n _ _ h1], gL1, fun j h1 => by rw [rg_upl h1, rg_upl h1, rg_upl h1], rfl, hn8, (show 5 ≤ 5 from Nat.le_refl _), (show 2 ≤ 262 by decide), rf_wr.push (d := 0) (fun i hi => absurd hi (Nat.not_lt_zero _)) hn0, rf_tot.start, hl⟩
          clear hW hR hl hn8
          obtain ⟨f2, I', L', F', d, SK, SQ, ws, hW, hR, hsI, hsL, hsF, hF37, hn8, hdw, hw0, hwr, htot, hl⟩ := hinv
          obtain ⟨n, hn⟩ : ∃ n, 2 * (300 - ws.length) + d < n := ⟨_, Nat.lt_succ_self _⟩
          induction n generalizing f2 I' L' F' d SK SQ ws H locs ls with
          | zero => exact absurd hn (Nat.not_lt_zero _)
          | succ n ih =>
            have hTc' : RTc T (I' 0) (I' 1) (I' 2) := (by rw [hsI 0 (by decide) (by decide), hsI 1 (by decide) (by decide), hsI 2 (by decide) (by decide)]; exact hTc)
            have hTp' : RTp T (I' 3) (I' 4) (I' 5) (I' 6) := (by rw [hsI 3 (by decide) (by decide), hsI 4 (by decide) (by decide), hsI 5 (by decide) (by decide), hsI 6 (by decide) (by decide)]; exact hTp)
            have hTk' : RTk T (I' 7) (I' 8) (I' 9) (I' 10) := (by rw [hsI 7 (by decide) (by decide), hsI 8 (by decide) (by decide), hsI 9 (by decide) (by decide), hsI 10 (by decide) (by decide)]; exact hTk)
            have hGr' : RGr ρ G (I' 12) (I' 13) := (by rw [hsI 12 (by decide) (by decide), hsI 13 (by decide) (by decide)]; exact hGr)
            have hGd' : RGd κ G (I' 15) (I' 16) (L' 17) (I' 18) := (by rw [hsI 15 (by decide) (by decide), hsI 16 (by decide) (by decide), hsI 18 (by decide) (by decide), hsL 17 (by decide)]; exact hGd)
            have hGp' : RGp G (I' 19) (L' 20) (I' 21) := (by rw [hsI 19 (by decide) (by decide), hsI 21 (by decide) (by decide), hsL 20 (by decide)]; exact hGp)
            have hGt' : RGt G (F' 22) (L' 23) := (by rw [hsL 23 (by decide), hsF 22 (by decide)]; exact hGt)
            have hF11' : F' 11 = nI ρ := (by rw [hsF 11 (by decide)]; exact hF11)
            have hF14' : F' 14 = nI κ := (by rw [hsF 14 (by decide)]; exact hF14)
            have hGc' : RGc G F' := by unfold RGc; rw [hsF 24 (by decide), hsF 25 (by decide), hsF 26 (by decide), hsF 28 (by decide), hsF 29 (by decide), hsF 30 (by decide)]; exact hGc
            refine lv_iload_n hx hb dX12_write_43 rfl (lv_at hl 2 rfl) ?_
            refine lv_if_le (tgt := 96) hx hb dX12_write_44 (by decide) (fun c3 => ?_) (fun c3 => ?_)
            · refine lv_aload_n hx hb dX12_write_96 rfl (lv_at hl 0 rfl) ?_
              refine rl_get (v := .int (F' 37)) hC hW fl_X12_220 hR.1 rfl dX12_write_97 ?_
              refine rl_topn (y := nI (ws.length)) (hF37) ?_
              refine lv_sipush (v := (nI (250))) hx hb dX12_write_100 (by decide) ?_
              refine lv_icmp_le (tgt := 109) hx hb dX12_write_103 (by decide) (fun c8 => ?_) (fun c8 => ?_)
              · have hw250 : ws.length ≤ 250 := rg_le c8 (by omega) (by decide)
                have hd0 : d = 0 := by have := rg_le (a := d) (b := 0) c3 (by omega) (by decide); omega
                have hwe : ws = pu_wl T G 50 n0 := by
                  rcases htot with ⟨q, -⟩ | q
                  · rw [hd0] at q; simpa [rf_rest] using q
                  · omega
                clear ih hn
                refine lv_aload_n hx hb dX12_write_109 rfl (lv_at hl 0 rfl) ?_
                refine lv_aload_n hx hb dX12_write_110 rfl (lv_at hl 0 rfl) ?_
                refine rl_get (v := .int (F' 37)) hC hW fl_X12_220 hR.1 rfl dX12_write_111 ?_
                refine rl_topn (y := nI (ws.length)) (hF37) ?_
                refine rl_put (v := .int (nI (ws.length))) hC hW fp_X12_235 hR.1 (Nat.le_of_ble_eq_true rfl) rfl rfl dX12_write_114 (fun H locs hW => ?_)
                have hR := hR.f22 (nI (ws.length))
                refine lv_iconst (v := (nI (0))) hx hb dX12_write_117 (by decide) ?_
                refine lv_istore_n (lv' := [(3, .int (nI (0))), (0, .ref (m)), (1, .int (nI (p0))), (2, .int (nI (d)))]) hx hb dX12_write_118 rfl hl (by decide) rfl (fun ls hl => ?_)
                replace hl : lv_has ls 4 [(0, .ref (m)), (1, .int (nI (p0))), (3, .int (nI (0)))] := lv_sub hl [1, 2, 0] rfl
                have hinv : ∃ f3 : rl_M, ∃ g : Nat → Int64, ∃ i : Nat, rl_W D A f3 z s.heap H locs ∧ RM t f3 m I' (va_up L' 23 g) (upd F' 22 (nI ws.length)) ∧ i ≤ ws.length ∧ (∀ k, k < i → g k = ws.getD k 0) ∧ lv_has ls 4 [(0, .ref (m)), (1, .int (nI (p0))), (3, .int (nI (i)))] := ⟨_, _, 0, hW, RM.eq rfl (va_up_same L' 23) hR, Nat.zero_le _, fun _ h => absurd h (Nat.not_lt_zero _), hl⟩
                clear hW hR hl
                obtain ⟨f3, g, i, hW, hR, hiw, hgi, hl⟩ := hinv
                obtain ⟨n, hn⟩ : ∃ n, ws.length - i < n := ⟨_, Nat.lt_succ_self _⟩
                induction n generalizing f3 g i H locs ls with
                | zero => exact absurd hn (Nat.not_lt_zero _)
                | succ n ih =>
                  refine lv_iload_n hx hb dX12_write_119 rfl (lv_at hl 2 rfl) ?_
                  refine lv_aload_n hx hb dX12_write_120 rfl (lv_at hl 0 rfl) ?_
                  refine rl_get (v := .int (F' 37)) hC hW fl_X12_220 hR.1 rfl dX12_write_121 ?_
                  refine rl_topn (y := nI (ws.length)) (hF37) ?_
                  refine lv_icmp_ge (tgt := 145) hx hb dX12_write_124 (by decide) (fun c9 => ?_) (fun c9 => ?_)
                  · have hie := rg_le c9 (by omega) (by omega)
                    refine lv_aload_n hx hb dX12_write_145 rfl (lv_at hl 0 rfl) ?_
                    refine rl_get (v := .int (nI (ws.length))) hC hW fl_X12_235 hR.1 rfl dX12_write_146 ?_
                    exact rl_iret hC hW hr hlk (Nat.le_refl _) (Nat.le_refl _) ⟨_, rfl, rfl, rfl, ρ, κ, gN (gZ G 2 (fun k => ws.getD k 0)) 4 (fun _ => ws.length), (by simp only [f_write, ob, pu_ix_s hp0 (by decide), hh]; rw [if_neg (by rw [← hwe]; omega), ← hwe]), by omega, by omega, ⟨_, _, _, hR, hTc', hTp', hTk', hGW.lv hw250, hGr', hGd', hGp', ⟨rfl, fun k hk => hgi k (by have : k < ws.length := hk; omega)⟩, hGc', hF11', hF14'⟩⟩ dX12_write_149
                  · have hlt : i < ws.length := rg_lt c9 (by omega) (by omega)
                    refine lv_aload_n hx hb dX12_write_127 rfl (lv_at hl 0 rfl) ?_
                    refine rl_get (v := .ref (m + 21)) hC hW fl_X12_75 hR.1 rfl dX12_write_128 ?_
                    refine lv_iload_n hx hb dX12_write_131 rfl (lv_at hl 2 rfl) ?_
                    refine lv_aload_n hx hb dX12_write_132 rfl (lv_at hl 0 rfl) ?_
                    refine rl_get (v := .ref (m + 27)) hC hW fl_X12_97 hR.1 rfl dX12_write_133 ?_
                    refine lv_iload_n hx hb dX12_write_136 rfl (lv_at hl 2 rfl) ?_
                    refine rl_lald_n (g := L' 38) hC hW hR.a38 (by omega) (by decide) dX12_write_137 ?_
                    refine rl_last_n (g := g) hC hW hR.a23 (by omega) (by decide) dX12_write_138 (fun H locs hW => ?_)
                    have hR := hR.s23 (vp_updL (g) (i) (L' 38 (i)))
                    refine lv_iinc (v := (nI ((i) + 1))) (lv' := [(3, .int (nI ((i) + 1))), (0, .ref (m)), (1, .int (nI (p0)))]) hx hb dX12_write_139 hl (k := 2) rfl (nI_1 _) (by decide) rfl (fun ls hl => ?_)
                    refine lv_goto (tgt := 119) hx hb dX12_write_142 (by decide) ?_
                    replace hl : lv_has ls 4 [(0, .ref (m)), (1, .int (nI (p0))), (3, .int (nI ((i) + 1)))] := lv_sub hl [1, 2, 0] rfl
                    replace hR := RM.eq rfl (va_up_up L' 23 g _).symm hR
                    exact ih _ _ _ _ _ (i + 1) hW hR (by omega) (rg_step (fun k hk => by unfold vp_updL; rw [if_neg (by omega)]; exact hgi k hk) (by unfold vp_updL; rw [if_pos rfl]; exact hn8 i hlt (by omega))) hl (by omega)
              · have hgt : 250 < ws.length := Nat.lt_of_not_le (fun q => c8 ((nI_leI (by omega) (by decide)).mpr q))
                have hwl : 250 < (pu_wl T G 50 n0).length := by
                  rcases htot with ⟨q, -⟩ | q
                  · rw [← q, List.length_append]; omega
                  · exact q.2
                refine lv_bipush (v := (-2)) hx hb dX12_write_106 (by decide) ?_
                exact rl_iret hC hW hr hlk (Nat.le_refl _) (Nat.le_refl _) ⟨_, rfl, rfl, rfl, ρ, κ, G, (by simp only [f_write, ob, pu_ix_s hp0 (by decide), hh]; rw [if_pos hwl]), by omega, by omega, ⟨_, _, _, hR, hTc', hTp', hTk', hGW, hGr', hGd', hGp', hGt', hGc', hF11', hF14'⟩⟩ dX12_write_108
            · refine lv_aload_n hx hb dX12_write_47 rfl (lv_at hl 0 rfl) ?_
              refine rl_get (v := .int (F' 37)) hC hW fl_X12_220 hR.1 rfl dX12_write_48 ?_
              refine rl_topn (y := nI (ws.length)) (hF37) ?_
              refine lv_sipush (v := (nI (250))) hx hb dX12_write_51 (by decide) ?_
              refine lv_icmp_gt (tgt := 96) hx hb dX12_write_54 (by decide) (fun c4 => ?_) (fun c4 => ?_)
              · refine lv_aload_n hx hb dX12_write_96 rfl (lv_at hl 0 rfl) ?_
                refine rl_get (v := .int (F' 37)) hC hW fl_X12_220 hR.1 rfl dX12_write_97 ?_
                refine rl_topn (y := nI (ws.length)) (hF37) ?_
                refine lv_sipush (v := (nI (250))) hx hb dX12_write_100 (by decide) ?_
                refine lv_icmp_le (tgt := 109) hx hb dX12_write_103 (by decide) (fun c8 => ?_) (fun c8 => ?_)
                · have hw250 : ws.length ≤ 250 := rg_le c8 (by omega) (by decide)
                  exact absurd ((nI_ltI (by decide) (by omega)).mp c4) (by omega)
                · have hgt : 250 < ws.length := Nat.lt_of_not_le (fun q => c8 ((nI_leI (by omega) (by decide)).mpr q))
                  have hwl : 250 < (pu_wl T G 50 n0).length := by
                    rcases htot with ⟨q, -⟩ | q
                    · rw [← q, List.length_append]; omega
                    · exact q.2
                  refine lv_bipush (v := (-2)) hx hb dX12_write_106 (by decide) ?_
                  exact rl_iret hC hW hr hlk (Nat.le_refl _) (Nat.le_refl _) ⟨_, rfl, rfl, rfl, ρ, κ, G, (by simp only [f_write, ob, pu_ix_s hp0 (by decide), hh]; rw [if_pos hwl]), by omega, by omega, ⟨_, _, _, hR, hTc', hTp', hTk', hGW, hGr', hGd', hGp', hGt', hGc', hF11', hF14'⟩⟩ dX12_write_108
              · have hw250 : ws.length ≤ 250 := Nat.le_of_not_lt (fun q => c4 ((nI_ltI (by decide) (by omega)).mpr q))
                have hd0 : d ≠ 0 := fun q => c3 (by rw [q]; decide)
                obtain ⟨d, rfl⟩ : ∃ e, d = e + 1 := ⟨d - 1, by omega⟩
                obtain ⟨hk, e39, e40, hqp⟩ := hwr d (by omega)
                obtain ⟨-, h16b, -⟩ := hGd' _ hk
                obtain ⟨hsh2, hpn2, -⟩ := hGW.2.1 _ hk
                have h5 := (hTp.1 _ hsh2).2
                refine lv_aload_n hx hb dX12_write_57 rfl (lv_at hl 0 rfl) ?_
                refine rl_get (v := .ref (m + 29)) hC hW fl_X12_103 hR.1 rfl dX12_write_58 ?_
                refine lv_iload_n hx hb dX12_write_61 rfl (lv_at hl 2 rfl) ?_
                refine lv_iconst (v := (nI (1))) hx hb dX12_write_62 (by decide) ?_
                refine lv_isub hx hb dX12_write_63 ?_
                refine rl_topn (rg_sub (c := d) (by omega)) ?_
                refine rl_iald_n (g := I' 40) hC hW hR.a40 (by omega) (by decide) dX12_write_64 ?_
                refine rl_topn (e40) ?_
                refine lv_aload_n hx hb dX12_write_65 rfl (lv_at hl 0 rfl) ?_
                refine rl_get (v := .ref (m + 15)) hC hW fl_X12_55 hR.1 rfl dX12_write_66 ?_
                refine lv_aload_n hx hb dX12_write_69 rfl (lv_at hl 0 rfl) ?_
                refine rl_get (v := .ref (m + 28)) hC hW fl_X12_100 hR.1 rfl dX12_write_70 ?_
                refine lv_iload_n hx hb dX12_write_73 rfl (lv_at hl 2 rfl) ?_
                refine lv_iconst (v := (nI (1))) hx hb dX12_write_74 (by decide) ?_
                refine lv_isub hx hb dX12_write_75 ?_
                refine rl_topn (rg_sub (c := d) (by omega)) ?_
                refine rl_iald_n (g := I' 39) hC hW hR.a39 (by omega) (by decide) dX12_write_76 ?_
                refine rl_topn (e39) ?_
                refine rl_iald_n (g := I' 16) hC hW hR.a16 (by omega) (by decide) dX12_write_77 ?_
                refine rl_topn (h16b) ?_
                refine lv_icmp_ne (tgt := 87) hx hb dX12_write_78 (by decide) (fun c5 => ?_) (fun c5 => ?_)
                · have hqn0 : SQ d ≠ G.1 2 (SK d) := fun e => c5 (by rw [e])
                  have hqn : SQ d < G.1 2 (SK d) := by omega
                  refine lv_aload_n hx hb dX12_write_87 rfl (lv_at hl 0 rfl) ?_
                  refine lv_iload_n hx hb dX12_write_88 rfl (lv_at hl 2 rfl) ?_
                  refine rl_calliQ (rl_runV (b := m) (As := [.int (nI (d + 1))]) (rest := []) hC hW (cR_writePart l D t A _ z m I' L' F' hR T ρ κ G (by omega) (by omega) hTc' hTp' hGW hGr' hGd' d (SK d) (SQ d) ws (by omega) hk e39 e40 hqn (by omega) hF37 hn8) cs_X12_232 im_X12_writePart sl_X12_writePart hR.1 rfl ⟨(Nat.le_of_ble_eq_true rfl), (Nat.le_of_ble_eq_true rfl)⟩ rfl hl.1 rfl (Nat.le_of_ble_eq_true rfl) dX12_write_89 ⟨(Nat.le_of_ble_eq_true rfl), (Nat.le_of_ble_eq_true rfl)⟩) hW (fun r f1 H locs hp hW => ?_)
                  obtain ⟨I2, L2, F2, w2, hR, gI, gL, gF, g37, g8, gw1, gw2, gd⟩ := hp
                  rcases gd with ⟨rfl, g39, g40, gws⟩ | ⟨n9, hn9, hx9, hnn, rfl, g39, g40, gws, gl5⟩
                  · refine lv_istore_n (lv' := [(2, .int (nI (d + 1))), (0, .ref (m)), (1, .int (nI (p0)))]) hx hb dX12_write_92 rfl hl (by decide) rfl (fun ls hl => ?_)
                    refine lv_goto (tgt := 43) hx hb dX12_write_93 (by decide) ?_
                    replace hl : lv_has ls 4 [(0, .ref (m)), (1, .int (nI (p0))), (2, .int (nI (d + 1)))] := lv_sub hl [1, 2, 0] rfl
                    exact ih _ _ _ _ I2 L2 F2 (d + 1) SK (va_up SQ d (SQ d + 1)) w2 hW hR (fun j h1 h2 => by rw [gI j h1 h2]; exact hsI j h1 h2) (fun j h1 => by rw [gL j h1]; exact hsL j h1) (fun j h1 => by rw [gF j h1]; exact hsF j h1) g37 g8 (by omega) (by omega) (by rw [g39, g40]; exact hwr.next hqn) (htot.part hqn gws) hl (by omega)
                  · refine lv_istore_n (lv' := [(2, .int (nI (d + 1 + 1))), (0, .ref (m)), (1, .int (nI (p0)))]) hx hb dX12_write_92 rfl hl (by decide) rfl (fun ls hl => ?_)
                    refine lv_goto (tgt := 43) hx hb dX12_write_93 (by decide) ?_
                    replace hl : lv_has ls 4 [(0, .ref (m)), (1, .int (nI (p0))), (2, .int (nI (d + 1 + 1)))] := lv_sub hl [1, 2, 0] rfl
                    exact ih _ _ _ _ I2 L2 F2 (d + 1 + 1) (va_up SK (d + 1) n9) (va_up (va_up SQ d (SQ d + 1)) (d + 1) 0) w2 hW hR (fun j h1 h2 => by rw [gI j h1 h2]; exact hsI j h1 h2) (fun j h1 => by rw [gL j h1]; exact hsL j h1) (fun j h1 => by rw [gF j h1]; exact hsF j h1) g37 g8 (by omega) (by omega) (by rw [g39, g40]; exact (hwr.next hqn).push hn9) (htot.push hqn hnn hx9 hdw gws) hl (by omega)
                · refine lv_iinc (v := nI d) (lv' := [(2, .int (nI (d))), (0, .ref (m)), (1, .int (nI (p0)))]) hx hb dX12_write_81 hl (k := 2) rfl (pk_m1 d) (by decide) rfl (fun ls hl => ?_)
                  refine lv_goto (tgt := 43) hx hb dX12_write_84 (by decide) ?_
                  replace hl : lv_has ls 4 [(0, .ref (m)), (1, .int (nI (p0))), (2, .int (nI (d)))] := lv_sub hl [1, 2, 0] rfl
                  exact ih _ _ _ _ I' L' F' d SK SQ ws hW hR hsI hsL hsF hF37 hn8 (by omega) hw0 (hwr.mono (by omega)) (htot.pop ((nI_eq (by omega) (by omega)).mp c5)) hl (by omega)
        · exact absurd (by decide) c2
  · have hq := hp
    refine lv_if_eq (tgt := 21) hx hb dX12_write_4 (by decide) (fun c9 => ?_) (fun c9 => ?_)
    · refine lv_iconst (v := (-1)) hx hb dX12_write_21 (by decide) ?_
      exact rl_iret hC hW hr hlk (Nat.le_refl _) (Nat.le_refl _) ⟨_, rfl, rfl, rfl, ρ, κ, G, (by simp only [f_write, ob, pu_ix_n (n := 10) (by decide) hq]), by omega, by omega, ⟨_, _, _, hR, hTc, hTp, hTk, hGW, hGr, hGd, hGp, hGt, hGc, hF11, hF14⟩⟩ dX12_write_22
    · exact absurd rfl c9
