set_option maxHeartbeats 4000000 in
set_option maxRecDepth 100000 in
theorem cC_item (l : Launch) (D : va_G) (t : Nat → ClassId) (A : Nat → Prop) (f : rl_M) (z : Nat) (x : Nat) (T : Nat → Nat → Nat) (ρ κ : Nat) (G : pG) (E : Nat → Nat → Nat) (hI : CI t f x T ρ κ G E) (hT : rt_ok T) (hG : GW T ρ κ G) (x1 x2 x3 : Int32) : rl_Met l yX11_item (.code yX11_item cX11_item 6 (some FieldType.int)) (rl_rm 3 0 0) D t A f z [.ref (x), .int (x1), .int (x2), .int (x3)] (rl_qi z fun r f1 => ∃ ρ' κ' G' E', f_item ρ κ G x1 x2 x3 = (r, ρ', κ', G') ∧ CI t f1 x T ρ' κ' G' E') := by
  refine rl_begin (own := RX11) (lv := [(0, .ref (x)), (1, .int (x1)), (2, .int (x2)), (3, .int (x3))]) (by decide +kernel) rfl (Nat.le_of_ble_eq_true rfl) rfl fun p e s m0 args below meth c ls H locs hC hr hlk hnm hW hl hx hb => ?_
  replace hI : CJ t _ x T ρ κ G E (G.2.1 0) (G.2.1 0 3) := hI
  obtain ⟨hF0, hEV, hRV, ⟨v5, hx0⟩, ⟨gpl, hpl, hpt⟩, ⟨⟨ggn, hgn, hgnE⟩, ⟨ggp, hgp, hgq⟩⟩, ⟨⟨fz, htp⟩, ⟨glv, hlv, hlvE⟩, ⟨gfr, hfr⟩⟩, hRW, hRC, hIN⟩ := id hI
  refine lv_iload_n hx hb dX11_item_0 rfl (lv_at hl 1 rfl) ?_
  refine lv_bipush (v := (nI (10))) hx hb dX11_item_1 (by decide) ?_
  refine rl_calliQ (rl_runS (As := [.int (x1), .int (nI (10))]) (rest := []) hC hW (cC_below l D t A _ z _ (10) (by omega)) cs_X11_48 sm_X11_below ⟨(Nat.le_of_ble_eq_true rfl), (Nat.le_of_ble_eq_true rfl)⟩ rfl hl.1 rfl (Nat.le_of_ble_eq_true rfl) dX11_item_3 ⟨(Nat.le_of_ble_eq_true rfl), (Nat.le_of_ble_eq_true rfl)⟩) hW (fun r f1 H locs hp hW => ?_)
  obtain ⟨rfl, hp⟩ := hp
  rcases hp with ⟨rfl, hp⟩ | ⟨rfl, hp⟩
  · obtain ⟨p0, hp0, rfl⟩ := hp
    refine lv_if_eq (tgt := 45) hx hb dX11_item_6 (by decide) (fun c9 => ?_) (fun c9 => ?_)
    · exact absurd c9 (by decide)
    · refine lv_aload_n hx hb dX11_item_9 rfl (lv_at hl 0 rfl) ?_
      refine rl_get (v := .ref (x + 52)) hC hW fl_X11_18 hx0 rfl dX11_item_10 ?_
      refine lv_iload_n hx hb dX11_item_13 rfl (lv_at hl 1 rfl) ?_
      refine rl_aald_n 3 hC hW rfl hpl (by omega) (by decide) dX11_item_14 ?_
      obtain ⟨r0, er0⟩ : ∃ r : Option Nat, r = gpl (p0) := ⟨_, rfl⟩
      refine rl_topqq er0.symm ?_
      refine rl_astoreq (lv' := [(5, va_rf (r0)), (0, .ref (x)), (1, .int (nI (p0))), (2, .int (x2)), (3, .int (x3))]) hx hb dX11_item_15 hl (by decide) rfl (fun ls hl => ?_)
      refine rl_aloadq hx hb dX11_item_17 (lv_at hl 0 rfl) ?_
      obtain ⟨hpe, hok0⟩ := hpt p0 hp0
      rcases hok0.cases with hh | ⟨n0, hn0, hh⟩ | ⟨n0, hn0, hh⟩ | ⟨n0, hn0, hh⟩
      · obtain rfl : r0 = none := by rw [er0.trans hpe, hh]; rfl
        refine lv_instN hx hb dX11_item_19 ?_
        refine rl_topn (y := nI 0) (by decide) ?_
        refine lv_if_eq (tgt := 45) hx hb dX11_item_22 (by decide) (fun c_1 => ?_) (fun c_1 => ?_)
        · refine lv_iconst (v := (-1)) hx hb dX11_item_45 (by decide) ?_
          exact rl_iret hC hW hr hlk (Nat.le_refl _) (Nat.le_refl _) ⟨_, rfl, rfl, rfl, ρ, κ, G, E, (by simp only [f_item, ob, pu_ix_s hp0 (by decide), hh]), hI⟩ dX11_item_46
        · first | exact absurd c_1 (by decide) | exact absurd (by decide) c_1
      · obtain rfl : r0 = some (E 0 n0) := by rw [er0.trans hpe, hh]; rfl
        obtain ⟨hx58, h0, h1⟩ := hI.con hn0
        have hlo := (hT.2.2.2.2.2.1 n0 hn0.1).1
        refine rl_instNo hC hW h0 rfl mw_290 (by decide) dX11_item_19 ?_
        refine rl_topn (y := nI 0) (by decide) ?_
        refine lv_if_eq (tgt := 45) hx hb dX11_item_22 (by decide) (fun c_2 => ?_) (fun c_2 => ?_)
        · refine lv_iconst (v := (-1)) hx hb dX11_item_45 (by decide) ?_
          exact rl_iret hC hW hr hlk (Nat.le_refl _) (Nat.le_refl _) ⟨_, rfl, rfl, rfl, ρ, κ, G, E, (by simp only [f_item, ob, pu_ix_s hp0 (by decide), hh]), hI⟩ dX11_item_46
        · first | exact absurd c_2 (by decide) | exact absurd (by decide) c_2
      · obtain rfl : r0 = some (E 1 n0) := by rw [er0.trans hpe, hh]; rfl
        obtain ⟨hx58, h0, g, h1, hgi⟩ := hI.row hn0
        have hn8 := hG.1 n0 hn0
        refine rl_instY hC hW h0 rfl mw_290 mt_996 dX11_item_19 ?_
        refine rl_topn (y := nI 1) (by decide) ?_
        refine lv_if_eq (tgt := 45) hx hb dX11_item_22 (by decide) (fun c8 => ?_) (fun c8 => ?_)
        · exact absurd c8 (by decide)
        · refine lv_aload hx hb dX11_item_25 (lv_at hl 0 rfl) ?_
          refine rl_castY hC hW h0 rfl mw_290 mt_996 dX11_item_27 ?_
          refine lv_astore (lv' := [(4, .ref (E 1 n0)), (5, .ref (E 1 n0)), (0, .ref (x)), (1, .int (nI (p0))), (2, .int (x2)), (3, .int (x3))]) hx hb dX11_item_30 hl (by decide) rfl (fun ls hl => ?_)
          refine lv_iload_n hx hb dX11_item_32 rfl (lv_at hl 4 rfl) ?_
          refine lv_aload hx hb dX11_item_33 (lv_at hl 0 rfl) ?_
          refine rl_get (v := .ref (E 1 n0 + 1)) hC hW fl_X11_108 h0 rfl dX11_item_35 ?_
          refine rl_alen 0 (v := nI (G.1 0 n0)) hC hW rfl h1 rfl dX11_item_38 ?_
          refine rl_calliQ (rl_runS (As := [.int (x2), .int (nI (G.1 0 n0))]) (rest := []) hC hW (cC_below l D t A _ z _ (G.1 0 n0) (by omega)) cs_X11_48 sm_X11_below ⟨(Nat.le_of_ble_eq_true rfl), (Nat.le_of_ble_eq_true rfl)⟩ rfl hl.1 rfl (Nat.le_of_ble_eq_true rfl) dX11_item_39 ⟨(Nat.le_of_ble_eq_true rfl), (Nat.le_of_ble_eq_true rfl)⟩) hW (fun r f1 H locs hp hW => ?_)
          obtain ⟨rfl, hp⟩ := hp
          rcases hp with ⟨rfl, hp⟩ | ⟨rfl, hp⟩
          · obtain ⟨i0, hi0, rfl⟩ := hp
            refine lv_if_ne (tgt := 47) hx hb dX11_item_42 (by decide) (fun c9 => ?_) (fun c9 => ?_)
            · refine lv_aload hx hb dX11_item_47 (lv_at hl 0 rfl) ?_
              refine rl_get (v := .ref (E 1 n0 + 1)) hC hW fl_X11_108 h0 rfl dX11_item_49 ?_
              refine lv_iload_n hx hb dX11_item_52 rfl (lv_at hl 4 rfl) ?_
              refine rl_iald_n hC hW h1 (by omega) (by omega) dX11_item_53 ?_
              refine lv_istore (lv' := [(5, .int (g (i0))), (4, .ref (E 1 n0)), (0, .ref (x)), (1, .int (nI (p0))), (2, .int (nI (i0))), (3, .int (x3))]) hx hb dX11_item_54 hl (by decide) rfl (fun ls hl => ?_)
              refine lv_aload hx hb dX11_item_56 (lv_at hl 1 rfl) ?_
              refine rl_get (v := .ref (E 1 n0 + 1)) hC hW fl_X11_108 h0 rfl dX11_item_58 ?_
              refine lv_iload_n hx hb dX11_item_61 rfl (lv_at hl 4 rfl) ?_
              refine lv_iload_n hx hb dX11_item_62 rfl (lv_at hl 5 rfl) ?_
              have hgii := hgi i0 hi0
              refine rl_iast_n hC hW h1 (by omega) (by omega) dX11_item_63 (fun H locs hW => ?_)
              replace hI := hI.item (i := i0) (v := x3) hn0 hi0 hG.1 h1
              refine lv_iload hx hb dX11_item_64 (lv_at hl 0 rfl) ?_
              exact rl_iret hC hW hr hlk (Nat.le_refl _) (Nat.le_refl _) ⟨_, rfl, rfl, rfl, ρ, κ, gY G 1 (upd (G.2.1 1) (8 * n0 + i0) x3), E, (by simp only [f_item, ob, pu_ix_s hp0 (by decide), hh, pu_ix_s hi0 (show G.1 0 n0 < 2 ^ 31 by omega)]; rw [hgii]), hI⟩ dX11_item_66
            · exact absurd c9 (by decide)
          · have hq := hp
            refine lv_if_ne (tgt := 47) hx hb dX11_item_42 (by decide) (fun c9 => ?_) (fun c9 => ?_)
            · exact absurd rfl c9
            · refine lv_iconst (v := (-1)) hx hb dX11_item_45 (by decide) ?_
              exact rl_iret hC hW hr hlk (Nat.le_refl _) (Nat.le_refl _) ⟨_, rfl, rfl, rfl, ρ, κ, G, E, (by simp only [f_item, ob, pu_ix_s hp0 (by decide), hh, pu_ix_n (n := G.1 0 n0) (by omega) hq]), hI⟩ dX11_item_46
      · obtain rfl : r0 = some (E 2 n0) := by rw [er0.trans hpe, hh]; rfl
        obtain ⟨hx58, h0, ⟨gn, h1, hgn⟩, ⟨gt, h2, hgt⟩⟩ := hI.rec hn0
        obtain ⟨hj, hnT, -⟩ := hG.2.1 n0 hn0
        obtain ⟨hrv, hj5, hj2, hpa, hka⟩ := id (hI.2.2.1 _ hj)
        refine rl_instNo hC hW h0 rfl mw_290 (by decide) dX11_item_19 ?_
        refine rl_topn (y := nI 0) (by decide) ?_
        refine lv_if_eq (tgt := 45) hx hb dX11_item_22 (by decide) (fun c_3 => ?_) (fun c_3 => ?_)
        · refine lv_iconst (v := (-1)) hx hb dX11_item_45 (by decide) ?_
          exact rl_iret hC hW hr hlk (Nat.le_refl _) (Nat.le_refl _) ⟨_, rfl, rfl, rfl, ρ, κ, G, E, (by simp only [f_item, ob, pu_ix_s hp0 (by decide), hh]), hI⟩ dX11_item_46
        · first | exact absurd c_3 (by decide) | exact absurd (by decide) c_3
  · have hq := hp
    refine lv_if_eq (tgt := 45) hx hb dX11_item_6 (by decide) (fun c9 => ?_) (fun c9 => ?_)
    · refine lv_iconst (v := (-1)) hx hb dX11_item_45 (by decide) ?_
      exact rl_iret hC hW hr hlk (Nat.le_refl _) (Nat.le_refl _) ⟨_, rfl, rfl, rfl, ρ, κ, G, E, (by simp only [f_item, ob, pu_ix_n (n := 10) (by decide) hq]), hI⟩ dX11_item_46
    · exact absurd rfl c9

theorem rg_cut {t : Nat → ClassId} {f : rl_M} {x : Nat} {T : Nat → Nat → Nat} {ρ κ : Nat} {G : pG} {E : Nat → Nat → Nat} {g : Nat → Int32} {mo : Int32} {n : Nat} {gl : Nat → Int64} (h : CJ t f x T ρ κ (gN (gZ G 2 gl) 4 (fun _ => n)) E g mo) (he : ∀ k, k < n → gl k = G.2.2.1 2 k) : CJ t f x T ρ κ (gN G 4 (fun _ => n)) E g mo := by
  obtain ⟨h1, h2, h3, h4, h5, h6, ⟨h7, ⟨g6, e3, e3'⟩, h7'⟩, h8⟩ := h
  exact ⟨h1, h2, h3, h4, h5, h6, ⟨h7, ⟨g6, e3, fun k hk => (e3' k hk).trans (he k hk)⟩, h7'⟩, h8⟩
theorem rg_max {a b : Nat} (ha : a < 2 ^ 31) (hb : b < 2 ^ 31) : (if nI a < nI b then nI b else nI a) = nI (max a b) := by
  by_cases h : a < b
  · rw [if_pos ((nI_ltI ha hb).mpr h), Nat.max_eq_right (by omega)]
  · rw [if_neg (fun q => h ((nI_ltI ha hb).mp q)), Nat.max_eq_left (by omega)]

set_option maxHeartbeats 4000000 in
set_option maxRecDepth 100000 in
theorem cC_cut (l : Launch) (D : va_G) (t : Nat → ClassId) (A : Nat → Prop) (f : rl_M) (z : Nat) (x : Nat) (T : Nat → Nat → Nat) (ρ κ : Nat) (G : pG) (E : Nat → Nat → Nat) (hI : CI t f x T ρ κ G E) (hT : rt_ok T) (hG : GW T ρ κ G) (x1 : Int32) : rl_Met l yX11_cut (.code yX11_cut cX11_cut 3 (some FieldType.int)) (rl_rm 3 0 0) D t A f z [.ref (x), .int (x1)] (rl_qi z fun r f1 => ∃ ρ' κ' G' E', f_cut ρ κ G x1 = (r, ρ', κ', G') ∧ CI t f1 x T ρ' κ' G' E') := by
  refine rl_begin (own := RX11) (lv := [(0, .ref (x)), (1, .int (x1))]) (by decide +kernel) rfl (Nat.le_of_ble_eq_true rfl) rfl fun p e s m0 args below meth c ls H locs hC hr hlk hnm hW hl hx hb => ?_
  replace hI : CJ t _ x T ρ κ G E (G.2.1 0) (G.2.1 0 3) := hI
  have hl250 := hG.2.2.2.2
  obtain ⟨hF0, hEV, hRV, ⟨v5, hx0⟩, ⟨gpl, hpl, hpt⟩, ⟨⟨ggn, hgn, hgnE⟩, ⟨ggp, hgp, hgq⟩⟩, ⟨⟨fz, htp⟩, ⟨glv, hlv, hlvE⟩, ⟨gfr, hfr⟩⟩, hRW, hRC, hIN⟩ := id hI
  refine lv_iload_n hx hb dX11_cut_0 rfl (lv_at hl 1 rfl) ?_
  refine lv_aload_n hx hb dX11_cut_1 rfl (lv_at hl 0 rfl) ?_
  refine rl_get (v := .ref (x + 55)) hC hW fl_X11_33 hx0 rfl dX11_cut_2 ?_
  refine rl_get (v := .int (nI (G.1 4 0))) hC hW fl_X11_162 htp rfl dX11_cut_5 ?_
  refine lv_iconst (v := (nI (1))) hx hb dX11_cut_8 (by decide) ?_
  refine lv_iadd hx hb dX11_cut_9 ?_
  refine rl_topn (nI_add _ _) ?_
  refine rl_calliQ (rl_runS (As := [.int (x1), .int (nI ((G.1 4 0) + (1)))]) (rest := []) hC hW (cC_below l D t A _ z _ (G.1 4 0 + 1) (by omega)) cs_X11_48 sm_X11_below ⟨(Nat.le_of_ble_eq_true rfl), (Nat.le_of_ble_eq_true rfl)⟩ rfl hl.1 rfl (Nat.le_of_ble_eq_true rfl) dX11_cut_10 ⟨(Nat.le_of_ble_eq_true rfl), (Nat.le_of_ble_eq_true rfl)⟩) hW (fun r f1 H locs hp hW => ?_)
  obtain ⟨rfl, hp⟩ := hp
  rcases hp with ⟨rfl, hp⟩ | ⟨rfl, hp⟩
  · obtain ⟨k0, hk0, rfl⟩ := hp
    refine lv_if_ne (tgt := 18) hx hb dX11_cut_13 (by decide) (fun c9 => ?_) (fun c9 => ?_)
    · refine lv_aload_n hx hb dX11_cut_18 rfl (lv_at hl 0 rfl) ?_
      refine rl_get (v := .ref (x + 55)) hC hW fl_X11_33 hx0 rfl dX11_cut_19 ?_
      refine rl_get (v := .int (nI (G.1 4 0))) hC hW fl_X11_162 htp rfl dX11_cut_22 ?_
      refine lv_iload_n hx hb dX11_cut_25 rfl (lv_at hl 1 rfl) ?_
      refine lv_isub hx hb dX11_cut_26 ?_
      refine lv_istore_n (lv' := [(2, .int ((nI (G.1 4 0)) - (nI (k0)))), (0, .ref (x)), (1, .int (nI (k0)))]) hx hb dX11_cut_27 rfl hl (by decide) rfl (fun ls hl => ?_)
      refine lv_aload_n hx hb dX11_cut_28 rfl (lv_at hl 1 rfl) ?_
      refine rl_get (v := .ref (x + 55)) hC hW fl_X11_33 hx0 rfl dX11_cut_29 ?_
      refine lv_iload_n hx hb dX11_cut_32 rfl (lv_at hl 2 rfl) ?_
      refine rl_put (v := .int (nI (k0))) hC hW fp_X11_162 htp (Nat.le_of_ble_eq_true rfl) rfl rfl dX11_cut_33 (fun H locs hW => ?_)
      replace hW : rl_W D A (rl_up _ (x + 55) (.inr (9, [.ref (x + 56), .ref (x + 57), .int (nI (k0)), .int fz]))) z s.heap H locs := hW
      replace hI := rg_cut (hI.settp (sz := k0) (fz := fz) hlv) (fun k hk => hlvE k (by omega))
      obtain ⟨hF0, hEV, hRV, ⟨v5, hx0⟩, ⟨gpl, hpl, hpt⟩, ⟨⟨ggn, hgn, hgnE⟩, ⟨ggp, hgp, hgq⟩⟩, ⟨⟨fz, htp⟩, ⟨glv, hlv, hlvE⟩, ⟨gfr, hfr⟩⟩, hRW, hRC, hIN⟩ := id hI
      refine lv_iload_n hx hb dX11_cut_36 rfl (lv_at hl 0 rfl) ?_
      exact rl_iret hC hW hr hlk (Nat.le_refl _) (Nat.le_refl _) ⟨_, rfl, rfl, rfl, ρ, κ, gN G 4 (fun _ => k0), E, (by simp only [f_cut, ob, pu_ix_s hk0 (show G.1 4 0 + 1 < 2 ^ 31 by omega)]; first | rfl | rw [rg_sub (a := G.1 4 0) (b := k0) (c := G.1 4 0 - k0) (by omega)]), hI⟩ dX11_cut_37
    · exact absurd c9 (by decide)
  · have hq := hp
    refine lv_if_ne (tgt := 18) hx hb dX11_cut_13 (by decide) (fun c9 => ?_) (fun c9 => ?_)
    · exact absurd rfl c9
    · refine lv_iconst (v := (-1)) hx hb dX11_cut_16 (by decide) ?_
      exact rl_iret hC hW hr hlk (Nat.le_refl _) (Nat.le_refl _) ⟨_, rfl, rfl, rfl, ρ, κ, G, E, (by simp only [f_cut, ob, pu_ix_n (show G.1 4 0 + 1 < 2 ^ 31 by omega) hq]), hI⟩ dX11_cut_17

theorem rg_set {t : Nat → ClassId} {f : rl_M} {x : Nat} {T : Nat → Nat → Nat} {ρ κ : Nat} {G : pG} {E : Nat → Nat → Nat} {g : Nat → Int32} {mo : Int32} {n : Nat} {gl g2 : Nat → Int64} (h : CJ t f x T ρ κ (gN (gZ (gZ G 2 gl) 2 gl) 4 (fun _ => n)) E g mo) (he : ∀ k, k < n → gl k = g2 k) : CJ t f x T ρ κ (gN (gZ G 2 g2) 4 (fun _ => n)) E g mo := by
  obtain ⟨h1, h2, h3, h4, h5, h6, ⟨h7, ⟨g6, e3, e3'⟩, h7'⟩, h8⟩ := h
  exact ⟨h1, h2, h3, h4, h5, h6, ⟨h7, ⟨g6, e3, fun k hk => (e3' k hk).trans (he k hk)⟩, h7'⟩, h8⟩

set_option maxHeartbeats 4000000 in
set_option maxRecDepth 100000 in
theorem cC_set (l : Launch) (D : va_G) (t : Nat → ClassId) (A : Nat → Prop) (f : rl_M) (z : Nat) (x : Nat) (T : Nat → Nat → Nat) (ρ κ : Nat) (G : pG) (E : Nat → Nat → Nat) (hI : CI t f x T ρ κ G E) (hT : rt_ok T) (hG : GW T ρ κ G) (x1 : Int32) (x2 : Int64) : rl_Met l yX11_set (.code yX11_set cX11_set 4 (some FieldType.int)) (rl_rm 3 0 0) D t A f z [.ref (x), .int (x1), .long (x2)] (rl_qi z fun r f1 => ∃ ρ' κ' G' E', f_set ρ κ G x1 x2 = (r, ρ', κ', G') ∧ CI t f1 x T ρ' κ' G' E') := by
  refine rl_begin (own := RX11) (lv := [(0, .ref (x)), (1, .int (x1)), (2, .long (x2))]) (by decide +kernel) rfl (Nat.le_of_ble_eq_true rfl) rfl fun p e s m0 args below meth c ls H locs hC hr hlk hnm hW hl hx hb => ?_
  replace hI : CJ t _ x T ρ κ G E (G.2.1 0) (G.2.1 0 3) := hI
  have hl250 := hG.2.2.2.2
  obtain ⟨hF0, hEV, hRV, ⟨v5, hx0⟩, ⟨gpl, hpl, hpt⟩, ⟨⟨ggn, hgn, hgnE⟩, ⟨ggp, hgp, hgq⟩⟩, ⟨⟨fz, htp⟩, ⟨glv, hlv, hlvE⟩, ⟨gfr, hfr⟩⟩, hRW, hRC, hIN⟩ := id hI
  refine lv_iload_n hx hb dX11_set_0 rfl (lv_at hl 1 rfl) ?_
  refine lv_aload_n hx hb dX11_set_1 rfl (lv_at hl 0 rfl) ?_
  refine rl_get (v := .ref (x + 55)) hC hW fl_X11_33 hx0 rfl dX11_set_2 ?_
  refine rl_get (v := .int (nI (G.1 4 0))) hC hW fl_X11_162 htp rfl dX11_set_5 ?_
  refine lv_iconst (v := (nI (1))) hx hb dX11_set_8 (by decide) ?_
  refine lv_iadd hx hb dX11_set_9 ?_
  refine rl_topn (nI_add _ _) ?_
  refine rl_calliQ (rl_runS (As := [.int (x1), .int (nI ((G.1 4 0) + (1)))]) (rest := []) hC hW (cC_below l D t A _ z _ (G.1 4 0 + 1) (by omega)) cs_X11_48 sm_X11_below ⟨(Nat.le_of_ble_eq_true rfl), (Nat.le_of_ble_eq_true rfl)⟩ rfl hl.1 rfl (Nat.le_of_ble_eq_true rfl) dX11_set_10 ⟨(Nat.le_of_ble_eq_true rfl), (Nat.le_of_ble_eq_true rfl)⟩) hW (fun r f1 H locs hp hW => ?_)
  obtain ⟨rfl, hp⟩ := hp
  rcases hp with ⟨rfl, hp⟩ | ⟨rfl, hp⟩
  · obtain ⟨k0, hk0, rfl⟩ := hp
    refine lv_if_ne (tgt := 18) hx hb dX11_set_13 (by decide) (fun c9 => ?_) (fun c9 => ?_)
    · refine lv_iload_n hx hb dX11_set_18 rfl (lv_at hl 1 rfl) ?_
      refine lv_sipush (v := (nI (250))) hx hb dX11_set_19 (by decide) ?_
      refine lv_icmp_ne (tgt := 28) hx hb dX11_set_22 (by decide) (fun c3 => ?_) (fun c3 => ?_)
      · have hn250 : k0 ≠ 250 := fun q => c3 (by rw [q])
        refine lv_aload_n hx hb dX11_set_28 rfl (lv_at hl 0 rfl) ?_
        refine rl_get (v := .ref (x + 55)) hC hW fl_X11_33 hx0 rfl dX11_set_29 ?_
        refine rl_get (v := .ref (x + 56)) hC hW fl_X11_165 htp rfl dX11_set_32 ?_
        refine lv_iload_n hx hb dX11_set_35 rfl (lv_at hl 1 rfl) ?_
        refine lv_lload_n hx hb dX11_set_36 rfl (lv_at hl 2 rfl) ?_
        refine rl_last_n hC hW hlv (by omega) (by decide) dX11_set_37 (fun H locs hW => ?_)
        replace hI := (hI.setlv (gl := vp_updL glv k0 x2))
        have htp1 : rl_up f (x + 56) (.inl (t 1, 250, .inr (.inl (vp_updL glv k0 x2)))) (x + 55) = _ := (rl_up_n (by omega)).trans htp
        have hx1 : rl_up f (x + 56) (.inl (t 1, 250, .inr (.inl (vp_updL glv k0 x2)))) x = _ := (rl_up_n (by omega)).trans hx0
        refine lv_aload_n hx hb dX11_set_38 rfl (lv_at hl 0 rfl) ?_
        refine rl_get (v := .ref (x + 55)) hC hW fl_X11_33 hx1 rfl dX11_set_39 ?_
        refine lv_aload_n hx hb dX11_set_42 rfl (lv_at hl 0 rfl) ?_
        refine rl_get (v := .ref (x + 55)) hC hW fl_X11_33 hx1 rfl dX11_set_43 ?_
        refine rl_get (v := .int (nI (G.1 4 0))) hC hW fl_X11_162 htp1 rfl dX11_set_46 ?_
        refine lv_iload_n hx hb dX11_set_49 rfl (lv_at hl 1 rfl) ?_
        refine lv_iconst (v := (nI (1))) hx hb dX11_set_50 (by decide) ?_
        refine lv_iadd hx hb dX11_set_51 ?_
        refine rl_topn (nI_add _ _) ?_
        refine rl_mmax (x := nI (G.1 4 0)) (y := nI (k0 + 1)) hC mw_530 hl.1 (Nat.le_of_ble_eq_true rfl) (Nat.le_of_ble_eq_true rfl) (Nat.le_of_ble_eq_true rfl) (Nat.le_of_ble_eq_true rfl) dX11_set_52 ?_
        refine rl_topn (y := nI (max (G.1 4 0) (k0 + 1))) (rg_max (by omega) (by omega)) ?_
        refine rl_put (v := .int (nI (max (G.1 4 0) (k0 + 1)))) hC hW fp_X11_162 htp1 (Nat.le_of_ble_eq_true rfl) rfl rfl dX11_set_55 (fun H locs hW => ?_)
        replace hW : rl_W D A (rl_up _ (x + 55) (.inr (9, [.ref (x + 56), .ref (x + 57), .int (nI (max (G.1 4 0) (k0 + 1))), .int fz]))) z s.heap H locs := hW
        replace hI := hI.settp (sz := max (G.1 4 0) (k0 + 1)) (fz := fz) (rl_up_s _ _ _)
        replace hI : CJ t _ x T ρ κ (gN (gZ G 2 (vp_updL (G.2.2.1 2) k0 x2)) 4 (fun _ => max (G.1 4 0) (k0 + 1))) E (G.2.1 0) (G.2.1 0 3) := rg_set hI (fun k hk => by unfold vp_updL; split; rfl; exact hlvE k (by omega))
        obtain ⟨hF0, hEV, hRV, ⟨v5, hx0⟩, ⟨gpl, hpl, hpt⟩, ⟨⟨ggn, hgn, hgnE⟩, ⟨ggp, hgp, hgq⟩⟩, ⟨⟨fz, htp⟩, ⟨glv, hlv, hlvE⟩, ⟨gfr, hfr⟩⟩, hRW, hRC, hIN⟩ := id hI
        refine lv_aload_n hx hb dX11_set_58 rfl (lv_at hl 0 rfl) ?_
        refine rl_get (v := .ref (x + 55)) hC hW fl_X11_33 hx0 rfl dX11_set_59 ?_
        refine rl_get (v := .int (nI ((gN (gZ G 2 (vp_updL (G.2.2.1 2) k0 x2)) 4 (fun _ => max (G.1 4 0) (k0 + 1))).1 4 0))) hC hW fl_X11_162 htp rfl dX11_set_62 ?_
        exact rl_iret hC hW hr hlk (Nat.le_refl _) (Nat.le_refl _) ⟨_, rfl, rfl, rfl, ρ, κ, gN (gZ G 2 (vp_updL (G.2.2.1 2) k0 x2)) 4 (fun _ => max (G.1 4 0) (k0 + 1)), E, (by simp only [f_set, ob, pu_ix_s hk0 (show G.1 4 0 + 1 < 2 ^ 31 by omega)]; rw [if_neg hn250]; rfl), hI⟩ dX11_set_65
      · have e250 : k0 = 250 := (nI_eq (by omega) (by decide)).mp c3
        refine lv_bipush (v := (-2)) hx hb dX11_set_25 (by decide) ?_
        exact rl_iret hC hW hr hlk (Nat.le_refl _) (Nat.le_refl _) ⟨_, rfl, rfl, rfl, ρ, κ, G, E, (by simp only [f_set, ob, pu_ix_s hk0 (show G.1 4 0 + 1 < 2 ^ 31 by omega)]; rw [if_pos e250]), hI⟩ dX11_set_27
    · exact absurd c9 (by decide)
  · have hq := hp
    refine lv_if_ne (tgt := 18) hx hb dX11_set_13 (by decide) (fun c9 => ?_) (fun c9 => ?_)
    · exact absurd rfl c9
    · refine lv_iconst (v := (-1)) hx hb dX11_set_16 (by decide) ?_
      exact rl_iret hC hW hr hlk (Nat.le_refl _) (Nat.le_refl _) ⟨_, rfl, rfl, rfl, ρ, κ, G, E, (by simp only [f_set, ob, pu_ix_n (show G.1 4 0 + 1 < 2 ^ 31 by omega) hq]), hI⟩ dX11_set_17

theorem rg_no4 {x : Int32} {j : Nat} (n0 : x ≠ 0) (n1 : x ≠ 1) (n2 : x ≠ 2) (n3 : x ≠ 3) (hj : j < 4) (e : x = nI j) : False := by
  have : j = 0 ∨ j = 1 ∨ j = 2 ∨ j = 3 := by omega
  rcases this with rfl | rfl | rfl | rfl
  · exact n0 e
  · exact n1 e
  · exact n2 e
  · exact n3 e

set_option maxHeartbeats 4000000 in
set_option maxRecDepth 100000 in
theorem cC_about (l : Launch) (D : va_G) (t : Nat → ClassId) (A : Nat → Prop) (f : rl_M) (z : Nat) (x : Nat) (T : Nat → Nat → Nat) (ρ κ : Nat) (G : pG) (E : Nat → Nat → Nat) (hI : CI t f x T ρ κ G E) (hT : rt_ok T) (hG : GW T ρ κ G) (x1 x2 : Int32) : rl_Met l yX11_about (.code yX11_about cX11_about 4 (some FieldType.int)) (rl_rm 3 0 0) D t A f z [.ref (x), .int (x1), .int (x2)] (rl_qi z fun r f1 => f_about T G x1 x2 = r ∧ CI t f1 x T ρ κ G E) := by
  refine rl_begin (own := RX11) (lv := [(0, .ref (x)), (1, .int (x1)), (2, .int (x2))]) (by decide +kernel) rfl (Nat.le_of_ble_eq_true rfl) rfl fun p e s m0 args below meth c ls H locs hC hr hlk hnm hW hl hx hb => ?_
  replace hI : CJ t _ x T ρ κ G E (G.2.1 0) (G.2.1 0 3) := hI
  obtain ⟨hF0, hEV, hRV, ⟨v5, hx0⟩, ⟨gpl, hpl, hpt⟩, ⟨⟨ggn, hgn, hgnE⟩, ⟨ggp, hgp, hgq⟩⟩, ⟨⟨fz, htp⟩, ⟨glv, hlv, hlvE⟩, ⟨gfr, hfr⟩⟩, hRW, hRC, hIN⟩ := id hI
  refine lv_iload_n hx hb dX11_about_0 rfl (lv_at hl 1 rfl) ?_
  refine lv_bipush (v := (nI (10))) hx hb dX11_about_1 (by decide) ?_
  refine rl_calliQ (rl_runS (As := [.int (x1), .int (nI (10))]) (rest := []) hC hW (cC_below l D t A _ z _ (10) (by omega)) cs_X11_48 sm_X11_below ⟨(Nat.le_of_ble_eq_true rfl), (Nat.le_of_ble_eq_true rfl)⟩ rfl hl.1 rfl (Nat.le_of_ble_eq_true rfl) dX11_about_3 ⟨(Nat.le_of_ble_eq_true rfl), (Nat.le_of_ble_eq_true rfl)⟩) hW (fun r f1 H locs hp hW => ?_)
  obtain ⟨rfl, hp⟩ := hp
  rcases hp with ⟨rfl, hp⟩ | ⟨rfl, hp⟩
  · obtain ⟨p0, hp0, rfl⟩ := hp
    refine lv_if_ne (tgt := 11) hx hb dX11_about_6 (by decide) (fun c9 => ?_) (fun c9 => ?_)
    · refine lv_aload_n hx hb dX11_about_11 rfl (lv_at hl 0 rfl) ?_
      refine rl_get (v := .ref (x + 52)) hC hW fl_X11_18 hx0 rfl dX11_about_12 ?_
      refine lv_iload_n hx hb dX11_about_15 rfl (lv_at hl 1 rfl) ?_
      refine rl_aald_n 3 hC hW rfl hpl (by omega) (by decide) dX11_about_16 ?_
      obtain ⟨r0, er0⟩ : ∃ r : Option Nat, r = gpl (p0) := ⟨_, rfl⟩
      refine rl_topqq er0.symm ?_
      refine rl_astoreq_n (lv' := [(3, va_rf (r0)), (0, .ref (x)), (1, .int (nI (p0))), (2, .int (x2))]) hx hb dX11_about_17 rfl hl (by decide) rfl (fun ls hl => ?_)
      refine lv_iload_n hx hb dX11_about_18 rfl (lv_at hl 3 rfl) ?_
      obtain ⟨hpe, hok0⟩ := hpt p0 hp0
      rcases Decidable.em (x2 = 0) with rfl | n0
      · refine lv_tableIn (tgt := 48) hx hb dX11_about_19 (by decide) (by decide) rfl (by decide) ?_
        refine rl_aloadq_n hx hb dX11_about_48 rfl (lv_at hl 0 rfl) ?_
        refine rl_calliQ (rl_runS (As := [va_rf (r0)]) (rest := []) hC hW (cC_familyOf l D t A _ z x T ρ κ G E _ _ hI hT hG (G.2.2.2 0 p0) r0 (er0.trans hpe) hok0) cs_X11_111 sm_X11_familyOf ⟨(Nat.le_of_ble_eq_true rfl), (Nat.le_of_ble_eq_true rfl)⟩ rfl hl.1 rfl (Nat.le_of_ble_eq_true rfl) dX11_about_49 ⟨(Nat.le_of_ble_eq_true rfl), (Nat.le_of_ble_eq_true rfl)⟩) hW (fun r f1 H locs hp hW => ?_)
        obtain ⟨rfl, rfl⟩ := hp
        exact rl_iret hC hW hr hlk (Nat.le_refl _) (Nat.le_refl _) ⟨_, rfl, rfl, rfl, (by simp only [f_about, ob, pu_ix_s hp0 (by decide), show pu_ix 4 0 = some 0 from pu_ix_s (j := 0) (by decide) (by decide)]; rfl), hI⟩ dX11_about_52
      · rcases Decidable.em (x2 = 1) with rfl | n1
        · refine lv_tableIn (tgt := 53) hx hb dX11_about_19 (by decide) (by decide) rfl (by decide) ?_
          rcases hok0.cases with hh | ⟨n0, hn0, hh⟩ | ⟨n0, hn0, hh⟩ | ⟨n0, hn0, hh⟩
          · obtain rfl : r0 = none := by rw [er0.trans hpe, hh]; rfl
            refine lv_aload_nN hx hb dX11_about_53 rfl (lv_at hl 0 rfl) ?_
            refine lv_ifnonnullN hx hb dX11_about_54 ?_
            refine lv_bipush (v := (-3)) hx hb dX11_about_57 (by decide) ?_
            refine lv_goto (tgt := 66) hx hb dX11_about_59 (by decide) ?_
            exact rl_iret hC hW hr hlk (Nat.le_refl _) (Nat.le_refl _) ⟨_, rfl, rfl, rfl, (by simp only [f_about, ob, pu_ix_s hp0 (by decide), show pu_ix 4 1 = some 1 from pu_ix_s (j := 1) (by decide) (by decide), hh]; rfl), hI⟩ dX11_about_66
          · obtain rfl : r0 = some (E 0 n0) := by rw [er0.trans hpe, hh]; rfl
            obtain ⟨hx58, h0, h1⟩ := hI.con hn0
            have hlo := (hT.2.2.2.2.2.1 n0 hn0.1).1
            refine lv_aload_n hx hb dX11_about_53 rfl (lv_at hl 0 rfl) ?_
            refine lv_ifnonnull (tgt := 62) hx hb dX11_about_54 (by decide) ?_
            refine lv_aload_n hx hb dX11_about_62 rfl (lv_at hl 0 rfl) ?_
            refine rl_calliQ (rl_runU (b := E 0 n0) (As := []) (rest := []) hC hW (cC_Constant_kind l D t A _ z _ _ _ _ _ hlo _ _ _ _ h0 h1) cu_X11_138_X1 h0 rfl ⟨(Nat.le_of_ble_eq_true rfl), (Nat.le_of_ble_eq_true rfl)⟩ rfl hl.1 rfl (Nat.le_of_ble_eq_true rfl) dX11_about_63 ⟨(Nat.le_of_ble_eq_true rfl), (Nat.le_of_ble_eq_true rfl)⟩) hW (fun r f1 H locs hp hW => ?_)
            obtain ⟨rfl, rfl⟩ := hp
            exact rl_iret hC hW hr hlk (Nat.le_refl _) (Nat.le_refl _) ⟨_, rfl, rfl, rfl, (by simp only [f_about, ob, pu_ix_s hp0 (by decide), show pu_ix 4 1 = some 1 from pu_ix_s (j := 1) (by decide) (by decide), hh]; rfl), hI⟩ dX11_about_66
          · obtain rfl : r0 = some (E 1 n0) := by rw [er0.trans hpe, hh]; rfl
            obtain ⟨hx58, h0, g, h1, hgi⟩ := hI.row hn0
            have hn8 := hG.1 n0 hn0
            refine lv_aload_n hx hb dX11_about_53 rfl (lv_at hl 0 rfl) ?_
            refine lv_ifnonnull (tgt := 62) hx hb dX11_about_54 (by decide) ?_
            refine lv_aload_n hx hb dX11_about_62 rfl (lv_at hl 0 rfl) ?_
            refine rl_calliQ (rl_runU (b := E 1 n0) (As := []) (rest := []) hC hW (cC_Row_kind l D t A _ z _) cu_X11_138_X8 h0 rfl ⟨(Nat.le_of_ble_eq_true rfl), (Nat.le_of_ble_eq_true rfl)⟩ rfl hl.1 rfl (Nat.le_of_ble_eq_true rfl) dX11_about_63 ⟨(Nat.le_of_ble_eq_true rfl), (Nat.le_of_ble_eq_true rfl)⟩) hW (fun r f1 H locs hp hW => ?_)
            obtain ⟨rfl, rfl⟩ := hp
            exact rl_iret hC hW hr hlk (Nat.le_refl _) (Nat.le_refl _) ⟨_, rfl, rfl, rfl, (by simp only [f_about, ob, pu_ix_s hp0 (by decide), show pu_ix 4 1 = some 1 from pu_ix_s (j := 1) (by decide) (by decide), hh]; rfl), hI⟩ dX11_about_66
          · obtain rfl : r0 = some (E 2 n0) := by rw [er0.trans hpe, hh]; rfl
            obtain ⟨hx58, h0, ⟨gn, h1, hgn⟩, ⟨gt, h2, hgt⟩⟩ := hI.rec hn0
            obtain ⟨hj, hnT, -⟩ := hG.2.1 n0 hn0
            obtain ⟨hrv, hj5, hj2, hpa, hka⟩ := id (hI.2.2.1 _ hj)
            refine lv_aload_n hx hb dX11_about_53 rfl (lv_at hl 0 rfl) ?_
            refine lv_ifnonnull (tgt := 62) hx hb dX11_about_54 (by decide) ?_
            refine lv_aload_n hx hb dX11_about_62 rfl (lv_at hl 0 rfl) ?_
            refine rl_calliQ (rl_runU (b := E 2 n0) (As := []) (rest := []) hC hW (cC_Rec_kind l D t A _ z _ _ _ _ _ _ _ gn gt _ _ _ _ h0 h1 hrv) cu_X11_138_X6 h0 rfl ⟨(Nat.le_of_ble_eq_true rfl), (Nat.le_of_ble_eq_true rfl)⟩ rfl hl.1 rfl (Nat.le_of_ble_eq_true rfl) dX11_about_63 ⟨(Nat.le_of_ble_eq_true rfl), (Nat.le_of_ble_eq_true rfl)⟩) hW (fun r f1 H locs hp hW => ?_)
            obtain ⟨rfl, rfl⟩ := hp
            exact rl_iret hC hW hr hlk (Nat.le_refl _) (Nat.le_refl _) ⟨_, rfl, rfl, rfl, (by simp only [f_about, ob, pu_ix_s hp0 (by decide), show pu_ix 4 1 = some 1 from pu_ix_s (j := 1) (by decide) (by decide), hh]; rfl), hI⟩ dX11_about_66
        · rcases Decidable.em (x2 = 2) with rfl | n2
          · refine lv_tableIn (tgt := 67) hx hb dX11_about_19 (by decide) (by decide) rfl (by decide) ?_
            rcases hok0.cases with hh | ⟨n0, hn0, hh⟩ | ⟨n0, hn0, hh⟩ | ⟨n0, hn0, hh⟩
            · obtain rfl : r0 = none := by rw [er0.trans hpe, hh]; rfl
              refine lv_aload_nN hx hb dX11_about_67 rfl (lv_at hl 0 rfl) ?_
              refine lv_ifnonnullN hx hb dX11_about_68 ?_
              refine lv_bipush (v := (-3)) hx hb dX11_about_71 (by decide) ?_
              refine lv_goto (tgt := 80) hx hb dX11_about_73 (by decide) ?_
              exact rl_iret hC hW hr hlk (Nat.le_refl _) (Nat.le_refl _) ⟨_, rfl, rfl, rfl, (by simp only [f_about, ob, pu_ix_s hp0 (by decide), show pu_ix 4 2 = some 2 from pu_ix_s (j := 2) (by decide) (by decide), hh]; rfl), hI⟩ dX11_about_80
            · obtain rfl : r0 = some (E 0 n0) := by rw [er0.trans hpe, hh]; rfl
              obtain ⟨hx58, h0, h1⟩ := hI.con hn0
              have hlo := (hT.2.2.2.2.2.1 n0 hn0.1).1
              refine lv_aload_n hx hb dX11_about_67 rfl (lv_at hl 0 rfl) ?_
              refine lv_ifnonnull (tgt := 76) hx hb dX11_about_68 (by decide) ?_
              refine lv_aload_n hx hb dX11_about_76 rfl (lv_at hl 0 rfl) ?_
              refine rl_calliQ (rl_runU (b := E 0 n0) (As := []) (rest := []) hC hW (cC_Constant_version l D t A _ z _ _ _ _ _ hlo _ _ _ _ h0 h1) cu_X11_141_X1 h0 rfl ⟨(Nat.le_of_ble_eq_true rfl), (Nat.le_of_ble_eq_true rfl)⟩ rfl hl.1 rfl (Nat.le_of_ble_eq_true rfl) dX11_about_77 ⟨(Nat.le_of_ble_eq_true rfl), (Nat.le_of_ble_eq_true rfl)⟩) hW (fun r f1 H locs hp hW => ?_)
              obtain ⟨rfl, rfl⟩ := hp
              exact rl_iret hC hW hr hlk (Nat.le_refl _) (Nat.le_refl _) ⟨_, rfl, rfl, rfl, (by simp only [f_about, ob, pu_ix_s hp0 (by decide), show pu_ix 4 2 = some 2 from pu_ix_s (j := 2) (by decide) (by decide), hh]; rfl), hI⟩ dX11_about_80
            · obtain rfl : r0 = some (E 1 n0) := by rw [er0.trans hpe, hh]; rfl
              obtain ⟨hx58, h0, g, h1, hgi⟩ := hI.row hn0
              have hn8 := hG.1 n0 hn0
              refine lv_aload_n hx hb dX11_about_67 rfl (lv_at hl 0 rfl) ?_
              refine lv_ifnonnull (tgt := 76) hx hb dX11_about_68 (by decide) ?_
              refine lv_aload_n hx hb dX11_about_76 rfl (lv_at hl 0 rfl) ?_
              refine rl_calliQ (rl_runU (b := E 1 n0) (As := []) (rest := []) hC hW (cC_Row_version l D t A _ z _) cu_X11_141_X8 h0 rfl ⟨(Nat.le_of_ble_eq_true rfl), (Nat.le_of_ble_eq_true rfl)⟩ rfl hl.1 rfl (Nat.le_of_ble_eq_true rfl) dX11_about_77 ⟨(Nat.le_of_ble_eq_true rfl), (Nat.le_of_ble_eq_true rfl)⟩) hW (fun r f1 H locs hp hW => ?_)
              obtain ⟨rfl, rfl⟩ := hp
              exact rl_iret hC hW hr hlk (Nat.le_refl _) (Nat.le_refl _) ⟨_, rfl, rfl, rfl, (by simp only [f_about, ob, pu_ix_s hp0 (by decide), show pu_ix 4 2 = some 2 from pu_ix_s (j := 2) (by decide) (by decide), hh]; rfl), hI⟩ dX11_about_80
            · obtain rfl : r0 = some (E 2 n0) := by rw [er0.trans hpe, hh]; rfl
              obtain ⟨hx58, h0, ⟨gn, h1, hgn⟩, ⟨gt, h2, hgt⟩⟩ := hI.rec hn0
              obtain ⟨hj, hnT, -⟩ := hG.2.1 n0 hn0
              obtain ⟨hrv, hj5, hj2, hpa, hka⟩ := id (hI.2.2.1 _ hj)
              refine lv_aload_n hx hb dX11_about_67 rfl (lv_at hl 0 rfl) ?_
              refine lv_ifnonnull (tgt := 76) hx hb dX11_about_68 (by decide) ?_
              refine lv_aload_n hx hb dX11_about_76 rfl (lv_at hl 0 rfl) ?_
              refine rl_calliQ (rl_runU (b := E 2 n0) (As := []) (rest := []) hC hW (cC_Rec_version l D t A _ z _ _ _ _ _ _ _ gn gt _ _ _ _ h0 h1 hrv) cu_X11_141_X6 h0 rfl ⟨(Nat.le_of_ble_eq_true rfl), (Nat.le_of_ble_eq_true rfl)⟩ rfl hl.1 rfl (Nat.le_of_ble_eq_true rfl) dX11_about_77 ⟨(Nat.le_of_ble_eq_true rfl), (Nat.le_of_ble_eq_true rfl)⟩) hW (fun r f1 H locs hp hW => ?_)
              obtain ⟨rfl, rfl⟩ := hp
              exact rl_iret hC hW hr hlk (Nat.le_refl _) (Nat.le_refl _) ⟨_, rfl, rfl, rfl, (by simp only [f_about, ob, pu_ix_s hp0 (by decide), show pu_ix 4 2 = some 2 from pu_ix_s (j := 2) (by decide) (by decide), hh]; rfl), hI⟩ dX11_about_80
          · rcases Decidable.em (x2 = 3) with rfl | n3
            · refine lv_tableIn (tgt := 81) hx hb dX11_about_19 (by decide) (by decide) rfl (by decide) ?_
              rcases hok0.cases with hh | ⟨n0, hn0, hh⟩ | ⟨n0, hn0, hh⟩ | ⟨n0, hn0, hh⟩
              · obtain rfl : r0 = none := by rw [er0.trans hpe, hh]; rfl
                refine lv_aload_nN hx hb dX11_about_81 rfl (lv_at hl 0 rfl) ?_
                refine lv_ifnonnullN hx hb dX11_about_82 ?_
                refine lv_iconst (v := (nI (0))) hx hb dX11_about_85 (by decide) ?_
                refine lv_goto (tgt := 93) hx hb dX11_about_86 (by decide) ?_
                exact rl_iret hC hW hr hlk (Nat.le_refl _) (Nat.le_refl _) ⟨_, rfl, rfl, rfl, (by simp only [f_about, ob, pu_ix_s hp0 (by decide), show pu_ix 4 3 = some 3 from pu_ix_s (j := 3) (by decide) (by decide), hh]; rfl), hI⟩ dX11_about_93
              · obtain rfl : r0 = some (E 0 n0) := by rw [er0.trans hpe, hh]; rfl
                obtain ⟨hx58, h0, h1⟩ := hI.con hn0
                have hlo := (hT.2.2.2.2.2.1 n0 hn0.1).1
                refine lv_aload_n hx hb dX11_about_81 rfl (lv_at hl 0 rfl) ?_
                refine lv_ifnonnull (tgt := 89) hx hb dX11_about_82 (by decide) ?_
                refine lv_aload_n hx hb dX11_about_89 rfl (lv_at hl 0 rfl) ?_
                refine rl_calliQ (rl_runU (b := E 0 n0) (As := []) (rest := []) hC hW (cC_Constant_extent l D t A _ z _ _ _ _ _ hlo _ _ _ _ h0 h1) cu_X11_144_X1 h0 rfl ⟨(Nat.le_of_ble_eq_true rfl), (Nat.le_of_ble_eq_true rfl)⟩ rfl hl.1 rfl (Nat.le_of_ble_eq_true rfl) dX11_about_90 ⟨(Nat.le_of_ble_eq_true rfl), (Nat.le_of_ble_eq_true rfl)⟩) hW (fun r f1 H locs hp hW => ?_)
                obtain ⟨rfl, rfl⟩ := hp
                exact rl_iret hC hW hr hlk (Nat.le_refl _) (Nat.le_refl _) ⟨_, rfl, rfl, rfl, (by simp only [f_about, ob, pu_ix_s hp0 (by decide), show pu_ix 4 3 = some 3 from pu_ix_s (j := 3) (by decide) (by decide), hh]; rfl), hI⟩ dX11_about_93
              · obtain rfl : r0 = some (E 1 n0) := by rw [er0.trans hpe, hh]; rfl
                obtain ⟨hx58, h0, g, h1, hgi⟩ := hI.row hn0
                have hn8 := hG.1 n0 hn0
                refine lv_aload_n hx hb dX11_about_81 rfl (lv_at hl 0 rfl) ?_
                refine lv_ifnonnull (tgt := 89) hx hb dX11_about_82 (by decide) ?_
                refine lv_aload_n hx hb dX11_about_89 rfl (lv_at hl 0 rfl) ?_
                refine rl_calliQ (rl_runU (b := E 1 n0) (As := []) (rest := []) hC hW (cC_Row_extent l D t A _ z _ _ _ _ h0 h1) cu_X11_144_X8 h0 rfl ⟨(Nat.le_of_ble_eq_true rfl), (Nat.le_of_ble_eq_true rfl)⟩ rfl hl.1 rfl (Nat.le_of_ble_eq_true rfl) dX11_about_90 ⟨(Nat.le_of_ble_eq_true rfl), (Nat.le_of_ble_eq_true rfl)⟩) hW (fun r f1 H locs hp hW => ?_)
                obtain ⟨rfl, rfl⟩ := hp
                exact rl_iret hC hW hr hlk (Nat.le_refl _) (Nat.le_refl _) ⟨_, rfl, rfl, rfl, (by simp only [f_about, ob, pu_ix_s hp0 (by decide), show pu_ix 4 3 = some 3 from pu_ix_s (j := 3) (by decide) (by decide), hh]; rfl), hI⟩ dX11_about_93
              · obtain rfl : r0 = some (E 2 n0) := by rw [er0.trans hpe, hh]; rfl
                obtain ⟨hx58, h0, ⟨gn, h1, hgn⟩, ⟨gt, h2, hgt⟩⟩ := hI.rec hn0
                obtain ⟨hj, hnT, -⟩ := hG.2.1 n0 hn0
                obtain ⟨hrv, hj5, hj2, hpa, hka⟩ := id (hI.2.2.1 _ hj)
                refine lv_aload_n hx hb dX11_about_81 rfl (lv_at hl 0 rfl) ?_
                refine lv_ifnonnull (tgt := 89) hx hb dX11_about_82 (by decide) ?_
                refine lv_aload_n hx hb dX11_about_89 rfl (lv_at hl 0 rfl) ?_
                refine rl_calliQ (rl_runU (b := E 2 n0) (As := []) (rest := []) hC hW (cC_Rec_extent l D t A _ z _ _ _ _ _ _ h0 h1) cu_X11_144_X6 h0 rfl ⟨(Nat.le_of_ble_eq_true rfl), (Nat.le_of_ble_eq_true rfl)⟩ rfl hl.1 rfl (Nat.le_of_ble_eq_true rfl) dX11_about_90 ⟨(Nat.le_of_ble_eq_true rfl), (Nat.le_of_ble_eq_true rfl)⟩) hW (fun r f1 H locs hp hW => ?_)
                obtain ⟨rfl, rfl⟩ := hp
                exact rl_iret hC hW hr hlk (Nat.le_refl _) (Nat.le_refl _) ⟨_, rfl, rfl, rfl, (by simp only [f_about, ob, pu_ix_s hp0 (by decide), show pu_ix 4 3 = some 3 from pu_ix_s (j := 3) (by decide) (by decide), hh]; rfl), hI⟩ dX11_about_93
            · refine lv_tableOut (tgt := 94) hx hb dX11_about_19 (by have q0 := rg_sw 0 (n := 0) (by decide) n0; have q1 := rg_sw 1 (n := 1) (by decide) n1; have q2 := rg_sw 2 (n := 2) (by decide) n2; have q3 := rg_sw 3 (n := 3) (by decide) n3; omega) (by decide) ?_
              refine lv_iconst (v := (-1)) hx hb dX11_about_94 (by decide) ?_
              exact rl_iret hC hW hr hlk (Nat.le_refl _) (Nat.le_refl _) ⟨_, rfl, rfl, rfl, (by simp only [f_about, ob, pu_ix_s hp0 (by decide), pu_ix_n (n := 4) (by decide) (fun ⟨j, hj, e⟩ => rg_no4 n0 n1 n2 n3 hj e)]), hI⟩ dX11_about_95
    · exact absurd c9 (by decide)
  · have hq := hp
    refine lv_if_ne (tgt := 11) hx hb dX11_about_6 (by decide) (fun c9 => ?_) (fun c9 => ?_)
    · exact absurd rfl c9
    · refine lv_iconst (v := (-1)) hx hb dX11_about_9 (by decide) ?_
      exact rl_iret hC hW hr hlk (Nat.le_refl _) (Nat.le_refl _) ⟨_, rfl, rfl, rfl, (by simp only [f_about, ob, pu_ix_n (n := 10) (by decide) hq]), hI⟩ dX11_about_10
