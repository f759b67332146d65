
theorem rg_f10 : ∀ n, n < 5 → (nI n - nI 10).toInt64 = (nI n).toInt64 - 10 := by decide
theorem fam_lt {T : Nat → Nat → Nat} {ρ κ : Nat} {h : pHd} (hT : rt_ok T) (hk : cok T ρ κ h) : fam T h < 5 := by
  rcases h with _ | n | n | n
  · exact (by decide : 0 < 5)
  · have := (hT.2.2.2.2.2.1 n hk.1).1
    show 1 + T 9 n < 5
    omega
  · exact (by decide : 3 < 5)
  · exact (by decide : 4 < 5)
theorem fh_no {T : Nat → Nat → Nat} {ρ κ : Nat} {G : pG} {x1 x2 x3 x4 : Int32} (h : ¬ ∃ k v : Nat, k < 2 ∧ v < 3 ∧ x2 = nI k ∧ x3 = nI v) : f_hold T ρ κ G x1 x2 x3 x4 = (-1, ρ, κ, G) := by
  unfold f_hold
  by_cases h2 : ∃ k : Nat, k < 2 ∧ x2 = nI k
  · obtain ⟨k, hk, rfl⟩ := h2
    have h3 : ¬ ∃ v : Nat, v < 3 ∧ x3 = nI v := fun ⟨v, hv, e⟩ => h ⟨k, v, hk, hv, rfl, e⟩
    rw [pu_ix_s hk (by decide), pu_ix_n (n := 3) (by decide) h3]
    cases pu_ix 10 x1 <;> rfl
  · rw [pu_ix_n (n := 2) (by decide) h2]
    cases pu_ix 10 x1 <;> rfl

set_option maxHeartbeats 4000000 in
set_option maxRecDepth 100000 in
theorem cC_number (l : Launch) (D : va_G) (t : Nat → ClassId) (A : Nat → Prop) (f : rl_M) (z : Nat) (x : Nat) (T : Nat → Nat → Nat) (ρ κ : Nat) (G : pG) (E : Nat → Nat → Nat) (hI : CI t f x T ρ κ G E) (hT : rt_ok T) (hG : GW T ρ κ G) (x1 x2 : Int32) : rl_Met l yX11_number (.code yX11_number cX11_number 5 (some FieldType.long)) (rl_rm 3 0 0) D t A f z [.ref (x), .int (x1), .int (x2)] (rl_ql z fun r f1 => f_number T G x1 x2 = r ∧ CI t f1 x T ρ κ G E) := by
  refine rl_begin (own := RX11) (lv := [(0, .ref (x)), (1, .int (x1)), (2, .int (x2))]) (by decide +kernel) rfl (Nat.le_of_ble_eq_true rfl) rfl fun p e s m0 args below meth c ls H locs hC hr hlk hnm hW hl hx hb => ?_
  replace hI : CJ t _ x T ρ κ G E (G.2.1 0) (G.2.1 0 3) := hI
  obtain ⟨hF0, hEV, hRV, ⟨v5, hx0⟩, ⟨gpl, hpl, hpt⟩, ⟨⟨ggn, hgn, hgnE⟩, ⟨ggp, hgp, hgq⟩⟩, ⟨⟨fz, htp⟩, ⟨glv, hlv, hlvE⟩, ⟨gfr, hfr⟩⟩, hRW, hRC, hIN⟩ := id hI
  refine lv_aload_n hx hb dX11_number_0 rfl (lv_at hl 0 rfl) ?_
  refine lv_iconst (v := (-1)) hx hb dX11_number_1 (by decide) ?_
  refine rl_put (v := .int (-1)) hC hW fp_X11_37 hx0 (Nat.le_of_ble_eq_true rfl) rfl rfl dX11_number_2 (fun H locs hW => ?_)
  replace hW : rl_W D A (rl_up _ x (.inr (10, [.ref (x + 1), .ref (x + 52), .ref (x + 53), .ref (x + 54), .ref (x + 55), .int (-1), .int ((G.2.1 0) 0), .int ((G.2.1 0) 1), .int ((G.2.1 0) 2), .int (G.2.1 0 3), .int ((G.2.1 0) 4), .int ((G.2.1 0) 5)]))) z s.heap H locs := hW
  replace hI := hI.setx (-1) (G.2.1 0) (G.2.1 0 3)
  obtain ⟨hF0, hEV, hRV, ⟨v5, hx0⟩, ⟨gpl, hpl, hpt⟩, ⟨⟨ggn, hgn, hgnE⟩, ⟨ggp, hgp, hgq⟩⟩, ⟨⟨fz, htp⟩, ⟨glv, hlv, hlvE⟩, ⟨gfr, hfr⟩⟩, hRW, hRC, hIN⟩ := id hI
  refine lv_iload_n hx hb dX11_number_5 rfl (lv_at hl 1 rfl) ?_
  refine lv_bipush (v := (nI (10))) hx hb dX11_number_6 (by decide) ?_
  refine rl_calliQ (rl_runS (As := [.int (x1), .int (nI (10))]) (rest := []) hC hW (cC_below l D t A _ z _ (10) (by omega)) cs_X11_48 sm_X11_below ⟨(Nat.le_of_ble_eq_true rfl), (Nat.le_of_ble_eq_true rfl)⟩ rfl hl.1 rfl (Nat.le_of_ble_eq_true rfl) dX11_number_8 ⟨(Nat.le_of_ble_eq_true rfl), (Nat.le_of_ble_eq_true rfl)⟩) hW (fun r f1 H locs hp hW => ?_)
  obtain ⟨rfl, hp⟩ := hp
  rcases hp with ⟨rfl, hp⟩ | ⟨rfl, hp⟩
  · obtain ⟨p0, hp0, rfl⟩ := hp
    refine lv_if_eq (tgt := 47) hx hb dX11_number_11 (by decide) (fun c9 => ?_) (fun c9 => ?_)
    · exact absurd c9 (by decide)
    · refine lv_aload_n hx hb dX11_number_14 rfl (lv_at hl 0 rfl) ?_
      refine rl_get (v := .ref (x + 52)) hC hW fl_X11_18 hx0 rfl dX11_number_15 ?_
      refine lv_iload_n hx hb dX11_number_18 rfl (lv_at hl 1 rfl) ?_
      refine rl_aald_n 3 hC hW rfl hpl (by omega) (by decide) dX11_number_19 ?_
      obtain ⟨r0, er0⟩ : ∃ r : Option Nat, r = gpl (p0) := ⟨_, rfl⟩
      refine rl_topqq er0.symm ?_
      refine rl_astoreq (lv' := [(4, va_rf (r0)), (0, .ref (x)), (1, .int (nI (p0))), (2, .int (x2))]) hx hb dX11_number_20 hl (by decide) rfl (fun ls hl => ?_)
      refine rl_aloadq hx hb dX11_number_22 (lv_at hl 0 rfl) ?_
      obtain ⟨hpe, hok0⟩ := hpt p0 hp0
      rcases hok0.cases with hh | ⟨n0, hn0, hh⟩ | ⟨n0, hn0, hh⟩ | ⟨n0, hn0, hh⟩
      · obtain rfl : r0 = none := by rw [er0.trans hpe, hh]; rfl
        refine lv_instN hx hb dX11_number_24 ?_
        refine rl_topn (y := nI 0) (by decide) ?_
        refine lv_if_eq (tgt := 47) hx hb dX11_number_27 (by decide) (fun c_1 => ?_) (fun c_1 => ?_)
        · refine lv_lconst (v := 0) hx hb dX11_number_47 (by decide) ?_
          exact rl_lret hC hW hr hlk (Nat.le_refl _) (Nat.le_refl _) ⟨_, rfl, rfl, rfl, (by simp only [f_number, pu_at, ob, pu_ix_s hp0 (by decide), hh]), hI⟩ dX11_number_48
        · first | exact absurd c_1 (by decide) | exact absurd (by decide) c_1
      · obtain rfl : r0 = some (E 0 n0) := by rw [er0.trans hpe, hh]; rfl
        obtain ⟨hx58, h0, h1⟩ := hI.con hn0
        have hlo := (hT.2.2.2.2.2.1 n0 hn0.1).1
        refine rl_instNo hC hW h0 rfl mw_338 (by decide) dX11_number_24 ?_
        refine rl_topn (y := nI 0) (by decide) ?_
        refine lv_if_eq (tgt := 47) hx hb dX11_number_27 (by decide) (fun c_2 => ?_) (fun c_2 => ?_)
        · refine lv_lconst (v := 0) hx hb dX11_number_47 (by decide) ?_
          exact rl_lret hC hW hr hlk (Nat.le_refl _) (Nat.le_refl _) ⟨_, rfl, rfl, rfl, (by simp only [f_number, pu_at, ob, pu_ix_s hp0 (by decide), hh]), hI⟩ dX11_number_48
        · first | exact absurd c_2 (by decide) | exact absurd (by decide) c_2
      · obtain rfl : r0 = some (E 1 n0) := by rw [er0.trans hpe, hh]; rfl
        obtain ⟨hx58, h0, g, h1, hgi⟩ := hI.row hn0
        have hn8 := hG.1 n0 hn0
        refine rl_instNo hC hW h0 rfl mw_338 (by decide) dX11_number_24 ?_
        refine rl_topn (y := nI 0) (by decide) ?_
        refine lv_if_eq (tgt := 47) hx hb dX11_number_27 (by decide) (fun c_3 => ?_) (fun c_3 => ?_)
        · refine lv_lconst (v := 0) hx hb dX11_number_47 (by decide) ?_
          exact rl_lret hC hW hr hlk (Nat.le_refl _) (Nat.le_refl _) ⟨_, rfl, rfl, rfl, (by simp only [f_number, pu_at, ob, pu_ix_s hp0 (by decide), hh]), hI⟩ dX11_number_48
        · first | exact absurd c_3 (by decide) | exact absurd (by decide) c_3
      · obtain rfl : r0 = some (E 2 n0) := by rw [er0.trans hpe, hh]; rfl
        obtain ⟨hx58, h0, ⟨gn, h1, hgnv⟩, ⟨gt, h2, hgtv⟩⟩ := hI.rec hn0
        obtain ⟨hj, hnT, -⟩ := hG.2.1 n0 hn0
        obtain ⟨hrv, hj5, hj2, hpa, hka⟩ := id (hI.2.2.1 _ hj)
        refine rl_instY hC hW h0 rfl mw_338 mt_998 dX11_number_24 ?_
        refine rl_topn (y := nI 1) (by decide) ?_
        refine lv_if_eq (tgt := 47) hx hb dX11_number_27 (by decide) (fun c8 => ?_) (fun c8 => ?_)
        · exact absurd c8 (by decide)
        · refine lv_aload hx hb dX11_number_30 (lv_at hl 0 rfl) ?_
          refine rl_castY hC hW h0 rfl mw_338 mt_998 dX11_number_32 ?_
          refine lv_astore_n (lv' := [(3, .ref (E 2 n0)), (4, .ref (E 2 n0)), (0, .ref (x)), (1, .int (nI (p0))), (2, .int (x2))]) hx hb dX11_number_35 rfl hl (by decide) rfl (fun ls hl => ?_)
          refine lv_iload_n hx hb dX11_number_36 rfl (lv_at hl 4 rfl) ?_
          refine lv_aload_n hx hb dX11_number_37 rfl (lv_at hl 0 rfl) ?_
          refine rl_calliQ (rl_runV (b := E 2 n0) (As := []) (rest := [.int (x2)]) hC hW (cC_Rec_extent l D t A _ z _ _ _ _ _ gn h0 h1) cs_X11_120 im_X6_extent sl_X6_extent h0 rfl ⟨(Nat.le_of_ble_eq_true rfl), (Nat.le_of_ble_eq_true rfl)⟩ rfl hl.1 rfl (Nat.le_of_ble_eq_true rfl) dX11_number_38 ⟨(Nat.le_of_ble_eq_true rfl), (Nat.le_of_ble_eq_true rfl)⟩) hW (fun r f1 H locs hp hW => ?_)
          obtain ⟨rfl, rfl⟩ := hp
          refine rl_calliQ (rl_runS (As := [.int (x2), .int (nI (G.1 2 n0))]) (rest := []) hC hW (cC_below l D t A _ z _ (G.1 2 n0) (by omega)) cs_X11_48 sm_X11_below ⟨(Nat.le_of_ble_eq_true rfl), (Nat.le_of_ble_eq_true rfl)⟩ rfl hl.1 rfl (Nat.le_of_ble_eq_true rfl) dX11_number_41 ⟨(Nat.le_of_ble_eq_true rfl), (Nat.le_of_ble_eq_true rfl)⟩) hW (fun r f1 H locs hp hW => ?_)
          obtain ⟨rfl, hp⟩ := hp
          rcases hp with ⟨rfl, hp⟩ | ⟨rfl, hp⟩
          · obtain ⟨i0, hi0, rfl⟩ := hp
            refine lv_if_ne (tgt := 49) hx hb dX11_number_44 (by decide) (fun c9 => ?_) (fun c9 => ?_)
            · refine lv_aload_n hx hb dX11_number_49 rfl (lv_at hl 2 rfl) ?_
              refine lv_iconst (v := (nI (0))) hx hb dX11_number_50 (by decide) ?_
              refine rl_put (v := .int (nI (0))) hC hW fp_X11_37 hx0 (Nat.le_of_ble_eq_true rfl) rfl rfl dX11_number_51 (fun H locs hW => ?_)
              replace hW : rl_W D A (rl_up _ x (.inr (10, [.ref (x + 1), .ref (x + 52), .ref (x + 53), .ref (x + 54), .ref (x + 55), .int (nI (0)), .int ((G.2.1 0) 0), .int ((G.2.1 0) 1), .int ((G.2.1 0) 2), .int (G.2.1 0 3), .int ((G.2.1 0) 4), .int ((G.2.1 0) 5)]))) z s.heap H locs := hW
              replace hI := hI.setx (nI (0)) (G.2.1 0) (G.2.1 0 3)
              replace h0 := (rl_up_n (a := x) (b := E 2 n0) (e := .inr (10, [.ref (x + 1), .ref (x + 52), .ref (x + 53), .ref (x + 54), .ref (x + 55), .int (nI (0)), .int ((G.2.1 0) 0), .int ((G.2.1 0) 1), .int ((G.2.1 0) 2), .int (G.2.1 0 3), .int ((G.2.1 0) 4), .int ((G.2.1 0) 5)])) (by omega)).trans h0
              replace h1 := (rl_up_n (a := x) (b := E 2 n0 + 1) (e := .inr (10, [.ref (x + 1), .ref (x + 52), .ref (x + 53), .ref (x + 54), .ref (x + 55), .int (nI (0)), .int ((G.2.1 0) 0), .int ((G.2.1 0) 1), .int ((G.2.1 0) 2), .int (G.2.1 0 3), .int ((G.2.1 0) 4), .int ((G.2.1 0) 5)])) (by omega)).trans h1
              replace h2 := (rl_up_n (a := x) (b := E 2 n0 + 2) (e := .inr (10, [.ref (x + 1), .ref (x + 52), .ref (x + 53), .ref (x + 54), .ref (x + 55), .int (nI (0)), .int ((G.2.1 0) 0), .int ((G.2.1 0) 1), .int ((G.2.1 0) 2), .int (G.2.1 0 3), .int ((G.2.1 0) 4), .int ((G.2.1 0) 5)])) (by omega)).trans h2
              obtain ⟨hF0, hEV, hRV, ⟨v5, hx0⟩, ⟨gpl, hpl, hpt⟩, ⟨⟨ggn, hgn, hgnE⟩, ⟨ggp, hgp, hgq⟩⟩, ⟨⟨fz, htp⟩, ⟨glv, hlv, hlvE⟩, ⟨gfr, hfr⟩⟩, hRW, hRC, hIN⟩ := id hI
              have hs4 := (hT.2.2.1 _ i0 hj (by omega)).2.1
              refine lv_aload_n hx hb dX11_number_54 rfl (lv_at hl 0 rfl) ?_
              refine lv_iload_n hx hb dX11_number_55 rfl (lv_at hl 4 rfl) ?_
              refine rl_calliQ (rl_runV (b := E 2 n0) (As := [.int (nI (i0))]) (rest := []) hC hW (cC_isNumber l D t A _ z x T ρ κ G E _ _ hI _ (G.1 1 n0) _ _ i0 hj (by omega) (by omega) h0) cs_X11_145 im_X6_isNumber sl_X6_isNumber h0 rfl ⟨(Nat.le_of_ble_eq_true rfl), (Nat.le_of_ble_eq_true rfl)⟩ rfl hl.1 rfl (Nat.le_of_ble_eq_true rfl) dX11_number_56 ⟨(Nat.le_of_ble_eq_true rfl), (Nat.le_of_ble_eq_true rfl)⟩) hW (fun r f1 H locs hp hW => ?_)
              obtain ⟨rfl, hp⟩ := hp
              rcases hp with ⟨rfl, hp⟩ | ⟨rfl, hp⟩
              · refine lv_if_eq (tgt := 71) hx hb dX11_number_59 (by decide) (fun c_4 => ?_) (fun c_4 => ?_)
                · first | exact absurd c_4 (by decide) | exact absurd (by decide) c_4
                · refine lv_aload_n hx hb dX11_number_62 rfl (lv_at hl 0 rfl) ?_
                  refine rl_get (v := .ref (E 2 n0 + 1)) hC hW fl_X11_149 h0 rfl dX11_number_63 ?_
                  refine lv_iload_n hx hb dX11_number_66 rfl (lv_at hl 4 rfl) ?_
                  refine rl_lald_n hC hW h1 (by omega) (by omega) dX11_number_67 ?_
                  refine lv_goto (tgt := 84) hx hb dX11_number_68 (by decide) ?_
                  exact rl_lret hC hW hr hlk (Nat.le_refl _) (Nat.le_refl _) ⟨_, rfl, rfl, rfl, (by simp only [f_number, pu_at, ob, pu_ix_s hp0 (by decide), hh, pu_ix_s hi0 (show G.1 2 n0 < 2 ^ 31 by omega), if_pos hp]; exact (hgnv i0 hi0).symm), hI⟩ dX11_number_84
              · obtain ⟨hge, hok1⟩ := hgtv i0 hi0
                have hnn : ¬ T 4 (5 * G.1 1 n0 + i0) < 2 := by omega
                refine lv_if_eq (tgt := 71) hx hb dX11_number_59 (by decide) (fun c_5 => ?_) (fun c_5 => ?_)
                · refine lv_aload_n hx hb dX11_number_71 rfl (lv_at hl 0 rfl) ?_
                  refine rl_get (v := .ref (E 2 n0 + 2)) hC hW fl_X11_152 h0 rfl dX11_number_72 ?_
                  refine lv_iload_n hx hb dX11_number_75 rfl (lv_at hl 4 rfl) ?_
                  refine rl_aald_n 3 hC hW rfl h2 (by omega) (by omega) dX11_number_76 ?_
                  obtain ⟨r1, er1⟩ : ∃ r : Option Nat, r = gt (i0) := ⟨_, rfl⟩
                  refine rl_topqq er1.symm ?_
                  refine rl_calliQ (rl_runS (As := [va_rf (r1)]) (rest := []) hC hW (cC_familyOf l D t A _ z x T ρ κ G E _ _ hI hT hG (G.2.2.2 1 (5 * n0 + i0)) r1 (er1.trans hge) hok1) cs_X11_111 sm_X11_familyOf ⟨(Nat.le_of_ble_eq_true rfl), (Nat.le_of_ble_eq_true rfl)⟩ rfl hl.1 rfl (Nat.le_of_ble_eq_true rfl) dX11_number_77 ⟨(Nat.le_of_ble_eq_true rfl), (Nat.le_of_ble_eq_true rfl)⟩) hW (fun r f1 H locs hp hW => ?_)
                  obtain ⟨rfl, rfl⟩ := hp
                  refine lv_bipush (v := (nI (10))) hx hb dX11_number_80 (by decide) ?_
                  refine lv_isub hx hb dX11_number_82 ?_
                  refine lv_i2l hx hb dX11_number_83 rfl ?_
                  exact rl_lret hC hW hr hlk (Nat.le_refl _) (Nat.le_refl _) ⟨_, rfl, rfl, rfl, (by simp only [f_number, pu_at, ob, pu_ix_s hp0 (by decide), hh, pu_ix_s hi0 (show G.1 2 n0 < 2 ^ 31 by omega), if_neg hnn]; exact (rg_f10 _ (fam_lt hT hok1)).symm), hI⟩ dX11_number_84
                · first | exact absurd c_5 (by decide) | exact absurd (by decide) c_5
            · exact absurd c9 (by decide)
          · have hq := hp
            refine lv_if_ne (tgt := 49) hx hb dX11_number_44 (by decide) (fun c9 => ?_) (fun c9 => ?_)
            · exact absurd rfl c9
            · refine lv_lconst (v := 0) hx hb dX11_number_47 (by decide) ?_
              exact rl_lret hC hW hr hlk (Nat.le_refl _) (Nat.le_refl _) ⟨_, rfl, rfl, rfl, (by simp only [f_number, pu_at, ob, pu_ix_s hp0 (by decide), hh, pu_ix_n (n := G.1 2 n0) (by omega) hq]), hI⟩ dX11_number_48
  · have hq := hp
    refine lv_if_eq (tgt := 47) hx hb dX11_number_11 (by decide) (fun c9 => ?_) (fun c9 => ?_)
    · refine lv_lconst (v := 0) hx hb dX11_number_47 (by decide) ?_
      exact rl_lret hC hW hr hlk (Nat.le_refl _) (Nat.le_refl _) ⟨_, rfl, rfl, rfl, (by simp only [f_number, pu_at, ob, pu_ix_n (n := 10) (by decide) hq]), hI⟩ dX11_number_48
    · exact absurd rfl c9

theorem ft_no {T : Nat → Nat → Nat} {ρ κ : Nat} {G : pG} {x1 x2 x3 : Int32} (h : ¬ ∃ v : Nat, v < 10 ∧ x3 = nI v) : f_take T ρ κ G x1 x2 x3 = (-1, ρ, κ, G) := by
  unfold f_take
  rw [pu_ix_n (n := 10) (by decide) h]
  cases pu_at G x1 x2 <;> rfl

set_option maxHeartbeats 4000000 in
set_option maxRecDepth 100000 in
theorem cC_take (l : Launch) (D : va_G) (t : Nat → ClassId) (A : Nat → Prop) (f : rl_M) (z : Nat) (x : Nat) (T : Nat → Nat → Nat) (ρ κ : Nat) (G : pG) (E : Nat → Nat → Nat) (hI : CI t f x T ρ κ G E) (hT : rt_ok T) (hG : GW T ρ κ G) (x1 x2 x3 : Int32) : rl_Met l yX11_take (.code yX11_take cX11_take 6 (some FieldType.int)) (rl_rm 3 0 0) D t A f z [.ref (x), .int (x1), .int (x2), .int (x3)] (rl_qi z fun r f1 => ∃ ρ' κ' G' E', f_take T ρ κ G x1 x2 x3 = (r, ρ', κ', G') ∧ CI t f1 x T ρ' κ' G' E') := by
  refine rl_begin (own := RX11) (lv := [(0, .ref (x)), (1, .int (x1)), (2, .int (x2)), (3, .int (x3))]) (by decide +kernel) rfl (Nat.le_of_ble_eq_true rfl) rfl fun p e s m0 args below meth c ls H locs hC hr hlk hnm hW hl hx hb => ?_
  replace hI : CJ t _ x T ρ κ G E (G.2.1 0) (G.2.1 0 3) := hI
  obtain ⟨hF0, hEV, hRV, ⟨v5, hx0⟩, ⟨gpl, hpl, hpt⟩, ⟨⟨ggn, hgn, hgnE⟩, ⟨ggp, hgp, hgq⟩⟩, ⟨⟨fz, htp⟩, ⟨glv, hlv, hlvE⟩, ⟨gfr, hfr⟩⟩, hRW, hRC, hIN⟩ := id hI
  refine lv_iload_n hx hb dX11_take_0 rfl (lv_at hl 1 rfl) ?_
  refine lv_bipush (v := (nI (10))) hx hb dX11_take_1 (by decide) ?_
  refine rl_calliQ (rl_runS (As := [.int (x1), .int (nI (10))]) (rest := []) hC hW (cC_below l D t A _ z _ (10) (by omega)) cs_X11_48 sm_X11_below ⟨(Nat.le_of_ble_eq_true rfl), (Nat.le_of_ble_eq_true rfl)⟩ rfl hl.1 rfl (Nat.le_of_ble_eq_true rfl) dX11_take_3 ⟨(Nat.le_of_ble_eq_true rfl), (Nat.le_of_ble_eq_true rfl)⟩) hW (fun r f1 H locs hp hW => ?_)
  obtain ⟨rfl, hp⟩ := hp
  rcases hp with ⟨rfl, hp⟩ | ⟨rfl, hp⟩
  · obtain ⟨p0, hp0, rfl⟩ := hp
    refine lv_if_eq (tgt := 44) hx hb dX11_take_6 (by decide) (fun c9 => ?_) (fun c9 => ?_)
    · exact absurd c9 (by decide)
    · refine lv_iload_n hx hb dX11_take_9 rfl (lv_at hl 3 rfl) ?_
      refine lv_bipush (v := (nI (10))) hx hb dX11_take_10 (by decide) ?_
      refine rl_calliQ (rl_runS (As := [.int (x3), .int (nI (10))]) (rest := []) hC hW (cC_below l D t A _ z _ (10) (by omega)) cs_X11_48 sm_X11_below ⟨(Nat.le_of_ble_eq_true rfl), (Nat.le_of_ble_eq_true rfl)⟩ rfl hl.1 rfl (Nat.le_of_ble_eq_true rfl) dX11_take_12 ⟨(Nat.le_of_ble_eq_true rfl), (Nat.le_of_ble_eq_true rfl)⟩) hW (fun r f1 H locs hp hW => ?_)
      obtain ⟨rfl, hp⟩ := hp
      rcases hp with ⟨rfl, hp⟩ | ⟨rfl, hp⟩
      · obtain ⟨q0, hq0, rfl⟩ := hp
        refine lv_if_eq (tgt := 44) hx hb dX11_take_15 (by decide) (fun c9 => ?_) (fun c9 => ?_)
        · exact absurd c9 (by decide)
        · refine lv_aload_n hx hb dX11_take_18 rfl (lv_at hl 0 rfl) ?_
          refine rl_get (v := .ref (x + 52)) hC hW fl_X11_18 hx0 rfl dX11_take_19 ?_
          refine lv_iload_n hx hb dX11_take_22 rfl (lv_at hl 1 rfl) ?_
          refine rl_aald_n 3 hC hW rfl hpl (by omega) (by decide) dX11_take_23 ?_
          obtain ⟨r0, er0⟩ : ∃ r : Option Nat, r = gpl (p0) := ⟨_, rfl⟩
          refine rl_topqq er0.symm ?_
          refine rl_astoreq (lv' := [(5, va_rf (r0)), (0, .ref (x)), (1, .int (nI (p0))), (2, .int (x2)), (3, .int (nI (q0)))]) hx hb dX11_take_24 hl (by decide) rfl (fun ls hl => ?_)
          refine rl_aloadq hx hb dX11_take_26 (lv_at hl 0 rfl) ?_
          obtain ⟨hpe, hok0⟩ := hpt p0 hp0
          rcases hok0.cases with hh | ⟨n0, hn0, hh⟩ | ⟨n0, hn0, hh⟩ | ⟨n0, hn0, hh⟩
          · obtain rfl : r0 = none := by rw [er0.trans hpe, hh]; rfl
            refine lv_instN hx hb dX11_take_28 ?_
            refine rl_topn (y := nI 0) (by decide) ?_
            refine lv_if_eq (tgt := 44) hx hb dX11_take_31 (by decide) (fun c_1 => ?_) (fun c_1 => ?_)
            · refine lv_iconst (v := (-1)) hx hb dX11_take_44 (by decide) ?_
              exact rl_iret hC hW hr hlk (Nat.le_refl _) (Nat.le_refl _) ⟨_, rfl, rfl, rfl, ρ, κ, G, E, (by simp only [f_take, pu_at, ob, pu_ix_s hp0 (by decide), hh]), hI⟩ dX11_take_45
            · first | exact absurd c_1 (by decide) | exact absurd (by decide) c_1
          · obtain rfl : r0 = some (E 0 n0) := by rw [er0.trans hpe, hh]; rfl
            obtain ⟨hx58, h0, h1⟩ := hI.con hn0
            have hlo := (hT.2.2.2.2.2.1 n0 hn0.1).1
            refine rl_instNo hC hW h0 rfl mw_338 (by decide) dX11_take_28 ?_
            refine rl_topn (y := nI 0) (by decide) ?_
            refine lv_if_eq (tgt := 44) hx hb dX11_take_31 (by decide) (fun c_2 => ?_) (fun c_2 => ?_)
            · refine lv_iconst (v := (-1)) hx hb dX11_take_44 (by decide) ?_
              exact rl_iret hC hW hr hlk (Nat.le_refl _) (Nat.le_refl _) ⟨_, rfl, rfl, rfl, ρ, κ, G, E, (by simp only [f_take, pu_at, ob, pu_ix_s hp0 (by decide), hh]), hI⟩ dX11_take_45
            · first | exact absurd c_2 (by decide) | exact absurd (by decide) c_2
          · obtain rfl : r0 = some (E 1 n0) := by rw [er0.trans hpe, hh]; rfl
            obtain ⟨hx58, h0, g, h1, hgi⟩ := hI.row hn0
            have hn8 := hG.1 n0 hn0
            refine rl_instNo hC hW h0 rfl mw_338 (by decide) dX11_take_28 ?_
            refine rl_topn (y := nI 0) (by decide) ?_
            refine lv_if_eq (tgt := 44) hx hb dX11_take_31 (by decide) (fun c_3 => ?_) (fun c_3 => ?_)
            · refine lv_iconst (v := (-1)) hx hb dX11_take_44 (by decide) ?_
              exact rl_iret hC hW hr hlk (Nat.le_refl _) (Nat.le_refl _) ⟨_, rfl, rfl, rfl, ρ, κ, G, E, (by simp only [f_take, pu_at, ob, pu_ix_s hp0 (by decide), hh]), hI⟩ dX11_take_45
            · first | exact absurd c_3 (by decide) | exact absurd (by decide) c_3
          · obtain rfl : r0 = some (E 2 n0) := by rw [er0.trans hpe, hh]; rfl
            obtain ⟨hx58, h0, ⟨gn, h1, hgnv⟩, ⟨gt, h2, hgtv⟩⟩ := hI.rec hn0
            obtain ⟨hj, hnT, -⟩ := hG.2.1 n0 hn0
            obtain ⟨hrv, hj5, hj2, hpa, hka⟩ := id (hI.2.2.1 _ hj)
            refine rl_instY hC hW h0 rfl mw_338 mt_998 dX11_take_28 ?_
            refine rl_topn (y := nI 1) (by decide) ?_
            refine lv_if_eq (tgt := 44) hx hb dX11_take_31 (by decide) (fun c8 => ?_) (fun c8 => ?_)
            · exact absurd c8 (by decide)
            · refine lv_aload hx hb dX11_take_34 (lv_at hl 0 rfl) ?_
              refine rl_castY hC hW h0 rfl mw_338 mt_998 dX11_take_36 ?_
              refine lv_astore (lv' := [(4, .ref (E 2 n0)), (5, .ref (E 2 n0)), (0, .ref (x)), (1, .int (nI (p0))), (2, .int (x2)), (3, .int (nI (q0)))]) hx hb dX11_take_39 hl (by decide) rfl (fun ls hl => ?_)
              refine lv_goto (tgt := 46) hx hb dX11_take_41 (by decide) ?_
              refine lv_iload_n hx hb dX11_take_46 rfl (lv_at hl 4 rfl) ?_
              refine lv_aload hx hb dX11_take_47 (lv_at hl 0 rfl) ?_
              refine rl_calliQ (rl_runV (b := E 2 n0) (As := []) (rest := [.int (x2)]) hC hW (cC_Rec_extent l D t A _ z _ _ _ _ _ gn h0 h1) cs_X11_120 im_X6_extent sl_X6_extent h0 rfl ⟨(Nat.le_of_ble_eq_true rfl), (Nat.le_of_ble_eq_true rfl)⟩ rfl hl.1 rfl (Nat.le_of_ble_eq_true rfl) dX11_take_49 ⟨(Nat.le_of_ble_eq_true rfl), (Nat.le_of_ble_eq_true rfl)⟩) hW (fun r f1 H locs hp hW => ?_)
              obtain ⟨rfl, rfl⟩ := hp
              refine rl_calliQ (rl_runS (As := [.int (x2), .int (nI (G.1 2 n0))]) (rest := []) hC hW (cC_below l D t A _ z _ (G.1 2 n0) (by omega)) cs_X11_48 sm_X11_below ⟨(Nat.le_of_ble_eq_true rfl), (Nat.le_of_ble_eq_true rfl)⟩ rfl hl.1 rfl (Nat.le_of_ble_eq_true rfl) dX11_take_52 ⟨(Nat.le_of_ble_eq_true rfl), (Nat.le_of_ble_eq_true rfl)⟩) hW (fun r f1 H locs hp hW => ?_)
              obtain ⟨rfl, hp⟩ := hp
              rcases hp with ⟨rfl, hp⟩ | ⟨rfl, hp⟩
              · obtain ⟨i0, hi0, rfl⟩ := hp
                refine lv_if_eq (tgt := 67) hx hb dX11_take_55 (by decide) (fun c9 => ?_) (fun c9 => ?_)
                · exact absurd c9 (by decide)
                · have hs4 := (hT.2.2.1 _ i0 hj (by omega)).2.1
                  refine lv_aload hx hb dX11_take_58 (lv_at hl 0 rfl) ?_
                  refine lv_iload_n hx hb dX11_take_60 rfl (lv_at hl 4 rfl) ?_
                  refine rl_calliQ (rl_runV (b := E 2 n0) (As := [.int (nI (i0))]) (rest := []) hC hW (cC_isNumber l D t A _ z x T ρ κ G E _ _ hI _ (G.1 1 n0) _ _ i0 hj (by omega) (by omega) h0) cs_X11_145 im_X6_isNumber sl_X6_isNumber h0 rfl ⟨(Nat.le_of_ble_eq_true rfl), (Nat.le_of_ble_eq_true rfl)⟩ rfl hl.1 rfl (Nat.le_of_ble_eq_true rfl) dX11_take_61 ⟨(Nat.le_of_ble_eq_true rfl), (Nat.le_of_ble_eq_true rfl)⟩) hW (fun r f1 H locs hp hW => ?_)
                  obtain ⟨rfl, hp⟩ := hp
                  rcases hp with ⟨rfl, hp⟩ | ⟨rfl, hp⟩
                  · refine lv_if_eq (tgt := 69) hx hb dX11_take_64 (by decide) (fun c_4 => ?_) (fun c_4 => ?_)
                    · first | exact absurd c_4 (by decide) | exact absurd (by decide) c_4
                    · refine lv_iconst (v := (-1)) hx hb dX11_take_67 (by decide) ?_
                      exact rl_iret hC hW hr hlk (Nat.le_refl _) (Nat.le_refl _) ⟨_, rfl, rfl, rfl, ρ, κ, G, E, (by simp only [f_take, pu_at, ob, pu_ix_s hp0 (by decide), hh, pu_ix_s hi0 (show G.1 2 n0 < 2 ^ 31 by omega), pu_ix_s hq0 (by decide), if_pos hp]), hI⟩ dX11_take_68
                  · obtain ⟨hge, hok1⟩ := hgtv i0 hi0
                    have hnn : ¬ T 4 (5 * G.1 1 n0 + i0) < 2 := by omega
                    refine lv_if_eq (tgt := 69) hx hb dX11_take_64 (by decide) (fun c9 => ?_) (fun c9 => ?_)
                    · refine lv_aload_n hx hb dX11_take_69 rfl (lv_at hl 2 rfl) ?_
                      refine rl_get (v := .ref (x + 52)) hC hW fl_X11_18 hx0 rfl dX11_take_70 ?_
                      refine lv_iload_n hx hb dX11_take_73 rfl (lv_at hl 5 rfl) ?_
                      refine lv_aload hx hb dX11_take_74 (lv_at hl 0 rfl) ?_
                      refine rl_get (v := .ref (E 2 n0 + 2)) hC hW fl_X11_152 h0 rfl dX11_take_76 ?_
                      refine lv_iload_n hx hb dX11_take_79 rfl (lv_at hl 4 rfl) ?_
                      refine rl_aald_n 3 hC hW rfl h2 (by omega) (by omega) dX11_take_80 ?_
                      obtain ⟨r1, er1⟩ : ∃ r : Option Nat, r = gt (i0) := ⟨_, rfl⟩
                      refine rl_topqq er1.symm ?_
                      refine rl_astT (r := r1) hC hW hpl (fun q e => (hI.at hok1 ((er1.trans hge).symm.trans e)).1) (by omega) (by decide) dX11_take_81 (fun H locs hW => ?_)
                      replace hI := hI.setp (p := q0) (r := r1) (hd := G.2.2.2 1 (5 * n0 + i0)) hpl (er1.trans hge) hok1
                      have hG2 : GW T ρ κ (gX G 0 (va_up (G.2.2.2 0) q0 (G.2.2.2 1 (5 * n0 + i0)))) := hG.pl hok1.hok
                      obtain ⟨hF0, hEV, hRV, ⟨v5, hx0⟩, ⟨gpl, hpl, hpt⟩, ⟨⟨ggn, hgn, hgnE⟩, ⟨ggp, hgp, hgq⟩⟩, ⟨⟨fz, htp⟩, ⟨glv, hlv, hlvE⟩, ⟨gfr, hfr⟩⟩, hRW, hRC, hIN⟩ := id hI
                      refine lv_aload_n hx hb dX11_take_82 rfl (lv_at hl 2 rfl) ?_
                      refine rl_get (v := .ref (x + 52)) hC hW fl_X11_18 hx0 rfl dX11_take_83 ?_
                      refine lv_iload_n hx hb dX11_take_86 rfl (lv_at hl 5 rfl) ?_
                      refine rl_aald_n 3 hC hW rfl hpl (by omega) (by decide) dX11_take_87 ?_
                      obtain ⟨r2, er2⟩ : ∃ r : Option Nat, r = gpl (q0) := ⟨_, rfl⟩
                      refine rl_topqq er2.symm ?_
                      have hp1 := (hpt q0 hq0).1
                      rw [show (gX G 0 (va_up (G.2.2.2 0) q0 (G.2.2.2 1 (5 * n0 + i0)))).2.2.2 0 q0 = G.2.2.2 1 (5 * n0 + i0) from va_up_s _ _ _] at hp1
                      refine rl_calliQ (rl_runS (As := [va_rf (r2)]) (rest := []) hC hW (cC_familyOf l D t A _ z x T ρ κ (gX G 0 (va_up (G.2.2.2 0) q0 (G.2.2.2 1 (5 * n0 + i0)))) E _ _ hI hT hG2 (G.2.2.2 1 (5 * n0 + i0)) r2 (er2.trans hp1) hok1) cs_X11_111 sm_X11_familyOf ⟨(Nat.le_of_ble_eq_true rfl), (Nat.le_of_ble_eq_true rfl)⟩ rfl hl.1 rfl (Nat.le_of_ble_eq_true rfl) dX11_take_88 ⟨(Nat.le_of_ble_eq_true rfl), (Nat.le_of_ble_eq_true rfl)⟩) hW (fun r f1 H locs hp hW => ?_)
                      obtain ⟨rfl, rfl⟩ := hp
                      exact rl_iret hC hW hr hlk (Nat.le_refl _) (Nat.le_refl _) ⟨_, rfl, rfl, rfl, ρ, κ, gX G 0 (va_up (G.2.2.2 0) q0 (G.2.2.2 1 (5 * n0 + i0))), E, (by simp only [f_take, pu_at, ob, pu_ix_s hp0 (by decide), hh, pu_ix_s hi0 (show G.1 2 n0 < 2 ^ 31 by omega), pu_ix_s hq0 (by decide), if_neg hnn]), hI⟩ dX11_take_91
                    · exact absurd rfl c9
              · have hq := hp
                refine lv_if_eq (tgt := 67) hx hb dX11_take_55 (by decide) (fun c9 => ?_) (fun c9 => ?_)
                · refine lv_iconst (v := (-1)) hx hb dX11_take_67 (by decide) ?_
                  exact rl_iret hC hW hr hlk (Nat.le_refl _) (Nat.le_refl _) ⟨_, rfl, rfl, rfl, ρ, κ, G, E, (by simp only [f_take, pu_at, ob, pu_ix_s hp0 (by decide), hh, pu_ix_n (n := G.1 2 n0) (by omega) hq]), hI⟩ dX11_take_68
                · exact absurd rfl c9
      · have hq := hp
        refine lv_if_eq (tgt := 44) hx hb dX11_take_15 (by decide) (fun c9 => ?_) (fun c9 => ?_)
        · refine lv_iconst (v := (-1)) hx hb dX11_take_44 (by decide) ?_
          exact rl_iret hC hW hr hlk (Nat.le_refl _) (Nat.le_refl _) ⟨_, rfl, rfl, rfl, ρ, κ, G, E, ft_no hq, hI⟩ dX11_take_45
        · exact absurd rfl c9
  · have hq := hp
    refine lv_if_eq (tgt := 44) hx hb dX11_take_6 (by decide) (fun c9 => ?_) (fun c9 => ?_)
    · refine lv_iconst (v := (-1)) hx hb dX11_take_44 (by decide) ?_
      exact rl_iret hC hW hr hlk (Nat.le_refl _) (Nat.le_refl _) ⟨_, rfl, rfl, rfl, ρ, κ, G, E, (by simp only [f_take, pu_at, ob, pu_ix_n (n := 10) (by decide) hq]), hI⟩ dX11_take_45
    · exact absurd rfl c9

set_option maxHeartbeats 4000000 in
set_option maxRecDepth 100000 in
theorem cC_hold (l : Launch) (D : va_G) (t : Nat → ClassId) (A : Nat → Prop) (f : rl_M) (z : Nat) (x : Nat) (T : Nat → Nat → Nat) (ρ κ : Nat) (G : pG) (E : Nat → Nat → Nat) (hI : CI t f x T ρ κ G E) (hT : rt_ok T) (hG : GW T ρ κ G) (x1 x2 x3 x4 : Int32) : rl_Met l yX11_hold (.code yX11_hold cX11_hold 7 (some FieldType.int)) (rl_rm 3 0 0) D t A f z [.ref (x), .int (x1), .int (x2), .int (x3), .int (x4)] (rl_qi z fun r f1 => ∃ ρ' κ' G' E', f_hold T ρ κ G x1 x2 x3 x4 = (r, ρ', κ', G') ∧ CI t f1 x T ρ' κ' G' E') := by
  refine rl_begin (own := RX11) (lv := [(0, .ref (x)), (1, .int (x1)), (2, .int (x2)), (3, .int (x3)), (4, .int (x4))]) (by decide +kernel) rfl (Nat.le_of_ble_eq_true rfl) rfl fun p e s m0 args below meth c ls H locs hC hr hlk hnm hW hl hx hb => ?_
  replace hI : CJ t _ x T ρ κ G E (G.2.1 0) (G.2.1 0 3) := hI
  obtain ⟨hF0, hEV, hRV, ⟨v5, hx0⟩, ⟨gpl, hpl, hpt⟩, ⟨⟨ggn, hgn, hgnE⟩, ⟨ggp, hgp, hgq⟩⟩, ⟨⟨fz, htp⟩, ⟨glv, hlv, hlvE⟩, ⟨gfr, hfr⟩⟩, hRW, hRC, hIN⟩ := id hI
  obtain ⟨hk0, -, -⟩ := id hI.1
  refine lv_aload_n hx hb dX11_hold_0 rfl (lv_at hl 0 rfl) ?_
  refine rl_get (v := .ref (x + 1)) hC hW fl_X11_10 hx0 rfl dX11_hold_1 ?_
  refine lv_iload_n hx hb dX11_hold_4 rfl (lv_at hl 2 rfl) ?_
  refine lv_iload_n hx hb dX11_hold_5 rfl (lv_at hl 3 rfl) ?_
  refine rl_callqQ (rl_runV (b := x + 1) (As := [.int (x2), .int (x3)]) (rest := []) hC hW (cC_enumVersion l D t A _ z x T ρ κ G E _ _ hI _ _) cs_X11_44 im_X3_enumVersion sl_X3_enumVersion hk0 rfl ⟨(Nat.le_of_ble_eq_true rfl), (Nat.le_of_ble_eq_true rfl)⟩ rfl hl.1 rfl (Nat.le_of_ble_eq_true rfl) dX11_hold_6 ⟨(Nat.le_of_ble_eq_true rfl), (Nat.le_of_ble_eq_true rfl)⟩) hW (fun r1 f1 H locs hp hW => ?_)
  obtain ⟨rfl, hp⟩ := hp
  rcases hp with ⟨k, v, hk, hv, rfl, rfl, rfl⟩ | ⟨rfl, hp⟩
  · refine lv_astore (lv' := [(5, .ref (x + 3 + 2 * (3 * k + v))), (0, .ref (x)), (1, .int (x1)), (2, .int (nI (k))), (3, .int (nI (v))), (4, .int (x4))]) hx hb dX11_hold_9 hl (by decide) rfl (fun ls hl => ?_)
    refine lv_iload_n hx hb dX11_hold_11 rfl (lv_at hl 2 rfl) ?_
    refine lv_bipush (v := (nI (10))) hx hb dX11_hold_12 (by decide) ?_
    refine rl_calliQ (rl_runS (As := [.int (x1), .int (nI (10))]) (rest := []) hC hW (cC_below l D t A _ z _ (10) (by omega)) cs_X11_48 sm_X11_below ⟨(Nat.le_of_ble_eq_true rfl), (Nat.le_of_ble_eq_true rfl)⟩ rfl hl.1 rfl (Nat.le_of_ble_eq_true rfl) dX11_hold_14 ⟨(Nat.le_of_ble_eq_true rfl), (Nat.le_of_ble_eq_true rfl)⟩) hW (fun r f1 H locs hp hW => ?_)
    obtain ⟨rfl, hp⟩ := hp
    rcases hp with ⟨rfl, hp⟩ | ⟨rfl, hp⟩
    · obtain ⟨p0, hp0, rfl⟩ := hp
      refine lv_if_eq (tgt := 35) hx hb dX11_hold_17 (by decide) (fun c9 => ?_) (fun c9 => ?_)
      · exact absurd c9 (by decide)
      · refine lv_aload hx hb dX11_hold_20 (lv_at hl 0 rfl) ?_
        refine lv_ifnull hx hb dX11_hold_22 ?_
        refine lv_iload hx hb dX11_hold_25 (lv_at hl 5 rfl) ?_
        refine lv_bipush (v := (nI (10))) hx hb dX11_hold_27 (by decide) ?_
        refine rl_calliQ (rl_runS (As := [.int (x4), .int (nI (10))]) (rest := []) hC hW (cC_below l D t A _ z _ (10) (by omega)) cs_X11_48 sm_X11_below ⟨(Nat.le_of_ble_eq_true rfl), (Nat.le_of_ble_eq_true rfl)⟩ rfl hl.1 rfl (Nat.le_of_ble_eq_true rfl) dX11_hold_29 ⟨(Nat.le_of_ble_eq_true rfl), (Nat.le_of_ble_eq_true rfl)⟩) hW (fun r f1 H locs hp hW => ?_)
        obtain ⟨rfl, hp⟩ := hp
        rcases hp with ⟨rfl, hp⟩ | ⟨rfl, hp⟩
        · obtain ⟨n, hn, rfl⟩ := hp
          refine lv_if_ne (tgt := 37) hx hb dX11_hold_32 (by decide) (fun c9 => ?_) (fun c9 => ?_)
          · have hb6 : 3 * k + v < 6 := by omega
            obtain ⟨hev, h10, -⟩ := hI.2.1 _ hb6
            refine lv_aload hx hb dX11_hold_37 (lv_at hl 0 rfl) ?_
            refine lv_iload hx hb dX11_hold_39 (lv_at hl 5 rfl) ?_
            refine lv_i2l hx hb dX11_hold_41 rfl ?_
            refine rl_callqQ (rl_runV (b := x + 3 + 2 * (3 * k + v)) (As := [.long ((nI (n)).toInt64)]) (rest := []) hC hW (cC_named l D t A _ z x T ρ κ G E _ _ hI (3 * k + v) hb6 _) cs_X11_52 im_X2_named sl_X2_named hev rfl ⟨(Nat.le_of_ble_eq_true rfl), (Nat.le_of_ble_eq_true rfl)⟩ rfl hl.1 rfl (Nat.le_of_ble_eq_true rfl) dX11_hold_42 ⟨(Nat.le_of_ble_eq_true rfl), (Nat.le_of_ble_eq_true rfl)⟩) hW (fun r2 f1 H locs hp hW => ?_)
            obtain ⟨rfl, hp⟩ := hp
            rcases hp with ⟨i, hi, rfl, hp⟩ | ⟨rfl, hp⟩
            · have hck : cok T ρ κ (hcon (10 * (3 * k + v) + i)) := ⟨by omega, by rw [show (10 * (3 * k + v) + i) % 10 = i by omega, show (10 * (3 * k + v) + i) / 10 = 3 * k + v by omega]; exact hi⟩
              obtain ⟨hev9, h109, gc9, hca9, hcc9⟩ := id (hI.2.1 _ hb6)
              obtain ⟨hq1, hq2, hq3⟩ := hcc9 i hi
              refine lv_astore (lv' := [(6, .ref (E 0 (10 * (3 * k + v) + i))), (5, .ref (x + 3 + 2 * (3 * k + v))), (0, .ref (x)), (1, .int (nI (p0))), (2, .int (nI (k))), (3, .int (nI (v))), (4, .int (nI (n)))]) hx hb dX11_hold_45 hl (by decide) rfl (fun ls hl => ?_)
              refine lv_aload hx hb dX11_hold_47 (lv_at hl 0 rfl) ?_
              refine lv_ifnonnull (tgt := 55) hx hb dX11_hold_49 (by decide) ?_
              refine lv_aload_n hx hb dX11_hold_55 rfl (lv_at hl 2 rfl) ?_
              refine rl_get (v := .ref (x + 52)) hC hW fl_X11_18 hx0 rfl dX11_hold_56 ?_
              refine lv_iload_n hx hb dX11_hold_59 rfl (lv_at hl 3 rfl) ?_
              refine lv_aload hx hb dX11_hold_60 (lv_at hl 0 rfl) ?_
              refine rl_astT (r := some (E 0 (10 * (3 * k + v) + i))) hC hW hpl (fun q e => by cases e; exact Or.inl ⟨_, hq3⟩) (by omega) (by decide) dX11_hold_62 (fun H locs hW => ?_)
              replace hI := hI.setp (p := p0) (r := some (E 0 (10 * (3 * k + v) + i))) (hd := hcon (10 * (3 * k + v) + i)) hpl rfl hck
              replace hq3 := (rl_up_n (a := x + 52) (b := E 0 (10 * (3 * k + v) + i)) (e := .inl (t 3, 10, .inr (.inr (.inr (.inr (va_up gpl p0 (some (E 0 (10 * (3 * k + v) + i))))))))) (by omega)).trans hq3
              refine lv_aload hx hb dX11_hold_63 (lv_at hl 0 rfl) ?_
              refine rl_get (v := .int (nI (i))) hC hW fl_X11_98 hq3 rfl dX11_hold_65 ?_
              exact rl_iret hC hW hr hlk (Nat.le_refl _) (Nat.le_refl _) ⟨_, rfl, rfl, rfl, ρ, κ, gX G 0 (va_up (G.2.2.2 0) p0 (hcon (10 * (3 * k + v) + i))), E, (by simp only [f_hold, ob, pu_ix_s hp0 (by decide), pu_ix_s hk (by decide), pu_ix_s hv (by decide), pu_ix_s hn (by decide), hp]), hI⟩ dX11_hold_68
            · refine lv_astoreN (lv' := [(6, .null), (5, .ref (x + 3 + 2 * (3 * k + v))), (0, .ref (x)), (1, .int (nI (p0))), (2, .int (nI (k))), (3, .int (nI (v))), (4, .int (nI (n)))]) hx hb dX11_hold_45 hl (by decide) rfl (fun ls hl => ?_)
              refine lv_aloadN hx hb dX11_hold_47 (lv_at hl 0 rfl) ?_
              refine lv_ifnonnullN hx hb dX11_hold_49 ?_
              refine lv_bipush (v := (-3)) hx hb dX11_hold_52 (by decide) ?_
              exact rl_iret hC hW hr hlk (Nat.le_refl _) (Nat.le_refl _) ⟨_, rfl, rfl, rfl, ρ, κ, G, E, (by simp only [f_hold, ob, pu_ix_s hp0 (by decide), pu_ix_s hk (by decide), pu_ix_s hv (by decide), pu_ix_s hn (by decide), hp]), hI⟩ dX11_hold_54
          · exact absurd c9 (by decide)
        · have hq := hp
          refine lv_if_ne (tgt := 37) hx hb dX11_hold_32 (by decide) (fun c9 => ?_) (fun c9 => ?_)
          · exact absurd rfl c9
          · refine lv_iconst (v := (-1)) hx hb dX11_hold_35 (by decide) ?_
            exact rl_iret hC hW hr hlk (Nat.le_refl _) (Nat.le_refl _) ⟨_, rfl, rfl, rfl, ρ, κ, G, E, (by simp only [f_hold, ob, pu_ix_s hp0 (by decide), pu_ix_s hk (by decide), pu_ix_s hv (by decide), pu_ix_n (n := 10) (by decide) hq]), hI⟩ dX11_hold_36
    · have hq := hp
      refine lv_if_eq (tgt := 35) hx hb dX11_hold_17 (by decide) (fun c9 => ?_) (fun c9 => ?_)
      · refine lv_iconst (v := (-1)) hx hb dX11_hold_35 (by decide) ?_
        exact rl_iret hC hW hr hlk (Nat.le_refl _) (Nat.le_refl _) ⟨_, rfl, rfl, rfl, ρ, κ, G, E, (by simp only [f_hold, ob, pu_ix_n (n := 10) (by decide) hq]), hI⟩ dX11_hold_36
      · exact absurd rfl c9
  · have hp9 := hp
    refine lv_astoreN (lv' := [(5, .null), (0, .ref (x)), (1, .int (x1)), (2, .int (x2)), (3, .int (x3)), (4, .int (x4))]) hx hb dX11_hold_9 hl (by decide) rfl (fun ls hl => ?_)
    refine lv_iload_n hx hb dX11_hold_11 rfl (lv_at hl 2 rfl) ?_
    refine lv_bipush (v := (nI (10))) hx hb dX11_hold_12 (by decide) ?_
    refine rl_calliQ (rl_runS (As := [.int (x1), .int (nI (10))]) (rest := []) hC hW (cC_below l D t A _ z _ (10) (by omega)) cs_X11_48 sm_X11_below ⟨(Nat.le_of_ble_eq_true rfl), (Nat.le_of_ble_eq_true rfl)⟩ rfl hl.1 rfl (Nat.le_of_ble_eq_true rfl) dX11_hold_14 ⟨(Nat.le_of_ble_eq_true rfl), (Nat.le_of_ble_eq_true rfl)⟩) hW (fun r f1 H locs hp hW => ?_)
    obtain ⟨rfl, hp⟩ := hp
    rcases hp with ⟨rfl, hp⟩ | ⟨rfl, hp⟩
    · obtain ⟨p0, hp0, rfl⟩ := hp
      refine lv_if_eq (tgt := 35) hx hb dX11_hold_17 (by decide) (fun c9 => ?_) (fun c9 => ?_)
      · exact absurd c9 (by decide)
      · refine lv_aloadN hx hb dX11_hold_20 (lv_at hl 0 rfl) ?_
        refine lv_ifnullN (tgt := 35) hx hb dX11_hold_22 (by decide) ?_
        refine lv_iconst (v := (-1)) hx hb dX11_hold_35 (by decide) ?_
        exact rl_iret hC hW hr hlk (Nat.le_refl _) (Nat.le_refl _) ⟨_, rfl, rfl, rfl, ρ, κ, G, E, fh_no hp9, hI⟩ dX11_hold_36
    · have hq := hp
      refine lv_if_eq (tgt := 35) hx hb dX11_hold_17 (by decide) (fun c9 => ?_) (fun c9 => ?_)
      · refine lv_iconst (v := (-1)) hx hb dX11_hold_35 (by decide) ?_
        exact rl_iret hC hW hr hlk (Nat.le_refl _) (Nat.le_refl _) ⟨_, rfl, rfl, rfl, ρ, κ, G, E, fh_no hp9, hI⟩ dX11_hold_36
      · exact absurd rfl c9

theorem rg_sub2 {y : Int32} {o : Nat} (h : y - nI 2 = nI o) : y = nI (2 + o) := by
  have h1 : y = nI o + nI 2 := by rw [← h, Int32.sub_add_cancel]
  rw [h1, nI_add]
  congr 1
  omega
def rt_may (s0 : Nat) (y : Int32) : Prop := (s0 = 2 → ∃ o : Nat, o < 2 ∧ y = nI o) ∧ (s0 = 3 → ∃ o : Nat, o < 4 ∧ y = nI (2 + o))

set_option maxHeartbeats 4000000 in
set_option maxRecDepth 100000 in
theorem cC_mayBeOf (l : Launch) (D : va_G) (t : Nat → ClassId) (A : Nat → Prop) (f : rl_M) (z : Nat) (s0 : Nat) (hs0 : s0 < 5) (y : Int32) : rl_Met l yX11_mayBeOf (.code yX11_mayBeOf cX11_mayBeOf 2 (some FieldType.boolean)) (rl_rm 1 0 0) D t A f z [.int (nI (s0)), .int (y)] (rl_qi z fun r f1 => f = f1 ∧ ((r = 1 ∧ rt_may s0 y) ∨ (r = 0 ∧ ¬ rt_may s0 y))) := by
  refine rl_begin (own := RX11) (lv := [(0, .int (nI (s0))), (1, .int (y))]) (by decide +kernel) rfl (Nat.le_of_ble_eq_true rfl) rfl fun p e s m0 args below meth c ls H locs hC hr hlk hnm hW hl hx hb => ?_
  refine lv_iload_n hx hb dX11_mayBeOf_0 rfl (lv_at hl 0 rfl) ?_
  refine lv_iconst (v := (nI (2))) hx hb dX11_mayBeOf_1 (by decide) ?_
  refine lv_icmp_ne (tgt := 11) hx hb dX11_mayBeOf_2 (by decide) (fun c1 => ?_) (fun c1 => ?_)
  · have n2 : s0 ≠ 2 := fun q => c1 (by rw [q])
    refine lv_iload_n hx hb dX11_mayBeOf_11 rfl (lv_at hl 0 rfl) ?_
    refine lv_iconst (v := (nI (3))) hx hb dX11_mayBeOf_12 (by decide) ?_
    refine lv_icmp_ne (tgt := 26) hx hb dX11_mayBeOf_13 (by decide) (fun c2 => ?_) (fun c2 => ?_)
    · have n3 : s0 ≠ 3 := fun q => c2 (by rw [q])
      refine lv_iconst (v := (nI (1))) hx hb dX11_mayBeOf_26 (by decide) ?_
      refine lv_goto (tgt := 31) hx hb dX11_mayBeOf_27 (by decide) ?_
      exact rl_zret hC hW hr hlk rfl (Nat.le_refl _) (Nat.le_refl _) ⟨_, rfl, rfl, rfl, rfl, Or.inl ⟨by decide, fun q => absurd q n2, fun q => absurd q n3⟩⟩ dX11_mayBeOf_31
    · have e3 : s0 = 3 := (nI_eq (by omega) (by decide)).mp c2
      refine lv_iload_n hx hb dX11_mayBeOf_16 rfl (lv_at hl 1 rfl) ?_
      refine lv_iconst (v := (nI (2))) hx hb dX11_mayBeOf_17 (by decide) ?_
      refine lv_isub hx hb dX11_mayBeOf_18 ?_
      refine lv_topi (fun x_1 ex_1 => ?_)
      refine lv_iconst (v := (nI (4))) hx hb dX11_mayBeOf_19 (by decide) ?_
      refine rl_calliQ (rl_runS (As := [.int (x_1), .int (nI (4))]) (rest := []) hC hW (cC_below l D t A _ z _ 4 (by decide)) cs_X11_48 sm_X11_below ⟨(Nat.le_of_ble_eq_true rfl), (Nat.le_of_ble_eq_true rfl)⟩ rfl hl.1 rfl (Nat.le_of_ble_eq_true rfl) dX11_mayBeOf_20 ⟨(Nat.le_of_ble_eq_true rfl), (Nat.le_of_ble_eq_true rfl)⟩) hW (fun r f1 H locs hp hW => ?_)
      obtain ⟨rfl, hp⟩ := hp
      rcases hp with ⟨rfl, hp⟩ | ⟨rfl, hp⟩
      · obtain ⟨o, ho, hoe⟩ := hp
        have hy : y = nI (2 + o) := rg_sub2 (by rw [← ex_1]; exact hoe)
        refine lv_if_eq (tgt := 30) hx hb dX11_mayBeOf_23 (by decide) (fun c9 => ?_) (fun c9 => ?_)
        · exact absurd c9 (by decide)
        · refine lv_iconst (v := (nI (1))) hx hb dX11_mayBeOf_26 (by decide) ?_
          refine lv_goto (tgt := 31) hx hb dX11_mayBeOf_27 (by decide) ?_
          exact rl_zret hC hW hr hlk rfl (Nat.le_refl _) (Nat.le_refl _) ⟨_, rfl, rfl, rfl, rfl, Or.inl ⟨by decide, fun q => absurd q n2, fun _ => ⟨o, ho, hy⟩⟩⟩ dX11_mayBeOf_31
      · refine lv_if_eq (tgt := 30) hx hb dX11_mayBeOf_23 (by decide) (fun c9 => ?_) (fun c9 => ?_)
        · refine lv_iconst (v := (nI (0))) hx hb dX11_mayBeOf_30 (by decide) ?_
          exact rl_zret hC hW hr hlk rfl (Nat.le_refl _) (Nat.le_refl _) ⟨_, rfl, rfl, rfl, rfl, Or.inr ⟨by decide, fun h => by
            obtain ⟨o, ho, hy⟩ := h.2 e3
            exact hp ⟨o, ho, by rw [ex_1, hy]; exact rg_sub (c := o) (by omega)⟩⟩⟩ dX11_mayBeOf_31
        · exact absurd rfl c9
  · refine lv_iload_n hx hb dX11_mayBeOf_5 rfl (lv_at hl 1 rfl) ?_
    refine lv_iconst (v := (nI (2))) hx hb dX11_mayBeOf_6 (by decide) ?_
    refine rl_calliQ (rl_runS (As := [.int (y), .int (nI (2))]) (rest := []) hC hW (cC_below l D t A _ z _ 2 (by decide)) cs_X11_48 sm_X11_below ⟨(Nat.le_of_ble_eq_true rfl), (Nat.le_of_ble_eq_true rfl)⟩ rfl hl.1 rfl (Nat.le_of_ble_eq_true rfl) dX11_mayBeOf_7 ⟨(Nat.le_of_ble_eq_true rfl), (Nat.le_of_ble_eq_true rfl)⟩) hW (fun r f1 H locs hp hW => ?_)
    obtain ⟨rfl, hp⟩ := hp
    have e2 : s0 = 2 := (nI_eq (by omega) (by decide)).mp c1
    rcases hp with ⟨rfl, hp⟩ | ⟨rfl, hp⟩
    · exact rl_zret hC hW hr hlk rfl (Nat.le_refl _) (Nat.le_refl _) ⟨_, rfl, rfl, rfl, rfl, Or.inl ⟨rfl, fun _ => hp, fun q => absurd q (by omega)⟩⟩ dX11_mayBeOf_10
    · exact rl_zret hC hW hr hlk rfl (Nat.le_refl _) (Nat.le_refl _) ⟨_, rfl, rfl, rfl, rfl, Or.inr ⟨rfl, fun h => hp (h.1 e2)⟩⟩ dX11_mayBeOf_10

set_option maxHeartbeats 4000000 in
set_option maxRecDepth 100000 in
theorem cC_sortChecked (l : Launch) (D : va_G) (t : Nat → ClassId) (A : Nat → Prop) (f : rl_M) (z : Nat) (h : Nat) (hh : h < 5) : rl_Met l yX11_sortChecked (.code yX11_sortChecked cX11_sortChecked 1 (some FieldType.int)) (rl_rm 0 0 0) D t A f z [.int (nI (h))] (rl_qi z fun r f1 => f = f1 ∧ r = nI (rt_srt h)) := by
  refine rl_begin (own := RX11) (lv := [(0, .int (nI (h)))]) (by decide +kernel) rfl (Nat.le_of_ble_eq_true rfl) rfl fun p e s m0 args below meth c ls H locs hC hr hlk hnm hW hl hx hb => ?_
  have hcase : h = 0 ∨ h = 1 ∨ h = 2 ∨ h = 3 ∨ h = 4 := by omega
  rcases hcase with rfl | rfl | rfl | rfl | rfl
  · refine lv_iload_n hx hb dX11_sortChecked_0 rfl (lv_at hl 0 rfl) ?_
    refine lv_tableOut (tgt := 34) hx hb dX11_sortChecked_1 (by decide) (by decide) ?_
    refine lv_iconst (v := (nI (0))) hx hb dX11_sortChecked_34 (by decide) ?_
    exact rl_iret hC hW hr hlk (Nat.le_refl _) (Nat.le_refl _) ⟨_, rfl, rfl, rfl, rfl, by decide⟩ dX11_sortChecked_35
  · refine lv_iload_n hx hb dX11_sortChecked_0 rfl (lv_at hl 0 rfl) ?_
    refine lv_tableOut (tgt := 34) hx hb dX11_sortChecked_1 (by decide) (by decide) ?_
    refine lv_iconst (v := (nI (0))) hx hb dX11_sortChecked_34 (by decide) ?_
    exact rl_iret hC hW hr hlk (Nat.le_refl _) (Nat.le_refl _) ⟨_, rfl, rfl, rfl, rfl, by decide⟩ dX11_sortChecked_35
  · refine lv_iload_n hx hb dX11_sortChecked_0 rfl (lv_at hl 0 rfl) ?_
    refine lv_tableIn (tgt := 28) hx hb dX11_sortChecked_1 (by decide) (by decide) rfl (by decide) ?_
    refine lv_iconst (v := (nI (4))) hx hb dX11_sortChecked_28 (by decide) ?_
    exact rl_iret hC hW hr hlk (Nat.le_refl _) (Nat.le_refl _) ⟨_, rfl, rfl, rfl, rfl, by decide⟩ dX11_sortChecked_29
  · refine lv_iload_n hx hb dX11_sortChecked_0 rfl (lv_at hl 0 rfl) ?_
    refine lv_tableIn (tgt := 30) hx hb dX11_sortChecked_1 (by decide) (by decide) rfl (by decide) ?_
    refine lv_iconst (v := (nI (3))) hx hb dX11_sortChecked_30 (by decide) ?_
    exact rl_iret hC hW hr hlk (Nat.le_refl _) (Nat.le_refl _) ⟨_, rfl, rfl, rfl, rfl, by decide⟩ dX11_sortChecked_31
  · refine lv_iload_n hx hb dX11_sortChecked_0 rfl (lv_at hl 0 rfl) ?_
    refine lv_tableIn (tgt := 32) hx hb dX11_sortChecked_1 (by decide) (by decide) rfl (by decide) ?_
    refine lv_iconst (v := (nI (2))) hx hb dX11_sortChecked_32 (by decide) ?_
    exact rl_iret hC hW hr hlk (Nat.le_refl _) (Nat.le_refl _) ⟨_, rfl, rfl, rfl, rfl, by decide⟩ dX11_sortChecked_33
