
theorem cok_of {T : Nat → Nat → Nat} {ρ κ ρ' κ' : Nat} {h : pHd} (a : hok ρ κ h) (b : cok T ρ' κ' h) : cok T ρ κ h := by
  rcases h with _ | n | n | n
  · trivial
  · exact b
  · exact a
  · exact a
/-- what was made in a failed reading is forgotten -/
theorem CJ.old {t : Nat → ClassId} {f : rl_M} {x : Nat} {T : Nat → Nat → Nat} {ρ κ ρ' κ' : Nat} {G G' : pG} {E : Nat → Nat → Nat} {g : Nat → Int32} {mo : Int32} (h : CJ t f x T ρ' κ' G' E g mo) (hg : gle ρ κ G G') (hr : ρ ≤ ρ') (hk : κ ≤ κ') (hG : GW T ρ κ G) (h5 : ∀ y, y < 12 → T 2 y ≤ 5) : CJ t f x T ρ κ G E g mo := by
  obtain ⟨h1, h2, h3, h4, ⟨gp, h5a, h5b⟩, ⟨⟨g6, h6a, h6b⟩, ⟨g7, h6c, h6d⟩⟩, ⟨⟨fz, h7a⟩, ⟨g8, h7b, h7c⟩, h7d⟩, hw, hc, hi⟩ := h
  obtain ⟨g1, g2, g3, g4, g5, g6', g7', g8', g9, g10⟩ := hg
  refine ⟨h1, h2, h3, h4, ⟨gp, h5a, fun p hp => ?_⟩, ⟨⟨g6, h6a, fun p hp => by rw [h6b p hp, g8']⟩, ⟨g7, h6c, fun p hp => by rw [h6d p hp, g5]⟩⟩, ⟨⟨fz, by rw [← g6']; exact h7a⟩, ⟨g8, h7b, fun k hk => by rw [h7c k (by rw [g6']; exact hk), g9]⟩, h7d⟩, fun r hr2 => ?_, fun r hr2 => ?_, ⟨fun r r' q1 q2 e => hi.1 r r' (by omega) (by omega) e, fun r r' q1 q2 e => hi.2 r r' (by omega) (by omega) e⟩⟩
  · have h9 := h5b p hp
    rw [g10] at h9
    exact ⟨h9.1, cok_of (hG.2.2.1 p hp) h9.2⟩
  · obtain ⟨k1, k2, gi, k3, k4⟩ := hw r (by omega)
    rw [g1 r hr2] at k3 k4
    refine ⟨k1, k2, gi, k3, fun i hi => ?_⟩
    have := hG.1 r hr2
    rw [k4 i hi, g2 _ (by omega)]
  · obtain ⟨k1, k2, ⟨gn, k3, k4⟩, ⟨gt, k5, k6⟩⟩ := hc r (by omega)
    obtain ⟨e1, e2⟩ := g3 r hr2
    obtain ⟨m1, m2, m3⟩ := hG.2.1 r hr2
    have m5 := h5 _ m1
    rw [e1] at k2
    rw [e2] at k3 k4 k5 k6
    refine ⟨k1, k2, ⟨gn, k3, fun p hp => ?_⟩, ⟨gt, k5, fun p hp => ?_⟩⟩
    · rw [k4 p hp, (g4 _ (by omega)).1]
    · have h9 := k6 p hp
      rw [(g4 (5 * r + p) (by omega)).2] at h9
      exact ⟨h9.1, cok_of (m3 p hp).1 h9.2⟩

set_option maxHeartbeats 4000000 in
set_option maxRecDepth 100000 in
theorem cC_Reader_init (l : Launch) (D : va_G) (t : Nat → ClassId) (A : Nat → Prop) (f : rl_M) (z : Nat) (a k1 k2 : Nat) (v : Int32) (h0 : f a = some (.inr (5, [.null, .null, .int 0, .int 0, .int 0, .int 0, .int 0, .int 0]))) : rl_Met l yX5_init (.code yX5_init cX5_init 4 none) (rl_rm 1 0 0) D t A f z [.ref (a), .ref (k1), .ref (k2), .int (v)] (rl_qv z fun f1 => rl_up f a (.inr (5, [.ref k1, .ref k2, .int v, .int 0, .int 0, .int 0, .int 0, .int 0])) = f1) := by
  refine rl_begin (own := RX5) (lv := [(0, .ref (a)), (1, .ref (k1)), (2, .ref (k2)), (3, .int (v))]) (by decide +kernel) rfl (Nat.le_of_ble_eq_true rfl) rfl fun p e s m0 args below meth c ls H locs hC hr hlk hnm hW hl hx hb => ?_
  refine lv_aload_n hx hb dX5_init_0 rfl (lv_at hl 0 rfl) ?_
  refine rl_objInit hC mw_544 mw_22 mw_23 hl.1 dX5_init_1 (Nat.le_of_ble_eq_true rfl) (Nat.le_of_ble_eq_true rfl) ?_
  refine lv_aload_n hx hb dX5_init_4 rfl (lv_at hl 0 rfl) ?_
  refine lv_aload_n hx hb dX5_init_5 rfl (lv_at hl 1 rfl) ?_
  refine rl_putF (v := .ref (k1)) hC hW fp_X5_9 hnm h0 (Nat.le_of_ble_eq_true rfl) rfl rfl dX5_init_6 (fun H locs hW => ?_)
  refine lv_aload_n hx hb dX5_init_9 rfl (lv_at hl 0 rfl) ?_
  refine lv_aload_n hx hb dX5_init_10 rfl (lv_at hl 2 rfl) ?_
  refine rl_putF (v := .ref (k2)) hC hW fp_X5_15 hnm (rl_up_s _ _ _) (Nat.le_of_ble_eq_true rfl) rfl rfl dX5_init_11 (fun H locs hW => ?_)
  rw [rl_up_up2] at hW
  refine lv_aload_n hx hb dX5_init_14 rfl (lv_at hl 0 rfl) ?_
  refine lv_iload_n hx hb dX5_init_15 rfl (lv_at hl 3 rfl) ?_
  refine rl_putF (v := .int (v)) hC hW fp_X5_19 hnm (rl_up_s _ _ _) (Nat.le_of_ble_eq_true rfl) rfl rfl dX5_init_16 (fun H locs hW => ?_)
  rw [rl_up_up2] at hW
  exact rl_vret hC hW hr hlk (Nat.le_refl _) (Nat.le_refl _) ⟨rfl, rfl, rfl, rfl⟩ dX5_init_19

set_option maxHeartbeats 4000000 in
set_option maxRecDepth 100000 in
theorem cC_read (l : Launch) (D : va_G) (t : Nat → ClassId) (A : Nat → Prop) (f : rl_M) (z : Nat) (x : Nat) (T : Nat → Nat → Nat) (ρ κ : Nat) (G : pG) (E : Nat → Nat → Nat) (hI : CI t f x T ρ κ G E) (hT : rt_ok T) (hG : GW T ρ κ G) (x1 x2 : Int32) : rl_Met l yX11_read (.code yX11_read cX11_read 5 (some FieldType.int)) (rl_rm 28 751 3258) D t A f z [.ref (x), .int (x1), .int (x2)] (rl_pi fun r f1 z1 d1 => (∃ ρ' κ' G' E', f_read T ρ κ G x1 x2 = (r, ρ', κ', G') ∧ CI t f1 x T ρ' κ' G' E') ∧ z1 ≤ z + 751 ∧ d1 ≤ 3258) := by
  refine rl_begin (own := RX11) (lv := [(0, .ref (x)), (1, .int (x1)), (2, .int (x2))]) (by decide +kernel) rfl (Nat.le_of_ble_eq_true rfl) rfl fun p e s m0 args below meth c ls H locs hC hr hlk hnm hW hl hx hb => ?_
  replace hI : CJ t _ x T ρ κ G E (G.2.1 0) (G.2.1 0 3) := hI
  have hzx : x + 58 ≤ z := by obtain ⟨-, -, -, -, -, -, ⟨-, -, ⟨g9, e9⟩⟩, -⟩ := id hI; exact hW.lt e9
  obtain ⟨hF0, hEV, hRV, ⟨v5, hx0⟩, ⟨gpl, hpl, hpt⟩, ⟨⟨ggn, hgn, hgnE⟩, ⟨ggp, hgp, hgq⟩⟩, ⟨⟨fz, htp⟩, ⟨glv, hlv, hlvE⟩, ⟨gfr, hfr⟩⟩, hRW, hRC, hIN⟩ := id hI
  refine lv_iload_n hx hb dX11_read_0 rfl (lv_at hl 1 rfl) ?_
  refine lv_iconst (v := (nI (3))) hx hb dX11_read_1 (by decide) ?_
  refine rl_calliQ (rl_runS (As := [.int (x1), .int (nI (3))]) (rest := []) hC hW (cC_below l D t A _ z _ (3) (by omega)) cs_X11_48 sm_X11_below ⟨(Nat.le_of_ble_eq_true rfl), (Nat.le_of_ble_eq_true rfl)⟩ rfl hl.1 rfl (Nat.le_of_ble_eq_true rfl) dX11_read_2 ⟨by simp only [rl_rm]; omega, by simp only [rl_rm]; omega⟩) hW (fun r f1 H locs hp hW => ?_)
  obtain ⟨rfl, hp⟩ := hp
  rcases hp with ⟨rfl, hp⟩ | ⟨rfl, hp⟩
  · obtain ⟨v0, hv0, rfl⟩ := hp
    refine lv_if_eq (tgt := 17) hx hb dX11_read_5 (by decide) (fun c9 => ?_) (fun c9 => ?_)
    · exact absurd c9 (by decide)
    · refine lv_iload_n hx hb dX11_read_8 rfl (lv_at hl 2 rfl) ?_
      refine lv_bipush (v := (nI (10))) hx hb dX11_read_9 (by decide) ?_
      refine rl_calliQ (rl_runS (As := [.int (x2), .int (nI (10))]) (rest := []) hC hW (cC_below l D t A _ z _ (10) (by omega)) cs_X11_48 sm_X11_below ⟨(Nat.le_of_ble_eq_true rfl), (Nat.le_of_ble_eq_true rfl)⟩ rfl hl.1 rfl (Nat.le_of_ble_eq_true rfl) dX11_read_11 ⟨by simp only [rl_rm]; omega, by simp only [rl_rm]; omega⟩) hW (fun r f1 H locs hp hW => ?_)
      obtain ⟨rfl, hp⟩ := hp
      rcases hp with ⟨rfl, hp⟩ | ⟨rfl, hp⟩
      · obtain ⟨p0, hp0, rfl⟩ := hp
        refine lv_if_ne (tgt := 19) hx hb dX11_read_14 (by decide) (fun c9 => ?_) (fun c9 => ?_)
        · have hfz := hW.fresh
          refine rl_new hC hW cn_X11_174 (by simp only [rl_rm]; omega) (by simp only [rl_rm]; omega) dX11_read_19 (fun H hW => ?_)
          have hx1 := rl_le.fresh (e := .inr (5, [.null, .null, .int 0, .int 0, .int 0, .int 0, .int 0, .int 0])) hfz _ _ hx0
          refine lv_dup hx hb dX11_read_22 rfl ?_
          refine lv_aload_n hx hb dX11_read_23 rfl (lv_at hl 0 rfl) ?_
          refine rl_get (v := .ref (x + 1)) hC hW fl_X11_10 hx1 rfl dX11_read_24 ?_
          refine lv_aload_n hx hb dX11_read_27 rfl (lv_at hl 0 rfl) ?_
          refine rl_get (v := .ref (x + 55)) hC hW fl_X11_33 hx1 rfl dX11_read_28 ?_
          refine lv_iload_n hx hb dX11_read_31 rfl (lv_at hl 1 rfl) ?_
          refine rl_callvQ (rl_runI (b := z) (As := [.ref (x + 1), .ref (x + 55), .int (nI (v0))]) (rest := [.ref (z)]) hC hW (cC_Reader_init l D t A _ (z + 1) z (x + 1) (x + 55) (nI v0) (rl_up_s _ _ _)) cs_X11_176 im_X5_init rfl ⟨by simp only [rl_rm]; omega, by simp only [rl_rm]; omega⟩ rfl hl.1 rfl (Nat.le_of_ble_eq_true rfl) dX11_read_32 ⟨by simp only [rl_rm]; omega, by simp only [rl_rm]; omega⟩) hW (fun f1 H locs hp hW => ?_)
          obtain rfl := hp
          rw [rl_up_up2] at hW
          have hS : cRD t (rl_up f z (.inr (5, [.ref (x + 1), .ref (x + 55), .int (nI v0), .int 0, .int 0, .int 0, .int 0, .int 0]))) x T v0 z E (G.2.1 0) (G.2.1 0 3) (0, 0, 0, 0, ρ, κ, G) := ⟨hI.le (rl_le.fresh hfz), hG, hzx, Nat.zero_le _, Nat.zero_le _, Nat.zero_le _, 0, (Int32.add_zero _).symm, rl_up_s _ _ _⟩
          refine lv_astore_n (lv' := [(3, .ref (z)), (0, .ref (x)), (1, .int (nI (v0))), (2, .int (nI (p0)))]) hx hb dX11_read_35 rfl hl (by decide) rfl (fun ls hl => ?_)
          refine lv_aload_n hx hb dX11_read_36 rfl (lv_at hl 0 rfl) ?_
          refine lv_iconst (v := (nI (1))) hx hb dX11_read_37 (by decide) ?_
          refine rl_callq (rl_runV (b := z) (As := [.int (nI (1))]) (rest := []) hC hW (cC_nextRecord l D t A x T v0 z _ _ hT hv0 6 0 rfl _ (z + 1) E (0, 0, 0, 0, ρ, κ, G) 1 (by decide) hS rfl rfl) cs_X11_179 im_X5_nextRecord sl_X5_nextRecord (rl_up_s _ _ _) rfl ⟨by simp only [rl_rm]; omega, by simp only [rl_rm]; omega⟩ rfl hl.1 rfl (Nat.le_of_ble_eq_true rfl) dX11_read_38 ⟨by simp only [rl_rm]; omega, by simp only [rl_rm]; omega⟩) hW (fun r2 f2 z1 d1 H locs hp hW hz1 => ?_)
          obtain ⟨E2, h2d, u2, he2, hr2, hS2, heg2, hon2, hz2, hd2⟩ := hp
          have hq2502 := hS2.at2
          have hq : q_rec T v0 6 true (0, -3, 0, 0, ρ, κ, G) = (h2d, u2) := (q_rec_la (l' := 0)).trans he2
          obtain ⟨hst2, hok2⟩ : qst T (0, 0, 0, 0, ρ, κ, G) u2 ∧ cok T (q_rho u2) (q_kap u2) h2d := by have h9 := st_rec hT hv0 6 true (0, 0, 0, 0, ρ, κ, G) hG; rw [show q_rec T v0 6 true (0, 0, 0, 0, ρ, κ, G) = (h2d, u2) from he2] at h9; exact h9
          obtain ⟨hgl, hrl, hkl, -⟩ := id hst2
          have hgx : ∀ i, i ≠ 3 → (q_G u2).2.1 0 i = G.2.1 0 i := hgl.2.2.2.2.2.2.1
          clear hI
          obtain ⟨hI, hGq2, hrx2, hat2, hbd2, hdp2, md2, hmd2, hrd2⟩ := hS2
          obtain ⟨mo0, emo0⟩ : ∃ q : Int32, q = G.2.1 0 3 := ⟨_, rfl⟩
          obtain ⟨hF0, hEV, hRV, ⟨v5, hx0⟩, ⟨gpl, hpl, hpt⟩, ⟨⟨ggn, hgn, hgnE⟩, ⟨ggp, hgp, hgq⟩⟩, ⟨⟨fz, htp⟩, ⟨glv, hlv, hlvE⟩, ⟨gfr, hfr⟩⟩, hRW, hRC, hIN⟩ := id hI
          refine rl_astoreq (lv' := [(4, va_rf (r2)), (3, .ref (z)), (0, .ref (x)), (1, .int (nI (v0))), (2, .int (nI (p0)))]) hx hb dX11_read_41 hl (by decide) rfl (fun ls hl => ?_)
          refine lv_aload_n hx hb dX11_read_43 rfl (lv_at hl 2 rfl) ?_
          refine lv_dup hx hb dX11_read_44 rfl ?_
          refine rl_get (v := .int ((G.2.1 0 3))) hC hW fl_X11_132 hx0 rfl dX11_read_45 ?_
          refine lv_aload_n hx hb dX11_read_48 rfl (lv_at hl 1 rfl) ?_
          refine rl_get (v := .int (md2)) hC hW fl_X11_183 hrd2 rfl dX11_read_49 ?_
          refine lv_iadd hx hb dX11_read_52 ?_
          refine lv_topi (fun x_1 ex_1 => ?_)
          refine rl_put (v := .int (x_1)) hC hW fp_X11_132 hx0 (Nat.le_of_ble_eq_true rfl) rfl rfl dX11_read_53 (fun H locs hW => ?_)
          replace hW : rl_W D A (rl_up _ x (.inr (10, [.ref (x + 1), .ref (x + 52), .ref (x + 53), .ref (x + 54), .ref (x + 55), .int v5, .int ((G.2.1 0) 0), .int ((G.2.1 0) 1), .int ((G.2.1 0) 2), .int (x_1), .int ((G.2.1 0) 4), .int ((G.2.1 0) 5)]))) z1 s.heap H locs := hW
          replace hI := hI.setx v5 (G.2.1 0) (x_1)
          replace hrd2 := (rl_up_n (a := x) (b := z) (e := .inr (10, [.ref (x + 1), .ref (x + 52), .ref (x + 53), .ref (x + 54), .ref (x + 55), .int v5, .int ((G.2.1 0) 0), .int ((G.2.1 0) 1), .int ((G.2.1 0) 2), .int (x_1), .int ((G.2.1 0) 4), .int ((G.2.1 0) 5)])) (by omega)).trans hrd2
          obtain ⟨hF0, hEV, hRV, ⟨v5, hx0⟩, ⟨gpl, hpl, hpt⟩, ⟨⟨ggn, hgn, hgnE⟩, ⟨ggp, hgp, hgq⟩⟩, ⟨⟨fz, htp⟩, ⟨glv, hlv, hlvE⟩, ⟨gfr, hfr⟩⟩, hRW, hRC, hIN⟩ := id hI
          have hmx : x_1 = (q_G u2).2.1 0 3 := by rw [ex_1, hmd2]
          refine lv_aload_n hx hb dX11_read_56 rfl (lv_at hl 1 rfl) ?_
          refine rl_get (v := .int (nI (q_bad u2))) hC hW fl_X11_184 hrd2 rfl dX11_read_57 ?_
          refine lv_if_ne (tgt := 92) hx hb dX11_read_60 (by decide) (fun c5 => ?_) (fun c5 => ?_)
          · have hbz : q_bad u2 ≠ 0 := fun q => c5 (by rw [q]; rfl)
            refine lv_aload_n hx hb dX11_read_92 rfl (lv_at hl 2 rfl) ?_
            refine lv_dup hx hb dX11_read_93 rfl ?_
            refine rl_get (v := .int ((G.2.1 0) 5)) hC hW fl_X11_190 hx0 rfl dX11_read_94 ?_
            refine lv_iconst (v := (nI (1))) hx hb dX11_read_97 (by decide) ?_
            refine lv_iadd hx hb dX11_read_98 ?_
            refine lv_topi (fun x_2 ex_2 => ?_)
            refine rl_put (v := .int (x_2)) hC hW fp_X11_190 hx0 (Nat.le_of_ble_eq_true rfl) rfl rfl dX11_read_99 (fun H locs hW => ?_)
            replace hW : rl_W D A (rl_up _ x (.inr (10, [.ref (x + 1), .ref (x + 52), .ref (x + 53), .ref (x + 54), .ref (x + 55), .int v5, .int ((upd (G.2.1 0) 5 (x_2)) 0), .int ((upd (G.2.1 0) 5 (x_2)) 1), .int ((upd (G.2.1 0) 5 (x_2)) 2), .int (x_1), .int ((upd (G.2.1 0) 5 (x_2)) 4), .int ((upd (G.2.1 0) 5 (x_2)) 5)]))) z1 s.heap H locs := hW
            replace hI := hI.setx v5 (upd (G.2.1 0) 5 (x_2)) (x_1)
            replace hrd2 := (rl_up_n (a := x) (b := z) (e := .inr (10, [.ref (x + 1), .ref (x + 52), .ref (x + 53), .ref (x + 54), .ref (x + 55), .int v5, .int ((upd (G.2.1 0) 5 (x_2)) 0), .int ((upd (G.2.1 0) 5 (x_2)) 1), .int ((upd (G.2.1 0) 5 (x_2)) 2), .int (x_1), .int ((upd (G.2.1 0) 5 (x_2)) 4), .int ((upd (G.2.1 0) 5 (x_2)) 5)])) (by omega)).trans hrd2
            obtain ⟨hF0, hEV, hRV, ⟨v5, hx0⟩, ⟨gpl, hpl, hpt⟩, ⟨⟨ggn, hgn, hgnE⟩, ⟨ggp, hgp, hgq⟩⟩, ⟨⟨fz, htp⟩, ⟨glv, hlv, hlvE⟩, ⟨gfr, hfr⟩⟩, hRW, hRC, hIN⟩ := id hI
            refine lv_aload_n hx hb dX11_read_102 rfl (lv_at hl 2 rfl) ?_
            refine lv_aload_n hx hb dX11_read_103 rfl (lv_at hl 1 rfl) ?_
            refine rl_get (v := .int (nI (q_bad u2))) hC hW fl_X11_184 hrd2 rfl dX11_read_104 ?_
            refine lv_aload_n hx hb dX11_read_107 rfl (lv_at hl 1 rfl) ?_
            refine rl_get (v := .int (q_la u2)) hC hW fl_X11_193 hrd2 rfl dX11_read_108 ?_
            refine lv_aload_n hx hb dX11_read_111 rfl (lv_at hl 1 rfl) ?_
            refine rl_get (v := .int (nI (q_dp u2))) hC hW fl_X11_196 hrd2 rfl dX11_read_112 ?_
            refine rl_callvQ (rl_runV (b := x) (As := [.int (nI (q_bad u2)), .int (q_la u2), .int (nI (q_dp u2))]) (rest := []) hC hW (cC_rememberCause l D t A _ z1 x T _ _ _ E2 _ _ hI _ _ _) cs_X11_135 im_X11_rememberCause sl_X11_rememberCause hx0 rfl ⟨by simp only [rl_rm]; omega, by simp only [rl_rm]; omega⟩ rfl hl.1 rfl (Nat.le_of_ble_eq_true rfl) dX11_read_115 ⟨by simp only [rl_rm]; omega, by simp only [rl_rm]; omega⟩) hW (fun f3 H locs hp hW => ?_)
            replace hI := hp.1
            replace hrd2 := hp.2 _ _ hrd2 (by omega)
            replace hI : CI t _ x T ρ κ (pu_say (gY G 0 (upd (upd (G.2.1 0) 3 ((q_G u2).2.1 0 3)) 5 (G.2.1 0 5 + 1))) (nI (q_bad u2)) (q_la u2) (nI (q_dp u2))) E2 := CJ.gx (G := pu_say (gY G 0 (upd (upd (G.2.1 0) 3 ((q_G u2).2.1 0 3)) 5 (G.2.1 0 5 + 1))) (nI (q_bad u2)) (q_la u2) (nI (q_dp u2))) (show CJ t _ x T ρ κ (pu_say (gY G 0 (upd (upd (G.2.1 0) 3 ((q_G u2).2.1 0 3)) 5 (G.2.1 0 5 + 1))) (nI (q_bad u2)) (q_la u2) (nI (q_dp u2))) E2 _ _ from CJ.old (G := G) hI hgl hrl hkl hG (fun y hy => (hT.2.1 y hy).1)) rfl rfl rfl rfl (by show G.2.1 0 5 + 1 = x_2; rw [ex_2]; rfl) hmx.symm
            refine lv_aload_n hx hb dX11_read_118 rfl (lv_at hl 1 rfl) ?_
            refine rl_get (v := .int (nI (q_bad u2))) hC hW fl_X11_184 hrd2 rfl dX11_read_119 ?_
            exact rl_iret hC hW hr hlk (by simp only [rl_rm]; omega) (by simp only [rl_rm]; omega) ⟨_, rfl, ⟨ρ, κ, pu_say (gY G 0 (upd (upd (G.2.1 0) 3 ((q_G u2).2.1 0 3)) 5 (G.2.1 0 5 + 1))) (nI (q_bad u2)) (q_la u2) (nI (q_dp u2)), E2, (by simp only [f_read, ob, pu_ix_s hv0 (by decide), pu_ix_s hp0 (by decide), hq]; rw [if_neg hbz]), hI⟩, by omega, by omega⟩ dX11_read_122
          · have hbz : q_bad u2 = 0 := (nI_eq (by omega) (by decide)).mp c5
            refine lv_aload_n hx hb dX11_read_63 rfl (lv_at hl 2 rfl) ?_
            refine lv_dup hx hb dX11_read_64 rfl ?_
            refine rl_get (v := .int ((G.2.1 0) 4)) hC hW fl_X11_187 hx0 rfl dX11_read_65 ?_
            refine lv_iconst (v := (nI (1))) hx hb dX11_read_68 (by decide) ?_
            refine lv_iadd hx hb dX11_read_69 ?_
            refine lv_topi (fun x_3 ex_3 => ?_)
            refine rl_put (v := .int (x_3)) hC hW fp_X11_187 hx0 (Nat.le_of_ble_eq_true rfl) rfl rfl dX11_read_70 (fun H locs hW => ?_)
            replace hW : rl_W D A (rl_up _ x (.inr (10, [.ref (x + 1), .ref (x + 52), .ref (x + 53), .ref (x + 54), .ref (x + 55), .int v5, .int ((upd (G.2.1 0) 4 (x_3)) 0), .int ((upd (G.2.1 0) 4 (x_3)) 1), .int ((upd (G.2.1 0) 4 (x_3)) 2), .int (x_1), .int ((upd (G.2.1 0) 4 (x_3)) 4), .int ((upd (G.2.1 0) 4 (x_3)) 5)]))) z1 s.heap H locs := hW
            replace hI := hI.setx v5 (upd (G.2.1 0) 4 (x_3)) (x_1)
            replace hrd2 := (rl_up_n (a := x) (b := z) (e := .inr (10, [.ref (x + 1), .ref (x + 52), .ref (x + 53), .ref (x + 54), .ref (x + 55), .int v5, .int ((upd (G.2.1 0) 4 (x_3)) 0), .int ((upd (G.2.1 0) 4 (x_3)) 1), .int ((upd (G.2.1 0) 4 (x_3)) 2), .int (x_1), .int ((upd (G.2.1 0) 4 (x_3)) 4), .int ((upd (G.2.1 0) 4 (x_3)) 5)])) (by omega)).trans hrd2
            obtain ⟨hF0, hEV, hRV, ⟨v5, hx0⟩, ⟨gpl, hpl, hpt⟩, ⟨⟨ggn, hgn, hgnE⟩, ⟨ggp, hgp, hgq⟩⟩, ⟨⟨fz, htp⟩, ⟨glv, hlv, hlvE⟩, ⟨gfr, hfr⟩⟩, hRW, hRC, hIN⟩ := id hI
            refine lv_aload_n hx hb dX11_read_73 rfl (lv_at hl 2 rfl) ?_
            refine rl_get (v := .ref (x + 52)) hC hW fl_X11_18 hx0 rfl dX11_read_74 ?_
            refine lv_iload_n hx hb dX11_read_77 rfl (lv_at hl 4 rfl) ?_
            refine rl_aloadq hx hb dX11_read_78 (lv_at hl 0 rfl) ?_
            refine rl_astT (r := r2) hC hW hpl (fun y e => (hI.at hok2 (hr2.symm.trans e)).1) (by omega) (by decide) dX11_read_80 (fun H locs hW => ?_)
            replace hI := hI.setp (p := p0) (r := r2) (hd := h2d) hpl hr2 hok2
            replace hrd2 := (rl_up_n (a := x + 52) (b := z) (e := .inl (t 3, 10, .inr (.inr (.inr (.inr (va_up gpl p0 r2)))))) (by omega)).trans hrd2
            obtain ⟨hF0, hEV, hRV, ⟨v5, hx0⟩, ⟨gpl, hpl, hpt⟩, ⟨⟨ggn, hgn, hgnE⟩, ⟨ggp, hgp, hgq⟩⟩, ⟨⟨fz, htp⟩, ⟨glv, hlv, hlvE⟩, ⟨gfr, hfr⟩⟩, hRW, hRC, hIN⟩ := id hI
            refine lv_aload_n hx hb dX11_read_81 rfl (lv_at hl 2 rfl) ?_
            refine lv_iconst (v := (nI (0))) hx hb dX11_read_82 (by decide) ?_
            refine lv_bipush (v := (-3)) hx hb dX11_read_83 (by decide) ?_
            refine lv_iconst (v := (nI (0))) hx hb dX11_read_85 (by decide) ?_
            refine rl_callvQ (rl_runV (b := x) (As := [.int (nI (0)), .int (-3), .int (nI (0))]) (rest := []) hC hW (cC_rememberCause l D t A _ z1 x T _ _ _ E2 _ _ hI _ _ _) cs_X11_135 im_X11_rememberCause sl_X11_rememberCause hx0 rfl ⟨by simp only [rl_rm]; omega, by simp only [rl_rm]; omega⟩ rfl hl.1 rfl (Nat.le_of_ble_eq_true rfl) dX11_read_86 ⟨by simp only [rl_rm]; omega, by simp only [rl_rm]; omega⟩) hW (fun f3 H locs hp hW => ?_)
            replace hI := hp.1
            replace hrd2 := hp.2 _ _ hrd2 (by omega)
            replace hI : CI t _ x T (q_rho u2) (q_kap u2) (pu_say (gX (gY (q_G u2) 0 (upd ((q_G u2).2.1 0) 4 ((q_G u2).2.1 0 4 + 1))) 0 (va_up ((q_G u2).2.2.2 0) p0 h2d)) 0 (-3) 0) E2 := CJ.gx (G := pu_say (gX (gY (q_G u2) 0 (upd ((q_G u2).2.1 0) 4 ((q_G u2).2.1 0 4 + 1))) 0 (va_up ((q_G u2).2.2.2 0) p0 h2d)) 0 (-3) 0) hI rfl rfl rfl (by show (q_G u2).2.1 0 4 + 1 = x_3; rw [ex_3, hgx 4 (by decide)]; rfl) (by show (q_G u2).2.1 0 5 = G.2.1 0 5; exact hgx 5 (by decide)) hmx.symm
            have ern : nI (q_bad u2) = (0 : Int32) := by rw [hbz]; rfl
            refine lv_goto (tgt := 118) hx hb dX11_read_89 (by decide) ?_
            refine lv_aload_n hx hb dX11_read_118 rfl (lv_at hl 1 rfl) ?_
            refine rl_get (v := .int (nI (q_bad u2))) hC hW fl_X11_184 hrd2 rfl dX11_read_119 ?_
            refine rl_topn (y := 0) ern ?_
            exact rl_iret hC hW hr hlk (by simp only [rl_rm]; omega) (by simp only [rl_rm]; omega) ⟨_, rfl, ⟨q_rho u2, q_kap u2, pu_say (gX (gY (q_G u2) 0 (upd ((q_G u2).2.1 0) 4 ((q_G u2).2.1 0 4 + 1))) 0 (va_up ((q_G u2).2.2.2 0) p0 h2d)) 0 (-3) 0, E2, (by simp only [f_read, ob, pu_ix_s hv0 (by decide), pu_ix_s hp0 (by decide), hq]; rw [if_pos hbz]), hI⟩, by omega, by omega⟩ dX11_read_122
        · exact absurd c9 (by decide)
      · have hq := hp
        refine lv_if_ne (tgt := 19) hx hb dX11_read_14 (by decide) (fun c9 => ?_) (fun c9 => ?_)
        · exact absurd rfl c9
        · refine lv_iconst (v := (-1)) hx hb dX11_read_17 (by decide) ?_
          exact rl_iret hC hW hr hlk (by simp only [rl_rm]; omega) (by simp only [rl_rm]; omega) ⟨_, rfl, ⟨ρ, κ, G, E, (by simp only [f_read, ob, pu_ix_s hv0 (by decide), pu_ix_n (n := 10) (by decide) hq]), hI⟩, by omega, by omega⟩ dX11_read_18
  · have hq := hp
    refine lv_if_eq (tgt := 17) hx hb dX11_read_5 (by decide) (fun c9 => ?_) (fun c9 => ?_)
    · refine lv_iconst (v := (-1)) hx hb dX11_read_17 (by decide) ?_
      exact rl_iret hC hW hr hlk (by simp only [rl_rm]; omega) (by simp only [rl_rm]; omega) ⟨_, rfl, ⟨ρ, κ, G, E, (by simp only [f_read, ob, pu_ix_n (n := 3) (by decide) hq]), hI⟩, by omega, by omega⟩ dX11_read_18
    · exact absurd rfl c9
