
theorem rg_neg10 : ∀ b0, b0 < 9 → ¬ (0 : Int32) ≤ (-10) - nI b0 := by decide
theorem rg_neg10' {b0 : Nat} {r : Int32} (hb : b0 ≤ 8) (e : r = (-10) - nI b0) : ¬ 0 ≤ r := by rw [e]; exact rg_neg10 b0 (by omega)
theorem rg_m10 : ∀ b0, b0 < 9 → (-10 : Int32) - ((-10) - nI b0) = nI b0 := by decide
theorem rg_m10' {b0 : Nat} {r y : Int32} (hb : b0 ≤ 8) (e : r = (-10) - nI b0) (e2 : y = (-10) - r) : y = nI b0 := by rw [e2, e]; exact rg_m10 b0 (by omega)
theorem RGc.say {G : pG} {F : Nat → Int32} {a b c a' b' c' : Int32} (h : RGc G F) (ha : a' = a) (hb : b' = b) (hc : c' = c) : RGc (pu_say G a b c) (upd (upd (upd F 24 a') 25 b') 26 c') := by
  subst ha hb hc
  exact ⟨rfl, rfl, rfl, h.2.2.2.1, h.2.2.2.2.1, h.2.2.2.2.2⟩
theorem RGc.new {T : Nat → Nat → Nat} {κ j : Nat} {N : Nat → Int64} {X : Nat → pHd} {G : pG} {F : Nat → Int32} {v : Int32} (h : RGc G F) : RGc (pu_new T κ G j N X) (upd (upd F 14 v) 28 (F 28 + nI 1)) := by
  refine ⟨h.1, h.2.1, h.2.2.1, ?_, h.2.2.2.2.1, h.2.2.2.2.2⟩
  show F 28 + nI 1 = G.2.1 0 3 + 1
  rw [h.2.2.2.1]
  rfl
theorem RGp.self {G : pG} {a19 a21 : Nat → Int32} {b20 : Nat → Int64} {p : Nat} (h : RGp G a19 b20 a21) : RGp G (upd a19 p (a19 p)) b20 a21 := by
  have e : upd a19 p (a19 p) = a19 := by
    funext x
    unfold upd
    split
    · rename_i q; rw [q]
    · rfl
  rw [e]
  exact h

set_option maxHeartbeats 4000000 in
set_option maxRecDepth 100000 in
theorem cR_make (l : Launch) (D : va_G) (t : Nat → ClassId) (A : Nat → Prop) (f : rl_M) (z : Nat) (m : Nat) (T : Nat → Nat → Nat) (ρ κ : Nat) (G : pG) (hS : RS t f m T ρ κ G) (hρ : ρ + 84 ≤ 43100) (hκ : κ + 51 ≤ 26200) (x1 x2 x3 : Int32) : rl_Met l yX12_make (.code yX12_make cX12_make 5 (some FieldType.int)) (rl_rm 3 0 0) D t A f z [.ref (m), .int (x1), .int (x2), .int (x3)] (rl_qi z fun r f1 => ∃ ρ' κ' G', f_make T ρ κ G x1 x2 x3 = (r, ρ', κ', G') ∧ ρ' ≤ ρ + 84 ∧ κ' ≤ κ + 51 ∧ RS t f1 m T ρ' κ' G') := by
  obtain ⟨I, L, F, hR, hTc, hTp, hTk, hGW, hGr, hGd, hGp, hGt, hGc, hF11, hF14⟩ := hS
  refine rl_begin (own := RX12) (lv := [(0, .ref (m)), (1, .int (x1)), (2, .int (x2)), (3, .int (x3))]) (by decide +kernel) rfl (Nat.le_of_ble_eq_true rfl) rfl fun p e s m0 args below meth c ls H locs hC hr hlk hnm hW hl hx hb => ?_
  refine lv_iload_n hx hb dX12_make_0 rfl (lv_at hl 1 rfl) ?_
  refine lv_i2l hx hb dX12_make_1 rfl ?_
  refine rl_calliQ (rl_runS (As := [.long ((x1).toInt64)]) (rest := []) hC hW (cR_isRecordKind l D t A _ z _) cs_X12_133 sm_X12_isRecordKind ⟨(Nat.le_of_ble_eq_true rfl), (Nat.le_of_ble_eq_true rfl)⟩ rfl hl.1 rfl (Nat.le_of_ble_eq_true rfl) dX12_make_2 ⟨(Nat.le_of_ble_eq_true rfl), (Nat.le_of_ble_eq_true rfl)⟩) hW (fun r f1 H locs hp hW => ?_)
  obtain ⟨rfl, hp⟩ := hp
  rw [rg_rk] at hp
  rcases hp with ⟨rfl, hp⟩ | ⟨rfl, hp⟩
  · obtain ⟨k, hk, rfl⟩ := hp
    refine lv_if_eq (tgt := 22) hx hb dX12_make_5 (by decide) (fun c9 => ?_) (fun c9 => ?_)
    · exact absurd c9 (by decide)
    · refine lv_iload_n hx hb dX12_make_8 rfl (lv_at hl 2 rfl) ?_
      refine rl_calliQ (rl_runS (As := [.int (x2)]) (rest := []) hC hW (cR_isVersion l D t A _ z _) cs_X12_125 sm_X12_isVersion ⟨(Nat.le_of_ble_eq_true rfl), (Nat.le_of_ble_eq_true rfl)⟩ rfl hl.1 rfl (Nat.le_of_ble_eq_true rfl) dX12_make_9 ⟨(Nat.le_of_ble_eq_true rfl), (Nat.le_of_ble_eq_true rfl)⟩) hW (fun r f1 H locs hp hW => ?_)
      obtain ⟨rfl, hp⟩ := hp
      rcases hp with ⟨rfl, hp⟩ | ⟨rfl, hp⟩
      · obtain ⟨v, hv, rfl⟩ := hp
        refine lv_if_eq (tgt := 22) hx hb dX12_make_12 (by decide) (fun c9 => ?_) (fun c9 => ?_)
        · exact absurd c9 (by decide)
        · refine lv_iload_n hx hb dX12_make_15 rfl (lv_at hl 3 rfl) ?_
          refine rl_calliQ (rl_runS (As := [.int (x3)]) (rest := []) hC hW (cR_isPlace l D t A _ z _) cs_X12_148 sm_X12_isPlace ⟨(Nat.le_of_ble_eq_true rfl), (Nat.le_of_ble_eq_true rfl)⟩ rfl hl.1 rfl (Nat.le_of_ble_eq_true rfl) dX12_make_16 ⟨(Nat.le_of_ble_eq_true rfl), (Nat.le_of_ble_eq_true rfl)⟩) hW (fun r f1 H locs hp hW => ?_)
          obtain ⟨rfl, hp⟩ := hp
          rcases hp with ⟨rfl, hp⟩ | ⟨rfl, hp⟩
          · obtain ⟨p0, hp0, rfl⟩ := hp
            refine lv_if_ne (tgt := 24) hx hb dX12_make_19 (by decide) (fun c9 => ?_) (fun c9 => ?_)
            · have hj12 : 3 * k + v < 12 := by omega
              have h5 := (hTp.1 _ hj12).2
              refine lv_iconst (v := (nI (0))) hx hb dX12_make_24 (by decide) ?_
              refine lv_istore (lv' := [(4, .int (nI (0))), (0, .ref (m)), (1, .int (nI (2 + k))), (2, .int (nI (v))), (3, .int (nI (p0)))]) hx hb dX12_make_25 hl (by decide) rfl (fun ls hl => ?_)
              replace hl : lv_has ls 5 [(0, .ref (m)), (1, .int (nI (2 + k))), (2, .int (nI (v))), (3, .int (nI (p0))), (4, .int (nI (0)))] := lv_sub hl [1, 2, 3, 4, 0] rfl
              have hinv : ∃ f2 : rl_M, ∃ g32 : Nat → Int32, ∃ g31 : Nat → Int64, ∃ i : Nat, rl_W D A f2 z s.heap H locs ∧ RM t f2 m (va_up I 32 g32) (va_up L 31 g31) F ∧ (i ≤ 5) ∧ (∀ q, q < i → g32 q = enc (G.2.2.2 0 (G.1 3 q)) ∧ g31 q = G.2.2.1 1 q) ∧ lv_has ls 5 [(0, .ref (m)), (1, .int (nI (2 + k))), (2, .int (nI (v))), (3, .int (nI (p0))), (4, .int (nI (i)))] := ⟨_, I 32, L 31, 0, hW, (RM.eq (va_up_same I 32) (va_up_same L 31) hR), Nat.zero_le _, fun _ h => absurd h (Nat.not_lt_zero _), hl⟩
              clear hW hR hl
              obtain ⟨f2, g32, g31, i, hW, hR, hi, hg, hl⟩ := hinv
              obtain ⟨n, hn⟩ : ∃ n, 5 - i < n := ⟨_, Nat.lt_succ_self _⟩
              induction n generalizing f2 g32 g31 i H locs ls  with
              | zero => exact absurd hn (Nat.not_lt_zero _)
              | succ n ih =>
                refine lv_iload hx hb dX12_make_27 (lv_at hl 4 rfl) ?_
                refine lv_iconst (v := (nI (5))) hx hb dX12_make_29 (by decide) ?_
                refine lv_icmp_ge (tgt := 72) hx hb dX12_make_30 (by decide) (fun c1 => ?_) (fun c1 => ?_)
                · have hge : 5 ≤ i := rg_le c1 (by decide) (by omega)
                  refine lv_aload_n hx hb dX12_make_72 rfl (lv_at hl 0 rfl) ?_
                  refine lv_iconst (v := (nI (3))) hx hb dX12_make_73 (by decide) ?_
                  refine lv_iload_n hx hb dX12_make_74 rfl (lv_at hl 1 rfl) ?_
                  refine lv_iconst (v := (nI (2))) hx hb dX12_make_75 (by decide) ?_
                  refine lv_isub hx hb dX12_make_76 ?_
                  refine rl_topn (rg_sub (c := k) (by omega)) ?_
                  refine lv_imul hx hb dX12_make_77 ?_
                  refine rl_topn (pk_mul _ _) ?_
                  refine lv_iload_n hx hb dX12_make_78 rfl (lv_at hl 2 rfl) ?_
                  refine lv_iadd hx hb dX12_make_79 ?_
                  refine rl_topn (nI_add _ _) ?_
                  refine lv_iconst (v := (nI (0))) hx hb dX12_make_80 (by decide) ?_
                  refine rl_calliQ (rl_runV (b := m) (As := [.int (nI (((3) * (k)) + (v))), .int (nI (0))]) (rest := []) hC hW (cR_record l D t A _ z m (va_up I 32 g32) (va_up L 31 g31) F hR T ρ κ G (by omega) (by omega) hTc hTp hGW hGr hGd hTk hF14 (3 * k + v) 0 hj12 (by decide) (G.2.2.1 1) (fun q => G.2.2.2 0 (G.1 3 q)) (fun q hq => by rw [Nat.zero_add]; exact (hg q (by omega)).2) (fun q hq => by rw [Nat.zero_add]; exact ⟨(hg q (by omega)).1, hGW.2.2.1 _ (hGW.2.2.2.1 q (by omega))⟩)) cs_X12_183 im_X12_record sl_X12_record hR.1 rfl ⟨(Nat.le_of_ble_eq_true rfl), (Nat.le_of_ble_eq_true rfl)⟩ rfl hl.1 rfl (Nat.le_of_ble_eq_true rfl) dX12_make_81 ⟨(Nat.le_of_ble_eq_true rfl), (Nat.le_of_ble_eq_true rfl)⟩) hW (fun r f1 H locs hp hW => ?_)
                  rcases hp with ⟨rfl, hne, er⟩ | ⟨rfl, he0, hR⟩
                  · have hW8 := pu_why_le T G (3 * k + v) (G.2.2.1 1) (fun q => G.2.2.2 0 (G.1 3 q))
                    have hneg := rg_neg10' hW8 er
                    refine lv_istore (lv' := [(4, .int (r)), (0, .ref (m)), (1, .int (nI (2 + k))), (2, .int (nI (v))), (3, .int (nI (p0)))]) hx hb dX12_make_84 hl (by decide) rfl (fun ls hl => ?_)
                    refine lv_aload_n hx hb dX12_make_86 rfl (lv_at hl 1 rfl) ?_
                    refine lv_iload hx hb dX12_make_87 (lv_at hl 0 rfl) ?_
                    refine lv_if_ge (tgt := 100) hx hb dX12_make_89 (by decide) (fun c3 => ?_) (fun c3 => ?_)
                    · exact absurd c3 hneg
                    · refine lv_bipush (v := (-10)) hx hb dX12_make_92 (by decide) ?_
                      refine lv_iload hx hb dX12_make_94 (lv_at hl 0 rfl) ?_
                      refine lv_isub hx hb dX12_make_96 ?_
                      refine lv_topi (fun x_1 ex_1 => ?_)
                      refine lv_goto (tgt := 101) hx hb dX12_make_97 (by decide) ?_
                      refine rl_put (v := .int (x_1)) hC hW fp_X12_187 hR.1 (Nat.le_of_ble_eq_true rfl) rfl rfl dX12_make_101 (fun H locs hW => ?_)
                      have hR := hR.f24 (x_1)
                      refine lv_aload_n hx hb dX12_make_104 rfl (lv_at hl 1 rfl) ?_
                      refine lv_bipush (v := (-3)) hx hb dX12_make_105 (by decide) ?_
                      refine rl_put (v := .int (-3)) hC hW fp_X12_78 hR.1 (Nat.le_of_ble_eq_true rfl) rfl rfl dX12_make_107 (fun H locs hW => ?_)
                      have hR := hR.f25 (-3)
                      refine lv_aload_n hx hb dX12_make_110 rfl (lv_at hl 1 rfl) ?_
                      refine lv_iconst (v := (nI (0))) hx hb dX12_make_111 (by decide) ?_
                      refine rl_put (v := .int (nI (0))) hC hW fp_X12_190 hR.1 (Nat.le_of_ble_eq_true rfl) rfl rfl dX12_make_112 (fun H locs hW => ?_)
                      have hR := hR.f26 (nI (0))
                      refine lv_aload_n hx hb dX12_make_115 rfl (lv_at hl 1 rfl) ?_
                      refine rl_get (v := .ref (m + 18)) hC hW fl_X12_66 hR.1 rfl dX12_make_116 ?_
                      refine lv_iload_n hx hb dX12_make_119 rfl (lv_at hl 4 rfl) ?_
                      refine lv_iload hx hb dX12_make_120 (lv_at hl 0 rfl) ?_
                      have hye := rg_m10' hW8 er ex_1
                      refine lv_if_ge (tgt := 134) hx hb dX12_make_122 (by decide) (fun c4 => ?_) (fun c4 => ?_)
                      · exact absurd c4 hneg
                      · refine lv_aload_n hx hb dX12_make_125 rfl (lv_at hl 1 rfl) ?_
                        refine rl_get (v := .ref (m + 18)) hC hW fl_X12_66 hR.1 rfl dX12_make_126 ?_
                        refine lv_iload_n hx hb dX12_make_129 rfl (lv_at hl 4 rfl) ?_
                        refine rl_iald_n (g := I 19) hC hW hR.a19 (by omega) (by decide) dX12_make_130 ?_
                        refine lv_goto (tgt := 136) hx hb dX12_make_131 (by decide) ?_
                        refine rl_iast_n (g := I 19) hC hW hR.a19 (by omega) (by decide) dX12_make_136 (fun H locs hW => ?_)
                        have hR := hR.s19 (upd (I 19) (p0) ((I 19 (p0))))
                        refine lv_aload_n hx hb dX12_make_137 rfl (lv_at hl 1 rfl) ?_
                        refine rl_get (v := .int (x_1)) hC hW fl_X12_187 hR.1 rfl dX12_make_138 ?_
                        exact rl_iret hC hW hr hlk (Nat.le_refl _) (Nat.le_refl _) ⟨_, rfl, rfl, rfl, ρ, κ, pu_say G (nI (pu_why T G (3 * k + v) (G.2.2.1 1) (fun q => G.2.2.2 0 (G.1 3 q)))) (-3) 0, (by simp only [f_make, ob, pu_rk_s hk, pu_ix_s hv (by decide), pu_ix_s hp0 (by decide)]; rw [if_neg hne, hye]), by omega, by omega, ⟨_, _, _, hR, hTc, hTp, hTk, hGW, hGr, hGd, hGp.self, hGt, hGc.say hye rfl rfl, hF11, hF14⟩⟩ dX12_make_141
                  · refine lv_istore (lv' := [(4, .int (nI (1000000 + κ))), (0, .ref (m)), (1, .int (nI (2 + k))), (2, .int (nI (v))), (3, .int (nI (p0)))]) hx hb dX12_make_84 hl (by decide) rfl (fun ls hl => ?_)
                    refine lv_aload_n hx hb dX12_make_86 rfl (lv_at hl 1 rfl) ?_
                    refine lv_iload hx hb dX12_make_87 (lv_at hl 0 rfl) ?_
                    refine lv_if_ge (tgt := 100) hx hb dX12_make_89 (by decide) (fun c3 => ?_) (fun c3 => ?_)
                    · refine lv_iconst (v := (nI (0))) hx hb dX12_make_100 (by decide) ?_
                      refine rl_put (v := .int (nI (0))) hC hW fp_X12_187 hR.1 (Nat.le_of_ble_eq_true rfl) rfl rfl dX12_make_101 (fun H locs hW => ?_)
                      have hR := hR.f24 (nI (0))
                      refine lv_aload_n hx hb dX12_make_104 rfl (lv_at hl 1 rfl) ?_
                      refine lv_bipush (v := (-3)) hx hb dX12_make_105 (by decide) ?_
                      refine rl_put (v := .int (-3)) hC hW fp_X12_78 hR.1 (Nat.le_of_ble_eq_true rfl) rfl rfl dX12_make_107 (fun H locs hW => ?_)
                      have hR := hR.f25 (-3)
                      refine lv_aload_n hx hb dX12_make_110 rfl (lv_at hl 1 rfl) ?_
                      refine lv_iconst (v := (nI (0))) hx hb dX12_make_111 (by decide) ?_
                      refine rl_put (v := .int (nI (0))) hC hW fp_X12_190 hR.1 (Nat.le_of_ble_eq_true rfl) rfl rfl dX12_make_112 (fun H locs hW => ?_)
                      have hR := hR.f26 (nI (0))
                      refine lv_aload_n hx hb dX12_make_115 rfl (lv_at hl 1 rfl) ?_
                      refine rl_get (v := .ref (m + 18)) hC hW fl_X12_66 hR.1 rfl dX12_make_116 ?_
                      refine lv_iload_n hx hb dX12_make_119 rfl (lv_at hl 4 rfl) ?_
                      refine lv_iload hx hb dX12_make_120 (lv_at hl 0 rfl) ?_
                      refine lv_if_ge (tgt := 134) hx hb dX12_make_122 (by decide) (fun c4 => ?_) (fun c4 => ?_)
                      · refine lv_iload hx hb dX12_make_134 (lv_at hl 0 rfl) ?_
                        refine rl_iast_n (g := I 19) hC hW hR.a19 (by omega) (by decide) dX12_make_136 (fun H locs hW => ?_)
                        have hR := hR.s19 (upd (I 19) (p0) ((nI (1000000 + κ))))
                        refine lv_aload_n hx hb dX12_make_137 rfl (lv_at hl 1 rfl) ?_
                        refine rl_get (v := .int (nI (0))) hC hW fl_X12_187 hR.1 rfl dX12_make_138 ?_
                        exact rl_iret hC hW hr hlk (Nat.le_refl _) (Nat.le_refl _) ⟨_, rfl, rfl, rfl, ρ, κ + 1, pu_say (gX (pu_new T κ G (3 * k + v) (G.2.2.1 1) (fun q => G.2.2.2 0 (G.1 3 q))) 0 (va_up (G.2.2.2 0) p0 (hrec κ))) 0 (-3) 0, (by simp only [f_make, ob, pu_rk_s hk, pu_ix_s hv (by decide), pu_ix_s hp0 (by decide)]; rw [if_pos he0]; rfl), by omega, by omega, ⟨_, _, _, hR, hTc, hTp, hTk, (hGW.new hj12 (fun y hy => (hTp.1 y hy).2) (fun q hq => hGW.2.2.1 _ (hGW.2.2.2.1 q (by omega))) he0).pl (G := pu_new T κ G (3 * k + v) (G.2.2.1 1) (fun q => G.2.2.2 0 (G.1 3 q))) (show κ < κ + 1 by omega), hGr, RGd.new (j := 3 * k + v) (N := G.2.2.1 1) (X := fun q => G.2.2.2 0 (G.1 3 q)) (a0 := 0) (a32 := g32) (b31 := g31) hGd hGW (fun y hy => (hTp.1 y hy).2) (fun q hq => by rw [Nat.zero_add]; exact (hg q (by omega)).2) (fun q hq => by rw [Nat.zero_add]; exact (hg q (by omega)).1), RGp.pl (G := pu_new T κ G (3 * k + v) (G.2.2.1 1) (fun q => G.2.2.2 0 (G.1 3 q))) hGp rfl, hGt, RGc.say (RGc.new (T := T) (κ := κ) (j := 3 * k + v) (N := G.2.2.1 1) (X := fun q => G.2.2.2 0 (G.1 3 q)) hGc) rfl rfl rfl, hF11, rfl⟩⟩ dX12_make_141
                      · exact absurd (nI_pos' (by omega)) c4
                    · exact absurd (nI_pos' (by omega)) c3
                · have hlt : i < 5 := rg_lt c1 (by decide) (by omega)
                  have hgp := hGW.2.2.2.1 i hlt
                  obtain ⟨hgn, hge⟩ := hGp.2 i hlt
                  refine lv_aload_n hx hb dX12_make_33 rfl (lv_at hl 0 rfl) ?_
                  refine rl_get (v := .ref (m + 22)) hC hW fl_X12_82 hR.1 rfl dX12_make_34 ?_
                  refine lv_iload hx hb dX12_make_37 (lv_at hl 4 rfl) ?_
                  refine lv_aload_n hx hb dX12_make_39 rfl (lv_at hl 0 rfl) ?_
                  refine rl_get (v := .ref (m + 19)) hC hW fl_X12_69 hR.1 rfl dX12_make_40 ?_
                  refine lv_iload hx hb dX12_make_43 (lv_at hl 4 rfl) ?_
                  refine rl_lald_n (g := L 20) hC hW hR.a20 (by omega) (by decide) dX12_make_45 ?_
                  refine rl_last_n (g := g31) hC hW hR.a31 (by omega) (by decide) dX12_make_46 (fun H locs hW => ?_)
                  have hR := hR.s31 (vp_updL (g31) (i) (L 20 (i)))
                  refine lv_aload_n hx hb dX12_make_47 rfl (lv_at hl 0 rfl) ?_
                  refine rl_get (v := .ref (m + 23)) hC hW fl_X12_85 hR.1 rfl dX12_make_48 ?_
                  refine lv_iload hx hb dX12_make_51 (lv_at hl 4 rfl) ?_
                  refine lv_aload_n hx hb dX12_make_53 rfl (lv_at hl 0 rfl) ?_
                  refine rl_get (v := .ref (m + 18)) hC hW fl_X12_66 hR.1 rfl dX12_make_54 ?_
                  refine lv_aload_n hx hb dX12_make_57 rfl (lv_at hl 0 rfl) ?_
                  refine rl_get (v := .ref (m + 20)) hC hW fl_X12_72 hR.1 rfl dX12_make_58 ?_
                  refine lv_iload hx hb dX12_make_61 (lv_at hl 4 rfl) ?_
                  refine rl_iald_n (g := I 21) hC hW hR.a21 (by omega) (by decide) dX12_make_63 ?_
                  refine rl_topn (hge) ?_
                  refine rl_iald_n (g := I 19) hC hW hR.a19 (by omega) (by decide) dX12_make_64 ?_
                  refine rl_iast_n (g := g32) hC hW hR.a32 (by omega) (by decide) dX12_make_65 (fun H locs hW => ?_)
                  have hR := hR.s32 (upd (g32) (i) ((I 19 (G.1 3 i))))
                  refine lv_iinc (v := (nI ((i) + 1))) (lv' := [(4, .int (nI ((i) + 1))), (0, .ref (m)), (1, .int (nI (2 + k))), (2, .int (nI (v))), (3, .int (nI (p0)))]) hx hb dX12_make_66 hl (k := 4) rfl (nI_1 _) (by decide) rfl (fun ls hl => ?_)
                  refine lv_goto (tgt := 27) hx hb dX12_make_69 (by decide) ?_
                  replace hl : lv_has ls 5 [(0, .ref (m)), (1, .int (nI (2 + k))), (2, .int (nI (v))), (3, .int (nI (p0))), (4, .int (nI ((i) + 1)))] := lv_sub hl [1, 2, 3, 4, 0] rfl
                  replace hR := RM.eq (va_up_up I 32 g32 _).symm (va_up_up L 31 g31 _).symm hR
                  exact ih _ _ _ _ _ _ (i + 1) hW hR (by omega) (rg_step (fun q hq => by rw [rg_upl (by omega)]; unfold vp_updL; rw [if_neg (by omega)]; exact hg q hq) (by rw [rg_ups]; unfold vp_updL; rw [if_pos rfl]; exact ⟨hGp.1 _ hgp, hgn⟩)) hl (by omega)
            · exact absurd c9 (by decide)
          · have hq := hp
            refine lv_if_ne (tgt := 24) hx hb dX12_make_19 (by decide) (fun c9 => ?_) (fun c9 => ?_)
            · exact absurd rfl c9
            · refine lv_iconst (v := (-1)) hx hb dX12_make_22 (by decide) ?_
              exact rl_iret hC hW hr hlk (Nat.le_refl _) (Nat.le_refl _) ⟨_, rfl, rfl, rfl, ρ, κ, G, (by simp only [f_make, ob, pu_rk_s hk, pu_ix_s hv (by decide), pu_ix_n (n := 10) (by decide) hq]), by omega, by omega, ⟨_, _, _, hR, hTc, hTp, hTk, hGW, hGr, hGd, hGp, hGt, hGc, hF11, hF14⟩⟩ dX12_make_23
      · have hq := hp
        refine lv_if_eq (tgt := 22) hx hb dX12_make_12 (by decide) (fun c9 => ?_) (fun c9 => ?_)
        · refine lv_iconst (v := (-1)) hx hb dX12_make_22 (by decide) ?_
          exact rl_iret hC hW hr hlk (Nat.le_refl _) (Nat.le_refl _) ⟨_, rfl, rfl, rfl, ρ, κ, G, (by simp only [f_make, ob, pu_rk_s hk, pu_ix_n (n := 3) (by decide) hq]), by omega, by omega, ⟨_, _, _, hR, hTc, hTp, hTk, hGW, hGr, hGd, hGp, hGt, hGc, hF11, hF14⟩⟩ dX12_make_23
        · exact absurd rfl c9
  · have hq := hp
    refine lv_if_eq (tgt := 22) hx hb dX12_make_5 (by decide) (fun c9 => ?_) (fun c9 => ?_)
    · refine lv_iconst (v := (-1)) hx hb dX12_make_22 (by decide) ?_
      exact rl_iret hC hW hr hlk (Nat.le_refl _) (Nat.le_refl _) ⟨_, rfl, rfl, rfl, ρ, κ, G, (by simp only [f_make, ob, pu_rk_n (x := x1.toInt64) (fun q => hq (rg_rk.mp q))]), by omega, by omega, ⟨_, _, _, hR, hTc, hTp, hTk, hGW, hGr, hGd, hGp, hGt, hGc, hF11, hF14⟩⟩ dX12_make_23
    · exact absurd rfl c9
