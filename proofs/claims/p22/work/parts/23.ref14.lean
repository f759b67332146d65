
section RCU
variable {T : Nat → Nat → Nat} {w k kd : Nat} {b : Bool} {q q1 q2 : pQ} {y y2 : Int64}
theorem rec_6 : q_rec T w 0 b q = (none, q_fail 8 q) := by rw [q_rec]
theorem rec_k (h1 : q_leaf (q_up q (q_dp q + 1)) = (y, q1)) (h2 : pu_rk y = none) : q_rec T w (k + 1) b q = (none, q_fail 2 q1) := by
  rw [q_rec, h1]
  simp only [h2]
theorem rec_n (h1 : q_leaf (q_up q (q_dp q + 1)) = (y, q1)) (h2 : pu_rk y = none) (hb : q_bad q1 ≠ 0) : q_rec T w (k + 1) b q = (none, q1) := by rw [rec_k h1 h2, fl_b hb]
theorem rec_s (h1 : q_leaf (q_up q (q_dp q + 1)) = (y, q1)) (h2 : pu_rk y = some kd) (h3 : q_leaf q1 = (y2, q2)) : q_rec T w (k + 1) b q = q_end T (q_parts T w (q_rec T w k) y2.toInt.toNat (q_d0 w kd b) q2).1 (q_parts T w (q_rec T w k) y2.toInt.toNat (q_d0 w kd b) q2).2 := by
  rw [q_rec, h1]
  simp only [h2]
  rw [h3]
  rfl
theorem rec_b (h1 : q_leaf (q_up q (q_dp q + 1)) = (y, q1)) (h2 : pu_rk y = some kd) (h3 : q_leaf q1 = (y2, q2)) (hb : q_bad q2 ≠ 0) : q_rec T w (k + 1) b q = (none, q2) := by
  rw [rec_s h1 h2 h3, ps_b hb]
  exact en_b hb
end RCU
theorem lf_i {a d ρ κ bd a' bd' : Nat} {la la' : Int32} {G : pG} {r : Int64} (hne : bd ≠ 0) (h : q_leaf (a, la, bd, d, ρ, κ, G) = (r, (a', la', bd', d, ρ, κ, G))) : 0 = r ∧ a = a' ∧ la = la' ∧ bd = bd' := by
  rw [lf_b (q := (a, la, bd, d, ρ, κ, G)) hne] at h
  exact ⟨congrArg (fun q : Int64 × pQ => q.1) h, congrArg (fun q : Int64 × pQ => q.2.1) h, congrArg (fun q : Int64 × pQ => q.2.2.1) h, congrArg (fun q : Int64 × pQ => q.2.2.2.1) h⟩
theorem rk_no {x : Int64} (h : ¬ ∃ k : Nat, k < 4 ∧ x = lN (2 + k)) : pu_rk x = none := by
  cases hf : pu_rk x with
  | none => rfl
  | some k => exact absurd ⟨k, pu_rk_lt hf⟩ h

set_option maxHeartbeats 4000000 in
set_option maxRecDepth 100000 in
theorem cR_beginRecord (l : Launch) (D : va_G) (t : Nat → ClassId) (A : Nat → Prop) (f : rl_M) (z : Nat) (m : Nat) (T : Nat → Nat → Nat) (w ρ0 κ0 : Nat) (G0 : pG) (a : Nat) (la : Int32) (d ρ κ : Nat) (G : pG) (SD : Nat → pD) (SL : Nat → Nat) (SI : Nat → Option Nat) (hQ : RQ t f m T w ρ0 κ0 G0 a la 0 d ρ κ G d d SD SL SI) (kn : Nat) (b : Bool) (hkn : (kn = 0 ∧ b = false) ∨ (kn = 1 ∧ b = true)) : rl_Met l yX12_beginRecord (.code yX12_beginRecord cX12_beginRecord 7 none) (rl_rm 2 0 0) D t A f z [.ref (m), .int (nI (kn))] (rl_qv z fun f1 => ∃ (a' : Nat) (la' : Int32) (bd' d' e' : Nat) (SD' : Nat → pD) (SL' : Nat → Nat), RQ t f1 m T w ρ0 κ0 G0 a' la' bd' d' ρ κ G e' d SD' SL' SI ∧ ((bd' ≠ 0 ∧ q_rec T w (6 - d) b (a, la, 0, d, ρ, κ, G) = (none, (a', la', bd', d', ρ, κ, G))) ∨ (bd' = 0 ∧ d < 6 ∧ a' = a + 1 + 1 ∧ d' = d + 1 ∧ e' = d + 1 ∧ ∃ kd n2, SD' = va_up SD d (q_d0 w kd b) ∧ SL' = va_up SL d n2 ∧ q_rec T w (6 - d) b (a, la, 0, d, ρ, κ, G) = q_end T (q_parts T w (q_rec T w (6 - (d + 1))) n2 (q_d0 w kd b) (a', la', 0, d + 1, ρ, κ, G)).1 (q_parts T w (q_rec T w (6 - (d + 1))) n2 (q_d0 w kd b) (a', la', 0, d + 1, ρ, κ, G)).2))) := by
  obtain ⟨I, L, F, hR, hTc, hTp, hTk, hGW, hGr, hGd, hGp, hGt, hGc, hF11, hF14, hF44, hF41, hF42, hF43, hF45, hN, hSI⟩ := hQ
  obtain ⟨hlv, hd6, hw3, hρ0, hκ0, hbd, hgl⟩ := id hN
  have hl250 := hGW.2.2.2.2
  refine rl_begin (own := RX12) (lv := [(0, .ref (m)), (1, .int (nI (kn)))]) (by decide +kernel) rfl (Nat.le_of_ble_eq_true rfl) rfl fun p e s m0 args below meth c ls H locs hC hr hlk hnm hW hl hx hb => ?_
  rcases hkn with ⟨rfl, rfl⟩ | ⟨rfl, rfl⟩
  · refine lv_aload_n hx hb dX12_beginRecord_0 rfl (lv_at hl 0 rfl) ?_
    refine rl_get (v := .int (F 45)) hC hW fl_X12_251 hR.1 rfl dX12_beginRecord_1 ?_
    refine rl_topn (y := nI (d)) (hF45) ?_
    refine lv_bipush (v := (nI (6))) hx hb dX12_beginRecord_4 (by decide) ?_
    refine lv_icmp_ne (tgt := 16) hx hb dX12_beginRecord_6 (by decide) (fun c1 => ?_) (fun c1 => ?_)
    · have hd5 : d ≠ 6 := fun q => c1 (by rw [q])
      have hk6 : 6 - d = (6 - (d + 1)) + 1 := by omega
      refine lv_aload_n hx hb dX12_beginRecord_16 rfl (lv_at hl 0 rfl) ?_
      refine lv_dup hx hb dX12_beginRecord_17 rfl ?_
      refine rl_get (v := .int (F 45)) hC hW fl_X12_251 hR.1 rfl dX12_beginRecord_18 ?_
      refine rl_topn (y := nI (d)) (hF45) ?_
      refine lv_iconst (v := (nI (1))) hx hb dX12_beginRecord_21 (by decide) ?_
      refine lv_iadd hx hb dX12_beginRecord_22 ?_
      refine rl_topn (nI_add _ _) ?_
      refine rl_put (v := .int (nI ((d) + (1)))) hC hW fp_X12_251 hR.1 (Nat.le_of_ble_eq_true rfl) rfl rfl dX12_beginRecord_23 (fun H locs hW => ?_)
      have hR := hR.f45 (nI ((d) + (1)))
      refine lv_aload_n hx hb dX12_beginRecord_26 rfl (lv_at hl 0 rfl) ?_
      refine rl_calllQ (rl_runV (b := m) (As := []) (rest := []) hC hW (cR_want l D t A _ z m T w ρ0 κ0 G0 (a) (la) 0 (d + 1) (ρ) (κ) G (d) (d) SD SL SI ⟨_, _, _, hR, hTc, hTp, hTk, hGW, hGr, hGd, hGp, hGt, hGc, hF11, hF14, hF44, hF41, hF42, hF43, rfl, ⟨by omega, by omega, by omega, by omega, by omega, by omega, hgl⟩, hSI⟩) cs_X12_254 im_X12_want sl_X12_want hR.1 rfl ⟨(Nat.le_of_ble_eq_true rfl), (Nat.le_of_ble_eq_true rfl)⟩ rfl hl.1 rfl (Nat.le_of_ble_eq_true rfl) dX12_beginRecord_27 ⟨(Nat.le_of_ble_eq_true rfl), (Nat.le_of_ble_eq_true rfl)⟩) hW (fun rk f1 H locs hp hW => ?_)
      obtain ⟨a1, la1, bd1, hlf1, hQ, hw1⟩ := hp
      rcases hw1 with hw1 | hw1
      · obtain ⟨-, rfl, rfl⟩ := hw1
        obtain ⟨I, L, F, hR, hTc, hTp, hTk, hGW, hGr, hGd, hGp, hGt, hGc, hF11, hF14, hF44, hF41, hF42, hF43, hF45, hN, hSI⟩ := hQ
        obtain ⟨hlv, hd6, hw3, hρ0, hκ0, hbd, hgl⟩ := id hN
        have hl250 := hGW.2.2.2.2
        refine lv_lstore_n (lv' := [(2, .long (rk)), (0, .ref (m)), (1, .int (nI (0)))]) hx hb dX12_beginRecord_30 rfl hl (by decide) rfl (fun ls hl => ?_)
        refine lv_aload_n hx hb dX12_beginRecord_31 rfl (lv_at hl 1 rfl) ?_
        refine rl_get (v := .int (F 43)) hC hW fl_X12_238 hR.1 rfl dX12_beginRecord_32 ?_
        refine rl_topn (y := nI (0)) (hF43) ?_
        refine lv_if_ne (tgt := 50) hx hb dX12_beginRecord_35 (by decide) (fun c2 => ?_) (fun c2 => ?_)
        · exact absurd rfl c2
        · refine lv_lload_n hx hb dX12_beginRecord_38 rfl (lv_at hl 0 rfl) ?_
          refine rl_calliQ (rl_runS (As := [.long (rk)]) (rest := []) hC hW (cR_isRecordKind l D t A _ z _) cs_X12_133 sm_X12_isRecordKind ⟨(Nat.le_of_ble_eq_true rfl), (Nat.le_of_ble_eq_true rfl)⟩ rfl hl.1 rfl (Nat.le_of_ble_eq_true rfl) dX12_beginRecord_39 ⟨(Nat.le_of_ble_eq_true rfl), (Nat.le_of_ble_eq_true rfl)⟩) hW (fun r f1 H locs hp hW => ?_)
          obtain ⟨rfl, hp⟩ := hp
          rw [rg_rkl] at hp
          rcases hp with ⟨rfl, hp⟩ | ⟨rfl, hp⟩
          · obtain ⟨k', hk', rfl⟩ := hp
            refine lv_if_ne (tgt := 50) hx hb dX12_beginRecord_42 (by decide) (fun c9 => ?_) (fun c9 => ?_)
            · refine lv_aload_n hx hb dX12_beginRecord_50 rfl (lv_at hl 1 rfl) ?_
              refine rl_calllQ (rl_runV (b := m) (As := []) (rest := []) hC hW (cR_want l D t A _ z m T w ρ0 κ0 G0 (a + 1) (la1) 0 (d + 1) (ρ) (κ) G (d) (d) SD SL SI ⟨_, _, _, hR, hTc, hTp, hTk, hGW, hGr, hGd, hGp, hGt, hGc, hF11, hF14, hF44, hF41, hF42, hF43, hF45, hN, hSI⟩) cs_X12_254 im_X12_want sl_X12_want hR.1 rfl ⟨(Nat.le_of_ble_eq_true rfl), (Nat.le_of_ble_eq_true rfl)⟩ rfl hl.1 rfl (Nat.le_of_ble_eq_true rfl) dX12_beginRecord_51 ⟨(Nat.le_of_ble_eq_true rfl), (Nat.le_of_ble_eq_true rfl)⟩) hW (fun rn f1 H locs hp hW => ?_)
              obtain ⟨a2, la2, bd2, hlf2, hQ, hw2⟩ := hp
              rcases hw2 with hw2 | hw2
              · obtain ⟨-, rfl, rfl⟩ := hw2
                obtain ⟨I, L, F, hR, hTc, hTp, hTk, hGW, hGr, hGd, hGp, hGt, hGc, hF11, hF14, hF44, hF41, hF42, hF43, hF45, hN, hSI⟩ := hQ
                obtain ⟨hlv, hd6, hw3, hρ0, hκ0, hbd, hgl⟩ := id hN
                have hl250 := hGW.2.2.2.2
                refine lv_lstore (lv' := [(4, .long (rn)), (2, .long (lN (2 + k'))), (0, .ref (m)), (1, .int (nI (0)))]) hx hb dX12_beginRecord_54 hl (by decide) rfl (fun ls hl => ?_)
                refine lv_aload_n hx hb dX12_beginRecord_56 rfl (lv_at hl 2 rfl) ?_
                refine rl_get (v := .ref (m + 30)) hC hW fl_X12_106 hR.1 rfl dX12_beginRecord_57 ?_
                refine lv_aload_n hx hb dX12_beginRecord_60 rfl (lv_at hl 2 rfl) ?_
                refine rl_get (v := .int (F 45)) hC hW fl_X12_251 hR.1 rfl dX12_beginRecord_61 ?_
                refine rl_topn (y := nI (d + 1)) (hF45) ?_
                refine lv_iconst (v := (nI (1))) hx hb dX12_beginRecord_64 (by decide) ?_
                refine lv_isub hx hb dX12_beginRecord_65 ?_
                refine rl_topn (rg_sub (c := d) (by omega)) ?_
                refine lv_iload_n hx hb dX12_beginRecord_66 rfl (lv_at hl 3 rfl) ?_
                refine lv_if_eq (tgt := 84) hx hb dX12_beginRecord_67 (by decide) (fun c7 => ?_) (fun c7 => ?_)
                · refine lv_bipush (v := (-3)) hx hb dX12_beginRecord_84 (by decide) ?_
                  refine rl_iast_n (g := I 46) hC hW hR.a46 (by omega) (by decide) dX12_beginRecord_86 (fun H locs hW => ?_)
                  have hR := hR.s46 (upd (I 46) (d) ((-3)))
                  refine lv_aload_n hx hb dX12_beginRecord_87 rfl (lv_at hl 2 rfl) ?_
                  refine rl_get (v := .ref (m + 31)) hC hW fl_X12_109 hR.1 rfl dX12_beginRecord_88 ?_
                  refine lv_aload_n hx hb dX12_beginRecord_91 rfl (lv_at hl 2 rfl) ?_
                  refine rl_get (v := .int (F 45)) hC hW fl_X12_251 hR.1 rfl dX12_beginRecord_92 ?_
                  refine rl_topn (y := nI (d + 1)) (hF45) ?_
                  refine lv_iconst (v := (nI (1))) hx hb dX12_beginRecord_95 (by decide) ?_
                  refine lv_isub hx hb dX12_beginRecord_96 ?_
                  refine rl_topn (rg_sub (c := d) (by omega)) ?_
                  refine lv_lload hx hb dX12_beginRecord_97 (lv_at hl 0 rfl) ?_
                  refine rl_last_n (g := L 47) hC hW hR.a47 (by omega) (by decide) dX12_beginRecord_99 (fun H locs hW => ?_)
                  have hR := hR.s47 (vp_updL (L 47) (d) (rn))
                  refine lv_iconst (v := (nI (0))) hx hb dX12_beginRecord_100 (by decide) ?_
                  refine lv_istore (lv' := [(6, .int (nI (0))), (4, .long (rn)), (2, .long (lN (2 + k'))), (0, .ref (m)), (1, .int (nI (0)))]) hx hb dX12_beginRecord_101 hl (by decide) rfl (fun ls hl => ?_)
                  replace hl : lv_has ls 7 [(0, .ref (m)), (6, .int (nI (0)))] := lv_sub hl [3, 0] rfl
                  have hinv : ∃ f2 : rl_M, ∃ g32 : Nat → Int32, ∃ g31 : Nat → Int64, ∃ i : Nat, rl_W D A f2 z s.heap H locs ∧ RM t f2 m (va_up (va_up I 46 (upd (I 46) (d) ((-3)))) 32 g32) (va_up (va_up L 47 (vp_updL (L 47) (d) (rn))) 31 g31) F ∧ (i ≤ 5) ∧ (∀ y, y < 5 * (d + 1) → g32 y = I 32 y) ∧ (∀ y, y < 5 * (d + 1) → g31 y = L 31 y) ∧ (∀ p, p < i → g32 (5 * (d + 1) + p) = -1 ∧ g31 (5 * (d + 1) + p) = 0) ∧ lv_has ls 7 [(0, .ref (m)), (6, .int (nI (i)))] := ⟨_, I 32, L 31, 0, hW, (RM.eq (va_up_same (va_up I 46 (upd (I 46) (d) ((-3)))) 32) (va_up_same (va_up L 47 (vp_updL (L 47) (d) (rn))) 31) hR), Nat.zero_le _, fun _ _ => rfl, fun _ _ => rfl, fun _ h => absurd h (Nat.not_lt_zero _), hl⟩
                  clear hW hR hl
                  obtain ⟨f2, g32, g31, i, hW, hR, hi, hg, hg2, hn1, hl⟩ := hinv
                  obtain ⟨n, hn⟩ : ∃ n, 5 - i < n := ⟨_, Nat.lt_succ_self _⟩
                  induction n generalizing f2 g32 g31 i H locs ls  with
                  | zero => exact absurd hn (Nat.not_lt_zero _)
                  | succ n ih =>
                    refine lv_iload hx hb dX12_beginRecord_103 (lv_at hl 1 rfl) ?_
                    refine lv_iconst (v := (nI (5))) hx hb dX12_beginRecord_105 (by decide) ?_
                    refine lv_icmp_ge (tgt := 145) hx hb dX12_beginRecord_106 (by decide) (fun c8 => ?_) (fun c8 => ?_)
                    · have hge := rg_le c8 (by decide) (by omega)
                      exact rl_vret hC hW hr hlk (Nat.le_refl _) (Nat.le_refl _) ⟨rfl, rfl, rfl, a + 1 + 1, la2, 0, d + 1, d + 1, _, _, ⟨_, _, _, hR, hTc, hTp, hTk, hGW, hGr, hGd, hGp, hGt, hGc, hF11, hF14, hF44, hF41, hF42, hF43, hF45, hN, (fun _ => (hSI rfl).push hg hg2 (fun p hp => hn1 p (by omega)) (Or.inl ⟨rfl, rfl⟩) rfl)⟩, Or.inr ⟨rfl, by omega, rfl, rfl, rfl, k', _, rfl, rfl, by rw [hk6]; exact rec_s hlf1 (rk_lN hk') hlf2⟩⟩ dX12_beginRecord_145
                    · have hlt := rg_lt c8 (by decide) (by omega)
                      refine lv_aload_n hx hb dX12_beginRecord_109 rfl (lv_at hl 0 rfl) ?_
                      refine rl_get (v := .ref (m + 22)) hC hW fl_X12_82 hR.1 rfl dX12_beginRecord_110 ?_
                      refine lv_iconst (v := (nI (5))) hx hb dX12_beginRecord_113 (by decide) ?_
                      refine lv_aload_n hx hb dX12_beginRecord_114 rfl (lv_at hl 0 rfl) ?_
                      refine rl_get (v := .int (F 45)) hC hW fl_X12_251 hR.1 rfl dX12_beginRecord_115 ?_
                      refine rl_topn (y := nI (d + 1)) (hF45) ?_
                      refine lv_imul hx hb dX12_beginRecord_118 ?_
                      refine rl_topn (pk_mul _ _) ?_
                      refine lv_iload hx hb dX12_beginRecord_119 (lv_at hl 1 rfl) ?_
                      refine lv_iadd hx hb dX12_beginRecord_121 ?_
                      refine rl_topn (nI_add _ _) ?_
                      refine lv_lconst (v := 0) hx hb dX12_beginRecord_122 (by decide) ?_
                      refine rl_last_n (g := g31) hC hW hR.a31 (by omega) (by decide) dX12_beginRecord_123 (fun H locs hW => ?_)
                      have hR := hR.s31 (vp_updL (g31) (((5) * (d + 1)) + (i)) (0))
                      refine lv_aload_n hx hb dX12_beginRecord_124 rfl (lv_at hl 0 rfl) ?_
                      refine rl_get (v := .ref (m + 23)) hC hW fl_X12_85 hR.1 rfl dX12_beginRecord_125 ?_
                      refine lv_iconst (v := (nI (5))) hx hb dX12_beginRecord_128 (by decide) ?_
                      refine lv_aload_n hx hb dX12_beginRecord_129 rfl (lv_at hl 0 rfl) ?_
                      refine rl_get (v := .int (F 45)) hC hW fl_X12_251 hR.1 rfl dX12_beginRecord_130 ?_
                      refine rl_topn (y := nI (d + 1)) (hF45) ?_
                      refine lv_imul hx hb dX12_beginRecord_133 ?_
                      refine rl_topn (pk_mul _ _) ?_
                      refine lv_iload hx hb dX12_beginRecord_134 (lv_at hl 1 rfl) ?_
                      refine lv_iadd hx hb dX12_beginRecord_136 ?_
                      refine rl_topn (nI_add _ _) ?_
                      refine lv_iconst (v := (-1)) hx hb dX12_beginRecord_137 (by decide) ?_
                      refine rl_iast_n (g := g32) hC hW hR.a32 (by omega) (by decide) dX12_beginRecord_138 (fun H locs hW => ?_)
                      have hR := hR.s32 (upd (g32) (((5) * (d + 1)) + (i)) ((-1)))
                      refine lv_iinc (v := (nI ((i) + 1))) (lv' := [(6, .int (nI ((i) + 1))), (0, .ref (m))]) hx hb dX12_beginRecord_139 hl (k := 1) rfl (nI_1 _) (by decide) rfl (fun ls hl => ?_)
                      refine lv_goto (tgt := 103) hx hb dX12_beginRecord_142 (by decide) ?_
                      replace hl : lv_has ls 7 [(0, .ref (m)), (6, .int (nI ((i) + 1)))] := lv_sub hl [1, 0] rfl
                      replace hR := RM.eq (va_up_up _ 32 g32 _).symm (va_up_up _ 31 g31 _).symm hR
                      exact ih _ _ _ _ _ _ (i + 1) hW hR (by omega) (fun y hy => by rw [rg_upl (by omega)]; exact hg y hy) (fun y hy => by rw [vp_upl_n (by omega)]; exact hg2 y hy) (rg_step (fun q hq => by rw [rg_upl (by omega), vp_upl_n (by omega)]; exact hn1 q hq) ⟨rg_ups, vp_upl_s⟩) hl (by omega)
                · first | exact absurd c7 (by decide) | exact absurd (by decide) c7
              · obtain ⟨hne, rfl, hr02⟩ := hw2
                obtain ⟨I, L, F, hR, hTc, hTp, hTk, hGW, hGr, hGd, hGp, hGt, hGc, hF11, hF14, hF44, hF41, hF42, hF43, hF45, hN, hSI⟩ := hQ
                obtain ⟨hlv, hd6, hw3, hρ0, hκ0, hbd, hgl⟩ := id hN
                have hl250 := hGW.2.2.2.2
                refine lv_lstore (lv' := [(4, .long (rn)), (2, .long (lN (2 + k'))), (0, .ref (m)), (1, .int (nI (0)))]) hx hb dX12_beginRecord_54 hl (by decide) rfl (fun ls hl => ?_)
                refine lv_aload_n hx hb dX12_beginRecord_56 rfl (lv_at hl 2 rfl) ?_
                refine rl_get (v := .ref (m + 30)) hC hW fl_X12_106 hR.1 rfl dX12_beginRecord_57 ?_
                refine lv_aload_n hx hb dX12_beginRecord_60 rfl (lv_at hl 2 rfl) ?_
                refine rl_get (v := .int (F 45)) hC hW fl_X12_251 hR.1 rfl dX12_beginRecord_61 ?_
                refine rl_topn (y := nI (d + 1)) (hF45) ?_
                refine lv_iconst (v := (nI (1))) hx hb dX12_beginRecord_64 (by decide) ?_
                refine lv_isub hx hb dX12_beginRecord_65 ?_
                refine rl_topn (rg_sub (c := d) (by omega)) ?_
                refine lv_iload_n hx hb dX12_beginRecord_66 rfl (lv_at hl 3 rfl) ?_
                refine lv_if_eq (tgt := 84) hx hb dX12_beginRecord_67 (by decide) (fun c7 => ?_) (fun c7 => ?_)
                · refine lv_bipush (v := (-3)) hx hb dX12_beginRecord_84 (by decide) ?_
                  refine rl_iast_n (g := I 46) hC hW hR.a46 (by omega) (by decide) dX12_beginRecord_86 (fun H locs hW => ?_)
                  have hR := hR.s46 (upd (I 46) (d) ((-3)))
                  refine lv_aload_n hx hb dX12_beginRecord_87 rfl (lv_at hl 2 rfl) ?_
                  refine rl_get (v := .ref (m + 31)) hC hW fl_X12_109 hR.1 rfl dX12_beginRecord_88 ?_
                  refine lv_aload_n hx hb dX12_beginRecord_91 rfl (lv_at hl 2 rfl) ?_
                  refine rl_get (v := .int (F 45)) hC hW fl_X12_251 hR.1 rfl dX12_beginRecord_92 ?_
                  refine rl_topn (y := nI (d + 1)) (hF45) ?_
                  refine lv_iconst (v := (nI (1))) hx hb dX12_beginRecord_95 (by decide) ?_
                  refine lv_isub hx hb dX12_beginRecord_96 ?_
                  refine rl_topn (rg_sub (c := d) (by omega)) ?_
                  refine lv_lload hx hb dX12_beginRecord_97 (lv_at hl 0 rfl) ?_
                  refine rl_last_n (g := L 47) hC hW hR.a47 (by omega) (by decide) dX12_beginRecord_99 (fun H locs hW => ?_)
                  have hR := hR.s47 (vp_updL (L 47) (d) (rn))
                  refine lv_iconst (v := (nI (0))) hx hb dX12_beginRecord_100 (by decide) ?_
                  refine lv_istore (lv' := [(6, .int (nI (0))), (4, .long (rn)), (2, .long (lN (2 + k'))), (0, .ref (m)), (1, .int (nI (0)))]) hx hb dX12_beginRecord_101 hl (by decide) rfl (fun ls hl => ?_)
                  replace hl : lv_has ls 7 [(0, .ref (m)), (6, .int (nI (0)))] := lv_sub hl [3, 0] rfl
                  have hinv : ∃ f2 : rl_M, ∃ g32 : Nat → Int32, ∃ g31 : Nat → Int64, ∃ i : Nat, rl_W D A f2 z s.heap H locs ∧ RM t f2 m (va_up (va_up I 46 (upd (I 46) (d) ((-3)))) 32 g32) (va_up (va_up L 47 (vp_updL (L 47) (d) (rn))) 31 g31) F ∧ (i ≤ 5) ∧ (∀ y, y < 5 * (d + 1) → g32 y = I 32 y) ∧ (∀ y, y < 5 * (d + 1) → g31 y = L 31 y) ∧ (∀ p, p < i → g32 (5 * (d + 1) + p) = -1 ∧ g31 (5 * (d + 1) + p) = 0) ∧ lv_has ls 7 [(0, .ref (m)), (6, .int (nI (i)))] := ⟨_, I 32, L 31, 0, hW, (RM.eq (va_up_same (va_up I 46 (upd (I 46) (d) ((-3)))) 32) (va_up_same (va_up L 47 (vp_updL (L 47) (d) (rn))) 31) hR), Nat.zero_le _, fun _ _ => rfl, fun _ _ => rfl, fun _ h => absurd h (Nat.not_lt_zero _), hl⟩
                  clear hW hR hl
                  obtain ⟨f2, g32, g31, i, hW, hR, hi, hg, hg2, hn1, hl⟩ := hinv
                  obtain ⟨n, hn⟩ : ∃ n, 5 - i < n := ⟨_, Nat.lt_succ_self _⟩
                  induction n generalizing f2 g32 g31 i H locs ls  with
                  | zero => exact absurd hn (Nat.not_lt_zero _)
                  | succ n ih =>
                    refine lv_iload hx hb dX12_beginRecord_103 (lv_at hl 1 rfl) ?_
                    refine lv_iconst (v := (nI (5))) hx hb dX12_beginRecord_105 (by decide) ?_
                    refine lv_icmp_ge (tgt := 145) hx hb dX12_beginRecord_106 (by decide) (fun c8 => ?_) (fun c8 => ?_)
                    · have hge := rg_le c8 (by decide) (by omega)
                      exact rl_vret hC hW hr hlk (Nat.le_refl _) (Nat.le_refl _) ⟨rfl, rfl, rfl, _, _, _, d + 1, d + 1, SD, SL, ⟨_, _, _, hR, hTc, hTp, hTk, hGW, hGr, hGd, hGp, hGt, hGc, hF11, hF14, hF44, hF41, hF42, hF43, hF45, hN, (fun q => absurd q hne)⟩, Or.inl ⟨hne, by rw [hk6]; exact rec_b hlf1 (rk_lN hk') hlf2 hne⟩⟩ dX12_beginRecord_145
                    · have hlt := rg_lt c8 (by decide) (by omega)
                      refine lv_aload_n hx hb dX12_beginRecord_109 rfl (lv_at hl 0 rfl) ?_
                      refine rl_get (v := .ref (m + 22)) hC hW fl_X12_82 hR.1 rfl dX12_beginRecord_110 ?_
                      refine lv_iconst (v := (nI (5))) hx hb dX12_beginRecord_113 (by decide) ?_
                      refine lv_aload_n hx hb dX12_beginRecord_114 rfl (lv_at hl 0 rfl) ?_
                      refine rl_get (v := .int (F 45)) hC hW fl_X12_251 hR.1 rfl dX12_beginRecord_115 ?_
                      refine rl_topn (y := nI (d + 1)) (hF45) ?_
                      refine lv_imul hx hb dX12_beginRecord_118 ?_
                      refine rl_topn (pk_mul _ _) ?_
                      refine lv_iload hx hb dX12_beginRecord_119 (lv_at hl 1 rfl) ?_
                      refine lv_iadd hx hb dX12_beginRecord_121 ?_
                      refine rl_topn (nI_add _ _) ?_
                      refine lv_lconst (v := 0) hx hb dX12_beginRecord_122 (by decide) ?_
                      refine rl_last_n (g := g31) hC hW hR.a31 (by omega) (by decide) dX12_beginRecord_123 (fun H locs hW => ?_)
                      have hR := hR.s31 (vp_updL (g31) (((5) * (d + 1)) + (i)) (0))
                      refine lv_aload_n hx hb dX12_beginRecord_124 rfl (lv_at hl 0 rfl) ?_
                      refine rl_get (v := .ref (m + 23)) hC hW fl_X12_85 hR.1 rfl dX12_beginRecord_125 ?_
                      refine lv_iconst (v := (nI (5))) hx hb dX12_beginRecord_128 (by decide) ?_
                      refine lv_aload_n hx hb dX12_beginRecord_129 rfl (lv_at hl 0 rfl) ?_
                      refine rl_get (v := .int (F 45)) hC hW fl_X12_251 hR.1 rfl dX12_beginRecord_130 ?_
                      refine rl_topn (y := nI (d + 1)) (hF45) ?_
                      refine lv_imul hx hb dX12_beginRecord_133 ?_
                      refine rl_topn (pk_mul _ _) ?_
                      refine lv_iload hx hb dX12_beginRecord_134 (lv_at hl 1 rfl) ?_
                      refine lv_iadd hx hb dX12_beginRecord_136 ?_
                      refine rl_topn (nI_add _ _) ?_
                      refine lv_iconst (v := (-1)) hx hb dX12_beginRecord_137 (by decide) ?_
                      refine rl_iast_n (g := g32) hC hW hR.a32 (by omega) (by decide) dX12_beginRecord_138 (fun H locs hW => ?_)
                      have hR := hR.s32 (upd (g32) (((5) * (d + 1)) + (i)) ((-1)))
                      refine lv_iinc (v := (nI ((i) + 1))) (lv' := [(6, .int (nI ((i) + 1))), (0, .ref (m))]) hx hb dX12_beginRecord_139 hl (k := 1) rfl (nI_1 _) (by decide) rfl (fun ls hl => ?_)
                      refine lv_goto (tgt := 103) hx hb dX12_beginRecord_142 (by decide) ?_
                      replace hl : lv_has ls 7 [(0, .ref (m)), (6, .int (nI ((i) + 1)))] := lv_sub hl [1, 0] rfl
                      replace hR := RM.eq (va_up_up _ 32 g32 _).symm (va_up_up _ 31 g31 _).symm hR
                      exact ih _ _ _ _ _ _ (i + 1) hW hR (by omega) (fun y hy => by rw [rg_upl (by omega)]; exact hg y hy) (fun y hy => by rw [vp_upl_n (by omega)]; exact hg2 y hy) (rg_step (fun q hq => by rw [rg_upl (by omega), vp_upl_n (by omega)]; exact hn1 q hq) ⟨rg_ups, vp_upl_s⟩) hl (by omega)
                · first | exact absurd c7 (by decide) | exact absurd (by decide) c7
            · exact absurd c9 (by decide)
          · refine lv_if_ne (tgt := 50) hx hb dX12_beginRecord_42 (by decide) (fun c9 => ?_) (fun c9 => ?_)
            · exact absurd rfl c9
            · refine lv_aload_n hx hb dX12_beginRecord_45 rfl (lv_at hl 1 rfl) ?_
              refine lv_iconst (v := (nI (2))) hx hb dX12_beginRecord_46 (by decide) ?_
              refine rl_callvQ (rl_runV (b := m) (As := [.int (nI (2))]) (rest := []) hC hW (cR_fails l D t A _ z m T w ρ0 κ0 G0 (a + 1) (la1) 0 (d + 1) (ρ) (κ) G (d) (d) SD SL SI ⟨_, _, _, hR, hTc, hTp, hTk, hGW, hGr, hGd, hGp, hGt, hGc, hF11, hF14, hF44, hF41, hF42, hF43, hF45, hN, hSI⟩ 2 (by decide) (by decide)) cs_X12_247 im_X12_fails sl_X12_fails hR.1 rfl ⟨(Nat.le_of_ble_eq_true rfl), (Nat.le_of_ble_eq_true rfl)⟩ rfl hl.1 rfl (Nat.le_of_ble_eq_true rfl) dX12_beginRecord_47 ⟨(Nat.le_of_ble_eq_true rfl), (Nat.le_of_ble_eq_true rfl)⟩) hW (fun f1 H locs hp hW => ?_)
              obtain ⟨bd3, hfe3, hne, hQ⟩ := hp
              obtain ⟨I, L, F, hR, hTc, hTp, hTk, hGW, hGr, hGd, hGp, hGt, hGc, hF11, hF14, hF44, hF41, hF42, hF43, hF45, hN, hSI⟩ := hQ
              obtain ⟨hlv, hd6, hw3, hρ0, hκ0, hbd, hgl⟩ := id hN
              have hl250 := hGW.2.2.2.2
              refine lv_aload_n hx hb dX12_beginRecord_50 rfl (lv_at hl 1 rfl) ?_
              refine rl_calllQ (rl_runV (b := m) (As := []) (rest := []) hC hW (cR_want l D t A _ z m T w ρ0 κ0 G0 (a + 1) (la1) bd3 (d + 1) (ρ) (κ) G (d) (d) SD SL SI ⟨_, _, _, hR, hTc, hTp, hTk, hGW, hGr, hGd, hGp, hGt, hGc, hF11, hF14, hF44, hF41, hF42, hF43, hF45, hN, hSI⟩) cs_X12_254 im_X12_want sl_X12_want hR.1 rfl ⟨(Nat.le_of_ble_eq_true rfl), (Nat.le_of_ble_eq_true rfl)⟩ rfl hl.1 rfl (Nat.le_of_ble_eq_true rfl) dX12_beginRecord_51 ⟨(Nat.le_of_ble_eq_true rfl), (Nat.le_of_ble_eq_true rfl)⟩) hW (fun rn f1 H locs hp hW => ?_)
              obtain ⟨a2, la2, bd2, hlf2, hQ, hw2⟩ := hp
              obtain ⟨er2, ea2, el2, eb2⟩ := lf_i hne hlf2
              subst ea2 el2 eb2
              obtain ⟨I, L, F, hR, hTc, hTp, hTk, hGW, hGr, hGd, hGp, hGt, hGc, hF11, hF14, hF44, hF41, hF42, hF43, hF45, hN, hSI⟩ := hQ
              obtain ⟨hlv, hd6, hw3, hρ0, hκ0, hbd, hgl⟩ := id hN
              have hl250 := hGW.2.2.2.2
              refine lv_lstore (lv' := [(4, .long (rn)), (2, .long (rk)), (0, .ref (m)), (1, .int (nI (0)))]) hx hb dX12_beginRecord_54 hl (by decide) rfl (fun ls hl => ?_)
              refine lv_aload_n hx hb dX12_beginRecord_56 rfl (lv_at hl 2 rfl) ?_
              refine rl_get (v := .ref (m + 30)) hC hW fl_X12_106 hR.1 rfl dX12_beginRecord_57 ?_
              refine lv_aload_n hx hb dX12_beginRecord_60 rfl (lv_at hl 2 rfl) ?_
              refine rl_get (v := .int (F 45)) hC hW fl_X12_251 hR.1 rfl dX12_beginRecord_61 ?_
              refine rl_topn (y := nI (d + 1)) (hF45) ?_
              refine lv_iconst (v := (nI (1))) hx hb dX12_beginRecord_64 (by decide) ?_
              refine lv_isub hx hb dX12_beginRecord_65 ?_
              refine rl_topn (rg_sub (c := d) (by omega)) ?_
              refine lv_iload_n hx hb dX12_beginRecord_66 rfl (lv_at hl 3 rfl) ?_
              refine lv_if_eq (tgt := 84) hx hb dX12_beginRecord_67 (by decide) (fun c7 => ?_) (fun c7 => ?_)
              · refine lv_bipush (v := (-3)) hx hb dX12_beginRecord_84 (by decide) ?_
                refine rl_iast_n (g := I 46) hC hW hR.a46 (by omega) (by decide) dX12_beginRecord_86 (fun H locs hW => ?_)
                have hR := hR.s46 (upd (I 46) (d) ((-3)))
                refine lv_aload_n hx hb dX12_beginRecord_87 rfl (lv_at hl 2 rfl) ?_
                refine rl_get (v := .ref (m + 31)) hC hW fl_X12_109 hR.1 rfl dX12_beginRecord_88 ?_
                refine lv_aload_n hx hb dX12_beginRecord_91 rfl (lv_at hl 2 rfl) ?_
                refine rl_get (v := .int (F 45)) hC hW fl_X12_251 hR.1 rfl dX12_beginRecord_92 ?_
                refine rl_topn (y := nI (d + 1)) (hF45) ?_
                refine lv_iconst (v := (nI (1))) hx hb dX12_beginRecord_95 (by decide) ?_
                refine lv_isub hx hb dX12_beginRecord_96 ?_
                refine rl_topn (rg_sub (c := d) (by omega)) ?_
                refine lv_lload hx hb dX12_beginRecord_97 (lv_at hl 0 rfl) ?_
                refine rl_last_n (g := L 47) hC hW hR.a47 (by omega) (by decide) dX12_beginRecord_99 (fun H locs hW => ?_)
                have hR := hR.s47 (vp_updL (L 47) (d) (rn))
                refine lv_iconst (v := (nI (0))) hx hb dX12_beginRecord_100 (by decide) ?_
                refine lv_istore (lv' := [(6, .int (nI (0))), (4, .long (rn)), (2, .long (rk)), (0, .ref (m)), (1, .int (nI (0)))]) hx hb dX12_beginRecord_101 hl (by decide) rfl (fun ls hl => ?_)
                replace hl : lv_has ls 7 [(0, .ref (m)), (6, .int (nI (0)))] := lv_sub hl [3, 0] rfl
                have hinv : ∃ f2 : rl_M, ∃ g32 : Nat → Int32, ∃ g31 : Nat → Int64, ∃ i : Nat, rl_W D A f2 z s.heap H locs ∧ RM t f2 m (va_up (va_up I 46 (upd (I 46) (d) ((-3)))) 32 g32) (va_up (va_up L 47 (vp_updL (L 47) (d) (rn))) 31 g31) F ∧ (i ≤ 5) ∧ (∀ y, y < 5 * (d + 1) → g32 y = I 32 y) ∧ (∀ y, y < 5 * (d + 1) → g31 y = L 31 y) ∧ (∀ p, p < i → g32 (5 * (d + 1) + p) = -1 ∧ g31 (5 * (d + 1) + p) = 0) ∧ lv_has ls 7 [(0, .ref (m)), (6, .int (nI (i)))] := ⟨_, I 32, L 31, 0, hW, (RM.eq (va_up_same (va_up I 46 (upd (I 46) (d) ((-3)))) 32) (va_up_same (va_up L 47 (vp_updL (L 47) (d) (rn))) 31) hR), Nat.zero_le _, fun _ _ => rfl, fun _ _ => rfl, fun _ h => absurd h (Nat.not_lt_zero _), hl⟩
                clear hW hR hl
                obtain ⟨f2, g32, g31, i, hW, hR, hi, hg, hg2, hn1, hl⟩ := hinv
                obtain ⟨n, hn⟩ : ∃ n, 5 - i < n := ⟨_, Nat.lt_succ_self _⟩
                induction n generalizing f2 g32 g31 i H locs ls  with
                | zero => exact absurd hn (Nat.not_lt_zero _)
                | succ n ih =>
                  refine lv_iload hx hb dX12_beginRecord_103 (lv_at hl 1 rfl) ?_
                  refine lv_iconst (v := (nI (5))) hx hb dX12_beginRecord_105 (by decide) ?_
                  refine lv_icmp_ge (tgt := 145) hx hb dX12_beginRecord_106 (by decide) (fun c8 => ?_) (fun c8 => ?_)
                  · have hge := rg_le c8 (by decide) (by omega)
                    exact rl_vret hC hW hr hlk (Nat.le_refl _) (Nat.le_refl _) ⟨rfl, rfl, rfl, _, _, _, d + 1, d + 1, SD, SL, ⟨_, _, _, hR, hTc, hTp, hTk, hGW, hGr, hGd, hGp, hGt, hGc, hF11, hF14, hF44, hF41, hF42, hF43, hF45, hN, (fun q => absurd q hne)⟩, Or.inl ⟨hne, by rw [hk6]; exact (rec_k (q := (a, la, 0, d, ρ, κ, G)) hlf1 (rk_no hp)).trans (by rw [hfe3])⟩⟩ dX12_beginRecord_145
                  · have hlt := rg_lt c8 (by decide) (by omega)
                    refine lv_aload_n hx hb dX12_beginRecord_109 rfl (lv_at hl 0 rfl) ?_
                    refine rl_get (v := .ref (m + 22)) hC hW fl_X12_82 hR.1 rfl dX12_beginRecord_110 ?_
                    refine lv_iconst (v := (nI (5))) hx hb dX12_beginRecord_113 (by decide) ?_
                    refine lv_aload_n hx hb dX12_beginRecord_114 rfl (lv_at hl 0 rfl) ?_
                    refine rl_get (v := .int (F 45)) hC hW fl_X12_251 hR.1 rfl dX12_beginRecord_115 ?_
                    refine rl_topn (y := nI (d + 1)) (hF45) ?_
                    refine lv_imul hx hb dX12_beginRecord_118 ?_
                    refine rl_topn (pk_mul _ _) ?_
                    refine lv_iload hx hb dX12_beginRecord_119 (lv_at hl 1 rfl) ?_
                    refine lv_iadd hx hb dX12_beginRecord_121 ?_
                    refine rl_topn (nI_add _ _) ?_
                    refine lv_lconst (v := 0) hx hb dX12_beginRecord_122 (by decide) ?_
                    refine rl_last_n (g := g31) hC hW hR.a31 (by omega) (by decide) dX12_beginRecord_123 (fun H locs hW => ?_)
                    have hR := hR.s31 (vp_updL (g31) (((5) * (d + 1)) + (i)) (0))
                    refine lv_aload_n hx hb dX12_beginRecord_124 rfl (lv_at hl 0 rfl) ?_
                    refine rl_get (v := .ref (m + 23)) hC hW fl_X12_85 hR.1 rfl dX12_beginRecord_125 ?_
                    refine lv_iconst (v := (nI (5))) hx hb dX12_beginRecord_128 (by decide) ?_
                    refine lv_aload_n hx hb dX12_beginRecord_129 rfl (lv_at hl 0 rfl) ?_
                    refine rl_get (v := .int (F 45)) hC hW fl_X12_251 hR.1 rfl dX12_beginRecord_130 ?_
                    refine rl_topn (y := nI (d + 1)) (hF45) ?_
                    refine lv_imul hx hb dX12_beginRecord_133 ?_
                    refine rl_topn (pk_mul _ _) ?_
                    refine lv_iload hx hb dX12_beginRecord_134 (lv_at hl 1 rfl) ?_
                    refine lv_iadd hx hb dX12_beginRecord_136 ?_
                    refine rl_topn (nI_add _ _) ?_
                    refine lv_iconst (v := (-1)) hx hb dX12_beginRecord_137 (by decide) ?_
                    refine rl_iast_n (g := g32) hC hW hR.a32 (by omega) (by decide) dX12_beginRecord_138 (fun H locs hW => ?_)
                    have hR := hR.s32 (upd (g32) (((5) * (d + 1)) + (i)) ((-1)))
                    refine lv_iinc (v := (nI ((i) + 1))) (lv' := [(6, .int (nI ((i) + 1))), (0, .ref (m))]) hx hb dX12_beginRecord_139 hl (k := 1) rfl (nI_1 _) (by decide) rfl (fun ls hl => ?_)
                    refine lv_goto (tgt := 103) hx hb dX12_beginRecord_142 (by decide) ?_
                    replace hl : lv_has ls 7 [(0, .ref (m)), (6, .int (nI ((i) + 1)))] := lv_sub hl [1, 0] rfl
                    replace hR := RM.eq (va_up_up _ 32 g32 _).symm (va_up_up _ 31 g31 _).symm hR
                    exact ih _ _ _ _ _ _ (i + 1) hW hR (by omega) (fun y hy => by rw [rg_upl (by omega)]; exact hg y hy) (fun y hy => by rw [vp_upl_n (by omega)]; exact hg2 y hy) (rg_step (fun q hq => by rw [rg_upl (by omega), vp_upl_n (by omega)]; exact hn1 q hq) ⟨rg_ups, vp_upl_s⟩) hl (by omega)
              · first | exact absurd c7 (by decide) | exact absurd (by decide) c7
      · obtain ⟨hne, rfl, hr01⟩ := hw1
        obtain ⟨I, L, F, hR, hTc, hTp, hTk, hGW, hGr, hGd, hGp, hGt, hGc, hF11, hF14, hF44, hF41, hF42, hF43, hF45, hN, hSI⟩ := hQ
        obtain ⟨hlv, hd6, hw3, hρ0, hκ0, hbd, hgl⟩ := id hN
        have hl250 := hGW.2.2.2.2
        refine lv_lstore_n (lv' := [(2, .long (rk)), (0, .ref (m)), (1, .int (nI (0)))]) hx hb dX12_beginRecord_30 rfl hl (by decide) rfl (fun ls hl => ?_)
        refine lv_aload_n hx hb dX12_beginRecord_31 rfl (lv_at hl 1 rfl) ?_
        refine rl_get (v := .int (F 43)) hC hW fl_X12_238 hR.1 rfl dX12_beginRecord_32 ?_
        refine rl_topn (y := nI (bd1)) (hF43) ?_
        refine lv_if_ne (tgt := 50) hx hb dX12_beginRecord_35 (by decide) (fun c2 => ?_) (fun c2 => ?_)
        · refine lv_aload_n hx hb dX12_beginRecord_50 rfl (lv_at hl 1 rfl) ?_
          refine rl_calllQ (rl_runV (b := m) (As := []) (rest := []) hC hW (cR_want l D t A _ z m T w ρ0 κ0 G0 (a) (la1) bd1 (d + 1) (ρ) (κ) G (d) (d) SD SL SI ⟨_, _, _, hR, hTc, hTp, hTk, hGW, hGr, hGd, hGp, hGt, hGc, hF11, hF14, hF44, hF41, hF42, hF43, hF45, hN, hSI⟩) cs_X12_254 im_X12_want sl_X12_want hR.1 rfl ⟨(Nat.le_of_ble_eq_true rfl), (Nat.le_of_ble_eq_true rfl)⟩ rfl hl.1 rfl (Nat.le_of_ble_eq_true rfl) dX12_beginRecord_51 ⟨(Nat.le_of_ble_eq_true rfl), (Nat.le_of_ble_eq_true rfl)⟩) hW (fun rn f1 H locs hp hW => ?_)
          obtain ⟨a2, la2, bd2, hlf2, hQ, hw2⟩ := hp
          obtain ⟨er2, ea2, el2, eb2⟩ := lf_i hne hlf2
          subst ea2 el2 eb2
          obtain ⟨I, L, F, hR, hTc, hTp, hTk, hGW, hGr, hGd, hGp, hGt, hGc, hF11, hF14, hF44, hF41, hF42, hF43, hF45, hN, hSI⟩ := hQ
          obtain ⟨hlv, hd6, hw3, hρ0, hκ0, hbd, hgl⟩ := id hN
          have hl250 := hGW.2.2.2.2
          refine lv_lstore (lv' := [(4, .long (rn)), (2, .long (rk)), (0, .ref (m)), (1, .int (nI (0)))]) hx hb dX12_beginRecord_54 hl (by decide) rfl (fun ls hl => ?_)
          refine lv_aload_n hx hb dX12_beginRecord_56 rfl (lv_at hl 2 rfl) ?_
          refine rl_get (v := .ref (m + 30)) hC hW fl_X12_106 hR.1 rfl dX12_beginRecord_57 ?_
          refine lv_aload_n hx hb dX12_beginRecord_60 rfl (lv_at hl 2 rfl) ?_
          refine rl_get (v := .int (F 45)) hC hW fl_X12_251 hR.1 rfl dX12_beginRecord_61 ?_
          refine rl_topn (y := nI (d + 1)) (hF45) ?_
          refine lv_iconst (v := (nI (1))) hx hb dX12_beginRecord_64 (by decide) ?_
          refine lv_isub hx hb dX12_beginRecord_65 ?_
          refine rl_topn (rg_sub (c := d) (by omega)) ?_
          refine lv_iload_n hx hb dX12_beginRecord_66 rfl (lv_at hl 3 rfl) ?_
          refine lv_if_eq (tgt := 84) hx hb dX12_beginRecord_67 (by decide) (fun c7 => ?_) (fun c7 => ?_)
          · refine lv_bipush (v := (-3)) hx hb dX12_beginRecord_84 (by decide) ?_
            refine rl_iast_n (g := I 46) hC hW hR.a46 (by omega) (by decide) dX12_beginRecord_86 (fun H locs hW => ?_)
            have hR := hR.s46 (upd (I 46) (d) ((-3)))
            refine lv_aload_n hx hb dX12_beginRecord_87 rfl (lv_at hl 2 rfl) ?_
            refine rl_get (v := .ref (m + 31)) hC hW fl_X12_109 hR.1 rfl dX12_beginRecord_88 ?_
            refine lv_aload_n hx hb dX12_beginRecord_91 rfl (lv_at hl 2 rfl) ?_
            refine rl_get (v := .int (F 45)) hC hW fl_X12_251 hR.1 rfl dX12_beginRecord_92 ?_
            refine rl_topn (y := nI (d + 1)) (hF45) ?_
            refine lv_iconst (v := (nI (1))) hx hb dX12_beginRecord_95 (by decide) ?_
            refine lv_isub hx hb dX12_beginRecord_96 ?_
            refine rl_topn (rg_sub (c := d) (by omega)) ?_
            refine lv_lload hx hb dX12_beginRecord_97 (lv_at hl 0 rfl) ?_
            refine rl_last_n (g := L 47) hC hW hR.a47 (by omega) (by decide) dX12_beginRecord_99 (fun H locs hW => ?_)
            have hR := hR.s47 (vp_updL (L 47) (d) (rn))
            refine lv_iconst (v := (nI (0))) hx hb dX12_beginRecord_100 (by decide) ?_
            refine lv_istore (lv' := [(6, .int (nI (0))), (4, .long (rn)), (2, .long (rk)), (0, .ref (m)), (1, .int (nI (0)))]) hx hb dX12_beginRecord_101 hl (by decide) rfl (fun ls hl => ?_)
            replace hl : lv_has ls 7 [(0, .ref (m)), (6, .int (nI (0)))] := lv_sub hl [3, 0] rfl
            have hinv : ∃ f2 : rl_M, ∃ g32 : Nat → Int32, ∃ g31 : Nat → Int64, ∃ i : Nat, rl_W D A f2 z s.heap H locs ∧ RM t f2 m (va_up (va_up I 46 (upd (I 46) (d) ((-3)))) 32 g32) (va_up (va_up L 47 (vp_updL (L 47) (d) (rn))) 31 g31) F ∧ (i ≤ 5) ∧ (∀ y, y < 5 * (d + 1) → g32 y = I 32 y) ∧ (∀ y, y < 5 * (d + 1) → g31 y = L 31 y) ∧ (∀ p, p < i → g32 (5 * (d + 1) + p) = -1 ∧ g31 (5 * (d + 1) + p) = 0) ∧ lv_has ls 7 [(0, .ref (m)), (6, .int (nI (i)))] := ⟨_, I 32, L 31, 0, hW, (RM.eq (va_up_same (va_up I 46 (upd (I 46) (d) ((-3)))) 32) (va_up_same (va_up L 47 (vp_updL (L 47) (d) (rn))) 31) hR), Nat.zero_le _, fun _ _ => rfl, fun _ _ => rfl, fun _ h => absurd h (Nat.not_lt_zero _), hl⟩
            clear hW hR hl
            obtain ⟨f2, g32, g31, i, hW, hR, hi, hg, hg2, hn1, hl⟩ := hinv
            obtain ⟨n, hn⟩ : ∃ n, 5 - i < n := ⟨_, Nat.lt_succ_self _⟩
            induction n generalizing f2 g32 g31 i H locs ls  with
            | zero => exact absurd hn (Nat.not_lt_zero _)
            | succ n ih =>
              refine lv_iload hx hb dX12_beginRecord_103 (lv_at hl 1 rfl) ?_
              refine lv_iconst (v := (nI (5))) hx hb dX12_beginRecord_105 (by decide) ?_
              refine lv_icmp_ge (tgt := 145) hx hb dX12_beginRecord_106 (by decide) (fun c8 => ?_) (fun c8 => ?_)
              · have hge := rg_le c8 (by decide) (by omega)
                exact rl_vret hC hW hr hlk (Nat.le_refl _) (Nat.le_refl _) ⟨rfl, rfl, rfl, _, _, _, d + 1, d + 1, SD, SL, ⟨_, _, _, hR, hTc, hTp, hTk, hGW, hGr, hGd, hGp, hGt, hGc, hF11, hF14, hF44, hF41, hF42, hF43, hF45, hN, (fun q => absurd q hne)⟩, Or.inl ⟨hne, by rw [hk6]; exact rec_n hlf1 (by rw [hr01]; decide) hne⟩⟩ dX12_beginRecord_145
              · have hlt := rg_lt c8 (by decide) (by omega)
                refine lv_aload_n hx hb dX12_beginRecord_109 rfl (lv_at hl 0 rfl) ?_
                refine rl_get (v := .ref (m + 22)) hC hW fl_X12_82 hR.1 rfl dX12_beginRecord_110 ?_
                refine lv_iconst (v := (nI (5))) hx hb dX12_beginRecord_113 (by decide) ?_
                refine lv_aload_n hx hb dX12_beginRecord_114 rfl (lv_at hl 0 rfl) ?_
                refine rl_get (v := .int (F 45)) hC hW fl_X12_251 hR.1 rfl dX12_beginRecord_115 ?_
                refine rl_topn (y := nI (d + 1)) (hF45) ?_
                refine lv_imul hx hb dX12_beginRecord_118 ?_
                refine rl_topn (pk_mul _ _) ?_
                refine lv_iload hx hb dX12_beginRecord_119 (lv_at hl 1 rfl) ?_
                refine lv_iadd hx hb dX12_beginRecord_121 ?_
                refine rl_topn (nI_add _ _) ?_
                refine lv_lconst (v := 0) hx hb dX12_beginRecord_122 (by decide) ?_
                refine rl_last_n (g := g31) hC hW hR.a31 (by omega) (by decide) dX12_beginRecord_123 (fun H locs hW => ?_)
                have hR := hR.s31 (vp_updL (g31) (((5) * (d + 1)) + (i)) (0))
                refine lv_aload_n hx hb dX12_beginRecord_124 rfl (lv_at hl 0 rfl) ?_
                refine rl_get (v := .ref (m + 23)) hC hW fl_X12_85 hR.1 rfl dX12_beginRecord_125 ?_
                refine lv_iconst (v := (nI (5))) hx hb dX12_beginRecord_128 (by decide) ?_
                refine lv_aload_n hx hb dX12_beginRecord_129 rfl (lv_at hl 0 rfl) ?_
                refine rl_get (v := .int (F 45)) hC hW fl_X12_251 hR.1 rfl dX12_beginRecord_130 ?_
                refine rl_topn (y := nI (d + 1)) (hF45) ?_
                refine lv_imul hx hb dX12_beginRecord_133 ?_
                refine rl_topn (pk_mul _ _) ?_
                refine lv_iload hx hb dX12_beginRecord_134 (lv_at hl 1 rfl) ?_
                refine lv_iadd hx hb dX12_beginRecord_136 ?_
                refine rl_topn (nI_add _ _) ?_
                refine lv_iconst (v := (-1)) hx hb dX12_beginRecord_137 (by decide) ?_
                refine rl_iast_n (g := g32) hC hW hR.a32 (by omega) (by decide) dX12_beginRecord_138 (fun H locs hW => ?_)
                have hR := hR.s32 (upd (g32) (((5) * (d + 1)) + (i)) ((-1)))
                refine lv_iinc (v := (nI ((i) + 1))) (lv' := [(6, .int (nI ((i) + 1))), (0, .ref (m))]) hx hb dX12_beginRecord_139 hl (k := 1) rfl (nI_1 _) (by decide) rfl (fun ls hl => ?_)
                refine lv_goto (tgt := 103) hx hb dX12_beginRecord_142 (by decide) ?_
                replace hl : lv_has ls 7 [(0, .ref (m)), (6, .int (nI ((i) + 1)))] := lv_sub hl [1, 0] rfl
                replace hR := RM.eq (va_up_up _ 32 g32 _).symm (va_up_up _ 31 g31 _).symm hR
                exact ih _ _ _ _ _ _ (i + 1) hW hR (by omega) (fun y hy => by rw [rg_upl (by omega)]; exact hg y hy) (fun y hy => by rw [vp_upl_n (by omega)]; exact hg2 y hy) (rg_step (fun q hq => by rw [rg_upl (by omega), vp_upl_n (by omega)]; exact hn1 q hq) ⟨rg_ups, vp_upl_s⟩) hl (by omega)
          · first | exact absurd c7 (by decide) | exact absurd (by decide) c7
        · exact absurd ((nI_eq (by omega) (by decide)).mp c2) hne
    · have hd : d = 6 := (nI_eq (by omega) (by decide)).mp c1
      refine lv_aload_n hx hb dX12_beginRecord_9 rfl (lv_at hl 0 rfl) ?_
      refine lv_bipush (v := (nI (8))) hx hb dX12_beginRecord_10 (by decide) ?_
      refine rl_callvQ (rl_runV (b := m) (As := [.int (nI (8))]) (rest := []) hC hW (cR_fails l D t A _ z m T w ρ0 κ0 G0 a la 0 d ρ κ G d d SD SL SI ⟨_, _, _, hR, hTc, hTp, hTk, hGW, hGr, hGd, hGp, hGt, hGc, hF11, hF14, hF44, hF41, hF42, hF43, hF45, hN, hSI⟩ 8 (by decide) (by decide)) cs_X12_247 im_X12_fails sl_X12_fails hR.1 rfl ⟨(Nat.le_of_ble_eq_true rfl), (Nat.le_of_ble_eq_true rfl)⟩ rfl hl.1 rfl (Nat.le_of_ble_eq_true rfl) dX12_beginRecord_12 ⟨(Nat.le_of_ble_eq_true rfl), (Nat.le_of_ble_eq_true rfl)⟩) hW (fun f1 H locs hp hW => ?_)
      obtain ⟨bd1, hfe, hne, hQ⟩ := hp
      exact rl_vret hC hW hr hlk (Nat.le_refl _) (Nat.le_refl _) ⟨rfl, rfl, rfl, a, la, bd1, d, d, SD, SL, hQ, Or.inl ⟨hne, by rw [show 6 - d = 0 by omega, rec_6, hfe]⟩⟩ dX12_beginRecord_15
  · refine lv_aload_n hx hb dX12_beginRecord_0 rfl (lv_at hl 0 rfl) ?_
    refine rl_get (v := .int (F 45)) hC hW fl_X12_251 hR.1 rfl dX12_beginRecord_1 ?_
    refine rl_topn (y := nI (d)) (hF45) ?_
    refine lv_bipush (v := (nI (6))) hx hb dX12_beginRecord_4 (by decide) ?_
    refine lv_icmp_ne (tgt := 16) hx hb dX12_beginRecord_6 (by decide) (fun c1 => ?_) (fun c1 => ?_)
    · have hd5 : d ≠ 6 := fun q => c1 (by rw [q])
      have hk6 : 6 - d = (6 - (d + 1)) + 1 := by omega
      refine lv_aload_n hx hb dX12_beginRecord_16 rfl (lv_at hl 0 rfl) ?_
      refine lv_dup hx hb dX12_beginRecord_17 rfl ?_
      refine rl_get (v := .int (F 45)) hC hW fl_X12_251 hR.1 rfl dX12_beginRecord_18 ?_
      refine rl_topn (y := nI (d)) (hF45) ?_
      refine lv_iconst (v := (nI (1))) hx hb dX12_beginRecord_21 (by decide) ?_
      refine lv_iadd hx hb dX12_beginRecord_22 ?_
      refine rl_topn (nI_add _ _) ?_
      refine rl_put (v := .int (nI ((d) + (1)))) hC hW fp_X12_251 hR.1 (Nat.le_of_ble_eq_true rfl) rfl rfl dX12_beginRecord_23 (fun H locs hW => ?_)
      have hR := hR.f45 (nI ((d) + (1)))
      refine lv_aload_n hx hb dX12_beginRecord_26 rfl (lv_at hl 0 rfl) ?_
      refine rl_calllQ (rl_runV (b := m) (As := []) (rest := []) hC hW (cR_want l D t A _ z m T w ρ0 κ0 G0 (a) (la) 0 (d + 1) (ρ) (κ) G (d) (d) SD SL SI ⟨_, _, _, hR, hTc, hTp, hTk, hGW, hGr, hGd, hGp, hGt, hGc, hF11, hF14, hF44, hF41, hF42, hF43, rfl, ⟨by omega, by omega, by omega, by omega, by omega, by omega, hgl⟩, hSI⟩) cs_X12_254 im_X12_want sl_X12_want hR.1 rfl ⟨(Nat.le_of_ble_eq_true rfl), (Nat.le_of_ble_eq_true rfl)⟩ rfl hl.1 rfl (Nat.le_of_ble_eq_true rfl) dX12_beginRecord_27 ⟨(Nat.le_of_ble_eq_true rfl), (Nat.le_of_ble_eq_true rfl)⟩) hW (fun rk f1 H locs hp hW => ?_)
      obtain ⟨a1, la1, bd1, hlf1, hQ, hw1⟩ := hp
      rcases hw1 with hw1 | hw1
      · obtain ⟨-, rfl, rfl⟩ := hw1
        obtain ⟨I, L, F, hR, hTc, hTp, hTk, hGW, hGr, hGd, hGp, hGt, hGc, hF11, hF14, hF44, hF41, hF42, hF43, hF45, hN, hSI⟩ := hQ
        obtain ⟨hlv, hd6, hw3, hρ0, hκ0, hbd, hgl⟩ := id hN
        have hl250 := hGW.2.2.2.2
        refine lv_lstore_n (lv' := [(2, .long (rk)), (0, .ref (m)), (1, .int (nI (1)))]) hx hb dX12_beginRecord_30 rfl hl (by decide) rfl (fun ls hl => ?_)
        refine lv_aload_n hx hb dX12_beginRecord_31 rfl (lv_at hl 1 rfl) ?_
        refine rl_get (v := .int (F 43)) hC hW fl_X12_238 hR.1 rfl dX12_beginRecord_32 ?_
        refine rl_topn (y := nI (0)) (hF43) ?_
        refine lv_if_ne (tgt := 50) hx hb dX12_beginRecord_35 (by decide) (fun c2 => ?_) (fun c2 => ?_)
        · exact absurd rfl c2
        · refine lv_lload_n hx hb dX12_beginRecord_38 rfl (lv_at hl 0 rfl) ?_
          refine rl_calliQ (rl_runS (As := [.long (rk)]) (rest := []) hC hW (cR_isRecordKind l D t A _ z _) cs_X12_133 sm_X12_isRecordKind ⟨(Nat.le_of_ble_eq_true rfl), (Nat.le_of_ble_eq_true rfl)⟩ rfl hl.1 rfl (Nat.le_of_ble_eq_true rfl) dX12_beginRecord_39 ⟨(Nat.le_of_ble_eq_true rfl), (Nat.le_of_ble_eq_true rfl)⟩) hW (fun r f1 H locs hp hW => ?_)
          obtain ⟨rfl, hp⟩ := hp
          rw [rg_rkl] at hp
          rcases hp with ⟨rfl, hp⟩ | ⟨rfl, hp⟩
          · obtain ⟨k', hk', rfl⟩ := hp
            refine lv_if_ne (tgt := 50) hx hb dX12_beginRecord_42 (by decide) (fun c9 => ?_) (fun c9 => ?_)
            · refine lv_aload_n hx hb dX12_beginRecord_50 rfl (lv_at hl 1 rfl) ?_
              refine rl_calllQ (rl_runV (b := m) (As := []) (rest := []) hC hW (cR_want l D t A _ z m T w ρ0 κ0 G0 (a + 1) (la1) 0 (d + 1) (ρ) (κ) G (d) (d) SD SL SI ⟨_, _, _, hR, hTc, hTp, hTk, hGW, hGr, hGd, hGp, hGt, hGc, hF11, hF14, hF44, hF41, hF42, hF43, hF45, hN, hSI⟩) cs_X12_254 im_X12_want sl_X12_want hR.1 rfl ⟨(Nat.le_of_ble_eq_true rfl), (Nat.le_of_ble_eq_true rfl)⟩ rfl hl.1 rfl (Nat.le_of_ble_eq_true rfl) dX12_beginRecord_51 ⟨(Nat.le_of_ble_eq_true rfl), (Nat.le_of_ble_eq_true rfl)⟩) hW (fun rn f1 H locs hp hW => ?_)
              obtain ⟨a2, la2, bd2, hlf2, hQ, hw2⟩ := hp
              rcases hw2 with hw2 | hw2
              · obtain ⟨-, rfl, rfl⟩ := hw2
                obtain ⟨I, L, F, hR, hTc, hTp, hTk, hGW, hGr, hGd, hGp, hGt, hGc, hF11, hF14, hF44, hF41, hF42, hF43, hF45, hN, hSI⟩ := hQ
                obtain ⟨hlv, hd6, hw3, hρ0, hκ0, hbd, hgl⟩ := id hN
                have hl250 := hGW.2.2.2.2
                refine lv_lstore (lv' := [(4, .long (rn)), (2, .long (lN (2 + k'))), (0, .ref (m)), (1, .int (nI (1)))]) hx hb dX12_beginRecord_54 hl (by decide) rfl (fun ls hl => ?_)
                refine lv_aload_n hx hb dX12_beginRecord_56 rfl (lv_at hl 2 rfl) ?_
                refine rl_get (v := .ref (m + 30)) hC hW fl_X12_106 hR.1 rfl dX12_beginRecord_57 ?_
                refine lv_aload_n hx hb dX12_beginRecord_60 rfl (lv_at hl 2 rfl) ?_
                refine rl_get (v := .int (F 45)) hC hW fl_X12_251 hR.1 rfl dX12_beginRecord_61 ?_
                refine rl_topn (y := nI (d + 1)) (hF45) ?_
                refine lv_iconst (v := (nI (1))) hx hb dX12_beginRecord_64 (by decide) ?_
                refine lv_isub hx hb dX12_beginRecord_65 ?_
                refine rl_topn (rg_sub (c := d) (by omega)) ?_
                refine lv_iload_n hx hb dX12_beginRecord_66 rfl (lv_at hl 3 rfl) ?_
                refine lv_if_eq (tgt := 84) hx hb dX12_beginRecord_67 (by decide) (fun c7 => ?_) (fun c7 => ?_)
                · first | exact absurd c7 (by decide) | exact absurd (by decide) c7
                · refine lv_iconst (v := (nI (3))) hx hb dX12_beginRecord_70 (by decide) ?_
                  refine lv_lload_n hx hb dX12_beginRecord_71 rfl (lv_at hl 1 rfl) ?_
                  refine lv_l2i hx hb dX12_beginRecord_72 rfl ?_
                  refine rl_topn (lN_i _) ?_
                  refine lv_iconst (v := (nI (2))) hx hb dX12_beginRecord_73 (by decide) ?_
                  refine lv_isub hx hb dX12_beginRecord_74 ?_
                  refine rl_topn (rg_sub (c := k') (by omega)) ?_
                  refine lv_imul hx hb dX12_beginRecord_75 ?_
                  refine rl_topn (pk_mul _ _) ?_
                  refine lv_aload_n hx hb dX12_beginRecord_76 rfl (lv_at hl 2 rfl) ?_
                  refine rl_get (v := .int (F 44)) hC hW fl_X12_258 hR.1 rfl dX12_beginRecord_77 ?_
                  refine rl_topn (y := nI (w)) (hF44) ?_
                  refine lv_iadd hx hb dX12_beginRecord_80 ?_
                  refine rl_topn (nI_add _ _) ?_
                  refine lv_goto (tgt := 86) hx hb dX12_beginRecord_81 (by decide) ?_
                  refine rl_iast_n (g := I 46) hC hW hR.a46 (by omega) (by decide) dX12_beginRecord_86 (fun H locs hW => ?_)
                  have hR := hR.s46 (upd (I 46) (d) ((nI (((3) * (k')) + (w)))))
                  refine lv_aload_n hx hb dX12_beginRecord_87 rfl (lv_at hl 2 rfl) ?_
                  refine rl_get (v := .ref (m + 31)) hC hW fl_X12_109 hR.1 rfl dX12_beginRecord_88 ?_
                  refine lv_aload_n hx hb dX12_beginRecord_91 rfl (lv_at hl 2 rfl) ?_
                  refine rl_get (v := .int (F 45)) hC hW fl_X12_251 hR.1 rfl dX12_beginRecord_92 ?_
                  refine rl_topn (y := nI (d + 1)) (hF45) ?_
                  refine lv_iconst (v := (nI (1))) hx hb dX12_beginRecord_95 (by decide) ?_
                  refine lv_isub hx hb dX12_beginRecord_96 ?_
                  refine rl_topn (rg_sub (c := d) (by omega)) ?_
                  refine lv_lload hx hb dX12_beginRecord_97 (lv_at hl 0 rfl) ?_
                  refine rl_last_n (g := L 47) hC hW hR.a47 (by omega) (by decide) dX12_beginRecord_99 (fun H locs hW => ?_)
                  have hR := hR.s47 (vp_updL (L 47) (d) (rn))
                  refine lv_iconst (v := (nI (0))) hx hb dX12_beginRecord_100 (by decide) ?_
                  refine lv_istore (lv' := [(6, .int (nI (0))), (4, .long (rn)), (2, .long (lN (2 + k'))), (0, .ref (m)), (1, .int (nI (1)))]) hx hb dX12_beginRecord_101 hl (by decide) rfl (fun ls hl => ?_)
                  replace hl : lv_has ls 7 [(0, .ref (m)), (6, .int (nI (0)))] := lv_sub hl [3, 0] rfl
                  have hinv : ∃ f2 : rl_M, ∃ g32 : Nat → Int32, ∃ g31 : Nat → Int64, ∃ i : Nat, rl_W D A f2 z s.heap H locs ∧ RM t f2 m (va_up (va_up I 46 (upd (I 46) (d) ((nI (((3) * (k')) + (w)))))) 32 g32) (va_up (va_up L 47 (vp_updL (L 47) (d) (rn))) 31 g31) F ∧ (i ≤ 5) ∧ (∀ y, y < 5 * (d + 1) → g32 y = I 32 y) ∧ (∀ y, y < 5 * (d + 1) → g31 y = L 31 y) ∧ (∀ p, p < i → g32 (5 * (d + 1) + p) = -1 ∧ g31 (5 * (d + 1) + p) = 0) ∧ lv_has ls 7 [(0, .ref (m)), (6, .int (nI (i)))] := ⟨_, I 32, L 31, 0, hW, (RM.eq (va_up_same (va_up I 46 (upd (I 46) (d) ((nI (((3) * (k')) + (w)))))) 32) (va_up_same (va_up L 47 (vp_updL (L 47) (d) (rn))) 31) hR), Nat.zero_le _, fun _ _ => rfl, fun _ _ => rfl, fun _ h => absurd h (Nat.not_lt_zero _), hl⟩
                  clear hW hR hl
                  obtain ⟨f2, g32, g31, i, hW, hR, hi, hg, hg2, hn1, hl⟩ := hinv
                  obtain ⟨n, hn⟩ : ∃ n, 5 - i < n := ⟨_, Nat.lt_succ_self _⟩
                  induction n generalizing f2 g32 g31 i H locs ls  with
                  | zero => exact absurd hn (Nat.not_lt_zero _)
                  | succ n ih =>
                    refine lv_iload hx hb dX12_beginRecord_103 (lv_at hl 1 rfl) ?_
                    refine lv_iconst (v := (nI (5))) hx hb dX12_beginRecord_105 (by decide) ?_
                    refine lv_icmp_ge (tgt := 145) hx hb dX12_beginRecord_106 (by decide) (fun c8 => ?_) (fun c8 => ?_)
                    · have hge := rg_le c8 (by decide) (by omega)
                      exact rl_vret hC hW hr hlk (Nat.le_refl _) (Nat.le_refl _) ⟨rfl, rfl, rfl, a + 1 + 1, la2, 0, d + 1, d + 1, _, _, ⟨_, _, _, hR, hTc, hTp, hTk, hGW, hGr, hGd, hGp, hGt, hGc, hF11, hF14, hF44, hF41, hF42, hF43, hF45, hN, (fun _ => (hSI rfl).push hg hg2 (fun p hp => hn1 p (by omega)) (Or.inr ⟨3 * k' + w, by omega, rfl, rfl⟩) rfl)⟩, Or.inr ⟨rfl, by omega, rfl, rfl, rfl, k', _, rfl, rfl, by rw [hk6]; exact rec_s hlf1 (rk_lN hk') hlf2⟩⟩ dX12_beginRecord_145
                    · have hlt := rg_lt c8 (by decide) (by omega)
                      refine lv_aload_n hx hb dX12_beginRecord_109 rfl (lv_at hl 0 rfl) ?_
                      refine rl_get (v := .ref (m + 22)) hC hW fl_X12_82 hR.1 rfl dX12_beginRecord_110 ?_
                      refine lv_iconst (v := (nI (5))) hx hb dX12_beginRecord_113 (by decide) ?_
                      refine lv_aload_n hx hb dX12_beginRecord_114 rfl (lv_at hl 0 rfl) ?_
                      refine rl_get (v := .int (F 45)) hC hW fl_X12_251 hR.1 rfl dX12_beginRecord_115 ?_
                      refine rl_topn (y := nI (d + 1)) (hF45) ?_
                      refine lv_imul hx hb dX12_beginRecord_118 ?_
                      refine rl_topn (pk_mul _ _) ?_
                      refine lv_iload hx hb dX12_beginRecord_119 (lv_at hl 1 rfl) ?_
                      refine lv_iadd hx hb dX12_beginRecord_121 ?_
                      refine rl_topn (nI_add _ _) ?_
                      refine lv_lconst (v := 0) hx hb dX12_beginRecord_122 (by decide) ?_
                      refine rl_last_n (g := g31) hC hW hR.a31 (by omega) (by decide) dX12_beginRecord_123 (fun H locs hW => ?_)
                      have hR := hR.s31 (vp_updL (g31) (((5) * (d + 1)) + (i)) (0))
                      refine lv_aload_n hx hb dX12_beginRecord_124 rfl (lv_at hl 0 rfl) ?_
                      refine rl_get (v := .ref (m + 23)) hC hW fl_X12_85 hR.1 rfl dX12_beginRecord_125 ?_
                      refine lv_iconst (v := (nI (5))) hx hb dX12_beginRecord_128 (by decide) ?_
                      refine lv_aload_n hx hb dX12_beginRecord_129 rfl (lv_at hl 0 rfl) ?_
                      refine rl_get (v := .int (F 45)) hC hW fl_X12_251 hR.1 rfl dX12_beginRecord_130 ?_
                      refine rl_topn (y := nI (d + 1)) (hF45) ?_
                      refine lv_imul hx hb dX12_beginRecord_133 ?_
                      refine rl_topn (pk_mul _ _) ?_
                      refine lv_iload hx hb dX12_beginRecord_134 (lv_at hl 1 rfl) ?_
                      refine lv_iadd hx hb dX12_beginRecord_136 ?_
                      refine rl_topn (nI_add _ _) ?_
                      refine lv_iconst (v := (-1)) hx hb dX12_beginRecord_137 (by decide) ?_
                      refine rl_iast_n (g := g32) hC hW hR.a32 (by omega) (by decide) dX12_beginRecord_138 (fun H locs hW => ?_)
                      have hR := hR.s32 (upd (g32) (((5) * (d + 1)) + (i)) ((-1)))
                      refine lv_iinc (v := (nI ((i) + 1))) (lv' := [(6, .int (nI ((i) + 1))), (0, .ref (m))]) hx hb dX12_beginRecord_139 hl (k := 1) rfl (nI_1 _) (by decide) rfl (fun ls hl => ?_)
                      refine lv_goto (tgt := 103) hx hb dX12_beginRecord_142 (by decide) ?_
                      replace hl : lv_has ls 7 [(0, .ref (m)), (6, .int (nI ((i) + 1)))] := lv_sub hl [1, 0] rfl
                      replace hR := RM.eq (va_up_up _ 32 g32 _).symm (va_up_up _ 31 g31 _).symm hR
                      exact ih _ _ _ _ _ _ (i + 1) hW hR (by omega) (fun y hy => by rw [rg_upl (by omega)]; exact hg y hy) (fun y hy => by rw [vp_upl_n (by omega)]; exact hg2 y hy) (rg_step (fun q hq => by rw [rg_upl (by omega), vp_upl_n (by omega)]; exact hn1 q hq) ⟨rg_ups, vp_upl_s⟩) hl (by omega)
              · obtain ⟨hne, rfl, hr02⟩ := hw2
                obtain ⟨I, L, F, hR, hTc, hTp, hTk, hGW, hGr, hGd, hGp, hGt, hGc, hF11, hF14, hF44, hF41, hF42, hF43, hF45, hN, hSI⟩ := hQ
                obtain ⟨hlv, hd6, hw3, hρ0, hκ0, hbd, hgl⟩ := id hN
                have hl250 := hGW.2.2.2.2
                refine lv_lstore (lv' := [(4, .long (rn)), (2, .long (lN (2 + k'))), (0, .ref (m)), (1, .int (nI (1)))]) hx hb dX12_beginRecord_54 hl (by decide) rfl (fun ls hl => ?_)
                refine lv_aload_n hx hb dX12_beginRecord_56 rfl (lv_at hl 2 rfl) ?_
                refine rl_get (v := .ref (m + 30)) hC hW fl_X12_106 hR.1 rfl dX12_beginRecord_57 ?_
                refine lv_aload_n hx hb dX12_beginRecord_60 rfl (lv_at hl 2 rfl) ?_
                refine rl_get (v := .int (F 45)) hC hW fl_X12_251 hR.1 rfl dX12_beginRecord_61 ?_
                refine rl_topn (y := nI (d + 1)) (hF45) ?_
                refine lv_iconst (v := (nI (1))) hx hb dX12_beginRecord_64 (by decide) ?_
                refine lv_isub hx hb dX12_beginRecord_65 ?_
                refine rl_topn (rg_sub (c := d) (by omega)) ?_
                refine lv_iload_n hx hb dX12_beginRecord_66 rfl (lv_at hl 3 rfl) ?_
                refine lv_if_eq (tgt := 84) hx hb dX12_beginRecord_67 (by decide) (fun c7 => ?_) (fun c7 => ?_)
                · first | exact absurd c7 (by decide) | exact absurd (by decide) c7
                · refine lv_iconst (v := (nI (3))) hx hb dX12_beginRecord_70 (by decide) ?_
                  refine lv_lload_n hx hb dX12_beginRecord_71 rfl (lv_at hl 1 rfl) ?_
                  refine lv_l2i hx hb dX12_beginRecord_72 rfl ?_
                  refine rl_topn (lN_i _) ?_
                  refine lv_iconst (v := (nI (2))) hx hb dX12_beginRecord_73 (by decide) ?_
                  refine lv_isub hx hb dX12_beginRecord_74 ?_
                  refine rl_topn (rg_sub (c := k') (by omega)) ?_
                  refine lv_imul hx hb dX12_beginRecord_75 ?_
                  refine rl_topn (pk_mul _ _) ?_
                  refine lv_aload_n hx hb dX12_beginRecord_76 rfl (lv_at hl 2 rfl) ?_
                  refine rl_get (v := .int (F 44)) hC hW fl_X12_258 hR.1 rfl dX12_beginRecord_77 ?_
                  refine rl_topn (y := nI (w)) (hF44) ?_
                  refine lv_iadd hx hb dX12_beginRecord_80 ?_
                  refine rl_topn (nI_add _ _) ?_
                  refine lv_goto (tgt := 86) hx hb dX12_beginRecord_81 (by decide) ?_
                  refine rl_iast_n (g := I 46) hC hW hR.a46 (by omega) (by decide) dX12_beginRecord_86 (fun H locs hW => ?_)
                  have hR := hR.s46 (upd (I 46) (d) ((nI (((3) * (k')) + (w)))))
                  refine lv_aload_n hx hb dX12_beginRecord_87 rfl (lv_at hl 2 rfl) ?_
                  refine rl_get (v := .ref (m + 31)) hC hW fl_X12_109 hR.1 rfl dX12_beginRecord_88 ?_
                  refine lv_aload_n hx hb dX12_beginRecord_91 rfl (lv_at hl 2 rfl) ?_
                  refine rl_get (v := .int (F 45)) hC hW fl_X12_251 hR.1 rfl dX12_beginRecord_92 ?_
                  refine rl_topn (y := nI (d + 1)) (hF45) ?_
                  refine lv_iconst (v := (nI (1))) hx hb dX12_beginRecord_95 (by decide) ?_
                  refine lv_isub hx hb dX12_beginRecord_96 ?_
                  refine rl_topn (rg_sub (c := d) (by omega)) ?_
                  refine lv_lload hx hb dX12_beginRecord_97 (lv_at hl 0 rfl) ?_
                  refine rl_last_n (g := L 47) hC hW hR.a47 (by omega) (by decide) dX12_beginRecord_99 (fun H locs hW => ?_)
                  have hR := hR.s47 (vp_updL (L 47) (d) (rn))
                  refine lv_iconst (v := (nI (0))) hx hb dX12_beginRecord_100 (by decide) ?_
                  refine lv_istore (lv' := [(6, .int (nI (0))), (4, .long (rn)), (2, .long (lN (2 + k'))), (0, .ref (m)), (1, .int (nI (1)))]) hx hb dX12_beginRecord_101 hl (by decide) rfl (fun ls hl => ?_)
                  replace hl : lv_has ls 7 [(0, .ref (m)), (6, .int (nI (0)))] := lv_sub hl [3, 0] rfl
                  have hinv : ∃ f2 : rl_M, ∃ g32 : Nat → Int32, ∃ g31 : Nat → Int64, ∃ i : Nat, rl_W D A f2 z s.heap H locs ∧ RM t f2 m (va_up (va_up I 46 (upd (I 46) (d) ((nI (((3) * (k')) + (w)))))) 32 g32) (va_up (va_up L 47 (vp_updL (L 47) (d) (rn))) 31 g31) F ∧ (i ≤ 5) ∧ (∀ y, y < 5 * (d + 1) → g32 y = I 32 y) ∧ (∀ y, y < 5 * (d + 1) → g31 y = L 31 y) ∧ (∀ p, p < i → g32 (5 * (d + 1) + p) = -1 ∧ g31 (5 * (d + 1) + p) = 0) ∧ lv_has ls 7 [(0, .ref (m)), (6, .int (nI (i)))] := ⟨_, I 32, L 31, 0, hW, (RM.eq (va_up_same (va_up I 46 (upd (I 46) (d) ((nI (((3) * (k')) + (w)))))) 32) (va_up_same (va_up L 47 (vp_updL (L 47) (d) (rn))) 31) hR), Nat.zero_le _, fun _ _ => rfl, fun _ _ => rfl, fun _ h => absurd h (Nat.not_lt_zero _), hl⟩
                  clear hW hR hl
                  obtain ⟨f2, g32, g31, i, hW, hR, hi, hg, hg2, hn1, hl⟩ := hinv
                  obtain ⟨n, hn⟩ : ∃ n, 5 - i < n := ⟨_, Nat.lt_succ_self _⟩
                  induction n generalizing f2 g32 g31 i H locs ls  with
                  | zero => exact absurd hn (Nat.not_lt_zero _)
                  | succ n ih =>
                    refine lv_iload hx hb dX12_beginRecord_103 (lv_at hl 1 rfl) ?_
                    refine lv_iconst (v := (nI (5))) hx hb dX12_beginRecord_105 (by decide) ?_
                    refine lv_icmp_ge (tgt := 145) hx hb dX12_beginRecord_106 (by decide) (fun c8 => ?_) (fun c8 => ?_)
                    · have hge := rg_le c8 (by decide) (by omega)
                      exact rl_vret hC hW hr hlk (Nat.le_refl _) (Nat.le_refl _) ⟨rfl, rfl, rfl, _, _, _, d + 1, d + 1, SD, SL, ⟨_, _, _, hR, hTc, hTp, hTk, hGW, hGr, hGd, hGp, hGt, hGc, hF11, hF14, hF44, hF41, hF42, hF43, hF45, hN, (fun q => absurd q hne)⟩, Or.inl ⟨hne, by rw [hk6]; exact rec_b hlf1 (rk_lN hk') hlf2 hne⟩⟩ dX12_beginRecord_145
                    · have hlt := rg_lt c8 (by decide) (by omega)
                      refine lv_aload_n hx hb dX12_beginRecord_109 rfl (lv_at hl 0 rfl) ?_
                      refine rl_get (v := .ref (m + 22)) hC hW fl_X12_82 hR.1 rfl dX12_beginRecord_110 ?_
                      refine lv_iconst (v := (nI (5))) hx hb dX12_beginRecord_113 (by decide) ?_
                      refine lv_aload_n hx hb dX12_beginRecord_114 rfl (lv_at hl 0 rfl) ?_
                      refine rl_get (v := .int (F 45)) hC hW fl_X12_251 hR.1 rfl dX12_beginRecord_115 ?_
                      refine rl_topn (y := nI (d + 1)) (hF45) ?_
                      refine lv_imul hx hb dX12_beginRecord_118 ?_
                      refine rl_topn (pk_mul _ _) ?_
                      refine lv_iload hx hb dX12_beginRecord_119 (lv_at hl 1 rfl) ?_
                      refine lv_iadd hx hb dX12_beginRecord_121 ?_
                      refine rl_topn (nI_add _ _) ?_
                      refine lv_lconst (v := 0) hx hb dX12_beginRecord_122 (by decide) ?_
                      refine rl_last_n (g := g31) hC hW hR.a31 (by omega) (by decide) dX12_beginRecord_123 (fun H locs hW => ?_)
                      have hR := hR.s31 (vp_updL (g31) (((5) * (d + 1)) + (i)) (0))
                      refine lv_aload_n hx hb dX12_beginRecord_124 rfl (lv_at hl 0 rfl) ?_
                      refine rl_get (v := .ref (m + 23)) hC hW fl_X12_85 hR.1 rfl dX12_beginRecord_125 ?_
                      refine lv_iconst (v := (nI (5))) hx hb dX12_beginRecord_128 (by decide) ?_
                      refine lv_aload_n hx hb dX12_beginRecord_129 rfl (lv_at hl 0 rfl) ?_
                      refine rl_get (v := .int (F 45)) hC hW fl_X12_251 hR.1 rfl dX12_beginRecord_130 ?_
                      refine rl_topn (y := nI (d + 1)) (hF45) ?_
                      refine lv_imul hx hb dX12_beginRecord_133 ?_
                      refine rl_topn (pk_mul _ _) ?_
                      refine lv_iload hx hb dX12_beginRecord_134 (lv_at hl 1 rfl) ?_
                      refine lv_iadd hx hb dX12_beginRecord_136 ?_
                      refine rl_topn (nI_add _ _) ?_
                      refine lv_iconst (v := (-1)) hx hb dX12_beginRecord_137 (by decide) ?_
                      refine rl_iast_n (g := g32) hC hW hR.a32 (by omega) (by decide) dX12_beginRecord_138 (fun H locs hW => ?_)
                      have hR := hR.s32 (upd (g32) (((5) * (d + 1)) + (i)) ((-1)))
                      refine lv_iinc (v := (nI ((i) + 1))) (lv' := [(6, .int (nI ((i) + 1))), (0, .ref (m))]) hx hb dX12_beginRecord_139 hl (k := 1) rfl (nI_1 _) (by decide) rfl (fun ls hl => ?_)
                      refine lv_goto (tgt := 103) hx hb dX12_beginRecord_142 (by decide) ?_
                      replace hl : lv_has ls 7 [(0, .ref (m)), (6, .int (nI ((i) + 1)))] := lv_sub hl [1, 0] rfl
                      replace hR := RM.eq (va_up_up _ 32 g32 _).symm (va_up_up _ 31 g31 _).symm hR
                      exact ih _ _ _ _ _ _ (i + 1) hW hR (by omega) (fun y hy => by rw [rg_upl (by omega)]; exact hg y hy) (fun y hy => by rw [vp_upl_n (by omega)]; exact hg2 y hy) (rg_step (fun q hq => by rw [rg_upl (by omega), vp_upl_n (by omega)]; exact hn1 q hq) ⟨rg_ups, vp_upl_s⟩) hl (by omega)
            · exact absurd c9 (by decide)
          · refine lv_if_ne (tgt := 50) hx hb dX12_beginRecord_42 (by decide) (fun c9 => ?_) (fun c9 => ?_)
            · exact absurd rfl c9
            · refine lv_aload_n hx hb dX12_beginRecord_45 rfl (lv_at hl 1 rfl) ?_
              refine lv_iconst (v := (nI (2))) hx hb dX12_beginRecord_46 (by decide) ?_
              refine rl_callvQ (rl_runV (b := m) (As := [.int (nI (2))]) (rest := []) hC hW (cR_fails l D t A _ z m T w ρ0 κ0 G0 (a + 1) (la1) 0 (d + 1) (ρ) (κ) G (d) (d) SD SL SI ⟨_, _, _, hR, hTc, hTp, hTk, hGW, hGr, hGd, hGp, hGt, hGc, hF11, hF14, hF44, hF41, hF42, hF43, hF45, hN, hSI⟩ 2 (by decide) (by decide)) cs_X12_247 im_X12_fails sl_X12_fails hR.1 rfl ⟨(Nat.le_of_ble_eq_true rfl), (Nat.le_of_ble_eq_true rfl)⟩ rfl hl.1 rfl (Nat.le_of_ble_eq_true rfl) dX12_beginRecord_47 ⟨(Nat.le_of_ble_eq_true rfl), (Nat.le_of_ble_eq_true rfl)⟩) hW (fun f1 H locs hp hW => ?_)
              obtain ⟨bd3, hfe3, hne, hQ⟩ := hp
              obtain ⟨I, L, F, hR, hTc, hTp, hTk, hGW, hGr, hGd, hGp, hGt, hGc, hF11, hF14, hF44, hF41, hF42, hF43, hF45, hN, hSI⟩ := hQ
              obtain ⟨hlv, hd6, hw3, hρ0, hκ0, hbd, hgl⟩ := id hN
              have hl250 := hGW.2.2.2.2
              refine lv_aload_n hx hb dX12_beginRecord_50 rfl (lv_at hl 1 rfl) ?_
              refine rl_calllQ (rl_runV (b := m) (As := []) (rest := []) hC hW (cR_want l D t A _ z m T w ρ0 κ0 G0 (a + 1) (la1) bd3 (d + 1) (ρ) (κ) G (d) (d) SD SL SI ⟨_, _, _, hR, hTc, hTp, hTk, hGW, hGr, hGd, hGp, hGt, hGc, hF11, hF14, hF44, hF41, hF42, hF43, hF45, hN, hSI⟩) cs_X12_254 im_X12_want sl_X12_want hR.1 rfl ⟨(Nat.le_of_ble_eq_true rfl), (Nat.le_of_ble_eq_true rfl)⟩ rfl hl.1 rfl (Nat.le_of_ble_eq_true rfl) dX12_beginRecord_51 ⟨(Nat.le_of_ble_eq_true rfl), (Nat.le_of_ble_eq_true rfl)⟩) hW (fun rn f1 H locs hp hW => ?_)
              obtain ⟨a2, la2, bd2, hlf2, hQ, hw2⟩ := hp
              obtain ⟨er2, ea2, el2, eb2⟩ := lf_i hne hlf2
              subst ea2 el2 eb2
              obtain ⟨I, L, F, hR, hTc, hTp, hTk, hGW, hGr, hGd, hGp, hGt, hGc, hF11, hF14, hF44, hF41, hF42, hF43, hF45, hN, hSI⟩ := hQ
              obtain ⟨hlv, hd6, hw3, hρ0, hκ0, hbd, hgl⟩ := id hN
              have hl250 := hGW.2.2.2.2
              refine lv_lstore (lv' := [(4, .long (rn)), (2, .long (rk)), (0, .ref (m)), (1, .int (nI (1)))]) hx hb dX12_beginRecord_54 hl (by decide) rfl (fun ls hl => ?_)
              refine lv_aload_n hx hb dX12_beginRecord_56 rfl (lv_at hl 2 rfl) ?_
              refine rl_get (v := .ref (m + 30)) hC hW fl_X12_106 hR.1 rfl dX12_beginRecord_57 ?_
              refine lv_aload_n hx hb dX12_beginRecord_60 rfl (lv_at hl 2 rfl) ?_
              refine rl_get (v := .int (F 45)) hC hW fl_X12_251 hR.1 rfl dX12_beginRecord_61 ?_
              refine rl_topn (y := nI (d + 1)) (hF45) ?_
              refine lv_iconst (v := (nI (1))) hx hb dX12_beginRecord_64 (by decide) ?_
              refine lv_isub hx hb dX12_beginRecord_65 ?_
              refine rl_topn (rg_sub (c := d) (by omega)) ?_
              refine lv_iload_n hx hb dX12_beginRecord_66 rfl (lv_at hl 3 rfl) ?_
              refine lv_if_eq (tgt := 84) hx hb dX12_beginRecord_67 (by decide) (fun c7 => ?_) (fun c7 => ?_)
              · first | exact absurd c7 (by decide) | exact absurd (by decide) c7
              · refine lv_iconst (v := (nI (3))) hx hb dX12_beginRecord_70 (by decide) ?_
                refine lv_lload_n hx hb dX12_beginRecord_71 rfl (lv_at hl 1 rfl) ?_
                refine lv_l2i hx hb dX12_beginRecord_72 rfl ?_
                refine lv_iconst (v := (nI (2))) hx hb dX12_beginRecord_73 (by decide) ?_
                refine lv_isub hx hb dX12_beginRecord_74 ?_
                refine lv_topi (fun x_1 ex_1 => ?_)
                refine lv_imul hx hb dX12_beginRecord_75 ?_
                refine lv_topi (fun x_2 ex_2 => ?_)
                refine lv_aload_n hx hb dX12_beginRecord_76 rfl (lv_at hl 2 rfl) ?_
                refine rl_get (v := .int (F 44)) hC hW fl_X12_258 hR.1 rfl dX12_beginRecord_77 ?_
                refine rl_topn (y := nI (w)) (hF44) ?_
                refine lv_iadd hx hb dX12_beginRecord_80 ?_
                refine lv_topi (fun x_3 ex_3 => ?_)
                refine lv_goto (tgt := 86) hx hb dX12_beginRecord_81 (by decide) ?_
                refine rl_iast_n (g := I 46) hC hW hR.a46 (by omega) (by decide) dX12_beginRecord_86 (fun H locs hW => ?_)
                have hR := hR.s46 (upd (I 46) (d) ((x_3)))
                refine lv_aload_n hx hb dX12_beginRecord_87 rfl (lv_at hl 2 rfl) ?_
                refine rl_get (v := .ref (m + 31)) hC hW fl_X12_109 hR.1 rfl dX12_beginRecord_88 ?_
                refine lv_aload_n hx hb dX12_beginRecord_91 rfl (lv_at hl 2 rfl) ?_
                refine rl_get (v := .int (F 45)) hC hW fl_X12_251 hR.1 rfl dX12_beginRecord_92 ?_
                refine rl_topn (y := nI (d + 1)) (hF45) ?_
                refine lv_iconst (v := (nI (1))) hx hb dX12_beginRecord_95 (by decide) ?_
                refine lv_isub hx hb dX12_beginRecord_96 ?_
                refine rl_topn (rg_sub (c := d) (by omega)) ?_
                refine lv_lload hx hb dX12_beginRecord_97 (lv_at hl 0 rfl) ?_
                refine rl_last_n (g := L 47) hC hW hR.a47 (by omega) (by decide) dX12_beginRecord_99 (fun H locs hW => ?_)
                have hR := hR.s47 (vp_updL (L 47) (d) (rn))
                refine lv_iconst (v := (nI (0))) hx hb dX12_beginRecord_100 (by decide) ?_
                refine lv_istore (lv' := [(6, .int (nI (0))), (4, .long (rn)), (2, .long (rk)), (0, .ref (m)), (1, .int (nI (1)))]) hx hb dX12_beginRecord_101 hl (by decide) rfl (fun ls hl => ?_)
                replace hl : lv_has ls 7 [(0, .ref (m)), (6, .int (nI (0)))] := lv_sub hl [3, 0] rfl
                have hinv : ∃ f2 : rl_M, ∃ g32 : Nat → Int32, ∃ g31 : Nat → Int64, ∃ i : Nat, rl_W D A f2 z s.heap H locs ∧ RM t f2 m (va_up (va_up I 46 (upd (I 46) (d) ((x_3)))) 32 g32) (va_up (va_up L 47 (vp_updL (L 47) (d) (rn))) 31 g31) F ∧ (i ≤ 5) ∧ (∀ y, y < 5 * (d + 1) → g32 y = I 32 y) ∧ (∀ y, y < 5 * (d + 1) → g31 y = L 31 y) ∧ (∀ p, p < i → g32 (5 * (d + 1) + p) = -1 ∧ g31 (5 * (d + 1) + p) = 0) ∧ lv_has ls 7 [(0, .ref (m)), (6, .int (nI (i)))] := ⟨_, I 32, L 31, 0, hW, (RM.eq (va_up_same (va_up I 46 (upd (I 46) (d) ((x_3)))) 32) (va_up_same (va_up L 47 (vp_updL (L 47) (d) (rn))) 31) hR), Nat.zero_le _, fun _ _ => rfl, fun _ _ => rfl, fun _ h => absurd h (Nat.not_lt_zero _), hl⟩
                clear hW hR hl
                obtain ⟨f2, g32, g31, i, hW, hR, hi, hg, hg2, hn1, hl⟩ := hinv
                obtain ⟨n, hn⟩ : ∃ n, 5 - i < n := ⟨_, Nat.lt_succ_self _⟩
                induction n generalizing f2 g32 g31 i H locs ls  with
                | zero => exact absurd hn (Nat.not_lt_zero _)
                | succ n ih =>
                  refine lv_iload hx hb dX12_beginRecord_103 (lv_at hl 1 rfl) ?_
                  refine lv_iconst (v := (nI (5))) hx hb dX12_beginRecord_105 (by decide) ?_
                  refine lv_icmp_ge (tgt := 145) hx hb dX12_beginRecord_106 (by decide) (fun c8 => ?_) (fun c8 => ?_)
                  · have hge := rg_le c8 (by decide) (by omega)
                    exact rl_vret hC hW hr hlk (Nat.le_refl _) (Nat.le_refl _) ⟨rfl, rfl, rfl, _, _, _, d + 1, d + 1, SD, SL, ⟨_, _, _, hR, hTc, hTp, hTk, hGW, hGr, hGd, hGp, hGt, hGc, hF11, hF14, hF44, hF41, hF42, hF43, hF45, hN, (fun q => absurd q hne)⟩, Or.inl ⟨hne, by rw [hk6]; exact (rec_k (q := (a, la, 0, d, ρ, κ, G)) hlf1 (rk_no hp)).trans (by rw [hfe3])⟩⟩ dX12_beginRecord_145
                  · have hlt := rg_lt c8 (by decide) (by omega)
                    refine lv_aload_n hx hb dX12_beginRecord_109 rfl (lv_at hl 0 rfl) ?_
                    refine rl_get (v := .ref (m + 22)) hC hW fl_X12_82 hR.1 rfl dX12_beginRecord_110 ?_
                    refine lv_iconst (v := (nI (5))) hx hb dX12_beginRecord_113 (by decide) ?_
                    refine lv_aload_n hx hb dX12_beginRecord_114 rfl (lv_at hl 0 rfl) ?_
                    refine rl_get (v := .int (F 45)) hC hW fl_X12_251 hR.1 rfl dX12_beginRecord_115 ?_
                    refine rl_topn (y := nI (d + 1)) (hF45) ?_
                    refine lv_imul hx hb dX12_beginRecord_118 ?_
                    refine rl_topn (pk_mul _ _) ?_
                    refine lv_iload hx hb dX12_beginRecord_119 (lv_at hl 1 rfl) ?_
                    refine lv_iadd hx hb dX12_beginRecord_121 ?_
                    refine rl_topn (nI_add _ _) ?_
                    refine lv_lconst (v := 0) hx hb dX12_beginRecord_122 (by decide) ?_
                    refine rl_last_n (g := g31) hC hW hR.a31 (by omega) (by decide) dX12_beginRecord_123 (fun H locs hW => ?_)
                    have hR := hR.s31 (vp_updL (g31) (((5) * (d + 1)) + (i)) (0))
                    refine lv_aload_n hx hb dX12_beginRecord_124 rfl (lv_at hl 0 rfl) ?_
                    refine rl_get (v := .ref (m + 23)) hC hW fl_X12_85 hR.1 rfl dX12_beginRecord_125 ?_
                    refine lv_iconst (v := (nI (5))) hx hb dX12_beginRecord_128 (by decide) ?_
                    refine lv_aload_n hx hb dX12_beginRecord_129 rfl (lv_at hl 0 rfl) ?_
                    refine rl_get (v := .int (F 45)) hC hW fl_X12_251 hR.1 rfl dX12_beginRecord_130 ?_
                    refine rl_topn (y := nI (d + 1)) (hF45) ?_
                    refine lv_imul hx hb dX12_beginRecord_133 ?_
                    refine rl_topn (pk_mul _ _) ?_
                    refine lv_iload hx hb dX12_beginRecord_134 (lv_at hl 1 rfl) ?_
                    refine lv_iadd hx hb dX12_beginRecord_136 ?_
                    refine rl_topn (nI_add _ _) ?_
                    refine lv_iconst (v := (-1)) hx hb dX12_beginRecord_137 (by decide) ?_
                    refine rl_iast_n (g := g32) hC hW hR.a32 (by omega) (by decide) dX12_beginRecord_138 (fun H locs hW => ?_)
                    have hR := hR.s32 (upd (g32) (((5) * (d + 1)) + (i)) ((-1)))
                    refine lv_iinc (v := (nI ((i) + 1))) (lv' := [(6, .int (nI ((i) + 1))), (0, .ref (m))]) hx hb dX12_beginRecord_139 hl (k := 1) rfl (nI_1 _) (by decide) rfl (fun ls hl => ?_)
                    refine lv_goto (tgt := 103) hx hb dX12_beginRecord_142 (by decide) ?_
                    replace hl : lv_has ls 7 [(0, .ref (m)), (6, .int (nI ((i) + 1)))] := lv_sub hl [1, 0] rfl
                    replace hR := RM.eq (va_up_up _ 32 g32 _).symm (va_up_up _ 31 g31 _).symm hR
                    exact ih _ _ _ _ _ _ (i + 1) hW hR (by omega) (fun y hy => by rw [rg_upl (by omega)]; exact hg y hy) (fun y hy => by rw [vp_upl_n (by omega)]; exact hg2 y hy) (rg_step (fun q hq => by rw [rg_upl (by omega), vp_upl_n (by omega)]; exact hn1 q hq) ⟨rg_ups, vp_upl_s⟩) hl (by omega)
      · obtain ⟨hne, rfl, hr01⟩ := hw1
        obtain ⟨I, L, F, hR, hTc, hTp, hTk, hGW, hGr, hGd, hGp, hGt, hGc, hF11, hF14, hF44, hF41, hF42, hF43, hF45, hN, hSI⟩ := hQ
        obtain ⟨hlv, hd6, hw3, hρ0, hκ0, hbd, hgl⟩ := id hN
        have hl250 := hGW.2.2.2.2
        refine lv_lstore_n (lv' := [(2, .long (rk)), (0, .ref (m)), (1, .int (nI (1)))]) hx hb dX12_beginRecord_30 rfl hl (by decide) rfl (fun ls hl => ?_)
        refine lv_aload_n hx hb dX12_beginRecord_31 rfl (lv_at hl 1 rfl) ?_
        refine rl_get (v := .int (F 43)) hC hW fl_X12_238 hR.1 rfl dX12_beginRecord_32 ?_
        refine rl_topn (y := nI (bd1)) (hF43) ?_
        refine lv_if_ne (tgt := 50) hx hb dX12_beginRecord_35 (by decide) (fun c2 => ?_) (fun c2 => ?_)
        · refine lv_aload_n hx hb dX12_beginRecord_50 rfl (lv_at hl 1 rfl) ?_
          refine rl_calllQ (rl_runV (b := m) (As := []) (rest := []) hC hW (cR_want l D t A _ z m T w ρ0 κ0 G0 (a) (la1) bd1 (d + 1) (ρ) (κ) G (d) (d) SD SL SI ⟨_, _, _, hR, hTc, hTp, hTk, hGW, hGr, hGd, hGp, hGt, hGc, hF11, hF14, hF44, hF41, hF42, hF43, hF45, hN, hSI⟩) cs_X12_254 im_X12_want sl_X12_want hR.1 rfl ⟨(Nat.le_of_ble_eq_true rfl), (Nat.le_of_ble_eq_true rfl)⟩ rfl hl.1 rfl (Nat.le_of_ble_eq_true rfl) dX12_beginRecord_51 ⟨(Nat.le_of_ble_eq_true rfl), (Nat.le_of_ble_eq_true rfl)⟩) hW (fun rn f1 H locs hp hW => ?_)
          obtain ⟨a2, la2, bd2, hlf2, hQ, hw2⟩ := hp
          obtain ⟨er2, ea2, el2, eb2⟩ := lf_i hne hlf2
          subst ea2 el2 eb2
          obtain ⟨I, L, F, hR, hTc, hTp, hTk, hGW, hGr, hGd, hGp, hGt, hGc, hF11, hF14, hF44, hF41, hF42, hF43, hF45, hN, hSI⟩ := hQ
          obtain ⟨hlv, hd6, hw3, hρ0, hκ0, hbd, hgl⟩ := id hN
          have hl250 := hGW.2.2.2.2
          refine lv_lstore (lv' := [(4, .long (rn)), (2, .long (rk)), (0, .ref (m)), (1, .int (nI (1)))]) hx hb dX12_beginRecord_54 hl (by decide) rfl (fun ls hl => ?_)
          refine lv_aload_n hx hb dX12_beginRecord_56 rfl (lv_at hl 2 rfl) ?_
          refine rl_get (v := .ref (m + 30)) hC hW fl_X12_106 hR.1 rfl dX12_beginRecord_57 ?_
          refine lv_aload_n hx hb dX12_beginRecord_60 rfl (lv_at hl 2 rfl) ?_
          refine rl_get (v := .int (F 45)) hC hW fl_X12_251 hR.1 rfl dX12_beginRecord_61 ?_
          refine rl_topn (y := nI (d + 1)) (hF45) ?_
          refine lv_iconst (v := (nI (1))) hx hb dX12_beginRecord_64 (by decide) ?_
          refine lv_isub hx hb dX12_beginRecord_65 ?_
          refine rl_topn (rg_sub (c := d) (by omega)) ?_
          refine lv_iload_n hx hb dX12_beginRecord_66 rfl (lv_at hl 3 rfl) ?_
          refine lv_if_eq (tgt := 84) hx hb dX12_beginRecord_67 (by decide) (fun c7 => ?_) (fun c7 => ?_)
          · first | exact absurd c7 (by decide) | exact absurd (by decide) c7
          · refine lv_iconst (v := (nI (3))) hx hb dX12_beginRecord_70 (by decide) ?_
            refine lv_lload_n hx hb dX12_beginRecord_71 rfl (lv_at hl 1 rfl) ?_
            refine lv_l2i hx hb dX12_beginRecord_72 rfl ?_
            refine lv_iconst (v := (nI (2))) hx hb dX12_beginRecord_73 (by decide) ?_
            refine lv_isub hx hb dX12_beginRecord_74 ?_
            refine lv_topi (fun x_4 ex_4 => ?_)
            refine lv_imul hx hb dX12_beginRecord_75 ?_
            refine lv_topi (fun x_5 ex_5 => ?_)
            refine lv_aload_n hx hb dX12_beginRecord_76 rfl (lv_at hl 2 rfl) ?_
            refine rl_get (v := .int (F 44)) hC hW fl_X12_258 hR.1 rfl dX12_beginRecord_77 ?_
            refine rl_topn (y := nI (w)) (hF44) ?_
            refine lv_iadd hx hb dX12_beginRecord_80 ?_
            refine lv_topi (fun x_6 ex_6 => ?_)
            refine lv_goto (tgt := 86) hx hb dX12_beginRecord_81 (by decide) ?_
            refine rl_iast_n (g := I 46) hC hW hR.a46 (by omega) (by decide) dX12_beginRecord_86 (fun H locs hW => ?_)
            have hR := hR.s46 (upd (I 46) (d) ((x_6)))
            refine lv_aload_n hx hb dX12_beginRecord_87 rfl (lv_at hl 2 rfl) ?_
            refine rl_get (v := .ref (m + 31)) hC hW fl_X12_109 hR.1 rfl dX12_beginRecord_88 ?_
            refine lv_aload_n hx hb dX12_beginRecord_91 rfl (lv_at hl 2 rfl) ?_
            refine rl_get (v := .int (F 45)) hC hW fl_X12_251 hR.1 rfl dX12_beginRecord_92 ?_
            refine rl_topn (y := nI (d + 1)) (hF45) ?_
            refine lv_iconst (v := (nI (1))) hx hb dX12_beginRecord_95 (by decide) ?_
            refine lv_isub hx hb dX12_beginRecord_96 ?_
            refine rl_topn (rg_sub (c := d) (by omega)) ?_
            refine lv_lload hx hb dX12_beginRecord_97 (lv_at hl 0 rfl) ?_
            refine rl_last_n (g := L 47) hC hW hR.a47 (by omega) (by decide) dX12_beginRecord_99 (fun H locs hW => ?_)
            have hR := hR.s47 (vp_updL (L 47) (d) (rn))
            refine lv_iconst (v := (nI (0))) hx hb dX12_beginRecord_100 (by decide) ?_
            refine lv_istore (lv' := [(6, .int (nI (0))), (4, .long (rn)), (2, .long (rk)), (0, .ref (m)), (1, .int (nI (1)))]) hx hb dX12_beginRecord_101 hl (by decide) rfl (fun ls hl => ?_)
            replace hl : lv_has ls 7 [(0, .ref (m)), (6, .int (nI (0)))] := lv_sub hl [3, 0] rfl
            have hinv : ∃ f2 : rl_M, ∃ g32 : Nat → Int32, ∃ g31 : Nat → Int64, ∃ i : Nat, rl_W D A f2 z s.heap H locs ∧ RM t f2 m (va_up (va_up I 46 (upd (I 46) (d) ((x_6)))) 32 g32) (va_up (va_up L 47 (vp_updL (L 47) (d) (rn))) 31 g31) F ∧ (i ≤ 5) ∧ (∀ y, y < 5 * (d + 1) → g32 y = I 32 y) ∧ (∀ y, y < 5 * (d + 1) → g31 y = L 31 y) ∧ (∀ p, p < i → g32 (5 * (d + 1) + p) = -1 ∧ g31 (5 * (d + 1) + p) = 0) ∧ lv_has ls 7 [(0, .ref (m)), (6, .int (nI (i)))] := ⟨_, I 32, L 31, 0, hW, (RM.eq (va_up_same (va_up I 46 (upd (I 46) (d) ((x_6)))) 32) (va_up_same (va_up L 47 (vp_updL (L 47) (d) (rn))) 31) hR), Nat.zero_le _, fun _ _ => rfl, fun _ _ => rfl, fun _ h => absurd h (Nat.not_lt_zero _), hl⟩
            clear hW hR hl
            obtain ⟨f2, g32, g31, i, hW, hR, hi, hg, hg2, hn1, hl⟩ := hinv
            obtain ⟨n, hn⟩ : ∃ n, 5 - i < n := ⟨_, Nat.lt_succ_self _⟩
            induction n generalizing f2 g32 g31 i H locs ls  with
            | zero => exact absurd hn (Nat.not_lt_zero _)
            | succ n ih =>
              refine lv_iload hx hb dX12_beginRecord_103 (lv_at hl 1 rfl) ?_
              refine lv_iconst (v := (nI (5))) hx hb dX12_beginRecord_105 (by decide) ?_
              refine lv_icmp_ge (tgt := 145) hx hb dX12_beginRecord_106 (by decide) (fun c8 => ?_) (fun c8 => ?_)
              · have hge := rg_le c8 (by decide) (by omega)
                exact rl_vret hC hW hr hlk (Nat.le_refl _) (Nat.le_refl _) ⟨rfl, rfl, rfl, _, _, _, d + 1, d + 1, SD, SL, ⟨_, _, _, hR, hTc, hTp, hTk, hGW, hGr, hGd, hGp, hGt, hGc, hF11, hF14, hF44, hF41, hF42, hF43, hF45, hN, (fun q => absurd q hne)⟩, Or.inl ⟨hne, by rw [hk6]; exact rec_n hlf1 (by rw [hr01]; decide) hne⟩⟩ dX12_beginRecord_145
              · have hlt := rg_lt c8 (by decide) (by omega)
                refine lv_aload_n hx hb dX12_beginRecord_109 rfl (lv_at hl 0 rfl) ?_
                refine rl_get (v := .ref (m + 22)) hC hW fl_X12_82 hR.1 rfl dX12_beginRecord_110 ?_
                refine lv_iconst (v := (nI (5))) hx hb dX12_beginRecord_113 (by decide) ?_
                refine lv_aload_n hx hb dX12_beginRecord_114 rfl (lv_at hl 0 rfl) ?_
                refine rl_get (v := .int (F 45)) hC hW fl_X12_251 hR.1 rfl dX12_beginRecord_115 ?_
                refine rl_topn (y := nI (d + 1)) (hF45) ?_
                refine lv_imul hx hb dX12_beginRecord_118 ?_
                refine rl_topn (pk_mul _ _) ?_
                refine lv_iload hx hb dX12_beginRecord_119 (lv_at hl 1 rfl) ?_
                refine lv_iadd hx hb dX12_beginRecord_121 ?_
                refine rl_topn (nI_add _ _) ?_
                refine lv_lconst (v := 0) hx hb dX12_beginRecord_122 (by decide) ?_
                refine rl_last_n (g := g31) hC hW hR.a31 (by omega) (by decide) dX12_beginRecord_123 (fun H locs hW => ?_)
                have hR := hR.s31 (vp_updL (g31) (((5) * (d + 1)) + (i)) (0))
                refine lv_aload_n hx hb dX12_beginRecord_124 rfl (lv_at hl 0 rfl) ?_
                refine rl_get (v := .ref (m + 23)) hC hW fl_X12_85 hR.1 rfl dX12_beginRecord_125 ?_
                refine lv_iconst (v := (nI (5))) hx hb dX12_beginRecord_128 (by decide) ?_
                refine lv_aload_n hx hb dX12_beginRecord_129 rfl (lv_at hl 0 rfl) ?_
                refine rl_get (v := .int (F 45)) hC hW fl_X12_251 hR.1 rfl dX12_beginRecord_130 ?_
                refine rl_topn (y := nI (d + 1)) (hF45) ?_
                refine lv_imul hx hb dX12_beginRecord_133 ?_
                refine rl_topn (pk_mul _ _) ?_
                refine lv_iload hx hb dX12_beginRecord_134 (lv_at hl 1 rfl) ?_
                refine lv_iadd hx hb dX12_beginRecord_136 ?_
                refine rl_topn (nI_add _ _) ?_
                refine lv_iconst (v := (-1)) hx hb dX12_beginRecord_137 (by decide) ?_
                refine rl_iast_n (g := g32) hC hW hR.a32 (by omega) (by decide) dX12_beginRecord_138 (fun H locs hW => ?_)
                have hR := hR.s32 (upd (g32) (((5) * (d + 1)) + (i)) ((-1)))
                refine lv_iinc (v := (nI ((i) + 1))) (lv' := [(6, .int (nI ((i) + 1))), (0, .ref (m))]) hx hb dX12_beginRecord_139 hl (k := 1) rfl (nI_1 _) (by decide) rfl (fun ls hl => ?_)
                refine lv_goto (tgt := 103) hx hb dX12_beginRecord_142 (by decide) ?_
                replace hl : lv_has ls 7 [(0, .ref (m)), (6, .int (nI ((i) + 1)))] := lv_sub hl [1, 0] rfl
                replace hR := RM.eq (va_up_up _ 32 g32 _).symm (va_up_up _ 31 g31 _).symm hR
                exact ih _ _ _ _ _ _ (i + 1) hW hR (by omega) (fun y hy => by rw [rg_upl (by omega)]; exact hg y hy) (fun y hy => by rw [vp_upl_n (by omega)]; exact hg2 y hy) (rg_step (fun q hq => by rw [rg_upl (by omega), vp_upl_n (by omega)]; exact hn1 q hq) ⟨rg_ups, vp_upl_s⟩) hl (by omega)
        · exact absurd ((nI_eq (by omega) (by decide)).mp c2) hne
    · have hd : d = 6 := (nI_eq (by omega) (by decide)).mp c1
      refine lv_aload_n hx hb dX12_beginRecord_9 rfl (lv_at hl 0 rfl) ?_
      refine lv_bipush (v := (nI (8))) hx hb dX12_beginRecord_10 (by decide) ?_
      refine rl_callvQ (rl_runV (b := m) (As := [.int (nI (8))]) (rest := []) hC hW (cR_fails l D t A _ z m T w ρ0 κ0 G0 a la 0 d ρ κ G d d SD SL SI ⟨_, _, _, hR, hTc, hTp, hTk, hGW, hGr, hGd, hGp, hGt, hGc, hF11, hF14, hF44, hF41, hF42, hF43, hF45, hN, hSI⟩ 8 (by decide) (by decide)) cs_X12_247 im_X12_fails sl_X12_fails hR.1 rfl ⟨(Nat.le_of_ble_eq_true rfl), (Nat.le_of_ble_eq_true rfl)⟩ rfl hl.1 rfl (Nat.le_of_ble_eq_true rfl) dX12_beginRecord_12 ⟨(Nat.le_of_ble_eq_true rfl), (Nat.le_of_ble_eq_true rfl)⟩) hW (fun f1 H locs hp hW => ?_)
      obtain ⟨bd1, hfe, hne, hQ⟩ := hp
      exact rl_vret hC hW hr hlk (Nat.le_refl _) (Nat.le_refl _) ⟨rfl, rfl, rfl, a, la, bd1, d, d, SD, SL, hQ, Or.inl ⟨hne, by rw [show 6 - d = 0 by omega, rec_6, hfe]⟩⟩ dX12_beginRecord_15
