
theorem rg_cmpi {i c : Nat} (hi : i < 2 ^ 31) (hc : c < 2 ^ 31) : (0 ≤ lg_cmp (nI i).toInt64 (lN c)) ↔ c ≤ i := by rw [lg_cmp_ge, nI_l hi, lN_le hc hi]
theorem rg_lm1 {x : Int64} (h1 : ¬ x < -1) (h2 : x < 0) : x = -1 := by
  apply Int64.toInt_inj.mp
  rw [Int64.lt_iff_toInt_lt] at h1 h2
  rw [show (-1 : Int64).toInt = -1 by decide] at *
  rw [show (0 : Int64).toInt = 0 by decide] at h2
  omega
theorem rg_l8 {x : Int64} (h1 : ¬ x < 0) (h2 : x ≤ 8) : ∃ c : Nat, c ≤ 8 ∧ x = lN c := by
  rw [Int64.lt_iff_toInt_lt, show (0 : Int64).toInt = 0 by decide] at h1
  rw [Int64.le_iff_toInt_le, show (8 : Int64).toInt = 8 by decide] at h2
  refine ⟨x.toInt.toNat, by omega, ?_⟩
  apply Int64.toInt_inj.mp
  rw [lN_toInt (by omega)]
  omega
section RWU
variable {kn : Bool} {m : Int64} {q q1 : pQ} {c r n i : Nat} {v : Int64}
theorem rw_b (h : q_bad q ≠ 0) : q_row1 kn m q = (none, q) := by unfold q_row1; rw [if_neg h]
theorem rw_6 (h : q_bad q = 0) (hm : m < -1) : q_row1 kn m q = (none, q_fail 6 q) := by unfold q_row1; rw [if_pos h, if_pos hm]
theorem rw_2 (h : q_bad q = 0) (hm : 8 < m) : q_row1 kn m q = (none, q_fail 2 q) := by
  have h1 : ¬ m < -1 := fun x => by
    rw [Int64.lt_iff_toInt_lt] at x hm
    rw [show (-1 : Int64).toInt = -1 by decide] at x
    rw [show (8 : Int64).toInt = 8 by decide] at hm
    omega
  have h2 : ¬ m = -1 := fun x => by rw [x] at hm; exact absurd hm (by decide)
  unfold q_row1
  rw [if_pos h, if_neg h1, if_neg h2, if_pos hm]
theorem rw_m1 (h : q_bad q = 0) : q_row1 kn (-1) q = (none, q) := by unfold q_row1; rw [if_pos h, if_neg (by decide), if_pos rfl]
theorem lN_row (hc : c ≤ 8) : ¬ lN c < -1 ∧ ¬ lN c = -1 ∧ ¬ 8 < lN c ∧ (lN c).toInt.toNat = c := by
  have e := lN_toInt (n := c) (by omega)
  refine ⟨fun x => ?_, fun x => ?_, fun x => ?_, by rw [e]; omega⟩
  · rw [Int64.lt_iff_toInt_lt, e, show (-1 : Int64).toInt = -1 by decide] at x
    omega
  · rw [x, show (-1 : Int64).toInt = -1 by decide] at e
    omega
  · rw [Int64.lt_iff_toInt_lt, e, show (8 : Int64).toInt = 8 by decide] at x
    omega
theorem rw_t (h : q_bad q = 0) (hc : c ≤ 8) : q_row1 true (lN c) q = (hrow (q_rho q), q_items true (q_rho q) c 0 (q_mk q c)) := by
  obtain ⟨h1, h2, h3, h4⟩ := lN_row hc
  unfold q_row1
  rw [if_pos h, if_neg h1, if_neg h2, if_neg h3, if_pos rfl, h4]
theorem rw_f (h : q_bad q = 0) (hc : c ≤ 8) : q_row1 false (lN c) q = (none, q_items false 0 c 0 q) := by
  obtain ⟨h1, h2, h3, h4⟩ := lN_row hc
  unfold q_row1
  rw [if_pos h, if_neg h1, if_neg h2, if_neg h3, if_neg (by decide), h4]
theorem it_s (h : q_bad q = 0) (hl : q_leaf q = (v, q1)) : q_items kn r (n + 1) i q = q_items kn r n (i + 1) (q_it kn r i v q1) := by rw [q_items, if_pos h, hl]
end RWU

set_option maxHeartbeats 4000000 in
set_option maxRecDepth 100000 in
theorem cR_readRow (l : Launch) (D : va_G) (t : Nat → ClassId) (A : Nat → Prop) (f : rl_M) (z : Nat) (m : Nat) (T : Nat → Nat → Nat) (w ρ0 κ0 : Nat) (G0 : pG) (a : Nat) (la : Int32) (d ρ κ : Nat) (G : pG) (e0 j0 : Nat) (SD : Nat → pD) (SL : Nat → Nat) (SI : Nat → Option Nat) (hQ : RQ t f m T w ρ0 κ0 G0 a la 0 d ρ κ G e0 j0 SD SL SI) (hB : ρ0 + 84 ≤ 43100) (hp : 3 * (ρ - ρ0) + 2 ≤ a) (kn : Nat) (b : Bool) (hkn : (kn = 0 ∧ b = false) ∨ (kn = 1 ∧ b = true)) : rl_Met l yX12_readRow (.code yX12_readRow cX12_readRow 7 (some FieldType.int)) (rl_rm 2 0 0) D t A f z [.ref (m), .int (nI (kn))] (rl_qi z fun r f1 => ∃ (a' : Nat) (la' : Int32) (bd' ρ' : Nat) (G' : pG) (h : pHd), q_row b (a, la, 0, d, ρ, κ, G) = (h, (a', la', bd', d, ρ', κ, G')) ∧ RQ t f1 m T w ρ0 κ0 G0 a' la' bd' d ρ' κ G' e0 j0 SD SL SI ∧ ρ ≤ ρ' ∧ r = enc h ∧ hok ρ' κ h ∧ (bd' = 0 → 3 * (ρ' - ρ0) ≤ a' ∧ a ≤ a')) := by
  obtain ⟨I, L, F, hR, hTc, hTp, hTk, hGW, hGr, hGd, hGp, hGt, hGc, hF11, hF14, hF44, hF41, hF42, hF43, hF45, hN, hSI⟩ := hQ
  obtain ⟨hlv, hd6, hw3, hρ0, hκ0, hbd, hgl⟩ := id hN
  have hl250 := hGW.2.2.2.2
  refine rl_begin (own := RX12) (lv := [(0, .ref (m)), (1, .int (nI (kn)))]) (by decide +kernel) rfl (Nat.le_of_ble_eq_true rfl) rfl fun p e s m0 args below meth c ls H locs hC hr hlk hnm hW hl hx hb => ?_
  rcases hkn with ⟨rfl, rfl⟩ | ⟨rfl, rfl⟩
  · refine lv_aload_n hx hb dX12_readRow_0 rfl (lv_at hl 0 rfl) ?_
    refine rl_calllQ (rl_runV (b := m) (As := []) (rest := []) hC hW (cR_want l D t A _ z m T w ρ0 κ0 G0 (a) (la) 0 (d) (ρ) (κ) G (e0) (j0) SD SL SI ⟨_, _, _, hR, hTc, hTp, hTk, hGW, hGr, hGd, hGp, hGt, hGc, hF11, hF14, hF44, hF41, hF42, hF43, hF45, hN, hSI⟩) cs_X12_254 im_X12_want sl_X12_want hR.1 rfl ⟨(Nat.le_of_ble_eq_true rfl), (Nat.le_of_ble_eq_true rfl)⟩ rfl hl.1 rfl (Nat.le_of_ble_eq_true rfl) dX12_readRow_1 ⟨(Nat.le_of_ble_eq_true rfl), (Nat.le_of_ble_eq_true rfl)⟩) hW (fun rk f1 H locs hp hW => ?_)
    obtain ⟨a1, la1, bd1, hlf1, hQ, hw1⟩ := hp
    rcases hw1 with hw1 | hw1
    · obtain ⟨-, rfl, rfl⟩ := hw1
      obtain ⟨I, L, F, hR, hTc, hTp, hTk, hGW, hGr, hGd, hGp, hGt, hGc, hF11, hF14, hF44, hF41, hF42, hF43, hF45, hN, hSI⟩ := hQ
      obtain ⟨hlv, hd6, hw3, hρ0, hκ0, hbd, hgl⟩ := id hN
      have hl250 := hGW.2.2.2.2
      refine lv_lstore_n (lv' := [(2, .long (rk)), (0, .ref (m)), (1, .int (nI (0)))]) hx hb dX12_readRow_4 rfl hl (by decide) rfl (fun ls hl => ?_)
      refine lv_aload_n hx hb dX12_readRow_5 rfl (lv_at hl 1 rfl) ?_
      refine rl_get (v := .int (F 43)) hC hW fl_X12_238 hR.1 rfl dX12_readRow_6 ?_
      refine rl_topn (y := nI (0)) (hF43) ?_
      refine lv_if_ne (tgt := 26) hx hb dX12_readRow_9 (by decide) (fun c1 => ?_) (fun c1 => ?_)
      · exact absurd rfl c1
      · refine lv_lload_n hx hb dX12_readRow_12 rfl (lv_at hl 0 rfl) ?_
        refine lv_ldc2 (v := -1) hx hb hC.2.2.2.1 (hC.2.2.2.2.1 _ (List.mem_cons_of_mem _ mw_941)) dX12_readRow_13 ?_
        refine W.lcmp hx hb dX12_readRow_16 ?_
        refine lv_if_ge (tgt := 26) hx hb dX12_readRow_17 (by decide) (fun c2 => ?_) (fun c2 => ?_)
        · have g1 : ¬ rk < -1 := fun q => absurd ((lg_cmp_lt _ _).mpr q) (Int32.not_lt.mpr c2)
          refine lv_aload_n hx hb dX12_readRow_26 rfl (lv_at hl 1 rfl) ?_
          refine rl_get (v := .int (F 43)) hC hW fl_X12_238 hR.1 rfl dX12_readRow_27 ?_
          refine rl_topn (y := nI (0)) (hF43) ?_
          refine lv_if_ne (tgt := 46) hx hb dX12_readRow_30 (by decide) (fun c3 => ?_) (fun c3 => ?_)
          · exact absurd rfl c3
          · refine lv_lload_n hx hb dX12_readRow_33 rfl (lv_at hl 0 rfl) ?_
            refine lv_ldc2 (v := 8) hx hb hC.2.2.2.1 (hC.2.2.2.2.1 _ (List.mem_cons_of_mem _ mw_846)) dX12_readRow_34 ?_
            refine W.lcmp hx hb dX12_readRow_37 ?_
            refine lv_if_le (tgt := 46) hx hb dX12_readRow_38 (by decide) (fun c4 => ?_) (fun c4 => ?_)
            · have g2 : rk ≤ 8 := (lg_cmp_le _ _).mp c4
              refine lv_aload_n hx hb dX12_readRow_46 rfl (lv_at hl 1 rfl) ?_
              refine rl_get (v := .int (F 43)) hC hW fl_X12_238 hR.1 rfl dX12_readRow_47 ?_
              refine rl_topn (y := nI (0)) (hF43) ?_
              refine lv_if_ne (tgt := 72) hx hb dX12_readRow_50 (by decide) (fun c5 => ?_) (fun c5 => ?_)
              · exact absurd rfl c5
              · refine lv_lload_n hx hb dX12_readRow_53 rfl (lv_at hl 0 rfl) ?_
                refine lv_lconst (v := 0) hx hb dX12_readRow_54 (by decide) ?_
                refine W.lcmp hx hb dX12_readRow_55 ?_
                refine lv_if_lt (tgt := 72) hx hb dX12_readRow_56 (by decide) (fun c6 => ?_) (fun c6 => ?_)
                · have g3 := rg_lm1 g1 ((lg_cmp_lt _ _).mp c6)
                  subst g3
                  refine lv_iconst (v := (-1)) hx hb dX12_readRow_72 (by decide) ?_
                  refine lv_istore (lv' := [(4, .int (-1)), (2, .long (-1)), (0, .ref (m)), (1, .int (nI (0)))]) hx hb dX12_readRow_73 hl (by decide) rfl (fun ls hl => ?_)
                  refine lv_iconst (v := (nI (0))) hx hb dX12_readRow_75 (by decide) ?_
                  refine lv_istore (lv' := [(5, .int (nI (0))), (4, .int (-1)), (2, .long (-1)), (0, .ref (m)), (1, .int (nI (0)))]) hx hb dX12_readRow_76 hl (by decide) rfl (fun ls hl => ?_)
                  refine lv_iload hx hb dX12_readRow_78 (lv_at hl 0 rfl) ?_
                  refine lv_i2l hx hb dX12_readRow_80 rfl ?_
                  refine lv_lload_n hx hb dX12_readRow_81 rfl (lv_at hl 2 rfl) ?_
                  refine W.lcmp hx hb dX12_readRow_82 ?_
                  refine rl_topn (y := 1) (by decide) ?_
                  refine lv_if_ge (tgt := 130) hx hb dX12_readRow_83 (by decide) (fun c_1 => ?_) (fun c_1 => ?_)
                  · refine lv_iload hx hb dX12_readRow_130 (lv_at hl 1 rfl) ?_
                    exact rl_iret hC hW hr hlk (Nat.le_refl _) (Nat.le_refl _) ⟨_, rfl, rfl, rfl, a + 1, la1, 0, ρ, G, none, (by unfold q_row; rw [hlf1]; exact rw_m1 rfl), ⟨_, _, _, hR, hTc, hTp, hTk, hGW, hGr, hGd, hGp, hGt, hGc, hF11, hF14, hF44, hF41, hF42, hF43, hF45, hN, hSI⟩, Nat.le_refl _, rfl, trivial, fun _ => ⟨by omega, by omega⟩⟩ dX12_readRow_132
                  · first | exact absurd c_1 (by decide) | exact absurd (by decide) c_1
                · obtain ⟨c0, hc0, rfl⟩ := rg_l8 (fun q => c6 ((lg_cmp_lt _ _).mpr q)) g2
                  refine lv_iload_n hx hb dX12_readRow_59 rfl (lv_at hl 2 rfl) ?_
                  refine lv_if_eq (tgt := 72) hx hb dX12_readRow_60 (by decide) (fun c7 => ?_) (fun c7 => ?_)
                  · refine lv_iconst (v := (-1)) hx hb dX12_readRow_72 (by decide) ?_
                    refine lv_istore (lv' := [(4, .int (-1)), (2, .long (lN c0)), (0, .ref (m)), (1, .int (nI (0)))]) hx hb dX12_readRow_73 hl (by decide) rfl (fun ls hl => ?_)
                    refine lv_iconst (v := (nI (0))) hx hb dX12_readRow_75 (by decide) ?_
                    refine lv_istore (lv' := [(5, .int (nI (0))), (4, .int (-1)), (2, .long (lN c0)), (0, .ref (m)), (1, .int (nI (0)))]) hx hb dX12_readRow_76 hl (by decide) rfl (fun ls hl => ?_)
                    replace hl : lv_has ls 7 [(0, .ref (m)), (2, .long (lN c0)), (4, .int (-1)), (5, .int (nI (0)))] := lv_sub hl [3, 2, 1, 0] rfl
                    have hinv : ∃ (f2 : rl_M) (a2 : Nat) (la2 : Int32) (bd2 : Nat) (G2 : pG) (i : Nat), rl_W D A f2 z s.heap H locs ∧ RQ t f2 m T w ρ0 κ0 G0 a2 la2 bd2 d ρ κ G2 e0 j0 SD SL SI ∧ i ≤ c0 ∧ (bd2 = 0 → a + 1 ≤ a2) ∧ q_items false 0 (c0 - i) i (a2, la2, bd2, d, ρ, κ, G2) = q_items false 0 c0 0 (a + 1, la1, 0, d, ρ, κ, G) ∧ lv_has ls 7 [(0, .ref (m)), (2, .long (lN c0)), (4, .int (-1)), (5, .int (nI (i)))] := ⟨_, a + 1, la1, 0, _, 0, hW, ⟨_, _, _, hR, hTc, hTp, hTk, hGW, hGr, hGd, hGp, hGt, hGc, hF11, hF14, hF44, hF41, hF42, hF43, hF45, hN, hSI⟩, Nat.zero_le _, fun _ => Nat.le_refl _, rfl, hl⟩
                    clear hW hR hl
                    obtain ⟨f2, a2, la2, bd2, G2, i, hW, hQ, hi, hpa, hit, hl⟩ := hinv
                    obtain ⟨n, hn⟩ : ∃ n, c0 - i < n := ⟨_, Nat.lt_succ_self _⟩
                    induction n generalizing f2 a2 la2 bd2 G2 i H locs ls with
                    | zero => exact absurd hn (Nat.not_lt_zero _)
                    | succ n ih =>
                      obtain ⟨I, L, F, hR, hTc, hTp, hTk, hGW, hGr, hGd, hGp, hGt, hGc, hF11, hF14, hF44, hF41, hF42, hF43, hF45, hN, hSI⟩ := hQ
                      obtain ⟨hlv, hd6, hw3, hρ0, hκ0, hbd, hgl⟩ := id hN
                      have hl250 := hGW.2.2.2.2
                      refine lv_iload hx hb dX12_readRow_78 (lv_at hl 3 rfl) ?_
                      refine lv_i2l hx hb dX12_readRow_80 rfl ?_
                      refine lv_lload_n hx hb dX12_readRow_81 rfl (lv_at hl 1 rfl) ?_
                      refine W.lcmp hx hb dX12_readRow_82 ?_
                      refine lv_if_ge (tgt := 130) hx hb dX12_readRow_83 (by decide) (fun c8 => ?_) (fun c8 => ?_)
                      · have hie : c0 - i = 0 := by have := (rg_cmpi (by omega) (by omega)).mp c8; omega
                        refine lv_iload hx hb dX12_readRow_130 (lv_at hl 2 rfl) ?_
                        exact rl_iret hC hW hr hlk (Nat.le_refl _) (Nat.le_refl _) ⟨_, rfl, rfl, rfl, a2, la2, bd2, ρ, G2, none, (by unfold q_row; rw [hlf1]; exact (rw_f rfl hc0).trans (congrArg (Prod.mk _) (hit.symm.trans (by rw [hie]; rfl)))), ⟨_, _, _, hR, hTc, hTp, hTk, hGW, hGr, hGd, hGp, hGt, hGc, hF11, hF14, hF44, hF41, hF42, hF43, hF45, hN, hSI⟩, by omega, rfl, trivial, fun q => ⟨by have := hpa q; omega, by have := hpa q; omega⟩⟩ dX12_readRow_132
                      · have hlt : i < c0 := Nat.lt_of_not_le (fun q => c8 ((rg_cmpi (by omega) (by omega)).mpr q))
                        refine lv_aload_n hx hb dX12_readRow_86 rfl (lv_at hl 0 rfl) ?_
                        refine rl_get (v := .int (F 43)) hC hW fl_X12_238 hR.1 rfl dX12_readRow_87 ?_
                        refine rl_topn (y := nI (bd2)) (hF43) ?_
                        refine lv_if_ne (tgt := 130) hx hb dX12_readRow_90 (by decide) (fun c9 => ?_) (fun c9 => ?_)
                        · have hne : bd2 ≠ 0 := fun q => c9 (by rw [q]; rfl)
                          refine lv_iload hx hb dX12_readRow_130 (lv_at hl 2 rfl) ?_
                          exact rl_iret hC hW hr hlk (Nat.le_refl _) (Nat.le_refl _) ⟨_, rfl, rfl, rfl, a2, la2, bd2, ρ, G2, none, (by unfold q_row; rw [hlf1]; exact (rw_f rfl hc0).trans (congrArg (Prod.mk _) (hit.symm.trans (it_b hne _ _)))), ⟨_, _, _, hR, hTc, hTp, hTk, hGW, hGr, hGd, hGp, hGt, hGc, hF11, hF14, hF44, hF41, hF42, hF43, hF45, hN, hSI⟩, by omega, rfl, trivial, fun q => ⟨by have := hpa q; omega, by have := hpa q; omega⟩⟩ dX12_readRow_132
                        · have hb0 : bd2 = 0 := (nI_eq (by omega) (by decide)).mp c9
                          subst hb0
                          rw [show c0 - i = (c0 - (i + 1)) + 1 by omega] at hit
                          refine lv_aload_n hx hb dX12_readRow_93 rfl (lv_at hl 0 rfl) ?_
                          refine rl_calllQ (rl_runV (b := m) (As := []) (rest := []) hC hW (cR_want l D t A _ z m T w ρ0 κ0 G0 (a2) (la2) 0 (d) (ρ) (κ) G2 (e0) (j0) SD SL SI ⟨_, _, _, hR, hTc, hTp, hTk, hGW, hGr, hGd, hGp, hGt, hGc, hF11, hF14, hF44, hF41, hF42, hF43, hF45, hN, hSI⟩) cs_X12_254 im_X12_want sl_X12_want hR.1 rfl ⟨(Nat.le_of_ble_eq_true rfl), (Nat.le_of_ble_eq_true rfl)⟩ rfl hl.1 rfl (Nat.le_of_ble_eq_true rfl) dX12_readRow_94 ⟨(Nat.le_of_ble_eq_true rfl), (Nat.le_of_ble_eq_true rfl)⟩) hW (fun ri f1 H locs hp hW => ?_)
                          obtain ⟨a4, la4, bd4, hlf4, hQ, hw4⟩ := hp
                          rcases hw4 with hw4 | hw4
                          · obtain ⟨-, rfl, rfl⟩ := hw4
                            obtain ⟨I, L, F, hR, hTc, hTp, hTk, hGW, hGr, hGd, hGp, hGt, hGc, hF11, hF14, hF44, hF41, hF42, hF43, hF45, hN, hSI⟩ := hQ
                            obtain ⟨hlv, hd6, hw3, hρ0, hκ0, hbd, hgl⟩ := id hN
                            have hl250 := hGW.2.2.2.2
                            refine lv_l2i hx hb dX12_readRow_97 rfl ?_
                            refine lv_istore (lv' := [(6, .int ((ri).toInt32)), (0, .ref (m)), (2, .long (lN c0)), (4, .int (-1)), (5, .int (nI (i)))]) hx hb dX12_readRow_98 hl (by decide) rfl (fun ls hl => ?_)
                            refine lv_iload hx hb dX12_readRow_100 (lv_at hl 3 rfl) ?_
                            refine lv_iconst (v := (-1)) hx hb dX12_readRow_102 (by decide) ?_
                            refine lv_icmp_eq (tgt := 124) hx hb dX12_readRow_103 (by decide) (fun c7 => ?_) (fun c7 => ?_)
                            · refine lv_iinc (v := (nI ((i) + 1))) (lv' := [(5, .int (nI ((i) + 1))), (6, .int ((ri).toInt32)), (0, .ref (m)), (2, .long (lN c0)), (4, .int (-1))]) hx hb dX12_readRow_124 hl (k := 4) rfl (nI_1 _) (by decide) rfl (fun ls hl => ?_)
                              refine lv_goto (tgt := 78) hx hb dX12_readRow_127 (by decide) ?_
                              replace hl : lv_has ls 7 [(0, .ref (m)), (2, .long (lN c0)), (4, .int (-1)), (5, .int (nI ((i) + 1)))] := lv_sub hl [2, 3, 4, 0] rfl
                              exact ih _ _ _ _ (a2 + 1) la4 0 G2 (i + 1) hW ⟨_, _, _, hR, hTc, hTp, hTk, hGW, hGr, hGd, hGp, hGt, hGc, hF11, hF14, hF44, hF41, hF42, hF43, hF45, hN, hSI⟩ (by omega) (fun q => by have := hpa rfl; omega) ((it_s rfl hlf4).symm.trans hit) hl (by omega)
                            · exact absurd rfl c7
                          · obtain ⟨hne, rfl, hr04⟩ := hw4
                            obtain ⟨I, L, F, hR, hTc, hTp, hTk, hGW, hGr, hGd, hGp, hGt, hGc, hF11, hF14, hF44, hF41, hF42, hF43, hF45, hN, hSI⟩ := hQ
                            obtain ⟨hlv, hd6, hw3, hρ0, hκ0, hbd, hgl⟩ := id hN
                            have hl250 := hGW.2.2.2.2
                            refine lv_l2i hx hb dX12_readRow_97 rfl ?_
                            refine lv_istore (lv' := [(6, .int ((ri).toInt32)), (0, .ref (m)), (2, .long (lN c0)), (4, .int (-1)), (5, .int (nI (i)))]) hx hb dX12_readRow_98 hl (by decide) rfl (fun ls hl => ?_)
                            refine lv_iload hx hb dX12_readRow_100 (lv_at hl 3 rfl) ?_
                            refine lv_iconst (v := (-1)) hx hb dX12_readRow_102 (by decide) ?_
                            refine lv_icmp_eq (tgt := 124) hx hb dX12_readRow_103 (by decide) (fun c7 => ?_) (fun c7 => ?_)
                            · refine lv_iinc (v := (nI ((i) + 1))) (lv' := [(5, .int (nI ((i) + 1))), (6, .int ((ri).toInt32)), (0, .ref (m)), (2, .long (lN c0)), (4, .int (-1))]) hx hb dX12_readRow_124 hl (k := 4) rfl (nI_1 _) (by decide) rfl (fun ls hl => ?_)
                              refine lv_goto (tgt := 78) hx hb dX12_readRow_127 (by decide) ?_
                              replace hl : lv_has ls 7 [(0, .ref (m)), (2, .long (lN c0)), (4, .int (-1)), (5, .int (nI ((i) + 1)))] := lv_sub hl [2, 3, 4, 0] rfl
                              exact ih _ _ _ _ (a2) la4 bd4 G2 (i + 1) hW ⟨_, _, _, hR, hTc, hTp, hTk, hGW, hGr, hGd, hGp, hGt, hGc, hF11, hF14, hF44, hF41, hF42, hF43, hF45, hN, hSI⟩ (by omega) (fun q => absurd q hne) ((it_s rfl hlf4).symm.trans hit) hl (by omega)
                            · exact absurd rfl c7
                  · first | exact absurd c7 (by decide) | exact absurd (by decide) c7
            · have g8 : 8 < rk := Int64.not_le.mp (fun q => c4 ((lg_cmp_le _ _).mpr q))
              refine lv_aload_n hx hb dX12_readRow_41 rfl (lv_at hl 1 rfl) ?_
              refine lv_iconst (v := (nI (2))) hx hb dX12_readRow_42 (by decide) ?_
              refine rl_callvQ (rl_runV (b := m) (As := [.int (nI (2))]) (rest := []) hC hW (cR_fails l D t A _ z m T w ρ0 κ0 G0 (a + 1) (la1) 0 (d) (ρ) (κ) G (e0) (j0) SD SL SI ⟨_, _, _, hR, hTc, hTp, hTk, hGW, hGr, hGd, hGp, hGt, hGc, hF11, hF14, hF44, hF41, hF42, hF43, hF45, hN, hSI⟩ 2 (by decide) (by decide)) cs_X12_247 im_X12_fails sl_X12_fails hR.1 rfl ⟨(Nat.le_of_ble_eq_true rfl), (Nat.le_of_ble_eq_true rfl)⟩ rfl hl.1 rfl (Nat.le_of_ble_eq_true rfl) dX12_readRow_43 ⟨(Nat.le_of_ble_eq_true rfl), (Nat.le_of_ble_eq_true rfl)⟩) hW (fun f1 H locs hp hW => ?_)
              obtain ⟨bd3, hfe3, hne, hQ⟩ := hp
              obtain ⟨I, L, F, hR, hTc, hTp, hTk, hGW, hGr, hGd, hGp, hGt, hGc, hF11, hF14, hF44, hF41, hF42, hF43, hF45, hN, hSI⟩ := hQ
              obtain ⟨hlv, hd6, hw3, hρ0, hκ0, hbd, hgl⟩ := id hN
              have hl250 := hGW.2.2.2.2
              refine lv_aload_n hx hb dX12_readRow_46 rfl (lv_at hl 1 rfl) ?_
              refine rl_get (v := .int (F 43)) hC hW fl_X12_238 hR.1 rfl dX12_readRow_47 ?_
              refine rl_topn (y := nI (bd3)) (hF43) ?_
              refine lv_if_ne (tgt := 72) hx hb dX12_readRow_50 (by decide) (fun c_2 => ?_) (fun c_2 => ?_)
              · refine lv_iconst (v := (-1)) hx hb dX12_readRow_72 (by decide) ?_
                refine lv_istore (lv' := [(4, .int (-1)), (2, .long (rk)), (0, .ref (m)), (1, .int (nI (0)))]) hx hb dX12_readRow_73 hl (by decide) rfl (fun ls hl => ?_)
                refine lv_iconst (v := (nI (0))) hx hb dX12_readRow_75 (by decide) ?_
                refine lv_istore (lv' := [(5, .int (nI (0))), (4, .int (-1)), (2, .long (rk)), (0, .ref (m)), (1, .int (nI (0)))]) hx hb dX12_readRow_76 hl (by decide) rfl (fun ls hl => ?_)
                refine lv_iload hx hb dX12_readRow_78 (lv_at hl 0 rfl) ?_
                refine lv_i2l hx hb dX12_readRow_80 rfl ?_
                refine lv_lload_n hx hb dX12_readRow_81 rfl (lv_at hl 2 rfl) ?_
                refine W.lcmp hx hb dX12_readRow_82 ?_
                refine lv_if_ge (tgt := 130) hx hb dX12_readRow_83 (by decide) (fun c_3 => ?_) (fun c_3 => ?_)
                · refine lv_iload hx hb dX12_readRow_130 (lv_at hl 1 rfl) ?_
                  exact rl_iret hC hW hr hlk (Nat.le_refl _) (Nat.le_refl _) ⟨_, rfl, rfl, rfl, _, _, _, ρ, G, none, (by unfold q_row; rw [hlf1]; exact (rw_2 rfl g8).trans (by rw [hfe3])), ⟨_, _, _, hR, hTc, hTp, hTk, hGW, hGr, hGd, hGp, hGt, hGc, hF11, hF14, hF44, hF41, hF42, hF43, hF45, hN, hSI⟩, Nat.le_refl _, rfl, trivial, fun q => absurd q hne⟩ dX12_readRow_132
                · refine lv_aload_n hx hb dX12_readRow_86 rfl (lv_at hl 3 rfl) ?_
                  refine rl_get (v := .int (F 43)) hC hW fl_X12_238 hR.1 rfl dX12_readRow_87 ?_
                  refine rl_topn (y := nI (bd3)) (hF43) ?_
                  refine lv_if_ne (tgt := 130) hx hb dX12_readRow_90 (by decide) (fun c_4 => ?_) (fun c_4 => ?_)
                  · refine lv_iload hx hb dX12_readRow_130 (lv_at hl 1 rfl) ?_
                    exact rl_iret hC hW hr hlk (Nat.le_refl _) (Nat.le_refl _) ⟨_, rfl, rfl, rfl, _, _, _, ρ, G, none, (by unfold q_row; rw [hlf1]; exact (rw_2 rfl g8).trans (by rw [hfe3])), ⟨_, _, _, hR, hTc, hTp, hTk, hGW, hGr, hGd, hGp, hGt, hGc, hF11, hF14, hF44, hF41, hF42, hF43, hF45, hN, hSI⟩, Nat.le_refl _, rfl, trivial, fun q => absurd q hne⟩ dX12_readRow_132
                  · exact absurd ((nI_eq (by omega) (by decide)).mp c_4) hne
              · exact absurd ((nI_eq (by omega) (by decide)).mp c_2) hne
        · have g6 : rk < -1 := (lg_cmp_lt _ _).mp (Int32.not_le.mp c2)
          refine lv_aload_n hx hb dX12_readRow_20 rfl (lv_at hl 1 rfl) ?_
          refine lv_bipush (v := (nI (6))) hx hb dX12_readRow_21 (by decide) ?_
          refine rl_callvQ (rl_runV (b := m) (As := [.int (nI (6))]) (rest := []) hC hW (cR_fails l D t A _ z m T w ρ0 κ0 G0 (a + 1) (la1) 0 (d) (ρ) (κ) G (e0) (j0) SD SL SI ⟨_, _, _, hR, hTc, hTp, hTk, hGW, hGr, hGd, hGp, hGt, hGc, hF11, hF14, hF44, hF41, hF42, hF43, hF45, hN, hSI⟩ 6 (by decide) (by decide)) cs_X12_247 im_X12_fails sl_X12_fails hR.1 rfl ⟨(Nat.le_of_ble_eq_true rfl), (Nat.le_of_ble_eq_true rfl)⟩ rfl hl.1 rfl (Nat.le_of_ble_eq_true rfl) dX12_readRow_23 ⟨(Nat.le_of_ble_eq_true rfl), (Nat.le_of_ble_eq_true rfl)⟩) hW (fun f1 H locs hp hW => ?_)
          obtain ⟨bd3, hfe3, hne, hQ⟩ := hp
          obtain ⟨I, L, F, hR, hTc, hTp, hTk, hGW, hGr, hGd, hGp, hGt, hGc, hF11, hF14, hF44, hF41, hF42, hF43, hF45, hN, hSI⟩ := hQ
          obtain ⟨hlv, hd6, hw3, hρ0, hκ0, hbd, hgl⟩ := id hN
          have hl250 := hGW.2.2.2.2
          refine lv_aload_n hx hb dX12_readRow_26 rfl (lv_at hl 1 rfl) ?_
          refine rl_get (v := .int (F 43)) hC hW fl_X12_238 hR.1 rfl dX12_readRow_27 ?_
          refine rl_topn (y := nI (bd3)) (hF43) ?_
          refine lv_if_ne (tgt := 46) hx hb dX12_readRow_30 (by decide) (fun c_5 => ?_) (fun c_5 => ?_)
          · refine lv_aload_n hx hb dX12_readRow_46 rfl (lv_at hl 1 rfl) ?_
            refine rl_get (v := .int (F 43)) hC hW fl_X12_238 hR.1 rfl dX12_readRow_47 ?_
            refine rl_topn (y := nI (bd3)) (hF43) ?_
            refine lv_if_ne (tgt := 72) hx hb dX12_readRow_50 (by decide) (fun c_6 => ?_) (fun c_6 => ?_)
            · refine lv_iconst (v := (-1)) hx hb dX12_readRow_72 (by decide) ?_
              refine lv_istore (lv' := [(4, .int (-1)), (2, .long (rk)), (0, .ref (m)), (1, .int (nI (0)))]) hx hb dX12_readRow_73 hl (by decide) rfl (fun ls hl => ?_)
              refine lv_iconst (v := (nI (0))) hx hb dX12_readRow_75 (by decide) ?_
              refine lv_istore (lv' := [(5, .int (nI (0))), (4, .int (-1)), (2, .long (rk)), (0, .ref (m)), (1, .int (nI (0)))]) hx hb dX12_readRow_76 hl (by decide) rfl (fun ls hl => ?_)
              refine lv_iload hx hb dX12_readRow_78 (lv_at hl 0 rfl) ?_
              refine lv_i2l hx hb dX12_readRow_80 rfl ?_
              refine lv_lload_n hx hb dX12_readRow_81 rfl (lv_at hl 2 rfl) ?_
              refine W.lcmp hx hb dX12_readRow_82 ?_
              refine lv_if_ge (tgt := 130) hx hb dX12_readRow_83 (by decide) (fun c_7 => ?_) (fun c_7 => ?_)
              · refine lv_iload hx hb dX12_readRow_130 (lv_at hl 1 rfl) ?_
                exact rl_iret hC hW hr hlk (Nat.le_refl _) (Nat.le_refl _) ⟨_, rfl, rfl, rfl, _, _, _, ρ, G, none, (by unfold q_row; rw [hlf1]; exact (rw_6 rfl g6).trans (by rw [hfe3])), ⟨_, _, _, hR, hTc, hTp, hTk, hGW, hGr, hGd, hGp, hGt, hGc, hF11, hF14, hF44, hF41, hF42, hF43, hF45, hN, hSI⟩, Nat.le_refl _, rfl, trivial, fun q => absurd q hne⟩ dX12_readRow_132
              · refine lv_aload_n hx hb dX12_readRow_86 rfl (lv_at hl 3 rfl) ?_
                refine rl_get (v := .int (F 43)) hC hW fl_X12_238 hR.1 rfl dX12_readRow_87 ?_
                refine rl_topn (y := nI (bd3)) (hF43) ?_
                refine lv_if_ne (tgt := 130) hx hb dX12_readRow_90 (by decide) (fun c_8 => ?_) (fun c_8 => ?_)
                · refine lv_iload hx hb dX12_readRow_130 (lv_at hl 1 rfl) ?_
                  exact rl_iret hC hW hr hlk (Nat.le_refl _) (Nat.le_refl _) ⟨_, rfl, rfl, rfl, _, _, _, ρ, G, none, (by unfold q_row; rw [hlf1]; exact (rw_6 rfl g6).trans (by rw [hfe3])), ⟨_, _, _, hR, hTc, hTp, hTk, hGW, hGr, hGd, hGp, hGt, hGc, hF11, hF14, hF44, hF41, hF42, hF43, hF45, hN, hSI⟩, Nat.le_refl _, rfl, trivial, fun q => absurd q hne⟩ dX12_readRow_132
                · exact absurd ((nI_eq (by omega) (by decide)).mp c_8) hne
            · exact absurd ((nI_eq (by omega) (by decide)).mp c_6) hne
          · exact absurd ((nI_eq (by omega) (by decide)).mp c_5) hne
    · obtain ⟨hne, rfl, hr01⟩ := hw1
      obtain ⟨I, L, F, hR, hTc, hTp, hTk, hGW, hGr, hGd, hGp, hGt, hGc, hF11, hF14, hF44, hF41, hF42, hF43, hF45, hN, hSI⟩ := hQ
      obtain ⟨hlv, hd6, hw3, hρ0, hκ0, hbd, hgl⟩ := id hN
      have hl250 := hGW.2.2.2.2
      refine lv_lstore_n (lv' := [(2, .long (rk)), (0, .ref (m)), (1, .int (nI (0)))]) hx hb dX12_readRow_4 rfl hl (by decide) rfl (fun ls hl => ?_)
      refine lv_aload_n hx hb dX12_readRow_5 rfl (lv_at hl 1 rfl) ?_
      refine rl_get (v := .int (F 43)) hC hW fl_X12_238 hR.1 rfl dX12_readRow_6 ?_
      refine rl_topn (y := nI (bd1)) (hF43) ?_
      refine lv_if_ne (tgt := 26) hx hb dX12_readRow_9 (by decide) (fun c_9 => ?_) (fun c_9 => ?_)
      · refine lv_aload_n hx hb dX12_readRow_26 rfl (lv_at hl 1 rfl) ?_
        refine rl_get (v := .int (F 43)) hC hW fl_X12_238 hR.1 rfl dX12_readRow_27 ?_
        refine rl_topn (y := nI (bd1)) (hF43) ?_
        refine lv_if_ne (tgt := 46) hx hb dX12_readRow_30 (by decide) (fun c_10 => ?_) (fun c_10 => ?_)
        · refine lv_aload_n hx hb dX12_readRow_46 rfl (lv_at hl 1 rfl) ?_
          refine rl_get (v := .int (F 43)) hC hW fl_X12_238 hR.1 rfl dX12_readRow_47 ?_
          refine rl_topn (y := nI (bd1)) (hF43) ?_
          refine lv_if_ne (tgt := 72) hx hb dX12_readRow_50 (by decide) (fun c_11 => ?_) (fun c_11 => ?_)
          · refine lv_iconst (v := (-1)) hx hb dX12_readRow_72 (by decide) ?_
            refine lv_istore (lv' := [(4, .int (-1)), (2, .long (rk)), (0, .ref (m)), (1, .int (nI (0)))]) hx hb dX12_readRow_73 hl (by decide) rfl (fun ls hl => ?_)
            refine lv_iconst (v := (nI (0))) hx hb dX12_readRow_75 (by decide) ?_
            refine lv_istore (lv' := [(5, .int (nI (0))), (4, .int (-1)), (2, .long (rk)), (0, .ref (m)), (1, .int (nI (0)))]) hx hb dX12_readRow_76 hl (by decide) rfl (fun ls hl => ?_)
            refine lv_iload hx hb dX12_readRow_78 (lv_at hl 0 rfl) ?_
            refine lv_i2l hx hb dX12_readRow_80 rfl ?_
            refine lv_lload_n hx hb dX12_readRow_81 rfl (lv_at hl 2 rfl) ?_
            refine W.lcmp hx hb dX12_readRow_82 ?_
            refine lv_if_ge (tgt := 130) hx hb dX12_readRow_83 (by decide) (fun c_12 => ?_) (fun c_12 => ?_)
            · refine lv_iload hx hb dX12_readRow_130 (lv_at hl 1 rfl) ?_
              exact rl_iret hC hW hr hlk (Nat.le_refl _) (Nat.le_refl _) ⟨_, rfl, rfl, rfl, _, _, _, ρ, G, none, (by unfold q_row; rw [hlf1]; exact rw_b hne), ⟨_, _, _, hR, hTc, hTp, hTk, hGW, hGr, hGd, hGp, hGt, hGc, hF11, hF14, hF44, hF41, hF42, hF43, hF45, hN, hSI⟩, Nat.le_refl _, rfl, trivial, fun q => absurd q hne⟩ dX12_readRow_132
            · refine lv_aload_n hx hb dX12_readRow_86 rfl (lv_at hl 3 rfl) ?_
              refine rl_get (v := .int (F 43)) hC hW fl_X12_238 hR.1 rfl dX12_readRow_87 ?_
              refine rl_topn (y := nI (bd1)) (hF43) ?_
              refine lv_if_ne (tgt := 130) hx hb dX12_readRow_90 (by decide) (fun c_13 => ?_) (fun c_13 => ?_)
              · refine lv_iload hx hb dX12_readRow_130 (lv_at hl 1 rfl) ?_
                exact rl_iret hC hW hr hlk (Nat.le_refl _) (Nat.le_refl _) ⟨_, rfl, rfl, rfl, _, _, _, ρ, G, none, (by unfold q_row; rw [hlf1]; exact rw_b hne), ⟨_, _, _, hR, hTc, hTp, hTk, hGW, hGr, hGd, hGp, hGt, hGc, hF11, hF14, hF44, hF41, hF42, hF43, hF45, hN, hSI⟩, Nat.le_refl _, rfl, trivial, fun q => absurd q hne⟩ dX12_readRow_132
              · exact absurd ((nI_eq (by omega) (by decide)).mp c_13) hne
          · exact absurd ((nI_eq (by omega) (by decide)).mp c_11) hne
        · exact absurd ((nI_eq (by omega) (by decide)).mp c_10) hne
      · exact absurd ((nI_eq (by omega) (by decide)).mp c_9) hne
  · refine lv_aload_n hx hb dX12_readRow_0 rfl (lv_at hl 0 rfl) ?_
    refine rl_calllQ (rl_runV (b := m) (As := []) (rest := []) hC hW (cR_want l D t A _ z m T w ρ0 κ0 G0 (a) (la) 0 (d) (ρ) (κ) G (e0) (j0) SD SL SI ⟨_, _, _, hR, hTc, hTp, hTk, hGW, hGr, hGd, hGp, hGt, hGc, hF11, hF14, hF44, hF41, hF42, hF43, hF45, hN, hSI⟩) cs_X12_254 im_X12_want sl_X12_want hR.1 rfl ⟨(Nat.le_of_ble_eq_true rfl), (Nat.le_of_ble_eq_true rfl)⟩ rfl hl.1 rfl (Nat.le_of_ble_eq_true rfl) dX12_readRow_1 ⟨(Nat.le_of_ble_eq_true rfl), (Nat.le_of_ble_eq_true rfl)⟩) hW (fun rk f1 H locs hp hW => ?_)
    obtain ⟨a1, la1, bd1, hlf1, hQ, hw1⟩ := hp
    rcases hw1 with hw1 | hw1
    · obtain ⟨-, rfl, rfl⟩ := hw1
      obtain ⟨I, L, F, hR, hTc, hTp, hTk, hGW, hGr, hGd, hGp, hGt, hGc, hF11, hF14, hF44, hF41, hF42, hF43, hF45, hN, hSI⟩ := hQ
      obtain ⟨hlv, hd6, hw3, hρ0, hκ0, hbd, hgl⟩ := id hN
      have hl250 := hGW.2.2.2.2
      refine lv_lstore_n (lv' := [(2, .long (rk)), (0, .ref (m)), (1, .int (nI (1)))]) hx hb dX12_readRow_4 rfl hl (by decide) rfl (fun ls hl => ?_)
      refine lv_aload_n hx hb dX12_readRow_5 rfl (lv_at hl 1 rfl) ?_
      refine rl_get (v := .int (F 43)) hC hW fl_X12_238 hR.1 rfl dX12_readRow_6 ?_
      refine rl_topn (y := nI (0)) (hF43) ?_
      refine lv_if_ne (tgt := 26) hx hb dX12_readRow_9 (by decide) (fun c1 => ?_) (fun c1 => ?_)
      · exact absurd rfl c1
      · refine lv_lload_n hx hb dX12_readRow_12 rfl (lv_at hl 0 rfl) ?_
        refine lv_ldc2 (v := -1) hx hb hC.2.2.2.1 (hC.2.2.2.2.1 _ (List.mem_cons_of_mem _ mw_941)) dX12_readRow_13 ?_
        refine W.lcmp hx hb dX12_readRow_16 ?_
        refine lv_if_ge (tgt := 26) hx hb dX12_readRow_17 (by decide) (fun c2 => ?_) (fun c2 => ?_)
        · have g1 : ¬ rk < -1 := fun q => absurd ((lg_cmp_lt _ _).mpr q) (Int32.not_lt.mpr c2)
          refine lv_aload_n hx hb dX12_readRow_26 rfl (lv_at hl 1 rfl) ?_
          refine rl_get (v := .int (F 43)) hC hW fl_X12_238 hR.1 rfl dX12_readRow_27 ?_
          refine rl_topn (y := nI (0)) (hF43) ?_
          refine lv_if_ne (tgt := 46) hx hb dX12_readRow_30 (by decide) (fun c3 => ?_) (fun c3 => ?_)
          · exact absurd rfl c3
          · refine lv_lload_n hx hb dX12_readRow_33 rfl (lv_at hl 0 rfl) ?_
            refine lv_ldc2 (v := 8) hx hb hC.2.2.2.1 (hC.2.2.2.2.1 _ (List.mem_cons_of_mem _ mw_846)) dX12_readRow_34 ?_
            refine W.lcmp hx hb dX12_readRow_37 ?_
            refine lv_if_le (tgt := 46) hx hb dX12_readRow_38 (by decide) (fun c4 => ?_) (fun c4 => ?_)
            · have g2 : rk ≤ 8 := (lg_cmp_le _ _).mp c4
              refine lv_aload_n hx hb dX12_readRow_46 rfl (lv_at hl 1 rfl) ?_
              refine rl_get (v := .int (F 43)) hC hW fl_X12_238 hR.1 rfl dX12_readRow_47 ?_
              refine rl_topn (y := nI (0)) (hF43) ?_
              refine lv_if_ne (tgt := 72) hx hb dX12_readRow_50 (by decide) (fun c5 => ?_) (fun c5 => ?_)
              · exact absurd rfl c5
              · refine lv_lload_n hx hb dX12_readRow_53 rfl (lv_at hl 0 rfl) ?_
                refine lv_lconst (v := 0) hx hb dX12_readRow_54 (by decide) ?_
                refine W.lcmp hx hb dX12_readRow_55 ?_
                refine lv_if_lt (tgt := 72) hx hb dX12_readRow_56 (by decide) (fun c6 => ?_) (fun c6 => ?_)
                · have g3 := rg_lm1 g1 ((lg_cmp_lt _ _).mp c6)
                  subst g3
                  refine lv_iconst (v := (-1)) hx hb dX12_readRow_72 (by decide) ?_
                  refine lv_istore (lv' := [(4, .int (-1)), (2, .long (-1)), (0, .ref (m)), (1, .int (nI (1)))]) hx hb dX12_readRow_73 hl (by decide) rfl (fun ls hl => ?_)
                  refine lv_iconst (v := (nI (0))) hx hb dX12_readRow_75 (by decide) ?_
                  refine lv_istore (lv' := [(5, .int (nI (0))), (4, .int (-1)), (2, .long (-1)), (0, .ref (m)), (1, .int (nI (1)))]) hx hb dX12_readRow_76 hl (by decide) rfl (fun ls hl => ?_)
                  refine lv_iload hx hb dX12_readRow_78 (lv_at hl 0 rfl) ?_
                  refine lv_i2l hx hb dX12_readRow_80 rfl ?_
                  refine lv_lload_n hx hb dX12_readRow_81 rfl (lv_at hl 2 rfl) ?_
                  refine W.lcmp hx hb dX12_readRow_82 ?_
                  refine rl_topn (y := 1) (by decide) ?_
                  refine lv_if_ge (tgt := 130) hx hb dX12_readRow_83 (by decide) (fun c_14 => ?_) (fun c_14 => ?_)
                  · refine lv_iload hx hb dX12_readRow_130 (lv_at hl 1 rfl) ?_
                    exact rl_iret hC hW hr hlk (Nat.le_refl _) (Nat.le_refl _) ⟨_, rfl, rfl, rfl, a + 1, la1, 0, ρ, G, none, (by unfold q_row; rw [hlf1]; exact rw_m1 rfl), ⟨_, _, _, hR, hTc, hTp, hTk, hGW, hGr, hGd, hGp, hGt, hGc, hF11, hF14, hF44, hF41, hF42, hF43, hF45, hN, hSI⟩, Nat.le_refl _, rfl, trivial, fun _ => ⟨by omega, by omega⟩⟩ dX12_readRow_132
                  · first | exact absurd c_14 (by decide) | exact absurd (by decide) c_14
                · obtain ⟨c0, hc0, rfl⟩ := rg_l8 (fun q => c6 ((lg_cmp_lt _ _).mpr q)) g2
                  refine lv_iload_n hx hb dX12_readRow_59 rfl (lv_at hl 2 rfl) ?_
                  refine lv_if_eq (tgt := 72) hx hb dX12_readRow_60 (by decide) (fun c7 => ?_) (fun c7 => ?_)
                  · first | exact absurd c7 (by decide) | exact absurd (by decide) c7
                  · refine lv_aload_n hx hb dX12_readRow_63 rfl (lv_at hl 1 rfl) ?_
                    refine lv_lload_n hx hb dX12_readRow_64 rfl (lv_at hl 0 rfl) ?_
                    refine lv_l2i hx hb dX12_readRow_65 rfl ?_
                    refine rl_topn (lN_i c0) ?_
                    refine rl_calliQ (rl_runV (b := m) (As := [.int (nI (c0))]) (rest := []) hC hW (cR_newRow l D t A _ z m I L F hR ρ (by omega) hF11 c0) cs_X12_156 im_X12_newRow sl_X12_newRow hR.1 rfl ⟨(Nat.le_of_ble_eq_true rfl), (Nat.le_of_ble_eq_true rfl)⟩ rfl hl.1 rfl (Nat.le_of_ble_eq_true rfl) dX12_readRow_66 ⟨(Nat.le_of_ble_eq_true rfl), (Nat.le_of_ble_eq_true rfl)⟩) hW (fun r f1 H locs hp hW => ?_)
                    obtain ⟨rfl, hR⟩ := hp
                    refine lv_goto (tgt := 73) hx hb dX12_readRow_69 (by decide) ?_
                    refine lv_istore (lv' := [(4, .int (nI (100 + ρ))), (2, .long (lN c0)), (0, .ref (m)), (1, .int (nI (1)))]) hx hb dX12_readRow_73 hl (by decide) rfl (fun ls hl => ?_)
                    refine lv_iconst (v := (nI (0))) hx hb dX12_readRow_75 (by decide) ?_
                    refine lv_istore (lv' := [(5, .int (nI (0))), (4, .int (nI (100 + ρ))), (2, .long (lN c0)), (0, .ref (m)), (1, .int (nI (1)))]) hx hb dX12_readRow_76 hl (by decide) rfl (fun ls hl => ?_)
                    replace hl : lv_has ls 7 [(0, .ref (m)), (2, .long (lN c0)), (4, .int (nI (100 + ρ))), (5, .int (nI (0)))] := lv_sub hl [3, 2, 1, 0] rfl
                    have hinv : ∃ (f2 : rl_M) (a2 : Nat) (la2 : Int32) (bd2 : Nat) (G2 : pG) (i : Nat), rl_W D A f2 z s.heap H locs ∧ RQ t f2 m T w ρ0 κ0 G0 a2 la2 bd2 d (ρ + 1) κ G2 e0 j0 SD SL SI ∧ i ≤ c0 ∧ (bd2 = 0 → a + 1 ≤ a2) ∧ q_items true ρ (c0 - i) i (a2, la2, bd2, d, (ρ + 1), κ, G2) = q_items true ρ c0 0 (a + 1, la1, 0, d, (ρ + 1), κ, (pu_row ρ G c0)) ∧ lv_has ls 7 [(0, .ref (m)), (2, .long (lN c0)), (4, .int (nI (100 + ρ))), (5, .int (nI (i)))] := ⟨_, a + 1, la1, 0, _, 0, hW, ⟨_, _, _, hR, hTc, hTp, hTk, (hGW.row hc0), (hGr.row rfl), hGd, hGp, hGt, hGc, rfl, hF14, hF44, hF41, hF42, hF43, hF45, ⟨hlv, by omega, by omega, by omega, by omega, by omega, (hgl.tr (gle.row hρ0) (Nat.le_refl _) (Nat.le_refl _))⟩, (fun q => (hSI q).mono (by omega) (Nat.le_refl _))⟩, Nat.zero_le _, fun _ => Nat.le_refl _, rfl, hl⟩
                    clear hW hR hl
                    obtain ⟨f2, a2, la2, bd2, G2, i, hW, hQ, hi, hpa, hit, hl⟩ := hinv
                    obtain ⟨n, hn⟩ : ∃ n, c0 - i < n := ⟨_, Nat.lt_succ_self _⟩
                    induction n generalizing f2 a2 la2 bd2 G2 i H locs ls with
                    | zero => exact absurd hn (Nat.not_lt_zero _)
                    | succ n ih =>
                      obtain ⟨I, L, F, hR, hTc, hTp, hTk, hGW, hGr, hGd, hGp, hGt, hGc, hF11, hF14, hF44, hF41, hF42, hF43, hF45, hN, hSI⟩ := hQ
                      obtain ⟨hlv, hd6, hw3, hρ0, hκ0, hbd, hgl⟩ := id hN
                      have hl250 := hGW.2.2.2.2
                      refine lv_iload hx hb dX12_readRow_78 (lv_at hl 3 rfl) ?_
                      refine lv_i2l hx hb dX12_readRow_80 rfl ?_
                      refine lv_lload_n hx hb dX12_readRow_81 rfl (lv_at hl 1 rfl) ?_
                      refine W.lcmp hx hb dX12_readRow_82 ?_
                      refine lv_if_ge (tgt := 130) hx hb dX12_readRow_83 (by decide) (fun c8 => ?_) (fun c8 => ?_)
                      · have hie : c0 - i = 0 := by have := (rg_cmpi (by omega) (by omega)).mp c8; omega
                        refine lv_iload hx hb dX12_readRow_130 (lv_at hl 2 rfl) ?_
                        exact rl_iret hC hW hr hlk (Nat.le_refl _) (Nat.le_refl _) ⟨_, rfl, rfl, rfl, a2, la2, bd2, (ρ + 1), G2, hrow ρ, (by unfold q_row; rw [hlf1]; exact (rw_t rfl hc0).trans (congrArg (Prod.mk _) (hit.symm.trans (by rw [hie]; rfl)))), ⟨_, _, _, hR, hTc, hTp, hTk, hGW, hGr, hGd, hGp, hGt, hGc, hF11, hF14, hF44, hF41, hF42, hF43, hF45, hN, hSI⟩, by omega, rfl, (show ρ < ρ + 1 by omega), fun q => ⟨by have := hpa q; omega, by have := hpa q; omega⟩⟩ dX12_readRow_132
                      · have hlt : i < c0 := Nat.lt_of_not_le (fun q => c8 ((rg_cmpi (by omega) (by omega)).mpr q))
                        refine lv_aload_n hx hb dX12_readRow_86 rfl (lv_at hl 0 rfl) ?_
                        refine rl_get (v := .int (F 43)) hC hW fl_X12_238 hR.1 rfl dX12_readRow_87 ?_
                        refine rl_topn (y := nI (bd2)) (hF43) ?_
                        refine lv_if_ne (tgt := 130) hx hb dX12_readRow_90 (by decide) (fun c9 => ?_) (fun c9 => ?_)
                        · have hne : bd2 ≠ 0 := fun q => c9 (by rw [q]; rfl)
                          refine lv_iload hx hb dX12_readRow_130 (lv_at hl 2 rfl) ?_
                          exact rl_iret hC hW hr hlk (Nat.le_refl _) (Nat.le_refl _) ⟨_, rfl, rfl, rfl, a2, la2, bd2, (ρ + 1), G2, hrow ρ, (by unfold q_row; rw [hlf1]; exact (rw_t rfl hc0).trans (congrArg (Prod.mk _) (hit.symm.trans (it_b hne _ _)))), ⟨_, _, _, hR, hTc, hTp, hTk, hGW, hGr, hGd, hGp, hGt, hGc, hF11, hF14, hF44, hF41, hF42, hF43, hF45, hN, hSI⟩, by omega, rfl, (show ρ < ρ + 1 by omega), fun q => ⟨by have := hpa q; omega, by have := hpa q; omega⟩⟩ dX12_readRow_132
                        · have hb0 : bd2 = 0 := (nI_eq (by omega) (by decide)).mp c9
                          subst hb0
                          rw [show c0 - i = (c0 - (i + 1)) + 1 by omega] at hit
                          refine lv_aload_n hx hb dX12_readRow_93 rfl (lv_at hl 0 rfl) ?_
                          refine rl_calllQ (rl_runV (b := m) (As := []) (rest := []) hC hW (cR_want l D t A _ z m T w ρ0 κ0 G0 (a2) (la2) 0 (d) ((ρ + 1)) (κ) G2 (e0) (j0) SD SL SI ⟨_, _, _, hR, hTc, hTp, hTk, hGW, hGr, hGd, hGp, hGt, hGc, hF11, hF14, hF44, hF41, hF42, hF43, hF45, hN, hSI⟩) cs_X12_254 im_X12_want sl_X12_want hR.1 rfl ⟨(Nat.le_of_ble_eq_true rfl), (Nat.le_of_ble_eq_true rfl)⟩ rfl hl.1 rfl (Nat.le_of_ble_eq_true rfl) dX12_readRow_94 ⟨(Nat.le_of_ble_eq_true rfl), (Nat.le_of_ble_eq_true rfl)⟩) hW (fun ri f1 H locs hp hW => ?_)
                          obtain ⟨a4, la4, bd4, hlf4, hQ, hw4⟩ := hp
                          rcases hw4 with hw4 | hw4
                          · obtain ⟨-, rfl, rfl⟩ := hw4
                            obtain ⟨I, L, F, hR, hTc, hTp, hTk, hGW, hGr, hGd, hGp, hGt, hGc, hF11, hF14, hF44, hF41, hF42, hF43, hF45, hN, hSI⟩ := hQ
                            obtain ⟨hlv, hd6, hw3, hρ0, hκ0, hbd, hgl⟩ := id hN
                            have hl250 := hGW.2.2.2.2
                            refine lv_l2i hx hb dX12_readRow_97 rfl ?_
                            refine lv_istore (lv' := [(6, .int ((ri).toInt32)), (0, .ref (m)), (2, .long (lN c0)), (4, .int (nI (100 + ρ))), (5, .int (nI (i)))]) hx hb dX12_readRow_98 hl (by decide) rfl (fun ls hl => ?_)
                            refine lv_iload hx hb dX12_readRow_100 (lv_at hl 3 rfl) ?_
                            refine lv_iconst (v := (-1)) hx hb dX12_readRow_102 (by decide) ?_
                            refine lv_icmp_eq (tgt := 124) hx hb dX12_readRow_103 (by decide) (fun c7 => ?_) (fun c7 => ?_)
                            · exact absurd c7 (rg_mn (by omega) (by decide))
                            · refine lv_aload_n hx hb dX12_readRow_106 rfl (lv_at hl 1 rfl) ?_
                              refine rl_get (v := .ref (m + 13)) hC hW fl_X12_49 hR.1 rfl dX12_readRow_107 ?_
                              refine lv_bipush (v := (nI (8))) hx hb dX12_readRow_110 (by decide) ?_
                              refine lv_iload hx hb dX12_readRow_112 (lv_at hl 3 rfl) ?_
                              refine lv_bipush (v := (nI (100))) hx hb dX12_readRow_114 (by decide) ?_
                              refine lv_isub hx hb dX12_readRow_116 ?_
                              refine rl_topn (rg_sub (c := ρ) (by omega)) ?_
                              refine lv_imul hx hb dX12_readRow_117 ?_
                              refine rl_topn (pk_mul _ _) ?_
                              refine lv_iload hx hb dX12_readRow_118 (lv_at hl 4 rfl) ?_
                              refine lv_iadd hx hb dX12_readRow_120 ?_
                              refine rl_topn (nI_add _ _) ?_
                              refine lv_iload hx hb dX12_readRow_121 (lv_at hl 0 rfl) ?_
                              refine rl_iast_n (g := I 13) hC hW hR.a13 (by omega) (by decide) dX12_readRow_123 (fun H locs hW => ?_)
                              have hR := hR.s13 (upd (I 13) (((8) * (ρ)) + (i)) (((ri).toInt32)))
                              refine lv_iinc (v := (nI ((i) + 1))) (lv' := [(5, .int (nI ((i) + 1))), (6, .int ((ri).toInt32)), (0, .ref (m)), (2, .long (lN c0)), (4, .int (nI (100 + ρ)))]) hx hb dX12_readRow_124 hl (k := 4) rfl (nI_1 _) (by decide) rfl (fun ls hl => ?_)
                              refine lv_goto (tgt := 78) hx hb dX12_readRow_127 (by decide) ?_
                              replace hl : lv_has ls 7 [(0, .ref (m)), (2, .long (lN c0)), (4, .int (nI (100 + ρ))), (5, .int (nI ((i) + 1)))] := lv_sub hl [2, 3, 4, 0] rfl
                              exact ih _ _ _ _ (a2 + 1) la4 0 (gY G2 1 (upd (G2.2.1 1) (8 * ρ + i) (ri).toInt32)) (i + 1) hW ⟨_, _, _, hR, hTc, hTp, hTk, hGW, hGr.item, hGd, hGp, hGt, hGc, hF11, hF14, hF44, hF41, hF42, hF43, hF45, ⟨hlv, by omega, by omega, by omega, by omega, by omega, (hgl.tr (gle.item (by omega)) (Nat.le_refl _) (Nat.le_refl _))⟩, hSI⟩ (by omega) (fun q => by have := hpa rfl; omega) ((it_s rfl hlf4).symm.trans hit) hl (by omega)
                          · obtain ⟨hne, rfl, hr04⟩ := hw4
                            obtain ⟨I, L, F, hR, hTc, hTp, hTk, hGW, hGr, hGd, hGp, hGt, hGc, hF11, hF14, hF44, hF41, hF42, hF43, hF45, hN, hSI⟩ := hQ
                            obtain ⟨hlv, hd6, hw3, hρ0, hκ0, hbd, hgl⟩ := id hN
                            have hl250 := hGW.2.2.2.2
                            refine lv_l2i hx hb dX12_readRow_97 rfl ?_
                            refine lv_istore (lv' := [(6, .int ((ri).toInt32)), (0, .ref (m)), (2, .long (lN c0)), (4, .int (nI (100 + ρ))), (5, .int (nI (i)))]) hx hb dX12_readRow_98 hl (by decide) rfl (fun ls hl => ?_)
                            refine lv_iload hx hb dX12_readRow_100 (lv_at hl 3 rfl) ?_
                            refine lv_iconst (v := (-1)) hx hb dX12_readRow_102 (by decide) ?_
                            refine lv_icmp_eq (tgt := 124) hx hb dX12_readRow_103 (by decide) (fun c7 => ?_) (fun c7 => ?_)
                            · exact absurd c7 (rg_mn (by omega) (by decide))
                            · refine lv_aload_n hx hb dX12_readRow_106 rfl (lv_at hl 1 rfl) ?_
                              refine rl_get (v := .ref (m + 13)) hC hW fl_X12_49 hR.1 rfl dX12_readRow_107 ?_
                              refine lv_bipush (v := (nI (8))) hx hb dX12_readRow_110 (by decide) ?_
                              refine lv_iload hx hb dX12_readRow_112 (lv_at hl 3 rfl) ?_
                              refine lv_bipush (v := (nI (100))) hx hb dX12_readRow_114 (by decide) ?_
                              refine lv_isub hx hb dX12_readRow_116 ?_
                              refine rl_topn (rg_sub (c := ρ) (by omega)) ?_
                              refine lv_imul hx hb dX12_readRow_117 ?_
                              refine rl_topn (pk_mul _ _) ?_
                              refine lv_iload hx hb dX12_readRow_118 (lv_at hl 4 rfl) ?_
                              refine lv_iadd hx hb dX12_readRow_120 ?_
                              refine rl_topn (nI_add _ _) ?_
                              refine lv_iload hx hb dX12_readRow_121 (lv_at hl 0 rfl) ?_
                              refine rl_iast_n (g := I 13) hC hW hR.a13 (by omega) (by decide) dX12_readRow_123 (fun H locs hW => ?_)
                              have hR := hR.s13 (upd (I 13) (((8) * (ρ)) + (i)) (((ri).toInt32)))
                              refine lv_iinc (v := (nI ((i) + 1))) (lv' := [(5, .int (nI ((i) + 1))), (6, .int ((ri).toInt32)), (0, .ref (m)), (2, .long (lN c0)), (4, .int (nI (100 + ρ)))]) hx hb dX12_readRow_124 hl (k := 4) rfl (nI_1 _) (by decide) rfl (fun ls hl => ?_)
                              refine lv_goto (tgt := 78) hx hb dX12_readRow_127 (by decide) ?_
                              replace hl : lv_has ls 7 [(0, .ref (m)), (2, .long (lN c0)), (4, .int (nI (100 + ρ))), (5, .int (nI ((i) + 1)))] := lv_sub hl [2, 3, 4, 0] rfl
                              exact ih _ _ _ _ (a2) la4 bd4 (gY G2 1 (upd (G2.2.1 1) (8 * ρ + i) (ri).toInt32)) (i + 1) hW ⟨_, _, _, hR, hTc, hTp, hTk, hGW, hGr.item, hGd, hGp, hGt, hGc, hF11, hF14, hF44, hF41, hF42, hF43, hF45, ⟨hlv, by omega, by omega, by omega, by omega, by omega, (hgl.tr (gle.item (by omega)) (Nat.le_refl _) (Nat.le_refl _))⟩, hSI⟩ (by omega) (fun q => absurd q hne) ((it_s rfl hlf4).symm.trans hit) hl (by omega)
            · have g8 : 8 < rk := Int64.not_le.mp (fun q => c4 ((lg_cmp_le _ _).mpr q))
              refine lv_aload_n hx hb dX12_readRow_41 rfl (lv_at hl 1 rfl) ?_
              refine lv_iconst (v := (nI (2))) hx hb dX12_readRow_42 (by decide) ?_
              refine rl_callvQ (rl_runV (b := m) (As := [.int (nI (2))]) (rest := []) hC hW (cR_fails l D t A _ z m T w ρ0 κ0 G0 (a + 1) (la1) 0 (d) (ρ) (κ) G (e0) (j0) SD SL SI ⟨_, _, _, hR, hTc, hTp, hTk, hGW, hGr, hGd, hGp, hGt, hGc, hF11, hF14, hF44, hF41, hF42, hF43, hF45, hN, hSI⟩ 2 (by decide) (by decide)) cs_X12_247 im_X12_fails sl_X12_fails hR.1 rfl ⟨(Nat.le_of_ble_eq_true rfl), (Nat.le_of_ble_eq_true rfl)⟩ rfl hl.1 rfl (Nat.le_of_ble_eq_true rfl) dX12_readRow_43 ⟨(Nat.le_of_ble_eq_true rfl), (Nat.le_of_ble_eq_true rfl)⟩) hW (fun f1 H locs hp hW => ?_)
              obtain ⟨bd3, hfe3, hne, hQ⟩ := hp
              obtain ⟨I, L, F, hR, hTc, hTp, hTk, hGW, hGr, hGd, hGp, hGt, hGc, hF11, hF14, hF44, hF41, hF42, hF43, hF45, hN, hSI⟩ := hQ
              obtain ⟨hlv, hd6, hw3, hρ0, hκ0, hbd, hgl⟩ := id hN
              have hl250 := hGW.2.2.2.2
              refine lv_aload_n hx hb dX12_readRow_46 rfl (lv_at hl 1 rfl) ?_
              refine rl_get (v := .int (F 43)) hC hW fl_X12_238 hR.1 rfl dX12_readRow_47 ?_
              refine rl_topn (y := nI (bd3)) (hF43) ?_
              refine lv_if_ne (tgt := 72) hx hb dX12_readRow_50 (by decide) (fun c_15 => ?_) (fun c_15 => ?_)
              · refine lv_iconst (v := (-1)) hx hb dX12_readRow_72 (by decide) ?_
                refine lv_istore (lv' := [(4, .int (-1)), (2, .long (rk)), (0, .ref (m)), (1, .int (nI (1)))]) hx hb dX12_readRow_73 hl (by decide) rfl (fun ls hl => ?_)
                refine lv_iconst (v := (nI (0))) hx hb dX12_readRow_75 (by decide) ?_
                refine lv_istore (lv' := [(5, .int (nI (0))), (4, .int (-1)), (2, .long (rk)), (0, .ref (m)), (1, .int (nI (1)))]) hx hb dX12_readRow_76 hl (by decide) rfl (fun ls hl => ?_)
                refine lv_iload hx hb dX12_readRow_78 (lv_at hl 0 rfl) ?_
                refine lv_i2l hx hb dX12_readRow_80 rfl ?_
                refine lv_lload_n hx hb dX12_readRow_81 rfl (lv_at hl 2 rfl) ?_
                refine W.lcmp hx hb dX12_readRow_82 ?_
                refine lv_if_ge (tgt := 130) hx hb dX12_readRow_83 (by decide) (fun c_16 => ?_) (fun c_16 => ?_)
                · refine lv_iload hx hb dX12_readRow_130 (lv_at hl 1 rfl) ?_
                  exact rl_iret hC hW hr hlk (Nat.le_refl _) (Nat.le_refl _) ⟨_, rfl, rfl, rfl, _, _, _, ρ, G, none, (by unfold q_row; rw [hlf1]; exact (rw_2 rfl g8).trans (by rw [hfe3])), ⟨_, _, _, hR, hTc, hTp, hTk, hGW, hGr, hGd, hGp, hGt, hGc, hF11, hF14, hF44, hF41, hF42, hF43, hF45, hN, hSI⟩, Nat.le_refl _, rfl, trivial, fun q => absurd q hne⟩ dX12_readRow_132
                · refine lv_aload_n hx hb dX12_readRow_86 rfl (lv_at hl 3 rfl) ?_
                  refine rl_get (v := .int (F 43)) hC hW fl_X12_238 hR.1 rfl dX12_readRow_87 ?_
                  refine rl_topn (y := nI (bd3)) (hF43) ?_
                  refine lv_if_ne (tgt := 130) hx hb dX12_readRow_90 (by decide) (fun c_17 => ?_) (fun c_17 => ?_)
                  · refine lv_iload hx hb dX12_readRow_130 (lv_at hl 1 rfl) ?_
                    exact rl_iret hC hW hr hlk (Nat.le_refl _) (Nat.le_refl _) ⟨_, rfl, rfl, rfl, _, _, _, ρ, G, none, (by unfold q_row; rw [hlf1]; exact (rw_2 rfl g8).trans (by rw [hfe3])), ⟨_, _, _, hR, hTc, hTp, hTk, hGW, hGr, hGd, hGp, hGt, hGc, hF11, hF14, hF44, hF41, hF42, hF43, hF45, hN, hSI⟩, Nat.le_refl _, rfl, trivial, fun q => absurd q hne⟩ dX12_readRow_132
                  · exact absurd ((nI_eq (by omega) (by decide)).mp c_17) hne
              · exact absurd ((nI_eq (by omega) (by decide)).mp c_15) hne
        · have g6 : rk < -1 := (lg_cmp_lt _ _).mp (Int32.not_le.mp c2)
          refine lv_aload_n hx hb dX12_readRow_20 rfl (lv_at hl 1 rfl) ?_
          refine lv_bipush (v := (nI (6))) hx hb dX12_readRow_21 (by decide) ?_
          refine rl_callvQ (rl_runV (b := m) (As := [.int (nI (6))]) (rest := []) hC hW (cR_fails l D t A _ z m T w ρ0 κ0 G0 (a + 1) (la1) 0 (d) (ρ) (κ) G (e0) (j0) SD SL SI ⟨_, _, _, hR, hTc, hTp, hTk, hGW, hGr, hGd, hGp, hGt, hGc, hF11, hF14, hF44, hF41, hF42, hF43, hF45, hN, hSI⟩ 6 (by decide) (by decide)) cs_X12_247 im_X12_fails sl_X12_fails hR.1 rfl ⟨(Nat.le_of_ble_eq_true rfl), (Nat.le_of_ble_eq_true rfl)⟩ rfl hl.1 rfl (Nat.le_of_ble_eq_true rfl) dX12_readRow_23 ⟨(Nat.le_of_ble_eq_true rfl), (Nat.le_of_ble_eq_true rfl)⟩) hW (fun f1 H locs hp hW => ?_)
          obtain ⟨bd3, hfe3, hne, hQ⟩ := hp
          obtain ⟨I, L, F, hR, hTc, hTp, hTk, hGW, hGr, hGd, hGp, hGt, hGc, hF11, hF14, hF44, hF41, hF42, hF43, hF45, hN, hSI⟩ := hQ
          obtain ⟨hlv, hd6, hw3, hρ0, hκ0, hbd, hgl⟩ := id hN
          have hl250 := hGW.2.2.2.2
          refine lv_aload_n hx hb dX12_readRow_26 rfl (lv_at hl 1 rfl) ?_
          refine rl_get (v := .int (F 43)) hC hW fl_X12_238 hR.1 rfl dX12_readRow_27 ?_
          refine rl_topn (y := nI (bd3)) (hF43) ?_
          refine lv_if_ne (tgt := 46) hx hb dX12_readRow_30 (by decide) (fun c_18 => ?_) (fun c_18 => ?_)
          · refine lv_aload_n hx hb dX12_readRow_46 rfl (lv_at hl 1 rfl) ?_
            refine rl_get (v := .int (F 43)) hC hW fl_X12_238 hR.1 rfl dX12_readRow_47 ?_
            refine rl_topn (y := nI (bd3)) (hF43) ?_
            refine lv_if_ne (tgt := 72) hx hb dX12_readRow_50 (by decide) (fun c_19 => ?_) (fun c_19 => ?_)
            · refine lv_iconst (v := (-1)) hx hb dX12_readRow_72 (by decide) ?_
              refine lv_istore (lv' := [(4, .int (-1)), (2, .long (rk)), (0, .ref (m)), (1, .int (nI (1)))]) hx hb dX12_readRow_73 hl (by decide) rfl (fun ls hl => ?_)
              refine lv_iconst (v := (nI (0))) hx hb dX12_readRow_75 (by decide) ?_
              refine lv_istore (lv' := [(5, .int (nI (0))), (4, .int (-1)), (2, .long (rk)), (0, .ref (m)), (1, .int (nI (1)))]) hx hb dX12_readRow_76 hl (by decide) rfl (fun ls hl => ?_)
              refine lv_iload hx hb dX12_readRow_78 (lv_at hl 0 rfl) ?_
              refine lv_i2l hx hb dX12_readRow_80 rfl ?_
              refine lv_lload_n hx hb dX12_readRow_81 rfl (lv_at hl 2 rfl) ?_
              refine W.lcmp hx hb dX12_readRow_82 ?_
              refine lv_if_ge (tgt := 130) hx hb dX12_readRow_83 (by decide) (fun c_20 => ?_) (fun c_20 => ?_)
              · refine lv_iload hx hb dX12_readRow_130 (lv_at hl 1 rfl) ?_
                exact rl_iret hC hW hr hlk (Nat.le_refl _) (Nat.le_refl _) ⟨_, rfl, rfl, rfl, _, _, _, ρ, G, none, (by unfold q_row; rw [hlf1]; exact (rw_6 rfl g6).trans (by rw [hfe3])), ⟨_, _, _, hR, hTc, hTp, hTk, hGW, hGr, hGd, hGp, hGt, hGc, hF11, hF14, hF44, hF41, hF42, hF43, hF45, hN, hSI⟩, Nat.le_refl _, rfl, trivial, fun q => absurd q hne⟩ dX12_readRow_132
              · refine lv_aload_n hx hb dX12_readRow_86 rfl (lv_at hl 3 rfl) ?_
                refine rl_get (v := .int (F 43)) hC hW fl_X12_238 hR.1 rfl dX12_readRow_87 ?_
                refine rl_topn (y := nI (bd3)) (hF43) ?_
                refine lv_if_ne (tgt := 130) hx hb dX12_readRow_90 (by decide) (fun c_21 => ?_) (fun c_21 => ?_)
                · refine lv_iload hx hb dX12_readRow_130 (lv_at hl 1 rfl) ?_
                  exact rl_iret hC hW hr hlk (Nat.le_refl _) (Nat.le_refl _) ⟨_, rfl, rfl, rfl, _, _, _, ρ, G, none, (by unfold q_row; rw [hlf1]; exact (rw_6 rfl g6).trans (by rw [hfe3])), ⟨_, _, _, hR, hTc, hTp, hTk, hGW, hGr, hGd, hGp, hGt, hGc, hF11, hF14, hF44, hF41, hF42, hF43, hF45, hN, hSI⟩, Nat.le_refl _, rfl, trivial, fun q => absurd q hne⟩ dX12_readRow_132
                · exact absurd ((nI_eq (by omega) (by decide)).mp c_21) hne
            · exact absurd ((nI_eq (by omega) (by decide)).mp c_19) hne
          · exact absurd ((nI_eq (by omega) (by decide)).mp c_18) hne
    · obtain ⟨hne, rfl, hr01⟩ := hw1
      obtain ⟨I, L, F, hR, hTc, hTp, hTk, hGW, hGr, hGd, hGp, hGt, hGc, hF11, hF14, hF44, hF41, hF42, hF43, hF45, hN, hSI⟩ := hQ
      obtain ⟨hlv, hd6, hw3, hρ0, hκ0, hbd, hgl⟩ := id hN
      have hl250 := hGW.2.2.2.2
      refine lv_lstore_n (lv' := [(2, .long (rk)), (0, .ref (m)), (1, .int (nI (1)))]) hx hb dX12_readRow_4 rfl hl (by decide) rfl (fun ls hl => ?_)
      refine lv_aload_n hx hb dX12_readRow_5 rfl (lv_at hl 1 rfl) ?_
      refine rl_get (v := .int (F 43)) hC hW fl_X12_238 hR.1 rfl dX12_readRow_6 ?_
      refine rl_topn (y := nI (bd1)) (hF43) ?_
      refine lv_if_ne (tgt := 26) hx hb dX12_readRow_9 (by decide) (fun c_22 => ?_) (fun c_22 => ?_)
      · refine lv_aload_n hx hb dX12_readRow_26 rfl (lv_at hl 1 rfl) ?_
        refine rl_get (v := .int (F 43)) hC hW fl_X12_238 hR.1 rfl dX12_readRow_27 ?_
        refine rl_topn (y := nI (bd1)) (hF43) ?_
        refine lv_if_ne (tgt := 46) hx hb dX12_readRow_30 (by decide) (fun c_23 => ?_) (fun c_23 => ?_)
        · refine lv_aload_n hx hb dX12_readRow_46 rfl (lv_at hl 1 rfl) ?_
          refine rl_get (v := .int (F 43)) hC hW fl_X12_238 hR.1 rfl dX12_readRow_47 ?_
          refine rl_topn (y := nI (bd1)) (hF43) ?_
          refine lv_if_ne (tgt := 72) hx hb dX12_readRow_50 (by decide) (fun c_24 => ?_) (fun c_24 => ?_)
          · refine lv_iconst (v := (-1)) hx hb dX12_readRow_72 (by decide) ?_
            refine lv_istore (lv' := [(4, .int (-1)), (2, .long (rk)), (0, .ref (m)), (1, .int (nI (1)))]) hx hb dX12_readRow_73 hl (by decide) rfl (fun ls hl => ?_)
            refine lv_iconst (v := (nI (0))) hx hb dX12_readRow_75 (by decide) ?_
            refine lv_istore (lv' := [(5, .int (nI (0))), (4, .int (-1)), (2, .long (rk)), (0, .ref (m)), (1, .int (nI (1)))]) hx hb dX12_readRow_76 hl (by decide) rfl (fun ls hl => ?_)
            refine lv_iload hx hb dX12_readRow_78 (lv_at hl 0 rfl) ?_
            refine lv_i2l hx hb dX12_readRow_80 rfl ?_
            refine lv_lload_n hx hb dX12_readRow_81 rfl (lv_at hl 2 rfl) ?_
            refine W.lcmp hx hb dX12_readRow_82 ?_
            refine lv_if_ge (tgt := 130) hx hb dX12_readRow_83 (by decide) (fun c_25 => ?_) (fun c_25 => ?_)
            · refine lv_iload hx hb dX12_readRow_130 (lv_at hl 1 rfl) ?_
              exact rl_iret hC hW hr hlk (Nat.le_refl _) (Nat.le_refl _) ⟨_, rfl, rfl, rfl, _, _, _, ρ, G, none, (by unfold q_row; rw [hlf1]; exact rw_b hne), ⟨_, _, _, hR, hTc, hTp, hTk, hGW, hGr, hGd, hGp, hGt, hGc, hF11, hF14, hF44, hF41, hF42, hF43, hF45, hN, hSI⟩, Nat.le_refl _, rfl, trivial, fun q => absurd q hne⟩ dX12_readRow_132
            · refine lv_aload_n hx hb dX12_readRow_86 rfl (lv_at hl 3 rfl) ?_
              refine rl_get (v := .int (F 43)) hC hW fl_X12_238 hR.1 rfl dX12_readRow_87 ?_
              refine rl_topn (y := nI (bd1)) (hF43) ?_
              refine lv_if_ne (tgt := 130) hx hb dX12_readRow_90 (by decide) (fun c_26 => ?_) (fun c_26 => ?_)
              · refine lv_iload hx hb dX12_readRow_130 (lv_at hl 1 rfl) ?_
                exact rl_iret hC hW hr hlk (Nat.le_refl _) (Nat.le_refl _) ⟨_, rfl, rfl, rfl, _, _, _, ρ, G, none, (by unfold q_row; rw [hlf1]; exact rw_b hne), ⟨_, _, _, hR, hTc, hTp, hTk, hGW, hGr, hGd, hGp, hGt, hGc, hF11, hF14, hF44, hF41, hF42, hF43, hF45, hN, hSI⟩, Nat.le_refl _, rfl, trivial, fun q => absurd q hne⟩ dX12_readRow_132
              · exact absurd ((nI_eq (by omega) (by decide)).mp c_26) hne
          · exact absurd ((nI_eq (by omega) (by decide)).mp c_24) hne
        · exact absurd ((nI_eq (by omega) (by decide)).mp c_23) hne
      · exact absurd ((nI_eq (by omega) (by decide)).mp c_22) hne
