
section PTU
variable {T : Nat → Nat → Nat} {w s0 : Nat} {R : Bool → pQ → pHd × pQ} {D : pD} {q q1 q2 : pQ} {y1 y2 v : Int64} {p : Option Nat} {b : Bool}
theorem pt_1 (h1 : q_leaf q = (y1, q1)) (hb : q_bad q1 ≠ 0) : q_part T w R D q = (D, q1) := by
  unfold q_part
  rw [h1]
  show q_prt T w R D y1 (q_leaf q1).1 (q_leaf q1).2 = _
  rw [lf_b hb]
  show q_prt T w R D y1 0 q1 = _
  unfold q_prt
  rw [if_neg hb]
theorem pt_2 (h1 : q_leaf q = (y1, q1)) (h2 : q_leaf q1 = (y2, q2)) (hb : q_bad q2 ≠ 0) : q_part T w R D q = (D, q2) := by
  unfold q_part
  rw [h1]
  show q_prt T w R D y1 (q_leaf q1).1 (q_leaf q1).2 = _
  rw [h2]
  show q_prt T w R D y1 y2 q2 = _
  unfold q_prt
  rw [if_neg hb]
theorem pt_o (h1 : q_leaf q = (y1, q1)) (h2 : q_leaf q1 = (y2, q2)) (hb : q_bad q2 = 0) (hn : ¬ ∃ j : Nat, j < 4 + 1 ∧ y2 = lN j) : q_part T w R D q = (D, q_fail 2 q2) := by
  unfold q_part
  rw [h1]
  show q_prt T w R D y1 (q_leaf q1).1 (q_leaf q1).2 = _
  rw [h2]
  show q_prt T w R D y1 y2 q2 = _
  unfold q_prt
  rw [if_pos hb, if_neg]
  rintro ⟨g1, g2⟩
  refine hn ⟨y2.toInt.toNat, by omega, ?_⟩
  apply Int64.toInt_inj.mp
  rw [lN_toInt (by omega)]
  omega
theorem pt_c (h1 : q_leaf q = (y1, q1)) (h2 : q_leaf q1 = (lN s0, q2)) (hb : q_bad q2 = 0) (hs : s0 < 5) (hf : q_find T D y1 = p) (hc : q_cast T D p s0) : q_part T w R D q = (D, q_fail 1 q2) := by
  unfold q_part
  rw [h1]
  show q_prt T w R D y1 (q_leaf q1).1 (q_leaf q1).2 = _
  rw [h2]
  show q_prt T w R D y1 (lN s0) q2 = _
  have e := lN_toInt (n := s0) (by omega)
  have e2 : (lN s0).toInt.toNat = s0 := by rw [e]; omega
  unfold q_prt
  rw [if_pos hb, if_pos ⟨by omega, by omega⟩, e2, hf, if_pos hc]
theorem pt_v (h1 : q_leaf q = (y1, q1)) (h2 : q_leaf q1 = (lN s0, q2)) (hb : q_bad q2 = 0) (hs : s0 < 5) (hf : q_find T D y1 = p) (hc : ¬ q_cast T D p s0) : q_part T w R D q = q_val T w R D p s0 q2 := by
  unfold q_part
  rw [h1]
  show q_prt T w R D y1 (q_leaf q1).1 (q_leaf q1).2 = _
  rw [h2]
  show q_prt T w R D y1 (lN s0) q2 = _
  have e := lN_toInt (n := s0) (by omega)
  have e2 : (lN s0).toInt.toNat = s0 := by rw [e]; omega
  unfold q_prt
  rw [if_pos hb, if_pos ⟨by omega, by omega⟩, e2, hf, if_neg hc]
theorem pn_p {h : pHd} : q_put D none h = D := by cases D <;> rfl
theorem pn_n : q_num D none v = D := by cases D <;> rfl
theorem cs_n : ¬ q_cast T D none s0 := by cases D <;> exact fun h => h
theorem vl_n (hs : s0 < 2) (h : q_leaf q = (v, q1)) : q_val T w R D p s0 q = (q_num D p v, q1) := by unfold q_val; rw [if_pos hs, h]
theorem vl_c (h : q_leaf q = (v, q1)) : q_val T w R D p 2 q = q_con T w D p v q1 := by unfold q_val; rw [if_neg (by decide), if_pos rfl, h]
theorem vl_r (hb : p.isSome = b) : q_val T w R D p 4 q = (q_put D p (q_row b q).1, (q_row b q).2) := by subst hb; unfold q_val; rw [if_neg (by decide), if_neg (by decide), if_pos rfl]
theorem vl_i (h : q_leaf q = (v, q1)) : q_val T w R D p 3 q = q_inn R D p v q1 := by unfold q_val; rw [if_neg (by decide), if_neg (by decide), if_neg (by decide), h]
theorem in_0 (hv : v = 0) : q_inn R D p v q = (q_put D p none, q) := by unfold q_inn; rw [if_pos hv]
theorem in_s (hv : v ≠ 0) (hb : p.isSome = b) : q_inn R D p v q = (q_put D p (R b q).1, (R b q).2) := by subst hb; unfold q_inn; rw [if_neg hv]
theorem cn_0 : q_con T w D none v q = (D, q) := by cases D <;> rfl
theorem cn_b {j p0 : Nat} {N : Nat → Int64} {X : Nat → pHd} (hD : D = some (j, N, X)) (h : ¬ (q_bad q = 0 ∧ v ≠ -1)) : q_con T w D (some p0) v q = (q_put D (some p0) none, q) := by
  subst hD
  show (if q_bad q = 0 ∧ v ≠ -1 then _ else _) = _
  rw [if_neg h]
  rfl
theorem cn_f {j p0 i : Nat} {N : Nat → Int64} {X : Nat → pHd} (hD : D = some (j, N, X)) (h0 : q_bad q = 0) (hv : v ≠ -1) (hf : pu_find (fun i => T 1 (10 * (3 * T 8 (5 * j + p0) + w) + i)) v (T 0 (3 * T 8 (5 * j + p0) + w)) = some i) : q_con T w D (some p0) v q = (q_put D (some p0) (hcon (10 * (3 * T 8 (5 * j + p0) + w) + i)), q) := by
  subst hD
  show (if q_bad q = 0 ∧ v ≠ -1 then _ else _) = _
  rw [if_pos ⟨h0, hv⟩, hf]
  rfl
theorem cn_n {j p0 : Nat} {N : Nat → Int64} {X : Nat → pHd} (hD : D = some (j, N, X)) (h0 : q_bad q = 0) (hv : v ≠ -1) (hf : pu_find (fun i => T 1 (10 * (3 * T 8 (5 * j + p0) + w) + i)) v (T 0 (3 * T 8 (5 * j + p0) + w)) = none) : q_con T w D (some p0) v q = (q_put D (some p0) none, q_fail 7 q) := by
  subst hD
  show (if q_bad q = 0 ∧ v ≠ -1 then _ else _) = _
  rw [if_pos ⟨h0, hv⟩, hf]
  rfl
end PTU
/-- a part was read: nothing opened, or a record did -/
def rp_rel (T : Nat → Nat → Nat) (w d : Nat) (SD : Nat → pD) (SL : Nat → Nat) (SI : Nat → Option Nat) (q : pQ) (a' : Nat) (la' : Int32) (bd' d' ρ' κ' : Nat) (G' : pG) (SD' : Nat → pD) (SL' : Nat → Nat) (SI' : Nat → Option Nat) : Prop := (∃ D', q_part T w (q_rec T w (6 - (d + 1))) (SD d) q = (D', (a', la', bd', d', ρ', κ', G')) ∧ (bd' = 0 → d' = d + 1 ∧ SD' = va_up SD d D' ∧ SL' = SL ∧ SI' = SI)) ∨ (bd' = 0 ∧ d' = d + 1 + 1 ∧ ∃ (p : Option Nat) (b : Bool) (kd n2 : Nat) (q4 : pQ), q_part T w (q_rec T w (6 - (d + 1))) (SD d) q = (q_put (SD d) p (q_rec T w (6 - (d + 1)) b q4).1, (q_rec T w (6 - (d + 1)) b q4).2) ∧ q_rec T w (6 - (d + 1)) b q4 = q_end T (q_parts T w (q_rec T w (6 - (d + 1 + 1))) n2 (q_d0 w kd b) (a', la', 0, d + 1 + 1, ρ', κ', G')).1 (q_parts T w (q_rec T w (6 - (d + 1 + 1))) n2 (q_d0 w kd b) (a', la', 0, d + 1 + 1, ρ', κ', G')).2 ∧ SD' = va_up SD (d + 1) (q_d0 w kd b) ∧ SL' = va_up SL (d + 1) n2 ∧ SI' = va_up SI d p)

set_option maxHeartbeats 4000000 in
set_option maxRecDepth 100000 in
theorem cR_readPart (l : Launch) (D : va_G) (t : Nat → ClassId) (A : Nat → Prop) (f : rl_M) (z : Nat) (m : Nat) (T : Nat → Nat → Nat) (w ρ0 κ0 : Nat) (G0 : pG) (a : Nat) (la : Int32) (d ρ κ : Nat) (G : pG) (SD : Nat → pD) (SL : Nat → Nat) (SI : Nat → Option Nat) (hQ : RQ t f m T w ρ0 κ0 G0 a la 0 (d + 1) ρ κ G (d + 1) d SD SL SI) (hB : ρ0 + 84 ≤ 43100) (hK : κ0 + 51 ≤ 26200) (hp1 : 5 * (κ - κ0) + 5 * (d + 1) ≤ a + 3) (hp2 : 3 * (ρ - ρ0) ≤ a) : rl_Met l yX12_readPart (.code yX12_readPart cX12_readPart 12 none) (rl_rm 3 0 0) D t A f z [.ref (m)] (rl_qv z fun f1 => ∃ (a' : Nat) (la' : Int32) (bd' d' ρ' : Nat) (G' : pG) (e' j' : Nat) (SD' : Nat → pD) (SL' : Nat → Nat) (SI' : Nat → Option Nat), RQ t f1 m T w ρ0 κ0 G0 a' la' bd' d' ρ' κ G' e' j' SD' SL' SI' ∧ ρ ≤ ρ' ∧ (bd' = 0 → e' = d' ∧ 0 < d' ∧ j' + 1 = d' ∧ 5 * (κ - κ0) + 5 * d' ≤ a' + 3 ∧ 3 * (ρ' - ρ0) ≤ a' ∧ a + 2 ≤ a' ∧ d' ≤ d + 2) ∧ rp_rel T w d SD SL SI (a, la, 0, d + 1, ρ, κ, G) a' la' bd' d' ρ' κ G' SD' SL' SI') := by
  obtain ⟨I, L, F, hR, hTc, hTp, hTk, hGW, hGr, hGd, hGp, hGt, hGc, hF11, hF14, hF44, hF41, hF42, hF43, hF45, hN, hSI⟩ := hQ
  obtain ⟨hlv, hd6, hw3, hρ0, hκ0, hbd, hgl⟩ := id hN
  have hl250 := hGW.2.2.2.2
  refine rl_begin (own := RX12) (lv := [(0, .ref (m))]) (by decide +kernel) rfl (Nat.le_of_ble_eq_true rfl) rfl fun p e s m0 args below meth c ls H locs hC hr hlk hnm hW hl hx hb => ?_
  obtain ⟨hfr, hsl⟩ := (hSI rfl).1 d (by omega)
  rcases hD : SD d with _ | Dd
  · rw [hD] at hfr
    have hsh : I 46 d = -3 := hfr
    refine lv_aload_n hx hb dX12_readPart_0 rfl (lv_at hl 0 rfl) ?_
    refine rl_get (v := .ref (m + 30)) hC hW fl_X12_106 hR.1 rfl dX12_readPart_1 ?_
    refine lv_aload_n hx hb dX12_readPart_4 rfl (lv_at hl 0 rfl) ?_
    refine rl_get (v := .int (F 45)) hC hW fl_X12_251 hR.1 rfl dX12_readPart_5 ?_
    refine rl_topn (y := nI (d + 1)) (hF45) ?_
    refine lv_iconst (v := (nI (1))) hx hb dX12_readPart_8 (by decide) ?_
    refine lv_isub hx hb dX12_readPart_9 ?_
    refine rl_topn (rg_sub (c := d) (by omega)) ?_
    refine rl_iald_n (g := I 46) hC hW hR.a46 (by omega) (by decide) dX12_readPart_10 ?_
    refine rl_topn (hsh) ?_
    refine lv_istore_n (lv' := [(1, .int (-3)), (0, .ref (m))]) hx hb dX12_readPart_11 rfl hl (by decide) rfl (fun ls hl => ?_)
    refine lv_aload_n hx hb dX12_readPart_12 rfl (lv_at hl 1 rfl) ?_
    refine rl_calllQ (rl_runV (b := m) (As := []) (rest := []) hC hW (cR_want l D t A _ z m T w ρ0 κ0 G0 (a) (la) 0 (d + 1) (ρ) (κ) G (d + 1) (d) SD SL SI ⟨_, _, _, hR, hTc, hTp, hTk, hGW, hGr, hGd, hGp, hGt, hGc, hF11, hF14, hF44, hF41, hF42, hF43, hF45, hN, hSI⟩) cs_X12_254 im_X12_want sl_X12_want hR.1 rfl ⟨(Nat.le_of_ble_eq_true rfl), (Nat.le_of_ble_eq_true rfl)⟩ rfl hl.1 rfl (Nat.le_of_ble_eq_true rfl) dX12_readPart_13 ⟨(Nat.le_of_ble_eq_true rfl), (Nat.le_of_ble_eq_true rfl)⟩) hW (fun rk f1 H locs hp hW => ?_)
    obtain ⟨a1, la1, bd1, hlf1, hQ, hw1⟩ := hp
    rcases hw1 with hw1 | hw1
    · obtain ⟨-, rfl, rfl⟩ := hw1
      obtain ⟨I, L, F, hR, hTc, hTp, hTk, hGW, hGr, hGd, hGp, hGt, hGc, hF11, hF14, hF44, hF41, hF42, hF43, hF45, hN, hSI⟩ := hQ
      obtain ⟨hlv, hd6, hw3, hρ0, hκ0, hbd, hgl⟩ := id hN
      have hl250 := hGW.2.2.2.2
      refine lv_lstore_n (lv' := [(2, .long (rk)), (1, .int (-3)), (0, .ref (m))]) hx hb dX12_readPart_16 rfl hl (by decide) rfl (fun ls hl => ?_)
      refine lv_aload_n hx hb dX12_readPart_17 rfl (lv_at hl 2 rfl) ?_
      refine rl_calllQ (rl_runV (b := m) (As := []) (rest := []) hC hW (cR_want l D t A _ z m T w ρ0 κ0 G0 (a + 1) (la1) 0 (d + 1) (ρ) (κ) G (d + 1) (d) SD SL SI ⟨_, _, _, hR, hTc, hTp, hTk, hGW, hGr, hGd, hGp, hGt, hGc, hF11, hF14, hF44, hF41, hF42, hF43, hF45, hN, hSI⟩) cs_X12_254 im_X12_want sl_X12_want hR.1 rfl ⟨(Nat.le_of_ble_eq_true rfl), (Nat.le_of_ble_eq_true rfl)⟩ rfl hl.1 rfl (Nat.le_of_ble_eq_true rfl) dX12_readPart_18 ⟨(Nat.le_of_ble_eq_true rfl), (Nat.le_of_ble_eq_true rfl)⟩) hW (fun rs f1 H locs hp hW => ?_)
      obtain ⟨a2, la2, bd2, hlf2, hQ, hw2⟩ := hp
      rcases hw2 with hw2 | hw2
      · obtain ⟨-, rfl, rfl⟩ := hw2
        obtain ⟨I, L, F, hR, hTc, hTp, hTk, hGW, hGr, hGd, hGp, hGt, hGc, hF11, hF14, hF44, hF41, hF42, hF43, hF45, hN, hSI⟩ := hQ
        obtain ⟨hlv, hd6, hw3, hρ0, hκ0, hbd, hgl⟩ := id hN
        have hl250 := hGW.2.2.2.2
        refine lv_lstore (lv' := [(4, .long (rs)), (2, .long (rk)), (1, .int (-3)), (0, .ref (m))]) hx hb dX12_readPart_21 hl (by decide) rfl (fun ls hl => ?_)
        refine lv_aload_n hx hb dX12_readPart_23 rfl (lv_at hl 3 rfl) ?_
        refine rl_get (v := .int (F 43)) hC hW fl_X12_238 hR.1 rfl dX12_readPart_24 ?_
        refine rl_topn (y := nI (0)) (hF43) ?_
        refine lv_if_ne (tgt := 47) hx hb dX12_readPart_27 (by decide) (fun c1 => ?_) (fun c1 => ?_)
        · exact absurd rfl c1
        · refine lv_lload hx hb dX12_readPart_30 (lv_at hl 0 rfl) ?_
          refine lv_lconst (v := 0) hx hb dX12_readPart_32 (by decide) ?_
          refine lv_ldc2 (v := 4) hx hb hC.2.2.2.1 (hC.2.2.2.2.1 _ (List.mem_cons_of_mem _ mw_822)) dX12_readPart_33 ?_
          refine rl_calliQ (rl_runS (As := [.long (rs), .long (0), .long (4)]) (rest := []) hC hW (cR_in l D t A _ z _ _ _) cs_X12_117 sm_X12_in ⟨(Nat.le_of_ble_eq_true rfl), (Nat.le_of_ble_eq_true rfl)⟩ rfl hl.1 rfl (Nat.le_of_ble_eq_true rfl) dX12_readPart_36 ⟨(Nat.le_of_ble_eq_true rfl), (Nat.le_of_ble_eq_true rfl)⟩) hW (fun r f1 H locs hp hW => ?_)
          obtain ⟨rfl, hp⟩ := hp
          rw [rg_lin (n := 4) (by decide) (by decide) (by decide)] at hp
          rcases hp with ⟨rfl, hp⟩ | ⟨rfl, hp⟩
          · obtain ⟨s0, hs0, rfl⟩ := hp
            have hcase : s0 = 0 ∨ s0 = 1 ∨ s0 = 2 ∨ s0 = 3 ∨ s0 = 4 := by omega
            rcases hcase with rfl | rfl | rfl | rfl | rfl
            · refine lv_if_ne (tgt := 47) hx hb dX12_readPart_39 (by decide) (fun c9 => ?_) (fun c9 => ?_)
              · refine lv_aload_n hx hb dX12_readPart_47 rfl (lv_at hl 3 rfl) ?_
                refine rl_get (v := .int (F 43)) hC hW fl_X12_238 hR.1 rfl dX12_readPart_48 ?_
                refine rl_topn (y := nI (0)) (hF43) ?_
                refine lv_if_eq (tgt := 55) hx hb dX12_readPart_51 (by decide) (fun c8 => ?_) (fun c8 => ?_)
                · refine lv_iload_n hx hb dX12_readPart_55 rfl (lv_at hl 2 rfl) ?_
                  have hfd : q_find T (SD d) rk = none := by rw [hD]; rfl
                  refine lv_if_ge (tgt := 64) hx hb dX12_readPart_56 (by decide) (fun c2 => ?_) (fun c2 => ?_)
                  · exact absurd c2 (by decide)
                  · refine lv_bipush (v := (-3)) hx hb dX12_readPart_59 (by decide) ?_
                    refine lv_goto (tgt := 70) hx hb dX12_readPart_61 (by decide) ?_
                    refine lv_istore (lv' := [(6, .int (-3)), (4, .long (lN 0)), (2, .long (rk)), (1, .int (-3)), (0, .ref (m))]) hx hb dX12_readPart_70 hl (by decide) rfl (fun ls hl => ?_)
                    refine lv_iload hx hb dX12_readPart_72 (lv_at hl 0 rfl) ?_
                    refine lv_if_lt (tgt := 81) hx hb dX12_readPart_74 (by decide) (fun c3 => ?_) (fun c3 => ?_)
                    · have hcs : ¬ q_cast T (SD d) none 0 := cs_n
                      refine lv_iconst (v := (nI (0))) hx hb dX12_readPart_81 (by decide) ?_
                      refine lv_istore (lv' := [(7, .int (nI (0))), (6, .int (-3)), (4, .long (lN 0)), (2, .long (rk)), (1, .int (-3)), (0, .ref (m))]) hx hb dX12_readPart_82 hl (by decide) rfl (fun ls hl => ?_)
                      refine lv_iload hx hb dX12_readPart_84 (lv_at hl 0 rfl) ?_
                      refine lv_if_eq (tgt := 113) hx hb dX12_readPart_86 (by decide) (fun c4 => ?_) (fun c4 => ?_)
                      · refine lv_iconst (v := (nI (5))) hx hb dX12_readPart_113 (by decide) ?_
                        refine lv_aload_n hx hb dX12_readPart_114 rfl (lv_at hl 5 rfl) ?_
                        refine rl_get (v := .int (F 45)) hC hW fl_X12_251 hR.1 rfl dX12_readPart_115 ?_
                        refine rl_topn (y := nI (d + 1)) (hF45) ?_
                        refine lv_imul hx hb dX12_readPart_118 ?_
                        refine rl_topn (pk_mul _ _) ?_
                        refine lv_iload hx hb dX12_readPart_119 (lv_at hl 0 rfl) ?_
                        refine lv_if_eq (tgt := 129) hx hb dX12_readPart_121 (by decide) (fun c_1 => ?_) (fun c_1 => ?_)
                        · refine lv_iconst (v := (nI (0))) hx hb dX12_readPart_129 (by decide) ?_
                          refine lv_iadd hx hb dX12_readPart_130 ?_
                          refine rl_topn (nI_add _ _) ?_
                          refine lv_istore (lv' := [(8, .int (nI (((5) * (d + 1)) + (0)))), (7, .int (nI (0))), (6, .int (-3)), (4, .long (lN 0)), (2, .long (rk)), (1, .int (-3)), (0, .ref (m))]) hx hb dX12_readPart_131 hl (by decide) rfl (fun ls hl => ?_)
                          refine lv_lload hx hb dX12_readPart_133 (lv_at hl 3 rfl) ?_
                          refine lv_ldc2 (v := 2) hx hb hC.2.2.2.1 (hC.2.2.2.2.1 _ (List.mem_cons_of_mem _ mw_808)) dX12_readPart_135 ?_
                          refine W.lcmp hx hb dX12_readPart_138 ?_
                          refine rl_topn (y := -1) (by decide) ?_
                          refine lv_if_ge (tgt := 175) hx hb dX12_readPart_139 (by decide) (fun c_2 => ?_) (fun c_2 => ?_)
                          · first | exact absurd c_2 (by decide) | exact absurd (by decide) c_2
                          · refine lv_aload_n hx hb dX12_readPart_142 rfl (lv_at hl 6 rfl) ?_
                            refine rl_calllQ (rl_runV (b := m) (As := []) (rest := []) hC hW (cR_want l D t A _ z m T w ρ0 κ0 G0 (a + 1 + 1) (la2) 0 (d + 1) (ρ) (κ) G (d + 1) (d) SD SL SI ⟨_, _, _, hR, hTc, hTp, hTk, hGW, hGr, hGd, hGp, hGt, hGc, hF11, hF14, hF44, hF41, hF42, hF43, hF45, hN, hSI⟩) cs_X12_254 im_X12_want sl_X12_want hR.1 rfl ⟨(Nat.le_of_ble_eq_true rfl), (Nat.le_of_ble_eq_true rfl)⟩ rfl hl.1 rfl (Nat.le_of_ble_eq_true rfl) dX12_readPart_143 ⟨(Nat.le_of_ble_eq_true rfl), (Nat.le_of_ble_eq_true rfl)⟩) hW (fun rv f1 H locs hp hW => ?_)
                            obtain ⟨a3, la3, bd3, hlf3, hQ, hw3⟩ := hp
                            rcases hw3 with hw3 | hw3
                            · obtain ⟨-, rfl, rfl⟩ := hw3
                              obtain ⟨I, L, F, hR, hTc, hTp, hTk, hGW, hGr, hGd, hGp, hGt, hGc, hF11, hF14, hF44, hF41, hF42, hF43, hF45, hN, hSI⟩ := hQ
                              obtain ⟨hlv, hd6, hw3, hρ0, hκ0, hbd, hgl⟩ := id hN
                              have hl250 := hGW.2.2.2.2
                              refine lv_lstore (lv' := [(9, .long (rv)), (8, .int (nI (((5) * (d + 1)) + (0)))), (7, .int (nI (0))), (6, .int (-3)), (4, .long (lN 0)), (2, .long (rk)), (1, .int (-3)), (0, .ref (m))]) hx hb dX12_readPart_146 hl (by decide) rfl (fun ls hl => ?_)
                              refine lv_aload_n hx hb dX12_readPart_148 rfl (lv_at hl 7 rfl) ?_
                              refine rl_get (v := .ref (m + 22)) hC hW fl_X12_82 hR.1 rfl dX12_readPart_149 ?_
                              refine lv_iload hx hb dX12_readPart_152 (lv_at hl 1 rfl) ?_
                              refine lv_iload hx hb dX12_readPart_154 (lv_at hl 2 rfl) ?_
                              refine lv_if_eq (tgt := 164) hx hb dX12_readPart_156 (by decide) (fun c_3 => ?_) (fun c_3 => ?_)
                              · refine lv_aload_n hx hb dX12_readPart_164 rfl (lv_at hl 7 rfl) ?_
                                refine rl_get (v := .ref (m + 22)) hC hW fl_X12_82 hR.1 rfl dX12_readPart_165 ?_
                                refine lv_iload hx hb dX12_readPart_168 (lv_at hl 1 rfl) ?_
                                refine rl_lald_n (g := L 31) hC hW hR.a31 (by omega) (by decide) dX12_readPart_170 ?_
                                refine rl_last_n (g := L 31) hC hW hR.a31 (by omega) (by decide) dX12_readPart_171 (fun H locs hW => ?_)
                                have hR := hR.s31 (vp_updL (L 31) (((5) * (d + 1)) + (0)) (L 31 (((5) * (d + 1)) + (0))))
                                refine lv_goto (tgt := 386) hx hb dX12_readPart_172 (by decide) ?_
                                exact rl_vret hC hW hr hlk (Nat.le_refl _) (Nat.le_refl _) ⟨rfl, rfl, rfl, a + 1 + 1 + 1, la3, 0, d + 1, ρ, G, d + 1, d, va_up SD d (q_num (SD d) none rv), SL, SI, ⟨_, _, _, hR, hTc, hTp, hTk, hGW, hGr, hGd, hGp, hGt, hGc, hF11, hF14, hF44, hF41, hF42, hF43, hF45, hN, (fun _ => by rw [pn_n, va_up_same]; exact (hSI rfl).same rfl updL_self)⟩, by omega, fun _ => ⟨rfl, by omega, rfl, by omega, by omega, by omega, by omega⟩, Or.inl ⟨q_num (SD d) none rv, (pt_v hlf1 hlf2 rfl (by decide) hfd hcs).trans (vl_n (by decide) hlf3), fun _ => ⟨rfl, rfl, rfl, rfl⟩⟩⟩ dX12_readPart_386
                              · first | exact absurd c_3 (by decide) | exact absurd (by decide) c_3
                            · obtain ⟨hne, rfl, hr03⟩ := hw3
                              obtain ⟨I, L, F, hR, hTc, hTp, hTk, hGW, hGr, hGd, hGp, hGt, hGc, hF11, hF14, hF44, hF41, hF42, hF43, hF45, hN, hSI⟩ := hQ
                              obtain ⟨hlv, hd6, hw3, hρ0, hκ0, hbd, hgl⟩ := id hN
                              have hl250 := hGW.2.2.2.2
                              refine lv_lstore (lv' := [(9, .long (rv)), (8, .int (nI (((5) * (d + 1)) + (0)))), (7, .int (nI (0))), (6, .int (-3)), (4, .long (lN 0)), (2, .long (rk)), (1, .int (-3)), (0, .ref (m))]) hx hb dX12_readPart_146 hl (by decide) rfl (fun ls hl => ?_)
                              refine lv_aload_n hx hb dX12_readPart_148 rfl (lv_at hl 7 rfl) ?_
                              refine rl_get (v := .ref (m + 22)) hC hW fl_X12_82 hR.1 rfl dX12_readPart_149 ?_
                              refine lv_iload hx hb dX12_readPart_152 (lv_at hl 1 rfl) ?_
                              refine lv_iload hx hb dX12_readPart_154 (lv_at hl 2 rfl) ?_
                              refine lv_if_eq (tgt := 164) hx hb dX12_readPart_156 (by decide) (fun c_4 => ?_) (fun c_4 => ?_)
                              · refine lv_aload_n hx hb dX12_readPart_164 rfl (lv_at hl 7 rfl) ?_
                                refine rl_get (v := .ref (m + 22)) hC hW fl_X12_82 hR.1 rfl dX12_readPart_165 ?_
                                refine lv_iload hx hb dX12_readPart_168 (lv_at hl 1 rfl) ?_
                                refine rl_lald_n (g := L 31) hC hW hR.a31 (by omega) (by decide) dX12_readPart_170 ?_
                                refine rl_last_n (g := L 31) hC hW hR.a31 (by omega) (by decide) dX12_readPart_171 (fun H locs hW => ?_)
                                have hR := hR.s31 (vp_updL (L 31) (((5) * (d + 1)) + (0)) (L 31 (((5) * (d + 1)) + (0))))
                                refine lv_goto (tgt := 386) hx hb dX12_readPart_172 (by decide) ?_
                                exact rl_vret hC hW hr hlk (Nat.le_refl _) (Nat.le_refl _) ⟨rfl, rfl, rfl, a + 1 + 1, la3, bd3, d + 1, ρ, G, d + 1, d, SD, SL, SI, ⟨_, _, _, hR, hTc, hTp, hTk, hGW, hGr, hGd, hGp, hGt, hGc, hF11, hF14, hF44, hF41, hF42, hF43, hF45, hN, (fun q => absurd q hne)⟩, by omega, fun q => absurd q hne, Or.inl ⟨_, (pt_v hlf1 hlf2 rfl (by decide) hfd hcs).trans (vl_n (by decide) hlf3), fun q => absurd q hne⟩⟩ dX12_readPart_386
                              · first | exact absurd c_4 (by decide) | exact absurd (by decide) c_4
                        · first | exact absurd c_1 (by decide) | exact absurd (by decide) c_1
                      · first | exact absurd c4 (by decide) | exact absurd (by decide) c4
                    · exact absurd (by decide) c3
                · exact absurd rfl c8
              · exact absurd c9 (by decide)
            · refine lv_if_ne (tgt := 47) hx hb dX12_readPart_39 (by decide) (fun c9 => ?_) (fun c9 => ?_)
              · refine lv_aload_n hx hb dX12_readPart_47 rfl (lv_at hl 3 rfl) ?_
                refine rl_get (v := .int (F 43)) hC hW fl_X12_238 hR.1 rfl dX12_readPart_48 ?_
                refine rl_topn (y := nI (0)) (hF43) ?_
                refine lv_if_eq (tgt := 55) hx hb dX12_readPart_51 (by decide) (fun c8 => ?_) (fun c8 => ?_)
                · refine lv_iload_n hx hb dX12_readPart_55 rfl (lv_at hl 2 rfl) ?_
                  have hfd : q_find T (SD d) rk = none := by rw [hD]; rfl
                  refine lv_if_ge (tgt := 64) hx hb dX12_readPart_56 (by decide) (fun c2 => ?_) (fun c2 => ?_)
                  · exact absurd c2 (by decide)
                  · refine lv_bipush (v := (-3)) hx hb dX12_readPart_59 (by decide) ?_
                    refine lv_goto (tgt := 70) hx hb dX12_readPart_61 (by decide) ?_
                    refine lv_istore (lv' := [(6, .int (-3)), (4, .long (lN 1)), (2, .long (rk)), (1, .int (-3)), (0, .ref (m))]) hx hb dX12_readPart_70 hl (by decide) rfl (fun ls hl => ?_)
                    refine lv_iload hx hb dX12_readPart_72 (lv_at hl 0 rfl) ?_
                    refine lv_if_lt (tgt := 81) hx hb dX12_readPart_74 (by decide) (fun c3 => ?_) (fun c3 => ?_)
                    · have hcs : ¬ q_cast T (SD d) none 1 := cs_n
                      refine lv_iconst (v := (nI (0))) hx hb dX12_readPart_81 (by decide) ?_
                      refine lv_istore (lv' := [(7, .int (nI (0))), (6, .int (-3)), (4, .long (lN 1)), (2, .long (rk)), (1, .int (-3)), (0, .ref (m))]) hx hb dX12_readPart_82 hl (by decide) rfl (fun ls hl => ?_)
                      refine lv_iload hx hb dX12_readPart_84 (lv_at hl 0 rfl) ?_
                      refine lv_if_eq (tgt := 113) hx hb dX12_readPart_86 (by decide) (fun c4 => ?_) (fun c4 => ?_)
                      · refine lv_iconst (v := (nI (5))) hx hb dX12_readPart_113 (by decide) ?_
                        refine lv_aload_n hx hb dX12_readPart_114 rfl (lv_at hl 5 rfl) ?_
                        refine rl_get (v := .int (F 45)) hC hW fl_X12_251 hR.1 rfl dX12_readPart_115 ?_
                        refine rl_topn (y := nI (d + 1)) (hF45) ?_
                        refine lv_imul hx hb dX12_readPart_118 ?_
                        refine rl_topn (pk_mul _ _) ?_
                        refine lv_iload hx hb dX12_readPart_119 (lv_at hl 0 rfl) ?_
                        refine lv_if_eq (tgt := 129) hx hb dX12_readPart_121 (by decide) (fun c_5 => ?_) (fun c_5 => ?_)
                        · refine lv_iconst (v := (nI (0))) hx hb dX12_readPart_129 (by decide) ?_
                          refine lv_iadd hx hb dX12_readPart_130 ?_
                          refine rl_topn (nI_add _ _) ?_
                          refine lv_istore (lv' := [(8, .int (nI (((5) * (d + 1)) + (0)))), (7, .int (nI (0))), (6, .int (-3)), (4, .long (lN 1)), (2, .long (rk)), (1, .int (-3)), (0, .ref (m))]) hx hb dX12_readPart_131 hl (by decide) rfl (fun ls hl => ?_)
                          refine lv_lload hx hb dX12_readPart_133 (lv_at hl 3 rfl) ?_
                          refine lv_ldc2 (v := 2) hx hb hC.2.2.2.1 (hC.2.2.2.2.1 _ (List.mem_cons_of_mem _ mw_808)) dX12_readPart_135 ?_
                          refine W.lcmp hx hb dX12_readPart_138 ?_
                          refine rl_topn (y := -1) (by decide) ?_
                          refine lv_if_ge (tgt := 175) hx hb dX12_readPart_139 (by decide) (fun c_6 => ?_) (fun c_6 => ?_)
                          · first | exact absurd c_6 (by decide) | exact absurd (by decide) c_6
                          · refine lv_aload_n hx hb dX12_readPart_142 rfl (lv_at hl 6 rfl) ?_
                            refine rl_calllQ (rl_runV (b := m) (As := []) (rest := []) hC hW (cR_want l D t A _ z m T w ρ0 κ0 G0 (a + 1 + 1) (la2) 0 (d + 1) (ρ) (κ) G (d + 1) (d) SD SL SI ⟨_, _, _, hR, hTc, hTp, hTk, hGW, hGr, hGd, hGp, hGt, hGc, hF11, hF14, hF44, hF41, hF42, hF43, hF45, hN, hSI⟩) cs_X12_254 im_X12_want sl_X12_want hR.1 rfl ⟨(Nat.le_of_ble_eq_true rfl), (Nat.le_of_ble_eq_true rfl)⟩ rfl hl.1 rfl (Nat.le_of_ble_eq_true rfl) dX12_readPart_143 ⟨(Nat.le_of_ble_eq_true rfl), (Nat.le_of_ble_eq_true rfl)⟩) hW (fun rv f1 H locs hp hW => ?_)
                            obtain ⟨a3, la3, bd3, hlf3, hQ, hw3⟩ := hp
                            rcases hw3 with hw3 | hw3
                            · obtain ⟨-, rfl, rfl⟩ := hw3
                              obtain ⟨I, L, F, hR, hTc, hTp, hTk, hGW, hGr, hGd, hGp, hGt, hGc, hF11, hF14, hF44, hF41, hF42, hF43, hF45, hN, hSI⟩ := hQ
                              obtain ⟨hlv, hd6, hw3, hρ0, hκ0, hbd, hgl⟩ := id hN
                              have hl250 := hGW.2.2.2.2
                              refine lv_lstore (lv' := [(9, .long (rv)), (8, .int (nI (((5) * (d + 1)) + (0)))), (7, .int (nI (0))), (6, .int (-3)), (4, .long (lN 1)), (2, .long (rk)), (1, .int (-3)), (0, .ref (m))]) hx hb dX12_readPart_146 hl (by decide) rfl (fun ls hl => ?_)
                              refine lv_aload_n hx hb dX12_readPart_148 rfl (lv_at hl 7 rfl) ?_
                              refine rl_get (v := .ref (m + 22)) hC hW fl_X12_82 hR.1 rfl dX12_readPart_149 ?_
                              refine lv_iload hx hb dX12_readPart_152 (lv_at hl 1 rfl) ?_
                              refine lv_iload hx hb dX12_readPart_154 (lv_at hl 2 rfl) ?_
                              refine lv_if_eq (tgt := 164) hx hb dX12_readPart_156 (by decide) (fun c_7 => ?_) (fun c_7 => ?_)
                              · refine lv_aload_n hx hb dX12_readPart_164 rfl (lv_at hl 7 rfl) ?_
                                refine rl_get (v := .ref (m + 22)) hC hW fl_X12_82 hR.1 rfl dX12_readPart_165 ?_
                                refine lv_iload hx hb dX12_readPart_168 (lv_at hl 1 rfl) ?_
                                refine rl_lald_n (g := L 31) hC hW hR.a31 (by omega) (by decide) dX12_readPart_170 ?_
                                refine rl_last_n (g := L 31) hC hW hR.a31 (by omega) (by decide) dX12_readPart_171 (fun H locs hW => ?_)
                                have hR := hR.s31 (vp_updL (L 31) (((5) * (d + 1)) + (0)) (L 31 (((5) * (d + 1)) + (0))))
                                refine lv_goto (tgt := 386) hx hb dX12_readPart_172 (by decide) ?_
                                exact rl_vret hC hW hr hlk (Nat.le_refl _) (Nat.le_refl _) ⟨rfl, rfl, rfl, a + 1 + 1 + 1, la3, 0, d + 1, ρ, G, d + 1, d, va_up SD d (q_num (SD d) none rv), SL, SI, ⟨_, _, _, hR, hTc, hTp, hTk, hGW, hGr, hGd, hGp, hGt, hGc, hF11, hF14, hF44, hF41, hF42, hF43, hF45, hN, (fun _ => by rw [pn_n, va_up_same]; exact (hSI rfl).same rfl updL_self)⟩, by omega, fun _ => ⟨rfl, by omega, rfl, by omega, by omega, by omega, by omega⟩, Or.inl ⟨q_num (SD d) none rv, (pt_v hlf1 hlf2 rfl (by decide) hfd hcs).trans (vl_n (by decide) hlf3), fun _ => ⟨rfl, rfl, rfl, rfl⟩⟩⟩ dX12_readPart_386
                              · first | exact absurd c_7 (by decide) | exact absurd (by decide) c_7
                            · obtain ⟨hne, rfl, hr03⟩ := hw3
                              obtain ⟨I, L, F, hR, hTc, hTp, hTk, hGW, hGr, hGd, hGp, hGt, hGc, hF11, hF14, hF44, hF41, hF42, hF43, hF45, hN, hSI⟩ := hQ
                              obtain ⟨hlv, hd6, hw3, hρ0, hκ0, hbd, hgl⟩ := id hN
                              have hl250 := hGW.2.2.2.2
                              refine lv_lstore (lv' := [(9, .long (rv)), (8, .int (nI (((5) * (d + 1)) + (0)))), (7, .int (nI (0))), (6, .int (-3)), (4, .long (lN 1)), (2, .long (rk)), (1, .int (-3)), (0, .ref (m))]) hx hb dX12_readPart_146 hl (by decide) rfl (fun ls hl => ?_)
                              refine lv_aload_n hx hb dX12_readPart_148 rfl (lv_at hl 7 rfl) ?_
                              refine rl_get (v := .ref (m + 22)) hC hW fl_X12_82 hR.1 rfl dX12_readPart_149 ?_
                              refine lv_iload hx hb dX12_readPart_152 (lv_at hl 1 rfl) ?_
                              refine lv_iload hx hb dX12_readPart_154 (lv_at hl 2 rfl) ?_
                              refine lv_if_eq (tgt := 164) hx hb dX12_readPart_156 (by decide) (fun c_8 => ?_) (fun c_8 => ?_)
                              · refine lv_aload_n hx hb dX12_readPart_164 rfl (lv_at hl 7 rfl) ?_
                                refine rl_get (v := .ref (m + 22)) hC hW fl_X12_82 hR.1 rfl dX12_readPart_165 ?_
                                refine lv_iload hx hb dX12_readPart_168 (lv_at hl 1 rfl) ?_
                                refine rl_lald_n (g := L 31) hC hW hR.a31 (by omega) (by decide) dX12_readPart_170 ?_
                                refine rl_last_n (g := L 31) hC hW hR.a31 (by omega) (by decide) dX12_readPart_171 (fun H locs hW => ?_)
                                have hR := hR.s31 (vp_updL (L 31) (((5) * (d + 1)) + (0)) (L 31 (((5) * (d + 1)) + (0))))
                                refine lv_goto (tgt := 386) hx hb dX12_readPart_172 (by decide) ?_
                                exact rl_vret hC hW hr hlk (Nat.le_refl _) (Nat.le_refl _) ⟨rfl, rfl, rfl, a + 1 + 1, la3, bd3, d + 1, ρ, G, d + 1, d, SD, SL, SI, ⟨_, _, _, hR, hTc, hTp, hTk, hGW, hGr, hGd, hGp, hGt, hGc, hF11, hF14, hF44, hF41, hF42, hF43, hF45, hN, (fun q => absurd q hne)⟩, by omega, fun q => absurd q hne, Or.inl ⟨_, (pt_v hlf1 hlf2 rfl (by decide) hfd hcs).trans (vl_n (by decide) hlf3), fun q => absurd q hne⟩⟩ dX12_readPart_386
                              · first | exact absurd c_8 (by decide) | exact absurd (by decide) c_8
                        · first | exact absurd c_5 (by decide) | exact absurd (by decide) c_5
                      · first | exact absurd c4 (by decide) | exact absurd (by decide) c4
                    · exact absurd (by decide) c3
                · exact absurd rfl c8
              · exact absurd c9 (by decide)
            · refine lv_if_ne (tgt := 47) hx hb dX12_readPart_39 (by decide) (fun c9 => ?_) (fun c9 => ?_)
              · refine lv_aload_n hx hb dX12_readPart_47 rfl (lv_at hl 3 rfl) ?_
                refine rl_get (v := .int (F 43)) hC hW fl_X12_238 hR.1 rfl dX12_readPart_48 ?_
                refine rl_topn (y := nI (0)) (hF43) ?_
                refine lv_if_eq (tgt := 55) hx hb dX12_readPart_51 (by decide) (fun c8 => ?_) (fun c8 => ?_)
                · refine lv_iload_n hx hb dX12_readPart_55 rfl (lv_at hl 2 rfl) ?_
                  have hfd : q_find T (SD d) rk = none := by rw [hD]; rfl
                  refine lv_if_ge (tgt := 64) hx hb dX12_readPart_56 (by decide) (fun c2 => ?_) (fun c2 => ?_)
                  · exact absurd c2 (by decide)
                  · refine lv_bipush (v := (-3)) hx hb dX12_readPart_59 (by decide) ?_
                    refine lv_goto (tgt := 70) hx hb dX12_readPart_61 (by decide) ?_
                    refine lv_istore (lv' := [(6, .int (-3)), (4, .long (lN 2)), (2, .long (rk)), (1, .int (-3)), (0, .ref (m))]) hx hb dX12_readPart_70 hl (by decide) rfl (fun ls hl => ?_)
                    refine lv_iload hx hb dX12_readPart_72 (lv_at hl 0 rfl) ?_
                    refine lv_if_lt (tgt := 81) hx hb dX12_readPart_74 (by decide) (fun c3 => ?_) (fun c3 => ?_)
                    · have hcs : ¬ q_cast T (SD d) none 2 := cs_n
                      refine lv_iconst (v := (nI (0))) hx hb dX12_readPart_81 (by decide) ?_
                      refine lv_istore (lv' := [(7, .int (nI (0))), (6, .int (-3)), (4, .long (lN 2)), (2, .long (rk)), (1, .int (-3)), (0, .ref (m))]) hx hb dX12_readPart_82 hl (by decide) rfl (fun ls hl => ?_)
                      refine lv_iload hx hb dX12_readPart_84 (lv_at hl 0 rfl) ?_
                      refine lv_if_eq (tgt := 113) hx hb dX12_readPart_86 (by decide) (fun c4 => ?_) (fun c4 => ?_)
                      · refine lv_iconst (v := (nI (5))) hx hb dX12_readPart_113 (by decide) ?_
                        refine lv_aload_n hx hb dX12_readPart_114 rfl (lv_at hl 5 rfl) ?_
                        refine rl_get (v := .int (F 45)) hC hW fl_X12_251 hR.1 rfl dX12_readPart_115 ?_
                        refine rl_topn (y := nI (d + 1)) (hF45) ?_
                        refine lv_imul hx hb dX12_readPart_118 ?_
                        refine rl_topn (pk_mul _ _) ?_
                        refine lv_iload hx hb dX12_readPart_119 (lv_at hl 0 rfl) ?_
                        refine lv_if_eq (tgt := 129) hx hb dX12_readPart_121 (by decide) (fun c_9 => ?_) (fun c_9 => ?_)
                        · refine lv_iconst (v := (nI (0))) hx hb dX12_readPart_129 (by decide) ?_
                          refine lv_iadd hx hb dX12_readPart_130 ?_
                          refine rl_topn (nI_add _ _) ?_
                          refine lv_istore (lv' := [(8, .int (nI (((5) * (d + 1)) + (0)))), (7, .int (nI (0))), (6, .int (-3)), (4, .long (lN 2)), (2, .long (rk)), (1, .int (-3)), (0, .ref (m))]) hx hb dX12_readPart_131 hl (by decide) rfl (fun ls hl => ?_)
                          refine lv_lload hx hb dX12_readPart_133 (lv_at hl 3 rfl) ?_
                          refine lv_ldc2 (v := 2) hx hb hC.2.2.2.1 (hC.2.2.2.2.1 _ (List.mem_cons_of_mem _ mw_808)) dX12_readPart_135 ?_
                          refine W.lcmp hx hb dX12_readPart_138 ?_
                          refine rl_topn (y := 0) (by decide) ?_
                          refine lv_if_ge (tgt := 175) hx hb dX12_readPart_139 (by decide) (fun c_10 => ?_) (fun c_10 => ?_)
                          · refine lv_lload hx hb dX12_readPart_175 (lv_at hl 3 rfl) ?_
                            refine lv_ldc2 (v := 2) hx hb hC.2.2.2.1 (hC.2.2.2.2.1 _ (List.mem_cons_of_mem _ mw_808)) dX12_readPart_177 ?_
                            refine W.lcmp hx hb dX12_readPart_180 ?_
                            refine rl_topn (y := 0) (by decide) ?_
                            refine lv_if_ne (tgt := 263) hx hb dX12_readPart_181 (by decide) (fun c_11 => ?_) (fun c_11 => ?_)
                            · first | exact absurd c_11 (by decide) | exact absurd (by decide) c_11
                            · refine lv_aload_n hx hb dX12_readPart_184 rfl (lv_at hl 6 rfl) ?_
                              refine rl_calllQ (rl_runV (b := m) (As := []) (rest := []) hC hW (cR_want l D t A _ z m T w ρ0 κ0 G0 (a + 1 + 1) (la2) 0 (d + 1) (ρ) (κ) G (d + 1) (d) SD SL SI ⟨_, _, _, hR, hTc, hTp, hTk, hGW, hGr, hGd, hGp, hGt, hGc, hF11, hF14, hF44, hF41, hF42, hF43, hF45, hN, hSI⟩) cs_X12_254 im_X12_want sl_X12_want hR.1 rfl ⟨(Nat.le_of_ble_eq_true rfl), (Nat.le_of_ble_eq_true rfl)⟩ rfl hl.1 rfl (Nat.le_of_ble_eq_true rfl) dX12_readPart_185 ⟨(Nat.le_of_ble_eq_true rfl), (Nat.le_of_ble_eq_true rfl)⟩) hW (fun rv f1 H locs hp hW => ?_)
                              obtain ⟨a3, la3, bd3, hlf3, hQ, hw3⟩ := hp
                              rcases hw3 with hw3 | hw3
                              · obtain ⟨-, rfl, rfl⟩ := hw3
                                obtain ⟨I, L, F, hR, hTc, hTp, hTk, hGW, hGr, hGd, hGp, hGt, hGc, hF11, hF14, hF44, hF41, hF42, hF43, hF45, hN, hSI⟩ := hQ
                                obtain ⟨hlv, hd6, hw3, hρ0, hκ0, hbd, hgl⟩ := id hN
                                have hl250 := hGW.2.2.2.2
                                refine lv_lstore (lv' := [(9, .long (rv)), (8, .int (nI (((5) * (d + 1)) + (0)))), (7, .int (nI (0))), (6, .int (-3)), (4, .long (lN 2)), (2, .long (rk)), (1, .int (-3)), (0, .ref (m))]) hx hb dX12_readPart_188 hl (by decide) rfl (fun ls hl => ?_)
                                refine lv_iload hx hb dX12_readPart_190 (lv_at hl 2 rfl) ?_
                                refine lv_if_eq (tgt := 260) hx hb dX12_readPart_192 (by decide) (fun c_12 => ?_) (fun c_12 => ?_)
                                · refine lv_goto (tgt := 386) hx hb dX12_readPart_260 (by decide) ?_
                                  exact rl_vret hC hW hr hlk (Nat.le_refl _) (Nat.le_refl _) ⟨rfl, rfl, rfl, a + 1 + 1 + 1, la3, 0, d + 1, ρ, G, d + 1, d, va_up SD d (SD d), SL, SI, ⟨_, _, _, hR, hTc, hTp, hTk, hGW, hGr, hGd, hGp, hGt, hGc, hF11, hF14, hF44, hF41, hF42, hF43, hF45, hN, (fun _ => by rw [va_up_same]; exact hSI rfl)⟩, by omega, fun _ => ⟨rfl, by omega, rfl, by omega, by omega, by omega, by omega⟩, Or.inl ⟨SD d, (pt_v hlf1 hlf2 rfl (by decide) hfd hcs).trans ((vl_c hlf3).trans cn_0), fun _ => ⟨rfl, rfl, rfl, rfl⟩⟩⟩ dX12_readPart_386
                                · first | exact absurd c_12 (by decide) | exact absurd (by decide) c_12
                              · obtain ⟨hne, rfl, hr03⟩ := hw3
                                obtain ⟨I, L, F, hR, hTc, hTp, hTk, hGW, hGr, hGd, hGp, hGt, hGc, hF11, hF14, hF44, hF41, hF42, hF43, hF45, hN, hSI⟩ := hQ
                                obtain ⟨hlv, hd6, hw3, hρ0, hκ0, hbd, hgl⟩ := id hN
                                have hl250 := hGW.2.2.2.2
                                refine lv_lstore (lv' := [(9, .long (rv)), (8, .int (nI (((5) * (d + 1)) + (0)))), (7, .int (nI (0))), (6, .int (-3)), (4, .long (lN 2)), (2, .long (rk)), (1, .int (-3)), (0, .ref (m))]) hx hb dX12_readPart_188 hl (by decide) rfl (fun ls hl => ?_)
                                refine lv_iload hx hb dX12_readPart_190 (lv_at hl 2 rfl) ?_
                                refine lv_if_eq (tgt := 260) hx hb dX12_readPart_192 (by decide) (fun c_13 => ?_) (fun c_13 => ?_)
                                · refine lv_goto (tgt := 386) hx hb dX12_readPart_260 (by decide) ?_
                                  exact rl_vret hC hW hr hlk (Nat.le_refl _) (Nat.le_refl _) ⟨rfl, rfl, rfl, a + 1 + 1, la3, bd3, d + 1, ρ, G, d + 1, d, SD, SL, SI, ⟨_, _, _, hR, hTc, hTp, hTk, hGW, hGr, hGd, hGp, hGt, hGc, hF11, hF14, hF44, hF41, hF42, hF43, hF45, hN, (fun q => absurd q hne)⟩, by omega, fun q => absurd q hne, Or.inl ⟨_, (pt_v hlf1 hlf2 rfl (by decide) hfd hcs).trans ((vl_c hlf3).trans cn_0), fun q => absurd q hne⟩⟩ dX12_readPart_386
                                · first | exact absurd c_13 (by decide) | exact absurd (by decide) c_13
                          · first | exact absurd c_10 (by decide) | exact absurd (by decide) c_10
                        · first | exact absurd c_9 (by decide) | exact absurd (by decide) c_9
                      · first | exact absurd c4 (by decide) | exact absurd (by decide) c4
                    · exact absurd (by decide) c3
                · exact absurd rfl c8
              · exact absurd c9 (by decide)
            · refine lv_if_ne (tgt := 47) hx hb dX12_readPart_39 (by decide) (fun c9 => ?_) (fun c9 => ?_)
              · refine lv_aload_n hx hb dX12_readPart_47 rfl (lv_at hl 3 rfl) ?_
                refine rl_get (v := .int (F 43)) hC hW fl_X12_238 hR.1 rfl dX12_readPart_48 ?_
                refine rl_topn (y := nI (0)) (hF43) ?_
                refine lv_if_eq (tgt := 55) hx hb dX12_readPart_51 (by decide) (fun c8 => ?_) (fun c8 => ?_)
                · refine lv_iload_n hx hb dX12_readPart_55 rfl (lv_at hl 2 rfl) ?_
                  have hfd : q_find T (SD d) rk = none := by rw [hD]; rfl
                  refine lv_if_ge (tgt := 64) hx hb dX12_readPart_56 (by decide) (fun c2 => ?_) (fun c2 => ?_)
                  · exact absurd c2 (by decide)
                  · refine lv_bipush (v := (-3)) hx hb dX12_readPart_59 (by decide) ?_
                    refine lv_goto (tgt := 70) hx hb dX12_readPart_61 (by decide) ?_
                    refine lv_istore (lv' := [(6, .int (-3)), (4, .long (lN 3)), (2, .long (rk)), (1, .int (-3)), (0, .ref (m))]) hx hb dX12_readPart_70 hl (by decide) rfl (fun ls hl => ?_)
                    refine lv_iload hx hb dX12_readPart_72 (lv_at hl 0 rfl) ?_
                    refine lv_if_lt (tgt := 81) hx hb dX12_readPart_74 (by decide) (fun c3 => ?_) (fun c3 => ?_)
                    · have hcs : ¬ q_cast T (SD d) none 3 := cs_n
                      refine lv_iconst (v := (nI (0))) hx hb dX12_readPart_81 (by decide) ?_
                      refine lv_istore (lv' := [(7, .int (nI (0))), (6, .int (-3)), (4, .long (lN 3)), (2, .long (rk)), (1, .int (-3)), (0, .ref (m))]) hx hb dX12_readPart_82 hl (by decide) rfl (fun ls hl => ?_)
                      refine lv_iload hx hb dX12_readPart_84 (lv_at hl 0 rfl) ?_
                      refine lv_if_eq (tgt := 113) hx hb dX12_readPart_86 (by decide) (fun c4 => ?_) (fun c4 => ?_)
                      · refine lv_iconst (v := (nI (5))) hx hb dX12_readPart_113 (by decide) ?_
                        refine lv_aload_n hx hb dX12_readPart_114 rfl (lv_at hl 5 rfl) ?_
                        refine rl_get (v := .int (F 45)) hC hW fl_X12_251 hR.1 rfl dX12_readPart_115 ?_
                        refine rl_topn (y := nI (d + 1)) (hF45) ?_
                        refine lv_imul hx hb dX12_readPart_118 ?_
                        refine rl_topn (pk_mul _ _) ?_
                        refine lv_iload hx hb dX12_readPart_119 (lv_at hl 0 rfl) ?_
                        refine lv_if_eq (tgt := 129) hx hb dX12_readPart_121 (by decide) (fun c_14 => ?_) (fun c_14 => ?_)
                        · refine lv_iconst (v := (nI (0))) hx hb dX12_readPart_129 (by decide) ?_
                          refine lv_iadd hx hb dX12_readPart_130 ?_
                          refine rl_topn (nI_add _ _) ?_
                          refine lv_istore (lv' := [(8, .int (nI (((5) * (d + 1)) + (0)))), (7, .int (nI (0))), (6, .int (-3)), (4, .long (lN 3)), (2, .long (rk)), (1, .int (-3)), (0, .ref (m))]) hx hb dX12_readPart_131 hl (by decide) rfl (fun ls hl => ?_)
                          refine lv_lload hx hb dX12_readPart_133 (lv_at hl 3 rfl) ?_
                          refine lv_ldc2 (v := 2) hx hb hC.2.2.2.1 (hC.2.2.2.2.1 _ (List.mem_cons_of_mem _ mw_808)) dX12_readPart_135 ?_
                          refine W.lcmp hx hb dX12_readPart_138 ?_
                          refine rl_topn (y := 1) (by decide) ?_
                          refine lv_if_ge (tgt := 175) hx hb dX12_readPart_139 (by decide) (fun c_15 => ?_) (fun c_15 => ?_)
                          · refine lv_lload hx hb dX12_readPart_175 (lv_at hl 3 rfl) ?_
                            refine lv_ldc2 (v := 2) hx hb hC.2.2.2.1 (hC.2.2.2.2.1 _ (List.mem_cons_of_mem _ mw_808)) dX12_readPart_177 ?_
                            refine W.lcmp hx hb dX12_readPart_180 ?_
                            refine rl_topn (y := 1) (by decide) ?_
                            refine lv_if_ne (tgt := 263) hx hb dX12_readPart_181 (by decide) (fun c_16 => ?_) (fun c_16 => ?_)
                            · refine lv_lload hx hb dX12_readPart_263 (lv_at hl 3 rfl) ?_
                              refine lv_ldc2 (v := 4) hx hb hC.2.2.2.1 (hC.2.2.2.2.1 _ (List.mem_cons_of_mem _ mw_822)) dX12_readPart_265 ?_
                              refine W.lcmp hx hb dX12_readPart_268 ?_
                              refine rl_topn (y := -1) (by decide) ?_
                              refine lv_if_ne (tgt := 307) hx hb dX12_readPart_269 (by decide) (fun c_17 => ?_) (fun c_17 => ?_)
                              · refine lv_aload_n hx hb dX12_readPart_307 rfl (lv_at hl 6 rfl) ?_
                                refine rl_calllQ (rl_runV (b := m) (As := []) (rest := []) hC hW (cR_want l D t A _ z m T w ρ0 κ0 G0 (a + 1 + 1) (la2) 0 (d + 1) (ρ) (κ) G (d + 1) (d) SD SL SI ⟨_, _, _, hR, hTc, hTp, hTk, hGW, hGr, hGd, hGp, hGt, hGc, hF11, hF14, hF44, hF41, hF42, hF43, hF45, hN, hSI⟩) cs_X12_254 im_X12_want sl_X12_want hR.1 rfl ⟨(Nat.le_of_ble_eq_true rfl), (Nat.le_of_ble_eq_true rfl)⟩ rfl hl.1 rfl (Nat.le_of_ble_eq_true rfl) dX12_readPart_308 ⟨(Nat.le_of_ble_eq_true rfl), (Nat.le_of_ble_eq_true rfl)⟩) hW (fun rv f1 H locs hp hW => ?_)
                                obtain ⟨a3, la3, bd3, hlf3, hQ, hw3⟩ := hp
                                rcases hw3 with hw3 | hw3
                                · obtain ⟨-, rfl, rfl⟩ := hw3
                                  obtain ⟨I, L, F, hR, hTc, hTp, hTk, hGW, hGr, hGd, hGp, hGt, hGc, hF11, hF14, hF44, hF41, hF42, hF43, hF45, hN, hSI⟩ := hQ
                                  obtain ⟨hlv, hd6, hw3, hρ0, hκ0, hbd, hgl⟩ := id hN
                                  have hl250 := hGW.2.2.2.2
                                  refine lv_lstore (lv' := [(9, .long (rv)), (8, .int (nI (((5) * (d + 1)) + (0)))), (7, .int (nI (0))), (6, .int (-3)), (4, .long (lN 3)), (2, .long (rk)), (1, .int (-3)), (0, .ref (m))]) hx hb dX12_readPart_311 hl (by decide) rfl (fun ls hl => ?_)
                                  refine lv_aload_n hx hb dX12_readPart_313 rfl (lv_at hl 7 rfl) ?_
                                  refine rl_get (v := .ref (m + 23)) hC hW fl_X12_85 hR.1 rfl dX12_readPart_314 ?_
                                  refine lv_iload hx hb dX12_readPart_317 (lv_at hl 1 rfl) ?_
                                  refine lv_iload hx hb dX12_readPart_319 (lv_at hl 2 rfl) ?_
                                  refine lv_if_eq (tgt := 335) hx hb dX12_readPart_321 (by decide) (fun c10 => ?_) (fun c10 => ?_)
                                  · refine lv_aload_n hx hb dX12_readPart_335 rfl (lv_at hl 7 rfl) ?_
                                    refine rl_get (v := .ref (m + 23)) hC hW fl_X12_85 hR.1 rfl dX12_readPart_336 ?_
                                    refine lv_iload hx hb dX12_readPart_339 (lv_at hl 1 rfl) ?_
                                    refine rl_iald_n (g := I 32) hC hW hR.a32 (by omega) (by decide) dX12_readPart_341 ?_
                                    refine rl_iast_n (g := I 32) hC hW hR.a32 (by omega) (by decide) dX12_readPart_342 (fun H locs hW => ?_)
                                    have hR := hR.s32 (upd (I 32) (((5) * (d + 1)) + (0)) ((I 32 (((5) * (d + 1)) + (0)))))
                                    refine lv_aload_n hx hb dX12_readPart_343 rfl (lv_at hl 7 rfl) ?_
                                    refine rl_get (v := .int (F 43)) hC hW fl_X12_238 hR.1 rfl dX12_readPart_344 ?_
                                    refine rl_topn (y := nI (0)) (hF43) ?_
                                    refine lv_if_ne (tgt := 386) hx hb dX12_readPart_347 (by decide) (fun c5 => ?_) (fun c5 => ?_)
                                    · exact absurd rfl c5
                                    · refine lv_lload hx hb dX12_readPart_350 (lv_at hl 0 rfl) ?_
                                      refine lv_lconst (v := 0) hx hb dX12_readPart_352 (by decide) ?_
                                      refine W.lcmp hx hb dX12_readPart_353 ?_
                                      refine lv_if_eq (tgt := 386) hx hb dX12_readPart_354 (by decide) (fun c6 => ?_) (fun c6 => ?_)
                                      · have hv0 : rv = 0 := (lg_cmp_eq _ _).mp c6
                                        exact rl_vret hC hW hr hlk (Nat.le_refl _) (Nat.le_refl _) ⟨rfl, rfl, rfl, a + 1 + 1 + 1, la3, 0, d + 1, ρ, G, d + 1, d, va_up SD d (q_put (SD d) none none), SL, SI, ⟨_, _, _, hR, hTc, hTp, hTk, hGW, hGr, hGd, hGp, hGt, hGc, hF11, hF14, hF44, hF41, hF42, hF43, hF45, hN, (fun _ => by rw [pn_p, va_up_same]; exact (hSI rfl).same upd_self rfl)⟩, by omega, fun _ => ⟨rfl, by omega, rfl, by omega, by omega, by omega, by omega⟩, Or.inl ⟨q_put (SD d) none none, (pt_v hlf1 hlf2 rfl (by decide) hfd hcs).trans ((vl_i hlf3).trans (in_0 hv0)), fun _ => ⟨rfl, rfl, rfl, rfl⟩⟩⟩ dX12_readPart_386
                                      · have hv0 : rv ≠ 0 := fun q => c6 ((lg_cmp_eq _ _).mpr q)
                                        refine lv_aload_n hx hb dX12_readPart_357 rfl (lv_at hl 7 rfl) ?_
                                        refine rl_get (v := .ref (m + 32)) hC hW fl_X12_112 hR.1 rfl dX12_readPart_358 ?_
                                        refine lv_aload_n hx hb dX12_readPart_361 rfl (lv_at hl 7 rfl) ?_
                                        refine rl_get (v := .int (F 45)) hC hW fl_X12_251 hR.1 rfl dX12_readPart_362 ?_
                                        refine rl_topn (y := nI (d + 1)) (hF45) ?_
                                        refine lv_iconst (v := (nI (1))) hx hb dX12_readPart_365 (by decide) ?_
                                        refine lv_isub hx hb dX12_readPart_366 ?_
                                        refine rl_topn (rg_sub (c := d) (by omega)) ?_
                                        refine lv_iload hx hb dX12_readPart_367 (lv_at hl 2 rfl) ?_
                                        refine lv_if_eq (tgt := 377) hx hb dX12_readPart_369 (by decide) (fun c7 => ?_) (fun c7 => ?_)
                                        · refine lv_bipush (v := (-3)) hx hb dX12_readPart_377 (by decide) ?_
                                          refine rl_iast_n (g := I 48) hC hW hR.a48 (by omega) (by decide) dX12_readPart_379 (fun H locs hW => ?_)
                                          have hR := hR.s48 (upd (I 48) (d) ((-3)))
                                          refine lv_aload_n hx hb dX12_readPart_380 rfl (lv_at hl 7 rfl) ?_
                                          refine lv_iload hx hb dX12_readPart_381 (lv_at hl 2 rfl) ?_
                                          refine rl_callvQ (rl_runV (b := m) (As := [.int (nI (0))]) (rest := []) hC hW (cR_beginRecord l D t A _ z m T w ρ0 κ0 G0 (a + 1 + 1 + 1) la3 (d + 1) ρ κ G SD SL (va_up SI d none) ⟨_, _, _, hR, hTc, hTp, hTk, hGW, hGr, hGd, hGp, hGt, hGc, hF11, hF14, hF44, hF41, hF42, hF43, hF45, hN, (fun q => ((hSI rfl).same upd_self rfl).inner (Or.inl ⟨rfl, rfl⟩))⟩ 0 false (Or.inl ⟨rfl, rfl⟩)) cs_X12_265 im_X12_beginRecord sl_X12_beginRecord hR.1 rfl ⟨(Nat.le_of_ble_eq_true rfl), (Nat.le_of_ble_eq_true rfl)⟩ rfl hl.1 rfl (Nat.le_of_ble_eq_true rfl) dX12_readPart_383 ⟨(Nat.le_of_ble_eq_true rfl), (Nat.le_of_ble_eq_true rfl)⟩) hW (fun f1 H locs hp hW => ?_)
                                          obtain ⟨a5, la5, bd5, d5, e5, SD5, SL5, hQ, hbe⟩ := hp
                                          rcases hbe with ⟨hne, hre⟩ | ⟨rfl, hd6x, rfl, rfl, rfl, kd, n2, rfl, rfl, hre⟩
                                          · exact rl_vret hC hW hr hlk (Nat.le_refl _) (Nat.le_refl _) ⟨rfl, rfl, rfl, a5, la5, bd5, d5, ρ, G, e5, d + 1, SD5, SL5, _, hQ, by omega, fun q => absurd q hne, Or.inl ⟨_, (pt_v hlf1 hlf2 rfl (by decide) hfd hcs).trans ((vl_i hlf3).trans ((in_s (b := false) hv0 rfl).trans (by rw [hre]))), fun q => absurd q hne⟩⟩ dX12_readPart_386
                                          · exact rl_vret hC hW hr hlk (Nat.le_refl _) (Nat.le_refl _) ⟨rfl, rfl, rfl, a + 1 + 1 + 1 + 1 + 1, la5, 0, d + 1 + 1, ρ, G, d + 1 + 1, d + 1, _, _, _, hQ, by omega, fun q => ⟨rfl, by omega, rfl, by omega, by omega, by omega, by omega⟩, Or.inr ⟨rfl, rfl, none, false, kd, n2, _, (pt_v hlf1 hlf2 rfl (by decide) hfd hcs).trans ((vl_i hlf3).trans (in_s (b := false) hv0 rfl)), hre, rfl, rfl, rfl⟩⟩ dX12_readPart_386
                                        · first | exact absurd c7 (by decide) | exact absurd (by decide) c7
                                  · first | exact absurd c10 (by decide) | exact absurd (by decide) c10
                                · obtain ⟨hne, rfl, hr03⟩ := hw3
                                  obtain ⟨I, L, F, hR, hTc, hTp, hTk, hGW, hGr, hGd, hGp, hGt, hGc, hF11, hF14, hF44, hF41, hF42, hF43, hF45, hN, hSI⟩ := hQ
                                  obtain ⟨hlv, hd6, hw3, hρ0, hκ0, hbd, hgl⟩ := id hN
                                  have hl250 := hGW.2.2.2.2
                                  refine lv_lstore (lv' := [(9, .long (rv)), (8, .int (nI (((5) * (d + 1)) + (0)))), (7, .int (nI (0))), (6, .int (-3)), (4, .long (lN 3)), (2, .long (rk)), (1, .int (-3)), (0, .ref (m))]) hx hb dX12_readPart_311 hl (by decide) rfl (fun ls hl => ?_)
                                  refine lv_aload_n hx hb dX12_readPart_313 rfl (lv_at hl 7 rfl) ?_
                                  refine rl_get (v := .ref (m + 23)) hC hW fl_X12_85 hR.1 rfl dX12_readPart_314 ?_
                                  refine lv_iload hx hb dX12_readPart_317 (lv_at hl 1 rfl) ?_
                                  refine lv_iload hx hb dX12_readPart_319 (lv_at hl 2 rfl) ?_
                                  refine lv_if_eq (tgt := 335) hx hb dX12_readPart_321 (by decide) (fun c_18 => ?_) (fun c_18 => ?_)
                                  · refine lv_aload_n hx hb dX12_readPart_335 rfl (lv_at hl 7 rfl) ?_
                                    refine rl_get (v := .ref (m + 23)) hC hW fl_X12_85 hR.1 rfl dX12_readPart_336 ?_
                                    refine lv_iload hx hb dX12_readPart_339 (lv_at hl 1 rfl) ?_
                                    refine rl_iald_n (g := I 32) hC hW hR.a32 (by omega) (by decide) dX12_readPart_341 ?_
                                    refine rl_iast_n (g := I 32) hC hW hR.a32 (by omega) (by decide) dX12_readPart_342 (fun H locs hW => ?_)
                                    have hR := hR.s32 (upd (I 32) (((5) * (d + 1)) + (0)) ((I 32 (((5) * (d + 1)) + (0)))))
                                    refine lv_aload_n hx hb dX12_readPart_343 rfl (lv_at hl 7 rfl) ?_
                                    refine rl_get (v := .int (F 43)) hC hW fl_X12_238 hR.1 rfl dX12_readPart_344 ?_
                                    refine rl_topn (y := nI (bd3)) (hF43) ?_
                                    refine lv_if_ne (tgt := 386) hx hb dX12_readPart_347 (by decide) (fun c_19 => ?_) (fun c_19 => ?_)
                                    · exact rl_vret hC hW hr hlk (Nat.le_refl _) (Nat.le_refl _) ⟨rfl, rfl, rfl, a + 1 + 1, la3, bd3, d + 1, ρ, G, d + 1, d, SD, SL, SI, ⟨_, _, _, hR, hTc, hTp, hTk, hGW, hGr, hGd, hGp, hGt, hGc, hF11, hF14, hF44, hF41, hF42, hF43, hF45, hN, (fun q => absurd q hne)⟩, by omega, fun q => absurd q hne, Or.inl ⟨_, (pt_v hlf1 hlf2 rfl (by decide) hfd hcs).trans ((vl_i hlf3).trans (in_0 hr03)), fun q => absurd q hne⟩⟩ dX12_readPart_386
                                    · exact absurd ((nI_eq (by omega) (by decide)).mp c_19) hne
                                  · first | exact absurd c_18 (by decide) | exact absurd (by decide) c_18
                              · first | exact absurd c_17 (by decide) | exact absurd (by decide) c_17
                            · first | exact absurd c_16 (by decide) | exact absurd (by decide) c_16
                          · first | exact absurd c_15 (by decide) | exact absurd (by decide) c_15
                        · first | exact absurd c_14 (by decide) | exact absurd (by decide) c_14
                      · first | exact absurd c4 (by decide) | exact absurd (by decide) c4
                    · exact absurd (by decide) c3
                · exact absurd rfl c8
              · exact absurd c9 (by decide)
            · refine lv_if_ne (tgt := 47) hx hb dX12_readPart_39 (by decide) (fun c9 => ?_) (fun c9 => ?_)
              · refine lv_aload_n hx hb dX12_readPart_47 rfl (lv_at hl 3 rfl) ?_
                refine rl_get (v := .int (F 43)) hC hW fl_X12_238 hR.1 rfl dX12_readPart_48 ?_
                refine rl_topn (y := nI (0)) (hF43) ?_
                refine lv_if_eq (tgt := 55) hx hb dX12_readPart_51 (by decide) (fun c8 => ?_) (fun c8 => ?_)
                · refine lv_iload_n hx hb dX12_readPart_55 rfl (lv_at hl 2 rfl) ?_
                  have hfd : q_find T (SD d) rk = none := by rw [hD]; rfl
                  refine lv_if_ge (tgt := 64) hx hb dX12_readPart_56 (by decide) (fun c2 => ?_) (fun c2 => ?_)
                  · exact absurd c2 (by decide)
                  · refine lv_bipush (v := (-3)) hx hb dX12_readPart_59 (by decide) ?_
                    refine lv_goto (tgt := 70) hx hb dX12_readPart_61 (by decide) ?_
                    refine lv_istore (lv' := [(6, .int (-3)), (4, .long (lN 4)), (2, .long (rk)), (1, .int (-3)), (0, .ref (m))]) hx hb dX12_readPart_70 hl (by decide) rfl (fun ls hl => ?_)
                    refine lv_iload hx hb dX12_readPart_72 (lv_at hl 0 rfl) ?_
                    refine lv_if_lt (tgt := 81) hx hb dX12_readPart_74 (by decide) (fun c3 => ?_) (fun c3 => ?_)
                    · have hcs : ¬ q_cast T (SD d) none 4 := cs_n
                      refine lv_iconst (v := (nI (0))) hx hb dX12_readPart_81 (by decide) ?_
                      refine lv_istore (lv' := [(7, .int (nI (0))), (6, .int (-3)), (4, .long (lN 4)), (2, .long (rk)), (1, .int (-3)), (0, .ref (m))]) hx hb dX12_readPart_82 hl (by decide) rfl (fun ls hl => ?_)
                      refine lv_iload hx hb dX12_readPart_84 (lv_at hl 0 rfl) ?_
                      refine lv_if_eq (tgt := 113) hx hb dX12_readPart_86 (by decide) (fun c4 => ?_) (fun c4 => ?_)
                      · refine lv_iconst (v := (nI (5))) hx hb dX12_readPart_113 (by decide) ?_
                        refine lv_aload_n hx hb dX12_readPart_114 rfl (lv_at hl 5 rfl) ?_
                        refine rl_get (v := .int (F 45)) hC hW fl_X12_251 hR.1 rfl dX12_readPart_115 ?_
                        refine rl_topn (y := nI (d + 1)) (hF45) ?_
                        refine lv_imul hx hb dX12_readPart_118 ?_
                        refine rl_topn (pk_mul _ _) ?_
                        refine lv_iload hx hb dX12_readPart_119 (lv_at hl 0 rfl) ?_
                        refine lv_if_eq (tgt := 129) hx hb dX12_readPart_121 (by decide) (fun c_20 => ?_) (fun c_20 => ?_)
                        · refine lv_iconst (v := (nI (0))) hx hb dX12_readPart_129 (by decide) ?_
                          refine lv_iadd hx hb dX12_readPart_130 ?_
                          refine rl_topn (nI_add _ _) ?_
                          refine lv_istore (lv' := [(8, .int (nI (((5) * (d + 1)) + (0)))), (7, .int (nI (0))), (6, .int (-3)), (4, .long (lN 4)), (2, .long (rk)), (1, .int (-3)), (0, .ref (m))]) hx hb dX12_readPart_131 hl (by decide) rfl (fun ls hl => ?_)
                          refine lv_lload hx hb dX12_readPart_133 (lv_at hl 3 rfl) ?_
                          refine lv_ldc2 (v := 2) hx hb hC.2.2.2.1 (hC.2.2.2.2.1 _ (List.mem_cons_of_mem _ mw_808)) dX12_readPart_135 ?_
                          refine W.lcmp hx hb dX12_readPart_138 ?_
                          refine rl_topn (y := 1) (by decide) ?_
                          refine lv_if_ge (tgt := 175) hx hb dX12_readPart_139 (by decide) (fun c_21 => ?_) (fun c_21 => ?_)
                          · refine lv_lload hx hb dX12_readPart_175 (lv_at hl 3 rfl) ?_
                            refine lv_ldc2 (v := 2) hx hb hC.2.2.2.1 (hC.2.2.2.2.1 _ (List.mem_cons_of_mem _ mw_808)) dX12_readPart_177 ?_
                            refine W.lcmp hx hb dX12_readPart_180 ?_
                            refine rl_topn (y := 1) (by decide) ?_
                            refine lv_if_ne (tgt := 263) hx hb dX12_readPart_181 (by decide) (fun c_22 => ?_) (fun c_22 => ?_)
                            · refine lv_lload hx hb dX12_readPart_263 (lv_at hl 3 rfl) ?_
                              refine lv_ldc2 (v := 4) hx hb hC.2.2.2.1 (hC.2.2.2.2.1 _ (List.mem_cons_of_mem _ mw_822)) dX12_readPart_265 ?_
                              refine W.lcmp hx hb dX12_readPart_268 ?_
                              refine rl_topn (y := 0) (by decide) ?_
                              refine lv_if_ne (tgt := 307) hx hb dX12_readPart_269 (by decide) (fun c_23 => ?_) (fun c_23 => ?_)
                              · first | exact absurd c_23 (by decide) | exact absurd (by decide) c_23
                              · refine lv_aload_n hx hb dX12_readPart_272 rfl (lv_at hl 6 rfl) ?_
                                refine lv_iload hx hb dX12_readPart_273 (lv_at hl 1 rfl) ?_
                                refine rl_calliQ (rl_runV (b := m) (As := [.int (nI (0))]) (rest := []) hC hW (cR_readRow l D t A _ z m T w ρ0 κ0 G0 (a + 1 + 1) la2 (d + 1) ρ κ G (d + 1) d SD SL SI ⟨_, _, _, hR, hTc, hTp, hTk, hGW, hGr, hGd, hGp, hGt, hGc, hF11, hF14, hF44, hF41, hF42, hF43, hF45, hN, hSI⟩ hB (by omega) 0 false (Or.inl ⟨rfl, rfl⟩)) cs_X12_261 im_X12_readRow sl_X12_readRow hR.1 rfl ⟨(Nat.le_of_ble_eq_true rfl), (Nat.le_of_ble_eq_true rfl)⟩ rfl hl.1 rfl (Nat.le_of_ble_eq_true rfl) dX12_readPart_275 ⟨(Nat.le_of_ble_eq_true rfl), (Nat.le_of_ble_eq_true rfl)⟩) hW (fun r f1 H locs hp hW => ?_)
                                obtain ⟨a3, la3, bd3, ρ3, G3, h3, hrw, hQ, hρρ, rfl, hok3, hpo⟩ := hp
                                obtain ⟨I, L, F, hR, hTc, hTp, hTk, hGW, hGr, hGd, hGp, hGt, hGc, hF11, hF14, hF44, hF41, hF42, hF43, hF45, hN, hSI⟩ := hQ
                                obtain ⟨hlv, hd6, hw3, hρ0, hκ0, hbd, hgl⟩ := id hN
                                have hl250 := hGW.2.2.2.2
                                refine lv_istore (lv' := [(9, .int (enc h3)), (8, .int (nI (((5) * (d + 1)) + (0)))), (7, .int (nI (0))), (6, .int (-3)), (4, .long (lN 4)), (2, .long (rk)), (1, .int (-3)), (0, .ref (m))]) hx hb dX12_readPart_278 hl (by decide) rfl (fun ls hl => ?_)
                                refine lv_aload_n hx hb dX12_readPart_280 rfl (lv_at hl 7 rfl) ?_
                                refine rl_get (v := .ref (m + 23)) hC hW fl_X12_85 hR.1 rfl dX12_readPart_281 ?_
                                refine lv_iload hx hb dX12_readPart_284 (lv_at hl 1 rfl) ?_
                                refine lv_iload hx hb dX12_readPart_286 (lv_at hl 2 rfl) ?_
                                refine lv_if_eq (tgt := 296) hx hb dX12_readPart_288 (by decide) (fun c_24 => ?_) (fun c_24 => ?_)
                                · refine lv_aload_n hx hb dX12_readPart_296 rfl (lv_at hl 7 rfl) ?_
                                  refine rl_get (v := .ref (m + 23)) hC hW fl_X12_85 hR.1 rfl dX12_readPart_297 ?_
                                  refine lv_iload hx hb dX12_readPart_300 (lv_at hl 1 rfl) ?_
                                  refine rl_iald_n (g := I 32) hC hW hR.a32 (by omega) (by decide) dX12_readPart_302 ?_
                                  refine rl_iast_n (g := I 32) hC hW hR.a32 (by omega) (by decide) dX12_readPart_303 (fun H locs hW => ?_)
                                  have hR := hR.s32 (upd (I 32) (((5) * (d + 1)) + (0)) ((I 32 (((5) * (d + 1)) + (0)))))
                                  refine lv_goto (tgt := 386) hx hb dX12_readPart_304 (by decide) ?_
                                  exact rl_vret hC hW hr hlk (Nat.le_refl _) (Nat.le_refl _) ⟨rfl, rfl, rfl, a3, la3, bd3, d + 1, ρ3, G3, d + 1, d, va_up SD d (q_put (SD d) none h3), SL, SI, ⟨_, _, _, hR, hTc, hTp, hTk, hGW, hGr, hGd, hGp, hGt, hGc, hF11, hF14, hF44, hF41, hF42, hF43, hF45, hN, (fun q => by rw [pn_p, va_up_same]; exact (hSI q).same upd_self rfl)⟩, by omega, fun q => ⟨rfl, by omega, rfl, by have := hpo q; omega, (hpo q).1, by have := hpo q; omega, by omega⟩, Or.inl ⟨q_put (SD d) none h3, (pt_v hlf1 hlf2 rfl (by decide) hfd hcs).trans ((vl_r (b := false) rfl).trans (by rw [hrw])), fun _ => ⟨rfl, rfl, rfl, rfl⟩⟩⟩ dX12_readPart_386
                                · first | exact absurd c_24 (by decide) | exact absurd (by decide) c_24
                            · first | exact absurd c_22 (by decide) | exact absurd (by decide) c_22
                          · first | exact absurd c_21 (by decide) | exact absurd (by decide) c_21
                        · first | exact absurd c_20 (by decide) | exact absurd (by decide) c_20
                      · first | exact absurd c4 (by decide) | exact absurd (by decide) c4
                    · exact absurd (by decide) c3
                · exact absurd rfl c8
              · exact absurd c9 (by decide)
          · refine lv_if_ne (tgt := 47) hx hb dX12_readPart_39 (by decide) (fun c9 => ?_) (fun c9 => ?_)
            · exact absurd rfl c9
            · refine lv_aload_n hx hb dX12_readPart_42 rfl (lv_at hl 3 rfl) ?_
              refine lv_iconst (v := (nI (2))) hx hb dX12_readPart_43 (by decide) ?_
              refine rl_callvQ (rl_runV (b := m) (As := [.int (nI (2))]) (rest := []) hC hW (cR_fails l D t A _ z m T w ρ0 κ0 G0 (a + 1 + 1) (la2) 0 (d + 1) (ρ) (κ) G (d + 1) (d) SD SL SI ⟨_, _, _, hR, hTc, hTp, hTk, hGW, hGr, hGd, hGp, hGt, hGc, hF11, hF14, hF44, hF41, hF42, hF43, hF45, hN, hSI⟩ 2 (by decide) (by decide)) cs_X12_247 im_X12_fails sl_X12_fails hR.1 rfl ⟨(Nat.le_of_ble_eq_true rfl), (Nat.le_of_ble_eq_true rfl)⟩ rfl hl.1 rfl (Nat.le_of_ble_eq_true rfl) dX12_readPart_44 ⟨(Nat.le_of_ble_eq_true rfl), (Nat.le_of_ble_eq_true rfl)⟩) hW (fun f1 H locs hp hW => ?_)
              obtain ⟨bd4, hfe4, hne, hQ⟩ := hp
              obtain ⟨I, L, F, hR, hTc, hTp, hTk, hGW, hGr, hGd, hGp, hGt, hGc, hF11, hF14, hF44, hF41, hF42, hF43, hF45, hN, hSI⟩ := hQ
              obtain ⟨hlv, hd6, hw3, hρ0, hκ0, hbd, hgl⟩ := id hN
              have hl250 := hGW.2.2.2.2
              refine lv_aload_n hx hb dX12_readPart_47 rfl (lv_at hl 3 rfl) ?_
              refine rl_get (v := .int (F 43)) hC hW fl_X12_238 hR.1 rfl dX12_readPart_48 ?_
              refine rl_topn (y := nI (bd4)) (hF43) ?_
              refine lv_if_eq (tgt := 55) hx hb dX12_readPart_51 (by decide) (fun c_25 => ?_) (fun c_25 => ?_)
              · exact absurd ((nI_eq (by omega) (by decide)).mp c_25) hne
              · exact rl_vret hC hW hr hlk (Nat.le_refl _) (Nat.le_refl _) ⟨rfl, rfl, rfl, a + 1 + 1, la2, bd4, d + 1, ρ, G, d + 1, d, SD, SL, SI, ⟨_, _, _, hR, hTc, hTp, hTk, hGW, hGr, hGd, hGp, hGt, hGc, hF11, hF14, hF44, hF41, hF42, hF43, hF45, hN, (fun q => absurd q hne)⟩, by omega, fun q => absurd q hne, Or.inl ⟨_, (pt_o hlf1 hlf2 rfl hp).trans (by rw [hfe4]), fun q => absurd q hne⟩⟩ dX12_readPart_54
      · obtain ⟨hne, rfl, hr02⟩ := hw2
        obtain ⟨I, L, F, hR, hTc, hTp, hTk, hGW, hGr, hGd, hGp, hGt, hGc, hF11, hF14, hF44, hF41, hF42, hF43, hF45, hN, hSI⟩ := hQ
        obtain ⟨hlv, hd6, hw3, hρ0, hκ0, hbd, hgl⟩ := id hN
        have hl250 := hGW.2.2.2.2
        refine lv_lstore (lv' := [(4, .long (rs)), (2, .long (rk)), (1, .int (-3)), (0, .ref (m))]) hx hb dX12_readPart_21 hl (by decide) rfl (fun ls hl => ?_)
        refine lv_aload_n hx hb dX12_readPart_23 rfl (lv_at hl 3 rfl) ?_
        refine rl_get (v := .int (F 43)) hC hW fl_X12_238 hR.1 rfl dX12_readPart_24 ?_
        refine rl_topn (y := nI (bd2)) (hF43) ?_
        refine lv_if_ne (tgt := 47) hx hb dX12_readPart_27 (by decide) (fun c_26 => ?_) (fun c_26 => ?_)
        · refine lv_aload_n hx hb dX12_readPart_47 rfl (lv_at hl 3 rfl) ?_
          refine rl_get (v := .int (F 43)) hC hW fl_X12_238 hR.1 rfl dX12_readPart_48 ?_
          refine rl_topn (y := nI (bd2)) (hF43) ?_
          refine lv_if_eq (tgt := 55) hx hb dX12_readPart_51 (by decide) (fun c_27 => ?_) (fun c_27 => ?_)
          · exact absurd ((nI_eq (by omega) (by decide)).mp c_27) hne
          · exact rl_vret hC hW hr hlk (Nat.le_refl _) (Nat.le_refl _) ⟨rfl, rfl, rfl, a + 1, la2, bd2, d + 1, ρ, G, d + 1, d, SD, SL, SI, ⟨_, _, _, hR, hTc, hTp, hTk, hGW, hGr, hGd, hGp, hGt, hGc, hF11, hF14, hF44, hF41, hF42, hF43, hF45, hN, (fun q => absurd q hne)⟩, by omega, fun q => absurd q hne, Or.inl ⟨_, pt_2 hlf1 hlf2 hne, fun q => absurd q hne⟩⟩ dX12_readPart_54
        · exact absurd ((nI_eq (by omega) (by decide)).mp c_26) hne
    · obtain ⟨hne, rfl, hr01⟩ := hw1
      obtain ⟨I, L, F, hR, hTc, hTp, hTk, hGW, hGr, hGd, hGp, hGt, hGc, hF11, hF14, hF44, hF41, hF42, hF43, hF45, hN, hSI⟩ := hQ
      obtain ⟨hlv, hd6, hw3, hρ0, hκ0, hbd, hgl⟩ := id hN
      have hl250 := hGW.2.2.2.2
      refine lv_lstore_n (lv' := [(2, .long (rk)), (1, .int (-3)), (0, .ref (m))]) hx hb dX12_readPart_16 rfl hl (by decide) rfl (fun ls hl => ?_)
      refine lv_aload_n hx hb dX12_readPart_17 rfl (lv_at hl 2 rfl) ?_
      refine rl_calllQ (rl_runV (b := m) (As := []) (rest := []) hC hW (cR_want l D t A _ z m T w ρ0 κ0 G0 (a) (la1) bd1 (d + 1) (ρ) (κ) G (d + 1) (d) SD SL SI ⟨_, _, _, hR, hTc, hTp, hTk, hGW, hGr, hGd, hGp, hGt, hGc, hF11, hF14, hF44, hF41, hF42, hF43, hF45, hN, hSI⟩) cs_X12_254 im_X12_want sl_X12_want hR.1 rfl ⟨(Nat.le_of_ble_eq_true rfl), (Nat.le_of_ble_eq_true rfl)⟩ rfl hl.1 rfl (Nat.le_of_ble_eq_true rfl) dX12_readPart_18 ⟨(Nat.le_of_ble_eq_true rfl), (Nat.le_of_ble_eq_true rfl)⟩) hW (fun rs f1 H locs hp hW => ?_)
      obtain ⟨a2, la2, bd2, hlf2, hQ, hw2⟩ := hp
      obtain ⟨er2, ea2, el2, eb2⟩ := lf_i hne hlf2
      subst ea2 el2 eb2
      obtain ⟨I, L, F, hR, hTc, hTp, hTk, hGW, hGr, hGd, hGp, hGt, hGc, hF11, hF14, hF44, hF41, hF42, hF43, hF45, hN, hSI⟩ := hQ
      obtain ⟨hlv, hd6, hw3, hρ0, hκ0, hbd, hgl⟩ := id hN
      have hl250 := hGW.2.2.2.2
      refine lv_lstore (lv' := [(4, .long (rs)), (2, .long (rk)), (1, .int (-3)), (0, .ref (m))]) hx hb dX12_readPart_21 hl (by decide) rfl (fun ls hl => ?_)
      refine lv_aload_n hx hb dX12_readPart_23 rfl (lv_at hl 3 rfl) ?_
      refine rl_get (v := .int (F 43)) hC hW fl_X12_238 hR.1 rfl dX12_readPart_24 ?_
      refine rl_topn (y := nI (bd1)) (hF43) ?_
      refine lv_if_ne (tgt := 47) hx hb dX12_readPart_27 (by decide) (fun c_28 => ?_) (fun c_28 => ?_)
      · refine lv_aload_n hx hb dX12_readPart_47 rfl (lv_at hl 3 rfl) ?_
        refine rl_get (v := .int (F 43)) hC hW fl_X12_238 hR.1 rfl dX12_readPart_48 ?_
        refine rl_topn (y := nI (bd1)) (hF43) ?_
        refine lv_if_eq (tgt := 55) hx hb dX12_readPart_51 (by decide) (fun c_29 => ?_) (fun c_29 => ?_)
        · exact absurd ((nI_eq (by omega) (by decide)).mp c_29) hne
        · exact rl_vret hC hW hr hlk (Nat.le_refl _) (Nat.le_refl _) ⟨rfl, rfl, rfl, a, la1, bd1, d + 1, ρ, G, d + 1, d, SD, SL, SI, ⟨_, _, _, hR, hTc, hTp, hTk, hGW, hGr, hGd, hGp, hGt, hGc, hF11, hF14, hF44, hF41, hF42, hF43, hF45, hN, (fun q => absurd q hne)⟩, by omega, fun q => absurd q hne, Or.inl ⟨_, pt_1 hlf1 hne, fun q => absurd q hne⟩⟩ dX12_readPart_54
      · exact absurd ((nI_eq (by omega) (by decide)).mp c_28) hne
  · obtain ⟨j, N, X⟩ := Dd
    rw [hD] at hfr
    obtain ⟨hj, hsh, hcn⟩ := hfr
    refine lv_aload_n hx hb dX12_readPart_0 rfl (lv_at hl 0 rfl) ?_
    refine rl_get (v := .ref (m + 30)) hC hW fl_X12_106 hR.1 rfl dX12_readPart_1 ?_
    refine lv_aload_n hx hb dX12_readPart_4 rfl (lv_at hl 0 rfl) ?_
    refine rl_get (v := .int (F 45)) hC hW fl_X12_251 hR.1 rfl dX12_readPart_5 ?_
    refine rl_topn (y := nI (d + 1)) (hF45) ?_
    refine lv_iconst (v := (nI (1))) hx hb dX12_readPart_8 (by decide) ?_
    refine lv_isub hx hb dX12_readPart_9 ?_
    refine rl_topn (rg_sub (c := d) (by omega)) ?_
    refine rl_iald_n (g := I 46) hC hW hR.a46 (by omega) (by decide) dX12_readPart_10 ?_
    refine rl_topn (hsh) ?_
    refine lv_istore_n (lv' := [(1, .int (nI (j))), (0, .ref (m))]) hx hb dX12_readPart_11 rfl hl (by decide) rfl (fun ls hl => ?_)
    refine lv_aload_n hx hb dX12_readPart_12 rfl (lv_at hl 1 rfl) ?_
    refine rl_calllQ (rl_runV (b := m) (As := []) (rest := []) hC hW (cR_want l D t A _ z m T w ρ0 κ0 G0 (a) (la) 0 (d + 1) (ρ) (κ) G (d + 1) (d) SD SL SI ⟨_, _, _, hR, hTc, hTp, hTk, hGW, hGr, hGd, hGp, hGt, hGc, hF11, hF14, hF44, hF41, hF42, hF43, hF45, hN, hSI⟩) cs_X12_254 im_X12_want sl_X12_want hR.1 rfl ⟨(Nat.le_of_ble_eq_true rfl), (Nat.le_of_ble_eq_true rfl)⟩ rfl hl.1 rfl (Nat.le_of_ble_eq_true rfl) dX12_readPart_13 ⟨(Nat.le_of_ble_eq_true rfl), (Nat.le_of_ble_eq_true rfl)⟩) hW (fun rk f1 H locs hp hW => ?_)
    obtain ⟨a1, la1, bd1, hlf1, hQ, hw1⟩ := hp
    rcases hw1 with hw1 | hw1
    · obtain ⟨-, rfl, rfl⟩ := hw1
      obtain ⟨I, L, F, hR, hTc, hTp, hTk, hGW, hGr, hGd, hGp, hGt, hGc, hF11, hF14, hF44, hF41, hF42, hF43, hF45, hN, hSI⟩ := hQ
      obtain ⟨hlv, hd6, hw3, hρ0, hκ0, hbd, hgl⟩ := id hN
      have hl250 := hGW.2.2.2.2
      refine lv_lstore_n (lv' := [(2, .long (rk)), (1, .int (nI (j))), (0, .ref (m))]) hx hb dX12_readPart_16 rfl hl (by decide) rfl (fun ls hl => ?_)
      refine lv_aload_n hx hb dX12_readPart_17 rfl (lv_at hl 2 rfl) ?_
      refine rl_calllQ (rl_runV (b := m) (As := []) (rest := []) hC hW (cR_want l D t A _ z m T w ρ0 κ0 G0 (a + 1) (la1) 0 (d + 1) (ρ) (κ) G (d + 1) (d) SD SL SI ⟨_, _, _, hR, hTc, hTp, hTk, hGW, hGr, hGd, hGp, hGt, hGc, hF11, hF14, hF44, hF41, hF42, hF43, hF45, hN, hSI⟩) cs_X12_254 im_X12_want sl_X12_want hR.1 rfl ⟨(Nat.le_of_ble_eq_true rfl), (Nat.le_of_ble_eq_true rfl)⟩ rfl hl.1 rfl (Nat.le_of_ble_eq_true rfl) dX12_readPart_18 ⟨(Nat.le_of_ble_eq_true rfl), (Nat.le_of_ble_eq_true rfl)⟩) hW (fun rs f1 H locs hp hW => ?_)
      obtain ⟨a2, la2, bd2, hlf2, hQ, hw2⟩ := hp
      rcases hw2 with hw2 | hw2
      · obtain ⟨-, rfl, rfl⟩ := hw2
        obtain ⟨I, L, F, hR, hTc, hTp, hTk, hGW, hGr, hGd, hGp, hGt, hGc, hF11, hF14, hF44, hF41, hF42, hF43, hF45, hN, hSI⟩ := hQ
        obtain ⟨hlv, hd6, hw3, hρ0, hκ0, hbd, hgl⟩ := id hN
        have hl250 := hGW.2.2.2.2
        refine lv_lstore (lv' := [(4, .long (rs)), (2, .long (rk)), (1, .int (nI (j))), (0, .ref (m))]) hx hb dX12_readPart_21 hl (by decide) rfl (fun ls hl => ?_)
        refine lv_aload_n hx hb dX12_readPart_23 rfl (lv_at hl 3 rfl) ?_
        refine rl_get (v := .int (F 43)) hC hW fl_X12_238 hR.1 rfl dX12_readPart_24 ?_
        refine rl_topn (y := nI (0)) (hF43) ?_
        refine lv_if_ne (tgt := 47) hx hb dX12_readPart_27 (by decide) (fun c1 => ?_) (fun c1 => ?_)
        · exact absurd rfl c1
        · refine lv_lload hx hb dX12_readPart_30 (lv_at hl 0 rfl) ?_
          refine lv_lconst (v := 0) hx hb dX12_readPart_32 (by decide) ?_
          refine lv_ldc2 (v := 4) hx hb hC.2.2.2.1 (hC.2.2.2.2.1 _ (List.mem_cons_of_mem _ mw_822)) dX12_readPart_33 ?_
          refine rl_calliQ (rl_runS (As := [.long (rs), .long (0), .long (4)]) (rest := []) hC hW (cR_in l D t A _ z _ _ _) cs_X12_117 sm_X12_in ⟨(Nat.le_of_ble_eq_true rfl), (Nat.le_of_ble_eq_true rfl)⟩ rfl hl.1 rfl (Nat.le_of_ble_eq_true rfl) dX12_readPart_36 ⟨(Nat.le_of_ble_eq_true rfl), (Nat.le_of_ble_eq_true rfl)⟩) hW (fun r f1 H locs hp hW => ?_)
          obtain ⟨rfl, hp⟩ := hp
          rw [rg_lin (n := 4) (by decide) (by decide) (by decide)] at hp
          rcases hp with ⟨rfl, hp⟩ | ⟨rfl, hp⟩
          · obtain ⟨s0, hs0, rfl⟩ := hp
            have hcase : s0 = 0 ∨ s0 = 1 ∨ s0 = 2 ∨ s0 = 3 ∨ s0 = 4 := by omega
            rcases hcase with rfl | rfl | rfl | rfl | rfl
            · refine lv_if_ne (tgt := 47) hx hb dX12_readPart_39 (by decide) (fun c9 => ?_) (fun c9 => ?_)
              · refine lv_aload_n hx hb dX12_readPart_47 rfl (lv_at hl 3 rfl) ?_
                refine rl_get (v := .int (F 43)) hC hW fl_X12_238 hR.1 rfl dX12_readPart_48 ?_
                refine rl_topn (y := nI (0)) (hF43) ?_
                refine lv_if_eq (tgt := 55) hx hb dX12_readPart_51 (by decide) (fun c8 => ?_) (fun c8 => ?_)
                · refine lv_iload_n hx hb dX12_readPart_55 rfl (lv_at hl 2 rfl) ?_
                  refine lv_if_ge (tgt := 64) hx hb dX12_readPart_56 (by decide) (fun c2 => ?_) (fun c2 => ?_)
                  · refine lv_aload_n hx hb dX12_readPart_64 rfl (lv_at hl 3 rfl) ?_
                    refine lv_iload_n hx hb dX12_readPart_65 rfl (lv_at hl 2 rfl) ?_
                    refine lv_lload_n hx hb dX12_readPart_66 rfl (lv_at hl 1 rfl) ?_
                    refine rl_calliQ (rl_runV (b := m) (As := [.int (nI (j)), .long (rk)]) (rest := []) hC hW (cR_partBy l D t A _ z m I L F hR T hTp j hj _) cs_X12_139 im_X12_partBy sl_X12_partBy hR.1 rfl ⟨(Nat.le_of_ble_eq_true rfl), (Nat.le_of_ble_eq_true rfl)⟩ rfl hl.1 rfl (Nat.le_of_ble_eq_true rfl) dX12_readPart_67 ⟨(Nat.le_of_ble_eq_true rfl), (Nat.le_of_ble_eq_true rfl)⟩) hW (fun r f1 H locs hp hW => ?_)
                    obtain ⟨rfl, hp⟩ := hp
                    rcases hp with ⟨p, hpl, rfl, he, hfst⟩ | ⟨rfl, hp⟩
                    · have h5 := (hTp.1 j hj).2
                      have hnm := hTp.2 j p hj hpl
                      have hfd : q_find T (SD d) rk = some p := by rw [hD]; exact pu_find_s (g := fun i => T 3 (5 * j + i)) hfst he hpl
                      refine lv_istore (lv' := [(6, .int (nI (p))), (4, .long (lN 0)), (2, .long (rk)), (1, .int (nI (j))), (0, .ref (m))]) hx hb dX12_readPart_70 hl (by decide) rfl (fun ls hl => ?_)
                      refine lv_iload hx hb dX12_readPart_72 (lv_at hl 0 rfl) ?_
                      refine lv_if_lt (tgt := 81) hx hb dX12_readPart_74 (by decide) (fun c3 => ?_) (fun c3 => ?_)
                      · exact absurd c3 (nI_pos (by omega))
                      · refine lv_iconst (v := (nI (1))) hx hb dX12_readPart_77 (by decide) ?_
                        refine lv_goto (tgt := 82) hx hb dX12_readPart_78 (by decide) ?_
                        refine lv_istore (lv' := [(7, .int (nI (1))), (6, .int (nI (p))), (4, .long (lN 0)), (2, .long (rk)), (1, .int (nI (j))), (0, .ref (m))]) hx hb dX12_readPart_82 hl (by decide) rfl (fun ls hl => ?_)
                        refine lv_iload hx hb dX12_readPart_84 (lv_at hl 0 rfl) ?_
                        refine lv_if_eq (tgt := 113) hx hb dX12_readPart_86 (by decide) (fun c4 => ?_) (fun c4 => ?_)
                        · exact absurd c4 (by decide)
                        · refine lv_aload_n hx hb dX12_readPart_89 rfl (lv_at hl 5 rfl) ?_
                          refine rl_get (v := .ref (m + 6)) hC hW fl_X12_26 hR.1 rfl dX12_readPart_90 ?_
                          refine lv_iconst (v := (nI (5))) hx hb dX12_readPart_93 (by decide) ?_
                          refine lv_iload_n hx hb dX12_readPart_94 rfl (lv_at hl 4 rfl) ?_
                          refine lv_imul hx hb dX12_readPart_95 ?_
                          refine rl_topn (pk_mul _ _) ?_
                          refine lv_iload hx hb dX12_readPart_96 (lv_at hl 1 rfl) ?_
                          refine lv_iadd hx hb dX12_readPart_98 ?_
                          refine rl_topn (nI_add _ _) ?_
                          refine rl_iald_n (g := I 5) hC hW hR.a5 (by omega) (by decide) dX12_readPart_99 ?_
                          refine rl_topn (hnm.2.2.1) ?_
                          refine lv_i2l hx hb dX12_readPart_100 rfl ?_
                          refine lv_lload hx hb dX12_readPart_101 (lv_at hl 2 rfl) ?_
                          refine W.lcmp hx hb dX12_readPart_103 ?_
                          refine lv_if_eq (tgt := 113) hx hb dX12_readPart_104 (by decide) (fun c5 => ?_) (fun c5 => ?_)
                          · have hse : T 4 (5 * j + p) = 0 := by have := (lg_cmp_eq _ _).mp c5; rw [nI_l (by omega)] at this; exact (lN_eq (by omega) (by decide)).mp this
                            have hcs : ¬ q_cast T (SD d) (some p) 0 := by rw [hD]; exact fun q => q hse
                            refine lv_iconst (v := (nI (5))) hx hb dX12_readPart_113 (by decide) ?_
                            refine lv_aload_n hx hb dX12_readPart_114 rfl (lv_at hl 5 rfl) ?_
                            refine rl_get (v := .int (F 45)) hC hW fl_X12_251 hR.1 rfl dX12_readPart_115 ?_
                            refine rl_topn (y := nI (d + 1)) (hF45) ?_
                            refine lv_imul hx hb dX12_readPart_118 ?_
                            refine rl_topn (pk_mul _ _) ?_
                            refine lv_iload hx hb dX12_readPart_119 (lv_at hl 0 rfl) ?_
                            refine lv_if_eq (tgt := 129) hx hb dX12_readPart_121 (by decide) (fun c_30 => ?_) (fun c_30 => ?_)
                            · first | exact absurd c_30 (by decide) | exact absurd (by decide) c_30
                            · refine lv_iload hx hb dX12_readPart_124 (lv_at hl 1 rfl) ?_
                              refine lv_goto (tgt := 130) hx hb dX12_readPart_126 (by decide) ?_
                              refine lv_iadd hx hb dX12_readPart_130 ?_
                              refine rl_topn (nI_add _ _) ?_
                              refine lv_istore (lv' := [(8, .int (nI (((5) * (d + 1)) + (p)))), (7, .int (nI (1))), (6, .int (nI (p))), (4, .long (lN 0)), (2, .long (rk)), (1, .int (nI (j))), (0, .ref (m))]) hx hb dX12_readPart_131 hl (by decide) rfl (fun ls hl => ?_)
                              refine lv_lload hx hb dX12_readPart_133 (lv_at hl 3 rfl) ?_
                              refine lv_ldc2 (v := 2) hx hb hC.2.2.2.1 (hC.2.2.2.2.1 _ (List.mem_cons_of_mem _ mw_808)) dX12_readPart_135 ?_
                              refine W.lcmp hx hb dX12_readPart_138 ?_
                              refine rl_topn (y := -1) (by decide) ?_
                              refine lv_if_ge (tgt := 175) hx hb dX12_readPart_139 (by decide) (fun c_31 => ?_) (fun c_31 => ?_)
                              · first | exact absurd c_31 (by decide) | exact absurd (by decide) c_31
                              · refine lv_aload_n hx hb dX12_readPart_142 rfl (lv_at hl 6 rfl) ?_
                                refine rl_calllQ (rl_runV (b := m) (As := []) (rest := []) hC hW (cR_want l D t A _ z m T w ρ0 κ0 G0 (a + 1 + 1) (la2) 0 (d + 1) (ρ) (κ) G (d + 1) (d) SD SL SI ⟨_, _, _, hR, hTc, hTp, hTk, hGW, hGr, hGd, hGp, hGt, hGc, hF11, hF14, hF44, hF41, hF42, hF43, hF45, hN, hSI⟩) cs_X12_254 im_X12_want sl_X12_want hR.1 rfl ⟨(Nat.le_of_ble_eq_true rfl), (Nat.le_of_ble_eq_true rfl)⟩ rfl hl.1 rfl (Nat.le_of_ble_eq_true rfl) dX12_readPart_143 ⟨(Nat.le_of_ble_eq_true rfl), (Nat.le_of_ble_eq_true rfl)⟩) hW (fun rv f1 H locs hp hW => ?_)
                                obtain ⟨a3, la3, bd3, hlf3, hQ, hw3⟩ := hp
                                rcases hw3 with hw3 | hw3
                                · obtain ⟨-, rfl, rfl⟩ := hw3
                                  obtain ⟨I, L, F, hR, hTc, hTp, hTk, hGW, hGr, hGd, hGp, hGt, hGc, hF11, hF14, hF44, hF41, hF42, hF43, hF45, hN, hSI⟩ := hQ
                                  obtain ⟨hlv, hd6, hw3, hρ0, hκ0, hbd, hgl⟩ := id hN
                                  have hl250 := hGW.2.2.2.2
                                  refine lv_lstore (lv' := [(9, .long (rv)), (8, .int (nI (((5) * (d + 1)) + (p)))), (7, .int (nI (1))), (6, .int (nI (p))), (4, .long (lN 0)), (2, .long (rk)), (1, .int (nI (j))), (0, .ref (m))]) hx hb dX12_readPart_146 hl (by decide) rfl (fun ls hl => ?_)
                                  refine lv_aload_n hx hb dX12_readPart_148 rfl (lv_at hl 7 rfl) ?_
                                  refine rl_get (v := .ref (m + 22)) hC hW fl_X12_82 hR.1 rfl dX12_readPart_149 ?_
                                  refine lv_iload hx hb dX12_readPart_152 (lv_at hl 1 rfl) ?_
                                  refine lv_iload hx hb dX12_readPart_154 (lv_at hl 2 rfl) ?_
                                  refine lv_if_eq (tgt := 164) hx hb dX12_readPart_156 (by decide) (fun c_32 => ?_) (fun c_32 => ?_)
                                  · first | exact absurd c_32 (by decide) | exact absurd (by decide) c_32
                                  · refine lv_lload hx hb dX12_readPart_159 (lv_at hl 0 rfl) ?_
                                    refine lv_goto (tgt := 171) hx hb dX12_readPart_161 (by decide) ?_
                                    refine rl_last_n (g := L 31) hC hW hR.a31 (by omega) (by decide) dX12_readPart_171 (fun H locs hW => ?_)
                                    have hR := hR.s31 (vp_updL (L 31) (((5) * (d + 1)) + (p)) (rv))
                                    refine lv_goto (tgt := 386) hx hb dX12_readPart_172 (by decide) ?_
                                    exact rl_vret hC hW hr hlk (Nat.le_refl _) (Nat.le_refl _) ⟨rfl, rfl, rfl, a + 1 + 1 + 1, la3, 0, d + 1, ρ, G, d + 1, d, va_up SD d (q_num (SD d) (some p) rv), SL, SI, ⟨_, _, _, hR, hTc, hTp, hTk, hGW, hGr, hGd, hGp, hGt, hGc, hF11, hF14, hF44, hF41, hF42, hF43, hF45, hN, (fun _ => (hSI rfl).num (by omega))⟩, by omega, fun _ => ⟨rfl, by omega, rfl, by omega, by omega, by omega, by omega⟩, Or.inl ⟨q_num (SD d) (some p) rv, (pt_v hlf1 hlf2 rfl (by decide) hfd hcs).trans (vl_n (by decide) hlf3), fun _ => ⟨rfl, rfl, rfl, rfl⟩⟩⟩ dX12_readPart_386
                                · obtain ⟨hne, rfl, hr03⟩ := hw3
                                  obtain ⟨I, L, F, hR, hTc, hTp, hTk, hGW, hGr, hGd, hGp, hGt, hGc, hF11, hF14, hF44, hF41, hF42, hF43, hF45, hN, hSI⟩ := hQ
                                  obtain ⟨hlv, hd6, hw3, hρ0, hκ0, hbd, hgl⟩ := id hN
                                  have hl250 := hGW.2.2.2.2
                                  refine lv_lstore (lv' := [(9, .long (rv)), (8, .int (nI (((5) * (d + 1)) + (p)))), (7, .int (nI (1))), (6, .int (nI (p))), (4, .long (lN 0)), (2, .long (rk)), (1, .int (nI (j))), (0, .ref (m))]) hx hb dX12_readPart_146 hl (by decide) rfl (fun ls hl => ?_)
                                  refine lv_aload_n hx hb dX12_readPart_148 rfl (lv_at hl 7 rfl) ?_
                                  refine rl_get (v := .ref (m + 22)) hC hW fl_X12_82 hR.1 rfl dX12_readPart_149 ?_
                                  refine lv_iload hx hb dX12_readPart_152 (lv_at hl 1 rfl) ?_
                                  refine lv_iload hx hb dX12_readPart_154 (lv_at hl 2 rfl) ?_
                                  refine lv_if_eq (tgt := 164) hx hb dX12_readPart_156 (by decide) (fun c_33 => ?_) (fun c_33 => ?_)
                                  · first | exact absurd c_33 (by decide) | exact absurd (by decide) c_33
                                  · refine lv_lload hx hb dX12_readPart_159 (lv_at hl 0 rfl) ?_
                                    refine lv_goto (tgt := 171) hx hb dX12_readPart_161 (by decide) ?_
                                    refine rl_last_n (g := L 31) hC hW hR.a31 (by omega) (by decide) dX12_readPart_171 (fun H locs hW => ?_)
                                    have hR := hR.s31 (vp_updL (L 31) (((5) * (d + 1)) + (p)) (rv))
                                    refine lv_goto (tgt := 386) hx hb dX12_readPart_172 (by decide) ?_
                                    exact rl_vret hC hW hr hlk (Nat.le_refl _) (Nat.le_refl _) ⟨rfl, rfl, rfl, a + 1 + 1, la3, bd3, d + 1, ρ, G, d + 1, d, SD, SL, SI, ⟨_, _, _, hR, hTc, hTp, hTk, hGW, hGr, hGd, hGp, hGt, hGc, hF11, hF14, hF44, hF41, hF42, hF43, hF45, hN, (fun q => absurd q hne)⟩, by omega, fun q => absurd q hne, Or.inl ⟨_, (pt_v hlf1 hlf2 rfl (by decide) hfd hcs).trans (vl_n (by decide) hlf3), fun q => absurd q hne⟩⟩ dX12_readPart_386
                          · have hcs : q_cast T (SD d) (some p) 0 := by rw [hD]; exact fun q => c5 ((lg_cmp_eq _ _).mpr (by rw [show T 4 (5 * j + p) = 0 from q]; decide))
                            refine lv_aload_n hx hb dX12_readPart_107 rfl (lv_at hl 5 rfl) ?_
                            refine lv_iconst (v := (nI (1))) hx hb dX12_readPart_108 (by decide) ?_
                            refine rl_callvQ (rl_runV (b := m) (As := [.int (nI (1))]) (rest := []) hC hW (cR_fails l D t A _ z m T w ρ0 κ0 G0 (a + 1 + 1) (la2) 0 (d + 1) (ρ) (κ) G (d + 1) (d) SD SL SI ⟨_, _, _, hR, hTc, hTp, hTk, hGW, hGr, hGd, hGp, hGt, hGc, hF11, hF14, hF44, hF41, hF42, hF43, hF45, hN, hSI⟩ 1 (by decide) (by decide)) cs_X12_247 im_X12_fails sl_X12_fails hR.1 rfl ⟨(Nat.le_of_ble_eq_true rfl), (Nat.le_of_ble_eq_true rfl)⟩ rfl hl.1 rfl (Nat.le_of_ble_eq_true rfl) dX12_readPart_109 ⟨(Nat.le_of_ble_eq_true rfl), (Nat.le_of_ble_eq_true rfl)⟩) hW (fun f1 H locs hp hW => ?_)
                            obtain ⟨bd4, hfe4, hne, hQ⟩ := hp
                            obtain ⟨I, L, F, hR, hTc, hTp, hTk, hGW, hGr, hGd, hGp, hGt, hGc, hF11, hF14, hF44, hF41, hF42, hF43, hF45, hN, hSI⟩ := hQ
                            obtain ⟨hlv, hd6, hw3, hρ0, hκ0, hbd, hgl⟩ := id hN
                            have hl250 := hGW.2.2.2.2
                            exact rl_vret hC hW hr hlk (Nat.le_refl _) (Nat.le_refl _) ⟨rfl, rfl, rfl, a + 1 + 1, la2, bd4, d + 1, ρ, G, d + 1, d, SD, SL, SI, ⟨_, _, _, hR, hTc, hTp, hTk, hGW, hGr, hGd, hGp, hGt, hGc, hF11, hF14, hF44, hF41, hF42, hF43, hF45, hN, (fun q => absurd q hne)⟩, by omega, fun q => absurd q hne, Or.inl ⟨_, (pt_c hlf1 hlf2 rfl (by decide) hfd hcs).trans (by rw [hfe4]), fun q => absurd q hne⟩⟩ dX12_readPart_112
                    · have hfd : q_find T (SD d) rk = none := by rw [hD]; exact pu_find_n (g := fun i => T 3 (5 * j + i)) hp
                      refine lv_istore (lv' := [(6, .int (-3)), (4, .long (lN 0)), (2, .long (rk)), (1, .int (nI (j))), (0, .ref (m))]) hx hb dX12_readPart_70 hl (by decide) rfl (fun ls hl => ?_)
                      refine lv_iload hx hb dX12_readPart_72 (lv_at hl 0 rfl) ?_
                      refine lv_if_lt (tgt := 81) hx hb dX12_readPart_74 (by decide) (fun c3 => ?_) (fun c3 => ?_)
                      · have hcs : ¬ q_cast T (SD d) none 0 := cs_n
                        refine lv_iconst (v := (nI (0))) hx hb dX12_readPart_81 (by decide) ?_
                        refine lv_istore (lv' := [(7, .int (nI (0))), (6, .int (-3)), (4, .long (lN 0)), (2, .long (rk)), (1, .int (nI (j))), (0, .ref (m))]) hx hb dX12_readPart_82 hl (by decide) rfl (fun ls hl => ?_)
                        refine lv_iload hx hb dX12_readPart_84 (lv_at hl 0 rfl) ?_
                        refine lv_if_eq (tgt := 113) hx hb dX12_readPart_86 (by decide) (fun c4 => ?_) (fun c4 => ?_)
                        · refine lv_iconst (v := (nI (5))) hx hb dX12_readPart_113 (by decide) ?_
                          refine lv_aload_n hx hb dX12_readPart_114 rfl (lv_at hl 5 rfl) ?_
                          refine rl_get (v := .int (F 45)) hC hW fl_X12_251 hR.1 rfl dX12_readPart_115 ?_
                          refine rl_topn (y := nI (d + 1)) (hF45) ?_
                          refine lv_imul hx hb dX12_readPart_118 ?_
                          refine rl_topn (pk_mul _ _) ?_
                          refine lv_iload hx hb dX12_readPart_119 (lv_at hl 0 rfl) ?_
                          refine lv_if_eq (tgt := 129) hx hb dX12_readPart_121 (by decide) (fun c_34 => ?_) (fun c_34 => ?_)
                          · refine lv_iconst (v := (nI (0))) hx hb dX12_readPart_129 (by decide) ?_
                            refine lv_iadd hx hb dX12_readPart_130 ?_
                            refine rl_topn (nI_add _ _) ?_
                            refine lv_istore (lv' := [(8, .int (nI (((5) * (d + 1)) + (0)))), (7, .int (nI (0))), (6, .int (-3)), (4, .long (lN 0)), (2, .long (rk)), (1, .int (nI (j))), (0, .ref (m))]) hx hb dX12_readPart_131 hl (by decide) rfl (fun ls hl => ?_)
                            refine lv_lload hx hb dX12_readPart_133 (lv_at hl 3 rfl) ?_
                            refine lv_ldc2 (v := 2) hx hb hC.2.2.2.1 (hC.2.2.2.2.1 _ (List.mem_cons_of_mem _ mw_808)) dX12_readPart_135 ?_
                            refine W.lcmp hx hb dX12_readPart_138 ?_
                            refine rl_topn (y := -1) (by decide) ?_
                            refine lv_if_ge (tgt := 175) hx hb dX12_readPart_139 (by decide) (fun c_35 => ?_) (fun c_35 => ?_)
                            · first | exact absurd c_35 (by decide) | exact absurd (by decide) c_35
                            · refine lv_aload_n hx hb dX12_readPart_142 rfl (lv_at hl 6 rfl) ?_
                              refine rl_calllQ (rl_runV (b := m) (As := []) (rest := []) hC hW (cR_want l D t A _ z m T w ρ0 κ0 G0 (a + 1 + 1) (la2) 0 (d + 1) (ρ) (κ) G (d + 1) (d) SD SL SI ⟨_, _, _, hR, hTc, hTp, hTk, hGW, hGr, hGd, hGp, hGt, hGc, hF11, hF14, hF44, hF41, hF42, hF43, hF45, hN, hSI⟩) cs_X12_254 im_X12_want sl_X12_want hR.1 rfl ⟨(Nat.le_of_ble_eq_true rfl), (Nat.le_of_ble_eq_true rfl)⟩ rfl hl.1 rfl (Nat.le_of_ble_eq_true rfl) dX12_readPart_143 ⟨(Nat.le_of_ble_eq_true rfl), (Nat.le_of_ble_eq_true rfl)⟩) hW (fun rv f1 H locs hp hW => ?_)
                              obtain ⟨a3, la3, bd3, hlf3, hQ, hw3⟩ := hp
                              rcases hw3 with hw3 | hw3
                              · obtain ⟨-, rfl, rfl⟩ := hw3
                                obtain ⟨I, L, F, hR, hTc, hTp, hTk, hGW, hGr, hGd, hGp, hGt, hGc, hF11, hF14, hF44, hF41, hF42, hF43, hF45, hN, hSI⟩ := hQ
                                obtain ⟨hlv, hd6, hw3, hρ0, hκ0, hbd, hgl⟩ := id hN
                                have hl250 := hGW.2.2.2.2
                                refine lv_lstore (lv' := [(9, .long (rv)), (8, .int (nI (((5) * (d + 1)) + (0)))), (7, .int (nI (0))), (6, .int (-3)), (4, .long (lN 0)), (2, .long (rk)), (1, .int (nI (j))), (0, .ref (m))]) hx hb dX12_readPart_146 hl (by decide) rfl (fun ls hl => ?_)
                                refine lv_aload_n hx hb dX12_readPart_148 rfl (lv_at hl 7 rfl) ?_
                                refine rl_get (v := .ref (m + 22)) hC hW fl_X12_82 hR.1 rfl dX12_readPart_149 ?_
                                refine lv_iload hx hb dX12_readPart_152 (lv_at hl 1 rfl) ?_
                                refine lv_iload hx hb dX12_readPart_154 (lv_at hl 2 rfl) ?_
                                refine lv_if_eq (tgt := 164) hx hb dX12_readPart_156 (by decide) (fun c_36 => ?_) (fun c_36 => ?_)
                                · refine lv_aload_n hx hb dX12_readPart_164 rfl (lv_at hl 7 rfl) ?_
                                  refine rl_get (v := .ref (m + 22)) hC hW fl_X12_82 hR.1 rfl dX12_readPart_165 ?_
                                  refine lv_iload hx hb dX12_readPart_168 (lv_at hl 1 rfl) ?_
                                  refine rl_lald_n (g := L 31) hC hW hR.a31 (by omega) (by decide) dX12_readPart_170 ?_
                                  refine rl_last_n (g := L 31) hC hW hR.a31 (by omega) (by decide) dX12_readPart_171 (fun H locs hW => ?_)
                                  have hR := hR.s31 (vp_updL (L 31) (((5) * (d + 1)) + (0)) (L 31 (((5) * (d + 1)) + (0))))
                                  refine lv_goto (tgt := 386) hx hb dX12_readPart_172 (by decide) ?_
                                  exact rl_vret hC hW hr hlk (Nat.le_refl _) (Nat.le_refl _) ⟨rfl, rfl, rfl, a + 1 + 1 + 1, la3, 0, d + 1, ρ, G, d + 1, d, va_up SD d (q_num (SD d) none rv), SL, SI, ⟨_, _, _, hR, hTc, hTp, hTk, hGW, hGr, hGd, hGp, hGt, hGc, hF11, hF14, hF44, hF41, hF42, hF43, hF45, hN, (fun _ => by rw [pn_n, va_up_same]; exact (hSI rfl).same rfl updL_self)⟩, by omega, fun _ => ⟨rfl, by omega, rfl, by omega, by omega, by omega, by omega⟩, Or.inl ⟨q_num (SD d) none rv, (pt_v hlf1 hlf2 rfl (by decide) hfd hcs).trans (vl_n (by decide) hlf3), fun _ => ⟨rfl, rfl, rfl, rfl⟩⟩⟩ dX12_readPart_386
                                · first | exact absurd c_36 (by decide) | exact absurd (by decide) c_36
                              · obtain ⟨hne, rfl, hr03⟩ := hw3
                                obtain ⟨I, L, F, hR, hTc, hTp, hTk, hGW, hGr, hGd, hGp, hGt, hGc, hF11, hF14, hF44, hF41, hF42, hF43, hF45, hN, hSI⟩ := hQ
                                obtain ⟨hlv, hd6, hw3, hρ0, hκ0, hbd, hgl⟩ := id hN
                                have hl250 := hGW.2.2.2.2
                                refine lv_lstore (lv' := [(9, .long (rv)), (8, .int (nI (((5) * (d + 1)) + (0)))), (7, .int (nI (0))), (6, .int (-3)), (4, .long (lN 0)), (2, .long (rk)), (1, .int (nI (j))), (0, .ref (m))]) hx hb dX12_readPart_146 hl (by decide) rfl (fun ls hl => ?_)
                                refine lv_aload_n hx hb dX12_readPart_148 rfl (lv_at hl 7 rfl) ?_
                                refine rl_get (v := .ref (m + 22)) hC hW fl_X12_82 hR.1 rfl dX12_readPart_149 ?_
                                refine lv_iload hx hb dX12_readPart_152 (lv_at hl 1 rfl) ?_
                                refine lv_iload hx hb dX12_readPart_154 (lv_at hl 2 rfl) ?_
                                refine lv_if_eq (tgt := 164) hx hb dX12_readPart_156 (by decide) (fun c_37 => ?_) (fun c_37 => ?_)
                                · refine lv_aload_n hx hb dX12_readPart_164 rfl (lv_at hl 7 rfl) ?_
                                  refine rl_get (v := .ref (m + 22)) hC hW fl_X12_82 hR.1 rfl dX12_readPart_165 ?_
                                  refine lv_iload hx hb dX12_readPart_168 (lv_at hl 1 rfl) ?_
                                  refine rl_lald_n (g := L 31) hC hW hR.a31 (by omega) (by decide) dX12_readPart_170 ?_
                                  refine rl_last_n (g := L 31) hC hW hR.a31 (by omega) (by decide) dX12_readPart_171 (fun H locs hW => ?_)
                                  have hR := hR.s31 (vp_updL (L 31) (((5) * (d + 1)) + (0)) (L 31 (((5) * (d + 1)) + (0))))
                                  refine lv_goto (tgt := 386) hx hb dX12_readPart_172 (by decide) ?_
                                  exact rl_vret hC hW hr hlk (Nat.le_refl _) (Nat.le_refl _) ⟨rfl, rfl, rfl, a + 1 + 1, la3, bd3, d + 1, ρ, G, d + 1, d, SD, SL, SI, ⟨_, _, _, hR, hTc, hTp, hTk, hGW, hGr, hGd, hGp, hGt, hGc, hF11, hF14, hF44, hF41, hF42, hF43, hF45, hN, (fun q => absurd q hne)⟩, by omega, fun q => absurd q hne, Or.inl ⟨_, (pt_v hlf1 hlf2 rfl (by decide) hfd hcs).trans (vl_n (by decide) hlf3), fun q => absurd q hne⟩⟩ dX12_readPart_386
                                · first | exact absurd c_37 (by decide) | exact absurd (by decide) c_37
                          · first | exact absurd c_34 (by decide) | exact absurd (by decide) c_34
                        · first | exact absurd c4 (by decide) | exact absurd (by decide) c4
                      · exact absurd (by decide) c3
                  · exact absurd (nI_pos' (by omega)) c2
                · exact absurd rfl c8
              · exact absurd c9 (by decide)
            · refine lv_if_ne (tgt := 47) hx hb dX12_readPart_39 (by decide) (fun c9 => ?_) (fun c9 => ?_)
              · refine lv_aload_n hx hb dX12_readPart_47 rfl (lv_at hl 3 rfl) ?_
                refine rl_get (v := .int (F 43)) hC hW fl_X12_238 hR.1 rfl dX12_readPart_48 ?_
                refine rl_topn (y := nI (0)) (hF43) ?_
                refine lv_if_eq (tgt := 55) hx hb dX12_readPart_51 (by decide) (fun c8 => ?_) (fun c8 => ?_)
                · refine lv_iload_n hx hb dX12_readPart_55 rfl (lv_at hl 2 rfl) ?_
                  refine lv_if_ge (tgt := 64) hx hb dX12_readPart_56 (by decide) (fun c2 => ?_) (fun c2 => ?_)
                  · refine lv_aload_n hx hb dX12_readPart_64 rfl (lv_at hl 3 rfl) ?_
                    refine lv_iload_n hx hb dX12_readPart_65 rfl (lv_at hl 2 rfl) ?_
                    refine lv_lload_n hx hb dX12_readPart_66 rfl (lv_at hl 1 rfl) ?_
                    refine rl_calliQ (rl_runV (b := m) (As := [.int (nI (j)), .long (rk)]) (rest := []) hC hW (cR_partBy l D t A _ z m I L F hR T hTp j hj _) cs_X12_139 im_X12_partBy sl_X12_partBy hR.1 rfl ⟨(Nat.le_of_ble_eq_true rfl), (Nat.le_of_ble_eq_true rfl)⟩ rfl hl.1 rfl (Nat.le_of_ble_eq_true rfl) dX12_readPart_67 ⟨(Nat.le_of_ble_eq_true rfl), (Nat.le_of_ble_eq_true rfl)⟩) hW (fun r f1 H locs hp hW => ?_)
                    obtain ⟨rfl, hp⟩ := hp
                    rcases hp with ⟨p, hpl, rfl, he, hfst⟩ | ⟨rfl, hp⟩
                    · have h5 := (hTp.1 j hj).2
                      have hnm := hTp.2 j p hj hpl
                      have hfd : q_find T (SD d) rk = some p := by rw [hD]; exact pu_find_s (g := fun i => T 3 (5 * j + i)) hfst he hpl
                      refine lv_istore (lv' := [(6, .int (nI (p))), (4, .long (lN 1)), (2, .long (rk)), (1, .int (nI (j))), (0, .ref (m))]) hx hb dX12_readPart_70 hl (by decide) rfl (fun ls hl => ?_)
                      refine lv_iload hx hb dX12_readPart_72 (lv_at hl 0 rfl) ?_
                      refine lv_if_lt (tgt := 81) hx hb dX12_readPart_74 (by decide) (fun c3 => ?_) (fun c3 => ?_)
                      · exact absurd c3 (nI_pos (by omega))
                      · refine lv_iconst (v := (nI (1))) hx hb dX12_readPart_77 (by decide) ?_
                        refine lv_goto (tgt := 82) hx hb dX12_readPart_78 (by decide) ?_
                        refine lv_istore (lv' := [(7, .int (nI (1))), (6, .int (nI (p))), (4, .long (lN 1)), (2, .long (rk)), (1, .int (nI (j))), (0, .ref (m))]) hx hb dX12_readPart_82 hl (by decide) rfl (fun ls hl => ?_)
                        refine lv_iload hx hb dX12_readPart_84 (lv_at hl 0 rfl) ?_
                        refine lv_if_eq (tgt := 113) hx hb dX12_readPart_86 (by decide) (fun c4 => ?_) (fun c4 => ?_)
                        · exact absurd c4 (by decide)
                        · refine lv_aload_n hx hb dX12_readPart_89 rfl (lv_at hl 5 rfl) ?_
                          refine rl_get (v := .ref (m + 6)) hC hW fl_X12_26 hR.1 rfl dX12_readPart_90 ?_
                          refine lv_iconst (v := (nI (5))) hx hb dX12_readPart_93 (by decide) ?_
                          refine lv_iload_n hx hb dX12_readPart_94 rfl (lv_at hl 4 rfl) ?_
                          refine lv_imul hx hb dX12_readPart_95 ?_
                          refine rl_topn (pk_mul _ _) ?_
                          refine lv_iload hx hb dX12_readPart_96 (lv_at hl 1 rfl) ?_
                          refine lv_iadd hx hb dX12_readPart_98 ?_
                          refine rl_topn (nI_add _ _) ?_
                          refine rl_iald_n (g := I 5) hC hW hR.a5 (by omega) (by decide) dX12_readPart_99 ?_
                          refine rl_topn (hnm.2.2.1) ?_
                          refine lv_i2l hx hb dX12_readPart_100 rfl ?_
                          refine lv_lload hx hb dX12_readPart_101 (lv_at hl 2 rfl) ?_
                          refine W.lcmp hx hb dX12_readPart_103 ?_
                          refine lv_if_eq (tgt := 113) hx hb dX12_readPart_104 (by decide) (fun c5 => ?_) (fun c5 => ?_)
                          · have hse : T 4 (5 * j + p) = 1 := by have := (lg_cmp_eq _ _).mp c5; rw [nI_l (by omega)] at this; exact (lN_eq (by omega) (by decide)).mp this
                            have hcs : ¬ q_cast T (SD d) (some p) 1 := by rw [hD]; exact fun q => q hse
                            refine lv_iconst (v := (nI (5))) hx hb dX12_readPart_113 (by decide) ?_
                            refine lv_aload_n hx hb dX12_readPart_114 rfl (lv_at hl 5 rfl) ?_
                            refine rl_get (v := .int (F 45)) hC hW fl_X12_251 hR.1 rfl dX12_readPart_115 ?_
                            refine rl_topn (y := nI (d + 1)) (hF45) ?_
                            refine lv_imul hx hb dX12_readPart_118 ?_
                            refine rl_topn (pk_mul _ _) ?_
                            refine lv_iload hx hb dX12_readPart_119 (lv_at hl 0 rfl) ?_
                            refine lv_if_eq (tgt := 129) hx hb dX12_readPart_121 (by decide) (fun c_38 => ?_) (fun c_38 => ?_)
                            · first | exact absurd c_38 (by decide) | exact absurd (by decide) c_38
                            · refine lv_iload hx hb dX12_readPart_124 (lv_at hl 1 rfl) ?_
                              refine lv_goto (tgt := 130) hx hb dX12_readPart_126 (by decide) ?_
                              refine lv_iadd hx hb dX12_readPart_130 ?_
                              refine rl_topn (nI_add _ _) ?_
                              refine lv_istore (lv' := [(8, .int (nI (((5) * (d + 1)) + (p)))), (7, .int (nI (1))), (6, .int (nI (p))), (4, .long (lN 1)), (2, .long (rk)), (1, .int (nI (j))), (0, .ref (m))]) hx hb dX12_readPart_131 hl (by decide) rfl (fun ls hl => ?_)
                              refine lv_lload hx hb dX12_readPart_133 (lv_at hl 3 rfl) ?_
                              refine lv_ldc2 (v := 2) hx hb hC.2.2.2.1 (hC.2.2.2.2.1 _ (List.mem_cons_of_mem _ mw_808)) dX12_readPart_135 ?_
                              refine W.lcmp hx hb dX12_readPart_138 ?_
                              refine rl_topn (y := -1) (by decide) ?_
                              refine lv_if_ge (tgt := 175) hx hb dX12_readPart_139 (by decide) (fun c_39 => ?_) (fun c_39 => ?_)
                              · first | exact absurd c_39 (by decide) | exact absurd (by decide) c_39
                              · refine lv_aload_n hx hb dX12_readPart_142 rfl (lv_at hl 6 rfl) ?_
                                refine rl_calllQ (rl_runV (b := m) (As := []) (rest := []) hC hW (cR_want l D t A _ z m T w ρ0 κ0 G0 (a + 1 + 1) (la2) 0 (d + 1) (ρ) (κ) G (d + 1) (d) SD SL SI ⟨_, _, _, hR, hTc, hTp, hTk, hGW, hGr, hGd, hGp, hGt, hGc, hF11, hF14, hF44, hF41, hF42, hF43, hF45, hN, hSI⟩) cs_X12_254 im_X12_want sl_X12_want hR.1 rfl ⟨(Nat.le_of_ble_eq_true rfl), (Nat.le_of_ble_eq_true rfl)⟩ rfl hl.1 rfl (Nat.le_of_ble_eq_true rfl) dX12_readPart_143 ⟨(Nat.le_of_ble_eq_true rfl), (Nat.le_of_ble_eq_true rfl)⟩) hW (fun rv f1 H locs hp hW => ?_)
                                obtain ⟨a3, la3, bd3, hlf3, hQ, hw3⟩ := hp
                                rcases hw3 with hw3 | hw3
                                · obtain ⟨-, rfl, rfl⟩ := hw3
                                  obtain ⟨I, L, F, hR, hTc, hTp, hTk, hGW, hGr, hGd, hGp, hGt, hGc, hF11, hF14, hF44, hF41, hF42, hF43, hF45, hN, hSI⟩ := hQ
                                  obtain ⟨hlv, hd6, hw3, hρ0, hκ0, hbd, hgl⟩ := id hN
                                  have hl250 := hGW.2.2.2.2
                                  refine lv_lstore (lv' := [(9, .long (rv)), (8, .int (nI (((5) * (d + 1)) + (p)))), (7, .int (nI (1))), (6, .int (nI (p))), (4, .long (lN 1)), (2, .long (rk)), (1, .int (nI (j))), (0, .ref (m))]) hx hb dX12_readPart_146 hl (by decide) rfl (fun ls hl => ?_)
                                  refine lv_aload_n hx hb dX12_readPart_148 rfl (lv_at hl 7 rfl) ?_
                                  refine rl_get (v := .ref (m + 22)) hC hW fl_X12_82 hR.1 rfl dX12_readPart_149 ?_
                                  refine lv_iload hx hb dX12_readPart_152 (lv_at hl 1 rfl) ?_
                                  refine lv_iload hx hb dX12_readPart_154 (lv_at hl 2 rfl) ?_
                                  refine lv_if_eq (tgt := 164) hx hb dX12_readPart_156 (by decide) (fun c_40 => ?_) (fun c_40 => ?_)
                                  · first | exact absurd c_40 (by decide) | exact absurd (by decide) c_40
                                  · refine lv_lload hx hb dX12_readPart_159 (lv_at hl 0 rfl) ?_
                                    refine lv_goto (tgt := 171) hx hb dX12_readPart_161 (by decide) ?_
                                    refine rl_last_n (g := L 31) hC hW hR.a31 (by omega) (by decide) dX12_readPart_171 (fun H locs hW => ?_)
                                    have hR := hR.s31 (vp_updL (L 31) (((5) * (d + 1)) + (p)) (rv))
                                    refine lv_goto (tgt := 386) hx hb dX12_readPart_172 (by decide) ?_
                                    exact rl_vret hC hW hr hlk (Nat.le_refl _) (Nat.le_refl _) ⟨rfl, rfl, rfl, a + 1 + 1 + 1, la3, 0, d + 1, ρ, G, d + 1, d, va_up SD d (q_num (SD d) (some p) rv), SL, SI, ⟨_, _, _, hR, hTc, hTp, hTk, hGW, hGr, hGd, hGp, hGt, hGc, hF11, hF14, hF44, hF41, hF42, hF43, hF45, hN, (fun _ => (hSI rfl).num (by omega))⟩, by omega, fun _ => ⟨rfl, by omega, rfl, by omega, by omega, by omega, by omega⟩, Or.inl ⟨q_num (SD d) (some p) rv, (pt_v hlf1 hlf2 rfl (by decide) hfd hcs).trans (vl_n (by decide) hlf3), fun _ => ⟨rfl, rfl, rfl, rfl⟩⟩⟩ dX12_readPart_386
                                · obtain ⟨hne, rfl, hr03⟩ := hw3
                                  obtain ⟨I, L, F, hR, hTc, hTp, hTk, hGW, hGr, hGd, hGp, hGt, hGc, hF11, hF14, hF44, hF41, hF42, hF43, hF45, hN, hSI⟩ := hQ
                                  obtain ⟨hlv, hd6, hw3, hρ0, hκ0, hbd, hgl⟩ := id hN
                                  have hl250 := hGW.2.2.2.2
                                  refine lv_lstore (lv' := [(9, .long (rv)), (8, .int (nI (((5) * (d + 1)) + (p)))), (7, .int (nI (1))), (6, .int (nI (p))), (4, .long (lN 1)), (2, .long (rk)), (1, .int (nI (j))), (0, .ref (m))]) hx hb dX12_readPart_146 hl (by decide) rfl (fun ls hl => ?_)
                                  refine lv_aload_n hx hb dX12_readPart_148 rfl (lv_at hl 7 rfl) ?_
                                  refine rl_get (v := .ref (m + 22)) hC hW fl_X12_82 hR.1 rfl dX12_readPart_149 ?_
                                  refine lv_iload hx hb dX12_readPart_152 (lv_at hl 1 rfl) ?_
                                  refine lv_iload hx hb dX12_readPart_154 (lv_at hl 2 rfl) ?_
                                  refine lv_if_eq (tgt := 164) hx hb dX12_readPart_156 (by decide) (fun c_41 => ?_) (fun c_41 => ?_)
                                  · first | exact absurd c_41 (by decide) | exact absurd (by decide) c_41
                                  · refine lv_lload hx hb dX12_readPart_159 (lv_at hl 0 rfl) ?_
                                    refine lv_goto (tgt := 171) hx hb dX12_readPart_161 (by decide) ?_
                                    refine rl_last_n (g := L 31) hC hW hR.a31 (by omega) (by decide) dX12_readPart_171 (fun H locs hW => ?_)
                                    have hR := hR.s31 (vp_updL (L 31) (((5) * (d + 1)) + (p)) (rv))
                                    refine lv_goto (tgt := 386) hx hb dX12_readPart_172 (by decide) ?_
                                    exact rl_vret hC hW hr hlk (Nat.le_refl _) (Nat.le_refl _) ⟨rfl, rfl, rfl, a + 1 + 1, la3, bd3, d + 1, ρ, G, d + 1, d, SD, SL, SI, ⟨_, _, _, hR, hTc, hTp, hTk, hGW, hGr, hGd, hGp, hGt, hGc, hF11, hF14, hF44, hF41, hF42, hF43, hF45, hN, (fun q => absurd q hne)⟩, by omega, fun q => absurd q hne, Or.inl ⟨_, (pt_v hlf1 hlf2 rfl (by decide) hfd hcs).trans (vl_n (by decide) hlf3), fun q => absurd q hne⟩⟩ dX12_readPart_386
                          · have hcs : q_cast T (SD d) (some p) 1 := by rw [hD]; exact fun q => c5 ((lg_cmp_eq _ _).mpr (by rw [show T 4 (5 * j + p) = 1 from q]; decide))
                            refine lv_aload_n hx hb dX12_readPart_107 rfl (lv_at hl 5 rfl) ?_
                            refine lv_iconst (v := (nI (1))) hx hb dX12_readPart_108 (by decide) ?_
                            refine rl_callvQ (rl_runV (b := m) (As := [.int (nI (1))]) (rest := []) hC hW (cR_fails l D t A _ z m T w ρ0 κ0 G0 (a + 1 + 1) (la2) 0 (d + 1) (ρ) (κ) G (d + 1) (d) SD SL SI ⟨_, _, _, hR, hTc, hTp, hTk, hGW, hGr, hGd, hGp, hGt, hGc, hF11, hF14, hF44, hF41, hF42, hF43, hF45, hN, hSI⟩ 1 (by decide) (by decide)) cs_X12_247 im_X12_fails sl_X12_fails hR.1 rfl ⟨(Nat.le_of_ble_eq_true rfl), (Nat.le_of_ble_eq_true rfl)⟩ rfl hl.1 rfl (Nat.le_of_ble_eq_true rfl) dX12_readPart_109 ⟨(Nat.le_of_ble_eq_true rfl), (Nat.le_of_ble_eq_true rfl)⟩) hW (fun f1 H locs hp hW => ?_)
                            obtain ⟨bd4, hfe4, hne, hQ⟩ := hp
                            obtain ⟨I, L, F, hR, hTc, hTp, hTk, hGW, hGr, hGd, hGp, hGt, hGc, hF11, hF14, hF44, hF41, hF42, hF43, hF45, hN, hSI⟩ := hQ
                            obtain ⟨hlv, hd6, hw3, hρ0, hκ0, hbd, hgl⟩ := id hN
                            have hl250 := hGW.2.2.2.2
                            exact rl_vret hC hW hr hlk (Nat.le_refl _) (Nat.le_refl _) ⟨rfl, rfl, rfl, a + 1 + 1, la2, bd4, d + 1, ρ, G, d + 1, d, SD, SL, SI, ⟨_, _, _, hR, hTc, hTp, hTk, hGW, hGr, hGd, hGp, hGt, hGc, hF11, hF14, hF44, hF41, hF42, hF43, hF45, hN, (fun q => absurd q hne)⟩, by omega, fun q => absurd q hne, Or.inl ⟨_, (pt_c hlf1 hlf2 rfl (by decide) hfd hcs).trans (by rw [hfe4]), fun q => absurd q hne⟩⟩ dX12_readPart_112
                    · have hfd : q_find T (SD d) rk = none := by rw [hD]; exact pu_find_n (g := fun i => T 3 (5 * j + i)) hp
                      refine lv_istore (lv' := [(6, .int (-3)), (4, .long (lN 1)), (2, .long (rk)), (1, .int (nI (j))), (0, .ref (m))]) hx hb dX12_readPart_70 hl (by decide) rfl (fun ls hl => ?_)
                      refine lv_iload hx hb dX12_readPart_72 (lv_at hl 0 rfl) ?_
                      refine lv_if_lt (tgt := 81) hx hb dX12_readPart_74 (by decide) (fun c3 => ?_) (fun c3 => ?_)
                      · have hcs : ¬ q_cast T (SD d) none 1 := cs_n
                        refine lv_iconst (v := (nI (0))) hx hb dX12_readPart_81 (by decide) ?_
                        refine lv_istore (lv' := [(7, .int (nI (0))), (6, .int (-3)), (4, .long (lN 1)), (2, .long (rk)), (1, .int (nI (j))), (0, .ref (m))]) hx hb dX12_readPart_82 hl (by decide) rfl (fun ls hl => ?_)
                        refine lv_iload hx hb dX12_readPart_84 (lv_at hl 0 rfl) ?_
                        refine lv_if_eq (tgt := 113) hx hb dX12_readPart_86 (by decide) (fun c4 => ?_) (fun c4 => ?_)
                        · refine lv_iconst (v := (nI (5))) hx hb dX12_readPart_113 (by decide) ?_
                          refine lv_aload_n hx hb dX12_readPart_114 rfl (lv_at hl 5 rfl) ?_
                          refine rl_get (v := .int (F 45)) hC hW fl_X12_251 hR.1 rfl dX12_readPart_115 ?_
                          refine rl_topn (y := nI (d + 1)) (hF45) ?_
                          refine lv_imul hx hb dX12_readPart_118 ?_
                          refine rl_topn (pk_mul _ _) ?_
                          refine lv_iload hx hb dX12_readPart_119 (lv_at hl 0 rfl) ?_
                          refine lv_if_eq (tgt := 129) hx hb dX12_readPart_121 (by decide) (fun c_42 => ?_) (fun c_42 => ?_)
                          · refine lv_iconst (v := (nI (0))) hx hb dX12_readPart_129 (by decide) ?_
                            refine lv_iadd hx hb dX12_readPart_130 ?_
                            refine rl_topn (nI_add _ _) ?_
                            refine lv_istore (lv' := [(8, .int (nI (((5) * (d + 1)) + (0)))), (7, .int (nI (0))), (6, .int (-3)), (4, .long (lN 1)), (2, .long (rk)), (1, .int (nI (j))), (0, .ref (m))]) hx hb dX12_readPart_131 hl (by decide) rfl (fun ls hl => ?_)
                            refine lv_lload hx hb dX12_readPart_133 (lv_at hl 3 rfl) ?_
                            refine lv_ldc2 (v := 2) hx hb hC.2.2.2.1 (hC.2.2.2.2.1 _ (List.mem_cons_of_mem _ mw_808)) dX12_readPart_135 ?_
                            refine W.lcmp hx hb dX12_readPart_138 ?_
                            refine rl_topn (y := -1) (by decide) ?_
                            refine lv_if_ge (tgt := 175) hx hb dX12_readPart_139 (by decide) (fun c_43 => ?_) (fun c_43 => ?_)
                            · first | exact absurd c_43 (by decide) | exact absurd (by decide) c_43
                            · refine lv_aload_n hx hb dX12_readPart_142 rfl (lv_at hl 6 rfl) ?_
                              refine rl_calllQ (rl_runV (b := m) (As := []) (rest := []) hC hW (cR_want l D t A _ z m T w ρ0 κ0 G0 (a + 1 + 1) (la2) 0 (d + 1) (ρ) (κ) G (d + 1) (d) SD SL SI ⟨_, _, _, hR, hTc, hTp, hTk, hGW, hGr, hGd, hGp, hGt, hGc, hF11, hF14, hF44, hF41, hF42, hF43, hF45, hN, hSI⟩) cs_X12_254 im_X12_want sl_X12_want hR.1 rfl ⟨(Nat.le_of_ble_eq_true rfl), (Nat.le_of_ble_eq_true rfl)⟩ rfl hl.1 rfl (Nat.le_of_ble_eq_true rfl) dX12_readPart_143 ⟨(Nat.le_of_ble_eq_true rfl), (Nat.le_of_ble_eq_true rfl)⟩) hW (fun rv f1 H locs hp hW => ?_)
                              obtain ⟨a3, la3, bd3, hlf3, hQ, hw3⟩ := hp
                              rcases hw3 with hw3 | hw3
                              · obtain ⟨-, rfl, rfl⟩ := hw3
                                obtain ⟨I, L, F, hR, hTc, hTp, hTk, hGW, hGr, hGd, hGp, hGt, hGc, hF11, hF14, hF44, hF41, hF42, hF43, hF45, hN, hSI⟩ := hQ
                                obtain ⟨hlv, hd6, hw3, hρ0, hκ0, hbd, hgl⟩ := id hN
                                have hl250 := hGW.2.2.2.2
                                refine lv_lstore (lv' := [(9, .long (rv)), (8, .int (nI (((5) * (d + 1)) + (0)))), (7, .int (nI (0))), (6, .int (-3)), (4, .long (lN 1)), (2, .long (rk)), (1, .int (nI (j))), (0, .ref (m))]) hx hb dX12_readPart_146 hl (by decide) rfl (fun ls hl => ?_)
                                refine lv_aload_n hx hb dX12_readPart_148 rfl (lv_at hl 7 rfl) ?_
                                refine rl_get (v := .ref (m + 22)) hC hW fl_X12_82 hR.1 rfl dX12_readPart_149 ?_
                                refine lv_iload hx hb dX12_readPart_152 (lv_at hl 1 rfl) ?_
                                refine lv_iload hx hb dX12_readPart_154 (lv_at hl 2 rfl) ?_
                                refine lv_if_eq (tgt := 164) hx hb dX12_readPart_156 (by decide) (fun c_44 => ?_) (fun c_44 => ?_)
                                · refine lv_aload_n hx hb dX12_readPart_164 rfl (lv_at hl 7 rfl) ?_
                                  refine rl_get (v := .ref (m + 22)) hC hW fl_X12_82 hR.1 rfl dX12_readPart_165 ?_
                                  refine lv_iload hx hb dX12_readPart_168 (lv_at hl 1 rfl) ?_
                                  refine rl_lald_n (g := L 31) hC hW hR.a31 (by omega) (by decide) dX12_readPart_170 ?_
                                  refine rl_last_n (g := L 31) hC hW hR.a31 (by omega) (by decide) dX12_readPart_171 (fun H locs hW => ?_)
                                  have hR := hR.s31 (vp_updL (L 31) (((5) * (d + 1)) + (0)) (L 31 (((5) * (d + 1)) + (0))))
                                  refine lv_goto (tgt := 386) hx hb dX12_readPart_172 (by decide) ?_
                                  exact rl_vret hC hW hr hlk (Nat.le_refl _) (Nat.le_refl _) ⟨rfl, rfl, rfl, a + 1 + 1 + 1, la3, 0, d + 1, ρ, G, d + 1, d, va_up SD d (q_num (SD d) none rv), SL, SI, ⟨_, _, _, hR, hTc, hTp, hTk, hGW, hGr, hGd, hGp, hGt, hGc, hF11, hF14, hF44, hF41, hF42, hF43, hF45, hN, (fun _ => by rw [pn_n, va_up_same]; exact (hSI rfl).same rfl updL_self)⟩, by omega, fun _ => ⟨rfl, by omega, rfl, by omega, by omega, by omega, by omega⟩, Or.inl ⟨q_num (SD d) none rv, (pt_v hlf1 hlf2 rfl (by decide) hfd hcs).trans (vl_n (by decide) hlf3), fun _ => ⟨rfl, rfl, rfl, rfl⟩⟩⟩ dX12_readPart_386
                                · first | exact absurd c_44 (by decide) | exact absurd (by decide) c_44
                              · obtain ⟨hne, rfl, hr03⟩ := hw3
                                obtain ⟨I, L, F, hR, hTc, hTp, hTk, hGW, hGr, hGd, hGp, hGt, hGc, hF11, hF14, hF44, hF41, hF42, hF43, hF45, hN, hSI⟩ := hQ
                                obtain ⟨hlv, hd6, hw3, hρ0, hκ0, hbd, hgl⟩ := id hN
                                have hl250 := hGW.2.2.2.2
                                refine lv_lstore (lv' := [(9, .long (rv)), (8, .int (nI (((5) * (d + 1)) + (0)))), (7, .int (nI (0))), (6, .int (-3)), (4, .long (lN 1)), (2, .long (rk)), (1, .int (nI (j))), (0, .ref (m))]) hx hb dX12_readPart_146 hl (by decide) rfl (fun ls hl => ?_)
                                refine lv_aload_n hx hb dX12_readPart_148 rfl (lv_at hl 7 rfl) ?_
                                refine rl_get (v := .ref (m + 22)) hC hW fl_X12_82 hR.1 rfl dX12_readPart_149 ?_
                                refine lv_iload hx hb dX12_readPart_152 (lv_at hl 1 rfl) ?_
                                refine lv_iload hx hb dX12_readPart_154 (lv_at hl 2 rfl) ?_
                                refine lv_if_eq (tgt := 164) hx hb dX12_readPart_156 (by decide) (fun c_45 => ?_) (fun c_45 => ?_)
                                · refine lv_aload_n hx hb dX12_readPart_164 rfl (lv_at hl 7 rfl) ?_
                                  refine rl_get (v := .ref (m + 22)) hC hW fl_X12_82 hR.1 rfl dX12_readPart_165 ?_
                                  refine lv_iload hx hb dX12_readPart_168 (lv_at hl 1 rfl) ?_
                                  refine rl_lald_n (g := L 31) hC hW hR.a31 (by omega) (by decide) dX12_readPart_170 ?_
                                  refine rl_last_n (g := L 31) hC hW hR.a31 (by omega) (by decide) dX12_readPart_171 (fun H locs hW => ?_)
                                  have hR := hR.s31 (vp_updL (L 31) (((5) * (d + 1)) + (0)) (L 31 (((5) * (d + 1)) + (0))))
                                  refine lv_goto (tgt := 386) hx hb dX12_readPart_172 (by decide) ?_
                                  exact rl_vret hC hW hr hlk (Nat.le_refl _) (Nat.le_refl _) ⟨rfl, rfl, rfl, a + 1 + 1, la3, bd3, d + 1, ρ, G, d + 1, d, SD, SL, SI, ⟨_, _, _, hR, hTc, hTp, hTk, hGW, hGr, hGd, hGp, hGt, hGc, hF11, hF14, hF44, hF41, hF42, hF43, hF45, hN, (fun q => absurd q hne)⟩, by omega, fun q => absurd q hne, Or.inl ⟨_, (pt_v hlf1 hlf2 rfl (by decide) hfd hcs).trans (vl_n (by decide) hlf3), fun q => absurd q hne⟩⟩ dX12_readPart_386
                                · first | exact absurd c_45 (by decide) | exact absurd (by decide) c_45
                          · first | exact absurd c_42 (by decide) | exact absurd (by decide) c_42
                        · first | exact absurd c4 (by decide) | exact absurd (by decide) c4
                      · exact absurd (by decide) c3
                  · exact absurd (nI_pos' (by omega)) c2
                · exact absurd rfl c8
              · exact absurd c9 (by decide)
            · refine lv_if_ne (tgt := 47) hx hb dX12_readPart_39 (by decide) (fun c9 => ?_) (fun c9 => ?_)
              · refine lv_aload_n hx hb dX12_readPart_47 rfl (lv_at hl 3 rfl) ?_
                refine rl_get (v := .int (F 43)) hC hW fl_X12_238 hR.1 rfl dX12_readPart_48 ?_
                refine rl_topn (y := nI (0)) (hF43) ?_
                refine lv_if_eq (tgt := 55) hx hb dX12_readPart_51 (by decide) (fun c8 => ?_) (fun c8 => ?_)
                · refine lv_iload_n hx hb dX12_readPart_55 rfl (lv_at hl 2 rfl) ?_
                  refine lv_if_ge (tgt := 64) hx hb dX12_readPart_56 (by decide) (fun c2 => ?_) (fun c2 => ?_)
                  · refine lv_aload_n hx hb dX12_readPart_64 rfl (lv_at hl 3 rfl) ?_
                    refine lv_iload_n hx hb dX12_readPart_65 rfl (lv_at hl 2 rfl) ?_
                    refine lv_lload_n hx hb dX12_readPart_66 rfl (lv_at hl 1 rfl) ?_
                    refine rl_calliQ (rl_runV (b := m) (As := [.int (nI (j)), .long (rk)]) (rest := []) hC hW (cR_partBy l D t A _ z m I L F hR T hTp j hj _) cs_X12_139 im_X12_partBy sl_X12_partBy hR.1 rfl ⟨(Nat.le_of_ble_eq_true rfl), (Nat.le_of_ble_eq_true rfl)⟩ rfl hl.1 rfl (Nat.le_of_ble_eq_true rfl) dX12_readPart_67 ⟨(Nat.le_of_ble_eq_true rfl), (Nat.le_of_ble_eq_true rfl)⟩) hW (fun r f1 H locs hp hW => ?_)
                    obtain ⟨rfl, hp⟩ := hp
                    rcases hp with ⟨p, hpl, rfl, he, hfst⟩ | ⟨rfl, hp⟩
                    · have h5 := (hTp.1 j hj).2
                      have hnm := hTp.2 j p hj hpl
                      have hfd : q_find T (SD d) rk = some p := by rw [hD]; exact pu_find_s (g := fun i => T 3 (5 * j + i)) hfst he hpl
                      refine lv_istore (lv' := [(6, .int (nI (p))), (4, .long (lN 2)), (2, .long (rk)), (1, .int (nI (j))), (0, .ref (m))]) hx hb dX12_readPart_70 hl (by decide) rfl (fun ls hl => ?_)
                      refine lv_iload hx hb dX12_readPart_72 (lv_at hl 0 rfl) ?_
                      refine lv_if_lt (tgt := 81) hx hb dX12_readPart_74 (by decide) (fun c3 => ?_) (fun c3 => ?_)
                      · exact absurd c3 (nI_pos (by omega))
                      · refine lv_iconst (v := (nI (1))) hx hb dX12_readPart_77 (by decide) ?_
                        refine lv_goto (tgt := 82) hx hb dX12_readPart_78 (by decide) ?_
                        refine lv_istore (lv' := [(7, .int (nI (1))), (6, .int (nI (p))), (4, .long (lN 2)), (2, .long (rk)), (1, .int (nI (j))), (0, .ref (m))]) hx hb dX12_readPart_82 hl (by decide) rfl (fun ls hl => ?_)
                        refine lv_iload hx hb dX12_readPart_84 (lv_at hl 0 rfl) ?_
                        refine lv_if_eq (tgt := 113) hx hb dX12_readPart_86 (by decide) (fun c4 => ?_) (fun c4 => ?_)
                        · exact absurd c4 (by decide)
                        · refine lv_aload_n hx hb dX12_readPart_89 rfl (lv_at hl 5 rfl) ?_
                          refine rl_get (v := .ref (m + 6)) hC hW fl_X12_26 hR.1 rfl dX12_readPart_90 ?_
                          refine lv_iconst (v := (nI (5))) hx hb dX12_readPart_93 (by decide) ?_
                          refine lv_iload_n hx hb dX12_readPart_94 rfl (lv_at hl 4 rfl) ?_
                          refine lv_imul hx hb dX12_readPart_95 ?_
                          refine rl_topn (pk_mul _ _) ?_
                          refine lv_iload hx hb dX12_readPart_96 (lv_at hl 1 rfl) ?_
                          refine lv_iadd hx hb dX12_readPart_98 ?_
                          refine rl_topn (nI_add _ _) ?_
                          refine rl_iald_n (g := I 5) hC hW hR.a5 (by omega) (by decide) dX12_readPart_99 ?_
                          refine rl_topn (hnm.2.2.1) ?_
                          refine lv_i2l hx hb dX12_readPart_100 rfl ?_
                          refine lv_lload hx hb dX12_readPart_101 (lv_at hl 2 rfl) ?_
                          refine W.lcmp hx hb dX12_readPart_103 ?_
                          refine lv_if_eq (tgt := 113) hx hb dX12_readPart_104 (by decide) (fun c5 => ?_) (fun c5 => ?_)
                          · have hse : T 4 (5 * j + p) = 2 := by have := (lg_cmp_eq _ _).mp c5; rw [nI_l (by omega)] at this; exact (lN_eq (by omega) (by decide)).mp this
                            have hcs : ¬ q_cast T (SD d) (some p) 2 := by rw [hD]; exact fun q => q hse
                            refine lv_iconst (v := (nI (5))) hx hb dX12_readPart_113 (by decide) ?_
                            refine lv_aload_n hx hb dX12_readPart_114 rfl (lv_at hl 5 rfl) ?_
                            refine rl_get (v := .int (F 45)) hC hW fl_X12_251 hR.1 rfl dX12_readPart_115 ?_
                            refine rl_topn (y := nI (d + 1)) (hF45) ?_
                            refine lv_imul hx hb dX12_readPart_118 ?_
                            refine rl_topn (pk_mul _ _) ?_
                            refine lv_iload hx hb dX12_readPart_119 (lv_at hl 0 rfl) ?_
                            refine lv_if_eq (tgt := 129) hx hb dX12_readPart_121 (by decide) (fun c_46 => ?_) (fun c_46 => ?_)
                            · first | exact absurd c_46 (by decide) | exact absurd (by decide) c_46
                            · refine lv_iload hx hb dX12_readPart_124 (lv_at hl 1 rfl) ?_
                              refine lv_goto (tgt := 130) hx hb dX12_readPart_126 (by decide) ?_
                              refine lv_iadd hx hb dX12_readPart_130 ?_
                              refine rl_topn (nI_add _ _) ?_
                              refine lv_istore (lv' := [(8, .int (nI (((5) * (d + 1)) + (p)))), (7, .int (nI (1))), (6, .int (nI (p))), (4, .long (lN 2)), (2, .long (rk)), (1, .int (nI (j))), (0, .ref (m))]) hx hb dX12_readPart_131 hl (by decide) rfl (fun ls hl => ?_)
                              refine lv_lload hx hb dX12_readPart_133 (lv_at hl 3 rfl) ?_
                              refine lv_ldc2 (v := 2) hx hb hC.2.2.2.1 (hC.2.2.2.2.1 _ (List.mem_cons_of_mem _ mw_808)) dX12_readPart_135 ?_
                              refine W.lcmp hx hb dX12_readPart_138 ?_
                              refine rl_topn (y := 0) (by decide) ?_
                              refine lv_if_ge (tgt := 175) hx hb dX12_readPart_139 (by decide) (fun c_47 => ?_) (fun c_47 => ?_)
                              · refine lv_lload hx hb dX12_readPart_175 (lv_at hl 3 rfl) ?_
                                refine lv_ldc2 (v := 2) hx hb hC.2.2.2.1 (hC.2.2.2.2.1 _ (List.mem_cons_of_mem _ mw_808)) dX12_readPart_177 ?_
                                refine W.lcmp hx hb dX12_readPart_180 ?_
                                refine rl_topn (y := 0) (by decide) ?_
                                refine lv_if_ne (tgt := 263) hx hb dX12_readPart_181 (by decide) (fun c_48 => ?_) (fun c_48 => ?_)
                                · first | exact absurd c_48 (by decide) | exact absurd (by decide) c_48
                                · refine lv_aload_n hx hb dX12_readPart_184 rfl (lv_at hl 6 rfl) ?_
                                  refine rl_calllQ (rl_runV (b := m) (As := []) (rest := []) hC hW (cR_want l D t A _ z m T w ρ0 κ0 G0 (a + 1 + 1) (la2) 0 (d + 1) (ρ) (κ) G (d + 1) (d) SD SL SI ⟨_, _, _, hR, hTc, hTp, hTk, hGW, hGr, hGd, hGp, hGt, hGc, hF11, hF14, hF44, hF41, hF42, hF43, hF45, hN, hSI⟩) cs_X12_254 im_X12_want sl_X12_want hR.1 rfl ⟨(Nat.le_of_ble_eq_true rfl), (Nat.le_of_ble_eq_true rfl)⟩ rfl hl.1 rfl (Nat.le_of_ble_eq_true rfl) dX12_readPart_185 ⟨(Nat.le_of_ble_eq_true rfl), (Nat.le_of_ble_eq_true rfl)⟩) hW (fun rv f1 H locs hp hW => ?_)
                                  obtain ⟨a3, la3, bd3, hlf3, hQ, hw3⟩ := hp
                                  rcases hw3 with hw3 | hw3
                                  · obtain ⟨-, rfl, rfl⟩ := hw3
                                    obtain ⟨I, L, F, hR, hTc, hTp, hTk, hGW, hGr, hGd, hGp, hGt, hGc, hF11, hF14, hF44, hF41, hF42, hF43, hF45, hN, hSI⟩ := hQ
                                    obtain ⟨hlv, hd6, hw3, hρ0, hκ0, hbd, hgl⟩ := id hN
                                    have hl250 := hGW.2.2.2.2
                                    obtain ⟨ho, hof⟩ := (hTp.2 j p hj hpl).2.2.2.2.1 hse
                                    refine lv_lstore (lv' := [(9, .long (rv)), (8, .int (nI (((5) * (d + 1)) + (p)))), (7, .int (nI (1))), (6, .int (nI (p))), (4, .long (lN 2)), (2, .long (rk)), (1, .int (nI (j))), (0, .ref (m))]) hx hb dX12_readPart_188 hl (by decide) rfl (fun ls hl => ?_)
                                    refine lv_iload hx hb dX12_readPart_190 (lv_at hl 2 rfl) ?_
                                    refine lv_if_eq (tgt := 260) hx hb dX12_readPart_192 (by decide) (fun c_49 => ?_) (fun c_49 => ?_)
                                    · first | exact absurd c_49 (by decide) | exact absurd (by decide) c_49
                                    · refine lv_aload_n hx hb dX12_readPart_195 rfl (lv_at hl 7 rfl) ?_
                                      refine rl_get (v := .int (F 43)) hC hW fl_X12_238 hR.1 rfl dX12_readPart_196 ?_
                                      refine rl_topn (y := nI (0)) (hF43) ?_
                                      refine lv_if_ne (tgt := 260) hx hb dX12_readPart_199 (by decide) (fun c_50 => ?_) (fun c_50 => ?_)
                                      · first | exact absurd c_50 (by decide) | exact absurd (by decide) c_50
                                      · refine lv_lload hx hb dX12_readPart_202 (lv_at hl 0 rfl) ?_
                                        refine lv_ldc2 (v := -1) hx hb hC.2.2.2.1 (hC.2.2.2.2.1 _ (List.mem_cons_of_mem _ mw_941)) dX12_readPart_204 ?_
                                        refine W.lcmp hx hb dX12_readPart_207 ?_
                                        refine lv_if_ne (tgt := 215) hx hb dX12_readPart_208 (by decide) (fun cm => ?_) (fun cm => ?_)
                                        · have hvm : rv ≠ -1 := fun q => cm ((lg_cmp_eq _ _).mpr q)
                                          refine lv_aload_n hx hb dX12_readPart_215 rfl (lv_at hl 7 rfl) ?_
                                          refine lv_aload_n hx hb dX12_readPart_216 rfl (lv_at hl 7 rfl) ?_
                                          refine rl_get (v := .ref (m + 7)) hC hW fl_X12_29 hR.1 rfl dX12_readPart_217 ?_
                                          refine lv_iconst (v := (nI (5))) hx hb dX12_readPart_220 (by decide) ?_
                                          refine lv_iload_n hx hb dX12_readPart_221 rfl (lv_at hl 6 rfl) ?_
                                          refine lv_imul hx hb dX12_readPart_222 ?_
                                          refine rl_topn (pk_mul _ _) ?_
                                          refine lv_iload hx hb dX12_readPart_223 (lv_at hl 3 rfl) ?_
                                          refine lv_iadd hx hb dX12_readPart_225 ?_
                                          refine rl_topn (nI_add _ _) ?_
                                          refine rl_iald_n (g := I 6) hC hW hR.a6 (by omega) (by decide) dX12_readPart_226 ?_
                                          refine rl_topn (hof) ?_
                                          refine lv_aload_n hx hb dX12_readPart_227 rfl (lv_at hl 7 rfl) ?_
                                          refine rl_get (v := .int (F 44)) hC hW fl_X12_258 hR.1 rfl dX12_readPart_228 ?_
                                          refine rl_topn (y := nI (w)) (hF44) ?_
                                          refine lv_lload hx hb dX12_readPart_231 (lv_at hl 0 rfl) ?_
                                          refine rl_calliQ (rl_runV (b := m) (As := [.int (nI (T 8 (5 * j + p))), .int (nI (w)), .long (rv)]) (rest := []) hC hW (cR_constantBy l D t A _ z m I L F hR T hTc (T 8 (5 * j + p)) w ho hw3 _) cs_X12_129 im_X12_constantBy sl_X12_constantBy hR.1 rfl ⟨(Nat.le_of_ble_eq_true rfl), (Nat.le_of_ble_eq_true rfl)⟩ rfl hl.1 rfl (Nat.le_of_ble_eq_true rfl) dX12_readPart_233 ⟨(Nat.le_of_ble_eq_true rfl), (Nat.le_of_ble_eq_true rfl)⟩) hW (fun r f1 H locs hp hW => ?_)
                                          obtain ⟨rfl, hp⟩ := hp
                                          rcases hp with ⟨i, hi, rfl, he2, hfst2⟩ | ⟨rfl, hp⟩
                                          · have h10 := (hTc.1 (3 * T 8 (5 * j + p) + w) (by omega)).2
                                            refine lv_istore (lv' := [(11, .int (nI (10 * (3 * T 8 (5 * j + p) + w) + i))), (9, .long (rv)), (8, .int (nI (((5) * (d + 1)) + (p)))), (7, .int (nI (1))), (6, .int (nI (p))), (4, .long (lN 2)), (2, .long (rk)), (1, .int (nI (j))), (0, .ref (m))]) hx hb dX12_readPart_236 hl (by decide) rfl (fun ls hl => ?_)
                                            refine lv_iload hx hb dX12_readPart_238 (lv_at hl 0 rfl) ?_
                                            refine lv_bipush (v := (-3)) hx hb dX12_readPart_240 (by decide) ?_
                                            refine lv_icmp_ne (tgt := 251) hx hb dX12_readPart_242 (by decide) (fun c_51 => ?_) (fun c_51 => ?_)
                                            · refine lv_aload_n hx hb dX12_readPart_251 rfl (lv_at hl 8 rfl) ?_
                                              refine rl_get (v := .ref (m + 23)) hC hW fl_X12_85 hR.1 rfl dX12_readPart_252 ?_
                                              refine lv_iload hx hb dX12_readPart_255 (lv_at hl 2 rfl) ?_
                                              refine lv_iload hx hb dX12_readPart_257 (lv_at hl 0 rfl) ?_
                                              refine rl_iast_n (g := I 32) hC hW hR.a32 (by omega) (by decide) dX12_readPart_259 (fun H locs hW => ?_)
                                              have hR := hR.s32 (upd (I 32) (((5) * (d + 1)) + (p)) ((nI (10 * (3 * T 8 (5 * j + p) + w) + i))))
                                              refine lv_goto (tgt := 386) hx hb dX12_readPart_260 (by decide) ?_
                                              exact rl_vret hC hW hr hlk (Nat.le_refl _) (Nat.le_refl _) ⟨rfl, rfl, rfl, a + 1 + 1 + 1, la3, 0, d + 1, ρ, G, d + 1, d, va_up SD d (q_put (SD d) (some p) (hcon (10 * (3 * T 8 (5 * j + p) + w) + i))), SL, SI, ⟨_, _, _, hR, hTc, hTp, hTk, hGW, hGr, hGd, hGp, hGt, hGc, hF11, hF14, hF44, hF41, hF42, hF43, hF45, hN, (fun q => (hSI rfl).put (by omega) rfl (show 10 * (3 * T 8 (5 * j + p) + w) + i < 60 by omega))⟩, by omega, fun _ => ⟨rfl, by omega, rfl, by omega, by omega, by omega, by omega⟩, Or.inl ⟨q_put (SD d) (some p) (hcon (10 * (3 * T 8 (5 * j + p) + w) + i)), (pt_v hlf1 hlf2 rfl (by decide) hfd hcs).trans ((vl_c hlf3).trans (cn_f hD rfl hvm (pu_find_s (g := fun i => T 1 (10 * (3 * T 8 (5 * j + p) + w) + i)) hfst2 he2 hi))), fun _ => ⟨rfl, rfl, rfl, rfl⟩⟩⟩ dX12_readPart_386
                                            · exact absurd c_51 (rg_mn (by omega) (by decide))
                                          · refine lv_istore (lv' := [(11, .int (-3)), (9, .long (rv)), (8, .int (nI (((5) * (d + 1)) + (p)))), (7, .int (nI (1))), (6, .int (nI (p))), (4, .long (lN 2)), (2, .long (rk)), (1, .int (nI (j))), (0, .ref (m))]) hx hb dX12_readPart_236 hl (by decide) rfl (fun ls hl => ?_)
                                            refine lv_iload hx hb dX12_readPart_238 (lv_at hl 0 rfl) ?_
                                            refine lv_bipush (v := (-3)) hx hb dX12_readPart_240 (by decide) ?_
                                            refine lv_icmp_ne (tgt := 251) hx hb dX12_readPart_242 (by decide) (fun c_52 => ?_) (fun c_52 => ?_)
                                            · first | exact absurd c_52 (by decide) | exact absurd (by decide) c_52
                                            · refine lv_aload_n hx hb dX12_readPart_245 rfl (lv_at hl 8 rfl) ?_
                                              refine lv_bipush (v := (nI (7))) hx hb dX12_readPart_246 (by decide) ?_
                                              refine rl_callvQ (rl_runV (b := m) (As := [.int (nI (7))]) (rest := []) hC hW (cR_fails l D t A _ z m T w ρ0 κ0 G0 (a + 1 + 1 + 1) (la3) 0 (d + 1) (ρ) (κ) G (d + 1) (d) SD SL SI ⟨_, _, _, hR, hTc, hTp, hTk, hGW, hGr, hGd, hGp, hGt, hGc, hF11, hF14, hF44, hF41, hF42, hF43, hF45, hN, hSI⟩ 7 (by decide) (by decide)) cs_X12_247 im_X12_fails sl_X12_fails hR.1 rfl ⟨(Nat.le_of_ble_eq_true rfl), (Nat.le_of_ble_eq_true rfl)⟩ rfl hl.1 rfl (Nat.le_of_ble_eq_true rfl) dX12_readPart_248 ⟨(Nat.le_of_ble_eq_true rfl), (Nat.le_of_ble_eq_true rfl)⟩) hW (fun f1 H locs hp hW => ?_)
                                              obtain ⟨bd4, hfe4, hne, hQ⟩ := hp
                                              obtain ⟨I, L, F, hR, hTc, hTp, hTk, hGW, hGr, hGd, hGp, hGt, hGc, hF11, hF14, hF44, hF41, hF42, hF43, hF45, hN, hSI⟩ := hQ
                                              obtain ⟨hlv, hd6, hw3, hρ0, hκ0, hbd, hgl⟩ := id hN
                                              have hl250 := hGW.2.2.2.2
                                              refine lv_aload_n hx hb dX12_readPart_251 rfl (lv_at hl 8 rfl) ?_
                                              refine rl_get (v := .ref (m + 23)) hC hW fl_X12_85 hR.1 rfl dX12_readPart_252 ?_
                                              refine lv_iload hx hb dX12_readPart_255 (lv_at hl 2 rfl) ?_
                                              refine lv_iload hx hb dX12_readPart_257 (lv_at hl 0 rfl) ?_
                                              refine rl_iast_n (g := I 32) hC hW hR.a32 (by omega) (by decide) dX12_readPart_259 (fun H locs hW => ?_)
                                              have hR := hR.s32 (upd (I 32) (((5) * (d + 1)) + (p)) ((-3)))
                                              refine lv_goto (tgt := 386) hx hb dX12_readPart_260 (by decide) ?_
                                              exact rl_vret hC hW hr hlk (Nat.le_refl _) (Nat.le_refl _) ⟨rfl, rfl, rfl, a + 1 + 1 + 1, la3, bd4, d + 1, ρ, G, d + 1, d, SD, SL, SI, ⟨_, _, _, hR, hTc, hTp, hTk, hGW, hGr, hGd, hGp, hGt, hGc, hF11, hF14, hF44, hF41, hF42, hF43, hF45, hN, (fun q => absurd q hne)⟩, by omega, fun q => absurd q hne, Or.inl ⟨_, (pt_v hlf1 hlf2 rfl (by decide) hfd hcs).trans ((vl_c hlf3).trans ((cn_n hD rfl hvm (pu_find_n (g := fun i => T 1 (10 * (3 * T 8 (5 * j + p) + w) + i)) hp)).trans (by rw [hfe4]))), fun q => absurd q hne⟩⟩ dX12_readPart_386
                                        · have hvm : rv = -1 := (lg_cmp_eq _ _).mp cm
                                          refine lv_iconst (v := (-1)) hx hb dX12_readPart_211 (by decide) ?_
                                          refine lv_goto (tgt := 236) hx hb dX12_readPart_212 (by decide) ?_
                                          refine lv_istore (lv' := [(11, .int (-1)), (9, .long (rv)), (8, .int (nI (((5) * (d + 1)) + (p)))), (7, .int (nI (1))), (6, .int (nI (p))), (4, .long (lN 2)), (2, .long (rk)), (1, .int (nI (j))), (0, .ref (m))]) hx hb dX12_readPart_236 hl (by decide) rfl (fun ls hl => ?_)
                                          refine lv_iload hx hb dX12_readPart_238 (lv_at hl 0 rfl) ?_
                                          refine lv_bipush (v := (-3)) hx hb dX12_readPart_240 (by decide) ?_
                                          refine lv_icmp_ne (tgt := 251) hx hb dX12_readPart_242 (by decide) (fun c_53 => ?_) (fun c_53 => ?_)
                                          · refine lv_aload_n hx hb dX12_readPart_251 rfl (lv_at hl 8 rfl) ?_
                                            refine rl_get (v := .ref (m + 23)) hC hW fl_X12_85 hR.1 rfl dX12_readPart_252 ?_
                                            refine lv_iload hx hb dX12_readPart_255 (lv_at hl 2 rfl) ?_
                                            refine lv_iload hx hb dX12_readPart_257 (lv_at hl 0 rfl) ?_
                                            refine rl_iast_n (g := I 32) hC hW hR.a32 (by omega) (by decide) dX12_readPart_259 (fun H locs hW => ?_)
                                            have hR := hR.s32 (upd (I 32) (((5) * (d + 1)) + (p)) ((-1)))
                                            refine lv_goto (tgt := 386) hx hb dX12_readPart_260 (by decide) ?_
                                            exact rl_vret hC hW hr hlk (Nat.le_refl _) (Nat.le_refl _) ⟨rfl, rfl, rfl, a + 1 + 1 + 1, la3, 0, d + 1, ρ, G, d + 1, d, va_up SD d (q_put (SD d) (some p) none), SL, SI, ⟨_, _, _, hR, hTc, hTp, hTk, hGW, hGr, hGd, hGp, hGt, hGc, hF11, hF14, hF44, hF41, hF42, hF43, hF45, hN, (fun q => (hSI rfl).put (by omega) rfl trivial)⟩, by omega, fun _ => ⟨rfl, by omega, rfl, by omega, by omega, by omega, by omega⟩, Or.inl ⟨q_put (SD d) (some p) none, (pt_v hlf1 hlf2 rfl (by decide) hfd hcs).trans ((vl_c hlf3).trans (cn_b hD (fun q => q.2 hvm))), fun _ => ⟨rfl, rfl, rfl, rfl⟩⟩⟩ dX12_readPart_386
                                          · first | exact absurd c_53 (by decide) | exact absurd (by decide) c_53
                                  · obtain ⟨hne, rfl, hr03⟩ := hw3
                                    obtain ⟨I, L, F, hR, hTc, hTp, hTk, hGW, hGr, hGd, hGp, hGt, hGc, hF11, hF14, hF44, hF41, hF42, hF43, hF45, hN, hSI⟩ := hQ
                                    obtain ⟨hlv, hd6, hw3, hρ0, hκ0, hbd, hgl⟩ := id hN
                                    have hl250 := hGW.2.2.2.2
                                    refine lv_lstore (lv' := [(9, .long (rv)), (8, .int (nI (((5) * (d + 1)) + (p)))), (7, .int (nI (1))), (6, .int (nI (p))), (4, .long (lN 2)), (2, .long (rk)), (1, .int (nI (j))), (0, .ref (m))]) hx hb dX12_readPart_188 hl (by decide) rfl (fun ls hl => ?_)
                                    refine lv_iload hx hb dX12_readPart_190 (lv_at hl 2 rfl) ?_
                                    refine lv_if_eq (tgt := 260) hx hb dX12_readPart_192 (by decide) (fun c_54 => ?_) (fun c_54 => ?_)
                                    · first | exact absurd c_54 (by decide) | exact absurd (by decide) c_54
                                    · refine lv_aload_n hx hb dX12_readPart_195 rfl (lv_at hl 7 rfl) ?_
                                      refine rl_get (v := .int (F 43)) hC hW fl_X12_238 hR.1 rfl dX12_readPart_196 ?_
                                      refine rl_topn (y := nI (bd3)) (hF43) ?_
                                      refine lv_if_ne (tgt := 260) hx hb dX12_readPart_199 (by decide) (fun c_55 => ?_) (fun c_55 => ?_)
                                      · refine lv_goto (tgt := 386) hx hb dX12_readPart_260 (by decide) ?_
                                        exact rl_vret hC hW hr hlk (Nat.le_refl _) (Nat.le_refl _) ⟨rfl, rfl, rfl, a + 1 + 1, la3, bd3, d + 1, ρ, G, d + 1, d, SD, SL, SI, ⟨_, _, _, hR, hTc, hTp, hTk, hGW, hGr, hGd, hGp, hGt, hGc, hF11, hF14, hF44, hF41, hF42, hF43, hF45, hN, (fun q => absurd q hne)⟩, by omega, fun q => absurd q hne, Or.inl ⟨_, (pt_v hlf1 hlf2 rfl (by decide) hfd hcs).trans ((vl_c hlf3).trans (cn_b hD (fun q => hne q.1))), fun q => absurd q hne⟩⟩ dX12_readPart_386
                                      · exact absurd ((nI_eq (by omega) (by decide)).mp c_55) hne
                              · first | exact absurd c_47 (by decide) | exact absurd (by decide) c_47
                          · have hcs : q_cast T (SD d) (some p) 2 := by rw [hD]; exact fun q => c5 ((lg_cmp_eq _ _).mpr (by rw [show T 4 (5 * j + p) = 2 from q]; decide))
                            refine lv_aload_n hx hb dX12_readPart_107 rfl (lv_at hl 5 rfl) ?_
                            refine lv_iconst (v := (nI (1))) hx hb dX12_readPart_108 (by decide) ?_
                            refine rl_callvQ (rl_runV (b := m) (As := [.int (nI (1))]) (rest := []) hC hW (cR_fails l D t A _ z m T w ρ0 κ0 G0 (a + 1 + 1) (la2) 0 (d + 1) (ρ) (κ) G (d + 1) (d) SD SL SI ⟨_, _, _, hR, hTc, hTp, hTk, hGW, hGr, hGd, hGp, hGt, hGc, hF11, hF14, hF44, hF41, hF42, hF43, hF45, hN, hSI⟩ 1 (by decide) (by decide)) cs_X12_247 im_X12_fails sl_X12_fails hR.1 rfl ⟨(Nat.le_of_ble_eq_true rfl), (Nat.le_of_ble_eq_true rfl)⟩ rfl hl.1 rfl (Nat.le_of_ble_eq_true rfl) dX12_readPart_109 ⟨(Nat.le_of_ble_eq_true rfl), (Nat.le_of_ble_eq_true rfl)⟩) hW (fun f1 H locs hp hW => ?_)
                            obtain ⟨bd4, hfe4, hne, hQ⟩ := hp
                            obtain ⟨I, L, F, hR, hTc, hTp, hTk, hGW, hGr, hGd, hGp, hGt, hGc, hF11, hF14, hF44, hF41, hF42, hF43, hF45, hN, hSI⟩ := hQ
                            obtain ⟨hlv, hd6, hw3, hρ0, hκ0, hbd, hgl⟩ := id hN
                            have hl250 := hGW.2.2.2.2
                            exact rl_vret hC hW hr hlk (Nat.le_refl _) (Nat.le_refl _) ⟨rfl, rfl, rfl, a + 1 + 1, la2, bd4, d + 1, ρ, G, d + 1, d, SD, SL, SI, ⟨_, _, _, hR, hTc, hTp, hTk, hGW, hGr, hGd, hGp, hGt, hGc, hF11, hF14, hF44, hF41, hF42, hF43, hF45, hN, (fun q => absurd q hne)⟩, by omega, fun q => absurd q hne, Or.inl ⟨_, (pt_c hlf1 hlf2 rfl (by decide) hfd hcs).trans (by rw [hfe4]), fun q => absurd q hne⟩⟩ dX12_readPart_112
                    · have hfd : q_find T (SD d) rk = none := by rw [hD]; exact pu_find_n (g := fun i => T 3 (5 * j + i)) hp
                      refine lv_istore (lv' := [(6, .int (-3)), (4, .long (lN 2)), (2, .long (rk)), (1, .int (nI (j))), (0, .ref (m))]) hx hb dX12_readPart_70 hl (by decide) rfl (fun ls hl => ?_)
                      refine lv_iload hx hb dX12_readPart_72 (lv_at hl 0 rfl) ?_
                      refine lv_if_lt (tgt := 81) hx hb dX12_readPart_74 (by decide) (fun c3 => ?_) (fun c3 => ?_)
                      · have hcs : ¬ q_cast T (SD d) none 2 := cs_n
                        refine lv_iconst (v := (nI (0))) hx hb dX12_readPart_81 (by decide) ?_
                        refine lv_istore (lv' := [(7, .int (nI (0))), (6, .int (-3)), (4, .long (lN 2)), (2, .long (rk)), (1, .int (nI (j))), (0, .ref (m))]) hx hb dX12_readPart_82 hl (by decide) rfl (fun ls hl => ?_)
                        refine lv_iload hx hb dX12_readPart_84 (lv_at hl 0 rfl) ?_
                        refine lv_if_eq (tgt := 113) hx hb dX12_readPart_86 (by decide) (fun c4 => ?_) (fun c4 => ?_)
                        · refine lv_iconst (v := (nI (5))) hx hb dX12_readPart_113 (by decide) ?_
                          refine lv_aload_n hx hb dX12_readPart_114 rfl (lv_at hl 5 rfl) ?_
                          refine rl_get (v := .int (F 45)) hC hW fl_X12_251 hR.1 rfl dX12_readPart_115 ?_
                          refine rl_topn (y := nI (d + 1)) (hF45) ?_
                          refine lv_imul hx hb dX12_readPart_118 ?_
                          refine rl_topn (pk_mul _ _) ?_
                          refine lv_iload hx hb dX12_readPart_119 (lv_at hl 0 rfl) ?_
                          refine lv_if_eq (tgt := 129) hx hb dX12_readPart_121 (by decide) (fun c_56 => ?_) (fun c_56 => ?_)
                          · refine lv_iconst (v := (nI (0))) hx hb dX12_readPart_129 (by decide) ?_
                            refine lv_iadd hx hb dX12_readPart_130 ?_
                            refine rl_topn (nI_add _ _) ?_
                            refine lv_istore (lv' := [(8, .int (nI (((5) * (d + 1)) + (0)))), (7, .int (nI (0))), (6, .int (-3)), (4, .long (lN 2)), (2, .long (rk)), (1, .int (nI (j))), (0, .ref (m))]) hx hb dX12_readPart_131 hl (by decide) rfl (fun ls hl => ?_)
                            refine lv_lload hx hb dX12_readPart_133 (lv_at hl 3 rfl) ?_
                            refine lv_ldc2 (v := 2) hx hb hC.2.2.2.1 (hC.2.2.2.2.1 _ (List.mem_cons_of_mem _ mw_808)) dX12_readPart_135 ?_
                            refine W.lcmp hx hb dX12_readPart_138 ?_
                            refine rl_topn (y := 0) (by decide) ?_
                            refine lv_if_ge (tgt := 175) hx hb dX12_readPart_139 (by decide) (fun c_57 => ?_) (fun c_57 => ?_)
                            · refine lv_lload hx hb dX12_readPart_175 (lv_at hl 3 rfl) ?_
                              refine lv_ldc2 (v := 2) hx hb hC.2.2.2.1 (hC.2.2.2.2.1 _ (List.mem_cons_of_mem _ mw_808)) dX12_readPart_177 ?_
                              refine W.lcmp hx hb dX12_readPart_180 ?_
                              refine rl_topn (y := 0) (by decide) ?_
                              refine lv_if_ne (tgt := 263) hx hb dX12_readPart_181 (by decide) (fun c_58 => ?_) (fun c_58 => ?_)
                              · first | exact absurd c_58 (by decide) | exact absurd (by decide) c_58
                              · refine lv_aload_n hx hb dX12_readPart_184 rfl (lv_at hl 6 rfl) ?_
                                refine rl_calllQ (rl_runV (b := m) (As := []) (rest := []) hC hW (cR_want l D t A _ z m T w ρ0 κ0 G0 (a + 1 + 1) (la2) 0 (d + 1) (ρ) (κ) G (d + 1) (d) SD SL SI ⟨_, _, _, hR, hTc, hTp, hTk, hGW, hGr, hGd, hGp, hGt, hGc, hF11, hF14, hF44, hF41, hF42, hF43, hF45, hN, hSI⟩) cs_X12_254 im_X12_want sl_X12_want hR.1 rfl ⟨(Nat.le_of_ble_eq_true rfl), (Nat.le_of_ble_eq_true rfl)⟩ rfl hl.1 rfl (Nat.le_of_ble_eq_true rfl) dX12_readPart_185 ⟨(Nat.le_of_ble_eq_true rfl), (Nat.le_of_ble_eq_true rfl)⟩) hW (fun rv f1 H locs hp hW => ?_)
                                obtain ⟨a3, la3, bd3, hlf3, hQ, hw3⟩ := hp
                                rcases hw3 with hw3 | hw3
                                · obtain ⟨-, rfl, rfl⟩ := hw3
                                  obtain ⟨I, L, F, hR, hTc, hTp, hTk, hGW, hGr, hGd, hGp, hGt, hGc, hF11, hF14, hF44, hF41, hF42, hF43, hF45, hN, hSI⟩ := hQ
                                  obtain ⟨hlv, hd6, hw3, hρ0, hκ0, hbd, hgl⟩ := id hN
                                  have hl250 := hGW.2.2.2.2
                                  refine lv_lstore (lv' := [(9, .long (rv)), (8, .int (nI (((5) * (d + 1)) + (0)))), (7, .int (nI (0))), (6, .int (-3)), (4, .long (lN 2)), (2, .long (rk)), (1, .int (nI (j))), (0, .ref (m))]) hx hb dX12_readPart_188 hl (by decide) rfl (fun ls hl => ?_)
                                  refine lv_iload hx hb dX12_readPart_190 (lv_at hl 2 rfl) ?_
                                  refine lv_if_eq (tgt := 260) hx hb dX12_readPart_192 (by decide) (fun c_59 => ?_) (fun c_59 => ?_)
                                  · refine lv_goto (tgt := 386) hx hb dX12_readPart_260 (by decide) ?_
                                    exact rl_vret hC hW hr hlk (Nat.le_refl _) (Nat.le_refl _) ⟨rfl, rfl, rfl, a + 1 + 1 + 1, la3, 0, d + 1, ρ, G, d + 1, d, va_up SD d (SD d), SL, SI, ⟨_, _, _, hR, hTc, hTp, hTk, hGW, hGr, hGd, hGp, hGt, hGc, hF11, hF14, hF44, hF41, hF42, hF43, hF45, hN, (fun _ => by rw [va_up_same]; exact hSI rfl)⟩, by omega, fun _ => ⟨rfl, by omega, rfl, by omega, by omega, by omega, by omega⟩, Or.inl ⟨SD d, (pt_v hlf1 hlf2 rfl (by decide) hfd hcs).trans ((vl_c hlf3).trans cn_0), fun _ => ⟨rfl, rfl, rfl, rfl⟩⟩⟩ dX12_readPart_386
                                  · first | exact absurd c_59 (by decide) | exact absurd (by decide) c_59
                                · obtain ⟨hne, rfl, hr03⟩ := hw3
                                  obtain ⟨I, L, F, hR, hTc, hTp, hTk, hGW, hGr, hGd, hGp, hGt, hGc, hF11, hF14, hF44, hF41, hF42, hF43, hF45, hN, hSI⟩ := hQ
                                  obtain ⟨hlv, hd6, hw3, hρ0, hκ0, hbd, hgl⟩ := id hN
                                  have hl250 := hGW.2.2.2.2
                                  refine lv_lstore (lv' := [(9, .long (rv)), (8, .int (nI (((5) * (d + 1)) + (0)))), (7, .int (nI (0))), (6, .int (-3)), (4, .long (lN 2)), (2, .long (rk)), (1, .int (nI (j))), (0, .ref (m))]) hx hb dX12_readPart_188 hl (by decide) rfl (fun ls hl => ?_)
                                  refine lv_iload hx hb dX12_readPart_190 (lv_at hl 2 rfl) ?_
                                  refine lv_if_eq (tgt := 260) hx hb dX12_readPart_192 (by decide) (fun c_60 => ?_) (fun c_60 => ?_)
                                  · refine lv_goto (tgt := 386) hx hb dX12_readPart_260 (by decide) ?_
                                    exact rl_vret hC hW hr hlk (Nat.le_refl _) (Nat.le_refl _) ⟨rfl, rfl, rfl, a + 1 + 1, la3, bd3, d + 1, ρ, G, d + 1, d, SD, SL, SI, ⟨_, _, _, hR, hTc, hTp, hTk, hGW, hGr, hGd, hGp, hGt, hGc, hF11, hF14, hF44, hF41, hF42, hF43, hF45, hN, (fun q => absurd q hne)⟩, by omega, fun q => absurd q hne, Or.inl ⟨_, (pt_v hlf1 hlf2 rfl (by decide) hfd hcs).trans ((vl_c hlf3).trans cn_0), fun q => absurd q hne⟩⟩ dX12_readPart_386
                                  · first | exact absurd c_60 (by decide) | exact absurd (by decide) c_60
                            · first | exact absurd c_57 (by decide) | exact absurd (by decide) c_57
                          · first | exact absurd c_56 (by decide) | exact absurd (by decide) c_56
                        · first | exact absurd c4 (by decide) | exact absurd (by decide) c4
                      · exact absurd (by decide) c3
                  · exact absurd (nI_pos' (by omega)) c2
                · exact absurd rfl c8
              · exact absurd c9 (by decide)
            · refine lv_if_ne (tgt := 47) hx hb dX12_readPart_39 (by decide) (fun c9 => ?_) (fun c9 => ?_)
              · refine lv_aload_n hx hb dX12_readPart_47 rfl (lv_at hl 3 rfl) ?_
                refine rl_get (v := .int (F 43)) hC hW fl_X12_238 hR.1 rfl dX12_readPart_48 ?_
                refine rl_topn (y := nI (0)) (hF43) ?_
                refine lv_if_eq (tgt := 55) hx hb dX12_readPart_51 (by decide) (fun c8 => ?_) (fun c8 => ?_)
                · refine lv_iload_n hx hb dX12_readPart_55 rfl (lv_at hl 2 rfl) ?_
                  refine lv_if_ge (tgt := 64) hx hb dX12_readPart_56 (by decide) (fun c2 => ?_) (fun c2 => ?_)
                  · refine lv_aload_n hx hb dX12_readPart_64 rfl (lv_at hl 3 rfl) ?_
                    refine lv_iload_n hx hb dX12_readPart_65 rfl (lv_at hl 2 rfl) ?_
                    refine lv_lload_n hx hb dX12_readPart_66 rfl (lv_at hl 1 rfl) ?_
                    refine rl_calliQ (rl_runV (b := m) (As := [.int (nI (j)), .long (rk)]) (rest := []) hC hW (cR_partBy l D t A _ z m I L F hR T hTp j hj _) cs_X12_139 im_X12_partBy sl_X12_partBy hR.1 rfl ⟨(Nat.le_of_ble_eq_true rfl), (Nat.le_of_ble_eq_true rfl)⟩ rfl hl.1 rfl (Nat.le_of_ble_eq_true rfl) dX12_readPart_67 ⟨(Nat.le_of_ble_eq_true rfl), (Nat.le_of_ble_eq_true rfl)⟩) hW (fun r f1 H locs hp hW => ?_)
                    obtain ⟨rfl, hp⟩ := hp
                    rcases hp with ⟨p, hpl, rfl, he, hfst⟩ | ⟨rfl, hp⟩
                    · have h5 := (hTp.1 j hj).2
                      have hnm := hTp.2 j p hj hpl
                      have hfd : q_find T (SD d) rk = some p := by rw [hD]; exact pu_find_s (g := fun i => T 3 (5 * j + i)) hfst he hpl
                      refine lv_istore (lv' := [(6, .int (nI (p))), (4, .long (lN 3)), (2, .long (rk)), (1, .int (nI (j))), (0, .ref (m))]) hx hb dX12_readPart_70 hl (by decide) rfl (fun ls hl => ?_)
                      refine lv_iload hx hb dX12_readPart_72 (lv_at hl 0 rfl) ?_
                      refine lv_if_lt (tgt := 81) hx hb dX12_readPart_74 (by decide) (fun c3 => ?_) (fun c3 => ?_)
                      · exact absurd c3 (nI_pos (by omega))
                      · refine lv_iconst (v := (nI (1))) hx hb dX12_readPart_77 (by decide) ?_
                        refine lv_goto (tgt := 82) hx hb dX12_readPart_78 (by decide) ?_
                        refine lv_istore (lv' := [(7, .int (nI (1))), (6, .int (nI (p))), (4, .long (lN 3)), (2, .long (rk)), (1, .int (nI (j))), (0, .ref (m))]) hx hb dX12_readPart_82 hl (by decide) rfl (fun ls hl => ?_)
                        refine lv_iload hx hb dX12_readPart_84 (lv_at hl 0 rfl) ?_
                        refine lv_if_eq (tgt := 113) hx hb dX12_readPart_86 (by decide) (fun c4 => ?_) (fun c4 => ?_)
                        · exact absurd c4 (by decide)
                        · refine lv_aload_n hx hb dX12_readPart_89 rfl (lv_at hl 5 rfl) ?_
                          refine rl_get (v := .ref (m + 6)) hC hW fl_X12_26 hR.1 rfl dX12_readPart_90 ?_
                          refine lv_iconst (v := (nI (5))) hx hb dX12_readPart_93 (by decide) ?_
                          refine lv_iload_n hx hb dX12_readPart_94 rfl (lv_at hl 4 rfl) ?_
                          refine lv_imul hx hb dX12_readPart_95 ?_
                          refine rl_topn (pk_mul _ _) ?_
                          refine lv_iload hx hb dX12_readPart_96 (lv_at hl 1 rfl) ?_
                          refine lv_iadd hx hb dX12_readPart_98 ?_
                          refine rl_topn (nI_add _ _) ?_
                          refine rl_iald_n (g := I 5) hC hW hR.a5 (by omega) (by decide) dX12_readPart_99 ?_
                          refine rl_topn (hnm.2.2.1) ?_
                          refine lv_i2l hx hb dX12_readPart_100 rfl ?_
                          refine lv_lload hx hb dX12_readPart_101 (lv_at hl 2 rfl) ?_
                          refine W.lcmp hx hb dX12_readPart_103 ?_
                          refine lv_if_eq (tgt := 113) hx hb dX12_readPart_104 (by decide) (fun c5 => ?_) (fun c5 => ?_)
                          · have hse : T 4 (5 * j + p) = 3 := by have := (lg_cmp_eq _ _).mp c5; rw [nI_l (by omega)] at this; exact (lN_eq (by omega) (by decide)).mp this
                            have hcs : ¬ q_cast T (SD d) (some p) 3 := by rw [hD]; exact fun q => q hse
                            refine lv_iconst (v := (nI (5))) hx hb dX12_readPart_113 (by decide) ?_
                            refine lv_aload_n hx hb dX12_readPart_114 rfl (lv_at hl 5 rfl) ?_
                            refine rl_get (v := .int (F 45)) hC hW fl_X12_251 hR.1 rfl dX12_readPart_115 ?_
                            refine rl_topn (y := nI (d + 1)) (hF45) ?_
                            refine lv_imul hx hb dX12_readPart_118 ?_
                            refine rl_topn (pk_mul _ _) ?_
                            refine lv_iload hx hb dX12_readPart_119 (lv_at hl 0 rfl) ?_
                            refine lv_if_eq (tgt := 129) hx hb dX12_readPart_121 (by decide) (fun c_61 => ?_) (fun c_61 => ?_)
                            · first | exact absurd c_61 (by decide) | exact absurd (by decide) c_61
                            · refine lv_iload hx hb dX12_readPart_124 (lv_at hl 1 rfl) ?_
                              refine lv_goto (tgt := 130) hx hb dX12_readPart_126 (by decide) ?_
                              refine lv_iadd hx hb dX12_readPart_130 ?_
                              refine rl_topn (nI_add _ _) ?_
                              refine lv_istore (lv' := [(8, .int (nI (((5) * (d + 1)) + (p)))), (7, .int (nI (1))), (6, .int (nI (p))), (4, .long (lN 3)), (2, .long (rk)), (1, .int (nI (j))), (0, .ref (m))]) hx hb dX12_readPart_131 hl (by decide) rfl (fun ls hl => ?_)
                              refine lv_lload hx hb dX12_readPart_133 (lv_at hl 3 rfl) ?_
                              refine lv_ldc2 (v := 2) hx hb hC.2.2.2.1 (hC.2.2.2.2.1 _ (List.mem_cons_of_mem _ mw_808)) dX12_readPart_135 ?_
                              refine W.lcmp hx hb dX12_readPart_138 ?_
                              refine rl_topn (y := 1) (by decide) ?_
                              refine lv_if_ge (tgt := 175) hx hb dX12_readPart_139 (by decide) (fun c_62 => ?_) (fun c_62 => ?_)
                              · refine lv_lload hx hb dX12_readPart_175 (lv_at hl 3 rfl) ?_
                                refine lv_ldc2 (v := 2) hx hb hC.2.2.2.1 (hC.2.2.2.2.1 _ (List.mem_cons_of_mem _ mw_808)) dX12_readPart_177 ?_
                                refine W.lcmp hx hb dX12_readPart_180 ?_
                                refine rl_topn (y := 1) (by decide) ?_
                                refine lv_if_ne (tgt := 263) hx hb dX12_readPart_181 (by decide) (fun c_63 => ?_) (fun c_63 => ?_)
                                · refine lv_lload hx hb dX12_readPart_263 (lv_at hl 3 rfl) ?_
                                  refine lv_ldc2 (v := 4) hx hb hC.2.2.2.1 (hC.2.2.2.2.1 _ (List.mem_cons_of_mem _ mw_822)) dX12_readPart_265 ?_
                                  refine W.lcmp hx hb dX12_readPart_268 ?_
                                  refine rl_topn (y := -1) (by decide) ?_
                                  refine lv_if_ne (tgt := 307) hx hb dX12_readPart_269 (by decide) (fun c_64 => ?_) (fun c_64 => ?_)
                                  · refine lv_aload_n hx hb dX12_readPart_307 rfl (lv_at hl 6 rfl) ?_
                                    refine rl_calllQ (rl_runV (b := m) (As := []) (rest := []) hC hW (cR_want l D t A _ z m T w ρ0 κ0 G0 (a + 1 + 1) (la2) 0 (d + 1) (ρ) (κ) G (d + 1) (d) SD SL SI ⟨_, _, _, hR, hTc, hTp, hTk, hGW, hGr, hGd, hGp, hGt, hGc, hF11, hF14, hF44, hF41, hF42, hF43, hF45, hN, hSI⟩) cs_X12_254 im_X12_want sl_X12_want hR.1 rfl ⟨(Nat.le_of_ble_eq_true rfl), (Nat.le_of_ble_eq_true rfl)⟩ rfl hl.1 rfl (Nat.le_of_ble_eq_true rfl) dX12_readPart_308 ⟨(Nat.le_of_ble_eq_true rfl), (Nat.le_of_ble_eq_true rfl)⟩) hW (fun rv f1 H locs hp hW => ?_)
                                    obtain ⟨a3, la3, bd3, hlf3, hQ, hw3⟩ := hp
                                    rcases hw3 with hw3 | hw3
                                    · obtain ⟨-, rfl, rfl⟩ := hw3
                                      obtain ⟨I, L, F, hR, hTc, hTp, hTk, hGW, hGr, hGd, hGp, hGt, hGc, hF11, hF14, hF44, hF41, hF42, hF43, hF45, hN, hSI⟩ := hQ
                                      obtain ⟨hlv, hd6, hw3, hρ0, hκ0, hbd, hgl⟩ := id hN
                                      have hl250 := hGW.2.2.2.2
                                      refine lv_lstore (lv' := [(9, .long (rv)), (8, .int (nI (((5) * (d + 1)) + (p)))), (7, .int (nI (1))), (6, .int (nI (p))), (4, .long (lN 3)), (2, .long (rk)), (1, .int (nI (j))), (0, .ref (m))]) hx hb dX12_readPart_311 hl (by decide) rfl (fun ls hl => ?_)
                                      refine lv_aload_n hx hb dX12_readPart_313 rfl (lv_at hl 7 rfl) ?_
                                      refine rl_get (v := .ref (m + 23)) hC hW fl_X12_85 hR.1 rfl dX12_readPart_314 ?_
                                      refine lv_iload hx hb dX12_readPart_317 (lv_at hl 1 rfl) ?_
                                      refine lv_iload hx hb dX12_readPart_319 (lv_at hl 2 rfl) ?_
                                      refine lv_if_eq (tgt := 335) hx hb dX12_readPart_321 (by decide) (fun c10 => ?_) (fun c10 => ?_)
                                      · first | exact absurd c10 (by decide) | exact absurd (by decide) c10
                                      · refine lv_lload hx hb dX12_readPart_324 (lv_at hl 0 rfl) ?_
                                        refine lv_lconst (v := 0) hx hb dX12_readPart_326 (by decide) ?_
                                        refine W.lcmp hx hb dX12_readPart_327 ?_
                                        refine lv_if_ne (tgt := 335) hx hb dX12_readPart_328 (by decide) (fun c11 => ?_) (fun c11 => ?_)
                                        · have hv0 : rv ≠ 0 := fun q => c11 ((lg_cmp_eq _ _).mpr q)
                                          refine lv_aload_n hx hb dX12_readPart_335 rfl (lv_at hl 7 rfl) ?_
                                          refine rl_get (v := .ref (m + 23)) hC hW fl_X12_85 hR.1 rfl dX12_readPart_336 ?_
                                          refine lv_iload hx hb dX12_readPart_339 (lv_at hl 1 rfl) ?_
                                          refine rl_iald_n (g := I 32) hC hW hR.a32 (by omega) (by decide) dX12_readPart_341 ?_
                                          refine rl_iast_n (g := I 32) hC hW hR.a32 (by omega) (by decide) dX12_readPart_342 (fun H locs hW => ?_)
                                          have hR := hR.s32 (upd (I 32) (((5) * (d + 1)) + (p)) ((I 32 (((5) * (d + 1)) + (p)))))
                                          refine lv_aload_n hx hb dX12_readPart_343 rfl (lv_at hl 7 rfl) ?_
                                          refine rl_get (v := .int (F 43)) hC hW fl_X12_238 hR.1 rfl dX12_readPart_344 ?_
                                          refine rl_topn (y := nI (0)) (hF43) ?_
                                          refine lv_if_ne (tgt := 386) hx hb dX12_readPart_347 (by decide) (fun c5 => ?_) (fun c5 => ?_)
                                          · exact absurd rfl c5
                                          · refine lv_lload hx hb dX12_readPart_350 (lv_at hl 0 rfl) ?_
                                            refine lv_lconst (v := 0) hx hb dX12_readPart_352 (by decide) ?_
                                            refine W.lcmp hx hb dX12_readPart_353 ?_
                                            refine lv_if_eq (tgt := 386) hx hb dX12_readPart_354 (by decide) (fun c6 => ?_) (fun c6 => ?_)
                                            · exact absurd ((lg_cmp_eq _ _).mp c6) hv0
                                            · refine lv_aload_n hx hb dX12_readPart_357 rfl (lv_at hl 7 rfl) ?_
                                              refine rl_get (v := .ref (m + 32)) hC hW fl_X12_112 hR.1 rfl dX12_readPart_358 ?_
                                              refine lv_aload_n hx hb dX12_readPart_361 rfl (lv_at hl 7 rfl) ?_
                                              refine rl_get (v := .int (F 45)) hC hW fl_X12_251 hR.1 rfl dX12_readPart_362 ?_
                                              refine rl_topn (y := nI (d + 1)) (hF45) ?_
                                              refine lv_iconst (v := (nI (1))) hx hb dX12_readPart_365 (by decide) ?_
                                              refine lv_isub hx hb dX12_readPart_366 ?_
                                              refine rl_topn (rg_sub (c := d) (by omega)) ?_
                                              refine lv_iload hx hb dX12_readPart_367 (lv_at hl 2 rfl) ?_
                                              refine lv_if_eq (tgt := 377) hx hb dX12_readPart_369 (by decide) (fun c7 => ?_) (fun c7 => ?_)
                                              · first | exact absurd c7 (by decide) | exact absurd (by decide) c7
                                              · refine lv_iload hx hb dX12_readPart_372 (lv_at hl 3 rfl) ?_
                                                refine lv_goto (tgt := 379) hx hb dX12_readPart_374 (by decide) ?_
                                                refine rl_iast_n (g := I 48) hC hW hR.a48 (by omega) (by decide) dX12_readPart_379 (fun H locs hW => ?_)
                                                have hR := hR.s48 (upd (I 48) (d) ((nI (p))))
                                                refine lv_aload_n hx hb dX12_readPart_380 rfl (lv_at hl 7 rfl) ?_
                                                refine lv_iload hx hb dX12_readPart_381 (lv_at hl 2 rfl) ?_
                                                refine rl_callvQ (rl_runV (b := m) (As := [.int (nI (1))]) (rest := []) hC hW (cR_beginRecord l D t A _ z m T w ρ0 κ0 G0 (a + 1 + 1 + 1) la3 (d + 1) ρ κ G SD SL (va_up SI d (some p)) ⟨_, _, _, hR, hTc, hTp, hTk, hGW, hGr, hGd, hGp, hGt, hGc, hF11, hF14, hF44, hF41, hF42, hF43, hF45, hN, (fun q => ((hSI rfl).same upd_self rfl).inner (Or.inr ⟨p, by omega, rfl, rfl⟩))⟩ 1 true (Or.inr ⟨rfl, rfl⟩)) cs_X12_265 im_X12_beginRecord sl_X12_beginRecord hR.1 rfl ⟨(Nat.le_of_ble_eq_true rfl), (Nat.le_of_ble_eq_true rfl)⟩ rfl hl.1 rfl (Nat.le_of_ble_eq_true rfl) dX12_readPart_383 ⟨(Nat.le_of_ble_eq_true rfl), (Nat.le_of_ble_eq_true rfl)⟩) hW (fun f1 H locs hp hW => ?_)
                                                obtain ⟨a5, la5, bd5, d5, e5, SD5, SL5, hQ, hbe⟩ := hp
                                                rcases hbe with ⟨hne, hre⟩ | ⟨rfl, hd6x, rfl, rfl, rfl, kd, n2, rfl, rfl, hre⟩
                                                · exact rl_vret hC hW hr hlk (Nat.le_refl _) (Nat.le_refl _) ⟨rfl, rfl, rfl, a5, la5, bd5, d5, ρ, G, e5, d + 1, SD5, SL5, _, hQ, by omega, fun q => absurd q hne, Or.inl ⟨_, (pt_v hlf1 hlf2 rfl (by decide) hfd hcs).trans ((vl_i hlf3).trans ((in_s (b := true) hv0 rfl).trans (by rw [hre]))), fun q => absurd q hne⟩⟩ dX12_readPart_386
                                                · exact rl_vret hC hW hr hlk (Nat.le_refl _) (Nat.le_refl _) ⟨rfl, rfl, rfl, a + 1 + 1 + 1 + 1 + 1, la5, 0, d + 1 + 1, ρ, G, d + 1 + 1, d + 1, _, _, _, hQ, by omega, fun q => ⟨rfl, by omega, rfl, by omega, by omega, by omega, by omega⟩, Or.inr ⟨rfl, rfl, (some p), true, kd, n2, _, (pt_v hlf1 hlf2 rfl (by decide) hfd hcs).trans ((vl_i hlf3).trans (in_s (b := true) hv0 rfl)), hre, rfl, rfl, rfl⟩⟩ dX12_readPart_386
                                        · have hv0 : rv = 0 := (lg_cmp_eq _ _).mp c11
                                          refine lv_iconst (v := (-1)) hx hb dX12_readPart_331 (by decide) ?_
                                          refine lv_goto (tgt := 342) hx hb dX12_readPart_332 (by decide) ?_
                                          refine rl_iast_n (g := I 32) hC hW hR.a32 (by omega) (by decide) dX12_readPart_342 (fun H locs hW => ?_)
                                          have hR := hR.s32 (upd (I 32) (((5) * (d + 1)) + (p)) ((-1)))
                                          refine lv_aload_n hx hb dX12_readPart_343 rfl (lv_at hl 7 rfl) ?_
                                          refine rl_get (v := .int (F 43)) hC hW fl_X12_238 hR.1 rfl dX12_readPart_344 ?_
                                          refine rl_topn (y := nI (0)) (hF43) ?_
                                          refine lv_if_ne (tgt := 386) hx hb dX12_readPart_347 (by decide) (fun c5 => ?_) (fun c5 => ?_)
                                          · exact absurd rfl c5
                                          · refine lv_lload hx hb dX12_readPart_350 (lv_at hl 0 rfl) ?_
                                            refine lv_lconst (v := 0) hx hb dX12_readPart_352 (by decide) ?_
                                            refine W.lcmp hx hb dX12_readPart_353 ?_
                                            refine lv_if_eq (tgt := 386) hx hb dX12_readPart_354 (by decide) (fun c6 => ?_) (fun c6 => ?_)
                                            · exact rl_vret hC hW hr hlk (Nat.le_refl _) (Nat.le_refl _) ⟨rfl, rfl, rfl, a + 1 + 1 + 1, la3, 0, d + 1, ρ, G, d + 1, d, va_up SD d (q_put (SD d) (some p) none), SL, SI, ⟨_, _, _, hR, hTc, hTp, hTk, hGW, hGr, hGd, hGp, hGt, hGc, hF11, hF14, hF44, hF41, hF42, hF43, hF45, hN, (fun _ => (hSI rfl).put (by omega) rfl trivial)⟩, by omega, fun _ => ⟨rfl, by omega, rfl, by omega, by omega, by omega, by omega⟩, Or.inl ⟨q_put (SD d) (some p) none, (pt_v hlf1 hlf2 rfl (by decide) hfd hcs).trans ((vl_i hlf3).trans (in_0 hv0)), fun _ => ⟨rfl, rfl, rfl, rfl⟩⟩⟩ dX12_readPart_386
                                            · exact absurd ((lg_cmp_eq _ _).mpr hv0) c6
                                    · obtain ⟨hne, rfl, hr03⟩ := hw3
                                      obtain ⟨I, L, F, hR, hTc, hTp, hTk, hGW, hGr, hGd, hGp, hGt, hGc, hF11, hF14, hF44, hF41, hF42, hF43, hF45, hN, hSI⟩ := hQ
                                      obtain ⟨hlv, hd6, hw3, hρ0, hκ0, hbd, hgl⟩ := id hN
                                      have hl250 := hGW.2.2.2.2
                                      refine lv_lstore (lv' := [(9, .long (rv)), (8, .int (nI (((5) * (d + 1)) + (p)))), (7, .int (nI (1))), (6, .int (nI (p))), (4, .long (lN 3)), (2, .long (rk)), (1, .int (nI (j))), (0, .ref (m))]) hx hb dX12_readPart_311 hl (by decide) rfl (fun ls hl => ?_)
                                      refine lv_aload_n hx hb dX12_readPart_313 rfl (lv_at hl 7 rfl) ?_
                                      refine rl_get (v := .ref (m + 23)) hC hW fl_X12_85 hR.1 rfl dX12_readPart_314 ?_
                                      refine lv_iload hx hb dX12_readPart_317 (lv_at hl 1 rfl) ?_
                                      refine lv_iload hx hb dX12_readPart_319 (lv_at hl 2 rfl) ?_
                                      refine lv_if_eq (tgt := 335) hx hb dX12_readPart_321 (by decide) (fun c_65 => ?_) (fun c_65 => ?_)
                                      · first | exact absurd c_65 (by decide) | exact absurd (by decide) c_65
                                      · refine lv_lload hx hb dX12_readPart_324 (lv_at hl 0 rfl) ?_
                                        refine lv_lconst (v := 0) hx hb dX12_readPart_326 (by decide) ?_
                                        refine W.lcmp hx hb dX12_readPart_327 ?_
                                        refine lv_if_ne (tgt := 335) hx hb dX12_readPart_328 (by decide) (fun c_66 => ?_) (fun c_66 => ?_)
                                        · refine lv_aload_n hx hb dX12_readPart_335 rfl (lv_at hl 7 rfl) ?_
                                          refine rl_get (v := .ref (m + 23)) hC hW fl_X12_85 hR.1 rfl dX12_readPart_336 ?_
                                          refine lv_iload hx hb dX12_readPart_339 (lv_at hl 1 rfl) ?_
                                          refine rl_iald_n (g := I 32) hC hW hR.a32 (by omega) (by decide) dX12_readPart_341 ?_
                                          refine rl_iast_n (g := I 32) hC hW hR.a32 (by omega) (by decide) dX12_readPart_342 (fun H locs hW => ?_)
                                          have hR := hR.s32 (upd (I 32) (((5) * (d + 1)) + (p)) ((I 32 (((5) * (d + 1)) + (p)))))
                                          refine lv_aload_n hx hb dX12_readPart_343 rfl (lv_at hl 7 rfl) ?_
                                          refine rl_get (v := .int (F 43)) hC hW fl_X12_238 hR.1 rfl dX12_readPart_344 ?_
                                          refine rl_topn (y := nI (bd3)) (hF43) ?_
                                          refine lv_if_ne (tgt := 386) hx hb dX12_readPart_347 (by decide) (fun c_67 => ?_) (fun c_67 => ?_)
                                          · exact rl_vret hC hW hr hlk (Nat.le_refl _) (Nat.le_refl _) ⟨rfl, rfl, rfl, a + 1 + 1, la3, bd3, d + 1, ρ, G, d + 1, d, SD, SL, SI, ⟨_, _, _, hR, hTc, hTp, hTk, hGW, hGr, hGd, hGp, hGt, hGc, hF11, hF14, hF44, hF41, hF42, hF43, hF45, hN, (fun q => absurd q hne)⟩, by omega, fun q => absurd q hne, Or.inl ⟨_, (pt_v hlf1 hlf2 rfl (by decide) hfd hcs).trans ((vl_i hlf3).trans (in_0 hr03)), fun q => absurd q hne⟩⟩ dX12_readPart_386
                                          · exact absurd ((nI_eq (by omega) (by decide)).mp c_67) hne
                                        · refine lv_iconst (v := (-1)) hx hb dX12_readPart_331 (by decide) ?_
                                          refine lv_goto (tgt := 342) hx hb dX12_readPart_332 (by decide) ?_
                                          refine rl_iast_n (g := I 32) hC hW hR.a32 (by omega) (by decide) dX12_readPart_342 (fun H locs hW => ?_)
                                          have hR := hR.s32 (upd (I 32) (((5) * (d + 1)) + (p)) ((-1)))
                                          refine lv_aload_n hx hb dX12_readPart_343 rfl (lv_at hl 7 rfl) ?_
                                          refine rl_get (v := .int (F 43)) hC hW fl_X12_238 hR.1 rfl dX12_readPart_344 ?_
                                          refine rl_topn (y := nI (bd3)) (hF43) ?_
                                          refine lv_if_ne (tgt := 386) hx hb dX12_readPart_347 (by decide) (fun c_68 => ?_) (fun c_68 => ?_)
                                          · exact rl_vret hC hW hr hlk (Nat.le_refl _) (Nat.le_refl _) ⟨rfl, rfl, rfl, a + 1 + 1, la3, bd3, d + 1, ρ, G, d + 1, d, SD, SL, SI, ⟨_, _, _, hR, hTc, hTp, hTk, hGW, hGr, hGd, hGp, hGt, hGc, hF11, hF14, hF44, hF41, hF42, hF43, hF45, hN, (fun q => absurd q hne)⟩, by omega, fun q => absurd q hne, Or.inl ⟨_, (pt_v hlf1 hlf2 rfl (by decide) hfd hcs).trans ((vl_i hlf3).trans (in_0 hr03)), fun q => absurd q hne⟩⟩ dX12_readPart_386
                                          · exact absurd ((nI_eq (by omega) (by decide)).mp c_68) hne
                                  · first | exact absurd c_64 (by decide) | exact absurd (by decide) c_64
                                · first | exact absurd c_63 (by decide) | exact absurd (by decide) c_63
                              · first | exact absurd c_62 (by decide) | exact absurd (by decide) c_62
                          · have hcs : q_cast T (SD d) (some p) 3 := by rw [hD]; exact fun q => c5 ((lg_cmp_eq _ _).mpr (by rw [show T 4 (5 * j + p) = 3 from q]; decide))
                            refine lv_aload_n hx hb dX12_readPart_107 rfl (lv_at hl 5 rfl) ?_
                            refine lv_iconst (v := (nI (1))) hx hb dX12_readPart_108 (by decide) ?_
                            refine rl_callvQ (rl_runV (b := m) (As := [.int (nI (1))]) (rest := []) hC hW (cR_fails l D t A _ z m T w ρ0 κ0 G0 (a + 1 + 1) (la2) 0 (d + 1) (ρ) (κ) G (d + 1) (d) SD SL SI ⟨_, _, _, hR, hTc, hTp, hTk, hGW, hGr, hGd, hGp, hGt, hGc, hF11, hF14, hF44, hF41, hF42, hF43, hF45, hN, hSI⟩ 1 (by decide) (by decide)) cs_X12_247 im_X12_fails sl_X12_fails hR.1 rfl ⟨(Nat.le_of_ble_eq_true rfl), (Nat.le_of_ble_eq_true rfl)⟩ rfl hl.1 rfl (Nat.le_of_ble_eq_true rfl) dX12_readPart_109 ⟨(Nat.le_of_ble_eq_true rfl), (Nat.le_of_ble_eq_true rfl)⟩) hW (fun f1 H locs hp hW => ?_)
                            obtain ⟨bd4, hfe4, hne, hQ⟩ := hp
                            obtain ⟨I, L, F, hR, hTc, hTp, hTk, hGW, hGr, hGd, hGp, hGt, hGc, hF11, hF14, hF44, hF41, hF42, hF43, hF45, hN, hSI⟩ := hQ
                            obtain ⟨hlv, hd6, hw3, hρ0, hκ0, hbd, hgl⟩ := id hN
                            have hl250 := hGW.2.2.2.2
                            exact rl_vret hC hW hr hlk (Nat.le_refl _) (Nat.le_refl _) ⟨rfl, rfl, rfl, a + 1 + 1, la2, bd4, d + 1, ρ, G, d + 1, d, SD, SL, SI, ⟨_, _, _, hR, hTc, hTp, hTk, hGW, hGr, hGd, hGp, hGt, hGc, hF11, hF14, hF44, hF41, hF42, hF43, hF45, hN, (fun q => absurd q hne)⟩, by omega, fun q => absurd q hne, Or.inl ⟨_, (pt_c hlf1 hlf2 rfl (by decide) hfd hcs).trans (by rw [hfe4]), fun q => absurd q hne⟩⟩ dX12_readPart_112
                    · have hfd : q_find T (SD d) rk = none := by rw [hD]; exact pu_find_n (g := fun i => T 3 (5 * j + i)) hp
                      refine lv_istore (lv' := [(6, .int (-3)), (4, .long (lN 3)), (2, .long (rk)), (1, .int (nI (j))), (0, .ref (m))]) hx hb dX12_readPart_70 hl (by decide) rfl (fun ls hl => ?_)
                      refine lv_iload hx hb dX12_readPart_72 (lv_at hl 0 rfl) ?_
                      refine lv_if_lt (tgt := 81) hx hb dX12_readPart_74 (by decide) (fun c3 => ?_) (fun c3 => ?_)
                      · have hcs : ¬ q_cast T (SD d) none 3 := cs_n
                        refine lv_iconst (v := (nI (0))) hx hb dX12_readPart_81 (by decide) ?_
                        refine lv_istore (lv' := [(7, .int (nI (0))), (6, .int (-3)), (4, .long (lN 3)), (2, .long (rk)), (1, .int (nI (j))), (0, .ref (m))]) hx hb dX12_readPart_82 hl (by decide) rfl (fun ls hl => ?_)
                        refine lv_iload hx hb dX12_readPart_84 (lv_at hl 0 rfl) ?_
                        refine lv_if_eq (tgt := 113) hx hb dX12_readPart_86 (by decide) (fun c4 => ?_) (fun c4 => ?_)
                        · refine lv_iconst (v := (nI (5))) hx hb dX12_readPart_113 (by decide) ?_
                          refine lv_aload_n hx hb dX12_readPart_114 rfl (lv_at hl 5 rfl) ?_
                          refine rl_get (v := .int (F 45)) hC hW fl_X12_251 hR.1 rfl dX12_readPart_115 ?_
                          refine rl_topn (y := nI (d + 1)) (hF45) ?_
                          refine lv_imul hx hb dX12_readPart_118 ?_
                          refine rl_topn (pk_mul _ _) ?_
                          refine lv_iload hx hb dX12_readPart_119 (lv_at hl 0 rfl) ?_
                          refine lv_if_eq (tgt := 129) hx hb dX12_readPart_121 (by decide) (fun c_69 => ?_) (fun c_69 => ?_)
                          · refine lv_iconst (v := (nI (0))) hx hb dX12_readPart_129 (by decide) ?_
                            refine lv_iadd hx hb dX12_readPart_130 ?_
                            refine rl_topn (nI_add _ _) ?_
                            refine lv_istore (lv' := [(8, .int (nI (((5) * (d + 1)) + (0)))), (7, .int (nI (0))), (6, .int (-3)), (4, .long (lN 3)), (2, .long (rk)), (1, .int (nI (j))), (0, .ref (m))]) hx hb dX12_readPart_131 hl (by decide) rfl (fun ls hl => ?_)
                            refine lv_lload hx hb dX12_readPart_133 (lv_at hl 3 rfl) ?_
                            refine lv_ldc2 (v := 2) hx hb hC.2.2.2.1 (hC.2.2.2.2.1 _ (List.mem_cons_of_mem _ mw_808)) dX12_readPart_135 ?_
                            refine W.lcmp hx hb dX12_readPart_138 ?_
                            refine rl_topn (y := 1) (by decide) ?_
                            refine lv_if_ge (tgt := 175) hx hb dX12_readPart_139 (by decide) (fun c_70 => ?_) (fun c_70 => ?_)
                            · refine lv_lload hx hb dX12_readPart_175 (lv_at hl 3 rfl) ?_
                              refine lv_ldc2 (v := 2) hx hb hC.2.2.2.1 (hC.2.2.2.2.1 _ (List.mem_cons_of_mem _ mw_808)) dX12_readPart_177 ?_
                              refine W.lcmp hx hb dX12_readPart_180 ?_
                              refine rl_topn (y := 1) (by decide) ?_
                              refine lv_if_ne (tgt := 263) hx hb dX12_readPart_181 (by decide) (fun c_71 => ?_) (fun c_71 => ?_)
                              · refine lv_lload hx hb dX12_readPart_263 (lv_at hl 3 rfl) ?_
                                refine lv_ldc2 (v := 4) hx hb hC.2.2.2.1 (hC.2.2.2.2.1 _ (List.mem_cons_of_mem _ mw_822)) dX12_readPart_265 ?_
                                refine W.lcmp hx hb dX12_readPart_268 ?_
                                refine rl_topn (y := -1) (by decide) ?_
                                refine lv_if_ne (tgt := 307) hx hb dX12_readPart_269 (by decide) (fun c_72 => ?_) (fun c_72 => ?_)
                                · refine lv_aload_n hx hb dX12_readPart_307 rfl (lv_at hl 6 rfl) ?_
                                  refine rl_calllQ (rl_runV (b := m) (As := []) (rest := []) hC hW (cR_want l D t A _ z m T w ρ0 κ0 G0 (a + 1 + 1) (la2) 0 (d + 1) (ρ) (κ) G (d + 1) (d) SD SL SI ⟨_, _, _, hR, hTc, hTp, hTk, hGW, hGr, hGd, hGp, hGt, hGc, hF11, hF14, hF44, hF41, hF42, hF43, hF45, hN, hSI⟩) cs_X12_254 im_X12_want sl_X12_want hR.1 rfl ⟨(Nat.le_of_ble_eq_true rfl), (Nat.le_of_ble_eq_true rfl)⟩ rfl hl.1 rfl (Nat.le_of_ble_eq_true rfl) dX12_readPart_308 ⟨(Nat.le_of_ble_eq_true rfl), (Nat.le_of_ble_eq_true rfl)⟩) hW (fun rv f1 H locs hp hW => ?_)
                                  obtain ⟨a3, la3, bd3, hlf3, hQ, hw3⟩ := hp
                                  rcases hw3 with hw3 | hw3
                                  · obtain ⟨-, rfl, rfl⟩ := hw3
                                    obtain ⟨I, L, F, hR, hTc, hTp, hTk, hGW, hGr, hGd, hGp, hGt, hGc, hF11, hF14, hF44, hF41, hF42, hF43, hF45, hN, hSI⟩ := hQ
                                    obtain ⟨hlv, hd6, hw3, hρ0, hκ0, hbd, hgl⟩ := id hN
                                    have hl250 := hGW.2.2.2.2
                                    refine lv_lstore (lv' := [(9, .long (rv)), (8, .int (nI (((5) * (d + 1)) + (0)))), (7, .int (nI (0))), (6, .int (-3)), (4, .long (lN 3)), (2, .long (rk)), (1, .int (nI (j))), (0, .ref (m))]) hx hb dX12_readPart_311 hl (by decide) rfl (fun ls hl => ?_)
                                    refine lv_aload_n hx hb dX12_readPart_313 rfl (lv_at hl 7 rfl) ?_
                                    refine rl_get (v := .ref (m + 23)) hC hW fl_X12_85 hR.1 rfl dX12_readPart_314 ?_
                                    refine lv_iload hx hb dX12_readPart_317 (lv_at hl 1 rfl) ?_
                                    refine lv_iload hx hb dX12_readPart_319 (lv_at hl 2 rfl) ?_
                                    refine lv_if_eq (tgt := 335) hx hb dX12_readPart_321 (by decide) (fun c10 => ?_) (fun c10 => ?_)
                                    · refine lv_aload_n hx hb dX12_readPart_335 rfl (lv_at hl 7 rfl) ?_
                                      refine rl_get (v := .ref (m + 23)) hC hW fl_X12_85 hR.1 rfl dX12_readPart_336 ?_
                                      refine lv_iload hx hb dX12_readPart_339 (lv_at hl 1 rfl) ?_
                                      refine rl_iald_n (g := I 32) hC hW hR.a32 (by omega) (by decide) dX12_readPart_341 ?_
                                      refine rl_iast_n (g := I 32) hC hW hR.a32 (by omega) (by decide) dX12_readPart_342 (fun H locs hW => ?_)
                                      have hR := hR.s32 (upd (I 32) (((5) * (d + 1)) + (0)) ((I 32 (((5) * (d + 1)) + (0)))))
                                      refine lv_aload_n hx hb dX12_readPart_343 rfl (lv_at hl 7 rfl) ?_
                                      refine rl_get (v := .int (F 43)) hC hW fl_X12_238 hR.1 rfl dX12_readPart_344 ?_
                                      refine rl_topn (y := nI (0)) (hF43) ?_
                                      refine lv_if_ne (tgt := 386) hx hb dX12_readPart_347 (by decide) (fun c5 => ?_) (fun c5 => ?_)
                                      · exact absurd rfl c5
                                      · refine lv_lload hx hb dX12_readPart_350 (lv_at hl 0 rfl) ?_
                                        refine lv_lconst (v := 0) hx hb dX12_readPart_352 (by decide) ?_
                                        refine W.lcmp hx hb dX12_readPart_353 ?_
                                        refine lv_if_eq (tgt := 386) hx hb dX12_readPart_354 (by decide) (fun c6 => ?_) (fun c6 => ?_)
                                        · have hv0 : rv = 0 := (lg_cmp_eq _ _).mp c6
                                          exact rl_vret hC hW hr hlk (Nat.le_refl _) (Nat.le_refl _) ⟨rfl, rfl, rfl, a + 1 + 1 + 1, la3, 0, d + 1, ρ, G, d + 1, d, va_up SD d (q_put (SD d) none none), SL, SI, ⟨_, _, _, hR, hTc, hTp, hTk, hGW, hGr, hGd, hGp, hGt, hGc, hF11, hF14, hF44, hF41, hF42, hF43, hF45, hN, (fun _ => by rw [pn_p, va_up_same]; exact (hSI rfl).same upd_self rfl)⟩, by omega, fun _ => ⟨rfl, by omega, rfl, by omega, by omega, by omega, by omega⟩, Or.inl ⟨q_put (SD d) none none, (pt_v hlf1 hlf2 rfl (by decide) hfd hcs).trans ((vl_i hlf3).trans (in_0 hv0)), fun _ => ⟨rfl, rfl, rfl, rfl⟩⟩⟩ dX12_readPart_386
                                        · have hv0 : rv ≠ 0 := fun q => c6 ((lg_cmp_eq _ _).mpr q)
                                          refine lv_aload_n hx hb dX12_readPart_357 rfl (lv_at hl 7 rfl) ?_
                                          refine rl_get (v := .ref (m + 32)) hC hW fl_X12_112 hR.1 rfl dX12_readPart_358 ?_
                                          refine lv_aload_n hx hb dX12_readPart_361 rfl (lv_at hl 7 rfl) ?_
                                          refine rl_get (v := .int (F 45)) hC hW fl_X12_251 hR.1 rfl dX12_readPart_362 ?_
                                          refine rl_topn (y := nI (d + 1)) (hF45) ?_
                                          refine lv_iconst (v := (nI (1))) hx hb dX12_readPart_365 (by decide) ?_
                                          refine lv_isub hx hb dX12_readPart_366 ?_
                                          refine rl_topn (rg_sub (c := d) (by omega)) ?_
                                          refine lv_iload hx hb dX12_readPart_367 (lv_at hl 2 rfl) ?_
                                          refine lv_if_eq (tgt := 377) hx hb dX12_readPart_369 (by decide) (fun c7 => ?_) (fun c7 => ?_)
                                          · refine lv_bipush (v := (-3)) hx hb dX12_readPart_377 (by decide) ?_
                                            refine rl_iast_n (g := I 48) hC hW hR.a48 (by omega) (by decide) dX12_readPart_379 (fun H locs hW => ?_)
                                            have hR := hR.s48 (upd (I 48) (d) ((-3)))
                                            refine lv_aload_n hx hb dX12_readPart_380 rfl (lv_at hl 7 rfl) ?_
                                            refine lv_iload hx hb dX12_readPart_381 (lv_at hl 2 rfl) ?_
                                            refine rl_callvQ (rl_runV (b := m) (As := [.int (nI (0))]) (rest := []) hC hW (cR_beginRecord l D t A _ z m T w ρ0 κ0 G0 (a + 1 + 1 + 1) la3 (d + 1) ρ κ G SD SL (va_up SI d none) ⟨_, _, _, hR, hTc, hTp, hTk, hGW, hGr, hGd, hGp, hGt, hGc, hF11, hF14, hF44, hF41, hF42, hF43, hF45, hN, (fun q => ((hSI rfl).same upd_self rfl).inner (Or.inl ⟨rfl, rfl⟩))⟩ 0 false (Or.inl ⟨rfl, rfl⟩)) cs_X12_265 im_X12_beginRecord sl_X12_beginRecord hR.1 rfl ⟨(Nat.le_of_ble_eq_true rfl), (Nat.le_of_ble_eq_true rfl)⟩ rfl hl.1 rfl (Nat.le_of_ble_eq_true rfl) dX12_readPart_383 ⟨(Nat.le_of_ble_eq_true rfl), (Nat.le_of_ble_eq_true rfl)⟩) hW (fun f1 H locs hp hW => ?_)
                                            obtain ⟨a5, la5, bd5, d5, e5, SD5, SL5, hQ, hbe⟩ := hp
                                            rcases hbe with ⟨hne, hre⟩ | ⟨rfl, hd6x, rfl, rfl, rfl, kd, n2, rfl, rfl, hre⟩
                                            · exact rl_vret hC hW hr hlk (Nat.le_refl _) (Nat.le_refl _) ⟨rfl, rfl, rfl, a5, la5, bd5, d5, ρ, G, e5, d + 1, SD5, SL5, _, hQ, by omega, fun q => absurd q hne, Or.inl ⟨_, (pt_v hlf1 hlf2 rfl (by decide) hfd hcs).trans ((vl_i hlf3).trans ((in_s (b := false) hv0 rfl).trans (by rw [hre]))), fun q => absurd q hne⟩⟩ dX12_readPart_386
                                            · exact rl_vret hC hW hr hlk (Nat.le_refl _) (Nat.le_refl _) ⟨rfl, rfl, rfl, a + 1 + 1 + 1 + 1 + 1, la5, 0, d + 1 + 1, ρ, G, d + 1 + 1, d + 1, _, _, _, hQ, by omega, fun q => ⟨rfl, by omega, rfl, by omega, by omega, by omega, by omega⟩, Or.inr ⟨rfl, rfl, none, false, kd, n2, _, (pt_v hlf1 hlf2 rfl (by decide) hfd hcs).trans ((vl_i hlf3).trans (in_s (b := false) hv0 rfl)), hre, rfl, rfl, rfl⟩⟩ dX12_readPart_386
                                          · first | exact absurd c7 (by decide) | exact absurd (by decide) c7
                                    · first | exact absurd c10 (by decide) | exact absurd (by decide) c10
                                  · obtain ⟨hne, rfl, hr03⟩ := hw3
                                    obtain ⟨I, L, F, hR, hTc, hTp, hTk, hGW, hGr, hGd, hGp, hGt, hGc, hF11, hF14, hF44, hF41, hF42, hF43, hF45, hN, hSI⟩ := hQ
                                    obtain ⟨hlv, hd6, hw3, hρ0, hκ0, hbd, hgl⟩ := id hN
                                    have hl250 := hGW.2.2.2.2
                                    refine lv_lstore (lv' := [(9, .long (rv)), (8, .int (nI (((5) * (d + 1)) + (0)))), (7, .int (nI (0))), (6, .int (-3)), (4, .long (lN 3)), (2, .long (rk)), (1, .int (nI (j))), (0, .ref (m))]) hx hb dX12_readPart_311 hl (by decide) rfl (fun ls hl => ?_)
                                    refine lv_aload_n hx hb dX12_readPart_313 rfl (lv_at hl 7 rfl) ?_
                                    refine rl_get (v := .ref (m + 23)) hC hW fl_X12_85 hR.1 rfl dX12_readPart_314 ?_
                                    refine lv_iload hx hb dX12_readPart_317 (lv_at hl 1 rfl) ?_
                                    refine lv_iload hx hb dX12_readPart_319 (lv_at hl 2 rfl) ?_
                                    refine lv_if_eq (tgt := 335) hx hb dX12_readPart_321 (by decide) (fun c_73 => ?_) (fun c_73 => ?_)
                                    · refine lv_aload_n hx hb dX12_readPart_335 rfl (lv_at hl 7 rfl) ?_
                                      refine rl_get (v := .ref (m + 23)) hC hW fl_X12_85 hR.1 rfl dX12_readPart_336 ?_
                                      refine lv_iload hx hb dX12_readPart_339 (lv_at hl 1 rfl) ?_
                                      refine rl_iald_n (g := I 32) hC hW hR.a32 (by omega) (by decide) dX12_readPart_341 ?_
                                      refine rl_iast_n (g := I 32) hC hW hR.a32 (by omega) (by decide) dX12_readPart_342 (fun H locs hW => ?_)
                                      have hR := hR.s32 (upd (I 32) (((5) * (d + 1)) + (0)) ((I 32 (((5) * (d + 1)) + (0)))))
                                      refine lv_aload_n hx hb dX12_readPart_343 rfl (lv_at hl 7 rfl) ?_
                                      refine rl_get (v := .int (F 43)) hC hW fl_X12_238 hR.1 rfl dX12_readPart_344 ?_
                                      refine rl_topn (y := nI (bd3)) (hF43) ?_
                                      refine lv_if_ne (tgt := 386) hx hb dX12_readPart_347 (by decide) (fun c_74 => ?_) (fun c_74 => ?_)
                                      · exact rl_vret hC hW hr hlk (Nat.le_refl _) (Nat.le_refl _) ⟨rfl, rfl, rfl, a + 1 + 1, la3, bd3, d + 1, ρ, G, d + 1, d, SD, SL, SI, ⟨_, _, _, hR, hTc, hTp, hTk, hGW, hGr, hGd, hGp, hGt, hGc, hF11, hF14, hF44, hF41, hF42, hF43, hF45, hN, (fun q => absurd q hne)⟩, by omega, fun q => absurd q hne, Or.inl ⟨_, (pt_v hlf1 hlf2 rfl (by decide) hfd hcs).trans ((vl_i hlf3).trans (in_0 hr03)), fun q => absurd q hne⟩⟩ dX12_readPart_386
                                      · exact absurd ((nI_eq (by omega) (by decide)).mp c_74) hne
                                    · first | exact absurd c_73 (by decide) | exact absurd (by decide) c_73
                                · first | exact absurd c_72 (by decide) | exact absurd (by decide) c_72
                              · first | exact absurd c_71 (by decide) | exact absurd (by decide) c_71
                            · first | exact absurd c_70 (by decide) | exact absurd (by decide) c_70
                          · first | exact absurd c_69 (by decide) | exact absurd (by decide) c_69
                        · first | exact absurd c4 (by decide) | exact absurd (by decide) c4
                      · exact absurd (by decide) c3
                  · exact absurd (nI_pos' (by omega)) c2
                · exact absurd rfl c8
              · exact absurd c9 (by decide)
            · refine lv_if_ne (tgt := 47) hx hb dX12_readPart_39 (by decide) (fun c9 => ?_) (fun c9 => ?_)
              · refine lv_aload_n hx hb dX12_readPart_47 rfl (lv_at hl 3 rfl) ?_
                refine rl_get (v := .int (F 43)) hC hW fl_X12_238 hR.1 rfl dX12_readPart_48 ?_
                refine rl_topn (y := nI (0)) (hF43) ?_
                refine lv_if_eq (tgt := 55) hx hb dX12_readPart_51 (by decide) (fun c8 => ?_) (fun c8 => ?_)
                · refine lv_iload_n hx hb dX12_readPart_55 rfl (lv_at hl 2 rfl) ?_
                  refine lv_if_ge (tgt := 64) hx hb dX12_readPart_56 (by decide) (fun c2 => ?_) (fun c2 => ?_)
                  · refine lv_aload_n hx hb dX12_readPart_64 rfl (lv_at hl 3 rfl) ?_
                    refine lv_iload_n hx hb dX12_readPart_65 rfl (lv_at hl 2 rfl) ?_
                    refine lv_lload_n hx hb dX12_readPart_66 rfl (lv_at hl 1 rfl) ?_
                    refine rl_calliQ (rl_runV (b := m) (As := [.int (nI (j)), .long (rk)]) (rest := []) hC hW (cR_partBy l D t A _ z m I L F hR T hTp j hj _) cs_X12_139 im_X12_partBy sl_X12_partBy hR.1 rfl ⟨(Nat.le_of_ble_eq_true rfl), (Nat.le_of_ble_eq_true rfl)⟩ rfl hl.1 rfl (Nat.le_of_ble_eq_true rfl) dX12_readPart_67 ⟨(Nat.le_of_ble_eq_true rfl), (Nat.le_of_ble_eq_true rfl)⟩) hW (fun r f1 H locs hp hW => ?_)
                    obtain ⟨rfl, hp⟩ := hp
                    rcases hp with ⟨p, hpl, rfl, he, hfst⟩ | ⟨rfl, hp⟩
                    · have h5 := (hTp.1 j hj).2
                      have hnm := hTp.2 j p hj hpl
                      have hfd : q_find T (SD d) rk = some p := by rw [hD]; exact pu_find_s (g := fun i => T 3 (5 * j + i)) hfst he hpl
                      refine lv_istore (lv' := [(6, .int (nI (p))), (4, .long (lN 4)), (2, .long (rk)), (1, .int (nI (j))), (0, .ref (m))]) hx hb dX12_readPart_70 hl (by decide) rfl (fun ls hl => ?_)
                      refine lv_iload hx hb dX12_readPart_72 (lv_at hl 0 rfl) ?_
                      refine lv_if_lt (tgt := 81) hx hb dX12_readPart_74 (by decide) (fun c3 => ?_) (fun c3 => ?_)
                      · exact absurd c3 (nI_pos (by omega))
                      · refine lv_iconst (v := (nI (1))) hx hb dX12_readPart_77 (by decide) ?_
                        refine lv_goto (tgt := 82) hx hb dX12_readPart_78 (by decide) ?_
                        refine lv_istore (lv' := [(7, .int (nI (1))), (6, .int (nI (p))), (4, .long (lN 4)), (2, .long (rk)), (1, .int (nI (j))), (0, .ref (m))]) hx hb dX12_readPart_82 hl (by decide) rfl (fun ls hl => ?_)
                        refine lv_iload hx hb dX12_readPart_84 (lv_at hl 0 rfl) ?_
                        refine lv_if_eq (tgt := 113) hx hb dX12_readPart_86 (by decide) (fun c4 => ?_) (fun c4 => ?_)
                        · exact absurd c4 (by decide)
                        · refine lv_aload_n hx hb dX12_readPart_89 rfl (lv_at hl 5 rfl) ?_
                          refine rl_get (v := .ref (m + 6)) hC hW fl_X12_26 hR.1 rfl dX12_readPart_90 ?_
                          refine lv_iconst (v := (nI (5))) hx hb dX12_readPart_93 (by decide) ?_
                          refine lv_iload_n hx hb dX12_readPart_94 rfl (lv_at hl 4 rfl) ?_
                          refine lv_imul hx hb dX12_readPart_95 ?_
                          refine rl_topn (pk_mul _ _) ?_
                          refine lv_iload hx hb dX12_readPart_96 (lv_at hl 1 rfl) ?_
                          refine lv_iadd hx hb dX12_readPart_98 ?_
                          refine rl_topn (nI_add _ _) ?_
                          refine rl_iald_n (g := I 5) hC hW hR.a5 (by omega) (by decide) dX12_readPart_99 ?_
                          refine rl_topn (hnm.2.2.1) ?_
                          refine lv_i2l hx hb dX12_readPart_100 rfl ?_
                          refine lv_lload hx hb dX12_readPart_101 (lv_at hl 2 rfl) ?_
                          refine W.lcmp hx hb dX12_readPart_103 ?_
                          refine lv_if_eq (tgt := 113) hx hb dX12_readPart_104 (by decide) (fun c5 => ?_) (fun c5 => ?_)
                          · have hse : T 4 (5 * j + p) = 4 := by have := (lg_cmp_eq _ _).mp c5; rw [nI_l (by omega)] at this; exact (lN_eq (by omega) (by decide)).mp this
                            have hcs : ¬ q_cast T (SD d) (some p) 4 := by rw [hD]; exact fun q => q hse
                            refine lv_iconst (v := (nI (5))) hx hb dX12_readPart_113 (by decide) ?_
                            refine lv_aload_n hx hb dX12_readPart_114 rfl (lv_at hl 5 rfl) ?_
                            refine rl_get (v := .int (F 45)) hC hW fl_X12_251 hR.1 rfl dX12_readPart_115 ?_
                            refine rl_topn (y := nI (d + 1)) (hF45) ?_
                            refine lv_imul hx hb dX12_readPart_118 ?_
                            refine rl_topn (pk_mul _ _) ?_
                            refine lv_iload hx hb dX12_readPart_119 (lv_at hl 0 rfl) ?_
                            refine lv_if_eq (tgt := 129) hx hb dX12_readPart_121 (by decide) (fun c_75 => ?_) (fun c_75 => ?_)
                            · first | exact absurd c_75 (by decide) | exact absurd (by decide) c_75
                            · refine lv_iload hx hb dX12_readPart_124 (lv_at hl 1 rfl) ?_
                              refine lv_goto (tgt := 130) hx hb dX12_readPart_126 (by decide) ?_
                              refine lv_iadd hx hb dX12_readPart_130 ?_
                              refine rl_topn (nI_add _ _) ?_
                              refine lv_istore (lv' := [(8, .int (nI (((5) * (d + 1)) + (p)))), (7, .int (nI (1))), (6, .int (nI (p))), (4, .long (lN 4)), (2, .long (rk)), (1, .int (nI (j))), (0, .ref (m))]) hx hb dX12_readPart_131 hl (by decide) rfl (fun ls hl => ?_)
                              refine lv_lload hx hb dX12_readPart_133 (lv_at hl 3 rfl) ?_
                              refine lv_ldc2 (v := 2) hx hb hC.2.2.2.1 (hC.2.2.2.2.1 _ (List.mem_cons_of_mem _ mw_808)) dX12_readPart_135 ?_
                              refine W.lcmp hx hb dX12_readPart_138 ?_
                              refine rl_topn (y := 1) (by decide) ?_
                              refine lv_if_ge (tgt := 175) hx hb dX12_readPart_139 (by decide) (fun c_76 => ?_) (fun c_76 => ?_)
                              · refine lv_lload hx hb dX12_readPart_175 (lv_at hl 3 rfl) ?_
                                refine lv_ldc2 (v := 2) hx hb hC.2.2.2.1 (hC.2.2.2.2.1 _ (List.mem_cons_of_mem _ mw_808)) dX12_readPart_177 ?_
                                refine W.lcmp hx hb dX12_readPart_180 ?_
                                refine rl_topn (y := 1) (by decide) ?_
                                refine lv_if_ne (tgt := 263) hx hb dX12_readPart_181 (by decide) (fun c_77 => ?_) (fun c_77 => ?_)
                                · refine lv_lload hx hb dX12_readPart_263 (lv_at hl 3 rfl) ?_
                                  refine lv_ldc2 (v := 4) hx hb hC.2.2.2.1 (hC.2.2.2.2.1 _ (List.mem_cons_of_mem _ mw_822)) dX12_readPart_265 ?_
                                  refine W.lcmp hx hb dX12_readPart_268 ?_
                                  refine rl_topn (y := 0) (by decide) ?_
                                  refine lv_if_ne (tgt := 307) hx hb dX12_readPart_269 (by decide) (fun c_78 => ?_) (fun c_78 => ?_)
                                  · first | exact absurd c_78 (by decide) | exact absurd (by decide) c_78
                                  · refine lv_aload_n hx hb dX12_readPart_272 rfl (lv_at hl 6 rfl) ?_
                                    refine lv_iload hx hb dX12_readPart_273 (lv_at hl 1 rfl) ?_
                                    refine rl_calliQ (rl_runV (b := m) (As := [.int (nI (1))]) (rest := []) hC hW (cR_readRow l D t A _ z m T w ρ0 κ0 G0 (a + 1 + 1) la2 (d + 1) ρ κ G (d + 1) d SD SL SI ⟨_, _, _, hR, hTc, hTp, hTk, hGW, hGr, hGd, hGp, hGt, hGc, hF11, hF14, hF44, hF41, hF42, hF43, hF45, hN, hSI⟩ hB (by omega) 1 true (Or.inr ⟨rfl, rfl⟩)) cs_X12_261 im_X12_readRow sl_X12_readRow hR.1 rfl ⟨(Nat.le_of_ble_eq_true rfl), (Nat.le_of_ble_eq_true rfl)⟩ rfl hl.1 rfl (Nat.le_of_ble_eq_true rfl) dX12_readPart_275 ⟨(Nat.le_of_ble_eq_true rfl), (Nat.le_of_ble_eq_true rfl)⟩) hW (fun r f1 H locs hp hW => ?_)
                                    obtain ⟨a3, la3, bd3, ρ3, G3, h3, hrw, hQ, hρρ, rfl, hok3, hpo⟩ := hp
                                    obtain ⟨I, L, F, hR, hTc, hTp, hTk, hGW, hGr, hGd, hGp, hGt, hGc, hF11, hF14, hF44, hF41, hF42, hF43, hF45, hN, hSI⟩ := hQ
                                    obtain ⟨hlv, hd6, hw3, hρ0, hκ0, hbd, hgl⟩ := id hN
                                    have hl250 := hGW.2.2.2.2
                                    refine lv_istore (lv' := [(9, .int (enc h3)), (8, .int (nI (((5) * (d + 1)) + (p)))), (7, .int (nI (1))), (6, .int (nI (p))), (4, .long (lN 4)), (2, .long (rk)), (1, .int (nI (j))), (0, .ref (m))]) hx hb dX12_readPart_278 hl (by decide) rfl (fun ls hl => ?_)
                                    refine lv_aload_n hx hb dX12_readPart_280 rfl (lv_at hl 7 rfl) ?_
                                    refine rl_get (v := .ref (m + 23)) hC hW fl_X12_85 hR.1 rfl dX12_readPart_281 ?_
                                    refine lv_iload hx hb dX12_readPart_284 (lv_at hl 1 rfl) ?_
                                    refine lv_iload hx hb dX12_readPart_286 (lv_at hl 2 rfl) ?_
                                    refine lv_if_eq (tgt := 296) hx hb dX12_readPart_288 (by decide) (fun c_79 => ?_) (fun c_79 => ?_)
                                    · first | exact absurd c_79 (by decide) | exact absurd (by decide) c_79
                                    · refine lv_iload hx hb dX12_readPart_291 (lv_at hl 0 rfl) ?_
                                      refine lv_goto (tgt := 303) hx hb dX12_readPart_293 (by decide) ?_
                                      refine rl_iast_n (g := I 32) hC hW hR.a32 (by omega) (by decide) dX12_readPart_303 (fun H locs hW => ?_)
                                      have hR := hR.s32 (upd (I 32) (((5) * (d + 1)) + (p)) ((enc h3)))
                                      refine lv_goto (tgt := 386) hx hb dX12_readPart_304 (by decide) ?_
                                      exact rl_vret hC hW hr hlk (Nat.le_refl _) (Nat.le_refl _) ⟨rfl, rfl, rfl, a3, la3, bd3, d + 1, ρ3, G3, d + 1, d, va_up SD d (q_put (SD d) (some p) h3), SL, SI, ⟨_, _, _, hR, hTc, hTp, hTk, hGW, hGr, hGd, hGp, hGt, hGc, hF11, hF14, hF44, hF41, hF42, hF43, hF45, hN, (fun q => (hSI q).put (by omega) rfl hok3)⟩, by omega, fun q => ⟨rfl, by omega, rfl, by have := hpo q; omega, (hpo q).1, by have := hpo q; omega, by omega⟩, Or.inl ⟨q_put (SD d) (some p) h3, (pt_v hlf1 hlf2 rfl (by decide) hfd hcs).trans ((vl_r (b := true) rfl).trans (by rw [hrw])), fun _ => ⟨rfl, rfl, rfl, rfl⟩⟩⟩ dX12_readPart_386
                                · first | exact absurd c_77 (by decide) | exact absurd (by decide) c_77
                              · first | exact absurd c_76 (by decide) | exact absurd (by decide) c_76
                          · have hcs : q_cast T (SD d) (some p) 4 := by rw [hD]; exact fun q => c5 ((lg_cmp_eq _ _).mpr (by rw [show T 4 (5 * j + p) = 4 from q]; decide))
                            refine lv_aload_n hx hb dX12_readPart_107 rfl (lv_at hl 5 rfl) ?_
                            refine lv_iconst (v := (nI (1))) hx hb dX12_readPart_108 (by decide) ?_
                            refine rl_callvQ (rl_runV (b := m) (As := [.int (nI (1))]) (rest := []) hC hW (cR_fails l D t A _ z m T w ρ0 κ0 G0 (a + 1 + 1) (la2) 0 (d + 1) (ρ) (κ) G (d + 1) (d) SD SL SI ⟨_, _, _, hR, hTc, hTp, hTk, hGW, hGr, hGd, hGp, hGt, hGc, hF11, hF14, hF44, hF41, hF42, hF43, hF45, hN, hSI⟩ 1 (by decide) (by decide)) cs_X12_247 im_X12_fails sl_X12_fails hR.1 rfl ⟨(Nat.le_of_ble_eq_true rfl), (Nat.le_of_ble_eq_true rfl)⟩ rfl hl.1 rfl (Nat.le_of_ble_eq_true rfl) dX12_readPart_109 ⟨(Nat.le_of_ble_eq_true rfl), (Nat.le_of_ble_eq_true rfl)⟩) hW (fun f1 H locs hp hW => ?_)
                            obtain ⟨bd4, hfe4, hne, hQ⟩ := hp
                            obtain ⟨I, L, F, hR, hTc, hTp, hTk, hGW, hGr, hGd, hGp, hGt, hGc, hF11, hF14, hF44, hF41, hF42, hF43, hF45, hN, hSI⟩ := hQ
                            obtain ⟨hlv, hd6, hw3, hρ0, hκ0, hbd, hgl⟩ := id hN
                            have hl250 := hGW.2.2.2.2
                            exact rl_vret hC hW hr hlk (Nat.le_refl _) (Nat.le_refl _) ⟨rfl, rfl, rfl, a + 1 + 1, la2, bd4, d + 1, ρ, G, d + 1, d, SD, SL, SI, ⟨_, _, _, hR, hTc, hTp, hTk, hGW, hGr, hGd, hGp, hGt, hGc, hF11, hF14, hF44, hF41, hF42, hF43, hF45, hN, (fun q => absurd q hne)⟩, by omega, fun q => absurd q hne, Or.inl ⟨_, (pt_c hlf1 hlf2 rfl (by decide) hfd hcs).trans (by rw [hfe4]), fun q => absurd q hne⟩⟩ dX12_readPart_112
                    · have hfd : q_find T (SD d) rk = none := by rw [hD]; exact pu_find_n (g := fun i => T 3 (5 * j + i)) hp
                      refine lv_istore (lv' := [(6, .int (-3)), (4, .long (lN 4)), (2, .long (rk)), (1, .int (nI (j))), (0, .ref (m))]) hx hb dX12_readPart_70 hl (by decide) rfl (fun ls hl => ?_)
                      refine lv_iload hx hb dX12_readPart_72 (lv_at hl 0 rfl) ?_
                      refine lv_if_lt (tgt := 81) hx hb dX12_readPart_74 (by decide) (fun c3 => ?_) (fun c3 => ?_)
                      · have hcs : ¬ q_cast T (SD d) none 4 := cs_n
                        refine lv_iconst (v := (nI (0))) hx hb dX12_readPart_81 (by decide) ?_
                        refine lv_istore (lv' := [(7, .int (nI (0))), (6, .int (-3)), (4, .long (lN 4)), (2, .long (rk)), (1, .int (nI (j))), (0, .ref (m))]) hx hb dX12_readPart_82 hl (by decide) rfl (fun ls hl => ?_)
                        refine lv_iload hx hb dX12_readPart_84 (lv_at hl 0 rfl) ?_
                        refine lv_if_eq (tgt := 113) hx hb dX12_readPart_86 (by decide) (fun c4 => ?_) (fun c4 => ?_)
                        · refine lv_iconst (v := (nI (5))) hx hb dX12_readPart_113 (by decide) ?_
                          refine lv_aload_n hx hb dX12_readPart_114 rfl (lv_at hl 5 rfl) ?_
                          refine rl_get (v := .int (F 45)) hC hW fl_X12_251 hR.1 rfl dX12_readPart_115 ?_
                          refine rl_topn (y := nI (d + 1)) (hF45) ?_
                          refine lv_imul hx hb dX12_readPart_118 ?_
                          refine rl_topn (pk_mul _ _) ?_
                          refine lv_iload hx hb dX12_readPart_119 (lv_at hl 0 rfl) ?_
                          refine lv_if_eq (tgt := 129) hx hb dX12_readPart_121 (by decide) (fun c_80 => ?_) (fun c_80 => ?_)
                          · refine lv_iconst (v := (nI (0))) hx hb dX12_readPart_129 (by decide) ?_
                            refine lv_iadd hx hb dX12_readPart_130 ?_
                            refine rl_topn (nI_add _ _) ?_
                            refine lv_istore (lv' := [(8, .int (nI (((5) * (d + 1)) + (0)))), (7, .int (nI (0))), (6, .int (-3)), (4, .long (lN 4)), (2, .long (rk)), (1, .int (nI (j))), (0, .ref (m))]) hx hb dX12_readPart_131 hl (by decide) rfl (fun ls hl => ?_)
                            refine lv_lload hx hb dX12_readPart_133 (lv_at hl 3 rfl) ?_
                            refine lv_ldc2 (v := 2) hx hb hC.2.2.2.1 (hC.2.2.2.2.1 _ (List.mem_cons_of_mem _ mw_808)) dX12_readPart_135 ?_
                            refine W.lcmp hx hb dX12_readPart_138 ?_
                            refine rl_topn (y := 1) (by decide) ?_
                            refine lv_if_ge (tgt := 175) hx hb dX12_readPart_139 (by decide) (fun c_81 => ?_) (fun c_81 => ?_)
                            · refine lv_lload hx hb dX12_readPart_175 (lv_at hl 3 rfl) ?_
                              refine lv_ldc2 (v := 2) hx hb hC.2.2.2.1 (hC.2.2.2.2.1 _ (List.mem_cons_of_mem _ mw_808)) dX12_readPart_177 ?_
                              refine W.lcmp hx hb dX12_readPart_180 ?_
                              refine rl_topn (y := 1) (by decide) ?_
                              refine lv_if_ne (tgt := 263) hx hb dX12_readPart_181 (by decide) (fun c_82 => ?_) (fun c_82 => ?_)
                              · refine lv_lload hx hb dX12_readPart_263 (lv_at hl 3 rfl) ?_
                                refine lv_ldc2 (v := 4) hx hb hC.2.2.2.1 (hC.2.2.2.2.1 _ (List.mem_cons_of_mem _ mw_822)) dX12_readPart_265 ?_
                                refine W.lcmp hx hb dX12_readPart_268 ?_
                                refine rl_topn (y := 0) (by decide) ?_
                                refine lv_if_ne (tgt := 307) hx hb dX12_readPart_269 (by decide) (fun c_83 => ?_) (fun c_83 => ?_)
                                · first | exact absurd c_83 (by decide) | exact absurd (by decide) c_83
                                · refine lv_aload_n hx hb dX12_readPart_272 rfl (lv_at hl 6 rfl) ?_
                                  refine lv_iload hx hb dX12_readPart_273 (lv_at hl 1 rfl) ?_
                                  refine rl_calliQ (rl_runV (b := m) (As := [.int (nI (0))]) (rest := []) hC hW (cR_readRow l D t A _ z m T w ρ0 κ0 G0 (a + 1 + 1) la2 (d + 1) ρ κ G (d + 1) d SD SL SI ⟨_, _, _, hR, hTc, hTp, hTk, hGW, hGr, hGd, hGp, hGt, hGc, hF11, hF14, hF44, hF41, hF42, hF43, hF45, hN, hSI⟩ hB (by omega) 0 false (Or.inl ⟨rfl, rfl⟩)) cs_X12_261 im_X12_readRow sl_X12_readRow hR.1 rfl ⟨(Nat.le_of_ble_eq_true rfl), (Nat.le_of_ble_eq_true rfl)⟩ rfl hl.1 rfl (Nat.le_of_ble_eq_true rfl) dX12_readPart_275 ⟨(Nat.le_of_ble_eq_true rfl), (Nat.le_of_ble_eq_true rfl)⟩) hW (fun r f1 H locs hp hW => ?_)
                                  obtain ⟨a3, la3, bd3, ρ3, G3, h3, hrw, hQ, hρρ, rfl, hok3, hpo⟩ := hp
                                  obtain ⟨I, L, F, hR, hTc, hTp, hTk, hGW, hGr, hGd, hGp, hGt, hGc, hF11, hF14, hF44, hF41, hF42, hF43, hF45, hN, hSI⟩ := hQ
                                  obtain ⟨hlv, hd6, hw3, hρ0, hκ0, hbd, hgl⟩ := id hN
                                  have hl250 := hGW.2.2.2.2
                                  refine lv_istore (lv' := [(9, .int (enc h3)), (8, .int (nI (((5) * (d + 1)) + (0)))), (7, .int (nI (0))), (6, .int (-3)), (4, .long (lN 4)), (2, .long (rk)), (1, .int (nI (j))), (0, .ref (m))]) hx hb dX12_readPart_278 hl (by decide) rfl (fun ls hl => ?_)
                                  refine lv_aload_n hx hb dX12_readPart_280 rfl (lv_at hl 7 rfl) ?_
                                  refine rl_get (v := .ref (m + 23)) hC hW fl_X12_85 hR.1 rfl dX12_readPart_281 ?_
                                  refine lv_iload hx hb dX12_readPart_284 (lv_at hl 1 rfl) ?_
                                  refine lv_iload hx hb dX12_readPart_286 (lv_at hl 2 rfl) ?_
                                  refine lv_if_eq (tgt := 296) hx hb dX12_readPart_288 (by decide) (fun c_84 => ?_) (fun c_84 => ?_)
                                  · refine lv_aload_n hx hb dX12_readPart_296 rfl (lv_at hl 7 rfl) ?_
                                    refine rl_get (v := .ref (m + 23)) hC hW fl_X12_85 hR.1 rfl dX12_readPart_297 ?_
                                    refine lv_iload hx hb dX12_readPart_300 (lv_at hl 1 rfl) ?_
                                    refine rl_iald_n (g := I 32) hC hW hR.a32 (by omega) (by decide) dX12_readPart_302 ?_
                                    refine rl_iast_n (g := I 32) hC hW hR.a32 (by omega) (by decide) dX12_readPart_303 (fun H locs hW => ?_)
                                    have hR := hR.s32 (upd (I 32) (((5) * (d + 1)) + (0)) ((I 32 (((5) * (d + 1)) + (0)))))
                                    refine lv_goto (tgt := 386) hx hb dX12_readPart_304 (by decide) ?_
                                    exact rl_vret hC hW hr hlk (Nat.le_refl _) (Nat.le_refl _) ⟨rfl, rfl, rfl, a3, la3, bd3, d + 1, ρ3, G3, d + 1, d, va_up SD d (q_put (SD d) none h3), SL, SI, ⟨_, _, _, hR, hTc, hTp, hTk, hGW, hGr, hGd, hGp, hGt, hGc, hF11, hF14, hF44, hF41, hF42, hF43, hF45, hN, (fun q => by rw [pn_p, va_up_same]; exact (hSI q).same upd_self rfl)⟩, by omega, fun q => ⟨rfl, by omega, rfl, by have := hpo q; omega, (hpo q).1, by have := hpo q; omega, by omega⟩, Or.inl ⟨q_put (SD d) none h3, (pt_v hlf1 hlf2 rfl (by decide) hfd hcs).trans ((vl_r (b := false) rfl).trans (by rw [hrw])), fun _ => ⟨rfl, rfl, rfl, rfl⟩⟩⟩ dX12_readPart_386
                                  · first | exact absurd c_84 (by decide) | exact absurd (by decide) c_84
                              · first | exact absurd c_82 (by decide) | exact absurd (by decide) c_82
                            · first | exact absurd c_81 (by decide) | exact absurd (by decide) c_81
                          · first | exact absurd c_80 (by decide) | exact absurd (by decide) c_80
                        · first | exact absurd c4 (by decide) | exact absurd (by decide) c4
                      · exact absurd (by decide) c3
                  · exact absurd (nI_pos' (by omega)) c2
                · exact absurd rfl c8
              · exact absurd c9 (by decide)
          · refine lv_if_ne (tgt := 47) hx hb dX12_readPart_39 (by decide) (fun c9 => ?_) (fun c9 => ?_)
            · exact absurd rfl c9
            · refine lv_aload_n hx hb dX12_readPart_42 rfl (lv_at hl 3 rfl) ?_
              refine lv_iconst (v := (nI (2))) hx hb dX12_readPart_43 (by decide) ?_
              refine rl_callvQ (rl_runV (b := m) (As := [.int (nI (2))]) (rest := []) hC hW (cR_fails l D t A _ z m T w ρ0 κ0 G0 (a + 1 + 1) (la2) 0 (d + 1) (ρ) (κ) G (d + 1) (d) SD SL SI ⟨_, _, _, hR, hTc, hTp, hTk, hGW, hGr, hGd, hGp, hGt, hGc, hF11, hF14, hF44, hF41, hF42, hF43, hF45, hN, hSI⟩ 2 (by decide) (by decide)) cs_X12_247 im_X12_fails sl_X12_fails hR.1 rfl ⟨(Nat.le_of_ble_eq_true rfl), (Nat.le_of_ble_eq_true rfl)⟩ rfl hl.1 rfl (Nat.le_of_ble_eq_true rfl) dX12_readPart_44 ⟨(Nat.le_of_ble_eq_true rfl), (Nat.le_of_ble_eq_true rfl)⟩) hW (fun f1 H locs hp hW => ?_)
              obtain ⟨bd4, hfe4, hne, hQ⟩ := hp
              obtain ⟨I, L, F, hR, hTc, hTp, hTk, hGW, hGr, hGd, hGp, hGt, hGc, hF11, hF14, hF44, hF41, hF42, hF43, hF45, hN, hSI⟩ := hQ
              obtain ⟨hlv, hd6, hw3, hρ0, hκ0, hbd, hgl⟩ := id hN
              have hl250 := hGW.2.2.2.2
              refine lv_aload_n hx hb dX12_readPart_47 rfl (lv_at hl 3 rfl) ?_
              refine rl_get (v := .int (F 43)) hC hW fl_X12_238 hR.1 rfl dX12_readPart_48 ?_
              refine rl_topn (y := nI (bd4)) (hF43) ?_
              refine lv_if_eq (tgt := 55) hx hb dX12_readPart_51 (by decide) (fun c_85 => ?_) (fun c_85 => ?_)
              · exact absurd ((nI_eq (by omega) (by decide)).mp c_85) hne
              · exact rl_vret hC hW hr hlk (Nat.le_refl _) (Nat.le_refl _) ⟨rfl, rfl, rfl, a + 1 + 1, la2, bd4, d + 1, ρ, G, d + 1, d, SD, SL, SI, ⟨_, _, _, hR, hTc, hTp, hTk, hGW, hGr, hGd, hGp, hGt, hGc, hF11, hF14, hF44, hF41, hF42, hF43, hF45, hN, (fun q => absurd q hne)⟩, by omega, fun q => absurd q hne, Or.inl ⟨_, (pt_o hlf1 hlf2 rfl hp).trans (by rw [hfe4]), fun q => absurd q hne⟩⟩ dX12_readPart_54
      · obtain ⟨hne, rfl, hr02⟩ := hw2
        obtain ⟨I, L, F, hR, hTc, hTp, hTk, hGW, hGr, hGd, hGp, hGt, hGc, hF11, hF14, hF44, hF41, hF42, hF43, hF45, hN, hSI⟩ := hQ
        obtain ⟨hlv, hd6, hw3, hρ0, hκ0, hbd, hgl⟩ := id hN
        have hl250 := hGW.2.2.2.2
        refine lv_lstore (lv' := [(4, .long (rs)), (2, .long (rk)), (1, .int (nI (j))), (0, .ref (m))]) hx hb dX12_readPart_21 hl (by decide) rfl (fun ls hl => ?_)
        refine lv_aload_n hx hb dX12_readPart_23 rfl (lv_at hl 3 rfl) ?_
        refine rl_get (v := .int (F 43)) hC hW fl_X12_238 hR.1 rfl dX12_readPart_24 ?_
        refine rl_topn (y := nI (bd2)) (hF43) ?_
        refine lv_if_ne (tgt := 47) hx hb dX12_readPart_27 (by decide) (fun c_86 => ?_) (fun c_86 => ?_)
        · refine lv_aload_n hx hb dX12_readPart_47 rfl (lv_at hl 3 rfl) ?_
          refine rl_get (v := .int (F 43)) hC hW fl_X12_238 hR.1 rfl dX12_readPart_48 ?_
          refine rl_topn (y := nI (bd2)) (hF43) ?_
          refine lv_if_eq (tgt := 55) hx hb dX12_readPart_51 (by decide) (fun c_87 => ?_) (fun c_87 => ?_)
          · exact absurd ((nI_eq (by omega) (by decide)).mp c_87) hne
          · exact rl_vret hC hW hr hlk (Nat.le_refl _) (Nat.le_refl _) ⟨rfl, rfl, rfl, a + 1, la2, bd2, d + 1, ρ, G, d + 1, d, SD, SL, SI, ⟨_, _, _, hR, hTc, hTp, hTk, hGW, hGr, hGd, hGp, hGt, hGc, hF11, hF14, hF44, hF41, hF42, hF43, hF45, hN, (fun q => absurd q hne)⟩, by omega, fun q => absurd q hne, Or.inl ⟨_, pt_2 hlf1 hlf2 hne, fun q => absurd q hne⟩⟩ dX12_readPart_54
        · exact absurd ((nI_eq (by omega) (by decide)).mp c_86) hne
    · obtain ⟨hne, rfl, hr01⟩ := hw1
      obtain ⟨I, L, F, hR, hTc, hTp, hTk, hGW, hGr, hGd, hGp, hGt, hGc, hF11, hF14, hF44, hF41, hF42, hF43, hF45, hN, hSI⟩ := hQ
      obtain ⟨hlv, hd6, hw3, hρ0, hκ0, hbd, hgl⟩ := id hN
      have hl250 := hGW.2.2.2.2
      refine lv_lstore_n (lv' := [(2, .long (rk)), (1, .int (nI (j))), (0, .ref (m))]) hx hb dX12_readPart_16 rfl hl (by decide) rfl (fun ls hl => ?_)
      refine lv_aload_n hx hb dX12_readPart_17 rfl (lv_at hl 2 rfl) ?_
      refine rl_calllQ (rl_runV (b := m) (As := []) (rest := []) hC hW (cR_want l D t A _ z m T w ρ0 κ0 G0 (a) (la1) bd1 (d + 1) (ρ) (κ) G (d + 1) (d) SD SL SI ⟨_, _, _, hR, hTc, hTp, hTk, hGW, hGr, hGd, hGp, hGt, hGc, hF11, hF14, hF44, hF41, hF42, hF43, hF45, hN, hSI⟩) cs_X12_254 im_X12_want sl_X12_want hR.1 rfl ⟨(Nat.le_of_ble_eq_true rfl), (Nat.le_of_ble_eq_true rfl)⟩ rfl hl.1 rfl (Nat.le_of_ble_eq_true rfl) dX12_readPart_18 ⟨(Nat.le_of_ble_eq_true rfl), (Nat.le_of_ble_eq_true rfl)⟩) hW (fun rs f1 H locs hp hW => ?_)
      obtain ⟨a2, la2, bd2, hlf2, hQ, hw2⟩ := hp
      obtain ⟨er2, ea2, el2, eb2⟩ := lf_i hne hlf2
      subst ea2 el2 eb2
      obtain ⟨I, L, F, hR, hTc, hTp, hTk, hGW, hGr, hGd, hGp, hGt, hGc, hF11, hF14, hF44, hF41, hF42, hF43, hF45, hN, hSI⟩ := hQ
      obtain ⟨hlv, hd6, hw3, hρ0, hκ0, hbd, hgl⟩ := id hN
      have hl250 := hGW.2.2.2.2
      refine lv_lstore (lv' := [(4, .long (rs)), (2, .long (rk)), (1, .int (nI (j))), (0, .ref (m))]) hx hb dX12_readPart_21 hl (by decide) rfl (fun ls hl => ?_)
      refine lv_aload_n hx hb dX12_readPart_23 rfl (lv_at hl 3 rfl) ?_
      refine rl_get (v := .int (F 43)) hC hW fl_X12_238 hR.1 rfl dX12_readPart_24 ?_
      refine rl_topn (y := nI (bd1)) (hF43) ?_
      refine lv_if_ne (tgt := 47) hx hb dX12_readPart_27 (by decide) (fun c_88 => ?_) (fun c_88 => ?_)
      · refine lv_aload_n hx hb dX12_readPart_47 rfl (lv_at hl 3 rfl) ?_
        refine rl_get (v := .int (F 43)) hC hW fl_X12_238 hR.1 rfl dX12_readPart_48 ?_
        refine rl_topn (y := nI (bd1)) (hF43) ?_
        refine lv_if_eq (tgt := 55) hx hb dX12_readPart_51 (by decide) (fun c_89 => ?_) (fun c_89 => ?_)
        · exact absurd ((nI_eq (by omega) (by decide)).mp c_89) hne
        · exact rl_vret hC hW hr hlk (Nat.le_refl _) (Nat.le_refl _) ⟨rfl, rfl, rfl, a, la1, bd1, d + 1, ρ, G, d + 1, d, SD, SL, SI, ⟨_, _, _, hR, hTc, hTp, hTk, hGW, hGr, hGd, hGp, hGt, hGc, hF11, hF14, hF44, hF41, hF42, hF43, hF45, hN, (fun q => absurd q hne)⟩, by omega, fun q => absurd q hne, Or.inl ⟨_, pt_1 hlf1 hne, fun q => absurd q hne⟩⟩ dX12_readPart_54
      · exact absurd ((nI_eq (by omega) (by decide)).mp c_88) hne
