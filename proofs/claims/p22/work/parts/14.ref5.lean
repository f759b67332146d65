
def rf_fam (T : Nat → Nat → Nat) (ρ κ : Nat) (h : pHd) (r : Int32) : Prop := (h = none ∧ r = 0) ∨ (∃ n, n < 60 ∧ h = hcon n ∧ ((r = 1 ∧ T 9 n = 0) ∨ (r = 2 ∧ T 9 n = 1))) ∨ (∃ n, n < ρ ∧ h = hrow n ∧ r = 3) ∨ ∃ n, n < κ ∧ h = hrec n ∧ r = 4
theorem rf_fam.e {T : Nat → Nat → Nat} {ρ κ : Nat} {h : pHd} {r : Int32} (q : rf_fam T ρ κ h r) : r = nI (fam T h) := by
  rcases q with ⟨rfl, rfl⟩ | ⟨n, hn, rfl, ⟨rfl, e⟩ | ⟨rfl, e⟩⟩ | ⟨n, hn, rfl, rfl⟩ | ⟨n, hn, rfl, rfl⟩
  · rfl
  · simp only [fam, e]; rfl
  · simp only [fam, e]; rfl
  · rfl
  · rfl
theorem rg_m1 {n : Nat} (h : n < 2 ^ 31) : ¬ nI n = -1 := fun e => nI_pos h (by rw [e]; decide)
theorem rg_mn {n : Nat} {x : Int32} (h : n < 2 ^ 31) (hx : x < 0) : ¬ nI n = x := fun e => nI_pos h (by rw [e]; exact hx)
theorem va_up_same {α : Type} (f : Nat → α) (k : Nat) : va_up f k (f k) = f := by
  funext j
  unfold va_up
  split
  · rename_i e; rw [e]
  · rfl
theorem va_up_up {α : Type} (f : Nat → α) (k : Nat) (a b : α) : va_up (va_up f k a) k b = va_up f k b := by
  funext j
  unfold va_up
  split <;> rfl
section RGS
variable {T : Nat → Nat → Nat} {ρ κ p q n : Nat} {G : pG} {h : pHd}
theorem GW.pl (hG : GW T ρ κ G) (hh : hok ρ κ h) : GW T ρ κ (gX G 0 (va_up (G.2.2.2 0) p h)) := by
  refine ⟨hG.1, hG.2.1, fun x hx => ?_, hG.2.2.2⟩
  show hok ρ κ (va_up (G.2.2.2 0) p h x)
  unfold va_up
  split
  · exact hh
  · exact hG.2.2.1 x hx
theorem RGp.pl {a19 a21 : Nat → Int32} {b20 : Nat → Int64} {v : Int32} (hG : RGp G a19 b20 a21) (e : v = enc h) : RGp (gX G 0 (va_up (G.2.2.2 0) p h)) (upd a19 p v) b20 a21 := by
  refine ⟨fun x hx => ?_, hG.2⟩
  show upd a19 p v x = enc (va_up (G.2.2.2 0) p h x)
  unfold va_up upd
  split
  · exact e
  · exact hG.1 x hx
theorem GW.give {v : Int64} (hG : GW T ρ κ G) (hq : q < 10) : GW T ρ κ (gN (gZ G 1 (vp_updL (G.2.2.1 1) p v)) 3 (va_up (G.1 3) p q)) := by
  refine ⟨hG.1, hG.2.1, hG.2.2.1, fun x hx => ?_, hG.2.2.2.2⟩
  show va_up (G.1 3) p q x < 10
  unfold va_up
  split
  · exact hq
  · exact hG.2.2.2.1 x hx
theorem RGp.give {a19 a21 : Nat → Int32} {b20 : Nat → Int64} {v : Int64} (hG : RGp G a19 b20 a21) : RGp (gN (gZ G 1 (vp_updL (G.2.2.1 1) p v)) 3 (va_up (G.1 3) p q)) a19 (vp_updL b20 p v) (upd a21 p (nI q)) := by
  refine ⟨hG.1, fun x hx => ?_⟩
  show vp_updL b20 p v x = vp_updL (G.2.2.1 1) p v x ∧ upd a21 p (nI q) x = nI (va_up (G.1 3) p q x)
  unfold vp_updL upd va_up
  split
  · exact ⟨rfl, rfl⟩
  · exact hG.2 x hx
theorem GW.row (hG : GW T ρ κ G) (hn : n ≤ 8) : GW T (ρ + 1) κ (pu_row ρ G n) := by
  refine ⟨fun x hx => ?_, fun r hr => ?_, fun x hx => (hG.2.2.1 x hx).mono (by omega) (Nat.le_refl _), hG.2.2.2⟩
  · show va_up (G.1 0) ρ n x ≤ 8
    unfold va_up
    split
    · exact hn
    · exact hG.1 x (by omega)
  · obtain ⟨g1, g2, g3⟩ := hG.2.1 r hr
    exact ⟨g1, g2, fun p hp => ⟨(g3 p hp).1.mono (by omega) (Nat.le_refl _), (g3 p hp).2⟩⟩
theorem RGr.row {a12 a13 g13 : Nat → Int32} (hG : RGr ρ G a12 a13) (e : g13 = pu_up (8 * ρ) (fun _ => 0) 8 a13) : RGr (ρ + 1) (pu_row ρ G n) (upd a12 ρ (nI n)) g13 := by
  refine ⟨fun x hx => ?_, fun x hx => ?_⟩
  · show upd a12 ρ (nI n) x = nI (va_up (G.1 0) ρ n x)
    unfold va_up upd
    split
    · rfl
    · exact hG.1 x (by omega)
  · show g13 x = pu_up (8 * ρ) (fun _ => 0) 8 (G.2.1 1) x
    rw [e]
    unfold pu_up
    split
    · rfl
    · exact hG.2 x (by omega)
theorem RGr.item {a12 a13 : Nat → Int32} {x : Nat} {v : Int32} (hG : RGr ρ G a12 a13) : RGr ρ (gY G 1 (upd (G.2.1 1) x v)) a12 (upd a13 x v) := by
  refine ⟨hG.1, fun y hy => ?_⟩
  show upd a13 x v y = upd (G.2.1 1) x v y
  unfold upd
  split
  · rfl
  · exact hG.2 y hy
end RGS

set_option maxHeartbeats 4000000 in
set_option maxRecDepth 100000 in
theorem cR_check (l : Launch) (D : va_G) (t : Nat → ClassId) (A : Nat → Prop) (f : rl_M) (z : Nat) (m : Nat) (T : Nat → Nat → Nat) (ρ κ : Nat) (G : pG) (hS : RS t f m T ρ κ G) (x1 x2 x3 x4 x5 : Int32) : rl_Met l yX12_check (.code yX12_check cX12_check 9 (some FieldType.int)) (rl_rm 2 0 0) D t A f z [.ref (m), .int (x1), .int (x2), .int (x3), .int (x4), .int (x5)] (rl_qi z fun r f1 => ∃ T', rt_chk T x1 x2 x3 x4 x5 r T' ∧ RS t f1 m T' ρ κ G) := by
  obtain ⟨I, L, F, hR, hTc, hTp, hTk, hGW, hGr, hGd, hGp, hGt, hGc, hF11, hF14⟩ := hS
  refine rl_begin (own := RX12) (lv := [(0, .ref (m)), (1, .int (x1)), (2, .int (x2)), (3, .int (x3)), (4, .int (x4)), (5, .int (x5))]) (by decide +kernel) rfl (Nat.le_of_ble_eq_true rfl) rfl fun p e s m0 args below meth c ls H locs hC hr hlk hnm hW hl hx hb => ?_
  refine lv_iload_n hx hb dX12_check_0 rfl (lv_at hl 1 rfl) ?_
  refine lv_i2l hx hb dX12_check_1 rfl ?_
  refine rl_calliQ (rl_runS (As := [.long ((x1).toInt64)]) (rest := []) hC hW (cR_isRecordKind l D t A _ z _) cs_X12_133 sm_X12_isRecordKind ⟨(Nat.le_of_ble_eq_true rfl), (Nat.le_of_ble_eq_true rfl)⟩ rfl hl.1 rfl (Nat.le_of_ble_eq_true rfl) dX12_check_2 ⟨(Nat.le_of_ble_eq_true rfl), (Nat.le_of_ble_eq_true rfl)⟩) hW (fun r f1 H locs hp hW => ?_)
  obtain ⟨rfl, hp⟩ := hp
  rw [rg_rk] at hp
  rcases hp with ⟨rfl, hp⟩ | ⟨rfl, hp⟩
  · obtain ⟨k, hk, rfl⟩ := hp
    refine lv_if_eq (tgt := 27) hx hb dX12_check_5 (by decide) (fun c9 => ?_) (fun c9 => ?_)
    · exact absurd c9 (by decide)
    · refine lv_iload_n hx hb dX12_check_8 rfl (lv_at hl 2 rfl) ?_
      refine rl_calliQ (rl_runS (As := [.int (x2)]) (rest := []) hC hW (cR_isVersion l D t A _ z _) cs_X12_125 sm_X12_isVersion ⟨(Nat.le_of_ble_eq_true rfl), (Nat.le_of_ble_eq_true rfl)⟩ rfl hl.1 rfl (Nat.le_of_ble_eq_true rfl) dX12_check_9 ⟨(Nat.le_of_ble_eq_true rfl), (Nat.le_of_ble_eq_true rfl)⟩) hW (fun r f1 H locs hp hW => ?_)
      obtain ⟨rfl, hp⟩ := hp
      rcases hp with ⟨rfl, hp⟩ | ⟨rfl, hp⟩
      · obtain ⟨v, hv, rfl⟩ := hp
        refine lv_if_eq (tgt := 27) hx hb dX12_check_12 (by decide) (fun c9 => ?_) (fun c9 => ?_)
        · exact absurd c9 (by decide)
        · refine lv_iload_n hx hb dX12_check_15 rfl (lv_at hl 3 rfl) ?_
          refine lv_i2l hx hb dX12_check_16 rfl ?_
          refine lv_lconst (v := 0) hx hb dX12_check_17 (by decide) ?_
          refine lv_ldc2 (v := 4) hx hb hC.2.2.2.1 (hC.2.2.2.2.1 _ (List.mem_cons_of_mem _ mw_822)) dX12_check_18 ?_
          refine rl_calliQ (rl_runS (As := [.long ((x3).toInt64), .long (0), .long (4)]) (rest := []) hC hW (cR_in l D t A _ z _ _ _) cs_X12_117 sm_X12_in ⟨(Nat.le_of_ble_eq_true rfl), (Nat.le_of_ble_eq_true rfl)⟩ rfl hl.1 rfl (Nat.le_of_ble_eq_true rfl) dX12_check_21 ⟨(Nat.le_of_ble_eq_true rfl), (Nat.le_of_ble_eq_true rfl)⟩) hW (fun r f1 H locs hp hW => ?_)
          obtain ⟨rfl, hp⟩ := hp
          rw [rg_ix (n := 4) (by decide) (by decide) (by decide)] at hp
          rcases hp with ⟨rfl, hp⟩ | ⟨rfl, hp⟩
          · obtain ⟨h, hh, rfl⟩ := hp
            refine lv_if_ne (tgt := 29) hx hb dX12_check_24 (by decide) (fun c9 => ?_) (fun c9 => ?_)
            · have hj12 : 3 * k + v < 12 := by omega
              have hc := hTp.1 (3 * k + v) hj12
              refine lv_iconst (v := (nI (3))) hx hb dX12_check_29 (by decide) ?_
              refine lv_iload_n hx hb dX12_check_30 rfl (lv_at hl 1 rfl) ?_
              refine lv_iconst (v := (nI (2))) hx hb dX12_check_31 (by decide) ?_
              refine lv_isub hx hb dX12_check_32 ?_
              refine rl_topn (rg_sub (c := k) (by omega)) ?_
              refine lv_imul hx hb dX12_check_33 ?_
              refine rl_topn (pk_mul _ _) ?_
              refine lv_iload_n hx hb dX12_check_34 rfl (lv_at hl 2 rfl) ?_
              refine lv_iadd hx hb dX12_check_35 ?_
              refine rl_topn (nI_add _ _) ?_
              refine lv_istore (lv' := [(6, .int (nI (((3) * (k)) + (v)))), (0, .ref (m)), (1, .int (nI (2 + k))), (2, .int (nI (v))), (3, .int (nI (h))), (4, .int (x4)), (5, .int (x5))]) hx hb dX12_check_36 hl (by decide) rfl (fun ls hl => ?_)
              refine lv_iload_n hx hb dX12_check_38 rfl (lv_at hl 4 rfl) ?_
              refine lv_iconst (v := (nI (2))) hx hb dX12_check_39 (by decide) ?_
              refine lv_icmp_ge (tgt := 47) hx hb dX12_check_40 (by decide) (fun c2 => ?_) (fun c2 => ?_)
              · have g2 : 2 ≤ h := rg_le c2 (by decide) (by omega)
                refine lv_iload_n hx hb dX12_check_47 rfl (lv_at hl 4 rfl) ?_
                refine lv_iconst (v := (nI (2))) hx hb dX12_check_48 (by decide) ?_
                refine lv_icmp_ne (tgt := 56) hx hb dX12_check_49 (by decide) (fun c3 => ?_) (fun c3 => ?_)
                · have n2 : h ≠ 2 := fun q => c3 (by rw [q])
                  refine lv_iload_n hx hb dX12_check_56 rfl (lv_at hl 4 rfl) ?_
                  refine lv_iconst (v := (nI (3))) hx hb dX12_check_57 (by decide) ?_
                  refine lv_icmp_ne (tgt := 65) hx hb dX12_check_58 (by decide) (fun c4 => ?_) (fun c4 => ?_)
                  · have n3 : h ≠ 3 := fun q => c4 (by rw [q])
                    have e4 : h = 4 := by omega
                    have hs : rt_srt h = 2 := by subst e4; rfl
                    refine lv_iconst (v := (nI (2))) hx hb dX12_check_65 (by decide) ?_
                    refine lv_istore (lv' := [(7, .int (nI (2))), (6, .int (nI (((3) * (k)) + (v)))), (0, .ref (m)), (1, .int (nI (2 + k))), (2, .int (nI (v))), (3, .int (nI (h))), (4, .int (x4)), (5, .int (x5))]) hx hb dX12_check_66 hl (by decide) rfl (fun ls hl => ?_)
                    refine lv_aload_n hx hb dX12_check_68 rfl (lv_at hl 2 rfl) ?_
                    refine lv_iload hx hb dX12_check_69 (lv_at hl 1 rfl) ?_
                    refine lv_iload hx hb dX12_check_71 (lv_at hl 6 rfl) ?_
                    refine lv_iload hx hb dX12_check_73 (lv_at hl 0 rfl) ?_
                    refine rl_calliQ (rl_runV (b := m) (As := [.int (nI (((3) * (k)) + (v))), .int (x4), .int (nI (2))]) (rest := []) hC hW (cR_isSort l D t A _ z m I L F hR T hTp (3 * k + v) hj12 _ 2 (by decide)) cs_X12_143 im_X12_isSort sl_X12_isSort hR.1 rfl ⟨(Nat.le_of_ble_eq_true rfl), (Nat.le_of_ble_eq_true rfl)⟩ rfl hl.1 rfl (Nat.le_of_ble_eq_true rfl) dX12_check_75 ⟨(Nat.le_of_ble_eq_true rfl), (Nat.le_of_ble_eq_true rfl)⟩) hW (fun r f1 H locs hp hW => ?_)
                    obtain ⟨rfl, hp⟩ := hp
                    rcases hp with ⟨rfl, hp⟩ | ⟨rfl, hp⟩
                    · obtain ⟨a, ha, rfl, has⟩ := hp
                      refine lv_if_eq (tgt := 98) hx hb dX12_check_78 (by decide) (fun c9 => ?_) (fun c9 => ?_)
                      · exact absurd c9 (by decide)
                      · refine lv_iload_n hx hb dX12_check_81 rfl (lv_at hl 5 rfl) ?_
                        refine lv_iconst (v := (nI (1))) hx hb dX12_check_82 (by decide) ?_
                        refine lv_icmp_eq (tgt := 100) hx hb dX12_check_83 (by decide) (fun c6 => ?_) (fun c6 => ?_)
                        · have e1 : h = 1 := (nI_eq (by omega) (by decide)).mp c6
                          have hcc := hTk.1 (3 * k + v) hj12
                          refine lv_aload_n hx hb dX12_check_100 rfl (lv_at hl 2 rfl) ?_
                          refine rl_get (v := .ref (m + 8)) hC hW fl_X12_32 hR.1 rfl dX12_check_101 ?_
                          refine lv_iload hx hb dX12_check_104 (lv_at hl 1 rfl) ?_
                          refine rl_iald_n (g := I 7) hC hW hR.a7 (by omega) (by decide) dX12_check_106 ?_
                          refine rl_topn (hcc.1) ?_
                          refine lv_iconst (v := (nI (2))) hx hb dX12_check_107 (by decide) ?_
                          refine lv_icmp_ne (tgt := 114) hx hb dX12_check_108 (by decide) (fun c7 => ?_) (fun c7 => ?_)
                          · have n5 : T 5 (3 * k + v) ≠ 2 := fun q => c7 (by rw [q])
                            refine lv_aload_n hx hb dX12_check_114 rfl (lv_at hl 2 rfl) ?_
                            refine rl_get (v := .ref (m + 8)) hC hW fl_X12_32 hR.1 rfl dX12_check_115 ?_
                            refine lv_iload hx hb dX12_check_118 (lv_at hl 1 rfl) ?_
                            refine rl_iald_n (g := I 7) hC hW hR.a7 (by omega) (by decide) dX12_check_120 ?_
                            refine rl_topn (hcc.1) ?_
                            refine lv_istore (lv' := [(8, .int (nI (T 5 (((3) * (k)) + (v))))), (7, .int (nI (2))), (6, .int (nI (((3) * (k)) + (v)))), (0, .ref (m)), (1, .int (nI (2 + k))), (2, .int (nI (v))), (3, .int (nI (h))), (4, .int (nI (a))), (5, .int (x5))]) hx hb dX12_check_121 hl (by decide) rfl (fun ls hl => ?_)
                            refine lv_aload_n hx hb dX12_check_123 rfl (lv_at hl 3 rfl) ?_
                            refine rl_get (v := .ref (m + 9)) hC hW fl_X12_35 hR.1 rfl dX12_check_124 ?_
                            refine lv_iconst (v := (nI (2))) hx hb dX12_check_127 (by decide) ?_
                            refine lv_iload hx hb dX12_check_128 (lv_at hl 2 rfl) ?_
                            refine lv_imul hx hb dX12_check_130 ?_
                            refine rl_topn (pk_mul _ _) ?_
                            refine lv_iload hx hb dX12_check_131 (lv_at hl 0 rfl) ?_
                            refine lv_iadd hx hb dX12_check_133 ?_
                            refine rl_topn (nI_add _ _) ?_
                            refine lv_iload_n hx hb dX12_check_134 rfl (lv_at hl 6 rfl) ?_
                            refine rl_iast_n (g := I 8) hC hW hR.a8 (by omega) (by decide) dX12_check_135 (fun H locs hW => ?_)
                            have hR := hR.s8 (upd (I 8) (((2) * (((3) * (k)) + (v))) + (T 5 (((3) * (k)) + (v)))) ((nI (h))))
                            refine lv_aload_n hx hb dX12_check_136 rfl (lv_at hl 3 rfl) ?_
                            refine rl_get (v := .ref (m + 10)) hC hW fl_X12_38 hR.1 rfl dX12_check_137 ?_
                            refine lv_iconst (v := (nI (2))) hx hb dX12_check_140 (by decide) ?_
                            refine lv_iload hx hb dX12_check_141 (lv_at hl 2 rfl) ?_
                            refine lv_imul hx hb dX12_check_143 ?_
                            refine rl_topn (pk_mul _ _) ?_
                            refine lv_iload hx hb dX12_check_144 (lv_at hl 0 rfl) ?_
                            refine lv_iadd hx hb dX12_check_146 ?_
                            refine rl_topn (nI_add _ _) ?_
                            refine lv_iload hx hb dX12_check_147 (lv_at hl 7 rfl) ?_
                            refine rl_iast_n (g := I 9) hC hW hR.a9 (by omega) (by decide) dX12_check_149 (fun H locs hW => ?_)
                            have hR := hR.s9 (upd (I 9) (((2) * (((3) * (k)) + (v))) + (T 5 (((3) * (k)) + (v)))) ((nI (a))))
                            refine lv_aload_n hx hb dX12_check_150 rfl (lv_at hl 3 rfl) ?_
                            refine rl_get (v := .ref (m + 11)) hC hW fl_X12_41 hR.1 rfl dX12_check_151 ?_
                            refine lv_iconst (v := (nI (2))) hx hb dX12_check_154 (by decide) ?_
                            refine lv_iload hx hb dX12_check_155 (lv_at hl 2 rfl) ?_
                            refine lv_imul hx hb dX12_check_157 ?_
                            refine rl_topn (pk_mul _ _) ?_
                            refine lv_iload hx hb dX12_check_158 (lv_at hl 0 rfl) ?_
                            refine lv_iadd hx hb dX12_check_160 ?_
                            refine rl_topn (nI_add _ _) ?_
                            refine lv_iload hx hb dX12_check_161 (lv_at hl 8 rfl) ?_
                            refine rl_iast_n (g := I 10) hC hW hR.a10 (by omega) (by decide) dX12_check_163 (fun H locs hW => ?_)
                            have hR := hR.s10 (upd (I 10) (((2) * (((3) * (k)) + (v))) + (T 5 (((3) * (k)) + (v)))) ((x5)))
                            refine lv_aload_n hx hb dX12_check_164 rfl (lv_at hl 3 rfl) ?_
                            refine rl_get (v := .ref (m + 8)) hC hW fl_X12_32 hR.1 rfl dX12_check_165 ?_
                            refine lv_iload hx hb dX12_check_168 (lv_at hl 2 rfl) ?_
                            refine lv_dup2_11 hx hb dX12_check_170 rfl rfl ?_
                            refine rl_iald_n (g := I 7) hC hW hR.a7 (by omega) (by decide) dX12_check_171 ?_
                            refine rl_topn (hcc.1) ?_
                            refine lv_iconst (v := (nI (1))) hx hb dX12_check_172 (by decide) ?_
                            refine lv_iadd hx hb dX12_check_173 ?_
                            refine rl_topn (nI_add _ _) ?_
                            refine rl_iast_n (g := I 7) hC hW hR.a7 (by omega) (by decide) dX12_check_174 (fun H locs hW => ?_)
                            have hR := hR.s7 (upd (I 7) (((3) * (k)) + (v)) ((nI ((T 5 (((3) * (k)) + (v))) + (1)))))
                            refine lv_iload hx hb dX12_check_175 (lv_at hl 0 rfl) ?_
                            exact rl_iret hC hW hr hlk (Nat.le_refl _) (Nat.le_refl _) ⟨_, rfl, rfl, rfl, _, Or.inl ⟨k, v, h, a, 0, ⟨hk, hv, hh, rfl, rfl, rfl, ha, rfl, by rw [has, hs], fun q => absurd e1 q, fun _ => rfl⟩, Or.inr ⟨n5, rfl, rfl⟩⟩, ⟨_, _, _, hR, hTc, hTp, hTk.add hj12 hh n5 ha (by rw [has, hs]) (fun q => absurd e1 q), hGW, hGr, hGd, hGp, hGt, hGc, hF11, hF14⟩⟩ dX12_check_177
                          · have e5 : T 5 (3 * k + v) = 2 := (nI_eq (by omega) (by decide)).mp c7
                            refine lv_bipush (v := (-2)) hx hb dX12_check_111 (by decide) ?_
                            exact rl_iret hC hW hr hlk (Nat.le_refl _) (Nat.le_refl _) ⟨_, rfl, rfl, rfl, T, Or.inl ⟨k, v, h, a, 0, ⟨hk, hv, hh, rfl, rfl, rfl, ha, rfl, by rw [has, hs], fun q => absurd e1 q, fun _ => rfl⟩, Or.inl ⟨e5, rfl, rfl⟩⟩, ⟨_, _, _, hR, hTc, hTp, hTk, hGW, hGr, hGd, hGp, hGt, hGc, hF11, hF14⟩⟩ dX12_check_113
                        · have n1 : h ≠ 1 := fun q => c6 (by rw [q])
                          refine lv_aload_n hx hb dX12_check_86 rfl (lv_at hl 2 rfl) ?_
                          refine lv_iload hx hb dX12_check_87 (lv_at hl 1 rfl) ?_
                          refine lv_iload hx hb dX12_check_89 (lv_at hl 7 rfl) ?_
                          refine lv_iconst (v := (nI (0))) hx hb dX12_check_91 (by decide) ?_
                          refine rl_calliQ (rl_runV (b := m) (As := [.int (nI (((3) * (k)) + (v))), .int (x5), .int (nI (0))]) (rest := []) hC hW (cR_isSort l D t A _ z m I L F hR T hTp (3 * k + v) hj12 _ 0 (by decide)) cs_X12_143 im_X12_isSort sl_X12_isSort hR.1 rfl ⟨(Nat.le_of_ble_eq_true rfl), (Nat.le_of_ble_eq_true rfl)⟩ rfl hl.1 rfl (Nat.le_of_ble_eq_true rfl) dX12_check_92 ⟨(Nat.le_of_ble_eq_true rfl), (Nat.le_of_ble_eq_true rfl)⟩) hW (fun r f1 H locs hp hW => ?_)
                          obtain ⟨rfl, hp⟩ := hp
                          rcases hp with ⟨rfl, hp⟩ | ⟨rfl, hp⟩
                          · obtain ⟨b0, hb0, rfl, hbs⟩ := hp
                            refine lv_if_ne (tgt := 100) hx hb dX12_check_95 (by decide) (fun c9 => ?_) (fun c9 => ?_)
                            · have hcc := hTk.1 (3 * k + v) hj12
                              refine lv_aload_n hx hb dX12_check_100 rfl (lv_at hl 2 rfl) ?_
                              refine rl_get (v := .ref (m + 8)) hC hW fl_X12_32 hR.1 rfl dX12_check_101 ?_
                              refine lv_iload hx hb dX12_check_104 (lv_at hl 1 rfl) ?_
                              refine rl_iald_n (g := I 7) hC hW hR.a7 (by omega) (by decide) dX12_check_106 ?_
                              refine rl_topn (hcc.1) ?_
                              refine lv_iconst (v := (nI (2))) hx hb dX12_check_107 (by decide) ?_
                              refine lv_icmp_ne (tgt := 114) hx hb dX12_check_108 (by decide) (fun c7 => ?_) (fun c7 => ?_)
                              · have n5 : T 5 (3 * k + v) ≠ 2 := fun q => c7 (by rw [q])
                                refine lv_aload_n hx hb dX12_check_114 rfl (lv_at hl 2 rfl) ?_
                                refine rl_get (v := .ref (m + 8)) hC hW fl_X12_32 hR.1 rfl dX12_check_115 ?_
                                refine lv_iload hx hb dX12_check_118 (lv_at hl 1 rfl) ?_
                                refine rl_iald_n (g := I 7) hC hW hR.a7 (by omega) (by decide) dX12_check_120 ?_
                                refine rl_topn (hcc.1) ?_
                                refine lv_istore (lv' := [(8, .int (nI (T 5 (((3) * (k)) + (v))))), (7, .int (nI (2))), (6, .int (nI (((3) * (k)) + (v)))), (0, .ref (m)), (1, .int (nI (2 + k))), (2, .int (nI (v))), (3, .int (nI (h))), (4, .int (nI (a))), (5, .int (nI (b0)))]) hx hb dX12_check_121 hl (by decide) rfl (fun ls hl => ?_)
                                refine lv_aload_n hx hb dX12_check_123 rfl (lv_at hl 3 rfl) ?_
                                refine rl_get (v := .ref (m + 9)) hC hW fl_X12_35 hR.1 rfl dX12_check_124 ?_
                                refine lv_iconst (v := (nI (2))) hx hb dX12_check_127 (by decide) ?_
                                refine lv_iload hx hb dX12_check_128 (lv_at hl 2 rfl) ?_
                                refine lv_imul hx hb dX12_check_130 ?_
                                refine rl_topn (pk_mul _ _) ?_
                                refine lv_iload hx hb dX12_check_131 (lv_at hl 0 rfl) ?_
                                refine lv_iadd hx hb dX12_check_133 ?_
                                refine rl_topn (nI_add _ _) ?_
                                refine lv_iload_n hx hb dX12_check_134 rfl (lv_at hl 6 rfl) ?_
                                refine rl_iast_n (g := I 8) hC hW hR.a8 (by omega) (by decide) dX12_check_135 (fun H locs hW => ?_)
                                have hR := hR.s8 (upd (I 8) (((2) * (((3) * (k)) + (v))) + (T 5 (((3) * (k)) + (v)))) ((nI (h))))
                                refine lv_aload_n hx hb dX12_check_136 rfl (lv_at hl 3 rfl) ?_
                                refine rl_get (v := .ref (m + 10)) hC hW fl_X12_38 hR.1 rfl dX12_check_137 ?_
                                refine lv_iconst (v := (nI (2))) hx hb dX12_check_140 (by decide) ?_
                                refine lv_iload hx hb dX12_check_141 (lv_at hl 2 rfl) ?_
                                refine lv_imul hx hb dX12_check_143 ?_
                                refine rl_topn (pk_mul _ _) ?_
                                refine lv_iload hx hb dX12_check_144 (lv_at hl 0 rfl) ?_
                                refine lv_iadd hx hb dX12_check_146 ?_
                                refine rl_topn (nI_add _ _) ?_
                                refine lv_iload hx hb dX12_check_147 (lv_at hl 7 rfl) ?_
                                refine rl_iast_n (g := I 9) hC hW hR.a9 (by omega) (by decide) dX12_check_149 (fun H locs hW => ?_)
                                have hR := hR.s9 (upd (I 9) (((2) * (((3) * (k)) + (v))) + (T 5 (((3) * (k)) + (v)))) ((nI (a))))
                                refine lv_aload_n hx hb dX12_check_150 rfl (lv_at hl 3 rfl) ?_
                                refine rl_get (v := .ref (m + 11)) hC hW fl_X12_41 hR.1 rfl dX12_check_151 ?_
                                refine lv_iconst (v := (nI (2))) hx hb dX12_check_154 (by decide) ?_
                                refine lv_iload hx hb dX12_check_155 (lv_at hl 2 rfl) ?_
                                refine lv_imul hx hb dX12_check_157 ?_
                                refine rl_topn (pk_mul _ _) ?_
                                refine lv_iload hx hb dX12_check_158 (lv_at hl 0 rfl) ?_
                                refine lv_iadd hx hb dX12_check_160 ?_
                                refine rl_topn (nI_add _ _) ?_
                                refine lv_iload hx hb dX12_check_161 (lv_at hl 8 rfl) ?_
                                refine rl_iast_n (g := I 10) hC hW hR.a10 (by omega) (by decide) dX12_check_163 (fun H locs hW => ?_)
                                have hR := hR.s10 (upd (I 10) (((2) * (((3) * (k)) + (v))) + (T 5 (((3) * (k)) + (v)))) ((nI (b0))))
                                refine lv_aload_n hx hb dX12_check_164 rfl (lv_at hl 3 rfl) ?_
                                refine rl_get (v := .ref (m + 8)) hC hW fl_X12_32 hR.1 rfl dX12_check_165 ?_
                                refine lv_iload hx hb dX12_check_168 (lv_at hl 2 rfl) ?_
                                refine lv_dup2_11 hx hb dX12_check_170 rfl rfl ?_
                                refine rl_iald_n (g := I 7) hC hW hR.a7 (by omega) (by decide) dX12_check_171 ?_
                                refine rl_topn (hcc.1) ?_
                                refine lv_iconst (v := (nI (1))) hx hb dX12_check_172 (by decide) ?_
                                refine lv_iadd hx hb dX12_check_173 ?_
                                refine rl_topn (nI_add _ _) ?_
                                refine rl_iast_n (g := I 7) hC hW hR.a7 (by omega) (by decide) dX12_check_174 (fun H locs hW => ?_)
                                have hR := hR.s7 (upd (I 7) (((3) * (k)) + (v)) ((nI ((T 5 (((3) * (k)) + (v))) + (1)))))
                                refine lv_iload hx hb dX12_check_175 (lv_at hl 0 rfl) ?_
                                exact rl_iret hC hW hr hlk (Nat.le_refl _) (Nat.le_refl _) ⟨_, rfl, rfl, rfl, _, Or.inl ⟨k, v, h, a, b0, ⟨hk, hv, hh, rfl, rfl, rfl, ha, rfl, by rw [has, hs], fun _ => ⟨hb0, rfl, hbs⟩, fun q => absurd q n1⟩, Or.inr ⟨n5, rfl, rfl⟩⟩, ⟨_, _, _, hR, hTc, hTp, hTk.add hj12 hh n5 ha (by rw [has, hs]) (fun _ => ⟨hb0, rfl, hbs⟩), hGW, hGr, hGd, hGp, hGt, hGc, hF11, hF14⟩⟩ dX12_check_177
                              · have e5 : T 5 (3 * k + v) = 2 := (nI_eq (by omega) (by decide)).mp c7
                                refine lv_bipush (v := (-2)) hx hb dX12_check_111 (by decide) ?_
                                exact rl_iret hC hW hr hlk (Nat.le_refl _) (Nat.le_refl _) ⟨_, rfl, rfl, rfl, T, Or.inl ⟨k, v, h, a, b0, ⟨hk, hv, hh, rfl, rfl, rfl, ha, rfl, by rw [has, hs], fun _ => ⟨hb0, rfl, hbs⟩, fun q => absurd q n1⟩, Or.inl ⟨e5, rfl, rfl⟩⟩, ⟨_, _, _, hR, hTc, hTp, hTk, hGW, hGr, hGd, hGp, hGt, hGc, hF11, hF14⟩⟩ dX12_check_113
                            · exact absurd c9 (by decide)
                          · have hq := hp
                            have hno : ¬ ∃ k' v' h' a' b', rt_okk T (nI (2 + k)) (nI v) (nI h) (nI a) x5 k' v' h' a' b' := fun ⟨k', v', h', a', b', q1, q2, q3, q4, q5, q6, q7, q8, q9, q10, _⟩ => by
                              have e1 := (nI_eq (by omega) (by omega)).mp q4
                              have e1 : k = k' := by omega
                              have e2 := (nI_eq (by omega) (by omega)).mp q5
                              have e3 := (nI_eq (by omega) (by omega)).mp q6
                              subst e1; subst e2; subst e3
                              exact hq ⟨b', q10 n1⟩
                            refine lv_if_ne (tgt := 100) hx hb dX12_check_95 (by decide) (fun c9 => ?_) (fun c9 => ?_)
                            · exact absurd rfl c9
                            · refine lv_iconst (v := (-1)) hx hb dX12_check_98 (by decide) ?_
                              exact rl_iret hC hW hr hlk (Nat.le_refl _) (Nat.le_refl _) ⟨_, rfl, rfl, rfl, T, Or.inr ⟨by decide, rfl, hno⟩, ⟨_, _, _, hR, hTc, hTp, hTk, hGW, hGr, hGd, hGp, hGt, hGc, hF11, hF14⟩⟩ dX12_check_99
                    · have hq := hp
                      have hno : ¬ ∃ k' v' h' a' b', rt_okk T (nI (2 + k)) (nI v) (nI h) x4 x5 k' v' h' a' b' := fun ⟨k', v', h', a', b', q1, q2, q3, q4, q5, q6, q7, q8, q9, q10, _⟩ => by
                        have e1 := (nI_eq (by omega) (by omega)).mp q4
                        have e1 : k = k' := by omega
                        have e2 := (nI_eq (by omega) (by omega)).mp q5
                        have e3 := (nI_eq (by omega) (by omega)).mp q6
                        subst e1; subst e2; subst e3
                        exact hq ⟨a', q7, q8, by rw [q9, hs]⟩
                      refine lv_if_eq (tgt := 98) hx hb dX12_check_78 (by decide) (fun c9 => ?_) (fun c9 => ?_)
                      · refine lv_iconst (v := (-1)) hx hb dX12_check_98 (by decide) ?_
                        exact rl_iret hC hW hr hlk (Nat.le_refl _) (Nat.le_refl _) ⟨_, rfl, rfl, rfl, T, Or.inr ⟨by decide, rfl, hno⟩, ⟨_, _, _, hR, hTc, hTp, hTk, hGW, hGr, hGd, hGp, hGt, hGc, hF11, hF14⟩⟩ dX12_check_99
                      · exact absurd rfl c9
                  · have e3 : h = 3 := (nI_eq (by omega) (by decide)).mp c4
                    have hs : rt_srt h = 3 := by subst e3; rfl
                    refine lv_iconst (v := (nI (3))) hx hb dX12_check_61 (by decide) ?_
                    refine lv_goto (tgt := 66) hx hb dX12_check_62 (by decide) ?_
                    refine lv_istore (lv' := [(7, .int (nI (3))), (6, .int (nI (((3) * (k)) + (v)))), (0, .ref (m)), (1, .int (nI (2 + k))), (2, .int (nI (v))), (3, .int (nI (h))), (4, .int (x4)), (5, .int (x5))]) hx hb dX12_check_66 hl (by decide) rfl (fun ls hl => ?_)
                    refine lv_aload_n hx hb dX12_check_68 rfl (lv_at hl 2 rfl) ?_
                    refine lv_iload hx hb dX12_check_69 (lv_at hl 1 rfl) ?_
                    refine lv_iload hx hb dX12_check_71 (lv_at hl 6 rfl) ?_
                    refine lv_iload hx hb dX12_check_73 (lv_at hl 0 rfl) ?_
                    refine rl_calliQ (rl_runV (b := m) (As := [.int (nI (((3) * (k)) + (v))), .int (x4), .int (nI (3))]) (rest := []) hC hW (cR_isSort l D t A _ z m I L F hR T hTp (3 * k + v) hj12 _ 3 (by decide)) cs_X12_143 im_X12_isSort sl_X12_isSort hR.1 rfl ⟨(Nat.le_of_ble_eq_true rfl), (Nat.le_of_ble_eq_true rfl)⟩ rfl hl.1 rfl (Nat.le_of_ble_eq_true rfl) dX12_check_75 ⟨(Nat.le_of_ble_eq_true rfl), (Nat.le_of_ble_eq_true rfl)⟩) hW (fun r f1 H locs hp hW => ?_)
                    obtain ⟨rfl, hp⟩ := hp
                    rcases hp with ⟨rfl, hp⟩ | ⟨rfl, hp⟩
                    · obtain ⟨a, ha, rfl, has⟩ := hp
                      refine lv_if_eq (tgt := 98) hx hb dX12_check_78 (by decide) (fun c9 => ?_) (fun c9 => ?_)
                      · exact absurd c9 (by decide)
                      · refine lv_iload_n hx hb dX12_check_81 rfl (lv_at hl 5 rfl) ?_
                        refine lv_iconst (v := (nI (1))) hx hb dX12_check_82 (by decide) ?_
                        refine lv_icmp_eq (tgt := 100) hx hb dX12_check_83 (by decide) (fun c6 => ?_) (fun c6 => ?_)
                        · have e1 : h = 1 := (nI_eq (by omega) (by decide)).mp c6
                          have hcc := hTk.1 (3 * k + v) hj12
                          refine lv_aload_n hx hb dX12_check_100 rfl (lv_at hl 2 rfl) ?_
                          refine rl_get (v := .ref (m + 8)) hC hW fl_X12_32 hR.1 rfl dX12_check_101 ?_
                          refine lv_iload hx hb dX12_check_104 (lv_at hl 1 rfl) ?_
                          refine rl_iald_n (g := I 7) hC hW hR.a7 (by omega) (by decide) dX12_check_106 ?_
                          refine rl_topn (hcc.1) ?_
                          refine lv_iconst (v := (nI (2))) hx hb dX12_check_107 (by decide) ?_
                          refine lv_icmp_ne (tgt := 114) hx hb dX12_check_108 (by decide) (fun c7 => ?_) (fun c7 => ?_)
                          · have n5 : T 5 (3 * k + v) ≠ 2 := fun q => c7 (by rw [q])
                            refine lv_aload_n hx hb dX12_check_114 rfl (lv_at hl 2 rfl) ?_
                            refine rl_get (v := .ref (m + 8)) hC hW fl_X12_32 hR.1 rfl dX12_check_115 ?_
                            refine lv_iload hx hb dX12_check_118 (lv_at hl 1 rfl) ?_
                            refine rl_iald_n (g := I 7) hC hW hR.a7 (by omega) (by decide) dX12_check_120 ?_
                            refine rl_topn (hcc.1) ?_
                            refine lv_istore (lv' := [(8, .int (nI (T 5 (((3) * (k)) + (v))))), (7, .int (nI (3))), (6, .int (nI (((3) * (k)) + (v)))), (0, .ref (m)), (1, .int (nI (2 + k))), (2, .int (nI (v))), (3, .int (nI (h))), (4, .int (nI (a))), (5, .int (x5))]) hx hb dX12_check_121 hl (by decide) rfl (fun ls hl => ?_)
                            refine lv_aload_n hx hb dX12_check_123 rfl (lv_at hl 3 rfl) ?_
                            refine rl_get (v := .ref (m + 9)) hC hW fl_X12_35 hR.1 rfl dX12_check_124 ?_
                            refine lv_iconst (v := (nI (2))) hx hb dX12_check_127 (by decide) ?_
                            refine lv_iload hx hb dX12_check_128 (lv_at hl 2 rfl) ?_
                            refine lv_imul hx hb dX12_check_130 ?_
                            refine rl_topn (pk_mul _ _) ?_
                            refine lv_iload hx hb dX12_check_131 (lv_at hl 0 rfl) ?_
                            refine lv_iadd hx hb dX12_check_133 ?_
                            refine rl_topn (nI_add _ _) ?_
                            refine lv_iload_n hx hb dX12_check_134 rfl (lv_at hl 6 rfl) ?_
                            refine rl_iast_n (g := I 8) hC hW hR.a8 (by omega) (by decide) dX12_check_135 (fun H locs hW => ?_)
                            have hR := hR.s8 (upd (I 8) (((2) * (((3) * (k)) + (v))) + (T 5 (((3) * (k)) + (v)))) ((nI (h))))
                            refine lv_aload_n hx hb dX12_check_136 rfl (lv_at hl 3 rfl) ?_
                            refine rl_get (v := .ref (m + 10)) hC hW fl_X12_38 hR.1 rfl dX12_check_137 ?_
                            refine lv_iconst (v := (nI (2))) hx hb dX12_check_140 (by decide) ?_
                            refine lv_iload hx hb dX12_check_141 (lv_at hl 2 rfl) ?_
                            refine lv_imul hx hb dX12_check_143 ?_
                            refine rl_topn (pk_mul _ _) ?_
                            refine lv_iload hx hb dX12_check_144 (lv_at hl 0 rfl) ?_
                            refine lv_iadd hx hb dX12_check_146 ?_
                            refine rl_topn (nI_add _ _) ?_
                            refine lv_iload hx hb dX12_check_147 (lv_at hl 7 rfl) ?_
                            refine rl_iast_n (g := I 9) hC hW hR.a9 (by omega) (by decide) dX12_check_149 (fun H locs hW => ?_)
                            have hR := hR.s9 (upd (I 9) (((2) * (((3) * (k)) + (v))) + (T 5 (((3) * (k)) + (v)))) ((nI (a))))
                            refine lv_aload_n hx hb dX12_check_150 rfl (lv_at hl 3 rfl) ?_
                            refine rl_get (v := .ref (m + 11)) hC hW fl_X12_41 hR.1 rfl dX12_check_151 ?_
                            refine lv_iconst (v := (nI (2))) hx hb dX12_check_154 (by decide) ?_
                            refine lv_iload hx hb dX12_check_155 (lv_at hl 2 rfl) ?_
                            refine lv_imul hx hb dX12_check_157 ?_
                            refine rl_topn (pk_mul _ _) ?_
                            refine lv_iload hx hb dX12_check_158 (lv_at hl 0 rfl) ?_
                            refine lv_iadd hx hb dX12_check_160 ?_
                            refine rl_topn (nI_add _ _) ?_
                            refine lv_iload hx hb dX12_check_161 (lv_at hl 8 rfl) ?_
                            refine rl_iast_n (g := I 10) hC hW hR.a10 (by omega) (by decide) dX12_check_163 (fun H locs hW => ?_)
                            have hR := hR.s10 (upd (I 10) (((2) * (((3) * (k)) + (v))) + (T 5 (((3) * (k)) + (v)))) ((x5)))
                            refine lv_aload_n hx hb dX12_check_164 rfl (lv_at hl 3 rfl) ?_
                            refine rl_get (v := .ref (m + 8)) hC hW fl_X12_32 hR.1 rfl dX12_check_165 ?_
                            refine lv_iload hx hb dX12_check_168 (lv_at hl 2 rfl) ?_
                            refine lv_dup2_11 hx hb dX12_check_170 rfl rfl ?_
                            refine rl_iald_n (g := I 7) hC hW hR.a7 (by omega) (by decide) dX12_check_171 ?_
                            refine rl_topn (hcc.1) ?_
                            refine lv_iconst (v := (nI (1))) hx hb dX12_check_172 (by decide) ?_
                            refine lv_iadd hx hb dX12_check_173 ?_
                            refine rl_topn (nI_add _ _) ?_
                            refine rl_iast_n (g := I 7) hC hW hR.a7 (by omega) (by decide) dX12_check_174 (fun H locs hW => ?_)
                            have hR := hR.s7 (upd (I 7) (((3) * (k)) + (v)) ((nI ((T 5 (((3) * (k)) + (v))) + (1)))))
                            refine lv_iload hx hb dX12_check_175 (lv_at hl 0 rfl) ?_
                            exact rl_iret hC hW hr hlk (Nat.le_refl _) (Nat.le_refl _) ⟨_, rfl, rfl, rfl, _, Or.inl ⟨k, v, h, a, 0, ⟨hk, hv, hh, rfl, rfl, rfl, ha, rfl, by rw [has, hs], fun q => absurd e1 q, fun _ => rfl⟩, Or.inr ⟨n5, rfl, rfl⟩⟩, ⟨_, _, _, hR, hTc, hTp, hTk.add hj12 hh n5 ha (by rw [has, hs]) (fun q => absurd e1 q), hGW, hGr, hGd, hGp, hGt, hGc, hF11, hF14⟩⟩ dX12_check_177
                          · have e5 : T 5 (3 * k + v) = 2 := (nI_eq (by omega) (by decide)).mp c7
                            refine lv_bipush (v := (-2)) hx hb dX12_check_111 (by decide) ?_
                            exact rl_iret hC hW hr hlk (Nat.le_refl _) (Nat.le_refl _) ⟨_, rfl, rfl, rfl, T, Or.inl ⟨k, v, h, a, 0, ⟨hk, hv, hh, rfl, rfl, rfl, ha, rfl, by rw [has, hs], fun q => absurd e1 q, fun _ => rfl⟩, Or.inl ⟨e5, rfl, rfl⟩⟩, ⟨_, _, _, hR, hTc, hTp, hTk, hGW, hGr, hGd, hGp, hGt, hGc, hF11, hF14⟩⟩ dX12_check_113
                        · have n1 : h ≠ 1 := fun q => c6 (by rw [q])
                          refine lv_aload_n hx hb dX12_check_86 rfl (lv_at hl 2 rfl) ?_
                          refine lv_iload hx hb dX12_check_87 (lv_at hl 1 rfl) ?_
                          refine lv_iload hx hb dX12_check_89 (lv_at hl 7 rfl) ?_
                          refine lv_iconst (v := (nI (0))) hx hb dX12_check_91 (by decide) ?_
                          refine rl_calliQ (rl_runV (b := m) (As := [.int (nI (((3) * (k)) + (v))), .int (x5), .int (nI (0))]) (rest := []) hC hW (cR_isSort l D t A _ z m I L F hR T hTp (3 * k + v) hj12 _ 0 (by decide)) cs_X12_143 im_X12_isSort sl_X12_isSort hR.1 rfl ⟨(Nat.le_of_ble_eq_true rfl), (Nat.le_of_ble_eq_true rfl)⟩ rfl hl.1 rfl (Nat.le_of_ble_eq_true rfl) dX12_check_92 ⟨(Nat.le_of_ble_eq_true rfl), (Nat.le_of_ble_eq_true rfl)⟩) hW (fun r f1 H locs hp hW => ?_)
                          obtain ⟨rfl, hp⟩ := hp
                          rcases hp with ⟨rfl, hp⟩ | ⟨rfl, hp⟩
                          · obtain ⟨b0, hb0, rfl, hbs⟩ := hp
                            refine lv_if_ne (tgt := 100) hx hb dX12_check_95 (by decide) (fun c9 => ?_) (fun c9 => ?_)
                            · have hcc := hTk.1 (3 * k + v) hj12
                              refine lv_aload_n hx hb dX12_check_100 rfl (lv_at hl 2 rfl) ?_
                              refine rl_get (v := .ref (m + 8)) hC hW fl_X12_32 hR.1 rfl dX12_check_101 ?_
                              refine lv_iload hx hb dX12_check_104 (lv_at hl 1 rfl) ?_
                              refine rl_iald_n (g := I 7) hC hW hR.a7 (by omega) (by decide) dX12_check_106 ?_
                              refine rl_topn (hcc.1) ?_
                              refine lv_iconst (v := (nI (2))) hx hb dX12_check_107 (by decide) ?_
                              refine lv_icmp_ne (tgt := 114) hx hb dX12_check_108 (by decide) (fun c7 => ?_) (fun c7 => ?_)
                              · have n5 : T 5 (3 * k + v) ≠ 2 := fun q => c7 (by rw [q])
                                refine lv_aload_n hx hb dX12_check_114 rfl (lv_at hl 2 rfl) ?_
                                refine rl_get (v := .ref (m + 8)) hC hW fl_X12_32 hR.1 rfl dX12_check_115 ?_
                                refine lv_iload hx hb dX12_check_118 (lv_at hl 1 rfl) ?_
                                refine rl_iald_n (g := I 7) hC hW hR.a7 (by omega) (by decide) dX12_check_120 ?_
                                refine rl_topn (hcc.1) ?_
                                refine lv_istore (lv' := [(8, .int (nI (T 5 (((3) * (k)) + (v))))), (7, .int (nI (3))), (6, .int (nI (((3) * (k)) + (v)))), (0, .ref (m)), (1, .int (nI (2 + k))), (2, .int (nI (v))), (3, .int (nI (h))), (4, .int (nI (a))), (5, .int (nI (b0)))]) hx hb dX12_check_121 hl (by decide) rfl (fun ls hl => ?_)
                                refine lv_aload_n hx hb dX12_check_123 rfl (lv_at hl 3 rfl) ?_
                                refine rl_get (v := .ref (m + 9)) hC hW fl_X12_35 hR.1 rfl dX12_check_124 ?_
                                refine lv_iconst (v := (nI (2))) hx hb dX12_check_127 (by decide) ?_
                                refine lv_iload hx hb dX12_check_128 (lv_at hl 2 rfl) ?_
                                refine lv_imul hx hb dX12_check_130 ?_
                                refine rl_topn (pk_mul _ _) ?_
                                refine lv_iload hx hb dX12_check_131 (lv_at hl 0 rfl) ?_
                                refine lv_iadd hx hb dX12_check_133 ?_
                                refine rl_topn (nI_add _ _) ?_
                                refine lv_iload_n hx hb dX12_check_134 rfl (lv_at hl 6 rfl) ?_
                                refine rl_iast_n (g := I 8) hC hW hR.a8 (by omega) (by decide) dX12_check_135 (fun H locs hW => ?_)
                                have hR := hR.s8 (upd (I 8) (((2) * (((3) * (k)) + (v))) + (T 5 (((3) * (k)) + (v)))) ((nI (h))))
                                refine lv_aload_n hx hb dX12_check_136 rfl (lv_at hl 3 rfl) ?_
                                refine rl_get (v := .ref (m + 10)) hC hW fl_X12_38 hR.1 rfl dX12_check_137 ?_
                                refine lv_iconst (v := (nI (2))) hx hb dX12_check_140 (by decide) ?_
                                refine lv_iload hx hb dX12_check_141 (lv_at hl 2 rfl) ?_
                                refine lv_imul hx hb dX12_check_143 ?_
                                refine rl_topn (pk_mul _ _) ?_
                                refine lv_iload hx hb dX12_check_144 (lv_at hl 0 rfl) ?_
                                refine lv_iadd hx hb dX12_check_146 ?_
                                refine rl_topn (nI_add _ _) ?_
                                refine lv_iload hx hb dX12_check_147 (lv_at hl 7 rfl) ?_
                                refine rl_iast_n (g := I 9) hC hW hR.a9 (by omega) (by decide) dX12_check_149 (fun H locs hW => ?_)
                                have hR := hR.s9 (upd (I 9) (((2) * (((3) * (k)) + (v))) + (T 5 (((3) * (k)) + (v)))) ((nI (a))))
                                refine lv_aload_n hx hb dX12_check_150 rfl (lv_at hl 3 rfl) ?_
                                refine rl_get (v := .ref (m + 11)) hC hW fl_X12_41 hR.1 rfl dX12_check_151 ?_
                                refine lv_iconst (v := (nI (2))) hx hb dX12_check_154 (by decide) ?_
                                refine lv_iload hx hb dX12_check_155 (lv_at hl 2 rfl) ?_
                                refine lv_imul hx hb dX12_check_157 ?_
                                refine rl_topn (pk_mul _ _) ?_
                                refine lv_iload hx hb dX12_check_158 (lv_at hl 0 rfl) ?_
                                refine lv_iadd hx hb dX12_check_160 ?_
                                refine rl_topn (nI_add _ _) ?_
                                refine lv_iload hx hb dX12_check_161 (lv_at hl 8 rfl) ?_
                                refine rl_iast_n (g := I 10) hC hW hR.a10 (by omega) (by decide) dX12_check_163 (fun H locs hW => ?_)
                                have hR := hR.s10 (upd (I 10) (((2) * (((3) * (k)) + (v))) + (T 5 (((3) * (k)) + (v)))) ((nI (b0))))
                                refine lv_aload_n hx hb dX12_check_164 rfl (lv_at hl 3 rfl) ?_
                                refine rl_get (v := .ref (m + 8)) hC hW fl_X12_32 hR.1 rfl dX12_check_165 ?_
                                refine lv_iload hx hb dX12_check_168 (lv_at hl 2 rfl) ?_
                                refine lv_dup2_11 hx hb dX12_check_170 rfl rfl ?_
                                refine rl_iald_n (g := I 7) hC hW hR.a7 (by omega) (by decide) dX12_check_171 ?_
                                refine rl_topn (hcc.1) ?_
                                refine lv_iconst (v := (nI (1))) hx hb dX12_check_172 (by decide) ?_
                                refine lv_iadd hx hb dX12_check_173 ?_
                                refine rl_topn (nI_add _ _) ?_
                                refine rl_iast_n (g := I 7) hC hW hR.a7 (by omega) (by decide) dX12_check_174 (fun H locs hW => ?_)
                                have hR := hR.s7 (upd (I 7) (((3) * (k)) + (v)) ((nI ((T 5 (((3) * (k)) + (v))) + (1)))))
                                refine lv_iload hx hb dX12_check_175 (lv_at hl 0 rfl) ?_
                                exact rl_iret hC hW hr hlk (Nat.le_refl _) (Nat.le_refl _) ⟨_, rfl, rfl, rfl, _, Or.inl ⟨k, v, h, a, b0, ⟨hk, hv, hh, rfl, rfl, rfl, ha, rfl, by rw [has, hs], fun _ => ⟨hb0, rfl, hbs⟩, fun q => absurd q n1⟩, Or.inr ⟨n5, rfl, rfl⟩⟩, ⟨_, _, _, hR, hTc, hTp, hTk.add hj12 hh n5 ha (by rw [has, hs]) (fun _ => ⟨hb0, rfl, hbs⟩), hGW, hGr, hGd, hGp, hGt, hGc, hF11, hF14⟩⟩ dX12_check_177
                              · have e5 : T 5 (3 * k + v) = 2 := (nI_eq (by omega) (by decide)).mp c7
                                refine lv_bipush (v := (-2)) hx hb dX12_check_111 (by decide) ?_
                                exact rl_iret hC hW hr hlk (Nat.le_refl _) (Nat.le_refl _) ⟨_, rfl, rfl, rfl, T, Or.inl ⟨k, v, h, a, b0, ⟨hk, hv, hh, rfl, rfl, rfl, ha, rfl, by rw [has, hs], fun _ => ⟨hb0, rfl, hbs⟩, fun q => absurd q n1⟩, Or.inl ⟨e5, rfl, rfl⟩⟩, ⟨_, _, _, hR, hTc, hTp, hTk, hGW, hGr, hGd, hGp, hGt, hGc, hF11, hF14⟩⟩ dX12_check_113
                            · exact absurd c9 (by decide)
                          · have hq := hp
                            have hno : ¬ ∃ k' v' h' a' b', rt_okk T (nI (2 + k)) (nI v) (nI h) (nI a) x5 k' v' h' a' b' := fun ⟨k', v', h', a', b', q1, q2, q3, q4, q5, q6, q7, q8, q9, q10, _⟩ => by
                              have e1 := (nI_eq (by omega) (by omega)).mp q4
                              have e1 : k = k' := by omega
                              have e2 := (nI_eq (by omega) (by omega)).mp q5
                              have e3 := (nI_eq (by omega) (by omega)).mp q6
                              subst e1; subst e2; subst e3
                              exact hq ⟨b', q10 n1⟩
                            refine lv_if_ne (tgt := 100) hx hb dX12_check_95 (by decide) (fun c9 => ?_) (fun c9 => ?_)
                            · exact absurd rfl c9
                            · refine lv_iconst (v := (-1)) hx hb dX12_check_98 (by decide) ?_
                              exact rl_iret hC hW hr hlk (Nat.le_refl _) (Nat.le_refl _) ⟨_, rfl, rfl, rfl, T, Or.inr ⟨by decide, rfl, hno⟩, ⟨_, _, _, hR, hTc, hTp, hTk, hGW, hGr, hGd, hGp, hGt, hGc, hF11, hF14⟩⟩ dX12_check_99
                    · have hq := hp
                      have hno : ¬ ∃ k' v' h' a' b', rt_okk T (nI (2 + k)) (nI v) (nI h) x4 x5 k' v' h' a' b' := fun ⟨k', v', h', a', b', q1, q2, q3, q4, q5, q6, q7, q8, q9, q10, _⟩ => by
                        have e1 := (nI_eq (by omega) (by omega)).mp q4
                        have e1 : k = k' := by omega
                        have e2 := (nI_eq (by omega) (by omega)).mp q5
                        have e3 := (nI_eq (by omega) (by omega)).mp q6
                        subst e1; subst e2; subst e3
                        exact hq ⟨a', q7, q8, by rw [q9, hs]⟩
                      refine lv_if_eq (tgt := 98) hx hb dX12_check_78 (by decide) (fun c9 => ?_) (fun c9 => ?_)
                      · refine lv_iconst (v := (-1)) hx hb dX12_check_98 (by decide) ?_
                        exact rl_iret hC hW hr hlk (Nat.le_refl _) (Nat.le_refl _) ⟨_, rfl, rfl, rfl, T, Or.inr ⟨by decide, rfl, hno⟩, ⟨_, _, _, hR, hTc, hTp, hTk, hGW, hGr, hGd, hGp, hGt, hGc, hF11, hF14⟩⟩ dX12_check_99
                      · exact absurd rfl c9
                · have e2 : h = 2 := (nI_eq (by omega) (by decide)).mp c3
                  have hs : rt_srt h = 4 := by subst e2; rfl
                  refine lv_iconst (v := (nI (4))) hx hb dX12_check_52 (by decide) ?_
                  refine lv_goto (tgt := 66) hx hb dX12_check_53 (by decide) ?_
                  refine lv_istore (lv' := [(7, .int (nI (4))), (6, .int (nI (((3) * (k)) + (v)))), (0, .ref (m)), (1, .int (nI (2 + k))), (2, .int (nI (v))), (3, .int (nI (h))), (4, .int (x4)), (5, .int (x5))]) hx hb dX12_check_66 hl (by decide) rfl (fun ls hl => ?_)
                  refine lv_aload_n hx hb dX12_check_68 rfl (lv_at hl 2 rfl) ?_
                  refine lv_iload hx hb dX12_check_69 (lv_at hl 1 rfl) ?_
                  refine lv_iload hx hb dX12_check_71 (lv_at hl 6 rfl) ?_
                  refine lv_iload hx hb dX12_check_73 (lv_at hl 0 rfl) ?_
                  refine rl_calliQ (rl_runV (b := m) (As := [.int (nI (((3) * (k)) + (v))), .int (x4), .int (nI (4))]) (rest := []) hC hW (cR_isSort l D t A _ z m I L F hR T hTp (3 * k + v) hj12 _ 4 (by decide)) cs_X12_143 im_X12_isSort sl_X12_isSort hR.1 rfl ⟨(Nat.le_of_ble_eq_true rfl), (Nat.le_of_ble_eq_true rfl)⟩ rfl hl.1 rfl (Nat.le_of_ble_eq_true rfl) dX12_check_75 ⟨(Nat.le_of_ble_eq_true rfl), (Nat.le_of_ble_eq_true rfl)⟩) hW (fun r f1 H locs hp hW => ?_)
                  obtain ⟨rfl, hp⟩ := hp
                  rcases hp with ⟨rfl, hp⟩ | ⟨rfl, hp⟩
                  · obtain ⟨a, ha, rfl, has⟩ := hp
                    refine lv_if_eq (tgt := 98) hx hb dX12_check_78 (by decide) (fun c9 => ?_) (fun c9 => ?_)
                    · exact absurd c9 (by decide)
                    · refine lv_iload_n hx hb dX12_check_81 rfl (lv_at hl 5 rfl) ?_
                      refine lv_iconst (v := (nI (1))) hx hb dX12_check_82 (by decide) ?_
                      refine lv_icmp_eq (tgt := 100) hx hb dX12_check_83 (by decide) (fun c6 => ?_) (fun c6 => ?_)
                      · have e1 : h = 1 := (nI_eq (by omega) (by decide)).mp c6
                        have hcc := hTk.1 (3 * k + v) hj12
                        refine lv_aload_n hx hb dX12_check_100 rfl (lv_at hl 2 rfl) ?_
                        refine rl_get (v := .ref (m + 8)) hC hW fl_X12_32 hR.1 rfl dX12_check_101 ?_
                        refine lv_iload hx hb dX12_check_104 (lv_at hl 1 rfl) ?_
                        refine rl_iald_n (g := I 7) hC hW hR.a7 (by omega) (by decide) dX12_check_106 ?_
                        refine rl_topn (hcc.1) ?_
                        refine lv_iconst (v := (nI (2))) hx hb dX12_check_107 (by decide) ?_
                        refine lv_icmp_ne (tgt := 114) hx hb dX12_check_108 (by decide) (fun c7 => ?_) (fun c7 => ?_)
                        · have n5 : T 5 (3 * k + v) ≠ 2 := fun q => c7 (by rw [q])
                          refine lv_aload_n hx hb dX12_check_114 rfl (lv_at hl 2 rfl) ?_
                          refine rl_get (v := .ref (m + 8)) hC hW fl_X12_32 hR.1 rfl dX12_check_115 ?_
                          refine lv_iload hx hb dX12_check_118 (lv_at hl 1 rfl) ?_
                          refine rl_iald_n (g := I 7) hC hW hR.a7 (by omega) (by decide) dX12_check_120 ?_
                          refine rl_topn (hcc.1) ?_
                          refine lv_istore (lv' := [(8, .int (nI (T 5 (((3) * (k)) + (v))))), (7, .int (nI (4))), (6, .int (nI (((3) * (k)) + (v)))), (0, .ref (m)), (1, .int (nI (2 + k))), (2, .int (nI (v))), (3, .int (nI (h))), (4, .int (nI (a))), (5, .int (x5))]) hx hb dX12_check_121 hl (by decide) rfl (fun ls hl => ?_)
                          refine lv_aload_n hx hb dX12_check_123 rfl (lv_at hl 3 rfl) ?_
                          refine rl_get (v := .ref (m + 9)) hC hW fl_X12_35 hR.1 rfl dX12_check_124 ?_
                          refine lv_iconst (v := (nI (2))) hx hb dX12_check_127 (by decide) ?_
                          refine lv_iload hx hb dX12_check_128 (lv_at hl 2 rfl) ?_
                          refine lv_imul hx hb dX12_check_130 ?_
                          refine rl_topn (pk_mul _ _) ?_
                          refine lv_iload hx hb dX12_check_131 (lv_at hl 0 rfl) ?_
                          refine lv_iadd hx hb dX12_check_133 ?_
                          refine rl_topn (nI_add _ _) ?_
                          refine lv_iload_n hx hb dX12_check_134 rfl (lv_at hl 6 rfl) ?_
                          refine rl_iast_n (g := I 8) hC hW hR.a8 (by omega) (by decide) dX12_check_135 (fun H locs hW => ?_)
                          have hR := hR.s8 (upd (I 8) (((2) * (((3) * (k)) + (v))) + (T 5 (((3) * (k)) + (v)))) ((nI (h))))
                          refine lv_aload_n hx hb dX12_check_136 rfl (lv_at hl 3 rfl) ?_
                          refine rl_get (v := .ref (m + 10)) hC hW fl_X12_38 hR.1 rfl dX12_check_137 ?_
                          refine lv_iconst (v := (nI (2))) hx hb dX12_check_140 (by decide) ?_
                          refine lv_iload hx hb dX12_check_141 (lv_at hl 2 rfl) ?_
                          refine lv_imul hx hb dX12_check_143 ?_
                          refine rl_topn (pk_mul _ _) ?_
                          refine lv_iload hx hb dX12_check_144 (lv_at hl 0 rfl) ?_
                          refine lv_iadd hx hb dX12_check_146 ?_
                          refine rl_topn (nI_add _ _) ?_
                          refine lv_iload hx hb dX12_check_147 (lv_at hl 7 rfl) ?_
                          refine rl_iast_n (g := I 9) hC hW hR.a9 (by omega) (by decide) dX12_check_149 (fun H locs hW => ?_)
                          have hR := hR.s9 (upd (I 9) (((2) * (((3) * (k)) + (v))) + (T 5 (((3) * (k)) + (v)))) ((nI (a))))
                          refine lv_aload_n hx hb dX12_check_150 rfl (lv_at hl 3 rfl) ?_
                          refine rl_get (v := .ref (m + 11)) hC hW fl_X12_41 hR.1 rfl dX12_check_151 ?_
                          refine lv_iconst (v := (nI (2))) hx hb dX12_check_154 (by decide) ?_
                          refine lv_iload hx hb dX12_check_155 (lv_at hl 2 rfl) ?_
                          refine lv_imul hx hb dX12_check_157 ?_
                          refine rl_topn (pk_mul _ _) ?_
                          refine lv_iload hx hb dX12_check_158 (lv_at hl 0 rfl) ?_
                          refine lv_iadd hx hb dX12_check_160 ?_
                          refine rl_topn (nI_add _ _) ?_
                          refine lv_iload hx hb dX12_check_161 (lv_at hl 8 rfl) ?_
                          refine rl_iast_n (g := I 10) hC hW hR.a10 (by omega) (by decide) dX12_check_163 (fun H locs hW => ?_)
                          have hR := hR.s10 (upd (I 10) (((2) * (((3) * (k)) + (v))) + (T 5 (((3) * (k)) + (v)))) ((x5)))
                          refine lv_aload_n hx hb dX12_check_164 rfl (lv_at hl 3 rfl) ?_
                          refine rl_get (v := .ref (m + 8)) hC hW fl_X12_32 hR.1 rfl dX12_check_165 ?_
                          refine lv_iload hx hb dX12_check_168 (lv_at hl 2 rfl) ?_
                          refine lv_dup2_11 hx hb dX12_check_170 rfl rfl ?_
                          refine rl_iald_n (g := I 7) hC hW hR.a7 (by omega) (by decide) dX12_check_171 ?_
                          refine rl_topn (hcc.1) ?_
                          refine lv_iconst (v := (nI (1))) hx hb dX12_check_172 (by decide) ?_
                          refine lv_iadd hx hb dX12_check_173 ?_
                          refine rl_topn (nI_add _ _) ?_
                          refine rl_iast_n (g := I 7) hC hW hR.a7 (by omega) (by decide) dX12_check_174 (fun H locs hW => ?_)
                          have hR := hR.s7 (upd (I 7) (((3) * (k)) + (v)) ((nI ((T 5 (((3) * (k)) + (v))) + (1)))))
                          refine lv_iload hx hb dX12_check_175 (lv_at hl 0 rfl) ?_
                          exact rl_iret hC hW hr hlk (Nat.le_refl _) (Nat.le_refl _) ⟨_, rfl, rfl, rfl, _, Or.inl ⟨k, v, h, a, 0, ⟨hk, hv, hh, rfl, rfl, rfl, ha, rfl, by rw [has, hs], fun q => absurd e1 q, fun _ => rfl⟩, Or.inr ⟨n5, rfl, rfl⟩⟩, ⟨_, _, _, hR, hTc, hTp, hTk.add hj12 hh n5 ha (by rw [has, hs]) (fun q => absurd e1 q), hGW, hGr, hGd, hGp, hGt, hGc, hF11, hF14⟩⟩ dX12_check_177
                        · have e5 : T 5 (3 * k + v) = 2 := (nI_eq (by omega) (by decide)).mp c7
                          refine lv_bipush (v := (-2)) hx hb dX12_check_111 (by decide) ?_
                          exact rl_iret hC hW hr hlk (Nat.le_refl _) (Nat.le_refl _) ⟨_, rfl, rfl, rfl, T, Or.inl ⟨k, v, h, a, 0, ⟨hk, hv, hh, rfl, rfl, rfl, ha, rfl, by rw [has, hs], fun q => absurd e1 q, fun _ => rfl⟩, Or.inl ⟨e5, rfl, rfl⟩⟩, ⟨_, _, _, hR, hTc, hTp, hTk, hGW, hGr, hGd, hGp, hGt, hGc, hF11, hF14⟩⟩ dX12_check_113
                      · have n1 : h ≠ 1 := fun q => c6 (by rw [q])
                        refine lv_aload_n hx hb dX12_check_86 rfl (lv_at hl 2 rfl) ?_
                        refine lv_iload hx hb dX12_check_87 (lv_at hl 1 rfl) ?_
                        refine lv_iload hx hb dX12_check_89 (lv_at hl 7 rfl) ?_
                        refine lv_iconst (v := (nI (0))) hx hb dX12_check_91 (by decide) ?_
                        refine rl_calliQ (rl_runV (b := m) (As := [.int (nI (((3) * (k)) + (v))), .int (x5), .int (nI (0))]) (rest := []) hC hW (cR_isSort l D t A _ z m I L F hR T hTp (3 * k + v) hj12 _ 0 (by decide)) cs_X12_143 im_X12_isSort sl_X12_isSort hR.1 rfl ⟨(Nat.le_of_ble_eq_true rfl), (Nat.le_of_ble_eq_true rfl)⟩ rfl hl.1 rfl (Nat.le_of_ble_eq_true rfl) dX12_check_92 ⟨(Nat.le_of_ble_eq_true rfl), (Nat.le_of_ble_eq_true rfl)⟩) hW (fun r f1 H locs hp hW => ?_)
                        obtain ⟨rfl, hp⟩ := hp
                        rcases hp with ⟨rfl, hp⟩ | ⟨rfl, hp⟩
                        · obtain ⟨b0, hb0, rfl, hbs⟩ := hp
                          refine lv_if_ne (tgt := 100) hx hb dX12_check_95 (by decide) (fun c9 => ?_) (fun c9 => ?_)
                          · have hcc := hTk.1 (3 * k + v) hj12
                            refine lv_aload_n hx hb dX12_check_100 rfl (lv_at hl 2 rfl) ?_
                            refine rl_get (v := .ref (m + 8)) hC hW fl_X12_32 hR.1 rfl dX12_check_101 ?_
                            refine lv_iload hx hb dX12_check_104 (lv_at hl 1 rfl) ?_
                            refine rl_iald_n (g := I 7) hC hW hR.a7 (by omega) (by decide) dX12_check_106 ?_
                            refine rl_topn (hcc.1) ?_
                            refine lv_iconst (v := (nI (2))) hx hb dX12_check_107 (by decide) ?_
                            refine lv_icmp_ne (tgt := 114) hx hb dX12_check_108 (by decide) (fun c7 => ?_) (fun c7 => ?_)
                            · have n5 : T 5 (3 * k + v) ≠ 2 := fun q => c7 (by rw [q])
                              refine lv_aload_n hx hb dX12_check_114 rfl (lv_at hl 2 rfl) ?_
                              refine rl_get (v := .ref (m + 8)) hC hW fl_X12_32 hR.1 rfl dX12_check_115 ?_
                              refine lv_iload hx hb dX12_check_118 (lv_at hl 1 rfl) ?_
                              refine rl_iald_n (g := I 7) hC hW hR.a7 (by omega) (by decide) dX12_check_120 ?_
                              refine rl_topn (hcc.1) ?_
                              refine lv_istore (lv' := [(8, .int (nI (T 5 (((3) * (k)) + (v))))), (7, .int (nI (4))), (6, .int (nI (((3) * (k)) + (v)))), (0, .ref (m)), (1, .int (nI (2 + k))), (2, .int (nI (v))), (3, .int (nI (h))), (4, .int (nI (a))), (5, .int (nI (b0)))]) hx hb dX12_check_121 hl (by decide) rfl (fun ls hl => ?_)
                              refine lv_aload_n hx hb dX12_check_123 rfl (lv_at hl 3 rfl) ?_
                              refine rl_get (v := .ref (m + 9)) hC hW fl_X12_35 hR.1 rfl dX12_check_124 ?_
                              refine lv_iconst (v := (nI (2))) hx hb dX12_check_127 (by decide) ?_
                              refine lv_iload hx hb dX12_check_128 (lv_at hl 2 rfl) ?_
                              refine lv_imul hx hb dX12_check_130 ?_
                              refine rl_topn (pk_mul _ _) ?_
                              refine lv_iload hx hb dX12_check_131 (lv_at hl 0 rfl) ?_
                              refine lv_iadd hx hb dX12_check_133 ?_
                              refine rl_topn (nI_add _ _) ?_
                              refine lv_iload_n hx hb dX12_check_134 rfl (lv_at hl 6 rfl) ?_
                              refine rl_iast_n (g := I 8) hC hW hR.a8 (by omega) (by decide) dX12_check_135 (fun H locs hW => ?_)
                              have hR := hR.s8 (upd (I 8) (((2) * (((3) * (k)) + (v))) + (T 5 (((3) * (k)) + (v)))) ((nI (h))))
                              refine lv_aload_n hx hb dX12_check_136 rfl (lv_at hl 3 rfl) ?_
                              refine rl_get (v := .ref (m + 10)) hC hW fl_X12_38 hR.1 rfl dX12_check_137 ?_
                              refine lv_iconst (v := (nI (2))) hx hb dX12_check_140 (by decide) ?_
                              refine lv_iload hx hb dX12_check_141 (lv_at hl 2 rfl) ?_
                              refine lv_imul hx hb dX12_check_143 ?_
                              refine rl_topn (pk_mul _ _) ?_
                              refine lv_iload hx hb dX12_check_144 (lv_at hl 0 rfl) ?_
                              refine lv_iadd hx hb dX12_check_146 ?_
                              refine rl_topn (nI_add _ _) ?_
                              refine lv_iload hx hb dX12_check_147 (lv_at hl 7 rfl) ?_
                              refine rl_iast_n (g := I 9) hC hW hR.a9 (by omega) (by decide) dX12_check_149 (fun H locs hW => ?_)
                              have hR := hR.s9 (upd (I 9) (((2) * (((3) * (k)) + (v))) + (T 5 (((3) * (k)) + (v)))) ((nI (a))))
                              refine lv_aload_n hx hb dX12_check_150 rfl (lv_at hl 3 rfl) ?_
                              refine rl_get (v := .ref (m + 11)) hC hW fl_X12_41 hR.1 rfl dX12_check_151 ?_
                              refine lv_iconst (v := (nI (2))) hx hb dX12_check_154 (by decide) ?_
                              refine lv_iload hx hb dX12_check_155 (lv_at hl 2 rfl) ?_
                              refine lv_imul hx hb dX12_check_157 ?_
                              refine rl_topn (pk_mul _ _) ?_
                              refine lv_iload hx hb dX12_check_158 (lv_at hl 0 rfl) ?_
                              refine lv_iadd hx hb dX12_check_160 ?_
                              refine rl_topn (nI_add _ _) ?_
                              refine lv_iload hx hb dX12_check_161 (lv_at hl 8 rfl) ?_
                              refine rl_iast_n (g := I 10) hC hW hR.a10 (by omega) (by decide) dX12_check_163 (fun H locs hW => ?_)
                              have hR := hR.s10 (upd (I 10) (((2) * (((3) * (k)) + (v))) + (T 5 (((3) * (k)) + (v)))) ((nI (b0))))
                              refine lv_aload_n hx hb dX12_check_164 rfl (lv_at hl 3 rfl) ?_
                              refine rl_get (v := .ref (m + 8)) hC hW fl_X12_32 hR.1 rfl dX12_check_165 ?_
                              refine lv_iload hx hb dX12_check_168 (lv_at hl 2 rfl) ?_
                              refine lv_dup2_11 hx hb dX12_check_170 rfl rfl ?_
                              refine rl_iald_n (g := I 7) hC hW hR.a7 (by omega) (by decide) dX12_check_171 ?_
                              refine rl_topn (hcc.1) ?_
                              refine lv_iconst (v := (nI (1))) hx hb dX12_check_172 (by decide) ?_
                              refine lv_iadd hx hb dX12_check_173 ?_
                              refine rl_topn (nI_add _ _) ?_
                              refine rl_iast_n (g := I 7) hC hW hR.a7 (by omega) (by decide) dX12_check_174 (fun H locs hW => ?_)
                              have hR := hR.s7 (upd (I 7) (((3) * (k)) + (v)) ((nI ((T 5 (((3) * (k)) + (v))) + (1)))))
                              refine lv_iload hx hb dX12_check_175 (lv_at hl 0 rfl) ?_
                              exact rl_iret hC hW hr hlk (Nat.le_refl _) (Nat.le_refl _) ⟨_, rfl, rfl, rfl, _, Or.inl ⟨k, v, h, a, b0, ⟨hk, hv, hh, rfl, rfl, rfl, ha, rfl, by rw [has, hs], fun _ => ⟨hb0, rfl, hbs⟩, fun q => absurd q n1⟩, Or.inr ⟨n5, rfl, rfl⟩⟩, ⟨_, _, _, hR, hTc, hTp, hTk.add hj12 hh n5 ha (by rw [has, hs]) (fun _ => ⟨hb0, rfl, hbs⟩), hGW, hGr, hGd, hGp, hGt, hGc, hF11, hF14⟩⟩ dX12_check_177
                            · have e5 : T 5 (3 * k + v) = 2 := (nI_eq (by omega) (by decide)).mp c7
                              refine lv_bipush (v := (-2)) hx hb dX12_check_111 (by decide) ?_
                              exact rl_iret hC hW hr hlk (Nat.le_refl _) (Nat.le_refl _) ⟨_, rfl, rfl, rfl, T, Or.inl ⟨k, v, h, a, b0, ⟨hk, hv, hh, rfl, rfl, rfl, ha, rfl, by rw [has, hs], fun _ => ⟨hb0, rfl, hbs⟩, fun q => absurd q n1⟩, Or.inl ⟨e5, rfl, rfl⟩⟩, ⟨_, _, _, hR, hTc, hTp, hTk, hGW, hGr, hGd, hGp, hGt, hGc, hF11, hF14⟩⟩ dX12_check_113
                          · exact absurd c9 (by decide)
                        · have hq := hp
                          have hno : ¬ ∃ k' v' h' a' b', rt_okk T (nI (2 + k)) (nI v) (nI h) (nI a) x5 k' v' h' a' b' := fun ⟨k', v', h', a', b', q1, q2, q3, q4, q5, q6, q7, q8, q9, q10, _⟩ => by
                            have e1 := (nI_eq (by omega) (by omega)).mp q4
                            have e1 : k = k' := by omega
                            have e2 := (nI_eq (by omega) (by omega)).mp q5
                            have e3 := (nI_eq (by omega) (by omega)).mp q6
                            subst e1; subst e2; subst e3
                            exact hq ⟨b', q10 n1⟩
                          refine lv_if_ne (tgt := 100) hx hb dX12_check_95 (by decide) (fun c9 => ?_) (fun c9 => ?_)
                          · exact absurd rfl c9
                          · refine lv_iconst (v := (-1)) hx hb dX12_check_98 (by decide) ?_
                            exact rl_iret hC hW hr hlk (Nat.le_refl _) (Nat.le_refl _) ⟨_, rfl, rfl, rfl, T, Or.inr ⟨by decide, rfl, hno⟩, ⟨_, _, _, hR, hTc, hTp, hTk, hGW, hGr, hGd, hGp, hGt, hGc, hF11, hF14⟩⟩ dX12_check_99
                  · have hq := hp
                    have hno : ¬ ∃ k' v' h' a' b', rt_okk T (nI (2 + k)) (nI v) (nI h) x4 x5 k' v' h' a' b' := fun ⟨k', v', h', a', b', q1, q2, q3, q4, q5, q6, q7, q8, q9, q10, _⟩ => by
                      have e1 := (nI_eq (by omega) (by omega)).mp q4
                      have e1 : k = k' := by omega
                      have e2 := (nI_eq (by omega) (by omega)).mp q5
                      have e3 := (nI_eq (by omega) (by omega)).mp q6
                      subst e1; subst e2; subst e3
                      exact hq ⟨a', q7, q8, by rw [q9, hs]⟩
                    refine lv_if_eq (tgt := 98) hx hb dX12_check_78 (by decide) (fun c9 => ?_) (fun c9 => ?_)
                    · refine lv_iconst (v := (-1)) hx hb dX12_check_98 (by decide) ?_
                      exact rl_iret hC hW hr hlk (Nat.le_refl _) (Nat.le_refl _) ⟨_, rfl, rfl, rfl, T, Or.inr ⟨by decide, rfl, hno⟩, ⟨_, _, _, hR, hTc, hTp, hTk, hGW, hGr, hGd, hGp, hGt, hGc, hF11, hF14⟩⟩ dX12_check_99
                    · exact absurd rfl c9
              · have hs : rt_srt h = 0 := by have := rg_lt c2 (by decide) (by omega); simp [rt_srt]; omega
                refine lv_iconst (v := (nI (0))) hx hb dX12_check_43 (by decide) ?_
                refine lv_goto (tgt := 66) hx hb dX12_check_44 (by decide) ?_
                refine lv_istore (lv' := [(7, .int (nI (0))), (6, .int (nI (((3) * (k)) + (v)))), (0, .ref (m)), (1, .int (nI (2 + k))), (2, .int (nI (v))), (3, .int (nI (h))), (4, .int (x4)), (5, .int (x5))]) hx hb dX12_check_66 hl (by decide) rfl (fun ls hl => ?_)
                refine lv_aload_n hx hb dX12_check_68 rfl (lv_at hl 2 rfl) ?_
                refine lv_iload hx hb dX12_check_69 (lv_at hl 1 rfl) ?_
                refine lv_iload hx hb dX12_check_71 (lv_at hl 6 rfl) ?_
                refine lv_iload hx hb dX12_check_73 (lv_at hl 0 rfl) ?_
                refine rl_calliQ (rl_runV (b := m) (As := [.int (nI (((3) * (k)) + (v))), .int (x4), .int (nI (0))]) (rest := []) hC hW (cR_isSort l D t A _ z m I L F hR T hTp (3 * k + v) hj12 _ 0 (by decide)) cs_X12_143 im_X12_isSort sl_X12_isSort hR.1 rfl ⟨(Nat.le_of_ble_eq_true rfl), (Nat.le_of_ble_eq_true rfl)⟩ rfl hl.1 rfl (Nat.le_of_ble_eq_true rfl) dX12_check_75 ⟨(Nat.le_of_ble_eq_true rfl), (Nat.le_of_ble_eq_true rfl)⟩) hW (fun r f1 H locs hp hW => ?_)
                obtain ⟨rfl, hp⟩ := hp
                rcases hp with ⟨rfl, hp⟩ | ⟨rfl, hp⟩
                · obtain ⟨a, ha, rfl, has⟩ := hp
                  refine lv_if_eq (tgt := 98) hx hb dX12_check_78 (by decide) (fun c9 => ?_) (fun c9 => ?_)
                  · exact absurd c9 (by decide)
                  · refine lv_iload_n hx hb dX12_check_81 rfl (lv_at hl 5 rfl) ?_
                    refine lv_iconst (v := (nI (1))) hx hb dX12_check_82 (by decide) ?_
                    refine lv_icmp_eq (tgt := 100) hx hb dX12_check_83 (by decide) (fun c6 => ?_) (fun c6 => ?_)
                    · have e1 : h = 1 := (nI_eq (by omega) (by decide)).mp c6
                      have hcc := hTk.1 (3 * k + v) hj12
                      refine lv_aload_n hx hb dX12_check_100 rfl (lv_at hl 2 rfl) ?_
                      refine rl_get (v := .ref (m + 8)) hC hW fl_X12_32 hR.1 rfl dX12_check_101 ?_
                      refine lv_iload hx hb dX12_check_104 (lv_at hl 1 rfl) ?_
                      refine rl_iald_n (g := I 7) hC hW hR.a7 (by omega) (by decide) dX12_check_106 ?_
                      refine rl_topn (hcc.1) ?_
                      refine lv_iconst (v := (nI (2))) hx hb dX12_check_107 (by decide) ?_
                      refine lv_icmp_ne (tgt := 114) hx hb dX12_check_108 (by decide) (fun c7 => ?_) (fun c7 => ?_)
                      · have n5 : T 5 (3 * k + v) ≠ 2 := fun q => c7 (by rw [q])
                        refine lv_aload_n hx hb dX12_check_114 rfl (lv_at hl 2 rfl) ?_
                        refine rl_get (v := .ref (m + 8)) hC hW fl_X12_32 hR.1 rfl dX12_check_115 ?_
                        refine lv_iload hx hb dX12_check_118 (lv_at hl 1 rfl) ?_
                        refine rl_iald_n (g := I 7) hC hW hR.a7 (by omega) (by decide) dX12_check_120 ?_
                        refine rl_topn (hcc.1) ?_
                        refine lv_istore (lv' := [(8, .int (nI (T 5 (((3) * (k)) + (v))))), (7, .int (nI (0))), (6, .int (nI (((3) * (k)) + (v)))), (0, .ref (m)), (1, .int (nI (2 + k))), (2, .int (nI (v))), (3, .int (nI (h))), (4, .int (nI (a))), (5, .int (x5))]) hx hb dX12_check_121 hl (by decide) rfl (fun ls hl => ?_)
                        refine lv_aload_n hx hb dX12_check_123 rfl (lv_at hl 3 rfl) ?_
                        refine rl_get (v := .ref (m + 9)) hC hW fl_X12_35 hR.1 rfl dX12_check_124 ?_
                        refine lv_iconst (v := (nI (2))) hx hb dX12_check_127 (by decide) ?_
                        refine lv_iload hx hb dX12_check_128 (lv_at hl 2 rfl) ?_
                        refine lv_imul hx hb dX12_check_130 ?_
                        refine rl_topn (pk_mul _ _) ?_
                        refine lv_iload hx hb dX12_check_131 (lv_at hl 0 rfl) ?_
                        refine lv_iadd hx hb dX12_check_133 ?_
                        refine rl_topn (nI_add _ _) ?_
                        refine lv_iload_n hx hb dX12_check_134 rfl (lv_at hl 6 rfl) ?_
                        refine rl_iast_n (g := I 8) hC hW hR.a8 (by omega) (by decide) dX12_check_135 (fun H locs hW => ?_)
                        have hR := hR.s8 (upd (I 8) (((2) * (((3) * (k)) + (v))) + (T 5 (((3) * (k)) + (v)))) ((nI (h))))
                        refine lv_aload_n hx hb dX12_check_136 rfl (lv_at hl 3 rfl) ?_
                        refine rl_get (v := .ref (m + 10)) hC hW fl_X12_38 hR.1 rfl dX12_check_137 ?_
                        refine lv_iconst (v := (nI (2))) hx hb dX12_check_140 (by decide) ?_
                        refine lv_iload hx hb dX12_check_141 (lv_at hl 2 rfl) ?_
                        refine lv_imul hx hb dX12_check_143 ?_
                        refine rl_topn (pk_mul _ _) ?_
                        refine lv_iload hx hb dX12_check_144 (lv_at hl 0 rfl) ?_
                        refine lv_iadd hx hb dX12_check_146 ?_
                        refine rl_topn (nI_add _ _) ?_
                        refine lv_iload hx hb dX12_check_147 (lv_at hl 7 rfl) ?_
                        refine rl_iast_n (g := I 9) hC hW hR.a9 (by omega) (by decide) dX12_check_149 (fun H locs hW => ?_)
                        have hR := hR.s9 (upd (I 9) (((2) * (((3) * (k)) + (v))) + (T 5 (((3) * (k)) + (v)))) ((nI (a))))
                        refine lv_aload_n hx hb dX12_check_150 rfl (lv_at hl 3 rfl) ?_
                        refine rl_get (v := .ref (m + 11)) hC hW fl_X12_41 hR.1 rfl dX12_check_151 ?_
                        refine lv_iconst (v := (nI (2))) hx hb dX12_check_154 (by decide) ?_
                        refine lv_iload hx hb dX12_check_155 (lv_at hl 2 rfl) ?_
                        refine lv_imul hx hb dX12_check_157 ?_
                        refine rl_topn (pk_mul _ _) ?_
                        refine lv_iload hx hb dX12_check_158 (lv_at hl 0 rfl) ?_
                        refine lv_iadd hx hb dX12_check_160 ?_
                        refine rl_topn (nI_add _ _) ?_
                        refine lv_iload hx hb dX12_check_161 (lv_at hl 8 rfl) ?_
                        refine rl_iast_n (g := I 10) hC hW hR.a10 (by omega) (by decide) dX12_check_163 (fun H locs hW => ?_)
                        have hR := hR.s10 (upd (I 10) (((2) * (((3) * (k)) + (v))) + (T 5 (((3) * (k)) + (v)))) ((x5)))
                        refine lv_aload_n hx hb dX12_check_164 rfl (lv_at hl 3 rfl) ?_
                        refine rl_get (v := .ref (m + 8)) hC hW fl_X12_32 hR.1 rfl dX12_check_165 ?_
                        refine lv_iload hx hb dX12_check_168 (lv_at hl 2 rfl) ?_
                        refine lv_dup2_11 hx hb dX12_check_170 rfl rfl ?_
                        refine rl_iald_n (g := I 7) hC hW hR.a7 (by omega) (by decide) dX12_check_171 ?_
                        refine rl_topn (hcc.1) ?_
                        refine lv_iconst (v := (nI (1))) hx hb dX12_check_172 (by decide) ?_
                        refine lv_iadd hx hb dX12_check_173 ?_
                        refine rl_topn (nI_add _ _) ?_
                        refine rl_iast_n (g := I 7) hC hW hR.a7 (by omega) (by decide) dX12_check_174 (fun H locs hW => ?_)
                        have hR := hR.s7 (upd (I 7) (((3) * (k)) + (v)) ((nI ((T 5 (((3) * (k)) + (v))) + (1)))))
                        refine lv_iload hx hb dX12_check_175 (lv_at hl 0 rfl) ?_
                        exact rl_iret hC hW hr hlk (Nat.le_refl _) (Nat.le_refl _) ⟨_, rfl, rfl, rfl, _, Or.inl ⟨k, v, h, a, 0, ⟨hk, hv, hh, rfl, rfl, rfl, ha, rfl, by rw [has, hs], fun q => absurd e1 q, fun _ => rfl⟩, Or.inr ⟨n5, rfl, rfl⟩⟩, ⟨_, _, _, hR, hTc, hTp, hTk.add hj12 hh n5 ha (by rw [has, hs]) (fun q => absurd e1 q), hGW, hGr, hGd, hGp, hGt, hGc, hF11, hF14⟩⟩ dX12_check_177
                      · have e5 : T 5 (3 * k + v) = 2 := (nI_eq (by omega) (by decide)).mp c7
                        refine lv_bipush (v := (-2)) hx hb dX12_check_111 (by decide) ?_
                        exact rl_iret hC hW hr hlk (Nat.le_refl _) (Nat.le_refl _) ⟨_, rfl, rfl, rfl, T, Or.inl ⟨k, v, h, a, 0, ⟨hk, hv, hh, rfl, rfl, rfl, ha, rfl, by rw [has, hs], fun q => absurd e1 q, fun _ => rfl⟩, Or.inl ⟨e5, rfl, rfl⟩⟩, ⟨_, _, _, hR, hTc, hTp, hTk, hGW, hGr, hGd, hGp, hGt, hGc, hF11, hF14⟩⟩ dX12_check_113
                    · have n1 : h ≠ 1 := fun q => c6 (by rw [q])
                      refine lv_aload_n hx hb dX12_check_86 rfl (lv_at hl 2 rfl) ?_
                      refine lv_iload hx hb dX12_check_87 (lv_at hl 1 rfl) ?_
                      refine lv_iload hx hb dX12_check_89 (lv_at hl 7 rfl) ?_
                      refine lv_iconst (v := (nI (0))) hx hb dX12_check_91 (by decide) ?_
                      refine rl_calliQ (rl_runV (b := m) (As := [.int (nI (((3) * (k)) + (v))), .int (x5), .int (nI (0))]) (rest := []) hC hW (cR_isSort l D t A _ z m I L F hR T hTp (3 * k + v) hj12 _ 0 (by decide)) cs_X12_143 im_X12_isSort sl_X12_isSort hR.1 rfl ⟨(Nat.le_of_ble_eq_true rfl), (Nat.le_of_ble_eq_true rfl)⟩ rfl hl.1 rfl (Nat.le_of_ble_eq_true rfl) dX12_check_92 ⟨(Nat.le_of_ble_eq_true rfl), (Nat.le_of_ble_eq_true rfl)⟩) hW (fun r f1 H locs hp hW => ?_)
                      obtain ⟨rfl, hp⟩ := hp
                      rcases hp with ⟨rfl, hp⟩ | ⟨rfl, hp⟩
                      · obtain ⟨b0, hb0, rfl, hbs⟩ := hp
                        refine lv_if_ne (tgt := 100) hx hb dX12_check_95 (by decide) (fun c9 => ?_) (fun c9 => ?_)
                        · have hcc := hTk.1 (3 * k + v) hj12
                          refine lv_aload_n hx hb dX12_check_100 rfl (lv_at hl 2 rfl) ?_
                          refine rl_get (v := .ref (m + 8)) hC hW fl_X12_32 hR.1 rfl dX12_check_101 ?_
                          refine lv_iload hx hb dX12_check_104 (lv_at hl 1 rfl) ?_
                          refine rl_iald_n (g := I 7) hC hW hR.a7 (by omega) (by decide) dX12_check_106 ?_
                          refine rl_topn (hcc.1) ?_
                          refine lv_iconst (v := (nI (2))) hx hb dX12_check_107 (by decide) ?_
                          refine lv_icmp_ne (tgt := 114) hx hb dX12_check_108 (by decide) (fun c7 => ?_) (fun c7 => ?_)
                          · have n5 : T 5 (3 * k + v) ≠ 2 := fun q => c7 (by rw [q])
                            refine lv_aload_n hx hb dX12_check_114 rfl (lv_at hl 2 rfl) ?_
                            refine rl_get (v := .ref (m + 8)) hC hW fl_X12_32 hR.1 rfl dX12_check_115 ?_
                            refine lv_iload hx hb dX12_check_118 (lv_at hl 1 rfl) ?_
                            refine rl_iald_n (g := I 7) hC hW hR.a7 (by omega) (by decide) dX12_check_120 ?_
                            refine rl_topn (hcc.1) ?_
                            refine lv_istore (lv' := [(8, .int (nI (T 5 (((3) * (k)) + (v))))), (7, .int (nI (0))), (6, .int (nI (((3) * (k)) + (v)))), (0, .ref (m)), (1, .int (nI (2 + k))), (2, .int (nI (v))), (3, .int (nI (h))), (4, .int (nI (a))), (5, .int (nI (b0)))]) hx hb dX12_check_121 hl (by decide) rfl (fun ls hl => ?_)
                            refine lv_aload_n hx hb dX12_check_123 rfl (lv_at hl 3 rfl) ?_
                            refine rl_get (v := .ref (m + 9)) hC hW fl_X12_35 hR.1 rfl dX12_check_124 ?_
                            refine lv_iconst (v := (nI (2))) hx hb dX12_check_127 (by decide) ?_
                            refine lv_iload hx hb dX12_check_128 (lv_at hl 2 rfl) ?_
                            refine lv_imul hx hb dX12_check_130 ?_
                            refine rl_topn (pk_mul _ _) ?_
                            refine lv_iload hx hb dX12_check_131 (lv_at hl 0 rfl) ?_
                            refine lv_iadd hx hb dX12_check_133 ?_
                            refine rl_topn (nI_add _ _) ?_
                            refine lv_iload_n hx hb dX12_check_134 rfl (lv_at hl 6 rfl) ?_
                            refine rl_iast_n (g := I 8) hC hW hR.a8 (by omega) (by decide) dX12_check_135 (fun H locs hW => ?_)
                            have hR := hR.s8 (upd (I 8) (((2) * (((3) * (k)) + (v))) + (T 5 (((3) * (k)) + (v)))) ((nI (h))))
                            refine lv_aload_n hx hb dX12_check_136 rfl (lv_at hl 3 rfl) ?_
                            refine rl_get (v := .ref (m + 10)) hC hW fl_X12_38 hR.1 rfl dX12_check_137 ?_
                            refine lv_iconst (v := (nI (2))) hx hb dX12_check_140 (by decide) ?_
                            refine lv_iload hx hb dX12_check_141 (lv_at hl 2 rfl) ?_
                            refine lv_imul hx hb dX12_check_143 ?_
                            refine rl_topn (pk_mul _ _) ?_
                            refine lv_iload hx hb dX12_check_144 (lv_at hl 0 rfl) ?_
                            refine lv_iadd hx hb dX12_check_146 ?_
                            refine rl_topn (nI_add _ _) ?_
                            refine lv_iload hx hb dX12_check_147 (lv_at hl 7 rfl) ?_
                            refine rl_iast_n (g := I 9) hC hW hR.a9 (by omega) (by decide) dX12_check_149 (fun H locs hW => ?_)
                            have hR := hR.s9 (upd (I 9) (((2) * (((3) * (k)) + (v))) + (T 5 (((3) * (k)) + (v)))) ((nI (a))))
                            refine lv_aload_n hx hb dX12_check_150 rfl (lv_at hl 3 rfl) ?_
                            refine rl_get (v := .ref (m + 11)) hC hW fl_X12_41 hR.1 rfl dX12_check_151 ?_
                            refine lv_iconst (v := (nI (2))) hx hb dX12_check_154 (by decide) ?_
                            refine lv_iload hx hb dX12_check_155 (lv_at hl 2 rfl) ?_
                            refine lv_imul hx hb dX12_check_157 ?_
                            refine rl_topn (pk_mul _ _) ?_
                            refine lv_iload hx hb dX12_check_158 (lv_at hl 0 rfl) ?_
                            refine lv_iadd hx hb dX12_check_160 ?_
                            refine rl_topn (nI_add _ _) ?_
                            refine lv_iload hx hb dX12_check_161 (lv_at hl 8 rfl) ?_
                            refine rl_iast_n (g := I 10) hC hW hR.a10 (by omega) (by decide) dX12_check_163 (fun H locs hW => ?_)
                            have hR := hR.s10 (upd (I 10) (((2) * (((3) * (k)) + (v))) + (T 5 (((3) * (k)) + (v)))) ((nI (b0))))
                            refine lv_aload_n hx hb dX12_check_164 rfl (lv_at hl 3 rfl) ?_
                            refine rl_get (v := .ref (m + 8)) hC hW fl_X12_32 hR.1 rfl dX12_check_165 ?_
                            refine lv_iload hx hb dX12_check_168 (lv_at hl 2 rfl) ?_
                            refine lv_dup2_11 hx hb dX12_check_170 rfl rfl ?_
                            refine rl_iald_n (g := I 7) hC hW hR.a7 (by omega) (by decide) dX12_check_171 ?_
                            refine rl_topn (hcc.1) ?_
                            refine lv_iconst (v := (nI (1))) hx hb dX12_check_172 (by decide) ?_
                            refine lv_iadd hx hb dX12_check_173 ?_
                            refine rl_topn (nI_add _ _) ?_
                            refine rl_iast_n (g := I 7) hC hW hR.a7 (by omega) (by decide) dX12_check_174 (fun H locs hW => ?_)
                            have hR := hR.s7 (upd (I 7) (((3) * (k)) + (v)) ((nI ((T 5 (((3) * (k)) + (v))) + (1)))))
                            refine lv_iload hx hb dX12_check_175 (lv_at hl 0 rfl) ?_
                            exact rl_iret hC hW hr hlk (Nat.le_refl _) (Nat.le_refl _) ⟨_, rfl, rfl, rfl, _, Or.inl ⟨k, v, h, a, b0, ⟨hk, hv, hh, rfl, rfl, rfl, ha, rfl, by rw [has, hs], fun _ => ⟨hb0, rfl, hbs⟩, fun q => absurd q n1⟩, Or.inr ⟨n5, rfl, rfl⟩⟩, ⟨_, _, _, hR, hTc, hTp, hTk.add hj12 hh n5 ha (by rw [has, hs]) (fun _ => ⟨hb0, rfl, hbs⟩), hGW, hGr, hGd, hGp, hGt, hGc, hF11, hF14⟩⟩ dX12_check_177
                          · have e5 : T 5 (3 * k + v) = 2 := (nI_eq (by omega) (by decide)).mp c7
                            refine lv_bipush (v := (-2)) hx hb dX12_check_111 (by decide) ?_
                            exact rl_iret hC hW hr hlk (Nat.le_refl _) (Nat.le_refl _) ⟨_, rfl, rfl, rfl, T, Or.inl ⟨k, v, h, a, b0, ⟨hk, hv, hh, rfl, rfl, rfl, ha, rfl, by rw [has, hs], fun _ => ⟨hb0, rfl, hbs⟩, fun q => absurd q n1⟩, Or.inl ⟨e5, rfl, rfl⟩⟩, ⟨_, _, _, hR, hTc, hTp, hTk, hGW, hGr, hGd, hGp, hGt, hGc, hF11, hF14⟩⟩ dX12_check_113
                        · exact absurd c9 (by decide)
                      · have hq := hp
                        have hno : ¬ ∃ k' v' h' a' b', rt_okk T (nI (2 + k)) (nI v) (nI h) (nI a) x5 k' v' h' a' b' := fun ⟨k', v', h', a', b', q1, q2, q3, q4, q5, q6, q7, q8, q9, q10, _⟩ => by
                          have e1 := (nI_eq (by omega) (by omega)).mp q4
                          have e1 : k = k' := by omega
                          have e2 := (nI_eq (by omega) (by omega)).mp q5
                          have e3 := (nI_eq (by omega) (by omega)).mp q6
                          subst e1; subst e2; subst e3
                          exact hq ⟨b', q10 n1⟩
                        refine lv_if_ne (tgt := 100) hx hb dX12_check_95 (by decide) (fun c9 => ?_) (fun c9 => ?_)
                        · exact absurd rfl c9
                        · refine lv_iconst (v := (-1)) hx hb dX12_check_98 (by decide) ?_
                          exact rl_iret hC hW hr hlk (Nat.le_refl _) (Nat.le_refl _) ⟨_, rfl, rfl, rfl, T, Or.inr ⟨by decide, rfl, hno⟩, ⟨_, _, _, hR, hTc, hTp, hTk, hGW, hGr, hGd, hGp, hGt, hGc, hF11, hF14⟩⟩ dX12_check_99
                · have hq := hp
                  have hno : ¬ ∃ k' v' h' a' b', rt_okk T (nI (2 + k)) (nI v) (nI h) x4 x5 k' v' h' a' b' := fun ⟨k', v', h', a', b', q1, q2, q3, q4, q5, q6, q7, q8, q9, q10, _⟩ => by
                    have e1 := (nI_eq (by omega) (by omega)).mp q4
                    have e1 : k = k' := by omega
                    have e2 := (nI_eq (by omega) (by omega)).mp q5
                    have e3 := (nI_eq (by omega) (by omega)).mp q6
                    subst e1; subst e2; subst e3
                    exact hq ⟨a', q7, q8, by rw [q9, hs]⟩
                  refine lv_if_eq (tgt := 98) hx hb dX12_check_78 (by decide) (fun c9 => ?_) (fun c9 => ?_)
                  · refine lv_iconst (v := (-1)) hx hb dX12_check_98 (by decide) ?_
                    exact rl_iret hC hW hr hlk (Nat.le_refl _) (Nat.le_refl _) ⟨_, rfl, rfl, rfl, T, Or.inr ⟨by decide, rfl, hno⟩, ⟨_, _, _, hR, hTc, hTp, hTk, hGW, hGr, hGd, hGp, hGt, hGc, hF11, hF14⟩⟩ dX12_check_99
                  · exact absurd rfl c9
            · exact absurd c9 (by decide)
          · have hq := hp
            refine lv_if_ne (tgt := 29) hx hb dX12_check_24 (by decide) (fun c9 => ?_) (fun c9 => ?_)
            · exact absurd rfl c9
            · refine lv_iconst (v := (-1)) hx hb dX12_check_27 (by decide) ?_
              exact rl_iret hC hW hr hlk (Nat.le_refl _) (Nat.le_refl _) ⟨_, rfl, rfl, rfl, T, Or.inr ⟨by decide, rfl, fun ⟨_, _, h', _, _, _, _, q3, _, _, q6, _⟩ => hq ⟨h', q3, q6⟩⟩, ⟨_, _, _, hR, hTc, hTp, hTk, hGW, hGr, hGd, hGp, hGt, hGc, hF11, hF14⟩⟩ dX12_check_28
      · have hq := hp
        refine lv_if_eq (tgt := 27) hx hb dX12_check_12 (by decide) (fun c9 => ?_) (fun c9 => ?_)
        · refine lv_iconst (v := (-1)) hx hb dX12_check_27 (by decide) ?_
          exact rl_iret hC hW hr hlk (Nat.le_refl _) (Nat.le_refl _) ⟨_, rfl, rfl, rfl, T, Or.inr ⟨by decide, rfl, fun ⟨_, v', _, _, _, _, q2, _, _, q5, _⟩ => hq ⟨v', q2, q5⟩⟩, ⟨_, _, _, hR, hTc, hTp, hTk, hGW, hGr, hGd, hGp, hGt, hGc, hF11, hF14⟩⟩ dX12_check_28
        · exact absurd rfl c9
  · have hq := hp
    refine lv_if_eq (tgt := 27) hx hb dX12_check_5 (by decide) (fun c9 => ?_) (fun c9 => ?_)
    · refine lv_iconst (v := (-1)) hx hb dX12_check_27 (by decide) ?_
      exact rl_iret hC hW hr hlk (Nat.le_refl _) (Nat.le_refl _) ⟨_, rfl, rfl, rfl, T, Or.inr ⟨by decide, rfl, fun ⟨k', _, _, _, _, q1, _, _, q4, _⟩ => hq ⟨k', q1, q4⟩⟩, ⟨_, _, _, hR, hTc, hTp, hTk, hGW, hGr, hGd, hGp, hGt, hGc, hF11, hF14⟩⟩ dX12_check_28
    · exact absurd rfl c9

set_option maxHeartbeats 4000000 in
set_option maxRecDepth 100000 in
theorem cR_familyOf (l : Launch) (D : va_G) (t : Nat → ClassId) (A : Nat → Prop) (f : rl_M) (z : Nat) (m : Nat) (I : Nat → Nat → Int32) (L : Nat → Nat → Int64) (F : Nat → Int32) (hR : RM t f m I L F) (T : Nat → Nat → Nat) (h2 : ∀ n, n < 60 → I 2 n = nI (T 9 n) ∧ T 9 n < 2) (ρ κ : Nat) (hρ : ρ ≤ 43100) (hκ : κ ≤ 26200) (x : Int32) (h : pHd) (hx0 : x = enc h) (hV : hok ρ κ h) : rl_Met l yX12_familyOf (.code yX12_familyOf cX12_familyOf 2 (some FieldType.int)) (rl_rm 0 0 0) D t A f z [.ref (m), .int (x)] (rl_qi z fun r f1 => f = f1 ∧ rf_fam T ρ κ h r) := by
  refine rl_begin (own := RX12) (lv := [(0, .ref (m)), (1, .int (x))]) (by decide +kernel) rfl (Nat.le_of_ble_eq_true rfl) rfl fun p e s m0 args below meth c ls H locs hC hr hlk hnm hW hl hx hb => ?_
  rcases h with _ | n | n | n
  · obtain rfl : x = -1 := hx0
    refine lv_iload_n hx hb dX12_familyOf_0 rfl (lv_at hl 1 rfl) ?_
    refine lv_iconst (v := (-1)) hx hb dX12_familyOf_1 (by decide) ?_
    refine lv_icmp_ne (tgt := 9) hx hb dX12_familyOf_2 (by decide) (fun c1 => ?_) (fun c1 => ?_)
    · exact absurd rfl c1
    · refine lv_iconst (v := (nI (0))) hx hb dX12_familyOf_5 (by decide) ?_
      refine lv_goto (tgt := 43) hx hb dX12_familyOf_6 (by decide) ?_
      exact rl_iret hC hW hr hlk (Nat.le_refl _) (Nat.le_refl _) ⟨_, rfl, rfl, rfl, rfl, Or.inl ⟨rfl, by decide⟩⟩ dX12_familyOf_43
  · obtain rfl : x = nI n := hx0
    have hn : n < 60 := hV
    refine lv_iload_n hx hb dX12_familyOf_0 rfl (lv_at hl 1 rfl) ?_
    refine lv_iconst (v := (-1)) hx hb dX12_familyOf_1 (by decide) ?_
    refine lv_icmp_ne (tgt := 9) hx hb dX12_familyOf_2 (by decide) (fun c1 => ?_) (fun c1 => ?_)
    · refine lv_iload_n hx hb dX12_familyOf_9 rfl (lv_at hl 1 rfl) ?_
      refine lv_bipush (v := (nI (100))) hx hb dX12_familyOf_10 (by decide) ?_
      refine lv_icmp_ge (tgt := 32) hx hb dX12_familyOf_12 (by decide) (fun c2 => ?_) (fun c2 => ?_)
      · exact absurd (rg_le c2 (by decide) (by omega)) (by omega)
      · refine lv_aload_n hx hb dX12_familyOf_15 rfl (lv_at hl 0 rfl) ?_
        refine rl_get (v := .ref (m + 3)) hC hW fl_X12_16 hR.1 rfl dX12_familyOf_16 ?_
        refine lv_iload_n hx hb dX12_familyOf_19 rfl (lv_at hl 1 rfl) ?_
        refine rl_zald_n (g := I 2) hC hW hR.a2 (by omega) (by decide) dX12_familyOf_20 ?_
        refine rl_topn ((h2 n hn).1) ?_
        refine lv_if_eq (tgt := 28) hx hb dX12_familyOf_21 (by decide) (fun c3 => ?_) (fun c3 => ?_)
        · refine lv_iconst (v := (nI (1))) hx hb dX12_familyOf_28 (by decide) ?_
          refine lv_goto (tgt := 43) hx hb dX12_familyOf_29 (by decide) ?_
          exact rl_iret hC hW hr hlk (Nat.le_refl _) (Nat.le_refl _) ⟨_, rfl, rfl, rfl, rfl, Or.inr (Or.inl ⟨n, hn, rfl, Or.inl ⟨by decide, (nI_eq (by have := (h2 n hn).2; omega) (by decide)).mp c3⟩⟩)⟩ dX12_familyOf_43
        · refine lv_iconst (v := (nI (2))) hx hb dX12_familyOf_24 (by decide) ?_
          refine lv_goto (tgt := 43) hx hb dX12_familyOf_25 (by decide) ?_
          exact rl_iret hC hW hr hlk (Nat.le_refl _) (Nat.le_refl _) ⟨_, rfl, rfl, rfl, rfl, Or.inr (Or.inl ⟨n, hn, rfl, Or.inr ⟨by decide, by have := (h2 n hn).2; have : T 9 n ≠ 0 := fun q => c3 (by rw [q]; rfl); omega⟩⟩)⟩ dX12_familyOf_43
    · exact absurd c1 (rg_m1 (by omega))
  · obtain rfl : x = nI (100 + n) := hx0
    have hn : n < ρ := hV
    refine lv_iload_n hx hb dX12_familyOf_0 rfl (lv_at hl 1 rfl) ?_
    refine lv_iconst (v := (-1)) hx hb dX12_familyOf_1 (by decide) ?_
    refine lv_icmp_ne (tgt := 9) hx hb dX12_familyOf_2 (by decide) (fun c1 => ?_) (fun c1 => ?_)
    · refine lv_iload_n hx hb dX12_familyOf_9 rfl (lv_at hl 1 rfl) ?_
      refine lv_bipush (v := (nI (100))) hx hb dX12_familyOf_10 (by decide) ?_
      refine lv_icmp_ge (tgt := 32) hx hb dX12_familyOf_12 (by decide) (fun c2 => ?_) (fun c2 => ?_)
      · refine lv_iload_n hx hb dX12_familyOf_32 rfl (lv_at hl 1 rfl) ?_
        refine lv_ldc (v := nI 1000000) hx hb hC.2.2.2.1 (hC.2.2.2.2.1 _ (List.mem_cons_of_mem _ mw_859)) dX12_familyOf_33 ?_
        refine lv_icmp_ge (tgt := 42) hx hb dX12_familyOf_35 (by decide) (fun c3 => ?_) (fun c3 => ?_)
        · exact absurd (rg_le c3 (by decide) (by omega)) (by omega)
        · refine lv_iconst (v := (nI (3))) hx hb dX12_familyOf_38 (by decide) ?_
          refine lv_goto (tgt := 43) hx hb dX12_familyOf_39 (by decide) ?_
          exact rl_iret hC hW hr hlk (Nat.le_refl _) (Nat.le_refl _) ⟨_, rfl, rfl, rfl, rfl, Or.inr (Or.inr (Or.inl ⟨n, hn, rfl, by decide⟩))⟩ dX12_familyOf_43
      · exact absurd (rg_lt c2 (by decide) (by omega)) (by omega)
    · exact absurd c1 (rg_m1 (by omega))
  · obtain rfl : x = nI (1000000 + n) := hx0
    have hn : n < κ := hV
    refine lv_iload_n hx hb dX12_familyOf_0 rfl (lv_at hl 1 rfl) ?_
    refine lv_iconst (v := (-1)) hx hb dX12_familyOf_1 (by decide) ?_
    refine lv_icmp_ne (tgt := 9) hx hb dX12_familyOf_2 (by decide) (fun c1 => ?_) (fun c1 => ?_)
    · refine lv_iload_n hx hb dX12_familyOf_9 rfl (lv_at hl 1 rfl) ?_
      refine lv_bipush (v := (nI (100))) hx hb dX12_familyOf_10 (by decide) ?_
      refine lv_icmp_ge (tgt := 32) hx hb dX12_familyOf_12 (by decide) (fun c2 => ?_) (fun c2 => ?_)
      · refine lv_iload_n hx hb dX12_familyOf_32 rfl (lv_at hl 1 rfl) ?_
        refine lv_ldc (v := nI 1000000) hx hb hC.2.2.2.1 (hC.2.2.2.2.1 _ (List.mem_cons_of_mem _ mw_859)) dX12_familyOf_33 ?_
        refine lv_icmp_ge (tgt := 42) hx hb dX12_familyOf_35 (by decide) (fun c3 => ?_) (fun c3 => ?_)
        · refine lv_iconst (v := (nI (4))) hx hb dX12_familyOf_42 (by decide) ?_
          exact rl_iret hC hW hr hlk (Nat.le_refl _) (Nat.le_refl _) ⟨_, rfl, rfl, rfl, rfl, Or.inr (Or.inr (Or.inr ⟨n, hn, rfl, by decide⟩))⟩ dX12_familyOf_43
        · exact absurd (rg_lt c3 (by decide) (by omega)) (by omega)
      · exact absurd (rg_lt c2 (by decide) (by omega)) (by omega)
    · exact absurd c1 (rg_m1 (by omega))

set_option maxHeartbeats 4000000 in
set_option maxRecDepth 100000 in
theorem cR_hold (l : Launch) (D : va_G) (t : Nat → ClassId) (A : Nat → Prop) (f : rl_M) (z : Nat) (m : Nat) (T : Nat → Nat → Nat) (ρ κ : Nat) (G : pG) (hS : RS t f m T ρ κ G) (x1 x2 x3 x4 : Int32) : rl_Met l yX12_hold (.code yX12_hold cX12_hold 6 (some FieldType.int)) (rl_rm 2 0 0) D t A f z [.ref (m), .int (x1), .int (x2), .int (x3), .int (x4)] (rl_qi z fun r f1 => ∃ ρ' κ' G', f_hold T ρ κ G x1 x2 x3 x4 = (r, ρ', κ', G') ∧ ρ' ≤ ρ + 84 ∧ κ' ≤ κ + 51 ∧ RS t f1 m T ρ' κ' G') := by
  obtain ⟨I, L, F, hR, hTc, hTp, hTk, hGW, hGr, hGd, hGp, hGt, hGc, hF11, hF14⟩ := hS
  refine rl_begin (own := RX12) (lv := [(0, .ref (m)), (1, .int (x1)), (2, .int (x2)), (3, .int (x3)), (4, .int (x4))]) (by decide +kernel) rfl (Nat.le_of_ble_eq_true rfl) rfl fun p e s m0 args below meth c ls H locs hC hr hlk hnm hW hl hx hb => ?_
  refine lv_iload_n hx hb dX12_hold_0 rfl (lv_at hl 1 rfl) ?_
  refine rl_calliQ (rl_runS (As := [.int (x1)]) (rest := []) hC hW (cR_isPlace l D t A _ z _) cs_X12_148 sm_X12_isPlace ⟨(Nat.le_of_ble_eq_true rfl), (Nat.le_of_ble_eq_true rfl)⟩ rfl hl.1 rfl (Nat.le_of_ble_eq_true rfl) dX12_hold_1 ⟨(Nat.le_of_ble_eq_true rfl), (Nat.le_of_ble_eq_true rfl)⟩) hW (fun r f1 H locs hp hW => ?_)
  obtain ⟨rfl, hp⟩ := hp
  rcases hp with ⟨rfl, hp⟩ | ⟨rfl, hp⟩
  · obtain ⟨p0, hp0, rfl⟩ := hp
    refine lv_if_eq (tgt := 37) hx hb dX12_hold_4 (by decide) (fun c9 => ?_) (fun c9 => ?_)
    · exact absurd c9 (by decide)
    · refine lv_iload_n hx hb dX12_hold_7 rfl (lv_at hl 2 rfl) ?_
      refine lv_i2l hx hb dX12_hold_8 rfl ?_
      refine lv_lconst (v := 0) hx hb dX12_hold_9 (by decide) ?_
      refine lv_lconst (v := 1) hx hb dX12_hold_10 (by decide) ?_
      refine rl_calliQ (rl_runS (As := [.long ((x2).toInt64), .long (0), .long (1)]) (rest := []) hC hW (cR_in l D t A _ z _ _ _) cs_X12_117 sm_X12_in ⟨(Nat.le_of_ble_eq_true rfl), (Nat.le_of_ble_eq_true rfl)⟩ rfl hl.1 rfl (Nat.le_of_ble_eq_true rfl) dX12_hold_11 ⟨(Nat.le_of_ble_eq_true rfl), (Nat.le_of_ble_eq_true rfl)⟩) hW (fun r f1 H locs hp hW => ?_)
      obtain ⟨rfl, hp⟩ := hp
      rw [rg_ix (n := 1) (by decide) (by decide) (by decide)] at hp
      rcases hp with ⟨rfl, hp⟩ | ⟨rfl, hp⟩
      · obtain ⟨k, hk, rfl⟩ := hp
        refine lv_if_eq (tgt := 37) hx hb dX12_hold_14 (by decide) (fun c9 => ?_) (fun c9 => ?_)
        · exact absurd c9 (by decide)
        · refine lv_iload_n hx hb dX12_hold_17 rfl (lv_at hl 3 rfl) ?_
          refine rl_calliQ (rl_runS (As := [.int (x3)]) (rest := []) hC hW (cR_isVersion l D t A _ z _) cs_X12_125 sm_X12_isVersion ⟨(Nat.le_of_ble_eq_true rfl), (Nat.le_of_ble_eq_true rfl)⟩ rfl hl.1 rfl (Nat.le_of_ble_eq_true rfl) dX12_hold_18 ⟨(Nat.le_of_ble_eq_true rfl), (Nat.le_of_ble_eq_true rfl)⟩) hW (fun r f1 H locs hp hW => ?_)
          obtain ⟨rfl, hp⟩ := hp
          rcases hp with ⟨rfl, hp⟩ | ⟨rfl, hp⟩
          · obtain ⟨v, hv, rfl⟩ := hp
            refine lv_if_eq (tgt := 37) hx hb dX12_hold_21 (by decide) (fun c9 => ?_) (fun c9 => ?_)
            · exact absurd c9 (by decide)
            · refine lv_iload hx hb dX12_hold_24 (lv_at hl 4 rfl) ?_
              refine lv_i2l hx hb dX12_hold_26 rfl ?_
              refine lv_lconst (v := 0) hx hb dX12_hold_27 (by decide) ?_
              refine lv_ldc2 (v := 9) hx hb hC.2.2.2.1 (hC.2.2.2.2.1 _ (List.mem_cons_of_mem _ mw_809)) dX12_hold_28 ?_
              refine rl_calliQ (rl_runS (As := [.long ((x4).toInt64), .long (0), .long (9)]) (rest := []) hC hW (cR_in l D t A _ z _ _ _) cs_X12_117 sm_X12_in ⟨(Nat.le_of_ble_eq_true rfl), (Nat.le_of_ble_eq_true rfl)⟩ rfl hl.1 rfl (Nat.le_of_ble_eq_true rfl) dX12_hold_31 ⟨(Nat.le_of_ble_eq_true rfl), (Nat.le_of_ble_eq_true rfl)⟩) hW (fun r f1 H locs hp hW => ?_)
              obtain ⟨rfl, hp⟩ := hp
              rw [rg_ix (n := 9) (by decide) (by decide) (by decide)] at hp
              rcases hp with ⟨rfl, hp⟩ | ⟨rfl, hp⟩
              · obtain ⟨n, hn, rfl⟩ := hp
                refine lv_if_ne (tgt := 39) hx hb dX12_hold_34 (by decide) (fun c9 => ?_) (fun c9 => ?_)
                · refine lv_aload_n hx hb dX12_hold_39 rfl (lv_at hl 0 rfl) ?_
                  refine lv_iload_n hx hb dX12_hold_40 rfl (lv_at hl 2 rfl) ?_
                  refine lv_iload_n hx hb dX12_hold_41 rfl (lv_at hl 3 rfl) ?_
                  refine lv_iload hx hb dX12_hold_42 (lv_at hl 4 rfl) ?_
                  refine lv_i2l hx hb dX12_hold_44 rfl ?_
                  refine rl_calliQ (rl_runV (b := m) (As := [.int (nI (k)), .int (nI (v)), .long ((nI (n)).toInt64)]) (rest := []) hC hW (cR_constantBy l D t A _ z m I L F hR T hTc k v hk hv _) cs_X12_129 im_X12_constantBy sl_X12_constantBy hR.1 rfl ⟨(Nat.le_of_ble_eq_true rfl), (Nat.le_of_ble_eq_true rfl)⟩ rfl hl.1 rfl (Nat.le_of_ble_eq_true rfl) dX12_hold_45 ⟨(Nat.le_of_ble_eq_true rfl), (Nat.le_of_ble_eq_true rfl)⟩) hW (fun r f1 H locs hp hW => ?_)
                  obtain ⟨rfl, hp⟩ := hp
                  rcases hp with ⟨i, hi, rfl, he, hfst⟩ | ⟨rfl, hp⟩
                  · have h10 := (hTc.1 (3 * k + v) (by omega)).2
                    have hnm := hTc.2.1 (3 * k + v) i (by omega) hi
                    refine lv_istore (lv' := [(5, .int (nI (10 * (3 * k + v) + i))), (0, .ref (m)), (1, .int (nI (p0))), (2, .int (nI (k))), (3, .int (nI (v))), (4, .int (nI (n)))]) hx hb dX12_hold_48 hl (by decide) rfl (fun ls hl => ?_)
                    refine lv_iload hx hb dX12_hold_50 (lv_at hl 0 rfl) ?_
                    refine lv_if_ge (tgt := 58) hx hb dX12_hold_52 (by decide) (fun c9 => ?_) (fun c9 => ?_)
                    · refine lv_aload_n hx hb dX12_hold_58 rfl (lv_at hl 1 rfl) ?_
                      refine rl_get (v := .ref (m + 18)) hC hW fl_X12_66 hR.1 rfl dX12_hold_59 ?_
                      refine lv_iload_n hx hb dX12_hold_62 rfl (lv_at hl 2 rfl) ?_
                      refine lv_iload hx hb dX12_hold_63 (lv_at hl 0 rfl) ?_
                      refine rl_iast_n (g := I 19) hC hW hR.a19 (by omega) (by decide) dX12_hold_65 (fun H locs hW => ?_)
                      have hR := hR.s19 (upd (I 19) (p0) ((nI (10 * (3 * k + v) + i))))
                      refine lv_iload hx hb dX12_hold_66 (lv_at hl 0 rfl) ?_
                      refine lv_bipush (v := (nI (10))) hx hb dX12_hold_68 (by decide) ?_
                      refine lv_irem hx hb dX12_hold_70 (by decide) ?_
                      refine rl_topn (y := nI (i)) (by rw [pk_rem (by omega) (by decide) (by decide)]; congr 1; omega) ?_
                      exact rl_iret hC hW hr hlk (Nat.le_refl _) (Nat.le_refl _) ⟨_, rfl, rfl, rfl, ρ, κ, gX G 0 (va_up (G.2.2.2 0) p0 (hcon (10 * (3 * k + v) + i))), (by simp only [f_hold, ob, pu_ix_s hp0 (by decide), pu_ix_s hk (by decide), pu_ix_s hv (by decide), pu_ix_s hn (by decide), pu_find_s (g := fun i => T 1 (10 * (3 * k + v) + i)) hfst he hi]), by omega, by omega, ⟨_, _, _, hR, hTc, hTp, hTk, hGW.pl (show 10 * (3 * k + v) + i < 60 by omega), hGr, hGd, hGp.pl rfl, hGt, hGc, hF11, hF14⟩⟩ dX12_hold_71
                    · exact absurd (nI_pos' (by omega)) c9
                  · refine lv_istore (lv' := [(5, .int (-3)), (0, .ref (m)), (1, .int (nI (p0))), (2, .int (nI (k))), (3, .int (nI (v))), (4, .int (nI (n)))]) hx hb dX12_hold_48 hl (by decide) rfl (fun ls hl => ?_)
                    refine lv_iload hx hb dX12_hold_50 (lv_at hl 0 rfl) ?_
                    refine lv_if_ge (tgt := 58) hx hb dX12_hold_52 (by decide) (fun c9 => ?_) (fun c9 => ?_)
                    · exact absurd c9 (by decide)
                    · refine lv_bipush (v := (-3)) hx hb dX12_hold_55 (by decide) ?_
                      exact rl_iret hC hW hr hlk (Nat.le_refl _) (Nat.le_refl _) ⟨_, rfl, rfl, rfl, ρ, κ, G, (by simp only [f_hold, ob, pu_ix_s hp0 (by decide), pu_ix_s hk (by decide), pu_ix_s hv (by decide), pu_ix_s hn (by decide), pu_find_n (g := fun i => T 1 (10 * (3 * k + v) + i)) hp]), by omega, by omega, ⟨_, _, _, hR, hTc, hTp, hTk, hGW, hGr, hGd, hGp, hGt, hGc, hF11, hF14⟩⟩ dX12_hold_57
                · exact absurd c9 (by decide)
              · have hq := hp
                refine lv_if_ne (tgt := 39) hx hb dX12_hold_34 (by decide) (fun c9 => ?_) (fun c9 => ?_)
                · exact absurd rfl c9
                · refine lv_iconst (v := (-1)) hx hb dX12_hold_37 (by decide) ?_
                  exact rl_iret hC hW hr hlk (Nat.le_refl _) (Nat.le_refl _) ⟨_, rfl, rfl, rfl, ρ, κ, G, (by simp only [f_hold, ob, pu_ix_s hp0 (by decide), pu_ix_s hk (by decide), pu_ix_s hv (by decide), pu_ix_n (n := 10) (by decide) hq]), by omega, by omega, ⟨_, _, _, hR, hTc, hTp, hTk, hGW, hGr, hGd, hGp, hGt, hGc, hF11, hF14⟩⟩ dX12_hold_38
          · have hq := hp
            refine lv_if_eq (tgt := 37) hx hb dX12_hold_21 (by decide) (fun c9 => ?_) (fun c9 => ?_)
            · refine lv_iconst (v := (-1)) hx hb dX12_hold_37 (by decide) ?_
              exact rl_iret hC hW hr hlk (Nat.le_refl _) (Nat.le_refl _) ⟨_, rfl, rfl, rfl, ρ, κ, G, (by simp only [f_hold, ob, pu_ix_s hp0 (by decide), pu_ix_s hk (by decide), pu_ix_n (n := 3) (by decide) hq]), by omega, by omega, ⟨_, _, _, hR, hTc, hTp, hTk, hGW, hGr, hGd, hGp, hGt, hGc, hF11, hF14⟩⟩ dX12_hold_38
            · exact absurd rfl c9
      · have hq := hp
        refine lv_if_eq (tgt := 37) hx hb dX12_hold_14 (by decide) (fun c9 => ?_) (fun c9 => ?_)
        · refine lv_iconst (v := (-1)) hx hb dX12_hold_37 (by decide) ?_
          exact rl_iret hC hW hr hlk (Nat.le_refl _) (Nat.le_refl _) ⟨_, rfl, rfl, rfl, ρ, κ, G, (by simp only [f_hold, ob, pu_ix_s hp0 (by decide), pu_ix_n (n := 2) (by decide) hq]), by omega, by omega, ⟨_, _, _, hR, hTc, hTp, hTk, hGW, hGr, hGd, hGp, hGt, hGc, hF11, hF14⟩⟩ dX12_hold_38
        · exact absurd rfl c9
  · have hq := hp
    refine lv_if_eq (tgt := 37) hx hb dX12_hold_4 (by decide) (fun c9 => ?_) (fun c9 => ?_)
    · refine lv_iconst (v := (-1)) hx hb dX12_hold_37 (by decide) ?_
      exact rl_iret hC hW hr hlk (Nat.le_refl _) (Nat.le_refl _) ⟨_, rfl, rfl, rfl, ρ, κ, G, (by simp only [f_hold, ob, pu_ix_n (n := 10) (by decide) hq]), by omega, by omega, ⟨_, _, _, hR, hTc, hTp, hTk, hGW, hGr, hGd, hGp, hGt, hGc, hF11, hF14⟩⟩ dX12_hold_38
    · exact absurd rfl c9
