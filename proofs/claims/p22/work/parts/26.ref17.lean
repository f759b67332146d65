
section ENU
variable {T : Nat → Nat → Nat} {w d n : Nat} {D : pD} {q : pQ} {SD SD' : Nat → pD} {SL SL' : Nat → Nat} {SI SI' : Nat → Option Nat} {FIN : pHd × pQ}
theorem en_n (hD : D = none) (h : q_bad q = 0) : q_end T D q = (none, q_up q (q_dp q - 1)) := by subst hD; unfold q_end; rw [if_pos h]
theorem en_w {j : Nat} {N : Nat → Int64} {X : Nat → pHd} (hD : D = some (j, N, X)) (h : q_bad q = 0) (hw : pu_why T (q_G q) j N X ≠ 0) : q_end T D q = (none, q_fail (pu_why T (q_G q) j N X) q) := by
  subst hD
  unfold q_end
  rw [if_pos h]
  show (if pu_why T (q_G q) j N X = 0 then _ else _) = _
  rw [if_neg hw]
theorem en_m {j : Nat} {N : Nat → Int64} {X : Nat → pHd} (hD : D = some (j, N, X)) (h : q_bad q = 0) (hw : pu_why T (q_G q) j N X = 0) : q_end T D q = (hrec (q_kap q), q_made T q j N X) := by
  subst hD
  unfold q_end
  rw [if_pos h]
  show (if pu_why T (q_G q) j N X = 0 then _ else _) = _
  rw [if_pos hw]
theorem rs_0 : q_res T w SD SL SI 0 q = q_end T (q_parts T w (q_rec T w (6 - (0 + 1))) (SL 0) (SD 0) q).1 (q_parts T w (q_rec T w (6 - (0 + 1))) (SL 0) (SD 0) q).2 := rfl
theorem ct_b2 {r : pHd} (h : q_bad q ≠ 0) : (q_cont T w SD SL SI d r q).2 = q := by
  cases d with
  | zero => rfl
  | succ d => rw [q_cont, if_neg h]
theorem rp_next {a' : Nat} {la' : Int32} {bd' d' ρ' κ' : Nat} {G' : pG} (h0 : q_bad q = 0) (hn : SL d = n + 1) (hrel : rp_rel T w d SD (va_up SL d n) SI q a' la' bd' d' ρ' κ' G' SD' SL' SI') (hF : q_res T w SD SL SI d q = FIN) : (bd' ≠ 0 → FIN.2 = (a', la', bd', d', ρ', κ', G')) ∧ (bd' = 0 → ∀ dd, d' = dd + 1 → q_res T w SD' SL' SI' dd (a', la', bd', d', ρ', κ', G') = FIN) := by
  rcases hrel with ⟨D', hpt, h1⟩ | ⟨hb, hd, p, b, kd, n2, q4, hpt, hre, rfl, rfl, rfl⟩
  · have e := rs_part (SI := SI) h0 hn (T := T) (w := w) (SD := SD)
    rw [hpt, hF] at e
    refine ⟨fun hb => ?_, fun hb dd hdd => ?_⟩
    · rw [e]
      exact congrArg Prod.snd (rs_b (q := (a', la', bd', d', ρ', κ', G')) hb)
    · obtain ⟨e1, e2, e3, e4⟩ := h1 hb
      obtain rfl : d = dd := by omega
      rw [e2, e3, e4]
      exact e.symm
  · refine ⟨fun h => absurd hb h, fun _ dd hdd => ?_⟩
    obtain rfl : d + 1 = dd := by omega
    subst hb
    subst hd
    rw [← hF]
    exact (rs_push h0 hn hpt hre).symm
theorem en_next {h : pHd} {q2 : pQ} (hn : SL d = 0) (hen : q_end T (SD d) q = (h, q2)) (hF : q_res T w SD SL SI d q = FIN) : q_cont T w SD SL SI d h q2 = FIN := by
  rw [rs_end hn, hen] at hF
  exact hF
end ENU
theorem rg_left {v : Int64} (h : 0 < v) : (v - 1).toInt.toNat + 1 = v.toInt.toNat := by
  rw [Int64.lt_iff_toInt_lt, show (0 : Int64).toInt = 0 by decide] at h
  have h1 := Int64.toInt_lt v
  rw [Int64.toInt_sub, show (1 : Int64).toInt = 1 by decide, Int.bmod_eq_of_le (by omega) (by omega)]
  omega
theorem rg_left0 {v : Int64} (h : ¬ 0 < v) : v.toInt.toNat = 0 := by
  rw [Int64.lt_iff_toInt_lt, show (0 : Int64).toInt = 0 by decide] at h
  omega
def rf_mr (bd a d : Nat) : Nat := if bd = 0 then 2 * (250 - a) + d + 1 else 0
theorem RQ.lim {t : Nat → ClassId} {f : rl_M} {m : Nat} {T : Nat → Nat → Nat} {w ρ0 κ0 : Nat} {G0 : pG} {a : Nat} {la : Int32} {bd d ρ κ : Nat} {G : pG} {e j : Nat} {SD : Nat → pD} {SL : Nat → Nat} {SI : Nat → Option Nat} (h : RQ t f m T w ρ0 κ0 G0 a la bd d ρ κ G e j SD SL SI) : a ≤ 250 := by
  obtain ⟨I, L, F, hR, hTc, hTp, hTk, hGW, hGr, hGd, hGp, hGt, hGc, hF11, hF14, hF44, hF41, hF42, hF43, hF45, hN, hSI⟩ := h
  have h1 := hN.1
  have h2 := hGW.2.2.2.2
  omega

set_option maxHeartbeats 4000000 in
set_option maxRecDepth 100000 in
theorem cR_endRecord (l : Launch) (D : va_G) (t : Nat → ClassId) (A : Nat → Prop) (f : rl_M) (z : Nat) (m : Nat) (T : Nat → Nat → Nat) (w ρ0 κ0 : Nat) (G0 : pG) (a : Nat) (la : Int32) (d ρ κ : Nat) (G : pG) (SD : Nat → pD) (SL : Nat → Nat) (SI : Nat → Option Nat) (hQ : RQ t f m T w ρ0 κ0 G0 a la 0 (d + 1) ρ κ G (d + 1) d SD SL SI) (hB : ρ0 + 84 ≤ 43100) (hK : κ0 + 51 ≤ 26200) (hp1 : 5 * (κ - κ0) + 5 * (d + 1) ≤ a + 3) (hp2 : 3 * (ρ - ρ0) ≤ a) : rl_Met l yX12_endRecord (.code yX12_endRecord cX12_endRecord 2 (some FieldType.int)) (rl_rm 3 0 0) D t A f z [.ref (m)] (rl_qi z fun r f1 => ∃ (κ' : Nat) (G' : pG) (bd' d' j' : Nat) (SD' : Nat → pD) (h : pHd), q_end T (SD d) (a, la, 0, d + 1, ρ, κ, G) = (h, (a, la, bd', d', ρ, κ', G')) ∧ RQ t f1 m T w ρ0 κ0 G0 a la bd' d' ρ κ' G' d' j' SD' SL SI ∧ κ ≤ κ' ∧ r = enc h ∧ (bd' = 0 → d' = d ∧ hok ρ κ' h ∧ 5 * (κ' - κ0) + 5 * d' ≤ a + 3 ∧ (0 < d → j' + 1 = d ∧ SD' = va_up SD (d - 1) (q_put (SD (d - 1)) (SI (d - 1)) h)))) := by
  obtain ⟨I, L, F, hR, hTc, hTp, hTk, hGW, hGr, hGd, hGp, hGt, hGc, hF11, hF14, hF44, hF41, hF42, hF43, hF45, hN, hSI⟩ := hQ
  obtain ⟨hlv, hd6, hw3, hρ0, hκ0, hbd, hgl⟩ := id hN
  have hl250 := hGW.2.2.2.2
  refine rl_begin (own := RX12) (lv := [(0, .ref (m))]) (by decide +kernel) rfl (Nat.le_of_ble_eq_true rfl) rfl fun p e s m0 args below meth c ls H locs hC hr hlk hnm hW hl hx hb => ?_
  obtain ⟨hfr, hsl⟩ := (hSI rfl).1 d (by omega)
  rcases hD : SD d with _ | Dd
  · rw [hD] at hfr
    have hsh : I 46 d = -3 := hfr
    refine lv_iconst (v := (-1)) hx hb dX12_endRecord_0 (by decide) ?_
    refine lv_istore_n (lv' := [(1, .int (-1)), (0, .ref (m))]) hx hb dX12_endRecord_1 rfl hl (by decide) rfl (fun ls hl => ?_)
    refine lv_aload_n hx hb dX12_endRecord_2 rfl (lv_at hl 1 rfl) ?_
    refine rl_get (v := .ref (m + 30)) hC hW fl_X12_106 hR.1 rfl dX12_endRecord_3 ?_
    refine lv_aload_n hx hb dX12_endRecord_6 rfl (lv_at hl 1 rfl) ?_
    refine rl_get (v := .int (F 45)) hC hW fl_X12_251 hR.1 rfl dX12_endRecord_7 ?_
    refine rl_topn (y := nI (d + 1)) (hF45) ?_
    refine lv_iconst (v := (nI (1))) hx hb dX12_endRecord_10 (by decide) ?_
    refine lv_isub hx hb dX12_endRecord_11 ?_
    refine rl_topn (rg_sub (c := d) (by omega)) ?_
    refine rl_iald_n (g := I 46) hC hW hR.a46 (by omega) (by decide) dX12_endRecord_12 ?_
    refine rl_topn (hsh) ?_
    refine lv_if_lt (tgt := 52) hx hb dX12_endRecord_13 (by decide) (fun c1 => ?_) (fun c1 => ?_)
    · refine lv_aload_n hx hb dX12_endRecord_52 rfl (lv_at hl 1 rfl) ?_
      refine lv_dup hx hb dX12_endRecord_53 rfl ?_
      refine rl_get (v := .int (F 45)) hC hW fl_X12_251 hR.1 rfl dX12_endRecord_54 ?_
      refine rl_topn (y := nI (d + 1)) (hF45) ?_
      refine lv_iconst (v := (nI (1))) hx hb dX12_endRecord_57 (by decide) ?_
      refine lv_isub hx hb dX12_endRecord_58 ?_
      refine rl_topn (rg_sub (c := d) (by omega)) ?_
      refine rl_put (v := .int (nI (d))) hC hW fp_X12_251 hR.1 (Nat.le_of_ble_eq_true rfl) rfl rfl dX12_endRecord_59 (fun H locs hW => ?_)
      have hR := hR.f45 (nI (d))
      refine lv_aload_n hx hb dX12_endRecord_62 rfl (lv_at hl 1 rfl) ?_
      refine rl_get (v := .int (nI (d))) hC hW fl_X12_251 hR.1 rfl dX12_endRecord_63 ?_
      refine lv_if_le (tgt := 107) hx hb dX12_endRecord_66 (by decide) (fun c7 => ?_) (fun c7 => ?_)
      · have hd0 : d = 0 := by have := rg_le (a := d) (b := 0) c7 (by omega) (by decide); omega
        refine lv_iload_n hx hb dX12_endRecord_107 rfl (lv_at hl 0 rfl) ?_
        exact rl_iret hC hW hr hlk (Nat.le_refl _) (Nat.le_refl _) ⟨_, rfl, rfl, rfl, κ, G, 0, d, d - 1, SD, none, (en_n rfl rfl), ⟨_, _, _, hR, hTc, hTp, hTk, hGW, hGr, hGd, hGp, hGt, hGc, hF11, hF14, hF44, hF41, hF42, hF43, rfl, ⟨hlv, by omega, by omega, by omega, by omega, by omega, hgl⟩, (fun _ => (hSI rfl).pop (by omega) (by omega))⟩, by omega, rfl, fun _ => ⟨rfl, trivial, by omega, fun q => absurd q (by omega)⟩⟩ dX12_endRecord_108
      · have hd0 : d ≠ 0 := fun q => c7 (by rw [q]; decide)
        obtain ⟨dd, rfl⟩ : ∃ dd, d = dd + 1 := ⟨d - 1, by omega⟩
        have hin := (hSI rfl).2 dd (by omega)
        rcases hin with hin | hin
        · obtain ⟨hsn, hin⟩ := hin
          refine lv_aload_n hx hb dX12_endRecord_69 rfl (lv_at hl 1 rfl) ?_
          refine rl_get (v := .ref (m + 32)) hC hW fl_X12_112 hR.1 rfl dX12_endRecord_70 ?_
          refine lv_aload_n hx hb dX12_endRecord_73 rfl (lv_at hl 1 rfl) ?_
          refine rl_get (v := .int (nI (dd + 1))) hC hW fl_X12_251 hR.1 rfl dX12_endRecord_74 ?_
          refine lv_iconst (v := (nI (1))) hx hb dX12_endRecord_77 (by decide) ?_
          refine lv_isub hx hb dX12_endRecord_78 ?_
          refine rl_topn (rg_sub (c := dd) (by omega)) ?_
          refine rl_iald_n (g := I 48) hC hW hR.a48 (by omega) (by decide) dX12_endRecord_79 ?_
          refine rl_topn (hin) ?_
          refine lv_if_lt (tgt := 107) hx hb dX12_endRecord_80 (by decide) (fun c_1 => ?_) (fun c_1 => ?_)
          · refine lv_iload_n hx hb dX12_endRecord_107 rfl (lv_at hl 0 rfl) ?_
            exact rl_iret hC hW hr hlk (Nat.le_refl _) (Nat.le_refl _) ⟨_, rfl, rfl, rfl, κ, G, 0, dd + 1, dd, SD, none, (en_n rfl rfl), ⟨_, _, _, hR, hTc, hTp, hTk, hGW, hGr, hGd, hGp, hGt, hGc, hF11, hF14, hF44, hF41, hF42, hF43, rfl, ⟨hlv, by omega, by omega, by omega, by omega, by omega, hgl⟩, (fun _ => (hSI rfl).pop (by omega) (by omega))⟩, by omega, rfl, fun _ => ⟨rfl, trivial, by omega, fun _ => ⟨rfl, by show SD = va_up SD dd (q_put (SD dd) (SI dd) _); rw [hsn, pn_p, va_up_same]⟩⟩⟩ dX12_endRecord_108
          · first | exact absurd c_1 (by decide) | exact absurd (by decide) c_1
        · obtain ⟨p, hp5, hsn, hin⟩ := hin
          refine lv_aload_n hx hb dX12_endRecord_69 rfl (lv_at hl 1 rfl) ?_
          refine rl_get (v := .ref (m + 32)) hC hW fl_X12_112 hR.1 rfl dX12_endRecord_70 ?_
          refine lv_aload_n hx hb dX12_endRecord_73 rfl (lv_at hl 1 rfl) ?_
          refine rl_get (v := .int (nI (dd + 1))) hC hW fl_X12_251 hR.1 rfl dX12_endRecord_74 ?_
          refine lv_iconst (v := (nI (1))) hx hb dX12_endRecord_77 (by decide) ?_
          refine lv_isub hx hb dX12_endRecord_78 ?_
          refine rl_topn (rg_sub (c := dd) (by omega)) ?_
          refine rl_iald_n (g := I 48) hC hW hR.a48 (by omega) (by decide) dX12_endRecord_79 ?_
          refine rl_topn (hin) ?_
          refine lv_if_lt (tgt := 107) hx hb dX12_endRecord_80 (by decide) (fun c_2 => ?_) (fun c_2 => ?_)
          · exact absurd c_2 (nI_pos (by omega))
          · refine lv_aload_n hx hb dX12_endRecord_83 rfl (lv_at hl 1 rfl) ?_
            refine rl_get (v := .ref (m + 23)) hC hW fl_X12_85 hR.1 rfl dX12_endRecord_84 ?_
            refine lv_iconst (v := (nI (5))) hx hb dX12_endRecord_87 (by decide) ?_
            refine lv_aload_n hx hb dX12_endRecord_88 rfl (lv_at hl 1 rfl) ?_
            refine rl_get (v := .int (nI (dd + 1))) hC hW fl_X12_251 hR.1 rfl dX12_endRecord_89 ?_
            refine lv_imul hx hb dX12_endRecord_92 ?_
            refine rl_topn (pk_mul _ _) ?_
            refine lv_aload_n hx hb dX12_endRecord_93 rfl (lv_at hl 1 rfl) ?_
            refine rl_get (v := .ref (m + 32)) hC hW fl_X12_112 hR.1 rfl dX12_endRecord_94 ?_
            refine lv_aload_n hx hb dX12_endRecord_97 rfl (lv_at hl 1 rfl) ?_
            refine rl_get (v := .int (nI (dd + 1))) hC hW fl_X12_251 hR.1 rfl dX12_endRecord_98 ?_
            refine lv_iconst (v := (nI (1))) hx hb dX12_endRecord_101 (by decide) ?_
            refine lv_isub hx hb dX12_endRecord_102 ?_
            refine rl_topn (rg_sub (c := dd) (by omega)) ?_
            refine rl_iald_n (g := I 48) hC hW hR.a48 (by omega) (by decide) dX12_endRecord_103 ?_
            refine rl_topn (hin) ?_
            refine lv_iadd hx hb dX12_endRecord_104 ?_
            refine rl_topn (nI_add _ _) ?_
            refine lv_iload_n hx hb dX12_endRecord_105 rfl (lv_at hl 0 rfl) ?_
            refine rl_iast_n (g := I 32) hC hW hR.a32 (by omega) (by decide) dX12_endRecord_106 (fun H locs hW => ?_)
            have hR := hR.s32 (upd (I 32) (((5) * (dd + 1)) + (p)) ((-1)))
            refine lv_iload_n hx hb dX12_endRecord_107 rfl (lv_at hl 0 rfl) ?_
            exact rl_iret hC hW hr hlk (Nat.le_refl _) (Nat.le_refl _) ⟨_, rfl, rfl, rfl, κ, G, 0, dd + 1, dd, va_up SD dd (q_put (SD dd) (some p) (none)), none, (en_n rfl rfl), ⟨_, _, _, hR, hTc, hTp, hTk, hGW, hGr, hGd, hGp, hGt, hGc, hF11, hF14, hF44, hF41, hF42, hF43, rfl, ⟨hlv, by omega, by omega, by omega, by omega, by omega, hgl⟩, (fun _ => ((hSI rfl).pop (by omega) (by omega)).put hp5 rfl trivial)⟩, by omega, rfl, fun _ => ⟨rfl, trivial, by omega, fun _ => ⟨rfl, by show _ = va_up SD dd (q_put (SD dd) (SI dd) _); rw [hsn]⟩⟩⟩ dX12_endRecord_108
    · exact absurd (by decide) c1
  · obtain ⟨j, N, X⟩ := Dd
    rw [hD] at hfr
    obtain ⟨hj, hsh, hcn⟩ := hfr
    have h5 := (hTp.1 j hj).2
    refine lv_iconst (v := (-1)) hx hb dX12_endRecord_0 (by decide) ?_
    refine lv_istore_n (lv' := [(1, .int (-1)), (0, .ref (m))]) hx hb dX12_endRecord_1 rfl hl (by decide) rfl (fun ls hl => ?_)
    refine lv_aload_n hx hb dX12_endRecord_2 rfl (lv_at hl 1 rfl) ?_
    refine rl_get (v := .ref (m + 30)) hC hW fl_X12_106 hR.1 rfl dX12_endRecord_3 ?_
    refine lv_aload_n hx hb dX12_endRecord_6 rfl (lv_at hl 1 rfl) ?_
    refine rl_get (v := .int (F 45)) hC hW fl_X12_251 hR.1 rfl dX12_endRecord_7 ?_
    refine rl_topn (y := nI (d + 1)) (hF45) ?_
    refine lv_iconst (v := (nI (1))) hx hb dX12_endRecord_10 (by decide) ?_
    refine lv_isub hx hb dX12_endRecord_11 ?_
    refine rl_topn (rg_sub (c := d) (by omega)) ?_
    refine rl_iald_n (g := I 46) hC hW hR.a46 (by omega) (by decide) dX12_endRecord_12 ?_
    refine rl_topn (hsh) ?_
    refine lv_if_lt (tgt := 52) hx hb dX12_endRecord_13 (by decide) (fun c1 => ?_) (fun c1 => ?_)
    · exact absurd c1 (nI_pos (by omega))
    · refine lv_aload_n hx hb dX12_endRecord_16 rfl (lv_at hl 1 rfl) ?_
      refine lv_aload_n hx hb dX12_endRecord_17 rfl (lv_at hl 1 rfl) ?_
      refine rl_get (v := .ref (m + 30)) hC hW fl_X12_106 hR.1 rfl dX12_endRecord_18 ?_
      refine lv_aload_n hx hb dX12_endRecord_21 rfl (lv_at hl 1 rfl) ?_
      refine rl_get (v := .int (F 45)) hC hW fl_X12_251 hR.1 rfl dX12_endRecord_22 ?_
      refine rl_topn (y := nI (d + 1)) (hF45) ?_
      refine lv_iconst (v := (nI (1))) hx hb dX12_endRecord_25 (by decide) ?_
      refine lv_isub hx hb dX12_endRecord_26 ?_
      refine rl_topn (rg_sub (c := d) (by omega)) ?_
      refine rl_iald_n (g := I 46) hC hW hR.a46 (by omega) (by decide) dX12_endRecord_27 ?_
      refine rl_topn (hsh) ?_
      refine lv_iconst (v := (nI (5))) hx hb dX12_endRecord_28 (by decide) ?_
      refine lv_aload_n hx hb dX12_endRecord_29 rfl (lv_at hl 1 rfl) ?_
      refine rl_get (v := .int (F 45)) hC hW fl_X12_251 hR.1 rfl dX12_endRecord_30 ?_
      refine rl_topn (y := nI (d + 1)) (hF45) ?_
      refine lv_imul hx hb dX12_endRecord_33 ?_
      refine rl_topn (pk_mul _ _) ?_
      refine rl_calliQ (rl_runV (b := m) (As := [.int (nI (j)), .int (nI ((5) * (d + 1)))]) (rest := []) hC hW (cR_record l D t A _ z m I L F hR T ρ κ G (by omega) (by omega) hTc hTp hGW hGr hGd hTk hF14 j (5 * (d + 1)) hj (by omega) N X (fun q hq => (hcn q (by omega)).1) (fun q hq => (hcn q (by omega)).2)) cs_X12_183 im_X12_record sl_X12_record hR.1 rfl ⟨(Nat.le_of_ble_eq_true rfl), (Nat.le_of_ble_eq_true rfl)⟩ rfl hl.1 rfl (Nat.le_of_ble_eq_true rfl) dX12_endRecord_34 ⟨(Nat.le_of_ble_eq_true rfl), (Nat.le_of_ble_eq_true rfl)⟩) hW (fun r f1 H locs hp hW => ?_)
      rcases hp with ⟨rfl, hne0, er⟩ | ⟨rfl, he0, hR⟩
      · have hW8 := pu_why_le T G j N X
        have hneg := rg_neg10' hW8 er
        refine lv_istore_n (lv' := [(1, .int (r)), (0, .ref (m))]) hx hb dX12_endRecord_37 rfl hl (by decide) rfl (fun ls hl => ?_)
        refine lv_iload_n hx hb dX12_endRecord_38 rfl (lv_at hl 0 rfl) ?_
        refine lv_if_ge (tgt := 52) hx hb dX12_endRecord_39 (by decide) (fun c3 => ?_) (fun c3 => ?_)
        · exact absurd c3 hneg
        · refine lv_aload_n hx hb dX12_endRecord_42 rfl (lv_at hl 1 rfl) ?_
          refine lv_bipush (v := (-10)) hx hb dX12_endRecord_43 (by decide) ?_
          refine lv_iload_n hx hb dX12_endRecord_45 rfl (lv_at hl 0 rfl) ?_
          refine lv_isub hx hb dX12_endRecord_46 ?_
          refine lv_topi (fun x_3 ex_3 => ?_)
          refine rl_topn (rg_m10' hW8 er ex_3) ?_
          refine rl_callvQ (rl_runV (b := m) (As := [.int (nI (pu_why T G j N X))]) (rest := []) hC hW (cR_fails l D t A _ z m T w ρ0 κ0 G0 a la 0 (d + 1) ρ κ G (d + 1) d SD SL SI ⟨_, _, _, hR, hTc, hTp, hTk, hGW, hGr, hGd, hGp, hGt, hGc, hF11, hF14, hF44, hF41, hF42, hF43, hF45, hN, hSI⟩ (pu_why T G j N X) (by omega) hW8) cs_X12_247 im_X12_fails sl_X12_fails hR.1 rfl ⟨(Nat.le_of_ble_eq_true rfl), (Nat.le_of_ble_eq_true rfl)⟩ rfl hl.1 rfl (Nat.le_of_ble_eq_true rfl) dX12_endRecord_47 ⟨(Nat.le_of_ble_eq_true rfl), (Nat.le_of_ble_eq_true rfl)⟩) hW (fun f1 H locs hp hW => ?_)
          obtain ⟨bd4, hfe4, hne, hQ⟩ := hp
          refine lv_iconst (v := (-1)) hx hb dX12_endRecord_50 (by decide) ?_
          exact rl_iret hC hW hr hlk (Nat.le_refl _) (Nat.le_refl _) ⟨_, rfl, rfl, rfl, κ, G, bd4, d + 1, d, SD, none, (en_w (T := T) (q := (a, la, 0, d + 1, ρ, κ, G)) rfl rfl hne0).trans (by rw [← hfe4]), hQ, Nat.le_refl _, rfl, fun q => absurd q hne⟩ dX12_endRecord_51
      · refine lv_istore_n (lv' := [(1, .int (nI (1000000 + κ))), (0, .ref (m))]) hx hb dX12_endRecord_37 rfl hl (by decide) rfl (fun ls hl => ?_)
        refine lv_iload_n hx hb dX12_endRecord_38 rfl (lv_at hl 0 rfl) ?_
        refine lv_if_ge (tgt := 52) hx hb dX12_endRecord_39 (by decide) (fun c3 => ?_) (fun c3 => ?_)
        · refine lv_aload_n hx hb dX12_endRecord_52 rfl (lv_at hl 1 rfl) ?_
          refine lv_dup hx hb dX12_endRecord_53 rfl ?_
          refine rl_get (v := .int (F 45)) hC hW fl_X12_251 hR.1 rfl dX12_endRecord_54 ?_
          refine rl_topn (y := nI (d + 1)) (hF45) ?_
          refine lv_iconst (v := (nI (1))) hx hb dX12_endRecord_57 (by decide) ?_
          refine lv_isub hx hb dX12_endRecord_58 ?_
          refine rl_topn (rg_sub (c := d) (by omega)) ?_
          refine rl_put (v := .int (nI (d))) hC hW fp_X12_251 hR.1 (Nat.le_of_ble_eq_true rfl) rfl rfl dX12_endRecord_59 (fun H locs hW => ?_)
          have hR := hR.f45 (nI (d))
          refine lv_aload_n hx hb dX12_endRecord_62 rfl (lv_at hl 1 rfl) ?_
          refine rl_get (v := .int (nI (d))) hC hW fl_X12_251 hR.1 rfl dX12_endRecord_63 ?_
          refine lv_if_le (tgt := 107) hx hb dX12_endRecord_66 (by decide) (fun c7 => ?_) (fun c7 => ?_)
          · have hd0 : d = 0 := by have := rg_le (a := d) (b := 0) c7 (by omega) (by decide); omega
            refine lv_iload_n hx hb dX12_endRecord_107 rfl (lv_at hl 0 rfl) ?_
            exact rl_iret hC hW hr hlk (Nat.le_refl _) (Nat.le_refl _) ⟨_, rfl, rfl, rfl, κ + 1, pu_new T κ G j N X, 0, d, d - 1, SD, hrec κ, (en_m rfl rfl he0), ⟨_, _, _, hR, hTc, hTp, hTk, (hGW.new hj (fun y hy => (hTp.1 y hy).2) (fun q hq => (hcn q (by omega)).2.2) he0), hGr, (RGd.new (j := j) (N := N) (X := X) (a0 := 5 * (d + 1)) (a32 := I 32) (b31 := L 31) hGd hGW (fun y hy => (hTp.1 y hy).2) (fun q hq => (hcn q (by omega)).1) (fun q hq => (hcn q (by omega)).2.1)), hGp, hGt, (RGc.new (T := T) (κ := κ) (j := j) (N := N) (X := X) (F := F) (v := nI (κ + 1)) hGc), hF11, rfl, hF44, hF41, hF42, hF43, rfl, ⟨hlv, by omega, by omega, by omega, by omega, by omega, (hgl.tr (gle.new hκ0) (Nat.le_refl _) (Nat.le_refl _))⟩, (fun _ => ((hSI rfl).mono (Nat.le_refl _) (Nat.le_succ _)).pop (by omega) (by omega))⟩, by omega, rfl, fun _ => ⟨rfl, (show κ < κ + 1 by omega), by omega, fun q => absurd q (by omega)⟩⟩ dX12_endRecord_108
          · have hd0 : d ≠ 0 := fun q => c7 (by rw [q]; decide)
            obtain ⟨dd, rfl⟩ : ∃ dd, d = dd + 1 := ⟨d - 1, by omega⟩
            have hin := (hSI rfl).2 dd (by omega)
            rcases hin with hin | hin
            · obtain ⟨hsn, hin⟩ := hin
              refine lv_aload_n hx hb dX12_endRecord_69 rfl (lv_at hl 1 rfl) ?_
              refine rl_get (v := .ref (m + 32)) hC hW fl_X12_112 hR.1 rfl dX12_endRecord_70 ?_
              refine lv_aload_n hx hb dX12_endRecord_73 rfl (lv_at hl 1 rfl) ?_
              refine rl_get (v := .int (nI (dd + 1))) hC hW fl_X12_251 hR.1 rfl dX12_endRecord_74 ?_
              refine lv_iconst (v := (nI (1))) hx hb dX12_endRecord_77 (by decide) ?_
              refine lv_isub hx hb dX12_endRecord_78 ?_
              refine rl_topn (rg_sub (c := dd) (by omega)) ?_
              refine rl_iald_n (g := I 48) hC hW hR.a48 (by omega) (by decide) dX12_endRecord_79 ?_
              refine rl_topn (hin) ?_
              refine lv_if_lt (tgt := 107) hx hb dX12_endRecord_80 (by decide) (fun c_4 => ?_) (fun c_4 => ?_)
              · refine lv_iload_n hx hb dX12_endRecord_107 rfl (lv_at hl 0 rfl) ?_
                exact rl_iret hC hW hr hlk (Nat.le_refl _) (Nat.le_refl _) ⟨_, rfl, rfl, rfl, κ + 1, pu_new T κ G j N X, 0, dd + 1, dd, SD, hrec κ, (en_m rfl rfl he0), ⟨_, _, _, hR, hTc, hTp, hTk, (hGW.new hj (fun y hy => (hTp.1 y hy).2) (fun q hq => (hcn q (by omega)).2.2) he0), hGr, (RGd.new (j := j) (N := N) (X := X) (a0 := 5 * (dd + 1 + 1)) (a32 := I 32) (b31 := L 31) hGd hGW (fun y hy => (hTp.1 y hy).2) (fun q hq => (hcn q (by omega)).1) (fun q hq => (hcn q (by omega)).2.1)), hGp, hGt, (RGc.new (T := T) (κ := κ) (j := j) (N := N) (X := X) (F := F) (v := nI (κ + 1)) hGc), hF11, rfl, hF44, hF41, hF42, hF43, rfl, ⟨hlv, by omega, by omega, by omega, by omega, by omega, (hgl.tr (gle.new hκ0) (Nat.le_refl _) (Nat.le_refl _))⟩, (fun _ => ((hSI rfl).mono (Nat.le_refl _) (Nat.le_succ _)).pop (by omega) (by omega))⟩, by omega, rfl, fun _ => ⟨rfl, (show κ < κ + 1 by omega), by omega, fun _ => ⟨rfl, by show SD = va_up SD dd (q_put (SD dd) (SI dd) _); rw [hsn, pn_p, va_up_same]⟩⟩⟩ dX12_endRecord_108
              · first | exact absurd c_4 (by decide) | exact absurd (by decide) c_4
            · obtain ⟨p, hp5, hsn, hin⟩ := hin
              refine lv_aload_n hx hb dX12_endRecord_69 rfl (lv_at hl 1 rfl) ?_
              refine rl_get (v := .ref (m + 32)) hC hW fl_X12_112 hR.1 rfl dX12_endRecord_70 ?_
              refine lv_aload_n hx hb dX12_endRecord_73 rfl (lv_at hl 1 rfl) ?_
              refine rl_get (v := .int (nI (dd + 1))) hC hW fl_X12_251 hR.1 rfl dX12_endRecord_74 ?_
              refine lv_iconst (v := (nI (1))) hx hb dX12_endRecord_77 (by decide) ?_
              refine lv_isub hx hb dX12_endRecord_78 ?_
              refine rl_topn (rg_sub (c := dd) (by omega)) ?_
              refine rl_iald_n (g := I 48) hC hW hR.a48 (by omega) (by decide) dX12_endRecord_79 ?_
              refine rl_topn (hin) ?_
              refine lv_if_lt (tgt := 107) hx hb dX12_endRecord_80 (by decide) (fun c_5 => ?_) (fun c_5 => ?_)
              · exact absurd c_5 (nI_pos (by omega))
              · refine lv_aload_n hx hb dX12_endRecord_83 rfl (lv_at hl 1 rfl) ?_
                refine rl_get (v := .ref (m + 23)) hC hW fl_X12_85 hR.1 rfl dX12_endRecord_84 ?_
                refine lv_iconst (v := (nI (5))) hx hb dX12_endRecord_87 (by decide) ?_
                refine lv_aload_n hx hb dX12_endRecord_88 rfl (lv_at hl 1 rfl) ?_
                refine rl_get (v := .int (nI (dd + 1))) hC hW fl_X12_251 hR.1 rfl dX12_endRecord_89 ?_
                refine lv_imul hx hb dX12_endRecord_92 ?_
                refine rl_topn (pk_mul _ _) ?_
                refine lv_aload_n hx hb dX12_endRecord_93 rfl (lv_at hl 1 rfl) ?_
                refine rl_get (v := .ref (m + 32)) hC hW fl_X12_112 hR.1 rfl dX12_endRecord_94 ?_
                refine lv_aload_n hx hb dX12_endRecord_97 rfl (lv_at hl 1 rfl) ?_
                refine rl_get (v := .int (nI (dd + 1))) hC hW fl_X12_251 hR.1 rfl dX12_endRecord_98 ?_
                refine lv_iconst (v := (nI (1))) hx hb dX12_endRecord_101 (by decide) ?_
                refine lv_isub hx hb dX12_endRecord_102 ?_
                refine rl_topn (rg_sub (c := dd) (by omega)) ?_
                refine rl_iald_n (g := I 48) hC hW hR.a48 (by omega) (by decide) dX12_endRecord_103 ?_
                refine rl_topn (hin) ?_
                refine lv_iadd hx hb dX12_endRecord_104 ?_
                refine rl_topn (nI_add _ _) ?_
                refine lv_iload_n hx hb dX12_endRecord_105 rfl (lv_at hl 0 rfl) ?_
                refine rl_iast_n (g := I 32) hC hW hR.a32 (by omega) (by decide) dX12_endRecord_106 (fun H locs hW => ?_)
                have hR := hR.s32 (upd (I 32) (((5) * (dd + 1)) + (p)) ((nI (1000000 + κ))))
                refine lv_iload_n hx hb dX12_endRecord_107 rfl (lv_at hl 0 rfl) ?_
                exact rl_iret hC hW hr hlk (Nat.le_refl _) (Nat.le_refl _) ⟨_, rfl, rfl, rfl, κ + 1, pu_new T κ G j N X, 0, dd + 1, dd, va_up SD dd (q_put (SD dd) (some p) (hrec κ)), hrec κ, (en_m rfl rfl he0), ⟨_, _, _, hR, hTc, hTp, hTk, (hGW.new hj (fun y hy => (hTp.1 y hy).2) (fun q hq => (hcn q (by omega)).2.2) he0), hGr, (RGd.new (j := j) (N := N) (X := X) (a0 := 5 * (dd + 1 + 1)) (a32 := I 32) (b31 := L 31) hGd hGW (fun y hy => (hTp.1 y hy).2) (fun q hq => (hcn q (by omega)).1) (fun q hq => (hcn q (by omega)).2.1)), hGp, hGt, (RGc.new (T := T) (κ := κ) (j := j) (N := N) (X := X) (F := F) (v := nI (κ + 1)) hGc), hF11, rfl, hF44, hF41, hF42, hF43, rfl, ⟨hlv, by omega, by omega, by omega, by omega, by omega, (hgl.tr (gle.new hκ0) (Nat.le_refl _) (Nat.le_refl _))⟩, (fun _ => (((hSI rfl).mono (Nat.le_refl _) (Nat.le_succ _)).pop (by omega) (by omega)).put hp5 rfl (show κ < κ + 1 by omega))⟩, by omega, rfl, fun _ => ⟨rfl, (show κ < κ + 1 by omega), by omega, fun _ => ⟨rfl, by show _ = va_up SD dd (q_put (SD dd) (SI dd) _); rw [hsn]⟩⟩⟩ dX12_endRecord_108
        · exact absurd (nI_pos' (by omega)) c3

set_option maxHeartbeats 4000000 in
set_option maxRecDepth 100000 in
theorem cR_read (l : Launch) (D : va_G) (t : Nat → ClassId) (A : Nat → Prop) (f : rl_M) (z : Nat) (m : Nat) (T : Nat → Nat → Nat) (ρ κ : Nat) (G : pG) (hS : RS t f m T ρ κ G) (hρ : ρ + 84 ≤ 43100) (hκ : κ + 51 ≤ 26200) (x1 x2 : Int32) : rl_Met l yX12_read (.code yX12_read cX12_read 6 (some FieldType.int)) (rl_rm 4 0 0) D t A f z [.ref (m), .int (x1), .int (x2)] (rl_qi z fun r f1 => ∃ ρ' κ' G', f_read T ρ κ G x1 x2 = (r, ρ', κ', G') ∧ ρ' ≤ ρ + 84 ∧ κ' ≤ κ + 51 ∧ RS t f1 m T ρ' κ' G') := by
  obtain ⟨I, L, F, hR, hTc, hTp, hTk, hGW, hGr, hGd, hGp, hGt, hGc, hF11, hF14⟩ := hS
  refine rl_begin (own := RX12) (lv := [(0, .ref (m)), (1, .int (x1)), (2, .int (x2))]) (by decide +kernel) rfl (Nat.le_of_ble_eq_true rfl) rfl fun p e s m0 args below meth c ls H locs hC hr hlk hnm hW hl hx hb => ?_
  refine lv_iload_n hx hb dX12_read_0 rfl (lv_at hl 1 rfl) ?_
  refine rl_calliQ (rl_runS (As := [.int (x1)]) (rest := []) hC hW (cR_isVersion l D t A _ z _) cs_X12_125 sm_X12_isVersion ⟨(Nat.le_of_ble_eq_true rfl), (Nat.le_of_ble_eq_true rfl)⟩ rfl hl.1 rfl (Nat.le_of_ble_eq_true rfl) dX12_read_1 ⟨(Nat.le_of_ble_eq_true rfl), (Nat.le_of_ble_eq_true rfl)⟩) hW (fun r f1 H locs hp hW => ?_)
  obtain ⟨rfl, hp⟩ := hp
  rcases hp with ⟨rfl, hp⟩ | ⟨rfl, hp⟩
  · obtain ⟨v, hv, rfl⟩ := hp
    refine lv_if_eq (tgt := 14) hx hb dX12_read_4 (by decide) (fun c9 => ?_) (fun c9 => ?_)
    · exact absurd c9 (by decide)
    · refine lv_iload_n hx hb dX12_read_7 rfl (lv_at hl 2 rfl) ?_
      refine rl_calliQ (rl_runS (As := [.int (x2)]) (rest := []) hC hW (cR_isPlace l D t A _ z _) cs_X12_148 sm_X12_isPlace ⟨(Nat.le_of_ble_eq_true rfl), (Nat.le_of_ble_eq_true rfl)⟩ rfl hl.1 rfl (Nat.le_of_ble_eq_true rfl) dX12_read_8 ⟨(Nat.le_of_ble_eq_true rfl), (Nat.le_of_ble_eq_true rfl)⟩) hW (fun r f1 H locs hp hW => ?_)
      obtain ⟨rfl, hp⟩ := hp
      rcases hp with ⟨rfl, hp⟩ | ⟨rfl, hp⟩
      · obtain ⟨p0, hp0, rfl⟩ := hp
        refine lv_if_ne (tgt := 16) hx hb dX12_read_11 (by decide) (fun c9 => ?_) (fun c9 => ?_)
        · have hGW0 := hGW
          have h5T : ∀ y, y < 12 → T 2 y ≤ 5 := fun y hy => (hTp.1 y hy).2
          refine lv_aload_n hx hb dX12_read_16 rfl (lv_at hl 0 rfl) ?_
          refine rl_get (v := .int (F 11)) hC hW fl_X12_151 hR.1 rfl dX12_read_17 ?_
          refine rl_topn (y := nI (ρ)) (hF11) ?_
          refine lv_istore_n (lv' := [(3, .int (nI (ρ))), (0, .ref (m)), (1, .int (nI (v))), (2, .int (nI (p0)))]) hx hb dX12_read_20 rfl hl (by decide) rfl (fun ls hl => ?_)
          refine lv_aload_n hx hb dX12_read_21 rfl (lv_at hl 1 rfl) ?_
          refine rl_get (v := .int (F 14)) hC hW fl_X12_177 hR.1 rfl dX12_read_22 ?_
          refine rl_topn (y := nI (κ)) (hF14) ?_
          refine lv_istore (lv' := [(4, .int (nI (κ))), (3, .int (nI (ρ))), (0, .ref (m)), (1, .int (nI (v))), (2, .int (nI (p0)))]) hx hb dX12_read_25 hl (by decide) rfl (fun ls hl => ?_)
          refine lv_aload_n hx hb dX12_read_27 rfl (lv_at hl 2 rfl) ?_
          refine lv_iload_n hx hb dX12_read_28 rfl (lv_at hl 3 rfl) ?_
          refine rl_put (v := .int (nI (v))) hC hW fp_X12_258 hR.1 (Nat.le_of_ble_eq_true rfl) rfl rfl dX12_read_29 (fun H locs hW => ?_)
          have hR := hR.f44 (nI (v))
          refine lv_aload_n hx hb dX12_read_32 rfl (lv_at hl 2 rfl) ?_
          refine lv_iconst (v := (nI (0))) hx hb dX12_read_33 (by decide) ?_
          refine rl_put (v := .int (nI (0))) hC hW fp_X12_241 hR.1 (Nat.le_of_ble_eq_true rfl) rfl rfl dX12_read_34 (fun H locs hW => ?_)
          have hR := hR.f41 (nI (0))
          refine lv_aload_n hx hb dX12_read_37 rfl (lv_at hl 2 rfl) ?_
          refine lv_bipush (v := (-3)) hx hb dX12_read_38 (by decide) ?_
          refine rl_put (v := .int (-3)) hC hW fp_X12_244 hR.1 (Nat.le_of_ble_eq_true rfl) rfl rfl dX12_read_40 (fun H locs hW => ?_)
          have hR := hR.f42 (-3)
          refine lv_aload_n hx hb dX12_read_43 rfl (lv_at hl 2 rfl) ?_
          refine lv_iconst (v := (nI (0))) hx hb dX12_read_44 (by decide) ?_
          refine rl_put (v := .int (nI (0))) hC hW fp_X12_238 hR.1 (Nat.le_of_ble_eq_true rfl) rfl rfl dX12_read_45 (fun H locs hW => ?_)
          have hR := hR.f43 (nI (0))
          refine lv_aload_n hx hb dX12_read_48 rfl (lv_at hl 2 rfl) ?_
          refine lv_iconst (v := (nI (0))) hx hb dX12_read_49 (by decide) ?_
          refine rl_put (v := .int (nI (0))) hC hW fp_X12_251 hR.1 (Nat.le_of_ble_eq_true rfl) rfl rfl dX12_read_50 (fun H locs hW => ?_)
          have hR := hR.f45 (nI (0))
          refine lv_iconst (v := (-1)) hx hb dX12_read_53 (by decide) ?_
          refine lv_istore (lv' := [(5, .int (-1)), (4, .int (nI (κ))), (3, .int (nI (ρ))), (0, .ref (m)), (1, .int (nI (v))), (2, .int (nI (p0)))]) hx hb dX12_read_54 hl (by decide) rfl (fun ls hl => ?_)
          refine lv_aload_n hx hb dX12_read_56 rfl (lv_at hl 3 rfl) ?_
          refine lv_iconst (v := (nI (1))) hx hb dX12_read_57 (by decide) ?_
          refine rl_callvQ (rl_runV (b := m) (As := [.int (nI (1))]) (rest := []) hC hW (cR_beginRecord l D t A _ z m T v ρ κ G 0 (-3) 0 ρ κ G (fun _ => none) (fun _ => 0) (fun _ => none) ⟨_, _, _, hR, hTc, hTp, hTk, hGW, hGr, hGd, hGp, hGt, hGc, hF11, hF14, rfl, rfl, rfl, rfl, rfl, ⟨Nat.zero_le _, by omega, hv, Nat.le_refl _, Nat.le_refl _, by omega, gle.rf⟩, fun _ => ⟨fun i hi => absurd hi (Nat.not_lt_zero _), fun i hi => absurd hi (Nat.not_lt_zero _)⟩⟩ 1 true (Or.inr ⟨rfl, rfl⟩)) cs_X12_265 im_X12_beginRecord sl_X12_beginRecord hR.1 rfl ⟨(Nat.le_of_ble_eq_true rfl), (Nat.le_of_ble_eq_true rfl)⟩ rfl hl.1 rfl (Nat.le_of_ble_eq_true rfl) dX12_read_58 ⟨(Nat.le_of_ble_eq_true rfl), (Nat.le_of_ble_eq_true rfl)⟩) hW (fun f1 H locs hp hW => ?_)
          obtain ⟨a1, la1, bd1, d1, e1, SD1, SL1, hQ, hbe⟩ := hp
          replace hl : lv_has ls 6 [(0, .ref (m)), (2, .int (nI (p0))), (3, .int (nI (ρ))), (4, .int (nI (κ))), (5, .int (-1))] := lv_sub hl [3, 5, 2, 1, 0] rfl
          obtain ⟨FIN, hFIN⟩ : ∃ F0, F0 = (q_rec T v 6 true (0, -3, 0, 0, ρ, κ, G)) := ⟨_, rfl⟩
          have hinv : ∃ (f2 : rl_M) (a' : Nat) (la' : Int32) (bd' d' ρ' κ' : Nat) (G' : pG) (e' j' : Nat) (SD' : Nat → pD) (SL' : Nat → Nat) (SI' : Nat → Option Nat) (h : pHd), rl_W D A f2 z s.heap H locs ∧ RQ t f2 m T v ρ κ G a' la' bd' d' ρ' κ' G' e' j' SD' SL' SI' ∧ (bd' = 0 → e' = d' ∧ (0 < d' → j' + 1 = d') ∧ 5 * (κ' - κ) + 5 * d' ≤ a' + 3 ∧ 3 * (ρ' - ρ) ≤ a' ∧ hok ρ' κ' h ∧ (d' = 0 → FIN = (h, (a', la', bd', d', ρ', κ', G'))) ∧ ∀ dd, d' = dd + 1 → q_res T v SD' SL' SI' dd (a', la', bd', d', ρ', κ', G') = FIN) ∧ (bd' ≠ 0 → FIN.2 = (a', la', bd', d', ρ', κ', G')) ∧ lv_has ls 6 [(0, .ref (m)), (2, .int (nI (p0))), (3, .int (nI (ρ))), (4, .int (nI (κ))), (5, .int (enc h))] := by
            rcases hbe with ⟨hne, hre⟩ | ⟨rfl, hd6x, rfl, rfl, rfl, kd, n2, rfl, rfl, hre⟩
            · exact ⟨_, a1, la1, bd1, d1, ρ, κ, G, e1, 0, SD1, SL1, _, none, hW, hQ, fun q => absurd q hne, fun _ => by rw [hFIN]; exact congrArg Prod.snd hre, hl⟩
            · refine ⟨_, _, la1, 0, _, ρ, κ, G, _, 0, _, _, _, none, hW, hQ, fun _ => ⟨rfl, fun _ => rfl, by omega, by omega, trivial, fun q => absurd q (by omega), fun dd hdd => ?_⟩, fun q => absurd rfl q, hl⟩
              obtain rfl : 0 = dd := by omega
              rw [rs_0, va_up_s, va_up_s, hFIN]
              exact hre.symm
          clear hW hl hQ hR hbe
          obtain ⟨f2, a', la', bd', d', ρ', κ', G', e', j', SD', SL', SI', h, hW, hQ, hpo, hbF, hl⟩ := hinv
          obtain ⟨n, hn⟩ : ∃ n, rf_mr bd' a' d' < n := ⟨_, Nat.lt_succ_self _⟩
          induction n generalizing f2 a' la' bd' d' ρ' κ' G' e' j' SD' SL' SI' h H locs ls with
          | zero => exact absurd hn (Nat.not_lt_zero _)
          | succ n ih =>
            have hQ0 := hQ
            obtain ⟨I, L, F, hR, hTc, hTp, hTk, hGW, hGr, hGd, hGp, hGt, hGc, hF11, hF14, hF44, hF41, hF42, hF43, hF45, hN, hSI⟩ := hQ
            obtain ⟨hlv, hd6, hw3, hρ0, hκ0, hbd, hgl⟩ := id hN
            have hl250 := hGW.2.2.2.2
            refine lv_aload_n hx hb dX12_read_61 rfl (lv_at hl 0 rfl) ?_
            refine rl_get (v := .int (F 43)) hC hW fl_X12_238 hR.1 rfl dX12_read_62 ?_
            refine rl_topn (y := nI (bd')) (hF43) ?_
            refine lv_if_ne (tgt := 122) hx hb dX12_read_65 (by decide) (fun c1 => ?_) (fun c1 => ?_)
            · have hne : bd' ≠ 0 := fun q => c1 (by rw [q]; rfl)
              have hbF2 := hbF hne
              refine lv_aload_n hx hb dX12_read_122 rfl (lv_at hl 0 rfl) ?_
              refine lv_aload_n hx hb dX12_read_123 rfl (lv_at hl 0 rfl) ?_
              refine rl_get (v := .int (F 43)) hC hW fl_X12_238 hR.1 rfl dX12_read_124 ?_
              refine rl_topn (y := nI (bd')) (hF43) ?_
              refine rl_put (v := .int (nI (bd'))) hC hW fp_X12_187 hR.1 (Nat.le_of_ble_eq_true rfl) rfl rfl dX12_read_127 (fun H locs hW => ?_)
              have hR := hR.f24 (nI (bd'))
              refine lv_aload_n hx hb dX12_read_130 rfl (lv_at hl 0 rfl) ?_
              refine lv_aload_n hx hb dX12_read_131 rfl (lv_at hl 0 rfl) ?_
              refine rl_get (v := .int (F 43)) hC hW fl_X12_238 hR.1 rfl dX12_read_132 ?_
              refine rl_topn (y := nI (bd')) (hF43) ?_
              refine lv_if_ne (tgt := 143) hx hb dX12_read_135 (by decide) (fun c_1 => ?_) (fun c_1 => ?_)
              · refine lv_aload_n hx hb dX12_read_143 rfl (lv_at hl 0 rfl) ?_
                refine rl_get (v := .int (F 42)) hC hW fl_X12_244 hR.1 rfl dX12_read_144 ?_
                refine rl_put (v := .int (F 42)) hC hW fp_X12_78 hR.1 (Nat.le_of_ble_eq_true rfl) rfl rfl dX12_read_147 (fun H locs hW => ?_)
                have hR := hR.f25 (F 42)
                refine lv_aload_n hx hb dX12_read_150 rfl (lv_at hl 0 rfl) ?_
                refine lv_aload_n hx hb dX12_read_151 rfl (lv_at hl 0 rfl) ?_
                refine rl_get (v := .int (F 43)) hC hW fl_X12_238 hR.1 rfl dX12_read_152 ?_
                refine rl_topn (y := nI (bd')) (hF43) ?_
                refine lv_if_ne (tgt := 162) hx hb dX12_read_155 (by decide) (fun c_2 => ?_) (fun c_2 => ?_)
                · refine lv_aload_n hx hb dX12_read_162 rfl (lv_at hl 0 rfl) ?_
                  refine rl_get (v := .int (F 45)) hC hW fl_X12_251 hR.1 rfl dX12_read_163 ?_
                  refine rl_topn (y := nI (d')) (hF45) ?_
                  refine rl_put (v := .int (nI (d'))) hC hW fp_X12_190 hR.1 (Nat.le_of_ble_eq_true rfl) rfl rfl dX12_read_166 (fun H locs hW => ?_)
                  have hR := hR.f26 (nI (d'))
                  refine lv_aload_n hx hb dX12_read_169 rfl (lv_at hl 0 rfl) ?_
                  refine rl_get (v := .int (F 43)) hC hW fl_X12_238 hR.1 rfl dX12_read_170 ?_
                  refine rl_topn (y := nI (bd')) (hF43) ?_
                  refine lv_if_ne (tgt := 197) hx hb dX12_read_173 (by decide) (fun c_3 => ?_) (fun c_3 => ?_)
                  · refine lv_aload_n hx hb dX12_read_197 rfl (lv_at hl 0 rfl) ?_
                    refine lv_iload_n hx hb dX12_read_198 rfl (lv_at hl 2 rfl) ?_
                    refine rl_put (v := .int (nI (ρ))) hC hW fp_X12_151 hR.1 (Nat.le_of_ble_eq_true rfl) rfl rfl dX12_read_199 (fun H locs hW => ?_)
                    have hR := hR.f11 (nI (ρ))
                    refine lv_aload_n hx hb dX12_read_202 rfl (lv_at hl 0 rfl) ?_
                    refine lv_iload hx hb dX12_read_203 (lv_at hl 3 rfl) ?_
                    refine rl_put (v := .int (nI (κ))) hC hW fp_X12_177 hR.1 (Nat.le_of_ble_eq_true rfl) rfl rfl dX12_read_205 (fun H locs hW => ?_)
                    have hR := hR.f14 (nI (κ))
                    refine lv_aload_n hx hb dX12_read_208 rfl (lv_at hl 0 rfl) ?_
                    refine lv_dup hx hb dX12_read_209 rfl ?_
                    refine rl_get (v := .int (F 30)) hC hW fl_X12_279 hR.1 rfl dX12_read_210 ?_
                    refine lv_iconst (v := (nI (1))) hx hb dX12_read_213 (by decide) ?_
                    refine lv_iadd hx hb dX12_read_214 ?_
                    refine lv_topi (fun x_4 ex_4 => ?_)
                    refine rl_put (v := .int (x_4)) hC hW fp_X12_279 hR.1 (Nat.le_of_ble_eq_true rfl) rfl rfl dX12_read_215 (fun H locs hW => ?_)
                    have hR := hR.f30 (x_4)
                    refine lv_aload_n hx hb dX12_read_218 rfl (lv_at hl 0 rfl) ?_
                    refine rl_get (v := .int (nI (bd'))) hC hW fl_X12_187 hR.1 rfl dX12_read_219 ?_
                    exact rl_iret hC hW hr hlk (Nat.le_refl _) (Nat.le_refl _) ⟨_, rfl, rfl, rfl, ρ, κ, pu_say (gY G 0 (upd (upd (G.2.1 0) 3 (G'.2.1 0 3)) 5 (G.2.1 0 5 + 1))) (nI bd') la' (nI d'), (by simp only [f_read, ob, pu_ix_s hv (by decide), pu_ix_s hp0 (by decide)]; rw [← hFIN, hbF2]; exact if_neg hne), by omega, by omega, ⟨_, _, _, hR, hTc, hTp, hTk, hGW0, (show RGr ρ G _ _ from hGr.old hgl hρ0), (show RGd κ G _ _ _ _ from hGd.old hgl hκ0 hGW0 h5T), (show RGp G _ _ _ from hGp.old hgl), (show RGt G _ _ from hGt.old hgl), ⟨rfl, hF42, rfl, hGc.2.2.2.1, hGc.2.2.2.2.1.trans (hgl.2.2.2.2.2.2.1 4 (by decide)), by show x_4 = G.2.1 0 5 + 1; rw [ex_4, hGc.2.2.2.2.2, hgl.2.2.2.2.2.2.1 5 (by decide)]; rfl⟩, rfl, rfl⟩⟩ dX12_read_222
                  · exact absurd ((nI_eq (by omega) (by decide)).mp c_3) hne
                · exact absurd ((nI_eq (by omega) (by decide)).mp c_2) hne
              · exact absurd ((nI_eq (by omega) (by decide)).mp c_1) hne
            · have hb0 : bd' = 0 := (nI_eq (by omega) (by decide)).mp c1
              subst hb0
              obtain ⟨hed, hjd, hp1, hp2, hokh, hF0, hF1⟩ := hpo rfl
              subst hed
              refine lv_aload_n hx hb dX12_read_68 rfl (lv_at hl 0 rfl) ?_
              refine rl_get (v := .int (F 45)) hC hW fl_X12_251 hR.1 rfl dX12_read_69 ?_
              refine rl_topn (y := nI (e')) (hF45) ?_
              refine lv_if_le (tgt := 122) hx hb dX12_read_72 (by decide) (fun c2 => ?_) (fun c2 => ?_)
              · have hd0 : e' = 0 := by have := rg_le (a := e') (b := 0) c2 (by omega) (by decide); omega
                have hFF := hF0 hd0
                refine lv_aload_n hx hb dX12_read_122 rfl (lv_at hl 0 rfl) ?_
                refine lv_aload_n hx hb dX12_read_123 rfl (lv_at hl 0 rfl) ?_
                refine rl_get (v := .int (F 43)) hC hW fl_X12_238 hR.1 rfl dX12_read_124 ?_
                refine rl_topn (y := nI (0)) (hF43) ?_
                refine rl_put (v := .int (nI (0))) hC hW fp_X12_187 hR.1 (Nat.le_of_ble_eq_true rfl) rfl rfl dX12_read_127 (fun H locs hW => ?_)
                have hR := hR.f24 (nI (0))
                refine lv_aload_n hx hb dX12_read_130 rfl (lv_at hl 0 rfl) ?_
                refine lv_aload_n hx hb dX12_read_131 rfl (lv_at hl 0 rfl) ?_
                refine rl_get (v := .int (F 43)) hC hW fl_X12_238 hR.1 rfl dX12_read_132 ?_
                refine rl_topn (y := nI (0)) (hF43) ?_
                refine lv_if_ne (tgt := 143) hx hb dX12_read_135 (by decide) (fun c_5 => ?_) (fun c_5 => ?_)
                · first | exact absurd c_5 (by decide) | exact absurd (by decide) c_5
                · refine lv_bipush (v := (-3)) hx hb dX12_read_138 (by decide) ?_
                  refine lv_goto (tgt := 147) hx hb dX12_read_140 (by decide) ?_
                  refine rl_put (v := .int (-3)) hC hW fp_X12_78 hR.1 (Nat.le_of_ble_eq_true rfl) rfl rfl dX12_read_147 (fun H locs hW => ?_)
                  have hR := hR.f25 (-3)
                  refine lv_aload_n hx hb dX12_read_150 rfl (lv_at hl 0 rfl) ?_
                  refine lv_aload_n hx hb dX12_read_151 rfl (lv_at hl 0 rfl) ?_
                  refine rl_get (v := .int (F 43)) hC hW fl_X12_238 hR.1 rfl dX12_read_152 ?_
                  refine rl_topn (y := nI (0)) (hF43) ?_
                  refine lv_if_ne (tgt := 162) hx hb dX12_read_155 (by decide) (fun c_6 => ?_) (fun c_6 => ?_)
                  · first | exact absurd c_6 (by decide) | exact absurd (by decide) c_6
                  · refine lv_iconst (v := (nI (0))) hx hb dX12_read_158 (by decide) ?_
                    refine lv_goto (tgt := 166) hx hb dX12_read_159 (by decide) ?_
                    refine rl_put (v := .int (nI (0))) hC hW fp_X12_190 hR.1 (Nat.le_of_ble_eq_true rfl) rfl rfl dX12_read_166 (fun H locs hW => ?_)
                    have hR := hR.f26 (nI (0))
                    refine lv_aload_n hx hb dX12_read_169 rfl (lv_at hl 0 rfl) ?_
                    refine rl_get (v := .int (F 43)) hC hW fl_X12_238 hR.1 rfl dX12_read_170 ?_
                    refine rl_topn (y := nI (0)) (hF43) ?_
                    refine lv_if_ne (tgt := 197) hx hb dX12_read_173 (by decide) (fun c_7 => ?_) (fun c_7 => ?_)
                    · first | exact absurd c_7 (by decide) | exact absurd (by decide) c_7
                    · refine lv_aload_n hx hb dX12_read_176 rfl (lv_at hl 0 rfl) ?_
                      refine rl_get (v := .ref (m + 18)) hC hW fl_X12_66 hR.1 rfl dX12_read_177 ?_
                      refine lv_iload_n hx hb dX12_read_180 rfl (lv_at hl 1 rfl) ?_
                      refine lv_iload hx hb dX12_read_181 (lv_at hl 4 rfl) ?_
                      refine rl_iast_n (g := I 19) hC hW hR.a19 (by omega) (by decide) dX12_read_183 (fun H locs hW => ?_)
                      have hR := hR.s19 (upd (I 19) (p0) ((enc h)))
                      refine lv_aload_n hx hb dX12_read_184 rfl (lv_at hl 0 rfl) ?_
                      refine lv_dup hx hb dX12_read_185 rfl ?_
                      refine rl_get (v := .int (F 29)) hC hW fl_X12_276 hR.1 rfl dX12_read_186 ?_
                      refine lv_iconst (v := (nI (1))) hx hb dX12_read_189 (by decide) ?_
                      refine lv_iadd hx hb dX12_read_190 ?_
                      refine lv_topi (fun x_8 ex_8 => ?_)
                      refine rl_put (v := .int (x_8)) hC hW fp_X12_276 hR.1 (Nat.le_of_ble_eq_true rfl) rfl rfl dX12_read_191 (fun H locs hW => ?_)
                      have hR := hR.f29 (x_8)
                      refine lv_goto (tgt := 218) hx hb dX12_read_194 (by decide) ?_
                      refine lv_aload_n hx hb dX12_read_218 rfl (lv_at hl 0 rfl) ?_
                      refine rl_get (v := .int (nI (0))) hC hW fl_X12_187 hR.1 rfl dX12_read_219 ?_
                      exact rl_iret hC hW hr hlk (Nat.le_refl _) (Nat.le_refl _) ⟨_, rfl, rfl, rfl, ρ', κ', pu_say (gX (gY G' 0 (upd (G'.2.1 0) 4 (G'.2.1 0 4 + 1))) 0 (va_up (G'.2.2.2 0) p0 h)) 0 (-3) 0, (by simp only [f_read, ob, pu_ix_s hv (by decide), pu_ix_s hp0 (by decide)]; rw [← hFIN, hFF]; rfl), by omega, by omega, ⟨_, _, _, hR, hTc, hTp, hTk, (GW.pl (G := gY G' 0 (upd (G'.2.1 0) 4 (G'.2.1 0 4 + 1))) hGW hokh), hGr, hGd, (RGp.pl (G := gY G' 0 (upd (G'.2.1 0) 4 (G'.2.1 0 4 + 1))) hGp rfl), hGt, ⟨rfl, rfl, rfl, hGc.2.2.2.1, by show x_8 = G'.2.1 0 4 + 1; rw [ex_8, hGc.2.2.2.2.1]; rfl, hGc.2.2.2.2.2⟩, hF11, hF14⟩⟩ dX12_read_222
              · have hd0 : e' ≠ 0 := fun q => c2 (by rw [q]; decide)
                obtain ⟨dd, rfl⟩ : ∃ dd, e' = dd + 1 := ⟨e' - 1, by omega⟩
                obtain rfl : j' = dd := by have := hjd (by omega); omega
                have hFd := hF1 j' rfl
                obtain ⟨-, hsl⟩ := (hSI rfl).1 j' (by omega)
                refine lv_aload_n hx hb dX12_read_75 rfl (lv_at hl 0 rfl) ?_
                refine rl_get (v := .ref (m + 31)) hC hW fl_X12_109 hR.1 rfl dX12_read_76 ?_
                refine lv_aload_n hx hb dX12_read_79 rfl (lv_at hl 0 rfl) ?_
                refine rl_get (v := .int (F 45)) hC hW fl_X12_251 hR.1 rfl dX12_read_80 ?_
                refine rl_topn (y := nI (j' + 1)) (hF45) ?_
                refine lv_iconst (v := (nI (1))) hx hb dX12_read_83 (by decide) ?_
                refine lv_isub hx hb dX12_read_84 ?_
                refine rl_topn (rg_sub (c := j') (by omega)) ?_
                refine rl_lald_n (g := L 47) hC hW hR.a47 (by omega) (by decide) dX12_read_85 ?_
                refine lv_lconst (v := 0) hx hb dX12_read_86 (by decide) ?_
                refine W.lcmp hx hb dX12_read_87 ?_
                refine lv_if_le (tgt := 113) hx hb dX12_read_88 (by decide) (fun c3 => ?_) (fun c3 => ?_)
                · have hl0 : SL' j' = 0 := by rw [← hsl]; exact rg_left0 (fun q => absurd ((lg_cmp_gt _ _).mpr q) (Int32.not_lt.mpr c3))
                  refine lv_aload_n hx hb dX12_read_113 rfl (lv_at hl 0 rfl) ?_
                  refine rl_calliQ (rl_runV (b := m) (As := []) (rest := []) hC hW (cR_endRecord l D t A _ z m T v ρ κ G a' la' j' ρ' κ' G' SD' SL' SI' hQ0 (by omega) (by omega) hp1 hp2) cs_X12_272 im_X12_endRecord sl_X12_endRecord hR.1 rfl ⟨(Nat.le_of_ble_eq_true rfl), (Nat.le_of_ble_eq_true rfl)⟩ rfl hl.1 rfl (Nat.le_of_ble_eq_true rfl) dX12_read_114 ⟨(Nat.le_of_ble_eq_true rfl), (Nat.le_of_ble_eq_true rfl)⟩) hW (fun r f1 H locs hp hW => ?_)
                  obtain ⟨κ2, G2, bd2, d2, j2, SD2, h2, hen, hQ, hkk, rfl, hpe⟩ := hp
                  have hct := en_next hl0 hen hFd
                  refine lv_istore (lv' := [(5, .int (enc h2)), (0, .ref (m)), (2, .int (nI (p0))), (3, .int (nI (ρ))), (4, .int (nI (κ)))]) hx hb dX12_read_117 hl (by decide) rfl (fun ls hl => ?_)
                  refine lv_goto (tgt := 61) hx hb dX12_read_119 (by decide) ?_
                  replace hl : lv_has ls 6 [(0, .ref (m)), (2, .int (nI (p0))), (3, .int (nI (ρ))), (4, .int (nI (κ))), (5, .int (enc h2))] := lv_sub hl [1, 2, 3, 4, 0] rfl
                  by_cases hb2 : bd2 = 0
                  · subst hb2
                    obtain ⟨rfl, hok2, g1, g2⟩ := hpe rfl
                    refine ih _ _ _ _ a' la' 0 d2 ρ' κ2 G2 d2 j2 SD2 SL' SI' h2 hW hQ (fun _ => ⟨rfl, fun q => (g2 q).1, g1, hp2, hok2, fun q => ?_, fun dd hdd => ?_⟩) (fun q => absurd rfl q) hl (by unfold rf_mr at hn ⊢; rw [if_pos rfl] at hn ⊢; omega)
                    · subst q
                      exact hct.symm
                    · subst hdd
                      obtain ⟨-, g3⟩ := g2 (by omega)
                      rw [← hct, g3]
                      exact (ct_s (q := (a', la', 0, dd + 1, ρ', κ2, G2)) rfl).symm
                  · exact ih _ _ _ _ a' la' bd2 d2 ρ' κ2 G2 d2 j2 SD2 SL' SI' h2 hW hQ (fun q => absurd q hb2) (fun q => by rw [← hct]; exact ct_b2 (q := (a', la', bd2, d2, ρ', κ2, G2)) q) hl (by unfold rf_mr at hn ⊢; rw [if_pos rfl] at hn; rw [if_neg hb2]; omega)
                · have hgt : 0 < L 47 j' := Int64.not_le.mp (fun q => c3 ((lg_cmp_le _ _).mpr q))
                  have hlp := rg_left hgt
                  have hSLn : SL' j' = (L 47 j' - 1).toInt.toNat + 1 := by rw [hlp, hsl]
                  refine lv_aload_n hx hb dX12_read_91 rfl (lv_at hl 0 rfl) ?_
                  refine rl_get (v := .ref (m + 31)) hC hW fl_X12_109 hR.1 rfl dX12_read_92 ?_
                  refine lv_aload_n hx hb dX12_read_95 rfl (lv_at hl 0 rfl) ?_
                  refine rl_get (v := .int (F 45)) hC hW fl_X12_251 hR.1 rfl dX12_read_96 ?_
                  refine rl_topn (y := nI (j' + 1)) (hF45) ?_
                  refine lv_iconst (v := (nI (1))) hx hb dX12_read_99 (by decide) ?_
                  refine lv_isub hx hb dX12_read_100 ?_
                  refine rl_topn (rg_sub (c := j') (by omega)) ?_
                  refine lv_dup2_11 hx hb dX12_read_101 rfl rfl ?_
                  refine rl_lald_n (g := L 47) hC hW hR.a47 (by omega) (by decide) dX12_read_102 ?_
                  refine lv_lconst (v := 1) hx hb dX12_read_103 (by decide) ?_
                  refine lv_lsub hx hb dX12_read_104 ?_
                  refine lv_topl (fun x_9 ex_9 => ?_)
                  refine rl_last_n (g := L 47) hC hW hR.a47 (by omega) (by decide) dX12_read_105 (fun H locs hW => ?_)
                  have hR := hR.s47 (vp_updL (L 47) (j') (x_9))
                  refine lv_aload_n hx hb dX12_read_106 rfl (lv_at hl 0 rfl) ?_
                  refine rl_callvQ (rl_runV (b := m) (As := []) (rest := []) hC hW (cR_readPart l D t A _ z m T v ρ κ G a' la' j' ρ' κ' G' SD' (va_up SL' j' (L 47 j' - 1).toInt.toNat) SI' ⟨_, _, _, hR, hTc, hTp, hTk, hGW, hGr, hGd, hGp, hGt, hGc, hF11, hF14, hF44, hF41, hF42, hF43, hF45, hN, fun _ => (hSI rfl).left (by rw [ex_9])⟩ (by omega) (by omega) hp1 hp2) cs_X12_269 im_X12_readPart sl_X12_readPart hR.1 rfl ⟨(Nat.le_of_ble_eq_true rfl), (Nat.le_of_ble_eq_true rfl)⟩ rfl hl.1 rfl (Nat.le_of_ble_eq_true rfl) dX12_read_107 ⟨(Nat.le_of_ble_eq_true rfl), (Nat.le_of_ble_eq_true rfl)⟩) hW (fun f1 H locs hp hW => ?_)
                  obtain ⟨a2, la2, bd2, d2, ρ2, G2, e2, j2, SD2, SL2, SI2, hQ, hrr, hpe, hrel⟩ := hp
                  have hnx := rp_next rfl hSLn hrel hFd
                  refine lv_goto (tgt := 61) hx hb dX12_read_110 (by decide) ?_
                  replace hl : lv_has ls 6 [(0, .ref (m)), (2, .int (nI (p0))), (3, .int (nI (ρ))), (4, .int (nI (κ))), (5, .int (enc h))] := lv_sub hl [0, 1, 2, 3, 4] rfl
                  exact ih _ _ _ _ a2 la2 bd2 d2 ρ2 κ' G2 e2 j2 SD2 SL2 SI2 h hW hQ (fun q => by
                    obtain ⟨g1, g2, g3, g4, g5, g6, g7⟩ := hpe q
                    exact ⟨g1, fun _ => g3, g4, g5, hokh.mono hrr (Nat.le_refl _), fun q0 => by omega, hnx.2 q⟩) hnx.1 hl (by
                    have hlvq := hQ.lim
                    unfold rf_mr at hn ⊢
                    rw [if_pos rfl] at hn
                    split
                    · rename_i q
                      obtain ⟨g1, g2, g3, g4, g5, g6, g7⟩ := hpe q
                      omega
                    · omega)
        · exact absurd c9 (by decide)
      · have hq := hp
        refine lv_if_ne (tgt := 16) hx hb dX12_read_11 (by decide) (fun c9 => ?_) (fun c9 => ?_)
        · exact absurd rfl c9
        · refine lv_iconst (v := (-1)) hx hb dX12_read_14 (by decide) ?_
          exact rl_iret hC hW hr hlk (Nat.le_refl _) (Nat.le_refl _) ⟨_, rfl, rfl, rfl, ρ, κ, G, (by simp only [f_read, ob, pu_ix_s hv (by decide), pu_ix_n (n := 10) (by decide) hq]), by omega, by omega, ⟨_, _, _, hR, hTc, hTp, hTk, hGW, hGr, hGd, hGp, hGt, hGc, hF11, hF14⟩⟩ dX12_read_15
  · have hq := hp
    refine lv_if_eq (tgt := 14) hx hb dX12_read_4 (by decide) (fun c9 => ?_) (fun c9 => ?_)
    · refine lv_iconst (v := (-1)) hx hb dX12_read_14 (by decide) ?_
      exact rl_iret hC hW hr hlk (Nat.le_refl _) (Nat.le_refl _) ⟨_, rfl, rfl, rfl, ρ, κ, G, (by simp only [f_read, ob, pu_ix_n (n := 3) (by decide) hq]), by omega, by omega, ⟨_, _, _, hR, hTc, hTp, hTk, hGW, hGr, hGd, hGp, hGt, hGc, hF11, hF14⟩⟩ dX12_read_15
    · exact absurd rfl c9
