
theorem rg_back9 : ∀ b0, b0 < 9 → (-10 : Int32) - ((-10) - nI b0) = nI b0 := by decide
theorem rg_back {b0 : Nat} {r : Int32} (hb : b0 ≤ 8) (e : r = (-10) - nI b0) : (-10) - r = nI b0 := by rw [e]; exact rg_back9 b0 (by omega)
def rf_mr (β : Int32) (a d : Nat) : Nat := if β = 0 then 2 * (250 - a) + d + 1 else 0

set_option maxHeartbeats 4000000 in
set_option maxRecDepth 100000 in
theorem cR_endRecord (l : Launch) (D : va_G) (t : Nat → ClassId) (A : Nat → Prop) (f : rl_M) (z : Nat) (m : Nat) (T : Nat → Nat → Nat) (ρ0 κ0 lv v ρ κ a d : Nat) (hQ : RQ t f m T ρ0 κ0 lv v ρ κ a (d + 1) (d + 1) d 0) (hB : ρ0 + 84 ≤ 43100) (hK : κ0 + 51 ≤ 26200) (hp1 : 5 * (κ - κ0) + 5 * (d + 1) ≤ a + 3) (hp2 : 3 * (ρ - ρ0) ≤ a) : rl_Met l yX12_endRecord (.code yX12_endRecord cX12_endRecord 2 (some FieldType.int)) (rl_rm 3 0 0) D t A f z [.ref (m)] (rl_qi z fun r f1 => ∃ (κ' d' j' : Nat) (β' : Int32), RQ t f1 m T ρ0 κ0 lv v ρ κ' a d' d' j' β' ∧ κ ≤ κ' ∧ (β' = 0 → 0 < d' → j' + 1 = d') ∧ (β' = 0 → d' = d ∧ 5 * (κ' - κ0) + 5 * d' ≤ a + 3 ∧ RVt ρ κ' r)) := by
  obtain ⟨I, L, F, hR, hTc, hTp, hTk, hVw, hVe, hVe0, hVp, hF11, hF14, hF22, hF44, hF41, hF43, hF45, hN, hSI⟩ := hQ
  obtain ⟨hlv, ha, hd6, hv3, hρ0, hκ0⟩ := id hN
  refine rl_begin (own := RX12) (lv := [(0, .ref (m))]) (by decide +kernel) rfl (Nat.le_of_ble_eq_true rfl) rfl fun p e s m0 args below meth c ls H locs hC hr hlk hnm hW hl hx hb => ?_
  obtain ⟨hth, hsh⟩ := (hSI rfl).1 d (by omega)
  rcases hsh with hsh | hsh
  · refine lv_iconst (v := (-1)) hx hb dX12_endRecord_0 (by decide) ?_
    refine lv_istore_n (lv' := [(1, .int (-1)), (0, .ref (m))]) hx hb dX12_endRecord_1 rfl hl (by decide) rfl (fun ls hl => ?_)
    refine lv_aload_n hx hb dX12_endRecord_2 rfl (lv_at hl 1 rfl) ?_
    refine rl_get (v := .ref (m + 30)) hC hW fl_X12_106 hR.1 rfl dX12_endRecord_3 ?_
    refine lv_aload_n hx hb dX12_endRecord_6 rfl (lv_at hl 1 rfl) ?_
    refine rl_get (v := .int (F 45)) hC hW fl_X12_251 hR.1 rfl dX12_endRecord_7 ?_
    refine rl_topn (y := nI (d + 1)) (hF45) ?_
    refine lv_iconst (v := (nI (1))) hx hb dX12_endRecord_10 (by decide) ?_
    refine lv_isub hx hb dX12_endRecord_11 ?_
    refine rl_topn (rg_sub (c := d) (by omega)) ?_
    refine rl_iald_n (g := I 46) hC hW hR.a46 (by omega) (by decide) dX12_endRecord_12 ?_
    refine rl_topn (hsh) ?_
    refine lv_if_lt (tgt := 52) hx hb dX12_endRecord_13 (by decide) (fun c1 => ?_) (fun c1 => ?_)
    · refine lv_aload_n hx hb dX12_endRecord_52 rfl (lv_at hl 1 rfl) ?_
      refine lv_dup hx hb dX12_endRecord_53 rfl ?_
      refine rl_get (v := .int (F 45)) hC hW fl_X12_251 hR.1 rfl dX12_endRecord_54 ?_
      refine rl_topn (y := nI (d + 1)) (hF45) ?_
      refine lv_iconst (v := (nI (1))) hx hb dX12_endRecord_57 (by decide) ?_
      refine lv_isub hx hb dX12_endRecord_58 ?_
      refine rl_topn (rg_sub (c := d) (by omega)) ?_
      refine rl_put (v := .int (nI (d))) hC hW fp_X12_251 hR.1 (Nat.le_of_ble_eq_true rfl) rfl rfl dX12_endRecord_59 (fun H locs hW => ?_)
      have hR := hR.f45 (nI (d))
      refine lv_aload_n hx hb dX12_endRecord_62 rfl (lv_at hl 1 rfl) ?_
      refine rl_get (v := .int (nI (d))) hC hW fl_X12_251 hR.1 rfl dX12_endRecord_63 ?_
      refine lv_if_le (tgt := 107) hx hb dX12_endRecord_66 (by decide) (fun c7 => ?_) (fun c7 => ?_)
      · refine lv_iload_n hx hb dX12_endRecord_107 rfl (lv_at hl 0 rfl) ?_
        exact rl_iret hC hW hr hlk (Nat.le_refl _) (Nat.le_refl _) ⟨_, rfl, rfl, rfl, κ, d, d - 1, 0, ⟨_, _, _, hR, hTc, hTp, hTk, hVw, hVe, hVe0, hVp, hF11, hF14, hF22, hF44, hF41, hF43, rfl, ⟨by omega, by omega, by omega, by omega, by omega, by omega⟩, (fun q => (hSI q).pop (by omega) (by omega))⟩, by omega, (fun _ _ => by omega), fun _ => ⟨rfl, by omega, (Or.inl rfl)⟩⟩ dX12_endRecord_108
      · have hd0 : d ≠ 0 := fun q => c7 (by rw [q]; decide)
        obtain ⟨dd, rfl⟩ : ∃ dd, d = dd + 1 := ⟨d - 1, by omega⟩
        have hin := ((hSI rfl)).2 dd (by omega)
        rcases hin with hin | hin
        · refine lv_aload_n hx hb dX12_endRecord_69 rfl (lv_at hl 1 rfl) ?_
          refine rl_get (v := .ref (m + 32)) hC hW fl_X12_112 hR.1 rfl dX12_endRecord_70 ?_
          refine lv_aload_n hx hb dX12_endRecord_73 rfl (lv_at hl 1 rfl) ?_
          refine rl_get (v := .int (nI (dd + 1))) hC hW fl_X12_251 hR.1 rfl dX12_endRecord_74 ?_
          refine lv_iconst (v := (nI (1))) hx hb dX12_endRecord_77 (by decide) ?_
          refine lv_isub hx hb dX12_endRecord_78 ?_
          refine rl_topn (rg_sub (c := dd) (by omega)) ?_
          refine rl_iald_n (g := I 48) hC hW hR.a48 (by omega) (by decide) dX12_endRecord_79 ?_
          refine rl_topn (hin) ?_
          refine lv_if_lt (tgt := 107) hx hb dX12_endRecord_80 (by decide) (fun c_1 => ?_) (fun c_1 => ?_)
          · refine lv_iload_n hx hb dX12_endRecord_107 rfl (lv_at hl 0 rfl) ?_
            exact rl_iret hC hW hr hlk (Nat.le_refl _) (Nat.le_refl _) ⟨_, rfl, rfl, rfl, κ, (dd + 1), (dd + 1) - 1, 0, ⟨_, _, _, hR, hTc, hTp, hTk, hVw, hVe, hVe0, hVp, hF11, hF14, hF22, hF44, hF41, hF43, rfl, ⟨by omega, by omega, by omega, by omega, by omega, by omega⟩, (fun q => (hSI q).pop (by omega) (by omega))⟩, by omega, (fun _ _ => by omega), fun _ => ⟨rfl, by omega, (Or.inl rfl)⟩⟩ dX12_endRecord_108
          · first | exact absurd c_1 (by decide) | exact absurd (by decide) c_1
        · obtain ⟨p, hp5, hin⟩ := hin
          refine lv_aload_n hx hb dX12_endRecord_69 rfl (lv_at hl 1 rfl) ?_
          refine rl_get (v := .ref (m + 32)) hC hW fl_X12_112 hR.1 rfl dX12_endRecord_70 ?_
          refine lv_aload_n hx hb dX12_endRecord_73 rfl (lv_at hl 1 rfl) ?_
          refine rl_get (v := .int (nI (dd + 1))) hC hW fl_X12_251 hR.1 rfl dX12_endRecord_74 ?_
          refine lv_iconst (v := (nI (1))) hx hb dX12_endRecord_77 (by decide) ?_
          refine lv_isub hx hb dX12_endRecord_78 ?_
          refine rl_topn (rg_sub (c := dd) (by omega)) ?_
          refine rl_iald_n (g := I 48) hC hW hR.a48 (by omega) (by decide) dX12_endRecord_79 ?_
          refine rl_topn (hin) ?_
          refine lv_if_lt (tgt := 107) hx hb dX12_endRecord_80 (by decide) (fun c_2 => ?_) (fun c_2 => ?_)
          · exact absurd c_2 (nI_pos (by omega))
          · refine lv_aload_n hx hb dX12_endRecord_83 rfl (lv_at hl 1 rfl) ?_
            refine rl_get (v := .ref (m + 23)) hC hW fl_X12_85 hR.1 rfl dX12_endRecord_84 ?_
            refine lv_iconst (v := (nI (5))) hx hb dX12_endRecord_87 (by decide) ?_
            refine lv_aload_n hx hb dX12_endRecord_88 rfl (lv_at hl 1 rfl) ?_
            refine rl_get (v := .int (nI (dd + 1))) hC hW fl_X12_251 hR.1 rfl dX12_endRecord_89 ?_
            refine lv_imul hx hb dX12_endRecord_92 ?_
            refine rl_topn (pk_mul _ _) ?_
            refine lv_aload_n hx hb dX12_endRecord_93 rfl (lv_at hl 1 rfl) ?_
            refine rl_get (v := .ref (m + 32)) hC hW fl_X12_112 hR.1 rfl dX12_endRecord_94 ?_
            refine lv_aload_n hx hb dX12_endRecord_97 rfl (lv_at hl 1 rfl) ?_
            refine rl_get (v := .int (nI (dd + 1))) hC hW fl_X12_251 hR.1 rfl dX12_endRecord_98 ?_
            refine lv_iconst (v := (nI (1))) hx hb dX12_endRecord_101 (by decide) ?_
            refine lv_isub hx hb dX12_endRecord_102 ?_
            refine rl_topn (rg_sub (c := dd) (by omega)) ?_
            refine rl_iald_n (g := I 48) hC hW hR.a48 (by omega) (by decide) dX12_endRecord_103 ?_
            refine rl_topn (hin) ?_
            refine lv_iadd hx hb dX12_endRecord_104 ?_
            refine rl_topn (nI_add _ _) ?_
            refine lv_iload_n hx hb dX12_endRecord_105 rfl (lv_at hl 0 rfl) ?_
            refine rl_iast_n (g := I 32) hC hW hR.a32 (by omega) (by decide) dX12_endRecord_106 (fun H locs hW => ?_)
            have hR := hR.s32 (upd (I 32) (((5) * (dd + 1)) + (p)) ((-1)))
            refine lv_iload_n hx hb dX12_endRecord_107 rfl (lv_at hl 0 rfl) ?_
            exact rl_iret hC hW hr hlk (Nat.le_refl _) (Nat.le_refl _) ⟨_, rfl, rfl, rfl, κ, (dd + 1), (dd + 1) - 1, 0, ⟨_, _, _, hR, hTc, hTp, hTk, hVw, hVe, hVe0, hVp, hF11, hF14, hF22, hF44, hF41, hF43, rfl, ⟨by omega, by omega, by omega, by omega, by omega, by omega⟩, (fun q => ((hSI q).thing (Or.inl rfl)).pop (by omega) (by omega))⟩, by omega, (fun _ _ => by omega), fun _ => ⟨rfl, by omega, (Or.inl rfl)⟩⟩ dX12_endRecord_108
    · exact absurd (by decide) c1
  · obtain ⟨j, hj, hsh⟩ := hsh
    have h5 := (hTp.1 j hj).2
    refine lv_iconst (v := (-1)) hx hb dX12_endRecord_0 (by decide) ?_
    refine lv_istore_n (lv' := [(1, .int (-1)), (0, .ref (m))]) hx hb dX12_endRecord_1 rfl hl (by decide) rfl (fun ls hl => ?_)
    refine lv_aload_n hx hb dX12_endRecord_2 rfl (lv_at hl 1 rfl) ?_
    refine rl_get (v := .ref (m + 30)) hC hW fl_X12_106 hR.1 rfl dX12_endRecord_3 ?_
    refine lv_aload_n hx hb dX12_endRecord_6 rfl (lv_at hl 1 rfl) ?_
    refine rl_get (v := .int (F 45)) hC hW fl_X12_251 hR.1 rfl dX12_endRecord_7 ?_
    refine rl_topn (y := nI (d + 1)) (hF45) ?_
    refine lv_iconst (v := (nI (1))) hx hb dX12_endRecord_10 (by decide) ?_
    refine lv_isub hx hb dX12_endRecord_11 ?_
    refine rl_topn (rg_sub (c := d) (by omega)) ?_
    refine rl_iald_n (g := I 46) hC hW hR.a46 (by omega) (by decide) dX12_endRecord_12 ?_
    refine rl_topn (hsh) ?_
    refine lv_if_lt (tgt := 52) hx hb dX12_endRecord_13 (by decide) (fun c1 => ?_) (fun c1 => ?_)
    · exact absurd c1 (nI_pos (by omega))
    · refine lv_aload_n hx hb dX12_endRecord_16 rfl (lv_at hl 1 rfl) ?_
      refine lv_aload_n hx hb dX12_endRecord_17 rfl (lv_at hl 1 rfl) ?_
      refine rl_get (v := .ref (m + 30)) hC hW fl_X12_106 hR.1 rfl dX12_endRecord_18 ?_
      refine lv_aload_n hx hb dX12_endRecord_21 rfl (lv_at hl 1 rfl) ?_
      refine rl_get (v := .int (F 45)) hC hW fl_X12_251 hR.1 rfl dX12_endRecord_22 ?_
      refine rl_topn (y := nI (d + 1)) (hF45) ?_
      refine lv_iconst (v := (nI (1))) hx hb dX12_endRecord_25 (by decide) ?_
      refine lv_isub hx hb dX12_endRecord_26 ?_
      refine rl_topn (rg_sub (c := d) (by omega)) ?_
      refine rl_iald_n (g := I 46) hC hW hR.a46 (by omega) (by decide) dX12_endRecord_27 ?_
      refine rl_topn (hsh) ?_
      refine lv_iconst (v := (nI (5))) hx hb dX12_endRecord_28 (by decide) ?_
      refine lv_aload_n hx hb dX12_endRecord_29 rfl (lv_at hl 1 rfl) ?_
      refine rl_get (v := .int (F 45)) hC hW fl_X12_251 hR.1 rfl dX12_endRecord_30 ?_
      refine rl_topn (y := nI (d + 1)) (hF45) ?_
      refine lv_imul hx hb dX12_endRecord_33 ?_
      refine rl_topn (pk_mul _ _) ?_
      refine rl_calliQ (rl_runV (b := m) (As := [.int (nI (j)), .int (nI ((5) * (d + 1)))]) (rest := []) hC hW (cR_record l D t A _ z m I L F hR T ρ κ (by omega) (by omega) hTp hVw hVe hTk hF14 j (5 * (d + 1)) hj (by omega) (fun q hq => hth q (by omega))) cs_X12_183 im_X12_record sl_X12_record hR.1 rfl ⟨(Nat.le_of_ble_eq_true rfl), (Nat.le_of_ble_eq_true rfl)⟩ rfl hl.1 rfl (Nat.le_of_ble_eq_true rfl) dX12_endRecord_34 ⟨(Nat.le_of_ble_eq_true rfl), (Nat.le_of_ble_eq_true rfl)⟩) hW (fun r f1 H locs hp hW => ?_)
      rcases hp with ⟨rfl, b0, hb0, hbp, er⟩ | ⟨rfl, g15, g16, g18, gL, v28, hR, hV2, ho1, ho2⟩
      · have hneg := rg_neg10' hb0 er
        refine lv_istore_n (lv' := [(1, .int (r)), (0, .ref (m))]) hx hb dX12_endRecord_37 rfl hl (by decide) rfl (fun ls hl => ?_)
        refine lv_iload_n hx hb dX12_endRecord_38 rfl (lv_at hl 0 rfl) ?_
        refine lv_if_ge (tgt := 52) hx hb dX12_endRecord_39 (by decide) (fun c3 => ?_) (fun c3 => ?_)
        · exact absurd c3 hneg
        · refine lv_aload_n hx hb dX12_endRecord_42 rfl (lv_at hl 1 rfl) ?_
          refine lv_bipush (v := (-10)) hx hb dX12_endRecord_43 (by decide) ?_
          refine lv_iload_n hx hb dX12_endRecord_45 rfl (lv_at hl 0 rfl) ?_
          refine lv_isub hx hb dX12_endRecord_46 ?_
          refine lv_topi (fun x_3 ex_3 => ?_)
          refine rl_callvQ (rl_runV (b := m) (As := [.int (x_3)]) (rest := []) hC hW (cR_fails l D t A _ z m T ρ0 κ0 lv v ρ κ a (d + 1) (d + 1) d 0 ⟨_, _, _, hR, hTc, hTp, hTk, hVw, hVe, hVe0, hVp, hF11, hF14, hF22, hF44, hF41, hF43, hF45, hN, hSI⟩ _ (by rw [ex_3, rg_back hb0 er]; exact nI_ne0 hbp (by omega))) cs_X12_247 im_X12_fails sl_X12_fails hR.1 rfl ⟨(Nat.le_of_ble_eq_true rfl), (Nat.le_of_ble_eq_true rfl)⟩ rfl hl.1 rfl (Nat.le_of_ble_eq_true rfl) dX12_endRecord_47 ⟨(Nat.le_of_ble_eq_true rfl), (Nat.le_of_ble_eq_true rfl)⟩) hW (fun f1 H locs hp hW => ?_)
          obtain ⟨β', hβ, hQ⟩ := hp
          refine lv_iconst (v := (-1)) hx hb dX12_endRecord_50 (by decide) ?_
          exact rl_iret hC hW hr hlk (Nat.le_refl _) (Nat.le_refl _) ⟨_, rfl, rfl, rfl, κ, d + 1, d, β', hQ, Nat.le_refl _, (fun _ _ => rfl), fun q => absurd q hβ⟩ dX12_endRecord_51
      · refine lv_istore_n (lv' := [(1, .int (nI (1000000 + κ))), (0, .ref (m))]) hx hb dX12_endRecord_37 rfl hl (by decide) rfl (fun ls hl => ?_)
        refine lv_iload_n hx hb dX12_endRecord_38 rfl (lv_at hl 0 rfl) ?_
        refine lv_if_ge (tgt := 52) hx hb dX12_endRecord_39 (by decide) (fun c3 => ?_) (fun c3 => ?_)
        · refine lv_aload_n hx hb dX12_endRecord_52 rfl (lv_at hl 1 rfl) ?_
          refine lv_dup hx hb dX12_endRecord_53 rfl ?_
          refine rl_get (v := .int (F 45)) hC hW fl_X12_251 hR.1 rfl dX12_endRecord_54 ?_
          refine rl_topn (y := nI (d + 1)) (hF45) ?_
          refine lv_iconst (v := (nI (1))) hx hb dX12_endRecord_57 (by decide) ?_
          refine lv_isub hx hb dX12_endRecord_58 ?_
          refine rl_topn (rg_sub (c := d) (by omega)) ?_
          refine rl_put (v := .int (nI (d))) hC hW fp_X12_251 hR.1 (Nat.le_of_ble_eq_true rfl) rfl rfl dX12_endRecord_59 (fun H locs hW => ?_)
          have hR := hR.f45 (nI (d))
          refine lv_aload_n hx hb dX12_endRecord_62 rfl (lv_at hl 1 rfl) ?_
          refine rl_get (v := .int (nI (d))) hC hW fl_X12_251 hR.1 rfl dX12_endRecord_63 ?_
          refine lv_if_le (tgt := 107) hx hb dX12_endRecord_66 (by decide) (fun c7 => ?_) (fun c7 => ?_)
          · refine lv_iload_n hx hb dX12_endRecord_107 rfl (lv_at hl 0 rfl) ?_
            exact rl_iret hC hW hr hlk (Nat.le_refl _) (Nat.le_refl _) ⟨_, rfl, rfl, rfl, κ + 1, d, d - 1, 0, ⟨_, _, _, hR, hTc, hTp, hTk, hVw, hV2, (hVe0.old (fun y hy => (hTp.1 y hy).2) hκ0 ho1 ho2), hVp, hF11, rfl, hF22, hF44, hF41, hF43, rfl, ⟨by omega, by omega, by omega, by omega, by omega, by omega⟩, (fun q => ((hSI q).mono (Nat.le_refl _) (Nat.le_succ _)).pop (by omega) (by omega))⟩, by omega, (fun _ _ => by omega), fun _ => ⟨rfl, by omega, (Or.inr (Or.inr (Or.inr ⟨κ, by omega, rfl⟩)))⟩⟩ dX12_endRecord_108
          · have hd0 : d ≠ 0 := fun q => c7 (by rw [q]; decide)
            obtain ⟨dd, rfl⟩ : ∃ dd, d = dd + 1 := ⟨d - 1, by omega⟩
            have hin := (((hSI rfl).mono (Nat.le_refl _) (Nat.le_succ _))).2 dd (by omega)
            rcases hin with hin | hin
            · refine lv_aload_n hx hb dX12_endRecord_69 rfl (lv_at hl 1 rfl) ?_
              refine rl_get (v := .ref (m + 32)) hC hW fl_X12_112 hR.1 rfl dX12_endRecord_70 ?_
              refine lv_aload_n hx hb dX12_endRecord_73 rfl (lv_at hl 1 rfl) ?_
              refine rl_get (v := .int (nI (dd + 1))) hC hW fl_X12_251 hR.1 rfl dX12_endRecord_74 ?_
              refine lv_iconst (v := (nI (1))) hx hb dX12_endRecord_77 (by decide) ?_
              refine lv_isub hx hb dX12_endRecord_78 ?_
              refine rl_topn (rg_sub (c := dd) (by omega)) ?_
              refine rl_iald_n (g := I 48) hC hW hR.a48 (by omega) (by decide) dX12_endRecord_79 ?_
              refine rl_topn (hin) ?_
              refine lv_if_lt (tgt := 107) hx hb dX12_endRecord_80 (by decide) (fun c_4 => ?_) (fun c_4 => ?_)
              · refine lv_iload_n hx hb dX12_endRecord_107 rfl (lv_at hl 0 rfl) ?_
                exact rl_iret hC hW hr hlk (Nat.le_refl _) (Nat.le_refl _) ⟨_, rfl, rfl, rfl, κ + 1, (dd + 1), (dd + 1) - 1, 0, ⟨_, _, _, hR, hTc, hTp, hTk, hVw, hV2, (hVe0.old (fun y hy => (hTp.1 y hy).2) hκ0 ho1 ho2), hVp, hF11, rfl, hF22, hF44, hF41, hF43, rfl, ⟨by omega, by omega, by omega, by omega, by omega, by omega⟩, (fun q => ((hSI q).mono (Nat.le_refl _) (Nat.le_succ _)).pop (by omega) (by omega))⟩, by omega, (fun _ _ => by omega), fun _ => ⟨rfl, by omega, (Or.inr (Or.inr (Or.inr ⟨κ, by omega, rfl⟩)))⟩⟩ dX12_endRecord_108
              · first | exact absurd c_4 (by decide) | exact absurd (by decide) c_4
            · obtain ⟨p, hp5, hin⟩ := hin
              refine lv_aload_n hx hb dX12_endRecord_69 rfl (lv_at hl 1 rfl) ?_
              refine rl_get (v := .ref (m + 32)) hC hW fl_X12_112 hR.1 rfl dX12_endRecord_70 ?_
              refine lv_aload_n hx hb dX12_endRecord_73 rfl (lv_at hl 1 rfl) ?_
              refine rl_get (v := .int (nI (dd + 1))) hC hW fl_X12_251 hR.1 rfl dX12_endRecord_74 ?_
              refine lv_iconst (v := (nI (1))) hx hb dX12_endRecord_77 (by decide) ?_
              refine lv_isub hx hb dX12_endRecord_78 ?_
              refine rl_topn (rg_sub (c := dd) (by omega)) ?_
              refine rl_iald_n (g := I 48) hC hW hR.a48 (by omega) (by decide) dX12_endRecord_79 ?_
              refine rl_topn (hin) ?_
              refine lv_if_lt (tgt := 107) hx hb dX12_endRecord_80 (by decide) (fun c_5 => ?_) (fun c_5 => ?_)
              · exact absurd c_5 (nI_pos (by omega))
              · refine lv_aload_n hx hb dX12_endRecord_83 rfl (lv_at hl 1 rfl) ?_
                refine rl_get (v := .ref (m + 23)) hC hW fl_X12_85 hR.1 rfl dX12_endRecord_84 ?_
                refine lv_iconst (v := (nI (5))) hx hb dX12_endRecord_87 (by decide) ?_
                refine lv_aload_n hx hb dX12_endRecord_88 rfl (lv_at hl 1 rfl) ?_
                refine rl_get (v := .int (nI (dd + 1))) hC hW fl_X12_251 hR.1 rfl dX12_endRecord_89 ?_
                refine lv_imul hx hb dX12_endRecord_92 ?_
                refine rl_topn (pk_mul _ _) ?_
                refine lv_aload_n hx hb dX12_endRecord_93 rfl (lv_at hl 1 rfl) ?_
                refine rl_get (v := .ref (m + 32)) hC hW fl_X12_112 hR.1 rfl dX12_endRecord_94 ?_
                refine lv_aload_n hx hb dX12_endRecord_97 rfl (lv_at hl 1 rfl) ?_
                refine rl_get (v := .int (nI (dd + 1))) hC hW fl_X12_251 hR.1 rfl dX12_endRecord_98 ?_
                refine lv_iconst (v := (nI (1))) hx hb dX12_endRecord_101 (by decide) ?_
                refine lv_isub hx hb dX12_endRecord_102 ?_
                refine rl_topn (rg_sub (c := dd) (by omega)) ?_
                refine rl_iald_n (g := I 48) hC hW hR.a48 (by omega) (by decide) dX12_endRecord_103 ?_
                refine rl_topn (hin) ?_
                refine lv_iadd hx hb dX12_endRecord_104 ?_
                refine rl_topn (nI_add _ _) ?_
                refine lv_iload_n hx hb dX12_endRecord_105 rfl (lv_at hl 0 rfl) ?_
                refine rl_iast_n (g := I 32) hC hW hR.a32 (by omega) (by decide) dX12_endRecord_106 (fun H locs hW => ?_)
                have hR := hR.s32 (upd (I 32) (((5) * (dd + 1)) + (p)) ((nI (1000000 + κ))))
                refine lv_iload_n hx hb dX12_endRecord_107 rfl (lv_at hl 0 rfl) ?_
                exact rl_iret hC hW hr hlk (Nat.le_refl _) (Nat.le_refl _) ⟨_, rfl, rfl, rfl, κ + 1, (dd + 1), (dd + 1) - 1, 0, ⟨_, _, _, hR, hTc, hTp, hTk, hVw, hV2, (hVe0.old (fun y hy => (hTp.1 y hy).2) hκ0 ho1 ho2), hVp, hF11, rfl, hF22, hF44, hF41, hF43, rfl, ⟨by omega, by omega, by omega, by omega, by omega, by omega⟩, (fun q => (((hSI q).mono (Nat.le_refl _) (Nat.le_succ _)).thing (Or.inr (Or.inr (Or.inr ⟨κ, by omega, rfl⟩)))).pop (by omega) (by omega))⟩, by omega, (fun _ _ => by omega), fun _ => ⟨rfl, by omega, (Or.inr (Or.inr (Or.inr ⟨κ, by omega, rfl⟩)))⟩⟩ dX12_endRecord_108
        · exact absurd (nI_pos' (by omega)) c3

theorem RQ.lim {t : Nat → ClassId} {f : rl_M} {m : Nat} {T : Nat → Nat → Nat} {ρ0 κ0 lv v ρ κ a d e j : Nat} {β : Int32} (h : RQ t f m T ρ0 κ0 lv v ρ κ a d e j β) : a ≤ 250 := by
  obtain ⟨I, L, F, hR, hTc, hTp, hTk, hVw, hVe, hVe0, hVp, hF11, hF14, hF22, hF44, hF41, hF43, hF45, hN, hSI⟩ := h
  obtain ⟨hlv, ha, -⟩ := hN
  omega

set_option maxHeartbeats 4000000 in
set_option maxRecDepth 100000 in
theorem cR_read (l : Launch) (D : va_G) (t : Nat → ClassId) (A : Nat → Prop) (f : rl_M) (z : Nat) (m : Nat) (T : Nat → Nat → Nat) (ρ κ : Nat) (hS : RS t f m T ρ κ) (hρ : ρ + 84 ≤ 43100) (hκ : κ + 51 ≤ 26200) (x1 x2 : Int32) : rl_Met l yX12_read (.code yX12_read cX12_read 6 (some FieldType.int)) (rl_rm 4 0 0) D t A f z [.ref (m), .int (x1), .int (x2)] (rl_qi z fun r f1 => ∃ ρ' κ', ρ' ≤ ρ + 84 ∧ κ' ≤ κ + 51 ∧ RS t f1 m T ρ' κ') := by
  obtain ⟨I, L, F, lv', hR, hTc, hTp, hTk, hVw, hVe, hVp, hF11, hF14, hF22, hlv⟩ := hS
  refine rl_begin (own := RX12) (lv := [(0, .ref (m)), (1, .int (x1)), (2, .int (x2))]) (by decide +kernel) rfl (Nat.le_of_ble_eq_true rfl) rfl fun p e s m0 args below meth c ls H locs hC hr hlk hnm hW hl hx hb => ?_
  refine lv_iload_n hx hb dX12_read_0 rfl (lv_at hl 1 rfl) ?_
  refine rl_calliQ (rl_runS (As := [.int (x1)]) (rest := []) hC hW (cR_isVersion l D t A _ z _) cs_X12_125 sm_X12_isVersion ⟨(Nat.le_of_ble_eq_true rfl), (Nat.le_of_ble_eq_true rfl)⟩ rfl hl.1 rfl (Nat.le_of_ble_eq_true rfl) dX12_read_1 ⟨(Nat.le_of_ble_eq_true rfl), (Nat.le_of_ble_eq_true rfl)⟩) hW (fun r f1 H locs hp hW => ?_)
  obtain ⟨rfl, hp⟩ := hp
  rcases hp with ⟨rfl, hp⟩ | ⟨rfl, hp⟩
  · obtain ⟨v, hv, rfl⟩ := hp
    refine lv_if_eq (tgt := 14) hx hb dX12_read_4 (by decide) (fun c9 => ?_) (fun c9 => ?_)
    · exact absurd c9 (by decide)
    · refine lv_iload_n hx hb dX12_read_7 rfl (lv_at hl 2 rfl) ?_
      refine rl_calliQ (rl_runS (As := [.int (x2)]) (rest := []) hC hW (cR_isPlace l D t A _ z _) cs_X12_148 sm_X12_isPlace ⟨(Nat.le_of_ble_eq_true rfl), (Nat.le_of_ble_eq_true rfl)⟩ rfl hl.1 rfl (Nat.le_of_ble_eq_true rfl) dX12_read_8 ⟨(Nat.le_of_ble_eq_true rfl), (Nat.le_of_ble_eq_true rfl)⟩) hW (fun r f1 H locs hp hW => ?_)
      obtain ⟨rfl, hp⟩ := hp
      rcases hp with ⟨rfl, hp⟩ | ⟨rfl, hp⟩
      · obtain ⟨p0, hp0, rfl⟩ := hp
        refine lv_if_ne (tgt := 16) hx hb dX12_read_11 (by decide) (fun c9 => ?_) (fun c9 => ?_)
        · refine lv_aload_n hx hb dX12_read_16 rfl (lv_at hl 0 rfl) ?_
          refine rl_get (v := .int (F 11)) hC hW fl_X12_151 hR.1 rfl dX12_read_17 ?_
          refine rl_topn (y := nI (ρ)) (hF11) ?_
          refine lv_istore_n (lv' := [(3, .int (nI (ρ))), (0, .ref (m)), (1, .int (nI (v))), (2, .int (nI (p0)))]) hx hb dX12_read_20 rfl hl (by decide) rfl (fun ls hl => ?_)
          refine lv_aload_n hx hb dX12_read_21 rfl (lv_at hl 1 rfl) ?_
          refine rl_get (v := .int (F 14)) hC hW fl_X12_177 hR.1 rfl dX12_read_22 ?_
          refine rl_topn (y := nI (κ)) (hF14) ?_
          refine lv_istore (lv' := [(4, .int (nI (κ))), (3, .int (nI (ρ))), (0, .ref (m)), (1, .int (nI (v))), (2, .int (nI (p0)))]) hx hb dX12_read_25 hl (by decide) rfl (fun ls hl => ?_)
          refine lv_aload_n hx hb dX12_read_27 rfl (lv_at hl 2 rfl) ?_
          refine lv_iload_n hx hb dX12_read_28 rfl (lv_at hl 3 rfl) ?_
          refine rl_put (v := .int (nI (v))) hC hW fp_X12_258 hR.1 (Nat.le_of_ble_eq_true rfl) rfl rfl dX12_read_29 (fun H locs hW => ?_)
          have hR := hR.f44 (nI (v))
          refine lv_aload_n hx hb dX12_read_32 rfl (lv_at hl 2 rfl) ?_
          refine lv_iconst (v := (nI (0))) hx hb dX12_read_33 (by decide) ?_
          refine rl_put (v := .int (nI (0))) hC hW fp_X12_241 hR.1 (Nat.le_of_ble_eq_true rfl) rfl rfl dX12_read_34 (fun H locs hW => ?_)
          have hR := hR.f41 (nI (0))
          refine lv_aload_n hx hb dX12_read_37 rfl (lv_at hl 2 rfl) ?_
          refine lv_bipush (v := (-3)) hx hb dX12_read_38 (by decide) ?_
          refine rl_put (v := .int (-3)) hC hW fp_X12_244 hR.1 (Nat.le_of_ble_eq_true rfl) rfl rfl dX12_read_40 (fun H locs hW => ?_)
          have hR := hR.f42 (-3)
          refine lv_aload_n hx hb dX12_read_43 rfl (lv_at hl 2 rfl) ?_
          refine lv_iconst (v := (nI (0))) hx hb dX12_read_44 (by decide) ?_
          refine rl_put (v := .int (nI (0))) hC hW fp_X12_238 hR.1 (Nat.le_of_ble_eq_true rfl) rfl rfl dX12_read_45 (fun H locs hW => ?_)
          have hR := hR.f43 (nI (0))
          refine lv_aload_n hx hb dX12_read_48 rfl (lv_at hl 2 rfl) ?_
          refine lv_iconst (v := (nI (0))) hx hb dX12_read_49 (by decide) ?_
          refine rl_put (v := .int (nI (0))) hC hW fp_X12_251 hR.1 (Nat.le_of_ble_eq_true rfl) rfl rfl dX12_read_50 (fun H locs hW => ?_)
          have hR := hR.f45 (nI (0))
          refine lv_iconst (v := (-1)) hx hb dX12_read_53 (by decide) ?_
          refine lv_istore (lv' := [(5, .int (-1)), (4, .int (nI (κ))), (3, .int (nI (ρ))), (0, .ref (m)), (1, .int (nI (v))), (2, .int (nI (p0)))]) hx hb dX12_read_54 hl (by decide) rfl (fun ls hl => ?_)
          refine lv_aload_n hx hb dX12_read_56 rfl (lv_at hl 3 rfl) ?_
          refine lv_iconst (v := (nI (1))) hx hb dX12_read_57 (by decide) ?_
          refine rl_callvQ (rl_runV (b := m) (As := [.int (nI (1))]) (rest := []) hC hW (cR_beginRecord l D t A _ z m T ρ κ lv' v ρ κ 0 0 ⟨_, _, _, hR, hTc, hTp, hTk, hVw, hVe, hVe, hVp, hF11, hF14, hF22, rfl, rfl, rfl, rfl, ⟨hlv, by omega, by omega, hv, Nat.le_refl _, Nat.le_refl _⟩, fun _ => ⟨fun i hi => absurd hi (Nat.not_lt_zero _), fun i hi => absurd hi (Nat.not_lt_zero _)⟩⟩ 1 (by decide)) cs_X12_265 im_X12_beginRecord sl_X12_beginRecord hR.1 rfl ⟨(Nat.le_of_ble_eq_true rfl), (Nat.le_of_ble_eq_true rfl)⟩ rfl hl.1 rfl (Nat.le_of_ble_eq_true rfl) dX12_read_58 ⟨(Nat.le_of_ble_eq_true rfl), (Nat.le_of_ble_eq_true rfl)⟩) hW (fun f1 H locs hp hW => ?_)
          obtain ⟨a1, d1, β1, e1, hQ, hbe⟩ := hp
          replace hl : lv_has ls 6 [(0, .ref (m)), (2, .int (nI (p0))), (3, .int (nI (ρ))), (4, .int (nI (κ))), (5, .int (-1))] := lv_sub hl [3, 5, 2, 1, 0] rfl
          have hinv : ∃ (f2 : rl_M) (ρ' κ' a' d' e' j' : Nat) (β' r : Int32), rl_W D A f2 z s.heap H locs ∧ RQ t f2 m T ρ κ lv' v ρ' κ' a' d' e' j' β' ∧ (β' = 0 → e' = d' ∧ (0 < d' → j' + 1 = d') ∧ 5 * (κ' - κ) + 5 * d' ≤ a' + 3 ∧ 3 * (ρ' - ρ) ≤ a' ∧ RVt ρ' κ' r) ∧ lv_has ls 6 [(0, .ref (m)), (2, .int (nI (p0))), (3, .int (nI (ρ))), (4, .int (nI (κ))), (5, .int (r))] := ⟨_, ρ, κ, a1, d1, e1, 0, β1, -1, hW, hQ, fun q => by
            obtain ⟨rfl, rfl, rfl⟩ := hbe q
            exact ⟨rfl, fun _ => rfl, by omega, by omega, Or.inl rfl⟩, hl⟩
          clear hW hl hQ hR hbe
          obtain ⟨f2, ρ', κ', a', d', e', j', β', r, hW, hQ, hpo, hl⟩ := hinv
          obtain ⟨n, hn⟩ : ∃ n, rf_mr β' a' d' < n := ⟨_, Nat.lt_succ_self _⟩
          induction n generalizing f2 ρ' κ' a' d' e' j' β' r H locs ls with
          | zero => exact absurd hn (Nat.not_lt_zero _)
          | succ n ih =>
            have hQ0 := hQ
            obtain ⟨I, L, F, hR, hTc, hTp, hTk, hVw, hVe, hVe0, hVp, hF11, hF14, hF22, hF44, hF41, hF43, hF45, hN, hSI⟩ := hQ
            obtain ⟨hlv, ha, hd6, hv3, hρ0, hκ0⟩ := id hN
            refine lv_aload_n hx hb dX12_read_61 rfl (lv_at hl 0 rfl) ?_
            refine rl_get (v := .int (F 43)) hC hW fl_X12_238 hR.1 rfl dX12_read_62 ?_
            refine lv_if_ne (tgt := 122) hx hb dX12_read_65 (by decide) (fun c1 => ?_) (fun c1 => ?_)
            · have hβ : β' ≠ 0 := fun q => c1 (hF43.trans q)
              refine lv_aload_n hx hb dX12_read_122 rfl (lv_at hl 0 rfl) ?_
              refine lv_aload_n hx hb dX12_read_123 rfl (lv_at hl 0 rfl) ?_
              refine rl_get (v := .int (F 43)) hC hW fl_X12_238 hR.1 rfl dX12_read_124 ?_
              refine rl_put (v := .int (F 43)) hC hW fp_X12_187 hR.1 (Nat.le_of_ble_eq_true rfl) rfl rfl dX12_read_127 (fun H locs hW => ?_)
              have hR := hR.f24 (F 43)
              refine lv_aload_n hx hb dX12_read_130 rfl (lv_at hl 0 rfl) ?_
              refine lv_aload_n hx hb dX12_read_131 rfl (lv_at hl 0 rfl) ?_
              refine rl_get (v := .int (F 43)) hC hW fl_X12_238 hR.1 rfl dX12_read_132 ?_
              refine lv_if_ne (tgt := 143) hx hb dX12_read_135 (by decide) (fun c_1 => ?_) (fun c_1 => ?_)
              · refine lv_aload_n hx hb dX12_read_143 rfl (lv_at hl 0 rfl) ?_
                refine rl_get (v := .int (F 42)) hC hW fl_X12_244 hR.1 rfl dX12_read_144 ?_
                refine rl_put (v := .int (F 42)) hC hW fp_X12_78 hR.1 (Nat.le_of_ble_eq_true rfl) rfl rfl dX12_read_147 (fun H locs hW => ?_)
                have hR := hR.f25 (F 42)
                refine lv_aload_n hx hb dX12_read_150 rfl (lv_at hl 0 rfl) ?_
                refine lv_aload_n hx hb dX12_read_151 rfl (lv_at hl 0 rfl) ?_
                refine rl_get (v := .int (F 43)) hC hW fl_X12_238 hR.1 rfl dX12_read_152 ?_
                refine lv_if_ne (tgt := 162) hx hb dX12_read_155 (by decide) (fun c_2 => ?_) (fun c_2 => ?_)
                · refine lv_aload_n hx hb dX12_read_162 rfl (lv_at hl 0 rfl) ?_
                  refine rl_get (v := .int (F 45)) hC hW fl_X12_251 hR.1 rfl dX12_read_163 ?_
                  refine rl_topn (y := nI (d')) (hF45) ?_
                  refine rl_put (v := .int (nI (d'))) hC hW fp_X12_190 hR.1 (Nat.le_of_ble_eq_true rfl) rfl rfl dX12_read_166 (fun H locs hW => ?_)
                  have hR := hR.f26 (nI (d'))
                  refine lv_aload_n hx hb dX12_read_169 rfl (lv_at hl 0 rfl) ?_
                  refine rl_get (v := .int (F 43)) hC hW fl_X12_238 hR.1 rfl dX12_read_170 ?_
                  refine lv_if_ne (tgt := 197) hx hb dX12_read_173 (by decide) (fun c_3 => ?_) (fun c_3 => ?_)
                  · refine lv_aload_n hx hb dX12_read_197 rfl (lv_at hl 0 rfl) ?_
                    refine lv_iload_n hx hb dX12_read_198 rfl (lv_at hl 2 rfl) ?_
                    refine rl_put (v := .int (nI (ρ))) hC hW fp_X12_151 hR.1 (Nat.le_of_ble_eq_true rfl) rfl rfl dX12_read_199 (fun H locs hW => ?_)
                    have hR := hR.f11 (nI (ρ))
                    refine lv_aload_n hx hb dX12_read_202 rfl (lv_at hl 0 rfl) ?_
                    refine lv_iload hx hb dX12_read_203 (lv_at hl 3 rfl) ?_
                    refine rl_put (v := .int (nI (κ))) hC hW fp_X12_177 hR.1 (Nat.le_of_ble_eq_true rfl) rfl rfl dX12_read_205 (fun H locs hW => ?_)
                    have hR := hR.f14 (nI (κ))
                    refine lv_aload_n hx hb dX12_read_208 rfl (lv_at hl 0 rfl) ?_
                    refine lv_dup hx hb dX12_read_209 rfl ?_
                    refine rl_get (v := .int (F 30)) hC hW fl_X12_279 hR.1 rfl dX12_read_210 ?_
                    refine lv_iconst (v := (nI (1))) hx hb dX12_read_213 (by decide) ?_
                    refine lv_iadd hx hb dX12_read_214 ?_
                    refine lv_topi (fun x_4 ex_4 => ?_)
                    refine rl_put (v := .int (x_4)) hC hW fp_X12_279 hR.1 (Nat.le_of_ble_eq_true rfl) rfl rfl dX12_read_215 (fun H locs hW => ?_)
                    have hR := hR.f30 (x_4)
                    refine lv_aload_n hx hb dX12_read_218 rfl (lv_at hl 0 rfl) ?_
                    refine rl_get (v := .int (F 43)) hC hW fl_X12_187 hR.1 rfl dX12_read_219 ?_
                    exact rl_iret hC hW hr hlk (Nat.le_refl _) (Nat.le_refl _) ⟨_, rfl, rfl, rfl, ρ, κ, by omega, by omega, ⟨_, _, _, lv', hR, hTc, hTp, hTk, (fun x hx => hVw x (by omega)), hVe0, hVp, rfl, rfl, hF22, hlv⟩⟩ dX12_read_222
                  · exact absurd (hF43.symm.trans c_3) hβ
                · exact absurd (hF43.symm.trans c_2) hβ
              · exact absurd (hF43.symm.trans c_1) hβ
            · have hβ0 : β' = 0 := hF43.symm.trans c1
              obtain ⟨hed, hjd, hp1, hp2, hrv⟩ := hpo hβ0
              subst hβ0; subst hed
              refine lv_aload_n hx hb dX12_read_68 rfl (lv_at hl 0 rfl) ?_
              refine rl_get (v := .int (F 45)) hC hW fl_X12_251 hR.1 rfl dX12_read_69 ?_
              refine rl_topn (y := nI (e')) (hF45) ?_
              refine lv_if_le (tgt := 122) hx hb dX12_read_72 (by decide) (fun c2 => ?_) (fun c2 => ?_)
              · have hd0 : e' = 0 := by have := rg_le (b := 0) c2 (by omega) (by decide); omega
                refine lv_aload_n hx hb dX12_read_122 rfl (lv_at hl 0 rfl) ?_
                refine lv_aload_n hx hb dX12_read_123 rfl (lv_at hl 0 rfl) ?_
                refine rl_get (v := .int (F 43)) hC hW fl_X12_238 hR.1 rfl dX12_read_124 ?_
                refine rl_topn (y := nI (0)) (hF43.trans (by decide)) ?_
                refine rl_put (v := .int (nI (0))) hC hW fp_X12_187 hR.1 (Nat.le_of_ble_eq_true rfl) rfl rfl dX12_read_127 (fun H locs hW => ?_)
                have hR := hR.f24 (nI (0))
                refine lv_aload_n hx hb dX12_read_130 rfl (lv_at hl 0 rfl) ?_
                refine lv_aload_n hx hb dX12_read_131 rfl (lv_at hl 0 rfl) ?_
                refine rl_get (v := .int (F 43)) hC hW fl_X12_238 hR.1 rfl dX12_read_132 ?_
                refine rl_topn (y := nI (0)) (hF43.trans (by decide)) ?_
                refine lv_if_ne (tgt := 143) hx hb dX12_read_135 (by decide) (fun c_5 => ?_) (fun c_5 => ?_)
                · first | exact absurd c_5 (by decide) | exact absurd (by decide) c_5
                · refine lv_bipush (v := (-3)) hx hb dX12_read_138 (by decide) ?_
                  refine lv_goto (tgt := 147) hx hb dX12_read_140 (by decide) ?_
                  refine rl_put (v := .int (-3)) hC hW fp_X12_78 hR.1 (Nat.le_of_ble_eq_true rfl) rfl rfl dX12_read_147 (fun H locs hW => ?_)
                  have hR := hR.f25 (-3)
                  refine lv_aload_n hx hb dX12_read_150 rfl (lv_at hl 0 rfl) ?_
                  refine lv_aload_n hx hb dX12_read_151 rfl (lv_at hl 0 rfl) ?_
                  refine rl_get (v := .int (F 43)) hC hW fl_X12_238 hR.1 rfl dX12_read_152 ?_
                  refine rl_topn (y := nI (0)) (hF43.trans (by decide)) ?_
                  refine lv_if_ne (tgt := 162) hx hb dX12_read_155 (by decide) (fun c_6 => ?_) (fun c_6 => ?_)
                  · first | exact absurd c_6 (by decide) | exact absurd (by decide) c_6
                  · refine lv_iconst (v := (nI (0))) hx hb dX12_read_158 (by decide) ?_
                    refine lv_goto (tgt := 166) hx hb dX12_read_159 (by decide) ?_
                    refine rl_put (v := .int (nI (0))) hC hW fp_X12_190 hR.1 (Nat.le_of_ble_eq_true rfl) rfl rfl dX12_read_166 (fun H locs hW => ?_)
                    have hR := hR.f26 (nI (0))
                    refine lv_aload_n hx hb dX12_read_169 rfl (lv_at hl 0 rfl) ?_
                    refine rl_get (v := .int (F 43)) hC hW fl_X12_238 hR.1 rfl dX12_read_170 ?_
                    refine rl_topn (y := nI (0)) (hF43.trans (by decide)) ?_
                    refine lv_if_ne (tgt := 197) hx hb dX12_read_173 (by decide) (fun c_7 => ?_) (fun c_7 => ?_)
                    · first | exact absurd c_7 (by decide) | exact absurd (by decide) c_7
                    · refine lv_aload_n hx hb dX12_read_176 rfl (lv_at hl 0 rfl) ?_
                      refine rl_get (v := .ref (m + 18)) hC hW fl_X12_66 hR.1 rfl dX12_read_177 ?_
                      refine lv_iload_n hx hb dX12_read_180 rfl (lv_at hl 1 rfl) ?_
                      refine lv_iload hx hb dX12_read_181 (lv_at hl 4 rfl) ?_
                      refine rl_iast_n (g := I 19) hC hW hR.a19 (by omega) (by decide) dX12_read_183 (fun H locs hW => ?_)
                      have hR := hR.s19 (upd (I 19) (p0) ((r)))
                      refine lv_aload_n hx hb dX12_read_184 rfl (lv_at hl 0 rfl) ?_
                      refine lv_dup hx hb dX12_read_185 rfl ?_
                      refine rl_get (v := .int (F 29)) hC hW fl_X12_276 hR.1 rfl dX12_read_186 ?_
                      refine lv_iconst (v := (nI (1))) hx hb dX12_read_189 (by decide) ?_
                      refine lv_iadd hx hb dX12_read_190 ?_
                      refine lv_topi (fun x_8 ex_8 => ?_)
                      refine rl_put (v := .int (x_8)) hC hW fp_X12_276 hR.1 (Nat.le_of_ble_eq_true rfl) rfl rfl dX12_read_191 (fun H locs hW => ?_)
                      have hR := hR.f29 (x_8)
                      refine lv_goto (tgt := 218) hx hb dX12_read_194 (by decide) ?_
                      refine lv_aload_n hx hb dX12_read_218 rfl (lv_at hl 0 rfl) ?_
                      refine rl_get (v := .int (nI (0))) hC hW fl_X12_187 hR.1 rfl dX12_read_219 ?_
                      exact rl_iret hC hW hr hlk (Nat.le_refl _) (Nat.le_refl _) ⟨_, rfl, rfl, rfl, ρ', κ', by omega, by omega, ⟨_, _, _, lv', hR, hTc, hTp, hTk, hVw, hVe, (hVp.mono hρ0 hκ0).set hrv, hF11, hF14, hF22, hlv⟩⟩ dX12_read_222
              · have hd0 : e' ≠ 0 := fun q => c2 (by rw [q]; decide)
                obtain ⟨dd, rfl⟩ : ∃ dd, e' = dd + 1 := ⟨e' - 1, by omega⟩
                obtain rfl : j' = dd := by have := hjd (by omega); omega
                refine lv_aload_n hx hb dX12_read_75 rfl (lv_at hl 0 rfl) ?_
                refine rl_get (v := .ref (m + 31)) hC hW fl_X12_109 hR.1 rfl dX12_read_76 ?_
                refine lv_aload_n hx hb dX12_read_79 rfl (lv_at hl 0 rfl) ?_
                refine rl_get (v := .int (F 45)) hC hW fl_X12_251 hR.1 rfl dX12_read_80 ?_
                refine rl_topn (y := nI (j' + 1)) (hF45) ?_
                refine lv_iconst (v := (nI (1))) hx hb dX12_read_83 (by decide) ?_
                refine lv_isub hx hb dX12_read_84 ?_
                refine rl_topn (rg_sub (c := j') (by omega)) ?_
                refine rl_lald_n (g := L 47) hC hW hR.a47 (by omega) (by decide) dX12_read_85 ?_
                refine lv_lconst (v := 0) hx hb dX12_read_86 (by decide) ?_
                refine W.lcmp hx hb dX12_read_87 ?_
                refine lv_if_le (tgt := 113) hx hb dX12_read_88 (by decide) (fun c3 => ?_) (fun c3 => ?_)
                · refine lv_aload_n hx hb dX12_read_113 rfl (lv_at hl 0 rfl) ?_
                  refine rl_calliQ (rl_runV (b := m) (As := []) (rest := []) hC hW (cR_endRecord l D t A _ z m T ρ κ lv' v ρ' κ' a' j' hQ0 (by omega) (by omega) hp1 hp2) cs_X12_272 im_X12_endRecord sl_X12_endRecord hR.1 rfl ⟨(Nat.le_of_ble_eq_true rfl), (Nat.le_of_ble_eq_true rfl)⟩ rfl hl.1 rfl (Nat.le_of_ble_eq_true rfl) dX12_read_114 ⟨(Nat.le_of_ble_eq_true rfl), (Nat.le_of_ble_eq_true rfl)⟩) hW (fun r2 f1 H locs hp hW => ?_)
                  obtain ⟨κ2, d2, j2, β2, hQ, hkk, hj2, hpe⟩ := hp
                  refine lv_istore (lv' := [(5, .int (r2)), (0, .ref (m)), (2, .int (nI (p0))), (3, .int (nI (ρ))), (4, .int (nI (κ)))]) hx hb dX12_read_117 hl (by decide) rfl (fun ls hl => ?_)
                  refine lv_goto (tgt := 61) hx hb dX12_read_119 (by decide) ?_
                  replace hl : lv_has ls 6 [(0, .ref (m)), (2, .int (nI (p0))), (3, .int (nI (ρ))), (4, .int (nI (κ))), (5, .int (r2))] := lv_sub hl [1, 2, 3, 4, 0] rfl
                  exact ih _ _ _ _ ρ' κ2 a' d2 d2 j2 β2 r2 hW hQ (fun q => by
                    obtain ⟨rfl, g1, g2⟩ := hpe q
                    exact ⟨rfl, hj2 q, g1, hp2, g2⟩) hl (by
                    unfold rf_mr at hn ⊢
                    rw [if_pos rfl] at hn
                    split
                    · rename_i q
                      obtain ⟨rfl, -, -⟩ := hpe q
                      omega
                    · omega)
                · refine lv_aload_n hx hb dX12_read_91 rfl (lv_at hl 0 rfl) ?_
                  refine rl_get (v := .ref (m + 31)) hC hW fl_X12_109 hR.1 rfl dX12_read_92 ?_
                  refine lv_aload_n hx hb dX12_read_95 rfl (lv_at hl 0 rfl) ?_
                  refine rl_get (v := .int (F 45)) hC hW fl_X12_251 hR.1 rfl dX12_read_96 ?_
                  refine rl_topn (y := nI (j' + 1)) (hF45) ?_
                  refine lv_iconst (v := (nI (1))) hx hb dX12_read_99 (by decide) ?_
                  refine lv_isub hx hb dX12_read_100 ?_
                  refine rl_topn (rg_sub (c := j') (by omega)) ?_
                  refine lv_dup2_11 hx hb dX12_read_101 rfl rfl ?_
                  refine rl_lald_n (g := L 47) hC hW hR.a47 (by omega) (by decide) dX12_read_102 ?_
                  refine lv_lconst (v := 1) hx hb dX12_read_103 (by decide) ?_
                  refine lv_lsub hx hb dX12_read_104 ?_
                  refine lv_topl (fun x_9 ex_9 => ?_)
                  refine rl_last_n (g := L 47) hC hW hR.a47 (by omega) (by decide) dX12_read_105 (fun H locs hW => ?_)
                  have hR := hR.s47 (vp_updL (L 47) (j') (x_9))
                  refine lv_aload_n hx hb dX12_read_106 rfl (lv_at hl 0 rfl) ?_
                  refine rl_callvQ (rl_runV (b := m) (As := []) (rest := []) hC hW (cR_readPart l D t A _ z m T ρ κ lv' v ρ' κ' a' j' ⟨_, _, _, hR, hTc, hTp, hTk, hVw, hVe, hVe0, hVp, hF11, hF14, hF22, hF44, hF41, hF43, hF45, hN, hSI⟩ (by omega) (by omega) hp1 hp2) cs_X12_269 im_X12_readPart sl_X12_readPart hR.1 rfl ⟨(Nat.le_of_ble_eq_true rfl), (Nat.le_of_ble_eq_true rfl)⟩ rfl hl.1 rfl (Nat.le_of_ble_eq_true rfl) dX12_read_107 ⟨(Nat.le_of_ble_eq_true rfl), (Nat.le_of_ble_eq_true rfl)⟩) hW (fun f1 H locs hp hW => ?_)
                  obtain ⟨ρ2, a2, d2, e2, j2, β2, hQ, hrr, hpe⟩ := hp
                  refine lv_goto (tgt := 61) hx hb dX12_read_110 (by decide) ?_
                  replace hl : lv_has ls 6 [(0, .ref (m)), (2, .int (nI (p0))), (3, .int (nI (ρ))), (4, .int (nI (κ))), (5, .int (r))] := lv_sub hl [0, 1, 2, 3, 4] rfl
                  exact ih _ _ _ _ ρ2 κ' a2 d2 e2 j2 β2 r hW hQ (fun q => by
                    obtain ⟨g1, g2, g3, g4, g5, g6, g7⟩ := hpe q
                    exact ⟨g1, fun _ => g3, g4, g5, hrv.mono hrr (Nat.le_refl _)⟩) hl (by
                    have hlvq := hQ.lim
                    unfold rf_mr at hn ⊢
                    rw [if_pos rfl] at hn
                    split
                    · rename_i q
                      obtain ⟨g1, g2, g3, g4, g5, g6, g7⟩ := hpe q
                      omega
                    · omega)
        · exact absurd c9 (by decide)
      · have hq := hp
        refine lv_if_ne (tgt := 16) hx hb dX12_read_11 (by decide) (fun c9 => ?_) (fun c9 => ?_)
        · exact absurd rfl c9
        · refine lv_iconst (v := (-1)) hx hb dX12_read_14 (by decide) ?_
          exact rl_iret hC hW hr hlk (Nat.le_refl _) (Nat.le_refl _) ⟨_, rfl, rfl, rfl, ρ, κ, by omega, by omega, ⟨_, _, _, lv', hR, hTc, hTp, hTk, hVw, hVe, hVp, hF11, hF14, hF22, hlv⟩⟩ dX12_read_15
  · have hq := hp
    refine lv_if_eq (tgt := 14) hx hb dX12_read_4 (by decide) (fun c9 => ?_) (fun c9 => ?_)
    · refine lv_iconst (v := (-1)) hx hb dX12_read_14 (by decide) ?_
      exact rl_iret hC hW hr hlk (Nat.le_refl _) (Nat.le_refl _) ⟨_, rfl, rfl, rfl, ρ, κ, by omega, by omega, ⟨_, _, _, lv', hR, hTc, hTp, hTk, hVw, hVe, hVp, hF11, hF14, hF22, hlv⟩⟩ dX12_read_15
    · exact absurd rfl c9
