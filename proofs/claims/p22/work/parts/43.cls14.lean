
theorem rg_minl (y : Int64) : (if (250 : Int64) < y then (250 : Int64) else y) ≤ 250 := by
  split
  · exact Int64.le_refl _
  · rename_i h
    exact Int64.not_lt.mp h
theorem rg_l5 {x : Int64} (h1 : ¬ x < 0) (h2 : x < 5) : ∃ c : Nat, c < 5 ∧ x = lN c := by
  rw [Int64.lt_iff_toInt_lt, show (0 : Int64).toInt = 0 by decide] at h1
  rw [Int64.lt_iff_toInt_lt, show (5 : Int64).toInt = 5 by decide] at h2
  refine ⟨x.toInt.toNat, by omega, ?_⟩
  apply Int64.toInt_inj.mp
  rw [lN_toInt (by omega)]
  omega
section RDP
variable {t : Nat → ClassId} {f f1 f2 : rl_M} {x : Nat} {T : Nat → Nat → Nat} {E E' : Nat → Nat → Nat} {g : Nat → Int32} {mo : Int32} {u u1 : pQ} {w : Nat} {y : Int64} {kn : Bool}
theorem lf_all (h : qGW T u) (hl : q_leaf u = (y, u1)) : qst T u u1 ∧ q_G u1 = q_G u ∧ q_rho u1 = q_rho u ∧ q_kap u1 = q_kap u ∧ q_dp u1 = q_dp u ∧ (q_bad u1 = 0 → q_bad u = 0 ∧ q_at u1 = q_at u + 1) ∧ (q_bad u1 ≠ 0 → y = 0) := by
  have h1 := st_leaf h
  have h2 := lf_G (q := u)
  have h3 := lf_at (q := u)
  have h4 : q_bad (q_leaf u).2 ≠ 0 → (q_leaf u).1 = 0 := by
    by_cases h0 : q_bad u = 0
    · by_cases hl : q_at u < (q_G u).1 4 0
      · rw [lf_0 h0 hl]
        intro q
        exact absurd h0 q
      · rw [lf_4 h0 hl]
        intro _
        rfl
    · rw [lf_b h0]
      intro _
      rfl
  rw [hl] at h1 h2 h3 h4
  exact ⟨h1, h2.1, h2.2.1, h2.2.2.1, h2.2.2.2, fun q => ⟨(h1.2.2.2.2.2.2 q).1, h3 q⟩, h4⟩
theorem row_eq (hl : q_leaf u = (y, u1)) : q_row kn u = q_row1 kn y u1 := by unfold q_row; rw [hl]
theorem rw_n1 (hm : y = -1) : q_row1 kn y u = (none, u) := by
  subst hm
  by_cases h : q_bad u = 0
  · exact rw_m1 h
  · exact rw_b h
theorem rw_n6 (h0 : y < 0) (hm : y ≠ -1) : q_row1 kn y u = (none, q_fail 6 u) := by
  by_cases h : q_bad u = 0
  · refine rw_6 h ?_
    rw [Int64.lt_iff_toInt_lt, show (0 : Int64).toInt = 0 by decide] at h0
    rw [Int64.lt_iff_toInt_lt, show (-1 : Int64).toInt = -1 by decide]
    have h1 : y.toInt ≠ -1 := fun q => hm (Int64.toInt_inj.mp (q.trans (show (-1 : Int) = (-1 : Int64).toInt by decide)))
    omega
  · rw [rw_b h, fl_b h]
theorem rw_n2 (h8 : 8 < y) : q_row1 kn y u = (none, q_fail 2 u) := by
  by_cases h : q_bad u = 0
  · exact rw_2 h h8
  · rw [rw_b h, fl_b h]
/-- what a step of the reading leaves -/
def cST (t : Nat → ClassId) (x : Nat) (T : Nat → Nat → Nat) (w r : Nat) (g : Nat → Int32) (mo : Int32) (f : rl_M) (E : Nat → Nat → Nat) (z : Nat) (u : pQ) (P : pHd × pQ) (r0 : Option Nat) (f1 : rl_M) (z1 d1 : Nat) : Prop := ∃ E' h u1, P = (h, u1) ∧ r0 = ca E' h ∧ cRD t f1 x T w r E' g mo u1 ∧ eag z (q_rho u) (q_kap u) (q_kap u1) E E' ∧ rl_on r f f1 ∧ z1 ≤ z + 3 * (q_at u1 - q_at u) ∧ d1 ≤ 13 * (q_at u1 - q_at u)
end RDP

theorem eag_rec {z ρ κ a : Nat} {E : Nat → Nat → Nat} (hz : z ≤ a) : eag z ρ κ (κ + 1) E (eup E 2 κ a) := by
  have e2 : eup E 2 κ a 2 = va_up (E 2) κ a := va_up_s _ _ _
  refine ⟨rfl, fun n hn => rfl, fun n hn => ?_, fun n h1 h2 => ?_⟩
  · rw [e2, va_up_n _ _ (by omega)]
  · rw [e2, show n = κ by omega, va_up_s]
    exact hz
theorem eag_row {z ρ κ a : Nat} {E : Nat → Nat → Nat} : eag z ρ κ κ E (eup E 1 ρ a) := by
  have e2 : eup E 1 ρ a 1 = va_up (E 1) ρ a := va_up_s _ _ _
  refine ⟨rfl, fun n hn => ?_, fun n hn => rfl, fun n h1 h2 => absurd h2 (by omega)⟩
  rw [e2, va_up_n _ _ (by omega)]

set_option maxHeartbeats 4000000 in
set_option maxRecDepth 100000 in
theorem cC_finished (l : Launch) (D : va_G) (t : Nat → ClassId) (A : Nat → Prop) (f : rl_M) (z : Nat) (x : Nat) (T : Nat → Nat → Nat) (w r : Nat) (E : Nat → Nat → Nat) (gx : Nat → Int32) (mo : Int32) (u : pQ) (hS : cRD t f x T w r E gx mo u) (hT : rt_ok T) (hw : w < 3) (dr : Option Nat) (Dr : pD) (hdr : cDO t f x T w E u dr Dr) (z0 : Nat) (hz0 : ∀ a, dr = some a → z0 ≤ a) (hdp1 : q_bad u = 0 → 1 ≤ q_dp u) : rl_Met l yX5_finished (.code yX5_finished cX5_finished 2 (some (FieldType.object "RecordLeaves$RecordThing"))) (rl_rm 4 0 0) D t A f z [.ref (r), va_rf (dr)] (rl_qq z fun r0 f1 => ∃ E' h u1, q_end T Dr u = (h, u1) ∧ r0 = ca E' h ∧ cRD t f1 x T w r E' gx mo u1 ∧ eag z0 (q_rho u) (q_kap u) (q_kap u1) E E' ∧ rl_on r f f1) := by
  refine rl_begin (own := RX5) (lv := [(0, .ref (r)), (1, va_rf (dr))]) (by decide +kernel) rfl (by cases dr <;> exact Nat.le_of_ble_eq_true rfl) (by cases dr <;> rfl) fun p e s m0 args below meth c ls H locs hC hr hlk hnm hW hl hx hb => ?_
  have hon := rl_on.rf (r := r) (f := f)
  obtain ⟨hI, hGq, hrx, hat, hbd, hdp, md, hmd, hrd⟩ := id hS
  have hl250 := hGq.2.2.2.2
  have hrd0 := hrd
  refine lv_aload_n hx hb dX5_finished_0 rfl (lv_at hl 0 rfl) ?_
  refine rl_get (v := .int (nI (q_bad u))) hC hW fl_X5_23 hrd rfl dX5_finished_1 ?_
  refine lv_if_ne (tgt := 44) hx hb dX5_finished_4 (by decide) (fun c1 => ?_) (fun c1 => ?_)
  · have hbz : q_bad u ≠ 0 := fun q => c1 (by rw [q]; rfl)
    refine lv_aload_n hx hb dX5_finished_44 rfl (lv_at hl 0 rfl) ?_
    refine rl_get (v := .int (nI (q_bad u))) hC hW fl_X5_23 hrd rfl dX5_finished_45 ?_
    refine lv_if_eq (tgt := 53) hx hb dX5_finished_48 (by decide) (fun c2 => ?_) (fun c2 => ?_)
    · exact absurd c2 c1
    · refine lv_null hx hb dX5_finished_51 ?_
      exact rl_aret (v := none) hC hW hr hlk (Nat.le_refl _) (Nat.le_refl _) ⟨_, rfl, rfl, rfl, E, none, u, en_b hbz, rfl, hS, eag.rf, hon⟩ dX5_finished_52
  · have hbz : q_bad u = 0 := (nI_eq (by omega) (by decide)).mp c1
    have hdp1 := hdp1 hbz
    obtain ⟨-, hdr2⟩ := id hdr
    rcases hdr2 with ⟨rfl, hD2⟩ | ⟨a, j, N, X, rfl, hD2, hD, hfre⟩
    · refine lv_aload_nN hx hb dX5_finished_7 rfl (lv_at hl 1 rfl) ?_
      refine lv_ifnullN (tgt := 44) hx hb dX5_finished_8 (by decide) ?_
      refine lv_aload_n hx hb dX5_finished_44 rfl (lv_at hl 0 rfl) ?_
      refine rl_get (v := .int (nI (q_bad u))) hC hW fl_X5_23 hrd rfl dX5_finished_45 ?_
      refine lv_if_eq (tgt := 53) hx hb dX5_finished_48 (by decide) (fun c2 => ?_) (fun c2 => ?_)
      · refine lv_aload_n hx hb dX5_finished_53 rfl (lv_at hl 0 rfl) ?_
        refine lv_dup hx hb dX5_finished_54 rfl ?_
        refine rl_get (v := .int (nI (q_dp u))) hC hW fl_X5_41 hrd rfl dX5_finished_55 ?_
        refine lv_iconst (v := (nI (1))) hx hb dX5_finished_58 (by decide) ?_
        refine lv_isub hx hb dX5_finished_59 ?_
        refine rl_topn (rg_sub (c := q_dp u - 1) (by omega)) ?_
        refine rl_put (v := .int (nI (q_dp u - 1))) hC hW fp_X5_41 hrd (Nat.le_of_ble_eq_true rfl) rfl rfl dX5_finished_60 (fun H locs hW => ?_)
        replace hW : rl_W D A (rl_up _ r (.inr (5, [.ref (x + 1), .ref (x + 55), .int (nI (w)), .int (nI (q_at u)), .int (q_la u), .int (nI (q_dp u - 1)), .int (nI (q_bad u)), .int (md)]))) z s.heap H locs := hW
        replace hI := hI.rdr (fs2 := [.ref (x + 1), .ref (x + 55), .int (nI (w)), .int (nI (q_at u)), .int (q_la u), .int (nI (q_dp u - 1)), .int (nI (q_bad u)), .int (md)]) hrx hrd
        replace hon := hon.tr (rl_on.up (r := r) (e := .inr (5, [.ref (x + 1), .ref (x + 55), .int (nI (w)), .int (nI (q_at u)), .int (q_la u), .int (nI (q_dp u - 1)), .int (nI (q_bad u)), .int (md)])))
        replace hrd := rl_ups hrd (.inr (5, [.ref (x + 1), .ref (x + 55), .int (nI (w)), .int (nI (q_at u)), .int (q_la u), .int (nI (q_dp u - 1)), .int (nI (q_bad u)), .int (md)]))
        refine lv_aload_nN hx hb dX5_finished_63 rfl (lv_at hl 1 rfl) ?_
        exact rl_aret (v := none) hC hW hr hlk (Nat.le_refl _) (Nat.le_refl _) ⟨_, rfl, rfl, rfl, E, none, q_up u (q_dp u - 1), en_n hD2 hbz, rfl, ⟨hI, hGq, hrx, hat, hbd, (show q_dp u - 1 ≤ 6 by omega), md, hmd, hrd⟩, eag.rf, hon⟩ dX5_finished_64
      · exact absurd c1 c2
    · obtain ⟨hj, hxa, h0, ⟨gn, h1, hgnE⟩, ⟨gt, h2, hgtE⟩⟩ := id hD
      obtain ⟨hrv, hj5, hj2, -, -⟩ := id (hI.2.2.1 j hj)
      have hXo : ∀ p, p < T 2 j → cok T (q_rho u) (q_kap u) (X p) := fun p hp => ((hdr.1 j N X hD2).2.2 p hp).1
      refine lv_aload_n hx hb dX5_finished_7 rfl (lv_at hl 1 rfl) ?_
      refine lv_ifnull hx hb dX5_finished_8 ?_
      refine lv_aload_n hx hb dX5_finished_11 rfl (lv_at hl 0 rfl) ?_
      refine lv_aload_n hx hb dX5_finished_12 rfl (lv_at hl 1 rfl) ?_
      refine rl_get (v := .ref (x + 16 + 3 * j)) hC hW fl_X5_79 h0 rfl dX5_finished_13 ?_
      refine lv_aload_n hx hb dX5_finished_16 rfl (lv_at hl 1 rfl) ?_
      refine rl_calliQ (rl_runV (b := x + 16 + 3 * j) (As := [.ref (a)]) (rest := [.ref (r)]) hC hW (cC_whyNotMade l D t A _ z x T (q_rho u) (q_kap u) (q_G u) E _ _ hI hT hGq a j N X hD hXo) cs_X5_83 im_X7_whyNotMade sl_X7_whyNotMade hrv rfl ⟨(Nat.le_of_ble_eq_true rfl), (Nat.le_of_ble_eq_true rfl)⟩ rfl hl.1 rfl (Nat.le_of_ble_eq_true rfl) dX5_finished_17 ⟨(Nat.le_of_ble_eq_true rfl), (Nat.le_of_ble_eq_true rfl)⟩) hW (fun r f1 H locs hp hW => ?_)
      obtain ⟨rfl, rfl⟩ := hp
      have hW8 := pu_why_le T (q_G u) j N X
      have hst := st_end hT hGq hdr.1
      by_cases hw0 : pu_why T (q_G u) j N X = 0
      · have hen := en_m hD2 hbz hw0
        rw [hen] at hst
        refine rl_topn (y := nI (q_bad u)) (by rw [hw0, hbz]) ?_
        refine rl_put (v := .int (nI (q_bad u))) hC hW fp_X5_23 hrd (Nat.le_of_ble_eq_true rfl) rfl rfl dX5_finished_20 (fun H locs hW => ?_)
        replace hW : rl_W D A (rl_up _ r (.inr (5, [.ref (x + 1), .ref (x + 55), .int (nI (w)), .int (nI (q_at u)), .int (q_la u), .int (nI (q_dp u)), .int (nI (q_bad u)), .int (md)]))) z s.heap H locs := hW
        replace hI := hI.rdr (fs2 := [.ref (x + 1), .ref (x + 55), .int (nI (w)), .int (nI (q_at u)), .int (q_la u), .int (nI (q_dp u)), .int (nI (q_bad u)), .int (md)]) hrx hrd
        replace hon := hon.tr (rl_on.up (r := r) (e := .inr (5, [.ref (x + 1), .ref (x + 55), .int (nI (w)), .int (nI (q_at u)), .int (q_la u), .int (nI (q_dp u)), .int (nI (q_bad u)), .int (md)])))
        replace hrd := rl_ups hrd (.inr (5, [.ref (x + 1), .ref (x + 55), .int (nI (w)), .int (nI (q_at u)), .int (q_la u), .int (nI (q_dp u)), .int (nI (q_bad u)), .int (md)]))
        refine lv_aload_n hx hb dX5_finished_23 rfl (lv_at hl 0 rfl) ?_
        refine lv_dup hx hb dX5_finished_24 rfl ?_
        refine rl_get (v := .int (md)) hC hW fl_X5_89 hrd rfl dX5_finished_25 ?_
        refine lv_aload_n hx hb dX5_finished_28 rfl (lv_at hl 0 rfl) ?_
        refine rl_get (v := .int (nI (q_bad u))) hC hW fl_X5_23 hrd rfl dX5_finished_29 ?_
        refine lv_if_ne (tgt := 39) hx hb dX5_finished_32 (by decide) (fun c2 => ?_) (fun c2 => ?_)
        · exact absurd c1 c2
        · refine lv_iconst (v := (nI (1))) hx hb dX5_finished_35 (by decide) ?_
          refine lv_goto (tgt := 40) hx hb dX5_finished_36 (by decide) ?_
          refine lv_iadd hx hb dX5_finished_40 ?_
          refine lv_topi (fun x_1 ex_1 => ?_)
          refine rl_put (v := .int (x_1)) hC hW fp_X5_89 hrd (Nat.le_of_ble_eq_true rfl) rfl rfl dX5_finished_41 (fun H locs hW => ?_)
          replace hW : rl_W D A (rl_up _ r (.inr (5, [.ref (x + 1), .ref (x + 55), .int (nI (w)), .int (nI (q_at u)), .int (q_la u), .int (nI (q_dp u)), .int (nI (q_bad u)), .int (x_1)]))) z s.heap H locs := hW
          replace hI := hI.rdr (fs2 := [.ref (x + 1), .ref (x + 55), .int (nI (w)), .int (nI (q_at u)), .int (q_la u), .int (nI (q_dp u)), .int (nI (q_bad u)), .int (x_1)]) hrx hrd
          replace hon := hon.tr (rl_on.up (r := r) (e := .inr (5, [.ref (x + 1), .ref (x + 55), .int (nI (w)), .int (nI (q_at u)), .int (q_la u), .int (nI (q_dp u)), .int (nI (q_bad u)), .int (x_1)])))
          replace hrd := rl_ups hrd (.inr (5, [.ref (x + 1), .ref (x + 55), .int (nI (w)), .int (nI (q_at u)), .int (q_la u), .int (nI (q_dp u)), .int (nI (q_bad u)), .int (x_1)]))
          refine lv_aload_n hx hb dX5_finished_44 rfl (lv_at hl 0 rfl) ?_
          refine rl_get (v := .int (nI (q_bad u))) hC hW fl_X5_23 hrd rfl dX5_finished_45 ?_
          refine lv_if_eq (tgt := 53) hx hb dX5_finished_48 (by decide) (fun c3 => ?_) (fun c3 => ?_)
          · refine lv_aload_n hx hb dX5_finished_53 rfl (lv_at hl 0 rfl) ?_
            refine lv_dup hx hb dX5_finished_54 rfl ?_
            refine rl_get (v := .int (nI (q_dp u))) hC hW fl_X5_41 hrd rfl dX5_finished_55 ?_
            refine lv_iconst (v := (nI (1))) hx hb dX5_finished_58 (by decide) ?_
            refine lv_isub hx hb dX5_finished_59 ?_
            refine rl_topn (rg_sub (c := q_dp u - 1) (by omega)) ?_
            refine rl_put (v := .int (nI (q_dp u - 1))) hC hW fp_X5_41 hrd (Nat.le_of_ble_eq_true rfl) rfl rfl dX5_finished_60 (fun H locs hW => ?_)
            replace hW : rl_W D A (rl_up _ r (.inr (5, [.ref (x + 1), .ref (x + 55), .int (nI (w)), .int (nI (q_at u)), .int (q_la u), .int (nI (q_dp u - 1)), .int (nI (q_bad u)), .int (x_1)]))) z s.heap H locs := hW
            replace hI := hI.rdr (fs2 := [.ref (x + 1), .ref (x + 55), .int (nI (w)), .int (nI (q_at u)), .int (q_la u), .int (nI (q_dp u - 1)), .int (nI (q_bad u)), .int (x_1)]) hrx hrd
            replace hon := hon.tr (rl_on.up (r := r) (e := .inr (5, [.ref (x + 1), .ref (x + 55), .int (nI (w)), .int (nI (q_at u)), .int (q_la u), .int (nI (q_dp u - 1)), .int (nI (q_bad u)), .int (x_1)])))
            replace hrd := rl_ups hrd (.inr (5, [.ref (x + 1), .ref (x + 55), .int (nI (w)), .int (nI (q_at u)), .int (q_la u), .int (nI (q_dp u - 1)), .int (nI (q_bad u)), .int (x_1)]))
            have hI9 := hI.newrec (hD.rd hon hrd0) hfre (fun p hp => (hdr.1 j N X hD2).2.2 p hp) (fun r hr => Nat.le_trans (hGq.2.1 r hr).2.1 (hT.2.1 _ (hGq.2.1 r hr).1).1)
            refine lv_aload_n hx hb dX5_finished_63 rfl (lv_at hl 1 rfl) ?_
            exact rl_aret (v := some (a)) hC hW hr hlk (Nat.le_refl _) (Nat.le_refl _) ⟨_, rfl, rfl, rfl, eup E 2 (q_kap u) a, hrec (q_kap u), q_made T u j N X, hen, (by show some a = some (va_up E 2 (va_up (E 2) (q_kap u) a) 2 (q_kap u)); rw [va_up_s, va_up_s]), ⟨hI9, hst.1.2.2.2.2.2.1, hrx, hat, hbd, (show q_dp u - 1 ≤ 6 by omega), x_1, (by show (q_G u).2.1 0 3 + 1 = mo + x_1; rw [ex_1, hmd, Int32.add_assoc]; rfl), hrd⟩, eag_rec (hz0 a rfl), hon⟩ dX5_finished_64
          · exact absurd c1 c3
      · have hen := en_w hD2 hbz hw0
        refine rl_put (v := .int (nI (pu_why T (q_G u) j N X))) hC hW fp_X5_23 hrd (Nat.le_of_ble_eq_true rfl) rfl rfl dX5_finished_20 (fun H locs hW => ?_)
        replace hW : rl_W D A (rl_up _ r (.inr (5, [.ref (x + 1), .ref (x + 55), .int (nI (w)), .int (nI (q_at u)), .int (q_la u), .int (nI (q_dp u)), .int (nI (pu_why T (q_G u) j N X)), .int (md)]))) z s.heap H locs := hW
        replace hI := hI.rdr (fs2 := [.ref (x + 1), .ref (x + 55), .int (nI (w)), .int (nI (q_at u)), .int (q_la u), .int (nI (q_dp u)), .int (nI (pu_why T (q_G u) j N X)), .int (md)]) hrx hrd
        replace hon := hon.tr (rl_on.up (r := r) (e := .inr (5, [.ref (x + 1), .ref (x + 55), .int (nI (w)), .int (nI (q_at u)), .int (q_la u), .int (nI (q_dp u)), .int (nI (pu_why T (q_G u) j N X)), .int (md)])))
        replace hrd := rl_ups hrd (.inr (5, [.ref (x + 1), .ref (x + 55), .int (nI (w)), .int (nI (q_at u)), .int (q_la u), .int (nI (q_dp u)), .int (nI (pu_why T (q_G u) j N X)), .int (md)]))
        refine lv_aload_n hx hb dX5_finished_23 rfl (lv_at hl 0 rfl) ?_
        refine lv_dup hx hb dX5_finished_24 rfl ?_
        refine rl_get (v := .int (md)) hC hW fl_X5_89 hrd rfl dX5_finished_25 ?_
        refine lv_aload_n hx hb dX5_finished_28 rfl (lv_at hl 0 rfl) ?_
        refine rl_get (v := .int (nI (pu_why T (q_G u) j N X))) hC hW fl_X5_23 hrd rfl dX5_finished_29 ?_
        have hwn : ¬ nI (pu_why T (q_G u) j N X) = 0 := fun q => hw0 ((nI_eq (by omega) (by decide)).mp q)
        refine lv_if_ne (tgt := 39) hx hb dX5_finished_32 (by decide) (fun c2 => ?_) (fun c2 => ?_)
        · refine lv_iconst (v := (nI (0))) hx hb dX5_finished_39 (by decide) ?_
          refine lv_iadd hx hb dX5_finished_40 ?_
          refine lv_topi (fun x_2 ex_2 => ?_)
          refine rl_put (v := .int (x_2)) hC hW fp_X5_89 hrd (Nat.le_of_ble_eq_true rfl) rfl rfl dX5_finished_41 (fun H locs hW => ?_)
          replace hW : rl_W D A (rl_up _ r (.inr (5, [.ref (x + 1), .ref (x + 55), .int (nI (w)), .int (nI (q_at u)), .int (q_la u), .int (nI (q_dp u)), .int (nI (pu_why T (q_G u) j N X)), .int (x_2)]))) z s.heap H locs := hW
          replace hI := hI.rdr (fs2 := [.ref (x + 1), .ref (x + 55), .int (nI (w)), .int (nI (q_at u)), .int (q_la u), .int (nI (q_dp u)), .int (nI (pu_why T (q_G u) j N X)), .int (x_2)]) hrx hrd
          replace hon := hon.tr (rl_on.up (r := r) (e := .inr (5, [.ref (x + 1), .ref (x + 55), .int (nI (w)), .int (nI (q_at u)), .int (q_la u), .int (nI (q_dp u)), .int (nI (pu_why T (q_G u) j N X)), .int (x_2)])))
          replace hrd := rl_ups hrd (.inr (5, [.ref (x + 1), .ref (x + 55), .int (nI (w)), .int (nI (q_at u)), .int (q_la u), .int (nI (q_dp u)), .int (nI (pu_why T (q_G u) j N X)), .int (x_2)]))
          refine lv_aload_n hx hb dX5_finished_44 rfl (lv_at hl 0 rfl) ?_
          refine rl_get (v := .int (nI (pu_why T (q_G u) j N X))) hC hW fl_X5_23 hrd rfl dX5_finished_45 ?_
          refine lv_if_eq (tgt := 53) hx hb dX5_finished_48 (by decide) (fun c3 => ?_) (fun c3 => ?_)
          · exact absurd c3 hwn
          · refine lv_null hx hb dX5_finished_51 ?_
            exact rl_aret (v := none) hC hW hr hlk (Nat.le_refl _) (Nat.le_refl _) ⟨_, rfl, rfl, rfl, E, none, (u.1, u.2.1, pu_why T (q_G u) j N X, u.2.2.2), hen.trans (by rw [fl_0 hbz]), rfl, ⟨hI, hGq, hrx, hat, (show pu_why T (q_G u) j N X ≤ 8 by omega), hdp, x_2, (by show (q_G u).2.1 0 3 = mo + x_2; rw [ex_2, show md + nI 0 = md from Int32.add_zero md]; exact hmd), hrd⟩, eag.rf, hon⟩ dX5_finished_52
        · exact absurd c2 hwn

set_option maxHeartbeats 4000000 in
set_option maxRecDepth 100000 in
theorem cC_nextConstant (l : Launch) (D : va_G) (t : Nat → ClassId) (A : Nat → Prop) (f : rl_M) (z : Nat) (x : Nat) (T : Nat → Nat → Nat) (w r : Nat) (E : Nat → Nat → Nat) (gx : Nat → Int32) (mo : Int32) (u : pQ) (hS : cRD t f x T w r E gx mo u) (hT : rt_ok T) (hw : w < 3) (Dr : pD) (pp : Option Nat) (pr : Option Nat) (hpr : (pr = none ∧ pp = none) ∨ ∃ (a j : Nat) (N : Nat → Int64) (X : Nat → pHd) (p0 : Nat) (pn ps po : Int32), pr = some a ∧ Dr = some (j, N, X) ∧ pp = some p0 ∧ f a = some (.inr (4, [.int pn, .int ps, .int po])) ∧ po = nI (T 8 (5 * j + p0)) ∧ T 8 (5 * j + p0) < 2) : rl_Met l yX5_nextConstant (.code yX5_nextConstant cX5_nextConstant 6 (some (FieldType.object "RecordLeaves$Constant"))) (rl_rm 3 0 0) D t A f z [.ref (r), va_rf (pr)] (rl_qq z fun r0 f1 => ∃ h u1, q_con T w Dr pp (q_leaf u).1 (q_leaf u).2 = (q_put Dr pp h, u1) ∧ r0 = ca E h ∧ cRD t f1 x T w r E gx mo u1 ∧ rl_on r f f1 ∧ q_kap u1 = q_kap u) := by
  refine rl_begin (own := RX5) (lv := [(0, .ref (r)), (1, va_rf (pr))]) (by decide +kernel) rfl (by cases pr <;> exact Nat.le_of_ble_eq_true rfl) (by cases pr <;> rfl) fun p e s m0 args below meth c ls H locs hC hr hlk hnm hW hl hx hb => ?_
  obtain ⟨hI, hGq, hrx, hat, hbd, hdp, md, hmd, hrd⟩ := id hS
  have hl250 := hGq.2.2.2.2
  refine lv_aload_n hx hb dX5_nextConstant_0 rfl (lv_at hl 0 rfl) ?_
  refine rl_calllQ (rl_runV (b := r) (As := []) (rest := []) hC hW (cC_nextLeaf l D t A _ z x T w r E _ _ u hS) cs_X5_48 im_X5_nextLeaf sl_X5_nextLeaf hrd rfl ⟨(Nat.le_of_ble_eq_true rfl), (Nat.le_of_ble_eq_true rfl)⟩ rfl hl.1 rfl (Nat.le_of_ble_eq_true rfl) dX5_nextConstant_1 ⟨(Nat.le_of_ble_eq_true rfl), (Nat.le_of_ble_eq_true rfl)⟩) hW (fun y1 f1 H locs hp hW => ?_)
  obtain ⟨u1, hlf1, hS1, hon1⟩ := hp
  rw [hlf1]
  obtain ⟨hst1, eG1, er1, ek1, ed1, hw1, hy1⟩ := lf_all hGq hlf1
  have hO1 := hon1
  obtain ⟨hI1, hGq1, hrx1, hat1, hbd1, hdp1, md1, hmd1, hrd1⟩ := id hS1
  have hl2501 := hGq1.2.2.2.2
  rcases hpr with ⟨rfl, hpn⟩ | ⟨a, j, N, X, p0, pn, ps, po, rfl, hDr, hpp, hP, hpo, hpo2⟩
  · refine lv_lstore_n (lv' := [(2, .long (y1)), (0, .ref (r)), (1, .null)]) hx hb dX5_nextConstant_4 rfl hl (by decide) rfl (fun ls hl => ?_)
    refine lv_aload_nN hx hb dX5_nextConstant_5 rfl (lv_at hl 2 rfl) ?_
    refine lv_ifnullN (tgt := 24) hx hb dX5_nextConstant_6 (by decide) ?_
    refine lv_null hx hb dX5_nextConstant_24 ?_
    exact rl_aret (v := none) hC hW hr hlk (Nat.le_refl _) (Nat.le_refl _) ⟨_, rfl, rfl, rfl, none, u1, (by rw [hpn]; exact cn_0.trans (by cases Dr <;> rfl)), rfl, hS1, hon1, ek1⟩ dX5_nextConstant_25
  · have hP1 := hon1 _ _ hP (rl_ne hP hrd (by simp))
    subst hpo hpp
    obtain ⟨hk0, -, -⟩ := id hI1.1
    refine lv_lstore_n (lv' := [(2, .long (y1)), (0, .ref (r)), (1, .ref (a))]) hx hb dX5_nextConstant_4 rfl hl (by decide) rfl (fun ls hl => ?_)
    refine lv_aload_n hx hb dX5_nextConstant_5 rfl (lv_at hl 2 rfl) ?_
    refine lv_ifnull hx hb dX5_nextConstant_6 ?_
    refine lv_lload_n hx hb dX5_nextConstant_9 rfl (lv_at hl 0 rfl) ?_
    refine lv_ldc2 (v := -1) hx hb hC.2.2.2.1 (hC.2.2.2.2.1 _ (List.mem_cons_of_mem _ mw_608)) dX5_nextConstant_10 ?_
    refine W.lcmp hx hb dX5_nextConstant_13 ?_
    refine lv_if_eq (tgt := 24) hx hb dX5_nextConstant_14 (by decide) (fun c2 => ?_) (fun c2 => ?_)
    · refine lv_null hx hb dX5_nextConstant_24 ?_
      exact rl_aret (v := none) hC hW hr hlk (Nat.le_refl _) (Nat.le_refl _) ⟨_, rfl, rfl, rfl, none, u1, cn_b hDr (fun q => q.2 ((lg_cmp_eq _ _).mp c2)), rfl, hS1, hon1, ek1⟩ dX5_nextConstant_25
    · refine lv_aload_n hx hb dX5_nextConstant_17 rfl (lv_at hl 1 rfl) ?_
      refine rl_get (v := .int (nI (q_bad u1))) hC hW fl_X5_23 hrd1 rfl dX5_nextConstant_18 ?_
      refine lv_if_eq (tgt := 26) hx hb dX5_nextConstant_21 (by decide) (fun c3 => ?_) (fun c3 => ?_)
      · have hbz : q_bad u1 = 0 := (nI_eq (by omega) (by decide)).mp c3
        have hvn : y1 ≠ -1 := fun q => c2 ((lg_cmp_eq _ _).mpr q)
        refine lv_aload_n hx hb dX5_nextConstant_26 rfl (lv_at hl 1 rfl) ?_
        refine rl_get (v := .ref (x + 1)) hC hW fl_X5_9 hrd1 rfl dX5_nextConstant_27 ?_
        refine lv_aload_n hx hb dX5_nextConstant_30 rfl (lv_at hl 2 rfl) ?_
        refine rl_get (v := .int (nI (T 8 (5 * j + p0)))) hC hW fl_X5_129 hP1 rfl dX5_nextConstant_31 ?_
        refine lv_aload_n hx hb dX5_nextConstant_34 rfl (lv_at hl 1 rfl) ?_
        refine rl_get (v := .int (nI (w))) hC hW fl_X5_19 hrd1 rfl dX5_nextConstant_35 ?_
        refine rl_callqQ (rl_runV (b := x + 1) (As := [.int (nI (T 8 (5 * j + p0))), .int (nI (w))]) (rest := []) hC hW (cC_enumVersion l D t A _ z x T _ _ _ E _ _ hI1 _ _) cs_X5_132 im_X3_enumVersion sl_X3_enumVersion hk0 rfl ⟨(Nat.le_of_ble_eq_true rfl), (Nat.le_of_ble_eq_true rfl)⟩ rfl hl.1 rfl (Nat.le_of_ble_eq_true rfl) dX5_nextConstant_38 ⟨(Nat.le_of_ble_eq_true rfl), (Nat.le_of_ble_eq_true rfl)⟩) hW (fun r1 f1 H locs hp hW => ?_)
        obtain ⟨rfl, hp⟩ := hp
        rcases hp with ⟨k, v9, hk, hv, e1, e2, rfl⟩ | ⟨rfl, hp⟩
        · obtain rfl := (nI_eq (by omega) (by omega)).mp e1
          obtain rfl := (nI_eq (by omega) (by omega)).mp e2
          have hb6 : 3 * T 8 (5 * j + p0) + w < 6 := by omega
          obtain ⟨hev, h10, -⟩ := hI1.2.1 _ hb6
          refine lv_astore (lv' := [(4, .ref (x + 3 + 2 * (3 * T 8 (5 * j + p0) + w))), (2, .long (y1)), (0, .ref (r)), (1, .ref (a))]) hx hb dX5_nextConstant_41 hl (by decide) rfl (fun ls hl => ?_)
          refine lv_aload hx hb dX5_nextConstant_43 (lv_at hl 0 rfl) ?_
          refine lv_ifnonnull (tgt := 52) hx hb dX5_nextConstant_45 (by decide) ?_
          refine lv_aload hx hb dX5_nextConstant_52 (lv_at hl 0 rfl) ?_
          refine lv_lload_n hx hb dX5_nextConstant_54 rfl (lv_at hl 1 rfl) ?_
          refine rl_callqQ (rl_runV (b := x + 3 + 2 * (3 * T 8 (5 * j + p0) + w)) (As := [.long (y1)]) (rest := []) hC hW (cC_named l D t A _ z x T _ _ _ E _ _ hI1 (3 * T 8 (5 * j + p0) + w) hb6 _) cs_X5_136 im_X2_named sl_X2_named hev rfl ⟨(Nat.le_of_ble_eq_true rfl), (Nat.le_of_ble_eq_true rfl)⟩ rfl hl.1 rfl (Nat.le_of_ble_eq_true rfl) dX5_nextConstant_55 ⟨(Nat.le_of_ble_eq_true rfl), (Nat.le_of_ble_eq_true rfl)⟩) hW (fun r2 f1 H locs hp hW => ?_)
          obtain ⟨rfl, hp⟩ := hp
          rcases hp with ⟨i, hi, rfl, hfd⟩ | ⟨rfl, hfd⟩
          · refine lv_astore (lv' := [(5, .ref (E 0 (10 * (3 * T 8 (5 * j + p0) + w) + i))), (4, .ref (x + 3 + 2 * (3 * T 8 (5 * j + p0) + w))), (2, .long (y1)), (0, .ref (r)), (1, .ref (a))]) hx hb dX5_nextConstant_58 hl (by decide) rfl (fun ls hl => ?_)
            refine lv_aload hx hb dX5_nextConstant_60 (lv_at hl 0 rfl) ?_
            refine lv_ifnonnull (tgt := 71) hx hb dX5_nextConstant_62 (by decide) ?_
            refine lv_aload hx hb dX5_nextConstant_71 (lv_at hl 0 rfl) ?_
            exact rl_aret (v := some (E 0 (10 * (3 * T 8 (5 * j + p0) + w) + i))) hC hW hr hlk (Nat.le_refl _) (Nat.le_refl _) ⟨_, rfl, rfl, rfl, hcon (10 * (3 * T 8 (5 * j + p0) + w) + i), u1, cn_f hDr hbz hvn hfd, rfl, hS1, hon1, ek1⟩ dX5_nextConstant_73
          · refine lv_astoreN (lv' := [(5, .null), (4, .ref (x + 3 + 2 * (3 * T 8 (5 * j + p0) + w))), (2, .long (y1)), (0, .ref (r)), (1, .ref (a))]) hx hb dX5_nextConstant_58 hl (by decide) rfl (fun ls hl => ?_)
            refine lv_aloadN hx hb dX5_nextConstant_60 (lv_at hl 0 rfl) ?_
            refine lv_ifnonnullN hx hb dX5_nextConstant_62 ?_
            refine lv_aload_n hx hb dX5_nextConstant_65 rfl (lv_at hl 3 rfl) ?_
            refine lv_bipush (v := (nI (7))) hx hb dX5_nextConstant_66 (by decide) ?_
            refine rl_callvQ (rl_runV (b := r) (As := [.int (nI (7))]) (rest := []) hC hW (cC_fail l D t A _ z x T w r E _ _ u1 hS1 7 (by decide)) cs_X5_44 im_X5_fail sl_X5_fail hrd1 rfl ⟨(Nat.le_of_ble_eq_true rfl), (Nat.le_of_ble_eq_true rfl)⟩ rfl hl.1 rfl (Nat.le_of_ble_eq_true rfl) dX5_nextConstant_68 ⟨(Nat.le_of_ble_eq_true rfl), (Nat.le_of_ble_eq_true rfl)⟩) hW (fun f2 H locs hp hW => ?_)
            obtain ⟨u2, hfl2, hS2, hon2⟩ := hp
            obtain ⟨eG2, er2, ek2, ed2, ea2⟩ : q_G u2 = q_G u1 ∧ q_rho u2 = q_rho u1 ∧ q_kap u2 = q_kap u1 ∧ q_dp u2 = q_dp u1 ∧ q_at u2 = q_at u1 := by rw [hfl2]; exact fl_G
            have hne2 : q_bad u2 ≠ 0 := by rw [hfl2]; exact q_fail_ne (by decide)
            have hst2 : qst T u1 u2 := by rw [hfl2]; exact st_fail hGq1 (by decide)
            have hO2 := hO1.tr hon2
            obtain ⟨hI2, hGq2, hrx2, hat2, hbd2, hdp2, md2, hmd2, hrd2⟩ := id hS2
            have hl2502 := hGq2.2.2.2.2
            refine lv_aloadN hx hb dX5_nextConstant_71 (lv_at hl 0 rfl) ?_
            exact rl_aret (v := none) hC hW hr hlk (Nat.le_refl _) (Nat.le_refl _) ⟨_, rfl, rfl, rfl, none, u2, (cn_n hDr hbz hvn hfd).trans (by rw [hfl2]), rfl, hS2, hon1.tr hon2, ek2.trans ek1⟩ dX5_nextConstant_73
        · exact absurd ⟨T 8 (5 * j + p0), w, hpo2, hw, rfl, rfl⟩ hp
      · refine lv_null hx hb dX5_nextConstant_24 ?_
        exact rl_aret (v := none) hC hW hr hlk (Nat.le_refl _) (Nat.le_refl _) ⟨_, rfl, rfl, rfl, none, u1, cn_b hDr (fun q => c3 (by rw [q.1]; rfl)), rfl, hS1, hon1, ek1⟩ dX5_nextConstant_25

theorem it_0 {r i : Nat} {v : Int64} {u : pQ} : q_it false r i v u = u := rfl
theorem up_on {r z : Nat} {f f1 : rl_M} {a : Nat} {e : va_E} (h : rl_on r f f1) (hz : ∀ q e, f q = some e → q < z) (ha : z ≤ a) : rl_on r f (rl_up f1 a e) := fun q e hq hn => by
  rw [rl_up_n (by have := hz q e hq; omega)]
  exact h q e hq hn

set_option maxHeartbeats 4000000 in
set_option maxRecDepth 100000 in
theorem cC_nextRow (l : Launch) (D : va_G) (t : Nat → ClassId) (A : Nat → Prop) (f : rl_M) (z : Nat) (x : Nat) (T : Nat → Nat → Nat) (w r : Nat) (E : Nat → Nat → Nat) (gx : Nat → Int32) (mo : Int32) (u : pQ) (hS : cRD t f x T w r E gx mo u) (wt : Nat) (hwt : wt < 2) : rl_Met l yX5_nextRow (.code yX5_nextRow cX5_nextRow 7 (some (FieldType.object "RecordLeaves$Row"))) (rl_rm 4 (3 * (250 - q_at u)) (13 * (250 - q_at u))) D t A f z [.ref (r), .int (nI (wt))] (rl_pq fun r0 f1 z1 d1 => cST t x T w r gx mo f E z u (q_row (wt == 1) u) r0 f1 z1 d1) := by
  refine rl_begin (own := RX5) (lv := [(0, .ref (r)), (1, .int (nI (wt)))]) (by decide +kernel) rfl (Nat.le_of_ble_eq_true rfl) rfl fun p e s m0 args below meth c ls H locs hC hr hlk hnm hW hl hx hb => ?_
  obtain ⟨hI, hGq, hrx, hat, hbd, hdp, md, hmd, hrd⟩ := id hS
  have hl250 := hGq.2.2.2.2
  have hzx : x + 58 ≤ z := by have := hW.lt hrd; omega
  have hz0 : ∀ q e, f q = some e → q < z := fun q e h => hW.lt h
  have hwt2 : wt = 0 ∨ wt = 1 := by omega
  rcases hwt2 with rfl | rfl
  · skip
    refine lv_aload_n hx hb dX5_nextRow_0 rfl (lv_at hl 0 rfl) ?_
    refine rl_calllQ (rl_runV (b := r) (As := []) (rest := []) hC hW (cC_nextLeaf l D t A _ z x T w r E _ _ u hS) cs_X5_48 im_X5_nextLeaf sl_X5_nextLeaf hrd rfl ⟨by simp only [rl_rm]; omega, by simp only [rl_rm]; omega⟩ rfl hl.1 rfl (Nat.le_of_ble_eq_true rfl) dX5_nextRow_1 ⟨by simp only [rl_rm]; omega, by simp only [rl_rm]; omega⟩) hW (fun y1 f1 H locs hp hW => ?_)
    obtain ⟨u1, hlf1, hS1, hon1⟩ := hp
    obtain ⟨hst1, eG1, er1, ek1, ed1, hw1, hy1⟩ := lf_all hGq hlf1
    have hO1 := hon1
    obtain ⟨hI1, hGq1, hrx1, hat1, hbd1, hdp1, md1, hmd1, hrd1⟩ := id hS1
    have hl2501 := hGq1.2.2.2.2
    have hrw := row_eq (kn := false) hlf1
    have hs4 := hst1.2.2.2.1
    refine lv_lstore_n (lv' := [(2, .long (y1)), (0, .ref (r)), (1, .int (nI (0)))]) hx hb dX5_nextRow_4 rfl hl (by decide) rfl (fun ls hl => ?_)
    refine lv_lload_n hx hb dX5_nextRow_5 rfl (lv_at hl 0 rfl) ?_
    refine lv_ldc2 (v := -1) hx hb hC.2.2.2.1 (hC.2.2.2.2.1 _ (List.mem_cons_of_mem _ mw_608)) dX5_nextRow_6 ?_
    refine W.lcmp hx hb dX5_nextRow_9 ?_
    refine lv_if_ne (tgt := 15) hx hb dX5_nextRow_10 (by decide) (fun c2 => ?_) (fun c2 => ?_)
    · refine lv_lload_n hx hb dX5_nextRow_15 rfl (lv_at hl 0 rfl) ?_
      refine lv_lconst (v := 0) hx hb dX5_nextRow_16 (by decide) ?_
      refine W.lcmp hx hb dX5_nextRow_17 ?_
      refine lv_if_ge (tgt := 30) hx hb dX5_nextRow_18 (by decide) (fun c3 => ?_) (fun c3 => ?_)
      · replace c3 : ¬ lg_cmp y1 0 < 0 := fun q => absurd c3 (Int32.not_le.mpr q)
        refine lv_lload_n hx hb dX5_nextRow_30 rfl (lv_at hl 0 rfl) ?_
        refine lv_ldc2 (v := 8) hx hb hC.2.2.2.1 (hC.2.2.2.2.1 _ (List.mem_cons_of_mem _ mw_615)) dX5_nextRow_31 ?_
        refine W.lcmp hx hb dX5_nextRow_34 ?_
        refine lv_if_le (tgt := 43) hx hb dX5_nextRow_35 (by decide) (fun c4 => ?_) (fun c4 => ?_)
        · replace c4 := (lg_cmp_le _ _).mp c4
          obtain ⟨c0, hc0, rfl⟩ := rg_l8 (fun q => c3 ((lg_cmp_lt _ _).mpr q)) (c4)
          refine lv_aload_n hx hb dX5_nextRow_43 rfl (lv_at hl 1 rfl) ?_
          refine rl_get (v := .int (nI (q_bad u1))) hC hW fl_X5_23 hrd1 rfl dX5_nextRow_44 ?_
          refine lv_if_eq (tgt := 52) hx hb dX5_nextRow_47 (by decide) (fun c5 => ?_) (fun c5 => ?_)
          · have hbz : q_bad u1 = 0 := (nI_eq (by omega) (by decide)).mp c5
            obtain ⟨hb0, hat1e⟩ := hw1 hbz
            replace hrw := hrw.trans (rw_f hbz hc0)
            refine lv_iload_n hx hb dX5_nextRow_52 rfl (lv_at hl 2 rfl) ?_
            refine lv_if_eq (tgt := 68) hx hb dX5_nextRow_53 (by decide) (fun c6 => ?_) (fun c6 => ?_)
            · refine lv_null hx hb dX5_nextRow_68 ?_
              refine lv_astoreN (lv' := [(4, .null), (2, .long (lN c0)), (0, .ref (r)), (1, .int (nI (0)))]) hx hb dX5_nextRow_69 hl (by decide) rfl (fun ls hl => ?_)
              refine lv_iconst (v := (nI (0))) hx hb dX5_nextRow_71 (by decide) ?_
              refine lv_istore (lv' := [(5, .int (nI (0))), (4, .null), (2, .long (lN c0)), (0, .ref (r)), (1, .int (nI (0)))]) hx hb dX5_nextRow_72 hl (by decide) rfl (fun ls hl => ?_)
              replace hl : lv_has ls 7 [(0, .ref (r)), (2, .long (lN c0)), (4, .null), (5, .int (nI (0)))] := lv_sub hl [3, 2, 1, 0] rfl
              have hinv : ∃ (f3 : rl_M) (u3 : pQ) (i : Nat), rl_W D A f3 z s.heap H locs ∧ cRD t f3 x T w r E gx mo u3 ∧ rl_on r f f3 ∧ q_items false 0 (c0 - i) i u3 = q_items false 0 c0 0 u1 ∧ q_at u1 ≤ q_at u3 ∧ q_rho u3 = q_rho u1 ∧ q_kap u3 = q_kap u1 ∧ i ≤ c0 ∧ lv_has ls 7 [(0, .ref (r)), (2, .long (lN c0)), (4, .null), (5, .int (nI (i)))] := ⟨_, _, 0, hW, hS1, hO1, rfl, Nat.le_refl _, rfl, rfl, Nat.zero_le _, hl⟩
              clear hW hl
              obtain ⟨f3, u3, i, hW, hS3, hO3, hit, hat3u, er3, ek3, hi, hl⟩ := hinv
              obtain ⟨n9, hn9⟩ : ∃ n9, c0 - i < n9 := ⟨_, Nat.lt_succ_self _⟩
              induction n9 generalizing f3 u3 i H locs ls with
              | zero => exact absurd hn9 (Nat.not_lt_zero _)
              | succ n9 ih =>
                obtain ⟨hI3, hGq3, hrx3, hat3, hbd3, hdp3, md3, hmd3, hrd3⟩ := id hS3
                have hl2503 := hGq3.2.2.2.2
                refine lv_iload hx hb dX5_nextRow_74 (lv_at hl 3 rfl) ?_
                refine lv_i2l hx hb dX5_nextRow_76 rfl ?_
                refine lv_lload_n hx hb dX5_nextRow_77 rfl (lv_at hl 1 rfl) ?_
                refine W.lcmp hx hb dX5_nextRow_78 ?_
                refine lv_if_ge (tgt := 117) hx hb dX5_nextRow_79 (by decide) (fun c8 => ?_) (fun c8 => ?_)
                · have hge : c0 ≤ i := (rg_cmpi (by omega) (by omega)).mp c8
                  have hend : q_items false 0 (c0 - i) i u3 = u3 := by rw [show c0 - i = 0 by omega]; rfl
                  refine lv_aloadN hx hb dX5_nextRow_117 (lv_at hl 2 rfl) ?_
                  exact rl_aret (v := none) hC hW hr hlk (by simp only [rl_rm]; omega) (by simp only [rl_rm]; omega) ⟨_, rfl, ⟨E, none, u3, hrw.trans (by rw [← hit, hend]), rfl, hS3, (ek3.trans ek1) ▸ eag.rf, hO3, by omega, by omega⟩⟩ dX5_nextRow_119
                · have hlt : i < c0 := Nat.lt_of_not_le (fun q => c8 ((rg_cmpi (by omega) (by omega)).mpr q))
                  refine lv_aload_n hx hb dX5_nextRow_82 rfl (lv_at hl 0 rfl) ?_
                  refine rl_get (v := .int (nI (q_bad u3))) hC hW fl_X5_23 hrd3 rfl dX5_nextRow_83 ?_
                  refine lv_if_ne (tgt := 117) hx hb dX5_nextRow_86 (by decide) (fun c9 => ?_) (fun c9 => ?_)
                  · have hb3 : q_bad u3 ≠ 0 := fun q => c9 (by rw [q]; rfl)
                    have hend : q_items false 0 (c0 - i) i u3 = u3 := it_b hb3 _ _
                    refine lv_aloadN hx hb dX5_nextRow_117 (lv_at hl 2 rfl) ?_
                    exact rl_aret (v := none) hC hW hr hlk (by simp only [rl_rm]; omega) (by simp only [rl_rm]; omega) ⟨_, rfl, ⟨E, none, u3, hrw.trans (by rw [← hit, hend]), rfl, hS3, (ek3.trans ek1) ▸ eag.rf, hO3, by omega, by omega⟩⟩ dX5_nextRow_119
                  · have hb3 : q_bad u3 = 0 := (nI_eq (by omega) (by decide)).mp c9
                    refine lv_aload_n hx hb dX5_nextRow_89 rfl (lv_at hl 0 rfl) ?_
                    refine rl_calllQ (rl_runV (b := r) (As := []) (rest := []) hC hW (cC_nextLeaf l D t A _ z x T w r E _ _ u3 hS3) cs_X5_48 im_X5_nextLeaf sl_X5_nextLeaf hrd3 rfl ⟨by simp only [rl_rm]; omega, by simp only [rl_rm]; omega⟩ rfl hl.1 rfl (Nat.le_of_ble_eq_true rfl) dX5_nextRow_90 ⟨by simp only [rl_rm]; omega, by simp only [rl_rm]; omega⟩) hW (fun y4 f4 H locs hp hW => ?_)
                    obtain ⟨u4, hlf4, hS4, hon4⟩ := hp
                    obtain ⟨hst4, eG4, er4, ek4, ed4, hw4, hy4⟩ := lf_all hGq3 hlf4
                    have hO4 := hO3.tr hon4
                    obtain ⟨hI4, hGq4, hrx4, hat4, hbd4, hdp4, md4, hmd4, hrd4⟩ := id hS4
                    have hl2504 := hGq4.2.2.2.2
                    have hs34 := hst4.2.2.2.1
                    rw [show c0 - i = (c0 - (i + 1)) + 1 by omega, it_s hb3 hlf4] at hit
                    refine lv_l2i hx hb dX5_nextRow_93 rfl ?_
                    refine lv_istore (lv' := [(6, .int ((y4).toInt32)), (0, .ref (r)), (2, .long (lN c0)), (4, .null), (5, .int (nI (i)))]) hx hb dX5_nextRow_94 hl (by decide) rfl (fun ls hl => ?_)
                    refine lv_aloadN hx hb dX5_nextRow_96 (lv_at hl 3 rfl) ?_
                    refine lv_ifnullN (tgt := 111) hx hb dX5_nextRow_98 (by decide) ?_
                    refine lv_iinc (v := (nI ((i) + 1))) (lv' := [(5, .int (nI ((i) + 1))), (6, .int ((y4).toInt32)), (0, .ref (r)), (2, .long (lN c0)), (4, .null)]) hx hb dX5_nextRow_111 hl (k := 4) rfl (nI_1 _) (by decide) rfl (fun ls hl => ?_)
                    refine lv_goto (tgt := 74) hx hb dX5_nextRow_114 (by decide) ?_
                    replace hl : lv_has ls 7 [(0, .ref (r)), (2, .long (lN c0)), (4, .null), (5, .int (nI ((i) + 1)))] := lv_sub hl [2, 3, 4, 0] rfl
                    exact ih H locs ls f4 u4 (i + 1) hW hS4 hO4 hit (Nat.le_trans hat3u hs34) (er4.trans er3) (ek4.trans ek3) (by omega) hl (by omega)
            · exact absurd rfl c6
          · have hbz : q_bad u1 ≠ 0 := fun q => c5 (by rw [q]; rfl)
            refine lv_null hx hb dX5_nextRow_50 ?_
            exact rl_aret (v := none) hC hW hr hlk (by simp only [rl_rm]; omega) (by simp only [rl_rm]; omega) ⟨_, rfl, ⟨E, none, u1, hrw.trans (rw_b hbz), rfl, hS1, ek1 ▸ eag.rf, hO1, by omega, by omega⟩⟩ dX5_nextRow_51
        · refine lv_aload_n hx hb dX5_nextRow_38 rfl (lv_at hl 1 rfl) ?_
          refine lv_iconst (v := (nI (2))) hx hb dX5_nextRow_39 (by decide) ?_
          refine rl_callvQ (rl_runV (b := r) (As := [.int (nI (2))]) (rest := []) hC hW (cC_fail l D t A _ z x T w r E _ _ u1 hS1 2 (by decide)) cs_X5_44 im_X5_fail sl_X5_fail hrd1 rfl ⟨by simp only [rl_rm]; omega, by simp only [rl_rm]; omega⟩ rfl hl.1 rfl (Nat.le_of_ble_eq_true rfl) dX5_nextRow_40 ⟨by simp only [rl_rm]; omega, by simp only [rl_rm]; omega⟩) hW (fun f2 H locs hp hW => ?_)
          obtain ⟨u2, hfl2, hS2, hon2⟩ := hp
          obtain ⟨eG2, er2, ek2, ed2, ea2⟩ : q_G u2 = q_G u1 ∧ q_rho u2 = q_rho u1 ∧ q_kap u2 = q_kap u1 ∧ q_dp u2 = q_dp u1 ∧ q_at u2 = q_at u1 := by rw [hfl2]; exact fl_G
          have hne2 : q_bad u2 ≠ 0 := by rw [hfl2]; exact q_fail_ne (by decide)
          have hst2 : qst T u1 u2 := by rw [hfl2]; exact st_fail hGq1 (by decide)
          have hO2 := hO1.tr hon2
          obtain ⟨hI2, hGq2, hrx2, hat2, hbd2, hdp2, md2, hmd2, hrd2⟩ := id hS2
          have hl2502 := hGq2.2.2.2.2
          refine lv_aload_n hx hb dX5_nextRow_43 rfl (lv_at hl 1 rfl) ?_
          refine rl_get (v := .int (nI (q_bad u2))) hC hW fl_X5_23 hrd2 rfl dX5_nextRow_44 ?_
          refine lv_if_eq (tgt := 52) hx hb dX5_nextRow_47 (by decide) (fun c7 => ?_) (fun c7 => ?_)
          · exact absurd ((nI_eq (by omega) (by decide)).mp c7) hne2
          · refine lv_null hx hb dX5_nextRow_50 ?_
            exact rl_aret (v := none) hC hW hr hlk (by simp only [rl_rm]; omega) (by simp only [rl_rm]; omega) ⟨_, rfl, ⟨E, none, u2, hrw.trans ((rw_n2 (Int64.not_le.mp (fun q => c4 ((lg_cmp_le _ _).mpr q)))).trans (by rw [hfl2])), rfl, hS2, (ek2.trans ek1) ▸ eag.rf, hO2, by omega, by omega⟩⟩ dX5_nextRow_51
      · refine lv_aload_n hx hb dX5_nextRow_21 rfl (lv_at hl 1 rfl) ?_
        refine lv_bipush (v := (nI (6))) hx hb dX5_nextRow_22 (by decide) ?_
        refine rl_callvQ (rl_runV (b := r) (As := [.int (nI (6))]) (rest := []) hC hW (cC_fail l D t A _ z x T w r E _ _ u1 hS1 6 (by decide)) cs_X5_44 im_X5_fail sl_X5_fail hrd1 rfl ⟨by simp only [rl_rm]; omega, by simp only [rl_rm]; omega⟩ rfl hl.1 rfl (Nat.le_of_ble_eq_true rfl) dX5_nextRow_24 ⟨by simp only [rl_rm]; omega, by simp only [rl_rm]; omega⟩) hW (fun f2 H locs hp hW => ?_)
        obtain ⟨u2, hfl2, hS2, hon2⟩ := hp
        obtain ⟨eG2, er2, ek2, ed2, ea2⟩ : q_G u2 = q_G u1 ∧ q_rho u2 = q_rho u1 ∧ q_kap u2 = q_kap u1 ∧ q_dp u2 = q_dp u1 ∧ q_at u2 = q_at u1 := by rw [hfl2]; exact fl_G
        have hne2 : q_bad u2 ≠ 0 := by rw [hfl2]; exact q_fail_ne (by decide)
        have hst2 : qst T u1 u2 := by rw [hfl2]; exact st_fail hGq1 (by decide)
        have hO2 := hO1.tr hon2
        obtain ⟨hI2, hGq2, hrx2, hat2, hbd2, hdp2, md2, hmd2, hrd2⟩ := id hS2
        have hl2502 := hGq2.2.2.2.2
        refine lv_goto (tgt := 43) hx hb dX5_nextRow_27 (by decide) ?_
        refine lv_aload_n hx hb dX5_nextRow_43 rfl (lv_at hl 1 rfl) ?_
        refine rl_get (v := .int (nI (q_bad u2))) hC hW fl_X5_23 hrd2 rfl dX5_nextRow_44 ?_
        refine lv_if_eq (tgt := 52) hx hb dX5_nextRow_47 (by decide) (fun c7 => ?_) (fun c7 => ?_)
        · exact absurd ((nI_eq (by omega) (by decide)).mp c7) hne2
        · refine lv_null hx hb dX5_nextRow_50 ?_
          exact rl_aret (v := none) hC hW hr hlk (by simp only [rl_rm]; omega) (by simp only [rl_rm]; omega) ⟨_, rfl, ⟨E, none, u2, hrw.trans ((rw_n6 ((lg_cmp_lt _ _).mp (Int32.not_le.mp c3)) (fun q => c2 ((lg_cmp_eq _ _).mpr q))).trans (by rw [hfl2])), rfl, hS2, (ek2.trans ek1) ▸ eag.rf, hO2, by omega, by omega⟩⟩ dX5_nextRow_51
    · refine lv_null hx hb dX5_nextRow_13 ?_
      exact rl_aret (v := none) hC hW hr hlk (by simp only [rl_rm]; omega) (by simp only [rl_rm]; omega) ⟨_, rfl, ⟨E, none, u1, hrw.trans (rw_n1 ((lg_cmp_eq _ _).mp c2)), rfl, hS1, ek1 ▸ eag.rf, hO1, by omega, by omega⟩⟩ dX5_nextRow_14
  · skip
    refine lv_aload_n hx hb dX5_nextRow_0 rfl (lv_at hl 0 rfl) ?_
    refine rl_calllQ (rl_runV (b := r) (As := []) (rest := []) hC hW (cC_nextLeaf l D t A _ z x T w r E _ _ u hS) cs_X5_48 im_X5_nextLeaf sl_X5_nextLeaf hrd rfl ⟨by simp only [rl_rm]; omega, by simp only [rl_rm]; omega⟩ rfl hl.1 rfl (Nat.le_of_ble_eq_true rfl) dX5_nextRow_1 ⟨by simp only [rl_rm]; omega, by simp only [rl_rm]; omega⟩) hW (fun y1 f1 H locs hp hW => ?_)
    obtain ⟨u1, hlf1, hS1, hon1⟩ := hp
    obtain ⟨hst1, eG1, er1, ek1, ed1, hw1, hy1⟩ := lf_all hGq hlf1
    have hO1 := hon1
    obtain ⟨hI1, hGq1, hrx1, hat1, hbd1, hdp1, md1, hmd1, hrd1⟩ := id hS1
    have hl2501 := hGq1.2.2.2.2
    have hrw := row_eq (kn := true) hlf1
    have hs4 := hst1.2.2.2.1
    refine lv_lstore_n (lv' := [(2, .long (y1)), (0, .ref (r)), (1, .int (nI (1)))]) hx hb dX5_nextRow_4 rfl hl (by decide) rfl (fun ls hl => ?_)
    refine lv_lload_n hx hb dX5_nextRow_5 rfl (lv_at hl 0 rfl) ?_
    refine lv_ldc2 (v := -1) hx hb hC.2.2.2.1 (hC.2.2.2.2.1 _ (List.mem_cons_of_mem _ mw_608)) dX5_nextRow_6 ?_
    refine W.lcmp hx hb dX5_nextRow_9 ?_
    refine lv_if_ne (tgt := 15) hx hb dX5_nextRow_10 (by decide) (fun c2 => ?_) (fun c2 => ?_)
    · refine lv_lload_n hx hb dX5_nextRow_15 rfl (lv_at hl 0 rfl) ?_
      refine lv_lconst (v := 0) hx hb dX5_nextRow_16 (by decide) ?_
      refine W.lcmp hx hb dX5_nextRow_17 ?_
      refine lv_if_ge (tgt := 30) hx hb dX5_nextRow_18 (by decide) (fun c3 => ?_) (fun c3 => ?_)
      · replace c3 : ¬ lg_cmp y1 0 < 0 := fun q => absurd c3 (Int32.not_le.mpr q)
        refine lv_lload_n hx hb dX5_nextRow_30 rfl (lv_at hl 0 rfl) ?_
        refine lv_ldc2 (v := 8) hx hb hC.2.2.2.1 (hC.2.2.2.2.1 _ (List.mem_cons_of_mem _ mw_615)) dX5_nextRow_31 ?_
        refine W.lcmp hx hb dX5_nextRow_34 ?_
        refine lv_if_le (tgt := 43) hx hb dX5_nextRow_35 (by decide) (fun c4 => ?_) (fun c4 => ?_)
        · replace c4 := (lg_cmp_le _ _).mp c4
          obtain ⟨c0, hc0, rfl⟩ := rg_l8 (fun q => c3 ((lg_cmp_lt _ _).mpr q)) (c4)
          refine lv_aload_n hx hb dX5_nextRow_43 rfl (lv_at hl 1 rfl) ?_
          refine rl_get (v := .int (nI (q_bad u1))) hC hW fl_X5_23 hrd1 rfl dX5_nextRow_44 ?_
          refine lv_if_eq (tgt := 52) hx hb dX5_nextRow_47 (by decide) (fun c5 => ?_) (fun c5 => ?_)
          · have hbz : q_bad u1 = 0 := (nI_eq (by omega) (by decide)).mp c5
            obtain ⟨hb0, hat1e⟩ := hw1 hbz
            replace hrw := hrw.trans (rw_t hbz hc0)
            refine lv_iload_n hx hb dX5_nextRow_52 rfl (lv_at hl 2 rfl) ?_
            refine lv_if_eq (tgt := 68) hx hb dX5_nextRow_53 (by decide) (fun c6 => ?_) (fun c6 => ?_)
            · exact absurd c6 (by decide)
            · have hfz := hW.fresh
              refine rl_new hC hW cn_X5_144 (by simp only [rl_rm]; omega) (by simp only [rl_rm]; omega) dX5_nextRow_56 (fun H hW => ?_)
              have hfz1 := hW.fresh
              refine lv_dup hx hb dX5_nextRow_59 rfl ?_
              refine lv_lload_n hx hb dX5_nextRow_60 rfl (lv_at hl 0 rfl) ?_
              refine lv_l2i hx hb dX5_nextRow_61 rfl ?_
              refine rl_topn (lN_i _) ?_
              refine rl_callv (rl_runI (b := z) (As := [.int (nI (c0))]) (rest := [.ref (z)]) hC hW (cC_Row_init l D t A _ (z + 1) z c0 hc0 (rl_up_s _ _ _)) cs_X5_146 im_X8_init rfl ⟨by simp only [rl_rm]; omega, by simp only [rl_rm]; omega⟩ rfl hl.1 rfl (Nat.le_of_ble_eq_true rfl) dX5_nextRow_62 ⟨by simp only [rl_rm]; omega, by simp only [rl_rm]; omega⟩) hW (fun f1 z1 d1 H locs hp hW hz1 => ?_)
              obtain ⟨rfl, rfl, hd1⟩ := hp
              rw [rl_up_row] at hW
              obtain ⟨f2, ef2⟩ : ∃ f2, f2 = rl_up (rl_up f1 (z + 1) (.inl (t 0, c0, .inl (fun _ => 0)))) z (.inr (8, [.ref (z + 1)])) := ⟨_, rfl⟩
              have hle2 : rl_le f1 f2 := by rw [ef2]; exact rl_le.row hfz hfz1
              have hz1a : f2 z = some (.inr (8, [.ref (z + 1)])) := by rw [ef2]; exact rl_up_s _ _ _
              have hz1b : f2 (z + 1) = some (.inl (t 0, c0, .inl (fun _ => 0))) := by rw [ef2]; exact (rl_up_n (by omega)).trans (rl_up_s _ _ _)
              rw [← ef2] at hW
              clear ef2
              have hI2 := hI1.newrow (n := c0) hGq1.1 hc0 hfz hzx hle2 hz1a hz1b
              obtain ⟨E2, eE2⟩ : ∃ E2, E2 = eup E 1 (q_rho u1) z := ⟨_, rfl⟩
              have hEz : E2 1 (q_rho u1) = z := by rw [eE2]; show va_up E 1 (va_up (E 1) (q_rho u1) z) 1 (q_rho u1) = z; rw [va_up_s, va_up_s]
              have heg : eag z (q_rho u) (q_kap u) (q_kap u) E E2 := by rw [eE2, er1]; exact eag_row
              rw [← eE2] at hI2
              clear eE2
              have hS2 : cRD t f2 x T w r E2 gx mo (q_mk u1 c0) := ⟨hI2, GW.row hGq1 hc0, hrx1, hat1, hbd1, hdp1, md1, hmd1, hle2 _ _ hrd1⟩
              have hO2 := hO1.tr (rl_on.le (r := r) hle2)
              have hln : (q_G (q_mk u1 c0)).1 0 (q_rho u1) = c0 := va_up_s _ _ _
              refine lv_goto (tgt := 69) hx hb dX5_nextRow_65 (by decide) ?_
              refine lv_astore (lv' := [(4, .ref (z)), (2, .long (lN c0)), (0, .ref (r)), (1, .int (nI (1)))]) hx hb dX5_nextRow_69 hl (by decide) rfl (fun ls hl => ?_)
              refine lv_iconst (v := (nI (0))) hx hb dX5_nextRow_71 (by decide) ?_
              refine lv_istore (lv' := [(5, .int (nI (0))), (4, .ref (z)), (2, .long (lN c0)), (0, .ref (r)), (1, .int (nI (1)))]) hx hb dX5_nextRow_72 hl (by decide) rfl (fun ls hl => ?_)
              replace hl : lv_has ls 7 [(0, .ref (r)), (2, .long (lN c0)), (4, .ref (z)), (5, .int (nI (0)))] := lv_sub hl [3, 2, 1, 0] rfl
              have hinv : ∃ (f3 : rl_M) (u3 : pQ) (i : Nat), rl_W D A f3 (z + 1 + 1) s.heap H locs ∧ cRD t f3 x T w r E2 gx mo u3 ∧ rl_on r f f3 ∧ q_items true (q_rho u1) (c0 - i) i u3 = q_items true (q_rho u1) c0 0 (q_mk u1 c0) ∧ q_at u1 ≤ q_at u3 ∧ q_rho u3 = q_rho (q_mk u1 c0) ∧ q_kap u3 = q_kap u1 ∧ i ≤ c0 ∧ (q_G u3).1 0 (q_rho u1) = c0 ∧ lv_has ls 7 [(0, .ref (r)), (2, .long (lN c0)), (4, .ref (z)), (5, .int (nI (i)))] := ⟨_, _, 0, hW, hS2, hO2, rfl, Nat.le_refl _, rfl, rfl, Nat.zero_le _, hln, hl⟩
              clear hW hl hln
              obtain ⟨f3, u3, i, hW, hS3, hO3, hit, hat3u, er3, ek3, hi, hln, hl⟩ := hinv
              refine W.widen (show _ ≤ 2 by omega) (show _ ≤ 9 by omega) ?_
              obtain ⟨n9, hn9⟩ : ∃ n9, c0 - i < n9 := ⟨_, Nat.lt_succ_self _⟩
              induction n9 generalizing f3 u3 i H locs ls with
              | zero => exact absurd hn9 (Nat.not_lt_zero _)
              | succ n9 ih =>
                obtain ⟨hI3, hGq3, hrx3, hat3, hbd3, hdp3, md3, hmd3, hrd3⟩ := id hS3
                have hl2503 := hGq3.2.2.2.2
                obtain ⟨-, hza, g, hzb, -⟩ := hI3.row (show q_rho u1 < q_rho u3 by rw [er3]; exact Nat.lt_succ_self _)
                have hzb0 := hzb
                rw [hEz] at hza hzb
                rw [hln] at hzb
                refine lv_iload hx hb dX5_nextRow_74 (lv_at hl 3 rfl) ?_
                refine lv_i2l hx hb dX5_nextRow_76 rfl ?_
                refine lv_lload_n hx hb dX5_nextRow_77 rfl (lv_at hl 1 rfl) ?_
                refine W.lcmp hx hb dX5_nextRow_78 ?_
                refine lv_if_ge (tgt := 117) hx hb dX5_nextRow_79 (by decide) (fun c8 => ?_) (fun c8 => ?_)
                · have hge : c0 ≤ i := (rg_cmpi (by omega) (by omega)).mp c8
                  have hend : q_items true (q_rho u1) (c0 - i) i u3 = u3 := by rw [show c0 - i = 0 by omega]; rfl
                  refine lv_aload hx hb dX5_nextRow_117 (lv_at hl 2 rfl) ?_
                  exact rl_aret (v := some (z)) hC hW hr hlk (by simp only [rl_rm]; omega) (by simp only [rl_rm]; omega) ⟨_, rfl, ⟨E2, hrow (q_rho u1), u3, hrw.trans (by rw [← hit, hend]), (by show some z = some (E2 1 (q_rho u1)); rw [hEz]), hS3, (ek3.trans ek1) ▸ heg, hO3, by omega, by omega⟩⟩ dX5_nextRow_119
                · have hlt : i < c0 := Nat.lt_of_not_le (fun q => c8 ((rg_cmpi (by omega) (by omega)).mpr q))
                  refine lv_aload_n hx hb dX5_nextRow_82 rfl (lv_at hl 0 rfl) ?_
                  refine rl_get (v := .int (nI (q_bad u3))) hC hW fl_X5_23 hrd3 rfl dX5_nextRow_83 ?_
                  refine lv_if_ne (tgt := 117) hx hb dX5_nextRow_86 (by decide) (fun c9 => ?_) (fun c9 => ?_)
                  · have hb3 : q_bad u3 ≠ 0 := fun q => c9 (by rw [q]; rfl)
                    have hend : q_items true (q_rho u1) (c0 - i) i u3 = u3 := it_b hb3 _ _
                    refine lv_aload hx hb dX5_nextRow_117 (lv_at hl 2 rfl) ?_
                    exact rl_aret (v := some (z)) hC hW hr hlk (by simp only [rl_rm]; omega) (by simp only [rl_rm]; omega) ⟨_, rfl, ⟨E2, hrow (q_rho u1), u3, hrw.trans (by rw [← hit, hend]), (by show some z = some (E2 1 (q_rho u1)); rw [hEz]), hS3, (ek3.trans ek1) ▸ heg, hO3, by omega, by omega⟩⟩ dX5_nextRow_119
                  · have hb3 : q_bad u3 = 0 := (nI_eq (by omega) (by decide)).mp c9
                    refine lv_aload_n hx hb dX5_nextRow_89 rfl (lv_at hl 0 rfl) ?_
                    refine rl_calllQ (rl_runV (b := r) (As := []) (rest := []) hC hW (cC_nextLeaf l D t A _ (z + 1 + 1) x T w r E2 _ _ u3 hS3) cs_X5_48 im_X5_nextLeaf sl_X5_nextLeaf hrd3 rfl ⟨by simp only [rl_rm]; omega, by simp only [rl_rm]; omega⟩ rfl hl.1 rfl (Nat.le_of_ble_eq_true rfl) dX5_nextRow_90 ⟨by simp only [rl_rm]; omega, by simp only [rl_rm]; omega⟩) hW (fun y4 f4 H locs hp hW => ?_)
                    obtain ⟨u4, hlf4, hS4, hon4⟩ := hp
                    obtain ⟨hst4, eG4, er4, ek4, ed4, hw4, hy4⟩ := lf_all hGq3 hlf4
                    have hO4 := hO3.tr hon4
                    obtain ⟨hI4, hGq4, hrx4, hat4, hbd4, hdp4, md4, hmd4, hrd4⟩ := id hS4
                    have hl2504 := hGq4.2.2.2.2
                    have hs34 := hst4.2.2.2.1
                    rw [show c0 - i = (c0 - (i + 1)) + 1 by omega, it_s hb3 hlf4] at hit
                    obtain ⟨-, hza, g, hzb, -⟩ := hI4.row (show q_rho u1 < q_rho u4 by rw [er4, er3]; exact Nat.lt_succ_self _)
                    have hzb0 := hzb
                    rw [hEz] at hza hzb
                    rw [eG4, hln] at hzb
                    refine lv_l2i hx hb dX5_nextRow_93 rfl ?_
                    refine lv_istore (lv' := [(6, .int ((y4).toInt32)), (0, .ref (r)), (2, .long (lN c0)), (4, .ref (z)), (5, .int (nI (i)))]) hx hb dX5_nextRow_94 hl (by decide) rfl (fun ls hl => ?_)
                    refine lv_aload hx hb dX5_nextRow_96 (lv_at hl 3 rfl) ?_
                    refine lv_ifnull hx hb dX5_nextRow_98 ?_
                    refine lv_aload hx hb dX5_nextRow_101 (lv_at hl 3 rfl) ?_
                    refine rl_get (v := .ref (z + 1)) hC hW fl_X5_148 hza rfl dX5_nextRow_103 ?_
                    refine lv_iload hx hb dX5_nextRow_106 (lv_at hl 4 rfl) ?_
                    refine lv_iload hx hb dX5_nextRow_108 (lv_at hl 0 rfl) ?_
                    refine rl_iast_n hC hW hzb (by omega) (by omega) dX5_nextRow_110 (fun H locs hW => ?_)
                    have hI5 := hI4.item (i := i) (v := ((y4).toInt32)) (show q_rho u1 < q_rho u4 by rw [er4, er3]; exact Nat.lt_succ_self _) (by rw [eG4, hln]; exact hlt) hGq4.1 hzb0
                    rw [hEz, show (q_G u4).1 0 (q_rho u1) = c0 by rw [eG4, hln]] at hI5
                    have hrd5 := (rl_up_n (e := .inl (t 0, c0, .inl (upd g i ((y4).toInt32)))) (rl_ne hrd4 hzb (by simp))).trans hrd4
                    have hS5 : cRD t _ x T w r E2 gx mo (q_it true (q_rho u1) i y4 u4) := ⟨hI5, hGq4, hrx4, hat4, hbd4, hdp4, md4, hmd4, hrd5⟩
                    have hO5 := up_on (a := z + 1) (e := .inl (t 0, c0, .inl (upd g i ((y4).toInt32)))) hO4 hz0 (by omega)
                    refine lv_iinc (v := (nI ((i) + 1))) (lv' := [(5, .int (nI ((i) + 1))), (6, .int ((y4).toInt32)), (0, .ref (r)), (2, .long (lN c0)), (4, .ref (z))]) hx hb dX5_nextRow_111 hl (k := 4) rfl (nI_1 _) (by decide) rfl (fun ls hl => ?_)
                    refine lv_goto (tgt := 74) hx hb dX5_nextRow_114 (by decide) ?_
                    replace hl : lv_has ls 7 [(0, .ref (r)), (2, .long (lN c0)), (4, .ref (z)), (5, .int (nI ((i) + 1)))] := lv_sub hl [2, 3, 4, 0] rfl
                    exact ih H locs ls _ _ (i + 1) hW hS5 hO5 hit (Nat.le_trans hat3u hs34) (er4.trans er3) (ek4.trans ek3) (by omega) (by show (q_G u4).1 0 (q_rho u1) = c0; rw [eG4, hln]) hl (by omega)
          · have hbz : q_bad u1 ≠ 0 := fun q => c5 (by rw [q]; rfl)
            refine lv_null hx hb dX5_nextRow_50 ?_
            exact rl_aret (v := none) hC hW hr hlk (by simp only [rl_rm]; omega) (by simp only [rl_rm]; omega) ⟨_, rfl, ⟨E, none, u1, hrw.trans (rw_b hbz), rfl, hS1, ek1 ▸ eag.rf, hO1, by omega, by omega⟩⟩ dX5_nextRow_51
        · refine lv_aload_n hx hb dX5_nextRow_38 rfl (lv_at hl 1 rfl) ?_
          refine lv_iconst (v := (nI (2))) hx hb dX5_nextRow_39 (by decide) ?_
          refine rl_callvQ (rl_runV (b := r) (As := [.int (nI (2))]) (rest := []) hC hW (cC_fail l D t A _ z x T w r E _ _ u1 hS1 2 (by decide)) cs_X5_44 im_X5_fail sl_X5_fail hrd1 rfl ⟨by simp only [rl_rm]; omega, by simp only [rl_rm]; omega⟩ rfl hl.1 rfl (Nat.le_of_ble_eq_true rfl) dX5_nextRow_40 ⟨by simp only [rl_rm]; omega, by simp only [rl_rm]; omega⟩) hW (fun f2 H locs hp hW => ?_)
          obtain ⟨u2, hfl2, hS2, hon2⟩ := hp
          obtain ⟨eG2, er2, ek2, ed2, ea2⟩ : q_G u2 = q_G u1 ∧ q_rho u2 = q_rho u1 ∧ q_kap u2 = q_kap u1 ∧ q_dp u2 = q_dp u1 ∧ q_at u2 = q_at u1 := by rw [hfl2]; exact fl_G
          have hne2 : q_bad u2 ≠ 0 := by rw [hfl2]; exact q_fail_ne (by decide)
          have hst2 : qst T u1 u2 := by rw [hfl2]; exact st_fail hGq1 (by decide)
          have hO2 := hO1.tr hon2
          obtain ⟨hI2, hGq2, hrx2, hat2, hbd2, hdp2, md2, hmd2, hrd2⟩ := id hS2
          have hl2502 := hGq2.2.2.2.2
          refine lv_aload_n hx hb dX5_nextRow_43 rfl (lv_at hl 1 rfl) ?_
          refine rl_get (v := .int (nI (q_bad u2))) hC hW fl_X5_23 hrd2 rfl dX5_nextRow_44 ?_
          refine lv_if_eq (tgt := 52) hx hb dX5_nextRow_47 (by decide) (fun c7 => ?_) (fun c7 => ?_)
          · exact absurd ((nI_eq (by omega) (by decide)).mp c7) hne2
          · refine lv_null hx hb dX5_nextRow_50 ?_
            exact rl_aret (v := none) hC hW hr hlk (by simp only [rl_rm]; omega) (by simp only [rl_rm]; omega) ⟨_, rfl, ⟨E, none, u2, hrw.trans ((rw_n2 (Int64.not_le.mp (fun q => c4 ((lg_cmp_le _ _).mpr q)))).trans (by rw [hfl2])), rfl, hS2, (ek2.trans ek1) ▸ eag.rf, hO2, by omega, by omega⟩⟩ dX5_nextRow_51
      · refine lv_aload_n hx hb dX5_nextRow_21 rfl (lv_at hl 1 rfl) ?_
        refine lv_bipush (v := (nI (6))) hx hb dX5_nextRow_22 (by decide) ?_
        refine rl_callvQ (rl_runV (b := r) (As := [.int (nI (6))]) (rest := []) hC hW (cC_fail l D t A _ z x T w r E _ _ u1 hS1 6 (by decide)) cs_X5_44 im_X5_fail sl_X5_fail hrd1 rfl ⟨by simp only [rl_rm]; omega, by simp only [rl_rm]; omega⟩ rfl hl.1 rfl (Nat.le_of_ble_eq_true rfl) dX5_nextRow_24 ⟨by simp only [rl_rm]; omega, by simp only [rl_rm]; omega⟩) hW (fun f2 H locs hp hW => ?_)
        obtain ⟨u2, hfl2, hS2, hon2⟩ := hp
        obtain ⟨eG2, er2, ek2, ed2, ea2⟩ : q_G u2 = q_G u1 ∧ q_rho u2 = q_rho u1 ∧ q_kap u2 = q_kap u1 ∧ q_dp u2 = q_dp u1 ∧ q_at u2 = q_at u1 := by rw [hfl2]; exact fl_G
        have hne2 : q_bad u2 ≠ 0 := by rw [hfl2]; exact q_fail_ne (by decide)
        have hst2 : qst T u1 u2 := by rw [hfl2]; exact st_fail hGq1 (by decide)
        have hO2 := hO1.tr hon2
        obtain ⟨hI2, hGq2, hrx2, hat2, hbd2, hdp2, md2, hmd2, hrd2⟩ := id hS2
        have hl2502 := hGq2.2.2.2.2
        refine lv_goto (tgt := 43) hx hb dX5_nextRow_27 (by decide) ?_
        refine lv_aload_n hx hb dX5_nextRow_43 rfl (lv_at hl 1 rfl) ?_
        refine rl_get (v := .int (nI (q_bad u2))) hC hW fl_X5_23 hrd2 rfl dX5_nextRow_44 ?_
        refine lv_if_eq (tgt := 52) hx hb dX5_nextRow_47 (by decide) (fun c7 => ?_) (fun c7 => ?_)
        · exact absurd ((nI_eq (by omega) (by decide)).mp c7) hne2
        · refine lv_null hx hb dX5_nextRow_50 ?_
          exact rl_aret (v := none) hC hW hr hlk (by simp only [rl_rm]; omega) (by simp only [rl_rm]; omega) ⟨_, rfl, ⟨E, none, u2, hrw.trans ((rw_n6 ((lg_cmp_lt _ _).mp (Int32.not_le.mp c3)) (fun q => c2 ((lg_cmp_eq _ _).mpr q))).trans (by rw [hfl2])), rfl, hS2, (ek2.trans ek1) ▸ eag.rf, hO2, by omega, by omega⟩⟩ dX5_nextRow_51
    · refine lv_null hx hb dX5_nextRow_13 ?_
      exact rl_aret (v := none) hC hW hr hlk (by simp only [rl_rm]; omega) (by simp only [rl_rm]; omega) ⟨_, rfl, ⟨E, none, u1, hrw.trans (rw_n1 ((lg_cmp_eq _ _).mp c2)), rfl, hS1, ek1 ▸ eag.rf, hO1, by omega, by omega⟩⟩ dX5_nextRow_14
