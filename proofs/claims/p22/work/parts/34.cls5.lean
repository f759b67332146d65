
section RLT
variable {p : Program} {l : Launch} {e : Env} {R : Room} {s : State} {m : MethodId} {args : Array Value} {below : List Frame} {meth : Method} {c : Code} {H : Heap} {locs : List Loc} {cells slots : Nat} {Q : State → Prop}
variable {cc : ByteArray} {nL pc : Nat} {ls : Array Slot} {rest : List Value} {D : va_G} {t : Nat → ClassId} {A : Nat → Prop} {a z x : Nat} {f : rl_M} {own : String} {cw : Cond} 
theorem rl_topqq {r r' : Option Nat} (h : r = r') (k : W p l e R s m args below meth c H locs cells slots Q (F0 m pc ls (va_rf r' :: rest))) : W p l e R s m args below meth c H locs cells slots Q (F0 m pc ls (va_rf r :: rest)) := by rw [h]; exact k
theorem rl_astoreq_n (hexec : p.tables.exec = Jvm.exec) (hb : c.code = cc) {k : Fin 4} {i nL : Nat} {x : Option Nat} {lv lv' : List (Nat × Value)} (hdg : decode cc pc = .ok (.astore_n k, 1)) (hi : (k : Nat) = i) (h : lv_has ls nL lv) (hn : i < nL) (hl : (i, va_rf x) :: lv.filter (fun q => !(q.1 == i) && !(q.1 + 1 == i && q.2.category == 2)) = lv')
    (kk : ∀ ls' : Array Slot, lv_has ls' nL lv' → W p l e R s m args below meth c H locs cells slots Q (F0 m (pc + 1) ls' rest)) : W p l e R s m args below meth c H locs cells slots Q (F0 m pc ls (va_rf x :: rest)) := by
  cases x with
  | none => exact lv_astore_nN hexec hb hdg hi h hn hl kk
  | some x => exact lv_astore_n hexec hb hdg hi h hn hl kk
theorem rl_astoreq (hexec : p.tables.exec = Jvm.exec) (hb : c.code = cc) {i nL : Nat} {x : Option Nat} {lv lv' : List (Nat × Value)} (hdg : decode cc pc = .ok (.astore i, 2)) (h : lv_has ls nL lv) (hn : i < nL) (hl : (i, va_rf x) :: lv.filter (fun q => !(q.1 == i) && !(q.1 + 1 == i && q.2.category == 2)) = lv')
    (kk : ∀ ls' : Array Slot, lv_has ls' nL lv' → W p l e R s m args below meth c H locs cells slots Q (F0 m (pc + 2) ls' rest)) : W p l e R s m args below meth c H locs cells slots Q (F0 m pc ls (va_rf x :: rest)) := by
  cases x with
  | none => exact lv_astoreN hexec hb hdg h hn hl kk
  | some x => exact lv_astore hexec hb hdg h hn hl kk
/-- a thing, or none, into a row of things -/
theorem rl_astT {n i : Nat} {g : Nat → Option Nat} {r : Option Nat} (hC : rl_C p m c cc nL s args own cw D t A) (hW : rl_W D A f z s.heap H locs) (he : f a = some (.inl (t 3, n, .inr (.inr (.inr (.inr g)))))) (hr : ∀ q, r = some q → cAT f q) (hi : i < n) (hN : n < 2 ^ 31) (hdg : decode cc pc = .ok (.aastore, 1))
    (kk : ∀ (H1 : Heap) (locs1 : List Loc), rl_W D A (rl_up f a (.inl (t 3, n, .inr (.inr (.inr (.inr (va_up g i r))))))) z s.heap H1 locs1 → W p l e R s m args below meth c H1 locs1 cells slots Q (F0 m (pc + 1) ls rest)) : W p l e R s m args below meth c H locs cells slots Q (F0 m pc ls (va_rf r :: .int (nI i) :: .ref a :: rest)) := by
  cases r with
  | none => exact rl_aastN 3 hC hW rfl he (rl_in hi hN).1 hdg (by rw [(rl_in hi hN).2]; exact kk)
  | some q =>
    rcases hr q rfl with ⟨fs, h0⟩ | ⟨fs, h0⟩ | ⟨fs, h0⟩
    · exact rl_aast 3 hC hW rfl he h0 rfl (Or.inr mt_999) (rl_in hi hN).1 hdg (by rw [(rl_in hi hN).2]; exact kk)
    · exact rl_aast 3 hC hW rfl he h0 rfl (Or.inr mt_1001) (rl_in hi hN).1 hdg (by rw [(rl_in hi hN).2]; exact kk)
    · exact rl_aast 3 hC hW rfl he h0 rfl (Or.inr mt_1000) (rl_in hi hN).1 hdg (by rw [(rl_in hi hN).2]; exact kk)
end RLT
theorem ca_none {E : Nat → Nat → Nat} {h : pHd} : ca E h = none ↔ h = none := by
  rcases h with _ | n | n | n <;> simp [ca]

set_option maxHeartbeats 4000000 in
set_option maxRecDepth 100000 in
theorem cC_status (l : Launch) (D : va_G) (t : Nat → ClassId) (A : Nat → Prop) (f : rl_M) (z : Nat) (x : Nat) (T : Nat → Nat → Nat) (ρ κ : Nat) (G : pG) (E : Nat → Nat → Nat) (hI : CI t f x T ρ κ G E) (hT : rt_ok T) (hG : GW T ρ κ G) : rl_Met l yX11_status (.code yX11_status cX11_status 1 (some FieldType.int)) (rl_rm 3 0 0) D t A f z [.ref (x)] (rl_qi z fun r f1 => CI t f1 x T ρ κ G E) := by
  refine rl_begin (own := RX11) (lv := [(0, .ref (x))]) (by decide +kernel) rfl (Nat.le_of_ble_eq_true rfl) rfl fun p e s m0 args below meth c ls H locs hC hr hlk hnm hW hl hx hb => ?_
  replace hI : CJ t _ x T ρ κ G E (G.2.1 0) (G.2.1 0 3) := hI
  obtain ⟨hF0, hEV, hRV, ⟨v5, hx0⟩, ⟨gpl, hpl, hpt⟩, ⟨⟨ggn, hgn, hgnE⟩, ⟨ggp, hgp, hgq⟩⟩, ⟨⟨fz, htp⟩, ⟨glv, hlv, hlvE⟩, ⟨gfr, hfr⟩⟩, hRW, hRC, hIN⟩ := id hI
  refine lv_aload_n hx hb dX11_status_0 rfl (lv_at hl 0 rfl) ?_
  refine rl_get (v := .int (v5)) hC hW fl_X11_37 hx0 rfl dX11_status_1 ?_
  exact rl_iret hC hW hr hlk (Nat.le_refl _) (Nat.le_refl _) ⟨_, rfl, rfl, rfl, hI⟩ dX11_status_4

set_option maxHeartbeats 4000000 in
set_option maxRecDepth 100000 in
theorem cC_cause (l : Launch) (D : va_G) (t : Nat → ClassId) (A : Nat → Prop) (f : rl_M) (z : Nat) (x : Nat) (T : Nat → Nat → Nat) (ρ κ : Nat) (G : pG) (E : Nat → Nat → Nat) (hI : CI t f x T ρ κ G E) (hT : rt_ok T) (hG : GW T ρ κ G) (x1 : Int32) : rl_Met l yX11_cause (.code yX11_cause cX11_cause 2 (some FieldType.int)) (rl_rm 3 0 0) D t A f z [.ref (x), .int (x1)] (rl_qi z fun r f1 => f_cause G x1 = r ∧ CI t f1 x T ρ κ G E) := by
  refine rl_begin (own := RX11) (lv := [(0, .ref (x)), (1, .int (x1))]) (by decide +kernel) rfl (Nat.le_of_ble_eq_true rfl) rfl fun p e s m0 args below meth c ls H locs hC hr hlk hnm hW hl hx hb => ?_
  replace hI : CJ t _ x T ρ κ G E (G.2.1 0) (G.2.1 0 3) := hI
  obtain ⟨hF0, hEV, hRV, ⟨v5, hx0⟩, ⟨gpl, hpl, hpt⟩, ⟨⟨ggn, hgn, hgnE⟩, ⟨ggp, hgp, hgq⟩⟩, ⟨⟨fz, htp⟩, ⟨glv, hlv, hlvE⟩, ⟨gfr, hfr⟩⟩, hRW, hRC, hIN⟩ := id hI
  refine lv_iload_n hx hb dX11_cause_0 rfl (lv_at hl 1 rfl) ?_
  rcases Decidable.em (x1 = 0) with rfl | n0
  · refine lv_tableIn (tgt := 28) hx hb dX11_cause_1 (by decide) (by decide) rfl (by decide) ?_
    refine lv_aload_n hx hb dX11_cause_28 rfl (lv_at hl 0 rfl) ?_
    refine rl_get (v := .int ((G.2.1 0) 0)) hC hW fl_X11_199 hx0 rfl dX11_cause_29 ?_
    exact rl_iret hC hW hr hlk (Nat.le_refl _) (Nat.le_refl _) ⟨_, rfl, rfl, rfl, rfl, hI⟩ dX11_cause_32
  · rcases Decidable.em (x1 = 1) with rfl | n1
    · refine lv_tableIn (tgt := 33) hx hb dX11_cause_1 (by decide) (by decide) rfl (by decide) ?_
      refine lv_aload_n hx hb dX11_cause_33 rfl (lv_at hl 0 rfl) ?_
      refine rl_get (v := .int ((G.2.1 0) 1)) hC hW fl_X11_41 hx0 rfl dX11_cause_34 ?_
      exact rl_iret hC hW hr hlk (Nat.le_refl _) (Nat.le_refl _) ⟨_, rfl, rfl, rfl, rfl, hI⟩ dX11_cause_37
    · rcases Decidable.em (x1 = 2) with rfl | n2
      · refine lv_tableIn (tgt := 38) hx hb dX11_cause_1 (by decide) (by decide) rfl (by decide) ?_
        refine lv_aload_n hx hb dX11_cause_38 rfl (lv_at hl 0 rfl) ?_
        refine rl_get (v := .int ((G.2.1 0) 2)) hC hW fl_X11_202 hx0 rfl dX11_cause_39 ?_
        exact rl_iret hC hW hr hlk (Nat.le_refl _) (Nat.le_refl _) ⟨_, rfl, rfl, rfl, rfl, hI⟩ dX11_cause_42
      · refine lv_tableOut (tgt := 43) hx hb dX11_cause_1 (by have q0 := rg_sw 0 (n := 0) (by decide) n0; have q1 := rg_sw 1 (n := 1) (by decide) n1; have q2 := rg_sw 2 (n := 2) (by decide) n2; omega) (by decide) ?_
        refine lv_iconst (v := (-1)) hx hb dX11_cause_43 (by decide) ?_
        exact rl_iret hC hW hr hlk (Nat.le_refl _) (Nat.le_refl _) ⟨_, rfl, rfl, rfl, (by unfold f_cause; rw [if_neg n0, if_neg n1, if_neg n2]), hI⟩ dX11_cause_44

set_option maxHeartbeats 4000000 in
set_option maxRecDepth 100000 in
theorem cC_rememberCause (l : Launch) (D : va_G) (t : Nat → ClassId) (A : Nat → Prop) (f : rl_M) (z : Nat) (x : Nat) (T : Nat → Nat → Nat) (ρ κ : Nat) (G : pG) (E : Nat → Nat → Nat) (gx : Nat → Int32) (mo : Int32) (hI : CJ t f x T ρ κ G E gx mo) (x1 x2 x3 : Int32) : rl_Met l yX11_rememberCause (.code yX11_rememberCause cX11_rememberCause 4 none) (rl_rm 0 0 0) D t A f z [.ref (x), .int (x1), .int (x2), .int (x3)] (rl_qv z fun f1 => CJ t f1 x T ρ κ G E (upd (upd (upd gx 0 x1) 1 x2) 2 x3) mo ∧ ∀ q e, f q = some e → q ≠ x → f1 q = some e) := by
  refine rl_begin (own := RX11) (lv := [(0, .ref (x)), (1, .int (x1)), (2, .int (x2)), (3, .int (x3))]) (by decide +kernel) rfl (Nat.le_of_ble_eq_true rfl) rfl fun p e s m0 args below meth c ls H locs hC hr hlk hnm hW hl hx hb => ?_
  obtain ⟨hF0, hEV, hRV, ⟨v5, hx0⟩, ⟨gpl, hpl, hpt⟩, ⟨⟨ggn, hgn, hgnE⟩, ⟨ggp, hgp, hgq⟩⟩, ⟨⟨fz, htp⟩, ⟨glv, hlv, hlvE⟩, ⟨gfr, hfr⟩⟩, hRW, hRC, hIN⟩ := id hI
  refine lv_aload_n hx hb dX11_rememberCause_0 rfl (lv_at hl 0 rfl) ?_
  refine lv_iload_n hx hb dX11_rememberCause_1 rfl (lv_at hl 1 rfl) ?_
  refine rl_put (v := .int (x1)) hC hW fp_X11_199 hx0 (Nat.le_of_ble_eq_true rfl) rfl rfl dX11_rememberCause_2 (fun H locs hW => ?_)
  replace hW : rl_W D A (rl_up _ x (.inr (10, [.ref (x + 1), .ref (x + 52), .ref (x + 53), .ref (x + 54), .ref (x + 55), .int v5, .int ((upd gx 0 (x1)) 0), .int ((upd gx 0 (x1)) 1), .int ((upd gx 0 (x1)) 2), .int mo, .int ((upd gx 0 (x1)) 4), .int ((upd gx 0 (x1)) 5)]))) z s.heap H locs := hW
  replace hI := hI.setx v5 (upd gx 0 (x1)) mo
  obtain ⟨hF0, hEV, hRV, ⟨v5, hx0⟩, ⟨gpl, hpl, hpt⟩, ⟨⟨ggn, hgn, hgnE⟩, ⟨ggp, hgp, hgq⟩⟩, ⟨⟨fz, htp⟩, ⟨glv, hlv, hlvE⟩, ⟨gfr, hfr⟩⟩, hRW, hRC, hIN⟩ := id hI
  refine lv_aload_n hx hb dX11_rememberCause_5 rfl (lv_at hl 0 rfl) ?_
  refine lv_iload_n hx hb dX11_rememberCause_6 rfl (lv_at hl 2 rfl) ?_
  refine rl_put (v := .int (x2)) hC hW fp_X11_41 hx0 (Nat.le_of_ble_eq_true rfl) rfl rfl dX11_rememberCause_7 (fun H locs hW => ?_)
  replace hW : rl_W D A (rl_up _ x (.inr (10, [.ref (x + 1), .ref (x + 52), .ref (x + 53), .ref (x + 54), .ref (x + 55), .int v5, .int ((upd (upd gx 0 (x1)) 1 (x2)) 0), .int ((upd (upd gx 0 (x1)) 1 (x2)) 1), .int ((upd (upd gx 0 (x1)) 1 (x2)) 2), .int mo, .int ((upd (upd gx 0 (x1)) 1 (x2)) 4), .int ((upd (upd gx 0 (x1)) 1 (x2)) 5)]))) z s.heap H locs := hW
  replace hI := hI.setx v5 (upd (upd gx 0 (x1)) 1 (x2)) mo
  obtain ⟨hF0, hEV, hRV, ⟨v5, hx0⟩, ⟨gpl, hpl, hpt⟩, ⟨⟨ggn, hgn, hgnE⟩, ⟨ggp, hgp, hgq⟩⟩, ⟨⟨fz, htp⟩, ⟨glv, hlv, hlvE⟩, ⟨gfr, hfr⟩⟩, hRW, hRC, hIN⟩ := id hI
  refine lv_aload_n hx hb dX11_rememberCause_10 rfl (lv_at hl 0 rfl) ?_
  refine lv_iload_n hx hb dX11_rememberCause_11 rfl (lv_at hl 3 rfl) ?_
  refine rl_put (v := .int (x3)) hC hW fp_X11_202 hx0 (Nat.le_of_ble_eq_true rfl) rfl rfl dX11_rememberCause_12 (fun H locs hW => ?_)
  replace hW : rl_W D A (rl_up _ x (.inr (10, [.ref (x + 1), .ref (x + 52), .ref (x + 53), .ref (x + 54), .ref (x + 55), .int v5, .int ((upd (upd (upd gx 0 (x1)) 1 (x2)) 2 (x3)) 0), .int ((upd (upd (upd gx 0 (x1)) 1 (x2)) 2 (x3)) 1), .int ((upd (upd (upd gx 0 (x1)) 1 (x2)) 2 (x3)) 2), .int mo, .int ((upd (upd (upd gx 0 (x1)) 1 (x2)) 2 (x3)) 4), .int ((upd (upd (upd gx 0 (x1)) 1 (x2)) 2 (x3)) 5)]))) z s.heap H locs := hW
  replace hI := hI.setx v5 (upd (upd (upd gx 0 (x1)) 1 (x2)) 2 (x3)) mo
  obtain ⟨hF0, hEV, hRV, ⟨v5, hx0⟩, ⟨gpl, hpl, hpt⟩, ⟨⟨ggn, hgn, hgnE⟩, ⟨ggp, hgp, hgq⟩⟩, ⟨⟨fz, htp⟩, ⟨glv, hlv, hlvE⟩, ⟨gfr, hfr⟩⟩, hRW, hRC, hIN⟩ := id hI
  exact rl_vret hC hW hr hlk (Nat.le_refl _) (Nat.le_refl _) ⟨rfl, rfl, rfl, hI, fun q e hq hn => by rw [rl_up_n hn, rl_up_n hn, rl_up_n hn]; exact hq⟩ dX11_rememberCause_15

set_option maxHeartbeats 4000000 in
set_option maxRecDepth 100000 in
theorem cC_heldPlaces (l : Launch) (D : va_G) (t : Nat → ClassId) (A : Nat → Prop) (f : rl_M) (z : Nat) (x : Nat) (T : Nat → Nat → Nat) (ρ κ : Nat) (G : pG) (E : Nat → Nat → Nat) (hI : CI t f x T ρ κ G E) : rl_Met l yX11_heldPlaces (.code yX11_heldPlaces cX11_heldPlaces 3 (some FieldType.int)) (rl_rm 0 0 0) D t A f z [.ref (x)] (rl_qi z fun r f1 => f = f1 ∧ r = nI (pu_held (G.2.2.2 0) 10)) := by
  refine rl_begin (own := RX11) (lv := [(0, .ref (x))]) (by decide +kernel) rfl (Nat.le_of_ble_eq_true rfl) rfl fun p e s m0 args below meth c ls H locs hC hr hlk hnm hW hl hx hb => ?_
  replace hI : CJ t _ x T ρ κ G E (G.2.1 0) (G.2.1 0 3) := hI
  obtain ⟨hF0, hEV, hRV, ⟨v5, hx0⟩, ⟨gpl, hpl, hpt⟩, ⟨⟨ggn, hgn, hgnE⟩, ⟨ggp, hgp, hgq⟩⟩, ⟨⟨fz, htp⟩, ⟨glv, hlv, hlvE⟩, ⟨gfr, hfr⟩⟩, hRW, hRC, hIN⟩ := id hI
  refine lv_iconst (v := (nI (0))) hx hb dX11_heldPlaces_0 (by decide) ?_
  refine lv_istore_n (lv' := [(1, .int (nI (0))), (0, .ref (x))]) hx hb dX11_heldPlaces_1 rfl hl (by decide) rfl (fun ls hl => ?_)
  refine lv_iconst (v := (nI (0))) hx hb dX11_heldPlaces_2 (by decide) ?_
  refine lv_istore_n (lv' := [(2, .int (nI (0))), (1, .int (nI (0))), (0, .ref (x))]) hx hb dX11_heldPlaces_3 rfl hl (by decide) rfl (fun ls hl => ?_)
  replace hl : lv_has ls 3 [(0, .ref (x)), (1, .int (nI (0))), (2, .int (nI (0)))] := lv_sub hl [2, 1, 0] rfl
  replace hl : ∃ i : Nat, ∃ y : Nat, (i ≤ 10) ∧ (y = pu_held (G.2.2.2 0) i) ∧ lv_has ls 3 [(0, .ref (x)), (1, .int (nI (y))), (2, .int (nI (i)))] := ⟨0, 0, Nat.zero_le _, rfl, hl⟩
  obtain ⟨i, y, hi, hy, hl⟩ := hl
  obtain ⟨n, hn⟩ : ∃ n, 10 - i < n := ⟨_, Nat.lt_succ_self _⟩
  induction n generalizing i y ls with
  | zero => exact absurd hn (Nat.not_lt_zero _)
  | succ n ih =>
    refine lv_iload_n hx hb dX11_heldPlaces_4 rfl (lv_at hl 2 rfl) ?_
    refine lv_bipush (v := (nI (10))) hx hb dX11_heldPlaces_5 (by decide) ?_
    refine lv_icmp_ge (tgt := 28) hx hb dX11_heldPlaces_7 (by decide) (fun c1 => ?_) (fun c1 => ?_)
    · have h10 : i = 10 := by have := rg_le c1 (by decide) (by omega); omega
      refine lv_iload_n hx hb dX11_heldPlaces_28 rfl (lv_at hl 1 rfl) ?_
      exact rl_iret hC hW hr hlk (Nat.le_refl _) (Nat.le_refl _) ⟨_, rfl, rfl, rfl, rfl, by rw [hy, h10]⟩ dX11_heldPlaces_29
    · have hlt : i < 10 := rg_lt c1 (by omega) (by omega)
      refine lv_aload_n hx hb dX11_heldPlaces_10 rfl (lv_at hl 0 rfl) ?_
      refine rl_get (v := .ref (x + 52)) hC hW fl_X11_18 hx0 rfl dX11_heldPlaces_11 ?_
      refine lv_iload_n hx hb dX11_heldPlaces_14 rfl (lv_at hl 2 rfl) ?_
      refine rl_aald_n 3 hC hW rfl hpl (by omega) (by decide) dX11_heldPlaces_15 ?_
      obtain ⟨r0, er0⟩ : ∃ r : Option Nat, r = gpl (i) := ⟨_, rfl⟩
      refine rl_topqq er0.symm ?_
      rcases r0 with _ | a
      · have hno : G.2.2.2 0 i = none := ca_none.mp ((hpt i hlt).1.symm.trans er0.symm)
        refine lv_ifnullN (tgt := 22) hx hb dX11_heldPlaces_16 (by decide) ?_
        refine lv_iinc (v := (nI ((i) + 1))) (lv' := [(2, .int (nI ((i) + 1))), (0, .ref (x)), (1, .int (nI (y)))]) hx hb dX11_heldPlaces_22 hl (k := 2) rfl (nI_1 _) (by decide) rfl (fun ls hl => ?_)
        refine lv_goto (tgt := 4) hx hb dX11_heldPlaces_25 (by decide) ?_
        replace hl : lv_has ls 3 [(0, .ref (x)), (1, .int (nI (y))), (2, .int (nI ((i) + 1)))] := lv_sub hl [1, 2, 0] rfl
        exact ih ls (i + 1) _ (by omega) (by rw [hy, pu_held]; rw [hno]; rfl) hl (by omega)
      · have hno : G.2.2.2 0 i ≠ none := fun q => by have h9 := er0.trans (hpt i hlt).1; rw [q] at h9; cases h9
        refine lv_ifnull hx hb dX11_heldPlaces_16 ?_
        refine lv_iinc (v := (nI ((y) + 1))) (lv' := [(1, .int (nI ((y) + 1))), (0, .ref (x)), (2, .int (nI (i)))]) hx hb dX11_heldPlaces_19 hl (k := 1) rfl (nI_1 _) (by decide) rfl (fun ls hl => ?_)
        refine lv_iinc (v := (nI ((i) + 1))) (lv' := [(2, .int (nI ((i) + 1))), (1, .int (nI ((y) + 1))), (0, .ref (x))]) hx hb dX11_heldPlaces_22 hl (k := 2) rfl (nI_1 _) (by decide) rfl (fun ls hl => ?_)
        refine lv_goto (tgt := 4) hx hb dX11_heldPlaces_25 (by decide) ?_
        replace hl : lv_has ls 3 [(0, .ref (x)), (1, .int (nI ((y) + 1))), (2, .int (nI ((i) + 1)))] := lv_sub hl [2, 1, 0] rfl
        exact ih ls (i + 1) _ (by omega) (by rw [hy, pu_held]; cases hx : G.2.2.2 0 i with | none => exact absurd hx hno | some x => rfl) hl (by omega)

set_option maxHeartbeats 4000000 in
set_option maxRecDepth 100000 in
theorem cC_count (l : Launch) (D : va_G) (t : Nat → ClassId) (A : Nat → Prop) (f : rl_M) (z : Nat) (x : Nat) (T : Nat → Nat → Nat) (ρ κ : Nat) (G : pG) (E : Nat → Nat → Nat) (hI : CI t f x T ρ κ G E) (hT : rt_ok T) (hG : GW T ρ κ G) (x1 : Int32) : rl_Met l yX11_count (.code yX11_count cX11_count 2 (some FieldType.int)) (rl_rm 3 0 0) D t A f z [.ref (x), .int (x1)] (rl_qi z fun r f1 => f_count G x1 = r ∧ CI t f1 x T ρ κ G E) := by
  refine rl_begin (own := RX11) (lv := [(0, .ref (x)), (1, .int (x1))]) (by decide +kernel) rfl (Nat.le_of_ble_eq_true rfl) rfl fun p e s m0 args below meth c ls H locs hC hr hlk hnm hW hl hx hb => ?_
  replace hI : CJ t _ x T ρ κ G E (G.2.1 0) (G.2.1 0 3) := hI
  obtain ⟨hF0, hEV, hRV, ⟨v5, hx0⟩, ⟨gpl, hpl, hpt⟩, ⟨⟨ggn, hgn, hgnE⟩, ⟨ggp, hgp, hgq⟩⟩, ⟨⟨fz, htp⟩, ⟨glv, hlv, hlvE⟩, ⟨gfr, hfr⟩⟩, hRW, hRC, hIN⟩ := id hI
  refine lv_iload_n hx hb dX11_count_0 rfl (lv_at hl 1 rfl) ?_
  rcases Decidable.em (x1 = 0) with rfl | n0
  · refine lv_tableIn (tgt := 36) hx hb dX11_count_1 (by decide) (by decide) rfl (by decide) ?_
    refine lv_aload_n hx hb dX11_count_36 rfl (lv_at hl 0 rfl) ?_
    refine rl_get (v := .int ((G.2.1 0 3))) hC hW fl_X11_132 hx0 rfl dX11_count_37 ?_
    exact rl_iret hC hW hr hlk (Nat.le_refl _) (Nat.le_refl _) ⟨_, rfl, rfl, rfl, rfl, hI⟩ dX11_count_40
  · rcases Decidable.em (x1 = 1) with rfl | n1
    · refine lv_tableIn (tgt := 41) hx hb dX11_count_1 (by decide) (by decide) rfl (by decide) ?_
      refine lv_aload_n hx hb dX11_count_41 rfl (lv_at hl 0 rfl) ?_
      refine rl_get (v := .int ((G.2.1 0) 4)) hC hW fl_X11_187 hx0 rfl dX11_count_42 ?_
      exact rl_iret hC hW hr hlk (Nat.le_refl _) (Nat.le_refl _) ⟨_, rfl, rfl, rfl, rfl, hI⟩ dX11_count_45
    · rcases Decidable.em (x1 = 2) with rfl | n2
      · refine lv_tableIn (tgt := 46) hx hb dX11_count_1 (by decide) (by decide) rfl (by decide) ?_
        refine lv_aload_n hx hb dX11_count_46 rfl (lv_at hl 0 rfl) ?_
        refine rl_get (v := .int ((G.2.1 0) 5)) hC hW fl_X11_190 hx0 rfl dX11_count_47 ?_
        exact rl_iret hC hW hr hlk (Nat.le_refl _) (Nat.le_refl _) ⟨_, rfl, rfl, rfl, rfl, hI⟩ dX11_count_50
      · rcases Decidable.em (x1 = 3) with rfl | n3
        · refine lv_tableIn (tgt := 51) hx hb dX11_count_1 (by decide) (by decide) rfl (by decide) ?_
          refine lv_aload_n hx hb dX11_count_51 rfl (lv_at hl 0 rfl) ?_
          refine rl_get (v := .ref (x + 55)) hC hW fl_X11_33 hx0 rfl dX11_count_52 ?_
          refine rl_get (v := .int (nI (G.1 4 0))) hC hW fl_X11_162 htp rfl dX11_count_55 ?_
          exact rl_iret hC hW hr hlk (Nat.le_refl _) (Nat.le_refl _) ⟨_, rfl, rfl, rfl, rfl, hI⟩ dX11_count_58
        · rcases Decidable.em (x1 = 4) with rfl | n4
          · refine lv_tableIn (tgt := 59) hx hb dX11_count_1 (by decide) (by decide) rfl (by decide) ?_
            refine lv_aload_n hx hb dX11_count_59 rfl (lv_at hl 0 rfl) ?_
            refine rl_calliQ (rl_runV (b := x) (As := []) (rest := []) hC hW (cC_heldPlaces l D t A _ z x T ρ κ G E hI) cs_X11_205 im_X11_heldPlaces sl_X11_heldPlaces hx0 rfl ⟨(Nat.le_of_ble_eq_true rfl), (Nat.le_of_ble_eq_true rfl)⟩ rfl hl.1 rfl (Nat.le_of_ble_eq_true rfl) dX11_count_60 ⟨(Nat.le_of_ble_eq_true rfl), (Nat.le_of_ble_eq_true rfl)⟩) hW (fun r f1 H locs hp hW => ?_)
            obtain ⟨rfl, rfl⟩ := hp
            exact rl_iret hC hW hr hlk (Nat.le_refl _) (Nat.le_refl _) ⟨_, rfl, rfl, rfl, rfl, hI⟩ dX11_count_63
          · refine lv_tableOut (tgt := 64) hx hb dX11_count_1 (by have q0 := rg_sw 0 (n := 0) (by decide) n0; have q1 := rg_sw 1 (n := 1) (by decide) n1; have q2 := rg_sw 2 (n := 2) (by decide) n2; have q3 := rg_sw 3 (n := 3) (by decide) n3; have q4 := rg_sw 4 (n := 4) (by decide) n4; omega) (by decide) ?_
            refine lv_iconst (v := (-1)) hx hb dX11_count_64 (by decide) ?_
            exact rl_iret hC hW hr hlk (Nat.le_refl _) (Nat.le_refl _) ⟨_, rfl, rfl, rfl, (by unfold f_count; rw [if_neg n0, if_neg n1, if_neg n2, if_neg n3, if_neg n4]), hI⟩ dX11_count_65

set_option maxHeartbeats 4000000 in
set_option maxRecDepth 100000 in
theorem cC_give (l : Launch) (D : va_G) (t : Nat → ClassId) (A : Nat → Prop) (f : rl_M) (z : Nat) (x : Nat) (T : Nat → Nat → Nat) (ρ κ : Nat) (G : pG) (E : Nat → Nat → Nat) (hI : CI t f x T ρ κ G E) (hT : rt_ok T) (hG : GW T ρ κ G) (x1 : Int32) (x2 : Int64) (x4 : Int32) : rl_Met l yX11_give (.code yX11_give cX11_give 5 (some FieldType.int)) (rl_rm 3 0 0) D t A f z [.ref (x), .int (x1), .long (x2), .int (x4)] (rl_qi z fun r f1 => ∃ ρ' κ' G' E', f_give ρ κ G x1 x2 x4 = (r, ρ', κ', G') ∧ CI t f1 x T ρ' κ' G' E') := by
  refine rl_begin (own := RX11) (lv := [(0, .ref (x)), (1, .int (x1)), (2, .long (x2)), (4, .int (x4))]) (by decide +kernel) rfl (Nat.le_of_ble_eq_true rfl) rfl fun p e s m0 args below meth c ls H locs hC hr hlk hnm hW hl hx hb => ?_
  replace hI : CJ t _ x T ρ κ G E (G.2.1 0) (G.2.1 0 3) := hI
  obtain ⟨hF0, hEV, hRV, ⟨v5, hx0⟩, ⟨gpl, hpl, hpt⟩, ⟨⟨ggn, hgn, hgnE⟩, ⟨ggp, hgp, hgq⟩⟩, ⟨⟨fz, htp⟩, ⟨glv, hlv, hlvE⟩, ⟨gfr, hfr⟩⟩, hRW, hRC, hIN⟩ := id hI
  refine lv_iload_n hx hb dX11_give_0 rfl (lv_at hl 1 rfl) ?_
  refine lv_iconst (v := (nI (5))) hx hb dX11_give_1 (by decide) ?_
  refine rl_calliQ (rl_runS (As := [.int (x1), .int (nI (5))]) (rest := []) hC hW (cC_below l D t A _ z _ (5) (by omega)) cs_X11_48 sm_X11_below ⟨(Nat.le_of_ble_eq_true rfl), (Nat.le_of_ble_eq_true rfl)⟩ rfl hl.1 rfl (Nat.le_of_ble_eq_true rfl) dX11_give_2 ⟨(Nat.le_of_ble_eq_true rfl), (Nat.le_of_ble_eq_true rfl)⟩) hW (fun r f1 H locs hp hW => ?_)
  obtain ⟨rfl, hp⟩ := hp
  rcases hp with ⟨rfl, hp⟩ | ⟨rfl, hp⟩
  · obtain ⟨p0, hp0, rfl⟩ := hp
    refine lv_if_eq (tgt := 18) hx hb dX11_give_5 (by decide) (fun c9 => ?_) (fun c9 => ?_)
    · exact absurd c9 (by decide)
    · refine lv_iload hx hb dX11_give_8 (lv_at hl 3 rfl) ?_
      refine lv_bipush (v := (nI (10))) hx hb dX11_give_10 (by decide) ?_
      refine rl_calliQ (rl_runS (As := [.int (x4), .int (nI (10))]) (rest := []) hC hW (cC_below l D t A _ z _ (10) (by omega)) cs_X11_48 sm_X11_below ⟨(Nat.le_of_ble_eq_true rfl), (Nat.le_of_ble_eq_true rfl)⟩ rfl hl.1 rfl (Nat.le_of_ble_eq_true rfl) dX11_give_12 ⟨(Nat.le_of_ble_eq_true rfl), (Nat.le_of_ble_eq_true rfl)⟩) hW (fun r f1 H locs hp hW => ?_)
      obtain ⟨rfl, hp⟩ := hp
      rcases hp with ⟨rfl, hp⟩ | ⟨rfl, hp⟩
      · obtain ⟨q0, hq0, rfl⟩ := hp
        refine lv_if_ne (tgt := 20) hx hb dX11_give_15 (by decide) (fun c9 => ?_) (fun c9 => ?_)
        · refine lv_aload_n hx hb dX11_give_20 rfl (lv_at hl 0 rfl) ?_
          refine rl_get (v := .ref (x + 53)) hC hW fl_X11_22 hx0 rfl dX11_give_21 ?_
          refine lv_iload_n hx hb dX11_give_24 rfl (lv_at hl 1 rfl) ?_
          refine lv_lload_n hx hb dX11_give_25 rfl (lv_at hl 2 rfl) ?_
          refine rl_last_n hC hW hgn (by omega) (by decide) dX11_give_26 (fun H locs hW => ?_)
          replace hI := hI.setgn (p := p0) (v := x2) hgn
          obtain ⟨hF0, hEV, hRV, ⟨v5, hx0⟩, ⟨gpl, hpl, hpt⟩, ⟨⟨ggn, hgn, hgnE⟩, ⟨ggp, hgp, hgq⟩⟩, ⟨⟨fz, htp⟩, ⟨glv, hlv, hlvE⟩, ⟨gfr, hfr⟩⟩, hRW, hRC, hIN⟩ := id hI
          refine lv_aload_n hx hb dX11_give_27 rfl (lv_at hl 0 rfl) ?_
          refine rl_get (v := .ref (x + 54)) hC hW fl_X11_26 hx0 rfl dX11_give_28 ?_
          refine lv_iload_n hx hb dX11_give_31 rfl (lv_at hl 1 rfl) ?_
          refine lv_iload hx hb dX11_give_32 (lv_at hl 3 rfl) ?_
          refine rl_iast_n hC hW hgp (by omega) (by decide) dX11_give_34 (fun H locs hW => ?_)
          replace hI := hI.setgp (p := p0) (q := q0) hgp
          obtain ⟨hF0, hEV, hRV, ⟨v5, hx0⟩, ⟨gpl, hpl, hpt⟩, ⟨⟨ggn, hgn, hgnE⟩, ⟨ggp, hgp, hgq⟩⟩, ⟨⟨fz, htp⟩, ⟨glv, hlv, hlvE⟩, ⟨gfr, hfr⟩⟩, hRW, hRC, hIN⟩ := id hI
          refine lv_iconst (v := (nI (1))) hx hb dX11_give_35 (by decide) ?_
          exact rl_iret hC hW hr hlk (Nat.le_refl _) (Nat.le_refl _) ⟨_, rfl, rfl, rfl, ρ, κ, gN (gZ G 1 (vp_updL (G.2.2.1 1) p0 x2)) 3 (va_up (G.1 3) p0 q0), E, (by simp only [f_give, ob, pu_ix_s hp0 (by decide), pu_ix_s hq0 (by decide)]; rfl), hI⟩ dX11_give_36
        · exact absurd c9 (by decide)
      · have hq := hp
        refine lv_if_ne (tgt := 20) hx hb dX11_give_15 (by decide) (fun c9 => ?_) (fun c9 => ?_)
        · exact absurd rfl c9
        · refine lv_iconst (v := (-1)) hx hb dX11_give_18 (by decide) ?_
          exact rl_iret hC hW hr hlk (Nat.le_refl _) (Nat.le_refl _) ⟨_, rfl, rfl, rfl, ρ, κ, G, E, (by simp only [f_give, ob, pu_ix_s hp0 (by decide), pu_ix_n (n := 10) (by decide) hq]), hI⟩ dX11_give_19
  · have hq := hp
    refine lv_if_eq (tgt := 18) hx hb dX11_give_5 (by decide) (fun c9 => ?_) (fun c9 => ?_)
    · refine lv_iconst (v := (-1)) hx hb dX11_give_18 (by decide) ?_
      exact rl_iret hC hW hr hlk (Nat.le_refl _) (Nat.le_refl _) ⟨_, rfl, rfl, rfl, ρ, κ, G, E, (by simp only [f_give, ob, pu_ix_n (n := 5) (by decide) hq]), hI⟩ dX11_give_19
    · exact absurd rfl c9

set_option maxHeartbeats 4000000 in
set_option maxRecDepth 100000 in
theorem cC_share (l : Launch) (D : va_G) (t : Nat → ClassId) (A : Nat → Prop) (f : rl_M) (z : Nat) (x : Nat) (T : Nat → Nat → Nat) (ρ κ : Nat) (G : pG) (E : Nat → Nat → Nat) (hI : CI t f x T ρ κ G E) (hT : rt_ok T) (hG : GW T ρ κ G) (x1 x2 : Int32) : rl_Met l yX11_share (.code yX11_share cX11_share 3 (some FieldType.int)) (rl_rm 3 0 0) D t A f z [.ref (x), .int (x1), .int (x2)] (rl_qi z fun r f1 => ∃ ρ' κ' G' E', f_share T ρ κ G x1 x2 = (r, ρ', κ', G') ∧ CI t f1 x T ρ' κ' G' E') := by
  refine rl_begin (own := RX11) (lv := [(0, .ref (x)), (1, .int (x1)), (2, .int (x2))]) (by decide +kernel) rfl (Nat.le_of_ble_eq_true rfl) rfl fun p e s m0 args below meth c ls H locs hC hr hlk hnm hW hl hx hb => ?_
  replace hI : CJ t _ x T ρ κ G E (G.2.1 0) (G.2.1 0 3) := hI
  obtain ⟨hF0, hEV, hRV, ⟨v5, hx0⟩, ⟨gpl, hpl, hpt⟩, ⟨⟨ggn, hgn, hgnE⟩, ⟨ggp, hgp, hgq⟩⟩, ⟨⟨fz, htp⟩, ⟨glv, hlv, hlvE⟩, ⟨gfr, hfr⟩⟩, hRW, hRC, hIN⟩ := id hI
  refine lv_iload_n hx hb dX11_share_0 rfl (lv_at hl 1 rfl) ?_
  refine lv_bipush (v := (nI (10))) hx hb dX11_share_1 (by decide) ?_
  refine rl_calliQ (rl_runS (As := [.int (x1), .int (nI (10))]) (rest := []) hC hW (cC_below l D t A _ z _ (10) (by omega)) cs_X11_48 sm_X11_below ⟨(Nat.le_of_ble_eq_true rfl), (Nat.le_of_ble_eq_true rfl)⟩ rfl hl.1 rfl (Nat.le_of_ble_eq_true rfl) dX11_share_3 ⟨(Nat.le_of_ble_eq_true rfl), (Nat.le_of_ble_eq_true rfl)⟩) hW (fun r f1 H locs hp hW => ?_)
  obtain ⟨rfl, hp⟩ := hp
  rcases hp with ⟨rfl, hp⟩ | ⟨rfl, hp⟩
  · obtain ⟨p0, hp0, rfl⟩ := hp
    refine lv_if_eq (tgt := 18) hx hb dX11_share_6 (by decide) (fun c9 => ?_) (fun c9 => ?_)
    · exact absurd c9 (by decide)
    · refine lv_iload_n hx hb dX11_share_9 rfl (lv_at hl 2 rfl) ?_
      refine lv_bipush (v := (nI (10))) hx hb dX11_share_10 (by decide) ?_
      refine rl_calliQ (rl_runS (As := [.int (x2), .int (nI (10))]) (rest := []) hC hW (cC_below l D t A _ z _ (10) (by omega)) cs_X11_48 sm_X11_below ⟨(Nat.le_of_ble_eq_true rfl), (Nat.le_of_ble_eq_true rfl)⟩ rfl hl.1 rfl (Nat.le_of_ble_eq_true rfl) dX11_share_12 ⟨(Nat.le_of_ble_eq_true rfl), (Nat.le_of_ble_eq_true rfl)⟩) hW (fun r f1 H locs hp hW => ?_)
      obtain ⟨rfl, hp⟩ := hp
      rcases hp with ⟨rfl, hp⟩ | ⟨rfl, hp⟩
      · obtain ⟨q0, hq0, rfl⟩ := hp
        refine lv_if_ne (tgt := 20) hx hb dX11_share_15 (by decide) (fun c9 => ?_) (fun c9 => ?_)
        · refine lv_aload_n hx hb dX11_share_20 rfl (lv_at hl 0 rfl) ?_
          refine rl_get (v := .ref (x + 52)) hC hW fl_X11_18 hx0 rfl dX11_share_21 ?_
          refine lv_iload_n hx hb dX11_share_24 rfl (lv_at hl 1 rfl) ?_
          refine lv_aload_n hx hb dX11_share_25 rfl (lv_at hl 0 rfl) ?_
          refine rl_get (v := .ref (x + 52)) hC hW fl_X11_18 hx0 rfl dX11_share_26 ?_
          refine lv_iload_n hx hb dX11_share_29 rfl (lv_at hl 2 rfl) ?_
          refine rl_aald_n 3 hC hW rfl hpl (by omega) (by decide) dX11_share_30 ?_
          obtain ⟨r0, er0⟩ : ∃ r : Option Nat, r = gpl (q0) := ⟨_, rfl⟩
          refine rl_topqq er0.symm ?_
          obtain ⟨hpe, hok0⟩ := hpt q0 hq0
          refine rl_astT (r := r0) hC hW hpl (fun q e => (hI.at hok0 ((er0.trans hpe).symm.trans e)).1) (by omega) (by decide) dX11_share_31 (fun H locs hW => ?_)
          replace hI := hI.setp (p := p0) (r := r0) (hd := G.2.2.2 0 q0) hpl (er0.trans hpe) hok0
          have hG2 : GW T ρ κ (gX G 0 (va_up (G.2.2.2 0) p0 (G.2.2.2 0 q0))) := hG.pl hok0.hok
          obtain ⟨hF0, hEV, hRV, ⟨v5, hx0⟩, ⟨gpl, hpl, hpt⟩, ⟨⟨ggn, hgn, hgnE⟩, ⟨ggp, hgp, hgq⟩⟩, ⟨⟨fz, htp⟩, ⟨glv, hlv, hlvE⟩, ⟨gfr, hfr⟩⟩, hRW, hRC, hIN⟩ := id hI
          refine lv_aload_n hx hb dX11_share_32 rfl (lv_at hl 0 rfl) ?_
          refine rl_get (v := .ref (x + 52)) hC hW fl_X11_18 hx0 rfl dX11_share_33 ?_
          refine lv_iload_n hx hb dX11_share_36 rfl (lv_at hl 1 rfl) ?_
          refine rl_aald_n 3 hC hW rfl hpl (by omega) (by decide) dX11_share_37 ?_
          obtain ⟨r1, er1⟩ : ∃ r : Option Nat, r = gpl (p0) := ⟨_, rfl⟩
          refine rl_topqq er1.symm ?_
          have hp1 := (hpt p0 hp0).1
          rw [show (gX G 0 (va_up (G.2.2.2 0) p0 (G.2.2.2 0 q0))).2.2.2 0 p0 = G.2.2.2 0 q0 from va_up_s _ _ _] at hp1
          refine rl_calliQ (rl_runS (As := [va_rf (r1)]) (rest := []) hC hW (cC_familyOf l D t A _ z x T ρ κ (gX G 0 (va_up (G.2.2.2 0) p0 (G.2.2.2 0 q0))) E _ _ hI hT hG2 (G.2.2.2 0 q0) r1 (er1.trans hp1) hok0) cs_X11_111 sm_X11_familyOf ⟨(Nat.le_of_ble_eq_true rfl), (Nat.le_of_ble_eq_true rfl)⟩ rfl hl.1 rfl (Nat.le_of_ble_eq_true rfl) dX11_share_38 ⟨(Nat.le_of_ble_eq_true rfl), (Nat.le_of_ble_eq_true rfl)⟩) hW (fun r f1 H locs hp hW => ?_)
          obtain ⟨rfl, rfl⟩ := hp
          exact rl_iret hC hW hr hlk (Nat.le_refl _) (Nat.le_refl _) ⟨_, rfl, rfl, rfl, ρ, κ, gX G 0 (va_up (G.2.2.2 0) p0 (G.2.2.2 0 q0)), E, (by simp only [f_share, ob, pu_ix_s hp0 (by decide), pu_ix_s hq0 (by decide)]), hI⟩ dX11_share_41
        · exact absurd c9 (by decide)
      · have hq := hp
        refine lv_if_ne (tgt := 20) hx hb dX11_share_15 (by decide) (fun c9 => ?_) (fun c9 => ?_)
        · exact absurd rfl c9
        · refine lv_iconst (v := (-1)) hx hb dX11_share_18 (by decide) ?_
          exact rl_iret hC hW hr hlk (Nat.le_refl _) (Nat.le_refl _) ⟨_, rfl, rfl, rfl, ρ, κ, G, E, (by simp only [f_share, ob, pu_ix_s hp0 (by decide), pu_ix_n (n := 10) (by decide) hq]), hI⟩ dX11_share_19
  · have hq := hp
    refine lv_if_eq (tgt := 18) hx hb dX11_share_6 (by decide) (fun c9 => ?_) (fun c9 => ?_)
    · refine lv_iconst (v := (-1)) hx hb dX11_share_18 (by decide) ?_
      exact rl_iret hC hW hr hlk (Nat.le_refl _) (Nat.le_refl _) ⟨_, rfl, rfl, rfl, ρ, κ, G, E, (by simp only [f_share, ob, pu_ix_n (n := 10) (by decide) hq]), hI⟩ dX11_share_19
    · exact absurd rfl c9

set_option maxHeartbeats 4000000 in
set_option maxRecDepth 100000 in
theorem cC_leaf (l : Launch) (D : va_G) (t : Nat → ClassId) (A : Nat → Prop) (f : rl_M) (z : Nat) (x : Nat) (T : Nat → Nat → Nat) (ρ κ : Nat) (G : pG) (E : Nat → Nat → Nat) (hI : CI t f x T ρ κ G E) (hT : rt_ok T) (hG : GW T ρ κ G) (x1 : Int32) : rl_Met l yX11_leaf (.code yX11_leaf cX11_leaf 2 (some FieldType.long)) (rl_rm 3 0 0) D t A f z [.ref (x), .int (x1)] (rl_ql z fun r f1 => f_leaf G x1 = r ∧ CI t f1 x T ρ κ G E) := by
  refine rl_begin (own := RX11) (lv := [(0, .ref (x)), (1, .int (x1))]) (by decide +kernel) rfl (Nat.le_of_ble_eq_true rfl) rfl fun p e s m0 args below meth c ls H locs hC hr hlk hnm hW hl hx hb => ?_
  replace hI : CJ t _ x T ρ κ G E (G.2.1 0) (G.2.1 0 3) := hI
  have hl250 := hG.2.2.2.2
  obtain ⟨hF0, hEV, hRV, ⟨v5, hx0⟩, ⟨gpl, hpl, hpt⟩, ⟨⟨ggn, hgn, hgnE⟩, ⟨ggp, hgp, hgq⟩⟩, ⟨⟨fz, htp⟩, ⟨glv, hlv, hlvE⟩, ⟨gfr, hfr⟩⟩, hRW, hRC, hIN⟩ := id hI
  refine lv_aload_n hx hb dX11_leaf_0 rfl (lv_at hl 0 rfl) ?_
  refine lv_iconst (v := (-1)) hx hb dX11_leaf_1 (by decide) ?_
  refine rl_put (v := .int (-1)) hC hW fp_X11_37 hx0 (Nat.le_of_ble_eq_true rfl) rfl rfl dX11_leaf_2 (fun H locs hW => ?_)
  replace hW : rl_W D A (rl_up _ x (.inr (10, [.ref (x + 1), .ref (x + 52), .ref (x + 53), .ref (x + 54), .ref (x + 55), .int (-1), .int ((G.2.1 0) 0), .int ((G.2.1 0) 1), .int ((G.2.1 0) 2), .int (G.2.1 0 3), .int ((G.2.1 0) 4), .int ((G.2.1 0) 5)]))) z s.heap H locs := hW
  replace hI := hI.setx (-1) (G.2.1 0) (G.2.1 0 3)
  obtain ⟨hF0, hEV, hRV, ⟨v5, hx0⟩, ⟨gpl, hpl, hpt⟩, ⟨⟨ggn, hgn, hgnE⟩, ⟨ggp, hgp, hgq⟩⟩, ⟨⟨fz, htp⟩, ⟨glv, hlv, hlvE⟩, ⟨gfr, hfr⟩⟩, hRW, hRC, hIN⟩ := id hI
  refine lv_iload_n hx hb dX11_leaf_5 rfl (lv_at hl 1 rfl) ?_
  refine lv_aload_n hx hb dX11_leaf_6 rfl (lv_at hl 0 rfl) ?_
  refine rl_get (v := .ref (x + 55)) hC hW fl_X11_33 hx0 rfl dX11_leaf_7 ?_
  refine rl_get (v := .int (nI (G.1 4 0))) hC hW fl_X11_162 htp rfl dX11_leaf_10 ?_
  refine rl_calliQ (rl_runS (As := [.int (x1), .int (nI (G.1 4 0))]) (rest := []) hC hW (cC_below l D t A _ z _ (G.1 4 0) (by omega)) cs_X11_48 sm_X11_below ⟨(Nat.le_of_ble_eq_true rfl), (Nat.le_of_ble_eq_true rfl)⟩ rfl hl.1 rfl (Nat.le_of_ble_eq_true rfl) dX11_leaf_13 ⟨(Nat.le_of_ble_eq_true rfl), (Nat.le_of_ble_eq_true rfl)⟩) hW (fun r f1 H locs hp hW => ?_)
  obtain ⟨rfl, hp⟩ := hp
  rcases hp with ⟨rfl, hp⟩ | ⟨rfl, hp⟩
  · obtain ⟨k0, hk0, rfl⟩ := hp
    refine lv_if_ne (tgt := 21) hx hb dX11_leaf_16 (by decide) (fun c9 => ?_) (fun c9 => ?_)
    · refine lv_aload_n hx hb dX11_leaf_21 rfl (lv_at hl 0 rfl) ?_
      refine lv_iconst (v := (nI (0))) hx hb dX11_leaf_22 (by decide) ?_
      refine rl_put (v := .int (nI (0))) hC hW fp_X11_37 hx0 (Nat.le_of_ble_eq_true rfl) rfl rfl dX11_leaf_23 (fun H locs hW => ?_)
      replace hW : rl_W D A (rl_up _ x (.inr (10, [.ref (x + 1), .ref (x + 52), .ref (x + 53), .ref (x + 54), .ref (x + 55), .int (nI (0)), .int ((G.2.1 0) 0), .int ((G.2.1 0) 1), .int ((G.2.1 0) 2), .int (G.2.1 0 3), .int ((G.2.1 0) 4), .int ((G.2.1 0) 5)]))) z s.heap H locs := hW
      replace hI := hI.setx (nI (0)) (G.2.1 0) (G.2.1 0 3)
      obtain ⟨hF0, hEV, hRV, ⟨v5, hx0⟩, ⟨gpl, hpl, hpt⟩, ⟨⟨ggn, hgn, hgnE⟩, ⟨ggp, hgp, hgq⟩⟩, ⟨⟨fz, htp⟩, ⟨glv, hlv, hlvE⟩, ⟨gfr, hfr⟩⟩, hRW, hRC, hIN⟩ := id hI
      have hk250 : k0 < 250 := by omega
      refine lv_aload_n hx hb dX11_leaf_26 rfl (lv_at hl 0 rfl) ?_
      refine rl_get (v := .ref (x + 55)) hC hW fl_X11_33 hx0 rfl dX11_leaf_27 ?_
      refine rl_get (v := .ref (x + 56)) hC hW fl_X11_165 htp rfl dX11_leaf_30 ?_
      refine lv_iload_n hx hb dX11_leaf_33 rfl (lv_at hl 1 rfl) ?_
      refine rl_lald_n hC hW hlv (by omega) (by decide) dX11_leaf_34 ?_
      exact rl_lret hC hW hr hlk (Nat.le_refl _) (Nat.le_refl _) ⟨_, rfl, rfl, rfl, (by simp only [f_leaf, ob, pu_ix_s hk0 (show G.1 4 0 < 2 ^ 31 by omega)]; exact (hlvE k0 hk0).symm), hI⟩ dX11_leaf_35
    · exact absurd c9 (by decide)
  · have hq := hp
    refine lv_if_ne (tgt := 21) hx hb dX11_leaf_16 (by decide) (fun c9 => ?_) (fun c9 => ?_)
    · exact absurd rfl c9
    · refine lv_lconst (v := 0) hx hb dX11_leaf_19 (by decide) ?_
      exact rl_lret hC hW hr hlk (Nat.le_refl _) (Nat.le_refl _) ⟨_, rfl, rfl, rfl, (by simp only [f_leaf, ob, pu_ix_n (show G.1 4 0 < 2 ^ 31 by omega) hq]), hI⟩ dX11_leaf_20
