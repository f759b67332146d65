
theorem lw_K {s : State} {args : Array Value} (hts : ∀ w ∈ lw_tbl, w.before args s = true) (hgv : (Jvm.Cond.and given_1 narrow_1).before args s = true) : ∃ (D : va_G) (t : Nat → ClassId), rl_K D t s := by
  have hG : ∀ w ∈ rl_G, w.before args s = true := fun w hw => hts w (List.mem_filter.mp hw).1
  obtain ⟨c0, i0, hK0⟩ := u_known (C := RX0) (T := TX0) (N := 3) (n := 3) hG i_X0 (hG _ mw_263)
  obtain ⟨c1, i1, hK1⟩ := u_known (C := RX1) (T := TX1) (N := 4) (n := 4) hG i_X1 (hG _ mw_181)
  obtain ⟨c2, i2, hK2⟩ := u_known (C := RX2) (T := TX2) (N := 4) (n := 4) hG i_X2 (hG _ mw_32)
  obtain ⟨c3, i3, hK3⟩ := u_known (C := RX3) (T := TX3) (N := 2) (n := 2) hG i_X3 (hG _ mw_25)
  obtain ⟨c4, i4, hK4⟩ := u_known (C := RX4) (T := TX4) (N := 3) (n := 3) hG i_X4 (hG _ mw_224)
  obtain ⟨c5, i5, hK5⟩ := u_known (C := RX5) (T := TX5) (N := 8) (n := 8) hG i_X5 (hG _ mw_540)
  obtain ⟨c6, i6, hK6⟩ := u_known (C := RX6) (T := TX6) (N := 3) (n := 3) hG i_X6 (hG _ mw_339)
  obtain ⟨c7, i7, hK7⟩ := u_known (C := RX7) (T := TX7) (N := 6) (n := 6) hG i_X7 (hG _ mw_56)
  obtain ⟨c8, i8, hK8⟩ := u_known (C := RX8) (T := TX8) (N := 1) (n := 1) hG i_X8 (hG _ mw_291)
  obtain ⟨c9, i9, hK9⟩ := u_known (C := RX9) (T := TX9) (N := 4) (n := 4) hG i_X9 (hG _ mw_100)
  obtain ⟨c10, i10, hK10⟩ := u_known (C := RX11) (T := TX11) (N := 12) (n := 12) hG i_X11 (hG _ mw_17)
  obtain ⟨c11, i11, hK11⟩ := u_known (C := RX12) (T := TX12) (N := 49) (n := 49) hG i_X12 (hG _ mw_641)
  obtain ⟨a0, b0, e0, ha0, hb0, hc0⟩ := Cond.arrayClass_spec (hG _ mw_123)
  obtain ⟨a1, b1, e1, ha1, hb1, hc1⟩ := Cond.arrayClass_spec (hG _ mw_122)
  obtain ⟨a2, b2, e2, ha2, hb2, hc2⟩ := Cond.arrayClass_spec (hG _ mw_797)
  obtain ⟨e3, a3, b3, ha3, hx3, hb3, hc3, hd3⟩ := Cond.arrayOver_spec (hts _ mt_98)
  obtain ⟨e4, a4, b4, ha4, hx4, hb4, hc4, hd4⟩ := Cond.arrayOver_spec (hts _ mt_38)
  obtain ⟨e5, a5, b5, ha5, hx5, hb5, hc5, hd5⟩ := Cond.arrayOver_spec (hts _ mt_62)
  obtain ⟨e6, a6, b6, ha6, hx6, hb6, hc6, hd6⟩ := Cond.arrayOver_spec (hts _ mt_64)
  obtain ⟨e7, a7, b7, ha7, hx7, hb7, hc7, hd7⟩ := Cond.arrayOver_spec (hts _ mt_31)
  obtain ⟨e8, a8, b8, ha8, hx8, hb8, hc8, hd8⟩ := Cond.arrayOver_spec (hts _ mt_55)
  refine ⟨(fun k => match k with | 0 => c0 | 1 => c1 | 2 => c2 | 3 => c3 | 4 => c4 | 5 => c5 | 6 => c6 | 7 => c7 | 8 => c8 | 9 => c9 | 10 => c10 | _ => c11, fun k => match k with | 0 => i0 | 1 => i1 | 2 => i2 | 3 => i3 | 4 => i4 | 5 => i5 | 6 => i6 | 7 => i7 | 8 => i8 | 9 => i9 | 10 => i10 | _ => i11), fun k => match k with | 0 => a0 | 1 => a1 | 2 => a2 | 3 => a3 | 4 => a4 | 5 => a5 | 6 => a6 | 7 => a7 | _ => a8, ⟨fun k q hq => ?_, fun k q hq => ?_⟩, fun w hw hn => ?_, fun q hq => ?_, fun C hm => va_AO.of (hts _ hm)⟩
  · match k, hq with
    | 0, hq => cases hq; exact hK0
    | 1, hq => cases hq; exact hK1
    | 2, hq => cases hq; exact hK2
    | 3, hq => cases hq; exact hK3
    | 4, hq => cases hq; exact hK4
    | 5, hq => cases hq; exact hK5
    | 6, hq => cases hq; exact hK6
    | 7, hq => cases hq; exact hK7
    | 8, hq => cases hq; exact hK8
    | 9, hq => cases hq; exact hK9
    | 10, hq => cases hq; exact hK10
    | 11, hq => cases hq; exact hK11
    | k + 12, hq => exact absurd hq (by simp [rl_cl, vwCl])
  · match k, hq with
    | 0, hq => cases hq; exact ⟨fun n z => ⟨fun k h => (by cases h), b0, hb0, e0, hc0⟩, ha0⟩
    | 1, hq => cases hq; exact ⟨fun n z => ⟨fun k h => (by cases h), b1, hb1, e1, hc1⟩, ha1⟩
    | 2, hq => cases hq; exact ⟨fun n z => ⟨fun k h => (by cases h), b2, hb2, e2, hc2⟩, ha2⟩
    | 3, hq => cases hq; exact ⟨fun n z => ⟨fun k h => (by cases h), b3, hb3, e3, hc3⟩, ⟨b3, e3, hb3, hc3, ha3, hd3⟩⟩
    | 4, hq => cases hq; exact ⟨fun n z => ⟨fun k h => (by cases h), b4, hb4, e4, hc4⟩, ⟨b4, e4, hb4, hc4, ha4, hd4⟩⟩
    | 5, hq => cases hq; exact ⟨fun n z => ⟨fun k h => (by cases h), b5, hb5, e5, hc5⟩, ⟨b5, e5, hb5, hc5, ha5, hd5⟩⟩
    | 6, hq => cases hq; exact ⟨fun n z => ⟨fun k h => (by cases h), b6, hb6, e6, hc6⟩, ⟨b6, e6, hb6, hc6, ha6, hd6⟩⟩
    | 7, hq => cases hq; exact ⟨fun n z => ⟨fun k h => (by cases h), b7, hb7, e7, hc7⟩, ⟨b7, e7, hb7, hc7, ha7, hd7⟩⟩
    | 8, hq => cases hq; exact ⟨fun n z => ⟨fun k h => (by cases h), b8, hb8, e8, hc8⟩, ⟨b8, e8, hb8, hc8, ha8, hd8⟩⟩
    | k + 9, hq => exact absurd hq (by simp [rl_tys])
  · cases w <;> first | exact va_Nw.of rfl (hts _ hw) | (simp [rl_nw] at hn)
  · have hf := flat_of_before _ hgv
    simp only [rl_ncl, List.mem_cons, List.not_mem_nil, or_false] at hq
    rcases hq with rfl | rfl | rfl | rfl | rfl | rfl <;> exact va_Nc.of (hf _ (by decide +kernel))
set_option maxHeartbeats 4000000 in
set_option maxRecDepth 100000 in
/-- the law, from its entry -/
theorem whole_start {p : Program} {e : Env} {s : State} {m : MethodId} {below : List Frame} {meth : Method} {c : Code} (l : Launch) {b L : Nat} {xs : Nat → Int32} (hL : L ≤ 3072) (C0 : lw_At p s m meth c b L xs) : W p l e room_1 s m #[Value.ref b] below meth c s.heap [] 0 0 (lw_Z below #[Value.ref b] s) (entryFrame m ([Value.ref b] : List Value).toArray 4) := by
  obtain ⟨hx, hb, hr, hml, hown, hts, hX, hbl, hlocks, hgv⟩ := id C0
  obtain ⟨D, t, hK⟩ := lw_K hts hgv
  have hC : rl_C p m c cL_law 4 s #[Value.ref b] RL (.initialized "java/lang/Math") D t (fun q => s.heap.size ≤ q) := ⟨hx, hb, hml, hown, fun w hw => hts w (by
    rcases List.mem_cons.mp hw with rfl | h
    · exact (List.mem_filter.mp mw_12).1
    · exact (List.mem_filter.mp h).1), hK, fun q h => h⟩
  have hl := lv_entry ([.ref b]) (n := 4) (Nat.le_of_ble_eq_true rfl)
  rw [lg_entry_eq]
  generalize (lg_sl ([.ref b]) ++ List.replicate (4 - (lg_sl ([.ref b])).length) Slot.unset).toArray = ls at hl ⊢
  have hl : lv_has ls 4 [(0, .ref b)] := hl
  obtain ⟨x, hx0⟩ : ∃ x, x = s.heap.size := ⟨_, rfl⟩
  have hW : rl_W D (fun q => s.heap.size ≤ q) (fun _ => none) x s.heap s.heap [] := ⟨hx0.symm, fun a e h => by (cases h), va_S.rf⟩
  refine rl_new hC hW cn_L_7 (by simp only [room_1]; omega) (by simp only [room_1]; omega) dL_law_0 (fun H hW => ?_)
  refine lv_dup hx hb dL_law_3 rfl ?_
  refine lw_call (z := x + 1) (lw_runI (A := fun q => s.heap.size ≤ q) (b := x) (As := []) (rest := [.ref x]) hC ⟨hW.1, hW.2.1⟩ (fun q hq => by have := hW.2.2.1; omega) (cC_init l D t _ _ (x + 1) x rfl (rl_up_s _ _ _)) cs_L_9 im_X11_init rfl ⟨(Nat.le_of_ble_eq_true rfl), (Nat.le_of_ble_eq_true rfl)⟩ rfl hl.1 rfl (Nat.le_of_ble_eq_true rfl) dL_law_4 ⟨by simp only [rl_rm, room_1]; omega, by simp only [rl_rm, room_1]; omega⟩) hW.1 hW.2.2 (fun q h => h) (fun v fc z1 d1 H1 locs1 hp hz1 hc hk hS hzz => ?_)
  obtain ⟨rfl, hI, rfl, hd1⟩ := hp
  replace hW : rl_W D (fun q => s.heap.size ≤ q) fc (x + 58) s.heap H1 locs1 := ⟨hz1, hc, hS⟩
  show W p l e room_1 s m #[Value.ref b] below meth c H1 locs1 _ _ _ (F0 m 7 ls [.ref x])
  refine lv_astore_n (lv' := [(1, .ref x), (0, .ref b)]) hx hb dL_law_7 rfl hl (by decide) rfl (fun ls hl => ?_)
  refine rl_new hC hW cn_L_10 (by simp only [room_1]; omega) (by simp only [room_1]; omega) dL_law_8 (fun H2 hW2 => ?_)
  refine lv_dup hx hb dL_law_11 rfl ?_
  have hcm := hW2.2.1 (x + 58) _ (rl_up_s _ _ _)
  refine lw_call (z := x + 58 + 1) (lw_runI (A := fun q => x + 58 ≤ q) (f := rl_up (fun _ => none) (x + 58) _) (b := x + 58) (As := []) (rest := [.ref (x + 58)]) hC ⟨hW2.1, fun a e ha => ?_⟩ (fun q hq => by have := hW2.1; omega) (cR_init l D t _ _ (x + 58 + 1) (x + 58) rfl (rl_up_s _ _ _)) cs_L_12 im_X12_init rfl ⟨(Nat.le_of_ble_eq_true rfl), (Nat.le_of_ble_eq_true rfl)⟩ rfl hl.1 rfl (Nat.le_of_ble_eq_true rfl) dL_law_12 ⟨by simp only [rl_rm, room_1]; omega, by simp only [rl_rm, room_1]; omega⟩) hW2.1 hW2.2.2 (fun q h => by omega) (fun v fr z2 d2 H3 locs3 hp hz2 hm hk2 hS3 hzz2 => ?_)
  · by_cases hq : a = x + 58
    · subst hq
      rw [rl_up_s] at ha
      cases ha
      exact ⟨Nat.le_refl _, hcm.2⟩
    · rw [rl_up_n hq] at ha
      cases ha
  obtain ⟨rfl, hR, rfl, hd2⟩ := hp
  have hLS : lwS D s x fc fr (x + 58 + 33) H3 locs3 := by
    refine ⟨hz2, hx0, by omega, fun a e ha => ?_, fun a e ha => ?_, hS3⟩
    · have h1 := hW.2.1 a e ha
      have h2 : a < x + 58 := hW.lt ha
      have h3 := hW2.2.1 a e (by rw [rl_up_n (by omega)]; exact ha)
      refine ⟨⟨by have := h1.1; omega, by omega⟩, h3.2.kept (hk2 a (by omega) (by omega))⟩
    · have h1 := hm a e ha
      have h2 : a < H3.size := h1.2.lt
      have h3 : x + 58 ≤ a := h1.1
      exact ⟨⟨h3, by omega⟩, h1.2⟩
  show W p l e room_1 s m #[Value.ref b] below meth c H3 locs3 _ _ _ (F0 m 15 ls [.ref (x + 58)])
  refine lv_astore_n (lv' := [(2, .ref (x + 58)), (1, .ref x), (0, .ref b)]) hx hb dL_law_15 rfl hl (by decide) rfl (fun ls hl => ?_)
  refine lv_iconst (v := nI 0) hx hb dL_law_16 (by decide) ?_
  refine lv_istore_n (lv' := [(3, .int (nI 0)), (2, .ref (x + 58)), (1, .ref x), (0, .ref b)]) hx hb dL_law_17 rfl hl (by decide) rfl (fun ls hl => ?_)
  refine W.widen (show _ ≤ 91 + 751 * 0 by omega) (show _ ≤ 704548 + 3258 * 0 by omega) ?_
  exact law_loop l hL hC hr hlocks hX hbl x (L + 7) H3 locs3 ls fc fr _ 0 0 _ _ _ 0 hLS hI hR (Nat.le_refl _) (Nat.le_refl _) (by omega) (lv_sub hl [3, 2, 1, 0] rfl) (by omega)
-- ===== YOUR PART ENDS =====
set_option maxHeartbeats 4000000 in
theorem lw_walk (l : Launch) (b : Addr) (xs : List Int32) : MetFree l x (headSpec (Jvm.Cond.code x code maxLocals ret :: tables_1) room_1) (lw_P b xs) (fun _ _ _ _ _ => True) lw_Q := by
  refine MetFree.of_bodyS (code := code) (maxLocals := maxLocals) (ret := ret) (by decide) ?_ ?_
  · intro args s m h hn
    obtain ⟨meth, c, h1, h2, h3, h4, h5, h6, -, -⟩ := Cond.code_spec hn (atoms_spec (ws := Jvm.Cond.code x code maxLocals ret :: tables_1) h _ List.mem_cons_self)
    exact ⟨meth, c, h1, h2, h3, h4, h5, h6⟩
  · intro p e s m args below meth c s₁ B hml0 hP _
    obtain ⟨rfl, hx, hbd, hgv⟩ := hP
    obtain ⟨scr, harrAt, hlist, hof, hsmall⟩ := hx
    obtain ⟨hcb, hkn, -, -⟩ := State.arrayAt?_spec harrAt
    have hown : s.vm.findClass R_law = some m.cls := findClass_of_methodNamed B.named
    have hts0 : ∀ c ∈ (Jvm.Cond.code x code maxLocals ret :: tables_1), c.before #[Value.ref b] s = true := atoms_spec (ws := Jvm.Cond.code x code maxLocals ret :: tables_1) B.pre
    have hts : ∀ w ∈ lw_tbl, w.before #[Value.ref b] s = true := k2_hts_sels lw_privs (fun w hw => hts0 w (List.mem_cons_of_mem _ hw)) lw_privs_ok
    have hml : c.maxLocals = 4 := B.maxLocals_eq (hts0 _ List.mem_cons_self)
    have X₀ : Stand p l e room_1 s m #[Value.ref b] below meth c s₁ [] 0 0 := Stand.of_body B
    have hh0 : s₁.heap = s.heap := by rw [B.state]; rfl
    have hsz : scr.slots.size = xs.length := by rw [← Array.length_toList, hlist, List.length_map]
    have hval : ∀ j : Nat, j < xs.length → scr.slots[j]? = some (.int (xs.getD j 0)) := fun j hj => by
      rw [← Array.getElem?_toList, hlist]
      simp [hj]
    have hbl : b < s.heap.size := (Array.getElem?_eq_some_iff.mp hcb).1
    have hX : va_X b xs.length (fun j => xs.getD j 0) s s.heap := ⟨scr, hcb, hof, hkn, hsz, hval⟩
    have K : W p l e room_1 s m #[Value.ref b] below meth c s₁.heap [] 0 0 (lw_Z below #[Value.ref b] s) (entryFrame m ([Value.ref b] : List Value).toArray 4) := by
      rw [hh0]
      exact whole_start l hbd ⟨B.exec, B.bytes, B.returns, hml, hown, hts, hX, hbl, B.notSynchronized, hgv⟩
    obtain ⟨t, a1, o, b1, b2, b3⟩ := K s₁ rfl X₀
    exact ⟨t, o, a1, b1, b2, b3⟩
theorem lw_pre_spec {args : Array Value} {s : State} (h : (Jvm.Cond.and given_1 narrow_1).before args s = true) (hr : rest_1_c.before args s = true) : ∃ (b : Addr) (xs : List Int32), lw_P b xs args s := by
  have hs := flat_of_before _ h
  have hq := flat_of_before _ hr
  have hc : (Cond.count 1).before args s = true := hs _ (by decide +kernel)
  have harr : (Cond.arrayOf (.arg 0) .int).before args s = true := hs _ (by decide +kernel)
  have hle : (Cond.le (.length (.arg 0)) (.int 3072)).before args s = true := hs _ (by decide +kernel)
  have hlen : (Cond.isInt (.length (.arg 0))).before args s = true := hq _ (by decide +kernel)
  have hall : (Cond.all (.arg 0) (.isInt (.elem (.arg 0) (.index 0)))).before args s = true := hq _ (by decide +kernel)
  obtain ⟨b, xs, hb, hx⟩ := State.ints_of_pre rfl harr hlen hall
  have hsm : xs.length < 2 ^ 31 := hx.choose_spec.2.2.2
  have hev : (Term.length (.arg 0)).eval args s none [] s = some (.int xs.length.toInt32) := hx.length_eval hb
  have hv := Cond.le_ints hev (show (Term.int 3072).eval args s none [] s = some (.int 3072) from rfl)
  have hd : xs.length.toInt32 ≤ 3072 := by
    simpa [Cond.before, Cond.holds, hv] using hle
  have hN : xs.length ≤ 3072 := (Int32.ofNat_le_ofNat hsm (by decide)).mp (show Int32.ofNat xs.length ≤ Int32.ofNat 3072 from hd)
  exact ⟨b, xs, Cond.one_arg hc (show args[0]? = some (.ref b) from hb), hx, hN, h⟩
theorem lw_comes (l : Launch) : Comes l x (Jvm.Cond.code x code maxLocals ret :: tables_1) room_1 (fun tb e args s => Calls_1 tb e args s ∧ rest_1 tb e args s ∧ Pre_1 tb e args s)
    (fun _ _ args s o t => lw_Q args s o t) := by
  intro p e ha hc hk s m args below hf hfit hheap happ hpre
  obtain ⟨b, xs, hP⟩ := lw_pre_spec hpre.2.2 hpre.2.1
  obtain ⟨k, o, h1, h2, h3, hQ⟩ := lw_walk l b xs p e ha hc hk s m args below hf ((Spec.applies_iff_loose hf).mp happ).1 hP trivial
  exact ⟨k, o, h1, h2, h3, hQ⟩
theorem lw_frame {s t : State} {o : Outcome} {args : Array Value} (h : Framed s o t [] 600000 7302250) :
    Framed s o t (fieldLocs frame_1_writes args s ++ arrayLocs frame_1_arrays args s ++ staticLocs frame_1_statics s) 600000 7302250 := h
theorem lw_limb (L : Cond) (hL : ∀ (args : Array Value) (s t : State), L.after args s (.returned (some (.int 1))) t = true) :
    ArmFor flags0 classFile x code maxLocals ret World_1 tables_1 room_1 Calls_1 rest_1 Pre_1
      (fun tb e a s o t => postC L tb e a s o t ∧ Framed s o t (fieldLocs frame_1_writes a s ++ arrayLocs frame_1_arrays a s ++ staticLocs frame_1_statics s) 600000 7302250) := by
  intro l _ _ _ p e ha hc hk s m args below hf hfit hheap happ hpre
  obtain ⟨k, o, h1, h2, h3, rfl, hF⟩ := lw_comes l p e ha hc hk s m args below hf hfit hheap happ hpre
  exact ⟨k, _, h1, h2, h3, hL args s _, lw_frame hF⟩
theorem i_vc : Claimed_1_1 ∧ Claimed_1_2 := ⟨lw_limb limb_1_1 (fun args s t => by simp [limb_1_1, Cond.after, Cond.holds, Cond.value]), lw_limb limb_1_2 (fun args s t => Cond.after_iff.mpr (by
  first | (rw [show limb_1_2 = Cond.eq .result (.int 1) from rfl, Cond.eq_ints (x := 1) (y := 1) rfl rfl]; simp; done) | (simp [limb_1_2, Cond.value, Term.eval]; done)))⟩
