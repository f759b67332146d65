
section RLC
variable {p : Program} {l : Launch} {e : Env} {R : Room} {s : State} {m : MethodId} {args : Array Value} {below : List Frame} {meth : Method} {c : Code} {H : Heap} {locs : List Loc} {cells slots : Nat} {Q : State → Prop}
variable {cc : ByteArray} {nL pc : Nat} {ls : Array Slot} {rest : List Value} {D : va_G} {t : Nat → ClassId} {A : Nat → Prop} {a z x : Nat} {f : rl_M} {own : String} {cw : Cond}
theorem rl_mmin {index : Nat} {x y : Int32} (hC : rl_C p m c cc nL s args own cw D t A) (h1 : Cond.methodLink own index Lib.Math.min.name ∈ rl_G) (hl : ls.size = nL) (hfr : 1 ≤ R.frames) (hlo : (rest.map fun v => v.category).sum + 13 ≤ R.locals) (hc : cells ≤ R.cells) (hs : slots ≤ R.slots) (hdg : decode cc pc = .ok (.invokestatic index, 3))
    (kk : W p l e R s m args below meth c H locs cells slots Q (F0 m (pc + 3) ls (.int (if y < x then y else x) :: rest))) : W p l e R s m args below meth c H locs cells slots Q (F0 m pc ls (.int y :: .int x :: rest)) := by
  have g : ∀ {w : Cond}, w ∈ rl_G → w.before args s = true := fun h => hC.2.2.2.2.1 _ (List.mem_cons_of_mem _ h)
  exact va_mmin hC.1 hC.2.1 (by rw [hC.2.2.1, hl]) hC.2.2.2.1 (g h1) (g mw_503) (g mw_12) (g mw_504) hfr hlo hc hs hdg kk
theorem rl_mminl {index : Nat} {x y : Int64} (hC : rl_C p m c cc nL s args own cw D t A) (h1 : Cond.methodLink own index Lib.MathLoose.min_long.x ∈ rl_G) (hl : ls.size = nL) (hfr : 1 ≤ R.frames) (hlo : (rest.map fun v => v.category).sum + 15 ≤ R.locals) (hc : cells ≤ R.cells) (hs : slots ≤ R.slots) (hdg : decode cc pc = .ok (.invokestatic index, 3))
    (kk : W p l e R s m args below meth c H locs cells slots Q (F0 m (pc + 3) ls (.long (if y < x then y else x) :: rest))) : W p l e R s m args below meth c H locs cells slots Q (F0 m pc ls (.long y :: .long x :: rest)) := by
  have g : ∀ {w : Cond}, w ∈ rl_G → w.before args s = true := fun h => hC.2.2.2.2.1 _ (List.mem_cons_of_mem _ h)
  exact va_mmin_long hC.1 hC.2.1 (by rw [hC.2.2.1, hl]) hC.2.2.2.1 (g h1) (g mw_591) (g mw_12) (g mw_592) hfr hlo hc hs hdg kk
theorem rl_copyl {index a0 n0 n1 k : Nat} {g0 g1 : Nat → Int64} (hC : rl_C p m c cc nL s args own cw D t A) (hW : rl_W D A f z s.heap H locs) (h1 : Cond.methodLink own index arraycopyName ∈ rl_G) (hl : ls.size = nL) (he0 : f a0 = some (.inl (t 1, n0, .inr (.inl g0)))) (he1 : f a = some (.inl (t 1, n1, .inr (.inl g1)))) (hk0 : k ≤ n0) (hk1 : k ≤ n1) (hN : k < 2 ^ 31) (hframes : 1 ≤ R.frames) (hlocals : (rest.map fun v => v.category).sum + (nativeFrameWords "java/lang/System" "arraycopy" 5 + 11) ≤ R.locals) (hdg : decode cc pc = .ok (.invokestatic index, 3))
    (kk : ∀ (H1 : Heap) (locs1 : List Loc), rl_W D A (rl_up f a (.inl (t 1, n1, .inr (.inl (va_cpy g0 g1 0 0 k))))) z s.heap H1 locs1 → W p l e R s m args below meth c H1 locs1 cells slots Q (F0 m (pc + 3) ls rest)) : W p l e R s m args below meth c H locs cells slots Q (F0 m pc ls (.int (nI k) :: .int (nI 0) :: .ref a :: .int (nI 0) :: .ref a0 :: rest)) := by
  obtain ⟨hx, hb, hml, hown, hts, hK, hA⟩ := hC
  have g : ∀ {w : Cond}, w ∈ rl_G → w.before args s = true := fun h => hts _ (List.mem_cons_of_mem _ h)
  have ck : (nI k).toNatClampNeg = k := nI_clamp hN
  have c0 : (nI 0).toNatClampNeg = 0 := rfl
  have ik : (nI k).toInt = (k : Int) := nI_toInt hN
  have i0 : (nI 0).toInt = 0 := rfl
  intro T hT X
  have hc0 : H[a0]? = some (vp_cell (t 1) (n0, .inr (.inl g0))) := (hW.2.1 a0 _ he0).2
  have hc1 : H[a]? = some (vp_cell (t 1) (n1, .inr (.inl g1))) := (hW.2.1 a _ he1).2
  obtain ⟨-, k0, hkk0, cm0, hkc0⟩ := (hK.1.2 1 _ rfl).1 n0 (fun j => .long (g0 j))
  obtain ⟨-, k1, hkk1, cm1, hkc1⟩ := (hK.1.2 1 _ rfl).1 n1 (fun j => .long (g1 j))
  obtain ⟨vm', X', step⟩ := X.arraycopy hx hown (g h1) (g mw_521) (g mw_520) (g mw_14) (src := a0) (dst := a) (cs := vp_cell (t 1) (n0, .inr (.inl g0))) (cd := vp_cell (t 1) (n1, .inr (.inl g1))) (srcPos := nI 0) (destPos := nI 0) (n := nI k) (by rw [hT]; exact hc0) (by rw [hT]; exact hc1)
    (fun _ h => by cases h) (fun _ h => by cases h) (fun h => by cases h) (fun h => by cases h) hkk0 hkk1 hkc0 hkc1 (by simp [refKind]) (by decide) (by decide) (nI_pos hN)
    (by rw [i0, ik]; show ¬ _ > ((arrV (t 1) n0 (fun j => .long (g0 j))).slots.size : Int); rw [arrV_size]; omega)
    (by rw [i0, ik]; show ¬ _ > ((arrV (t 1) n1 (fun j => .long (g1 j))).slots.size : Int); rw [arrV_size]; omega)
    (fun vm₁ _ i hi => by
      have e : (vp_cell (t 1) (n0, .inr (.inl g0))).slots.getD ((nI 0).toNatClampNeg + i) .null = .long (g0 ((nI 0).toNatClampNeg + i)) := by
        show (arrV (t 1) n0 (fun j => .long (g0 j))).slots.getD _ _ = _
        rw [ck] at hi
        rw [Array.getD_eq_getD_getElem?, arrV_read _ _ (by rw [c0]; omega)]
        rfl
      refine ⟨?_, ?_⟩
      · rw [e]
        rfl
      · rw [e]
        exact trivial)
    (g := F0 m pc ls (.int (nI k) :: .int (nI 0) :: .ref a :: .int (nI 0) :: .ref a0 :: rest)) rfl (by rw [hml]; exact hl) (rest := rest) rfl (by rw [hb]; exact hdg) hframes (by show 2 * 0 + _ + _ ≤ _; omega)
  have e1 : copied (vp_cell (t 1) (n0, .inr (.inl g0))) (vp_cell (t 1) (n1, .inr (.inl g1))) (nI 0) (nI 0) (nI k) = vp_cell (t 1) (n1, .inr (.inl (va_cpy g0 g1 0 0 k))) := by
    have := va_copied (n1 := n1) (sp := 0) (dp := 0) (n := k) (fun z => Value.long z) (t 1) (t 1) g0 g1 (n0 := n0) (by omega)
    unfold copied
    rw [c0, ck]
    exact this
  rw [e1] at X' step
  have hl' : a < H.size := (Array.getElem?_eq_some_iff.mp hc1).1
  have hheap : ((T.setVm vm').setCell a (vp_cell (t 1) (n1, .inr (.inl (va_cpy g0 g1 0 0 k))))).heap = H.setIfInBounds a (vp_cell (t 1) (n1, .inr (.inl (va_cpy g0 g1 0 0 k)))) := by rw [← hT]; rfl
  have oq : ∀ q : Nat, q ≠ a → (H.setIfInBounds a (vp_cell (t 1) (n1, .inr (.inl (va_cpy g0 g1 0 0 k)))))[q]? = H[q]? := fun q hq => by simp [Array.getElem?_setIfInBounds, Ne.symm hq]
  have hAa := (hW.2.1 a _ he1).1
  obtain ⟨tt, a1, b1⟩ := kk _ _ ⟨by simp; exact hW.1, fun b e' hb' => by
      by_cases hq : b = a
      · subst hq
        rw [rl_up_s] at hb'
        cases hb'
        exact ⟨hAa, show (H.setIfInBounds b _)[b]? = some _ by simp [Array.getElem?_setIfInBounds, hl']⟩
      · rw [rl_up_n hq] at hb'
        exact ⟨(hW.2.1 b e' hb').1, (hW.2.1 b e' hb').2.kept (oq b hq)⟩, ⟨by simp; exact hW.2.2.1, fun q g1 g2 => by
      rw [oq q (fun e => g2 (by rw [e]; exact hAa))]
      exact hW.2.2.2.1 q g1 g2, fun q hq => by
      rcases List.mem_append.mp hq with h | h
      · exact hW.2.2.2.2 q h
      · obtain ⟨z, -, hz⟩ := List.mem_map.mp h
        rw [← hz]
        exact hAa⟩⟩ _ hheap X'
  exact ⟨tt, step tt a1, b1⟩
end RLC
theorem rg_min {a b : Nat} (ha : a < 2 ^ 31) (hb : b < 2 ^ 31) : (if nI b < nI a then nI b else nI a) = nI (min a b) := by
  by_cases h : b < a
  · rw [if_pos ((nI_ltI hb ha).mpr h), Nat.min_eq_right (by omega)]
  · rw [if_neg (fun q => h ((nI_ltI hb ha).mp q)), Nat.min_eq_left (by omega)]
/-- the state while a record is written: the leaves so far -/
def cFS (t : Nat → ClassId) (f : rl_M) (x : Nat) (T : Nat → Nat → Nat) (ρ κ : Nat) (G : pG) (E : Nat → Nat → Nat) (g : Nat → Int32) (mo : Int32) (ws : List Int64) : Prop := CJ t f x T ρ κ G E g mo ∧ f (x + 55) = some (.inr (9, [.ref (x + 56), .ref (x + 57), .int (nI (G.1 4 0)), .int (nI (min ws.length 251))])) ∧ ∃ gf : Nat → Int64, f (x + 57) = some (.inl (t 1, 250, .inr (.inl gf))) ∧ (ws.length ≤ 250 → ∀ k, k < ws.length → gf k = ws.getD k 0)
theorem fs_app {ws : List Int64} {gf : Nat → Int64} {y : Int64} {fs : Nat} (hfs : fs = min ws.length 251) (hE : ws.length ≤ 250 → ∀ k, k < ws.length → gf k = ws.getD k 0) (hlt : fs < 250) : (ws ++ [y]).length ≤ 250 → ∀ k, k < (ws ++ [y]).length → vp_updL gf fs y k = (ws ++ [y]).getD k 0 := by
  intro _ k hk
  have e : fs = ws.length := by omega
  subst e
  rw [List.length_append] at hk
  have hk' : k < ws.length + 1 := hk
  unfold vp_updL
  rw [List.getD_eq_getElem?_getD]
  by_cases q : k = ws.length
  · subst q
    rw [if_pos rfl, List.getElem?_append_right (Nat.le_refl _), Nat.sub_self]
    rfl
  · rw [if_neg q, List.getElem?_append_left (by omega), ← List.getD_eq_getElem?_getD]
    exact hE (by omega) k (by omega)
theorem fs_min {ws : List Int64} {y : Int64} {fs : Nat} (hfs : fs = min ws.length 251) : min (fs + 1) 251 = min (ws ++ [y]).length 251 := by
  rw [List.length_append]
  show _ = min (ws.length + 1) 251
  omega
theorem fs_big {ws : List Int64} {y : Int64} {fs : Nat} (hfs : fs = min ws.length 251) (h : 250 ≤ fs) {P : Prop} : (ws ++ [y]).length ≤ 250 → P := fun q => by
  rw [List.length_append] at q
  have q' : ws.length + 1 ≤ 250 := q
  omega
theorem cFS.more {t : Nat → ClassId} {f : rl_M} {x : Nat} {T : Nat → Nat → Nat} {ρ κ : Nat} {G : pG} {E : Nat → Nat → Nat} {g : Nat → Int32} {mo : Int32} {ws ws' : List Int64} (h : cFS t f x T ρ κ G E g mo ws) (hl : 250 < ws.length) (hl' : 250 < ws'.length) : cFS t f x T ρ κ G E g mo ws' := by
  obtain ⟨h1, h2, gf, h3, -⟩ := h
  refine ⟨h1, ?_, gf, h3, fun q => by omega⟩
  rw [h2, Nat.min_eq_right (by omega), Nat.min_eq_right (by omega)]
theorem fs_itm {α : Type} {i n : Nat} {F : Nat → α} (h : i < n) : (List.range n).map F = (List.range i).map F ++ F i :: (List.range (n - (i + 1))).map (fun q => F (i + 1 + q)) := by
  obtain ⟨d, rfl⟩ : ∃ d, n = i + 1 + d := ⟨n - (i + 1), by omega⟩
  rw [show i + 1 + d - (i + 1) = d by omega, List.range_add, List.range_succ]
  simp [Function.comp_def]

set_option maxHeartbeats 4000000 in
set_option maxRecDepth 100000 in
theorem cC_Tape_put (l : Launch) (D : va_G) (t : Nat → ClassId) (A : Nat → Prop) (f : rl_M) (z : Nat) (x : Nat) (T : Nat → Nat → Nat) (ρ κ : Nat) (G : pG) (E : Nat → Nat → Nat) (gx : Nat → Int32) (mo : Int32) (ws : List Int64) (hS : cFS t f x T ρ κ G E gx mo ws) (y : Int64) : rl_Met l yX9_put (.code yX9_put cX9_put 3 none) (rl_rm 1 0 0) D t A f z [.ref (x + 55), .long (y)] (rl_qv z fun f1 => cFS t f1 x T ρ κ G E gx mo (ws ++ [y])) := by
  refine rl_begin (own := RX9) (lv := [(0, .ref (x + 55)), (1, .long (y))]) (by decide +kernel) rfl (Nat.le_of_ble_eq_true rfl) rfl fun p e s m0 args below meth c ls H locs hC hr hlk hnm hW hl hx hb => ?_
  obtain ⟨hI, htp, gfr, hfr, hfE⟩ := id hS
  obtain ⟨fs, efs⟩ : ∃ fs, fs = min ws.length 251 := ⟨_, rfl⟩
  rw [← efs] at htp
  refine lv_aload_n hx hb dX9_put_0 rfl (lv_at hl 0 rfl) ?_
  refine rl_get (v := .int (nI (fs))) hC hW fl_X9_18 htp rfl dX9_put_1 ?_
  refine lv_sipush (v := (nI (250))) hx hb dX9_put_4 (by decide) ?_
  refine lv_icmp_ge (tgt := 20) hx hb dX9_put_7 (by decide) (fun c1 => ?_) (fun c1 => ?_)
  · have hge : 250 ≤ fs := rg_le c1 (by decide) (by omega)
    refine lv_aload_n hx hb dX9_put_20 rfl (lv_at hl 0 rfl) ?_
    refine lv_aload_n hx hb dX9_put_21 rfl (lv_at hl 0 rfl) ?_
    refine rl_get (v := .int (nI (fs))) hC hW fl_X9_18 htp rfl dX9_put_22 ?_
    refine lv_iconst (v := (nI (1))) hx hb dX9_put_25 (by decide) ?_
    refine lv_iadd hx hb dX9_put_26 ?_
    refine rl_topn (nI_add _ _) ?_
    refine lv_sipush (v := (nI (251))) hx hb dX9_put_27 (by decide) ?_
    refine rl_mmin (x := nI (fs + 1)) (y := nI 251) hC mw_502 hl.1 (Nat.le_of_ble_eq_true rfl) (Nat.le_of_ble_eq_true rfl) (Nat.le_of_ble_eq_true rfl) (Nat.le_of_ble_eq_true rfl) dX9_put_30 ?_
    refine rl_topn (y := nI (min (fs + 1) 251)) (rg_min (by omega) (by decide)) ?_
    refine rl_put (v := .int (nI (min (fs + 1) 251))) hC hW fp_X9_18 htp (Nat.le_of_ble_eq_true rfl) rfl rfl dX9_put_33 (fun H locs hW => ?_)
    replace hW : rl_W D A (rl_up _ (x + 55) (.inr (9, [.ref (x + 56), .ref (x + 57), .int (nI (G.1 4 0)), .int (nI (min (fs + 1) 251))]))) z s.heap H locs := hW
    exact rl_vret hC hW hr hlk (Nat.le_refl _) (Nat.le_refl _) ⟨rfl, rfl, rfl, hI.setfz, (by rw [← fs_min (y := y) efs]; exact rl_up_s _ _ _), gfr, (rl_up_n (by omega)).trans hfr, fs_big efs hge⟩ dX9_put_36
  · have hlt : fs < 250 := rg_lt c1 (by omega) (by omega)
    refine lv_aload_n hx hb dX9_put_10 rfl (lv_at hl 0 rfl) ?_
    refine rl_get (v := .ref (x + 57)) hC hW fl_X9_15 htp rfl dX9_put_11 ?_
    refine lv_aload_n hx hb dX9_put_14 rfl (lv_at hl 0 rfl) ?_
    refine rl_get (v := .int (nI (fs))) hC hW fl_X9_18 htp rfl dX9_put_15 ?_
    refine lv_lload_n hx hb dX9_put_18 rfl (lv_at hl 1 rfl) ?_
    refine rl_last_n hC hW hfr (by omega) (by decide) dX9_put_19 (fun H locs hW => ?_)
    replace hI := hI.setfr (gl := vp_updL gfr fs y)
    replace htp := (rl_up_n (f := f) (a := x + 57) (b := x + 55) (e := .inl (t 1, 250, .inr (.inl (vp_updL gfr fs y)))) (by omega)).trans htp
    refine lv_aload_n hx hb dX9_put_20 rfl (lv_at hl 0 rfl) ?_
    refine lv_aload_n hx hb dX9_put_21 rfl (lv_at hl 0 rfl) ?_
    refine rl_get (v := .int (nI (fs))) hC hW fl_X9_18 htp rfl dX9_put_22 ?_
    refine lv_iconst (v := (nI (1))) hx hb dX9_put_25 (by decide) ?_
    refine lv_iadd hx hb dX9_put_26 ?_
    refine rl_topn (nI_add _ _) ?_
    refine lv_sipush (v := (nI (251))) hx hb dX9_put_27 (by decide) ?_
    refine rl_mmin (x := nI (fs + 1)) (y := nI 251) hC mw_502 hl.1 (Nat.le_of_ble_eq_true rfl) (Nat.le_of_ble_eq_true rfl) (Nat.le_of_ble_eq_true rfl) (Nat.le_of_ble_eq_true rfl) dX9_put_30 ?_
    refine rl_topn (y := nI (min (fs + 1) 251)) (rg_min (by omega) (by decide)) ?_
    refine rl_put (v := .int (nI (min (fs + 1) 251))) hC hW fp_X9_18 htp (Nat.le_of_ble_eq_true rfl) rfl rfl dX9_put_33 (fun H locs hW => ?_)
    replace hW : rl_W D A (rl_up _ (x + 55) (.inr (9, [.ref (x + 56), .ref (x + 57), .int (nI (G.1 4 0)), .int (nI (min (fs + 1) 251))]))) z s.heap H locs := hW
    exact rl_vret hC hW hr hlk (Nat.le_refl _) (Nat.le_refl _) ⟨rfl, rfl, rfl, hI.setfz, (by rw [← fs_min (y := y) efs]; exact rl_up_s _ _ _), _, (rl_up_n (by omega)).trans (rl_up_s _ _ _), fs_app efs hfE hlt⟩ dX9_put_36

set_option maxHeartbeats 4000000 in
set_option maxRecDepth 100000 in
theorem cC_putItems (l : Launch) (D : va_G) (t : Nat → ClassId) (A : Nat → Prop) (f : rl_M) (z : Nat) (x : Nat) (T : Nat → Nat → Nat) (ρ κ : Nat) (G : pG) (E : Nat → Nat → Nat) (gx : Nat → Int32) (mo : Int32) (ws : List Int64) (hS : cFS t f x T ρ κ G E gx mo ws) (hT : rt_ok T) (hG : GW T ρ κ G) (r : Nat) (hr0 : r < ρ) : rl_Met l yX9_putItems (.code yX9_putItems cX9_putItems 3 none) (rl_rm 2 0 0) D t A f z [.ref (x + 55), .ref (E 1 r + 1)] (rl_qv z fun f1 => cFS t f1 x T ρ κ G E gx mo (ws ++ ((nI (G.1 0 r)).toInt64 :: (List.range (G.1 0 r)).map (fun i => (G.2.1 1 (8 * r + i)).toInt64)))) := by
  refine rl_begin (own := RX9) (lv := [(0, .ref (x + 55)), (1, .ref (E 1 r + 1))]) (by decide +kernel) rfl (Nat.le_of_ble_eq_true rfl) rfl fun p e s m0 args below meth c ls H locs hC hr hlk hnm hW hl hx hb => ?_
  have hn8 := hG.1 r hr0
  obtain ⟨hx58, h0, g, h1, hgi⟩ := hS.1.row hr0
  refine lv_aload_n hx hb dX9_putItems_0 rfl (lv_at hl 0 rfl) ?_
  refine lv_aload_n hx hb dX9_putItems_1 rfl (lv_at hl 1 rfl) ?_
  refine rl_alen 0 (v := nI (G.1 0 r)) hC hW rfl h1 rfl dX9_putItems_2 ?_
  refine lv_i2l hx hb dX9_putItems_3 rfl ?_
  refine rl_callvQ (rl_runV (b := x + 55) (As := [.long ((nI (G.1 0 r)).toInt64)]) (rest := []) hC hW (cC_Tape_put l D t A _ z x T ρ κ G E _ _ _ hS _) cs_X9_47 im_X9_put sl_X9_put hS.2.1 rfl ⟨(Nat.le_of_ble_eq_true rfl), (Nat.le_of_ble_eq_true rfl)⟩ rfl hl.1 rfl (Nat.le_of_ble_eq_true rfl) dX9_putItems_4 ⟨(Nat.le_of_ble_eq_true rfl), (Nat.le_of_ble_eq_true rfl)⟩) hW (fun f2 H locs hp hW => ?_)
  replace hS := hp
  refine lv_iconst (v := (nI (0))) hx hb dX9_putItems_7 (by decide) ?_
  refine lv_istore_n (lv' := [(2, .int (nI (0))), (0, .ref (x + 55)), (1, .ref (E 1 r + 1))]) hx hb dX9_putItems_8 rfl hl (by decide) rfl (fun ls hl => ?_)
  replace hl : lv_has ls 3 [(0, .ref (x + 55)), (1, .ref (E 1 r + 1)), (2, .int (nI (0)))] := lv_sub hl [1, 2, 0] rfl
  have hinv : ∃ (f2 : rl_M) (wz : List Int64), ∃ i : Nat, rl_W D A f2 z s.heap H locs ∧ cFS t f2 x T ρ κ G E gx mo wz ∧ (i ≤ G.1 0 r) ∧ (wz = ws ++ (nI (G.1 0 r)).toInt64 :: (List.range i).map (fun i => (G.2.1 1 (8 * r + i)).toInt64)) ∧ lv_has ls 3 [(0, .ref (x + 55)), (1, .ref (E 1 r + 1)), (2, .int (nI (i)))] := ⟨_, _, 0, hW, hS, Nat.zero_le _, rfl, hl⟩
  clear hW hS hl
  obtain ⟨f2, wz, i, hW, hS, hi, hwz, hl⟩ := hinv
  obtain ⟨n9, hn9⟩ : ∃ n9, G.1 0 r - i < n9 := ⟨_, Nat.lt_succ_self _⟩
  induction n9 generalizing f2 wz i H locs ls with
  | zero => exact absurd hn9 (Nat.not_lt_zero _)
  | succ n9 ih =>
    obtain ⟨hx58, h0, g, h1, hgi⟩ := hS.1.row hr0
    refine lv_iload_n hx hb dX9_putItems_9 rfl (lv_at hl 2 rfl) ?_
    refine lv_aload_n hx hb dX9_putItems_10 rfl (lv_at hl 1 rfl) ?_
    refine rl_alen 0 (v := nI (G.1 0 r)) hC hW rfl h1 rfl dX9_putItems_11 ?_
    refine lv_icmp_ge (tgt := 29) hx hb dX9_putItems_12 (by decide) (fun c1 => ?_) (fun c1 => ?_)
    · have hge := rg_le c1 (by omega) (by omega)
      obtain rfl : i = G.1 0 r := by omega
      exact rl_vret hC hW hr hlk (Nat.le_refl _) (Nat.le_refl _) ⟨rfl, rfl, rfl, hwz ▸ hS⟩ dX9_putItems_29
    · have hlt : i < G.1 0 r := rg_lt c1 (by omega) (by omega)
      have hgii := hgi i hlt
      refine lv_aload_n hx hb dX9_putItems_15 rfl (lv_at hl 0 rfl) ?_
      refine lv_aload_n hx hb dX9_putItems_16 rfl (lv_at hl 1 rfl) ?_
      refine lv_iload_n hx hb dX9_putItems_17 rfl (lv_at hl 2 rfl) ?_
      refine rl_iald_n hC hW h1 (by omega) (by omega) dX9_putItems_18 ?_
      refine lv_i2l hx hb dX9_putItems_19 rfl ?_
      refine rl_callvQ (rl_runV (b := x + 55) (As := [.long ((g (i)).toInt64)]) (rest := []) hC hW (cC_Tape_put l D t A _ z x T ρ κ G E _ _ _ hS _) cs_X9_47 im_X9_put sl_X9_put hS.2.1 rfl ⟨(Nat.le_of_ble_eq_true rfl), (Nat.le_of_ble_eq_true rfl)⟩ rfl hl.1 rfl (Nat.le_of_ble_eq_true rfl) dX9_putItems_20 ⟨(Nat.le_of_ble_eq_true rfl), (Nat.le_of_ble_eq_true rfl)⟩) hW (fun f3 H locs hp hW => ?_)
      replace hS := hp
      refine lv_iinc (v := (nI ((i) + 1))) (lv' := [(2, .int (nI ((i) + 1))), (0, .ref (x + 55)), (1, .ref (E 1 r + 1))]) hx hb dX9_putItems_23 hl (k := 2) rfl (nI_1 _) (by decide) rfl (fun ls hl => ?_)
      refine lv_goto (tgt := 9) hx hb dX9_putItems_26 (by decide) ?_
      replace hl : lv_has ls 3 [(0, .ref (x + 55)), (1, .ref (E 1 r + 1)), (2, .int (nI ((i) + 1)))] := lv_sub hl [1, 2, 0] rfl
      exact ih H locs ls _ _ (i + 1) hW hS (by omega) (by rw [hwz, hgii, List.range_succ, List.map_append, List.append_assoc]; rfl) hl (by omega)

set_option maxHeartbeats 4000000 in
set_option maxRecDepth 100000 in
theorem cC_putValue (l : Launch) (D : va_G) (t : Nat → ClassId) (A : Nat → Prop) (f : rl_M) (z : Nat) (x : Nat) (T : Nat → Nat → Nat) (ρ κ : Nat) (G : pG) (E : Nat → Nat → Nat) (gx : Nat → Int32) (mo : Int32) (ws : List Int64) (hS : cFS t f x T ρ κ G E gx mo ws) (hT : rt_ok T) (hG : GW T ρ κ G) (dd : Nat) (hdd : dd < 50) (hPR : ∀ (f9 : rl_M) (ws : List Int64) (r : Nat), cFS t f9 x T ρ κ G E gx mo ws → r < κ → rl_Met l yX9_putRecord (.code yX9_putRecord cX9_putRecord 4 none) (rl_rm (3 + 2 * (50 - (dd + 1))) 0 0) D t A f9 z [.ref (x + 55), .ref (E 2 r), .int (nI (dd + 1))] (rl_qv z fun f1 => cFS t f1 x T ρ κ G E gx mo (ws ++ pu_wl T G (50 - (dd + 1)) r))) (k1 p0 : Nat) (hk1 : k1 < κ) (hp0 : p0 < G.1 2 k1) : rl_Met l yX9_putValue (.code yX9_putValue cX9_putValue 8 none) (rl_rm (2 + 2 * (50 - dd)) 0 0) D t A f z [.ref (x + 55), .ref (E 2 k1), .int (nI (p0)), .int (nI (dd))] (rl_qv z fun f1 => cFS t f1 x T ρ κ G E gx mo (ws ++ pu_wv T G (pu_wl T G (50 - (dd + 1))) k1 p0)) := by
  refine rl_begin (own := RX9) (lv := [(0, .ref (x + 55)), (1, .ref (E 2 k1)), (2, .int (nI (p0))), (3, .int (nI (dd)))]) (by decide +kernel) rfl (Nat.le_of_ble_eq_true rfl) rfl fun p e s m0 args below meth c ls H locs hC hr hlk hnm hW hl hx hb => ?_
  obtain ⟨hx58, h0, ⟨gn, h1, hgnv⟩, ⟨gt, h2, hgtv⟩⟩ := hS.1.rec hk1
  obtain ⟨hj, hnT, -⟩ := hG.2.1 k1 hk1
  obtain ⟨hrv, hj5, -, ⟨gp, hpa, hpp⟩, -⟩ := id (hS.1.2.2.1 _ hj)
  have hs4 := (hT.2.2.1 _ p0 hj (by omega)).2.1
  obtain ⟨hpe, hok0⟩ := hgtv p0 hp0
  obtain ⟨q, o, hq1, hq2, hq3, -⟩ := hpp p0 (by omega)
  refine lv_aload_n hx hb dX9_putValue_0 rfl (lv_at hl 1 rfl) ?_
  refine rl_get (v := .ref (E 2 k1 + 2)) hC hW fl_X9_76 h0 rfl dX9_putValue_1 ?_
  refine lv_iload_n hx hb dX9_putValue_4 rfl (lv_at hl 2 rfl) ?_
  refine rl_aald_n 3 hC hW rfl h2 (by omega) (by omega) dX9_putValue_5 ?_
  obtain ⟨r0, er0⟩ : ∃ r : Option Nat, r = gt (p0) := ⟨_, rfl⟩
  refine rl_topqq er0.symm ?_
  refine rl_astoreq (lv' := [(4, va_rf (r0)), (0, .ref (x + 55)), (1, .ref (E 2 k1)), (2, .int (nI (p0))), (3, .int (nI (dd)))]) hx hb dX9_putValue_6 hl (by decide) rfl (fun ls hl => ?_)
  refine lv_aload_n hx hb dX9_putValue_8 rfl (lv_at hl 2 rfl) ?_
  refine lv_iload_n hx hb dX9_putValue_9 rfl (lv_at hl 3 rfl) ?_
  refine rl_calliQ (rl_runV (b := E 2 k1) (As := [.int (nI (p0))]) (rest := []) hC hW (cC_isNumber l D t A _ z x T ρ κ G E _ _ hS.1 _ (G.1 1 k1) _ _ p0 hj (by omega) (by omega) h0) cs_X9_80 im_X6_isNumber sl_X6_isNumber h0 rfl ⟨by simp only [rl_rm]; omega, by simp only [rl_rm]; omega⟩ rfl hl.1 rfl (Nat.le_of_ble_eq_true rfl) dX9_putValue_10 ⟨(Nat.le_of_ble_eq_true rfl), (Nat.le_of_ble_eq_true rfl)⟩) hW (fun r f1 H locs hp hW => ?_)
  obtain ⟨rfl, hp⟩ := hp
  rcases hp with ⟨rfl, hp⟩ | ⟨rfl, hp⟩
  · have hwv : pu_wv T G (pu_wl T G (50 - (dd + 1))) k1 p0 = [gn p0] := by unfold pu_wv; rw [if_pos hp, hgnv p0 hp0]
    refine lv_if_eq (tgt := 29) hx hb dX9_putValue_13 (by decide) (fun c_1 => ?_) (fun c_1 => ?_)
    · first | exact absurd c_1 (by decide) | exact absurd (by decide) c_1
    · refine lv_aload_n hx hb dX9_putValue_16 rfl (lv_at hl 1 rfl) ?_
      refine lv_aload_n hx hb dX9_putValue_17 rfl (lv_at hl 2 rfl) ?_
      refine rl_get (v := .ref (E 2 k1 + 1)) hC hW fl_X9_84 h0 rfl dX9_putValue_18 ?_
      refine lv_iload_n hx hb dX9_putValue_21 rfl (lv_at hl 3 rfl) ?_
      refine rl_lald_n hC hW h1 (by omega) (by omega) dX9_putValue_22 ?_
      refine rl_callvQ (rl_runV (b := x + 55) (As := [.long (gn (p0))]) (rest := []) hC hW (cC_Tape_put l D t A _ z x T ρ κ G E _ _ _ hS _) cs_X9_47 im_X9_put sl_X9_put hS.2.1 rfl ⟨by simp only [rl_rm]; omega, by simp only [rl_rm]; omega⟩ rfl hl.1 rfl (Nat.le_of_ble_eq_true rfl) dX9_putValue_23 ⟨(Nat.le_of_ble_eq_true rfl), (Nat.le_of_ble_eq_true rfl)⟩) hW (fun f2 H locs hp hW => ?_)
      replace hS := hp
      refine lv_goto (tgt := 143) hx hb dX9_putValue_26 (by decide) ?_
      exact rl_vret hC hW hr hlk (Nat.le_refl _) (Nat.le_refl _) ⟨rfl, rfl, rfl, hwv ▸ hS⟩ dX9_putValue_143
  · have hI := hS.1
    rcases hok0.cases with hh9 | ⟨n09, hn09, hh9⟩ | ⟨n09, hn09, hh9⟩ | ⟨n09, hn09, hh9⟩
    · obtain rfl : r0 = none := by rw [er0.trans hpe, hh9]; rfl
      have hwv : pu_wv T G (pu_wl T G (50 - (dd + 1))) k1 p0 = [if T 4 (5 * G.1 1 k1 + p0) = 3 then 0 else -1] := by unfold pu_wv; rw [if_neg (by omega), hh9]
      refine lv_if_eq (tgt := 29) hx hb dX9_putValue_13 (by decide) (fun c_2 => ?_) (fun c_2 => ?_)
      · refine lv_aloadN hx hb dX9_putValue_29 (lv_at hl 0 rfl) ?_
        refine lv_instN hx hb dX9_putValue_31 ?_
        refine rl_topn (y := nI 0) (by decide) ?_
        refine lv_if_eq (tgt := 57) hx hb dX9_putValue_34 (by decide) (fun c_3 => ?_) (fun c_3 => ?_)
        · refine lv_aloadN hx hb dX9_putValue_57 (lv_at hl 0 rfl) ?_
          refine lv_instN hx hb dX9_putValue_59 ?_
          refine rl_topn (y := nI 0) (by decide) ?_
          refine lv_if_eq (tgt := 89) hx hb dX9_putValue_62 (by decide) (fun c_4 => ?_) (fun c_4 => ?_)
          · refine lv_aloadN hx hb dX9_putValue_89 (lv_at hl 0 rfl) ?_
            refine lv_instN hx hb dX9_putValue_91 ?_
            refine rl_topn (y := nI 0) (by decide) ?_
            refine lv_if_eq (tgt := 116) hx hb dX9_putValue_94 (by decide) (fun c_5 => ?_) (fun c_5 => ?_)
            · refine lv_aload_n hx hb dX9_putValue_116 rfl (lv_at hl 1 rfl) ?_
              refine lv_aload_n hx hb dX9_putValue_117 rfl (lv_at hl 2 rfl) ?_
              refine rl_get (v := .ref (x + 16 + 3 * G.1 1 k1)) hC hW fl_X9_54 h0 rfl dX9_putValue_118 ?_
              refine rl_get (v := .ref (x + 17 + 3 * G.1 1 k1)) hC hW fl_X9_58 hrv rfl dX9_putValue_121 ?_
              refine lv_iload_n hx hb dX9_putValue_124 rfl (lv_at hl 3 rfl) ?_
              refine rl_aald_n 5 hC hW rfl hpa (by omega) (by decide) dX9_putValue_125 ?_
              refine rl_topq (hq1) ?_
              refine rl_get (v := .int (nI (T 4 (5 * G.1 1 k1 + p0)))) hC hW fl_X9_69 hq3 rfl dX9_putValue_126 ?_
              refine lv_iconst (v := (nI (3))) hx hb dX9_putValue_129 (by decide) ?_
              refine lv_icmp_ne (tgt := 137) hx hb dX9_putValue_130 (by decide) (fun c5 => ?_) (fun c5 => ?_)
              · have e3 : T 4 (5 * G.1 1 k1 + p0) ≠ 3 := fun q => c5 (by rw [q])
                rw [if_neg e3] at hwv
                refine lv_ldc2 (v := -1) hx hb hC.2.2.2.1 (hC.2.2.2.2.1 _ (List.mem_cons_of_mem _ mw_518)) dX9_putValue_137 ?_
                refine rl_callvQ (rl_runV (b := x + 55) (As := [.long (-1)]) (rest := []) hC hW (cC_Tape_put l D t A _ z x T ρ κ G E _ _ _ hS _) cs_X9_47 im_X9_put sl_X9_put hS.2.1 rfl ⟨by simp only [rl_rm]; omega, by simp only [rl_rm]; omega⟩ rfl hl.1 rfl (Nat.le_of_ble_eq_true rfl) dX9_putValue_140 ⟨(Nat.le_of_ble_eq_true rfl), (Nat.le_of_ble_eq_true rfl)⟩) hW (fun f2 H locs hp hW => ?_)
                replace hS := hp
                exact rl_vret hC hW hr hlk (Nat.le_refl _) (Nat.le_refl _) ⟨rfl, rfl, rfl, hwv ▸ hS⟩ dX9_putValue_143
              · have e3 : T 4 (5 * G.1 1 k1 + p0) = 3 := (nI_eq (by omega) (by decide)).mp c5
                rw [if_pos e3] at hwv
                refine lv_lconst (v := 0) hx hb dX9_putValue_133 (by decide) ?_
                refine lv_goto (tgt := 140) hx hb dX9_putValue_134 (by decide) ?_
                refine rl_callvQ (rl_runV (b := x + 55) (As := [.long (0)]) (rest := []) hC hW (cC_Tape_put l D t A _ z x T ρ κ G E _ _ _ hS _) cs_X9_47 im_X9_put sl_X9_put hS.2.1 rfl ⟨by simp only [rl_rm]; omega, by simp only [rl_rm]; omega⟩ rfl hl.1 rfl (Nat.le_of_ble_eq_true rfl) dX9_putValue_140 ⟨(Nat.le_of_ble_eq_true rfl), (Nat.le_of_ble_eq_true rfl)⟩) hW (fun f2 H locs hp hW => ?_)
                replace hS := hp
                exact rl_vret hC hW hr hlk (Nat.le_refl _) (Nat.le_refl _) ⟨rfl, rfl, rfl, hwv ▸ hS⟩ dX9_putValue_143
            · first | exact absurd c_5 (by decide) | exact absurd (by decide) c_5
          · first | exact absurd c_4 (by decide) | exact absurd (by decide) c_4
        · first | exact absurd c_3 (by decide) | exact absurd (by decide) c_3
      · first | exact absurd c_2 (by decide) | exact absurd (by decide) c_2
    · obtain rfl : r0 = some (E 0 n09) := by rw [er0.trans hpe, hh9]; rfl
      obtain ⟨hx589, h09, h19⟩ := hI.con hn09
      have hlo9 := (hT.2.2.2.2.2.1 n09 hn09.1).1
      have hwv : pu_wv T G (pu_wl T G (50 - (dd + 1))) k1 p0 = [(nI (T 1 n09)).toInt64] := by unfold pu_wv; rw [if_neg (by omega), hh9]
      refine lv_if_eq (tgt := 29) hx hb dX9_putValue_13 (by decide) (fun c_6 => ?_) (fun c_6 => ?_)
      · refine lv_aload hx hb dX9_putValue_29 (lv_at hl 0 rfl) ?_
        refine rl_instY hC hW h09 rfl mw_511 mt_997 dX9_putValue_31 ?_
        refine rl_topn (y := nI 1) (by decide) ?_
        refine lv_if_eq (tgt := 57) hx hb dX9_putValue_34 (by decide) (fun c_7 => ?_) (fun c_7 => ?_)
        · first | exact absurd c_7 (by decide) | exact absurd (by decide) c_7
        · refine lv_aload hx hb dX9_putValue_37 (lv_at hl 0 rfl) ?_
          refine rl_castY hC hW h09 rfl mw_511 mt_997 dX9_putValue_39 ?_
          refine lv_astore (lv' := [(5, .ref (E 0 n09)), (4, .ref (E 0 n09)), (0, .ref (x + 55)), (1, .ref (E 2 k1)), (2, .int (nI (p0))), (3, .int (nI (dd)))]) hx hb dX9_putValue_42 hl (by decide) rfl (fun ls hl => ?_)
          refine lv_aload_n hx hb dX9_putValue_44 rfl (lv_at hl 2 rfl) ?_
          refine lv_aload hx hb dX9_putValue_45 (lv_at hl 0 rfl) ?_
          refine rl_get (v := .int (nI (T 1 n09))) hC hW fl_X9_89 h09 rfl dX9_putValue_47 ?_
          refine lv_i2l hx hb dX9_putValue_50 rfl ?_
          refine rl_callvQ (rl_runV (b := x + 55) (As := [.long ((nI (T 1 n09)).toInt64)]) (rest := []) hC hW (cC_Tape_put l D t A _ z x T ρ κ G E _ _ _ hS _) cs_X9_47 im_X9_put sl_X9_put hS.2.1 rfl ⟨by simp only [rl_rm]; omega, by simp only [rl_rm]; omega⟩ rfl hl.1 rfl (Nat.le_of_ble_eq_true rfl) dX9_putValue_51 ⟨(Nat.le_of_ble_eq_true rfl), (Nat.le_of_ble_eq_true rfl)⟩) hW (fun f2 H locs hp hW => ?_)
          replace hS := hp
          refine lv_goto (tgt := 143) hx hb dX9_putValue_54 (by decide) ?_
          exact rl_vret hC hW hr hlk (Nat.le_refl _) (Nat.le_refl _) ⟨rfl, rfl, rfl, hwv ▸ hS⟩ dX9_putValue_143
      · first | exact absurd c_6 (by decide) | exact absurd (by decide) c_6
    · obtain rfl : r0 = some (E 1 n09) := by rw [er0.trans hpe, hh9]; rfl
      obtain ⟨hx589, h09, g9, h19, hgi9⟩ := hI.row hn09
      have hn89 := hG.1 n09 hn09
      have hwv : pu_wv T G (pu_wl T G (50 - (dd + 1))) k1 p0 = ((nI (G.1 0 n09)).toInt64 :: (List.range (G.1 0 n09)).map (fun i => (G.2.1 1 (8 * n09 + i)).toInt64)) := by unfold pu_wv; rw [if_neg (by omega), hh9]
      refine lv_if_eq (tgt := 29) hx hb dX9_putValue_13 (by decide) (fun c_8 => ?_) (fun c_8 => ?_)
      · refine lv_aload hx hb dX9_putValue_29 (lv_at hl 0 rfl) ?_
        refine rl_instNo hC hW h09 rfl mw_511 (by decide) dX9_putValue_31 ?_
        refine rl_topn (y := nI 0) (by decide) ?_
        refine lv_if_eq (tgt := 57) hx hb dX9_putValue_34 (by decide) (fun c_9 => ?_) (fun c_9 => ?_)
        · refine lv_aload hx hb dX9_putValue_57 (lv_at hl 0 rfl) ?_
          refine rl_instNo hC hW h09 rfl mw_512 (by decide) dX9_putValue_59 ?_
          refine rl_topn (y := nI 0) (by decide) ?_
          refine lv_if_eq (tgt := 89) hx hb dX9_putValue_62 (by decide) (fun c_10 => ?_) (fun c_10 => ?_)
          · refine lv_aload hx hb dX9_putValue_89 (lv_at hl 0 rfl) ?_
            refine rl_instY hC hW h09 rfl mw_513 mt_996 dX9_putValue_91 ?_
            refine rl_topn (y := nI 1) (by decide) ?_
            refine lv_if_eq (tgt := 116) hx hb dX9_putValue_94 (by decide) (fun c_11 => ?_) (fun c_11 => ?_)
            · first | exact absurd c_11 (by decide) | exact absurd (by decide) c_11
            · refine lv_aload hx hb dX9_putValue_97 (lv_at hl 0 rfl) ?_
              refine rl_castY hC hW h09 rfl mw_513 mt_996 dX9_putValue_99 ?_
              refine lv_astore (lv' := [(7, .ref (E 1 n09)), (4, .ref (E 1 n09)), (0, .ref (x + 55)), (1, .ref (E 2 k1)), (2, .int (nI (p0))), (3, .int (nI (dd)))]) hx hb dX9_putValue_102 hl (by decide) rfl (fun ls hl => ?_)
              refine lv_aload_n hx hb dX9_putValue_104 rfl (lv_at hl 2 rfl) ?_
              refine lv_aload hx hb dX9_putValue_105 (lv_at hl 0 rfl) ?_
              refine rl_get (v := .ref (E 1 n09 + 1)) hC hW fl_X9_92 h09 rfl dX9_putValue_107 ?_
              refine rl_callvQ (rl_runV (b := x + 55) (As := [.ref (E 1 n09 + 1)]) (rest := []) hC hW (cC_putItems l D t A _ z x T ρ κ G E _ _ ws hS hT hG n09 hn09) cs_X9_96 im_X9_putItems sl_X9_putItems hS.2.1 rfl ⟨by simp only [rl_rm]; omega, by simp only [rl_rm]; omega⟩ rfl hl.1 rfl (Nat.le_of_ble_eq_true rfl) dX9_putValue_110 ⟨(Nat.le_of_ble_eq_true rfl), (Nat.le_of_ble_eq_true rfl)⟩) hW (fun f2 H locs hp hW => ?_)
              replace hS := hp
              refine lv_goto (tgt := 143) hx hb dX9_putValue_113 (by decide) ?_
              exact rl_vret hC hW hr hlk (Nat.le_refl _) (Nat.le_refl _) ⟨rfl, rfl, rfl, hwv ▸ hS⟩ dX9_putValue_143
          · first | exact absurd c_10 (by decide) | exact absurd (by decide) c_10
        · first | exact absurd c_9 (by decide) | exact absurd (by decide) c_9
      · first | exact absurd c_8 (by decide) | exact absurd (by decide) c_8
    · obtain rfl : r0 = some (E 2 n09) := by rw [er0.trans hpe, hh9]; rfl
      obtain ⟨hx589, h09, ⟨gn9, h19, hgnv9⟩, ⟨gt9, h29, hgtv9⟩⟩ := hI.rec hn09
      obtain ⟨hj9, hnT9, -⟩ := hG.2.1 n09 hn09
      obtain ⟨hrv9, hj59, hj29, hpa9, hka9⟩ := id (hI.2.2.1 _ hj9)
      have hwv : pu_wv T G (pu_wl T G (50 - (dd + 1))) k1 p0 = 1 :: pu_wl T G (50 - (dd + 1)) n09 := by unfold pu_wv; rw [if_neg (by omega), hh9]
      refine lv_if_eq (tgt := 29) hx hb dX9_putValue_13 (by decide) (fun c_12 => ?_) (fun c_12 => ?_)
      · refine lv_aload hx hb dX9_putValue_29 (lv_at hl 0 rfl) ?_
        refine rl_instNo hC hW h09 rfl mw_511 (by decide) dX9_putValue_31 ?_
        refine rl_topn (y := nI 0) (by decide) ?_
        refine lv_if_eq (tgt := 57) hx hb dX9_putValue_34 (by decide) (fun c_13 => ?_) (fun c_13 => ?_)
        · refine lv_aload hx hb dX9_putValue_57 (lv_at hl 0 rfl) ?_
          refine rl_instY hC hW h09 rfl mw_512 mt_998 dX9_putValue_59 ?_
          refine rl_topn (y := nI 1) (by decide) ?_
          refine lv_if_eq (tgt := 89) hx hb dX9_putValue_62 (by decide) (fun c_14 => ?_) (fun c_14 => ?_)
          · first | exact absurd c_14 (by decide) | exact absurd (by decide) c_14
          · refine lv_aload hx hb dX9_putValue_65 (lv_at hl 0 rfl) ?_
            refine rl_castY hC hW h09 rfl mw_512 mt_998 dX9_putValue_67 ?_
            refine lv_astore (lv' := [(6, .ref (E 2 n09)), (4, .ref (E 2 n09)), (0, .ref (x + 55)), (1, .ref (E 2 k1)), (2, .int (nI (p0))), (3, .int (nI (dd)))]) hx hb dX9_putValue_70 hl (by decide) rfl (fun ls hl => ?_)
            refine lv_aload_n hx hb dX9_putValue_72 rfl (lv_at hl 2 rfl) ?_
            refine lv_lconst (v := 1) hx hb dX9_putValue_73 (by decide) ?_
            refine rl_callvQ (rl_runV (b := x + 55) (As := [.long (1)]) (rest := []) hC hW (cC_Tape_put l D t A _ z x T ρ κ G E _ _ _ hS _) cs_X9_47 im_X9_put sl_X9_put hS.2.1 rfl ⟨by simp only [rl_rm]; omega, by simp only [rl_rm]; omega⟩ rfl hl.1 rfl (Nat.le_of_ble_eq_true rfl) dX9_putValue_74 ⟨(Nat.le_of_ble_eq_true rfl), (Nat.le_of_ble_eq_true rfl)⟩) hW (fun f2 H locs hp hW => ?_)
            replace hS := hp
            refine lv_aload_n hx hb dX9_putValue_77 rfl (lv_at hl 2 rfl) ?_
            refine lv_aload hx hb dX9_putValue_78 (lv_at hl 0 rfl) ?_
            refine lv_iload_n hx hb dX9_putValue_80 rfl (lv_at hl 5 rfl) ?_
            refine lv_iconst (v := (nI (1))) hx hb dX9_putValue_81 (by decide) ?_
            refine lv_iadd hx hb dX9_putValue_82 ?_
            refine rl_topn (nI_add _ _) ?_
            refine rl_callvQ (rl_runV (b := x + 55) (As := [.ref (E 2 n09), .int (nI ((dd) + (1)))]) (rest := []) hC hW (hPR _ _ n09 hS hn09) cs_X9_22 im_X9_putRecord sl_X9_putRecord hS.2.1 rfl ⟨by simp only [rl_rm]; omega, by simp only [rl_rm]; omega⟩ rfl hl.1 rfl (Nat.le_of_ble_eq_true rfl) dX9_putValue_83 ⟨(Nat.le_of_ble_eq_true rfl), (Nat.le_of_ble_eq_true rfl)⟩) hW (fun f4 H locs hp hW => ?_)
            replace hS := hp
            rw [List.append_assoc] at hS
            refine lv_goto (tgt := 143) hx hb dX9_putValue_86 (by decide) ?_
            exact rl_vret hC hW hr hlk (Nat.le_refl _) (Nat.le_refl _) ⟨rfl, rfl, rfl, hwv ▸ hS⟩ dX9_putValue_143
        · first | exact absurd c_13 (by decide) | exact absurd (by decide) c_13
      · first | exact absurd c_12 (by decide) | exact absurd (by decide) c_12

set_option maxHeartbeats 4000000 in
set_option maxRecDepth 100000 in
theorem cC_putRecord0 (l : Launch) (D : va_G) (t : Nat → ClassId) (A : Nat → Prop) (f : rl_M) (z : Nat) (x : Nat) (T : Nat → Nat → Nat) (ρ κ : Nat) (G : pG) (E : Nat → Nat → Nat) (gx : Nat → Int32) (mo : Int32) (ws : List Int64) (hS : cFS t f x T ρ κ G E gx mo ws) (hT : rt_ok T) (hG : GW T ρ κ G) (dd : Nat) (hdd : dd ≤ 50) (k1 : Nat) (hk1 : k1 < κ) (hPV : dd < 50 → ∀ (f9 : rl_M) (ws : List Int64) (p : Nat), cFS t f9 x T ρ κ G E gx mo ws → p < G.1 2 k1 → rl_Met l yX9_putValue (.code yX9_putValue cX9_putValue 8 none) (rl_rm (2 + 2 * (50 - dd)) 0 0) D t A f9 z [.ref (x + 55), .ref (E 2 k1), .int (nI (p)), .int (nI (dd))] (rl_qv z fun f1 => cFS t f1 x T ρ κ G E gx mo (ws ++ pu_wv T G (pu_wl T G (50 - (dd + 1))) k1 p))) : rl_Met l yX9_putRecord (.code yX9_putRecord cX9_putRecord 4 none) (rl_rm (3 + 2 * (50 - dd)) 0 0) D t A f z [.ref (x + 55), .ref (E 2 k1), .int (nI (dd))] (rl_qv z fun f1 => cFS t f1 x T ρ κ G E gx mo (ws ++ pu_wl T G (50 - dd) k1)) := by
  refine rl_begin (own := RX9) (lv := [(0, .ref (x + 55)), (1, .ref (E 2 k1)), (2, .int (nI (dd)))]) (by decide +kernel) rfl (Nat.le_of_ble_eq_true rfl) rfl fun p e s m0 args below meth c ls H locs hC hr hlk hnm hW hl hx hb => ?_
  obtain ⟨hx58, h0, ⟨gn, h1, hgnv⟩, ⟨gt, h2, hgtv⟩⟩ := hS.1.rec hk1
  obtain ⟨hj, hnT, -⟩ := hG.2.1 k1 hk1
  obtain ⟨hrv, hj5, -, ⟨gp, hpa, hpp⟩, -⟩ := id (hS.1.2.2.1 _ hj)
  refine lv_iload_n hx hb dX9_putRecord_0 rfl (lv_at hl 2 rfl) ?_
  refine lv_iconst (v := (nI (5))) hx hb dX9_putRecord_1 (by decide) ?_
  refine lv_imul hx hb dX9_putRecord_2 ?_
  refine rl_topn (pk_mul _ _) ?_
  refine lv_sipush (v := (nI (250))) hx hb dX9_putRecord_3 (by decide) ?_
  refine lv_icmp_lt (tgt := 17) hx hb dX9_putRecord_6 (by decide) (fun c1 => ?_) (fun c1 => ?_)
  · have hd50 : dd < 50 := by have := (nI_ltI (by omega) (by decide)).mp c1; omega
    refine lv_aload_n hx hb dX9_putRecord_17 rfl (lv_at hl 0 rfl) ?_
    refine lv_aload_n hx hb dX9_putRecord_18 rfl (lv_at hl 1 rfl) ?_
    refine rl_calliQ (rl_runV (b := E 2 k1) (As := []) (rest := [.ref (x + 55)]) hC hW (cC_Rec_kind l D t A _ z _ _ _ _ _ _ _ gn gt _ _ _ _ h0 h1 hrv) cs_X9_41 im_X6_kind sl_X6_kind h0 rfl ⟨by simp only [rl_rm]; omega, by simp only [rl_rm]; omega⟩ rfl hl.1 rfl (Nat.le_of_ble_eq_true rfl) dX9_putRecord_19 ⟨(Nat.le_of_ble_eq_true rfl), (Nat.le_of_ble_eq_true rfl)⟩) hW (fun r f1 H locs hp hW => ?_)
    obtain ⟨rfl, rfl⟩ := hp
    refine lv_i2l hx hb dX9_putRecord_22 rfl ?_
    refine rl_callvQ (rl_runV (b := x + 55) (As := [.long ((nI (2 + G.1 1 k1 / 3)).toInt64)]) (rest := []) hC hW (cC_Tape_put l D t A _ z x T ρ κ G E _ _ _ hS _) cs_X9_47 im_X9_put sl_X9_put hS.2.1 rfl ⟨by simp only [rl_rm]; omega, by simp only [rl_rm]; omega⟩ rfl hl.1 rfl (Nat.le_of_ble_eq_true rfl) dX9_putRecord_23 ⟨(Nat.le_of_ble_eq_true rfl), (Nat.le_of_ble_eq_true rfl)⟩) hW (fun f2 H locs hp hW => ?_)
    replace hS := hp
    obtain ⟨hx58, h0, ⟨gn, h1, hgnv⟩, ⟨gt, h2, hgtv⟩⟩ := hS.1.rec hk1
    obtain ⟨hj, hnT, -⟩ := hG.2.1 k1 hk1
    obtain ⟨hrv, hj5, -, ⟨gp, hpa, hpp⟩, -⟩ := id (hS.1.2.2.1 _ hj)
    refine lv_aload_n hx hb dX9_putRecord_26 rfl (lv_at hl 0 rfl) ?_
    refine lv_aload_n hx hb dX9_putRecord_27 rfl (lv_at hl 1 rfl) ?_
    refine rl_calliQ (rl_runV (b := E 2 k1) (As := []) (rest := [.ref (x + 55)]) hC hW (cC_Rec_extent l D t A _ z _ _ _ _ _ gn h0 h1) cs_X9_51 im_X6_extent sl_X6_extent h0 rfl ⟨by simp only [rl_rm]; omega, by simp only [rl_rm]; omega⟩ rfl hl.1 rfl (Nat.le_of_ble_eq_true rfl) dX9_putRecord_28 ⟨(Nat.le_of_ble_eq_true rfl), (Nat.le_of_ble_eq_true rfl)⟩) hW (fun r f1 H locs hp hW => ?_)
    obtain ⟨rfl, rfl⟩ := hp
    refine lv_i2l hx hb dX9_putRecord_31 rfl ?_
    refine rl_callvQ (rl_runV (b := x + 55) (As := [.long ((nI (G.1 2 k1)).toInt64)]) (rest := []) hC hW (cC_Tape_put l D t A _ z x T ρ κ G E _ _ _ hS _) cs_X9_47 im_X9_put sl_X9_put hS.2.1 rfl ⟨by simp only [rl_rm]; omega, by simp only [rl_rm]; omega⟩ rfl hl.1 rfl (Nat.le_of_ble_eq_true rfl) dX9_putRecord_32 ⟨(Nat.le_of_ble_eq_true rfl), (Nat.le_of_ble_eq_true rfl)⟩) hW (fun f3 H locs hp hW => ?_)
    replace hS := hp
    refine lv_iconst (v := (nI (0))) hx hb dX9_putRecord_35 (by decide) ?_
    refine lv_istore_n (lv' := [(3, .int (nI (0))), (0, .ref (x + 55)), (1, .ref (E 2 k1)), (2, .int (nI (dd)))]) hx hb dX9_putRecord_36 rfl hl (by decide) rfl (fun ls hl => ?_)
    replace hl : lv_has ls 4 [(0, .ref (x + 55)), (1, .ref (E 2 k1)), (2, .int (nI (dd))), (3, .int (nI (0)))] := lv_sub hl [1, 2, 3, 0] rfl
    have hinv : ∃ (f2 : rl_M) (wz : List Int64), ∃ i : Nat, rl_W D A f2 z s.heap H locs ∧ cFS t f2 x T ρ κ G E gx mo wz ∧ (i ≤ G.1 2 k1) ∧ (wz ++ pu_wp T G (pu_wl T G (50 - (dd + 1))) k1 i (G.1 2 k1 - i) = ws ++ pu_wl T G (50 - dd) k1) ∧ lv_has ls 4 [(0, .ref (x + 55)), (1, .ref (E 2 k1)), (2, .int (nI (dd))), (3, .int (nI (i)))] := ⟨_, _, 0, hW, hS, Nat.zero_le _, (by rw [show 50 - dd = (50 - (dd + 1)) + 1 by omega, List.append_assoc, List.append_assoc]; rfl), hl⟩
    clear hW hS hl
    obtain ⟨f2, wz, i, hW, hS, hi, hwz, hl⟩ := hinv
    obtain ⟨n9, hn9⟩ : ∃ n9, G.1 2 k1 - i < n9 := ⟨_, Nat.lt_succ_self _⟩
    induction n9 generalizing f2 wz i H locs ls with
    | zero => exact absurd hn9 (Nat.not_lt_zero _)
    | succ n9 ih =>
      obtain ⟨hx58, h0, ⟨gn, h1, hgnv⟩, ⟨gt, h2, hgtv⟩⟩ := hS.1.rec hk1
      obtain ⟨hj, hnT, -⟩ := hG.2.1 k1 hk1
      obtain ⟨hrv, hj5, -, ⟨gp, hpa, hpp⟩, -⟩ := id (hS.1.2.2.1 _ hj)
      refine lv_iload_n hx hb dX9_putRecord_37 rfl (lv_at hl 3 rfl) ?_
      refine lv_aload_n hx hb dX9_putRecord_38 rfl (lv_at hl 1 rfl) ?_
      refine rl_calliQ (rl_runV (b := E 2 k1) (As := []) (rest := [.int (nI (i))]) hC hW (cC_Rec_extent l D t A _ z _ _ _ _ _ gn h0 h1) cs_X9_51 im_X6_extent sl_X6_extent h0 rfl ⟨by simp only [rl_rm]; omega, by simp only [rl_rm]; omega⟩ rfl hl.1 rfl (Nat.le_of_ble_eq_true rfl) dX9_putRecord_39 ⟨(Nat.le_of_ble_eq_true rfl), (Nat.le_of_ble_eq_true rfl)⟩) hW (fun r f1 H locs hp hW => ?_)
      obtain ⟨rfl, rfl⟩ := hp
      refine lv_icmp_ge (tgt := 102) hx hb dX9_putRecord_42 (by decide) (fun c2 => ?_) (fun c2 => ?_)
      · have hge := rg_le c2 (by omega) (by omega)
        obtain rfl : i = G.1 2 k1 := by omega
        rw [Nat.sub_self, pu_wp, List.append_nil] at hwz
        exact rl_vret hC hW hr hlk (Nat.le_refl _) (Nat.le_refl _) ⟨rfl, rfl, rfl, hwz ▸ hS⟩ dX9_putRecord_102
      · have hlt : i < G.1 2 k1 := rg_lt c2 (by omega) (by omega)
        obtain ⟨-, htp, -⟩ := id hS
        refine lv_aload_n hx hb dX9_putRecord_45 rfl (lv_at hl 0 rfl) ?_
        refine rl_get (v := .int (nI (min wz.length 251))) hC hW fl_X9_18 htp rfl dX9_putRecord_46 ?_
        refine lv_sipush (v := (nI (250))) hx hb dX9_putRecord_49 (by decide) ?_
        refine lv_icmp_gt (tgt := 102) hx hb dX9_putRecord_52 (by decide) (fun c3 => ?_) (fun c3 => ?_)
        · have hgt : 250 < wz.length := by have := (nI_ltI (by decide) (by omega)).mp c3; omega
          exact rl_vret hC hW hr hlk (Nat.le_refl _) (Nat.le_refl _) ⟨rfl, rfl, rfl, hS.more hgt (by rw [← hwz, List.length_append]; omega)⟩ dX9_putRecord_102
        · rw [show G.1 2 k1 - i = (G.1 2 k1 - (i + 1)) + 1 by omega, pu_wp] at hwz
          obtain ⟨q, o, hq1, hq2, hq3, -⟩ := hpp i (by omega)
          refine lv_aload_n hx hb dX9_putRecord_55 rfl (lv_at hl 0 rfl) ?_
          refine lv_aload_n hx hb dX9_putRecord_56 rfl (lv_at hl 1 rfl) ?_
          refine rl_get (v := .ref (x + 16 + 3 * G.1 1 k1)) hC hW fl_X9_54 h0 rfl dX9_putRecord_57 ?_
          refine rl_get (v := .ref (x + 17 + 3 * G.1 1 k1)) hC hW fl_X9_58 hrv rfl dX9_putRecord_60 ?_
          refine lv_iload_n hx hb dX9_putRecord_63 rfl (lv_at hl 3 rfl) ?_
          refine rl_aald_n 5 hC hW rfl hpa (by omega) (by decide) dX9_putRecord_64 ?_
          refine rl_topq (hq1) ?_
          refine rl_get (v := .int (nI (T 3 (5 * G.1 1 k1 + i)))) hC hW fl_X9_64 hq3 rfl dX9_putRecord_65 ?_
          refine lv_i2l hx hb dX9_putRecord_68 rfl ?_
          refine rl_callvQ (rl_runV (b := x + 55) (As := [.long ((nI (T 3 (5 * G.1 1 k1 + i))).toInt64)]) (rest := []) hC hW (cC_Tape_put l D t A _ z x T ρ κ G E _ _ _ hS _) cs_X9_47 im_X9_put sl_X9_put hS.2.1 rfl ⟨by simp only [rl_rm]; omega, by simp only [rl_rm]; omega⟩ rfl hl.1 rfl (Nat.le_of_ble_eq_true rfl) dX9_putRecord_69 ⟨(Nat.le_of_ble_eq_true rfl), (Nat.le_of_ble_eq_true rfl)⟩) hW (fun f5 H locs hp hW => ?_)
          replace hS := hp
          obtain ⟨hx58, h0, ⟨gn, h1, hgnv⟩, ⟨gt, h2, hgtv⟩⟩ := hS.1.rec hk1
          obtain ⟨hj, hnT, -⟩ := hG.2.1 k1 hk1
          obtain ⟨hrv, hj5, -, ⟨gp, hpa, hpp⟩, -⟩ := id (hS.1.2.2.1 _ hj)
          obtain ⟨q, o, hq1, hq2, hq3, -⟩ := hpp i (by omega)
          refine lv_aload_n hx hb dX9_putRecord_72 rfl (lv_at hl 0 rfl) ?_
          refine lv_aload_n hx hb dX9_putRecord_73 rfl (lv_at hl 1 rfl) ?_
          refine rl_get (v := .ref (x + 16 + 3 * G.1 1 k1)) hC hW fl_X9_54 h0 rfl dX9_putRecord_74 ?_
          refine rl_get (v := .ref (x + 17 + 3 * G.1 1 k1)) hC hW fl_X9_58 hrv rfl dX9_putRecord_77 ?_
          refine lv_iload_n hx hb dX9_putRecord_80 rfl (lv_at hl 3 rfl) ?_
          refine rl_aald_n 5 hC hW rfl hpa (by omega) (by decide) dX9_putRecord_81 ?_
          refine rl_topq (hq1) ?_
          refine rl_get (v := .int (nI (T 4 (5 * G.1 1 k1 + i)))) hC hW fl_X9_69 hq3 rfl dX9_putRecord_82 ?_
          refine lv_i2l hx hb dX9_putRecord_85 rfl ?_
          refine rl_callvQ (rl_runV (b := x + 55) (As := [.long ((nI (T 4 (5 * G.1 1 k1 + i))).toInt64)]) (rest := []) hC hW (cC_Tape_put l D t A _ z x T ρ κ G E _ _ _ hS _) cs_X9_47 im_X9_put sl_X9_put hS.2.1 rfl ⟨by simp only [rl_rm]; omega, by simp only [rl_rm]; omega⟩ rfl hl.1 rfl (Nat.le_of_ble_eq_true rfl) dX9_putRecord_86 ⟨(Nat.le_of_ble_eq_true rfl), (Nat.le_of_ble_eq_true rfl)⟩) hW (fun f6 H locs hp hW => ?_)
          replace hS := hp
          obtain ⟨hx58, h0, ⟨gn, h1, hgnv⟩, ⟨gt, h2, hgtv⟩⟩ := hS.1.rec hk1
          obtain ⟨hj, hnT, -⟩ := hG.2.1 k1 hk1
          obtain ⟨hrv, hj5, -, ⟨gp, hpa, hpp⟩, -⟩ := id (hS.1.2.2.1 _ hj)
          refine lv_aload_n hx hb dX9_putRecord_89 rfl (lv_at hl 0 rfl) ?_
          refine lv_aload_n hx hb dX9_putRecord_90 rfl (lv_at hl 1 rfl) ?_
          refine lv_iload_n hx hb dX9_putRecord_91 rfl (lv_at hl 3 rfl) ?_
          refine lv_iload_n hx hb dX9_putRecord_92 rfl (lv_at hl 2 rfl) ?_
          refine rl_callvQ (rl_runV (b := x + 55) (As := [.ref (E 2 k1), .int (nI (i)), .int (nI (dd))]) (rest := []) hC hW (hPV hd50 _ _ i hS hlt) cs_X9_72 im_X9_putValue sl_X9_putValue hS.2.1 rfl ⟨by simp only [rl_rm]; omega, by simp only [rl_rm]; omega⟩ rfl hl.1 rfl (Nat.le_of_ble_eq_true rfl) dX9_putRecord_93 ⟨(Nat.le_of_ble_eq_true rfl), (Nat.le_of_ble_eq_true rfl)⟩) hW (fun f7 H locs hp hW => ?_)
          replace hS := hp
          refine lv_iinc (v := (nI ((i) + 1))) (lv' := [(3, .int (nI ((i) + 1))), (0, .ref (x + 55)), (1, .ref (E 2 k1)), (2, .int (nI (dd)))]) hx hb dX9_putRecord_96 hl (k := 3) rfl (nI_1 _) (by decide) rfl (fun ls hl => ?_)
          refine lv_goto (tgt := 37) hx hb dX9_putRecord_99 (by decide) ?_
          replace hl : lv_has ls 4 [(0, .ref (x + 55)), (1, .ref (E 2 k1)), (2, .int (nI (dd))), (3, .int (nI ((i) + 1)))] := lv_sub hl [1, 2, 3, 0] rfl
          exact ih H locs ls _ _ (i + 1) hW hS (by omega) (by rw [← hwz, List.append_assoc, List.append_assoc, List.append_assoc]; rfl) hl (by omega)
  · have hd50 : dd = 50 := by rcases Nat.lt_or_ge (dd * 5) 250 with h | h; exact absurd ((nI_ltI (by omega) (by decide)).mpr h) c1; omega
    subst hd50
    obtain ⟨hI, htp, gfr, hfr, hfE⟩ := id hS
    refine lv_aload_n hx hb dX9_putRecord_9 rfl (lv_at hl 0 rfl) ?_
    refine lv_sipush (v := (nI (251))) hx hb dX9_putRecord_10 (by decide) ?_
    refine rl_put (v := .int (nI (251))) hC hW fp_X9_18 htp (Nat.le_of_ble_eq_true rfl) rfl rfl dX9_putRecord_13 (fun H locs hW => ?_)
    replace hW : rl_W D A (rl_up _ (x + 55) (.inr (9, [.ref (x + 56), .ref (x + 57), .int (nI (G.1 4 0)), .int (nI (251))]))) z s.heap H locs := hW
    have e251 : (ws ++ pu_wl T G (50 - 50) k1).length = ws.length + 251 := by rw [List.length_append]; rfl
    exact rl_vret hC hW hr hlk (Nat.le_refl _) (Nat.le_refl _) ⟨rfl, rfl, rfl, hI.setfz, (by rw [e251, Nat.min_eq_right (by omega)]; exact rl_up_s _ _ _), gfr, (rl_up_n (by omega)).trans hfr, fun q => by omega⟩ dX9_putRecord_16

theorem cC_putRecord (l : Launch) (D : va_G) (t : Nat → ClassId) (A : Nat → Prop) (z x : Nat) (T : Nat → Nat → Nat) (ρ κ : Nat) (G : pG) (E : Nat → Nat → Nat) (gx : Nat → Int32) (mo : Int32) (hT : rt_ok T) (hG : GW T ρ κ G) : ∀ (d dd : Nat), dd + d = 50 → ∀ (f9 : rl_M) (ws : List Int64) (r : Nat), cFS t f9 x T ρ κ G E gx mo ws → r < κ → rl_Met l yX9_putRecord (.code yX9_putRecord cX9_putRecord 4 none) (rl_rm (3 + 2 * (50 - dd)) 0 0) D t A f9 z [.ref (x + 55), .ref (E 2 r), .int (nI (dd))] (rl_qv z fun f1 => cFS t f1 x T ρ κ G E gx mo (ws ++ pu_wl T G (50 - dd) r))
  | 0, dd, h, f, ws, a, hS, hr => cC_putRecord0 l D t A f z x T ρ κ G E gx mo ws hS hT hG dd (by omega) a hr (fun q => absurd q (by omega))
  | d + 1, dd, h, f, ws, a, hS, hr => cC_putRecord0 l D t A f z x T ρ κ G E gx mo ws hS hT hG dd (by omega) a hr (fun q g ws p hS hp => cC_putValue l D t A g z x T ρ κ G E gx mo ws hS hT hG dd q (fun g ws b hS hb => cC_putRecord l D t A z x T ρ κ G E gx mo hT hG d (dd + 1) (by omega) g ws b hS hb) a p hr hp)

set_option maxHeartbeats 4000000 in
set_option maxRecDepth 100000 in
theorem cC_replaceBy (l : Launch) (D : va_G) (t : Nat → ClassId) (A : Nat → Prop) (f : rl_M) (z : Nat) (x : Nat) (T : Nat → Nat → Nat) (ρ κ : Nat) (G : pG) (E : Nat → Nat → Nat) (gx : Nat → Int32) (mo : Int32) (hI : CJ t f x T ρ κ G E gx mo) (hT : rt_ok T) (hG : GW T ρ κ G) (k1 : Nat) (hk1 : k1 < κ) : rl_Met l yX9_replaceBy (.code yX9_replaceBy cX9_replaceBy 2 (some FieldType.int)) (rl_rm 104 0 0) D t A f z [.ref (x + 55), .ref (E 2 k1)] (rl_qi z fun r f1 => ((250 < (pu_wl T G 50 k1).length ∧ r = -2 ∧ CJ t f1 x T ρ κ G E gx mo) ∨ ((pu_wl T G 50 k1).length ≤ 250 ∧ r = nI (pu_wl T G 50 k1).length ∧ CJ t f1 x T ρ κ (gN (gZ G 2 (fun k => (pu_wl T G 50 k1).getD k 0)) 4 (fun _ => (pu_wl T G 50 k1).length)) E gx mo))) := by
  refine rl_begin (own := RX9) (lv := [(0, .ref (x + 55)), (1, .ref (E 2 k1))]) (by decide +kernel) rfl (Nat.le_of_ble_eq_true rfl) rfl fun p e s m0 args below meth c ls H locs hC hr hlk hnm hW hl hx hb => ?_
  obtain ⟨-, -, -, -, -, -, ⟨⟨fz, htp⟩, ⟨glv, hlv, hlvE⟩, ⟨gfr, hfr⟩⟩, -⟩ := id hI
  refine lv_aload_n hx hb dX9_replaceBy_0 rfl (lv_at hl 0 rfl) ?_
  refine lv_iconst (v := (nI (0))) hx hb dX9_replaceBy_1 (by decide) ?_
  refine rl_put (v := .int (nI (0))) hC hW fp_X9_18 htp (Nat.le_of_ble_eq_true rfl) rfl rfl dX9_replaceBy_2 (fun H locs hW => ?_)
  replace hW : rl_W D A (rl_up _ (x + 55) (.inr (9, [.ref (x + 56), .ref (x + 57), .int (nI (G.1 4 0)), .int (nI (0))]))) z s.heap H locs := hW
  have hS : cFS t (rl_up f (x + 55) (.inr (9, [.ref (x + 56), .ref (x + 57), .int (nI (G.1 4 0)), .int (nI (0))]))) x T ρ κ G E gx mo [] := ⟨hI.setfz, rl_up_s _ _ _, gfr, (rl_up_n (by omega)).trans hfr, fun _ k hk => absurd hk (Nat.not_lt_zero _)⟩
  clear hI htp hlv hlvE hfr
  refine lv_aload_n hx hb dX9_replaceBy_5 rfl (lv_at hl 0 rfl) ?_
  refine lv_aload_n hx hb dX9_replaceBy_6 rfl (lv_at hl 1 rfl) ?_
  refine lv_iconst (v := (nI (0))) hx hb dX9_replaceBy_7 (by decide) ?_
  refine rl_callvQ (rl_runV (b := x + 55) (As := [.ref (E 2 k1), .int (nI (0))]) (rest := []) hC hW (cC_putRecord l D t A z x T ρ κ G E _ _ hT hG 50 0 rfl _ _ k1 hS hk1) cs_X9_22 im_X9_putRecord sl_X9_putRecord hS.2.1 rfl ⟨(Nat.le_of_ble_eq_true rfl), (Nat.le_of_ble_eq_true rfl)⟩ rfl hl.1 rfl (Nat.le_of_ble_eq_true rfl) dX9_replaceBy_8 ⟨(Nat.le_of_ble_eq_true rfl), (Nat.le_of_ble_eq_true rfl)⟩) hW (fun f2 H locs hp hW => ?_)
  replace hS : cFS t _ x T ρ κ G E gx mo (pu_wl T G 50 k1) := hp
  obtain ⟨hI, htp, gfr, hfr, hfE⟩ := hS
  obtain ⟨-, -, -, -, -, -, ⟨-, ⟨glv, hlv, hlvE⟩, -⟩, -⟩ := id hI
  obtain ⟨L, eL⟩ : ∃ L, L = (pu_wl T G 50 k1).length := ⟨_, rfl⟩
  rw [← eL] at htp hfE
  rw [← eL]
  refine lv_aload_n hx hb dX9_replaceBy_11 rfl (lv_at hl 0 rfl) ?_
  refine rl_get (v := .int (nI (min L 251))) hC hW fl_X9_18 htp rfl dX9_replaceBy_12 ?_
  refine lv_sipush (v := (nI (250))) hx hb dX9_replaceBy_15 (by decide) ?_
  refine lv_icmp_le (tgt := 24) hx hb dX9_replaceBy_18 (by decide) (fun c1 => ?_) (fun c1 => ?_)
  · have hle : L ≤ 250 := by have := rg_le c1 (by omega) (by decide); omega
    rw [Nat.min_eq_left (show L ≤ 251 by omega)] at htp
    refine lv_aload_n hx hb dX9_replaceBy_24 rfl (lv_at hl 0 rfl) ?_
    refine rl_get (v := .ref (x + 57)) hC hW fl_X9_15 htp rfl dX9_replaceBy_25 ?_
    refine lv_iconst (v := (nI (0))) hx hb dX9_replaceBy_28 (by decide) ?_
    refine lv_aload_n hx hb dX9_replaceBy_29 rfl (lv_at hl 0 rfl) ?_
    refine rl_get (v := .ref (x + 56)) hC hW fl_X9_9 htp rfl dX9_replaceBy_30 ?_
    refine lv_iconst (v := (nI (0))) hx hb dX9_replaceBy_33 (by decide) ?_
    refine lv_aload_n hx hb dX9_replaceBy_34 rfl (lv_at hl 0 rfl) ?_
    refine rl_get (v := .int (nI (L))) hC hW fl_X9_18 htp rfl dX9_replaceBy_35 ?_
    refine rl_copyl (k := L) hC hW mw_519 hl.1 hfr hlv (by omega) (by omega) (by omega) (Nat.le_of_ble_eq_true rfl) (Nat.le_of_ble_eq_true rfl) dX9_replaceBy_38 (fun H locs hW => ?_)
    replace hI := hI.setlv (gl := va_cpy gfr glv 0 0 L)
    replace htp := (rl_up_n (f := f2) (a := x + 56) (b := x + 55) (e := .inl (t 1, 250, .inr (.inl (va_cpy gfr glv 0 0 L)))) (by omega)).trans htp
    refine lv_aload_n hx hb dX9_replaceBy_41 rfl (lv_at hl 0 rfl) ?_
    refine lv_aload_n hx hb dX9_replaceBy_42 rfl (lv_at hl 0 rfl) ?_
    refine rl_get (v := .int (nI (L))) hC hW fl_X9_18 htp rfl dX9_replaceBy_43 ?_
    refine rl_put (v := .int (nI (L))) hC hW fp_X9_32 htp (Nat.le_of_ble_eq_true rfl) rfl rfl dX9_replaceBy_46 (fun H locs hW => ?_)
    replace hW : rl_W D A (rl_up _ (x + 55) (.inr (9, [.ref (x + 56), .ref (x + 57), .int (nI (L)), .int (nI (L))]))) z s.heap H locs := hW
    replace hI := rg_set (g2 := fun k => (pu_wl T G 50 k1).getD k 0) (hI.settp (sz := L) (fz := nI L) (rl_up_s _ _ _)) (fun k hk => by rw [← hfE hle k hk]; unfold va_cpy; rw [if_pos (by omega)]; congr 1; omega)
    refine lv_aload_n hx hb dX9_replaceBy_49 rfl (lv_at hl 0 rfl) ?_
    refine rl_get (v := .int (nI (L))) hC hW fl_X9_32 (rl_up_s _ _ _) rfl dX9_replaceBy_50 ?_
    exact rl_iret hC hW hr hlk (Nat.le_refl _) (Nat.le_refl _) ⟨_, rfl, rfl, rfl, Or.inr ⟨hle, rfl, hI⟩⟩ dX9_replaceBy_53
  · have hgt : 250 < L := by have := rg_lt c1 (by omega) (by omega); omega
    refine lv_bipush (v := (-2)) hx hb dX9_replaceBy_21 (by decide) ?_
    exact rl_iret hC hW hr hlk (Nat.le_refl _) (Nat.le_refl _) ⟨_, rfl, rfl, rfl, Or.inl ⟨hgt, rfl, hI⟩⟩ dX9_replaceBy_23

set_option maxHeartbeats 4000000 in
set_option maxRecDepth 100000 in
theorem cC_write (l : Launch) (D : va_G) (t : Nat → ClassId) (A : Nat → Prop) (f : rl_M) (z : Nat) (x : Nat) (T : Nat → Nat → Nat) (ρ κ : Nat) (G : pG) (E : Nat → Nat → Nat) (hI : CI t f x T ρ κ G E) (hT : rt_ok T) (hG : GW T ρ κ G) (x1 : Int32) : rl_Met l yX11_write (.code yX11_write cX11_write 4 (some FieldType.int)) (rl_rm 106 0 0) D t A f z [.ref (x), .int (x1)] (rl_qi z fun r f1 => ∃ ρ' κ' G' E', f_write T ρ κ G x1 = (r, ρ', κ', G') ∧ CI t f1 x T ρ' κ' G' E') := by
  refine rl_begin (own := RX11) (lv := [(0, .ref (x)), (1, .int (x1))]) (by decide +kernel) rfl (Nat.le_of_ble_eq_true rfl) rfl fun p e s m0 args below meth c ls H locs hC hr hlk hnm hW hl hx hb => ?_
  replace hI : CJ t _ x T ρ κ G E (G.2.1 0) (G.2.1 0 3) := hI
  obtain ⟨hF0, hEV, hRV, ⟨v5, hx0⟩, ⟨gpl, hpl, hpt⟩, ⟨⟨ggn, hgn, hgnE⟩, ⟨ggp, hgp, hgq⟩⟩, ⟨⟨fz, htp⟩, ⟨glv, hlv, hlvE⟩, ⟨gfr, hfr⟩⟩, hRW, hRC, hIN⟩ := id hI
  refine lv_iload_n hx hb dX11_write_0 rfl (lv_at hl 1 rfl) ?_
  refine lv_bipush (v := (nI (10))) hx hb dX11_write_1 (by decide) ?_
  refine rl_calliQ (rl_runS (As := [.int (x1), .int (nI (10))]) (rest := []) hC hW (cC_below l D t A _ z _ (10) (by omega)) cs_X11_48 sm_X11_below ⟨(Nat.le_of_ble_eq_true rfl), (Nat.le_of_ble_eq_true rfl)⟩ rfl hl.1 rfl (Nat.le_of_ble_eq_true rfl) dX11_write_3 ⟨(Nat.le_of_ble_eq_true rfl), (Nat.le_of_ble_eq_true rfl)⟩) hW (fun r f1 H locs hp hW => ?_)
  obtain ⟨rfl, hp⟩ := hp
  rcases hp with ⟨rfl, hp⟩ | ⟨rfl, hp⟩
  · obtain ⟨p0, hp0, rfl⟩ := hp
    refine lv_if_eq (tgt := 31) hx hb dX11_write_6 (by decide) (fun c9 => ?_) (fun c9 => ?_)
    · exact absurd c9 (by decide)
    · refine lv_aload_n hx hb dX11_write_9 rfl (lv_at hl 0 rfl) ?_
      refine rl_get (v := .ref (x + 52)) hC hW fl_X11_18 hx0 rfl dX11_write_10 ?_
      refine lv_iload_n hx hb dX11_write_13 rfl (lv_at hl 1 rfl) ?_
      refine rl_aald_n 3 hC hW rfl hpl (by omega) (by decide) dX11_write_14 ?_
      obtain ⟨r0, er0⟩ : ∃ r : Option Nat, r = gpl (p0) := ⟨_, rfl⟩
      refine rl_topqq er0.symm ?_
      refine rl_astoreq_n (lv' := [(3, va_rf (r0)), (0, .ref (x)), (1, .int (nI (p0)))]) hx hb dX11_write_15 rfl hl (by decide) rfl (fun ls hl => ?_)
      refine rl_aloadq_n hx hb dX11_write_16 rfl (lv_at hl 0 rfl) ?_
      obtain ⟨hpe, hok0⟩ := hpt p0 hp0
      rcases hok0.cases with hh | ⟨n0, hn0, hh⟩ | ⟨n0, hn0, hh⟩ | ⟨n0, hn0, hh⟩
      · obtain rfl : r0 = none := by rw [er0.trans hpe, hh]; rfl
        refine lv_instN hx hb dX11_write_17 ?_
        refine rl_topn (y := nI 0) (by decide) ?_
        refine lv_if_eq (tgt := 31) hx hb dX11_write_20 (by decide) (fun c_1 => ?_) (fun c_1 => ?_)
        · refine lv_iconst (v := (-1)) hx hb dX11_write_31 (by decide) ?_
          exact rl_iret hC hW hr hlk (Nat.le_refl _) (Nat.le_refl _) ⟨_, rfl, rfl, rfl, ρ, κ, G, E, (by simp only [f_write, ob, pu_ix_s hp0 (by decide), hh]), hI⟩ dX11_write_32
        · first | exact absurd c_1 (by decide) | exact absurd (by decide) c_1
      · obtain rfl : r0 = some (E 0 n0) := by rw [er0.trans hpe, hh]; rfl
        obtain ⟨hx58, h0, h1⟩ := hI.con hn0
        have hlo := (hT.2.2.2.2.2.1 n0 hn0.1).1
        refine rl_instNo hC hW h0 rfl mw_338 (by decide) dX11_write_17 ?_
        refine rl_topn (y := nI 0) (by decide) ?_
        refine lv_if_eq (tgt := 31) hx hb dX11_write_20 (by decide) (fun c_2 => ?_) (fun c_2 => ?_)
        · refine lv_iconst (v := (-1)) hx hb dX11_write_31 (by decide) ?_
          exact rl_iret hC hW hr hlk (Nat.le_refl _) (Nat.le_refl _) ⟨_, rfl, rfl, rfl, ρ, κ, G, E, (by simp only [f_write, ob, pu_ix_s hp0 (by decide), hh]), hI⟩ dX11_write_32
        · first | exact absurd c_2 (by decide) | exact absurd (by decide) c_2
      · obtain rfl : r0 = some (E 1 n0) := by rw [er0.trans hpe, hh]; rfl
        obtain ⟨hx58, h0, g, h1, hgi⟩ := hI.row hn0
        have hn8 := hG.1 n0 hn0
        refine rl_instNo hC hW h0 rfl mw_338 (by decide) dX11_write_17 ?_
        refine rl_topn (y := nI 0) (by decide) ?_
        refine lv_if_eq (tgt := 31) hx hb dX11_write_20 (by decide) (fun c_3 => ?_) (fun c_3 => ?_)
        · refine lv_iconst (v := (-1)) hx hb dX11_write_31 (by decide) ?_
          exact rl_iret hC hW hr hlk (Nat.le_refl _) (Nat.le_refl _) ⟨_, rfl, rfl, rfl, ρ, κ, G, E, (by simp only [f_write, ob, pu_ix_s hp0 (by decide), hh]), hI⟩ dX11_write_32
        · first | exact absurd c_3 (by decide) | exact absurd (by decide) c_3
      · obtain rfl : r0 = some (E 2 n0) := by rw [er0.trans hpe, hh]; rfl
        obtain ⟨hx58, h0, ⟨gn, h1, hgnv⟩, ⟨gt, h2, hgtv⟩⟩ := hI.rec hn0
        obtain ⟨hj, hnT, -⟩ := hG.2.1 n0 hn0
        obtain ⟨hrv, hj5, hj2, hpa, hka⟩ := id (hI.2.2.1 _ hj)
        refine rl_instY hC hW h0 rfl mw_338 mt_998 dX11_write_17 ?_
        refine rl_topn (y := nI 1) (by decide) ?_
        refine lv_if_eq (tgt := 31) hx hb dX11_write_20 (by decide) (fun c_4 => ?_) (fun c_4 => ?_)
        · first | exact absurd c_4 (by decide) | exact absurd (by decide) c_4
        · refine lv_aload_n hx hb dX11_write_23 rfl (lv_at hl 0 rfl) ?_
          refine rl_castY hC hW h0 rfl mw_338 mt_998 dX11_write_24 ?_
          refine lv_astore_n (lv' := [(2, .ref (E 2 n0)), (3, .ref (E 2 n0)), (0, .ref (x)), (1, .int (nI (p0)))]) hx hb dX11_write_27 rfl hl (by decide) rfl (fun ls hl => ?_)
          refine lv_goto (tgt := 33) hx hb dX11_write_28 (by decide) ?_
          refine lv_aload_n hx hb dX11_write_33 rfl (lv_at hl 2 rfl) ?_
          refine rl_get (v := .ref (x + 55)) hC hW fl_X11_33 hx0 rfl dX11_write_34 ?_
          refine lv_aload_n hx hb dX11_write_37 rfl (lv_at hl 0 rfl) ?_
          refine rl_calliQ (rl_runV (b := x + 55) (As := [.ref (E 2 n0)]) (rest := []) hC hW (cC_replaceBy l D t A _ z x T ρ κ G E _ _ hI hT hG n0 hn0) cs_X11_159 im_X9_replaceBy sl_X9_replaceBy htp rfl ⟨(Nat.le_of_ble_eq_true rfl), (Nat.le_of_ble_eq_true rfl)⟩ rfl hl.1 rfl (Nat.le_of_ble_eq_true rfl) dX11_write_38 ⟨(Nat.le_of_ble_eq_true rfl), (Nat.le_of_ble_eq_true rfl)⟩) hW (fun r f1 H locs hp hW => ?_)
          rcases hp with ⟨hlen, rfl, hI⟩ | ⟨hlen, rfl, hI⟩
          · exact rl_iret hC hW hr hlk (Nat.le_refl _) (Nat.le_refl _) ⟨_, rfl, rfl, rfl, ρ, κ, G, E, (by simp only [f_write, ob, pu_ix_s hp0 (by decide), hh]; rw [if_pos hlen]), hI⟩ dX11_write_41
          · exact rl_iret hC hW hr hlk (Nat.le_refl _) (Nat.le_refl _) ⟨_, rfl, rfl, rfl, ρ, κ, gN (gZ G 2 (fun k => (pu_wl T G 50 n0).getD k 0)) 4 (fun _ => (pu_wl T G 50 n0).length), E, (by simp only [f_write, ob, pu_ix_s hp0 (by decide), hh]; rw [if_neg (by omega)]), hI⟩ dX11_write_41
  · have hq := hp
    refine lv_if_eq (tgt := 31) hx hb dX11_write_6 (by decide) (fun c9 => ?_) (fun c9 => ?_)
    · refine lv_iconst (v := (-1)) hx hb dX11_write_31 (by decide) ?_
      exact rl_iret hC hW hr hlk (Nat.le_refl _) (Nat.le_refl _) ⟨_, rfl, rfl, rfl, ρ, κ, G, E, (by simp only [f_write, ob, pu_ix_n (n := 10) (by decide) hq]), hI⟩ dX11_write_32
    · exact absurd rfl c9
