
/-! the law: rows for its calls -/
def lw_A1 (x : Nat) : Nat → Prop := fun q => x ≤ q ∧ ¬ (x + 58 ≤ q ∧ q < x + 91)
def lw_A2 (x z : Nat) : Nat → Prop := fun q => (x + 58 ≤ q ∧ q < x + 91) ∨ z ≤ q
def lwS (D : va_G) (s : State) (x : Nat) (fc fr : rl_M) (z : Nat) (H : Heap) (locs : List Loc) : Prop := H.size = z ∧ x = s.heap.size ∧ x + 91 ≤ z ∧ (∀ a e, fc a = some e → lw_A1 x a ∧ va_at D rl_cl (a, e) H) ∧ (∀ a e, fr a = some e → (x + 58 ≤ a ∧ a < x + 91) ∧ va_at D rl_cl (a, e) H) ∧ va_S (fun q => s.heap.size ≤ q) s.heap H locs
section LWR
variable {p : Program} {l : Launch} {e : Env} {R : Room} {s : State} {m : MethodId} {args : Array Value} {below : List Frame} {meth : Method} {c : Code} {H : Heap} {locs : List Loc} {cells slots : Nat} {Q : State → Prop}
variable {cc : ByteArray} {nL pc : Nat} {ls : Array Slot} {rest : List Value} {D : va_G} {t : Nat → ClassId} {A A0 : Nat → Prop} {a z x : Nat} {f fc fr : rl_M} {own : String} {cw : Cond}
theorem lw_one (hw : ∀ (a : Nat) (e : va_E), f a = some e → A a ∧ va_at D rl_cl (a, e) H) {e : va_E} (ha : f a = some e) : va_P D rl_cl [(a, e)] H := by
  intro k q hk
  have hz : k < 1 := (List.getElem?_eq_some_iff.mp hk).1
  rw [show k = 0 by omega] at hk
  cases hk
  exact (hw a e ha).2
theorem lw_pre {av : List Value} (hC : rl_C p m c cc nL s args own cw D t A0) (hw : H.size = z ∧ ∀ (a : Nat) (e : va_E), f a = some e → A a ∧ va_at D rl_cl (a, e) H) (hA : ∀ q, H.size ≤ q → A q) (U : State) (hU : U.heap = H) (hWm : s.WarmedH U.vm) : rl_P D t A f z av av.toArray U :=
  ⟨rfl, ⟨by rw [hU]; exact hw.1, fun b x hx => by rw [hU]; exact hw.2 b x hx⟩, hC.2.2.2.2.2.1.warm hWm, fun q hq => hA q (by rw [← hU]; exact hq)⟩
theorem lw_runV {y : MethodName} {bytes : ByteArray} {maxL n index b ci N : Nat} {ret : Option FieldType} {rm : Room} {post : Option Value → rl_M → Nat → Nat → Prop} {As st0 fs : List Value} {T : u_T} (hC : rl_C p m c cc nL s args own cw D t A0) (hw : H.size = z ∧ ∀ (a : Nat) (e : va_E), f a = some e → A a ∧ va_at D rl_cl (a, e) H) (hA : ∀ q, H.size ≤ q → A q) (hM : rl_Met l y (.code y bytes maxL ret) rm D t A f z (.ref b :: As) post) (hs : rl_cs own index y bytes maxL ret n) (hi : Cond.instanceMethod y ∈ rl_G) (hv : Cond.selects y.cls y y ∈ lw_tbl) (he : f b = some (.inr (ci, fs))) (hc : rl_cl[ci]? = some (y.cls, T, N)) (hR : rm.frames + 1 ≤ R.frames ∧ 8 + (maxL + 11) + rm.locals ≤ R.locals) (hn : As.length = n) (hl : ls.size = nL) (hst : st0 = As.reverse ++ .ref b :: rest) (hcat : (rest.map fun v => v.category).sum ≤ 8) (hdg : decode cc pc = .ok (.invokevirtual index, 3)) (hf : cells + rm.cells ≤ R.cells ∧ slots + rm.slots ≤ R.slots) (hsel : goodWord (Cond.selects y.cls y y) = true := by rfl) :
    va_Run p l e R s m args below meth c H locs cells slots rm.cells rm.slots (F0 m pc ls st0) rest (rl_Q D A post (Value.ref b :: As).toArray) A := by
  subst hst
  have hts := hC.2.2.2.2.1
  have hS : CallFix p m c cc nL s args (cw :: rl_G) own := ⟨hC.1, hC.2.1, hC.2.2.1, hC.2.2.2.1, hts⟩
  have g : ∀ {w : Cond}, w ∈ rl_G → w.before args s = true := fun h => hts _ (List.mem_cons_of_mem _ h)
  have hrv : ∃ cell : Cell, H[b]? = some cell ∧ cell.vm.isStatics = false ∧ s.vm.findClass y.cls = some cell.cls := va_recv hC.2.2.2.2.2.1.1 (lw_one hw.2 he) hc (q0 := 0) rfl
  rcases hs.1 with hl1 | ⟨host, hl1⟩
  · exact va_runV hS hM ⟨callB_of n hts (rl_good hs.2.1) rfl rfl rfl (g hs.2.2.1) (g hl1) hs.2.2.2 hR, g hi, g (rl_inG hv hsel)⟩ ⟨rl_blind, hrv, fun U hU hWm => lw_pre hC hw hA U hU hWm⟩ rfl hn hl rfl (lv_room hcat) hdg hf
  · exact va_runVN hS hM ⟨va_cnB n hts (rl_good hs.2.1) rfl rfl rfl (hC.2.2.2.2.2.1.2.1 _ hl1 rfl) (g hs.2.2.1) hs.2.2.2 hR, g hi, g (rl_inG hv hsel)⟩ ⟨rl_blind, hrv, fun U hU hWm => lw_pre hC hw hA U hU hWm⟩ rfl hn hl rfl (lv_room hcat) hdg hf
theorem lw_runI {y : MethodName} {bytes : ByteArray} {maxL n index b : Nat} {rm : Room} {post : Option Value → rl_M → Nat → Nat → Prop} {As st0 : List Value} (hC : rl_C p m c cc nL s args own cw D t A0) (hw : H.size = z ∧ ∀ (a : Nat) (e : va_E), f a = some e → A a ∧ va_at D rl_cl (a, e) H) (hA : ∀ q, H.size ≤ q → A q) (hM : rl_Met l y (.code y bytes maxL none) rm D t A f z (.ref b :: As) post) (hs : rl_cs own index y bytes maxL none n) (hi : Cond.instanceMethod y ∈ rl_G) (hy1 : y.name = "<init>") (hR : rm.frames + 1 ≤ R.frames ∧ 8 + (maxL + 11) + rm.locals ≤ R.locals) (hn : As.length = n) (hl : ls.size = nL) (hst : st0 = As.reverse ++ .ref b :: rest) (hcat : (rest.map fun v => v.category).sum ≤ 8) (hdg : decode cc pc = .ok (.invokespecial index, 3)) (hf : cells + rm.cells ≤ R.cells ∧ slots + rm.slots ≤ R.slots) :
    va_Run p l e R s m args below meth c H locs cells slots rm.cells rm.slots (F0 m pc ls st0) rest (rl_Q D A post (Value.ref b :: As).toArray) A := by
  subst hst
  have hts := hC.2.2.2.2.1
  have hS : CallFix p m c cc nL s args (cw :: rl_G) own := ⟨hC.1, hC.2.1, hC.2.2.1, hC.2.2.2.1, hts⟩
  have g : ∀ {w : Cond}, w ∈ rl_G → w.before args s = true := fun h => hts _ (List.mem_cons_of_mem _ h)
  rcases hs.1 with hl1 | ⟨host, hl1⟩
  · exact va_runI hS hM ⟨callB_of n hts (rl_good hs.2.1) rfl rfl rfl (g hs.2.2.1) (g hl1) hs.2.2.2 hR, hy1, g hi⟩ ⟨rl_blind, fun U hU hWm => lw_pre hC hw hA U hU hWm⟩ rfl hn hl rfl (lv_room hcat) hdg hf
  · exact va_runIN hS hM ⟨va_cnB n hts (rl_good hs.2.1) rfl rfl rfl (hC.2.2.2.2.2.1.2.1 _ hl1 rfl) (g hs.2.2.1) hs.2.2.2 hR, hy1, g hi⟩ ⟨rl_blind, fun U hU hWm => lw_pre hC hw hA U hU hWm⟩ rfl hn hl rfl (lv_room hcat) hdg hf
/-- behind a call at the law's level: what the callee may not write is as it was -/
theorem lw_call {mc ms : Nat} {post : Option Value → rl_M → Nat → Nat → Prop} {av : Array Value} {st0 : List Value} (hr : va_Run p l e R s m args below meth c H locs cells slots mc ms (F0 m pc ls st0) rest (rl_Q D A post av) A) (hz : H.size = z) (hS : va_S (fun q => s.heap.size ≤ q) s.heap H locs) (hAA : ∀ q, A q → s.heap.size ≤ q)
    (kk : ∀ (v : Option Value) (f' : rl_M) (z' ds : Nat) (H1 : Heap) (locs1 : List Loc), post v f' z' ds → H1.size = z' → (∀ (a : Nat) (e : va_E), f' a = some e → A a ∧ va_at D rl_cl (a, e) H1) → (∀ q : Nat, q < z → ¬ A q → H1[q]? = H[q]?) → va_S (fun q => s.heap.size ≤ q) s.heap H1 locs1 → z ≤ z' → W p l e R s m args below meth c H1 locs1 (cells + (z' - z)) (slots + ds) Q (F0 m (pc + 3) ls (v.toList ++ rest))) : W p l e R s m args below meth c H locs cells slots Q (F0 m pc ls st0) := by
  intro T hT X
  obtain ⟨v, st₀, t1, T', L, h0, X', hL, e1, e2, ⟨v', f', z', ds, hv, hp, hw, hF, hg⟩, st⟩ := hr T hT X
  cases hv
  have g1 := X.heapSize
  have g2 : rl_hs T.heap = rl_hs s.heap + ((T.heap.toList.drop s.heap.size).map (·.slots.size)).sum := rl_hs_same (T := T.setVm s.vm) X.same
  have g5 : ((T.heap.toList.drop s.heap.size).map (·.slots.size)).sum ≤ slots := X.same.2.2.2.2.1
  rw [hT] at g1 g2 g5
  have hz1 : H.size ≤ t1.heap.size := by have := hF.1; rw [h0] at this; exact this
  have hkq : ∀ q : Nat, q < H.size → ¬ A q → t1.heap[q]? = H[q]? := by have := hF.2; rw [h0] at this; exact this
  rw [h0] at hg
  have hw1 := hw.1
  have key := kk v f' z' ds T'.heap (locs ++ L) hp (by rw [e1]; exact hw.1) (fun b x hx => by rw [e1]; exact hw.2 b x hx) (fun q h1 h2 => by rw [e1]; exact hkq q (by omega) h2) ⟨by rw [e1]; exact Nat.le_trans hS.1 hz1, fun q h1 h2 => by rw [e1, hkq q (Nat.lt_of_lt_of_le h1 hS.1) (fun w => h2 (hAA q w))]; exact hS.2.1 q h1 h2, fun q hq => by
      rcases List.mem_append.mp hq with h | h
      · exact hS.2.2 q h
      · exact hAA _ (hL q h)⟩ (by omega)
  obtain ⟨t2, a1, b1⟩ := rl_reset (cells := cells + mc) (slots := slots + ms) (by rw [e1]; omega) (by rw [e1]; omega) key T' rfl X'
  exact ⟨t2, st t2 a1, b1⟩
theorem lw_cC {mc ms : Nat} {post : Option Value → rl_M → Nat → Nat → Prop} {av : Array Value} {st0 : List Value} (hLS : lwS D s x fc fr z H locs) (hr : va_Run p l e R s m args below meth c H locs cells slots mc ms (F0 m pc ls st0) rest (rl_Q D (lw_A1 x) post av) (lw_A1 x))
    (kk : ∀ (v : Option Value) (f' : rl_M) (z' ds : Nat) (H1 : Heap) (locs1 : List Loc), post v f' z' ds → lwS D s x f' fr z' H1 locs1 → z ≤ z' → W p l e R s m args below meth c H1 locs1 (cells + (z' - z)) (slots + ds) Q (F0 m (pc + 3) ls (v.toList ++ rest))) : W p l e R s m args below meth c H locs cells slots Q (F0 m pc ls st0) := by
  obtain ⟨hz, hx, h91, hc, hm, hS⟩ := hLS
  refine lw_call hr hz hS (fun q h => by rw [← hx]; exact h.1) fun v f' z' ds H1 locs1 hp hz' hw hk hS' hzz => ?_
  refine kk v f' z' ds H1 locs1 hp ⟨hz', hx, by omega, hw, fun a e ha => ⟨(hm a e ha).1, (hm a e ha).2.kept (hk a (by have := (hm a e ha).1; omega) (fun w => w.2 (hm a e ha).1))⟩, hS'⟩ hzz
theorem lw_cR {mc ms : Nat} {post : Option Value → rl_M → Nat → Nat → Prop} {av : Array Value} {st0 : List Value} (hLS : lwS D s x fc fr z H locs) (hr : va_Run p l e R s m args below meth c H locs cells slots mc ms (F0 m pc ls st0) rest (rl_Q D (lw_A2 x z) post av) (lw_A2 x z)) (hq : ∀ v f' z' ds, post v f' z' ds → z' = z ∧ ds = 0)
    (kk : ∀ (v : Option Value) (f' : rl_M) (H1 : Heap) (locs1 : List Loc), post v f' z 0 → lwS D s x fc f' z H1 locs1 → W p l e R s m args below meth c H1 locs1 cells slots Q (F0 m (pc + 3) ls (v.toList ++ rest))) : W p l e R s m args below meth c H locs cells slots Q (F0 m pc ls st0) := by
  obtain ⟨hz, hx, h91, hc, hm, hS⟩ := hLS
  refine lw_call hr hz hS (fun q h => by rcases h with h | h <;> omega) fun v f' z' ds H1 locs1 hp hz' hw hk hS' hzz => ?_
  obtain ⟨rfl, rfl⟩ := hq _ _ _ _ hp
  rw [Nat.sub_self]
  refine kk v f' H1 locs1 hp ⟨hz', hx, h91, fun a e ha => ⟨(hc a e ha).1, (hc a e ha).2.kept (hk a (by rw [← hz]; exact (hc a e ha).2.lt) (fun w => ?_))⟩, fun a e ha => ⟨?_, (hw a e ha).2⟩, hS'⟩
  · have h1 := (hc a e ha).1
    have h2 : a < H.size := (hc a e ha).2.lt
    rcases w with w | w
    · exact h1.2 w
    · omega
  · have h2 : a < H1.size := (hw a e ha).2.lt
    rcases (hw a e ha).1 with w | w
    · exact w
    · omega
theorem lwS.wc (h : lwS D s x fc fr z H locs) : (H.size = z ∧ ∀ (a : Nat) (e : va_E), fc a = some e → lw_A1 x a ∧ va_at D rl_cl (a, e) H) := ⟨h.1, h.2.2.2.1⟩
theorem lwS.wcA (h : lwS D s x fc fr z H locs) : ∀ q, H.size ≤ q → lw_A1 x q := fun q hq => by
  have h1 := h.1
  have h2 := h.2.2.1
  unfold lw_A1
  omega
theorem lwS.wr (h : lwS D s x fc fr z H locs) : (H.size = z ∧ ∀ (a : Nat) (e : va_E), fr a = some e → lw_A2 x z a ∧ va_at D rl_cl (a, e) H) := ⟨h.1, fun a e ha => ⟨Or.inl (h.2.2.2.2.1 a e ha).1, (h.2.2.2.2.1 a e ha).2⟩⟩
theorem lwS.wrA (h : lwS D s x fc fr z H locs) : ∀ q, H.size ≤ q → lw_A2 x z q := fun q hq => Or.inr (by rw [← h.1]; exact hq)
theorem lw_cCi {mc ms : Nat} {P : Int32 → rl_M → Nat → Nat → Prop} {av : Array Value} {st0 : List Value} (hLS : lwS D s x fc fr z H locs) (hr : va_Run p l e R s m args below meth c H locs cells slots mc ms (F0 m pc ls st0) rest (rl_Q D (lw_A1 x) (rl_pi P) av) (lw_A1 x))
    (kk : ∀ (r : Int32) (f' : rl_M) (z' ds : Nat) (H1 : Heap) (locs1 : List Loc), P r f' z' ds → lwS D s x f' fr z' H1 locs1 → z ≤ z' → W p l e R s m args below meth c H1 locs1 (cells + (z' - z)) (slots + ds) Q (F0 m (pc + 3) ls (.int r :: rest))) : W p l e R s m args below meth c H locs cells slots Q (F0 m pc ls st0) :=
  lw_cC hLS hr fun v f' z' ds H1 locs1 hp h hz => by
    obtain ⟨r, rfl, hp⟩ := hp
    exact kk r f' z' ds H1 locs1 hp h hz
theorem lw_cCiQ {mc ms : Nat} {P : Int32 → rl_M → Prop} {av : Array Value} {st0 : List Value} (hLS : lwS D s x fc fr z H locs) (hr : va_Run p l e R s m args below meth c H locs cells slots mc ms (F0 m pc ls st0) rest (rl_Q D (lw_A1 x) (rl_qi z P) av) (lw_A1 x))
    (kk : ∀ (r : Int32) (f' : rl_M) (H1 : Heap) (locs1 : List Loc), P r f' → lwS D s x f' fr z H1 locs1 → W p l e R s m args below meth c H1 locs1 cells slots Q (F0 m (pc + 3) ls (.int r :: rest))) : W p l e R s m args below meth c H locs cells slots Q (F0 m pc ls st0) :=
  lw_cC hLS hr fun v f' z' ds H1 locs1 hp h hz => by
    obtain ⟨r, rfl, rfl, rfl, hp⟩ := hp
    rw [Nat.sub_self]
    exact kk r f' H1 locs1 hp h
theorem lw_cClQ {mc ms : Nat} {P : Int64 → rl_M → Prop} {av : Array Value} {st0 : List Value} (hLS : lwS D s x fc fr z H locs) (hr : va_Run p l e R s m args below meth c H locs cells slots mc ms (F0 m pc ls st0) rest (rl_Q D (lw_A1 x) (rl_ql z P) av) (lw_A1 x))
    (kk : ∀ (r : Int64) (f' : rl_M) (H1 : Heap) (locs1 : List Loc), P r f' → lwS D s x f' fr z H1 locs1 → W p l e R s m args below meth c H1 locs1 cells slots Q (F0 m (pc + 3) ls (.long r :: rest))) : W p l e R s m args below meth c H locs cells slots Q (F0 m pc ls st0) :=
  lw_cC hLS hr fun v f' z' ds H1 locs1 hp h hz => by
    obtain ⟨r, rfl, rfl, rfl, hp⟩ := hp
    rw [Nat.sub_self]
    exact kk r f' H1 locs1 hp h
theorem lw_cRiQ {mc ms : Nat} {P : Int32 → rl_M → Prop} {av : Array Value} {st0 : List Value} (hLS : lwS D s x fc fr z H locs) (hr : va_Run p l e R s m args below meth c H locs cells slots mc ms (F0 m pc ls st0) rest (rl_Q D (lw_A2 x z) (rl_qi z P) av) (lw_A2 x z))
    (kk : ∀ (r : Int32) (f' : rl_M) (H1 : Heap) (locs1 : List Loc), P r f' → lwS D s x fc f' z H1 locs1 → W p l e R s m args below meth c H1 locs1 cells slots Q (F0 m (pc + 3) ls (.int r :: rest))) : W p l e R s m args below meth c H locs cells slots Q (F0 m pc ls st0) :=
  lw_cR hLS hr (fun v f' z' ds hp => by obtain ⟨r, -, h1, h2, -⟩ := hp; exact ⟨h1, h2⟩) fun v f' H1 locs1 hp h => by
    obtain ⟨r, rfl, -, -, hp⟩ := hp
    exact kk r f' H1 locs1 hp h
theorem lw_cRlQ {mc ms : Nat} {P : Int64 → rl_M → Prop} {av : Array Value} {st0 : List Value} (hLS : lwS D s x fc fr z H locs) (hr : va_Run p l e R s m args below meth c H locs cells slots mc ms (F0 m pc ls st0) rest (rl_Q D (lw_A2 x z) (rl_ql z P) av) (lw_A2 x z))
    (kk : ∀ (r : Int64) (f' : rl_M) (H1 : Heap) (locs1 : List Loc), P r f' → lwS D s x fc f' z H1 locs1 → W p l e R s m args below meth c H1 locs1 cells slots Q (F0 m (pc + 3) ls (.long r :: rest))) : W p l e R s m args below meth c H locs cells slots Q (F0 m pc ls st0) :=
  lw_cR hLS hr (fun v f' z' ds hp => by obtain ⟨r, -, h1, h2, -⟩ := hp; exact ⟨h1, h2⟩) fun v f' H1 locs1 hp h => by
    obtain ⟨r, rfl, -, -, hp⟩ := hp
    exact kk r f' H1 locs1 hp h
theorem lw_sld (hexec : p.tables.exec = Jvm.exec) (hb : c.code = cc) {b L n : Nat} {xs : Nat → Int32} (hX : va_X b L xs s s.heap) (hbl : b < s.heap.size) (hLS : lwS D s x fc fr z H locs) (hi : n < L) (hL : L ≤ 3072) (hdg : decode cc pc = .ok (.iaload, 1))
    (kk : W p l e R s m args below meth c H locs cells slots Q (F0 m (pc + 1) ls (.int (xs n) :: rest))) : W p l e R s m args below meth c H locs cells slots Q (F0 m pc ls (.int (nI n) :: .ref b :: rest)) :=
  va_sld hexec hb hX hbl (Nat.not_le.mpr hbl) hLS.2.2.2.2.2 (rl_in hi (by omega)).1 hdg (by rw [(rl_in hi (by omega)).2]; exact kk)
theorem lw_slen (hexec : p.tables.exec = Jvm.exec) (hb : c.code = cc) {b L : Nat} {xs : Nat → Int32} (hX : va_X b L xs s s.heap) (hbl : b < s.heap.size) (hLS : lwS D s x fc fr z H locs) (hdg : decode cc pc = .ok (.arraylength, 1))
    (kk : W p l e R s m args below meth c H locs cells slots Q (F0 m (pc + 1) ls (.int (nI L) :: rest))) : W p l e R s m args below meth c H locs cells slots Q (F0 m pc ls (.ref b :: rest)) :=
  va_slen hexec hb hX hbl (Nat.not_le.mpr hbl) hLS.2.2.2.2.2 hdg kk
end LWR
theorem rg_i6 (k : Nat) : nI (6 * k) + Int32.ofInt 6 = nI (6 * (k + 1)) := (nI_add _ 6).trans (congrArg nI (by omega))
theorem rg_gtL {i L : Nat} (hi : i ≤ 3072) (hL : L ≤ 3072) (h : ¬ nI L - nI 6 < nI i) : i + 6 ≤ L := by
  rw [Int32.lt_iff_toInt_lt, nI_toInt (by omega)] at h
  rcases Nat.lt_or_ge L 6 with h6 | h6
  · exfalso
    have : (nI L - nI 6).toInt < 0 := by
      have hc : L = 0 ∨ L = 1 ∨ L = 2 ∨ L = 3 ∨ L = 4 ∨ L = 5 := by omega
      rcases hc with rfl | rfl | rfl | rfl | rfl | rfl <;> decide
    omega
  · rw [rg_sub (c := L - 6) (by omega), nI_toInt (by omega)] at h
    omega
section DET
variable {T T1 T2 : Nat → Nat → Nat} {x1 x2 x3 x4 x5 r r' : Int32}
theorem rt_con.det {lo : Nat} (h : rt_con T x1 x2 x3 lo r T1) (h' : rt_con T x1 x2 x3 lo r' T2) : r = r' ∧ T1 = T2 := by
  rcases h with ⟨k, v, n, ho, hr, hT⟩ | ⟨hr, hT, hn⟩ <;> rcases h' with ⟨k', v', n', ho', hr', hT'⟩ | ⟨hr', hT', hn'⟩
  · obtain ⟨a1, a2, a3, a4, a5, a6, -⟩ := ho
    obtain ⟨b1, b2, b3, b4, b5, b6, -⟩ := ho'
    cases (nI_eq (by omega) (by omega)).mp (a4.symm.trans b4)
    cases (nI_eq (by omega) (by omega)).mp (a5.symm.trans b5)
    cases (nI_eq (by omega) (by omega)).mp (a6.symm.trans b6)
    exact ⟨hr.trans hr'.symm, hT.trans hT'.symm⟩
  · exact absurd ⟨_, _, _, ho⟩ hn'
  · exact absurd ⟨_, _, _, ho'⟩ hn
  · exact ⟨hr.trans hr'.symm, hT.trans hT'.symm⟩
theorem rt_par.det (h : rt_par T x1 x2 x3 x4 x5 r T1) (h' : rt_par T x1 x2 x3 x4 x5 r' T2) : r = r' ∧ T1 = T2 := by
  rcases h with ⟨k, v, n, s, o, ho, h⟩ | ⟨hr, hT, hn⟩ <;> rcases h' with ⟨k', v', n', s', o', ho', h'⟩ | ⟨hr', hT', hn'⟩
  · obtain ⟨a1, a2, a3, a4, a5, a6, a7, a8, a9, a10, a11, -⟩ := ho
    obtain ⟨b1, b2, b3, b4, b5, b6, b7, b8, b9, b10, b11, -⟩ := ho'
    have e1 := (nI_eq (by omega) (by omega)).mp (a5.symm.trans b5)
    cases (nI_eq (by omega) (by omega)).mp (a6.symm.trans b6)
    cases (nI_eq (by omega) (by omega)).mp (a7.symm.trans b7)
    cases (nI_eq (by omega) (by omega)).mp (a8.symm.trans b8)
    have e2 : k = k' := by omega
    subst e2
    have e3 : o = o' := by
      by_cases h2 : s = 2
      · obtain ⟨c1, c2⟩ := a9 h2
        obtain ⟨d1, d2⟩ := b9 h2
        exact (nI_eq (by omega) (by omega)).mp (c2.symm.trans d2)
      · by_cases h3 : s = 3
        · obtain ⟨-, c1, c2⟩ := a10 h3
          obtain ⟨-, d1, d2⟩ := b10 h3
          exact (nI_eq (by omega) (by omega)).mp (c2.symm.trans d2)
        · exact (a11 h2 h3).trans (b11 h2 h3).symm
    subst e3
    rcases h with ⟨c1, c2, c3⟩ | ⟨c1, c2, c3⟩ <;> rcases h' with ⟨d1, d2, d3⟩ | ⟨d1, d2, d3⟩
    · exact ⟨c2.trans d2.symm, c3.trans d3.symm⟩
    · exact absurd c1 d1
    · exact absurd d1 c1
    · exact ⟨c2.trans d2.symm, c3.trans d3.symm⟩
  · exact absurd ⟨_, _, _, _, _, ho⟩ hn'
  · exact absurd ⟨_, _, _, _, _, ho'⟩ hn
  · exact ⟨hr.trans hr'.symm, hT.trans hT'.symm⟩
theorem rt_chk.det (hp : rt_ok T) (h : rt_chk T x1 x2 x3 x4 x5 r T1) (h' : rt_chk T x1 x2 x3 x4 x5 r' T2) : r = r' ∧ T1 = T2 := by
  have h5 : ∀ j, j < 12 → T 2 j ≤ 5 := fun j hj => (hp.2.1 j hj).1
  rcases h with ⟨k, v, n, s, b, ho, h⟩ | ⟨hr, hT, hn⟩ <;> rcases h' with ⟨k', v', n', s', b', ho', h'⟩ | ⟨hr', hT', hn'⟩
  · obtain ⟨a1, a2, a3, a4, a5, a6, a7, a8, a9, a10, a11⟩ := ho
    obtain ⟨b1, b2, b3, b4, b5, b6, b7, b8, b9, b10, b11⟩ := ho'
    have g1 := h5 (3 * k + v) (by omega)
    have g2 := h5 (3 * k' + v') (by omega)
    have e1 := (nI_eq (by omega) (by omega)).mp (a4.symm.trans b4)
    cases (nI_eq (by omega) (by omega)).mp (a5.symm.trans b5)
    cases (nI_eq (by omega) (by omega)).mp (a6.symm.trans b6)
    cases (nI_eq (by omega) (by omega)).mp (a8.symm.trans b8)
    have e2 : k = k' := by omega
    subst e2
    have e3 : b = b' := by
      by_cases h1 : n = 1
      · exact (a11 h1).trans (b11 h1).symm
      · obtain ⟨c1, c2, -⟩ := a10 h1
        obtain ⟨d1, d2, -⟩ := b10 h1
        exact (nI_eq (by omega) (by omega)).mp (c2.symm.trans d2)
    subst e3
    rcases h with ⟨c1, c2, c3⟩ | ⟨c1, c2, c3⟩ <;> rcases h' with ⟨d1, d2, d3⟩ | ⟨d1, d2, d3⟩
    · exact ⟨c2.trans d2.symm, c3.trans d3.symm⟩
    · exact absurd c1 d1
    · exact absurd d1 c1
    · exact ⟨c2.trans d2.symm, c3.trans d3.symm⟩
  · exact absurd ⟨_, _, _, _, _, ho⟩ hn'
  · exact absurd ⟨_, _, _, _, _, ho'⟩ hn
  · exact ⟨hr.trans hr'.symm, hT.trans hT'.symm⟩
theorem RS.ok {t : Nat → ClassId} {f : rl_M} {m ρ κ : Nat} {G : pG} (h : RS t f m T ρ κ G) : rt_ok T := by
  obtain ⟨I, L, F, -, h1, h2, h3, -⟩ := h
  exact rt_ok.of h1 h2 h3
theorem RS.gw {t : Nat → ClassId} {f : rl_M} {m ρ κ : Nat} {G : pG} (h : RS t f m T ρ κ G) : GW T ρ κ G := by
  obtain ⟨I, L, F, -, -, -, -, h4, -⟩ := h
  exact h4
theorem RS.obj {t : Nat → ClassId} {f : rl_M} {m ρ κ : Nat} {G : pG} (h : RS t f m T ρ κ G) : ∃ fs, f m = some (.inr (11, fs)) := by
  obtain ⟨I, L, F, h1, -⟩ := h
  exact ⟨_, h1.1⟩
theorem CI.obj {t : Nat → ClassId} {f : rl_M} {x ρ κ : Nat} {G : pG} {E : Nat → Nat → Nat} (h : CI t f x T ρ κ G E) : ∃ fs, f x = some (.inr (10, fs)) := by
  obtain ⟨-, -, -, ⟨v5, h⟩, -⟩ := h
  exact ⟨_, h⟩
theorem pr_inj {r r' : Int32} {a a' b b' : Nat} {G G' : pG} {P : pR} (h : P = (r, a, b, G)) (h' : P = (r', a', b', G')) : r = r' ∧ a = a' ∧ b = b' ∧ G = G' := by
  have h9 := h.symm.trans h'
  simp only [Prod.mk.injEq] at h9
  obtain ⟨e1, e2, e3, e4⟩ := h9
  exact ⟨e1, e2, e3, e4⟩
end DET
