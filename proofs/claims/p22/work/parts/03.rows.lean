/-! MY ROWS: one memory (a function from addresses to cells), one context, one contract's shape -/
abbrev rl_M : Type := Nat → Option va_E
def rl_up (f : rl_M) (a : Nat) (e : va_E) : rl_M := fun b => if b = a then some e else f b
theorem rl_up_s (f : rl_M) (a : Nat) (e : va_E) : rl_up f a e a = some e := by simp [rl_up]
theorem rl_up_n {f : rl_M} {a b : Nat} {e : va_E} (h : b ≠ a) : rl_up f a e b = f b := by simp [rl_up, h]
theorem rl_ne {f : rl_M} {a b : Nat} {e e' : va_E} (h : f a = some e) (h' : f b = some e') (hne : e ≠ e') : a ≠ b := fun q => hne (Option.some.inj (by rw [← h, ← h', q]))
theorem rl_ne0 {f : rl_M} {a b : Nat} {e : va_E} (h : f a = some e) (h' : f b = none) : a ≠ b := fun q => by rw [q, h'] at h; cases h
/-- all slots of a heap -/
def rl_hs (H : Heap) : Nat := (H.toList.map (·.slots.size)).sum
theorem rl_sum_drop : ∀ (l l' : List Cell), l.length ≤ l'.length → (∀ (i : Nat) (c c' : Cell), l[i]? = some c → l'[i]? = some c' → c'.slots.size = c.slots.size) → (l'.map (·.slots.size)).sum = (l.map (·.slots.size)).sum + ((l'.drop l.length).map (·.slots.size)).sum
  | [], l', _, _ => by simp
  | a :: l, [], h, _ => by simp at h
  | a :: l, b :: l', h, hs => by
    have h1 := rl_sum_drop l l' (by simpa using h) (fun i c c' hc hc' => hs (i + 1) c c' (by simpa using hc) (by simpa using hc'))
    have h2 := hs 0 a b rfl rfl
    simp only [List.map_cons, List.sum_cons, List.length_cons, List.drop_succ_cons]
    omega
theorem rl_hs_same {s T : State} {L : List Loc} {k n : Nat} (h : s.sameButNew T L k n) : rl_hs T.heap = rl_hs s.heap + ((T.heap.toList.drop s.heap.size).map (·.slots.size)).sum := by
  obtain ⟨-, h1, -, -, -, h2⟩ := h
  have := rl_sum_drop s.heap.toList T.heap.toList (by simpa using h1) (fun i c c' hc hc' => by
    rw [Array.getElem?_toList] at hc hc'
    obtain ⟨c2, e1, -, e3, -⟩ := h2 i c hc
    rw [e1] at hc'
    cases hc'
    exact e3)
  simpa [rl_hs] using this
/-- the world: the heap's size, the memory's cells in it, and that nothing else has changed since H0 -/
def rl_W (D : va_G) (A : Nat → Prop) (f : rl_M) (z : Nat) (H0 H : Heap) (locs : List Loc) : Prop := H.size = z ∧ (∀ (a : Nat) (e : va_E), f a = some e → A a ∧ va_at D rl_cl (a, e) H) ∧ va_S A H0 H locs
section RLW
variable {D : va_G} {A : Nat → Prop} {f : rl_M} {z : Nat} {H0 H H1 : Heap} {locs : List Loc} {a : Nat} {e : va_E}
theorem rl_W.lt (h : rl_W D A f z H0 H locs) (ha : f a = some e) : a < z := by rw [← h.1]; exact (h.2.1 a e ha).2.lt
theorem rl_W.fresh (h : rl_W D A f z H0 H locs) : f z = none := by
  cases hc : f z with
  | none => rfl
  | some e => exact absurd (h.lt hc) (Nat.lt_irrefl _)
theorem rl_W.one (h : rl_W D A f z H0 H locs) (ha : f a = some e) : va_P D rl_cl [(a, e)] H := by
  intro k q hk
  have hz : k < 1 := (List.getElem?_eq_some_iff.mp hk).1
  rw [show k = 0 by omega] at hk
  cases hk
  exact (h.2.1 a e ha).2
theorem rl_W.put {k : Nat} {e0 : va_E} (h : rl_W D A f z H0 H locs) (h0 : f a = some e0) (he : va_at D rl_cl (a, e) H1) (hz : H1.size = H.size) (oq : ∀ q : Nat, q ≠ a → H1[q]? = H[q]?) : rl_W D A (rl_up f a e) z H0 H1 (locs ++ [⟨a, k⟩]) := by
  have hA := (h.2.1 a e0 h0).1
  refine ⟨hz.trans h.1, fun b e' hb => ?_, h.2.2.put hz oq hA⟩
  by_cases hq : b = a
  · subst hq
    rw [rl_up_s] at hb
    cases hb
    exact ⟨hA, he⟩
  · rw [rl_up_n hq] at hb
    exact ⟨(h.2.1 b e' hb).1, (h.2.1 b e' hb).2.kept (oq b hq)⟩
theorem rl_W.new (h : rl_W D A f z H0 H locs) (hA : ∀ q, H0.size ≤ q → A q) (he : va_at D rl_cl (z, e) H1) (hz : H1.size = z + 1) (oq : ∀ q : Nat, q < z → H1[q]? = H[q]?) : rl_W D A (rl_up f z e) (z + 1) H0 H1 locs := by
  have hle : H0.size ≤ z := by rw [← h.1]; exact h.2.2.1
  refine ⟨hz, fun b e' hb => ?_, by omega, fun q h1 h2 => ?_, h.2.2.2.2⟩
  · by_cases hq : b = z
    · subst hq
      rw [rl_up_s] at hb
      cases hb
      exact ⟨hA _ hle, he⟩
    · rw [rl_up_n hq] at hb
      exact ⟨(h.2.1 b e' hb).1, (h.2.1 b e' hb).2.kept (oq b (h.lt hb))⟩
  · exact (oq q (by omega)).trans (h.2.2.2.1 q h1 h2)
end RLW
/-- the words that are no table's steady words, by the state at a method's entry -/
def rl_nw : Cond → Bool
  | .fieldLinkNest _ _ _ _ _ _ => true
  | .methodLinkNest _ _ _ _ => true
  | .castable _ _ => true
  | .declares _ => true
  | _ => false
def rl_N (U : State) : Prop := (∀ w ∈ lw_tbl, rl_nw w = true → va_Nw w U) ∧ (∀ q ∈ rl_ncl, va_Nc q.1 q.2 U) ∧ ∀ C : String, Cond.arrayOver (.object C) ∈ lw_tbl → va_AO C U
theorem rl_N.warm {s U : State} (hW : s.WarmedH U.vm) (h : rl_N s) : rl_N U := by
  refine ⟨fun w hw hn => ?_, fun q hq => (h.2.1 q hq).moved hW.alike, fun C hm => (h.2.2 C hm).moved hW.alike⟩
  have h1 := h.1 w hw hn
  cases w <;> first | exact va_Nw.warmF hW h1 | exact va_Nw.warmM hW h1 | exact va_Nw.warmC hW h1 | exact va_Nw.warmD hW h1 | (simp [rl_nw] at hn)
theorem rl_N.same {s U : State} (hW : s.vm = U.vm) (h : rl_N s) : rl_N U := by
  have ha : s.vm.Alike U.vm := by rw [hW]; exact Vm.Alike.refl _
  refine ⟨fun w hw hn => ?_, fun q hq => (h.2.1 q hq).moved ha, fun C hm => (h.2.2 C hm).moved ha⟩
  have h1 := h.1 w hw hn
  cases w <;> first | exact va_Nw.same rfl hW h1 | (simp [rl_nw] at hn)
def rl_G : List Cond := lw_tbl.filter goodWord
theorem rl_inG {w : Cond} (h : w ∈ lw_tbl) (hg : goodWord w = true) : w ∈ rl_G := List.mem_filter.mpr ⟨h, hg⟩
theorem rl_good {cw cw' : Cond} (h : cw' ∈ rl_G) : GoodIn (cw :: rl_G) (cw' :: rl_G) := by
  intro w hw
  have h1 : w ∈ rl_G := by
    rcases List.mem_cons.mp hw with rfl | h2
    · exact h
    · exact h2
  exact ⟨List.mem_cons_of_mem _ h1, good_of_word (List.mem_filter.mp h1).2⟩
def rl_K (D : va_G) (t : Nat → ClassId) (U : State) : Prop := va_K D rl_cl (rl_tys t) U ∧ rl_N U
theorem rl_K.warm {D : va_G} {t : Nat → ClassId} {s U : State} (hW : s.WarmedH U.vm) (h : rl_K D t s) : rl_K D t U := ⟨va_K.moved hW.alike h.1, h.2.warm hW⟩
theorem rl_K.same {D : va_G} {t : Nat → ClassId} {s U : State} (hW : s.vm = U.vm) (h : rl_K D t s) : rl_K D t U := ⟨va_K.moved (by rw [hW]; exact Vm.Alike.refl _) h.1, h.2.same hW⟩
/-- a contract -/
def rl_P (D : va_G) (t : Nat → ClassId) (A : Nat → Prop) (f : rl_M) (z : Nat) (av : List Value) : Array Value → State → Prop := fun v U => v = av.toArray ∧ (U.heap.size = z ∧ ∀ (a : Nat) (e : va_E), f a = some e → A a ∧ va_at D rl_cl (a, e) U.heap) ∧ rl_K D t U ∧ ∀ q, U.heap.size ≤ q → A q
def rl_Q (D : va_G) (A : Nat → Prop) (post : Option Value → rl_M → Nat → Nat → Prop) : Array Value → State → Outcome → State → Prop := fun _ st oc t => ∃ (v : Option Value) (f' : rl_M) (z' ds : Nat), oc = .returned v ∧ post v f' z' ds ∧ (t.heap.size = z' ∧ ∀ (a : Nat) (e : va_E), f' a = some e → A a ∧ va_at D rl_cl (a, e) t.heap) ∧ va_F A st t ∧ rl_hs t.heap ≤ rl_hs st.heap + ds
def rl_Met (l : Launch) (y : MethodName) (cw : Cond) (rm : Room) (D : va_G) (t : Nat → ClassId) (A : Nat → Prop) (f : rl_M) (z : Nat) (av : List Value) (post : Option Value → rl_M → Nat → Nat → Prop) : Prop :=
  Met l y (cw :: rl_G) rm (rl_P D t A f z av) (rl_Q D A post) rm.cells rm.slots A
def rl_C (p : Program) (m : MethodId) (c : Code) (cc : ByteArray) (nL : Nat) (s : State) (args : Array Value) (own : String) (cw : Cond) (D : va_G) (t : Nat → ClassId) (A : Nat → Prop) : Prop :=
  p.tables.exec = Jvm.exec ∧ c.code = cc ∧ c.maxLocals = nL ∧ s.vm.findClass own = some m.cls ∧ (∀ w ∈ cw :: rl_G, w.before args s = true) ∧ rl_K D t s ∧ ∀ q, s.heap.size ≤ q → A q
def rl_pi (P : Int32 → rl_M → Nat → Nat → Prop) : Option Value → rl_M → Nat → Nat → Prop := fun v f z ds => ∃ r : Int32, v = some (.int r) ∧ P r f z ds
def rl_pl (P : Int64 → rl_M → Nat → Nat → Prop) : Option Value → rl_M → Nat → Nat → Prop := fun v f z ds => ∃ r : Int64, v = some (.long r) ∧ P r f z ds
def rl_pq (P : Option Nat → rl_M → Nat → Nat → Prop) : Option Value → rl_M → Nat → Nat → Prop := fun v f z ds => ∃ r : Option Nat, v = some (va_rf r) ∧ P r f z ds
def rl_pv (P : rl_M → Nat → Nat → Prop) : Option Value → rl_M → Nat → Nat → Prop := fun v f z ds => v = none ∧ P f z ds
theorem rl_start {l : Launch} {y : MethodName} {bytes : ByteArray} {maxL : Nat} {ret : Option FieldType} {rm : Room} {D : va_G} {t : Nat → ClassId} {A : Nat → Prop} {f : rl_M} {z : Nat} {av : List Value} {post : Option Value → rl_M → Nat → Nat → Prop} {own : String} (hy : plainName y.cls = true) (ho : y.cls = own)
    (body : ∀ (p : Program) (e : Env) (s : State) (m : MethodId) (args : Array Value) (below : List Frame) (meth : Method) (c : Code), rl_C p m c bytes maxL s args own (.code y bytes maxL ret) D t A → meth.sig.returnType = ret → meth.locks = false → meth.name = y.name → rl_W D A f z s.heap s.heap [] → W p l e rm s m args below meth c s.heap [] 0 0 (MQ below (rl_Q D A post) args s rm.cells rm.slots A) (entryFrame m av.toArray maxL)) : rl_Met l y (.code y bytes maxL ret) rm D t A f z av post := by
  refine Met.ofW (cc := bytes) (maxL := maxL) (ret := ret) hy rfl ?_
  intro p e s m args below meth c s₁ B hml hv
  obtain ⟨rfl, hw, hk, hA⟩ := hv
  subst ho
  exact body p e s m _ below meth c ⟨B.exec, B.bytes, hml, findClass_of_methodNamed B.named, atoms_spec (ws := .code y bytes maxL ret :: rl_G) B.pre, hk, hA⟩ B.returns B.notSynchronized (name_of_methodNamed B.named B.method).1 ⟨hw.1, hw.2, va_S.rf⟩
section RLX
variable {p : Program} {l : Launch} {e : Env} {R : Room} {s : State} {m : MethodId} {args : Array Value} {below : List Frame} {meth : Method} {c : Code} {H : Heap} {locs : List Loc} {cells slots : Nat} {Q : State → Prop}
variable {cc : ByteArray} {nL pc : Nat} {ls : Array Slot} {rest : List Value} {D : va_G} {t : Nat → ClassId} {A : Nat → Prop} {a z : Nat} {f : rl_M} {own : String} {cw : Cond}
theorem rl_reset {g : JFrame} {k n : Nat} (h1 : H.size ≤ s.heap.size + k) (h2 : rl_hs H ≤ rl_hs s.heap + n) (kk : W p l e R s m args below meth c H locs k n Q g) : W p l e R s m args below meth c H locs cells slots Q g := by
  intro T hT X
  refine kk T hT { X with same := ?_ }
  have hh : rl_hs T.heap = rl_hs s.heap + ((T.heap.toList.drop s.heap.size).map (·.slots.size)).sum := rl_hs_same (T := T.setVm s.vm) X.same
  obtain ⟨a1, a2, a3, a4, a5, a6⟩ := X.same
  refine ⟨a1, a2, ?_, a4, ?_, a6⟩
  · show T.heap.size ≤ _
    rw [hT]; exact h1
  · show ((T.heap.toList.drop s.heap.size).map (·.slots.size)).sum ≤ n
    rw [hT] at hh ⊢
    omega
theorem rl_know {g : JFrame} (kk : H.size ≤ s.heap.size + cells → rl_hs H ≤ rl_hs s.heap + slots → W p l e R s m args below meth c H locs cells slots Q g) : W p l e R s m args below meth c H locs cells slots Q g := by
  intro T hT X
  have hh : rl_hs T.heap = rl_hs s.heap + ((T.heap.toList.drop s.heap.size).map (·.slots.size)).sum := rl_hs_same (T := T.setVm s.vm) X.same
  have h5 : ((T.heap.toList.drop s.heap.size).map (·.slots.size)).sum ≤ slots := X.same.2.2.2.2.1
  have h3 := X.heapSize
  rw [hT] at hh h5 h3
  exact kk h3 (by omega) T hT X
theorem rl_iret {post : Option Value → rl_M → Nat → Nat → Prop} {v : Int32} {mc ms : Nat} (hC : rl_C p m c cc nL s args own cw D t A) (hW : rl_W D A f z s.heap H locs) (hr : meth.sig.returnType = some .int) (hlocks : meth.locks = false) (hc : cells ≤ mc) (hs : slots ≤ ms) (hp : post (some (.int v)) f z slots) (hdg : decode cc pc = .ok (.ireturn, 1)) :
    W p l e R s m args below meth c H locs cells slots (MQ below (rl_Q D A post) args s mc ms A) (F0 m pc ls [.int v]) := by
  refine rl_know fun g1 g2 => ?_
  refine W.widen hc hs ?_
  exact W.iret hC.1 hC.2.1 hr (fun t ht _ => ⟨_, f, z, slots, rfl, hp, ⟨by rw [ht]; exact hW.1, fun b x hx => by rw [ht]; exact hW.2.1 b x hx⟩, hW.2.2.F ht, by rw [ht]; exact g2⟩) hW.2.2.2.2 hdg hlocks
theorem rl_zret {post : Option Value → rl_M → Nat → Nat → Prop} {v : Int32} {mc ms : Nat} (hC : rl_C p m c cc nL s args own cw D t A) (hW : rl_W D A f z s.heap H locs) (hr : meth.sig.returnType = some .boolean) (hlocks : meth.locks = false) (hn : narrow .boolean (.int v) = .int v) (hc : cells ≤ mc) (hs : slots ≤ ms) (hp : post (some (.int v)) f z slots) (hdg : decode cc pc = .ok (.ireturn, 1)) :
    W p l e R s m args below meth c H locs cells slots (MQ below (rl_Q D A post) args s mc ms A) (F0 m pc ls [.int v]) := by
  refine rl_know fun g1 g2 => ?_
  refine W.widen hc hs ?_
  exact W.zret hC.1 hC.2.1 hr hn (fun t ht _ => ⟨_, f, z, slots, rfl, hp, ⟨by rw [ht]; exact hW.1, fun b x hx => by rw [ht]; exact hW.2.1 b x hx⟩, hW.2.2.F ht, by rw [ht]; exact g2⟩) hW.2.2.2.2 hdg hlocks
theorem rl_lret {post : Option Value → rl_M → Nat → Nat → Prop} {v : Int64} {mc ms : Nat} (hC : rl_C p m c cc nL s args own cw D t A) (hW : rl_W D A f z s.heap H locs) (hr : meth.sig.returnType = some .long) (hlocks : meth.locks = false) (hc : cells ≤ mc) (hs : slots ≤ ms) (hp : post (some (.long v)) f z slots) (hdg : decode cc pc = .ok (.lreturn, 1)) :
    W p l e R s m args below meth c H locs cells slots (MQ below (rl_Q D A post) args s mc ms A) (F0 m pc ls [.long v]) := by
  refine rl_know fun g1 g2 => ?_
  refine W.widen hc hs ?_
  exact W.lret hC.1 hC.2.1 hr (fun t ht _ => ⟨_, f, z, slots, rfl, hp, ⟨by rw [ht]; exact hW.1, fun b x hx => by rw [ht]; exact hW.2.1 b x hx⟩, hW.2.2.F ht, by rw [ht]; exact g2⟩) hW.2.2.2.2 hdg hlocks
theorem rl_vret {post : Option Value → rl_M → Nat → Nat → Prop} {mc ms : Nat} (hC : rl_C p m c cc nL s args own cw D t A) (hW : rl_W D A f z s.heap H locs) (hr : meth.sig.returnType = none) (hlocks : meth.locks = false) (hc : cells ≤ mc) (hs : slots ≤ ms) (hp : post none f z slots) (hdg : decode cc pc = .ok (.return_, 1)) :
    W p l e R s m args below meth c H locs cells slots (MQ below (rl_Q D A post) args s mc ms A) (F0 m pc ls []) := by
  refine rl_know fun g1 g2 => ?_
  refine W.widen hc hs ?_
  exact W.vret hC.1 hC.2.1 hr (fun t ht _ => ⟨_, f, z, slots, rfl, hp, ⟨by rw [ht]; exact hW.1, fun b x hx => by rw [ht]; exact hW.2.1 b x hx⟩, hW.2.2.F ht, by rw [ht]; exact g2⟩) hW.2.2.2.2 hdg hlocks
theorem rl_aret {post : Option Value → rl_M → Nat → Nat → Prop} {v : Option Nat} {mc ms : Nat} {n : String} (hC : rl_C p m c cc nL s args own cw D t A) (hW : rl_W D A f z s.heap H locs) (hr : meth.sig.returnType = some (.object n)) (hlocks : meth.locks = false) (hc : cells ≤ mc) (hs : slots ≤ ms) (hp : post (some (va_rf v)) f z slots) (hdg : decode cc pc = .ok (.areturn, 1)) :
    W p l e R s m args below meth c H locs cells slots (MQ below (rl_Q D A post) args s mc ms A) (F0 m pc ls [va_rf v]) := by
  refine rl_know fun g1 g2 => ?_
  refine W.widen hc hs ?_
  exact W.aret hC.1 hC.2.1 hr (Or.inl ⟨_, rfl⟩) (va_rf_or v) (fun t ht _ => ⟨_, f, z, slots, rfl, hp, ⟨by rw [ht]; exact hW.1, fun b x hx => by rw [ht]; exact hW.2.1 b x hx⟩, hW.2.2.F ht, by rw [ht]; exact g2⟩) hW.2.2.2.2 hdg hlocks
/-- a call, whatever its answer -/
theorem rl_call {mc ms : Nat} {post : Option Value → rl_M → Nat → Nat → Prop} {av : Array Value} {st0 : List Value} (hr : va_Run p l e R s m args below meth c H locs cells slots mc ms (F0 m pc ls st0) rest (rl_Q D A post av) A) (hW : rl_W D A f z s.heap H locs)
    (kk : ∀ (v : Option Value) (f' : rl_M) (z' ds : Nat) (H1 : Heap) (locs1 : List Loc), post v f' z' ds → rl_W D A f' z' s.heap H1 locs1 → z ≤ z' → W p l e R s m args below meth c H1 locs1 (cells + (z' - z)) (slots + ds) Q (F0 m (pc + 3) ls (v.toList ++ rest))) : W p l e R s m args below meth c H locs cells slots Q (F0 m pc ls st0) := by
  intro T hT X
  obtain ⟨v, st₀, t1, T', L, h0, X', hL, e1, e2, ⟨v', f', z', ds, hv, hp, hw, hF, hg⟩, st⟩ := hr T hT X
  cases hv
  have g1 := X.heapSize
  have g2 : rl_hs T.heap = rl_hs s.heap + ((T.heap.toList.drop s.heap.size).map (·.slots.size)).sum := rl_hs_same (T := T.setVm s.vm) X.same
  have g5 : ((T.heap.toList.drop s.heap.size).map (·.slots.size)).sum ≤ slots := X.same.2.2.2.2.1
  rw [hT] at g1 g2 g5
  have hz1 : H.size ≤ t1.heap.size := by have := hF.1; rw [h0] at this; exact this
  have hkq : ∀ q : Nat, q < H.size → ¬ A q → t1.heap[q]? = H[q]? := by have := hF.2; rw [h0] at this; exact this
  rw [h0] at hg
  have hzz : H.size = z := hW.1
  have hw1 := hw.1
  have hS := hW.2.2
  have key := kk v f' z' ds T'.heap (locs ++ L) hp ⟨by rw [e1]; exact hw.1, fun b x hx => by rw [e1]; exact hw.2 b x hx, ⟨by rw [e1]; exact Nat.le_trans hS.1 hz1, fun q h1 h2 => by rw [e1, hkq q (Nat.lt_of_lt_of_le h1 hS.1) h2]; exact hS.2.1 q h1 h2, fun q hq => by
      rcases List.mem_append.mp hq with h | h
      · exact hS.2.2 q h
      · exact hL q h⟩⟩ (by omega)
  obtain ⟨t2, a1, b1⟩ := rl_reset (cells := cells + mc) (slots := slots + ms) (by rw [e1]; omega) (by rw [e1]; omega) key T' rfl X'
  exact ⟨t2, st t2 a1, b1⟩
theorem rl_calli {mc ms : Nat} {P : Int32 → rl_M → Nat → Nat → Prop} {av : Array Value} {st0 : List Value} (hr : va_Run p l e R s m args below meth c H locs cells slots mc ms (F0 m pc ls st0) rest (rl_Q D A (rl_pi P) av) A) (hW : rl_W D A f z s.heap H locs)
    (kk : ∀ (r : Int32) (f' : rl_M) (z' ds : Nat) (H1 : Heap) (locs1 : List Loc), P r f' z' ds → rl_W D A f' z' s.heap H1 locs1 → z ≤ z' → W p l e R s m args below meth c H1 locs1 (cells + (z' - z)) (slots + ds) Q (F0 m (pc + 3) ls (.int r :: rest))) : W p l e R s m args below meth c H locs cells slots Q (F0 m pc ls st0) :=
  rl_call hr hW fun v f' z' ds H1 locs1 hp hw hz => by
    obtain ⟨r, rfl, hp⟩ := hp
    exact kk r f' z' ds H1 locs1 hp hw hz
theorem rl_calll {mc ms : Nat} {P : Int64 → rl_M → Nat → Nat → Prop} {av : Array Value} {st0 : List Value} (hr : va_Run p l e R s m args below meth c H locs cells slots mc ms (F0 m pc ls st0) rest (rl_Q D A (rl_pl P) av) A) (hW : rl_W D A f z s.heap H locs)
    (kk : ∀ (r : Int64) (f' : rl_M) (z' ds : Nat) (H1 : Heap) (locs1 : List Loc), P r f' z' ds → rl_W D A f' z' s.heap H1 locs1 → z ≤ z' → W p l e R s m args below meth c H1 locs1 (cells + (z' - z)) (slots + ds) Q (F0 m (pc + 3) ls (.long r :: rest))) : W p l e R s m args below meth c H locs cells slots Q (F0 m pc ls st0) :=
  rl_call hr hW fun v f' z' ds H1 locs1 hp hw hz => by
    obtain ⟨r, rfl, hp⟩ := hp
    exact kk r f' z' ds H1 locs1 hp hw hz
theorem rl_callq {mc ms : Nat} {P : Option Nat → rl_M → Nat → Nat → Prop} {av : Array Value} {st0 : List Value} (hr : va_Run p l e R s m args below meth c H locs cells slots mc ms (F0 m pc ls st0) rest (rl_Q D A (rl_pq P) av) A) (hW : rl_W D A f z s.heap H locs)
    (kk : ∀ (r : Option Nat) (f' : rl_M) (z' ds : Nat) (H1 : Heap) (locs1 : List Loc), P r f' z' ds → rl_W D A f' z' s.heap H1 locs1 → z ≤ z' → W p l e R s m args below meth c H1 locs1 (cells + (z' - z)) (slots + ds) Q (F0 m (pc + 3) ls (va_rf r :: rest))) : W p l e R s m args below meth c H locs cells slots Q (F0 m pc ls st0) :=
  rl_call hr hW fun v f' z' ds H1 locs1 hp hw hz => by
    obtain ⟨r, rfl, hp⟩ := hp
    exact kk r f' z' ds H1 locs1 hp hw hz
theorem rl_callv {mc ms : Nat} {P : rl_M → Nat → Nat → Prop} {av : Array Value} {st0 : List Value} (hr : va_Run p l e R s m args below meth c H locs cells slots mc ms (F0 m pc ls st0) rest (rl_Q D A (rl_pv P) av) A) (hW : rl_W D A f z s.heap H locs)
    (kk : ∀ (f' : rl_M) (z' ds : Nat) (H1 : Heap) (locs1 : List Loc), P f' z' ds → rl_W D A f' z' s.heap H1 locs1 → z ≤ z' → W p l e R s m args below meth c H1 locs1 (cells + (z' - z)) (slots + ds) Q (F0 m (pc + 3) ls rest)) : W p l e R s m args below meth c H locs cells slots Q (F0 m pc ls st0) :=
  rl_call hr hW fun v f' z' ds H1 locs1 hp hw hz => by
    obtain ⟨rfl, hp⟩ := hp
    exact kk f' z' ds H1 locs1 hp hw hz
end RLX
