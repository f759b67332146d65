def rl_fl (own : String) (index ci k : Nat) : Prop := ∃ (C : String) (T : u_T) (N : Nat), rl_cl[ci]? = some (C, T, N) ∧ k < N ∧ (∀ w ∈ u_ws C T N, w ∈ rl_G) ∧ (Cond.fieldLink own index (T k).1 (T k).2.1 (T k).2.2.1 ∈ rl_G ∨ ∃ host, Cond.fieldLinkNest own index (T k).1 (T k).2.1 (T k).2.2.1 host ∈ lw_tbl)
def rl_fp (own : String) (index ci k : Nat) (ty : FieldType) (fin : Bool) : Prop := ∃ (C : String) (T : u_T) (N : Nat) (ty0 : Nat → FieldType), rl_cl[ci]? = some (C, T, N) ∧ k < N ∧ (∀ w ∈ u_ws C T N, w ∈ rl_G) ∧ (∀ j, j < N → parseFieldDescriptor (T j).2.2.1 = some (ty0 j)) ∧ (∀ a, a < N → ∀ b, b < N → a ≠ b → (T a).2.1 ≠ (T b).2.1) ∧ (T k).2.2.2 = fin ∧ parseFieldDescriptor (T k).2.2.1 = some ty ∧ (fin = true → (T k).1 = own) ∧ (Cond.fieldLink own index (T k).1 (T k).2.1 (T k).2.2.1 ∈ rl_G ∨ (fin = false ∧ ∃ host, Cond.fieldLinkNest own index (T k).1 (T k).2.1 (T k).2.2.1 host ∈ lw_tbl))
def rl_cn (own : String) (index ci N : Nat) (fs : List Value) : Prop := ∃ (C : String) (T : u_T) (ty : Nat → FieldType), rl_cl[ci]? = some (C, T, N) ∧ (∀ w ∈ u_ws C T N, w ∈ rl_G) ∧ (∀ j, j < N → parseFieldDescriptor (T j).2.2.1 = some (ty j)) ∧ Cond.classLink own index C ∈ rl_G ∧ Cond.instantiable C N ∈ rl_G ∧ Cond.initialized C ∈ rl_G ∧ ∀ j, j < N → defaultValue (ty j) = vp_V fs j
def rl_cs (own : String) (index : Nat) (y : MethodName) (bytes : ByteArray) (maxL : Nat) (ret : Option FieldType) (n : Nat) : Prop := (Cond.methodLink own index y ∈ rl_G ∨ ∃ host, Cond.methodLinkNest own index y host ∈ lw_tbl) ∧ Cond.code y bytes maxL ret ∈ rl_G ∧ Cond.initialized y.cls ∈ rl_G ∧ (y.cls ≠ "java/lang/invoke/MethodHandle" ∧ y.cls ≠ "java/lang/invoke/VarHandle" ∧ (parseMethodDescriptor y.desc).map (fun d => d.parameters.length) = some n)
def rl_cu (own : String) (index : Nat) (C owner : String) (x y : MethodName) (bytes : ByteArray) (maxL : Nat) (ret : Option FieldType) (n : Nat) : Prop := Cond.methodLink own index x ∈ rl_G ∧ Cond.sameMethod x.cls owner x.name x.desc ∈ rl_G ∧ Cond.selects C x y ∈ rl_G ∧ Cond.instanceMethod y ∈ rl_G ∧ Cond.initialized y.cls ∈ rl_G ∧ Cond.declares ⟨owner, x.name, x.desc⟩ ∈ lw_tbl ∧ Cond.code y bytes maxL ret ∈ rl_G ∧ (owner ≠ "java/lang/invoke/MethodHandle" ∧ owner ≠ "java/lang/invoke/VarHandle" ∧ (parseMethodDescriptor x.desc).map (fun d => d.parameters.length) = some n)
section RLY
variable {p : Program} {l : Launch} {e : Env} {R : Room} {s : State} {m : MethodId} {args : Array Value} {below : List Frame} {meth : Method} {c : Code} {H : Heap} {locs : List Loc} {cells slots : Nat} {Q : State → Prop}
variable {cc : ByteArray} {nL pc : Nat} {ls : Array Slot} {rest : List Value} {D : va_G} {t : Nat → ClassId} {A : Nat → Prop} {a z : Nat} {f : rl_M} {own : String} {cw : Cond}
theorem rl_get {index ci k : Nat} {fs : List Value} {v : Value} (hC : rl_C p m c cc nL s args own cw D t A) (hW : rl_W D A f z s.heap H locs) (hF : rl_fl own index ci k) (he : f a = some (.inr (ci, fs))) (hv : fs[k]? = some v) (hdg : decode cc pc = .ok (.getfield index, 3))
    (kk : W p l e R s m args below meth c H locs cells slots Q (F0 m (pc + 3) ls (v :: rest))) : W p l e R s m args below meth c H locs cells slots Q (F0 m pc ls (.ref a :: rest)) := by
  obtain ⟨C, T, N, hc, hk, hin, hl⟩ := hF
  obtain ⟨hx, hb, hml, hown, hts, hK, hA⟩ := hC
  rcases hl with hl | ⟨host, hl⟩
  · exact va_get hx hb hts (fun w h => List.mem_cons_of_mem _ (hin w h)) hown hK.1 (hW.one he) 0 rfl hc k hk (hts _ (List.mem_cons_of_mem _ hl)) (fun _ h => h) hv hdg kk
  · exact va_getN hx hb hts (fun w h => List.mem_cons_of_mem _ (hin w h)) hown hK.1 (hW.one he) 0 rfl hc k hk (va_Nw.use rfl (hK.2.1 _ hl rfl)) (fun _ h => h) hv hdg kk
theorem rl_put {index ci k : Nat} {fs : List Value} {v : Value} {ty : FieldType} (hC : rl_C p m c cc nL s args own cw D t A) (hW : rl_W D A f z s.heap H locs) (hF : rl_fp own index ci k ty false) (he : f a = some (.inr (ci, fs))) (hl : k < fs.length) (hn : narrow ty v = v) (hfit : fits ty v = true) (hdg : decode cc pc = .ok (.putfield index, 3))
    (kk : ∀ (H1 : Heap) (locs1 : List Loc), rl_W D A (rl_up f a (.inr (ci, fs.set k v))) z s.heap H1 locs1 → W p l e R s m args below meth c H1 locs1 cells slots Q (F0 m (pc + 3) ls rest)) : W p l e R s m args below meth c H locs cells slots Q (F0 m pc ls (v :: .ref a :: rest)) := by
  obtain ⟨C, T, N, ty0, hc, hk, hin, hty, hnm, hfin, hd, -, hli⟩ := hF
  obtain ⟨hx, hb, hml, hown, hts, hK, hA⟩ := hC
  have hin' : ∀ w ∈ u_ws C T N, w ∈ cw :: rl_G := fun w h => List.mem_cons_of_mem _ (hin w h)
  have hap := va_apart (own := own) hts hin' ty0 hty hnm hK.1 hc
  obtain ⟨r, h1, cell, q1, q2, q3, q4⟩ := (hW.2.1 a _ he).2
  have hr : r = (C, T, N) := Option.some.inj (h1.symm.trans hc)
  subst hr
  obtain ⟨hS, hfc, kC, hkC, hkind⟩ := hK.1.1 ci _ hc
  obtain ⟨cf, kf, fi, fd, hi, hsl⟩ := hS k hk
  have hlay := hts _ (hin' _ (u_in_lay hk))
  unfold u_lay at hlay
  rw [if_neg (by rw [hfin]; decide)] at hlay
  have hst := (u_facts hfc hkC (u_lays hts hin' hk) hi).1
  have h6 := u_store hfc hkC hkind hlay hi hd hn hfit
  have fin : ∀ H' : Heap, H'[a]? = some (cell.setSlot fd.slot v) → H'.size = H.size → (∀ q, q ≠ a → H'[q]? = H[q]?) → W p l e R s m args below meth c H' (locs ++ [⟨a, fd.slot⟩]) cells slots Q (F0 m (pc + 3) ls rest) := by
    intro H' e1 e2 e3
    rw [hsl] at e1
    exact kk H' _ (hW.put he ⟨_, hc, t_OB.to (V := updV (vp_V fs) k v) ⟨_, e1, q2, q3, t_set q4 hap hk v⟩ (fun j _ => vp_updV_set hl v j)⟩ e2 e3)
  rcases hli with hl | ⟨-, host, hl⟩
  · exact W.putK hx hb (f := fd) ⟨hown, hts _ (List.mem_cons_of_mem _ hl), ⟨_, _, _, hi⟩, hst⟩ (by rw [q2]; exact h6) q1 q3 (by rw [hsl]; exact k2_hasslot (q4 k hk)) rfl rfl hdg fin
  · exact va_WputK hx hb (f := fd) hown (va_Nw.use rfl (hK.2.1 _ hl rfl)) hi hst (by rw [q2]; exact h6) q1 q3 (by rw [hsl]; exact k2_hasslot (q4 k hk)) rfl rfl hdg fin
theorem rl_putF {index ci k : Nat} {fs : List Value} {v : Value} {ty : FieldType} (hC : rl_C p m c cc nL s args own cw D t A) (hW : rl_W D A f z s.heap H locs) (hF : rl_fp own index ci k ty true) (hin2 : meth.name = "<init>") (he : f a = some (.inr (ci, fs))) (hl : k < fs.length) (hn : narrow ty v = v) (hfit : fits ty v = true) (hdg : decode cc pc = .ok (.putfield index, 3))
    (kk : ∀ (H1 : Heap) (locs1 : List Loc), rl_W D A (rl_up f a (.inr (ci, fs.set k v))) z s.heap H1 locs1 → W p l e R s m args below meth c H1 locs1 cells slots Q (F0 m (pc + 3) ls rest)) : W p l e R s m args below meth c H locs cells slots Q (F0 m pc ls (v :: .ref a :: rest)) := by
  obtain ⟨C, T, N, ty0, hc, hk, hin, hty, hnm, hfin, hd, hdecl, hli⟩ := hF
  have hdecl := hdecl rfl
  obtain ⟨hx, hb, hml, hown, hts, hK, hA⟩ := hC
  have hin' : ∀ w ∈ u_ws C T N, w ∈ cw :: rl_G := fun w h => List.mem_cons_of_mem _ (hin w h)
  have hap := va_apart (own := own) hts hin' ty0 hty hnm hK.1 hc
  obtain ⟨r, h1, cell, q1, q2, q3, q4⟩ := (hW.2.1 a _ he).2
  have hr : r = (C, T, N) := Option.some.inj (h1.symm.trans hc)
  subst hr
  obtain ⟨hS, hfc, kC, hkC, hkind⟩ := hK.1.1 ci _ hc
  obtain ⟨cf, kf, fi, fd, hi, hsl⟩ := hS k hk
  have hlay := hts _ (hin' _ (u_in_lay hk))
  unfold u_lay at hlay
  rw [if_pos hfin] at hlay
  have hst := (u_facts hfc hkC (u_lays hts hin' hk) hi).1
  have hcf : m.cls = cf := by
    obtain ⟨_, _, c', _, _, _, -, -, hf', -, -, -, hown2, -⟩ := Cond.laysFinal_spec hlay
    have e1 : c' = cf := by have := hi.symm.trans hf'; simp at this; exact this.1.symm
    rw [hdecl] at hown2
    rw [← e1]; exact Option.some.inj (hown.symm.trans hown2)
  have h6 := u_fits hfc hkC hkind (Or.inr hlay) hi hd hn hfit
  rcases hli with hl2 | ⟨h9, -⟩
  · refine W.putFinK hx hb hown (hts _ (List.mem_cons_of_mem _ hl2)) hi hst hcf hin2 (by rw [q2]; exact h6) q1 q3 (by rw [hsl]; exact k2_hasslot (q4 k hk)) rfl rfl hdg fun H' e1 e2 e3 => ?_
    rw [hsl] at e1 ⊢
    exact kk H' _ (hW.put he ⟨_, hc, t_OB.to (V := updV (vp_V fs) k v) ⟨_, e1, q2, q3, t_set q4 hap hk v⟩ (fun j _ => vp_updV_set hl v j)⟩ e2 e3)
  · cases h9
theorem rl_iald {n : Nat} {g : Nat → Int32} {i : Int32} (hC : rl_C p m c cc nL s args own cw D t A) (hW : rl_W D A f z s.heap H locs) (he : f a = some (.inl (t 0, n, .inl g))) (hin : vp_in i n) (hdg : decode cc pc = .ok (.iaload, 1))
    (kk : W p l e R s m args below meth c H locs cells slots Q (F0 m (pc + 1) ls (.int (g i.toNatClampNeg) :: rest))) : W p l e R s m args below meth c H locs cells slots Q (F0 m pc ls (.int i :: .ref a :: rest)) :=
  va_iald hC.1 hC.2.1 hC.2.2.2.2.2.1.1 (hW.one he) 0 0 rfl rfl hin hdg kk
theorem rl_lald {n : Nat} {g : Nat → Int64} {i : Int32} (hC : rl_C p m c cc nL s args own cw D t A) (hW : rl_W D A f z s.heap H locs) (he : f a = some (.inl (t 1, n, .inr (.inl g)))) (hin : vp_in i n) (hdg : decode cc pc = .ok (.laload, 1))
    (kk : W p l e R s m args below meth c H locs cells slots Q (F0 m (pc + 1) ls (.long (g i.toNatClampNeg) :: rest))) : W p l e R s m args below meth c H locs cells slots Q (F0 m pc ls (.int i :: .ref a :: rest)) :=
  va_lald hC.1 hC.2.1 hC.2.2.2.2.2.1.1 (hW.one he) 0 1 rfl rfl hin hdg kk
theorem rl_zald {n : Nat} {g : Nat → Int32} {i : Int32} (hC : rl_C p m c cc nL s args own cw D t A) (hW : rl_W D A f z s.heap H locs) (he : f a = some (.inl (t 2, n, .inl g))) (hin : vp_in i n) (hdg : decode cc pc = .ok (.baload, 1))
    (kk : W p l e R s m args below meth c H locs cells slots Q (F0 m (pc + 1) ls (.int (g i.toNatClampNeg) :: rest))) : W p l e R s m args below meth c H locs cells slots Q (F0 m pc ls (.int i :: .ref a :: rest)) :=
  va_zald hC.1 hC.2.1 hC.2.2.2.2.2.1.1 (hW.one he) 0 2 rfl rfl hin hdg kk
theorem rl_aald (j : Nat) {C : String} {n : Nat} {g : Nat → Option Nat} {i : Int32} (hC : rl_C p m c cc nL s args own cw D t A) (hW : rl_W D A f z s.heap H locs) (hj : (rl_tys t)[j]? = some (t j, .object C)) (he : f a = some (.inl (t j, n, .inr (.inr (.inr (.inr g)))))) (hin : vp_in i n) (hdg : decode cc pc = .ok (.aaload, 1))
    (kk : W p l e R s m args below meth c H locs cells slots Q (F0 m (pc + 1) ls (va_rf (g i.toNatClampNeg) :: rest))) : W p l e R s m args below meth c H locs cells slots Q (F0 m pc ls (.int i :: .ref a :: rest)) :=
  va_aldq hC.1 hC.2.1 hC.2.2.2.2.2.1.1 (hW.one he) 0 j rfl hj hin hdg kk
theorem rl_alen (j : Nat) {ty : FieldType} {x : vp_A} {v : Int32} (hC : rl_C p m c cc nL s args own cw D t A) (hW : rl_W D A f z s.heap H locs) (hj : (rl_tys t)[j]? = some (t j, ty)) (he : f a = some (.inl (t j, x))) (hv : Int32.ofNat x.1 = v) (hdg : decode cc pc = .ok (.arraylength, 1))
    (kk : W p l e R s m args below meth c H locs cells slots Q (F0 m (pc + 1) ls (.int v :: rest))) : W p l e R s m args below meth c H locs cells slots Q (F0 m pc ls (.ref a :: rest)) :=
  va_alen hC.1 hC.2.1 hC.2.2.2.2.2.1.1 (hW.one he) 0 j rfl hj hv hdg kk
theorem rl_iast {n : Nat} {g : Nat → Int32} {i x : Int32} (hC : rl_C p m c cc nL s args own cw D t A) (hW : rl_W D A f z s.heap H locs) (he : f a = some (.inl (t 0, n, .inl g))) (hin : vp_in i n) (hdg : decode cc pc = .ok (.iastore, 1))
    (kk : ∀ (H1 : Heap) (locs1 : List Loc), rl_W D A (rl_up f a (.inl (t 0, n, .inl (upd g i.toNatClampNeg x)))) z s.heap H1 locs1 → W p l e R s m args below meth c H1 locs1 cells slots Q (F0 m (pc + 1) ls rest)) : W p l e R s m args below meth c H locs cells slots Q (F0 m pc ls (.int x :: .int i :: .ref a :: rest)) := by
  obtain ⟨hx, hb, hml, hown, hts, hK, hA⟩ := hC
  refine W.iast hx hb (hW.2.1 a _ he).2 ((hK.1.2 0 _ rfl).1 n (fun j => .int (g j))) (fun q => by cases q) (by show ¬ (i < 0 ∨ (arrV _ _ _).slots.size ≤ _); rw [arrV_size]; exact hin) rfl rfl hdg fun H1 e1 z1 oq => ?_
  refine kk H1 _ (hW.put he ?_ z1 oq)
  show H1[a]? = some (vp_cell _ _)
  rw [e1]
  rw [vp_cell_i, vp_cell_i, arrV_store]
  congr 2
  funext q
  by_cases hq : q = i.toNatClampNeg
  · subst hq
    simp [updV, upd]
  · simp [updV, upd, hq]
theorem rl_last {n : Nat} {g : Nat → Int64} {i : Int32} {x : Int64} (hC : rl_C p m c cc nL s args own cw D t A) (hW : rl_W D A f z s.heap H locs) (he : f a = some (.inl (t 1, n, .inr (.inl g)))) (hin : vp_in i n) (hdg : decode cc pc = .ok (.lastore, 1))
    (kk : ∀ (H1 : Heap) (locs1 : List Loc), rl_W D A (rl_up f a (.inl (t 1, n, .inr (.inl (vp_updL g i.toNatClampNeg x))))) z s.heap H1 locs1 → W p l e R s m args below meth c H1 locs1 cells slots Q (F0 m (pc + 1) ls rest)) : W p l e R s m args below meth c H locs cells slots Q (F0 m pc ls (.long x :: .int i :: .ref a :: rest)) := by
  obtain ⟨hx, hb, hml, hown, hts, hK, hA⟩ := hC
  refine W.last hx hb (hW.2.1 a _ he).2 ((hK.1.2 1 _ rfl).1 n (fun j => .long (g j))) (fun q => by cases q) (by show ¬ (i < 0 ∨ (arrV _ _ _).slots.size ≤ _); rw [arrV_size]; exact hin) rfl rfl hdg fun H1 e1 z1 oq => ?_
  refine kk H1 _ (hW.put he ?_ z1 oq)
  show H1[a]? = some (vp_cell _ _)
  rw [e1]
  rw [vp_cell_l, vp_cell_l, arrV_store]
  congr 2
  funext q
  by_cases hq : q = i.toNatClampNeg
  · subst hq
    simp [updV, vp_updL]
  · simp [updV, vp_updL, hq]
theorem rl_zast {n : Nat} {g : Nat → Int32} {i x : Int32} (hC : rl_C p m c cc nL s args own cw D t A) (hW : rl_W D A f z s.heap H locs) (he : f a = some (.inl (t 2, n, .inl g))) (hin : vp_in i n) (hdg : decode cc pc = .ok (.bastore, 1))
    (kk : ∀ (H1 : Heap) (locs1 : List Loc), rl_W D A (rl_up f a (.inl (t 2, n, .inl (upd g i.toNatClampNeg (vp_nar .boolean x))))) z s.heap H1 locs1 → W p l e R s m args below meth c H1 locs1 cells slots Q (F0 m (pc + 1) ls rest)) : W p l e R s m args below meth c H locs cells slots Q (F0 m pc ls (.int x :: .int i :: .ref a :: rest)) := by
  obtain ⟨hx, hb, hml, hown, hts, hK, hA⟩ := hC
  refine W.zast hx hb (hW.2.1 a _ he).2 ((hK.1.2 2 _ rfl).1 n (fun j => .int (g j))) (fun q => by cases q) (by show ¬ (i < 0 ∨ (arrV _ _ _).slots.size ≤ _); rw [arrV_size]; exact hin) rfl rfl hdg fun H1 e1 z1 oq => ?_
  refine kk H1 _ (hW.put he ?_ z1 oq)
  show H1[a]? = some (vp_cell _ _)
  rw [e1]
  rw [vp_cell_i, vp_cell_i, arrV_store]
  congr 2
  funext q
  by_cases hq : q = i.toNatClampNeg
  · subst hq
    simp [updV, upd, vp_nar]
    try rfl
  · simp [updV, upd, hq]
theorem rl_aastN (j : Nat) {C : String} {n : Nat} {g : Nat → Option Nat} {i : Int32} (hC : rl_C p m c cc nL s args own cw D t A) (hW : rl_W D A f z s.heap H locs) (hj : (rl_tys t)[j]? = some (t j, .object C)) (he : f a = some (.inl (t j, n, .inr (.inr (.inr (.inr g)))))) (hin : vp_in i n) (hdg : decode cc pc = .ok (.aastore, 1))
    (kk : ∀ (H1 : Heap) (locs1 : List Loc), rl_W D A (rl_up f a (.inl (t j, n, .inr (.inr (.inr (.inr (va_up g i.toNatClampNeg none))))))) z s.heap H1 locs1 → W p l e R s m args below meth c H1 locs1 cells slots Q (F0 m (pc + 1) ls rest)) : W p l e R s m args below meth c H locs cells slots Q (F0 m pc ls (.null :: .int i :: .ref a :: rest)) := by
  obtain ⟨hx, hb, hml, hown, hts, hK, hA⟩ := hC
  refine va_WaastN (C := C) hx hb (hW.2.1 a _ he).2 ((hK.1.2 j _ hj).1 n (fun j => va_rf (g j))) (fun h => by cases h) (by show ¬ (i < 0 ∨ (arrV _ _ _).slots.size ≤ _); rw [arrV_size]; exact hin) rfl rfl hdg fun H1 e1 z1 oq => ?_
  refine kk H1 _ (hW.put he ?_ z1 oq)
  show H1[a]? = some (vp_cell _ _)
  rw [e1]
  rw [vp_cell_q, vp_cell_q, arrV_store]
  congr 2
  funext q
  by_cases hq : q = i.toNatClampNeg
  · subst hq
    simp [updV, va_up, va_rf]
  · simp [updV, va_up, hq]
theorem rl_aast (j : Nat) {E : String} {n v ci : Nat} {vs : List Value} {r : vw_C} {g : Nat → Option Nat} {i : Int32} (hC : rl_C p m c cc nL s args own cw D t A) (hW : rl_W D A f z s.heap H locs) (hj : (rl_tys t)[j]? = some (t j, .object E)) (he : f a = some (.inl (t j, n, .inr (.inr (.inr (.inr g)))))) (hv : f v = some (.inr (ci, vs))) (hc : rl_cl[ci]? = some r) (hca : r.1 = E ∨ Cond.castable r.1 E ∈ lw_tbl) (hin : vp_in i n) (hdg : decode cc pc = .ok (.aastore, 1))
    (kk : ∀ (H1 : Heap) (locs1 : List Loc), rl_W D A (rl_up f a (.inl (t j, n, .inr (.inr (.inr (.inr (va_up g i.toNatClampNeg (some v)))))))) z s.heap H1 locs1 → W p l e R s m args below meth c H1 locs1 cells slots Q (F0 m (pc + 1) ls rest)) : W p l e R s m args below meth c H locs cells slots Q (F0 m pc ls (.ref v :: .int i :: .ref a :: rest)) := by
  obtain ⟨hx, hb, hml, hown, hts, hK, hA⟩ := hC
  have hlt : i.toNatClampNeg < n := Nat.not_le.mp fun q => hin (Or.inr q)
  have h0 : ¬ i < 0 := fun q => hin (Or.inl q)
  obtain ⟨r', hr', cellV, g1, g2, g3, -⟩ := (hW.2.1 v _ hv).2
  have hcls := (hK.1.1 ci r hc).2
  obtain ⟨kA, comp, k1, k2, k3, -⟩ := (hK.1.2 j _ hj).2
  obtain ⟨kE, hkE, -⟩ := Vm.findClass_spec k3
  obtain ⟨kC, hkC, -⟩ := id hcls.2
  have hasg : s.vm.assignable (D.1 ci) comp = true := by
    rcases hca with hca | hca
    · have hcomp : comp = D.1 ci := Option.some.inj (k3.symm.trans (by rw [← hca]; exact hcls.1))
      rw [hcomp]; exact va_assign hcls
    · obtain ⟨c0, t1, f1, f2, f3⟩ := Cond.castable_spec (va_Nw.use (A := args) rfl (hK.2.1 _ hca rfl))
      cases hcls.1.symm.trans f1
      cases k3.symm.trans f2
      exact f3
  refine W.aast hx hb (hW.2.1 a _ he).2 (fun q h => by cases h) (fun h => by cases h) k1 k2 rfl hkE ⟨h0, by show _ < (arrV _ _ _).slots.size; rw [arrV_size]; exact hlt⟩ g1 (fun q h => by rw [g3] at h; cases h) (by rw [g2]; exact hkC) (by rw [g2]; exact hasg) rfl rfl hdg fun H1 e1 z1 oq => ?_
  refine kk H1 _ (hW.put he ?_ z1 oq)
  show H1[a]? = some (vp_cell _ _)
  rw [e1]
  rw [vp_cell_q, vp_cell_q, arrV_store]
  congr 2
  funext q
  by_cases hq : q = i.toNatClampNeg
  · subst hq
    simp [updV, va_up, va_rf]
  · simp [updV, va_up, hq]
theorem rl_new {index ci N : Nat} {fs : List Value} (hC : rl_C p m c cc nL s args own cw D t A) (hW : rl_W D A f z s.heap H locs) (hF : rl_cn own index ci N fs) (hcells : cells + 1 ≤ R.cells) (hslots : slots + N ≤ R.slots) (hdg : decode cc pc = .ok (.new index, 3))
    (kk : ∀ H1 : Heap, rl_W D A (rl_up f z (.inr (ci, fs))) (z + 1) s.heap H1 locs → W p l e R s m args below meth c H1 locs (cells + 1) (slots + N) Q (F0 m (pc + 3) ls (.ref z :: rest))) : W p l e R s m args below meth c H locs cells slots Q (F0 m pc ls rest) := by
  obtain ⟨C, T, ty, hc, hin, hty, hcl, hinst, hini, hfs⟩ := hF
  obtain ⟨hx, hb, hml, hown, hts, hK, hA⟩ := hC
  have hKn := hK.1.1 ci _ hc
  refine W.newcK hx hb hown (hts _ (List.mem_cons_of_mem _ hcl)) (hts _ (List.mem_cons_of_mem _ hinst)) (hts _ (List.mem_cons_of_mem _ hini)) rfl hdg hcells hslots hKn.2.1 hW.1 fun H1 kC hkC e1 z1 o1 => ?_
  exact kk H1 (hW.new hA ⟨_, hc, (u_born ty hts (fun w h => List.mem_cons_of_mem _ (hin w h)) hKn hkC e1 hty).to hfs⟩ z1 o1)
theorem rl_newi {n : Int32} {N' : Nat} (hC : rl_C p m c cc nL s args own cw D t A) (hW : rl_W D A f z s.heap H locs) (hw : Cond.arrayClass .int ∈ rl_G) (hn : ¬ n < 0) (hN : n.toNatClampNeg = N') (hbytes : N' * 4 ≤ 536870912) (hcells : cells + 1 ≤ R.cells) (hslots : slots + N' ≤ R.slots) (hdg : decode cc pc = .ok (.newarray .int, 2))
    (kk : ∀ H1 : Heap, rl_W D A (rl_up f z (.inl (t 0, N', .inl (fun _ => 0)))) (z + 1) s.heap H1 locs → W p l e R s m args below meth c H1 locs (cells + 1) (slots + N') Q (F0 m (pc + 2) ls (.ref z :: rest))) : W p l e R s m args below meth c H locs cells slots Q (F0 m pc ls (.int n :: rest)) := by
  obtain ⟨hx, hb, hml, hown, hts, hK, hA⟩ := hC
  refine va_newaK hx hb (atype := .int) (hts _ (List.mem_cons_of_mem _ hw)) rfl hdg rfl hn hN hbytes hcells hslots hW.1 fun H1 cA e1 z1 o1 hAr hNm => ?_
  have hcA : cA = t 0 := Option.some.inj (hNm.symm.trans (hK.1.2 0 _ rfl).2)
  subst hcA
  exact kk H1 (hW.new hA e1 z1 o1)
theorem rl_newl {n : Int32} {N' : Nat} (hC : rl_C p m c cc nL s args own cw D t A) (hW : rl_W D A f z s.heap H locs) (hw : Cond.arrayClass .long ∈ rl_G) (hn : ¬ n < 0) (hN : n.toNatClampNeg = N') (hbytes : N' * 8 ≤ 536870912) (hcells : cells + 1 ≤ R.cells) (hslots : slots + N' ≤ R.slots) (hdg : decode cc pc = .ok (.newarray .long, 2))
    (kk : ∀ H1 : Heap, rl_W D A (rl_up f z (.inl (t 1, N', .inr (.inl (fun _ => 0))))) (z + 1) s.heap H1 locs → W p l e R s m args below meth c H1 locs (cells + 1) (slots + N') Q (F0 m (pc + 2) ls (.ref z :: rest))) : W p l e R s m args below meth c H locs cells slots Q (F0 m pc ls (.int n :: rest)) := by
  obtain ⟨hx, hb, hml, hown, hts, hK, hA⟩ := hC
  refine va_newaK hx hb (atype := .long) (hts _ (List.mem_cons_of_mem _ hw)) rfl hdg rfl hn hN hbytes hcells hslots hW.1 fun H1 cA e1 z1 o1 hAr hNm => ?_
  have hcA : cA = t 1 := Option.some.inj (hNm.symm.trans (hK.1.2 1 _ rfl).2)
  subst hcA
  exact kk H1 (hW.new hA e1 z1 o1)
theorem rl_newz {n : Int32} {N' : Nat} (hC : rl_C p m c cc nL s args own cw D t A) (hW : rl_W D A f z s.heap H locs) (hw : Cond.arrayClass .boolean ∈ rl_G) (hn : ¬ n < 0) (hN : n.toNatClampNeg = N') (hbytes : N' * 1 ≤ 536870912) (hcells : cells + 1 ≤ R.cells) (hslots : slots + N' ≤ R.slots) (hdg : decode cc pc = .ok (.newarray .boolean, 2))
    (kk : ∀ H1 : Heap, rl_W D A (rl_up f z (.inl (t 2, N', .inl (fun _ => 0)))) (z + 1) s.heap H1 locs → W p l e R s m args below meth c H1 locs (cells + 1) (slots + N') Q (F0 m (pc + 2) ls (.ref z :: rest))) : W p l e R s m args below meth c H locs cells slots Q (F0 m pc ls (.int n :: rest)) := by
  obtain ⟨hx, hb, hml, hown, hts, hK, hA⟩ := hC
  refine va_newaK hx hb (atype := .boolean) (hts _ (List.mem_cons_of_mem _ hw)) rfl hdg rfl hn hN hbytes hcells hslots hW.1 fun H1 cA e1 z1 o1 hAr hNm => ?_
  have hcA : cA = t 2 := Option.some.inj (hNm.symm.trans (hK.1.2 2 _ rfl).2)
  subst hcA
  exact kk H1 (hW.new hA e1 z1 o1)
theorem rl_newq (j : Nat) {C : String} {index : Nat} {n : Int32} {N' : Nat} (hC : rl_C p m c cc nL s args own cw D t A) (hW : rl_W D A f z s.heap H locs) (hj : (rl_tys t)[j]? = some (t j, .object C)) (hclink : Cond.classLink own index C ∈ rl_G) (hover : Cond.arrayOver (.object C) ∈ lw_tbl) (hn : ¬ n < 0) (hN : n.toNatClampNeg = N') (hbytes : N' * 4 ≤ 536870912) (hcells : cells + 1 ≤ R.cells) (hslots : slots + N' ≤ R.slots) (hdg : decode cc pc = .ok (.anewarray index, 3))
    (kk : ∀ H1 : Heap, rl_W D A (rl_up f z (.inl (t j, N', .inr (.inr (.inr (.inr (fun _ => none))))))) (z + 1) s.heap H1 locs → W p l e R s m args below meth c H1 locs (cells + 1) (slots + N') Q (F0 m (pc + 3) ls (.ref z :: rest))) : W p l e R s m args below meth c H locs cells slots Q (F0 m pc ls (.int n :: rest)) := by
  obtain ⟨hx, hb, hml, hown, hts, hK, hA⟩ := hC
  subst hN
  refine W.anew hx hb hown (hts _ (List.mem_cons_of_mem _ hclink)) (va_AO.use (hK.2.2.2 C hover)) rfl hdg rfl hn hbytes hcells hslots fun cA kA comp f1 f2 f3 f4 => ?_
  obtain ⟨kA', comp', -, -, -, k4⟩ := (hK.1.2 j _ hj).2
  have hcA : cA = t j := Option.some.inj (f1.symm.trans k4)
  subst hcA
  have hz : H.size = z := hW.1
  subst hz
  generalize hH1 : H.push ({ cls := t j, slots := Array.replicate n.toNatClampNeg .null, vm := .none } : Cell) = H1
  have z1 : H1.size = H.size + 1 := by rw [← hH1, Array.size_push]
  have e1 : H1[H.size]? = some (arrV (t j) n.toNatClampNeg (fun _ => .null)) := by rw [← hH1, Array.getElem?_push_size, ← arrV_new]
  have o1 : ∀ q : Nat, q < H.size → H1[q]? = H[q]? := fun q hq => by rw [← hH1, Array.getElem?_push, if_neg (Nat.ne_of_lt hq)]
  exact kk H1 (hW.new hA e1 z1 o1)
theorem rl_recv {b ci : Nat} {fs : List Value} {r : vw_C} (hC : rl_C p m c cc nL s args own cw D t A) (hW : rl_W D A f z s.heap H locs) (he : f b = some (.inr (ci, fs))) (hc : rl_cl[ci]? = some r) : ∃ cell : Cell, H[b]? = some cell ∧ cell.vm.isStatics = false ∧ s.vm.findClass r.1 = some cell.cls :=
  va_recv hC.2.2.2.2.2.1.1 (hW.one he) hc (q0 := 0) rfl
theorem rl_blind {f : rl_M} {z : Nat} {av : List Value} : FrameBlind (rl_P D t A f z av) := fun a U g mk h => ⟨h.1, h.2.1, rl_K.same (s := U) (U := U.calling g mk a) rfl h.2.2.1, h.2.2.2⟩
theorem rl_pre {av : List Value} (hC : rl_C p m c cc nL s args own cw D t A) (hW : rl_W D A f z s.heap H locs) (U : State) (hU : U.heap = H) (hWm : s.WarmedH U.vm) : rl_P D t A f z av av.toArray U :=
  ⟨rfl, ⟨by rw [hU]; exact hW.1, fun b x hx => by rw [hU]; exact hW.2.1 b x hx⟩, hC.2.2.2.2.2.1.warm hWm, fun q hq => hC.2.2.2.2.2.2 q (Nat.le_trans hW.2.2.1 (by rw [← hU]; exact hq))⟩
theorem rl_runV {y : MethodName} {bytes : ByteArray} {maxL n index b ci N : Nat} {ret : Option FieldType} {rm : Room} {post : Option Value → rl_M → Nat → Nat → Prop} {As st0 fs : List Value} {T : u_T} (hC : rl_C p m c cc nL s args own cw D t A) (hW : rl_W D A f z s.heap H locs) (hM : rl_Met l y (.code y bytes maxL ret) rm D t A f z (.ref b :: As) post) (hs : rl_cs own index y bytes maxL ret n) (hi : Cond.instanceMethod y ∈ rl_G) (hv : Cond.selects y.cls y y ∈ lw_tbl) (he : f b = some (.inr (ci, fs))) (hc : rl_cl[ci]? = some (y.cls, T, N)) (hR : rm.frames + 1 ≤ R.frames ∧ 8 + (maxL + 11) + rm.locals ≤ R.locals) (hn : As.length = n) (hl : ls.size = nL) (hst : st0 = As.reverse ++ .ref b :: rest) (hcat : (rest.map fun v => v.category).sum ≤ 8) (hdg : decode cc pc = .ok (.invokevirtual index, 3)) (hf : cells + rm.cells ≤ R.cells ∧ slots + rm.slots ≤ R.slots) (hsel : goodWord (Cond.selects y.cls y y) = true := by rfl) :
    va_Run p l e R s m args below meth c H locs cells slots rm.cells rm.slots (F0 m pc ls st0) rest (rl_Q D A post (Value.ref b :: As).toArray) A := by
  subst hst
  have hts := hC.2.2.2.2.1
  have hS : CallFix p m c cc nL s args (cw :: rl_G) own := ⟨hC.1, hC.2.1, hC.2.2.1, hC.2.2.2.1, hts⟩
  have g : ∀ {w : Cond}, w ∈ rl_G → w.before args s = true := fun h => hts _ (List.mem_cons_of_mem _ h)
  rcases hs.1 with hl1 | ⟨host, hl1⟩
  · exact va_runV hS hM ⟨callB_of n hts (rl_good hs.2.1) rfl rfl rfl (g hs.2.2.1) (g hl1) hs.2.2.2 hR, g hi, g (rl_inG hv hsel)⟩ ⟨rl_blind, rl_recv hC hW he hc, fun U hU hWm => rl_pre hC hW U hU hWm⟩ rfl hn hl rfl (lv_room hcat) hdg hf
  · exact va_runVN hS hM ⟨va_cnB n hts (rl_good hs.2.1) rfl rfl rfl (hC.2.2.2.2.2.1.2.1 _ hl1 rfl) (g hs.2.2.1) hs.2.2.2 hR, g hi, g (rl_inG hv hsel)⟩ ⟨rl_blind, rl_recv hC hW he hc, fun U hU hWm => rl_pre hC hW U hU hWm⟩ rfl hn hl rfl (lv_room hcat) hdg hf
theorem rl_runS {y : MethodName} {bytes : ByteArray} {maxL n index : Nat} {ret : Option FieldType} {rm : Room} {post : Option Value → rl_M → Nat → Nat → Prop} {As st0 : List Value} (hC : rl_C p m c cc nL s args own cw D t A) (hW : rl_W D A f z s.heap H locs) (hM : rl_Met l y (.code y bytes maxL ret) rm D t A f z As post) (hs : rl_cs own index y bytes maxL ret n) (hi : Cond.static y ∈ rl_G) (hR : rm.frames + 1 ≤ R.frames ∧ 8 + (maxL + 11) + rm.locals ≤ R.locals) (hn : As.length = n) (hl : ls.size = nL) (hst : st0 = As.reverse ++ rest) (hcat : (rest.map fun v => v.category).sum ≤ 8) (hdg : decode cc pc = .ok (.invokestatic index, 3)) (hf : cells + rm.cells ≤ R.cells ∧ slots + rm.slots ≤ R.slots) :
    va_Run p l e R s m args below meth c H locs cells slots rm.cells rm.slots (F0 m pc ls st0) rest (rl_Q D A post As.toArray) A := by
  subst hst
  have hts := hC.2.2.2.2.1
  have hS : CallFix p m c cc nL s args (cw :: rl_G) own := ⟨hC.1, hC.2.1, hC.2.2.1, hC.2.2.2.1, hts⟩
  have g : ∀ {w : Cond}, w ∈ rl_G → w.before args s = true := fun h => hts _ (List.mem_cons_of_mem _ h)
  rcases hs.1 with hl1 | ⟨host, hl1⟩
  · exact va_runS hS hM ⟨callB_of n hts (rl_good hs.2.1) rfl rfl rfl (g hs.2.2.1) (g hl1) hs.2.2.2 hR, g hi⟩ ⟨rl_blind, fun U hU hWm => rl_pre hC hW U hU hWm⟩ rfl hn hl rfl (lv_room hcat) hdg hf
  · exact va_runSN hS hM ⟨va_cnB n hts (rl_good hs.2.1) rfl rfl rfl (hC.2.2.2.2.2.1.2.1 _ hl1 rfl) (g hs.2.2.1) hs.2.2.2 hR, g hi, trivial⟩ ⟨rl_blind, fun U hU hWm => rl_pre hC hW U hU hWm⟩ rfl hn hl rfl (lv_room hcat) hdg hf
theorem rl_runI {y : MethodName} {bytes : ByteArray} {maxL n index b : Nat} {rm : Room} {post : Option Value → rl_M → Nat → Nat → Prop} {As st0 : List Value} (hC : rl_C p m c cc nL s args own cw D t A) (hW : rl_W D A f z s.heap H locs) (hM : rl_Met l y (.code y bytes maxL none) rm D t A f z (.ref b :: As) post) (hs : rl_cs own index y bytes maxL none n) (hi : Cond.instanceMethod y ∈ rl_G) (hy1 : y.name = "<init>") (hR : rm.frames + 1 ≤ R.frames ∧ 8 + (maxL + 11) + rm.locals ≤ R.locals) (hn : As.length = n) (hl : ls.size = nL) (hst : st0 = As.reverse ++ .ref b :: rest) (hcat : (rest.map fun v => v.category).sum ≤ 8) (hdg : decode cc pc = .ok (.invokespecial index, 3)) (hf : cells + rm.cells ≤ R.cells ∧ slots + rm.slots ≤ R.slots) :
    va_Run p l e R s m args below meth c H locs cells slots rm.cells rm.slots (F0 m pc ls st0) rest (rl_Q D A post (Value.ref b :: As).toArray) A := by
  subst hst
  have hts := hC.2.2.2.2.1
  have hS : CallFix p m c cc nL s args (cw :: rl_G) own := ⟨hC.1, hC.2.1, hC.2.2.1, hC.2.2.2.1, hts⟩
  have g : ∀ {w : Cond}, w ∈ rl_G → w.before args s = true := fun h => hts _ (List.mem_cons_of_mem _ h)
  rcases hs.1 with hl1 | ⟨host, hl1⟩
  · exact va_runI hS hM ⟨callB_of n hts (rl_good hs.2.1) rfl rfl rfl (g hs.2.2.1) (g hl1) hs.2.2.2 hR, hy1, g hi⟩ ⟨rl_blind, fun U hU hWm => rl_pre hC hW U hU hWm⟩ rfl hn hl rfl (lv_room hcat) hdg hf
  · exact va_runIN hS hM ⟨va_cnB n hts (rl_good hs.2.1) rfl rfl rfl (hC.2.2.2.2.2.1.2.1 _ hl1 rfl) (g hs.2.2.1) hs.2.2.2 hR, hy1, g hi⟩ ⟨rl_blind, fun U hU hWm => rl_pre hC hW U hU hWm⟩ rfl hn hl rfl (lv_room hcat) hdg hf
theorem rl_runU {x y : MethodName} {C owner : String} {bytes : ByteArray} {maxL n index b ci N : Nat} {ret : Option FieldType} {rm : Room} {post : Option Value → rl_M → Nat → Nat → Prop} {As st0 fs : List Value} {T : u_T} (hC : rl_C p m c cc nL s args own cw D t A) (hW : rl_W D A f z s.heap H locs) (hM : rl_Met l y (.code y bytes maxL ret) rm D t A f z (.ref b :: As) post) (hs : rl_cu own index C owner x y bytes maxL ret n) (he : f b = some (.inr (ci, fs))) (hc : rl_cl[ci]? = some (C, T, N)) (hR : rm.frames + 1 ≤ R.frames ∧ 8 + (maxL + 11) + rm.locals ≤ R.locals) (hn : As.length = n) (hl : ls.size = nL) (hst : st0 = As.reverse ++ .ref b :: rest) (hcat : (rest.map fun v => v.category).sum ≤ 8) (hdg : decode cc pc = .ok (.invokevirtual index, 3)) (hf : cells + rm.cells ≤ R.cells ∧ slots + rm.slots ≤ R.slots) :
    va_Run p l e R s m args below meth c H locs cells slots rm.cells rm.slots (F0 m pc ls st0) rest (rl_Q D A post (Value.ref b :: As).toArray) A := by
  subst hst
  have hts := hC.2.2.2.2.1
  have hS : CallFix p m c cc nL s args (cw :: rl_G) own := ⟨hC.1, hC.2.1, hC.2.2.1, hC.2.2.2.1, hts⟩
  obtain ⟨h1, h2, h3, h4, h5, h6, h7, h8⟩ := hs
  have hG : GoodIn (cw :: rl_G) (va_wsU own index C owner x y (Cond.code y bytes maxL ret :: rl_G)) := by
    intro w hw
    have hin : w ∈ rl_G := by
      simp only [va_wsU, List.cons_append, List.nil_append, List.mem_cons] at hw
      rcases hw with rfl | rfl | rfl | rfl | rfl | rfl | hw
      · exact h1
      · exact h2
      · exact h3
      · exact h4
      · exact h5
      · exact h7
      · exact hw
    exact ⟨List.mem_cons_of_mem _ hin, good_of_word (List.mem_filter.mp hin).2⟩
  exact va_runU hS hM (va_cwA n hts hG rfl rfl rfl (hC.2.2.2.2.2.1.2.1 _ h6 rfl) h8 hR) ⟨rl_blind, rl_recv hC hW he hc, fun U hU hWm => rl_pre hC hW U hU hWm⟩ rfl hn hl rfl (lv_room hcat) hdg hf
theorem rl_objInit {idx a : Nat} (hC : rl_C p m c cc nL s args own cw D t A) (hl1 : Cond.methodLink own idx objectInit ∈ rl_G) (hl2 : Cond.instanceMethod objectInit ∈ rl_G) (hl3 : Cond.code objectInit ⟨#[0xb1]⟩ 1 none ∈ rl_G) (hl : ls.size = nL) (hd : decode cc pc = .ok (.invokespecial idx, 3)) (hframes : 1 ≤ R.frames) (hlocals : (rest.map fun v => v.category).sum + 12 ≤ R.locals)
    (kk : W p l e R s m args below meth c H locs cells slots Q (F0 m (pc + 3) ls rest)) : W p l e R s m args below meth c H locs cells slots Q (F0 m pc ls (.ref a :: rest)) := by
  have hts := hC.2.2.2.2.1
  have g : ∀ {w : Cond}, w ∈ rl_G → w.before args s = true := fun h => hts _ (List.mem_cons_of_mem _ h)
  exact W.objInit hC.1 hC.2.1 hC.2.2.2.1 (g hl1) (g hl2) (g hl3) rfl (by rw [hC.2.2.1]; exact hl) rfl hd hframes (by show 2 * 0 + _ + 12 ≤ _; omega) kk
end RLY
