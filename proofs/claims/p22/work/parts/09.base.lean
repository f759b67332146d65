
def rl_rm (k c n : Nat) : Room := { frames := k, cells := c, slots := n, locals := 60 * k }
theorem rl_begin {l : Launch} {y : MethodName} {bytes : ByteArray} {maxL : Nat} {ret : Option FieldType} {rm : Room} {D : va_G} {t : Nat → ClassId} {A : Nat → Prop} {f : rl_M} {z : Nat} {av : List Value} {post : Option Value → rl_M → Nat → Nat → Prop} {own : String} (hy : plainName y.cls = true) (ho : y.cls = own) {lv : List (Nat × Value)} (hlen : (lg_sl av).length ≤ maxL) (hlv : lv_args 0 av = lv)
    (body : ∀ (p : Program) (e : Env) (s : State) (m : MethodId) (args : Array Value) (below : List Frame) (meth : Method) (c : Code) (ls : Array Slot) (H : Heap) (locs : List Loc), rl_C p m c bytes maxL s args own (.code y bytes maxL ret) D t A → meth.sig.returnType = ret → meth.locks = false → meth.name = y.name → rl_W D A f z s.heap H locs → lv_has ls maxL lv → p.tables.exec = Jvm.exec → c.code = bytes → W p l e rm s m args below meth c H locs 0 0 (MQ below (rl_Q D A post) args s rm.cells rm.slots A) (F0 m 0 ls [])) : rl_Met l y (.code y bytes maxL ret) rm D t A f z av post := by
  refine rl_start (own := own) hy ho fun p e s m args below meth c hC hr hlk hnm hW => ?_
  have hl := lv_entry av (n := maxL) hlen
  rw [lg_entry_eq]
  rw [hlv] at hl
  exact body p e s m args below meth c _ _ _ hC hr hlk hnm hW hl hC.1 hC.2.1
section RLB
variable {p : Program} {l : Launch} {e : Env} {R : Room} {s : State} {m : MethodId} {args : Array Value} {below : List Frame} {meth : Method} {c : Code} {H : Heap} {locs : List Loc} {cells slots : Nat} {Q : State → Prop}
variable {cc : ByteArray} {nL pc : Nat} {ls : Array Slot} {rest : List Value} {D : va_G} {t : Nat → ClassId} {A : Nat → Prop} {a z : Nat} {f : rl_M} {own : String} {cw : Cond}
theorem rl_topn {x y : Int32} (h : x = y) (k : W p l e R s m args below meth c H locs cells slots Q (F0 m pc ls (.int y :: rest))) : W p l e R s m args below meth c H locs cells slots Q (F0 m pc ls (.int x :: rest)) := by rw [h]; exact k
theorem rl_topl {x y : Int64} (h : x = y) (k : W p l e R s m args below meth c H locs cells slots Q (F0 m pc ls (.long y :: rest))) : W p l e R s m args below meth c H locs cells slots Q (F0 m pc ls (.long x :: rest)) := by rw [h]; exact k
theorem rl_aloadq_n (hexec : p.tables.exec = Jvm.exec) (hb : c.code = cc) {k : Fin 4} {i : Nat} {x : Option Nat} (hdg : decode cc pc = .ok (.aload_n k, 1)) (hi : (k : Nat) = i) (hl : ls[i]? = some (.val (va_rf x)))
    (kk : W p l e R s m args below meth c H locs cells slots Q (F0 m (pc + 1) ls (va_rf x :: rest))) : W p l e R s m args below meth c H locs cells slots Q (F0 m pc ls rest) := by
  cases x with
  | none => exact lv_aload_nN hexec hb hdg hi hl kk
  | some x => exact lv_aload_n hexec hb hdg hi hl kk
theorem rl_aloadq (hexec : p.tables.exec = Jvm.exec) (hb : c.code = cc) {i : Nat} {x : Option Nat} (hdg : decode cc pc = .ok (.aload i, 2)) (hl : ls[i]? = some (.val (va_rf x)))
    (kk : W p l e R s m args below meth c H locs cells slots Q (F0 m (pc + 2) ls (va_rf x :: rest))) : W p l e R s m args below meth c H locs cells slots Q (F0 m pc ls rest) := by
  cases x with
  | none => exact lv_aloadN hexec hb hdg hl kk
  | some x => exact lv_aload hexec hb hdg hl kk
theorem rl_in {n N : Nat} (h : n < N) (hN : N < 2 ^ 31) : vp_in (nI n) N ∧ (nI n).toNatClampNeg = n := ⟨vp_in_nI h hN, nI_clamp (by omega)⟩
theorem rl_iald_n {n N : Nat} {g : Nat → Int32} (hC : rl_C p m c cc nL s args own cw D t A) (hW : rl_W D A f z s.heap H locs) (he : f a = some (.inl (t 0, N, .inl g))) (h : n < N) (hN : N < 2 ^ 31) (hdg : decode cc pc = .ok (.iaload, 1))
    (kk : W p l e R s m args below meth c H locs cells slots Q (F0 m (pc + 1) ls (.int (g n) :: rest))) : W p l e R s m args below meth c H locs cells slots Q (F0 m pc ls (.int (nI n) :: .ref a :: rest)) :=
  rl_iald hC hW he (rl_in h hN).1 hdg (by rw [(rl_in h hN).2]; exact kk)
theorem rl_lald_n {n N : Nat} {g : Nat → Int64} (hC : rl_C p m c cc nL s args own cw D t A) (hW : rl_W D A f z s.heap H locs) (he : f a = some (.inl (t 1, N, .inr (.inl g)))) (h : n < N) (hN : N < 2 ^ 31) (hdg : decode cc pc = .ok (.laload, 1))
    (kk : W p l e R s m args below meth c H locs cells slots Q (F0 m (pc + 1) ls (.long (g n) :: rest))) : W p l e R s m args below meth c H locs cells slots Q (F0 m pc ls (.int (nI n) :: .ref a :: rest)) :=
  rl_lald hC hW he (rl_in h hN).1 hdg (by rw [(rl_in h hN).2]; exact kk)
theorem rl_zald_n {n N : Nat} {g : Nat → Int32} (hC : rl_C p m c cc nL s args own cw D t A) (hW : rl_W D A f z s.heap H locs) (he : f a = some (.inl (t 2, N, .inl g))) (h : n < N) (hN : N < 2 ^ 31) (hdg : decode cc pc = .ok (.baload, 1))
    (kk : W p l e R s m args below meth c H locs cells slots Q (F0 m (pc + 1) ls (.int (g n) :: rest))) : W p l e R s m args below meth c H locs cells slots Q (F0 m pc ls (.int (nI n) :: .ref a :: rest)) :=
  rl_zald hC hW he (rl_in h hN).1 hdg (by rw [(rl_in h hN).2]; exact kk)
theorem rl_aald_n (j : Nat) {C : String} {n N : Nat} {g : Nat → Option Nat} (hC : rl_C p m c cc nL s args own cw D t A) (hW : rl_W D A f z s.heap H locs) (hj : (rl_tys t)[j]? = some (t j, .object C)) (he : f a = some (.inl (t j, N, .inr (.inr (.inr (.inr g)))))) (h : n < N) (hN : N < 2 ^ 31) (hdg : decode cc pc = .ok (.aaload, 1))
    (kk : W p l e R s m args below meth c H locs cells slots Q (F0 m (pc + 1) ls (va_rf (g n) :: rest))) : W p l e R s m args below meth c H locs cells slots Q (F0 m pc ls (.int (nI n) :: .ref a :: rest)) :=
  rl_aald j hC hW hj he (rl_in h hN).1 hdg (by rw [(rl_in h hN).2]; exact kk)
theorem rl_iast_n {n N : Nat} {g : Nat → Int32} {x : Int32} (hC : rl_C p m c cc nL s args own cw D t A) (hW : rl_W D A f z s.heap H locs) (he : f a = some (.inl (t 0, N, .inl g))) (h : n < N) (hN : N < 2 ^ 31) (hdg : decode cc pc = .ok (.iastore, 1))
    (kk : ∀ (H1 : Heap) (locs1 : List Loc), rl_W D A (rl_up f a (.inl (t 0, N, .inl (upd g n x)))) z s.heap H1 locs1 → W p l e R s m args below meth c H1 locs1 cells slots Q (F0 m (pc + 1) ls rest)) : W p l e R s m args below meth c H locs cells slots Q (F0 m pc ls (.int x :: .int (nI n) :: .ref a :: rest)) :=
  rl_iast hC hW he (rl_in h hN).1 hdg (by rw [(rl_in h hN).2]; exact kk)
theorem rl_zast_n {n N : Nat} {g : Nat → Int32} {x : Int32} (hC : rl_C p m c cc nL s args own cw D t A) (hW : rl_W D A f z s.heap H locs) (he : f a = some (.inl (t 2, N, .inl g))) (h : n < N) (hN : N < 2 ^ 31) (hdg : decode cc pc = .ok (.bastore, 1))
    (kk : ∀ (H1 : Heap) (locs1 : List Loc), rl_W D A (rl_up f a (.inl (t 2, N, .inl (upd g n (vp_nar .boolean x))))) z s.heap H1 locs1 → W p l e R s m args below meth c H1 locs1 cells slots Q (F0 m (pc + 1) ls rest)) : W p l e R s m args below meth c H locs cells slots Q (F0 m pc ls (.int x :: .int (nI n) :: .ref a :: rest)) :=
  rl_zast hC hW he (rl_in h hN).1 hdg (by rw [(rl_in h hN).2]; exact kk)
theorem rl_last_n {n N : Nat} {g : Nat → Int64} {x : Int64} (hC : rl_C p m c cc nL s args own cw D t A) (hW : rl_W D A f z s.heap H locs) (he : f a = some (.inl (t 1, N, .inr (.inl g)))) (h : n < N) (hN : N < 2 ^ 31) (hdg : decode cc pc = .ok (.lastore, 1))
    (kk : ∀ (H1 : Heap) (locs1 : List Loc), rl_W D A (rl_up f a (.inl (t 1, N, .inr (.inl (vp_updL g n x))))) z s.heap H1 locs1 → W p l e R s m args below meth c H1 locs1 cells slots Q (F0 m (pc + 1) ls rest)) : W p l e R s m args below meth c H locs cells slots Q (F0 m pc ls (.long x :: .int (nI n) :: .ref a :: rest)) :=
  rl_last hC hW he (rl_in h hN).1 hdg (by rw [(rl_in h hN).2]; exact kk)
end RLB

/-- the answers of a method that makes nothing -/
def rl_qi (z : Nat) (P : Int32 → rl_M → Prop) : Option Value → rl_M → Nat → Nat → Prop := fun v f z' ds => ∃ r : Int32, v = some (.int r) ∧ z' = z ∧ ds = 0 ∧ P r f
def rl_ql (z : Nat) (P : Int64 → rl_M → Prop) : Option Value → rl_M → Nat → Nat → Prop := fun v f z' ds => ∃ r : Int64, v = some (.long r) ∧ z' = z ∧ ds = 0 ∧ P r f
def rl_qq (z : Nat) (P : Option Nat → rl_M → Prop) : Option Value → rl_M → Nat → Nat → Prop := fun v f z' ds => ∃ r : Option Nat, v = some (va_rf r) ∧ z' = z ∧ ds = 0 ∧ P r f
def rl_qv (z : Nat) (P : rl_M → Prop) : Option Value → rl_M → Nat → Nat → Prop := fun v f z' ds => v = none ∧ z' = z ∧ ds = 0 ∧ P f
section RLQ
variable {p : Program} {l : Launch} {e : Env} {R : Room} {s : State} {m : MethodId} {args : Array Value} {below : List Frame} {meth : Method} {c : Code} {H : Heap} {locs : List Loc} {cells slots : Nat} {Q : State → Prop}
variable {pc : Nat} {ls : Array Slot} {rest : List Value} {D : va_G} {A : Nat → Prop} {z : Nat} {f : rl_M}
theorem rl_calliQ {mc ms : Nat} {P : Int32 → rl_M → Prop} {av : Array Value} {st0 : List Value} (hr : va_Run p l e R s m args below meth c H locs cells slots mc ms (F0 m pc ls st0) rest (rl_Q D A (rl_qi z P) av) A) (hW : rl_W D A f z s.heap H locs)
    (kk : ∀ (r : Int32) (f' : rl_M) (H1 : Heap) (locs1 : List Loc), P r f' → rl_W D A f' z s.heap H1 locs1 → W p l e R s m args below meth c H1 locs1 cells slots Q (F0 m (pc + 3) ls (.int r :: rest))) : W p l e R s m args below meth c H locs cells slots Q (F0 m pc ls st0) :=
  rl_call hr hW fun v f' z' ds H1 locs1 hp hw hz => by
    obtain ⟨r, rfl, rfl, rfl, hp⟩ := hp
    rw [Nat.sub_self]
    exact kk r f' H1 locs1 hp hw
theorem rl_calllQ {mc ms : Nat} {P : Int64 → rl_M → Prop} {av : Array Value} {st0 : List Value} (hr : va_Run p l e R s m args below meth c H locs cells slots mc ms (F0 m pc ls st0) rest (rl_Q D A (rl_ql z P) av) A) (hW : rl_W D A f z s.heap H locs)
    (kk : ∀ (r : Int64) (f' : rl_M) (H1 : Heap) (locs1 : List Loc), P r f' → rl_W D A f' z s.heap H1 locs1 → W p l e R s m args below meth c H1 locs1 cells slots Q (F0 m (pc + 3) ls (.long r :: rest))) : W p l e R s m args below meth c H locs cells slots Q (F0 m pc ls st0) :=
  rl_call hr hW fun v f' z' ds H1 locs1 hp hw hz => by
    obtain ⟨r, rfl, rfl, rfl, hp⟩ := hp
    rw [Nat.sub_self]
    exact kk r f' H1 locs1 hp hw
theorem rl_callqQ {mc ms : Nat} {P : Option Nat → rl_M → Prop} {av : Array Value} {st0 : List Value} (hr : va_Run p l e R s m args below meth c H locs cells slots mc ms (F0 m pc ls st0) rest (rl_Q D A (rl_qq z P) av) A) (hW : rl_W D A f z s.heap H locs)
    (kk : ∀ (r : Option Nat) (f' : rl_M) (H1 : Heap) (locs1 : List Loc), P r f' → rl_W D A f' z s.heap H1 locs1 → W p l e R s m args below meth c H1 locs1 cells slots Q (F0 m (pc + 3) ls (va_rf r :: rest))) : W p l e R s m args below meth c H locs cells slots Q (F0 m pc ls st0) :=
  rl_call hr hW fun v f' z' ds H1 locs1 hp hw hz => by
    obtain ⟨r, rfl, rfl, rfl, hp⟩ := hp
    rw [Nat.sub_self]
    exact kk r f' H1 locs1 hp hw
theorem rl_callvQ {mc ms : Nat} {P : rl_M → Prop} {av : Array Value} {st0 : List Value} (hr : va_Run p l e R s m args below meth c H locs cells slots mc ms (F0 m pc ls st0) rest (rl_Q D A (rl_qv z P) av) A) (hW : rl_W D A f z s.heap H locs)
    (kk : ∀ (f' : rl_M) (H1 : Heap) (locs1 : List Loc), P f' → rl_W D A f' z s.heap H1 locs1 → W p l e R s m args below meth c H1 locs1 cells slots Q (F0 m (pc + 3) ls rest)) : W p l e R s m args below meth c H locs cells slots Q (F0 m pc ls st0) :=
  rl_call hr hW fun v f' z' ds H1 locs1 hp hw hz => by
    obtain ⟨rfl, rfl, rfl, hp⟩ := hp
    rw [Nat.sub_self]
    exact kk f' H1 locs1 hp hw
end RLQ

def rm_fs (m : Nat) (F : Nat → Int32) : List Value := [.ref (m + 1), .ref (m + 2), .ref (m + 3), .ref (m + 4), .ref (m + 5), .ref (m + 6), .ref (m + 7), .ref (m + 8), .ref (m + 9), .ref (m + 10), .ref (m + 11), .int (F 11), .ref (m + 12), .ref (m + 13), .int (F 14), .ref (m + 14), .ref (m + 15), .ref (m + 16), .ref (m + 17), .ref (m + 18), .ref (m + 19), .ref (m + 20), .int (F 22), .ref (m + 21), .int (F 24), .int (F 25), .int (F 26), .int (F 27), .int (F 28), .int (F 29), .int (F 30), .ref (m + 22), .ref (m + 23), .int (F 33), .ref (m + 24), .ref (m + 25), .ref (m + 26), .int (F 37), .ref (m + 27), .ref (m + 28), .ref (m + 29), .int (F 41), .int (F 42), .int (F 43), .int (F 44), .int (F 45), .ref (m + 30), .ref (m + 31), .ref (m + 32)]
def rm_tab : List (Nat × Nat × Nat) := [(0, 1, 6), (0, 2, 60), (2, 3, 60), (0, 4, 12), (0, 5, 60), (0, 6, 60), (0, 7, 60), (0, 8, 12), (0, 9, 24), (0, 10, 24), (0, 11, 24), (3, 0, 0), (0, 12, 43100), (0, 13, 344800), (3, 0, 0), (0, 14, 26200), (0, 15, 26200), (1, 16, 131000), (0, 17, 131000), (0, 18, 10), (1, 19, 5), (0, 20, 5), (3, 0, 0), (1, 21, 250), (3, 0, 0), (3, 0, 0), (3, 0, 0), (3, 0, 0), (3, 0, 0), (3, 0, 0), (3, 0, 0), (1, 22, 40), (0, 23, 40), (3, 0, 0), (0, 24, 40), (0, 25, 40), (0, 26, 40), (3, 0, 0), (1, 27, 250), (0, 28, 130), (0, 29, 130), (3, 0, 0), (3, 0, 0), (3, 0, 0), (3, 0, 0), (3, 0, 0), (0, 30, 7), (1, 31, 7), (0, 32, 7)]
def rm_k (j : Nat) : Nat := (rm_tab.getD j (3, 0, 0)).1
def rm_ad (j : Nat) : Nat := (rm_tab.getD j (3, 0, 0)).2.1
def rm_len (j : Nat) : Nat := (rm_tab.getD j (3, 0, 0)).2.2
def rm_cell (t : Nat → ClassId) (I : Nat → Nat → Int32) (L : Nat → Nat → Int64) (j : Nat) : va_E := match rm_k j with
  | 1 => .inl (t 1, rm_len j, .inr (.inl (L j)))
  | 2 => .inl (t 2, rm_len j, .inl (I j))
  | _ => .inl (t 0, rm_len j, .inl (I j))
def RM (t : Nat → ClassId) (f : rl_M) (m : Nat) (I : Nat → Nat → Int32) (L : Nat → Nat → Int64) (F : Nat → Int32) : Prop := f m = some (.inr (11, rm_fs m F)) ∧ ∀ j, j < 49 → rm_k j ≠ 3 → f (m + rm_ad j) = some (rm_cell t I L j)
theorem rm_inj : ∀ i, i < 49 → ∀ j, j < 49 → rm_k i ≠ 3 → rm_k j ≠ 3 → rm_ad i = rm_ad j → i = j := by decide +kernel
theorem rm_pos : ∀ i, i < 49 → rm_k i ≠ 3 → 0 < rm_ad i := by decide +kernel
section RMS
variable {t : Nat → ClassId} {f : rl_M} {m : Nat} {I : Nat → Nat → Int32} {L : Nat → Nat → Int64} {F : Nat → Int32}
theorem RM.gen {j : Nat} {e : va_E} {I' : Nat → Nat → Int32} {L' : Nat → Nat → Int64} (h : RM t f m I L F) (hj : j < 49) (hk : rm_k j ≠ 3) (he : rm_cell t I' L' j = e) (hI : ∀ i, i ≠ j → I' i = I i) (hL : ∀ i, i ≠ j → L' i = L i) : RM t (rl_up f (m + rm_ad j) e) m I' L' F := by
  have hp := rm_pos j hj hk
  refine ⟨by rw [rl_up_n (by omega)]; exact h.1, fun i hi hki => ?_⟩
  by_cases hij : i = j
  · subst hij
    rw [rl_up_s, he]
  · have hne : rm_ad i ≠ rm_ad j := fun q => hij (rm_inj i hi j hj hki hk q)
    rw [rl_up_n (by omega), h.2 i hi hki]
    unfold rm_cell
    rw [hI i hij, hL i hij]
theorem va_up_s {α : Type} (f : Nat → α) (k : Nat) (v : α) : va_up f k v k = v := by simp [va_up]
theorem va_up_n {α : Type} (f : Nat → α) {k j : Nat} (v : α) (h : j ≠ k) : va_up f k v j = f j := by simp [va_up, h]
theorem RM.seti {j : Nat} (h : RM t f m I L F) (hj : j < 49) (hk : rm_k j = 0) (g : Nat → Int32) : RM t (rl_up f (m + rm_ad j) (.inl (t 0, rm_len j, .inl g))) m (va_up I j g) L F :=
  h.gen hj (by rw [hk]; decide) (by unfold rm_cell; rw [hk]; simp [va_up]) (fun i hi => va_up_n I g hi) (fun _ _ => rfl)
theorem RM.setz {j : Nat} (h : RM t f m I L F) (hj : j < 49) (hk : rm_k j = 2) (g : Nat → Int32) : RM t (rl_up f (m + rm_ad j) (.inl (t 2, rm_len j, .inl g))) m (va_up I j g) L F :=
  h.gen hj (by rw [hk]; decide) (by unfold rm_cell; rw [hk]; simp [va_up]) (fun i hi => va_up_n I g hi) (fun _ _ => rfl)
theorem RM.setl {j : Nat} (h : RM t f m I L F) (hj : j < 49) (hk : rm_k j = 1) (g : Nat → Int64) : RM t (rl_up f (m + rm_ad j) (.inl (t 1, rm_len j, .inr (.inl g)))) m I (va_up L j g) F :=
  h.gen hj (by rw [hk]; decide) (by unfold rm_cell; rw [hk]; simp [va_up]) (fun _ _ => rfl) (fun i hi => va_up_n L g hi)
theorem RM.setf {F' : Nat → Int32} (h : RM t f m I L F) {fs : List Value} (hf : fs = rm_fs m F') : RM t (rl_up f m (.inr (11, fs))) m I L F' := by
  subst hf
  refine ⟨rl_up_s _ _ _, fun j hj hk => ?_⟩
  have hp := rm_pos j hj hk
  rw [rl_up_n (by omega)]
  exact h.2 j hj hk
theorem RM.a0 (h : RM t f m I L F) : f (m + 1) = some (.inl (t 0, 6, .inl (I 0))) := h.2 0 (by decide) (by decide)
theorem RM.s0 (h : RM t f m I L F) (g : Nat → Int32) : RM t (rl_up f (m + 1) (.inl (t 0, 6, .inl g))) m (va_up I 0 g) L F := h.seti (j := 0) (by decide) (by decide) g
theorem RM.a1 (h : RM t f m I L F) : f (m + 2) = some (.inl (t 0, 60, .inl (I 1))) := h.2 1 (by decide) (by decide)
theorem RM.s1 (h : RM t f m I L F) (g : Nat → Int32) : RM t (rl_up f (m + 2) (.inl (t 0, 60, .inl g))) m (va_up I 1 g) L F := h.seti (j := 1) (by decide) (by decide) g
theorem RM.a2 (h : RM t f m I L F) : f (m + 3) = some (.inl (t 2, 60, .inl (I 2))) := h.2 2 (by decide) (by decide)
theorem RM.s2 (h : RM t f m I L F) (g : Nat → Int32) : RM t (rl_up f (m + 3) (.inl (t 2, 60, .inl g))) m (va_up I 2 g) L F := h.setz (j := 2) (by decide) (by decide) g
theorem RM.a3 (h : RM t f m I L F) : f (m + 4) = some (.inl (t 0, 12, .inl (I 3))) := h.2 3 (by decide) (by decide)
theorem RM.s3 (h : RM t f m I L F) (g : Nat → Int32) : RM t (rl_up f (m + 4) (.inl (t 0, 12, .inl g))) m (va_up I 3 g) L F := h.seti (j := 3) (by decide) (by decide) g
theorem RM.a4 (h : RM t f m I L F) : f (m + 5) = some (.inl (t 0, 60, .inl (I 4))) := h.2 4 (by decide) (by decide)
theorem RM.s4 (h : RM t f m I L F) (g : Nat → Int32) : RM t (rl_up f (m + 5) (.inl (t 0, 60, .inl g))) m (va_up I 4 g) L F := h.seti (j := 4) (by decide) (by decide) g
theorem RM.a5 (h : RM t f m I L F) : f (m + 6) = some (.inl (t 0, 60, .inl (I 5))) := h.2 5 (by decide) (by decide)
theorem RM.s5 (h : RM t f m I L F) (g : Nat → Int32) : RM t (rl_up f (m + 6) (.inl (t 0, 60, .inl g))) m (va_up I 5 g) L F := h.seti (j := 5) (by decide) (by decide) g
theorem RM.a6 (h : RM t f m I L F) : f (m + 7) = some (.inl (t 0, 60, .inl (I 6))) := h.2 6 (by decide) (by decide)
theorem RM.s6 (h : RM t f m I L F) (g : Nat → Int32) : RM t (rl_up f (m + 7) (.inl (t 0, 60, .inl g))) m (va_up I 6 g) L F := h.seti (j := 6) (by decide) (by decide) g
theorem RM.a7 (h : RM t f m I L F) : f (m + 8) = some (.inl (t 0, 12, .inl (I 7))) := h.2 7 (by decide) (by decide)
theorem RM.s7 (h : RM t f m I L F) (g : Nat → Int32) : RM t (rl_up f (m + 8) (.inl (t 0, 12, .inl g))) m (va_up I 7 g) L F := h.seti (j := 7) (by decide) (by decide) g
theorem RM.a8 (h : RM t f m I L F) : f (m + 9) = some (.inl (t 0, 24, .inl (I 8))) := h.2 8 (by decide) (by decide)
theorem RM.s8 (h : RM t f m I L F) (g : Nat → Int32) : RM t (rl_up f (m + 9) (.inl (t 0, 24, .inl g))) m (va_up I 8 g) L F := h.seti (j := 8) (by decide) (by decide) g
theorem RM.a9 (h : RM t f m I L F) : f (m + 10) = some (.inl (t 0, 24, .inl (I 9))) := h.2 9 (by decide) (by decide)
theorem RM.s9 (h : RM t f m I L F) (g : Nat → Int32) : RM t (rl_up f (m + 10) (.inl (t 0, 24, .inl g))) m (va_up I 9 g) L F := h.seti (j := 9) (by decide) (by decide) g
theorem RM.a10 (h : RM t f m I L F) : f (m + 11) = some (.inl (t 0, 24, .inl (I 10))) := h.2 10 (by decide) (by decide)
theorem RM.s10 (h : RM t f m I L F) (g : Nat → Int32) : RM t (rl_up f (m + 11) (.inl (t 0, 24, .inl g))) m (va_up I 10 g) L F := h.seti (j := 10) (by decide) (by decide) g
theorem RM.f11 (h : RM t f m I L F) (v : Int32) : RM t (rl_up f m (.inr (11, (rm_fs m F).set 11 (.int v)))) m I L (upd F 11 v) := h.setf rfl
theorem RM.a12 (h : RM t f m I L F) : f (m + 12) = some (.inl (t 0, 43100, .inl (I 12))) := h.2 12 (by decide) (by decide)
theorem RM.s12 (h : RM t f m I L F) (g : Nat → Int32) : RM t (rl_up f (m + 12) (.inl (t 0, 43100, .inl g))) m (va_up I 12 g) L F := h.seti (j := 12) (by decide) (by decide) g
theorem RM.a13 (h : RM t f m I L F) : f (m + 13) = some (.inl (t 0, 344800, .inl (I 13))) := h.2 13 (by decide) (by decide)
theorem RM.s13 (h : RM t f m I L F) (g : Nat → Int32) : RM t (rl_up f (m + 13) (.inl (t 0, 344800, .inl g))) m (va_up I 13 g) L F := h.seti (j := 13) (by decide) (by decide) g
theorem RM.f14 (h : RM t f m I L F) (v : Int32) : RM t (rl_up f m (.inr (11, (rm_fs m F).set 14 (.int v)))) m I L (upd F 14 v) := h.setf rfl
theorem RM.a15 (h : RM t f m I L F) : f (m + 14) = some (.inl (t 0, 26200, .inl (I 15))) := h.2 15 (by decide) (by decide)
theorem RM.s15 (h : RM t f m I L F) (g : Nat → Int32) : RM t (rl_up f (m + 14) (.inl (t 0, 26200, .inl g))) m (va_up I 15 g) L F := h.seti (j := 15) (by decide) (by decide) g
theorem RM.a16 (h : RM t f m I L F) : f (m + 15) = some (.inl (t 0, 26200, .inl (I 16))) := h.2 16 (by decide) (by decide)
theorem RM.s16 (h : RM t f m I L F) (g : Nat → Int32) : RM t (rl_up f (m + 15) (.inl (t 0, 26200, .inl g))) m (va_up I 16 g) L F := h.seti (j := 16) (by decide) (by decide) g
theorem RM.a17 (h : RM t f m I L F) : f (m + 16) = some (.inl (t 1, 131000, .inr (.inl (L 17)))) := h.2 17 (by decide) (by decide)
theorem RM.s17 (h : RM t f m I L F) (g : Nat → Int64) : RM t (rl_up f (m + 16) (.inl (t 1, 131000, .inr (.inl g)))) m I (va_up L 17 g) F := h.setl (j := 17) (by decide) (by decide) g
theorem RM.a18 (h : RM t f m I L F) : f (m + 17) = some (.inl (t 0, 131000, .inl (I 18))) := h.2 18 (by decide) (by decide)
theorem RM.s18 (h : RM t f m I L F) (g : Nat → Int32) : RM t (rl_up f (m + 17) (.inl (t 0, 131000, .inl g))) m (va_up I 18 g) L F := h.seti (j := 18) (by decide) (by decide) g
theorem RM.a19 (h : RM t f m I L F) : f (m + 18) = some (.inl (t 0, 10, .inl (I 19))) := h.2 19 (by decide) (by decide)
theorem RM.s19 (h : RM t f m I L F) (g : Nat → Int32) : RM t (rl_up f (m + 18) (.inl (t 0, 10, .inl g))) m (va_up I 19 g) L F := h.seti (j := 19) (by decide) (by decide) g
theorem RM.a20 (h : RM t f m I L F) : f (m + 19) = some (.inl (t 1, 5, .inr (.inl (L 20)))) := h.2 20 (by decide) (by decide)
theorem RM.s20 (h : RM t f m I L F) (g : Nat → Int64) : RM t (rl_up f (m + 19) (.inl (t 1, 5, .inr (.inl g)))) m I (va_up L 20 g) F := h.setl (j := 20) (by decide) (by decide) g
theorem RM.a21 (h : RM t f m I L F) : f (m + 20) = some (.inl (t 0, 5, .inl (I 21))) := h.2 21 (by decide) (by decide)
theorem RM.s21 (h : RM t f m I L F) (g : Nat → Int32) : RM t (rl_up f (m + 20) (.inl (t 0, 5, .inl g))) m (va_up I 21 g) L F := h.seti (j := 21) (by decide) (by decide) g
theorem RM.f22 (h : RM t f m I L F) (v : Int32) : RM t (rl_up f m (.inr (11, (rm_fs m F).set 22 (.int v)))) m I L (upd F 22 v) := h.setf rfl
theorem RM.a23 (h : RM t f m I L F) : f (m + 21) = some (.inl (t 1, 250, .inr (.inl (L 23)))) := h.2 23 (by decide) (by decide)
theorem RM.s23 (h : RM t f m I L F) (g : Nat → Int64) : RM t (rl_up f (m + 21) (.inl (t 1, 250, .inr (.inl g)))) m I (va_up L 23 g) F := h.setl (j := 23) (by decide) (by decide) g
theorem RM.f24 (h : RM t f m I L F) (v : Int32) : RM t (rl_up f m (.inr (11, (rm_fs m F).set 24 (.int v)))) m I L (upd F 24 v) := h.setf rfl
theorem RM.f25 (h : RM t f m I L F) (v : Int32) : RM t (rl_up f m (.inr (11, (rm_fs m F).set 25 (.int v)))) m I L (upd F 25 v) := h.setf rfl
theorem RM.f26 (h : RM t f m I L F) (v : Int32) : RM t (rl_up f m (.inr (11, (rm_fs m F).set 26 (.int v)))) m I L (upd F 26 v) := h.setf rfl
theorem RM.f27 (h : RM t f m I L F) (v : Int32) : RM t (rl_up f m (.inr (11, (rm_fs m F).set 27 (.int v)))) m I L (upd F 27 v) := h.setf rfl
theorem RM.f28 (h : RM t f m I L F) (v : Int32) : RM t (rl_up f m (.inr (11, (rm_fs m F).set 28 (.int v)))) m I L (upd F 28 v) := h.setf rfl
theorem RM.f29 (h : RM t f m I L F) (v : Int32) : RM t (rl_up f m (.inr (11, (rm_fs m F).set 29 (.int v)))) m I L (upd F 29 v) := h.setf rfl
theorem RM.f30 (h : RM t f m I L F) (v : Int32) : RM t (rl_up f m (.inr (11, (rm_fs m F).set 30 (.int v)))) m I L (upd F 30 v) := h.setf rfl
theorem RM.a31 (h : RM t f m I L F) : f (m + 22) = some (.inl (t 1, 40, .inr (.inl (L 31)))) := h.2 31 (by decide) (by decide)
theorem RM.s31 (h : RM t f m I L F) (g : Nat → Int64) : RM t (rl_up f (m + 22) (.inl (t 1, 40, .inr (.inl g)))) m I (va_up L 31 g) F := h.setl (j := 31) (by decide) (by decide) g
theorem RM.a32 (h : RM t f m I L F) : f (m + 23) = some (.inl (t 0, 40, .inl (I 32))) := h.2 32 (by decide) (by decide)
theorem RM.s32 (h : RM t f m I L F) (g : Nat → Int32) : RM t (rl_up f (m + 23) (.inl (t 0, 40, .inl g))) m (va_up I 32 g) L F := h.seti (j := 32) (by decide) (by decide) g
theorem RM.f33 (h : RM t f m I L F) (v : Int32) : RM t (rl_up f m (.inr (11, (rm_fs m F).set 33 (.int v)))) m I L (upd F 33 v) := h.setf rfl
theorem RM.a34 (h : RM t f m I L F) : f (m + 24) = some (.inl (t 0, 40, .inl (I 34))) := h.2 34 (by decide) (by decide)
theorem RM.s34 (h : RM t f m I L F) (g : Nat → Int32) : RM t (rl_up f (m + 24) (.inl (t 0, 40, .inl g))) m (va_up I 34 g) L F := h.seti (j := 34) (by decide) (by decide) g
theorem RM.a35 (h : RM t f m I L F) : f (m + 25) = some (.inl (t 0, 40, .inl (I 35))) := h.2 35 (by decide) (by decide)
theorem RM.s35 (h : RM t f m I L F) (g : Nat → Int32) : RM t (rl_up f (m + 25) (.inl (t 0, 40, .inl g))) m (va_up I 35 g) L F := h.seti (j := 35) (by decide) (by decide) g
theorem RM.a36 (h : RM t f m I L F) : f (m + 26) = some (.inl (t 0, 40, .inl (I 36))) := h.2 36 (by decide) (by decide)
theorem RM.s36 (h : RM t f m I L F) (g : Nat → Int32) : RM t (rl_up f (m + 26) (.inl (t 0, 40, .inl g))) m (va_up I 36 g) L F := h.seti (j := 36) (by decide) (by decide) g
theorem RM.f37 (h : RM t f m I L F) (v : Int32) : RM t (rl_up f m (.inr (11, (rm_fs m F).set 37 (.int v)))) m I L (upd F 37 v) := h.setf rfl
theorem RM.a38 (h : RM t f m I L F) : f (m + 27) = some (.inl (t 1, 250, .inr (.inl (L 38)))) := h.2 38 (by decide) (by decide)
theorem RM.s38 (h : RM t f m I L F) (g : Nat → Int64) : RM t (rl_up f (m + 27) (.inl (t 1, 250, .inr (.inl g)))) m I (va_up L 38 g) F := h.setl (j := 38) (by decide) (by decide) g
theorem RM.a39 (h : RM t f m I L F) : f (m + 28) = some (.inl (t 0, 130, .inl (I 39))) := h.2 39 (by decide) (by decide)
theorem RM.s39 (h : RM t f m I L F) (g : Nat → Int32) : RM t (rl_up f (m + 28) (.inl (t 0, 130, .inl g))) m (va_up I 39 g) L F := h.seti (j := 39) (by decide) (by decide) g
theorem RM.a40 (h : RM t f m I L F) : f (m + 29) = some (.inl (t 0, 130, .inl (I 40))) := h.2 40 (by decide) (by decide)
theorem RM.s40 (h : RM t f m I L F) (g : Nat → Int32) : RM t (rl_up f (m + 29) (.inl (t 0, 130, .inl g))) m (va_up I 40 g) L F := h.seti (j := 40) (by decide) (by decide) g
theorem RM.f41 (h : RM t f m I L F) (v : Int32) : RM t (rl_up f m (.inr (11, (rm_fs m F).set 41 (.int v)))) m I L (upd F 41 v) := h.setf rfl
theorem RM.f42 (h : RM t f m I L F) (v : Int32) : RM t (rl_up f m (.inr (11, (rm_fs m F).set 42 (.int v)))) m I L (upd F 42 v) := h.setf rfl
theorem RM.f43 (h : RM t f m I L F) (v : Int32) : RM t (rl_up f m (.inr (11, (rm_fs m F).set 43 (.int v)))) m I L (upd F 43 v) := h.setf rfl
theorem RM.f44 (h : RM t f m I L F) (v : Int32) : RM t (rl_up f m (.inr (11, (rm_fs m F).set 44 (.int v)))) m I L (upd F 44 v) := h.setf rfl
theorem RM.f45 (h : RM t f m I L F) (v : Int32) : RM t (rl_up f m (.inr (11, (rm_fs m F).set 45 (.int v)))) m I L (upd F 45 v) := h.setf rfl
theorem RM.a46 (h : RM t f m I L F) : f (m + 30) = some (.inl (t 0, 7, .inl (I 46))) := h.2 46 (by decide) (by decide)
theorem RM.s46 (h : RM t f m I L F) (g : Nat → Int32) : RM t (rl_up f (m + 30) (.inl (t 0, 7, .inl g))) m (va_up I 46 g) L F := h.seti (j := 46) (by decide) (by decide) g
theorem RM.a47 (h : RM t f m I L F) : f (m + 31) = some (.inl (t 1, 7, .inr (.inl (L 47)))) := h.2 47 (by decide) (by decide)
theorem RM.s47 (h : RM t f m I L F) (g : Nat → Int64) : RM t (rl_up f (m + 31) (.inl (t 1, 7, .inr (.inl g)))) m I (va_up L 47 g) F := h.setl (j := 47) (by decide) (by decide) g
theorem RM.a48 (h : RM t f m I L F) : f (m + 32) = some (.inl (t 0, 7, .inl (I 48))) := h.2 48 (by decide) (by decide)
theorem RM.s48 (h : RM t f m I L F) (g : Nat → Int32) : RM t (rl_up f (m + 32) (.inl (t 0, 7, .inl g))) m (va_up I 48 g) L F := h.seti (j := 48) (by decide) (by decide) g
end RMS
