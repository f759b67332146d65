
/-! one reading, as a function: at, last, the cause, how deep, rows, records, the rest -/
abbrev q_at (q : pQ) : Nat := q.1
abbrev q_la (q : pQ) : Int32 := q.2.1
abbrev q_bad (q : pQ) : Nat := q.2.2.1
abbrev q_dp (q : pQ) : Nat := q.2.2.2.1
abbrev q_rho (q : pQ) : Nat := q.2.2.2.2.1
abbrev q_kap (q : pQ) : Nat := q.2.2.2.2.2.1
abbrev q_G (q : pQ) : pG := q.2.2.2.2.2.2
/-- a draft: its shape, its numbers, its things -/
abbrev pD : Type := Option (Nat × (Nat → Int64) × (Nat → pHd))
def q_num (D : pD) (p : Option Nat) (v : Int64) : pD := match D, p with
  | some (j, N, X), some p => some (j, vp_updL N p v, X)
  | D, _ => D
def q_put (D : pD) (p : Option Nat) (h : pHd) : pD := match D, p with
  | some (j, N, X), some p => some (j, N, va_up X p h)
  | D, _ => D
def q_find (T : Nat → Nat → Nat) (D : pD) (x : Int64) : Option Nat := match D with
  | none => none
  | some (j, _, _) => pu_find (fun i => T 3 (5 * j + i)) x (T 2 j)
def q_cast (T : Nat → Nat → Nat) (D : pD) (p : Option Nat) (s : Nat) : Prop := match D, p with
  | some (j, _, _), some p => T 4 (5 * j + p) ≠ s
  | _, _ => False
def q_it (kn : Bool) (r i : Nat) (v : Int64) (q : pQ) : pQ := (q.1, q.2.1, q.2.2.1, q.2.2.2.1, q.2.2.2.2.1, q.2.2.2.2.2.1, if kn = true then gY q.2.2.2.2.2.2 1 (upd (q.2.2.2.2.2.2.2.1 1) (8 * r + i) v.toInt32) else q.2.2.2.2.2.2)
def q_items (kn : Bool) (r : Nat) : Nat → Nat → pQ → pQ
  | 0, _, q => q
  | n + 1, i, q => if q_bad q = 0 then q_items kn r n (i + 1) (q_it kn r i (q_leaf q).1 (q_leaf q).2) else q
def q_mk (q : pQ) (c : Nat) : pQ := (q.1, q.2.1, q.2.2.1, q.2.2.2.1, q.2.2.2.2.1 + 1, q.2.2.2.2.2.1, pu_row q.2.2.2.2.1 q.2.2.2.2.2.2 c)
def q_row1 (kn : Bool) (m : Int64) (q : pQ) : pHd × pQ :=
  if q_bad q = 0 then (if m < -1 then (none, q_fail 6 q) else if m = -1 then (none, q) else if 8 < m then (none, q_fail 2 q)
    else if kn = true then (hrow (q_rho q), q_items true (q_rho q) m.toInt.toNat 0 (q_mk q m.toInt.toNat)) else (none, q_items false 0 m.toInt.toNat 0 q)) else (none, q)
def q_row (kn : Bool) (q : pQ) : pHd × pQ := q_row1 kn (q_leaf q).1 (q_leaf q).2
def q_con (T : Nat → Nat → Nat) (w : Nat) (D : pD) (p : Option Nat) (v : Int64) (q : pQ) : pD × pQ := match D, p with
  | some (j, N, X), some p => if q_bad q = 0 ∧ v ≠ -1 then (match pu_find (fun i => T 1 (10 * (3 * T 8 (5 * j + p) + w) + i)) v (T 0 (3 * T 8 (5 * j + p) + w)) with
      | some i => (some (j, N, va_up X p (hcon (10 * (3 * T 8 (5 * j + p) + w) + i))), q)
      | none => (some (j, N, va_up X p none), q_fail 7 q)) else (some (j, N, va_up X p none), q)
  | D, _ => (D, q)
def q_inn (R : Bool → pQ → pHd × pQ) (D : pD) (p : Option Nat) (v : Int64) (q : pQ) : pD × pQ :=
  if v = 0 then (q_put D p none, q) else (q_put D p (R p.isSome q).1, (R p.isSome q).2)
def q_val (T : Nat → Nat → Nat) (w : Nat) (R : Bool → pQ → pHd × pQ) (D : pD) (p : Option Nat) (s : Nat) (q : pQ) : pD × pQ :=
  if s < 2 then (q_num D p (q_leaf q).1, (q_leaf q).2)
  else if s = 2 then q_con T w D p (q_leaf q).1 (q_leaf q).2
  else if s = 4 then (q_put D p (q_row p.isSome q).1, (q_row p.isSome q).2)
  else q_inn R D p (q_leaf q).1 (q_leaf q).2
noncomputable def q_prt (T : Nat → Nat → Nat) (w : Nat) (R : Bool → pQ → pHd × pQ) (D : pD) (n s : Int64) (q : pQ) : pD × pQ :=
  if q_bad q = 0 then (if 0 ≤ s.toInt ∧ s.toInt < 5 then (@ite _ (q_cast T D (q_find T D n) s.toInt.toNat) (Classical.propDecidable _) (D, q_fail 1 q) (q_val T w R D (q_find T D n) s.toInt.toNat q)) else (D, q_fail 2 q)) else (D, q)
noncomputable def q_part (T : Nat → Nat → Nat) (w : Nat) (R : Bool → pQ → pHd × pQ) (D : pD) (q : pQ) : pD × pQ := q_prt T w R D (q_leaf q).1 (q_leaf (q_leaf q).2).1 (q_leaf (q_leaf q).2).2
noncomputable def q_parts (T : Nat → Nat → Nat) (w : Nat) (R : Bool → pQ → pHd × pQ) : Nat → pD → pQ → pD × pQ
  | 0, D, q => (D, q)
  | n + 1, D, q => if q_bad q = 0 then q_parts T w R n (q_part T w R D q).1 (q_part T w R D q).2 else (D, q)
def q_up (q : pQ) (d : Nat) : pQ := (q.1, q.2.1, q.2.2.1, d, q.2.2.2.2)
def q_made (T : Nat → Nat → Nat) (q : pQ) (j : Nat) (N : Nat → Int64) (X : Nat → pHd) : pQ := (q.1, q.2.1, q.2.2.1, q.2.2.2.1 - 1, q.2.2.2.2.1, q.2.2.2.2.2.1 + 1, pu_new T q.2.2.2.2.2.1 q.2.2.2.2.2.2 j N X)
def q_end (T : Nat → Nat → Nat) (D : pD) (q : pQ) : pHd × pQ := if q_bad q = 0 then (match D with
    | none => (none, q_up q (q_dp q - 1))
    | some (j, N, X) => if pu_why T (q_G q) j N X = 0 then (hrec (q_kap q), q_made T q j N X) else (none, q_fail (pu_why T (q_G q) j N X) q)) else (none, q)
def q_d0 (w kd : Nat) (b : Bool) : pD := if b = true then some (3 * kd + w, fun _ => 0, fun _ => none) else none
noncomputable def q_rec1 (T : Nat → Nat → Nat) (w : Nat) (R : Bool → pQ → pHd × pQ) (b : Bool) (kd : Nat) (n : Int64) (q : pQ) : pHd × pQ :=
  q_end T (q_parts T w R n.toInt.toNat (q_d0 w kd b) q).1 (q_parts T w R n.toInt.toNat (q_d0 w kd b) q).2
noncomputable def q_rec (T : Nat → Nat → Nat) (w : Nat) : Nat → Bool → pQ → pHd × pQ
  | 0, _, q => (none, q_fail 8 q)
  | k + 1, b, q => match pu_rk (q_leaf (q_up q (q_dp q + 1))).1 with
    | none => (none, q_fail 2 (q_leaf (q_up q (q_dp q + 1))).2)
    | some kd => q_rec1 T w (q_rec T w k) b kd (q_leaf (q_leaf (q_up q (q_dp q + 1))).2).1 (q_leaf (q_leaf (q_up q (q_dp q + 1))).2).2
/-- a call of read -/
noncomputable def f_read (T : Nat → Nat → Nat) (ρ κ : Nat) (G : pG) (x1 x2 : Int32) : pR :=
  ob (pu_ix 3 x1) (-1, ρ, κ, G) fun w => ob (pu_ix 10 x2) (-1, ρ, κ, G) fun p =>
  if q_bad (q_rec T w 6 true (0, -3, 0, 0, ρ, κ, G)).2 = 0 then (0, q_rho (q_rec T w 6 true (0, -3, 0, 0, ρ, κ, G)).2, q_kap (q_rec T w 6 true (0, -3, 0, 0, ρ, κ, G)).2, pu_say (gX (gY (q_G (q_rec T w 6 true (0, -3, 0, 0, ρ, κ, G)).2) 0 (upd ((q_G (q_rec T w 6 true (0, -3, 0, 0, ρ, κ, G)).2).2.1 0) 4 ((q_G (q_rec T w 6 true (0, -3, 0, 0, ρ, κ, G)).2).2.1 0 4 + 1))) 0 (va_up ((q_G (q_rec T w 6 true (0, -3, 0, 0, ρ, κ, G)).2).2.2.2 0) p (q_rec T w 6 true (0, -3, 0, 0, ρ, κ, G)).1)) 0 (-3) 0)
  else (nI (q_bad (q_rec T w 6 true (0, -3, 0, 0, ρ, κ, G)).2), ρ, κ, pu_say (gY G 0 (upd (upd (G.2.1 0) 3 ((q_G (q_rec T w 6 true (0, -3, 0, 0, ρ, κ, G)).2).2.1 0 3)) 5 (G.2.1 0 5 + 1))) (nI (q_bad (q_rec T w 6 true (0, -3, 0, 0, ρ, κ, G)).2)) (q_la (q_rec T w 6 true (0, -3, 0, 0, ρ, κ, G)).2) (nI (q_dp (q_rec T w 6 true (0, -3, 0, 0, ρ, κ, G)).2)))
/-! what has failed stays so -/
theorem lf_b {q : pQ} (h : q_bad q ≠ 0) : q_leaf q = (0, q) := by unfold q_leaf; rw [if_neg h]
theorem fl_b {q : pQ} {c : Nat} (h : q_bad q ≠ 0) : q_fail c q = q := by unfold q_fail; rw [if_neg h]
theorem fl_0 {q : pQ} {c : Nat} (h : q_bad q = 0) : q_fail c q = (q.1, q.2.1, c, q.2.2.2) := by unfold q_fail; rw [if_pos h]
theorem lf_0 {q : pQ} (h : q_bad q = 0) (hl : q_at q < (q_G q).1 4 0) : q_leaf q = ((q_G q).2.2.1 2 (q_at q), (q.1 + 1, nI q.1, q.2.2)) := by unfold q_leaf; rw [if_pos h, if_pos hl]
theorem lf_4 {q : pQ} (h : q_bad q = 0) (hl : ¬ q_at q < (q_G q).1 4 0) : q_leaf q = (0, (q.1, nI q.1, 4, q.2.2.2)) := by unfold q_leaf; rw [if_pos h, if_neg hl]
theorem pt_b {T : Nat → Nat → Nat} {w : Nat} {R : Bool → pQ → pHd × pQ} {D : pD} {q : pQ} (h : q_bad q ≠ 0) : q_part T w R D q = (D, q) := by
  unfold q_part
  rw [lf_b h]
  show q_prt T w R D 0 (q_leaf q).1 (q_leaf q).2 = _
  rw [lf_b h]
  show q_prt T w R D 0 0 q = _
  unfold q_prt
  rw [if_neg h]
theorem ps_b {T : Nat → Nat → Nat} {w : Nat} {R : Bool → pQ → pHd × pQ} {D : pD} {q : pQ} (h : q_bad q ≠ 0) : ∀ n, q_parts T w R n D q = (D, q)
  | 0 => rfl
  | n + 1 => by unfold q_parts; rw [if_neg h]
theorem ps_s {T : Nat → Nat → Nat} {w : Nat} {R : Bool → pQ → pHd × pQ} {D : pD} {q : pQ} {n : Nat} (h : q_bad q = 0) : q_parts T w R (n + 1) D q = q_parts T w R n (q_part T w R D q).1 (q_part T w R D q).2 := by rw [q_parts, if_pos h]
theorem en_b {T : Nat → Nat → Nat} {D : pD} {q : pQ} (h : q_bad q ≠ 0) : q_end T D q = (none, q) := by unfold q_end; rw [if_neg h]
theorem it_b {kn : Bool} {r : Nat} {q : pQ} (h : q_bad q ≠ 0) : ∀ n i, q_items kn r n i q = q
  | 0, _ => rfl
  | n + 1, i => by unfold q_items; rw [if_neg h]
/-! the rest of a reading, when records are open: their drafts, how many parts are left, the part that waits -/
noncomputable def q_cont (T : Nat → Nat → Nat) (w : Nat) (SD : Nat → pD) (SL : Nat → Nat) (SI : Nat → Option Nat) : Nat → pHd → pQ → pHd × pQ
  | 0, r, q => (r, q)
  | d + 1, r, q => if q_bad q = 0 then q_cont T w SD SL SI d (q_end T (q_parts T w (q_rec T w (6 - (d + 1))) (SL d) (q_put (SD d) (SI d) r) q).1 (q_parts T w (q_rec T w (6 - (d + 1))) (SL d) (q_put (SD d) (SI d) r) q).2).1 (q_end T (q_parts T w (q_rec T w (6 - (d + 1))) (SL d) (q_put (SD d) (SI d) r) q).1 (q_parts T w (q_rec T w (6 - (d + 1))) (SL d) (q_put (SD d) (SI d) r) q).2).2 else (none, q)
noncomputable def q_res (T : Nat → Nat → Nat) (w : Nat) (SD : Nat → pD) (SL : Nat → Nat) (SI : Nat → Option Nat) (d : Nat) (q : pQ) : pHd × pQ :=
  q_cont T w SD SL SI d (q_end T (q_parts T w (q_rec T w (6 - (d + 1))) (SL d) (SD d) q).1 (q_parts T w (q_rec T w (6 - (d + 1))) (SL d) (SD d) q).2).1 (q_end T (q_parts T w (q_rec T w (6 - (d + 1))) (SL d) (SD d) q).1 (q_parts T w (q_rec T w (6 - (d + 1))) (SL d) (SD d) q).2).2
section CNT
variable {T : Nat → Nat → Nat} {w d : Nat} {SD SD' : Nat → pD} {SL SL' : Nat → Nat} {SI SI' : Nat → Option Nat} {q q' : pQ} {D : pD} {r : pHd}
theorem ct_b (h : q_bad q ≠ 0) : q_cont T w SD SL SI d none q = (none, q) := by
  cases d with
  | zero => rfl
  | succ d => rw [q_cont, if_neg h]
theorem ct_eq : ∀ {d : Nat} {r : pHd} {q : pQ}, (∀ i, i < d → SD' i = SD i ∧ SL' i = SL i ∧ SI' i = SI i) → q_cont T w SD' SL' SI' d r q = q_cont T w SD SL SI d r q
  | 0, _, _, _ => rfl
  | d + 1, r, q, h => by
    rw [q_cont, q_cont, (h d (by omega)).1, (h d (by omega)).2.1, (h d (by omega)).2.2, ct_eq (fun i hi => h i (by omega))]
theorem rs_b (h : q_bad q ≠ 0) : q_res T w SD SL SI d q = (none, q) := by
  unfold q_res
  rw [ps_b h]
  show q_cont T w SD SL SI d (q_end T (SD d) q).1 (q_end T (SD d) q).2 = (none, q)
  rw [en_b h]
  exact ct_b h
theorem rs_eq (h1 : SD' d = SD d) (h2 : SL' d = SL d) (h : ∀ i, i < d → SD' i = SD i ∧ SL' i = SL i ∧ SI' i = SI i) : q_res T w SD' SL' SI' d q = q_res T w SD SL SI d q := by
  unfold q_res
  rw [h1, h2]
  exact ct_eq h
/-- a part that opens no record -/
theorem rs_part {n : Nat} (h : q_bad q = 0) (hn : SL d = n + 1) : q_res T w SD SL SI d q = q_res T w (va_up SD d (q_part T w (q_rec T w (6 - (d + 1))) (SD d) q).1) (va_up SL d n) SI d (q_part T w (q_rec T w (6 - (d + 1))) (SD d) q).2 := by
  have e : q_parts T w (q_rec T w (6 - (d + 1))) (SL d) (SD d) q = q_parts T w (q_rec T w (6 - (d + 1))) (va_up SL d n d) (va_up SD d (q_part T w (q_rec T w (6 - (d + 1))) (SD d) q).1 d) (q_part T w (q_rec T w (6 - (d + 1))) (SD d) q).2 := by rw [va_up_s, va_up_s, hn, ps_s h]
  unfold q_res
  rw [← e]
  exact (ct_eq (fun i hi => ⟨va_up_n _ _ (by omega), va_up_n _ _ (by omega), rfl⟩)).symm
/-- a record ends -/
theorem rs_end (hn : SL d = 0) : q_res T w SD SL SI d q = q_cont T w SD SL SI d (q_end T (SD d) q).1 (q_end T (SD d) q).2 := by
  unfold q_res
  rw [hn]
  rfl
/-- a record ended; the one around goes on -/
theorem ct_s (h : q_bad q = 0) : q_cont T w SD SL SI (d + 1) r q = q_res T w (va_up SD d (q_put (SD d) (SI d) r)) SL SI d q := by
  rw [q_cont, if_pos h]
  have e : va_up SD d (q_put (SD d) (SI d) r) d = q_put (SD d) (SI d) r := va_up_s _ _ _
  unfold q_res
  rw [e]
  exact (ct_eq (fun i hi => ⟨va_up_n _ _ (by omega), rfl, rfl⟩)).symm
/-- a part that opens a record -/
theorem rs_push {n n2 kd : Nat} {p : Option Nat} {b : Bool} {q4 : pQ} (h : q_bad q = 0) (hn : SL d = n + 1) (hp : q_part T w (q_rec T w (6 - (d + 1))) (SD d) q = (q_put (SD d) p (q_rec T w (6 - (d + 1)) b q4).1, (q_rec T w (6 - (d + 1)) b q4).2)) (hr : q_rec T w (6 - (d + 1)) b q4 = q_end T (q_parts T w (q_rec T w (6 - (d + 1 + 1))) n2 (q_d0 w kd b) q').1 (q_parts T w (q_rec T w (6 - (d + 1 + 1))) n2 (q_d0 w kd b) q').2) : q_res T w SD SL SI d q = q_res T w (va_up SD (d + 1) (q_d0 w kd b)) (va_up (va_up SL d n) (d + 1) n2) (va_up SI d p) (d + 1) q' := by
  rw [rs_part h hn, hp]
  have e : q_res T w (va_up SD (d + 1) (q_d0 w kd b)) (va_up (va_up SL d n) (d + 1) n2) (va_up SI d p) (d + 1) q' = q_cont T w (va_up SD (d + 1) (q_d0 w kd b)) (va_up (va_up SL d n) (d + 1) n2) (va_up SI d p) (d + 1) (q_rec T w (6 - (d + 1)) b q4).1 (q_rec T w (6 - (d + 1)) b q4).2 := by
    rw [hr]
    unfold q_res
    rw [va_up_s, va_up_s]
  rw [e]
  show q_res T w (va_up SD d (q_put (SD d) p (q_rec T w (6 - (d + 1)) b q4).1)) (va_up SL d n) SI d (q_rec T w (6 - (d + 1)) b q4).2 = _
  by_cases hb : q_bad (q_rec T w (6 - (d + 1)) b q4).2 = 0
  · rw [ct_s hb]
    refine rs_eq ?_ ?_ (fun i hi => ⟨?_, ?_, ?_⟩)
    · rw [va_up_s, va_up_s, va_up_n _ _ (show d ≠ d + 1 by omega), va_up_s]
    · rw [va_up_s, va_up_n _ _ (show d ≠ d + 1 by omega), va_up_s]
    · rw [va_up_n _ _ (show i ≠ d by omega), va_up_n _ _ (show i ≠ d by omega), va_up_n _ _ (show i ≠ d + 1 by omega)]
    · rw [va_up_n _ _ (show i ≠ d + 1 by omega)]
    · rw [va_up_n _ _ (show i ≠ d by omega)]
  · rw [rs_b hb, q_cont, if_neg hb]
end CNT
