
/-- what both sides tell of: a thing is nothing, a constant, a row, a record -/
abbrev pHd : Type := Option (Nat ⊕ (Nat ⊕ Nat))
/-- N 0 the rows' sizes, N 1 the records' shapes, N 2 their numbers of parts, N 3 the given places, N 4 how many leaves; Y 0 causes and counts, Y 1 items; Z 0 numbers, Z 1 given numbers, Z 2 leaves; X 0 places, X 1 things -/
abbrev pG : Type := (Nat → Nat → Nat) × (Nat → Nat → Int32) × (Nat → Nat → Int64) × (Nat → Nat → pHd)
abbrev pR : Type := Int32 × Nat × Nat × pG
abbrev hcon (n : Nat) : pHd := some (.inl n)
abbrev hrow (n : Nat) : pHd := some (.inr (.inl n))
abbrev hrec (n : Nat) : pHd := some (.inr (.inr n))
def gN (G : pG) (i : Nat) (g : Nat → Nat) : pG := (va_up G.1 i g, G.2)
def gY (G : pG) (i : Nat) (g : Nat → Int32) : pG := (G.1, va_up G.2.1 i g, G.2.2)
def gZ (G : pG) (i : Nat) (g : Nat → Int64) : pG := (G.1, G.2.1, va_up G.2.2.1 i g, G.2.2.2)
def gX (G : pG) (i : Nat) (g : Nat → pHd) : pG := (G.1, G.2.1, G.2.2.1, va_up G.2.2.2 i g)
def enc : pHd → Int32
  | none => -1
  | some (.inl n) => nI n
  | some (.inr (.inl n)) => nI (100 + n)
  | some (.inr (.inr n)) => nI (1000000 + n)
def hok (ρ κ : Nat) : pHd → Prop
  | none => True
  | some (.inl n) => n < 60
  | some (.inr (.inl n)) => n < ρ
  | some (.inr (.inr n)) => n < κ
def hst (s : Nat) : pHd → Prop
  | none => True
  | some (.inl _) => s = 2
  | some (.inr (.inl _)) => s = 4
  | some (.inr (.inr _)) => s = 3
theorem hok.mono {ρ κ ρ' κ' : Nat} {h : pHd} (q : hok ρ κ h) (hr : ρ ≤ ρ') (hk : κ ≤ κ') : hok ρ' κ' h := by
  rcases h with _ | n | n | n
  · trivial
  · exact q
  · exact Nat.lt_of_lt_of_le q hr
  · exact Nat.lt_of_lt_of_le q hk
theorem pu_m1 {n : Nat} (h : n < 2 ^ 31) : ¬ nI n = -1 := fun e => by
  have a := nI_toInt h
  rw [e] at a
  have b : (-1 : Int32).toInt = -1 := by decide
  omega
theorem enc_inj {ρ κ : Nat} {h h' : pHd} (hρ : ρ ≤ 43100) (hκ : κ ≤ 26200) (q : hok ρ κ h) (q' : hok ρ κ h') (e : enc h = enc h') : h = h' := by
  rcases h with _ | n | n | n <;> rcases h' with _ | n' | n' | n' <;> simp only [enc, hok] at e q q'
  · rfl
  · exact absurd e.symm (pu_m1 (by omega))
  · exact absurd e.symm (pu_m1 (by omega))
  · exact absurd e.symm (pu_m1 (by omega))
  · exact absurd e (pu_m1 (by omega))
  · rw [(nI_eq (by omega) (by omega)).mp e]
  · have := (nI_eq (by omega) (by omega)).mp e; omega
  · have := (nI_eq (by omega) (by omega)).mp e; omega
  · exact absurd e (pu_m1 (by omega))
  · have := (nI_eq (by omega) (by omega)).mp e; omega
  · have : n = n' := by have := (nI_eq (by omega) (by omega)).mp e; omega
    rw [this]
  · have := (nI_eq (by omega) (by omega)).mp e; omega
  · exact absurd e (pu_m1 (by omega))
  · have := (nI_eq (by omega) (by omega)).mp e; omega
  · have := (nI_eq (by omega) (by omega)).mp e; omega
  · have : n = n' := by have := (nI_eq (by omega) (by omega)).mp e; omega
    rw [this]
/-- an index below a bound -/
def pu_ix (n : Nat) (x : Int32) : Option Nat := if 0 ≤ x.toInt ∧ x.toInt < n then some x.toInt.toNat else none
def pu_rk (x : Int64) : Option Nat := if 2 ≤ x.toInt ∧ x.toInt < 6 then some (x.toInt.toNat - 2) else none
theorem pu_ix_s {n j : Nat} (h : j < n) (hn : n < 2 ^ 31) : pu_ix n (nI j) = some j := by
  unfold pu_ix
  rw [nI_toInt (by omega), if_pos ⟨by omega, by omega⟩]
  simp
theorem pu_ix_n {n : Nat} {x : Int32} (hn : n < 2 ^ 31) (h : ¬ ∃ j : Nat, j < n ∧ x = nI j) : pu_ix n x = none := by
  unfold pu_ix
  rw [if_neg]
  rintro ⟨h1, h2⟩
  refine h ⟨x.toInt.toNat, by omega, ?_⟩
  apply Int32.toInt_inj.mp
  rw [nI_toInt (by omega)]
  omega
theorem pu_rk_s {k : Nat} (h : k < 4) : pu_rk (nI (2 + k)).toInt64 = some k := by
  unfold pu_rk
  rw [Int32.toInt_toInt64, nI_toInt (by omega), if_pos ⟨by omega, by omega⟩]
  congr 1
  omega
theorem pu_rk_n {x : Int64} (h : ¬ (2 ≤ x ∧ x ≤ 5)) : pu_rk x = none := by
  unfold pu_rk
  rw [if_neg]
  rintro ⟨h1, h2⟩
  refine h ?_
  rw [Int64.le_iff_toInt_le, Int64.le_iff_toInt_le, show (2 : Int64).toInt = 2 by decide, show (5 : Int64).toInt = 5 by decide]
  omega
theorem pu_rk_l {x : Int64} (h : 2 ≤ x ∧ x ≤ 5) : ∃ k : Nat, k < 4 ∧ x = (nI (2 + k)).toInt64 := by
  rw [Int64.le_iff_toInt_le, Int64.le_iff_toInt_le, show (2 : Int64).toInt = 2 by decide, show (5 : Int64).toInt = 5 by decide] at h
  refine ⟨x.toInt.toNat - 2, by omega, ?_⟩
  apply Int64.toInt_inj.mp
  rw [Int32.toInt_toInt64, nI_toInt (by omega)]
  omega
def ob {α : Type} (o : Option Nat) (d : α) (k : Nat → α) : α := match o with
  | none => d
  | some n => k n
theorem ob_c {α : Type} (o : Option Nat) (d : α) : ob o d (fun _ => d) = d := by cases o <;> rfl
/-- the first of a name -/
def pu_find (g : Nat → Nat) (x : Int64) : Nat → Option Nat
  | 0 => none
  | n + 1 => match pu_find g x n with
    | some i => some i
    | none => if (nI (g n)).toInt64 = x then some n else none
theorem pu_find_n {g : Nat → Nat} {x : Int64} : ∀ {n : Nat}, (∀ i, i < n → (nI (g i)).toInt64 ≠ x) → pu_find g x n = none
  | 0, _ => rfl
  | n + 1, h => by
    unfold pu_find
    rw [pu_find_n (fun i hi => h i (by omega))]
    simp only
    rw [if_neg (h n (by omega))]
theorem pu_find_s {g : Nat → Nat} {x : Int64} {i : Nat} (h : ∀ i', i' < i → (nI (g i')).toInt64 ≠ x) (he : (nI (g i)).toInt64 = x) : ∀ {n : Nat}, i < n → pu_find g x n = some i
  | 0, hn => absurd hn (Nat.not_lt_zero _)
  | n + 1, hn => by
    unfold pu_find
    by_cases hi : i < n
    · rw [pu_find_s h he hi]
    · have : i = n := by omega
      subst this
      rw [pu_find_n h]
      simp only
      rw [if_pos he]
/-- the first cause -/
def pu_fst (g : Nat → Nat) : Nat → Nat
  | 0 => 0
  | n + 1 => if pu_fst g n = 0 then g n else pu_fst g n
theorem pu_fst_s {g : Nat → Nat} {n : Nat} (h : pu_fst g n = 0) : pu_fst g (n + 1) = g n := by simp [pu_fst, h]
theorem pu_fst_k {g : Nat → Nat} {i : Nat} (h : pu_fst g i ≠ 0) : ∀ {n : Nat}, i ≤ n → pu_fst g n = pu_fst g i
  | 0, hn => by have : i = 0 := by omega
                rw [this]
  | n + 1, hn => by
    by_cases hi : i = n + 1
    · rw [hi]
    · have := pu_fst_k h (n := n) (by omega)
      rw [pu_fst, this, if_neg h]
theorem pu_fst_le {g : Nat → Nat} {b : Nat} (h : ∀ i, g i ≤ b) : ∀ n, pu_fst g n ≤ b
  | 0 => Nat.zero_le _
  | n + 1 => by
    rw [pu_fst]
    split
    · exact h n
    · exact pu_fst_le h n
def fam (T : Nat → Nat → Nat) : pHd → Nat
  | none => 0
  | some (.inl n) => 1 + T 9 n
  | some (.inr (.inl _)) => 3
  | some (.inr (.inr _)) => 4
def pu_tk (T : Nat → Nat → Nat) (G : pG) (j p : Nat) (v : Int64) (h : pHd) : Nat :=
  if T 4 (5 * j + p) < 2 then (if T 4 (5 * j + p) = 0 ∧ ¬ ((-2147483648 : Int64) ≤ v ∧ v ≤ 2147483647) then 2 else 0)
  else match h with
    | none => 0
    | some (.inl n) => if T 4 (5 * j + p) = 2 then (if n / 10 = 3 * T 8 (5 * j + p) + j % 3 then 0 else 2) else 1
    | some (.inr (.inl _)) => if T 4 (5 * j + p) = 4 then 0 else 1
    | some (.inr (.inr n)) => if T 4 (5 * j + p) = 3 then (if G.1 1 n = 3 * (T 8 (5 * j + p) - 2) + j % 3 then 0 else 2) else 1
def pu_ck (T : Nat → Nat → Nat) (G : pG) (w : Nat) (n : Int64) (h : pHd) (b : Int64) : Nat :=
  if w = 0 then (if n ≤ b then 0 else 2)
  else if w = 1 then (if n = 0 then 5 else if (100 : Int64) - 100 / n * n = 0 then 0 else 2)
  else match h with
    | none => 3
    | some (.inl c) => if (nI (c % 10)).toInt64 < b then 0 else 2
    | some (.inr (.inl r)) => if 0 ≤ b.toInt ∧ b.toInt < G.1 0 r then (if (0 : Int32) < G.2.1 1 (8 * r + b.toInt.toNat) then 0 else 2) else 4
    | some (.inr (.inr r)) => if G.1 2 r = 0 then 4 else if 2 ≤ T 4 (5 * G.1 1 r) then 1 else if G.2.2.1 0 (5 * r) = b then 0 else 2
def pu_why (T : Nat → Nat → Nat) (G : pG) (j : Nat) (N : Nat → Int64) (X : Nat → pHd) : Nat :=
  if pu_fst (fun p => pu_tk T G j p (N p) (X p)) (T 2 j) = 0 then pu_fst (fun c => pu_ck T G (T 6 (2 * j + c)) (N (T 7 (2 * j + c))) (X (T 7 (2 * j + c))) (N (T 10 (2 * j + c)))) (T 5 j)
  else pu_fst (fun p => pu_tk T G j p (N p) (X p)) (T 2 j)
theorem pu_tk_le (T : Nat → Nat → Nat) (G : pG) (j p : Nat) (v : Int64) (h : pHd) : pu_tk T G j p v h ≤ 2 := by
  unfold pu_tk
  split
  · split <;> omega
  · rcases h with _ | n | n | n <;> simp only
    · omega
    · split
      · split <;> omega
      · omega
    · split <;> omega
    · split
      · split <;> omega
      · omega
theorem pu_ck_le (T : Nat → Nat → Nat) (G : pG) (w : Nat) (n : Int64) (h : pHd) (b : Int64) : pu_ck T G w n h b ≤ 5 := by
  unfold pu_ck
  split
  · split <;> omega
  · split
    · split
      · omega
      · split <;> omega
    · rcases h with _ | n | n | n <;> simp only
      · omega
      · split <;> omega
      · split
        · split <;> omega
        · omega
      · split
        · omega
        · split
          · omega
          · split <;> omega
theorem pu_why_le (T : Nat → Nat → Nat) (G : pG) (j : Nat) (N : Nat → Int64) (X : Nat → pHd) : pu_why T G j N X ≤ 8 := by
  unfold pu_why
  split
  · exact Nat.le_trans (pu_fst_le (b := 5) (fun i => pu_ck_le _ _ _ _ _ _) _) (by omega)
  · exact Nat.le_trans (pu_fst_le (b := 2) (fun i => pu_tk_le _ _ _ _ _ _) _) (by omega)
def pu_up {α : Type} (c : Nat) (v : Nat → α) (i : Nat) (d : Nat → α) : Nat → α := fun x => if c ≤ x ∧ x < c + i then v (x - c) else d x
theorem pu_up_0 {α : Type} {c : Nat} {v d : Nat → α} : pu_up c v 0 d = d := by
  funext x
  unfold pu_up
  rw [if_neg (by omega)]
theorem pu_up_x {α : Type} {c : Nat} {v d : Nat → α} {i : Nat} : (fun x => if x = c + i then v i else pu_up c v i d x) = pu_up c v (i + 1) d := by
  funext x
  unfold pu_up
  by_cases h1 : x = c + i
  · subst h1
    rw [if_pos rfl, if_pos (by omega)]
    congr
    omega
  · rw [if_neg h1]
    by_cases h2 : c ≤ x ∧ x < c + i
    · rw [if_pos h2, if_pos (by omega)]
    · rw [if_neg h2, if_neg (by omega)]
theorem pu_up_s {c : Nat} {v d : Nat → Int32} {i : Nat} {y : Int32} (h : y = v i) : upd (pu_up c v i d) (c + i) y = pu_up c v (i + 1) d := by rw [h]; exact pu_up_x
theorem pu_up_l {c : Nat} {v d : Nat → Int64} {i : Nat} {y : Int64} (h : y = v i) : vp_updL (pu_up c v i d) (c + i) y = pu_up c v (i + 1) d := by rw [h]; exact pu_up_x
theorem pu_up_o {α : Type} {c : Nat} {v d : Nat → α} {i x : Nat} (h : x < c) : pu_up c v i d x = d x := by unfold pu_up; rw [if_neg (by omega)]
theorem pu_up_i {α : Type} {c : Nat} {v d : Nat → α} {i x : Nat} (h : x < i) : pu_up c v i d (c + x) = v x := by
  unfold pu_up
  rw [if_pos (by omega)]
  congr
  omega
/-- a record more -/
def pu_new (T : Nat → Nat → Nat) (κ : Nat) (G : pG) (j : Nat) (N : Nat → Int64) (X : Nat → pHd) : pG :=
  gX (gZ (gY (gN (gN G 1 (va_up (G.1 1) κ j)) 2 (va_up (G.1 2) κ (T 2 j))) 0 (upd (G.2.1 0) 3 (G.2.1 0 3 + 1))) 0 (pu_up (5 * κ) (fun p => if T 4 (5 * j + p) < 2 then N p else 0) (T 2 j) (G.2.2.1 0))) 1 (pu_up (5 * κ) (fun p => if T 4 (5 * j + p) < 2 then none else X p) (T 2 j) (G.2.2.2 1))
/-- a row more -/
def pu_row (ρ : Nat) (G : pG) (n : Nat) : pG := gY (gN G 0 (va_up (G.1 0) ρ n)) 1 (pu_up (8 * ρ) (fun _ => 0) 8 (G.2.1 1))
def pu_say (G : pG) (a b c : Int32) : pG := gY G 0 (upd (upd (upd (G.2.1 0) 0 a) 1 b) 2 c)
/-- the calls -/
def f_hold (T : Nat → Nat → Nat) (ρ κ : Nat) (G : pG) (x1 x2 x3 x4 : Int32) : pR :=
  ob (pu_ix 10 x1) (-1, ρ, κ, G) fun p => ob (pu_ix 2 x2) (-1, ρ, κ, G) fun k => ob (pu_ix 3 x3) (-1, ρ, κ, G) fun v => ob (pu_ix 10 x4) (-1, ρ, κ, G) fun _ =>
  ob (pu_find (fun i => T 1 (10 * (3 * k + v) + i)) x4.toInt64 (T 0 (3 * k + v))) (-3, ρ, κ, G) fun i => (nI i, ρ, κ, gX G 0 (va_up (G.2.2.2 0) p (hcon (10 * (3 * k + v) + i))))
def f_row (ρ κ : Nat) (G : pG) (x1 x2 : Int32) : pR :=
  ob (pu_ix 10 x1) (-1, ρ, κ, G) fun p => if x2 = -3 then (1, ρ, κ, gX G 0 (va_up (G.2.2.2 0) p none)) else ob (pu_ix 9 x2) (-1, ρ, κ, G) fun n => (1, ρ + 1, κ, gX (pu_row ρ G n) 0 (va_up (G.2.2.2 0) p (hrow ρ)))
def f_item (ρ κ : Nat) (G : pG) (x1 x2 x3 : Int32) : pR :=
  ob (pu_ix 10 x1) (-1, ρ, κ, G) fun p => match G.2.2.2 0 p with
    | some (.inr (.inl r)) => ob (pu_ix (G.1 0 r) x2) (-1, ρ, κ, G) fun i => (G.2.1 1 (8 * r + i), ρ, κ, gY G 1 (upd (G.2.1 1) (8 * r + i) x3))
    | _ => (-1, ρ, κ, G)
def f_share (T : Nat → Nat → Nat) (ρ κ : Nat) (G : pG) (x1 x2 : Int32) : pR :=
  ob (pu_ix 10 x1) (-1, ρ, κ, G) fun p => ob (pu_ix 10 x2) (-1, ρ, κ, G) fun q => (nI (fam T (G.2.2.2 0 q)), ρ, κ, gX G 0 (va_up (G.2.2.2 0) p (G.2.2.2 0 q)))
def f_give (ρ κ : Nat) (G : pG) (x1 : Int32) (x2 : Int64) (x4 : Int32) : pR :=
  ob (pu_ix 5 x1) (-1, ρ, κ, G) fun p => ob (pu_ix 10 x4) (-1, ρ, κ, G) fun q => (1, ρ, κ, gN (gZ G 1 (vp_updL (G.2.2.1 1) p x2)) 3 (va_up (G.1 3) p q))
def f_make (T : Nat → Nat → Nat) (ρ κ : Nat) (G : pG) (x1 x2 x3 : Int32) : pR :=
  ob (pu_rk x1.toInt64) (-1, ρ, κ, G) fun k => ob (pu_ix 3 x2) (-1, ρ, κ, G) fun v => ob (pu_ix 10 x3) (-1, ρ, κ, G) fun p =>
  if pu_why T G (3 * k + v) (G.2.2.1 1) (fun q => G.2.2.2 0 (G.1 3 q)) = 0 then (0, ρ, κ + 1, pu_say (gX (pu_new T κ G (3 * k + v) (G.2.2.1 1) (fun q => G.2.2.2 0 (G.1 3 q))) 0 (va_up (G.2.2.2 0) p (hrec κ))) 0 (-3) 0)
  else (nI (pu_why T G (3 * k + v) (G.2.2.1 1) (fun q => G.2.2.2 0 (G.1 3 q))), ρ, κ, pu_say G (nI (pu_why T G (3 * k + v) (G.2.2.1 1) (fun q => G.2.2.2 0 (G.1 3 q)))) (-3) 0)
def f_about (T : Nat → Nat → Nat) (G : pG) (x1 x2 : Int32) : Int32 :=
  ob (pu_ix 10 x1) (-1) fun p => ob (pu_ix 4 x2) (-1) fun w => if w = 0 then nI (fam T (G.2.2.2 0 p)) else match G.2.2.2 0 p with
    | none => if w = 3 then 0 else -3
    | some (.inl n) => if w = 1 then nI (n / 10 / 3) else if w = 2 then nI (n / 10 % 3) else nI (n % 10)
    | some (.inr (.inl r)) => if w = 3 then nI (G.1 0 r) else -3
    | some (.inr (.inr r)) => if w = 1 then nI (2 + G.1 1 r / 3) else if w = 2 then nI (G.1 1 r % 3) else nI (G.1 2 r)
/-- a part of a held record: its record and place there -/
def pu_at (G : pG) (x1 x2 : Int32) : Option (Nat × Nat) :=
  ob (pu_ix 10 x1) none fun p => match G.2.2.2 0 p with
    | some (.inr (.inr r)) => ob (pu_ix (G.1 2 r) x2) none fun q => some (r, q)
    | _ => none
def f_number (T : Nat → Nat → Nat) (G : pG) (x1 x2 : Int32) : Int64 := match pu_at G x1 x2 with
  | none => 0
  | some (r, q) => if T 4 (5 * G.1 1 r + q) < 2 then G.2.2.1 0 (5 * r + q) else (nI (fam T (G.2.2.2 1 (5 * r + q)))).toInt64 - 10
def f_take (T : Nat → Nat → Nat) (ρ κ : Nat) (G : pG) (x1 x2 x3 : Int32) : pR := match pu_at G x1 x2 with
  | none => (-1, ρ, κ, G)
  | some (r, q) => ob (pu_ix 10 x3) (-1, ρ, κ, G) fun p => if T 4 (5 * G.1 1 r + q) < 2 then (-1, ρ, κ, G) else (nI (fam T (G.2.2.2 1 (5 * r + q))), ρ, κ, gX G 0 (va_up (G.2.2.2 0) p (G.2.2.2 1 (5 * r + q))))
def f_leaf (G : pG) (x1 : Int32) : Int64 := ob (pu_ix (G.1 4 0) x1) 0 fun k => G.2.2.1 2 k
def f_set (ρ κ : Nat) (G : pG) (x1 : Int32) (x2 : Int64) : pR :=
  ob (pu_ix (G.1 4 0 + 1) x1) (-1, ρ, κ, G) fun k => if k = 250 then (-2, ρ, κ, G) else (nI (max (G.1 4 0) (k + 1)), ρ, κ, gN (gZ G 2 (vp_updL (G.2.2.1 2) k x2)) 4 (fun _ => max (G.1 4 0) (k + 1)))
def f_cut (ρ κ : Nat) (G : pG) (x1 : Int32) : pR :=
  ob (pu_ix (G.1 4 0 + 1) x1) (-1, ρ, κ, G) fun n => (nI (G.1 4 0 - n), ρ, κ, gN G 4 (fun _ => n))
def f_cause (G : pG) (x1 : Int32) : Int32 := if x1 = 0 then G.2.1 0 0 else if x1 = 1 then G.2.1 0 1 else if x1 = 2 then G.2.1 0 2 else -1
def pu_held (X : Nat → pHd) : Nat → Nat
  | 0 => 0
  | n + 1 => pu_held X n + (match X n with
    | none => 0
    | some _ => 1)
def f_count (G : pG) (x1 : Int32) : Int32 := if x1 = 0 then G.2.1 0 3 else if x1 = 1 then G.2.1 0 4 else if x1 = 2 then G.2.1 0 5 else if x1 = 3 then nI (G.1 4 0) else if x1 = 4 then nI (pu_held (G.2.2.2 0) 10) else -1
theorem pu_held_le (X : Nat → pHd) : ∀ n, pu_held X n ≤ n
  | 0 => Nat.le_refl _
  | n + 1 => by
    have := pu_held_le X n
    rw [pu_held]
    split <;> omega
/-- likeness, within so many records still -/
def pu_rl (G : pG) (a b : Nat) : Prop := G.1 0 a = G.1 0 b ∧ ∀ i, i < G.1 0 a → G.2.1 1 (8 * a + i) = G.2.1 1 (8 * b + i)
def pu_op (G : pG) (a b : Nat) : Prop := G.1 1 a = G.1 1 b ∧ G.1 2 a = G.1 2 b ∧ ∀ p, p < G.1 2 a → G.2.2.1 0 (5 * a + p) = G.2.2.1 0 (5 * b + p)
def pu_lk (G : pG) : Nat → pHd → pHd → Prop
  | 0, x, y => x = y ∨ ∃ a b, x = hrow a ∧ y = hrow b ∧ pu_rl G a b
  | k + 1, x, y => x = y ∨ (∃ a b, x = hrow a ∧ y = hrow b ∧ pu_rl G a b) ∨ ∃ a b, x = hrec a ∧ y = hrec b ∧ pu_op G a b ∧ ∀ p, p < G.1 2 a → pu_lk G k (G.2.2.2 1 (5 * a + p)) (G.2.2.2 1 (5 * b + p))
noncomputable def f_like (G : pG) (x1 x2 : Int32) : Int32 :=
  ob (pu_ix 10 x1) (-1) fun p => ob (pu_ix 10 x2) (-1) fun q => @ite _ (pu_lk G 6 (G.2.2.2 0 p) (G.2.2.2 0 q)) (Classical.propDecidable _) 1 0
/-- the leaves of a record -/
def pu_wv (T : Nat → Nat → Nat) (G : pG) (R : Nat → List Int64) (r p : Nat) : List Int64 :=
  if T 4 (5 * G.1 1 r + p) < 2 then [G.2.2.1 0 (5 * r + p)] else match G.2.2.2 1 (5 * r + p) with
    | none => [if T 4 (5 * G.1 1 r + p) = 3 then 0 else -1]
    | some (.inl c) => [(nI (T 1 c)).toInt64]
    | some (.inr (.inl q)) => (nI (G.1 0 q)).toInt64 :: (List.range (G.1 0 q)).map (fun i => (G.2.1 1 (8 * q + i)).toInt64)
    | some (.inr (.inr q)) => 1 :: R q
def pu_wp (T : Nat → Nat → Nat) (G : pG) (R : Nat → List Int64) (r : Nat) : Nat → Nat → List Int64
  | _, 0 => []
  | p, n + 1 => (nI (T 3 (5 * G.1 1 r + p))).toInt64 :: (nI (T 4 (5 * G.1 1 r + p))).toInt64 :: (pu_wv T G R r p ++ pu_wp T G R r (p + 1) n)
def pu_wl (T : Nat → Nat → Nat) (G : pG) : Nat → Nat → List Int64
  | 0, _ => List.replicate 251 0
  | k + 1, r => (nI (2 + G.1 1 r / 3)).toInt64 :: (nI (G.1 2 r)).toInt64 :: pu_wp T G (pu_wl T G k) r 0 (G.1 2 r)
def f_write (T : Nat → Nat → Nat) (ρ κ : Nat) (G : pG) (x1 : Int32) : pR :=
  ob (pu_ix 10 x1) (-1, ρ, κ, G) fun p => match G.2.2.2 0 p with
    | some (.inr (.inr r)) => if 250 < (pu_wl T G 50 r).length then (-2, ρ, κ, G) else (nI (pu_wl T G 50 r).length, ρ, κ, gN (gZ G 2 (fun k => (pu_wl T G 50 r).getD k 0)) 4 (fun _ => (pu_wl T G 50 r).length))
    | _ => (-1, ρ, κ, G)
/-- one reading: at, last, the cause, how deep, rows, records, the rest -/
abbrev pQ : Type := Nat × Int32 × Nat × Nat × Nat × Nat × pG
def q_leaf (q : pQ) : Int64 × pQ :=
  if q.2.2.1 = 0 then (if q.1 < q.2.2.2.2.2.2.1 4 0 then (q.2.2.2.2.2.2.2.2.1 2 q.1, (q.1 + 1, nI q.1, q.2.2)) else (0, (q.1, nI q.1, 4, q.2.2.2))) else (0, q)
def q_fail (c : Nat) (q : pQ) : pQ := if q.2.2.1 = 0 then (q.1, q.2.1, c, q.2.2.2) else q
