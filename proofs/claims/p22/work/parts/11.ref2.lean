
/-- the tables: T 0 how many constants, T 1 their names, T 2 how many parts, T 3 their names, T 4 their sorts, T 5 how many checks, T 6 how, T 7 part a, T 8 of, T 9 loud, T 10 part b -/
def rt_srt (h : Nat) : Nat := if h < 2 then 0 else if h = 2 then 4 else if h = 3 then 3 else 2
def RTc (T : Nat → Nat → Nat) (a0 a1 a2 : Nat → Int32) : Prop := (∀ b, b < 6 → a0 b = nI (T 0 b) ∧ T 0 b ≤ 10) ∧ (∀ b i, b < 6 → i < T 0 b → a1 (10 * b + i) = nI (T 1 (10 * b + i)) ∧ T 1 (10 * b + i) < 10) ∧ (∀ b i i', b < 6 → i < T 0 b → i' < T 0 b → T 1 (10 * b + i) = T 1 (10 * b + i') → i = i') ∧ ∀ n, n < 60 → a1 n = nI (T 1 n) ∧ a2 n = nI (T 9 n) ∧ T 9 n < 2 ∧ T 1 n < 10
def rt_of (s o : Nat) (x : Int32) : Prop := (s = 2 → o < 2 ∧ x = nI o) ∧ (s = 3 → 2 ≤ o ∧ o < 6 ∧ x = nI o)
def RTp (T : Nat → Nat → Nat) (a3 a4 a5 a6 : Nat → Int32) : Prop := (∀ j, j < 12 → a3 j = nI (T 2 j) ∧ T 2 j ≤ 5) ∧ ∀ j p, j < 12 → p < T 2 j → a4 (5 * j + p) = nI (T 3 (5 * j + p)) ∧ T 3 (5 * j + p) < 10 ∧ a5 (5 * j + p) = nI (T 4 (5 * j + p)) ∧ T 4 (5 * j + p) < 5 ∧ rt_of (T 4 (5 * j + p)) (T 8 (5 * j + p)) (a6 (5 * j + p))
def rt_kb (T : Nat → Nat → Nat) (j h b : Nat) (x : Int32) : Prop := h ≠ 1 → b < T 2 j ∧ x = nI b ∧ T 4 (5 * j + b) = 0
def RTk (T : Nat → Nat → Nat) (a7 a8 a9 a10 : Nat → Int32) : Prop := (∀ j, j < 12 → a7 j = nI (T 5 j) ∧ T 5 j ≤ 2) ∧ ∀ j c, j < 12 → c < T 5 j → a8 (2 * j + c) = nI (T 6 (2 * j + c)) ∧ T 6 (2 * j + c) < 5 ∧ a9 (2 * j + c) = nI (T 7 (2 * j + c)) ∧ T 7 (2 * j + c) < T 2 j ∧ T 4 (5 * j + T 7 (2 * j + c)) = rt_srt (T 6 (2 * j + c)) ∧ rt_kb T j (T 6 (2 * j + c)) (T 10 (2 * j + c)) (a10 (2 * j + c))
/-- the rest, as the reference holds it -/
def GW (T : Nat → Nat → Nat) (ρ κ : Nat) (G : pG) : Prop := (∀ r, r < ρ → G.1 0 r ≤ 8) ∧ (∀ r, r < κ → G.1 1 r < 12 ∧ G.1 2 r ≤ T 2 (G.1 1 r) ∧ ∀ p, p < G.1 2 r → hok ρ κ (G.2.2.2 1 (5 * r + p)) ∧ hst (T 4 (5 * G.1 1 r + p)) (G.2.2.2 1 (5 * r + p)) ∧ (2 ≤ T 4 (5 * G.1 1 r + p) → G.2.2.1 0 (5 * r + p) = 0)) ∧ (∀ p, p < 10 → hok ρ κ (G.2.2.2 0 p)) ∧ (∀ p, p < 5 → G.1 3 p < 10) ∧ G.1 4 0 ≤ 250
def RGr (ρ : Nat) (G : pG) (a12 a13 : Nat → Int32) : Prop := (∀ r, r < ρ → a12 r = nI (G.1 0 r)) ∧ ∀ x, x < 8 * ρ → a13 x = G.2.1 1 x
def RGd (κ : Nat) (G : pG) (a15 a16 : Nat → Int32) (b17 : Nat → Int64) (a18 : Nat → Int32) : Prop := ∀ r, r < κ → a15 r = nI (G.1 1 r) ∧ a16 r = nI (G.1 2 r) ∧ ∀ p, p < G.1 2 r → b17 (5 * r + p) = G.2.2.1 0 (5 * r + p) ∧ a18 (5 * r + p) = enc (G.2.2.2 1 (5 * r + p))
def RGp (G : pG) (a19 : Nat → Int32) (b20 : Nat → Int64) (a21 : Nat → Int32) : Prop := (∀ p, p < 10 → a19 p = enc (G.2.2.2 0 p)) ∧ ∀ p, p < 5 → b20 p = G.2.2.1 1 p ∧ a21 p = nI (G.1 3 p)
def RGt (G : pG) (f22 : Int32) (b23 : Nat → Int64) : Prop := f22 = nI (G.1 4 0) ∧ ∀ k, k < G.1 4 0 → b23 k = G.2.2.1 2 k
def RGc (G : pG) (F : Nat → Int32) : Prop := F 24 = G.2.1 0 0 ∧ F 25 = G.2.1 0 1 ∧ F 26 = G.2.1 0 2 ∧ F 28 = G.2.1 0 3 ∧ F 29 = G.2.1 0 4 ∧ F 30 = G.2.1 0 5
/-- the reference, between two calls -/
def RS (t : Nat → ClassId) (f : rl_M) (m : Nat) (T : Nat → Nat → Nat) (ρ κ : Nat) (G : pG) : Prop := ∃ (I : Nat → Nat → Int32) (L : Nat → Nat → Int64) (F : Nat → Int32), RM t f m I L F ∧ RTc T (I 0) (I 1) (I 2) ∧ RTp T (I 3) (I 4) (I 5) (I 6) ∧ RTk T (I 7) (I 8) (I 9) (I 10) ∧ GW T ρ κ G ∧ RGr ρ G (I 12) (I 13) ∧ RGd κ G (I 15) (I 16) (L 17) (I 18) ∧ RGp G (I 19) (L 20) (I 21) ∧ RGt G (F 22) (L 23) ∧ RGc G F ∧ F 11 = nI ρ ∧ F 14 = nI κ
theorem GW.cases {ρ κ : Nat} {h : pHd} (q : hok ρ κ h) : h = none ∨ (∃ n, n < 60 ∧ h = hcon n) ∨ (∃ n, n < ρ ∧ h = hrow n) ∨ ∃ n, n < κ ∧ h = hrec n := by
  rcases h with _ | n | n | n
  · exact Or.inl rfl
  · exact Or.inr (Or.inl ⟨n, q, rfl⟩)
  · exact Or.inr (Or.inr (Or.inl ⟨n, q, rfl⟩))
  · exact Or.inr (Or.inr (Or.inr ⟨n, q, rfl⟩))

set_option maxHeartbeats 4000000 in
set_option maxRecDepth 100000 in
theorem cR_constantBy (l : Launch) (D : va_G) (t : Nat → ClassId) (A : Nat → Prop) (f : rl_M) (z : Nat) (m : Nat) (I : Nat → Nat → Int32) (L : Nat → Nat → Int64) (F : Nat → Int32) (hR : RM t f m I L F) (T : Nat → Nat → Nat) (hT : RTc T (I 0) (I 1) (I 2)) (k v : Nat) (hk : k < 2) (hv : v < 3) (x : Int64) : rl_Met l yX12_constantBy (.code yX12_constantBy cX12_constantBy 7 (some FieldType.int)) (rl_rm 0 0 0) D t A f z [.ref (m), .int (nI (k)), .int (nI (v)), .long (x)] (rl_qi z fun r f1 => f = f1 ∧ ((∃ i, i < T 0 (3 * k + v) ∧ r = nI (10 * (3 * k + v) + i) ∧ (nI (T 1 (10 * (3 * k + v) + i))).toInt64 = x ∧ ∀ i', i' < i → (nI (T 1 (10 * (3 * k + v) + i'))).toInt64 ≠ x) ∨ (r = -3 ∧ ∀ i, i < T 0 (3 * k + v) → (nI (T 1 (10 * (3 * k + v) + i))).toInt64 ≠ x))) := by
  refine rl_begin (own := RX12) (lv := [(0, .ref (m)), (1, .int (nI (k))), (2, .int (nI (v))), (3, .long (x))]) (by decide +kernel) rfl (Nat.le_of_ble_eq_true rfl) rfl fun p e s m0 args below meth c ls H locs hC hr hlk hnm hW hl hx hb => ?_
  refine lv_iconst (v := (nI (3))) hx hb dX12_constantBy_0 (by decide) ?_
  refine lv_iload_n hx hb dX12_constantBy_1 rfl (lv_at hl 1 rfl) ?_
  refine lv_imul hx hb dX12_constantBy_2 ?_
  refine rl_topn (pk_mul _ _) ?_
  refine lv_iload_n hx hb dX12_constantBy_3 rfl (lv_at hl 2 rfl) ?_
  refine lv_iadd hx hb dX12_constantBy_4 ?_
  refine rl_topn (nI_add _ _) ?_
  refine lv_istore (lv' := [(5, .int (nI (((3) * (k)) + (v)))), (0, .ref (m)), (1, .int (nI (k))), (2, .int (nI (v))), (3, .long (x))]) hx hb dX12_constantBy_5 hl (by decide) rfl (fun ls hl => ?_)
  refine lv_iconst (v := (nI (0))) hx hb dX12_constantBy_7 (by decide) ?_
  refine lv_istore (lv' := [(6, .int (nI (0))), (5, .int (nI (((3) * (k)) + (v)))), (0, .ref (m)), (1, .int (nI (k))), (2, .int (nI (v))), (3, .long (x))]) hx hb dX12_constantBy_8 hl (by decide) rfl (fun ls hl => ?_)
  replace hl : lv_has ls 7 [(0, .ref (m)), (1, .int (nI (k))), (2, .int (nI (v))), (3, .long (x)), (5, .int (nI (((3) * (k)) + (v)))), (6, .int (nI (0)))] := lv_sub hl [2, 3, 4, 5, 1, 0] rfl
  replace hl : ∃ i : Nat, (i ≤ T 0 (3 * k + v)) ∧ (∀ i', i' < i → (nI (T 1 (10 * (3 * k + v) + i'))).toInt64 ≠ x) ∧ lv_has ls 7 [(0, .ref (m)), (1, .int (nI (k))), (2, .int (nI (v))), (3, .long (x)), (5, .int (nI (((3) * (k)) + (v)))), (6, .int (nI (i)))] := ⟨0, Nat.zero_le _, fun _ h => absurd h (Nat.not_lt_zero _), hl⟩
  obtain ⟨i, hi, hpr, hl⟩ := hl
  obtain ⟨n, hn⟩ : ∃ n, T 0 (3 * k + v) - i < n := ⟨_, Nat.lt_succ_self _⟩
  induction n generalizing i ls with
  | zero => exact absurd hn (Nat.not_lt_zero _)
  | succ n ih =>
    have hb6 : 3 * k + v < 6 := by omega
    have hc := hT.1 (3 * k + v) hb6
    refine lv_iload hx hb dX12_constantBy_10 (lv_at hl 5 rfl) ?_
    refine lv_aload_n hx hb dX12_constantBy_12 rfl (lv_at hl 0 rfl) ?_
    refine rl_get (v := .ref (m + 1)) hC hW fl_X12_7 hR.1 rfl dX12_constantBy_13 ?_
    refine lv_iload hx hb dX12_constantBy_16 (lv_at hl 4 rfl) ?_
    refine rl_iald_n (g := I 0) hC hW hR.a0 (by omega) (by decide) dX12_constantBy_18 ?_
    refine rl_topn (hc.1) ?_
    refine lv_icmp_ge (tgt := 56) hx hb dX12_constantBy_19 (by decide) (fun c1 => ?_) (fun c1 => ?_)
    · refine lv_bipush (v := (-3)) hx hb dX12_constantBy_56 (by decide) ?_
      exact rl_iret hC hW hr hlk (Nat.le_refl _) (Nat.le_refl _) ⟨_, rfl, rfl, rfl, rfl, Or.inr ⟨rfl, fun i' h' => hpr i' (by have := rg_le c1 (by omega) (by omega); omega)⟩⟩ dX12_constantBy_58
    · have hlt : i < T 0 (3 * k + v) := rg_lt c1 (by omega) (by omega)
      have hnm := hT.2.1 (3 * k + v) i hb6 hlt
      refine lv_aload_n hx hb dX12_constantBy_22 rfl (lv_at hl 0 rfl) ?_
      refine rl_get (v := .ref (m + 2)) hC hW fl_X12_13 hR.1 rfl dX12_constantBy_23 ?_
      refine lv_bipush (v := (nI (10))) hx hb dX12_constantBy_26 (by decide) ?_
      refine lv_iload hx hb dX12_constantBy_28 (lv_at hl 4 rfl) ?_
      refine lv_imul hx hb dX12_constantBy_30 ?_
      refine rl_topn (pk_mul _ _) ?_
      refine lv_iload hx hb dX12_constantBy_31 (lv_at hl 5 rfl) ?_
      refine lv_iadd hx hb dX12_constantBy_33 ?_
      refine rl_topn (nI_add _ _) ?_
      refine rl_iald_n (g := I 1) hC hW hR.a1 (by omega) (by decide) dX12_constantBy_34 ?_
      refine rl_topn (hnm.1) ?_
      refine lv_i2l hx hb dX12_constantBy_35 rfl ?_
      refine lv_lload_n hx hb dX12_constantBy_36 rfl (lv_at hl 3 rfl) ?_
      refine W.lcmp hx hb dX12_constantBy_37 ?_
      refine lv_if_ne (tgt := 50) hx hb dX12_constantBy_38 (by decide) (fun c2 => ?_) (fun c2 => ?_)
      · refine lv_iinc (v := (nI ((i) + 1))) (lv' := [(6, .int (nI ((i) + 1))), (0, .ref (m)), (1, .int (nI (k))), (2, .int (nI (v))), (3, .long (x)), (5, .int (nI (((3) * (k)) + (v))))]) hx hb dX12_constantBy_50 hl (k := 5) rfl (nI_1 _) (by decide) rfl (fun ls hl => ?_)
        refine lv_goto (tgt := 10) hx hb dX12_constantBy_53 (by decide) ?_
        replace hl : lv_has ls 7 [(0, .ref (m)), (1, .int (nI (k))), (2, .int (nI (v))), (3, .long (x)), (5, .int (nI (((3) * (k)) + (v)))), (6, .int (nI ((i) + 1)))] := lv_sub hl [1, 2, 3, 4, 5, 0] rfl
        exact ih ls (i + 1) (by omega) (rg_step hpr (fun q => c2 ((lg_cmp_eq _ _).mpr q))) hl (by omega)
      · refine lv_bipush (v := (nI (10))) hx hb dX12_constantBy_41 (by decide) ?_
        refine lv_iload hx hb dX12_constantBy_43 (lv_at hl 4 rfl) ?_
        refine lv_imul hx hb dX12_constantBy_45 ?_
        refine rl_topn (pk_mul _ _) ?_
        refine lv_iload hx hb dX12_constantBy_46 (lv_at hl 5 rfl) ?_
        refine lv_iadd hx hb dX12_constantBy_48 ?_
        refine rl_topn (nI_add _ _) ?_
        exact rl_iret hC hW hr hlk (Nat.le_refl _) (Nat.le_refl _) ⟨_, rfl, rfl, rfl, rfl, Or.inl ⟨i, hlt, rfl, (lg_cmp_eq _ _).mp c2, hpr⟩⟩ dX12_constantBy_49
