
theorem RM.eq {t : Nat → ClassId} {f : rl_M} {m : Nat} {J J' : Nat → Nat → Int32} {K K' : Nat → Nat → Int64} {F : Nat → Int32} (h1 : J' = J) (h2 : K' = K) (h : RM t f m J K F) : RM t f m J' K' F := by rw [h1, h2]; exact h
theorem rg_upl {g : Nat → Int32} {k : Nat} {x : Int32} {n : Nat} (h : n ≠ k) : upd g k x n = g n := by simp [upd, h]
theorem rg_ups {g : Nat → Int32} {k : Nat} {x : Int32} : upd g k x k = x := by simp [upd]
section WHY
variable {T : Nat → Nat → Nat} {G : pG} {j i : Nat} {N : Nat → Int64} {X : Nat → pHd}
abbrev pu_ta (T : Nat → Nat → Nat) (G : pG) (j : Nat) (N : Nat → Int64) (X : Nat → pHd) : Nat → Nat := fun p => pu_tk T G j p (N p) (X p)
abbrev pu_ca (T : Nat → Nat → Nat) (G : pG) (j : Nat) (N : Nat → Int64) (X : Nat → pHd) : Nat → Nat := fun c => pu_ck T G (T 6 (2 * j + c)) (N (T 7 (2 * j + c))) (X (T 7 (2 * j + c))) (N (T 10 (2 * j + c)))
theorem why_a (h : pu_fst (pu_ta T G j N X) i ≠ 0) (hi : i ≤ T 2 j) : pu_why T G j N X = pu_fst (pu_ta T G j N X) i := by
  have e := pu_fst_k h hi
  unfold pu_why
  rw [if_neg (by rw [e]; exact h)]
  exact e
def pu_wk (T : Nat → Nat → Nat) (G : pG) (j : Nat) (N : Nat → Int64) (X : Nat → pHd) (k : Nat) : Nat := if pu_fst (pu_ta T G j N X) (T 2 j) = 0 then pu_fst (pu_ca T G j N X) k else pu_fst (pu_ta T G j N X) (T 2 j)
theorem wk_e : pu_why T G j N X = pu_wk T G j N X (T 5 j) := rfl
theorem wk_0 : pu_wk T G j N X 0 = pu_fst (pu_ta T G j N X) (T 2 j) := by
  unfold pu_wk
  split
  · rename_i h; rw [h]; rfl
  · rfl
theorem wk_s {k : Nat} (h : pu_wk T G j N X k = 0) : pu_wk T G j N X (k + 1) = pu_ca T G j N X k := by
  unfold pu_wk at h ⊢
  split
  · rename_i hA
    rw [if_pos hA] at h
    exact pu_fst_s h
  · rename_i hA
    rw [if_neg hA] at h
    exact absurd h hA
theorem wk_k {k : Nat} (h : pu_wk T G j N X k ≠ 0) (hk : k ≤ T 5 j) : pu_why T G j N X = pu_wk T G j N X k := by
  rw [wk_e]
  unfold pu_wk at h ⊢
  split
  · rename_i hA
    rw [if_pos hA] at h
    exact pu_fst_k h hk
  · rfl
theorem fst_0 {g : Nat → Nat} : ∀ {n : Nat}, pu_fst g n = 0 → ∀ q, q < n → g q = 0
  | 0, _, q, hq => absurd hq (Nat.not_lt_zero _)
  | n + 1, h, q, hq => by
    rw [pu_fst] at h
    split at h
    · rename_i h0
      rcases Nat.lt_succ_iff_lt_or_eq.mp hq with hq | rfl
      · exact fst_0 h0 q hq
      · exact h
    · rename_i h0
      exact absurd h h0
theorem wk_t {k q : Nat} (h : pu_wk T G j N X k = 0) (hq : q < T 2 j) : pu_tk T G j q (N q) (X q) = 0 := by
  unfold pu_wk at h
  split at h
  · rename_i hA
    exact fst_0 (g := pu_ta T G j N X) hA q hq
  · rename_i hA
    exact absurd h hA
theorem wk_le {k : Nat} : pu_wk T G j N X k ≤ 8 := by
  unfold pu_wk
  split
  · exact Nat.le_trans (pu_fst_le (b := 5) (fun i => pu_ck_le _ _ _ _ _ _) _) (by omega)
  · exact Nat.le_trans (pu_fst_le (b := 2) (fun i => pu_tk_le _ _ _ _ _ _) _) (by omega)
theorem ck_b {w : Nat} {m b b' : Int64} {h : pHd} (hw : w = 1) : pu_ck T G w m h b = pu_ck T G w m h b' := by subst hw; rw [ck_1, ck_1]
theorem GW.new {ρ κ : Nat} (hG : GW T ρ κ G) (hj : j < 12) (h5 : ∀ y, y < 12 → T 2 y ≤ 5) (hX : ∀ q, q < T 2 j → hok ρ κ (X q)) (hw : pu_why T G j N X = 0) : GW T ρ (κ + 1) (pu_new T κ G j N X) := by
  refine ⟨hG.1, fun r hr => ?_, fun p hp => (hG.2.2.1 p hp).mono (Nat.le_refl _) (by omega), hG.2.2.2⟩
  have e1 : (pu_new T κ G j N X).1 1 = va_up (G.1 1) κ j := rfl
  have e2 : (pu_new T κ G j N X).1 2 = va_up (G.1 2) κ (T 2 j) := rfl
  have e3 : (pu_new T κ G j N X).2.2.2 1 = pu_up (5 * κ) (fun p => if T 4 (5 * j + p) < 2 then none else X p) (T 2 j) (G.2.2.2 1) := rfl
  have e4 : (pu_new T κ G j N X).2.2.1 0 = pu_up (5 * κ) (fun p => if T 4 (5 * j + p) < 2 then N p else 0) (T 2 j) (G.2.2.1 0) := rfl
  rw [e1, e2, e3, e4]
  by_cases he : r = κ
  · subst he
    rw [va_up_s, va_up_s]
    refine ⟨hj, Nat.le_refl _, fun p hp => ?_⟩
    rw [pu_up_i hp, pu_up_i hp]
    try dsimp only
    split
    · exact ⟨trivial, trivial, fun q => by omega⟩
    · exact ⟨(hX p hp).mono (Nat.le_refl _) (by omega), tk_st (wk_t (wk_e (T := T) ▸ hw) hp) (by omega), fun _ => rfl⟩
  · rw [va_up_n _ _ he, va_up_n _ _ he]
    obtain ⟨g1, g2, g3⟩ := hG.2.1 r (by omega)
    have := h5 _ g1
    refine ⟨g1, g2, fun p hp => ?_⟩
    rw [pu_up_o (by omega), pu_up_o (by omega)]
    exact ⟨(g3 p hp).1.mono (Nat.le_refl _) (by omega), (g3 p hp).2⟩
theorem RGd.new {κ ρ : Nat} {a15 a16 a18 a32 : Nat → Int32} {b17 b31 : Nat → Int64} {a0 : Nat} (hG : RGd κ G a15 a16 b17 a18) (hGW : GW T ρ κ G) (h5 : ∀ y, y < 12 → T 2 y ≤ 5) (hN : ∀ q, q < T 2 j → b31 (a0 + q) = N q) (hX : ∀ q, q < T 2 j → a32 (a0 + q) = enc (X q)) : RGd (κ + 1) (pu_new T κ G j N X) (upd a15 κ (nI j)) (upd a16 κ (nI (T 2 j))) (pu_up (5 * κ) (fun p => if T 4 (5 * j + p) < 2 then b31 (a0 + p) else 0) (T 2 j) b17) (pu_up (5 * κ) (fun p => if T 4 (5 * j + p) < 2 then -1 else a32 (a0 + p)) (T 2 j) a18) := by
  intro r hr
  have e1 : (pu_new T κ G j N X).1 1 = va_up (G.1 1) κ j := rfl
  have e2 : (pu_new T κ G j N X).1 2 = va_up (G.1 2) κ (T 2 j) := rfl
  have e3 : (pu_new T κ G j N X).2.2.2 1 = pu_up (5 * κ) (fun p => if T 4 (5 * j + p) < 2 then none else X p) (T 2 j) (G.2.2.2 1) := rfl
  have e4 : (pu_new T κ G j N X).2.2.1 0 = pu_up (5 * κ) (fun p => if T 4 (5 * j + p) < 2 then N p else 0) (T 2 j) (G.2.2.1 0) := rfl
  rw [e1, e2, e3, e4]
  by_cases he : r = κ
  · subst he
    rw [va_up_s, va_up_s]
    refine ⟨rg_ups, rg_ups, fun p hp => ?_⟩
    rw [pu_up_i hp, pu_up_i hp, pu_up_i hp, pu_up_i hp]
    try dsimp only
    split
    · exact ⟨hN p hp, rfl⟩
    · exact ⟨rfl, hX p hp⟩
  · rw [va_up_n _ _ he, va_up_n _ _ he]
    obtain ⟨g1, g2, g3⟩ := hG r (by omega)
    obtain ⟨k1, k2, -⟩ := hGW.2.1 r (by omega)
    have := h5 _ k1
    refine ⟨by rw [rg_upl he]; exact g1, by rw [rg_upl he]; exact g2, fun p hp => ?_⟩
    rw [pu_up_o (by omega), pu_up_o (by omega), pu_up_o (by omega), pu_up_o (by omega)]
    exact g3 p hp
end WHY
def rf_rec (t : Nat → ClassId) (f f1 : rl_M) (m : Nat) (T : Nat → Nat → Nat) (κ : Nat) (I : Nat → Nat → Int32) (L : Nat → Nat → Int64) (F : Nat → Int32) (j a0 W : Nat) (r : Int32) : Prop := (f = f1 ∧ W ≠ 0 ∧ r = (-10) - nI W) ∨ (r = nI (1000000 + κ) ∧ W = 0 ∧ RM t f1 m (va_up (va_up (va_up I 15 (upd (I 15) κ (nI j))) 16 (upd (I 16) κ (nI (T 2 j)))) 18 (pu_up (5 * κ) (fun p => if T 4 (5 * j + p) < 2 then -1 else I 32 (a0 + p)) (T 2 j) (I 18))) (va_up L 17 (pu_up (5 * κ) (fun p => if T 4 (5 * j + p) < 2 then L 31 (a0 + p) else 0) (T 2 j) (L 17))) (upd (upd F 14 (nI (κ + 1))) 28 (F 28 + nI 1)))

set_option maxHeartbeats 4000000 in
set_option maxRecDepth 100000 in
theorem cR_record (l : Launch) (D : va_G) (t : Nat → ClassId) (A : Nat → Prop) (f : rl_M) (z : Nat) (m : Nat) (I : Nat → Nat → Int32) (L : Nat → Nat → Int64) (F : Nat → Int32) (hR : RM t f m I L F) (T : Nat → Nat → Nat) (ρ κ : Nat) (G : pG) (hρ : ρ ≤ 43100) (hκ : κ < 26200) (hTc : RTc T (I 0) (I 1) (I 2)) (hTp : RTp T (I 3) (I 4) (I 5) (I 6)) (hGW : GW T ρ κ G) (hGr : RGr ρ G (I 12) (I 13)) (hGd : RGd κ G (I 15) (I 16) (L 17) (I 18)) (hTk : RTk T (I 7) (I 8) (I 9) (I 10)) (hF14 : F 14 = nI κ) (j a0 : Nat) (hj : j < 12) (ha0 : a0 + 5 ≤ 40) (N : Nat → Int64) (X : Nat → pHd) (hN : ∀ q, q < T 2 j → L 31 (a0 + q) = N q) (hX : ∀ q, q < T 2 j → I 32 (a0 + q) = enc (X q) ∧ hok ρ κ (X q)) : rl_Met l yX12_record (.code yX12_record cX12_record 7 (some FieldType.int)) (rl_rm 2 0 0) D t A f z [.ref (m), .int (nI (j)), .int (nI (a0))] (rl_qi z fun r f1 => rf_rec t f f1 m T κ I L F j a0 (pu_why T G j N X) r) := by
  refine rl_begin (own := RX12) (lv := [(0, .ref (m)), (1, .int (nI (j))), (2, .int (nI (a0)))]) (by decide +kernel) rfl (Nat.le_of_ble_eq_true rfl) rfl fun p e s m0 args below meth c ls H locs hC hr hlk hnm hW hl hx hb => ?_
  have hc := hTp.1 j hj
  have h5 := hc.2
  have hck := hTk.1 j hj
  refine lv_iconst (v := (nI (0))) hx hb dX12_record_0 (by decide) ?_
  refine lv_istore_n (lv' := [(3, .int (nI (0))), (0, .ref (m)), (1, .int (nI (j))), (2, .int (nI (a0)))]) hx hb dX12_record_1 rfl hl (by decide) rfl (fun ls hl => ?_)
  refine lv_iconst (v := (nI (0))) hx hb dX12_record_2 (by decide) ?_
  refine lv_istore (lv' := [(4, .int (nI (0))), (3, .int (nI (0))), (0, .ref (m)), (1, .int (nI (j))), (2, .int (nI (a0)))]) hx hb dX12_record_3 hl (by decide) rfl (fun ls hl => ?_)
  replace hl : lv_has ls 7 [(0, .ref (m)), (1, .int (nI (j))), (2, .int (nI (a0))), (3, .int (nI (0))), (4, .int (nI (0)))] := lv_sub hl [2, 3, 4, 1, 0] rfl
  replace hl : ∃ i : Nat, ∃ b0 : Nat, (i ≤ T 2 j) ∧ (b0 = pu_fst (pu_ta T G j N X) i) ∧ lv_has ls 7 [(0, .ref (m)), (1, .int (nI (j))), (2, .int (nI (a0))), (3, .int (nI (b0))), (4, .int (nI (i)))] := ⟨0, 0, Nat.zero_le _, rfl, hl⟩
  obtain ⟨i, b0, hi, hb0, hl⟩ := hl
  obtain ⟨n, hn⟩ : ∃ n, T 2 j - i < n := ⟨_, Nat.lt_succ_self _⟩
  induction n generalizing H locs i b0 ls with
  | zero => exact absurd hn (Nat.not_lt_zero _)
  | succ n ih =>
    have hb8 : b0 ≤ 2 := by rw [hb0]; exact pu_fst_le (fun q => pu_tk_le _ _ _ _ _ _) _
    refine lv_iload hx hb dX12_record_5 (lv_at hl 4 rfl) ?_
    refine lv_aload_n hx hb dX12_record_7 rfl (lv_at hl 0 rfl) ?_
    refine rl_get (v := .ref (m + 4)) hC hW fl_X12_20 hR.1 rfl dX12_record_8 ?_
    refine lv_iload_n hx hb dX12_record_11 rfl (lv_at hl 1 rfl) ?_
    refine rl_iald_n (g := I 3) hC hW hR.a3 (by omega) (by decide) dX12_record_12 ?_
    refine rl_topn (hc.1) ?_
    refine lv_icmp_ge (tgt := 52) hx hb dX12_record_13 (by decide) (fun c1 => ?_) (fun c1 => ?_)
    · have hge := rg_le c1 (by omega) (by omega)
      have hie : i = T 2 j := by omega
      have hb1 : b0 = pu_wk T G j N X 0 := by rw [wk_0, hb0, hie]
      clear ih hn
      refine lv_iconst (v := (nI (2))) hx hb dX12_record_52 (by decide) ?_
      refine lv_iload_n hx hb dX12_record_53 rfl (lv_at hl 1 rfl) ?_
      refine lv_imul hx hb dX12_record_54 ?_
      refine rl_topn (pk_mul _ _) ?_
      refine lv_istore (lv' := [(4, .int (nI ((2) * (j)))), (0, .ref (m)), (1, .int (nI (j))), (2, .int (nI (a0))), (3, .int (nI (b0)))]) hx hb dX12_record_55 hl (by decide) rfl (fun ls hl => ?_)
      replace hl : lv_has ls 7 [(0, .ref (m)), (1, .int (nI (j))), (2, .int (nI (a0))), (3, .int (nI (b0))), (4, .int (nI ((2) * (j))))] := lv_sub hl [1, 2, 3, 4, 0] rfl
      replace hl : ∃ k : Nat, ∃ b1 : Nat, (k ≤ T 5 j) ∧ (b1 = pu_wk T G j N X k) ∧ lv_has ls 7 [(0, .ref (m)), (1, .int (nI (j))), (2, .int (nI (a0))), (3, .int (nI (b1))), (4, .int (nI (2 * j + k)))] := ⟨0, b0, Nat.zero_le _, hb1, hl⟩
      obtain ⟨k, b1, hk, hb1, hl⟩ := hl
      obtain ⟨n, hn⟩ : ∃ n, T 5 j - k < n := ⟨_, Nat.lt_succ_self _⟩
      induction n generalizing H locs k b1 ls with
      | zero => exact absurd hn (Nat.not_lt_zero _)
      | succ n ih =>
        have hb8 : b1 ≤ 8 := by rw [hb1]; exact wk_le
        refine lv_iload hx hb dX12_record_57 (lv_at hl 4 rfl) ?_
        refine lv_iconst (v := (nI (2))) hx hb dX12_record_59 (by decide) ?_
        refine lv_iload_n hx hb dX12_record_60 rfl (lv_at hl 1 rfl) ?_
        refine lv_imul hx hb dX12_record_61 ?_
        refine rl_topn (pk_mul _ _) ?_
        refine lv_aload_n hx hb dX12_record_62 rfl (lv_at hl 0 rfl) ?_
        refine rl_get (v := .ref (m + 8)) hC hW fl_X12_32 hR.1 rfl dX12_record_63 ?_
        refine lv_iload_n hx hb dX12_record_66 rfl (lv_at hl 1 rfl) ?_
        refine rl_iald_n (g := I 7) hC hW hR.a7 (by omega) (by decide) dX12_record_67 ?_
        refine rl_topn (hck.1) ?_
        refine lv_iadd hx hb dX12_record_68 ?_
        refine rl_topn (nI_add _ _) ?_
        refine lv_icmp_ge (tgt := 151) hx hb dX12_record_69 (by decide) (fun c5 => ?_) (fun c5 => ?_)
        · have hke : k = T 5 j := by have := rg_le c5 (by omega) (by omega); omega
          have hwy : pu_why T G j N X = b1 := by rw [wk_e, hb1, hke]
          refine lv_iload_n hx hb dX12_record_151 rfl (lv_at hl 3 rfl) ?_
          refine lv_if_le (tgt := 160) hx hb dX12_record_152 (by decide) (fun c7 => ?_) (fun c7 => ?_)
          · have eb : b1 = 0 := by have := rg_le (a := b1) (b := 0) c7 (by omega) (by decide); omega
            have hw0 : pu_why T G j N X = 0 := by rw [hwy]; exact eb
            clear hb1 hwy
            refine lv_aload_n hx hb dX12_record_160 rfl (lv_at hl 0 rfl) ?_
            refine rl_get (v := .int (F 14)) hC hW fl_X12_177 hR.1 rfl dX12_record_161 ?_
            refine rl_topn (y := nI (κ)) (hF14) ?_
            refine lv_istore (lv' := [(4, .int (nI (κ))), (0, .ref (m)), (1, .int (nI (j))), (2, .int (nI (a0))), (3, .int (nI (b1)))]) hx hb dX12_record_164 hl (by decide) rfl (fun ls hl => ?_)
            refine lv_aload_n hx hb dX12_record_166 rfl (lv_at hl 1 rfl) ?_
            refine rl_get (v := .ref (m + 14)) hC hW fl_X12_52 hR.1 rfl dX12_record_167 ?_
            refine lv_iload hx hb dX12_record_170 (lv_at hl 0 rfl) ?_
            refine lv_iload_n hx hb dX12_record_172 rfl (lv_at hl 2 rfl) ?_
            refine rl_iast_n (g := I 15) hC hW hR.a15 (by omega) (by decide) dX12_record_173 (fun H locs hW => ?_)
            have hR := hR.s15 (upd (I 15) (κ) ((nI (j))))
            refine lv_aload_n hx hb dX12_record_174 rfl (lv_at hl 1 rfl) ?_
            refine rl_get (v := .ref (m + 15)) hC hW fl_X12_55 hR.1 rfl dX12_record_175 ?_
            refine lv_iload hx hb dX12_record_178 (lv_at hl 0 rfl) ?_
            refine lv_aload_n hx hb dX12_record_180 rfl (lv_at hl 1 rfl) ?_
            refine rl_get (v := .ref (m + 4)) hC hW fl_X12_20 hR.1 rfl dX12_record_181 ?_
            refine lv_iload_n hx hb dX12_record_184 rfl (lv_at hl 2 rfl) ?_
            refine rl_iald_n (g := I 3) hC hW hR.a3 (by omega) (by decide) dX12_record_185 ?_
            refine rl_topn (hc.1) ?_
            refine rl_iast_n (g := I 16) hC hW hR.a16 (by omega) (by decide) dX12_record_186 (fun H locs hW => ?_)
            have hR := hR.s16 (upd (I 16) (κ) ((nI (T 2 (j)))))
            refine lv_iconst (v := (nI (0))) hx hb dX12_record_187 (by decide) ?_
            refine lv_istore (lv' := [(5, .int (nI (0))), (4, .int (nI (κ))), (0, .ref (m)), (1, .int (nI (j))), (2, .int (nI (a0))), (3, .int (nI (b1)))]) hx hb dX12_record_188 hl (by decide) rfl (fun ls hl => ?_)
            replace hl : lv_has ls 7 [(0, .ref (m)), (1, .int (nI (j))), (2, .int (nI (a0))), (4, .int (nI (κ))), (5, .int (nI (0)))] := lv_sub hl [2, 3, 4, 1, 0] rfl
            have hinv : ∃ f2 : rl_M, ∃ g18 : Nat → Int32, ∃ gL : Nat → Int64, ∃ i : Nat, rl_W D A f2 z s.heap H locs ∧ RM t f2 m (va_up (va_up (va_up I 15 (upd (I 15) κ (nI j))) 16 (upd (I 16) κ (nI (T 2 j)))) 18 g18) (va_up L 17 gL) F ∧ (i ≤ T 2 j) ∧ (g18 = pu_up (5 * κ) (fun p => if T 4 (5 * j + p) < 2 then -1 else I 32 (a0 + p)) i (I 18)) ∧ (gL = pu_up (5 * κ) (fun p => if T 4 (5 * j + p) < 2 then L 31 (a0 + p) else 0) i (L 17)) ∧ lv_has ls 7 [(0, .ref (m)), (1, .int (nI (j))), (2, .int (nI (a0))), (4, .int (nI (κ))), (5, .int (nI (i)))] := ⟨_, I 18, L 17, 0, hW, (RM.eq (va_up_same (va_up (va_up I 15 (upd (I 15) κ (nI j))) 16 (upd (I 16) κ (nI (T 2 j)))) 18) (va_up_same L 17) hR), Nat.zero_le _, pu_up_0.symm, pu_up_0.symm, hl⟩
            clear hW hR hl
            obtain ⟨f2, g18, gL, i, hW, hR, hi, h18, hgL, hl⟩ := hinv
            obtain ⟨n, hn⟩ : ∃ n, T 2 j - i < n := ⟨_, Nat.lt_succ_self _⟩
            induction n generalizing f2 g18 gL i H locs ls  with
            | zero => exact absurd hn (Nat.not_lt_zero _)
            | succ n ih =>
              refine lv_iload hx hb dX12_record_190 (lv_at hl 4 rfl) ?_
              refine lv_aload_n hx hb dX12_record_192 rfl (lv_at hl 0 rfl) ?_
              refine rl_get (v := .ref (m + 4)) hC hW fl_X12_20 hR.1 rfl dX12_record_193 ?_
              refine lv_iload_n hx hb dX12_record_196 rfl (lv_at hl 1 rfl) ?_
              refine rl_iald_n (g := I 3) hC hW hR.a3 (by omega) (by decide) dX12_record_197 ?_
              refine rl_topn (hc.1) ?_
              refine lv_icmp_ge (tgt := 289) hx hb dX12_record_198 (by decide) (fun c1 => ?_) (fun c1 => ?_)
              · have hie : i = T 2 j := by have := rg_le c1 (by omega) (by omega); omega
                rw [h18, hgL, hie] at hR
                refine lv_aload_n hx hb dX12_record_289 rfl (lv_at hl 0 rfl) ?_
                refine lv_dup hx hb dX12_record_290 rfl ?_
                refine rl_get (v := .int (F 14)) hC hW fl_X12_177 hR.1 rfl dX12_record_291 ?_
                refine rl_topn (y := nI (κ)) (hF14) ?_
                refine lv_iconst (v := (nI (1))) hx hb dX12_record_294 (by decide) ?_
                refine lv_iadd hx hb dX12_record_295 ?_
                refine rl_topn (nI_add _ _) ?_
                refine rl_put (v := .int (nI ((κ) + (1)))) hC hW fp_X12_177 hR.1 (Nat.le_of_ble_eq_true rfl) rfl rfl dX12_record_296 (fun H locs hW => ?_)
                have hR := hR.f14 (nI ((κ) + (1)))
                refine lv_aload_n hx hb dX12_record_299 rfl (lv_at hl 0 rfl) ?_
                refine lv_dup hx hb dX12_record_300 rfl ?_
                refine rl_get (v := .int (F 28)) hC hW fl_X12_180 hR.1 rfl dX12_record_301 ?_
                refine lv_iconst (v := (nI (1))) hx hb dX12_record_304 (by decide) ?_
                refine lv_iadd hx hb dX12_record_305 ?_
                refine lv_topi (fun x_1 ex_1 => ?_)
                refine rl_put (v := .int (x_1)) hC hW fp_X12_180 hR.1 (Nat.le_of_ble_eq_true rfl) rfl rfl dX12_record_306 (fun H locs hW => ?_)
                have hR := hR.f28 (x_1)
                refine lv_ldc (v := nI 1000000) hx hb hC.2.2.2.1 (hC.2.2.2.2.1 _ (List.mem_cons_of_mem _ mw_859)) dX12_record_309 ?_
                refine lv_iload hx hb dX12_record_311 (lv_at hl 3 rfl) ?_
                refine lv_iadd hx hb dX12_record_313 ?_
                refine rl_topn (nI_add _ _) ?_
                exact rl_iret hC hW hr hlk (Nat.le_refl _) (Nat.le_refl _) ⟨_, rfl, rfl, rfl, Or.inr ⟨rfl, hw0, by
                    first | exact hR | (subst_vars; exact hR)⟩⟩ dX12_record_314
              · have hlt : i < T 2 j := rg_lt c1 (by omega) (by omega)
                have hnm := hTp.2 j i hj hlt
                refine lv_aload_n hx hb dX12_record_201 rfl (lv_at hl 0 rfl) ?_
                refine rl_get (v := .ref (m + 6)) hC hW fl_X12_26 hR.1 rfl dX12_record_202 ?_
                refine lv_iconst (v := (nI (5))) hx hb dX12_record_205 (by decide) ?_
                refine lv_iload_n hx hb dX12_record_206 rfl (lv_at hl 1 rfl) ?_
                refine lv_imul hx hb dX12_record_207 ?_
                refine rl_topn (pk_mul _ _) ?_
                refine lv_iload hx hb dX12_record_208 (lv_at hl 4 rfl) ?_
                refine lv_iadd hx hb dX12_record_210 ?_
                refine rl_topn (nI_add _ _) ?_
                refine rl_iald_n (g := I 5) hC hW hR.a5 (by omega) (by decide) dX12_record_211 ?_
                refine rl_topn (hnm.2.2.1) ?_
                refine lv_iconst (v := (nI (2))) hx hb dX12_record_212 (by decide) ?_
                refine lv_icmp_ge (tgt := 220) hx hb dX12_record_213 (by decide) (fun c2 => ?_) (fun c2 => ?_)
                · have hsrt : ¬ T 4 (5 * j + i) < 2 := Nat.not_lt.mpr (rg_le c2 (by decide) (by omega))
                  refine lv_iconst (v := (nI (0))) hx hb dX12_record_220 (by decide) ?_
                  refine lv_istore (lv' := [(6, .int (nI (0))), (0, .ref (m)), (1, .int (nI (j))), (2, .int (nI (a0))), (4, .int (nI (κ))), (5, .int (nI (i)))]) hx hb dX12_record_221 hl (by decide) rfl (fun ls hl => ?_)
                  refine lv_aload_n hx hb dX12_record_223 rfl (lv_at hl 1 rfl) ?_
                  refine rl_get (v := .ref (m + 16)) hC hW fl_X12_59 hR.1 rfl dX12_record_224 ?_
                  refine lv_iconst (v := (nI (5))) hx hb dX12_record_227 (by decide) ?_
                  refine lv_iload hx hb dX12_record_228 (lv_at hl 4 rfl) ?_
                  refine lv_imul hx hb dX12_record_230 ?_
                  refine rl_topn (pk_mul _ _) ?_
                  refine lv_iload hx hb dX12_record_231 (lv_at hl 5 rfl) ?_
                  refine lv_iadd hx hb dX12_record_233 ?_
                  refine rl_topn (nI_add _ _) ?_
                  refine lv_iload hx hb dX12_record_234 (lv_at hl 0 rfl) ?_
                  refine lv_if_eq (tgt := 251) hx hb dX12_record_236 (by decide) (fun c3 => ?_) (fun c3 => ?_)
                  · refine lv_lconst (v := 0) hx hb dX12_record_251 (by decide) ?_
                    refine rl_last_n (g := gL) hC hW hR.a17 (by omega) (by decide) dX12_record_252 (fun H locs hW => ?_)
                    have hR := hR.s17 (vp_updL (gL) (((5) * (κ)) + (i)) (0))
                    refine lv_aload_n hx hb dX12_record_253 rfl (lv_at hl 1 rfl) ?_
                    refine rl_get (v := .ref (m + 17)) hC hW fl_X12_63 hR.1 rfl dX12_record_254 ?_
                    refine lv_iconst (v := (nI (5))) hx hb dX12_record_257 (by decide) ?_
                    refine lv_iload hx hb dX12_record_258 (lv_at hl 4 rfl) ?_
                    refine lv_imul hx hb dX12_record_260 ?_
                    refine rl_topn (pk_mul _ _) ?_
                    refine lv_iload hx hb dX12_record_261 (lv_at hl 5 rfl) ?_
                    refine lv_iadd hx hb dX12_record_263 ?_
                    refine rl_topn (nI_add _ _) ?_
                    refine lv_iload hx hb dX12_record_264 (lv_at hl 0 rfl) ?_
                    refine lv_if_eq (tgt := 273) hx hb dX12_record_266 (by decide) (fun c4 => ?_) (fun c4 => ?_)
                    · refine lv_aload_n hx hb dX12_record_273 rfl (lv_at hl 1 rfl) ?_
                      refine rl_get (v := .ref (m + 23)) hC hW fl_X12_85 hR.1 rfl dX12_record_274 ?_
                      refine lv_iload_n hx hb dX12_record_277 rfl (lv_at hl 3 rfl) ?_
                      refine lv_iload hx hb dX12_record_278 (lv_at hl 5 rfl) ?_
                      refine lv_iadd hx hb dX12_record_280 ?_
                      refine rl_topn (nI_add _ _) ?_
                      refine rl_iald_n (g := I 32) hC hW hR.a32 (by omega) (by decide) dX12_record_281 ?_
                      refine rl_iast_n (g := g18) hC hW hR.a18 (by omega) (by decide) dX12_record_282 (fun H locs hW => ?_)
                      have hR := hR.s18 (upd (g18) (((5) * (κ)) + (i)) ((I 32 ((a0) + (i)))))
                      refine lv_iinc (v := (nI ((i) + 1))) (lv' := [(5, .int (nI ((i) + 1))), (6, .int (nI (0))), (0, .ref (m)), (1, .int (nI (j))), (2, .int (nI (a0))), (4, .int (nI (κ)))]) hx hb dX12_record_283 hl (k := 5) rfl (nI_1 _) (by decide) rfl (fun ls hl => ?_)
                      refine lv_goto (tgt := 190) hx hb dX12_record_286 (by decide) ?_
                      replace hl : lv_has ls 7 [(0, .ref (m)), (1, .int (nI (j))), (2, .int (nI (a0))), (4, .int (nI (κ))), (5, .int (nI ((i) + 1)))] := lv_sub hl [2, 3, 4, 5, 0] rfl
                      rw [va_up_up] at hR
                      rw [va_up_up] at hR
                      exact ih _ _ _ _ _ _ (i + 1) hW hR (by omega) (by rw [h18]; exact pu_up_s (by (try dsimp only); rw [if_neg hsrt])) (by rw [hgL]; exact pu_up_l (by (try dsimp only); rw [if_neg hsrt])) hl (by omega)
                    · first | exact absurd c4 (by decide) | exact absurd (by decide) c4
                  · first | exact absurd c3 (by decide) | exact absurd (by decide) c3
                · have hsrt : T 4 (5 * j + i) < 2 := rg_lt c2 (by decide) (by omega)
                  refine lv_iconst (v := (nI (1))) hx hb dX12_record_216 (by decide) ?_
                  refine lv_goto (tgt := 221) hx hb dX12_record_217 (by decide) ?_
                  refine lv_istore (lv' := [(6, .int (nI (1))), (0, .ref (m)), (1, .int (nI (j))), (2, .int (nI (a0))), (4, .int (nI (κ))), (5, .int (nI (i)))]) hx hb dX12_record_221 hl (by decide) rfl (fun ls hl => ?_)
                  refine lv_aload_n hx hb dX12_record_223 rfl (lv_at hl 1 rfl) ?_
                  refine rl_get (v := .ref (m + 16)) hC hW fl_X12_59 hR.1 rfl dX12_record_224 ?_
                  refine lv_iconst (v := (nI (5))) hx hb dX12_record_227 (by decide) ?_
                  refine lv_iload hx hb dX12_record_228 (lv_at hl 4 rfl) ?_
                  refine lv_imul hx hb dX12_record_230 ?_
                  refine rl_topn (pk_mul _ _) ?_
                  refine lv_iload hx hb dX12_record_231 (lv_at hl 5 rfl) ?_
                  refine lv_iadd hx hb dX12_record_233 ?_
                  refine rl_topn (nI_add _ _) ?_
                  refine lv_iload hx hb dX12_record_234 (lv_at hl 0 rfl) ?_
                  refine lv_if_eq (tgt := 251) hx hb dX12_record_236 (by decide) (fun c3 => ?_) (fun c3 => ?_)
                  · first | exact absurd c3 (by decide) | exact absurd (by decide) c3
                  · refine lv_aload_n hx hb dX12_record_239 rfl (lv_at hl 1 rfl) ?_
                    refine rl_get (v := .ref (m + 22)) hC hW fl_X12_82 hR.1 rfl dX12_record_240 ?_
                    refine lv_iload_n hx hb dX12_record_243 rfl (lv_at hl 3 rfl) ?_
                    refine lv_iload hx hb dX12_record_244 (lv_at hl 5 rfl) ?_
                    refine lv_iadd hx hb dX12_record_246 ?_
                    refine rl_topn (nI_add _ _) ?_
                    refine rl_lald_n (g := L 31) hC hW hR.a31 (by omega) (by decide) dX12_record_247 ?_
                    refine lv_goto (tgt := 252) hx hb dX12_record_248 (by decide) ?_
                    refine rl_last_n (g := gL) hC hW hR.a17 (by omega) (by decide) dX12_record_252 (fun H locs hW => ?_)
                    have hR := hR.s17 (vp_updL (gL) (((5) * (κ)) + (i)) (L 31 ((a0) + (i))))
                    refine lv_aload_n hx hb dX12_record_253 rfl (lv_at hl 1 rfl) ?_
                    refine rl_get (v := .ref (m + 17)) hC hW fl_X12_63 hR.1 rfl dX12_record_254 ?_
                    refine lv_iconst (v := (nI (5))) hx hb dX12_record_257 (by decide) ?_
                    refine lv_iload hx hb dX12_record_258 (lv_at hl 4 rfl) ?_
                    refine lv_imul hx hb dX12_record_260 ?_
                    refine rl_topn (pk_mul _ _) ?_
                    refine lv_iload hx hb dX12_record_261 (lv_at hl 5 rfl) ?_
                    refine lv_iadd hx hb dX12_record_263 ?_
                    refine rl_topn (nI_add _ _) ?_
                    refine lv_iload hx hb dX12_record_264 (lv_at hl 0 rfl) ?_
                    refine lv_if_eq (tgt := 273) hx hb dX12_record_266 (by decide) (fun c4 => ?_) (fun c4 => ?_)
                    · first | exact absurd c4 (by decide) | exact absurd (by decide) c4
                    · refine lv_iconst (v := (-1)) hx hb dX12_record_269 (by decide) ?_
                      refine lv_goto (tgt := 282) hx hb dX12_record_270 (by decide) ?_
                      refine rl_iast_n (g := g18) hC hW hR.a18 (by omega) (by decide) dX12_record_282 (fun H locs hW => ?_)
                      have hR := hR.s18 (upd (g18) (((5) * (κ)) + (i)) ((-1)))
                      refine lv_iinc (v := (nI ((i) + 1))) (lv' := [(5, .int (nI ((i) + 1))), (6, .int (nI (1))), (0, .ref (m)), (1, .int (nI (j))), (2, .int (nI (a0))), (4, .int (nI (κ)))]) hx hb dX12_record_283 hl (k := 5) rfl (nI_1 _) (by decide) rfl (fun ls hl => ?_)
                      refine lv_goto (tgt := 190) hx hb dX12_record_286 (by decide) ?_
                      replace hl : lv_has ls 7 [(0, .ref (m)), (1, .int (nI (j))), (2, .int (nI (a0))), (4, .int (nI (κ))), (5, .int (nI ((i) + 1)))] := lv_sub hl [2, 3, 4, 5, 0] rfl
                      rw [va_up_up] at hR
                      rw [va_up_up] at hR
                      exact ih _ _ _ _ _ _ (i + 1) hW hR (by omega) (by rw [h18]; exact pu_up_s (by (try dsimp only); rw [if_pos hsrt])) (by rw [hgL]; exact pu_up_l (by (try dsimp only); rw [if_pos hsrt])) hl (by omega)
          · have nb : b1 ≠ 0 := fun q => c7 (by rw [q]; decide)
            refine lv_bipush (v := (-10)) hx hb dX12_record_155 (by decide) ?_
            refine lv_iload_n hx hb dX12_record_157 rfl (lv_at hl 3 rfl) ?_
            refine lv_isub hx hb dX12_record_158 ?_
            refine lv_topi (fun x_2 ex_2 => ?_)
            exact rl_iret hC hW hr hlk (Nat.le_refl _) (Nat.le_refl _) ⟨_, rfl, rfl, rfl, Or.inl ⟨rfl, by rw [hwy]; exact nb, by rw [hwy]; assumption⟩⟩ dX12_record_159
        · have hlt : k < T 5 j := by have := rg_lt c5 (by omega) (by omega); omega
          obtain ⟨k1, k2, k3, k4, k5, k6⟩ := hTk.2 j k hj hlt
          refine lv_iload_n hx hb dX12_record_72 rfl (lv_at hl 3 rfl) ?_
          refine lv_if_ne (tgt := 151) hx hb dX12_record_73 (by decide) (fun c6 => ?_) (fun c6 => ?_)
          · have nb : b1 ≠ 0 := fun q => c6 (by rw [q]; rfl)
            have hwy : pu_why T G j N X = b1 := by rw [hb1] at nb ⊢; exact wk_k nb hk
            refine lv_iload_n hx hb dX12_record_151 rfl (lv_at hl 3 rfl) ?_
            refine lv_if_le (tgt := 160) hx hb dX12_record_152 (by decide) (fun c7 => ?_) (fun c7 => ?_)
            · exact absurd c7 (nI_nle (by omega) (by omega))
            · refine lv_bipush (v := (-10)) hx hb dX12_record_155 (by decide) ?_
              refine lv_iload_n hx hb dX12_record_157 rfl (lv_at hl 3 rfl) ?_
              refine lv_isub hx hb dX12_record_158 ?_
              refine lv_topi (fun x_3 ex_3 => ?_)
              exact rl_iret hC hW hr hlk (Nat.le_refl _) (Nat.le_refl _) ⟨_, rfl, rfl, rfl, Or.inl ⟨rfl, by rw [hwy]; exact nb, by rw [hwy]; assumption⟩⟩ dX12_record_159
          · have eb : b1 = 0 := (nI_eq (by omega) (by decide)).mp c6
            have ewk : pu_wk T G j N X k = 0 := by rw [← hb1]; exact eb
            obtain ⟨hxa, hxo⟩ := hX _ k4
            have hna := hN _ k4
            refine lv_aload_n hx hb dX12_record_76 rfl (lv_at hl 0 rfl) ?_
            refine lv_aload_n hx hb dX12_record_77 rfl (lv_at hl 0 rfl) ?_
            refine rl_get (v := .ref (m + 9)) hC hW fl_X12_35 hR.1 rfl dX12_record_78 ?_
            refine lv_iload hx hb dX12_record_81 (lv_at hl 4 rfl) ?_
            refine rl_iald_n (g := I 8) hC hW hR.a8 (by omega) (by decide) dX12_record_83 ?_
            refine rl_topn (k1) ?_
            refine lv_aload_n hx hb dX12_record_84 rfl (lv_at hl 0 rfl) ?_
            refine rl_get (v := .ref (m + 22)) hC hW fl_X12_82 hR.1 rfl dX12_record_85 ?_
            refine lv_iload_n hx hb dX12_record_88 rfl (lv_at hl 2 rfl) ?_
            refine lv_aload_n hx hb dX12_record_89 rfl (lv_at hl 0 rfl) ?_
            refine rl_get (v := .ref (m + 10)) hC hW fl_X12_38 hR.1 rfl dX12_record_90 ?_
            refine lv_iload hx hb dX12_record_93 (lv_at hl 4 rfl) ?_
            refine rl_iald_n (g := I 9) hC hW hR.a9 (by omega) (by decide) dX12_record_95 ?_
            refine rl_topn (k3) ?_
            refine lv_iadd hx hb dX12_record_96 ?_
            refine rl_topn (nI_add _ _) ?_
            refine rl_lald_n (g := L 31) hC hW hR.a31 (by omega) (by decide) dX12_record_97 ?_
            refine lv_aload_n hx hb dX12_record_98 rfl (lv_at hl 0 rfl) ?_
            refine rl_get (v := .ref (m + 23)) hC hW fl_X12_85 hR.1 rfl dX12_record_99 ?_
            refine lv_iload_n hx hb dX12_record_102 rfl (lv_at hl 2 rfl) ?_
            refine lv_aload_n hx hb dX12_record_103 rfl (lv_at hl 0 rfl) ?_
            refine rl_get (v := .ref (m + 10)) hC hW fl_X12_38 hR.1 rfl dX12_record_104 ?_
            refine lv_iload hx hb dX12_record_107 (lv_at hl 4 rfl) ?_
            refine rl_iald_n (g := I 9) hC hW hR.a9 (by omega) (by decide) dX12_record_109 ?_
            refine rl_topn (k3) ?_
            refine lv_iadd hx hb dX12_record_110 ?_
            refine rl_topn (nI_add _ _) ?_
            refine rl_iald_n (g := I 32) hC hW hR.a32 (by omega) (by decide) dX12_record_111 ?_
            refine lv_aload_n hx hb dX12_record_112 rfl (lv_at hl 0 rfl) ?_
            refine rl_get (v := .ref (m + 9)) hC hW fl_X12_35 hR.1 rfl dX12_record_113 ?_
            refine lv_iload hx hb dX12_record_116 (lv_at hl 4 rfl) ?_
            refine rl_iald_n (g := I 8) hC hW hR.a8 (by omega) (by decide) dX12_record_118 ?_
            refine rl_topn (k1) ?_
            refine lv_iconst (v := (nI (1))) hx hb dX12_record_119 (by decide) ?_
            refine lv_icmp_ne (tgt := 127) hx hb dX12_record_120 (by decide) (fun c8 => ?_) (fun c8 => ?_)
            · obtain ⟨hkb, ekb, -⟩ := k6 (fun q => c8 (by rw [q]))
              refine lv_aload_n hx hb dX12_record_127 rfl (lv_at hl 0 rfl) ?_
              refine rl_get (v := .ref (m + 22)) hC hW fl_X12_82 hR.1 rfl dX12_record_128 ?_
              refine lv_iload_n hx hb dX12_record_131 rfl (lv_at hl 2 rfl) ?_
              refine lv_aload_n hx hb dX12_record_132 rfl (lv_at hl 0 rfl) ?_
              refine rl_get (v := .ref (m + 11)) hC hW fl_X12_41 hR.1 rfl dX12_record_133 ?_
              refine lv_iload hx hb dX12_record_136 (lv_at hl 4 rfl) ?_
              refine rl_iald_n (g := I 10) hC hW hR.a10 (by omega) (by decide) dX12_record_138 ?_
              refine rl_topn (ekb) ?_
              refine lv_iadd hx hb dX12_record_139 ?_
              refine rl_topn (nI_add _ _) ?_
              refine rl_lald_n (g := L 31) hC hW hR.a31 (by omega) (by decide) dX12_record_140 ?_
              refine rl_calliQ (rl_runV (b := m) (As := [.int (nI (T 6 (2 * j + k))), .long (L 31 ((a0) + (T 7 (2 * j + k)))), .int (I 32 ((a0) + (T 7 (2 * j + k)))), .long (L 31 ((a0) + (T 10 (2 * j + k))))]) (rest := []) hC hW (cR_checked l D t A _ z m I L F hR T ρ κ G hρ (by omega) hTc hTp hGW hGr hGd (T 6 (2 * j + k)) k2 _ _ _ (X (T 7 (2 * j + k))) hxa (fun h2 => ⟨hxo, by
                have hx := tk_st (wk_t ewk k4) (by rw [k5]; unfold rt_srt; split; omega; split; omega; split <;> omega)
                rw [k5] at hx
                exact hx⟩)) cs_X12_173 im_X12_checked sl_X12_checked hR.1 rfl ⟨(Nat.le_of_ble_eq_true rfl), (Nat.le_of_ble_eq_true rfl)⟩ rfl hl.1 rfl (Nat.le_of_ble_eq_true rfl) dX12_record_141 ⟨(Nat.le_of_ble_eq_true rfl), (Nat.le_of_ble_eq_true rfl)⟩) hW (fun r f1 H locs hp hW => ?_)
              obtain ⟨rfl, hp⟩ := hp
              rw [hna] at hp
              have hp2 : r = nI (pu_ca T G j N X k) := by rw [hp]; exact congrArg nI (by rw [hN _ hkb])
              subst hp2
              refine lv_istore_n (lv' := [(3, .int (nI (pu_ca T G j N X k))), (0, .ref (m)), (1, .int (nI (j))), (2, .int (nI (a0))), (4, .int (nI (2 * j + k)))]) hx hb dX12_record_144 rfl hl (by decide) rfl (fun ls hl => ?_)
              refine lv_iinc (v := (nI ((2 * j + k) + 1))) (lv' := [(4, .int (nI ((2 * j + k) + 1))), (3, .int (nI (pu_ca T G j N X k))), (0, .ref (m)), (1, .int (nI (j))), (2, .int (nI (a0)))]) hx hb dX12_record_145 hl (k := 4) rfl (nI_1 _) (by decide) rfl (fun ls hl => ?_)
              refine lv_goto (tgt := 57) hx hb dX12_record_148 (by decide) ?_
              replace hl : lv_has ls 7 [(0, .ref (m)), (1, .int (nI (j))), (2, .int (nI (a0))), (3, .int (nI (pu_ca T G j N X k))), (4, .int (nI ((2 * j + k) + 1)))] := lv_sub hl [2, 3, 4, 1, 0] rfl
              exact ih _ _ hW ls (k + 1) _ (by omega) (wk_s ewk).symm hl (by omega)
            · have e1 : T 6 (2 * j + k) = 1 := (nI_eq (by omega) (by decide)).mp c8
              refine lv_lconst (v := 0) hx hb dX12_record_123 (by decide) ?_
              refine lv_goto (tgt := 141) hx hb dX12_record_124 (by decide) ?_
              refine rl_calliQ (rl_runV (b := m) (As := [.int (nI (T 6 (2 * j + k))), .long (L 31 ((a0) + (T 7 (2 * j + k)))), .int (I 32 ((a0) + (T 7 (2 * j + k)))), .long (0)]) (rest := []) hC hW (cR_checked l D t A _ z m I L F hR T ρ κ G hρ (by omega) hTc hTp hGW hGr hGd (T 6 (2 * j + k)) k2 _ _ _ (X (T 7 (2 * j + k))) hxa (fun h2 => ⟨hxo, by
                have hx := tk_st (wk_t ewk k4) (by rw [k5]; unfold rt_srt; split; omega; split; omega; split <;> omega)
                rw [k5] at hx
                exact hx⟩)) cs_X12_173 im_X12_checked sl_X12_checked hR.1 rfl ⟨(Nat.le_of_ble_eq_true rfl), (Nat.le_of_ble_eq_true rfl)⟩ rfl hl.1 rfl (Nat.le_of_ble_eq_true rfl) dX12_record_141 ⟨(Nat.le_of_ble_eq_true rfl), (Nat.le_of_ble_eq_true rfl)⟩) hW (fun r f1 H locs hp hW => ?_)
              obtain ⟨rfl, hp⟩ := hp
              rw [hna] at hp
              have hp2 : r = nI (pu_ca T G j N X k) := by rw [hp]; exact congrArg nI (ck_b e1)
              subst hp2
              refine lv_istore_n (lv' := [(3, .int (nI (pu_ca T G j N X k))), (0, .ref (m)), (1, .int (nI (j))), (2, .int (nI (a0))), (4, .int (nI (2 * j + k)))]) hx hb dX12_record_144 rfl hl (by decide) rfl (fun ls hl => ?_)
              refine lv_iinc (v := (nI ((2 * j + k) + 1))) (lv' := [(4, .int (nI ((2 * j + k) + 1))), (3, .int (nI (pu_ca T G j N X k))), (0, .ref (m)), (1, .int (nI (j))), (2, .int (nI (a0)))]) hx hb dX12_record_145 hl (k := 4) rfl (nI_1 _) (by decide) rfl (fun ls hl => ?_)
              refine lv_goto (tgt := 57) hx hb dX12_record_148 (by decide) ?_
              replace hl : lv_has ls 7 [(0, .ref (m)), (1, .int (nI (j))), (2, .int (nI (a0))), (3, .int (nI (pu_ca T G j N X k))), (4, .int (nI ((2 * j + k) + 1)))] := lv_sub hl [2, 3, 4, 1, 0] rfl
              exact ih _ _ hW ls (k + 1) _ (by omega) (wk_s ewk).symm hl (by omega)
    · have hlt : i < T 2 j := rg_lt c1 (by omega) (by omega)
      refine lv_iload_n hx hb dX12_record_16 rfl (lv_at hl 3 rfl) ?_
      refine lv_if_ne (tgt := 52) hx hb dX12_record_17 (by decide) (fun c2 => ?_) (fun c2 => ?_)
      · have nb : b0 ≠ 0 := fun q => c2 (by rw [q]; rfl)
        have hwy : pu_why T G j N X = b0 := by rw [hb0] at nb ⊢; exact why_a nb hi
        refine lv_iconst (v := (nI (2))) hx hb dX12_record_52 (by decide) ?_
        refine lv_iload_n hx hb dX12_record_53 rfl (lv_at hl 1 rfl) ?_
        refine lv_imul hx hb dX12_record_54 ?_
        refine rl_topn (pk_mul _ _) ?_
        refine lv_istore (lv' := [(4, .int (nI ((2) * (j)))), (0, .ref (m)), (1, .int (nI (j))), (2, .int (nI (a0))), (3, .int (nI (b0)))]) hx hb dX12_record_55 hl (by decide) rfl (fun ls hl => ?_)
        refine lv_iload hx hb dX12_record_57 (lv_at hl 0 rfl) ?_
        refine lv_iconst (v := (nI (2))) hx hb dX12_record_59 (by decide) ?_
        refine lv_iload_n hx hb dX12_record_60 rfl (lv_at hl 2 rfl) ?_
        refine lv_imul hx hb dX12_record_61 ?_
        refine rl_topn (pk_mul _ _) ?_
        refine lv_aload_n hx hb dX12_record_62 rfl (lv_at hl 1 rfl) ?_
        refine rl_get (v := .ref (m + 8)) hC hW fl_X12_32 hR.1 rfl dX12_record_63 ?_
        refine lv_iload_n hx hb dX12_record_66 rfl (lv_at hl 2 rfl) ?_
        refine rl_iald_n (g := I 7) hC hW hR.a7 (by omega) (by decide) dX12_record_67 ?_
        refine rl_topn (hck.1) ?_
        refine lv_iadd hx hb dX12_record_68 ?_
        refine rl_topn (nI_add _ _) ?_
        refine lv_icmp_ge (tgt := 151) hx hb dX12_record_69 (by decide) (fun c5 => ?_) (fun c5 => ?_)
        · refine lv_iload_n hx hb dX12_record_151 rfl (lv_at hl 4 rfl) ?_
          refine lv_if_le (tgt := 160) hx hb dX12_record_152 (by decide) (fun c7 => ?_) (fun c7 => ?_)
          · exact absurd c7 (nI_nle (by omega) (by omega))
          · refine lv_bipush (v := (-10)) hx hb dX12_record_155 (by decide) ?_
            refine lv_iload_n hx hb dX12_record_157 rfl (lv_at hl 4 rfl) ?_
            refine lv_isub hx hb dX12_record_158 ?_
            refine lv_topi (fun x_4 ex_4 => ?_)
            exact rl_iret hC hW hr hlk (Nat.le_refl _) (Nat.le_refl _) ⟨_, rfl, rfl, rfl, Or.inl ⟨rfl, by rw [hwy]; exact nb, by rw [hwy]; assumption⟩⟩ dX12_record_159
        · refine lv_iload_n hx hb dX12_record_72 rfl (lv_at hl 4 rfl) ?_
          refine lv_if_ne (tgt := 151) hx hb dX12_record_73 (by decide) (fun c6 => ?_) (fun c6 => ?_)
          · refine lv_iload_n hx hb dX12_record_151 rfl (lv_at hl 4 rfl) ?_
            refine lv_if_le (tgt := 160) hx hb dX12_record_152 (by decide) (fun c7 => ?_) (fun c7 => ?_)
            · exact absurd c7 (nI_nle (by omega) (by omega))
            · refine lv_bipush (v := (-10)) hx hb dX12_record_155 (by decide) ?_
              refine lv_iload_n hx hb dX12_record_157 rfl (lv_at hl 4 rfl) ?_
              refine lv_isub hx hb dX12_record_158 ?_
              refine lv_topi (fun x_5 ex_5 => ?_)
              exact rl_iret hC hW hr hlk (Nat.le_refl _) (Nat.le_refl _) ⟨_, rfl, rfl, rfl, Or.inl ⟨rfl, by rw [hwy]; exact nb, by rw [hwy]; assumption⟩⟩ dX12_record_159
          · exact absurd ((nI_eq (by omega) (by decide)).mp c6) nb
      · have eb : b0 = 0 := (nI_eq (by omega) (by decide)).mp c2
        obtain ⟨hxa, hxo⟩ := hX i hlt
        refine lv_aload_n hx hb dX12_record_20 rfl (lv_at hl 0 rfl) ?_
        refine lv_iload_n hx hb dX12_record_21 rfl (lv_at hl 1 rfl) ?_
        refine lv_iload hx hb dX12_record_22 (lv_at hl 4 rfl) ?_
        refine lv_aload_n hx hb dX12_record_24 rfl (lv_at hl 0 rfl) ?_
        refine rl_get (v := .ref (m + 22)) hC hW fl_X12_82 hR.1 rfl dX12_record_25 ?_
        refine lv_iload_n hx hb dX12_record_28 rfl (lv_at hl 2 rfl) ?_
        refine lv_iload hx hb dX12_record_29 (lv_at hl 4 rfl) ?_
        refine lv_iadd hx hb dX12_record_31 ?_
        refine rl_topn (nI_add _ _) ?_
        refine rl_lald_n (g := L 31) hC hW hR.a31 (by omega) (by decide) dX12_record_32 ?_
        refine lv_aload_n hx hb dX12_record_33 rfl (lv_at hl 0 rfl) ?_
        refine rl_get (v := .ref (m + 23)) hC hW fl_X12_85 hR.1 rfl dX12_record_34 ?_
        refine lv_iload_n hx hb dX12_record_37 rfl (lv_at hl 2 rfl) ?_
        refine lv_iload hx hb dX12_record_38 (lv_at hl 4 rfl) ?_
        refine lv_iadd hx hb dX12_record_40 ?_
        refine rl_topn (nI_add _ _) ?_
        refine rl_iald_n (g := I 32) hC hW hR.a32 (by omega) (by decide) dX12_record_41 ?_
        refine rl_calliQ (rl_runV (b := m) (As := [.int (nI (j)), .int (nI (i)), .long (L 31 ((a0) + (i))), .int (I 32 ((a0) + (i)))]) (rest := []) hC hW (cR_taken l D t A _ z m I L F hR T ρ κ G hρ (by omega) hTc hTp hGW hGr hGd j i hj hlt _ _ (X i) hxa hxo) cs_X12_169 im_X12_taken sl_X12_taken hR.1 rfl ⟨(Nat.le_of_ble_eq_true rfl), (Nat.le_of_ble_eq_true rfl)⟩ rfl hl.1 rfl (Nat.le_of_ble_eq_true rfl) dX12_record_42 ⟨(Nat.le_of_ble_eq_true rfl), (Nat.le_of_ble_eq_true rfl)⟩) hW (fun r f1 H locs hp hW => ?_)
        obtain ⟨rfl, hp⟩ := hp
        rw [hN i hlt] at hp
        have hp2 : r = nI (pu_ta T G j N X i) := hp
        subst hp2
        refine lv_istore_n (lv' := [(3, .int (nI (pu_ta T G j N X i))), (0, .ref (m)), (1, .int (nI (j))), (2, .int (nI (a0))), (4, .int (nI (i)))]) hx hb dX12_record_45 rfl hl (by decide) rfl (fun ls hl => ?_)
        refine lv_iinc (v := (nI ((i) + 1))) (lv' := [(4, .int (nI ((i) + 1))), (3, .int (nI (pu_ta T G j N X i))), (0, .ref (m)), (1, .int (nI (j))), (2, .int (nI (a0)))]) hx hb dX12_record_46 hl (k := 4) rfl (nI_1 _) (by decide) rfl (fun ls hl => ?_)
        refine lv_goto (tgt := 5) hx hb dX12_record_49 (by decide) ?_
        replace hl : lv_has ls 7 [(0, .ref (m)), (1, .int (nI (j))), (2, .int (nI (a0))), (3, .int (nI (pu_ta T G j N X i))), (4, .int (nI ((i) + 1)))] := lv_sub hl [2, 3, 4, 1, 0] rfl
        exact ih _ _ hW ls (i + 1) _ (by omega) (pu_fst_s (g := pu_ta T G j N X) (by rw [← hb0]; exact eb)).symm hl (by omega)
