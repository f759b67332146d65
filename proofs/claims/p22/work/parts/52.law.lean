/-! THE CLAIM OUT OF ONE WALK OF THE LAW'S BODY. Your part is whole_start (and what it stands on); all else here is the same for every law, but numbers. -/
def R_law : String := "RecordLeavesLaw"
def lw_P (b : Addr) (xs : List Int32) (args : Array Value) (s : State) : Prop := args = #[.ref b] ∧ s.IntsAt b xs ∧ xs.length ≤ 3072 ∧ (Jvm.Cond.and given_1 narrow_1).before args s = true
def lw_Q (_ : Array Value) (s : State) (o : Outcome) (t : State) : Prop := o = .returned (some (.int 1)) ∧ Framed s o t [] 600000 7302250
def lw_Z (below : List Frame) (a : Array Value) (s : State) : State → Prop := fun t => ∃ o, t.status = .running ∧ Ended t below o ∧ lw_Q a s o t
/-- the law's own end, with 1 on the stack, nothing written that was there before, its room as the claim has it -/
theorem lw_ret {p : Program} {l : Launch} {e : Env} {s : State} {m : MethodId} {below : List Frame} {meth : Method} {c : Code} {b : Nat} (hx : p.tables.exec = Jvm.exec) (hb : c.code = code) (hr : meth.sig.returnType = ret) (hlocks : meth.locks = false) {pc : Nat} {H : Heap} {ls : Array Slot} (hdg : decode code pc = .ok (.ireturn, 1)) : W p l e room_1 s m #[Value.ref b] below meth c H [] 600000 7302250 (lw_Z below #[Value.ref b] s) (F0 m pc ls [.int 1]) := by
  intro T hT X
  obtain ⟨fs, hret, hrun, hended, hW, hframe⟩ := X.leave (v := some (.int 1)) (hlocks := hlocks) (fun h => by rw [hr] at h; cases h)
  have hmeth' : T.vm.method? m = some meth := X.method'
  refine ⟨T.setFrames fs, ?_, .returned (some (.int 1)), hrun, hended, rfl, ⟨_, rfl⟩, hW, hframe⟩
  jvm_step X.here [X.here.top, hx, hb, hdg, hmeth', hr, ret, narrow_b1]
  (try refine ⟨rfl, ?_⟩); (try refine ⟨rfl, ?_⟩)
  first | (intro acts; rw [hret _ acts rfl rfl rfl]) | rw [hret _ _ rfl rfl rfl]
  exact Steps.refl _
/-- what holds at the law's entry: the machine, the code, the tables' words (any of lw_tbl by 'hts w (by decide +kernel)'), the script of L ints xs at the cell b, what the Statement gives of the start (any of its parts by flat_of_before) -/
def lw_At (p : Program) (s : State) (m : MethodId) (meth : Method) (c : Code) (b L : Nat) (xs : Nat → Int32) : Prop :=
  p.tables.exec = Jvm.exec ∧ c.code = code ∧ meth.sig.returnType = ret ∧ c.maxLocals = 4 ∧ s.vm.findClass R_law = some m.cls ∧ (∀ w ∈ lw_tbl, w.before #[Value.ref b] s = true) ∧ va_X b L xs s s.heap ∧ b < s.heap.size ∧ meth.locks = false ∧ (Jvm.Cond.and given_1 narrow_1).before #[Value.ref b] s = true
set_option maxHeartbeats 8000000 in
set_option maxRecDepth 100000 in
theorem law_loop {p : Program} {e : Env} {s : State} {m : MethodId} {below : List Frame} {meth : Method} {c : Code} {cw : Cond} {D : va_G} {t : Nat → ClassId} (l : Launch) {b L : Nat} {xs : Nat → Int32} (hL : L ≤ 3072) (hC : rl_C p m c cL_law 4 s #[Value.ref b] RL cw D t (fun q => s.heap.size ≤ q)) (hr : meth.sig.returnType = ret) (hlocks : meth.locks = false) (hX : va_X b L xs s s.heap) (hbl : b < s.heap.size) (x : Nat) (n9 : Nat) : ∀ (H : Heap) (locs : List Loc) (ls : Array Slot) (fc fr : rl_M) (T : Nat → Nat → Nat) (ρ κ : Nat) (G : pG) (E : Nat → Nat → Nat) (z k : Nat), lwS D s x fc fr z H locs → CI t fc x T ρ κ G E → RS t fr (x + 58) T ρ κ G → ρ ≤ 84 * k → κ ≤ 51 * k → 6 * k ≤ L + 5 → lv_has ls 4 [(0, .ref (b)), (1, .ref (x)), (2, .ref (x + 58)), (3, .int (nI (6 * k)))] → L + 6 - 6 * k < n9 → W p l e room_1 s m #[Value.ref b] below meth c H locs (91 + 751 * k) (704548 + 3258 * k) (lw_Z below #[Value.ref b] s) (F0 m 18 ls []) := by
  have hx := hC.1
  have hb := hC.2.1
  induction n9 with
  | zero => intro H locs ls fc fr T ρ κ G E z k _ _ _ _ _ _ _ h; exact absurd h (Nat.not_lt_zero _)
  | succ n9 ih =>
    intro H locs ls fc fr T ρ κ G E z k hLS hI hR hρ hκ hk hl hn9
    have hT := hR.ok
    have hG := hR.gw
    refine lv_iload_n hx hb dL_law_18 rfl (lv_at hl 3 rfl) ?_
    refine lv_aload_n hx hb dL_law_19 rfl (lv_at hl 0 rfl) ?_
    refine lw_slen hx hb hX hbl hLS dL_law_20 ?_
    refine lv_bipush (v := (nI (6))) hx hb dL_law_21 (by decide) ?_
    refine lv_isub hx hb dL_law_23 ?_
    refine lv_icmp_gt (tgt := 977) hx hb dL_law_24 (by decide) (fun c1 => ?_) (fun c1 => ?_)
    · refine lv_iconst (v := (nI (1))) hx hb dL_law_977 (by decide) ?_
      refine va_forget (fun q hq => hLS.2.2.2.2.2.2.2 q hq) ?_
      refine W.widen (show _ ≤ 600000 by omega) (show _ ≤ 7302250 by omega) ?_
      exact lw_ret hx hb hr hlocks dL_law_978
    · have h6 : 6 * k + 6 ≤ L := rg_gtL (by omega) hL c1
      refine lv_aload_n hx hb dL_law_27 rfl (lv_at hl 0 rfl) ?_
      refine lv_iload_n hx hb dL_law_28 rfl (lv_at hl 3 rfl) ?_
      refine lw_sld hx hb hX hbl hLS (by omega) hL dL_law_29 ?_
      refine lv_bipush (v := (nI (31))) hx hb dL_law_30 (by decide) ?_
      refine lv_iand hx hb dL_law_32 ?_
      refine lv_topi (fun x_1 ex_1 => ?_)
      rcases Decidable.em (x_1 = 0) with rfl | n0
      · refine lv_tableIn (tgt := 132) hx hb dL_law_33 (by decide) (by decide) rfl (by decide) ?_
        refine lv_aload_n hx hb dL_law_132 rfl (lv_at hl 1 rfl) ?_
        refine lv_aload_n hx hb dL_law_133 rfl (lv_at hl 0 rfl) ?_
        refine lv_iload_n hx hb dL_law_134 rfl (lv_at hl 3 rfl) ?_
        refine lv_iconst (v := (nI (1))) hx hb dL_law_135 (by decide) ?_
        refine lv_iadd hx hb dL_law_136 ?_
        refine rl_topn (nI_add _ _) ?_
        refine lw_sld hx hb hX hbl hLS (by omega) hL dL_law_137 ?_
        refine lv_aload_n hx hb dL_law_138 rfl (lv_at hl 0 rfl) ?_
        refine lv_iload_n hx hb dL_law_139 rfl (lv_at hl 3 rfl) ?_
        refine lv_iconst (v := (nI (2))) hx hb dL_law_140 (by decide) ?_
        refine lv_iadd hx hb dL_law_141 ?_
        refine rl_topn (nI_add _ _) ?_
        refine lw_sld hx hb hX hbl hLS (by omega) hL dL_law_142 ?_
        refine lv_aload_n hx hb dL_law_143 rfl (lv_at hl 0 rfl) ?_
        refine lv_iload_n hx hb dL_law_144 rfl (lv_at hl 3 rfl) ?_
        refine lv_iconst (v := (nI (3))) hx hb dL_law_145 (by decide) ?_
        refine lv_iadd hx hb dL_law_146 ?_
        refine rl_topn (nI_add _ _) ?_
        refine lw_sld hx hb hX hbl hLS (by omega) hL dL_law_147 ?_
        refine lv_aload_n hx hb dL_law_148 rfl (lv_at hl 0 rfl) ?_
        refine lv_iload_n hx hb dL_law_149 rfl (lv_at hl 3 rfl) ?_
        refine lv_iconst (v := (nI (4))) hx hb dL_law_150 (by decide) ?_
        refine lv_iadd hx hb dL_law_151 ?_
        refine rl_topn (nI_add _ _) ?_
        refine lw_sld hx hb hX hbl hLS (by omega) hL dL_law_152 ?_
        refine lv_if_eq (tgt := 160) hx hb dL_law_153 (by decide) (fun cb153 => ?_) (fun cb153 => ?_)
        · refine lv_iconst (v := (nI (0))) hx hb dL_law_160 (by decide) ?_
          obtain ⟨fsx, hfx⟩ := hI.obj
          refine lw_cCi hLS (lw_runV (b := x) (As := [.int (xs ((6 * k) + (1))), .int (xs ((6 * k) + (2))), .int (xs ((6 * k) + (3))), .int (nI (0))]) (rest := []) hC hLS.wc hLS.wcA (cC_constant l D t _ _ z x T ρ κ G E hI hT hG (xs ((6 * k) + (1))) (xs ((6 * k) + (2))) (xs ((6 * k) + (3))) 0 (by decide)) cs_L_13 im_X11_constant sl_X11_constant hfx rfl ⟨(Nat.le_of_ble_eq_true rfl), (Nat.le_of_ble_eq_true rfl)⟩ rfl hl.1 rfl (Nat.le_of_ble_eq_true rfl) dL_law_161 ⟨by simp only [rl_rm, room_1]; omega, by simp only [rl_rm, room_1]; omega⟩) (fun r fc z1 d1 H locs hp hLS hz1 => ?_)
          obtain ⟨⟨T1, E1, hd, hI⟩, hb1, hb2⟩ := hp
          refine lv_pop hx hb dL_law_164 rfl ?_
          refine lv_aload_n hx hb dL_law_165 rfl (lv_at hl 2 rfl) ?_
          refine lv_aload_n hx hb dL_law_166 rfl (lv_at hl 0 rfl) ?_
          refine lv_iload_n hx hb dL_law_167 rfl (lv_at hl 3 rfl) ?_
          refine lv_iconst (v := (nI (1))) hx hb dL_law_168 (by decide) ?_
          refine lv_iadd hx hb dL_law_169 ?_
          refine rl_topn (nI_add _ _) ?_
          refine lw_sld hx hb hX hbl hLS (by omega) hL dL_law_170 ?_
          refine lv_aload_n hx hb dL_law_171 rfl (lv_at hl 0 rfl) ?_
          refine lv_iload_n hx hb dL_law_172 rfl (lv_at hl 3 rfl) ?_
          refine lv_iconst (v := (nI (2))) hx hb dL_law_173 (by decide) ?_
          refine lv_iadd hx hb dL_law_174 ?_
          refine rl_topn (nI_add _ _) ?_
          refine lw_sld hx hb hX hbl hLS (by omega) hL dL_law_175 ?_
          refine lv_aload_n hx hb dL_law_176 rfl (lv_at hl 0 rfl) ?_
          refine lv_iload_n hx hb dL_law_177 rfl (lv_at hl 3 rfl) ?_
          refine lv_iconst (v := (nI (3))) hx hb dL_law_178 (by decide) ?_
          refine lv_iadd hx hb dL_law_179 ?_
          refine rl_topn (nI_add _ _) ?_
          refine lw_sld hx hb hX hbl hLS (by omega) hL dL_law_180 ?_
          refine lv_aload_n hx hb dL_law_181 rfl (lv_at hl 0 rfl) ?_
          refine lv_iload_n hx hb dL_law_182 rfl (lv_at hl 3 rfl) ?_
          refine lv_iconst (v := (nI (4))) hx hb dL_law_183 (by decide) ?_
          refine lv_iadd hx hb dL_law_184 ?_
          refine rl_topn (nI_add _ _) ?_
          refine lw_sld hx hb hX hbl hLS (by omega) hL dL_law_185 ?_
          refine lv_if_eq (tgt := 193) hx hb dL_law_186 (by decide) (fun cb186 => ?_) (fun cb186 => ?_)
          · refine lv_iconst (v := (nI (0))) hx hb dL_law_193 (by decide) ?_
            obtain ⟨fsx, hfx⟩ := hR.obj
            refine lw_cRiQ hLS (lw_runV (b := x + 58) (As := [.int (xs ((6 * k) + (1))), .int (xs ((6 * k) + (2))), .int (xs ((6 * k) + (3))), .int (nI (0))]) (rest := []) hC hLS.wr hLS.wrA (cR_constant l D t _ _ z1 (x + 58) T ρ κ G hR (xs ((6 * k) + (1))) (xs ((6 * k) + (2))) (xs ((6 * k) + (3))) 0 (by decide)) cs_L_17 im_X12_constant sl_X12_constant hfx rfl ⟨(Nat.le_of_ble_eq_true rfl), (Nat.le_of_ble_eq_true rfl)⟩ rfl hl.1 rfl (Nat.le_of_ble_eq_true rfl) dL_law_194 ⟨by simp only [rl_rm, room_1]; omega, by simp only [rl_rm, room_1]; omega⟩) (fun r' fr H locs hp hLS => ?_)
            obtain ⟨T2, hd2, hR⟩ := hp
            obtain ⟨hrr, hTT⟩ := rt_con.det hd hd2
            subst hTT
            refine lv_pop hx hb dL_law_197 rfl ?_
            refine lv_goto (tgt := 971) hx hb dL_law_198 (by decide) ?_
            refine lv_iinc (v := nI (6 * (k + 1))) (lv' := [(3, .int (nI (6 * (k + 1)))), (0, .ref (b)), (1, .ref (x)), (2, .ref (x + 58))]) hx hb dL_law_971 hl (k := 3) rfl (rg_i6 k) (by decide) rfl (fun ls hl => ?_)
            refine lv_goto (tgt := 18) hx hb dL_law_974 (by decide) ?_
            replace hl : lv_has ls 4 [(0, .ref (b)), (1, .ref (x)), (2, .ref (x + 58)), (3, .int (nI (6 * (k + 1))))] := lv_sub hl [1, 2, 3, 0] rfl
            refine W.widen (show _ ≤ 91 + 751 * (k + 1) by omega) (show _ ≤ 704548 + 3258 * (k + 1) by omega) ?_
            exact ih H locs ls fc fr T1 ρ κ G E1 z1 (k + 1) hLS hI hR (by omega) (by omega) (by omega) hl (by omega)
          · exact absurd cb153 cb186
        · refine lv_iconst (v := (nI (1))) hx hb dL_law_156 (by decide) ?_
          refine lv_goto (tgt := 161) hx hb dL_law_157 (by decide) ?_
          obtain ⟨fsx, hfx⟩ := hI.obj
          refine lw_cCi hLS (lw_runV (b := x) (As := [.int (xs ((6 * k) + (1))), .int (xs ((6 * k) + (2))), .int (xs ((6 * k) + (3))), .int (nI (1))]) (rest := []) hC hLS.wc hLS.wcA (cC_constant l D t _ _ z x T ρ κ G E hI hT hG (xs ((6 * k) + (1))) (xs ((6 * k) + (2))) (xs ((6 * k) + (3))) 1 (by decide)) cs_L_13 im_X11_constant sl_X11_constant hfx rfl ⟨(Nat.le_of_ble_eq_true rfl), (Nat.le_of_ble_eq_true rfl)⟩ rfl hl.1 rfl (Nat.le_of_ble_eq_true rfl) dL_law_161 ⟨by simp only [rl_rm, room_1]; omega, by simp only [rl_rm, room_1]; omega⟩) (fun r fc z1 d1 H locs hp hLS hz1 => ?_)
          obtain ⟨⟨T1, E1, hd, hI⟩, hb1, hb2⟩ := hp
          refine lv_pop hx hb dL_law_164 rfl ?_
          refine lv_aload_n hx hb dL_law_165 rfl (lv_at hl 2 rfl) ?_
          refine lv_aload_n hx hb dL_law_166 rfl (lv_at hl 0 rfl) ?_
          refine lv_iload_n hx hb dL_law_167 rfl (lv_at hl 3 rfl) ?_
          refine lv_iconst (v := (nI (1))) hx hb dL_law_168 (by decide) ?_
          refine lv_iadd hx hb dL_law_169 ?_
          refine rl_topn (nI_add _ _) ?_
          refine lw_sld hx hb hX hbl hLS (by omega) hL dL_law_170 ?_
          refine lv_aload_n hx hb dL_law_171 rfl (lv_at hl 0 rfl) ?_
          refine lv_iload_n hx hb dL_law_172 rfl (lv_at hl 3 rfl) ?_
          refine lv_iconst (v := (nI (2))) hx hb dL_law_173 (by decide) ?_
          refine lv_iadd hx hb dL_law_174 ?_
          refine rl_topn (nI_add _ _) ?_
          refine lw_sld hx hb hX hbl hLS (by omega) hL dL_law_175 ?_
          refine lv_aload_n hx hb dL_law_176 rfl (lv_at hl 0 rfl) ?_
          refine lv_iload_n hx hb dL_law_177 rfl (lv_at hl 3 rfl) ?_
          refine lv_iconst (v := (nI (3))) hx hb dL_law_178 (by decide) ?_
          refine lv_iadd hx hb dL_law_179 ?_
          refine rl_topn (nI_add _ _) ?_
          refine lw_sld hx hb hX hbl hLS (by omega) hL dL_law_180 ?_
          refine lv_aload_n hx hb dL_law_181 rfl (lv_at hl 0 rfl) ?_
          refine lv_iload_n hx hb dL_law_182 rfl (lv_at hl 3 rfl) ?_
          refine lv_iconst (v := (nI (4))) hx hb dL_law_183 (by decide) ?_
          refine lv_iadd hx hb dL_law_184 ?_
          refine rl_topn (nI_add _ _) ?_
          refine lw_sld hx hb hX hbl hLS (by omega) hL dL_law_185 ?_
          refine lv_if_eq (tgt := 193) hx hb dL_law_186 (by decide) (fun cb186 => ?_) (fun cb186 => ?_)
          · exact absurd cb186 cb153
          · refine lv_iconst (v := (nI (1))) hx hb dL_law_189 (by decide) ?_
            refine lv_goto (tgt := 194) hx hb dL_law_190 (by decide) ?_
            obtain ⟨fsx, hfx⟩ := hR.obj
            refine lw_cRiQ hLS (lw_runV (b := x + 58) (As := [.int (xs ((6 * k) + (1))), .int (xs ((6 * k) + (2))), .int (xs ((6 * k) + (3))), .int (nI (1))]) (rest := []) hC hLS.wr hLS.wrA (cR_constant l D t _ _ z1 (x + 58) T ρ κ G hR (xs ((6 * k) + (1))) (xs ((6 * k) + (2))) (xs ((6 * k) + (3))) 1 (by decide)) cs_L_17 im_X12_constant sl_X12_constant hfx rfl ⟨(Nat.le_of_ble_eq_true rfl), (Nat.le_of_ble_eq_true rfl)⟩ rfl hl.1 rfl (Nat.le_of_ble_eq_true rfl) dL_law_194 ⟨by simp only [rl_rm, room_1]; omega, by simp only [rl_rm, room_1]; omega⟩) (fun r' fr H locs hp hLS => ?_)
            obtain ⟨T2, hd2, hR⟩ := hp
            obtain ⟨hrr, hTT⟩ := rt_con.det hd hd2
            subst hTT
            refine lv_pop hx hb dL_law_197 rfl ?_
            refine lv_goto (tgt := 971) hx hb dL_law_198 (by decide) ?_
            refine lv_iinc (v := nI (6 * (k + 1))) (lv' := [(3, .int (nI (6 * (k + 1)))), (0, .ref (b)), (1, .ref (x)), (2, .ref (x + 58))]) hx hb dL_law_971 hl (k := 3) rfl (rg_i6 k) (by decide) rfl (fun ls hl => ?_)
            refine lv_goto (tgt := 18) hx hb dL_law_974 (by decide) ?_
            replace hl : lv_has ls 4 [(0, .ref (b)), (1, .ref (x)), (2, .ref (x + 58)), (3, .int (nI (6 * (k + 1))))] := lv_sub hl [1, 2, 3, 0] rfl
            refine W.widen (show _ ≤ 91 + 751 * (k + 1) by omega) (show _ ≤ 704548 + 3258 * (k + 1) by omega) ?_
            exact ih H locs ls fc fr T1 ρ κ G E1 z1 (k + 1) hLS hI hR (by omega) (by omega) (by omega) hl (by omega)
      · rcases Decidable.em (x_1 = 1) with rfl | n1
        · refine lv_tableIn (tgt := 201) hx hb dL_law_33 (by decide) (by decide) rfl (by decide) ?_
          refine lv_aload_n hx hb dL_law_201 rfl (lv_at hl 1 rfl) ?_
          refine lv_aload_n hx hb dL_law_202 rfl (lv_at hl 0 rfl) ?_
          refine lv_iload_n hx hb dL_law_203 rfl (lv_at hl 3 rfl) ?_
          refine lv_iconst (v := (nI (1))) hx hb dL_law_204 (by decide) ?_
          refine lv_iadd hx hb dL_law_205 ?_
          refine rl_topn (nI_add _ _) ?_
          refine lw_sld hx hb hX hbl hLS (by omega) hL dL_law_206 ?_
          refine lv_aload_n hx hb dL_law_207 rfl (lv_at hl 0 rfl) ?_
          refine lv_iload_n hx hb dL_law_208 rfl (lv_at hl 3 rfl) ?_
          refine lv_iconst (v := (nI (2))) hx hb dL_law_209 (by decide) ?_
          refine lv_iadd hx hb dL_law_210 ?_
          refine rl_topn (nI_add _ _) ?_
          refine lw_sld hx hb hX hbl hLS (by omega) hL dL_law_211 ?_
          refine lv_aload_n hx hb dL_law_212 rfl (lv_at hl 0 rfl) ?_
          refine lv_iload_n hx hb dL_law_213 rfl (lv_at hl 3 rfl) ?_
          refine lv_iconst (v := (nI (3))) hx hb dL_law_214 (by decide) ?_
          refine lv_iadd hx hb dL_law_215 ?_
          refine rl_topn (nI_add _ _) ?_
          refine lw_sld hx hb hX hbl hLS (by omega) hL dL_law_216 ?_
          refine lv_aload_n hx hb dL_law_217 rfl (lv_at hl 0 rfl) ?_
          refine lv_iload_n hx hb dL_law_218 rfl (lv_at hl 3 rfl) ?_
          refine lv_iconst (v := (nI (4))) hx hb dL_law_219 (by decide) ?_
          refine lv_iadd hx hb dL_law_220 ?_
          refine rl_topn (nI_add _ _) ?_
          refine lw_sld hx hb hX hbl hLS (by omega) hL dL_law_221 ?_
          refine lv_aload_n hx hb dL_law_222 rfl (lv_at hl 0 rfl) ?_
          refine lv_iload_n hx hb dL_law_223 rfl (lv_at hl 3 rfl) ?_
          refine lv_iconst (v := (nI (5))) hx hb dL_law_224 (by decide) ?_
          refine lv_iadd hx hb dL_law_225 ?_
          refine rl_topn (nI_add _ _) ?_
          refine lw_sld hx hb hX hbl hLS (by omega) hL dL_law_226 ?_
          obtain ⟨fsx, hfx⟩ := hI.obj
          refine lw_cCi hLS (lw_runV (b := x) (As := [.int (xs ((6 * k) + (1))), .int (xs ((6 * k) + (2))), .int (xs ((6 * k) + (3))), .int (xs ((6 * k) + (4))), .int (xs ((6 * k) + (5)))]) (rest := []) hC hLS.wc hLS.wcA (cC_part l D t _ _ z x T ρ κ G E hI hT hG (xs ((6 * k) + (1))) (xs ((6 * k) + (2))) (xs ((6 * k) + (3))) (xs ((6 * k) + (4))) (xs ((6 * k) + (5)))) cs_L_18 im_X11_part sl_X11_part hfx rfl ⟨(Nat.le_of_ble_eq_true rfl), (Nat.le_of_ble_eq_true rfl)⟩ rfl hl.1 rfl (Nat.le_of_ble_eq_true rfl) dL_law_227 ⟨by simp only [rl_rm, room_1]; omega, by simp only [rl_rm, room_1]; omega⟩) (fun r fc z1 d1 H locs hp hLS hz1 => ?_)
          obtain ⟨⟨T1, E1, hd, hI⟩, hb1, hb2⟩ := hp
          refine lv_pop hx hb dL_law_230 rfl ?_
          refine lv_aload_n hx hb dL_law_231 rfl (lv_at hl 2 rfl) ?_
          refine lv_aload_n hx hb dL_law_232 rfl (lv_at hl 0 rfl) ?_
          refine lv_iload_n hx hb dL_law_233 rfl (lv_at hl 3 rfl) ?_
          refine lv_iconst (v := (nI (1))) hx hb dL_law_234 (by decide) ?_
          refine lv_iadd hx hb dL_law_235 ?_
          refine rl_topn (nI_add _ _) ?_
          refine lw_sld hx hb hX hbl hLS (by omega) hL dL_law_236 ?_
          refine lv_aload_n hx hb dL_law_237 rfl (lv_at hl 0 rfl) ?_
          refine lv_iload_n hx hb dL_law_238 rfl (lv_at hl 3 rfl) ?_
          refine lv_iconst (v := (nI (2))) hx hb dL_law_239 (by decide) ?_
          refine lv_iadd hx hb dL_law_240 ?_
          refine rl_topn (nI_add _ _) ?_
          refine lw_sld hx hb hX hbl hLS (by omega) hL dL_law_241 ?_
          refine lv_aload_n hx hb dL_law_242 rfl (lv_at hl 0 rfl) ?_
          refine lv_iload_n hx hb dL_law_243 rfl (lv_at hl 3 rfl) ?_
          refine lv_iconst (v := (nI (3))) hx hb dL_law_244 (by decide) ?_
          refine lv_iadd hx hb dL_law_245 ?_
          refine rl_topn (nI_add _ _) ?_
          refine lw_sld hx hb hX hbl hLS (by omega) hL dL_law_246 ?_
          refine lv_aload_n hx hb dL_law_247 rfl (lv_at hl 0 rfl) ?_
          refine lv_iload_n hx hb dL_law_248 rfl (lv_at hl 3 rfl) ?_
          refine lv_iconst (v := (nI (4))) hx hb dL_law_249 (by decide) ?_
          refine lv_iadd hx hb dL_law_250 ?_
          refine rl_topn (nI_add _ _) ?_
          refine lw_sld hx hb hX hbl hLS (by omega) hL dL_law_251 ?_
          refine lv_aload_n hx hb dL_law_252 rfl (lv_at hl 0 rfl) ?_
          refine lv_iload_n hx hb dL_law_253 rfl (lv_at hl 3 rfl) ?_
          refine lv_iconst (v := (nI (5))) hx hb dL_law_254 (by decide) ?_
          refine lv_iadd hx hb dL_law_255 ?_
          refine rl_topn (nI_add _ _) ?_
          refine lw_sld hx hb hX hbl hLS (by omega) hL dL_law_256 ?_
          obtain ⟨fsx, hfx⟩ := hR.obj
          refine lw_cRiQ hLS (lw_runV (b := x + 58) (As := [.int (xs ((6 * k) + (1))), .int (xs ((6 * k) + (2))), .int (xs ((6 * k) + (3))), .int (xs ((6 * k) + (4))), .int (xs ((6 * k) + (5)))]) (rest := []) hC hLS.wr hLS.wrA (cR_part l D t _ _ z1 (x + 58) T ρ κ G hR (xs ((6 * k) + (1))) (xs ((6 * k) + (2))) (xs ((6 * k) + (3))) (xs ((6 * k) + (4))) (xs ((6 * k) + (5)))) cs_L_22 im_X12_part sl_X12_part hfx rfl ⟨(Nat.le_of_ble_eq_true rfl), (Nat.le_of_ble_eq_true rfl)⟩ rfl hl.1 rfl (Nat.le_of_ble_eq_true rfl) dL_law_257 ⟨by simp only [rl_rm, room_1]; omega, by simp only [rl_rm, room_1]; omega⟩) (fun r' fr H locs hp hLS => ?_)
          obtain ⟨T2, hd2, hR⟩ := hp
          obtain ⟨hrr, hTT⟩ := rt_par.det hd hd2
          subst hTT
          refine lv_pop hx hb dL_law_260 rfl ?_
          refine lv_goto (tgt := 971) hx hb dL_law_261 (by decide) ?_
          refine lv_iinc (v := nI (6 * (k + 1))) (lv' := [(3, .int (nI (6 * (k + 1)))), (0, .ref (b)), (1, .ref (x)), (2, .ref (x + 58))]) hx hb dL_law_971 hl (k := 3) rfl (rg_i6 k) (by decide) rfl (fun ls hl => ?_)
          refine lv_goto (tgt := 18) hx hb dL_law_974 (by decide) ?_
          replace hl : lv_has ls 4 [(0, .ref (b)), (1, .ref (x)), (2, .ref (x + 58)), (3, .int (nI (6 * (k + 1))))] := lv_sub hl [1, 2, 3, 0] rfl
          refine W.widen (show _ ≤ 91 + 751 * (k + 1) by omega) (show _ ≤ 704548 + 3258 * (k + 1) by omega) ?_
          exact ih H locs ls fc fr T1 ρ κ G E1 z1 (k + 1) hLS hI hR (by omega) (by omega) (by omega) hl (by omega)
        · rcases Decidable.em (x_1 = 2) with rfl | n2
          · refine lv_tableIn (tgt := 264) hx hb dL_law_33 (by decide) (by decide) rfl (by decide) ?_
            refine lv_aload_n hx hb dL_law_264 rfl (lv_at hl 1 rfl) ?_
            refine lv_aload_n hx hb dL_law_265 rfl (lv_at hl 0 rfl) ?_
            refine lv_iload_n hx hb dL_law_266 rfl (lv_at hl 3 rfl) ?_
            refine lv_iconst (v := (nI (1))) hx hb dL_law_267 (by decide) ?_
            refine lv_iadd hx hb dL_law_268 ?_
            refine rl_topn (nI_add _ _) ?_
            refine lw_sld hx hb hX hbl hLS (by omega) hL dL_law_269 ?_
            refine lv_aload_n hx hb dL_law_270 rfl (lv_at hl 0 rfl) ?_
            refine lv_iload_n hx hb dL_law_271 rfl (lv_at hl 3 rfl) ?_
            refine lv_iconst (v := (nI (2))) hx hb dL_law_272 (by decide) ?_
            refine lv_iadd hx hb dL_law_273 ?_
            refine rl_topn (nI_add _ _) ?_
            refine lw_sld hx hb hX hbl hLS (by omega) hL dL_law_274 ?_
            refine lv_aload_n hx hb dL_law_275 rfl (lv_at hl 0 rfl) ?_
            refine lv_iload_n hx hb dL_law_276 rfl (lv_at hl 3 rfl) ?_
            refine lv_iconst (v := (nI (3))) hx hb dL_law_277 (by decide) ?_
            refine lv_iadd hx hb dL_law_278 ?_
            refine rl_topn (nI_add _ _) ?_
            refine lw_sld hx hb hX hbl hLS (by omega) hL dL_law_279 ?_
            refine lv_aload_n hx hb dL_law_280 rfl (lv_at hl 0 rfl) ?_
            refine lv_iload_n hx hb dL_law_281 rfl (lv_at hl 3 rfl) ?_
            refine lv_iconst (v := (nI (4))) hx hb dL_law_282 (by decide) ?_
            refine lv_iadd hx hb dL_law_283 ?_
            refine rl_topn (nI_add _ _) ?_
            refine lw_sld hx hb hX hbl hLS (by omega) hL dL_law_284 ?_
            refine lv_aload_n hx hb dL_law_285 rfl (lv_at hl 0 rfl) ?_
            refine lv_iload_n hx hb dL_law_286 rfl (lv_at hl 3 rfl) ?_
            refine lv_iconst (v := (nI (5))) hx hb dL_law_287 (by decide) ?_
            refine lv_iadd hx hb dL_law_288 ?_
            refine rl_topn (nI_add _ _) ?_
            refine lw_sld hx hb hX hbl hLS (by omega) hL dL_law_289 ?_
            obtain ⟨fsx, hfx⟩ := hI.obj
            refine lw_cCi hLS (lw_runV (b := x) (As := [.int (xs ((6 * k) + (1))), .int (xs ((6 * k) + (2))), .int (xs ((6 * k) + (3))), .int (xs ((6 * k) + (4))), .int (xs ((6 * k) + (5)))]) (rest := []) hC hLS.wc hLS.wcA (cC_check l D t _ _ z x T ρ κ G E hI hT hG (xs ((6 * k) + (1))) (xs ((6 * k) + (2))) (xs ((6 * k) + (3))) (xs ((6 * k) + (4))) (xs ((6 * k) + (5)))) cs_L_23 im_X11_check sl_X11_check hfx rfl ⟨(Nat.le_of_ble_eq_true rfl), (Nat.le_of_ble_eq_true rfl)⟩ rfl hl.1 rfl (Nat.le_of_ble_eq_true rfl) dL_law_290 ⟨by simp only [rl_rm, room_1]; omega, by simp only [rl_rm, room_1]; omega⟩) (fun r fc z1 d1 H locs hp hLS hz1 => ?_)
            obtain ⟨⟨T1, E1, hd, hI⟩, hb1, hb2⟩ := hp
            refine lv_pop hx hb dL_law_293 rfl ?_
            refine lv_aload_n hx hb dL_law_294 rfl (lv_at hl 2 rfl) ?_
            refine lv_aload_n hx hb dL_law_295 rfl (lv_at hl 0 rfl) ?_
            refine lv_iload_n hx hb dL_law_296 rfl (lv_at hl 3 rfl) ?_
            refine lv_iconst (v := (nI (1))) hx hb dL_law_297 (by decide) ?_
            refine lv_iadd hx hb dL_law_298 ?_
            refine rl_topn (nI_add _ _) ?_
            refine lw_sld hx hb hX hbl hLS (by omega) hL dL_law_299 ?_
            refine lv_aload_n hx hb dL_law_300 rfl (lv_at hl 0 rfl) ?_
            refine lv_iload_n hx hb dL_law_301 rfl (lv_at hl 3 rfl) ?_
            refine lv_iconst (v := (nI (2))) hx hb dL_law_302 (by decide) ?_
            refine lv_iadd hx hb dL_law_303 ?_
            refine rl_topn (nI_add _ _) ?_
            refine lw_sld hx hb hX hbl hLS (by omega) hL dL_law_304 ?_
            refine lv_aload_n hx hb dL_law_305 rfl (lv_at hl 0 rfl) ?_
            refine lv_iload_n hx hb dL_law_306 rfl (lv_at hl 3 rfl) ?_
            refine lv_iconst (v := (nI (3))) hx hb dL_law_307 (by decide) ?_
            refine lv_iadd hx hb dL_law_308 ?_
            refine rl_topn (nI_add _ _) ?_
            refine lw_sld hx hb hX hbl hLS (by omega) hL dL_law_309 ?_
            refine lv_aload_n hx hb dL_law_310 rfl (lv_at hl 0 rfl) ?_
            refine lv_iload_n hx hb dL_law_311 rfl (lv_at hl 3 rfl) ?_
            refine lv_iconst (v := (nI (4))) hx hb dL_law_312 (by decide) ?_
            refine lv_iadd hx hb dL_law_313 ?_
            refine rl_topn (nI_add _ _) ?_
            refine lw_sld hx hb hX hbl hLS (by omega) hL dL_law_314 ?_
            refine lv_aload_n hx hb dL_law_315 rfl (lv_at hl 0 rfl) ?_
            refine lv_iload_n hx hb dL_law_316 rfl (lv_at hl 3 rfl) ?_
            refine lv_iconst (v := (nI (5))) hx hb dL_law_317 (by decide) ?_
            refine lv_iadd hx hb dL_law_318 ?_
            refine rl_topn (nI_add _ _) ?_
            refine lw_sld hx hb hX hbl hLS (by omega) hL dL_law_319 ?_
            obtain ⟨fsx, hfx⟩ := hR.obj
            refine lw_cRiQ hLS (lw_runV (b := x + 58) (As := [.int (xs ((6 * k) + (1))), .int (xs ((6 * k) + (2))), .int (xs ((6 * k) + (3))), .int (xs ((6 * k) + (4))), .int (xs ((6 * k) + (5)))]) (rest := []) hC hLS.wr hLS.wrA (cR_check l D t _ _ z1 (x + 58) T ρ κ G hR (xs ((6 * k) + (1))) (xs ((6 * k) + (2))) (xs ((6 * k) + (3))) (xs ((6 * k) + (4))) (xs ((6 * k) + (5)))) cs_L_26 im_X12_check sl_X12_check hfx rfl ⟨(Nat.le_of_ble_eq_true rfl), (Nat.le_of_ble_eq_true rfl)⟩ rfl hl.1 rfl (Nat.le_of_ble_eq_true rfl) dL_law_320 ⟨by simp only [rl_rm, room_1]; omega, by simp only [rl_rm, room_1]; omega⟩) (fun r' fr H locs hp hLS => ?_)
            obtain ⟨T2, hd2, hR⟩ := hp
            obtain ⟨hrr, hTT⟩ := rt_chk.det hT hd hd2
            subst hTT
            refine lv_pop hx hb dL_law_323 rfl ?_
            refine lv_goto (tgt := 971) hx hb dL_law_324 (by decide) ?_
            refine lv_iinc (v := nI (6 * (k + 1))) (lv' := [(3, .int (nI (6 * (k + 1)))), (0, .ref (b)), (1, .ref (x)), (2, .ref (x + 58))]) hx hb dL_law_971 hl (k := 3) rfl (rg_i6 k) (by decide) rfl (fun ls hl => ?_)
            refine lv_goto (tgt := 18) hx hb dL_law_974 (by decide) ?_
            replace hl : lv_has ls 4 [(0, .ref (b)), (1, .ref (x)), (2, .ref (x + 58)), (3, .int (nI (6 * (k + 1))))] := lv_sub hl [1, 2, 3, 0] rfl
            refine W.widen (show _ ≤ 91 + 751 * (k + 1) by omega) (show _ ≤ 704548 + 3258 * (k + 1) by omega) ?_
            exact ih H locs ls fc fr T1 ρ κ G E1 z1 (k + 1) hLS hI hR (by omega) (by omega) (by omega) hl (by omega)
          · rcases Decidable.em (x_1 = 3) with rfl | n3
            · refine lv_tableIn (tgt := 327) hx hb dL_law_33 (by decide) (by decide) rfl (by decide) ?_
              refine lv_aload_n hx hb dL_law_327 rfl (lv_at hl 1 rfl) ?_
              refine lv_aload_n hx hb dL_law_328 rfl (lv_at hl 0 rfl) ?_
              refine lv_iload_n hx hb dL_law_329 rfl (lv_at hl 3 rfl) ?_
              refine lv_iconst (v := (nI (1))) hx hb dL_law_330 (by decide) ?_
              refine lv_iadd hx hb dL_law_331 ?_
              refine rl_topn (nI_add _ _) ?_
              refine lw_sld hx hb hX hbl hLS (by omega) hL dL_law_332 ?_
              refine lv_aload_n hx hb dL_law_333 rfl (lv_at hl 0 rfl) ?_
              refine lv_iload_n hx hb dL_law_334 rfl (lv_at hl 3 rfl) ?_
              refine lv_iconst (v := (nI (2))) hx hb dL_law_335 (by decide) ?_
              refine lv_iadd hx hb dL_law_336 ?_
              refine rl_topn (nI_add _ _) ?_
              refine lw_sld hx hb hX hbl hLS (by omega) hL dL_law_337 ?_
              refine lv_aload_n hx hb dL_law_338 rfl (lv_at hl 0 rfl) ?_
              refine lv_iload_n hx hb dL_law_339 rfl (lv_at hl 3 rfl) ?_
              refine lv_iconst (v := (nI (3))) hx hb dL_law_340 (by decide) ?_
              refine lv_iadd hx hb dL_law_341 ?_
              refine rl_topn (nI_add _ _) ?_
              refine lw_sld hx hb hX hbl hLS (by omega) hL dL_law_342 ?_
              refine lv_aload_n hx hb dL_law_343 rfl (lv_at hl 0 rfl) ?_
              refine lv_iload_n hx hb dL_law_344 rfl (lv_at hl 3 rfl) ?_
              refine lv_iconst (v := (nI (4))) hx hb dL_law_345 (by decide) ?_
              refine lv_iadd hx hb dL_law_346 ?_
              refine rl_topn (nI_add _ _) ?_
              refine lw_sld hx hb hX hbl hLS (by omega) hL dL_law_347 ?_
              obtain ⟨fsx, hfx⟩ := hI.obj
              refine lw_cCiQ hLS (lw_runV (b := x) (As := [.int (xs ((6 * k) + (1))), .int (xs ((6 * k) + (2))), .int (xs ((6 * k) + (3))), .int (xs ((6 * k) + (4)))]) (rest := []) hC hLS.wc hLS.wcA (cC_hold l D t _ _ z x T ρ κ G E hI hT hG (xs ((6 * k) + (1))) (xs ((6 * k) + (2))) (xs ((6 * k) + (3))) (xs ((6 * k) + (4)))) cs_L_27 im_X11_hold sl_X11_hold hfx rfl ⟨(Nat.le_of_ble_eq_true rfl), (Nat.le_of_ble_eq_true rfl)⟩ rfl hl.1 rfl (Nat.le_of_ble_eq_true rfl) dL_law_348 ⟨by simp only [rl_rm, room_1]; omega, by simp only [rl_rm, room_1]; omega⟩) (fun r fc H locs hp hLS => ?_)
              obtain ⟨ρ1, κ1, G1, E1, hd, hI⟩ := hp
              refine lv_pop hx hb dL_law_351 rfl ?_
              refine lv_aload_n hx hb dL_law_352 rfl (lv_at hl 2 rfl) ?_
              refine lv_aload_n hx hb dL_law_353 rfl (lv_at hl 0 rfl) ?_
              refine lv_iload_n hx hb dL_law_354 rfl (lv_at hl 3 rfl) ?_
              refine lv_iconst (v := (nI (1))) hx hb dL_law_355 (by decide) ?_
              refine lv_iadd hx hb dL_law_356 ?_
              refine rl_topn (nI_add _ _) ?_
              refine lw_sld hx hb hX hbl hLS (by omega) hL dL_law_357 ?_
              refine lv_aload_n hx hb dL_law_358 rfl (lv_at hl 0 rfl) ?_
              refine lv_iload_n hx hb dL_law_359 rfl (lv_at hl 3 rfl) ?_
              refine lv_iconst (v := (nI (2))) hx hb dL_law_360 (by decide) ?_
              refine lv_iadd hx hb dL_law_361 ?_
              refine rl_topn (nI_add _ _) ?_
              refine lw_sld hx hb hX hbl hLS (by omega) hL dL_law_362 ?_
              refine lv_aload_n hx hb dL_law_363 rfl (lv_at hl 0 rfl) ?_
              refine lv_iload_n hx hb dL_law_364 rfl (lv_at hl 3 rfl) ?_
              refine lv_iconst (v := (nI (3))) hx hb dL_law_365 (by decide) ?_
              refine lv_iadd hx hb dL_law_366 ?_
              refine rl_topn (nI_add _ _) ?_
              refine lw_sld hx hb hX hbl hLS (by omega) hL dL_law_367 ?_
              refine lv_aload_n hx hb dL_law_368 rfl (lv_at hl 0 rfl) ?_
              refine lv_iload_n hx hb dL_law_369 rfl (lv_at hl 3 rfl) ?_
              refine lv_iconst (v := (nI (4))) hx hb dL_law_370 (by decide) ?_
              refine lv_iadd hx hb dL_law_371 ?_
              refine rl_topn (nI_add _ _) ?_
              refine lw_sld hx hb hX hbl hLS (by omega) hL dL_law_372 ?_
              obtain ⟨fsx, hfx⟩ := hR.obj
              refine lw_cRiQ hLS (lw_runV (b := x + 58) (As := [.int (xs ((6 * k) + (1))), .int (xs ((6 * k) + (2))), .int (xs ((6 * k) + (3))), .int (xs ((6 * k) + (4)))]) (rest := []) hC hLS.wr hLS.wrA (cR_hold l D t _ _ z (x + 58) T ρ κ G hR (xs ((6 * k) + (1))) (xs ((6 * k) + (2))) (xs ((6 * k) + (3))) (xs ((6 * k) + (4)))) cs_L_31 im_X12_hold sl_X12_hold hfx rfl ⟨(Nat.le_of_ble_eq_true rfl), (Nat.le_of_ble_eq_true rfl)⟩ rfl hl.1 rfl (Nat.le_of_ble_eq_true rfl) dL_law_373 ⟨by simp only [rl_rm, room_1]; omega, by simp only [rl_rm, room_1]; omega⟩) (fun r' fr H locs hp hLS => ?_)
              obtain ⟨ρ2, κ2, G2, hd2, hρ2, hκ2, hR⟩ := hp
              obtain ⟨hrr, he1, he2, he3⟩ := pr_inj hd hd2
              subst he1 he2 he3
              refine lv_pop hx hb dL_law_376 rfl ?_
              refine lv_goto (tgt := 971) hx hb dL_law_377 (by decide) ?_
              refine lv_iinc (v := nI (6 * (k + 1))) (lv' := [(3, .int (nI (6 * (k + 1)))), (0, .ref (b)), (1, .ref (x)), (2, .ref (x + 58))]) hx hb dL_law_971 hl (k := 3) rfl (rg_i6 k) (by decide) rfl (fun ls hl => ?_)
              refine lv_goto (tgt := 18) hx hb dL_law_974 (by decide) ?_
              replace hl : lv_has ls 4 [(0, .ref (b)), (1, .ref (x)), (2, .ref (x + 58)), (3, .int (nI (6 * (k + 1))))] := lv_sub hl [1, 2, 3, 0] rfl
              refine W.widen (show _ ≤ 91 + 751 * (k + 1) by omega) (show _ ≤ 704548 + 3258 * (k + 1) by omega) ?_
              exact ih H locs ls fc fr T ρ1 κ1 G1 E1 z (k + 1) hLS hI hR (by omega) (by omega) (by omega) hl (by omega)
            · rcases Decidable.em (x_1 = 4) with rfl | n4
              · refine lv_tableIn (tgt := 380) hx hb dL_law_33 (by decide) (by decide) rfl (by decide) ?_
                refine lv_aload_n hx hb dL_law_380 rfl (lv_at hl 1 rfl) ?_
                refine lv_aload_n hx hb dL_law_381 rfl (lv_at hl 0 rfl) ?_
                refine lv_iload_n hx hb dL_law_382 rfl (lv_at hl 3 rfl) ?_
                refine lv_iconst (v := (nI (1))) hx hb dL_law_383 (by decide) ?_
                refine lv_iadd hx hb dL_law_384 ?_
                refine rl_topn (nI_add _ _) ?_
                refine lw_sld hx hb hX hbl hLS (by omega) hL dL_law_385 ?_
                refine lv_aload_n hx hb dL_law_386 rfl (lv_at hl 0 rfl) ?_
                refine lv_iload_n hx hb dL_law_387 rfl (lv_at hl 3 rfl) ?_
                refine lv_iconst (v := (nI (2))) hx hb dL_law_388 (by decide) ?_
                refine lv_iadd hx hb dL_law_389 ?_
                refine rl_topn (nI_add _ _) ?_
                refine lw_sld hx hb hX hbl hLS (by omega) hL dL_law_390 ?_
                obtain ⟨fsx, hfx⟩ := hI.obj
                refine lw_cCi hLS (lw_runV (b := x) (As := [.int (xs ((6 * k) + (1))), .int (xs ((6 * k) + (2)))]) (rest := []) hC hLS.wc hLS.wcA (cC_row l D t _ _ z x T ρ κ G E hI hT hG (xs ((6 * k) + (1))) (xs ((6 * k) + (2)))) cs_L_32 im_X11_row sl_X11_row hfx rfl ⟨(Nat.le_of_ble_eq_true rfl), (Nat.le_of_ble_eq_true rfl)⟩ rfl hl.1 rfl (Nat.le_of_ble_eq_true rfl) dL_law_391 ⟨by simp only [rl_rm, room_1]; omega, by simp only [rl_rm, room_1]; omega⟩) (fun r fc z1 d1 H locs hp hLS hz1 => ?_)
                obtain ⟨⟨ρ1, κ1, G1, E1, hd, hI⟩, hb1, hb2⟩ := hp
                refine lv_pop hx hb dL_law_394 rfl ?_
                refine lv_aload_n hx hb dL_law_395 rfl (lv_at hl 2 rfl) ?_
                refine lv_aload_n hx hb dL_law_396 rfl (lv_at hl 0 rfl) ?_
                refine lv_iload_n hx hb dL_law_397 rfl (lv_at hl 3 rfl) ?_
                refine lv_iconst (v := (nI (1))) hx hb dL_law_398 (by decide) ?_
                refine lv_iadd hx hb dL_law_399 ?_
                refine rl_topn (nI_add _ _) ?_
                refine lw_sld hx hb hX hbl hLS (by omega) hL dL_law_400 ?_
                refine lv_aload_n hx hb dL_law_401 rfl (lv_at hl 0 rfl) ?_
                refine lv_iload_n hx hb dL_law_402 rfl (lv_at hl 3 rfl) ?_
                refine lv_iconst (v := (nI (2))) hx hb dL_law_403 (by decide) ?_
                refine lv_iadd hx hb dL_law_404 ?_
                refine rl_topn (nI_add _ _) ?_
                refine lw_sld hx hb hX hbl hLS (by omega) hL dL_law_405 ?_
                obtain ⟨fsx, hfx⟩ := hR.obj
                refine lw_cRiQ hLS (lw_runV (b := x + 58) (As := [.int (xs ((6 * k) + (1))), .int (xs ((6 * k) + (2)))]) (rest := []) hC hLS.wr hLS.wrA (cR_row l D t _ _ z1 (x + 58) T ρ κ G hR (by omega) (by omega) (xs ((6 * k) + (1))) (xs ((6 * k) + (2)))) cs_L_36 im_X12_row sl_X12_row hfx rfl ⟨(Nat.le_of_ble_eq_true rfl), (Nat.le_of_ble_eq_true rfl)⟩ rfl hl.1 rfl (Nat.le_of_ble_eq_true rfl) dL_law_406 ⟨by simp only [rl_rm, room_1]; omega, by simp only [rl_rm, room_1]; omega⟩) (fun r' fr H locs hp hLS => ?_)
                obtain ⟨ρ2, κ2, G2, hd2, hρ2, hκ2, hR⟩ := hp
                obtain ⟨hrr, he1, he2, he3⟩ := pr_inj hd hd2
                subst he1 he2 he3
                refine lv_pop hx hb dL_law_409 rfl ?_
                refine lv_goto (tgt := 971) hx hb dL_law_410 (by decide) ?_
                refine lv_iinc (v := nI (6 * (k + 1))) (lv' := [(3, .int (nI (6 * (k + 1)))), (0, .ref (b)), (1, .ref (x)), (2, .ref (x + 58))]) hx hb dL_law_971 hl (k := 3) rfl (rg_i6 k) (by decide) rfl (fun ls hl => ?_)
                refine lv_goto (tgt := 18) hx hb dL_law_974 (by decide) ?_
                replace hl : lv_has ls 4 [(0, .ref (b)), (1, .ref (x)), (2, .ref (x + 58)), (3, .int (nI (6 * (k + 1))))] := lv_sub hl [1, 2, 3, 0] rfl
                refine W.widen (show _ ≤ 91 + 751 * (k + 1) by omega) (show _ ≤ 704548 + 3258 * (k + 1) by omega) ?_
                exact ih H locs ls fc fr T ρ1 κ1 G1 E1 z1 (k + 1) hLS hI hR (by omega) (by omega) (by omega) hl (by omega)
              · rcases Decidable.em (x_1 = 5) with rfl | n5
                · refine lv_tableIn (tgt := 413) hx hb dL_law_33 (by decide) (by decide) rfl (by decide) ?_
                  refine lv_aload_n hx hb dL_law_413 rfl (lv_at hl 1 rfl) ?_
                  refine lv_aload_n hx hb dL_law_414 rfl (lv_at hl 0 rfl) ?_
                  refine lv_iload_n hx hb dL_law_415 rfl (lv_at hl 3 rfl) ?_
                  refine lv_iconst (v := (nI (1))) hx hb dL_law_416 (by decide) ?_
                  refine lv_iadd hx hb dL_law_417 ?_
                  refine rl_topn (nI_add _ _) ?_
                  refine lw_sld hx hb hX hbl hLS (by omega) hL dL_law_418 ?_
                  refine lv_aload_n hx hb dL_law_419 rfl (lv_at hl 0 rfl) ?_
                  refine lv_iload_n hx hb dL_law_420 rfl (lv_at hl 3 rfl) ?_
                  refine lv_iconst (v := (nI (2))) hx hb dL_law_421 (by decide) ?_
                  refine lv_iadd hx hb dL_law_422 ?_
                  refine rl_topn (nI_add _ _) ?_
                  refine lw_sld hx hb hX hbl hLS (by omega) hL dL_law_423 ?_
                  refine lv_aload_n hx hb dL_law_424 rfl (lv_at hl 0 rfl) ?_
                  refine lv_iload_n hx hb dL_law_425 rfl (lv_at hl 3 rfl) ?_
                  refine lv_iconst (v := (nI (3))) hx hb dL_law_426 (by decide) ?_
                  refine lv_iadd hx hb dL_law_427 ?_
                  refine rl_topn (nI_add _ _) ?_
                  refine lw_sld hx hb hX hbl hLS (by omega) hL dL_law_428 ?_
                  obtain ⟨fsx, hfx⟩ := hI.obj
                  refine lw_cCiQ hLS (lw_runV (b := x) (As := [.int (xs ((6 * k) + (1))), .int (xs ((6 * k) + (2))), .int (xs ((6 * k) + (3)))]) (rest := []) hC hLS.wc hLS.wcA (cC_item l D t _ _ z x T ρ κ G E hI hT hG (xs ((6 * k) + (1))) (xs ((6 * k) + (2))) (xs ((6 * k) + (3)))) cs_L_37 im_X11_item sl_X11_item hfx rfl ⟨(Nat.le_of_ble_eq_true rfl), (Nat.le_of_ble_eq_true rfl)⟩ rfl hl.1 rfl (Nat.le_of_ble_eq_true rfl) dL_law_429 ⟨by simp only [rl_rm, room_1]; omega, by simp only [rl_rm, room_1]; omega⟩) (fun r fc H locs hp hLS => ?_)
                  obtain ⟨ρ1, κ1, G1, E1, hd, hI⟩ := hp
                  refine lv_pop hx hb dL_law_432 rfl ?_
                  refine lv_aload_n hx hb dL_law_433 rfl (lv_at hl 2 rfl) ?_
                  refine lv_aload_n hx hb dL_law_434 rfl (lv_at hl 0 rfl) ?_
                  refine lv_iload_n hx hb dL_law_435 rfl (lv_at hl 3 rfl) ?_
                  refine lv_iconst (v := (nI (1))) hx hb dL_law_436 (by decide) ?_
                  refine lv_iadd hx hb dL_law_437 ?_
                  refine rl_topn (nI_add _ _) ?_
                  refine lw_sld hx hb hX hbl hLS (by omega) hL dL_law_438 ?_
                  refine lv_aload_n hx hb dL_law_439 rfl (lv_at hl 0 rfl) ?_
                  refine lv_iload_n hx hb dL_law_440 rfl (lv_at hl 3 rfl) ?_
                  refine lv_iconst (v := (nI (2))) hx hb dL_law_441 (by decide) ?_
                  refine lv_iadd hx hb dL_law_442 ?_
                  refine rl_topn (nI_add _ _) ?_
                  refine lw_sld hx hb hX hbl hLS (by omega) hL dL_law_443 ?_
                  refine lv_aload_n hx hb dL_law_444 rfl (lv_at hl 0 rfl) ?_
                  refine lv_iload_n hx hb dL_law_445 rfl (lv_at hl 3 rfl) ?_
                  refine lv_iconst (v := (nI (3))) hx hb dL_law_446 (by decide) ?_
                  refine lv_iadd hx hb dL_law_447 ?_
                  refine rl_topn (nI_add _ _) ?_
                  refine lw_sld hx hb hX hbl hLS (by omega) hL dL_law_448 ?_
                  obtain ⟨fsx, hfx⟩ := hR.obj
                  refine lw_cRiQ hLS (lw_runV (b := x + 58) (As := [.int (xs ((6 * k) + (1))), .int (xs ((6 * k) + (2))), .int (xs ((6 * k) + (3)))]) (rest := []) hC hLS.wr hLS.wrA (cR_item l D t _ _ z (x + 58) T ρ κ G hR (by omega) (by omega) (xs ((6 * k) + (1))) (xs ((6 * k) + (2))) (xs ((6 * k) + (3)))) cs_L_41 im_X12_item sl_X12_item hfx rfl ⟨(Nat.le_of_ble_eq_true rfl), (Nat.le_of_ble_eq_true rfl)⟩ rfl hl.1 rfl (Nat.le_of_ble_eq_true rfl) dL_law_449 ⟨by simp only [rl_rm, room_1]; omega, by simp only [rl_rm, room_1]; omega⟩) (fun r' fr H locs hp hLS => ?_)
                  obtain ⟨ρ2, κ2, G2, hd2, hρ2, hκ2, hR⟩ := hp
                  obtain ⟨hrr, he1, he2, he3⟩ := pr_inj hd hd2
                  subst he1 he2 he3
                  refine lv_pop hx hb dL_law_452 rfl ?_
                  refine lv_goto (tgt := 971) hx hb dL_law_453 (by decide) ?_
                  refine lv_iinc (v := nI (6 * (k + 1))) (lv' := [(3, .int (nI (6 * (k + 1)))), (0, .ref (b)), (1, .ref (x)), (2, .ref (x + 58))]) hx hb dL_law_971 hl (k := 3) rfl (rg_i6 k) (by decide) rfl (fun ls hl => ?_)
                  refine lv_goto (tgt := 18) hx hb dL_law_974 (by decide) ?_
                  replace hl : lv_has ls 4 [(0, .ref (b)), (1, .ref (x)), (2, .ref (x + 58)), (3, .int (nI (6 * (k + 1))))] := lv_sub hl [1, 2, 3, 0] rfl
                  refine W.widen (show _ ≤ 91 + 751 * (k + 1) by omega) (show _ ≤ 704548 + 3258 * (k + 1) by omega) ?_
                  exact ih H locs ls fc fr T ρ1 κ1 G1 E1 z (k + 1) hLS hI hR (by omega) (by omega) (by omega) hl (by omega)
                · rcases Decidable.em (x_1 = 6) with rfl | n6
                  · refine lv_tableIn (tgt := 456) hx hb dL_law_33 (by decide) (by decide) rfl (by decide) ?_
                    refine lv_aload_n hx hb dL_law_456 rfl (lv_at hl 1 rfl) ?_
                    refine lv_aload_n hx hb dL_law_457 rfl (lv_at hl 0 rfl) ?_
                    refine lv_iload_n hx hb dL_law_458 rfl (lv_at hl 3 rfl) ?_
                    refine lv_iconst (v := (nI (1))) hx hb dL_law_459 (by decide) ?_
                    refine lv_iadd hx hb dL_law_460 ?_
                    refine rl_topn (nI_add _ _) ?_
                    refine lw_sld hx hb hX hbl hLS (by omega) hL dL_law_461 ?_
                    refine lv_aload_n hx hb dL_law_462 rfl (lv_at hl 0 rfl) ?_
                    refine lv_iload_n hx hb dL_law_463 rfl (lv_at hl 3 rfl) ?_
                    refine lv_iconst (v := (nI (2))) hx hb dL_law_464 (by decide) ?_
                    refine lv_iadd hx hb dL_law_465 ?_
                    refine rl_topn (nI_add _ _) ?_
                    refine lw_sld hx hb hX hbl hLS (by omega) hL dL_law_466 ?_
                    obtain ⟨fsx, hfx⟩ := hI.obj
                    refine lw_cCiQ hLS (lw_runV (b := x) (As := [.int (xs ((6 * k) + (1))), .int (xs ((6 * k) + (2)))]) (rest := []) hC hLS.wc hLS.wcA (cC_share l D t _ _ z x T ρ κ G E hI hT hG (xs ((6 * k) + (1))) (xs ((6 * k) + (2)))) cs_L_42 im_X11_share sl_X11_share hfx rfl ⟨(Nat.le_of_ble_eq_true rfl), (Nat.le_of_ble_eq_true rfl)⟩ rfl hl.1 rfl (Nat.le_of_ble_eq_true rfl) dL_law_467 ⟨by simp only [rl_rm, room_1]; omega, by simp only [rl_rm, room_1]; omega⟩) (fun r fc H locs hp hLS => ?_)
                    obtain ⟨ρ1, κ1, G1, E1, hd, hI⟩ := hp
                    refine lv_pop hx hb dL_law_470 rfl ?_
                    refine lv_aload_n hx hb dL_law_471 rfl (lv_at hl 2 rfl) ?_
                    refine lv_aload_n hx hb dL_law_472 rfl (lv_at hl 0 rfl) ?_
                    refine lv_iload_n hx hb dL_law_473 rfl (lv_at hl 3 rfl) ?_
                    refine lv_iconst (v := (nI (1))) hx hb dL_law_474 (by decide) ?_
                    refine lv_iadd hx hb dL_law_475 ?_
                    refine rl_topn (nI_add _ _) ?_
                    refine lw_sld hx hb hX hbl hLS (by omega) hL dL_law_476 ?_
                    refine lv_aload_n hx hb dL_law_477 rfl (lv_at hl 0 rfl) ?_
                    refine lv_iload_n hx hb dL_law_478 rfl (lv_at hl 3 rfl) ?_
                    refine lv_iconst (v := (nI (2))) hx hb dL_law_479 (by decide) ?_
                    refine lv_iadd hx hb dL_law_480 ?_
                    refine rl_topn (nI_add _ _) ?_
                    refine lw_sld hx hb hX hbl hLS (by omega) hL dL_law_481 ?_
                    obtain ⟨fsx, hfx⟩ := hR.obj
                    refine lw_cRiQ hLS (lw_runV (b := x + 58) (As := [.int (xs ((6 * k) + (1))), .int (xs ((6 * k) + (2)))]) (rest := []) hC hLS.wr hLS.wrA (cR_share l D t _ _ z (x + 58) T ρ κ G hR (by omega) (by omega) (xs ((6 * k) + (1))) (xs ((6 * k) + (2)))) cs_L_45 im_X12_share sl_X12_share hfx rfl ⟨(Nat.le_of_ble_eq_true rfl), (Nat.le_of_ble_eq_true rfl)⟩ rfl hl.1 rfl (Nat.le_of_ble_eq_true rfl) dL_law_482 ⟨by simp only [rl_rm, room_1]; omega, by simp only [rl_rm, room_1]; omega⟩) (fun r' fr H locs hp hLS => ?_)
                    obtain ⟨ρ2, κ2, G2, hd2, hρ2, hκ2, hR⟩ := hp
                    obtain ⟨hrr, he1, he2, he3⟩ := pr_inj hd hd2
                    subst he1 he2 he3
                    refine lv_pop hx hb dL_law_485 rfl ?_
                    refine lv_goto (tgt := 971) hx hb dL_law_486 (by decide) ?_
                    refine lv_iinc (v := nI (6 * (k + 1))) (lv' := [(3, .int (nI (6 * (k + 1)))), (0, .ref (b)), (1, .ref (x)), (2, .ref (x + 58))]) hx hb dL_law_971 hl (k := 3) rfl (rg_i6 k) (by decide) rfl (fun ls hl => ?_)
                    refine lv_goto (tgt := 18) hx hb dL_law_974 (by decide) ?_
                    replace hl : lv_has ls 4 [(0, .ref (b)), (1, .ref (x)), (2, .ref (x + 58)), (3, .int (nI (6 * (k + 1))))] := lv_sub hl [1, 2, 3, 0] rfl
                    refine W.widen (show _ ≤ 91 + 751 * (k + 1) by omega) (show _ ≤ 704548 + 3258 * (k + 1) by omega) ?_
                    exact ih H locs ls fc fr T ρ1 κ1 G1 E1 z (k + 1) hLS hI hR (by omega) (by omega) (by omega) hl (by omega)
                  · rcases Decidable.em (x_1 = 7) with rfl | n7
                    · refine lv_tableIn (tgt := 489) hx hb dL_law_33 (by decide) (by decide) rfl (by decide) ?_
                      refine lv_aload_n hx hb dL_law_489 rfl (lv_at hl 1 rfl) ?_
                      refine lv_aload_n hx hb dL_law_490 rfl (lv_at hl 0 rfl) ?_
                      refine lv_iload_n hx hb dL_law_491 rfl (lv_at hl 3 rfl) ?_
                      refine lv_iconst (v := (nI (1))) hx hb dL_law_492 (by decide) ?_
                      refine lv_iadd hx hb dL_law_493 ?_
                      refine rl_topn (nI_add _ _) ?_
                      refine lw_sld hx hb hX hbl hLS (by omega) hL dL_law_494 ?_
                      refine lv_aload_n hx hb dL_law_495 rfl (lv_at hl 0 rfl) ?_
                      refine lv_iload_n hx hb dL_law_496 rfl (lv_at hl 3 rfl) ?_
                      refine lv_iconst (v := (nI (2))) hx hb dL_law_497 (by decide) ?_
                      refine lv_iadd hx hb dL_law_498 ?_
                      refine rl_topn (nI_add _ _) ?_
                      refine lw_sld hx hb hX hbl hLS (by omega) hL dL_law_499 ?_
                      refine lv_i2l hx hb dL_law_500 rfl ?_
                      refine lv_bipush (v := (nI (32))) hx hb dL_law_501 (by decide) ?_
                      refine lv_lshl hx hb dL_law_503 rfl ?_
                      refine lv_topl (fun x_2 ex_2 => ?_)
                      refine lv_aload_n hx hb dL_law_504 rfl (lv_at hl 0 rfl) ?_
                      refine lv_iload_n hx hb dL_law_505 rfl (lv_at hl 3 rfl) ?_
                      refine lv_iconst (v := (nI (3))) hx hb dL_law_506 (by decide) ?_
                      refine lv_iadd hx hb dL_law_507 ?_
                      refine rl_topn (nI_add _ _) ?_
                      refine lw_sld hx hb hX hbl hLS (by omega) hL dL_law_508 ?_
                      refine lv_i2l hx hb dL_law_509 rfl ?_
                      refine lv_ldc2 (v := 4294967295) hx hb hC.2.2.2.1 (hC.2.2.2.2.1 _ (List.mem_cons_of_mem _ mw_994)) dL_law_510 ?_
                      refine lv_land hx hb dL_law_513 ?_
                      refine lv_topl (fun x_3 ex_3 => ?_)
                      refine lv_lor hx hb dL_law_514 ?_
                      refine lv_topl (fun x_4 ex_4 => ?_)
                      refine lv_aload_n hx hb dL_law_515 rfl (lv_at hl 0 rfl) ?_
                      refine lv_iload_n hx hb dL_law_516 rfl (lv_at hl 3 rfl) ?_
                      refine lv_iconst (v := (nI (4))) hx hb dL_law_517 (by decide) ?_
                      refine lv_iadd hx hb dL_law_518 ?_
                      refine rl_topn (nI_add _ _) ?_
                      refine lw_sld hx hb hX hbl hLS (by omega) hL dL_law_519 ?_
                      obtain ⟨fsx, hfx⟩ := hI.obj
                      refine lw_cCiQ hLS (lw_runV (b := x) (As := [.int (xs ((6 * k) + (1))), .long (x_4), .int (xs ((6 * k) + (4)))]) (rest := []) hC hLS.wc hLS.wcA (cC_give l D t _ _ z x T ρ κ G E hI hT hG (xs ((6 * k) + (1))) (x_4) (xs ((6 * k) + (4)))) cs_L_48 im_X11_give sl_X11_give hfx rfl ⟨(Nat.le_of_ble_eq_true rfl), (Nat.le_of_ble_eq_true rfl)⟩ rfl hl.1 rfl (Nat.le_of_ble_eq_true rfl) dL_law_520 ⟨by simp only [rl_rm, room_1]; omega, by simp only [rl_rm, room_1]; omega⟩) (fun r fc H locs hp hLS => ?_)
                      obtain ⟨ρ1, κ1, G1, E1, hd, hI⟩ := hp
                      refine lv_pop hx hb dL_law_523 rfl ?_
                      refine lv_aload_n hx hb dL_law_524 rfl (lv_at hl 2 rfl) ?_
                      refine lv_aload_n hx hb dL_law_525 rfl (lv_at hl 0 rfl) ?_
                      refine lv_iload_n hx hb dL_law_526 rfl (lv_at hl 3 rfl) ?_
                      refine lv_iconst (v := (nI (1))) hx hb dL_law_527 (by decide) ?_
                      refine lv_iadd hx hb dL_law_528 ?_
                      refine rl_topn (nI_add _ _) ?_
                      refine lw_sld hx hb hX hbl hLS (by omega) hL dL_law_529 ?_
                      refine lv_aload_n hx hb dL_law_530 rfl (lv_at hl 0 rfl) ?_
                      refine lv_iload_n hx hb dL_law_531 rfl (lv_at hl 3 rfl) ?_
                      refine lv_iconst (v := (nI (2))) hx hb dL_law_532 (by decide) ?_
                      refine lv_iadd hx hb dL_law_533 ?_
                      refine rl_topn (nI_add _ _) ?_
                      refine lw_sld hx hb hX hbl hLS (by omega) hL dL_law_534 ?_
                      refine lv_i2l hx hb dL_law_535 rfl ?_
                      refine lv_bipush (v := (nI (32))) hx hb dL_law_536 (by decide) ?_
                      refine lv_lshl hx hb dL_law_538 rfl ?_
                      refine lv_topl (fun x_5 ex_5 => ?_)
                      refine lv_aload_n hx hb dL_law_539 rfl (lv_at hl 0 rfl) ?_
                      refine lv_iload_n hx hb dL_law_540 rfl (lv_at hl 3 rfl) ?_
                      refine lv_iconst (v := (nI (3))) hx hb dL_law_541 (by decide) ?_
                      refine lv_iadd hx hb dL_law_542 ?_
                      refine rl_topn (nI_add _ _) ?_
                      refine lw_sld hx hb hX hbl hLS (by omega) hL dL_law_543 ?_
                      refine lv_i2l hx hb dL_law_544 rfl ?_
                      refine lv_ldc2 (v := 4294967295) hx hb hC.2.2.2.1 (hC.2.2.2.2.1 _ (List.mem_cons_of_mem _ mw_994)) dL_law_545 ?_
                      refine lv_land hx hb dL_law_548 ?_
                      refine lv_topl (fun x_6 ex_6 => ?_)
                      refine lv_lor hx hb dL_law_549 ?_
                      refine lv_topl (fun x_7 ex_7 => ?_)
                      refine lv_aload_n hx hb dL_law_550 rfl (lv_at hl 0 rfl) ?_
                      refine lv_iload_n hx hb dL_law_551 rfl (lv_at hl 3 rfl) ?_
                      refine lv_iconst (v := (nI (4))) hx hb dL_law_552 (by decide) ?_
                      refine lv_iadd hx hb dL_law_553 ?_
                      refine rl_topn (nI_add _ _) ?_
                      refine lw_sld hx hb hX hbl hLS (by omega) hL dL_law_554 ?_
                      obtain ⟨fsx, hfx⟩ := hR.obj
                      refine lw_cRiQ hLS (lw_runV (b := x + 58) (As := [.int (xs ((6 * k) + (1))), .long (x_7), .int (xs ((6 * k) + (4)))]) (rest := []) hC hLS.wr hLS.wrA (cR_give l D t _ _ z (x + 58) T ρ κ G hR (by omega) (by omega) (xs ((6 * k) + (1))) (x_7) (xs ((6 * k) + (4)))) cs_L_52 im_X12_give sl_X12_give hfx rfl ⟨(Nat.le_of_ble_eq_true rfl), (Nat.le_of_ble_eq_true rfl)⟩ rfl hl.1 rfl (Nat.le_of_ble_eq_true rfl) dL_law_555 ⟨by simp only [rl_rm, room_1]; omega, by simp only [rl_rm, room_1]; omega⟩) (fun r' fr H locs hp hLS => ?_)
                      have hlx : x_7 = x_4 := by simp only [ex_2, ex_3, ex_4, ex_5, ex_6, ex_7]
                      rw [hlx] at hp
                      obtain ⟨ρ2, κ2, G2, hd2, hρ2, hκ2, hR⟩ := hp
                      obtain ⟨hrr, he1, he2, he3⟩ := pr_inj hd hd2
                      subst he1 he2 he3
                      refine lv_pop hx hb dL_law_558 rfl ?_
                      refine lv_goto (tgt := 971) hx hb dL_law_559 (by decide) ?_
                      refine lv_iinc (v := nI (6 * (k + 1))) (lv' := [(3, .int (nI (6 * (k + 1)))), (0, .ref (b)), (1, .ref (x)), (2, .ref (x + 58))]) hx hb dL_law_971 hl (k := 3) rfl (rg_i6 k) (by decide) rfl (fun ls hl => ?_)
                      refine lv_goto (tgt := 18) hx hb dL_law_974 (by decide) ?_
                      replace hl : lv_has ls 4 [(0, .ref (b)), (1, .ref (x)), (2, .ref (x + 58)), (3, .int (nI (6 * (k + 1))))] := lv_sub hl [1, 2, 3, 0] rfl
                      refine W.widen (show _ ≤ 91 + 751 * (k + 1) by omega) (show _ ≤ 704548 + 3258 * (k + 1) by omega) ?_
                      exact ih H locs ls fc fr T ρ1 κ1 G1 E1 z (k + 1) hLS hI hR (by omega) (by omega) (by omega) hl (by omega)
                    · rcases Decidable.em (x_1 = 8) with rfl | n8
                      · refine lv_tableIn (tgt := 562) hx hb dL_law_33 (by decide) (by decide) rfl (by decide) ?_
                        refine lv_aload_n hx hb dL_law_562 rfl (lv_at hl 1 rfl) ?_
                        refine lv_aload_n hx hb dL_law_563 rfl (lv_at hl 0 rfl) ?_
                        refine lv_iload_n hx hb dL_law_564 rfl (lv_at hl 3 rfl) ?_
                        refine lv_iconst (v := (nI (1))) hx hb dL_law_565 (by decide) ?_
                        refine lv_iadd hx hb dL_law_566 ?_
                        refine rl_topn (nI_add _ _) ?_
                        refine lw_sld hx hb hX hbl hLS (by omega) hL dL_law_567 ?_
                        refine lv_aload_n hx hb dL_law_568 rfl (lv_at hl 0 rfl) ?_
                        refine lv_iload_n hx hb dL_law_569 rfl (lv_at hl 3 rfl) ?_
                        refine lv_iconst (v := (nI (2))) hx hb dL_law_570 (by decide) ?_
                        refine lv_iadd hx hb dL_law_571 ?_
                        refine rl_topn (nI_add _ _) ?_
                        refine lw_sld hx hb hX hbl hLS (by omega) hL dL_law_572 ?_
                        refine lv_aload_n hx hb dL_law_573 rfl (lv_at hl 0 rfl) ?_
                        refine lv_iload_n hx hb dL_law_574 rfl (lv_at hl 3 rfl) ?_
                        refine lv_iconst (v := (nI (3))) hx hb dL_law_575 (by decide) ?_
                        refine lv_iadd hx hb dL_law_576 ?_
                        refine rl_topn (nI_add _ _) ?_
                        refine lw_sld hx hb hX hbl hLS (by omega) hL dL_law_577 ?_
                        obtain ⟨fsx, hfx⟩ := hI.obj
                        refine lw_cCi hLS (lw_runV (b := x) (As := [.int (xs ((6 * k) + (1))), .int (xs ((6 * k) + (2))), .int (xs ((6 * k) + (3)))]) (rest := []) hC hLS.wc hLS.wcA (cC_make l D t _ _ z x T ρ κ G E hI hT hG (xs ((6 * k) + (1))) (xs ((6 * k) + (2))) (xs ((6 * k) + (3)))) cs_L_53 im_X11_make sl_X11_make hfx rfl ⟨(Nat.le_of_ble_eq_true rfl), (Nat.le_of_ble_eq_true rfl)⟩ rfl hl.1 rfl (Nat.le_of_ble_eq_true rfl) dL_law_578 ⟨by simp only [rl_rm, room_1]; omega, by simp only [rl_rm, room_1]; omega⟩) (fun r fc z1 d1 H locs hp hLS hz1 => ?_)
                        obtain ⟨⟨ρ1, κ1, G1, E1, hd, hI⟩, hb1, hb2⟩ := hp
                        refine lv_pop hx hb dL_law_581 rfl ?_
                        refine lv_aload_n hx hb dL_law_582 rfl (lv_at hl 2 rfl) ?_
                        refine lv_aload_n hx hb dL_law_583 rfl (lv_at hl 0 rfl) ?_
                        refine lv_iload_n hx hb dL_law_584 rfl (lv_at hl 3 rfl) ?_
                        refine lv_iconst (v := (nI (1))) hx hb dL_law_585 (by decide) ?_
                        refine lv_iadd hx hb dL_law_586 ?_
                        refine rl_topn (nI_add _ _) ?_
                        refine lw_sld hx hb hX hbl hLS (by omega) hL dL_law_587 ?_
                        refine lv_aload_n hx hb dL_law_588 rfl (lv_at hl 0 rfl) ?_
                        refine lv_iload_n hx hb dL_law_589 rfl (lv_at hl 3 rfl) ?_
                        refine lv_iconst (v := (nI (2))) hx hb dL_law_590 (by decide) ?_
                        refine lv_iadd hx hb dL_law_591 ?_
                        refine rl_topn (nI_add _ _) ?_
                        refine lw_sld hx hb hX hbl hLS (by omega) hL dL_law_592 ?_
                        refine lv_aload_n hx hb dL_law_593 rfl (lv_at hl 0 rfl) ?_
                        refine lv_iload_n hx hb dL_law_594 rfl (lv_at hl 3 rfl) ?_
                        refine lv_iconst (v := (nI (3))) hx hb dL_law_595 (by decide) ?_
                        refine lv_iadd hx hb dL_law_596 ?_
                        refine rl_topn (nI_add _ _) ?_
                        refine lw_sld hx hb hX hbl hLS (by omega) hL dL_law_597 ?_
                        obtain ⟨fsx, hfx⟩ := hR.obj
                        refine lw_cRiQ hLS (lw_runV (b := x + 58) (As := [.int (xs ((6 * k) + (1))), .int (xs ((6 * k) + (2))), .int (xs ((6 * k) + (3)))]) (rest := []) hC hLS.wr hLS.wrA (cR_make l D t _ _ z1 (x + 58) T ρ κ G hR (by omega) (by omega) (xs ((6 * k) + (1))) (xs ((6 * k) + (2))) (xs ((6 * k) + (3)))) cs_L_56 im_X12_make sl_X12_make hfx rfl ⟨(Nat.le_of_ble_eq_true rfl), (Nat.le_of_ble_eq_true rfl)⟩ rfl hl.1 rfl (Nat.le_of_ble_eq_true rfl) dL_law_598 ⟨by simp only [rl_rm, room_1]; omega, by simp only [rl_rm, room_1]; omega⟩) (fun r' fr H locs hp hLS => ?_)
                        obtain ⟨ρ2, κ2, G2, hd2, hρ2, hκ2, hR⟩ := hp
                        obtain ⟨hrr, he1, he2, he3⟩ := pr_inj hd hd2
                        subst he1 he2 he3
                        refine lv_pop hx hb dL_law_601 rfl ?_
                        refine lv_goto (tgt := 971) hx hb dL_law_602 (by decide) ?_
                        refine lv_iinc (v := nI (6 * (k + 1))) (lv' := [(3, .int (nI (6 * (k + 1)))), (0, .ref (b)), (1, .ref (x)), (2, .ref (x + 58))]) hx hb dL_law_971 hl (k := 3) rfl (rg_i6 k) (by decide) rfl (fun ls hl => ?_)
                        refine lv_goto (tgt := 18) hx hb dL_law_974 (by decide) ?_
                        replace hl : lv_has ls 4 [(0, .ref (b)), (1, .ref (x)), (2, .ref (x + 58)), (3, .int (nI (6 * (k + 1))))] := lv_sub hl [1, 2, 3, 0] rfl
                        refine W.widen (show _ ≤ 91 + 751 * (k + 1) by omega) (show _ ≤ 704548 + 3258 * (k + 1) by omega) ?_
                        exact ih H locs ls fc fr T ρ1 κ1 G1 E1 z1 (k + 1) hLS hI hR (by omega) (by omega) (by omega) hl (by omega)
                      · rcases Decidable.em (x_1 = 9) with rfl | n9
                        · refine lv_tableIn (tgt := 605) hx hb dL_law_33 (by decide) (by decide) rfl (by decide) ?_
                          refine lv_aload_n hx hb dL_law_605 rfl (lv_at hl 1 rfl) ?_
                          refine lv_aload_n hx hb dL_law_606 rfl (lv_at hl 0 rfl) ?_
                          refine lv_iload_n hx hb dL_law_607 rfl (lv_at hl 3 rfl) ?_
                          refine lv_iconst (v := (nI (1))) hx hb dL_law_608 (by decide) ?_
                          refine lv_iadd hx hb dL_law_609 ?_
                          refine rl_topn (nI_add _ _) ?_
                          refine lw_sld hx hb hX hbl hLS (by omega) hL dL_law_610 ?_
                          refine lv_aload_n hx hb dL_law_611 rfl (lv_at hl 0 rfl) ?_
                          refine lv_iload_n hx hb dL_law_612 rfl (lv_at hl 3 rfl) ?_
                          refine lv_iconst (v := (nI (2))) hx hb dL_law_613 (by decide) ?_
                          refine lv_iadd hx hb dL_law_614 ?_
                          refine rl_topn (nI_add _ _) ?_
                          refine lw_sld hx hb hX hbl hLS (by omega) hL dL_law_615 ?_
                          obtain ⟨fsx, hfx⟩ := hI.obj
                          refine lw_cCiQ hLS (lw_runV (b := x) (As := [.int (xs ((6 * k) + (1))), .int (xs ((6 * k) + (2)))]) (rest := []) hC hLS.wc hLS.wcA (cC_about l D t _ _ z x T ρ κ G E hI hT hG (xs ((6 * k) + (1))) (xs ((6 * k) + (2)))) cs_L_57 im_X11_about sl_X11_about hfx rfl ⟨(Nat.le_of_ble_eq_true rfl), (Nat.le_of_ble_eq_true rfl)⟩ rfl hl.1 rfl (Nat.le_of_ble_eq_true rfl) dL_law_616 ⟨by simp only [rl_rm, room_1]; omega, by simp only [rl_rm, room_1]; omega⟩) (fun r fc H locs hp hLS => ?_)
                          obtain ⟨hd, hI⟩ := hp
                          refine lv_pop hx hb dL_law_619 rfl ?_
                          refine lv_aload_n hx hb dL_law_620 rfl (lv_at hl 2 rfl) ?_
                          refine lv_aload_n hx hb dL_law_621 rfl (lv_at hl 0 rfl) ?_
                          refine lv_iload_n hx hb dL_law_622 rfl (lv_at hl 3 rfl) ?_
                          refine lv_iconst (v := (nI (1))) hx hb dL_law_623 (by decide) ?_
                          refine lv_iadd hx hb dL_law_624 ?_
                          refine rl_topn (nI_add _ _) ?_
                          refine lw_sld hx hb hX hbl hLS (by omega) hL dL_law_625 ?_
                          refine lv_aload_n hx hb dL_law_626 rfl (lv_at hl 0 rfl) ?_
                          refine lv_iload_n hx hb dL_law_627 rfl (lv_at hl 3 rfl) ?_
                          refine lv_iconst (v := (nI (2))) hx hb dL_law_628 (by decide) ?_
                          refine lv_iadd hx hb dL_law_629 ?_
                          refine rl_topn (nI_add _ _) ?_
                          refine lw_sld hx hb hX hbl hLS (by omega) hL dL_law_630 ?_
                          obtain ⟨fsx, hfx⟩ := hR.obj
                          refine lw_cRiQ hLS (lw_runV (b := x + 58) (As := [.int (xs ((6 * k) + (1))), .int (xs ((6 * k) + (2)))]) (rest := []) hC hLS.wr hLS.wrA (cR_about l D t _ _ z (x + 58) T ρ κ G hR (by omega) (by omega) (xs ((6 * k) + (1))) (xs ((6 * k) + (2)))) cs_L_60 im_X12_about sl_X12_about hfx rfl ⟨(Nat.le_of_ble_eq_true rfl), (Nat.le_of_ble_eq_true rfl)⟩ rfl hl.1 rfl (Nat.le_of_ble_eq_true rfl) dL_law_631 ⟨by simp only [rl_rm, room_1]; omega, by simp only [rl_rm, room_1]; omega⟩) (fun r' fr H locs hp hLS => ?_)
                          obtain ⟨hd2, hR⟩ := hp
                          have hrr := hd.symm.trans hd2
                          refine lv_pop hx hb dL_law_634 rfl ?_
                          refine lv_goto (tgt := 971) hx hb dL_law_635 (by decide) ?_
                          refine lv_iinc (v := nI (6 * (k + 1))) (lv' := [(3, .int (nI (6 * (k + 1)))), (0, .ref (b)), (1, .ref (x)), (2, .ref (x + 58))]) hx hb dL_law_971 hl (k := 3) rfl (rg_i6 k) (by decide) rfl (fun ls hl => ?_)
                          refine lv_goto (tgt := 18) hx hb dL_law_974 (by decide) ?_
                          replace hl : lv_has ls 4 [(0, .ref (b)), (1, .ref (x)), (2, .ref (x + 58)), (3, .int (nI (6 * (k + 1))))] := lv_sub hl [1, 2, 3, 0] rfl
                          refine W.widen (show _ ≤ 91 + 751 * (k + 1) by omega) (show _ ≤ 704548 + 3258 * (k + 1) by omega) ?_
                          exact ih H locs ls fc fr T ρ κ G E z (k + 1) hLS hI hR (by omega) (by omega) (by omega) hl (by omega)
                        · rcases Decidable.em (x_1 = 10) with rfl | n10
                          · refine lv_tableIn (tgt := 638) hx hb dL_law_33 (by decide) (by decide) rfl (by decide) ?_
                            refine lv_aload_n hx hb dL_law_638 rfl (lv_at hl 1 rfl) ?_
                            refine lv_aload_n hx hb dL_law_639 rfl (lv_at hl 0 rfl) ?_
                            refine lv_iload_n hx hb dL_law_640 rfl (lv_at hl 3 rfl) ?_
                            refine lv_iconst (v := (nI (1))) hx hb dL_law_641 (by decide) ?_
                            refine lv_iadd hx hb dL_law_642 ?_
                            refine rl_topn (nI_add _ _) ?_
                            refine lw_sld hx hb hX hbl hLS (by omega) hL dL_law_643 ?_
                            refine lv_aload_n hx hb dL_law_644 rfl (lv_at hl 0 rfl) ?_
                            refine lv_iload_n hx hb dL_law_645 rfl (lv_at hl 3 rfl) ?_
                            refine lv_iconst (v := (nI (2))) hx hb dL_law_646 (by decide) ?_
                            refine lv_iadd hx hb dL_law_647 ?_
                            refine rl_topn (nI_add _ _) ?_
                            refine lw_sld hx hb hX hbl hLS (by omega) hL dL_law_648 ?_
                            obtain ⟨fsx, hfx⟩ := hI.obj
                            refine lw_cClQ hLS (lw_runV (b := x) (As := [.int (xs ((6 * k) + (1))), .int (xs ((6 * k) + (2)))]) (rest := []) hC hLS.wc hLS.wcA (cC_number l D t _ _ z x T ρ κ G E hI hT hG (xs ((6 * k) + (1))) (xs ((6 * k) + (2)))) cs_L_61 im_X11_number sl_X11_number hfx rfl ⟨(Nat.le_of_ble_eq_true rfl), (Nat.le_of_ble_eq_true rfl)⟩ rfl hl.1 rfl (Nat.le_of_ble_eq_true rfl) dL_law_649 ⟨by simp only [rl_rm, room_1]; omega, by simp only [rl_rm, room_1]; omega⟩) (fun r fc H locs hp hLS => ?_)
                            obtain ⟨hd, hI⟩ := hp
                            refine lv_pop2_2 hx hb dL_law_652 rfl ?_
                            refine lv_aload_n hx hb dL_law_653 rfl (lv_at hl 2 rfl) ?_
                            refine lv_aload_n hx hb dL_law_654 rfl (lv_at hl 0 rfl) ?_
                            refine lv_iload_n hx hb dL_law_655 rfl (lv_at hl 3 rfl) ?_
                            refine lv_iconst (v := (nI (1))) hx hb dL_law_656 (by decide) ?_
                            refine lv_iadd hx hb dL_law_657 ?_
                            refine rl_topn (nI_add _ _) ?_
                            refine lw_sld hx hb hX hbl hLS (by omega) hL dL_law_658 ?_
                            refine lv_aload_n hx hb dL_law_659 rfl (lv_at hl 0 rfl) ?_
                            refine lv_iload_n hx hb dL_law_660 rfl (lv_at hl 3 rfl) ?_
                            refine lv_iconst (v := (nI (2))) hx hb dL_law_661 (by decide) ?_
                            refine lv_iadd hx hb dL_law_662 ?_
                            refine rl_topn (nI_add _ _) ?_
                            refine lw_sld hx hb hX hbl hLS (by omega) hL dL_law_663 ?_
                            obtain ⟨fsx, hfx⟩ := hR.obj
                            refine lw_cRlQ hLS (lw_runV (b := x + 58) (As := [.int (xs ((6 * k) + (1))), .int (xs ((6 * k) + (2)))]) (rest := []) hC hLS.wr hLS.wrA (cR_number l D t _ _ z (x + 58) T ρ κ G hR (by omega) (by omega) (xs ((6 * k) + (1))) (xs ((6 * k) + (2)))) cs_L_65 im_X12_number sl_X12_number hfx rfl ⟨(Nat.le_of_ble_eq_true rfl), (Nat.le_of_ble_eq_true rfl)⟩ rfl hl.1 rfl (Nat.le_of_ble_eq_true rfl) dL_law_664 ⟨by simp only [rl_rm, room_1]; omega, by simp only [rl_rm, room_1]; omega⟩) (fun r' fr H locs hp hLS => ?_)
                            obtain ⟨hd2, hR⟩ := hp
                            have hrr := hd.symm.trans hd2
                            refine lv_pop2_2 hx hb dL_law_667 rfl ?_
                            refine lv_goto (tgt := 971) hx hb dL_law_668 (by decide) ?_
                            refine lv_iinc (v := nI (6 * (k + 1))) (lv' := [(3, .int (nI (6 * (k + 1)))), (0, .ref (b)), (1, .ref (x)), (2, .ref (x + 58))]) hx hb dL_law_971 hl (k := 3) rfl (rg_i6 k) (by decide) rfl (fun ls hl => ?_)
                            refine lv_goto (tgt := 18) hx hb dL_law_974 (by decide) ?_
                            replace hl : lv_has ls 4 [(0, .ref (b)), (1, .ref (x)), (2, .ref (x + 58)), (3, .int (nI (6 * (k + 1))))] := lv_sub hl [1, 2, 3, 0] rfl
                            refine W.widen (show _ ≤ 91 + 751 * (k + 1) by omega) (show _ ≤ 704548 + 3258 * (k + 1) by omega) ?_
                            exact ih H locs ls fc fr T ρ κ G E z (k + 1) hLS hI hR (by omega) (by omega) (by omega) hl (by omega)
                          · rcases Decidable.em (x_1 = 11) with rfl | n11
                            · refine lv_tableIn (tgt := 671) hx hb dL_law_33 (by decide) (by decide) rfl (by decide) ?_
                              refine lv_aload_n hx hb dL_law_671 rfl (lv_at hl 1 rfl) ?_
                              refine lv_aload_n hx hb dL_law_672 rfl (lv_at hl 0 rfl) ?_
                              refine lv_iload_n hx hb dL_law_673 rfl (lv_at hl 3 rfl) ?_
                              refine lv_iconst (v := (nI (1))) hx hb dL_law_674 (by decide) ?_
                              refine lv_iadd hx hb dL_law_675 ?_
                              refine rl_topn (nI_add _ _) ?_
                              refine lw_sld hx hb hX hbl hLS (by omega) hL dL_law_676 ?_
                              refine lv_aload_n hx hb dL_law_677 rfl (lv_at hl 0 rfl) ?_
                              refine lv_iload_n hx hb dL_law_678 rfl (lv_at hl 3 rfl) ?_
                              refine lv_iconst (v := (nI (2))) hx hb dL_law_679 (by decide) ?_
                              refine lv_iadd hx hb dL_law_680 ?_
                              refine rl_topn (nI_add _ _) ?_
                              refine lw_sld hx hb hX hbl hLS (by omega) hL dL_law_681 ?_
                              refine lv_aload_n hx hb dL_law_682 rfl (lv_at hl 0 rfl) ?_
                              refine lv_iload_n hx hb dL_law_683 rfl (lv_at hl 3 rfl) ?_
                              refine lv_iconst (v := (nI (3))) hx hb dL_law_684 (by decide) ?_
                              refine lv_iadd hx hb dL_law_685 ?_
                              refine rl_topn (nI_add _ _) ?_
                              refine lw_sld hx hb hX hbl hLS (by omega) hL dL_law_686 ?_
                              obtain ⟨fsx, hfx⟩ := hI.obj
                              refine lw_cCiQ hLS (lw_runV (b := x) (As := [.int (xs ((6 * k) + (1))), .int (xs ((6 * k) + (2))), .int (xs ((6 * k) + (3)))]) (rest := []) hC hLS.wc hLS.wcA (cC_take l D t _ _ z x T ρ κ G E hI hT hG (xs ((6 * k) + (1))) (xs ((6 * k) + (2))) (xs ((6 * k) + (3)))) cs_L_66 im_X11_take sl_X11_take hfx rfl ⟨(Nat.le_of_ble_eq_true rfl), (Nat.le_of_ble_eq_true rfl)⟩ rfl hl.1 rfl (Nat.le_of_ble_eq_true rfl) dL_law_687 ⟨by simp only [rl_rm, room_1]; omega, by simp only [rl_rm, room_1]; omega⟩) (fun r fc H locs hp hLS => ?_)
                              obtain ⟨ρ1, κ1, G1, E1, hd, hI⟩ := hp
                              refine lv_pop hx hb dL_law_690 rfl ?_
                              refine lv_aload_n hx hb dL_law_691 rfl (lv_at hl 2 rfl) ?_
                              refine lv_aload_n hx hb dL_law_692 rfl (lv_at hl 0 rfl) ?_
                              refine lv_iload_n hx hb dL_law_693 rfl (lv_at hl 3 rfl) ?_
                              refine lv_iconst (v := (nI (1))) hx hb dL_law_694 (by decide) ?_
                              refine lv_iadd hx hb dL_law_695 ?_
                              refine rl_topn (nI_add _ _) ?_
                              refine lw_sld hx hb hX hbl hLS (by omega) hL dL_law_696 ?_
                              refine lv_aload_n hx hb dL_law_697 rfl (lv_at hl 0 rfl) ?_
                              refine lv_iload_n hx hb dL_law_698 rfl (lv_at hl 3 rfl) ?_
                              refine lv_iconst (v := (nI (2))) hx hb dL_law_699 (by decide) ?_
                              refine lv_iadd hx hb dL_law_700 ?_
                              refine rl_topn (nI_add _ _) ?_
                              refine lw_sld hx hb hX hbl hLS (by omega) hL dL_law_701 ?_
                              refine lv_aload_n hx hb dL_law_702 rfl (lv_at hl 0 rfl) ?_
                              refine lv_iload_n hx hb dL_law_703 rfl (lv_at hl 3 rfl) ?_
                              refine lv_iconst (v := (nI (3))) hx hb dL_law_704 (by decide) ?_
                              refine lv_iadd hx hb dL_law_705 ?_
                              refine rl_topn (nI_add _ _) ?_
                              refine lw_sld hx hb hX hbl hLS (by omega) hL dL_law_706 ?_
                              obtain ⟨fsx, hfx⟩ := hR.obj
                              refine lw_cRiQ hLS (lw_runV (b := x + 58) (As := [.int (xs ((6 * k) + (1))), .int (xs ((6 * k) + (2))), .int (xs ((6 * k) + (3)))]) (rest := []) hC hLS.wr hLS.wrA (cR_take l D t _ _ z (x + 58) T ρ κ G hR (by omega) (by omega) (xs ((6 * k) + (1))) (xs ((6 * k) + (2))) (xs ((6 * k) + (3)))) cs_L_69 im_X12_take sl_X12_take hfx rfl ⟨(Nat.le_of_ble_eq_true rfl), (Nat.le_of_ble_eq_true rfl)⟩ rfl hl.1 rfl (Nat.le_of_ble_eq_true rfl) dL_law_707 ⟨by simp only [rl_rm, room_1]; omega, by simp only [rl_rm, room_1]; omega⟩) (fun r' fr H locs hp hLS => ?_)
                              obtain ⟨ρ2, κ2, G2, hd2, hρ2, hκ2, hR⟩ := hp
                              obtain ⟨hrr, he1, he2, he3⟩ := pr_inj hd hd2
                              subst he1 he2 he3
                              refine lv_pop hx hb dL_law_710 rfl ?_
                              refine lv_goto (tgt := 971) hx hb dL_law_711 (by decide) ?_
                              refine lv_iinc (v := nI (6 * (k + 1))) (lv' := [(3, .int (nI (6 * (k + 1)))), (0, .ref (b)), (1, .ref (x)), (2, .ref (x + 58))]) hx hb dL_law_971 hl (k := 3) rfl (rg_i6 k) (by decide) rfl (fun ls hl => ?_)
                              refine lv_goto (tgt := 18) hx hb dL_law_974 (by decide) ?_
                              replace hl : lv_has ls 4 [(0, .ref (b)), (1, .ref (x)), (2, .ref (x + 58)), (3, .int (nI (6 * (k + 1))))] := lv_sub hl [1, 2, 3, 0] rfl
                              refine W.widen (show _ ≤ 91 + 751 * (k + 1) by omega) (show _ ≤ 704548 + 3258 * (k + 1) by omega) ?_
                              exact ih H locs ls fc fr T ρ1 κ1 G1 E1 z (k + 1) hLS hI hR (by omega) (by omega) (by omega) hl (by omega)
                            · rcases Decidable.em (x_1 = 12) with rfl | n12
                              · refine lv_tableIn (tgt := 714) hx hb dL_law_33 (by decide) (by decide) rfl (by decide) ?_
                                refine lv_aload_n hx hb dL_law_714 rfl (lv_at hl 1 rfl) ?_
                                refine lv_aload_n hx hb dL_law_715 rfl (lv_at hl 0 rfl) ?_
                                refine lv_iload_n hx hb dL_law_716 rfl (lv_at hl 3 rfl) ?_
                                refine lv_iconst (v := (nI (1))) hx hb dL_law_717 (by decide) ?_
                                refine lv_iadd hx hb dL_law_718 ?_
                                refine rl_topn (nI_add _ _) ?_
                                refine lw_sld hx hb hX hbl hLS (by omega) hL dL_law_719 ?_
                                refine lv_aload_n hx hb dL_law_720 rfl (lv_at hl 0 rfl) ?_
                                refine lv_iload_n hx hb dL_law_721 rfl (lv_at hl 3 rfl) ?_
                                refine lv_iconst (v := (nI (2))) hx hb dL_law_722 (by decide) ?_
                                refine lv_iadd hx hb dL_law_723 ?_
                                refine rl_topn (nI_add _ _) ?_
                                refine lw_sld hx hb hX hbl hLS (by omega) hL dL_law_724 ?_
                                obtain ⟨fsx, hfx⟩ := hI.obj
                                refine lw_cCiQ hLS (lw_runV (b := x) (As := [.int (xs ((6 * k) + (1))), .int (xs ((6 * k) + (2)))]) (rest := []) hC hLS.wc hLS.wcA (cC_like l D t _ _ z x T ρ κ G E hI hT hG (xs ((6 * k) + (1))) (xs ((6 * k) + (2)))) cs_L_70 im_X11_like sl_X11_like hfx rfl ⟨(Nat.le_of_ble_eq_true rfl), (Nat.le_of_ble_eq_true rfl)⟩ rfl hl.1 rfl (Nat.le_of_ble_eq_true rfl) dL_law_725 ⟨by simp only [rl_rm, room_1]; omega, by simp only [rl_rm, room_1]; omega⟩) (fun r fc H locs hp hLS => ?_)
                                obtain ⟨hd, hI⟩ := hp
                                refine lv_pop hx hb dL_law_728 rfl ?_
                                refine lv_aload_n hx hb dL_law_729 rfl (lv_at hl 2 rfl) ?_
                                refine lv_aload_n hx hb dL_law_730 rfl (lv_at hl 0 rfl) ?_
                                refine lv_iload_n hx hb dL_law_731 rfl (lv_at hl 3 rfl) ?_
                                refine lv_iconst (v := (nI (1))) hx hb dL_law_732 (by decide) ?_
                                refine lv_iadd hx hb dL_law_733 ?_
                                refine rl_topn (nI_add _ _) ?_
                                refine lw_sld hx hb hX hbl hLS (by omega) hL dL_law_734 ?_
                                refine lv_aload_n hx hb dL_law_735 rfl (lv_at hl 0 rfl) ?_
                                refine lv_iload_n hx hb dL_law_736 rfl (lv_at hl 3 rfl) ?_
                                refine lv_iconst (v := (nI (2))) hx hb dL_law_737 (by decide) ?_
                                refine lv_iadd hx hb dL_law_738 ?_
                                refine rl_topn (nI_add _ _) ?_
                                refine lw_sld hx hb hX hbl hLS (by omega) hL dL_law_739 ?_
                                obtain ⟨fsx, hfx⟩ := hR.obj
                                refine lw_cRiQ hLS (lw_runV (b := x + 58) (As := [.int (xs ((6 * k) + (1))), .int (xs ((6 * k) + (2)))]) (rest := []) hC hLS.wr hLS.wrA (cR_like l D t _ _ z (x + 58) T ρ κ G hR (by omega) (by omega) (xs ((6 * k) + (1))) (xs ((6 * k) + (2)))) cs_L_73 im_X12_like sl_X12_like hfx rfl ⟨(Nat.le_of_ble_eq_true rfl), (Nat.le_of_ble_eq_true rfl)⟩ rfl hl.1 rfl (Nat.le_of_ble_eq_true rfl) dL_law_740 ⟨by simp only [rl_rm, room_1]; omega, by simp only [rl_rm, room_1]; omega⟩) (fun r' fr H locs hp hLS => ?_)
                                obtain ⟨hd2, hR⟩ := hp
                                have hrr := hd.symm.trans hd2
                                refine lv_pop hx hb dL_law_743 rfl ?_
                                refine lv_goto (tgt := 971) hx hb dL_law_744 (by decide) ?_
                                refine lv_iinc (v := nI (6 * (k + 1))) (lv' := [(3, .int (nI (6 * (k + 1)))), (0, .ref (b)), (1, .ref (x)), (2, .ref (x + 58))]) hx hb dL_law_971 hl (k := 3) rfl (rg_i6 k) (by decide) rfl (fun ls hl => ?_)
                                refine lv_goto (tgt := 18) hx hb dL_law_974 (by decide) ?_
                                replace hl : lv_has ls 4 [(0, .ref (b)), (1, .ref (x)), (2, .ref (x + 58)), (3, .int (nI (6 * (k + 1))))] := lv_sub hl [1, 2, 3, 0] rfl
                                refine W.widen (show _ ≤ 91 + 751 * (k + 1) by omega) (show _ ≤ 704548 + 3258 * (k + 1) by omega) ?_
                                exact ih H locs ls fc fr T ρ κ G E z (k + 1) hLS hI hR (by omega) (by omega) (by omega) hl (by omega)
                              · rcases Decidable.em (x_1 = 13) with rfl | n13
                                · refine lv_tableIn (tgt := 747) hx hb dL_law_33 (by decide) (by decide) rfl (by decide) ?_
                                  refine lv_aload_n hx hb dL_law_747 rfl (lv_at hl 1 rfl) ?_
                                  refine lv_aload_n hx hb dL_law_748 rfl (lv_at hl 0 rfl) ?_
                                  refine lv_iload_n hx hb dL_law_749 rfl (lv_at hl 3 rfl) ?_
                                  refine lv_iconst (v := (nI (1))) hx hb dL_law_750 (by decide) ?_
                                  refine lv_iadd hx hb dL_law_751 ?_
                                  refine rl_topn (nI_add _ _) ?_
                                  refine lw_sld hx hb hX hbl hLS (by omega) hL dL_law_752 ?_
                                  obtain ⟨fsx, hfx⟩ := hI.obj
                                  refine lw_cCiQ hLS (lw_runV (b := x) (As := [.int (xs ((6 * k) + (1)))]) (rest := []) hC hLS.wc hLS.wcA (cC_write l D t _ _ z x T ρ κ G E hI hT hG (xs ((6 * k) + (1)))) cs_L_74 im_X11_write sl_X11_write hfx rfl ⟨(Nat.le_of_ble_eq_true rfl), (Nat.le_of_ble_eq_true rfl)⟩ rfl hl.1 rfl (Nat.le_of_ble_eq_true rfl) dL_law_753 ⟨by simp only [rl_rm, room_1]; omega, by simp only [rl_rm, room_1]; omega⟩) (fun r fc H locs hp hLS => ?_)
                                  obtain ⟨ρ1, κ1, G1, E1, hd, hI⟩ := hp
                                  refine lv_pop hx hb dL_law_756 rfl ?_
                                  refine lv_aload_n hx hb dL_law_757 rfl (lv_at hl 2 rfl) ?_
                                  refine lv_aload_n hx hb dL_law_758 rfl (lv_at hl 0 rfl) ?_
                                  refine lv_iload_n hx hb dL_law_759 rfl (lv_at hl 3 rfl) ?_
                                  refine lv_iconst (v := (nI (1))) hx hb dL_law_760 (by decide) ?_
                                  refine lv_iadd hx hb dL_law_761 ?_
                                  refine rl_topn (nI_add _ _) ?_
                                  refine lw_sld hx hb hX hbl hLS (by omega) hL dL_law_762 ?_
                                  obtain ⟨fsx, hfx⟩ := hR.obj
                                  refine lw_cRiQ hLS (lw_runV (b := x + 58) (As := [.int (xs ((6 * k) + (1)))]) (rest := []) hC hLS.wr hLS.wrA (cR_write l D t _ _ z (x + 58) T ρ κ G hR (by omega) (by omega) (xs ((6 * k) + (1)))) cs_L_78 im_X12_write sl_X12_write hfx rfl ⟨(Nat.le_of_ble_eq_true rfl), (Nat.le_of_ble_eq_true rfl)⟩ rfl hl.1 rfl (Nat.le_of_ble_eq_true rfl) dL_law_763 ⟨by simp only [rl_rm, room_1]; omega, by simp only [rl_rm, room_1]; omega⟩) (fun r' fr H locs hp hLS => ?_)
                                  obtain ⟨ρ2, κ2, G2, hd2, hρ2, hκ2, hR⟩ := hp
                                  obtain ⟨hrr, he1, he2, he3⟩ := pr_inj hd hd2
                                  subst he1 he2 he3
                                  refine lv_pop hx hb dL_law_766 rfl ?_
                                  refine lv_goto (tgt := 971) hx hb dL_law_767 (by decide) ?_
                                  refine lv_iinc (v := nI (6 * (k + 1))) (lv' := [(3, .int (nI (6 * (k + 1)))), (0, .ref (b)), (1, .ref (x)), (2, .ref (x + 58))]) hx hb dL_law_971 hl (k := 3) rfl (rg_i6 k) (by decide) rfl (fun ls hl => ?_)
                                  refine lv_goto (tgt := 18) hx hb dL_law_974 (by decide) ?_
                                  replace hl : lv_has ls 4 [(0, .ref (b)), (1, .ref (x)), (2, .ref (x + 58)), (3, .int (nI (6 * (k + 1))))] := lv_sub hl [1, 2, 3, 0] rfl
                                  refine W.widen (show _ ≤ 91 + 751 * (k + 1) by omega) (show _ ≤ 704548 + 3258 * (k + 1) by omega) ?_
                                  exact ih H locs ls fc fr T ρ1 κ1 G1 E1 z (k + 1) hLS hI hR (by omega) (by omega) (by omega) hl (by omega)
                                · rcases Decidable.em (x_1 = 14) with rfl | n14
                                  · refine lv_tableIn (tgt := 770) hx hb dL_law_33 (by decide) (by decide) rfl (by decide) ?_
                                    refine lv_aload_n hx hb dL_law_770 rfl (lv_at hl 1 rfl) ?_
                                    refine lv_aload_n hx hb dL_law_771 rfl (lv_at hl 0 rfl) ?_
                                    refine lv_iload_n hx hb dL_law_772 rfl (lv_at hl 3 rfl) ?_
                                    refine lv_iconst (v := (nI (1))) hx hb dL_law_773 (by decide) ?_
                                    refine lv_iadd hx hb dL_law_774 ?_
                                    refine rl_topn (nI_add _ _) ?_
                                    refine lw_sld hx hb hX hbl hLS (by omega) hL dL_law_775 ?_
                                    obtain ⟨fsx, hfx⟩ := hI.obj
                                    refine lw_cClQ hLS (lw_runV (b := x) (As := [.int (xs ((6 * k) + (1)))]) (rest := []) hC hLS.wc hLS.wcA (cC_leaf l D t _ _ z x T ρ κ G E hI hT hG (xs ((6 * k) + (1)))) cs_L_79 im_X11_leaf sl_X11_leaf hfx rfl ⟨(Nat.le_of_ble_eq_true rfl), (Nat.le_of_ble_eq_true rfl)⟩ rfl hl.1 rfl (Nat.le_of_ble_eq_true rfl) dL_law_776 ⟨by simp only [rl_rm, room_1]; omega, by simp only [rl_rm, room_1]; omega⟩) (fun r fc H locs hp hLS => ?_)
                                    obtain ⟨hd, hI⟩ := hp
                                    refine lv_pop2_2 hx hb dL_law_779 rfl ?_
                                    refine lv_aload_n hx hb dL_law_780 rfl (lv_at hl 2 rfl) ?_
                                    refine lv_aload_n hx hb dL_law_781 rfl (lv_at hl 0 rfl) ?_
                                    refine lv_iload_n hx hb dL_law_782 rfl (lv_at hl 3 rfl) ?_
                                    refine lv_iconst (v := (nI (1))) hx hb dL_law_783 (by decide) ?_
                                    refine lv_iadd hx hb dL_law_784 ?_
                                    refine rl_topn (nI_add _ _) ?_
                                    refine lw_sld hx hb hX hbl hLS (by omega) hL dL_law_785 ?_
                                    obtain ⟨fsx, hfx⟩ := hR.obj
                                    refine lw_cRlQ hLS (lw_runV (b := x + 58) (As := [.int (xs ((6 * k) + (1)))]) (rest := []) hC hLS.wr hLS.wrA (cR_leaf l D t _ _ z (x + 58) T ρ κ G hR (by omega) (by omega) (xs ((6 * k) + (1)))) cs_L_83 im_X12_leaf sl_X12_leaf hfx rfl ⟨(Nat.le_of_ble_eq_true rfl), (Nat.le_of_ble_eq_true rfl)⟩ rfl hl.1 rfl (Nat.le_of_ble_eq_true rfl) dL_law_786 ⟨by simp only [rl_rm, room_1]; omega, by simp only [rl_rm, room_1]; omega⟩) (fun r' fr H locs hp hLS => ?_)
                                    obtain ⟨hd2, hR⟩ := hp
                                    have hrr := hd.symm.trans hd2
                                    refine lv_pop2_2 hx hb dL_law_789 rfl ?_
                                    refine lv_goto (tgt := 971) hx hb dL_law_790 (by decide) ?_
                                    refine lv_iinc (v := nI (6 * (k + 1))) (lv' := [(3, .int (nI (6 * (k + 1)))), (0, .ref (b)), (1, .ref (x)), (2, .ref (x + 58))]) hx hb dL_law_971 hl (k := 3) rfl (rg_i6 k) (by decide) rfl (fun ls hl => ?_)
                                    refine lv_goto (tgt := 18) hx hb dL_law_974 (by decide) ?_
                                    replace hl : lv_has ls 4 [(0, .ref (b)), (1, .ref (x)), (2, .ref (x + 58)), (3, .int (nI (6 * (k + 1))))] := lv_sub hl [1, 2, 3, 0] rfl
                                    refine W.widen (show _ ≤ 91 + 751 * (k + 1) by omega) (show _ ≤ 704548 + 3258 * (k + 1) by omega) ?_
                                    exact ih H locs ls fc fr T ρ κ G E z (k + 1) hLS hI hR (by omega) (by omega) (by omega) hl (by omega)
                                  · rcases Decidable.em (x_1 = 15) with rfl | n15
                                    · refine lv_tableIn (tgt := 793) hx hb dL_law_33 (by decide) (by decide) rfl (by decide) ?_
                                      refine lv_aload_n hx hb dL_law_793 rfl (lv_at hl 1 rfl) ?_
                                      refine lv_aload_n hx hb dL_law_794 rfl (lv_at hl 0 rfl) ?_
                                      refine lv_iload_n hx hb dL_law_795 rfl (lv_at hl 3 rfl) ?_
                                      refine lv_iconst (v := (nI (1))) hx hb dL_law_796 (by decide) ?_
                                      refine lv_iadd hx hb dL_law_797 ?_
                                      refine rl_topn (nI_add _ _) ?_
                                      refine lw_sld hx hb hX hbl hLS (by omega) hL dL_law_798 ?_
                                      refine lv_aload_n hx hb dL_law_799 rfl (lv_at hl 0 rfl) ?_
                                      refine lv_iload_n hx hb dL_law_800 rfl (lv_at hl 3 rfl) ?_
                                      refine lv_iconst (v := (nI (2))) hx hb dL_law_801 (by decide) ?_
                                      refine lv_iadd hx hb dL_law_802 ?_
                                      refine rl_topn (nI_add _ _) ?_
                                      refine lw_sld hx hb hX hbl hLS (by omega) hL dL_law_803 ?_
                                      refine lv_i2l hx hb dL_law_804 rfl ?_
                                      refine lv_bipush (v := (nI (32))) hx hb dL_law_805 (by decide) ?_
                                      refine lv_lshl hx hb dL_law_807 rfl ?_
                                      refine lv_topl (fun x_8 ex_8 => ?_)
                                      refine lv_aload_n hx hb dL_law_808 rfl (lv_at hl 0 rfl) ?_
                                      refine lv_iload_n hx hb dL_law_809 rfl (lv_at hl 3 rfl) ?_
                                      refine lv_iconst (v := (nI (3))) hx hb dL_law_810 (by decide) ?_
                                      refine lv_iadd hx hb dL_law_811 ?_
                                      refine rl_topn (nI_add _ _) ?_
                                      refine lw_sld hx hb hX hbl hLS (by omega) hL dL_law_812 ?_
                                      refine lv_i2l hx hb dL_law_813 rfl ?_
                                      refine lv_ldc2 (v := 4294967295) hx hb hC.2.2.2.1 (hC.2.2.2.2.1 _ (List.mem_cons_of_mem _ mw_994)) dL_law_814 ?_
                                      refine lv_land hx hb dL_law_817 ?_
                                      refine lv_topl (fun x_9 ex_9 => ?_)
                                      refine lv_lor hx hb dL_law_818 ?_
                                      refine lv_topl (fun x_10 ex_10 => ?_)
                                      obtain ⟨fsx, hfx⟩ := hI.obj
                                      refine lw_cCiQ hLS (lw_runV (b := x) (As := [.int (xs ((6 * k) + (1))), .long (x_10)]) (rest := []) hC hLS.wc hLS.wcA (cC_set l D t _ _ z x T ρ κ G E hI hT hG (xs ((6 * k) + (1))) (x_10)) cs_L_84 im_X11_set sl_X11_set hfx rfl ⟨(Nat.le_of_ble_eq_true rfl), (Nat.le_of_ble_eq_true rfl)⟩ rfl hl.1 rfl (Nat.le_of_ble_eq_true rfl) dL_law_819 ⟨by simp only [rl_rm, room_1]; omega, by simp only [rl_rm, room_1]; omega⟩) (fun r fc H locs hp hLS => ?_)
                                      obtain ⟨ρ1, κ1, G1, E1, hd, hI⟩ := hp
                                      refine lv_pop hx hb dL_law_822 rfl ?_
                                      refine lv_aload_n hx hb dL_law_823 rfl (lv_at hl 2 rfl) ?_
                                      refine lv_aload_n hx hb dL_law_824 rfl (lv_at hl 0 rfl) ?_
                                      refine lv_iload_n hx hb dL_law_825 rfl (lv_at hl 3 rfl) ?_
                                      refine lv_iconst (v := (nI (1))) hx hb dL_law_826 (by decide) ?_
                                      refine lv_iadd hx hb dL_law_827 ?_
                                      refine rl_topn (nI_add _ _) ?_
                                      refine lw_sld hx hb hX hbl hLS (by omega) hL dL_law_828 ?_
                                      refine lv_aload_n hx hb dL_law_829 rfl (lv_at hl 0 rfl) ?_
                                      refine lv_iload_n hx hb dL_law_830 rfl (lv_at hl 3 rfl) ?_
                                      refine lv_iconst (v := (nI (2))) hx hb dL_law_831 (by decide) ?_
                                      refine lv_iadd hx hb dL_law_832 ?_
                                      refine rl_topn (nI_add _ _) ?_
                                      refine lw_sld hx hb hX hbl hLS (by omega) hL dL_law_833 ?_
                                      refine lv_i2l hx hb dL_law_834 rfl ?_
                                      refine lv_bipush (v := (nI (32))) hx hb dL_law_835 (by decide) ?_
                                      refine lv_lshl hx hb dL_law_837 rfl ?_
                                      refine lv_topl (fun x_11 ex_11 => ?_)
                                      refine lv_aload_n hx hb dL_law_838 rfl (lv_at hl 0 rfl) ?_
                                      refine lv_iload_n hx hb dL_law_839 rfl (lv_at hl 3 rfl) ?_
                                      refine lv_iconst (v := (nI (3))) hx hb dL_law_840 (by decide) ?_
                                      refine lv_iadd hx hb dL_law_841 ?_
                                      refine rl_topn (nI_add _ _) ?_
                                      refine lw_sld hx hb hX hbl hLS (by omega) hL dL_law_842 ?_
                                      refine lv_i2l hx hb dL_law_843 rfl ?_
                                      refine lv_ldc2 (v := 4294967295) hx hb hC.2.2.2.1 (hC.2.2.2.2.1 _ (List.mem_cons_of_mem _ mw_994)) dL_law_844 ?_
                                      refine lv_land hx hb dL_law_847 ?_
                                      refine lv_topl (fun x_12 ex_12 => ?_)
                                      refine lv_lor hx hb dL_law_848 ?_
                                      refine lv_topl (fun x_13 ex_13 => ?_)
                                      obtain ⟨fsx, hfx⟩ := hR.obj
                                      refine lw_cRiQ hLS (lw_runV (b := x + 58) (As := [.int (xs ((6 * k) + (1))), .long (x_13)]) (rest := []) hC hLS.wr hLS.wrA (cR_set l D t _ _ z (x + 58) T ρ κ G hR (by omega) (by omega) (xs ((6 * k) + (1))) (x_13)) cs_L_88 im_X12_set sl_X12_set hfx rfl ⟨(Nat.le_of_ble_eq_true rfl), (Nat.le_of_ble_eq_true rfl)⟩ rfl hl.1 rfl (Nat.le_of_ble_eq_true rfl) dL_law_849 ⟨by simp only [rl_rm, room_1]; omega, by simp only [rl_rm, room_1]; omega⟩) (fun r' fr H locs hp hLS => ?_)
                                      have hlx : x_13 = x_10 := by simp only [ex_8, ex_9, ex_10, ex_11, ex_12, ex_13]
                                      rw [hlx] at hp
                                      obtain ⟨ρ2, κ2, G2, hd2, hρ2, hκ2, hR⟩ := hp
                                      obtain ⟨hrr, he1, he2, he3⟩ := pr_inj hd hd2
                                      subst he1 he2 he3
                                      refine lv_pop hx hb dL_law_852 rfl ?_
                                      refine lv_goto (tgt := 971) hx hb dL_law_853 (by decide) ?_
                                      refine lv_iinc (v := nI (6 * (k + 1))) (lv' := [(3, .int (nI (6 * (k + 1)))), (0, .ref (b)), (1, .ref (x)), (2, .ref (x + 58))]) hx hb dL_law_971 hl (k := 3) rfl (rg_i6 k) (by decide) rfl (fun ls hl => ?_)
                                      refine lv_goto (tgt := 18) hx hb dL_law_974 (by decide) ?_
                                      replace hl : lv_has ls 4 [(0, .ref (b)), (1, .ref (x)), (2, .ref (x + 58)), (3, .int (nI (6 * (k + 1))))] := lv_sub hl [1, 2, 3, 0] rfl
                                      refine W.widen (show _ ≤ 91 + 751 * (k + 1) by omega) (show _ ≤ 704548 + 3258 * (k + 1) by omega) ?_
                                      exact ih H locs ls fc fr T ρ1 κ1 G1 E1 z (k + 1) hLS hI hR (by omega) (by omega) (by omega) hl (by omega)
                                    · rcases Decidable.em (x_1 = 16) with rfl | n16
                                      · refine lv_tableIn (tgt := 856) hx hb dL_law_33 (by decide) (by decide) rfl (by decide) ?_
                                        refine lv_aload_n hx hb dL_law_856 rfl (lv_at hl 1 rfl) ?_
                                        refine lv_aload_n hx hb dL_law_857 rfl (lv_at hl 0 rfl) ?_
                                        refine lv_iload_n hx hb dL_law_858 rfl (lv_at hl 3 rfl) ?_
                                        refine lv_iconst (v := (nI (1))) hx hb dL_law_859 (by decide) ?_
                                        refine lv_iadd hx hb dL_law_860 ?_
                                        refine rl_topn (nI_add _ _) ?_
                                        refine lw_sld hx hb hX hbl hLS (by omega) hL dL_law_861 ?_
                                        obtain ⟨fsx, hfx⟩ := hI.obj
                                        refine lw_cCiQ hLS (lw_runV (b := x) (As := [.int (xs ((6 * k) + (1)))]) (rest := []) hC hLS.wc hLS.wcA (cC_cut l D t _ _ z x T ρ κ G E hI hT hG (xs ((6 * k) + (1)))) cs_L_89 im_X11_cut sl_X11_cut hfx rfl ⟨(Nat.le_of_ble_eq_true rfl), (Nat.le_of_ble_eq_true rfl)⟩ rfl hl.1 rfl (Nat.le_of_ble_eq_true rfl) dL_law_862 ⟨by simp only [rl_rm, room_1]; omega, by simp only [rl_rm, room_1]; omega⟩) (fun r fc H locs hp hLS => ?_)
                                        obtain ⟨ρ1, κ1, G1, E1, hd, hI⟩ := hp
                                        refine lv_pop hx hb dL_law_865 rfl ?_
                                        refine lv_aload_n hx hb dL_law_866 rfl (lv_at hl 2 rfl) ?_
                                        refine lv_aload_n hx hb dL_law_867 rfl (lv_at hl 0 rfl) ?_
                                        refine lv_iload_n hx hb dL_law_868 rfl (lv_at hl 3 rfl) ?_
                                        refine lv_iconst (v := (nI (1))) hx hb dL_law_869 (by decide) ?_
                                        refine lv_iadd hx hb dL_law_870 ?_
                                        refine rl_topn (nI_add _ _) ?_
                                        refine lw_sld hx hb hX hbl hLS (by omega) hL dL_law_871 ?_
                                        obtain ⟨fsx, hfx⟩ := hR.obj
                                        refine lw_cRiQ hLS (lw_runV (b := x + 58) (As := [.int (xs ((6 * k) + (1)))]) (rest := []) hC hLS.wr hLS.wrA (cR_cut l D t _ _ z (x + 58) T ρ κ G hR (by omega) (by omega) (xs ((6 * k) + (1)))) cs_L_92 im_X12_cut sl_X12_cut hfx rfl ⟨(Nat.le_of_ble_eq_true rfl), (Nat.le_of_ble_eq_true rfl)⟩ rfl hl.1 rfl (Nat.le_of_ble_eq_true rfl) dL_law_872 ⟨by simp only [rl_rm, room_1]; omega, by simp only [rl_rm, room_1]; omega⟩) (fun r' fr H locs hp hLS => ?_)
                                        obtain ⟨ρ2, κ2, G2, hd2, hρ2, hκ2, hR⟩ := hp
                                        obtain ⟨hrr, he1, he2, he3⟩ := pr_inj hd hd2
                                        subst he1 he2 he3
                                        refine lv_pop hx hb dL_law_875 rfl ?_
                                        refine lv_goto (tgt := 971) hx hb dL_law_876 (by decide) ?_
                                        refine lv_iinc (v := nI (6 * (k + 1))) (lv' := [(3, .int (nI (6 * (k + 1)))), (0, .ref (b)), (1, .ref (x)), (2, .ref (x + 58))]) hx hb dL_law_971 hl (k := 3) rfl (rg_i6 k) (by decide) rfl (fun ls hl => ?_)
                                        refine lv_goto (tgt := 18) hx hb dL_law_974 (by decide) ?_
                                        replace hl : lv_has ls 4 [(0, .ref (b)), (1, .ref (x)), (2, .ref (x + 58)), (3, .int (nI (6 * (k + 1))))] := lv_sub hl [1, 2, 3, 0] rfl
                                        refine W.widen (show _ ≤ 91 + 751 * (k + 1) by omega) (show _ ≤ 704548 + 3258 * (k + 1) by omega) ?_
                                        exact ih H locs ls fc fr T ρ1 κ1 G1 E1 z (k + 1) hLS hI hR (by omega) (by omega) (by omega) hl (by omega)
                                      · rcases Decidable.em (x_1 = 17) with rfl | n17
                                        · refine lv_tableIn (tgt := 879) hx hb dL_law_33 (by decide) (by decide) rfl (by decide) ?_
                                          refine lv_aload_n hx hb dL_law_879 rfl (lv_at hl 1 rfl) ?_
                                          refine lv_aload_n hx hb dL_law_880 rfl (lv_at hl 0 rfl) ?_
                                          refine lv_iload_n hx hb dL_law_881 rfl (lv_at hl 3 rfl) ?_
                                          refine lv_iconst (v := (nI (1))) hx hb dL_law_882 (by decide) ?_
                                          refine lv_iadd hx hb dL_law_883 ?_
                                          refine rl_topn (nI_add _ _) ?_
                                          refine lw_sld hx hb hX hbl hLS (by omega) hL dL_law_884 ?_
                                          refine lv_aload_n hx hb dL_law_885 rfl (lv_at hl 0 rfl) ?_
                                          refine lv_iload_n hx hb dL_law_886 rfl (lv_at hl 3 rfl) ?_
                                          refine lv_iconst (v := (nI (2))) hx hb dL_law_887 (by decide) ?_
                                          refine lv_iadd hx hb dL_law_888 ?_
                                          refine rl_topn (nI_add _ _) ?_
                                          refine lw_sld hx hb hX hbl hLS (by omega) hL dL_law_889 ?_
                                          obtain ⟨fsx, hfx⟩ := hI.obj
                                          refine lw_cCi hLS (lw_runV (b := x) (As := [.int (xs ((6 * k) + (1))), .int (xs ((6 * k) + (2)))]) (rest := []) hC hLS.wc hLS.wcA (cC_read l D t _ _ z x T ρ κ G E hI hT hG (xs ((6 * k) + (1))) (xs ((6 * k) + (2)))) cs_L_93 im_X11_read sl_X11_read hfx rfl ⟨(Nat.le_of_ble_eq_true rfl), (Nat.le_of_ble_eq_true rfl)⟩ rfl hl.1 rfl (Nat.le_of_ble_eq_true rfl) dL_law_890 ⟨by simp only [rl_rm, room_1]; omega, by simp only [rl_rm, room_1]; omega⟩) (fun r fc z1 d1 H locs hp hLS hz1 => ?_)
                                          obtain ⟨⟨ρ1, κ1, G1, E1, hd, hI⟩, hb1, hb2⟩ := hp
                                          refine lv_pop hx hb dL_law_893 rfl ?_
                                          refine lv_aload_n hx hb dL_law_894 rfl (lv_at hl 2 rfl) ?_
                                          refine lv_aload_n hx hb dL_law_895 rfl (lv_at hl 0 rfl) ?_
                                          refine lv_iload_n hx hb dL_law_896 rfl (lv_at hl 3 rfl) ?_
                                          refine lv_iconst (v := (nI (1))) hx hb dL_law_897 (by decide) ?_
                                          refine lv_iadd hx hb dL_law_898 ?_
                                          refine rl_topn (nI_add _ _) ?_
                                          refine lw_sld hx hb hX hbl hLS (by omega) hL dL_law_899 ?_
                                          refine lv_aload_n hx hb dL_law_900 rfl (lv_at hl 0 rfl) ?_
                                          refine lv_iload_n hx hb dL_law_901 rfl (lv_at hl 3 rfl) ?_
                                          refine lv_iconst (v := (nI (2))) hx hb dL_law_902 (by decide) ?_
                                          refine lv_iadd hx hb dL_law_903 ?_
                                          refine rl_topn (nI_add _ _) ?_
                                          refine lw_sld hx hb hX hbl hLS (by omega) hL dL_law_904 ?_
                                          obtain ⟨fsx, hfx⟩ := hR.obj
                                          refine lw_cRiQ hLS (lw_runV (b := x + 58) (As := [.int (xs ((6 * k) + (1))), .int (xs ((6 * k) + (2)))]) (rest := []) hC hLS.wr hLS.wrA (cR_read l D t _ _ z1 (x + 58) T ρ κ G hR (by omega) (by omega) (xs ((6 * k) + (1))) (xs ((6 * k) + (2)))) cs_L_96 im_X12_read sl_X12_read hfx rfl ⟨(Nat.le_of_ble_eq_true rfl), (Nat.le_of_ble_eq_true rfl)⟩ rfl hl.1 rfl (Nat.le_of_ble_eq_true rfl) dL_law_905 ⟨by simp only [rl_rm, room_1]; omega, by simp only [rl_rm, room_1]; omega⟩) (fun r' fr H locs hp hLS => ?_)
                                          obtain ⟨ρ2, κ2, G2, hd2, hρ2, hκ2, hR⟩ := hp
                                          obtain ⟨hrr, he1, he2, he3⟩ := pr_inj hd hd2
                                          subst he1 he2 he3
                                          refine lv_pop hx hb dL_law_908 rfl ?_
                                          refine lv_goto (tgt := 971) hx hb dL_law_909 (by decide) ?_
                                          refine lv_iinc (v := nI (6 * (k + 1))) (lv' := [(3, .int (nI (6 * (k + 1)))), (0, .ref (b)), (1, .ref (x)), (2, .ref (x + 58))]) hx hb dL_law_971 hl (k := 3) rfl (rg_i6 k) (by decide) rfl (fun ls hl => ?_)
                                          refine lv_goto (tgt := 18) hx hb dL_law_974 (by decide) ?_
                                          replace hl : lv_has ls 4 [(0, .ref (b)), (1, .ref (x)), (2, .ref (x + 58)), (3, .int (nI (6 * (k + 1))))] := lv_sub hl [1, 2, 3, 0] rfl
                                          refine W.widen (show _ ≤ 91 + 751 * (k + 1) by omega) (show _ ≤ 704548 + 3258 * (k + 1) by omega) ?_
                                          exact ih H locs ls fc fr T ρ1 κ1 G1 E1 z1 (k + 1) hLS hI hR (by omega) (by omega) (by omega) hl (by omega)
                                        · rcases Decidable.em (x_1 = 18) with rfl | n18
                                          · refine lv_tableIn (tgt := 912) hx hb dL_law_33 (by decide) (by decide) rfl (by decide) ?_
                                            refine lv_aload_n hx hb dL_law_912 rfl (lv_at hl 1 rfl) ?_
                                            refine lv_aload_n hx hb dL_law_913 rfl (lv_at hl 0 rfl) ?_
                                            refine lv_iload_n hx hb dL_law_914 rfl (lv_at hl 3 rfl) ?_
                                            refine lv_iconst (v := (nI (1))) hx hb dL_law_915 (by decide) ?_
                                            refine lv_iadd hx hb dL_law_916 ?_
                                            refine rl_topn (nI_add _ _) ?_
                                            refine lw_sld hx hb hX hbl hLS (by omega) hL dL_law_917 ?_
                                            obtain ⟨fsx, hfx⟩ := hI.obj
                                            refine lw_cCiQ hLS (lw_runV (b := x) (As := [.int (xs ((6 * k) + (1)))]) (rest := []) hC hLS.wc hLS.wcA (cC_cause l D t _ _ z x T ρ κ G E hI hT hG (xs ((6 * k) + (1)))) cs_L_97 im_X11_cause sl_X11_cause hfx rfl ⟨(Nat.le_of_ble_eq_true rfl), (Nat.le_of_ble_eq_true rfl)⟩ rfl hl.1 rfl (Nat.le_of_ble_eq_true rfl) dL_law_918 ⟨by simp only [rl_rm, room_1]; omega, by simp only [rl_rm, room_1]; omega⟩) (fun r fc H locs hp hLS => ?_)
                                            obtain ⟨hd, hI⟩ := hp
                                            refine lv_pop hx hb dL_law_921 rfl ?_
                                            refine lv_aload_n hx hb dL_law_922 rfl (lv_at hl 2 rfl) ?_
                                            refine lv_aload_n hx hb dL_law_923 rfl (lv_at hl 0 rfl) ?_
                                            refine lv_iload_n hx hb dL_law_924 rfl (lv_at hl 3 rfl) ?_
                                            refine lv_iconst (v := (nI (1))) hx hb dL_law_925 (by decide) ?_
                                            refine lv_iadd hx hb dL_law_926 ?_
                                            refine rl_topn (nI_add _ _) ?_
                                            refine lw_sld hx hb hX hbl hLS (by omega) hL dL_law_927 ?_
                                            obtain ⟨fsx, hfx⟩ := hR.obj
                                            refine lw_cRiQ hLS (lw_runV (b := x + 58) (As := [.int (xs ((6 * k) + (1)))]) (rest := []) hC hLS.wr hLS.wrA (cR_cause l D t _ _ z (x + 58) T ρ κ G hR (by omega) (by omega) (xs ((6 * k) + (1)))) cs_L_100 im_X12_cause sl_X12_cause hfx rfl ⟨(Nat.le_of_ble_eq_true rfl), (Nat.le_of_ble_eq_true rfl)⟩ rfl hl.1 rfl (Nat.le_of_ble_eq_true rfl) dL_law_928 ⟨by simp only [rl_rm, room_1]; omega, by simp only [rl_rm, room_1]; omega⟩) (fun r' fr H locs hp hLS => ?_)
                                            obtain ⟨hd2, hR⟩ := hp
                                            have hrr := hd.symm.trans hd2
                                            refine lv_pop hx hb dL_law_931 rfl ?_
                                            refine lv_goto (tgt := 971) hx hb dL_law_932 (by decide) ?_
                                            refine lv_iinc (v := nI (6 * (k + 1))) (lv' := [(3, .int (nI (6 * (k + 1)))), (0, .ref (b)), (1, .ref (x)), (2, .ref (x + 58))]) hx hb dL_law_971 hl (k := 3) rfl (rg_i6 k) (by decide) rfl (fun ls hl => ?_)
                                            refine lv_goto (tgt := 18) hx hb dL_law_974 (by decide) ?_
                                            replace hl : lv_has ls 4 [(0, .ref (b)), (1, .ref (x)), (2, .ref (x + 58)), (3, .int (nI (6 * (k + 1))))] := lv_sub hl [1, 2, 3, 0] rfl
                                            refine W.widen (show _ ≤ 91 + 751 * (k + 1) by omega) (show _ ≤ 704548 + 3258 * (k + 1) by omega) ?_
                                            exact ih H locs ls fc fr T ρ κ G E z (k + 1) hLS hI hR (by omega) (by omega) (by omega) hl (by omega)
                                          · rcases Decidable.em (x_1 = 19) with rfl | n19
                                            · refine lv_tableIn (tgt := 935) hx hb dL_law_33 (by decide) (by decide) rfl (by decide) ?_
                                              refine lv_aload_n hx hb dL_law_935 rfl (lv_at hl 1 rfl) ?_
                                              obtain ⟨fsx, hfx⟩ := hI.obj
                                              refine lw_cCiQ hLS (lw_runV (b := x) (As := []) (rest := []) hC hLS.wc hLS.wcA (cC_status l D t _ _ z x T ρ κ G E hI hT hG ) cs_L_101 im_X11_status sl_X11_status hfx rfl ⟨(Nat.le_of_ble_eq_true rfl), (Nat.le_of_ble_eq_true rfl)⟩ rfl hl.1 rfl (Nat.le_of_ble_eq_true rfl) dL_law_936 ⟨by simp only [rl_rm, room_1]; omega, by simp only [rl_rm, room_1]; omega⟩) (fun r fc H locs hp hLS => ?_)
                                              have hI := hp
                                              refine lv_pop hx hb dL_law_939 rfl ?_
                                              refine lv_aload_n hx hb dL_law_940 rfl (lv_at hl 2 rfl) ?_
                                              obtain ⟨fsx, hfx⟩ := hR.obj
                                              refine lw_cRiQ hLS (lw_runV (b := x + 58) (As := []) (rest := []) hC hLS.wr hLS.wrA (cR_status l D t _ _ z (x + 58) T ρ κ G hR (by omega) (by omega) ) cs_L_105 im_X12_status sl_X12_status hfx rfl ⟨(Nat.le_of_ble_eq_true rfl), (Nat.le_of_ble_eq_true rfl)⟩ rfl hl.1 rfl (Nat.le_of_ble_eq_true rfl) dL_law_941 ⟨by simp only [rl_rm, room_1]; omega, by simp only [rl_rm, room_1]; omega⟩) (fun r' fr H locs hp hLS => ?_)
                                              have hR := hp
                                              refine lv_pop hx hb dL_law_944 rfl ?_
                                              refine lv_goto (tgt := 971) hx hb dL_law_945 (by decide) ?_
                                              refine lv_iinc (v := nI (6 * (k + 1))) (lv' := [(3, .int (nI (6 * (k + 1)))), (0, .ref (b)), (1, .ref (x)), (2, .ref (x + 58))]) hx hb dL_law_971 hl (k := 3) rfl (rg_i6 k) (by decide) rfl (fun ls hl => ?_)
                                              refine lv_goto (tgt := 18) hx hb dL_law_974 (by decide) ?_
                                              replace hl : lv_has ls 4 [(0, .ref (b)), (1, .ref (x)), (2, .ref (x + 58)), (3, .int (nI (6 * (k + 1))))] := lv_sub hl [1, 2, 3, 0] rfl
                                              refine W.widen (show _ ≤ 91 + 751 * (k + 1) by omega) (show _ ≤ 704548 + 3258 * (k + 1) by omega) ?_
                                              exact ih H locs ls fc fr T ρ κ G E z (k + 1) hLS hI hR (by omega) (by omega) (by omega) hl (by omega)
                                            · rcases Decidable.em (x_1 = 20) with rfl | n20
                                              · refine lv_tableIn (tgt := 948) hx hb dL_law_33 (by decide) (by decide) rfl (by decide) ?_
                                                refine lv_aload_n hx hb dL_law_948 rfl (lv_at hl 1 rfl) ?_
                                                refine lv_aload_n hx hb dL_law_949 rfl (lv_at hl 0 rfl) ?_
                                                refine lv_iload_n hx hb dL_law_950 rfl (lv_at hl 3 rfl) ?_
                                                refine lv_iconst (v := (nI (1))) hx hb dL_law_951 (by decide) ?_
                                                refine lv_iadd hx hb dL_law_952 ?_
                                                refine rl_topn (nI_add _ _) ?_
                                                refine lw_sld hx hb hX hbl hLS (by omega) hL dL_law_953 ?_
                                                obtain ⟨fsx, hfx⟩ := hI.obj
                                                refine lw_cCiQ hLS (lw_runV (b := x) (As := [.int (xs ((6 * k) + (1)))]) (rest := []) hC hLS.wc hLS.wcA (cC_count l D t _ _ z x T ρ κ G E hI hT hG (xs ((6 * k) + (1)))) cs_L_106 im_X11_count sl_X11_count hfx rfl ⟨(Nat.le_of_ble_eq_true rfl), (Nat.le_of_ble_eq_true rfl)⟩ rfl hl.1 rfl (Nat.le_of_ble_eq_true rfl) dL_law_954 ⟨by simp only [rl_rm, room_1]; omega, by simp only [rl_rm, room_1]; omega⟩) (fun r fc H locs hp hLS => ?_)
                                                obtain ⟨hd, hI⟩ := hp
                                                refine lv_aload_n hx hb dL_law_957 rfl (lv_at hl 2 rfl) ?_
                                                refine lv_aload_n hx hb dL_law_958 rfl (lv_at hl 0 rfl) ?_
                                                refine lv_iload_n hx hb dL_law_959 rfl (lv_at hl 3 rfl) ?_
                                                refine lv_iconst (v := (nI (1))) hx hb dL_law_960 (by decide) ?_
                                                refine lv_iadd hx hb dL_law_961 ?_
                                                refine rl_topn (nI_add _ _) ?_
                                                refine lw_sld hx hb hX hbl hLS (by omega) hL dL_law_962 ?_
                                                obtain ⟨fsx, hfx⟩ := hR.obj
                                                refine lw_cRiQ hLS (lw_runV (b := x + 58) (As := [.int (xs ((6 * k) + (1)))]) (rest := [.int (r)]) hC hLS.wr hLS.wrA (cR_count l D t _ _ z (x + 58) T ρ κ G hR (by omega) (by omega) (xs ((6 * k) + (1)))) cs_L_109 im_X12_count sl_X12_count hfx rfl ⟨(Nat.le_of_ble_eq_true rfl), (Nat.le_of_ble_eq_true rfl)⟩ rfl hl.1 rfl (Nat.le_of_ble_eq_true rfl) dL_law_963 ⟨by simp only [rl_rm, room_1]; omega, by simp only [rl_rm, room_1]; omega⟩) (fun r' fr H locs hp hLS => ?_)
                                                obtain ⟨hd2, hR⟩ := hp
                                                have hrr := hd.symm.trans hd2
                                                refine lv_icmp_eq (tgt := 971) hx hb dL_law_966 (by decide) (fun cc => ?_) (fun cc => ?_)
                                                · refine lv_iinc (v := nI (6 * (k + 1))) (lv' := [(3, .int (nI (6 * (k + 1)))), (0, .ref (b)), (1, .ref (x)), (2, .ref (x + 58))]) hx hb dL_law_971 hl (k := 3) rfl (rg_i6 k) (by decide) rfl (fun ls hl => ?_)
                                                  refine lv_goto (tgt := 18) hx hb dL_law_974 (by decide) ?_
                                                  replace hl : lv_has ls 4 [(0, .ref (b)), (1, .ref (x)), (2, .ref (x + 58)), (3, .int (nI (6 * (k + 1))))] := lv_sub hl [1, 2, 3, 0] rfl
                                                  refine W.widen (show _ ≤ 91 + 751 * (k + 1) by omega) (show _ ≤ 704548 + 3258 * (k + 1) by omega) ?_
                                                  exact ih H locs ls fc fr T ρ κ G E z (k + 1) hLS hI hR (by omega) (by omega) (by omega) hl (by omega)
                                                · exact absurd hrr cc
                                              · refine lv_tableOut (tgt := 971) hx hb dL_law_33 (by have q0 := rg_sw 0 (n := 0) (by decide) n0; have q1 := rg_sw 1 (n := 1) (by decide) n1; have q2 := rg_sw 2 (n := 2) (by decide) n2; have q3 := rg_sw 3 (n := 3) (by decide) n3; have q4 := rg_sw 4 (n := 4) (by decide) n4; have q5 := rg_sw 5 (n := 5) (by decide) n5; have q6 := rg_sw 6 (n := 6) (by decide) n6; have q7 := rg_sw 7 (n := 7) (by decide) n7; have q8 := rg_sw 8 (n := 8) (by decide) n8; have q9 := rg_sw 9 (n := 9) (by decide) n9; have q10 := rg_sw 10 (n := 10) (by decide) n10; have q11 := rg_sw 11 (n := 11) (by decide) n11; have q12 := rg_sw 12 (n := 12) (by decide) n12; have q13 := rg_sw 13 (n := 13) (by decide) n13; have q14 := rg_sw 14 (n := 14) (by decide) n14; have q15 := rg_sw 15 (n := 15) (by decide) n15; have q16 := rg_sw 16 (n := 16) (by decide) n16; have q17 := rg_sw 17 (n := 17) (by decide) n17; have q18 := rg_sw 18 (n := 18) (by decide) n18; have q19 := rg_sw 19 (n := 19) (by decide) n19; have q20 := rg_sw 20 (n := 20) (by decide) n20; omega) (by decide) ?_
                                                refine lv_iinc (v := nI (6 * (k + 1))) (lv' := [(3, .int (nI (6 * (k + 1)))), (0, .ref (b)), (1, .ref (x)), (2, .ref (x + 58))]) hx hb dL_law_971 hl (k := 3) rfl (rg_i6 k) (by decide) rfl (fun ls hl => ?_)
                                                refine lv_goto (tgt := 18) hx hb dL_law_974 (by decide) ?_
                                                replace hl : lv_has ls 4 [(0, .ref (b)), (1, .ref (x)), (2, .ref (x + 58)), (3, .int (nI (6 * (k + 1))))] := lv_sub hl [1, 2, 3, 0] rfl
                                                refine W.widen (show _ ≤ 91 + 751 * (k + 1) by omega) (show _ ≤ 704548 + 3258 * (k + 1) by omega) ?_
                                                exact ih H locs ls fc fr T ρ κ G E z (k + 1) hLS hI hR (by omega) (by omega) (by omega) hl (by omega)
