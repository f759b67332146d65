
theorem rl_up_up (f : rl_M) (a : Nat) (e e' : va_E) : rl_up (rl_up f a e) a e' = rl_up f a e' := by
  funext b
  unfold rl_up
  split <;> rfl
def rc_fs (m k : Nat) (F : Nat → Int32) : List Value := (List.range 49).map (fun j => if rm_k j = 3 then .int (F j) else if rm_ad j ≤ k then .ref (m + rm_ad j) else .null)
def RC (t : Nat → ClassId) (f : rl_M) (m k : Nat) (I : Nat → Nat → Int32) (L : Nat → Nat → Int64) (F : Nat → Int32) : Prop := f m = some (.inr (11, rc_fs m k F)) ∧ ∀ j, j < 49 → rm_k j ≠ 3 → rm_ad j ≤ k → f (m + rm_ad j) = some (rm_cell t I L j)
section RCS
variable {t : Nat → ClassId} {f : rl_M} {m k z : Nat} {I : Nat → Nat → Int32} {L : Nat → Nat → Int64} {F : Nat → Int32} {e : va_E}
theorem RC.obj (h : RC t f m k I L F) (hz : z = m + (k + 1)) : rl_up f z e m = some (.inr (11, rc_fs m k F)) := by rw [rl_up_n (by omega)]; exact h.1
theorem RC.step {j : Nat} {fs : List Value} (h : RC t f m k I L F) (hz : z = m + (k + 1)) (hj : j < 49) (hk : rm_k j ≠ 3) (ha : rm_ad j = k + 1) (he : rm_cell t I L j = e) (hf : fs = rc_fs m (k + 1) F) : RC t (rl_up (rl_up f z e) m (.inr (11, fs))) m (k + 1) I L F := by
  subst hf
  refine ⟨rl_up_s _ _ _, fun i hi hki hle => ?_⟩
  have hp := rm_pos i hi hki
  rw [rl_up_n (by omega)]
  by_cases hij : i = j
  · subst hij
    rw [show m + rm_ad i = z by omega, rl_up_s, he]
  · have hne : rm_ad i ≠ rm_ad j := fun q => hij (rm_inj i hi j hj hki hk q)
    rw [rl_up_n (by omega)]
    exact h.2 i hi hki (by omega)
theorem RC.put {F' : Nat → Int32} {fs : List Value} (h : RC t f m k I L F) (hf : fs = rc_fs m k F') : RC t (rl_up f m (.inr (11, fs))) m k I L F' := by
  subst hf
  refine ⟨rl_up_s _ _ _, fun i hi hki hle => ?_⟩
  have hp := rm_pos i hi hki
  rw [rl_up_n (by omega)]
  exact h.2 i hi hki hle
theorem rm_max : ∀ j, j < 49 → rm_k j ≠ 3 → rm_ad j ≤ 32 := by decide +kernel
theorem RC.done (h : RC t f m 32 I L F) (hf : rc_fs m 32 F = rm_fs m F) : RM t f m I L F := ⟨by rw [← hf]; exact h.1, fun j hj hk => h.2 j hj hk (rm_max j hj hk)⟩
end RCS
def rc_p : Nat → Int32 := upd (upd (upd (upd (upd (upd (upd (upd (upd (upd (fun _ => 0) 0 (-1)) 1 (-1)) 2 (-1)) 3 (-1)) 4 (-1)) 5 (-1)) 6 (-1)) 7 (-1)) 8 (-1)) 9 (-1)
def rc_I : Nat → Nat → Int32 := va_up (fun _ _ => 0) 19 rc_p
def rc_L : Nat → Nat → Int64 := fun _ _ => 0
def rc_F : Nat → Int32 := fun _ => 0
def pg_0 : pG := (fun _ _ => 0, fun i k => if i = 0 ∧ k = 1 then -3 else 0, fun _ _ => 0, fun _ _ => none)
theorem rc_rs {t : Nat → ClassId} {f : rl_M} {m : Nat} (hR : RM t f m rc_I rc_L (upd rc_F 25 (-3))) : RS t f m (fun _ _ => 0) 0 0 pg_0 := by
  refine ⟨_, _, _, hR, ⟨fun b _ => ⟨rfl, Nat.zero_le _⟩, fun b i _ h => absurd h (Nat.not_lt_zero _), fun b i i' _ h => absurd h (Nat.not_lt_zero _), fun n _ => ⟨rfl, rfl, (show 0 < 2 by decide), (show 0 < 10 by decide)⟩⟩, ⟨fun b _ => ⟨rfl, Nat.zero_le _⟩, fun b i _ h => absurd h (Nat.not_lt_zero _)⟩, ⟨fun b _ => ⟨rfl, Nat.zero_le _⟩, fun b i _ h => absurd h (Nat.not_lt_zero _)⟩, ⟨fun r h => absurd h (Nat.not_lt_zero _), fun r h => absurd h (Nat.not_lt_zero _), fun p _ => trivial, fun p _ => (by decide : 0 < 10), Nat.zero_le _⟩, ⟨fun r h => absurd h (Nat.not_lt_zero _), fun x h => absurd h (by omega)⟩, fun r h => absurd h (Nat.not_lt_zero _), ⟨fun p hp => ?_, fun p _ => ⟨rfl, rfl⟩⟩, ⟨rfl, fun k h => absurd h (Nat.not_lt_zero _)⟩, ⟨rfl, rfl, rfl, rfl, rfl, rfl⟩, rfl, rfl⟩
  have : ∀ p, p < 10 → rc_p p = -1 := by decide
  exact this p hp

set_option maxHeartbeats 4000000 in
set_option maxRecDepth 100000 in
theorem cR_init (l : Launch) (D : va_G) (t : Nat → ClassId) (A : Nat → Prop) (f : rl_M) (z : Nat) (m : Nat) (hz : z = m + 1) (h0 : f m = some (.inr (11, [.null, .null, .null, .null, .null, .null, .null, .null, .null, .null, .null, .int 0, .null, .null, .int 0, .null, .null, .null, .null, .null, .null, .null, .int 0, .null, .int 0, .int 0, .int 0, .int 0, .int 0, .int 0, .int 0, .null, .null, .int 0, .null, .null, .null, .int 0, .null, .null, .null, .int 0, .int 0, .int 0, .int 0, .int 0, .null, .null, .null]))) : rl_Met l yX12_init (.code yX12_init cX12_init 1 none) (rl_rm 1 32 703703) D t A f z [.ref (m)] (rl_pv fun f1 z' ds => RS t f1 m (fun _ _ => 0) 0 0 pg_0 ∧ z' = m + 33 ∧ ds ≤ 703703) := by
  subst hz
  refine rl_begin (own := RX12) (lv := [(0, .ref (m))]) (by decide +kernel) rfl (Nat.le_of_ble_eq_true rfl) rfl fun p e s m0 args below meth c ls H locs hC hr hlk hnm hW hl hx hb => ?_
  have hS : RC t f m 0 rc_I rc_L rc_F := ⟨h0, fun j hj hk hle => absurd (rm_pos j hj hk) (by omega)⟩
  refine lv_aload_n hx hb dX12_init_0 rfl (lv_at hl 0 rfl) ?_
  refine rl_objInit hC mw_645 mw_22 mw_23 hl.1 dX12_init_1 (Nat.le_of_ble_eq_true rfl) (Nat.le_of_ble_eq_true rfl) ?_
  refine lv_aload_n hx hb dX12_init_4 rfl (lv_at hl 0 rfl) ?_
  refine lv_bipush (v := (nI (6))) hx hb dX12_init_5 (by decide) ?_
  refine rl_newi (N' := 6) hC hW mw_123 (nI_pos (by decide)) (nI_clamp (by decide)) (by decide) (Nat.le_of_ble_eq_true rfl) (Nat.le_of_ble_eq_true rfl) dX12_init_7 (fun H hW => ?_)
  refine rl_putF hC hW fp_X12_7 hnm (hS.obj rfl) (Nat.le_of_ble_eq_true rfl) rfl rfl dX12_init_9 (fun H locs hW => ?_)
  replace hS := hS.step (z := m + 1) (j := 0) rfl (by decide) (by decide) (by decide) rfl (show (rc_fs m 0 rc_F).set 0 (.ref (m + 1)) = rc_fs m 1 rc_F from rfl)
  refine lv_aload_n hx hb dX12_init_12 rfl (lv_at hl 0 rfl) ?_
  refine lv_bipush (v := (nI (60))) hx hb dX12_init_13 (by decide) ?_
  refine rl_newi (N' := 60) hC hW mw_123 (nI_pos (by decide)) (nI_clamp (by decide)) (by decide) (Nat.le_of_ble_eq_true rfl) (Nat.le_of_ble_eq_true rfl) dX12_init_15 (fun H hW => ?_)
  refine rl_putF hC hW fp_X12_13 hnm (hS.obj rfl) (Nat.le_of_ble_eq_true rfl) rfl rfl dX12_init_17 (fun H locs hW => ?_)
  replace hS := hS.step (z := m + 2) (j := 1) rfl (by decide) (by decide) (by decide) rfl (show (rc_fs m 1 rc_F).set 1 (.ref (m + 2)) = rc_fs m 2 rc_F from rfl)
  refine lv_aload_n hx hb dX12_init_20 rfl (lv_at hl 0 rfl) ?_
  refine lv_bipush (v := (nI (60))) hx hb dX12_init_21 (by decide) ?_
  refine rl_newz (N' := 60) hC hW mw_797 (nI_pos (by decide)) (nI_clamp (by decide)) (by decide) (Nat.le_of_ble_eq_true rfl) (Nat.le_of_ble_eq_true rfl) dX12_init_23 (fun H hW => ?_)
  refine rl_putF hC hW fp_X12_16 hnm (hS.obj rfl) (Nat.le_of_ble_eq_true rfl) rfl rfl dX12_init_25 (fun H locs hW => ?_)
  replace hS := hS.step (z := m + 3) (j := 2) rfl (by decide) (by decide) (by decide) rfl (show (rc_fs m 2 rc_F).set 2 (.ref (m + 3)) = rc_fs m 3 rc_F from rfl)
  refine lv_aload_n hx hb dX12_init_28 rfl (lv_at hl 0 rfl) ?_
  refine lv_bipush (v := (nI (12))) hx hb dX12_init_29 (by decide) ?_
  refine rl_newi (N' := 12) hC hW mw_123 (nI_pos (by decide)) (nI_clamp (by decide)) (by decide) (Nat.le_of_ble_eq_true rfl) (Nat.le_of_ble_eq_true rfl) dX12_init_31 (fun H hW => ?_)
  refine rl_putF hC hW fp_X12_20 hnm (hS.obj rfl) (Nat.le_of_ble_eq_true rfl) rfl rfl dX12_init_33 (fun H locs hW => ?_)
  replace hS := hS.step (z := m + 4) (j := 3) rfl (by decide) (by decide) (by decide) rfl (show (rc_fs m 3 rc_F).set 3 (.ref (m + 4)) = rc_fs m 4 rc_F from rfl)
  refine lv_aload_n hx hb dX12_init_36 rfl (lv_at hl 0 rfl) ?_
  refine lv_bipush (v := (nI (60))) hx hb dX12_init_37 (by decide) ?_
  refine rl_newi (N' := 60) hC hW mw_123 (nI_pos (by decide)) (nI_clamp (by decide)) (by decide) (Nat.le_of_ble_eq_true rfl) (Nat.le_of_ble_eq_true rfl) dX12_init_39 (fun H hW => ?_)
  refine rl_putF hC hW fp_X12_23 hnm (hS.obj rfl) (Nat.le_of_ble_eq_true rfl) rfl rfl dX12_init_41 (fun H locs hW => ?_)
  replace hS := hS.step (z := m + 5) (j := 4) rfl (by decide) (by decide) (by decide) rfl (show (rc_fs m 4 rc_F).set 4 (.ref (m + 5)) = rc_fs m 5 rc_F from rfl)
  refine lv_aload_n hx hb dX12_init_44 rfl (lv_at hl 0 rfl) ?_
  refine lv_bipush (v := (nI (60))) hx hb dX12_init_45 (by decide) ?_
  refine rl_newi (N' := 60) hC hW mw_123 (nI_pos (by decide)) (nI_clamp (by decide)) (by decide) (Nat.le_of_ble_eq_true rfl) (Nat.le_of_ble_eq_true rfl) dX12_init_47 (fun H hW => ?_)
  refine rl_putF hC hW fp_X12_26 hnm (hS.obj rfl) (Nat.le_of_ble_eq_true rfl) rfl rfl dX12_init_49 (fun H locs hW => ?_)
  replace hS := hS.step (z := m + 6) (j := 5) rfl (by decide) (by decide) (by decide) rfl (show (rc_fs m 5 rc_F).set 5 (.ref (m + 6)) = rc_fs m 6 rc_F from rfl)
  refine lv_aload_n hx hb dX12_init_52 rfl (lv_at hl 0 rfl) ?_
  refine lv_bipush (v := (nI (60))) hx hb dX12_init_53 (by decide) ?_
  refine rl_newi (N' := 60) hC hW mw_123 (nI_pos (by decide)) (nI_clamp (by decide)) (by decide) (Nat.le_of_ble_eq_true rfl) (Nat.le_of_ble_eq_true rfl) dX12_init_55 (fun H hW => ?_)
  refine rl_putF hC hW fp_X12_29 hnm (hS.obj rfl) (Nat.le_of_ble_eq_true rfl) rfl rfl dX12_init_57 (fun H locs hW => ?_)
  replace hS := hS.step (z := m + 7) (j := 6) rfl (by decide) (by decide) (by decide) rfl (show (rc_fs m 6 rc_F).set 6 (.ref (m + 7)) = rc_fs m 7 rc_F from rfl)
  refine lv_aload_n hx hb dX12_init_60 rfl (lv_at hl 0 rfl) ?_
  refine lv_bipush (v := (nI (12))) hx hb dX12_init_61 (by decide) ?_
  refine rl_newi (N' := 12) hC hW mw_123 (nI_pos (by decide)) (nI_clamp (by decide)) (by decide) (Nat.le_of_ble_eq_true rfl) (Nat.le_of_ble_eq_true rfl) dX12_init_63 (fun H hW => ?_)
  refine rl_putF hC hW fp_X12_32 hnm (hS.obj rfl) (Nat.le_of_ble_eq_true rfl) rfl rfl dX12_init_65 (fun H locs hW => ?_)
  replace hS := hS.step (z := m + 8) (j := 7) rfl (by decide) (by decide) (by decide) rfl (show (rc_fs m 7 rc_F).set 7 (.ref (m + 8)) = rc_fs m 8 rc_F from rfl)
  refine lv_aload_n hx hb dX12_init_68 rfl (lv_at hl 0 rfl) ?_
  refine lv_bipush (v := (nI (24))) hx hb dX12_init_69 (by decide) ?_
  refine rl_newi (N' := 24) hC hW mw_123 (nI_pos (by decide)) (nI_clamp (by decide)) (by decide) (Nat.le_of_ble_eq_true rfl) (Nat.le_of_ble_eq_true rfl) dX12_init_71 (fun H hW => ?_)
  refine rl_putF hC hW fp_X12_35 hnm (hS.obj rfl) (Nat.le_of_ble_eq_true rfl) rfl rfl dX12_init_73 (fun H locs hW => ?_)
  replace hS := hS.step (z := m + 9) (j := 8) rfl (by decide) (by decide) (by decide) rfl (show (rc_fs m 8 rc_F).set 8 (.ref (m + 9)) = rc_fs m 9 rc_F from rfl)
  refine lv_aload_n hx hb dX12_init_76 rfl (lv_at hl 0 rfl) ?_
  refine lv_bipush (v := (nI (24))) hx hb dX12_init_77 (by decide) ?_
  refine rl_newi (N' := 24) hC hW mw_123 (nI_pos (by decide)) (nI_clamp (by decide)) (by decide) (Nat.le_of_ble_eq_true rfl) (Nat.le_of_ble_eq_true rfl) dX12_init_79 (fun H hW => ?_)
  refine rl_putF hC hW fp_X12_38 hnm (hS.obj rfl) (Nat.le_of_ble_eq_true rfl) rfl rfl dX12_init_81 (fun H locs hW => ?_)
  replace hS := hS.step (z := m + 10) (j := 9) rfl (by decide) (by decide) (by decide) rfl (show (rc_fs m 9 rc_F).set 9 (.ref (m + 10)) = rc_fs m 10 rc_F from rfl)
  refine lv_aload_n hx hb dX12_init_84 rfl (lv_at hl 0 rfl) ?_
  refine lv_bipush (v := (nI (24))) hx hb dX12_init_85 (by decide) ?_
  refine rl_newi (N' := 24) hC hW mw_123 (nI_pos (by decide)) (nI_clamp (by decide)) (by decide) (Nat.le_of_ble_eq_true rfl) (Nat.le_of_ble_eq_true rfl) dX12_init_87 (fun H hW => ?_)
  refine rl_putF hC hW fp_X12_41 hnm (hS.obj rfl) (Nat.le_of_ble_eq_true rfl) rfl rfl dX12_init_89 (fun H locs hW => ?_)
  replace hS := hS.step (z := m + 11) (j := 10) rfl (by decide) (by decide) (by decide) rfl (show (rc_fs m 10 rc_F).set 10 (.ref (m + 11)) = rc_fs m 11 rc_F from rfl)
  refine lv_aload_n hx hb dX12_init_92 rfl (lv_at hl 0 rfl) ?_
  refine lv_ldc (v := nI 43100) hx hb hC.2.2.2.1 (hC.2.2.2.2.1 _ (List.mem_cons_of_mem _ mw_646)) dX12_init_93 ?_
  refine rl_newi (N' := 43100) hC hW mw_123 (nI_pos (by decide)) (nI_clamp (by decide)) (by decide) (Nat.le_of_ble_eq_true rfl) (Nat.le_of_ble_eq_true rfl) dX12_init_95 (fun H hW => ?_)
  refine rl_putF hC hW fp_X12_45 hnm (hS.obj rfl) (Nat.le_of_ble_eq_true rfl) rfl rfl dX12_init_97 (fun H locs hW => ?_)
  replace hS := hS.step (z := m + 12) (j := 12) rfl (by decide) (by decide) (by decide) rfl (show (rc_fs m 11 rc_F).set 12 (.ref (m + 12)) = rc_fs m 12 rc_F from rfl)
  refine lv_aload_n hx hb dX12_init_100 rfl (lv_at hl 0 rfl) ?_
  refine lv_ldc (v := nI 344800) hx hb hC.2.2.2.1 (hC.2.2.2.2.1 _ (List.mem_cons_of_mem _ mw_647)) dX12_init_101 ?_
  refine rl_newi (N' := 344800) hC hW mw_123 (nI_pos (by decide)) (nI_clamp (by decide)) (by decide) (Nat.le_of_ble_eq_true rfl) (Nat.le_of_ble_eq_true rfl) dX12_init_103 (fun H hW => ?_)
  refine rl_putF hC hW fp_X12_49 hnm (hS.obj rfl) (Nat.le_of_ble_eq_true rfl) rfl rfl dX12_init_105 (fun H locs hW => ?_)
  replace hS := hS.step (z := m + 13) (j := 13) rfl (by decide) (by decide) (by decide) rfl (show (rc_fs m 12 rc_F).set 13 (.ref (m + 13)) = rc_fs m 13 rc_F from rfl)
  refine lv_aload_n hx hb dX12_init_108 rfl (lv_at hl 0 rfl) ?_
  refine lv_sipush (v := (nI (26200))) hx hb dX12_init_109 (by decide) ?_
  refine rl_newi (N' := 26200) hC hW mw_123 (nI_pos (by decide)) (nI_clamp (by decide)) (by decide) (Nat.le_of_ble_eq_true rfl) (Nat.le_of_ble_eq_true rfl) dX12_init_112 (fun H hW => ?_)
  refine rl_putF hC hW fp_X12_52 hnm (hS.obj rfl) (Nat.le_of_ble_eq_true rfl) rfl rfl dX12_init_114 (fun H locs hW => ?_)
  replace hS := hS.step (z := m + 14) (j := 15) rfl (by decide) (by decide) (by decide) rfl (show (rc_fs m 13 rc_F).set 15 (.ref (m + 14)) = rc_fs m 14 rc_F from rfl)
  refine lv_aload_n hx hb dX12_init_117 rfl (lv_at hl 0 rfl) ?_
  refine lv_sipush (v := (nI (26200))) hx hb dX12_init_118 (by decide) ?_
  refine rl_newi (N' := 26200) hC hW mw_123 (nI_pos (by decide)) (nI_clamp (by decide)) (by decide) (Nat.le_of_ble_eq_true rfl) (Nat.le_of_ble_eq_true rfl) dX12_init_121 (fun H hW => ?_)
  refine rl_putF hC hW fp_X12_55 hnm (hS.obj rfl) (Nat.le_of_ble_eq_true rfl) rfl rfl dX12_init_123 (fun H locs hW => ?_)
  replace hS := hS.step (z := m + 15) (j := 16) rfl (by decide) (by decide) (by decide) rfl (show (rc_fs m 14 rc_F).set 16 (.ref (m + 15)) = rc_fs m 15 rc_F from rfl)
  refine lv_aload_n hx hb dX12_init_126 rfl (lv_at hl 0 rfl) ?_
  refine lv_ldc (v := nI 131000) hx hb hC.2.2.2.1 (hC.2.2.2.2.1 _ (List.mem_cons_of_mem _ mw_648)) dX12_init_127 ?_
  refine rl_newl (N' := 131000) hC hW mw_122 (nI_pos (by decide)) (nI_clamp (by decide)) (by decide) (Nat.le_of_ble_eq_true rfl) (Nat.le_of_ble_eq_true rfl) dX12_init_129 (fun H hW => ?_)
  refine rl_putF hC hW fp_X12_59 hnm (hS.obj rfl) (Nat.le_of_ble_eq_true rfl) rfl rfl dX12_init_131 (fun H locs hW => ?_)
  replace hS := hS.step (z := m + 16) (j := 17) rfl (by decide) (by decide) (by decide) rfl (show (rc_fs m 15 rc_F).set 17 (.ref (m + 16)) = rc_fs m 16 rc_F from rfl)
  refine lv_aload_n hx hb dX12_init_134 rfl (lv_at hl 0 rfl) ?_
  refine lv_ldc (v := nI 131000) hx hb hC.2.2.2.1 (hC.2.2.2.2.1 _ (List.mem_cons_of_mem _ mw_648)) dX12_init_135 ?_
  refine rl_newi (N' := 131000) hC hW mw_123 (nI_pos (by decide)) (nI_clamp (by decide)) (by decide) (Nat.le_of_ble_eq_true rfl) (Nat.le_of_ble_eq_true rfl) dX12_init_137 (fun H hW => ?_)
  refine rl_putF hC hW fp_X12_63 hnm (hS.obj rfl) (Nat.le_of_ble_eq_true rfl) rfl rfl dX12_init_139 (fun H locs hW => ?_)
  replace hS := hS.step (z := m + 17) (j := 18) rfl (by decide) (by decide) (by decide) rfl (show (rc_fs m 16 rc_F).set 18 (.ref (m + 17)) = rc_fs m 17 rc_F from rfl)
  refine lv_aload_n hx hb dX12_init_142 rfl (lv_at hl 0 rfl) ?_
  refine lv_bipush (v := (nI (10))) hx hb dX12_init_143 (by decide) ?_
  refine rl_newi (N' := 10) hC hW mw_123 (nI_pos (by decide)) (nI_clamp (by decide)) (by decide) (Nat.le_of_ble_eq_true rfl) (Nat.le_of_ble_eq_true rfl) dX12_init_145 (fun H hW => ?_)
  refine lv_dup hx hb dX12_init_147 rfl ?_
  refine lv_iconst (v := (nI (0))) hx hb dX12_init_148 (by decide) ?_
  refine lv_iconst (v := (-1)) hx hb dX12_init_149 (by decide) ?_
  refine rl_iast_n (g := fun _ => 0) hC hW (rl_up_s _ _ _) (by decide) (by decide) dX12_init_150 (fun H locs hW => ?_)
  rw [rl_up_up] at hW
  refine lv_dup hx hb dX12_init_151 rfl ?_
  refine lv_iconst (v := (nI (1))) hx hb dX12_init_152 (by decide) ?_
  refine lv_iconst (v := (-1)) hx hb dX12_init_153 (by decide) ?_
  refine rl_iast_n (g := upd (fun _ => 0) 0 (-1)) hC hW (rl_up_s _ _ _) (by decide) (by decide) dX12_init_154 (fun H locs hW => ?_)
  rw [rl_up_up] at hW
  refine lv_dup hx hb dX12_init_155 rfl ?_
  refine lv_iconst (v := (nI (2))) hx hb dX12_init_156 (by decide) ?_
  refine lv_iconst (v := (-1)) hx hb dX12_init_157 (by decide) ?_
  refine rl_iast_n (g := upd (upd (fun _ => 0) 0 (-1)) 1 (-1)) hC hW (rl_up_s _ _ _) (by decide) (by decide) dX12_init_158 (fun H locs hW => ?_)
  rw [rl_up_up] at hW
  refine lv_dup hx hb dX12_init_159 rfl ?_
  refine lv_iconst (v := (nI (3))) hx hb dX12_init_160 (by decide) ?_
  refine lv_iconst (v := (-1)) hx hb dX12_init_161 (by decide) ?_
  refine rl_iast_n (g := upd (upd (upd (fun _ => 0) 0 (-1)) 1 (-1)) 2 (-1)) hC hW (rl_up_s _ _ _) (by decide) (by decide) dX12_init_162 (fun H locs hW => ?_)
  rw [rl_up_up] at hW
  refine lv_dup hx hb dX12_init_163 rfl ?_
  refine lv_iconst (v := (nI (4))) hx hb dX12_init_164 (by decide) ?_
  refine lv_iconst (v := (-1)) hx hb dX12_init_165 (by decide) ?_
  refine rl_iast_n (g := upd (upd (upd (upd (fun _ => 0) 0 (-1)) 1 (-1)) 2 (-1)) 3 (-1)) hC hW (rl_up_s _ _ _) (by decide) (by decide) dX12_init_166 (fun H locs hW => ?_)
  rw [rl_up_up] at hW
  refine lv_dup hx hb dX12_init_167 rfl ?_
  refine lv_iconst (v := (nI (5))) hx hb dX12_init_168 (by decide) ?_
  refine lv_iconst (v := (-1)) hx hb dX12_init_169 (by decide) ?_
  refine rl_iast_n (g := upd (upd (upd (upd (upd (fun _ => 0) 0 (-1)) 1 (-1)) 2 (-1)) 3 (-1)) 4 (-1)) hC hW (rl_up_s _ _ _) (by decide) (by decide) dX12_init_170 (fun H locs hW => ?_)
  rw [rl_up_up] at hW
  refine lv_dup hx hb dX12_init_171 rfl ?_
  refine lv_bipush (v := (nI (6))) hx hb dX12_init_172 (by decide) ?_
  refine lv_iconst (v := (-1)) hx hb dX12_init_174 (by decide) ?_
  refine rl_iast_n (g := upd (upd (upd (upd (upd (upd (fun _ => 0) 0 (-1)) 1 (-1)) 2 (-1)) 3 (-1)) 4 (-1)) 5 (-1)) hC hW (rl_up_s _ _ _) (by decide) (by decide) dX12_init_175 (fun H locs hW => ?_)
  rw [rl_up_up] at hW
  refine lv_dup hx hb dX12_init_176 rfl ?_
  refine lv_bipush (v := (nI (7))) hx hb dX12_init_177 (by decide) ?_
  refine lv_iconst (v := (-1)) hx hb dX12_init_179 (by decide) ?_
  refine rl_iast_n (g := upd (upd (upd (upd (upd (upd (upd (fun _ => 0) 0 (-1)) 1 (-1)) 2 (-1)) 3 (-1)) 4 (-1)) 5 (-1)) 6 (-1)) hC hW (rl_up_s _ _ _) (by decide) (by decide) dX12_init_180 (fun H locs hW => ?_)
  rw [rl_up_up] at hW
  refine lv_dup hx hb dX12_init_181 rfl ?_
  refine lv_bipush (v := (nI (8))) hx hb dX12_init_182 (by decide) ?_
  refine lv_iconst (v := (-1)) hx hb dX12_init_184 (by decide) ?_
  refine rl_iast_n (g := upd (upd (upd (upd (upd (upd (upd (upd (fun _ => 0) 0 (-1)) 1 (-1)) 2 (-1)) 3 (-1)) 4 (-1)) 5 (-1)) 6 (-1)) 7 (-1)) hC hW (rl_up_s _ _ _) (by decide) (by decide) dX12_init_185 (fun H locs hW => ?_)
  rw [rl_up_up] at hW
  refine lv_dup hx hb dX12_init_186 rfl ?_
  refine lv_bipush (v := (nI (9))) hx hb dX12_init_187 (by decide) ?_
  refine lv_iconst (v := (-1)) hx hb dX12_init_189 (by decide) ?_
  refine rl_iast_n (g := upd (upd (upd (upd (upd (upd (upd (upd (upd (fun _ => 0) 0 (-1)) 1 (-1)) 2 (-1)) 3 (-1)) 4 (-1)) 5 (-1)) 6 (-1)) 7 (-1)) 8 (-1)) hC hW (rl_up_s _ _ _) (by decide) (by decide) dX12_init_190 (fun H locs hW => ?_)
  rw [rl_up_up] at hW
  refine rl_putF hC hW fp_X12_66 hnm (hS.obj rfl) (Nat.le_of_ble_eq_true rfl) rfl rfl dX12_init_191 (fun H locs hW => ?_)
  replace hS := hS.step (z := m + 18) (j := 19) rfl (by decide) (by decide) (by decide) rfl (show (rc_fs m 17 rc_F).set 19 (.ref (m + 18)) = rc_fs m 18 rc_F from rfl)
  refine lv_aload_n hx hb dX12_init_194 rfl (lv_at hl 0 rfl) ?_
  refine lv_iconst (v := (nI (5))) hx hb dX12_init_195 (by decide) ?_
  refine rl_newl (N' := 5) hC hW mw_122 (nI_pos (by decide)) (nI_clamp (by decide)) (by decide) (Nat.le_of_ble_eq_true rfl) (Nat.le_of_ble_eq_true rfl) dX12_init_196 (fun H hW => ?_)
  refine rl_putF hC hW fp_X12_69 hnm (hS.obj rfl) (Nat.le_of_ble_eq_true rfl) rfl rfl dX12_init_198 (fun H locs hW => ?_)
  replace hS := hS.step (z := m + 19) (j := 20) rfl (by decide) (by decide) (by decide) rfl (show (rc_fs m 18 rc_F).set 20 (.ref (m + 19)) = rc_fs m 19 rc_F from rfl)
  refine lv_aload_n hx hb dX12_init_201 rfl (lv_at hl 0 rfl) ?_
  refine lv_iconst (v := (nI (5))) hx hb dX12_init_202 (by decide) ?_
  refine rl_newi (N' := 5) hC hW mw_123 (nI_pos (by decide)) (nI_clamp (by decide)) (by decide) (Nat.le_of_ble_eq_true rfl) (Nat.le_of_ble_eq_true rfl) dX12_init_203 (fun H hW => ?_)
  refine rl_putF hC hW fp_X12_72 hnm (hS.obj rfl) (Nat.le_of_ble_eq_true rfl) rfl rfl dX12_init_205 (fun H locs hW => ?_)
  replace hS := hS.step (z := m + 20) (j := 21) rfl (by decide) (by decide) (by decide) rfl (show (rc_fs m 19 rc_F).set 21 (.ref (m + 20)) = rc_fs m 20 rc_F from rfl)
  refine lv_aload_n hx hb dX12_init_208 rfl (lv_at hl 0 rfl) ?_
  refine lv_sipush (v := (nI (250))) hx hb dX12_init_209 (by decide) ?_
  refine rl_newl (N' := 250) hC hW mw_122 (nI_pos (by decide)) (nI_clamp (by decide)) (by decide) (Nat.le_of_ble_eq_true rfl) (Nat.le_of_ble_eq_true rfl) dX12_init_212 (fun H hW => ?_)
  refine rl_putF hC hW fp_X12_75 hnm (hS.obj rfl) (Nat.le_of_ble_eq_true rfl) rfl rfl dX12_init_214 (fun H locs hW => ?_)
  replace hS := hS.step (z := m + 21) (j := 23) rfl (by decide) (by decide) (by decide) rfl (show (rc_fs m 20 rc_F).set 23 (.ref (m + 21)) = rc_fs m 21 rc_F from rfl)
  refine lv_aload_n hx hb dX12_init_217 rfl (lv_at hl 0 rfl) ?_
  refine lv_bipush (v := (-3)) hx hb dX12_init_218 (by decide) ?_
  refine rl_put (v := .int (-3)) hC hW fp_X12_78 hS.1 (Nat.le_of_ble_eq_true rfl) rfl rfl dX12_init_220 (fun H locs hW => ?_)
  replace hS := hS.put (show (rc_fs m 21 rc_F).set 25 (.int (-3)) = rc_fs m 21 (upd rc_F 25 (-3)) from rfl)
  refine lv_aload_n hx hb dX12_init_223 rfl (lv_at hl 0 rfl) ?_
  refine lv_bipush (v := (nI (40))) hx hb dX12_init_224 (by decide) ?_
  refine rl_newl (N' := 40) hC hW mw_122 (nI_pos (by decide)) (nI_clamp (by decide)) (by decide) (Nat.le_of_ble_eq_true rfl) (Nat.le_of_ble_eq_true rfl) dX12_init_226 (fun H hW => ?_)
  refine rl_putF hC hW fp_X12_82 hnm (hS.obj rfl) (Nat.le_of_ble_eq_true rfl) rfl rfl dX12_init_228 (fun H locs hW => ?_)
  replace hS := hS.step (z := m + 22) (j := 31) rfl (by decide) (by decide) (by decide) rfl (show (rc_fs m 21 (upd rc_F 25 (-3))).set 31 (.ref (m + 22)) = rc_fs m 22 (upd rc_F 25 (-3)) from rfl)
  refine lv_aload_n hx hb dX12_init_231 rfl (lv_at hl 0 rfl) ?_
  refine lv_bipush (v := (nI (40))) hx hb dX12_init_232 (by decide) ?_
  refine rl_newi (N' := 40) hC hW mw_123 (nI_pos (by decide)) (nI_clamp (by decide)) (by decide) (Nat.le_of_ble_eq_true rfl) (Nat.le_of_ble_eq_true rfl) dX12_init_234 (fun H hW => ?_)
  refine rl_putF hC hW fp_X12_85 hnm (hS.obj rfl) (Nat.le_of_ble_eq_true rfl) rfl rfl dX12_init_236 (fun H locs hW => ?_)
  replace hS := hS.step (z := m + 23) (j := 32) rfl (by decide) (by decide) (by decide) rfl (show (rc_fs m 22 (upd rc_F 25 (-3))).set 32 (.ref (m + 23)) = rc_fs m 23 (upd rc_F 25 (-3)) from rfl)
  refine lv_aload_n hx hb dX12_init_239 rfl (lv_at hl 0 rfl) ?_
  refine lv_bipush (v := (nI (40))) hx hb dX12_init_240 (by decide) ?_
  refine rl_newi (N' := 40) hC hW mw_123 (nI_pos (by decide)) (nI_clamp (by decide)) (by decide) (Nat.le_of_ble_eq_true rfl) (Nat.le_of_ble_eq_true rfl) dX12_init_242 (fun H hW => ?_)
  refine rl_putF hC hW fp_X12_88 hnm (hS.obj rfl) (Nat.le_of_ble_eq_true rfl) rfl rfl dX12_init_244 (fun H locs hW => ?_)
  replace hS := hS.step (z := m + 24) (j := 34) rfl (by decide) (by decide) (by decide) rfl (show (rc_fs m 23 (upd rc_F 25 (-3))).set 34 (.ref (m + 24)) = rc_fs m 24 (upd rc_F 25 (-3)) from rfl)
  refine lv_aload_n hx hb dX12_init_247 rfl (lv_at hl 0 rfl) ?_
  refine lv_bipush (v := (nI (40))) hx hb dX12_init_248 (by decide) ?_
  refine rl_newi (N' := 40) hC hW mw_123 (nI_pos (by decide)) (nI_clamp (by decide)) (by decide) (Nat.le_of_ble_eq_true rfl) (Nat.le_of_ble_eq_true rfl) dX12_init_250 (fun H hW => ?_)
  refine rl_putF hC hW fp_X12_91 hnm (hS.obj rfl) (Nat.le_of_ble_eq_true rfl) rfl rfl dX12_init_252 (fun H locs hW => ?_)
  replace hS := hS.step (z := m + 25) (j := 35) rfl (by decide) (by decide) (by decide) rfl (show (rc_fs m 24 (upd rc_F 25 (-3))).set 35 (.ref (m + 25)) = rc_fs m 25 (upd rc_F 25 (-3)) from rfl)
  refine lv_aload_n hx hb dX12_init_255 rfl (lv_at hl 0 rfl) ?_
  refine lv_bipush (v := (nI (40))) hx hb dX12_init_256 (by decide) ?_
  refine rl_newi (N' := 40) hC hW mw_123 (nI_pos (by decide)) (nI_clamp (by decide)) (by decide) (Nat.le_of_ble_eq_true rfl) (Nat.le_of_ble_eq_true rfl) dX12_init_258 (fun H hW => ?_)
  refine rl_putF hC hW fp_X12_94 hnm (hS.obj rfl) (Nat.le_of_ble_eq_true rfl) rfl rfl dX12_init_260 (fun H locs hW => ?_)
  replace hS := hS.step (z := m + 26) (j := 36) rfl (by decide) (by decide) (by decide) rfl (show (rc_fs m 25 (upd rc_F 25 (-3))).set 36 (.ref (m + 26)) = rc_fs m 26 (upd rc_F 25 (-3)) from rfl)
  refine lv_aload_n hx hb dX12_init_263 rfl (lv_at hl 0 rfl) ?_
  refine lv_sipush (v := (nI (250))) hx hb dX12_init_264 (by decide) ?_
  refine rl_newl (N' := 250) hC hW mw_122 (nI_pos (by decide)) (nI_clamp (by decide)) (by decide) (Nat.le_of_ble_eq_true rfl) (Nat.le_of_ble_eq_true rfl) dX12_init_267 (fun H hW => ?_)
  refine rl_putF hC hW fp_X12_97 hnm (hS.obj rfl) (Nat.le_of_ble_eq_true rfl) rfl rfl dX12_init_269 (fun H locs hW => ?_)
  replace hS := hS.step (z := m + 27) (j := 38) rfl (by decide) (by decide) (by decide) rfl (show (rc_fs m 26 (upd rc_F 25 (-3))).set 38 (.ref (m + 27)) = rc_fs m 27 (upd rc_F 25 (-3)) from rfl)
  refine lv_aload_n hx hb dX12_init_272 rfl (lv_at hl 0 rfl) ?_
  refine lv_sipush (v := (nI (130))) hx hb dX12_init_273 (by decide) ?_
  refine rl_newi (N' := 130) hC hW mw_123 (nI_pos (by decide)) (nI_clamp (by decide)) (by decide) (Nat.le_of_ble_eq_true rfl) (Nat.le_of_ble_eq_true rfl) dX12_init_276 (fun H hW => ?_)
  refine rl_putF hC hW fp_X12_100 hnm (hS.obj rfl) (Nat.le_of_ble_eq_true rfl) rfl rfl dX12_init_278 (fun H locs hW => ?_)
  replace hS := hS.step (z := m + 28) (j := 39) rfl (by decide) (by decide) (by decide) rfl (show (rc_fs m 27 (upd rc_F 25 (-3))).set 39 (.ref (m + 28)) = rc_fs m 28 (upd rc_F 25 (-3)) from rfl)
  refine lv_aload_n hx hb dX12_init_281 rfl (lv_at hl 0 rfl) ?_
  refine lv_sipush (v := (nI (130))) hx hb dX12_init_282 (by decide) ?_
  refine rl_newi (N' := 130) hC hW mw_123 (nI_pos (by decide)) (nI_clamp (by decide)) (by decide) (Nat.le_of_ble_eq_true rfl) (Nat.le_of_ble_eq_true rfl) dX12_init_285 (fun H hW => ?_)
  refine rl_putF hC hW fp_X12_103 hnm (hS.obj rfl) (Nat.le_of_ble_eq_true rfl) rfl rfl dX12_init_287 (fun H locs hW => ?_)
  replace hS := hS.step (z := m + 29) (j := 40) rfl (by decide) (by decide) (by decide) rfl (show (rc_fs m 28 (upd rc_F 25 (-3))).set 40 (.ref (m + 29)) = rc_fs m 29 (upd rc_F 25 (-3)) from rfl)
  refine lv_aload_n hx hb dX12_init_290 rfl (lv_at hl 0 rfl) ?_
  refine lv_bipush (v := (nI (7))) hx hb dX12_init_291 (by decide) ?_
  refine rl_newi (N' := 7) hC hW mw_123 (nI_pos (by decide)) (nI_clamp (by decide)) (by decide) (Nat.le_of_ble_eq_true rfl) (Nat.le_of_ble_eq_true rfl) dX12_init_293 (fun H hW => ?_)
  refine rl_putF hC hW fp_X12_106 hnm (hS.obj rfl) (Nat.le_of_ble_eq_true rfl) rfl rfl dX12_init_295 (fun H locs hW => ?_)
  replace hS := hS.step (z := m + 30) (j := 46) rfl (by decide) (by decide) (by decide) rfl (show (rc_fs m 29 (upd rc_F 25 (-3))).set 46 (.ref (m + 30)) = rc_fs m 30 (upd rc_F 25 (-3)) from rfl)
  refine lv_aload_n hx hb dX12_init_298 rfl (lv_at hl 0 rfl) ?_
  refine lv_bipush (v := (nI (7))) hx hb dX12_init_299 (by decide) ?_
  refine rl_newl (N' := 7) hC hW mw_122 (nI_pos (by decide)) (nI_clamp (by decide)) (by decide) (Nat.le_of_ble_eq_true rfl) (Nat.le_of_ble_eq_true rfl) dX12_init_301 (fun H hW => ?_)
  refine rl_putF hC hW fp_X12_109 hnm (hS.obj rfl) (Nat.le_of_ble_eq_true rfl) rfl rfl dX12_init_303 (fun H locs hW => ?_)
  replace hS := hS.step (z := m + 31) (j := 47) rfl (by decide) (by decide) (by decide) rfl (show (rc_fs m 30 (upd rc_F 25 (-3))).set 47 (.ref (m + 31)) = rc_fs m 31 (upd rc_F 25 (-3)) from rfl)
  refine lv_aload_n hx hb dX12_init_306 rfl (lv_at hl 0 rfl) ?_
  refine lv_bipush (v := (nI (7))) hx hb dX12_init_307 (by decide) ?_
  refine rl_newi (N' := 7) hC hW mw_123 (nI_pos (by decide)) (nI_clamp (by decide)) (by decide) (Nat.le_of_ble_eq_true rfl) (Nat.le_of_ble_eq_true rfl) dX12_init_309 (fun H hW => ?_)
  refine rl_putF hC hW fp_X12_112 hnm (hS.obj rfl) (Nat.le_of_ble_eq_true rfl) rfl rfl dX12_init_311 (fun H locs hW => ?_)
  replace hS := hS.step (z := m + 32) (j := 48) rfl (by decide) (by decide) (by decide) rfl (show (rc_fs m 31 (upd rc_F 25 (-3))).set 48 (.ref (m + 32)) = rc_fs m 32 (upd rc_F 25 (-3)) from rfl)
  exact rl_vret hC hW hr hlk (Nat.le_of_ble_eq_true rfl) (Nat.le_of_ble_eq_true rfl) ⟨rfl, rc_rs (hS.done rfl), rfl, Nat.le_of_ble_eq_true rfl⟩ dX12_init_314
