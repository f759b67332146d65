
section RLZ
variable {p : Program} {l : Launch} {e : Env} {R : Room} {s : State} {m : MethodId} {args : Array Value} {below : List Frame} {meth : Method} {c : Code} {H : Heap} {locs : List Loc} {cells slots : Nat} {Q : State → Prop}
variable {cc : ByteArray} {nL pc : Nat} {ls : Array Slot} {rest : List Value} {D : va_G} {t : Nat → ClassId} {A : Nat → Prop} {a z : Nat} {f : rl_M} {own : String} {cw : Cond}
theorem rl_topq {r : Option Nat} {q : Nat} (h : r = some q) (k : W p l e R s m args below meth c H locs cells slots Q (F0 m pc ls (.ref q :: rest))) : W p l e R s m args below meth c H locs cells slots Q (F0 m pc ls (va_rf r :: rest)) := by rw [h]; exact k
theorem rl_topq0 {r : Option Nat} (h : r = none) (k : W p l e R s m args below meth c H locs cells slots Q (F0 m pc ls (.null :: rest))) : W p l e R s m args below meth c H locs cells slots Q (F0 m pc ls (va_rf r :: rest)) := by rw [h]; exact k
theorem rl_instY {index ci : Nat} {nm : String} {r : vw_C} {fs : List Value} (hC : rl_C p m c cc nL s args own cw D t A) (hW : rl_W D A f z s.heap H locs) (he : f a = some (.inr (ci, fs))) (hc : rl_cl[ci]? = some r) (hl : Cond.classLink own index nm ∈ rl_G) (hca : Cond.castable r.1 nm ∈ lw_tbl) (hdg : decode cc pc = .ok (.instanceof index, 3))
    (kk : W p l e R s m args below meth c H locs cells slots Q (F0 m (pc + 3) ls (.int 1 :: rest))) : W p l e R s m args below meth c H locs cells slots Q (F0 m pc ls (.ref a :: rest)) :=
  va_instY hC.1 hC.2.1 hC.2.2.2.1 (hC.2.2.2.2.1 _ (List.mem_cons_of_mem _ hl)) (hC.2.2.2.2.2.1.2.1 _ hca rfl) (rl_recv hC hW he hc) hdg kk
theorem rl_castY {index ci : Nat} {nm : String} {r : vw_C} {fs : List Value} (hC : rl_C p m c cc nL s args own cw D t A) (hW : rl_W D A f z s.heap H locs) (he : f a = some (.inr (ci, fs))) (hc : rl_cl[ci]? = some r) (hl : Cond.classLink own index nm ∈ rl_G) (hca : Cond.castable r.1 nm ∈ lw_tbl) (hdg : decode cc pc = .ok (.checkcast index, 3))
    (kk : W p l e R s m args below meth c H locs cells slots Q (F0 m (pc + 3) ls (.ref a :: rest))) : W p l e R s m args below meth c H locs cells slots Q (F0 m pc ls (.ref a :: rest)) :=
  va_castY hC.1 hC.2.1 hC.2.2.2.1 (hC.2.2.2.2.1 _ (List.mem_cons_of_mem _ hl)) (hC.2.2.2.2.2.1.2.1 _ hca rfl) (rl_recv hC hW he hc) hdg kk
theorem rl_instNo {index ci : Nat} {nm : String} {r : vw_C} {fs : List Value} (hC : rl_C p m c cc nL s args own cw D t A) (hW : rl_W D A f z s.heap H locs) (he : f a = some (.inr (ci, fs))) (hc : rl_cl[ci]? = some r) (hl : Cond.classLink own index nm ∈ rl_G) (hca : (r.1, nm) ∈ rl_ncl) (hdg : decode cc pc = .ok (.instanceof index, 3))
    (kk : W p l e R s m args below meth c H locs cells slots Q (F0 m (pc + 3) ls (.int 0 :: rest))) : W p l e R s m args below meth c H locs cells slots Q (F0 m pc ls (.ref a :: rest)) :=
  va_instNo hC.1 hC.2.1 hC.2.2.2.1 (hC.2.2.2.2.1 _ (List.mem_cons_of_mem _ hl)) (hC.2.2.2.2.2.1.2.2.1 _ hca) (rl_recv hC hW he hc) hdg kk
end RLZ
theorem rl_up_up2 (f : rl_M) (a : Nat) (e e' : va_E) : rl_up (rl_up f a e) a e' = rl_up f a e' := by
  funext b
  unfold rl_up
  split <;> rfl
/-- the memory only grew -/
def rl_le (f f1 : rl_M) : Prop := ∀ (a : Nat) (e : va_E), f a = some e → f1 a = some e
theorem rl_le.rf (f : rl_M) : rl_le f f := fun _ _ h => h
theorem rl_le.tr {f g h : rl_M} (a : rl_le f g) (b : rl_le g h) : rl_le f h := fun x e q => b x e (a x e q)
theorem rl_le.fresh {f : rl_M} {z : Nat} {e : va_E} (h : f z = none) : rl_le f (rl_up f z e) := fun x y q => by rw [rl_up_n (fun w => by rw [w, h] at q; cases q)]; exact q

theorem cu_X11_208_X1 : rl_cu RX11 208 RX1 "RecordLeaves$Thing" ⟨"RecordLeaves$Thing", "family", "()I"⟩ yX1_family cX1_family 1 (some FieldType.int) 0 := ⟨mw_318, mw_320, mw_321, mw_322, mw_8, mt_319, co_X1_family, by decide +kernel⟩
theorem cu_X11_208_X8 : rl_cu RX11 208 RX8 "RecordLeaves$Thing" ⟨"RecordLeaves$Thing", "family", "()I"⟩ yX8_family cX8_family 1 (some FieldType.int) 0 := ⟨mw_318, mw_320, mw_327, mw_328, mw_11, mt_319, co_X8_family, by decide +kernel⟩
theorem cu_X11_208_X6 : rl_cu RX11 208 RX6 "RecordLeaves$Thing" ⟨"RecordLeaves$Thing", "family", "()I"⟩ yX6_family cX6_family 1 (some FieldType.int) 0 := ⟨mw_318, mw_320, mw_324, mw_325, mw_13, mt_319, co_X6_family, by decide +kernel⟩
theorem cu_X4_25_X1 : rl_cu RX4 25 RX1 "RecordLeaves$Thing" ⟨"RecordLeaves$Thing", "kind", "()I"⟩ yX1_kind cX1_kind 1 (some FieldType.int) 0 := ⟨mw_394, mw_396, mw_397, mw_398, mw_8, mt_395, co_X1_kind, by decide +kernel⟩
theorem cu_X4_25_X8 : rl_cu RX4 25 RX8 "RecordLeaves$Thing" ⟨"RecordLeaves$Thing", "kind", "()I"⟩ yX8_kind cX8_kind 1 (some FieldType.int) 0 := ⟨mw_394, mw_396, mw_403, mw_404, mw_11, mt_395, co_X8_kind, by decide +kernel⟩
theorem cu_X4_25_X6 : rl_cu RX4 25 RX6 "RecordLeaves$Thing" ⟨"RecordLeaves$Thing", "kind", "()I"⟩ yX6_kind cX6_kind 1 (some FieldType.int) 0 := ⟨mw_394, mw_396, mw_400, mw_401, mw_13, mt_395, co_X6_kind, by decide +kernel⟩
theorem cu_X4_31_X1 : rl_cu RX4 31 RX1 "RecordLeaves$Thing" ⟨"RecordLeaves$Thing", "version", "()I"⟩ yX1_version cX1_version 1 (some FieldType.int) 0 := ⟨mw_406, mw_408, mw_409, mw_410, mw_8, mt_407, co_X1_version, by decide +kernel⟩
theorem cu_X4_31_X8 : rl_cu RX4 31 RX8 "RecordLeaves$Thing" ⟨"RecordLeaves$Thing", "version", "()I"⟩ yX8_version cX8_version 1 (some FieldType.int) 0 := ⟨mw_406, mw_408, mw_415, mw_416, mw_11, mt_407, co_X8_version, by decide +kernel⟩
theorem cu_X4_31_X6 : rl_cu RX4 31 RX6 "RecordLeaves$Thing" ⟨"RecordLeaves$Thing", "version", "()I"⟩ yX6_version cX6_version 1 (some FieldType.int) 0 := ⟨mw_406, mw_408, mw_412, mw_413, mw_13, mt_407, co_X6_version, by decide +kernel⟩
theorem cu_X11_138_X1 : rl_cu RX11 138 RX1 "RecordLeaves$Thing" ⟨"RecordLeaves$Thing", "kind", "()I"⟩ yX1_kind cX1_kind 1 (some FieldType.int) 0 := ⟨mw_451, mw_396, mw_397, mw_398, mw_8, mt_395, co_X1_kind, by decide +kernel⟩
theorem cu_X11_138_X8 : rl_cu RX11 138 RX8 "RecordLeaves$Thing" ⟨"RecordLeaves$Thing", "kind", "()I"⟩ yX8_kind cX8_kind 1 (some FieldType.int) 0 := ⟨mw_451, mw_396, mw_403, mw_404, mw_11, mt_395, co_X8_kind, by decide +kernel⟩
theorem cu_X11_138_X6 : rl_cu RX11 138 RX6 "RecordLeaves$Thing" ⟨"RecordLeaves$Thing", "kind", "()I"⟩ yX6_kind cX6_kind 1 (some FieldType.int) 0 := ⟨mw_451, mw_396, mw_400, mw_401, mw_13, mt_395, co_X6_kind, by decide +kernel⟩
theorem cu_X11_141_X1 : rl_cu RX11 141 RX1 "RecordLeaves$Thing" ⟨"RecordLeaves$Thing", "version", "()I"⟩ yX1_version cX1_version 1 (some FieldType.int) 0 := ⟨mw_452, mw_408, mw_409, mw_410, mw_8, mt_407, co_X1_version, by decide +kernel⟩
theorem cu_X11_141_X8 : rl_cu RX11 141 RX8 "RecordLeaves$Thing" ⟨"RecordLeaves$Thing", "version", "()I"⟩ yX8_version cX8_version 1 (some FieldType.int) 0 := ⟨mw_452, mw_408, mw_415, mw_416, mw_11, mt_407, co_X8_version, by decide +kernel⟩
theorem cu_X11_141_X6 : rl_cu RX11 141 RX6 "RecordLeaves$Thing" ⟨"RecordLeaves$Thing", "version", "()I"⟩ yX6_version cX6_version 1 (some FieldType.int) 0 := ⟨mw_452, mw_408, mw_412, mw_413, mw_13, mt_407, co_X6_version, by decide +kernel⟩
theorem cu_X11_144_X1 : rl_cu RX11 144 RX1 "RecordLeaves$Thing" ⟨"RecordLeaves$Thing", "extent", "()I"⟩ yX1_extent cX1_extent 1 (some FieldType.int) 0 := ⟨mw_453, mw_455, mw_456, mw_457, mw_8, mt_454, co_X1_extent, by decide +kernel⟩
theorem cu_X11_144_X8 : rl_cu RX11 144 RX8 "RecordLeaves$Thing" ⟨"RecordLeaves$Thing", "extent", "()I"⟩ yX8_extent cX8_extent 1 (some FieldType.int) 0 := ⟨mw_453, mw_455, mw_460, mw_461, mw_11, mt_454, co_X8_extent, by decide +kernel⟩
theorem cu_X11_144_X6 : rl_cu RX11 144 RX6 "RecordLeaves$Thing" ⟨"RecordLeaves$Thing", "extent", "()I"⟩ yX6_extent cX6_extent 1 (some FieldType.int) 0 := ⟨mw_453, mw_455, mw_459, mw_367, mw_13, mt_454, co_X6_extent, by decide +kernel⟩
set_option maxHeartbeats 4000000 in
set_option maxRecDepth 100000 in
theorem cC_Thing_init (l : Launch) (D : va_G) (t : Nat → ClassId) (A : Nat → Prop) (f : rl_M) (z : Nat) (a : Nat) : rl_Met l yX10_init (.code yX10_init cX10_init 1 none) (rl_rm 1 0 0) D t A f z [.ref (a)] (rl_qv z fun f1 => f = f1) := by
  refine rl_begin (own := RX10) (lv := [(0, .ref (a))]) (by decide +kernel) rfl (Nat.le_of_ble_eq_true rfl) rfl fun p e s m0 args below meth c ls H locs hC hr hlk hnm hW hl hx hb => ?_
  refine lv_aload_n hx hb dX10_init_0 rfl (lv_at hl 0 rfl) ?_
  refine rl_objInit hC mw_188 mw_22 mw_23 hl.1 dX10_init_1 (Nat.le_of_ble_eq_true rfl) (Nat.le_of_ble_eq_true rfl) ?_
  exact rl_vret hC hW hr hlk (Nat.le_refl _) (Nat.le_refl _) ⟨rfl, rfl, rfl, rfl⟩ dX10_init_4

set_option maxHeartbeats 4000000 in
set_option maxRecDepth 100000 in
theorem cC_Constant_init (l : Launch) (D : va_G) (t : Nat → ClassId) (A : Nat → Prop) (f : rl_M) (z : Nat) (a ev : Nat) (nm o lo : Int32) (hlo : lo = 0 ∨ lo = 1) (h0 : f a = some (.inr (1, [.null, .int 0, .int 0, .int 0]))) : rl_Met l yX1_init (.code yX1_init cX1_init 5 none) (rl_rm 2 0 0) D t A f z [.ref (a), .ref (ev), .int (nm), .int (o), .int (lo)] (rl_qv z fun f1 => rl_up f a (.inr (1, [.ref ev, .int nm, .int o, .int lo])) = f1) := by
  refine rl_begin (own := RX1) (lv := [(0, .ref (a)), (1, .ref (ev)), (2, .int (nm)), (3, .int (o)), (4, .int (lo))]) (by decide +kernel) rfl (Nat.le_of_ble_eq_true rfl) rfl fun p e s m0 args below meth c ls H locs hC hr hlk hnm hW hl hx hb => ?_
  refine lv_aload_n hx hb dX1_init_0 rfl (lv_at hl 0 rfl) ?_
  refine rl_callvQ (rl_runI (b := a) (As := []) (rest := []) hC hW (cC_Thing_init l D t A _ z a) cs_X1_3 im_X10_init rfl ⟨(Nat.le_of_ble_eq_true rfl), (Nat.le_of_ble_eq_true rfl)⟩ rfl hl.1 rfl (Nat.le_of_ble_eq_true rfl) dX1_init_1 ⟨(Nat.le_of_ble_eq_true rfl), (Nat.le_of_ble_eq_true rfl)⟩) hW (fun f1 H locs hp hW => ?_)
  obtain rfl := hp
  refine lv_aload_n hx hb dX1_init_4 rfl (lv_at hl 0 rfl) ?_
  refine lv_aload_n hx hb dX1_init_5 rfl (lv_at hl 1 rfl) ?_
  refine rl_putF (v := .ref (ev)) hC hW fp_X1_9 hnm h0 (Nat.le_of_ble_eq_true rfl) rfl rfl dX1_init_6 (fun H locs hW => ?_)
  refine lv_aload_n hx hb dX1_init_9 rfl (lv_at hl 0 rfl) ?_
  refine lv_iload_n hx hb dX1_init_10 rfl (lv_at hl 2 rfl) ?_
  refine rl_putF (v := .int (nm)) hC hW fp_X1_15 hnm (rl_up_s _ _ _) (Nat.le_of_ble_eq_true rfl) rfl rfl dX1_init_11 (fun H locs hW => ?_)
  rw [rl_up_up2] at hW
  refine lv_aload_n hx hb dX1_init_14 rfl (lv_at hl 0 rfl) ?_
  refine lv_iload_n hx hb dX1_init_15 rfl (lv_at hl 3 rfl) ?_
  refine rl_putF (v := .int (o)) hC hW fp_X1_19 hnm (rl_up_s _ _ _) (Nat.le_of_ble_eq_true rfl) rfl rfl dX1_init_16 (fun H locs hW => ?_)
  rw [rl_up_up2] at hW
  refine lv_aload_n hx hb dX1_init_19 rfl (lv_at hl 0 rfl) ?_
  refine lv_iload hx hb dX1_init_20 (lv_at hl 4 rfl) ?_
  refine rl_putF (v := .int (lo)) hC hW fp_X1_22 hnm (rl_up_s _ _ _) (Nat.le_of_ble_eq_true rfl) (by rcases hlo with rfl | rfl <;> rfl) (by rcases hlo with rfl | rfl <;> rfl) dX1_init_22 (fun H locs hW => ?_)
  rw [rl_up_up2] at hW
  exact rl_vret hC hW hr hlk (Nat.le_refl _) (Nat.le_refl _) ⟨rfl, rfl, rfl, rfl⟩ dX1_init_25

set_option maxHeartbeats 4000000 in
set_option maxRecDepth 100000 in
theorem cC_Part_init (l : Launch) (D : va_G) (t : Nat → ClassId) (A : Nat → Prop) (f : rl_M) (z : Nat) (a : Nat) (x y o : Int32) (h0 : f a = some (.inr (4, [.int 0, .int 0, .int 0]))) : rl_Met l yX4_init (.code yX4_init cX4_init 4 none) (rl_rm 1 0 0) D t A f z [.ref (a), .int (x), .int (y), .int (o)] (rl_qv z fun f1 => rl_up f a (.inr (4, [.int x, .int y, .int o])) = f1) := by
  refine rl_begin (own := RX4) (lv := [(0, .ref (a)), (1, .int (x)), (2, .int (y)), (3, .int (o))]) (by decide +kernel) rfl (Nat.le_of_ble_eq_true rfl) rfl fun p e s m0 args below meth c ls H locs hC hr hlk hnm hW hl hx hb => ?_
  refine lv_aload_n hx hb dX4_init_0 rfl (lv_at hl 0 rfl) ?_
  refine rl_objInit hC mw_228 mw_22 mw_23 hl.1 dX4_init_1 (Nat.le_of_ble_eq_true rfl) (Nat.le_of_ble_eq_true rfl) ?_
  refine lv_aload_n hx hb dX4_init_4 rfl (lv_at hl 0 rfl) ?_
  refine lv_iload_n hx hb dX4_init_5 rfl (lv_at hl 1 rfl) ?_
  refine rl_putF (v := .int (x)) hC hW fp_X4_9 hnm h0 (Nat.le_of_ble_eq_true rfl) rfl rfl dX4_init_6 (fun H locs hW => ?_)
  refine lv_aload_n hx hb dX4_init_9 rfl (lv_at hl 0 rfl) ?_
  refine lv_iload_n hx hb dX4_init_10 rfl (lv_at hl 2 rfl) ?_
  refine rl_putF (v := .int (y)) hC hW fp_X4_15 hnm (rl_up_s _ _ _) (Nat.le_of_ble_eq_true rfl) rfl rfl dX4_init_11 (fun H locs hW => ?_)
  rw [rl_up_up2] at hW
  refine lv_aload_n hx hb dX4_init_14 rfl (lv_at hl 0 rfl) ?_
  refine lv_iload_n hx hb dX4_init_15 rfl (lv_at hl 3 rfl) ?_
  refine rl_putF (v := .int (o)) hC hW fp_X4_18 hnm (rl_up_s _ _ _) (Nat.le_of_ble_eq_true rfl) rfl rfl dX4_init_16 (fun H locs hW => ?_)
  rw [rl_up_up2] at hW
  exact rl_vret hC hW hr hlk (Nat.le_refl _) (Nat.le_refl _) ⟨rfl, rfl, rfl, rfl⟩ dX4_init_19

set_option maxHeartbeats 4000000 in
set_option maxRecDepth 100000 in
theorem cC_Check_init (l : Launch) (D : va_G) (t : Nat → ClassId) (A : Nat → Prop) (f : rl_M) (z : Nat) (a : Nat) (x y o : Int32) (h0 : f a = some (.inr (0, [.int 0, .int 0, .int 0]))) : rl_Met l yX0_init (.code yX0_init cX0_init 4 none) (rl_rm 1 0 0) D t A f z [.ref (a), .int (x), .int (y), .int (o)] (rl_qv z fun f1 => rl_up f a (.inr (0, [.int x, .int y, .int o])) = f1) := by
  refine rl_begin (own := RX0) (lv := [(0, .ref (a)), (1, .int (x)), (2, .int (y)), (3, .int (o))]) (by decide +kernel) rfl (Nat.le_of_ble_eq_true rfl) rfl fun p e s m0 args below meth c ls H locs hC hr hlk hnm hW hl hx hb => ?_
  refine lv_aload_n hx hb dX0_init_0 rfl (lv_at hl 0 rfl) ?_
  refine rl_objInit hC mw_267 mw_22 mw_23 hl.1 dX0_init_1 (Nat.le_of_ble_eq_true rfl) (Nat.le_of_ble_eq_true rfl) ?_
  refine lv_aload_n hx hb dX0_init_4 rfl (lv_at hl 0 rfl) ?_
  refine lv_iload_n hx hb dX0_init_5 rfl (lv_at hl 1 rfl) ?_
  refine rl_putF (v := .int (x)) hC hW fp_X0_9 hnm h0 (Nat.le_of_ble_eq_true rfl) rfl rfl dX0_init_6 (fun H locs hW => ?_)
  refine lv_aload_n hx hb dX0_init_9 rfl (lv_at hl 0 rfl) ?_
  refine lv_iload_n hx hb dX0_init_10 rfl (lv_at hl 2 rfl) ?_
  refine rl_putF (v := .int (y)) hC hW fp_X0_15 hnm (rl_up_s _ _ _) (Nat.le_of_ble_eq_true rfl) rfl rfl dX0_init_11 (fun H locs hW => ?_)
  rw [rl_up_up2] at hW
  refine lv_aload_n hx hb dX0_init_14 rfl (lv_at hl 0 rfl) ?_
  refine lv_iload_n hx hb dX0_init_15 rfl (lv_at hl 3 rfl) ?_
  refine rl_putF (v := .int (o)) hC hW fp_X0_18 hnm (rl_up_s _ _ _) (Nat.le_of_ble_eq_true rfl) rfl rfl dX0_init_16 (fun H locs hW => ?_)
  rw [rl_up_up2] at hW
  exact rl_vret hC hW hr hlk (Nat.le_refl _) (Nat.le_refl _) ⟨rfl, rfl, rfl, rfl⟩ dX0_init_19

set_option maxHeartbeats 4000000 in
set_option maxRecDepth 100000 in
theorem cC_below (l : Launch) (D : va_G) (t : Nat → ClassId) (A : Nat → Prop) (f : rl_M) (z : Nat) (x : Int32) (n : Nat) (hn : n < 2 ^ 31) : rl_Met l yX11_below (.code yX11_below cX11_below 2 (some FieldType.boolean)) (rl_rm 0 0 0) D t A f z [.int (x), .int (nI (n))] (rl_qi z fun r f1 => f = f1 ∧ ((r = 1 ∧ ∃ j : Nat, j < n ∧ x = nI j) ∨ (r = 0 ∧ ¬ ∃ j : Nat, j < n ∧ x = nI j))) := by
  refine rl_begin (own := RX11) (lv := [(0, .int (x)), (1, .int (nI (n)))]) (by decide +kernel) rfl (Nat.le_of_ble_eq_true rfl) rfl fun p e s m0 args below meth c ls H locs hC hr hlk hnm hW hl hx hb => ?_
  refine lv_iload_n hx hb dX11_below_0 rfl (lv_at hl 0 rfl) ?_
  refine lv_if_lt (tgt := 13) hx hb dX11_below_1 (by decide) (fun c1 => ?_) (fun c1 => ?_)
  · refine lv_iconst (v := (nI (0))) hx hb dX11_below_13 (by decide) ?_
    exact rl_zret hC hW hr hlk rfl (Nat.le_refl _) (Nat.le_refl _) ⟨_, rfl, rfl, rfl, rfl, Or.inr ⟨by decide, fun ⟨j, hj, e⟩ => by subst e; exact nI_pos (by omega) c1⟩⟩ dX11_below_14
  · refine lv_iload_n hx hb dX11_below_4 rfl (lv_at hl 0 rfl) ?_
    refine lv_iload_n hx hb dX11_below_5 rfl (lv_at hl 1 rfl) ?_
    refine lv_icmp_ge (tgt := 13) hx hb dX11_below_6 (by decide) (fun c2 => ?_) (fun c2 => ?_)
    · refine lv_iconst (v := (nI (0))) hx hb dX11_below_13 (by decide) ?_
      exact rl_zret hC hW hr hlk rfl (Nat.le_refl _) (Nat.le_refl _) ⟨_, rfl, rfl, rfl, rfl, Or.inr ⟨by decide, fun ⟨j, hj, e⟩ => by subst e; exact absurd (rg_le c2 hn (by omega)) (by omega)⟩⟩ dX11_below_14
    · obtain ⟨j, hj, rfl⟩ := nI_of c1
      refine lv_iconst (v := (nI (1))) hx hb dX11_below_9 (by decide) ?_
      refine lv_goto (tgt := 14) hx hb dX11_below_10 (by decide) ?_
      exact rl_zret hC hW hr hlk rfl (Nat.le_refl _) (Nat.le_refl _) ⟨_, rfl, rfl, rfl, rfl, Or.inl ⟨by decide, j, rg_lt c2 hn hj, rfl⟩⟩ dX11_below_14
