theorem i_X0 : ∀ w ∈ u_ws RX0 TX0 3, w ∈ rl_G := fun w h => rl_inG ((by decide +kernel : ∀ w ∈ u_ws RX0 TX0 3, w ∈ lw_tbl) w h) ((by decide +kernel : ∀ w ∈ u_ws RX0 TX0 3, goodWord w = true) w h)
theorem i_X1 : ∀ w ∈ u_ws RX1 TX1 4, w ∈ rl_G := fun w h => rl_inG ((by decide +kernel : ∀ w ∈ u_ws RX1 TX1 4, w ∈ lw_tbl) w h) ((by decide +kernel : ∀ w ∈ u_ws RX1 TX1 4, goodWord w = true) w h)
theorem i_X2 : ∀ w ∈ u_ws RX2 TX2 4, w ∈ rl_G := fun w h => rl_inG ((by decide +kernel : ∀ w ∈ u_ws RX2 TX2 4, w ∈ lw_tbl) w h) ((by decide +kernel : ∀ w ∈ u_ws RX2 TX2 4, goodWord w = true) w h)
theorem i_X3 : ∀ w ∈ u_ws RX3 TX3 2, w ∈ rl_G := fun w h => rl_inG ((by decide +kernel : ∀ w ∈ u_ws RX3 TX3 2, w ∈ lw_tbl) w h) ((by decide +kernel : ∀ w ∈ u_ws RX3 TX3 2, goodWord w = true) w h)
theorem i_X4 : ∀ w ∈ u_ws RX4 TX4 3, w ∈ rl_G := fun w h => rl_inG ((by decide +kernel : ∀ w ∈ u_ws RX4 TX4 3, w ∈ lw_tbl) w h) ((by decide +kernel : ∀ w ∈ u_ws RX4 TX4 3, goodWord w = true) w h)
theorem i_X5 : ∀ w ∈ u_ws RX5 TX5 8, w ∈ rl_G := fun w h => rl_inG ((by decide +kernel : ∀ w ∈ u_ws RX5 TX5 8, w ∈ lw_tbl) w h) ((by decide +kernel : ∀ w ∈ u_ws RX5 TX5 8, goodWord w = true) w h)
theorem i_X6 : ∀ w ∈ u_ws RX6 TX6 3, w ∈ rl_G := fun w h => rl_inG ((by decide +kernel : ∀ w ∈ u_ws RX6 TX6 3, w ∈ lw_tbl) w h) ((by decide +kernel : ∀ w ∈ u_ws RX6 TX6 3, goodWord w = true) w h)
theorem i_X7 : ∀ w ∈ u_ws RX7 TX7 6, w ∈ rl_G := fun w h => rl_inG ((by decide +kernel : ∀ w ∈ u_ws RX7 TX7 6, w ∈ lw_tbl) w h) ((by decide +kernel : ∀ w ∈ u_ws RX7 TX7 6, goodWord w = true) w h)
theorem i_X8 : ∀ w ∈ u_ws RX8 TX8 1, w ∈ rl_G := fun w h => rl_inG ((by decide +kernel : ∀ w ∈ u_ws RX8 TX8 1, w ∈ lw_tbl) w h) ((by decide +kernel : ∀ w ∈ u_ws RX8 TX8 1, goodWord w = true) w h)
theorem i_X9 : ∀ w ∈ u_ws RX9 TX9 4, w ∈ rl_G := fun w h => rl_inG ((by decide +kernel : ∀ w ∈ u_ws RX9 TX9 4, w ∈ lw_tbl) w h) ((by decide +kernel : ∀ w ∈ u_ws RX9 TX9 4, goodWord w = true) w h)
theorem i_X11 : ∀ w ∈ u_ws RX11 TX11 12, w ∈ rl_G := fun w h => rl_inG ((by decide +kernel : ∀ w ∈ u_ws RX11 TX11 12, w ∈ lw_tbl) w h) ((by decide +kernel : ∀ w ∈ u_ws RX11 TX11 12, goodWord w = true) w h)
theorem i_X12 : ∀ w ∈ u_ws RX12 TX12 49, w ∈ rl_G := fun w h => rl_inG ((by decide +kernel : ∀ w ∈ u_ws RX12 TX12 49, w ∈ lw_tbl) w h) ((by decide +kernel : ∀ w ∈ u_ws RX12 TX12 49, goodWord w = true) w h)
theorem mt_124 : (Cond.fieldLink "RecordLeaves" (10 : Nat) "RecordLeaves" "kinds" "LRecordLeaves$Kinds;") ∈ lw_tbl := List.mem_append_right _ (List.mem_append_left _ (List.mem_of_getElem? (i := 124) (by decide +kernel)))
theorem mw_124 : (Cond.fieldLink "RecordLeaves" (10 : Nat) "RecordLeaves" "kinds" "LRecordLeaves$Kinds;") ∈ rl_G := rl_inG mt_124 rfl
theorem fl_X11_10 : rl_fl RX11 10 10 0 := ⟨RX11, TX11, 12, rfl, by decide, i_X11, Or.inl mw_124⟩
theorem fp_X11_10 : rl_fp RX11 10 10 0 (.object "RecordLeaves$Kinds") true := ⟨RX11, TX11, 12, tyX11, rfl, by decide, i_X11, tyX11_ok, nmX11, rfl, tyX11_ok 0 (by decide), (fun _ => rfl), Or.inl mw_124⟩
theorem mt_125 : (Cond.fieldLink "RecordLeaves" (18 : Nat) "RecordLeaves" "places" "[LRecordLeaves$Thing;") ∈ lw_tbl := List.mem_append_right _ (List.mem_append_left _ (List.mem_of_getElem? (i := 125) (by decide +kernel)))
theorem mw_125 : (Cond.fieldLink "RecordLeaves" (18 : Nat) "RecordLeaves" "places" "[LRecordLeaves$Thing;") ∈ rl_G := rl_inG mt_125 rfl
theorem fl_X11_18 : rl_fl RX11 18 10 1 := ⟨RX11, TX11, 12, rfl, by decide, i_X11, Or.inl mw_125⟩
theorem fp_X11_18 : rl_fp RX11 18 10 1 (.array (.object "RecordLeaves$Thing")) true := ⟨RX11, TX11, 12, tyX11, rfl, by decide, i_X11, tyX11_ok, nmX11, rfl, tyX11_ok 1 (by decide), (fun _ => rfl), Or.inl mw_125⟩
theorem mt_126 : (Cond.fieldLink "RecordLeaves" (22 : Nat) "RecordLeaves" "givenNumbers" "[J") ∈ lw_tbl := List.mem_append_right _ (List.mem_append_left _ (List.mem_of_getElem? (i := 126) (by decide +kernel)))
theorem mw_126 : (Cond.fieldLink "RecordLeaves" (22 : Nat) "RecordLeaves" "givenNumbers" "[J") ∈ rl_G := rl_inG mt_126 rfl
theorem fl_X11_22 : rl_fl RX11 22 10 2 := ⟨RX11, TX11, 12, rfl, by decide, i_X11, Or.inl mw_126⟩
theorem fp_X11_22 : rl_fp RX11 22 10 2 (.array .long) true := ⟨RX11, TX11, 12, tyX11, rfl, by decide, i_X11, tyX11_ok, nmX11, rfl, tyX11_ok 2 (by decide), (fun _ => rfl), Or.inl mw_126⟩
theorem mt_127 : (Cond.fieldLink "RecordLeaves" (26 : Nat) "RecordLeaves" "givenPlaces" "[I") ∈ lw_tbl := List.mem_append_right _ (List.mem_append_left _ (List.mem_of_getElem? (i := 127) (by decide +kernel)))
theorem mw_127 : (Cond.fieldLink "RecordLeaves" (26 : Nat) "RecordLeaves" "givenPlaces" "[I") ∈ rl_G := rl_inG mt_127 rfl
theorem fl_X11_26 : rl_fl RX11 26 10 3 := ⟨RX11, TX11, 12, rfl, by decide, i_X11, Or.inl mw_127⟩
theorem fp_X11_26 : rl_fp RX11 26 10 3 (.array .int) true := ⟨RX11, TX11, 12, tyX11, rfl, by decide, i_X11, tyX11_ok, nmX11, rfl, tyX11_ok 3 (by decide), (fun _ => rfl), Or.inl mw_127⟩
theorem mt_128 : (Cond.fieldLink "RecordLeaves" (33 : Nat) "RecordLeaves" "tape" "LRecordLeaves$Tape;") ∈ lw_tbl := List.mem_append_right _ (List.mem_append_left _ (List.mem_of_getElem? (i := 128) (by decide +kernel)))
theorem mw_128 : (Cond.fieldLink "RecordLeaves" (33 : Nat) "RecordLeaves" "tape" "LRecordLeaves$Tape;") ∈ rl_G := rl_inG mt_128 rfl
theorem fl_X11_33 : rl_fl RX11 33 10 4 := ⟨RX11, TX11, 12, rfl, by decide, i_X11, Or.inl mw_128⟩
theorem fp_X11_33 : rl_fp RX11 33 10 4 (.object "RecordLeaves$Tape") true := ⟨RX11, TX11, 12, tyX11, rfl, by decide, i_X11, tyX11_ok, nmX11, rfl, tyX11_ok 4 (by decide), (fun _ => rfl), Or.inl mw_128⟩
theorem mt_129 : (Cond.fieldLink "RecordLeaves" (37 : Nat) "RecordLeaves" "told" "I") ∈ lw_tbl := List.mem_append_right _ (List.mem_append_left _ (List.mem_of_getElem? (i := 129) (by decide +kernel)))
theorem mw_129 : (Cond.fieldLink "RecordLeaves" (37 : Nat) "RecordLeaves" "told" "I") ∈ rl_G := rl_inG mt_129 rfl
theorem fl_X11_37 : rl_fl RX11 37 10 5 := ⟨RX11, TX11, 12, rfl, by decide, i_X11, Or.inl mw_129⟩
theorem fp_X11_37 : rl_fp RX11 37 10 5 .int false := ⟨RX11, TX11, 12, tyX11, rfl, by decide, i_X11, tyX11_ok, nmX11, rfl, tyX11_ok 5 (by decide), (fun h => by cases h), Or.inl mw_129⟩
theorem mt_131 : (Cond.fieldLink "RecordLeaves" (41 : Nat) "RecordLeaves" "causeLeaf" "I") ∈ lw_tbl := List.mem_append_right _ (List.mem_append_left _ (List.mem_of_getElem? (i := 131) (by decide +kernel)))
theorem mw_131 : (Cond.fieldLink "RecordLeaves" (41 : Nat) "RecordLeaves" "causeLeaf" "I") ∈ rl_G := rl_inG mt_131 rfl
theorem fl_X11_41 : rl_fl RX11 41 10 7 := ⟨RX11, TX11, 12, rfl, by decide, i_X11, Or.inl mw_131⟩
theorem fp_X11_41 : rl_fp RX11 41 10 7 .int false := ⟨RX11, TX11, 12, tyX11, rfl, by decide, i_X11, tyX11_ok, nmX11, rfl, tyX11_ok 7 (by decide), (fun h => by cases h), Or.inl mw_131⟩
theorem mt_194 : (Cond.fieldLinkNest "RecordLeaves" (98 : Nat) "RecordLeaves$Constant" "order" "I" "RecordLeaves") ∈ lw_tbl := List.mem_append_right _ (List.mem_append_left _ (List.mem_of_getElem? (i := 194) (by decide +kernel)))
theorem fl_X11_98 : rl_fl RX11 98 1 2 := ⟨RX1, TX1, 4, rfl, by decide, i_X1, Or.inr ⟨"RecordLeaves", mt_194⟩⟩
theorem mt_302 : (Cond.fieldLinkNest "RecordLeaves" (108 : Nat) "RecordLeaves$Row" "items" "[I" "RecordLeaves") ∈ lw_tbl := List.mem_append_right _ (List.mem_append_right _ (List.mem_append_left _ (List.mem_of_getElem? (i := 62) (by decide +kernel))))
theorem fl_X11_108 : rl_fl RX11 108 8 0 := ⟨RX8, TX8, 1, rfl, by decide, i_X8, Or.inr ⟨"RecordLeaves", mt_302⟩⟩
theorem mt_133 : (Cond.fieldLink "RecordLeaves" (132 : Nat) "RecordLeaves" "made" "I") ∈ lw_tbl := List.mem_append_right _ (List.mem_append_left _ (List.mem_of_getElem? (i := 133) (by decide +kernel)))
theorem mw_133 : (Cond.fieldLink "RecordLeaves" (132 : Nat) "RecordLeaves" "made" "I") ∈ rl_G := rl_inG mt_133 rfl
theorem fl_X11_132 : rl_fl RX11 132 10 9 := ⟨RX11, TX11, 12, rfl, by decide, i_X11, Or.inl mw_133⟩
theorem fp_X11_132 : rl_fp RX11 132 10 9 .int false := ⟨RX11, TX11, 12, tyX11, rfl, by decide, i_X11, tyX11_ok, nmX11, rfl, tyX11_ok 9 (by decide), (fun h => by cases h), Or.inl mw_133⟩
theorem mt_353 : (Cond.fieldLinkNest "RecordLeaves" (149 : Nat) "RecordLeaves$RecordThing" "numbers" "[J" "RecordLeaves") ∈ lw_tbl := List.mem_append_right _ (List.mem_append_right _ (List.mem_append_left _ (List.mem_of_getElem? (i := 113) (by decide +kernel))))
theorem fl_X11_149 : rl_fl RX11 149 6 1 := ⟨RX6, TX6, 3, rfl, by decide, i_X6, Or.inr ⟨"RecordLeaves", mt_353⟩⟩
theorem mt_358 : (Cond.fieldLinkNest "RecordLeaves" (152 : Nat) "RecordLeaves$RecordThing" "things" "[LRecordLeaves$Thing;" "RecordLeaves") ∈ lw_tbl := List.mem_append_right _ (List.mem_append_right _ (List.mem_append_left _ (List.mem_of_getElem? (i := 118) (by decide +kernel))))
theorem fl_X11_152 : rl_fl RX11 152 6 2 := ⟨RX6, TX6, 3, rfl, by decide, i_X6, Or.inr ⟨"RecordLeaves", mt_358⟩⟩
theorem mt_111 : (Cond.fieldLinkNest "RecordLeaves" (162 : Nat) "RecordLeaves$Tape" "size" "I" "RecordLeaves") ∈ lw_tbl := List.mem_append_right _ (List.mem_append_left _ (List.mem_of_getElem? (i := 111) (by decide +kernel)))
theorem fl_X11_162 : rl_fl RX11 162 9 2 := ⟨RX9, TX9, 4, rfl, by decide, i_X9, Or.inr ⟨"RecordLeaves", mt_111⟩⟩
theorem fp_X11_162 : rl_fp RX11 162 9 2 .int false := ⟨RX9, TX9, 4, tyX9, rfl, by decide, i_X9, tyX9_ok, nmX9, rfl, tyX9_ok 2 (by decide), (fun h => by cases h), Or.inr ⟨rfl, "RecordLeaves", mt_111⟩⟩
theorem mt_107 : (Cond.fieldLinkNest "RecordLeaves" (165 : Nat) "RecordLeaves$Tape" "leaves" "[J" "RecordLeaves") ∈ lw_tbl := List.mem_append_right _ (List.mem_append_left _ (List.mem_of_getElem? (i := 107) (by decide +kernel)))
theorem fl_X11_165 : rl_fl RX11 165 9 0 := ⟨RX9, TX9, 4, rfl, by decide, i_X9, Or.inr ⟨"RecordLeaves", mt_107⟩⟩
theorem mt_556 : (Cond.fieldLinkNest "RecordLeaves" (183 : Nat) "RecordLeaves$Reader" "made" "I" "RecordLeaves") ∈ lw_tbl := List.mem_append_right _ (List.mem_append_right _ (List.mem_append_right _ (List.mem_append_left _ (List.mem_of_getElem? (i := 76) (by decide +kernel)))))
theorem fl_X11_183 : rl_fl RX11 183 5 7 := ⟨RX5, TX5, 8, rfl, by decide, i_X5, Or.inr ⟨"RecordLeaves", mt_556⟩⟩
theorem fp_X11_183 : rl_fp RX11 183 5 7 .int false := ⟨RX5, TX5, 8, tyX5, rfl, by decide, i_X5, tyX5_ok, nmX5, rfl, tyX5_ok 7 (by decide), (fun h => by cases h), Or.inr ⟨rfl, "RecordLeaves", mt_556⟩⟩
theorem mt_554 : (Cond.fieldLinkNest "RecordLeaves" (184 : Nat) "RecordLeaves$Reader" "why" "I" "RecordLeaves") ∈ lw_tbl := List.mem_append_right _ (List.mem_append_right _ (List.mem_append_right _ (List.mem_append_left _ (List.mem_of_getElem? (i := 74) (by decide +kernel)))))
theorem fl_X11_184 : rl_fl RX11 184 5 6 := ⟨RX5, TX5, 8, rfl, by decide, i_X5, Or.inr ⟨"RecordLeaves", mt_554⟩⟩
theorem fp_X11_184 : rl_fp RX11 184 5 6 .int false := ⟨RX5, TX5, 8, tyX5, rfl, by decide, i_X5, tyX5_ok, nmX5, rfl, tyX5_ok 6 (by decide), (fun h => by cases h), Or.inr ⟨rfl, "RecordLeaves", mt_554⟩⟩
theorem mt_134 : (Cond.fieldLink "RecordLeaves" (187 : Nat) "RecordLeaves" "readWell" "I") ∈ lw_tbl := List.mem_append_right _ (List.mem_append_left _ (List.mem_of_getElem? (i := 134) (by decide +kernel)))
theorem mw_134 : (Cond.fieldLink "RecordLeaves" (187 : Nat) "RecordLeaves" "readWell" "I") ∈ rl_G := rl_inG mt_134 rfl
theorem fl_X11_187 : rl_fl RX11 187 10 10 := ⟨RX11, TX11, 12, rfl, by decide, i_X11, Or.inl mw_134⟩
theorem fp_X11_187 : rl_fp RX11 187 10 10 .int false := ⟨RX11, TX11, 12, tyX11, rfl, by decide, i_X11, tyX11_ok, nmX11, rfl, tyX11_ok 10 (by decide), (fun h => by cases h), Or.inl mw_134⟩
theorem mt_135 : (Cond.fieldLink "RecordLeaves" (190 : Nat) "RecordLeaves" "readBadly" "I") ∈ lw_tbl := List.mem_append_right _ (List.mem_append_left _ (List.mem_of_getElem? (i := 135) (by decide +kernel)))
theorem mw_135 : (Cond.fieldLink "RecordLeaves" (190 : Nat) "RecordLeaves" "readBadly" "I") ∈ rl_G := rl_inG mt_135 rfl
theorem fl_X11_190 : rl_fl RX11 190 10 11 := ⟨RX11, TX11, 12, rfl, by decide, i_X11, Or.inl mw_135⟩
theorem fp_X11_190 : rl_fp RX11 190 10 11 .int false := ⟨RX11, TX11, 12, tyX11, rfl, by decide, i_X11, tyX11_ok, nmX11, rfl, tyX11_ok 11 (by decide), (fun h => by cases h), Or.inl mw_135⟩
theorem mt_550 : (Cond.fieldLinkNest "RecordLeaves" (193 : Nat) "RecordLeaves$Reader" "last" "I" "RecordLeaves") ∈ lw_tbl := List.mem_append_right _ (List.mem_append_right _ (List.mem_append_right _ (List.mem_append_left _ (List.mem_of_getElem? (i := 70) (by decide +kernel)))))
theorem fl_X11_193 : rl_fl RX11 193 5 4 := ⟨RX5, TX5, 8, rfl, by decide, i_X5, Or.inr ⟨"RecordLeaves", mt_550⟩⟩
theorem fp_X11_193 : rl_fp RX11 193 5 4 .int false := ⟨RX5, TX5, 8, tyX5, rfl, by decide, i_X5, tyX5_ok, nmX5, rfl, tyX5_ok 4 (by decide), (fun h => by cases h), Or.inr ⟨rfl, "RecordLeaves", mt_550⟩⟩
theorem mt_552 : (Cond.fieldLinkNest "RecordLeaves" (196 : Nat) "RecordLeaves$Reader" "open" "I" "RecordLeaves") ∈ lw_tbl := List.mem_append_right _ (List.mem_append_right _ (List.mem_append_right _ (List.mem_append_left _ (List.mem_of_getElem? (i := 72) (by decide +kernel)))))
theorem fl_X11_196 : rl_fl RX11 196 5 5 := ⟨RX5, TX5, 8, rfl, by decide, i_X5, Or.inr ⟨"RecordLeaves", mt_552⟩⟩
theorem fp_X11_196 : rl_fp RX11 196 5 5 .int false := ⟨RX5, TX5, 8, tyX5, rfl, by decide, i_X5, tyX5_ok, nmX5, rfl, tyX5_ok 5 (by decide), (fun h => by cases h), Or.inr ⟨rfl, "RecordLeaves", mt_552⟩⟩
theorem mt_130 : (Cond.fieldLink "RecordLeaves" (199 : Nat) "RecordLeaves" "causeWhy" "I") ∈ lw_tbl := List.mem_append_right _ (List.mem_append_left _ (List.mem_of_getElem? (i := 130) (by decide +kernel)))
theorem mw_130 : (Cond.fieldLink "RecordLeaves" (199 : Nat) "RecordLeaves" "causeWhy" "I") ∈ rl_G := rl_inG mt_130 rfl
theorem fl_X11_199 : rl_fl RX11 199 10 6 := ⟨RX11, TX11, 12, rfl, by decide, i_X11, Or.inl mw_130⟩
theorem fp_X11_199 : rl_fp RX11 199 10 6 .int false := ⟨RX11, TX11, 12, tyX11, rfl, by decide, i_X11, tyX11_ok, nmX11, rfl, tyX11_ok 6 (by decide), (fun h => by cases h), Or.inl mw_130⟩
theorem mt_132 : (Cond.fieldLink "RecordLeaves" (202 : Nat) "RecordLeaves" "causeRecords" "I") ∈ lw_tbl := List.mem_append_right _ (List.mem_append_left _ (List.mem_of_getElem? (i := 132) (by decide +kernel)))
theorem mw_132 : (Cond.fieldLink "RecordLeaves" (202 : Nat) "RecordLeaves" "causeRecords" "I") ∈ rl_G := rl_inG mt_132 rfl
theorem fl_X11_202 : rl_fl RX11 202 10 8 := ⟨RX11, TX11, 12, rfl, by decide, i_X11, Or.inl mw_132⟩
theorem fp_X11_202 : rl_fp RX11 202 10 8 .int false := ⟨RX11, TX11, 12, tyX11, rfl, by decide, i_X11, tyX11_ok, nmX11, rfl, tyX11_ok 8 (by decide), (fun h => by cases h), Or.inl mw_132⟩
theorem mt_348 : (Cond.fieldLinkNest "RecordLeaves" (219 : Nat) "RecordLeaves$RecordThing" "its" "LRecordLeaves$RecordVersion;" "RecordLeaves") ∈ lw_tbl := List.mem_append_right _ (List.mem_append_right _ (List.mem_append_left _ (List.mem_of_getElem? (i := 108) (by decide +kernel))))
theorem fl_X11_219 : rl_fl RX11 219 6 0 := ⟨RX6, TX6, 3, rfl, by decide, i_X6, Or.inr ⟨"RecordLeaves", mt_348⟩⟩
theorem mt_268 : (Cond.fieldLink "RecordLeaves$Check" (9 : Nat) "RecordLeaves$Check" "how" "I") ∈ lw_tbl := List.mem_append_right _ (List.mem_append_right _ (List.mem_append_left _ (List.mem_of_getElem? (i := 28) (by decide +kernel))))
theorem mw_268 : (Cond.fieldLink "RecordLeaves$Check" (9 : Nat) "RecordLeaves$Check" "how" "I") ∈ rl_G := rl_inG mt_268 rfl
theorem fl_X0_9 : rl_fl RX0 9 0 0 := ⟨RX0, TX0, 3, rfl, by decide, i_X0, Or.inl mw_268⟩
theorem fp_X0_9 : rl_fp RX0 9 0 0 .int true := ⟨RX0, TX0, 3, tyX0, rfl, by decide, i_X0, tyX0_ok, nmX0, rfl, tyX0_ok 0 (by decide), (fun _ => rfl), Or.inl mw_268⟩
theorem mt_269 : (Cond.fieldLink "RecordLeaves$Check" (15 : Nat) "RecordLeaves$Check" "a" "I") ∈ lw_tbl := List.mem_append_right _ (List.mem_append_right _ (List.mem_append_left _ (List.mem_of_getElem? (i := 29) (by decide +kernel))))
theorem mw_269 : (Cond.fieldLink "RecordLeaves$Check" (15 : Nat) "RecordLeaves$Check" "a" "I") ∈ rl_G := rl_inG mt_269 rfl
theorem fl_X0_15 : rl_fl RX0 15 0 1 := ⟨RX0, TX0, 3, rfl, by decide, i_X0, Or.inl mw_269⟩
theorem fp_X0_15 : rl_fp RX0 15 0 1 .int true := ⟨RX0, TX0, 3, tyX0, rfl, by decide, i_X0, tyX0_ok, nmX0, rfl, tyX0_ok 1 (by decide), (fun _ => rfl), Or.inl mw_269⟩
theorem mt_270 : (Cond.fieldLink "RecordLeaves$Check" (18 : Nat) "RecordLeaves$Check" "b" "I") ∈ lw_tbl := List.mem_append_right _ (List.mem_append_right _ (List.mem_append_left _ (List.mem_of_getElem? (i := 30) (by decide +kernel))))
theorem mw_270 : (Cond.fieldLink "RecordLeaves$Check" (18 : Nat) "RecordLeaves$Check" "b" "I") ∈ rl_G := rl_inG mt_270 rfl
theorem fl_X0_18 : rl_fl RX0 18 0 2 := ⟨RX0, TX0, 3, rfl, by decide, i_X0, Or.inl mw_270⟩
theorem fp_X0_18 : rl_fp RX0 18 0 2 .int true := ⟨RX0, TX0, 3, tyX0, rfl, by decide, i_X0, tyX0_ok, nmX0, rfl, tyX0_ok 2 (by decide), (fun _ => rfl), Or.inl mw_270⟩
theorem mt_350 : (Cond.fieldLinkNest "RecordLeaves$Check" (21 : Nat) "RecordLeaves$RecordThing" "numbers" "[J" "RecordLeaves") ∈ lw_tbl := List.mem_append_right _ (List.mem_append_right _ (List.mem_append_left _ (List.mem_of_getElem? (i := 110) (by decide +kernel))))
theorem fl_X0_21 : rl_fl RX0 21 6 1 := ⟨RX6, TX6, 3, rfl, by decide, i_X6, Or.inr ⟨"RecordLeaves", mt_350⟩⟩
theorem mt_355 : (Cond.fieldLinkNest "RecordLeaves$Check" (35 : Nat) "RecordLeaves$RecordThing" "things" "[LRecordLeaves$Thing;" "RecordLeaves") ∈ lw_tbl := List.mem_append_right _ (List.mem_append_right _ (List.mem_append_left _ (List.mem_of_getElem? (i := 115) (by decide +kernel))))
theorem fl_X0_35 : rl_fl RX0 35 6 2 := ⟨RX6, TX6, 3, rfl, by decide, i_X6, Or.inr ⟨"RecordLeaves", mt_355⟩⟩
theorem mt_300 : (Cond.fieldLinkNest "RecordLeaves$Check" (53 : Nat) "RecordLeaves$Row" "items" "[I" "RecordLeaves") ∈ lw_tbl := List.mem_append_right _ (List.mem_append_right _ (List.mem_append_left _ (List.mem_of_getElem? (i := 60) (by decide +kernel))))
theorem fl_X0_53 : rl_fl RX0 53 8 0 := ⟨RX8, TX8, 1, rfl, by decide, i_X8, Or.inr ⟨"RecordLeaves", mt_300⟩⟩
theorem mt_195 : (Cond.fieldLinkNest "RecordLeaves$Check" (67 : Nat) "RecordLeaves$Constant" "order" "I" "RecordLeaves") ∈ lw_tbl := List.mem_append_right _ (List.mem_append_left _ (List.mem_of_getElem? (i := 195) (by decide +kernel)))
theorem fl_X0_67 : rl_fl RX0 67 1 2 := ⟨RX1, TX1, 4, rfl, by decide, i_X1, Or.inr ⟨"RecordLeaves", mt_195⟩⟩
theorem mt_189 : (Cond.fieldLink "RecordLeaves$Constant" (9 : Nat) "RecordLeaves$Constant" "its" "LRecordLeaves$EnumVersion;") ∈ lw_tbl := List.mem_append_right _ (List.mem_append_left _ (List.mem_of_getElem? (i := 189) (by decide +kernel)))
theorem mw_189 : (Cond.fieldLink "RecordLeaves$Constant" (9 : Nat) "RecordLeaves$Constant" "its" "LRecordLeaves$EnumVersion;") ∈ rl_G := rl_inG mt_189 rfl
theorem fl_X1_9 : rl_fl RX1 9 1 0 := ⟨RX1, TX1, 4, rfl, by decide, i_X1, Or.inl mw_189⟩
theorem fp_X1_9 : rl_fp RX1 9 1 0 (.object "RecordLeaves$EnumVersion") true := ⟨RX1, TX1, 4, tyX1, rfl, by decide, i_X1, tyX1_ok, nmX1, rfl, tyX1_ok 0 (by decide), (fun _ => rfl), Or.inl mw_189⟩
theorem mt_190 : (Cond.fieldLink "RecordLeaves$Constant" (15 : Nat) "RecordLeaves$Constant" "name" "I") ∈ lw_tbl := List.mem_append_right _ (List.mem_append_left _ (List.mem_of_getElem? (i := 190) (by decide +kernel)))
theorem mw_190 : (Cond.fieldLink "RecordLeaves$Constant" (15 : Nat) "RecordLeaves$Constant" "name" "I") ∈ rl_G := rl_inG mt_190 rfl
theorem fl_X1_15 : rl_fl RX1 15 1 1 := ⟨RX1, TX1, 4, rfl, by decide, i_X1, Or.inl mw_190⟩
theorem fp_X1_15 : rl_fp RX1 15 1 1 .int true := ⟨RX1, TX1, 4, tyX1, rfl, by decide, i_X1, tyX1_ok, nmX1, rfl, tyX1_ok 1 (by decide), (fun _ => rfl), Or.inl mw_190⟩
theorem mt_193 : (Cond.fieldLink "RecordLeaves$Constant" (19 : Nat) "RecordLeaves$Constant" "order" "I") ∈ lw_tbl := List.mem_append_right _ (List.mem_append_left _ (List.mem_of_getElem? (i := 193) (by decide +kernel)))
theorem mw_193 : (Cond.fieldLink "RecordLeaves$Constant" (19 : Nat) "RecordLeaves$Constant" "order" "I") ∈ rl_G := rl_inG mt_193 rfl
theorem fl_X1_19 : rl_fl RX1 19 1 2 := ⟨RX1, TX1, 4, rfl, by decide, i_X1, Or.inl mw_193⟩
theorem fp_X1_19 : rl_fp RX1 19 1 2 .int true := ⟨RX1, TX1, 4, tyX1, rfl, by decide, i_X1, tyX1_ok, nmX1, rfl, tyX1_ok 2 (by decide), (fun _ => rfl), Or.inl mw_193⟩
theorem mt_196 : (Cond.fieldLink "RecordLeaves$Constant" (22 : Nat) "RecordLeaves$Constant" "loud" "Z") ∈ lw_tbl := List.mem_append_right _ (List.mem_append_left _ (List.mem_of_getElem? (i := 196) (by decide +kernel)))
theorem mw_196 : (Cond.fieldLink "RecordLeaves$Constant" (22 : Nat) "RecordLeaves$Constant" "loud" "Z") ∈ rl_G := rl_inG mt_196 rfl
theorem fl_X1_22 : rl_fl RX1 22 1 3 := ⟨RX1, TX1, 4, rfl, by decide, i_X1, Or.inl mw_196⟩
theorem fp_X1_22 : rl_fp RX1 22 1 3 .boolean true := ⟨RX1, TX1, 4, tyX1, rfl, by decide, i_X1, tyX1_ok, nmX1, rfl, tyX1_ok 3 (by decide), (fun _ => rfl), Or.inl mw_196⟩
theorem mt_40 : (Cond.fieldLinkNest "RecordLeaves$Constant" (26 : Nat) "RecordLeaves$EnumVersion" "kind" "I" "RecordLeaves") ∈ lw_tbl := List.mem_append_right _ (List.mem_append_left _ (List.mem_of_getElem? (i := 40) (by decide +kernel)))
theorem fl_X1_26 : rl_fl RX1 26 2 0 := ⟨RX2, TX2, 4, rfl, by decide, i_X2, Or.inr ⟨"RecordLeaves", mt_40⟩⟩
theorem mt_42 : (Cond.fieldLinkNest "RecordLeaves$Constant" (31 : Nat) "RecordLeaves$EnumVersion" "version" "I" "RecordLeaves") ∈ lw_tbl := List.mem_append_right _ (List.mem_append_left _ (List.mem_of_getElem? (i := 42) (by decide +kernel)))
theorem fl_X1_31 : rl_fl RX1 31 2 1 := ⟨RX2, TX2, 4, rfl, by decide, i_X2, Or.inr ⟨"RecordLeaves", mt_42⟩⟩
theorem mt_39 : (Cond.fieldLink "RecordLeaves$EnumVersion" (9 : Nat) "RecordLeaves$EnumVersion" "kind" "I") ∈ lw_tbl := List.mem_append_right _ (List.mem_append_left _ (List.mem_of_getElem? (i := 39) (by decide +kernel)))
theorem mw_39 : (Cond.fieldLink "RecordLeaves$EnumVersion" (9 : Nat) "RecordLeaves$EnumVersion" "kind" "I") ∈ rl_G := rl_inG mt_39 rfl
theorem fl_X2_9 : rl_fl RX2 9 2 0 := ⟨RX2, TX2, 4, rfl, by decide, i_X2, Or.inl mw_39⟩
theorem fp_X2_9 : rl_fp RX2 9 2 0 .int true := ⟨RX2, TX2, 4, tyX2, rfl, by decide, i_X2, tyX2_ok, nmX2, rfl, tyX2_ok 0 (by decide), (fun _ => rfl), Or.inl mw_39⟩
theorem mt_41 : (Cond.fieldLink "RecordLeaves$EnumVersion" (15 : Nat) "RecordLeaves$EnumVersion" "version" "I") ∈ lw_tbl := List.mem_append_right _ (List.mem_append_left _ (List.mem_of_getElem? (i := 41) (by decide +kernel)))
theorem mw_41 : (Cond.fieldLink "RecordLeaves$EnumVersion" (15 : Nat) "RecordLeaves$EnumVersion" "version" "I") ∈ rl_G := rl_inG mt_41 rfl
theorem fl_X2_15 : rl_fl RX2 15 2 1 := ⟨RX2, TX2, 4, rfl, by decide, i_X2, Or.inl mw_41⟩
theorem fp_X2_15 : rl_fp RX2 15 2 1 .int true := ⟨RX2, TX2, 4, tyX2, rfl, by decide, i_X2, tyX2_ok, nmX2, rfl, tyX2_ok 1 (by decide), (fun _ => rfl), Or.inl mw_41⟩
theorem mt_43 : (Cond.fieldLink "RecordLeaves$EnumVersion" (20 : Nat) "RecordLeaves$EnumVersion" "constants" "[LRecordLeaves$Constant;") ∈ lw_tbl := List.mem_append_right _ (List.mem_append_left _ (List.mem_of_getElem? (i := 43) (by decide +kernel)))
theorem mw_43 : (Cond.fieldLink "RecordLeaves$EnumVersion" (20 : Nat) "RecordLeaves$EnumVersion" "constants" "[LRecordLeaves$Constant;") ∈ rl_G := rl_inG mt_43 rfl
theorem fl_X2_20 : rl_fl RX2 20 2 2 := ⟨RX2, TX2, 4, rfl, by decide, i_X2, Or.inl mw_43⟩
theorem fp_X2_20 : rl_fp RX2 20 2 2 (.array (.object "RecordLeaves$Constant")) true := ⟨RX2, TX2, 4, tyX2, rfl, by decide, i_X2, tyX2_ok, nmX2, rfl, tyX2_ok 2 (by decide), (fun _ => rfl), Or.inl mw_43⟩
theorem mt_44 : (Cond.fieldLink "RecordLeaves$EnumVersion" (24 : Nat) "RecordLeaves$EnumVersion" "constantCount" "I") ∈ lw_tbl := List.mem_append_right _ (List.mem_append_left _ (List.mem_of_getElem? (i := 44) (by decide +kernel)))
theorem mw_44 : (Cond.fieldLink "RecordLeaves$EnumVersion" (24 : Nat) "RecordLeaves$EnumVersion" "constantCount" "I") ∈ rl_G := rl_inG mt_44 rfl
theorem fl_X2_24 : rl_fl RX2 24 2 3 := ⟨RX2, TX2, 4, rfl, by decide, i_X2, Or.inl mw_44⟩
theorem fp_X2_24 : rl_fp RX2 24 2 3 .int false := ⟨RX2, TX2, 4, tyX2, rfl, by decide, i_X2, tyX2_ok, nmX2, rfl, tyX2_ok 3 (by decide), (fun h => by cases h), Or.inl mw_44⟩
theorem mt_191 : (Cond.fieldLinkNest "RecordLeaves$EnumVersion" (27 : Nat) "RecordLeaves$Constant" "name" "I" "RecordLeaves") ∈ lw_tbl := List.mem_append_right _ (List.mem_append_left _ (List.mem_of_getElem? (i := 191) (by decide +kernel)))
theorem fl_X2_27 : rl_fl RX2 27 1 1 := ⟨RX1, TX1, 4, rfl, by decide, i_X1, Or.inr ⟨"RecordLeaves", mt_191⟩⟩
theorem mt_90 : (Cond.fieldLink "RecordLeaves$Kinds" (11 : Nat) "RecordLeaves$Kinds" "enums" "[LRecordLeaves$EnumVersion;") ∈ lw_tbl := List.mem_append_right _ (List.mem_append_left _ (List.mem_of_getElem? (i := 90) (by decide +kernel)))
theorem mw_90 : (Cond.fieldLink "RecordLeaves$Kinds" (11 : Nat) "RecordLeaves$Kinds" "enums" "[LRecordLeaves$EnumVersion;") ∈ rl_G := rl_inG mt_90 rfl
theorem fl_X3_11 : rl_fl RX3 11 3 0 := ⟨RX3, TX3, 2, rfl, by decide, i_X3, Or.inl mw_90⟩
theorem fp_X3_11 : rl_fp RX3 11 3 0 (.array (.object "RecordLeaves$EnumVersion")) true := ⟨RX3, TX3, 2, tyX3, rfl, by decide, i_X3, tyX3_ok, nmX3, rfl, tyX3_ok 0 (by decide), (fun _ => rfl), Or.inl mw_90⟩
theorem mt_91 : (Cond.fieldLink "RecordLeaves$Kinds" (22 : Nat) "RecordLeaves$Kinds" "records" "[LRecordLeaves$RecordVersion;") ∈ lw_tbl := List.mem_append_right _ (List.mem_append_left _ (List.mem_of_getElem? (i := 91) (by decide +kernel)))
theorem mw_91 : (Cond.fieldLink "RecordLeaves$Kinds" (22 : Nat) "RecordLeaves$Kinds" "records" "[LRecordLeaves$RecordVersion;") ∈ rl_G := rl_inG mt_91 rfl
theorem fl_X3_22 : rl_fl RX3 22 3 1 := ⟨RX3, TX3, 2, rfl, by decide, i_X3, Or.inl mw_91⟩
theorem fp_X3_22 : rl_fp RX3 22 3 1 (.array (.object "RecordLeaves$RecordVersion")) true := ⟨RX3, TX3, 2, tyX3, rfl, by decide, i_X3, tyX3_ok, nmX3, rfl, tyX3_ok 1 (by decide), (fun _ => rfl), Or.inl mw_91⟩
theorem mt_229 : (Cond.fieldLink "RecordLeaves$Part" (9 : Nat) "RecordLeaves$Part" "name" "I") ∈ lw_tbl := List.mem_append_right _ (List.mem_append_left _ (List.mem_of_getElem? (i := 229) (by decide +kernel)))
theorem mw_229 : (Cond.fieldLink "RecordLeaves$Part" (9 : Nat) "RecordLeaves$Part" "name" "I") ∈ rl_G := rl_inG mt_229 rfl
theorem fl_X4_9 : rl_fl RX4 9 4 0 := ⟨RX4, TX4, 3, rfl, by decide, i_X4, Or.inl mw_229⟩
theorem fp_X4_9 : rl_fp RX4 9 4 0 .int true := ⟨RX4, TX4, 3, tyX4, rfl, by decide, i_X4, tyX4_ok, nmX4, rfl, tyX4_ok 0 (by decide), (fun _ => rfl), Or.inl mw_229⟩
theorem mt_232 : (Cond.fieldLink "RecordLeaves$Part" (15 : Nat) "RecordLeaves$Part" "sort" "I") ∈ lw_tbl := List.mem_append_right _ (List.mem_append_left _ (List.mem_of_getElem? (i := 232) (by decide +kernel)))
theorem mw_232 : (Cond.fieldLink "RecordLeaves$Part" (15 : Nat) "RecordLeaves$Part" "sort" "I") ∈ rl_G := rl_inG mt_232 rfl
theorem fl_X4_15 : rl_fl RX4 15 4 1 := ⟨RX4, TX4, 3, rfl, by decide, i_X4, Or.inl mw_232⟩
theorem fp_X4_15 : rl_fp RX4 15 4 1 .int true := ⟨RX4, TX4, 3, tyX4, rfl, by decide, i_X4, tyX4_ok, nmX4, rfl, tyX4_ok 1 (by decide), (fun _ => rfl), Or.inl mw_232⟩
theorem mt_237 : (Cond.fieldLink "RecordLeaves$Part" (18 : Nat) "RecordLeaves$Part" "of" "I") ∈ lw_tbl := List.mem_append_right _ (List.mem_append_left _ (List.mem_of_getElem? (i := 237) (by decide +kernel)))
theorem mw_237 : (Cond.fieldLink "RecordLeaves$Part" (18 : Nat) "RecordLeaves$Part" "of" "I") ∈ rl_G := rl_inG mt_237 rfl
theorem fl_X4_18 : rl_fl RX4 18 4 2 := ⟨RX4, TX4, 3, rfl, by decide, i_X4, Or.inl mw_237⟩
theorem fp_X4_18 : rl_fp RX4 18 4 2 .int true := ⟨RX4, TX4, 3, tyX4, rfl, by decide, i_X4, tyX4_ok, nmX4, rfl, tyX4_ok 2 (by decide), (fun _ => rfl), Or.inl mw_237⟩
theorem mt_545 : (Cond.fieldLink "RecordLeaves$Reader" (9 : Nat) "RecordLeaves$Reader" "kinds" "LRecordLeaves$Kinds;") ∈ lw_tbl := List.mem_append_right _ (List.mem_append_right _ (List.mem_append_right _ (List.mem_append_left _ (List.mem_of_getElem? (i := 65) (by decide +kernel)))))
theorem mw_545 : (Cond.fieldLink "RecordLeaves$Reader" (9 : Nat) "RecordLeaves$Reader" "kinds" "LRecordLeaves$Kinds;") ∈ rl_G := rl_inG mt_545 rfl
theorem fl_X5_9 : rl_fl RX5 9 5 0 := ⟨RX5, TX5, 8, rfl, by decide, i_X5, Or.inl mw_545⟩
theorem fp_X5_9 : rl_fp RX5 9 5 0 (.object "RecordLeaves$Kinds") true := ⟨RX5, TX5, 8, tyX5, rfl, by decide, i_X5, tyX5_ok, nmX5, rfl, tyX5_ok 0 (by decide), (fun _ => rfl), Or.inl mw_545⟩
theorem mt_546 : (Cond.fieldLink "RecordLeaves$Reader" (15 : Nat) "RecordLeaves$Reader" "tape" "LRecordLeaves$Tape;") ∈ lw_tbl := List.mem_append_right _ (List.mem_append_right _ (List.mem_append_right _ (List.mem_append_left _ (List.mem_of_getElem? (i := 66) (by decide +kernel)))))
theorem mw_546 : (Cond.fieldLink "RecordLeaves$Reader" (15 : Nat) "RecordLeaves$Reader" "tape" "LRecordLeaves$Tape;") ∈ rl_G := rl_inG mt_546 rfl
theorem fl_X5_15 : rl_fl RX5 15 5 1 := ⟨RX5, TX5, 8, rfl, by decide, i_X5, Or.inl mw_546⟩
theorem fp_X5_15 : rl_fp RX5 15 5 1 (.object "RecordLeaves$Tape") true := ⟨RX5, TX5, 8, tyX5, rfl, by decide, i_X5, tyX5_ok, nmX5, rfl, tyX5_ok 1 (by decide), (fun _ => rfl), Or.inl mw_546⟩
theorem mt_547 : (Cond.fieldLink "RecordLeaves$Reader" (19 : Nat) "RecordLeaves$Reader" "version" "I") ∈ lw_tbl := List.mem_append_right _ (List.mem_append_right _ (List.mem_append_right _ (List.mem_append_left _ (List.mem_of_getElem? (i := 67) (by decide +kernel)))))
theorem mw_547 : (Cond.fieldLink "RecordLeaves$Reader" (19 : Nat) "RecordLeaves$Reader" "version" "I") ∈ rl_G := rl_inG mt_547 rfl
theorem fl_X5_19 : rl_fl RX5 19 5 2 := ⟨RX5, TX5, 8, rfl, by decide, i_X5, Or.inl mw_547⟩
theorem fp_X5_19 : rl_fp RX5 19 5 2 .int true := ⟨RX5, TX5, 8, tyX5, rfl, by decide, i_X5, tyX5_ok, nmX5, rfl, tyX5_ok 2 (by decide), (fun _ => rfl), Or.inl mw_547⟩
theorem mt_553 : (Cond.fieldLink "RecordLeaves$Reader" (23 : Nat) "RecordLeaves$Reader" "why" "I") ∈ lw_tbl := List.mem_append_right _ (List.mem_append_right _ (List.mem_append_right _ (List.mem_append_left _ (List.mem_of_getElem? (i := 73) (by decide +kernel)))))
theorem mw_553 : (Cond.fieldLink "RecordLeaves$Reader" (23 : Nat) "RecordLeaves$Reader" "why" "I") ∈ rl_G := rl_inG mt_553 rfl
theorem fl_X5_23 : rl_fl RX5 23 5 6 := ⟨RX5, TX5, 8, rfl, by decide, i_X5, Or.inl mw_553⟩
theorem fp_X5_23 : rl_fp RX5 23 5 6 .int false := ⟨RX5, TX5, 8, tyX5, rfl, by decide, i_X5, tyX5_ok, nmX5, rfl, tyX5_ok 6 (by decide), (fun h => by cases h), Or.inl mw_553⟩
theorem mt_548 : (Cond.fieldLink "RecordLeaves$Reader" (26 : Nat) "RecordLeaves$Reader" "next" "I") ∈ lw_tbl := List.mem_append_right _ (List.mem_append_right _ (List.mem_append_right _ (List.mem_append_left _ (List.mem_of_getElem? (i := 68) (by decide +kernel)))))
theorem mw_548 : (Cond.fieldLink "RecordLeaves$Reader" (26 : Nat) "RecordLeaves$Reader" "next" "I") ∈ rl_G := rl_inG mt_548 rfl
theorem fl_X5_26 : rl_fl RX5 26 5 3 := ⟨RX5, TX5, 8, rfl, by decide, i_X5, Or.inl mw_548⟩
theorem fp_X5_26 : rl_fp RX5 26 5 3 .int false := ⟨RX5, TX5, 8, tyX5, rfl, by decide, i_X5, tyX5_ok, nmX5, rfl, tyX5_ok 3 (by decide), (fun h => by cases h), Or.inl mw_548⟩
theorem mt_549 : (Cond.fieldLink "RecordLeaves$Reader" (29 : Nat) "RecordLeaves$Reader" "last" "I") ∈ lw_tbl := List.mem_append_right _ (List.mem_append_right _ (List.mem_append_right _ (List.mem_append_left _ (List.mem_of_getElem? (i := 69) (by decide +kernel)))))
theorem mw_549 : (Cond.fieldLink "RecordLeaves$Reader" (29 : Nat) "RecordLeaves$Reader" "last" "I") ∈ rl_G := rl_inG mt_549 rfl
theorem fl_X5_29 : rl_fl RX5 29 5 4 := ⟨RX5, TX5, 8, rfl, by decide, i_X5, Or.inl mw_549⟩
theorem fp_X5_29 : rl_fp RX5 29 5 4 .int false := ⟨RX5, TX5, 8, tyX5, rfl, by decide, i_X5, tyX5_ok, nmX5, rfl, tyX5_ok 4 (by decide), (fun h => by cases h), Or.inl mw_549⟩
theorem mt_110 : (Cond.fieldLinkNest "RecordLeaves$Reader" (32 : Nat) "RecordLeaves$Tape" "size" "I" "RecordLeaves") ∈ lw_tbl := List.mem_append_right _ (List.mem_append_left _ (List.mem_of_getElem? (i := 110) (by decide +kernel)))
theorem fl_X5_32 : rl_fl RX5 32 9 2 := ⟨RX9, TX9, 4, rfl, by decide, i_X9, Or.inr ⟨"RecordLeaves", mt_110⟩⟩
theorem fp_X5_32 : rl_fp RX5 32 9 2 .int false := ⟨RX9, TX9, 4, tyX9, rfl, by decide, i_X9, tyX9_ok, nmX9, rfl, tyX9_ok 2 (by decide), (fun h => by cases h), Or.inr ⟨rfl, "RecordLeaves", mt_110⟩⟩
theorem mt_106 : (Cond.fieldLinkNest "RecordLeaves$Reader" (37 : Nat) "RecordLeaves$Tape" "leaves" "[J" "RecordLeaves") ∈ lw_tbl := List.mem_append_right _ (List.mem_append_left _ (List.mem_of_getElem? (i := 106) (by decide +kernel)))
theorem fl_X5_37 : rl_fl RX5 37 9 0 := ⟨RX9, TX9, 4, rfl, by decide, i_X9, Or.inr ⟨"RecordLeaves", mt_106⟩⟩
theorem mt_551 : (Cond.fieldLink "RecordLeaves$Reader" (41 : Nat) "RecordLeaves$Reader" "open" "I") ∈ lw_tbl := List.mem_append_right _ (List.mem_append_right _ (List.mem_append_right _ (List.mem_append_left _ (List.mem_of_getElem? (i := 71) (by decide +kernel)))))
theorem mw_551 : (Cond.fieldLink "RecordLeaves$Reader" (41 : Nat) "RecordLeaves$Reader" "open" "I") ∈ rl_G := rl_inG mt_551 rfl
theorem fl_X5_41 : rl_fl RX5 41 5 5 := ⟨RX5, TX5, 8, rfl, by decide, i_X5, Or.inl mw_551⟩
theorem fp_X5_41 : rl_fp RX5 41 5 5 .int false := ⟨RX5, TX5, 8, tyX5, rfl, by decide, i_X5, tyX5_ok, nmX5, rfl, tyX5_ok 5 (by decide), (fun h => by cases h), Or.inl mw_551⟩
theorem mt_347 : (Cond.fieldLinkNest "RecordLeaves$Reader" (79 : Nat) "RecordLeaves$RecordThing" "its" "LRecordLeaves$RecordVersion;" "RecordLeaves") ∈ lw_tbl := List.mem_append_right _ (List.mem_append_right _ (List.mem_append_left _ (List.mem_of_getElem? (i := 107) (by decide +kernel))))
theorem fl_X5_79 : rl_fl RX5 79 6 0 := ⟨RX6, TX6, 3, rfl, by decide, i_X6, Or.inr ⟨"RecordLeaves", mt_347⟩⟩
theorem mt_555 : (Cond.fieldLink "RecordLeaves$Reader" (89 : Nat) "RecordLeaves$Reader" "made" "I") ∈ lw_tbl := List.mem_append_right _ (List.mem_append_right _ (List.mem_append_right _ (List.mem_append_left _ (List.mem_of_getElem? (i := 75) (by decide +kernel)))))
theorem mw_555 : (Cond.fieldLink "RecordLeaves$Reader" (89 : Nat) "RecordLeaves$Reader" "made" "I") ∈ rl_G := rl_inG mt_555 rfl
theorem fl_X5_89 : rl_fl RX5 89 5 7 := ⟨RX5, TX5, 8, rfl, by decide, i_X5, Or.inl mw_555⟩
theorem fp_X5_89 : rl_fp RX5 89 5 7 .int false := ⟨RX5, TX5, 8, tyX5, rfl, by decide, i_X5, tyX5_ok, nmX5, rfl, tyX5_ok 7 (by decide), (fun h => by cases h), Or.inl mw_555⟩
theorem mt_72 : (Cond.fieldLinkNest "RecordLeaves$Reader" (98 : Nat) "RecordLeaves$RecordVersion" "parts" "[LRecordLeaves$Part;" "RecordLeaves") ∈ lw_tbl := List.mem_append_right _ (List.mem_append_left _ (List.mem_of_getElem? (i := 72) (by decide +kernel)))
theorem fl_X5_98 : rl_fl RX5 98 7 2 := ⟨RX7, TX7, 6, rfl, by decide, i_X7, Or.inr ⟨"RecordLeaves", mt_72⟩⟩
theorem mt_236 : (Cond.fieldLinkNest "RecordLeaves$Reader" (102 : Nat) "RecordLeaves$Part" "sort" "I" "RecordLeaves") ∈ lw_tbl := List.mem_append_right _ (List.mem_append_left _ (List.mem_of_getElem? (i := 236) (by decide +kernel)))
theorem fl_X5_102 : rl_fl RX5 102 4 1 := ⟨RX4, TX4, 3, rfl, by decide, i_X4, Or.inr ⟨"RecordLeaves", mt_236⟩⟩
theorem mt_238 : (Cond.fieldLinkNest "RecordLeaves$Reader" (129 : Nat) "RecordLeaves$Part" "of" "I" "RecordLeaves") ∈ lw_tbl := List.mem_append_right _ (List.mem_append_left _ (List.mem_of_getElem? (i := 238) (by decide +kernel)))
theorem fl_X5_129 : rl_fl RX5 129 4 2 := ⟨RX4, TX4, 3, rfl, by decide, i_X4, Or.inr ⟨"RecordLeaves", mt_238⟩⟩
theorem mt_303 : (Cond.fieldLinkNest "RecordLeaves$Reader" (148 : Nat) "RecordLeaves$Row" "items" "[I" "RecordLeaves") ∈ lw_tbl := List.mem_append_right _ (List.mem_append_right _ (List.mem_append_left _ (List.mem_of_getElem? (i := 63) (by decide +kernel))))
theorem fl_X5_148 : rl_fl RX5 148 8 0 := ⟨RX8, TX8, 1, rfl, by decide, i_X8, Or.inr ⟨"RecordLeaves", mt_303⟩⟩
theorem mt_345 : (Cond.fieldLink "RecordLeaves$RecordThing" (9 : Nat) "RecordLeaves$RecordThing" "its" "LRecordLeaves$RecordVersion;") ∈ lw_tbl := List.mem_append_right _ (List.mem_append_right _ (List.mem_append_left _ (List.mem_of_getElem? (i := 105) (by decide +kernel))))
theorem mw_345 : (Cond.fieldLink "RecordLeaves$RecordThing" (9 : Nat) "RecordLeaves$RecordThing" "its" "LRecordLeaves$RecordVersion;") ∈ rl_G := rl_inG mt_345 rfl
theorem fl_X6_9 : rl_fl RX6 9 6 0 := ⟨RX6, TX6, 3, rfl, by decide, i_X6, Or.inl mw_345⟩
theorem fp_X6_9 : rl_fp RX6 9 6 0 (.object "RecordLeaves$RecordVersion") true := ⟨RX6, TX6, 3, tyX6, rfl, by decide, i_X6, tyX6_ok, nmX6, rfl, tyX6_ok 0 (by decide), (fun _ => rfl), Or.inl mw_345⟩
theorem mt_74 : (Cond.fieldLinkNest "RecordLeaves$RecordThing" (15 : Nat) "RecordLeaves$RecordVersion" "partCount" "I" "RecordLeaves") ∈ lw_tbl := List.mem_append_right _ (List.mem_append_left _ (List.mem_of_getElem? (i := 74) (by decide +kernel)))
theorem fl_X6_15 : rl_fl RX6 15 7 4 := ⟨RX7, TX7, 6, rfl, by decide, i_X7, Or.inr ⟨"RecordLeaves", mt_74⟩⟩
theorem fp_X6_15 : rl_fp RX6 15 7 4 .int false := ⟨RX7, TX7, 6, tyX7, rfl, by decide, i_X7, tyX7_ok, nmX7, rfl, tyX7_ok 4 (by decide), (fun h => by cases h), Or.inr ⟨rfl, "RecordLeaves", mt_74⟩⟩
theorem mt_349 : (Cond.fieldLink "RecordLeaves$RecordThing" (21 : Nat) "RecordLeaves$RecordThing" "numbers" "[J") ∈ lw_tbl := List.mem_append_right _ (List.mem_append_right _ (List.mem_append_left _ (List.mem_of_getElem? (i := 109) (by decide +kernel))))
theorem mw_349 : (Cond.fieldLink "RecordLeaves$RecordThing" (21 : Nat) "RecordLeaves$RecordThing" "numbers" "[J") ∈ rl_G := rl_inG mt_349 rfl
theorem fl_X6_21 : rl_fl RX6 21 6 1 := ⟨RX6, TX6, 3, rfl, by decide, i_X6, Or.inl mw_349⟩
theorem fp_X6_21 : rl_fp RX6 21 6 1 (.array .long) true := ⟨RX6, TX6, 3, tyX6, rfl, by decide, i_X6, tyX6_ok, nmX6, rfl, tyX6_ok 1 (by decide), (fun _ => rfl), Or.inl mw_349⟩
theorem mt_354 : (Cond.fieldLink "RecordLeaves$RecordThing" (25 : Nat) "RecordLeaves$RecordThing" "things" "[LRecordLeaves$Thing;") ∈ lw_tbl := List.mem_append_right _ (List.mem_append_right _ (List.mem_append_left _ (List.mem_of_getElem? (i := 114) (by decide +kernel))))
theorem mw_354 : (Cond.fieldLink "RecordLeaves$RecordThing" (25 : Nat) "RecordLeaves$RecordThing" "things" "[LRecordLeaves$Thing;") ∈ rl_G := rl_inG mt_354 rfl
theorem fl_X6_25 : rl_fl RX6 25 6 2 := ⟨RX6, TX6, 3, rfl, by decide, i_X6, Or.inl mw_354⟩
theorem fp_X6_25 : rl_fp RX6 25 6 2 (.array (.object "RecordLeaves$Thing")) true := ⟨RX6, TX6, 3, tyX6, rfl, by decide, i_X6, tyX6_ok, nmX6, rfl, tyX6_ok 2 (by decide), (fun _ => rfl), Or.inl mw_354⟩
theorem mt_66 : (Cond.fieldLinkNest "RecordLeaves$RecordThing" (29 : Nat) "RecordLeaves$RecordVersion" "kind" "I" "RecordLeaves") ∈ lw_tbl := List.mem_append_right _ (List.mem_append_left _ (List.mem_of_getElem? (i := 66) (by decide +kernel)))
theorem fl_X6_29 : rl_fl RX6 29 7 0 := ⟨RX7, TX7, 6, rfl, by decide, i_X7, Or.inr ⟨"RecordLeaves", mt_66⟩⟩
theorem mt_68 : (Cond.fieldLinkNest "RecordLeaves$RecordThing" (32 : Nat) "RecordLeaves$RecordVersion" "version" "I" "RecordLeaves") ∈ lw_tbl := List.mem_append_right _ (List.mem_append_left _ (List.mem_of_getElem? (i := 68) (by decide +kernel)))
theorem fl_X6_32 : rl_fl RX6 32 7 1 := ⟨RX7, TX7, 6, rfl, by decide, i_X7, Or.inr ⟨"RecordLeaves", mt_68⟩⟩
theorem mt_71 : (Cond.fieldLinkNest "RecordLeaves$RecordThing" (35 : Nat) "RecordLeaves$RecordVersion" "parts" "[LRecordLeaves$Part;" "RecordLeaves") ∈ lw_tbl := List.mem_append_right _ (List.mem_append_left _ (List.mem_of_getElem? (i := 71) (by decide +kernel)))
theorem fl_X6_35 : rl_fl RX6 35 7 2 := ⟨RX7, TX7, 6, rfl, by decide, i_X7, Or.inr ⟨"RecordLeaves", mt_71⟩⟩
theorem mt_235 : (Cond.fieldLinkNest "RecordLeaves$RecordThing" (39 : Nat) "RecordLeaves$Part" "sort" "I" "RecordLeaves") ∈ lw_tbl := List.mem_append_right _ (List.mem_append_left _ (List.mem_of_getElem? (i := 235) (by decide +kernel)))
theorem fl_X6_39 : rl_fl RX6 39 4 1 := ⟨RX4, TX4, 3, rfl, by decide, i_X4, Or.inr ⟨"RecordLeaves", mt_235⟩⟩
theorem mt_65 : (Cond.fieldLink "RecordLeaves$RecordVersion" (9 : Nat) "RecordLeaves$RecordVersion" "kind" "I") ∈ lw_tbl := List.mem_append_right _ (List.mem_append_left _ (List.mem_of_getElem? (i := 65) (by decide +kernel)))
theorem mw_65 : (Cond.fieldLink "RecordLeaves$RecordVersion" (9 : Nat) "RecordLeaves$RecordVersion" "kind" "I") ∈ rl_G := rl_inG mt_65 rfl
theorem fl_X7_9 : rl_fl RX7 9 7 0 := ⟨RX7, TX7, 6, rfl, by decide, i_X7, Or.inl mw_65⟩
theorem fp_X7_9 : rl_fp RX7 9 7 0 .int true := ⟨RX7, TX7, 6, tyX7, rfl, by decide, i_X7, tyX7_ok, nmX7, rfl, tyX7_ok 0 (by decide), (fun _ => rfl), Or.inl mw_65⟩
theorem mt_67 : (Cond.fieldLink "RecordLeaves$RecordVersion" (15 : Nat) "RecordLeaves$RecordVersion" "version" "I") ∈ lw_tbl := List.mem_append_right _ (List.mem_append_left _ (List.mem_of_getElem? (i := 67) (by decide +kernel)))
theorem mw_67 : (Cond.fieldLink "RecordLeaves$RecordVersion" (15 : Nat) "RecordLeaves$RecordVersion" "version" "I") ∈ rl_G := rl_inG mt_67 rfl
theorem fl_X7_15 : rl_fl RX7 15 7 1 := ⟨RX7, TX7, 6, rfl, by decide, i_X7, Or.inl mw_67⟩
theorem fp_X7_15 : rl_fp RX7 15 7 1 .int true := ⟨RX7, TX7, 6, tyX7, rfl, by decide, i_X7, tyX7_ok, nmX7, rfl, tyX7_ok 1 (by decide), (fun _ => rfl), Or.inl mw_67⟩
theorem mt_69 : (Cond.fieldLink "RecordLeaves$RecordVersion" (20 : Nat) "RecordLeaves$RecordVersion" "parts" "[LRecordLeaves$Part;") ∈ lw_tbl := List.mem_append_right _ (List.mem_append_left _ (List.mem_of_getElem? (i := 69) (by decide +kernel)))
theorem mw_69 : (Cond.fieldLink "RecordLeaves$RecordVersion" (20 : Nat) "RecordLeaves$RecordVersion" "parts" "[LRecordLeaves$Part;") ∈ rl_G := rl_inG mt_69 rfl
theorem fl_X7_20 : rl_fl RX7 20 7 2 := ⟨RX7, TX7, 6, rfl, by decide, i_X7, Or.inl mw_69⟩
theorem fp_X7_20 : rl_fp RX7 20 7 2 (.array (.object "RecordLeaves$Part")) true := ⟨RX7, TX7, 6, tyX7, rfl, by decide, i_X7, tyX7_ok, nmX7, rfl, tyX7_ok 2 (by decide), (fun _ => rfl), Or.inl mw_69⟩
theorem mt_73 : (Cond.fieldLink "RecordLeaves$RecordVersion" (26 : Nat) "RecordLeaves$RecordVersion" "checks" "[LRecordLeaves$Check;") ∈ lw_tbl := List.mem_append_right _ (List.mem_append_left _ (List.mem_of_getElem? (i := 73) (by decide +kernel)))
theorem mw_73 : (Cond.fieldLink "RecordLeaves$RecordVersion" (26 : Nat) "RecordLeaves$RecordVersion" "checks" "[LRecordLeaves$Check;") ∈ rl_G := rl_inG mt_73 rfl
theorem fl_X7_26 : rl_fl RX7 26 7 3 := ⟨RX7, TX7, 6, rfl, by decide, i_X7, Or.inl mw_73⟩
theorem fp_X7_26 : rl_fp RX7 26 7 3 (.array (.object "RecordLeaves$Check")) true := ⟨RX7, TX7, 6, tyX7, rfl, by decide, i_X7, tyX7_ok, nmX7, rfl, tyX7_ok 3 (by decide), (fun _ => rfl), Or.inl mw_73⟩
theorem mt_75 : (Cond.fieldLink "RecordLeaves$RecordVersion" (30 : Nat) "RecordLeaves$RecordVersion" "partCount" "I") ∈ lw_tbl := List.mem_append_right _ (List.mem_append_left _ (List.mem_of_getElem? (i := 75) (by decide +kernel)))
theorem mw_75 : (Cond.fieldLink "RecordLeaves$RecordVersion" (30 : Nat) "RecordLeaves$RecordVersion" "partCount" "I") ∈ rl_G := rl_inG mt_75 rfl
theorem fl_X7_30 : rl_fl RX7 30 7 4 := ⟨RX7, TX7, 6, rfl, by decide, i_X7, Or.inl mw_75⟩
theorem fp_X7_30 : rl_fp RX7 30 7 4 .int false := ⟨RX7, TX7, 6, tyX7, rfl, by decide, i_X7, tyX7_ok, nmX7, rfl, tyX7_ok 4 (by decide), (fun h => by cases h), Or.inl mw_75⟩
theorem mt_230 : (Cond.fieldLinkNest "RecordLeaves$RecordVersion" (33 : Nat) "RecordLeaves$Part" "name" "I" "RecordLeaves") ∈ lw_tbl := List.mem_append_right _ (List.mem_append_left _ (List.mem_of_getElem? (i := 230) (by decide +kernel)))
theorem fl_X7_33 : rl_fl RX7 33 4 0 := ⟨RX4, TX4, 3, rfl, by decide, i_X4, Or.inr ⟨"RecordLeaves", mt_230⟩⟩
theorem mt_233 : (Cond.fieldLinkNest "RecordLeaves$RecordVersion" (40 : Nat) "RecordLeaves$Part" "sort" "I" "RecordLeaves") ∈ lw_tbl := List.mem_append_right _ (List.mem_append_left _ (List.mem_of_getElem? (i := 233) (by decide +kernel)))
theorem fl_X7_40 : rl_fl RX7 40 4 1 := ⟨RX4, TX4, 3, rfl, by decide, i_X4, Or.inr ⟨"RecordLeaves", mt_233⟩⟩
theorem mt_76 : (Cond.fieldLink "RecordLeaves$RecordVersion" (43 : Nat) "RecordLeaves$RecordVersion" "checkCount" "I") ∈ lw_tbl := List.mem_append_right _ (List.mem_append_left _ (List.mem_of_getElem? (i := 76) (by decide +kernel)))
theorem mw_76 : (Cond.fieldLink "RecordLeaves$RecordVersion" (43 : Nat) "RecordLeaves$RecordVersion" "checkCount" "I") ∈ rl_G := rl_inG mt_76 rfl
theorem fl_X7_43 : rl_fl RX7 43 7 5 := ⟨RX7, TX7, 6, rfl, by decide, i_X7, Or.inl mw_76⟩
theorem fp_X7_43 : rl_fp RX7 43 7 5 .int false := ⟨RX7, TX7, 6, tyX7, rfl, by decide, i_X7, tyX7_ok, nmX7, rfl, tyX7_ok 5 (by decide), (fun h => by cases h), Or.inl mw_76⟩
theorem mt_352 : (Cond.fieldLinkNest "RecordLeaves$RecordVersion" (52 : Nat) "RecordLeaves$RecordThing" "numbers" "[J" "RecordLeaves") ∈ lw_tbl := List.mem_append_right _ (List.mem_append_right _ (List.mem_append_left _ (List.mem_of_getElem? (i := 112) (by decide +kernel))))
theorem fl_X7_52 : rl_fl RX7 52 6 1 := ⟨RX6, TX6, 3, rfl, by decide, i_X6, Or.inr ⟨"RecordLeaves", mt_352⟩⟩
theorem mt_357 : (Cond.fieldLinkNest "RecordLeaves$RecordVersion" (56 : Nat) "RecordLeaves$RecordThing" "things" "[LRecordLeaves$Thing;" "RecordLeaves") ∈ lw_tbl := List.mem_append_right _ (List.mem_append_right _ (List.mem_append_left _ (List.mem_of_getElem? (i := 117) (by decide +kernel))))
theorem fl_X7_56 : rl_fl RX7 56 6 2 := ⟨RX6, TX6, 3, rfl, by decide, i_X6, Or.inr ⟨"RecordLeaves", mt_357⟩⟩
theorem mt_299 : (Cond.fieldLink "RecordLeaves$Row" (15 : Nat) "RecordLeaves$Row" "items" "[I") ∈ lw_tbl := List.mem_append_right _ (List.mem_append_right _ (List.mem_append_left _ (List.mem_of_getElem? (i := 59) (by decide +kernel))))
theorem mw_299 : (Cond.fieldLink "RecordLeaves$Row" (15 : Nat) "RecordLeaves$Row" "items" "[I") ∈ rl_G := rl_inG mt_299 rfl
theorem fl_X8_15 : rl_fl RX8 15 8 0 := ⟨RX8, TX8, 1, rfl, by decide, i_X8, Or.inl mw_299⟩
theorem fp_X8_15 : rl_fp RX8 15 8 0 (.array .int) true := ⟨RX8, TX8, 1, tyX8, rfl, by decide, i_X8, tyX8_ok, nmX8, rfl, tyX8_ok 0 (by decide), (fun _ => rfl), Or.inl mw_299⟩
theorem mt_105 : (Cond.fieldLink "RecordLeaves$Tape" (9 : Nat) "RecordLeaves$Tape" "leaves" "[J") ∈ lw_tbl := List.mem_append_right _ (List.mem_append_left _ (List.mem_of_getElem? (i := 105) (by decide +kernel)))
theorem mw_105 : (Cond.fieldLink "RecordLeaves$Tape" (9 : Nat) "RecordLeaves$Tape" "leaves" "[J") ∈ rl_G := rl_inG mt_105 rfl
theorem fl_X9_9 : rl_fl RX9 9 9 0 := ⟨RX9, TX9, 4, rfl, by decide, i_X9, Or.inl mw_105⟩
theorem fp_X9_9 : rl_fp RX9 9 9 0 (.array .long) true := ⟨RX9, TX9, 4, tyX9, rfl, by decide, i_X9, tyX9_ok, nmX9, rfl, tyX9_ok 0 (by decide), (fun _ => rfl), Or.inl mw_105⟩
theorem mt_108 : (Cond.fieldLink "RecordLeaves$Tape" (15 : Nat) "RecordLeaves$Tape" "fresh" "[J") ∈ lw_tbl := List.mem_append_right _ (List.mem_append_left _ (List.mem_of_getElem? (i := 108) (by decide +kernel)))
theorem mw_108 : (Cond.fieldLink "RecordLeaves$Tape" (15 : Nat) "RecordLeaves$Tape" "fresh" "[J") ∈ rl_G := rl_inG mt_108 rfl
theorem fl_X9_15 : rl_fl RX9 15 9 1 := ⟨RX9, TX9, 4, rfl, by decide, i_X9, Or.inl mw_108⟩
theorem fp_X9_15 : rl_fp RX9 15 9 1 (.array .long) true := ⟨RX9, TX9, 4, tyX9, rfl, by decide, i_X9, tyX9_ok, nmX9, rfl, tyX9_ok 1 (by decide), (fun _ => rfl), Or.inl mw_108⟩
theorem mt_112 : (Cond.fieldLink "RecordLeaves$Tape" (18 : Nat) "RecordLeaves$Tape" "freshSize" "I") ∈ lw_tbl := List.mem_append_right _ (List.mem_append_left _ (List.mem_of_getElem? (i := 112) (by decide +kernel)))
theorem mw_112 : (Cond.fieldLink "RecordLeaves$Tape" (18 : Nat) "RecordLeaves$Tape" "freshSize" "I") ∈ rl_G := rl_inG mt_112 rfl
theorem fl_X9_18 : rl_fl RX9 18 9 3 := ⟨RX9, TX9, 4, rfl, by decide, i_X9, Or.inl mw_112⟩
theorem fp_X9_18 : rl_fp RX9 18 9 3 .int false := ⟨RX9, TX9, 4, tyX9, rfl, by decide, i_X9, tyX9_ok, nmX9, rfl, tyX9_ok 3 (by decide), (fun h => by cases h), Or.inl mw_112⟩
theorem mt_109 : (Cond.fieldLink "RecordLeaves$Tape" (32 : Nat) "RecordLeaves$Tape" "size" "I") ∈ lw_tbl := List.mem_append_right _ (List.mem_append_left _ (List.mem_of_getElem? (i := 109) (by decide +kernel)))
theorem mw_109 : (Cond.fieldLink "RecordLeaves$Tape" (32 : Nat) "RecordLeaves$Tape" "size" "I") ∈ rl_G := rl_inG mt_109 rfl
theorem fl_X9_32 : rl_fl RX9 32 9 2 := ⟨RX9, TX9, 4, rfl, by decide, i_X9, Or.inl mw_109⟩
theorem fp_X9_32 : rl_fp RX9 32 9 2 .int false := ⟨RX9, TX9, 4, tyX9, rfl, by decide, i_X9, tyX9_ok, nmX9, rfl, tyX9_ok 2 (by decide), (fun h => by cases h), Or.inl mw_109⟩
theorem mt_346 : (Cond.fieldLinkNest "RecordLeaves$Tape" (54 : Nat) "RecordLeaves$RecordThing" "its" "LRecordLeaves$RecordVersion;" "RecordLeaves") ∈ lw_tbl := List.mem_append_right _ (List.mem_append_right _ (List.mem_append_left _ (List.mem_of_getElem? (i := 106) (by decide +kernel))))
theorem fl_X9_54 : rl_fl RX9 54 6 0 := ⟨RX6, TX6, 3, rfl, by decide, i_X6, Or.inr ⟨"RecordLeaves", mt_346⟩⟩
theorem mt_70 : (Cond.fieldLinkNest "RecordLeaves$Tape" (58 : Nat) "RecordLeaves$RecordVersion" "parts" "[LRecordLeaves$Part;" "RecordLeaves") ∈ lw_tbl := List.mem_append_right _ (List.mem_append_left _ (List.mem_of_getElem? (i := 70) (by decide +kernel)))
theorem fl_X9_58 : rl_fl RX9 58 7 2 := ⟨RX7, TX7, 6, rfl, by decide, i_X7, Or.inr ⟨"RecordLeaves", mt_70⟩⟩
theorem mt_231 : (Cond.fieldLinkNest "RecordLeaves$Tape" (64 : Nat) "RecordLeaves$Part" "name" "I" "RecordLeaves") ∈ lw_tbl := List.mem_append_right _ (List.mem_append_left _ (List.mem_of_getElem? (i := 231) (by decide +kernel)))
theorem fl_X9_64 : rl_fl RX9 64 4 0 := ⟨RX4, TX4, 3, rfl, by decide, i_X4, Or.inr ⟨"RecordLeaves", mt_231⟩⟩
theorem mt_234 : (Cond.fieldLinkNest "RecordLeaves$Tape" (69 : Nat) "RecordLeaves$Part" "sort" "I" "RecordLeaves") ∈ lw_tbl := List.mem_append_right _ (List.mem_append_left _ (List.mem_of_getElem? (i := 234) (by decide +kernel)))
theorem fl_X9_69 : rl_fl RX9 69 4 1 := ⟨RX4, TX4, 3, rfl, by decide, i_X4, Or.inr ⟨"RecordLeaves", mt_234⟩⟩
theorem mt_356 : (Cond.fieldLinkNest "RecordLeaves$Tape" (76 : Nat) "RecordLeaves$RecordThing" "things" "[LRecordLeaves$Thing;" "RecordLeaves") ∈ lw_tbl := List.mem_append_right _ (List.mem_append_right _ (List.mem_append_left _ (List.mem_of_getElem? (i := 116) (by decide +kernel))))
theorem fl_X9_76 : rl_fl RX9 76 6 2 := ⟨RX6, TX6, 3, rfl, by decide, i_X6, Or.inr ⟨"RecordLeaves", mt_356⟩⟩
theorem mt_351 : (Cond.fieldLinkNest "RecordLeaves$Tape" (84 : Nat) "RecordLeaves$RecordThing" "numbers" "[J" "RecordLeaves") ∈ lw_tbl := List.mem_append_right _ (List.mem_append_right _ (List.mem_append_left _ (List.mem_of_getElem? (i := 111) (by decide +kernel))))
theorem fl_X9_84 : rl_fl RX9 84 6 1 := ⟨RX6, TX6, 3, rfl, by decide, i_X6, Or.inr ⟨"RecordLeaves", mt_351⟩⟩
theorem mt_192 : (Cond.fieldLinkNest "RecordLeaves$Tape" (89 : Nat) "RecordLeaves$Constant" "name" "I" "RecordLeaves") ∈ lw_tbl := List.mem_append_right _ (List.mem_append_left _ (List.mem_of_getElem? (i := 192) (by decide +kernel)))
theorem fl_X9_89 : rl_fl RX9 89 1 1 := ⟨RX1, TX1, 4, rfl, by decide, i_X1, Or.inr ⟨"RecordLeaves", mt_192⟩⟩
theorem mt_301 : (Cond.fieldLinkNest "RecordLeaves$Tape" (92 : Nat) "RecordLeaves$Row" "items" "[I" "RecordLeaves") ∈ lw_tbl := List.mem_append_right _ (List.mem_append_right _ (List.mem_append_left _ (List.mem_of_getElem? (i := 61) (by decide +kernel))))
theorem fl_X9_92 : rl_fl RX9 92 8 0 := ⟨RX8, TX8, 1, rfl, by decide, i_X8, Or.inr ⟨"RecordLeaves", mt_301⟩⟩
theorem mt_649 : (Cond.fieldLink "RecordLeavesModel" (7 : Nat) "RecordLeavesModel" "constants" "[I") ∈ lw_tbl := List.mem_append_right _ (List.mem_append_right _ (List.mem_append_right _ (List.mem_append_left _ (List.mem_of_getElem? (i := 169) (by decide +kernel)))))
theorem mw_649 : (Cond.fieldLink "RecordLeavesModel" (7 : Nat) "RecordLeavesModel" "constants" "[I") ∈ rl_G := rl_inG mt_649 rfl
theorem fl_X12_7 : rl_fl RX12 7 11 0 := ⟨RX12, TX12, 49, rfl, by decide, i_X12, Or.inl mw_649⟩
theorem fp_X12_7 : rl_fp RX12 7 11 0 (.array .int) true := ⟨RX12, TX12, 49, tyX12, rfl, by decide, i_X12, tyX12_ok, nmX12, rfl, tyX12_ok 0 (by decide), (fun _ => rfl), Or.inl mw_649⟩
theorem mt_650 : (Cond.fieldLink "RecordLeavesModel" (13 : Nat) "RecordLeavesModel" "constantName" "[I") ∈ lw_tbl := List.mem_append_right _ (List.mem_append_right _ (List.mem_append_right _ (List.mem_append_left _ (List.mem_of_getElem? (i := 170) (by decide +kernel)))))
theorem mw_650 : (Cond.fieldLink "RecordLeavesModel" (13 : Nat) "RecordLeavesModel" "constantName" "[I") ∈ rl_G := rl_inG mt_650 rfl
theorem fl_X12_13 : rl_fl RX12 13 11 1 := ⟨RX12, TX12, 49, rfl, by decide, i_X12, Or.inl mw_650⟩
theorem fp_X12_13 : rl_fp RX12 13 11 1 (.array .int) true := ⟨RX12, TX12, 49, tyX12, rfl, by decide, i_X12, tyX12_ok, nmX12, rfl, tyX12_ok 1 (by decide), (fun _ => rfl), Or.inl mw_650⟩
theorem mt_651 : (Cond.fieldLink "RecordLeavesModel" (16 : Nat) "RecordLeavesModel" "isLoud" "[Z") ∈ lw_tbl := List.mem_append_right _ (List.mem_append_right _ (List.mem_append_right _ (List.mem_append_left _ (List.mem_of_getElem? (i := 171) (by decide +kernel)))))
theorem mw_651 : (Cond.fieldLink "RecordLeavesModel" (16 : Nat) "RecordLeavesModel" "isLoud" "[Z") ∈ rl_G := rl_inG mt_651 rfl
theorem fl_X12_16 : rl_fl RX12 16 11 2 := ⟨RX12, TX12, 49, rfl, by decide, i_X12, Or.inl mw_651⟩
theorem fp_X12_16 : rl_fp RX12 16 11 2 (.array .boolean) true := ⟨RX12, TX12, 49, tyX12, rfl, by decide, i_X12, tyX12_ok, nmX12, rfl, tyX12_ok 2 (by decide), (fun _ => rfl), Or.inl mw_651⟩
theorem mt_652 : (Cond.fieldLink "RecordLeavesModel" (20 : Nat) "RecordLeavesModel" "parts" "[I") ∈ lw_tbl := List.mem_append_right _ (List.mem_append_right _ (List.mem_append_right _ (List.mem_append_left _ (List.mem_of_getElem? (i := 172) (by decide +kernel)))))
theorem mw_652 : (Cond.fieldLink "RecordLeavesModel" (20 : Nat) "RecordLeavesModel" "parts" "[I") ∈ rl_G := rl_inG mt_652 rfl
theorem fl_X12_20 : rl_fl RX12 20 11 3 := ⟨RX12, TX12, 49, rfl, by decide, i_X12, Or.inl mw_652⟩
theorem fp_X12_20 : rl_fp RX12 20 11 3 (.array .int) true := ⟨RX12, TX12, 49, tyX12, rfl, by decide, i_X12, tyX12_ok, nmX12, rfl, tyX12_ok 3 (by decide), (fun _ => rfl), Or.inl mw_652⟩
theorem mt_653 : (Cond.fieldLink "RecordLeavesModel" (23 : Nat) "RecordLeavesModel" "partName" "[I") ∈ lw_tbl := List.mem_append_right _ (List.mem_append_right _ (List.mem_append_right _ (List.mem_append_left _ (List.mem_of_getElem? (i := 173) (by decide +kernel)))))
theorem mw_653 : (Cond.fieldLink "RecordLeavesModel" (23 : Nat) "RecordLeavesModel" "partName" "[I") ∈ rl_G := rl_inG mt_653 rfl
theorem fl_X12_23 : rl_fl RX12 23 11 4 := ⟨RX12, TX12, 49, rfl, by decide, i_X12, Or.inl mw_653⟩
theorem fp_X12_23 : rl_fp RX12 23 11 4 (.array .int) true := ⟨RX12, TX12, 49, tyX12, rfl, by decide, i_X12, tyX12_ok, nmX12, rfl, tyX12_ok 4 (by decide), (fun _ => rfl), Or.inl mw_653⟩
theorem mt_654 : (Cond.fieldLink "RecordLeavesModel" (26 : Nat) "RecordLeavesModel" "sorts" "[I") ∈ lw_tbl := List.mem_append_right _ (List.mem_append_right _ (List.mem_append_right _ (List.mem_append_left _ (List.mem_of_getElem? (i := 174) (by decide +kernel)))))
theorem mw_654 : (Cond.fieldLink "RecordLeavesModel" (26 : Nat) "RecordLeavesModel" "sorts" "[I") ∈ rl_G := rl_inG mt_654 rfl
theorem fl_X12_26 : rl_fl RX12 26 11 5 := ⟨RX12, TX12, 49, rfl, by decide, i_X12, Or.inl mw_654⟩
theorem fp_X12_26 : rl_fp RX12 26 11 5 (.array .int) true := ⟨RX12, TX12, 49, tyX12, rfl, by decide, i_X12, tyX12_ok, nmX12, rfl, tyX12_ok 5 (by decide), (fun _ => rfl), Or.inl mw_654⟩
theorem mt_655 : (Cond.fieldLink "RecordLeavesModel" (29 : Nat) "RecordLeavesModel" "ofs" "[I") ∈ lw_tbl := List.mem_append_right _ (List.mem_append_right _ (List.mem_append_right _ (List.mem_append_left _ (List.mem_of_getElem? (i := 175) (by decide +kernel)))))
theorem mw_655 : (Cond.fieldLink "RecordLeavesModel" (29 : Nat) "RecordLeavesModel" "ofs" "[I") ∈ rl_G := rl_inG mt_655 rfl
theorem fl_X12_29 : rl_fl RX12 29 11 6 := ⟨RX12, TX12, 49, rfl, by decide, i_X12, Or.inl mw_655⟩
theorem fp_X12_29 : rl_fp RX12 29 11 6 (.array .int) true := ⟨RX12, TX12, 49, tyX12, rfl, by decide, i_X12, tyX12_ok, nmX12, rfl, tyX12_ok 6 (by decide), (fun _ => rfl), Or.inl mw_655⟩
theorem mt_656 : (Cond.fieldLink "RecordLeavesModel" (32 : Nat) "RecordLeavesModel" "checks" "[I") ∈ lw_tbl := List.mem_append_right _ (List.mem_append_right _ (List.mem_append_right _ (List.mem_append_left _ (List.mem_of_getElem? (i := 176) (by decide +kernel)))))
theorem mw_656 : (Cond.fieldLink "RecordLeavesModel" (32 : Nat) "RecordLeavesModel" "checks" "[I") ∈ rl_G := rl_inG mt_656 rfl
theorem fl_X12_32 : rl_fl RX12 32 11 7 := ⟨RX12, TX12, 49, rfl, by decide, i_X12, Or.inl mw_656⟩
theorem fp_X12_32 : rl_fp RX12 32 11 7 (.array .int) true := ⟨RX12, TX12, 49, tyX12, rfl, by decide, i_X12, tyX12_ok, nmX12, rfl, tyX12_ok 7 (by decide), (fun _ => rfl), Or.inl mw_656⟩
theorem mt_657 : (Cond.fieldLink "RecordLeavesModel" (35 : Nat) "RecordLeavesModel" "hows" "[I") ∈ lw_tbl := List.mem_append_right _ (List.mem_append_right _ (List.mem_append_right _ (List.mem_append_left _ (List.mem_of_getElem? (i := 177) (by decide +kernel)))))
theorem mw_657 : (Cond.fieldLink "RecordLeavesModel" (35 : Nat) "RecordLeavesModel" "hows" "[I") ∈ rl_G := rl_inG mt_657 rfl
theorem fl_X12_35 : rl_fl RX12 35 11 8 := ⟨RX12, TX12, 49, rfl, by decide, i_X12, Or.inl mw_657⟩
theorem fp_X12_35 : rl_fp RX12 35 11 8 (.array .int) true := ⟨RX12, TX12, 49, tyX12, rfl, by decide, i_X12, tyX12_ok, nmX12, rfl, tyX12_ok 8 (by decide), (fun _ => rfl), Or.inl mw_657⟩
theorem mt_658 : (Cond.fieldLink "RecordLeavesModel" (38 : Nat) "RecordLeavesModel" "checkA" "[I") ∈ lw_tbl := List.mem_append_right _ (List.mem_append_right _ (List.mem_append_right _ (List.mem_append_left _ (List.mem_of_getElem? (i := 178) (by decide +kernel)))))
theorem mw_658 : (Cond.fieldLink "RecordLeavesModel" (38 : Nat) "RecordLeavesModel" "checkA" "[I") ∈ rl_G := rl_inG mt_658 rfl
theorem fl_X12_38 : rl_fl RX12 38 11 9 := ⟨RX12, TX12, 49, rfl, by decide, i_X12, Or.inl mw_658⟩
theorem fp_X12_38 : rl_fp RX12 38 11 9 (.array .int) true := ⟨RX12, TX12, 49, tyX12, rfl, by decide, i_X12, tyX12_ok, nmX12, rfl, tyX12_ok 9 (by decide), (fun _ => rfl), Or.inl mw_658⟩
theorem mt_659 : (Cond.fieldLink "RecordLeavesModel" (41 : Nat) "RecordLeavesModel" "checkB" "[I") ∈ lw_tbl := List.mem_append_right _ (List.mem_append_right _ (List.mem_append_right _ (List.mem_append_left _ (List.mem_of_getElem? (i := 179) (by decide +kernel)))))
theorem mw_659 : (Cond.fieldLink "RecordLeavesModel" (41 : Nat) "RecordLeavesModel" "checkB" "[I") ∈ rl_G := rl_inG mt_659 rfl
theorem fl_X12_41 : rl_fl RX12 41 11 10 := ⟨RX12, TX12, 49, rfl, by decide, i_X12, Or.inl mw_659⟩
theorem fp_X12_41 : rl_fp RX12 41 11 10 (.array .int) true := ⟨RX12, TX12, 49, tyX12, rfl, by decide, i_X12, tyX12_ok, nmX12, rfl, tyX12_ok 10 (by decide), (fun _ => rfl), Or.inl mw_659⟩
theorem mt_661 : (Cond.fieldLink "RecordLeavesModel" (45 : Nat) "RecordLeavesModel" "sizes" "[I") ∈ lw_tbl := List.mem_append_right _ (List.mem_append_right _ (List.mem_append_right _ (List.mem_append_left _ (List.mem_of_getElem? (i := 181) (by decide +kernel)))))
theorem mw_661 : (Cond.fieldLink "RecordLeavesModel" (45 : Nat) "RecordLeavesModel" "sizes" "[I") ∈ rl_G := rl_inG mt_661 rfl
theorem fl_X12_45 : rl_fl RX12 45 11 12 := ⟨RX12, TX12, 49, rfl, by decide, i_X12, Or.inl mw_661⟩
theorem fp_X12_45 : rl_fp RX12 45 11 12 (.array .int) true := ⟨RX12, TX12, 49, tyX12, rfl, by decide, i_X12, tyX12_ok, nmX12, rfl, tyX12_ok 12 (by decide), (fun _ => rfl), Or.inl mw_661⟩
theorem mt_662 : (Cond.fieldLink "RecordLeavesModel" (49 : Nat) "RecordLeavesModel" "items" "[I") ∈ lw_tbl := List.mem_append_right _ (List.mem_append_right _ (List.mem_append_right _ (List.mem_append_left _ (List.mem_of_getElem? (i := 182) (by decide +kernel)))))
theorem mw_662 : (Cond.fieldLink "RecordLeavesModel" (49 : Nat) "RecordLeavesModel" "items" "[I") ∈ rl_G := rl_inG mt_662 rfl
theorem fl_X12_49 : rl_fl RX12 49 11 13 := ⟨RX12, TX12, 49, rfl, by decide, i_X12, Or.inl mw_662⟩
theorem fp_X12_49 : rl_fp RX12 49 11 13 (.array .int) true := ⟨RX12, TX12, 49, tyX12, rfl, by decide, i_X12, tyX12_ok, nmX12, rfl, tyX12_ok 13 (by decide), (fun _ => rfl), Or.inl mw_662⟩
theorem mt_664 : (Cond.fieldLink "RecordLeavesModel" (52 : Nat) "RecordLeavesModel" "shapeOf" "[I") ∈ lw_tbl := List.mem_append_right _ (List.mem_append_right _ (List.mem_append_right _ (List.mem_append_left _ (List.mem_of_getElem? (i := 184) (by decide +kernel)))))
theorem mw_664 : (Cond.fieldLink "RecordLeavesModel" (52 : Nat) "RecordLeavesModel" "shapeOf" "[I") ∈ rl_G := rl_inG mt_664 rfl
theorem fl_X12_52 : rl_fl RX12 52 11 15 := ⟨RX12, TX12, 49, rfl, by decide, i_X12, Or.inl mw_664⟩
theorem fp_X12_52 : rl_fp RX12 52 11 15 (.array .int) true := ⟨RX12, TX12, 49, tyX12, rfl, by decide, i_X12, tyX12_ok, nmX12, rfl, tyX12_ok 15 (by decide), (fun _ => rfl), Or.inl mw_664⟩
theorem mt_665 : (Cond.fieldLink "RecordLeavesModel" (55 : Nat) "RecordLeavesModel" "partsOf" "[I") ∈ lw_tbl := List.mem_append_right _ (List.mem_append_right _ (List.mem_append_right _ (List.mem_append_left _ (List.mem_of_getElem? (i := 185) (by decide +kernel)))))
theorem mw_665 : (Cond.fieldLink "RecordLeavesModel" (55 : Nat) "RecordLeavesModel" "partsOf" "[I") ∈ rl_G := rl_inG mt_665 rfl
theorem fl_X12_55 : rl_fl RX12 55 11 16 := ⟨RX12, TX12, 49, rfl, by decide, i_X12, Or.inl mw_665⟩
theorem fp_X12_55 : rl_fp RX12 55 11 16 (.array .int) true := ⟨RX12, TX12, 49, tyX12, rfl, by decide, i_X12, tyX12_ok, nmX12, rfl, tyX12_ok 16 (by decide), (fun _ => rfl), Or.inl mw_665⟩
theorem mt_666 : (Cond.fieldLink "RecordLeavesModel" (59 : Nat) "RecordLeavesModel" "numbers" "[J") ∈ lw_tbl := List.mem_append_right _ (List.mem_append_right _ (List.mem_append_right _ (List.mem_append_left _ (List.mem_of_getElem? (i := 186) (by decide +kernel)))))
theorem mw_666 : (Cond.fieldLink "RecordLeavesModel" (59 : Nat) "RecordLeavesModel" "numbers" "[J") ∈ rl_G := rl_inG mt_666 rfl
theorem fl_X12_59 : rl_fl RX12 59 11 17 := ⟨RX12, TX12, 49, rfl, by decide, i_X12, Or.inl mw_666⟩
theorem fp_X12_59 : rl_fp RX12 59 11 17 (.array .long) true := ⟨RX12, TX12, 49, tyX12, rfl, by decide, i_X12, tyX12_ok, nmX12, rfl, tyX12_ok 17 (by decide), (fun _ => rfl), Or.inl mw_666⟩
theorem mt_667 : (Cond.fieldLink "RecordLeavesModel" (63 : Nat) "RecordLeavesModel" "things" "[I") ∈ lw_tbl := List.mem_append_right _ (List.mem_append_right _ (List.mem_append_right _ (List.mem_append_left _ (List.mem_of_getElem? (i := 187) (by decide +kernel)))))
theorem mw_667 : (Cond.fieldLink "RecordLeavesModel" (63 : Nat) "RecordLeavesModel" "things" "[I") ∈ rl_G := rl_inG mt_667 rfl
theorem fl_X12_63 : rl_fl RX12 63 11 18 := ⟨RX12, TX12, 49, rfl, by decide, i_X12, Or.inl mw_667⟩
theorem fp_X12_63 : rl_fp RX12 63 11 18 (.array .int) true := ⟨RX12, TX12, 49, tyX12, rfl, by decide, i_X12, tyX12_ok, nmX12, rfl, tyX12_ok 18 (by decide), (fun _ => rfl), Or.inl mw_667⟩
theorem mt_668 : (Cond.fieldLink "RecordLeavesModel" (66 : Nat) "RecordLeavesModel" "places" "[I") ∈ lw_tbl := List.mem_append_right _ (List.mem_append_right _ (List.mem_append_right _ (List.mem_append_left _ (List.mem_of_getElem? (i := 188) (by decide +kernel)))))
theorem mw_668 : (Cond.fieldLink "RecordLeavesModel" (66 : Nat) "RecordLeavesModel" "places" "[I") ∈ rl_G := rl_inG mt_668 rfl
theorem fl_X12_66 : rl_fl RX12 66 11 19 := ⟨RX12, TX12, 49, rfl, by decide, i_X12, Or.inl mw_668⟩
theorem fp_X12_66 : rl_fp RX12 66 11 19 (.array .int) true := ⟨RX12, TX12, 49, tyX12, rfl, by decide, i_X12, tyX12_ok, nmX12, rfl, tyX12_ok 19 (by decide), (fun _ => rfl), Or.inl mw_668⟩
theorem mt_669 : (Cond.fieldLink "RecordLeavesModel" (69 : Nat) "RecordLeavesModel" "givenNumber" "[J") ∈ lw_tbl := List.mem_append_right _ (List.mem_append_right _ (List.mem_append_right _ (List.mem_append_left _ (List.mem_of_getElem? (i := 189) (by decide +kernel)))))
theorem mw_669 : (Cond.fieldLink "RecordLeavesModel" (69 : Nat) "RecordLeavesModel" "givenNumber" "[J") ∈ rl_G := rl_inG mt_669 rfl
theorem fl_X12_69 : rl_fl RX12 69 11 20 := ⟨RX12, TX12, 49, rfl, by decide, i_X12, Or.inl mw_669⟩
theorem fp_X12_69 : rl_fp RX12 69 11 20 (.array .long) true := ⟨RX12, TX12, 49, tyX12, rfl, by decide, i_X12, tyX12_ok, nmX12, rfl, tyX12_ok 20 (by decide), (fun _ => rfl), Or.inl mw_669⟩
theorem mt_670 : (Cond.fieldLink "RecordLeavesModel" (72 : Nat) "RecordLeavesModel" "givenPlace" "[I") ∈ lw_tbl := List.mem_append_right _ (List.mem_append_right _ (List.mem_append_right _ (List.mem_append_left _ (List.mem_of_getElem? (i := 190) (by decide +kernel)))))
theorem mw_670 : (Cond.fieldLink "RecordLeavesModel" (72 : Nat) "RecordLeavesModel" "givenPlace" "[I") ∈ rl_G := rl_inG mt_670 rfl
theorem fl_X12_72 : rl_fl RX12 72 11 21 := ⟨RX12, TX12, 49, rfl, by decide, i_X12, Or.inl mw_670⟩
theorem fp_X12_72 : rl_fp RX12 72 11 21 (.array .int) true := ⟨RX12, TX12, 49, tyX12, rfl, by decide, i_X12, tyX12_ok, nmX12, rfl, tyX12_ok 21 (by decide), (fun _ => rfl), Or.inl mw_670⟩
theorem mt_672 : (Cond.fieldLink "RecordLeavesModel" (75 : Nat) "RecordLeavesModel" "tape" "[J") ∈ lw_tbl := List.mem_append_right _ (List.mem_append_right _ (List.mem_append_right _ (List.mem_append_left _ (List.mem_of_getElem? (i := 192) (by decide +kernel)))))
theorem mw_672 : (Cond.fieldLink "RecordLeavesModel" (75 : Nat) "RecordLeavesModel" "tape" "[J") ∈ rl_G := rl_inG mt_672 rfl
theorem fl_X12_75 : rl_fl RX12 75 11 23 := ⟨RX12, TX12, 49, rfl, by decide, i_X12, Or.inl mw_672⟩
theorem fp_X12_75 : rl_fp RX12 75 11 23 (.array .long) true := ⟨RX12, TX12, 49, tyX12, rfl, by decide, i_X12, tyX12_ok, nmX12, rfl, tyX12_ok 23 (by decide), (fun _ => rfl), Or.inl mw_672⟩
theorem mt_674 : (Cond.fieldLink "RecordLeavesModel" (78 : Nat) "RecordLeavesModel" "leafAt" "I") ∈ lw_tbl := List.mem_append_right _ (List.mem_append_right _ (List.mem_append_right _ (List.mem_append_left _ (List.mem_of_getElem? (i := 194) (by decide +kernel)))))
theorem mw_674 : (Cond.fieldLink "RecordLeavesModel" (78 : Nat) "RecordLeavesModel" "leafAt" "I") ∈ rl_G := rl_inG mt_674 rfl
theorem fl_X12_78 : rl_fl RX12 78 11 25 := ⟨RX12, TX12, 49, rfl, by decide, i_X12, Or.inl mw_674⟩
theorem fp_X12_78 : rl_fp RX12 78 11 25 .int false := ⟨RX12, TX12, 49, tyX12, rfl, by decide, i_X12, tyX12_ok, nmX12, rfl, tyX12_ok 25 (by decide), (fun h => by cases h), Or.inl mw_674⟩
theorem mt_680 : (Cond.fieldLink "RecordLeavesModel" (82 : Nat) "RecordLeavesModel" "numberNow" "[J") ∈ lw_tbl := List.mem_append_right _ (List.mem_append_right _ (List.mem_append_right _ (List.mem_append_left _ (List.mem_of_getElem? (i := 200) (by decide +kernel)))))
theorem mw_680 : (Cond.fieldLink "RecordLeavesModel" (82 : Nat) "RecordLeavesModel" "numberNow" "[J") ∈ rl_G := rl_inG mt_680 rfl
theorem fl_X12_82 : rl_fl RX12 82 11 31 := ⟨RX12, TX12, 49, rfl, by decide, i_X12, Or.inl mw_680⟩
theorem fp_X12_82 : rl_fp RX12 82 11 31 (.array .long) true := ⟨RX12, TX12, 49, tyX12, rfl, by decide, i_X12, tyX12_ok, nmX12, rfl, tyX12_ok 31 (by decide), (fun _ => rfl), Or.inl mw_680⟩
theorem mt_681 : (Cond.fieldLink "RecordLeavesModel" (85 : Nat) "RecordLeavesModel" "thingNow" "[I") ∈ lw_tbl := List.mem_append_right _ (List.mem_append_right _ (List.mem_append_right _ (List.mem_append_left _ (List.mem_of_getElem? (i := 201) (by decide +kernel)))))
theorem mw_681 : (Cond.fieldLink "RecordLeavesModel" (85 : Nat) "RecordLeavesModel" "thingNow" "[I") ∈ rl_G := rl_inG mt_681 rfl
theorem fl_X12_85 : rl_fl RX12 85 11 32 := ⟨RX12, TX12, 49, rfl, by decide, i_X12, Or.inl mw_681⟩
theorem fp_X12_85 : rl_fp RX12 85 11 32 (.array .int) true := ⟨RX12, TX12, 49, tyX12, rfl, by decide, i_X12, tyX12_ok, nmX12, rfl, tyX12_ok 32 (by decide), (fun _ => rfl), Or.inl mw_681⟩
theorem mt_683 : (Cond.fieldLink "RecordLeavesModel" (88 : Nat) "RecordLeavesModel" "pairA" "[I") ∈ lw_tbl := List.mem_append_right _ (List.mem_append_right _ (List.mem_append_right _ (List.mem_append_left _ (List.mem_of_getElem? (i := 203) (by decide +kernel)))))
theorem mw_683 : (Cond.fieldLink "RecordLeavesModel" (88 : Nat) "RecordLeavesModel" "pairA" "[I") ∈ rl_G := rl_inG mt_683 rfl
theorem fl_X12_88 : rl_fl RX12 88 11 34 := ⟨RX12, TX12, 49, rfl, by decide, i_X12, Or.inl mw_683⟩
theorem fp_X12_88 : rl_fp RX12 88 11 34 (.array .int) true := ⟨RX12, TX12, 49, tyX12, rfl, by decide, i_X12, tyX12_ok, nmX12, rfl, tyX12_ok 34 (by decide), (fun _ => rfl), Or.inl mw_683⟩
theorem mt_684 : (Cond.fieldLink "RecordLeavesModel" (91 : Nat) "RecordLeavesModel" "pairB" "[I") ∈ lw_tbl := List.mem_append_right _ (List.mem_append_right _ (List.mem_append_right _ (List.mem_append_left _ (List.mem_of_getElem? (i := 204) (by decide +kernel)))))
theorem mw_684 : (Cond.fieldLink "RecordLeavesModel" (91 : Nat) "RecordLeavesModel" "pairB" "[I") ∈ rl_G := rl_inG mt_684 rfl
theorem fl_X12_91 : rl_fl RX12 91 11 35 := ⟨RX12, TX12, 49, rfl, by decide, i_X12, Or.inl mw_684⟩
theorem fp_X12_91 : rl_fp RX12 91 11 35 (.array .int) true := ⟨RX12, TX12, 49, tyX12, rfl, by decide, i_X12, tyX12_ok, nmX12, rfl, tyX12_ok 35 (by decide), (fun _ => rfl), Or.inl mw_684⟩
theorem mt_685 : (Cond.fieldLink "RecordLeavesModel" (94 : Nat) "RecordLeavesModel" "within" "[I") ∈ lw_tbl := List.mem_append_right _ (List.mem_append_right _ (List.mem_append_right _ (List.mem_append_left _ (List.mem_of_getElem? (i := 205) (by decide +kernel)))))
theorem mw_685 : (Cond.fieldLink "RecordLeavesModel" (94 : Nat) "RecordLeavesModel" "within" "[I") ∈ rl_G := rl_inG mt_685 rfl
theorem fl_X12_94 : rl_fl RX12 94 11 36 := ⟨RX12, TX12, 49, rfl, by decide, i_X12, Or.inl mw_685⟩
theorem fp_X12_94 : rl_fp RX12 94 11 36 (.array .int) true := ⟨RX12, TX12, 49, tyX12, rfl, by decide, i_X12, tyX12_ok, nmX12, rfl, tyX12_ok 36 (by decide), (fun _ => rfl), Or.inl mw_685⟩
theorem mt_687 : (Cond.fieldLink "RecordLeavesModel" (97 : Nat) "RecordLeavesModel" "newTape" "[J") ∈ lw_tbl := List.mem_append_right _ (List.mem_append_right _ (List.mem_append_right _ (List.mem_append_left _ (List.mem_of_getElem? (i := 207) (by decide +kernel)))))
theorem mw_687 : (Cond.fieldLink "RecordLeavesModel" (97 : Nat) "RecordLeavesModel" "newTape" "[J") ∈ rl_G := rl_inG mt_687 rfl
theorem fl_X12_97 : rl_fl RX12 97 11 38 := ⟨RX12, TX12, 49, rfl, by decide, i_X12, Or.inl mw_687⟩
theorem fp_X12_97 : rl_fp RX12 97 11 38 (.array .long) true := ⟨RX12, TX12, 49, tyX12, rfl, by decide, i_X12, tyX12_ok, nmX12, rfl, tyX12_ok 38 (by decide), (fun _ => rfl), Or.inl mw_687⟩
theorem mt_688 : (Cond.fieldLink "RecordLeavesModel" (100 : Nat) "RecordLeavesModel" "open" "[I") ∈ lw_tbl := List.mem_append_right _ (List.mem_append_right _ (List.mem_append_right _ (List.mem_append_left _ (List.mem_of_getElem? (i := 208) (by decide +kernel)))))
theorem mw_688 : (Cond.fieldLink "RecordLeavesModel" (100 : Nat) "RecordLeavesModel" "open" "[I") ∈ rl_G := rl_inG mt_688 rfl
theorem fl_X12_100 : rl_fl RX12 100 11 39 := ⟨RX12, TX12, 49, rfl, by decide, i_X12, Or.inl mw_688⟩
theorem fp_X12_100 : rl_fp RX12 100 11 39 (.array .int) true := ⟨RX12, TX12, 49, tyX12, rfl, by decide, i_X12, tyX12_ok, nmX12, rfl, tyX12_ok 39 (by decide), (fun _ => rfl), Or.inl mw_688⟩
theorem mt_689 : (Cond.fieldLink "RecordLeavesModel" (103 : Nat) "RecordLeavesModel" "nextPart" "[I") ∈ lw_tbl := List.mem_append_right _ (List.mem_append_right _ (List.mem_append_right _ (List.mem_append_left _ (List.mem_of_getElem? (i := 209) (by decide +kernel)))))
theorem mw_689 : (Cond.fieldLink "RecordLeavesModel" (103 : Nat) "RecordLeavesModel" "nextPart" "[I") ∈ rl_G := rl_inG mt_689 rfl
theorem fl_X12_103 : rl_fl RX12 103 11 40 := ⟨RX12, TX12, 49, rfl, by decide, i_X12, Or.inl mw_689⟩
theorem fp_X12_103 : rl_fp RX12 103 11 40 (.array .int) true := ⟨RX12, TX12, 49, tyX12, rfl, by decide, i_X12, tyX12_ok, nmX12, rfl, tyX12_ok 40 (by decide), (fun _ => rfl), Or.inl mw_689⟩
theorem mt_695 : (Cond.fieldLink "RecordLeavesModel" (106 : Nat) "RecordLeavesModel" "shapes" "[I") ∈ lw_tbl := List.mem_append_right _ (List.mem_append_right _ (List.mem_append_right _ (List.mem_append_left _ (List.mem_of_getElem? (i := 215) (by decide +kernel)))))
theorem mw_695 : (Cond.fieldLink "RecordLeavesModel" (106 : Nat) "RecordLeavesModel" "shapes" "[I") ∈ rl_G := rl_inG mt_695 rfl
theorem fl_X12_106 : rl_fl RX12 106 11 46 := ⟨RX12, TX12, 49, rfl, by decide, i_X12, Or.inl mw_695⟩
theorem fp_X12_106 : rl_fp RX12 106 11 46 (.array .int) true := ⟨RX12, TX12, 49, tyX12, rfl, by decide, i_X12, tyX12_ok, nmX12, rfl, tyX12_ok 46 (by decide), (fun _ => rfl), Or.inl mw_695⟩
theorem mt_696 : (Cond.fieldLink "RecordLeavesModel" (109 : Nat) "RecordLeavesModel" "left" "[J") ∈ lw_tbl := List.mem_append_right _ (List.mem_append_right _ (List.mem_append_right _ (List.mem_append_left _ (List.mem_of_getElem? (i := 216) (by decide +kernel)))))
theorem mw_696 : (Cond.fieldLink "RecordLeavesModel" (109 : Nat) "RecordLeavesModel" "left" "[J") ∈ rl_G := rl_inG mt_696 rfl
theorem fl_X12_109 : rl_fl RX12 109 11 47 := ⟨RX12, TX12, 49, rfl, by decide, i_X12, Or.inl mw_696⟩
theorem fp_X12_109 : rl_fp RX12 109 11 47 (.array .long) true := ⟨RX12, TX12, 49, tyX12, rfl, by decide, i_X12, tyX12_ok, nmX12, rfl, tyX12_ok 47 (by decide), (fun _ => rfl), Or.inl mw_696⟩
theorem mt_697 : (Cond.fieldLink "RecordLeavesModel" (112 : Nat) "RecordLeavesModel" "inner" "[I") ∈ lw_tbl := List.mem_append_right _ (List.mem_append_right _ (List.mem_append_right _ (List.mem_append_left _ (List.mem_of_getElem? (i := 217) (by decide +kernel)))))
theorem mw_697 : (Cond.fieldLink "RecordLeavesModel" (112 : Nat) "RecordLeavesModel" "inner" "[I") ∈ rl_G := rl_inG mt_697 rfl
theorem fl_X12_112 : rl_fl RX12 112 11 48 := ⟨RX12, TX12, 49, rfl, by decide, i_X12, Or.inl mw_697⟩
theorem fp_X12_112 : rl_fp RX12 112 11 48 (.array .int) true := ⟨RX12, TX12, 49, tyX12, rfl, by decide, i_X12, tyX12_ok, nmX12, rfl, tyX12_ok 48 (by decide), (fun _ => rfl), Or.inl mw_697⟩
theorem mt_660 : (Cond.fieldLink "RecordLeavesModel" (151 : Nat) "RecordLeavesModel" "rows" "I") ∈ lw_tbl := List.mem_append_right _ (List.mem_append_right _ (List.mem_append_right _ (List.mem_append_left _ (List.mem_of_getElem? (i := 180) (by decide +kernel)))))
theorem mw_660 : (Cond.fieldLink "RecordLeavesModel" (151 : Nat) "RecordLeavesModel" "rows" "I") ∈ rl_G := rl_inG mt_660 rfl
theorem fl_X12_151 : rl_fl RX12 151 11 11 := ⟨RX12, TX12, 49, rfl, by decide, i_X12, Or.inl mw_660⟩
theorem fp_X12_151 : rl_fp RX12 151 11 11 .int false := ⟨RX12, TX12, 49, tyX12, rfl, by decide, i_X12, tyX12_ok, nmX12, rfl, tyX12_ok 11 (by decide), (fun h => by cases h), Or.inl mw_660⟩
theorem mt_663 : (Cond.fieldLink "RecordLeavesModel" (177 : Nat) "RecordLeavesModel" "records" "I") ∈ lw_tbl := List.mem_append_right _ (List.mem_append_right _ (List.mem_append_right _ (List.mem_append_left _ (List.mem_of_getElem? (i := 183) (by decide +kernel)))))
theorem mw_663 : (Cond.fieldLink "RecordLeavesModel" (177 : Nat) "RecordLeavesModel" "records" "I") ∈ rl_G := rl_inG mt_663 rfl
theorem fl_X12_177 : rl_fl RX12 177 11 14 := ⟨RX12, TX12, 49, rfl, by decide, i_X12, Or.inl mw_663⟩
theorem fp_X12_177 : rl_fp RX12 177 11 14 .int false := ⟨RX12, TX12, 49, tyX12, rfl, by decide, i_X12, tyX12_ok, nmX12, rfl, tyX12_ok 14 (by decide), (fun h => by cases h), Or.inl mw_663⟩
theorem mt_677 : (Cond.fieldLink "RecordLeavesModel" (180 : Nat) "RecordLeavesModel" "made" "I") ∈ lw_tbl := List.mem_append_right _ (List.mem_append_right _ (List.mem_append_right _ (List.mem_append_left _ (List.mem_of_getElem? (i := 197) (by decide +kernel)))))
theorem mw_677 : (Cond.fieldLink "RecordLeavesModel" (180 : Nat) "RecordLeavesModel" "made" "I") ∈ rl_G := rl_inG mt_677 rfl
theorem fl_X12_180 : rl_fl RX12 180 11 28 := ⟨RX12, TX12, 49, rfl, by decide, i_X12, Or.inl mw_677⟩
theorem fp_X12_180 : rl_fp RX12 180 11 28 .int false := ⟨RX12, TX12, 49, tyX12, rfl, by decide, i_X12, tyX12_ok, nmX12, rfl, tyX12_ok 28 (by decide), (fun h => by cases h), Or.inl mw_677⟩
theorem mt_673 : (Cond.fieldLink "RecordLeavesModel" (187 : Nat) "RecordLeavesModel" "why" "I") ∈ lw_tbl := List.mem_append_right _ (List.mem_append_right _ (List.mem_append_right _ (List.mem_append_left _ (List.mem_of_getElem? (i := 193) (by decide +kernel)))))
theorem mw_673 : (Cond.fieldLink "RecordLeavesModel" (187 : Nat) "RecordLeavesModel" "why" "I") ∈ rl_G := rl_inG mt_673 rfl
theorem fl_X12_187 : rl_fl RX12 187 11 24 := ⟨RX12, TX12, 49, rfl, by decide, i_X12, Or.inl mw_673⟩
theorem fp_X12_187 : rl_fp RX12 187 11 24 .int false := ⟨RX12, TX12, 49, tyX12, rfl, by decide, i_X12, tyX12_ok, nmX12, rfl, tyX12_ok 24 (by decide), (fun h => by cases h), Or.inl mw_673⟩
theorem mt_675 : (Cond.fieldLink "RecordLeavesModel" (190 : Nat) "RecordLeavesModel" "begun" "I") ∈ lw_tbl := List.mem_append_right _ (List.mem_append_right _ (List.mem_append_right _ (List.mem_append_left _ (List.mem_of_getElem? (i := 195) (by decide +kernel)))))
theorem mw_675 : (Cond.fieldLink "RecordLeavesModel" (190 : Nat) "RecordLeavesModel" "begun" "I") ∈ rl_G := rl_inG mt_675 rfl
theorem fl_X12_190 : rl_fl RX12 190 11 26 := ⟨RX12, TX12, 49, rfl, by decide, i_X12, Or.inl mw_675⟩
theorem fp_X12_190 : rl_fp RX12 190 11 26 .int false := ⟨RX12, TX12, 49, tyX12, rfl, by decide, i_X12, tyX12_ok, nmX12, rfl, tyX12_ok 26 (by decide), (fun h => by cases h), Or.inl mw_675⟩
theorem mt_676 : (Cond.fieldLink "RecordLeavesModel" (198 : Nat) "RecordLeavesModel" "status" "I") ∈ lw_tbl := List.mem_append_right _ (List.mem_append_right _ (List.mem_append_right _ (List.mem_append_left _ (List.mem_of_getElem? (i := 196) (by decide +kernel)))))
theorem mw_676 : (Cond.fieldLink "RecordLeavesModel" (198 : Nat) "RecordLeavesModel" "status" "I") ∈ rl_G := rl_inG mt_676 rfl
theorem fl_X12_198 : rl_fl RX12 198 11 27 := ⟨RX12, TX12, 49, rfl, by decide, i_X12, Or.inl mw_676⟩
theorem fp_X12_198 : rl_fp RX12 198 11 27 .int false := ⟨RX12, TX12, 49, tyX12, rfl, by decide, i_X12, tyX12_ok, nmX12, rfl, tyX12_ok 27 (by decide), (fun h => by cases h), Or.inl mw_676⟩
theorem mt_682 : (Cond.fieldLink "RecordLeavesModel" (206 : Nat) "RecordLeavesModel" "pairs" "I") ∈ lw_tbl := List.mem_append_right _ (List.mem_append_right _ (List.mem_append_right _ (List.mem_append_left _ (List.mem_of_getElem? (i := 202) (by decide +kernel)))))
theorem mw_682 : (Cond.fieldLink "RecordLeavesModel" (206 : Nat) "RecordLeavesModel" "pairs" "I") ∈ rl_G := rl_inG mt_682 rfl
theorem fl_X12_206 : rl_fl RX12 206 11 33 := ⟨RX12, TX12, 49, rfl, by decide, i_X12, Or.inl mw_682⟩
theorem fp_X12_206 : rl_fp RX12 206 11 33 .int false := ⟨RX12, TX12, 49, tyX12, rfl, by decide, i_X12, tyX12_ok, nmX12, rfl, tyX12_ok 33 (by decide), (fun h => by cases h), Or.inl mw_682⟩
theorem mt_686 : (Cond.fieldLink "RecordLeavesModel" (220 : Nat) "RecordLeavesModel" "wrote" "I") ∈ lw_tbl := List.mem_append_right _ (List.mem_append_right _ (List.mem_append_right _ (List.mem_append_left _ (List.mem_of_getElem? (i := 206) (by decide +kernel)))))
theorem mw_686 : (Cond.fieldLink "RecordLeavesModel" (220 : Nat) "RecordLeavesModel" "wrote" "I") ∈ rl_G := rl_inG mt_686 rfl
theorem fl_X12_220 : rl_fl RX12 220 11 37 := ⟨RX12, TX12, 49, rfl, by decide, i_X12, Or.inl mw_686⟩
theorem fp_X12_220 : rl_fp RX12 220 11 37 .int false := ⟨RX12, TX12, 49, tyX12, rfl, by decide, i_X12, tyX12_ok, nmX12, rfl, tyX12_ok 37 (by decide), (fun h => by cases h), Or.inl mw_686⟩
theorem mt_671 : (Cond.fieldLink "RecordLeavesModel" (235 : Nat) "RecordLeavesModel" "leaves" "I") ∈ lw_tbl := List.mem_append_right _ (List.mem_append_right _ (List.mem_append_right _ (List.mem_append_left _ (List.mem_of_getElem? (i := 191) (by decide +kernel)))))
theorem mw_671 : (Cond.fieldLink "RecordLeavesModel" (235 : Nat) "RecordLeavesModel" "leaves" "I") ∈ rl_G := rl_inG mt_671 rfl
theorem fl_X12_235 : rl_fl RX12 235 11 22 := ⟨RX12, TX12, 49, rfl, by decide, i_X12, Or.inl mw_671⟩
theorem fp_X12_235 : rl_fp RX12 235 11 22 .int false := ⟨RX12, TX12, 49, tyX12, rfl, by decide, i_X12, tyX12_ok, nmX12, rfl, tyX12_ok 22 (by decide), (fun h => by cases h), Or.inl mw_671⟩
theorem mt_692 : (Cond.fieldLink "RecordLeavesModel" (238 : Nat) "RecordLeavesModel" "bad" "I") ∈ lw_tbl := List.mem_append_right _ (List.mem_append_right _ (List.mem_append_right _ (List.mem_append_left _ (List.mem_of_getElem? (i := 212) (by decide +kernel)))))
theorem mw_692 : (Cond.fieldLink "RecordLeavesModel" (238 : Nat) "RecordLeavesModel" "bad" "I") ∈ rl_G := rl_inG mt_692 rfl
theorem fl_X12_238 : rl_fl RX12 238 11 43 := ⟨RX12, TX12, 49, rfl, by decide, i_X12, Or.inl mw_692⟩
theorem fp_X12_238 : rl_fp RX12 238 11 43 .int false := ⟨RX12, TX12, 49, tyX12, rfl, by decide, i_X12, tyX12_ok, nmX12, rfl, tyX12_ok 43 (by decide), (fun h => by cases h), Or.inl mw_692⟩
theorem mt_690 : (Cond.fieldLink "RecordLeavesModel" (241 : Nat) "RecordLeavesModel" "at" "I") ∈ lw_tbl := List.mem_append_right _ (List.mem_append_right _ (List.mem_append_right _ (List.mem_append_left _ (List.mem_of_getElem? (i := 210) (by decide +kernel)))))
theorem mw_690 : (Cond.fieldLink "RecordLeavesModel" (241 : Nat) "RecordLeavesModel" "at" "I") ∈ rl_G := rl_inG mt_690 rfl
theorem fl_X12_241 : rl_fl RX12 241 11 41 := ⟨RX12, TX12, 49, rfl, by decide, i_X12, Or.inl mw_690⟩
theorem fp_X12_241 : rl_fp RX12 241 11 41 .int false := ⟨RX12, TX12, 49, tyX12, rfl, by decide, i_X12, tyX12_ok, nmX12, rfl, tyX12_ok 41 (by decide), (fun h => by cases h), Or.inl mw_690⟩
theorem mt_691 : (Cond.fieldLink "RecordLeavesModel" (244 : Nat) "RecordLeavesModel" "last" "I") ∈ lw_tbl := List.mem_append_right _ (List.mem_append_right _ (List.mem_append_right _ (List.mem_append_left _ (List.mem_of_getElem? (i := 211) (by decide +kernel)))))
theorem mw_691 : (Cond.fieldLink "RecordLeavesModel" (244 : Nat) "RecordLeavesModel" "last" "I") ∈ rl_G := rl_inG mt_691 rfl
theorem fl_X12_244 : rl_fl RX12 244 11 42 := ⟨RX12, TX12, 49, rfl, by decide, i_X12, Or.inl mw_691⟩
theorem fp_X12_244 : rl_fp RX12 244 11 42 .int false := ⟨RX12, TX12, 49, tyX12, rfl, by decide, i_X12, tyX12_ok, nmX12, rfl, tyX12_ok 42 (by decide), (fun h => by cases h), Or.inl mw_691⟩
theorem mt_694 : (Cond.fieldLink "RecordLeavesModel" (251 : Nat) "RecordLeavesModel" "deep" "I") ∈ lw_tbl := List.mem_append_right _ (List.mem_append_right _ (List.mem_append_right _ (List.mem_append_left _ (List.mem_of_getElem? (i := 214) (by decide +kernel)))))
theorem mw_694 : (Cond.fieldLink "RecordLeavesModel" (251 : Nat) "RecordLeavesModel" "deep" "I") ∈ rl_G := rl_inG mt_694 rfl
theorem fl_X12_251 : rl_fl RX12 251 11 45 := ⟨RX12, TX12, 49, rfl, by decide, i_X12, Or.inl mw_694⟩
theorem fp_X12_251 : rl_fp RX12 251 11 45 .int false := ⟨RX12, TX12, 49, tyX12, rfl, by decide, i_X12, tyX12_ok, nmX12, rfl, tyX12_ok 45 (by decide), (fun h => by cases h), Or.inl mw_694⟩
theorem mt_693 : (Cond.fieldLink "RecordLeavesModel" (258 : Nat) "RecordLeavesModel" "version" "I") ∈ lw_tbl := List.mem_append_right _ (List.mem_append_right _ (List.mem_append_right _ (List.mem_append_left _ (List.mem_of_getElem? (i := 213) (by decide +kernel)))))
theorem mw_693 : (Cond.fieldLink "RecordLeavesModel" (258 : Nat) "RecordLeavesModel" "version" "I") ∈ rl_G := rl_inG mt_693 rfl
theorem fl_X12_258 : rl_fl RX12 258 11 44 := ⟨RX12, TX12, 49, rfl, by decide, i_X12, Or.inl mw_693⟩
theorem fp_X12_258 : rl_fp RX12 258 11 44 .int false := ⟨RX12, TX12, 49, tyX12, rfl, by decide, i_X12, tyX12_ok, nmX12, rfl, tyX12_ok 44 (by decide), (fun h => by cases h), Or.inl mw_693⟩
theorem mt_678 : (Cond.fieldLink "RecordLeavesModel" (276 : Nat) "RecordLeavesModel" "goodReads" "I") ∈ lw_tbl := List.mem_append_right _ (List.mem_append_right _ (List.mem_append_right _ (List.mem_append_left _ (List.mem_of_getElem? (i := 198) (by decide +kernel)))))
theorem mw_678 : (Cond.fieldLink "RecordLeavesModel" (276 : Nat) "RecordLeavesModel" "goodReads" "I") ∈ rl_G := rl_inG mt_678 rfl
theorem fl_X12_276 : rl_fl RX12 276 11 29 := ⟨RX12, TX12, 49, rfl, by decide, i_X12, Or.inl mw_678⟩
theorem fp_X12_276 : rl_fp RX12 276 11 29 .int false := ⟨RX12, TX12, 49, tyX12, rfl, by decide, i_X12, tyX12_ok, nmX12, rfl, tyX12_ok 29 (by decide), (fun h => by cases h), Or.inl mw_678⟩
theorem mt_679 : (Cond.fieldLink "RecordLeavesModel" (279 : Nat) "RecordLeavesModel" "badReads" "I") ∈ lw_tbl := List.mem_append_right _ (List.mem_append_right _ (List.mem_append_right _ (List.mem_append_left _ (List.mem_of_getElem? (i := 199) (by decide +kernel)))))
theorem mw_679 : (Cond.fieldLink "RecordLeavesModel" (279 : Nat) "RecordLeavesModel" "badReads" "I") ∈ rl_G := rl_inG mt_679 rfl
theorem fl_X12_279 : rl_fl RX12 279 11 30 := ⟨RX12, TX12, 49, rfl, by decide, i_X12, Or.inl mw_679⟩
theorem fp_X12_279 : rl_fp RX12 279 11 30 .int false := ⟨RX12, TX12, 49, tyX12, rfl, by decide, i_X12, tyX12_ok, nmX12, rfl, tyX12_ok 30 (by decide), (fun h => by cases h), Or.inl mw_679⟩
theorem mt_24 : (Cond.classLink "RecordLeaves" (7 : Nat) "RecordLeaves$Kinds") ∈ lw_tbl := List.mem_append_right _ (List.mem_append_left _ (List.mem_of_getElem? (i := 24) (by decide +kernel)))
theorem mw_24 : (Cond.classLink "RecordLeaves" (7 : Nat) "RecordLeaves$Kinds") ∈ rl_G := rl_inG mt_24 rfl
theorem mt_25 : (Cond.instantiable "RecordLeaves$Kinds" (2 : Nat)) ∈ lw_tbl := List.mem_append_right _ (List.mem_append_left _ (List.mem_of_getElem? (i := 25) (by decide +kernel)))
theorem mw_25 : (Cond.instantiable "RecordLeaves$Kinds" (2 : Nat)) ∈ rl_G := rl_inG mt_25 rfl
theorem mt_2 : (Cond.initialized "RecordLeaves$Kinds") ∈ lw_tbl := List.mem_append_right _ (List.mem_append_left _ (List.mem_of_getElem? (i := 2) (by decide +kernel)))
theorem mw_2 : (Cond.initialized "RecordLeaves$Kinds") ∈ rl_G := rl_inG mt_2 rfl
theorem cn_X11_7 : rl_cn RX11 7 3 2 [.null, .null] := ⟨RX3, TX3, tyX3, rfl, i_X3, tyX3_ok, mw_24, mw_25, mw_2, by decide +kernel⟩
theorem mt_97 : (Cond.classLink "RecordLeaves" (16 : Nat) "RecordLeaves$Thing") ∈ lw_tbl := List.mem_append_right _ (List.mem_append_left _ (List.mem_of_getElem? (i := 97) (by decide +kernel)))
theorem mw_97 : (Cond.classLink "RecordLeaves" (16 : Nat) "RecordLeaves$Thing") ∈ rl_G := rl_inG mt_97 rfl
theorem mt_99 : (Cond.classLink "RecordLeaves" (30 : Nat) "RecordLeaves$Tape") ∈ lw_tbl := List.mem_append_right _ (List.mem_append_left _ (List.mem_of_getElem? (i := 99) (by decide +kernel)))
theorem mw_99 : (Cond.classLink "RecordLeaves" (30 : Nat) "RecordLeaves$Tape") ∈ rl_G := rl_inG mt_99 rfl
theorem mt_100 : (Cond.instantiable "RecordLeaves$Tape" (4 : Nat)) ∈ lw_tbl := List.mem_append_right _ (List.mem_append_left _ (List.mem_of_getElem? (i := 100) (by decide +kernel)))
theorem mw_100 : (Cond.instantiable "RecordLeaves$Tape" (4 : Nat)) ∈ rl_G := rl_inG mt_100 rfl
theorem mt_5 : (Cond.initialized "RecordLeaves$Tape") ∈ lw_tbl := List.mem_append_right _ (List.mem_append_left _ (List.mem_of_getElem? (i := 5) (by decide +kernel)))
theorem mw_5 : (Cond.initialized "RecordLeaves$Tape") ∈ rl_G := rl_inG mt_5 rfl
theorem cn_X11_30 : rl_cn RX11 30 9 4 [.null, .null, .int 0, .int 0] := ⟨RX9, TX9, tyX9, rfl, i_X9, tyX9_ok, mw_99, mw_100, mw_5, by decide +kernel⟩
theorem mt_223 : (Cond.classLink "RecordLeaves" (75 : Nat) "RecordLeaves$Part") ∈ lw_tbl := List.mem_append_right _ (List.mem_append_left _ (List.mem_of_getElem? (i := 223) (by decide +kernel)))
theorem mw_223 : (Cond.classLink "RecordLeaves" (75 : Nat) "RecordLeaves$Part") ∈ rl_G := rl_inG mt_223 rfl
theorem mt_224 : (Cond.instantiable "RecordLeaves$Part" (3 : Nat)) ∈ lw_tbl := List.mem_append_right _ (List.mem_append_left _ (List.mem_of_getElem? (i := 224) (by decide +kernel)))
theorem mw_224 : (Cond.instantiable "RecordLeaves$Part" (3 : Nat)) ∈ rl_G := rl_inG mt_224 rfl
theorem mt_9 : (Cond.initialized "RecordLeaves$Part") ∈ lw_tbl := List.mem_append_right _ (List.mem_append_left _ (List.mem_of_getElem? (i := 9) (by decide +kernel)))
theorem mw_9 : (Cond.initialized "RecordLeaves$Part") ∈ rl_G := rl_inG mt_9 rfl
theorem cn_X11_75 : rl_cn RX11 75 4 3 [.int 0, .int 0, .int 0] := ⟨RX4, TX4, tyX4, rfl, i_X4, tyX4_ok, mw_223, mw_224, mw_9, by decide +kernel⟩
theorem mt_262 : (Cond.classLink "RecordLeaves" (91 : Nat) "RecordLeaves$Check") ∈ lw_tbl := List.mem_append_right _ (List.mem_append_right _ (List.mem_append_left _ (List.mem_of_getElem? (i := 22) (by decide +kernel))))
theorem mw_262 : (Cond.classLink "RecordLeaves" (91 : Nat) "RecordLeaves$Check") ∈ rl_G := rl_inG mt_262 rfl
theorem mt_263 : (Cond.instantiable "RecordLeaves$Check" (3 : Nat)) ∈ lw_tbl := List.mem_append_right _ (List.mem_append_right _ (List.mem_append_left _ (List.mem_of_getElem? (i := 23) (by decide +kernel))))
theorem mw_263 : (Cond.instantiable "RecordLeaves$Check" (3 : Nat)) ∈ rl_G := rl_inG mt_263 rfl
theorem mt_10 : (Cond.initialized "RecordLeaves$Check") ∈ lw_tbl := List.mem_append_right _ (List.mem_append_left _ (List.mem_of_getElem? (i := 10) (by decide +kernel)))
theorem mw_10 : (Cond.initialized "RecordLeaves$Check") ∈ rl_G := rl_inG mt_10 rfl
theorem cn_X11_91 : rl_cn RX11 91 0 3 [.int 0, .int 0, .int 0] := ⟨RX0, TX0, tyX0, rfl, i_X0, tyX0_ok, mw_262, mw_263, mw_10, by decide +kernel⟩
theorem mt_290 : (Cond.classLink "RecordLeaves" (103 : Nat) "RecordLeaves$Row") ∈ lw_tbl := List.mem_append_right _ (List.mem_append_right _ (List.mem_append_left _ (List.mem_of_getElem? (i := 50) (by decide +kernel))))
theorem mw_290 : (Cond.classLink "RecordLeaves" (103 : Nat) "RecordLeaves$Row") ∈ rl_G := rl_inG mt_290 rfl
theorem mt_291 : (Cond.instantiable "RecordLeaves$Row" (1 : Nat)) ∈ lw_tbl := List.mem_append_right _ (List.mem_append_right _ (List.mem_append_left _ (List.mem_of_getElem? (i := 51) (by decide +kernel))))
theorem mw_291 : (Cond.instantiable "RecordLeaves$Row" (1 : Nat)) ∈ rl_G := rl_inG mt_291 rfl
theorem mt_11 : (Cond.initialized "RecordLeaves$Row") ∈ lw_tbl := List.mem_append_right _ (List.mem_append_left _ (List.mem_of_getElem? (i := 11) (by decide +kernel)))
theorem mw_11 : (Cond.initialized "RecordLeaves$Row") ∈ rl_G := rl_inG mt_11 rfl
theorem cn_X11_103 : rl_cn RX11 103 8 1 [.null] := ⟨RX8, TX8, tyX8, rfl, i_X8, tyX8_ok, mw_290, mw_291, mw_11, by decide +kernel⟩
theorem mt_338 : (Cond.classLink "RecordLeaves" (115 : Nat) "RecordLeaves$RecordThing") ∈ lw_tbl := List.mem_append_right _ (List.mem_append_right _ (List.mem_append_left _ (List.mem_of_getElem? (i := 98) (by decide +kernel))))
theorem mw_338 : (Cond.classLink "RecordLeaves" (115 : Nat) "RecordLeaves$RecordThing") ∈ rl_G := rl_inG mt_338 rfl
theorem mt_339 : (Cond.instantiable "RecordLeaves$RecordThing" (3 : Nat)) ∈ lw_tbl := List.mem_append_right _ (List.mem_append_right _ (List.mem_append_left _ (List.mem_of_getElem? (i := 99) (by decide +kernel))))
theorem mw_339 : (Cond.instantiable "RecordLeaves$RecordThing" (3 : Nat)) ∈ rl_G := rl_inG mt_339 rfl
theorem mt_13 : (Cond.initialized "RecordLeaves$RecordThing") ∈ lw_tbl := List.mem_append_right _ (List.mem_append_left _ (List.mem_of_getElem? (i := 13) (by decide +kernel)))
theorem mw_13 : (Cond.initialized "RecordLeaves$RecordThing") ∈ rl_G := rl_inG mt_13 rfl
theorem cn_X11_115 : rl_cn RX11 115 6 3 [.null, .null, .null] := ⟨RX6, TX6, tyX6, rfl, i_X6, tyX6_ok, mw_338, mw_339, mw_13, by decide +kernel⟩
theorem mt_539 : (Cond.classLink "RecordLeaves" (174 : Nat) "RecordLeaves$Reader") ∈ lw_tbl := List.mem_append_right _ (List.mem_append_right _ (List.mem_append_right _ (List.mem_append_left _ (List.mem_of_getElem? (i := 59) (by decide +kernel)))))
theorem mw_539 : (Cond.classLink "RecordLeaves" (174 : Nat) "RecordLeaves$Reader") ∈ rl_G := rl_inG mt_539 rfl
theorem mt_540 : (Cond.instantiable "RecordLeaves$Reader" (8 : Nat)) ∈ lw_tbl := List.mem_append_right _ (List.mem_append_right _ (List.mem_append_right _ (List.mem_append_left _ (List.mem_of_getElem? (i := 60) (by decide +kernel)))))
theorem mw_540 : (Cond.instantiable "RecordLeaves$Reader" (8 : Nat)) ∈ rl_G := rl_inG mt_540 rfl
theorem mt_15 : (Cond.initialized "RecordLeaves$Reader") ∈ lw_tbl := List.mem_append_right _ (List.mem_append_left _ (List.mem_of_getElem? (i := 15) (by decide +kernel)))
theorem mw_15 : (Cond.initialized "RecordLeaves$Reader") ∈ rl_G := rl_inG mt_15 rfl
theorem cn_X11_174 : rl_cn RX11 174 5 8 [.null, .null, .int 0, .int 0, .int 0, .int 0, .int 0, .int 0] := ⟨RX5, TX5, tyX5, rfl, i_X5, tyX5_ok, mw_539, mw_540, mw_15, by decide +kernel⟩
theorem mt_436 : (Cond.classLink "RecordLeaves$Check" (22 : Nat) "RecordLeaves$RecordThing") ∈ lw_tbl := List.mem_append_right _ (List.mem_append_right _ (List.mem_append_left _ (List.mem_of_getElem? (i := 196) (by decide +kernel))))
theorem mw_436 : (Cond.classLink "RecordLeaves$Check" (22 : Nat) "RecordLeaves$RecordThing") ∈ rl_G := rl_inG mt_436 rfl
theorem cn_X0_22 : rl_cn RX0 22 6 3 [.null, .null, .null] := ⟨RX6, TX6, tyX6, rfl, i_X6, tyX6_ok, mw_436, mw_339, mw_13, by decide +kernel⟩
theorem mt_432 : (Cond.classLink "RecordLeaves$Check" (51 : Nat) "RecordLeaves$Row") ∈ lw_tbl := List.mem_append_right _ (List.mem_append_right _ (List.mem_append_left _ (List.mem_of_getElem? (i := 192) (by decide +kernel))))
theorem mw_432 : (Cond.classLink "RecordLeaves$Check" (51 : Nat) "RecordLeaves$Row") ∈ rl_G := rl_inG mt_432 rfl
theorem cn_X0_51 : rl_cn RX0 51 8 1 [.null] := ⟨RX8, TX8, tyX8, rfl, i_X8, tyX8_ok, mw_432, mw_291, mw_11, by decide +kernel⟩
theorem mt_442 : (Cond.classLink "RecordLeaves$Check" (65 : Nat) "RecordLeaves$Constant") ∈ lw_tbl := List.mem_append_right _ (List.mem_append_right _ (List.mem_append_left _ (List.mem_of_getElem? (i := 202) (by decide +kernel))))
theorem mw_442 : (Cond.classLink "RecordLeaves$Check" (65 : Nat) "RecordLeaves$Constant") ∈ rl_G := rl_inG mt_442 rfl
theorem mt_181 : (Cond.instantiable "RecordLeaves$Constant" (4 : Nat)) ∈ lw_tbl := List.mem_append_right _ (List.mem_append_left _ (List.mem_of_getElem? (i := 181) (by decide +kernel)))
theorem mw_181 : (Cond.instantiable "RecordLeaves$Constant" (4 : Nat)) ∈ rl_G := rl_inG mt_181 rfl
theorem mt_8 : (Cond.initialized "RecordLeaves$Constant") ∈ lw_tbl := List.mem_append_right _ (List.mem_append_left _ (List.mem_of_getElem? (i := 8) (by decide +kernel)))
theorem mw_8 : (Cond.initialized "RecordLeaves$Constant") ∈ rl_G := rl_inG mt_8 rfl
theorem cn_X0_65 : rl_cn RX0 65 1 4 [.null, .int 0, .int 0, .int 0] := ⟨RX1, TX1, tyX1, rfl, i_X1, tyX1_ok, mw_442, mw_181, mw_8, by decide +kernel⟩
theorem mt_37 : (Cond.classLink "RecordLeaves$EnumVersion" (18 : Nat) "RecordLeaves$Constant") ∈ lw_tbl := List.mem_append_right _ (List.mem_append_left _ (List.mem_of_getElem? (i := 37) (by decide +kernel)))
theorem mw_37 : (Cond.classLink "RecordLeaves$EnumVersion" (18 : Nat) "RecordLeaves$Constant") ∈ rl_G := rl_inG mt_37 rfl
theorem cn_X2_18 : rl_cn RX2 18 1 4 [.null, .int 0, .int 0, .int 0] := ⟨RX1, TX1, tyX1, rfl, i_X1, tyX1_ok, mw_37, mw_181, mw_8, by decide +kernel⟩
theorem mt_30 : (Cond.classLink "RecordLeaves$Kinds" (9 : Nat) "RecordLeaves$EnumVersion") ∈ lw_tbl := List.mem_append_right _ (List.mem_append_left _ (List.mem_of_getElem? (i := 30) (by decide +kernel)))
theorem mw_30 : (Cond.classLink "RecordLeaves$Kinds" (9 : Nat) "RecordLeaves$EnumVersion") ∈ rl_G := rl_inG mt_30 rfl
theorem mt_32 : (Cond.instantiable "RecordLeaves$EnumVersion" (4 : Nat)) ∈ lw_tbl := List.mem_append_right _ (List.mem_append_left _ (List.mem_of_getElem? (i := 32) (by decide +kernel)))
theorem mw_32 : (Cond.instantiable "RecordLeaves$EnumVersion" (4 : Nat)) ∈ rl_G := rl_inG mt_32 rfl
theorem mt_3 : (Cond.initialized "RecordLeaves$EnumVersion") ∈ lw_tbl := List.mem_append_right _ (List.mem_append_left _ (List.mem_of_getElem? (i := 3) (by decide +kernel)))
theorem mw_3 : (Cond.initialized "RecordLeaves$EnumVersion") ∈ rl_G := rl_inG mt_3 rfl
theorem cn_X3_9 : rl_cn RX3 9 2 4 [.int 0, .int 0, .null, .int 0] := ⟨RX2, TX2, tyX2, rfl, i_X2, tyX2_ok, mw_30, mw_32, mw_3, by decide +kernel⟩
theorem mt_54 : (Cond.classLink "RecordLeaves$Kinds" (20 : Nat) "RecordLeaves$RecordVersion") ∈ lw_tbl := List.mem_append_right _ (List.mem_append_left _ (List.mem_of_getElem? (i := 54) (by decide +kernel)))
theorem mw_54 : (Cond.classLink "RecordLeaves$Kinds" (20 : Nat) "RecordLeaves$RecordVersion") ∈ rl_G := rl_inG mt_54 rfl
theorem mt_56 : (Cond.instantiable "RecordLeaves$RecordVersion" (6 : Nat)) ∈ lw_tbl := List.mem_append_right _ (List.mem_append_left _ (List.mem_of_getElem? (i := 56) (by decide +kernel)))
theorem mw_56 : (Cond.instantiable "RecordLeaves$RecordVersion" (6 : Nat)) ∈ rl_G := rl_inG mt_56 rfl
theorem mt_4 : (Cond.initialized "RecordLeaves$RecordVersion") ∈ lw_tbl := List.mem_append_right _ (List.mem_append_left _ (List.mem_of_getElem? (i := 4) (by decide +kernel)))
theorem mw_4 : (Cond.initialized "RecordLeaves$RecordVersion") ∈ rl_G := rl_inG mt_4 rfl
theorem cn_X3_20 : rl_cn RX3 20 7 6 [.int 0, .int 0, .null, .null, .int 0, .int 0] := ⟨RX7, TX7, tyX7, rfl, i_X7, tyX7_ok, mw_54, mw_56, mw_4, by decide +kernel⟩
theorem mt_391 : (Cond.classLink "RecordLeaves$Part" (34 : Nat) "RecordLeaves$Constant") ∈ lw_tbl := List.mem_append_right _ (List.mem_append_right _ (List.mem_append_left _ (List.mem_of_getElem? (i := 151) (by decide +kernel))))
theorem mw_391 : (Cond.classLink "RecordLeaves$Part" (34 : Nat) "RecordLeaves$Constant") ∈ rl_G := rl_inG mt_391 rfl
theorem cn_X4_34 : rl_cn RX4 34 1 4 [.null, .int 0, .int 0, .int 0] := ⟨RX1, TX1, tyX1, rfl, i_X1, tyX1_ok, mw_391, mw_181, mw_8, by decide +kernel⟩
theorem mt_392 : (Cond.classLink "RecordLeaves$Part" (36 : Nat) "RecordLeaves$RecordThing") ∈ lw_tbl := List.mem_append_right _ (List.mem_append_right _ (List.mem_append_left _ (List.mem_of_getElem? (i := 152) (by decide +kernel))))
theorem mw_392 : (Cond.classLink "RecordLeaves$Part" (36 : Nat) "RecordLeaves$RecordThing") ∈ rl_G := rl_inG mt_392 rfl
theorem cn_X4_36 : rl_cn RX4 36 6 3 [.null, .null, .null] := ⟨RX6, TX6, tyX6, rfl, i_X6, tyX6_ok, mw_392, mw_339, mw_13, by decide +kernel⟩
theorem mt_393 : (Cond.classLink "RecordLeaves$Part" (38 : Nat) "RecordLeaves$Row") ∈ lw_tbl := List.mem_append_right _ (List.mem_append_right _ (List.mem_append_left _ (List.mem_of_getElem? (i := 153) (by decide +kernel))))
theorem mw_393 : (Cond.classLink "RecordLeaves$Part" (38 : Nat) "RecordLeaves$Row") ∈ rl_G := rl_inG mt_393 rfl
theorem cn_X4_38 : rl_cn RX4 38 8 1 [.null] := ⟨RX8, TX8, tyX8, rfl, i_X8, tyX8_ok, mw_393, mw_291, mw_11, by decide +kernel⟩
theorem mt_587 : (Cond.classLink "RecordLeaves$Reader" (58 : Nat) "RecordLeaves$RecordThing") ∈ lw_tbl := List.mem_append_right _ (List.mem_append_right _ (List.mem_append_right _ (List.mem_append_left _ (List.mem_of_getElem? (i := 107) (by decide +kernel)))))
theorem mw_587 : (Cond.classLink "RecordLeaves$Reader" (58 : Nat) "RecordLeaves$RecordThing") ∈ rl_G := rl_inG mt_587 rfl
theorem cn_X5_58 : rl_cn RX5 58 6 3 [.null, .null, .null] := ⟨RX6, TX6, tyX6, rfl, i_X6, tyX6_ok, mw_587, mw_339, mw_13, by decide +kernel⟩
theorem mt_616 : (Cond.classLink "RecordLeaves$Reader" (144 : Nat) "RecordLeaves$Row") ∈ lw_tbl := List.mem_append_right _ (List.mem_append_right _ (List.mem_append_right _ (List.mem_append_left _ (List.mem_of_getElem? (i := 136) (by decide +kernel)))))
theorem mw_616 : (Cond.classLink "RecordLeaves$Reader" (144 : Nat) "RecordLeaves$Row") ∈ rl_G := rl_inG mt_616 rfl
theorem cn_X5_144 : rl_cn RX5 144 8 1 [.null] := ⟨RX8, TX8, tyX8, rfl, i_X8, tyX8_ok, mw_616, mw_291, mw_11, by decide +kernel⟩
theorem mt_344 : (Cond.classLink "RecordLeaves$RecordThing" (4 : Nat) "RecordLeaves$Thing") ∈ lw_tbl := List.mem_append_right _ (List.mem_append_right _ (List.mem_append_left _ (List.mem_of_getElem? (i := 104) (by decide +kernel))))
theorem mw_344 : (Cond.classLink "RecordLeaves$RecordThing" (4 : Nat) "RecordLeaves$Thing") ∈ rl_G := rl_inG mt_344 rfl
theorem mt_61 : (Cond.classLink "RecordLeaves$RecordVersion" (18 : Nat) "RecordLeaves$Part") ∈ lw_tbl := List.mem_append_right _ (List.mem_append_left _ (List.mem_of_getElem? (i := 61) (by decide +kernel)))
theorem mw_61 : (Cond.classLink "RecordLeaves$RecordVersion" (18 : Nat) "RecordLeaves$Part") ∈ rl_G := rl_inG mt_61 rfl
theorem cn_X7_18 : rl_cn RX7 18 4 3 [.int 0, .int 0, .int 0] := ⟨RX4, TX4, tyX4, rfl, i_X4, tyX4_ok, mw_61, mw_224, mw_9, by decide +kernel⟩
theorem mt_63 : (Cond.classLink "RecordLeaves$RecordVersion" (24 : Nat) "RecordLeaves$Check") ∈ lw_tbl := List.mem_append_right _ (List.mem_append_left _ (List.mem_of_getElem? (i := 63) (by decide +kernel)))
theorem mw_63 : (Cond.classLink "RecordLeaves$RecordVersion" (24 : Nat) "RecordLeaves$Check") ∈ rl_G := rl_inG mt_63 rfl
theorem cn_X7_24 : rl_cn RX7 24 0 3 [.int 0, .int 0, .int 0] := ⟨RX0, TX0, tyX0, rfl, i_X0, tyX0_ok, mw_63, mw_263, mw_10, by decide +kernel⟩
theorem mt_512 : (Cond.classLink "RecordLeaves$Tape" (42 : Nat) "RecordLeaves$RecordThing") ∈ lw_tbl := List.mem_append_right _ (List.mem_append_right _ (List.mem_append_right _ (List.mem_append_left _ (List.mem_of_getElem? (i := 32) (by decide +kernel)))))
theorem mw_512 : (Cond.classLink "RecordLeaves$Tape" (42 : Nat) "RecordLeaves$RecordThing") ∈ rl_G := rl_inG mt_512 rfl
theorem cn_X9_42 : rl_cn RX9 42 6 3 [.null, .null, .null] := ⟨RX6, TX6, tyX6, rfl, i_X6, tyX6_ok, mw_512, mw_339, mw_13, by decide +kernel⟩
theorem mt_511 : (Cond.classLink "RecordLeaves$Tape" (87 : Nat) "RecordLeaves$Constant") ∈ lw_tbl := List.mem_append_right _ (List.mem_append_right _ (List.mem_append_right _ (List.mem_append_left _ (List.mem_of_getElem? (i := 31) (by decide +kernel)))))
theorem mw_511 : (Cond.classLink "RecordLeaves$Tape" (87 : Nat) "RecordLeaves$Constant") ∈ rl_G := rl_inG mt_511 rfl
theorem cn_X9_87 : rl_cn RX9 87 1 4 [.null, .int 0, .int 0, .int 0] := ⟨RX1, TX1, tyX1, rfl, i_X1, tyX1_ok, mw_511, mw_181, mw_8, by decide +kernel⟩
theorem mt_513 : (Cond.classLink "RecordLeaves$Tape" (90 : Nat) "RecordLeaves$Row") ∈ lw_tbl := List.mem_append_right _ (List.mem_append_right _ (List.mem_append_right _ (List.mem_append_left _ (List.mem_of_getElem? (i := 33) (by decide +kernel)))))
theorem mw_513 : (Cond.classLink "RecordLeaves$Tape" (90 : Nat) "RecordLeaves$Row") ∈ rl_G := rl_inG mt_513 rfl
theorem cn_X9_90 : rl_cn RX9 90 8 1 [.null] := ⟨RX8, TX8, tyX8, rfl, i_X8, tyX8_ok, mw_513, mw_291, mw_11, by decide +kernel⟩
theorem mt_16 : (Cond.classLink "RecordLeavesLaw" (7 : Nat) "RecordLeaves") ∈ lw_tbl := List.mem_append_right _ (List.mem_append_left _ (List.mem_of_getElem? (i := 16) (by decide +kernel)))
theorem mw_16 : (Cond.classLink "RecordLeavesLaw" (7 : Nat) "RecordLeaves") ∈ rl_G := rl_inG mt_16 rfl
theorem mt_17 : (Cond.instantiable "RecordLeaves" (12 : Nat)) ∈ lw_tbl := List.mem_append_right _ (List.mem_append_left _ (List.mem_of_getElem? (i := 17) (by decide +kernel)))
theorem mw_17 : (Cond.instantiable "RecordLeaves" (12 : Nat)) ∈ rl_G := rl_inG mt_17 rfl
theorem mt_1 : (Cond.initialized "RecordLeaves") ∈ lw_tbl := List.mem_append_right _ (List.mem_append_left _ (List.mem_of_getElem? (i := 1) (by decide +kernel)))
theorem mw_1 : (Cond.initialized "RecordLeaves") ∈ rl_G := rl_inG mt_1 rfl
theorem cn_L_7 : rl_cn RL 7 10 12 [.null, .null, .null, .null, .null, .int 0, .int 0, .int 0, .int 0, .int 0, .int 0, .int 0] := ⟨RX11, TX11, tyX11, rfl, i_X11, tyX11_ok, mw_16, mw_17, mw_1, by decide +kernel⟩
theorem mt_640 : (Cond.classLink "RecordLeavesLaw" (10 : Nat) "RecordLeavesModel") ∈ lw_tbl := List.mem_append_right _ (List.mem_append_right _ (List.mem_append_right _ (List.mem_append_left _ (List.mem_of_getElem? (i := 160) (by decide +kernel)))))
theorem mw_640 : (Cond.classLink "RecordLeavesLaw" (10 : Nat) "RecordLeavesModel") ∈ rl_G := rl_inG mt_640 rfl
theorem mt_641 : (Cond.instantiable "RecordLeavesModel" (49 : Nat)) ∈ lw_tbl := List.mem_append_right _ (List.mem_append_right _ (List.mem_append_right _ (List.mem_append_left _ (List.mem_of_getElem? (i := 161) (by decide +kernel)))))
theorem mw_641 : (Cond.instantiable "RecordLeavesModel" (49 : Nat)) ∈ rl_G := rl_inG mt_641 rfl
theorem mt_6 : (Cond.initialized "RecordLeavesModel") ∈ lw_tbl := List.mem_append_right _ (List.mem_append_left _ (List.mem_of_getElem? (i := 6) (by decide +kernel)))
theorem mw_6 : (Cond.initialized "RecordLeavesModel") ∈ rl_G := rl_inG mt_6 rfl
theorem cn_L_10 : rl_cn RL 10 11 49 [.null, .null, .null, .null, .null, .null, .null, .null, .null, .null, .null, .int 0, .null, .null, .int 0, .null, .null, .null, .null, .null, .null, .null, .int 0, .null, .int 0, .int 0, .int 0, .int 0, .int 0, .int 0, .int 0, .null, .null, .int 0, .null, .null, .null, .int 0, .null, .null, .null, .int 0, .int 0, .int 0, .int 0, .int 0, .null, .null, .null] := ⟨RX12, TX12, tyX12, rfl, i_X12, tyX12_ok, mw_640, mw_641, mw_6, by decide +kernel⟩
theorem mt_20 : (Cond.code ({ cls := "RecordLeaves", name := "<init>", desc := "()V" } : MethodName) prog_1_method_1_code (1 : Nat) (Option.none : Option FieldType)) ∈ lw_tbl := List.mem_append_right _ (List.mem_append_left _ (List.mem_of_getElem? (i := 20) (rfl)))
theorem mw_20 : (Cond.code ({ cls := "RecordLeaves", name := "<init>", desc := "()V" } : MethodName) prog_1_method_1_code (1 : Nat) (Option.none : Option FieldType)) ∈ rl_G := rl_inG mt_20 rfl
theorem co_X11_init : Cond.code yX11_init cX11_init 1 none ∈ rl_G := mw_20
theorem mt_19 : (Cond.instanceMethod ({ cls := "RecordLeaves", name := "<init>", desc := "()V" } : MethodName)) ∈ lw_tbl := List.mem_append_right _ (List.mem_append_left _ (List.mem_of_getElem? (i := 19) (by decide +kernel)))
theorem mw_19 : (Cond.instanceMethod ({ cls := "RecordLeaves", name := "<init>", desc := "()V" } : MethodName)) ∈ rl_G := rl_inG mt_19 rfl
theorem im_X11_init : Cond.instanceMethod yX11_init ∈ rl_G := mw_19
theorem mt_28 : (Cond.code ({ cls := "RecordLeaves$Kinds", name := "<init>", desc := "()V" } : MethodName) prog_5_method_1_code (2 : Nat) (Option.none : Option FieldType)) ∈ lw_tbl := List.mem_append_right _ (List.mem_append_left _ (List.mem_of_getElem? (i := 28) (rfl)))
theorem mw_28 : (Cond.code ({ cls := "RecordLeaves$Kinds", name := "<init>", desc := "()V" } : MethodName) prog_5_method_1_code (2 : Nat) (Option.none : Option FieldType)) ∈ rl_G := rl_inG mt_28 rfl
theorem co_X3_init : Cond.code yX3_init cX3_init 2 none ∈ rl_G := mw_28
theorem mt_27 : (Cond.instanceMethod ({ cls := "RecordLeaves$Kinds", name := "<init>", desc := "()V" } : MethodName)) ∈ lw_tbl := List.mem_append_right _ (List.mem_append_left _ (List.mem_of_getElem? (i := 27) (by decide +kernel)))
theorem mw_27 : (Cond.instanceMethod ({ cls := "RecordLeaves$Kinds", name := "<init>", desc := "()V" } : MethodName)) ∈ rl_G := rl_inG mt_27 rfl
theorem im_X3_init : Cond.instanceMethod yX3_init ∈ rl_G := mw_27
theorem mt_35 : (Cond.code ({ cls := "RecordLeaves$EnumVersion", name := "<init>", desc := "(II)V" } : MethodName) prog_4_method_1_code (3 : Nat) (Option.none : Option FieldType)) ∈ lw_tbl := List.mem_append_right _ (List.mem_append_left _ (List.mem_of_getElem? (i := 35) (rfl)))
theorem mw_35 : (Cond.code ({ cls := "RecordLeaves$EnumVersion", name := "<init>", desc := "(II)V" } : MethodName) prog_4_method_1_code (3 : Nat) (Option.none : Option FieldType)) ∈ rl_G := rl_inG mt_35 rfl
theorem co_X2_init : Cond.code yX2_init cX2_init 3 none ∈ rl_G := mw_35
theorem mt_34 : (Cond.instanceMethod ({ cls := "RecordLeaves$EnumVersion", name := "<init>", desc := "(II)V" } : MethodName)) ∈ lw_tbl := List.mem_append_right _ (List.mem_append_left _ (List.mem_of_getElem? (i := 34) (by decide +kernel)))
theorem mw_34 : (Cond.instanceMethod ({ cls := "RecordLeaves$EnumVersion", name := "<init>", desc := "(II)V" } : MethodName)) ∈ rl_G := rl_inG mt_34 rfl
theorem im_X2_init : Cond.instanceMethod yX2_init ∈ rl_G := mw_34
theorem mt_59 : (Cond.code ({ cls := "RecordLeaves$RecordVersion", name := "<init>", desc := "(II)V" } : MethodName) prog_9_method_1_code (3 : Nat) (Option.none : Option FieldType)) ∈ lw_tbl := List.mem_append_right _ (List.mem_append_left _ (List.mem_of_getElem? (i := 59) (rfl)))
theorem mw_59 : (Cond.code ({ cls := "RecordLeaves$RecordVersion", name := "<init>", desc := "(II)V" } : MethodName) prog_9_method_1_code (3 : Nat) (Option.none : Option FieldType)) ∈ rl_G := rl_inG mt_59 rfl
theorem co_X7_init : Cond.code yX7_init cX7_init 3 none ∈ rl_G := mw_59
theorem mt_58 : (Cond.instanceMethod ({ cls := "RecordLeaves$RecordVersion", name := "<init>", desc := "(II)V" } : MethodName)) ∈ lw_tbl := List.mem_append_right _ (List.mem_append_left _ (List.mem_of_getElem? (i := 58) (by decide +kernel)))
theorem mw_58 : (Cond.instanceMethod ({ cls := "RecordLeaves$RecordVersion", name := "<init>", desc := "(II)V" } : MethodName)) ∈ rl_G := rl_inG mt_58 rfl
theorem im_X7_init : Cond.instanceMethod yX7_init ∈ rl_G := mw_58
theorem mt_103 : (Cond.code ({ cls := "RecordLeaves$Tape", name := "<init>", desc := "()V" } : MethodName) prog_11_method_1_code (1 : Nat) (Option.none : Option FieldType)) ∈ lw_tbl := List.mem_append_right _ (List.mem_append_left _ (List.mem_of_getElem? (i := 103) (rfl)))
theorem mw_103 : (Cond.code ({ cls := "RecordLeaves$Tape", name := "<init>", desc := "()V" } : MethodName) prog_11_method_1_code (1 : Nat) (Option.none : Option FieldType)) ∈ rl_G := rl_inG mt_103 rfl
theorem co_X9_init : Cond.code yX9_init cX9_init 1 none ∈ rl_G := mw_103
theorem mt_102 : (Cond.instanceMethod ({ cls := "RecordLeaves$Tape", name := "<init>", desc := "()V" } : MethodName)) ∈ lw_tbl := List.mem_append_right _ (List.mem_append_left _ (List.mem_of_getElem? (i := 102) (by decide +kernel)))
theorem mw_102 : (Cond.instanceMethod ({ cls := "RecordLeaves$Tape", name := "<init>", desc := "()V" } : MethodName)) ∈ rl_G := rl_inG mt_102 rfl
theorem im_X9_init : Cond.instanceMethod yX9_init ∈ rl_G := mw_102
theorem mt_164 : (Cond.code ({ cls := "RecordLeaves", name := "constant", desc := "(IIIZ)I" } : MethodName) prog_1_method_2_code (6 : Nat) (Option.some FieldType.int)) ∈ lw_tbl := List.mem_append_right _ (List.mem_append_left _ (List.mem_of_getElem? (i := 164) (rfl)))
theorem mw_164 : (Cond.code ({ cls := "RecordLeaves", name := "constant", desc := "(IIIZ)I" } : MethodName) prog_1_method_2_code (6 : Nat) (Option.some FieldType.int)) ∈ rl_G := rl_inG mt_164 rfl
theorem co_X11_constant : Cond.code yX11_constant cX11_constant 6 (some FieldType.int) ∈ rl_G := mw_164
theorem mt_162 : (Cond.instanceMethod ({ cls := "RecordLeaves", name := "constant", desc := "(IIIZ)I" } : MethodName)) ∈ lw_tbl := List.mem_append_right _ (List.mem_append_left _ (List.mem_of_getElem? (i := 162) (by decide +kernel)))
theorem mw_162 : (Cond.instanceMethod ({ cls := "RecordLeaves", name := "constant", desc := "(IIIZ)I" } : MethodName)) ∈ rl_G := rl_inG mt_162 rfl
theorem im_X11_constant : Cond.instanceMethod yX11_constant ∈ rl_G := mw_162
theorem mt_163 : (Cond.selects "RecordLeaves" ({ cls := "RecordLeaves", name := "constant", desc := "(IIIZ)I" } : MethodName) ({ cls := "RecordLeaves", name := "constant", desc := "(IIIZ)I" } : MethodName)) ∈ lw_tbl := List.mem_append_right _ (List.mem_append_left _ (List.mem_of_getElem? (i := 163) (by decide +kernel)))
theorem sl_X11_constant : Cond.selects yX11_constant.cls yX11_constant yX11_constant ∈ lw_tbl := mt_163
theorem mt_168 : (Cond.code ({ cls := "RecordLeaves$Kinds", name := "enumVersion", desc := "(II)LRecordLeaves$EnumVersion;" } : MethodName) prog_5_method_2_code (4 : Nat) (Option.some (FieldType.object "RecordLeaves$EnumVersion"))) ∈ lw_tbl := List.mem_append_right _ (List.mem_append_left _ (List.mem_of_getElem? (i := 168) (rfl)))
theorem mw_168 : (Cond.code ({ cls := "RecordLeaves$Kinds", name := "enumVersion", desc := "(II)LRecordLeaves$EnumVersion;" } : MethodName) prog_5_method_2_code (4 : Nat) (Option.some (FieldType.object "RecordLeaves$EnumVersion"))) ∈ rl_G := rl_inG mt_168 rfl
theorem co_X3_enumVersion : Cond.code yX3_enumVersion cX3_enumVersion 4 (some (FieldType.object "RecordLeaves$EnumVersion")) ∈ rl_G := mw_168
theorem mt_166 : (Cond.instanceMethod ({ cls := "RecordLeaves$Kinds", name := "enumVersion", desc := "(II)LRecordLeaves$EnumVersion;" } : MethodName)) ∈ lw_tbl := List.mem_append_right _ (List.mem_append_left _ (List.mem_of_getElem? (i := 166) (by decide +kernel)))
theorem mw_166 : (Cond.instanceMethod ({ cls := "RecordLeaves$Kinds", name := "enumVersion", desc := "(II)LRecordLeaves$EnumVersion;" } : MethodName)) ∈ rl_G := rl_inG mt_166 rfl
theorem im_X3_enumVersion : Cond.instanceMethod yX3_enumVersion ∈ rl_G := mw_166
theorem mt_167 : (Cond.selects "RecordLeaves$Kinds" ({ cls := "RecordLeaves$Kinds", name := "enumVersion", desc := "(II)LRecordLeaves$EnumVersion;" } : MethodName) ({ cls := "RecordLeaves$Kinds", name := "enumVersion", desc := "(II)LRecordLeaves$EnumVersion;" } : MethodName)) ∈ lw_tbl := List.mem_append_right _ (List.mem_append_left _ (List.mem_of_getElem? (i := 167) (by decide +kernel)))
theorem sl_X3_enumVersion : Cond.selects yX3_enumVersion.cls yX3_enumVersion yX3_enumVersion ∈ lw_tbl := mt_167
theorem mt_171 : (Cond.code ({ cls := "RecordLeaves", name := "below", desc := "(II)Z" } : MethodName) prog_1_method_25_code (2 : Nat) (Option.some FieldType.boolean)) ∈ lw_tbl := List.mem_append_right _ (List.mem_append_left _ (List.mem_of_getElem? (i := 171) (rfl)))
theorem mw_171 : (Cond.code ({ cls := "RecordLeaves", name := "below", desc := "(II)Z" } : MethodName) prog_1_method_25_code (2 : Nat) (Option.some FieldType.boolean)) ∈ rl_G := rl_inG mt_171 rfl
theorem co_X11_below : Cond.code yX11_below cX11_below 2 (some FieldType.boolean) ∈ rl_G := mw_171
theorem mt_170 : (Cond.static ({ cls := "RecordLeaves", name := "below", desc := "(II)Z" } : MethodName)) ∈ lw_tbl := List.mem_append_right _ (List.mem_append_left _ (List.mem_of_getElem? (i := 170) (by decide +kernel)))
theorem mw_170 : (Cond.static ({ cls := "RecordLeaves", name := "below", desc := "(II)Z" } : MethodName)) ∈ rl_G := rl_inG mt_170 rfl
theorem sm_X11_below : Cond.static yX11_below ∈ rl_G := mw_170
theorem mt_176 : (Cond.code ({ cls := "RecordLeaves$EnumVersion", name := "named", desc := "(J)LRecordLeaves$Constant;" } : MethodName) prog_4_method_2_code (4 : Nat) (Option.some (FieldType.object "RecordLeaves$Constant"))) ∈ lw_tbl := List.mem_append_right _ (List.mem_append_left _ (List.mem_of_getElem? (i := 176) (rfl)))
theorem mw_176 : (Cond.code ({ cls := "RecordLeaves$EnumVersion", name := "named", desc := "(J)LRecordLeaves$Constant;" } : MethodName) prog_4_method_2_code (4 : Nat) (Option.some (FieldType.object "RecordLeaves$Constant"))) ∈ rl_G := rl_inG mt_176 rfl
theorem co_X2_named : Cond.code yX2_named cX2_named 4 (some (FieldType.object "RecordLeaves$Constant")) ∈ rl_G := mw_176
theorem mt_174 : (Cond.instanceMethod ({ cls := "RecordLeaves$EnumVersion", name := "named", desc := "(J)LRecordLeaves$Constant;" } : MethodName)) ∈ lw_tbl := List.mem_append_right _ (List.mem_append_left _ (List.mem_of_getElem? (i := 174) (by decide +kernel)))
theorem mw_174 : (Cond.instanceMethod ({ cls := "RecordLeaves$EnumVersion", name := "named", desc := "(J)LRecordLeaves$Constant;" } : MethodName)) ∈ rl_G := rl_inG mt_174 rfl
theorem im_X2_named : Cond.instanceMethod yX2_named ∈ rl_G := mw_174
theorem mt_175 : (Cond.selects "RecordLeaves$EnumVersion" ({ cls := "RecordLeaves$EnumVersion", name := "named", desc := "(J)LRecordLeaves$Constant;" } : MethodName) ({ cls := "RecordLeaves$EnumVersion", name := "named", desc := "(J)LRecordLeaves$Constant;" } : MethodName)) ∈ lw_tbl := List.mem_append_right _ (List.mem_append_left _ (List.mem_of_getElem? (i := 175) (by decide +kernel)))
theorem sl_X2_named : Cond.selects yX2_named.cls yX2_named yX2_named ∈ lw_tbl := mt_175
theorem mt_180 : (Cond.code ({ cls := "RecordLeaves$EnumVersion", name := "add", desc := "(IZ)I" } : MethodName) prog_4_method_3_code (3 : Nat) (Option.some FieldType.int)) ∈ lw_tbl := List.mem_append_right _ (List.mem_append_left _ (List.mem_of_getElem? (i := 180) (rfl)))
theorem mw_180 : (Cond.code ({ cls := "RecordLeaves$EnumVersion", name := "add", desc := "(IZ)I" } : MethodName) prog_4_method_3_code (3 : Nat) (Option.some FieldType.int)) ∈ rl_G := rl_inG mt_180 rfl
theorem co_X2_add : Cond.code yX2_add cX2_add 3 (some FieldType.int) ∈ rl_G := mw_180
theorem mt_178 : (Cond.instanceMethod ({ cls := "RecordLeaves$EnumVersion", name := "add", desc := "(IZ)I" } : MethodName)) ∈ lw_tbl := List.mem_append_right _ (List.mem_append_left _ (List.mem_of_getElem? (i := 178) (by decide +kernel)))
theorem mw_178 : (Cond.instanceMethod ({ cls := "RecordLeaves$EnumVersion", name := "add", desc := "(IZ)I" } : MethodName)) ∈ rl_G := rl_inG mt_178 rfl
theorem im_X2_add : Cond.instanceMethod yX2_add ∈ rl_G := mw_178
theorem mt_179 : (Cond.selects "RecordLeaves$EnumVersion" ({ cls := "RecordLeaves$EnumVersion", name := "add", desc := "(IZ)I" } : MethodName) ({ cls := "RecordLeaves$EnumVersion", name := "add", desc := "(IZ)I" } : MethodName)) ∈ lw_tbl := List.mem_append_right _ (List.mem_append_left _ (List.mem_of_getElem? (i := 179) (by decide +kernel)))
theorem sl_X2_add : Cond.selects yX2_add.cls yX2_add yX2_add ∈ lw_tbl := mt_179
theorem mt_184 : (Cond.code ({ cls := "RecordLeaves$Constant", name := "<init>", desc := "(LRecordLeaves$EnumVersion;IIZ)V" } : MethodName) prog_3_method_1_code (5 : Nat) (Option.none : Option FieldType)) ∈ lw_tbl := List.mem_append_right _ (List.mem_append_left _ (List.mem_of_getElem? (i := 184) (rfl)))
theorem mw_184 : (Cond.code ({ cls := "RecordLeaves$Constant", name := "<init>", desc := "(LRecordLeaves$EnumVersion;IIZ)V" } : MethodName) prog_3_method_1_code (5 : Nat) (Option.none : Option FieldType)) ∈ rl_G := rl_inG mt_184 rfl
theorem co_X1_init : Cond.code yX1_init cX1_init 5 none ∈ rl_G := mw_184
theorem mt_183 : (Cond.instanceMethod ({ cls := "RecordLeaves$Constant", name := "<init>", desc := "(LRecordLeaves$EnumVersion;IIZ)V" } : MethodName)) ∈ lw_tbl := List.mem_append_right _ (List.mem_append_left _ (List.mem_of_getElem? (i := 183) (by decide +kernel)))
theorem mw_183 : (Cond.instanceMethod ({ cls := "RecordLeaves$Constant", name := "<init>", desc := "(LRecordLeaves$EnumVersion;IIZ)V" } : MethodName)) ∈ rl_G := rl_inG mt_183 rfl
theorem im_X1_init : Cond.instanceMethod yX1_init ∈ rl_G := mw_183
theorem mt_187 : (Cond.code ({ cls := "RecordLeaves$Thing", name := "<init>", desc := "()V" } : MethodName) prog_12_method_1_code (1 : Nat) (Option.none : Option FieldType)) ∈ lw_tbl := List.mem_append_right _ (List.mem_append_left _ (List.mem_of_getElem? (i := 187) (rfl)))
theorem mw_187 : (Cond.code ({ cls := "RecordLeaves$Thing", name := "<init>", desc := "()V" } : MethodName) prog_12_method_1_code (1 : Nat) (Option.none : Option FieldType)) ∈ rl_G := rl_inG mt_187 rfl
theorem co_X10_init : Cond.code yX10_init cX10_init 1 none ∈ rl_G := mw_187
theorem mt_186 : (Cond.instanceMethod ({ cls := "RecordLeaves$Thing", name := "<init>", desc := "()V" } : MethodName)) ∈ lw_tbl := List.mem_append_right _ (List.mem_append_left _ (List.mem_of_getElem? (i := 186) (by decide +kernel)))
theorem mw_186 : (Cond.instanceMethod ({ cls := "RecordLeaves$Thing", name := "<init>", desc := "()V" } : MethodName)) ∈ rl_G := rl_inG mt_186 rfl
theorem im_X10_init : Cond.instanceMethod yX10_init ∈ rl_G := mw_186
theorem mt_209 : (Cond.code ({ cls := "RecordLeaves", name := "part", desc := "(IIIII)I" } : MethodName) prog_1_method_3_code (7 : Nat) (Option.some FieldType.int)) ∈ lw_tbl := List.mem_append_right _ (List.mem_append_left _ (List.mem_of_getElem? (i := 209) (rfl)))
theorem mw_209 : (Cond.code ({ cls := "RecordLeaves", name := "part", desc := "(IIIII)I" } : MethodName) prog_1_method_3_code (7 : Nat) (Option.some FieldType.int)) ∈ rl_G := rl_inG mt_209 rfl
theorem co_X11_part : Cond.code yX11_part cX11_part 7 (some FieldType.int) ∈ rl_G := mw_209
theorem mt_207 : (Cond.instanceMethod ({ cls := "RecordLeaves", name := "part", desc := "(IIIII)I" } : MethodName)) ∈ lw_tbl := List.mem_append_right _ (List.mem_append_left _ (List.mem_of_getElem? (i := 207) (by decide +kernel)))
theorem mw_207 : (Cond.instanceMethod ({ cls := "RecordLeaves", name := "part", desc := "(IIIII)I" } : MethodName)) ∈ rl_G := rl_inG mt_207 rfl
theorem im_X11_part : Cond.instanceMethod yX11_part ∈ rl_G := mw_207
theorem mt_208 : (Cond.selects "RecordLeaves" ({ cls := "RecordLeaves", name := "part", desc := "(IIIII)I" } : MethodName) ({ cls := "RecordLeaves", name := "part", desc := "(IIIII)I" } : MethodName)) ∈ lw_tbl := List.mem_append_right _ (List.mem_append_left _ (List.mem_of_getElem? (i := 208) (by decide +kernel)))
theorem sl_X11_part : Cond.selects yX11_part.cls yX11_part yX11_part ∈ lw_tbl := mt_208
theorem mt_213 : (Cond.code ({ cls := "RecordLeaves$Kinds", name := "recordVersion", desc := "(JI)LRecordLeaves$RecordVersion;" } : MethodName) prog_5_method_3_code (5 : Nat) (Option.some (FieldType.object "RecordLeaves$RecordVersion"))) ∈ lw_tbl := List.mem_append_right _ (List.mem_append_left _ (List.mem_of_getElem? (i := 213) (rfl)))
theorem mw_213 : (Cond.code ({ cls := "RecordLeaves$Kinds", name := "recordVersion", desc := "(JI)LRecordLeaves$RecordVersion;" } : MethodName) prog_5_method_3_code (5 : Nat) (Option.some (FieldType.object "RecordLeaves$RecordVersion"))) ∈ rl_G := rl_inG mt_213 rfl
theorem co_X3_recordVersion : Cond.code yX3_recordVersion cX3_recordVersion 5 (some (FieldType.object "RecordLeaves$RecordVersion")) ∈ rl_G := mw_213
theorem mt_211 : (Cond.instanceMethod ({ cls := "RecordLeaves$Kinds", name := "recordVersion", desc := "(JI)LRecordLeaves$RecordVersion;" } : MethodName)) ∈ lw_tbl := List.mem_append_right _ (List.mem_append_left _ (List.mem_of_getElem? (i := 211) (by decide +kernel)))
theorem mw_211 : (Cond.instanceMethod ({ cls := "RecordLeaves$Kinds", name := "recordVersion", desc := "(JI)LRecordLeaves$RecordVersion;" } : MethodName)) ∈ rl_G := rl_inG mt_211 rfl
theorem im_X3_recordVersion : Cond.instanceMethod yX3_recordVersion ∈ rl_G := mw_211
theorem mt_212 : (Cond.selects "RecordLeaves$Kinds" ({ cls := "RecordLeaves$Kinds", name := "recordVersion", desc := "(JI)LRecordLeaves$RecordVersion;" } : MethodName) ({ cls := "RecordLeaves$Kinds", name := "recordVersion", desc := "(JI)LRecordLeaves$RecordVersion;" } : MethodName)) ∈ lw_tbl := List.mem_append_right _ (List.mem_append_left _ (List.mem_of_getElem? (i := 212) (by decide +kernel)))
theorem sl_X3_recordVersion : Cond.selects yX3_recordVersion.cls yX3_recordVersion yX3_recordVersion ∈ lw_tbl := mt_212
theorem mt_218 : (Cond.code ({ cls := "RecordLeaves", name := "mayBeOf", desc := "(II)Z" } : MethodName) prog_1_method_26_code (2 : Nat) (Option.some FieldType.boolean)) ∈ lw_tbl := List.mem_append_right _ (List.mem_append_left _ (List.mem_of_getElem? (i := 218) (rfl)))
theorem mw_218 : (Cond.code ({ cls := "RecordLeaves", name := "mayBeOf", desc := "(II)Z" } : MethodName) prog_1_method_26_code (2 : Nat) (Option.some FieldType.boolean)) ∈ rl_G := rl_inG mt_218 rfl
theorem co_X11_mayBeOf : Cond.code yX11_mayBeOf cX11_mayBeOf 2 (some FieldType.boolean) ∈ rl_G := mw_218
theorem mt_217 : (Cond.static ({ cls := "RecordLeaves", name := "mayBeOf", desc := "(II)Z" } : MethodName)) ∈ lw_tbl := List.mem_append_right _ (List.mem_append_left _ (List.mem_of_getElem? (i := 217) (by decide +kernel)))
theorem mw_217 : (Cond.static ({ cls := "RecordLeaves", name := "mayBeOf", desc := "(II)Z" } : MethodName)) ∈ rl_G := rl_inG mt_217 rfl
theorem sm_X11_mayBeOf : Cond.static yX11_mayBeOf ∈ rl_G := mw_217
theorem mt_222 : (Cond.code ({ cls := "RecordLeaves$RecordVersion", name := "partNamed", desc := "(J)I" } : MethodName) prog_9_method_2_code (4 : Nat) (Option.some FieldType.int)) ∈ lw_tbl := List.mem_append_right _ (List.mem_append_left _ (List.mem_of_getElem? (i := 222) (rfl)))
theorem mw_222 : (Cond.code ({ cls := "RecordLeaves$RecordVersion", name := "partNamed", desc := "(J)I" } : MethodName) prog_9_method_2_code (4 : Nat) (Option.some FieldType.int)) ∈ rl_G := rl_inG mt_222 rfl
theorem co_X7_partNamed : Cond.code yX7_partNamed cX7_partNamed 4 (some FieldType.int) ∈ rl_G := mw_222
theorem mt_220 : (Cond.instanceMethod ({ cls := "RecordLeaves$RecordVersion", name := "partNamed", desc := "(J)I" } : MethodName)) ∈ lw_tbl := List.mem_append_right _ (List.mem_append_left _ (List.mem_of_getElem? (i := 220) (by decide +kernel)))
theorem mw_220 : (Cond.instanceMethod ({ cls := "RecordLeaves$RecordVersion", name := "partNamed", desc := "(J)I" } : MethodName)) ∈ rl_G := rl_inG mt_220 rfl
theorem im_X7_partNamed : Cond.instanceMethod yX7_partNamed ∈ rl_G := mw_220
theorem mt_221 : (Cond.selects "RecordLeaves$RecordVersion" ({ cls := "RecordLeaves$RecordVersion", name := "partNamed", desc := "(J)I" } : MethodName) ({ cls := "RecordLeaves$RecordVersion", name := "partNamed", desc := "(J)I" } : MethodName)) ∈ lw_tbl := List.mem_append_right _ (List.mem_append_left _ (List.mem_of_getElem? (i := 221) (by decide +kernel)))
theorem sl_X7_partNamed : Cond.selects yX7_partNamed.cls yX7_partNamed yX7_partNamed ∈ lw_tbl := mt_221
theorem mt_227 : (Cond.code ({ cls := "RecordLeaves$Part", name := "<init>", desc := "(III)V" } : MethodName) prog_6_method_1_code (4 : Nat) (Option.none : Option FieldType)) ∈ lw_tbl := List.mem_append_right _ (List.mem_append_left _ (List.mem_of_getElem? (i := 227) (rfl)))
theorem mw_227 : (Cond.code ({ cls := "RecordLeaves$Part", name := "<init>", desc := "(III)V" } : MethodName) prog_6_method_1_code (4 : Nat) (Option.none : Option FieldType)) ∈ rl_G := rl_inG mt_227 rfl
theorem co_X4_init : Cond.code yX4_init cX4_init 4 none ∈ rl_G := mw_227
theorem mt_226 : (Cond.instanceMethod ({ cls := "RecordLeaves$Part", name := "<init>", desc := "(III)V" } : MethodName)) ∈ lw_tbl := List.mem_append_right _ (List.mem_append_left _ (List.mem_of_getElem? (i := 226) (by decide +kernel)))
theorem mw_226 : (Cond.instanceMethod ({ cls := "RecordLeaves$Part", name := "<init>", desc := "(III)V" } : MethodName)) ∈ rl_G := rl_inG mt_226 rfl
theorem im_X4_init : Cond.instanceMethod yX4_init ∈ rl_G := mw_226
theorem mt_249 : (Cond.code ({ cls := "RecordLeaves$RecordVersion", name := "addPart", desc := "(LRecordLeaves$Part;)I" } : MethodName) prog_9_method_4_code (2 : Nat) (Option.some FieldType.int)) ∈ lw_tbl := List.mem_append_right _ (List.mem_append_right _ (List.mem_append_left _ (List.mem_of_getElem? (i := 9) (rfl))))
theorem mw_249 : (Cond.code ({ cls := "RecordLeaves$RecordVersion", name := "addPart", desc := "(LRecordLeaves$Part;)I" } : MethodName) prog_9_method_4_code (2 : Nat) (Option.some FieldType.int)) ∈ rl_G := rl_inG mt_249 rfl
theorem co_X7_addPart : Cond.code yX7_addPart cX7_addPart 2 (some FieldType.int) ∈ rl_G := mw_249
theorem mt_247 : (Cond.instanceMethod ({ cls := "RecordLeaves$RecordVersion", name := "addPart", desc := "(LRecordLeaves$Part;)I" } : MethodName)) ∈ lw_tbl := List.mem_append_right _ (List.mem_append_right _ (List.mem_append_left _ (List.mem_of_getElem? (i := 7) (by decide +kernel))))
theorem mw_247 : (Cond.instanceMethod ({ cls := "RecordLeaves$RecordVersion", name := "addPart", desc := "(LRecordLeaves$Part;)I" } : MethodName)) ∈ rl_G := rl_inG mt_247 rfl
theorem im_X7_addPart : Cond.instanceMethod yX7_addPart ∈ rl_G := mw_247
theorem mt_248 : (Cond.selects "RecordLeaves$RecordVersion" ({ cls := "RecordLeaves$RecordVersion", name := "addPart", desc := "(LRecordLeaves$Part;)I" } : MethodName) ({ cls := "RecordLeaves$RecordVersion", name := "addPart", desc := "(LRecordLeaves$Part;)I" } : MethodName)) ∈ lw_tbl := List.mem_append_right _ (List.mem_append_right _ (List.mem_append_left _ (List.mem_of_getElem? (i := 8) (by decide +kernel))))
theorem sl_X7_addPart : Cond.selects yX7_addPart.cls yX7_addPart yX7_addPart ∈ lw_tbl := mt_248
theorem mt_253 : (Cond.code ({ cls := "RecordLeaves", name := "check", desc := "(IIIII)I" } : MethodName) prog_1_method_4_code (7 : Nat) (Option.some FieldType.int)) ∈ lw_tbl := List.mem_append_right _ (List.mem_append_right _ (List.mem_append_left _ (List.mem_of_getElem? (i := 13) (rfl))))
theorem mw_253 : (Cond.code ({ cls := "RecordLeaves", name := "check", desc := "(IIIII)I" } : MethodName) prog_1_method_4_code (7 : Nat) (Option.some FieldType.int)) ∈ rl_G := rl_inG mt_253 rfl
theorem co_X11_check : Cond.code yX11_check cX11_check 7 (some FieldType.int) ∈ rl_G := mw_253
theorem mt_251 : (Cond.instanceMethod ({ cls := "RecordLeaves", name := "check", desc := "(IIIII)I" } : MethodName)) ∈ lw_tbl := List.mem_append_right _ (List.mem_append_right _ (List.mem_append_left _ (List.mem_of_getElem? (i := 11) (by decide +kernel))))
theorem mw_251 : (Cond.instanceMethod ({ cls := "RecordLeaves", name := "check", desc := "(IIIII)I" } : MethodName)) ∈ rl_G := rl_inG mt_251 rfl
theorem im_X11_check : Cond.instanceMethod yX11_check ∈ rl_G := mw_251
theorem mt_252 : (Cond.selects "RecordLeaves" ({ cls := "RecordLeaves", name := "check", desc := "(IIIII)I" } : MethodName) ({ cls := "RecordLeaves", name := "check", desc := "(IIIII)I" } : MethodName)) ∈ lw_tbl := List.mem_append_right _ (List.mem_append_right _ (List.mem_append_left _ (List.mem_of_getElem? (i := 12) (by decide +kernel))))
theorem sl_X11_check : Cond.selects yX11_check.cls yX11_check yX11_check ∈ lw_tbl := mt_252
theorem mt_256 : (Cond.code ({ cls := "RecordLeaves", name := "sortChecked", desc := "(I)I" } : MethodName) prog_1_method_27_code (1 : Nat) (Option.some FieldType.int)) ∈ lw_tbl := List.mem_append_right _ (List.mem_append_right _ (List.mem_append_left _ (List.mem_of_getElem? (i := 16) (rfl))))
theorem mw_256 : (Cond.code ({ cls := "RecordLeaves", name := "sortChecked", desc := "(I)I" } : MethodName) prog_1_method_27_code (1 : Nat) (Option.some FieldType.int)) ∈ rl_G := rl_inG mt_256 rfl
theorem co_X11_sortChecked : Cond.code yX11_sortChecked cX11_sortChecked 1 (some FieldType.int) ∈ rl_G := mw_256
theorem mt_255 : (Cond.static ({ cls := "RecordLeaves", name := "sortChecked", desc := "(I)I" } : MethodName)) ∈ lw_tbl := List.mem_append_right _ (List.mem_append_right _ (List.mem_append_left _ (List.mem_of_getElem? (i := 15) (by decide +kernel))))
theorem mw_255 : (Cond.static ({ cls := "RecordLeaves", name := "sortChecked", desc := "(I)I" } : MethodName)) ∈ rl_G := rl_inG mt_255 rfl
theorem sm_X11_sortChecked : Cond.static yX11_sortChecked ∈ rl_G := mw_255
theorem mt_260 : (Cond.code ({ cls := "RecordLeaves$RecordVersion", name := "hasPart", desc := "(II)Z" } : MethodName) prog_9_method_3_code (3 : Nat) (Option.some FieldType.boolean)) ∈ lw_tbl := List.mem_append_right _ (List.mem_append_right _ (List.mem_append_left _ (List.mem_of_getElem? (i := 20) (rfl))))
theorem mw_260 : (Cond.code ({ cls := "RecordLeaves$RecordVersion", name := "hasPart", desc := "(II)Z" } : MethodName) prog_9_method_3_code (3 : Nat) (Option.some FieldType.boolean)) ∈ rl_G := rl_inG mt_260 rfl
theorem co_X7_hasPart : Cond.code yX7_hasPart cX7_hasPart 3 (some FieldType.boolean) ∈ rl_G := mw_260
theorem mt_258 : (Cond.instanceMethod ({ cls := "RecordLeaves$RecordVersion", name := "hasPart", desc := "(II)Z" } : MethodName)) ∈ lw_tbl := List.mem_append_right _ (List.mem_append_right _ (List.mem_append_left _ (List.mem_of_getElem? (i := 18) (by decide +kernel))))
theorem mw_258 : (Cond.instanceMethod ({ cls := "RecordLeaves$RecordVersion", name := "hasPart", desc := "(II)Z" } : MethodName)) ∈ rl_G := rl_inG mt_258 rfl
theorem im_X7_hasPart : Cond.instanceMethod yX7_hasPart ∈ rl_G := mw_258
theorem mt_259 : (Cond.selects "RecordLeaves$RecordVersion" ({ cls := "RecordLeaves$RecordVersion", name := "hasPart", desc := "(II)Z" } : MethodName) ({ cls := "RecordLeaves$RecordVersion", name := "hasPart", desc := "(II)Z" } : MethodName)) ∈ lw_tbl := List.mem_append_right _ (List.mem_append_right _ (List.mem_append_left _ (List.mem_of_getElem? (i := 19) (by decide +kernel))))
theorem sl_X7_hasPart : Cond.selects yX7_hasPart.cls yX7_hasPart yX7_hasPart ∈ lw_tbl := mt_259
theorem mt_266 : (Cond.code ({ cls := "RecordLeaves$Check", name := "<init>", desc := "(III)V" } : MethodName) prog_2_method_1_code (4 : Nat) (Option.none : Option FieldType)) ∈ lw_tbl := List.mem_append_right _ (List.mem_append_right _ (List.mem_append_left _ (List.mem_of_getElem? (i := 26) (rfl))))
theorem mw_266 : (Cond.code ({ cls := "RecordLeaves$Check", name := "<init>", desc := "(III)V" } : MethodName) prog_2_method_1_code (4 : Nat) (Option.none : Option FieldType)) ∈ rl_G := rl_inG mt_266 rfl
theorem co_X0_init : Cond.code yX0_init cX0_init 4 none ∈ rl_G := mw_266
theorem mt_265 : (Cond.instanceMethod ({ cls := "RecordLeaves$Check", name := "<init>", desc := "(III)V" } : MethodName)) ∈ lw_tbl := List.mem_append_right _ (List.mem_append_right _ (List.mem_append_left _ (List.mem_of_getElem? (i := 25) (by decide +kernel))))
theorem mw_265 : (Cond.instanceMethod ({ cls := "RecordLeaves$Check", name := "<init>", desc := "(III)V" } : MethodName)) ∈ rl_G := rl_inG mt_265 rfl
theorem im_X0_init : Cond.instanceMethod yX0_init ∈ rl_G := mw_265
theorem mt_281 : (Cond.code ({ cls := "RecordLeaves$RecordVersion", name := "addCheck", desc := "(LRecordLeaves$Check;)I" } : MethodName) prog_9_method_5_code (2 : Nat) (Option.some FieldType.int)) ∈ lw_tbl := List.mem_append_right _ (List.mem_append_right _ (List.mem_append_left _ (List.mem_of_getElem? (i := 41) (rfl))))
theorem mw_281 : (Cond.code ({ cls := "RecordLeaves$RecordVersion", name := "addCheck", desc := "(LRecordLeaves$Check;)I" } : MethodName) prog_9_method_5_code (2 : Nat) (Option.some FieldType.int)) ∈ rl_G := rl_inG mt_281 rfl
theorem co_X7_addCheck : Cond.code yX7_addCheck cX7_addCheck 2 (some FieldType.int) ∈ rl_G := mw_281
theorem mt_279 : (Cond.instanceMethod ({ cls := "RecordLeaves$RecordVersion", name := "addCheck", desc := "(LRecordLeaves$Check;)I" } : MethodName)) ∈ lw_tbl := List.mem_append_right _ (List.mem_append_right _ (List.mem_append_left _ (List.mem_of_getElem? (i := 39) (by decide +kernel))))
theorem mw_279 : (Cond.instanceMethod ({ cls := "RecordLeaves$RecordVersion", name := "addCheck", desc := "(LRecordLeaves$Check;)I" } : MethodName)) ∈ rl_G := rl_inG mt_279 rfl
theorem im_X7_addCheck : Cond.instanceMethod yX7_addCheck ∈ rl_G := mw_279
theorem mt_280 : (Cond.selects "RecordLeaves$RecordVersion" ({ cls := "RecordLeaves$RecordVersion", name := "addCheck", desc := "(LRecordLeaves$Check;)I" } : MethodName) ({ cls := "RecordLeaves$RecordVersion", name := "addCheck", desc := "(LRecordLeaves$Check;)I" } : MethodName)) ∈ lw_tbl := List.mem_append_right _ (List.mem_append_right _ (List.mem_append_left _ (List.mem_of_getElem? (i := 40) (by decide +kernel))))
theorem sl_X7_addCheck : Cond.selects yX7_addCheck.cls yX7_addCheck yX7_addCheck ∈ lw_tbl := mt_280
theorem mt_285 : (Cond.code ({ cls := "RecordLeaves", name := "hold", desc := "(IIII)I" } : MethodName) prog_1_method_5_code (7 : Nat) (Option.some FieldType.int)) ∈ lw_tbl := List.mem_append_right _ (List.mem_append_right _ (List.mem_append_left _ (List.mem_of_getElem? (i := 45) (rfl))))
theorem mw_285 : (Cond.code ({ cls := "RecordLeaves", name := "hold", desc := "(IIII)I" } : MethodName) prog_1_method_5_code (7 : Nat) (Option.some FieldType.int)) ∈ rl_G := rl_inG mt_285 rfl
theorem co_X11_hold : Cond.code yX11_hold cX11_hold 7 (some FieldType.int) ∈ rl_G := mw_285
theorem mt_283 : (Cond.instanceMethod ({ cls := "RecordLeaves", name := "hold", desc := "(IIII)I" } : MethodName)) ∈ lw_tbl := List.mem_append_right _ (List.mem_append_right _ (List.mem_append_left _ (List.mem_of_getElem? (i := 43) (by decide +kernel))))
theorem mw_283 : (Cond.instanceMethod ({ cls := "RecordLeaves", name := "hold", desc := "(IIII)I" } : MethodName)) ∈ rl_G := rl_inG mt_283 rfl
theorem im_X11_hold : Cond.instanceMethod yX11_hold ∈ rl_G := mw_283
theorem mt_284 : (Cond.selects "RecordLeaves" ({ cls := "RecordLeaves", name := "hold", desc := "(IIII)I" } : MethodName) ({ cls := "RecordLeaves", name := "hold", desc := "(IIII)I" } : MethodName)) ∈ lw_tbl := List.mem_append_right _ (List.mem_append_right _ (List.mem_append_left _ (List.mem_of_getElem? (i := 44) (by decide +kernel))))
theorem sl_X11_hold : Cond.selects yX11_hold.cls yX11_hold yX11_hold ∈ lw_tbl := mt_284
theorem mt_289 : (Cond.code ({ cls := "RecordLeaves", name := "row", desc := "(II)I" } : MethodName) prog_1_method_6_code (3 : Nat) (Option.some FieldType.int)) ∈ lw_tbl := List.mem_append_right _ (List.mem_append_right _ (List.mem_append_left _ (List.mem_of_getElem? (i := 49) (rfl))))
theorem mw_289 : (Cond.code ({ cls := "RecordLeaves", name := "row", desc := "(II)I" } : MethodName) prog_1_method_6_code (3 : Nat) (Option.some FieldType.int)) ∈ rl_G := rl_inG mt_289 rfl
theorem co_X11_row : Cond.code yX11_row cX11_row 3 (some FieldType.int) ∈ rl_G := mw_289
theorem mt_287 : (Cond.instanceMethod ({ cls := "RecordLeaves", name := "row", desc := "(II)I" } : MethodName)) ∈ lw_tbl := List.mem_append_right _ (List.mem_append_right _ (List.mem_append_left _ (List.mem_of_getElem? (i := 47) (by decide +kernel))))
theorem mw_287 : (Cond.instanceMethod ({ cls := "RecordLeaves", name := "row", desc := "(II)I" } : MethodName)) ∈ rl_G := rl_inG mt_287 rfl
theorem im_X11_row : Cond.instanceMethod yX11_row ∈ rl_G := mw_287
theorem mt_288 : (Cond.selects "RecordLeaves" ({ cls := "RecordLeaves", name := "row", desc := "(II)I" } : MethodName) ({ cls := "RecordLeaves", name := "row", desc := "(II)I" } : MethodName)) ∈ lw_tbl := List.mem_append_right _ (List.mem_append_right _ (List.mem_append_left _ (List.mem_of_getElem? (i := 48) (by decide +kernel))))
theorem sl_X11_row : Cond.selects yX11_row.cls yX11_row yX11_row ∈ lw_tbl := mt_288
theorem mt_294 : (Cond.code ({ cls := "RecordLeaves$Row", name := "<init>", desc := "(I)V" } : MethodName) prog_10_method_1_code (2 : Nat) (Option.none : Option FieldType)) ∈ lw_tbl := List.mem_append_right _ (List.mem_append_right _ (List.mem_append_left _ (List.mem_of_getElem? (i := 54) (rfl))))
theorem mw_294 : (Cond.code ({ cls := "RecordLeaves$Row", name := "<init>", desc := "(I)V" } : MethodName) prog_10_method_1_code (2 : Nat) (Option.none : Option FieldType)) ∈ rl_G := rl_inG mt_294 rfl
theorem co_X8_init : Cond.code yX8_init cX8_init 2 none ∈ rl_G := mw_294
theorem mt_293 : (Cond.instanceMethod ({ cls := "RecordLeaves$Row", name := "<init>", desc := "(I)V" } : MethodName)) ∈ lw_tbl := List.mem_append_right _ (List.mem_append_right _ (List.mem_append_left _ (List.mem_of_getElem? (i := 53) (by decide +kernel))))
theorem mw_293 : (Cond.instanceMethod ({ cls := "RecordLeaves$Row", name := "<init>", desc := "(I)V" } : MethodName)) ∈ rl_G := rl_inG mt_293 rfl
theorem im_X8_init : Cond.instanceMethod yX8_init ∈ rl_G := mw_293
theorem mt_310 : (Cond.code ({ cls := "RecordLeaves", name := "item", desc := "(III)I" } : MethodName) prog_1_method_7_code (6 : Nat) (Option.some FieldType.int)) ∈ lw_tbl := List.mem_append_right _ (List.mem_append_right _ (List.mem_append_left _ (List.mem_of_getElem? (i := 70) (rfl))))
theorem mw_310 : (Cond.code ({ cls := "RecordLeaves", name := "item", desc := "(III)I" } : MethodName) prog_1_method_7_code (6 : Nat) (Option.some FieldType.int)) ∈ rl_G := rl_inG mt_310 rfl
theorem co_X11_item : Cond.code yX11_item cX11_item 6 (some FieldType.int) ∈ rl_G := mw_310
theorem mt_308 : (Cond.instanceMethod ({ cls := "RecordLeaves", name := "item", desc := "(III)I" } : MethodName)) ∈ lw_tbl := List.mem_append_right _ (List.mem_append_right _ (List.mem_append_left _ (List.mem_of_getElem? (i := 68) (by decide +kernel))))
theorem mw_308 : (Cond.instanceMethod ({ cls := "RecordLeaves", name := "item", desc := "(III)I" } : MethodName)) ∈ rl_G := rl_inG mt_308 rfl
theorem im_X11_item : Cond.instanceMethod yX11_item ∈ rl_G := mw_308
theorem mt_309 : (Cond.selects "RecordLeaves" ({ cls := "RecordLeaves", name := "item", desc := "(III)I" } : MethodName) ({ cls := "RecordLeaves", name := "item", desc := "(III)I" } : MethodName)) ∈ lw_tbl := List.mem_append_right _ (List.mem_append_right _ (List.mem_append_left _ (List.mem_of_getElem? (i := 69) (by decide +kernel))))
theorem sl_X11_item : Cond.selects yX11_item.cls yX11_item yX11_item ∈ lw_tbl := mt_309
theorem mt_314 : (Cond.code ({ cls := "RecordLeaves", name := "share", desc := "(II)I" } : MethodName) prog_1_method_8_code (3 : Nat) (Option.some FieldType.int)) ∈ lw_tbl := List.mem_append_right _ (List.mem_append_right _ (List.mem_append_left _ (List.mem_of_getElem? (i := 74) (rfl))))
theorem mw_314 : (Cond.code ({ cls := "RecordLeaves", name := "share", desc := "(II)I" } : MethodName) prog_1_method_8_code (3 : Nat) (Option.some FieldType.int)) ∈ rl_G := rl_inG mt_314 rfl
theorem co_X11_share : Cond.code yX11_share cX11_share 3 (some FieldType.int) ∈ rl_G := mw_314
theorem mt_312 : (Cond.instanceMethod ({ cls := "RecordLeaves", name := "share", desc := "(II)I" } : MethodName)) ∈ lw_tbl := List.mem_append_right _ (List.mem_append_right _ (List.mem_append_left _ (List.mem_of_getElem? (i := 72) (by decide +kernel))))
theorem mw_312 : (Cond.instanceMethod ({ cls := "RecordLeaves", name := "share", desc := "(II)I" } : MethodName)) ∈ rl_G := rl_inG mt_312 rfl
theorem im_X11_share : Cond.instanceMethod yX11_share ∈ rl_G := mw_312
theorem mt_313 : (Cond.selects "RecordLeaves" ({ cls := "RecordLeaves", name := "share", desc := "(II)I" } : MethodName) ({ cls := "RecordLeaves", name := "share", desc := "(II)I" } : MethodName)) ∈ lw_tbl := List.mem_append_right _ (List.mem_append_right _ (List.mem_append_left _ (List.mem_of_getElem? (i := 73) (by decide +kernel))))
theorem sl_X11_share : Cond.selects yX11_share.cls yX11_share yX11_share ∈ lw_tbl := mt_313
theorem mt_317 : (Cond.code ({ cls := "RecordLeaves", name := "familyOf", desc := "(LRecordLeaves$Thing;)I" } : MethodName) prog_1_method_28_code (1 : Nat) (Option.some FieldType.int)) ∈ lw_tbl := List.mem_append_right _ (List.mem_append_right _ (List.mem_append_left _ (List.mem_of_getElem? (i := 77) (rfl))))
theorem mw_317 : (Cond.code ({ cls := "RecordLeaves", name := "familyOf", desc := "(LRecordLeaves$Thing;)I" } : MethodName) prog_1_method_28_code (1 : Nat) (Option.some FieldType.int)) ∈ rl_G := rl_inG mt_317 rfl
theorem co_X11_familyOf : Cond.code yX11_familyOf cX11_familyOf 1 (some FieldType.int) ∈ rl_G := mw_317
theorem mt_316 : (Cond.static ({ cls := "RecordLeaves", name := "familyOf", desc := "(LRecordLeaves$Thing;)I" } : MethodName)) ∈ lw_tbl := List.mem_append_right _ (List.mem_append_right _ (List.mem_append_left _ (List.mem_of_getElem? (i := 76) (by decide +kernel))))
theorem mw_316 : (Cond.static ({ cls := "RecordLeaves", name := "familyOf", desc := "(LRecordLeaves$Thing;)I" } : MethodName)) ∈ rl_G := rl_inG mt_316 rfl
theorem sm_X11_familyOf : Cond.static yX11_familyOf ∈ rl_G := mw_316
theorem mt_323 : (Cond.code ({ cls := "RecordLeaves$Constant", name := "family", desc := "()I" } : MethodName) prog_3_method_2_code (1 : Nat) (Option.some FieldType.int)) ∈ lw_tbl := List.mem_append_right _ (List.mem_append_right _ (List.mem_append_left _ (List.mem_of_getElem? (i := 83) (rfl))))
theorem mw_323 : (Cond.code ({ cls := "RecordLeaves$Constant", name := "family", desc := "()I" } : MethodName) prog_3_method_2_code (1 : Nat) (Option.some FieldType.int)) ∈ rl_G := rl_inG mt_323 rfl
theorem co_X1_family : Cond.code yX1_family cX1_family 1 (some FieldType.int) ∈ rl_G := mw_323
theorem mt_322 : (Cond.instanceMethod ({ cls := "RecordLeaves$Constant", name := "family", desc := "()I" } : MethodName)) ∈ lw_tbl := List.mem_append_right _ (List.mem_append_right _ (List.mem_append_left _ (List.mem_of_getElem? (i := 82) (by decide +kernel))))
theorem mw_322 : (Cond.instanceMethod ({ cls := "RecordLeaves$Constant", name := "family", desc := "()I" } : MethodName)) ∈ rl_G := rl_inG mt_322 rfl
theorem im_X1_family : Cond.instanceMethod yX1_family ∈ rl_G := mw_322
theorem mt_326 : (Cond.code ({ cls := "RecordLeaves$RecordThing", name := "family", desc := "()I" } : MethodName) prog_8_method_2_code (1 : Nat) (Option.some FieldType.int)) ∈ lw_tbl := List.mem_append_right _ (List.mem_append_right _ (List.mem_append_left _ (List.mem_of_getElem? (i := 86) (rfl))))
theorem mw_326 : (Cond.code ({ cls := "RecordLeaves$RecordThing", name := "family", desc := "()I" } : MethodName) prog_8_method_2_code (1 : Nat) (Option.some FieldType.int)) ∈ rl_G := rl_inG mt_326 rfl
theorem co_X6_family : Cond.code yX6_family cX6_family 1 (some FieldType.int) ∈ rl_G := mw_326
theorem mt_325 : (Cond.instanceMethod ({ cls := "RecordLeaves$RecordThing", name := "family", desc := "()I" } : MethodName)) ∈ lw_tbl := List.mem_append_right _ (List.mem_append_right _ (List.mem_append_left _ (List.mem_of_getElem? (i := 85) (by decide +kernel))))
theorem mw_325 : (Cond.instanceMethod ({ cls := "RecordLeaves$RecordThing", name := "family", desc := "()I" } : MethodName)) ∈ rl_G := rl_inG mt_325 rfl
theorem im_X6_family : Cond.instanceMethod yX6_family ∈ rl_G := mw_325
theorem mt_329 : (Cond.code ({ cls := "RecordLeaves$Row", name := "family", desc := "()I" } : MethodName) prog_10_method_2_code (1 : Nat) (Option.some FieldType.int)) ∈ lw_tbl := List.mem_append_right _ (List.mem_append_right _ (List.mem_append_left _ (List.mem_of_getElem? (i := 89) (rfl))))
theorem mw_329 : (Cond.code ({ cls := "RecordLeaves$Row", name := "family", desc := "()I" } : MethodName) prog_10_method_2_code (1 : Nat) (Option.some FieldType.int)) ∈ rl_G := rl_inG mt_329 rfl
theorem co_X8_family : Cond.code yX8_family cX8_family 1 (some FieldType.int) ∈ rl_G := mw_329
theorem mt_328 : (Cond.instanceMethod ({ cls := "RecordLeaves$Row", name := "family", desc := "()I" } : MethodName)) ∈ lw_tbl := List.mem_append_right _ (List.mem_append_right _ (List.mem_append_left _ (List.mem_of_getElem? (i := 88) (by decide +kernel))))
theorem mw_328 : (Cond.instanceMethod ({ cls := "RecordLeaves$Row", name := "family", desc := "()I" } : MethodName)) ∈ rl_G := rl_inG mt_328 rfl
theorem im_X8_family : Cond.instanceMethod yX8_family ∈ rl_G := mw_328
theorem mt_333 : (Cond.code ({ cls := "RecordLeaves", name := "give", desc := "(IJI)I" } : MethodName) prog_1_method_9_code (5 : Nat) (Option.some FieldType.int)) ∈ lw_tbl := List.mem_append_right _ (List.mem_append_right _ (List.mem_append_left _ (List.mem_of_getElem? (i := 93) (rfl))))
theorem mw_333 : (Cond.code ({ cls := "RecordLeaves", name := "give", desc := "(IJI)I" } : MethodName) prog_1_method_9_code (5 : Nat) (Option.some FieldType.int)) ∈ rl_G := rl_inG mt_333 rfl
theorem co_X11_give : Cond.code yX11_give cX11_give 5 (some FieldType.int) ∈ rl_G := mw_333
theorem mt_331 : (Cond.instanceMethod ({ cls := "RecordLeaves", name := "give", desc := "(IJI)I" } : MethodName)) ∈ lw_tbl := List.mem_append_right _ (List.mem_append_right _ (List.mem_append_left _ (List.mem_of_getElem? (i := 91) (by decide +kernel))))
theorem mw_331 : (Cond.instanceMethod ({ cls := "RecordLeaves", name := "give", desc := "(IJI)I" } : MethodName)) ∈ rl_G := rl_inG mt_331 rfl
theorem im_X11_give : Cond.instanceMethod yX11_give ∈ rl_G := mw_331
theorem mt_332 : (Cond.selects "RecordLeaves" ({ cls := "RecordLeaves", name := "give", desc := "(IJI)I" } : MethodName) ({ cls := "RecordLeaves", name := "give", desc := "(IJI)I" } : MethodName)) ∈ lw_tbl := List.mem_append_right _ (List.mem_append_right _ (List.mem_append_left _ (List.mem_of_getElem? (i := 92) (by decide +kernel))))
theorem sl_X11_give : Cond.selects yX11_give.cls yX11_give yX11_give ∈ lw_tbl := mt_332
theorem mt_337 : (Cond.code ({ cls := "RecordLeaves", name := "make", desc := "(III)I" } : MethodName) prog_1_method_10_code (7 : Nat) (Option.some FieldType.int)) ∈ lw_tbl := List.mem_append_right _ (List.mem_append_right _ (List.mem_append_left _ (List.mem_of_getElem? (i := 97) (rfl))))
theorem mw_337 : (Cond.code ({ cls := "RecordLeaves", name := "make", desc := "(III)I" } : MethodName) prog_1_method_10_code (7 : Nat) (Option.some FieldType.int)) ∈ rl_G := rl_inG mt_337 rfl
theorem co_X11_make : Cond.code yX11_make cX11_make 7 (some FieldType.int) ∈ rl_G := mw_337
theorem mt_335 : (Cond.instanceMethod ({ cls := "RecordLeaves", name := "make", desc := "(III)I" } : MethodName)) ∈ lw_tbl := List.mem_append_right _ (List.mem_append_right _ (List.mem_append_left _ (List.mem_of_getElem? (i := 95) (by decide +kernel))))
theorem mw_335 : (Cond.instanceMethod ({ cls := "RecordLeaves", name := "make", desc := "(III)I" } : MethodName)) ∈ rl_G := rl_inG mt_335 rfl
theorem im_X11_make : Cond.instanceMethod yX11_make ∈ rl_G := mw_335
theorem mt_336 : (Cond.selects "RecordLeaves" ({ cls := "RecordLeaves", name := "make", desc := "(III)I" } : MethodName) ({ cls := "RecordLeaves", name := "make", desc := "(III)I" } : MethodName)) ∈ lw_tbl := List.mem_append_right _ (List.mem_append_right _ (List.mem_append_left _ (List.mem_of_getElem? (i := 96) (by decide +kernel))))
theorem sl_X11_make : Cond.selects yX11_make.cls yX11_make yX11_make ∈ lw_tbl := mt_336
theorem mt_342 : (Cond.code ({ cls := "RecordLeaves$RecordThing", name := "<init>", desc := "(LRecordLeaves$RecordVersion;)V" } : MethodName) prog_8_method_1_code (2 : Nat) (Option.none : Option FieldType)) ∈ lw_tbl := List.mem_append_right _ (List.mem_append_right _ (List.mem_append_left _ (List.mem_of_getElem? (i := 102) (rfl))))
theorem mw_342 : (Cond.code ({ cls := "RecordLeaves$RecordThing", name := "<init>", desc := "(LRecordLeaves$RecordVersion;)V" } : MethodName) prog_8_method_1_code (2 : Nat) (Option.none : Option FieldType)) ∈ rl_G := rl_inG mt_342 rfl
theorem co_X6_init : Cond.code yX6_init cX6_init 2 none ∈ rl_G := mw_342
theorem mt_341 : (Cond.instanceMethod ({ cls := "RecordLeaves$RecordThing", name := "<init>", desc := "(LRecordLeaves$RecordVersion;)V" } : MethodName)) ∈ lw_tbl := List.mem_append_right _ (List.mem_append_right _ (List.mem_append_left _ (List.mem_of_getElem? (i := 101) (by decide +kernel))))
theorem mw_341 : (Cond.instanceMethod ({ cls := "RecordLeaves$RecordThing", name := "<init>", desc := "(LRecordLeaves$RecordVersion;)V" } : MethodName)) ∈ rl_G := rl_inG mt_341 rfl
theorem im_X6_init : Cond.instanceMethod yX6_init ∈ rl_G := mw_341
theorem mt_369 : (Cond.code ({ cls := "RecordLeaves$RecordThing", name := "extent", desc := "()I" } : MethodName) prog_8_method_5_code (1 : Nat) (Option.some FieldType.int)) ∈ lw_tbl := List.mem_append_right _ (List.mem_append_right _ (List.mem_append_left _ (List.mem_of_getElem? (i := 129) (rfl))))
theorem mw_369 : (Cond.code ({ cls := "RecordLeaves$RecordThing", name := "extent", desc := "()I" } : MethodName) prog_8_method_5_code (1 : Nat) (Option.some FieldType.int)) ∈ rl_G := rl_inG mt_369 rfl
theorem co_X6_extent : Cond.code yX6_extent cX6_extent 1 (some FieldType.int) ∈ rl_G := mw_369
theorem mt_367 : (Cond.instanceMethod ({ cls := "RecordLeaves$RecordThing", name := "extent", desc := "()I" } : MethodName)) ∈ lw_tbl := List.mem_append_right _ (List.mem_append_right _ (List.mem_append_left _ (List.mem_of_getElem? (i := 127) (by decide +kernel))))
theorem mw_367 : (Cond.instanceMethod ({ cls := "RecordLeaves$RecordThing", name := "extent", desc := "()I" } : MethodName)) ∈ rl_G := rl_inG mt_367 rfl
theorem im_X6_extent : Cond.instanceMethod yX6_extent ∈ rl_G := mw_367
theorem mt_368 : (Cond.selects "RecordLeaves$RecordThing" ({ cls := "RecordLeaves$RecordThing", name := "extent", desc := "()I" } : MethodName) ({ cls := "RecordLeaves$RecordThing", name := "extent", desc := "()I" } : MethodName)) ∈ lw_tbl := List.mem_append_right _ (List.mem_append_right _ (List.mem_append_left _ (List.mem_of_getElem? (i := 128) (by decide +kernel))))
theorem sl_X6_extent : Cond.selects yX6_extent.cls yX6_extent yX6_extent ∈ lw_tbl := mt_368
theorem mt_373 : (Cond.code ({ cls := "RecordLeaves$RecordThing", name := "put", desc := "(IJLRecordLeaves$Thing;)V" } : MethodName) prog_8_method_7_code (5 : Nat) (Option.none : Option FieldType)) ∈ lw_tbl := List.mem_append_right _ (List.mem_append_right _ (List.mem_append_left _ (List.mem_of_getElem? (i := 133) (rfl))))
theorem mw_373 : (Cond.code ({ cls := "RecordLeaves$RecordThing", name := "put", desc := "(IJLRecordLeaves$Thing;)V" } : MethodName) prog_8_method_7_code (5 : Nat) (Option.none : Option FieldType)) ∈ rl_G := rl_inG mt_373 rfl
theorem co_X6_put : Cond.code yX6_put cX6_put 5 none ∈ rl_G := mw_373
theorem mt_371 : (Cond.instanceMethod ({ cls := "RecordLeaves$RecordThing", name := "put", desc := "(IJLRecordLeaves$Thing;)V" } : MethodName)) ∈ lw_tbl := List.mem_append_right _ (List.mem_append_right _ (List.mem_append_left _ (List.mem_of_getElem? (i := 131) (by decide +kernel))))
theorem mw_371 : (Cond.instanceMethod ({ cls := "RecordLeaves$RecordThing", name := "put", desc := "(IJLRecordLeaves$Thing;)V" } : MethodName)) ∈ rl_G := rl_inG mt_371 rfl
theorem im_X6_put : Cond.instanceMethod yX6_put ∈ rl_G := mw_371
theorem mt_372 : (Cond.selects "RecordLeaves$RecordThing" ({ cls := "RecordLeaves$RecordThing", name := "put", desc := "(IJLRecordLeaves$Thing;)V" } : MethodName) ({ cls := "RecordLeaves$RecordThing", name := "put", desc := "(IJLRecordLeaves$Thing;)V" } : MethodName)) ∈ lw_tbl := List.mem_append_right _ (List.mem_append_right _ (List.mem_append_left _ (List.mem_of_getElem? (i := 132) (by decide +kernel))))
theorem sl_X6_put : Cond.selects yX6_put.cls yX6_put yX6_put ∈ lw_tbl := mt_372
theorem mt_377 : (Cond.code ({ cls := "RecordLeaves$RecordThing", name := "isNumber", desc := "(I)Z" } : MethodName) prog_8_method_6_code (2 : Nat) (Option.some FieldType.boolean)) ∈ lw_tbl := List.mem_append_right _ (List.mem_append_right _ (List.mem_append_left _ (List.mem_of_getElem? (i := 137) (rfl))))
theorem mw_377 : (Cond.code ({ cls := "RecordLeaves$RecordThing", name := "isNumber", desc := "(I)Z" } : MethodName) prog_8_method_6_code (2 : Nat) (Option.some FieldType.boolean)) ∈ rl_G := rl_inG mt_377 rfl
theorem co_X6_isNumber : Cond.code yX6_isNumber cX6_isNumber 2 (some FieldType.boolean) ∈ rl_G := mw_377
theorem mt_375 : (Cond.instanceMethod ({ cls := "RecordLeaves$RecordThing", name := "isNumber", desc := "(I)Z" } : MethodName)) ∈ lw_tbl := List.mem_append_right _ (List.mem_append_right _ (List.mem_append_left _ (List.mem_of_getElem? (i := 135) (by decide +kernel))))
theorem mw_375 : (Cond.instanceMethod ({ cls := "RecordLeaves$RecordThing", name := "isNumber", desc := "(I)Z" } : MethodName)) ∈ rl_G := rl_inG mt_375 rfl
theorem im_X6_isNumber : Cond.instanceMethod yX6_isNumber ∈ rl_G := mw_375
theorem mt_376 : (Cond.selects "RecordLeaves$RecordThing" ({ cls := "RecordLeaves$RecordThing", name := "isNumber", desc := "(I)Z" } : MethodName) ({ cls := "RecordLeaves$RecordThing", name := "isNumber", desc := "(I)Z" } : MethodName)) ∈ lw_tbl := List.mem_append_right _ (List.mem_append_right _ (List.mem_append_left _ (List.mem_of_getElem? (i := 136) (by decide +kernel))))
theorem sl_X6_isNumber : Cond.selects yX6_isNumber.cls yX6_isNumber yX6_isNumber ∈ lw_tbl := mt_376
theorem mt_381 : (Cond.code ({ cls := "RecordLeaves$RecordVersion", name := "whyNotMade", desc := "(LRecordLeaves$RecordThing;)I" } : MethodName) prog_9_method_6_code (4 : Nat) (Option.some FieldType.int)) ∈ lw_tbl := List.mem_append_right _ (List.mem_append_right _ (List.mem_append_left _ (List.mem_of_getElem? (i := 141) (rfl))))
theorem mw_381 : (Cond.code ({ cls := "RecordLeaves$RecordVersion", name := "whyNotMade", desc := "(LRecordLeaves$RecordThing;)I" } : MethodName) prog_9_method_6_code (4 : Nat) (Option.some FieldType.int)) ∈ rl_G := rl_inG mt_381 rfl
theorem co_X7_whyNotMade : Cond.code yX7_whyNotMade cX7_whyNotMade 4 (some FieldType.int) ∈ rl_G := mw_381
theorem mt_379 : (Cond.instanceMethod ({ cls := "RecordLeaves$RecordVersion", name := "whyNotMade", desc := "(LRecordLeaves$RecordThing;)I" } : MethodName)) ∈ lw_tbl := List.mem_append_right _ (List.mem_append_right _ (List.mem_append_left _ (List.mem_of_getElem? (i := 139) (by decide +kernel))))
theorem mw_379 : (Cond.instanceMethod ({ cls := "RecordLeaves$RecordVersion", name := "whyNotMade", desc := "(LRecordLeaves$RecordThing;)I" } : MethodName)) ∈ rl_G := rl_inG mt_379 rfl
theorem im_X7_whyNotMade : Cond.instanceMethod yX7_whyNotMade ∈ rl_G := mw_379
theorem mt_380 : (Cond.selects "RecordLeaves$RecordVersion" ({ cls := "RecordLeaves$RecordVersion", name := "whyNotMade", desc := "(LRecordLeaves$RecordThing;)I" } : MethodName) ({ cls := "RecordLeaves$RecordVersion", name := "whyNotMade", desc := "(LRecordLeaves$RecordThing;)I" } : MethodName)) ∈ lw_tbl := List.mem_append_right _ (List.mem_append_right _ (List.mem_append_left _ (List.mem_of_getElem? (i := 140) (by decide +kernel))))
theorem sl_X7_whyNotMade : Cond.selects yX7_whyNotMade.cls yX7_whyNotMade yX7_whyNotMade ∈ lw_tbl := mt_380
theorem mt_386 : (Cond.code ({ cls := "RecordLeaves$Part", name := "whyNotTaken", desc := "(JLRecordLeaves$Thing;I)I" } : MethodName) prog_6_method_2_code (5 : Nat) (Option.some FieldType.int)) ∈ lw_tbl := List.mem_append_right _ (List.mem_append_right _ (List.mem_append_left _ (List.mem_of_getElem? (i := 146) (rfl))))
theorem mw_386 : (Cond.code ({ cls := "RecordLeaves$Part", name := "whyNotTaken", desc := "(JLRecordLeaves$Thing;I)I" } : MethodName) prog_6_method_2_code (5 : Nat) (Option.some FieldType.int)) ∈ rl_G := rl_inG mt_386 rfl
theorem co_X4_whyNotTaken : Cond.code yX4_whyNotTaken cX4_whyNotTaken 5 (some FieldType.int) ∈ rl_G := mw_386
theorem mt_384 : (Cond.instanceMethod ({ cls := "RecordLeaves$Part", name := "whyNotTaken", desc := "(JLRecordLeaves$Thing;I)I" } : MethodName)) ∈ lw_tbl := List.mem_append_right _ (List.mem_append_right _ (List.mem_append_left _ (List.mem_of_getElem? (i := 144) (by decide +kernel))))
theorem mw_384 : (Cond.instanceMethod ({ cls := "RecordLeaves$Part", name := "whyNotTaken", desc := "(JLRecordLeaves$Thing;I)I" } : MethodName)) ∈ rl_G := rl_inG mt_384 rfl
theorem im_X4_whyNotTaken : Cond.instanceMethod yX4_whyNotTaken ∈ rl_G := mw_384
theorem mt_385 : (Cond.selects "RecordLeaves$Part" ({ cls := "RecordLeaves$Part", name := "whyNotTaken", desc := "(JLRecordLeaves$Thing;I)I" } : MethodName) ({ cls := "RecordLeaves$Part", name := "whyNotTaken", desc := "(JLRecordLeaves$Thing;I)I" } : MethodName)) ∈ lw_tbl := List.mem_append_right _ (List.mem_append_right _ (List.mem_append_left _ (List.mem_of_getElem? (i := 145) (by decide +kernel))))
theorem sl_X4_whyNotTaken : Cond.selects yX4_whyNotTaken.cls yX4_whyNotTaken yX4_whyNotTaken ∈ lw_tbl := mt_385
theorem mt_390 : (Cond.code ({ cls := "RecordLeaves$Part", name := "isOfClass", desc := "(LRecordLeaves$Thing;)Z" } : MethodName) prog_6_method_3_code (2 : Nat) (Option.some FieldType.boolean)) ∈ lw_tbl := List.mem_append_right _ (List.mem_append_right _ (List.mem_append_left _ (List.mem_of_getElem? (i := 150) (rfl))))
theorem mw_390 : (Cond.code ({ cls := "RecordLeaves$Part", name := "isOfClass", desc := "(LRecordLeaves$Thing;)Z" } : MethodName) prog_6_method_3_code (2 : Nat) (Option.some FieldType.boolean)) ∈ rl_G := rl_inG mt_390 rfl
theorem co_X4_isOfClass : Cond.code yX4_isOfClass cX4_isOfClass 2 (some FieldType.boolean) ∈ rl_G := mw_390
theorem mt_389 : (Cond.instanceMethod ({ cls := "RecordLeaves$Part", name := "isOfClass", desc := "(LRecordLeaves$Thing;)Z" } : MethodName)) ∈ lw_tbl := List.mem_append_right _ (List.mem_append_right _ (List.mem_append_left _ (List.mem_of_getElem? (i := 149) (by decide +kernel))))
theorem mw_389 : (Cond.instanceMethod ({ cls := "RecordLeaves$Part", name := "isOfClass", desc := "(LRecordLeaves$Thing;)Z" } : MethodName)) ∈ rl_G := rl_inG mt_389 rfl
theorem im_X4_isOfClass : Cond.instanceMethod yX4_isOfClass ∈ rl_G := mw_389
theorem sl_X4_isOfClass : Cond.selects yX4_isOfClass.cls yX4_isOfClass yX4_isOfClass ∈ lw_tbl := List.mem_append_left _ (by decide +kernel)
theorem mt_399 : (Cond.code ({ cls := "RecordLeaves$Constant", name := "kind", desc := "()I" } : MethodName) prog_3_method_3_code (1 : Nat) (Option.some FieldType.int)) ∈ lw_tbl := List.mem_append_right _ (List.mem_append_right _ (List.mem_append_left _ (List.mem_of_getElem? (i := 159) (rfl))))
theorem mw_399 : (Cond.code ({ cls := "RecordLeaves$Constant", name := "kind", desc := "()I" } : MethodName) prog_3_method_3_code (1 : Nat) (Option.some FieldType.int)) ∈ rl_G := rl_inG mt_399 rfl
theorem co_X1_kind : Cond.code yX1_kind cX1_kind 1 (some FieldType.int) ∈ rl_G := mw_399
theorem mt_398 : (Cond.instanceMethod ({ cls := "RecordLeaves$Constant", name := "kind", desc := "()I" } : MethodName)) ∈ lw_tbl := List.mem_append_right _ (List.mem_append_right _ (List.mem_append_left _ (List.mem_of_getElem? (i := 158) (by decide +kernel))))
theorem mw_398 : (Cond.instanceMethod ({ cls := "RecordLeaves$Constant", name := "kind", desc := "()I" } : MethodName)) ∈ rl_G := rl_inG mt_398 rfl
theorem im_X1_kind : Cond.instanceMethod yX1_kind ∈ rl_G := mw_398
theorem mt_402 : (Cond.code ({ cls := "RecordLeaves$RecordThing", name := "kind", desc := "()I" } : MethodName) prog_8_method_3_code (1 : Nat) (Option.some FieldType.int)) ∈ lw_tbl := List.mem_append_right _ (List.mem_append_right _ (List.mem_append_left _ (List.mem_of_getElem? (i := 162) (rfl))))
theorem mw_402 : (Cond.code ({ cls := "RecordLeaves$RecordThing", name := "kind", desc := "()I" } : MethodName) prog_8_method_3_code (1 : Nat) (Option.some FieldType.int)) ∈ rl_G := rl_inG mt_402 rfl
theorem co_X6_kind : Cond.code yX6_kind cX6_kind 1 (some FieldType.int) ∈ rl_G := mw_402
theorem mt_401 : (Cond.instanceMethod ({ cls := "RecordLeaves$RecordThing", name := "kind", desc := "()I" } : MethodName)) ∈ lw_tbl := List.mem_append_right _ (List.mem_append_right _ (List.mem_append_left _ (List.mem_of_getElem? (i := 161) (by decide +kernel))))
theorem mw_401 : (Cond.instanceMethod ({ cls := "RecordLeaves$RecordThing", name := "kind", desc := "()I" } : MethodName)) ∈ rl_G := rl_inG mt_401 rfl
theorem im_X6_kind : Cond.instanceMethod yX6_kind ∈ rl_G := mw_401
theorem mt_995 : (Cond.selects "RecordLeaves$RecordThing" ({ cls := "RecordLeaves$RecordThing", name := "kind", desc := "()I" } : MethodName) ({ cls := "RecordLeaves$RecordThing", name := "kind", desc := "()I" } : MethodName)) ∈ lw_tbl := List.mem_append_right _ (List.mem_append_right _ (List.mem_append_right _ (List.mem_append_right _ (List.mem_append_right _ (List.mem_of_getElem? (i := 35) (by decide +kernel))))))
theorem sl_X6_kind : Cond.selects yX6_kind.cls yX6_kind yX6_kind ∈ lw_tbl := mt_995
theorem mt_405 : (Cond.code ({ cls := "RecordLeaves$Row", name := "kind", desc := "()I" } : MethodName) prog_10_method_3_code (1 : Nat) (Option.some FieldType.int)) ∈ lw_tbl := List.mem_append_right _ (List.mem_append_right _ (List.mem_append_left _ (List.mem_of_getElem? (i := 165) (rfl))))
theorem mw_405 : (Cond.code ({ cls := "RecordLeaves$Row", name := "kind", desc := "()I" } : MethodName) prog_10_method_3_code (1 : Nat) (Option.some FieldType.int)) ∈ rl_G := rl_inG mt_405 rfl
theorem co_X8_kind : Cond.code yX8_kind cX8_kind 1 (some FieldType.int) ∈ rl_G := mw_405
theorem mt_404 : (Cond.instanceMethod ({ cls := "RecordLeaves$Row", name := "kind", desc := "()I" } : MethodName)) ∈ lw_tbl := List.mem_append_right _ (List.mem_append_right _ (List.mem_append_left _ (List.mem_of_getElem? (i := 164) (by decide +kernel))))
theorem mw_404 : (Cond.instanceMethod ({ cls := "RecordLeaves$Row", name := "kind", desc := "()I" } : MethodName)) ∈ rl_G := rl_inG mt_404 rfl
theorem im_X8_kind : Cond.instanceMethod yX8_kind ∈ rl_G := mw_404
theorem mt_411 : (Cond.code ({ cls := "RecordLeaves$Constant", name := "version", desc := "()I" } : MethodName) prog_3_method_4_code (1 : Nat) (Option.some FieldType.int)) ∈ lw_tbl := List.mem_append_right _ (List.mem_append_right _ (List.mem_append_left _ (List.mem_of_getElem? (i := 171) (rfl))))
theorem mw_411 : (Cond.code ({ cls := "RecordLeaves$Constant", name := "version", desc := "()I" } : MethodName) prog_3_method_4_code (1 : Nat) (Option.some FieldType.int)) ∈ rl_G := rl_inG mt_411 rfl
theorem co_X1_version : Cond.code yX1_version cX1_version 1 (some FieldType.int) ∈ rl_G := mw_411
theorem mt_410 : (Cond.instanceMethod ({ cls := "RecordLeaves$Constant", name := "version", desc := "()I" } : MethodName)) ∈ lw_tbl := List.mem_append_right _ (List.mem_append_right _ (List.mem_append_left _ (List.mem_of_getElem? (i := 170) (by decide +kernel))))
theorem mw_410 : (Cond.instanceMethod ({ cls := "RecordLeaves$Constant", name := "version", desc := "()I" } : MethodName)) ∈ rl_G := rl_inG mt_410 rfl
theorem im_X1_version : Cond.instanceMethod yX1_version ∈ rl_G := mw_410
theorem mt_414 : (Cond.code ({ cls := "RecordLeaves$RecordThing", name := "version", desc := "()I" } : MethodName) prog_8_method_4_code (1 : Nat) (Option.some FieldType.int)) ∈ lw_tbl := List.mem_append_right _ (List.mem_append_right _ (List.mem_append_left _ (List.mem_of_getElem? (i := 174) (rfl))))
theorem mw_414 : (Cond.code ({ cls := "RecordLeaves$RecordThing", name := "version", desc := "()I" } : MethodName) prog_8_method_4_code (1 : Nat) (Option.some FieldType.int)) ∈ rl_G := rl_inG mt_414 rfl
theorem co_X6_version : Cond.code yX6_version cX6_version 1 (some FieldType.int) ∈ rl_G := mw_414
theorem mt_413 : (Cond.instanceMethod ({ cls := "RecordLeaves$RecordThing", name := "version", desc := "()I" } : MethodName)) ∈ lw_tbl := List.mem_append_right _ (List.mem_append_right _ (List.mem_append_left _ (List.mem_of_getElem? (i := 173) (by decide +kernel))))
theorem mw_413 : (Cond.instanceMethod ({ cls := "RecordLeaves$RecordThing", name := "version", desc := "()I" } : MethodName)) ∈ rl_G := rl_inG mt_413 rfl
theorem im_X6_version : Cond.instanceMethod yX6_version ∈ rl_G := mw_413
theorem mt_417 : (Cond.code ({ cls := "RecordLeaves$Row", name := "version", desc := "()I" } : MethodName) prog_10_method_4_code (1 : Nat) (Option.some FieldType.int)) ∈ lw_tbl := List.mem_append_right _ (List.mem_append_right _ (List.mem_append_left _ (List.mem_of_getElem? (i := 177) (rfl))))
theorem mw_417 : (Cond.code ({ cls := "RecordLeaves$Row", name := "version", desc := "()I" } : MethodName) prog_10_method_4_code (1 : Nat) (Option.some FieldType.int)) ∈ rl_G := rl_inG mt_417 rfl
theorem co_X8_version : Cond.code yX8_version cX8_version 1 (some FieldType.int) ∈ rl_G := mw_417
theorem mt_416 : (Cond.instanceMethod ({ cls := "RecordLeaves$Row", name := "version", desc := "()I" } : MethodName)) ∈ lw_tbl := List.mem_append_right _ (List.mem_append_right _ (List.mem_append_left _ (List.mem_of_getElem? (i := 176) (by decide +kernel))))
theorem mw_416 : (Cond.instanceMethod ({ cls := "RecordLeaves$Row", name := "version", desc := "()I" } : MethodName)) ∈ rl_G := rl_inG mt_416 rfl
theorem im_X8_version : Cond.instanceMethod yX8_version ∈ rl_G := mw_416
theorem mt_421 : (Cond.code ({ cls := "RecordLeaves$Check", name := "whyNotPassed", desc := "(LRecordLeaves$RecordThing;)I" } : MethodName) prog_2_method_2_code (2 : Nat) (Option.some FieldType.int)) ∈ lw_tbl := List.mem_append_right _ (List.mem_append_right _ (List.mem_append_left _ (List.mem_of_getElem? (i := 181) (rfl))))
theorem mw_421 : (Cond.code ({ cls := "RecordLeaves$Check", name := "whyNotPassed", desc := "(LRecordLeaves$RecordThing;)I" } : MethodName) prog_2_method_2_code (2 : Nat) (Option.some FieldType.int)) ∈ rl_G := rl_inG mt_421 rfl
theorem co_X0_whyNotPassed : Cond.code yX0_whyNotPassed cX0_whyNotPassed 2 (some FieldType.int) ∈ rl_G := mw_421
theorem mt_419 : (Cond.instanceMethod ({ cls := "RecordLeaves$Check", name := "whyNotPassed", desc := "(LRecordLeaves$RecordThing;)I" } : MethodName)) ∈ lw_tbl := List.mem_append_right _ (List.mem_append_right _ (List.mem_append_left _ (List.mem_of_getElem? (i := 179) (by decide +kernel))))
theorem mw_419 : (Cond.instanceMethod ({ cls := "RecordLeaves$Check", name := "whyNotPassed", desc := "(LRecordLeaves$RecordThing;)I" } : MethodName)) ∈ rl_G := rl_inG mt_419 rfl
theorem im_X0_whyNotPassed : Cond.instanceMethod yX0_whyNotPassed ∈ rl_G := mw_419
theorem mt_420 : (Cond.selects "RecordLeaves$Check" ({ cls := "RecordLeaves$Check", name := "whyNotPassed", desc := "(LRecordLeaves$RecordThing;)I" } : MethodName) ({ cls := "RecordLeaves$Check", name := "whyNotPassed", desc := "(LRecordLeaves$RecordThing;)I" } : MethodName)) ∈ lw_tbl := List.mem_append_right _ (List.mem_append_right _ (List.mem_append_left _ (List.mem_of_getElem? (i := 180) (by decide +kernel))))
theorem sl_X0_whyNotPassed : Cond.selects yX0_whyNotPassed.cls yX0_whyNotPassed yX0_whyNotPassed ∈ lw_tbl := mt_420
theorem mt_424 : (Cond.code ({ cls := "RecordLeaves$Check", name := "ownUnless", desc := "(Z)I" } : MethodName) prog_2_method_3_code (1 : Nat) (Option.some FieldType.int)) ∈ lw_tbl := List.mem_append_right _ (List.mem_append_right _ (List.mem_append_left _ (List.mem_of_getElem? (i := 184) (rfl))))
theorem mw_424 : (Cond.code ({ cls := "RecordLeaves$Check", name := "ownUnless", desc := "(Z)I" } : MethodName) prog_2_method_3_code (1 : Nat) (Option.some FieldType.int)) ∈ rl_G := rl_inG mt_424 rfl
theorem co_X0_ownUnless : Cond.code yX0_ownUnless cX0_ownUnless 1 (some FieldType.int) ∈ rl_G := mw_424
theorem mt_423 : (Cond.static ({ cls := "RecordLeaves$Check", name := "ownUnless", desc := "(Z)I" } : MethodName)) ∈ lw_tbl := List.mem_append_right _ (List.mem_append_right _ (List.mem_append_left _ (List.mem_of_getElem? (i := 183) (by decide +kernel))))
theorem mw_423 : (Cond.static ({ cls := "RecordLeaves$Check", name := "ownUnless", desc := "(Z)I" } : MethodName)) ∈ rl_G := rl_inG mt_423 rfl
theorem sm_X0_ownUnless : Cond.static yX0_ownUnless ∈ rl_G := mw_423
theorem mt_427 : (Cond.code ({ cls := "RecordLeaves$Check", name := "whyNotDivisor", desc := "(J)I" } : MethodName) prog_2_method_4_code (2 : Nat) (Option.some FieldType.int)) ∈ lw_tbl := List.mem_append_right _ (List.mem_append_right _ (List.mem_append_left _ (List.mem_of_getElem? (i := 187) (rfl))))
theorem mw_427 : (Cond.code ({ cls := "RecordLeaves$Check", name := "whyNotDivisor", desc := "(J)I" } : MethodName) prog_2_method_4_code (2 : Nat) (Option.some FieldType.int)) ∈ rl_G := rl_inG mt_427 rfl
theorem co_X0_whyNotDivisor : Cond.code yX0_whyNotDivisor cX0_whyNotDivisor 2 (some FieldType.int) ∈ rl_G := mw_427
theorem mt_426 : (Cond.static ({ cls := "RecordLeaves$Check", name := "whyNotDivisor", desc := "(J)I" } : MethodName)) ∈ lw_tbl := List.mem_append_right _ (List.mem_append_right _ (List.mem_append_left _ (List.mem_of_getElem? (i := 186) (by decide +kernel))))
theorem mw_426 : (Cond.static ({ cls := "RecordLeaves$Check", name := "whyNotDivisor", desc := "(J)I" } : MethodName)) ∈ rl_G := rl_inG mt_426 rfl
theorem sm_X0_whyNotDivisor : Cond.static yX0_whyNotDivisor ∈ rl_G := mw_426
theorem mt_431 : (Cond.code ({ cls := "RecordLeaves$Check", name := "whyNotItemAbove", desc := "(LRecordLeaves$Thing;J)I" } : MethodName) prog_2_method_5_code (4 : Nat) (Option.some FieldType.int)) ∈ lw_tbl := List.mem_append_right _ (List.mem_append_right _ (List.mem_append_left _ (List.mem_of_getElem? (i := 191) (rfl))))
theorem mw_431 : (Cond.code ({ cls := "RecordLeaves$Check", name := "whyNotItemAbove", desc := "(LRecordLeaves$Thing;J)I" } : MethodName) prog_2_method_5_code (4 : Nat) (Option.some FieldType.int)) ∈ rl_G := rl_inG mt_431 rfl
theorem co_X0_whyNotItemAbove : Cond.code yX0_whyNotItemAbove cX0_whyNotItemAbove 4 (some FieldType.int) ∈ rl_G := mw_431
theorem mt_430 : (Cond.static ({ cls := "RecordLeaves$Check", name := "whyNotItemAbove", desc := "(LRecordLeaves$Thing;J)I" } : MethodName)) ∈ lw_tbl := List.mem_append_right _ (List.mem_append_right _ (List.mem_append_left _ (List.mem_of_getElem? (i := 190) (by decide +kernel))))
theorem mw_430 : (Cond.static ({ cls := "RecordLeaves$Check", name := "whyNotItemAbove", desc := "(LRecordLeaves$Thing;J)I" } : MethodName)) ∈ rl_G := rl_inG mt_430 rfl
theorem sm_X0_whyNotItemAbove : Cond.static yX0_whyNotItemAbove ∈ rl_G := mw_430
theorem mt_435 : (Cond.code ({ cls := "RecordLeaves$Check", name := "whyNotPartIs", desc := "(LRecordLeaves$Thing;J)I" } : MethodName) prog_2_method_6_code (4 : Nat) (Option.some FieldType.int)) ∈ lw_tbl := List.mem_append_right _ (List.mem_append_right _ (List.mem_append_left _ (List.mem_of_getElem? (i := 195) (rfl))))
theorem mw_435 : (Cond.code ({ cls := "RecordLeaves$Check", name := "whyNotPartIs", desc := "(LRecordLeaves$Thing;J)I" } : MethodName) prog_2_method_6_code (4 : Nat) (Option.some FieldType.int)) ∈ rl_G := rl_inG mt_435 rfl
theorem co_X0_whyNotPartIs : Cond.code yX0_whyNotPartIs cX0_whyNotPartIs 4 (some FieldType.int) ∈ rl_G := mw_435
theorem mt_434 : (Cond.static ({ cls := "RecordLeaves$Check", name := "whyNotPartIs", desc := "(LRecordLeaves$Thing;J)I" } : MethodName)) ∈ lw_tbl := List.mem_append_right _ (List.mem_append_right _ (List.mem_append_left _ (List.mem_of_getElem? (i := 194) (by decide +kernel))))
theorem mw_434 : (Cond.static ({ cls := "RecordLeaves$Check", name := "whyNotPartIs", desc := "(LRecordLeaves$Thing;J)I" } : MethodName)) ∈ rl_G := rl_inG mt_434 rfl
theorem sm_X0_whyNotPartIs : Cond.static yX0_whyNotPartIs ∈ rl_G := mw_434
theorem mt_441 : (Cond.code ({ cls := "RecordLeaves$Check", name := "whyNotOrderBelow", desc := "(LRecordLeaves$Thing;J)I" } : MethodName) prog_2_method_7_code (4 : Nat) (Option.some FieldType.int)) ∈ lw_tbl := List.mem_append_right _ (List.mem_append_right _ (List.mem_append_left _ (List.mem_of_getElem? (i := 201) (rfl))))
theorem mw_441 : (Cond.code ({ cls := "RecordLeaves$Check", name := "whyNotOrderBelow", desc := "(LRecordLeaves$Thing;J)I" } : MethodName) prog_2_method_7_code (4 : Nat) (Option.some FieldType.int)) ∈ rl_G := rl_inG mt_441 rfl
theorem co_X0_whyNotOrderBelow : Cond.code yX0_whyNotOrderBelow cX0_whyNotOrderBelow 4 (some FieldType.int) ∈ rl_G := mw_441
theorem mt_440 : (Cond.static ({ cls := "RecordLeaves$Check", name := "whyNotOrderBelow", desc := "(LRecordLeaves$Thing;J)I" } : MethodName)) ∈ lw_tbl := List.mem_append_right _ (List.mem_append_right _ (List.mem_append_left _ (List.mem_of_getElem? (i := 200) (by decide +kernel))))
theorem mw_440 : (Cond.static ({ cls := "RecordLeaves$Check", name := "whyNotOrderBelow", desc := "(LRecordLeaves$Thing;J)I" } : MethodName)) ∈ rl_G := rl_inG mt_440 rfl
theorem sm_X0_whyNotOrderBelow : Cond.static yX0_whyNotOrderBelow ∈ rl_G := mw_440
theorem mt_446 : (Cond.code ({ cls := "RecordLeaves", name := "rememberCause", desc := "(III)V" } : MethodName) prog_1_method_23_code (4 : Nat) (Option.none : Option FieldType)) ∈ lw_tbl := List.mem_append_right _ (List.mem_append_right _ (List.mem_append_left _ (List.mem_of_getElem? (i := 206) (rfl))))
theorem mw_446 : (Cond.code ({ cls := "RecordLeaves", name := "rememberCause", desc := "(III)V" } : MethodName) prog_1_method_23_code (4 : Nat) (Option.none : Option FieldType)) ∈ rl_G := rl_inG mt_446 rfl
theorem co_X11_rememberCause : Cond.code yX11_rememberCause cX11_rememberCause 4 none ∈ rl_G := mw_446
theorem mt_445 : (Cond.instanceMethod ({ cls := "RecordLeaves", name := "rememberCause", desc := "(III)V" } : MethodName)) ∈ lw_tbl := List.mem_append_right _ (List.mem_append_right _ (List.mem_append_left _ (List.mem_of_getElem? (i := 205) (by decide +kernel))))
theorem mw_445 : (Cond.instanceMethod ({ cls := "RecordLeaves", name := "rememberCause", desc := "(III)V" } : MethodName)) ∈ rl_G := rl_inG mt_445 rfl
theorem im_X11_rememberCause : Cond.instanceMethod yX11_rememberCause ∈ rl_G := mw_445
theorem sl_X11_rememberCause : Cond.selects yX11_rememberCause.cls yX11_rememberCause yX11_rememberCause ∈ lw_tbl := List.mem_append_left _ (by decide +kernel)
theorem mt_450 : (Cond.code ({ cls := "RecordLeaves", name := "about", desc := "(II)I" } : MethodName) prog_1_method_11_code (4 : Nat) (Option.some FieldType.int)) ∈ lw_tbl := List.mem_append_right _ (List.mem_append_right _ (List.mem_append_left _ (List.mem_of_getElem? (i := 210) (rfl))))
theorem mw_450 : (Cond.code ({ cls := "RecordLeaves", name := "about", desc := "(II)I" } : MethodName) prog_1_method_11_code (4 : Nat) (Option.some FieldType.int)) ∈ rl_G := rl_inG mt_450 rfl
theorem co_X11_about : Cond.code yX11_about cX11_about 4 (some FieldType.int) ∈ rl_G := mw_450
theorem mt_448 : (Cond.instanceMethod ({ cls := "RecordLeaves", name := "about", desc := "(II)I" } : MethodName)) ∈ lw_tbl := List.mem_append_right _ (List.mem_append_right _ (List.mem_append_left _ (List.mem_of_getElem? (i := 208) (by decide +kernel))))
theorem mw_448 : (Cond.instanceMethod ({ cls := "RecordLeaves", name := "about", desc := "(II)I" } : MethodName)) ∈ rl_G := rl_inG mt_448 rfl
theorem im_X11_about : Cond.instanceMethod yX11_about ∈ rl_G := mw_448
theorem mt_449 : (Cond.selects "RecordLeaves" ({ cls := "RecordLeaves", name := "about", desc := "(II)I" } : MethodName) ({ cls := "RecordLeaves", name := "about", desc := "(II)I" } : MethodName)) ∈ lw_tbl := List.mem_append_right _ (List.mem_append_right _ (List.mem_append_left _ (List.mem_of_getElem? (i := 209) (by decide +kernel))))
theorem sl_X11_about : Cond.selects yX11_about.cls yX11_about yX11_about ∈ lw_tbl := mt_449
theorem mt_458 : (Cond.code ({ cls := "RecordLeaves$Constant", name := "extent", desc := "()I" } : MethodName) prog_3_method_5_code (1 : Nat) (Option.some FieldType.int)) ∈ lw_tbl := List.mem_append_right _ (List.mem_append_right _ (List.mem_append_left _ (List.mem_of_getElem? (i := 218) (rfl))))
theorem mw_458 : (Cond.code ({ cls := "RecordLeaves$Constant", name := "extent", desc := "()I" } : MethodName) prog_3_method_5_code (1 : Nat) (Option.some FieldType.int)) ∈ rl_G := rl_inG mt_458 rfl
theorem co_X1_extent : Cond.code yX1_extent cX1_extent 1 (some FieldType.int) ∈ rl_G := mw_458
theorem mt_457 : (Cond.instanceMethod ({ cls := "RecordLeaves$Constant", name := "extent", desc := "()I" } : MethodName)) ∈ lw_tbl := List.mem_append_right _ (List.mem_append_right _ (List.mem_append_left _ (List.mem_of_getElem? (i := 217) (by decide +kernel))))
theorem mw_457 : (Cond.instanceMethod ({ cls := "RecordLeaves$Constant", name := "extent", desc := "()I" } : MethodName)) ∈ rl_G := rl_inG mt_457 rfl
theorem im_X1_extent : Cond.instanceMethod yX1_extent ∈ rl_G := mw_457
theorem mt_462 : (Cond.code ({ cls := "RecordLeaves$Row", name := "extent", desc := "()I" } : MethodName) prog_10_method_5_code (1 : Nat) (Option.some FieldType.int)) ∈ lw_tbl := List.mem_append_right _ (List.mem_append_right _ (List.mem_append_left _ (List.mem_of_getElem? (i := 222) (rfl))))
theorem mw_462 : (Cond.code ({ cls := "RecordLeaves$Row", name := "extent", desc := "()I" } : MethodName) prog_10_method_5_code (1 : Nat) (Option.some FieldType.int)) ∈ rl_G := rl_inG mt_462 rfl
theorem co_X8_extent : Cond.code yX8_extent cX8_extent 1 (some FieldType.int) ∈ rl_G := mw_462
theorem mt_461 : (Cond.instanceMethod ({ cls := "RecordLeaves$Row", name := "extent", desc := "()I" } : MethodName)) ∈ lw_tbl := List.mem_append_right _ (List.mem_append_right _ (List.mem_append_left _ (List.mem_of_getElem? (i := 221) (by decide +kernel))))
theorem mw_461 : (Cond.instanceMethod ({ cls := "RecordLeaves$Row", name := "extent", desc := "()I" } : MethodName)) ∈ rl_G := rl_inG mt_461 rfl
theorem im_X8_extent : Cond.instanceMethod yX8_extent ∈ rl_G := mw_461
theorem mt_466 : (Cond.code ({ cls := "RecordLeaves", name := "number", desc := "(II)J" } : MethodName) prog_1_method_12_code (5 : Nat) (Option.some FieldType.long)) ∈ lw_tbl := List.mem_append_right _ (List.mem_append_right _ (List.mem_append_left _ (List.mem_of_getElem? (i := 226) (rfl))))
theorem mw_466 : (Cond.code ({ cls := "RecordLeaves", name := "number", desc := "(II)J" } : MethodName) prog_1_method_12_code (5 : Nat) (Option.some FieldType.long)) ∈ rl_G := rl_inG mt_466 rfl
theorem co_X11_number : Cond.code yX11_number cX11_number 5 (some FieldType.long) ∈ rl_G := mw_466
theorem mt_464 : (Cond.instanceMethod ({ cls := "RecordLeaves", name := "number", desc := "(II)J" } : MethodName)) ∈ lw_tbl := List.mem_append_right _ (List.mem_append_right _ (List.mem_append_left _ (List.mem_of_getElem? (i := 224) (by decide +kernel))))
theorem mw_464 : (Cond.instanceMethod ({ cls := "RecordLeaves", name := "number", desc := "(II)J" } : MethodName)) ∈ rl_G := rl_inG mt_464 rfl
theorem im_X11_number : Cond.instanceMethod yX11_number ∈ rl_G := mw_464
theorem mt_465 : (Cond.selects "RecordLeaves" ({ cls := "RecordLeaves", name := "number", desc := "(II)J" } : MethodName) ({ cls := "RecordLeaves", name := "number", desc := "(II)J" } : MethodName)) ∈ lw_tbl := List.mem_append_right _ (List.mem_append_right _ (List.mem_append_left _ (List.mem_of_getElem? (i := 225) (by decide +kernel))))
theorem sl_X11_number : Cond.selects yX11_number.cls yX11_number yX11_number ∈ lw_tbl := mt_465
theorem mt_471 : (Cond.code ({ cls := "RecordLeaves", name := "take", desc := "(III)I" } : MethodName) prog_1_method_13_code (6 : Nat) (Option.some FieldType.int)) ∈ lw_tbl := List.mem_append_right _ (List.mem_append_right _ (List.mem_append_left _ (List.mem_of_getElem? (i := 231) (rfl))))
theorem mw_471 : (Cond.code ({ cls := "RecordLeaves", name := "take", desc := "(III)I" } : MethodName) prog_1_method_13_code (6 : Nat) (Option.some FieldType.int)) ∈ rl_G := rl_inG mt_471 rfl
theorem co_X11_take : Cond.code yX11_take cX11_take 6 (some FieldType.int) ∈ rl_G := mw_471
theorem mt_469 : (Cond.instanceMethod ({ cls := "RecordLeaves", name := "take", desc := "(III)I" } : MethodName)) ∈ lw_tbl := List.mem_append_right _ (List.mem_append_right _ (List.mem_append_left _ (List.mem_of_getElem? (i := 229) (by decide +kernel))))
theorem mw_469 : (Cond.instanceMethod ({ cls := "RecordLeaves", name := "take", desc := "(III)I" } : MethodName)) ∈ rl_G := rl_inG mt_469 rfl
theorem im_X11_take : Cond.instanceMethod yX11_take ∈ rl_G := mw_469
theorem mt_470 : (Cond.selects "RecordLeaves" ({ cls := "RecordLeaves", name := "take", desc := "(III)I" } : MethodName) ({ cls := "RecordLeaves", name := "take", desc := "(III)I" } : MethodName)) ∈ lw_tbl := List.mem_append_right _ (List.mem_append_right _ (List.mem_append_left _ (List.mem_of_getElem? (i := 230) (by decide +kernel))))
theorem sl_X11_take : Cond.selects yX11_take.cls yX11_take yX11_take ∈ lw_tbl := mt_470
theorem mt_475 : (Cond.code ({ cls := "RecordLeaves", name := "like", desc := "(II)I" } : MethodName) prog_1_method_14_code (3 : Nat) (Option.some FieldType.int)) ∈ lw_tbl := List.mem_append_right _ (List.mem_append_right _ (List.mem_append_left _ (List.mem_of_getElem? (i := 235) (rfl))))
theorem mw_475 : (Cond.code ({ cls := "RecordLeaves", name := "like", desc := "(II)I" } : MethodName) prog_1_method_14_code (3 : Nat) (Option.some FieldType.int)) ∈ rl_G := rl_inG mt_475 rfl
theorem co_X11_like : Cond.code yX11_like cX11_like 3 (some FieldType.int) ∈ rl_G := mw_475
theorem mt_473 : (Cond.instanceMethod ({ cls := "RecordLeaves", name := "like", desc := "(II)I" } : MethodName)) ∈ lw_tbl := List.mem_append_right _ (List.mem_append_right _ (List.mem_append_left _ (List.mem_of_getElem? (i := 233) (by decide +kernel))))
theorem mw_473 : (Cond.instanceMethod ({ cls := "RecordLeaves", name := "like", desc := "(II)I" } : MethodName)) ∈ rl_G := rl_inG mt_473 rfl
theorem im_X11_like : Cond.instanceMethod yX11_like ∈ rl_G := mw_473
theorem mt_474 : (Cond.selects "RecordLeaves" ({ cls := "RecordLeaves", name := "like", desc := "(II)I" } : MethodName) ({ cls := "RecordLeaves", name := "like", desc := "(II)I" } : MethodName)) ∈ lw_tbl := List.mem_append_right _ (List.mem_append_right _ (List.mem_append_left _ (List.mem_of_getElem? (i := 234) (by decide +kernel))))
theorem sl_X11_like : Cond.selects yX11_like.cls yX11_like yX11_like ∈ lw_tbl := mt_474
theorem mt_478 : (Cond.code ({ cls := "RecordLeaves", name := "alike", desc := "(LRecordLeaves$Thing;LRecordLeaves$Thing;I)Z" } : MethodName) prog_1_method_29_code (5 : Nat) (Option.some FieldType.boolean)) ∈ lw_tbl := List.mem_append_right _ (List.mem_append_right _ (List.mem_append_left _ (List.mem_of_getElem? (i := 238) (rfl))))
theorem mw_478 : (Cond.code ({ cls := "RecordLeaves", name := "alike", desc := "(LRecordLeaves$Thing;LRecordLeaves$Thing;I)Z" } : MethodName) prog_1_method_29_code (5 : Nat) (Option.some FieldType.boolean)) ∈ rl_G := rl_inG mt_478 rfl
theorem co_X11_alike : Cond.code yX11_alike cX11_alike 5 (some FieldType.boolean) ∈ rl_G := mw_478
theorem mt_477 : (Cond.static ({ cls := "RecordLeaves", name := "alike", desc := "(LRecordLeaves$Thing;LRecordLeaves$Thing;I)Z" } : MethodName)) ∈ lw_tbl := List.mem_append_right _ (List.mem_append_right _ (List.mem_append_left _ (List.mem_of_getElem? (i := 237) (by decide +kernel))))
theorem mw_477 : (Cond.static ({ cls := "RecordLeaves", name := "alike", desc := "(LRecordLeaves$Thing;LRecordLeaves$Thing;I)Z" } : MethodName)) ∈ rl_G := rl_inG mt_477 rfl
theorem sm_X11_alike : Cond.static yX11_alike ∈ rl_G := mw_477
theorem mt_481 : (Cond.code ({ cls := "RecordLeaves", name := "sameItems", desc := "([I[I)Z" } : MethodName) prog_1_method_31_code (3 : Nat) (Option.some FieldType.boolean)) ∈ lw_tbl := List.mem_append_right _ (List.mem_append_right _ (List.mem_append_right _ (List.mem_append_left _ (List.mem_of_getElem? (i := 1) (rfl)))))
theorem mw_481 : (Cond.code ({ cls := "RecordLeaves", name := "sameItems", desc := "([I[I)Z" } : MethodName) prog_1_method_31_code (3 : Nat) (Option.some FieldType.boolean)) ∈ rl_G := rl_inG mt_481 rfl
theorem co_X11_sameItems : Cond.code yX11_sameItems cX11_sameItems 3 (some FieldType.boolean) ∈ rl_G := mw_481
theorem mt_480 : (Cond.static ({ cls := "RecordLeaves", name := "sameItems", desc := "([I[I)Z" } : MethodName)) ∈ lw_tbl := List.mem_append_right _ (List.mem_append_right _ (List.mem_append_right _ (List.mem_append_left _ (List.mem_of_getElem? (i := 0) (by decide +kernel)))))
theorem mw_480 : (Cond.static ({ cls := "RecordLeaves", name := "sameItems", desc := "([I[I)Z" } : MethodName)) ∈ rl_G := rl_inG mt_480 rfl
theorem sm_X11_sameItems : Cond.static yX11_sameItems ∈ rl_G := mw_480
theorem mt_484 : (Cond.code ({ cls := "RecordLeaves", name := "alikeRecords", desc := "(LRecordLeaves$RecordThing;LRecordLeaves$RecordThing;I)Z" } : MethodName) prog_1_method_30_code (4 : Nat) (Option.some FieldType.boolean)) ∈ lw_tbl := List.mem_append_right _ (List.mem_append_right _ (List.mem_append_right _ (List.mem_append_left _ (List.mem_of_getElem? (i := 4) (rfl)))))
theorem mw_484 : (Cond.code ({ cls := "RecordLeaves", name := "alikeRecords", desc := "(LRecordLeaves$RecordThing;LRecordLeaves$RecordThing;I)Z" } : MethodName) prog_1_method_30_code (4 : Nat) (Option.some FieldType.boolean)) ∈ rl_G := rl_inG mt_484 rfl
theorem co_X11_alikeRecords : Cond.code yX11_alikeRecords cX11_alikeRecords 4 (some FieldType.boolean) ∈ rl_G := mw_484
theorem mt_483 : (Cond.static ({ cls := "RecordLeaves", name := "alikeRecords", desc := "(LRecordLeaves$RecordThing;LRecordLeaves$RecordThing;I)Z" } : MethodName)) ∈ lw_tbl := List.mem_append_right _ (List.mem_append_right _ (List.mem_append_right _ (List.mem_append_left _ (List.mem_of_getElem? (i := 3) (by decide +kernel)))))
theorem mw_483 : (Cond.static ({ cls := "RecordLeaves", name := "alikeRecords", desc := "(LRecordLeaves$RecordThing;LRecordLeaves$RecordThing;I)Z" } : MethodName)) ∈ rl_G := rl_inG mt_483 rfl
theorem sm_X11_alikeRecords : Cond.static yX11_alikeRecords ∈ rl_G := mw_483
theorem mt_488 : (Cond.code ({ cls := "RecordLeaves", name := "write", desc := "(I)I" } : MethodName) prog_1_method_15_code (4 : Nat) (Option.some FieldType.int)) ∈ lw_tbl := List.mem_append_right _ (List.mem_append_right _ (List.mem_append_right _ (List.mem_append_left _ (List.mem_of_getElem? (i := 8) (rfl)))))
theorem mw_488 : (Cond.code ({ cls := "RecordLeaves", name := "write", desc := "(I)I" } : MethodName) prog_1_method_15_code (4 : Nat) (Option.some FieldType.int)) ∈ rl_G := rl_inG mt_488 rfl
theorem co_X11_write : Cond.code yX11_write cX11_write 4 (some FieldType.int) ∈ rl_G := mw_488
theorem mt_486 : (Cond.instanceMethod ({ cls := "RecordLeaves", name := "write", desc := "(I)I" } : MethodName)) ∈ lw_tbl := List.mem_append_right _ (List.mem_append_right _ (List.mem_append_right _ (List.mem_append_left _ (List.mem_of_getElem? (i := 6) (by decide +kernel)))))
theorem mw_486 : (Cond.instanceMethod ({ cls := "RecordLeaves", name := "write", desc := "(I)I" } : MethodName)) ∈ rl_G := rl_inG mt_486 rfl
theorem im_X11_write : Cond.instanceMethod yX11_write ∈ rl_G := mw_486
theorem mt_487 : (Cond.selects "RecordLeaves" ({ cls := "RecordLeaves", name := "write", desc := "(I)I" } : MethodName) ({ cls := "RecordLeaves", name := "write", desc := "(I)I" } : MethodName)) ∈ lw_tbl := List.mem_append_right _ (List.mem_append_right _ (List.mem_append_right _ (List.mem_append_left _ (List.mem_of_getElem? (i := 7) (by decide +kernel)))))
theorem sl_X11_write : Cond.selects yX11_write.cls yX11_write yX11_write ∈ lw_tbl := mt_487
theorem mt_492 : (Cond.code ({ cls := "RecordLeaves$Tape", name := "replaceBy", desc := "(LRecordLeaves$RecordThing;)I" } : MethodName) prog_11_method_2_code (2 : Nat) (Option.some FieldType.int)) ∈ lw_tbl := List.mem_append_right _ (List.mem_append_right _ (List.mem_append_right _ (List.mem_append_left _ (List.mem_of_getElem? (i := 12) (rfl)))))
theorem mw_492 : (Cond.code ({ cls := "RecordLeaves$Tape", name := "replaceBy", desc := "(LRecordLeaves$RecordThing;)I" } : MethodName) prog_11_method_2_code (2 : Nat) (Option.some FieldType.int)) ∈ rl_G := rl_inG mt_492 rfl
theorem co_X9_replaceBy : Cond.code yX9_replaceBy cX9_replaceBy 2 (some FieldType.int) ∈ rl_G := mw_492
theorem mt_490 : (Cond.instanceMethod ({ cls := "RecordLeaves$Tape", name := "replaceBy", desc := "(LRecordLeaves$RecordThing;)I" } : MethodName)) ∈ lw_tbl := List.mem_append_right _ (List.mem_append_right _ (List.mem_append_right _ (List.mem_append_left _ (List.mem_of_getElem? (i := 10) (by decide +kernel)))))
theorem mw_490 : (Cond.instanceMethod ({ cls := "RecordLeaves$Tape", name := "replaceBy", desc := "(LRecordLeaves$RecordThing;)I" } : MethodName)) ∈ rl_G := rl_inG mt_490 rfl
theorem im_X9_replaceBy : Cond.instanceMethod yX9_replaceBy ∈ rl_G := mw_490
theorem mt_491 : (Cond.selects "RecordLeaves$Tape" ({ cls := "RecordLeaves$Tape", name := "replaceBy", desc := "(LRecordLeaves$RecordThing;)I" } : MethodName) ({ cls := "RecordLeaves$Tape", name := "replaceBy", desc := "(LRecordLeaves$RecordThing;)I" } : MethodName)) ∈ lw_tbl := List.mem_append_right _ (List.mem_append_right _ (List.mem_append_right _ (List.mem_append_left _ (List.mem_of_getElem? (i := 11) (by decide +kernel)))))
theorem sl_X9_replaceBy : Cond.selects yX9_replaceBy.cls yX9_replaceBy yX9_replaceBy ∈ lw_tbl := mt_491
theorem mt_496 : (Cond.code ({ cls := "RecordLeaves$Tape", name := "putRecord", desc := "(LRecordLeaves$RecordThing;I)V" } : MethodName) prog_11_method_4_code (4 : Nat) (Option.none : Option FieldType)) ∈ lw_tbl := List.mem_append_right _ (List.mem_append_right _ (List.mem_append_right _ (List.mem_append_left _ (List.mem_of_getElem? (i := 16) (rfl)))))
theorem mw_496 : (Cond.code ({ cls := "RecordLeaves$Tape", name := "putRecord", desc := "(LRecordLeaves$RecordThing;I)V" } : MethodName) prog_11_method_4_code (4 : Nat) (Option.none : Option FieldType)) ∈ rl_G := rl_inG mt_496 rfl
theorem co_X9_putRecord : Cond.code yX9_putRecord cX9_putRecord 4 none ∈ rl_G := mw_496
theorem mt_495 : (Cond.instanceMethod ({ cls := "RecordLeaves$Tape", name := "putRecord", desc := "(LRecordLeaves$RecordThing;I)V" } : MethodName)) ∈ lw_tbl := List.mem_append_right _ (List.mem_append_right _ (List.mem_append_right _ (List.mem_append_left _ (List.mem_of_getElem? (i := 15) (by decide +kernel)))))
theorem mw_495 : (Cond.instanceMethod ({ cls := "RecordLeaves$Tape", name := "putRecord", desc := "(LRecordLeaves$RecordThing;I)V" } : MethodName)) ∈ rl_G := rl_inG mt_495 rfl
theorem im_X9_putRecord : Cond.instanceMethod yX9_putRecord ∈ rl_G := mw_495
theorem sl_X9_putRecord : Cond.selects yX9_putRecord.cls yX9_putRecord yX9_putRecord ∈ lw_tbl := List.mem_append_left _ (by decide +kernel)
theorem mt_501 : (Cond.code ({ cls := "RecordLeaves$Tape", name := "put", desc := "(J)V" } : MethodName) prog_11_method_3_code (3 : Nat) (Option.none : Option FieldType)) ∈ lw_tbl := List.mem_append_right _ (List.mem_append_right _ (List.mem_append_right _ (List.mem_append_left _ (List.mem_of_getElem? (i := 21) (rfl)))))
theorem mw_501 : (Cond.code ({ cls := "RecordLeaves$Tape", name := "put", desc := "(J)V" } : MethodName) prog_11_method_3_code (3 : Nat) (Option.none : Option FieldType)) ∈ rl_G := rl_inG mt_501 rfl
theorem co_X9_put : Cond.code yX9_put cX9_put 3 none ∈ rl_G := mw_501
theorem mt_500 : (Cond.instanceMethod ({ cls := "RecordLeaves$Tape", name := "put", desc := "(J)V" } : MethodName)) ∈ lw_tbl := List.mem_append_right _ (List.mem_append_right _ (List.mem_append_right _ (List.mem_append_left _ (List.mem_of_getElem? (i := 20) (by decide +kernel)))))
theorem mw_500 : (Cond.instanceMethod ({ cls := "RecordLeaves$Tape", name := "put", desc := "(J)V" } : MethodName)) ∈ rl_G := rl_inG mt_500 rfl
theorem im_X9_put : Cond.instanceMethod yX9_put ∈ rl_G := mw_500
theorem sl_X9_put : Cond.selects yX9_put.cls yX9_put yX9_put ∈ lw_tbl := List.mem_append_left _ (by decide +kernel)
theorem mt_509 : (Cond.code ({ cls := "RecordLeaves$Tape", name := "putValue", desc := "(LRecordLeaves$RecordThing;II)V" } : MethodName) prog_11_method_5_code (8 : Nat) (Option.none : Option FieldType)) ∈ lw_tbl := List.mem_append_right _ (List.mem_append_right _ (List.mem_append_right _ (List.mem_append_left _ (List.mem_of_getElem? (i := 29) (rfl)))))
theorem mw_509 : (Cond.code ({ cls := "RecordLeaves$Tape", name := "putValue", desc := "(LRecordLeaves$RecordThing;II)V" } : MethodName) prog_11_method_5_code (8 : Nat) (Option.none : Option FieldType)) ∈ rl_G := rl_inG mt_509 rfl
theorem co_X9_putValue : Cond.code yX9_putValue cX9_putValue 8 none ∈ rl_G := mw_509
theorem mt_508 : (Cond.instanceMethod ({ cls := "RecordLeaves$Tape", name := "putValue", desc := "(LRecordLeaves$RecordThing;II)V" } : MethodName)) ∈ lw_tbl := List.mem_append_right _ (List.mem_append_right _ (List.mem_append_right _ (List.mem_append_left _ (List.mem_of_getElem? (i := 28) (by decide +kernel)))))
theorem mw_508 : (Cond.instanceMethod ({ cls := "RecordLeaves$Tape", name := "putValue", desc := "(LRecordLeaves$RecordThing;II)V" } : MethodName)) ∈ rl_G := rl_inG mt_508 rfl
theorem im_X9_putValue : Cond.instanceMethod yX9_putValue ∈ rl_G := mw_508
theorem sl_X9_putValue : Cond.selects yX9_putValue.cls yX9_putValue yX9_putValue ∈ lw_tbl := List.mem_append_left _ (by decide +kernel)
theorem mt_517 : (Cond.code ({ cls := "RecordLeaves$Tape", name := "putItems", desc := "([I)V" } : MethodName) prog_11_method_6_code (3 : Nat) (Option.none : Option FieldType)) ∈ lw_tbl := List.mem_append_right _ (List.mem_append_right _ (List.mem_append_right _ (List.mem_append_left _ (List.mem_of_getElem? (i := 37) (rfl)))))
theorem mw_517 : (Cond.code ({ cls := "RecordLeaves$Tape", name := "putItems", desc := "([I)V" } : MethodName) prog_11_method_6_code (3 : Nat) (Option.none : Option FieldType)) ∈ rl_G := rl_inG mt_517 rfl
theorem co_X9_putItems : Cond.code yX9_putItems cX9_putItems 3 none ∈ rl_G := mw_517
theorem mt_516 : (Cond.instanceMethod ({ cls := "RecordLeaves$Tape", name := "putItems", desc := "([I)V" } : MethodName)) ∈ lw_tbl := List.mem_append_right _ (List.mem_append_right _ (List.mem_append_right _ (List.mem_append_left _ (List.mem_of_getElem? (i := 36) (by decide +kernel)))))
theorem mw_516 : (Cond.instanceMethod ({ cls := "RecordLeaves$Tape", name := "putItems", desc := "([I)V" } : MethodName)) ∈ rl_G := rl_inG mt_516 rfl
theorem im_X9_putItems : Cond.instanceMethod yX9_putItems ∈ rl_G := mw_516
theorem sl_X9_putItems : Cond.selects yX9_putItems.cls yX9_putItems yX9_putItems ∈ lw_tbl := List.mem_append_left _ (by decide +kernel)
theorem mt_525 : (Cond.code ({ cls := "RecordLeaves", name := "leaf", desc := "(I)J" } : MethodName) prog_1_method_16_code (2 : Nat) (Option.some FieldType.long)) ∈ lw_tbl := List.mem_append_right _ (List.mem_append_right _ (List.mem_append_right _ (List.mem_append_left _ (List.mem_of_getElem? (i := 45) (rfl)))))
theorem mw_525 : (Cond.code ({ cls := "RecordLeaves", name := "leaf", desc := "(I)J" } : MethodName) prog_1_method_16_code (2 : Nat) (Option.some FieldType.long)) ∈ rl_G := rl_inG mt_525 rfl
theorem co_X11_leaf : Cond.code yX11_leaf cX11_leaf 2 (some FieldType.long) ∈ rl_G := mw_525
theorem mt_523 : (Cond.instanceMethod ({ cls := "RecordLeaves", name := "leaf", desc := "(I)J" } : MethodName)) ∈ lw_tbl := List.mem_append_right _ (List.mem_append_right _ (List.mem_append_right _ (List.mem_append_left _ (List.mem_of_getElem? (i := 43) (by decide +kernel)))))
theorem mw_523 : (Cond.instanceMethod ({ cls := "RecordLeaves", name := "leaf", desc := "(I)J" } : MethodName)) ∈ rl_G := rl_inG mt_523 rfl
theorem im_X11_leaf : Cond.instanceMethod yX11_leaf ∈ rl_G := mw_523
theorem mt_524 : (Cond.selects "RecordLeaves" ({ cls := "RecordLeaves", name := "leaf", desc := "(I)J" } : MethodName) ({ cls := "RecordLeaves", name := "leaf", desc := "(I)J" } : MethodName)) ∈ lw_tbl := List.mem_append_right _ (List.mem_append_right _ (List.mem_append_right _ (List.mem_append_left _ (List.mem_of_getElem? (i := 44) (by decide +kernel)))))
theorem sl_X11_leaf : Cond.selects yX11_leaf.cls yX11_leaf yX11_leaf ∈ lw_tbl := mt_524
theorem mt_529 : (Cond.code ({ cls := "RecordLeaves", name := "set", desc := "(IJ)I" } : MethodName) prog_1_method_17_code (4 : Nat) (Option.some FieldType.int)) ∈ lw_tbl := List.mem_append_right _ (List.mem_append_right _ (List.mem_append_right _ (List.mem_append_left _ (List.mem_of_getElem? (i := 49) (rfl)))))
theorem mw_529 : (Cond.code ({ cls := "RecordLeaves", name := "set", desc := "(IJ)I" } : MethodName) prog_1_method_17_code (4 : Nat) (Option.some FieldType.int)) ∈ rl_G := rl_inG mt_529 rfl
theorem co_X11_set : Cond.code yX11_set cX11_set 4 (some FieldType.int) ∈ rl_G := mw_529
theorem mt_527 : (Cond.instanceMethod ({ cls := "RecordLeaves", name := "set", desc := "(IJ)I" } : MethodName)) ∈ lw_tbl := List.mem_append_right _ (List.mem_append_right _ (List.mem_append_right _ (List.mem_append_left _ (List.mem_of_getElem? (i := 47) (by decide +kernel)))))
theorem mw_527 : (Cond.instanceMethod ({ cls := "RecordLeaves", name := "set", desc := "(IJ)I" } : MethodName)) ∈ rl_G := rl_inG mt_527 rfl
theorem im_X11_set : Cond.instanceMethod yX11_set ∈ rl_G := mw_527
theorem mt_528 : (Cond.selects "RecordLeaves" ({ cls := "RecordLeaves", name := "set", desc := "(IJ)I" } : MethodName) ({ cls := "RecordLeaves", name := "set", desc := "(IJ)I" } : MethodName)) ∈ lw_tbl := List.mem_append_right _ (List.mem_append_right _ (List.mem_append_right _ (List.mem_append_left _ (List.mem_of_getElem? (i := 48) (by decide +kernel)))))
theorem sl_X11_set : Cond.selects yX11_set.cls yX11_set yX11_set ∈ lw_tbl := mt_528
theorem mt_534 : (Cond.code ({ cls := "RecordLeaves", name := "cut", desc := "(I)I" } : MethodName) prog_1_method_18_code (3 : Nat) (Option.some FieldType.int)) ∈ lw_tbl := List.mem_append_right _ (List.mem_append_right _ (List.mem_append_right _ (List.mem_append_left _ (List.mem_of_getElem? (i := 54) (rfl)))))
theorem mw_534 : (Cond.code ({ cls := "RecordLeaves", name := "cut", desc := "(I)I" } : MethodName) prog_1_method_18_code (3 : Nat) (Option.some FieldType.int)) ∈ rl_G := rl_inG mt_534 rfl
theorem co_X11_cut : Cond.code yX11_cut cX11_cut 3 (some FieldType.int) ∈ rl_G := mw_534
theorem mt_532 : (Cond.instanceMethod ({ cls := "RecordLeaves", name := "cut", desc := "(I)I" } : MethodName)) ∈ lw_tbl := List.mem_append_right _ (List.mem_append_right _ (List.mem_append_right _ (List.mem_append_left _ (List.mem_of_getElem? (i := 52) (by decide +kernel)))))
theorem mw_532 : (Cond.instanceMethod ({ cls := "RecordLeaves", name := "cut", desc := "(I)I" } : MethodName)) ∈ rl_G := rl_inG mt_532 rfl
theorem im_X11_cut : Cond.instanceMethod yX11_cut ∈ rl_G := mw_532
theorem mt_533 : (Cond.selects "RecordLeaves" ({ cls := "RecordLeaves", name := "cut", desc := "(I)I" } : MethodName) ({ cls := "RecordLeaves", name := "cut", desc := "(I)I" } : MethodName)) ∈ lw_tbl := List.mem_append_right _ (List.mem_append_right _ (List.mem_append_right _ (List.mem_append_left _ (List.mem_of_getElem? (i := 53) (by decide +kernel)))))
theorem sl_X11_cut : Cond.selects yX11_cut.cls yX11_cut yX11_cut ∈ lw_tbl := mt_533
theorem mt_538 : (Cond.code ({ cls := "RecordLeaves", name := "read", desc := "(II)I" } : MethodName) prog_1_method_19_code (5 : Nat) (Option.some FieldType.int)) ∈ lw_tbl := List.mem_append_right _ (List.mem_append_right _ (List.mem_append_right _ (List.mem_append_left _ (List.mem_of_getElem? (i := 58) (rfl)))))
theorem mw_538 : (Cond.code ({ cls := "RecordLeaves", name := "read", desc := "(II)I" } : MethodName) prog_1_method_19_code (5 : Nat) (Option.some FieldType.int)) ∈ rl_G := rl_inG mt_538 rfl
theorem co_X11_read : Cond.code yX11_read cX11_read 5 (some FieldType.int) ∈ rl_G := mw_538
theorem mt_536 : (Cond.instanceMethod ({ cls := "RecordLeaves", name := "read", desc := "(II)I" } : MethodName)) ∈ lw_tbl := List.mem_append_right _ (List.mem_append_right _ (List.mem_append_right _ (List.mem_append_left _ (List.mem_of_getElem? (i := 56) (by decide +kernel)))))
theorem mw_536 : (Cond.instanceMethod ({ cls := "RecordLeaves", name := "read", desc := "(II)I" } : MethodName)) ∈ rl_G := rl_inG mt_536 rfl
theorem im_X11_read : Cond.instanceMethod yX11_read ∈ rl_G := mw_536
theorem mt_537 : (Cond.selects "RecordLeaves" ({ cls := "RecordLeaves", name := "read", desc := "(II)I" } : MethodName) ({ cls := "RecordLeaves", name := "read", desc := "(II)I" } : MethodName)) ∈ lw_tbl := List.mem_append_right _ (List.mem_append_right _ (List.mem_append_right _ (List.mem_append_left _ (List.mem_of_getElem? (i := 57) (by decide +kernel)))))
theorem sl_X11_read : Cond.selects yX11_read.cls yX11_read yX11_read ∈ lw_tbl := mt_537
theorem mt_543 : (Cond.code ({ cls := "RecordLeaves$Reader", name := "<init>", desc := "(LRecordLeaves$Kinds;LRecordLeaves$Tape;I)V" } : MethodName) prog_7_method_1_code (4 : Nat) (Option.none : Option FieldType)) ∈ lw_tbl := List.mem_append_right _ (List.mem_append_right _ (List.mem_append_right _ (List.mem_append_left _ (List.mem_of_getElem? (i := 63) (rfl)))))
theorem mw_543 : (Cond.code ({ cls := "RecordLeaves$Reader", name := "<init>", desc := "(LRecordLeaves$Kinds;LRecordLeaves$Tape;I)V" } : MethodName) prog_7_method_1_code (4 : Nat) (Option.none : Option FieldType)) ∈ rl_G := rl_inG mt_543 rfl
theorem co_X5_init : Cond.code yX5_init cX5_init 4 none ∈ rl_G := mw_543
theorem mt_542 : (Cond.instanceMethod ({ cls := "RecordLeaves$Reader", name := "<init>", desc := "(LRecordLeaves$Kinds;LRecordLeaves$Tape;I)V" } : MethodName)) ∈ lw_tbl := List.mem_append_right _ (List.mem_append_right _ (List.mem_append_right _ (List.mem_append_left _ (List.mem_of_getElem? (i := 62) (by decide +kernel)))))
theorem mw_542 : (Cond.instanceMethod ({ cls := "RecordLeaves$Reader", name := "<init>", desc := "(LRecordLeaves$Kinds;LRecordLeaves$Tape;I)V" } : MethodName)) ∈ rl_G := rl_inG mt_542 rfl
theorem im_X5_init : Cond.instanceMethod yX5_init ∈ rl_G := mw_542
theorem mt_577 : (Cond.code ({ cls := "RecordLeaves$Reader", name := "nextRecord", desc := "(Z)LRecordLeaves$RecordThing;" } : MethodName) prog_7_method_4_code (9 : Nat) (Option.some (FieldType.object "RecordLeaves$RecordThing"))) ∈ lw_tbl := List.mem_append_right _ (List.mem_append_right _ (List.mem_append_right _ (List.mem_append_left _ (List.mem_of_getElem? (i := 97) (rfl)))))
theorem mw_577 : (Cond.code ({ cls := "RecordLeaves$Reader", name := "nextRecord", desc := "(Z)LRecordLeaves$RecordThing;" } : MethodName) prog_7_method_4_code (9 : Nat) (Option.some (FieldType.object "RecordLeaves$RecordThing"))) ∈ rl_G := rl_inG mt_577 rfl
theorem co_X5_nextRecord : Cond.code yX5_nextRecord cX5_nextRecord 9 (some (FieldType.object "RecordLeaves$RecordThing")) ∈ rl_G := mw_577
theorem mt_576 : (Cond.instanceMethod ({ cls := "RecordLeaves$Reader", name := "nextRecord", desc := "(Z)LRecordLeaves$RecordThing;" } : MethodName)) ∈ lw_tbl := List.mem_append_right _ (List.mem_append_right _ (List.mem_append_right _ (List.mem_append_left _ (List.mem_of_getElem? (i := 96) (by decide +kernel)))))
theorem mw_576 : (Cond.instanceMethod ({ cls := "RecordLeaves$Reader", name := "nextRecord", desc := "(Z)LRecordLeaves$RecordThing;" } : MethodName)) ∈ rl_G := rl_inG mt_576 rfl
theorem im_X5_nextRecord : Cond.instanceMethod yX5_nextRecord ∈ rl_G := mw_576
theorem sl_X5_nextRecord : Cond.selects yX5_nextRecord.cls yX5_nextRecord yX5_nextRecord ∈ lw_tbl := List.mem_append_left _ (by decide +kernel)
theorem mt_581 : (Cond.code ({ cls := "RecordLeaves$Reader", name := "fail", desc := "(I)V" } : MethodName) prog_7_method_2_code (2 : Nat) (Option.none : Option FieldType)) ∈ lw_tbl := List.mem_append_right _ (List.mem_append_right _ (List.mem_append_right _ (List.mem_append_left _ (List.mem_of_getElem? (i := 101) (rfl)))))
theorem mw_581 : (Cond.code ({ cls := "RecordLeaves$Reader", name := "fail", desc := "(I)V" } : MethodName) prog_7_method_2_code (2 : Nat) (Option.none : Option FieldType)) ∈ rl_G := rl_inG mt_581 rfl
theorem co_X5_fail : Cond.code yX5_fail cX5_fail 2 none ∈ rl_G := mw_581
theorem mt_580 : (Cond.instanceMethod ({ cls := "RecordLeaves$Reader", name := "fail", desc := "(I)V" } : MethodName)) ∈ lw_tbl := List.mem_append_right _ (List.mem_append_right _ (List.mem_append_right _ (List.mem_append_left _ (List.mem_of_getElem? (i := 100) (by decide +kernel)))))
theorem mw_580 : (Cond.instanceMethod ({ cls := "RecordLeaves$Reader", name := "fail", desc := "(I)V" } : MethodName)) ∈ rl_G := rl_inG mt_580 rfl
theorem im_X5_fail : Cond.instanceMethod yX5_fail ∈ rl_G := mw_580
theorem sl_X5_fail : Cond.selects yX5_fail.cls yX5_fail yX5_fail ∈ lw_tbl := List.mem_append_left _ (by decide +kernel)
theorem mt_585 : (Cond.code ({ cls := "RecordLeaves$Reader", name := "nextLeaf", desc := "()J" } : MethodName) prog_7_method_3_code (1 : Nat) (Option.some FieldType.long)) ∈ lw_tbl := List.mem_append_right _ (List.mem_append_right _ (List.mem_append_right _ (List.mem_append_left _ (List.mem_of_getElem? (i := 105) (rfl)))))
theorem mw_585 : (Cond.code ({ cls := "RecordLeaves$Reader", name := "nextLeaf", desc := "()J" } : MethodName) prog_7_method_3_code (1 : Nat) (Option.some FieldType.long)) ∈ rl_G := rl_inG mt_585 rfl
theorem co_X5_nextLeaf : Cond.code yX5_nextLeaf cX5_nextLeaf 1 (some FieldType.long) ∈ rl_G := mw_585
theorem mt_584 : (Cond.instanceMethod ({ cls := "RecordLeaves$Reader", name := "nextLeaf", desc := "()J" } : MethodName)) ∈ lw_tbl := List.mem_append_right _ (List.mem_append_right _ (List.mem_append_right _ (List.mem_append_left _ (List.mem_of_getElem? (i := 104) (by decide +kernel)))))
theorem mw_584 : (Cond.instanceMethod ({ cls := "RecordLeaves$Reader", name := "nextLeaf", desc := "()J" } : MethodName)) ∈ rl_G := rl_inG mt_584 rfl
theorem im_X5_nextLeaf : Cond.instanceMethod yX5_nextLeaf ∈ rl_G := mw_584
theorem sl_X5_nextLeaf : Cond.selects yX5_nextLeaf.cls yX5_nextLeaf yX5_nextLeaf ∈ lw_tbl := List.mem_append_left _ (by decide +kernel)
theorem mt_596 : (Cond.code ({ cls := "RecordLeaves$Reader", name := "nextPart", desc := "(LRecordLeaves$RecordThing;)V" } : MethodName) prog_7_method_6_code (9 : Nat) (Option.none : Option FieldType)) ∈ lw_tbl := List.mem_append_right _ (List.mem_append_right _ (List.mem_append_right _ (List.mem_append_left _ (List.mem_of_getElem? (i := 116) (rfl)))))
theorem mw_596 : (Cond.code ({ cls := "RecordLeaves$Reader", name := "nextPart", desc := "(LRecordLeaves$RecordThing;)V" } : MethodName) prog_7_method_6_code (9 : Nat) (Option.none : Option FieldType)) ∈ rl_G := rl_inG mt_596 rfl
theorem co_X5_nextPart : Cond.code yX5_nextPart cX5_nextPart 9 none ∈ rl_G := mw_596
theorem mt_595 : (Cond.instanceMethod ({ cls := "RecordLeaves$Reader", name := "nextPart", desc := "(LRecordLeaves$RecordThing;)V" } : MethodName)) ∈ lw_tbl := List.mem_append_right _ (List.mem_append_right _ (List.mem_append_right _ (List.mem_append_left _ (List.mem_of_getElem? (i := 115) (by decide +kernel)))))
theorem mw_595 : (Cond.instanceMethod ({ cls := "RecordLeaves$Reader", name := "nextPart", desc := "(LRecordLeaves$RecordThing;)V" } : MethodName)) ∈ rl_G := rl_inG mt_595 rfl
theorem im_X5_nextPart : Cond.instanceMethod yX5_nextPart ∈ rl_G := mw_595
theorem sl_X5_nextPart : Cond.selects yX5_nextPart.cls yX5_nextPart yX5_nextPart ∈ lw_tbl := List.mem_append_left _ (by decide +kernel)
theorem mt_603 : (Cond.code ({ cls := "RecordLeaves$Reader", name := "nextThing", desc := "(ILRecordLeaves$Part;)LRecordLeaves$Thing;" } : MethodName) prog_7_method_7_code (3 : Nat) (Option.some (FieldType.object "RecordLeaves$Thing"))) ∈ lw_tbl := List.mem_append_right _ (List.mem_append_right _ (List.mem_append_right _ (List.mem_append_left _ (List.mem_of_getElem? (i := 123) (rfl)))))
theorem mw_603 : (Cond.code ({ cls := "RecordLeaves$Reader", name := "nextThing", desc := "(ILRecordLeaves$Part;)LRecordLeaves$Thing;" } : MethodName) prog_7_method_7_code (3 : Nat) (Option.some (FieldType.object "RecordLeaves$Thing"))) ∈ rl_G := rl_inG mt_603 rfl
theorem co_X5_nextThing : Cond.code yX5_nextThing cX5_nextThing 3 (some (FieldType.object "RecordLeaves$Thing")) ∈ rl_G := mw_603
theorem mt_602 : (Cond.instanceMethod ({ cls := "RecordLeaves$Reader", name := "nextThing", desc := "(ILRecordLeaves$Part;)LRecordLeaves$Thing;" } : MethodName)) ∈ lw_tbl := List.mem_append_right _ (List.mem_append_right _ (List.mem_append_right _ (List.mem_append_left _ (List.mem_of_getElem? (i := 122) (by decide +kernel)))))
theorem mw_602 : (Cond.instanceMethod ({ cls := "RecordLeaves$Reader", name := "nextThing", desc := "(ILRecordLeaves$Part;)LRecordLeaves$Thing;" } : MethodName)) ∈ rl_G := rl_inG mt_602 rfl
theorem im_X5_nextThing : Cond.instanceMethod yX5_nextThing ∈ rl_G := mw_602
theorem sl_X5_nextThing : Cond.selects yX5_nextThing.cls yX5_nextThing yX5_nextThing ∈ lw_tbl := List.mem_append_left _ (by decide +kernel)
theorem mt_607 : (Cond.code ({ cls := "RecordLeaves$Reader", name := "nextConstant", desc := "(LRecordLeaves$Part;)LRecordLeaves$Constant;" } : MethodName) prog_7_method_8_code (6 : Nat) (Option.some (FieldType.object "RecordLeaves$Constant"))) ∈ lw_tbl := List.mem_append_right _ (List.mem_append_right _ (List.mem_append_right _ (List.mem_append_left _ (List.mem_of_getElem? (i := 127) (rfl)))))
theorem mw_607 : (Cond.code ({ cls := "RecordLeaves$Reader", name := "nextConstant", desc := "(LRecordLeaves$Part;)LRecordLeaves$Constant;" } : MethodName) prog_7_method_8_code (6 : Nat) (Option.some (FieldType.object "RecordLeaves$Constant"))) ∈ rl_G := rl_inG mt_607 rfl
theorem co_X5_nextConstant : Cond.code yX5_nextConstant cX5_nextConstant 6 (some (FieldType.object "RecordLeaves$Constant")) ∈ rl_G := mw_607
theorem mt_606 : (Cond.instanceMethod ({ cls := "RecordLeaves$Reader", name := "nextConstant", desc := "(LRecordLeaves$Part;)LRecordLeaves$Constant;" } : MethodName)) ∈ lw_tbl := List.mem_append_right _ (List.mem_append_right _ (List.mem_append_right _ (List.mem_append_left _ (List.mem_of_getElem? (i := 126) (by decide +kernel)))))
theorem mw_606 : (Cond.instanceMethod ({ cls := "RecordLeaves$Reader", name := "nextConstant", desc := "(LRecordLeaves$Part;)LRecordLeaves$Constant;" } : MethodName)) ∈ rl_G := rl_inG mt_606 rfl
theorem im_X5_nextConstant : Cond.instanceMethod yX5_nextConstant ∈ rl_G := mw_606
theorem sl_X5_nextConstant : Cond.selects yX5_nextConstant.cls yX5_nextConstant yX5_nextConstant ∈ lw_tbl := List.mem_append_left _ (by decide +kernel)
theorem mt_614 : (Cond.code ({ cls := "RecordLeaves$Reader", name := "nextRow", desc := "(Z)LRecordLeaves$Row;" } : MethodName) prog_7_method_9_code (7 : Nat) (Option.some (FieldType.object "RecordLeaves$Row"))) ∈ lw_tbl := List.mem_append_right _ (List.mem_append_right _ (List.mem_append_right _ (List.mem_append_left _ (List.mem_of_getElem? (i := 134) (rfl)))))
theorem mw_614 : (Cond.code ({ cls := "RecordLeaves$Reader", name := "nextRow", desc := "(Z)LRecordLeaves$Row;" } : MethodName) prog_7_method_9_code (7 : Nat) (Option.some (FieldType.object "RecordLeaves$Row"))) ∈ rl_G := rl_inG mt_614 rfl
theorem co_X5_nextRow : Cond.code yX5_nextRow cX5_nextRow 7 (some (FieldType.object "RecordLeaves$Row")) ∈ rl_G := mw_614
theorem mt_613 : (Cond.instanceMethod ({ cls := "RecordLeaves$Reader", name := "nextRow", desc := "(Z)LRecordLeaves$Row;" } : MethodName)) ∈ lw_tbl := List.mem_append_right _ (List.mem_append_right _ (List.mem_append_right _ (List.mem_append_left _ (List.mem_of_getElem? (i := 133) (by decide +kernel)))))
theorem mw_613 : (Cond.instanceMethod ({ cls := "RecordLeaves$Reader", name := "nextRow", desc := "(Z)LRecordLeaves$Row;" } : MethodName)) ∈ rl_G := rl_inG mt_613 rfl
theorem im_X5_nextRow : Cond.instanceMethod yX5_nextRow ∈ rl_G := mw_613
theorem sl_X5_nextRow : Cond.selects yX5_nextRow.cls yX5_nextRow yX5_nextRow ∈ lw_tbl := List.mem_append_left _ (by decide +kernel)
theorem mt_622 : (Cond.code ({ cls := "RecordLeaves$Reader", name := "finished", desc := "(LRecordLeaves$RecordThing;)LRecordLeaves$RecordThing;" } : MethodName) prog_7_method_5_code (2 : Nat) (Option.some (FieldType.object "RecordLeaves$RecordThing"))) ∈ lw_tbl := List.mem_append_right _ (List.mem_append_right _ (List.mem_append_right _ (List.mem_append_left _ (List.mem_of_getElem? (i := 142) (rfl)))))
theorem mw_622 : (Cond.code ({ cls := "RecordLeaves$Reader", name := "finished", desc := "(LRecordLeaves$RecordThing;)LRecordLeaves$RecordThing;" } : MethodName) prog_7_method_5_code (2 : Nat) (Option.some (FieldType.object "RecordLeaves$RecordThing"))) ∈ rl_G := rl_inG mt_622 rfl
theorem co_X5_finished : Cond.code yX5_finished cX5_finished 2 (some (FieldType.object "RecordLeaves$RecordThing")) ∈ rl_G := mw_622
theorem mt_621 : (Cond.instanceMethod ({ cls := "RecordLeaves$Reader", name := "finished", desc := "(LRecordLeaves$RecordThing;)LRecordLeaves$RecordThing;" } : MethodName)) ∈ lw_tbl := List.mem_append_right _ (List.mem_append_right _ (List.mem_append_right _ (List.mem_append_left _ (List.mem_of_getElem? (i := 141) (by decide +kernel)))))
theorem mw_621 : (Cond.instanceMethod ({ cls := "RecordLeaves$Reader", name := "finished", desc := "(LRecordLeaves$RecordThing;)LRecordLeaves$RecordThing;" } : MethodName)) ∈ rl_G := rl_inG mt_621 rfl
theorem im_X5_finished : Cond.instanceMethod yX5_finished ∈ rl_G := mw_621
theorem sl_X5_finished : Cond.selects yX5_finished.cls yX5_finished yX5_finished ∈ lw_tbl := List.mem_append_left _ (by decide +kernel)
theorem mt_627 : (Cond.code ({ cls := "RecordLeaves", name := "cause", desc := "(I)I" } : MethodName) prog_1_method_20_code (2 : Nat) (Option.some FieldType.int)) ∈ lw_tbl := List.mem_append_right _ (List.mem_append_right _ (List.mem_append_right _ (List.mem_append_left _ (List.mem_of_getElem? (i := 147) (rfl)))))
theorem mw_627 : (Cond.code ({ cls := "RecordLeaves", name := "cause", desc := "(I)I" } : MethodName) prog_1_method_20_code (2 : Nat) (Option.some FieldType.int)) ∈ rl_G := rl_inG mt_627 rfl
theorem co_X11_cause : Cond.code yX11_cause cX11_cause 2 (some FieldType.int) ∈ rl_G := mw_627
theorem mt_625 : (Cond.instanceMethod ({ cls := "RecordLeaves", name := "cause", desc := "(I)I" } : MethodName)) ∈ lw_tbl := List.mem_append_right _ (List.mem_append_right _ (List.mem_append_right _ (List.mem_append_left _ (List.mem_of_getElem? (i := 145) (by decide +kernel)))))
theorem mw_625 : (Cond.instanceMethod ({ cls := "RecordLeaves", name := "cause", desc := "(I)I" } : MethodName)) ∈ rl_G := rl_inG mt_625 rfl
theorem im_X11_cause : Cond.instanceMethod yX11_cause ∈ rl_G := mw_625
theorem mt_626 : (Cond.selects "RecordLeaves" ({ cls := "RecordLeaves", name := "cause", desc := "(I)I" } : MethodName) ({ cls := "RecordLeaves", name := "cause", desc := "(I)I" } : MethodName)) ∈ lw_tbl := List.mem_append_right _ (List.mem_append_right _ (List.mem_append_right _ (List.mem_append_left _ (List.mem_of_getElem? (i := 146) (by decide +kernel)))))
theorem sl_X11_cause : Cond.selects yX11_cause.cls yX11_cause yX11_cause ∈ lw_tbl := mt_626
theorem mt_631 : (Cond.code ({ cls := "RecordLeaves", name := "status", desc := "()I" } : MethodName) prog_1_method_21_code (1 : Nat) (Option.some FieldType.int)) ∈ lw_tbl := List.mem_append_right _ (List.mem_append_right _ (List.mem_append_right _ (List.mem_append_left _ (List.mem_of_getElem? (i := 151) (rfl)))))
theorem mw_631 : (Cond.code ({ cls := "RecordLeaves", name := "status", desc := "()I" } : MethodName) prog_1_method_21_code (1 : Nat) (Option.some FieldType.int)) ∈ rl_G := rl_inG mt_631 rfl
theorem co_X11_status : Cond.code yX11_status cX11_status 1 (some FieldType.int) ∈ rl_G := mw_631
theorem mt_629 : (Cond.instanceMethod ({ cls := "RecordLeaves", name := "status", desc := "()I" } : MethodName)) ∈ lw_tbl := List.mem_append_right _ (List.mem_append_right _ (List.mem_append_right _ (List.mem_append_left _ (List.mem_of_getElem? (i := 149) (by decide +kernel)))))
theorem mw_629 : (Cond.instanceMethod ({ cls := "RecordLeaves", name := "status", desc := "()I" } : MethodName)) ∈ rl_G := rl_inG mt_629 rfl
theorem im_X11_status : Cond.instanceMethod yX11_status ∈ rl_G := mw_629
theorem mt_630 : (Cond.selects "RecordLeaves" ({ cls := "RecordLeaves", name := "status", desc := "()I" } : MethodName) ({ cls := "RecordLeaves", name := "status", desc := "()I" } : MethodName)) ∈ lw_tbl := List.mem_append_right _ (List.mem_append_right _ (List.mem_append_right _ (List.mem_append_left _ (List.mem_of_getElem? (i := 150) (by decide +kernel)))))
theorem sl_X11_status : Cond.selects yX11_status.cls yX11_status yX11_status ∈ lw_tbl := mt_630
theorem mt_635 : (Cond.code ({ cls := "RecordLeaves", name := "count", desc := "(I)I" } : MethodName) prog_1_method_22_code (2 : Nat) (Option.some FieldType.int)) ∈ lw_tbl := List.mem_append_right _ (List.mem_append_right _ (List.mem_append_right _ (List.mem_append_left _ (List.mem_of_getElem? (i := 155) (rfl)))))
theorem mw_635 : (Cond.code ({ cls := "RecordLeaves", name := "count", desc := "(I)I" } : MethodName) prog_1_method_22_code (2 : Nat) (Option.some FieldType.int)) ∈ rl_G := rl_inG mt_635 rfl
theorem co_X11_count : Cond.code yX11_count cX11_count 2 (some FieldType.int) ∈ rl_G := mw_635
theorem mt_633 : (Cond.instanceMethod ({ cls := "RecordLeaves", name := "count", desc := "(I)I" } : MethodName)) ∈ lw_tbl := List.mem_append_right _ (List.mem_append_right _ (List.mem_append_right _ (List.mem_append_left _ (List.mem_of_getElem? (i := 153) (by decide +kernel)))))
theorem mw_633 : (Cond.instanceMethod ({ cls := "RecordLeaves", name := "count", desc := "(I)I" } : MethodName)) ∈ rl_G := rl_inG mt_633 rfl
theorem im_X11_count : Cond.instanceMethod yX11_count ∈ rl_G := mw_633
theorem mt_634 : (Cond.selects "RecordLeaves" ({ cls := "RecordLeaves", name := "count", desc := "(I)I" } : MethodName) ({ cls := "RecordLeaves", name := "count", desc := "(I)I" } : MethodName)) ∈ lw_tbl := List.mem_append_right _ (List.mem_append_right _ (List.mem_append_right _ (List.mem_append_left _ (List.mem_of_getElem? (i := 154) (by decide +kernel)))))
theorem sl_X11_count : Cond.selects yX11_count.cls yX11_count yX11_count ∈ lw_tbl := mt_634
theorem mt_639 : (Cond.code ({ cls := "RecordLeaves", name := "heldPlaces", desc := "()I" } : MethodName) prog_1_method_24_code (3 : Nat) (Option.some FieldType.int)) ∈ lw_tbl := List.mem_append_right _ (List.mem_append_right _ (List.mem_append_right _ (List.mem_append_left _ (List.mem_of_getElem? (i := 159) (rfl)))))
theorem mw_639 : (Cond.code ({ cls := "RecordLeaves", name := "heldPlaces", desc := "()I" } : MethodName) prog_1_method_24_code (3 : Nat) (Option.some FieldType.int)) ∈ rl_G := rl_inG mt_639 rfl
theorem co_X11_heldPlaces : Cond.code yX11_heldPlaces cX11_heldPlaces 3 (some FieldType.int) ∈ rl_G := mw_639
theorem mt_638 : (Cond.instanceMethod ({ cls := "RecordLeaves", name := "heldPlaces", desc := "()I" } : MethodName)) ∈ lw_tbl := List.mem_append_right _ (List.mem_append_right _ (List.mem_append_right _ (List.mem_append_left _ (List.mem_of_getElem? (i := 158) (by decide +kernel)))))
theorem mw_638 : (Cond.instanceMethod ({ cls := "RecordLeaves", name := "heldPlaces", desc := "()I" } : MethodName)) ∈ rl_G := rl_inG mt_638 rfl
theorem im_X11_heldPlaces : Cond.instanceMethod yX11_heldPlaces ∈ rl_G := mw_638
theorem sl_X11_heldPlaces : Cond.selects yX11_heldPlaces.cls yX11_heldPlaces yX11_heldPlaces ∈ lw_tbl := List.mem_append_left _ (by decide +kernel)
theorem mt_644 : (Cond.code ({ cls := "RecordLeavesModel", name := "<init>", desc := "()V" } : MethodName) prog_14_method_1_code (1 : Nat) (Option.none : Option FieldType)) ∈ lw_tbl := List.mem_append_right _ (List.mem_append_right _ (List.mem_append_right _ (List.mem_append_left _ (List.mem_of_getElem? (i := 164) (rfl)))))
theorem mw_644 : (Cond.code ({ cls := "RecordLeavesModel", name := "<init>", desc := "()V" } : MethodName) prog_14_method_1_code (1 : Nat) (Option.none : Option FieldType)) ∈ rl_G := rl_inG mt_644 rfl
theorem co_X12_init : Cond.code yX12_init cX12_init 1 none ∈ rl_G := mw_644
theorem mt_643 : (Cond.instanceMethod ({ cls := "RecordLeavesModel", name := "<init>", desc := "()V" } : MethodName)) ∈ lw_tbl := List.mem_append_right _ (List.mem_append_right _ (List.mem_append_right _ (List.mem_append_left _ (List.mem_of_getElem? (i := 163) (by decide +kernel)))))
theorem mw_643 : (Cond.instanceMethod ({ cls := "RecordLeavesModel", name := "<init>", desc := "()V" } : MethodName)) ∈ rl_G := rl_inG mt_643 rfl
theorem im_X12_init : Cond.instanceMethod yX12_init ∈ rl_G := mw_643
theorem mt_801 : (Cond.code ({ cls := "RecordLeavesModel", name := "constant", desc := "(IIIZ)I" } : MethodName) prog_14_method_7_code (7 : Nat) (Option.some FieldType.int)) ∈ lw_tbl := List.mem_append_right _ (List.mem_append_right _ (List.mem_append_right _ (List.mem_append_right _ (List.mem_append_left _ (List.mem_of_getElem? (i := 81) (rfl))))))
theorem mw_801 : (Cond.code ({ cls := "RecordLeavesModel", name := "constant", desc := "(IIIZ)I" } : MethodName) prog_14_method_7_code (7 : Nat) (Option.some FieldType.int)) ∈ rl_G := rl_inG mt_801 rfl
theorem co_X12_constant : Cond.code yX12_constant cX12_constant 7 (some FieldType.int) ∈ rl_G := mw_801
theorem mt_799 : (Cond.instanceMethod ({ cls := "RecordLeavesModel", name := "constant", desc := "(IIIZ)I" } : MethodName)) ∈ lw_tbl := List.mem_append_right _ (List.mem_append_right _ (List.mem_append_right _ (List.mem_append_right _ (List.mem_append_left _ (List.mem_of_getElem? (i := 79) (by decide +kernel))))))
theorem mw_799 : (Cond.instanceMethod ({ cls := "RecordLeavesModel", name := "constant", desc := "(IIIZ)I" } : MethodName)) ∈ rl_G := rl_inG mt_799 rfl
theorem im_X12_constant : Cond.instanceMethod yX12_constant ∈ rl_G := mw_799
theorem mt_800 : (Cond.selects "RecordLeavesModel" ({ cls := "RecordLeavesModel", name := "constant", desc := "(IIIZ)I" } : MethodName) ({ cls := "RecordLeavesModel", name := "constant", desc := "(IIIZ)I" } : MethodName)) ∈ lw_tbl := List.mem_append_right _ (List.mem_append_right _ (List.mem_append_right _ (List.mem_append_right _ (List.mem_append_left _ (List.mem_of_getElem? (i := 80) (by decide +kernel))))))
theorem sl_X12_constant : Cond.selects yX12_constant.cls yX12_constant yX12_constant ∈ lw_tbl := mt_800
theorem mt_804 : (Cond.code ({ cls := "RecordLeavesModel", name := "in", desc := "(JJJ)Z" } : MethodName) prog_14_method_2_code (6 : Nat) (Option.some FieldType.boolean)) ∈ lw_tbl := List.mem_append_right _ (List.mem_append_right _ (List.mem_append_right _ (List.mem_append_right _ (List.mem_append_left _ (List.mem_of_getElem? (i := 84) (rfl))))))
theorem mw_804 : (Cond.code ({ cls := "RecordLeavesModel", name := "in", desc := "(JJJ)Z" } : MethodName) prog_14_method_2_code (6 : Nat) (Option.some FieldType.boolean)) ∈ rl_G := rl_inG mt_804 rfl
theorem co_X12_in : Cond.code yX12_in cX12_in 6 (some FieldType.boolean) ∈ rl_G := mw_804
theorem mt_803 : (Cond.static ({ cls := "RecordLeavesModel", name := "in", desc := "(JJJ)Z" } : MethodName)) ∈ lw_tbl := List.mem_append_right _ (List.mem_append_right _ (List.mem_append_right _ (List.mem_append_right _ (List.mem_append_left _ (List.mem_of_getElem? (i := 83) (by decide +kernel))))))
theorem mw_803 : (Cond.static ({ cls := "RecordLeavesModel", name := "in", desc := "(JJJ)Z" } : MethodName)) ∈ rl_G := rl_inG mt_803 rfl
theorem sm_X12_in : Cond.static yX12_in ∈ rl_G := mw_803
theorem mt_807 : (Cond.code ({ cls := "RecordLeavesModel", name := "isVersion", desc := "(I)Z" } : MethodName) prog_14_method_4_code (1 : Nat) (Option.some FieldType.boolean)) ∈ lw_tbl := List.mem_append_right _ (List.mem_append_right _ (List.mem_append_right _ (List.mem_append_right _ (List.mem_append_left _ (List.mem_of_getElem? (i := 87) (rfl))))))
theorem mw_807 : (Cond.code ({ cls := "RecordLeavesModel", name := "isVersion", desc := "(I)Z" } : MethodName) prog_14_method_4_code (1 : Nat) (Option.some FieldType.boolean)) ∈ rl_G := rl_inG mt_807 rfl
theorem co_X12_isVersion : Cond.code yX12_isVersion cX12_isVersion 1 (some FieldType.boolean) ∈ rl_G := mw_807
theorem mt_806 : (Cond.static ({ cls := "RecordLeavesModel", name := "isVersion", desc := "(I)Z" } : MethodName)) ∈ lw_tbl := List.mem_append_right _ (List.mem_append_right _ (List.mem_append_right _ (List.mem_append_right _ (List.mem_append_left _ (List.mem_of_getElem? (i := 86) (by decide +kernel))))))
theorem mw_806 : (Cond.static ({ cls := "RecordLeavesModel", name := "isVersion", desc := "(I)Z" } : MethodName)) ∈ rl_G := rl_inG mt_806 rfl
theorem sm_X12_isVersion : Cond.static yX12_isVersion ∈ rl_G := mw_806
theorem mt_813 : (Cond.code ({ cls := "RecordLeavesModel", name := "constantBy", desc := "(IIJ)I" } : MethodName) prog_14_method_6_code (7 : Nat) (Option.some FieldType.int)) ∈ lw_tbl := List.mem_append_right _ (List.mem_append_right _ (List.mem_append_right _ (List.mem_append_right _ (List.mem_append_left _ (List.mem_of_getElem? (i := 93) (rfl))))))
theorem mw_813 : (Cond.code ({ cls := "RecordLeavesModel", name := "constantBy", desc := "(IIJ)I" } : MethodName) prog_14_method_6_code (7 : Nat) (Option.some FieldType.int)) ∈ rl_G := rl_inG mt_813 rfl
theorem co_X12_constantBy : Cond.code yX12_constantBy cX12_constantBy 7 (some FieldType.int) ∈ rl_G := mw_813
theorem mt_812 : (Cond.instanceMethod ({ cls := "RecordLeavesModel", name := "constantBy", desc := "(IIJ)I" } : MethodName)) ∈ lw_tbl := List.mem_append_right _ (List.mem_append_right _ (List.mem_append_right _ (List.mem_append_right _ (List.mem_append_left _ (List.mem_of_getElem? (i := 92) (by decide +kernel))))))
theorem mw_812 : (Cond.instanceMethod ({ cls := "RecordLeavesModel", name := "constantBy", desc := "(IIJ)I" } : MethodName)) ∈ rl_G := rl_inG mt_812 rfl
theorem im_X12_constantBy : Cond.instanceMethod yX12_constantBy ∈ rl_G := mw_812
theorem sl_X12_constantBy : Cond.selects yX12_constantBy.cls yX12_constantBy yX12_constantBy ∈ lw_tbl := List.mem_append_left _ (by decide +kernel)
theorem mt_817 : (Cond.code ({ cls := "RecordLeavesModel", name := "part", desc := "(IIIII)I" } : MethodName) prog_14_method_9_code (8 : Nat) (Option.some FieldType.int)) ∈ lw_tbl := List.mem_append_right _ (List.mem_append_right _ (List.mem_append_right _ (List.mem_append_right _ (List.mem_append_left _ (List.mem_of_getElem? (i := 97) (rfl))))))
theorem mw_817 : (Cond.code ({ cls := "RecordLeavesModel", name := "part", desc := "(IIIII)I" } : MethodName) prog_14_method_9_code (8 : Nat) (Option.some FieldType.int)) ∈ rl_G := rl_inG mt_817 rfl
theorem co_X12_part : Cond.code yX12_part cX12_part 8 (some FieldType.int) ∈ rl_G := mw_817
theorem mt_815 : (Cond.instanceMethod ({ cls := "RecordLeavesModel", name := "part", desc := "(IIIII)I" } : MethodName)) ∈ lw_tbl := List.mem_append_right _ (List.mem_append_right _ (List.mem_append_right _ (List.mem_append_right _ (List.mem_append_left _ (List.mem_of_getElem? (i := 95) (by decide +kernel))))))
theorem mw_815 : (Cond.instanceMethod ({ cls := "RecordLeavesModel", name := "part", desc := "(IIIII)I" } : MethodName)) ∈ rl_G := rl_inG mt_815 rfl
theorem im_X12_part : Cond.instanceMethod yX12_part ∈ rl_G := mw_815
theorem mt_816 : (Cond.selects "RecordLeavesModel" ({ cls := "RecordLeavesModel", name := "part", desc := "(IIIII)I" } : MethodName) ({ cls := "RecordLeavesModel", name := "part", desc := "(IIIII)I" } : MethodName)) ∈ lw_tbl := List.mem_append_right _ (List.mem_append_right _ (List.mem_append_right _ (List.mem_append_right _ (List.mem_append_left _ (List.mem_of_getElem? (i := 96) (by decide +kernel))))))
theorem sl_X12_part : Cond.selects yX12_part.cls yX12_part yX12_part ∈ lw_tbl := mt_816
theorem mt_820 : (Cond.code ({ cls := "RecordLeavesModel", name := "isRecordKind", desc := "(J)Z" } : MethodName) prog_14_method_5_code (2 : Nat) (Option.some FieldType.boolean)) ∈ lw_tbl := List.mem_append_right _ (List.mem_append_right _ (List.mem_append_right _ (List.mem_append_right _ (List.mem_append_left _ (List.mem_of_getElem? (i := 100) (rfl))))))
theorem mw_820 : (Cond.code ({ cls := "RecordLeavesModel", name := "isRecordKind", desc := "(J)Z" } : MethodName) prog_14_method_5_code (2 : Nat) (Option.some FieldType.boolean)) ∈ rl_G := rl_inG mt_820 rfl
theorem co_X12_isRecordKind : Cond.code yX12_isRecordKind cX12_isRecordKind 2 (some FieldType.boolean) ∈ rl_G := mw_820
theorem mt_819 : (Cond.static ({ cls := "RecordLeavesModel", name := "isRecordKind", desc := "(J)Z" } : MethodName)) ∈ lw_tbl := List.mem_append_right _ (List.mem_append_right _ (List.mem_append_right _ (List.mem_append_right _ (List.mem_append_left _ (List.mem_of_getElem? (i := 99) (by decide +kernel))))))
theorem mw_819 : (Cond.static ({ cls := "RecordLeavesModel", name := "isRecordKind", desc := "(J)Z" } : MethodName)) ∈ rl_G := rl_inG mt_819 rfl
theorem sm_X12_isRecordKind : Cond.static yX12_isRecordKind ∈ rl_G := mw_819
theorem mt_826 : (Cond.code ({ cls := "RecordLeavesModel", name := "partBy", desc := "(IJ)I" } : MethodName) prog_14_method_8_code (5 : Nat) (Option.some FieldType.int)) ∈ lw_tbl := List.mem_append_right _ (List.mem_append_right _ (List.mem_append_right _ (List.mem_append_right _ (List.mem_append_left _ (List.mem_of_getElem? (i := 106) (rfl))))))
theorem mw_826 : (Cond.code ({ cls := "RecordLeavesModel", name := "partBy", desc := "(IJ)I" } : MethodName) prog_14_method_8_code (5 : Nat) (Option.some FieldType.int)) ∈ rl_G := rl_inG mt_826 rfl
theorem co_X12_partBy : Cond.code yX12_partBy cX12_partBy 5 (some FieldType.int) ∈ rl_G := mw_826
theorem mt_825 : (Cond.instanceMethod ({ cls := "RecordLeavesModel", name := "partBy", desc := "(IJ)I" } : MethodName)) ∈ lw_tbl := List.mem_append_right _ (List.mem_append_right _ (List.mem_append_right _ (List.mem_append_right _ (List.mem_append_left _ (List.mem_of_getElem? (i := 105) (by decide +kernel))))))
theorem mw_825 : (Cond.instanceMethod ({ cls := "RecordLeavesModel", name := "partBy", desc := "(IJ)I" } : MethodName)) ∈ rl_G := rl_inG mt_825 rfl
theorem im_X12_partBy : Cond.instanceMethod yX12_partBy ∈ rl_G := mw_825
theorem sl_X12_partBy : Cond.selects yX12_partBy.cls yX12_partBy yX12_partBy ∈ lw_tbl := List.mem_append_left _ (by decide +kernel)
theorem mt_830 : (Cond.code ({ cls := "RecordLeavesModel", name := "check", desc := "(IIIII)I" } : MethodName) prog_14_method_11_code (9 : Nat) (Option.some FieldType.int)) ∈ lw_tbl := List.mem_append_right _ (List.mem_append_right _ (List.mem_append_right _ (List.mem_append_right _ (List.mem_append_left _ (List.mem_of_getElem? (i := 110) (rfl))))))
theorem mw_830 : (Cond.code ({ cls := "RecordLeavesModel", name := "check", desc := "(IIIII)I" } : MethodName) prog_14_method_11_code (9 : Nat) (Option.some FieldType.int)) ∈ rl_G := rl_inG mt_830 rfl
theorem co_X12_check : Cond.code yX12_check cX12_check 9 (some FieldType.int) ∈ rl_G := mw_830
theorem mt_828 : (Cond.instanceMethod ({ cls := "RecordLeavesModel", name := "check", desc := "(IIIII)I" } : MethodName)) ∈ lw_tbl := List.mem_append_right _ (List.mem_append_right _ (List.mem_append_right _ (List.mem_append_right _ (List.mem_append_left _ (List.mem_of_getElem? (i := 108) (by decide +kernel))))))
theorem mw_828 : (Cond.instanceMethod ({ cls := "RecordLeavesModel", name := "check", desc := "(IIIII)I" } : MethodName)) ∈ rl_G := rl_inG mt_828 rfl
theorem im_X12_check : Cond.instanceMethod yX12_check ∈ rl_G := mw_828
theorem mt_829 : (Cond.selects "RecordLeavesModel" ({ cls := "RecordLeavesModel", name := "check", desc := "(IIIII)I" } : MethodName) ({ cls := "RecordLeavesModel", name := "check", desc := "(IIIII)I" } : MethodName)) ∈ lw_tbl := List.mem_append_right _ (List.mem_append_right _ (List.mem_append_right _ (List.mem_append_right _ (List.mem_append_left _ (List.mem_of_getElem? (i := 109) (by decide +kernel))))))
theorem sl_X12_check : Cond.selects yX12_check.cls yX12_check yX12_check ∈ lw_tbl := mt_829
theorem mt_834 : (Cond.code ({ cls := "RecordLeavesModel", name := "isSort", desc := "(III)Z" } : MethodName) prog_14_method_10_code (4 : Nat) (Option.some FieldType.boolean)) ∈ lw_tbl := List.mem_append_right _ (List.mem_append_right _ (List.mem_append_right _ (List.mem_append_right _ (List.mem_append_left _ (List.mem_of_getElem? (i := 114) (rfl))))))
theorem mw_834 : (Cond.code ({ cls := "RecordLeavesModel", name := "isSort", desc := "(III)Z" } : MethodName) prog_14_method_10_code (4 : Nat) (Option.some FieldType.boolean)) ∈ rl_G := rl_inG mt_834 rfl
theorem co_X12_isSort : Cond.code yX12_isSort cX12_isSort 4 (some FieldType.boolean) ∈ rl_G := mw_834
theorem mt_833 : (Cond.instanceMethod ({ cls := "RecordLeavesModel", name := "isSort", desc := "(III)Z" } : MethodName)) ∈ lw_tbl := List.mem_append_right _ (List.mem_append_right _ (List.mem_append_right _ (List.mem_append_right _ (List.mem_append_left _ (List.mem_of_getElem? (i := 113) (by decide +kernel))))))
theorem mw_833 : (Cond.instanceMethod ({ cls := "RecordLeavesModel", name := "isSort", desc := "(III)Z" } : MethodName)) ∈ rl_G := rl_inG mt_833 rfl
theorem im_X12_isSort : Cond.instanceMethod yX12_isSort ∈ rl_G := mw_833
theorem sl_X12_isSort : Cond.selects yX12_isSort.cls yX12_isSort yX12_isSort ∈ lw_tbl := List.mem_append_left _ (by decide +kernel)
theorem mt_838 : (Cond.code ({ cls := "RecordLeavesModel", name := "hold", desc := "(IIII)I" } : MethodName) prog_14_method_13_code (6 : Nat) (Option.some FieldType.int)) ∈ lw_tbl := List.mem_append_right _ (List.mem_append_right _ (List.mem_append_right _ (List.mem_append_right _ (List.mem_append_left _ (List.mem_of_getElem? (i := 118) (rfl))))))
theorem mw_838 : (Cond.code ({ cls := "RecordLeavesModel", name := "hold", desc := "(IIII)I" } : MethodName) prog_14_method_13_code (6 : Nat) (Option.some FieldType.int)) ∈ rl_G := rl_inG mt_838 rfl
theorem co_X12_hold : Cond.code yX12_hold cX12_hold 6 (some FieldType.int) ∈ rl_G := mw_838
theorem mt_836 : (Cond.instanceMethod ({ cls := "RecordLeavesModel", name := "hold", desc := "(IIII)I" } : MethodName)) ∈ lw_tbl := List.mem_append_right _ (List.mem_append_right _ (List.mem_append_right _ (List.mem_append_right _ (List.mem_append_left _ (List.mem_of_getElem? (i := 116) (by decide +kernel))))))
theorem mw_836 : (Cond.instanceMethod ({ cls := "RecordLeavesModel", name := "hold", desc := "(IIII)I" } : MethodName)) ∈ rl_G := rl_inG mt_836 rfl
theorem im_X12_hold : Cond.instanceMethod yX12_hold ∈ rl_G := mw_836
theorem mt_837 : (Cond.selects "RecordLeavesModel" ({ cls := "RecordLeavesModel", name := "hold", desc := "(IIII)I" } : MethodName) ({ cls := "RecordLeavesModel", name := "hold", desc := "(IIII)I" } : MethodName)) ∈ lw_tbl := List.mem_append_right _ (List.mem_append_right _ (List.mem_append_right _ (List.mem_append_right _ (List.mem_append_left _ (List.mem_of_getElem? (i := 117) (by decide +kernel))))))
theorem sl_X12_hold : Cond.selects yX12_hold.cls yX12_hold yX12_hold ∈ lw_tbl := mt_837
theorem mt_841 : (Cond.code ({ cls := "RecordLeavesModel", name := "isPlace", desc := "(I)Z" } : MethodName) prog_14_method_3_code (1 : Nat) (Option.some FieldType.boolean)) ∈ lw_tbl := List.mem_append_right _ (List.mem_append_right _ (List.mem_append_right _ (List.mem_append_right _ (List.mem_append_left _ (List.mem_of_getElem? (i := 121) (rfl))))))
theorem mw_841 : (Cond.code ({ cls := "RecordLeavesModel", name := "isPlace", desc := "(I)Z" } : MethodName) prog_14_method_3_code (1 : Nat) (Option.some FieldType.boolean)) ∈ rl_G := rl_inG mt_841 rfl
theorem co_X12_isPlace : Cond.code yX12_isPlace cX12_isPlace 1 (some FieldType.boolean) ∈ rl_G := mw_841
theorem mt_840 : (Cond.static ({ cls := "RecordLeavesModel", name := "isPlace", desc := "(I)Z" } : MethodName)) ∈ lw_tbl := List.mem_append_right _ (List.mem_append_right _ (List.mem_append_right _ (List.mem_append_right _ (List.mem_append_left _ (List.mem_of_getElem? (i := 120) (by decide +kernel))))))
theorem mw_840 : (Cond.static ({ cls := "RecordLeavesModel", name := "isPlace", desc := "(I)Z" } : MethodName)) ∈ rl_G := rl_inG mt_840 rfl
theorem sm_X12_isPlace : Cond.static yX12_isPlace ∈ rl_G := mw_840
theorem mt_845 : (Cond.code ({ cls := "RecordLeavesModel", name := "row", desc := "(II)I" } : MethodName) prog_14_method_15_code (3 : Nat) (Option.some FieldType.int)) ∈ lw_tbl := List.mem_append_right _ (List.mem_append_right _ (List.mem_append_right _ (List.mem_append_right _ (List.mem_append_left _ (List.mem_of_getElem? (i := 125) (rfl))))))
theorem mw_845 : (Cond.code ({ cls := "RecordLeavesModel", name := "row", desc := "(II)I" } : MethodName) prog_14_method_15_code (3 : Nat) (Option.some FieldType.int)) ∈ rl_G := rl_inG mt_845 rfl
theorem co_X12_row : Cond.code yX12_row cX12_row 3 (some FieldType.int) ∈ rl_G := mw_845
theorem mt_843 : (Cond.instanceMethod ({ cls := "RecordLeavesModel", name := "row", desc := "(II)I" } : MethodName)) ∈ lw_tbl := List.mem_append_right _ (List.mem_append_right _ (List.mem_append_right _ (List.mem_append_right _ (List.mem_append_left _ (List.mem_of_getElem? (i := 123) (by decide +kernel))))))
theorem mw_843 : (Cond.instanceMethod ({ cls := "RecordLeavesModel", name := "row", desc := "(II)I" } : MethodName)) ∈ rl_G := rl_inG mt_843 rfl
theorem im_X12_row : Cond.instanceMethod yX12_row ∈ rl_G := mw_843
theorem mt_844 : (Cond.selects "RecordLeavesModel" ({ cls := "RecordLeavesModel", name := "row", desc := "(II)I" } : MethodName) ({ cls := "RecordLeavesModel", name := "row", desc := "(II)I" } : MethodName)) ∈ lw_tbl := List.mem_append_right _ (List.mem_append_right _ (List.mem_append_right _ (List.mem_append_right _ (List.mem_append_left _ (List.mem_of_getElem? (i := 124) (by decide +kernel))))))
theorem sl_X12_row : Cond.selects yX12_row.cls yX12_row yX12_row ∈ lw_tbl := mt_844
theorem mt_850 : (Cond.code ({ cls := "RecordLeavesModel", name := "newRow", desc := "(I)I" } : MethodName) prog_14_method_14_code (3 : Nat) (Option.some FieldType.int)) ∈ lw_tbl := List.mem_append_right _ (List.mem_append_right _ (List.mem_append_right _ (List.mem_append_right _ (List.mem_append_left _ (List.mem_of_getElem? (i := 130) (rfl))))))
theorem mw_850 : (Cond.code ({ cls := "RecordLeavesModel", name := "newRow", desc := "(I)I" } : MethodName) prog_14_method_14_code (3 : Nat) (Option.some FieldType.int)) ∈ rl_G := rl_inG mt_850 rfl
theorem co_X12_newRow : Cond.code yX12_newRow cX12_newRow 3 (some FieldType.int) ∈ rl_G := mw_850
theorem mt_849 : (Cond.instanceMethod ({ cls := "RecordLeavesModel", name := "newRow", desc := "(I)I" } : MethodName)) ∈ lw_tbl := List.mem_append_right _ (List.mem_append_right _ (List.mem_append_right _ (List.mem_append_right _ (List.mem_append_left _ (List.mem_of_getElem? (i := 129) (by decide +kernel))))))
theorem mw_849 : (Cond.instanceMethod ({ cls := "RecordLeavesModel", name := "newRow", desc := "(I)I" } : MethodName)) ∈ rl_G := rl_inG mt_849 rfl
theorem im_X12_newRow : Cond.instanceMethod yX12_newRow ∈ rl_G := mw_849
theorem sl_X12_newRow : Cond.selects yX12_newRow.cls yX12_newRow yX12_newRow ∈ lw_tbl := List.mem_append_left _ (by decide +kernel)
theorem mt_854 : (Cond.code ({ cls := "RecordLeavesModel", name := "item", desc := "(III)I" } : MethodName) prog_14_method_16_code (6 : Nat) (Option.some FieldType.int)) ∈ lw_tbl := List.mem_append_right _ (List.mem_append_right _ (List.mem_append_right _ (List.mem_append_right _ (List.mem_append_left _ (List.mem_of_getElem? (i := 134) (rfl))))))
theorem mw_854 : (Cond.code ({ cls := "RecordLeavesModel", name := "item", desc := "(III)I" } : MethodName) prog_14_method_16_code (6 : Nat) (Option.some FieldType.int)) ∈ rl_G := rl_inG mt_854 rfl
theorem co_X12_item : Cond.code yX12_item cX12_item 6 (some FieldType.int) ∈ rl_G := mw_854
theorem mt_852 : (Cond.instanceMethod ({ cls := "RecordLeavesModel", name := "item", desc := "(III)I" } : MethodName)) ∈ lw_tbl := List.mem_append_right _ (List.mem_append_right _ (List.mem_append_right _ (List.mem_append_right _ (List.mem_append_left _ (List.mem_of_getElem? (i := 132) (by decide +kernel))))))
theorem mw_852 : (Cond.instanceMethod ({ cls := "RecordLeavesModel", name := "item", desc := "(III)I" } : MethodName)) ∈ rl_G := rl_inG mt_852 rfl
theorem im_X12_item : Cond.instanceMethod yX12_item ∈ rl_G := mw_852
theorem mt_853 : (Cond.selects "RecordLeavesModel" ({ cls := "RecordLeavesModel", name := "item", desc := "(III)I" } : MethodName) ({ cls := "RecordLeavesModel", name := "item", desc := "(III)I" } : MethodName)) ∈ lw_tbl := List.mem_append_right _ (List.mem_append_right _ (List.mem_append_right _ (List.mem_append_right _ (List.mem_append_left _ (List.mem_of_getElem? (i := 133) (by decide +kernel))))))
theorem sl_X12_item : Cond.selects yX12_item.cls yX12_item yX12_item ∈ lw_tbl := mt_853
theorem mt_858 : (Cond.code ({ cls := "RecordLeavesModel", name := "familyOf", desc := "(I)I" } : MethodName) prog_14_method_12_code (2 : Nat) (Option.some FieldType.int)) ∈ lw_tbl := List.mem_append_right _ (List.mem_append_right _ (List.mem_append_right _ (List.mem_append_right _ (List.mem_append_left _ (List.mem_of_getElem? (i := 138) (rfl))))))
theorem mw_858 : (Cond.code ({ cls := "RecordLeavesModel", name := "familyOf", desc := "(I)I" } : MethodName) prog_14_method_12_code (2 : Nat) (Option.some FieldType.int)) ∈ rl_G := rl_inG mt_858 rfl
theorem co_X12_familyOf : Cond.code yX12_familyOf cX12_familyOf 2 (some FieldType.int) ∈ rl_G := mw_858
theorem mt_857 : (Cond.instanceMethod ({ cls := "RecordLeavesModel", name := "familyOf", desc := "(I)I" } : MethodName)) ∈ lw_tbl := List.mem_append_right _ (List.mem_append_right _ (List.mem_append_right _ (List.mem_append_right _ (List.mem_append_left _ (List.mem_of_getElem? (i := 137) (by decide +kernel))))))
theorem mw_857 : (Cond.instanceMethod ({ cls := "RecordLeavesModel", name := "familyOf", desc := "(I)I" } : MethodName)) ∈ rl_G := rl_inG mt_857 rfl
theorem im_X12_familyOf : Cond.instanceMethod yX12_familyOf ∈ rl_G := mw_857
theorem sl_X12_familyOf : Cond.selects yX12_familyOf.cls yX12_familyOf yX12_familyOf ∈ lw_tbl := List.mem_append_left _ (by decide +kernel)
theorem mt_863 : (Cond.code ({ cls := "RecordLeavesModel", name := "share", desc := "(II)I" } : MethodName) prog_14_method_17_code (3 : Nat) (Option.some FieldType.int)) ∈ lw_tbl := List.mem_append_right _ (List.mem_append_right _ (List.mem_append_right _ (List.mem_append_right _ (List.mem_append_left _ (List.mem_of_getElem? (i := 143) (rfl))))))
theorem mw_863 : (Cond.code ({ cls := "RecordLeavesModel", name := "share", desc := "(II)I" } : MethodName) prog_14_method_17_code (3 : Nat) (Option.some FieldType.int)) ∈ rl_G := rl_inG mt_863 rfl
theorem co_X12_share : Cond.code yX12_share cX12_share 3 (some FieldType.int) ∈ rl_G := mw_863
theorem mt_861 : (Cond.instanceMethod ({ cls := "RecordLeavesModel", name := "share", desc := "(II)I" } : MethodName)) ∈ lw_tbl := List.mem_append_right _ (List.mem_append_right _ (List.mem_append_right _ (List.mem_append_right _ (List.mem_append_left _ (List.mem_of_getElem? (i := 141) (by decide +kernel))))))
theorem mw_861 : (Cond.instanceMethod ({ cls := "RecordLeavesModel", name := "share", desc := "(II)I" } : MethodName)) ∈ rl_G := rl_inG mt_861 rfl
theorem im_X12_share : Cond.instanceMethod yX12_share ∈ rl_G := mw_861
theorem mt_862 : (Cond.selects "RecordLeavesModel" ({ cls := "RecordLeavesModel", name := "share", desc := "(II)I" } : MethodName) ({ cls := "RecordLeavesModel", name := "share", desc := "(II)I" } : MethodName)) ∈ lw_tbl := List.mem_append_right _ (List.mem_append_right _ (List.mem_append_right _ (List.mem_append_right _ (List.mem_append_left _ (List.mem_of_getElem? (i := 142) (by decide +kernel))))))
theorem sl_X12_share : Cond.selects yX12_share.cls yX12_share yX12_share ∈ lw_tbl := mt_862
theorem mt_867 : (Cond.code ({ cls := "RecordLeavesModel", name := "give", desc := "(IJI)I" } : MethodName) prog_14_method_18_code (5 : Nat) (Option.some FieldType.int)) ∈ lw_tbl := List.mem_append_right _ (List.mem_append_right _ (List.mem_append_right _ (List.mem_append_right _ (List.mem_append_left _ (List.mem_of_getElem? (i := 147) (rfl))))))
theorem mw_867 : (Cond.code ({ cls := "RecordLeavesModel", name := "give", desc := "(IJI)I" } : MethodName) prog_14_method_18_code (5 : Nat) (Option.some FieldType.int)) ∈ rl_G := rl_inG mt_867 rfl
theorem co_X12_give : Cond.code yX12_give cX12_give 5 (some FieldType.int) ∈ rl_G := mw_867
theorem mt_865 : (Cond.instanceMethod ({ cls := "RecordLeavesModel", name := "give", desc := "(IJI)I" } : MethodName)) ∈ lw_tbl := List.mem_append_right _ (List.mem_append_right _ (List.mem_append_right _ (List.mem_append_right _ (List.mem_append_left _ (List.mem_of_getElem? (i := 145) (by decide +kernel))))))
theorem mw_865 : (Cond.instanceMethod ({ cls := "RecordLeavesModel", name := "give", desc := "(IJI)I" } : MethodName)) ∈ rl_G := rl_inG mt_865 rfl
theorem im_X12_give : Cond.instanceMethod yX12_give ∈ rl_G := mw_865
theorem mt_866 : (Cond.selects "RecordLeavesModel" ({ cls := "RecordLeavesModel", name := "give", desc := "(IJI)I" } : MethodName) ({ cls := "RecordLeavesModel", name := "give", desc := "(IJI)I" } : MethodName)) ∈ lw_tbl := List.mem_append_right _ (List.mem_append_right _ (List.mem_append_right _ (List.mem_append_right _ (List.mem_append_left _ (List.mem_of_getElem? (i := 146) (by decide +kernel))))))
theorem sl_X12_give : Cond.selects yX12_give.cls yX12_give yX12_give ∈ lw_tbl := mt_866
theorem mt_871 : (Cond.code ({ cls := "RecordLeavesModel", name := "make", desc := "(III)I" } : MethodName) prog_14_method_22_code (5 : Nat) (Option.some FieldType.int)) ∈ lw_tbl := List.mem_append_right _ (List.mem_append_right _ (List.mem_append_right _ (List.mem_append_right _ (List.mem_append_left _ (List.mem_of_getElem? (i := 151) (rfl))))))
theorem mw_871 : (Cond.code ({ cls := "RecordLeavesModel", name := "make", desc := "(III)I" } : MethodName) prog_14_method_22_code (5 : Nat) (Option.some FieldType.int)) ∈ rl_G := rl_inG mt_871 rfl
theorem co_X12_make : Cond.code yX12_make cX12_make 5 (some FieldType.int) ∈ rl_G := mw_871
theorem mt_869 : (Cond.instanceMethod ({ cls := "RecordLeavesModel", name := "make", desc := "(III)I" } : MethodName)) ∈ lw_tbl := List.mem_append_right _ (List.mem_append_right _ (List.mem_append_right _ (List.mem_append_right _ (List.mem_append_left _ (List.mem_of_getElem? (i := 149) (by decide +kernel))))))
theorem mw_869 : (Cond.instanceMethod ({ cls := "RecordLeavesModel", name := "make", desc := "(III)I" } : MethodName)) ∈ rl_G := rl_inG mt_869 rfl
theorem im_X12_make : Cond.instanceMethod yX12_make ∈ rl_G := mw_869
theorem mt_870 : (Cond.selects "RecordLeavesModel" ({ cls := "RecordLeavesModel", name := "make", desc := "(III)I" } : MethodName) ({ cls := "RecordLeavesModel", name := "make", desc := "(III)I" } : MethodName)) ∈ lw_tbl := List.mem_append_right _ (List.mem_append_right _ (List.mem_append_right _ (List.mem_append_right _ (List.mem_append_left _ (List.mem_of_getElem? (i := 150) (by decide +kernel))))))
theorem sl_X12_make : Cond.selects yX12_make.cls yX12_make yX12_make ∈ lw_tbl := mt_870
theorem mt_875 : (Cond.code ({ cls := "RecordLeavesModel", name := "record", desc := "(II)I" } : MethodName) prog_14_method_21_code (7 : Nat) (Option.some FieldType.int)) ∈ lw_tbl := List.mem_append_right _ (List.mem_append_right _ (List.mem_append_right _ (List.mem_append_right _ (List.mem_append_left _ (List.mem_of_getElem? (i := 155) (rfl))))))
theorem mw_875 : (Cond.code ({ cls := "RecordLeavesModel", name := "record", desc := "(II)I" } : MethodName) prog_14_method_21_code (7 : Nat) (Option.some FieldType.int)) ∈ rl_G := rl_inG mt_875 rfl
theorem co_X12_record : Cond.code yX12_record cX12_record 7 (some FieldType.int) ∈ rl_G := mw_875
theorem mt_874 : (Cond.instanceMethod ({ cls := "RecordLeavesModel", name := "record", desc := "(II)I" } : MethodName)) ∈ lw_tbl := List.mem_append_right _ (List.mem_append_right _ (List.mem_append_right _ (List.mem_append_right _ (List.mem_append_left _ (List.mem_of_getElem? (i := 154) (by decide +kernel))))))
theorem mw_874 : (Cond.instanceMethod ({ cls := "RecordLeavesModel", name := "record", desc := "(II)I" } : MethodName)) ∈ rl_G := rl_inG mt_874 rfl
theorem im_X12_record : Cond.instanceMethod yX12_record ∈ rl_G := mw_874
theorem sl_X12_record : Cond.selects yX12_record.cls yX12_record yX12_record ∈ lw_tbl := List.mem_append_left _ (by decide +kernel)
theorem mt_879 : (Cond.code ({ cls := "RecordLeavesModel", name := "taken", desc := "(IIJI)I" } : MethodName) prog_14_method_19_code (10 : Nat) (Option.some FieldType.int)) ∈ lw_tbl := List.mem_append_right _ (List.mem_append_right _ (List.mem_append_right _ (List.mem_append_right _ (List.mem_append_left _ (List.mem_of_getElem? (i := 159) (rfl))))))
theorem mw_879 : (Cond.code ({ cls := "RecordLeavesModel", name := "taken", desc := "(IIJI)I" } : MethodName) prog_14_method_19_code (10 : Nat) (Option.some FieldType.int)) ∈ rl_G := rl_inG mt_879 rfl
theorem co_X12_taken : Cond.code yX12_taken cX12_taken 10 (some FieldType.int) ∈ rl_G := mw_879
theorem mt_878 : (Cond.instanceMethod ({ cls := "RecordLeavesModel", name := "taken", desc := "(IIJI)I" } : MethodName)) ∈ lw_tbl := List.mem_append_right _ (List.mem_append_right _ (List.mem_append_right _ (List.mem_append_right _ (List.mem_append_left _ (List.mem_of_getElem? (i := 158) (by decide +kernel))))))
theorem mw_878 : (Cond.instanceMethod ({ cls := "RecordLeavesModel", name := "taken", desc := "(IIJI)I" } : MethodName)) ∈ rl_G := rl_inG mt_878 rfl
theorem im_X12_taken : Cond.instanceMethod yX12_taken ∈ rl_G := mw_878
theorem sl_X12_taken : Cond.selects yX12_taken.cls yX12_taken yX12_taken ∈ lw_tbl := List.mem_append_left _ (by decide +kernel)
theorem mt_885 : (Cond.code ({ cls := "RecordLeavesModel", name := "checked", desc := "(IJIJ)I" } : MethodName) prog_14_method_20_code (8 : Nat) (Option.some FieldType.int)) ∈ lw_tbl := List.mem_append_right _ (List.mem_append_right _ (List.mem_append_right _ (List.mem_append_right _ (List.mem_append_left _ (List.mem_of_getElem? (i := 165) (rfl))))))
theorem mw_885 : (Cond.code ({ cls := "RecordLeavesModel", name := "checked", desc := "(IJIJ)I" } : MethodName) prog_14_method_20_code (8 : Nat) (Option.some FieldType.int)) ∈ rl_G := rl_inG mt_885 rfl
theorem co_X12_checked : Cond.code yX12_checked cX12_checked 8 (some FieldType.int) ∈ rl_G := mw_885
theorem mt_884 : (Cond.instanceMethod ({ cls := "RecordLeavesModel", name := "checked", desc := "(IJIJ)I" } : MethodName)) ∈ lw_tbl := List.mem_append_right _ (List.mem_append_right _ (List.mem_append_right _ (List.mem_append_right _ (List.mem_append_left _ (List.mem_of_getElem? (i := 164) (by decide +kernel))))))
theorem mw_884 : (Cond.instanceMethod ({ cls := "RecordLeavesModel", name := "checked", desc := "(IJIJ)I" } : MethodName)) ∈ rl_G := rl_inG mt_884 rfl
theorem im_X12_checked : Cond.instanceMethod yX12_checked ∈ rl_G := mw_884
theorem sl_X12_checked : Cond.selects yX12_checked.cls yX12_checked yX12_checked ∈ lw_tbl := List.mem_append_left _ (by decide +kernel)
theorem mt_890 : (Cond.code ({ cls := "RecordLeavesModel", name := "about", desc := "(II)I" } : MethodName) prog_14_method_23_code (7 : Nat) (Option.some FieldType.int)) ∈ lw_tbl := List.mem_append_right _ (List.mem_append_right _ (List.mem_append_right _ (List.mem_append_right _ (List.mem_append_left _ (List.mem_of_getElem? (i := 170) (rfl))))))
theorem mw_890 : (Cond.code ({ cls := "RecordLeavesModel", name := "about", desc := "(II)I" } : MethodName) prog_14_method_23_code (7 : Nat) (Option.some FieldType.int)) ∈ rl_G := rl_inG mt_890 rfl
theorem co_X12_about : Cond.code yX12_about cX12_about 7 (some FieldType.int) ∈ rl_G := mw_890
theorem mt_888 : (Cond.instanceMethod ({ cls := "RecordLeavesModel", name := "about", desc := "(II)I" } : MethodName)) ∈ lw_tbl := List.mem_append_right _ (List.mem_append_right _ (List.mem_append_right _ (List.mem_append_right _ (List.mem_append_left _ (List.mem_of_getElem? (i := 168) (by decide +kernel))))))
theorem mw_888 : (Cond.instanceMethod ({ cls := "RecordLeavesModel", name := "about", desc := "(II)I" } : MethodName)) ∈ rl_G := rl_inG mt_888 rfl
theorem im_X12_about : Cond.instanceMethod yX12_about ∈ rl_G := mw_888
theorem mt_889 : (Cond.selects "RecordLeavesModel" ({ cls := "RecordLeavesModel", name := "about", desc := "(II)I" } : MethodName) ({ cls := "RecordLeavesModel", name := "about", desc := "(II)I" } : MethodName)) ∈ lw_tbl := List.mem_append_right _ (List.mem_append_right _ (List.mem_append_right _ (List.mem_append_right _ (List.mem_append_left _ (List.mem_of_getElem? (i := 169) (by decide +kernel))))))
theorem sl_X12_about : Cond.selects yX12_about.cls yX12_about yX12_about ∈ lw_tbl := mt_889
theorem mt_895 : (Cond.code ({ cls := "RecordLeavesModel", name := "number", desc := "(II)J" } : MethodName) prog_14_method_26_code (4 : Nat) (Option.some FieldType.long)) ∈ lw_tbl := List.mem_append_right _ (List.mem_append_right _ (List.mem_append_right _ (List.mem_append_right _ (List.mem_append_left _ (List.mem_of_getElem? (i := 175) (rfl))))))
theorem mw_895 : (Cond.code ({ cls := "RecordLeavesModel", name := "number", desc := "(II)J" } : MethodName) prog_14_method_26_code (4 : Nat) (Option.some FieldType.long)) ∈ rl_G := rl_inG mt_895 rfl
theorem co_X12_number : Cond.code yX12_number cX12_number 4 (some FieldType.long) ∈ rl_G := mw_895
theorem mt_893 : (Cond.instanceMethod ({ cls := "RecordLeavesModel", name := "number", desc := "(II)J" } : MethodName)) ∈ lw_tbl := List.mem_append_right _ (List.mem_append_right _ (List.mem_append_right _ (List.mem_append_right _ (List.mem_append_left _ (List.mem_of_getElem? (i := 173) (by decide +kernel))))))
theorem mw_893 : (Cond.instanceMethod ({ cls := "RecordLeavesModel", name := "number", desc := "(II)J" } : MethodName)) ∈ rl_G := rl_inG mt_893 rfl
theorem im_X12_number : Cond.instanceMethod yX12_number ∈ rl_G := mw_893
theorem mt_894 : (Cond.selects "RecordLeavesModel" ({ cls := "RecordLeavesModel", name := "number", desc := "(II)J" } : MethodName) ({ cls := "RecordLeavesModel", name := "number", desc := "(II)J" } : MethodName)) ∈ lw_tbl := List.mem_append_right _ (List.mem_append_right _ (List.mem_append_right _ (List.mem_append_right _ (List.mem_append_left _ (List.mem_of_getElem? (i := 174) (by decide +kernel))))))
theorem sl_X12_number : Cond.selects yX12_number.cls yX12_number yX12_number ∈ lw_tbl := mt_894
theorem mt_899 : (Cond.code ({ cls := "RecordLeavesModel", name := "partAt", desc := "(II)I" } : MethodName) prog_14_method_24_code (4 : Nat) (Option.some FieldType.int)) ∈ lw_tbl := List.mem_append_right _ (List.mem_append_right _ (List.mem_append_right _ (List.mem_append_right _ (List.mem_append_left _ (List.mem_of_getElem? (i := 179) (rfl))))))
theorem mw_899 : (Cond.code ({ cls := "RecordLeavesModel", name := "partAt", desc := "(II)I" } : MethodName) prog_14_method_24_code (4 : Nat) (Option.some FieldType.int)) ∈ rl_G := rl_inG mt_899 rfl
theorem co_X12_partAt : Cond.code yX12_partAt cX12_partAt 4 (some FieldType.int) ∈ rl_G := mw_899
theorem mt_898 : (Cond.instanceMethod ({ cls := "RecordLeavesModel", name := "partAt", desc := "(II)I" } : MethodName)) ∈ lw_tbl := List.mem_append_right _ (List.mem_append_right _ (List.mem_append_right _ (List.mem_append_right _ (List.mem_append_left _ (List.mem_of_getElem? (i := 178) (by decide +kernel))))))
theorem mw_898 : (Cond.instanceMethod ({ cls := "RecordLeavesModel", name := "partAt", desc := "(II)I" } : MethodName)) ∈ rl_G := rl_inG mt_898 rfl
theorem im_X12_partAt : Cond.instanceMethod yX12_partAt ∈ rl_G := mw_898
theorem sl_X12_partAt : Cond.selects yX12_partAt.cls yX12_partAt yX12_partAt ∈ lw_tbl := List.mem_append_left _ (by decide +kernel)
theorem mt_903 : (Cond.code ({ cls := "RecordLeavesModel", name := "isNumber", desc := "(I)Z" } : MethodName) prog_14_method_25_code (2 : Nat) (Option.some FieldType.boolean)) ∈ lw_tbl := List.mem_append_right _ (List.mem_append_right _ (List.mem_append_right _ (List.mem_append_right _ (List.mem_append_left _ (List.mem_of_getElem? (i := 183) (rfl))))))
theorem mw_903 : (Cond.code ({ cls := "RecordLeavesModel", name := "isNumber", desc := "(I)Z" } : MethodName) prog_14_method_25_code (2 : Nat) (Option.some FieldType.boolean)) ∈ rl_G := rl_inG mt_903 rfl
theorem co_X12_isNumber : Cond.code yX12_isNumber cX12_isNumber 2 (some FieldType.boolean) ∈ rl_G := mw_903
theorem mt_902 : (Cond.instanceMethod ({ cls := "RecordLeavesModel", name := "isNumber", desc := "(I)Z" } : MethodName)) ∈ lw_tbl := List.mem_append_right _ (List.mem_append_right _ (List.mem_append_right _ (List.mem_append_right _ (List.mem_append_left _ (List.mem_of_getElem? (i := 182) (by decide +kernel))))))
theorem mw_902 : (Cond.instanceMethod ({ cls := "RecordLeavesModel", name := "isNumber", desc := "(I)Z" } : MethodName)) ∈ rl_G := rl_inG mt_902 rfl
theorem im_X12_isNumber : Cond.instanceMethod yX12_isNumber ∈ rl_G := mw_902
theorem sl_X12_isNumber : Cond.selects yX12_isNumber.cls yX12_isNumber yX12_isNumber ∈ lw_tbl := List.mem_append_left _ (by decide +kernel)
theorem mt_908 : (Cond.code ({ cls := "RecordLeavesModel", name := "take", desc := "(III)I" } : MethodName) prog_14_method_27_code (5 : Nat) (Option.some FieldType.int)) ∈ lw_tbl := List.mem_append_right _ (List.mem_append_right _ (List.mem_append_right _ (List.mem_append_right _ (List.mem_append_left _ (List.mem_of_getElem? (i := 188) (rfl))))))
theorem mw_908 : (Cond.code ({ cls := "RecordLeavesModel", name := "take", desc := "(III)I" } : MethodName) prog_14_method_27_code (5 : Nat) (Option.some FieldType.int)) ∈ rl_G := rl_inG mt_908 rfl
theorem co_X12_take : Cond.code yX12_take cX12_take 5 (some FieldType.int) ∈ rl_G := mw_908
theorem mt_906 : (Cond.instanceMethod ({ cls := "RecordLeavesModel", name := "take", desc := "(III)I" } : MethodName)) ∈ lw_tbl := List.mem_append_right _ (List.mem_append_right _ (List.mem_append_right _ (List.mem_append_right _ (List.mem_append_left _ (List.mem_of_getElem? (i := 186) (by decide +kernel))))))
theorem mw_906 : (Cond.instanceMethod ({ cls := "RecordLeavesModel", name := "take", desc := "(III)I" } : MethodName)) ∈ rl_G := rl_inG mt_906 rfl
theorem im_X12_take : Cond.instanceMethod yX12_take ∈ rl_G := mw_906
theorem mt_907 : (Cond.selects "RecordLeavesModel" ({ cls := "RecordLeavesModel", name := "take", desc := "(III)I" } : MethodName) ({ cls := "RecordLeavesModel", name := "take", desc := "(III)I" } : MethodName)) ∈ lw_tbl := List.mem_append_right _ (List.mem_append_right _ (List.mem_append_right _ (List.mem_append_right _ (List.mem_append_left _ (List.mem_of_getElem? (i := 187) (by decide +kernel))))))
theorem sl_X12_take : Cond.selects yX12_take.cls yX12_take yX12_take ∈ lw_tbl := mt_907
theorem mt_912 : (Cond.code ({ cls := "RecordLeavesModel", name := "like", desc := "(II)I" } : MethodName) prog_14_method_31_code (7 : Nat) (Option.some FieldType.int)) ∈ lw_tbl := List.mem_append_right _ (List.mem_append_right _ (List.mem_append_right _ (List.mem_append_right _ (List.mem_append_left _ (List.mem_of_getElem? (i := 192) (rfl))))))
theorem mw_912 : (Cond.code ({ cls := "RecordLeavesModel", name := "like", desc := "(II)I" } : MethodName) prog_14_method_31_code (7 : Nat) (Option.some FieldType.int)) ∈ rl_G := rl_inG mt_912 rfl
theorem co_X12_like : Cond.code yX12_like cX12_like 7 (some FieldType.int) ∈ rl_G := mw_912
theorem mt_910 : (Cond.instanceMethod ({ cls := "RecordLeavesModel", name := "like", desc := "(II)I" } : MethodName)) ∈ lw_tbl := List.mem_append_right _ (List.mem_append_right _ (List.mem_append_right _ (List.mem_append_right _ (List.mem_append_left _ (List.mem_of_getElem? (i := 190) (by decide +kernel))))))
theorem mw_910 : (Cond.instanceMethod ({ cls := "RecordLeavesModel", name := "like", desc := "(II)I" } : MethodName)) ∈ rl_G := rl_inG mt_910 rfl
theorem im_X12_like : Cond.instanceMethod yX12_like ∈ rl_G := mw_910
theorem mt_911 : (Cond.selects "RecordLeavesModel" ({ cls := "RecordLeavesModel", name := "like", desc := "(II)I" } : MethodName) ({ cls := "RecordLeavesModel", name := "like", desc := "(II)I" } : MethodName)) ∈ lw_tbl := List.mem_append_right _ (List.mem_append_right _ (List.mem_append_right _ (List.mem_append_right _ (List.mem_append_left _ (List.mem_of_getElem? (i := 191) (by decide +kernel))))))
theorem sl_X12_like : Cond.selects yX12_like.cls yX12_like yX12_like ∈ lw_tbl := mt_911
theorem mt_916 : (Cond.code ({ cls := "RecordLeavesModel", name := "pair", desc := "(III)V" } : MethodName) prog_14_method_28_code (4 : Nat) (Option.none : Option FieldType)) ∈ lw_tbl := List.mem_append_right _ (List.mem_append_right _ (List.mem_append_right _ (List.mem_append_right _ (List.mem_append_left _ (List.mem_of_getElem? (i := 196) (rfl))))))
theorem mw_916 : (Cond.code ({ cls := "RecordLeavesModel", name := "pair", desc := "(III)V" } : MethodName) prog_14_method_28_code (4 : Nat) (Option.none : Option FieldType)) ∈ rl_G := rl_inG mt_916 rfl
theorem co_X12_pair : Cond.code yX12_pair cX12_pair 4 none ∈ rl_G := mw_916
theorem mt_915 : (Cond.instanceMethod ({ cls := "RecordLeavesModel", name := "pair", desc := "(III)V" } : MethodName)) ∈ lw_tbl := List.mem_append_right _ (List.mem_append_right _ (List.mem_append_right _ (List.mem_append_right _ (List.mem_append_left _ (List.mem_of_getElem? (i := 195) (by decide +kernel))))))
theorem mw_915 : (Cond.instanceMethod ({ cls := "RecordLeavesModel", name := "pair", desc := "(III)V" } : MethodName)) ∈ rl_G := rl_inG mt_915 rfl
theorem im_X12_pair : Cond.instanceMethod yX12_pair ∈ rl_G := mw_915
theorem sl_X12_pair : Cond.selects yX12_pair.cls yX12_pair yX12_pair ∈ lw_tbl := List.mem_append_left _ (by decide +kernel)
theorem mt_920 : (Cond.code ({ cls := "RecordLeavesModel", name := "rowsLike", desc := "(II)Z" } : MethodName) prog_14_method_29_code (5 : Nat) (Option.some FieldType.boolean)) ∈ lw_tbl := List.mem_append_right _ (List.mem_append_right _ (List.mem_append_right _ (List.mem_append_right _ (List.mem_append_left _ (List.mem_of_getElem? (i := 200) (rfl))))))
theorem mw_920 : (Cond.code ({ cls := "RecordLeavesModel", name := "rowsLike", desc := "(II)Z" } : MethodName) prog_14_method_29_code (5 : Nat) (Option.some FieldType.boolean)) ∈ rl_G := rl_inG mt_920 rfl
theorem co_X12_rowsLike : Cond.code yX12_rowsLike cX12_rowsLike 5 (some FieldType.boolean) ∈ rl_G := mw_920
theorem mt_919 : (Cond.instanceMethod ({ cls := "RecordLeavesModel", name := "rowsLike", desc := "(II)Z" } : MethodName)) ∈ lw_tbl := List.mem_append_right _ (List.mem_append_right _ (List.mem_append_right _ (List.mem_append_right _ (List.mem_append_left _ (List.mem_of_getElem? (i := 199) (by decide +kernel))))))
theorem mw_919 : (Cond.instanceMethod ({ cls := "RecordLeavesModel", name := "rowsLike", desc := "(II)Z" } : MethodName)) ∈ rl_G := rl_inG mt_919 rfl
theorem im_X12_rowsLike : Cond.instanceMethod yX12_rowsLike ∈ rl_G := mw_919
theorem sl_X12_rowsLike : Cond.selects yX12_rowsLike.cls yX12_rowsLike yX12_rowsLike ∈ lw_tbl := List.mem_append_left _ (by decide +kernel)
theorem mt_924 : (Cond.code ({ cls := "RecordLeavesModel", name := "opens", desc := "(III)Z" } : MethodName) prog_14_method_30_code (6 : Nat) (Option.some FieldType.boolean)) ∈ lw_tbl := List.mem_append_right _ (List.mem_append_right _ (List.mem_append_right _ (List.mem_append_right _ (List.mem_append_left _ (List.mem_of_getElem? (i := 204) (rfl))))))
theorem mw_924 : (Cond.code ({ cls := "RecordLeavesModel", name := "opens", desc := "(III)Z" } : MethodName) prog_14_method_30_code (6 : Nat) (Option.some FieldType.boolean)) ∈ rl_G := rl_inG mt_924 rfl
theorem co_X12_opens : Cond.code yX12_opens cX12_opens 6 (some FieldType.boolean) ∈ rl_G := mw_924
theorem mt_923 : (Cond.instanceMethod ({ cls := "RecordLeavesModel", name := "opens", desc := "(III)Z" } : MethodName)) ∈ lw_tbl := List.mem_append_right _ (List.mem_append_right _ (List.mem_append_right _ (List.mem_append_right _ (List.mem_append_left _ (List.mem_of_getElem? (i := 203) (by decide +kernel))))))
theorem mw_923 : (Cond.instanceMethod ({ cls := "RecordLeavesModel", name := "opens", desc := "(III)Z" } : MethodName)) ∈ rl_G := rl_inG mt_923 rfl
theorem im_X12_opens : Cond.instanceMethod yX12_opens ∈ rl_G := mw_923
theorem sl_X12_opens : Cond.selects yX12_opens.cls yX12_opens yX12_opens ∈ lw_tbl := List.mem_append_left _ (by decide +kernel)
theorem mt_928 : (Cond.code ({ cls := "RecordLeavesModel", name := "write", desc := "(I)I" } : MethodName) prog_14_method_35_code (4 : Nat) (Option.some FieldType.int)) ∈ lw_tbl := List.mem_append_right _ (List.mem_append_right _ (List.mem_append_right _ (List.mem_append_right _ (List.mem_append_left _ (List.mem_of_getElem? (i := 208) (rfl))))))
theorem mw_928 : (Cond.code ({ cls := "RecordLeavesModel", name := "write", desc := "(I)I" } : MethodName) prog_14_method_35_code (4 : Nat) (Option.some FieldType.int)) ∈ rl_G := rl_inG mt_928 rfl
theorem co_X12_write : Cond.code yX12_write cX12_write 4 (some FieldType.int) ∈ rl_G := mw_928
theorem mt_926 : (Cond.instanceMethod ({ cls := "RecordLeavesModel", name := "write", desc := "(I)I" } : MethodName)) ∈ lw_tbl := List.mem_append_right _ (List.mem_append_right _ (List.mem_append_right _ (List.mem_append_right _ (List.mem_append_left _ (List.mem_of_getElem? (i := 206) (by decide +kernel))))))
theorem mw_926 : (Cond.instanceMethod ({ cls := "RecordLeavesModel", name := "write", desc := "(I)I" } : MethodName)) ∈ rl_G := rl_inG mt_926 rfl
theorem im_X12_write : Cond.instanceMethod yX12_write ∈ rl_G := mw_926
theorem mt_927 : (Cond.selects "RecordLeavesModel" ({ cls := "RecordLeavesModel", name := "write", desc := "(I)I" } : MethodName) ({ cls := "RecordLeavesModel", name := "write", desc := "(I)I" } : MethodName)) ∈ lw_tbl := List.mem_append_right _ (List.mem_append_right _ (List.mem_append_right _ (List.mem_append_right _ (List.mem_append_left _ (List.mem_of_getElem? (i := 207) (by decide +kernel))))))
theorem sl_X12_write : Cond.selects yX12_write.cls yX12_write yX12_write ∈ lw_tbl := mt_927
theorem mt_932 : (Cond.code ({ cls := "RecordLeavesModel", name := "begins", desc := "(II)I" } : MethodName) prog_14_method_33_code (3 : Nat) (Option.some FieldType.int)) ∈ lw_tbl := List.mem_append_right _ (List.mem_append_right _ (List.mem_append_right _ (List.mem_append_right _ (List.mem_append_left _ (List.mem_of_getElem? (i := 212) (rfl))))))
theorem mw_932 : (Cond.code ({ cls := "RecordLeavesModel", name := "begins", desc := "(II)I" } : MethodName) prog_14_method_33_code (3 : Nat) (Option.some FieldType.int)) ∈ rl_G := rl_inG mt_932 rfl
theorem co_X12_begins : Cond.code yX12_begins cX12_begins 3 (some FieldType.int) ∈ rl_G := mw_932
theorem mt_931 : (Cond.instanceMethod ({ cls := "RecordLeavesModel", name := "begins", desc := "(II)I" } : MethodName)) ∈ lw_tbl := List.mem_append_right _ (List.mem_append_right _ (List.mem_append_right _ (List.mem_append_right _ (List.mem_append_left _ (List.mem_of_getElem? (i := 211) (by decide +kernel))))))
theorem mw_931 : (Cond.instanceMethod ({ cls := "RecordLeavesModel", name := "begins", desc := "(II)I" } : MethodName)) ∈ rl_G := rl_inG mt_931 rfl
theorem im_X12_begins : Cond.instanceMethod yX12_begins ∈ rl_G := mw_931
theorem sl_X12_begins : Cond.selects yX12_begins.cls yX12_begins yX12_begins ∈ lw_tbl := List.mem_append_left _ (by decide +kernel)
theorem mt_936 : (Cond.code ({ cls := "RecordLeavesModel", name := "put", desc := "(J)V" } : MethodName) prog_14_method_32_code (3 : Nat) (Option.none : Option FieldType)) ∈ lw_tbl := List.mem_append_right _ (List.mem_append_right _ (List.mem_append_right _ (List.mem_append_right _ (List.mem_append_left _ (List.mem_of_getElem? (i := 216) (rfl))))))
theorem mw_936 : (Cond.code ({ cls := "RecordLeavesModel", name := "put", desc := "(J)V" } : MethodName) prog_14_method_32_code (3 : Nat) (Option.none : Option FieldType)) ∈ rl_G := rl_inG mt_936 rfl
theorem co_X12_put : Cond.code yX12_put cX12_put 3 none ∈ rl_G := mw_936
theorem mt_935 : (Cond.instanceMethod ({ cls := "RecordLeavesModel", name := "put", desc := "(J)V" } : MethodName)) ∈ lw_tbl := List.mem_append_right _ (List.mem_append_right _ (List.mem_append_right _ (List.mem_append_right _ (List.mem_append_left _ (List.mem_of_getElem? (i := 215) (by decide +kernel))))))
theorem mw_935 : (Cond.instanceMethod ({ cls := "RecordLeavesModel", name := "put", desc := "(J)V" } : MethodName)) ∈ rl_G := rl_inG mt_935 rfl
theorem im_X12_put : Cond.instanceMethod yX12_put ∈ rl_G := mw_935
theorem sl_X12_put : Cond.selects yX12_put.cls yX12_put yX12_put ∈ lw_tbl := List.mem_append_left _ (by decide +kernel)
theorem mt_940 : (Cond.code ({ cls := "RecordLeavesModel", name := "writePart", desc := "(I)I" } : MethodName) prog_14_method_34_code (7 : Nat) (Option.some FieldType.int)) ∈ lw_tbl := List.mem_append_right _ (List.mem_append_right _ (List.mem_append_right _ (List.mem_append_right _ (List.mem_append_left _ (List.mem_of_getElem? (i := 220) (rfl))))))
theorem mw_940 : (Cond.code ({ cls := "RecordLeavesModel", name := "writePart", desc := "(I)I" } : MethodName) prog_14_method_34_code (7 : Nat) (Option.some FieldType.int)) ∈ rl_G := rl_inG mt_940 rfl
theorem co_X12_writePart : Cond.code yX12_writePart cX12_writePart 7 (some FieldType.int) ∈ rl_G := mw_940
theorem mt_939 : (Cond.instanceMethod ({ cls := "RecordLeavesModel", name := "writePart", desc := "(I)I" } : MethodName)) ∈ lw_tbl := List.mem_append_right _ (List.mem_append_right _ (List.mem_append_right _ (List.mem_append_right _ (List.mem_append_left _ (List.mem_of_getElem? (i := 219) (by decide +kernel))))))
theorem mw_939 : (Cond.instanceMethod ({ cls := "RecordLeavesModel", name := "writePart", desc := "(I)I" } : MethodName)) ∈ rl_G := rl_inG mt_939 rfl
theorem im_X12_writePart : Cond.instanceMethod yX12_writePart ∈ rl_G := mw_939
theorem sl_X12_writePart : Cond.selects yX12_writePart.cls yX12_writePart yX12_writePart ∈ lw_tbl := List.mem_append_left _ (by decide +kernel)
theorem mt_945 : (Cond.code ({ cls := "RecordLeavesModel", name := "leaf", desc := "(I)J" } : MethodName) prog_14_method_36_code (3 : Nat) (Option.some FieldType.long)) ∈ lw_tbl := List.mem_append_right _ (List.mem_append_right _ (List.mem_append_right _ (List.mem_append_right _ (List.mem_append_left _ (List.mem_of_getElem? (i := 225) (rfl))))))
theorem mw_945 : (Cond.code ({ cls := "RecordLeavesModel", name := "leaf", desc := "(I)J" } : MethodName) prog_14_method_36_code (3 : Nat) (Option.some FieldType.long)) ∈ rl_G := rl_inG mt_945 rfl
theorem co_X12_leaf : Cond.code yX12_leaf cX12_leaf 3 (some FieldType.long) ∈ rl_G := mw_945
theorem mt_943 : (Cond.instanceMethod ({ cls := "RecordLeavesModel", name := "leaf", desc := "(I)J" } : MethodName)) ∈ lw_tbl := List.mem_append_right _ (List.mem_append_right _ (List.mem_append_right _ (List.mem_append_right _ (List.mem_append_left _ (List.mem_of_getElem? (i := 223) (by decide +kernel))))))
theorem mw_943 : (Cond.instanceMethod ({ cls := "RecordLeavesModel", name := "leaf", desc := "(I)J" } : MethodName)) ∈ rl_G := rl_inG mt_943 rfl
theorem im_X12_leaf : Cond.instanceMethod yX12_leaf ∈ rl_G := mw_943
theorem mt_944 : (Cond.selects "RecordLeavesModel" ({ cls := "RecordLeavesModel", name := "leaf", desc := "(I)J" } : MethodName) ({ cls := "RecordLeavesModel", name := "leaf", desc := "(I)J" } : MethodName)) ∈ lw_tbl := List.mem_append_right _ (List.mem_append_right _ (List.mem_append_right _ (List.mem_append_right _ (List.mem_append_left _ (List.mem_of_getElem? (i := 224) (by decide +kernel))))))
theorem sl_X12_leaf : Cond.selects yX12_leaf.cls yX12_leaf yX12_leaf ∈ lw_tbl := mt_944
theorem mt_949 : (Cond.code ({ cls := "RecordLeavesModel", name := "set", desc := "(IJ)I" } : MethodName) prog_14_method_37_code (4 : Nat) (Option.some FieldType.int)) ∈ lw_tbl := List.mem_append_right _ (List.mem_append_right _ (List.mem_append_right _ (List.mem_append_right _ (List.mem_append_left _ (List.mem_of_getElem? (i := 229) (rfl))))))
theorem mw_949 : (Cond.code ({ cls := "RecordLeavesModel", name := "set", desc := "(IJ)I" } : MethodName) prog_14_method_37_code (4 : Nat) (Option.some FieldType.int)) ∈ rl_G := rl_inG mt_949 rfl
theorem co_X12_set : Cond.code yX12_set cX12_set 4 (some FieldType.int) ∈ rl_G := mw_949
theorem mt_947 : (Cond.instanceMethod ({ cls := "RecordLeavesModel", name := "set", desc := "(IJ)I" } : MethodName)) ∈ lw_tbl := List.mem_append_right _ (List.mem_append_right _ (List.mem_append_right _ (List.mem_append_right _ (List.mem_append_left _ (List.mem_of_getElem? (i := 227) (by decide +kernel))))))
theorem mw_947 : (Cond.instanceMethod ({ cls := "RecordLeavesModel", name := "set", desc := "(IJ)I" } : MethodName)) ∈ rl_G := rl_inG mt_947 rfl
theorem im_X12_set : Cond.instanceMethod yX12_set ∈ rl_G := mw_947
theorem mt_948 : (Cond.selects "RecordLeavesModel" ({ cls := "RecordLeavesModel", name := "set", desc := "(IJ)I" } : MethodName) ({ cls := "RecordLeavesModel", name := "set", desc := "(IJ)I" } : MethodName)) ∈ lw_tbl := List.mem_append_right _ (List.mem_append_right _ (List.mem_append_right _ (List.mem_append_right _ (List.mem_append_left _ (List.mem_of_getElem? (i := 228) (by decide +kernel))))))
theorem sl_X12_set : Cond.selects yX12_set.cls yX12_set yX12_set ∈ lw_tbl := mt_948
theorem mt_953 : (Cond.code ({ cls := "RecordLeavesModel", name := "cut", desc := "(I)I" } : MethodName) prog_14_method_38_code (3 : Nat) (Option.some FieldType.int)) ∈ lw_tbl := List.mem_append_right _ (List.mem_append_right _ (List.mem_append_right _ (List.mem_append_right _ (List.mem_append_left _ (List.mem_of_getElem? (i := 233) (rfl))))))
theorem mw_953 : (Cond.code ({ cls := "RecordLeavesModel", name := "cut", desc := "(I)I" } : MethodName) prog_14_method_38_code (3 : Nat) (Option.some FieldType.int)) ∈ rl_G := rl_inG mt_953 rfl
theorem co_X12_cut : Cond.code yX12_cut cX12_cut 3 (some FieldType.int) ∈ rl_G := mw_953
theorem mt_951 : (Cond.instanceMethod ({ cls := "RecordLeavesModel", name := "cut", desc := "(I)I" } : MethodName)) ∈ lw_tbl := List.mem_append_right _ (List.mem_append_right _ (List.mem_append_right _ (List.mem_append_right _ (List.mem_append_left _ (List.mem_of_getElem? (i := 231) (by decide +kernel))))))
theorem mw_951 : (Cond.instanceMethod ({ cls := "RecordLeavesModel", name := "cut", desc := "(I)I" } : MethodName)) ∈ rl_G := rl_inG mt_951 rfl
theorem im_X12_cut : Cond.instanceMethod yX12_cut ∈ rl_G := mw_951
theorem mt_952 : (Cond.selects "RecordLeavesModel" ({ cls := "RecordLeavesModel", name := "cut", desc := "(I)I" } : MethodName) ({ cls := "RecordLeavesModel", name := "cut", desc := "(I)I" } : MethodName)) ∈ lw_tbl := List.mem_append_right _ (List.mem_append_right _ (List.mem_append_right _ (List.mem_append_right _ (List.mem_append_left _ (List.mem_of_getElem? (i := 232) (by decide +kernel))))))
theorem sl_X12_cut : Cond.selects yX12_cut.cls yX12_cut yX12_cut ∈ lw_tbl := mt_952
theorem mt_957 : (Cond.code ({ cls := "RecordLeavesModel", name := "read", desc := "(II)I" } : MethodName) prog_14_method_45_code (6 : Nat) (Option.some FieldType.int)) ∈ lw_tbl := List.mem_append_right _ (List.mem_append_right _ (List.mem_append_right _ (List.mem_append_right _ (List.mem_append_left _ (List.mem_of_getElem? (i := 237) (rfl))))))
theorem mw_957 : (Cond.code ({ cls := "RecordLeavesModel", name := "read", desc := "(II)I" } : MethodName) prog_14_method_45_code (6 : Nat) (Option.some FieldType.int)) ∈ rl_G := rl_inG mt_957 rfl
theorem co_X12_read : Cond.code yX12_read cX12_read 6 (some FieldType.int) ∈ rl_G := mw_957
theorem mt_955 : (Cond.instanceMethod ({ cls := "RecordLeavesModel", name := "read", desc := "(II)I" } : MethodName)) ∈ lw_tbl := List.mem_append_right _ (List.mem_append_right _ (List.mem_append_right _ (List.mem_append_right _ (List.mem_append_left _ (List.mem_of_getElem? (i := 235) (by decide +kernel))))))
theorem mw_955 : (Cond.instanceMethod ({ cls := "RecordLeavesModel", name := "read", desc := "(II)I" } : MethodName)) ∈ rl_G := rl_inG mt_955 rfl
theorem im_X12_read : Cond.instanceMethod yX12_read ∈ rl_G := mw_955
theorem mt_956 : (Cond.selects "RecordLeavesModel" ({ cls := "RecordLeavesModel", name := "read", desc := "(II)I" } : MethodName) ({ cls := "RecordLeavesModel", name := "read", desc := "(II)I" } : MethodName)) ∈ lw_tbl := List.mem_append_right _ (List.mem_append_right _ (List.mem_append_right _ (List.mem_append_right _ (List.mem_append_left _ (List.mem_of_getElem? (i := 236) (by decide +kernel))))))
theorem sl_X12_read : Cond.selects yX12_read.cls yX12_read yX12_read ∈ lw_tbl := mt_956
theorem mt_961 : (Cond.code ({ cls := "RecordLeavesModel", name := "beginRecord", desc := "(Z)V" } : MethodName) prog_14_method_41_code (7 : Nat) (Option.none : Option FieldType)) ∈ lw_tbl := List.mem_append_right _ (List.mem_append_right _ (List.mem_append_right _ (List.mem_append_right _ (List.mem_append_right _ (List.mem_of_getElem? (i := 1) (rfl))))))
theorem mw_961 : (Cond.code ({ cls := "RecordLeavesModel", name := "beginRecord", desc := "(Z)V" } : MethodName) prog_14_method_41_code (7 : Nat) (Option.none : Option FieldType)) ∈ rl_G := rl_inG mt_961 rfl
theorem co_X12_beginRecord : Cond.code yX12_beginRecord cX12_beginRecord 7 none ∈ rl_G := mw_961
theorem mt_960 : (Cond.instanceMethod ({ cls := "RecordLeavesModel", name := "beginRecord", desc := "(Z)V" } : MethodName)) ∈ lw_tbl := List.mem_append_right _ (List.mem_append_right _ (List.mem_append_right _ (List.mem_append_right _ (List.mem_append_right _ (List.mem_of_getElem? (i := 0) (by decide +kernel))))))
theorem mw_960 : (Cond.instanceMethod ({ cls := "RecordLeavesModel", name := "beginRecord", desc := "(Z)V" } : MethodName)) ∈ rl_G := rl_inG mt_960 rfl
theorem im_X12_beginRecord : Cond.instanceMethod yX12_beginRecord ∈ rl_G := mw_960
theorem sl_X12_beginRecord : Cond.selects yX12_beginRecord.cls yX12_beginRecord yX12_beginRecord ∈ lw_tbl := List.mem_append_left _ (by decide +kernel)
theorem mt_965 : (Cond.code ({ cls := "RecordLeavesModel", name := "fails", desc := "(I)V" } : MethodName) prog_14_method_39_code (2 : Nat) (Option.none : Option FieldType)) ∈ lw_tbl := List.mem_append_right _ (List.mem_append_right _ (List.mem_append_right _ (List.mem_append_right _ (List.mem_append_right _ (List.mem_of_getElem? (i := 5) (rfl))))))
theorem mw_965 : (Cond.code ({ cls := "RecordLeavesModel", name := "fails", desc := "(I)V" } : MethodName) prog_14_method_39_code (2 : Nat) (Option.none : Option FieldType)) ∈ rl_G := rl_inG mt_965 rfl
theorem co_X12_fails : Cond.code yX12_fails cX12_fails 2 none ∈ rl_G := mw_965
theorem mt_964 : (Cond.instanceMethod ({ cls := "RecordLeavesModel", name := "fails", desc := "(I)V" } : MethodName)) ∈ lw_tbl := List.mem_append_right _ (List.mem_append_right _ (List.mem_append_right _ (List.mem_append_right _ (List.mem_append_right _ (List.mem_of_getElem? (i := 4) (by decide +kernel))))))
theorem mw_964 : (Cond.instanceMethod ({ cls := "RecordLeavesModel", name := "fails", desc := "(I)V" } : MethodName)) ∈ rl_G := rl_inG mt_964 rfl
theorem im_X12_fails : Cond.instanceMethod yX12_fails ∈ rl_G := mw_964
theorem sl_X12_fails : Cond.selects yX12_fails.cls yX12_fails yX12_fails ∈ lw_tbl := List.mem_append_left _ (by decide +kernel)
theorem mt_969 : (Cond.code ({ cls := "RecordLeavesModel", name := "want", desc := "()J" } : MethodName) prog_14_method_40_code (1 : Nat) (Option.some FieldType.long)) ∈ lw_tbl := List.mem_append_right _ (List.mem_append_right _ (List.mem_append_right _ (List.mem_append_right _ (List.mem_append_right _ (List.mem_of_getElem? (i := 9) (rfl))))))
theorem mw_969 : (Cond.code ({ cls := "RecordLeavesModel", name := "want", desc := "()J" } : MethodName) prog_14_method_40_code (1 : Nat) (Option.some FieldType.long)) ∈ rl_G := rl_inG mt_969 rfl
theorem co_X12_want : Cond.code yX12_want cX12_want 1 (some FieldType.long) ∈ rl_G := mw_969
theorem mt_968 : (Cond.instanceMethod ({ cls := "RecordLeavesModel", name := "want", desc := "()J" } : MethodName)) ∈ lw_tbl := List.mem_append_right _ (List.mem_append_right _ (List.mem_append_right _ (List.mem_append_right _ (List.mem_append_right _ (List.mem_of_getElem? (i := 8) (by decide +kernel))))))
theorem mw_968 : (Cond.instanceMethod ({ cls := "RecordLeavesModel", name := "want", desc := "()J" } : MethodName)) ∈ rl_G := rl_inG mt_968 rfl
theorem im_X12_want : Cond.instanceMethod yX12_want ∈ rl_G := mw_968
theorem sl_X12_want : Cond.selects yX12_want.cls yX12_want yX12_want ∈ lw_tbl := List.mem_append_left _ (by decide +kernel)
theorem mt_973 : (Cond.code ({ cls := "RecordLeavesModel", name := "readPart", desc := "()V" } : MethodName) prog_14_method_43_code (12 : Nat) (Option.none : Option FieldType)) ∈ lw_tbl := List.mem_append_right _ (List.mem_append_right _ (List.mem_append_right _ (List.mem_append_right _ (List.mem_append_right _ (List.mem_of_getElem? (i := 13) (rfl))))))
theorem mw_973 : (Cond.code ({ cls := "RecordLeavesModel", name := "readPart", desc := "()V" } : MethodName) prog_14_method_43_code (12 : Nat) (Option.none : Option FieldType)) ∈ rl_G := rl_inG mt_973 rfl
theorem co_X12_readPart : Cond.code yX12_readPart cX12_readPart 12 none ∈ rl_G := mw_973
theorem mt_972 : (Cond.instanceMethod ({ cls := "RecordLeavesModel", name := "readPart", desc := "()V" } : MethodName)) ∈ lw_tbl := List.mem_append_right _ (List.mem_append_right _ (List.mem_append_right _ (List.mem_append_right _ (List.mem_append_right _ (List.mem_of_getElem? (i := 12) (by decide +kernel))))))
theorem mw_972 : (Cond.instanceMethod ({ cls := "RecordLeavesModel", name := "readPart", desc := "()V" } : MethodName)) ∈ rl_G := rl_inG mt_972 rfl
theorem im_X12_readPart : Cond.instanceMethod yX12_readPart ∈ rl_G := mw_972
theorem sl_X12_readPart : Cond.selects yX12_readPart.cls yX12_readPart yX12_readPart ∈ lw_tbl := List.mem_append_left _ (by decide +kernel)
theorem mt_977 : (Cond.code ({ cls := "RecordLeavesModel", name := "readRow", desc := "(Z)I" } : MethodName) prog_14_method_42_code (7 : Nat) (Option.some FieldType.int)) ∈ lw_tbl := List.mem_append_right _ (List.mem_append_right _ (List.mem_append_right _ (List.mem_append_right _ (List.mem_append_right _ (List.mem_of_getElem? (i := 17) (rfl))))))
theorem mw_977 : (Cond.code ({ cls := "RecordLeavesModel", name := "readRow", desc := "(Z)I" } : MethodName) prog_14_method_42_code (7 : Nat) (Option.some FieldType.int)) ∈ rl_G := rl_inG mt_977 rfl
theorem co_X12_readRow : Cond.code yX12_readRow cX12_readRow 7 (some FieldType.int) ∈ rl_G := mw_977
theorem mt_976 : (Cond.instanceMethod ({ cls := "RecordLeavesModel", name := "readRow", desc := "(Z)I" } : MethodName)) ∈ lw_tbl := List.mem_append_right _ (List.mem_append_right _ (List.mem_append_right _ (List.mem_append_right _ (List.mem_append_right _ (List.mem_of_getElem? (i := 16) (by decide +kernel))))))
theorem mw_976 : (Cond.instanceMethod ({ cls := "RecordLeavesModel", name := "readRow", desc := "(Z)I" } : MethodName)) ∈ rl_G := rl_inG mt_976 rfl
theorem im_X12_readRow : Cond.instanceMethod yX12_readRow ∈ rl_G := mw_976
theorem sl_X12_readRow : Cond.selects yX12_readRow.cls yX12_readRow yX12_readRow ∈ lw_tbl := List.mem_append_left _ (by decide +kernel)
theorem mt_981 : (Cond.code ({ cls := "RecordLeavesModel", name := "endRecord", desc := "()I" } : MethodName) prog_14_method_44_code (2 : Nat) (Option.some FieldType.int)) ∈ lw_tbl := List.mem_append_right _ (List.mem_append_right _ (List.mem_append_right _ (List.mem_append_right _ (List.mem_append_right _ (List.mem_of_getElem? (i := 21) (rfl))))))
theorem mw_981 : (Cond.code ({ cls := "RecordLeavesModel", name := "endRecord", desc := "()I" } : MethodName) prog_14_method_44_code (2 : Nat) (Option.some FieldType.int)) ∈ rl_G := rl_inG mt_981 rfl
theorem co_X12_endRecord : Cond.code yX12_endRecord cX12_endRecord 2 (some FieldType.int) ∈ rl_G := mw_981
theorem mt_980 : (Cond.instanceMethod ({ cls := "RecordLeavesModel", name := "endRecord", desc := "()I" } : MethodName)) ∈ lw_tbl := List.mem_append_right _ (List.mem_append_right _ (List.mem_append_right _ (List.mem_append_right _ (List.mem_append_right _ (List.mem_of_getElem? (i := 20) (by decide +kernel))))))
theorem mw_980 : (Cond.instanceMethod ({ cls := "RecordLeavesModel", name := "endRecord", desc := "()I" } : MethodName)) ∈ rl_G := rl_inG mt_980 rfl
theorem im_X12_endRecord : Cond.instanceMethod yX12_endRecord ∈ rl_G := mw_980
theorem sl_X12_endRecord : Cond.selects yX12_endRecord.cls yX12_endRecord yX12_endRecord ∈ lw_tbl := List.mem_append_left _ (by decide +kernel)
theorem mt_985 : (Cond.code ({ cls := "RecordLeavesModel", name := "cause", desc := "(I)I" } : MethodName) prog_14_method_46_code (2 : Nat) (Option.some FieldType.int)) ∈ lw_tbl := List.mem_append_right _ (List.mem_append_right _ (List.mem_append_right _ (List.mem_append_right _ (List.mem_append_right _ (List.mem_of_getElem? (i := 25) (rfl))))))
theorem mw_985 : (Cond.code ({ cls := "RecordLeavesModel", name := "cause", desc := "(I)I" } : MethodName) prog_14_method_46_code (2 : Nat) (Option.some FieldType.int)) ∈ rl_G := rl_inG mt_985 rfl
theorem co_X12_cause : Cond.code yX12_cause cX12_cause 2 (some FieldType.int) ∈ rl_G := mw_985
theorem mt_983 : (Cond.instanceMethod ({ cls := "RecordLeavesModel", name := "cause", desc := "(I)I" } : MethodName)) ∈ lw_tbl := List.mem_append_right _ (List.mem_append_right _ (List.mem_append_right _ (List.mem_append_right _ (List.mem_append_right _ (List.mem_of_getElem? (i := 23) (by decide +kernel))))))
theorem mw_983 : (Cond.instanceMethod ({ cls := "RecordLeavesModel", name := "cause", desc := "(I)I" } : MethodName)) ∈ rl_G := rl_inG mt_983 rfl
theorem im_X12_cause : Cond.instanceMethod yX12_cause ∈ rl_G := mw_983
theorem mt_984 : (Cond.selects "RecordLeavesModel" ({ cls := "RecordLeavesModel", name := "cause", desc := "(I)I" } : MethodName) ({ cls := "RecordLeavesModel", name := "cause", desc := "(I)I" } : MethodName)) ∈ lw_tbl := List.mem_append_right _ (List.mem_append_right _ (List.mem_append_right _ (List.mem_append_right _ (List.mem_append_right _ (List.mem_of_getElem? (i := 24) (by decide +kernel))))))
theorem sl_X12_cause : Cond.selects yX12_cause.cls yX12_cause yX12_cause ∈ lw_tbl := mt_984
theorem mt_989 : (Cond.code ({ cls := "RecordLeavesModel", name := "status", desc := "()I" } : MethodName) prog_14_method_47_code (1 : Nat) (Option.some FieldType.int)) ∈ lw_tbl := List.mem_append_right _ (List.mem_append_right _ (List.mem_append_right _ (List.mem_append_right _ (List.mem_append_right _ (List.mem_of_getElem? (i := 29) (rfl))))))
theorem mw_989 : (Cond.code ({ cls := "RecordLeavesModel", name := "status", desc := "()I" } : MethodName) prog_14_method_47_code (1 : Nat) (Option.some FieldType.int)) ∈ rl_G := rl_inG mt_989 rfl
theorem co_X12_status : Cond.code yX12_status cX12_status 1 (some FieldType.int) ∈ rl_G := mw_989
theorem mt_987 : (Cond.instanceMethod ({ cls := "RecordLeavesModel", name := "status", desc := "()I" } : MethodName)) ∈ lw_tbl := List.mem_append_right _ (List.mem_append_right _ (List.mem_append_right _ (List.mem_append_right _ (List.mem_append_right _ (List.mem_of_getElem? (i := 27) (by decide +kernel))))))
theorem mw_987 : (Cond.instanceMethod ({ cls := "RecordLeavesModel", name := "status", desc := "()I" } : MethodName)) ∈ rl_G := rl_inG mt_987 rfl
theorem im_X12_status : Cond.instanceMethod yX12_status ∈ rl_G := mw_987
theorem mt_988 : (Cond.selects "RecordLeavesModel" ({ cls := "RecordLeavesModel", name := "status", desc := "()I" } : MethodName) ({ cls := "RecordLeavesModel", name := "status", desc := "()I" } : MethodName)) ∈ lw_tbl := List.mem_append_right _ (List.mem_append_right _ (List.mem_append_right _ (List.mem_append_right _ (List.mem_append_right _ (List.mem_of_getElem? (i := 28) (by decide +kernel))))))
theorem sl_X12_status : Cond.selects yX12_status.cls yX12_status yX12_status ∈ lw_tbl := mt_988
theorem mt_993 : (Cond.code ({ cls := "RecordLeavesModel", name := "count", desc := "(I)I" } : MethodName) prog_14_method_48_code (4 : Nat) (Option.some FieldType.int)) ∈ lw_tbl := List.mem_append_right _ (List.mem_append_right _ (List.mem_append_right _ (List.mem_append_right _ (List.mem_append_right _ (List.mem_of_getElem? (i := 33) (rfl))))))
theorem mw_993 : (Cond.code ({ cls := "RecordLeavesModel", name := "count", desc := "(I)I" } : MethodName) prog_14_method_48_code (4 : Nat) (Option.some FieldType.int)) ∈ rl_G := rl_inG mt_993 rfl
theorem co_X12_count : Cond.code yX12_count cX12_count 4 (some FieldType.int) ∈ rl_G := mw_993
theorem mt_991 : (Cond.instanceMethod ({ cls := "RecordLeavesModel", name := "count", desc := "(I)I" } : MethodName)) ∈ lw_tbl := List.mem_append_right _ (List.mem_append_right _ (List.mem_append_right _ (List.mem_append_right _ (List.mem_append_right _ (List.mem_of_getElem? (i := 31) (by decide +kernel))))))
theorem mw_991 : (Cond.instanceMethod ({ cls := "RecordLeavesModel", name := "count", desc := "(I)I" } : MethodName)) ∈ rl_G := rl_inG mt_991 rfl
theorem im_X12_count : Cond.instanceMethod yX12_count ∈ rl_G := mw_991
theorem mt_992 : (Cond.selects "RecordLeavesModel" ({ cls := "RecordLeavesModel", name := "count", desc := "(I)I" } : MethodName) ({ cls := "RecordLeavesModel", name := "count", desc := "(I)I" } : MethodName)) ∈ lw_tbl := List.mem_append_right _ (List.mem_append_right _ (List.mem_append_right _ (List.mem_append_right _ (List.mem_append_right _ (List.mem_of_getElem? (i := 32) (by decide +kernel))))))
theorem sl_X12_count : Cond.selects yX12_count.cls yX12_count yX12_count ∈ lw_tbl := mt_992
theorem mt_21 : (Cond.methodLink "RecordLeaves" (1 : Nat) ({ cls := "java/lang/Object", name := "<init>", desc := "()V" } : MethodName)) ∈ lw_tbl := List.mem_append_right _ (List.mem_append_left _ (List.mem_of_getElem? (i := 21) (by decide +kernel)))
theorem mw_21 : (Cond.methodLink "RecordLeaves" (1 : Nat) ({ cls := "java/lang/Object", name := "<init>", desc := "()V" } : MethodName)) ∈ rl_G := rl_inG mt_21 rfl
theorem mt_26 : (Cond.methodLink "RecordLeaves" (9 : Nat) ({ cls := "RecordLeaves$Kinds", name := "<init>", desc := "()V" } : MethodName)) ∈ lw_tbl := List.mem_append_right _ (List.mem_append_left _ (List.mem_of_getElem? (i := 26) (by decide +kernel)))
theorem mw_26 : (Cond.methodLink "RecordLeaves" (9 : Nat) ({ cls := "RecordLeaves$Kinds", name := "<init>", desc := "()V" } : MethodName)) ∈ rl_G := rl_inG mt_26 rfl
theorem cs_X11_9 : rl_cs RX11 9 yX3_init cX3_init 2 none 0 := ⟨Or.inl mw_26, co_X3_init, mw_2, by decide +kernel⟩
theorem mt_101 : (Cond.methodLink "RecordLeaves" (32 : Nat) ({ cls := "RecordLeaves$Tape", name := "<init>", desc := "()V" } : MethodName)) ∈ lw_tbl := List.mem_append_right _ (List.mem_append_left _ (List.mem_of_getElem? (i := 101) (by decide +kernel)))
theorem mw_101 : (Cond.methodLink "RecordLeaves" (32 : Nat) ({ cls := "RecordLeaves$Tape", name := "<init>", desc := "()V" } : MethodName)) ∈ rl_G := rl_inG mt_101 rfl
theorem cs_X11_32 : rl_cs RX11 32 yX9_init cX9_init 1 none 0 := ⟨Or.inl mw_101, co_X9_init, mw_5, by decide +kernel⟩
theorem mt_165 : (Cond.methodLink "RecordLeaves" (44 : Nat) ({ cls := "RecordLeaves$Kinds", name := "enumVersion", desc := "(II)LRecordLeaves$EnumVersion;" } : MethodName)) ∈ lw_tbl := List.mem_append_right _ (List.mem_append_left _ (List.mem_of_getElem? (i := 165) (by decide +kernel)))
theorem mw_165 : (Cond.methodLink "RecordLeaves" (44 : Nat) ({ cls := "RecordLeaves$Kinds", name := "enumVersion", desc := "(II)LRecordLeaves$EnumVersion;" } : MethodName)) ∈ rl_G := rl_inG mt_165 rfl
theorem cs_X11_44 : rl_cs RX11 44 yX3_enumVersion cX3_enumVersion 4 (some (FieldType.object "RecordLeaves$EnumVersion")) 2 := ⟨Or.inl mw_165, co_X3_enumVersion, mw_2, by decide +kernel⟩
theorem mt_172 : (Cond.methodLink "RecordLeaves" (48 : Nat) ({ cls := "RecordLeaves", name := "below", desc := "(II)Z" } : MethodName)) ∈ lw_tbl := List.mem_append_right _ (List.mem_append_left _ (List.mem_of_getElem? (i := 172) (by decide +kernel)))
theorem mw_172 : (Cond.methodLink "RecordLeaves" (48 : Nat) ({ cls := "RecordLeaves", name := "below", desc := "(II)Z" } : MethodName)) ∈ rl_G := rl_inG mt_172 rfl
theorem cs_X11_48 : rl_cs RX11 48 yX11_below cX11_below 2 (some FieldType.boolean) 2 := ⟨Or.inl mw_172, co_X11_below, mw_1, by decide +kernel⟩
theorem mt_173 : (Cond.methodLink "RecordLeaves" (52 : Nat) ({ cls := "RecordLeaves$EnumVersion", name := "named", desc := "(J)LRecordLeaves$Constant;" } : MethodName)) ∈ lw_tbl := List.mem_append_right _ (List.mem_append_left _ (List.mem_of_getElem? (i := 173) (by decide +kernel)))
theorem mw_173 : (Cond.methodLink "RecordLeaves" (52 : Nat) ({ cls := "RecordLeaves$EnumVersion", name := "named", desc := "(J)LRecordLeaves$Constant;" } : MethodName)) ∈ rl_G := rl_inG mt_173 rfl
theorem cs_X11_52 : rl_cs RX11 52 yX2_named cX2_named 4 (some (FieldType.object "RecordLeaves$Constant")) 1 := ⟨Or.inl mw_173, co_X2_named, mw_3, by decide +kernel⟩
theorem mt_177 : (Cond.methodLink "RecordLeaves" (58 : Nat) ({ cls := "RecordLeaves$EnumVersion", name := "add", desc := "(IZ)I" } : MethodName)) ∈ lw_tbl := List.mem_append_right _ (List.mem_append_left _ (List.mem_of_getElem? (i := 177) (by decide +kernel)))
theorem mw_177 : (Cond.methodLink "RecordLeaves" (58 : Nat) ({ cls := "RecordLeaves$EnumVersion", name := "add", desc := "(IZ)I" } : MethodName)) ∈ rl_G := rl_inG mt_177 rfl
theorem cs_X11_58 : rl_cs RX11 58 yX2_add cX2_add 3 (some FieldType.int) 2 := ⟨Or.inl mw_177, co_X2_add, mw_3, by decide +kernel⟩
theorem mt_210 : (Cond.methodLink "RecordLeaves" (62 : Nat) ({ cls := "RecordLeaves$Kinds", name := "recordVersion", desc := "(JI)LRecordLeaves$RecordVersion;" } : MethodName)) ∈ lw_tbl := List.mem_append_right _ (List.mem_append_left _ (List.mem_of_getElem? (i := 210) (by decide +kernel)))
theorem mw_210 : (Cond.methodLink "RecordLeaves" (62 : Nat) ({ cls := "RecordLeaves$Kinds", name := "recordVersion", desc := "(JI)LRecordLeaves$RecordVersion;" } : MethodName)) ∈ rl_G := rl_inG mt_210 rfl
theorem cs_X11_62 : rl_cs RX11 62 yX3_recordVersion cX3_recordVersion 5 (some (FieldType.object "RecordLeaves$RecordVersion")) 2 := ⟨Or.inl mw_210, co_X3_recordVersion, mw_2, by decide +kernel⟩
theorem mt_216 : (Cond.methodLink "RecordLeaves" (66 : Nat) ({ cls := "RecordLeaves", name := "mayBeOf", desc := "(II)Z" } : MethodName)) ∈ lw_tbl := List.mem_append_right _ (List.mem_append_left _ (List.mem_of_getElem? (i := 216) (by decide +kernel)))
theorem mw_216 : (Cond.methodLink "RecordLeaves" (66 : Nat) ({ cls := "RecordLeaves", name := "mayBeOf", desc := "(II)Z" } : MethodName)) ∈ rl_G := rl_inG mt_216 rfl
theorem cs_X11_66 : rl_cs RX11 66 yX11_mayBeOf cX11_mayBeOf 2 (some FieldType.boolean) 2 := ⟨Or.inl mw_216, co_X11_mayBeOf, mw_1, by decide +kernel⟩
theorem mt_219 : (Cond.methodLink "RecordLeaves" (69 : Nat) ({ cls := "RecordLeaves$RecordVersion", name := "partNamed", desc := "(J)I" } : MethodName)) ∈ lw_tbl := List.mem_append_right _ (List.mem_append_left _ (List.mem_of_getElem? (i := 219) (by decide +kernel)))
theorem mw_219 : (Cond.methodLink "RecordLeaves" (69 : Nat) ({ cls := "RecordLeaves$RecordVersion", name := "partNamed", desc := "(J)I" } : MethodName)) ∈ rl_G := rl_inG mt_219 rfl
theorem cs_X11_69 : rl_cs RX11 69 yX7_partNamed cX7_partNamed 4 (some FieldType.int) 1 := ⟨Or.inl mw_219, co_X7_partNamed, mw_4, by decide +kernel⟩
theorem mt_225 : (Cond.methodLink "RecordLeaves" (77 : Nat) ({ cls := "RecordLeaves$Part", name := "<init>", desc := "(III)V" } : MethodName)) ∈ lw_tbl := List.mem_append_right _ (List.mem_append_left _ (List.mem_of_getElem? (i := 225) (by decide +kernel)))
theorem mw_225 : (Cond.methodLink "RecordLeaves" (77 : Nat) ({ cls := "RecordLeaves$Part", name := "<init>", desc := "(III)V" } : MethodName)) ∈ rl_G := rl_inG mt_225 rfl
theorem cs_X11_77 : rl_cs RX11 77 yX4_init cX4_init 4 none 3 := ⟨Or.inl mw_225, co_X4_init, mw_9, by decide +kernel⟩
theorem mt_246 : (Cond.methodLink "RecordLeaves" (80 : Nat) ({ cls := "RecordLeaves$RecordVersion", name := "addPart", desc := "(LRecordLeaves$Part;)I" } : MethodName)) ∈ lw_tbl := List.mem_append_right _ (List.mem_append_right _ (List.mem_append_left _ (List.mem_of_getElem? (i := 6) (by decide +kernel))))
theorem mw_246 : (Cond.methodLink "RecordLeaves" (80 : Nat) ({ cls := "RecordLeaves$RecordVersion", name := "addPart", desc := "(LRecordLeaves$Part;)I" } : MethodName)) ∈ rl_G := rl_inG mt_246 rfl
theorem cs_X11_80 : rl_cs RX11 80 yX7_addPart cX7_addPart 2 (some FieldType.int) 1 := ⟨Or.inl mw_246, co_X7_addPart, mw_4, by decide +kernel⟩
theorem mt_254 : (Cond.methodLink "RecordLeaves" (84 : Nat) ({ cls := "RecordLeaves", name := "sortChecked", desc := "(I)I" } : MethodName)) ∈ lw_tbl := List.mem_append_right _ (List.mem_append_right _ (List.mem_append_left _ (List.mem_of_getElem? (i := 14) (by decide +kernel))))
theorem mw_254 : (Cond.methodLink "RecordLeaves" (84 : Nat) ({ cls := "RecordLeaves", name := "sortChecked", desc := "(I)I" } : MethodName)) ∈ rl_G := rl_inG mt_254 rfl
theorem cs_X11_84 : rl_cs RX11 84 yX11_sortChecked cX11_sortChecked 1 (some FieldType.int) 1 := ⟨Or.inl mw_254, co_X11_sortChecked, mw_1, by decide +kernel⟩
theorem mt_257 : (Cond.methodLink "RecordLeaves" (88 : Nat) ({ cls := "RecordLeaves$RecordVersion", name := "hasPart", desc := "(II)Z" } : MethodName)) ∈ lw_tbl := List.mem_append_right _ (List.mem_append_right _ (List.mem_append_left _ (List.mem_of_getElem? (i := 17) (by decide +kernel))))
theorem mw_257 : (Cond.methodLink "RecordLeaves" (88 : Nat) ({ cls := "RecordLeaves$RecordVersion", name := "hasPart", desc := "(II)Z" } : MethodName)) ∈ rl_G := rl_inG mt_257 rfl
theorem cs_X11_88 : rl_cs RX11 88 yX7_hasPart cX7_hasPart 3 (some FieldType.boolean) 2 := ⟨Or.inl mw_257, co_X7_hasPart, mw_4, by decide +kernel⟩
theorem mt_264 : (Cond.methodLink "RecordLeaves" (93 : Nat) ({ cls := "RecordLeaves$Check", name := "<init>", desc := "(III)V" } : MethodName)) ∈ lw_tbl := List.mem_append_right _ (List.mem_append_right _ (List.mem_append_left _ (List.mem_of_getElem? (i := 24) (by decide +kernel))))
theorem mw_264 : (Cond.methodLink "RecordLeaves" (93 : Nat) ({ cls := "RecordLeaves$Check", name := "<init>", desc := "(III)V" } : MethodName)) ∈ rl_G := rl_inG mt_264 rfl
theorem cs_X11_93 : rl_cs RX11 93 yX0_init cX0_init 4 none 3 := ⟨Or.inl mw_264, co_X0_init, mw_10, by decide +kernel⟩
theorem mt_278 : (Cond.methodLink "RecordLeaves" (94 : Nat) ({ cls := "RecordLeaves$RecordVersion", name := "addCheck", desc := "(LRecordLeaves$Check;)I" } : MethodName)) ∈ lw_tbl := List.mem_append_right _ (List.mem_append_right _ (List.mem_append_left _ (List.mem_of_getElem? (i := 38) (by decide +kernel))))
theorem mw_278 : (Cond.methodLink "RecordLeaves" (94 : Nat) ({ cls := "RecordLeaves$RecordVersion", name := "addCheck", desc := "(LRecordLeaves$Check;)I" } : MethodName)) ∈ rl_G := rl_inG mt_278 rfl
theorem cs_X11_94 : rl_cs RX11 94 yX7_addCheck cX7_addCheck 2 (some FieldType.int) 1 := ⟨Or.inl mw_278, co_X7_addCheck, mw_4, by decide +kernel⟩
theorem mt_292 : (Cond.methodLink "RecordLeaves" (105 : Nat) ({ cls := "RecordLeaves$Row", name := "<init>", desc := "(I)V" } : MethodName)) ∈ lw_tbl := List.mem_append_right _ (List.mem_append_right _ (List.mem_append_left _ (List.mem_of_getElem? (i := 52) (by decide +kernel))))
theorem mw_292 : (Cond.methodLink "RecordLeaves" (105 : Nat) ({ cls := "RecordLeaves$Row", name := "<init>", desc := "(I)V" } : MethodName)) ∈ rl_G := rl_inG mt_292 rfl
theorem cs_X11_105 : rl_cs RX11 105 yX8_init cX8_init 2 none 1 := ⟨Or.inl mw_292, co_X8_init, mw_11, by decide +kernel⟩
theorem mt_315 : (Cond.methodLink "RecordLeaves" (111 : Nat) ({ cls := "RecordLeaves", name := "familyOf", desc := "(LRecordLeaves$Thing;)I" } : MethodName)) ∈ lw_tbl := List.mem_append_right _ (List.mem_append_right _ (List.mem_append_left _ (List.mem_of_getElem? (i := 75) (by decide +kernel))))
theorem mw_315 : (Cond.methodLink "RecordLeaves" (111 : Nat) ({ cls := "RecordLeaves", name := "familyOf", desc := "(LRecordLeaves$Thing;)I" } : MethodName)) ∈ rl_G := rl_inG mt_315 rfl
theorem cs_X11_111 : rl_cs RX11 111 yX11_familyOf cX11_familyOf 1 (some FieldType.int) 1 := ⟨Or.inl mw_315, co_X11_familyOf, mw_1, by decide +kernel⟩
theorem mt_340 : (Cond.methodLink "RecordLeaves" (117 : Nat) ({ cls := "RecordLeaves$RecordThing", name := "<init>", desc := "(LRecordLeaves$RecordVersion;)V" } : MethodName)) ∈ lw_tbl := List.mem_append_right _ (List.mem_append_right _ (List.mem_append_left _ (List.mem_of_getElem? (i := 100) (by decide +kernel))))
theorem mw_340 : (Cond.methodLink "RecordLeaves" (117 : Nat) ({ cls := "RecordLeaves$RecordThing", name := "<init>", desc := "(LRecordLeaves$RecordVersion;)V" } : MethodName)) ∈ rl_G := rl_inG mt_340 rfl
theorem cs_X11_117 : rl_cs RX11 117 yX6_init cX6_init 2 none 1 := ⟨Or.inl mw_340, co_X6_init, mw_13, by decide +kernel⟩
theorem mt_366 : (Cond.methodLink "RecordLeaves" (120 : Nat) ({ cls := "RecordLeaves$RecordThing", name := "extent", desc := "()I" } : MethodName)) ∈ lw_tbl := List.mem_append_right _ (List.mem_append_right _ (List.mem_append_left _ (List.mem_of_getElem? (i := 126) (by decide +kernel))))
theorem mw_366 : (Cond.methodLink "RecordLeaves" (120 : Nat) ({ cls := "RecordLeaves$RecordThing", name := "extent", desc := "()I" } : MethodName)) ∈ rl_G := rl_inG mt_366 rfl
theorem cs_X11_120 : rl_cs RX11 120 yX6_extent cX6_extent 1 (some FieldType.int) 0 := ⟨Or.inl mw_366, co_X6_extent, mw_13, by decide +kernel⟩
theorem mt_370 : (Cond.methodLink "RecordLeaves" (124 : Nat) ({ cls := "RecordLeaves$RecordThing", name := "put", desc := "(IJLRecordLeaves$Thing;)V" } : MethodName)) ∈ lw_tbl := List.mem_append_right _ (List.mem_append_right _ (List.mem_append_left _ (List.mem_of_getElem? (i := 130) (by decide +kernel))))
theorem mw_370 : (Cond.methodLink "RecordLeaves" (124 : Nat) ({ cls := "RecordLeaves$RecordThing", name := "put", desc := "(IJLRecordLeaves$Thing;)V" } : MethodName)) ∈ rl_G := rl_inG mt_370 rfl
theorem cs_X11_124 : rl_cs RX11 124 yX6_put cX6_put 5 none 3 := ⟨Or.inl mw_370, co_X6_put, mw_13, by decide +kernel⟩
theorem mt_378 : (Cond.methodLink "RecordLeaves" (128 : Nat) ({ cls := "RecordLeaves$RecordVersion", name := "whyNotMade", desc := "(LRecordLeaves$RecordThing;)I" } : MethodName)) ∈ lw_tbl := List.mem_append_right _ (List.mem_append_right _ (List.mem_append_left _ (List.mem_of_getElem? (i := 138) (by decide +kernel))))
theorem mw_378 : (Cond.methodLink "RecordLeaves" (128 : Nat) ({ cls := "RecordLeaves$RecordVersion", name := "whyNotMade", desc := "(LRecordLeaves$RecordThing;)I" } : MethodName)) ∈ rl_G := rl_inG mt_378 rfl
theorem cs_X11_128 : rl_cs RX11 128 yX7_whyNotMade cX7_whyNotMade 4 (some FieldType.int) 1 := ⟨Or.inl mw_378, co_X7_whyNotMade, mw_4, by decide +kernel⟩
theorem mt_443 : (Cond.methodLink "RecordLeaves" (135 : Nat) ({ cls := "RecordLeaves", name := "rememberCause", desc := "(III)V" } : MethodName)) ∈ lw_tbl := List.mem_append_right _ (List.mem_append_right _ (List.mem_append_left _ (List.mem_of_getElem? (i := 203) (by decide +kernel))))
theorem mw_443 : (Cond.methodLink "RecordLeaves" (135 : Nat) ({ cls := "RecordLeaves", name := "rememberCause", desc := "(III)V" } : MethodName)) ∈ rl_G := rl_inG mt_443 rfl
theorem cs_X11_135 : rl_cs RX11 135 yX11_rememberCause cX11_rememberCause 4 none 3 := ⟨Or.inl mw_443, co_X11_rememberCause, mw_1, by decide +kernel⟩
theorem mt_451 : (Cond.methodLink "RecordLeaves" (138 : Nat) ({ cls := "RecordLeaves$Thing", name := "kind", desc := "()I" } : MethodName)) ∈ lw_tbl := List.mem_append_right _ (List.mem_append_right _ (List.mem_append_left _ (List.mem_of_getElem? (i := 211) (by decide +kernel))))
theorem mw_451 : (Cond.methodLink "RecordLeaves" (138 : Nat) ({ cls := "RecordLeaves$Thing", name := "kind", desc := "()I" } : MethodName)) ∈ rl_G := rl_inG mt_451 rfl
theorem mt_452 : (Cond.methodLink "RecordLeaves" (141 : Nat) ({ cls := "RecordLeaves$Thing", name := "version", desc := "()I" } : MethodName)) ∈ lw_tbl := List.mem_append_right _ (List.mem_append_right _ (List.mem_append_left _ (List.mem_of_getElem? (i := 212) (by decide +kernel))))
theorem mw_452 : (Cond.methodLink "RecordLeaves" (141 : Nat) ({ cls := "RecordLeaves$Thing", name := "version", desc := "()I" } : MethodName)) ∈ rl_G := rl_inG mt_452 rfl
theorem mt_453 : (Cond.methodLink "RecordLeaves" (144 : Nat) ({ cls := "RecordLeaves$Thing", name := "extent", desc := "()I" } : MethodName)) ∈ lw_tbl := List.mem_append_right _ (List.mem_append_right _ (List.mem_append_left _ (List.mem_of_getElem? (i := 213) (by decide +kernel))))
theorem mw_453 : (Cond.methodLink "RecordLeaves" (144 : Nat) ({ cls := "RecordLeaves$Thing", name := "extent", desc := "()I" } : MethodName)) ∈ rl_G := rl_inG mt_453 rfl
theorem mt_467 : (Cond.methodLink "RecordLeaves" (145 : Nat) ({ cls := "RecordLeaves$RecordThing", name := "isNumber", desc := "(I)Z" } : MethodName)) ∈ lw_tbl := List.mem_append_right _ (List.mem_append_right _ (List.mem_append_left _ (List.mem_of_getElem? (i := 227) (by decide +kernel))))
theorem mw_467 : (Cond.methodLink "RecordLeaves" (145 : Nat) ({ cls := "RecordLeaves$RecordThing", name := "isNumber", desc := "(I)Z" } : MethodName)) ∈ rl_G := rl_inG mt_467 rfl
theorem cs_X11_145 : rl_cs RX11 145 yX6_isNumber cX6_isNumber 2 (some FieldType.boolean) 1 := ⟨Or.inl mw_467, co_X6_isNumber, mw_13, by decide +kernel⟩
theorem mt_476 : (Cond.methodLink "RecordLeaves" (155 : Nat) ({ cls := "RecordLeaves", name := "alike", desc := "(LRecordLeaves$Thing;LRecordLeaves$Thing;I)Z" } : MethodName)) ∈ lw_tbl := List.mem_append_right _ (List.mem_append_right _ (List.mem_append_left _ (List.mem_of_getElem? (i := 236) (by decide +kernel))))
theorem mw_476 : (Cond.methodLink "RecordLeaves" (155 : Nat) ({ cls := "RecordLeaves", name := "alike", desc := "(LRecordLeaves$Thing;LRecordLeaves$Thing;I)Z" } : MethodName)) ∈ rl_G := rl_inG mt_476 rfl
theorem cs_X11_155 : rl_cs RX11 155 yX11_alike cX11_alike 5 (some FieldType.boolean) 3 := ⟨Or.inl mw_476, co_X11_alike, mw_1, by decide +kernel⟩
theorem mt_489 : (Cond.methodLink "RecordLeaves" (159 : Nat) ({ cls := "RecordLeaves$Tape", name := "replaceBy", desc := "(LRecordLeaves$RecordThing;)I" } : MethodName)) ∈ lw_tbl := List.mem_append_right _ (List.mem_append_right _ (List.mem_append_right _ (List.mem_append_left _ (List.mem_of_getElem? (i := 9) (by decide +kernel)))))
theorem mw_489 : (Cond.methodLink "RecordLeaves" (159 : Nat) ({ cls := "RecordLeaves$Tape", name := "replaceBy", desc := "(LRecordLeaves$RecordThing;)I" } : MethodName)) ∈ rl_G := rl_inG mt_489 rfl
theorem cs_X11_159 : rl_cs RX11 159 yX9_replaceBy cX9_replaceBy 2 (some FieldType.int) 1 := ⟨Or.inl mw_489, co_X9_replaceBy, mw_5, by decide +kernel⟩
theorem mt_530 : (Cond.methodLink "RecordLeaves" (168 : Nat) ({ cls := "java/lang/Math", name := "max", desc := "(II)I" } : MethodName)) ∈ lw_tbl := List.mem_append_right _ (List.mem_append_right _ (List.mem_append_right _ (List.mem_append_left _ (List.mem_of_getElem? (i := 50) (by decide +kernel)))))
theorem mw_530 : (Cond.methodLink "RecordLeaves" (168 : Nat) ({ cls := "java/lang/Math", name := "max", desc := "(II)I" } : MethodName)) ∈ rl_G := rl_inG mt_530 rfl
theorem mt_541 : (Cond.methodLink "RecordLeaves" (176 : Nat) ({ cls := "RecordLeaves$Reader", name := "<init>", desc := "(LRecordLeaves$Kinds;LRecordLeaves$Tape;I)V" } : MethodName)) ∈ lw_tbl := List.mem_append_right _ (List.mem_append_right _ (List.mem_append_right _ (List.mem_append_left _ (List.mem_of_getElem? (i := 61) (by decide +kernel)))))
theorem mw_541 : (Cond.methodLink "RecordLeaves" (176 : Nat) ({ cls := "RecordLeaves$Reader", name := "<init>", desc := "(LRecordLeaves$Kinds;LRecordLeaves$Tape;I)V" } : MethodName)) ∈ rl_G := rl_inG mt_541 rfl
theorem cs_X11_176 : rl_cs RX11 176 yX5_init cX5_init 4 none 3 := ⟨Or.inl mw_541, co_X5_init, mw_15, by decide +kernel⟩
theorem mt_574 : (Cond.methodLinkNest "RecordLeaves" (179 : Nat) ({ cls := "RecordLeaves$Reader", name := "nextRecord", desc := "(Z)LRecordLeaves$RecordThing;" } : MethodName) "RecordLeaves") ∈ lw_tbl := List.mem_append_right _ (List.mem_append_right _ (List.mem_append_right _ (List.mem_append_left _ (List.mem_of_getElem? (i := 94) (by decide +kernel)))))
theorem cs_X11_179 : rl_cs RX11 179 yX5_nextRecord cX5_nextRecord 9 (some (FieldType.object "RecordLeaves$RecordThing")) 1 := ⟨Or.inr ⟨"RecordLeaves", mt_574⟩, co_X5_nextRecord, mw_15, by decide +kernel⟩
theorem mt_636 : (Cond.methodLink "RecordLeaves" (205 : Nat) ({ cls := "RecordLeaves", name := "heldPlaces", desc := "()I" } : MethodName)) ∈ lw_tbl := List.mem_append_right _ (List.mem_append_right _ (List.mem_append_right _ (List.mem_append_left _ (List.mem_of_getElem? (i := 156) (by decide +kernel)))))
theorem mw_636 : (Cond.methodLink "RecordLeaves" (205 : Nat) ({ cls := "RecordLeaves", name := "heldPlaces", desc := "()I" } : MethodName)) ∈ rl_G := rl_inG mt_636 rfl
theorem cs_X11_205 : rl_cs RX11 205 yX11_heldPlaces cX11_heldPlaces 3 (some FieldType.int) 0 := ⟨Or.inl mw_636, co_X11_heldPlaces, mw_1, by decide +kernel⟩
theorem mt_318 : (Cond.methodLink "RecordLeaves" (208 : Nat) ({ cls := "RecordLeaves$Thing", name := "family", desc := "()I" } : MethodName)) ∈ lw_tbl := List.mem_append_right _ (List.mem_append_right _ (List.mem_append_left _ (List.mem_of_getElem? (i := 78) (by decide +kernel))))
theorem mw_318 : (Cond.methodLink "RecordLeaves" (208 : Nat) ({ cls := "RecordLeaves$Thing", name := "family", desc := "()I" } : MethodName)) ∈ rl_G := rl_inG mt_318 rfl
theorem mt_479 : (Cond.methodLink "RecordLeaves" (211 : Nat) ({ cls := "RecordLeaves", name := "sameItems", desc := "([I[I)Z" } : MethodName)) ∈ lw_tbl := List.mem_append_right _ (List.mem_append_right _ (List.mem_append_left _ (List.mem_of_getElem? (i := 239) (by decide +kernel))))
theorem mw_479 : (Cond.methodLink "RecordLeaves" (211 : Nat) ({ cls := "RecordLeaves", name := "sameItems", desc := "([I[I)Z" } : MethodName)) ∈ rl_G := rl_inG mt_479 rfl
theorem cs_X11_211 : rl_cs RX11 211 yX11_sameItems cX11_sameItems 3 (some FieldType.boolean) 2 := ⟨Or.inl mw_479, co_X11_sameItems, mw_1, by decide +kernel⟩
theorem mt_482 : (Cond.methodLink "RecordLeaves" (215 : Nat) ({ cls := "RecordLeaves", name := "alikeRecords", desc := "(LRecordLeaves$RecordThing;LRecordLeaves$RecordThing;I)Z" } : MethodName)) ∈ lw_tbl := List.mem_append_right _ (List.mem_append_right _ (List.mem_append_right _ (List.mem_append_left _ (List.mem_of_getElem? (i := 2) (by decide +kernel)))))
theorem mw_482 : (Cond.methodLink "RecordLeaves" (215 : Nat) ({ cls := "RecordLeaves", name := "alikeRecords", desc := "(LRecordLeaves$RecordThing;LRecordLeaves$RecordThing;I)Z" } : MethodName)) ∈ rl_G := rl_inG mt_482 rfl
theorem cs_X11_215 : rl_cs RX11 215 yX11_alikeRecords cX11_alikeRecords 4 (some FieldType.boolean) 3 := ⟨Or.inl mw_482, co_X11_alikeRecords, mw_1, by decide +kernel⟩
theorem mt_267 : (Cond.methodLink "RecordLeaves$Check" (3 : Nat) ({ cls := "java/lang/Object", name := "<init>", desc := "()V" } : MethodName)) ∈ lw_tbl := List.mem_append_right _ (List.mem_append_right _ (List.mem_append_left _ (List.mem_of_getElem? (i := 27) (by decide +kernel))))
theorem mw_267 : (Cond.methodLink "RecordLeaves$Check" (3 : Nat) ({ cls := "java/lang/Object", name := "<init>", desc := "()V" } : MethodName)) ∈ rl_G := rl_inG mt_267 rfl
theorem mt_422 : (Cond.methodLink "RecordLeaves$Check" (27 : Nat) ({ cls := "RecordLeaves$Check", name := "ownUnless", desc := "(Z)I" } : MethodName)) ∈ lw_tbl := List.mem_append_right _ (List.mem_append_right _ (List.mem_append_left _ (List.mem_of_getElem? (i := 182) (by decide +kernel))))
theorem mw_422 : (Cond.methodLink "RecordLeaves$Check" (27 : Nat) ({ cls := "RecordLeaves$Check", name := "ownUnless", desc := "(Z)I" } : MethodName)) ∈ rl_G := rl_inG mt_422 rfl
theorem cs_X0_27 : rl_cs RX0 27 yX0_ownUnless cX0_ownUnless 1 (some FieldType.int) 1 := ⟨Or.inl mw_422, co_X0_ownUnless, mw_10, by decide +kernel⟩
theorem mt_425 : (Cond.methodLink "RecordLeaves$Check" (31 : Nat) ({ cls := "RecordLeaves$Check", name := "whyNotDivisor", desc := "(J)I" } : MethodName)) ∈ lw_tbl := List.mem_append_right _ (List.mem_append_right _ (List.mem_append_left _ (List.mem_of_getElem? (i := 185) (by decide +kernel))))
theorem mw_425 : (Cond.methodLink "RecordLeaves$Check" (31 : Nat) ({ cls := "RecordLeaves$Check", name := "whyNotDivisor", desc := "(J)I" } : MethodName)) ∈ rl_G := rl_inG mt_425 rfl
theorem cs_X0_31 : rl_cs RX0 31 yX0_whyNotDivisor cX0_whyNotDivisor 2 (some FieldType.int) 1 := ⟨Or.inl mw_425, co_X0_whyNotDivisor, mw_10, by decide +kernel⟩
theorem mt_429 : (Cond.methodLink "RecordLeaves$Check" (39 : Nat) ({ cls := "RecordLeaves$Check", name := "whyNotItemAbove", desc := "(LRecordLeaves$Thing;J)I" } : MethodName)) ∈ lw_tbl := List.mem_append_right _ (List.mem_append_right _ (List.mem_append_left _ (List.mem_of_getElem? (i := 189) (by decide +kernel))))
theorem mw_429 : (Cond.methodLink "RecordLeaves$Check" (39 : Nat) ({ cls := "RecordLeaves$Check", name := "whyNotItemAbove", desc := "(LRecordLeaves$Thing;J)I" } : MethodName)) ∈ rl_G := rl_inG mt_429 rfl
theorem cs_X0_39 : rl_cs RX0 39 yX0_whyNotItemAbove cX0_whyNotItemAbove 4 (some FieldType.int) 2 := ⟨Or.inl mw_429, co_X0_whyNotItemAbove, mw_10, by decide +kernel⟩
theorem mt_433 : (Cond.methodLink "RecordLeaves$Check" (43 : Nat) ({ cls := "RecordLeaves$Check", name := "whyNotPartIs", desc := "(LRecordLeaves$Thing;J)I" } : MethodName)) ∈ lw_tbl := List.mem_append_right _ (List.mem_append_right _ (List.mem_append_left _ (List.mem_of_getElem? (i := 193) (by decide +kernel))))
theorem mw_433 : (Cond.methodLink "RecordLeaves$Check" (43 : Nat) ({ cls := "RecordLeaves$Check", name := "whyNotPartIs", desc := "(LRecordLeaves$Thing;J)I" } : MethodName)) ∈ rl_G := rl_inG mt_433 rfl
theorem cs_X0_43 : rl_cs RX0 43 yX0_whyNotPartIs cX0_whyNotPartIs 4 (some FieldType.int) 2 := ⟨Or.inl mw_433, co_X0_whyNotPartIs, mw_10, by decide +kernel⟩
theorem mt_439 : (Cond.methodLink "RecordLeaves$Check" (46 : Nat) ({ cls := "RecordLeaves$Check", name := "whyNotOrderBelow", desc := "(LRecordLeaves$Thing;J)I" } : MethodName)) ∈ lw_tbl := List.mem_append_right _ (List.mem_append_right _ (List.mem_append_left _ (List.mem_of_getElem? (i := 199) (by decide +kernel))))
theorem mw_439 : (Cond.methodLink "RecordLeaves$Check" (46 : Nat) ({ cls := "RecordLeaves$Check", name := "whyNotOrderBelow", desc := "(LRecordLeaves$Thing;J)I" } : MethodName)) ∈ rl_G := rl_inG mt_439 rfl
theorem cs_X0_46 : rl_cs RX0 46 yX0_whyNotOrderBelow cX0_whyNotOrderBelow 4 (some FieldType.int) 2 := ⟨Or.inl mw_439, co_X0_whyNotOrderBelow, mw_10, by decide +kernel⟩
theorem mt_437 : (Cond.methodLink "RecordLeaves$Check" (57 : Nat) ({ cls := "RecordLeaves$RecordThing", name := "extent", desc := "()I" } : MethodName)) ∈ lw_tbl := List.mem_append_right _ (List.mem_append_right _ (List.mem_append_left _ (List.mem_of_getElem? (i := 197) (by decide +kernel))))
theorem mw_437 : (Cond.methodLink "RecordLeaves$Check" (57 : Nat) ({ cls := "RecordLeaves$RecordThing", name := "extent", desc := "()I" } : MethodName)) ∈ rl_G := rl_inG mt_437 rfl
theorem cs_X0_57 : rl_cs RX0 57 yX6_extent cX6_extent 1 (some FieldType.int) 0 := ⟨Or.inl mw_437, co_X6_extent, mw_13, by decide +kernel⟩
theorem mt_438 : (Cond.methodLink "RecordLeaves$Check" (61 : Nat) ({ cls := "RecordLeaves$RecordThing", name := "isNumber", desc := "(I)Z" } : MethodName)) ∈ lw_tbl := List.mem_append_right _ (List.mem_append_right _ (List.mem_append_left _ (List.mem_of_getElem? (i := 198) (by decide +kernel))))
theorem mw_438 : (Cond.methodLink "RecordLeaves$Check" (61 : Nat) ({ cls := "RecordLeaves$RecordThing", name := "isNumber", desc := "(I)Z" } : MethodName)) ∈ rl_G := rl_inG mt_438 rfl
theorem cs_X0_61 : rl_cs RX0 61 yX6_isNumber cX6_isNumber 2 (some FieldType.boolean) 1 := ⟨Or.inl mw_438, co_X6_isNumber, mw_13, by decide +kernel⟩
theorem mt_185 : (Cond.methodLinkNest "RecordLeaves$Constant" (3 : Nat) ({ cls := "RecordLeaves$Thing", name := "<init>", desc := "()V" } : MethodName) "RecordLeaves") ∈ lw_tbl := List.mem_append_right _ (List.mem_append_left _ (List.mem_of_getElem? (i := 185) (by decide +kernel)))
theorem mt_7 : (Cond.initialized "RecordLeaves$Thing") ∈ lw_tbl := List.mem_append_right _ (List.mem_append_left _ (List.mem_of_getElem? (i := 7) (by decide +kernel)))
theorem mw_7 : (Cond.initialized "RecordLeaves$Thing") ∈ rl_G := rl_inG mt_7 rfl
theorem cs_X1_3 : rl_cs RX1 3 yX10_init cX10_init 1 none 0 := ⟨Or.inr ⟨"RecordLeaves", mt_185⟩, co_X10_init, mw_7, by decide +kernel⟩
theorem mt_36 : (Cond.methodLink "RecordLeaves$EnumVersion" (3 : Nat) ({ cls := "java/lang/Object", name := "<init>", desc := "()V" } : MethodName)) ∈ lw_tbl := List.mem_append_right _ (List.mem_append_left _ (List.mem_of_getElem? (i := 36) (by decide +kernel)))
theorem mw_36 : (Cond.methodLink "RecordLeaves$EnumVersion" (3 : Nat) ({ cls := "java/lang/Object", name := "<init>", desc := "()V" } : MethodName)) ∈ rl_G := rl_inG mt_36 rfl
theorem mt_182 : (Cond.methodLink "RecordLeaves$EnumVersion" (30 : Nat) ({ cls := "RecordLeaves$Constant", name := "<init>", desc := "(LRecordLeaves$EnumVersion;IIZ)V" } : MethodName)) ∈ lw_tbl := List.mem_append_right _ (List.mem_append_left _ (List.mem_of_getElem? (i := 182) (by decide +kernel)))
theorem mw_182 : (Cond.methodLink "RecordLeaves$EnumVersion" (30 : Nat) ({ cls := "RecordLeaves$Constant", name := "<init>", desc := "(LRecordLeaves$EnumVersion;IIZ)V" } : MethodName)) ∈ rl_G := rl_inG mt_182 rfl
theorem cs_X2_30 : rl_cs RX2 30 yX1_init cX1_init 5 none 4 := ⟨Or.inl mw_182, co_X1_init, mw_8, by decide +kernel⟩
theorem mt_29 : (Cond.methodLink "RecordLeaves$Kinds" (3 : Nat) ({ cls := "java/lang/Object", name := "<init>", desc := "()V" } : MethodName)) ∈ lw_tbl := List.mem_append_right _ (List.mem_append_left _ (List.mem_of_getElem? (i := 29) (by decide +kernel)))
theorem mw_29 : (Cond.methodLink "RecordLeaves$Kinds" (3 : Nat) ({ cls := "java/lang/Object", name := "<init>", desc := "()V" } : MethodName)) ∈ rl_G := rl_inG mt_29 rfl
theorem mt_33 : (Cond.methodLink "RecordLeaves$Kinds" (17 : Nat) ({ cls := "RecordLeaves$EnumVersion", name := "<init>", desc := "(II)V" } : MethodName)) ∈ lw_tbl := List.mem_append_right _ (List.mem_append_left _ (List.mem_of_getElem? (i := 33) (by decide +kernel)))
theorem mw_33 : (Cond.methodLink "RecordLeaves$Kinds" (17 : Nat) ({ cls := "RecordLeaves$EnumVersion", name := "<init>", desc := "(II)V" } : MethodName)) ∈ rl_G := rl_inG mt_33 rfl
theorem cs_X3_17 : rl_cs RX3 17 yX2_init cX2_init 3 none 2 := ⟨Or.inl mw_33, co_X2_init, mw_3, by decide +kernel⟩
theorem mt_57 : (Cond.methodLink "RecordLeaves$Kinds" (26 : Nat) ({ cls := "RecordLeaves$RecordVersion", name := "<init>", desc := "(II)V" } : MethodName)) ∈ lw_tbl := List.mem_append_right _ (List.mem_append_left _ (List.mem_of_getElem? (i := 57) (by decide +kernel)))
theorem mw_57 : (Cond.methodLink "RecordLeaves$Kinds" (26 : Nat) ({ cls := "RecordLeaves$RecordVersion", name := "<init>", desc := "(II)V" } : MethodName)) ∈ rl_G := rl_inG mt_57 rfl
theorem cs_X3_26 : rl_cs RX3 26 yX7_init cX7_init 3 none 2 := ⟨Or.inl mw_57, co_X7_init, mw_4, by decide +kernel⟩
theorem mt_169 : (Cond.methodLinkNest "RecordLeaves$Kinds" (27 : Nat) ({ cls := "RecordLeaves", name := "below", desc := "(II)Z" } : MethodName) "RecordLeaves") ∈ lw_tbl := List.mem_append_right _ (List.mem_append_left _ (List.mem_of_getElem? (i := 169) (by decide +kernel)))
theorem cs_X3_27 : rl_cs RX3 27 yX11_below cX11_below 2 (some FieldType.boolean) 2 := ⟨Or.inr ⟨"RecordLeaves", mt_169⟩, co_X11_below, mw_1, by decide +kernel⟩
theorem mt_228 : (Cond.methodLink "RecordLeaves$Part" (3 : Nat) ({ cls := "java/lang/Object", name := "<init>", desc := "()V" } : MethodName)) ∈ lw_tbl := List.mem_append_right _ (List.mem_append_left _ (List.mem_of_getElem? (i := 228) (by decide +kernel)))
theorem mw_228 : (Cond.methodLink "RecordLeaves$Part" (3 : Nat) ({ cls := "java/lang/Object", name := "<init>", desc := "()V" } : MethodName)) ∈ rl_G := rl_inG mt_228 rfl
theorem mt_387 : (Cond.methodLink "RecordLeaves$Part" (21 : Nat) ({ cls := "RecordLeaves$Part", name := "isOfClass", desc := "(LRecordLeaves$Thing;)Z" } : MethodName)) ∈ lw_tbl := List.mem_append_right _ (List.mem_append_right _ (List.mem_append_left _ (List.mem_of_getElem? (i := 147) (by decide +kernel))))
theorem mw_387 : (Cond.methodLink "RecordLeaves$Part" (21 : Nat) ({ cls := "RecordLeaves$Part", name := "isOfClass", desc := "(LRecordLeaves$Thing;)Z" } : MethodName)) ∈ rl_G := rl_inG mt_387 rfl
theorem cs_X4_21 : rl_cs RX4 21 yX4_isOfClass cX4_isOfClass 2 (some FieldType.boolean) 1 := ⟨Or.inl mw_387, co_X4_isOfClass, mw_9, by decide +kernel⟩
theorem mt_394 : (Cond.methodLink "RecordLeaves$Part" (25 : Nat) ({ cls := "RecordLeaves$Thing", name := "kind", desc := "()I" } : MethodName)) ∈ lw_tbl := List.mem_append_right _ (List.mem_append_right _ (List.mem_append_left _ (List.mem_of_getElem? (i := 154) (by decide +kernel))))
theorem mw_394 : (Cond.methodLink "RecordLeaves$Part" (25 : Nat) ({ cls := "RecordLeaves$Thing", name := "kind", desc := "()I" } : MethodName)) ∈ rl_G := rl_inG mt_394 rfl
theorem mt_406 : (Cond.methodLink "RecordLeaves$Part" (31 : Nat) ({ cls := "RecordLeaves$Thing", name := "version", desc := "()I" } : MethodName)) ∈ lw_tbl := List.mem_append_right _ (List.mem_append_right _ (List.mem_append_left _ (List.mem_of_getElem? (i := 166) (by decide +kernel))))
theorem mw_406 : (Cond.methodLink "RecordLeaves$Part" (31 : Nat) ({ cls := "RecordLeaves$Thing", name := "version", desc := "()I" } : MethodName)) ∈ rl_G := rl_inG mt_406 rfl
theorem mt_544 : (Cond.methodLink "RecordLeaves$Reader" (3 : Nat) ({ cls := "java/lang/Object", name := "<init>", desc := "()V" } : MethodName)) ∈ lw_tbl := List.mem_append_right _ (List.mem_append_right _ (List.mem_append_right _ (List.mem_append_left _ (List.mem_of_getElem? (i := 64) (by decide +kernel)))))
theorem mw_544 : (Cond.methodLink "RecordLeaves$Reader" (3 : Nat) ({ cls := "java/lang/Object", name := "<init>", desc := "()V" } : MethodName)) ∈ rl_G := rl_inG mt_544 rfl
theorem mt_578 : (Cond.methodLink "RecordLeaves$Reader" (44 : Nat) ({ cls := "RecordLeaves$Reader", name := "fail", desc := "(I)V" } : MethodName)) ∈ lw_tbl := List.mem_append_right _ (List.mem_append_right _ (List.mem_append_right _ (List.mem_append_left _ (List.mem_of_getElem? (i := 98) (by decide +kernel)))))
theorem mw_578 : (Cond.methodLink "RecordLeaves$Reader" (44 : Nat) ({ cls := "RecordLeaves$Reader", name := "fail", desc := "(I)V" } : MethodName)) ∈ rl_G := rl_inG mt_578 rfl
theorem cs_X5_44 : rl_cs RX5 44 yX5_fail cX5_fail 2 none 1 := ⟨Or.inl mw_578, co_X5_fail, mw_15, by decide +kernel⟩
theorem mt_582 : (Cond.methodLink "RecordLeaves$Reader" (48 : Nat) ({ cls := "RecordLeaves$Reader", name := "nextLeaf", desc := "()J" } : MethodName)) ∈ lw_tbl := List.mem_append_right _ (List.mem_append_right _ (List.mem_append_right _ (List.mem_append_left _ (List.mem_of_getElem? (i := 102) (by decide +kernel)))))
theorem mw_582 : (Cond.methodLink "RecordLeaves$Reader" (48 : Nat) ({ cls := "RecordLeaves$Reader", name := "nextLeaf", desc := "()J" } : MethodName)) ∈ rl_G := rl_inG mt_582 rfl
theorem cs_X5_48 : rl_cs RX5 48 yX5_nextLeaf cX5_nextLeaf 1 (some FieldType.long) 0 := ⟨Or.inl mw_582, co_X5_nextLeaf, mw_15, by decide +kernel⟩
theorem mt_586 : (Cond.methodLink "RecordLeaves$Reader" (52 : Nat) ({ cls := "RecordLeaves$Kinds", name := "recordVersion", desc := "(JI)LRecordLeaves$RecordVersion;" } : MethodName)) ∈ lw_tbl := List.mem_append_right _ (List.mem_append_right _ (List.mem_append_right _ (List.mem_append_left _ (List.mem_of_getElem? (i := 106) (by decide +kernel)))))
theorem mw_586 : (Cond.methodLink "RecordLeaves$Reader" (52 : Nat) ({ cls := "RecordLeaves$Kinds", name := "recordVersion", desc := "(JI)LRecordLeaves$RecordVersion;" } : MethodName)) ∈ rl_G := rl_inG mt_586 rfl
theorem cs_X5_52 : rl_cs RX5 52 yX3_recordVersion cX3_recordVersion 5 (some (FieldType.object "RecordLeaves$RecordVersion")) 2 := ⟨Or.inl mw_586, co_X3_recordVersion, mw_2, by decide +kernel⟩
theorem mt_588 : (Cond.methodLink "RecordLeaves$Reader" (60 : Nat) ({ cls := "RecordLeaves$RecordThing", name := "<init>", desc := "(LRecordLeaves$RecordVersion;)V" } : MethodName)) ∈ lw_tbl := List.mem_append_right _ (List.mem_append_right _ (List.mem_append_right _ (List.mem_append_left _ (List.mem_of_getElem? (i := 108) (by decide +kernel)))))
theorem mw_588 : (Cond.methodLink "RecordLeaves$Reader" (60 : Nat) ({ cls := "RecordLeaves$RecordThing", name := "<init>", desc := "(LRecordLeaves$RecordVersion;)V" } : MethodName)) ∈ rl_G := rl_inG mt_588 rfl
theorem cs_X5_60 : rl_cs RX5 60 yX6_init cX6_init 2 none 1 := ⟨Or.inl mw_588, co_X6_init, mw_13, by decide +kernel⟩
theorem mt_590 : (Cond.methodLink "RecordLeaves$Reader" (65 : Nat) ({ cls := "java/lang/Math", name := "min", desc := "(JJ)J" } : MethodName)) ∈ lw_tbl := List.mem_append_right _ (List.mem_append_right _ (List.mem_append_right _ (List.mem_append_left _ (List.mem_of_getElem? (i := 110) (by decide +kernel)))))
theorem mw_590 : (Cond.methodLink "RecordLeaves$Reader" (65 : Nat) ({ cls := "java/lang/Math", name := "min", desc := "(JJ)J" } : MethodName)) ∈ rl_G := rl_inG mt_590 rfl
theorem mt_593 : (Cond.methodLink "RecordLeaves$Reader" (71 : Nat) ({ cls := "RecordLeaves$Reader", name := "nextPart", desc := "(LRecordLeaves$RecordThing;)V" } : MethodName)) ∈ lw_tbl := List.mem_append_right _ (List.mem_append_right _ (List.mem_append_right _ (List.mem_append_left _ (List.mem_of_getElem? (i := 113) (by decide +kernel)))))
theorem mw_593 : (Cond.methodLink "RecordLeaves$Reader" (71 : Nat) ({ cls := "RecordLeaves$Reader", name := "nextPart", desc := "(LRecordLeaves$RecordThing;)V" } : MethodName)) ∈ rl_G := rl_inG mt_593 rfl
theorem cs_X5_71 : rl_cs RX5 71 yX5_nextPart cX5_nextPart 9 none 1 := ⟨Or.inl mw_593, co_X5_nextPart, mw_15, by decide +kernel⟩
theorem mt_619 : (Cond.methodLink "RecordLeaves$Reader" (75 : Nat) ({ cls := "RecordLeaves$Reader", name := "finished", desc := "(LRecordLeaves$RecordThing;)LRecordLeaves$RecordThing;" } : MethodName)) ∈ lw_tbl := List.mem_append_right _ (List.mem_append_right _ (List.mem_append_right _ (List.mem_append_left _ (List.mem_of_getElem? (i := 139) (by decide +kernel)))))
theorem mw_619 : (Cond.methodLink "RecordLeaves$Reader" (75 : Nat) ({ cls := "RecordLeaves$Reader", name := "finished", desc := "(LRecordLeaves$RecordThing;)LRecordLeaves$RecordThing;" } : MethodName)) ∈ rl_G := rl_inG mt_619 rfl
theorem cs_X5_75 : rl_cs RX5 75 yX5_finished cX5_finished 2 (some (FieldType.object "RecordLeaves$RecordThing")) 1 := ⟨Or.inl mw_619, co_X5_finished, mw_15, by decide +kernel⟩
theorem mt_623 : (Cond.methodLink "RecordLeaves$Reader" (83 : Nat) ({ cls := "RecordLeaves$RecordVersion", name := "whyNotMade", desc := "(LRecordLeaves$RecordThing;)I" } : MethodName)) ∈ lw_tbl := List.mem_append_right _ (List.mem_append_right _ (List.mem_append_right _ (List.mem_append_left _ (List.mem_of_getElem? (i := 143) (by decide +kernel)))))
theorem mw_623 : (Cond.methodLink "RecordLeaves$Reader" (83 : Nat) ({ cls := "RecordLeaves$RecordVersion", name := "whyNotMade", desc := "(LRecordLeaves$RecordThing;)I" } : MethodName)) ∈ rl_G := rl_inG mt_623 rfl
theorem cs_X5_83 : rl_cs RX5 83 yX7_whyNotMade cX7_whyNotMade 4 (some FieldType.int) 1 := ⟨Or.inl mw_623, co_X7_whyNotMade, mw_4, by decide +kernel⟩
theorem mt_598 : (Cond.methodLink "RecordLeaves$Reader" (94 : Nat) ({ cls := "RecordLeaves$RecordVersion", name := "partNamed", desc := "(J)I" } : MethodName)) ∈ lw_tbl := List.mem_append_right _ (List.mem_append_right _ (List.mem_append_right _ (List.mem_append_left _ (List.mem_of_getElem? (i := 118) (by decide +kernel)))))
theorem mw_598 : (Cond.methodLink "RecordLeaves$Reader" (94 : Nat) ({ cls := "RecordLeaves$RecordVersion", name := "partNamed", desc := "(J)I" } : MethodName)) ∈ rl_G := rl_inG mt_598 rfl
theorem cs_X5_94 : rl_cs RX5 94 yX7_partNamed cX7_partNamed 4 (some FieldType.int) 1 := ⟨Or.inl mw_598, co_X7_partNamed, mw_4, by decide +kernel⟩
theorem mt_599 : (Cond.methodLink "RecordLeaves$Reader" (107 : Nat) ({ cls := "RecordLeaves$RecordThing", name := "put", desc := "(IJLRecordLeaves$Thing;)V" } : MethodName)) ∈ lw_tbl := List.mem_append_right _ (List.mem_append_right _ (List.mem_append_right _ (List.mem_append_left _ (List.mem_of_getElem? (i := 119) (by decide +kernel)))))
theorem mw_599 : (Cond.methodLink "RecordLeaves$Reader" (107 : Nat) ({ cls := "RecordLeaves$RecordThing", name := "put", desc := "(IJLRecordLeaves$Thing;)V" } : MethodName)) ∈ rl_G := rl_inG mt_599 rfl
theorem cs_X5_107 : rl_cs RX5 107 yX6_put cX6_put 5 none 3 := ⟨Or.inl mw_599, co_X6_put, mw_13, by decide +kernel⟩
theorem mt_600 : (Cond.methodLink "RecordLeaves$Reader" (111 : Nat) ({ cls := "RecordLeaves$Reader", name := "nextThing", desc := "(ILRecordLeaves$Part;)LRecordLeaves$Thing;" } : MethodName)) ∈ lw_tbl := List.mem_append_right _ (List.mem_append_right _ (List.mem_append_right _ (List.mem_append_left _ (List.mem_of_getElem? (i := 120) (by decide +kernel)))))
theorem mw_600 : (Cond.methodLink "RecordLeaves$Reader" (111 : Nat) ({ cls := "RecordLeaves$Reader", name := "nextThing", desc := "(ILRecordLeaves$Part;)LRecordLeaves$Thing;" } : MethodName)) ∈ rl_G := rl_inG mt_600 rfl
theorem cs_X5_111 : rl_cs RX5 111 yX5_nextThing cX5_nextThing 3 (some (FieldType.object "RecordLeaves$Thing")) 2 := ⟨Or.inl mw_600, co_X5_nextThing, mw_15, by decide +kernel⟩
theorem mt_604 : (Cond.methodLink "RecordLeaves$Reader" (115 : Nat) ({ cls := "RecordLeaves$Reader", name := "nextConstant", desc := "(LRecordLeaves$Part;)LRecordLeaves$Constant;" } : MethodName)) ∈ lw_tbl := List.mem_append_right _ (List.mem_append_right _ (List.mem_append_right _ (List.mem_append_left _ (List.mem_of_getElem? (i := 124) (by decide +kernel)))))
theorem mw_604 : (Cond.methodLink "RecordLeaves$Reader" (115 : Nat) ({ cls := "RecordLeaves$Reader", name := "nextConstant", desc := "(LRecordLeaves$Part;)LRecordLeaves$Constant;" } : MethodName)) ∈ rl_G := rl_inG mt_604 rfl
theorem cs_X5_115 : rl_cs RX5 115 yX5_nextConstant cX5_nextConstant 6 (some (FieldType.object "RecordLeaves$Constant")) 1 := ⟨Or.inl mw_604, co_X5_nextConstant, mw_15, by decide +kernel⟩
theorem mt_611 : (Cond.methodLink "RecordLeaves$Reader" (119 : Nat) ({ cls := "RecordLeaves$Reader", name := "nextRow", desc := "(Z)LRecordLeaves$Row;" } : MethodName)) ∈ lw_tbl := List.mem_append_right _ (List.mem_append_right _ (List.mem_append_right _ (List.mem_append_left _ (List.mem_of_getElem? (i := 131) (by decide +kernel)))))
theorem mw_611 : (Cond.methodLink "RecordLeaves$Reader" (119 : Nat) ({ cls := "RecordLeaves$Reader", name := "nextRow", desc := "(Z)LRecordLeaves$Row;" } : MethodName)) ∈ rl_G := rl_inG mt_611 rfl
theorem cs_X5_119 : rl_cs RX5 119 yX5_nextRow cX5_nextRow 7 (some (FieldType.object "RecordLeaves$Row")) 1 := ⟨Or.inl mw_611, co_X5_nextRow, mw_15, by decide +kernel⟩
theorem mt_618 : (Cond.methodLink "RecordLeaves$Reader" (123 : Nat) ({ cls := "RecordLeaves$Reader", name := "nextRecord", desc := "(Z)LRecordLeaves$RecordThing;" } : MethodName)) ∈ lw_tbl := List.mem_append_right _ (List.mem_append_right _ (List.mem_append_right _ (List.mem_append_left _ (List.mem_of_getElem? (i := 138) (by decide +kernel)))))
theorem mw_618 : (Cond.methodLink "RecordLeaves$Reader" (123 : Nat) ({ cls := "RecordLeaves$Reader", name := "nextRecord", desc := "(Z)LRecordLeaves$RecordThing;" } : MethodName)) ∈ rl_G := rl_inG mt_618 rfl
theorem cs_X5_123 : rl_cs RX5 123 yX5_nextRecord cX5_nextRecord 9 (some (FieldType.object "RecordLeaves$RecordThing")) 1 := ⟨Or.inl mw_618, co_X5_nextRecord, mw_15, by decide +kernel⟩
theorem mt_609 : (Cond.methodLink "RecordLeaves$Reader" (132 : Nat) ({ cls := "RecordLeaves$Kinds", name := "enumVersion", desc := "(II)LRecordLeaves$EnumVersion;" } : MethodName)) ∈ lw_tbl := List.mem_append_right _ (List.mem_append_right _ (List.mem_append_right _ (List.mem_append_left _ (List.mem_of_getElem? (i := 129) (by decide +kernel)))))
theorem mw_609 : (Cond.methodLink "RecordLeaves$Reader" (132 : Nat) ({ cls := "RecordLeaves$Kinds", name := "enumVersion", desc := "(II)LRecordLeaves$EnumVersion;" } : MethodName)) ∈ rl_G := rl_inG mt_609 rfl
theorem cs_X5_132 : rl_cs RX5 132 yX3_enumVersion cX3_enumVersion 4 (some (FieldType.object "RecordLeaves$EnumVersion")) 2 := ⟨Or.inl mw_609, co_X3_enumVersion, mw_2, by decide +kernel⟩
theorem mt_610 : (Cond.methodLink "RecordLeaves$Reader" (136 : Nat) ({ cls := "RecordLeaves$EnumVersion", name := "named", desc := "(J)LRecordLeaves$Constant;" } : MethodName)) ∈ lw_tbl := List.mem_append_right _ (List.mem_append_right _ (List.mem_append_right _ (List.mem_append_left _ (List.mem_of_getElem? (i := 130) (by decide +kernel)))))
theorem mw_610 : (Cond.methodLink "RecordLeaves$Reader" (136 : Nat) ({ cls := "RecordLeaves$EnumVersion", name := "named", desc := "(J)LRecordLeaves$Constant;" } : MethodName)) ∈ rl_G := rl_inG mt_610 rfl
theorem cs_X5_136 : rl_cs RX5 136 yX2_named cX2_named 4 (some (FieldType.object "RecordLeaves$Constant")) 1 := ⟨Or.inl mw_610, co_X2_named, mw_3, by decide +kernel⟩
theorem mt_617 : (Cond.methodLink "RecordLeaves$Reader" (146 : Nat) ({ cls := "RecordLeaves$Row", name := "<init>", desc := "(I)V" } : MethodName)) ∈ lw_tbl := List.mem_append_right _ (List.mem_append_right _ (List.mem_append_right _ (List.mem_append_left _ (List.mem_of_getElem? (i := 137) (by decide +kernel)))))
theorem mw_617 : (Cond.methodLink "RecordLeaves$Reader" (146 : Nat) ({ cls := "RecordLeaves$Row", name := "<init>", desc := "(I)V" } : MethodName)) ∈ rl_G := rl_inG mt_617 rfl
theorem cs_X5_146 : rl_cs RX5 146 yX8_init cX8_init 2 none 1 := ⟨Or.inl mw_617, co_X8_init, mw_11, by decide +kernel⟩
theorem mt_343 : (Cond.methodLinkNest "RecordLeaves$RecordThing" (3 : Nat) ({ cls := "RecordLeaves$Thing", name := "<init>", desc := "()V" } : MethodName) "RecordLeaves") ∈ lw_tbl := List.mem_append_right _ (List.mem_append_right _ (List.mem_append_left _ (List.mem_of_getElem? (i := 103) (by decide +kernel))))
theorem cs_X6_3 : rl_cs RX6 3 yX10_init cX10_init 1 none 0 := ⟨Or.inr ⟨"RecordLeaves", mt_343⟩, co_X10_init, mw_7, by decide +kernel⟩
theorem mt_374 : (Cond.methodLink "RecordLeaves$RecordThing" (44 : Nat) ({ cls := "RecordLeaves$RecordThing", name := "isNumber", desc := "(I)Z" } : MethodName)) ∈ lw_tbl := List.mem_append_right _ (List.mem_append_right _ (List.mem_append_left _ (List.mem_of_getElem? (i := 134) (by decide +kernel))))
theorem mw_374 : (Cond.methodLink "RecordLeaves$RecordThing" (44 : Nat) ({ cls := "RecordLeaves$RecordThing", name := "isNumber", desc := "(I)Z" } : MethodName)) ∈ rl_G := rl_inG mt_374 rfl
theorem cs_X6_44 : rl_cs RX6 44 yX6_isNumber cX6_isNumber 2 (some FieldType.boolean) 1 := ⟨Or.inl mw_374, co_X6_isNumber, mw_13, by decide +kernel⟩
theorem mt_60 : (Cond.methodLink "RecordLeaves$RecordVersion" (3 : Nat) ({ cls := "java/lang/Object", name := "<init>", desc := "()V" } : MethodName)) ∈ lw_tbl := List.mem_append_right _ (List.mem_append_left _ (List.mem_of_getElem? (i := 60) (by decide +kernel)))
theorem mw_60 : (Cond.methodLink "RecordLeaves$RecordVersion" (3 : Nat) ({ cls := "java/lang/Object", name := "<init>", desc := "()V" } : MethodName)) ∈ rl_G := rl_inG mt_60 rfl
theorem mt_261 : (Cond.methodLinkNest "RecordLeaves$RecordVersion" (36 : Nat) ({ cls := "RecordLeaves", name := "below", desc := "(II)Z" } : MethodName) "RecordLeaves") ∈ lw_tbl := List.mem_append_right _ (List.mem_append_right _ (List.mem_append_left _ (List.mem_of_getElem? (i := 21) (by decide +kernel))))
theorem cs_X7_36 : rl_cs RX7 36 yX11_below cX11_below 2 (some FieldType.boolean) 2 := ⟨Or.inr ⟨"RecordLeaves", mt_261⟩, co_X11_below, mw_1, by decide +kernel⟩
theorem mt_382 : (Cond.methodLink "RecordLeaves$RecordVersion" (46 : Nat) ({ cls := "RecordLeaves$RecordThing", name := "extent", desc := "()I" } : MethodName)) ∈ lw_tbl := List.mem_append_right _ (List.mem_append_right _ (List.mem_append_left _ (List.mem_of_getElem? (i := 142) (by decide +kernel))))
theorem mw_382 : (Cond.methodLink "RecordLeaves$RecordVersion" (46 : Nat) ({ cls := "RecordLeaves$RecordThing", name := "extent", desc := "()I" } : MethodName)) ∈ rl_G := rl_inG mt_382 rfl
theorem cs_X7_46 : rl_cs RX7 46 yX6_extent cX6_extent 1 (some FieldType.int) 0 := ⟨Or.inl mw_382, co_X6_extent, mw_13, by decide +kernel⟩
theorem mt_383 : (Cond.methodLink "RecordLeaves$RecordVersion" (60 : Nat) ({ cls := "RecordLeaves$Part", name := "whyNotTaken", desc := "(JLRecordLeaves$Thing;I)I" } : MethodName)) ∈ lw_tbl := List.mem_append_right _ (List.mem_append_right _ (List.mem_append_left _ (List.mem_of_getElem? (i := 143) (by decide +kernel))))
theorem mw_383 : (Cond.methodLink "RecordLeaves$RecordVersion" (60 : Nat) ({ cls := "RecordLeaves$Part", name := "whyNotTaken", desc := "(JLRecordLeaves$Thing;I)I" } : MethodName)) ∈ rl_G := rl_inG mt_383 rfl
theorem cs_X7_60 : rl_cs RX7 60 yX4_whyNotTaken cX4_whyNotTaken 5 (some FieldType.int) 3 := ⟨Or.inl mw_383, co_X4_whyNotTaken, mw_9, by decide +kernel⟩
theorem mt_418 : (Cond.methodLink "RecordLeaves$RecordVersion" (64 : Nat) ({ cls := "RecordLeaves$Check", name := "whyNotPassed", desc := "(LRecordLeaves$RecordThing;)I" } : MethodName)) ∈ lw_tbl := List.mem_append_right _ (List.mem_append_right _ (List.mem_append_left _ (List.mem_of_getElem? (i := 178) (by decide +kernel))))
theorem mw_418 : (Cond.methodLink "RecordLeaves$RecordVersion" (64 : Nat) ({ cls := "RecordLeaves$Check", name := "whyNotPassed", desc := "(LRecordLeaves$RecordThing;)I" } : MethodName)) ∈ rl_G := rl_inG mt_418 rfl
theorem cs_X7_64 : rl_cs RX7 64 yX0_whyNotPassed cX0_whyNotPassed 2 (some FieldType.int) 1 := ⟨Or.inl mw_418, co_X0_whyNotPassed, mw_10, by decide +kernel⟩
theorem mt_295 : (Cond.methodLinkNest "RecordLeaves$Row" (3 : Nat) ({ cls := "RecordLeaves$Thing", name := "<init>", desc := "()V" } : MethodName) "RecordLeaves") ∈ lw_tbl := List.mem_append_right _ (List.mem_append_right _ (List.mem_append_left _ (List.mem_of_getElem? (i := 55) (by decide +kernel))))
theorem cs_X8_3 : rl_cs RX8 3 yX10_init cX10_init 1 none 0 := ⟨Or.inr ⟨"RecordLeaves", mt_295⟩, co_X10_init, mw_7, by decide +kernel⟩
theorem mt_296 : (Cond.methodLink "RecordLeaves$Row" (9 : Nat) ({ cls := "java/lang/Math", name := "max", desc := "(II)I" } : MethodName)) ∈ lw_tbl := List.mem_append_right _ (List.mem_append_right _ (List.mem_append_left _ (List.mem_of_getElem? (i := 56) (by decide +kernel))))
theorem mw_296 : (Cond.methodLink "RecordLeaves$Row" (9 : Nat) ({ cls := "java/lang/Math", name := "max", desc := "(II)I" } : MethodName)) ∈ rl_G := rl_inG mt_296 rfl
theorem mt_104 : (Cond.methodLink "RecordLeaves$Tape" (3 : Nat) ({ cls := "java/lang/Object", name := "<init>", desc := "()V" } : MethodName)) ∈ lw_tbl := List.mem_append_right _ (List.mem_append_left _ (List.mem_of_getElem? (i := 104) (by decide +kernel)))
theorem mw_104 : (Cond.methodLink "RecordLeaves$Tape" (3 : Nat) ({ cls := "java/lang/Object", name := "<init>", desc := "()V" } : MethodName)) ∈ rl_G := rl_inG mt_104 rfl
theorem mt_493 : (Cond.methodLink "RecordLeaves$Tape" (22 : Nat) ({ cls := "RecordLeaves$Tape", name := "putRecord", desc := "(LRecordLeaves$RecordThing;I)V" } : MethodName)) ∈ lw_tbl := List.mem_append_right _ (List.mem_append_right _ (List.mem_append_right _ (List.mem_append_left _ (List.mem_of_getElem? (i := 13) (by decide +kernel)))))
theorem mw_493 : (Cond.methodLink "RecordLeaves$Tape" (22 : Nat) ({ cls := "RecordLeaves$Tape", name := "putRecord", desc := "(LRecordLeaves$RecordThing;I)V" } : MethodName)) ∈ rl_G := rl_inG mt_493 rfl
theorem cs_X9_22 : rl_cs RX9 22 yX9_putRecord cX9_putRecord 4 none 2 := ⟨Or.inl mw_493, co_X9_putRecord, mw_5, by decide +kernel⟩
theorem mt_519 : (Cond.methodLink "RecordLeaves$Tape" (26 : Nat) ({ cls := "java/lang/System", name := "arraycopy", desc := "(Ljava/lang/Object;ILjava/lang/Object;II)V" } : MethodName)) ∈ lw_tbl := List.mem_append_right _ (List.mem_append_right _ (List.mem_append_right _ (List.mem_append_left _ (List.mem_of_getElem? (i := 39) (by decide +kernel)))))
theorem mw_519 : (Cond.methodLink "RecordLeaves$Tape" (26 : Nat) ({ cls := "java/lang/System", name := "arraycopy", desc := "(Ljava/lang/Object;ILjava/lang/Object;II)V" } : MethodName)) ∈ rl_G := rl_inG mt_519 rfl
theorem mt_502 : (Cond.methodLink "RecordLeaves$Tape" (35 : Nat) ({ cls := "java/lang/Math", name := "min", desc := "(II)I" } : MethodName)) ∈ lw_tbl := List.mem_append_right _ (List.mem_append_right _ (List.mem_append_right _ (List.mem_append_left _ (List.mem_of_getElem? (i := 22) (by decide +kernel)))))
theorem mw_502 : (Cond.methodLink "RecordLeaves$Tape" (35 : Nat) ({ cls := "java/lang/Math", name := "min", desc := "(II)I" } : MethodName)) ∈ rl_G := rl_inG mt_502 rfl
theorem mt_497 : (Cond.methodLink "RecordLeaves$Tape" (41 : Nat) ({ cls := "RecordLeaves$RecordThing", name := "kind", desc := "()I" } : MethodName)) ∈ lw_tbl := List.mem_append_right _ (List.mem_append_right _ (List.mem_append_right _ (List.mem_append_left _ (List.mem_of_getElem? (i := 17) (by decide +kernel)))))
theorem mw_497 : (Cond.methodLink "RecordLeaves$Tape" (41 : Nat) ({ cls := "RecordLeaves$RecordThing", name := "kind", desc := "()I" } : MethodName)) ∈ rl_G := rl_inG mt_497 rfl
theorem cs_X9_41 : rl_cs RX9 41 yX6_kind cX6_kind 1 (some FieldType.int) 0 := ⟨Or.inl mw_497, co_X6_kind, mw_13, by decide +kernel⟩
theorem mt_498 : (Cond.methodLink "RecordLeaves$Tape" (47 : Nat) ({ cls := "RecordLeaves$Tape", name := "put", desc := "(J)V" } : MethodName)) ∈ lw_tbl := List.mem_append_right _ (List.mem_append_right _ (List.mem_append_right _ (List.mem_append_left _ (List.mem_of_getElem? (i := 18) (by decide +kernel)))))
theorem mw_498 : (Cond.methodLink "RecordLeaves$Tape" (47 : Nat) ({ cls := "RecordLeaves$Tape", name := "put", desc := "(J)V" } : MethodName)) ∈ rl_G := rl_inG mt_498 rfl
theorem cs_X9_47 : rl_cs RX9 47 yX9_put cX9_put 3 none 1 := ⟨Or.inl mw_498, co_X9_put, mw_5, by decide +kernel⟩
theorem mt_505 : (Cond.methodLink "RecordLeaves$Tape" (51 : Nat) ({ cls := "RecordLeaves$RecordThing", name := "extent", desc := "()I" } : MethodName)) ∈ lw_tbl := List.mem_append_right _ (List.mem_append_right _ (List.mem_append_right _ (List.mem_append_left _ (List.mem_of_getElem? (i := 25) (by decide +kernel)))))
theorem mw_505 : (Cond.methodLink "RecordLeaves$Tape" (51 : Nat) ({ cls := "RecordLeaves$RecordThing", name := "extent", desc := "()I" } : MethodName)) ∈ rl_G := rl_inG mt_505 rfl
theorem cs_X9_51 : rl_cs RX9 51 yX6_extent cX6_extent 1 (some FieldType.int) 0 := ⟨Or.inl mw_505, co_X6_extent, mw_13, by decide +kernel⟩
theorem mt_506 : (Cond.methodLink "RecordLeaves$Tape" (72 : Nat) ({ cls := "RecordLeaves$Tape", name := "putValue", desc := "(LRecordLeaves$RecordThing;II)V" } : MethodName)) ∈ lw_tbl := List.mem_append_right _ (List.mem_append_right _ (List.mem_append_right _ (List.mem_append_left _ (List.mem_of_getElem? (i := 26) (by decide +kernel)))))
theorem mw_506 : (Cond.methodLink "RecordLeaves$Tape" (72 : Nat) ({ cls := "RecordLeaves$Tape", name := "putValue", desc := "(LRecordLeaves$RecordThing;II)V" } : MethodName)) ∈ rl_G := rl_inG mt_506 rfl
theorem cs_X9_72 : rl_cs RX9 72 yX9_putValue cX9_putValue 8 none 3 := ⟨Or.inl mw_506, co_X9_putValue, mw_5, by decide +kernel⟩
theorem mt_510 : (Cond.methodLink "RecordLeaves$Tape" (80 : Nat) ({ cls := "RecordLeaves$RecordThing", name := "isNumber", desc := "(I)Z" } : MethodName)) ∈ lw_tbl := List.mem_append_right _ (List.mem_append_right _ (List.mem_append_right _ (List.mem_append_left _ (List.mem_of_getElem? (i := 30) (by decide +kernel)))))
theorem mw_510 : (Cond.methodLink "RecordLeaves$Tape" (80 : Nat) ({ cls := "RecordLeaves$RecordThing", name := "isNumber", desc := "(I)Z" } : MethodName)) ∈ rl_G := rl_inG mt_510 rfl
theorem cs_X9_80 : rl_cs RX9 80 yX6_isNumber cX6_isNumber 2 (some FieldType.boolean) 1 := ⟨Or.inl mw_510, co_X6_isNumber, mw_13, by decide +kernel⟩
theorem mt_514 : (Cond.methodLink "RecordLeaves$Tape" (96 : Nat) ({ cls := "RecordLeaves$Tape", name := "putItems", desc := "([I)V" } : MethodName)) ∈ lw_tbl := List.mem_append_right _ (List.mem_append_right _ (List.mem_append_right _ (List.mem_append_left _ (List.mem_of_getElem? (i := 34) (by decide +kernel)))))
theorem mw_514 : (Cond.methodLink "RecordLeaves$Tape" (96 : Nat) ({ cls := "RecordLeaves$Tape", name := "putItems", desc := "([I)V" } : MethodName)) ∈ rl_G := rl_inG mt_514 rfl
theorem cs_X9_96 : rl_cs RX9 96 yX9_putItems cX9_putItems 3 none 1 := ⟨Or.inl mw_514, co_X9_putItems, mw_5, by decide +kernel⟩
theorem mt_188 : (Cond.methodLink "RecordLeaves$Thing" (1 : Nat) ({ cls := "java/lang/Object", name := "<init>", desc := "()V" } : MethodName)) ∈ lw_tbl := List.mem_append_right _ (List.mem_append_left _ (List.mem_of_getElem? (i := 188) (by decide +kernel)))
theorem mw_188 : (Cond.methodLink "RecordLeaves$Thing" (1 : Nat) ({ cls := "java/lang/Object", name := "<init>", desc := "()V" } : MethodName)) ∈ rl_G := rl_inG mt_188 rfl
theorem mt_18 : (Cond.methodLink "RecordLeavesLaw" (9 : Nat) ({ cls := "RecordLeaves", name := "<init>", desc := "()V" } : MethodName)) ∈ lw_tbl := List.mem_append_right _ (List.mem_append_left _ (List.mem_of_getElem? (i := 18) (by decide +kernel)))
theorem mw_18 : (Cond.methodLink "RecordLeavesLaw" (9 : Nat) ({ cls := "RecordLeaves", name := "<init>", desc := "()V" } : MethodName)) ∈ rl_G := rl_inG mt_18 rfl
theorem cs_L_9 : rl_cs RL 9 yX11_init cX11_init 1 none 0 := ⟨Or.inl mw_18, co_X11_init, mw_1, by decide +kernel⟩
theorem mt_642 : (Cond.methodLink "RecordLeavesLaw" (12 : Nat) ({ cls := "RecordLeavesModel", name := "<init>", desc := "()V" } : MethodName)) ∈ lw_tbl := List.mem_append_right _ (List.mem_append_right _ (List.mem_append_right _ (List.mem_append_left _ (List.mem_of_getElem? (i := 162) (by decide +kernel)))))
theorem mw_642 : (Cond.methodLink "RecordLeavesLaw" (12 : Nat) ({ cls := "RecordLeavesModel", name := "<init>", desc := "()V" } : MethodName)) ∈ rl_G := rl_inG mt_642 rfl
theorem cs_L_12 : rl_cs RL 12 yX12_init cX12_init 1 none 0 := ⟨Or.inl mw_642, co_X12_init, mw_6, by decide +kernel⟩
theorem mt_161 : (Cond.methodLink "RecordLeavesLaw" (13 : Nat) ({ cls := "RecordLeaves", name := "constant", desc := "(IIIZ)I" } : MethodName)) ∈ lw_tbl := List.mem_append_right _ (List.mem_append_left _ (List.mem_of_getElem? (i := 161) (by decide +kernel)))
theorem mw_161 : (Cond.methodLink "RecordLeavesLaw" (13 : Nat) ({ cls := "RecordLeaves", name := "constant", desc := "(IIIZ)I" } : MethodName)) ∈ rl_G := rl_inG mt_161 rfl
theorem cs_L_13 : rl_cs RL 13 yX11_constant cX11_constant 6 (some FieldType.int) 4 := ⟨Or.inl mw_161, co_X11_constant, mw_1, by decide +kernel⟩
theorem mt_798 : (Cond.methodLink "RecordLeavesLaw" (17 : Nat) ({ cls := "RecordLeavesModel", name := "constant", desc := "(IIIZ)I" } : MethodName)) ∈ lw_tbl := List.mem_append_right _ (List.mem_append_right _ (List.mem_append_right _ (List.mem_append_right _ (List.mem_append_left _ (List.mem_of_getElem? (i := 78) (by decide +kernel))))))
theorem mw_798 : (Cond.methodLink "RecordLeavesLaw" (17 : Nat) ({ cls := "RecordLeavesModel", name := "constant", desc := "(IIIZ)I" } : MethodName)) ∈ rl_G := rl_inG mt_798 rfl
theorem cs_L_17 : rl_cs RL 17 yX12_constant cX12_constant 7 (some FieldType.int) 4 := ⟨Or.inl mw_798, co_X12_constant, mw_6, by decide +kernel⟩
theorem mt_206 : (Cond.methodLink "RecordLeavesLaw" (18 : Nat) ({ cls := "RecordLeaves", name := "part", desc := "(IIIII)I" } : MethodName)) ∈ lw_tbl := List.mem_append_right _ (List.mem_append_left _ (List.mem_of_getElem? (i := 206) (by decide +kernel)))
theorem mw_206 : (Cond.methodLink "RecordLeavesLaw" (18 : Nat) ({ cls := "RecordLeaves", name := "part", desc := "(IIIII)I" } : MethodName)) ∈ rl_G := rl_inG mt_206 rfl
theorem cs_L_18 : rl_cs RL 18 yX11_part cX11_part 7 (some FieldType.int) 5 := ⟨Or.inl mw_206, co_X11_part, mw_1, by decide +kernel⟩
theorem mt_814 : (Cond.methodLink "RecordLeavesLaw" (22 : Nat) ({ cls := "RecordLeavesModel", name := "part", desc := "(IIIII)I" } : MethodName)) ∈ lw_tbl := List.mem_append_right _ (List.mem_append_right _ (List.mem_append_right _ (List.mem_append_right _ (List.mem_append_left _ (List.mem_of_getElem? (i := 94) (by decide +kernel))))))
theorem mw_814 : (Cond.methodLink "RecordLeavesLaw" (22 : Nat) ({ cls := "RecordLeavesModel", name := "part", desc := "(IIIII)I" } : MethodName)) ∈ rl_G := rl_inG mt_814 rfl
theorem cs_L_22 : rl_cs RL 22 yX12_part cX12_part 8 (some FieldType.int) 5 := ⟨Or.inl mw_814, co_X12_part, mw_6, by decide +kernel⟩
theorem mt_250 : (Cond.methodLink "RecordLeavesLaw" (23 : Nat) ({ cls := "RecordLeaves", name := "check", desc := "(IIIII)I" } : MethodName)) ∈ lw_tbl := List.mem_append_right _ (List.mem_append_right _ (List.mem_append_left _ (List.mem_of_getElem? (i := 10) (by decide +kernel))))
theorem mw_250 : (Cond.methodLink "RecordLeavesLaw" (23 : Nat) ({ cls := "RecordLeaves", name := "check", desc := "(IIIII)I" } : MethodName)) ∈ rl_G := rl_inG mt_250 rfl
theorem cs_L_23 : rl_cs RL 23 yX11_check cX11_check 7 (some FieldType.int) 5 := ⟨Or.inl mw_250, co_X11_check, mw_1, by decide +kernel⟩
theorem mt_827 : (Cond.methodLink "RecordLeavesLaw" (26 : Nat) ({ cls := "RecordLeavesModel", name := "check", desc := "(IIIII)I" } : MethodName)) ∈ lw_tbl := List.mem_append_right _ (List.mem_append_right _ (List.mem_append_right _ (List.mem_append_right _ (List.mem_append_left _ (List.mem_of_getElem? (i := 107) (by decide +kernel))))))
theorem mw_827 : (Cond.methodLink "RecordLeavesLaw" (26 : Nat) ({ cls := "RecordLeavesModel", name := "check", desc := "(IIIII)I" } : MethodName)) ∈ rl_G := rl_inG mt_827 rfl
theorem cs_L_26 : rl_cs RL 26 yX12_check cX12_check 9 (some FieldType.int) 5 := ⟨Or.inl mw_827, co_X12_check, mw_6, by decide +kernel⟩
theorem mt_282 : (Cond.methodLink "RecordLeavesLaw" (27 : Nat) ({ cls := "RecordLeaves", name := "hold", desc := "(IIII)I" } : MethodName)) ∈ lw_tbl := List.mem_append_right _ (List.mem_append_right _ (List.mem_append_left _ (List.mem_of_getElem? (i := 42) (by decide +kernel))))
theorem mw_282 : (Cond.methodLink "RecordLeavesLaw" (27 : Nat) ({ cls := "RecordLeaves", name := "hold", desc := "(IIII)I" } : MethodName)) ∈ rl_G := rl_inG mt_282 rfl
theorem cs_L_27 : rl_cs RL 27 yX11_hold cX11_hold 7 (some FieldType.int) 4 := ⟨Or.inl mw_282, co_X11_hold, mw_1, by decide +kernel⟩
theorem mt_835 : (Cond.methodLink "RecordLeavesLaw" (31 : Nat) ({ cls := "RecordLeavesModel", name := "hold", desc := "(IIII)I" } : MethodName)) ∈ lw_tbl := List.mem_append_right _ (List.mem_append_right _ (List.mem_append_right _ (List.mem_append_right _ (List.mem_append_left _ (List.mem_of_getElem? (i := 115) (by decide +kernel))))))
theorem mw_835 : (Cond.methodLink "RecordLeavesLaw" (31 : Nat) ({ cls := "RecordLeavesModel", name := "hold", desc := "(IIII)I" } : MethodName)) ∈ rl_G := rl_inG mt_835 rfl
theorem cs_L_31 : rl_cs RL 31 yX12_hold cX12_hold 6 (some FieldType.int) 4 := ⟨Or.inl mw_835, co_X12_hold, mw_6, by decide +kernel⟩
theorem mt_286 : (Cond.methodLink "RecordLeavesLaw" (32 : Nat) ({ cls := "RecordLeaves", name := "row", desc := "(II)I" } : MethodName)) ∈ lw_tbl := List.mem_append_right _ (List.mem_append_right _ (List.mem_append_left _ (List.mem_of_getElem? (i := 46) (by decide +kernel))))
theorem mw_286 : (Cond.methodLink "RecordLeavesLaw" (32 : Nat) ({ cls := "RecordLeaves", name := "row", desc := "(II)I" } : MethodName)) ∈ rl_G := rl_inG mt_286 rfl
theorem cs_L_32 : rl_cs RL 32 yX11_row cX11_row 3 (some FieldType.int) 2 := ⟨Or.inl mw_286, co_X11_row, mw_1, by decide +kernel⟩
theorem mt_842 : (Cond.methodLink "RecordLeavesLaw" (36 : Nat) ({ cls := "RecordLeavesModel", name := "row", desc := "(II)I" } : MethodName)) ∈ lw_tbl := List.mem_append_right _ (List.mem_append_right _ (List.mem_append_right _ (List.mem_append_right _ (List.mem_append_left _ (List.mem_of_getElem? (i := 122) (by decide +kernel))))))
theorem mw_842 : (Cond.methodLink "RecordLeavesLaw" (36 : Nat) ({ cls := "RecordLeavesModel", name := "row", desc := "(II)I" } : MethodName)) ∈ rl_G := rl_inG mt_842 rfl
theorem cs_L_36 : rl_cs RL 36 yX12_row cX12_row 3 (some FieldType.int) 2 := ⟨Or.inl mw_842, co_X12_row, mw_6, by decide +kernel⟩
theorem mt_307 : (Cond.methodLink "RecordLeavesLaw" (37 : Nat) ({ cls := "RecordLeaves", name := "item", desc := "(III)I" } : MethodName)) ∈ lw_tbl := List.mem_append_right _ (List.mem_append_right _ (List.mem_append_left _ (List.mem_of_getElem? (i := 67) (by decide +kernel))))
theorem mw_307 : (Cond.methodLink "RecordLeavesLaw" (37 : Nat) ({ cls := "RecordLeaves", name := "item", desc := "(III)I" } : MethodName)) ∈ rl_G := rl_inG mt_307 rfl
theorem cs_L_37 : rl_cs RL 37 yX11_item cX11_item 6 (some FieldType.int) 3 := ⟨Or.inl mw_307, co_X11_item, mw_1, by decide +kernel⟩
theorem mt_851 : (Cond.methodLink "RecordLeavesLaw" (41 : Nat) ({ cls := "RecordLeavesModel", name := "item", desc := "(III)I" } : MethodName)) ∈ lw_tbl := List.mem_append_right _ (List.mem_append_right _ (List.mem_append_right _ (List.mem_append_right _ (List.mem_append_left _ (List.mem_of_getElem? (i := 131) (by decide +kernel))))))
theorem mw_851 : (Cond.methodLink "RecordLeavesLaw" (41 : Nat) ({ cls := "RecordLeavesModel", name := "item", desc := "(III)I" } : MethodName)) ∈ rl_G := rl_inG mt_851 rfl
theorem cs_L_41 : rl_cs RL 41 yX12_item cX12_item 6 (some FieldType.int) 3 := ⟨Or.inl mw_851, co_X12_item, mw_6, by decide +kernel⟩
theorem mt_311 : (Cond.methodLink "RecordLeavesLaw" (42 : Nat) ({ cls := "RecordLeaves", name := "share", desc := "(II)I" } : MethodName)) ∈ lw_tbl := List.mem_append_right _ (List.mem_append_right _ (List.mem_append_left _ (List.mem_of_getElem? (i := 71) (by decide +kernel))))
theorem mw_311 : (Cond.methodLink "RecordLeavesLaw" (42 : Nat) ({ cls := "RecordLeaves", name := "share", desc := "(II)I" } : MethodName)) ∈ rl_G := rl_inG mt_311 rfl
theorem cs_L_42 : rl_cs RL 42 yX11_share cX11_share 3 (some FieldType.int) 2 := ⟨Or.inl mw_311, co_X11_share, mw_1, by decide +kernel⟩
theorem mt_860 : (Cond.methodLink "RecordLeavesLaw" (45 : Nat) ({ cls := "RecordLeavesModel", name := "share", desc := "(II)I" } : MethodName)) ∈ lw_tbl := List.mem_append_right _ (List.mem_append_right _ (List.mem_append_right _ (List.mem_append_right _ (List.mem_append_left _ (List.mem_of_getElem? (i := 140) (by decide +kernel))))))
theorem mw_860 : (Cond.methodLink "RecordLeavesLaw" (45 : Nat) ({ cls := "RecordLeavesModel", name := "share", desc := "(II)I" } : MethodName)) ∈ rl_G := rl_inG mt_860 rfl
theorem cs_L_45 : rl_cs RL 45 yX12_share cX12_share 3 (some FieldType.int) 2 := ⟨Or.inl mw_860, co_X12_share, mw_6, by decide +kernel⟩
theorem mt_330 : (Cond.methodLink "RecordLeavesLaw" (48 : Nat) ({ cls := "RecordLeaves", name := "give", desc := "(IJI)I" } : MethodName)) ∈ lw_tbl := List.mem_append_right _ (List.mem_append_right _ (List.mem_append_left _ (List.mem_of_getElem? (i := 90) (by decide +kernel))))
theorem mw_330 : (Cond.methodLink "RecordLeavesLaw" (48 : Nat) ({ cls := "RecordLeaves", name := "give", desc := "(IJI)I" } : MethodName)) ∈ rl_G := rl_inG mt_330 rfl
theorem cs_L_48 : rl_cs RL 48 yX11_give cX11_give 5 (some FieldType.int) 3 := ⟨Or.inl mw_330, co_X11_give, mw_1, by decide +kernel⟩
theorem mt_864 : (Cond.methodLink "RecordLeavesLaw" (52 : Nat) ({ cls := "RecordLeavesModel", name := "give", desc := "(IJI)I" } : MethodName)) ∈ lw_tbl := List.mem_append_right _ (List.mem_append_right _ (List.mem_append_right _ (List.mem_append_right _ (List.mem_append_left _ (List.mem_of_getElem? (i := 144) (by decide +kernel))))))
theorem mw_864 : (Cond.methodLink "RecordLeavesLaw" (52 : Nat) ({ cls := "RecordLeavesModel", name := "give", desc := "(IJI)I" } : MethodName)) ∈ rl_G := rl_inG mt_864 rfl
theorem cs_L_52 : rl_cs RL 52 yX12_give cX12_give 5 (some FieldType.int) 3 := ⟨Or.inl mw_864, co_X12_give, mw_6, by decide +kernel⟩
theorem mt_334 : (Cond.methodLink "RecordLeavesLaw" (53 : Nat) ({ cls := "RecordLeaves", name := "make", desc := "(III)I" } : MethodName)) ∈ lw_tbl := List.mem_append_right _ (List.mem_append_right _ (List.mem_append_left _ (List.mem_of_getElem? (i := 94) (by decide +kernel))))
theorem mw_334 : (Cond.methodLink "RecordLeavesLaw" (53 : Nat) ({ cls := "RecordLeaves", name := "make", desc := "(III)I" } : MethodName)) ∈ rl_G := rl_inG mt_334 rfl
theorem cs_L_53 : rl_cs RL 53 yX11_make cX11_make 7 (some FieldType.int) 3 := ⟨Or.inl mw_334, co_X11_make, mw_1, by decide +kernel⟩
theorem mt_868 : (Cond.methodLink "RecordLeavesLaw" (56 : Nat) ({ cls := "RecordLeavesModel", name := "make", desc := "(III)I" } : MethodName)) ∈ lw_tbl := List.mem_append_right _ (List.mem_append_right _ (List.mem_append_right _ (List.mem_append_right _ (List.mem_append_left _ (List.mem_of_getElem? (i := 148) (by decide +kernel))))))
theorem mw_868 : (Cond.methodLink "RecordLeavesLaw" (56 : Nat) ({ cls := "RecordLeavesModel", name := "make", desc := "(III)I" } : MethodName)) ∈ rl_G := rl_inG mt_868 rfl
theorem cs_L_56 : rl_cs RL 56 yX12_make cX12_make 5 (some FieldType.int) 3 := ⟨Or.inl mw_868, co_X12_make, mw_6, by decide +kernel⟩
theorem mt_447 : (Cond.methodLink "RecordLeavesLaw" (57 : Nat) ({ cls := "RecordLeaves", name := "about", desc := "(II)I" } : MethodName)) ∈ lw_tbl := List.mem_append_right _ (List.mem_append_right _ (List.mem_append_left _ (List.mem_of_getElem? (i := 207) (by decide +kernel))))
theorem mw_447 : (Cond.methodLink "RecordLeavesLaw" (57 : Nat) ({ cls := "RecordLeaves", name := "about", desc := "(II)I" } : MethodName)) ∈ rl_G := rl_inG mt_447 rfl
theorem cs_L_57 : rl_cs RL 57 yX11_about cX11_about 4 (some FieldType.int) 2 := ⟨Or.inl mw_447, co_X11_about, mw_1, by decide +kernel⟩
theorem mt_887 : (Cond.methodLink "RecordLeavesLaw" (60 : Nat) ({ cls := "RecordLeavesModel", name := "about", desc := "(II)I" } : MethodName)) ∈ lw_tbl := List.mem_append_right _ (List.mem_append_right _ (List.mem_append_right _ (List.mem_append_right _ (List.mem_append_left _ (List.mem_of_getElem? (i := 167) (by decide +kernel))))))
theorem mw_887 : (Cond.methodLink "RecordLeavesLaw" (60 : Nat) ({ cls := "RecordLeavesModel", name := "about", desc := "(II)I" } : MethodName)) ∈ rl_G := rl_inG mt_887 rfl
theorem cs_L_60 : rl_cs RL 60 yX12_about cX12_about 7 (some FieldType.int) 2 := ⟨Or.inl mw_887, co_X12_about, mw_6, by decide +kernel⟩
theorem mt_463 : (Cond.methodLink "RecordLeavesLaw" (61 : Nat) ({ cls := "RecordLeaves", name := "number", desc := "(II)J" } : MethodName)) ∈ lw_tbl := List.mem_append_right _ (List.mem_append_right _ (List.mem_append_left _ (List.mem_of_getElem? (i := 223) (by decide +kernel))))
theorem mw_463 : (Cond.methodLink "RecordLeavesLaw" (61 : Nat) ({ cls := "RecordLeaves", name := "number", desc := "(II)J" } : MethodName)) ∈ rl_G := rl_inG mt_463 rfl
theorem cs_L_61 : rl_cs RL 61 yX11_number cX11_number 5 (some FieldType.long) 2 := ⟨Or.inl mw_463, co_X11_number, mw_1, by decide +kernel⟩
theorem mt_892 : (Cond.methodLink "RecordLeavesLaw" (65 : Nat) ({ cls := "RecordLeavesModel", name := "number", desc := "(II)J" } : MethodName)) ∈ lw_tbl := List.mem_append_right _ (List.mem_append_right _ (List.mem_append_right _ (List.mem_append_right _ (List.mem_append_left _ (List.mem_of_getElem? (i := 172) (by decide +kernel))))))
theorem mw_892 : (Cond.methodLink "RecordLeavesLaw" (65 : Nat) ({ cls := "RecordLeavesModel", name := "number", desc := "(II)J" } : MethodName)) ∈ rl_G := rl_inG mt_892 rfl
theorem cs_L_65 : rl_cs RL 65 yX12_number cX12_number 4 (some FieldType.long) 2 := ⟨Or.inl mw_892, co_X12_number, mw_6, by decide +kernel⟩
theorem mt_468 : (Cond.methodLink "RecordLeavesLaw" (66 : Nat) ({ cls := "RecordLeaves", name := "take", desc := "(III)I" } : MethodName)) ∈ lw_tbl := List.mem_append_right _ (List.mem_append_right _ (List.mem_append_left _ (List.mem_of_getElem? (i := 228) (by decide +kernel))))
theorem mw_468 : (Cond.methodLink "RecordLeavesLaw" (66 : Nat) ({ cls := "RecordLeaves", name := "take", desc := "(III)I" } : MethodName)) ∈ rl_G := rl_inG mt_468 rfl
theorem cs_L_66 : rl_cs RL 66 yX11_take cX11_take 6 (some FieldType.int) 3 := ⟨Or.inl mw_468, co_X11_take, mw_1, by decide +kernel⟩
theorem mt_905 : (Cond.methodLink "RecordLeavesLaw" (69 : Nat) ({ cls := "RecordLeavesModel", name := "take", desc := "(III)I" } : MethodName)) ∈ lw_tbl := List.mem_append_right _ (List.mem_append_right _ (List.mem_append_right _ (List.mem_append_right _ (List.mem_append_left _ (List.mem_of_getElem? (i := 185) (by decide +kernel))))))
theorem mw_905 : (Cond.methodLink "RecordLeavesLaw" (69 : Nat) ({ cls := "RecordLeavesModel", name := "take", desc := "(III)I" } : MethodName)) ∈ rl_G := rl_inG mt_905 rfl
theorem cs_L_69 : rl_cs RL 69 yX12_take cX12_take 5 (some FieldType.int) 3 := ⟨Or.inl mw_905, co_X12_take, mw_6, by decide +kernel⟩
theorem mt_472 : (Cond.methodLink "RecordLeavesLaw" (70 : Nat) ({ cls := "RecordLeaves", name := "like", desc := "(II)I" } : MethodName)) ∈ lw_tbl := List.mem_append_right _ (List.mem_append_right _ (List.mem_append_left _ (List.mem_of_getElem? (i := 232) (by decide +kernel))))
theorem mw_472 : (Cond.methodLink "RecordLeavesLaw" (70 : Nat) ({ cls := "RecordLeaves", name := "like", desc := "(II)I" } : MethodName)) ∈ rl_G := rl_inG mt_472 rfl
theorem cs_L_70 : rl_cs RL 70 yX11_like cX11_like 3 (some FieldType.int) 2 := ⟨Or.inl mw_472, co_X11_like, mw_1, by decide +kernel⟩
theorem mt_909 : (Cond.methodLink "RecordLeavesLaw" (73 : Nat) ({ cls := "RecordLeavesModel", name := "like", desc := "(II)I" } : MethodName)) ∈ lw_tbl := List.mem_append_right _ (List.mem_append_right _ (List.mem_append_right _ (List.mem_append_right _ (List.mem_append_left _ (List.mem_of_getElem? (i := 189) (by decide +kernel))))))
theorem mw_909 : (Cond.methodLink "RecordLeavesLaw" (73 : Nat) ({ cls := "RecordLeavesModel", name := "like", desc := "(II)I" } : MethodName)) ∈ rl_G := rl_inG mt_909 rfl
theorem cs_L_73 : rl_cs RL 73 yX12_like cX12_like 7 (some FieldType.int) 2 := ⟨Or.inl mw_909, co_X12_like, mw_6, by decide +kernel⟩
theorem mt_485 : (Cond.methodLink "RecordLeavesLaw" (74 : Nat) ({ cls := "RecordLeaves", name := "write", desc := "(I)I" } : MethodName)) ∈ lw_tbl := List.mem_append_right _ (List.mem_append_right _ (List.mem_append_right _ (List.mem_append_left _ (List.mem_of_getElem? (i := 5) (by decide +kernel)))))
theorem mw_485 : (Cond.methodLink "RecordLeavesLaw" (74 : Nat) ({ cls := "RecordLeaves", name := "write", desc := "(I)I" } : MethodName)) ∈ rl_G := rl_inG mt_485 rfl
theorem cs_L_74 : rl_cs RL 74 yX11_write cX11_write 4 (some FieldType.int) 1 := ⟨Or.inl mw_485, co_X11_write, mw_1, by decide +kernel⟩
theorem mt_925 : (Cond.methodLink "RecordLeavesLaw" (78 : Nat) ({ cls := "RecordLeavesModel", name := "write", desc := "(I)I" } : MethodName)) ∈ lw_tbl := List.mem_append_right _ (List.mem_append_right _ (List.mem_append_right _ (List.mem_append_right _ (List.mem_append_left _ (List.mem_of_getElem? (i := 205) (by decide +kernel))))))
theorem mw_925 : (Cond.methodLink "RecordLeavesLaw" (78 : Nat) ({ cls := "RecordLeavesModel", name := "write", desc := "(I)I" } : MethodName)) ∈ rl_G := rl_inG mt_925 rfl
theorem cs_L_78 : rl_cs RL 78 yX12_write cX12_write 4 (some FieldType.int) 1 := ⟨Or.inl mw_925, co_X12_write, mw_6, by decide +kernel⟩
theorem mt_522 : (Cond.methodLink "RecordLeavesLaw" (79 : Nat) ({ cls := "RecordLeaves", name := "leaf", desc := "(I)J" } : MethodName)) ∈ lw_tbl := List.mem_append_right _ (List.mem_append_right _ (List.mem_append_right _ (List.mem_append_left _ (List.mem_of_getElem? (i := 42) (by decide +kernel)))))
theorem mw_522 : (Cond.methodLink "RecordLeavesLaw" (79 : Nat) ({ cls := "RecordLeaves", name := "leaf", desc := "(I)J" } : MethodName)) ∈ rl_G := rl_inG mt_522 rfl
theorem cs_L_79 : rl_cs RL 79 yX11_leaf cX11_leaf 2 (some FieldType.long) 1 := ⟨Or.inl mw_522, co_X11_leaf, mw_1, by decide +kernel⟩
theorem mt_942 : (Cond.methodLink "RecordLeavesLaw" (83 : Nat) ({ cls := "RecordLeavesModel", name := "leaf", desc := "(I)J" } : MethodName)) ∈ lw_tbl := List.mem_append_right _ (List.mem_append_right _ (List.mem_append_right _ (List.mem_append_right _ (List.mem_append_left _ (List.mem_of_getElem? (i := 222) (by decide +kernel))))))
theorem mw_942 : (Cond.methodLink "RecordLeavesLaw" (83 : Nat) ({ cls := "RecordLeavesModel", name := "leaf", desc := "(I)J" } : MethodName)) ∈ rl_G := rl_inG mt_942 rfl
theorem cs_L_83 : rl_cs RL 83 yX12_leaf cX12_leaf 3 (some FieldType.long) 1 := ⟨Or.inl mw_942, co_X12_leaf, mw_6, by decide +kernel⟩
theorem mt_526 : (Cond.methodLink "RecordLeavesLaw" (84 : Nat) ({ cls := "RecordLeaves", name := "set", desc := "(IJ)I" } : MethodName)) ∈ lw_tbl := List.mem_append_right _ (List.mem_append_right _ (List.mem_append_right _ (List.mem_append_left _ (List.mem_of_getElem? (i := 46) (by decide +kernel)))))
theorem mw_526 : (Cond.methodLink "RecordLeavesLaw" (84 : Nat) ({ cls := "RecordLeaves", name := "set", desc := "(IJ)I" } : MethodName)) ∈ rl_G := rl_inG mt_526 rfl
theorem cs_L_84 : rl_cs RL 84 yX11_set cX11_set 4 (some FieldType.int) 2 := ⟨Or.inl mw_526, co_X11_set, mw_1, by decide +kernel⟩
theorem mt_946 : (Cond.methodLink "RecordLeavesLaw" (88 : Nat) ({ cls := "RecordLeavesModel", name := "set", desc := "(IJ)I" } : MethodName)) ∈ lw_tbl := List.mem_append_right _ (List.mem_append_right _ (List.mem_append_right _ (List.mem_append_right _ (List.mem_append_left _ (List.mem_of_getElem? (i := 226) (by decide +kernel))))))
theorem mw_946 : (Cond.methodLink "RecordLeavesLaw" (88 : Nat) ({ cls := "RecordLeavesModel", name := "set", desc := "(IJ)I" } : MethodName)) ∈ rl_G := rl_inG mt_946 rfl
theorem cs_L_88 : rl_cs RL 88 yX12_set cX12_set 4 (some FieldType.int) 2 := ⟨Or.inl mw_946, co_X12_set, mw_6, by decide +kernel⟩
theorem mt_531 : (Cond.methodLink "RecordLeavesLaw" (89 : Nat) ({ cls := "RecordLeaves", name := "cut", desc := "(I)I" } : MethodName)) ∈ lw_tbl := List.mem_append_right _ (List.mem_append_right _ (List.mem_append_right _ (List.mem_append_left _ (List.mem_of_getElem? (i := 51) (by decide +kernel)))))
theorem mw_531 : (Cond.methodLink "RecordLeavesLaw" (89 : Nat) ({ cls := "RecordLeaves", name := "cut", desc := "(I)I" } : MethodName)) ∈ rl_G := rl_inG mt_531 rfl
theorem cs_L_89 : rl_cs RL 89 yX11_cut cX11_cut 3 (some FieldType.int) 1 := ⟨Or.inl mw_531, co_X11_cut, mw_1, by decide +kernel⟩
theorem mt_950 : (Cond.methodLink "RecordLeavesLaw" (92 : Nat) ({ cls := "RecordLeavesModel", name := "cut", desc := "(I)I" } : MethodName)) ∈ lw_tbl := List.mem_append_right _ (List.mem_append_right _ (List.mem_append_right _ (List.mem_append_right _ (List.mem_append_left _ (List.mem_of_getElem? (i := 230) (by decide +kernel))))))
theorem mw_950 : (Cond.methodLink "RecordLeavesLaw" (92 : Nat) ({ cls := "RecordLeavesModel", name := "cut", desc := "(I)I" } : MethodName)) ∈ rl_G := rl_inG mt_950 rfl
theorem cs_L_92 : rl_cs RL 92 yX12_cut cX12_cut 3 (some FieldType.int) 1 := ⟨Or.inl mw_950, co_X12_cut, mw_6, by decide +kernel⟩
theorem mt_535 : (Cond.methodLink "RecordLeavesLaw" (93 : Nat) ({ cls := "RecordLeaves", name := "read", desc := "(II)I" } : MethodName)) ∈ lw_tbl := List.mem_append_right _ (List.mem_append_right _ (List.mem_append_right _ (List.mem_append_left _ (List.mem_of_getElem? (i := 55) (by decide +kernel)))))
theorem mw_535 : (Cond.methodLink "RecordLeavesLaw" (93 : Nat) ({ cls := "RecordLeaves", name := "read", desc := "(II)I" } : MethodName)) ∈ rl_G := rl_inG mt_535 rfl
theorem cs_L_93 : rl_cs RL 93 yX11_read cX11_read 5 (some FieldType.int) 2 := ⟨Or.inl mw_535, co_X11_read, mw_1, by decide +kernel⟩
theorem mt_954 : (Cond.methodLink "RecordLeavesLaw" (96 : Nat) ({ cls := "RecordLeavesModel", name := "read", desc := "(II)I" } : MethodName)) ∈ lw_tbl := List.mem_append_right _ (List.mem_append_right _ (List.mem_append_right _ (List.mem_append_right _ (List.mem_append_left _ (List.mem_of_getElem? (i := 234) (by decide +kernel))))))
theorem mw_954 : (Cond.methodLink "RecordLeavesLaw" (96 : Nat) ({ cls := "RecordLeavesModel", name := "read", desc := "(II)I" } : MethodName)) ∈ rl_G := rl_inG mt_954 rfl
theorem cs_L_96 : rl_cs RL 96 yX12_read cX12_read 6 (some FieldType.int) 2 := ⟨Or.inl mw_954, co_X12_read, mw_6, by decide +kernel⟩
theorem mt_624 : (Cond.methodLink "RecordLeavesLaw" (97 : Nat) ({ cls := "RecordLeaves", name := "cause", desc := "(I)I" } : MethodName)) ∈ lw_tbl := List.mem_append_right _ (List.mem_append_right _ (List.mem_append_right _ (List.mem_append_left _ (List.mem_of_getElem? (i := 144) (by decide +kernel)))))
theorem mw_624 : (Cond.methodLink "RecordLeavesLaw" (97 : Nat) ({ cls := "RecordLeaves", name := "cause", desc := "(I)I" } : MethodName)) ∈ rl_G := rl_inG mt_624 rfl
theorem cs_L_97 : rl_cs RL 97 yX11_cause cX11_cause 2 (some FieldType.int) 1 := ⟨Or.inl mw_624, co_X11_cause, mw_1, by decide +kernel⟩
theorem mt_982 : (Cond.methodLink "RecordLeavesLaw" (100 : Nat) ({ cls := "RecordLeavesModel", name := "cause", desc := "(I)I" } : MethodName)) ∈ lw_tbl := List.mem_append_right _ (List.mem_append_right _ (List.mem_append_right _ (List.mem_append_right _ (List.mem_append_right _ (List.mem_of_getElem? (i := 22) (by decide +kernel))))))
theorem mw_982 : (Cond.methodLink "RecordLeavesLaw" (100 : Nat) ({ cls := "RecordLeavesModel", name := "cause", desc := "(I)I" } : MethodName)) ∈ rl_G := rl_inG mt_982 rfl
theorem cs_L_100 : rl_cs RL 100 yX12_cause cX12_cause 2 (some FieldType.int) 1 := ⟨Or.inl mw_982, co_X12_cause, mw_6, by decide +kernel⟩
theorem mt_628 : (Cond.methodLink "RecordLeavesLaw" (101 : Nat) ({ cls := "RecordLeaves", name := "status", desc := "()I" } : MethodName)) ∈ lw_tbl := List.mem_append_right _ (List.mem_append_right _ (List.mem_append_right _ (List.mem_append_left _ (List.mem_of_getElem? (i := 148) (by decide +kernel)))))
theorem mw_628 : (Cond.methodLink "RecordLeavesLaw" (101 : Nat) ({ cls := "RecordLeaves", name := "status", desc := "()I" } : MethodName)) ∈ rl_G := rl_inG mt_628 rfl
theorem cs_L_101 : rl_cs RL 101 yX11_status cX11_status 1 (some FieldType.int) 0 := ⟨Or.inl mw_628, co_X11_status, mw_1, by decide +kernel⟩
theorem mt_986 : (Cond.methodLink "RecordLeavesLaw" (105 : Nat) ({ cls := "RecordLeavesModel", name := "status", desc := "()I" } : MethodName)) ∈ lw_tbl := List.mem_append_right _ (List.mem_append_right _ (List.mem_append_right _ (List.mem_append_right _ (List.mem_append_right _ (List.mem_of_getElem? (i := 26) (by decide +kernel))))))
theorem mw_986 : (Cond.methodLink "RecordLeavesLaw" (105 : Nat) ({ cls := "RecordLeavesModel", name := "status", desc := "()I" } : MethodName)) ∈ rl_G := rl_inG mt_986 rfl
theorem cs_L_105 : rl_cs RL 105 yX12_status cX12_status 1 (some FieldType.int) 0 := ⟨Or.inl mw_986, co_X12_status, mw_6, by decide +kernel⟩
theorem mt_632 : (Cond.methodLink "RecordLeavesLaw" (106 : Nat) ({ cls := "RecordLeaves", name := "count", desc := "(I)I" } : MethodName)) ∈ lw_tbl := List.mem_append_right _ (List.mem_append_right _ (List.mem_append_right _ (List.mem_append_left _ (List.mem_of_getElem? (i := 152) (by decide +kernel)))))
theorem mw_632 : (Cond.methodLink "RecordLeavesLaw" (106 : Nat) ({ cls := "RecordLeaves", name := "count", desc := "(I)I" } : MethodName)) ∈ rl_G := rl_inG mt_632 rfl
theorem cs_L_106 : rl_cs RL 106 yX11_count cX11_count 2 (some FieldType.int) 1 := ⟨Or.inl mw_632, co_X11_count, mw_1, by decide +kernel⟩
theorem mt_990 : (Cond.methodLink "RecordLeavesLaw" (109 : Nat) ({ cls := "RecordLeavesModel", name := "count", desc := "(I)I" } : MethodName)) ∈ lw_tbl := List.mem_append_right _ (List.mem_append_right _ (List.mem_append_right _ (List.mem_append_right _ (List.mem_append_right _ (List.mem_of_getElem? (i := 30) (by decide +kernel))))))
theorem mw_990 : (Cond.methodLink "RecordLeavesLaw" (109 : Nat) ({ cls := "RecordLeavesModel", name := "count", desc := "(I)I" } : MethodName)) ∈ rl_G := rl_inG mt_990 rfl
theorem cs_L_109 : rl_cs RL 109 yX12_count cX12_count 4 (some FieldType.int) 1 := ⟨Or.inl mw_990, co_X12_count, mw_6, by decide +kernel⟩
theorem mt_645 : (Cond.methodLink "RecordLeavesModel" (1 : Nat) ({ cls := "java/lang/Object", name := "<init>", desc := "()V" } : MethodName)) ∈ lw_tbl := List.mem_append_right _ (List.mem_append_right _ (List.mem_append_right _ (List.mem_append_left _ (List.mem_of_getElem? (i := 165) (by decide +kernel)))))
theorem mw_645 : (Cond.methodLink "RecordLeavesModel" (1 : Nat) ({ cls := "java/lang/Object", name := "<init>", desc := "()V" } : MethodName)) ∈ rl_G := rl_inG mt_645 rfl
theorem mt_802 : (Cond.methodLink "RecordLeavesModel" (117 : Nat) ({ cls := "RecordLeavesModel", name := "in", desc := "(JJJ)Z" } : MethodName)) ∈ lw_tbl := List.mem_append_right _ (List.mem_append_right _ (List.mem_append_right _ (List.mem_append_right _ (List.mem_append_left _ (List.mem_of_getElem? (i := 82) (by decide +kernel))))))
theorem mw_802 : (Cond.methodLink "RecordLeavesModel" (117 : Nat) ({ cls := "RecordLeavesModel", name := "in", desc := "(JJJ)Z" } : MethodName)) ∈ rl_G := rl_inG mt_802 rfl
theorem cs_X12_117 : rl_cs RX12 117 yX12_in cX12_in 6 (some FieldType.boolean) 3 := ⟨Or.inl mw_802, co_X12_in, mw_6, by decide +kernel⟩
theorem mt_805 : (Cond.methodLink "RecordLeavesModel" (125 : Nat) ({ cls := "RecordLeavesModel", name := "isVersion", desc := "(I)Z" } : MethodName)) ∈ lw_tbl := List.mem_append_right _ (List.mem_append_right _ (List.mem_append_right _ (List.mem_append_right _ (List.mem_append_left _ (List.mem_of_getElem? (i := 85) (by decide +kernel))))))
theorem mw_805 : (Cond.methodLink "RecordLeavesModel" (125 : Nat) ({ cls := "RecordLeavesModel", name := "isVersion", desc := "(I)Z" } : MethodName)) ∈ rl_G := rl_inG mt_805 rfl
theorem cs_X12_125 : rl_cs RX12 125 yX12_isVersion cX12_isVersion 1 (some FieldType.boolean) 1 := ⟨Or.inl mw_805, co_X12_isVersion, mw_6, by decide +kernel⟩
theorem mt_810 : (Cond.methodLink "RecordLeavesModel" (129 : Nat) ({ cls := "RecordLeavesModel", name := "constantBy", desc := "(IIJ)I" } : MethodName)) ∈ lw_tbl := List.mem_append_right _ (List.mem_append_right _ (List.mem_append_right _ (List.mem_append_right _ (List.mem_append_left _ (List.mem_of_getElem? (i := 90) (by decide +kernel))))))
theorem mw_810 : (Cond.methodLink "RecordLeavesModel" (129 : Nat) ({ cls := "RecordLeavesModel", name := "constantBy", desc := "(IIJ)I" } : MethodName)) ∈ rl_G := rl_inG mt_810 rfl
theorem cs_X12_129 : rl_cs RX12 129 yX12_constantBy cX12_constantBy 7 (some FieldType.int) 3 := ⟨Or.inl mw_810, co_X12_constantBy, mw_6, by decide +kernel⟩
theorem mt_818 : (Cond.methodLink "RecordLeavesModel" (133 : Nat) ({ cls := "RecordLeavesModel", name := "isRecordKind", desc := "(J)Z" } : MethodName)) ∈ lw_tbl := List.mem_append_right _ (List.mem_append_right _ (List.mem_append_right _ (List.mem_append_right _ (List.mem_append_left _ (List.mem_of_getElem? (i := 98) (by decide +kernel))))))
theorem mw_818 : (Cond.methodLink "RecordLeavesModel" (133 : Nat) ({ cls := "RecordLeavesModel", name := "isRecordKind", desc := "(J)Z" } : MethodName)) ∈ rl_G := rl_inG mt_818 rfl
theorem cs_X12_133 : rl_cs RX12 133 yX12_isRecordKind cX12_isRecordKind 2 (some FieldType.boolean) 1 := ⟨Or.inl mw_818, co_X12_isRecordKind, mw_6, by decide +kernel⟩
theorem mt_823 : (Cond.methodLink "RecordLeavesModel" (139 : Nat) ({ cls := "RecordLeavesModel", name := "partBy", desc := "(IJ)I" } : MethodName)) ∈ lw_tbl := List.mem_append_right _ (List.mem_append_right _ (List.mem_append_right _ (List.mem_append_right _ (List.mem_append_left _ (List.mem_of_getElem? (i := 103) (by decide +kernel))))))
theorem mw_823 : (Cond.methodLink "RecordLeavesModel" (139 : Nat) ({ cls := "RecordLeavesModel", name := "partBy", desc := "(IJ)I" } : MethodName)) ∈ rl_G := rl_inG mt_823 rfl
theorem cs_X12_139 : rl_cs RX12 139 yX12_partBy cX12_partBy 5 (some FieldType.int) 2 := ⟨Or.inl mw_823, co_X12_partBy, mw_6, by decide +kernel⟩
theorem mt_831 : (Cond.methodLink "RecordLeavesModel" (143 : Nat) ({ cls := "RecordLeavesModel", name := "isSort", desc := "(III)Z" } : MethodName)) ∈ lw_tbl := List.mem_append_right _ (List.mem_append_right _ (List.mem_append_right _ (List.mem_append_right _ (List.mem_append_left _ (List.mem_of_getElem? (i := 111) (by decide +kernel))))))
theorem mw_831 : (Cond.methodLink "RecordLeavesModel" (143 : Nat) ({ cls := "RecordLeavesModel", name := "isSort", desc := "(III)Z" } : MethodName)) ∈ rl_G := rl_inG mt_831 rfl
theorem cs_X12_143 : rl_cs RX12 143 yX12_isSort cX12_isSort 4 (some FieldType.boolean) 3 := ⟨Or.inl mw_831, co_X12_isSort, mw_6, by decide +kernel⟩
theorem mt_839 : (Cond.methodLink "RecordLeavesModel" (148 : Nat) ({ cls := "RecordLeavesModel", name := "isPlace", desc := "(I)Z" } : MethodName)) ∈ lw_tbl := List.mem_append_right _ (List.mem_append_right _ (List.mem_append_right _ (List.mem_append_right _ (List.mem_append_left _ (List.mem_of_getElem? (i := 119) (by decide +kernel))))))
theorem mw_839 : (Cond.methodLink "RecordLeavesModel" (148 : Nat) ({ cls := "RecordLeavesModel", name := "isPlace", desc := "(I)Z" } : MethodName)) ∈ rl_G := rl_inG mt_839 rfl
theorem cs_X12_148 : rl_cs RX12 148 yX12_isPlace cX12_isPlace 1 (some FieldType.boolean) 1 := ⟨Or.inl mw_839, co_X12_isPlace, mw_6, by decide +kernel⟩
theorem mt_847 : (Cond.methodLink "RecordLeavesModel" (156 : Nat) ({ cls := "RecordLeavesModel", name := "newRow", desc := "(I)I" } : MethodName)) ∈ lw_tbl := List.mem_append_right _ (List.mem_append_right _ (List.mem_append_right _ (List.mem_append_right _ (List.mem_append_left _ (List.mem_of_getElem? (i := 127) (by decide +kernel))))))
theorem mw_847 : (Cond.methodLink "RecordLeavesModel" (156 : Nat) ({ cls := "RecordLeavesModel", name := "newRow", desc := "(I)I" } : MethodName)) ∈ rl_G := rl_inG mt_847 rfl
theorem cs_X12_156 : rl_cs RX12 156 yX12_newRow cX12_newRow 3 (some FieldType.int) 1 := ⟨Or.inl mw_847, co_X12_newRow, mw_6, by decide +kernel⟩
theorem mt_855 : (Cond.methodLink "RecordLeavesModel" (160 : Nat) ({ cls := "RecordLeavesModel", name := "familyOf", desc := "(I)I" } : MethodName)) ∈ lw_tbl := List.mem_append_right _ (List.mem_append_right _ (List.mem_append_right _ (List.mem_append_right _ (List.mem_append_left _ (List.mem_of_getElem? (i := 135) (by decide +kernel))))))
theorem mw_855 : (Cond.methodLink "RecordLeavesModel" (160 : Nat) ({ cls := "RecordLeavesModel", name := "familyOf", desc := "(I)I" } : MethodName)) ∈ rl_G := rl_inG mt_855 rfl
theorem cs_X12_160 : rl_cs RX12 160 yX12_familyOf cX12_familyOf 2 (some FieldType.int) 1 := ⟨Or.inl mw_855, co_X12_familyOf, mw_6, by decide +kernel⟩
theorem mt_876 : (Cond.methodLink "RecordLeavesModel" (169 : Nat) ({ cls := "RecordLeavesModel", name := "taken", desc := "(IIJI)I" } : MethodName)) ∈ lw_tbl := List.mem_append_right _ (List.mem_append_right _ (List.mem_append_right _ (List.mem_append_right _ (List.mem_append_left _ (List.mem_of_getElem? (i := 156) (by decide +kernel))))))
theorem mw_876 : (Cond.methodLink "RecordLeavesModel" (169 : Nat) ({ cls := "RecordLeavesModel", name := "taken", desc := "(IIJI)I" } : MethodName)) ∈ rl_G := rl_inG mt_876 rfl
theorem cs_X12_169 : rl_cs RX12 169 yX12_taken cX12_taken 10 (some FieldType.int) 4 := ⟨Or.inl mw_876, co_X12_taken, mw_6, by decide +kernel⟩
theorem mt_882 : (Cond.methodLink "RecordLeavesModel" (173 : Nat) ({ cls := "RecordLeavesModel", name := "checked", desc := "(IJIJ)I" } : MethodName)) ∈ lw_tbl := List.mem_append_right _ (List.mem_append_right _ (List.mem_append_right _ (List.mem_append_right _ (List.mem_append_left _ (List.mem_of_getElem? (i := 162) (by decide +kernel))))))
theorem mw_882 : (Cond.methodLink "RecordLeavesModel" (173 : Nat) ({ cls := "RecordLeavesModel", name := "checked", desc := "(IJIJ)I" } : MethodName)) ∈ rl_G := rl_inG mt_882 rfl
theorem cs_X12_173 : rl_cs RX12 173 yX12_checked cX12_checked 8 (some FieldType.int) 4 := ⟨Or.inl mw_882, co_X12_checked, mw_6, by decide +kernel⟩
theorem mt_872 : (Cond.methodLink "RecordLeavesModel" (183 : Nat) ({ cls := "RecordLeavesModel", name := "record", desc := "(II)I" } : MethodName)) ∈ lw_tbl := List.mem_append_right _ (List.mem_append_right _ (List.mem_append_right _ (List.mem_append_right _ (List.mem_append_left _ (List.mem_of_getElem? (i := 152) (by decide +kernel))))))
theorem mw_872 : (Cond.methodLink "RecordLeavesModel" (183 : Nat) ({ cls := "RecordLeavesModel", name := "record", desc := "(II)I" } : MethodName)) ∈ rl_G := rl_inG mt_872 rfl
theorem cs_X12_183 : rl_cs RX12 183 yX12_record cX12_record 7 (some FieldType.int) 2 := ⟨Or.inl mw_872, co_X12_record, mw_6, by decide +kernel⟩
theorem mt_896 : (Cond.methodLink "RecordLeavesModel" (195 : Nat) ({ cls := "RecordLeavesModel", name := "partAt", desc := "(II)I" } : MethodName)) ∈ lw_tbl := List.mem_append_right _ (List.mem_append_right _ (List.mem_append_right _ (List.mem_append_right _ (List.mem_append_left _ (List.mem_of_getElem? (i := 176) (by decide +kernel))))))
theorem mw_896 : (Cond.methodLink "RecordLeavesModel" (195 : Nat) ({ cls := "RecordLeavesModel", name := "partAt", desc := "(II)I" } : MethodName)) ∈ rl_G := rl_inG mt_896 rfl
theorem cs_X12_195 : rl_cs RX12 195 yX12_partAt cX12_partAt 4 (some FieldType.int) 2 := ⟨Or.inl mw_896, co_X12_partAt, mw_6, by decide +kernel⟩
theorem mt_900 : (Cond.methodLink "RecordLeavesModel" (201 : Nat) ({ cls := "RecordLeavesModel", name := "isNumber", desc := "(I)Z" } : MethodName)) ∈ lw_tbl := List.mem_append_right _ (List.mem_append_right _ (List.mem_append_right _ (List.mem_append_right _ (List.mem_append_left _ (List.mem_of_getElem? (i := 180) (by decide +kernel))))))
theorem mw_900 : (Cond.methodLink "RecordLeavesModel" (201 : Nat) ({ cls := "RecordLeavesModel", name := "isNumber", desc := "(I)Z" } : MethodName)) ∈ rl_G := rl_inG mt_900 rfl
theorem cs_X12_201 : rl_cs RX12 201 yX12_isNumber cX12_isNumber 2 (some FieldType.boolean) 1 := ⟨Or.inl mw_900, co_X12_isNumber, mw_6, by decide +kernel⟩
theorem mt_913 : (Cond.methodLink "RecordLeavesModel" (209 : Nat) ({ cls := "RecordLeavesModel", name := "pair", desc := "(III)V" } : MethodName)) ∈ lw_tbl := List.mem_append_right _ (List.mem_append_right _ (List.mem_append_right _ (List.mem_append_right _ (List.mem_append_left _ (List.mem_of_getElem? (i := 193) (by decide +kernel))))))
theorem mw_913 : (Cond.methodLink "RecordLeavesModel" (209 : Nat) ({ cls := "RecordLeavesModel", name := "pair", desc := "(III)V" } : MethodName)) ∈ rl_G := rl_inG mt_913 rfl
theorem cs_X12_209 : rl_cs RX12 209 yX12_pair cX12_pair 4 none 3 := ⟨Or.inl mw_913, co_X12_pair, mw_6, by decide +kernel⟩
theorem mt_917 : (Cond.methodLink "RecordLeavesModel" (213 : Nat) ({ cls := "RecordLeavesModel", name := "rowsLike", desc := "(II)Z" } : MethodName)) ∈ lw_tbl := List.mem_append_right _ (List.mem_append_right _ (List.mem_append_right _ (List.mem_append_right _ (List.mem_append_left _ (List.mem_of_getElem? (i := 197) (by decide +kernel))))))
theorem mw_917 : (Cond.methodLink "RecordLeavesModel" (213 : Nat) ({ cls := "RecordLeavesModel", name := "rowsLike", desc := "(II)Z" } : MethodName)) ∈ rl_G := rl_inG mt_917 rfl
theorem cs_X12_213 : rl_cs RX12 213 yX12_rowsLike cX12_rowsLike 5 (some FieldType.boolean) 2 := ⟨Or.inl mw_917, co_X12_rowsLike, mw_6, by decide +kernel⟩
theorem mt_921 : (Cond.methodLink "RecordLeavesModel" (217 : Nat) ({ cls := "RecordLeavesModel", name := "opens", desc := "(III)Z" } : MethodName)) ∈ lw_tbl := List.mem_append_right _ (List.mem_append_right _ (List.mem_append_right _ (List.mem_append_right _ (List.mem_append_left _ (List.mem_of_getElem? (i := 201) (by decide +kernel))))))
theorem mw_921 : (Cond.methodLink "RecordLeavesModel" (217 : Nat) ({ cls := "RecordLeavesModel", name := "opens", desc := "(III)Z" } : MethodName)) ∈ rl_G := rl_inG mt_921 rfl
theorem cs_X12_217 : rl_cs RX12 217 yX12_opens cX12_opens 6 (some FieldType.boolean) 3 := ⟨Or.inl mw_921, co_X12_opens, mw_6, by decide +kernel⟩
theorem mt_933 : (Cond.methodLink "RecordLeavesModel" (223 : Nat) ({ cls := "RecordLeavesModel", name := "put", desc := "(J)V" } : MethodName)) ∈ lw_tbl := List.mem_append_right _ (List.mem_append_right _ (List.mem_append_right _ (List.mem_append_right _ (List.mem_append_left _ (List.mem_of_getElem? (i := 213) (by decide +kernel))))))
theorem mw_933 : (Cond.methodLink "RecordLeavesModel" (223 : Nat) ({ cls := "RecordLeavesModel", name := "put", desc := "(J)V" } : MethodName)) ∈ rl_G := rl_inG mt_933 rfl
theorem cs_X12_223 : rl_cs RX12 223 yX12_put cX12_put 3 none 1 := ⟨Or.inl mw_933, co_X12_put, mw_6, by decide +kernel⟩
theorem mt_929 : (Cond.methodLink "RecordLeavesModel" (229 : Nat) ({ cls := "RecordLeavesModel", name := "begins", desc := "(II)I" } : MethodName)) ∈ lw_tbl := List.mem_append_right _ (List.mem_append_right _ (List.mem_append_right _ (List.mem_append_right _ (List.mem_append_left _ (List.mem_of_getElem? (i := 209) (by decide +kernel))))))
theorem mw_929 : (Cond.methodLink "RecordLeavesModel" (229 : Nat) ({ cls := "RecordLeavesModel", name := "begins", desc := "(II)I" } : MethodName)) ∈ rl_G := rl_inG mt_929 rfl
theorem cs_X12_229 : rl_cs RX12 229 yX12_begins cX12_begins 3 (some FieldType.int) 2 := ⟨Or.inl mw_929, co_X12_begins, mw_6, by decide +kernel⟩
theorem mt_937 : (Cond.methodLink "RecordLeavesModel" (232 : Nat) ({ cls := "RecordLeavesModel", name := "writePart", desc := "(I)I" } : MethodName)) ∈ lw_tbl := List.mem_append_right _ (List.mem_append_right _ (List.mem_append_right _ (List.mem_append_right _ (List.mem_append_left _ (List.mem_of_getElem? (i := 217) (by decide +kernel))))))
theorem mw_937 : (Cond.methodLink "RecordLeavesModel" (232 : Nat) ({ cls := "RecordLeavesModel", name := "writePart", desc := "(I)I" } : MethodName)) ∈ rl_G := rl_inG mt_937 rfl
theorem cs_X12_232 : rl_cs RX12 232 yX12_writePart cX12_writePart 7 (some FieldType.int) 1 := ⟨Or.inl mw_937, co_X12_writePart, mw_6, by decide +kernel⟩
theorem mt_962 : (Cond.methodLink "RecordLeavesModel" (247 : Nat) ({ cls := "RecordLeavesModel", name := "fails", desc := "(I)V" } : MethodName)) ∈ lw_tbl := List.mem_append_right _ (List.mem_append_right _ (List.mem_append_right _ (List.mem_append_right _ (List.mem_append_right _ (List.mem_of_getElem? (i := 2) (by decide +kernel))))))
theorem mw_962 : (Cond.methodLink "RecordLeavesModel" (247 : Nat) ({ cls := "RecordLeavesModel", name := "fails", desc := "(I)V" } : MethodName)) ∈ rl_G := rl_inG mt_962 rfl
theorem cs_X12_247 : rl_cs RX12 247 yX12_fails cX12_fails 2 none 1 := ⟨Or.inl mw_962, co_X12_fails, mw_6, by decide +kernel⟩
theorem mt_966 : (Cond.methodLink "RecordLeavesModel" (254 : Nat) ({ cls := "RecordLeavesModel", name := "want", desc := "()J" } : MethodName)) ∈ lw_tbl := List.mem_append_right _ (List.mem_append_right _ (List.mem_append_right _ (List.mem_append_right _ (List.mem_append_right _ (List.mem_of_getElem? (i := 6) (by decide +kernel))))))
theorem mw_966 : (Cond.methodLink "RecordLeavesModel" (254 : Nat) ({ cls := "RecordLeavesModel", name := "want", desc := "()J" } : MethodName)) ∈ rl_G := rl_inG mt_966 rfl
theorem cs_X12_254 : rl_cs RX12 254 yX12_want cX12_want 1 (some FieldType.long) 0 := ⟨Or.inl mw_966, co_X12_want, mw_6, by decide +kernel⟩
theorem mt_974 : (Cond.methodLink "RecordLeavesModel" (261 : Nat) ({ cls := "RecordLeavesModel", name := "readRow", desc := "(Z)I" } : MethodName)) ∈ lw_tbl := List.mem_append_right _ (List.mem_append_right _ (List.mem_append_right _ (List.mem_append_right _ (List.mem_append_right _ (List.mem_of_getElem? (i := 14) (by decide +kernel))))))
theorem mw_974 : (Cond.methodLink "RecordLeavesModel" (261 : Nat) ({ cls := "RecordLeavesModel", name := "readRow", desc := "(Z)I" } : MethodName)) ∈ rl_G := rl_inG mt_974 rfl
theorem cs_X12_261 : rl_cs RX12 261 yX12_readRow cX12_readRow 7 (some FieldType.int) 1 := ⟨Or.inl mw_974, co_X12_readRow, mw_6, by decide +kernel⟩
theorem mt_958 : (Cond.methodLink "RecordLeavesModel" (265 : Nat) ({ cls := "RecordLeavesModel", name := "beginRecord", desc := "(Z)V" } : MethodName)) ∈ lw_tbl := List.mem_append_right _ (List.mem_append_right _ (List.mem_append_right _ (List.mem_append_right _ (List.mem_append_left _ (List.mem_of_getElem? (i := 238) (by decide +kernel))))))
theorem mw_958 : (Cond.methodLink "RecordLeavesModel" (265 : Nat) ({ cls := "RecordLeavesModel", name := "beginRecord", desc := "(Z)V" } : MethodName)) ∈ rl_G := rl_inG mt_958 rfl
theorem cs_X12_265 : rl_cs RX12 265 yX12_beginRecord cX12_beginRecord 7 none 1 := ⟨Or.inl mw_958, co_X12_beginRecord, mw_6, by decide +kernel⟩
theorem mt_970 : (Cond.methodLink "RecordLeavesModel" (269 : Nat) ({ cls := "RecordLeavesModel", name := "readPart", desc := "()V" } : MethodName)) ∈ lw_tbl := List.mem_append_right _ (List.mem_append_right _ (List.mem_append_right _ (List.mem_append_right _ (List.mem_append_right _ (List.mem_of_getElem? (i := 10) (by decide +kernel))))))
theorem mw_970 : (Cond.methodLink "RecordLeavesModel" (269 : Nat) ({ cls := "RecordLeavesModel", name := "readPart", desc := "()V" } : MethodName)) ∈ rl_G := rl_inG mt_970 rfl
theorem cs_X12_269 : rl_cs RX12 269 yX12_readPart cX12_readPart 12 none 0 := ⟨Or.inl mw_970, co_X12_readPart, mw_6, by decide +kernel⟩
theorem mt_978 : (Cond.methodLink "RecordLeavesModel" (272 : Nat) ({ cls := "RecordLeavesModel", name := "endRecord", desc := "()I" } : MethodName)) ∈ lw_tbl := List.mem_append_right _ (List.mem_append_right _ (List.mem_append_right _ (List.mem_append_right _ (List.mem_append_right _ (List.mem_of_getElem? (i := 18) (by decide +kernel))))))
theorem mw_978 : (Cond.methodLink "RecordLeavesModel" (272 : Nat) ({ cls := "RecordLeavesModel", name := "endRecord", desc := "()I" } : MethodName)) ∈ rl_G := rl_inG mt_978 rfl
theorem cs_X12_272 : rl_cs RX12 272 yX12_endRecord cX12_endRecord 2 (some FieldType.int) 0 := ⟨Or.inl mw_978, co_X12_endRecord, mw_6, by decide +kernel⟩
theorem mt_0 : (Cond.initialized "RecordLeavesLaw") ∈ lw_tbl := List.mem_append_right _ (List.mem_append_left _ (List.mem_of_getElem? (i := 0) (by decide +kernel)))
theorem mw_0 : (Cond.initialized "RecordLeavesLaw") ∈ rl_G := rl_inG mt_0 rfl
theorem mt_12 : (Cond.initialized "java/lang/Math") ∈ lw_tbl := List.mem_append_right _ (List.mem_append_left _ (List.mem_of_getElem? (i := 12) (by decide +kernel)))
theorem mw_12 : (Cond.initialized "java/lang/Math") ∈ rl_G := rl_inG mt_12 rfl
theorem mt_14 : (Cond.initialized "java/lang/System") ∈ lw_tbl := List.mem_append_right _ (List.mem_append_left _ (List.mem_of_getElem? (i := 14) (by decide +kernel)))
theorem mw_14 : (Cond.initialized "java/lang/System") ∈ rl_G := rl_inG mt_14 rfl
theorem mt_22 : (Cond.instanceMethod ({ cls := "java/lang/Object", name := "<init>", desc := "()V" } : MethodName)) ∈ lw_tbl := List.mem_append_right _ (List.mem_append_left _ (List.mem_of_getElem? (i := 22) (by decide +kernel)))
theorem mw_22 : (Cond.instanceMethod ({ cls := "java/lang/Object", name := "<init>", desc := "()V" } : MethodName)) ∈ rl_G := rl_inG mt_22 rfl
theorem mt_23 : (Cond.code ({ cls := "java/lang/Object", name := "<init>", desc := "()V" } : MethodName) object_method_1_code (1 : Nat) (Option.none : Option FieldType)) ∈ lw_tbl := List.mem_append_right _ (List.mem_append_left _ (List.mem_of_getElem? (i := 23) (rfl)))
theorem mw_23 : (Cond.code ({ cls := "java/lang/Object", name := "<init>", desc := "()V" } : MethodName) object_method_1_code (1 : Nat) (Option.none : Option FieldType)) ∈ rl_G := rl_inG mt_23 rfl
theorem mt_31 : (Cond.arrayOver (FieldType.object "RecordLeaves$EnumVersion")) ∈ lw_tbl := List.mem_append_right _ (List.mem_append_left _ (List.mem_of_getElem? (i := 31) (by decide +kernel)))
theorem mt_38 : (Cond.arrayOver (FieldType.object "RecordLeaves$Constant")) ∈ lw_tbl := List.mem_append_right _ (List.mem_append_left _ (List.mem_of_getElem? (i := 38) (by decide +kernel)))
theorem mt_55 : (Cond.arrayOver (FieldType.object "RecordLeaves$RecordVersion")) ∈ lw_tbl := List.mem_append_right _ (List.mem_append_left _ (List.mem_of_getElem? (i := 55) (by decide +kernel)))
theorem mt_62 : (Cond.arrayOver (FieldType.object "RecordLeaves$Part")) ∈ lw_tbl := List.mem_append_right _ (List.mem_append_left _ (List.mem_of_getElem? (i := 62) (by decide +kernel)))
theorem mt_64 : (Cond.arrayOver (FieldType.object "RecordLeaves$Check")) ∈ lw_tbl := List.mem_append_right _ (List.mem_append_left _ (List.mem_of_getElem? (i := 64) (by decide +kernel)))
theorem mt_98 : (Cond.arrayOver (FieldType.object "RecordLeaves$Thing")) ∈ lw_tbl := List.mem_append_right _ (List.mem_append_left _ (List.mem_of_getElem? (i := 98) (by decide +kernel)))
theorem mt_122 : (Cond.arrayClass FieldType.long) ∈ lw_tbl := List.mem_append_right _ (List.mem_append_left _ (List.mem_of_getElem? (i := 122) (by decide +kernel)))
theorem mw_122 : (Cond.arrayClass FieldType.long) ∈ rl_G := rl_inG mt_122 rfl
theorem mt_123 : (Cond.arrayClass FieldType.int) ∈ lw_tbl := List.mem_append_right _ (List.mem_append_left _ (List.mem_of_getElem? (i := 123) (by decide +kernel)))
theorem mw_123 : (Cond.arrayClass FieldType.int) ∈ rl_G := rl_inG mt_123 rfl
theorem mt_214 : (Cond.constantLong "RecordLeaves$Kinds" (31 : Nat) (2 : Int64)) ∈ lw_tbl := List.mem_append_right _ (List.mem_append_left _ (List.mem_of_getElem? (i := 214) (by decide +kernel)))
theorem mw_214 : (Cond.constantLong "RecordLeaves$Kinds" (31 : Nat) (2 : Int64)) ∈ rl_G := rl_inG mt_214 rfl
theorem mt_215 : (Cond.constantLong "RecordLeaves$Kinds" (33 : Nat) (6 : Int64)) ∈ lw_tbl := List.mem_append_right _ (List.mem_append_left _ (List.mem_of_getElem? (i := 215) (by decide +kernel)))
theorem mw_215 : (Cond.constantLong "RecordLeaves$Kinds" (33 : Nat) (6 : Int64)) ∈ rl_G := rl_inG mt_215 rfl
theorem mt_297 : (Cond.static ({ cls := "java/lang/Math", name := "max", desc := "(II)I" } : MethodName)) ∈ lw_tbl := List.mem_append_right _ (List.mem_append_right _ (List.mem_append_left _ (List.mem_of_getElem? (i := 57) (by decide +kernel))))
theorem mw_297 : (Cond.static ({ cls := "java/lang/Math", name := "max", desc := "(II)I" } : MethodName)) ∈ rl_G := rl_inG mt_297 rfl
theorem mt_298 : (Cond.code ({ cls := "java/lang/Math", name := "max", desc := "(II)I" } : MethodName) prog_15_method_65_code (2 : Nat) (Option.some FieldType.int)) ∈ lw_tbl := List.mem_append_right _ (List.mem_append_right _ (List.mem_append_left _ (List.mem_of_getElem? (i := 58) (rfl))))
theorem mw_298 : (Cond.code ({ cls := "java/lang/Math", name := "max", desc := "(II)I" } : MethodName) prog_15_method_65_code (2 : Nat) (Option.some FieldType.int)) ∈ rl_G := rl_inG mt_298 rfl
theorem mt_319 : (Cond.declares ({ cls := "RecordLeaves$Thing", name := "family", desc := "()I" } : MethodName)) ∈ lw_tbl := List.mem_append_right _ (List.mem_append_right _ (List.mem_append_left _ (List.mem_of_getElem? (i := 79) (by decide +kernel))))
theorem mt_320 : (Cond.sameMethod "RecordLeaves$Thing" "RecordLeaves$Thing" "family" "()I") ∈ lw_tbl := List.mem_append_right _ (List.mem_append_right _ (List.mem_append_left _ (List.mem_of_getElem? (i := 80) (by decide +kernel))))
theorem mw_320 : (Cond.sameMethod "RecordLeaves$Thing" "RecordLeaves$Thing" "family" "()I") ∈ rl_G := rl_inG mt_320 rfl
theorem mt_321 : (Cond.selects "RecordLeaves$Constant" ({ cls := "RecordLeaves$Thing", name := "family", desc := "()I" } : MethodName) ({ cls := "RecordLeaves$Constant", name := "family", desc := "()I" } : MethodName)) ∈ lw_tbl := List.mem_append_right _ (List.mem_append_right _ (List.mem_append_left _ (List.mem_of_getElem? (i := 81) (by decide +kernel))))
theorem mw_321 : (Cond.selects "RecordLeaves$Constant" ({ cls := "RecordLeaves$Thing", name := "family", desc := "()I" } : MethodName) ({ cls := "RecordLeaves$Constant", name := "family", desc := "()I" } : MethodName)) ∈ rl_G := rl_inG mt_321 rfl
theorem mt_324 : (Cond.selects "RecordLeaves$RecordThing" ({ cls := "RecordLeaves$Thing", name := "family", desc := "()I" } : MethodName) ({ cls := "RecordLeaves$RecordThing", name := "family", desc := "()I" } : MethodName)) ∈ lw_tbl := List.mem_append_right _ (List.mem_append_right _ (List.mem_append_left _ (List.mem_of_getElem? (i := 84) (by decide +kernel))))
theorem mw_324 : (Cond.selects "RecordLeaves$RecordThing" ({ cls := "RecordLeaves$Thing", name := "family", desc := "()I" } : MethodName) ({ cls := "RecordLeaves$RecordThing", name := "family", desc := "()I" } : MethodName)) ∈ rl_G := rl_inG mt_324 rfl
theorem mt_327 : (Cond.selects "RecordLeaves$Row" ({ cls := "RecordLeaves$Thing", name := "family", desc := "()I" } : MethodName) ({ cls := "RecordLeaves$Row", name := "family", desc := "()I" } : MethodName)) ∈ lw_tbl := List.mem_append_right _ (List.mem_append_right _ (List.mem_append_left _ (List.mem_of_getElem? (i := 87) (by decide +kernel))))
theorem mw_327 : (Cond.selects "RecordLeaves$Row" ({ cls := "RecordLeaves$Thing", name := "family", desc := "()I" } : MethodName) ({ cls := "RecordLeaves$Row", name := "family", desc := "()I" } : MethodName)) ∈ rl_G := rl_inG mt_327 rfl
theorem mt_395 : (Cond.declares ({ cls := "RecordLeaves$Thing", name := "kind", desc := "()I" } : MethodName)) ∈ lw_tbl := List.mem_append_right _ (List.mem_append_right _ (List.mem_append_left _ (List.mem_of_getElem? (i := 155) (by decide +kernel))))
theorem mt_396 : (Cond.sameMethod "RecordLeaves$Thing" "RecordLeaves$Thing" "kind" "()I") ∈ lw_tbl := List.mem_append_right _ (List.mem_append_right _ (List.mem_append_left _ (List.mem_of_getElem? (i := 156) (by decide +kernel))))
theorem mw_396 : (Cond.sameMethod "RecordLeaves$Thing" "RecordLeaves$Thing" "kind" "()I") ∈ rl_G := rl_inG mt_396 rfl
theorem mt_397 : (Cond.selects "RecordLeaves$Constant" ({ cls := "RecordLeaves$Thing", name := "kind", desc := "()I" } : MethodName) ({ cls := "RecordLeaves$Constant", name := "kind", desc := "()I" } : MethodName)) ∈ lw_tbl := List.mem_append_right _ (List.mem_append_right _ (List.mem_append_left _ (List.mem_of_getElem? (i := 157) (by decide +kernel))))
theorem mw_397 : (Cond.selects "RecordLeaves$Constant" ({ cls := "RecordLeaves$Thing", name := "kind", desc := "()I" } : MethodName) ({ cls := "RecordLeaves$Constant", name := "kind", desc := "()I" } : MethodName)) ∈ rl_G := rl_inG mt_397 rfl
theorem mt_400 : (Cond.selects "RecordLeaves$RecordThing" ({ cls := "RecordLeaves$Thing", name := "kind", desc := "()I" } : MethodName) ({ cls := "RecordLeaves$RecordThing", name := "kind", desc := "()I" } : MethodName)) ∈ lw_tbl := List.mem_append_right _ (List.mem_append_right _ (List.mem_append_left _ (List.mem_of_getElem? (i := 160) (by decide +kernel))))
theorem mw_400 : (Cond.selects "RecordLeaves$RecordThing" ({ cls := "RecordLeaves$Thing", name := "kind", desc := "()I" } : MethodName) ({ cls := "RecordLeaves$RecordThing", name := "kind", desc := "()I" } : MethodName)) ∈ rl_G := rl_inG mt_400 rfl
theorem mt_403 : (Cond.selects "RecordLeaves$Row" ({ cls := "RecordLeaves$Thing", name := "kind", desc := "()I" } : MethodName) ({ cls := "RecordLeaves$Row", name := "kind", desc := "()I" } : MethodName)) ∈ lw_tbl := List.mem_append_right _ (List.mem_append_right _ (List.mem_append_left _ (List.mem_of_getElem? (i := 163) (by decide +kernel))))
theorem mw_403 : (Cond.selects "RecordLeaves$Row" ({ cls := "RecordLeaves$Thing", name := "kind", desc := "()I" } : MethodName) ({ cls := "RecordLeaves$Row", name := "kind", desc := "()I" } : MethodName)) ∈ rl_G := rl_inG mt_403 rfl
theorem mt_407 : (Cond.declares ({ cls := "RecordLeaves$Thing", name := "version", desc := "()I" } : MethodName)) ∈ lw_tbl := List.mem_append_right _ (List.mem_append_right _ (List.mem_append_left _ (List.mem_of_getElem? (i := 167) (by decide +kernel))))
theorem mt_408 : (Cond.sameMethod "RecordLeaves$Thing" "RecordLeaves$Thing" "version" "()I") ∈ lw_tbl := List.mem_append_right _ (List.mem_append_right _ (List.mem_append_left _ (List.mem_of_getElem? (i := 168) (by decide +kernel))))
theorem mw_408 : (Cond.sameMethod "RecordLeaves$Thing" "RecordLeaves$Thing" "version" "()I") ∈ rl_G := rl_inG mt_408 rfl
theorem mt_409 : (Cond.selects "RecordLeaves$Constant" ({ cls := "RecordLeaves$Thing", name := "version", desc := "()I" } : MethodName) ({ cls := "RecordLeaves$Constant", name := "version", desc := "()I" } : MethodName)) ∈ lw_tbl := List.mem_append_right _ (List.mem_append_right _ (List.mem_append_left _ (List.mem_of_getElem? (i := 169) (by decide +kernel))))
theorem mw_409 : (Cond.selects "RecordLeaves$Constant" ({ cls := "RecordLeaves$Thing", name := "version", desc := "()I" } : MethodName) ({ cls := "RecordLeaves$Constant", name := "version", desc := "()I" } : MethodName)) ∈ rl_G := rl_inG mt_409 rfl
theorem mt_412 : (Cond.selects "RecordLeaves$RecordThing" ({ cls := "RecordLeaves$Thing", name := "version", desc := "()I" } : MethodName) ({ cls := "RecordLeaves$RecordThing", name := "version", desc := "()I" } : MethodName)) ∈ lw_tbl := List.mem_append_right _ (List.mem_append_right _ (List.mem_append_left _ (List.mem_of_getElem? (i := 172) (by decide +kernel))))
theorem mw_412 : (Cond.selects "RecordLeaves$RecordThing" ({ cls := "RecordLeaves$Thing", name := "version", desc := "()I" } : MethodName) ({ cls := "RecordLeaves$RecordThing", name := "version", desc := "()I" } : MethodName)) ∈ rl_G := rl_inG mt_412 rfl
theorem mt_415 : (Cond.selects "RecordLeaves$Row" ({ cls := "RecordLeaves$Thing", name := "version", desc := "()I" } : MethodName) ({ cls := "RecordLeaves$Row", name := "version", desc := "()I" } : MethodName)) ∈ lw_tbl := List.mem_append_right _ (List.mem_append_right _ (List.mem_append_left _ (List.mem_of_getElem? (i := 175) (by decide +kernel))))
theorem mw_415 : (Cond.selects "RecordLeaves$Row" ({ cls := "RecordLeaves$Thing", name := "version", desc := "()I" } : MethodName) ({ cls := "RecordLeaves$Row", name := "version", desc := "()I" } : MethodName)) ∈ rl_G := rl_inG mt_415 rfl
theorem mt_428 : (Cond.constantLong "RecordLeaves$Check" (49 : Nat) (100 : Int64)) ∈ lw_tbl := List.mem_append_right _ (List.mem_append_right _ (List.mem_append_left _ (List.mem_of_getElem? (i := 188) (by decide +kernel))))
theorem mw_428 : (Cond.constantLong "RecordLeaves$Check" (49 : Nat) (100 : Int64)) ∈ rl_G := rl_inG mt_428 rfl
theorem mt_454 : (Cond.declares ({ cls := "RecordLeaves$Thing", name := "extent", desc := "()I" } : MethodName)) ∈ lw_tbl := List.mem_append_right _ (List.mem_append_right _ (List.mem_append_left _ (List.mem_of_getElem? (i := 214) (by decide +kernel))))
theorem mt_455 : (Cond.sameMethod "RecordLeaves$Thing" "RecordLeaves$Thing" "extent" "()I") ∈ lw_tbl := List.mem_append_right _ (List.mem_append_right _ (List.mem_append_left _ (List.mem_of_getElem? (i := 215) (by decide +kernel))))
theorem mw_455 : (Cond.sameMethod "RecordLeaves$Thing" "RecordLeaves$Thing" "extent" "()I") ∈ rl_G := rl_inG mt_455 rfl
theorem mt_456 : (Cond.selects "RecordLeaves$Constant" ({ cls := "RecordLeaves$Thing", name := "extent", desc := "()I" } : MethodName) ({ cls := "RecordLeaves$Constant", name := "extent", desc := "()I" } : MethodName)) ∈ lw_tbl := List.mem_append_right _ (List.mem_append_right _ (List.mem_append_left _ (List.mem_of_getElem? (i := 216) (by decide +kernel))))
theorem mw_456 : (Cond.selects "RecordLeaves$Constant" ({ cls := "RecordLeaves$Thing", name := "extent", desc := "()I" } : MethodName) ({ cls := "RecordLeaves$Constant", name := "extent", desc := "()I" } : MethodName)) ∈ rl_G := rl_inG mt_456 rfl
theorem mt_459 : (Cond.selects "RecordLeaves$RecordThing" ({ cls := "RecordLeaves$Thing", name := "extent", desc := "()I" } : MethodName) ({ cls := "RecordLeaves$RecordThing", name := "extent", desc := "()I" } : MethodName)) ∈ lw_tbl := List.mem_append_right _ (List.mem_append_right _ (List.mem_append_left _ (List.mem_of_getElem? (i := 219) (by decide +kernel))))
theorem mw_459 : (Cond.selects "RecordLeaves$RecordThing" ({ cls := "RecordLeaves$Thing", name := "extent", desc := "()I" } : MethodName) ({ cls := "RecordLeaves$RecordThing", name := "extent", desc := "()I" } : MethodName)) ∈ rl_G := rl_inG mt_459 rfl
theorem mt_460 : (Cond.selects "RecordLeaves$Row" ({ cls := "RecordLeaves$Thing", name := "extent", desc := "()I" } : MethodName) ({ cls := "RecordLeaves$Row", name := "extent", desc := "()I" } : MethodName)) ∈ lw_tbl := List.mem_append_right _ (List.mem_append_right _ (List.mem_append_left _ (List.mem_of_getElem? (i := 220) (by decide +kernel))))
theorem mw_460 : (Cond.selects "RecordLeaves$Row" ({ cls := "RecordLeaves$Thing", name := "extent", desc := "()I" } : MethodName) ({ cls := "RecordLeaves$Row", name := "extent", desc := "()I" } : MethodName)) ∈ rl_G := rl_inG mt_460 rfl
theorem mt_503 : (Cond.static ({ cls := "java/lang/Math", name := "min", desc := "(II)I" } : MethodName)) ∈ lw_tbl := List.mem_append_right _ (List.mem_append_right _ (List.mem_append_right _ (List.mem_append_left _ (List.mem_of_getElem? (i := 23) (by decide +kernel)))))
theorem mw_503 : (Cond.static ({ cls := "java/lang/Math", name := "min", desc := "(II)I" } : MethodName)) ∈ rl_G := rl_inG mt_503 rfl
theorem mt_504 : (Cond.code ({ cls := "java/lang/Math", name := "min", desc := "(II)I" } : MethodName) prog_15_method_69_code (2 : Nat) (Option.some FieldType.int)) ∈ lw_tbl := List.mem_append_right _ (List.mem_append_right _ (List.mem_append_right _ (List.mem_append_left _ (List.mem_of_getElem? (i := 24) (rfl)))))
theorem mw_504 : (Cond.code ({ cls := "java/lang/Math", name := "min", desc := "(II)I" } : MethodName) prog_15_method_69_code (2 : Nat) (Option.some FieldType.int)) ∈ rl_G := rl_inG mt_504 rfl
theorem mt_518 : (Cond.constantLong "RecordLeaves$Tape" (100 : Nat) (-1 : Int64)) ∈ lw_tbl := List.mem_append_right _ (List.mem_append_right _ (List.mem_append_right _ (List.mem_append_left _ (List.mem_of_getElem? (i := 38) (by decide +kernel)))))
theorem mw_518 : (Cond.constantLong "RecordLeaves$Tape" (100 : Nat) (-1 : Int64)) ∈ rl_G := rl_inG mt_518 rfl
theorem mt_520 : (Cond.static ({ cls := "java/lang/System", name := "arraycopy", desc := "(Ljava/lang/Object;ILjava/lang/Object;II)V" } : MethodName)) ∈ lw_tbl := List.mem_append_right _ (List.mem_append_right _ (List.mem_append_right _ (List.mem_append_left _ (List.mem_of_getElem? (i := 40) (by decide +kernel)))))
theorem mw_520 : (Cond.static ({ cls := "java/lang/System", name := "arraycopy", desc := "(Ljava/lang/Object;ILjava/lang/Object;II)V" } : MethodName)) ∈ rl_G := rl_inG mt_520 rfl
theorem mt_521 : (Cond.native ({ cls := "java/lang/System", name := "arraycopy", desc := "(Ljava/lang/Object;ILjava/lang/Object;II)V" } : MethodName)) ∈ lw_tbl := List.mem_append_right _ (List.mem_append_right _ (List.mem_append_right _ (List.mem_append_left _ (List.mem_of_getElem? (i := 41) (by decide +kernel)))))
theorem mw_521 : (Cond.native ({ cls := "java/lang/System", name := "arraycopy", desc := "(Ljava/lang/Object;ILjava/lang/Object;II)V" } : MethodName)) ∈ rl_G := rl_inG mt_521 rfl
theorem mt_589 : (Cond.constantLong "RecordLeaves$Reader" (63 : Nat) (250 : Int64)) ∈ lw_tbl := List.mem_append_right _ (List.mem_append_right _ (List.mem_append_right _ (List.mem_append_left _ (List.mem_of_getElem? (i := 109) (by decide +kernel)))))
theorem mw_589 : (Cond.constantLong "RecordLeaves$Reader" (63 : Nat) (250 : Int64)) ∈ rl_G := rl_inG mt_589 rfl
theorem mt_591 : (Cond.static ({ cls := "java/lang/Math", name := "min", desc := "(JJ)J" } : MethodName)) ∈ lw_tbl := List.mem_append_right _ (List.mem_append_right _ (List.mem_append_right _ (List.mem_append_left _ (List.mem_of_getElem? (i := 111) (by decide +kernel)))))
theorem mw_591 : (Cond.static ({ cls := "java/lang/Math", name := "min", desc := "(JJ)J" } : MethodName)) ∈ rl_G := rl_inG mt_591 rfl
theorem mt_592 : (Cond.code ({ cls := "java/lang/Math", name := "min", desc := "(JJ)J" } : MethodName) prog_15_method_70_code (4 : Nat) (Option.some FieldType.long)) ∈ lw_tbl := List.mem_append_right _ (List.mem_append_right _ (List.mem_append_right _ (List.mem_append_left _ (List.mem_of_getElem? (i := 112) (rfl)))))
theorem mw_592 : (Cond.code ({ cls := "java/lang/Math", name := "min", desc := "(JJ)J" } : MethodName) prog_15_method_70_code (4 : Nat) (Option.some FieldType.long)) ∈ rl_G := rl_inG mt_592 rfl
theorem mt_597 : (Cond.constantLong "RecordLeaves$Reader" (92 : Nat) (5 : Int64)) ∈ lw_tbl := List.mem_append_right _ (List.mem_append_right _ (List.mem_append_right _ (List.mem_append_left _ (List.mem_of_getElem? (i := 117) (by decide +kernel)))))
theorem mw_597 : (Cond.constantLong "RecordLeaves$Reader" (92 : Nat) (5 : Int64)) ∈ rl_G := rl_inG mt_597 rfl
theorem mt_608 : (Cond.constantLong "RecordLeaves$Reader" (127 : Nat) (-1 : Int64)) ∈ lw_tbl := List.mem_append_right _ (List.mem_append_right _ (List.mem_append_right _ (List.mem_append_left _ (List.mem_of_getElem? (i := 128) (by decide +kernel)))))
theorem mw_608 : (Cond.constantLong "RecordLeaves$Reader" (127 : Nat) (-1 : Int64)) ∈ rl_G := rl_inG mt_608 rfl
theorem mt_615 : (Cond.constantLong "RecordLeaves$Reader" (142 : Nat) (8 : Int64)) ∈ lw_tbl := List.mem_append_right _ (List.mem_append_right _ (List.mem_append_right _ (List.mem_append_left _ (List.mem_of_getElem? (i := 135) (by decide +kernel)))))
theorem mw_615 : (Cond.constantLong "RecordLeaves$Reader" (142 : Nat) (8 : Int64)) ∈ rl_G := rl_inG mt_615 rfl
theorem mt_646 : (Cond.constant "RecordLeavesModel" (44 : Nat) (43100 : Int32)) ∈ lw_tbl := List.mem_append_right _ (List.mem_append_right _ (List.mem_append_right _ (List.mem_append_left _ (List.mem_of_getElem? (i := 166) (by decide +kernel)))))
theorem mw_646 : (Cond.constant "RecordLeavesModel" (44 : Nat) (43100 : Int32)) ∈ rl_G := rl_inG mt_646 rfl
theorem mt_647 : (Cond.constant "RecordLeavesModel" (48 : Nat) (344800 : Int32)) ∈ lw_tbl := List.mem_append_right _ (List.mem_append_right _ (List.mem_append_right _ (List.mem_append_left _ (List.mem_of_getElem? (i := 167) (by decide +kernel)))))
theorem mw_647 : (Cond.constant "RecordLeavesModel" (48 : Nat) (344800 : Int32)) ∈ rl_G := rl_inG mt_647 rfl
theorem mt_648 : (Cond.constant "RecordLeavesModel" (58 : Nat) (131000 : Int32)) ∈ lw_tbl := List.mem_append_right _ (List.mem_append_right _ (List.mem_append_right _ (List.mem_append_left _ (List.mem_of_getElem? (i := 168) (by decide +kernel)))))
theorem mw_648 : (Cond.constant "RecordLeavesModel" (58 : Nat) (131000 : Int32)) ∈ rl_G := rl_inG mt_648 rfl
theorem mt_797 : (Cond.arrayClass FieldType.boolean) ∈ lw_tbl := List.mem_append_right _ (List.mem_append_right _ (List.mem_append_right _ (List.mem_append_right _ (List.mem_append_left _ (List.mem_of_getElem? (i := 77) (by decide +kernel))))))
theorem mw_797 : (Cond.arrayClass FieldType.boolean) ∈ rl_G := rl_inG mt_797 rfl
theorem mt_808 : (Cond.constantLong "RecordLeavesModel" (121 : Nat) (2 : Int64)) ∈ lw_tbl := List.mem_append_right _ (List.mem_append_right _ (List.mem_append_right _ (List.mem_append_right _ (List.mem_append_left _ (List.mem_of_getElem? (i := 88) (by decide +kernel))))))
theorem mw_808 : (Cond.constantLong "RecordLeavesModel" (121 : Nat) (2 : Int64)) ∈ rl_G := rl_inG mt_808 rfl
theorem mt_809 : (Cond.constantLong "RecordLeavesModel" (115 : Nat) (9 : Int64)) ∈ lw_tbl := List.mem_append_right _ (List.mem_append_right _ (List.mem_append_right _ (List.mem_append_right _ (List.mem_append_left _ (List.mem_of_getElem? (i := 89) (by decide +kernel))))))
theorem mw_809 : (Cond.constantLong "RecordLeavesModel" (115 : Nat) (9 : Int64)) ∈ rl_G := rl_inG mt_809 rfl
theorem mt_821 : (Cond.constantLong "RecordLeavesModel" (123 : Nat) (5 : Int64)) ∈ lw_tbl := List.mem_append_right _ (List.mem_append_right _ (List.mem_append_right _ (List.mem_append_right _ (List.mem_append_left _ (List.mem_of_getElem? (i := 101) (by decide +kernel))))))
theorem mw_821 : (Cond.constantLong "RecordLeavesModel" (123 : Nat) (5 : Int64)) ∈ rl_G := rl_inG mt_821 rfl
theorem mt_822 : (Cond.constantLong "RecordLeavesModel" (137 : Nat) (4 : Int64)) ∈ lw_tbl := List.mem_append_right _ (List.mem_append_right _ (List.mem_append_right _ (List.mem_append_right _ (List.mem_append_left _ (List.mem_of_getElem? (i := 102) (by decide +kernel))))))
theorem mw_822 : (Cond.constantLong "RecordLeavesModel" (137 : Nat) (4 : Int64)) ∈ rl_G := rl_inG mt_822 rfl
theorem mt_846 : (Cond.constantLong "RecordLeavesModel" (154 : Nat) (8 : Int64)) ∈ lw_tbl := List.mem_append_right _ (List.mem_append_right _ (List.mem_append_right _ (List.mem_append_right _ (List.mem_append_left _ (List.mem_of_getElem? (i := 126) (by decide +kernel))))))
theorem mw_846 : (Cond.constantLong "RecordLeavesModel" (154 : Nat) (8 : Int64)) ∈ rl_G := rl_inG mt_846 rfl
theorem mt_859 : (Cond.constant "RecordLeavesModel" (147 : Nat) (1000000 : Int32)) ∈ lw_tbl := List.mem_append_right _ (List.mem_append_right _ (List.mem_append_right _ (List.mem_append_right _ (List.mem_append_left _ (List.mem_of_getElem? (i := 139) (by decide +kernel))))))
theorem mw_859 : (Cond.constant "RecordLeavesModel" (147 : Nat) (1000000 : Int32)) ∈ rl_G := rl_inG mt_859 rfl
theorem mt_880 : (Cond.constantLong "RecordLeavesModel" (163 : Nat) (-2147483648 : Int64)) ∈ lw_tbl := List.mem_append_right _ (List.mem_append_right _ (List.mem_append_right _ (List.mem_append_right _ (List.mem_append_left _ (List.mem_of_getElem? (i := 160) (by decide +kernel))))))
theorem mw_880 : (Cond.constantLong "RecordLeavesModel" (163 : Nat) (-2147483648 : Int64)) ∈ rl_G := rl_inG mt_880 rfl
theorem mt_881 : (Cond.constantLong "RecordLeavesModel" (165 : Nat) (2147483647 : Int64)) ∈ lw_tbl := List.mem_append_right _ (List.mem_append_right _ (List.mem_append_right _ (List.mem_append_right _ (List.mem_append_left _ (List.mem_of_getElem? (i := 161) (by decide +kernel))))))
theorem mw_881 : (Cond.constantLong "RecordLeavesModel" (165 : Nat) (2147483647 : Int64)) ∈ rl_G := rl_inG mt_881 rfl
theorem mt_886 : (Cond.constantLong "RecordLeavesModel" (167 : Nat) (100 : Int64)) ∈ lw_tbl := List.mem_append_right _ (List.mem_append_right _ (List.mem_append_right _ (List.mem_append_right _ (List.mem_append_left _ (List.mem_of_getElem? (i := 166) (by decide +kernel))))))
theorem mw_886 : (Cond.constantLong "RecordLeavesModel" (167 : Nat) (100 : Int64)) ∈ rl_G := rl_inG mt_886 rfl
theorem mt_891 : (Cond.constantLong "RecordLeavesModel" (193 : Nat) (3 : Int64)) ∈ lw_tbl := List.mem_append_right _ (List.mem_append_right _ (List.mem_append_right _ (List.mem_append_right _ (List.mem_append_left _ (List.mem_of_getElem? (i := 171) (by decide +kernel))))))
theorem mw_891 : (Cond.constantLong "RecordLeavesModel" (193 : Nat) (3 : Int64)) ∈ rl_G := rl_inG mt_891 rfl
theorem mt_904 : (Cond.constantLong "RecordLeavesModel" (204 : Nat) (10 : Int64)) ∈ lw_tbl := List.mem_append_right _ (List.mem_append_right _ (List.mem_append_right _ (List.mem_append_right _ (List.mem_append_left _ (List.mem_of_getElem? (i := 184) (by decide +kernel))))))
theorem mw_904 : (Cond.constantLong "RecordLeavesModel" (204 : Nat) (10 : Int64)) ∈ rl_G := rl_inG mt_904 rfl
theorem mt_941 : (Cond.constantLong "RecordLeavesModel" (227 : Nat) (-1 : Int64)) ∈ lw_tbl := List.mem_append_right _ (List.mem_append_right _ (List.mem_append_right _ (List.mem_append_right _ (List.mem_append_left _ (List.mem_of_getElem? (i := 221) (by decide +kernel))))))
theorem mw_941 : (Cond.constantLong "RecordLeavesModel" (227 : Nat) (-1 : Int64)) ∈ rl_G := rl_inG mt_941 rfl
theorem mt_994 : (Cond.constantLong "RecordLeavesLaw" (46 : Nat) (4294967295 : Int64)) ∈ lw_tbl := List.mem_append_right _ (List.mem_append_right _ (List.mem_append_right _ (List.mem_append_right _ (List.mem_append_right _ (List.mem_of_getElem? (i := 34) (by decide +kernel))))))
theorem mw_994 : (Cond.constantLong "RecordLeavesLaw" (46 : Nat) (4294967295 : Int64)) ∈ rl_G := rl_inG mt_994 rfl
theorem mt_996 : (Cond.castable "RecordLeaves$Row" "RecordLeaves$Row") ∈ lw_tbl := List.mem_append_right _ (List.mem_append_right _ (List.mem_append_right _ (List.mem_append_right _ (List.mem_append_right _ (List.mem_of_getElem? (i := 36) (by decide +kernel))))))
theorem mt_997 : (Cond.castable "RecordLeaves$Constant" "RecordLeaves$Constant") ∈ lw_tbl := List.mem_append_right _ (List.mem_append_right _ (List.mem_append_right _ (List.mem_append_right _ (List.mem_append_right _ (List.mem_of_getElem? (i := 37) (by decide +kernel))))))
theorem mt_998 : (Cond.castable "RecordLeaves$RecordThing" "RecordLeaves$RecordThing") ∈ lw_tbl := List.mem_append_right _ (List.mem_append_right _ (List.mem_append_right _ (List.mem_append_right _ (List.mem_append_right _ (List.mem_of_getElem? (i := 38) (by decide +kernel))))))
theorem mt_999 : (Cond.castable "RecordLeaves$Constant" "RecordLeaves$Thing") ∈ lw_tbl := List.mem_append_right _ (List.mem_append_right _ (List.mem_append_right _ (List.mem_append_right _ (List.mem_append_right _ (List.mem_of_getElem? (i := 39) (by decide +kernel))))))
theorem mt_1000 : (Cond.castable "RecordLeaves$RecordThing" "RecordLeaves$Thing") ∈ lw_tbl := List.mem_append_right _ (List.mem_append_right _ (List.mem_append_right _ (List.mem_append_right _ (List.mem_append_right _ (List.mem_of_getElem? (i := 40) (by decide +kernel))))))
theorem mt_1001 : (Cond.castable "RecordLeaves$Row" "RecordLeaves$Thing") ∈ lw_tbl := List.mem_append_right _ (List.mem_append_right _ (List.mem_append_right _ (List.mem_append_right _ (List.mem_append_right _ (List.mem_of_getElem? (i := 41) (by decide +kernel))))))
