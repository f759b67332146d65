section
-- ===== PART A: goes FIRST, ahead of the names: the tables' words, and 'selects' of the private methods out of them =====
/-- a private method of a class that the tables say can be made, by its rows of tables_1 -/
def lw_okq (q : MethodName × Nat) : Prop := (q.1.cls ≠ "java/lang/invoke/MethodHandle" ∧ q.1.cls ≠ "java/lang/invoke/VarHandle") ∧ Cond.instantiable q.1.cls q.2 ∈ tables_1 ∧ Cond.privateMethod q.1 ∈ tables_1 ∧ Cond.instanceMethod q.1 ∈ tables_1
theorem lw_p0 : lw_okq (⟨"RecordLeaves$Part", "isOfClass", "(LRecordLeaves$Thing;)Z"⟩, 3) := ⟨⟨by decide +kernel, by decide +kernel⟩, List.mem_of_getElem? (i := 224) (by decide +kernel), List.mem_of_getElem? (i := 388) (by decide +kernel), List.mem_of_getElem? (i := 389) (by decide +kernel)⟩
theorem lw_p1 : lw_okq (⟨"RecordLeaves", "rememberCause", "(III)V"⟩, 12) := ⟨⟨by decide +kernel, by decide +kernel⟩, List.mem_of_getElem? (i := 17) (by decide +kernel), List.mem_of_getElem? (i := 444) (by decide +kernel), List.mem_of_getElem? (i := 445) (by decide +kernel)⟩
theorem lw_p2 : lw_okq (⟨"RecordLeaves$Tape", "putRecord", "(LRecordLeaves$RecordThing;I)V"⟩, 4) := ⟨⟨by decide +kernel, by decide +kernel⟩, List.mem_of_getElem? (i := 100) (by decide +kernel), List.mem_of_getElem? (i := 494) (by decide +kernel), List.mem_of_getElem? (i := 495) (by decide +kernel)⟩
theorem lw_p3 : lw_okq (⟨"RecordLeaves$Tape", "put", "(J)V"⟩, 4) := ⟨⟨by decide +kernel, by decide +kernel⟩, List.mem_of_getElem? (i := 100) (by decide +kernel), List.mem_of_getElem? (i := 499) (by decide +kernel), List.mem_of_getElem? (i := 500) (by decide +kernel)⟩
theorem lw_p4 : lw_okq (⟨"RecordLeaves$Tape", "putValue", "(LRecordLeaves$RecordThing;II)V"⟩, 4) := ⟨⟨by decide +kernel, by decide +kernel⟩, List.mem_of_getElem? (i := 100) (by decide +kernel), List.mem_of_getElem? (i := 507) (by decide +kernel), List.mem_of_getElem? (i := 508) (by decide +kernel)⟩
theorem lw_p5 : lw_okq (⟨"RecordLeaves$Tape", "putItems", "([I)V"⟩, 4) := ⟨⟨by decide +kernel, by decide +kernel⟩, List.mem_of_getElem? (i := 100) (by decide +kernel), List.mem_of_getElem? (i := 515) (by decide +kernel), List.mem_of_getElem? (i := 516) (by decide +kernel)⟩
theorem lw_p6 : lw_okq (⟨"RecordLeaves$Reader", "nextRecord", "(Z)LRecordLeaves$RecordThing;"⟩, 8) := ⟨⟨by decide +kernel, by decide +kernel⟩, List.mem_of_getElem? (i := 540) (by decide +kernel), List.mem_of_getElem? (i := 575) (by decide +kernel), List.mem_of_getElem? (i := 576) (by decide +kernel)⟩
theorem lw_p7 : lw_okq (⟨"RecordLeaves$Reader", "fail", "(I)V"⟩, 8) := ⟨⟨by decide +kernel, by decide +kernel⟩, List.mem_of_getElem? (i := 540) (by decide +kernel), List.mem_of_getElem? (i := 579) (by decide +kernel), List.mem_of_getElem? (i := 580) (by decide +kernel)⟩
theorem lw_p8 : lw_okq (⟨"RecordLeaves$Reader", "nextLeaf", "()J"⟩, 8) := ⟨⟨by decide +kernel, by decide +kernel⟩, List.mem_of_getElem? (i := 540) (by decide +kernel), List.mem_of_getElem? (i := 583) (by decide +kernel), List.mem_of_getElem? (i := 584) (by decide +kernel)⟩
theorem lw_p9 : lw_okq (⟨"RecordLeaves$Reader", "nextPart", "(LRecordLeaves$RecordThing;)V"⟩, 8) := ⟨⟨by decide +kernel, by decide +kernel⟩, List.mem_of_getElem? (i := 540) (by decide +kernel), List.mem_of_getElem? (i := 594) (by decide +kernel), List.mem_of_getElem? (i := 595) (by decide +kernel)⟩
theorem lw_p10 : lw_okq (⟨"RecordLeaves$Reader", "nextThing", "(ILRecordLeaves$Part;)LRecordLeaves$Thing;"⟩, 8) := ⟨⟨by decide +kernel, by decide +kernel⟩, List.mem_of_getElem? (i := 540) (by decide +kernel), List.mem_of_getElem? (i := 601) (by decide +kernel), List.mem_of_getElem? (i := 602) (by decide +kernel)⟩
theorem lw_p11 : lw_okq (⟨"RecordLeaves$Reader", "nextConstant", "(LRecordLeaves$Part;)LRecordLeaves$Constant;"⟩, 8) := ⟨⟨by decide +kernel, by decide +kernel⟩, List.mem_of_getElem? (i := 540) (by decide +kernel), List.mem_of_getElem? (i := 605) (by decide +kernel), List.mem_of_getElem? (i := 606) (by decide +kernel)⟩
theorem lw_p12 : lw_okq (⟨"RecordLeaves$Reader", "nextRow", "(Z)LRecordLeaves$Row;"⟩, 8) := ⟨⟨by decide +kernel, by decide +kernel⟩, List.mem_of_getElem? (i := 540) (by decide +kernel), List.mem_of_getElem? (i := 612) (by decide +kernel), List.mem_of_getElem? (i := 613) (by decide +kernel)⟩
theorem lw_p13 : lw_okq (⟨"RecordLeaves$Reader", "finished", "(LRecordLeaves$RecordThing;)LRecordLeaves$RecordThing;"⟩, 8) := ⟨⟨by decide +kernel, by decide +kernel⟩, List.mem_of_getElem? (i := 540) (by decide +kernel), List.mem_of_getElem? (i := 620) (by decide +kernel), List.mem_of_getElem? (i := 621) (by decide +kernel)⟩
theorem lw_p14 : lw_okq (⟨"RecordLeaves", "heldPlaces", "()I"⟩, 12) := ⟨⟨by decide +kernel, by decide +kernel⟩, List.mem_of_getElem? (i := 17) (by decide +kernel), List.mem_of_getElem? (i := 637) (by decide +kernel), List.mem_of_getElem? (i := 638) (by decide +kernel)⟩
theorem lw_p15 : lw_okq (⟨"RecordLeavesModel", "constantBy", "(IIJ)I"⟩, 49) := ⟨⟨by decide +kernel, by decide +kernel⟩, List.mem_of_getElem? (i := 641) (by decide +kernel), List.mem_of_getElem? (i := 811) (by decide +kernel), List.mem_of_getElem? (i := 812) (by decide +kernel)⟩
def lw_privs_1 : List (MethodName × Nat) := [(⟨"RecordLeaves$Part", "isOfClass", "(LRecordLeaves$Thing;)Z"⟩, 3), (⟨"RecordLeaves", "rememberCause", "(III)V"⟩, 12), (⟨"RecordLeaves$Tape", "putRecord", "(LRecordLeaves$RecordThing;I)V"⟩, 4), (⟨"RecordLeaves$Tape", "put", "(J)V"⟩, 4), (⟨"RecordLeaves$Tape", "putValue", "(LRecordLeaves$RecordThing;II)V"⟩, 4), (⟨"RecordLeaves$Tape", "putItems", "([I)V"⟩, 4), (⟨"RecordLeaves$Reader", "nextRecord", "(Z)LRecordLeaves$RecordThing;"⟩, 8), (⟨"RecordLeaves$Reader", "fail", "(I)V"⟩, 8), (⟨"RecordLeaves$Reader", "nextLeaf", "()J"⟩, 8), (⟨"RecordLeaves$Reader", "nextPart", "(LRecordLeaves$RecordThing;)V"⟩, 8), (⟨"RecordLeaves$Reader", "nextThing", "(ILRecordLeaves$Part;)LRecordLeaves$Thing;"⟩, 8), (⟨"RecordLeaves$Reader", "nextConstant", "(LRecordLeaves$Part;)LRecordLeaves$Constant;"⟩, 8), (⟨"RecordLeaves$Reader", "nextRow", "(Z)LRecordLeaves$Row;"⟩, 8), (⟨"RecordLeaves$Reader", "finished", "(LRecordLeaves$RecordThing;)LRecordLeaves$RecordThing;"⟩, 8), (⟨"RecordLeaves", "heldPlaces", "()I"⟩, 12), (⟨"RecordLeavesModel", "constantBy", "(IIJ)I"⟩, 49)]
theorem lw_r1 : ∀ q ∈ lw_privs_1, lw_okq q := List.forall_mem_cons.mpr ⟨lw_p0, List.forall_mem_cons.mpr ⟨lw_p1, List.forall_mem_cons.mpr ⟨lw_p2, List.forall_mem_cons.mpr ⟨lw_p3, List.forall_mem_cons.mpr ⟨lw_p4, List.forall_mem_cons.mpr ⟨lw_p5, List.forall_mem_cons.mpr ⟨lw_p6, List.forall_mem_cons.mpr ⟨lw_p7, List.forall_mem_cons.mpr ⟨lw_p8, List.forall_mem_cons.mpr ⟨lw_p9, List.forall_mem_cons.mpr ⟨lw_p10, List.forall_mem_cons.mpr ⟨lw_p11, List.forall_mem_cons.mpr ⟨lw_p12, List.forall_mem_cons.mpr ⟨lw_p13, List.forall_mem_cons.mpr ⟨lw_p14, List.forall_mem_cons.mpr ⟨lw_p15, fun _ h => absurd h List.not_mem_nil⟩⟩⟩⟩⟩⟩⟩⟩⟩⟩⟩⟩⟩⟩⟩⟩
theorem lw_p16 : lw_okq (⟨"RecordLeavesModel", "partBy", "(IJ)I"⟩, 49) := ⟨⟨by decide +kernel, by decide +kernel⟩, List.mem_of_getElem? (i := 641) (by decide +kernel), List.mem_of_getElem? (i := 824) (by decide +kernel), List.mem_of_getElem? (i := 825) (by decide +kernel)⟩
theorem lw_p17 : lw_okq (⟨"RecordLeavesModel", "isSort", "(III)Z"⟩, 49) := ⟨⟨by decide +kernel, by decide +kernel⟩, List.mem_of_getElem? (i := 641) (by decide +kernel), List.mem_of_getElem? (i := 832) (by decide +kernel), List.mem_of_getElem? (i := 833) (by decide +kernel)⟩
theorem lw_p18 : lw_okq (⟨"RecordLeavesModel", "newRow", "(I)I"⟩, 49) := ⟨⟨by decide +kernel, by decide +kernel⟩, List.mem_of_getElem? (i := 641) (by decide +kernel), List.mem_of_getElem? (i := 848) (by decide +kernel), List.mem_of_getElem? (i := 849) (by decide +kernel)⟩
theorem lw_p19 : lw_okq (⟨"RecordLeavesModel", "familyOf", "(I)I"⟩, 49) := ⟨⟨by decide +kernel, by decide +kernel⟩, List.mem_of_getElem? (i := 641) (by decide +kernel), List.mem_of_getElem? (i := 856) (by decide +kernel), List.mem_of_getElem? (i := 857) (by decide +kernel)⟩
theorem lw_p20 : lw_okq (⟨"RecordLeavesModel", "record", "(II)I"⟩, 49) := ⟨⟨by decide +kernel, by decide +kernel⟩, List.mem_of_getElem? (i := 641) (by decide +kernel), List.mem_of_getElem? (i := 873) (by decide +kernel), List.mem_of_getElem? (i := 874) (by decide +kernel)⟩
theorem lw_p21 : lw_okq (⟨"RecordLeavesModel", "taken", "(IIJI)I"⟩, 49) := ⟨⟨by decide +kernel, by decide +kernel⟩, List.mem_of_getElem? (i := 641) (by decide +kernel), List.mem_of_getElem? (i := 877) (by decide +kernel), List.mem_of_getElem? (i := 878) (by decide +kernel)⟩
theorem lw_p22 : lw_okq (⟨"RecordLeavesModel", "checked", "(IJIJ)I"⟩, 49) := ⟨⟨by decide +kernel, by decide +kernel⟩, List.mem_of_getElem? (i := 641) (by decide +kernel), List.mem_of_getElem? (i := 883) (by decide +kernel), List.mem_of_getElem? (i := 884) (by decide +kernel)⟩
theorem lw_p23 : lw_okq (⟨"RecordLeavesModel", "partAt", "(II)I"⟩, 49) := ⟨⟨by decide +kernel, by decide +kernel⟩, List.mem_of_getElem? (i := 641) (by decide +kernel), List.mem_of_getElem? (i := 897) (by decide +kernel), List.mem_of_getElem? (i := 898) (by decide +kernel)⟩
theorem lw_p24 : lw_okq (⟨"RecordLeavesModel", "isNumber", "(I)Z"⟩, 49) := ⟨⟨by decide +kernel, by decide +kernel⟩, List.mem_of_getElem? (i := 641) (by decide +kernel), List.mem_of_getElem? (i := 901) (by decide +kernel), List.mem_of_getElem? (i := 902) (by decide +kernel)⟩
theorem lw_p25 : lw_okq (⟨"RecordLeavesModel", "pair", "(III)V"⟩, 49) := ⟨⟨by decide +kernel, by decide +kernel⟩, List.mem_of_getElem? (i := 641) (by decide +kernel), List.mem_of_getElem? (i := 914) (by decide +kernel), List.mem_of_getElem? (i := 915) (by decide +kernel)⟩
theorem lw_p26 : lw_okq (⟨"RecordLeavesModel", "rowsLike", "(II)Z"⟩, 49) := ⟨⟨by decide +kernel, by decide +kernel⟩, List.mem_of_getElem? (i := 641) (by decide +kernel), List.mem_of_getElem? (i := 918) (by decide +kernel), List.mem_of_getElem? (i := 919) (by decide +kernel)⟩
theorem lw_p27 : lw_okq (⟨"RecordLeavesModel", "opens", "(III)Z"⟩, 49) := ⟨⟨by decide +kernel, by decide +kernel⟩, List.mem_of_getElem? (i := 641) (by decide +kernel), List.mem_of_getElem? (i := 922) (by decide +kernel), List.mem_of_getElem? (i := 923) (by decide +kernel)⟩
theorem lw_p28 : lw_okq (⟨"RecordLeavesModel", "begins", "(II)I"⟩, 49) := ⟨⟨by decide +kernel, by decide +kernel⟩, List.mem_of_getElem? (i := 641) (by decide +kernel), List.mem_of_getElem? (i := 930) (by decide +kernel), List.mem_of_getElem? (i := 931) (by decide +kernel)⟩
theorem lw_p29 : lw_okq (⟨"RecordLeavesModel", "put", "(J)V"⟩, 49) := ⟨⟨by decide +kernel, by decide +kernel⟩, List.mem_of_getElem? (i := 641) (by decide +kernel), List.mem_of_getElem? (i := 934) (by decide +kernel), List.mem_of_getElem? (i := 935) (by decide +kernel)⟩
theorem lw_p30 : lw_okq (⟨"RecordLeavesModel", "writePart", "(I)I"⟩, 49) := ⟨⟨by decide +kernel, by decide +kernel⟩, List.mem_of_getElem? (i := 641) (by decide +kernel), List.mem_of_getElem? (i := 938) (by decide +kernel), List.mem_of_getElem? (i := 939) (by decide +kernel)⟩
theorem lw_p31 : lw_okq (⟨"RecordLeavesModel", "beginRecord", "(Z)V"⟩, 49) := ⟨⟨by decide +kernel, by decide +kernel⟩, List.mem_of_getElem? (i := 641) (by decide +kernel), List.mem_of_getElem? (i := 959) (by decide +kernel), List.mem_of_getElem? (i := 960) (by decide +kernel)⟩
def lw_privs_2 : List (MethodName × Nat) := [(⟨"RecordLeavesModel", "partBy", "(IJ)I"⟩, 49), (⟨"RecordLeavesModel", "isSort", "(III)Z"⟩, 49), (⟨"RecordLeavesModel", "newRow", "(I)I"⟩, 49), (⟨"RecordLeavesModel", "familyOf", "(I)I"⟩, 49), (⟨"RecordLeavesModel", "record", "(II)I"⟩, 49), (⟨"RecordLeavesModel", "taken", "(IIJI)I"⟩, 49), (⟨"RecordLeavesModel", "checked", "(IJIJ)I"⟩, 49), (⟨"RecordLeavesModel", "partAt", "(II)I"⟩, 49), (⟨"RecordLeavesModel", "isNumber", "(I)Z"⟩, 49), (⟨"RecordLeavesModel", "pair", "(III)V"⟩, 49), (⟨"RecordLeavesModel", "rowsLike", "(II)Z"⟩, 49), (⟨"RecordLeavesModel", "opens", "(III)Z"⟩, 49), (⟨"RecordLeavesModel", "begins", "(II)I"⟩, 49), (⟨"RecordLeavesModel", "put", "(J)V"⟩, 49), (⟨"RecordLeavesModel", "writePart", "(I)I"⟩, 49), (⟨"RecordLeavesModel", "beginRecord", "(Z)V"⟩, 49)]
theorem lw_r2 : ∀ q ∈ lw_privs_2, lw_okq q := List.forall_mem_cons.mpr ⟨lw_p16, List.forall_mem_cons.mpr ⟨lw_p17, List.forall_mem_cons.mpr ⟨lw_p18, List.forall_mem_cons.mpr ⟨lw_p19, List.forall_mem_cons.mpr ⟨lw_p20, List.forall_mem_cons.mpr ⟨lw_p21, List.forall_mem_cons.mpr ⟨lw_p22, List.forall_mem_cons.mpr ⟨lw_p23, List.forall_mem_cons.mpr ⟨lw_p24, List.forall_mem_cons.mpr ⟨lw_p25, List.forall_mem_cons.mpr ⟨lw_p26, List.forall_mem_cons.mpr ⟨lw_p27, List.forall_mem_cons.mpr ⟨lw_p28, List.forall_mem_cons.mpr ⟨lw_p29, List.forall_mem_cons.mpr ⟨lw_p30, List.forall_mem_cons.mpr ⟨lw_p31, fun _ h => absurd h List.not_mem_nil⟩⟩⟩⟩⟩⟩⟩⟩⟩⟩⟩⟩⟩⟩⟩⟩
theorem lw_p32 : lw_okq (⟨"RecordLeavesModel", "fails", "(I)V"⟩, 49) := ⟨⟨by decide +kernel, by decide +kernel⟩, List.mem_of_getElem? (i := 641) (by decide +kernel), List.mem_of_getElem? (i := 963) (by decide +kernel), List.mem_of_getElem? (i := 964) (by decide +kernel)⟩
theorem lw_p33 : lw_okq (⟨"RecordLeavesModel", "want", "()J"⟩, 49) := ⟨⟨by decide +kernel, by decide +kernel⟩, List.mem_of_getElem? (i := 641) (by decide +kernel), List.mem_of_getElem? (i := 967) (by decide +kernel), List.mem_of_getElem? (i := 968) (by decide +kernel)⟩
theorem lw_p34 : lw_okq (⟨"RecordLeavesModel", "readPart", "()V"⟩, 49) := ⟨⟨by decide +kernel, by decide +kernel⟩, List.mem_of_getElem? (i := 641) (by decide +kernel), List.mem_of_getElem? (i := 971) (by decide +kernel), List.mem_of_getElem? (i := 972) (by decide +kernel)⟩
theorem lw_p35 : lw_okq (⟨"RecordLeavesModel", "readRow", "(Z)I"⟩, 49) := ⟨⟨by decide +kernel, by decide +kernel⟩, List.mem_of_getElem? (i := 641) (by decide +kernel), List.mem_of_getElem? (i := 975) (by decide +kernel), List.mem_of_getElem? (i := 976) (by decide +kernel)⟩
theorem lw_p36 : lw_okq (⟨"RecordLeavesModel", "endRecord", "()I"⟩, 49) := ⟨⟨by decide +kernel, by decide +kernel⟩, List.mem_of_getElem? (i := 641) (by decide +kernel), List.mem_of_getElem? (i := 979) (by decide +kernel), List.mem_of_getElem? (i := 980) (by decide +kernel)⟩
def lw_privs_3 : List (MethodName × Nat) := [(⟨"RecordLeavesModel", "fails", "(I)V"⟩, 49), (⟨"RecordLeavesModel", "want", "()J"⟩, 49), (⟨"RecordLeavesModel", "readPart", "()V"⟩, 49), (⟨"RecordLeavesModel", "readRow", "(Z)I"⟩, 49), (⟨"RecordLeavesModel", "endRecord", "()I"⟩, 49)]
theorem lw_r3 : ∀ q ∈ lw_privs_3, lw_okq q := List.forall_mem_cons.mpr ⟨lw_p32, List.forall_mem_cons.mpr ⟨lw_p33, List.forall_mem_cons.mpr ⟨lw_p34, List.forall_mem_cons.mpr ⟨lw_p35, List.forall_mem_cons.mpr ⟨lw_p36, fun _ h => absurd h List.not_mem_nil⟩⟩⟩⟩⟩
def lw_privs : List (MethodName × Nat) := lw_privs_1 ++ (lw_privs_2 ++ (lw_privs_3))
def lw_tbl : List Cond := k2_sels lw_privs ++ tables_1
theorem lw_privs_ok : ∀ q ∈ lw_privs, lw_okq q := by
  show ∀ q ∈ lw_privs_1 ++ (lw_privs_2 ++ (lw_privs_3)), lw_okq q
  exact List.forall_mem_append.mpr ⟨lw_r1, List.forall_mem_append.mpr ⟨lw_r2, lw_r3⟩⟩
end
section
def RX0 : String := "RecordLeaves$Check"
def TX0 : u_T := fun k => match k with
  | 0 => ("RecordLeaves$Check", "how", "I", true)
  | 1 => ("RecordLeaves$Check", "a", "I", true)
  | _ => ("RecordLeaves$Check", "b", "I", true)
def tyX0 : Nat → FieldType := fun k => match k with
  | 0 => .int
  | 1 => .int
  | _ => .int
theorem nmX0 : ∀ a, a < 3 → ∀ b, b < 3 → a ≠ b → (TX0 a).2.1 ≠ (TX0 b).2.1 := by decide +kernel
theorem tyX0_ok : ∀ k, k < 3 → parseFieldDescriptor (TX0 k).2.2.1 = some (tyX0 k) := by decide +kernel
abbrev cX0_init : ByteArray := prog_2_method_1_code
def yX0_init : MethodName := ⟨RX0, "<init>", "(III)V"⟩
abbrev cX0_whyNotPassed : ByteArray := prog_2_method_2_code
def yX0_whyNotPassed : MethodName := ⟨RX0, "whyNotPassed", "(LRecordLeaves$RecordThing;)I"⟩
abbrev cX0_ownUnless : ByteArray := prog_2_method_3_code
def yX0_ownUnless : MethodName := ⟨RX0, "ownUnless", "(Z)I"⟩
abbrev cX0_whyNotDivisor : ByteArray := prog_2_method_4_code
def yX0_whyNotDivisor : MethodName := ⟨RX0, "whyNotDivisor", "(J)I"⟩
abbrev cX0_whyNotItemAbove : ByteArray := prog_2_method_5_code
def yX0_whyNotItemAbove : MethodName := ⟨RX0, "whyNotItemAbove", "(LRecordLeaves$Thing;J)I"⟩
abbrev cX0_whyNotPartIs : ByteArray := prog_2_method_6_code
def yX0_whyNotPartIs : MethodName := ⟨RX0, "whyNotPartIs", "(LRecordLeaves$Thing;J)I"⟩
abbrev cX0_whyNotOrderBelow : ByteArray := prog_2_method_7_code
def yX0_whyNotOrderBelow : MethodName := ⟨RX0, "whyNotOrderBelow", "(LRecordLeaves$Thing;J)I"⟩
def RX1 : String := "RecordLeaves$Constant"
def TX1 : u_T := fun k => match k with
  | 0 => ("RecordLeaves$Constant", "its", "LRecordLeaves$EnumVersion;", true)
  | 1 => ("RecordLeaves$Constant", "name", "I", true)
  | 2 => ("RecordLeaves$Constant", "order", "I", true)
  | _ => ("RecordLeaves$Constant", "loud", "Z", true)
def tyX1 : Nat → FieldType := fun k => match k with
  | 0 => .object "RecordLeaves$EnumVersion"
  | 1 => .int
  | 2 => .int
  | _ => .boolean
theorem nmX1 : ∀ a, a < 4 → ∀ b, b < 4 → a ≠ b → (TX1 a).2.1 ≠ (TX1 b).2.1 := by decide +kernel
theorem tyX1_ok : ∀ k, k < 4 → parseFieldDescriptor (TX1 k).2.2.1 = some (tyX1 k) := by decide +kernel
abbrev cX1_init : ByteArray := prog_3_method_1_code
def yX1_init : MethodName := ⟨RX1, "<init>", "(LRecordLeaves$EnumVersion;IIZ)V"⟩
abbrev cX1_family : ByteArray := prog_3_method_2_code
def yX1_family : MethodName := ⟨RX1, "family", "()I"⟩
abbrev cX1_kind : ByteArray := prog_3_method_3_code
def yX1_kind : MethodName := ⟨RX1, "kind", "()I"⟩
abbrev cX1_version : ByteArray := prog_3_method_4_code
def yX1_version : MethodName := ⟨RX1, "version", "()I"⟩
abbrev cX1_extent : ByteArray := prog_3_method_5_code
def yX1_extent : MethodName := ⟨RX1, "extent", "()I"⟩
def RX2 : String := "RecordLeaves$EnumVersion"
def TX2 : u_T := fun k => match k with
  | 0 => ("RecordLeaves$EnumVersion", "kind", "I", true)
  | 1 => ("RecordLeaves$EnumVersion", "version", "I", true)
  | 2 => ("RecordLeaves$EnumVersion", "constants", "[LRecordLeaves$Constant;", true)
  | _ => ("RecordLeaves$EnumVersion", "constantCount", "I", false)
def tyX2 : Nat → FieldType := fun k => match k with
  | 0 => .int
  | 1 => .int
  | 2 => .array (.object "RecordLeaves$Constant")
  | _ => .int
theorem nmX2 : ∀ a, a < 4 → ∀ b, b < 4 → a ≠ b → (TX2 a).2.1 ≠ (TX2 b).2.1 := by decide +kernel
theorem tyX2_ok : ∀ k, k < 4 → parseFieldDescriptor (TX2 k).2.2.1 = some (tyX2 k) := by decide +kernel
abbrev cX2_init : ByteArray := prog_4_method_1_code
def yX2_init : MethodName := ⟨RX2, "<init>", "(II)V"⟩
abbrev cX2_named : ByteArray := prog_4_method_2_code
def yX2_named : MethodName := ⟨RX2, "named", "(J)LRecordLeaves$Constant;"⟩
abbrev cX2_add : ByteArray := prog_4_method_3_code
def yX2_add : MethodName := ⟨RX2, "add", "(IZ)I"⟩
def RX3 : String := "RecordLeaves$Kinds"
def TX3 : u_T := fun k => match k with
  | 0 => ("RecordLeaves$Kinds", "enums", "[LRecordLeaves$EnumVersion;", true)
  | _ => ("RecordLeaves$Kinds", "records", "[LRecordLeaves$RecordVersion;", true)
def tyX3 : Nat → FieldType := fun k => match k with
  | 0 => .array (.object "RecordLeaves$EnumVersion")
  | _ => .array (.object "RecordLeaves$RecordVersion")
theorem nmX3 : ∀ a, a < 2 → ∀ b, b < 2 → a ≠ b → (TX3 a).2.1 ≠ (TX3 b).2.1 := by decide +kernel
theorem tyX3_ok : ∀ k, k < 2 → parseFieldDescriptor (TX3 k).2.2.1 = some (tyX3 k) := by decide +kernel
abbrev cX3_init : ByteArray := prog_5_method_1_code
def yX3_init : MethodName := ⟨RX3, "<init>", "()V"⟩
abbrev cX3_enumVersion : ByteArray := prog_5_method_2_code
def yX3_enumVersion : MethodName := ⟨RX3, "enumVersion", "(II)LRecordLeaves$EnumVersion;"⟩
abbrev cX3_recordVersion : ByteArray := prog_5_method_3_code
def yX3_recordVersion : MethodName := ⟨RX3, "recordVersion", "(JI)LRecordLeaves$RecordVersion;"⟩
def RX4 : String := "RecordLeaves$Part"
def TX4 : u_T := fun k => match k with
  | 0 => ("RecordLeaves$Part", "name", "I", true)
  | 1 => ("RecordLeaves$Part", "sort", "I", true)
  | _ => ("RecordLeaves$Part", "of", "I", true)
def tyX4 : Nat → FieldType := fun k => match k with
  | 0 => .int
  | 1 => .int
  | _ => .int
theorem nmX4 : ∀ a, a < 3 → ∀ b, b < 3 → a ≠ b → (TX4 a).2.1 ≠ (TX4 b).2.1 := by decide +kernel
theorem tyX4_ok : ∀ k, k < 3 → parseFieldDescriptor (TX4 k).2.2.1 = some (tyX4 k) := by decide +kernel
abbrev cX4_init : ByteArray := prog_6_method_1_code
def yX4_init : MethodName := ⟨RX4, "<init>", "(III)V"⟩
abbrev cX4_whyNotTaken : ByteArray := prog_6_method_2_code
def yX4_whyNotTaken : MethodName := ⟨RX4, "whyNotTaken", "(JLRecordLeaves$Thing;I)I"⟩
abbrev cX4_isOfClass : ByteArray := prog_6_method_3_code
def yX4_isOfClass : MethodName := ⟨RX4, "isOfClass", "(LRecordLeaves$Thing;)Z"⟩
def RX5 : String := "RecordLeaves$Reader"
def TX5 : u_T := fun k => match k with
  | 0 => ("RecordLeaves$Reader", "kinds", "LRecordLeaves$Kinds;", true)
  | 1 => ("RecordLeaves$Reader", "tape", "LRecordLeaves$Tape;", true)
  | 2 => ("RecordLeaves$Reader", "version", "I", true)
  | 3 => ("RecordLeaves$Reader", "next", "I", false)
  | 4 => ("RecordLeaves$Reader", "last", "I", false)
  | 5 => ("RecordLeaves$Reader", "open", "I", false)
  | 6 => ("RecordLeaves$Reader", "why", "I", false)
  | _ => ("RecordLeaves$Reader", "made", "I", false)
def tyX5 : Nat → FieldType := fun k => match k with
  | 0 => .object "RecordLeaves$Kinds"
  | 1 => .object "RecordLeaves$Tape"
  | 2 => .int
  | 3 => .int
  | 4 => .int
  | 5 => .int
  | 6 => .int
  | _ => .int
theorem nmX5 : ∀ a, a < 8 → ∀ b, b < 8 → a ≠ b → (TX5 a).2.1 ≠ (TX5 b).2.1 := by decide +kernel
theorem tyX5_ok : ∀ k, k < 8 → parseFieldDescriptor (TX5 k).2.2.1 = some (tyX5 k) := by decide +kernel
abbrev cX5_init : ByteArray := prog_7_method_1_code
def yX5_init : MethodName := ⟨RX5, "<init>", "(LRecordLeaves$Kinds;LRecordLeaves$Tape;I)V"⟩
abbrev cX5_fail : ByteArray := prog_7_method_2_code
def yX5_fail : MethodName := ⟨RX5, "fail", "(I)V"⟩
abbrev cX5_nextLeaf : ByteArray := prog_7_method_3_code
def yX5_nextLeaf : MethodName := ⟨RX5, "nextLeaf", "()J"⟩
abbrev cX5_nextRecord : ByteArray := prog_7_method_4_code
def yX5_nextRecord : MethodName := ⟨RX5, "nextRecord", "(Z)LRecordLeaves$RecordThing;"⟩
abbrev cX5_finished : ByteArray := prog_7_method_5_code
def yX5_finished : MethodName := ⟨RX5, "finished", "(LRecordLeaves$RecordThing;)LRecordLeaves$RecordThing;"⟩
abbrev cX5_nextPart : ByteArray := prog_7_method_6_code
def yX5_nextPart : MethodName := ⟨RX5, "nextPart", "(LRecordLeaves$RecordThing;)V"⟩
abbrev cX5_nextThing : ByteArray := prog_7_method_7_code
def yX5_nextThing : MethodName := ⟨RX5, "nextThing", "(ILRecordLeaves$Part;)LRecordLeaves$Thing;"⟩
abbrev cX5_nextConstant : ByteArray := prog_7_method_8_code
def yX5_nextConstant : MethodName := ⟨RX5, "nextConstant", "(LRecordLeaves$Part;)LRecordLeaves$Constant;"⟩
abbrev cX5_nextRow : ByteArray := prog_7_method_9_code
def yX5_nextRow : MethodName := ⟨RX5, "nextRow", "(Z)LRecordLeaves$Row;"⟩
def RX6 : String := "RecordLeaves$RecordThing"
def TX6 : u_T := fun k => match k with
  | 0 => ("RecordLeaves$RecordThing", "its", "LRecordLeaves$RecordVersion;", true)
  | 1 => ("RecordLeaves$RecordThing", "numbers", "[J", true)
  | _ => ("RecordLeaves$RecordThing", "things", "[LRecordLeaves$Thing;", true)
def tyX6 : Nat → FieldType := fun k => match k with
  | 0 => .object "RecordLeaves$RecordVersion"
  | 1 => .array .long
  | _ => .array (.object "RecordLeaves$Thing")
theorem nmX6 : ∀ a, a < 3 → ∀ b, b < 3 → a ≠ b → (TX6 a).2.1 ≠ (TX6 b).2.1 := by decide +kernel
theorem tyX6_ok : ∀ k, k < 3 → parseFieldDescriptor (TX6 k).2.2.1 = some (tyX6 k) := by decide +kernel
abbrev cX6_init : ByteArray := prog_8_method_1_code
def yX6_init : MethodName := ⟨RX6, "<init>", "(LRecordLeaves$RecordVersion;)V"⟩
abbrev cX6_family : ByteArray := prog_8_method_2_code
def yX6_family : MethodName := ⟨RX6, "family", "()I"⟩
abbrev cX6_kind : ByteArray := prog_8_method_3_code
def yX6_kind : MethodName := ⟨RX6, "kind", "()I"⟩
abbrev cX6_version : ByteArray := prog_8_method_4_code
def yX6_version : MethodName := ⟨RX6, "version", "()I"⟩
abbrev cX6_extent : ByteArray := prog_8_method_5_code
def yX6_extent : MethodName := ⟨RX6, "extent", "()I"⟩
abbrev cX6_isNumber : ByteArray := prog_8_method_6_code
def yX6_isNumber : MethodName := ⟨RX6, "isNumber", "(I)Z"⟩
abbrev cX6_put : ByteArray := prog_8_method_7_code
def yX6_put : MethodName := ⟨RX6, "put", "(IJLRecordLeaves$Thing;)V"⟩
def RX7 : String := "RecordLeaves$RecordVersion"
def TX7 : u_T := fun k => match k with
  | 0 => ("RecordLeaves$RecordVersion", "kind", "I", true)
  | 1 => ("RecordLeaves$RecordVersion", "version", "I", true)
  | 2 => ("RecordLeaves$RecordVersion", "parts", "[LRecordLeaves$Part;", true)
  | 3 => ("RecordLeaves$RecordVersion", "checks", "[LRecordLeaves$Check;", true)
  | 4 => ("RecordLeaves$RecordVersion", "partCount", "I", false)
  | _ => ("RecordLeaves$RecordVersion", "checkCount", "I", false)
def tyX7 : Nat → FieldType := fun k => match k with
  | 0 => .int
  | 1 => .int
  | 2 => .array (.object "RecordLeaves$Part")
  | 3 => .array (.object "RecordLeaves$Check")
  | 4 => .int
  | _ => .int
theorem nmX7 : ∀ a, a < 6 → ∀ b, b < 6 → a ≠ b → (TX7 a).2.1 ≠ (TX7 b).2.1 := by decide +kernel
theorem tyX7_ok : ∀ k, k < 6 → parseFieldDescriptor (TX7 k).2.2.1 = some (tyX7 k) := by decide +kernel
abbrev cX7_init : ByteArray := prog_9_method_1_code
def yX7_init : MethodName := ⟨RX7, "<init>", "(II)V"⟩
abbrev cX7_partNamed : ByteArray := prog_9_method_2_code
def yX7_partNamed : MethodName := ⟨RX7, "partNamed", "(J)I"⟩
abbrev cX7_hasPart : ByteArray := prog_9_method_3_code
def yX7_hasPart : MethodName := ⟨RX7, "hasPart", "(II)Z"⟩
abbrev cX7_addPart : ByteArray := prog_9_method_4_code
def yX7_addPart : MethodName := ⟨RX7, "addPart", "(LRecordLeaves$Part;)I"⟩
abbrev cX7_addCheck : ByteArray := prog_9_method_5_code
def yX7_addCheck : MethodName := ⟨RX7, "addCheck", "(LRecordLeaves$Check;)I"⟩
abbrev cX7_whyNotMade : ByteArray := prog_9_method_6_code
def yX7_whyNotMade : MethodName := ⟨RX7, "whyNotMade", "(LRecordLeaves$RecordThing;)I"⟩
def RX8 : String := "RecordLeaves$Row"
def TX8 : u_T := fun k => match k with
  | _ => ("RecordLeaves$Row", "items", "[I", true)
def tyX8 : Nat → FieldType := fun k => match k with
  | _ => .array .int
theorem nmX8 : ∀ a, a < 1 → ∀ b, b < 1 → a ≠ b → (TX8 a).2.1 ≠ (TX8 b).2.1 := by decide +kernel
theorem tyX8_ok : ∀ k, k < 1 → parseFieldDescriptor (TX8 k).2.2.1 = some (tyX8 k) := by decide +kernel
abbrev cX8_init : ByteArray := prog_10_method_1_code
def yX8_init : MethodName := ⟨RX8, "<init>", "(I)V"⟩
abbrev cX8_family : ByteArray := prog_10_method_2_code
def yX8_family : MethodName := ⟨RX8, "family", "()I"⟩
abbrev cX8_kind : ByteArray := prog_10_method_3_code
def yX8_kind : MethodName := ⟨RX8, "kind", "()I"⟩
abbrev cX8_version : ByteArray := prog_10_method_4_code
def yX8_version : MethodName := ⟨RX8, "version", "()I"⟩
abbrev cX8_extent : ByteArray := prog_10_method_5_code
def yX8_extent : MethodName := ⟨RX8, "extent", "()I"⟩
def RX9 : String := "RecordLeaves$Tape"
def TX9 : u_T := fun k => match k with
  | 0 => ("RecordLeaves$Tape", "leaves", "[J", true)
  | 1 => ("RecordLeaves$Tape", "fresh", "[J", true)
  | 2 => ("RecordLeaves$Tape", "size", "I", false)
  | _ => ("RecordLeaves$Tape", "freshSize", "I", false)
def tyX9 : Nat → FieldType := fun k => match k with
  | 0 => .array .long
  | 1 => .array .long
  | 2 => .int
  | _ => .int
theorem nmX9 : ∀ a, a < 4 → ∀ b, b < 4 → a ≠ b → (TX9 a).2.1 ≠ (TX9 b).2.1 := by decide +kernel
theorem tyX9_ok : ∀ k, k < 4 → parseFieldDescriptor (TX9 k).2.2.1 = some (tyX9 k) := by decide +kernel
abbrev cX9_init : ByteArray := prog_11_method_1_code
def yX9_init : MethodName := ⟨RX9, "<init>", "()V"⟩
abbrev cX9_replaceBy : ByteArray := prog_11_method_2_code
def yX9_replaceBy : MethodName := ⟨RX9, "replaceBy", "(LRecordLeaves$RecordThing;)I"⟩
abbrev cX9_put : ByteArray := prog_11_method_3_code
def yX9_put : MethodName := ⟨RX9, "put", "(J)V"⟩
abbrev cX9_putRecord : ByteArray := prog_11_method_4_code
def yX9_putRecord : MethodName := ⟨RX9, "putRecord", "(LRecordLeaves$RecordThing;I)V"⟩
abbrev cX9_putValue : ByteArray := prog_11_method_5_code
def yX9_putValue : MethodName := ⟨RX9, "putValue", "(LRecordLeaves$RecordThing;II)V"⟩
abbrev cX9_putItems : ByteArray := prog_11_method_6_code
def yX9_putItems : MethodName := ⟨RX9, "putItems", "([I)V"⟩
def RX10 : String := "RecordLeaves$Thing"
def TX10 : u_T := fun k => match k with
  | _ => ("", "", "", false)
def tyX10 : Nat → FieldType := fun k => match k with
  | _ => .int
theorem nmX10 : ∀ a, a < 0 → ∀ b, b < 0 → a ≠ b → (TX10 a).2.1 ≠ (TX10 b).2.1 := by decide +kernel
theorem tyX10_ok : ∀ k, k < 0 → parseFieldDescriptor (TX10 k).2.2.1 = some (tyX10 k) := by decide +kernel
abbrev cX10_init : ByteArray := prog_12_method_1_code
def yX10_init : MethodName := ⟨RX10, "<init>", "()V"⟩
def RX11 : String := "RecordLeaves"
def TX11 : u_T := fun k => match k with
  | 0 => ("RecordLeaves", "kinds", "LRecordLeaves$Kinds;", true)
  | 1 => ("RecordLeaves", "places", "[LRecordLeaves$Thing;", true)
  | 2 => ("RecordLeaves", "givenNumbers", "[J", true)
  | 3 => ("RecordLeaves", "givenPlaces", "[I", true)
  | 4 => ("RecordLeaves", "tape", "LRecordLeaves$Tape;", true)
  | 5 => ("RecordLeaves", "told", "I", false)
  | 6 => ("RecordLeaves", "causeWhy", "I", false)
  | 7 => ("RecordLeaves", "causeLeaf", "I", false)
  | 8 => ("RecordLeaves", "causeRecords", "I", false)
  | 9 => ("RecordLeaves", "made", "I", false)
  | 10 => ("RecordLeaves", "readWell", "I", false)
  | _ => ("RecordLeaves", "readBadly", "I", false)
def tyX11 : Nat → FieldType := fun k => match k with
  | 0 => .object "RecordLeaves$Kinds"
  | 1 => .array (.object "RecordLeaves$Thing")
  | 2 => .array .long
  | 3 => .array .int
  | 4 => .object "RecordLeaves$Tape"
  | 5 => .int
  | 6 => .int
  | 7 => .int
  | 8 => .int
  | 9 => .int
  | 10 => .int
  | _ => .int
theorem nmX11 : ∀ a, a < 12 → ∀ b, b < 12 → a ≠ b → (TX11 a).2.1 ≠ (TX11 b).2.1 := by decide +kernel
theorem tyX11_ok : ∀ k, k < 12 → parseFieldDescriptor (TX11 k).2.2.1 = some (tyX11 k) := by decide +kernel
abbrev cX11_init : ByteArray := prog_1_method_1_code
def yX11_init : MethodName := ⟨RX11, "<init>", "()V"⟩
abbrev cX11_constant : ByteArray := prog_1_method_2_code
def yX11_constant : MethodName := ⟨RX11, "constant", "(IIIZ)I"⟩
abbrev cX11_part : ByteArray := prog_1_method_3_code
def yX11_part : MethodName := ⟨RX11, "part", "(IIIII)I"⟩
abbrev cX11_check : ByteArray := prog_1_method_4_code
def yX11_check : MethodName := ⟨RX11, "check", "(IIIII)I"⟩
abbrev cX11_hold : ByteArray := prog_1_method_5_code
def yX11_hold : MethodName := ⟨RX11, "hold", "(IIII)I"⟩
abbrev cX11_row : ByteArray := prog_1_method_6_code
def yX11_row : MethodName := ⟨RX11, "row", "(II)I"⟩
abbrev cX11_item : ByteArray := prog_1_method_7_code
def yX11_item : MethodName := ⟨RX11, "item", "(III)I"⟩
abbrev cX11_share : ByteArray := prog_1_method_8_code
def yX11_share : MethodName := ⟨RX11, "share", "(II)I"⟩
abbrev cX11_give : ByteArray := prog_1_method_9_code
def yX11_give : MethodName := ⟨RX11, "give", "(IJI)I"⟩
abbrev cX11_make : ByteArray := prog_1_method_10_code
def yX11_make : MethodName := ⟨RX11, "make", "(III)I"⟩
abbrev cX11_about : ByteArray := prog_1_method_11_code
def yX11_about : MethodName := ⟨RX11, "about", "(II)I"⟩
abbrev cX11_number : ByteArray := prog_1_method_12_code
def yX11_number : MethodName := ⟨RX11, "number", "(II)J"⟩
abbrev cX11_take : ByteArray := prog_1_method_13_code
def yX11_take : MethodName := ⟨RX11, "take", "(III)I"⟩
abbrev cX11_like : ByteArray := prog_1_method_14_code
def yX11_like : MethodName := ⟨RX11, "like", "(II)I"⟩
abbrev cX11_write : ByteArray := prog_1_method_15_code
def yX11_write : MethodName := ⟨RX11, "write", "(I)I"⟩
abbrev cX11_leaf : ByteArray := prog_1_method_16_code
def yX11_leaf : MethodName := ⟨RX11, "leaf", "(I)J"⟩
abbrev cX11_set : ByteArray := prog_1_method_17_code
def yX11_set : MethodName := ⟨RX11, "set", "(IJ)I"⟩
abbrev cX11_cut : ByteArray := prog_1_method_18_code
def yX11_cut : MethodName := ⟨RX11, "cut", "(I)I"⟩
abbrev cX11_read : ByteArray := prog_1_method_19_code
def yX11_read : MethodName := ⟨RX11, "read", "(II)I"⟩
abbrev cX11_cause : ByteArray := prog_1_method_20_code
def yX11_cause : MethodName := ⟨RX11, "cause", "(I)I"⟩
abbrev cX11_status : ByteArray := prog_1_method_21_code
def yX11_status : MethodName := ⟨RX11, "status", "()I"⟩
abbrev cX11_count : ByteArray := prog_1_method_22_code
def yX11_count : MethodName := ⟨RX11, "count", "(I)I"⟩
abbrev cX11_rememberCause : ByteArray := prog_1_method_23_code
def yX11_rememberCause : MethodName := ⟨RX11, "rememberCause", "(III)V"⟩
abbrev cX11_heldPlaces : ByteArray := prog_1_method_24_code
def yX11_heldPlaces : MethodName := ⟨RX11, "heldPlaces", "()I"⟩
abbrev cX11_below : ByteArray := prog_1_method_25_code
def yX11_below : MethodName := ⟨RX11, "below", "(II)Z"⟩
abbrev cX11_mayBeOf : ByteArray := prog_1_method_26_code
def yX11_mayBeOf : MethodName := ⟨RX11, "mayBeOf", "(II)Z"⟩
abbrev cX11_sortChecked : ByteArray := prog_1_method_27_code
def yX11_sortChecked : MethodName := ⟨RX11, "sortChecked", "(I)I"⟩
abbrev cX11_familyOf : ByteArray := prog_1_method_28_code
def yX11_familyOf : MethodName := ⟨RX11, "familyOf", "(LRecordLeaves$Thing;)I"⟩
abbrev cX11_alike : ByteArray := prog_1_method_29_code
def yX11_alike : MethodName := ⟨RX11, "alike", "(LRecordLeaves$Thing;LRecordLeaves$Thing;I)Z"⟩
abbrev cX11_alikeRecords : ByteArray := prog_1_method_30_code
def yX11_alikeRecords : MethodName := ⟨RX11, "alikeRecords", "(LRecordLeaves$RecordThing;LRecordLeaves$RecordThing;I)Z"⟩
abbrev cX11_sameItems : ByteArray := prog_1_method_31_code
def yX11_sameItems : MethodName := ⟨RX11, "sameItems", "([I[I)Z"⟩
def RX12 : String := "RecordLeavesModel"
def TX12 : u_T := fun k => match k with
  | 0 => ("RecordLeavesModel", "constants", "[I", true)
  | 1 => ("RecordLeavesModel", "constantName", "[I", true)
  | 2 => ("RecordLeavesModel", "isLoud", "[Z", true)
  | 3 => ("RecordLeavesModel", "parts", "[I", true)
  | 4 => ("RecordLeavesModel", "partName", "[I", true)
  | 5 => ("RecordLeavesModel", "sorts", "[I", true)
  | 6 => ("RecordLeavesModel", "ofs", "[I", true)
  | 7 => ("RecordLeavesModel", "checks", "[I", true)
  | 8 => ("RecordLeavesModel", "hows", "[I", true)
  | 9 => ("RecordLeavesModel", "checkA", "[I", true)
  | 10 => ("RecordLeavesModel", "checkB", "[I", true)
  | 11 => ("RecordLeavesModel", "rows", "I", false)
  | 12 => ("RecordLeavesModel", "sizes", "[I", true)
  | 13 => ("RecordLeavesModel", "items", "[I", true)
  | 14 => ("RecordLeavesModel", "records", "I", false)
  | 15 => ("RecordLeavesModel", "shapeOf", "[I", true)
  | 16 => ("RecordLeavesModel", "partsOf", "[I", true)
  | 17 => ("RecordLeavesModel", "numbers", "[J", true)
  | 18 => ("RecordLeavesModel", "things", "[I", true)
  | 19 => ("RecordLeavesModel", "places", "[I", true)
  | 20 => ("RecordLeavesModel", "givenNumber", "[J", true)
  | 21 => ("RecordLeavesModel", "givenPlace", "[I", true)
  | 22 => ("RecordLeavesModel", "leaves", "I", false)
  | 23 => ("RecordLeavesModel", "tape", "[J", true)
  | 24 => ("RecordLeavesModel", "why", "I", false)
  | 25 => ("RecordLeavesModel", "leafAt", "I", false)
  | 26 => ("RecordLeavesModel", "begun", "I", false)
  | 27 => ("RecordLeavesModel", "status", "I", false)
  | 28 => ("RecordLeavesModel", "made", "I", false)
  | 29 => ("RecordLeavesModel", "goodReads", "I", false)
  | 30 => ("RecordLeavesModel", "badReads", "I", false)
  | 31 => ("RecordLeavesModel", "numberNow", "[J", true)
  | 32 => ("RecordLeavesModel", "thingNow", "[I", true)
  | 33 => ("RecordLeavesModel", "pairs", "I", false)
  | 34 => ("RecordLeavesModel", "pairA", "[I", true)
  | 35 => ("RecordLeavesModel", "pairB", "[I", true)
  | 36 => ("RecordLeavesModel", "within", "[I", true)
  | 37 => ("RecordLeavesModel", "wrote", "I", false)
  | 38 => ("RecordLeavesModel", "newTape", "[J", true)
  | 39 => ("RecordLeavesModel", "open", "[I", true)
  | 40 => ("RecordLeavesModel", "nextPart", "[I", true)
  | 41 => ("RecordLeavesModel", "at", "I", false)
  | 42 => ("RecordLeavesModel", "last", "I", false)
  | 43 => ("RecordLeavesModel", "bad", "I", false)
  | 44 => ("RecordLeavesModel", "version", "I", false)
  | 45 => ("RecordLeavesModel", "deep", "I", false)
  | 46 => ("RecordLeavesModel", "shapes", "[I", true)
  | 47 => ("RecordLeavesModel", "left", "[J", true)
  | _ => ("RecordLeavesModel", "inner", "[I", true)
def tyX12 : Nat → FieldType := fun k => match k with
  | 0 => .array .int
  | 1 => .array .int
  | 2 => .array .boolean
  | 3 => .array .int
  | 4 => .array .int
  | 5 => .array .int
  | 6 => .array .int
  | 7 => .array .int
  | 8 => .array .int
  | 9 => .array .int
  | 10 => .array .int
  | 11 => .int
  | 12 => .array .int
  | 13 => .array .int
  | 14 => .int
  | 15 => .array .int
  | 16 => .array .int
  | 17 => .array .long
  | 18 => .array .int
  | 19 => .array .int
  | 20 => .array .long
  | 21 => .array .int
  | 22 => .int
  | 23 => .array .long
  | 24 => .int
  | 25 => .int
  | 26 => .int
  | 27 => .int
  | 28 => .int
  | 29 => .int
  | 30 => .int
  | 31 => .array .long
  | 32 => .array .int
  | 33 => .int
  | 34 => .array .int
  | 35 => .array .int
  | 36 => .array .int
  | 37 => .int
  | 38 => .array .long
  | 39 => .array .int
  | 40 => .array .int
  | 41 => .int
  | 42 => .int
  | 43 => .int
  | 44 => .int
  | 45 => .int
  | 46 => .array .int
  | 47 => .array .long
  | _ => .array .int
theorem nmX12 : ∀ a, a < 49 → ∀ b, b < 49 → a ≠ b → (TX12 a).2.1 ≠ (TX12 b).2.1 := by decide +kernel
theorem tyX12_ok : ∀ k, k < 49 → parseFieldDescriptor (TX12 k).2.2.1 = some (tyX12 k) := by decide +kernel
abbrev cX12_init : ByteArray := prog_14_method_1_code
def yX12_init : MethodName := ⟨RX12, "<init>", "()V"⟩
abbrev cX12_in : ByteArray := prog_14_method_2_code
def yX12_in : MethodName := ⟨RX12, "in", "(JJJ)Z"⟩
abbrev cX12_isPlace : ByteArray := prog_14_method_3_code
def yX12_isPlace : MethodName := ⟨RX12, "isPlace", "(I)Z"⟩
abbrev cX12_isVersion : ByteArray := prog_14_method_4_code
def yX12_isVersion : MethodName := ⟨RX12, "isVersion", "(I)Z"⟩
abbrev cX12_isRecordKind : ByteArray := prog_14_method_5_code
def yX12_isRecordKind : MethodName := ⟨RX12, "isRecordKind", "(J)Z"⟩
abbrev cX12_constantBy : ByteArray := prog_14_method_6_code
def yX12_constantBy : MethodName := ⟨RX12, "constantBy", "(IIJ)I"⟩
abbrev cX12_constant : ByteArray := prog_14_method_7_code
def yX12_constant : MethodName := ⟨RX12, "constant", "(IIIZ)I"⟩
abbrev cX12_partBy : ByteArray := prog_14_method_8_code
def yX12_partBy : MethodName := ⟨RX12, "partBy", "(IJ)I"⟩
abbrev cX12_part : ByteArray := prog_14_method_9_code
def yX12_part : MethodName := ⟨RX12, "part", "(IIIII)I"⟩
abbrev cX12_isSort : ByteArray := prog_14_method_10_code
def yX12_isSort : MethodName := ⟨RX12, "isSort", "(III)Z"⟩
abbrev cX12_check : ByteArray := prog_14_method_11_code
def yX12_check : MethodName := ⟨RX12, "check", "(IIIII)I"⟩
abbrev cX12_familyOf : ByteArray := prog_14_method_12_code
def yX12_familyOf : MethodName := ⟨RX12, "familyOf", "(I)I"⟩
abbrev cX12_hold : ByteArray := prog_14_method_13_code
def yX12_hold : MethodName := ⟨RX12, "hold", "(IIII)I"⟩
abbrev cX12_newRow : ByteArray := prog_14_method_14_code
def yX12_newRow : MethodName := ⟨RX12, "newRow", "(I)I"⟩
abbrev cX12_row : ByteArray := prog_14_method_15_code
def yX12_row : MethodName := ⟨RX12, "row", "(II)I"⟩
abbrev cX12_item : ByteArray := prog_14_method_16_code
def yX12_item : MethodName := ⟨RX12, "item", "(III)I"⟩
abbrev cX12_share : ByteArray := prog_14_method_17_code
def yX12_share : MethodName := ⟨RX12, "share", "(II)I"⟩
abbrev cX12_give : ByteArray := prog_14_method_18_code
def yX12_give : MethodName := ⟨RX12, "give", "(IJI)I"⟩
abbrev cX12_taken : ByteArray := prog_14_method_19_code
def yX12_taken : MethodName := ⟨RX12, "taken", "(IIJI)I"⟩
abbrev cX12_checked : ByteArray := prog_14_method_20_code
def yX12_checked : MethodName := ⟨RX12, "checked", "(IJIJ)I"⟩
abbrev cX12_record : ByteArray := prog_14_method_21_code
def yX12_record : MethodName := ⟨RX12, "record", "(II)I"⟩
abbrev cX12_make : ByteArray := prog_14_method_22_code
def yX12_make : MethodName := ⟨RX12, "make", "(III)I"⟩
abbrev cX12_about : ByteArray := prog_14_method_23_code
def yX12_about : MethodName := ⟨RX12, "about", "(II)I"⟩
abbrev cX12_partAt : ByteArray := prog_14_method_24_code
def yX12_partAt : MethodName := ⟨RX12, "partAt", "(II)I"⟩
abbrev cX12_isNumber : ByteArray := prog_14_method_25_code
def yX12_isNumber : MethodName := ⟨RX12, "isNumber", "(I)Z"⟩
abbrev cX12_number : ByteArray := prog_14_method_26_code
def yX12_number : MethodName := ⟨RX12, "number", "(II)J"⟩
abbrev cX12_take : ByteArray := prog_14_method_27_code
def yX12_take : MethodName := ⟨RX12, "take", "(III)I"⟩
abbrev cX12_pair : ByteArray := prog_14_method_28_code
def yX12_pair : MethodName := ⟨RX12, "pair", "(III)V"⟩
abbrev cX12_rowsLike : ByteArray := prog_14_method_29_code
def yX12_rowsLike : MethodName := ⟨RX12, "rowsLike", "(II)Z"⟩
abbrev cX12_opens : ByteArray := prog_14_method_30_code
def yX12_opens : MethodName := ⟨RX12, "opens", "(III)Z"⟩
abbrev cX12_like : ByteArray := prog_14_method_31_code
def yX12_like : MethodName := ⟨RX12, "like", "(II)I"⟩
abbrev cX12_put : ByteArray := prog_14_method_32_code
def yX12_put : MethodName := ⟨RX12, "put", "(J)V"⟩
abbrev cX12_begins : ByteArray := prog_14_method_33_code
def yX12_begins : MethodName := ⟨RX12, "begins", "(II)I"⟩
abbrev cX12_writePart : ByteArray := prog_14_method_34_code
def yX12_writePart : MethodName := ⟨RX12, "writePart", "(I)I"⟩
abbrev cX12_write : ByteArray := prog_14_method_35_code
def yX12_write : MethodName := ⟨RX12, "write", "(I)I"⟩
abbrev cX12_leaf : ByteArray := prog_14_method_36_code
def yX12_leaf : MethodName := ⟨RX12, "leaf", "(I)J"⟩
abbrev cX12_set : ByteArray := prog_14_method_37_code
def yX12_set : MethodName := ⟨RX12, "set", "(IJ)I"⟩
abbrev cX12_cut : ByteArray := prog_14_method_38_code
def yX12_cut : MethodName := ⟨RX12, "cut", "(I)I"⟩
abbrev cX12_fails : ByteArray := prog_14_method_39_code
def yX12_fails : MethodName := ⟨RX12, "fails", "(I)V"⟩
abbrev cX12_want : ByteArray := prog_14_method_40_code
def yX12_want : MethodName := ⟨RX12, "want", "()J"⟩
abbrev cX12_beginRecord : ByteArray := prog_14_method_41_code
def yX12_beginRecord : MethodName := ⟨RX12, "beginRecord", "(Z)V"⟩
abbrev cX12_readRow : ByteArray := prog_14_method_42_code
def yX12_readRow : MethodName := ⟨RX12, "readRow", "(Z)I"⟩
abbrev cX12_readPart : ByteArray := prog_14_method_43_code
def yX12_readPart : MethodName := ⟨RX12, "readPart", "()V"⟩
abbrev cX12_endRecord : ByteArray := prog_14_method_44_code
def yX12_endRecord : MethodName := ⟨RX12, "endRecord", "()I"⟩
abbrev cX12_read : ByteArray := prog_14_method_45_code
def yX12_read : MethodName := ⟨RX12, "read", "(II)I"⟩
abbrev cX12_cause : ByteArray := prog_14_method_46_code
def yX12_cause : MethodName := ⟨RX12, "cause", "(I)I"⟩
abbrev cX12_status : ByteArray := prog_14_method_47_code
def yX12_status : MethodName := ⟨RX12, "status", "()I"⟩
abbrev cX12_count : ByteArray := prog_14_method_48_code
def yX12_count : MethodName := ⟨RX12, "count", "(I)I"⟩
def RL : String := "RecordLeavesLaw"
abbrev cL_law : ByteArray := code
def yL_law : MethodName := ⟨RL, "law", "([I)Z"⟩
abbrev vwCl : List vw_C := [(RX0, TX0, 3), (RX1, TX1, 4), (RX2, TX2, 4), (RX3, TX3, 2), (RX4, TX4, 3), (RX5, TX5, 8), (RX6, TX6, 3), (RX7, TX7, 6), (RX8, TX8, 1), (RX9, TX9, 4), (RX11, TX11, 12), (RX12, TX12, 49)]
def rl_cl : List vw_C := vwCl
def rl_tys (t : Nat → ClassId) : List (ClassId × FieldType) := [(t 0, .int), (t 1, .long), (t 2, .boolean), (t 3, .object "RecordLeaves$Thing"), (t 4, .object "RecordLeaves$Constant"), (t 5, .object "RecordLeaves$Part"), (t 6, .object "RecordLeaves$Check"), (t 7, .object "RecordLeaves$EnumVersion"), (t 8, .object "RecordLeaves$RecordVersion")]
def rl_ncl : List (String × String) := [("RecordLeaves$Constant", "RecordLeaves$Row"), ("RecordLeaves$RecordThing", "RecordLeaves$Row"), ("RecordLeaves$Row", "RecordLeaves$Constant"), ("RecordLeaves$RecordThing", "RecordLeaves$Constant"), ("RecordLeaves$Constant", "RecordLeaves$RecordThing"), ("RecordLeaves$Row", "RecordLeaves$RecordThing")]
end
section
/-! MY ROWS: one memory (a function from addresses to cells), one context, one contract's shape -/
abbrev rl_M : Type := Nat → Option va_E
def rl_up (f : rl_M) (a : Nat) (e : va_E) : rl_M := fun b => if b = a then some e else f b
theorem rl_up_s (f : rl_M) (a : Nat) (e : va_E) : rl_up f a e a = some e := by simp [rl_up]
theorem rl_up_n {f : rl_M} {a b : Nat} {e : va_E} (h : b ≠ a) : rl_up f a e b = f b := by simp [rl_up, h]
theorem rl_ne {f : rl_M} {a b : Nat} {e e' : va_E} (h : f a = some e) (h' : f b = some e') (hne : e ≠ e') : a ≠ b := fun q => hne (Option.some.inj (by rw [← h, ← h', q]))
theorem rl_ne0 {f : rl_M} {a b : Nat} {e : va_E} (h : f a = some e) (h' : f b = none) : a ≠ b := fun q => by rw [q, h'] at h; cases h
/-- all slots of a heap -/
def rl_hs (H : Heap) : Nat := (H.toList.map (·.slots.size)).sum
theorem rl_sum_drop : ∀ (l l' : List Cell), l.length ≤ l'.length → (∀ (i : Nat) (c c' : Cell), l[i]? = some c → l'[i]? = some c' → c'.slots.size = c.slots.size) → (l'.map (·.slots.size)).sum = (l.map (·.slots.size)).sum + ((l'.drop l.length).map (·.slots.size)).sum
  | [], l', _, _ => by simp
  | a :: l, [], h, _ => by simp at h
  | a :: l, b :: l', h, hs => by
    have h1 := rl_sum_drop l l' (by simpa using h) (fun i c c' hc hc' => hs (i + 1) c c' (by simpa using hc) (by simpa using hc'))
    have h2 := hs 0 a b rfl rfl
    simp only [List.map_cons, List.sum_cons, List.length_cons, List.drop_succ_cons]
    omega
theorem rl_hs_same {s T : State} {L : List Loc} {k n : Nat} (h : s.sameButNew T L k n) : rl_hs T.heap = rl_hs s.heap + ((T.heap.toList.drop s.heap.size).map (·.slots.size)).sum := by
  obtain ⟨-, h1, -, -, -, h2⟩ := h
  have := rl_sum_drop s.heap.toList T.heap.toList (by simpa using h1) (fun i c c' hc hc' => by
    rw [Array.getElem?_toList] at hc hc'
    obtain ⟨c2, e1, -, e3, -⟩ := h2 i c hc
    rw [e1] at hc'
    cases hc'
    exact e3)
  simpa [rl_hs] using this
/-- the world: the heap's size, the memory's cells in it, and that nothing else has changed since H0 -/
def rl_W (D : va_G) (A : Nat → Prop) (f : rl_M) (z : Nat) (H0 H : Heap) (locs : List Loc) : Prop := H.size = z ∧ (∀ (a : Nat) (e : va_E), f a = some e → A a ∧ va_at D rl_cl (a, e) H) ∧ va_S A H0 H locs
section RLW
variable {D : va_G} {A : Nat → Prop} {f : rl_M} {z : Nat} {H0 H H1 : Heap} {locs : List Loc} {a : Nat} {e : va_E}
theorem rl_W.lt (h : rl_W D A f z H0 H locs) (ha : f a = some e) : a < z := by rw [← h.1]; exact (h.2.1 a e ha).2.lt
theorem rl_W.fresh (h : rl_W D A f z H0 H locs) : f z = none := by
  cases hc : f z with
  | none => rfl
  | some e => exact absurd (h.lt hc) (Nat.lt_irrefl _)
theorem rl_W.one (h : rl_W D A f z H0 H locs) (ha : f a = some e) : va_P D rl_cl [(a, e)] H := by
  intro k q hk
  have hz : k < 1 := (List.getElem?_eq_some_iff.mp hk).1
  rw [show k = 0 by omega] at hk
  cases hk
  exact (h.2.1 a e ha).2
theorem rl_W.put {k : Nat} {e0 : va_E} (h : rl_W D A f z H0 H locs) (h0 : f a = some e0) (he : va_at D rl_cl (a, e) H1) (hz : H1.size = H.size) (oq : ∀ q : Nat, q ≠ a → H1[q]? = H[q]?) : rl_W D A (rl_up f a e) z H0 H1 (locs ++ [⟨a, k⟩]) := by
  have hA := (h.2.1 a e0 h0).1
  refine ⟨hz.trans h.1, fun b e' hb => ?_, h.2.2.put hz oq hA⟩
  by_cases hq : b = a
  · subst hq
    rw [rl_up_s] at hb
    cases hb
    exact ⟨hA, he⟩
  · rw [rl_up_n hq] at hb
    exact ⟨(h.2.1 b e' hb).1, (h.2.1 b e' hb).2.kept (oq b hq)⟩
theorem rl_W.new (h : rl_W D A f z H0 H locs) (hA : ∀ q, H0.size ≤ q → A q) (he : va_at D rl_cl (z, e) H1) (hz : H1.size = z + 1) (oq : ∀ q : Nat, q < z → H1[q]? = H[q]?) : rl_W D A (rl_up f z e) (z + 1) H0 H1 locs := by
  have hle : H0.size ≤ z := by rw [← h.1]; exact h.2.2.1
  refine ⟨hz, fun b e' hb => ?_, by omega, fun q h1 h2 => ?_, h.2.2.2.2⟩
  · by_cases hq : b = z
    · subst hq
      rw [rl_up_s] at hb
      cases hb
      exact ⟨hA _ hle, he⟩
    · rw [rl_up_n hq] at hb
      exact ⟨(h.2.1 b e' hb).1, (h.2.1 b e' hb).2.kept (oq b (h.lt hb))⟩
  · exact (oq q (by omega)).trans (h.2.2.2.1 q h1 h2)
end RLW
/-- the words that are no table's steady words, by the state at a method's entry -/
def rl_nw : Cond → Bool
  | .fieldLinkNest _ _ _ _ _ _ => true
  | .methodLinkNest _ _ _ _ => true
  | .castable _ _ => true
  | .declares _ => true
  | _ => false
def rl_N (U : State) : Prop := (∀ w ∈ lw_tbl, rl_nw w = true → va_Nw w U) ∧ (∀ q ∈ rl_ncl, va_Nc q.1 q.2 U) ∧ ∀ C : String, Cond.arrayOver (.object C) ∈ lw_tbl → va_AO C U
theorem rl_N.warm {s U : State} (hW : s.WarmedH U.vm) (h : rl_N s) : rl_N U := by
  refine ⟨fun w hw hn => ?_, fun q hq => (h.2.1 q hq).moved hW.alike, fun C hm => (h.2.2 C hm).moved hW.alike⟩
  have h1 := h.1 w hw hn
  cases w <;> first | exact va_Nw.warmF hW h1 | exact va_Nw.warmM hW h1 | exact va_Nw.warmC hW h1 | exact va_Nw.warmD hW h1 | (simp [rl_nw] at hn)
theorem rl_N.same {s U : State} (hW : s.vm = U.vm) (h : rl_N s) : rl_N U := by
  have ha : s.vm.Alike U.vm := by rw [hW]; exact Vm.Alike.refl _
  refine ⟨fun w hw hn => ?_, fun q hq => (h.2.1 q hq).moved ha, fun C hm => (h.2.2 C hm).moved ha⟩
  have h1 := h.1 w hw hn
  cases w <;> first | exact va_Nw.same rfl hW h1 | (simp [rl_nw] at hn)
def rl_G : List Cond := lw_tbl.filter goodWord
theorem rl_inG {w : Cond} (h : w ∈ lw_tbl) (hg : goodWord w = true) : w ∈ rl_G := List.mem_filter.mpr ⟨h, hg⟩
theorem rl_good {cw cw' : Cond} (h : cw' ∈ rl_G) : GoodIn (cw :: rl_G) (cw' :: rl_G) := by
  intro w hw
  have h1 : w ∈ rl_G := by
    rcases List.mem_cons.mp hw with rfl | h2
    · exact h
    · exact h2
  exact ⟨List.mem_cons_of_mem _ h1, good_of_word (List.mem_filter.mp h1).2⟩
def rl_K (D : va_G) (t : Nat → ClassId) (U : State) : Prop := va_K D rl_cl (rl_tys t) U ∧ rl_N U
theorem rl_K.warm {D : va_G} {t : Nat → ClassId} {s U : State} (hW : s.WarmedH U.vm) (h : rl_K D t s) : rl_K D t U := ⟨va_K.moved hW.alike h.1, h.2.warm hW⟩
theorem rl_K.same {D : va_G} {t : Nat → ClassId} {s U : State} (hW : s.vm = U.vm) (h : rl_K D t s) : rl_K D t U := ⟨va_K.moved (by rw [hW]; exact Vm.Alike.refl _) h.1, h.2.same hW⟩
/-- a contract -/
def rl_P (D : va_G) (t : Nat → ClassId) (A : Nat → Prop) (f : rl_M) (z : Nat) (av : List Value) : Array Value → State → Prop := fun v U => v = av.toArray ∧ (U.heap.size = z ∧ ∀ (a : Nat) (e : va_E), f a = some e → A a ∧ va_at D rl_cl (a, e) U.heap) ∧ rl_K D t U ∧ ∀ q, U.heap.size ≤ q → A q
def rl_Q (D : va_G) (A : Nat → Prop) (post : Option Value → rl_M → Nat → Nat → Prop) : Array Value → State → Outcome → State → Prop := fun _ st oc t => ∃ (v : Option Value) (f' : rl_M) (z' ds : Nat), oc = .returned v ∧ post v f' z' ds ∧ (t.heap.size = z' ∧ ∀ (a : Nat) (e : va_E), f' a = some e → A a ∧ va_at D rl_cl (a, e) t.heap) ∧ va_F A st t ∧ rl_hs t.heap ≤ rl_hs st.heap + ds
def rl_Met (l : Launch) (y : MethodName) (cw : Cond) (rm : Room) (D : va_G) (t : Nat → ClassId) (A : Nat → Prop) (f : rl_M) (z : Nat) (av : List Value) (post : Option Value → rl_M → Nat → Nat → Prop) : Prop :=
  Met l y (cw :: rl_G) rm (rl_P D t A f z av) (rl_Q D A post) rm.cells rm.slots A
def rl_C (p : Program) (m : MethodId) (c : Code) (cc : ByteArray) (nL : Nat) (s : State) (args : Array Value) (own : String) (cw : Cond) (D : va_G) (t : Nat → ClassId) (A : Nat → Prop) : Prop :=
  p.tables.exec = Jvm.exec ∧ c.code = cc ∧ c.maxLocals = nL ∧ s.vm.findClass own = some m.cls ∧ (∀ w ∈ cw :: rl_G, w.before args s = true) ∧ rl_K D t s ∧ ∀ q, s.heap.size ≤ q → A q
def rl_pi (P : Int32 → rl_M → Nat → Nat → Prop) : Option Value → rl_M → Nat → Nat → Prop := fun v f z ds => ∃ r : Int32, v = some (.int r) ∧ P r f z ds
def rl_pl (P : Int64 → rl_M → Nat → Nat → Prop) : Option Value → rl_M → Nat → Nat → Prop := fun v f z ds => ∃ r : Int64, v = some (.long r) ∧ P r f z ds
def rl_pq (P : Option Nat → rl_M → Nat → Nat → Prop) : Option Value → rl_M → Nat → Nat → Prop := fun v f z ds => ∃ r : Option Nat, v = some (va_rf r) ∧ P r f z ds
def rl_pv (P : rl_M → Nat → Nat → Prop) : Option Value → rl_M → Nat → Nat → Prop := fun v f z ds => v = none ∧ P f z ds
theorem rl_start {l : Launch} {y : MethodName} {bytes : ByteArray} {maxL : Nat} {ret : Option FieldType} {rm : Room} {D : va_G} {t : Nat → ClassId} {A : Nat → Prop} {f : rl_M} {z : Nat} {av : List Value} {post : Option Value → rl_M → Nat → Nat → Prop} {own : String} (hy : plainName y.cls = true) (ho : y.cls = own)
    (body : ∀ (p : Program) (e : Env) (s : State) (m : MethodId) (args : Array Value) (below : List Frame) (meth : Method) (c : Code), rl_C p m c bytes maxL s args own (.code y bytes maxL ret) D t A → meth.sig.returnType = ret → meth.locks = false → meth.name = y.name → rl_W D A f z s.heap s.heap [] → W p l e rm s m args below meth c s.heap [] 0 0 (MQ below (rl_Q D A post) args s rm.cells rm.slots A) (entryFrame m av.toArray maxL)) : rl_Met l y (.code y bytes maxL ret) rm D t A f z av post := by
  refine Met.ofW (cc := bytes) (maxL := maxL) (ret := ret) hy rfl ?_
  intro p e s m args below meth c s₁ B hml hv
  obtain ⟨rfl, hw, hk, hA⟩ := hv
  subst ho
  exact body p e s m _ below meth c ⟨B.exec, B.bytes, hml, findClass_of_methodNamed B.named, atoms_spec (ws := .code y bytes maxL ret :: rl_G) B.pre, hk, hA⟩ B.returns B.notSynchronized (name_of_methodNamed B.named B.method).1 ⟨hw.1, hw.2, va_S.rf⟩
section RLX
variable {p : Program} {l : Launch} {e : Env} {R : Room} {s : State} {m : MethodId} {args : Array Value} {below : List Frame} {meth : Method} {c : Code} {H : Heap} {locs : List Loc} {cells slots : Nat} {Q : State → Prop}
variable {cc : ByteArray} {nL pc : Nat} {ls : Array Slot} {rest : List Value} {D : va_G} {t : Nat → ClassId} {A : Nat → Prop} {a z : Nat} {f : rl_M} {own : String} {cw : Cond}
theorem rl_reset {g : JFrame} {k n : Nat} (h1 : H.size ≤ s.heap.size + k) (h2 : rl_hs H ≤ rl_hs s.heap + n) (kk : W p l e R s m args below meth c H locs k n Q g) : W p l e R s m args below meth c H locs cells slots Q g := by
  intro T hT X
  refine kk T hT { X with same := ?_ }
  have hh : rl_hs T.heap = rl_hs s.heap + ((T.heap.toList.drop s.heap.size).map (·.slots.size)).sum := rl_hs_same (T := T.setVm s.vm) X.same
  obtain ⟨a1, a2, a3, a4, a5, a6⟩ := X.same
  refine ⟨a1, a2, ?_, a4, ?_, a6⟩
  · show T.heap.size ≤ _
    rw [hT]; exact h1
  · show ((T.heap.toList.drop s.heap.size).map (·.slots.size)).sum ≤ n
    rw [hT] at hh ⊢
    omega
theorem rl_know {g : JFrame} (kk : H.size ≤ s.heap.size + cells → rl_hs H ≤ rl_hs s.heap + slots → W p l e R s m args below meth c H locs cells slots Q g) : W p l e R s m args below meth c H locs cells slots Q g := by
  intro T hT X
  have hh : rl_hs T.heap = rl_hs s.heap + ((T.heap.toList.drop s.heap.size).map (·.slots.size)).sum := rl_hs_same (T := T.setVm s.vm) X.same
  have h5 : ((T.heap.toList.drop s.heap.size).map (·.slots.size)).sum ≤ slots := X.same.2.2.2.2.1
  have h3 := X.heapSize
  rw [hT] at hh h5 h3
  exact kk h3 (by omega) T hT X
theorem rl_iret {post : Option Value → rl_M → Nat → Nat → Prop} {v : Int32} {mc ms : Nat} (hC : rl_C p m c cc nL s args own cw D t A) (hW : rl_W D A f z s.heap H locs) (hr : meth.sig.returnType = some .int) (hlocks : meth.locks = false) (hc : cells ≤ mc) (hs : slots ≤ ms) (hp : post (some (.int v)) f z slots) (hdg : decode cc pc = .ok (.ireturn, 1)) :
    W p l e R s m args below meth c H locs cells slots (MQ below (rl_Q D A post) args s mc ms A) (F0 m pc ls [.int v]) := by
  refine rl_know fun g1 g2 => ?_
  refine W.widen hc hs ?_
  exact W.iret hC.1 hC.2.1 hr (fun t ht _ => ⟨_, f, z, slots, rfl, hp, ⟨by rw [ht]; exact hW.1, fun b x hx => by rw [ht]; exact hW.2.1 b x hx⟩, hW.2.2.F ht, by rw [ht]; exact g2⟩) hW.2.2.2.2 hdg hlocks
theorem rl_zret {post : Option Value → rl_M → Nat → Nat → Prop} {v : Int32} {mc ms : Nat} (hC : rl_C p m c cc nL s args own cw D t A) (hW : rl_W D A f z s.heap H locs) (hr : meth.sig.returnType = some .boolean) (hlocks : meth.locks = false) (hn : narrow .boolean (.int v) = .int v) (hc : cells ≤ mc) (hs : slots ≤ ms) (hp : post (some (.int v)) f z slots) (hdg : decode cc pc = .ok (.ireturn, 1)) :
    W p l e R s m args below meth c H locs cells slots (MQ below (rl_Q D A post) args s mc ms A) (F0 m pc ls [.int v]) := by
  refine rl_know fun g1 g2 => ?_
  refine W.widen hc hs ?_
  exact W.zret hC.1 hC.2.1 hr hn (fun t ht _ => ⟨_, f, z, slots, rfl, hp, ⟨by rw [ht]; exact hW.1, fun b x hx => by rw [ht]; exact hW.2.1 b x hx⟩, hW.2.2.F ht, by rw [ht]; exact g2⟩) hW.2.2.2.2 hdg hlocks
theorem rl_lret {post : Option Value → rl_M → Nat → Nat → Prop} {v : Int64} {mc ms : Nat} (hC : rl_C p m c cc nL s args own cw D t A) (hW : rl_W D A f z s.heap H locs) (hr : meth.sig.returnType = some .long) (hlocks : meth.locks = false) (hc : cells ≤ mc) (hs : slots ≤ ms) (hp : post (some (.long v)) f z slots) (hdg : decode cc pc = .ok (.lreturn, 1)) :
    W p l e R s m args below meth c H locs cells slots (MQ below (rl_Q D A post) args s mc ms A) (F0 m pc ls [.long v]) := by
  refine rl_know fun g1 g2 => ?_
  refine W.widen hc hs ?_
  exact W.lret hC.1 hC.2.1 hr (fun t ht _ => ⟨_, f, z, slots, rfl, hp, ⟨by rw [ht]; exact hW.1, fun b x hx => by rw [ht]; exact hW.2.1 b x hx⟩, hW.2.2.F ht, by rw [ht]; exact g2⟩) hW.2.2.2.2 hdg hlocks
theorem rl_vret {post : Option Value → rl_M → Nat → Nat → Prop} {mc ms : Nat} (hC : rl_C p m c cc nL s args own cw D t A) (hW : rl_W D A f z s.heap H locs) (hr : meth.sig.returnType = none) (hlocks : meth.locks = false) (hc : cells ≤ mc) (hs : slots ≤ ms) (hp : post none f z slots) (hdg : decode cc pc = .ok (.return_, 1)) :
    W p l e R s m args below meth c H locs cells slots (MQ below (rl_Q D A post) args s mc ms A) (F0 m pc ls []) := by
  refine rl_know fun g1 g2 => ?_
  refine W.widen hc hs ?_
  exact W.vret hC.1 hC.2.1 hr (fun t ht _ => ⟨_, f, z, slots, rfl, hp, ⟨by rw [ht]; exact hW.1, fun b x hx => by rw [ht]; exact hW.2.1 b x hx⟩, hW.2.2.F ht, by rw [ht]; exact g2⟩) hW.2.2.2.2 hdg hlocks
theorem rl_aret {post : Option Value → rl_M → Nat → Nat → Prop} {v : Option Nat} {mc ms : Nat} {n : String} (hC : rl_C p m c cc nL s args own cw D t A) (hW : rl_W D A f z s.heap H locs) (hr : meth.sig.returnType = some (.object n)) (hlocks : meth.locks = false) (hc : cells ≤ mc) (hs : slots ≤ ms) (hp : post (some (va_rf v)) f z slots) (hdg : decode cc pc = .ok (.areturn, 1)) :
    W p l e R s m args below meth c H locs cells slots (MQ below (rl_Q D A post) args s mc ms A) (F0 m pc ls [va_rf v]) := by
  refine rl_know fun g1 g2 => ?_
  refine W.widen hc hs ?_
  exact W.aret hC.1 hC.2.1 hr (Or.inl ⟨_, rfl⟩) (va_rf_or v) (fun t ht _ => ⟨_, f, z, slots, rfl, hp, ⟨by rw [ht]; exact hW.1, fun b x hx => by rw [ht]; exact hW.2.1 b x hx⟩, hW.2.2.F ht, by rw [ht]; exact g2⟩) hW.2.2.2.2 hdg hlocks
/-- a call, whatever its answer -/
theorem rl_call {mc ms : Nat} {post : Option Value → rl_M → Nat → Nat → Prop} {av : Array Value} {st0 : List Value} (hr : va_Run p l e R s m args below meth c H locs cells slots mc ms (F0 m pc ls st0) rest (rl_Q D A post av) A) (hW : rl_W D A f z s.heap H locs)
    (kk : ∀ (v : Option Value) (f' : rl_M) (z' ds : Nat) (H1 : Heap) (locs1 : List Loc), post v f' z' ds → rl_W D A f' z' s.heap H1 locs1 → z ≤ z' → W p l e R s m args below meth c H1 locs1 (cells + (z' - z)) (slots + ds) Q (F0 m (pc + 3) ls (v.toList ++ rest))) : W p l e R s m args below meth c H locs cells slots Q (F0 m pc ls st0) := by
  intro T hT X
  obtain ⟨v, st₀, t1, T', L, h0, X', hL, e1, e2, ⟨v', f', z', ds, hv, hp, hw, hF, hg⟩, st⟩ := hr T hT X
  cases hv
  have g1 := X.heapSize
  have g2 : rl_hs T.heap = rl_hs s.heap + ((T.heap.toList.drop s.heap.size).map (·.slots.size)).sum := rl_hs_same (T := T.setVm s.vm) X.same
  have g5 : ((T.heap.toList.drop s.heap.size).map (·.slots.size)).sum ≤ slots := X.same.2.2.2.2.1
  rw [hT] at g1 g2 g5
  have hz1 : H.size ≤ t1.heap.size := by have := hF.1; rw [h0] at this; exact this
  have hkq : ∀ q : Nat, q < H.size → ¬ A q → t1.heap[q]? = H[q]? := by have := hF.2; rw [h0] at this; exact this
  rw [h0] at hg
  have hzz : H.size = z := hW.1
  have hw1 := hw.1
  have hS := hW.2.2
  have key := kk v f' z' ds T'.heap (locs ++ L) hp ⟨by rw [e1]; exact hw.1, fun b x hx => by rw [e1]; exact hw.2 b x hx, ⟨by rw [e1]; exact Nat.le_trans hS.1 hz1, fun q h1 h2 => by rw [e1, hkq q (Nat.lt_of_lt_of_le h1 hS.1) h2]; exact hS.2.1 q h1 h2, fun q hq => by
      rcases List.mem_append.mp hq with h | h
      · exact hS.2.2 q h
      · exact hL q h⟩⟩ (by omega)
  obtain ⟨t2, a1, b1⟩ := rl_reset (cells := cells + mc) (slots := slots + ms) (by rw [e1]; omega) (by rw [e1]; omega) key T' rfl X'
  exact ⟨t2, st t2 a1, b1⟩
theorem rl_calli {mc ms : Nat} {P : Int32 → rl_M → Nat → Nat → Prop} {av : Array Value} {st0 : List Value} (hr : va_Run p l e R s m args below meth c H locs cells slots mc ms (F0 m pc ls st0) rest (rl_Q D A (rl_pi P) av) A) (hW : rl_W D A f z s.heap H locs)
    (kk : ∀ (r : Int32) (f' : rl_M) (z' ds : Nat) (H1 : Heap) (locs1 : List Loc), P r f' z' ds → rl_W D A f' z' s.heap H1 locs1 → z ≤ z' → W p l e R s m args below meth c H1 locs1 (cells + (z' - z)) (slots + ds) Q (F0 m (pc + 3) ls (.int r :: rest))) : W p l e R s m args below meth c H locs cells slots Q (F0 m pc ls st0) :=
  rl_call hr hW fun v f' z' ds H1 locs1 hp hw hz => by
    obtain ⟨r, rfl, hp⟩ := hp
    exact kk r f' z' ds H1 locs1 hp hw hz
theorem rl_calll {mc ms : Nat} {P : Int64 → rl_M → Nat → Nat → Prop} {av : Array Value} {st0 : List Value} (hr : va_Run p l e R s m args below meth c H locs cells slots mc ms (F0 m pc ls st0) rest (rl_Q D A (rl_pl P) av) A) (hW : rl_W D A f z s.heap H locs)
    (kk : ∀ (r : Int64) (f' : rl_M) (z' ds : Nat) (H1 : Heap) (locs1 : List Loc), P r f' z' ds → rl_W D A f' z' s.heap H1 locs1 → z ≤ z' → W p l e R s m args below meth c H1 locs1 (cells + (z' - z)) (slots + ds) Q (F0 m (pc + 3) ls (.long r :: rest))) : W p l e R s m args below meth c H locs cells slots Q (F0 m pc ls st0) :=
  rl_call hr hW fun v f' z' ds H1 locs1 hp hw hz => by
    obtain ⟨r, rfl, hp⟩ := hp
    exact kk r f' z' ds H1 locs1 hp hw hz
theorem rl_callq {mc ms : Nat} {P : Option Nat → rl_M → Nat → Nat → Prop} {av : Array Value} {st0 : List Value} (hr : va_Run p l e R s m args below meth c H locs cells slots mc ms (F0 m pc ls st0) rest (rl_Q D A (rl_pq P) av) A) (hW : rl_W D A f z s.heap H locs)
    (kk : ∀ (r : Option Nat) (f' : rl_M) (z' ds : Nat) (H1 : Heap) (locs1 : List Loc), P r f' z' ds → rl_W D A f' z' s.heap H1 locs1 → z ≤ z' → W p l e R s m args below meth c H1 locs1 (cells + (z' - z)) (slots + ds) Q (F0 m (pc + 3) ls (va_rf r :: rest))) : W p l e R s m args below meth c H locs cells slots Q (F0 m pc ls st0) :=
  rl_call hr hW fun v f' z' ds H1 locs1 hp hw hz => by
    obtain ⟨r, rfl, hp⟩ := hp
    exact kk r f' z' ds H1 locs1 hp hw hz
theorem rl_callv {mc ms : Nat} {P : rl_M → Nat → Nat → Prop} {av : Array Value} {st0 : List Value} (hr : va_Run p l e R s m args below meth c H locs cells slots mc ms (F0 m pc ls st0) rest (rl_Q D A (rl_pv P) av) A) (hW : rl_W D A f z s.heap H locs)
    (kk : ∀ (f' : rl_M) (z' ds : Nat) (H1 : Heap) (locs1 : List Loc), P f' z' ds → rl_W D A f' z' s.heap H1 locs1 → z ≤ z' → W p l e R s m args below meth c H1 locs1 (cells + (z' - z)) (slots + ds) Q (F0 m (pc + 3) ls rest)) : W p l e R s m args below meth c H locs cells slots Q (F0 m pc ls st0) :=
  rl_call hr hW fun v f' z' ds H1 locs1 hp hw hz => by
    obtain ⟨rfl, hp⟩ := hp
    exact kk f' z' ds H1 locs1 hp hw hz
end RLX
end
section
def rl_fl (own : String) (index ci k : Nat) : Prop := ∃ (C : String) (T : u_T) (N : Nat), rl_cl[ci]? = some (C, T, N) ∧ k < N ∧ (∀ w ∈ u_ws C T N, w ∈ rl_G) ∧ (Cond.fieldLink own index (T k).1 (T k).2.1 (T k).2.2.1 ∈ rl_G ∨ ∃ host, Cond.fieldLinkNest own index (T k).1 (T k).2.1 (T k).2.2.1 host ∈ lw_tbl)
def rl_fp (own : String) (index ci k : Nat) (ty : FieldType) (fin : Bool) : Prop := ∃ (C : String) (T : u_T) (N : Nat) (ty0 : Nat → FieldType), rl_cl[ci]? = some (C, T, N) ∧ k < N ∧ (∀ w ∈ u_ws C T N, w ∈ rl_G) ∧ (∀ j, j < N → parseFieldDescriptor (T j).2.2.1 = some (ty0 j)) ∧ (∀ a, a < N → ∀ b, b < N → a ≠ b → (T a).2.1 ≠ (T b).2.1) ∧ (T k).2.2.2 = fin ∧ parseFieldDescriptor (T k).2.2.1 = some ty ∧ (fin = true → (T k).1 = own) ∧ (Cond.fieldLink own index (T k).1 (T k).2.1 (T k).2.2.1 ∈ rl_G ∨ (fin = false ∧ ∃ host, Cond.fieldLinkNest own index (T k).1 (T k).2.1 (T k).2.2.1 host ∈ lw_tbl))
def rl_cn (own : String) (index ci N : Nat) (fs : List Value) : Prop := ∃ (C : String) (T : u_T) (ty : Nat → FieldType), rl_cl[ci]? = some (C, T, N) ∧ (∀ w ∈ u_ws C T N, w ∈ rl_G) ∧ (∀ j, j < N → parseFieldDescriptor (T j).2.2.1 = some (ty j)) ∧ Cond.classLink own index C ∈ rl_G ∧ Cond.instantiable C N ∈ rl_G ∧ Cond.initialized C ∈ rl_G ∧ ∀ j, j < N → defaultValue (ty j) = vp_V fs j
def rl_cs (own : String) (index : Nat) (y : MethodName) (bytes : ByteArray) (maxL : Nat) (ret : Option FieldType) (n : Nat) : Prop := (Cond.methodLink own index y ∈ rl_G ∨ ∃ host, Cond.methodLinkNest own index y host ∈ lw_tbl) ∧ Cond.code y bytes maxL ret ∈ rl_G ∧ Cond.initialized y.cls ∈ rl_G ∧ (y.cls ≠ "java/lang/invoke/MethodHandle" ∧ y.cls ≠ "java/lang/invoke/VarHandle" ∧ (parseMethodDescriptor y.desc).map (fun d => d.parameters.length) = some n)
def rl_cu (own : String) (index : Nat) (C owner : String) (x y : MethodName) (bytes : ByteArray) (maxL : Nat) (ret : Option FieldType) (n : Nat) : Prop := Cond.methodLink own index x ∈ rl_G ∧ Cond.sameMethod x.cls owner x.name x.desc ∈ rl_G ∧ Cond.selects C x y ∈ rl_G ∧ Cond.instanceMethod y ∈ rl_G ∧ Cond.initialized y.cls ∈ rl_G ∧ Cond.declares ⟨owner, x.name, x.desc⟩ ∈ lw_tbl ∧ Cond.code y bytes maxL ret ∈ rl_G ∧ (owner ≠ "java/lang/invoke/MethodHandle" ∧ owner ≠ "java/lang/invoke/VarHandle" ∧ (parseMethodDescriptor x.desc).map (fun d => d.parameters.length) = some n)
section RLY
variable {p : Program} {l : Launch} {e : Env} {R : Room} {s : State} {m : MethodId} {args : Array Value} {below : List Frame} {meth : Method} {c : Code} {H : Heap} {locs : List Loc} {cells slots : Nat} {Q : State → Prop}
variable {cc : ByteArray} {nL pc : Nat} {ls : Array Slot} {rest : List Value} {D : va_G} {t : Nat → ClassId} {A : Nat → Prop} {a z : Nat} {f : rl_M} {own : String} {cw : Cond}
theorem rl_get {index ci k : Nat} {fs : List Value} {v : Value} (hC : rl_C p m c cc nL s args own cw D t A) (hW : rl_W D A f z s.heap H locs) (hF : rl_fl own index ci k) (he : f a = some (.inr (ci, fs))) (hv : fs[k]? = some v) (hdg : decode cc pc = .ok (.getfield index, 3))
    (kk : W p l e R s m args below meth c H locs cells slots Q (F0 m (pc + 3) ls (v :: rest))) : W p l e R s m args below meth c H locs cells slots Q (F0 m pc ls (.ref a :: rest)) := by
  obtain ⟨C, T, N, hc, hk, hin, hl⟩ := hF
  obtain ⟨hx, hb, hml, hown, hts, hK, hA⟩ := hC
  rcases hl with hl | ⟨host, hl⟩
  · exact va_get hx hb hts (fun w h => List.mem_cons_of_mem _ (hin w h)) hown hK.1 (hW.one he) 0 rfl hc k hk (hts _ (List.mem_cons_of_mem _ hl)) (fun _ h => h) hv hdg kk
  · exact va_getN hx hb hts (fun w h => List.mem_cons_of_mem _ (hin w h)) hown hK.1 (hW.one he) 0 rfl hc k hk (va_Nw.use rfl (hK.2.1 _ hl rfl)) (fun _ h => h) hv hdg kk
theorem rl_put {index ci k : Nat} {fs : List Value} {v : Value} {ty : FieldType} (hC : rl_C p m c cc nL s args own cw D t A) (hW : rl_W D A f z s.heap H locs) (hF : rl_fp own index ci k ty false) (he : f a = some (.inr (ci, fs))) (hl : k < fs.length) (hn : narrow ty v = v) (hfit : fits ty v = true) (hdg : decode cc pc = .ok (.putfield index, 3))
    (kk : ∀ (H1 : Heap) (locs1 : List Loc), rl_W D A (rl_up f a (.inr (ci, fs.set k v))) z s.heap H1 locs1 → W p l e R s m args below meth c H1 locs1 cells slots Q (F0 m (pc + 3) ls rest)) : W p l e R s m args below meth c H locs cells slots Q (F0 m pc ls (v :: .ref a :: rest)) := by
  obtain ⟨C, T, N, ty0, hc, hk, hin, hty, hnm, hfin, hd, -, hli⟩ := hF
  obtain ⟨hx, hb, hml, hown, hts, hK, hA⟩ := hC
  have hin' : ∀ w ∈ u_ws C T N, w ∈ cw :: rl_G := fun w h => List.mem_cons_of_mem _ (hin w h)
  have hap := va_apart (own := own) hts hin' ty0 hty hnm hK.1 hc
  obtain ⟨r, h1, cell, q1, q2, q3, q4⟩ := (hW.2.1 a _ he).2
  have hr : r = (C, T, N) := Option.some.inj (h1.symm.trans hc)
  subst hr
  obtain ⟨hS, hfc, kC, hkC, hkind⟩ := hK.1.1 ci _ hc
  obtain ⟨cf, kf, fi, fd, hi, hsl⟩ := hS k hk
  have hlay := hts _ (hin' _ (u_in_lay hk))
  unfold u_lay at hlay
  rw [if_neg (by rw [hfin]; decide)] at hlay
  have hst := (u_facts hfc hkC (u_lays hts hin' hk) hi).1
  have h6 := u_store hfc hkC hkind hlay hi hd hn hfit
  have fin : ∀ H' : Heap, H'[a]? = some (cell.setSlot fd.slot v) → H'.size = H.size → (∀ q, q ≠ a → H'[q]? = H[q]?) → W p l e R s m args below meth c H' (locs ++ [⟨a, fd.slot⟩]) cells slots Q (F0 m (pc + 3) ls rest) := by
    intro H' e1 e2 e3
    rw [hsl] at e1
    exact kk H' _ (hW.put he ⟨_, hc, t_OB.to (V := updV (vp_V fs) k v) ⟨_, e1, q2, q3, t_set q4 hap hk v⟩ (fun j _ => vp_updV_set hl v j)⟩ e2 e3)
  rcases hli with hl | ⟨-, host, hl⟩
  · exact W.putK hx hb (f := fd) ⟨hown, hts _ (List.mem_cons_of_mem _ hl), ⟨_, _, _, hi⟩, hst⟩ (by rw [q2]; exact h6) q1 q3 (by rw [hsl]; exact k2_hasslot (q4 k hk)) rfl rfl hdg fin
  · exact va_WputK hx hb (f := fd) hown (va_Nw.use rfl (hK.2.1 _ hl rfl)) hi hst (by rw [q2]; exact h6) q1 q3 (by rw [hsl]; exact k2_hasslot (q4 k hk)) rfl rfl hdg fin
theorem rl_putF {index ci k : Nat} {fs : List Value} {v : Value} {ty : FieldType} (hC : rl_C p m c cc nL s args own cw D t A) (hW : rl_W D A f z s.heap H locs) (hF : rl_fp own index ci k ty true) (hin2 : meth.name = "<init>") (he : f a = some (.inr (ci, fs))) (hl : k < fs.length) (hn : narrow ty v = v) (hfit : fits ty v = true) (hdg : decode cc pc = .ok (.putfield index, 3))
    (kk : ∀ (H1 : Heap) (locs1 : List Loc), rl_W D A (rl_up f a (.inr (ci, fs.set k v))) z s.heap H1 locs1 → W p l e R s m args below meth c H1 locs1 cells slots Q (F0 m (pc + 3) ls rest)) : W p l e R s m args below meth c H locs cells slots Q (F0 m pc ls (v :: .ref a :: rest)) := by
  obtain ⟨C, T, N, ty0, hc, hk, hin, hty, hnm, hfin, hd, hdecl, hli⟩ := hF
  have hdecl := hdecl rfl
  obtain ⟨hx, hb, hml, hown, hts, hK, hA⟩ := hC
  have hin' : ∀ w ∈ u_ws C T N, w ∈ cw :: rl_G := fun w h => List.mem_cons_of_mem _ (hin w h)
  have hap := va_apart (own := own) hts hin' ty0 hty hnm hK.1 hc
  obtain ⟨r, h1, cell, q1, q2, q3, q4⟩ := (hW.2.1 a _ he).2
  have hr : r = (C, T, N) := Option.some.inj (h1.symm.trans hc)
  subst hr
  obtain ⟨hS, hfc, kC, hkC, hkind⟩ := hK.1.1 ci _ hc
  obtain ⟨cf, kf, fi, fd, hi, hsl⟩ := hS k hk
  have hlay := hts _ (hin' _ (u_in_lay hk))
  unfold u_lay at hlay
  rw [if_pos hfin] at hlay
  have hst := (u_facts hfc hkC (u_lays hts hin' hk) hi).1
  have hcf : m.cls = cf := by
    obtain ⟨_, _, c', _, _, _, -, -, hf', -, -, -, hown2, -⟩ := Cond.laysFinal_spec hlay
    have e1 : c' = cf := by have := hi.symm.trans hf'; simp at this; exact this.1.symm
    rw [hdecl] at hown2
    rw [← e1]; exact Option.some.inj (hown.symm.trans hown2)
  have h6 := u_fits hfc hkC hkind (Or.inr hlay) hi hd hn hfit
  rcases hli with hl2 | ⟨h9, -⟩
  · refine W.putFinK hx hb hown (hts _ (List.mem_cons_of_mem _ hl2)) hi hst hcf hin2 (by rw [q2]; exact h6) q1 q3 (by rw [hsl]; exact k2_hasslot (q4 k hk)) rfl rfl hdg fun H' e1 e2 e3 => ?_
    rw [hsl] at e1 ⊢
    exact kk H' _ (hW.put he ⟨_, hc, t_OB.to (V := updV (vp_V fs) k v) ⟨_, e1, q2, q3, t_set q4 hap hk v⟩ (fun j _ => vp_updV_set hl v j)⟩ e2 e3)
  · cases h9
theorem rl_iald {n : Nat} {g : Nat → Int32} {i : Int32} (hC : rl_C p m c cc nL s args own cw D t A) (hW : rl_W D A f z s.heap H locs) (he : f a = some (.inl (t 0, n, .inl g))) (hin : vp_in i n) (hdg : decode cc pc = .ok (.iaload, 1))
    (kk : W p l e R s m args below meth c H locs cells slots Q (F0 m (pc + 1) ls (.int (g i.toNatClampNeg) :: rest))) : W p l e R s m args below meth c H locs cells slots Q (F0 m pc ls (.int i :: .ref a :: rest)) :=
  va_iald hC.1 hC.2.1 hC.2.2.2.2.2.1.1 (hW.one he) 0 0 rfl rfl hin hdg kk
theorem rl_lald {n : Nat} {g : Nat → Int64} {i : Int32} (hC : rl_C p m c cc nL s args own cw D t A) (hW : rl_W D A f z s.heap H locs) (he : f a = some (.inl (t 1, n, .inr (.inl g)))) (hin : vp_in i n) (hdg : decode cc pc = .ok (.laload, 1))
    (kk : W p l e R s m args below meth c H locs cells slots Q (F0 m (pc + 1) ls (.long (g i.toNatClampNeg) :: rest))) : W p l e R s m args below meth c H locs cells slots Q (F0 m pc ls (.int i :: .ref a :: rest)) :=
  va_lald hC.1 hC.2.1 hC.2.2.2.2.2.1.1 (hW.one he) 0 1 rfl rfl hin hdg kk
theorem rl_zald {n : Nat} {g : Nat → Int32} {i : Int32} (hC : rl_C p m c cc nL s args own cw D t A) (hW : rl_W D A f z s.heap H locs) (he : f a = some (.inl (t 2, n, .inl g))) (hin : vp_in i n) (hdg : decode cc pc = .ok (.baload, 1))
    (kk : W p l e R s m args below meth c H locs cells slots Q (F0 m (pc + 1) ls (.int (g i.toNatClampNeg) :: rest))) : W p l e R s m args below meth c H locs cells slots Q (F0 m pc ls (.int i :: .ref a :: rest)) :=
  va_zald hC.1 hC.2.1 hC.2.2.2.2.2.1.1 (hW.one he) 0 2 rfl rfl hin hdg kk
theorem rl_aald (j : Nat) {C : String} {n : Nat} {g : Nat → Option Nat} {i : Int32} (hC : rl_C p m c cc nL s args own cw D t A) (hW : rl_W D A f z s.heap H locs) (hj : (rl_tys t)[j]? = some (t j, .object C)) (he : f a = some (.inl (t j, n, .inr (.inr (.inr (.inr g)))))) (hin : vp_in i n) (hdg : decode cc pc = .ok (.aaload, 1))
    (kk : W p l e R s m args below meth c H locs cells slots Q (F0 m (pc + 1) ls (va_rf (g i.toNatClampNeg) :: rest))) : W p l e R s m args below meth c H locs cells slots Q (F0 m pc ls (.int i :: .ref a :: rest)) :=
  va_aldq hC.1 hC.2.1 hC.2.2.2.2.2.1.1 (hW.one he) 0 j rfl hj hin hdg kk
theorem rl_alen (j : Nat) {ty : FieldType} {x : vp_A} {v : Int32} (hC : rl_C p m c cc nL s args own cw D t A) (hW : rl_W D A f z s.heap H locs) (hj : (rl_tys t)[j]? = some (t j, ty)) (he : f a = some (.inl (t j, x))) (hv : Int32.ofNat x.1 = v) (hdg : decode cc pc = .ok (.arraylength, 1))
    (kk : W p l e R s m args below meth c H locs cells slots Q (F0 m (pc + 1) ls (.int v :: rest))) : W p l e R s m args below meth c H locs cells slots Q (F0 m pc ls (.ref a :: rest)) :=
  va_alen hC.1 hC.2.1 hC.2.2.2.2.2.1.1 (hW.one he) 0 j rfl hj hv hdg kk
theorem rl_iast {n : Nat} {g : Nat → Int32} {i x : Int32} (hC : rl_C p m c cc nL s args own cw D t A) (hW : rl_W D A f z s.heap H locs) (he : f a = some (.inl (t 0, n, .inl g))) (hin : vp_in i n) (hdg : decode cc pc = .ok (.iastore, 1))
    (kk : ∀ (H1 : Heap) (locs1 : List Loc), rl_W D A (rl_up f a (.inl (t 0, n, .inl (upd g i.toNatClampNeg x)))) z s.heap H1 locs1 → W p l e R s m args below meth c H1 locs1 cells slots Q (F0 m (pc + 1) ls rest)) : W p l e R s m args below meth c H locs cells slots Q (F0 m pc ls (.int x :: .int i :: .ref a :: rest)) := by
  obtain ⟨hx, hb, hml, hown, hts, hK, hA⟩ := hC
  refine W.iast hx hb (hW.2.1 a _ he).2 ((hK.1.2 0 _ rfl).1 n (fun j => .int (g j))) (fun q => by cases q) (by show ¬ (i < 0 ∨ (arrV _ _ _).slots.size ≤ _); rw [arrV_size]; exact hin) rfl rfl hdg fun H1 e1 z1 oq => ?_
  refine kk H1 _ (hW.put he ?_ z1 oq)
  show H1[a]? = some (vp_cell _ _)
  rw [e1]
  rw [vp_cell_i, vp_cell_i, arrV_store]
  congr 2
  funext q
  by_cases hq : q = i.toNatClampNeg
  · subst hq
    simp [updV, upd]
  · simp [updV, upd, hq]
theorem rl_last {n : Nat} {g : Nat → Int64} {i : Int32} {x : Int64} (hC : rl_C p m c cc nL s args own cw D t A) (hW : rl_W D A f z s.heap H locs) (he : f a = some (.inl (t 1, n, .inr (.inl g)))) (hin : vp_in i n) (hdg : decode cc pc = .ok (.lastore, 1))
    (kk : ∀ (H1 : Heap) (locs1 : List Loc), rl_W D A (rl_up f a (.inl (t 1, n, .inr (.inl (vp_updL g i.toNatClampNeg x))))) z s.heap H1 locs1 → W p l e R s m args below meth c H1 locs1 cells slots Q (F0 m (pc + 1) ls rest)) : W p l e R s m args below meth c H locs cells slots Q (F0 m pc ls (.long x :: .int i :: .ref a :: rest)) := by
  obtain ⟨hx, hb, hml, hown, hts, hK, hA⟩ := hC
  refine W.last hx hb (hW.2.1 a _ he).2 ((hK.1.2 1 _ rfl).1 n (fun j => .long (g j))) (fun q => by cases q) (by show ¬ (i < 0 ∨ (arrV _ _ _).slots.size ≤ _); rw [arrV_size]; exact hin) rfl rfl hdg fun H1 e1 z1 oq => ?_
  refine kk H1 _ (hW.put he ?_ z1 oq)
  show H1[a]? = some (vp_cell _ _)
  rw [e1]
  rw [vp_cell_l, vp_cell_l, arrV_store]
  congr 2
  funext q
  by_cases hq : q = i.toNatClampNeg
  · subst hq
    simp [updV, vp_updL]
  · simp [updV, vp_updL, hq]
theorem rl_zast {n : Nat} {g : Nat → Int32} {i x : Int32} (hC : rl_C p m c cc nL s args own cw D t A) (hW : rl_W D A f z s.heap H locs) (he : f a = some (.inl (t 2, n, .inl g))) (hin : vp_in i n) (hdg : decode cc pc = .ok (.bastore, 1))
    (kk : ∀ (H1 : Heap) (locs1 : List Loc), rl_W D A (rl_up f a (.inl (t 2, n, .inl (upd g i.toNatClampNeg (vp_nar .boolean x))))) z s.heap H1 locs1 → W p l e R s m args below meth c H1 locs1 cells slots Q (F0 m (pc + 1) ls rest)) : W p l e R s m args below meth c H locs cells slots Q (F0 m pc ls (.int x :: .int i :: .ref a :: rest)) := by
  obtain ⟨hx, hb, hml, hown, hts, hK, hA⟩ := hC
  refine W.zast hx hb (hW.2.1 a _ he).2 ((hK.1.2 2 _ rfl).1 n (fun j => .int (g j))) (fun q => by cases q) (by show ¬ (i < 0 ∨ (arrV _ _ _).slots.size ≤ _); rw [arrV_size]; exact hin) rfl rfl hdg fun H1 e1 z1 oq => ?_
  refine kk H1 _ (hW.put he ?_ z1 oq)
  show H1[a]? = some (vp_cell _ _)
  rw [e1]
  rw [vp_cell_i, vp_cell_i, arrV_store]
  congr 2
  funext q
  by_cases hq : q = i.toNatClampNeg
  · subst hq
    simp [updV, upd, vp_nar]
    try rfl
  · simp [updV, upd, hq]
theorem rl_aastN (j : Nat) {C : String} {n : Nat} {g : Nat → Option Nat} {i : Int32} (hC : rl_C p m c cc nL s args own cw D t A) (hW : rl_W D A f z s.heap H locs) (hj : (rl_tys t)[j]? = some (t j, .object C)) (he : f a = some (.inl (t j, n, .inr (.inr (.inr (.inr g)))))) (hin : vp_in i n) (hdg : decode cc pc = .ok (.aastore, 1))
    (kk : ∀ (H1 : Heap) (locs1 : List Loc), rl_W D A (rl_up f a (.inl (t j, n, .inr (.inr (.inr (.inr (va_up g i.toNatClampNeg none))))))) z s.heap H1 locs1 → W p l e R s m args below meth c H1 locs1 cells slots Q (F0 m (pc + 1) ls rest)) : W p l e R s m args below meth c H locs cells slots Q (F0 m pc ls (.null :: .int i :: .ref a :: rest)) := by
  obtain ⟨hx, hb, hml, hown, hts, hK, hA⟩ := hC
  refine va_WaastN (C := C) hx hb (hW.2.1 a _ he).2 ((hK.1.2 j _ hj).1 n (fun j => va_rf (g j))) (fun h => by cases h) (by show ¬ (i < 0 ∨ (arrV _ _ _).slots.size ≤ _); rw [arrV_size]; exact hin) rfl rfl hdg fun H1 e1 z1 oq => ?_
  refine kk H1 _ (hW.put he ?_ z1 oq)
  show H1[a]? = some (vp_cell _ _)
  rw [e1]
  rw [vp_cell_q, vp_cell_q, arrV_store]
  congr 2
  funext q
  by_cases hq : q = i.toNatClampNeg
  · subst hq
    simp [updV, va_up, va_rf]
  · simp [updV, va_up, hq]
theorem rl_aast (j : Nat) {E : String} {n v ci : Nat} {vs : List Value} {r : vw_C} {g : Nat → Option Nat} {i : Int32} (hC : rl_C p m c cc nL s args own cw D t A) (hW : rl_W D A f z s.heap H locs) (hj : (rl_tys t)[j]? = some (t j, .object E)) (he : f a = some (.inl (t j, n, .inr (.inr (.inr (.inr g)))))) (hv : f v = some (.inr (ci, vs))) (hc : rl_cl[ci]? = some r) (hca : r.1 = E ∨ Cond.castable r.1 E ∈ lw_tbl) (hin : vp_in i n) (hdg : decode cc pc = .ok (.aastore, 1))
    (kk : ∀ (H1 : Heap) (locs1 : List Loc), rl_W D A (rl_up f a (.inl (t j, n, .inr (.inr (.inr (.inr (va_up g i.toNatClampNeg (some v)))))))) z s.heap H1 locs1 → W p l e R s m args below meth c H1 locs1 cells slots Q (F0 m (pc + 1) ls rest)) : W p l e R s m args below meth c H locs cells slots Q (F0 m pc ls (.ref v :: .int i :: .ref a :: rest)) := by
  obtain ⟨hx, hb, hml, hown, hts, hK, hA⟩ := hC
  have hlt : i.toNatClampNeg < n := Nat.not_le.mp fun q => hin (Or.inr q)
  have h0 : ¬ i < 0 := fun q => hin (Or.inl q)
  obtain ⟨r', hr', cellV, g1, g2, g3, -⟩ := (hW.2.1 v _ hv).2
  have hcls := (hK.1.1 ci r hc).2
  obtain ⟨kA, comp, k1, k2, k3, -⟩ := (hK.1.2 j _ hj).2
  obtain ⟨kE, hkE, -⟩ := Vm.findClass_spec k3
  obtain ⟨kC, hkC, -⟩ := id hcls.2
  have hasg : s.vm.assignable (D.1 ci) comp = true := by
    rcases hca with hca | hca
    · have hcomp : comp = D.1 ci := Option.some.inj (k3.symm.trans (by rw [← hca]; exact hcls.1))
      rw [hcomp]; exact va_assign hcls
    · obtain ⟨c0, t1, f1, f2, f3⟩ := Cond.castable_spec (va_Nw.use (A := args) rfl (hK.2.1 _ hca rfl))
      cases hcls.1.symm.trans f1
      cases k3.symm.trans f2
      exact f3
  refine W.aast hx hb (hW.2.1 a _ he).2 (fun q h => by cases h) (fun h => by cases h) k1 k2 rfl hkE ⟨h0, by show _ < (arrV _ _ _).slots.size; rw [arrV_size]; exact hlt⟩ g1 (fun q h => by rw [g3] at h; cases h) (by rw [g2]; exact hkC) (by rw [g2]; exact hasg) rfl rfl hdg fun H1 e1 z1 oq => ?_
  refine kk H1 _ (hW.put he ?_ z1 oq)
  show H1[a]? = some (vp_cell _ _)
  rw [e1]
  rw [vp_cell_q, vp_cell_q, arrV_store]
  congr 2
  funext q
  by_cases hq : q = i.toNatClampNeg
  · subst hq
    simp [updV, va_up, va_rf]
  · simp [updV, va_up, hq]
theorem rl_new {index ci N : Nat} {fs : List Value} (hC : rl_C p m c cc nL s args own cw D t A) (hW : rl_W D A f z s.heap H locs) (hF : rl_cn own index ci N fs) (hcells : cells + 1 ≤ R.cells) (hslots : slots + N ≤ R.slots) (hdg : decode cc pc = .ok (.new index, 3))
    (kk : ∀ H1 : Heap, rl_W D A (rl_up f z (.inr (ci, fs))) (z + 1) s.heap H1 locs → W p l e R s m args below meth c H1 locs (cells + 1) (slots + N) Q (F0 m (pc + 3) ls (.ref z :: rest))) : W p l e R s m args below meth c H locs cells slots Q (F0 m pc ls rest) := by
  obtain ⟨C, T, ty, hc, hin, hty, hcl, hinst, hini, hfs⟩ := hF
  obtain ⟨hx, hb, hml, hown, hts, hK, hA⟩ := hC
  have hKn := hK.1.1 ci _ hc
  refine W.newcK hx hb hown (hts _ (List.mem_cons_of_mem _ hcl)) (hts _ (List.mem_cons_of_mem _ hinst)) (hts _ (List.mem_cons_of_mem _ hini)) rfl hdg hcells hslots hKn.2.1 hW.1 fun H1 kC hkC e1 z1 o1 => ?_
  exact kk H1 (hW.new hA ⟨_, hc, (u_born ty hts (fun w h => List.mem_cons_of_mem _ (hin w h)) hKn hkC e1 hty).to hfs⟩ z1 o1)
theorem rl_newi {n : Int32} {N' : Nat} (hC : rl_C p m c cc nL s args own cw D t A) (hW : rl_W D A f z s.heap H locs) (hw : Cond.arrayClass .int ∈ rl_G) (hn : ¬ n < 0) (hN : n.toNatClampNeg = N') (hbytes : N' * 4 ≤ 536870912) (hcells : cells + 1 ≤ R.cells) (hslots : slots + N' ≤ R.slots) (hdg : decode cc pc = .ok (.newarray .int, 2))
    (kk : ∀ H1 : Heap, rl_W D A (rl_up f z (.inl (t 0, N', .inl (fun _ => 0)))) (z + 1) s.heap H1 locs → W p l e R s m args below meth c H1 locs (cells + 1) (slots + N') Q (F0 m (pc + 2) ls (.ref z :: rest))) : W p l e R s m args below meth c H locs cells slots Q (F0 m pc ls (.int n :: rest)) := by
  obtain ⟨hx, hb, hml, hown, hts, hK, hA⟩ := hC
  refine va_newaK hx hb (atype := .int) (hts _ (List.mem_cons_of_mem _ hw)) rfl hdg rfl hn hN hbytes hcells hslots hW.1 fun H1 cA e1 z1 o1 hAr hNm => ?_
  have hcA : cA = t 0 := Option.some.inj (hNm.symm.trans (hK.1.2 0 _ rfl).2)
  subst hcA
  exact kk H1 (hW.new hA e1 z1 o1)
theorem rl_newl {n : Int32} {N' : Nat} (hC : rl_C p m c cc nL s args own cw D t A) (hW : rl_W D A f z s.heap H locs) (hw : Cond.arrayClass .long ∈ rl_G) (hn : ¬ n < 0) (hN : n.toNatClampNeg = N') (hbytes : N' * 8 ≤ 536870912) (hcells : cells + 1 ≤ R.cells) (hslots : slots + N' ≤ R.slots) (hdg : decode cc pc = .ok (.newarray .long, 2))
    (kk : ∀ H1 : Heap, rl_W D A (rl_up f z (.inl (t 1, N', .inr (.inl (fun _ => 0))))) (z + 1) s.heap H1 locs → W p l e R s m args below meth c H1 locs (cells + 1) (slots + N') Q (F0 m (pc + 2) ls (.ref z :: rest))) : W p l e R s m args below meth c H locs cells slots Q (F0 m pc ls (.int n :: rest)) := by
  obtain ⟨hx, hb, hml, hown, hts, hK, hA⟩ := hC
  refine va_newaK hx hb (atype := .long) (hts _ (List.mem_cons_of_mem _ hw)) rfl hdg rfl hn hN hbytes hcells hslots hW.1 fun H1 cA e1 z1 o1 hAr hNm => ?_
  have hcA : cA = t 1 := Option.some.inj (hNm.symm.trans (hK.1.2 1 _ rfl).2)
  subst hcA
  exact kk H1 (hW.new hA e1 z1 o1)
theorem rl_newz {n : Int32} {N' : Nat} (hC : rl_C p m c cc nL s args own cw D t A) (hW : rl_W D A f z s.heap H locs) (hw : Cond.arrayClass .boolean ∈ rl_G) (hn : ¬ n < 0) (hN : n.toNatClampNeg = N') (hbytes : N' * 1 ≤ 536870912) (hcells : cells + 1 ≤ R.cells) (hslots : slots + N' ≤ R.slots) (hdg : decode cc pc = .ok (.newarray .boolean, 2))
    (kk : ∀ H1 : Heap, rl_W D A (rl_up f z (.inl (t 2, N', .inl (fun _ => 0)))) (z + 1) s.heap H1 locs → W p l e R s m args below meth c H1 locs (cells + 1) (slots + N') Q (F0 m (pc + 2) ls (.ref z :: rest))) : W p l e R s m args below meth c H locs cells slots Q (F0 m pc ls (.int n :: rest)) := by
  obtain ⟨hx, hb, hml, hown, hts, hK, hA⟩ := hC
  refine va_newaK hx hb (atype := .boolean) (hts _ (List.mem_cons_of_mem _ hw)) rfl hdg rfl hn hN hbytes hcells hslots hW.1 fun H1 cA e1 z1 o1 hAr hNm => ?_
  have hcA : cA = t 2 := Option.some.inj (hNm.symm.trans (hK.1.2 2 _ rfl).2)
  subst hcA
  exact kk H1 (hW.new hA e1 z1 o1)
theorem rl_newq (j : Nat) {C : String} {index : Nat} {n : Int32} {N' : Nat} (hC : rl_C p m c cc nL s args own cw D t A) (hW : rl_W D A f z s.heap H locs) (hj : (rl_tys t)[j]? = some (t j, .object C)) (hclink : Cond.classLink own index C ∈ rl_G) (hover : Cond.arrayOver (.object C) ∈ lw_tbl) (hn : ¬ n < 0) (hN : n.toNatClampNeg = N') (hbytes : N' * 4 ≤ 536870912) (hcells : cells + 1 ≤ R.cells) (hslots : slots + N' ≤ R.slots) (hdg : decode cc pc = .ok (.anewarray index, 3))
    (kk : ∀ H1 : Heap, rl_W D A (rl_up f z (.inl (t j, N', .inr (.inr (.inr (.inr (fun _ => none))))))) (z + 1) s.heap H1 locs → W p l e R s m args below meth c H1 locs (cells + 1) (slots + N') Q (F0 m (pc + 3) ls (.ref z :: rest))) : W p l e R s m args below meth c H locs cells slots Q (F0 m pc ls (.int n :: rest)) := by
  obtain ⟨hx, hb, hml, hown, hts, hK, hA⟩ := hC
  subst hN
  refine W.anew hx hb hown (hts _ (List.mem_cons_of_mem _ hclink)) (va_AO.use (hK.2.2.2 C hover)) rfl hdg rfl hn hbytes hcells hslots fun cA kA comp f1 f2 f3 f4 => ?_
  obtain ⟨kA', comp', -, -, -, k4⟩ := (hK.1.2 j _ hj).2
  have hcA : cA = t j := Option.some.inj (f1.symm.trans k4)
  subst hcA
  have hz : H.size = z := hW.1
  subst hz
  generalize hH1 : H.push ({ cls := t j, slots := Array.replicate n.toNatClampNeg .null, vm := .none } : Cell) = H1
  have z1 : H1.size = H.size + 1 := by rw [← hH1, Array.size_push]
  have e1 : H1[H.size]? = some (arrV (t j) n.toNatClampNeg (fun _ => .null)) := by rw [← hH1, Array.getElem?_push_size, ← arrV_new]
  have o1 : ∀ q : Nat, q < H.size → H1[q]? = H[q]? := fun q hq => by rw [← hH1, Array.getElem?_push, if_neg (Nat.ne_of_lt hq)]
  exact kk H1 (hW.new hA e1 z1 o1)
theorem rl_recv {b ci : Nat} {fs : List Value} {r : vw_C} (hC : rl_C p m c cc nL s args own cw D t A) (hW : rl_W D A f z s.heap H locs) (he : f b = some (.inr (ci, fs))) (hc : rl_cl[ci]? = some r) : ∃ cell : Cell, H[b]? = some cell ∧ cell.vm.isStatics = false ∧ s.vm.findClass r.1 = some cell.cls :=
  va_recv hC.2.2.2.2.2.1.1 (hW.one he) hc (q0 := 0) rfl
theorem rl_blind {f : rl_M} {z : Nat} {av : List Value} : FrameBlind (rl_P D t A f z av) := fun a U g mk h => ⟨h.1, h.2.1, rl_K.same (s := U) (U := U.calling g mk a) rfl h.2.2.1, h.2.2.2⟩
theorem rl_pre {av : List Value} (hC : rl_C p m c cc nL s args own cw D t A) (hW : rl_W D A f z s.heap H locs) (U : State) (hU : U.heap = H) (hWm : s.WarmedH U.vm) : rl_P D t A f z av av.toArray U :=
  ⟨rfl, ⟨by rw [hU]; exact hW.1, fun b x hx => by rw [hU]; exact hW.2.1 b x hx⟩, hC.2.2.2.2.2.1.warm hWm, fun q hq => hC.2.2.2.2.2.2 q (Nat.le_trans hW.2.2.1 (by rw [← hU]; exact hq))⟩
theorem rl_runV {y : MethodName} {bytes : ByteArray} {maxL n index b ci N : Nat} {ret : Option FieldType} {rm : Room} {post : Option Value → rl_M → Nat → Nat → Prop} {As st0 fs : List Value} {T : u_T} (hC : rl_C p m c cc nL s args own cw D t A) (hW : rl_W D A f z s.heap H locs) (hM : rl_Met l y (.code y bytes maxL ret) rm D t A f z (.ref b :: As) post) (hs : rl_cs own index y bytes maxL ret n) (hi : Cond.instanceMethod y ∈ rl_G) (hv : Cond.selects y.cls y y ∈ lw_tbl) (he : f b = some (.inr (ci, fs))) (hc : rl_cl[ci]? = some (y.cls, T, N)) (hR : rm.frames + 1 ≤ R.frames ∧ 8 + (maxL + 11) + rm.locals ≤ R.locals) (hn : As.length = n) (hl : ls.size = nL) (hst : st0 = As.reverse ++ .ref b :: rest) (hcat : (rest.map fun v => v.category).sum ≤ 8) (hdg : decode cc pc = .ok (.invokevirtual index, 3)) (hf : cells + rm.cells ≤ R.cells ∧ slots + rm.slots ≤ R.slots) (hsel : goodWord (Cond.selects y.cls y y) = true := by rfl) :
    va_Run p l e R s m args below meth c H locs cells slots rm.cells rm.slots (F0 m pc ls st0) rest (rl_Q D A post (Value.ref b :: As).toArray) A := by
  subst hst
  have hts := hC.2.2.2.2.1
  have hS : CallFix p m c cc nL s args (cw :: rl_G) own := ⟨hC.1, hC.2.1, hC.2.2.1, hC.2.2.2.1, hts⟩
  have g : ∀ {w : Cond}, w ∈ rl_G → w.before args s = true := fun h => hts _ (List.mem_cons_of_mem _ h)
  rcases hs.1 with hl1 | ⟨host, hl1⟩
  · exact va_runV hS hM ⟨callB_of n hts (rl_good hs.2.1) rfl rfl rfl (g hs.2.2.1) (g hl1) hs.2.2.2 hR, g hi, g (rl_inG hv hsel)⟩ ⟨rl_blind, rl_recv hC hW he hc, fun U hU hWm => rl_pre hC hW U hU hWm⟩ rfl hn hl rfl (lv_room hcat) hdg hf
  · exact va_runVN hS hM ⟨va_cnB n hts (rl_good hs.2.1) rfl rfl rfl (hC.2.2.2.2.2.1.2.1 _ hl1 rfl) (g hs.2.2.1) hs.2.2.2 hR, g hi, g (rl_inG hv hsel)⟩ ⟨rl_blind, rl_recv hC hW he hc, fun U hU hWm => rl_pre hC hW U hU hWm⟩ rfl hn hl rfl (lv_room hcat) hdg hf
theorem rl_runS {y : MethodName} {bytes : ByteArray} {maxL n index : Nat} {ret : Option FieldType} {rm : Room} {post : Option Value → rl_M → Nat → Nat → Prop} {As st0 : List Value} (hC : rl_C p m c cc nL s args own cw D t A) (hW : rl_W D A f z s.heap H locs) (hM : rl_Met l y (.code y bytes maxL ret) rm D t A f z As post) (hs : rl_cs own index y bytes maxL ret n) (hi : Cond.static y ∈ rl_G) (hR : rm.frames + 1 ≤ R.frames ∧ 8 + (maxL + 11) + rm.locals ≤ R.locals) (hn : As.length = n) (hl : ls.size = nL) (hst : st0 = As.reverse ++ rest) (hcat : (rest.map fun v => v.category).sum ≤ 8) (hdg : decode cc pc = .ok (.invokestatic index, 3)) (hf : cells + rm.cells ≤ R.cells ∧ slots + rm.slots ≤ R.slots) :
    va_Run p l e R s m args below meth c H locs cells slots rm.cells rm.slots (F0 m pc ls st0) rest (rl_Q D A post As.toArray) A := by
  subst hst
  have hts := hC.2.2.2.2.1
  have hS : CallFix p m c cc nL s args (cw :: rl_G) own := ⟨hC.1, hC.2.1, hC.2.2.1, hC.2.2.2.1, hts⟩
  have g : ∀ {w : Cond}, w ∈ rl_G → w.before args s = true := fun h => hts _ (List.mem_cons_of_mem _ h)
  rcases hs.1 with hl1 | ⟨host, hl1⟩
  · exact va_runS hS hM ⟨callB_of n hts (rl_good hs.2.1) rfl rfl rfl (g hs.2.2.1) (g hl1) hs.2.2.2 hR, g hi⟩ ⟨rl_blind, fun U hU hWm => rl_pre hC hW U hU hWm⟩ rfl hn hl rfl (lv_room hcat) hdg hf
  · exact va_runSN hS hM ⟨va_cnB n hts (rl_good hs.2.1) rfl rfl rfl (hC.2.2.2.2.2.1.2.1 _ hl1 rfl) (g hs.2.2.1) hs.2.2.2 hR, g hi, trivial⟩ ⟨rl_blind, fun U hU hWm => rl_pre hC hW U hU hWm⟩ rfl hn hl rfl (lv_room hcat) hdg hf
theorem rl_runI {y : MethodName} {bytes : ByteArray} {maxL n index b : Nat} {rm : Room} {post : Option Value → rl_M → Nat → Nat → Prop} {As st0 : List Value} (hC : rl_C p m c cc nL s args own cw D t A) (hW : rl_W D A f z s.heap H locs) (hM : rl_Met l y (.code y bytes maxL none) rm D t A f z (.ref b :: As) post) (hs : rl_cs own index y bytes maxL none n) (hi : Cond.instanceMethod y ∈ rl_G) (hy1 : y.name = "<init>") (hR : rm.frames + 1 ≤ R.frames ∧ 8 + (maxL + 11) + rm.locals ≤ R.locals) (hn : As.length = n) (hl : ls.size = nL) (hst : st0 = As.reverse ++ .ref b :: rest) (hcat : (rest.map fun v => v.category).sum ≤ 8) (hdg : decode cc pc = .ok (.invokespecial index, 3)) (hf : cells + rm.cells ≤ R.cells ∧ slots + rm.slots ≤ R.slots) :
    va_Run p l e R s m args below meth c H locs cells slots rm.cells rm.slots (F0 m pc ls st0) rest (rl_Q D A post (Value.ref b :: As).toArray) A := by
  subst hst
  have hts := hC.2.2.2.2.1
  have hS : CallFix p m c cc nL s args (cw :: rl_G) own := ⟨hC.1, hC.2.1, hC.2.2.1, hC.2.2.2.1, hts⟩
  have g : ∀ {w : Cond}, w ∈ rl_G → w.before args s = true := fun h => hts _ (List.mem_cons_of_mem _ h)
  rcases hs.1 with hl1 | ⟨host, hl1⟩
  · exact va_runI hS hM ⟨callB_of n hts (rl_good hs.2.1) rfl rfl rfl (g hs.2.2.1) (g hl1) hs.2.2.2 hR, hy1, g hi⟩ ⟨rl_blind, fun U hU hWm => rl_pre hC hW U hU hWm⟩ rfl hn hl rfl (lv_room hcat) hdg hf
  · exact va_runIN hS hM ⟨va_cnB n hts (rl_good hs.2.1) rfl rfl rfl (hC.2.2.2.2.2.1.2.1 _ hl1 rfl) (g hs.2.2.1) hs.2.2.2 hR, hy1, g hi⟩ ⟨rl_blind, fun U hU hWm => rl_pre hC hW U hU hWm⟩ rfl hn hl rfl (lv_room hcat) hdg hf
theorem rl_runU {x y : MethodName} {C owner : String} {bytes : ByteArray} {maxL n index b ci N : Nat} {ret : Option FieldType} {rm : Room} {post : Option Value → rl_M → Nat → Nat → Prop} {As st0 fs : List Value} {T : u_T} (hC : rl_C p m c cc nL s args own cw D t A) (hW : rl_W D A f z s.heap H locs) (hM : rl_Met l y (.code y bytes maxL ret) rm D t A f z (.ref b :: As) post) (hs : rl_cu own index C owner x y bytes maxL ret n) (he : f b = some (.inr (ci, fs))) (hc : rl_cl[ci]? = some (C, T, N)) (hR : rm.frames + 1 ≤ R.frames ∧ 8 + (maxL + 11) + rm.locals ≤ R.locals) (hn : As.length = n) (hl : ls.size = nL) (hst : st0 = As.reverse ++ .ref b :: rest) (hcat : (rest.map fun v => v.category).sum ≤ 8) (hdg : decode cc pc = .ok (.invokevirtual index, 3)) (hf : cells + rm.cells ≤ R.cells ∧ slots + rm.slots ≤ R.slots) :
    va_Run p l e R s m args below meth c H locs cells slots rm.cells rm.slots (F0 m pc ls st0) rest (rl_Q D A post (Value.ref b :: As).toArray) A := by
  subst hst
  have hts := hC.2.2.2.2.1
  have hS : CallFix p m c cc nL s args (cw :: rl_G) own := ⟨hC.1, hC.2.1, hC.2.2.1, hC.2.2.2.1, hts⟩
  obtain ⟨h1, h2, h3, h4, h5, h6, h7, h8⟩ := hs
  have hG : GoodIn (cw :: rl_G) (va_wsU own index C owner x y (Cond.code y bytes maxL ret :: rl_G)) := by
    intro w hw
    have hin : w ∈ rl_G := by
      simp only [va_wsU, List.cons_append, List.nil_append, List.mem_cons] at hw
      rcases hw with rfl | rfl | rfl | rfl | rfl | rfl | hw
      · exact h1
      · exact h2
      · exact h3
      · exact h4
      · exact h5
      · exact h7
      · exact hw
    exact ⟨List.mem_cons_of_mem _ hin, good_of_word (List.mem_filter.mp hin).2⟩
  exact va_runU hS hM (va_cwA n hts hG rfl rfl rfl (hC.2.2.2.2.2.1.2.1 _ h6 rfl) h8 hR) ⟨rl_blind, rl_recv hC hW he hc, fun U hU hWm => rl_pre hC hW U hU hWm⟩ rfl hn hl rfl (lv_room hcat) hdg hf
theorem rl_objInit {idx a : Nat} (hC : rl_C p m c cc nL s args own cw D t A) (hl1 : Cond.methodLink own idx objectInit ∈ rl_G) (hl2 : Cond.instanceMethod objectInit ∈ rl_G) (hl3 : Cond.code objectInit ⟨#[0xb1]⟩ 1 none ∈ rl_G) (hl : ls.size = nL) (hd : decode cc pc = .ok (.invokespecial idx, 3)) (hframes : 1 ≤ R.frames) (hlocals : (rest.map fun v => v.category).sum + 12 ≤ R.locals)
    (kk : W p l e R s m args below meth c H locs cells slots Q (F0 m (pc + 3) ls rest)) : W p l e R s m args below meth c H locs cells slots Q (F0 m pc ls (.ref a :: rest)) := by
  have hts := hC.2.2.2.2.1
  have g : ∀ {w : Cond}, w ∈ rl_G → w.before args s = true := fun h => hts _ (List.mem_cons_of_mem _ h)
  exact W.objInit hC.1 hC.2.1 hC.2.2.2.1 (g hl1) (g hl2) (g hl3) rfl (by rw [hC.2.2.1]; exact hl) rfl hd hframes (by show 2 * 0 + _ + 12 ≤ _; omega) kk
end RLY
end
section
theorem i_X0 : ∀ w ∈ u_ws RX0 TX0 3, w ∈ rl_G := fun w h => rl_inG ((by decide +kernel : ∀ w ∈ u_ws RX0 TX0 3, w ∈ lw_tbl) w h) ((by decide +kernel : ∀ w ∈ u_ws RX0 TX0 3, goodWord w = true) w h)
theorem i_X1 : ∀ w ∈ u_ws RX1 TX1 4, w ∈ rl_G := fun w h => rl_inG ((by decide +kernel : ∀ w ∈ u_ws RX1 TX1 4, w ∈ lw_tbl) w h) ((by decide +kernel : ∀ w ∈ u_ws RX1 TX1 4, goodWord w = true) w h)
theorem i_X2 : ∀ w ∈ u_ws RX2 TX2 4, w ∈ rl_G := fun w h => rl_inG ((by decide +kernel : ∀ w ∈ u_ws RX2 TX2 4, w ∈ lw_tbl) w h) ((by decide +kernel : ∀ w ∈ u_ws RX2 TX2 4, goodWord w = true) w h)
theorem i_X3 : ∀ w ∈ u_ws RX3 TX3 2, w ∈ rl_G := fun w h => rl_inG ((by decide +kernel : ∀ w ∈ u_ws RX3 TX3 2, w ∈ lw_tbl) w h) ((by decide +kernel : ∀ w ∈ u_ws RX3 TX3 2, goodWord w = true) w h)
theorem i_X4 : ∀ w ∈ u_ws RX4 TX4 3, w ∈ rl_G := fun w h => rl_inG ((by decide +kernel : ∀ w ∈ u_ws RX4 TX4 3, w ∈ lw_tbl) w h) ((by decide +kernel : ∀ w ∈ u_ws RX4 TX4 3, goodWord w = true) w h)
theorem i_X5 : ∀ w ∈ u_ws RX5 TX5 8, w ∈ rl_G := fun w h => rl_inG ((by decide +kernel : ∀ w ∈ u_ws RX5 TX5 8, w ∈ lw_tbl) w h) ((by decide +kernel : ∀ w ∈ u_ws RX5 TX5 8, goodWord w = true) w h)
theorem i_X6 : ∀ w ∈ u_ws RX6 TX6 3, w ∈ rl_G := fun w h => rl_inG ((by decide +kernel : ∀ w ∈ u_ws RX6 TX6 3, w ∈ lw_tbl) w h) ((by decide +kernel : ∀ w ∈ u_ws RX6 TX6 3, goodWord w = true) w h)
theorem i_X7 : ∀ w ∈ u_ws RX7 TX7 6, w ∈ rl_G := fun w h => rl_inG ((by decide +kernel : ∀ w ∈ u_ws RX7 TX7 6, w ∈ lw_tbl) w h) ((by decide +kernel : ∀ w ∈ u_ws RX7 TX7 6, goodWord w = true) w h)
theorem i_X8 : ∀ w ∈ u_ws RX8 TX8 1, w ∈ rl_G := fun w h => rl_inG ((by decide +kernel : ∀ w ∈ u_ws RX8 TX8 1, w ∈ lw_tbl) w h) ((by decide +kernel : ∀ w ∈ u_ws RX8 TX8 1, goodWord w = true) w h)
theorem i_X9 : ∀ w ∈ u_ws RX9 TX9 4, w ∈ rl_G := fun w h => rl_inG ((by decide +kernel : ∀ w ∈ u_ws RX9 TX9 4, w ∈ lw_tbl) w h) ((by decide +kernel : ∀ w ∈ u_ws RX9 TX9 4, goodWord w = true) w h)
theorem i_X11 : ∀ w ∈ u_ws RX11 TX11 12, w ∈ rl_G := fun w h => rl_inG ((by decide +kernel : ∀ w ∈ u_ws RX11 TX11 12, w ∈ lw_tbl) w h) ((by decide +kernel : ∀ w ∈ u_ws RX11 TX11 12, goodWord w = true) w h)
theorem i_X12 : ∀ w ∈ u_ws RX12 TX12 49, w ∈ rl_G := fun w h => rl_inG ((by decide +kernel : ∀ w ∈ u_ws RX12 TX12 49, w ∈ lw_tbl) w h) ((by decide +kernel : ∀ w ∈ u_ws RX12 TX12 49, goodWord w = true) w h)
theorem mt_124 : (Cond.fieldLink "RecordLeaves" (10 : Nat) "RecordLeaves" "kinds" "LRecordLeaves$Kinds;") ∈ lw_tbl := List.mem_append_right _ (List.mem_append_left _ (List.mem_of_getElem? (i := 124) (by decide +kernel)))
theorem mw_124 : (Cond.fieldLink "RecordLeaves" (10 : Nat) "RecordLeaves" "kinds" "LRecordLeaves$Kinds;") ∈ rl_G := rl_inG mt_124 rfl
theorem fl_X11_10 : rl_fl RX11 10 10 0 := ⟨RX11, TX11, 12, rfl, by decide, i_X11, Or.inl mw_124⟩
theorem fp_X11_10 : rl_fp RX11 10 10 0 (.object "RecordLeaves$Kinds") true := ⟨RX11, TX11, 12, tyX11, rfl, by decide, i_X11, tyX11_ok, nmX11, rfl, tyX11_ok 0 (by decide), (fun _ => rfl), Or.inl mw_124⟩
theorem mt_125 : (Cond.fieldLink "RecordLeaves" (18 : Nat) "RecordLeaves" "places" "[LRecordLeaves$Thing;") ∈ lw_tbl := List.mem_append_right _ (List.mem_append_left _ (List.mem_of_getElem? (i := 125) (by decide +kernel)))
theorem mw_125 : (Cond.fieldLink "RecordLeaves" (18 : Nat) "RecordLeaves" "places" "[LRecordLeaves$Thing;") ∈ rl_G := rl_inG mt_125 rfl
theorem fl_X11_18 : rl_fl RX11 18 10 1 := ⟨RX11, TX11, 12, rfl, by decide, i_X11, Or.inl mw_125⟩
theorem fp_X11_18 : rl_fp RX11 18 10 1 (.array (.object "RecordLeaves$Thing")) true := ⟨RX11, TX11, 12, tyX11, rfl, by decide, i_X11, tyX11_ok, nmX11, rfl, tyX11_ok 1 (by decide), (fun _ => rfl), Or.inl mw_125⟩
theorem mt_126 : (Cond.fieldLink "RecordLeaves" (22 : Nat) "RecordLeaves" "givenNumbers" "[J") ∈ lw_tbl := List.mem_append_right _ (List.mem_append_left _ (List.mem_of_getElem? (i := 126) (by decide +kernel)))
theorem mw_126 : (Cond.fieldLink "RecordLeaves" (22 : Nat) "RecordLeaves" "givenNumbers" "[J") ∈ rl_G := rl_inG mt_126 rfl
theorem fl_X11_22 : rl_fl RX11 22 10 2 := ⟨RX11, TX11, 12, rfl, by decide, i_X11, Or.inl mw_126⟩
theorem fp_X11_22 : rl_fp RX11 22 10 2 (.array .long) true := ⟨RX11, TX11, 12, tyX11, rfl, by decide, i_X11, tyX11_ok, nmX11, rfl, tyX11_ok 2 (by decide), (fun _ => rfl), Or.inl mw_126⟩
theorem mt_127 : (Cond.fieldLink "RecordLeaves" (26 : Nat) "RecordLeaves" "givenPlaces" "[I") ∈ lw_tbl := List.mem_append_right _ (List.mem_append_left _ (List.mem_of_getElem? (i := 127) (by decide +kernel)))
theorem mw_127 : (Cond.fieldLink "RecordLeaves" (26 : Nat) "RecordLeaves" "givenPlaces" "[I") ∈ rl_G := rl_inG mt_127 rfl
theorem fl_X11_26 : rl_fl RX11 26 10 3 := ⟨RX11, TX11, 12, rfl, by decide, i_X11, Or.inl mw_127⟩
theorem fp_X11_26 : rl_fp RX11 26 10 3 (.array .int) true := ⟨RX11, TX11, 12, tyX11, rfl, by decide, i_X11, tyX11_ok, nmX11, rfl, tyX11_ok 3 (by decide), (fun _ => rfl), Or.inl mw_127⟩
theorem mt_128 : (Cond.fieldLink "RecordLeaves" (33 : Nat) "RecordLeaves" "tape" "LRecordLeaves$Tape;") ∈ lw_tbl := List.mem_append_right _ (List.mem_append_left _ (List.mem_of_getElem? (i := 128) (by decide +kernel)))
theorem mw_128 : (Cond.fieldLink "RecordLeaves" (33 : Nat) "RecordLeaves" "tape" "LRecordLeaves$Tape;") ∈ rl_G := rl_inG mt_128 rfl
theorem fl_X11_33 : rl_fl RX11 33 10 4 := ⟨RX11, TX11, 12, rfl, by decide, i_X11, Or.inl mw_128⟩
theorem fp_X11_33 : rl_fp RX11 33 10 4 (.object "RecordLeaves$Tape") true := ⟨RX11, TX11, 12, tyX11, rfl, by decide, i_X11, tyX11_ok, nmX11, rfl, tyX11_ok 4 (by decide), (fun _ => rfl), Or.inl mw_128⟩
theorem mt_129 : (Cond.fieldLink "RecordLeaves" (37 : Nat) "RecordLeaves" "told" "I") ∈ lw_tbl := List.mem_append_right _ (List.mem_append_left _ (List.mem_of_getElem? (i := 129) (by decide +kernel)))
theorem mw_129 : (Cond.fieldLink "RecordLeaves" (37 : Nat) "RecordLeaves" "told" "I") ∈ rl_G := rl_inG mt_129 rfl
theorem fl_X11_37 : rl_fl RX11 37 10 5 := ⟨RX11, TX11, 12, rfl, by decide, i_X11, Or.inl mw_129⟩
theorem fp_X11_37 : rl_fp RX11 37 10 5 .int false := ⟨RX11, TX11, 12, tyX11, rfl, by decide, i_X11, tyX11_ok, nmX11, rfl, tyX11_ok 5 (by decide), (fun h => by cases h), Or.inl mw_129⟩
theorem mt_131 : (Cond.fieldLink "RecordLeaves" (41 : Nat) "RecordLeaves" "causeLeaf" "I") ∈ lw_tbl := List.mem_append_right _ (List.mem_append_left _ (List.mem_of_getElem? (i := 131) (by decide +kernel)))
theorem mw_131 : (Cond.fieldLink "RecordLeaves" (41 : Nat) "RecordLeaves" "causeLeaf" "I") ∈ rl_G := rl_inG mt_131 rfl
theorem fl_X11_41 : rl_fl RX11 41 10 7 := ⟨RX11, TX11, 12, rfl, by decide, i_X11, Or.inl mw_131⟩
theorem fp_X11_41 : rl_fp RX11 41 10 7 .int false := ⟨RX11, TX11, 12, tyX11, rfl, by decide, i_X11, tyX11_ok, nmX11, rfl, tyX11_ok 7 (by decide), (fun h => by cases h), Or.inl mw_131⟩
theorem mt_194 : (Cond.fieldLinkNest "RecordLeaves" (98 : Nat) "RecordLeaves$Constant" "order" "I" "RecordLeaves") ∈ lw_tbl := List.mem_append_right _ (List.mem_append_left _ (List.mem_of_getElem? (i := 194) (by decide +kernel)))
theorem fl_X11_98 : rl_fl RX11 98 1 2 := ⟨RX1, TX1, 4, rfl, by decide, i_X1, Or.inr ⟨"RecordLeaves", mt_194⟩⟩
theorem mt_302 : (Cond.fieldLinkNest "RecordLeaves" (108 : Nat) "RecordLeaves$Row" "items" "[I" "RecordLeaves") ∈ lw_tbl := List.mem_append_right _ (List.mem_append_right _ (List.mem_append_left _ (List.mem_of_getElem? (i := 62) (by decide +kernel))))
theorem fl_X11_108 : rl_fl RX11 108 8 0 := ⟨RX8, TX8, 1, rfl, by decide, i_X8, Or.inr ⟨"RecordLeaves", mt_302⟩⟩
theorem mt_133 : (Cond.fieldLink "RecordLeaves" (132 : Nat) "RecordLeaves" "made" "I") ∈ lw_tbl := List.mem_append_right _ (List.mem_append_left _ (List.mem_of_getElem? (i := 133) (by decide +kernel)))
theorem mw_133 : (Cond.fieldLink "RecordLeaves" (132 : Nat) "RecordLeaves" "made" "I") ∈ rl_G := rl_inG mt_133 rfl
theorem fl_X11_132 : rl_fl RX11 132 10 9 := ⟨RX11, TX11, 12, rfl, by decide, i_X11, Or.inl mw_133⟩
theorem fp_X11_132 : rl_fp RX11 132 10 9 .int false := ⟨RX11, TX11, 12, tyX11, rfl, by decide, i_X11, tyX11_ok, nmX11, rfl, tyX11_ok 9 (by decide), (fun h => by cases h), Or.inl mw_133⟩
theorem mt_353 : (Cond.fieldLinkNest "RecordLeaves" (149 : Nat) "RecordLeaves$RecordThing" "numbers" "[J" "RecordLeaves") ∈ lw_tbl := List.mem_append_right _ (List.mem_append_right _ (List.mem_append_left _ (List.mem_of_getElem? (i := 113) (by decide +kernel))))
theorem fl_X11_149 : rl_fl RX11 149 6 1 := ⟨RX6, TX6, 3, rfl, by decide, i_X6, Or.inr ⟨"RecordLeaves", mt_353⟩⟩
theorem mt_358 : (Cond.fieldLinkNest "RecordLeaves" (152 : Nat) "RecordLeaves$RecordThing" "things" "[LRecordLeaves$Thing;" "RecordLeaves") ∈ lw_tbl := List.mem_append_right _ (List.mem_append_right _ (List.mem_append_left _ (List.mem_of_getElem? (i := 118) (by decide +kernel))))
theorem fl_X11_152 : rl_fl RX11 152 6 2 := ⟨RX6, TX6, 3, rfl, by decide, i_X6, Or.inr ⟨"RecordLeaves", mt_358⟩⟩
theorem mt_111 : (Cond.fieldLinkNest "RecordLeaves" (162 : Nat) "RecordLeaves$Tape" "size" "I" "RecordLeaves") ∈ lw_tbl := List.mem_append_right _ (List.mem_append_left _ (List.mem_of_getElem? (i := 111) (by decide +kernel)))
theorem fl_X11_162 : rl_fl RX11 162 9 2 := ⟨RX9, TX9, 4, rfl, by decide, i_X9, Or.inr ⟨"RecordLeaves", mt_111⟩⟩
theorem fp_X11_162 : rl_fp RX11 162 9 2 .int false := ⟨RX9, TX9, 4, tyX9, rfl, by decide, i_X9, tyX9_ok, nmX9, rfl, tyX9_ok 2 (by decide), (fun h => by cases h), Or.inr ⟨rfl, "RecordLeaves", mt_111⟩⟩
theorem mt_107 : (Cond.fieldLinkNest "RecordLeaves" (165 : Nat) "RecordLeaves$Tape" "leaves" "[J" "RecordLeaves") ∈ lw_tbl := List.mem_append_right _ (List.mem_append_left _ (List.mem_of_getElem? (i := 107) (by decide +kernel)))
theorem fl_X11_165 : rl_fl RX11 165 9 0 := ⟨RX9, TX9, 4, rfl, by decide, i_X9, Or.inr ⟨"RecordLeaves", mt_107⟩⟩
theorem mt_556 : (Cond.fieldLinkNest "RecordLeaves" (183 : Nat) "RecordLeaves$Reader" "made" "I" "RecordLeaves") ∈ lw_tbl := List.mem_append_right _ (List.mem_append_right _ (List.mem_append_right _ (List.mem_append_left _ (List.mem_of_getElem? (i := 76) (by decide +kernel)))))
theorem fl_X11_183 : rl_fl RX11 183 5 7 := ⟨RX5, TX5, 8, rfl, by decide, i_X5, Or.inr ⟨"RecordLeaves", mt_556⟩⟩
theorem fp_X11_183 : rl_fp RX11 183 5 7 .int false := ⟨RX5, TX5, 8, tyX5, rfl, by decide, i_X5, tyX5_ok, nmX5, rfl, tyX5_ok 7 (by decide), (fun h => by cases h), Or.inr ⟨rfl, "RecordLeaves", mt_556⟩⟩
theorem mt_554 : (Cond.fieldLinkNest "RecordLeaves" (184 : Nat) "RecordLeaves$Reader" "why" "I" "RecordLeaves") ∈ lw_tbl := List.mem_append_right _ (List.mem_append_right _ (List.mem_append_right _ (List.mem_append_left _ (List.mem_of_getElem? (i := 74) (by decide +kernel)))))
theorem fl_X11_184 : rl_fl RX11 184 5 6 := ⟨RX5, TX5, 8, rfl, by decide, i_X5, Or.inr ⟨"RecordLeaves", mt_554⟩⟩
theorem fp_X11_184 : rl_fp RX11 184 5 6 .int false := ⟨RX5, TX5, 8, tyX5, rfl, by decide, i_X5, tyX5_ok, nmX5, rfl, tyX5_ok 6 (by decide), (fun h => by cases h), Or.inr ⟨rfl, "RecordLeaves", mt_554⟩⟩
theorem mt_134 : (Cond.fieldLink "RecordLeaves" (187 : Nat) "RecordLeaves" "readWell" "I") ∈ lw_tbl := List.mem_append_right _ (List.mem_append_left _ (List.mem_of_getElem? (i := 134) (by decide +kernel)))
theorem mw_134 : (Cond.fieldLink "RecordLeaves" (187 : Nat) "RecordLeaves" "readWell" "I") ∈ rl_G := rl_inG mt_134 rfl
theorem fl_X11_187 : rl_fl RX11 187 10 10 := ⟨RX11, TX11, 12, rfl, by decide, i_X11, Or.inl mw_134⟩
theorem fp_X11_187 : rl_fp RX11 187 10 10 .int false := ⟨RX11, TX11, 12, tyX11, rfl, by decide, i_X11, tyX11_ok, nmX11, rfl, tyX11_ok 10 (by decide), (fun h => by cases h), Or.inl mw_134⟩
theorem mt_135 : (Cond.fieldLink "RecordLeaves" (190 : Nat) "RecordLeaves" "readBadly" "I") ∈ lw_tbl := List.mem_append_right _ (List.mem_append_left _ (List.mem_of_getElem? (i := 135) (by decide +kernel)))
theorem mw_135 : (Cond.fieldLink "RecordLeaves" (190 : Nat) "RecordLeaves" "readBadly" "I") ∈ rl_G := rl_inG mt_135 rfl
theorem fl_X11_190 : rl_fl RX11 190 10 11 := ⟨RX11, TX11, 12, rfl, by decide, i_X11, Or.inl mw_135⟩
theorem fp_X11_190 : rl_fp RX11 190 10 11 .int false := ⟨RX11, TX11, 12, tyX11, rfl, by decide, i_X11, tyX11_ok, nmX11, rfl, tyX11_ok 11 (by decide), (fun h => by cases h), Or.inl mw_135⟩
theorem mt_550 : (Cond.fieldLinkNest "RecordLeaves" (193 : Nat) "RecordLeaves$Reader" "last" "I" "RecordLeaves") ∈ lw_tbl := List.mem_append_right _ (List.mem_append_right _ (List.mem_append_right _ (List.mem_append_left _ (List.mem_of_getElem? (i := 70) (by decide +kernel)))))
theorem fl_X11_193 : rl_fl RX11 193 5 4 := ⟨RX5, TX5, 8, rfl, by decide, i_X5, Or.inr ⟨"RecordLeaves", mt_550⟩⟩
theorem fp_X11_193 : rl_fp RX11 193 5 4 .int false := ⟨RX5, TX5, 8, tyX5, rfl, by decide, i_X5, tyX5_ok, nmX5, rfl, tyX5_ok 4 (by decide), (fun h => by cases h), Or.inr ⟨rfl, "RecordLeaves", mt_550⟩⟩
theorem mt_552 : (Cond.fieldLinkNest "RecordLeaves" (196 : Nat) "RecordLeaves$Reader" "open" "I" "RecordLeaves") ∈ lw_tbl := List.mem_append_right _ (List.mem_append_right _ (List.mem_append_right _ (List.mem_append_left _ (List.mem_of_getElem? (i := 72) (by decide +kernel)))))
theorem fl_X11_196 : rl_fl RX11 196 5 5 := ⟨RX5, TX5, 8, rfl, by decide, i_X5, Or.inr ⟨"RecordLeaves", mt_552⟩⟩
theorem fp_X11_196 : rl_fp RX11 196 5 5 .int false := ⟨RX5, TX5, 8, tyX5, rfl, by decide, i_X5, tyX5_ok, nmX5, rfl, tyX5_ok 5 (by decide), (fun h => by cases h), Or.inr ⟨rfl, "RecordLeaves", mt_552⟩⟩
theorem mt_130 : (Cond.fieldLink "RecordLeaves" (199 : Nat) "RecordLeaves" "causeWhy" "I") ∈ lw_tbl := List.mem_append_right _ (List.mem_append_left _ (List.mem_of_getElem? (i := 130) (by decide +kernel)))
theorem mw_130 : (Cond.fieldLink "RecordLeaves" (199 : Nat) "RecordLeaves" "causeWhy" "I") ∈ rl_G := rl_inG mt_130 rfl
theorem fl_X11_199 : rl_fl RX11 199 10 6 := ⟨RX11, TX11, 12, rfl, by decide, i_X11, Or.inl mw_130⟩
theorem fp_X11_199 : rl_fp RX11 199 10 6 .int false := ⟨RX11, TX11, 12, tyX11, rfl, by decide, i_X11, tyX11_ok, nmX11, rfl, tyX11_ok 6 (by decide), (fun h => by cases h), Or.inl mw_130⟩
theorem mt_132 : (Cond.fieldLink "RecordLeaves" (202 : Nat) "RecordLeaves" "causeRecords" "I") ∈ lw_tbl := List.mem_append_right _ (List.mem_append_left _ (List.mem_of_getElem? (i := 132) (by decide +kernel)))
theorem mw_132 : (Cond.fieldLink "RecordLeaves" (202 : Nat) "RecordLeaves" "causeRecords" "I") ∈ rl_G := rl_inG mt_132 rfl
theorem fl_X11_202 : rl_fl RX11 202 10 8 := ⟨RX11, TX11, 12, rfl, by decide, i_X11, Or.inl mw_132⟩
theorem fp_X11_202 : rl_fp RX11 202 10 8 .int false := ⟨RX11, TX11, 12, tyX11, rfl, by decide, i_X11, tyX11_ok, nmX11, rfl, tyX11_ok 8 (by decide), (fun h => by cases h), Or.inl mw_132⟩
theorem mt_348 : (Cond.fieldLinkNest "RecordLeaves" (219 : Nat) "RecordLeaves$RecordThing" "its" "LRecordLeaves$RecordVersion;" "RecordLeaves") ∈ lw_tbl := List.mem_append_right _ (List.mem_append_right _ (List.mem_append_left _ (List.mem_of_getElem? (i := 108) (by decide +kernel))))
theorem fl_X11_219 : rl_fl RX11 219 6 0 := ⟨RX6, TX6, 3, rfl, by decide, i_X6, Or.inr ⟨"RecordLeaves", mt_348⟩⟩
theorem mt_268 : (Cond.fieldLink "RecordLeaves$Check" (9 : Nat) "RecordLeaves$Check" "how" "I") ∈ lw_tbl := List.mem_append_right _ (List.mem_append_right _ (List.mem_append_left _ (List.mem_of_getElem? (i := 28) (by decide +kernel))))
theorem mw_268 : (Cond.fieldLink "RecordLeaves$Check" (9 : Nat) "RecordLeaves$Check" "how" "I") ∈ rl_G := rl_inG mt_268 rfl
theorem fl_X0_9 : rl_fl RX0 9 0 0 := ⟨RX0, TX0, 3, rfl, by decide, i_X0, Or.inl mw_268⟩
theorem fp_X0_9 : rl_fp RX0 9 0 0 .int true := ⟨RX0, TX0, 3, tyX0, rfl, by decide, i_X0, tyX0_ok, nmX0, rfl, tyX0_ok 0 (by decide), (fun _ => rfl), Or.inl mw_268⟩
theorem mt_269 : (Cond.fieldLink "RecordLeaves$Check" (15 : Nat) "RecordLeaves$Check" "a" "I") ∈ lw_tbl := List.mem_append_right _ (List.mem_append_right _ (List.mem_append_left _ (List.mem_of_getElem? (i := 29) (by decide +kernel))))
theorem mw_269 : (Cond.fieldLink "RecordLeaves$Check" (15 : Nat) "RecordLeaves$Check" "a" "I") ∈ rl_G := rl_inG mt_269 rfl
theorem fl_X0_15 : rl_fl RX0 15 0 1 := ⟨RX0, TX0, 3, rfl, by decide, i_X0, Or.inl mw_269⟩
theorem fp_X0_15 : rl_fp RX0 15 0 1 .int true := ⟨RX0, TX0, 3, tyX0, rfl, by decide, i_X0, tyX0_ok, nmX0, rfl, tyX0_ok 1 (by decide), (fun _ => rfl), Or.inl mw_269⟩
theorem mt_270 : (Cond.fieldLink "RecordLeaves$Check" (18 : Nat) "RecordLeaves$Check" "b" "I") ∈ lw_tbl := List.mem_append_right _ (List.mem_append_right _ (List.mem_append_left _ (List.mem_of_getElem? (i := 30) (by decide +kernel))))
theorem mw_270 : (Cond.fieldLink "RecordLeaves$Check" (18 : Nat) "RecordLeaves$Check" "b" "I") ∈ rl_G := rl_inG mt_270 rfl
theorem fl_X0_18 : rl_fl RX0 18 0 2 := ⟨RX0, TX0, 3, rfl, by decide, i_X0, Or.inl mw_270⟩
theorem fp_X0_18 : rl_fp RX0 18 0 2 .int true := ⟨RX0, TX0, 3, tyX0, rfl, by decide, i_X0, tyX0_ok, nmX0, rfl, tyX0_ok 2 (by decide), (fun _ => rfl), Or.inl mw_270⟩
theorem mt_350 : (Cond.fieldLinkNest "RecordLeaves$Check" (21 : Nat) "RecordLeaves$RecordThing" "numbers" "[J" "RecordLeaves") ∈ lw_tbl := List.mem_append_right _ (List.mem_append_right _ (List.mem_append_left _ (List.mem_of_getElem? (i := 110) (by decide +kernel))))
theorem fl_X0_21 : rl_fl RX0 21 6 1 := ⟨RX6, TX6, 3, rfl, by decide, i_X6, Or.inr ⟨"RecordLeaves", mt_350⟩⟩
theorem mt_355 : (Cond.fieldLinkNest "RecordLeaves$Check" (35 : Nat) "RecordLeaves$RecordThing" "things" "[LRecordLeaves$Thing;" "RecordLeaves") ∈ lw_tbl := List.mem_append_right _ (List.mem_append_right _ (List.mem_append_left _ (List.mem_of_getElem? (i := 115) (by decide +kernel))))
theorem fl_X0_35 : rl_fl RX0 35 6 2 := ⟨RX6, TX6, 3, rfl, by decide, i_X6, Or.inr ⟨"RecordLeaves", mt_355⟩⟩
theorem mt_300 : (Cond.fieldLinkNest "RecordLeaves$Check" (53 : Nat) "RecordLeaves$Row" "items" "[I" "RecordLeaves") ∈ lw_tbl := List.mem_append_right _ (List.mem_append_right _ (List.mem_append_left _ (List.mem_of_getElem? (i := 60) (by decide +kernel))))
theorem fl_X0_53 : rl_fl RX0 53 8 0 := ⟨RX8, TX8, 1, rfl, by decide, i_X8, Or.inr ⟨"RecordLeaves", mt_300⟩⟩
theorem mt_195 : (Cond.fieldLinkNest "RecordLeaves$Check" (67 : Nat) "RecordLeaves$Constant" "order" "I" "RecordLeaves") ∈ lw_tbl := List.mem_append_right _ (List.mem_append_left _ (List.mem_of_getElem? (i := 195) (by decide +kernel)))
theorem fl_X0_67 : rl_fl RX0 67 1 2 := ⟨RX1, TX1, 4, rfl, by decide, i_X1, Or.inr ⟨"RecordLeaves", mt_195⟩⟩
theorem mt_189 : (Cond.fieldLink "RecordLeaves$Constant" (9 : Nat) "RecordLeaves$Constant" "its" "LRecordLeaves$EnumVersion;") ∈ lw_tbl := List.mem_append_right _ (List.mem_append_left _ (List.mem_of_getElem? (i := 189) (by decide +kernel)))
theorem mw_189 : (Cond.fieldLink "RecordLeaves$Constant" (9 : Nat) "RecordLeaves$Constant" "its" "LRecordLeaves$EnumVersion;") ∈ rl_G := rl_inG mt_189 rfl
theorem fl_X1_9 : rl_fl RX1 9 1 0 := ⟨RX1, TX1, 4, rfl, by decide, i_X1, Or.inl mw_189⟩
theorem fp_X1_9 : rl_fp RX1 9 1 0 (.object "RecordLeaves$EnumVersion") true := ⟨RX1, TX1, 4, tyX1, rfl, by decide, i_X1, tyX1_ok, nmX1, rfl, tyX1_ok 0 (by decide), (fun _ => rfl), Or.inl mw_189⟩
theorem mt_190 : (Cond.fieldLink "RecordLeaves$Constant" (15 : Nat) "RecordLeaves$Constant" "name" "I") ∈ lw_tbl := List.mem_append_right _ (List.mem_append_left _ (List.mem_of_getElem? (i := 190) (by decide +kernel)))
theorem mw_190 : (Cond.fieldLink "RecordLeaves$Constant" (15 : Nat) "RecordLeaves$Constant" "name" "I") ∈ rl_G := rl_inG mt_190 rfl
theorem fl_X1_15 : rl_fl RX1 15 1 1 := ⟨RX1, TX1, 4, rfl, by decide, i_X1, Or.inl mw_190⟩
theorem fp_X1_15 : rl_fp RX1 15 1 1 .int true := ⟨RX1, TX1, 4, tyX1, rfl, by decide, i_X1, tyX1_ok, nmX1, rfl, tyX1_ok 1 (by decide), (fun _ => rfl), Or.inl mw_190⟩
theorem mt_193 : (Cond.fieldLink "RecordLeaves$Constant" (19 : Nat) "RecordLeaves$Constant" "order" "I") ∈ lw_tbl := List.mem_append_right _ (List.mem_append_left _ (List.mem_of_getElem? (i := 193) (by decide +kernel)))
theorem mw_193 : (Cond.fieldLink "RecordLeaves$Constant" (19 : Nat) "RecordLeaves$Constant" "order" "I") ∈ rl_G := rl_inG mt_193 rfl
theorem fl_X1_19 : rl_fl RX1 19 1 2 := ⟨RX1, TX1, 4, rfl, by decide, i_X1, Or.inl mw_193⟩
theorem fp_X1_19 : rl_fp RX1 19 1 2 .int true := ⟨RX1, TX1, 4, tyX1, rfl, by decide, i_X1, tyX1_ok, nmX1, rfl, tyX1_ok 2 (by decide), (fun _ => rfl), Or.inl mw_193⟩
theorem mt_196 : (Cond.fieldLink "RecordLeaves$Constant" (22 : Nat) "RecordLeaves$Constant" "loud" "Z") ∈ lw_tbl := List.mem_append_right _ (List.mem_append_left _ (List.mem_of_getElem? (i := 196) (by decide +kernel)))
theorem mw_196 : (Cond.fieldLink "RecordLeaves$Constant" (22 : Nat) "RecordLeaves$Constant" "loud" "Z") ∈ rl_G := rl_inG mt_196 rfl
theorem fl_X1_22 : rl_fl RX1 22 1 3 := ⟨RX1, TX1, 4, rfl, by decide, i_X1, Or.inl mw_196⟩
theorem fp_X1_22 : rl_fp RX1 22 1 3 .boolean true := ⟨RX1, TX1, 4, tyX1, rfl, by decide, i_X1, tyX1_ok, nmX1, rfl, tyX1_ok 3 (by decide), (fun _ => rfl), Or.inl mw_196⟩
theorem mt_40 : (Cond.fieldLinkNest "RecordLeaves$Constant" (26 : Nat) "RecordLeaves$EnumVersion" "kind" "I" "RecordLeaves") ∈ lw_tbl := List.mem_append_right _ (List.mem_append_left _ (List.mem_of_getElem? (i := 40) (by decide +kernel)))
theorem fl_X1_26 : rl_fl RX1 26 2 0 := ⟨RX2, TX2, 4, rfl, by decide, i_X2, Or.inr ⟨"RecordLeaves", mt_40⟩⟩
theorem mt_42 : (Cond.fieldLinkNest "RecordLeaves$Constant" (31 : Nat) "RecordLeaves$EnumVersion" "version" "I" "RecordLeaves") ∈ lw_tbl := List.mem_append_right _ (List.mem_append_left _ (List.mem_of_getElem? (i := 42) (by decide +kernel)))
theorem fl_X1_31 : rl_fl RX1 31 2 1 := ⟨RX2, TX2, 4, rfl, by decide, i_X2, Or.inr ⟨"RecordLeaves", mt_42⟩⟩
theorem mt_39 : (Cond.fieldLink "RecordLeaves$EnumVersion" (9 : Nat) "RecordLeaves$EnumVersion" "kind" "I") ∈ lw_tbl := List.mem_append_right _ (List.mem_append_left _ (List.mem_of_getElem? (i := 39) (by decide +kernel)))
theorem mw_39 : (Cond.fieldLink "RecordLeaves$EnumVersion" (9 : Nat) "RecordLeaves$EnumVersion" "kind" "I") ∈ rl_G := rl_inG mt_39 rfl
theorem fl_X2_9 : rl_fl RX2 9 2 0 := ⟨RX2, TX2, 4, rfl, by decide, i_X2, Or.inl mw_39⟩
theorem fp_X2_9 : rl_fp RX2 9 2 0 .int true := ⟨RX2, TX2, 4, tyX2, rfl, by decide, i_X2, tyX2_ok, nmX2, rfl, tyX2_ok 0 (by decide), (fun _ => rfl), Or.inl mw_39⟩
theorem mt_41 : (Cond.fieldLink "RecordLeaves$EnumVersion" (15 : Nat) "RecordLeaves$EnumVersion" "version" "I") ∈ lw_tbl := List.mem_append_right _ (List.mem_append_left _ (List.mem_of_getElem? (i := 41) (by decide +kernel)))
theorem mw_41 : (Cond.fieldLink "RecordLeaves$EnumVersion" (15 : Nat) "RecordLeaves$EnumVersion" "version" "I") ∈ rl_G := rl_inG mt_41 rfl
theorem fl_X2_15 : rl_fl RX2 15 2 1 := ⟨RX2, TX2, 4, rfl, by decide, i_X2, Or.inl mw_41⟩
theorem fp_X2_15 : rl_fp RX2 15 2 1 .int true := ⟨RX2, TX2, 4, tyX2, rfl, by decide, i_X2, tyX2_ok, nmX2, rfl, tyX2_ok 1 (by decide), (fun _ => rfl), Or.inl mw_41⟩
theorem mt_43 : (Cond.fieldLink "RecordLeaves$EnumVersion" (20 : Nat) "RecordLeaves$EnumVersion" "constants" "[LRecordLeaves$Constant;") ∈ lw_tbl := List.mem_append_right _ (List.mem_append_left _ (List.mem_of_getElem? (i := 43) (by decide +kernel)))
theorem mw_43 : (Cond.fieldLink "RecordLeaves$EnumVersion" (20 : Nat) "RecordLeaves$EnumVersion" "constants" "[LRecordLeaves$Constant;") ∈ rl_G := rl_inG mt_43 rfl
theorem fl_X2_20 : rl_fl RX2 20 2 2 := ⟨RX2, TX2, 4, rfl, by decide, i_X2, Or.inl mw_43⟩
theorem fp_X2_20 : rl_fp RX2 20 2 2 (.array (.object "RecordLeaves$Constant")) true := ⟨RX2, TX2, 4, tyX2, rfl, by decide, i_X2, tyX2_ok, nmX2, rfl, tyX2_ok 2 (by decide), (fun _ => rfl), Or.inl mw_43⟩
theorem mt_44 : (Cond.fieldLink "RecordLeaves$EnumVersion" (24 : Nat) "RecordLeaves$EnumVersion" "constantCount" "I") ∈ lw_tbl := List.mem_append_right _ (List.mem_append_left _ (List.mem_of_getElem? (i := 44) (by decide +kernel)))
theorem mw_44 : (Cond.fieldLink "RecordLeaves$EnumVersion" (24 : Nat) "RecordLeaves$EnumVersion" "constantCount" "I") ∈ rl_G := rl_inG mt_44 rfl
theorem fl_X2_24 : rl_fl RX2 24 2 3 := ⟨RX2, TX2, 4, rfl, by decide, i_X2, Or.inl mw_44⟩
theorem fp_X2_24 : rl_fp RX2 24 2 3 .int false := ⟨RX2, TX2, 4, tyX2, rfl, by decide, i_X2, tyX2_ok, nmX2, rfl, tyX2_ok 3 (by decide), (fun h => by cases h), Or.inl mw_44⟩
theorem mt_191 : (Cond.fieldLinkNest "RecordLeaves$EnumVersion" (27 : Nat) "RecordLeaves$Constant" "name" "I" "RecordLeaves") ∈ lw_tbl := List.mem_append_right _ (List.mem_append_left _ (List.mem_of_getElem? (i := 191) (by decide +kernel)))
theorem fl_X2_27 : rl_fl RX2 27 1 1 := ⟨RX1, TX1, 4, rfl, by decide, i_X1, Or.inr ⟨"RecordLeaves", mt_191⟩⟩
theorem mt_90 : (Cond.fieldLink "RecordLeaves$Kinds" (11 : Nat) "RecordLeaves$Kinds" "enums" "[LRecordLeaves$EnumVersion;") ∈ lw_tbl := List.mem_append_right _ (List.mem_append_left _ (List.mem_of_getElem? (i := 90) (by decide +kernel)))
theorem mw_90 : (Cond.fieldLink "RecordLeaves$Kinds" (11 : Nat) "RecordLeaves$Kinds" "enums" "[LRecordLeaves$EnumVersion;") ∈ rl_G := rl_inG mt_90 rfl
theorem fl_X3_11 : rl_fl RX3 11 3 0 := ⟨RX3, TX3, 2, rfl, by decide, i_X3, Or.inl mw_90⟩
theorem fp_X3_11 : rl_fp RX3 11 3 0 (.array (.object "RecordLeaves$EnumVersion")) true := ⟨RX3, TX3, 2, tyX3, rfl, by decide, i_X3, tyX3_ok, nmX3, rfl, tyX3_ok 0 (by decide), (fun _ => rfl), Or.inl mw_90⟩
theorem mt_91 : (Cond.fieldLink "RecordLeaves$Kinds" (22 : Nat) "RecordLeaves$Kinds" "records" "[LRecordLeaves$RecordVersion;") ∈ lw_tbl := List.mem_append_right _ (List.mem_append_left _ (List.mem_of_getElem? (i := 91) (by decide +kernel)))
theorem mw_91 : (Cond.fieldLink "RecordLeaves$Kinds" (22 : Nat) "RecordLeaves$Kinds" "records" "[LRecordLeaves$RecordVersion;") ∈ rl_G := rl_inG mt_91 rfl
theorem fl_X3_22 : rl_fl RX3 22 3 1 := ⟨RX3, TX3, 2, rfl, by decide, i_X3, Or.inl mw_91⟩
theorem fp_X3_22 : rl_fp RX3 22 3 1 (.array (.object "RecordLeaves$RecordVersion")) true := ⟨RX3, TX3, 2, tyX3, rfl, by decide, i_X3, tyX3_ok, nmX3, rfl, tyX3_ok 1 (by decide), (fun _ => rfl), Or.inl mw_91⟩
theorem mt_229 : (Cond.fieldLink "RecordLeaves$Part" (9 : Nat) "RecordLeaves$Part" "name" "I") ∈ lw_tbl := List.mem_append_right _ (List.mem_append_left _ (List.mem_of_getElem? (i := 229) (by decide +kernel)))
theorem mw_229 : (Cond.fieldLink "RecordLeaves$Part" (9 : Nat) "RecordLeaves$Part" "name" "I") ∈ rl_G := rl_inG mt_229 rfl
theorem fl_X4_9 : rl_fl RX4 9 4 0 := ⟨RX4, TX4, 3, rfl, by decide, i_X4, Or.inl mw_229⟩
theorem fp_X4_9 : rl_fp RX4 9 4 0 .int true := ⟨RX4, TX4, 3, tyX4, rfl, by decide, i_X4, tyX4_ok, nmX4, rfl, tyX4_ok 0 (by decide), (fun _ => rfl), Or.inl mw_229⟩
theorem mt_232 : (Cond.fieldLink "RecordLeaves$Part" (15 : Nat) "RecordLeaves$Part" "sort" "I") ∈ lw_tbl := List.mem_append_right _ (List.mem_append_left _ (List.mem_of_getElem? (i := 232) (by decide +kernel)))
theorem mw_232 : (Cond.fieldLink "RecordLeaves$Part" (15 : Nat) "RecordLeaves$Part" "sort" "I") ∈ rl_G := rl_inG mt_232 rfl
theorem fl_X4_15 : rl_fl RX4 15 4 1 := ⟨RX4, TX4, 3, rfl, by decide, i_X4, Or.inl mw_232⟩
theorem fp_X4_15 : rl_fp RX4 15 4 1 .int true := ⟨RX4, TX4, 3, tyX4, rfl, by decide, i_X4, tyX4_ok, nmX4, rfl, tyX4_ok 1 (by decide), (fun _ => rfl), Or.inl mw_232⟩
theorem mt_237 : (Cond.fieldLink "RecordLeaves$Part" (18 : Nat) "RecordLeaves$Part" "of" "I") ∈ lw_tbl := List.mem_append_right _ (List.mem_append_left _ (List.mem_of_getElem? (i := 237) (by decide +kernel)))
theorem mw_237 : (Cond.fieldLink "RecordLeaves$Part" (18 : Nat) "RecordLeaves$Part" "of" "I") ∈ rl_G := rl_inG mt_237 rfl
theorem fl_X4_18 : rl_fl RX4 18 4 2 := ⟨RX4, TX4, 3, rfl, by decide, i_X4, Or.inl mw_237⟩
theorem fp_X4_18 : rl_fp RX4 18 4 2 .int true := ⟨RX4, TX4, 3, tyX4, rfl, by decide, i_X4, tyX4_ok, nmX4, rfl, tyX4_ok 2 (by decide), (fun _ => rfl), Or.inl mw_237⟩
theorem mt_545 : (Cond.fieldLink "RecordLeaves$Reader" (9 : Nat) "RecordLeaves$Reader" "kinds" "LRecordLeaves$Kinds;") ∈ lw_tbl := List.mem_append_right _ (List.mem_append_right _ (List.mem_append_right _ (List.mem_append_left _ (List.mem_of_getElem? (i := 65) (by decide +kernel)))))
theorem mw_545 : (Cond.fieldLink "RecordLeaves$Reader" (9 : Nat) "RecordLeaves$Reader" "kinds" "LRecordLeaves$Kinds;") ∈ rl_G := rl_inG mt_545 rfl
theorem fl_X5_9 : rl_fl RX5 9 5 0 := ⟨RX5, TX5, 8, rfl, by decide, i_X5, Or.inl mw_545⟩
theorem fp_X5_9 : rl_fp RX5 9 5 0 (.object "RecordLeaves$Kinds") true := ⟨RX5, TX5, 8, tyX5, rfl, by decide, i_X5, tyX5_ok, nmX5, rfl, tyX5_ok 0 (by decide), (fun _ => rfl), Or.inl mw_545⟩
theorem mt_546 : (Cond.fieldLink "RecordLeaves$Reader" (15 : Nat) "RecordLeaves$Reader" "tape" "LRecordLeaves$Tape;") ∈ lw_tbl := List.mem_append_right _ (List.mem_append_right _ (List.mem_append_right _ (List.mem_append_left _ (List.mem_of_getElem? (i := 66) (by decide +kernel)))))
theorem mw_546 : (Cond.fieldLink "RecordLeaves$Reader" (15 : Nat) "RecordLeaves$Reader" "tape" "LRecordLeaves$Tape;") ∈ rl_G := rl_inG mt_546 rfl
theorem fl_X5_15 : rl_fl RX5 15 5 1 := ⟨RX5, TX5, 8, rfl, by decide, i_X5, Or.inl mw_546⟩
theorem fp_X5_15 : rl_fp RX5 15 5 1 (.object "RecordLeaves$Tape") true := ⟨RX5, TX5, 8, tyX5, rfl, by decide, i_X5, tyX5_ok, nmX5, rfl, tyX5_ok 1 (by decide), (fun _ => rfl), Or.inl mw_546⟩
theorem mt_547 : (Cond.fieldLink "RecordLeaves$Reader" (19 : Nat) "RecordLeaves$Reader" "version" "I") ∈ lw_tbl := List.mem_append_right _ (List.mem_append_right _ (List.mem_append_right _ (List.mem_append_left _ (List.mem_of_getElem? (i := 67) (by decide +kernel)))))
theorem mw_547 : (Cond.fieldLink "RecordLeaves$Reader" (19 : Nat) "RecordLeaves$Reader" "version" "I") ∈ rl_G := rl_inG mt_547 rfl
theorem fl_X5_19 : rl_fl RX5 19 5 2 := ⟨RX5, TX5, 8, rfl, by decide, i_X5, Or.inl mw_547⟩
theorem fp_X5_19 : rl_fp RX5 19 5 2 .int true := ⟨RX5, TX5, 8, tyX5, rfl, by decide, i_X5, tyX5_ok, nmX5, rfl, tyX5_ok 2 (by decide), (fun _ => rfl), Or.inl mw_547⟩
theorem mt_553 : (Cond.fieldLink "RecordLeaves$Reader" (23 : Nat) "RecordLeaves$Reader" "why" "I") ∈ lw_tbl := List.mem_append_right _ (List.mem_append_right _ (List.mem_append_right _ (List.mem_append_left _ (List.mem_of_getElem? (i := 73) (by decide +kernel)))))
theorem mw_553 : (Cond.fieldLink "RecordLeaves$Reader" (23 : Nat) "RecordLeaves$Reader" "why" "I") ∈ rl_G := rl_inG mt_553 rfl
theorem fl_X5_23 : rl_fl RX5 23 5 6 := ⟨RX5, TX5, 8, rfl, by decide, i_X5, Or.inl mw_553⟩
theorem fp_X5_23 : rl_fp RX5 23 5 6 .int false := ⟨RX5, TX5, 8, tyX5, rfl, by decide, i_X5, tyX5_ok, nmX5, rfl, tyX5_ok 6 (by decide), (fun h => by cases h), Or.inl mw_553⟩
theorem mt_548 : (Cond.fieldLink "RecordLeaves$Reader" (26 : Nat) "RecordLeaves$Reader" "next" "I") ∈ lw_tbl := List.mem_append_right _ (List.mem_append_right _ (List.mem_append_right _ (List.mem_append_left _ (List.mem_of_getElem? (i := 68) (by decide +kernel)))))
theorem mw_548 : (Cond.fieldLink "RecordLeaves$Reader" (26 : Nat) "RecordLeaves$Reader" "next" "I") ∈ rl_G := rl_inG mt_548 rfl
theorem fl_X5_26 : rl_fl RX5 26 5 3 := ⟨RX5, TX5, 8, rfl, by decide, i_X5, Or.inl mw_548⟩
theorem fp_X5_26 : rl_fp RX5 26 5 3 .int false := ⟨RX5, TX5, 8, tyX5, rfl, by decide, i_X5, tyX5_ok, nmX5, rfl, tyX5_ok 3 (by decide), (fun h => by cases h), Or.inl mw_548⟩
theorem mt_549 : (Cond.fieldLink "RecordLeaves$Reader" (29 : Nat) "RecordLeaves$Reader" "last" "I") ∈ lw_tbl := List.mem_append_right _ (List.mem_append_right _ (List.mem_append_right _ (List.mem_append_left _ (List.mem_of_getElem? (i := 69) (by decide +kernel)))))
theorem mw_549 : (Cond.fieldLink "RecordLeaves$Reader" (29 : Nat) "RecordLeaves$Reader" "last" "I") ∈ rl_G := rl_inG mt_549 rfl
theorem fl_X5_29 : rl_fl RX5 29 5 4 := ⟨RX5, TX5, 8, rfl, by decide, i_X5, Or.inl mw_549⟩
theorem fp_X5_29 : rl_fp RX5 29 5 4 .int false := ⟨RX5, TX5, 8, tyX5, rfl, by decide, i_X5, tyX5_ok, nmX5, rfl, tyX5_ok 4 (by decide), (fun h => by cases h), Or.inl mw_549⟩
theorem mt_110 : (Cond.fieldLinkNest "RecordLeaves$Reader" (32 : Nat) "RecordLeaves$Tape" "size" "I" "RecordLeaves") ∈ lw_tbl := List.mem_append_right _ (List.mem_append_left _ (List.mem_of_getElem? (i := 110) (by decide +kernel)))
theorem fl_X5_32 : rl_fl RX5 32 9 2 := ⟨RX9, TX9, 4, rfl, by decide, i_X9, Or.inr ⟨"RecordLeaves", mt_110⟩⟩
theorem fp_X5_32 : rl_fp RX5 32 9 2 .int false := ⟨RX9, TX9, 4, tyX9, rfl, by decide, i_X9, tyX9_ok, nmX9, rfl, tyX9_ok 2 (by decide), (fun h => by cases h), Or.inr ⟨rfl, "RecordLeaves", mt_110⟩⟩
theorem mt_106 : (Cond.fieldLinkNest "RecordLeaves$Reader" (37 : Nat) "RecordLeaves$Tape" "leaves" "[J" "RecordLeaves") ∈ lw_tbl := List.mem_append_right _ (List.mem_append_left _ (List.mem_of_getElem? (i := 106) (by decide +kernel)))
theorem fl_X5_37 : rl_fl RX5 37 9 0 := ⟨RX9, TX9, 4, rfl, by decide, i_X9, Or.inr ⟨"RecordLeaves", mt_106⟩⟩
theorem mt_551 : (Cond.fieldLink "RecordLeaves$Reader" (41 : Nat) "RecordLeaves$Reader" "open" "I") ∈ lw_tbl := List.mem_append_right _ (List.mem_append_right _ (List.mem_append_right _ (List.mem_append_left _ (List.mem_of_getElem? (i := 71) (by decide +kernel)))))
theorem mw_551 : (Cond.fieldLink "RecordLeaves$Reader" (41 : Nat) "RecordLeaves$Reader" "open" "I") ∈ rl_G := rl_inG mt_551 rfl
theorem fl_X5_41 : rl_fl RX5 41 5 5 := ⟨RX5, TX5, 8, rfl, by decide, i_X5, Or.inl mw_551⟩
theorem fp_X5_41 : rl_fp RX5 41 5 5 .int false := ⟨RX5, TX5, 8, tyX5, rfl, by decide, i_X5, tyX5_ok, nmX5, rfl, tyX5_ok 5 (by decide), (fun h => by cases h), Or.inl mw_551⟩
theorem mt_347 : (Cond.fieldLinkNest "RecordLeaves$Reader" (79 : Nat) "RecordLeaves$RecordThing" "its" "LRecordLeaves$RecordVersion;" "RecordLeaves") ∈ lw_tbl := List.mem_append_right _ (List.mem_append_right _ (List.mem_append_left _ (List.mem_of_getElem? (i := 107) (by decide +kernel))))
theorem fl_X5_79 : rl_fl RX5 79 6 0 := ⟨RX6, TX6, 3, rfl, by decide, i_X6, Or.inr ⟨"RecordLeaves", mt_347⟩⟩
theorem mt_555 : (Cond.fieldLink "RecordLeaves$Reader" (89 : Nat) "RecordLeaves$Reader" "made" "I") ∈ lw_tbl := List.mem_append_right _ (List.mem_append_right _ (List.mem_append_right _ (List.mem_append_left _ (List.mem_of_getElem? (i := 75) (by decide +kernel)))))
theorem mw_555 : (Cond.fieldLink "RecordLeaves$Reader" (89 : Nat) "RecordLeaves$Reader" "made" "I") ∈ rl_G := rl_inG mt_555 rfl
theorem fl_X5_89 : rl_fl RX5 89 5 7 := ⟨RX5, TX5, 8, rfl, by decide, i_X5, Or.inl mw_555⟩
theorem fp_X5_89 : rl_fp RX5 89 5 7 .int false := ⟨RX5, TX5, 8, tyX5, rfl, by decide, i_X5, tyX5_ok, nmX5, rfl, tyX5_ok 7 (by decide), (fun h => by cases h), Or.inl mw_555⟩
theorem mt_72 : (Cond.fieldLinkNest "RecordLeaves$Reader" (98 : Nat) "RecordLeaves$RecordVersion" "parts" "[LRecordLeaves$Part;" "RecordLeaves") ∈ lw_tbl := List.mem_append_right _ (List.mem_append_left _ (List.mem_of_getElem? (i := 72) (by decide +kernel)))
theorem fl_X5_98 : rl_fl RX5 98 7 2 := ⟨RX7, TX7, 6, rfl, by decide, i_X7, Or.inr ⟨"RecordLeaves", mt_72⟩⟩
theorem mt_236 : (Cond.fieldLinkNest "RecordLeaves$Reader" (102 : Nat) "RecordLeaves$Part" "sort" "I" "RecordLeaves") ∈ lw_tbl := List.mem_append_right _ (List.mem_append_left _ (List.mem_of_getElem? (i := 236) (by decide +kernel)))
theorem fl_X5_102 : rl_fl RX5 102 4 1 := ⟨RX4, TX4, 3, rfl, by decide, i_X4, Or.inr ⟨"RecordLeaves", mt_236⟩⟩
theorem mt_238 : (Cond.fieldLinkNest "RecordLeaves$Reader" (129 : Nat) "RecordLeaves$Part" "of" "I" "RecordLeaves") ∈ lw_tbl := List.mem_append_right _ (List.mem_append_left _ (List.mem_of_getElem? (i := 238) (by decide +kernel)))
theorem fl_X5_129 : rl_fl RX5 129 4 2 := ⟨RX4, TX4, 3, rfl, by decide, i_X4, Or.inr ⟨"RecordLeaves", mt_238⟩⟩
theorem mt_303 : (Cond.fieldLinkNest "RecordLeaves$Reader" (148 : Nat) "RecordLeaves$Row" "items" "[I" "RecordLeaves") ∈ lw_tbl := List.mem_append_right _ (List.mem_append_right _ (List.mem_append_left _ (List.mem_of_getElem? (i := 63) (by decide +kernel))))
theorem fl_X5_148 : rl_fl RX5 148 8 0 := ⟨RX8, TX8, 1, rfl, by decide, i_X8, Or.inr ⟨"RecordLeaves", mt_303⟩⟩
theorem mt_345 : (Cond.fieldLink "RecordLeaves$RecordThing" (9 : Nat) "RecordLeaves$RecordThing" "its" "LRecordLeaves$RecordVersion;") ∈ lw_tbl := List.mem_append_right _ (List.mem_append_right _ (List.mem_append_left _ (List.mem_of_getElem? (i := 105) (by decide +kernel))))
theorem mw_345 : (Cond.fieldLink "RecordLeaves$RecordThing" (9 : Nat) "RecordLeaves$RecordThing" "its" "LRecordLeaves$RecordVersion;") ∈ rl_G := rl_inG mt_345 rfl
theorem fl_X6_9 : rl_fl RX6 9 6 0 := ⟨RX6, TX6, 3, rfl, by decide, i_X6, Or.inl mw_345⟩
theorem fp_X6_9 : rl_fp RX6 9 6 0 (.object "RecordLeaves$RecordVersion") true := ⟨RX6, TX6, 3, tyX6, rfl, by decide, i_X6, tyX6_ok, nmX6, rfl, tyX6_ok 0 (by decide), (fun _ => rfl), Or.inl mw_345⟩
theorem mt_74 : (Cond.fieldLinkNest "RecordLeaves$RecordThing" (15 : Nat) "RecordLeaves$RecordVersion" "partCount" "I" "RecordLeaves") ∈ lw_tbl := List.mem_append_right _ (List.mem_append_left _ (List.mem_of_getElem? (i := 74) (by decide +kernel)))
theorem fl_X6_15 : rl_fl RX6 15 7 4 := ⟨RX7, TX7, 6, rfl, by decide, i_X7, Or.inr ⟨"RecordLeaves", mt_74⟩⟩
theorem fp_X6_15 : rl_fp RX6 15 7 4 .int false := ⟨RX7, TX7, 6, tyX7, rfl, by decide, i_X7, tyX7_ok, nmX7, rfl, tyX7_ok 4 (by decide), (fun h => by cases h), Or.inr ⟨rfl, "RecordLeaves", mt_74⟩⟩
theorem mt_349 : (Cond.fieldLink "RecordLeaves$RecordThing" (21 : Nat) "RecordLeaves$RecordThing" "numbers" "[J") ∈ lw_tbl := List.mem_append_right _ (List.mem_append_right _ (List.mem_append_left _ (List.mem_of_getElem? (i := 109) (by decide +kernel))))
theorem mw_349 : (Cond.fieldLink "RecordLeaves$RecordThing" (21 : Nat) "RecordLeaves$RecordThing" "numbers" "[J") ∈ rl_G := rl_inG mt_349 rfl
theorem fl_X6_21 : rl_fl RX6 21 6 1 := ⟨RX6, TX6, 3, rfl, by decide, i_X6, Or.inl mw_349⟩
theorem fp_X6_21 : rl_fp RX6 21 6 1 (.array .long) true := ⟨RX6, TX6, 3, tyX6, rfl, by decide, i_X6, tyX6_ok, nmX6, rfl, tyX6_ok 1 (by decide), (fun _ => rfl), Or.inl mw_349⟩
theorem mt_354 : (Cond.fieldLink "RecordLeaves$RecordThing" (25 : Nat) "RecordLeaves$RecordThing" "things" "[LRecordLeaves$Thing;") ∈ lw_tbl := List.mem_append_right _ (List.mem_append_right _ (List.mem_append_left _ (List.mem_of_getElem? (i := 114) (by decide +kernel))))
theorem mw_354 : (Cond.fieldLink "RecordLeaves$RecordThing" (25 : Nat) "RecordLeaves$RecordThing" "things" "[LRecordLeaves$Thing;") ∈ rl_G := rl_inG mt_354 rfl
theorem fl_X6_25 : rl_fl RX6 25 6 2 := ⟨RX6, TX6, 3, rfl, by decide, i_X6, Or.inl mw_354⟩
theorem fp_X6_25 : rl_fp RX6 25 6 2 (.array (.object "RecordLeaves$Thing")) true := ⟨RX6, TX6, 3, tyX6, rfl, by decide, i_X6, tyX6_ok, nmX6, rfl, tyX6_ok 2 (by decide), (fun _ => rfl), Or.inl mw_354⟩
theorem mt_66 : (Cond.fieldLinkNest "RecordLeaves$RecordThing" (29 : Nat) "RecordLeaves$RecordVersion" "kind" "I" "RecordLeaves") ∈ lw_tbl := List.mem_append_right _ (List.mem_append_left _ (List.mem_of_getElem? (i := 66) (by decide +kernel)))
theorem fl_X6_29 : rl_fl RX6 29 7 0 := ⟨RX7, TX7, 6, rfl, by decide, i_X7, Or.inr ⟨"RecordLeaves", mt_66⟩⟩
theorem mt_68 : (Cond.fieldLinkNest "RecordLeaves$RecordThing" (32 : Nat) "RecordLeaves$RecordVersion" "version" "I" "RecordLeaves") ∈ lw_tbl := List.mem_append_right _ (List.mem_append_left _ (List.mem_of_getElem? (i := 68) (by decide +kernel)))
theorem fl_X6_32 : rl_fl RX6 32 7 1 := ⟨RX7, TX7, 6, rfl, by decide, i_X7, Or.inr ⟨"RecordLeaves", mt_68⟩⟩
theorem mt_71 : (Cond.fieldLinkNest "RecordLeaves$RecordThing" (35 : Nat) "RecordLeaves$RecordVersion" "parts" "[LRecordLeaves$Part;" "RecordLeaves") ∈ lw_tbl := List.mem_append_right _ (List.mem_append_left _ (List.mem_of_getElem? (i := 71) (by decide +kernel)))
theorem fl_X6_35 : rl_fl RX6 35 7 2 := ⟨RX7, TX7, 6, rfl, by decide, i_X7, Or.inr ⟨"RecordLeaves", mt_71⟩⟩
theorem mt_235 : (Cond.fieldLinkNest "RecordLeaves$RecordThing" (39 : Nat) "RecordLeaves$Part" "sort" "I" "RecordLeaves") ∈ lw_tbl := List.mem_append_right _ (List.mem_append_left _ (List.mem_of_getElem? (i := 235) (by decide +kernel)))
theorem fl_X6_39 : rl_fl RX6 39 4 1 := ⟨RX4, TX4, 3, rfl, by decide, i_X4, Or.inr ⟨"RecordLeaves", mt_235⟩⟩
theorem mt_65 : (Cond.fieldLink "RecordLeaves$RecordVersion" (9 : Nat) "RecordLeaves$RecordVersion" "kind" "I") ∈ lw_tbl := List.mem_append_right _ (List.mem_append_left _ (List.mem_of_getElem? (i := 65) (by decide +kernel)))
theorem mw_65 : (Cond.fieldLink "RecordLeaves$RecordVersion" (9 : Nat) "RecordLeaves$RecordVersion" "kind" "I") ∈ rl_G := rl_inG mt_65 rfl
theorem fl_X7_9 : rl_fl RX7 9 7 0 := ⟨RX7, TX7, 6, rfl, by decide, i_X7, Or.inl mw_65⟩
theorem fp_X7_9 : rl_fp RX7 9 7 0 .int true := ⟨RX7, TX7, 6, tyX7, rfl, by decide, i_X7, tyX7_ok, nmX7, rfl, tyX7_ok 0 (by decide), (fun _ => rfl), Or.inl mw_65⟩
theorem mt_67 : (Cond.fieldLink "RecordLeaves$RecordVersion" (15 : Nat) "RecordLeaves$RecordVersion" "version" "I") ∈ lw_tbl := List.mem_append_right _ (List.mem_append_left _ (List.mem_of_getElem? (i := 67) (by decide +kernel)))
theorem mw_67 : (Cond.fieldLink "RecordLeaves$RecordVersion" (15 : Nat) "RecordLeaves$RecordVersion" "version" "I") ∈ rl_G := rl_inG mt_67 rfl
theorem fl_X7_15 : rl_fl RX7 15 7 1 := ⟨RX7, TX7, 6, rfl, by decide, i_X7, Or.inl mw_67⟩
theorem fp_X7_15 : rl_fp RX7 15 7 1 .int true := ⟨RX7, TX7, 6, tyX7, rfl, by decide, i_X7, tyX7_ok, nmX7, rfl, tyX7_ok 1 (by decide), (fun _ => rfl), Or.inl mw_67⟩
theorem mt_69 : (Cond.fieldLink "RecordLeaves$RecordVersion" (20 : Nat) "RecordLeaves$RecordVersion" "parts" "[LRecordLeaves$Part;") ∈ lw_tbl := List.mem_append_right _ (List.mem_append_left _ (List.mem_of_getElem? (i := 69) (by decide +kernel)))
theorem mw_69 : (Cond.fieldLink "RecordLeaves$RecordVersion" (20 : Nat) "RecordLeaves$RecordVersion" "parts" "[LRecordLeaves$Part;") ∈ rl_G := rl_inG mt_69 rfl
theorem fl_X7_20 : rl_fl RX7 20 7 2 := ⟨RX7, TX7, 6, rfl, by decide, i_X7, Or.inl mw_69⟩
theorem fp_X7_20 : rl_fp RX7 20 7 2 (.array (.object "RecordLeaves$Part")) true := ⟨RX7, TX7, 6, tyX7, rfl, by decide, i_X7, tyX7_ok, nmX7, rfl, tyX7_ok 2 (by decide), (fun _ => rfl), Or.inl mw_69⟩
theorem mt_73 : (Cond.fieldLink "RecordLeaves$RecordVersion" (26 : Nat) "RecordLeaves$RecordVersion" "checks" "[LRecordLeaves$Check;") ∈ lw_tbl := List.mem_append_right _ (List.mem_append_left _ (List.mem_of_getElem? (i := 73) (by decide +kernel)))
theorem mw_73 : (Cond.fieldLink "RecordLeaves$RecordVersion" (26 : Nat) "RecordLeaves$RecordVersion" "checks" "[LRecordLeaves$Check;") ∈ rl_G := rl_inG mt_73 rfl
theorem fl_X7_26 : rl_fl RX7 26 7 3 := ⟨RX7, TX7, 6, rfl, by decide, i_X7, Or.inl mw_73⟩
theorem fp_X7_26 : rl_fp RX7 26 7 3 (.array (.object "RecordLeaves$Check")) true := ⟨RX7, TX7, 6, tyX7, rfl, by decide, i_X7, tyX7_ok, nmX7, rfl, tyX7_ok 3 (by decide), (fun _ => rfl), Or.inl mw_73⟩
theorem mt_75 : (Cond.fieldLink "RecordLeaves$RecordVersion" (30 : Nat) "RecordLeaves$RecordVersion" "partCount" "I") ∈ lw_tbl := List.mem_append_right _ (List.mem_append_left _ (List.mem_of_getElem? (i := 75) (by decide +kernel)))
theorem mw_75 : (Cond.fieldLink "RecordLeaves$RecordVersion" (30 : Nat) "RecordLeaves$RecordVersion" "partCount" "I") ∈ rl_G := rl_inG mt_75 rfl
theorem fl_X7_30 : rl_fl RX7 30 7 4 := ⟨RX7, TX7, 6, rfl, by decide, i_X7, Or.inl mw_75⟩
theorem fp_X7_30 : rl_fp RX7 30 7 4 .int false := ⟨RX7, TX7, 6, tyX7, rfl, by decide, i_X7, tyX7_ok, nmX7, rfl, tyX7_ok 4 (by decide), (fun h => by cases h), Or.inl mw_75⟩
theorem mt_230 : (Cond.fieldLinkNest "RecordLeaves$RecordVersion" (33 : Nat) "RecordLeaves$Part" "name" "I" "RecordLeaves") ∈ lw_tbl := List.mem_append_right _ (List.mem_append_left _ (List.mem_of_getElem? (i := 230) (by decide +kernel)))
theorem fl_X7_33 : rl_fl RX7 33 4 0 := ⟨RX4, TX4, 3, rfl, by decide, i_X4, Or.inr ⟨"RecordLeaves", mt_230⟩⟩
theorem mt_233 : (Cond.fieldLinkNest "RecordLeaves$RecordVersion" (40 : Nat) "RecordLeaves$Part" "sort" "I" "RecordLeaves") ∈ lw_tbl := List.mem_append_right _ (List.mem_append_left _ (List.mem_of_getElem? (i := 233) (by decide +kernel)))
theorem fl_X7_40 : rl_fl RX7 40 4 1 := ⟨RX4, TX4, 3, rfl, by decide, i_X4, Or.inr ⟨"RecordLeaves", mt_233⟩⟩
theorem mt_76 : (Cond.fieldLink "RecordLeaves$RecordVersion" (43 : Nat) "RecordLeaves$RecordVersion" "checkCount" "I") ∈ lw_tbl := List.mem_append_right _ (List.mem_append_left _ (List.mem_of_getElem? (i := 76) (by decide +kernel)))
theorem mw_76 : (Cond.fieldLink "RecordLeaves$RecordVersion" (43 : Nat) "RecordLeaves$RecordVersion" "checkCount" "I") ∈ rl_G := rl_inG mt_76 rfl
theorem fl_X7_43 : rl_fl RX7 43 7 5 := ⟨RX7, TX7, 6, rfl, by decide, i_X7, Or.inl mw_76⟩
theorem fp_X7_43 : rl_fp RX7 43 7 5 .int false := ⟨RX7, TX7, 6, tyX7, rfl, by decide, i_X7, tyX7_ok, nmX7, rfl, tyX7_ok 5 (by decide), (fun h => by cases h), Or.inl mw_76⟩
theorem mt_352 : (Cond.fieldLinkNest "RecordLeaves$RecordVersion" (52 : Nat) "RecordLeaves$RecordThing" "numbers" "[J" "RecordLeaves") ∈ lw_tbl := List.mem_append_right _ (List.mem_append_right _ (List.mem_append_left _ (List.mem_of_getElem? (i := 112) (by decide +kernel))))
theorem fl_X7_52 : rl_fl RX7 52 6 1 := ⟨RX6, TX6, 3, rfl, by decide, i_X6, Or.inr ⟨"RecordLeaves", mt_352⟩⟩
theorem mt_357 : (Cond.fieldLinkNest "RecordLeaves$RecordVersion" (56 : Nat) "RecordLeaves$RecordThing" "things" "[LRecordLeaves$Thing;" "RecordLeaves") ∈ lw_tbl := List.mem_append_right _ (List.mem_append_right _ (List.mem_append_left _ (List.mem_of_getElem? (i := 117) (by decide +kernel))))
theorem fl_X7_56 : rl_fl RX7 56 6 2 := ⟨RX6, TX6, 3, rfl, by decide, i_X6, Or.inr ⟨"RecordLeaves", mt_357⟩⟩
theorem mt_299 : (Cond.fieldLink "RecordLeaves$Row" (15 : Nat) "RecordLeaves$Row" "items" "[I") ∈ lw_tbl := List.mem_append_right _ (List.mem_append_right _ (List.mem_append_left _ (List.mem_of_getElem? (i := 59) (by decide +kernel))))
theorem mw_299 : (Cond.fieldLink "RecordLeaves$Row" (15 : Nat) "RecordLeaves$Row" "items" "[I") ∈ rl_G := rl_inG mt_299 rfl
theorem fl_X8_15 : rl_fl RX8 15 8 0 := ⟨RX8, TX8, 1, rfl, by decide, i_X8, Or.inl mw_299⟩
theorem fp_X8_15 : rl_fp RX8 15 8 0 (.array .int) true := ⟨RX8, TX8, 1, tyX8, rfl, by decide, i_X8, tyX8_ok, nmX8, rfl, tyX8_ok 0 (by decide), (fun _ => rfl), Or.inl mw_299⟩
theorem mt_105 : (Cond.fieldLink "RecordLeaves$Tape" (9 : Nat) "RecordLeaves$Tape" "leaves" "[J") ∈ lw_tbl := List.mem_append_right _ (List.mem_append_left _ (List.mem_of_getElem? (i := 105) (by decide +kernel)))
theorem mw_105 : (Cond.fieldLink "RecordLeaves$Tape" (9 : Nat) "RecordLeaves$Tape" "leaves" "[J") ∈ rl_G := rl_inG mt_105 rfl
theorem fl_X9_9 : rl_fl RX9 9 9 0 := ⟨RX9, TX9, 4, rfl, by decide, i_X9, Or.inl mw_105⟩
theorem fp_X9_9 : rl_fp RX9 9 9 0 (.array .long) true := ⟨RX9, TX9, 4, tyX9, rfl, by decide, i_X9, tyX9_ok, nmX9, rfl, tyX9_ok 0 (by decide), (fun _ => rfl), Or.inl mw_105⟩
theorem mt_108 : (Cond.fieldLink "RecordLeaves$Tape" (15 : Nat) "RecordLeaves$Tape" "fresh" "[J") ∈ lw_tbl := List.mem_append_right _ (List.mem_append_left _ (List.mem_of_getElem? (i := 108) (by decide +kernel)))
theorem mw_108 : (Cond.fieldLink "RecordLeaves$Tape" (15 : Nat) "RecordLeaves$Tape" "fresh" "[J") ∈ rl_G := rl_inG mt_108 rfl
theorem fl_X9_15 : rl_fl RX9 15 9 1 := ⟨RX9, TX9, 4, rfl, by decide, i_X9, Or.inl mw_108⟩
theorem fp_X9_15 : rl_fp RX9 15 9 1 (.array .long) true := ⟨RX9, TX9, 4, tyX9, rfl, by decide, i_X9, tyX9_ok, nmX9, rfl, tyX9_ok 1 (by decide), (fun _ => rfl), Or.inl mw_108⟩
theorem mt_112 : (Cond.fieldLink "RecordLeaves$Tape" (18 : Nat) "RecordLeaves$Tape" "freshSize" "I") ∈ lw_tbl := List.mem_append_right _ (List.mem_append_left _ (List.mem_of_getElem? (i := 112) (by decide +kernel)))
theorem mw_112 : (Cond.fieldLink "RecordLeaves$Tape" (18 : Nat) "RecordLeaves$Tape" "freshSize" "I") ∈ rl_G := rl_inG mt_112 rfl
theorem fl_X9_18 : rl_fl RX9 18 9 3 := ⟨RX9, TX9, 4, rfl, by decide, i_X9, Or.inl mw_112⟩
theorem fp_X9_18 : rl_fp RX9 18 9 3 .int false := ⟨RX9, TX9, 4, tyX9, rfl, by decide, i_X9, tyX9_ok, nmX9, rfl, tyX9_ok 3 (by decide), (fun h => by cases h), Or.inl mw_112⟩
theorem mt_109 : (Cond.fieldLink "RecordLeaves$Tape" (32 : Nat) "RecordLeaves$Tape" "size" "I") ∈ lw_tbl := List.mem_append_right _ (List.mem_append_left _ (List.mem_of_getElem? (i := 109) (by decide +kernel)))
theorem mw_109 : (Cond.fieldLink "RecordLeaves$Tape" (32 : Nat) "RecordLeaves$Tape" "size" "I") ∈ rl_G := rl_inG mt_109 rfl
theorem fl_X9_32 : rl_fl RX9 32 9 2 := ⟨RX9, TX9, 4, rfl, by decide, i_X9, Or.inl mw_109⟩
theorem fp_X9_32 : rl_fp RX9 32 9 2 .int false := ⟨RX9, TX9, 4, tyX9, rfl, by decide, i_X9, tyX9_ok, nmX9, rfl, tyX9_ok 2 (by decide), (fun h => by cases h), Or.inl mw_109⟩
theorem mt_346 : (Cond.fieldLinkNest "RecordLeaves$Tape" (54 : Nat) "RecordLeaves$RecordThing" "its" "LRecordLeaves$RecordVersion;" "RecordLeaves") ∈ lw_tbl := List.mem_append_right _ (List.mem_append_right _ (List.mem_append_left _ (List.mem_of_getElem? (i := 106) (by decide +kernel))))
theorem fl_X9_54 : rl_fl RX9 54 6 0 := ⟨RX6, TX6, 3, rfl, by decide, i_X6, Or.inr ⟨"RecordLeaves", mt_346⟩⟩
theorem mt_70 : (Cond.fieldLinkNest "RecordLeaves$Tape" (58 : Nat) "RecordLeaves$RecordVersion" "parts" "[LRecordLeaves$Part;" "RecordLeaves") ∈ lw_tbl := List.mem_append_right _ (List.mem_append_left _ (List.mem_of_getElem? (i := 70) (by decide +kernel)))
theorem fl_X9_58 : rl_fl RX9 58 7 2 := ⟨RX7, TX7, 6, rfl, by decide, i_X7, Or.inr ⟨"RecordLeaves", mt_70⟩⟩
theorem mt_231 : (Cond.fieldLinkNest "RecordLeaves$Tape" (64 : Nat) "RecordLeaves$Part" "name" "I" "RecordLeaves") ∈ lw_tbl := List.mem_append_right _ (List.mem_append_left _ (List.mem_of_getElem? (i := 231) (by decide +kernel)))
theorem fl_X9_64 : rl_fl RX9 64 4 0 := ⟨RX4, TX4, 3, rfl, by decide, i_X4, Or.inr ⟨"RecordLeaves", mt_231⟩⟩
theorem mt_234 : (Cond.fieldLinkNest "RecordLeaves$Tape" (69 : Nat) "RecordLeaves$Part" "sort" "I" "RecordLeaves") ∈ lw_tbl := List.mem_append_right _ (List.mem_append_left _ (List.mem_of_getElem? (i := 234) (by decide +kernel)))
theorem fl_X9_69 : rl_fl RX9 69 4 1 := ⟨RX4, TX4, 3, rfl, by decide, i_X4, Or.inr ⟨"RecordLeaves", mt_234⟩⟩
theorem mt_356 : (Cond.fieldLinkNest "RecordLeaves$Tape" (76 : Nat) "RecordLeaves$RecordThing" "things" "[LRecordLeaves$Thing;" "RecordLeaves") ∈ lw_tbl := List.mem_append_right _ (List.mem_append_right _ (List.mem_append_left _ (List.mem_of_getElem? (i := 116) (by decide +kernel))))
theorem fl_X9_76 : rl_fl RX9 76 6 2 := ⟨RX6, TX6, 3, rfl, by decide, i_X6, Or.inr ⟨"RecordLeaves", mt_356⟩⟩
theorem mt_351 : (Cond.fieldLinkNest "RecordLeaves$Tape" (84 : Nat) "RecordLeaves$RecordThing" "numbers" "[J" "RecordLeaves") ∈ lw_tbl := List.mem_append_right _ (List.mem_append_right _ (List.mem_append_left _ (List.mem_of_getElem? (i := 111) (by decide +kernel))))
theorem fl_X9_84 : rl_fl RX9 84 6 1 := ⟨RX6, TX6, 3, rfl, by decide, i_X6, Or.inr ⟨"RecordLeaves", mt_351⟩⟩
theorem mt_192 : (Cond.fieldLinkNest "RecordLeaves$Tape" (89 : Nat) "RecordLeaves$Constant" "name" "I" "RecordLeaves") ∈ lw_tbl := List.mem_append_right _ (List.mem_append_left _ (List.mem_of_getElem? (i := 192) (by decide +kernel)))
theorem fl_X9_89 : rl_fl RX9 89 1 1 := ⟨RX1, TX1, 4, rfl, by decide, i_X1, Or.inr ⟨"RecordLeaves", mt_192⟩⟩
theorem mt_301 : (Cond.fieldLinkNest "RecordLeaves$Tape" (92 : Nat) "RecordLeaves$Row" "items" "[I" "RecordLeaves") ∈ lw_tbl := List.mem_append_right _ (List.mem_append_right _ (List.mem_append_left _ (List.mem_of_getElem? (i := 61) (by decide +kernel))))
theorem fl_X9_92 : rl_fl RX9 92 8 0 := ⟨RX8, TX8, 1, rfl, by decide, i_X8, Or.inr ⟨"RecordLeaves", mt_301⟩⟩
theorem mt_649 : (Cond.fieldLink "RecordLeavesModel" (7 : Nat) "RecordLeavesModel" "constants" "[I") ∈ lw_tbl := List.mem_append_right _ (List.mem_append_right _ (List.mem_append_right _ (List.mem_append_left _ (List.mem_of_getElem? (i := 169) (by decide +kernel)))))
theorem mw_649 : (Cond.fieldLink "RecordLeavesModel" (7 : Nat) "RecordLeavesModel" "constants" "[I") ∈ rl_G := rl_inG mt_649 rfl
theorem fl_X12_7 : rl_fl RX12 7 11 0 := ⟨RX12, TX12, 49, rfl, by decide, i_X12, Or.inl mw_649⟩
theorem fp_X12_7 : rl_fp RX12 7 11 0 (.array .int) true := ⟨RX12, TX12, 49, tyX12, rfl, by decide, i_X12, tyX12_ok, nmX12, rfl, tyX12_ok 0 (by decide), (fun _ => rfl), Or.inl mw_649⟩
theorem mt_650 : (Cond.fieldLink "RecordLeavesModel" (13 : Nat) "RecordLeavesModel" "constantName" "[I") ∈ lw_tbl := List.mem_append_right _ (List.mem_append_right _ (List.mem_append_right _ (List.mem_append_left _ (List.mem_of_getElem? (i := 170) (by decide +kernel)))))
theorem mw_650 : (Cond.fieldLink "RecordLeavesModel" (13 : Nat) "RecordLeavesModel" "constantName" "[I") ∈ rl_G := rl_inG mt_650 rfl
theorem fl_X12_13 : rl_fl RX12 13 11 1 := ⟨RX12, TX12, 49, rfl, by decide, i_X12, Or.inl mw_650⟩
theorem fp_X12_13 : rl_fp RX12 13 11 1 (.array .int) true := ⟨RX12, TX12, 49, tyX12, rfl, by decide, i_X12, tyX12_ok, nmX12, rfl, tyX12_ok 1 (by decide), (fun _ => rfl), Or.inl mw_650⟩
theorem mt_651 : (Cond.fieldLink "RecordLeavesModel" (16 : Nat) "RecordLeavesModel" "isLoud" "[Z") ∈ lw_tbl := List.mem_append_right _ (List.mem_append_right _ (List.mem_append_right _ (List.mem_append_left _ (List.mem_of_getElem? (i := 171) (by decide +kernel)))))
theorem mw_651 : (Cond.fieldLink "RecordLeavesModel" (16 : Nat) "RecordLeavesModel" "isLoud" "[Z") ∈ rl_G := rl_inG mt_651 rfl
theorem fl_X12_16 : rl_fl RX12 16 11 2 := ⟨RX12, TX12, 49, rfl, by decide, i_X12, Or.inl mw_651⟩
theorem fp_X12_16 : rl_fp RX12 16 11 2 (.array .boolean) true := ⟨RX12, TX12, 49, tyX12, rfl, by decide, i_X12, tyX12_ok, nmX12, rfl, tyX12_ok 2 (by decide), (fun _ => rfl), Or.inl mw_651⟩
theorem mt_652 : (Cond.fieldLink "RecordLeavesModel" (20 : Nat) "RecordLeavesModel" "parts" "[I") ∈ lw_tbl := List.mem_append_right _ (List.mem_append_right _ (List.mem_append_right _ (List.mem_append_left _ (List.mem_of_getElem? (i := 172) (by decide +kernel)))))
theorem mw_652 : (Cond.fieldLink "RecordLeavesModel" (20 : Nat) "RecordLeavesModel" "parts" "[I") ∈ rl_G := rl_inG mt_652 rfl
theorem fl_X12_20 : rl_fl RX12 20 11 3 := ⟨RX12, TX12, 49, rfl, by decide, i_X12, Or.inl mw_652⟩
theorem fp_X12_20 : rl_fp RX12 20 11 3 (.array .int) true := ⟨RX12, TX12, 49, tyX12, rfl, by decide, i_X12, tyX12_ok, nmX12, rfl, tyX12_ok 3 (by decide), (fun _ => rfl), Or.inl mw_652⟩
theorem mt_653 : (Cond.fieldLink "RecordLeavesModel" (23 : Nat) "RecordLeavesModel" "partName" "[I") ∈ lw_tbl := List.mem_append_right _ (List.mem_append_right _ (List.mem_append_right _ (List.mem_append_left _ (List.mem_of_getElem? (i := 173) (by decide +kernel)))))
theorem mw_653 : (Cond.fieldLink "RecordLeavesModel" (23 : Nat) "RecordLeavesModel" "partName" "[I") ∈ rl_G := rl_inG mt_653 rfl
theorem fl_X12_23 : rl_fl RX12 23 11 4 := ⟨RX12, TX12, 49, rfl, by decide, i_X12, Or.inl mw_653⟩
theorem fp_X12_23 : rl_fp RX12 23 11 4 (.array .int) true := ⟨RX12, TX12, 49, tyX12, rfl, by decide, i_X12, tyX12_ok, nmX12, rfl, tyX12_ok 4 (by decide), (fun _ => rfl), Or.inl mw_653⟩
theorem mt_654 : (Cond.fieldLink "RecordLeavesModel" (26 : Nat) "RecordLeavesModel" "sorts" "[I") ∈ lw_tbl := List.mem_append_right _ (List.mem_append_right _ (List.mem_append_right _ (List.mem_append_left _ (List.mem_of_getElem? (i := 174) (by decide +kernel)))))
theorem mw_654 : (Cond.fieldLink "RecordLeavesModel" (26 : Nat) "RecordLeavesModel" "sorts" "[I") ∈ rl_G := rl_inG mt_654 rfl
theorem fl_X12_26 : rl_fl RX12 26 11 5 := ⟨RX12, TX12, 49, rfl, by decide, i_X12, Or.inl mw_654⟩
theorem fp_X12_26 : rl_fp RX12 26 11 5 (.array .int) true := ⟨RX12, TX12, 49, tyX12, rfl, by decide, i_X12, tyX12_ok, nmX12, rfl, tyX12_ok 5 (by decide), (fun _ => rfl), Or.inl mw_654⟩
theorem mt_655 : (Cond.fieldLink "RecordLeavesModel" (29 : Nat) "RecordLeavesModel" "ofs" "[I") ∈ lw_tbl := List.mem_append_right _ (List.mem_append_right _ (List.mem_append_right _ (List.mem_append_left _ (List.mem_of_getElem? (i := 175) (by decide +kernel)))))
theorem mw_655 : (Cond.fieldLink "RecordLeavesModel" (29 : Nat) "RecordLeavesModel" "ofs" "[I") ∈ rl_G := rl_inG mt_655 rfl
theorem fl_X12_29 : rl_fl RX12 29 11 6 := ⟨RX12, TX12, 49, rfl, by decide, i_X12, Or.inl mw_655⟩
theorem fp_X12_29 : rl_fp RX12 29 11 6 (.array .int) true := ⟨RX12, TX12, 49, tyX12, rfl, by decide, i_X12, tyX12_ok, nmX12, rfl, tyX12_ok 6 (by decide), (fun _ => rfl), Or.inl mw_655⟩
theorem mt_656 : (Cond.fieldLink "RecordLeavesModel" (32 : Nat) "RecordLeavesModel" "checks" "[I") ∈ lw_tbl := List.mem_append_right _ (List.mem_append_right _ (List.mem_append_right _ (List.mem_append_left _ (List.mem_of_getElem? (i := 176) (by decide +kernel)))))
theorem mw_656 : (Cond.fieldLink "RecordLeavesModel" (32 : Nat) "RecordLeavesModel" "checks" "[I") ∈ rl_G := rl_inG mt_656 rfl
theorem fl_X12_32 : rl_fl RX12 32 11 7 := ⟨RX12, TX12, 49, rfl, by decide, i_X12, Or.inl mw_656⟩
theorem fp_X12_32 : rl_fp RX12 32 11 7 (.array .int) true := ⟨RX12, TX12, 49, tyX12, rfl, by decide, i_X12, tyX12_ok, nmX12, rfl, tyX12_ok 7 (by decide), (fun _ => rfl), Or.inl mw_656⟩
theorem mt_657 : (Cond.fieldLink "RecordLeavesModel" (35 : Nat) "RecordLeavesModel" "hows" "[I") ∈ lw_tbl := List.mem_append_right _ (List.mem_append_right _ (List.mem_append_right _ (List.mem_append_left _ (List.mem_of_getElem? (i := 177) (by decide +kernel)))))
theorem mw_657 : (Cond.fieldLink "RecordLeavesModel" (35 : Nat) "RecordLeavesModel" "hows" "[I") ∈ rl_G := rl_inG mt_657 rfl
theorem fl_X12_35 : rl_fl RX12 35 11 8 := ⟨RX12, TX12, 49, rfl, by decide, i_X12, Or.inl mw_657⟩
theorem fp_X12_35 : rl_fp RX12 35 11 8 (.array .int) true := ⟨RX12, TX12, 49, tyX12, rfl, by decide, i_X12, tyX12_ok, nmX12, rfl, tyX12_ok 8 (by decide), (fun _ => rfl), Or.inl mw_657⟩
theorem mt_658 : (Cond.fieldLink "RecordLeavesModel" (38 : Nat) "RecordLeavesModel" "checkA" "[I") ∈ lw_tbl := List.mem_append_right _ (List.mem_append_right _ (List.mem_append_right _ (List.mem_append_left _ (List.mem_of_getElem? (i := 178) (by decide +kernel)))))
theorem mw_658 : (Cond.fieldLink "RecordLeavesModel" (38 : Nat) "RecordLeavesModel" "checkA" "[I") ∈ rl_G := rl_inG mt_658 rfl
theorem fl_X12_38 : rl_fl RX12 38 11 9 := ⟨RX12, TX12, 49, rfl, by decide, i_X12, Or.inl mw_658⟩
theorem fp_X12_38 : rl_fp RX12 38 11 9 (.array .int) true := ⟨RX12, TX12, 49, tyX12, rfl, by decide, i_X12, tyX12_ok, nmX12, rfl, tyX12_ok 9 (by decide), (fun _ => rfl), Or.inl mw_658⟩
theorem mt_659 : (Cond.fieldLink "RecordLeavesModel" (41 : Nat) "RecordLeavesModel" "checkB" "[I") ∈ lw_tbl := List.mem_append_right _ (List.mem_append_right _ (List.mem_append_right _ (List.mem_append_left _ (List.mem_of_getElem? (i := 179) (by decide +kernel)))))
theorem mw_659 : (Cond.fieldLink "RecordLeavesModel" (41 : Nat) "RecordLeavesModel" "checkB" "[I") ∈ rl_G := rl_inG mt_659 rfl
theorem fl_X12_41 : rl_fl RX12 41 11 10 := ⟨RX12, TX12, 49, rfl, by decide, i_X12, Or.inl mw_659⟩
theorem fp_X12_41 : rl_fp RX12 41 11 10 (.array .int) true := ⟨RX12, TX12, 49, tyX12, rfl, by decide, i_X12, tyX12_ok, nmX12, rfl, tyX12_ok 10 (by decide), (fun _ => rfl), Or.inl mw_659⟩
theorem mt_661 : (Cond.fieldLink "RecordLeavesModel" (45 : Nat) "RecordLeavesModel" "sizes" "[I") ∈ lw_tbl := List.mem_append_right _ (List.mem_append_right _ (List.mem_append_right _ (List.mem_append_left _ (List.mem_of_getElem? (i := 181) (by decide +kernel)))))
theorem mw_661 : (Cond.fieldLink "RecordLeavesModel" (45 : Nat) "RecordLeavesModel" "sizes" "[I") ∈ rl_G := rl_inG mt_661 rfl
theorem fl_X12_45 : rl_fl RX12 45 11 12 := ⟨RX12, TX12, 49, rfl, by decide, i_X12, Or.inl mw_661⟩
theorem fp_X12_45 : rl_fp RX12 45 11 12 (.array .int) true := ⟨RX12, TX12, 49, tyX12, rfl, by decide, i_X12, tyX12_ok, nmX12, rfl, tyX12_ok 12 (by decide), (fun _ => rfl), Or.inl mw_661⟩
theorem mt_662 : (Cond.fieldLink "RecordLeavesModel" (49 : Nat) "RecordLeavesModel" "items" "[I") ∈ lw_tbl := List.mem_append_right _ (List.mem_append_right _ (List.mem_append_right _ (List.mem_append_left _ (List.mem_of_getElem? (i := 182) (by decide +kernel)))))
theorem mw_662 : (Cond.fieldLink "RecordLeavesModel" (49 : Nat) "RecordLeavesModel" "items" "[I") ∈ rl_G := rl_inG mt_662 rfl
theorem fl_X12_49 : rl_fl RX12 49 11 13 := ⟨RX12, TX12, 49, rfl, by decide, i_X12, Or.inl mw_662⟩
theorem fp_X12_49 : rl_fp RX12 49 11 13 (.array .int) true := ⟨RX12, TX12, 49, tyX12, rfl, by decide, i_X12, tyX12_ok, nmX12, rfl, tyX12_ok 13 (by decide), (fun _ => rfl), Or.inl mw_662⟩
theorem mt_664 : (Cond.fieldLink "RecordLeavesModel" (52 : Nat) "RecordLeavesModel" "shapeOf" "[I") ∈ lw_tbl := List.mem_append_right _ (List.mem_append_right _ (List.mem_append_right _ (List.mem_append_left _ (List.mem_of_getElem? (i := 184) (by decide +kernel)))))
theorem mw_664 : (Cond.fieldLink "RecordLeavesModel" (52 : Nat) "RecordLeavesModel" "shapeOf" "[I") ∈ rl_G := rl_inG mt_664 rfl
theorem fl_X12_52 : rl_fl RX12 52 11 15 := ⟨RX12, TX12, 49, rfl, by decide, i_X12, Or.inl mw_664⟩
theorem fp_X12_52 : rl_fp RX12 52 11 15 (.array .int) true := ⟨RX12, TX12, 49, tyX12, rfl, by decide, i_X12, tyX12_ok, nmX12, rfl, tyX12_ok 15 (by decide), (fun _ => rfl), Or.inl mw_664⟩
theorem mt_665 : (Cond.fieldLink "RecordLeavesModel" (55 : Nat) "RecordLeavesModel" "partsOf" "[I") ∈ lw_tbl := List.mem_append_right _ (List.mem_append_right _ (List.mem_append_right _ (List.mem_append_left _ (List.mem_of_getElem? (i := 185) (by decide +kernel)))))
theorem mw_665 : (Cond.fieldLink "RecordLeavesModel" (55 : Nat) "RecordLeavesModel" "partsOf" "[I") ∈ rl_G := rl_inG mt_665 rfl
theorem fl_X12_55 : rl_fl RX12 55 11 16 := ⟨RX12, TX12, 49, rfl, by decide, i_X12, Or.inl mw_665⟩
theorem fp_X12_55 : rl_fp RX12 55 11 16 (.array .int) true := ⟨RX12, TX12, 49, tyX12, rfl, by decide, i_X12, tyX12_ok, nmX12, rfl, tyX12_ok 16 (by decide), (fun _ => rfl), Or.inl mw_665⟩
theorem mt_666 : (Cond.fieldLink "RecordLeavesModel" (59 : Nat) "RecordLeavesModel" "numbers" "[J") ∈ lw_tbl := List.mem_append_right _ (List.mem_append_right _ (List.mem_append_right _ (List.mem_append_left _ (List.mem_of_getElem? (i := 186) (by decide +kernel)))))
theorem mw_666 : (Cond.fieldLink "RecordLeavesModel" (59 : Nat) "RecordLeavesModel" "numbers" "[J") ∈ rl_G := rl_inG mt_666 rfl
theorem fl_X12_59 : rl_fl RX12 59 11 17 := ⟨RX12, TX12, 49, rfl, by decide, i_X12, Or.inl mw_666⟩
theorem fp_X12_59 : rl_fp RX12 59 11 17 (.array .long) true := ⟨RX12, TX12, 49, tyX12, rfl, by decide, i_X12, tyX12_ok, nmX12, rfl, tyX12_ok 17 (by decide), (fun _ => rfl), Or.inl mw_666⟩
theorem mt_667 : (Cond.fieldLink "RecordLeavesModel" (63 : Nat) "RecordLeavesModel" "things" "[I") ∈ lw_tbl := List.mem_append_right _ (List.mem_append_right _ (List.mem_append_right _ (List.mem_append_left _ (List.mem_of_getElem? (i := 187) (by decide +kernel)))))
theorem mw_667 : (Cond.fieldLink "RecordLeavesModel" (63 : Nat) "RecordLeavesModel" "things" "[I") ∈ rl_G := rl_inG mt_667 rfl
theorem fl_X12_63 : rl_fl RX12 63 11 18 := ⟨RX12, TX12, 49, rfl, by decide, i_X12, Or.inl mw_667⟩
theorem fp_X12_63 : rl_fp RX12 63 11 18 (.array .int) true := ⟨RX12, TX12, 49, tyX12, rfl, by decide, i_X12, tyX12_ok, nmX12, rfl, tyX12_ok 18 (by decide), (fun _ => rfl), Or.inl mw_667⟩
theorem mt_668 : (Cond.fieldLink "RecordLeavesModel" (66 : Nat) "RecordLeavesModel" "places" "[I") ∈ lw_tbl := List.mem_append_right _ (List.mem_append_right _ (List.mem_append_right _ (List.mem_append_left _ (List.mem_of_getElem? (i := 188) (by decide +kernel)))))
theorem mw_668 : (Cond.fieldLink "RecordLeavesModel" (66 : Nat) "RecordLeavesModel" "places" "[I") ∈ rl_G := rl_inG mt_668 rfl
theorem fl_X12_66 : rl_fl RX12 66 11 19 := ⟨RX12, TX12, 49, rfl, by decide, i_X12, Or.inl mw_668⟩
theorem fp_X12_66 : rl_fp RX12 66 11 19 (.array .int) true := ⟨RX12, TX12, 49, tyX12, rfl, by decide, i_X12, tyX12_ok, nmX12, rfl, tyX12_ok 19 (by decide), (fun _ => rfl), Or.inl mw_668⟩
theorem mt_669 : (Cond.fieldLink "RecordLeavesModel" (69 : Nat) "RecordLeavesModel" "givenNumber" "[J") ∈ lw_tbl := List.mem_append_right _ (List.mem_append_right _ (List.mem_append_right _ (List.mem_append_left _ (List.mem_of_getElem? (i := 189) (by decide +kernel)))))
theorem mw_669 : (Cond.fieldLink "RecordLeavesModel" (69 : Nat) "RecordLeavesModel" "givenNumber" "[J") ∈ rl_G := rl_inG mt_669 rfl
theorem fl_X12_69 : rl_fl RX12 69 11 20 := ⟨RX12, TX12, 49, rfl, by decide, i_X12, Or.inl mw_669⟩
theorem fp_X12_69 : rl_fp RX12 69 11 20 (.array .long) true := ⟨RX12, TX12, 49, tyX12, rfl, by decide, i_X12, tyX12_ok, nmX12, rfl, tyX12_ok 20 (by decide), (fun _ => rfl), Or.inl mw_669⟩
theorem mt_670 : (Cond.fieldLink "RecordLeavesModel" (72 : Nat) "RecordLeavesModel" "givenPlace" "[I") ∈ lw_tbl := List.mem_append_right _ (List.mem_append_right _ (List.mem_append_right _ (List.mem_append_left _ (List.mem_of_getElem? (i := 190) (by decide +kernel)))))
theorem mw_670 : (Cond.fieldLink "RecordLeavesModel" (72 : Nat) "RecordLeavesModel" "givenPlace" "[I") ∈ rl_G := rl_inG mt_670 rfl
theorem fl_X12_72 : rl_fl RX12 72 11 21 := ⟨RX12, TX12, 49, rfl, by decide, i_X12, Or.inl mw_670⟩
theorem fp_X12_72 : rl_fp RX12 72 11 21 (.array .int) true := ⟨RX12, TX12, 49, tyX12, rfl, by decide, i_X12, tyX12_ok, nmX12, rfl, tyX12_ok 21 (by decide), (fun _ => rfl), Or.inl mw_670⟩
theorem mt_672 : (Cond.fieldLink "RecordLeavesModel" (75 : Nat) "RecordLeavesModel" "tape" "[J") ∈ lw_tbl := List.mem_append_right _ (List.mem_append_right _ (List.mem_append_right _ (List.mem_append_left _ (List.mem_of_getElem? (i := 192) (by decide +kernel)))))
theorem mw_672 : (Cond.fieldLink "RecordLeavesModel" (75 : Nat) "RecordLeavesModel" "tape" "[J") ∈ rl_G := rl_inG mt_672 rfl
theorem fl_X12_75 : rl_fl RX12 75 11 23 := ⟨RX12, TX12, 49, rfl, by decide, i_X12, Or.inl mw_672⟩
theorem fp_X12_75 : rl_fp RX12 75 11 23 (.array .long) true := ⟨RX12, TX12, 49, tyX12, rfl, by decide, i_X12, tyX12_ok, nmX12, rfl, tyX12_ok 23 (by decide), (fun _ => rfl), Or.inl mw_672⟩
theorem mt_674 : (Cond.fieldLink "RecordLeavesModel" (78 : Nat) "RecordLeavesModel" "leafAt" "I") ∈ lw_tbl := List.mem_append_right _ (List.mem_append_right _ (List.mem_append_right _ (List.mem_append_left _ (List.mem_of_getElem? (i := 194) (by decide +kernel)))))
theorem mw_674 : (Cond.fieldLink "RecordLeavesModel" (78 : Nat) "RecordLeavesModel" "leafAt" "I") ∈ rl_G := rl_inG mt_674 rfl
theorem fl_X12_78 : rl_fl RX12 78 11 25 := ⟨RX12, TX12, 49, rfl, by decide, i_X12, Or.inl mw_674⟩
theorem fp_X12_78 : rl_fp RX12 78 11 25 .int false := ⟨RX12, TX12, 49, tyX12, rfl, by decide, i_X12, tyX12_ok, nmX12, rfl, tyX12_ok 25 (by decide), (fun h => by cases h), Or.inl mw_674⟩
theorem mt_680 : (Cond.fieldLink "RecordLeavesModel" (82 : Nat) "RecordLeavesModel" "numberNow" "[J") ∈ lw_tbl := List.mem_append_right _ (List.mem_append_right _ (List.mem_append_right _ (List.mem_append_left _ (List.mem_of_getElem? (i := 200) (by decide +kernel)))))
theorem mw_680 : (Cond.fieldLink "RecordLeavesModel" (82 : Nat) "RecordLeavesModel" "numberNow" "[J") ∈ rl_G := rl_inG mt_680 rfl
theorem fl_X12_82 : rl_fl RX12 82 11 31 := ⟨RX12, TX12, 49, rfl, by decide, i_X12, Or.inl mw_680⟩
theorem fp_X12_82 : rl_fp RX12 82 11 31 (.array .long) true := ⟨RX12, TX12, 49, tyX12, rfl, by decide, i_X12, tyX12_ok, nmX12, rfl, tyX12_ok 31 (by decide), (fun _ => rfl), Or.inl mw_680⟩
theorem mt_681 : (Cond.fieldLink "RecordLeavesModel" (85 : Nat) "RecordLeavesModel" "thingNow" "[I") ∈ lw_tbl := List.mem_append_right _ (List.mem_append_right _ (List.mem_append_right _ (List.mem_append_left _ (List.mem_of_getElem? (i := 201) (by decide +kernel)))))
theorem mw_681 : (Cond.fieldLink "RecordLeavesModel" (85 : Nat) "RecordLeavesModel" "thingNow" "[I") ∈ rl_G := rl_inG mt_681 rfl
theorem fl_X12_85 : rl_fl RX12 85 11 32 := ⟨RX12, TX12, 49, rfl, by decide, i_X12, Or.inl mw_681⟩
theorem fp_X12_85 : rl_fp RX12 85 11 32 (.array .int) true := ⟨RX12, TX12, 49, tyX12, rfl, by decide, i_X12, tyX12_ok, nmX12, rfl, tyX12_ok 32 (by decide), (fun _ => rfl), Or.inl mw_681⟩
theorem mt_683 : (Cond.fieldLink "RecordLeavesModel" (88 : Nat) "RecordLeavesModel" "pairA" "[I") ∈ lw_tbl := List.mem_append_right _ (List.mem_append_right _ (List.mem_append_right _ (List.mem_append_left _ (List.mem_of_getElem? (i := 203) (by decide +kernel)))))
theorem mw_683 : (Cond.fieldLink "RecordLeavesModel" (88 : Nat) "RecordLeavesModel" "pairA" "[I") ∈ rl_G := rl_inG mt_683 rfl
theorem fl_X12_88 : rl_fl RX12 88 11 34 := ⟨RX12, TX12, 49, rfl, by decide, i_X12, Or.inl mw_683⟩
theorem fp_X12_88 : rl_fp RX12 88 11 34 (.array .int) true := ⟨RX12, TX12, 49, tyX12, rfl, by decide, i_X12, tyX12_ok, nmX12, rfl, tyX12_ok 34 (by decide), (fun _ => rfl), Or.inl mw_683⟩
theorem mt_684 : (Cond.fieldLink "RecordLeavesModel" (91 : Nat) "RecordLeavesModel" "pairB" "[I") ∈ lw_tbl := List.mem_append_right _ (List.mem_append_right _ (List.mem_append_right _ (List.mem_append_left _ (List.mem_of_getElem? (i := 204) (by decide +kernel)))))
theorem mw_684 : (Cond.fieldLink "RecordLeavesModel" (91 : Nat) "RecordLeavesModel" "pairB" "[I") ∈ rl_G := rl_inG mt_684 rfl
theorem fl_X12_91 : rl_fl RX12 91 11 35 := ⟨RX12, TX12, 49, rfl, by decide, i_X12, Or.inl mw_684⟩
theorem fp_X12_91 : rl_fp RX12 91 11 35 (.array .int) true := ⟨RX12, TX12, 49, tyX12, rfl, by decide, i_X12, tyX12_ok, nmX12, rfl, tyX12_ok 35 (by decide), (fun _ => rfl), Or.inl mw_684⟩
theorem mt_685 : (Cond.fieldLink "RecordLeavesModel" (94 : Nat) "RecordLeavesModel" "within" "[I") ∈ lw_tbl := List.mem_append_right _ (List.mem_append_right _ (List.mem_append_right _ (List.mem_append_left _ (List.mem_of_getElem? (i := 205) (by decide +kernel)))))
theorem mw_685 : (Cond.fieldLink "RecordLeavesModel" (94 : Nat) "RecordLeavesModel" "within" "[I") ∈ rl_G := rl_inG mt_685 rfl
theorem fl_X12_94 : rl_fl RX12 94 11 36 := ⟨RX12, TX12, 49, rfl, by decide, i_X12, Or.inl mw_685⟩
theorem fp_X12_94 : rl_fp RX12 94 11 36 (.array .int) true := ⟨RX12, TX12, 49, tyX12, rfl, by decide, i_X12, tyX12_ok, nmX12, rfl, tyX12_ok 36 (by decide), (fun _ => rfl), Or.inl mw_685⟩
theorem mt_687 : (Cond.fieldLink "RecordLeavesModel" (97 : Nat) "RecordLeavesModel" "newTape" "[J") ∈ lw_tbl := List.mem_append_right _ (List.mem_append_right _ (List.mem_append_right _ (List.mem_append_left _ (List.mem_of_getElem? (i := 207) (by decide +kernel)))))
theorem mw_687 : (Cond.fieldLink "RecordLeavesModel" (97 : Nat) "RecordLeavesModel" "newTape" "[J") ∈ rl_G := rl_inG mt_687 rfl
theorem fl_X12_97 : rl_fl RX12 97 11 38 := ⟨RX12, TX12, 49, rfl, by decide, i_X12, Or.inl mw_687⟩
theorem fp_X12_97 : rl_fp RX12 97 11 38 (.array .long) true := ⟨RX12, TX12, 49, tyX12, rfl, by decide, i_X12, tyX12_ok, nmX12, rfl, tyX12_ok 38 (by decide), (fun _ => rfl), Or.inl mw_687⟩
theorem mt_688 : (Cond.fieldLink "RecordLeavesModel" (100 : Nat) "RecordLeavesModel" "open" "[I") ∈ lw_tbl := List.mem_append_right _ (List.mem_append_right _ (List.mem_append_right _ (List.mem_append_left _ (List.mem_of_getElem? (i := 208) (by decide +kernel)))))
theorem mw_688 : (Cond.fieldLink "RecordLeavesModel" (100 : Nat) "RecordLeavesModel" "open" "[I") ∈ rl_G := rl_inG mt_688 rfl
theorem fl_X12_100 : rl_fl RX12 100 11 39 := ⟨RX12, TX12, 49, rfl, by decide, i_X12, Or.inl mw_688⟩
theorem fp_X12_100 : rl_fp RX12 100 11 39 (.array .int) true := ⟨RX12, TX12, 49, tyX12, rfl, by decide, i_X12, tyX12_ok, nmX12, rfl, tyX12_ok 39 (by decide), (fun _ => rfl), Or.inl mw_688⟩
theorem mt_689 : (Cond.fieldLink "RecordLeavesModel" (103 : Nat) "RecordLeavesModel" "nextPart" "[I") ∈ lw_tbl := List.mem_append_right _ (List.mem_append_right _ (List.mem_append_right _ (List.mem_append_left _ (List.mem_of_getElem? (i := 209) (by decide +kernel)))))
theorem mw_689 : (Cond.fieldLink "RecordLeavesModel" (103 : Nat) "RecordLeavesModel" "nextPart" "[I") ∈ rl_G := rl_inG mt_689 rfl
theorem fl_X12_103 : rl_fl RX12 103 11 40 := ⟨RX12, TX12, 49, rfl, by decide, i_X12, Or.inl mw_689⟩
theorem fp_X12_103 : rl_fp RX12 103 11 40 (.array .int) true := ⟨RX12, TX12, 49, tyX12, rfl, by decide, i_X12, tyX12_ok, nmX12, rfl, tyX12_ok 40 (by decide), (fun _ => rfl), Or.inl mw_689⟩
theorem mt_695 : (Cond.fieldLink "RecordLeavesModel" (106 : Nat) "RecordLeavesModel" "shapes" "[I") ∈ lw_tbl := List.mem_append_right _ (List.mem_append_right _ (List.mem_append_right _ (List.mem_append_left _ (List.mem_of_getElem? (i := 215) (by decide +kernel)))))
theorem mw_695 : (Cond.fieldLink "RecordLeavesModel" (106 : Nat) "RecordLeavesModel" "shapes" "[I") ∈ rl_G := rl_inG mt_695 rfl
theorem fl_X12_106 : rl_fl RX12 106 11 46 := ⟨RX12, TX12, 49, rfl, by decide, i_X12, Or.inl mw_695⟩
theorem fp_X12_106 : rl_fp RX12 106 11 46 (.array .int) true := ⟨RX12, TX12, 49, tyX12, rfl, by decide, i_X12, tyX12_ok, nmX12, rfl, tyX12_ok 46 (by decide), (fun _ => rfl), Or.inl mw_695⟩
theorem mt_696 : (Cond.fieldLink "RecordLeavesModel" (109 : Nat) "RecordLeavesModel" "left" "[J") ∈ lw_tbl := List.mem_append_right _ (List.mem_append_right _ (List.mem_append_right _ (List.mem_append_left _ (List.mem_of_getElem? (i := 216) (by decide +kernel)))))
theorem mw_696 : (Cond.fieldLink "RecordLeavesModel" (109 : Nat) "RecordLeavesModel" "left" "[J") ∈ rl_G := rl_inG mt_696 rfl
theorem fl_X12_109 : rl_fl RX12 109 11 47 := ⟨RX12, TX12, 49, rfl, by decide, i_X12, Or.inl mw_696⟩
theorem fp_X12_109 : rl_fp RX12 109 11 47 (.array .long) true := ⟨RX12, TX12, 49, tyX12, rfl, by decide, i_X12, tyX12_ok, nmX12, rfl, tyX12_ok 47 (by decide), (fun _ => rfl), Or.inl mw_696⟩
theorem mt_697 : (Cond.fieldLink "RecordLeavesModel" (112 : Nat) "RecordLeavesModel" "inner" "[I") ∈ lw_tbl := List.mem_append_right _ (List.mem_append_right _ (List.mem_append_right _ (List.mem_append_left _ (List.mem_of_getElem? (i := 217) (by decide +kernel)))))
theorem mw_697 : (Cond.fieldLink "RecordLeavesModel" (112 : Nat) "RecordLeavesModel" "inner" "[I") ∈ rl_G := rl_inG mt_697 rfl
theorem fl_X12_112 : rl_fl RX12 112 11 48 := ⟨RX12, TX12, 49, rfl, by decide, i_X12, Or.inl mw_697⟩
theorem fp_X12_112 : rl_fp RX12 112 11 48 (.array .int) true := ⟨RX12, TX12, 49, tyX12, rfl, by decide, i_X12, tyX12_ok, nmX12, rfl, tyX12_ok 48 (by decide), (fun _ => rfl), Or.inl mw_697⟩
theorem mt_660 : (Cond.fieldLink "RecordLeavesModel" (151 : Nat) "RecordLeavesModel" "rows" "I") ∈ lw_tbl := List.mem_append_right _ (List.mem_append_right _ (List.mem_append_right _ (List.mem_append_left _ (List.mem_of_getElem? (i := 180) (by decide +kernel)))))
theorem mw_660 : (Cond.fieldLink "RecordLeavesModel" (151 : Nat) "RecordLeavesModel" "rows" "I") ∈ rl_G := rl_inG mt_660 rfl
theorem fl_X12_151 : rl_fl RX12 151 11 11 := ⟨RX12, TX12, 49, rfl, by decide, i_X12, Or.inl mw_660⟩
theorem fp_X12_151 : rl_fp RX12 151 11 11 .int false := ⟨RX12, TX12, 49, tyX12, rfl, by decide, i_X12, tyX12_ok, nmX12, rfl, tyX12_ok 11 (by decide), (fun h => by cases h), Or.inl mw_660⟩
theorem mt_663 : (Cond.fieldLink "RecordLeavesModel" (177 : Nat) "RecordLeavesModel" "records" "I") ∈ lw_tbl := List.mem_append_right _ (List.mem_append_right _ (List.mem_append_right _ (List.mem_append_left _ (List.mem_of_getElem? (i := 183) (by decide +kernel)))))
theorem mw_663 : (Cond.fieldLink "RecordLeavesModel" (177 : Nat) "RecordLeavesModel" "records" "I") ∈ rl_G := rl_inG mt_663 rfl
theorem fl_X12_177 : rl_fl RX12 177 11 14 := ⟨RX12, TX12, 49, rfl, by decide, i_X12, Or.inl mw_663⟩
theorem fp_X12_177 : rl_fp RX12 177 11 14 .int false := ⟨RX12, TX12, 49, tyX12, rfl, by decide, i_X12, tyX12_ok, nmX12, rfl, tyX12_ok 14 (by decide), (fun h => by cases h), Or.inl mw_663⟩
theorem mt_677 : (Cond.fieldLink "RecordLeavesModel" (180 : Nat) "RecordLeavesModel" "made" "I") ∈ lw_tbl := List.mem_append_right _ (List.mem_append_right _ (List.mem_append_right _ (List.mem_append_left _ (List.mem_of_getElem? (i := 197) (by decide +kernel)))))
theorem mw_677 : (Cond.fieldLink "RecordLeavesModel" (180 : Nat) "RecordLeavesModel" "made" "I") ∈ rl_G := rl_inG mt_677 rfl
theorem fl_X12_180 : rl_fl RX12 180 11 28 := ⟨RX12, TX12, 49, rfl, by decide, i_X12, Or.inl mw_677⟩
theorem fp_X12_180 : rl_fp RX12 180 11 28 .int false := ⟨RX12, TX12, 49, tyX12, rfl, by decide, i_X12, tyX12_ok, nmX12, rfl, tyX12_ok 28 (by decide), (fun h => by cases h), Or.inl mw_677⟩
theorem mt_673 : (Cond.fieldLink "RecordLeavesModel" (187 : Nat) "RecordLeavesModel" "why" "I") ∈ lw_tbl := List.mem_append_right _ (List.mem_append_right _ (List.mem_append_right _ (List.mem_append_left _ (List.mem_of_getElem? (i := 193) (by decide +kernel)))))
theorem mw_673 : (Cond.fieldLink "RecordLeavesModel" (187 : Nat) "RecordLeavesModel" "why" "I") ∈ rl_G := rl_inG mt_673 rfl
theorem fl_X12_187 : rl_fl RX12 187 11 24 := ⟨RX12, TX12, 49, rfl, by decide, i_X12, Or.inl mw_673⟩
theorem fp_X12_187 : rl_fp RX12 187 11 24 .int false := ⟨RX12, TX12, 49, tyX12, rfl, by decide, i_X12, tyX12_ok, nmX12, rfl, tyX12_ok 24 (by decide), (fun h => by cases h), Or.inl mw_673⟩
theorem mt_675 : (Cond.fieldLink "RecordLeavesModel" (190 : Nat) "RecordLeavesModel" "begun" "I") ∈ lw_tbl := List.mem_append_right _ (List.mem_append_right _ (List.mem_append_right _ (List.mem_append_left _ (List.mem_of_getElem? (i := 195) (by decide +kernel)))))
theorem mw_675 : (Cond.fieldLink "RecordLeavesModel" (190 : Nat) "RecordLeavesModel" "begun" "I") ∈ rl_G := rl_inG mt_675 rfl
theorem fl_X12_190 : rl_fl RX12 190 11 26 := ⟨RX12, TX12, 49, rfl, by decide, i_X12, Or.inl mw_675⟩
theorem fp_X12_190 : rl_fp RX12 190 11 26 .int false := ⟨RX12, TX12, 49, tyX12, rfl, by decide, i_X12, tyX12_ok, nmX12, rfl, tyX12_ok 26 (by decide), (fun h => by cases h), Or.inl mw_675⟩
theorem mt_676 : (Cond.fieldLink "RecordLeavesModel" (198 : Nat) "RecordLeavesModel" "status" "I") ∈ lw_tbl := List.mem_append_right _ (List.mem_append_right _ (List.mem_append_right _ (List.mem_append_left _ (List.mem_of_getElem? (i := 196) (by decide +kernel)))))
theorem mw_676 : (Cond.fieldLink "RecordLeavesModel" (198 : Nat) "RecordLeavesModel" "status" "I") ∈ rl_G := rl_inG mt_676 rfl
theorem fl_X12_198 : rl_fl RX12 198 11 27 := ⟨RX12, TX12, 49, rfl, by decide, i_X12, Or.inl mw_676⟩
theorem fp_X12_198 : rl_fp RX12 198 11 27 .int false := ⟨RX12, TX12, 49, tyX12, rfl, by decide, i_X12, tyX12_ok, nmX12, rfl, tyX12_ok 27 (by decide), (fun h => by cases h), Or.inl mw_676⟩
theorem mt_682 : (Cond.fieldLink "RecordLeavesModel" (206 : Nat) "RecordLeavesModel" "pairs" "I") ∈ lw_tbl := List.mem_append_right _ (List.mem_append_right _ (List.mem_append_right _ (List.mem_append_left _ (List.mem_of_getElem? (i := 202) (by decide +kernel)))))
theorem mw_682 : (Cond.fieldLink "RecordLeavesModel" (206 : Nat) "RecordLeavesModel" "pairs" "I") ∈ rl_G := rl_inG mt_682 rfl
theorem fl_X12_206 : rl_fl RX12 206 11 33 := ⟨RX12, TX12, 49, rfl, by decide, i_X12, Or.inl mw_682⟩
theorem fp_X12_206 : rl_fp RX12 206 11 33 .int false := ⟨RX12, TX12, 49, tyX12, rfl, by decide, i_X12, tyX12_ok, nmX12, rfl, tyX12_ok 33 (by decide), (fun h => by cases h), Or.inl mw_682⟩
theorem mt_686 : (Cond.fieldLink "RecordLeavesModel" (220 : Nat) "RecordLeavesModel" "wrote" "I") ∈ lw_tbl := List.mem_append_right _ (List.mem_append_right _ (List.mem_append_right _ (List.mem_append_left _ (List.mem_of_getElem? (i := 206) (by decide +kernel)))))
theorem mw_686 : (Cond.fieldLink "RecordLeavesModel" (220 : Nat) "RecordLeavesModel" "wrote" "I") ∈ rl_G := rl_inG mt_686 rfl
theorem fl_X12_220 : rl_fl RX12 220 11 37 := ⟨RX12, TX12, 49, rfl, by decide, i_X12, Or.inl mw_686⟩
theorem fp_X12_220 : rl_fp RX12 220 11 37 .int false := ⟨RX12, TX12, 49, tyX12, rfl, by decide, i_X12, tyX12_ok, nmX12, rfl, tyX12_ok 37 (by decide), (fun h => by cases h), Or.inl mw_686⟩
theorem mt_671 : (Cond.fieldLink "RecordLeavesModel" (235 : Nat) "RecordLeavesModel" "leaves" "I") ∈ lw_tbl := List.mem_append_right _ (List.mem_append_right _ (List.mem_append_right _ (List.mem_append_left _ (List.mem_of_getElem? (i := 191) (by decide +kernel)))))
theorem mw_671 : (Cond.fieldLink "RecordLeavesModel" (235 : Nat) "RecordLeavesModel" "leaves" "I") ∈ rl_G := rl_inG mt_671 rfl
theorem fl_X12_235 : rl_fl RX12 235 11 22 := ⟨RX12, TX12, 49, rfl, by decide, i_X12, Or.inl mw_671⟩
theorem fp_X12_235 : rl_fp RX12 235 11 22 .int false := ⟨RX12, TX12, 49, tyX12, rfl, by decide, i_X12, tyX12_ok, nmX12, rfl, tyX12_ok 22 (by decide), (fun h => by cases h), Or.inl mw_671⟩
theorem mt_692 : (Cond.fieldLink "RecordLeavesModel" (238 : Nat) "RecordLeavesModel" "bad" "I") ∈ lw_tbl := List.mem_append_right _ (List.mem_append_right _ (List.mem_append_right _ (List.mem_append_left _ (List.mem_of_getElem? (i := 212) (by decide +kernel)))))
theorem mw_692 : (Cond.fieldLink "RecordLeavesModel" (238 : Nat) "RecordLeavesModel" "bad" "I") ∈ rl_G := rl_inG mt_692 rfl
theorem fl_X12_238 : rl_fl RX12 238 11 43 := ⟨RX12, TX12, 49, rfl, by decide, i_X12, Or.inl mw_692⟩
theorem fp_X12_238 : rl_fp RX12 238 11 43 .int false := ⟨RX12, TX12, 49, tyX12, rfl, by decide, i_X12, tyX12_ok, nmX12, rfl, tyX12_ok 43 (by decide), (fun h => by cases h), Or.inl mw_692⟩
theorem mt_690 : (Cond.fieldLink "RecordLeavesModel" (241 : Nat) "RecordLeavesModel" "at" "I") ∈ lw_tbl := List.mem_append_right _ (List.mem_append_right _ (List.mem_append_right _ (List.mem_append_left _ (List.mem_of_getElem? (i := 210) (by decide +kernel)))))
theorem mw_690 : (Cond.fieldLink "RecordLeavesModel" (241 : Nat) "RecordLeavesModel" "at" "I") ∈ rl_G := rl_inG mt_690 rfl
theorem fl_X12_241 : rl_fl RX12 241 11 41 := ⟨RX12, TX12, 49, rfl, by decide, i_X12, Or.inl mw_690⟩
theorem fp_X12_241 : rl_fp RX12 241 11 41 .int false := ⟨RX12, TX12, 49, tyX12, rfl, by decide, i_X12, tyX12_ok, nmX12, rfl, tyX12_ok 41 (by decide), (fun h => by cases h), Or.inl mw_690⟩
theorem mt_691 : (Cond.fieldLink "RecordLeavesModel" (244 : Nat) "RecordLeavesModel" "last" "I") ∈ lw_tbl := List.mem_append_right _ (List.mem_append_right _ (List.mem_append_right _ (List.mem_append_left _ (List.mem_of_getElem? (i := 211) (by decide +kernel)))))
theorem mw_691 : (Cond.fieldLink "RecordLeavesModel" (244 : Nat) "RecordLeavesModel" "last" "I") ∈ rl_G := rl_inG mt_691 rfl
theorem fl_X12_244 : rl_fl RX12 244 11 42 := ⟨RX12, TX12, 49, rfl, by decide, i_X12, Or.inl mw_691⟩
theorem fp_X12_244 : rl_fp RX12 244 11 42 .int false := ⟨RX12, TX12, 49, tyX12, rfl, by decide, i_X12, tyX12_ok, nmX12, rfl, tyX12_ok 42 (by decide), (fun h => by cases h), Or.inl mw_691⟩
theorem mt_694 : (Cond.fieldLink "RecordLeavesModel" (251 : Nat) "RecordLeavesModel" "deep" "I") ∈ lw_tbl := List.mem_append_right _ (List.mem_append_right _ (List.mem_append_right _ (List.mem_append_left _ (List.mem_of_getElem? (i := 214) (by decide +kernel)))))
theorem mw_694 : (Cond.fieldLink "RecordLeavesModel" (251 : Nat) "RecordLeavesModel" "deep" "I") ∈ rl_G := rl_inG mt_694 rfl
theorem fl_X12_251 : rl_fl RX12 251 11 45 := ⟨RX12, TX12, 49, rfl, by decide, i_X12, Or.inl mw_694⟩
theorem fp_X12_251 : rl_fp RX12 251 11 45 .int false := ⟨RX12, TX12, 49, tyX12, rfl, by decide, i_X12, tyX12_ok, nmX12, rfl, tyX12_ok 45 (by decide), (fun h => by cases h), Or.inl mw_694⟩
theorem mt_693 : (Cond.fieldLink "RecordLeavesModel" (258 : Nat) "RecordLeavesModel" "version" "I") ∈ lw_tbl := List.mem_append_right _ (List.mem_append_right _ (List.mem_append_right _ (List.mem_append_left _ (List.mem_of_getElem? (i := 213) (by decide +kernel)))))
theorem mw_693 : (Cond.fieldLink "RecordLeavesModel" (258 : Nat) "RecordLeavesModel" "version" "I") ∈ rl_G := rl_inG mt_693 rfl
theorem fl_X12_258 : rl_fl RX12 258 11 44 := ⟨RX12, TX12, 49, rfl, by decide, i_X12, Or.inl mw_693⟩
theorem fp_X12_258 : rl_fp RX12 258 11 44 .int false := ⟨RX12, TX12, 49, tyX12, rfl, by decide, i_X12, tyX12_ok, nmX12, rfl, tyX12_ok 44 (by decide), (fun h => by cases h), Or.inl mw_693⟩
theorem mt_678 : (Cond.fieldLink "RecordLeavesModel" (276 : Nat) "RecordLeavesModel" "goodReads" "I") ∈ lw_tbl := List.mem_append_right _ (List.mem_append_right _ (List.mem_append_right _ (List.mem_append_left _ (List.mem_of_getElem? (i := 198) (by decide +kernel)))))
theorem mw_678 : (Cond.fieldLink "RecordLeavesModel" (276 : Nat) "RecordLeavesModel" "goodReads" "I") ∈ rl_G := rl_inG mt_678 rfl
theorem fl_X12_276 : rl_fl RX12 276 11 29 := ⟨RX12, TX12, 49, rfl, by decide, i_X12, Or.inl mw_678⟩
theorem fp_X12_276 : rl_fp RX12 276 11 29 .int false := ⟨RX12, TX12, 49, tyX12, rfl, by decide, i_X12, tyX12_ok, nmX12, rfl, tyX12_ok 29 (by decide), (fun h => by cases h), Or.inl mw_678⟩
theorem mt_679 : (Cond.fieldLink "RecordLeavesModel" (279 : Nat) "RecordLeavesModel" "badReads" "I") ∈ lw_tbl := List.mem_append_right _ (List.mem_append_right _ (List.mem_append_right _ (List.mem_append_left _ (List.mem_of_getElem? (i := 199) (by decide +kernel)))))
theorem mw_679 : (Cond.fieldLink "RecordLeavesModel" (279 : Nat) "RecordLeavesModel" "badReads" "I") ∈ rl_G := rl_inG mt_679 rfl
theorem fl_X12_279 : rl_fl RX12 279 11 30 := ⟨RX12, TX12, 49, rfl, by decide, i_X12, Or.inl mw_679⟩
theorem fp_X12_279 : rl_fp RX12 279 11 30 .int false := ⟨RX12, TX12, 49, tyX12, rfl, by decide, i_X12, tyX12_ok, nmX12, rfl, tyX12_ok 30 (by decide), (fun h => by cases h), Or.inl mw_679⟩
theorem mt_24 : (Cond.classLink "RecordLeaves" (7 : Nat) "RecordLeaves$Kinds") ∈ lw_tbl := List.mem_append_right _ (List.mem_append_left _ (List.mem_of_getElem? (i := 24) (by decide +kernel)))
theorem mw_24 : (Cond.classLink "RecordLeaves" (7 : Nat) "RecordLeaves$Kinds") ∈ rl_G := rl_inG mt_24 rfl
theorem mt_25 : (Cond.instantiable "RecordLeaves$Kinds" (2 : Nat)) ∈ lw_tbl := List.mem_append_right _ (List.mem_append_left _ (List.mem_of_getElem? (i := 25) (by decide +kernel)))
theorem mw_25 : (Cond.instantiable "RecordLeaves$Kinds" (2 : Nat)) ∈ rl_G := rl_inG mt_25 rfl
theorem mt_2 : (Cond.initialized "RecordLeaves$Kinds") ∈ lw_tbl := List.mem_append_right _ (List.mem_append_left _ (List.mem_of_getElem? (i := 2) (by decide +kernel)))
theorem mw_2 : (Cond.initialized "RecordLeaves$Kinds") ∈ rl_G := rl_inG mt_2 rfl
theorem cn_X11_7 : rl_cn RX11 7 3 2 [.null, .null] := ⟨RX3, TX3, tyX3, rfl, i_X3, tyX3_ok, mw_24, mw_25, mw_2, by decide +kernel⟩
theorem mt_97 : (Cond.classLink "RecordLeaves" (16 : Nat) "RecordLeaves$Thing") ∈ lw_tbl := List.mem_append_right _ (List.mem_append_left _ (List.mem_of_getElem? (i := 97) (by decide +kernel)))
theorem mw_97 : (Cond.classLink "RecordLeaves" (16 : Nat) "RecordLeaves$Thing") ∈ rl_G := rl_inG mt_97 rfl
theorem mt_99 : (Cond.classLink "RecordLeaves" (30 : Nat) "RecordLeaves$Tape") ∈ lw_tbl := List.mem_append_right _ (List.mem_append_left _ (List.mem_of_getElem? (i := 99) (by decide +kernel)))
theorem mw_99 : (Cond.classLink "RecordLeaves" (30 : Nat) "RecordLeaves$Tape") ∈ rl_G := rl_inG mt_99 rfl
theorem mt_100 : (Cond.instantiable "RecordLeaves$Tape" (4 : Nat)) ∈ lw_tbl := List.mem_append_right _ (List.mem_append_left _ (List.mem_of_getElem? (i := 100) (by decide +kernel)))
theorem mw_100 : (Cond.instantiable "RecordLeaves$Tape" (4 : Nat)) ∈ rl_G := rl_inG mt_100 rfl
theorem mt_5 : (Cond.initialized "RecordLeaves$Tape") ∈ lw_tbl := List.mem_append_right _ (List.mem_append_left _ (List.mem_of_getElem? (i := 5) (by decide +kernel)))
theorem mw_5 : (Cond.initialized "RecordLeaves$Tape") ∈ rl_G := rl_inG mt_5 rfl
theorem cn_X11_30 : rl_cn RX11 30 9 4 [.null, .null, .int 0, .int 0] := ⟨RX9, TX9, tyX9, rfl, i_X9, tyX9_ok, mw_99, mw_100, mw_5, by decide +kernel⟩
theorem mt_223 : (Cond.classLink "RecordLeaves" (75 : Nat) "RecordLeaves$Part") ∈ lw_tbl := List.mem_append_right _ (List.mem_append_left _ (List.mem_of_getElem? (i := 223) (by decide +kernel)))
theorem mw_223 : (Cond.classLink "RecordLeaves" (75 : Nat) "RecordLeaves$Part") ∈ rl_G := rl_inG mt_223 rfl
theorem mt_224 : (Cond.instantiable "RecordLeaves$Part" (3 : Nat)) ∈ lw_tbl := List.mem_append_right _ (List.mem_append_left _ (List.mem_of_getElem? (i := 224) (by decide +kernel)))
theorem mw_224 : (Cond.instantiable "RecordLeaves$Part" (3 : Nat)) ∈ rl_G := rl_inG mt_224 rfl
theorem mt_9 : (Cond.initialized "RecordLeaves$Part") ∈ lw_tbl := List.mem_append_right _ (List.mem_append_left _ (List.mem_of_getElem? (i := 9) (by decide +kernel)))
theorem mw_9 : (Cond.initialized "RecordLeaves$Part") ∈ rl_G := rl_inG mt_9 rfl
theorem cn_X11_75 : rl_cn RX11 75 4 3 [.int 0, .int 0, .int 0] := ⟨RX4, TX4, tyX4, rfl, i_X4, tyX4_ok, mw_223, mw_224, mw_9, by decide +kernel⟩
theorem mt_262 : (Cond.classLink "RecordLeaves" (91 : Nat) "RecordLeaves$Check") ∈ lw_tbl := List.mem_append_right _ (List.mem_append_right _ (List.mem_append_left _ (List.mem_of_getElem? (i := 22) (by decide +kernel))))
theorem mw_262 : (Cond.classLink "RecordLeaves" (91 : Nat) "RecordLeaves$Check") ∈ rl_G := rl_inG mt_262 rfl
theorem mt_263 : (Cond.instantiable "RecordLeaves$Check" (3 : Nat)) ∈ lw_tbl := List.mem_append_right _ (List.mem_append_right _ (List.mem_append_left _ (List.mem_of_getElem? (i := 23) (by decide +kernel))))
theorem mw_263 : (Cond.instantiable "RecordLeaves$Check" (3 : Nat)) ∈ rl_G := rl_inG mt_263 rfl
theorem mt_10 : (Cond.initialized "RecordLeaves$Check") ∈ lw_tbl := List.mem_append_right _ (List.mem_append_left _ (List.mem_of_getElem? (i := 10) (by decide +kernel)))
theorem mw_10 : (Cond.initialized "RecordLeaves$Check") ∈ rl_G := rl_inG mt_10 rfl
theorem cn_X11_91 : rl_cn RX11 91 0 3 [.int 0, .int 0, .int 0] := ⟨RX0, TX0, tyX0, rfl, i_X0, tyX0_ok, mw_262, mw_263, mw_10, by decide +kernel⟩
theorem mt_290 : (Cond.classLink "RecordLeaves" (103 : Nat) "RecordLeaves$Row") ∈ lw_tbl := List.mem_append_right _ (List.mem_append_right _ (List.mem_append_left _ (List.mem_of_getElem? (i := 50) (by decide +kernel))))
theorem mw_290 : (Cond.classLink "RecordLeaves" (103 : Nat) "RecordLeaves$Row") ∈ rl_G := rl_inG mt_290 rfl
theorem mt_291 : (Cond.instantiable "RecordLeaves$Row" (1 : Nat)) ∈ lw_tbl := List.mem_append_right _ (List.mem_append_right _ (List.mem_append_left _ (List.mem_of_getElem? (i := 51) (by decide +kernel))))
theorem mw_291 : (Cond.instantiable "RecordLeaves$Row" (1 : Nat)) ∈ rl_G := rl_inG mt_291 rfl
theorem mt_11 : (Cond.initialized "RecordLeaves$Row") ∈ lw_tbl := List.mem_append_right _ (List.mem_append_left _ (List.mem_of_getElem? (i := 11) (by decide +kernel)))
theorem mw_11 : (Cond.initialized "RecordLeaves$Row") ∈ rl_G := rl_inG mt_11 rfl
theorem cn_X11_103 : rl_cn RX11 103 8 1 [.null] := ⟨RX8, TX8, tyX8, rfl, i_X8, tyX8_ok, mw_290, mw_291, mw_11, by decide +kernel⟩
theorem mt_338 : (Cond.classLink "RecordLeaves" (115 : Nat) "RecordLeaves$RecordThing") ∈ lw_tbl := List.mem_append_right _ (List.mem_append_right _ (List.mem_append_left _ (List.mem_of_getElem? (i := 98) (by decide +kernel))))
theorem mw_338 : (Cond.classLink "RecordLeaves" (115 : Nat) "RecordLeaves$RecordThing") ∈ rl_G := rl_inG mt_338 rfl
theorem mt_339 : (Cond.instantiable "RecordLeaves$RecordThing" (3 : Nat)) ∈ lw_tbl := List.mem_append_right _ (List.mem_append_right _ (List.mem_append_left _ (List.mem_of_getElem? (i := 99) (by decide +kernel))))
theorem mw_339 : (Cond.instantiable "RecordLeaves$RecordThing" (3 : Nat)) ∈ rl_G := rl_inG mt_339 rfl
theorem mt_13 : (Cond.initialized "RecordLeaves$RecordThing") ∈ lw_tbl := List.mem_append_right _ (List.mem_append_left _ (List.mem_of_getElem? (i := 13) (by decide +kernel)))
theorem mw_13 : (Cond.initialized "RecordLeaves$RecordThing") ∈ rl_G := rl_inG mt_13 rfl
theorem cn_X11_115 : rl_cn RX11 115 6 3 [.null, .null, .null] := ⟨RX6, TX6, tyX6, rfl, i_X6, tyX6_ok, mw_338, mw_339, mw_13, by decide +kernel⟩
theorem mt_539 : (Cond.classLink "RecordLeaves" (174 : Nat) "RecordLeaves$Reader") ∈ lw_tbl := List.mem_append_right _ (List.mem_append_right _ (List.mem_append_right _ (List.mem_append_left _ (List.mem_of_getElem? (i := 59) (by decide +kernel)))))
theorem mw_539 : (Cond.classLink "RecordLeaves" (174 : Nat) "RecordLeaves$Reader") ∈ rl_G := rl_inG mt_539 rfl
theorem mt_540 : (Cond.instantiable "RecordLeaves$Reader" (8 : Nat)) ∈ lw_tbl := List.mem_append_right _ (List.mem_append_right _ (List.mem_append_right _ (List.mem_append_left _ (List.mem_of_getElem? (i := 60) (by decide +kernel)))))
theorem mw_540 : (Cond.instantiable "RecordLeaves$Reader" (8 : Nat)) ∈ rl_G := rl_inG mt_540 rfl
theorem mt_15 : (Cond.initialized "RecordLeaves$Reader") ∈ lw_tbl := List.mem_append_right _ (List.mem_append_left _ (List.mem_of_getElem? (i := 15) (by decide +kernel)))
theorem mw_15 : (Cond.initialized "RecordLeaves$Reader") ∈ rl_G := rl_inG mt_15 rfl
theorem cn_X11_174 : rl_cn RX11 174 5 8 [.null, .null, .int 0, .int 0, .int 0, .int 0, .int 0, .int 0] := ⟨RX5, TX5, tyX5, rfl, i_X5, tyX5_ok, mw_539, mw_540, mw_15, by decide +kernel⟩
theorem mt_436 : (Cond.classLink "RecordLeaves$Check" (22 : Nat) "RecordLeaves$RecordThing") ∈ lw_tbl := List.mem_append_right _ (List.mem_append_right _ (List.mem_append_left _ (List.mem_of_getElem? (i := 196) (by decide +kernel))))
theorem mw_436 : (Cond.classLink "RecordLeaves$Check" (22 : Nat) "RecordLeaves$RecordThing") ∈ rl_G := rl_inG mt_436 rfl
theorem cn_X0_22 : rl_cn RX0 22 6 3 [.null, .null, .null] := ⟨RX6, TX6, tyX6, rfl, i_X6, tyX6_ok, mw_436, mw_339, mw_13, by decide +kernel⟩
theorem mt_432 : (Cond.classLink "RecordLeaves$Check" (51 : Nat) "RecordLeaves$Row") ∈ lw_tbl := List.mem_append_right _ (List.mem_append_right _ (List.mem_append_left _ (List.mem_of_getElem? (i := 192) (by decide +kernel))))
theorem mw_432 : (Cond.classLink "RecordLeaves$Check" (51 : Nat) "RecordLeaves$Row") ∈ rl_G := rl_inG mt_432 rfl
theorem cn_X0_51 : rl_cn RX0 51 8 1 [.null] := ⟨RX8, TX8, tyX8, rfl, i_X8, tyX8_ok, mw_432, mw_291, mw_11, by decide +kernel⟩
theorem mt_442 : (Cond.classLink "RecordLeaves$Check" (65 : Nat) "RecordLeaves$Constant") ∈ lw_tbl := List.mem_append_right _ (List.mem_append_right _ (List.mem_append_left _ (List.mem_of_getElem? (i := 202) (by decide +kernel))))
theorem mw_442 : (Cond.classLink "RecordLeaves$Check" (65 : Nat) "RecordLeaves$Constant") ∈ rl_G := rl_inG mt_442 rfl
theorem mt_181 : (Cond.instantiable "RecordLeaves$Constant" (4 : Nat)) ∈ lw_tbl := List.mem_append_right _ (List.mem_append_left _ (List.mem_of_getElem? (i := 181) (by decide +kernel)))
theorem mw_181 : (Cond.instantiable "RecordLeaves$Constant" (4 : Nat)) ∈ rl_G := rl_inG mt_181 rfl
theorem mt_8 : (Cond.initialized "RecordLeaves$Constant") ∈ lw_tbl := List.mem_append_right _ (List.mem_append_left _ (List.mem_of_getElem? (i := 8) (by decide +kernel)))
theorem mw_8 : (Cond.initialized "RecordLeaves$Constant") ∈ rl_G := rl_inG mt_8 rfl
theorem cn_X0_65 : rl_cn RX0 65 1 4 [.null, .int 0, .int 0, .int 0] := ⟨RX1, TX1, tyX1, rfl, i_X1, tyX1_ok, mw_442, mw_181, mw_8, by decide +kernel⟩
theorem mt_37 : (Cond.classLink "RecordLeaves$EnumVersion" (18 : Nat) "RecordLeaves$Constant") ∈ lw_tbl := List.mem_append_right _ (List.mem_append_left _ (List.mem_of_getElem? (i := 37) (by decide +kernel)))
theorem mw_37 : (Cond.classLink "RecordLeaves$EnumVersion" (18 : Nat) "RecordLeaves$Constant") ∈ rl_G := rl_inG mt_37 rfl
theorem cn_X2_18 : rl_cn RX2 18 1 4 [.null, .int 0, .int 0, .int 0] := ⟨RX1, TX1, tyX1, rfl, i_X1, tyX1_ok, mw_37, mw_181, mw_8, by decide +kernel⟩
theorem mt_30 : (Cond.classLink "RecordLeaves$Kinds" (9 : Nat) "RecordLeaves$EnumVersion") ∈ lw_tbl := List.mem_append_right _ (List.mem_append_left _ (List.mem_of_getElem? (i := 30) (by decide +kernel)))
theorem mw_30 : (Cond.classLink "RecordLeaves$Kinds" (9 : Nat) "RecordLeaves$EnumVersion") ∈ rl_G := rl_inG mt_30 rfl
theorem mt_32 : (Cond.instantiable "RecordLeaves$EnumVersion" (4 : Nat)) ∈ lw_tbl := List.mem_append_right _ (List.mem_append_left _ (List.mem_of_getElem? (i := 32) (by decide +kernel)))
theorem mw_32 : (Cond.instantiable "RecordLeaves$EnumVersion" (4 : Nat)) ∈ rl_G := rl_inG mt_32 rfl
theorem mt_3 : (Cond.initialized "RecordLeaves$EnumVersion") ∈ lw_tbl := List.mem_append_right _ (List.mem_append_left _ (List.mem_of_getElem? (i := 3) (by decide +kernel)))
theorem mw_3 : (Cond.initialized "RecordLeaves$EnumVersion") ∈ rl_G := rl_inG mt_3 rfl
theorem cn_X3_9 : rl_cn RX3 9 2 4 [.int 0, .int 0, .null, .int 0] := ⟨RX2, TX2, tyX2, rfl, i_X2, tyX2_ok, mw_30, mw_32, mw_3, by decide +kernel⟩
theorem mt_54 : (Cond.classLink "RecordLeaves$Kinds" (20 : Nat) "RecordLeaves$RecordVersion") ∈ lw_tbl := List.mem_append_right _ (List.mem_append_left _ (List.mem_of_getElem? (i := 54) (by decide +kernel)))
theorem mw_54 : (Cond.classLink "RecordLeaves$Kinds" (20 : Nat) "RecordLeaves$RecordVersion") ∈ rl_G := rl_inG mt_54 rfl
theorem mt_56 : (Cond.instantiable "RecordLeaves$RecordVersion" (6 : Nat)) ∈ lw_tbl := List.mem_append_right _ (List.mem_append_left _ (List.mem_of_getElem? (i := 56) (by decide +kernel)))
theorem mw_56 : (Cond.instantiable "RecordLeaves$RecordVersion" (6 : Nat)) ∈ rl_G := rl_inG mt_56 rfl
theorem mt_4 : (Cond.initialized "RecordLeaves$RecordVersion") ∈ lw_tbl := List.mem_append_right _ (List.mem_append_left _ (List.mem_of_getElem? (i := 4) (by decide +kernel)))
theorem mw_4 : (Cond.initialized "RecordLeaves$RecordVersion") ∈ rl_G := rl_inG mt_4 rfl
theorem cn_X3_20 : rl_cn RX3 20 7 6 [.int 0, .int 0, .null, .null, .int 0, .int 0] := ⟨RX7, TX7, tyX7, rfl, i_X7, tyX7_ok, mw_54, mw_56, mw_4, by decide +kernel⟩
theorem mt_391 : (Cond.classLink "RecordLeaves$Part" (34 : Nat) "RecordLeaves$Constant") ∈ lw_tbl := List.mem_append_right _ (List.mem_append_right _ (List.mem_append_left _ (List.mem_of_getElem? (i := 151) (by decide +kernel))))
theorem mw_391 : (Cond.classLink "RecordLeaves$Part" (34 : Nat) "RecordLeaves$Constant") ∈ rl_G := rl_inG mt_391 rfl
theorem cn_X4_34 : rl_cn RX4 34 1 4 [.null, .int 0, .int 0, .int 0] := ⟨RX1, TX1, tyX1, rfl, i_X1, tyX1_ok, mw_391, mw_181, mw_8, by decide +kernel⟩
theorem mt_392 : (Cond.classLink "RecordLeaves$Part" (36 : Nat) "RecordLeaves$RecordThing") ∈ lw_tbl := List.mem_append_right _ (List.mem_append_right _ (List.mem_append_left _ (List.mem_of_getElem? (i := 152) (by decide +kernel))))
theorem mw_392 : (Cond.classLink "RecordLeaves$Part" (36 : Nat) "RecordLeaves$RecordThing") ∈ rl_G := rl_inG mt_392 rfl
theorem cn_X4_36 : rl_cn RX4 36 6 3 [.null, .null, .null] := ⟨RX6, TX6, tyX6, rfl, i_X6, tyX6_ok, mw_392, mw_339, mw_13, by decide +kernel⟩
theorem mt_393 : (Cond.classLink "RecordLeaves$Part" (38 : Nat) "RecordLeaves$Row") ∈ lw_tbl := List.mem_append_right _ (List.mem_append_right _ (List.mem_append_left _ (List.mem_of_getElem? (i := 153) (by decide +kernel))))
theorem mw_393 : (Cond.classLink "RecordLeaves$Part" (38 : Nat) "RecordLeaves$Row") ∈ rl_G := rl_inG mt_393 rfl
theorem cn_X4_38 : rl_cn RX4 38 8 1 [.null] := ⟨RX8, TX8, tyX8, rfl, i_X8, tyX8_ok, mw_393, mw_291, mw_11, by decide +kernel⟩
theorem mt_587 : (Cond.classLink "RecordLeaves$Reader" (58 : Nat) "RecordLeaves$RecordThing") ∈ lw_tbl := List.mem_append_right _ (List.mem_append_right _ (List.mem_append_right _ (List.mem_append_left _ (List.mem_of_getElem? (i := 107) (by decide +kernel)))))
theorem mw_587 : (Cond.classLink "RecordLeaves$Reader" (58 : Nat) "RecordLeaves$RecordThing") ∈ rl_G := rl_inG mt_587 rfl
theorem cn_X5_58 : rl_cn RX5 58 6 3 [.null, .null, .null] := ⟨RX6, TX6, tyX6, rfl, i_X6, tyX6_ok, mw_587, mw_339, mw_13, by decide +kernel⟩
theorem mt_616 : (Cond.classLink "RecordLeaves$Reader" (144 : Nat) "RecordLeaves$Row") ∈ lw_tbl := List.mem_append_right _ (List.mem_append_right _ (List.mem_append_right _ (List.mem_append_left _ (List.mem_of_getElem? (i := 136) (by decide +kernel)))))
theorem mw_616 : (Cond.classLink "RecordLeaves$Reader" (144 : Nat) "RecordLeaves$Row") ∈ rl_G := rl_inG mt_616 rfl
theorem cn_X5_144 : rl_cn RX5 144 8 1 [.null] := ⟨RX8, TX8, tyX8, rfl, i_X8, tyX8_ok, mw_616, mw_291, mw_11, by decide +kernel⟩
theorem mt_344 : (Cond.classLink "RecordLeaves$RecordThing" (4 : Nat) "RecordLeaves$Thing") ∈ lw_tbl := List.mem_append_right _ (List.mem_append_right _ (List.mem_append_left _ (List.mem_of_getElem? (i := 104) (by decide +kernel))))
theorem mw_344 : (Cond.classLink "RecordLeaves$RecordThing" (4 : Nat) "RecordLeaves$Thing") ∈ rl_G := rl_inG mt_344 rfl
theorem mt_61 : (Cond.classLink "RecordLeaves$RecordVersion" (18 : Nat) "RecordLeaves$Part") ∈ lw_tbl := List.mem_append_right _ (List.mem_append_left _ (List.mem_of_getElem? (i := 61) (by decide +kernel)))
theorem mw_61 : (Cond.classLink "RecordLeaves$RecordVersion" (18 : Nat) "RecordLeaves$Part") ∈ rl_G := rl_inG mt_61 rfl
theorem cn_X7_18 : rl_cn RX7 18 4 3 [.int 0, .int 0, .int 0] := ⟨RX4, TX4, tyX4, rfl, i_X4, tyX4_ok, mw_61, mw_224, mw_9, by decide +kernel⟩
theorem mt_63 : (Cond.classLink "RecordLeaves$RecordVersion" (24 : Nat) "RecordLeaves$Check") ∈ lw_tbl := List.mem_append_right _ (List.mem_append_left _ (List.mem_of_getElem? (i := 63) (by decide +kernel)))
theorem mw_63 : (Cond.classLink "RecordLeaves$RecordVersion" (24 : Nat) "RecordLeaves$Check") ∈ rl_G := rl_inG mt_63 rfl
theorem cn_X7_24 : rl_cn RX7 24 0 3 [.int 0, .int 0, .int 0] := ⟨RX0, TX0, tyX0, rfl, i_X0, tyX0_ok, mw_63, mw_263, mw_10, by decide +kernel⟩
theorem mt_512 : (Cond.classLink "RecordLeaves$Tape" (42 : Nat) "RecordLeaves$RecordThing") ∈ lw_tbl := List.mem_append_right _ (List.mem_append_right _ (List.mem_append_right _ (List.mem_append_left _ (List.mem_of_getElem? (i := 32) (by decide +kernel)))))
theorem mw_512 : (Cond.classLink "RecordLeaves$Tape" (42 : Nat) "RecordLeaves$RecordThing") ∈ rl_G := rl_inG mt_512 rfl
theorem cn_X9_42 : rl_cn RX9 42 6 3 [.null, .null, .null] := ⟨RX6, TX6, tyX6, rfl, i_X6, tyX6_ok, mw_512, mw_339, mw_13, by decide +kernel⟩
theorem mt_511 : (Cond.classLink "RecordLeaves$Tape" (87 : Nat) "RecordLeaves$Constant") ∈ lw_tbl := List.mem_append_right _ (List.mem_append_right _ (List.mem_append_right _ (List.mem_append_left _ (List.mem_of_getElem? (i := 31) (by decide +kernel)))))
theorem mw_511 : (Cond.classLink "RecordLeaves$Tape" (87 : Nat) "RecordLeaves$Constant") ∈ rl_G := rl_inG mt_511 rfl
theorem cn_X9_87 : rl_cn RX9 87 1 4 [.null, .int 0, .int 0, .int 0] := ⟨RX1, TX1, tyX1, rfl, i_X1, tyX1_ok, mw_511, mw_181, mw_8, by decide +kernel⟩
theorem mt_513 : (Cond.classLink "RecordLeaves$Tape" (90 : Nat) "RecordLeaves$Row") ∈ lw_tbl := List.mem_append_right _ (List.mem_append_right _ (List.mem_append_right _ (List.mem_append_left _ (List.mem_of_getElem? (i := 33) (by decide +kernel)))))
theorem mw_513 : (Cond.classLink "RecordLeaves$Tape" (90 : Nat) "RecordLeaves$Row") ∈ rl_G := rl_inG mt_513 rfl
theorem cn_X9_90 : rl_cn RX9 90 8 1 [.null] := ⟨RX8, TX8, tyX8, rfl, i_X8, tyX8_ok, mw_513, mw_291, mw_11, by decide +kernel⟩
theorem mt_16 : (Cond.classLink "RecordLeavesLaw" (7 : Nat) "RecordLeaves") ∈ lw_tbl := List.mem_append_right _ (List.mem_append_left _ (List.mem_of_getElem? (i := 16) (by decide +kernel)))
theorem mw_16 : (Cond.classLink "RecordLeavesLaw" (7 : Nat) "RecordLeaves") ∈ rl_G := rl_inG mt_16 rfl
theorem mt_17 : (Cond.instantiable "RecordLeaves" (12 : Nat)) ∈ lw_tbl := List.mem_append_right _ (List.mem_append_left _ (List.mem_of_getElem? (i := 17) (by decide +kernel)))
theorem mw_17 : (Cond.instantiable "RecordLeaves" (12 : Nat)) ∈ rl_G := rl_inG mt_17 rfl
theorem mt_1 : (Cond.initialized "RecordLeaves") ∈ lw_tbl := List.mem_append_right _ (List.mem_append_left _ (List.mem_of_getElem? (i := 1) (by decide +kernel)))
theorem mw_1 : (Cond.initialized "RecordLeaves") ∈ rl_G := rl_inG mt_1 rfl
theorem cn_L_7 : rl_cn RL 7 10 12 [.null, .null, .null, .null, .null, .int 0, .int 0, .int 0, .int 0, .int 0, .int 0, .int 0] := ⟨RX11, TX11, tyX11, rfl, i_X11, tyX11_ok, mw_16, mw_17, mw_1, by decide +kernel⟩
theorem mt_640 : (Cond.classLink "RecordLeavesLaw" (10 : Nat) "RecordLeavesModel") ∈ lw_tbl := List.mem_append_right _ (List.mem_append_right _ (List.mem_append_right _ (List.mem_append_left _ (List.mem_of_getElem? (i := 160) (by decide +kernel)))))
theorem mw_640 : (Cond.classLink "RecordLeavesLaw" (10 : Nat) "RecordLeavesModel") ∈ rl_G := rl_inG mt_640 rfl
theorem mt_641 : (Cond.instantiable "RecordLeavesModel" (49 : Nat)) ∈ lw_tbl := List.mem_append_right _ (List.mem_append_right _ (List.mem_append_right _ (List.mem_append_left _ (List.mem_of_getElem? (i := 161) (by decide +kernel)))))
theorem mw_641 : (Cond.instantiable "RecordLeavesModel" (49 : Nat)) ∈ rl_G := rl_inG mt_641 rfl
theorem mt_6 : (Cond.initialized "RecordLeavesModel") ∈ lw_tbl := List.mem_append_right _ (List.mem_append_left _ (List.mem_of_getElem? (i := 6) (by decide +kernel)))
theorem mw_6 : (Cond.initialized "RecordLeavesModel") ∈ rl_G := rl_inG mt_6 rfl
theorem cn_L_10 : rl_cn RL 10 11 49 [.null, .null, .null, .null, .null, .null, .null, .null, .null, .null, .null, .int 0, .null, .null, .int 0, .null, .null, .null, .null, .null, .null, .null, .int 0, .null, .int 0, .int 0, .int 0, .int 0, .int 0, .int 0, .int 0, .null, .null, .int 0, .null, .null, .null, .int 0, .null, .null, .null, .int 0, .int 0, .int 0, .int 0, .int 0, .null, .null, .null] := ⟨RX12, TX12, tyX12, rfl, i_X12, tyX12_ok, mw_640, mw_641, mw_6, by decide +kernel⟩
theorem mt_20 : (Cond.code ({ cls := "RecordLeaves", name := "<init>", desc := "()V" } : MethodName) prog_1_method_1_code (1 : Nat) (Option.none : Option FieldType)) ∈ lw_tbl := List.mem_append_right _ (List.mem_append_left _ (List.mem_of_getElem? (i := 20) (rfl)))
theorem mw_20 : (Cond.code ({ cls := "RecordLeaves", name := "<init>", desc := "()V" } : MethodName) prog_1_method_1_code (1 : Nat) (Option.none : Option FieldType)) ∈ rl_G := rl_inG mt_20 rfl
theorem co_X11_init : Cond.code yX11_init cX11_init 1 none ∈ rl_G := mw_20
theorem mt_19 : (Cond.instanceMethod ({ cls := "RecordLeaves", name := "<init>", desc := "()V" } : MethodName)) ∈ lw_tbl := List.mem_append_right _ (List.mem_append_left _ (List.mem_of_getElem? (i := 19) (by decide +kernel)))
theorem mw_19 : (Cond.instanceMethod ({ cls := "RecordLeaves", name := "<init>", desc := "()V" } : MethodName)) ∈ rl_G := rl_inG mt_19 rfl
theorem im_X11_init : Cond.instanceMethod yX11_init ∈ rl_G := mw_19
theorem mt_28 : (Cond.code ({ cls := "RecordLeaves$Kinds", name := "<init>", desc := "()V" } : MethodName) prog_5_method_1_code (2 : Nat) (Option.none : Option FieldType)) ∈ lw_tbl := List.mem_append_right _ (List.mem_append_left _ (List.mem_of_getElem? (i := 28) (rfl)))
theorem mw_28 : (Cond.code ({ cls := "RecordLeaves$Kinds", name := "<init>", desc := "()V" } : MethodName) prog_5_method_1_code (2 : Nat) (Option.none : Option FieldType)) ∈ rl_G := rl_inG mt_28 rfl
theorem co_X3_init : Cond.code yX3_init cX3_init 2 none ∈ rl_G := mw_28
theorem mt_27 : (Cond.instanceMethod ({ cls := "RecordLeaves$Kinds", name := "<init>", desc := "()V" } : MethodName)) ∈ lw_tbl := List.mem_append_right _ (List.mem_append_left _ (List.mem_of_getElem? (i := 27) (by decide +kernel)))
theorem mw_27 : (Cond.instanceMethod ({ cls := "RecordLeaves$Kinds", name := "<init>", desc := "()V" } : MethodName)) ∈ rl_G := rl_inG mt_27 rfl
theorem im_X3_init : Cond.instanceMethod yX3_init ∈ rl_G := mw_27
theorem mt_35 : (Cond.code ({ cls := "RecordLeaves$EnumVersion", name := "<init>", desc := "(II)V" } : MethodName) prog_4_method_1_code (3 : Nat) (Option.none : Option FieldType)) ∈ lw_tbl := List.mem_append_right _ (List.mem_append_left _ (List.mem_of_getElem? (i := 35) (rfl)))
theorem mw_35 : (Cond.code ({ cls := "RecordLeaves$EnumVersion", name := "<init>", desc := "(II)V" } : MethodName) prog_4_method_1_code (3 : Nat) (Option.none : Option FieldType)) ∈ rl_G := rl_inG mt_35 rfl
theorem co_X2_init : Cond.code yX2_init cX2_init 3 none ∈ rl_G := mw_35
theorem mt_34 : (Cond.instanceMethod ({ cls := "RecordLeaves$EnumVersion", name := "<init>", desc := "(II)V" } : MethodName)) ∈ lw_tbl := List.mem_append_right _ (List.mem_append_left _ (List.mem_of_getElem? (i := 34) (by decide +kernel)))
theorem mw_34 : (Cond.instanceMethod ({ cls := "RecordLeaves$EnumVersion", name := "<init>", desc := "(II)V" } : MethodName)) ∈ rl_G := rl_inG mt_34 rfl
theorem im_X2_init : Cond.instanceMethod yX2_init ∈ rl_G := mw_34
theorem mt_59 : (Cond.code ({ cls := "RecordLeaves$RecordVersion", name := "<init>", desc := "(II)V" } : MethodName) prog_9_method_1_code (3 : Nat) (Option.none : Option FieldType)) ∈ lw_tbl := List.mem_append_right _ (List.mem_append_left _ (List.mem_of_getElem? (i := 59) (rfl)))
theorem mw_59 : (Cond.code ({ cls := "RecordLeaves$RecordVersion", name := "<init>", desc := "(II)V" } : MethodName) prog_9_method_1_code (3 : Nat) (Option.none : Option FieldType)) ∈ rl_G := rl_inG mt_59 rfl
theorem co_X7_init : Cond.code yX7_init cX7_init 3 none ∈ rl_G := mw_59
theorem mt_58 : (Cond.instanceMethod ({ cls := "RecordLeaves$RecordVersion", name := "<init>", desc := "(II)V" } : MethodName)) ∈ lw_tbl := List.mem_append_right _ (List.mem_append_left _ (List.mem_of_getElem? (i := 58) (by decide +kernel)))
theorem mw_58 : (Cond.instanceMethod ({ cls := "RecordLeaves$RecordVersion", name := "<init>", desc := "(II)V" } : MethodName)) ∈ rl_G := rl_inG mt_58 rfl
theorem im_X7_init : Cond.instanceMethod yX7_init ∈ rl_G := mw_58
theorem mt_103 : (Cond.code ({ cls := "RecordLeaves$Tape", name := "<init>", desc := "()V" } : MethodName) prog_11_method_1_code (1 : Nat) (Option.none : Option FieldType)) ∈ lw_tbl := List.mem_append_right _ (List.mem_append_left _ (List.mem_of_getElem? (i := 103) (rfl)))
theorem mw_103 : (Cond.code ({ cls := "RecordLeaves$Tape", name := "<init>", desc := "()V" } : MethodName) prog_11_method_1_code (1 : Nat) (Option.none : Option FieldType)) ∈ rl_G := rl_inG mt_103 rfl
theorem co_X9_init : Cond.code yX9_init cX9_init 1 none ∈ rl_G := mw_103
theorem mt_102 : (Cond.instanceMethod ({ cls := "RecordLeaves$Tape", name := "<init>", desc := "()V" } : MethodName)) ∈ lw_tbl := List.mem_append_right _ (List.mem_append_left _ (List.mem_of_getElem? (i := 102) (by decide +kernel)))
theorem mw_102 : (Cond.instanceMethod ({ cls := "RecordLeaves$Tape", name := "<init>", desc := "()V" } : MethodName)) ∈ rl_G := rl_inG mt_102 rfl
theorem im_X9_init : Cond.instanceMethod yX9_init ∈ rl_G := mw_102
theorem mt_164 : (Cond.code ({ cls := "RecordLeaves", name := "constant", desc := "(IIIZ)I" } : MethodName) prog_1_method_2_code (6 : Nat) (Option.some FieldType.int)) ∈ lw_tbl := List.mem_append_right _ (List.mem_append_left _ (List.mem_of_getElem? (i := 164) (rfl)))
theorem mw_164 : (Cond.code ({ cls := "RecordLeaves", name := "constant", desc := "(IIIZ)I" } : MethodName) prog_1_method_2_code (6 : Nat) (Option.some FieldType.int)) ∈ rl_G := rl_inG mt_164 rfl
theorem co_X11_constant : Cond.code yX11_constant cX11_constant 6 (some FieldType.int) ∈ rl_G := mw_164
theorem mt_162 : (Cond.instanceMethod ({ cls := "RecordLeaves", name := "constant", desc := "(IIIZ)I" } : MethodName)) ∈ lw_tbl := List.mem_append_right _ (List.mem_append_left _ (List.mem_of_getElem? (i := 162) (by decide +kernel)))
theorem mw_162 : (Cond.instanceMethod ({ cls := "RecordLeaves", name := "constant", desc := "(IIIZ)I" } : MethodName)) ∈ rl_G := rl_inG mt_162 rfl
theorem im_X11_constant : Cond.instanceMethod yX11_constant ∈ rl_G := mw_162
theorem mt_163 : (Cond.selects "RecordLeaves" ({ cls := "RecordLeaves", name := "constant", desc := "(IIIZ)I" } : MethodName) ({ cls := "RecordLeaves", name := "constant", desc := "(IIIZ)I" } : MethodName)) ∈ lw_tbl := List.mem_append_right _ (List.mem_append_left _ (List.mem_of_getElem? (i := 163) (by decide +kernel)))
theorem sl_X11_constant : Cond.selects yX11_constant.cls yX11_constant yX11_constant ∈ lw_tbl := mt_163
theorem mt_168 : (Cond.code ({ cls := "RecordLeaves$Kinds", name := "enumVersion", desc := "(II)LRecordLeaves$EnumVersion;" } : MethodName) prog_5_method_2_code (4 : Nat) (Option.some (FieldType.object "RecordLeaves$EnumVersion"))) ∈ lw_tbl := List.mem_append_right _ (List.mem_append_left _ (List.mem_of_getElem? (i := 168) (rfl)))
theorem mw_168 : (Cond.code ({ cls := "RecordLeaves$Kinds", name := "enumVersion", desc := "(II)LRecordLeaves$EnumVersion;" } : MethodName) prog_5_method_2_code (4 : Nat) (Option.some (FieldType.object "RecordLeaves$EnumVersion"))) ∈ rl_G := rl_inG mt_168 rfl
theorem co_X3_enumVersion : Cond.code yX3_enumVersion cX3_enumVersion 4 (some (FieldType.object "RecordLeaves$EnumVersion")) ∈ rl_G := mw_168
theorem mt_166 : (Cond.instanceMethod ({ cls := "RecordLeaves$Kinds", name := "enumVersion", desc := "(II)LRecordLeaves$EnumVersion;" } : MethodName)) ∈ lw_tbl := List.mem_append_right _ (List.mem_append_left _ (List.mem_of_getElem? (i := 166) (by decide +kernel)))
theorem mw_166 : (Cond.instanceMethod ({ cls := "RecordLeaves$Kinds", name := "enumVersion", desc := "(II)LRecordLeaves$EnumVersion;" } : MethodName)) ∈ rl_G := rl_inG mt_166 rfl
theorem im_X3_enumVersion : Cond.instanceMethod yX3_enumVersion ∈ rl_G := mw_166
theorem mt_167 : (Cond.selects "RecordLeaves$Kinds" ({ cls := "RecordLeaves$Kinds", name := "enumVersion", desc := "(II)LRecordLeaves$EnumVersion;" } : MethodName) ({ cls := "RecordLeaves$Kinds", name := "enumVersion", desc := "(II)LRecordLeaves$EnumVersion;" } : MethodName)) ∈ lw_tbl := List.mem_append_right _ (List.mem_append_left _ (List.mem_of_getElem? (i := 167) (by decide +kernel)))
theorem sl_X3_enumVersion : Cond.selects yX3_enumVersion.cls yX3_enumVersion yX3_enumVersion ∈ lw_tbl := mt_167
theorem mt_171 : (Cond.code ({ cls := "RecordLeaves", name := "below", desc := "(II)Z" } : MethodName) prog_1_method_25_code (2 : Nat) (Option.some FieldType.boolean)) ∈ lw_tbl := List.mem_append_right _ (List.mem_append_left _ (List.mem_of_getElem? (i := 171) (rfl)))
theorem mw_171 : (Cond.code ({ cls := "RecordLeaves", name := "below", desc := "(II)Z" } : MethodName) prog_1_method_25_code (2 : Nat) (Option.some FieldType.boolean)) ∈ rl_G := rl_inG mt_171 rfl
theorem co_X11_below : Cond.code yX11_below cX11_below 2 (some FieldType.boolean) ∈ rl_G := mw_171
theorem mt_170 : (Cond.static ({ cls := "RecordLeaves", name := "below", desc := "(II)Z" } : MethodName)) ∈ lw_tbl := List.mem_append_right _ (List.mem_append_left _ (List.mem_of_getElem? (i := 170) (by decide +kernel)))
theorem mw_170 : (Cond.static ({ cls := "RecordLeaves", name := "below", desc := "(II)Z" } : MethodName)) ∈ rl_G := rl_inG mt_170 rfl
theorem sm_X11_below : Cond.static yX11_below ∈ rl_G := mw_170
theorem mt_176 : (Cond.code ({ cls := "RecordLeaves$EnumVersion", name := "named", desc := "(J)LRecordLeaves$Constant;" } : MethodName) prog_4_method_2_code (4 : Nat) (Option.some (FieldType.object "RecordLeaves$Constant"))) ∈ lw_tbl := List.mem_append_right _ (List.mem_append_left _ (List.mem_of_getElem? (i := 176) (rfl)))
theorem mw_176 : (Cond.code ({ cls := "RecordLeaves$EnumVersion", name := "named", desc := "(J)LRecordLeaves$Constant;" } : MethodName) prog_4_method_2_code (4 : Nat) (Option.some (FieldType.object "RecordLeaves$Constant"))) ∈ rl_G := rl_inG mt_176 rfl
theorem co_X2_named : Cond.code yX2_named cX2_named 4 (some (FieldType.object "RecordLeaves$Constant")) ∈ rl_G := mw_176
theorem mt_174 : (Cond.instanceMethod ({ cls := "RecordLeaves$EnumVersion", name := "named", desc := "(J)LRecordLeaves$Constant;" } : MethodName)) ∈ lw_tbl := List.mem_append_right _ (List.mem_append_left _ (List.mem_of_getElem? (i := 174) (by decide +kernel)))
theorem mw_174 : (Cond.instanceMethod ({ cls := "RecordLeaves$EnumVersion", name := "named", desc := "(J)LRecordLeaves$Constant;" } : MethodName)) ∈ rl_G := rl_inG mt_174 rfl
theorem im_X2_named : Cond.instanceMethod yX2_named ∈ rl_G := mw_174
theorem mt_175 : (Cond.selects "RecordLeaves$EnumVersion" ({ cls := "RecordLeaves$EnumVersion", name := "named", desc := "(J)LRecordLeaves$Constant;" } : MethodName) ({ cls := "RecordLeaves$EnumVersion", name := "named", desc := "(J)LRecordLeaves$Constant;" } : MethodName)) ∈ lw_tbl := List.mem_append_right _ (List.mem_append_left _ (List.mem_of_getElem? (i := 175) (by decide +kernel)))
theorem sl_X2_named : Cond.selects yX2_named.cls yX2_named yX2_named ∈ lw_tbl := mt_175
theorem mt_180 : (Cond.code ({ cls := "RecordLeaves$EnumVersion", name := "add", desc := "(IZ)I" } : MethodName) prog_4_method_3_code (3 : Nat) (Option.some FieldType.int)) ∈ lw_tbl := List.mem_append_right _ (List.mem_append_left _ (List.mem_of_getElem? (i := 180) (rfl)))
theorem mw_180 : (Cond.code ({ cls := "RecordLeaves$EnumVersion", name := "add", desc := "(IZ)I" } : MethodName) prog_4_method_3_code (3 : Nat) (Option.some FieldType.int)) ∈ rl_G := rl_inG mt_180 rfl
theorem co_X2_add : Cond.code yX2_add cX2_add 3 (some FieldType.int) ∈ rl_G := mw_180
theorem mt_178 : (Cond.instanceMethod ({ cls := "RecordLeaves$EnumVersion", name := "add", desc := "(IZ)I" } : MethodName)) ∈ lw_tbl := List.mem_append_right _ (List.mem_append_left _ (List.mem_of_getElem? (i := 178) (by decide +kernel)))
theorem mw_178 : (Cond.instanceMethod ({ cls := "RecordLeaves$EnumVersion", name := "add", desc := "(IZ)I" } : MethodName)) ∈ rl_G := rl_inG mt_178 rfl
theorem im_X2_add : Cond.instanceMethod yX2_add ∈ rl_G := mw_178
theorem mt_179 : (Cond.selects "RecordLeaves$EnumVersion" ({ cls := "RecordLeaves$EnumVersion", name := "add", desc := "(IZ)I" } : MethodName) ({ cls := "RecordLeaves$EnumVersion", name := "add", desc := "(IZ)I" } : MethodName)) ∈ lw_tbl := List.mem_append_right _ (List.mem_append_left _ (List.mem_of_getElem? (i := 179) (by decide +kernel)))
theorem sl_X2_add : Cond.selects yX2_add.cls yX2_add yX2_add ∈ lw_tbl := mt_179
theorem mt_184 : (Cond.code ({ cls := "RecordLeaves$Constant", name := "<init>", desc := "(LRecordLeaves$EnumVersion;IIZ)V" } : MethodName) prog_3_method_1_code (5 : Nat) (Option.none : Option FieldType)) ∈ lw_tbl := List.mem_append_right _ (List.mem_append_left _ (List.mem_of_getElem? (i := 184) (rfl)))
theorem mw_184 : (Cond.code ({ cls := "RecordLeaves$Constant", name := "<init>", desc := "(LRecordLeaves$EnumVersion;IIZ)V" } : MethodName) prog_3_method_1_code (5 : Nat) (Option.none : Option FieldType)) ∈ rl_G := rl_inG mt_184 rfl
theorem co_X1_init : Cond.code yX1_init cX1_init 5 none ∈ rl_G := mw_184
theorem mt_183 : (Cond.instanceMethod ({ cls := "RecordLeaves$Constant", name := "<init>", desc := "(LRecordLeaves$EnumVersion;IIZ)V" } : MethodName)) ∈ lw_tbl := List.mem_append_right _ (List.mem_append_left _ (List.mem_of_getElem? (i := 183) (by decide +kernel)))
theorem mw_183 : (Cond.instanceMethod ({ cls := "RecordLeaves$Constant", name := "<init>", desc := "(LRecordLeaves$EnumVersion;IIZ)V" } : MethodName)) ∈ rl_G := rl_inG mt_183 rfl
theorem im_X1_init : Cond.instanceMethod yX1_init ∈ rl_G := mw_183
theorem mt_187 : (Cond.code ({ cls := "RecordLeaves$Thing", name := "<init>", desc := "()V" } : MethodName) prog_12_method_1_code (1 : Nat) (Option.none : Option FieldType)) ∈ lw_tbl := List.mem_append_right _ (List.mem_append_left _ (List.mem_of_getElem? (i := 187) (rfl)))
theorem mw_187 : (Cond.code ({ cls := "RecordLeaves$Thing", name := "<init>", desc := "()V" } : MethodName) prog_12_method_1_code (1 : Nat) (Option.none : Option FieldType)) ∈ rl_G := rl_inG mt_187 rfl
theorem co_X10_init : Cond.code yX10_init cX10_init 1 none ∈ rl_G := mw_187
theorem mt_186 : (Cond.instanceMethod ({ cls := "RecordLeaves$Thing", name := "<init>", desc := "()V" } : MethodName)) ∈ lw_tbl := List.mem_append_right _ (List.mem_append_left _ (List.mem_of_getElem? (i := 186) (by decide +kernel)))
theorem mw_186 : (Cond.instanceMethod ({ cls := "RecordLeaves$Thing", name := "<init>", desc := "()V" } : MethodName)) ∈ rl_G := rl_inG mt_186 rfl
theorem im_X10_init : Cond.instanceMethod yX10_init ∈ rl_G := mw_186
theorem mt_209 : (Cond.code ({ cls := "RecordLeaves", name := "part", desc := "(IIIII)I" } : MethodName) prog_1_method_3_code (7 : Nat) (Option.some FieldType.int)) ∈ lw_tbl := List.mem_append_right _ (List.mem_append_left _ (List.mem_of_getElem? (i := 209) (rfl)))
theorem mw_209 : (Cond.code ({ cls := "RecordLeaves", name := "part", desc := "(IIIII)I" } : MethodName) prog_1_method_3_code (7 : Nat) (Option.some FieldType.int)) ∈ rl_G := rl_inG mt_209 rfl
theorem co_X11_part : Cond.code yX11_part cX11_part 7 (some FieldType.int) ∈ rl_G := mw_209
theorem mt_207 : (Cond.instanceMethod ({ cls := "RecordLeaves", name := "part", desc := "(IIIII)I" } : MethodName)) ∈ lw_tbl := List.mem_append_right _ (List.mem_append_left _ (List.mem_of_getElem? (i := 207) (by decide +kernel)))
theorem mw_207 : (Cond.instanceMethod ({ cls := "RecordLeaves", name := "part", desc := "(IIIII)I" } : MethodName)) ∈ rl_G := rl_inG mt_207 rfl
theorem im_X11_part : Cond.instanceMethod yX11_part ∈ rl_G := mw_207
theorem mt_208 : (Cond.selects "RecordLeaves" ({ cls := "RecordLeaves", name := "part", desc := "(IIIII)I" } : MethodName) ({ cls := "RecordLeaves", name := "part", desc := "(IIIII)I" } : MethodName)) ∈ lw_tbl := List.mem_append_right _ (List.mem_append_left _ (List.mem_of_getElem? (i := 208) (by decide +kernel)))
theorem sl_X11_part : Cond.selects yX11_part.cls yX11_part yX11_part ∈ lw_tbl := mt_208
theorem mt_213 : (Cond.code ({ cls := "RecordLeaves$Kinds", name := "recordVersion", desc := "(JI)LRecordLeaves$RecordVersion;" } : MethodName) prog_5_method_3_code (5 : Nat) (Option.some (FieldType.object "RecordLeaves$RecordVersion"))) ∈ lw_tbl := List.mem_append_right _ (List.mem_append_left _ (List.mem_of_getElem? (i := 213) (rfl)))
theorem mw_213 : (Cond.code ({ cls := "RecordLeaves$Kinds", name := "recordVersion", desc := "(JI)LRecordLeaves$RecordVersion;" } : MethodName) prog_5_method_3_code (5 : Nat) (Option.some (FieldType.object "RecordLeaves$RecordVersion"))) ∈ rl_G := rl_inG mt_213 rfl
theorem co_X3_recordVersion : Cond.code yX3_recordVersion cX3_recordVersion 5 (some (FieldType.object "RecordLeaves$RecordVersion")) ∈ rl_G := mw_213
theorem mt_211 : (Cond.instanceMethod ({ cls := "RecordLeaves$Kinds", name := "recordVersion", desc := "(JI)LRecordLeaves$RecordVersion;" } : MethodName)) ∈ lw_tbl := List.mem_append_right _ (List.mem_append_left _ (List.mem_of_getElem? (i := 211) (by decide +kernel)))
theorem mw_211 : (Cond.instanceMethod ({ cls := "RecordLeaves$Kinds", name := "recordVersion", desc := "(JI)LRecordLeaves$RecordVersion;" } : MethodName)) ∈ rl_G := rl_inG mt_211 rfl
theorem im_X3_recordVersion : Cond.instanceMethod yX3_recordVersion ∈ rl_G := mw_211
theorem mt_212 : (Cond.selects "RecordLeaves$Kinds" ({ cls := "RecordLeaves$Kinds", name := "recordVersion", desc := "(JI)LRecordLeaves$RecordVersion;" } : MethodName) ({ cls := "RecordLeaves$Kinds", name := "recordVersion", desc := "(JI)LRecordLeaves$RecordVersion;" } : MethodName)) ∈ lw_tbl := List.mem_append_right _ (List.mem_append_left _ (List.mem_of_getElem? (i := 212) (by decide +kernel)))
theorem sl_X3_recordVersion : Cond.selects yX3_recordVersion.cls yX3_recordVersion yX3_recordVersion ∈ lw_tbl := mt_212
theorem mt_218 : (Cond.code ({ cls := "RecordLeaves", name := "mayBeOf", desc := "(II)Z" } : MethodName) prog_1_method_26_code (2 : Nat) (Option.some FieldType.boolean)) ∈ lw_tbl := List.mem_append_right _ (List.mem_append_left _ (List.mem_of_getElem? (i := 218) (rfl)))
theorem mw_218 : (Cond.code ({ cls := "RecordLeaves", name := "mayBeOf", desc := "(II)Z" } : MethodName) prog_1_method_26_code (2 : Nat) (Option.some FieldType.boolean)) ∈ rl_G := rl_inG mt_218 rfl
theorem co_X11_mayBeOf : Cond.code yX11_mayBeOf cX11_mayBeOf 2 (some FieldType.boolean) ∈ rl_G := mw_218
theorem mt_217 : (Cond.static ({ cls := "RecordLeaves", name := "mayBeOf", desc := "(II)Z" } : MethodName)) ∈ lw_tbl := List.mem_append_right _ (List.mem_append_left _ (List.mem_of_getElem? (i := 217) (by decide +kernel)))
theorem mw_217 : (Cond.static ({ cls := "RecordLeaves", name := "mayBeOf", desc := "(II)Z" } : MethodName)) ∈ rl_G := rl_inG mt_217 rfl
theorem sm_X11_mayBeOf : Cond.static yX11_mayBeOf ∈ rl_G := mw_217
theorem mt_222 : (Cond.code ({ cls := "RecordLeaves$RecordVersion", name := "partNamed", desc := "(J)I" } : MethodName) prog_9_method_2_code (4 : Nat) (Option.some FieldType.int)) ∈ lw_tbl := List.mem_append_right _ (List.mem_append_left _ (List.mem_of_getElem? (i := 222) (rfl)))
theorem mw_222 : (Cond.code ({ cls := "RecordLeaves$RecordVersion", name := "partNamed", desc := "(J)I" } : MethodName) prog_9_method_2_code (4 : Nat) (Option.some FieldType.int)) ∈ rl_G := rl_inG mt_222 rfl
theorem co_X7_partNamed : Cond.code yX7_partNamed cX7_partNamed 4 (some FieldType.int) ∈ rl_G := mw_222
theorem mt_220 : (Cond.instanceMethod ({ cls := "RecordLeaves$RecordVersion", name := "partNamed", desc := "(J)I" } : MethodName)) ∈ lw_tbl := List.mem_append_right _ (List.mem_append_left _ (List.mem_of_getElem? (i := 220) (by decide +kernel)))
theorem mw_220 : (Cond.instanceMethod ({ cls := "RecordLeaves$RecordVersion", name := "partNamed", desc := "(J)I" } : MethodName)) ∈ rl_G := rl_inG mt_220 rfl
theorem im_X7_partNamed : Cond.instanceMethod yX7_partNamed ∈ rl_G := mw_220
theorem mt_221 : (Cond.selects "RecordLeaves$RecordVersion" ({ cls := "RecordLeaves$RecordVersion", name := "partNamed", desc := "(J)I" } : MethodName) ({ cls := "RecordLeaves$RecordVersion", name := "partNamed", desc := "(J)I" } : MethodName)) ∈ lw_tbl := List.mem_append_right _ (List.mem_append_left _ (List.mem_of_getElem? (i := 221) (by decide +kernel)))
theorem sl_X7_partNamed : Cond.selects yX7_partNamed.cls yX7_partNamed yX7_partNamed ∈ lw_tbl := mt_221
theorem mt_227 : (Cond.code ({ cls := "RecordLeaves$Part", name := "<init>", desc := "(III)V" } : MethodName) prog_6_method_1_code (4 : Nat) (Option.none : Option FieldType)) ∈ lw_tbl := List.mem_append_right _ (List.mem_append_left _ (List.mem_of_getElem? (i := 227) (rfl)))
theorem mw_227 : (Cond.code ({ cls := "RecordLeaves$Part", name := "<init>", desc := "(III)V" } : MethodName) prog_6_method_1_code (4 : Nat) (Option.none : Option FieldType)) ∈ rl_G := rl_inG mt_227 rfl
theorem co_X4_init : Cond.code yX4_init cX4_init 4 none ∈ rl_G := mw_227
theorem mt_226 : (Cond.instanceMethod ({ cls := "RecordLeaves$Part", name := "<init>", desc := "(III)V" } : MethodName)) ∈ lw_tbl := List.mem_append_right _ (List.mem_append_left _ (List.mem_of_getElem? (i := 226) (by decide +kernel)))
theorem mw_226 : (Cond.instanceMethod ({ cls := "RecordLeaves$Part", name := "<init>", desc := "(III)V" } : MethodName)) ∈ rl_G := rl_inG mt_226 rfl
theorem im_X4_init : Cond.instanceMethod yX4_init ∈ rl_G := mw_226
theorem mt_249 : (Cond.code ({ cls := "RecordLeaves$RecordVersion", name := "addPart", desc := "(LRecordLeaves$Part;)I" } : MethodName) prog_9_method_4_code (2 : Nat) (Option.some FieldType.int)) ∈ lw_tbl := List.mem_append_right _ (List.mem_append_right _ (List.mem_append_left _ (List.mem_of_getElem? (i := 9) (rfl))))
theorem mw_249 : (Cond.code ({ cls := "RecordLeaves$RecordVersion", name := "addPart", desc := "(LRecordLeaves$Part;)I" } : MethodName) prog_9_method_4_code (2 : Nat) (Option.some FieldType.int)) ∈ rl_G := rl_inG mt_249 rfl
theorem co_X7_addPart : Cond.code yX7_addPart cX7_addPart 2 (some FieldType.int) ∈ rl_G := mw_249
theorem mt_247 : (Cond.instanceMethod ({ cls := "RecordLeaves$RecordVersion", name := "addPart", desc := "(LRecordLeaves$Part;)I" } : MethodName)) ∈ lw_tbl := List.mem_append_right _ (List.mem_append_right _ (List.mem_append_left _ (List.mem_of_getElem? (i := 7) (by decide +kernel))))
theorem mw_247 : (Cond.instanceMethod ({ cls := "RecordLeaves$RecordVersion", name := "addPart", desc := "(LRecordLeaves$Part;)I" } : MethodName)) ∈ rl_G := rl_inG mt_247 rfl
theorem im_X7_addPart : Cond.instanceMethod yX7_addPart ∈ rl_G := mw_247
theorem mt_248 : (Cond.selects "RecordLeaves$RecordVersion" ({ cls := "RecordLeaves$RecordVersion", name := "addPart", desc := "(LRecordLeaves$Part;)I" } : MethodName) ({ cls := "RecordLeaves$RecordVersion", name := "addPart", desc := "(LRecordLeaves$Part;)I" } : MethodName)) ∈ lw_tbl := List.mem_append_right _ (List.mem_append_right _ (List.mem_append_left _ (List.mem_of_getElem? (i := 8) (by decide +kernel))))
theorem sl_X7_addPart : Cond.selects yX7_addPart.cls yX7_addPart yX7_addPart ∈ lw_tbl := mt_248
theorem mt_253 : (Cond.code ({ cls := "RecordLeaves", name := "check", desc := "(IIIII)I" } : MethodName) prog_1_method_4_code (7 : Nat) (Option.some FieldType.int)) ∈ lw_tbl := List.mem_append_right _ (List.mem_append_right _ (List.mem_append_left _ (List.mem_of_getElem? (i := 13) (rfl))))
theorem mw_253 : (Cond.code ({ cls := "RecordLeaves", name := "check", desc := "(IIIII)I" } : MethodName) prog_1_method_4_code (7 : Nat) (Option.some FieldType.int)) ∈ rl_G := rl_inG mt_253 rfl
theorem co_X11_check : Cond.code yX11_check cX11_check 7 (some FieldType.int) ∈ rl_G := mw_253
theorem mt_251 : (Cond.instanceMethod ({ cls := "RecordLeaves", name := "check", desc := "(IIIII)I" } : MethodName)) ∈ lw_tbl := List.mem_append_right _ (List.mem_append_right _ (List.mem_append_left _ (List.mem_of_getElem? (i := 11) (by decide +kernel))))
theorem mw_251 : (Cond.instanceMethod ({ cls := "RecordLeaves", name := "check", desc := "(IIIII)I" } : MethodName)) ∈ rl_G := rl_inG mt_251 rfl
theorem im_X11_check : Cond.instanceMethod yX11_check ∈ rl_G := mw_251
theorem mt_252 : (Cond.selects "RecordLeaves" ({ cls := "RecordLeaves", name := "check", desc := "(IIIII)I" } : MethodName) ({ cls := "RecordLeaves", name := "check", desc := "(IIIII)I" } : MethodName)) ∈ lw_tbl := List.mem_append_right _ (List.mem_append_right _ (List.mem_append_left _ (List.mem_of_getElem? (i := 12) (by decide +kernel))))
theorem sl_X11_check : Cond.selects yX11_check.cls yX11_check yX11_check ∈ lw_tbl := mt_252
theorem mt_256 : (Cond.code ({ cls := "RecordLeaves", name := "sortChecked", desc := "(I)I" } : MethodName) prog_1_method_27_code (1 : Nat) (Option.some FieldType.int)) ∈ lw_tbl := List.mem_append_right _ (List.mem_append_right _ (List.mem_append_left _ (List.mem_of_getElem? (i := 16) (rfl))))
theorem mw_256 : (Cond.code ({ cls := "RecordLeaves", name := "sortChecked", desc := "(I)I" } : MethodName) prog_1_method_27_code (1 : Nat) (Option.some FieldType.int)) ∈ rl_G := rl_inG mt_256 rfl
theorem co_X11_sortChecked : Cond.code yX11_sortChecked cX11_sortChecked 1 (some FieldType.int) ∈ rl_G := mw_256
theorem mt_255 : (Cond.static ({ cls := "RecordLeaves", name := "sortChecked", desc := "(I)I" } : MethodName)) ∈ lw_tbl := List.mem_append_right _ (List.mem_append_right _ (List.mem_append_left _ (List.mem_of_getElem? (i := 15) (by decide +kernel))))
theorem mw_255 : (Cond.static ({ cls := "RecordLeaves", name := "sortChecked", desc := "(I)I" } : MethodName)) ∈ rl_G := rl_inG mt_255 rfl
theorem sm_X11_sortChecked : Cond.static yX11_sortChecked ∈ rl_G := mw_255
theorem mt_260 : (Cond.code ({ cls := "RecordLeaves$RecordVersion", name := "hasPart", desc := "(II)Z" } : MethodName) prog_9_method_3_code (3 : Nat) (Option.some FieldType.boolean)) ∈ lw_tbl := List.mem_append_right _ (List.mem_append_right _ (List.mem_append_left _ (List.mem_of_getElem? (i := 20) (rfl))))
theorem mw_260 : (Cond.code ({ cls := "RecordLeaves$RecordVersion", name := "hasPart", desc := "(II)Z" } : MethodName) prog_9_method_3_code (3 : Nat) (Option.some FieldType.boolean)) ∈ rl_G := rl_inG mt_260 rfl
theorem co_X7_hasPart : Cond.code yX7_hasPart cX7_hasPart 3 (some FieldType.boolean) ∈ rl_G := mw_260
theorem mt_258 : (Cond.instanceMethod ({ cls := "RecordLeaves$RecordVersion", name := "hasPart", desc := "(II)Z" } : MethodName)) ∈ lw_tbl := List.mem_append_right _ (List.mem_append_right _ (List.mem_append_left _ (List.mem_of_getElem? (i := 18) (by decide +kernel))))
theorem mw_258 : (Cond.instanceMethod ({ cls := "RecordLeaves$RecordVersion", name := "hasPart", desc := "(II)Z" } : MethodName)) ∈ rl_G := rl_inG mt_258 rfl
theorem im_X7_hasPart : Cond.instanceMethod yX7_hasPart ∈ rl_G := mw_258
theorem mt_259 : (Cond.selects "RecordLeaves$RecordVersion" ({ cls := "RecordLeaves$RecordVersion", name := "hasPart", desc := "(II)Z" } : MethodName) ({ cls := "RecordLeaves$RecordVersion", name := "hasPart", desc := "(II)Z" } : MethodName)) ∈ lw_tbl := List.mem_append_right _ (List.mem_append_right _ (List.mem_append_left _ (List.mem_of_getElem? (i := 19) (by decide +kernel))))
theorem sl_X7_hasPart : Cond.selects yX7_hasPart.cls yX7_hasPart yX7_hasPart ∈ lw_tbl := mt_259
theorem mt_266 : (Cond.code ({ cls := "RecordLeaves$Check", name := "<init>", desc := "(III)V" } : MethodName) prog_2_method_1_code (4 : Nat) (Option.none : Option FieldType)) ∈ lw_tbl := List.mem_append_right _ (List.mem_append_right _ (List.mem_append_left _ (List.mem_of_getElem? (i := 26) (rfl))))
theorem mw_266 : (Cond.code ({ cls := "RecordLeaves$Check", name := "<init>", desc := "(III)V" } : MethodName) prog_2_method_1_code (4 : Nat) (Option.none : Option FieldType)) ∈ rl_G := rl_inG mt_266 rfl
theorem co_X0_init : Cond.code yX0_init cX0_init 4 none ∈ rl_G := mw_266
theorem mt_265 : (Cond.instanceMethod ({ cls := "RecordLeaves$Check", name := "<init>", desc := "(III)V" } : MethodName)) ∈ lw_tbl := List.mem_append_right _ (List.mem_append_right _ (List.mem_append_left _ (List.mem_of_getElem? (i := 25) (by decide +kernel))))
theorem mw_265 : (Cond.instanceMethod ({ cls := "RecordLeaves$Check", name := "<init>", desc := "(III)V" } : MethodName)) ∈ rl_G := rl_inG mt_265 rfl
theorem im_X0_init : Cond.instanceMethod yX0_init ∈ rl_G := mw_265
theorem mt_281 : (Cond.code ({ cls := "RecordLeaves$RecordVersion", name := "addCheck", desc := "(LRecordLeaves$Check;)I" } : MethodName) prog_9_method_5_code (2 : Nat) (Option.some FieldType.int)) ∈ lw_tbl := List.mem_append_right _ (List.mem_append_right _ (List.mem_append_left _ (List.mem_of_getElem? (i := 41) (rfl))))
theorem mw_281 : (Cond.code ({ cls := "RecordLeaves$RecordVersion", name := "addCheck", desc := "(LRecordLeaves$Check;)I" } : MethodName) prog_9_method_5_code (2 : Nat) (Option.some FieldType.int)) ∈ rl_G := rl_inG mt_281 rfl
theorem co_X7_addCheck : Cond.code yX7_addCheck cX7_addCheck 2 (some FieldType.int) ∈ rl_G := mw_281
theorem mt_279 : (Cond.instanceMethod ({ cls := "RecordLeaves$RecordVersion", name := "addCheck", desc := "(LRecordLeaves$Check;)I" } : MethodName)) ∈ lw_tbl := List.mem_append_right _ (List.mem_append_right _ (List.mem_append_left _ (List.mem_of_getElem? (i := 39) (by decide +kernel))))
theorem mw_279 : (Cond.instanceMethod ({ cls := "RecordLeaves$RecordVersion", name := "addCheck", desc := "(LRecordLeaves$Check;)I" } : MethodName)) ∈ rl_G := rl_inG mt_279 rfl
theorem im_X7_addCheck : Cond.instanceMethod yX7_addCheck ∈ rl_G := mw_279
theorem mt_280 : (Cond.selects "RecordLeaves$RecordVersion" ({ cls := "RecordLeaves$RecordVersion", name := "addCheck", desc := "(LRecordLeaves$Check;)I" } : MethodName) ({ cls := "RecordLeaves$RecordVersion", name := "addCheck", desc := "(LRecordLeaves$Check;)I" } : MethodName)) ∈ lw_tbl := List.mem_append_right _ (List.mem_append_right _ (List.mem_append_left _ (List.mem_of_getElem? (i := 40) (by decide +kernel))))
theorem sl_X7_addCheck : Cond.selects yX7_addCheck.cls yX7_addCheck yX7_addCheck ∈ lw_tbl := mt_280
theorem mt_285 : (Cond.code ({ cls := "RecordLeaves", name := "hold", desc := "(IIII)I" } : MethodName) prog_1_method_5_code (7 : Nat) (Option.some FieldType.int)) ∈ lw_tbl := List.mem_append_right _ (List.mem_append_right _ (List.mem_append_left _ (List.mem_of_getElem? (i := 45) (rfl))))
theorem mw_285 : (Cond.code ({ cls := "RecordLeaves", name := "hold", desc := "(IIII)I" } : MethodName) prog_1_method_5_code (7 : Nat) (Option.some FieldType.int)) ∈ rl_G := rl_inG mt_285 rfl
theorem co_X11_hold : Cond.code yX11_hold cX11_hold 7 (some FieldType.int) ∈ rl_G := mw_285
theorem mt_283 : (Cond.instanceMethod ({ cls := "RecordLeaves", name := "hold", desc := "(IIII)I" } : MethodName)) ∈ lw_tbl := List.mem_append_right _ (List.mem_append_right _ (List.mem_append_left _ (List.mem_of_getElem? (i := 43) (by decide +kernel))))
theorem mw_283 : (Cond.instanceMethod ({ cls := "RecordLeaves", name := "hold", desc := "(IIII)I" } : MethodName)) ∈ rl_G := rl_inG mt_283 rfl
theorem im_X11_hold : Cond.instanceMethod yX11_hold ∈ rl_G := mw_283
theorem mt_284 : (Cond.selects "RecordLeaves" ({ cls := "RecordLeaves", name := "hold", desc := "(IIII)I" } : MethodName) ({ cls := "RecordLeaves", name := "hold", desc := "(IIII)I" } : MethodName)) ∈ lw_tbl := List.mem_append_right _ (List.mem_append_right _ (List.mem_append_left _ (List.mem_of_getElem? (i := 44) (by decide +kernel))))
theorem sl_X11_hold : Cond.selects yX11_hold.cls yX11_hold yX11_hold ∈ lw_tbl := mt_284
theorem mt_289 : (Cond.code ({ cls := "RecordLeaves", name := "row", desc := "(II)I" } : MethodName) prog_1_method_6_code (3 : Nat) (Option.some FieldType.int)) ∈ lw_tbl := List.mem_append_right _ (List.mem_append_right _ (List.mem_append_left _ (List.mem_of_getElem? (i := 49) (rfl))))
theorem mw_289 : (Cond.code ({ cls := "RecordLeaves", name := "row", desc := "(II)I" } : MethodName) prog_1_method_6_code (3 : Nat) (Option.some FieldType.int)) ∈ rl_G := rl_inG mt_289 rfl
theorem co_X11_row : Cond.code yX11_row cX11_row 3 (some FieldType.int) ∈ rl_G := mw_289
theorem mt_287 : (Cond.instanceMethod ({ cls := "RecordLeaves", name := "row", desc := "(II)I" } : MethodName)) ∈ lw_tbl := List.mem_append_right _ (List.mem_append_right _ (List.mem_append_left _ (List.mem_of_getElem? (i := 47) (by decide +kernel))))
theorem mw_287 : (Cond.instanceMethod ({ cls := "RecordLeaves", name := "row", desc := "(II)I" } : MethodName)) ∈ rl_G := rl_inG mt_287 rfl
theorem im_X11_row : Cond.instanceMethod yX11_row ∈ rl_G := mw_287
theorem mt_288 : (Cond.selects "RecordLeaves" ({ cls := "RecordLeaves", name := "row", desc := "(II)I" } : MethodName) ({ cls := "RecordLeaves", name := "row", desc := "(II)I" } : MethodName)) ∈ lw_tbl := List.mem_append_right _ (List.mem_append_right _ (List.mem_append_left _ (List.mem_of_getElem? (i := 48) (by decide +kernel))))
theorem sl_X11_row : Cond.selects yX11_row.cls yX11_row yX11_row ∈ lw_tbl := mt_288
theorem mt_294 : (Cond.code ({ cls := "RecordLeaves$Row", name := "<init>", desc := "(I)V" } : MethodName) prog_10_method_1_code (2 : Nat) (Option.none : Option FieldType)) ∈ lw_tbl := List.mem_append_right _ (List.mem_append_right _ (List.mem_append_left _ (List.mem_of_getElem? (i := 54) (rfl))))
theorem mw_294 : (Cond.code ({ cls := "RecordLeaves$Row", name := "<init>", desc := "(I)V" } : MethodName) prog_10_method_1_code (2 : Nat) (Option.none : Option FieldType)) ∈ rl_G := rl_inG mt_294 rfl
theorem co_X8_init : Cond.code yX8_init cX8_init 2 none ∈ rl_G := mw_294
theorem mt_293 : (Cond.instanceMethod ({ cls := "RecordLeaves$Row", name := "<init>", desc := "(I)V" } : MethodName)) ∈ lw_tbl := List.mem_append_right _ (List.mem_append_right _ (List.mem_append_left _ (List.mem_of_getElem? (i := 53) (by decide +kernel))))
theorem mw_293 : (Cond.instanceMethod ({ cls := "RecordLeaves$Row", name := "<init>", desc := "(I)V" } : MethodName)) ∈ rl_G := rl_inG mt_293 rfl
theorem im_X8_init : Cond.instanceMethod yX8_init ∈ rl_G := mw_293
theorem mt_310 : (Cond.code ({ cls := "RecordLeaves", name := "item", desc := "(III)I" } : MethodName) prog_1_method_7_code (6 : Nat) (Option.some FieldType.int)) ∈ lw_tbl := List.mem_append_right _ (List.mem_append_right _ (List.mem_append_left _ (List.mem_of_getElem? (i := 70) (rfl))))
theorem mw_310 : (Cond.code ({ cls := "RecordLeaves", name := "item", desc := "(III)I" } : MethodName) prog_1_method_7_code (6 : Nat) (Option.some FieldType.int)) ∈ rl_G := rl_inG mt_310 rfl
theorem co_X11_item : Cond.code yX11_item cX11_item 6 (some FieldType.int) ∈ rl_G := mw_310
theorem mt_308 : (Cond.instanceMethod ({ cls := "RecordLeaves", name := "item", desc := "(III)I" } : MethodName)) ∈ lw_tbl := List.mem_append_right _ (List.mem_append_right _ (List.mem_append_left _ (List.mem_of_getElem? (i := 68) (by decide +kernel))))
theorem mw_308 : (Cond.instanceMethod ({ cls := "RecordLeaves", name := "item", desc := "(III)I" } : MethodName)) ∈ rl_G := rl_inG mt_308 rfl
theorem im_X11_item : Cond.instanceMethod yX11_item ∈ rl_G := mw_308
theorem mt_309 : (Cond.selects "RecordLeaves" ({ cls := "RecordLeaves", name := "item", desc := "(III)I" } : MethodName) ({ cls := "RecordLeaves", name := "item", desc := "(III)I" } : MethodName)) ∈ lw_tbl := List.mem_append_right _ (List.mem_append_right _ (List.mem_append_left _ (List.mem_of_getElem? (i := 69) (by decide +kernel))))
theorem sl_X11_item : Cond.selects yX11_item.cls yX11_item yX11_item ∈ lw_tbl := mt_309
theorem mt_314 : (Cond.code ({ cls := "RecordLeaves", name := "share", desc := "(II)I" } : MethodName) prog_1_method_8_code (3 : Nat) (Option.some FieldType.int)) ∈ lw_tbl := List.mem_append_right _ (List.mem_append_right _ (List.mem_append_left _ (List.mem_of_getElem? (i := 74) (rfl))))
theorem mw_314 : (Cond.code ({ cls := "RecordLeaves", name := "share", desc := "(II)I" } : MethodName) prog_1_method_8_code (3 : Nat) (Option.some FieldType.int)) ∈ rl_G := rl_inG mt_314 rfl
theorem co_X11_share : Cond.code yX11_share cX11_share 3 (some FieldType.int) ∈ rl_G := mw_314
theorem mt_312 : (Cond.instanceMethod ({ cls := "RecordLeaves", name := "share", desc := "(II)I" } : MethodName)) ∈ lw_tbl := List.mem_append_right _ (List.mem_append_right _ (List.mem_append_left _ (List.mem_of_getElem? (i := 72) (by decide +kernel))))
theorem mw_312 : (Cond.instanceMethod ({ cls := "RecordLeaves", name := "share", desc := "(II)I" } : MethodName)) ∈ rl_G := rl_inG mt_312 rfl
theorem im_X11_share : Cond.instanceMethod yX11_share ∈ rl_G := mw_312
theorem mt_313 : (Cond.selects "RecordLeaves" ({ cls := "RecordLeaves", name := "share", desc := "(II)I" } : MethodName) ({ cls := "RecordLeaves", name := "share", desc := "(II)I" } : MethodName)) ∈ lw_tbl := List.mem_append_right _ (List.mem_append_right _ (List.mem_append_left _ (List.mem_of_getElem? (i := 73) (by decide +kernel))))
theorem sl_X11_share : Cond.selects yX11_share.cls yX11_share yX11_share ∈ lw_tbl := mt_313
theorem mt_317 : (Cond.code ({ cls := "RecordLeaves", name := "familyOf", desc := "(LRecordLeaves$Thing;)I" } : MethodName) prog_1_method_28_code (1 : Nat) (Option.some FieldType.int)) ∈ lw_tbl := List.mem_append_right _ (List.mem_append_right _ (List.mem_append_left _ (List.mem_of_getElem? (i := 77) (rfl))))
theorem mw_317 : (Cond.code ({ cls := "RecordLeaves", name := "familyOf", desc := "(LRecordLeaves$Thing;)I" } : MethodName) prog_1_method_28_code (1 : Nat) (Option.some FieldType.int)) ∈ rl_G := rl_inG mt_317 rfl
theorem co_X11_familyOf : Cond.code yX11_familyOf cX11_familyOf 1 (some FieldType.int) ∈ rl_G := mw_317
theorem mt_316 : (Cond.static ({ cls := "RecordLeaves", name := "familyOf", desc := "(LRecordLeaves$Thing;)I" } : MethodName)) ∈ lw_tbl := List.mem_append_right _ (List.mem_append_right _ (List.mem_append_left _ (List.mem_of_getElem? (i := 76) (by decide +kernel))))
theorem mw_316 : (Cond.static ({ cls := "RecordLeaves", name := "familyOf", desc := "(LRecordLeaves$Thing;)I" } : MethodName)) ∈ rl_G := rl_inG mt_316 rfl
theorem sm_X11_familyOf : Cond.static yX11_familyOf ∈ rl_G := mw_316
theorem mt_323 : (Cond.code ({ cls := "RecordLeaves$Constant", name := "family", desc := "()I" } : MethodName) prog_3_method_2_code (1 : Nat) (Option.some FieldType.int)) ∈ lw_tbl := List.mem_append_right _ (List.mem_append_right _ (List.mem_append_left _ (List.mem_of_getElem? (i := 83) (rfl))))
theorem mw_323 : (Cond.code ({ cls := "RecordLeaves$Constant", name := "family", desc := "()I" } : MethodName) prog_3_method_2_code (1 : Nat) (Option.some FieldType.int)) ∈ rl_G := rl_inG mt_323 rfl
theorem co_X1_family : Cond.code yX1_family cX1_family 1 (some FieldType.int) ∈ rl_G := mw_323
theorem mt_322 : (Cond.instanceMethod ({ cls := "RecordLeaves$Constant", name := "family", desc := "()I" } : MethodName)) ∈ lw_tbl := List.mem_append_right _ (List.mem_append_right _ (List.mem_append_left _ (List.mem_of_getElem? (i := 82) (by decide +kernel))))
theorem mw_322 : (Cond.instanceMethod ({ cls := "RecordLeaves$Constant", name := "family", desc := "()I" } : MethodName)) ∈ rl_G := rl_inG mt_322 rfl
theorem im_X1_family : Cond.instanceMethod yX1_family ∈ rl_G := mw_322
theorem mt_326 : (Cond.code ({ cls := "RecordLeaves$RecordThing", name := "family", desc := "()I" } : MethodName) prog_8_method_2_code (1 : Nat) (Option.some FieldType.int)) ∈ lw_tbl := List.mem_append_right _ (List.mem_append_right _ (List.mem_append_left _ (List.mem_of_getElem? (i := 86) (rfl))))
theorem mw_326 : (Cond.code ({ cls := "RecordLeaves$RecordThing", name := "family", desc := "()I" } : MethodName) prog_8_method_2_code (1 : Nat) (Option.some FieldType.int)) ∈ rl_G := rl_inG mt_326 rfl
theorem co_X6_family : Cond.code yX6_family cX6_family 1 (some FieldType.int) ∈ rl_G := mw_326
theorem mt_325 : (Cond.instanceMethod ({ cls := "RecordLeaves$RecordThing", name := "family", desc := "()I" } : MethodName)) ∈ lw_tbl := List.mem_append_right _ (List.mem_append_right _ (List.mem_append_left _ (List.mem_of_getElem? (i := 85) (by decide +kernel))))
theorem mw_325 : (Cond.instanceMethod ({ cls := "RecordLeaves$RecordThing", name := "family", desc := "()I" } : MethodName)) ∈ rl_G := rl_inG mt_325 rfl
theorem im_X6_family : Cond.instanceMethod yX6_family ∈ rl_G := mw_325
theorem mt_329 : (Cond.code ({ cls := "RecordLeaves$Row", name := "family", desc := "()I" } : MethodName) prog_10_method_2_code (1 : Nat) (Option.some FieldType.int)) ∈ lw_tbl := List.mem_append_right _ (List.mem_append_right _ (List.mem_append_left _ (List.mem_of_getElem? (i := 89) (rfl))))
theorem mw_329 : (Cond.code ({ cls := "RecordLeaves$Row", name := "family", desc := "()I" } : MethodName) prog_10_method_2_code (1 : Nat) (Option.some FieldType.int)) ∈ rl_G := rl_inG mt_329 rfl
theorem co_X8_family : Cond.code yX8_family cX8_family 1 (some FieldType.int) ∈ rl_G := mw_329
theorem mt_328 : (Cond.instanceMethod ({ cls := "RecordLeaves$Row", name := "family", desc := "()I" } : MethodName)) ∈ lw_tbl := List.mem_append_right _ (List.mem_append_right _ (List.mem_append_left _ (List.mem_of_getElem? (i := 88) (by decide +kernel))))
theorem mw_328 : (Cond.instanceMethod ({ cls := "RecordLeaves$Row", name := "family", desc := "()I" } : MethodName)) ∈ rl_G := rl_inG mt_328 rfl
theorem im_X8_family : Cond.instanceMethod yX8_family ∈ rl_G := mw_328
theorem mt_333 : (Cond.code ({ cls := "RecordLeaves", name := "give", desc := "(IJI)I" } : MethodName) prog_1_method_9_code (5 : Nat) (Option.some FieldType.int)) ∈ lw_tbl := List.mem_append_right _ (List.mem_append_right _ (List.mem_append_left _ (List.mem_of_getElem? (i := 93) (rfl))))
theorem mw_333 : (Cond.code ({ cls := "RecordLeaves", name := "give", desc := "(IJI)I" } : MethodName) prog_1_method_9_code (5 : Nat) (Option.some FieldType.int)) ∈ rl_G := rl_inG mt_333 rfl
theorem co_X11_give : Cond.code yX11_give cX11_give 5 (some FieldType.int) ∈ rl_G := mw_333
theorem mt_331 : (Cond.instanceMethod ({ cls := "RecordLeaves", name := "give", desc := "(IJI)I" } : MethodName)) ∈ lw_tbl := List.mem_append_right _ (List.mem_append_right _ (List.mem_append_left _ (List.mem_of_getElem? (i := 91) (by decide +kernel))))
theorem mw_331 : (Cond.instanceMethod ({ cls := "RecordLeaves", name := "give", desc := "(IJI)I" } : MethodName)) ∈ rl_G := rl_inG mt_331 rfl
theorem im_X11_give : Cond.instanceMethod yX11_give ∈ rl_G := mw_331
theorem mt_332 : (Cond.selects "RecordLeaves" ({ cls := "RecordLeaves", name := "give", desc := "(IJI)I" } : MethodName) ({ cls := "RecordLeaves", name := "give", desc := "(IJI)I" } : MethodName)) ∈ lw_tbl := List.mem_append_right _ (List.mem_append_right _ (List.mem_append_left _ (List.mem_of_getElem? (i := 92) (by decide +kernel))))
theorem sl_X11_give : Cond.selects yX11_give.cls yX11_give yX11_give ∈ lw_tbl := mt_332
theorem mt_337 : (Cond.code ({ cls := "RecordLeaves", name := "make", desc := "(III)I" } : MethodName) prog_1_method_10_code (7 : Nat) (Option.some FieldType.int)) ∈ lw_tbl := List.mem_append_right _ (List.mem_append_right _ (List.mem_append_left _ (List.mem_of_getElem? (i := 97) (rfl))))
theorem mw_337 : (Cond.code ({ cls := "RecordLeaves", name := "make", desc := "(III)I" } : MethodName) prog_1_method_10_code (7 : Nat) (Option.some FieldType.int)) ∈ rl_G := rl_inG mt_337 rfl
theorem co_X11_make : Cond.code yX11_make cX11_make 7 (some FieldType.int) ∈ rl_G := mw_337
theorem mt_335 : (Cond.instanceMethod ({ cls := "RecordLeaves", name := "make", desc := "(III)I" } : MethodName)) ∈ lw_tbl := List.mem_append_right _ (List.mem_append_right _ (List.mem_append_left _ (List.mem_of_getElem? (i := 95) (by decide +kernel))))
theorem mw_335 : (Cond.instanceMethod ({ cls := "RecordLeaves", name := "make", desc := "(III)I" } : MethodName)) ∈ rl_G := rl_inG mt_335 rfl
theorem im_X11_make : Cond.instanceMethod yX11_make ∈ rl_G := mw_335
theorem mt_336 : (Cond.selects "RecordLeaves" ({ cls := "RecordLeaves", name := "make", desc := "(III)I" } : MethodName) ({ cls := "RecordLeaves", name := "make", desc := "(III)I" } : MethodName)) ∈ lw_tbl := List.mem_append_right _ (List.mem_append_right _ (List.mem_append_left _ (List.mem_of_getElem? (i := 96) (by decide +kernel))))
theorem sl_X11_make : Cond.selects yX11_make.cls yX11_make yX11_make ∈ lw_tbl := mt_336
theorem mt_342 : (Cond.code ({ cls := "RecordLeaves$RecordThing", name := "<init>", desc := "(LRecordLeaves$RecordVersion;)V" } : MethodName) prog_8_method_1_code (2 : Nat) (Option.none : Option FieldType)) ∈ lw_tbl := List.mem_append_right _ (List.mem_append_right _ (List.mem_append_left _ (List.mem_of_getElem? (i := 102) (rfl))))
theorem mw_342 : (Cond.code ({ cls := "RecordLeaves$RecordThing", name := "<init>", desc := "(LRecordLeaves$RecordVersion;)V" } : MethodName) prog_8_method_1_code (2 : Nat) (Option.none : Option FieldType)) ∈ rl_G := rl_inG mt_342 rfl
theorem co_X6_init : Cond.code yX6_init cX6_init 2 none ∈ rl_G := mw_342
theorem mt_341 : (Cond.instanceMethod ({ cls := "RecordLeaves$RecordThing", name := "<init>", desc := "(LRecordLeaves$RecordVersion;)V" } : MethodName)) ∈ lw_tbl := List.mem_append_right _ (List.mem_append_right _ (List.mem_append_left _ (List.mem_of_getElem? (i := 101) (by decide +kernel))))
theorem mw_341 : (Cond.instanceMethod ({ cls := "RecordLeaves$RecordThing", name := "<init>", desc := "(LRecordLeaves$RecordVersion;)V" } : MethodName)) ∈ rl_G := rl_inG mt_341 rfl
theorem im_X6_init : Cond.instanceMethod yX6_init ∈ rl_G := mw_341
theorem mt_369 : (Cond.code ({ cls := "RecordLeaves$RecordThing", name := "extent", desc := "()I" } : MethodName) prog_8_method_5_code (1 : Nat) (Option.some FieldType.int)) ∈ lw_tbl := List.mem_append_right _ (List.mem_append_right _ (List.mem_append_left _ (List.mem_of_getElem? (i := 129) (rfl))))
theorem mw_369 : (Cond.code ({ cls := "RecordLeaves$RecordThing", name := "extent", desc := "()I" } : MethodName) prog_8_method_5_code (1 : Nat) (Option.some FieldType.int)) ∈ rl_G := rl_inG mt_369 rfl
theorem co_X6_extent : Cond.code yX6_extent cX6_extent 1 (some FieldType.int) ∈ rl_G := mw_369
theorem mt_367 : (Cond.instanceMethod ({ cls := "RecordLeaves$RecordThing", name := "extent", desc := "()I" } : MethodName)) ∈ lw_tbl := List.mem_append_right _ (List.mem_append_right _ (List.mem_append_left _ (List.mem_of_getElem? (i := 127) (by decide +kernel))))
theorem mw_367 : (Cond.instanceMethod ({ cls := "RecordLeaves$RecordThing", name := "extent", desc := "()I" } : MethodName)) ∈ rl_G := rl_inG mt_367 rfl
theorem im_X6_extent : Cond.instanceMethod yX6_extent ∈ rl_G := mw_367
theorem mt_368 : (Cond.selects "RecordLeaves$RecordThing" ({ cls := "RecordLeaves$RecordThing", name := "extent", desc := "()I" } : MethodName) ({ cls := "RecordLeaves$RecordThing", name := "extent", desc := "()I" } : MethodName)) ∈ lw_tbl := List.mem_append_right _ (List.mem_append_right _ (List.mem_append_left _ (List.mem_of_getElem? (i := 128) (by decide +kernel))))
theorem sl_X6_extent : Cond.selects yX6_extent.cls yX6_extent yX6_extent ∈ lw_tbl := mt_368
theorem mt_373 : (Cond.code ({ cls := "RecordLeaves$RecordThing", name := "put", desc := "(IJLRecordLeaves$Thing;)V" } : MethodName) prog_8_method_7_code (5 : Nat) (Option.none : Option FieldType)) ∈ lw_tbl := List.mem_append_right _ (List.mem_append_right _ (List.mem_append_left _ (List.mem_of_getElem? (i := 133) (rfl))))
theorem mw_373 : (Cond.code ({ cls := "RecordLeaves$RecordThing", name := "put", desc := "(IJLRecordLeaves$Thing;)V" } : MethodName) prog_8_method_7_code (5 : Nat) (Option.none : Option FieldType)) ∈ rl_G := rl_inG mt_373 rfl
theorem co_X6_put : Cond.code yX6_put cX6_put 5 none ∈ rl_G := mw_373
theorem mt_371 : (Cond.instanceMethod ({ cls := "RecordLeaves$RecordThing", name := "put", desc := "(IJLRecordLeaves$Thing;)V" } : MethodName)) ∈ lw_tbl := List.mem_append_right _ (List.mem_append_right _ (List.mem_append_left _ (List.mem_of_getElem? (i := 131) (by decide +kernel))))
theorem mw_371 : (Cond.instanceMethod ({ cls := "RecordLeaves$RecordThing", name := "put", desc := "(IJLRecordLeaves$Thing;)V" } : MethodName)) ∈ rl_G := rl_inG mt_371 rfl
theorem im_X6_put : Cond.instanceMethod yX6_put ∈ rl_G := mw_371
theorem mt_372 : (Cond.selects "RecordLeaves$RecordThing" ({ cls := "RecordLeaves$RecordThing", name := "put", desc := "(IJLRecordLeaves$Thing;)V" } : MethodName) ({ cls := "RecordLeaves$RecordThing", name := "put", desc := "(IJLRecordLeaves$Thing;)V" } : MethodName)) ∈ lw_tbl := List.mem_append_right _ (List.mem_append_right _ (List.mem_append_left _ (List.mem_of_getElem? (i := 132) (by decide +kernel))))
theorem sl_X6_put : Cond.selects yX6_put.cls yX6_put yX6_put ∈ lw_tbl := mt_372
theorem mt_377 : (Cond.code ({ cls := "RecordLeaves$RecordThing", name := "isNumber", desc := "(I)Z" } : MethodName) prog_8_method_6_code (2 : Nat) (Option.some FieldType.boolean)) ∈ lw_tbl := List.mem_append_right _ (List.mem_append_right _ (List.mem_append_left _ (List.mem_of_getElem? (i := 137) (rfl))))
theorem mw_377 : (Cond.code ({ cls := "RecordLeaves$RecordThing", name := "isNumber", desc := "(I)Z" } : MethodName) prog_8_method_6_code (2 : Nat) (Option.some FieldType.boolean)) ∈ rl_G := rl_inG mt_377 rfl
theorem co_X6_isNumber : Cond.code yX6_isNumber cX6_isNumber 2 (some FieldType.boolean) ∈ rl_G := mw_377
theorem mt_375 : (Cond.instanceMethod ({ cls := "RecordLeaves$RecordThing", name := "isNumber", desc := "(I)Z" } : MethodName)) ∈ lw_tbl := List.mem_append_right _ (List.mem_append_right _ (List.mem_append_left _ (List.mem_of_getElem? (i := 135) (by decide +kernel))))
theorem mw_375 : (Cond.instanceMethod ({ cls := "RecordLeaves$RecordThing", name := "isNumber", desc := "(I)Z" } : MethodName)) ∈ rl_G := rl_inG mt_375 rfl
theorem im_X6_isNumber : Cond.instanceMethod yX6_isNumber ∈ rl_G := mw_375
theorem mt_376 : (Cond.selects "RecordLeaves$RecordThing" ({ cls := "RecordLeaves$RecordThing", name := "isNumber", desc := "(I)Z" } : MethodName) ({ cls := "RecordLeaves$RecordThing", name := "isNumber", desc := "(I)Z" } : MethodName)) ∈ lw_tbl := List.mem_append_right _ (List.mem_append_right _ (List.mem_append_left _ (List.mem_of_getElem? (i := 136) (by decide +kernel))))
theorem sl_X6_isNumber : Cond.selects yX6_isNumber.cls yX6_isNumber yX6_isNumber ∈ lw_tbl := mt_376
theorem mt_381 : (Cond.code ({ cls := "RecordLeaves$RecordVersion", name := "whyNotMade", desc := "(LRecordLeaves$RecordThing;)I" } : MethodName) prog_9_method_6_code (4 : Nat) (Option.some FieldType.int)) ∈ lw_tbl := List.mem_append_right _ (List.mem_append_right _ (List.mem_append_left _ (List.mem_of_getElem? (i := 141) (rfl))))
theorem mw_381 : (Cond.code ({ cls := "RecordLeaves$RecordVersion", name := "whyNotMade", desc := "(LRecordLeaves$RecordThing;)I" } : MethodName) prog_9_method_6_code (4 : Nat) (Option.some FieldType.int)) ∈ rl_G := rl_inG mt_381 rfl
theorem co_X7_whyNotMade : Cond.code yX7_whyNotMade cX7_whyNotMade 4 (some FieldType.int) ∈ rl_G := mw_381
theorem mt_379 : (Cond.instanceMethod ({ cls := "RecordLeaves$RecordVersion", name := "whyNotMade", desc := "(LRecordLeaves$RecordThing;)I" } : MethodName)) ∈ lw_tbl := List.mem_append_right _ (List.mem_append_right _ (List.mem_append_left _ (List.mem_of_getElem? (i := 139) (by decide +kernel))))
theorem mw_379 : (Cond.instanceMethod ({ cls := "RecordLeaves$RecordVersion", name := "whyNotMade", desc := "(LRecordLeaves$RecordThing;)I" } : MethodName)) ∈ rl_G := rl_inG mt_379 rfl
theorem im_X7_whyNotMade : Cond.instanceMethod yX7_whyNotMade ∈ rl_G := mw_379
theorem mt_380 : (Cond.selects "RecordLeaves$RecordVersion" ({ cls := "RecordLeaves$RecordVersion", name := "whyNotMade", desc := "(LRecordLeaves$RecordThing;)I" } : MethodName) ({ cls := "RecordLeaves$RecordVersion", name := "whyNotMade", desc := "(LRecordLeaves$RecordThing;)I" } : MethodName)) ∈ lw_tbl := List.mem_append_right _ (List.mem_append_right _ (List.mem_append_left _ (List.mem_of_getElem? (i := 140) (by decide +kernel))))
theorem sl_X7_whyNotMade : Cond.selects yX7_whyNotMade.cls yX7_whyNotMade yX7_whyNotMade ∈ lw_tbl := mt_380
theorem mt_386 : (Cond.code ({ cls := "RecordLeaves$Part", name := "whyNotTaken", desc := "(JLRecordLeaves$Thing;I)I" } : MethodName) prog_6_method_2_code (5 : Nat) (Option.some FieldType.int)) ∈ lw_tbl := List.mem_append_right _ (List.mem_append_right _ (List.mem_append_left _ (List.mem_of_getElem? (i := 146) (rfl))))
theorem mw_386 : (Cond.code ({ cls := "RecordLeaves$Part", name := "whyNotTaken", desc := "(JLRecordLeaves$Thing;I)I" } : MethodName) prog_6_method_2_code (5 : Nat) (Option.some FieldType.int)) ∈ rl_G := rl_inG mt_386 rfl
theorem co_X4_whyNotTaken : Cond.code yX4_whyNotTaken cX4_whyNotTaken 5 (some FieldType.int) ∈ rl_G := mw_386
theorem mt_384 : (Cond.instanceMethod ({ cls := "RecordLeaves$Part", name := "whyNotTaken", desc := "(JLRecordLeaves$Thing;I)I" } : MethodName)) ∈ lw_tbl := List.mem_append_right _ (List.mem_append_right _ (List.mem_append_left _ (List.mem_of_getElem? (i := 144) (by decide +kernel))))
theorem mw_384 : (Cond.instanceMethod ({ cls := "RecordLeaves$Part", name := "whyNotTaken", desc := "(JLRecordLeaves$Thing;I)I" } : MethodName)) ∈ rl_G := rl_inG mt_384 rfl
theorem im_X4_whyNotTaken : Cond.instanceMethod yX4_whyNotTaken ∈ rl_G := mw_384
theorem mt_385 : (Cond.selects "RecordLeaves$Part" ({ cls := "RecordLeaves$Part", name := "whyNotTaken", desc := "(JLRecordLeaves$Thing;I)I" } : MethodName) ({ cls := "RecordLeaves$Part", name := "whyNotTaken", desc := "(JLRecordLeaves$Thing;I)I" } : MethodName)) ∈ lw_tbl := List.mem_append_right _ (List.mem_append_right _ (List.mem_append_left _ (List.mem_of_getElem? (i := 145) (by decide +kernel))))
theorem sl_X4_whyNotTaken : Cond.selects yX4_whyNotTaken.cls yX4_whyNotTaken yX4_whyNotTaken ∈ lw_tbl := mt_385
theorem mt_390 : (Cond.code ({ cls := "RecordLeaves$Part", name := "isOfClass", desc := "(LRecordLeaves$Thing;)Z" } : MethodName) prog_6_method_3_code (2 : Nat) (Option.some FieldType.boolean)) ∈ lw_tbl := List.mem_append_right _ (List.mem_append_right _ (List.mem_append_left _ (List.mem_of_getElem? (i := 150) (rfl))))
theorem mw_390 : (Cond.code ({ cls := "RecordLeaves$Part", name := "isOfClass", desc := "(LRecordLeaves$Thing;)Z" } : MethodName) prog_6_method_3_code (2 : Nat) (Option.some FieldType.boolean)) ∈ rl_G := rl_inG mt_390 rfl
theorem co_X4_isOfClass : Cond.code yX4_isOfClass cX4_isOfClass 2 (some FieldType.boolean) ∈ rl_G := mw_390
theorem mt_389 : (Cond.instanceMethod ({ cls := "RecordLeaves$Part", name := "isOfClass", desc := "(LRecordLeaves$Thing;)Z" } : MethodName)) ∈ lw_tbl := List.mem_append_right _ (List.mem_append_right _ (List.mem_append_left _ (List.mem_of_getElem? (i := 149) (by decide +kernel))))
theorem mw_389 : (Cond.instanceMethod ({ cls := "RecordLeaves$Part", name := "isOfClass", desc := "(LRecordLeaves$Thing;)Z" } : MethodName)) ∈ rl_G := rl_inG mt_389 rfl
theorem im_X4_isOfClass : Cond.instanceMethod yX4_isOfClass ∈ rl_G := mw_389
theorem sl_X4_isOfClass : Cond.selects yX4_isOfClass.cls yX4_isOfClass yX4_isOfClass ∈ lw_tbl := List.mem_append_left _ (by decide +kernel)
theorem mt_399 : (Cond.code ({ cls := "RecordLeaves$Constant", name := "kind", desc := "()I" } : MethodName) prog_3_method_3_code (1 : Nat) (Option.some FieldType.int)) ∈ lw_tbl := List.mem_append_right _ (List.mem_append_right _ (List.mem_append_left _ (List.mem_of_getElem? (i := 159) (rfl))))
theorem mw_399 : (Cond.code ({ cls := "RecordLeaves$Constant", name := "kind", desc := "()I" } : MethodName) prog_3_method_3_code (1 : Nat) (Option.some FieldType.int)) ∈ rl_G := rl_inG mt_399 rfl
theorem co_X1_kind : Cond.code yX1_kind cX1_kind 1 (some FieldType.int) ∈ rl_G := mw_399
theorem mt_398 : (Cond.instanceMethod ({ cls := "RecordLeaves$Constant", name := "kind", desc := "()I" } : MethodName)) ∈ lw_tbl := List.mem_append_right _ (List.mem_append_right _ (List.mem_append_left _ (List.mem_of_getElem? (i := 158) (by decide +kernel))))
theorem mw_398 : (Cond.instanceMethod ({ cls := "RecordLeaves$Constant", name := "kind", desc := "()I" } : MethodName)) ∈ rl_G := rl_inG mt_398 rfl
theorem im_X1_kind : Cond.instanceMethod yX1_kind ∈ rl_G := mw_398
theorem mt_402 : (Cond.code ({ cls := "RecordLeaves$RecordThing", name := "kind", desc := "()I" } : MethodName) prog_8_method_3_code (1 : Nat) (Option.some FieldType.int)) ∈ lw_tbl := List.mem_append_right _ (List.mem_append_right _ (List.mem_append_left _ (List.mem_of_getElem? (i := 162) (rfl))))
theorem mw_402 : (Cond.code ({ cls := "RecordLeaves$RecordThing", name := "kind", desc := "()I" } : MethodName) prog_8_method_3_code (1 : Nat) (Option.some FieldType.int)) ∈ rl_G := rl_inG mt_402 rfl
theorem co_X6_kind : Cond.code yX6_kind cX6_kind 1 (some FieldType.int) ∈ rl_G := mw_402
theorem mt_401 : (Cond.instanceMethod ({ cls := "RecordLeaves$RecordThing", name := "kind", desc := "()I" } : MethodName)) ∈ lw_tbl := List.mem_append_right _ (List.mem_append_right _ (List.mem_append_left _ (List.mem_of_getElem? (i := 161) (by decide +kernel))))
theorem mw_401 : (Cond.instanceMethod ({ cls := "RecordLeaves$RecordThing", name := "kind", desc := "()I" } : MethodName)) ∈ rl_G := rl_inG mt_401 rfl
theorem im_X6_kind : Cond.instanceMethod yX6_kind ∈ rl_G := mw_401
theorem mt_995 : (Cond.selects "RecordLeaves$RecordThing" ({ cls := "RecordLeaves$RecordThing", name := "kind", desc := "()I" } : MethodName) ({ cls := "RecordLeaves$RecordThing", name := "kind", desc := "()I" } : MethodName)) ∈ lw_tbl := List.mem_append_right _ (List.mem_append_right _ (List.mem_append_right _ (List.mem_append_right _ (List.mem_append_right _ (List.mem_of_getElem? (i := 35) (by decide +kernel))))))
theorem sl_X6_kind : Cond.selects yX6_kind.cls yX6_kind yX6_kind ∈ lw_tbl := mt_995
theorem mt_405 : (Cond.code ({ cls := "RecordLeaves$Row", name := "kind", desc := "()I" } : MethodName) prog_10_method_3_code (1 : Nat) (Option.some FieldType.int)) ∈ lw_tbl := List.mem_append_right _ (List.mem_append_right _ (List.mem_append_left _ (List.mem_of_getElem? (i := 165) (rfl))))
theorem mw_405 : (Cond.code ({ cls := "RecordLeaves$Row", name := "kind", desc := "()I" } : MethodName) prog_10_method_3_code (1 : Nat) (Option.some FieldType.int)) ∈ rl_G := rl_inG mt_405 rfl
theorem co_X8_kind : Cond.code yX8_kind cX8_kind 1 (some FieldType.int) ∈ rl_G := mw_405
theorem mt_404 : (Cond.instanceMethod ({ cls := "RecordLeaves$Row", name := "kind", desc := "()I" } : MethodName)) ∈ lw_tbl := List.mem_append_right _ (List.mem_append_right _ (List.mem_append_left _ (List.mem_of_getElem? (i := 164) (by decide +kernel))))
theorem mw_404 : (Cond.instanceMethod ({ cls := "RecordLeaves$Row", name := "kind", desc := "()I" } : MethodName)) ∈ rl_G := rl_inG mt_404 rfl
theorem im_X8_kind : Cond.instanceMethod yX8_kind ∈ rl_G := mw_404
theorem mt_411 : (Cond.code ({ cls := "RecordLeaves$Constant", name := "version", desc := "()I" } : MethodName) prog_3_method_4_code (1 : Nat) (Option.some FieldType.int)) ∈ lw_tbl := List.mem_append_right _ (List.mem_append_right _ (List.mem_append_left _ (List.mem_of_getElem? (i := 171) (rfl))))
theorem mw_411 : (Cond.code ({ cls := "RecordLeaves$Constant", name := "version", desc := "()I" } : MethodName) prog_3_method_4_code (1 : Nat) (Option.some FieldType.int)) ∈ rl_G := rl_inG mt_411 rfl
theorem co_X1_version : Cond.code yX1_version cX1_version 1 (some FieldType.int) ∈ rl_G := mw_411
theorem mt_410 : (Cond.instanceMethod ({ cls := "RecordLeaves$Constant", name := "version", desc := "()I" } : MethodName)) ∈ lw_tbl := List.mem_append_right _ (List.mem_append_right _ (List.mem_append_left _ (List.mem_of_getElem? (i := 170) (by decide +kernel))))
theorem mw_410 : (Cond.instanceMethod ({ cls := "RecordLeaves$Constant", name := "version", desc := "()I" } : MethodName)) ∈ rl_G := rl_inG mt_410 rfl
theorem im_X1_version : Cond.instanceMethod yX1_version ∈ rl_G := mw_410
theorem mt_414 : (Cond.code ({ cls := "RecordLeaves$RecordThing", name := "version", desc := "()I" } : MethodName) prog_8_method_4_code (1 : Nat) (Option.some FieldType.int)) ∈ lw_tbl := List.mem_append_right _ (List.mem_append_right _ (List.mem_append_left _ (List.mem_of_getElem? (i := 174) (rfl))))
theorem mw_414 : (Cond.code ({ cls := "RecordLeaves$RecordThing", name := "version", desc := "()I" } : MethodName) prog_8_method_4_code (1 : Nat) (Option.some FieldType.int)) ∈ rl_G := rl_inG mt_414 rfl
theorem co_X6_version : Cond.code yX6_version cX6_version 1 (some FieldType.int) ∈ rl_G := mw_414
theorem mt_413 : (Cond.instanceMethod ({ cls := "RecordLeaves$RecordThing", name := "version", desc := "()I" } : MethodName)) ∈ lw_tbl := List.mem_append_right _ (List.mem_append_right _ (List.mem_append_left _ (List.mem_of_getElem? (i := 173) (by decide +kernel))))
theorem mw_413 : (Cond.instanceMethod ({ cls := "RecordLeaves$RecordThing", name := "version", desc := "()I" } : MethodName)) ∈ rl_G := rl_inG mt_413 rfl
theorem im_X6_version : Cond.instanceMethod yX6_version ∈ rl_G := mw_413
theorem mt_417 : (Cond.code ({ cls := "RecordLeaves$Row", name := "version", desc := "()I" } : MethodName) prog_10_method_4_code (1 : Nat) (Option.some FieldType.int)) ∈ lw_tbl := List.mem_append_right _ (List.mem_append_right _ (List.mem_append_left _ (List.mem_of_getElem? (i := 177) (rfl))))
theorem mw_417 : (Cond.code ({ cls := "RecordLeaves$Row", name := "version", desc := "()I" } : MethodName) prog_10_method_4_code (1 : Nat) (Option.some FieldType.int)) ∈ rl_G := rl_inG mt_417 rfl
theorem co_X8_version : Cond.code yX8_version cX8_version 1 (some FieldType.int) ∈ rl_G := mw_417
theorem mt_416 : (Cond.instanceMethod ({ cls := "RecordLeaves$Row", name := "version", desc := "()I" } : MethodName)) ∈ lw_tbl := List.mem_append_right _ (List.mem_append_right _ (List.mem_append_left _ (List.mem_of_getElem? (i := 176) (by decide +kernel))))
theorem mw_416 : (Cond.instanceMethod ({ cls := "RecordLeaves$Row", name := "version", desc := "()I" } : MethodName)) ∈ rl_G := rl_inG mt_416 rfl
theorem im_X8_version : Cond.instanceMethod yX8_version ∈ rl_G := mw_416
theorem mt_421 : (Cond.code ({ cls := "RecordLeaves$Check", name := "whyNotPassed", desc := "(LRecordLeaves$RecordThing;)I" } : MethodName) prog_2_method_2_code (2 : Nat) (Option.some FieldType.int)) ∈ lw_tbl := List.mem_append_right _ (List.mem_append_right _ (List.mem_append_left _ (List.mem_of_getElem? (i := 181) (rfl))))
theorem mw_421 : (Cond.code ({ cls := "RecordLeaves$Check", name := "whyNotPassed", desc := "(LRecordLeaves$RecordThing;)I" } : MethodName) prog_2_method_2_code (2 : Nat) (Option.some FieldType.int)) ∈ rl_G := rl_inG mt_421 rfl
theorem co_X0_whyNotPassed : Cond.code yX0_whyNotPassed cX0_whyNotPassed 2 (some FieldType.int) ∈ rl_G := mw_421
theorem mt_419 : (Cond.instanceMethod ({ cls := "RecordLeaves$Check", name := "whyNotPassed", desc := "(LRecordLeaves$RecordThing;)I" } : MethodName)) ∈ lw_tbl := List.mem_append_right _ (List.mem_append_right _ (List.mem_append_left _ (List.mem_of_getElem? (i := 179) (by decide +kernel))))
theorem mw_419 : (Cond.instanceMethod ({ cls := "RecordLeaves$Check", name := "whyNotPassed", desc := "(LRecordLeaves$RecordThing;)I" } : MethodName)) ∈ rl_G := rl_inG mt_419 rfl
theorem im_X0_whyNotPassed : Cond.instanceMethod yX0_whyNotPassed ∈ rl_G := mw_419
theorem mt_420 : (Cond.selects "RecordLeaves$Check" ({ cls := "RecordLeaves$Check", name := "whyNotPassed", desc := "(LRecordLeaves$RecordThing;)I" } : MethodName) ({ cls := "RecordLeaves$Check", name := "whyNotPassed", desc := "(LRecordLeaves$RecordThing;)I" } : MethodName)) ∈ lw_tbl := List.mem_append_right _ (List.mem_append_right _ (List.mem_append_left _ (List.mem_of_getElem? (i := 180) (by decide +kernel))))
theorem sl_X0_whyNotPassed : Cond.selects yX0_whyNotPassed.cls yX0_whyNotPassed yX0_whyNotPassed ∈ lw_tbl := mt_420
theorem mt_424 : (Cond.code ({ cls := "RecordLeaves$Check", name := "ownUnless", desc := "(Z)I" } : MethodName) prog_2_method_3_code (1 : Nat) (Option.some FieldType.int)) ∈ lw_tbl := List.mem_append_right _ (List.mem_append_right _ (List.mem_append_left _ (List.mem_of_getElem? (i := 184) (rfl))))
theorem mw_424 : (Cond.code ({ cls := "RecordLeaves$Check", name := "ownUnless", desc := "(Z)I" } : MethodName) prog_2_method_3_code (1 : Nat) (Option.some FieldType.int)) ∈ rl_G := rl_inG mt_424 rfl
theorem co_X0_ownUnless : Cond.code yX0_ownUnless cX0_ownUnless 1 (some FieldType.int) ∈ rl_G := mw_424
theorem mt_423 : (Cond.static ({ cls := "RecordLeaves$Check", name := "ownUnless", desc := "(Z)I" } : MethodName)) ∈ lw_tbl := List.mem_append_right _ (List.mem_append_right _ (List.mem_append_left _ (List.mem_of_getElem? (i := 183) (by decide +kernel))))
theorem mw_423 : (Cond.static ({ cls := "RecordLeaves$Check", name := "ownUnless", desc := "(Z)I" } : MethodName)) ∈ rl_G := rl_inG mt_423 rfl
theorem sm_X0_ownUnless : Cond.static yX0_ownUnless ∈ rl_G := mw_423
theorem mt_427 : (Cond.code ({ cls := "RecordLeaves$Check", name := "whyNotDivisor", desc := "(J)I" } : MethodName) prog_2_method_4_code (2 : Nat) (Option.some FieldType.int)) ∈ lw_tbl := List.mem_append_right _ (List.mem_append_right _ (List.mem_append_left _ (List.mem_of_getElem? (i := 187) (rfl))))
theorem mw_427 : (Cond.code ({ cls := "RecordLeaves$Check", name := "whyNotDivisor", desc := "(J)I" } : MethodName) prog_2_method_4_code (2 : Nat) (Option.some FieldType.int)) ∈ rl_G := rl_inG mt_427 rfl
theorem co_X0_whyNotDivisor : Cond.code yX0_whyNotDivisor cX0_whyNotDivisor 2 (some FieldType.int) ∈ rl_G := mw_427
theorem mt_426 : (Cond.static ({ cls := "RecordLeaves$Check", name := "whyNotDivisor", desc := "(J)I" } : MethodName)) ∈ lw_tbl := List.mem_append_right _ (List.mem_append_right _ (List.mem_append_left _ (List.mem_of_getElem? (i := 186) (by decide +kernel))))
theorem mw_426 : (Cond.static ({ cls := "RecordLeaves$Check", name := "whyNotDivisor", desc := "(J)I" } : MethodName)) ∈ rl_G := rl_inG mt_426 rfl
theorem sm_X0_whyNotDivisor : Cond.static yX0_whyNotDivisor ∈ rl_G := mw_426
theorem mt_431 : (Cond.code ({ cls := "RecordLeaves$Check", name := "whyNotItemAbove", desc := "(LRecordLeaves$Thing;J)I" } : MethodName) prog_2_method_5_code (4 : Nat) (Option.some FieldType.int)) ∈ lw_tbl := List.mem_append_right _ (List.mem_append_right _ (List.mem_append_left _ (List.mem_of_getElem? (i := 191) (rfl))))
theorem mw_431 : (Cond.code ({ cls := "RecordLeaves$Check", name := "whyNotItemAbove", desc := "(LRecordLeaves$Thing;J)I" } : MethodName) prog_2_method_5_code (4 : Nat) (Option.some FieldType.int)) ∈ rl_G := rl_inG mt_431 rfl
theorem co_X0_whyNotItemAbove : Cond.code yX0_whyNotItemAbove cX0_whyNotItemAbove 4 (some FieldType.int) ∈ rl_G := mw_431
theorem mt_430 : (Cond.static ({ cls := "RecordLeaves$Check", name := "whyNotItemAbove", desc := "(LRecordLeaves$Thing;J)I" } : MethodName)) ∈ lw_tbl := List.mem_append_right _ (List.mem_append_right _ (List.mem_append_left _ (List.mem_of_getElem? (i := 190) (by decide +kernel))))
theorem mw_430 : (Cond.static ({ cls := "RecordLeaves$Check", name := "whyNotItemAbove", desc := "(LRecordLeaves$Thing;J)I" } : MethodName)) ∈ rl_G := rl_inG mt_430 rfl
theorem sm_X0_whyNotItemAbove : Cond.static yX0_whyNotItemAbove ∈ rl_G := mw_430
theorem mt_435 : (Cond.code ({ cls := "RecordLeaves$Check", name := "whyNotPartIs", desc := "(LRecordLeaves$Thing;J)I" } : MethodName) prog_2_method_6_code (4 : Nat) (Option.some FieldType.int)) ∈ lw_tbl := List.mem_append_right _ (List.mem_append_right _ (List.mem_append_left _ (List.mem_of_getElem? (i := 195) (rfl))))
theorem mw_435 : (Cond.code ({ cls := "RecordLeaves$Check", name := "whyNotPartIs", desc := "(LRecordLeaves$Thing;J)I" } : MethodName) prog_2_method_6_code (4 : Nat) (Option.some FieldType.int)) ∈ rl_G := rl_inG mt_435 rfl
theorem co_X0_whyNotPartIs : Cond.code yX0_whyNotPartIs cX0_whyNotPartIs 4 (some FieldType.int) ∈ rl_G := mw_435
theorem mt_434 : (Cond.static ({ cls := "RecordLeaves$Check", name := "whyNotPartIs", desc := "(LRecordLeaves$Thing;J)I" } : MethodName)) ∈ lw_tbl := List.mem_append_right _ (List.mem_append_right _ (List.mem_append_left _ (List.mem_of_getElem? (i := 194) (by decide +kernel))))
theorem mw_434 : (Cond.static ({ cls := "RecordLeaves$Check", name := "whyNotPartIs", desc := "(LRecordLeaves$Thing;J)I" } : MethodName)) ∈ rl_G := rl_inG mt_434 rfl
theorem sm_X0_whyNotPartIs : Cond.static yX0_whyNotPartIs ∈ rl_G := mw_434
theorem mt_441 : (Cond.code ({ cls := "RecordLeaves$Check", name := "whyNotOrderBelow", desc := "(LRecordLeaves$Thing;J)I" } : MethodName) prog_2_method_7_code (4 : Nat) (Option.some FieldType.int)) ∈ lw_tbl := List.mem_append_right _ (List.mem_append_right _ (List.mem_append_left _ (List.mem_of_getElem? (i := 201) (rfl))))
theorem mw_441 : (Cond.code ({ cls := "RecordLeaves$Check", name := "whyNotOrderBelow", desc := "(LRecordLeaves$Thing;J)I" } : MethodName) prog_2_method_7_code (4 : Nat) (Option.some FieldType.int)) ∈ rl_G := rl_inG mt_441 rfl
theorem co_X0_whyNotOrderBelow : Cond.code yX0_whyNotOrderBelow cX0_whyNotOrderBelow 4 (some FieldType.int) ∈ rl_G := mw_441
theorem mt_440 : (Cond.static ({ cls := "RecordLeaves$Check", name := "whyNotOrderBelow", desc := "(LRecordLeaves$Thing;J)I" } : MethodName)) ∈ lw_tbl := List.mem_append_right _ (List.mem_append_right _ (List.mem_append_left _ (List.mem_of_getElem? (i := 200) (by decide +kernel))))
theorem mw_440 : (Cond.static ({ cls := "RecordLeaves$Check", name := "whyNotOrderBelow", desc := "(LRecordLeaves$Thing;J)I" } : MethodName)) ∈ rl_G := rl_inG mt_440 rfl
theorem sm_X0_whyNotOrderBelow : Cond.static yX0_whyNotOrderBelow ∈ rl_G := mw_440
theorem mt_446 : (Cond.code ({ cls := "RecordLeaves", name := "rememberCause", desc := "(III)V" } : MethodName) prog_1_method_23_code (4 : Nat) (Option.none : Option FieldType)) ∈ lw_tbl := List.mem_append_right _ (List.mem_append_right _ (List.mem_append_left _ (List.mem_of_getElem? (i := 206) (rfl))))
theorem mw_446 : (Cond.code ({ cls := "RecordLeaves", name := "rememberCause", desc := "(III)V" } : MethodName) prog_1_method_23_code (4 : Nat) (Option.none : Option FieldType)) ∈ rl_G := rl_inG mt_446 rfl
theorem co_X11_rememberCause : Cond.code yX11_rememberCause cX11_rememberCause 4 none ∈ rl_G := mw_446
theorem mt_445 : (Cond.instanceMethod ({ cls := "RecordLeaves", name := "rememberCause", desc := "(III)V" } : MethodName)) ∈ lw_tbl := List.mem_append_right _ (List.mem_append_right _ (List.mem_append_left _ (List.mem_of_getElem? (i := 205) (by decide +kernel))))
theorem mw_445 : (Cond.instanceMethod ({ cls := "RecordLeaves", name := "rememberCause", desc := "(III)V" } : MethodName)) ∈ rl_G := rl_inG mt_445 rfl
theorem im_X11_rememberCause : Cond.instanceMethod yX11_rememberCause ∈ rl_G := mw_445
theorem sl_X11_rememberCause : Cond.selects yX11_rememberCause.cls yX11_rememberCause yX11_rememberCause ∈ lw_tbl := List.mem_append_left _ (by decide +kernel)
theorem mt_450 : (Cond.code ({ cls := "RecordLeaves", name := "about", desc := "(II)I" } : MethodName) prog_1_method_11_code (4 : Nat) (Option.some FieldType.int)) ∈ lw_tbl := List.mem_append_right _ (List.mem_append_right _ (List.mem_append_left _ (List.mem_of_getElem? (i := 210) (rfl))))
theorem mw_450 : (Cond.code ({ cls := "RecordLeaves", name := "about", desc := "(II)I" } : MethodName) prog_1_method_11_code (4 : Nat) (Option.some FieldType.int)) ∈ rl_G := rl_inG mt_450 rfl
theorem co_X11_about : Cond.code yX11_about cX11_about 4 (some FieldType.int) ∈ rl_G := mw_450
theorem mt_448 : (Cond.instanceMethod ({ cls := "RecordLeaves", name := "about", desc := "(II)I" } : MethodName)) ∈ lw_tbl := List.mem_append_right _ (List.mem_append_right _ (List.mem_append_left _ (List.mem_of_getElem? (i := 208) (by decide +kernel))))
theorem mw_448 : (Cond.instanceMethod ({ cls := "RecordLeaves", name := "about", desc := "(II)I" } : MethodName)) ∈ rl_G := rl_inG mt_448 rfl
theorem im_X11_about : Cond.instanceMethod yX11_about ∈ rl_G := mw_448
theorem mt_449 : (Cond.selects "RecordLeaves" ({ cls := "RecordLeaves", name := "about", desc := "(II)I" } : MethodName) ({ cls := "RecordLeaves", name := "about", desc := "(II)I" } : MethodName)) ∈ lw_tbl := List.mem_append_right _ (List.mem_append_right _ (List.mem_append_left _ (List.mem_of_getElem? (i := 209) (by decide +kernel))))
theorem sl_X11_about : Cond.selects yX11_about.cls yX11_about yX11_about ∈ lw_tbl := mt_449
theorem mt_458 : (Cond.code ({ cls := "RecordLeaves$Constant", name := "extent", desc := "()I" } : MethodName) prog_3_method_5_code (1 : Nat) (Option.some FieldType.int)) ∈ lw_tbl := List.mem_append_right _ (List.mem_append_right _ (List.mem_append_left _ (List.mem_of_getElem? (i := 218) (rfl))))
theorem mw_458 : (Cond.code ({ cls := "RecordLeaves$Constant", name := "extent", desc := "()I" } : MethodName) prog_3_method_5_code (1 : Nat) (Option.some FieldType.int)) ∈ rl_G := rl_inG mt_458 rfl
theorem co_X1_extent : Cond.code yX1_extent cX1_extent 1 (some FieldType.int) ∈ rl_G := mw_458
theorem mt_457 : (Cond.instanceMethod ({ cls := "RecordLeaves$Constant", name := "extent", desc := "()I" } : MethodName)) ∈ lw_tbl := List.mem_append_right _ (List.mem_append_right _ (List.mem_append_left _ (List.mem_of_getElem? (i := 217) (by decide +kernel))))
theorem mw_457 : (Cond.instanceMethod ({ cls := "RecordLeaves$Constant", name := "extent", desc := "()I" } : MethodName)) ∈ rl_G := rl_inG mt_457 rfl
theorem im_X1_extent : Cond.instanceMethod yX1_extent ∈ rl_G := mw_457
theorem mt_462 : (Cond.code ({ cls := "RecordLeaves$Row", name := "extent", desc := "()I" } : MethodName) prog_10_method_5_code (1 : Nat) (Option.some FieldType.int)) ∈ lw_tbl := List.mem_append_right _ (List.mem_append_right _ (List.mem_append_left _ (List.mem_of_getElem? (i := 222) (rfl))))
theorem mw_462 : (Cond.code ({ cls := "RecordLeaves$Row", name := "extent", desc := "()I" } : MethodName) prog_10_method_5_code (1 : Nat) (Option.some FieldType.int)) ∈ rl_G := rl_inG mt_462 rfl
theorem co_X8_extent : Cond.code yX8_extent cX8_extent 1 (some FieldType.int) ∈ rl_G := mw_462
theorem mt_461 : (Cond.instanceMethod ({ cls := "RecordLeaves$Row", name := "extent", desc := "()I" } : MethodName)) ∈ lw_tbl := List.mem_append_right _ (List.mem_append_right _ (List.mem_append_left _ (List.mem_of_getElem? (i := 221) (by decide +kernel))))
theorem mw_461 : (Cond.instanceMethod ({ cls := "RecordLeaves$Row", name := "extent", desc := "()I" } : MethodName)) ∈ rl_G := rl_inG mt_461 rfl
theorem im_X8_extent : Cond.instanceMethod yX8_extent ∈ rl_G := mw_461
theorem mt_466 : (Cond.code ({ cls := "RecordLeaves", name := "number", desc := "(II)J" } : MethodName) prog_1_method_12_code (5 : Nat) (Option.some FieldType.long)) ∈ lw_tbl := List.mem_append_right _ (List.mem_append_right _ (List.mem_append_left _ (List.mem_of_getElem? (i := 226) (rfl))))
theorem mw_466 : (Cond.code ({ cls := "RecordLeaves", name := "number", desc := "(II)J" } : MethodName) prog_1_method_12_code (5 : Nat) (Option.some FieldType.long)) ∈ rl_G := rl_inG mt_466 rfl
theorem co_X11_number : Cond.code yX11_number cX11_number 5 (some FieldType.long) ∈ rl_G := mw_466
theorem mt_464 : (Cond.instanceMethod ({ cls := "RecordLeaves", name := "number", desc := "(II)J" } : MethodName)) ∈ lw_tbl := List.mem_append_right _ (List.mem_append_right _ (List.mem_append_left _ (List.mem_of_getElem? (i := 224) (by decide +kernel))))
theorem mw_464 : (Cond.instanceMethod ({ cls := "RecordLeaves", name := "number", desc := "(II)J" } : MethodName)) ∈ rl_G := rl_inG mt_464 rfl
theorem im_X11_number : Cond.instanceMethod yX11_number ∈ rl_G := mw_464
theorem mt_465 : (Cond.selects "RecordLeaves" ({ cls := "RecordLeaves", name := "number", desc := "(II)J" } : MethodName) ({ cls := "RecordLeaves", name := "number", desc := "(II)J" } : MethodName)) ∈ lw_tbl := List.mem_append_right _ (List.mem_append_right _ (List.mem_append_left _ (List.mem_of_getElem? (i := 225) (by decide +kernel))))
theorem sl_X11_number : Cond.selects yX11_number.cls yX11_number yX11_number ∈ lw_tbl := mt_465
theorem mt_471 : (Cond.code ({ cls := "RecordLeaves", name := "take", desc := "(III)I" } : MethodName) prog_1_method_13_code (6 : Nat) (Option.some FieldType.int)) ∈ lw_tbl := List.mem_append_right _ (List.mem_append_right _ (List.mem_append_left _ (List.mem_of_getElem? (i := 231) (rfl))))
theorem mw_471 : (Cond.code ({ cls := "RecordLeaves", name := "take", desc := "(III)I" } : MethodName) prog_1_method_13_code (6 : Nat) (Option.some FieldType.int)) ∈ rl_G := rl_inG mt_471 rfl
theorem co_X11_take : Cond.code yX11_take cX11_take 6 (some FieldType.int) ∈ rl_G := mw_471
theorem mt_469 : (Cond.instanceMethod ({ cls := "RecordLeaves", name := "take", desc := "(III)I" } : MethodName)) ∈ lw_tbl := List.mem_append_right _ (List.mem_append_right _ (List.mem_append_left _ (List.mem_of_getElem? (i := 229) (by decide +kernel))))
theorem mw_469 : (Cond.instanceMethod ({ cls := "RecordLeaves", name := "take", desc := "(III)I" } : MethodName)) ∈ rl_G := rl_inG mt_469 rfl
theorem im_X11_take : Cond.instanceMethod yX11_take ∈ rl_G := mw_469
theorem mt_470 : (Cond.selects "RecordLeaves" ({ cls := "RecordLeaves", name := "take", desc := "(III)I" } : MethodName) ({ cls := "RecordLeaves", name := "take", desc := "(III)I" } : MethodName)) ∈ lw_tbl := List.mem_append_right _ (List.mem_append_right _ (List.mem_append_left _ (List.mem_of_getElem? (i := 230) (by decide +kernel))))
theorem sl_X11_take : Cond.selects yX11_take.cls yX11_take yX11_take ∈ lw_tbl := mt_470
theorem mt_475 : (Cond.code ({ cls := "RecordLeaves", name := "like", desc := "(II)I" } : MethodName) prog_1_method_14_code (3 : Nat) (Option.some FieldType.int)) ∈ lw_tbl := List.mem_append_right _ (List.mem_append_right _ (List.mem_append_left _ (List.mem_of_getElem? (i := 235) (rfl))))
theorem mw_475 : (Cond.code ({ cls := "RecordLeaves", name := "like", desc := "(II)I" } : MethodName) prog_1_method_14_code (3 : Nat) (Option.some FieldType.int)) ∈ rl_G := rl_inG mt_475 rfl
theorem co_X11_like : Cond.code yX11_like cX11_like 3 (some FieldType.int) ∈ rl_G := mw_475
theorem mt_473 : (Cond.instanceMethod ({ cls := "RecordLeaves", name := "like", desc := "(II)I" } : MethodName)) ∈ lw_tbl := List.mem_append_right _ (List.mem_append_right _ (List.mem_append_left _ (List.mem_of_getElem? (i := 233) (by decide +kernel))))
theorem mw_473 : (Cond.instanceMethod ({ cls := "RecordLeaves", name := "like", desc := "(II)I" } : MethodName)) ∈ rl_G := rl_inG mt_473 rfl
theorem im_X11_like : Cond.instanceMethod yX11_like ∈ rl_G := mw_473
theorem mt_474 : (Cond.selects "RecordLeaves" ({ cls := "RecordLeaves", name := "like", desc := "(II)I" } : MethodName) ({ cls := "RecordLeaves", name := "like", desc := "(II)I" } : MethodName)) ∈ lw_tbl := List.mem_append_right _ (List.mem_append_right _ (List.mem_append_left _ (List.mem_of_getElem? (i := 234) (by decide +kernel))))
theorem sl_X11_like : Cond.selects yX11_like.cls yX11_like yX11_like ∈ lw_tbl := mt_474
theorem mt_478 : (Cond.code ({ cls := "RecordLeaves", name := "alike", desc := "(LRecordLeaves$Thing;LRecordLeaves$Thing;I)Z" } : MethodName) prog_1_method_29_code (5 : Nat) (Option.some FieldType.boolean)) ∈ lw_tbl := List.mem_append_right _ (List.mem_append_right _ (List.mem_append_left _ (List.mem_of_getElem? (i := 238) (rfl))))
theorem mw_478 : (Cond.code ({ cls := "RecordLeaves", name := "alike", desc := "(LRecordLeaves$Thing;LRecordLeaves$Thing;I)Z" } : MethodName) prog_1_method_29_code (5 : Nat) (Option.some FieldType.boolean)) ∈ rl_G := rl_inG mt_478 rfl
theorem co_X11_alike : Cond.code yX11_alike cX11_alike 5 (some FieldType.boolean) ∈ rl_G := mw_478
theorem mt_477 : (Cond.static ({ cls := "RecordLeaves", name := "alike", desc := "(LRecordLeaves$Thing;LRecordLeaves$Thing;I)Z" } : MethodName)) ∈ lw_tbl := List.mem_append_right _ (List.mem_append_right _ (List.mem_append_left _ (List.mem_of_getElem? (i := 237) (by decide +kernel))))
theorem mw_477 : (Cond.static ({ cls := "RecordLeaves", name := "alike", desc := "(LRecordLeaves$Thing;LRecordLeaves$Thing;I)Z" } : MethodName)) ∈ rl_G := rl_inG mt_477 rfl
theorem sm_X11_alike : Cond.static yX11_alike ∈ rl_G := mw_477
theorem mt_481 : (Cond.code ({ cls := "RecordLeaves", name := "sameItems", desc := "([I[I)Z" } : MethodName) prog_1_method_31_code (3 : Nat) (Option.some FieldType.boolean)) ∈ lw_tbl := List.mem_append_right _ (List.mem_append_right _ (List.mem_append_right _ (List.mem_append_left _ (List.mem_of_getElem? (i := 1) (rfl)))))
theorem mw_481 : (Cond.code ({ cls := "RecordLeaves", name := "sameItems", desc := "([I[I)Z" } : MethodName) prog_1_method_31_code (3 : Nat) (Option.some FieldType.boolean)) ∈ rl_G := rl_inG mt_481 rfl
theorem co_X11_sameItems : Cond.code yX11_sameItems cX11_sameItems 3 (some FieldType.boolean) ∈ rl_G := mw_481
theorem mt_480 : (Cond.static ({ cls := "RecordLeaves", name := "sameItems", desc := "([I[I)Z" } : MethodName)) ∈ lw_tbl := List.mem_append_right _ (List.mem_append_right _ (List.mem_append_right _ (List.mem_append_left _ (List.mem_of_getElem? (i := 0) (by decide +kernel)))))
theorem mw_480 : (Cond.static ({ cls := "RecordLeaves", name := "sameItems", desc := "([I[I)Z" } : MethodName)) ∈ rl_G := rl_inG mt_480 rfl
theorem sm_X11_sameItems : Cond.static yX11_sameItems ∈ rl_G := mw_480
theorem mt_484 : (Cond.code ({ cls := "RecordLeaves", name := "alikeRecords", desc := "(LRecordLeaves$RecordThing;LRecordLeaves$RecordThing;I)Z" } : MethodName) prog_1_method_30_code (4 : Nat) (Option.some FieldType.boolean)) ∈ lw_tbl := List.mem_append_right _ (List.mem_append_right _ (List.mem_append_right _ (List.mem_append_left _ (List.mem_of_getElem? (i := 4) (rfl)))))
theorem mw_484 : (Cond.code ({ cls := "RecordLeaves", name := "alikeRecords", desc := "(LRecordLeaves$RecordThing;LRecordLeaves$RecordThing;I)Z" } : MethodName) prog_1_method_30_code (4 : Nat) (Option.some FieldType.boolean)) ∈ rl_G := rl_inG mt_484 rfl
theorem co_X11_alikeRecords : Cond.code yX11_alikeRecords cX11_alikeRecords 4 (some FieldType.boolean) ∈ rl_G := mw_484
theorem mt_483 : (Cond.static ({ cls := "RecordLeaves", name := "alikeRecords", desc := "(LRecordLeaves$RecordThing;LRecordLeaves$RecordThing;I)Z" } : MethodName)) ∈ lw_tbl := List.mem_append_right _ (List.mem_append_right _ (List.mem_append_right _ (List.mem_append_left _ (List.mem_of_getElem? (i := 3) (by decide +kernel)))))
theorem mw_483 : (Cond.static ({ cls := "RecordLeaves", name := "alikeRecords", desc := "(LRecordLeaves$RecordThing;LRecordLeaves$RecordThing;I)Z" } : MethodName)) ∈ rl_G := rl_inG mt_483 rfl
theorem sm_X11_alikeRecords : Cond.static yX11_alikeRecords ∈ rl_G := mw_483
theorem mt_488 : (Cond.code ({ cls := "RecordLeaves", name := "write", desc := "(I)I" } : MethodName) prog_1_method_15_code (4 : Nat) (Option.some FieldType.int)) ∈ lw_tbl := List.mem_append_right _ (List.mem_append_right _ (List.mem_append_right _ (List.mem_append_left _ (List.mem_of_getElem? (i := 8) (rfl)))))
theorem mw_488 : (Cond.code ({ cls := "RecordLeaves", name := "write", desc := "(I)I" } : MethodName) prog_1_method_15_code (4 : Nat) (Option.some FieldType.int)) ∈ rl_G := rl_inG mt_488 rfl
theorem co_X11_write : Cond.code yX11_write cX11_write 4 (some FieldType.int) ∈ rl_G := mw_488
theorem mt_486 : (Cond.instanceMethod ({ cls := "RecordLeaves", name := "write", desc := "(I)I" } : MethodName)) ∈ lw_tbl := List.mem_append_right _ (List.mem_append_right _ (List.mem_append_right _ (List.mem_append_left _ (List.mem_of_getElem? (i := 6) (by decide +kernel)))))
theorem mw_486 : (Cond.instanceMethod ({ cls := "RecordLeaves", name := "write", desc := "(I)I" } : MethodName)) ∈ rl_G := rl_inG mt_486 rfl
theorem im_X11_write : Cond.instanceMethod yX11_write ∈ rl_G := mw_486
theorem mt_487 : (Cond.selects "RecordLeaves" ({ cls := "RecordLeaves", name := "write", desc := "(I)I" } : MethodName) ({ cls := "RecordLeaves", name := "write", desc := "(I)I" } : MethodName)) ∈ lw_tbl := List.mem_append_right _ (List.mem_append_right _ (List.mem_append_right _ (List.mem_append_left _ (List.mem_of_getElem? (i := 7) (by decide +kernel)))))
theorem sl_X11_write : Cond.selects yX11_write.cls yX11_write yX11_write ∈ lw_tbl := mt_487
theorem mt_492 : (Cond.code ({ cls := "RecordLeaves$Tape", name := "replaceBy", desc := "(LRecordLeaves$RecordThing;)I" } : MethodName) prog_11_method_2_code (2 : Nat) (Option.some FieldType.int)) ∈ lw_tbl := List.mem_append_right _ (List.mem_append_right _ (List.mem_append_right _ (List.mem_append_left _ (List.mem_of_getElem? (i := 12) (rfl)))))
theorem mw_492 : (Cond.code ({ cls := "RecordLeaves$Tape", name := "replaceBy", desc := "(LRecordLeaves$RecordThing;)I" } : MethodName) prog_11_method_2_code (2 : Nat) (Option.some FieldType.int)) ∈ rl_G := rl_inG mt_492 rfl
theorem co_X9_replaceBy : Cond.code yX9_replaceBy cX9_replaceBy 2 (some FieldType.int) ∈ rl_G := mw_492
theorem mt_490 : (Cond.instanceMethod ({ cls := "RecordLeaves$Tape", name := "replaceBy", desc := "(LRecordLeaves$RecordThing;)I" } : MethodName)) ∈ lw_tbl := List.mem_append_right _ (List.mem_append_right _ (List.mem_append_right _ (List.mem_append_left _ (List.mem_of_getElem? (i := 10) (by decide +kernel)))))
theorem mw_490 : (Cond.instanceMethod ({ cls := "RecordLeaves$Tape", name := "replaceBy", desc := "(LRecordLeaves$RecordThing;)I" } : MethodName)) ∈ rl_G := rl_inG mt_490 rfl
theorem im_X9_replaceBy : Cond.instanceMethod yX9_replaceBy ∈ rl_G := mw_490
theorem mt_491 : (Cond.selects "RecordLeaves$Tape" ({ cls := "RecordLeaves$Tape", name := "replaceBy", desc := "(LRecordLeaves$RecordThing;)I" } : MethodName) ({ cls := "RecordLeaves$Tape", name := "replaceBy", desc := "(LRecordLeaves$RecordThing;)I" } : MethodName)) ∈ lw_tbl := List.mem_append_right _ (List.mem_append_right _ (List.mem_append_right _ (List.mem_append_left _ (List.mem_of_getElem? (i := 11) (by decide +kernel)))))
theorem sl_X9_replaceBy : Cond.selects yX9_replaceBy.cls yX9_replaceBy yX9_replaceBy ∈ lw_tbl := mt_491
theorem mt_496 : (Cond.code ({ cls := "RecordLeaves$Tape", name := "putRecord", desc := "(LRecordLeaves$RecordThing;I)V" } : MethodName) prog_11_method_4_code (4 : Nat) (Option.none : Option FieldType)) ∈ lw_tbl := List.mem_append_right _ (List.mem_append_right _ (List.mem_append_right _ (List.mem_append_left _ (List.mem_of_getElem? (i := 16) (rfl)))))
theorem mw_496 : (Cond.code ({ cls := "RecordLeaves$Tape", name := "putRecord", desc := "(LRecordLeaves$RecordThing;I)V" } : MethodName) prog_11_method_4_code (4 : Nat) (Option.none : Option FieldType)) ∈ rl_G := rl_inG mt_496 rfl
theorem co_X9_putRecord : Cond.code yX9_putRecord cX9_putRecord 4 none ∈ rl_G := mw_496
theorem mt_495 : (Cond.instanceMethod ({ cls := "RecordLeaves$Tape", name := "putRecord", desc := "(LRecordLeaves$RecordThing;I)V" } : MethodName)) ∈ lw_tbl := List.mem_append_right _ (List.mem_append_right _ (List.mem_append_right _ (List.mem_append_left _ (List.mem_of_getElem? (i := 15) (by decide +kernel)))))
theorem mw_495 : (Cond.instanceMethod ({ cls := "RecordLeaves$Tape", name := "putRecord", desc := "(LRecordLeaves$RecordThing;I)V" } : MethodName)) ∈ rl_G := rl_inG mt_495 rfl
theorem im_X9_putRecord : Cond.instanceMethod yX9_putRecord ∈ rl_G := mw_495
theorem sl_X9_putRecord : Cond.selects yX9_putRecord.cls yX9_putRecord yX9_putRecord ∈ lw_tbl := List.mem_append_left _ (by decide +kernel)
theorem mt_501 : (Cond.code ({ cls := "RecordLeaves$Tape", name := "put", desc := "(J)V" } : MethodName) prog_11_method_3_code (3 : Nat) (Option.none : Option FieldType)) ∈ lw_tbl := List.mem_append_right _ (List.mem_append_right _ (List.mem_append_right _ (List.mem_append_left _ (List.mem_of_getElem? (i := 21) (rfl)))))
theorem mw_501 : (Cond.code ({ cls := "RecordLeaves$Tape", name := "put", desc := "(J)V" } : MethodName) prog_11_method_3_code (3 : Nat) (Option.none : Option FieldType)) ∈ rl_G := rl_inG mt_501 rfl
theorem co_X9_put : Cond.code yX9_put cX9_put 3 none ∈ rl_G := mw_501
theorem mt_500 : (Cond.instanceMethod ({ cls := "RecordLeaves$Tape", name := "put", desc := "(J)V" } : MethodName)) ∈ lw_tbl := List.mem_append_right _ (List.mem_append_right _ (List.mem_append_right _ (List.mem_append_left _ (List.mem_of_getElem? (i := 20) (by decide +kernel)))))
theorem mw_500 : (Cond.instanceMethod ({ cls := "RecordLeaves$Tape", name := "put", desc := "(J)V" } : MethodName)) ∈ rl_G := rl_inG mt_500 rfl
theorem im_X9_put : Cond.instanceMethod yX9_put ∈ rl_G := mw_500
theorem sl_X9_put : Cond.selects yX9_put.cls yX9_put yX9_put ∈ lw_tbl := List.mem_append_left _ (by decide +kernel)
theorem mt_509 : (Cond.code ({ cls := "RecordLeaves$Tape", name := "putValue", desc := "(LRecordLeaves$RecordThing;II)V" } : MethodName) prog_11_method_5_code (8 : Nat) (Option.none : Option FieldType)) ∈ lw_tbl := List.mem_append_right _ (List.mem_append_right _ (List.mem_append_right _ (List.mem_append_left _ (List.mem_of_getElem? (i := 29) (rfl)))))
theorem mw_509 : (Cond.code ({ cls := "RecordLeaves$Tape", name := "putValue", desc := "(LRecordLeaves$RecordThing;II)V" } : MethodName) prog_11_method_5_code (8 : Nat) (Option.none : Option FieldType)) ∈ rl_G := rl_inG mt_509 rfl
theorem co_X9_putValue : Cond.code yX9_putValue cX9_putValue 8 none ∈ rl_G := mw_509
theorem mt_508 : (Cond.instanceMethod ({ cls := "RecordLeaves$Tape", name := "putValue", desc := "(LRecordLeaves$RecordThing;II)V" } : MethodName)) ∈ lw_tbl := List.mem_append_right _ (List.mem_append_right _ (List.mem_append_right _ (List.mem_append_left _ (List.mem_of_getElem? (i := 28) (by decide +kernel)))))
theorem mw_508 : (Cond.instanceMethod ({ cls := "RecordLeaves$Tape", name := "putValue", desc := "(LRecordLeaves$RecordThing;II)V" } : MethodName)) ∈ rl_G := rl_inG mt_508 rfl
theorem im_X9_putValue : Cond.instanceMethod yX9_putValue ∈ rl_G := mw_508
theorem sl_X9_putValue : Cond.selects yX9_putValue.cls yX9_putValue yX9_putValue ∈ lw_tbl := List.mem_append_left _ (by decide +kernel)
theorem mt_517 : (Cond.code ({ cls := "RecordLeaves$Tape", name := "putItems", desc := "([I)V" } : MethodName) prog_11_method_6_code (3 : Nat) (Option.none : Option FieldType)) ∈ lw_tbl := List.mem_append_right _ (List.mem_append_right _ (List.mem_append_right _ (List.mem_append_left _ (List.mem_of_getElem? (i := 37) (rfl)))))
theorem mw_517 : (Cond.code ({ cls := "RecordLeaves$Tape", name := "putItems", desc := "([I)V" } : MethodName) prog_11_method_6_code (3 : Nat) (Option.none : Option FieldType)) ∈ rl_G := rl_inG mt_517 rfl
theorem co_X9_putItems : Cond.code yX9_putItems cX9_putItems 3 none ∈ rl_G := mw_517
theorem mt_516 : (Cond.instanceMethod ({ cls := "RecordLeaves$Tape", name := "putItems", desc := "([I)V" } : MethodName)) ∈ lw_tbl := List.mem_append_right _ (List.mem_append_right _ (List.mem_append_right _ (List.mem_append_left _ (List.mem_of_getElem? (i := 36) (by decide +kernel)))))
theorem mw_516 : (Cond.instanceMethod ({ cls := "RecordLeaves$Tape", name := "putItems", desc := "([I)V" } : MethodName)) ∈ rl_G := rl_inG mt_516 rfl
theorem im_X9_putItems : Cond.instanceMethod yX9_putItems ∈ rl_G := mw_516
theorem sl_X9_putItems : Cond.selects yX9_putItems.cls yX9_putItems yX9_putItems ∈ lw_tbl := List.mem_append_left _ (by decide +kernel)
theorem mt_525 : (Cond.code ({ cls := "RecordLeaves", name := "leaf", desc := "(I)J" } : MethodName) prog_1_method_16_code (2 : Nat) (Option.some FieldType.long)) ∈ lw_tbl := List.mem_append_right _ (List.mem_append_right _ (List.mem_append_right _ (List.mem_append_left _ (List.mem_of_getElem? (i := 45) (rfl)))))
theorem mw_525 : (Cond.code ({ cls := "RecordLeaves", name := "leaf", desc := "(I)J" } : MethodName) prog_1_method_16_code (2 : Nat) (Option.some FieldType.long)) ∈ rl_G := rl_inG mt_525 rfl
theorem co_X11_leaf : Cond.code yX11_leaf cX11_leaf 2 (some FieldType.long) ∈ rl_G := mw_525
theorem mt_523 : (Cond.instanceMethod ({ cls := "RecordLeaves", name := "leaf", desc := "(I)J" } : MethodName)) ∈ lw_tbl := List.mem_append_right _ (List.mem_append_right _ (List.mem_append_right _ (List.mem_append_left _ (List.mem_of_getElem? (i := 43) (by decide +kernel)))))
theorem mw_523 : (Cond.instanceMethod ({ cls := "RecordLeaves", name := "leaf", desc := "(I)J" } : MethodName)) ∈ rl_G := rl_inG mt_523 rfl
theorem im_X11_leaf : Cond.instanceMethod yX11_leaf ∈ rl_G := mw_523
theorem mt_524 : (Cond.selects "RecordLeaves" ({ cls := "RecordLeaves", name := "leaf", desc := "(I)J" } : MethodName) ({ cls := "RecordLeaves", name := "leaf", desc := "(I)J" } : MethodName)) ∈ lw_tbl := List.mem_append_right _ (List.mem_append_right _ (List.mem_append_right _ (List.mem_append_left _ (List.mem_of_getElem? (i := 44) (by decide +kernel)))))
theorem sl_X11_leaf : Cond.selects yX11_leaf.cls yX11_leaf yX11_leaf ∈ lw_tbl := mt_524
theorem mt_529 : (Cond.code ({ cls := "RecordLeaves", name := "set", desc := "(IJ)I" } : MethodName) prog_1_method_17_code (4 : Nat) (Option.some FieldType.int)) ∈ lw_tbl := List.mem_append_right _ (List.mem_append_right _ (List.mem_append_right _ (List.mem_append_left _ (List.mem_of_getElem? (i := 49) (rfl)))))
theorem mw_529 : (Cond.code ({ cls := "RecordLeaves", name := "set", desc := "(IJ)I" } : MethodName) prog_1_method_17_code (4 : Nat) (Option.some FieldType.int)) ∈ rl_G := rl_inG mt_529 rfl
theorem co_X11_set : Cond.code yX11_set cX11_set 4 (some FieldType.int) ∈ rl_G := mw_529
theorem mt_527 : (Cond.instanceMethod ({ cls := "RecordLeaves", name := "set", desc := "(IJ)I" } : MethodName)) ∈ lw_tbl := List.mem_append_right _ (List.mem_append_right _ (List.mem_append_right _ (List.mem_append_left _ (List.mem_of_getElem? (i := 47) (by decide +kernel)))))
theorem mw_527 : (Cond.instanceMethod ({ cls := "RecordLeaves", name := "set", desc := "(IJ)I" } : MethodName)) ∈ rl_G := rl_inG mt_527 rfl
theorem im_X11_set : Cond.instanceMethod yX11_set ∈ rl_G := mw_527
theorem mt_528 : (Cond.selects "RecordLeaves" ({ cls := "RecordLeaves", name := "set", desc := "(IJ)I" } : MethodName) ({ cls := "RecordLeaves", name := "set", desc := "(IJ)I" } : MethodName)) ∈ lw_tbl := List.mem_append_right _ (List.mem_append_right _ (List.mem_append_right _ (List.mem_append_left _ (List.mem_of_getElem? (i := 48) (by decide +kernel)))))
theorem sl_X11_set : Cond.selects yX11_set.cls yX11_set yX11_set ∈ lw_tbl := mt_528
theorem mt_534 : (Cond.code ({ cls := "RecordLeaves", name := "cut", desc := "(I)I" } : MethodName) prog_1_method_18_code (3 : Nat) (Option.some FieldType.int)) ∈ lw_tbl := List.mem_append_right _ (List.mem_append_right _ (List.mem_append_right _ (List.mem_append_left _ (List.mem_of_getElem? (i := 54) (rfl)))))
theorem mw_534 : (Cond.code ({ cls := "RecordLeaves", name := "cut", desc := "(I)I" } : MethodName) prog_1_method_18_code (3 : Nat) (Option.some FieldType.int)) ∈ rl_G := rl_inG mt_534 rfl
theorem co_X11_cut : Cond.code yX11_cut cX11_cut 3 (some FieldType.int) ∈ rl_G := mw_534
theorem mt_532 : (Cond.instanceMethod ({ cls := "RecordLeaves", name := "cut", desc := "(I)I" } : MethodName)) ∈ lw_tbl := List.mem_append_right _ (List.mem_append_right _ (List.mem_append_right _ (List.mem_append_left _ (List.mem_of_getElem? (i := 52) (by decide +kernel)))))
theorem mw_532 : (Cond.instanceMethod ({ cls := "RecordLeaves", name := "cut", desc := "(I)I" } : MethodName)) ∈ rl_G := rl_inG mt_532 rfl
theorem im_X11_cut : Cond.instanceMethod yX11_cut ∈ rl_G := mw_532
theorem mt_533 : (Cond.selects "RecordLeaves" ({ cls := "RecordLeaves", name := "cut", desc := "(I)I" } : MethodName) ({ cls := "RecordLeaves", name := "cut", desc := "(I)I" } : MethodName)) ∈ lw_tbl := List.mem_append_right _ (List.mem_append_right _ (List.mem_append_right _ (List.mem_append_left _ (List.mem_of_getElem? (i := 53) (by decide +kernel)))))
theorem sl_X11_cut : Cond.selects yX11_cut.cls yX11_cut yX11_cut ∈ lw_tbl := mt_533
theorem mt_538 : (Cond.code ({ cls := "RecordLeaves", name := "read", desc := "(II)I" } : MethodName) prog_1_method_19_code (5 : Nat) (Option.some FieldType.int)) ∈ lw_tbl := List.mem_append_right _ (List.mem_append_right _ (List.mem_append_right _ (List.mem_append_left _ (List.mem_of_getElem? (i := 58) (rfl)))))
theorem mw_538 : (Cond.code ({ cls := "RecordLeaves", name := "read", desc := "(II)I" } : MethodName) prog_1_method_19_code (5 : Nat) (Option.some FieldType.int)) ∈ rl_G := rl_inG mt_538 rfl
theorem co_X11_read : Cond.code yX11_read cX11_read 5 (some FieldType.int) ∈ rl_G := mw_538
theorem mt_536 : (Cond.instanceMethod ({ cls := "RecordLeaves", name := "read", desc := "(II)I" } : MethodName)) ∈ lw_tbl := List.mem_append_right _ (List.mem_append_right _ (List.mem_append_right _ (List.mem_append_left _ (List.mem_of_getElem? (i := 56) (by decide +kernel)))))
theorem mw_536 : (Cond.instanceMethod ({ cls := "RecordLeaves", name := "read", desc := "(II)I" } : MethodName)) ∈ rl_G := rl_inG mt_536 rfl
theorem im_X11_read : Cond.instanceMethod yX11_read ∈ rl_G := mw_536
theorem mt_537 : (Cond.selects "RecordLeaves" ({ cls := "RecordLeaves", name := "read", desc := "(II)I" } : MethodName) ({ cls := "RecordLeaves", name := "read", desc := "(II)I" } : MethodName)) ∈ lw_tbl := List.mem_append_right _ (List.mem_append_right _ (List.mem_append_right _ (List.mem_append_left _ (List.mem_of_getElem? (i := 57) (by decide +kernel)))))
theorem sl_X11_read : Cond.selects yX11_read.cls yX11_read yX11_read ∈ lw_tbl := mt_537
theorem mt_543 : (Cond.code ({ cls := "RecordLeaves$Reader", name := "<init>", desc := "(LRecordLeaves$Kinds;LRecordLeaves$Tape;I)V" } : MethodName) prog_7_method_1_code (4 : Nat) (Option.none : Option FieldType)) ∈ lw_tbl := List.mem_append_right _ (List.mem_append_right _ (List.mem_append_right _ (List.mem_append_left _ (List.mem_of_getElem? (i := 63) (rfl)))))
theorem mw_543 : (Cond.code ({ cls := "RecordLeaves$Reader", name := "<init>", desc := "(LRecordLeaves$Kinds;LRecordLeaves$Tape;I)V" } : MethodName) prog_7_method_1_code (4 : Nat) (Option.none : Option FieldType)) ∈ rl_G := rl_inG mt_543 rfl
theorem co_X5_init : Cond.code yX5_init cX5_init 4 none ∈ rl_G := mw_543
theorem mt_542 : (Cond.instanceMethod ({ cls := "RecordLeaves$Reader", name := "<init>", desc := "(LRecordLeaves$Kinds;LRecordLeaves$Tape;I)V" } : MethodName)) ∈ lw_tbl := List.mem_append_right _ (List.mem_append_right _ (List.mem_append_right _ (List.mem_append_left _ (List.mem_of_getElem? (i := 62) (by decide +kernel)))))
theorem mw_542 : (Cond.instanceMethod ({ cls := "RecordLeaves$Reader", name := "<init>", desc := "(LRecordLeaves$Kinds;LRecordLeaves$Tape;I)V" } : MethodName)) ∈ rl_G := rl_inG mt_542 rfl
theorem im_X5_init : Cond.instanceMethod yX5_init ∈ rl_G := mw_542
theorem mt_577 : (Cond.code ({ cls := "RecordLeaves$Reader", name := "nextRecord", desc := "(Z)LRecordLeaves$RecordThing;" } : MethodName) prog_7_method_4_code (9 : Nat) (Option.some (FieldType.object "RecordLeaves$RecordThing"))) ∈ lw_tbl := List.mem_append_right _ (List.mem_append_right _ (List.mem_append_right _ (List.mem_append_left _ (List.mem_of_getElem? (i := 97) (rfl)))))
theorem mw_577 : (Cond.code ({ cls := "RecordLeaves$Reader", name := "nextRecord", desc := "(Z)LRecordLeaves$RecordThing;" } : MethodName) prog_7_method_4_code (9 : Nat) (Option.some (FieldType.object "RecordLeaves$RecordThing"))) ∈ rl_G := rl_inG mt_577 rfl
theorem co_X5_nextRecord : Cond.code yX5_nextRecord cX5_nextRecord 9 (some (FieldType.object "RecordLeaves$RecordThing")) ∈ rl_G := mw_577
theorem mt_576 : (Cond.instanceMethod ({ cls := "RecordLeaves$Reader", name := "nextRecord", desc := "(Z)LRecordLeaves$RecordThing;" } : MethodName)) ∈ lw_tbl := List.mem_append_right _ (List.mem_append_right _ (List.mem_append_right _ (List.mem_append_left _ (List.mem_of_getElem? (i := 96) (by decide +kernel)))))
theorem mw_576 : (Cond.instanceMethod ({ cls := "RecordLeaves$Reader", name := "nextRecord", desc := "(Z)LRecordLeaves$RecordThing;" } : MethodName)) ∈ rl_G := rl_inG mt_576 rfl
theorem im_X5_nextRecord : Cond.instanceMethod yX5_nextRecord ∈ rl_G := mw_576
theorem sl_X5_nextRecord : Cond.selects yX5_nextRecord.cls yX5_nextRecord yX5_nextRecord ∈ lw_tbl := List.mem_append_left _ (by decide +kernel)
theorem mt_581 : (Cond.code ({ cls := "RecordLeaves$Reader", name := "fail", desc := "(I)V" } : MethodName) prog_7_method_2_code (2 : Nat) (Option.none : Option FieldType)) ∈ lw_tbl := List.mem_append_right _ (List.mem_append_right _ (List.mem_append_right _ (List.mem_append_left _ (List.mem_of_getElem? (i := 101) (rfl)))))
theorem mw_581 : (Cond.code ({ cls := "RecordLeaves$Reader", name := "fail", desc := "(I)V" } : MethodName) prog_7_method_2_code (2 : Nat) (Option.none : Option FieldType)) ∈ rl_G := rl_inG mt_581 rfl
theorem co_X5_fail : Cond.code yX5_fail cX5_fail 2 none ∈ rl_G := mw_581
theorem mt_580 : (Cond.instanceMethod ({ cls := "RecordLeaves$Reader", name := "fail", desc := "(I)V" } : MethodName)) ∈ lw_tbl := List.mem_append_right _ (List.mem_append_right _ (List.mem_append_right _ (List.mem_append_left _ (List.mem_of_getElem? (i := 100) (by decide +kernel)))))
theorem mw_580 : (Cond.instanceMethod ({ cls := "RecordLeaves$Reader", name := "fail", desc := "(I)V" } : MethodName)) ∈ rl_G := rl_inG mt_580 rfl
theorem im_X5_fail : Cond.instanceMethod yX5_fail ∈ rl_G := mw_580
theorem sl_X5_fail : Cond.selects yX5_fail.cls yX5_fail yX5_fail ∈ lw_tbl := List.mem_append_left _ (by decide +kernel)
theorem mt_585 : (Cond.code ({ cls := "RecordLeaves$Reader", name := "nextLeaf", desc := "()J" } : MethodName) prog_7_method_3_code (1 : Nat) (Option.some FieldType.long)) ∈ lw_tbl := List.mem_append_right _ (List.mem_append_right _ (List.mem_append_right _ (List.mem_append_left _ (List.mem_of_getElem? (i := 105) (rfl)))))
theorem mw_585 : (Cond.code ({ cls := "RecordLeaves$Reader", name := "nextLeaf", desc := "()J" } : MethodName) prog_7_method_3_code (1 : Nat) (Option.some FieldType.long)) ∈ rl_G := rl_inG mt_585 rfl
theorem co_X5_nextLeaf : Cond.code yX5_nextLeaf cX5_nextLeaf 1 (some FieldType.long) ∈ rl_G := mw_585
theorem mt_584 : (Cond.instanceMethod ({ cls := "RecordLeaves$Reader", name := "nextLeaf", desc := "()J" } : MethodName)) ∈ lw_tbl := List.mem_append_right _ (List.mem_append_right _ (List.mem_append_right _ (List.mem_append_left _ (List.mem_of_getElem? (i := 104) (by decide +kernel)))))
theorem mw_584 : (Cond.instanceMethod ({ cls := "RecordLeaves$Reader", name := "nextLeaf", desc := "()J" } : MethodName)) ∈ rl_G := rl_inG mt_584 rfl
theorem im_X5_nextLeaf : Cond.instanceMethod yX5_nextLeaf ∈ rl_G := mw_584
theorem sl_X5_nextLeaf : Cond.selects yX5_nextLeaf.cls yX5_nextLeaf yX5_nextLeaf ∈ lw_tbl := List.mem_append_left _ (by decide +kernel)
theorem mt_596 : (Cond.code ({ cls := "RecordLeaves$Reader", name := "nextPart", desc := "(LRecordLeaves$RecordThing;)V" } : MethodName) prog_7_method_6_code (9 : Nat) (Option.none : Option FieldType)) ∈ lw_tbl := List.mem_append_right _ (List.mem_append_right _ (List.mem_append_right _ (List.mem_append_left _ (List.mem_of_getElem? (i := 116) (rfl)))))
theorem mw_596 : (Cond.code ({ cls := "RecordLeaves$Reader", name := "nextPart", desc := "(LRecordLeaves$RecordThing;)V" } : MethodName) prog_7_method_6_code (9 : Nat) (Option.none : Option FieldType)) ∈ rl_G := rl_inG mt_596 rfl
theorem co_X5_nextPart : Cond.code yX5_nextPart cX5_nextPart 9 none ∈ rl_G := mw_596
theorem mt_595 : (Cond.instanceMethod ({ cls := "RecordLeaves$Reader", name := "nextPart", desc := "(LRecordLeaves$RecordThing;)V" } : MethodName)) ∈ lw_tbl := List.mem_append_right _ (List.mem_append_right _ (List.mem_append_right _ (List.mem_append_left _ (List.mem_of_getElem? (i := 115) (by decide +kernel)))))
theorem mw_595 : (Cond.instanceMethod ({ cls := "RecordLeaves$Reader", name := "nextPart", desc := "(LRecordLeaves$RecordThing;)V" } : MethodName)) ∈ rl_G := rl_inG mt_595 rfl
theorem im_X5_nextPart : Cond.instanceMethod yX5_nextPart ∈ rl_G := mw_595
theorem sl_X5_nextPart : Cond.selects yX5_nextPart.cls yX5_nextPart yX5_nextPart ∈ lw_tbl := List.mem_append_left _ (by decide +kernel)
theorem mt_603 : (Cond.code ({ cls := "RecordLeaves$Reader", name := "nextThing", desc := "(ILRecordLeaves$Part;)LRecordLeaves$Thing;" } : MethodName) prog_7_method_7_code (3 : Nat) (Option.some (FieldType.object "RecordLeaves$Thing"))) ∈ lw_tbl := List.mem_append_right _ (List.mem_append_right _ (List.mem_append_right _ (List.mem_append_left _ (List.mem_of_getElem? (i := 123) (rfl)))))
theorem mw_603 : (Cond.code ({ cls := "RecordLeaves$Reader", name := "nextThing", desc := "(ILRecordLeaves$Part;)LRecordLeaves$Thing;" } : MethodName) prog_7_method_7_code (3 : Nat) (Option.some (FieldType.object "RecordLeaves$Thing"))) ∈ rl_G := rl_inG mt_603 rfl
theorem co_X5_nextThing : Cond.code yX5_nextThing cX5_nextThing 3 (some (FieldType.object "RecordLeaves$Thing")) ∈ rl_G := mw_603
theorem mt_602 : (Cond.instanceMethod ({ cls := "RecordLeaves$Reader", name := "nextThing", desc := "(ILRecordLeaves$Part;)LRecordLeaves$Thing;" } : MethodName)) ∈ lw_tbl := List.mem_append_right _ (List.mem_append_right _ (List.mem_append_right _ (List.mem_append_left _ (List.mem_of_getElem? (i := 122) (by decide +kernel)))))
theorem mw_602 : (Cond.instanceMethod ({ cls := "RecordLeaves$Reader", name := "nextThing", desc := "(ILRecordLeaves$Part;)LRecordLeaves$Thing;" } : MethodName)) ∈ rl_G := rl_inG mt_602 rfl
theorem im_X5_nextThing : Cond.instanceMethod yX5_nextThing ∈ rl_G := mw_602
theorem sl_X5_nextThing : Cond.selects yX5_nextThing.cls yX5_nextThing yX5_nextThing ∈ lw_tbl := List.mem_append_left _ (by decide +kernel)
theorem mt_607 : (Cond.code ({ cls := "RecordLeaves$Reader", name := "nextConstant", desc := "(LRecordLeaves$Part;)LRecordLeaves$Constant;" } : MethodName) prog_7_method_8_code (6 : Nat) (Option.some (FieldType.object "RecordLeaves$Constant"))) ∈ lw_tbl := List.mem_append_right _ (List.mem_append_right _ (List.mem_append_right _ (List.mem_append_left _ (List.mem_of_getElem? (i := 127) (rfl)))))
theorem mw_607 : (Cond.code ({ cls := "RecordLeaves$Reader", name := "nextConstant", desc := "(LRecordLeaves$Part;)LRecordLeaves$Constant;" } : MethodName) prog_7_method_8_code (6 : Nat) (Option.some (FieldType.object "RecordLeaves$Constant"))) ∈ rl_G := rl_inG mt_607 rfl
theorem co_X5_nextConstant : Cond.code yX5_nextConstant cX5_nextConstant 6 (some (FieldType.object "RecordLeaves$Constant")) ∈ rl_G := mw_607
theorem mt_606 : (Cond.instanceMethod ({ cls := "RecordLeaves$Reader", name := "nextConstant", desc := "(LRecordLeaves$Part;)LRecordLeaves$Constant;" } : MethodName)) ∈ lw_tbl := List.mem_append_right _ (List.mem_append_right _ (List.mem_append_right _ (List.mem_append_left _ (List.mem_of_getElem? (i := 126) (by decide +kernel)))))
theorem mw_606 : (Cond.instanceMethod ({ cls := "RecordLeaves$Reader", name := "nextConstant", desc := "(LRecordLeaves$Part;)LRecordLeaves$Constant;" } : MethodName)) ∈ rl_G := rl_inG mt_606 rfl
theorem im_X5_nextConstant : Cond.instanceMethod yX5_nextConstant ∈ rl_G := mw_606
theorem sl_X5_nextConstant : Cond.selects yX5_nextConstant.cls yX5_nextConstant yX5_nextConstant ∈ lw_tbl := List.mem_append_left _ (by decide +kernel)
theorem mt_614 : (Cond.code ({ cls := "RecordLeaves$Reader", name := "nextRow", desc := "(Z)LRecordLeaves$Row;" } : MethodName) prog_7_method_9_code (7 : Nat) (Option.some (FieldType.object "RecordLeaves$Row"))) ∈ lw_tbl := List.mem_append_right _ (List.mem_append_right _ (List.mem_append_right _ (List.mem_append_left _ (List.mem_of_getElem? (i := 134) (rfl)))))
theorem mw_614 : (Cond.code ({ cls := "RecordLeaves$Reader", name := "nextRow", desc := "(Z)LRecordLeaves$Row;" } : MethodName) prog_7_method_9_code (7 : Nat) (Option.some (FieldType.object "RecordLeaves$Row"))) ∈ rl_G := rl_inG mt_614 rfl
theorem co_X5_nextRow : Cond.code yX5_nextRow cX5_nextRow 7 (some (FieldType.object "RecordLeaves$Row")) ∈ rl_G := mw_614
theorem mt_613 : (Cond.instanceMethod ({ cls := "RecordLeaves$Reader", name := "nextRow", desc := "(Z)LRecordLeaves$Row;" } : MethodName)) ∈ lw_tbl := List.mem_append_right _ (List.mem_append_right _ (List.mem_append_right _ (List.mem_append_left _ (List.mem_of_getElem? (i := 133) (by decide +kernel)))))
theorem mw_613 : (Cond.instanceMethod ({ cls := "RecordLeaves$Reader", name := "nextRow", desc := "(Z)LRecordLeaves$Row;" } : MethodName)) ∈ rl_G := rl_inG mt_613 rfl
theorem im_X5_nextRow : Cond.instanceMethod yX5_nextRow ∈ rl_G := mw_613
theorem sl_X5_nextRow : Cond.selects yX5_nextRow.cls yX5_nextRow yX5_nextRow ∈ lw_tbl := List.mem_append_left _ (by decide +kernel)
theorem mt_622 : (Cond.code ({ cls := "RecordLeaves$Reader", name := "finished", desc := "(LRecordLeaves$RecordThing;)LRecordLeaves$RecordThing;" } : MethodName) prog_7_method_5_code (2 : Nat) (Option.some (FieldType.object "RecordLeaves$RecordThing"))) ∈ lw_tbl := List.mem_append_right _ (List.mem_append_right _ (List.mem_append_right _ (List.mem_append_left _ (List.mem_of_getElem? (i := 142) (rfl)))))
theorem mw_622 : (Cond.code ({ cls := "RecordLeaves$Reader", name := "finished", desc := "(LRecordLeaves$RecordThing;)LRecordLeaves$RecordThing;" } : MethodName) prog_7_method_5_code (2 : Nat) (Option.some (FieldType.object "RecordLeaves$RecordThing"))) ∈ rl_G := rl_inG mt_622 rfl
theorem co_X5_finished : Cond.code yX5_finished cX5_finished 2 (some (FieldType.object "RecordLeaves$RecordThing")) ∈ rl_G := mw_622
theorem mt_621 : (Cond.instanceMethod ({ cls := "RecordLeaves$Reader", name := "finished", desc := "(LRecordLeaves$RecordThing;)LRecordLeaves$RecordThing;" } : MethodName)) ∈ lw_tbl := List.mem_append_right _ (List.mem_append_right _ (List.mem_append_right _ (List.mem_append_left _ (List.mem_of_getElem? (i := 141) (by decide +kernel)))))
theorem mw_621 : (Cond.instanceMethod ({ cls := "RecordLeaves$Reader", name := "finished", desc := "(LRecordLeaves$RecordThing;)LRecordLeaves$RecordThing;" } : MethodName)) ∈ rl_G := rl_inG mt_621 rfl
theorem im_X5_finished : Cond.instanceMethod yX5_finished ∈ rl_G := mw_621
theorem sl_X5_finished : Cond.selects yX5_finished.cls yX5_finished yX5_finished ∈ lw_tbl := List.mem_append_left _ (by decide +kernel)
theorem mt_627 : (Cond.code ({ cls := "RecordLeaves", name := "cause", desc := "(I)I" } : MethodName) prog_1_method_20_code (2 : Nat) (Option.some FieldType.int)) ∈ lw_tbl := List.mem_append_right _ (List.mem_append_right _ (List.mem_append_right _ (List.mem_append_left _ (List.mem_of_getElem? (i := 147) (rfl)))))
theorem mw_627 : (Cond.code ({ cls := "RecordLeaves", name := "cause", desc := "(I)I" } : MethodName) prog_1_method_20_code (2 : Nat) (Option.some FieldType.int)) ∈ rl_G := rl_inG mt_627 rfl
theorem co_X11_cause : Cond.code yX11_cause cX11_cause 2 (some FieldType.int) ∈ rl_G := mw_627
theorem mt_625 : (Cond.instanceMethod ({ cls := "RecordLeaves", name := "cause", desc := "(I)I" } : MethodName)) ∈ lw_tbl := List.mem_append_right _ (List.mem_append_right _ (List.mem_append_right _ (List.mem_append_left _ (List.mem_of_getElem? (i := 145) (by decide +kernel)))))
theorem mw_625 : (Cond.instanceMethod ({ cls := "RecordLeaves", name := "cause", desc := "(I)I" } : MethodName)) ∈ rl_G := rl_inG mt_625 rfl
theorem im_X11_cause : Cond.instanceMethod yX11_cause ∈ rl_G := mw_625
theorem mt_626 : (Cond.selects "RecordLeaves" ({ cls := "RecordLeaves", name := "cause", desc := "(I)I" } : MethodName) ({ cls := "RecordLeaves", name := "cause", desc := "(I)I" } : MethodName)) ∈ lw_tbl := List.mem_append_right _ (List.mem_append_right _ (List.mem_append_right _ (List.mem_append_left _ (List.mem_of_getElem? (i := 146) (by decide +kernel)))))
theorem sl_X11_cause : Cond.selects yX11_cause.cls yX11_cause yX11_cause ∈ lw_tbl := mt_626
theorem mt_631 : (Cond.code ({ cls := "RecordLeaves", name := "status", desc := "()I" } : MethodName) prog_1_method_21_code (1 : Nat) (Option.some FieldType.int)) ∈ lw_tbl := List.mem_append_right _ (List.mem_append_right _ (List.mem_append_right _ (List.mem_append_left _ (List.mem_of_getElem? (i := 151) (rfl)))))
theorem mw_631 : (Cond.code ({ cls := "RecordLeaves", name := "status", desc := "()I" } : MethodName) prog_1_method_21_code (1 : Nat) (Option.some FieldType.int)) ∈ rl_G := rl_inG mt_631 rfl
theorem co_X11_status : Cond.code yX11_status cX11_status 1 (some FieldType.int) ∈ rl_G := mw_631
theorem mt_629 : (Cond.instanceMethod ({ cls := "RecordLeaves", name := "status", desc := "()I" } : MethodName)) ∈ lw_tbl := List.mem_append_right _ (List.mem_append_right _ (List.mem_append_right _ (List.mem_append_left _ (List.mem_of_getElem? (i := 149) (by decide +kernel)))))
theorem mw_629 : (Cond.instanceMethod ({ cls := "RecordLeaves", name := "status", desc := "()I" } : MethodName)) ∈ rl_G := rl_inG mt_629 rfl
theorem im_X11_status : Cond.instanceMethod yX11_status ∈ rl_G := mw_629
theorem mt_630 : (Cond.selects "RecordLeaves" ({ cls := "RecordLeaves", name := "status", desc := "()I" } : MethodName) ({ cls := "RecordLeaves", name := "status", desc := "()I" } : MethodName)) ∈ lw_tbl := List.mem_append_right _ (List.mem_append_right _ (List.mem_append_right _ (List.mem_append_left _ (List.mem_of_getElem? (i := 150) (by decide +kernel)))))
theorem sl_X11_status : Cond.selects yX11_status.cls yX11_status yX11_status ∈ lw_tbl := mt_630
theorem mt_635 : (Cond.code ({ cls := "RecordLeaves", name := "count", desc := "(I)I" } : MethodName) prog_1_method_22_code (2 : Nat) (Option.some FieldType.int)) ∈ lw_tbl := List.mem_append_right _ (List.mem_append_right _ (List.mem_append_right _ (List.mem_append_left _ (List.mem_of_getElem? (i := 155) (rfl)))))
theorem mw_635 : (Cond.code ({ cls := "RecordLeaves", name := "count", desc := "(I)I" } : MethodName) prog_1_method_22_code (2 : Nat) (Option.some FieldType.int)) ∈ rl_G := rl_inG mt_635 rfl
theorem co_X11_count : Cond.code yX11_count cX11_count 2 (some FieldType.int) ∈ rl_G := mw_635
theorem mt_633 : (Cond.instanceMethod ({ cls := "RecordLeaves", name := "count", desc := "(I)I" } : MethodName)) ∈ lw_tbl := List.mem_append_right _ (List.mem_append_right _ (List.mem_append_right _ (List.mem_append_left _ (List.mem_of_getElem? (i := 153) (by decide +kernel)))))
theorem mw_633 : (Cond.instanceMethod ({ cls := "RecordLeaves", name := "count", desc := "(I)I" } : MethodName)) ∈ rl_G := rl_inG mt_633 rfl
theorem im_X11_count : Cond.instanceMethod yX11_count ∈ rl_G := mw_633
theorem mt_634 : (Cond.selects "RecordLeaves" ({ cls := "RecordLeaves", name := "count", desc := "(I)I" } : MethodName) ({ cls := "RecordLeaves", name := "count", desc := "(I)I" } : MethodName)) ∈ lw_tbl := List.mem_append_right _ (List.mem_append_right _ (List.mem_append_right _ (List.mem_append_left _ (List.mem_of_getElem? (i := 154) (by decide +kernel)))))
theorem sl_X11_count : Cond.selects yX11_count.cls yX11_count yX11_count ∈ lw_tbl := mt_634
theorem mt_639 : (Cond.code ({ cls := "RecordLeaves", name := "heldPlaces", desc := "()I" } : MethodName) prog_1_method_24_code (3 : Nat) (Option.some FieldType.int)) ∈ lw_tbl := List.mem_append_right _ (List.mem_append_right _ (List.mem_append_right _ (List.mem_append_left _ (List.mem_of_getElem? (i := 159) (rfl)))))
theorem mw_639 : (Cond.code ({ cls := "RecordLeaves", name := "heldPlaces", desc := "()I" } : MethodName) prog_1_method_24_code (3 : Nat) (Option.some FieldType.int)) ∈ rl_G := rl_inG mt_639 rfl
theorem co_X11_heldPlaces : Cond.code yX11_heldPlaces cX11_heldPlaces 3 (some FieldType.int) ∈ rl_G := mw_639
theorem mt_638 : (Cond.instanceMethod ({ cls := "RecordLeaves", name := "heldPlaces", desc := "()I" } : MethodName)) ∈ lw_tbl := List.mem_append_right _ (List.mem_append_right _ (List.mem_append_right _ (List.mem_append_left _ (List.mem_of_getElem? (i := 158) (by decide +kernel)))))
theorem mw_638 : (Cond.instanceMethod ({ cls := "RecordLeaves", name := "heldPlaces", desc := "()I" } : MethodName)) ∈ rl_G := rl_inG mt_638 rfl
theorem im_X11_heldPlaces : Cond.instanceMethod yX11_heldPlaces ∈ rl_G := mw_638
theorem sl_X11_heldPlaces : Cond.selects yX11_heldPlaces.cls yX11_heldPlaces yX11_heldPlaces ∈ lw_tbl := List.mem_append_left _ (by decide +kernel)
theorem mt_644 : (Cond.code ({ cls := "RecordLeavesModel", name := "<init>", desc := "()V" } : MethodName) prog_14_method_1_code (1 : Nat) (Option.none : Option FieldType)) ∈ lw_tbl := List.mem_append_right _ (List.mem_append_right _ (List.mem_append_right _ (List.mem_append_left _ (List.mem_of_getElem? (i := 164) (rfl)))))
theorem mw_644 : (Cond.code ({ cls := "RecordLeavesModel", name := "<init>", desc := "()V" } : MethodName) prog_14_method_1_code (1 : Nat) (Option.none : Option FieldType)) ∈ rl_G := rl_inG mt_644 rfl
theorem co_X12_init : Cond.code yX12_init cX12_init 1 none ∈ rl_G := mw_644
theorem mt_643 : (Cond.instanceMethod ({ cls := "RecordLeavesModel", name := "<init>", desc := "()V" } : MethodName)) ∈ lw_tbl := List.mem_append_right _ (List.mem_append_right _ (List.mem_append_right _ (List.mem_append_left _ (List.mem_of_getElem? (i := 163) (by decide +kernel)))))
theorem mw_643 : (Cond.instanceMethod ({ cls := "RecordLeavesModel", name := "<init>", desc := "()V" } : MethodName)) ∈ rl_G := rl_inG mt_643 rfl
theorem im_X12_init : Cond.instanceMethod yX12_init ∈ rl_G := mw_643
theorem mt_801 : (Cond.code ({ cls := "RecordLeavesModel", name := "constant", desc := "(IIIZ)I" } : MethodName) prog_14_method_7_code (7 : Nat) (Option.some FieldType.int)) ∈ lw_tbl := List.mem_append_right _ (List.mem_append_right _ (List.mem_append_right _ (List.mem_append_right _ (List.mem_append_left _ (List.mem_of_getElem? (i := 81) (rfl))))))
theorem mw_801 : (Cond.code ({ cls := "RecordLeavesModel", name := "constant", desc := "(IIIZ)I" } : MethodName) prog_14_method_7_code (7 : Nat) (Option.some FieldType.int)) ∈ rl_G := rl_inG mt_801 rfl
theorem co_X12_constant : Cond.code yX12_constant cX12_constant 7 (some FieldType.int) ∈ rl_G := mw_801
theorem mt_799 : (Cond.instanceMethod ({ cls := "RecordLeavesModel", name := "constant", desc := "(IIIZ)I" } : MethodName)) ∈ lw_tbl := List.mem_append_right _ (List.mem_append_right _ (List.mem_append_right _ (List.mem_append_right _ (List.mem_append_left _ (List.mem_of_getElem? (i := 79) (by decide +kernel))))))
theorem mw_799 : (Cond.instanceMethod ({ cls := "RecordLeavesModel", name := "constant", desc := "(IIIZ)I" } : MethodName)) ∈ rl_G := rl_inG mt_799 rfl
theorem im_X12_constant : Cond.instanceMethod yX12_constant ∈ rl_G := mw_799
theorem mt_800 : (Cond.selects "RecordLeavesModel" ({ cls := "RecordLeavesModel", name := "constant", desc := "(IIIZ)I" } : MethodName) ({ cls := "RecordLeavesModel", name := "constant", desc := "(IIIZ)I" } : MethodName)) ∈ lw_tbl := List.mem_append_right _ (List.mem_append_right _ (List.mem_append_right _ (List.mem_append_right _ (List.mem_append_left _ (List.mem_of_getElem? (i := 80) (by decide +kernel))))))
theorem sl_X12_constant : Cond.selects yX12_constant.cls yX12_constant yX12_constant ∈ lw_tbl := mt_800
theorem mt_804 : (Cond.code ({ cls := "RecordLeavesModel", name := "in", desc := "(JJJ)Z" } : MethodName) prog_14_method_2_code (6 : Nat) (Option.some FieldType.boolean)) ∈ lw_tbl := List.mem_append_right _ (List.mem_append_right _ (List.mem_append_right _ (List.mem_append_right _ (List.mem_append_left _ (List.mem_of_getElem? (i := 84) (rfl))))))
theorem mw_804 : (Cond.code ({ cls := "RecordLeavesModel", name := "in", desc := "(JJJ)Z" } : MethodName) prog_14_method_2_code (6 : Nat) (Option.some FieldType.boolean)) ∈ rl_G := rl_inG mt_804 rfl
theorem co_X12_in : Cond.code yX12_in cX12_in 6 (some FieldType.boolean) ∈ rl_G := mw_804
theorem mt_803 : (Cond.static ({ cls := "RecordLeavesModel", name := "in", desc := "(JJJ)Z" } : MethodName)) ∈ lw_tbl := List.mem_append_right _ (List.mem_append_right _ (List.mem_append_right _ (List.mem_append_right _ (List.mem_append_left _ (List.mem_of_getElem? (i := 83) (by decide +kernel))))))
theorem mw_803 : (Cond.static ({ cls := "RecordLeavesModel", name := "in", desc := "(JJJ)Z" } : MethodName)) ∈ rl_G := rl_inG mt_803 rfl
theorem sm_X12_in : Cond.static yX12_in ∈ rl_G := mw_803
theorem mt_807 : (Cond.code ({ cls := "RecordLeavesModel", name := "isVersion", desc := "(I)Z" } : MethodName) prog_14_method_4_code (1 : Nat) (Option.some FieldType.boolean)) ∈ lw_tbl := List.mem_append_right _ (List.mem_append_right _ (List.mem_append_right _ (List.mem_append_right _ (List.mem_append_left _ (List.mem_of_getElem? (i := 87) (rfl))))))
theorem mw_807 : (Cond.code ({ cls := "RecordLeavesModel", name := "isVersion", desc := "(I)Z" } : MethodName) prog_14_method_4_code (1 : Nat) (Option.some FieldType.boolean)) ∈ rl_G := rl_inG mt_807 rfl
theorem co_X12_isVersion : Cond.code yX12_isVersion cX12_isVersion 1 (some FieldType.boolean) ∈ rl_G := mw_807
theorem mt_806 : (Cond.static ({ cls := "RecordLeavesModel", name := "isVersion", desc := "(I)Z" } : MethodName)) ∈ lw_tbl := List.mem_append_right _ (List.mem_append_right _ (List.mem_append_right _ (List.mem_append_right _ (List.mem_append_left _ (List.mem_of_getElem? (i := 86) (by decide +kernel))))))
theorem mw_806 : (Cond.static ({ cls := "RecordLeavesModel", name := "isVersion", desc := "(I)Z" } : MethodName)) ∈ rl_G := rl_inG mt_806 rfl
theorem sm_X12_isVersion : Cond.static yX12_isVersion ∈ rl_G := mw_806
theorem mt_813 : (Cond.code ({ cls := "RecordLeavesModel", name := "constantBy", desc := "(IIJ)I" } : MethodName) prog_14_method_6_code (7 : Nat) (Option.some FieldType.int)) ∈ lw_tbl := List.mem_append_right _ (List.mem_append_right _ (List.mem_append_right _ (List.mem_append_right _ (List.mem_append_left _ (List.mem_of_getElem? (i := 93) (rfl))))))
theorem mw_813 : (Cond.code ({ cls := "RecordLeavesModel", name := "constantBy", desc := "(IIJ)I" } : MethodName) prog_14_method_6_code (7 : Nat) (Option.some FieldType.int)) ∈ rl_G := rl_inG mt_813 rfl
theorem co_X12_constantBy : Cond.code yX12_constantBy cX12_constantBy 7 (some FieldType.int) ∈ rl_G := mw_813
theorem mt_812 : (Cond.instanceMethod ({ cls := "RecordLeavesModel", name := "constantBy", desc := "(IIJ)I" } : MethodName)) ∈ lw_tbl := List.mem_append_right _ (List.mem_append_right _ (List.mem_append_right _ (List.mem_append_right _ (List.mem_append_left _ (List.mem_of_getElem? (i := 92) (by decide +kernel))))))
theorem mw_812 : (Cond.instanceMethod ({ cls := "RecordLeavesModel", name := "constantBy", desc := "(IIJ)I" } : MethodName)) ∈ rl_G := rl_inG mt_812 rfl
theorem im_X12_constantBy : Cond.instanceMethod yX12_constantBy ∈ rl_G := mw_812
theorem sl_X12_constantBy : Cond.selects yX12_constantBy.cls yX12_constantBy yX12_constantBy ∈ lw_tbl := List.mem_append_left _ (by decide +kernel)
theorem mt_817 : (Cond.code ({ cls := "RecordLeavesModel", name := "part", desc := "(IIIII)I" } : MethodName) prog_14_method_9_code (8 : Nat) (Option.some FieldType.int)) ∈ lw_tbl := List.mem_append_right _ (List.mem_append_right _ (List.mem_append_right _ (List.mem_append_right _ (List.mem_append_left _ (List.mem_of_getElem? (i := 97) (rfl))))))
theorem mw_817 : (Cond.code ({ cls := "RecordLeavesModel", name := "part", desc := "(IIIII)I" } : MethodName) prog_14_method_9_code (8 : Nat) (Option.some FieldType.int)) ∈ rl_G := rl_inG mt_817 rfl
theorem co_X12_part : Cond.code yX12_part cX12_part 8 (some FieldType.int) ∈ rl_G := mw_817
theorem mt_815 : (Cond.instanceMethod ({ cls := "RecordLeavesModel", name := "part", desc := "(IIIII)I" } : MethodName)) ∈ lw_tbl := List.mem_append_right _ (List.mem_append_right _ (List.mem_append_right _ (List.mem_append_right _ (List.mem_append_left _ (List.mem_of_getElem? (i := 95) (by decide +kernel))))))
theorem mw_815 : (Cond.instanceMethod ({ cls := "RecordLeavesModel", name := "part", desc := "(IIIII)I" } : MethodName)) ∈ rl_G := rl_inG mt_815 rfl
theorem im_X12_part : Cond.instanceMethod yX12_part ∈ rl_G := mw_815
theorem mt_816 : (Cond.selects "RecordLeavesModel" ({ cls := "RecordLeavesModel", name := "part", desc := "(IIIII)I" } : MethodName) ({ cls := "RecordLeavesModel", name := "part", desc := "(IIIII)I" } : MethodName)) ∈ lw_tbl := List.mem_append_right _ (List.mem_append_right _ (List.mem_append_right _ (List.mem_append_right _ (List.mem_append_left _ (List.mem_of_getElem? (i := 96) (by decide +kernel))))))
theorem sl_X12_part : Cond.selects yX12_part.cls yX12_part yX12_part ∈ lw_tbl := mt_816
theorem mt_820 : (Cond.code ({ cls := "RecordLeavesModel", name := "isRecordKind", desc := "(J)Z" } : MethodName) prog_14_method_5_code (2 : Nat) (Option.some FieldType.boolean)) ∈ lw_tbl := List.mem_append_right _ (List.mem_append_right _ (List.mem_append_right _ (List.mem_append_right _ (List.mem_append_left _ (List.mem_of_getElem? (i := 100) (rfl))))))
theorem mw_820 : (Cond.code ({ cls := "RecordLeavesModel", name := "isRecordKind", desc := "(J)Z" } : MethodName) prog_14_method_5_code (2 : Nat) (Option.some FieldType.boolean)) ∈ rl_G := rl_inG mt_820 rfl
theorem co_X12_isRecordKind : Cond.code yX12_isRecordKind cX12_isRecordKind 2 (some FieldType.boolean) ∈ rl_G := mw_820
theorem mt_819 : (Cond.static ({ cls := "RecordLeavesModel", name := "isRecordKind", desc := "(J)Z" } : MethodName)) ∈ lw_tbl := List.mem_append_right _ (List.mem_append_right _ (List.mem_append_right _ (List.mem_append_right _ (List.mem_append_left _ (List.mem_of_getElem? (i := 99) (by decide +kernel))))))
theorem mw_819 : (Cond.static ({ cls := "RecordLeavesModel", name := "isRecordKind", desc := "(J)Z" } : MethodName)) ∈ rl_G := rl_inG mt_819 rfl
theorem sm_X12_isRecordKind : Cond.static yX12_isRecordKind ∈ rl_G := mw_819
theorem mt_826 : (Cond.code ({ cls := "RecordLeavesModel", name := "partBy", desc := "(IJ)I" } : MethodName) prog_14_method_8_code (5 : Nat) (Option.some FieldType.int)) ∈ lw_tbl := List.mem_append_right _ (List.mem_append_right _ (List.mem_append_right _ (List.mem_append_right _ (List.mem_append_left _ (List.mem_of_getElem? (i := 106) (rfl))))))
theorem mw_826 : (Cond.code ({ cls := "RecordLeavesModel", name := "partBy", desc := "(IJ)I" } : MethodName) prog_14_method_8_code (5 : Nat) (Option.some FieldType.int)) ∈ rl_G := rl_inG mt_826 rfl
theorem co_X12_partBy : Cond.code yX12_partBy cX12_partBy 5 (some FieldType.int) ∈ rl_G := mw_826
theorem mt_825 : (Cond.instanceMethod ({ cls := "RecordLeavesModel", name := "partBy", desc := "(IJ)I" } : MethodName)) ∈ lw_tbl := List.mem_append_right _ (List.mem_append_right _ (List.mem_append_right _ (List.mem_append_right _ (List.mem_append_left _ (List.mem_of_getElem? (i := 105) (by decide +kernel))))))
theorem mw_825 : (Cond.instanceMethod ({ cls := "RecordLeavesModel", name := "partBy", desc := "(IJ)I" } : MethodName)) ∈ rl_G := rl_inG mt_825 rfl
theorem im_X12_partBy : Cond.instanceMethod yX12_partBy ∈ rl_G := mw_825
theorem sl_X12_partBy : Cond.selects yX12_partBy.cls yX12_partBy yX12_partBy ∈ lw_tbl := List.mem_append_left _ (by decide +kernel)
theorem mt_830 : (Cond.code ({ cls := "RecordLeavesModel", name := "check", desc := "(IIIII)I" } : MethodName) prog_14_method_11_code (9 : Nat) (Option.some FieldType.int)) ∈ lw_tbl := List.mem_append_right _ (List.mem_append_right _ (List.mem_append_right _ (List.mem_append_right _ (List.mem_append_left _ (List.mem_of_getElem? (i := 110) (rfl))))))
theorem mw_830 : (Cond.code ({ cls := "RecordLeavesModel", name := "check", desc := "(IIIII)I" } : MethodName) prog_14_method_11_code (9 : Nat) (Option.some FieldType.int)) ∈ rl_G := rl_inG mt_830 rfl
theorem co_X12_check : Cond.code yX12_check cX12_check 9 (some FieldType.int) ∈ rl_G := mw_830
theorem mt_828 : (Cond.instanceMethod ({ cls := "RecordLeavesModel", name := "check", desc := "(IIIII)I" } : MethodName)) ∈ lw_tbl := List.mem_append_right _ (List.mem_append_right _ (List.mem_append_right _ (List.mem_append_right _ (List.mem_append_left _ (List.mem_of_getElem? (i := 108) (by decide +kernel))))))
theorem mw_828 : (Cond.instanceMethod ({ cls := "RecordLeavesModel", name := "check", desc := "(IIIII)I" } : MethodName)) ∈ rl_G := rl_inG mt_828 rfl
theorem im_X12_check : Cond.instanceMethod yX12_check ∈ rl_G := mw_828
theorem mt_829 : (Cond.selects "RecordLeavesModel" ({ cls := "RecordLeavesModel", name := "check", desc := "(IIIII)I" } : MethodName) ({ cls := "RecordLeavesModel", name := "check", desc := "(IIIII)I" } : MethodName)) ∈ lw_tbl := List.mem_append_right _ (List.mem_append_right _ (List.mem_append_right _ (List.mem_append_right _ (List.mem_append_left _ (List.mem_of_getElem? (i := 109) (by decide +kernel))))))
theorem sl_X12_check : Cond.selects yX12_check.cls yX12_check yX12_check ∈ lw_tbl := mt_829
theorem mt_834 : (Cond.code ({ cls := "RecordLeavesModel", name := "isSort", desc := "(III)Z" } : MethodName) prog_14_method_10_code (4 : Nat) (Option.some FieldType.boolean)) ∈ lw_tbl := List.mem_append_right _ (List.mem_append_right _ (List.mem_append_right _ (List.mem_append_right _ (List.mem_append_left _ (List.mem_of_getElem? (i := 114) (rfl))))))
theorem mw_834 : (Cond.code ({ cls := "RecordLeavesModel", name := "isSort", desc := "(III)Z" } : MethodName) prog_14_method_10_code (4 : Nat) (Option.some FieldType.boolean)) ∈ rl_G := rl_inG mt_834 rfl
theorem co_X12_isSort : Cond.code yX12_isSort cX12_isSort 4 (some FieldType.boolean) ∈ rl_G := mw_834
theorem mt_833 : (Cond.instanceMethod ({ cls := "RecordLeavesModel", name := "isSort", desc := "(III)Z" } : MethodName)) ∈ lw_tbl := List.mem_append_right _ (List.mem_append_right _ (List.mem_append_right _ (List.mem_append_right _ (List.mem_append_left _ (List.mem_of_getElem? (i := 113) (by decide +kernel))))))
theorem mw_833 : (Cond.instanceMethod ({ cls := "RecordLeavesModel", name := "isSort", desc := "(III)Z" } : MethodName)) ∈ rl_G := rl_inG mt_833 rfl
theorem im_X12_isSort : Cond.instanceMethod yX12_isSort ∈ rl_G := mw_833
theorem sl_X12_isSort : Cond.selects yX12_isSort.cls yX12_isSort yX12_isSort ∈ lw_tbl := List.mem_append_left _ (by decide +kernel)
theorem mt_838 : (Cond.code ({ cls := "RecordLeavesModel", name := "hold", desc := "(IIII)I" } : MethodName) prog_14_method_13_code (6 : Nat) (Option.some FieldType.int)) ∈ lw_tbl := List.mem_append_right _ (List.mem_append_right _ (List.mem_append_right _ (List.mem_append_right _ (List.mem_append_left _ (List.mem_of_getElem? (i := 118) (rfl))))))
theorem mw_838 : (Cond.code ({ cls := "RecordLeavesModel", name := "hold", desc := "(IIII)I" } : MethodName) prog_14_method_13_code (6 : Nat) (Option.some FieldType.int)) ∈ rl_G := rl_inG mt_838 rfl
theorem co_X12_hold : Cond.code yX12_hold cX12_hold 6 (some FieldType.int) ∈ rl_G := mw_838
theorem mt_836 : (Cond.instanceMethod ({ cls := "RecordLeavesModel", name := "hold", desc := "(IIII)I" } : MethodName)) ∈ lw_tbl := List.mem_append_right _ (List.mem_append_right _ (List.mem_append_right _ (List.mem_append_right _ (List.mem_append_left _ (List.mem_of_getElem? (i := 116) (by decide +kernel))))))
theorem mw_836 : (Cond.instanceMethod ({ cls := "RecordLeavesModel", name := "hold", desc := "(IIII)I" } : MethodName)) ∈ rl_G := rl_inG mt_836 rfl
theorem im_X12_hold : Cond.instanceMethod yX12_hold ∈ rl_G := mw_836
theorem mt_837 : (Cond.selects "RecordLeavesModel" ({ cls := "RecordLeavesModel", name := "hold", desc := "(IIII)I" } : MethodName) ({ cls := "RecordLeavesModel", name := "hold", desc := "(IIII)I" } : MethodName)) ∈ lw_tbl := List.mem_append_right _ (List.mem_append_right _ (List.mem_append_right _ (List.mem_append_right _ (List.mem_append_left _ (List.mem_of_getElem? (i := 117) (by decide +kernel))))))
theorem sl_X12_hold : Cond.selects yX12_hold.cls yX12_hold yX12_hold ∈ lw_tbl := mt_837
theorem mt_841 : (Cond.code ({ cls := "RecordLeavesModel", name := "isPlace", desc := "(I)Z" } : MethodName) prog_14_method_3_code (1 : Nat) (Option.some FieldType.boolean)) ∈ lw_tbl := List.mem_append_right _ (List.mem_append_right _ (List.mem_append_right _ (List.mem_append_right _ (List.mem_append_left _ (List.mem_of_getElem? (i := 121) (rfl))))))
theorem mw_841 : (Cond.code ({ cls := "RecordLeavesModel", name := "isPlace", desc := "(I)Z" } : MethodName) prog_14_method_3_code (1 : Nat) (Option.some FieldType.boolean)) ∈ rl_G := rl_inG mt_841 rfl
theorem co_X12_isPlace : Cond.code yX12_isPlace cX12_isPlace 1 (some FieldType.boolean) ∈ rl_G := mw_841
theorem mt_840 : (Cond.static ({ cls := "RecordLeavesModel", name := "isPlace", desc := "(I)Z" } : MethodName)) ∈ lw_tbl := List.mem_append_right _ (List.mem_append_right _ (List.mem_append_right _ (List.mem_append_right _ (List.mem_append_left _ (List.mem_of_getElem? (i := 120) (by decide +kernel))))))
theorem mw_840 : (Cond.static ({ cls := "RecordLeavesModel", name := "isPlace", desc := "(I)Z" } : MethodName)) ∈ rl_G := rl_inG mt_840 rfl
theorem sm_X12_isPlace : Cond.static yX12_isPlace ∈ rl_G := mw_840
theorem mt_845 : (Cond.code ({ cls := "RecordLeavesModel", name := "row", desc := "(II)I" } : MethodName) prog_14_method_15_code (3 : Nat) (Option.some FieldType.int)) ∈ lw_tbl := List.mem_append_right _ (List.mem_append_right _ (List.mem_append_right _ (List.mem_append_right _ (List.mem_append_left _ (List.mem_of_getElem? (i := 125) (rfl))))))
theorem mw_845 : (Cond.code ({ cls := "RecordLeavesModel", name := "row", desc := "(II)I" } : MethodName) prog_14_method_15_code (3 : Nat) (Option.some FieldType.int)) ∈ rl_G := rl_inG mt_845 rfl
theorem co_X12_row : Cond.code yX12_row cX12_row 3 (some FieldType.int) ∈ rl_G := mw_845
theorem mt_843 : (Cond.instanceMethod ({ cls := "RecordLeavesModel", name := "row", desc := "(II)I" } : MethodName)) ∈ lw_tbl := List.mem_append_right _ (List.mem_append_right _ (List.mem_append_right _ (List.mem_append_right _ (List.mem_append_left _ (List.mem_of_getElem? (i := 123) (by decide +kernel))))))
theorem mw_843 : (Cond.instanceMethod ({ cls := "RecordLeavesModel", name := "row", desc := "(II)I" } : MethodName)) ∈ rl_G := rl_inG mt_843 rfl
theorem im_X12_row : Cond.instanceMethod yX12_row ∈ rl_G := mw_843
theorem mt_844 : (Cond.selects "RecordLeavesModel" ({ cls := "RecordLeavesModel", name := "row", desc := "(II)I" } : MethodName) ({ cls := "RecordLeavesModel", name := "row", desc := "(II)I" } : MethodName)) ∈ lw_tbl := List.mem_append_right _ (List.mem_append_right _ (List.mem_append_right _ (List.mem_append_right _ (List.mem_append_left _ (List.mem_of_getElem? (i := 124) (by decide +kernel))))))
theorem sl_X12_row : Cond.selects yX12_row.cls yX12_row yX12_row ∈ lw_tbl := mt_844
theorem mt_850 : (Cond.code ({ cls := "RecordLeavesModel", name := "newRow", desc := "(I)I" } : MethodName) prog_14_method_14_code (3 : Nat) (Option.some FieldType.int)) ∈ lw_tbl := List.mem_append_right _ (List.mem_append_right _ (List.mem_append_right _ (List.mem_append_right _ (List.mem_append_left _ (List.mem_of_getElem? (i := 130) (rfl))))))
theorem mw_850 : (Cond.code ({ cls := "RecordLeavesModel", name := "newRow", desc := "(I)I" } : MethodName) prog_14_method_14_code (3 : Nat) (Option.some FieldType.int)) ∈ rl_G := rl_inG mt_850 rfl
theorem co_X12_newRow : Cond.code yX12_newRow cX12_newRow 3 (some FieldType.int) ∈ rl_G := mw_850
theorem mt_849 : (Cond.instanceMethod ({ cls := "RecordLeavesModel", name := "newRow", desc := "(I)I" } : MethodName)) ∈ lw_tbl := List.mem_append_right _ (List.mem_append_right _ (List.mem_append_right _ (List.mem_append_right _ (List.mem_append_left _ (List.mem_of_getElem? (i := 129) (by decide +kernel))))))
theorem mw_849 : (Cond.instanceMethod ({ cls := "RecordLeavesModel", name := "newRow", desc := "(I)I" } : MethodName)) ∈ rl_G := rl_inG mt_849 rfl
theorem im_X12_newRow : Cond.instanceMethod yX12_newRow ∈ rl_G := mw_849
theorem sl_X12_newRow : Cond.selects yX12_newRow.cls yX12_newRow yX12_newRow ∈ lw_tbl := List.mem_append_left _ (by decide +kernel)
theorem mt_854 : (Cond.code ({ cls := "RecordLeavesModel", name := "item", desc := "(III)I" } : MethodName) prog_14_method_16_code (6 : Nat) (Option.some FieldType.int)) ∈ lw_tbl := List.mem_append_right _ (List.mem_append_right _ (List.mem_append_right _ (List.mem_append_right _ (List.mem_append_left _ (List.mem_of_getElem? (i := 134) (rfl))))))
theorem mw_854 : (Cond.code ({ cls := "RecordLeavesModel", name := "item", desc := "(III)I" } : MethodName) prog_14_method_16_code (6 : Nat) (Option.some FieldType.int)) ∈ rl_G := rl_inG mt_854 rfl
theorem co_X12_item : Cond.code yX12_item cX12_item 6 (some FieldType.int) ∈ rl_G := mw_854
theorem mt_852 : (Cond.instanceMethod ({ cls := "RecordLeavesModel", name := "item", desc := "(III)I" } : MethodName)) ∈ lw_tbl := List.mem_append_right _ (List.mem_append_right _ (List.mem_append_right _ (List.mem_append_right _ (List.mem_append_left _ (List.mem_of_getElem? (i := 132) (by decide +kernel))))))
theorem mw_852 : (Cond.instanceMethod ({ cls := "RecordLeavesModel", name := "item", desc := "(III)I" } : MethodName)) ∈ rl_G := rl_inG mt_852 rfl
theorem im_X12_item : Cond.instanceMethod yX12_item ∈ rl_G := mw_852
theorem mt_853 : (Cond.selects "RecordLeavesModel" ({ cls := "RecordLeavesModel", name := "item", desc := "(III)I" } : MethodName) ({ cls := "RecordLeavesModel", name := "item", desc := "(III)I" } : MethodName)) ∈ lw_tbl := List.mem_append_right _ (List.mem_append_right _ (List.mem_append_right _ (List.mem_append_right _ (List.mem_append_left _ (List.mem_of_getElem? (i := 133) (by decide +kernel))))))
theorem sl_X12_item : Cond.selects yX12_item.cls yX12_item yX12_item ∈ lw_tbl := mt_853
theorem mt_858 : (Cond.code ({ cls := "RecordLeavesModel", name := "familyOf", desc := "(I)I" } : MethodName) prog_14_method_12_code (2 : Nat) (Option.some FieldType.int)) ∈ lw_tbl := List.mem_append_right _ (List.mem_append_right _ (List.mem_append_right _ (List.mem_append_right _ (List.mem_append_left _ (List.mem_of_getElem? (i := 138) (rfl))))))
theorem mw_858 : (Cond.code ({ cls := "RecordLeavesModel", name := "familyOf", desc := "(I)I" } : MethodName) prog_14_method_12_code (2 : Nat) (Option.some FieldType.int)) ∈ rl_G := rl_inG mt_858 rfl
theorem co_X12_familyOf : Cond.code yX12_familyOf cX12_familyOf 2 (some FieldType.int) ∈ rl_G := mw_858
theorem mt_857 : (Cond.instanceMethod ({ cls := "RecordLeavesModel", name := "familyOf", desc := "(I)I" } : MethodName)) ∈ lw_tbl := List.mem_append_right _ (List.mem_append_right _ (List.mem_append_right _ (List.mem_append_right _ (List.mem_append_left _ (List.mem_of_getElem? (i := 137) (by decide +kernel))))))
theorem mw_857 : (Cond.instanceMethod ({ cls := "RecordLeavesModel", name := "familyOf", desc := "(I)I" } : MethodName)) ∈ rl_G := rl_inG mt_857 rfl
theorem im_X12_familyOf : Cond.instanceMethod yX12_familyOf ∈ rl_G := mw_857
theorem sl_X12_familyOf : Cond.selects yX12_familyOf.cls yX12_familyOf yX12_familyOf ∈ lw_tbl := List.mem_append_left _ (by decide +kernel)
theorem mt_863 : (Cond.code ({ cls := "RecordLeavesModel", name := "share", desc := "(II)I" } : MethodName) prog_14_method_17_code (3 : Nat) (Option.some FieldType.int)) ∈ lw_tbl := List.mem_append_right _ (List.mem_append_right _ (List.mem_append_right _ (List.mem_append_right _ (List.mem_append_left _ (List.mem_of_getElem? (i := 143) (rfl))))))
theorem mw_863 : (Cond.code ({ cls := "RecordLeavesModel", name := "share", desc := "(II)I" } : MethodName) prog_14_method_17_code (3 : Nat) (Option.some FieldType.int)) ∈ rl_G := rl_inG mt_863 rfl
theorem co_X12_share : Cond.code yX12_share cX12_share 3 (some FieldType.int) ∈ rl_G := mw_863
theorem mt_861 : (Cond.instanceMethod ({ cls := "RecordLeavesModel", name := "share", desc := "(II)I" } : MethodName)) ∈ lw_tbl := List.mem_append_right _ (List.mem_append_right _ (List.mem_append_right _ (List.mem_append_right _ (List.mem_append_left _ (List.mem_of_getElem? (i := 141) (by decide +kernel))))))
theorem mw_861 : (Cond.instanceMethod ({ cls := "RecordLeavesModel", name := "share", desc := "(II)I" } : MethodName)) ∈ rl_G := rl_inG mt_861 rfl
theorem im_X12_share : Cond.instanceMethod yX12_share ∈ rl_G := mw_861
theorem mt_862 : (Cond.selects "RecordLeavesModel" ({ cls := "RecordLeavesModel", name := "share", desc := "(II)I" } : MethodName) ({ cls := "RecordLeavesModel", name := "share", desc := "(II)I" } : MethodName)) ∈ lw_tbl := List.mem_append_right _ (List.mem_append_right _ (List.mem_append_right _ (List.mem_append_right _ (List.mem_append_left _ (List.mem_of_getElem? (i := 142) (by decide +kernel))))))
theorem sl_X12_share : Cond.selects yX12_share.cls yX12_share yX12_share ∈ lw_tbl := mt_862
theorem mt_867 : (Cond.code ({ cls := "RecordLeavesModel", name := "give", desc := "(IJI)I" } : MethodName) prog_14_method_18_code (5 : Nat) (Option.some FieldType.int)) ∈ lw_tbl := List.mem_append_right _ (List.mem_append_right _ (List.mem_append_right _ (List.mem_append_right _ (List.mem_append_left _ (List.mem_of_getElem? (i := 147) (rfl))))))
theorem mw_867 : (Cond.code ({ cls := "RecordLeavesModel", name := "give", desc := "(IJI)I" } : MethodName) prog_14_method_18_code (5 : Nat) (Option.some FieldType.int)) ∈ rl_G := rl_inG mt_867 rfl
theorem co_X12_give : Cond.code yX12_give cX12_give 5 (some FieldType.int) ∈ rl_G := mw_867
theorem mt_865 : (Cond.instanceMethod ({ cls := "RecordLeavesModel", name := "give", desc := "(IJI)I" } : MethodName)) ∈ lw_tbl := List.mem_append_right _ (List.mem_append_right _ (List.mem_append_right _ (List.mem_append_right _ (List.mem_append_left _ (List.mem_of_getElem? (i := 145) (by decide +kernel))))))
theorem mw_865 : (Cond.instanceMethod ({ cls := "RecordLeavesModel", name := "give", desc := "(IJI)I" } : MethodName)) ∈ rl_G := rl_inG mt_865 rfl
theorem im_X12_give : Cond.instanceMethod yX12_give ∈ rl_G := mw_865
theorem mt_866 : (Cond.selects "RecordLeavesModel" ({ cls := "RecordLeavesModel", name := "give", desc := "(IJI)I" } : MethodName) ({ cls := "RecordLeavesModel", name := "give", desc := "(IJI)I" } : MethodName)) ∈ lw_tbl := List.mem_append_right _ (List.mem_append_right _ (List.mem_append_right _ (List.mem_append_right _ (List.mem_append_left _ (List.mem_of_getElem? (i := 146) (by decide +kernel))))))
theorem sl_X12_give : Cond.selects yX12_give.cls yX12_give yX12_give ∈ lw_tbl := mt_866
theorem mt_871 : (Cond.code ({ cls := "RecordLeavesModel", name := "make", desc := "(III)I" } : MethodName) prog_14_method_22_code (5 : Nat) (Option.some FieldType.int)) ∈ lw_tbl := List.mem_append_right _ (List.mem_append_right _ (List.mem_append_right _ (List.mem_append_right _ (List.mem_append_left _ (List.mem_of_getElem? (i := 151) (rfl))))))
theorem mw_871 : (Cond.code ({ cls := "RecordLeavesModel", name := "make", desc := "(III)I" } : MethodName) prog_14_method_22_code (5 : Nat) (Option.some FieldType.int)) ∈ rl_G := rl_inG mt_871 rfl
theorem co_X12_make : Cond.code yX12_make cX12_make 5 (some FieldType.int) ∈ rl_G := mw_871
theorem mt_869 : (Cond.instanceMethod ({ cls := "RecordLeavesModel", name := "make", desc := "(III)I" } : MethodName)) ∈ lw_tbl := List.mem_append_right _ (List.mem_append_right _ (List.mem_append_right _ (List.mem_append_right _ (List.mem_append_left _ (List.mem_of_getElem? (i := 149) (by decide +kernel))))))
theorem mw_869 : (Cond.instanceMethod ({ cls := "RecordLeavesModel", name := "make", desc := "(III)I" } : MethodName)) ∈ rl_G := rl_inG mt_869 rfl
theorem im_X12_make : Cond.instanceMethod yX12_make ∈ rl_G := mw_869
theorem mt_870 : (Cond.selects "RecordLeavesModel" ({ cls := "RecordLeavesModel", name := "make", desc := "(III)I" } : MethodName) ({ cls := "RecordLeavesModel", name := "make", desc := "(III)I" } : MethodName)) ∈ lw_tbl := List.mem_append_right _ (List.mem_append_right _ (List.mem_append_right _ (List.mem_append_right _ (List.mem_append_left _ (List.mem_of_getElem? (i := 150) (by decide +kernel))))))
theorem sl_X12_make : Cond.selects yX12_make.cls yX12_make yX12_make ∈ lw_tbl := mt_870
theorem mt_875 : (Cond.code ({ cls := "RecordLeavesModel", name := "record", desc := "(II)I" } : MethodName) prog_14_method_21_code (7 : Nat) (Option.some FieldType.int)) ∈ lw_tbl := List.mem_append_right _ (List.mem_append_right _ (List.mem_append_right _ (List.mem_append_right _ (List.mem_append_left _ (List.mem_of_getElem? (i := 155) (rfl))))))
theorem mw_875 : (Cond.code ({ cls := "RecordLeavesModel", name := "record", desc := "(II)I" } : MethodName) prog_14_method_21_code (7 : Nat) (Option.some FieldType.int)) ∈ rl_G := rl_inG mt_875 rfl
theorem co_X12_record : Cond.code yX12_record cX12_record 7 (some FieldType.int) ∈ rl_G := mw_875
theorem mt_874 : (Cond.instanceMethod ({ cls := "RecordLeavesModel", name := "record", desc := "(II)I" } : MethodName)) ∈ lw_tbl := List.mem_append_right _ (List.mem_append_right _ (List.mem_append_right _ (List.mem_append_right _ (List.mem_append_left _ (List.mem_of_getElem? (i := 154) (by decide +kernel))))))
theorem mw_874 : (Cond.instanceMethod ({ cls := "RecordLeavesModel", name := "record", desc := "(II)I" } : MethodName)) ∈ rl_G := rl_inG mt_874 rfl
theorem im_X12_record : Cond.instanceMethod yX12_record ∈ rl_G := mw_874
theorem sl_X12_record : Cond.selects yX12_record.cls yX12_record yX12_record ∈ lw_tbl := List.mem_append_left _ (by decide +kernel)
theorem mt_879 : (Cond.code ({ cls := "RecordLeavesModel", name := "taken", desc := "(IIJI)I" } : MethodName) prog_14_method_19_code (10 : Nat) (Option.some FieldType.int)) ∈ lw_tbl := List.mem_append_right _ (List.mem_append_right _ (List.mem_append_right _ (List.mem_append_right _ (List.mem_append_left _ (List.mem_of_getElem? (i := 159) (rfl))))))
theorem mw_879 : (Cond.code ({ cls := "RecordLeavesModel", name := "taken", desc := "(IIJI)I" } : MethodName) prog_14_method_19_code (10 : Nat) (Option.some FieldType.int)) ∈ rl_G := rl_inG mt_879 rfl
theorem co_X12_taken : Cond.code yX12_taken cX12_taken 10 (some FieldType.int) ∈ rl_G := mw_879
theorem mt_878 : (Cond.instanceMethod ({ cls := "RecordLeavesModel", name := "taken", desc := "(IIJI)I" } : MethodName)) ∈ lw_tbl := List.mem_append_right _ (List.mem_append_right _ (List.mem_append_right _ (List.mem_append_right _ (List.mem_append_left _ (List.mem_of_getElem? (i := 158) (by decide +kernel))))))
theorem mw_878 : (Cond.instanceMethod ({ cls := "RecordLeavesModel", name := "taken", desc := "(IIJI)I" } : MethodName)) ∈ rl_G := rl_inG mt_878 rfl
theorem im_X12_taken : Cond.instanceMethod yX12_taken ∈ rl_G := mw_878
theorem sl_X12_taken : Cond.selects yX12_taken.cls yX12_taken yX12_taken ∈ lw_tbl := List.mem_append_left _ (by decide +kernel)
theorem mt_885 : (Cond.code ({ cls := "RecordLeavesModel", name := "checked", desc := "(IJIJ)I" } : MethodName) prog_14_method_20_code (8 : Nat) (Option.some FieldType.int)) ∈ lw_tbl := List.mem_append_right _ (List.mem_append_right _ (List.mem_append_right _ (List.mem_append_right _ (List.mem_append_left _ (List.mem_of_getElem? (i := 165) (rfl))))))
theorem mw_885 : (Cond.code ({ cls := "RecordLeavesModel", name := "checked", desc := "(IJIJ)I" } : MethodName) prog_14_method_20_code (8 : Nat) (Option.some FieldType.int)) ∈ rl_G := rl_inG mt_885 rfl
theorem co_X12_checked : Cond.code yX12_checked cX12_checked 8 (some FieldType.int) ∈ rl_G := mw_885
theorem mt_884 : (Cond.instanceMethod ({ cls := "RecordLeavesModel", name := "checked", desc := "(IJIJ)I" } : MethodName)) ∈ lw_tbl := List.mem_append_right _ (List.mem_append_right _ (List.mem_append_right _ (List.mem_append_right _ (List.mem_append_left _ (List.mem_of_getElem? (i := 164) (by decide +kernel))))))
theorem mw_884 : (Cond.instanceMethod ({ cls := "RecordLeavesModel", name := "checked", desc := "(IJIJ)I" } : MethodName)) ∈ rl_G := rl_inG mt_884 rfl
theorem im_X12_checked : Cond.instanceMethod yX12_checked ∈ rl_G := mw_884
theorem sl_X12_checked : Cond.selects yX12_checked.cls yX12_checked yX12_checked ∈ lw_tbl := List.mem_append_left _ (by decide +kernel)
theorem mt_890 : (Cond.code ({ cls := "RecordLeavesModel", name := "about", desc := "(II)I" } : MethodName) prog_14_method_23_code (7 : Nat) (Option.some FieldType.int)) ∈ lw_tbl := List.mem_append_right _ (List.mem_append_right _ (List.mem_append_right _ (List.mem_append_right _ (List.mem_append_left _ (List.mem_of_getElem? (i := 170) (rfl))))))
theorem mw_890 : (Cond.code ({ cls := "RecordLeavesModel", name := "about", desc := "(II)I" } : MethodName) prog_14_method_23_code (7 : Nat) (Option.some FieldType.int)) ∈ rl_G := rl_inG mt_890 rfl
theorem co_X12_about : Cond.code yX12_about cX12_about 7 (some FieldType.int) ∈ rl_G := mw_890
theorem mt_888 : (Cond.instanceMethod ({ cls := "RecordLeavesModel", name := "about", desc := "(II)I" } : MethodName)) ∈ lw_tbl := List.mem_append_right _ (List.mem_append_right _ (List.mem_append_right _ (List.mem_append_right _ (List.mem_append_left _ (List.mem_of_getElem? (i := 168) (by decide +kernel))))))
theorem mw_888 : (Cond.instanceMethod ({ cls := "RecordLeavesModel", name := "about", desc := "(II)I" } : MethodName)) ∈ rl_G := rl_inG mt_888 rfl
theorem im_X12_about : Cond.instanceMethod yX12_about ∈ rl_G := mw_888
theorem mt_889 : (Cond.selects "RecordLeavesModel" ({ cls := "RecordLeavesModel", name := "about", desc := "(II)I" } : MethodName) ({ cls := "RecordLeavesModel", name := "about", desc := "(II)I" } : MethodName)) ∈ lw_tbl := List.mem_append_right _ (List.mem_append_right _ (List.mem_append_right _ (List.mem_append_right _ (List.mem_append_left _ (List.mem_of_getElem? (i := 169) (by decide +kernel))))))
theorem sl_X12_about : Cond.selects yX12_about.cls yX12_about yX12_about ∈ lw_tbl := mt_889
theorem mt_895 : (Cond.code ({ cls := "RecordLeavesModel", name := "number", desc := "(II)J" } : MethodName) prog_14_method_26_code (4 : Nat) (Option.some FieldType.long)) ∈ lw_tbl := List.mem_append_right _ (List.mem_append_right _ (List.mem_append_right _ (List.mem_append_right _ (List.mem_append_left _ (List.mem_of_getElem? (i := 175) (rfl))))))
theorem mw_895 : (Cond.code ({ cls := "RecordLeavesModel", name := "number", desc := "(II)J" } : MethodName) prog_14_method_26_code (4 : Nat) (Option.some FieldType.long)) ∈ rl_G := rl_inG mt_895 rfl
theorem co_X12_number : Cond.code yX12_number cX12_number 4 (some FieldType.long) ∈ rl_G := mw_895
theorem mt_893 : (Cond.instanceMethod ({ cls := "RecordLeavesModel", name := "number", desc := "(II)J" } : MethodName)) ∈ lw_tbl := List.mem_append_right _ (List.mem_append_right _ (List.mem_append_right _ (List.mem_append_right _ (List.mem_append_left _ (List.mem_of_getElem? (i := 173) (by decide +kernel))))))
theorem mw_893 : (Cond.instanceMethod ({ cls := "RecordLeavesModel", name := "number", desc := "(II)J" } : MethodName)) ∈ rl_G := rl_inG mt_893 rfl
theorem im_X12_number : Cond.instanceMethod yX12_number ∈ rl_G := mw_893
theorem mt_894 : (Cond.selects "RecordLeavesModel" ({ cls := "RecordLeavesModel", name := "number", desc := "(II)J" } : MethodName) ({ cls := "RecordLeavesModel", name := "number", desc := "(II)J" } : MethodName)) ∈ lw_tbl := List.mem_append_right _ (List.mem_append_right _ (List.mem_append_right _ (List.mem_append_right _ (List.mem_append_left _ (List.mem_of_getElem? (i := 174) (by decide +kernel))))))
theorem sl_X12_number : Cond.selects yX12_number.cls yX12_number yX12_number ∈ lw_tbl := mt_894
theorem mt_899 : (Cond.code ({ cls := "RecordLeavesModel", name := "partAt", desc := "(II)I" } : MethodName) prog_14_method_24_code (4 : Nat) (Option.some FieldType.int)) ∈ lw_tbl := List.mem_append_right _ (List.mem_append_right _ (List.mem_append_right _ (List.mem_append_right _ (List.mem_append_left _ (List.mem_of_getElem? (i := 179) (rfl))))))
theorem mw_899 : (Cond.code ({ cls := "RecordLeavesModel", name := "partAt", desc := "(II)I" } : MethodName) prog_14_method_24_code (4 : Nat) (Option.some FieldType.int)) ∈ rl_G := rl_inG mt_899 rfl
theorem co_X12_partAt : Cond.code yX12_partAt cX12_partAt 4 (some FieldType.int) ∈ rl_G := mw_899
theorem mt_898 : (Cond.instanceMethod ({ cls := "RecordLeavesModel", name := "partAt", desc := "(II)I" } : MethodName)) ∈ lw_tbl := List.mem_append_right _ (List.mem_append_right _ (List.mem_append_right _ (List.mem_append_right _ (List.mem_append_left _ (List.mem_of_getElem? (i := 178) (by decide +kernel))))))
theorem mw_898 : (Cond.instanceMethod ({ cls := "RecordLeavesModel", name := "partAt", desc := "(II)I" } : MethodName)) ∈ rl_G := rl_inG mt_898 rfl
theorem im_X12_partAt : Cond.instanceMethod yX12_partAt ∈ rl_G := mw_898
theorem sl_X12_partAt : Cond.selects yX12_partAt.cls yX12_partAt yX12_partAt ∈ lw_tbl := List.mem_append_left _ (by decide +kernel)
theorem mt_903 : (Cond.code ({ cls := "RecordLeavesModel", name := "isNumber", desc := "(I)Z" } : MethodName) prog_14_method_25_code (2 : Nat) (Option.some FieldType.boolean)) ∈ lw_tbl := List.mem_append_right _ (List.mem_append_right _ (List.mem_append_right _ (List.mem_append_right _ (List.mem_append_left _ (List.mem_of_getElem? (i := 183) (rfl))))))
theorem mw_903 : (Cond.code ({ cls := "RecordLeavesModel", name := "isNumber", desc := "(I)Z" } : MethodName) prog_14_method_25_code (2 : Nat) (Option.some FieldType.boolean)) ∈ rl_G := rl_inG mt_903 rfl
theorem co_X12_isNumber : Cond.code yX12_isNumber cX12_isNumber 2 (some FieldType.boolean) ∈ rl_G := mw_903
theorem mt_902 : (Cond.instanceMethod ({ cls := "RecordLeavesModel", name := "isNumber", desc := "(I)Z" } : MethodName)) ∈ lw_tbl := List.mem_append_right _ (List.mem_append_right _ (List.mem_append_right _ (List.mem_append_right _ (List.mem_append_left _ (List.mem_of_getElem? (i := 182) (by decide +kernel))))))
theorem mw_902 : (Cond.instanceMethod ({ cls := "RecordLeavesModel", name := "isNumber", desc := "(I)Z" } : MethodName)) ∈ rl_G := rl_inG mt_902 rfl
theorem im_X12_isNumber : Cond.instanceMethod yX12_isNumber ∈ rl_G := mw_902
theorem sl_X12_isNumber : Cond.selects yX12_isNumber.cls yX12_isNumber yX12_isNumber ∈ lw_tbl := List.mem_append_left _ (by decide +kernel)
theorem mt_908 : (Cond.code ({ cls := "RecordLeavesModel", name := "take", desc := "(III)I" } : MethodName) prog_14_method_27_code (5 : Nat) (Option.some FieldType.int)) ∈ lw_tbl := List.mem_append_right _ (List.mem_append_right _ (List.mem_append_right _ (List.mem_append_right _ (List.mem_append_left _ (List.mem_of_getElem? (i := 188) (rfl))))))
theorem mw_908 : (Cond.code ({ cls := "RecordLeavesModel", name := "take", desc := "(III)I" } : MethodName) prog_14_method_27_code (5 : Nat) (Option.some FieldType.int)) ∈ rl_G := rl_inG mt_908 rfl
theorem co_X12_take : Cond.code yX12_take cX12_take 5 (some FieldType.int) ∈ rl_G := mw_908
theorem mt_906 : (Cond.instanceMethod ({ cls := "RecordLeavesModel", name := "take", desc := "(III)I" } : MethodName)) ∈ lw_tbl := List.mem_append_right _ (List.mem_append_right _ (List.mem_append_right _ (List.mem_append_right _ (List.mem_append_left _ (List.mem_of_getElem? (i := 186) (by decide +kernel))))))
theorem mw_906 : (Cond.instanceMethod ({ cls := "RecordLeavesModel", name := "take", desc := "(III)I" } : MethodName)) ∈ rl_G := rl_inG mt_906 rfl
theorem im_X12_take : Cond.instanceMethod yX12_take ∈ rl_G := mw_906
theorem mt_907 : (Cond.selects "RecordLeavesModel" ({ cls := "RecordLeavesModel", name := "take", desc := "(III)I" } : MethodName) ({ cls := "RecordLeavesModel", name := "take", desc := "(III)I" } : MethodName)) ∈ lw_tbl := List.mem_append_right _ (List.mem_append_right _ (List.mem_append_right _ (List.mem_append_right _ (List.mem_append_left _ (List.mem_of_getElem? (i := 187) (by decide +kernel))))))
theorem sl_X12_take : Cond.selects yX12_take.cls yX12_take yX12_take ∈ lw_tbl := mt_907
theorem mt_912 : (Cond.code ({ cls := "RecordLeavesModel", name := "like", desc := "(II)I" } : MethodName) prog_14_method_31_code (7 : Nat) (Option.some FieldType.int)) ∈ lw_tbl := List.mem_append_right _ (List.mem_append_right _ (List.mem_append_right _ (List.mem_append_right _ (List.mem_append_left _ (List.mem_of_getElem? (i := 192) (rfl))))))
theorem mw_912 : (Cond.code ({ cls := "RecordLeavesModel", name := "like", desc := "(II)I" } : MethodName) prog_14_method_31_code (7 : Nat) (Option.some FieldType.int)) ∈ rl_G := rl_inG mt_912 rfl
theorem co_X12_like : Cond.code yX12_like cX12_like 7 (some FieldType.int) ∈ rl_G := mw_912
theorem mt_910 : (Cond.instanceMethod ({ cls := "RecordLeavesModel", name := "like", desc := "(II)I" } : MethodName)) ∈ lw_tbl := List.mem_append_right _ (List.mem_append_right _ (List.mem_append_right _ (List.mem_append_right _ (List.mem_append_left _ (List.mem_of_getElem? (i := 190) (by decide +kernel))))))
theorem mw_910 : (Cond.instanceMethod ({ cls := "RecordLeavesModel", name := "like", desc := "(II)I" } : MethodName)) ∈ rl_G := rl_inG mt_910 rfl
theorem im_X12_like : Cond.instanceMethod yX12_like ∈ rl_G := mw_910
theorem mt_911 : (Cond.selects "RecordLeavesModel" ({ cls := "RecordLeavesModel", name := "like", desc := "(II)I" } : MethodName) ({ cls := "RecordLeavesModel", name := "like", desc := "(II)I" } : MethodName)) ∈ lw_tbl := List.mem_append_right _ (List.mem_append_right _ (List.mem_append_right _ (List.mem_append_right _ (List.mem_append_left _ (List.mem_of_getElem? (i := 191) (by decide +kernel))))))
theorem sl_X12_like : Cond.selects yX12_like.cls yX12_like yX12_like ∈ lw_tbl := mt_911
theorem mt_916 : (Cond.code ({ cls := "RecordLeavesModel", name := "pair", desc := "(III)V" } : MethodName) prog_14_method_28_code (4 : Nat) (Option.none : Option FieldType)) ∈ lw_tbl := List.mem_append_right _ (List.mem_append_right _ (List.mem_append_right _ (List.mem_append_right _ (List.mem_append_left _ (List.mem_of_getElem? (i := 196) (rfl))))))
theorem mw_916 : (Cond.code ({ cls := "RecordLeavesModel", name := "pair", desc := "(III)V" } : MethodName) prog_14_method_28_code (4 : Nat) (Option.none : Option FieldType)) ∈ rl_G := rl_inG mt_916 rfl
theorem co_X12_pair : Cond.code yX12_pair cX12_pair 4 none ∈ rl_G := mw_916
theorem mt_915 : (Cond.instanceMethod ({ cls := "RecordLeavesModel", name := "pair", desc := "(III)V" } : MethodName)) ∈ lw_tbl := List.mem_append_right _ (List.mem_append_right _ (List.mem_append_right _ (List.mem_append_right _ (List.mem_append_left _ (List.mem_of_getElem? (i := 195) (by decide +kernel))))))
theorem mw_915 : (Cond.instanceMethod ({ cls := "RecordLeavesModel", name := "pair", desc := "(III)V" } : MethodName)) ∈ rl_G := rl_inG mt_915 rfl
theorem im_X12_pair : Cond.instanceMethod yX12_pair ∈ rl_G := mw_915
theorem sl_X12_pair : Cond.selects yX12_pair.cls yX12_pair yX12_pair ∈ lw_tbl := List.mem_append_left _ (by decide +kernel)
theorem mt_920 : (Cond.code ({ cls := "RecordLeavesModel", name := "rowsLike", desc := "(II)Z" } : MethodName) prog_14_method_29_code (5 : Nat) (Option.some FieldType.boolean)) ∈ lw_tbl := List.mem_append_right _ (List.mem_append_right _ (List.mem_append_right _ (List.mem_append_right _ (List.mem_append_left _ (List.mem_of_getElem? (i := 200) (rfl))))))
theorem mw_920 : (Cond.code ({ cls := "RecordLeavesModel", name := "rowsLike", desc := "(II)Z" } : MethodName) prog_14_method_29_code (5 : Nat) (Option.some FieldType.boolean)) ∈ rl_G := rl_inG mt_920 rfl
theorem co_X12_rowsLike : Cond.code yX12_rowsLike cX12_rowsLike 5 (some FieldType.boolean) ∈ rl_G := mw_920
theorem mt_919 : (Cond.instanceMethod ({ cls := "RecordLeavesModel", name := "rowsLike", desc := "(II)Z" } : MethodName)) ∈ lw_tbl := List.mem_append_right _ (List.mem_append_right _ (List.mem_append_right _ (List.mem_append_right _ (List.mem_append_left _ (List.mem_of_getElem? (i := 199) (by decide +kernel))))))
theorem mw_919 : (Cond.instanceMethod ({ cls := "RecordLeavesModel", name := "rowsLike", desc := "(II)Z" } : MethodName)) ∈ rl_G := rl_inG mt_919 rfl
theorem im_X12_rowsLike : Cond.instanceMethod yX12_rowsLike ∈ rl_G := mw_919
theorem sl_X12_rowsLike : Cond.selects yX12_rowsLike.cls yX12_rowsLike yX12_rowsLike ∈ lw_tbl := List.mem_append_left _ (by decide +kernel)
theorem mt_924 : (Cond.code ({ cls := "RecordLeavesModel", name := "opens", desc := "(III)Z" } : MethodName) prog_14_method_30_code (6 : Nat) (Option.some FieldType.boolean)) ∈ lw_tbl := List.mem_append_right _ (List.mem_append_right _ (List.mem_append_right _ (List.mem_append_right _ (List.mem_append_left _ (List.mem_of_getElem? (i := 204) (rfl))))))
theorem mw_924 : (Cond.code ({ cls := "RecordLeavesModel", name := "opens", desc := "(III)Z" } : MethodName) prog_14_method_30_code (6 : Nat) (Option.some FieldType.boolean)) ∈ rl_G := rl_inG mt_924 rfl
theorem co_X12_opens : Cond.code yX12_opens cX12_opens 6 (some FieldType.boolean) ∈ rl_G := mw_924
theorem mt_923 : (Cond.instanceMethod ({ cls := "RecordLeavesModel", name := "opens", desc := "(III)Z" } : MethodName)) ∈ lw_tbl := List.mem_append_right _ (List.mem_append_right _ (List.mem_append_right _ (List.mem_append_right _ (List.mem_append_left _ (List.mem_of_getElem? (i := 203) (by decide +kernel))))))
theorem mw_923 : (Cond.instanceMethod ({ cls := "RecordLeavesModel", name := "opens", desc := "(III)Z" } : MethodName)) ∈ rl_G := rl_inG mt_923 rfl
theorem im_X12_opens : Cond.instanceMethod yX12_opens ∈ rl_G := mw_923
theorem sl_X12_opens : Cond.selects yX12_opens.cls yX12_opens yX12_opens ∈ lw_tbl := List.mem_append_left _ (by decide +kernel)
theorem mt_928 : (Cond.code ({ cls := "RecordLeavesModel", name := "write", desc := "(I)I" } : MethodName) prog_14_method_35_code (4 : Nat) (Option.some FieldType.int)) ∈ lw_tbl := List.mem_append_right _ (List.mem_append_right _ (List.mem_append_right _ (List.mem_append_right _ (List.mem_append_left _ (List.mem_of_getElem? (i := 208) (rfl))))))
theorem mw_928 : (Cond.code ({ cls := "RecordLeavesModel", name := "write", desc := "(I)I" } : MethodName) prog_14_method_35_code (4 : Nat) (Option.some FieldType.int)) ∈ rl_G := rl_inG mt_928 rfl
theorem co_X12_write : Cond.code yX12_write cX12_write 4 (some FieldType.int) ∈ rl_G := mw_928
theorem mt_926 : (Cond.instanceMethod ({ cls := "RecordLeavesModel", name := "write", desc := "(I)I" } : MethodName)) ∈ lw_tbl := List.mem_append_right _ (List.mem_append_right _ (List.mem_append_right _ (List.mem_append_right _ (List.mem_append_left _ (List.mem_of_getElem? (i := 206) (by decide +kernel))))))
theorem mw_926 : (Cond.instanceMethod ({ cls := "RecordLeavesModel", name := "write", desc := "(I)I" } : MethodName)) ∈ rl_G := rl_inG mt_926 rfl
theorem im_X12_write : Cond.instanceMethod yX12_write ∈ rl_G := mw_926
theorem mt_927 : (Cond.selects "RecordLeavesModel" ({ cls := "RecordLeavesModel", name := "write", desc := "(I)I" } : MethodName) ({ cls := "RecordLeavesModel", name := "write", desc := "(I)I" } : MethodName)) ∈ lw_tbl := List.mem_append_right _ (List.mem_append_right _ (List.mem_append_right _ (List.mem_append_right _ (List.mem_append_left _ (List.mem_of_getElem? (i := 207) (by decide +kernel))))))
theorem sl_X12_write : Cond.selects yX12_write.cls yX12_write yX12_write ∈ lw_tbl := mt_927
theorem mt_932 : (Cond.code ({ cls := "RecordLeavesModel", name := "begins", desc := "(II)I" } : MethodName) prog_14_method_33_code (3 : Nat) (Option.some FieldType.int)) ∈ lw_tbl := List.mem_append_right _ (List.mem_append_right _ (List.mem_append_right _ (List.mem_append_right _ (List.mem_append_left _ (List.mem_of_getElem? (i := 212) (rfl))))))
theorem mw_932 : (Cond.code ({ cls := "RecordLeavesModel", name := "begins", desc := "(II)I" } : MethodName) prog_14_method_33_code (3 : Nat) (Option.some FieldType.int)) ∈ rl_G := rl_inG mt_932 rfl
theorem co_X12_begins : Cond.code yX12_begins cX12_begins 3 (some FieldType.int) ∈ rl_G := mw_932
theorem mt_931 : (Cond.instanceMethod ({ cls := "RecordLeavesModel", name := "begins", desc := "(II)I" } : MethodName)) ∈ lw_tbl := List.mem_append_right _ (List.mem_append_right _ (List.mem_append_right _ (List.mem_append_right _ (List.mem_append_left _ (List.mem_of_getElem? (i := 211) (by decide +kernel))))))
theorem mw_931 : (Cond.instanceMethod ({ cls := "RecordLeavesModel", name := "begins", desc := "(II)I" } : MethodName)) ∈ rl_G := rl_inG mt_931 rfl
theorem im_X12_begins : Cond.instanceMethod yX12_begins ∈ rl_G := mw_931
theorem sl_X12_begins : Cond.selects yX12_begins.cls yX12_begins yX12_begins ∈ lw_tbl := List.mem_append_left _ (by decide +kernel)
theorem mt_936 : (Cond.code ({ cls := "RecordLeavesModel", name := "put", desc := "(J)V" } : MethodName) prog_14_method_32_code (3 : Nat) (Option.none : Option FieldType)) ∈ lw_tbl := List.mem_append_right _ (List.mem_append_right _ (List.mem_append_right _ (List.mem_append_right _ (List.mem_append_left _ (List.mem_of_getElem? (i := 216) (rfl))))))
theorem mw_936 : (Cond.code ({ cls := "RecordLeavesModel", name := "put", desc := "(J)V" } : MethodName) prog_14_method_32_code (3 : Nat) (Option.none : Option FieldType)) ∈ rl_G := rl_inG mt_936 rfl
theorem co_X12_put : Cond.code yX12_put cX12_put 3 none ∈ rl_G := mw_936
theorem mt_935 : (Cond.instanceMethod ({ cls := "RecordLeavesModel", name := "put", desc := "(J)V" } : MethodName)) ∈ lw_tbl := List.mem_append_right _ (List.mem_append_right _ (List.mem_append_right _ (List.mem_append_right _ (List.mem_append_left _ (List.mem_of_getElem? (i := 215) (by decide +kernel))))))
theorem mw_935 : (Cond.instanceMethod ({ cls := "RecordLeavesModel", name := "put", desc := "(J)V" } : MethodName)) ∈ rl_G := rl_inG mt_935 rfl
theorem im_X12_put : Cond.instanceMethod yX12_put ∈ rl_G := mw_935
theorem sl_X12_put : Cond.selects yX12_put.cls yX12_put yX12_put ∈ lw_tbl := List.mem_append_left _ (by decide +kernel)
theorem mt_940 : (Cond.code ({ cls := "RecordLeavesModel", name := "writePart", desc := "(I)I" } : MethodName) prog_14_method_34_code (7 : Nat) (Option.some FieldType.int)) ∈ lw_tbl := List.mem_append_right _ (List.mem_append_right _ (List.mem_append_right _ (List.mem_append_right _ (List.mem_append_left _ (List.mem_of_getElem? (i := 220) (rfl))))))
theorem mw_940 : (Cond.code ({ cls := "RecordLeavesModel", name := "writePart", desc := "(I)I" } : MethodName) prog_14_method_34_code (7 : Nat) (Option.some FieldType.int)) ∈ rl_G := rl_inG mt_940 rfl
theorem co_X12_writePart : Cond.code yX12_writePart cX12_writePart 7 (some FieldType.int) ∈ rl_G := mw_940
theorem mt_939 : (Cond.instanceMethod ({ cls := "RecordLeavesModel", name := "writePart", desc := "(I)I" } : MethodName)) ∈ lw_tbl := List.mem_append_right _ (List.mem_append_right _ (List.mem_append_right _ (List.mem_append_right _ (List.mem_append_left _ (List.mem_of_getElem? (i := 219) (by decide +kernel))))))
theorem mw_939 : (Cond.instanceMethod ({ cls := "RecordLeavesModel", name := "writePart", desc := "(I)I" } : MethodName)) ∈ rl_G := rl_inG mt_939 rfl
theorem im_X12_writePart : Cond.instanceMethod yX12_writePart ∈ rl_G := mw_939
theorem sl_X12_writePart : Cond.selects yX12_writePart.cls yX12_writePart yX12_writePart ∈ lw_tbl := List.mem_append_left _ (by decide +kernel)
theorem mt_945 : (Cond.code ({ cls := "RecordLeavesModel", name := "leaf", desc := "(I)J" } : MethodName) prog_14_method_36_code (3 : Nat) (Option.some FieldType.long)) ∈ lw_tbl := List.mem_append_right _ (List.mem_append_right _ (List.mem_append_right _ (List.mem_append_right _ (List.mem_append_left _ (List.mem_of_getElem? (i := 225) (rfl))))))
theorem mw_945 : (Cond.code ({ cls := "RecordLeavesModel", name := "leaf", desc := "(I)J" } : MethodName) prog_14_method_36_code (3 : Nat) (Option.some FieldType.long)) ∈ rl_G := rl_inG mt_945 rfl
theorem co_X12_leaf : Cond.code yX12_leaf cX12_leaf 3 (some FieldType.long) ∈ rl_G := mw_945
theorem mt_943 : (Cond.instanceMethod ({ cls := "RecordLeavesModel", name := "leaf", desc := "(I)J" } : MethodName)) ∈ lw_tbl := List.mem_append_right _ (List.mem_append_right _ (List.mem_append_right _ (List.mem_append_right _ (List.mem_append_left _ (List.mem_of_getElem? (i := 223) (by decide +kernel))))))
theorem mw_943 : (Cond.instanceMethod ({ cls := "RecordLeavesModel", name := "leaf", desc := "(I)J" } : MethodName)) ∈ rl_G := rl_inG mt_943 rfl
theorem im_X12_leaf : Cond.instanceMethod yX12_leaf ∈ rl_G := mw_943
theorem mt_944 : (Cond.selects "RecordLeavesModel" ({ cls := "RecordLeavesModel", name := "leaf", desc := "(I)J" } : MethodName) ({ cls := "RecordLeavesModel", name := "leaf", desc := "(I)J" } : MethodName)) ∈ lw_tbl := List.mem_append_right _ (List.mem_append_right _ (List.mem_append_right _ (List.mem_append_right _ (List.mem_append_left _ (List.mem_of_getElem? (i := 224) (by decide +kernel))))))
theorem sl_X12_leaf : Cond.selects yX12_leaf.cls yX12_leaf yX12_leaf ∈ lw_tbl := mt_944
theorem mt_949 : (Cond.code ({ cls := "RecordLeavesModel", name := "set", desc := "(IJ)I" } : MethodName) prog_14_method_37_code (4 : Nat) (Option.some FieldType.int)) ∈ lw_tbl := List.mem_append_right _ (List.mem_append_right _ (List.mem_append_right _ (List.mem_append_right _ (List.mem_append_left _ (List.mem_of_getElem? (i := 229) (rfl))))))
theorem mw_949 : (Cond.code ({ cls := "RecordLeavesModel", name := "set", desc := "(IJ)I" } : MethodName) prog_14_method_37_code (4 : Nat) (Option.some FieldType.int)) ∈ rl_G := rl_inG mt_949 rfl
theorem co_X12_set : Cond.code yX12_set cX12_set 4 (some FieldType.int) ∈ rl_G := mw_949
theorem mt_947 : (Cond.instanceMethod ({ cls := "RecordLeavesModel", name := "set", desc := "(IJ)I" } : MethodName)) ∈ lw_tbl := List.mem_append_right _ (List.mem_append_right _ (List.mem_append_right _ (List.mem_append_right _ (List.mem_append_left _ (List.mem_of_getElem? (i := 227) (by decide +kernel))))))
theorem mw_947 : (Cond.instanceMethod ({ cls := "RecordLeavesModel", name := "set", desc := "(IJ)I" } : MethodName)) ∈ rl_G := rl_inG mt_947 rfl
theorem im_X12_set : Cond.instanceMethod yX12_set ∈ rl_G := mw_947
theorem mt_948 : (Cond.selects "RecordLeavesModel" ({ cls := "RecordLeavesModel", name := "set", desc := "(IJ)I" } : MethodName) ({ cls := "RecordLeavesModel", name := "set", desc := "(IJ)I" } : MethodName)) ∈ lw_tbl := List.mem_append_right _ (List.mem_append_right _ (List.mem_append_right _ (List.mem_append_right _ (List.mem_append_left _ (List.mem_of_getElem? (i := 228) (by decide +kernel))))))
theorem sl_X12_set : Cond.selects yX12_set.cls yX12_set yX12_set ∈ lw_tbl := mt_948
theorem mt_953 : (Cond.code ({ cls := "RecordLeavesModel", name := "cut", desc := "(I)I" } : MethodName) prog_14_method_38_code (3 : Nat) (Option.some FieldType.int)) ∈ lw_tbl := List.mem_append_right _ (List.mem_append_right _ (List.mem_append_right _ (List.mem_append_right _ (List.mem_append_left _ (List.mem_of_getElem? (i := 233) (rfl))))))
theorem mw_953 : (Cond.code ({ cls := "RecordLeavesModel", name := "cut", desc := "(I)I" } : MethodName) prog_14_method_38_code (3 : Nat) (Option.some FieldType.int)) ∈ rl_G := rl_inG mt_953 rfl
theorem co_X12_cut : Cond.code yX12_cut cX12_cut 3 (some FieldType.int) ∈ rl_G := mw_953
theorem mt_951 : (Cond.instanceMethod ({ cls := "RecordLeavesModel", name := "cut", desc := "(I)I" } : MethodName)) ∈ lw_tbl := List.mem_append_right _ (List.mem_append_right _ (List.mem_append_right _ (List.mem_append_right _ (List.mem_append_left _ (List.mem_of_getElem? (i := 231) (by decide +kernel))))))
theorem mw_951 : (Cond.instanceMethod ({ cls := "RecordLeavesModel", name := "cut", desc := "(I)I" } : MethodName)) ∈ rl_G := rl_inG mt_951 rfl
theorem im_X12_cut : Cond.instanceMethod yX12_cut ∈ rl_G := mw_951
theorem mt_952 : (Cond.selects "RecordLeavesModel" ({ cls := "RecordLeavesModel", name := "cut", desc := "(I)I" } : MethodName) ({ cls := "RecordLeavesModel", name := "cut", desc := "(I)I" } : MethodName)) ∈ lw_tbl := List.mem_append_right _ (List.mem_append_right _ (List.mem_append_right _ (List.mem_append_right _ (List.mem_append_left _ (List.mem_of_getElem? (i := 232) (by decide +kernel))))))
theorem sl_X12_cut : Cond.selects yX12_cut.cls yX12_cut yX12_cut ∈ lw_tbl := mt_952
theorem mt_957 : (Cond.code ({ cls := "RecordLeavesModel", name := "read", desc := "(II)I" } : MethodName) prog_14_method_45_code (6 : Nat) (Option.some FieldType.int)) ∈ lw_tbl := List.mem_append_right _ (List.mem_append_right _ (List.mem_append_right _ (List.mem_append_right _ (List.mem_append_left _ (List.mem_of_getElem? (i := 237) (rfl))))))
theorem mw_957 : (Cond.code ({ cls := "RecordLeavesModel", name := "read", desc := "(II)I" } : MethodName) prog_14_method_45_code (6 : Nat) (Option.some FieldType.int)) ∈ rl_G := rl_inG mt_957 rfl
theorem co_X12_read : Cond.code yX12_read cX12_read 6 (some FieldType.int) ∈ rl_G := mw_957
theorem mt_955 : (Cond.instanceMethod ({ cls := "RecordLeavesModel", name := "read", desc := "(II)I" } : MethodName)) ∈ lw_tbl := List.mem_append_right _ (List.mem_append_right _ (List.mem_append_right _ (List.mem_append_right _ (List.mem_append_left _ (List.mem_of_getElem? (i := 235) (by decide +kernel))))))
theorem mw_955 : (Cond.instanceMethod ({ cls := "RecordLeavesModel", name := "read", desc := "(II)I" } : MethodName)) ∈ rl_G := rl_inG mt_955 rfl
theorem im_X12_read : Cond.instanceMethod yX12_read ∈ rl_G := mw_955
theorem mt_956 : (Cond.selects "RecordLeavesModel" ({ cls := "RecordLeavesModel", name := "read", desc := "(II)I" } : MethodName) ({ cls := "RecordLeavesModel", name := "read", desc := "(II)I" } : MethodName)) ∈ lw_tbl := List.mem_append_right _ (List.mem_append_right _ (List.mem_append_right _ (List.mem_append_right _ (List.mem_append_left _ (List.mem_of_getElem? (i := 236) (by decide +kernel))))))
theorem sl_X12_read : Cond.selects yX12_read.cls yX12_read yX12_read ∈ lw_tbl := mt_956
theorem mt_961 : (Cond.code ({ cls := "RecordLeavesModel", name := "beginRecord", desc := "(Z)V" } : MethodName) prog_14_method_41_code (7 : Nat) (Option.none : Option FieldType)) ∈ lw_tbl := List.mem_append_right _ (List.mem_append_right _ (List.mem_append_right _ (List.mem_append_right _ (List.mem_append_right _ (List.mem_of_getElem? (i := 1) (rfl))))))
theorem mw_961 : (Cond.code ({ cls := "RecordLeavesModel", name := "beginRecord", desc := "(Z)V" } : MethodName) prog_14_method_41_code (7 : Nat) (Option.none : Option FieldType)) ∈ rl_G := rl_inG mt_961 rfl
theorem co_X12_beginRecord : Cond.code yX12_beginRecord cX12_beginRecord 7 none ∈ rl_G := mw_961
theorem mt_960 : (Cond.instanceMethod ({ cls := "RecordLeavesModel", name := "beginRecord", desc := "(Z)V" } : MethodName)) ∈ lw_tbl := List.mem_append_right _ (List.mem_append_right _ (List.mem_append_right _ (List.mem_append_right _ (List.mem_append_right _ (List.mem_of_getElem? (i := 0) (by decide +kernel))))))
theorem mw_960 : (Cond.instanceMethod ({ cls := "RecordLeavesModel", name := "beginRecord", desc := "(Z)V" } : MethodName)) ∈ rl_G := rl_inG mt_960 rfl
theorem im_X12_beginRecord : Cond.instanceMethod yX12_beginRecord ∈ rl_G := mw_960
theorem sl_X12_beginRecord : Cond.selects yX12_beginRecord.cls yX12_beginRecord yX12_beginRecord ∈ lw_tbl := List.mem_append_left _ (by decide +kernel)
theorem mt_965 : (Cond.code ({ cls := "RecordLeavesModel", name := "fails", desc := "(I)V" } : MethodName) prog_14_method_39_code (2 : Nat) (Option.none : Option FieldType)) ∈ lw_tbl := List.mem_append_right _ (List.mem_append_right _ (List.mem_append_right _ (List.mem_append_right _ (List.mem_append_right _ (List.mem_of_getElem? (i := 5) (rfl))))))
theorem mw_965 : (Cond.code ({ cls := "RecordLeavesModel", name := "fails", desc := "(I)V" } : MethodName) prog_14_method_39_code (2 : Nat) (Option.none : Option FieldType)) ∈ rl_G := rl_inG mt_965 rfl
theorem co_X12_fails : Cond.code yX12_fails cX12_fails 2 none ∈ rl_G := mw_965
theorem mt_964 : (Cond.instanceMethod ({ cls := "RecordLeavesModel", name := "fails", desc := "(I)V" } : MethodName)) ∈ lw_tbl := List.mem_append_right _ (List.mem_append_right _ (List.mem_append_right _ (List.mem_append_right _ (List.mem_append_right _ (List.mem_of_getElem? (i := 4) (by decide +kernel))))))
theorem mw_964 : (Cond.instanceMethod ({ cls := "RecordLeavesModel", name := "fails", desc := "(I)V" } : MethodName)) ∈ rl_G := rl_inG mt_964 rfl
theorem im_X12_fails : Cond.instanceMethod yX12_fails ∈ rl_G := mw_964
theorem sl_X12_fails : Cond.selects yX12_fails.cls yX12_fails yX12_fails ∈ lw_tbl := List.mem_append_left _ (by decide +kernel)
theorem mt_969 : (Cond.code ({ cls := "RecordLeavesModel", name := "want", desc := "()J" } : MethodName) prog_14_method_40_code (1 : Nat) (Option.some FieldType.long)) ∈ lw_tbl := List.mem_append_right _ (List.mem_append_right _ (List.mem_append_right _ (List.mem_append_right _ (List.mem_append_right _ (List.mem_of_getElem? (i := 9) (rfl))))))
theorem mw_969 : (Cond.code ({ cls := "RecordLeavesModel", name := "want", desc := "()J" } : MethodName) prog_14_method_40_code (1 : Nat) (Option.some FieldType.long)) ∈ rl_G := rl_inG mt_969 rfl
theorem co_X12_want : Cond.code yX12_want cX12_want 1 (some FieldType.long) ∈ rl_G := mw_969
theorem mt_968 : (Cond.instanceMethod ({ cls := "RecordLeavesModel", name := "want", desc := "()J" } : MethodName)) ∈ lw_tbl := List.mem_append_right _ (List.mem_append_right _ (List.mem_append_right _ (List.mem_append_right _ (List.mem_append_right _ (List.mem_of_getElem? (i := 8) (by decide +kernel))))))
theorem mw_968 : (Cond.instanceMethod ({ cls := "RecordLeavesModel", name := "want", desc := "()J" } : MethodName)) ∈ rl_G := rl_inG mt_968 rfl
theorem im_X12_want : Cond.instanceMethod yX12_want ∈ rl_G := mw_968
theorem sl_X12_want : Cond.selects yX12_want.cls yX12_want yX12_want ∈ lw_tbl := List.mem_append_left _ (by decide +kernel)
theorem mt_973 : (Cond.code ({ cls := "RecordLeavesModel", name := "readPart", desc := "()V" } : MethodName) prog_14_method_43_code (12 : Nat) (Option.none : Option FieldType)) ∈ lw_tbl := List.mem_append_right _ (List.mem_append_right _ (List.mem_append_right _ (List.mem_append_right _ (List.mem_append_right _ (List.mem_of_getElem? (i := 13) (rfl))))))
theorem mw_973 : (Cond.code ({ cls := "RecordLeavesModel", name := "readPart", desc := "()V" } : MethodName) prog_14_method_43_code (12 : Nat) (Option.none : Option FieldType)) ∈ rl_G := rl_inG mt_973 rfl
theorem co_X12_readPart : Cond.code yX12_readPart cX12_readPart 12 none ∈ rl_G := mw_973
theorem mt_972 : (Cond.instanceMethod ({ cls := "RecordLeavesModel", name := "readPart", desc := "()V" } : MethodName)) ∈ lw_tbl := List.mem_append_right _ (List.mem_append_right _ (List.mem_append_right _ (List.mem_append_right _ (List.mem_append_right _ (List.mem_of_getElem? (i := 12) (by decide +kernel))))))
theorem mw_972 : (Cond.instanceMethod ({ cls := "RecordLeavesModel", name := "readPart", desc := "()V" } : MethodName)) ∈ rl_G := rl_inG mt_972 rfl
theorem im_X12_readPart : Cond.instanceMethod yX12_readPart ∈ rl_G := mw_972
theorem sl_X12_readPart : Cond.selects yX12_readPart.cls yX12_readPart yX12_readPart ∈ lw_tbl := List.mem_append_left _ (by decide +kernel)
theorem mt_977 : (Cond.code ({ cls := "RecordLeavesModel", name := "readRow", desc := "(Z)I" } : MethodName) prog_14_method_42_code (7 : Nat) (Option.some FieldType.int)) ∈ lw_tbl := List.mem_append_right _ (List.mem_append_right _ (List.mem_append_right _ (List.mem_append_right _ (List.mem_append_right _ (List.mem_of_getElem? (i := 17) (rfl))))))
theorem mw_977 : (Cond.code ({ cls := "RecordLeavesModel", name := "readRow", desc := "(Z)I" } : MethodName) prog_14_method_42_code (7 : Nat) (Option.some FieldType.int)) ∈ rl_G := rl_inG mt_977 rfl
theorem co_X12_readRow : Cond.code yX12_readRow cX12_readRow 7 (some FieldType.int) ∈ rl_G := mw_977
theorem mt_976 : (Cond.instanceMethod ({ cls := "RecordLeavesModel", name := "readRow", desc := "(Z)I" } : MethodName)) ∈ lw_tbl := List.mem_append_right _ (List.mem_append_right _ (List.mem_append_right _ (List.mem_append_right _ (List.mem_append_right _ (List.mem_of_getElem? (i := 16) (by decide +kernel))))))
theorem mw_976 : (Cond.instanceMethod ({ cls := "RecordLeavesModel", name := "readRow", desc := "(Z)I" } : MethodName)) ∈ rl_G := rl_inG mt_976 rfl
theorem im_X12_readRow : Cond.instanceMethod yX12_readRow ∈ rl_G := mw_976
theorem sl_X12_readRow : Cond.selects yX12_readRow.cls yX12_readRow yX12_readRow ∈ lw_tbl := List.mem_append_left _ (by decide +kernel)
theorem mt_981 : (Cond.code ({ cls := "RecordLeavesModel", name := "endRecord", desc := "()I" } : MethodName) prog_14_method_44_code (2 : Nat) (Option.some FieldType.int)) ∈ lw_tbl := List.mem_append_right _ (List.mem_append_right _ (List.mem_append_right _ (List.mem_append_right _ (List.mem_append_right _ (List.mem_of_getElem? (i := 21) (rfl))))))
theorem mw_981 : (Cond.code ({ cls := "RecordLeavesModel", name := "endRecord", desc := "()I" } : MethodName) prog_14_method_44_code (2 : Nat) (Option.some FieldType.int)) ∈ rl_G := rl_inG mt_981 rfl
theorem co_X12_endRecord : Cond.code yX12_endRecord cX12_endRecord 2 (some FieldType.int) ∈ rl_G := mw_981
theorem mt_980 : (Cond.instanceMethod ({ cls := "RecordLeavesModel", name := "endRecord", desc := "()I" } : MethodName)) ∈ lw_tbl := List.mem_append_right _ (List.mem_append_right _ (List.mem_append_right _ (List.mem_append_right _ (List.mem_append_right _ (List.mem_of_getElem? (i := 20) (by decide +kernel))))))
theorem mw_980 : (Cond.instanceMethod ({ cls := "RecordLeavesModel", name := "endRecord", desc := "()I" } : MethodName)) ∈ rl_G := rl_inG mt_980 rfl
theorem im_X12_endRecord : Cond.instanceMethod yX12_endRecord ∈ rl_G := mw_980
theorem sl_X12_endRecord : Cond.selects yX12_endRecord.cls yX12_endRecord yX12_endRecord ∈ lw_tbl := List.mem_append_left _ (by decide +kernel)
theorem mt_985 : (Cond.code ({ cls := "RecordLeavesModel", name := "cause", desc := "(I)I" } : MethodName) prog_14_method_46_code (2 : Nat) (Option.some FieldType.int)) ∈ lw_tbl := List.mem_append_right _ (List.mem_append_right _ (List.mem_append_right _ (List.mem_append_right _ (List.mem_append_right _ (List.mem_of_getElem? (i := 25) (rfl))))))
theorem mw_985 : (Cond.code ({ cls := "RecordLeavesModel", name := "cause", desc := "(I)I" } : MethodName) prog_14_method_46_code (2 : Nat) (Option.some FieldType.int)) ∈ rl_G := rl_inG mt_985 rfl
theorem co_X12_cause : Cond.code yX12_cause cX12_cause 2 (some FieldType.int) ∈ rl_G := mw_985
theorem mt_983 : (Cond.instanceMethod ({ cls := "RecordLeavesModel", name := "cause", desc := "(I)I" } : MethodName)) ∈ lw_tbl := List.mem_append_right _ (List.mem_append_right _ (List.mem_append_right _ (List.mem_append_right _ (List.mem_append_right _ (List.mem_of_getElem? (i := 23) (by decide +kernel))))))
theorem mw_983 : (Cond.instanceMethod ({ cls := "RecordLeavesModel", name := "cause", desc := "(I)I" } : MethodName)) ∈ rl_G := rl_inG mt_983 rfl
theorem im_X12_cause : Cond.instanceMethod yX12_cause ∈ rl_G := mw_983
theorem mt_984 : (Cond.selects "RecordLeavesModel" ({ cls := "RecordLeavesModel", name := "cause", desc := "(I)I" } : MethodName) ({ cls := "RecordLeavesModel", name := "cause", desc := "(I)I" } : MethodName)) ∈ lw_tbl := List.mem_append_right _ (List.mem_append_right _ (List.mem_append_right _ (List.mem_append_right _ (List.mem_append_right _ (List.mem_of_getElem? (i := 24) (by decide +kernel))))))
theorem sl_X12_cause : Cond.selects yX12_cause.cls yX12_cause yX12_cause ∈ lw_tbl := mt_984
theorem mt_989 : (Cond.code ({ cls := "RecordLeavesModel", name := "status", desc := "()I" } : MethodName) prog_14_method_47_code (1 : Nat) (Option.some FieldType.int)) ∈ lw_tbl := List.mem_append_right _ (List.mem_append_right _ (List.mem_append_right _ (List.mem_append_right _ (List.mem_append_right _ (List.mem_of_getElem? (i := 29) (rfl))))))
theorem mw_989 : (Cond.code ({ cls := "RecordLeavesModel", name := "status", desc := "()I" } : MethodName) prog_14_method_47_code (1 : Nat) (Option.some FieldType.int)) ∈ rl_G := rl_inG mt_989 rfl
theorem co_X12_status : Cond.code yX12_status cX12_status 1 (some FieldType.int) ∈ rl_G := mw_989
theorem mt_987 : (Cond.instanceMethod ({ cls := "RecordLeavesModel", name := "status", desc := "()I" } : MethodName)) ∈ lw_tbl := List.mem_append_right _ (List.mem_append_right _ (List.mem_append_right _ (List.mem_append_right _ (List.mem_append_right _ (List.mem_of_getElem? (i := 27) (by decide +kernel))))))
theorem mw_987 : (Cond.instanceMethod ({ cls := "RecordLeavesModel", name := "status", desc := "()I" } : MethodName)) ∈ rl_G := rl_inG mt_987 rfl
theorem im_X12_status : Cond.instanceMethod yX12_status ∈ rl_G := mw_987
theorem mt_988 : (Cond.selects "RecordLeavesModel" ({ cls := "RecordLeavesModel", name := "status", desc := "()I" } : MethodName) ({ cls := "RecordLeavesModel", name := "status", desc := "()I" } : MethodName)) ∈ lw_tbl := List.mem_append_right _ (List.mem_append_right _ (List.mem_append_right _ (List.mem_append_right _ (List.mem_append_right _ (List.mem_of_getElem? (i := 28) (by decide +kernel))))))
theorem sl_X12_status : Cond.selects yX12_status.cls yX12_status yX12_status ∈ lw_tbl := mt_988
theorem mt_993 : (Cond.code ({ cls := "RecordLeavesModel", name := "count", desc := "(I)I" } : MethodName) prog_14_method_48_code (4 : Nat) (Option.some FieldType.int)) ∈ lw_tbl := List.mem_append_right _ (List.mem_append_right _ (List.mem_append_right _ (List.mem_append_right _ (List.mem_append_right _ (List.mem_of_getElem? (i := 33) (rfl))))))
theorem mw_993 : (Cond.code ({ cls := "RecordLeavesModel", name := "count", desc := "(I)I" } : MethodName) prog_14_method_48_code (4 : Nat) (Option.some FieldType.int)) ∈ rl_G := rl_inG mt_993 rfl
theorem co_X12_count : Cond.code yX12_count cX12_count 4 (some FieldType.int) ∈ rl_G := mw_993
theorem mt_991 : (Cond.instanceMethod ({ cls := "RecordLeavesModel", name := "count", desc := "(I)I" } : MethodName)) ∈ lw_tbl := List.mem_append_right _ (List.mem_append_right _ (List.mem_append_right _ (List.mem_append_right _ (List.mem_append_right _ (List.mem_of_getElem? (i := 31) (by decide +kernel))))))
theorem mw_991 : (Cond.instanceMethod ({ cls := "RecordLeavesModel", name := "count", desc := "(I)I" } : MethodName)) ∈ rl_G := rl_inG mt_991 rfl
theorem im_X12_count : Cond.instanceMethod yX12_count ∈ rl_G := mw_991
theorem mt_992 : (Cond.selects "RecordLeavesModel" ({ cls := "RecordLeavesModel", name := "count", desc := "(I)I" } : MethodName) ({ cls := "RecordLeavesModel", name := "count", desc := "(I)I" } : MethodName)) ∈ lw_tbl := List.mem_append_right _ (List.mem_append_right _ (List.mem_append_right _ (List.mem_append_right _ (List.mem_append_right _ (List.mem_of_getElem? (i := 32) (by decide +kernel))))))
theorem sl_X12_count : Cond.selects yX12_count.cls yX12_count yX12_count ∈ lw_tbl := mt_992
theorem mt_21 : (Cond.methodLink "RecordLeaves" (1 : Nat) ({ cls := "java/lang/Object", name := "<init>", desc := "()V" } : MethodName)) ∈ lw_tbl := List.mem_append_right _ (List.mem_append_left _ (List.mem_of_getElem? (i := 21) (by decide +kernel)))
theorem mw_21 : (Cond.methodLink "RecordLeaves" (1 : Nat) ({ cls := "java/lang/Object", name := "<init>", desc := "()V" } : MethodName)) ∈ rl_G := rl_inG mt_21 rfl
theorem mt_26 : (Cond.methodLink "RecordLeaves" (9 : Nat) ({ cls := "RecordLeaves$Kinds", name := "<init>", desc := "()V" } : MethodName)) ∈ lw_tbl := List.mem_append_right _ (List.mem_append_left _ (List.mem_of_getElem? (i := 26) (by decide +kernel)))
theorem mw_26 : (Cond.methodLink "RecordLeaves" (9 : Nat) ({ cls := "RecordLeaves$Kinds", name := "<init>", desc := "()V" } : MethodName)) ∈ rl_G := rl_inG mt_26 rfl
theorem cs_X11_9 : rl_cs RX11 9 yX3_init cX3_init 2 none 0 := ⟨Or.inl mw_26, co_X3_init, mw_2, by decide +kernel⟩
theorem mt_101 : (Cond.methodLink "RecordLeaves" (32 : Nat) ({ cls := "RecordLeaves$Tape", name := "<init>", desc := "()V" } : MethodName)) ∈ lw_tbl := List.mem_append_right _ (List.mem_append_left _ (List.mem_of_getElem? (i := 101) (by decide +kernel)))
theorem mw_101 : (Cond.methodLink "RecordLeaves" (32 : Nat) ({ cls := "RecordLeaves$Tape", name := "<init>", desc := "()V" } : MethodName)) ∈ rl_G := rl_inG mt_101 rfl
theorem cs_X11_32 : rl_cs RX11 32 yX9_init cX9_init 1 none 0 := ⟨Or.inl mw_101, co_X9_init, mw_5, by decide +kernel⟩
theorem mt_165 : (Cond.methodLink "RecordLeaves" (44 : Nat) ({ cls := "RecordLeaves$Kinds", name := "enumVersion", desc := "(II)LRecordLeaves$EnumVersion;" } : MethodName)) ∈ lw_tbl := List.mem_append_right _ (List.mem_append_left _ (List.mem_of_getElem? (i := 165) (by decide +kernel)))
theorem mw_165 : (Cond.methodLink "RecordLeaves" (44 : Nat) ({ cls := "RecordLeaves$Kinds", name := "enumVersion", desc := "(II)LRecordLeaves$EnumVersion;" } : MethodName)) ∈ rl_G := rl_inG mt_165 rfl
theorem cs_X11_44 : rl_cs RX11 44 yX3_enumVersion cX3_enumVersion 4 (some (FieldType.object "RecordLeaves$EnumVersion")) 2 := ⟨Or.inl mw_165, co_X3_enumVersion, mw_2, by decide +kernel⟩
theorem mt_172 : (Cond.methodLink "RecordLeaves" (48 : Nat) ({ cls := "RecordLeaves", name := "below", desc := "(II)Z" } : MethodName)) ∈ lw_tbl := List.mem_append_right _ (List.mem_append_left _ (List.mem_of_getElem? (i := 172) (by decide +kernel)))
theorem mw_172 : (Cond.methodLink "RecordLeaves" (48 : Nat) ({ cls := "RecordLeaves", name := "below", desc := "(II)Z" } : MethodName)) ∈ rl_G := rl_inG mt_172 rfl
theorem cs_X11_48 : rl_cs RX11 48 yX11_below cX11_below 2 (some FieldType.boolean) 2 := ⟨Or.inl mw_172, co_X11_below, mw_1, by decide +kernel⟩
theorem mt_173 : (Cond.methodLink "RecordLeaves" (52 : Nat) ({ cls := "RecordLeaves$EnumVersion", name := "named", desc := "(J)LRecordLeaves$Constant;" } : MethodName)) ∈ lw_tbl := List.mem_append_right _ (List.mem_append_left _ (List.mem_of_getElem? (i := 173) (by decide +kernel)))
theorem mw_173 : (Cond.methodLink "RecordLeaves" (52 : Nat) ({ cls := "RecordLeaves$EnumVersion", name := "named", desc := "(J)LRecordLeaves$Constant;" } : MethodName)) ∈ rl_G := rl_inG mt_173 rfl
theorem cs_X11_52 : rl_cs RX11 52 yX2_named cX2_named 4 (some (FieldType.object "RecordLeaves$Constant")) 1 := ⟨Or.inl mw_173, co_X2_named, mw_3, by decide +kernel⟩
theorem mt_177 : (Cond.methodLink "RecordLeaves" (58 : Nat) ({ cls := "RecordLeaves$EnumVersion", name := "add", desc := "(IZ)I" } : MethodName)) ∈ lw_tbl := List.mem_append_right _ (List.mem_append_left _ (List.mem_of_getElem? (i := 177) (by decide +kernel)))
theorem mw_177 : (Cond.methodLink "RecordLeaves" (58 : Nat) ({ cls := "RecordLeaves$EnumVersion", name := "add", desc := "(IZ)I" } : MethodName)) ∈ rl_G := rl_inG mt_177 rfl
theorem cs_X11_58 : rl_cs RX11 58 yX2_add cX2_add 3 (some FieldType.int) 2 := ⟨Or.inl mw_177, co_X2_add, mw_3, by decide +kernel⟩
theorem mt_210 : (Cond.methodLink "RecordLeaves" (62 : Nat) ({ cls := "RecordLeaves$Kinds", name := "recordVersion", desc := "(JI)LRecordLeaves$RecordVersion;" } : MethodName)) ∈ lw_tbl := List.mem_append_right _ (List.mem_append_left _ (List.mem_of_getElem? (i := 210) (by decide +kernel)))
theorem mw_210 : (Cond.methodLink "RecordLeaves" (62 : Nat) ({ cls := "RecordLeaves$Kinds", name := "recordVersion", desc := "(JI)LRecordLeaves$RecordVersion;" } : MethodName)) ∈ rl_G := rl_inG mt_210 rfl
theorem cs_X11_62 : rl_cs RX11 62 yX3_recordVersion cX3_recordVersion 5 (some (FieldType.object "RecordLeaves$RecordVersion")) 2 := ⟨Or.inl mw_210, co_X3_recordVersion, mw_2, by decide +kernel⟩
theorem mt_216 : (Cond.methodLink "RecordLeaves" (66 : Nat) ({ cls := "RecordLeaves", name := "mayBeOf", desc := "(II)Z" } : MethodName)) ∈ lw_tbl := List.mem_append_right _ (List.mem_append_left _ (List.mem_of_getElem? (i := 216) (by decide +kernel)))
theorem mw_216 : (Cond.methodLink "RecordLeaves" (66 : Nat) ({ cls := "RecordLeaves", name := "mayBeOf", desc := "(II)Z" } : MethodName)) ∈ rl_G := rl_inG mt_216 rfl
theorem cs_X11_66 : rl_cs RX11 66 yX11_mayBeOf cX11_mayBeOf 2 (some FieldType.boolean) 2 := ⟨Or.inl mw_216, co_X11_mayBeOf, mw_1, by decide +kernel⟩
theorem mt_219 : (Cond.methodLink "RecordLeaves" (69 : Nat) ({ cls := "RecordLeaves$RecordVersion", name := "partNamed", desc := "(J)I" } : MethodName)) ∈ lw_tbl := List.mem_append_right _ (List.mem_append_left _ (List.mem_of_getElem? (i := 219) (by decide +kernel)))
theorem mw_219 : (Cond.methodLink "RecordLeaves" (69 : Nat) ({ cls := "RecordLeaves$RecordVersion", name := "partNamed", desc := "(J)I" } : MethodName)) ∈ rl_G := rl_inG mt_219 rfl
theorem cs_X11_69 : rl_cs RX11 69 yX7_partNamed cX7_partNamed 4 (some FieldType.int) 1 := ⟨Or.inl mw_219, co_X7_partNamed, mw_4, by decide +kernel⟩
theorem mt_225 : (Cond.methodLink "RecordLeaves" (77 : Nat) ({ cls := "RecordLeaves$Part", name := "<init>", desc := "(III)V" } : MethodName)) ∈ lw_tbl := List.mem_append_right _ (List.mem_append_left _ (List.mem_of_getElem? (i := 225) (by decide +kernel)))
theorem mw_225 : (Cond.methodLink "RecordLeaves" (77 : Nat) ({ cls := "RecordLeaves$Part", name := "<init>", desc := "(III)V" } : MethodName)) ∈ rl_G := rl_inG mt_225 rfl
theorem cs_X11_77 : rl_cs RX11 77 yX4_init cX4_init 4 none 3 := ⟨Or.inl mw_225, co_X4_init, mw_9, by decide +kernel⟩
theorem mt_246 : (Cond.methodLink "RecordLeaves" (80 : Nat) ({ cls := "RecordLeaves$RecordVersion", name := "addPart", desc := "(LRecordLeaves$Part;)I" } : MethodName)) ∈ lw_tbl := List.mem_append_right _ (List.mem_append_right _ (List.mem_append_left _ (List.mem_of_getElem? (i := 6) (by decide +kernel))))
theorem mw_246 : (Cond.methodLink "RecordLeaves" (80 : Nat) ({ cls := "RecordLeaves$RecordVersion", name := "addPart", desc := "(LRecordLeaves$Part;)I" } : MethodName)) ∈ rl_G := rl_inG mt_246 rfl
theorem cs_X11_80 : rl_cs RX11 80 yX7_addPart cX7_addPart 2 (some FieldType.int) 1 := ⟨Or.inl mw_246, co_X7_addPart, mw_4, by decide +kernel⟩
theorem mt_254 : (Cond.methodLink "RecordLeaves" (84 : Nat) ({ cls := "RecordLeaves", name := "sortChecked", desc := "(I)I" } : MethodName)) ∈ lw_tbl := List.mem_append_right _ (List.mem_append_right _ (List.mem_append_left _ (List.mem_of_getElem? (i := 14) (by decide +kernel))))
theorem mw_254 : (Cond.methodLink "RecordLeaves" (84 : Nat) ({ cls := "RecordLeaves", name := "sortChecked", desc := "(I)I" } : MethodName)) ∈ rl_G := rl_inG mt_254 rfl
theorem cs_X11_84 : rl_cs RX11 84 yX11_sortChecked cX11_sortChecked 1 (some FieldType.int) 1 := ⟨Or.inl mw_254, co_X11_sortChecked, mw_1, by decide +kernel⟩
theorem mt_257 : (Cond.methodLink "RecordLeaves" (88 : Nat) ({ cls := "RecordLeaves$RecordVersion", name := "hasPart", desc := "(II)Z" } : MethodName)) ∈ lw_tbl := List.mem_append_right _ (List.mem_append_right _ (List.mem_append_left _ (List.mem_of_getElem? (i := 17) (by decide +kernel))))
theorem mw_257 : (Cond.methodLink "RecordLeaves" (88 : Nat) ({ cls := "RecordLeaves$RecordVersion", name := "hasPart", desc := "(II)Z" } : MethodName)) ∈ rl_G := rl_inG mt_257 rfl
theorem cs_X11_88 : rl_cs RX11 88 yX7_hasPart cX7_hasPart 3 (some FieldType.boolean) 2 := ⟨Or.inl mw_257, co_X7_hasPart, mw_4, by decide +kernel⟩
theorem mt_264 : (Cond.methodLink "RecordLeaves" (93 : Nat) ({ cls := "RecordLeaves$Check", name := "<init>", desc := "(III)V" } : MethodName)) ∈ lw_tbl := List.mem_append_right _ (List.mem_append_right _ (List.mem_append_left _ (List.mem_of_getElem? (i := 24) (by decide +kernel))))
theorem mw_264 : (Cond.methodLink "RecordLeaves" (93 : Nat) ({ cls := "RecordLeaves$Check", name := "<init>", desc := "(III)V" } : MethodName)) ∈ rl_G := rl_inG mt_264 rfl
theorem cs_X11_93 : rl_cs RX11 93 yX0_init cX0_init 4 none 3 := ⟨Or.inl mw_264, co_X0_init, mw_10, by decide +kernel⟩
theorem mt_278 : (Cond.methodLink "RecordLeaves" (94 : Nat) ({ cls := "RecordLeaves$RecordVersion", name := "addCheck", desc := "(LRecordLeaves$Check;)I" } : MethodName)) ∈ lw_tbl := List.mem_append_right _ (List.mem_append_right _ (List.mem_append_left _ (List.mem_of_getElem? (i := 38) (by decide +kernel))))
theorem mw_278 : (Cond.methodLink "RecordLeaves" (94 : Nat) ({ cls := "RecordLeaves$RecordVersion", name := "addCheck", desc := "(LRecordLeaves$Check;)I" } : MethodName)) ∈ rl_G := rl_inG mt_278 rfl
theorem cs_X11_94 : rl_cs RX11 94 yX7_addCheck cX7_addCheck 2 (some FieldType.int) 1 := ⟨Or.inl mw_278, co_X7_addCheck, mw_4, by decide +kernel⟩
theorem mt_292 : (Cond.methodLink "RecordLeaves" (105 : Nat) ({ cls := "RecordLeaves$Row", name := "<init>", desc := "(I)V" } : MethodName)) ∈ lw_tbl := List.mem_append_right _ (List.mem_append_right _ (List.mem_append_left _ (List.mem_of_getElem? (i := 52) (by decide +kernel))))
theorem mw_292 : (Cond.methodLink "RecordLeaves" (105 : Nat) ({ cls := "RecordLeaves$Row", name := "<init>", desc := "(I)V" } : MethodName)) ∈ rl_G := rl_inG mt_292 rfl
theorem cs_X11_105 : rl_cs RX11 105 yX8_init cX8_init 2 none 1 := ⟨Or.inl mw_292, co_X8_init, mw_11, by decide +kernel⟩
theorem mt_315 : (Cond.methodLink "RecordLeaves" (111 : Nat) ({ cls := "RecordLeaves", name := "familyOf", desc := "(LRecordLeaves$Thing;)I" } : MethodName)) ∈ lw_tbl := List.mem_append_right _ (List.mem_append_right _ (List.mem_append_left _ (List.mem_of_getElem? (i := 75) (by decide +kernel))))
theorem mw_315 : (Cond.methodLink "RecordLeaves" (111 : Nat) ({ cls := "RecordLeaves", name := "familyOf", desc := "(LRecordLeaves$Thing;)I" } : MethodName)) ∈ rl_G := rl_inG mt_315 rfl
theorem cs_X11_111 : rl_cs RX11 111 yX11_familyOf cX11_familyOf 1 (some FieldType.int) 1 := ⟨Or.inl mw_315, co_X11_familyOf, mw_1, by decide +kernel⟩
theorem mt_340 : (Cond.methodLink "RecordLeaves" (117 : Nat) ({ cls := "RecordLeaves$RecordThing", name := "<init>", desc := "(LRecordLeaves$RecordVersion;)V" } : MethodName)) ∈ lw_tbl := List.mem_append_right _ (List.mem_append_right _ (List.mem_append_left _ (List.mem_of_getElem? (i := 100) (by decide +kernel))))
theorem mw_340 : (Cond.methodLink "RecordLeaves" (117 : Nat) ({ cls := "RecordLeaves$RecordThing", name := "<init>", desc := "(LRecordLeaves$RecordVersion;)V" } : MethodName)) ∈ rl_G := rl_inG mt_340 rfl
theorem cs_X11_117 : rl_cs RX11 117 yX6_init cX6_init 2 none 1 := ⟨Or.inl mw_340, co_X6_init, mw_13, by decide +kernel⟩
theorem mt_366 : (Cond.methodLink "RecordLeaves" (120 : Nat) ({ cls := "RecordLeaves$RecordThing", name := "extent", desc := "()I" } : MethodName)) ∈ lw_tbl := List.mem_append_right _ (List.mem_append_right _ (List.mem_append_left _ (List.mem_of_getElem? (i := 126) (by decide +kernel))))
theorem mw_366 : (Cond.methodLink "RecordLeaves" (120 : Nat) ({ cls := "RecordLeaves$RecordThing", name := "extent", desc := "()I" } : MethodName)) ∈ rl_G := rl_inG mt_366 rfl
theorem cs_X11_120 : rl_cs RX11 120 yX6_extent cX6_extent 1 (some FieldType.int) 0 := ⟨Or.inl mw_366, co_X6_extent, mw_13, by decide +kernel⟩
theorem mt_370 : (Cond.methodLink "RecordLeaves" (124 : Nat) ({ cls := "RecordLeaves$RecordThing", name := "put", desc := "(IJLRecordLeaves$Thing;)V" } : MethodName)) ∈ lw_tbl := List.mem_append_right _ (List.mem_append_right _ (List.mem_append_left _ (List.mem_of_getElem? (i := 130) (by decide +kernel))))
theorem mw_370 : (Cond.methodLink "RecordLeaves" (124 : Nat) ({ cls := "RecordLeaves$RecordThing", name := "put", desc := "(IJLRecordLeaves$Thing;)V" } : MethodName)) ∈ rl_G := rl_inG mt_370 rfl
theorem cs_X11_124 : rl_cs RX11 124 yX6_put cX6_put 5 none 3 := ⟨Or.inl mw_370, co_X6_put, mw_13, by decide +kernel⟩
theorem mt_378 : (Cond.methodLink "RecordLeaves" (128 : Nat) ({ cls := "RecordLeaves$RecordVersion", name := "whyNotMade", desc := "(LRecordLeaves$RecordThing;)I" } : MethodName)) ∈ lw_tbl := List.mem_append_right _ (List.mem_append_right _ (List.mem_append_left _ (List.mem_of_getElem? (i := 138) (by decide +kernel))))
theorem mw_378 : (Cond.methodLink "RecordLeaves" (128 : Nat) ({ cls := "RecordLeaves$RecordVersion", name := "whyNotMade", desc := "(LRecordLeaves$RecordThing;)I" } : MethodName)) ∈ rl_G := rl_inG mt_378 rfl
theorem cs_X11_128 : rl_cs RX11 128 yX7_whyNotMade cX7_whyNotMade 4 (some FieldType.int) 1 := ⟨Or.inl mw_378, co_X7_whyNotMade, mw_4, by decide +kernel⟩
theorem mt_443 : (Cond.methodLink "RecordLeaves" (135 : Nat) ({ cls := "RecordLeaves", name := "rememberCause", desc := "(III)V" } : MethodName)) ∈ lw_tbl := List.mem_append_right _ (List.mem_append_right _ (List.mem_append_left _ (List.mem_of_getElem? (i := 203) (by decide +kernel))))
theorem mw_443 : (Cond.methodLink "RecordLeaves" (135 : Nat) ({ cls := "RecordLeaves", name := "rememberCause", desc := "(III)V" } : MethodName)) ∈ rl_G := rl_inG mt_443 rfl
theorem cs_X11_135 : rl_cs RX11 135 yX11_rememberCause cX11_rememberCause 4 none 3 := ⟨Or.inl mw_443, co_X11_rememberCause, mw_1, by decide +kernel⟩
theorem mt_451 : (Cond.methodLink "RecordLeaves" (138 : Nat) ({ cls := "RecordLeaves$Thing", name := "kind", desc := "()I" } : MethodName)) ∈ lw_tbl := List.mem_append_right _ (List.mem_append_right _ (List.mem_append_left _ (List.mem_of_getElem? (i := 211) (by decide +kernel))))
theorem mw_451 : (Cond.methodLink "RecordLeaves" (138 : Nat) ({ cls := "RecordLeaves$Thing", name := "kind", desc := "()I" } : MethodName)) ∈ rl_G := rl_inG mt_451 rfl
theorem mt_452 : (Cond.methodLink "RecordLeaves" (141 : Nat) ({ cls := "RecordLeaves$Thing", name := "version", desc := "()I" } : MethodName)) ∈ lw_tbl := List.mem_append_right _ (List.mem_append_right _ (List.mem_append_left _ (List.mem_of_getElem? (i := 212) (by decide +kernel))))
theorem mw_452 : (Cond.methodLink "RecordLeaves" (141 : Nat) ({ cls := "RecordLeaves$Thing", name := "version", desc := "()I" } : MethodName)) ∈ rl_G := rl_inG mt_452 rfl
theorem mt_453 : (Cond.methodLink "RecordLeaves" (144 : Nat) ({ cls := "RecordLeaves$Thing", name := "extent", desc := "()I" } : MethodName)) ∈ lw_tbl := List.mem_append_right _ (List.mem_append_right _ (List.mem_append_left _ (List.mem_of_getElem? (i := 213) (by decide +kernel))))
theorem mw_453 : (Cond.methodLink "RecordLeaves" (144 : Nat) ({ cls := "RecordLeaves$Thing", name := "extent", desc := "()I" } : MethodName)) ∈ rl_G := rl_inG mt_453 rfl
theorem mt_467 : (Cond.methodLink "RecordLeaves" (145 : Nat) ({ cls := "RecordLeaves$RecordThing", name := "isNumber", desc := "(I)Z" } : MethodName)) ∈ lw_tbl := List.mem_append_right _ (List.mem_append_right _ (List.mem_append_left _ (List.mem_of_getElem? (i := 227) (by decide +kernel))))
theorem mw_467 : (Cond.methodLink "RecordLeaves" (145 : Nat) ({ cls := "RecordLeaves$RecordThing", name := "isNumber", desc := "(I)Z" } : MethodName)) ∈ rl_G := rl_inG mt_467 rfl
theorem cs_X11_145 : rl_cs RX11 145 yX6_isNumber cX6_isNumber 2 (some FieldType.boolean) 1 := ⟨Or.inl mw_467, co_X6_isNumber, mw_13, by decide +kernel⟩
theorem mt_476 : (Cond.methodLink "RecordLeaves" (155 : Nat) ({ cls := "RecordLeaves", name := "alike", desc := "(LRecordLeaves$Thing;LRecordLeaves$Thing;I)Z" } : MethodName)) ∈ lw_tbl := List.mem_append_right _ (List.mem_append_right _ (List.mem_append_left _ (List.mem_of_getElem? (i := 236) (by decide +kernel))))
theorem mw_476 : (Cond.methodLink "RecordLeaves" (155 : Nat) ({ cls := "RecordLeaves", name := "alike", desc := "(LRecordLeaves$Thing;LRecordLeaves$Thing;I)Z" } : MethodName)) ∈ rl_G := rl_inG mt_476 rfl
theorem cs_X11_155 : rl_cs RX11 155 yX11_alike cX11_alike 5 (some FieldType.boolean) 3 := ⟨Or.inl mw_476, co_X11_alike, mw_1, by decide +kernel⟩
theorem mt_489 : (Cond.methodLink "RecordLeaves" (159 : Nat) ({ cls := "RecordLeaves$Tape", name := "replaceBy", desc := "(LRecordLeaves$RecordThing;)I" } : MethodName)) ∈ lw_tbl := List.mem_append_right _ (List.mem_append_right _ (List.mem_append_right _ (List.mem_append_left _ (List.mem_of_getElem? (i := 9) (by decide +kernel)))))
theorem mw_489 : (Cond.methodLink "RecordLeaves" (159 : Nat) ({ cls := "RecordLeaves$Tape", name := "replaceBy", desc := "(LRecordLeaves$RecordThing;)I" } : MethodName)) ∈ rl_G := rl_inG mt_489 rfl
theorem cs_X11_159 : rl_cs RX11 159 yX9_replaceBy cX9_replaceBy 2 (some FieldType.int) 1 := ⟨Or.inl mw_489, co_X9_replaceBy, mw_5, by decide +kernel⟩
theorem mt_530 : (Cond.methodLink "RecordLeaves" (168 : Nat) ({ cls := "java/lang/Math", name := "max", desc := "(II)I" } : MethodName)) ∈ lw_tbl := List.mem_append_right _ (List.mem_append_right _ (List.mem_append_right _ (List.mem_append_left _ (List.mem_of_getElem? (i := 50) (by decide +kernel)))))
theorem mw_530 : (Cond.methodLink "RecordLeaves" (168 : Nat) ({ cls := "java/lang/Math", name := "max", desc := "(II)I" } : MethodName)) ∈ rl_G := rl_inG mt_530 rfl
theorem mt_541 : (Cond.methodLink "RecordLeaves" (176 : Nat) ({ cls := "RecordLeaves$Reader", name := "<init>", desc := "(LRecordLeaves$Kinds;LRecordLeaves$Tape;I)V" } : MethodName)) ∈ lw_tbl := List.mem_append_right _ (List.mem_append_right _ (List.mem_append_right _ (List.mem_append_left _ (List.mem_of_getElem? (i := 61) (by decide +kernel)))))
theorem mw_541 : (Cond.methodLink "RecordLeaves" (176 : Nat) ({ cls := "RecordLeaves$Reader", name := "<init>", desc := "(LRecordLeaves$Kinds;LRecordLeaves$Tape;I)V" } : MethodName)) ∈ rl_G := rl_inG mt_541 rfl
theorem cs_X11_176 : rl_cs RX11 176 yX5_init cX5_init 4 none 3 := ⟨Or.inl mw_541, co_X5_init, mw_15, by decide +kernel⟩
theorem mt_574 : (Cond.methodLinkNest "RecordLeaves" (179 : Nat) ({ cls := "RecordLeaves$Reader", name := "nextRecord", desc := "(Z)LRecordLeaves$RecordThing;" } : MethodName) "RecordLeaves") ∈ lw_tbl := List.mem_append_right _ (List.mem_append_right _ (List.mem_append_right _ (List.mem_append_left _ (List.mem_of_getElem? (i := 94) (by decide +kernel)))))
theorem cs_X11_179 : rl_cs RX11 179 yX5_nextRecord cX5_nextRecord 9 (some (FieldType.object "RecordLeaves$RecordThing")) 1 := ⟨Or.inr ⟨"RecordLeaves", mt_574⟩, co_X5_nextRecord, mw_15, by decide +kernel⟩
theorem mt_636 : (Cond.methodLink "RecordLeaves" (205 : Nat) ({ cls := "RecordLeaves", name := "heldPlaces", desc := "()I" } : MethodName)) ∈ lw_tbl := List.mem_append_right _ (List.mem_append_right _ (List.mem_append_right _ (List.mem_append_left _ (List.mem_of_getElem? (i := 156) (by decide +kernel)))))
theorem mw_636 : (Cond.methodLink "RecordLeaves" (205 : Nat) ({ cls := "RecordLeaves", name := "heldPlaces", desc := "()I" } : MethodName)) ∈ rl_G := rl_inG mt_636 rfl
theorem cs_X11_205 : rl_cs RX11 205 yX11_heldPlaces cX11_heldPlaces 3 (some FieldType.int) 0 := ⟨Or.inl mw_636, co_X11_heldPlaces, mw_1, by decide +kernel⟩
theorem mt_318 : (Cond.methodLink "RecordLeaves" (208 : Nat) ({ cls := "RecordLeaves$Thing", name := "family", desc := "()I" } : MethodName)) ∈ lw_tbl := List.mem_append_right _ (List.mem_append_right _ (List.mem_append_left _ (List.mem_of_getElem? (i := 78) (by decide +kernel))))
theorem mw_318 : (Cond.methodLink "RecordLeaves" (208 : Nat) ({ cls := "RecordLeaves$Thing", name := "family", desc := "()I" } : MethodName)) ∈ rl_G := rl_inG mt_318 rfl
theorem mt_479 : (Cond.methodLink "RecordLeaves" (211 : Nat) ({ cls := "RecordLeaves", name := "sameItems", desc := "([I[I)Z" } : MethodName)) ∈ lw_tbl := List.mem_append_right _ (List.mem_append_right _ (List.mem_append_left _ (List.mem_of_getElem? (i := 239) (by decide +kernel))))
theorem mw_479 : (Cond.methodLink "RecordLeaves" (211 : Nat) ({ cls := "RecordLeaves", name := "sameItems", desc := "([I[I)Z" } : MethodName)) ∈ rl_G := rl_inG mt_479 rfl
theorem cs_X11_211 : rl_cs RX11 211 yX11_sameItems cX11_sameItems 3 (some FieldType.boolean) 2 := ⟨Or.inl mw_479, co_X11_sameItems, mw_1, by decide +kernel⟩
theorem mt_482 : (Cond.methodLink "RecordLeaves" (215 : Nat) ({ cls := "RecordLeaves", name := "alikeRecords", desc := "(LRecordLeaves$RecordThing;LRecordLeaves$RecordThing;I)Z" } : MethodName)) ∈ lw_tbl := List.mem_append_right _ (List.mem_append_right _ (List.mem_append_right _ (List.mem_append_left _ (List.mem_of_getElem? (i := 2) (by decide +kernel)))))
theorem mw_482 : (Cond.methodLink "RecordLeaves" (215 : Nat) ({ cls := "RecordLeaves", name := "alikeRecords", desc := "(LRecordLeaves$RecordThing;LRecordLeaves$RecordThing;I)Z" } : MethodName)) ∈ rl_G := rl_inG mt_482 rfl
theorem cs_X11_215 : rl_cs RX11 215 yX11_alikeRecords cX11_alikeRecords 4 (some FieldType.boolean) 3 := ⟨Or.inl mw_482, co_X11_alikeRecords, mw_1, by decide +kernel⟩
theorem mt_267 : (Cond.methodLink "RecordLeaves$Check" (3 : Nat) ({ cls := "java/lang/Object", name := "<init>", desc := "()V" } : MethodName)) ∈ lw_tbl := List.mem_append_right _ (List.mem_append_right _ (List.mem_append_left _ (List.mem_of_getElem? (i := 27) (by decide +kernel))))
theorem mw_267 : (Cond.methodLink "RecordLeaves$Check" (3 : Nat) ({ cls := "java/lang/Object", name := "<init>", desc := "()V" } : MethodName)) ∈ rl_G := rl_inG mt_267 rfl
theorem mt_422 : (Cond.methodLink "RecordLeaves$Check" (27 : Nat) ({ cls := "RecordLeaves$Check", name := "ownUnless", desc := "(Z)I" } : MethodName)) ∈ lw_tbl := List.mem_append_right _ (List.mem_append_right _ (List.mem_append_left _ (List.mem_of_getElem? (i := 182) (by decide +kernel))))
theorem mw_422 : (Cond.methodLink "RecordLeaves$Check" (27 : Nat) ({ cls := "RecordLeaves$Check", name := "ownUnless", desc := "(Z)I" } : MethodName)) ∈ rl_G := rl_inG mt_422 rfl
theorem cs_X0_27 : rl_cs RX0 27 yX0_ownUnless cX0_ownUnless 1 (some FieldType.int) 1 := ⟨Or.inl mw_422, co_X0_ownUnless, mw_10, by decide +kernel⟩
theorem mt_425 : (Cond.methodLink "RecordLeaves$Check" (31 : Nat) ({ cls := "RecordLeaves$Check", name := "whyNotDivisor", desc := "(J)I" } : MethodName)) ∈ lw_tbl := List.mem_append_right _ (List.mem_append_right _ (List.mem_append_left _ (List.mem_of_getElem? (i := 185) (by decide +kernel))))
theorem mw_425 : (Cond.methodLink "RecordLeaves$Check" (31 : Nat) ({ cls := "RecordLeaves$Check", name := "whyNotDivisor", desc := "(J)I" } : MethodName)) ∈ rl_G := rl_inG mt_425 rfl
theorem cs_X0_31 : rl_cs RX0 31 yX0_whyNotDivisor cX0_whyNotDivisor 2 (some FieldType.int) 1 := ⟨Or.inl mw_425, co_X0_whyNotDivisor, mw_10, by decide +kernel⟩
theorem mt_429 : (Cond.methodLink "RecordLeaves$Check" (39 : Nat) ({ cls := "RecordLeaves$Check", name := "whyNotItemAbove", desc := "(LRecordLeaves$Thing;J)I" } : MethodName)) ∈ lw_tbl := List.mem_append_right _ (List.mem_append_right _ (List.mem_append_left _ (List.mem_of_getElem? (i := 189) (by decide +kernel))))
theorem mw_429 : (Cond.methodLink "RecordLeaves$Check" (39 : Nat) ({ cls := "RecordLeaves$Check", name := "whyNotItemAbove", desc := "(LRecordLeaves$Thing;J)I" } : MethodName)) ∈ rl_G := rl_inG mt_429 rfl
theorem cs_X0_39 : rl_cs RX0 39 yX0_whyNotItemAbove cX0_whyNotItemAbove 4 (some FieldType.int) 2 := ⟨Or.inl mw_429, co_X0_whyNotItemAbove, mw_10, by decide +kernel⟩
theorem mt_433 : (Cond.methodLink "RecordLeaves$Check" (43 : Nat) ({ cls := "RecordLeaves$Check", name := "whyNotPartIs", desc := "(LRecordLeaves$Thing;J)I" } : MethodName)) ∈ lw_tbl := List.mem_append_right _ (List.mem_append_right _ (List.mem_append_left _ (List.mem_of_getElem? (i := 193) (by decide +kernel))))
theorem mw_433 : (Cond.methodLink "RecordLeaves$Check" (43 : Nat) ({ cls := "RecordLeaves$Check", name := "whyNotPartIs", desc := "(LRecordLeaves$Thing;J)I" } : MethodName)) ∈ rl_G := rl_inG mt_433 rfl
theorem cs_X0_43 : rl_cs RX0 43 yX0_whyNotPartIs cX0_whyNotPartIs 4 (some FieldType.int) 2 := ⟨Or.inl mw_433, co_X0_whyNotPartIs, mw_10, by decide +kernel⟩
theorem mt_439 : (Cond.methodLink "RecordLeaves$Check" (46 : Nat) ({ cls := "RecordLeaves$Check", name := "whyNotOrderBelow", desc := "(LRecordLeaves$Thing;J)I" } : MethodName)) ∈ lw_tbl := List.mem_append_right _ (List.mem_append_right _ (List.mem_append_left _ (List.mem_of_getElem? (i := 199) (by decide +kernel))))
theorem mw_439 : (Cond.methodLink "RecordLeaves$Check" (46 : Nat) ({ cls := "RecordLeaves$Check", name := "whyNotOrderBelow", desc := "(LRecordLeaves$Thing;J)I" } : MethodName)) ∈ rl_G := rl_inG mt_439 rfl
theorem cs_X0_46 : rl_cs RX0 46 yX0_whyNotOrderBelow cX0_whyNotOrderBelow 4 (some FieldType.int) 2 := ⟨Or.inl mw_439, co_X0_whyNotOrderBelow, mw_10, by decide +kernel⟩
theorem mt_437 : (Cond.methodLink "RecordLeaves$Check" (57 : Nat) ({ cls := "RecordLeaves$RecordThing", name := "extent", desc := "()I" } : MethodName)) ∈ lw_tbl := List.mem_append_right _ (List.mem_append_right _ (List.mem_append_left _ (List.mem_of_getElem? (i := 197) (by decide +kernel))))
theorem mw_437 : (Cond.methodLink "RecordLeaves$Check" (57 : Nat) ({ cls := "RecordLeaves$RecordThing", name := "extent", desc := "()I" } : MethodName)) ∈ rl_G := rl_inG mt_437 rfl
theorem cs_X0_57 : rl_cs RX0 57 yX6_extent cX6_extent 1 (some FieldType.int) 0 := ⟨Or.inl mw_437, co_X6_extent, mw_13, by decide +kernel⟩
theorem mt_438 : (Cond.methodLink "RecordLeaves$Check" (61 : Nat) ({ cls := "RecordLeaves$RecordThing", name := "isNumber", desc := "(I)Z" } : MethodName)) ∈ lw_tbl := List.mem_append_right _ (List.mem_append_right _ (List.mem_append_left _ (List.mem_of_getElem? (i := 198) (by decide +kernel))))
theorem mw_438 : (Cond.methodLink "RecordLeaves$Check" (61 : Nat) ({ cls := "RecordLeaves$RecordThing", name := "isNumber", desc := "(I)Z" } : MethodName)) ∈ rl_G := rl_inG mt_438 rfl
theorem cs_X0_61 : rl_cs RX0 61 yX6_isNumber cX6_isNumber 2 (some FieldType.boolean) 1 := ⟨Or.inl mw_438, co_X6_isNumber, mw_13, by decide +kernel⟩
theorem mt_185 : (Cond.methodLinkNest "RecordLeaves$Constant" (3 : Nat) ({ cls := "RecordLeaves$Thing", name := "<init>", desc := "()V" } : MethodName) "RecordLeaves") ∈ lw_tbl := List.mem_append_right _ (List.mem_append_left _ (List.mem_of_getElem? (i := 185) (by decide +kernel)))
theorem mt_7 : (Cond.initialized "RecordLeaves$Thing") ∈ lw_tbl := List.mem_append_right _ (List.mem_append_left _ (List.mem_of_getElem? (i := 7) (by decide +kernel)))
theorem mw_7 : (Cond.initialized "RecordLeaves$Thing") ∈ rl_G := rl_inG mt_7 rfl
theorem cs_X1_3 : rl_cs RX1 3 yX10_init cX10_init 1 none 0 := ⟨Or.inr ⟨"RecordLeaves", mt_185⟩, co_X10_init, mw_7, by decide +kernel⟩
theorem mt_36 : (Cond.methodLink "RecordLeaves$EnumVersion" (3 : Nat) ({ cls := "java/lang/Object", name := "<init>", desc := "()V" } : MethodName)) ∈ lw_tbl := List.mem_append_right _ (List.mem_append_left _ (List.mem_of_getElem? (i := 36) (by decide +kernel)))
theorem mw_36 : (Cond.methodLink "RecordLeaves$EnumVersion" (3 : Nat) ({ cls := "java/lang/Object", name := "<init>", desc := "()V" } : MethodName)) ∈ rl_G := rl_inG mt_36 rfl
theorem mt_182 : (Cond.methodLink "RecordLeaves$EnumVersion" (30 : Nat) ({ cls := "RecordLeaves$Constant", name := "<init>", desc := "(LRecordLeaves$EnumVersion;IIZ)V" } : MethodName)) ∈ lw_tbl := List.mem_append_right _ (List.mem_append_left _ (List.mem_of_getElem? (i := 182) (by decide +kernel)))
theorem mw_182 : (Cond.methodLink "RecordLeaves$EnumVersion" (30 : Nat) ({ cls := "RecordLeaves$Constant", name := "<init>", desc := "(LRecordLeaves$EnumVersion;IIZ)V" } : MethodName)) ∈ rl_G := rl_inG mt_182 rfl
theorem cs_X2_30 : rl_cs RX2 30 yX1_init cX1_init 5 none 4 := ⟨Or.inl mw_182, co_X1_init, mw_8, by decide +kernel⟩
theorem mt_29 : (Cond.methodLink "RecordLeaves$Kinds" (3 : Nat) ({ cls := "java/lang/Object", name := "<init>", desc := "()V" } : MethodName)) ∈ lw_tbl := List.mem_append_right _ (List.mem_append_left _ (List.mem_of_getElem? (i := 29) (by decide +kernel)))
theorem mw_29 : (Cond.methodLink "RecordLeaves$Kinds" (3 : Nat) ({ cls := "java/lang/Object", name := "<init>", desc := "()V" } : MethodName)) ∈ rl_G := rl_inG mt_29 rfl
theorem mt_33 : (Cond.methodLink "RecordLeaves$Kinds" (17 : Nat) ({ cls := "RecordLeaves$EnumVersion", name := "<init>", desc := "(II)V" } : MethodName)) ∈ lw_tbl := List.mem_append_right _ (List.mem_append_left _ (List.mem_of_getElem? (i := 33) (by decide +kernel)))
theorem mw_33 : (Cond.methodLink "RecordLeaves$Kinds" (17 : Nat) ({ cls := "RecordLeaves$EnumVersion", name := "<init>", desc := "(II)V" } : MethodName)) ∈ rl_G := rl_inG mt_33 rfl
theorem cs_X3_17 : rl_cs RX3 17 yX2_init cX2_init 3 none 2 := ⟨Or.inl mw_33, co_X2_init, mw_3, by decide +kernel⟩
theorem mt_57 : (Cond.methodLink "RecordLeaves$Kinds" (26 : Nat) ({ cls := "RecordLeaves$RecordVersion", name := "<init>", desc := "(II)V" } : MethodName)) ∈ lw_tbl := List.mem_append_right _ (List.mem_append_left _ (List.mem_of_getElem? (i := 57) (by decide +kernel)))
theorem mw_57 : (Cond.methodLink "RecordLeaves$Kinds" (26 : Nat) ({ cls := "RecordLeaves$RecordVersion", name := "<init>", desc := "(II)V" } : MethodName)) ∈ rl_G := rl_inG mt_57 rfl
theorem cs_X3_26 : rl_cs RX3 26 yX7_init cX7_init 3 none 2 := ⟨Or.inl mw_57, co_X7_init, mw_4, by decide +kernel⟩
theorem mt_169 : (Cond.methodLinkNest "RecordLeaves$Kinds" (27 : Nat) ({ cls := "RecordLeaves", name := "below", desc := "(II)Z" } : MethodName) "RecordLeaves") ∈ lw_tbl := List.mem_append_right _ (List.mem_append_left _ (List.mem_of_getElem? (i := 169) (by decide +kernel)))
theorem cs_X3_27 : rl_cs RX3 27 yX11_below cX11_below 2 (some FieldType.boolean) 2 := ⟨Or.inr ⟨"RecordLeaves", mt_169⟩, co_X11_below, mw_1, by decide +kernel⟩
theorem mt_228 : (Cond.methodLink "RecordLeaves$Part" (3 : Nat) ({ cls := "java/lang/Object", name := "<init>", desc := "()V" } : MethodName)) ∈ lw_tbl := List.mem_append_right _ (List.mem_append_left _ (List.mem_of_getElem? (i := 228) (by decide +kernel)))
theorem mw_228 : (Cond.methodLink "RecordLeaves$Part" (3 : Nat) ({ cls := "java/lang/Object", name := "<init>", desc := "()V" } : MethodName)) ∈ rl_G := rl_inG mt_228 rfl
theorem mt_387 : (Cond.methodLink "RecordLeaves$Part" (21 : Nat) ({ cls := "RecordLeaves$Part", name := "isOfClass", desc := "(LRecordLeaves$Thing;)Z" } : MethodName)) ∈ lw_tbl := List.mem_append_right _ (List.mem_append_right _ (List.mem_append_left _ (List.mem_of_getElem? (i := 147) (by decide +kernel))))
theorem mw_387 : (Cond.methodLink "RecordLeaves$Part" (21 : Nat) ({ cls := "RecordLeaves$Part", name := "isOfClass", desc := "(LRecordLeaves$Thing;)Z" } : MethodName)) ∈ rl_G := rl_inG mt_387 rfl
theorem cs_X4_21 : rl_cs RX4 21 yX4_isOfClass cX4_isOfClass 2 (some FieldType.boolean) 1 := ⟨Or.inl mw_387, co_X4_isOfClass, mw_9, by decide +kernel⟩
theorem mt_394 : (Cond.methodLink "RecordLeaves$Part" (25 : Nat) ({ cls := "RecordLeaves$Thing", name := "kind", desc := "()I" } : MethodName)) ∈ lw_tbl := List.mem_append_right _ (List.mem_append_right _ (List.mem_append_left _ (List.mem_of_getElem? (i := 154) (by decide +kernel))))
theorem mw_394 : (Cond.methodLink "RecordLeaves$Part" (25 : Nat) ({ cls := "RecordLeaves$Thing", name := "kind", desc := "()I" } : MethodName)) ∈ rl_G := rl_inG mt_394 rfl
theorem mt_406 : (Cond.methodLink "RecordLeaves$Part" (31 : Nat) ({ cls := "RecordLeaves$Thing", name := "version", desc := "()I" } : MethodName)) ∈ lw_tbl := List.mem_append_right _ (List.mem_append_right _ (List.mem_append_left _ (List.mem_of_getElem? (i := 166) (by decide +kernel))))
theorem mw_406 : (Cond.methodLink "RecordLeaves$Part" (31 : Nat) ({ cls := "RecordLeaves$Thing", name := "version", desc := "()I" } : MethodName)) ∈ rl_G := rl_inG mt_406 rfl
theorem mt_544 : (Cond.methodLink "RecordLeaves$Reader" (3 : Nat) ({ cls := "java/lang/Object", name := "<init>", desc := "()V" } : MethodName)) ∈ lw_tbl := List.mem_append_right _ (List.mem_append_right _ (List.mem_append_right _ (List.mem_append_left _ (List.mem_of_getElem? (i := 64) (by decide +kernel)))))
theorem mw_544 : (Cond.methodLink "RecordLeaves$Reader" (3 : Nat) ({ cls := "java/lang/Object", name := "<init>", desc := "()V" } : MethodName)) ∈ rl_G := rl_inG mt_544 rfl
theorem mt_578 : (Cond.methodLink "RecordLeaves$Reader" (44 : Nat) ({ cls := "RecordLeaves$Reader", name := "fail", desc := "(I)V" } : MethodName)) ∈ lw_tbl := List.mem_append_right _ (List.mem_append_right _ (List.mem_append_right _ (List.mem_append_left _ (List.mem_of_getElem? (i := 98) (by decide +kernel)))))
theorem mw_578 : (Cond.methodLink "RecordLeaves$Reader" (44 : Nat) ({ cls := "RecordLeaves$Reader", name := "fail", desc := "(I)V" } : MethodName)) ∈ rl_G := rl_inG mt_578 rfl
theorem cs_X5_44 : rl_cs RX5 44 yX5_fail cX5_fail 2 none 1 := ⟨Or.inl mw_578, co_X5_fail, mw_15, by decide +kernel⟩
theorem mt_582 : (Cond.methodLink "RecordLeaves$Reader" (48 : Nat) ({ cls := "RecordLeaves$Reader", name := "nextLeaf", desc := "()J" } : MethodName)) ∈ lw_tbl := List.mem_append_right _ (List.mem_append_right _ (List.mem_append_right _ (List.mem_append_left _ (List.mem_of_getElem? (i := 102) (by decide +kernel)))))
theorem mw_582 : (Cond.methodLink "RecordLeaves$Reader" (48 : Nat) ({ cls := "RecordLeaves$Reader", name := "nextLeaf", desc := "()J" } : MethodName)) ∈ rl_G := rl_inG mt_582 rfl
theorem cs_X5_48 : rl_cs RX5 48 yX5_nextLeaf cX5_nextLeaf 1 (some FieldType.long) 0 := ⟨Or.inl mw_582, co_X5_nextLeaf, mw_15, by decide +kernel⟩
theorem mt_586 : (Cond.methodLink "RecordLeaves$Reader" (52 : Nat) ({ cls := "RecordLeaves$Kinds", name := "recordVersion", desc := "(JI)LRecordLeaves$RecordVersion;" } : MethodName)) ∈ lw_tbl := List.mem_append_right _ (List.mem_append_right _ (List.mem_append_right _ (List.mem_append_left _ (List.mem_of_getElem? (i := 106) (by decide +kernel)))))
theorem mw_586 : (Cond.methodLink "RecordLeaves$Reader" (52 : Nat) ({ cls := "RecordLeaves$Kinds", name := "recordVersion", desc := "(JI)LRecordLeaves$RecordVersion;" } : MethodName)) ∈ rl_G := rl_inG mt_586 rfl
theorem cs_X5_52 : rl_cs RX5 52 yX3_recordVersion cX3_recordVersion 5 (some (FieldType.object "RecordLeaves$RecordVersion")) 2 := ⟨Or.inl mw_586, co_X3_recordVersion, mw_2, by decide +kernel⟩
theorem mt_588 : (Cond.methodLink "RecordLeaves$Reader" (60 : Nat) ({ cls := "RecordLeaves$RecordThing", name := "<init>", desc := "(LRecordLeaves$RecordVersion;)V" } : MethodName)) ∈ lw_tbl := List.mem_append_right _ (List.mem_append_right _ (List.mem_append_right _ (List.mem_append_left _ (List.mem_of_getElem? (i := 108) (by decide +kernel)))))
theorem mw_588 : (Cond.methodLink "RecordLeaves$Reader" (60 : Nat) ({ cls := "RecordLeaves$RecordThing", name := "<init>", desc := "(LRecordLeaves$RecordVersion;)V" } : MethodName)) ∈ rl_G := rl_inG mt_588 rfl
theorem cs_X5_60 : rl_cs RX5 60 yX6_init cX6_init 2 none 1 := ⟨Or.inl mw_588, co_X6_init, mw_13, by decide +kernel⟩
theorem mt_590 : (Cond.methodLink "RecordLeaves$Reader" (65 : Nat) ({ cls := "java/lang/Math", name := "min", desc := "(JJ)J" } : MethodName)) ∈ lw_tbl := List.mem_append_right _ (List.mem_append_right _ (List.mem_append_right _ (List.mem_append_left _ (List.mem_of_getElem? (i := 110) (by decide +kernel)))))
theorem mw_590 : (Cond.methodLink "RecordLeaves$Reader" (65 : Nat) ({ cls := "java/lang/Math", name := "min", desc := "(JJ)J" } : MethodName)) ∈ rl_G := rl_inG mt_590 rfl
theorem mt_593 : (Cond.methodLink "RecordLeaves$Reader" (71 : Nat) ({ cls := "RecordLeaves$Reader", name := "nextPart", desc := "(LRecordLeaves$RecordThing;)V" } : MethodName)) ∈ lw_tbl := List.mem_append_right _ (List.mem_append_right _ (List.mem_append_right _ (List.mem_append_left _ (List.mem_of_getElem? (i := 113) (by decide +kernel)))))
theorem mw_593 : (Cond.methodLink "RecordLeaves$Reader" (71 : Nat) ({ cls := "RecordLeaves$Reader", name := "nextPart", desc := "(LRecordLeaves$RecordThing;)V" } : MethodName)) ∈ rl_G := rl_inG mt_593 rfl
theorem cs_X5_71 : rl_cs RX5 71 yX5_nextPart cX5_nextPart 9 none 1 := ⟨Or.inl mw_593, co_X5_nextPart, mw_15, by decide +kernel⟩
theorem mt_619 : (Cond.methodLink "RecordLeaves$Reader" (75 : Nat) ({ cls := "RecordLeaves$Reader", name := "finished", desc := "(LRecordLeaves$RecordThing;)LRecordLeaves$RecordThing;" } : MethodName)) ∈ lw_tbl := List.mem_append_right _ (List.mem_append_right _ (List.mem_append_right _ (List.mem_append_left _ (List.mem_of_getElem? (i := 139) (by decide +kernel)))))
theorem mw_619 : (Cond.methodLink "RecordLeaves$Reader" (75 : Nat) ({ cls := "RecordLeaves$Reader", name := "finished", desc := "(LRecordLeaves$RecordThing;)LRecordLeaves$RecordThing;" } : MethodName)) ∈ rl_G := rl_inG mt_619 rfl
theorem cs_X5_75 : rl_cs RX5 75 yX5_finished cX5_finished 2 (some (FieldType.object "RecordLeaves$RecordThing")) 1 := ⟨Or.inl mw_619, co_X5_finished, mw_15, by decide +kernel⟩
theorem mt_623 : (Cond.methodLink "RecordLeaves$Reader" (83 : Nat) ({ cls := "RecordLeaves$RecordVersion", name := "whyNotMade", desc := "(LRecordLeaves$RecordThing;)I" } : MethodName)) ∈ lw_tbl := List.mem_append_right _ (List.mem_append_right _ (List.mem_append_right _ (List.mem_append_left _ (List.mem_of_getElem? (i := 143) (by decide +kernel)))))
theorem mw_623 : (Cond.methodLink "RecordLeaves$Reader" (83 : Nat) ({ cls := "RecordLeaves$RecordVersion", name := "whyNotMade", desc := "(LRecordLeaves$RecordThing;)I" } : MethodName)) ∈ rl_G := rl_inG mt_623 rfl
theorem cs_X5_83 : rl_cs RX5 83 yX7_whyNotMade cX7_whyNotMade 4 (some FieldType.int) 1 := ⟨Or.inl mw_623, co_X7_whyNotMade, mw_4, by decide +kernel⟩
theorem mt_598 : (Cond.methodLink "RecordLeaves$Reader" (94 : Nat) ({ cls := "RecordLeaves$RecordVersion", name := "partNamed", desc := "(J)I" } : MethodName)) ∈ lw_tbl := List.mem_append_right _ (List.mem_append_right _ (List.mem_append_right _ (List.mem_append_left _ (List.mem_of_getElem? (i := 118) (by decide +kernel)))))
theorem mw_598 : (Cond.methodLink "RecordLeaves$Reader" (94 : Nat) ({ cls := "RecordLeaves$RecordVersion", name := "partNamed", desc := "(J)I" } : MethodName)) ∈ rl_G := rl_inG mt_598 rfl
theorem cs_X5_94 : rl_cs RX5 94 yX7_partNamed cX7_partNamed 4 (some FieldType.int) 1 := ⟨Or.inl mw_598, co_X7_partNamed, mw_4, by decide +kernel⟩
theorem mt_599 : (Cond.methodLink "RecordLeaves$Reader" (107 : Nat) ({ cls := "RecordLeaves$RecordThing", name := "put", desc := "(IJLRecordLeaves$Thing;)V" } : MethodName)) ∈ lw_tbl := List.mem_append_right _ (List.mem_append_right _ (List.mem_append_right _ (List.mem_append_left _ (List.mem_of_getElem? (i := 119) (by decide +kernel)))))
theorem mw_599 : (Cond.methodLink "RecordLeaves$Reader" (107 : Nat) ({ cls := "RecordLeaves$RecordThing", name := "put", desc := "(IJLRecordLeaves$Thing;)V" } : MethodName)) ∈ rl_G := rl_inG mt_599 rfl
theorem cs_X5_107 : rl_cs RX5 107 yX6_put cX6_put 5 none 3 := ⟨Or.inl mw_599, co_X6_put, mw_13, by decide +kernel⟩
theorem mt_600 : (Cond.methodLink "RecordLeaves$Reader" (111 : Nat) ({ cls := "RecordLeaves$Reader", name := "nextThing", desc := "(ILRecordLeaves$Part;)LRecordLeaves$Thing;" } : MethodName)) ∈ lw_tbl := List.mem_append_right _ (List.mem_append_right _ (List.mem_append_right _ (List.mem_append_left _ (List.mem_of_getElem? (i := 120) (by decide +kernel)))))
theorem mw_600 : (Cond.methodLink "RecordLeaves$Reader" (111 : Nat) ({ cls := "RecordLeaves$Reader", name := "nextThing", desc := "(ILRecordLeaves$Part;)LRecordLeaves$Thing;" } : MethodName)) ∈ rl_G := rl_inG mt_600 rfl
theorem cs_X5_111 : rl_cs RX5 111 yX5_nextThing cX5_nextThing 3 (some (FieldType.object "RecordLeaves$Thing")) 2 := ⟨Or.inl mw_600, co_X5_nextThing, mw_15, by decide +kernel⟩
theorem mt_604 : (Cond.methodLink "RecordLeaves$Reader" (115 : Nat) ({ cls := "RecordLeaves$Reader", name := "nextConstant", desc := "(LRecordLeaves$Part;)LRecordLeaves$Constant;" } : MethodName)) ∈ lw_tbl := List.mem_append_right _ (List.mem_append_right _ (List.mem_append_right _ (List.mem_append_left _ (List.mem_of_getElem? (i := 124) (by decide +kernel)))))
theorem mw_604 : (Cond.methodLink "RecordLeaves$Reader" (115 : Nat) ({ cls := "RecordLeaves$Reader", name := "nextConstant", desc := "(LRecordLeaves$Part;)LRecordLeaves$Constant;" } : MethodName)) ∈ rl_G := rl_inG mt_604 rfl
theorem cs_X5_115 : rl_cs RX5 115 yX5_nextConstant cX5_nextConstant 6 (some (FieldType.object "RecordLeaves$Constant")) 1 := ⟨Or.inl mw_604, co_X5_nextConstant, mw_15, by decide +kernel⟩
theorem mt_611 : (Cond.methodLink "RecordLeaves$Reader" (119 : Nat) ({ cls := "RecordLeaves$Reader", name := "nextRow", desc := "(Z)LRecordLeaves$Row;" } : MethodName)) ∈ lw_tbl := List.mem_append_right _ (List.mem_append_right _ (List.mem_append_right _ (List.mem_append_left _ (List.mem_of_getElem? (i := 131) (by decide +kernel)))))
theorem mw_611 : (Cond.methodLink "RecordLeaves$Reader" (119 : Nat) ({ cls := "RecordLeaves$Reader", name := "nextRow", desc := "(Z)LRecordLeaves$Row;" } : MethodName)) ∈ rl_G := rl_inG mt_611 rfl
theorem cs_X5_119 : rl_cs RX5 119 yX5_nextRow cX5_nextRow 7 (some (FieldType.object "RecordLeaves$Row")) 1 := ⟨Or.inl mw_611, co_X5_nextRow, mw_15, by decide +kernel⟩
theorem mt_618 : (Cond.methodLink "RecordLeaves$Reader" (123 : Nat) ({ cls := "RecordLeaves$Reader", name := "nextRecord", desc := "(Z)LRecordLeaves$RecordThing;" } : MethodName)) ∈ lw_tbl := List.mem_append_right _ (List.mem_append_right _ (List.mem_append_right _ (List.mem_append_left _ (List.mem_of_getElem? (i := 138) (by decide +kernel)))))
theorem mw_618 : (Cond.methodLink "RecordLeaves$Reader" (123 : Nat) ({ cls := "RecordLeaves$Reader", name := "nextRecord", desc := "(Z)LRecordLeaves$RecordThing;" } : MethodName)) ∈ rl_G := rl_inG mt_618 rfl
theorem cs_X5_123 : rl_cs RX5 123 yX5_nextRecord cX5_nextRecord 9 (some (FieldType.object "RecordLeaves$RecordThing")) 1 := ⟨Or.inl mw_618, co_X5_nextRecord, mw_15, by decide +kernel⟩
theorem mt_609 : (Cond.methodLink "RecordLeaves$Reader" (132 : Nat) ({ cls := "RecordLeaves$Kinds", name := "enumVersion", desc := "(II)LRecordLeaves$EnumVersion;" } : MethodName)) ∈ lw_tbl := List.mem_append_right _ (List.mem_append_right _ (List.mem_append_right _ (List.mem_append_left _ (List.mem_of_getElem? (i := 129) (by decide +kernel)))))
theorem mw_609 : (Cond.methodLink "RecordLeaves$Reader" (132 : Nat) ({ cls := "RecordLeaves$Kinds", name := "enumVersion", desc := "(II)LRecordLeaves$EnumVersion;" } : MethodName)) ∈ rl_G := rl_inG mt_609 rfl
theorem cs_X5_132 : rl_cs RX5 132 yX3_enumVersion cX3_enumVersion 4 (some (FieldType.object "RecordLeaves$EnumVersion")) 2 := ⟨Or.inl mw_609, co_X3_enumVersion, mw_2, by decide +kernel⟩
theorem mt_610 : (Cond.methodLink "RecordLeaves$Reader" (136 : Nat) ({ cls := "RecordLeaves$EnumVersion", name := "named", desc := "(J)LRecordLeaves$Constant;" } : MethodName)) ∈ lw_tbl := List.mem_append_right _ (List.mem_append_right _ (List.mem_append_right _ (List.mem_append_left _ (List.mem_of_getElem? (i := 130) (by decide +kernel)))))
theorem mw_610 : (Cond.methodLink "RecordLeaves$Reader" (136 : Nat) ({ cls := "RecordLeaves$EnumVersion", name := "named", desc := "(J)LRecordLeaves$Constant;" } : MethodName)) ∈ rl_G := rl_inG mt_610 rfl
theorem cs_X5_136 : rl_cs RX5 136 yX2_named cX2_named 4 (some (FieldType.object "RecordLeaves$Constant")) 1 := ⟨Or.inl mw_610, co_X2_named, mw_3, by decide +kernel⟩
theorem mt_617 : (Cond.methodLink "RecordLeaves$Reader" (146 : Nat) ({ cls := "RecordLeaves$Row", name := "<init>", desc := "(I)V" } : MethodName)) ∈ lw_tbl := List.mem_append_right _ (List.mem_append_right _ (List.mem_append_right _ (List.mem_append_left _ (List.mem_of_getElem? (i := 137) (by decide +kernel)))))
theorem mw_617 : (Cond.methodLink "RecordLeaves$Reader" (146 : Nat) ({ cls := "RecordLeaves$Row", name := "<init>", desc := "(I)V" } : MethodName)) ∈ rl_G := rl_inG mt_617 rfl
theorem cs_X5_146 : rl_cs RX5 146 yX8_init cX8_init 2 none 1 := ⟨Or.inl mw_617, co_X8_init, mw_11, by decide +kernel⟩
theorem mt_343 : (Cond.methodLinkNest "RecordLeaves$RecordThing" (3 : Nat) ({ cls := "RecordLeaves$Thing", name := "<init>", desc := "()V" } : MethodName) "RecordLeaves") ∈ lw_tbl := List.mem_append_right _ (List.mem_append_right _ (List.mem_append_left _ (List.mem_of_getElem? (i := 103) (by decide +kernel))))
theorem cs_X6_3 : rl_cs RX6 3 yX10_init cX10_init 1 none 0 := ⟨Or.inr ⟨"RecordLeaves", mt_343⟩, co_X10_init, mw_7, by decide +kernel⟩
theorem mt_374 : (Cond.methodLink "RecordLeaves$RecordThing" (44 : Nat) ({ cls := "RecordLeaves$RecordThing", name := "isNumber", desc := "(I)Z" } : MethodName)) ∈ lw_tbl := List.mem_append_right _ (List.mem_append_right _ (List.mem_append_left _ (List.mem_of_getElem? (i := 134) (by decide +kernel))))
theorem mw_374 : (Cond.methodLink "RecordLeaves$RecordThing" (44 : Nat) ({ cls := "RecordLeaves$RecordThing", name := "isNumber", desc := "(I)Z" } : MethodName)) ∈ rl_G := rl_inG mt_374 rfl
theorem cs_X6_44 : rl_cs RX6 44 yX6_isNumber cX6_isNumber 2 (some FieldType.boolean) 1 := ⟨Or.inl mw_374, co_X6_isNumber, mw_13, by decide +kernel⟩
theorem mt_60 : (Cond.methodLink "RecordLeaves$RecordVersion" (3 : Nat) ({ cls := "java/lang/Object", name := "<init>", desc := "()V" } : MethodName)) ∈ lw_tbl := List.mem_append_right _ (List.mem_append_left _ (List.mem_of_getElem? (i := 60) (by decide +kernel)))
theorem mw_60 : (Cond.methodLink "RecordLeaves$RecordVersion" (3 : Nat) ({ cls := "java/lang/Object", name := "<init>", desc := "()V" } : MethodName)) ∈ rl_G := rl_inG mt_60 rfl
theorem mt_261 : (Cond.methodLinkNest "RecordLeaves$RecordVersion" (36 : Nat) ({ cls := "RecordLeaves", name := "below", desc := "(II)Z" } : MethodName) "RecordLeaves") ∈ lw_tbl := List.mem_append_right _ (List.mem_append_right _ (List.mem_append_left _ (List.mem_of_getElem? (i := 21) (by decide +kernel))))
theorem cs_X7_36 : rl_cs RX7 36 yX11_below cX11_below 2 (some FieldType.boolean) 2 := ⟨Or.inr ⟨"RecordLeaves", mt_261⟩, co_X11_below, mw_1, by decide +kernel⟩
theorem mt_382 : (Cond.methodLink "RecordLeaves$RecordVersion" (46 : Nat) ({ cls := "RecordLeaves$RecordThing", name := "extent", desc := "()I" } : MethodName)) ∈ lw_tbl := List.mem_append_right _ (List.mem_append_right _ (List.mem_append_left _ (List.mem_of_getElem? (i := 142) (by decide +kernel))))
theorem mw_382 : (Cond.methodLink "RecordLeaves$RecordVersion" (46 : Nat) ({ cls := "RecordLeaves$RecordThing", name := "extent", desc := "()I" } : MethodName)) ∈ rl_G := rl_inG mt_382 rfl
theorem cs_X7_46 : rl_cs RX7 46 yX6_extent cX6_extent 1 (some FieldType.int) 0 := ⟨Or.inl mw_382, co_X6_extent, mw_13, by decide +kernel⟩
theorem mt_383 : (Cond.methodLink "RecordLeaves$RecordVersion" (60 : Nat) ({ cls := "RecordLeaves$Part", name := "whyNotTaken", desc := "(JLRecordLeaves$Thing;I)I" } : MethodName)) ∈ lw_tbl := List.mem_append_right _ (List.mem_append_right _ (List.mem_append_left _ (List.mem_of_getElem? (i := 143) (by decide +kernel))))
theorem mw_383 : (Cond.methodLink "RecordLeaves$RecordVersion" (60 : Nat) ({ cls := "RecordLeaves$Part", name := "whyNotTaken", desc := "(JLRecordLeaves$Thing;I)I" } : MethodName)) ∈ rl_G := rl_inG mt_383 rfl
theorem cs_X7_60 : rl_cs RX7 60 yX4_whyNotTaken cX4_whyNotTaken 5 (some FieldType.int) 3 := ⟨Or.inl mw_383, co_X4_whyNotTaken, mw_9, by decide +kernel⟩
theorem mt_418 : (Cond.methodLink "RecordLeaves$RecordVersion" (64 : Nat) ({ cls := "RecordLeaves$Check", name := "whyNotPassed", desc := "(LRecordLeaves$RecordThing;)I" } : MethodName)) ∈ lw_tbl := List.mem_append_right _ (List.mem_append_right _ (List.mem_append_left _ (List.mem_of_getElem? (i := 178) (by decide +kernel))))
theorem mw_418 : (Cond.methodLink "RecordLeaves$RecordVersion" (64 : Nat) ({ cls := "RecordLeaves$Check", name := "whyNotPassed", desc := "(LRecordLeaves$RecordThing;)I" } : MethodName)) ∈ rl_G := rl_inG mt_418 rfl
theorem cs_X7_64 : rl_cs RX7 64 yX0_whyNotPassed cX0_whyNotPassed 2 (some FieldType.int) 1 := ⟨Or.inl mw_418, co_X0_whyNotPassed, mw_10, by decide +kernel⟩
theorem mt_295 : (Cond.methodLinkNest "RecordLeaves$Row" (3 : Nat) ({ cls := "RecordLeaves$Thing", name := "<init>", desc := "()V" } : MethodName) "RecordLeaves") ∈ lw_tbl := List.mem_append_right _ (List.mem_append_right _ (List.mem_append_left _ (List.mem_of_getElem? (i := 55) (by decide +kernel))))
theorem cs_X8_3 : rl_cs RX8 3 yX10_init cX10_init 1 none 0 := ⟨Or.inr ⟨"RecordLeaves", mt_295⟩, co_X10_init, mw_7, by decide +kernel⟩
theorem mt_296 : (Cond.methodLink "RecordLeaves$Row" (9 : Nat) ({ cls := "java/lang/Math", name := "max", desc := "(II)I" } : MethodName)) ∈ lw_tbl := List.mem_append_right _ (List.mem_append_right _ (List.mem_append_left _ (List.mem_of_getElem? (i := 56) (by decide +kernel))))
theorem mw_296 : (Cond.methodLink "RecordLeaves$Row" (9 : Nat) ({ cls := "java/lang/Math", name := "max", desc := "(II)I" } : MethodName)) ∈ rl_G := rl_inG mt_296 rfl
theorem mt_104 : (Cond.methodLink "RecordLeaves$Tape" (3 : Nat) ({ cls := "java/lang/Object", name := "<init>", desc := "()V" } : MethodName)) ∈ lw_tbl := List.mem_append_right _ (List.mem_append_left _ (List.mem_of_getElem? (i := 104) (by decide +kernel)))
theorem mw_104 : (Cond.methodLink "RecordLeaves$Tape" (3 : Nat) ({ cls := "java/lang/Object", name := "<init>", desc := "()V" } : MethodName)) ∈ rl_G := rl_inG mt_104 rfl
theorem mt_493 : (Cond.methodLink "RecordLeaves$Tape" (22 : Nat) ({ cls := "RecordLeaves$Tape", name := "putRecord", desc := "(LRecordLeaves$RecordThing;I)V" } : MethodName)) ∈ lw_tbl := List.mem_append_right _ (List.mem_append_right _ (List.mem_append_right _ (List.mem_append_left _ (List.mem_of_getElem? (i := 13) (by decide +kernel)))))
theorem mw_493 : (Cond.methodLink "RecordLeaves$Tape" (22 : Nat) ({ cls := "RecordLeaves$Tape", name := "putRecord", desc := "(LRecordLeaves$RecordThing;I)V" } : MethodName)) ∈ rl_G := rl_inG mt_493 rfl
theorem cs_X9_22 : rl_cs RX9 22 yX9_putRecord cX9_putRecord 4 none 2 := ⟨Or.inl mw_493, co_X9_putRecord, mw_5, by decide +kernel⟩
theorem mt_519 : (Cond.methodLink "RecordLeaves$Tape" (26 : Nat) ({ cls := "java/lang/System", name := "arraycopy", desc := "(Ljava/lang/Object;ILjava/lang/Object;II)V" } : MethodName)) ∈ lw_tbl := List.mem_append_right _ (List.mem_append_right _ (List.mem_append_right _ (List.mem_append_left _ (List.mem_of_getElem? (i := 39) (by decide +kernel)))))
theorem mw_519 : (Cond.methodLink "RecordLeaves$Tape" (26 : Nat) ({ cls := "java/lang/System", name := "arraycopy", desc := "(Ljava/lang/Object;ILjava/lang/Object;II)V" } : MethodName)) ∈ rl_G := rl_inG mt_519 rfl
theorem mt_502 : (Cond.methodLink "RecordLeaves$Tape" (35 : Nat) ({ cls := "java/lang/Math", name := "min", desc := "(II)I" } : MethodName)) ∈ lw_tbl := List.mem_append_right _ (List.mem_append_right _ (List.mem_append_right _ (List.mem_append_left _ (List.mem_of_getElem? (i := 22) (by decide +kernel)))))
theorem mw_502 : (Cond.methodLink "RecordLeaves$Tape" (35 : Nat) ({ cls := "java/lang/Math", name := "min", desc := "(II)I" } : MethodName)) ∈ rl_G := rl_inG mt_502 rfl
theorem mt_497 : (Cond.methodLink "RecordLeaves$Tape" (41 : Nat) ({ cls := "RecordLeaves$RecordThing", name := "kind", desc := "()I" } : MethodName)) ∈ lw_tbl := List.mem_append_right _ (List.mem_append_right _ (List.mem_append_right _ (List.mem_append_left _ (List.mem_of_getElem? (i := 17) (by decide +kernel)))))
theorem mw_497 : (Cond.methodLink "RecordLeaves$Tape" (41 : Nat) ({ cls := "RecordLeaves$RecordThing", name := "kind", desc := "()I" } : MethodName)) ∈ rl_G := rl_inG mt_497 rfl
theorem cs_X9_41 : rl_cs RX9 41 yX6_kind cX6_kind 1 (some FieldType.int) 0 := ⟨Or.inl mw_497, co_X6_kind, mw_13, by decide +kernel⟩
theorem mt_498 : (Cond.methodLink "RecordLeaves$Tape" (47 : Nat) ({ cls := "RecordLeaves$Tape", name := "put", desc := "(J)V" } : MethodName)) ∈ lw_tbl := List.mem_append_right _ (List.mem_append_right _ (List.mem_append_right _ (List.mem_append_left _ (List.mem_of_getElem? (i := 18) (by decide +kernel)))))
theorem mw_498 : (Cond.methodLink "RecordLeaves$Tape" (47 : Nat) ({ cls := "RecordLeaves$Tape", name := "put", desc := "(J)V" } : MethodName)) ∈ rl_G := rl_inG mt_498 rfl
theorem cs_X9_47 : rl_cs RX9 47 yX9_put cX9_put 3 none 1 := ⟨Or.inl mw_498, co_X9_put, mw_5, by decide +kernel⟩
theorem mt_505 : (Cond.methodLink "RecordLeaves$Tape" (51 : Nat) ({ cls := "RecordLeaves$RecordThing", name := "extent", desc := "()I" } : MethodName)) ∈ lw_tbl := List.mem_append_right _ (List.mem_append_right _ (List.mem_append_right _ (List.mem_append_left _ (List.mem_of_getElem? (i := 25) (by decide +kernel)))))
theorem mw_505 : (Cond.methodLink "RecordLeaves$Tape" (51 : Nat) ({ cls := "RecordLeaves$RecordThing", name := "extent", desc := "()I" } : MethodName)) ∈ rl_G := rl_inG mt_505 rfl
theorem cs_X9_51 : rl_cs RX9 51 yX6_extent cX6_extent 1 (some FieldType.int) 0 := ⟨Or.inl mw_505, co_X6_extent, mw_13, by decide +kernel⟩
theorem mt_506 : (Cond.methodLink "RecordLeaves$Tape" (72 : Nat) ({ cls := "RecordLeaves$Tape", name := "putValue", desc := "(LRecordLeaves$RecordThing;II)V" } : MethodName)) ∈ lw_tbl := List.mem_append_right _ (List.mem_append_right _ (List.mem_append_right _ (List.mem_append_left _ (List.mem_of_getElem? (i := 26) (by decide +kernel)))))
theorem mw_506 : (Cond.methodLink "RecordLeaves$Tape" (72 : Nat) ({ cls := "RecordLeaves$Tape", name := "putValue", desc := "(LRecordLeaves$RecordThing;II)V" } : MethodName)) ∈ rl_G := rl_inG mt_506 rfl
theorem cs_X9_72 : rl_cs RX9 72 yX9_putValue cX9_putValue 8 none 3 := ⟨Or.inl mw_506, co_X9_putValue, mw_5, by decide +kernel⟩
theorem mt_510 : (Cond.methodLink "RecordLeaves$Tape" (80 : Nat) ({ cls := "RecordLeaves$RecordThing", name := "isNumber", desc := "(I)Z" } : MethodName)) ∈ lw_tbl := List.mem_append_right _ (List.mem_append_right _ (List.mem_append_right _ (List.mem_append_left _ (List.mem_of_getElem? (i := 30) (by decide +kernel)))))
theorem mw_510 : (Cond.methodLink "RecordLeaves$Tape" (80 : Nat) ({ cls := "RecordLeaves$RecordThing", name := "isNumber", desc := "(I)Z" } : MethodName)) ∈ rl_G := rl_inG mt_510 rfl
theorem cs_X9_80 : rl_cs RX9 80 yX6_isNumber cX6_isNumber 2 (some FieldType.boolean) 1 := ⟨Or.inl mw_510, co_X6_isNumber, mw_13, by decide +kernel⟩
theorem mt_514 : (Cond.methodLink "RecordLeaves$Tape" (96 : Nat) ({ cls := "RecordLeaves$Tape", name := "putItems", desc := "([I)V" } : MethodName)) ∈ lw_tbl := List.mem_append_right _ (List.mem_append_right _ (List.mem_append_right _ (List.mem_append_left _ (List.mem_of_getElem? (i := 34) (by decide +kernel)))))
theorem mw_514 : (Cond.methodLink "RecordLeaves$Tape" (96 : Nat) ({ cls := "RecordLeaves$Tape", name := "putItems", desc := "([I)V" } : MethodName)) ∈ rl_G := rl_inG mt_514 rfl
theorem cs_X9_96 : rl_cs RX9 96 yX9_putItems cX9_putItems 3 none 1 := ⟨Or.inl mw_514, co_X9_putItems, mw_5, by decide +kernel⟩
theorem mt_188 : (Cond.methodLink "RecordLeaves$Thing" (1 : Nat) ({ cls := "java/lang/Object", name := "<init>", desc := "()V" } : MethodName)) ∈ lw_tbl := List.mem_append_right _ (List.mem_append_left _ (List.mem_of_getElem? (i := 188) (by decide +kernel)))
theorem mw_188 : (Cond.methodLink "RecordLeaves$Thing" (1 : Nat) ({ cls := "java/lang/Object", name := "<init>", desc := "()V" } : MethodName)) ∈ rl_G := rl_inG mt_188 rfl
theorem mt_18 : (Cond.methodLink "RecordLeavesLaw" (9 : Nat) ({ cls := "RecordLeaves", name := "<init>", desc := "()V" } : MethodName)) ∈ lw_tbl := List.mem_append_right _ (List.mem_append_left _ (List.mem_of_getElem? (i := 18) (by decide +kernel)))
theorem mw_18 : (Cond.methodLink "RecordLeavesLaw" (9 : Nat) ({ cls := "RecordLeaves", name := "<init>", desc := "()V" } : MethodName)) ∈ rl_G := rl_inG mt_18 rfl
theorem cs_L_9 : rl_cs RL 9 yX11_init cX11_init 1 none 0 := ⟨Or.inl mw_18, co_X11_init, mw_1, by decide +kernel⟩
theorem mt_642 : (Cond.methodLink "RecordLeavesLaw" (12 : Nat) ({ cls := "RecordLeavesModel", name := "<init>", desc := "()V" } : MethodName)) ∈ lw_tbl := List.mem_append_right _ (List.mem_append_right _ (List.mem_append_right _ (List.mem_append_left _ (List.mem_of_getElem? (i := 162) (by decide +kernel)))))
theorem mw_642 : (Cond.methodLink "RecordLeavesLaw" (12 : Nat) ({ cls := "RecordLeavesModel", name := "<init>", desc := "()V" } : MethodName)) ∈ rl_G := rl_inG mt_642 rfl
theorem cs_L_12 : rl_cs RL 12 yX12_init cX12_init 1 none 0 := ⟨Or.inl mw_642, co_X12_init, mw_6, by decide +kernel⟩
theorem mt_161 : (Cond.methodLink "RecordLeavesLaw" (13 : Nat) ({ cls := "RecordLeaves", name := "constant", desc := "(IIIZ)I" } : MethodName)) ∈ lw_tbl := List.mem_append_right _ (List.mem_append_left _ (List.mem_of_getElem? (i := 161) (by decide +kernel)))
theorem mw_161 : (Cond.methodLink "RecordLeavesLaw" (13 : Nat) ({ cls := "RecordLeaves", name := "constant", desc := "(IIIZ)I" } : MethodName)) ∈ rl_G := rl_inG mt_161 rfl
theorem cs_L_13 : rl_cs RL 13 yX11_constant cX11_constant 6 (some FieldType.int) 4 := ⟨Or.inl mw_161, co_X11_constant, mw_1, by decide +kernel⟩
theorem mt_798 : (Cond.methodLink "RecordLeavesLaw" (17 : Nat) ({ cls := "RecordLeavesModel", name := "constant", desc := "(IIIZ)I" } : MethodName)) ∈ lw_tbl := List.mem_append_right _ (List.mem_append_right _ (List.mem_append_right _ (List.mem_append_right _ (List.mem_append_left _ (List.mem_of_getElem? (i := 78) (by decide +kernel))))))
theorem mw_798 : (Cond.methodLink "RecordLeavesLaw" (17 : Nat) ({ cls := "RecordLeavesModel", name := "constant", desc := "(IIIZ)I" } : MethodName)) ∈ rl_G := rl_inG mt_798 rfl
theorem cs_L_17 : rl_cs RL 17 yX12_constant cX12_constant 7 (some FieldType.int) 4 := ⟨Or.inl mw_798, co_X12_constant, mw_6, by decide +kernel⟩
theorem mt_206 : (Cond.methodLink "RecordLeavesLaw" (18 : Nat) ({ cls := "RecordLeaves", name := "part", desc := "(IIIII)I" } : MethodName)) ∈ lw_tbl := List.mem_append_right _ (List.mem_append_left _ (List.mem_of_getElem? (i := 206) (by decide +kernel)))
theorem mw_206 : (Cond.methodLink "RecordLeavesLaw" (18 : Nat) ({ cls := "RecordLeaves", name := "part", desc := "(IIIII)I" } : MethodName)) ∈ rl_G := rl_inG mt_206 rfl
theorem cs_L_18 : rl_cs RL 18 yX11_part cX11_part 7 (some FieldType.int) 5 := ⟨Or.inl mw_206, co_X11_part, mw_1, by decide +kernel⟩
theorem mt_814 : (Cond.methodLink "RecordLeavesLaw" (22 : Nat) ({ cls := "RecordLeavesModel", name := "part", desc := "(IIIII)I" } : MethodName)) ∈ lw_tbl := List.mem_append_right _ (List.mem_append_right _ (List.mem_append_right _ (List.mem_append_right _ (List.mem_append_left _ (List.mem_of_getElem? (i := 94) (by decide +kernel))))))
theorem mw_814 : (Cond.methodLink "RecordLeavesLaw" (22 : Nat) ({ cls := "RecordLeavesModel", name := "part", desc := "(IIIII)I" } : MethodName)) ∈ rl_G := rl_inG mt_814 rfl
theorem cs_L_22 : rl_cs RL 22 yX12_part cX12_part 8 (some FieldType.int) 5 := ⟨Or.inl mw_814, co_X12_part, mw_6, by decide +kernel⟩
theorem mt_250 : (Cond.methodLink "RecordLeavesLaw" (23 : Nat) ({ cls := "RecordLeaves", name := "check", desc := "(IIIII)I" } : MethodName)) ∈ lw_tbl := List.mem_append_right _ (List.mem_append_right _ (List.mem_append_left _ (List.mem_of_getElem? (i := 10) (by decide +kernel))))
theorem mw_250 : (Cond.methodLink "RecordLeavesLaw" (23 : Nat) ({ cls := "RecordLeaves", name := "check", desc := "(IIIII)I" } : MethodName)) ∈ rl_G := rl_inG mt_250 rfl
theorem cs_L_23 : rl_cs RL 23 yX11_check cX11_check 7 (some FieldType.int) 5 := ⟨Or.inl mw_250, co_X11_check, mw_1, by decide +kernel⟩
theorem mt_827 : (Cond.methodLink "RecordLeavesLaw" (26 : Nat) ({ cls := "RecordLeavesModel", name := "check", desc := "(IIIII)I" } : MethodName)) ∈ lw_tbl := List.mem_append_right _ (List.mem_append_right _ (List.mem_append_right _ (List.mem_append_right _ (List.mem_append_left _ (List.mem_of_getElem? (i := 107) (by decide +kernel))))))
theorem mw_827 : (Cond.methodLink "RecordLeavesLaw" (26 : Nat) ({ cls := "RecordLeavesModel", name := "check", desc := "(IIIII)I" } : MethodName)) ∈ rl_G := rl_inG mt_827 rfl
theorem cs_L_26 : rl_cs RL 26 yX12_check cX12_check 9 (some FieldType.int) 5 := ⟨Or.inl mw_827, co_X12_check, mw_6, by decide +kernel⟩
theorem mt_282 : (Cond.methodLink "RecordLeavesLaw" (27 : Nat) ({ cls := "RecordLeaves", name := "hold", desc := "(IIII)I" } : MethodName)) ∈ lw_tbl := List.mem_append_right _ (List.mem_append_right _ (List.mem_append_left _ (List.mem_of_getElem? (i := 42) (by decide +kernel))))
theorem mw_282 : (Cond.methodLink "RecordLeavesLaw" (27 : Nat) ({ cls := "RecordLeaves", name := "hold", desc := "(IIII)I" } : MethodName)) ∈ rl_G := rl_inG mt_282 rfl
theorem cs_L_27 : rl_cs RL 27 yX11_hold cX11_hold 7 (some FieldType.int) 4 := ⟨Or.inl mw_282, co_X11_hold, mw_1, by decide +kernel⟩
theorem mt_835 : (Cond.methodLink "RecordLeavesLaw" (31 : Nat) ({ cls := "RecordLeavesModel", name := "hold", desc := "(IIII)I" } : MethodName)) ∈ lw_tbl := List.mem_append_right _ (List.mem_append_right _ (List.mem_append_right _ (List.mem_append_right _ (List.mem_append_left _ (List.mem_of_getElem? (i := 115) (by decide +kernel))))))
theorem mw_835 : (Cond.methodLink "RecordLeavesLaw" (31 : Nat) ({ cls := "RecordLeavesModel", name := "hold", desc := "(IIII)I" } : MethodName)) ∈ rl_G := rl_inG mt_835 rfl
theorem cs_L_31 : rl_cs RL 31 yX12_hold cX12_hold 6 (some FieldType.int) 4 := ⟨Or.inl mw_835, co_X12_hold, mw_6, by decide +kernel⟩
theorem mt_286 : (Cond.methodLink "RecordLeavesLaw" (32 : Nat) ({ cls := "RecordLeaves", name := "row", desc := "(II)I" } : MethodName)) ∈ lw_tbl := List.mem_append_right _ (List.mem_append_right _ (List.mem_append_left _ (List.mem_of_getElem? (i := 46) (by decide +kernel))))
theorem mw_286 : (Cond.methodLink "RecordLeavesLaw" (32 : Nat) ({ cls := "RecordLeaves", name := "row", desc := "(II)I" } : MethodName)) ∈ rl_G := rl_inG mt_286 rfl
theorem cs_L_32 : rl_cs RL 32 yX11_row cX11_row 3 (some FieldType.int) 2 := ⟨Or.inl mw_286, co_X11_row, mw_1, by decide +kernel⟩
theorem mt_842 : (Cond.methodLink "RecordLeavesLaw" (36 : Nat) ({ cls := "RecordLeavesModel", name := "row", desc := "(II)I" } : MethodName)) ∈ lw_tbl := List.mem_append_right _ (List.mem_append_right _ (List.mem_append_right _ (List.mem_append_right _ (List.mem_append_left _ (List.mem_of_getElem? (i := 122) (by decide +kernel))))))
theorem mw_842 : (Cond.methodLink "RecordLeavesLaw" (36 : Nat) ({ cls := "RecordLeavesModel", name := "row", desc := "(II)I" } : MethodName)) ∈ rl_G := rl_inG mt_842 rfl
theorem cs_L_36 : rl_cs RL 36 yX12_row cX12_row 3 (some FieldType.int) 2 := ⟨Or.inl mw_842, co_X12_row, mw_6, by decide +kernel⟩
theorem mt_307 : (Cond.methodLink "RecordLeavesLaw" (37 : Nat) ({ cls := "RecordLeaves", name := "item", desc := "(III)I" } : MethodName)) ∈ lw_tbl := List.mem_append_right _ (List.mem_append_right _ (List.mem_append_left _ (List.mem_of_getElem? (i := 67) (by decide +kernel))))
theorem mw_307 : (Cond.methodLink "RecordLeavesLaw" (37 : Nat) ({ cls := "RecordLeaves", name := "item", desc := "(III)I" } : MethodName)) ∈ rl_G := rl_inG mt_307 rfl
theorem cs_L_37 : rl_cs RL 37 yX11_item cX11_item 6 (some FieldType.int) 3 := ⟨Or.inl mw_307, co_X11_item, mw_1, by decide +kernel⟩
theorem mt_851 : (Cond.methodLink "RecordLeavesLaw" (41 : Nat) ({ cls := "RecordLeavesModel", name := "item", desc := "(III)I" } : MethodName)) ∈ lw_tbl := List.mem_append_right _ (List.mem_append_right _ (List.mem_append_right _ (List.mem_append_right _ (List.mem_append_left _ (List.mem_of_getElem? (i := 131) (by decide +kernel))))))
theorem mw_851 : (Cond.methodLink "RecordLeavesLaw" (41 : Nat) ({ cls := "RecordLeavesModel", name := "item", desc := "(III)I" } : MethodName)) ∈ rl_G := rl_inG mt_851 rfl
theorem cs_L_41 : rl_cs RL 41 yX12_item cX12_item 6 (some FieldType.int) 3 := ⟨Or.inl mw_851, co_X12_item, mw_6, by decide +kernel⟩
theorem mt_311 : (Cond.methodLink "RecordLeavesLaw" (42 : Nat) ({ cls := "RecordLeaves", name := "share", desc := "(II)I" } : MethodName)) ∈ lw_tbl := List.mem_append_right _ (List.mem_append_right _ (List.mem_append_left _ (List.mem_of_getElem? (i := 71) (by decide +kernel))))
theorem mw_311 : (Cond.methodLink "RecordLeavesLaw" (42 : Nat) ({ cls := "RecordLeaves", name := "share", desc := "(II)I" } : MethodName)) ∈ rl_G := rl_inG mt_311 rfl
theorem cs_L_42 : rl_cs RL 42 yX11_share cX11_share 3 (some FieldType.int) 2 := ⟨Or.inl mw_311, co_X11_share, mw_1, by decide +kernel⟩
theorem mt_860 : (Cond.methodLink "RecordLeavesLaw" (45 : Nat) ({ cls := "RecordLeavesModel", name := "share", desc := "(II)I" } : MethodName)) ∈ lw_tbl := List.mem_append_right _ (List.mem_append_right _ (List.mem_append_right _ (List.mem_append_right _ (List.mem_append_left _ (List.mem_of_getElem? (i := 140) (by decide +kernel))))))
theorem mw_860 : (Cond.methodLink "RecordLeavesLaw" (45 : Nat) ({ cls := "RecordLeavesModel", name := "share", desc := "(II)I" } : MethodName)) ∈ rl_G := rl_inG mt_860 rfl
theorem cs_L_45 : rl_cs RL 45 yX12_share cX12_share 3 (some FieldType.int) 2 := ⟨Or.inl mw_860, co_X12_share, mw_6, by decide +kernel⟩
theorem mt_330 : (Cond.methodLink "RecordLeavesLaw" (48 : Nat) ({ cls := "RecordLeaves", name := "give", desc := "(IJI)I" } : MethodName)) ∈ lw_tbl := List.mem_append_right _ (List.mem_append_right _ (List.mem_append_left _ (List.mem_of_getElem? (i := 90) (by decide +kernel))))
theorem mw_330 : (Cond.methodLink "RecordLeavesLaw" (48 : Nat) ({ cls := "RecordLeaves", name := "give", desc := "(IJI)I" } : MethodName)) ∈ rl_G := rl_inG mt_330 rfl
theorem cs_L_48 : rl_cs RL 48 yX11_give cX11_give 5 (some FieldType.int) 3 := ⟨Or.inl mw_330, co_X11_give, mw_1, by decide +kernel⟩
theorem mt_864 : (Cond.methodLink "RecordLeavesLaw" (52 : Nat) ({ cls := "RecordLeavesModel", name := "give", desc := "(IJI)I" } : MethodName)) ∈ lw_tbl := List.mem_append_right _ (List.mem_append_right _ (List.mem_append_right _ (List.mem_append_right _ (List.mem_append_left _ (List.mem_of_getElem? (i := 144) (by decide +kernel))))))
theorem mw_864 : (Cond.methodLink "RecordLeavesLaw" (52 : Nat) ({ cls := "RecordLeavesModel", name := "give", desc := "(IJI)I" } : MethodName)) ∈ rl_G := rl_inG mt_864 rfl
theorem cs_L_52 : rl_cs RL 52 yX12_give cX12_give 5 (some FieldType.int) 3 := ⟨Or.inl mw_864, co_X12_give, mw_6, by decide +kernel⟩
theorem mt_334 : (Cond.methodLink "RecordLeavesLaw" (53 : Nat) ({ cls := "RecordLeaves", name := "make", desc := "(III)I" } : MethodName)) ∈ lw_tbl := List.mem_append_right _ (List.mem_append_right _ (List.mem_append_left _ (List.mem_of_getElem? (i := 94) (by decide +kernel))))
theorem mw_334 : (Cond.methodLink "RecordLeavesLaw" (53 : Nat) ({ cls := "RecordLeaves", name := "make", desc := "(III)I" } : MethodName)) ∈ rl_G := rl_inG mt_334 rfl
theorem cs_L_53 : rl_cs RL 53 yX11_make cX11_make 7 (some FieldType.int) 3 := ⟨Or.inl mw_334, co_X11_make, mw_1, by decide +kernel⟩
theorem mt_868 : (Cond.methodLink "RecordLeavesLaw" (56 : Nat) ({ cls := "RecordLeavesModel", name := "make", desc := "(III)I" } : MethodName)) ∈ lw_tbl := List.mem_append_right _ (List.mem_append_right _ (List.mem_append_right _ (List.mem_append_right _ (List.mem_append_left _ (List.mem_of_getElem? (i := 148) (by decide +kernel))))))
theorem mw_868 : (Cond.methodLink "RecordLeavesLaw" (56 : Nat) ({ cls := "RecordLeavesModel", name := "make", desc := "(III)I" } : MethodName)) ∈ rl_G := rl_inG mt_868 rfl
theorem cs_L_56 : rl_cs RL 56 yX12_make cX12_make 5 (some FieldType.int) 3 := ⟨Or.inl mw_868, co_X12_make, mw_6, by decide +kernel⟩
theorem mt_447 : (Cond.methodLink "RecordLeavesLaw" (57 : Nat) ({ cls := "RecordLeaves", name := "about", desc := "(II)I" } : MethodName)) ∈ lw_tbl := List.mem_append_right _ (List.mem_append_right _ (List.mem_append_left _ (List.mem_of_getElem? (i := 207) (by decide +kernel))))
theorem mw_447 : (Cond.methodLink "RecordLeavesLaw" (57 : Nat) ({ cls := "RecordLeaves", name := "about", desc := "(II)I" } : MethodName)) ∈ rl_G := rl_inG mt_447 rfl
theorem cs_L_57 : rl_cs RL 57 yX11_about cX11_about 4 (some FieldType.int) 2 := ⟨Or.inl mw_447, co_X11_about, mw_1, by decide +kernel⟩
theorem mt_887 : (Cond.methodLink "RecordLeavesLaw" (60 : Nat) ({ cls := "RecordLeavesModel", name := "about", desc := "(II)I" } : MethodName)) ∈ lw_tbl := List.mem_append_right _ (List.mem_append_right _ (List.mem_append_right _ (List.mem_append_right _ (List.mem_append_left _ (List.mem_of_getElem? (i := 167) (by decide +kernel))))))
theorem mw_887 : (Cond.methodLink "RecordLeavesLaw" (60 : Nat) ({ cls := "RecordLeavesModel", name := "about", desc := "(II)I" } : MethodName)) ∈ rl_G := rl_inG mt_887 rfl
theorem cs_L_60 : rl_cs RL 60 yX12_about cX12_about 7 (some FieldType.int) 2 := ⟨Or.inl mw_887, co_X12_about, mw_6, by decide +kernel⟩
theorem mt_463 : (Cond.methodLink "RecordLeavesLaw" (61 : Nat) ({ cls := "RecordLeaves", name := "number", desc := "(II)J" } : MethodName)) ∈ lw_tbl := List.mem_append_right _ (List.mem_append_right _ (List.mem_append_left _ (List.mem_of_getElem? (i := 223) (by decide +kernel))))
theorem mw_463 : (Cond.methodLink "RecordLeavesLaw" (61 : Nat) ({ cls := "RecordLeaves", name := "number", desc := "(II)J" } : MethodName)) ∈ rl_G := rl_inG mt_463 rfl
theorem cs_L_61 : rl_cs RL 61 yX11_number cX11_number 5 (some FieldType.long) 2 := ⟨Or.inl mw_463, co_X11_number, mw_1, by decide +kernel⟩
theorem mt_892 : (Cond.methodLink "RecordLeavesLaw" (65 : Nat) ({ cls := "RecordLeavesModel", name := "number", desc := "(II)J" } : MethodName)) ∈ lw_tbl := List.mem_append_right _ (List.mem_append_right _ (List.mem_append_right _ (List.mem_append_right _ (List.mem_append_left _ (List.mem_of_getElem? (i := 172) (by decide +kernel))))))
theorem mw_892 : (Cond.methodLink "RecordLeavesLaw" (65 : Nat) ({ cls := "RecordLeavesModel", name := "number", desc := "(II)J" } : MethodName)) ∈ rl_G := rl_inG mt_892 rfl
theorem cs_L_65 : rl_cs RL 65 yX12_number cX12_number 4 (some FieldType.long) 2 := ⟨Or.inl mw_892, co_X12_number, mw_6, by decide +kernel⟩
theorem mt_468 : (Cond.methodLink "RecordLeavesLaw" (66 : Nat) ({ cls := "RecordLeaves", name := "take", desc := "(III)I" } : MethodName)) ∈ lw_tbl := List.mem_append_right _ (List.mem_append_right _ (List.mem_append_left _ (List.mem_of_getElem? (i := 228) (by decide +kernel))))
theorem mw_468 : (Cond.methodLink "RecordLeavesLaw" (66 : Nat) ({ cls := "RecordLeaves", name := "take", desc := "(III)I" } : MethodName)) ∈ rl_G := rl_inG mt_468 rfl
theorem cs_L_66 : rl_cs RL 66 yX11_take cX11_take 6 (some FieldType.int) 3 := ⟨Or.inl mw_468, co_X11_take, mw_1, by decide +kernel⟩
theorem mt_905 : (Cond.methodLink "RecordLeavesLaw" (69 : Nat) ({ cls := "RecordLeavesModel", name := "take", desc := "(III)I" } : MethodName)) ∈ lw_tbl := List.mem_append_right _ (List.mem_append_right _ (List.mem_append_right _ (List.mem_append_right _ (List.mem_append_left _ (List.mem_of_getElem? (i := 185) (by decide +kernel))))))
theorem mw_905 : (Cond.methodLink "RecordLeavesLaw" (69 : Nat) ({ cls := "RecordLeavesModel", name := "take", desc := "(III)I" } : MethodName)) ∈ rl_G := rl_inG mt_905 rfl
theorem cs_L_69 : rl_cs RL 69 yX12_take cX12_take 5 (some FieldType.int) 3 := ⟨Or.inl mw_905, co_X12_take, mw_6, by decide +kernel⟩
theorem mt_472 : (Cond.methodLink "RecordLeavesLaw" (70 : Nat) ({ cls := "RecordLeaves", name := "like", desc := "(II)I" } : MethodName)) ∈ lw_tbl := List.mem_append_right _ (List.mem_append_right _ (List.mem_append_left _ (List.mem_of_getElem? (i := 232) (by decide +kernel))))
theorem mw_472 : (Cond.methodLink "RecordLeavesLaw" (70 : Nat) ({ cls := "RecordLeaves", name := "like", desc := "(II)I" } : MethodName)) ∈ rl_G := rl_inG mt_472 rfl
theorem cs_L_70 : rl_cs RL 70 yX11_like cX11_like 3 (some FieldType.int) 2 := ⟨Or.inl mw_472, co_X11_like, mw_1, by decide +kernel⟩
theorem mt_909 : (Cond.methodLink "RecordLeavesLaw" (73 : Nat) ({ cls := "RecordLeavesModel", name := "like", desc := "(II)I" } : MethodName)) ∈ lw_tbl := List.mem_append_right _ (List.mem_append_right _ (List.mem_append_right _ (List.mem_append_right _ (List.mem_append_left _ (List.mem_of_getElem? (i := 189) (by decide +kernel))))))
theorem mw_909 : (Cond.methodLink "RecordLeavesLaw" (73 : Nat) ({ cls := "RecordLeavesModel", name := "like", desc := "(II)I" } : MethodName)) ∈ rl_G := rl_inG mt_909 rfl
theorem cs_L_73 : rl_cs RL 73 yX12_like cX12_like 7 (some FieldType.int) 2 := ⟨Or.inl mw_909, co_X12_like, mw_6, by decide +kernel⟩
theorem mt_485 : (Cond.methodLink "RecordLeavesLaw" (74 : Nat) ({ cls := "RecordLeaves", name := "write", desc := "(I)I" } : MethodName)) ∈ lw_tbl := List.mem_append_right _ (List.mem_append_right _ (List.mem_append_right _ (List.mem_append_left _ (List.mem_of_getElem? (i := 5) (by decide +kernel)))))
theorem mw_485 : (Cond.methodLink "RecordLeavesLaw" (74 : Nat) ({ cls := "RecordLeaves", name := "write", desc := "(I)I" } : MethodName)) ∈ rl_G := rl_inG mt_485 rfl
theorem cs_L_74 : rl_cs RL 74 yX11_write cX11_write 4 (some FieldType.int) 1 := ⟨Or.inl mw_485, co_X11_write, mw_1, by decide +kernel⟩
theorem mt_925 : (Cond.methodLink "RecordLeavesLaw" (78 : Nat) ({ cls := "RecordLeavesModel", name := "write", desc := "(I)I" } : MethodName)) ∈ lw_tbl := List.mem_append_right _ (List.mem_append_right _ (List.mem_append_right _ (List.mem_append_right _ (List.mem_append_left _ (List.mem_of_getElem? (i := 205) (by decide +kernel))))))
theorem mw_925 : (Cond.methodLink "RecordLeavesLaw" (78 : Nat) ({ cls := "RecordLeavesModel", name := "write", desc := "(I)I" } : MethodName)) ∈ rl_G := rl_inG mt_925 rfl
theorem cs_L_78 : rl_cs RL 78 yX12_write cX12_write 4 (some FieldType.int) 1 := ⟨Or.inl mw_925, co_X12_write, mw_6, by decide +kernel⟩
theorem mt_522 : (Cond.methodLink "RecordLeavesLaw" (79 : Nat) ({ cls := "RecordLeaves", name := "leaf", desc := "(I)J" } : MethodName)) ∈ lw_tbl := List.mem_append_right _ (List.mem_append_right _ (List.mem_append_right _ (List.mem_append_left _ (List.mem_of_getElem? (i := 42) (by decide +kernel)))))
theorem mw_522 : (Cond.methodLink "RecordLeavesLaw" (79 : Nat) ({ cls := "RecordLeaves", name := "leaf", desc := "(I)J" } : MethodName)) ∈ rl_G := rl_inG mt_522 rfl
theorem cs_L_79 : rl_cs RL 79 yX11_leaf cX11_leaf 2 (some FieldType.long) 1 := ⟨Or.inl mw_522, co_X11_leaf, mw_1, by decide +kernel⟩
theorem mt_942 : (Cond.methodLink "RecordLeavesLaw" (83 : Nat) ({ cls := "RecordLeavesModel", name := "leaf", desc := "(I)J" } : MethodName)) ∈ lw_tbl := List.mem_append_right _ (List.mem_append_right _ (List.mem_append_right _ (List.mem_append_right _ (List.mem_append_left _ (List.mem_of_getElem? (i := 222) (by decide +kernel))))))
theorem mw_942 : (Cond.methodLink "RecordLeavesLaw" (83 : Nat) ({ cls := "RecordLeavesModel", name := "leaf", desc := "(I)J" } : MethodName)) ∈ rl_G := rl_inG mt_942 rfl
theorem cs_L_83 : rl_cs RL 83 yX12_leaf cX12_leaf 3 (some FieldType.long) 1 := ⟨Or.inl mw_942, co_X12_leaf, mw_6, by decide +kernel⟩
theorem mt_526 : (Cond.methodLink "RecordLeavesLaw" (84 : Nat) ({ cls := "RecordLeaves", name := "set", desc := "(IJ)I" } : MethodName)) ∈ lw_tbl := List.mem_append_right _ (List.mem_append_right _ (List.mem_append_right _ (List.mem_append_left _ (List.mem_of_getElem? (i := 46) (by decide +kernel)))))
theorem mw_526 : (Cond.methodLink "RecordLeavesLaw" (84 : Nat) ({ cls := "RecordLeaves", name := "set", desc := "(IJ)I" } : MethodName)) ∈ rl_G := rl_inG mt_526 rfl
theorem cs_L_84 : rl_cs RL 84 yX11_set cX11_set 4 (some FieldType.int) 2 := ⟨Or.inl mw_526, co_X11_set, mw_1, by decide +kernel⟩
theorem mt_946 : (Cond.methodLink "RecordLeavesLaw" (88 : Nat) ({ cls := "RecordLeavesModel", name := "set", desc := "(IJ)I" } : MethodName)) ∈ lw_tbl := List.mem_append_right _ (List.mem_append_right _ (List.mem_append_right _ (List.mem_append_right _ (List.mem_append_left _ (List.mem_of_getElem? (i := 226) (by decide +kernel))))))
theorem mw_946 : (Cond.methodLink "RecordLeavesLaw" (88 : Nat) ({ cls := "RecordLeavesModel", name := "set", desc := "(IJ)I" } : MethodName)) ∈ rl_G := rl_inG mt_946 rfl
theorem cs_L_88 : rl_cs RL 88 yX12_set cX12_set 4 (some FieldType.int) 2 := ⟨Or.inl mw_946, co_X12_set, mw_6, by decide +kernel⟩
theorem mt_531 : (Cond.methodLink "RecordLeavesLaw" (89 : Nat) ({ cls := "RecordLeaves", name := "cut", desc := "(I)I" } : MethodName)) ∈ lw_tbl := List.mem_append_right _ (List.mem_append_right _ (List.mem_append_right _ (List.mem_append_left _ (List.mem_of_getElem? (i := 51) (by decide +kernel)))))
theorem mw_531 : (Cond.methodLink "RecordLeavesLaw" (89 : Nat) ({ cls := "RecordLeaves", name := "cut", desc := "(I)I" } : MethodName)) ∈ rl_G := rl_inG mt_531 rfl
theorem cs_L_89 : rl_cs RL 89 yX11_cut cX11_cut 3 (some FieldType.int) 1 := ⟨Or.inl mw_531, co_X11_cut, mw_1, by decide +kernel⟩
theorem mt_950 : (Cond.methodLink "RecordLeavesLaw" (92 : Nat) ({ cls := "RecordLeavesModel", name := "cut", desc := "(I)I" } : MethodName)) ∈ lw_tbl := List.mem_append_right _ (List.mem_append_right _ (List.mem_append_right _ (List.mem_append_right _ (List.mem_append_left _ (List.mem_of_getElem? (i := 230) (by decide +kernel))))))
theorem mw_950 : (Cond.methodLink "RecordLeavesLaw" (92 : Nat) ({ cls := "RecordLeavesModel", name := "cut", desc := "(I)I" } : MethodName)) ∈ rl_G := rl_inG mt_950 rfl
theorem cs_L_92 : rl_cs RL 92 yX12_cut cX12_cut 3 (some FieldType.int) 1 := ⟨Or.inl mw_950, co_X12_cut, mw_6, by decide +kernel⟩
theorem mt_535 : (Cond.methodLink "RecordLeavesLaw" (93 : Nat) ({ cls := "RecordLeaves", name := "read", desc := "(II)I" } : MethodName)) ∈ lw_tbl := List.mem_append_right _ (List.mem_append_right _ (List.mem_append_right _ (List.mem_append_left _ (List.mem_of_getElem? (i := 55) (by decide +kernel)))))
theorem mw_535 : (Cond.methodLink "RecordLeavesLaw" (93 : Nat) ({ cls := "RecordLeaves", name := "read", desc := "(II)I" } : MethodName)) ∈ rl_G := rl_inG mt_535 rfl
theorem cs_L_93 : rl_cs RL 93 yX11_read cX11_read 5 (some FieldType.int) 2 := ⟨Or.inl mw_535, co_X11_read, mw_1, by decide +kernel⟩
theorem mt_954 : (Cond.methodLink "RecordLeavesLaw" (96 : Nat) ({ cls := "RecordLeavesModel", name := "read", desc := "(II)I" } : MethodName)) ∈ lw_tbl := List.mem_append_right _ (List.mem_append_right _ (List.mem_append_right _ (List.mem_append_right _ (List.mem_append_left _ (List.mem_of_getElem? (i := 234) (by decide +kernel))))))
theorem mw_954 : (Cond.methodLink "RecordLeavesLaw" (96 : Nat) ({ cls := "RecordLeavesModel", name := "read", desc := "(II)I" } : MethodName)) ∈ rl_G := rl_inG mt_954 rfl
theorem cs_L_96 : rl_cs RL 96 yX12_read cX12_read 6 (some FieldType.int) 2 := ⟨Or.inl mw_954, co_X12_read, mw_6, by decide +kernel⟩
theorem mt_624 : (Cond.methodLink "RecordLeavesLaw" (97 : Nat) ({ cls := "RecordLeaves", name := "cause", desc := "(I)I" } : MethodName)) ∈ lw_tbl := List.mem_append_right _ (List.mem_append_right _ (List.mem_append_right _ (List.mem_append_left _ (List.mem_of_getElem? (i := 144) (by decide +kernel)))))
theorem mw_624 : (Cond.methodLink "RecordLeavesLaw" (97 : Nat) ({ cls := "RecordLeaves", name := "cause", desc := "(I)I" } : MethodName)) ∈ rl_G := rl_inG mt_624 rfl
theorem cs_L_97 : rl_cs RL 97 yX11_cause cX11_cause 2 (some FieldType.int) 1 := ⟨Or.inl mw_624, co_X11_cause, mw_1, by decide +kernel⟩
theorem mt_982 : (Cond.methodLink "RecordLeavesLaw" (100 : Nat) ({ cls := "RecordLeavesModel", name := "cause", desc := "(I)I" } : MethodName)) ∈ lw_tbl := List.mem_append_right _ (List.mem_append_right _ (List.mem_append_right _ (List.mem_append_right _ (List.mem_append_right _ (List.mem_of_getElem? (i := 22) (by decide +kernel))))))
theorem mw_982 : (Cond.methodLink "RecordLeavesLaw" (100 : Nat) ({ cls := "RecordLeavesModel", name := "cause", desc := "(I)I" } : MethodName)) ∈ rl_G := rl_inG mt_982 rfl
theorem cs_L_100 : rl_cs RL 100 yX12_cause cX12_cause 2 (some FieldType.int) 1 := ⟨Or.inl mw_982, co_X12_cause, mw_6, by decide +kernel⟩
theorem mt_628 : (Cond.methodLink "RecordLeavesLaw" (101 : Nat) ({ cls := "RecordLeaves", name := "status", desc := "()I" } : MethodName)) ∈ lw_tbl := List.mem_append_right _ (List.mem_append_right _ (List.mem_append_right _ (List.mem_append_left _ (List.mem_of_getElem? (i := 148) (by decide +kernel)))))
theorem mw_628 : (Cond.methodLink "RecordLeavesLaw" (101 : Nat) ({ cls := "RecordLeaves", name := "status", desc := "()I" } : MethodName)) ∈ rl_G := rl_inG mt_628 rfl
theorem cs_L_101 : rl_cs RL 101 yX11_status cX11_status 1 (some FieldType.int) 0 := ⟨Or.inl mw_628, co_X11_status, mw_1, by decide +kernel⟩
theorem mt_986 : (Cond.methodLink "RecordLeavesLaw" (105 : Nat) ({ cls := "RecordLeavesModel", name := "status", desc := "()I" } : MethodName)) ∈ lw_tbl := List.mem_append_right _ (List.mem_append_right _ (List.mem_append_right _ (List.mem_append_right _ (List.mem_append_right _ (List.mem_of_getElem? (i := 26) (by decide +kernel))))))
theorem mw_986 : (Cond.methodLink "RecordLeavesLaw" (105 : Nat) ({ cls := "RecordLeavesModel", name := "status", desc := "()I" } : MethodName)) ∈ rl_G := rl_inG mt_986 rfl
theorem cs_L_105 : rl_cs RL 105 yX12_status cX12_status 1 (some FieldType.int) 0 := ⟨Or.inl mw_986, co_X12_status, mw_6, by decide +kernel⟩
theorem mt_632 : (Cond.methodLink "RecordLeavesLaw" (106 : Nat) ({ cls := "RecordLeaves", name := "count", desc := "(I)I" } : MethodName)) ∈ lw_tbl := List.mem_append_right _ (List.mem_append_right _ (List.mem_append_right _ (List.mem_append_left _ (List.mem_of_getElem? (i := 152) (by decide +kernel)))))
theorem mw_632 : (Cond.methodLink "RecordLeavesLaw" (106 : Nat) ({ cls := "RecordLeaves", name := "count", desc := "(I)I" } : MethodName)) ∈ rl_G := rl_inG mt_632 rfl
theorem cs_L_106 : rl_cs RL 106 yX11_count cX11_count 2 (some FieldType.int) 1 := ⟨Or.inl mw_632, co_X11_count, mw_1, by decide +kernel⟩
theorem mt_990 : (Cond.methodLink "RecordLeavesLaw" (109 : Nat) ({ cls := "RecordLeavesModel", name := "count", desc := "(I)I" } : MethodName)) ∈ lw_tbl := List.mem_append_right _ (List.mem_append_right _ (List.mem_append_right _ (List.mem_append_right _ (List.mem_append_right _ (List.mem_of_getElem? (i := 30) (by decide +kernel))))))
theorem mw_990 : (Cond.methodLink "RecordLeavesLaw" (109 : Nat) ({ cls := "RecordLeavesModel", name := "count", desc := "(I)I" } : MethodName)) ∈ rl_G := rl_inG mt_990 rfl
theorem cs_L_109 : rl_cs RL 109 yX12_count cX12_count 4 (some FieldType.int) 1 := ⟨Or.inl mw_990, co_X12_count, mw_6, by decide +kernel⟩
theorem mt_645 : (Cond.methodLink "RecordLeavesModel" (1 : Nat) ({ cls := "java/lang/Object", name := "<init>", desc := "()V" } : MethodName)) ∈ lw_tbl := List.mem_append_right _ (List.mem_append_right _ (List.mem_append_right _ (List.mem_append_left _ (List.mem_of_getElem? (i := 165) (by decide +kernel)))))
theorem mw_645 : (Cond.methodLink "RecordLeavesModel" (1 : Nat) ({ cls := "java/lang/Object", name := "<init>", desc := "()V" } : MethodName)) ∈ rl_G := rl_inG mt_645 rfl
theorem mt_802 : (Cond.methodLink "RecordLeavesModel" (117 : Nat) ({ cls := "RecordLeavesModel", name := "in", desc := "(JJJ)Z" } : MethodName)) ∈ lw_tbl := List.mem_append_right _ (List.mem_append_right _ (List.mem_append_right _ (List.mem_append_right _ (List.mem_append_left _ (List.mem_of_getElem? (i := 82) (by decide +kernel))))))
theorem mw_802 : (Cond.methodLink "RecordLeavesModel" (117 : Nat) ({ cls := "RecordLeavesModel", name := "in", desc := "(JJJ)Z" } : MethodName)) ∈ rl_G := rl_inG mt_802 rfl
theorem cs_X12_117 : rl_cs RX12 117 yX12_in cX12_in 6 (some FieldType.boolean) 3 := ⟨Or.inl mw_802, co_X12_in, mw_6, by decide +kernel⟩
theorem mt_805 : (Cond.methodLink "RecordLeavesModel" (125 : Nat) ({ cls := "RecordLeavesModel", name := "isVersion", desc := "(I)Z" } : MethodName)) ∈ lw_tbl := List.mem_append_right _ (List.mem_append_right _ (List.mem_append_right _ (List.mem_append_right _ (List.mem_append_left _ (List.mem_of_getElem? (i := 85) (by decide +kernel))))))
theorem mw_805 : (Cond.methodLink "RecordLeavesModel" (125 : Nat) ({ cls := "RecordLeavesModel", name := "isVersion", desc := "(I)Z" } : MethodName)) ∈ rl_G := rl_inG mt_805 rfl
theorem cs_X12_125 : rl_cs RX12 125 yX12_isVersion cX12_isVersion 1 (some FieldType.boolean) 1 := ⟨Or.inl mw_805, co_X12_isVersion, mw_6, by decide +kernel⟩
theorem mt_810 : (Cond.methodLink "RecordLeavesModel" (129 : Nat) ({ cls := "RecordLeavesModel", name := "constantBy", desc := "(IIJ)I" } : MethodName)) ∈ lw_tbl := List.mem_append_right _ (List.mem_append_right _ (List.mem_append_right _ (List.mem_append_right _ (List.mem_append_left _ (List.mem_of_getElem? (i := 90) (by decide +kernel))))))
theorem mw_810 : (Cond.methodLink "RecordLeavesModel" (129 : Nat) ({ cls := "RecordLeavesModel", name := "constantBy", desc := "(IIJ)I" } : MethodName)) ∈ rl_G := rl_inG mt_810 rfl
theorem cs_X12_129 : rl_cs RX12 129 yX12_constantBy cX12_constantBy 7 (some FieldType.int) 3 := ⟨Or.inl mw_810, co_X12_constantBy, mw_6, by decide +kernel⟩
theorem mt_818 : (Cond.methodLink "RecordLeavesModel" (133 : Nat) ({ cls := "RecordLeavesModel", name := "isRecordKind", desc := "(J)Z" } : MethodName)) ∈ lw_tbl := List.mem_append_right _ (List.mem_append_right _ (List.mem_append_right _ (List.mem_append_right _ (List.mem_append_left _ (List.mem_of_getElem? (i := 98) (by decide +kernel))))))
theorem mw_818 : (Cond.methodLink "RecordLeavesModel" (133 : Nat) ({ cls := "RecordLeavesModel", name := "isRecordKind", desc := "(J)Z" } : MethodName)) ∈ rl_G := rl_inG mt_818 rfl
theorem cs_X12_133 : rl_cs RX12 133 yX12_isRecordKind cX12_isRecordKind 2 (some FieldType.boolean) 1 := ⟨Or.inl mw_818, co_X12_isRecordKind, mw_6, by decide +kernel⟩
theorem mt_823 : (Cond.methodLink "RecordLeavesModel" (139 : Nat) ({ cls := "RecordLeavesModel", name := "partBy", desc := "(IJ)I" } : MethodName)) ∈ lw_tbl := List.mem_append_right _ (List.mem_append_right _ (List.mem_append_right _ (List.mem_append_right _ (List.mem_append_left _ (List.mem_of_getElem? (i := 103) (by decide +kernel))))))
theorem mw_823 : (Cond.methodLink "RecordLeavesModel" (139 : Nat) ({ cls := "RecordLeavesModel", name := "partBy", desc := "(IJ)I" } : MethodName)) ∈ rl_G := rl_inG mt_823 rfl
theorem cs_X12_139 : rl_cs RX12 139 yX12_partBy cX12_partBy 5 (some FieldType.int) 2 := ⟨Or.inl mw_823, co_X12_partBy, mw_6, by decide +kernel⟩
theorem mt_831 : (Cond.methodLink "RecordLeavesModel" (143 : Nat) ({ cls := "RecordLeavesModel", name := "isSort", desc := "(III)Z" } : MethodName)) ∈ lw_tbl := List.mem_append_right _ (List.mem_append_right _ (List.mem_append_right _ (List.mem_append_right _ (List.mem_append_left _ (List.mem_of_getElem? (i := 111) (by decide +kernel))))))
theorem mw_831 : (Cond.methodLink "RecordLeavesModel" (143 : Nat) ({ cls := "RecordLeavesModel", name := "isSort", desc := "(III)Z" } : MethodName)) ∈ rl_G := rl_inG mt_831 rfl
theorem cs_X12_143 : rl_cs RX12 143 yX12_isSort cX12_isSort 4 (some FieldType.boolean) 3 := ⟨Or.inl mw_831, co_X12_isSort, mw_6, by decide +kernel⟩
theorem mt_839 : (Cond.methodLink "RecordLeavesModel" (148 : Nat) ({ cls := "RecordLeavesModel", name := "isPlace", desc := "(I)Z" } : MethodName)) ∈ lw_tbl := List.mem_append_right _ (List.mem_append_right _ (List.mem_append_right _ (List.mem_append_right _ (List.mem_append_left _ (List.mem_of_getElem? (i := 119) (by decide +kernel))))))
theorem mw_839 : (Cond.methodLink "RecordLeavesModel" (148 : Nat) ({ cls := "RecordLeavesModel", name := "isPlace", desc := "(I)Z" } : MethodName)) ∈ rl_G := rl_inG mt_839 rfl
theorem cs_X12_148 : rl_cs RX12 148 yX12_isPlace cX12_isPlace 1 (some FieldType.boolean) 1 := ⟨Or.inl mw_839, co_X12_isPlace, mw_6, by decide +kernel⟩
theorem mt_847 : (Cond.methodLink "RecordLeavesModel" (156 : Nat) ({ cls := "RecordLeavesModel", name := "newRow", desc := "(I)I" } : MethodName)) ∈ lw_tbl := List.mem_append_right _ (List.mem_append_right _ (List.mem_append_right _ (List.mem_append_right _ (List.mem_append_left _ (List.mem_of_getElem? (i := 127) (by decide +kernel))))))
theorem mw_847 : (Cond.methodLink "RecordLeavesModel" (156 : Nat) ({ cls := "RecordLeavesModel", name := "newRow", desc := "(I)I" } : MethodName)) ∈ rl_G := rl_inG mt_847 rfl
theorem cs_X12_156 : rl_cs RX12 156 yX12_newRow cX12_newRow 3 (some FieldType.int) 1 := ⟨Or.inl mw_847, co_X12_newRow, mw_6, by decide +kernel⟩
theorem mt_855 : (Cond.methodLink "RecordLeavesModel" (160 : Nat) ({ cls := "RecordLeavesModel", name := "familyOf", desc := "(I)I" } : MethodName)) ∈ lw_tbl := List.mem_append_right _ (List.mem_append_right _ (List.mem_append_right _ (List.mem_append_right _ (List.mem_append_left _ (List.mem_of_getElem? (i := 135) (by decide +kernel))))))
theorem mw_855 : (Cond.methodLink "RecordLeavesModel" (160 : Nat) ({ cls := "RecordLeavesModel", name := "familyOf", desc := "(I)I" } : MethodName)) ∈ rl_G := rl_inG mt_855 rfl
theorem cs_X12_160 : rl_cs RX12 160 yX12_familyOf cX12_familyOf 2 (some FieldType.int) 1 := ⟨Or.inl mw_855, co_X12_familyOf, mw_6, by decide +kernel⟩
theorem mt_876 : (Cond.methodLink "RecordLeavesModel" (169 : Nat) ({ cls := "RecordLeavesModel", name := "taken", desc := "(IIJI)I" } : MethodName)) ∈ lw_tbl := List.mem_append_right _ (List.mem_append_right _ (List.mem_append_right _ (List.mem_append_right _ (List.mem_append_left _ (List.mem_of_getElem? (i := 156) (by decide +kernel))))))
theorem mw_876 : (Cond.methodLink "RecordLeavesModel" (169 : Nat) ({ cls := "RecordLeavesModel", name := "taken", desc := "(IIJI)I" } : MethodName)) ∈ rl_G := rl_inG mt_876 rfl
theorem cs_X12_169 : rl_cs RX12 169 yX12_taken cX12_taken 10 (some FieldType.int) 4 := ⟨Or.inl mw_876, co_X12_taken, mw_6, by decide +kernel⟩
theorem mt_882 : (Cond.methodLink "RecordLeavesModel" (173 : Nat) ({ cls := "RecordLeavesModel", name := "checked", desc := "(IJIJ)I" } : MethodName)) ∈ lw_tbl := List.mem_append_right _ (List.mem_append_right _ (List.mem_append_right _ (List.mem_append_right _ (List.mem_append_left _ (List.mem_of_getElem? (i := 162) (by decide +kernel))))))
theorem mw_882 : (Cond.methodLink "RecordLeavesModel" (173 : Nat) ({ cls := "RecordLeavesModel", name := "checked", desc := "(IJIJ)I" } : MethodName)) ∈ rl_G := rl_inG mt_882 rfl
theorem cs_X12_173 : rl_cs RX12 173 yX12_checked cX12_checked 8 (some FieldType.int) 4 := ⟨Or.inl mw_882, co_X12_checked, mw_6, by decide +kernel⟩
theorem mt_872 : (Cond.methodLink "RecordLeavesModel" (183 : Nat) ({ cls := "RecordLeavesModel", name := "record", desc := "(II)I" } : MethodName)) ∈ lw_tbl := List.mem_append_right _ (List.mem_append_right _ (List.mem_append_right _ (List.mem_append_right _ (List.mem_append_left _ (List.mem_of_getElem? (i := 152) (by decide +kernel))))))
theorem mw_872 : (Cond.methodLink "RecordLeavesModel" (183 : Nat) ({ cls := "RecordLeavesModel", name := "record", desc := "(II)I" } : MethodName)) ∈ rl_G := rl_inG mt_872 rfl
theorem cs_X12_183 : rl_cs RX12 183 yX12_record cX12_record 7 (some FieldType.int) 2 := ⟨Or.inl mw_872, co_X12_record, mw_6, by decide +kernel⟩
theorem mt_896 : (Cond.methodLink "RecordLeavesModel" (195 : Nat) ({ cls := "RecordLeavesModel", name := "partAt", desc := "(II)I" } : MethodName)) ∈ lw_tbl := List.mem_append_right _ (List.mem_append_right _ (List.mem_append_right _ (List.mem_append_right _ (List.mem_append_left _ (List.mem_of_getElem? (i := 176) (by decide +kernel))))))
theorem mw_896 : (Cond.methodLink "RecordLeavesModel" (195 : Nat) ({ cls := "RecordLeavesModel", name := "partAt", desc := "(II)I" } : MethodName)) ∈ rl_G := rl_inG mt_896 rfl
theorem cs_X12_195 : rl_cs RX12 195 yX12_partAt cX12_partAt 4 (some FieldType.int) 2 := ⟨Or.inl mw_896, co_X12_partAt, mw_6, by decide +kernel⟩
theorem mt_900 : (Cond.methodLink "RecordLeavesModel" (201 : Nat) ({ cls := "RecordLeavesModel", name := "isNumber", desc := "(I)Z" } : MethodName)) ∈ lw_tbl := List.mem_append_right _ (List.mem_append_right _ (List.mem_append_right _ (List.mem_append_right _ (List.mem_append_left _ (List.mem_of_getElem? (i := 180) (by decide +kernel))))))
theorem mw_900 : (Cond.methodLink "RecordLeavesModel" (201 : Nat) ({ cls := "RecordLeavesModel", name := "isNumber", desc := "(I)Z" } : MethodName)) ∈ rl_G := rl_inG mt_900 rfl
theorem cs_X12_201 : rl_cs RX12 201 yX12_isNumber cX12_isNumber 2 (some FieldType.boolean) 1 := ⟨Or.inl mw_900, co_X12_isNumber, mw_6, by decide +kernel⟩
theorem mt_913 : (Cond.methodLink "RecordLeavesModel" (209 : Nat) ({ cls := "RecordLeavesModel", name := "pair", desc := "(III)V" } : MethodName)) ∈ lw_tbl := List.mem_append_right _ (List.mem_append_right _ (List.mem_append_right _ (List.mem_append_right _ (List.mem_append_left _ (List.mem_of_getElem? (i := 193) (by decide +kernel))))))
theorem mw_913 : (Cond.methodLink "RecordLeavesModel" (209 : Nat) ({ cls := "RecordLeavesModel", name := "pair", desc := "(III)V" } : MethodName)) ∈ rl_G := rl_inG mt_913 rfl
theorem cs_X12_209 : rl_cs RX12 209 yX12_pair cX12_pair 4 none 3 := ⟨Or.inl mw_913, co_X12_pair, mw_6, by decide +kernel⟩
theorem mt_917 : (Cond.methodLink "RecordLeavesModel" (213 : Nat) ({ cls := "RecordLeavesModel", name := "rowsLike", desc := "(II)Z" } : MethodName)) ∈ lw_tbl := List.mem_append_right _ (List.mem_append_right _ (List.mem_append_right _ (List.mem_append_right _ (List.mem_append_left _ (List.mem_of_getElem? (i := 197) (by decide +kernel))))))
theorem mw_917 : (Cond.methodLink "RecordLeavesModel" (213 : Nat) ({ cls := "RecordLeavesModel", name := "rowsLike", desc := "(II)Z" } : MethodName)) ∈ rl_G := rl_inG mt_917 rfl
theorem cs_X12_213 : rl_cs RX12 213 yX12_rowsLike cX12_rowsLike 5 (some FieldType.boolean) 2 := ⟨Or.inl mw_917, co_X12_rowsLike, mw_6, by decide +kernel⟩
theorem mt_921 : (Cond.methodLink "RecordLeavesModel" (217 : Nat) ({ cls := "RecordLeavesModel", name := "opens", desc := "(III)Z" } : MethodName)) ∈ lw_tbl := List.mem_append_right _ (List.mem_append_right _ (List.mem_append_right _ (List.mem_append_right _ (List.mem_append_left _ (List.mem_of_getElem? (i := 201) (by decide +kernel))))))
theorem mw_921 : (Cond.methodLink "RecordLeavesModel" (217 : Nat) ({ cls := "RecordLeavesModel", name := "opens", desc := "(III)Z" } : MethodName)) ∈ rl_G := rl_inG mt_921 rfl
theorem cs_X12_217 : rl_cs RX12 217 yX12_opens cX12_opens 6 (some FieldType.boolean) 3 := ⟨Or.inl mw_921, co_X12_opens, mw_6, by decide +kernel⟩
theorem mt_933 : (Cond.methodLink "RecordLeavesModel" (223 : Nat) ({ cls := "RecordLeavesModel", name := "put", desc := "(J)V" } : MethodName)) ∈ lw_tbl := List.mem_append_right _ (List.mem_append_right _ (List.mem_append_right _ (List.mem_append_right _ (List.mem_append_left _ (List.mem_of_getElem? (i := 213) (by decide +kernel))))))
theorem mw_933 : (Cond.methodLink "RecordLeavesModel" (223 : Nat) ({ cls := "RecordLeavesModel", name := "put", desc := "(J)V" } : MethodName)) ∈ rl_G := rl_inG mt_933 rfl
theorem cs_X12_223 : rl_cs RX12 223 yX12_put cX12_put 3 none 1 := ⟨Or.inl mw_933, co_X12_put, mw_6, by decide +kernel⟩
theorem mt_929 : (Cond.methodLink "RecordLeavesModel" (229 : Nat) ({ cls := "RecordLeavesModel", name := "begins", desc := "(II)I" } : MethodName)) ∈ lw_tbl := List.mem_append_right _ (List.mem_append_right _ (List.mem_append_right _ (List.mem_append_right _ (List.mem_append_left _ (List.mem_of_getElem? (i := 209) (by decide +kernel))))))
theorem mw_929 : (Cond.methodLink "RecordLeavesModel" (229 : Nat) ({ cls := "RecordLeavesModel", name := "begins", desc := "(II)I" } : MethodName)) ∈ rl_G := rl_inG mt_929 rfl
theorem cs_X12_229 : rl_cs RX12 229 yX12_begins cX12_begins 3 (some FieldType.int) 2 := ⟨Or.inl mw_929, co_X12_begins, mw_6, by decide +kernel⟩
theorem mt_937 : (Cond.methodLink "RecordLeavesModel" (232 : Nat) ({ cls := "RecordLeavesModel", name := "writePart", desc := "(I)I" } : MethodName)) ∈ lw_tbl := List.mem_append_right _ (List.mem_append_right _ (List.mem_append_right _ (List.mem_append_right _ (List.mem_append_left _ (List.mem_of_getElem? (i := 217) (by decide +kernel))))))
theorem mw_937 : (Cond.methodLink "RecordLeavesModel" (232 : Nat) ({ cls := "RecordLeavesModel", name := "writePart", desc := "(I)I" } : MethodName)) ∈ rl_G := rl_inG mt_937 rfl
theorem cs_X12_232 : rl_cs RX12 232 yX12_writePart cX12_writePart 7 (some FieldType.int) 1 := ⟨Or.inl mw_937, co_X12_writePart, mw_6, by decide +kernel⟩
theorem mt_962 : (Cond.methodLink "RecordLeavesModel" (247 : Nat) ({ cls := "RecordLeavesModel", name := "fails", desc := "(I)V" } : MethodName)) ∈ lw_tbl := List.mem_append_right _ (List.mem_append_right _ (List.mem_append_right _ (List.mem_append_right _ (List.mem_append_right _ (List.mem_of_getElem? (i := 2) (by decide +kernel))))))
theorem mw_962 : (Cond.methodLink "RecordLeavesModel" (247 : Nat) ({ cls := "RecordLeavesModel", name := "fails", desc := "(I)V" } : MethodName)) ∈ rl_G := rl_inG mt_962 rfl
theorem cs_X12_247 : rl_cs RX12 247 yX12_fails cX12_fails 2 none 1 := ⟨Or.inl mw_962, co_X12_fails, mw_6, by decide +kernel⟩
theorem mt_966 : (Cond.methodLink "RecordLeavesModel" (254 : Nat) ({ cls := "RecordLeavesModel", name := "want", desc := "()J" } : MethodName)) ∈ lw_tbl := List.mem_append_right _ (List.mem_append_right _ (List.mem_append_right _ (List.mem_append_right _ (List.mem_append_right _ (List.mem_of_getElem? (i := 6) (by decide +kernel))))))
theorem mw_966 : (Cond.methodLink "RecordLeavesModel" (254 : Nat) ({ cls := "RecordLeavesModel", name := "want", desc := "()J" } : MethodName)) ∈ rl_G := rl_inG mt_966 rfl
theorem cs_X12_254 : rl_cs RX12 254 yX12_want cX12_want 1 (some FieldType.long) 0 := ⟨Or.inl mw_966, co_X12_want, mw_6, by decide +kernel⟩
theorem mt_974 : (Cond.methodLink "RecordLeavesModel" (261 : Nat) ({ cls := "RecordLeavesModel", name := "readRow", desc := "(Z)I" } : MethodName)) ∈ lw_tbl := List.mem_append_right _ (List.mem_append_right _ (List.mem_append_right _ (List.mem_append_right _ (List.mem_append_right _ (List.mem_of_getElem? (i := 14) (by decide +kernel))))))
theorem mw_974 : (Cond.methodLink "RecordLeavesModel" (261 : Nat) ({ cls := "RecordLeavesModel", name := "readRow", desc := "(Z)I" } : MethodName)) ∈ rl_G := rl_inG mt_974 rfl
theorem cs_X12_261 : rl_cs RX12 261 yX12_readRow cX12_readRow 7 (some FieldType.int) 1 := ⟨Or.inl mw_974, co_X12_readRow, mw_6, by decide +kernel⟩
theorem mt_958 : (Cond.methodLink "RecordLeavesModel" (265 : Nat) ({ cls := "RecordLeavesModel", name := "beginRecord", desc := "(Z)V" } : MethodName)) ∈ lw_tbl := List.mem_append_right _ (List.mem_append_right _ (List.mem_append_right _ (List.mem_append_right _ (List.mem_append_left _ (List.mem_of_getElem? (i := 238) (by decide +kernel))))))
theorem mw_958 : (Cond.methodLink "RecordLeavesModel" (265 : Nat) ({ cls := "RecordLeavesModel", name := "beginRecord", desc := "(Z)V" } : MethodName)) ∈ rl_G := rl_inG mt_958 rfl
theorem cs_X12_265 : rl_cs RX12 265 yX12_beginRecord cX12_beginRecord 7 none 1 := ⟨Or.inl mw_958, co_X12_beginRecord, mw_6, by decide +kernel⟩
theorem mt_970 : (Cond.methodLink "RecordLeavesModel" (269 : Nat) ({ cls := "RecordLeavesModel", name := "readPart", desc := "()V" } : MethodName)) ∈ lw_tbl := List.mem_append_right _ (List.mem_append_right _ (List.mem_append_right _ (List.mem_append_right _ (List.mem_append_right _ (List.mem_of_getElem? (i := 10) (by decide +kernel))))))
theorem mw_970 : (Cond.methodLink "RecordLeavesModel" (269 : Nat) ({ cls := "RecordLeavesModel", name := "readPart", desc := "()V" } : MethodName)) ∈ rl_G := rl_inG mt_970 rfl
theorem cs_X12_269 : rl_cs RX12 269 yX12_readPart cX12_readPart 12 none 0 := ⟨Or.inl mw_970, co_X12_readPart, mw_6, by decide +kernel⟩
theorem mt_978 : (Cond.methodLink "RecordLeavesModel" (272 : Nat) ({ cls := "RecordLeavesModel", name := "endRecord", desc := "()I" } : MethodName)) ∈ lw_tbl := List.mem_append_right _ (List.mem_append_right _ (List.mem_append_right _ (List.mem_append_right _ (List.mem_append_right _ (List.mem_of_getElem? (i := 18) (by decide +kernel))))))
theorem mw_978 : (Cond.methodLink "RecordLeavesModel" (272 : Nat) ({ cls := "RecordLeavesModel", name := "endRecord", desc := "()I" } : MethodName)) ∈ rl_G := rl_inG mt_978 rfl
theorem cs_X12_272 : rl_cs RX12 272 yX12_endRecord cX12_endRecord 2 (some FieldType.int) 0 := ⟨Or.inl mw_978, co_X12_endRecord, mw_6, by decide +kernel⟩
theorem mt_0 : (Cond.initialized "RecordLeavesLaw") ∈ lw_tbl := List.mem_append_right _ (List.mem_append_left _ (List.mem_of_getElem? (i := 0) (by decide +kernel)))
theorem mw_0 : (Cond.initialized "RecordLeavesLaw") ∈ rl_G := rl_inG mt_0 rfl
theorem mt_12 : (Cond.initialized "java/lang/Math") ∈ lw_tbl := List.mem_append_right _ (List.mem_append_left _ (List.mem_of_getElem? (i := 12) (by decide +kernel)))
theorem mw_12 : (Cond.initialized "java/lang/Math") ∈ rl_G := rl_inG mt_12 rfl
theorem mt_14 : (Cond.initialized "java/lang/System") ∈ lw_tbl := List.mem_append_right _ (List.mem_append_left _ (List.mem_of_getElem? (i := 14) (by decide +kernel)))
theorem mw_14 : (Cond.initialized "java/lang/System") ∈ rl_G := rl_inG mt_14 rfl
theorem mt_22 : (Cond.instanceMethod ({ cls := "java/lang/Object", name := "<init>", desc := "()V" } : MethodName)) ∈ lw_tbl := List.mem_append_right _ (List.mem_append_left _ (List.mem_of_getElem? (i := 22) (by decide +kernel)))
theorem mw_22 : (Cond.instanceMethod ({ cls := "java/lang/Object", name := "<init>", desc := "()V" } : MethodName)) ∈ rl_G := rl_inG mt_22 rfl
theorem mt_23 : (Cond.code ({ cls := "java/lang/Object", name := "<init>", desc := "()V" } : MethodName) object_method_1_code (1 : Nat) (Option.none : Option FieldType)) ∈ lw_tbl := List.mem_append_right _ (List.mem_append_left _ (List.mem_of_getElem? (i := 23) (rfl)))
theorem mw_23 : (Cond.code ({ cls := "java/lang/Object", name := "<init>", desc := "()V" } : MethodName) object_method_1_code (1 : Nat) (Option.none : Option FieldType)) ∈ rl_G := rl_inG mt_23 rfl
theorem mt_31 : (Cond.arrayOver (FieldType.object "RecordLeaves$EnumVersion")) ∈ lw_tbl := List.mem_append_right _ (List.mem_append_left _ (List.mem_of_getElem? (i := 31) (by decide +kernel)))
theorem mt_38 : (Cond.arrayOver (FieldType.object "RecordLeaves$Constant")) ∈ lw_tbl := List.mem_append_right _ (List.mem_append_left _ (List.mem_of_getElem? (i := 38) (by decide +kernel)))
theorem mt_55 : (Cond.arrayOver (FieldType.object "RecordLeaves$RecordVersion")) ∈ lw_tbl := List.mem_append_right _ (List.mem_append_left _ (List.mem_of_getElem? (i := 55) (by decide +kernel)))
theorem mt_62 : (Cond.arrayOver (FieldType.object "RecordLeaves$Part")) ∈ lw_tbl := List.mem_append_right _ (List.mem_append_left _ (List.mem_of_getElem? (i := 62) (by decide +kernel)))
theorem mt_64 : (Cond.arrayOver (FieldType.object "RecordLeaves$Check")) ∈ lw_tbl := List.mem_append_right _ (List.mem_append_left _ (List.mem_of_getElem? (i := 64) (by decide +kernel)))
theorem mt_98 : (Cond.arrayOver (FieldType.object "RecordLeaves$Thing")) ∈ lw_tbl := List.mem_append_right _ (List.mem_append_left _ (List.mem_of_getElem? (i := 98) (by decide +kernel)))
theorem mt_122 : (Cond.arrayClass FieldType.long) ∈ lw_tbl := List.mem_append_right _ (List.mem_append_left _ (List.mem_of_getElem? (i := 122) (by decide +kernel)))
theorem mw_122 : (Cond.arrayClass FieldType.long) ∈ rl_G := rl_inG mt_122 rfl
theorem mt_123 : (Cond.arrayClass FieldType.int) ∈ lw_tbl := List.mem_append_right _ (List.mem_append_left _ (List.mem_of_getElem? (i := 123) (by decide +kernel)))
theorem mw_123 : (Cond.arrayClass FieldType.int) ∈ rl_G := rl_inG mt_123 rfl
theorem mt_214 : (Cond.constantLong "RecordLeaves$Kinds" (31 : Nat) (2 : Int64)) ∈ lw_tbl := List.mem_append_right _ (List.mem_append_left _ (List.mem_of_getElem? (i := 214) (by decide +kernel)))
theorem mw_214 : (Cond.constantLong "RecordLeaves$Kinds" (31 : Nat) (2 : Int64)) ∈ rl_G := rl_inG mt_214 rfl
theorem mt_215 : (Cond.constantLong "RecordLeaves$Kinds" (33 : Nat) (6 : Int64)) ∈ lw_tbl := List.mem_append_right _ (List.mem_append_left _ (List.mem_of_getElem? (i := 215) (by decide +kernel)))
theorem mw_215 : (Cond.constantLong "RecordLeaves$Kinds" (33 : Nat) (6 : Int64)) ∈ rl_G := rl_inG mt_215 rfl
theorem mt_297 : (Cond.static ({ cls := "java/lang/Math", name := "max", desc := "(II)I" } : MethodName)) ∈ lw_tbl := List.mem_append_right _ (List.mem_append_right _ (List.mem_append_left _ (List.mem_of_getElem? (i := 57) (by decide +kernel))))
theorem mw_297 : (Cond.static ({ cls := "java/lang/Math", name := "max", desc := "(II)I" } : MethodName)) ∈ rl_G := rl_inG mt_297 rfl
theorem mt_298 : (Cond.code ({ cls := "java/lang/Math", name := "max", desc := "(II)I" } : MethodName) prog_15_method_65_code (2 : Nat) (Option.some FieldType.int)) ∈ lw_tbl := List.mem_append_right _ (List.mem_append_right _ (List.mem_append_left _ (List.mem_of_getElem? (i := 58) (rfl))))
theorem mw_298 : (Cond.code ({ cls := "java/lang/Math", name := "max", desc := "(II)I" } : MethodName) prog_15_method_65_code (2 : Nat) (Option.some FieldType.int)) ∈ rl_G := rl_inG mt_298 rfl
theorem mt_319 : (Cond.declares ({ cls := "RecordLeaves$Thing", name := "family", desc := "()I" } : MethodName)) ∈ lw_tbl := List.mem_append_right _ (List.mem_append_right _ (List.mem_append_left _ (List.mem_of_getElem? (i := 79) (by decide +kernel))))
theorem mt_320 : (Cond.sameMethod "RecordLeaves$Thing" "RecordLeaves$Thing" "family" "()I") ∈ lw_tbl := List.mem_append_right _ (List.mem_append_right _ (List.mem_append_left _ (List.mem_of_getElem? (i := 80) (by decide +kernel))))
theorem mw_320 : (Cond.sameMethod "RecordLeaves$Thing" "RecordLeaves$Thing" "family" "()I") ∈ rl_G := rl_inG mt_320 rfl
theorem mt_321 : (Cond.selects "RecordLeaves$Constant" ({ cls := "RecordLeaves$Thing", name := "family", desc := "()I" } : MethodName) ({ cls := "RecordLeaves$Constant", name := "family", desc := "()I" } : MethodName)) ∈ lw_tbl := List.mem_append_right _ (List.mem_append_right _ (List.mem_append_left _ (List.mem_of_getElem? (i := 81) (by decide +kernel))))
theorem mw_321 : (Cond.selects "RecordLeaves$Constant" ({ cls := "RecordLeaves$Thing", name := "family", desc := "()I" } : MethodName) ({ cls := "RecordLeaves$Constant", name := "family", desc := "()I" } : MethodName)) ∈ rl_G := rl_inG mt_321 rfl
theorem mt_324 : (Cond.selects "RecordLeaves$RecordThing" ({ cls := "RecordLeaves$Thing", name := "family", desc := "()I" } : MethodName) ({ cls := "RecordLeaves$RecordThing", name := "family", desc := "()I" } : MethodName)) ∈ lw_tbl := List.mem_append_right _ (List.mem_append_right _ (List.mem_append_left _ (List.mem_of_getElem? (i := 84) (by decide +kernel))))
theorem mw_324 : (Cond.selects "RecordLeaves$RecordThing" ({ cls := "RecordLeaves$Thing", name := "family", desc := "()I" } : MethodName) ({ cls := "RecordLeaves$RecordThing", name := "family", desc := "()I" } : MethodName)) ∈ rl_G := rl_inG mt_324 rfl
theorem mt_327 : (Cond.selects "RecordLeaves$Row" ({ cls := "RecordLeaves$Thing", name := "family", desc := "()I" } : MethodName) ({ cls := "RecordLeaves$Row", name := "family", desc := "()I" } : MethodName)) ∈ lw_tbl := List.mem_append_right _ (List.mem_append_right _ (List.mem_append_left _ (List.mem_of_getElem? (i := 87) (by decide +kernel))))
theorem mw_327 : (Cond.selects "RecordLeaves$Row" ({ cls := "RecordLeaves$Thing", name := "family", desc := "()I" } : MethodName) ({ cls := "RecordLeaves$Row", name := "family", desc := "()I" } : MethodName)) ∈ rl_G := rl_inG mt_327 rfl
theorem mt_395 : (Cond.declares ({ cls := "RecordLeaves$Thing", name := "kind", desc := "()I" } : MethodName)) ∈ lw_tbl := List.mem_append_right _ (List.mem_append_right _ (List.mem_append_left _ (List.mem_of_getElem? (i := 155) (by decide +kernel))))
theorem mt_396 : (Cond.sameMethod "RecordLeaves$Thing" "RecordLeaves$Thing" "kind" "()I") ∈ lw_tbl := List.mem_append_right _ (List.mem_append_right _ (List.mem_append_left _ (List.mem_of_getElem? (i := 156) (by decide +kernel))))
theorem mw_396 : (Cond.sameMethod "RecordLeaves$Thing" "RecordLeaves$Thing" "kind" "()I") ∈ rl_G := rl_inG mt_396 rfl
theorem mt_397 : (Cond.selects "RecordLeaves$Constant" ({ cls := "RecordLeaves$Thing", name := "kind", desc := "()I" } : MethodName) ({ cls := "RecordLeaves$Constant", name := "kind", desc := "()I" } : MethodName)) ∈ lw_tbl := List.mem_append_right _ (List.mem_append_right _ (List.mem_append_left _ (List.mem_of_getElem? (i := 157) (by decide +kernel))))
theorem mw_397 : (Cond.selects "RecordLeaves$Constant" ({ cls := "RecordLeaves$Thing", name := "kind", desc := "()I" } : MethodName) ({ cls := "RecordLeaves$Constant", name := "kind", desc := "()I" } : MethodName)) ∈ rl_G := rl_inG mt_397 rfl
theorem mt_400 : (Cond.selects "RecordLeaves$RecordThing" ({ cls := "RecordLeaves$Thing", name := "kind", desc := "()I" } : MethodName) ({ cls := "RecordLeaves$RecordThing", name := "kind", desc := "()I" } : MethodName)) ∈ lw_tbl := List.mem_append_right _ (List.mem_append_right _ (List.mem_append_left _ (List.mem_of_getElem? (i := 160) (by decide +kernel))))
theorem mw_400 : (Cond.selects "RecordLeaves$RecordThing" ({ cls := "RecordLeaves$Thing", name := "kind", desc := "()I" } : MethodName) ({ cls := "RecordLeaves$RecordThing", name := "kind", desc := "()I" } : MethodName)) ∈ rl_G := rl_inG mt_400 rfl
theorem mt_403 : (Cond.selects "RecordLeaves$Row" ({ cls := "RecordLeaves$Thing", name := "kind", desc := "()I" } : MethodName) ({ cls := "RecordLeaves$Row", name := "kind", desc := "()I" } : MethodName)) ∈ lw_tbl := List.mem_append_right _ (List.mem_append_right _ (List.mem_append_left _ (List.mem_of_getElem? (i := 163) (by decide +kernel))))
theorem mw_403 : (Cond.selects "RecordLeaves$Row" ({ cls := "RecordLeaves$Thing", name := "kind", desc := "()I" } : MethodName) ({ cls := "RecordLeaves$Row", name := "kind", desc := "()I" } : MethodName)) ∈ rl_G := rl_inG mt_403 rfl
theorem mt_407 : (Cond.declares ({ cls := "RecordLeaves$Thing", name := "version", desc := "()I" } : MethodName)) ∈ lw_tbl := List.mem_append_right _ (List.mem_append_right _ (List.mem_append_left _ (List.mem_of_getElem? (i := 167) (by decide +kernel))))
theorem mt_408 : (Cond.sameMethod "RecordLeaves$Thing" "RecordLeaves$Thing" "version" "()I") ∈ lw_tbl := List.mem_append_right _ (List.mem_append_right _ (List.mem_append_left _ (List.mem_of_getElem? (i := 168) (by decide +kernel))))
theorem mw_408 : (Cond.sameMethod "RecordLeaves$Thing" "RecordLeaves$Thing" "version" "()I") ∈ rl_G := rl_inG mt_408 rfl
theorem mt_409 : (Cond.selects "RecordLeaves$Constant" ({ cls := "RecordLeaves$Thing", name := "version", desc := "()I" } : MethodName) ({ cls := "RecordLeaves$Constant", name := "version", desc := "()I" } : MethodName)) ∈ lw_tbl := List.mem_append_right _ (List.mem_append_right _ (List.mem_append_left _ (List.mem_of_getElem? (i := 169) (by decide +kernel))))
theorem mw_409 : (Cond.selects "RecordLeaves$Constant" ({ cls := "RecordLeaves$Thing", name := "version", desc := "()I" } : MethodName) ({ cls := "RecordLeaves$Constant", name := "version", desc := "()I" } : MethodName)) ∈ rl_G := rl_inG mt_409 rfl
theorem mt_412 : (Cond.selects "RecordLeaves$RecordThing" ({ cls := "RecordLeaves$Thing", name := "version", desc := "()I" } : MethodName) ({ cls := "RecordLeaves$RecordThing", name := "version", desc := "()I" } : MethodName)) ∈ lw_tbl := List.mem_append_right _ (List.mem_append_right _ (List.mem_append_left _ (List.mem_of_getElem? (i := 172) (by decide +kernel))))
theorem mw_412 : (Cond.selects "RecordLeaves$RecordThing" ({ cls := "RecordLeaves$Thing", name := "version", desc := "()I" } : MethodName) ({ cls := "RecordLeaves$RecordThing", name := "version", desc := "()I" } : MethodName)) ∈ rl_G := rl_inG mt_412 rfl
theorem mt_415 : (Cond.selects "RecordLeaves$Row" ({ cls := "RecordLeaves$Thing", name := "version", desc := "()I" } : MethodName) ({ cls := "RecordLeaves$Row", name := "version", desc := "()I" } : MethodName)) ∈ lw_tbl := List.mem_append_right _ (List.mem_append_right _ (List.mem_append_left _ (List.mem_of_getElem? (i := 175) (by decide +kernel))))
theorem mw_415 : (Cond.selects "RecordLeaves$Row" ({ cls := "RecordLeaves$Thing", name := "version", desc := "()I" } : MethodName) ({ cls := "RecordLeaves$Row", name := "version", desc := "()I" } : MethodName)) ∈ rl_G := rl_inG mt_415 rfl
theorem mt_428 : (Cond.constantLong "RecordLeaves$Check" (49 : Nat) (100 : Int64)) ∈ lw_tbl := List.mem_append_right _ (List.mem_append_right _ (List.mem_append_left _ (List.mem_of_getElem? (i := 188) (by decide +kernel))))
theorem mw_428 : (Cond.constantLong "RecordLeaves$Check" (49 : Nat) (100 : Int64)) ∈ rl_G := rl_inG mt_428 rfl
theorem mt_454 : (Cond.declares ({ cls := "RecordLeaves$Thing", name := "extent", desc := "()I" } : MethodName)) ∈ lw_tbl := List.mem_append_right _ (List.mem_append_right _ (List.mem_append_left _ (List.mem_of_getElem? (i := 214) (by decide +kernel))))
theorem mt_455 : (Cond.sameMethod "RecordLeaves$Thing" "RecordLeaves$Thing" "extent" "()I") ∈ lw_tbl := List.mem_append_right _ (List.mem_append_right _ (List.mem_append_left _ (List.mem_of_getElem? (i := 215) (by decide +kernel))))
theorem mw_455 : (Cond.sameMethod "RecordLeaves$Thing" "RecordLeaves$Thing" "extent" "()I") ∈ rl_G := rl_inG mt_455 rfl
theorem mt_456 : (Cond.selects "RecordLeaves$Constant" ({ cls := "RecordLeaves$Thing", name := "extent", desc := "()I" } : MethodName) ({ cls := "RecordLeaves$Constant", name := "extent", desc := "()I" } : MethodName)) ∈ lw_tbl := List.mem_append_right _ (List.mem_append_right _ (List.mem_append_left _ (List.mem_of_getElem? (i := 216) (by decide +kernel))))
theorem mw_456 : (Cond.selects "RecordLeaves$Constant" ({ cls := "RecordLeaves$Thing", name := "extent", desc := "()I" } : MethodName) ({ cls := "RecordLeaves$Constant", name := "extent", desc := "()I" } : MethodName)) ∈ rl_G := rl_inG mt_456 rfl
theorem mt_459 : (Cond.selects "RecordLeaves$RecordThing" ({ cls := "RecordLeaves$Thing", name := "extent", desc := "()I" } : MethodName) ({ cls := "RecordLeaves$RecordThing", name := "extent", desc := "()I" } : MethodName)) ∈ lw_tbl := List.mem_append_right _ (List.mem_append_right _ (List.mem_append_left _ (List.mem_of_getElem? (i := 219) (by decide +kernel))))
theorem mw_459 : (Cond.selects "RecordLeaves$RecordThing" ({ cls := "RecordLeaves$Thing", name := "extent", desc := "()I" } : MethodName) ({ cls := "RecordLeaves$RecordThing", name := "extent", desc := "()I" } : MethodName)) ∈ rl_G := rl_inG mt_459 rfl
theorem mt_460 : (Cond.selects "RecordLeaves$Row" ({ cls := "RecordLeaves$Thing", name := "extent", desc := "()I" } : MethodName) ({ cls := "RecordLeaves$Row", name := "extent", desc := "()I" } : MethodName)) ∈ lw_tbl := List.mem_append_right _ (List.mem_append_right _ (List.mem_append_left _ (List.mem_of_getElem? (i := 220) (by decide +kernel))))
theorem mw_460 : (Cond.selects "RecordLeaves$Row" ({ cls := "RecordLeaves$Thing", name := "extent", desc := "()I" } : MethodName) ({ cls := "RecordLeaves$Row", name := "extent", desc := "()I" } : MethodName)) ∈ rl_G := rl_inG mt_460 rfl
theorem mt_503 : (Cond.static ({ cls := "java/lang/Math", name := "min", desc := "(II)I" } : MethodName)) ∈ lw_tbl := List.mem_append_right _ (List.mem_append_right _ (List.mem_append_right _ (List.mem_append_left _ (List.mem_of_getElem? (i := 23) (by decide +kernel)))))
theorem mw_503 : (Cond.static ({ cls := "java/lang/Math", name := "min", desc := "(II)I" } : MethodName)) ∈ rl_G := rl_inG mt_503 rfl
theorem mt_504 : (Cond.code ({ cls := "java/lang/Math", name := "min", desc := "(II)I" } : MethodName) prog_15_method_69_code (2 : Nat) (Option.some FieldType.int)) ∈ lw_tbl := List.mem_append_right _ (List.mem_append_right _ (List.mem_append_right _ (List.mem_append_left _ (List.mem_of_getElem? (i := 24) (rfl)))))
theorem mw_504 : (Cond.code ({ cls := "java/lang/Math", name := "min", desc := "(II)I" } : MethodName) prog_15_method_69_code (2 : Nat) (Option.some FieldType.int)) ∈ rl_G := rl_inG mt_504 rfl
theorem mt_518 : (Cond.constantLong "RecordLeaves$Tape" (100 : Nat) (-1 : Int64)) ∈ lw_tbl := List.mem_append_right _ (List.mem_append_right _ (List.mem_append_right _ (List.mem_append_left _ (List.mem_of_getElem? (i := 38) (by decide +kernel)))))
theorem mw_518 : (Cond.constantLong "RecordLeaves$Tape" (100 : Nat) (-1 : Int64)) ∈ rl_G := rl_inG mt_518 rfl
theorem mt_520 : (Cond.static ({ cls := "java/lang/System", name := "arraycopy", desc := "(Ljava/lang/Object;ILjava/lang/Object;II)V" } : MethodName)) ∈ lw_tbl := List.mem_append_right _ (List.mem_append_right _ (List.mem_append_right _ (List.mem_append_left _ (List.mem_of_getElem? (i := 40) (by decide +kernel)))))
theorem mw_520 : (Cond.static ({ cls := "java/lang/System", name := "arraycopy", desc := "(Ljava/lang/Object;ILjava/lang/Object;II)V" } : MethodName)) ∈ rl_G := rl_inG mt_520 rfl
theorem mt_521 : (Cond.native ({ cls := "java/lang/System", name := "arraycopy", desc := "(Ljava/lang/Object;ILjava/lang/Object;II)V" } : MethodName)) ∈ lw_tbl := List.mem_append_right _ (List.mem_append_right _ (List.mem_append_right _ (List.mem_append_left _ (List.mem_of_getElem? (i := 41) (by decide +kernel)))))
theorem mw_521 : (Cond.native ({ cls := "java/lang/System", name := "arraycopy", desc := "(Ljava/lang/Object;ILjava/lang/Object;II)V" } : MethodName)) ∈ rl_G := rl_inG mt_521 rfl
theorem mt_589 : (Cond.constantLong "RecordLeaves$Reader" (63 : Nat) (250 : Int64)) ∈ lw_tbl := List.mem_append_right _ (List.mem_append_right _ (List.mem_append_right _ (List.mem_append_left _ (List.mem_of_getElem? (i := 109) (by decide +kernel)))))
theorem mw_589 : (Cond.constantLong "RecordLeaves$Reader" (63 : Nat) (250 : Int64)) ∈ rl_G := rl_inG mt_589 rfl
theorem mt_591 : (Cond.static ({ cls := "java/lang/Math", name := "min", desc := "(JJ)J" } : MethodName)) ∈ lw_tbl := List.mem_append_right _ (List.mem_append_right _ (List.mem_append_right _ (List.mem_append_left _ (List.mem_of_getElem? (i := 111) (by decide +kernel)))))
theorem mw_591 : (Cond.static ({ cls := "java/lang/Math", name := "min", desc := "(JJ)J" } : MethodName)) ∈ rl_G := rl_inG mt_591 rfl
theorem mt_592 : (Cond.code ({ cls := "java/lang/Math", name := "min", desc := "(JJ)J" } : MethodName) prog_15_method_70_code (4 : Nat) (Option.some FieldType.long)) ∈ lw_tbl := List.mem_append_right _ (List.mem_append_right _ (List.mem_append_right _ (List.mem_append_left _ (List.mem_of_getElem? (i := 112) (rfl)))))
theorem mw_592 : (Cond.code ({ cls := "java/lang/Math", name := "min", desc := "(JJ)J" } : MethodName) prog_15_method_70_code (4 : Nat) (Option.some FieldType.long)) ∈ rl_G := rl_inG mt_592 rfl
theorem mt_597 : (Cond.constantLong "RecordLeaves$Reader" (92 : Nat) (5 : Int64)) ∈ lw_tbl := List.mem_append_right _ (List.mem_append_right _ (List.mem_append_right _ (List.mem_append_left _ (List.mem_of_getElem? (i := 117) (by decide +kernel)))))
theorem mw_597 : (Cond.constantLong "RecordLeaves$Reader" (92 : Nat) (5 : Int64)) ∈ rl_G := rl_inG mt_597 rfl
theorem mt_608 : (Cond.constantLong "RecordLeaves$Reader" (127 : Nat) (-1 : Int64)) ∈ lw_tbl := List.mem_append_right _ (List.mem_append_right _ (List.mem_append_right _ (List.mem_append_left _ (List.mem_of_getElem? (i := 128) (by decide +kernel)))))
theorem mw_608 : (Cond.constantLong "RecordLeaves$Reader" (127 : Nat) (-1 : Int64)) ∈ rl_G := rl_inG mt_608 rfl
theorem mt_615 : (Cond.constantLong "RecordLeaves$Reader" (142 : Nat) (8 : Int64)) ∈ lw_tbl := List.mem_append_right _ (List.mem_append_right _ (List.mem_append_right _ (List.mem_append_left _ (List.mem_of_getElem? (i := 135) (by decide +kernel)))))
theorem mw_615 : (Cond.constantLong "RecordLeaves$Reader" (142 : Nat) (8 : Int64)) ∈ rl_G := rl_inG mt_615 rfl
theorem mt_646 : (Cond.constant "RecordLeavesModel" (44 : Nat) (43100 : Int32)) ∈ lw_tbl := List.mem_append_right _ (List.mem_append_right _ (List.mem_append_right _ (List.mem_append_left _ (List.mem_of_getElem? (i := 166) (by decide +kernel)))))
theorem mw_646 : (Cond.constant "RecordLeavesModel" (44 : Nat) (43100 : Int32)) ∈ rl_G := rl_inG mt_646 rfl
theorem mt_647 : (Cond.constant "RecordLeavesModel" (48 : Nat) (344800 : Int32)) ∈ lw_tbl := List.mem_append_right _ (List.mem_append_right _ (List.mem_append_right _ (List.mem_append_left _ (List.mem_of_getElem? (i := 167) (by decide +kernel)))))
theorem mw_647 : (Cond.constant "RecordLeavesModel" (48 : Nat) (344800 : Int32)) ∈ rl_G := rl_inG mt_647 rfl
theorem mt_648 : (Cond.constant "RecordLeavesModel" (58 : Nat) (131000 : Int32)) ∈ lw_tbl := List.mem_append_right _ (List.mem_append_right _ (List.mem_append_right _ (List.mem_append_left _ (List.mem_of_getElem? (i := 168) (by decide +kernel)))))
theorem mw_648 : (Cond.constant "RecordLeavesModel" (58 : Nat) (131000 : Int32)) ∈ rl_G := rl_inG mt_648 rfl
theorem mt_797 : (Cond.arrayClass FieldType.boolean) ∈ lw_tbl := List.mem_append_right _ (List.mem_append_right _ (List.mem_append_right _ (List.mem_append_right _ (List.mem_append_left _ (List.mem_of_getElem? (i := 77) (by decide +kernel))))))
theorem mw_797 : (Cond.arrayClass FieldType.boolean) ∈ rl_G := rl_inG mt_797 rfl
theorem mt_808 : (Cond.constantLong "RecordLeavesModel" (121 : Nat) (2 : Int64)) ∈ lw_tbl := List.mem_append_right _ (List.mem_append_right _ (List.mem_append_right _ (List.mem_append_right _ (List.mem_append_left _ (List.mem_of_getElem? (i := 88) (by decide +kernel))))))
theorem mw_808 : (Cond.constantLong "RecordLeavesModel" (121 : Nat) (2 : Int64)) ∈ rl_G := rl_inG mt_808 rfl
theorem mt_809 : (Cond.constantLong "RecordLeavesModel" (115 : Nat) (9 : Int64)) ∈ lw_tbl := List.mem_append_right _ (List.mem_append_right _ (List.mem_append_right _ (List.mem_append_right _ (List.mem_append_left _ (List.mem_of_getElem? (i := 89) (by decide +kernel))))))
theorem mw_809 : (Cond.constantLong "RecordLeavesModel" (115 : Nat) (9 : Int64)) ∈ rl_G := rl_inG mt_809 rfl
theorem mt_821 : (Cond.constantLong "RecordLeavesModel" (123 : Nat) (5 : Int64)) ∈ lw_tbl := List.mem_append_right _ (List.mem_append_right _ (List.mem_append_right _ (List.mem_append_right _ (List.mem_append_left _ (List.mem_of_getElem? (i := 101) (by decide +kernel))))))
theorem mw_821 : (Cond.constantLong "RecordLeavesModel" (123 : Nat) (5 : Int64)) ∈ rl_G := rl_inG mt_821 rfl
theorem mt_822 : (Cond.constantLong "RecordLeavesModel" (137 : Nat) (4 : Int64)) ∈ lw_tbl := List.mem_append_right _ (List.mem_append_right _ (List.mem_append_right _ (List.mem_append_right _ (List.mem_append_left _ (List.mem_of_getElem? (i := 102) (by decide +kernel))))))
theorem mw_822 : (Cond.constantLong "RecordLeavesModel" (137 : Nat) (4 : Int64)) ∈ rl_G := rl_inG mt_822 rfl
theorem mt_846 : (Cond.constantLong "RecordLeavesModel" (154 : Nat) (8 : Int64)) ∈ lw_tbl := List.mem_append_right _ (List.mem_append_right _ (List.mem_append_right _ (List.mem_append_right _ (List.mem_append_left _ (List.mem_of_getElem? (i := 126) (by decide +kernel))))))
theorem mw_846 : (Cond.constantLong "RecordLeavesModel" (154 : Nat) (8 : Int64)) ∈ rl_G := rl_inG mt_846 rfl
theorem mt_859 : (Cond.constant "RecordLeavesModel" (147 : Nat) (1000000 : Int32)) ∈ lw_tbl := List.mem_append_right _ (List.mem_append_right _ (List.mem_append_right _ (List.mem_append_right _ (List.mem_append_left _ (List.mem_of_getElem? (i := 139) (by decide +kernel))))))
theorem mw_859 : (Cond.constant "RecordLeavesModel" (147 : Nat) (1000000 : Int32)) ∈ rl_G := rl_inG mt_859 rfl
theorem mt_880 : (Cond.constantLong "RecordLeavesModel" (163 : Nat) (-2147483648 : Int64)) ∈ lw_tbl := List.mem_append_right _ (List.mem_append_right _ (List.mem_append_right _ (List.mem_append_right _ (List.mem_append_left _ (List.mem_of_getElem? (i := 160) (by decide +kernel))))))
theorem mw_880 : (Cond.constantLong "RecordLeavesModel" (163 : Nat) (-2147483648 : Int64)) ∈ rl_G := rl_inG mt_880 rfl
theorem mt_881 : (Cond.constantLong "RecordLeavesModel" (165 : Nat) (2147483647 : Int64)) ∈ lw_tbl := List.mem_append_right _ (List.mem_append_right _ (List.mem_append_right _ (List.mem_append_right _ (List.mem_append_left _ (List.mem_of_getElem? (i := 161) (by decide +kernel))))))
theorem mw_881 : (Cond.constantLong "RecordLeavesModel" (165 : Nat) (2147483647 : Int64)) ∈ rl_G := rl_inG mt_881 rfl
theorem mt_886 : (Cond.constantLong "RecordLeavesModel" (167 : Nat) (100 : Int64)) ∈ lw_tbl := List.mem_append_right _ (List.mem_append_right _ (List.mem_append_right _ (List.mem_append_right _ (List.mem_append_left _ (List.mem_of_getElem? (i := 166) (by decide +kernel))))))
theorem mw_886 : (Cond.constantLong "RecordLeavesModel" (167 : Nat) (100 : Int64)) ∈ rl_G := rl_inG mt_886 rfl
theorem mt_891 : (Cond.constantLong "RecordLeavesModel" (193 : Nat) (3 : Int64)) ∈ lw_tbl := List.mem_append_right _ (List.mem_append_right _ (List.mem_append_right _ (List.mem_append_right _ (List.mem_append_left _ (List.mem_of_getElem? (i := 171) (by decide +kernel))))))
theorem mw_891 : (Cond.constantLong "RecordLeavesModel" (193 : Nat) (3 : Int64)) ∈ rl_G := rl_inG mt_891 rfl
theorem mt_904 : (Cond.constantLong "RecordLeavesModel" (204 : Nat) (10 : Int64)) ∈ lw_tbl := List.mem_append_right _ (List.mem_append_right _ (List.mem_append_right _ (List.mem_append_right _ (List.mem_append_left _ (List.mem_of_getElem? (i := 184) (by decide +kernel))))))
theorem mw_904 : (Cond.constantLong "RecordLeavesModel" (204 : Nat) (10 : Int64)) ∈ rl_G := rl_inG mt_904 rfl
theorem mt_941 : (Cond.constantLong "RecordLeavesModel" (227 : Nat) (-1 : Int64)) ∈ lw_tbl := List.mem_append_right _ (List.mem_append_right _ (List.mem_append_right _ (List.mem_append_right _ (List.mem_append_left _ (List.mem_of_getElem? (i := 221) (by decide +kernel))))))
theorem mw_941 : (Cond.constantLong "RecordLeavesModel" (227 : Nat) (-1 : Int64)) ∈ rl_G := rl_inG mt_941 rfl
theorem mt_994 : (Cond.constantLong "RecordLeavesLaw" (46 : Nat) (4294967295 : Int64)) ∈ lw_tbl := List.mem_append_right _ (List.mem_append_right _ (List.mem_append_right _ (List.mem_append_right _ (List.mem_append_right _ (List.mem_of_getElem? (i := 34) (by decide +kernel))))))
theorem mw_994 : (Cond.constantLong "RecordLeavesLaw" (46 : Nat) (4294967295 : Int64)) ∈ rl_G := rl_inG mt_994 rfl
theorem mt_996 : (Cond.castable "RecordLeaves$Row" "RecordLeaves$Row") ∈ lw_tbl := List.mem_append_right _ (List.mem_append_right _ (List.mem_append_right _ (List.mem_append_right _ (List.mem_append_right _ (List.mem_of_getElem? (i := 36) (by decide +kernel))))))
theorem mt_997 : (Cond.castable "RecordLeaves$Constant" "RecordLeaves$Constant") ∈ lw_tbl := List.mem_append_right _ (List.mem_append_right _ (List.mem_append_right _ (List.mem_append_right _ (List.mem_append_right _ (List.mem_of_getElem? (i := 37) (by decide +kernel))))))
theorem mt_998 : (Cond.castable "RecordLeaves$RecordThing" "RecordLeaves$RecordThing") ∈ lw_tbl := List.mem_append_right _ (List.mem_append_right _ (List.mem_append_right _ (List.mem_append_right _ (List.mem_append_right _ (List.mem_of_getElem? (i := 38) (by decide +kernel))))))
theorem mt_999 : (Cond.castable "RecordLeaves$Constant" "RecordLeaves$Thing") ∈ lw_tbl := List.mem_append_right _ (List.mem_append_right _ (List.mem_append_right _ (List.mem_append_right _ (List.mem_append_right _ (List.mem_of_getElem? (i := 39) (by decide +kernel))))))
theorem mt_1000 : (Cond.castable "RecordLeaves$RecordThing" "RecordLeaves$Thing") ∈ lw_tbl := List.mem_append_right _ (List.mem_append_right _ (List.mem_append_right _ (List.mem_append_right _ (List.mem_append_right _ (List.mem_of_getElem? (i := 40) (by decide +kernel))))))
theorem mt_1001 : (Cond.castable "RecordLeaves$Row" "RecordLeaves$Thing") ∈ lw_tbl := List.mem_append_right _ (List.mem_append_right _ (List.mem_append_right _ (List.mem_append_right _ (List.mem_append_right _ (List.mem_of_getElem? (i := 41) (by decide +kernel))))))
end
section
theorem dX0_init_0 : decode cX0_init 0 = .ok (.aload_n 0, 1) := by decide +kernel
theorem dX0_init_1 : decode cX0_init 1 = .ok (.invokespecial 3, 3) := by decide +kernel
theorem dX0_init_4 : decode cX0_init 4 = .ok (.aload_n 0, 1) := by decide +kernel
theorem dX0_init_5 : decode cX0_init 5 = .ok (.iload_n 1, 1) := by decide +kernel
theorem dX0_init_6 : decode cX0_init 6 = .ok (.putfield 9, 3) := by decide +kernel
theorem dX0_init_9 : decode cX0_init 9 = .ok (.aload_n 0, 1) := by decide +kernel
theorem dX0_init_10 : decode cX0_init 10 = .ok (.iload_n 2, 1) := by decide +kernel
theorem dX0_init_11 : decode cX0_init 11 = .ok (.putfield 15, 3) := by decide +kernel
theorem dX0_init_14 : decode cX0_init 14 = .ok (.aload_n 0, 1) := by decide +kernel
theorem dX0_init_15 : decode cX0_init 15 = .ok (.iload_n 3, 1) := by decide +kernel
theorem dX0_init_16 : decode cX0_init 16 = .ok (.putfield 18, 3) := by decide +kernel
theorem dX0_init_19 : decode cX0_init 19 = .ok (.return_, 1) := by decide +kernel
theorem dX0_whyNotPassed_0 : decode cX0_whyNotPassed 0 = .ok (.aload_n 0, 1) := by decide +kernel
theorem dX0_whyNotPassed_1 : decode cX0_whyNotPassed 1 = .ok (.getfield 9, 3) := by decide +kernel
theorem dX0_whyNotPassed_4 : decode cX0_whyNotPassed 4 = .ok (.tableswitch 120 0 3 #[32, 63, 76, 98], 32) := by decide +kernel
theorem dX0_whyNotPassed_36 : decode cX0_whyNotPassed 36 = .ok (.aload_n 1, 1) := by decide +kernel
theorem dX0_whyNotPassed_37 : decode cX0_whyNotPassed 37 = .ok (.getfield 21, 3) := by decide +kernel
theorem dX0_whyNotPassed_40 : decode cX0_whyNotPassed 40 = .ok (.aload_n 0, 1) := by decide +kernel
theorem dX0_whyNotPassed_41 : decode cX0_whyNotPassed 41 = .ok (.getfield 15, 3) := by decide +kernel
theorem dX0_whyNotPassed_44 : decode cX0_whyNotPassed 44 = .ok (.laload, 1) := by decide +kernel
theorem dX0_whyNotPassed_45 : decode cX0_whyNotPassed 45 = .ok (.aload_n 1, 1) := by decide +kernel
theorem dX0_whyNotPassed_46 : decode cX0_whyNotPassed 46 = .ok (.getfield 21, 3) := by decide +kernel
theorem dX0_whyNotPassed_49 : decode cX0_whyNotPassed 49 = .ok (.aload_n 0, 1) := by decide +kernel
theorem dX0_whyNotPassed_50 : decode cX0_whyNotPassed 50 = .ok (.getfield 18, 3) := by decide +kernel
theorem dX0_whyNotPassed_53 : decode cX0_whyNotPassed 53 = .ok (.laload, 1) := by decide +kernel
theorem dX0_whyNotPassed_54 : decode cX0_whyNotPassed 54 = .ok (.lcmp, 1) := by decide +kernel
theorem dX0_whyNotPassed_55 : decode cX0_whyNotPassed 55 = .ok (.ifCond .gt 7, 3) := by decide +kernel
theorem dX0_whyNotPassed_58 : decode cX0_whyNotPassed 58 = .ok (.iconst 1, 1) := by decide +kernel
theorem dX0_whyNotPassed_59 : decode cX0_whyNotPassed 59 = .ok (.goto 4, 3) := by decide +kernel
theorem dX0_whyNotPassed_62 : decode cX0_whyNotPassed 62 = .ok (.iconst 0, 1) := by decide +kernel
theorem dX0_whyNotPassed_63 : decode cX0_whyNotPassed 63 = .ok (.invokestatic 27, 3) := by decide +kernel
theorem dX0_whyNotPassed_66 : decode cX0_whyNotPassed 66 = .ok (.ireturn, 1) := by decide +kernel
theorem dX0_whyNotPassed_67 : decode cX0_whyNotPassed 67 = .ok (.aload_n 1, 1) := by decide +kernel
theorem dX0_whyNotPassed_68 : decode cX0_whyNotPassed 68 = .ok (.getfield 21, 3) := by decide +kernel
theorem dX0_whyNotPassed_71 : decode cX0_whyNotPassed 71 = .ok (.aload_n 0, 1) := by decide +kernel
theorem dX0_whyNotPassed_72 : decode cX0_whyNotPassed 72 = .ok (.getfield 15, 3) := by decide +kernel
theorem dX0_whyNotPassed_75 : decode cX0_whyNotPassed 75 = .ok (.laload, 1) := by decide +kernel
theorem dX0_whyNotPassed_76 : decode cX0_whyNotPassed 76 = .ok (.invokestatic 31, 3) := by decide +kernel
theorem dX0_whyNotPassed_79 : decode cX0_whyNotPassed 79 = .ok (.ireturn, 1) := by decide +kernel
theorem dX0_whyNotPassed_80 : decode cX0_whyNotPassed 80 = .ok (.aload_n 1, 1) := by decide +kernel
theorem dX0_whyNotPassed_81 : decode cX0_whyNotPassed 81 = .ok (.getfield 35, 3) := by decide +kernel
theorem dX0_whyNotPassed_84 : decode cX0_whyNotPassed 84 = .ok (.aload_n 0, 1) := by decide +kernel
theorem dX0_whyNotPassed_85 : decode cX0_whyNotPassed 85 = .ok (.getfield 15, 3) := by decide +kernel
theorem dX0_whyNotPassed_88 : decode cX0_whyNotPassed 88 = .ok (.aaload, 1) := by decide +kernel
theorem dX0_whyNotPassed_89 : decode cX0_whyNotPassed 89 = .ok (.aload_n 1, 1) := by decide +kernel
theorem dX0_whyNotPassed_90 : decode cX0_whyNotPassed 90 = .ok (.getfield 21, 3) := by decide +kernel
theorem dX0_whyNotPassed_93 : decode cX0_whyNotPassed 93 = .ok (.aload_n 0, 1) := by decide +kernel
theorem dX0_whyNotPassed_94 : decode cX0_whyNotPassed 94 = .ok (.getfield 18, 3) := by decide +kernel
theorem dX0_whyNotPassed_97 : decode cX0_whyNotPassed 97 = .ok (.laload, 1) := by decide +kernel
theorem dX0_whyNotPassed_98 : decode cX0_whyNotPassed 98 = .ok (.invokestatic 39, 3) := by decide +kernel
theorem dX0_whyNotPassed_101 : decode cX0_whyNotPassed 101 = .ok (.ireturn, 1) := by decide +kernel
theorem dX0_whyNotPassed_102 : decode cX0_whyNotPassed 102 = .ok (.aload_n 1, 1) := by decide +kernel
theorem dX0_whyNotPassed_103 : decode cX0_whyNotPassed 103 = .ok (.getfield 35, 3) := by decide +kernel
theorem dX0_whyNotPassed_106 : decode cX0_whyNotPassed 106 = .ok (.aload_n 0, 1) := by decide +kernel
theorem dX0_whyNotPassed_107 : decode cX0_whyNotPassed 107 = .ok (.getfield 15, 3) := by decide +kernel
theorem dX0_whyNotPassed_110 : decode cX0_whyNotPassed 110 = .ok (.aaload, 1) := by decide +kernel
theorem dX0_whyNotPassed_111 : decode cX0_whyNotPassed 111 = .ok (.aload_n 1, 1) := by decide +kernel
theorem dX0_whyNotPassed_112 : decode cX0_whyNotPassed 112 = .ok (.getfield 21, 3) := by decide +kernel
theorem dX0_whyNotPassed_115 : decode cX0_whyNotPassed 115 = .ok (.aload_n 0, 1) := by decide +kernel
theorem dX0_whyNotPassed_116 : decode cX0_whyNotPassed 116 = .ok (.getfield 18, 3) := by decide +kernel
theorem dX0_whyNotPassed_119 : decode cX0_whyNotPassed 119 = .ok (.laload, 1) := by decide +kernel
theorem dX0_whyNotPassed_120 : decode cX0_whyNotPassed 120 = .ok (.invokestatic 43, 3) := by decide +kernel
theorem dX0_whyNotPassed_123 : decode cX0_whyNotPassed 123 = .ok (.ireturn, 1) := by decide +kernel
theorem dX0_whyNotPassed_124 : decode cX0_whyNotPassed 124 = .ok (.aload_n 1, 1) := by decide +kernel
theorem dX0_whyNotPassed_125 : decode cX0_whyNotPassed 125 = .ok (.getfield 35, 3) := by decide +kernel
theorem dX0_whyNotPassed_128 : decode cX0_whyNotPassed 128 = .ok (.aload_n 0, 1) := by decide +kernel
theorem dX0_whyNotPassed_129 : decode cX0_whyNotPassed 129 = .ok (.getfield 15, 3) := by decide +kernel
theorem dX0_whyNotPassed_132 : decode cX0_whyNotPassed 132 = .ok (.aaload, 1) := by decide +kernel
theorem dX0_whyNotPassed_133 : decode cX0_whyNotPassed 133 = .ok (.aload_n 1, 1) := by decide +kernel
theorem dX0_whyNotPassed_134 : decode cX0_whyNotPassed 134 = .ok (.getfield 21, 3) := by decide +kernel
theorem dX0_whyNotPassed_137 : decode cX0_whyNotPassed 137 = .ok (.aload_n 0, 1) := by decide +kernel
theorem dX0_whyNotPassed_138 : decode cX0_whyNotPassed 138 = .ok (.getfield 18, 3) := by decide +kernel
theorem dX0_whyNotPassed_141 : decode cX0_whyNotPassed 141 = .ok (.laload, 1) := by decide +kernel
theorem dX0_whyNotPassed_142 : decode cX0_whyNotPassed 142 = .ok (.invokestatic 46, 3) := by decide +kernel
theorem dX0_whyNotPassed_145 : decode cX0_whyNotPassed 145 = .ok (.ireturn, 1) := by decide +kernel
theorem dX0_ownUnless_0 : decode cX0_ownUnless 0 = .ok (.iload_n 0, 1) := by decide +kernel
theorem dX0_ownUnless_1 : decode cX0_ownUnless 1 = .ok (.ifCond .eq 7, 3) := by decide +kernel
theorem dX0_ownUnless_4 : decode cX0_ownUnless 4 = .ok (.iconst 0, 1) := by decide +kernel
theorem dX0_ownUnless_5 : decode cX0_ownUnless 5 = .ok (.goto 4, 3) := by decide +kernel
theorem dX0_ownUnless_8 : decode cX0_ownUnless 8 = .ok (.iconst 2, 1) := by decide +kernel
theorem dX0_ownUnless_9 : decode cX0_ownUnless 9 = .ok (.ireturn, 1) := by decide +kernel
theorem dX0_whyNotDivisor_0 : decode cX0_whyNotDivisor 0 = .ok (.lload_n 0, 1) := by decide +kernel
theorem dX0_whyNotDivisor_1 : decode cX0_whyNotDivisor 1 = .ok (.lconst 0, 1) := by decide +kernel
theorem dX0_whyNotDivisor_2 : decode cX0_whyNotDivisor 2 = .ok (.lcmp, 1) := by decide +kernel
theorem dX0_whyNotDivisor_3 : decode cX0_whyNotDivisor 3 = .ok (.ifCond .ne 7, 3) := by decide +kernel
theorem dX0_whyNotDivisor_6 : decode cX0_whyNotDivisor 6 = .ok (.iconst 5, 1) := by decide +kernel
theorem dX0_whyNotDivisor_7 : decode cX0_whyNotDivisor 7 = .ok (.goto 21, 3) := by decide +kernel
theorem dX0_whyNotDivisor_10 : decode cX0_whyNotDivisor 10 = .ok (.ldc2_w 49, 3) := by decide +kernel
theorem dX0_whyNotDivisor_13 : decode cX0_whyNotDivisor 13 = .ok (.lload_n 0, 1) := by decide +kernel
theorem dX0_whyNotDivisor_14 : decode cX0_whyNotDivisor 14 = .ok (.lrem, 1) := by decide +kernel
theorem dX0_whyNotDivisor_15 : decode cX0_whyNotDivisor 15 = .ok (.lconst 0, 1) := by decide +kernel
theorem dX0_whyNotDivisor_16 : decode cX0_whyNotDivisor 16 = .ok (.lcmp, 1) := by decide +kernel
theorem dX0_whyNotDivisor_17 : decode cX0_whyNotDivisor 17 = .ok (.ifCond .ne 7, 3) := by decide +kernel
theorem dX0_whyNotDivisor_20 : decode cX0_whyNotDivisor 20 = .ok (.iconst 1, 1) := by decide +kernel
theorem dX0_whyNotDivisor_21 : decode cX0_whyNotDivisor 21 = .ok (.goto 4, 3) := by decide +kernel
theorem dX0_whyNotDivisor_24 : decode cX0_whyNotDivisor 24 = .ok (.iconst 0, 1) := by decide +kernel
theorem dX0_whyNotDivisor_25 : decode cX0_whyNotDivisor 25 = .ok (.invokestatic 27, 3) := by decide +kernel
theorem dX0_whyNotDivisor_28 : decode cX0_whyNotDivisor 28 = .ok (.ireturn, 1) := by decide +kernel
theorem dX0_whyNotItemAbove_0 : decode cX0_whyNotItemAbove 0 = .ok (.aload_n 0, 1) := by decide +kernel
theorem dX0_whyNotItemAbove_1 : decode cX0_whyNotItemAbove 1 = .ok (.instanceof 51, 3) := by decide +kernel
theorem dX0_whyNotItemAbove_4 : decode cX0_whyNotItemAbove 4 = .ok (.ifCond .eq 11, 3) := by decide +kernel
theorem dX0_whyNotItemAbove_7 : decode cX0_whyNotItemAbove 7 = .ok (.aload_n 0, 1) := by decide +kernel
theorem dX0_whyNotItemAbove_8 : decode cX0_whyNotItemAbove 8 = .ok (.checkcast 51, 3) := by decide +kernel
theorem dX0_whyNotItemAbove_11 : decode cX0_whyNotItemAbove 11 = .ok (.astore_n 3, 1) := by decide +kernel
theorem dX0_whyNotItemAbove_12 : decode cX0_whyNotItemAbove 12 = .ok (.goto 5, 3) := by decide +kernel
theorem dX0_whyNotItemAbove_15 : decode cX0_whyNotItemAbove 15 = .ok (.iconst 3, 1) := by decide +kernel
theorem dX0_whyNotItemAbove_16 : decode cX0_whyNotItemAbove 16 = .ok (.ireturn, 1) := by decide +kernel
theorem dX0_whyNotItemAbove_17 : decode cX0_whyNotItemAbove 17 = .ok (.lload_n 1, 1) := by decide +kernel
theorem dX0_whyNotItemAbove_18 : decode cX0_whyNotItemAbove 18 = .ok (.lconst 0, 1) := by decide +kernel
theorem dX0_whyNotItemAbove_19 : decode cX0_whyNotItemAbove 19 = .ok (.lcmp, 1) := by decide +kernel
theorem dX0_whyNotItemAbove_20 : decode cX0_whyNotItemAbove 20 = .ok (.ifCond .lt 14, 3) := by decide +kernel
theorem dX0_whyNotItemAbove_23 : decode cX0_whyNotItemAbove 23 = .ok (.lload_n 1, 1) := by decide +kernel
theorem dX0_whyNotItemAbove_24 : decode cX0_whyNotItemAbove 24 = .ok (.aload_n 3, 1) := by decide +kernel
theorem dX0_whyNotItemAbove_25 : decode cX0_whyNotItemAbove 25 = .ok (.getfield 53, 3) := by decide +kernel
theorem dX0_whyNotItemAbove_28 : decode cX0_whyNotItemAbove 28 = .ok (.arraylength, 1) := by decide +kernel
theorem dX0_whyNotItemAbove_29 : decode cX0_whyNotItemAbove 29 = .ok (.i2l, 1) := by decide +kernel
theorem dX0_whyNotItemAbove_30 : decode cX0_whyNotItemAbove 30 = .ok (.lcmp, 1) := by decide +kernel
theorem dX0_whyNotItemAbove_31 : decode cX0_whyNotItemAbove 31 = .ok (.ifCond .lt 5, 3) := by decide +kernel
theorem dX0_whyNotItemAbove_34 : decode cX0_whyNotItemAbove 34 = .ok (.iconst 4, 1) := by decide +kernel
theorem dX0_whyNotItemAbove_35 : decode cX0_whyNotItemAbove 35 = .ok (.ireturn, 1) := by decide +kernel
theorem dX0_whyNotItemAbove_36 : decode cX0_whyNotItemAbove 36 = .ok (.aload_n 3, 1) := by decide +kernel
theorem dX0_whyNotItemAbove_37 : decode cX0_whyNotItemAbove 37 = .ok (.getfield 53, 3) := by decide +kernel
theorem dX0_whyNotItemAbove_40 : decode cX0_whyNotItemAbove 40 = .ok (.lload_n 1, 1) := by decide +kernel
theorem dX0_whyNotItemAbove_41 : decode cX0_whyNotItemAbove 41 = .ok (.l2i, 1) := by decide +kernel
theorem dX0_whyNotItemAbove_42 : decode cX0_whyNotItemAbove 42 = .ok (.iaload, 1) := by decide +kernel
theorem dX0_whyNotItemAbove_43 : decode cX0_whyNotItemAbove 43 = .ok (.ifCond .le 7, 3) := by decide +kernel
theorem dX0_whyNotItemAbove_46 : decode cX0_whyNotItemAbove 46 = .ok (.iconst 1, 1) := by decide +kernel
theorem dX0_whyNotItemAbove_47 : decode cX0_whyNotItemAbove 47 = .ok (.goto 4, 3) := by decide +kernel
theorem dX0_whyNotItemAbove_50 : decode cX0_whyNotItemAbove 50 = .ok (.iconst 0, 1) := by decide +kernel
theorem dX0_whyNotItemAbove_51 : decode cX0_whyNotItemAbove 51 = .ok (.invokestatic 27, 3) := by decide +kernel
theorem dX0_whyNotItemAbove_54 : decode cX0_whyNotItemAbove 54 = .ok (.ireturn, 1) := by decide +kernel
theorem dX0_whyNotPartIs_0 : decode cX0_whyNotPartIs 0 = .ok (.aload_n 0, 1) := by decide +kernel
theorem dX0_whyNotPartIs_1 : decode cX0_whyNotPartIs 1 = .ok (.instanceof 22, 3) := by decide +kernel
theorem dX0_whyNotPartIs_4 : decode cX0_whyNotPartIs 4 = .ok (.ifCond .eq 11, 3) := by decide +kernel
theorem dX0_whyNotPartIs_7 : decode cX0_whyNotPartIs 7 = .ok (.aload_n 0, 1) := by decide +kernel
theorem dX0_whyNotPartIs_8 : decode cX0_whyNotPartIs 8 = .ok (.checkcast 22, 3) := by decide +kernel
theorem dX0_whyNotPartIs_11 : decode cX0_whyNotPartIs 11 = .ok (.astore_n 3, 1) := by decide +kernel
theorem dX0_whyNotPartIs_12 : decode cX0_whyNotPartIs 12 = .ok (.goto 5, 3) := by decide +kernel
theorem dX0_whyNotPartIs_15 : decode cX0_whyNotPartIs 15 = .ok (.iconst 3, 1) := by decide +kernel
theorem dX0_whyNotPartIs_16 : decode cX0_whyNotPartIs 16 = .ok (.ireturn, 1) := by decide +kernel
theorem dX0_whyNotPartIs_17 : decode cX0_whyNotPartIs 17 = .ok (.aload_n 3, 1) := by decide +kernel
theorem dX0_whyNotPartIs_18 : decode cX0_whyNotPartIs 18 = .ok (.invokevirtual 57, 3) := by decide +kernel
theorem dX0_whyNotPartIs_21 : decode cX0_whyNotPartIs 21 = .ok (.ifCond .ne 5, 3) := by decide +kernel
theorem dX0_whyNotPartIs_24 : decode cX0_whyNotPartIs 24 = .ok (.iconst 4, 1) := by decide +kernel
theorem dX0_whyNotPartIs_25 : decode cX0_whyNotPartIs 25 = .ok (.ireturn, 1) := by decide +kernel
theorem dX0_whyNotPartIs_26 : decode cX0_whyNotPartIs 26 = .ok (.aload_n 3, 1) := by decide +kernel
theorem dX0_whyNotPartIs_27 : decode cX0_whyNotPartIs 27 = .ok (.iconst 0, 1) := by decide +kernel
theorem dX0_whyNotPartIs_28 : decode cX0_whyNotPartIs 28 = .ok (.invokevirtual 61, 3) := by decide +kernel
theorem dX0_whyNotPartIs_31 : decode cX0_whyNotPartIs 31 = .ok (.ifCond .eq 25, 3) := by decide +kernel
theorem dX0_whyNotPartIs_34 : decode cX0_whyNotPartIs 34 = .ok (.aload_n 3, 1) := by decide +kernel
theorem dX0_whyNotPartIs_35 : decode cX0_whyNotPartIs 35 = .ok (.getfield 21, 3) := by decide +kernel
theorem dX0_whyNotPartIs_38 : decode cX0_whyNotPartIs 38 = .ok (.iconst 0, 1) := by decide +kernel
theorem dX0_whyNotPartIs_39 : decode cX0_whyNotPartIs 39 = .ok (.laload, 1) := by decide +kernel
theorem dX0_whyNotPartIs_40 : decode cX0_whyNotPartIs 40 = .ok (.lload_n 1, 1) := by decide +kernel
theorem dX0_whyNotPartIs_41 : decode cX0_whyNotPartIs 41 = .ok (.lcmp, 1) := by decide +kernel
theorem dX0_whyNotPartIs_42 : decode cX0_whyNotPartIs 42 = .ok (.ifCond .ne 7, 3) := by decide +kernel
theorem dX0_whyNotPartIs_45 : decode cX0_whyNotPartIs 45 = .ok (.iconst 1, 1) := by decide +kernel
theorem dX0_whyNotPartIs_46 : decode cX0_whyNotPartIs 46 = .ok (.goto 4, 3) := by decide +kernel
theorem dX0_whyNotPartIs_49 : decode cX0_whyNotPartIs 49 = .ok (.iconst 0, 1) := by decide +kernel
theorem dX0_whyNotPartIs_50 : decode cX0_whyNotPartIs 50 = .ok (.invokestatic 27, 3) := by decide +kernel
theorem dX0_whyNotPartIs_53 : decode cX0_whyNotPartIs 53 = .ok (.goto 4, 3) := by decide +kernel
theorem dX0_whyNotPartIs_56 : decode cX0_whyNotPartIs 56 = .ok (.iconst 1, 1) := by decide +kernel
theorem dX0_whyNotPartIs_57 : decode cX0_whyNotPartIs 57 = .ok (.ireturn, 1) := by decide +kernel
theorem dX0_whyNotOrderBelow_0 : decode cX0_whyNotOrderBelow 0 = .ok (.aload_n 0, 1) := by decide +kernel
theorem dX0_whyNotOrderBelow_1 : decode cX0_whyNotOrderBelow 1 = .ok (.instanceof 65, 3) := by decide +kernel
theorem dX0_whyNotOrderBelow_4 : decode cX0_whyNotOrderBelow 4 = .ok (.ifCond .eq 11, 3) := by decide +kernel
theorem dX0_whyNotOrderBelow_7 : decode cX0_whyNotOrderBelow 7 = .ok (.aload_n 0, 1) := by decide +kernel
theorem dX0_whyNotOrderBelow_8 : decode cX0_whyNotOrderBelow 8 = .ok (.checkcast 65, 3) := by decide +kernel
theorem dX0_whyNotOrderBelow_11 : decode cX0_whyNotOrderBelow 11 = .ok (.astore_n 3, 1) := by decide +kernel
theorem dX0_whyNotOrderBelow_12 : decode cX0_whyNotOrderBelow 12 = .ok (.goto 5, 3) := by decide +kernel
theorem dX0_whyNotOrderBelow_15 : decode cX0_whyNotOrderBelow 15 = .ok (.iconst 3, 1) := by decide +kernel
theorem dX0_whyNotOrderBelow_16 : decode cX0_whyNotOrderBelow 16 = .ok (.ireturn, 1) := by decide +kernel
theorem dX0_whyNotOrderBelow_17 : decode cX0_whyNotOrderBelow 17 = .ok (.aload_n 3, 1) := by decide +kernel
theorem dX0_whyNotOrderBelow_18 : decode cX0_whyNotOrderBelow 18 = .ok (.getfield 67, 3) := by decide +kernel
theorem dX0_whyNotOrderBelow_21 : decode cX0_whyNotOrderBelow 21 = .ok (.i2l, 1) := by decide +kernel
theorem dX0_whyNotOrderBelow_22 : decode cX0_whyNotOrderBelow 22 = .ok (.lload_n 1, 1) := by decide +kernel
theorem dX0_whyNotOrderBelow_23 : decode cX0_whyNotOrderBelow 23 = .ok (.lcmp, 1) := by decide +kernel
theorem dX0_whyNotOrderBelow_24 : decode cX0_whyNotOrderBelow 24 = .ok (.ifCond .ge 7, 3) := by decide +kernel
theorem dX0_whyNotOrderBelow_27 : decode cX0_whyNotOrderBelow 27 = .ok (.iconst 1, 1) := by decide +kernel
theorem dX0_whyNotOrderBelow_28 : decode cX0_whyNotOrderBelow 28 = .ok (.goto 4, 3) := by decide +kernel
theorem dX0_whyNotOrderBelow_31 : decode cX0_whyNotOrderBelow 31 = .ok (.iconst 0, 1) := by decide +kernel
theorem dX0_whyNotOrderBelow_32 : decode cX0_whyNotOrderBelow 32 = .ok (.invokestatic 27, 3) := by decide +kernel
theorem dX0_whyNotOrderBelow_35 : decode cX0_whyNotOrderBelow 35 = .ok (.ireturn, 1) := by decide +kernel
theorem dX1_init_0 : decode cX1_init 0 = .ok (.aload_n 0, 1) := by decide +kernel
theorem dX1_init_1 : decode cX1_init 1 = .ok (.invokespecial 3, 3) := by decide +kernel
theorem dX1_init_4 : decode cX1_init 4 = .ok (.aload_n 0, 1) := by decide +kernel
theorem dX1_init_5 : decode cX1_init 5 = .ok (.aload_n 1, 1) := by decide +kernel
theorem dX1_init_6 : decode cX1_init 6 = .ok (.putfield 9, 3) := by decide +kernel
theorem dX1_init_9 : decode cX1_init 9 = .ok (.aload_n 0, 1) := by decide +kernel
theorem dX1_init_10 : decode cX1_init 10 = .ok (.iload_n 2, 1) := by decide +kernel
theorem dX1_init_11 : decode cX1_init 11 = .ok (.putfield 15, 3) := by decide +kernel
theorem dX1_init_14 : decode cX1_init 14 = .ok (.aload_n 0, 1) := by decide +kernel
theorem dX1_init_15 : decode cX1_init 15 = .ok (.iload_n 3, 1) := by decide +kernel
theorem dX1_init_16 : decode cX1_init 16 = .ok (.putfield 19, 3) := by decide +kernel
theorem dX1_init_19 : decode cX1_init 19 = .ok (.aload_n 0, 1) := by decide +kernel
theorem dX1_init_20 : decode cX1_init 20 = .ok (.iload 4, 2) := by decide +kernel
theorem dX1_init_22 : decode cX1_init 22 = .ok (.putfield 22, 3) := by decide +kernel
theorem dX1_init_25 : decode cX1_init 25 = .ok (.return_, 1) := by decide +kernel
theorem dX1_family_0 : decode cX1_family 0 = .ok (.aload_n 0, 1) := by decide +kernel
theorem dX1_family_1 : decode cX1_family 1 = .ok (.getfield 22, 3) := by decide +kernel
theorem dX1_family_4 : decode cX1_family 4 = .ok (.ifCond .eq 7, 3) := by decide +kernel
theorem dX1_family_7 : decode cX1_family 7 = .ok (.iconst 2, 1) := by decide +kernel
theorem dX1_family_8 : decode cX1_family 8 = .ok (.goto 4, 3) := by decide +kernel
theorem dX1_family_11 : decode cX1_family 11 = .ok (.iconst 1, 1) := by decide +kernel
theorem dX1_family_12 : decode cX1_family 12 = .ok (.ireturn, 1) := by decide +kernel
theorem dX1_kind_0 : decode cX1_kind 0 = .ok (.aload_n 0, 1) := by decide +kernel
theorem dX1_kind_1 : decode cX1_kind 1 = .ok (.getfield 9, 3) := by decide +kernel
theorem dX1_kind_4 : decode cX1_kind 4 = .ok (.getfield 26, 3) := by decide +kernel
theorem dX1_kind_7 : decode cX1_kind 7 = .ok (.ireturn, 1) := by decide +kernel
theorem dX1_version_0 : decode cX1_version 0 = .ok (.aload_n 0, 1) := by decide +kernel
theorem dX1_version_1 : decode cX1_version 1 = .ok (.getfield 9, 3) := by decide +kernel
theorem dX1_version_4 : decode cX1_version 4 = .ok (.getfield 31, 3) := by decide +kernel
theorem dX1_version_7 : decode cX1_version 7 = .ok (.ireturn, 1) := by decide +kernel
theorem dX1_extent_0 : decode cX1_extent 0 = .ok (.aload_n 0, 1) := by decide +kernel
theorem dX1_extent_1 : decode cX1_extent 1 = .ok (.getfield 19, 3) := by decide +kernel
theorem dX1_extent_4 : decode cX1_extent 4 = .ok (.ireturn, 1) := by decide +kernel
theorem dX2_init_0 : decode cX2_init 0 = .ok (.aload_n 0, 1) := by decide +kernel
theorem dX2_init_1 : decode cX2_init 1 = .ok (.invokespecial 3, 3) := by decide +kernel
theorem dX2_init_4 : decode cX2_init 4 = .ok (.aload_n 0, 1) := by decide +kernel
theorem dX2_init_5 : decode cX2_init 5 = .ok (.iload_n 1, 1) := by decide +kernel
theorem dX2_init_6 : decode cX2_init 6 = .ok (.putfield 9, 3) := by decide +kernel
theorem dX2_init_9 : decode cX2_init 9 = .ok (.aload_n 0, 1) := by decide +kernel
theorem dX2_init_10 : decode cX2_init 10 = .ok (.iload_n 2, 1) := by decide +kernel
theorem dX2_init_11 : decode cX2_init 11 = .ok (.putfield 15, 3) := by decide +kernel
theorem dX2_init_14 : decode cX2_init 14 = .ok (.aload_n 0, 1) := by decide +kernel
theorem dX2_init_15 : decode cX2_init 15 = .ok (.bipush 10, 2) := by decide +kernel
theorem dX2_init_17 : decode cX2_init 17 = .ok (.anewarray 18, 3) := by decide +kernel
theorem dX2_init_20 : decode cX2_init 20 = .ok (.putfield 20, 3) := by decide +kernel
theorem dX2_init_23 : decode cX2_init 23 = .ok (.return_, 1) := by decide +kernel
theorem dX2_named_0 : decode cX2_named 0 = .ok (.iconst 0, 1) := by decide +kernel
theorem dX2_named_1 : decode cX2_named 1 = .ok (.istore_n 3, 1) := by decide +kernel
theorem dX2_named_2 : decode cX2_named 2 = .ok (.iload_n 3, 1) := by decide +kernel
theorem dX2_named_3 : decode cX2_named 3 = .ok (.aload_n 0, 1) := by decide +kernel
theorem dX2_named_4 : decode cX2_named 4 = .ok (.getfield 24, 3) := by decide +kernel
theorem dX2_named_7 : decode cX2_named 7 = .ok (.if_icmp .ge 31, 3) := by decide +kernel
theorem dX2_named_10 : decode cX2_named 10 = .ok (.aload_n 0, 1) := by decide +kernel
theorem dX2_named_11 : decode cX2_named 11 = .ok (.getfield 20, 3) := by decide +kernel
theorem dX2_named_14 : decode cX2_named 14 = .ok (.iload_n 3, 1) := by decide +kernel
theorem dX2_named_15 : decode cX2_named 15 = .ok (.aaload, 1) := by decide +kernel
theorem dX2_named_16 : decode cX2_named 16 = .ok (.getfield 27, 3) := by decide +kernel
theorem dX2_named_19 : decode cX2_named 19 = .ok (.i2l, 1) := by decide +kernel
theorem dX2_named_20 : decode cX2_named 20 = .ok (.lload_n 1, 1) := by decide +kernel
theorem dX2_named_21 : decode cX2_named 21 = .ok (.lcmp, 1) := by decide +kernel
theorem dX2_named_22 : decode cX2_named 22 = .ok (.ifCond .ne 10, 3) := by decide +kernel
theorem dX2_named_25 : decode cX2_named 25 = .ok (.aload_n 0, 1) := by decide +kernel
theorem dX2_named_26 : decode cX2_named 26 = .ok (.getfield 20, 3) := by decide +kernel
theorem dX2_named_29 : decode cX2_named 29 = .ok (.iload_n 3, 1) := by decide +kernel
theorem dX2_named_30 : decode cX2_named 30 = .ok (.aaload, 1) := by decide +kernel
theorem dX2_named_31 : decode cX2_named 31 = .ok (.areturn, 1) := by decide +kernel
theorem dX2_named_32 : decode cX2_named 32 = .ok (.iinc 3 1, 3) := by decide +kernel
theorem dX2_named_35 : decode cX2_named 35 = .ok (.goto (-33), 3) := by decide +kernel
theorem dX2_named_38 : decode cX2_named 38 = .ok (.aconst_null, 1) := by decide +kernel
theorem dX2_named_39 : decode cX2_named 39 = .ok (.areturn, 1) := by decide +kernel
theorem dX2_add_0 : decode cX2_add 0 = .ok (.aload_n 0, 1) := by decide +kernel
theorem dX2_add_1 : decode cX2_add 1 = .ok (.getfield 24, 3) := by decide +kernel
theorem dX2_add_4 : decode cX2_add 4 = .ok (.bipush 10, 2) := by decide +kernel
theorem dX2_add_6 : decode cX2_add 6 = .ok (.if_icmp .lt 5, 3) := by decide +kernel
theorem dX2_add_9 : decode cX2_add 9 = .ok (.iconst (-1), 1) := by decide +kernel
theorem dX2_add_10 : decode cX2_add 10 = .ok (.ireturn, 1) := by decide +kernel
theorem dX2_add_11 : decode cX2_add 11 = .ok (.aload_n 0, 1) := by decide +kernel
theorem dX2_add_12 : decode cX2_add 12 = .ok (.getfield 20, 3) := by decide +kernel
theorem dX2_add_15 : decode cX2_add 15 = .ok (.aload_n 0, 1) := by decide +kernel
theorem dX2_add_16 : decode cX2_add 16 = .ok (.getfield 24, 3) := by decide +kernel
theorem dX2_add_19 : decode cX2_add 19 = .ok (.new 18, 3) := by decide +kernel
theorem dX2_add_22 : decode cX2_add 22 = .ok (.dup, 1) := by decide +kernel
theorem dX2_add_23 : decode cX2_add 23 = .ok (.aload_n 0, 1) := by decide +kernel
theorem dX2_add_24 : decode cX2_add 24 = .ok (.iload_n 1, 1) := by decide +kernel
theorem dX2_add_25 : decode cX2_add 25 = .ok (.aload_n 0, 1) := by decide +kernel
theorem dX2_add_26 : decode cX2_add 26 = .ok (.getfield 24, 3) := by decide +kernel
theorem dX2_add_29 : decode cX2_add 29 = .ok (.iload_n 2, 1) := by decide +kernel
theorem dX2_add_30 : decode cX2_add 30 = .ok (.invokespecial 30, 3) := by decide +kernel
theorem dX2_add_33 : decode cX2_add 33 = .ok (.aastore, 1) := by decide +kernel
theorem dX2_add_34 : decode cX2_add 34 = .ok (.aload_n 0, 1) := by decide +kernel
theorem dX2_add_35 : decode cX2_add 35 = .ok (.dup, 1) := by decide +kernel
theorem dX2_add_36 : decode cX2_add 36 = .ok (.getfield 24, 3) := by decide +kernel
theorem dX2_add_39 : decode cX2_add 39 = .ok (.iconst 1, 1) := by decide +kernel
theorem dX2_add_40 : decode cX2_add 40 = .ok (.iadd, 1) := by decide +kernel
theorem dX2_add_41 : decode cX2_add 41 = .ok (.putfield 24, 3) := by decide +kernel
theorem dX2_add_44 : decode cX2_add 44 = .ok (.aload_n 0, 1) := by decide +kernel
theorem dX2_add_45 : decode cX2_add 45 = .ok (.getfield 24, 3) := by decide +kernel
theorem dX2_add_48 : decode cX2_add 48 = .ok (.iconst 1, 1) := by decide +kernel
theorem dX2_add_49 : decode cX2_add 49 = .ok (.isub, 1) := by decide +kernel
theorem dX2_add_50 : decode cX2_add 50 = .ok (.ireturn, 1) := by decide +kernel
theorem dX3_init_0 : decode cX3_init 0 = .ok (.aload_n 0, 1) := by decide +kernel
theorem dX3_init_1 : decode cX3_init 1 = .ok (.invokespecial 3, 3) := by decide +kernel
theorem dX3_init_4 : decode cX3_init 4 = .ok (.aload_n 0, 1) := by decide +kernel
theorem dX3_init_5 : decode cX3_init 5 = .ok (.bipush 6, 2) := by decide +kernel
theorem dX3_init_7 : decode cX3_init 7 = .ok (.anewarray 9, 3) := by decide +kernel
theorem dX3_init_10 : decode cX3_init 10 = .ok (.putfield 11, 3) := by decide +kernel
theorem dX3_init_13 : decode cX3_init 13 = .ok (.iconst 0, 1) := by decide +kernel
theorem dX3_init_14 : decode cX3_init 14 = .ok (.istore_n 1, 1) := by decide +kernel
theorem dX3_init_15 : decode cX3_init 15 = .ok (.iload_n 1, 1) := by decide +kernel
theorem dX3_init_16 : decode cX3_init 16 = .ok (.aload_n 0, 1) := by decide +kernel
theorem dX3_init_17 : decode cX3_init 17 = .ok (.getfield 11, 3) := by decide +kernel
theorem dX3_init_20 : decode cX3_init 20 = .ok (.arraylength, 1) := by decide +kernel
theorem dX3_init_21 : decode cX3_init 21 = .ok (.if_icmp .ge 28, 3) := by decide +kernel
theorem dX3_init_24 : decode cX3_init 24 = .ok (.aload_n 0, 1) := by decide +kernel
theorem dX3_init_25 : decode cX3_init 25 = .ok (.getfield 11, 3) := by decide +kernel
theorem dX3_init_28 : decode cX3_init 28 = .ok (.iload_n 1, 1) := by decide +kernel
theorem dX3_init_29 : decode cX3_init 29 = .ok (.new 9, 3) := by decide +kernel
theorem dX3_init_32 : decode cX3_init 32 = .ok (.dup, 1) := by decide +kernel
theorem dX3_init_33 : decode cX3_init 33 = .ok (.iload_n 1, 1) := by decide +kernel
theorem dX3_init_34 : decode cX3_init 34 = .ok (.iconst 3, 1) := by decide +kernel
theorem dX3_init_35 : decode cX3_init 35 = .ok (.idiv, 1) := by decide +kernel
theorem dX3_init_36 : decode cX3_init 36 = .ok (.iload_n 1, 1) := by decide +kernel
theorem dX3_init_37 : decode cX3_init 37 = .ok (.iconst 3, 1) := by decide +kernel
theorem dX3_init_38 : decode cX3_init 38 = .ok (.irem, 1) := by decide +kernel
theorem dX3_init_39 : decode cX3_init 39 = .ok (.invokespecial 17, 3) := by decide +kernel
theorem dX3_init_42 : decode cX3_init 42 = .ok (.aastore, 1) := by decide +kernel
theorem dX3_init_43 : decode cX3_init 43 = .ok (.iinc 1 1, 3) := by decide +kernel
theorem dX3_init_46 : decode cX3_init 46 = .ok (.goto (-31), 3) := by decide +kernel
theorem dX3_init_49 : decode cX3_init 49 = .ok (.aload_n 0, 1) := by decide +kernel
theorem dX3_init_50 : decode cX3_init 50 = .ok (.bipush 12, 2) := by decide +kernel
theorem dX3_init_52 : decode cX3_init 52 = .ok (.anewarray 20, 3) := by decide +kernel
theorem dX3_init_55 : decode cX3_init 55 = .ok (.putfield 22, 3) := by decide +kernel
theorem dX3_init_58 : decode cX3_init 58 = .ok (.iconst 0, 1) := by decide +kernel
theorem dX3_init_59 : decode cX3_init 59 = .ok (.istore_n 1, 1) := by decide +kernel
theorem dX3_init_60 : decode cX3_init 60 = .ok (.iload_n 1, 1) := by decide +kernel
theorem dX3_init_61 : decode cX3_init 61 = .ok (.aload_n 0, 1) := by decide +kernel
theorem dX3_init_62 : decode cX3_init 62 = .ok (.getfield 22, 3) := by decide +kernel
theorem dX3_init_65 : decode cX3_init 65 = .ok (.arraylength, 1) := by decide +kernel
theorem dX3_init_66 : decode cX3_init 66 = .ok (.if_icmp .ge 30, 3) := by decide +kernel
theorem dX3_init_69 : decode cX3_init 69 = .ok (.aload_n 0, 1) := by decide +kernel
theorem dX3_init_70 : decode cX3_init 70 = .ok (.getfield 22, 3) := by decide +kernel
theorem dX3_init_73 : decode cX3_init 73 = .ok (.iload_n 1, 1) := by decide +kernel
theorem dX3_init_74 : decode cX3_init 74 = .ok (.new 20, 3) := by decide +kernel
theorem dX3_init_77 : decode cX3_init 77 = .ok (.dup, 1) := by decide +kernel
theorem dX3_init_78 : decode cX3_init 78 = .ok (.iconst 2, 1) := by decide +kernel
theorem dX3_init_79 : decode cX3_init 79 = .ok (.iload_n 1, 1) := by decide +kernel
theorem dX3_init_80 : decode cX3_init 80 = .ok (.iconst 3, 1) := by decide +kernel
theorem dX3_init_81 : decode cX3_init 81 = .ok (.idiv, 1) := by decide +kernel
theorem dX3_init_82 : decode cX3_init 82 = .ok (.iadd, 1) := by decide +kernel
theorem dX3_init_83 : decode cX3_init 83 = .ok (.iload_n 1, 1) := by decide +kernel
theorem dX3_init_84 : decode cX3_init 84 = .ok (.iconst 3, 1) := by decide +kernel
theorem dX3_init_85 : decode cX3_init 85 = .ok (.irem, 1) := by decide +kernel
theorem dX3_init_86 : decode cX3_init 86 = .ok (.invokespecial 26, 3) := by decide +kernel
theorem dX3_init_89 : decode cX3_init 89 = .ok (.aastore, 1) := by decide +kernel
theorem dX3_init_90 : decode cX3_init 90 = .ok (.iinc 1 1, 3) := by decide +kernel
theorem dX3_init_93 : decode cX3_init 93 = .ok (.goto (-33), 3) := by decide +kernel
theorem dX3_init_96 : decode cX3_init 96 = .ok (.return_, 1) := by decide +kernel
theorem dX3_enumVersion_0 : decode cX3_enumVersion 0 = .ok (.iload_n 1, 1) := by decide +kernel
theorem dX3_enumVersion_1 : decode cX3_enumVersion 1 = .ok (.iconst 2, 1) := by decide +kernel
theorem dX3_enumVersion_2 : decode cX3_enumVersion 2 = .ok (.invokestatic 27, 3) := by decide +kernel
theorem dX3_enumVersion_5 : decode cX3_enumVersion 5 = .ok (.ifCond .eq 15, 3) := by decide +kernel
theorem dX3_enumVersion_8 : decode cX3_enumVersion 8 = .ok (.iload_n 2, 1) := by decide +kernel
theorem dX3_enumVersion_9 : decode cX3_enumVersion 9 = .ok (.iconst 3, 1) := by decide +kernel
theorem dX3_enumVersion_10 : decode cX3_enumVersion 10 = .ok (.invokestatic 27, 3) := by decide +kernel
theorem dX3_enumVersion_13 : decode cX3_enumVersion 13 = .ok (.ifCond .eq 7, 3) := by decide +kernel
theorem dX3_enumVersion_16 : decode cX3_enumVersion 16 = .ok (.iconst 1, 1) := by decide +kernel
theorem dX3_enumVersion_17 : decode cX3_enumVersion 17 = .ok (.goto 4, 3) := by decide +kernel
theorem dX3_enumVersion_20 : decode cX3_enumVersion 20 = .ok (.iconst 0, 1) := by decide +kernel
theorem dX3_enumVersion_21 : decode cX3_enumVersion 21 = .ok (.istore_n 3, 1) := by decide +kernel
theorem dX3_enumVersion_22 : decode cX3_enumVersion 22 = .ok (.iload_n 3, 1) := by decide +kernel
theorem dX3_enumVersion_23 : decode cX3_enumVersion 23 = .ok (.ifCond .eq 16, 3) := by decide +kernel
theorem dX3_enumVersion_26 : decode cX3_enumVersion 26 = .ok (.aload_n 0, 1) := by decide +kernel
theorem dX3_enumVersion_27 : decode cX3_enumVersion 27 = .ok (.getfield 11, 3) := by decide +kernel
theorem dX3_enumVersion_30 : decode cX3_enumVersion 30 = .ok (.iload_n 1, 1) := by decide +kernel
theorem dX3_enumVersion_31 : decode cX3_enumVersion 31 = .ok (.iconst 3, 1) := by decide +kernel
theorem dX3_enumVersion_32 : decode cX3_enumVersion 32 = .ok (.imul, 1) := by decide +kernel
theorem dX3_enumVersion_33 : decode cX3_enumVersion 33 = .ok (.iload_n 2, 1) := by decide +kernel
theorem dX3_enumVersion_34 : decode cX3_enumVersion 34 = .ok (.iadd, 1) := by decide +kernel
theorem dX3_enumVersion_35 : decode cX3_enumVersion 35 = .ok (.aaload, 1) := by decide +kernel
theorem dX3_enumVersion_36 : decode cX3_enumVersion 36 = .ok (.goto 4, 3) := by decide +kernel
theorem dX3_enumVersion_39 : decode cX3_enumVersion 39 = .ok (.aconst_null, 1) := by decide +kernel
theorem dX3_enumVersion_40 : decode cX3_enumVersion 40 = .ok (.areturn, 1) := by decide +kernel
theorem dX3_recordVersion_0 : decode cX3_recordVersion 0 = .ok (.lload_n 1, 1) := by decide +kernel
theorem dX3_recordVersion_1 : decode cX3_recordVersion 1 = .ok (.ldc2_w 31, 3) := by decide +kernel
theorem dX3_recordVersion_4 : decode cX3_recordVersion 4 = .ok (.lcmp, 1) := by decide +kernel
theorem dX3_recordVersion_5 : decode cX3_recordVersion 5 = .ok (.ifCond .lt 23, 3) := by decide +kernel
theorem dX3_recordVersion_8 : decode cX3_recordVersion 8 = .ok (.lload_n 1, 1) := by decide +kernel
theorem dX3_recordVersion_9 : decode cX3_recordVersion 9 = .ok (.ldc2_w 33, 3) := by decide +kernel
theorem dX3_recordVersion_12 : decode cX3_recordVersion 12 = .ok (.lcmp, 1) := by decide +kernel
theorem dX3_recordVersion_13 : decode cX3_recordVersion 13 = .ok (.ifCond .ge 15, 3) := by decide +kernel
theorem dX3_recordVersion_16 : decode cX3_recordVersion 16 = .ok (.iload_n 3, 1) := by decide +kernel
theorem dX3_recordVersion_17 : decode cX3_recordVersion 17 = .ok (.iconst 3, 1) := by decide +kernel
theorem dX3_recordVersion_18 : decode cX3_recordVersion 18 = .ok (.invokestatic 27, 3) := by decide +kernel
theorem dX3_recordVersion_21 : decode cX3_recordVersion 21 = .ok (.ifCond .eq 7, 3) := by decide +kernel
theorem dX3_recordVersion_24 : decode cX3_recordVersion 24 = .ok (.iconst 1, 1) := by decide +kernel
theorem dX3_recordVersion_25 : decode cX3_recordVersion 25 = .ok (.goto 4, 3) := by decide +kernel
theorem dX3_recordVersion_28 : decode cX3_recordVersion 28 = .ok (.iconst 0, 1) := by decide +kernel
theorem dX3_recordVersion_29 : decode cX3_recordVersion 29 = .ok (.istore 4, 2) := by decide +kernel
theorem dX3_recordVersion_31 : decode cX3_recordVersion 31 = .ok (.iload 4, 2) := by decide +kernel
theorem dX3_recordVersion_33 : decode cX3_recordVersion 33 = .ok (.ifCond .eq 19, 3) := by decide +kernel
theorem dX3_recordVersion_36 : decode cX3_recordVersion 36 = .ok (.aload_n 0, 1) := by decide +kernel
theorem dX3_recordVersion_37 : decode cX3_recordVersion 37 = .ok (.getfield 22, 3) := by decide +kernel
theorem dX3_recordVersion_40 : decode cX3_recordVersion 40 = .ok (.lload_n 1, 1) := by decide +kernel
theorem dX3_recordVersion_41 : decode cX3_recordVersion 41 = .ok (.l2i, 1) := by decide +kernel
theorem dX3_recordVersion_42 : decode cX3_recordVersion 42 = .ok (.iconst 2, 1) := by decide +kernel
theorem dX3_recordVersion_43 : decode cX3_recordVersion 43 = .ok (.isub, 1) := by decide +kernel
theorem dX3_recordVersion_44 : decode cX3_recordVersion 44 = .ok (.iconst 3, 1) := by decide +kernel
theorem dX3_recordVersion_45 : decode cX3_recordVersion 45 = .ok (.imul, 1) := by decide +kernel
theorem dX3_recordVersion_46 : decode cX3_recordVersion 46 = .ok (.iload_n 3, 1) := by decide +kernel
theorem dX3_recordVersion_47 : decode cX3_recordVersion 47 = .ok (.iadd, 1) := by decide +kernel
theorem dX3_recordVersion_48 : decode cX3_recordVersion 48 = .ok (.aaload, 1) := by decide +kernel
theorem dX3_recordVersion_49 : decode cX3_recordVersion 49 = .ok (.goto 4, 3) := by decide +kernel
theorem dX3_recordVersion_52 : decode cX3_recordVersion 52 = .ok (.aconst_null, 1) := by decide +kernel
theorem dX3_recordVersion_53 : decode cX3_recordVersion 53 = .ok (.areturn, 1) := by decide +kernel
theorem dX4_init_0 : decode cX4_init 0 = .ok (.aload_n 0, 1) := by decide +kernel
theorem dX4_init_1 : decode cX4_init 1 = .ok (.invokespecial 3, 3) := by decide +kernel
theorem dX4_init_4 : decode cX4_init 4 = .ok (.aload_n 0, 1) := by decide +kernel
theorem dX4_init_5 : decode cX4_init 5 = .ok (.iload_n 1, 1) := by decide +kernel
theorem dX4_init_6 : decode cX4_init 6 = .ok (.putfield 9, 3) := by decide +kernel
theorem dX4_init_9 : decode cX4_init 9 = .ok (.aload_n 0, 1) := by decide +kernel
theorem dX4_init_10 : decode cX4_init 10 = .ok (.iload_n 2, 1) := by decide +kernel
theorem dX4_init_11 : decode cX4_init 11 = .ok (.putfield 15, 3) := by decide +kernel
theorem dX4_init_14 : decode cX4_init 14 = .ok (.aload_n 0, 1) := by decide +kernel
theorem dX4_init_15 : decode cX4_init 15 = .ok (.iload_n 3, 1) := by decide +kernel
theorem dX4_init_16 : decode cX4_init 16 = .ok (.putfield 18, 3) := by decide +kernel
theorem dX4_init_19 : decode cX4_init 19 = .ok (.return_, 1) := by decide +kernel
theorem dX4_whyNotTaken_0 : decode cX4_whyNotTaken 0 = .ok (.aload_n 0, 1) := by decide +kernel
theorem dX4_whyNotTaken_1 : decode cX4_whyNotTaken 1 = .ok (.getfield 15, 3) := by decide +kernel
theorem dX4_whyNotTaken_4 : decode cX4_whyNotTaken 4 = .ok (.ifCond .ne 17, 3) := by decide +kernel
theorem dX4_whyNotTaken_7 : decode cX4_whyNotTaken 7 = .ok (.lload_n 1, 1) := by decide +kernel
theorem dX4_whyNotTaken_8 : decode cX4_whyNotTaken 8 = .ok (.lload_n 1, 1) := by decide +kernel
theorem dX4_whyNotTaken_9 : decode cX4_whyNotTaken 9 = .ok (.l2i, 1) := by decide +kernel
theorem dX4_whyNotTaken_10 : decode cX4_whyNotTaken 10 = .ok (.i2l, 1) := by decide +kernel
theorem dX4_whyNotTaken_11 : decode cX4_whyNotTaken 11 = .ok (.lcmp, 1) := by decide +kernel
theorem dX4_whyNotTaken_12 : decode cX4_whyNotTaken 12 = .ok (.ifCond .ne 7, 3) := by decide +kernel
theorem dX4_whyNotTaken_15 : decode cX4_whyNotTaken 15 = .ok (.iconst 0, 1) := by decide +kernel
theorem dX4_whyNotTaken_16 : decode cX4_whyNotTaken 16 = .ok (.goto 4, 3) := by decide +kernel
theorem dX4_whyNotTaken_19 : decode cX4_whyNotTaken 19 = .ok (.iconst 2, 1) := by decide +kernel
theorem dX4_whyNotTaken_20 : decode cX4_whyNotTaken 20 = .ok (.ireturn, 1) := by decide +kernel
theorem dX4_whyNotTaken_21 : decode cX4_whyNotTaken 21 = .ok (.aload_n 0, 1) := by decide +kernel
theorem dX4_whyNotTaken_22 : decode cX4_whyNotTaken 22 = .ok (.getfield 15, 3) := by decide +kernel
theorem dX4_whyNotTaken_25 : decode cX4_whyNotTaken 25 = .ok (.iconst 1, 1) := by decide +kernel
theorem dX4_whyNotTaken_26 : decode cX4_whyNotTaken 26 = .ok (.if_icmp .eq 7, 3) := by decide +kernel
theorem dX4_whyNotTaken_29 : decode cX4_whyNotTaken 29 = .ok (.aload_n 3, 1) := by decide +kernel
theorem dX4_whyNotTaken_30 : decode cX4_whyNotTaken 30 = .ok (.ifnonnull 5, 3) := by decide +kernel
theorem dX4_whyNotTaken_33 : decode cX4_whyNotTaken 33 = .ok (.iconst 0, 1) := by decide +kernel
theorem dX4_whyNotTaken_34 : decode cX4_whyNotTaken 34 = .ok (.ireturn, 1) := by decide +kernel
theorem dX4_whyNotTaken_35 : decode cX4_whyNotTaken 35 = .ok (.aload_n 0, 1) := by decide +kernel
theorem dX4_whyNotTaken_36 : decode cX4_whyNotTaken 36 = .ok (.aload_n 3, 1) := by decide +kernel
theorem dX4_whyNotTaken_37 : decode cX4_whyNotTaken 37 = .ok (.invokevirtual 21, 3) := by decide +kernel
theorem dX4_whyNotTaken_40 : decode cX4_whyNotTaken 40 = .ok (.ifCond .ne 5, 3) := by decide +kernel
theorem dX4_whyNotTaken_43 : decode cX4_whyNotTaken 43 = .ok (.iconst 1, 1) := by decide +kernel
theorem dX4_whyNotTaken_44 : decode cX4_whyNotTaken 44 = .ok (.ireturn, 1) := by decide +kernel
theorem dX4_whyNotTaken_45 : decode cX4_whyNotTaken 45 = .ok (.aload_n 0, 1) := by decide +kernel
theorem dX4_whyNotTaken_46 : decode cX4_whyNotTaken 46 = .ok (.getfield 15, 3) := by decide +kernel
theorem dX4_whyNotTaken_49 : decode cX4_whyNotTaken 49 = .ok (.iconst 4, 1) := by decide +kernel
theorem dX4_whyNotTaken_50 : decode cX4_whyNotTaken 50 = .ok (.if_icmp .eq 23, 3) := by decide +kernel
theorem dX4_whyNotTaken_53 : decode cX4_whyNotTaken 53 = .ok (.aload_n 3, 1) := by decide +kernel
theorem dX4_whyNotTaken_54 : decode cX4_whyNotTaken 54 = .ok (.invokevirtual 25, 3) := by decide +kernel
theorem dX4_whyNotTaken_57 : decode cX4_whyNotTaken 57 = .ok (.aload_n 0, 1) := by decide +kernel
theorem dX4_whyNotTaken_58 : decode cX4_whyNotTaken 58 = .ok (.getfield 18, 3) := by decide +kernel
theorem dX4_whyNotTaken_61 : decode cX4_whyNotTaken 61 = .ok (.if_icmp .ne 16, 3) := by decide +kernel
theorem dX4_whyNotTaken_64 : decode cX4_whyNotTaken 64 = .ok (.aload_n 3, 1) := by decide +kernel
theorem dX4_whyNotTaken_65 : decode cX4_whyNotTaken 65 = .ok (.invokevirtual 31, 3) := by decide +kernel
theorem dX4_whyNotTaken_68 : decode cX4_whyNotTaken 68 = .ok (.iload 4, 2) := by decide +kernel
theorem dX4_whyNotTaken_70 : decode cX4_whyNotTaken 70 = .ok (.if_icmp .ne 7, 3) := by decide +kernel
theorem dX4_whyNotTaken_73 : decode cX4_whyNotTaken 73 = .ok (.iconst 0, 1) := by decide +kernel
theorem dX4_whyNotTaken_74 : decode cX4_whyNotTaken 74 = .ok (.goto 4, 3) := by decide +kernel
theorem dX4_whyNotTaken_77 : decode cX4_whyNotTaken 77 = .ok (.iconst 2, 1) := by decide +kernel
theorem dX4_whyNotTaken_78 : decode cX4_whyNotTaken 78 = .ok (.ireturn, 1) := by decide +kernel
theorem dX4_isOfClass_0 : decode cX4_isOfClass 0 = .ok (.aload_n 0, 1) := by decide +kernel
theorem dX4_isOfClass_1 : decode cX4_isOfClass 1 = .ok (.getfield 15, 3) := by decide +kernel
theorem dX4_isOfClass_4 : decode cX4_isOfClass 4 = .ok (.lookupswitch 38 #[(2, 28), (3, 33)], 28) := by decide +kernel
theorem dX4_isOfClass_32 : decode cX4_isOfClass 32 = .ok (.aload_n 1, 1) := by decide +kernel
theorem dX4_isOfClass_33 : decode cX4_isOfClass 33 = .ok (.instanceof 34, 3) := by decide +kernel
theorem dX4_isOfClass_36 : decode cX4_isOfClass 36 = .ok (.ireturn, 1) := by decide +kernel
theorem dX4_isOfClass_37 : decode cX4_isOfClass 37 = .ok (.aload_n 1, 1) := by decide +kernel
theorem dX4_isOfClass_38 : decode cX4_isOfClass 38 = .ok (.instanceof 36, 3) := by decide +kernel
theorem dX4_isOfClass_41 : decode cX4_isOfClass 41 = .ok (.ireturn, 1) := by decide +kernel
theorem dX4_isOfClass_42 : decode cX4_isOfClass 42 = .ok (.aload_n 1, 1) := by decide +kernel
theorem dX4_isOfClass_43 : decode cX4_isOfClass 43 = .ok (.instanceof 38, 3) := by decide +kernel
theorem dX4_isOfClass_46 : decode cX4_isOfClass 46 = .ok (.ireturn, 1) := by decide +kernel
theorem dX5_init_0 : decode cX5_init 0 = .ok (.aload_n 0, 1) := by decide +kernel
theorem dX5_init_1 : decode cX5_init 1 = .ok (.invokespecial 3, 3) := by decide +kernel
theorem dX5_init_4 : decode cX5_init 4 = .ok (.aload_n 0, 1) := by decide +kernel
theorem dX5_init_5 : decode cX5_init 5 = .ok (.aload_n 1, 1) := by decide +kernel
theorem dX5_init_6 : decode cX5_init 6 = .ok (.putfield 9, 3) := by decide +kernel
theorem dX5_init_9 : decode cX5_init 9 = .ok (.aload_n 0, 1) := by decide +kernel
theorem dX5_init_10 : decode cX5_init 10 = .ok (.aload_n 2, 1) := by decide +kernel
theorem dX5_init_11 : decode cX5_init 11 = .ok (.putfield 15, 3) := by decide +kernel
theorem dX5_init_14 : decode cX5_init 14 = .ok (.aload_n 0, 1) := by decide +kernel
theorem dX5_init_15 : decode cX5_init 15 = .ok (.iload_n 3, 1) := by decide +kernel
theorem dX5_init_16 : decode cX5_init 16 = .ok (.putfield 19, 3) := by decide +kernel
theorem dX5_init_19 : decode cX5_init 19 = .ok (.return_, 1) := by decide +kernel
theorem dX5_fail_0 : decode cX5_fail 0 = .ok (.aload_n 0, 1) := by decide +kernel
theorem dX5_fail_1 : decode cX5_fail 1 = .ok (.getfield 23, 3) := by decide +kernel
theorem dX5_fail_4 : decode cX5_fail 4 = .ok (.ifCond .ne 8, 3) := by decide +kernel
theorem dX5_fail_7 : decode cX5_fail 7 = .ok (.aload_n 0, 1) := by decide +kernel
theorem dX5_fail_8 : decode cX5_fail 8 = .ok (.iload_n 1, 1) := by decide +kernel
theorem dX5_fail_9 : decode cX5_fail 9 = .ok (.putfield 23, 3) := by decide +kernel
theorem dX5_fail_12 : decode cX5_fail 12 = .ok (.return_, 1) := by decide +kernel
theorem dX5_nextLeaf_0 : decode cX5_nextLeaf 0 = .ok (.aload_n 0, 1) := by decide +kernel
theorem dX5_nextLeaf_1 : decode cX5_nextLeaf 1 = .ok (.getfield 23, 3) := by decide +kernel
theorem dX5_nextLeaf_4 : decode cX5_nextLeaf 4 = .ok (.ifCond .eq 5, 3) := by decide +kernel
theorem dX5_nextLeaf_7 : decode cX5_nextLeaf 7 = .ok (.lconst 0, 1) := by decide +kernel
theorem dX5_nextLeaf_8 : decode cX5_nextLeaf 8 = .ok (.lreturn, 1) := by decide +kernel
theorem dX5_nextLeaf_9 : decode cX5_nextLeaf 9 = .ok (.aload_n 0, 1) := by decide +kernel
theorem dX5_nextLeaf_10 : decode cX5_nextLeaf 10 = .ok (.aload_n 0, 1) := by decide +kernel
theorem dX5_nextLeaf_11 : decode cX5_nextLeaf 11 = .ok (.getfield 26, 3) := by decide +kernel
theorem dX5_nextLeaf_14 : decode cX5_nextLeaf 14 = .ok (.putfield 29, 3) := by decide +kernel
theorem dX5_nextLeaf_17 : decode cX5_nextLeaf 17 = .ok (.aload_n 0, 1) := by decide +kernel
theorem dX5_nextLeaf_18 : decode cX5_nextLeaf 18 = .ok (.getfield 26, 3) := by decide +kernel
theorem dX5_nextLeaf_21 : decode cX5_nextLeaf 21 = .ok (.aload_n 0, 1) := by decide +kernel
theorem dX5_nextLeaf_22 : decode cX5_nextLeaf 22 = .ok (.getfield 15, 3) := by decide +kernel
theorem dX5_nextLeaf_25 : decode cX5_nextLeaf 25 = .ok (.getfield 32, 3) := by decide +kernel
theorem dX5_nextLeaf_28 : decode cX5_nextLeaf 28 = .ok (.if_icmp .lt 10, 3) := by decide +kernel
theorem dX5_nextLeaf_31 : decode cX5_nextLeaf 31 = .ok (.aload_n 0, 1) := by decide +kernel
theorem dX5_nextLeaf_32 : decode cX5_nextLeaf 32 = .ok (.iconst 4, 1) := by decide +kernel
theorem dX5_nextLeaf_33 : decode cX5_nextLeaf 33 = .ok (.putfield 23, 3) := by decide +kernel
theorem dX5_nextLeaf_36 : decode cX5_nextLeaf 36 = .ok (.lconst 0, 1) := by decide +kernel
theorem dX5_nextLeaf_37 : decode cX5_nextLeaf 37 = .ok (.lreturn, 1) := by decide +kernel
theorem dX5_nextLeaf_38 : decode cX5_nextLeaf 38 = .ok (.aload_n 0, 1) := by decide +kernel
theorem dX5_nextLeaf_39 : decode cX5_nextLeaf 39 = .ok (.dup, 1) := by decide +kernel
theorem dX5_nextLeaf_40 : decode cX5_nextLeaf 40 = .ok (.getfield 26, 3) := by decide +kernel
theorem dX5_nextLeaf_43 : decode cX5_nextLeaf 43 = .ok (.iconst 1, 1) := by decide +kernel
theorem dX5_nextLeaf_44 : decode cX5_nextLeaf 44 = .ok (.iadd, 1) := by decide +kernel
theorem dX5_nextLeaf_45 : decode cX5_nextLeaf 45 = .ok (.putfield 26, 3) := by decide +kernel
theorem dX5_nextLeaf_48 : decode cX5_nextLeaf 48 = .ok (.aload_n 0, 1) := by decide +kernel
theorem dX5_nextLeaf_49 : decode cX5_nextLeaf 49 = .ok (.getfield 15, 3) := by decide +kernel
theorem dX5_nextLeaf_52 : decode cX5_nextLeaf 52 = .ok (.getfield 37, 3) := by decide +kernel
theorem dX5_nextLeaf_55 : decode cX5_nextLeaf 55 = .ok (.aload_n 0, 1) := by decide +kernel
theorem dX5_nextLeaf_56 : decode cX5_nextLeaf 56 = .ok (.getfield 29, 3) := by decide +kernel
theorem dX5_nextLeaf_59 : decode cX5_nextLeaf 59 = .ok (.laload, 1) := by decide +kernel
theorem dX5_nextLeaf_60 : decode cX5_nextLeaf 60 = .ok (.lreturn, 1) := by decide +kernel
theorem dX5_nextRecord_0 : decode cX5_nextRecord 0 = .ok (.aload_n 0, 1) := by decide +kernel
theorem dX5_nextRecord_1 : decode cX5_nextRecord 1 = .ok (.getfield 41, 3) := by decide +kernel
theorem dX5_nextRecord_4 : decode cX5_nextRecord 4 = .ok (.bipush 6, 2) := by decide +kernel
theorem dX5_nextRecord_6 : decode cX5_nextRecord 6 = .ok (.if_icmp .lt 11, 3) := by decide +kernel
theorem dX5_nextRecord_9 : decode cX5_nextRecord 9 = .ok (.aload_n 0, 1) := by decide +kernel
theorem dX5_nextRecord_10 : decode cX5_nextRecord 10 = .ok (.bipush 8, 2) := by decide +kernel
theorem dX5_nextRecord_12 : decode cX5_nextRecord 12 = .ok (.invokevirtual 44, 3) := by decide +kernel
theorem dX5_nextRecord_15 : decode cX5_nextRecord 15 = .ok (.aconst_null, 1) := by decide +kernel
theorem dX5_nextRecord_16 : decode cX5_nextRecord 16 = .ok (.areturn, 1) := by decide +kernel
theorem dX5_nextRecord_17 : decode cX5_nextRecord 17 = .ok (.aload_n 0, 1) := by decide +kernel
theorem dX5_nextRecord_18 : decode cX5_nextRecord 18 = .ok (.dup, 1) := by decide +kernel
theorem dX5_nextRecord_19 : decode cX5_nextRecord 19 = .ok (.getfield 41, 3) := by decide +kernel
theorem dX5_nextRecord_22 : decode cX5_nextRecord 22 = .ok (.iconst 1, 1) := by decide +kernel
theorem dX5_nextRecord_23 : decode cX5_nextRecord 23 = .ok (.iadd, 1) := by decide +kernel
theorem dX5_nextRecord_24 : decode cX5_nextRecord 24 = .ok (.putfield 41, 3) := by decide +kernel
theorem dX5_nextRecord_27 : decode cX5_nextRecord 27 = .ok (.aload_n 0, 1) := by decide +kernel
theorem dX5_nextRecord_28 : decode cX5_nextRecord 28 = .ok (.invokevirtual 48, 3) := by decide +kernel
theorem dX5_nextRecord_31 : decode cX5_nextRecord 31 = .ok (.lstore_n 2, 1) := by decide +kernel
theorem dX5_nextRecord_32 : decode cX5_nextRecord 32 = .ok (.aload_n 0, 1) := by decide +kernel
theorem dX5_nextRecord_33 : decode cX5_nextRecord 33 = .ok (.getfield 9, 3) := by decide +kernel
theorem dX5_nextRecord_36 : decode cX5_nextRecord 36 = .ok (.lload_n 2, 1) := by decide +kernel
theorem dX5_nextRecord_37 : decode cX5_nextRecord 37 = .ok (.aload_n 0, 1) := by decide +kernel
theorem dX5_nextRecord_38 : decode cX5_nextRecord 38 = .ok (.getfield 19, 3) := by decide +kernel
theorem dX5_nextRecord_41 : decode cX5_nextRecord 41 = .ok (.invokevirtual 52, 3) := by decide +kernel
theorem dX5_nextRecord_44 : decode cX5_nextRecord 44 = .ok (.astore 4, 2) := by decide +kernel
theorem dX5_nextRecord_46 : decode cX5_nextRecord 46 = .ok (.aload 4, 2) := by decide +kernel
theorem dX5_nextRecord_48 : decode cX5_nextRecord 48 = .ok (.ifnonnull 10, 3) := by decide +kernel
theorem dX5_nextRecord_51 : decode cX5_nextRecord 51 = .ok (.aload_n 0, 1) := by decide +kernel
theorem dX5_nextRecord_52 : decode cX5_nextRecord 52 = .ok (.iconst 2, 1) := by decide +kernel
theorem dX5_nextRecord_53 : decode cX5_nextRecord 53 = .ok (.invokevirtual 44, 3) := by decide +kernel
theorem dX5_nextRecord_56 : decode cX5_nextRecord 56 = .ok (.aconst_null, 1) := by decide +kernel
theorem dX5_nextRecord_57 : decode cX5_nextRecord 57 = .ok (.areturn, 1) := by decide +kernel
theorem dX5_nextRecord_58 : decode cX5_nextRecord 58 = .ok (.iload_n 1, 1) := by decide +kernel
theorem dX5_nextRecord_59 : decode cX5_nextRecord 59 = .ok (.ifCond .eq 15, 3) := by decide +kernel
theorem dX5_nextRecord_62 : decode cX5_nextRecord 62 = .ok (.new 58, 3) := by decide +kernel
theorem dX5_nextRecord_65 : decode cX5_nextRecord 65 = .ok (.dup, 1) := by decide +kernel
theorem dX5_nextRecord_66 : decode cX5_nextRecord 66 = .ok (.aload 4, 2) := by decide +kernel
theorem dX5_nextRecord_68 : decode cX5_nextRecord 68 = .ok (.invokespecial 60, 3) := by decide +kernel
theorem dX5_nextRecord_71 : decode cX5_nextRecord 71 = .ok (.goto 4, 3) := by decide +kernel
theorem dX5_nextRecord_74 : decode cX5_nextRecord 74 = .ok (.aconst_null, 1) := by decide +kernel
theorem dX5_nextRecord_75 : decode cX5_nextRecord 75 = .ok (.astore 5, 2) := by decide +kernel
theorem dX5_nextRecord_77 : decode cX5_nextRecord 77 = .ok (.aload_n 0, 1) := by decide +kernel
theorem dX5_nextRecord_78 : decode cX5_nextRecord 78 = .ok (.invokevirtual 48, 3) := by decide +kernel
theorem dX5_nextRecord_81 : decode cX5_nextRecord 81 = .ok (.ldc2_w 63, 3) := by decide +kernel
theorem dX5_nextRecord_84 : decode cX5_nextRecord 84 = .ok (.invokestatic 65, 3) := by decide +kernel
theorem dX5_nextRecord_87 : decode cX5_nextRecord 87 = .ok (.lstore 6, 2) := by decide +kernel
theorem dX5_nextRecord_89 : decode cX5_nextRecord 89 = .ok (.iconst 0, 1) := by decide +kernel
theorem dX5_nextRecord_90 : decode cX5_nextRecord 90 = .ok (.istore 8, 2) := by decide +kernel
theorem dX5_nextRecord_92 : decode cX5_nextRecord 92 = .ok (.iload 8, 2) := by decide +kernel
theorem dX5_nextRecord_94 : decode cX5_nextRecord 94 = .ok (.i2l, 1) := by decide +kernel
theorem dX5_nextRecord_95 : decode cX5_nextRecord 95 = .ok (.lload 6, 2) := by decide +kernel
theorem dX5_nextRecord_97 : decode cX5_nextRecord 97 = .ok (.lcmp, 1) := by decide +kernel
theorem dX5_nextRecord_98 : decode cX5_nextRecord 98 = .ok (.ifCond .ge 22, 3) := by decide +kernel
theorem dX5_nextRecord_101 : decode cX5_nextRecord 101 = .ok (.aload_n 0, 1) := by decide +kernel
theorem dX5_nextRecord_102 : decode cX5_nextRecord 102 = .ok (.getfield 23, 3) := by decide +kernel
theorem dX5_nextRecord_105 : decode cX5_nextRecord 105 = .ok (.ifCond .ne 15, 3) := by decide +kernel
theorem dX5_nextRecord_108 : decode cX5_nextRecord 108 = .ok (.aload_n 0, 1) := by decide +kernel
theorem dX5_nextRecord_109 : decode cX5_nextRecord 109 = .ok (.aload 5, 2) := by decide +kernel
theorem dX5_nextRecord_111 : decode cX5_nextRecord 111 = .ok (.invokevirtual 71, 3) := by decide +kernel
theorem dX5_nextRecord_114 : decode cX5_nextRecord 114 = .ok (.iinc 8 1, 3) := by decide +kernel
theorem dX5_nextRecord_117 : decode cX5_nextRecord 117 = .ok (.goto (-25), 3) := by decide +kernel
theorem dX5_nextRecord_120 : decode cX5_nextRecord 120 = .ok (.aload_n 0, 1) := by decide +kernel
theorem dX5_nextRecord_121 : decode cX5_nextRecord 121 = .ok (.aload 5, 2) := by decide +kernel
theorem dX5_nextRecord_123 : decode cX5_nextRecord 123 = .ok (.invokevirtual 75, 3) := by decide +kernel
theorem dX5_nextRecord_126 : decode cX5_nextRecord 126 = .ok (.areturn, 1) := by decide +kernel
theorem dX5_finished_0 : decode cX5_finished 0 = .ok (.aload_n 0, 1) := by decide +kernel
theorem dX5_finished_1 : decode cX5_finished 1 = .ok (.getfield 23, 3) := by decide +kernel
theorem dX5_finished_4 : decode cX5_finished 4 = .ok (.ifCond .ne 40, 3) := by decide +kernel
theorem dX5_finished_7 : decode cX5_finished 7 = .ok (.aload_n 1, 1) := by decide +kernel
theorem dX5_finished_8 : decode cX5_finished 8 = .ok (.ifnull 36, 3) := by decide +kernel
theorem dX5_finished_11 : decode cX5_finished 11 = .ok (.aload_n 0, 1) := by decide +kernel
theorem dX5_finished_12 : decode cX5_finished 12 = .ok (.aload_n 1, 1) := by decide +kernel
theorem dX5_finished_13 : decode cX5_finished 13 = .ok (.getfield 79, 3) := by decide +kernel
theorem dX5_finished_16 : decode cX5_finished 16 = .ok (.aload_n 1, 1) := by decide +kernel
theorem dX5_finished_17 : decode cX5_finished 17 = .ok (.invokevirtual 83, 3) := by decide +kernel
theorem dX5_finished_20 : decode cX5_finished 20 = .ok (.putfield 23, 3) := by decide +kernel
theorem dX5_finished_23 : decode cX5_finished 23 = .ok (.aload_n 0, 1) := by decide +kernel
theorem dX5_finished_24 : decode cX5_finished 24 = .ok (.dup, 1) := by decide +kernel
theorem dX5_finished_25 : decode cX5_finished 25 = .ok (.getfield 89, 3) := by decide +kernel
theorem dX5_finished_28 : decode cX5_finished 28 = .ok (.aload_n 0, 1) := by decide +kernel
theorem dX5_finished_29 : decode cX5_finished 29 = .ok (.getfield 23, 3) := by decide +kernel
theorem dX5_finished_32 : decode cX5_finished 32 = .ok (.ifCond .ne 7, 3) := by decide +kernel
theorem dX5_finished_35 : decode cX5_finished 35 = .ok (.iconst 1, 1) := by decide +kernel
theorem dX5_finished_36 : decode cX5_finished 36 = .ok (.goto 4, 3) := by decide +kernel
theorem dX5_finished_39 : decode cX5_finished 39 = .ok (.iconst 0, 1) := by decide +kernel
theorem dX5_finished_40 : decode cX5_finished 40 = .ok (.iadd, 1) := by decide +kernel
theorem dX5_finished_41 : decode cX5_finished 41 = .ok (.putfield 89, 3) := by decide +kernel
theorem dX5_finished_44 : decode cX5_finished 44 = .ok (.aload_n 0, 1) := by decide +kernel
theorem dX5_finished_45 : decode cX5_finished 45 = .ok (.getfield 23, 3) := by decide +kernel
theorem dX5_finished_48 : decode cX5_finished 48 = .ok (.ifCond .eq 5, 3) := by decide +kernel
theorem dX5_finished_51 : decode cX5_finished 51 = .ok (.aconst_null, 1) := by decide +kernel
theorem dX5_finished_52 : decode cX5_finished 52 = .ok (.areturn, 1) := by decide +kernel
theorem dX5_finished_53 : decode cX5_finished 53 = .ok (.aload_n 0, 1) := by decide +kernel
theorem dX5_finished_54 : decode cX5_finished 54 = .ok (.dup, 1) := by decide +kernel
theorem dX5_finished_55 : decode cX5_finished 55 = .ok (.getfield 41, 3) := by decide +kernel
theorem dX5_finished_58 : decode cX5_finished 58 = .ok (.iconst 1, 1) := by decide +kernel
theorem dX5_finished_59 : decode cX5_finished 59 = .ok (.isub, 1) := by decide +kernel
theorem dX5_finished_60 : decode cX5_finished 60 = .ok (.putfield 41, 3) := by decide +kernel
theorem dX5_finished_63 : decode cX5_finished 63 = .ok (.aload_n 1, 1) := by decide +kernel
theorem dX5_finished_64 : decode cX5_finished 64 = .ok (.areturn, 1) := by decide +kernel
theorem dX5_nextPart_0 : decode cX5_nextPart 0 = .ok (.aload_n 0, 1) := by decide +kernel
theorem dX5_nextPart_1 : decode cX5_nextPart 1 = .ok (.invokevirtual 48, 3) := by decide +kernel
theorem dX5_nextPart_4 : decode cX5_nextPart 4 = .ok (.lstore_n 2, 1) := by decide +kernel
theorem dX5_nextPart_5 : decode cX5_nextPart 5 = .ok (.aload_n 0, 1) := by decide +kernel
theorem dX5_nextPart_6 : decode cX5_nextPart 6 = .ok (.invokevirtual 48, 3) := by decide +kernel
theorem dX5_nextPart_9 : decode cX5_nextPart 9 = .ok (.lstore 4, 2) := by decide +kernel
theorem dX5_nextPart_11 : decode cX5_nextPart 11 = .ok (.lload 4, 2) := by decide +kernel
theorem dX5_nextPart_13 : decode cX5_nextPart 13 = .ok (.lconst 0, 1) := by decide +kernel
theorem dX5_nextPart_14 : decode cX5_nextPart 14 = .ok (.lcmp, 1) := by decide +kernel
theorem dX5_nextPart_15 : decode cX5_nextPart 15 = .ok (.ifCond .lt 12, 3) := by decide +kernel
theorem dX5_nextPart_18 : decode cX5_nextPart 18 = .ok (.lload 4, 2) := by decide +kernel
theorem dX5_nextPart_20 : decode cX5_nextPart 20 = .ok (.ldc2_w 92, 3) := by decide +kernel
theorem dX5_nextPart_23 : decode cX5_nextPart 23 = .ok (.lcmp, 1) := by decide +kernel
theorem dX5_nextPart_24 : decode cX5_nextPart 24 = .ok (.ifCond .lt 8, 3) := by decide +kernel
theorem dX5_nextPart_27 : decode cX5_nextPart 27 = .ok (.aload_n 0, 1) := by decide +kernel
theorem dX5_nextPart_28 : decode cX5_nextPart 28 = .ok (.iconst 2, 1) := by decide +kernel
theorem dX5_nextPart_29 : decode cX5_nextPart 29 = .ok (.invokevirtual 44, 3) := by decide +kernel
theorem dX5_nextPart_32 : decode cX5_nextPart 32 = .ok (.aload_n 1, 1) := by decide +kernel
theorem dX5_nextPart_33 : decode cX5_nextPart 33 = .ok (.ifnonnull 8, 3) := by decide +kernel
theorem dX5_nextPart_36 : decode cX5_nextPart 36 = .ok (.bipush (-3), 2) := by decide +kernel
theorem dX5_nextPart_38 : decode cX5_nextPart 38 = .ok (.goto 11, 3) := by decide +kernel
theorem dX5_nextPart_41 : decode cX5_nextPart 41 = .ok (.aload_n 1, 1) := by decide +kernel
theorem dX5_nextPart_42 : decode cX5_nextPart 42 = .ok (.getfield 79, 3) := by decide +kernel
theorem dX5_nextPart_45 : decode cX5_nextPart 45 = .ok (.lload_n 2, 1) := by decide +kernel
theorem dX5_nextPart_46 : decode cX5_nextPart 46 = .ok (.invokevirtual 94, 3) := by decide +kernel
theorem dX5_nextPart_49 : decode cX5_nextPart 49 = .ok (.istore 6, 2) := by decide +kernel
theorem dX5_nextPart_51 : decode cX5_nextPart 51 = .ok (.iload 6, 2) := by decide +kernel
theorem dX5_nextPart_53 : decode cX5_nextPart 53 = .ok (.bipush (-3), 2) := by decide +kernel
theorem dX5_nextPart_55 : decode cX5_nextPart 55 = .ok (.if_icmp .eq 28, 3) := by decide +kernel
theorem dX5_nextPart_58 : decode cX5_nextPart 58 = .ok (.aload_n 1, 1) := by decide +kernel
theorem dX5_nextPart_59 : decode cX5_nextPart 59 = .ok (.getfield 79, 3) := by decide +kernel
theorem dX5_nextPart_62 : decode cX5_nextPart 62 = .ok (.getfield 98, 3) := by decide +kernel
theorem dX5_nextPart_65 : decode cX5_nextPart 65 = .ok (.iload 6, 2) := by decide +kernel
theorem dX5_nextPart_67 : decode cX5_nextPart 67 = .ok (.aaload, 1) := by decide +kernel
theorem dX5_nextPart_68 : decode cX5_nextPart 68 = .ok (.getfield 102, 3) := by decide +kernel
theorem dX5_nextPart_71 : decode cX5_nextPart 71 = .ok (.i2l, 1) := by decide +kernel
theorem dX5_nextPart_72 : decode cX5_nextPart 72 = .ok (.lload 4, 2) := by decide +kernel
theorem dX5_nextPart_74 : decode cX5_nextPart 74 = .ok (.lcmp, 1) := by decide +kernel
theorem dX5_nextPart_75 : decode cX5_nextPart 75 = .ok (.ifCond .eq 8, 3) := by decide +kernel
theorem dX5_nextPart_78 : decode cX5_nextPart 78 = .ok (.aload_n 0, 1) := by decide +kernel
theorem dX5_nextPart_79 : decode cX5_nextPart 79 = .ok (.iconst 1, 1) := by decide +kernel
theorem dX5_nextPart_80 : decode cX5_nextPart 80 = .ok (.invokevirtual 44, 3) := by decide +kernel
theorem dX5_nextPart_83 : decode cX5_nextPart 83 = .ok (.aload_n 0, 1) := by decide +kernel
theorem dX5_nextPart_84 : decode cX5_nextPart 84 = .ok (.getfield 23, 3) := by decide +kernel
theorem dX5_nextPart_87 : decode cX5_nextPart 87 = .ok (.ifCond .eq 4, 3) := by decide +kernel
theorem dX5_nextPart_90 : decode cX5_nextPart 90 = .ok (.return_, 1) := by decide +kernel
theorem dX5_nextPart_91 : decode cX5_nextPart 91 = .ok (.lload 4, 2) := by decide +kernel
theorem dX5_nextPart_93 : decode cX5_nextPart 93 = .ok (.lconst 1, 1) := by decide +kernel
theorem dX5_nextPart_94 : decode cX5_nextPart 94 = .ok (.lcmp, 1) := by decide +kernel
theorem dX5_nextPart_95 : decode cX5_nextPart 95 = .ok (.ifCond .gt 26, 3) := by decide +kernel
theorem dX5_nextPart_98 : decode cX5_nextPart 98 = .ok (.aload_n 0, 1) := by decide +kernel
theorem dX5_nextPart_99 : decode cX5_nextPart 99 = .ok (.invokevirtual 48, 3) := by decide +kernel
theorem dX5_nextPart_102 : decode cX5_nextPart 102 = .ok (.lstore 7, 2) := by decide +kernel
theorem dX5_nextPart_104 : decode cX5_nextPart 104 = .ok (.iload 6, 2) := by decide +kernel
theorem dX5_nextPart_106 : decode cX5_nextPart 106 = .ok (.bipush (-3), 2) := by decide +kernel
theorem dX5_nextPart_108 : decode cX5_nextPart 108 = .ok (.if_icmp .eq 12, 3) := by decide +kernel
theorem dX5_nextPart_111 : decode cX5_nextPart 111 = .ok (.aload_n 1, 1) := by decide +kernel
theorem dX5_nextPart_112 : decode cX5_nextPart 112 = .ok (.iload 6, 2) := by decide +kernel
theorem dX5_nextPart_114 : decode cX5_nextPart 114 = .ok (.lload 7, 2) := by decide +kernel
theorem dX5_nextPart_116 : decode cX5_nextPart 116 = .ok (.aconst_null, 1) := by decide +kernel
theorem dX5_nextPart_117 : decode cX5_nextPart 117 = .ok (.invokevirtual 107, 3) := by decide +kernel
theorem dX5_nextPart_120 : decode cX5_nextPart 120 = .ok (.return_, 1) := by decide +kernel
theorem dX5_nextPart_121 : decode cX5_nextPart 121 = .ok (.aload_n 0, 1) := by decide +kernel
theorem dX5_nextPart_122 : decode cX5_nextPart 122 = .ok (.lload 4, 2) := by decide +kernel
theorem dX5_nextPart_124 : decode cX5_nextPart 124 = .ok (.l2i, 1) := by decide +kernel
theorem dX5_nextPart_125 : decode cX5_nextPart 125 = .ok (.iload 6, 2) := by decide +kernel
theorem dX5_nextPart_127 : decode cX5_nextPart 127 = .ok (.bipush (-3), 2) := by decide +kernel
theorem dX5_nextPart_129 : decode cX5_nextPart 129 = .ok (.if_icmp .ne 7, 3) := by decide +kernel
theorem dX5_nextPart_132 : decode cX5_nextPart 132 = .ok (.aconst_null, 1) := by decide +kernel
theorem dX5_nextPart_133 : decode cX5_nextPart 133 = .ok (.goto 13, 3) := by decide +kernel
theorem dX5_nextPart_136 : decode cX5_nextPart 136 = .ok (.aload_n 1, 1) := by decide +kernel
theorem dX5_nextPart_137 : decode cX5_nextPart 137 = .ok (.getfield 79, 3) := by decide +kernel
theorem dX5_nextPart_140 : decode cX5_nextPart 140 = .ok (.getfield 98, 3) := by decide +kernel
theorem dX5_nextPart_143 : decode cX5_nextPart 143 = .ok (.iload 6, 2) := by decide +kernel
theorem dX5_nextPart_145 : decode cX5_nextPart 145 = .ok (.aaload, 1) := by decide +kernel
theorem dX5_nextPart_146 : decode cX5_nextPart 146 = .ok (.invokevirtual 111, 3) := by decide +kernel
theorem dX5_nextPart_149 : decode cX5_nextPart 149 = .ok (.astore 7, 2) := by decide +kernel
theorem dX5_nextPart_151 : decode cX5_nextPart 151 = .ok (.iload 6, 2) := by decide +kernel
theorem dX5_nextPart_153 : decode cX5_nextPart 153 = .ok (.bipush (-3), 2) := by decide +kernel
theorem dX5_nextPart_155 : decode cX5_nextPart 155 = .ok (.if_icmp .eq 12, 3) := by decide +kernel
theorem dX5_nextPart_158 : decode cX5_nextPart 158 = .ok (.aload_n 1, 1) := by decide +kernel
theorem dX5_nextPart_159 : decode cX5_nextPart 159 = .ok (.iload 6, 2) := by decide +kernel
theorem dX5_nextPart_161 : decode cX5_nextPart 161 = .ok (.lconst 0, 1) := by decide +kernel
theorem dX5_nextPart_162 : decode cX5_nextPart 162 = .ok (.aload 7, 2) := by decide +kernel
theorem dX5_nextPart_164 : decode cX5_nextPart 164 = .ok (.invokevirtual 107, 3) := by decide +kernel
theorem dX5_nextPart_167 : decode cX5_nextPart 167 = .ok (.return_, 1) := by decide +kernel
theorem dX5_nextThing_0 : decode cX5_nextThing 0 = .ok (.iload_n 1, 1) := by decide +kernel
theorem dX5_nextThing_1 : decode cX5_nextThing 1 = .ok (.iconst 2, 1) := by decide +kernel
theorem dX5_nextThing_2 : decode cX5_nextThing 2 = .ok (.if_icmp .ne 9, 3) := by decide +kernel
theorem dX5_nextThing_5 : decode cX5_nextThing 5 = .ok (.aload_n 0, 1) := by decide +kernel
theorem dX5_nextThing_6 : decode cX5_nextThing 6 = .ok (.aload_n 2, 1) := by decide +kernel
theorem dX5_nextThing_7 : decode cX5_nextThing 7 = .ok (.invokevirtual 115, 3) := by decide +kernel
theorem dX5_nextThing_10 : decode cX5_nextThing 10 = .ok (.areturn, 1) := by decide +kernel
theorem dX5_nextThing_11 : decode cX5_nextThing 11 = .ok (.iload_n 1, 1) := by decide +kernel
theorem dX5_nextThing_12 : decode cX5_nextThing 12 = .ok (.iconst 4, 1) := by decide +kernel
theorem dX5_nextThing_13 : decode cX5_nextThing 13 = .ok (.if_icmp .ne 17, 3) := by decide +kernel
theorem dX5_nextThing_16 : decode cX5_nextThing 16 = .ok (.aload_n 0, 1) := by decide +kernel
theorem dX5_nextThing_17 : decode cX5_nextThing 17 = .ok (.aload_n 2, 1) := by decide +kernel
theorem dX5_nextThing_18 : decode cX5_nextThing 18 = .ok (.ifnull 7, 3) := by decide +kernel
theorem dX5_nextThing_21 : decode cX5_nextThing 21 = .ok (.iconst 1, 1) := by decide +kernel
theorem dX5_nextThing_22 : decode cX5_nextThing 22 = .ok (.goto 4, 3) := by decide +kernel
theorem dX5_nextThing_25 : decode cX5_nextThing 25 = .ok (.iconst 0, 1) := by decide +kernel
theorem dX5_nextThing_26 : decode cX5_nextThing 26 = .ok (.invokevirtual 119, 3) := by decide +kernel
theorem dX5_nextThing_29 : decode cX5_nextThing 29 = .ok (.areturn, 1) := by decide +kernel
theorem dX5_nextThing_30 : decode cX5_nextThing 30 = .ok (.aload_n 0, 1) := by decide +kernel
theorem dX5_nextThing_31 : decode cX5_nextThing 31 = .ok (.invokevirtual 48, 3) := by decide +kernel
theorem dX5_nextThing_34 : decode cX5_nextThing 34 = .ok (.lconst 0, 1) := by decide +kernel
theorem dX5_nextThing_35 : decode cX5_nextThing 35 = .ok (.lcmp, 1) := by decide +kernel
theorem dX5_nextThing_36 : decode cX5_nextThing 36 = .ok (.ifCond .ne 7, 3) := by decide +kernel
theorem dX5_nextThing_39 : decode cX5_nextThing 39 = .ok (.aconst_null, 1) := by decide +kernel
theorem dX5_nextThing_40 : decode cX5_nextThing 40 = .ok (.goto 16, 3) := by decide +kernel
theorem dX5_nextThing_43 : decode cX5_nextThing 43 = .ok (.aload_n 0, 1) := by decide +kernel
theorem dX5_nextThing_44 : decode cX5_nextThing 44 = .ok (.aload_n 2, 1) := by decide +kernel
theorem dX5_nextThing_45 : decode cX5_nextThing 45 = .ok (.ifnull 7, 3) := by decide +kernel
theorem dX5_nextThing_48 : decode cX5_nextThing 48 = .ok (.iconst 1, 1) := by decide +kernel
theorem dX5_nextThing_49 : decode cX5_nextThing 49 = .ok (.goto 4, 3) := by decide +kernel
theorem dX5_nextThing_52 : decode cX5_nextThing 52 = .ok (.iconst 0, 1) := by decide +kernel
theorem dX5_nextThing_53 : decode cX5_nextThing 53 = .ok (.invokevirtual 123, 3) := by decide +kernel
theorem dX5_nextThing_56 : decode cX5_nextThing 56 = .ok (.areturn, 1) := by decide +kernel
theorem dX5_nextConstant_0 : decode cX5_nextConstant 0 = .ok (.aload_n 0, 1) := by decide +kernel
theorem dX5_nextConstant_1 : decode cX5_nextConstant 1 = .ok (.invokevirtual 48, 3) := by decide +kernel
theorem dX5_nextConstant_4 : decode cX5_nextConstant 4 = .ok (.lstore_n 2, 1) := by decide +kernel
theorem dX5_nextConstant_5 : decode cX5_nextConstant 5 = .ok (.aload_n 1, 1) := by decide +kernel
theorem dX5_nextConstant_6 : decode cX5_nextConstant 6 = .ok (.ifnull 18, 3) := by decide +kernel
theorem dX5_nextConstant_9 : decode cX5_nextConstant 9 = .ok (.lload_n 2, 1) := by decide +kernel
theorem dX5_nextConstant_10 : decode cX5_nextConstant 10 = .ok (.ldc2_w 127, 3) := by decide +kernel
theorem dX5_nextConstant_13 : decode cX5_nextConstant 13 = .ok (.lcmp, 1) := by decide +kernel
theorem dX5_nextConstant_14 : decode cX5_nextConstant 14 = .ok (.ifCond .eq 10, 3) := by decide +kernel
theorem dX5_nextConstant_17 : decode cX5_nextConstant 17 = .ok (.aload_n 0, 1) := by decide +kernel
theorem dX5_nextConstant_18 : decode cX5_nextConstant 18 = .ok (.getfield 23, 3) := by decide +kernel
theorem dX5_nextConstant_21 : decode cX5_nextConstant 21 = .ok (.ifCond .eq 5, 3) := by decide +kernel
theorem dX5_nextConstant_24 : decode cX5_nextConstant 24 = .ok (.aconst_null, 1) := by decide +kernel
theorem dX5_nextConstant_25 : decode cX5_nextConstant 25 = .ok (.areturn, 1) := by decide +kernel
theorem dX5_nextConstant_26 : decode cX5_nextConstant 26 = .ok (.aload_n 0, 1) := by decide +kernel
theorem dX5_nextConstant_27 : decode cX5_nextConstant 27 = .ok (.getfield 9, 3) := by decide +kernel
theorem dX5_nextConstant_30 : decode cX5_nextConstant 30 = .ok (.aload_n 1, 1) := by decide +kernel
theorem dX5_nextConstant_31 : decode cX5_nextConstant 31 = .ok (.getfield 129, 3) := by decide +kernel
theorem dX5_nextConstant_34 : decode cX5_nextConstant 34 = .ok (.aload_n 0, 1) := by decide +kernel
theorem dX5_nextConstant_35 : decode cX5_nextConstant 35 = .ok (.getfield 19, 3) := by decide +kernel
theorem dX5_nextConstant_38 : decode cX5_nextConstant 38 = .ok (.invokevirtual 132, 3) := by decide +kernel
theorem dX5_nextConstant_41 : decode cX5_nextConstant 41 = .ok (.astore 4, 2) := by decide +kernel
theorem dX5_nextConstant_43 : decode cX5_nextConstant 43 = .ok (.aload 4, 2) := by decide +kernel
theorem dX5_nextConstant_45 : decode cX5_nextConstant 45 = .ok (.ifnonnull 7, 3) := by decide +kernel
theorem dX5_nextConstant_48 : decode cX5_nextConstant 48 = .ok (.aconst_null, 1) := by decide +kernel
theorem dX5_nextConstant_49 : decode cX5_nextConstant 49 = .ok (.goto 9, 3) := by decide +kernel
theorem dX5_nextConstant_52 : decode cX5_nextConstant 52 = .ok (.aload 4, 2) := by decide +kernel
theorem dX5_nextConstant_54 : decode cX5_nextConstant 54 = .ok (.lload_n 2, 1) := by decide +kernel
theorem dX5_nextConstant_55 : decode cX5_nextConstant 55 = .ok (.invokevirtual 136, 3) := by decide +kernel
theorem dX5_nextConstant_58 : decode cX5_nextConstant 58 = .ok (.astore 5, 2) := by decide +kernel
theorem dX5_nextConstant_60 : decode cX5_nextConstant 60 = .ok (.aload 5, 2) := by decide +kernel
theorem dX5_nextConstant_62 : decode cX5_nextConstant 62 = .ok (.ifnonnull 9, 3) := by decide +kernel
theorem dX5_nextConstant_65 : decode cX5_nextConstant 65 = .ok (.aload_n 0, 1) := by decide +kernel
theorem dX5_nextConstant_66 : decode cX5_nextConstant 66 = .ok (.bipush 7, 2) := by decide +kernel
theorem dX5_nextConstant_68 : decode cX5_nextConstant 68 = .ok (.invokevirtual 44, 3) := by decide +kernel
theorem dX5_nextConstant_71 : decode cX5_nextConstant 71 = .ok (.aload 5, 2) := by decide +kernel
theorem dX5_nextConstant_73 : decode cX5_nextConstant 73 = .ok (.areturn, 1) := by decide +kernel
theorem dX5_nextRow_0 : decode cX5_nextRow 0 = .ok (.aload_n 0, 1) := by decide +kernel
theorem dX5_nextRow_1 : decode cX5_nextRow 1 = .ok (.invokevirtual 48, 3) := by decide +kernel
theorem dX5_nextRow_4 : decode cX5_nextRow 4 = .ok (.lstore_n 2, 1) := by decide +kernel
theorem dX5_nextRow_5 : decode cX5_nextRow 5 = .ok (.lload_n 2, 1) := by decide +kernel
theorem dX5_nextRow_6 : decode cX5_nextRow 6 = .ok (.ldc2_w 127, 3) := by decide +kernel
theorem dX5_nextRow_9 : decode cX5_nextRow 9 = .ok (.lcmp, 1) := by decide +kernel
theorem dX5_nextRow_10 : decode cX5_nextRow 10 = .ok (.ifCond .ne 5, 3) := by decide +kernel
theorem dX5_nextRow_13 : decode cX5_nextRow 13 = .ok (.aconst_null, 1) := by decide +kernel
theorem dX5_nextRow_14 : decode cX5_nextRow 14 = .ok (.areturn, 1) := by decide +kernel
theorem dX5_nextRow_15 : decode cX5_nextRow 15 = .ok (.lload_n 2, 1) := by decide +kernel
theorem dX5_nextRow_16 : decode cX5_nextRow 16 = .ok (.lconst 0, 1) := by decide +kernel
theorem dX5_nextRow_17 : decode cX5_nextRow 17 = .ok (.lcmp, 1) := by decide +kernel
theorem dX5_nextRow_18 : decode cX5_nextRow 18 = .ok (.ifCond .ge 12, 3) := by decide +kernel
theorem dX5_nextRow_21 : decode cX5_nextRow 21 = .ok (.aload_n 0, 1) := by decide +kernel
theorem dX5_nextRow_22 : decode cX5_nextRow 22 = .ok (.bipush 6, 2) := by decide +kernel
theorem dX5_nextRow_24 : decode cX5_nextRow 24 = .ok (.invokevirtual 44, 3) := by decide +kernel
theorem dX5_nextRow_27 : decode cX5_nextRow 27 = .ok (.goto 16, 3) := by decide +kernel
theorem dX5_nextRow_30 : decode cX5_nextRow 30 = .ok (.lload_n 2, 1) := by decide +kernel
theorem dX5_nextRow_31 : decode cX5_nextRow 31 = .ok (.ldc2_w 142, 3) := by decide +kernel
theorem dX5_nextRow_34 : decode cX5_nextRow 34 = .ok (.lcmp, 1) := by decide +kernel
theorem dX5_nextRow_35 : decode cX5_nextRow 35 = .ok (.ifCond .le 8, 3) := by decide +kernel
theorem dX5_nextRow_38 : decode cX5_nextRow 38 = .ok (.aload_n 0, 1) := by decide +kernel
theorem dX5_nextRow_39 : decode cX5_nextRow 39 = .ok (.iconst 2, 1) := by decide +kernel
theorem dX5_nextRow_40 : decode cX5_nextRow 40 = .ok (.invokevirtual 44, 3) := by decide +kernel
theorem dX5_nextRow_43 : decode cX5_nextRow 43 = .ok (.aload_n 0, 1) := by decide +kernel
theorem dX5_nextRow_44 : decode cX5_nextRow 44 = .ok (.getfield 23, 3) := by decide +kernel
theorem dX5_nextRow_47 : decode cX5_nextRow 47 = .ok (.ifCond .eq 5, 3) := by decide +kernel
theorem dX5_nextRow_50 : decode cX5_nextRow 50 = .ok (.aconst_null, 1) := by decide +kernel
theorem dX5_nextRow_51 : decode cX5_nextRow 51 = .ok (.areturn, 1) := by decide +kernel
theorem dX5_nextRow_52 : decode cX5_nextRow 52 = .ok (.iload_n 1, 1) := by decide +kernel
theorem dX5_nextRow_53 : decode cX5_nextRow 53 = .ok (.ifCond .eq 15, 3) := by decide +kernel
theorem dX5_nextRow_56 : decode cX5_nextRow 56 = .ok (.new 144, 3) := by decide +kernel
theorem dX5_nextRow_59 : decode cX5_nextRow 59 = .ok (.dup, 1) := by decide +kernel
theorem dX5_nextRow_60 : decode cX5_nextRow 60 = .ok (.lload_n 2, 1) := by decide +kernel
theorem dX5_nextRow_61 : decode cX5_nextRow 61 = .ok (.l2i, 1) := by decide +kernel
theorem dX5_nextRow_62 : decode cX5_nextRow 62 = .ok (.invokespecial 146, 3) := by decide +kernel
theorem dX5_nextRow_65 : decode cX5_nextRow 65 = .ok (.goto 4, 3) := by decide +kernel
theorem dX5_nextRow_68 : decode cX5_nextRow 68 = .ok (.aconst_null, 1) := by decide +kernel
theorem dX5_nextRow_69 : decode cX5_nextRow 69 = .ok (.astore 4, 2) := by decide +kernel
theorem dX5_nextRow_71 : decode cX5_nextRow 71 = .ok (.iconst 0, 1) := by decide +kernel
theorem dX5_nextRow_72 : decode cX5_nextRow 72 = .ok (.istore 5, 2) := by decide +kernel
theorem dX5_nextRow_74 : decode cX5_nextRow 74 = .ok (.iload 5, 2) := by decide +kernel
theorem dX5_nextRow_76 : decode cX5_nextRow 76 = .ok (.i2l, 1) := by decide +kernel
theorem dX5_nextRow_77 : decode cX5_nextRow 77 = .ok (.lload_n 2, 1) := by decide +kernel
theorem dX5_nextRow_78 : decode cX5_nextRow 78 = .ok (.lcmp, 1) := by decide +kernel
theorem dX5_nextRow_79 : decode cX5_nextRow 79 = .ok (.ifCond .ge 38, 3) := by decide +kernel
theorem dX5_nextRow_82 : decode cX5_nextRow 82 = .ok (.aload_n 0, 1) := by decide +kernel
theorem dX5_nextRow_83 : decode cX5_nextRow 83 = .ok (.getfield 23, 3) := by decide +kernel
theorem dX5_nextRow_86 : decode cX5_nextRow 86 = .ok (.ifCond .ne 31, 3) := by decide +kernel
theorem dX5_nextRow_89 : decode cX5_nextRow 89 = .ok (.aload_n 0, 1) := by decide +kernel
theorem dX5_nextRow_90 : decode cX5_nextRow 90 = .ok (.invokevirtual 48, 3) := by decide +kernel
theorem dX5_nextRow_93 : decode cX5_nextRow 93 = .ok (.l2i, 1) := by decide +kernel
theorem dX5_nextRow_94 : decode cX5_nextRow 94 = .ok (.istore 6, 2) := by decide +kernel
theorem dX5_nextRow_96 : decode cX5_nextRow 96 = .ok (.aload 4, 2) := by decide +kernel
theorem dX5_nextRow_98 : decode cX5_nextRow 98 = .ok (.ifnull 13, 3) := by decide +kernel
theorem dX5_nextRow_101 : decode cX5_nextRow 101 = .ok (.aload 4, 2) := by decide +kernel
theorem dX5_nextRow_103 : decode cX5_nextRow 103 = .ok (.getfield 148, 3) := by decide +kernel
theorem dX5_nextRow_106 : decode cX5_nextRow 106 = .ok (.iload 5, 2) := by decide +kernel
theorem dX5_nextRow_108 : decode cX5_nextRow 108 = .ok (.iload 6, 2) := by decide +kernel
theorem dX5_nextRow_110 : decode cX5_nextRow 110 = .ok (.iastore, 1) := by decide +kernel
theorem dX5_nextRow_111 : decode cX5_nextRow 111 = .ok (.iinc 5 1, 3) := by decide +kernel
theorem dX5_nextRow_114 : decode cX5_nextRow 114 = .ok (.goto (-40), 3) := by decide +kernel
theorem dX5_nextRow_117 : decode cX5_nextRow 117 = .ok (.aload 4, 2) := by decide +kernel
theorem dX5_nextRow_119 : decode cX5_nextRow 119 = .ok (.areturn, 1) := by decide +kernel
theorem dX6_init_0 : decode cX6_init 0 = .ok (.aload_n 0, 1) := by decide +kernel
theorem dX6_init_1 : decode cX6_init 1 = .ok (.invokespecial 3, 3) := by decide +kernel
theorem dX6_init_4 : decode cX6_init 4 = .ok (.aload_n 0, 1) := by decide +kernel
theorem dX6_init_5 : decode cX6_init 5 = .ok (.aload_n 1, 1) := by decide +kernel
theorem dX6_init_6 : decode cX6_init 6 = .ok (.putfield 9, 3) := by decide +kernel
theorem dX6_init_9 : decode cX6_init 9 = .ok (.aload_n 0, 1) := by decide +kernel
theorem dX6_init_10 : decode cX6_init 10 = .ok (.aload_n 1, 1) := by decide +kernel
theorem dX6_init_11 : decode cX6_init 11 = .ok (.getfield 15, 3) := by decide +kernel
theorem dX6_init_14 : decode cX6_init 14 = .ok (.newarray .long, 2) := by decide +kernel
theorem dX6_init_16 : decode cX6_init 16 = .ok (.putfield 21, 3) := by decide +kernel
theorem dX6_init_19 : decode cX6_init 19 = .ok (.aload_n 0, 1) := by decide +kernel
theorem dX6_init_20 : decode cX6_init 20 = .ok (.aload_n 1, 1) := by decide +kernel
theorem dX6_init_21 : decode cX6_init 21 = .ok (.getfield 15, 3) := by decide +kernel
theorem dX6_init_24 : decode cX6_init 24 = .ok (.anewarray 4, 3) := by decide +kernel
theorem dX6_init_27 : decode cX6_init 27 = .ok (.putfield 25, 3) := by decide +kernel
theorem dX6_init_30 : decode cX6_init 30 = .ok (.return_, 1) := by decide +kernel
theorem dX6_family_0 : decode cX6_family 0 = .ok (.iconst 4, 1) := by decide +kernel
theorem dX6_family_1 : decode cX6_family 1 = .ok (.ireturn, 1) := by decide +kernel
theorem dX6_kind_0 : decode cX6_kind 0 = .ok (.aload_n 0, 1) := by decide +kernel
theorem dX6_kind_1 : decode cX6_kind 1 = .ok (.getfield 9, 3) := by decide +kernel
theorem dX6_kind_4 : decode cX6_kind 4 = .ok (.getfield 29, 3) := by decide +kernel
theorem dX6_kind_7 : decode cX6_kind 7 = .ok (.ireturn, 1) := by decide +kernel
theorem dX6_version_0 : decode cX6_version 0 = .ok (.aload_n 0, 1) := by decide +kernel
theorem dX6_version_1 : decode cX6_version 1 = .ok (.getfield 9, 3) := by decide +kernel
theorem dX6_version_4 : decode cX6_version 4 = .ok (.getfield 32, 3) := by decide +kernel
theorem dX6_version_7 : decode cX6_version 7 = .ok (.ireturn, 1) := by decide +kernel
theorem dX6_extent_0 : decode cX6_extent 0 = .ok (.aload_n 0, 1) := by decide +kernel
theorem dX6_extent_1 : decode cX6_extent 1 = .ok (.getfield 21, 3) := by decide +kernel
theorem dX6_extent_4 : decode cX6_extent 4 = .ok (.arraylength, 1) := by decide +kernel
theorem dX6_extent_5 : decode cX6_extent 5 = .ok (.ireturn, 1) := by decide +kernel
theorem dX6_isNumber_0 : decode cX6_isNumber 0 = .ok (.aload_n 0, 1) := by decide +kernel
theorem dX6_isNumber_1 : decode cX6_isNumber 1 = .ok (.getfield 9, 3) := by decide +kernel
theorem dX6_isNumber_4 : decode cX6_isNumber 4 = .ok (.getfield 35, 3) := by decide +kernel
theorem dX6_isNumber_7 : decode cX6_isNumber 7 = .ok (.iload_n 1, 1) := by decide +kernel
theorem dX6_isNumber_8 : decode cX6_isNumber 8 = .ok (.aaload, 1) := by decide +kernel
theorem dX6_isNumber_9 : decode cX6_isNumber 9 = .ok (.getfield 39, 3) := by decide +kernel
theorem dX6_isNumber_12 : decode cX6_isNumber 12 = .ok (.iconst 1, 1) := by decide +kernel
theorem dX6_isNumber_13 : decode cX6_isNumber 13 = .ok (.if_icmp .gt 7, 3) := by decide +kernel
theorem dX6_isNumber_16 : decode cX6_isNumber 16 = .ok (.iconst 1, 1) := by decide +kernel
theorem dX6_isNumber_17 : decode cX6_isNumber 17 = .ok (.goto 4, 3) := by decide +kernel
theorem dX6_isNumber_20 : decode cX6_isNumber 20 = .ok (.iconst 0, 1) := by decide +kernel
theorem dX6_isNumber_21 : decode cX6_isNumber 21 = .ok (.ireturn, 1) := by decide +kernel
theorem dX6_put_0 : decode cX6_put 0 = .ok (.aload_n 0, 1) := by decide +kernel
theorem dX6_put_1 : decode cX6_put 1 = .ok (.iload_n 1, 1) := by decide +kernel
theorem dX6_put_2 : decode cX6_put 2 = .ok (.invokevirtual 44, 3) := by decide +kernel
theorem dX6_put_5 : decode cX6_put 5 = .ok (.ifCond .eq 13, 3) := by decide +kernel
theorem dX6_put_8 : decode cX6_put 8 = .ok (.aload_n 0, 1) := by decide +kernel
theorem dX6_put_9 : decode cX6_put 9 = .ok (.getfield 21, 3) := by decide +kernel
theorem dX6_put_12 : decode cX6_put 12 = .ok (.iload_n 1, 1) := by decide +kernel
theorem dX6_put_13 : decode cX6_put 13 = .ok (.lload_n 2, 1) := by decide +kernel
theorem dX6_put_14 : decode cX6_put 14 = .ok (.lastore, 1) := by decide +kernel
theorem dX6_put_15 : decode cX6_put 15 = .ok (.goto 11, 3) := by decide +kernel
theorem dX6_put_18 : decode cX6_put 18 = .ok (.aload_n 0, 1) := by decide +kernel
theorem dX6_put_19 : decode cX6_put 19 = .ok (.getfield 25, 3) := by decide +kernel
theorem dX6_put_22 : decode cX6_put 22 = .ok (.iload_n 1, 1) := by decide +kernel
theorem dX6_put_23 : decode cX6_put 23 = .ok (.aload 4, 2) := by decide +kernel
theorem dX6_put_25 : decode cX6_put 25 = .ok (.aastore, 1) := by decide +kernel
theorem dX6_put_26 : decode cX6_put 26 = .ok (.return_, 1) := by decide +kernel
theorem dX7_init_0 : decode cX7_init 0 = .ok (.aload_n 0, 1) := by decide +kernel
theorem dX7_init_1 : decode cX7_init 1 = .ok (.invokespecial 3, 3) := by decide +kernel
theorem dX7_init_4 : decode cX7_init 4 = .ok (.aload_n 0, 1) := by decide +kernel
theorem dX7_init_5 : decode cX7_init 5 = .ok (.iload_n 1, 1) := by decide +kernel
theorem dX7_init_6 : decode cX7_init 6 = .ok (.putfield 9, 3) := by decide +kernel
theorem dX7_init_9 : decode cX7_init 9 = .ok (.aload_n 0, 1) := by decide +kernel
theorem dX7_init_10 : decode cX7_init 10 = .ok (.iload_n 2, 1) := by decide +kernel
theorem dX7_init_11 : decode cX7_init 11 = .ok (.putfield 15, 3) := by decide +kernel
theorem dX7_init_14 : decode cX7_init 14 = .ok (.aload_n 0, 1) := by decide +kernel
theorem dX7_init_15 : decode cX7_init 15 = .ok (.iconst 5, 1) := by decide +kernel
theorem dX7_init_16 : decode cX7_init 16 = .ok (.anewarray 18, 3) := by decide +kernel
theorem dX7_init_19 : decode cX7_init 19 = .ok (.putfield 20, 3) := by decide +kernel
theorem dX7_init_22 : decode cX7_init 22 = .ok (.aload_n 0, 1) := by decide +kernel
theorem dX7_init_23 : decode cX7_init 23 = .ok (.iconst 2, 1) := by decide +kernel
theorem dX7_init_24 : decode cX7_init 24 = .ok (.anewarray 24, 3) := by decide +kernel
theorem dX7_init_27 : decode cX7_init 27 = .ok (.putfield 26, 3) := by decide +kernel
theorem dX7_init_30 : decode cX7_init 30 = .ok (.return_, 1) := by decide +kernel
theorem dX7_partNamed_0 : decode cX7_partNamed 0 = .ok (.iconst 0, 1) := by decide +kernel
theorem dX7_partNamed_1 : decode cX7_partNamed 1 = .ok (.istore_n 3, 1) := by decide +kernel
theorem dX7_partNamed_2 : decode cX7_partNamed 2 = .ok (.iload_n 3, 1) := by decide +kernel
theorem dX7_partNamed_3 : decode cX7_partNamed 3 = .ok (.aload_n 0, 1) := by decide +kernel
theorem dX7_partNamed_4 : decode cX7_partNamed 4 = .ok (.getfield 30, 3) := by decide +kernel
theorem dX7_partNamed_7 : decode cX7_partNamed 7 = .ok (.if_icmp .ge 26, 3) := by decide +kernel
theorem dX7_partNamed_10 : decode cX7_partNamed 10 = .ok (.aload_n 0, 1) := by decide +kernel
theorem dX7_partNamed_11 : decode cX7_partNamed 11 = .ok (.getfield 20, 3) := by decide +kernel
theorem dX7_partNamed_14 : decode cX7_partNamed 14 = .ok (.iload_n 3, 1) := by decide +kernel
theorem dX7_partNamed_15 : decode cX7_partNamed 15 = .ok (.aaload, 1) := by decide +kernel
theorem dX7_partNamed_16 : decode cX7_partNamed 16 = .ok (.getfield 33, 3) := by decide +kernel
theorem dX7_partNamed_19 : decode cX7_partNamed 19 = .ok (.i2l, 1) := by decide +kernel
theorem dX7_partNamed_20 : decode cX7_partNamed 20 = .ok (.lload_n 1, 1) := by decide +kernel
theorem dX7_partNamed_21 : decode cX7_partNamed 21 = .ok (.lcmp, 1) := by decide +kernel
theorem dX7_partNamed_22 : decode cX7_partNamed 22 = .ok (.ifCond .ne 5, 3) := by decide +kernel
theorem dX7_partNamed_25 : decode cX7_partNamed 25 = .ok (.iload_n 3, 1) := by decide +kernel
theorem dX7_partNamed_26 : decode cX7_partNamed 26 = .ok (.ireturn, 1) := by decide +kernel
theorem dX7_partNamed_27 : decode cX7_partNamed 27 = .ok (.iinc 3 1, 3) := by decide +kernel
theorem dX7_partNamed_30 : decode cX7_partNamed 30 = .ok (.goto (-28), 3) := by decide +kernel
theorem dX7_partNamed_33 : decode cX7_partNamed 33 = .ok (.bipush (-3), 2) := by decide +kernel
theorem dX7_partNamed_35 : decode cX7_partNamed 35 = .ok (.ireturn, 1) := by decide +kernel
theorem dX7_hasPart_0 : decode cX7_hasPart 0 = .ok (.iload_n 1, 1) := by decide +kernel
theorem dX7_hasPart_1 : decode cX7_hasPart 1 = .ok (.aload_n 0, 1) := by decide +kernel
theorem dX7_hasPart_2 : decode cX7_hasPart 2 = .ok (.getfield 30, 3) := by decide +kernel
theorem dX7_hasPart_5 : decode cX7_hasPart 5 = .ok (.invokestatic 36, 3) := by decide +kernel
theorem dX7_hasPart_8 : decode cX7_hasPart 8 = .ok (.ifCond .eq 20, 3) := by decide +kernel
theorem dX7_hasPart_11 : decode cX7_hasPart 11 = .ok (.aload_n 0, 1) := by decide +kernel
theorem dX7_hasPart_12 : decode cX7_hasPart 12 = .ok (.getfield 20, 3) := by decide +kernel
theorem dX7_hasPart_15 : decode cX7_hasPart 15 = .ok (.iload_n 1, 1) := by decide +kernel
theorem dX7_hasPart_16 : decode cX7_hasPart 16 = .ok (.aaload, 1) := by decide +kernel
theorem dX7_hasPart_17 : decode cX7_hasPart 17 = .ok (.getfield 40, 3) := by decide +kernel
theorem dX7_hasPart_20 : decode cX7_hasPart 20 = .ok (.iload_n 2, 1) := by decide +kernel
theorem dX7_hasPart_21 : decode cX7_hasPart 21 = .ok (.if_icmp .ne 7, 3) := by decide +kernel
theorem dX7_hasPart_24 : decode cX7_hasPart 24 = .ok (.iconst 1, 1) := by decide +kernel
theorem dX7_hasPart_25 : decode cX7_hasPart 25 = .ok (.goto 4, 3) := by decide +kernel
theorem dX7_hasPart_28 : decode cX7_hasPart 28 = .ok (.iconst 0, 1) := by decide +kernel
theorem dX7_hasPart_29 : decode cX7_hasPart 29 = .ok (.ireturn, 1) := by decide +kernel
theorem dX7_addPart_0 : decode cX7_addPart 0 = .ok (.aload_n 0, 1) := by decide +kernel
theorem dX7_addPart_1 : decode cX7_addPart 1 = .ok (.getfield 30, 3) := by decide +kernel
theorem dX7_addPart_4 : decode cX7_addPart 4 = .ok (.iconst 5, 1) := by decide +kernel
theorem dX7_addPart_5 : decode cX7_addPart 5 = .ok (.if_icmp .lt 6, 3) := by decide +kernel
theorem dX7_addPart_8 : decode cX7_addPart 8 = .ok (.bipush (-2), 2) := by decide +kernel
theorem dX7_addPart_10 : decode cX7_addPart 10 = .ok (.ireturn, 1) := by decide +kernel
theorem dX7_addPart_11 : decode cX7_addPart 11 = .ok (.aload_n 0, 1) := by decide +kernel
theorem dX7_addPart_12 : decode cX7_addPart 12 = .ok (.getfield 20, 3) := by decide +kernel
theorem dX7_addPart_15 : decode cX7_addPart 15 = .ok (.aload_n 0, 1) := by decide +kernel
theorem dX7_addPart_16 : decode cX7_addPart 16 = .ok (.getfield 30, 3) := by decide +kernel
theorem dX7_addPart_19 : decode cX7_addPart 19 = .ok (.aload_n 1, 1) := by decide +kernel
theorem dX7_addPart_20 : decode cX7_addPart 20 = .ok (.aastore, 1) := by decide +kernel
theorem dX7_addPart_21 : decode cX7_addPart 21 = .ok (.aload_n 0, 1) := by decide +kernel
theorem dX7_addPart_22 : decode cX7_addPart 22 = .ok (.dup, 1) := by decide +kernel
theorem dX7_addPart_23 : decode cX7_addPart 23 = .ok (.getfield 30, 3) := by decide +kernel
theorem dX7_addPart_26 : decode cX7_addPart 26 = .ok (.iconst 1, 1) := by decide +kernel
theorem dX7_addPart_27 : decode cX7_addPart 27 = .ok (.iadd, 1) := by decide +kernel
theorem dX7_addPart_28 : decode cX7_addPart 28 = .ok (.putfield 30, 3) := by decide +kernel
theorem dX7_addPart_31 : decode cX7_addPart 31 = .ok (.aload_n 0, 1) := by decide +kernel
theorem dX7_addPart_32 : decode cX7_addPart 32 = .ok (.getfield 30, 3) := by decide +kernel
theorem dX7_addPart_35 : decode cX7_addPart 35 = .ok (.iconst 1, 1) := by decide +kernel
theorem dX7_addPart_36 : decode cX7_addPart 36 = .ok (.isub, 1) := by decide +kernel
theorem dX7_addPart_37 : decode cX7_addPart 37 = .ok (.ireturn, 1) := by decide +kernel
theorem dX7_addCheck_0 : decode cX7_addCheck 0 = .ok (.aload_n 0, 1) := by decide +kernel
theorem dX7_addCheck_1 : decode cX7_addCheck 1 = .ok (.getfield 43, 3) := by decide +kernel
theorem dX7_addCheck_4 : decode cX7_addCheck 4 = .ok (.iconst 2, 1) := by decide +kernel
theorem dX7_addCheck_5 : decode cX7_addCheck 5 = .ok (.if_icmp .lt 6, 3) := by decide +kernel
theorem dX7_addCheck_8 : decode cX7_addCheck 8 = .ok (.bipush (-2), 2) := by decide +kernel
theorem dX7_addCheck_10 : decode cX7_addCheck 10 = .ok (.ireturn, 1) := by decide +kernel
theorem dX7_addCheck_11 : decode cX7_addCheck 11 = .ok (.aload_n 0, 1) := by decide +kernel
theorem dX7_addCheck_12 : decode cX7_addCheck 12 = .ok (.getfield 26, 3) := by decide +kernel
theorem dX7_addCheck_15 : decode cX7_addCheck 15 = .ok (.aload_n 0, 1) := by decide +kernel
theorem dX7_addCheck_16 : decode cX7_addCheck 16 = .ok (.getfield 43, 3) := by decide +kernel
theorem dX7_addCheck_19 : decode cX7_addCheck 19 = .ok (.aload_n 1, 1) := by decide +kernel
theorem dX7_addCheck_20 : decode cX7_addCheck 20 = .ok (.aastore, 1) := by decide +kernel
theorem dX7_addCheck_21 : decode cX7_addCheck 21 = .ok (.aload_n 0, 1) := by decide +kernel
theorem dX7_addCheck_22 : decode cX7_addCheck 22 = .ok (.dup, 1) := by decide +kernel
theorem dX7_addCheck_23 : decode cX7_addCheck 23 = .ok (.getfield 43, 3) := by decide +kernel
theorem dX7_addCheck_26 : decode cX7_addCheck 26 = .ok (.iconst 1, 1) := by decide +kernel
theorem dX7_addCheck_27 : decode cX7_addCheck 27 = .ok (.iadd, 1) := by decide +kernel
theorem dX7_addCheck_28 : decode cX7_addCheck 28 = .ok (.putfield 43, 3) := by decide +kernel
theorem dX7_addCheck_31 : decode cX7_addCheck 31 = .ok (.aload_n 0, 1) := by decide +kernel
theorem dX7_addCheck_32 : decode cX7_addCheck 32 = .ok (.getfield 43, 3) := by decide +kernel
theorem dX7_addCheck_35 : decode cX7_addCheck 35 = .ok (.iconst 1, 1) := by decide +kernel
theorem dX7_addCheck_36 : decode cX7_addCheck 36 = .ok (.isub, 1) := by decide +kernel
theorem dX7_addCheck_37 : decode cX7_addCheck 37 = .ok (.ireturn, 1) := by decide +kernel
theorem dX7_whyNotMade_0 : decode cX7_whyNotMade 0 = .ok (.iconst 0, 1) := by decide +kernel
theorem dX7_whyNotMade_1 : decode cX7_whyNotMade 1 = .ok (.istore_n 2, 1) := by decide +kernel
theorem dX7_whyNotMade_2 : decode cX7_whyNotMade 2 = .ok (.iload_n 2, 1) := by decide +kernel
theorem dX7_whyNotMade_3 : decode cX7_whyNotMade 3 = .ok (.aload_n 1, 1) := by decide +kernel
theorem dX7_whyNotMade_4 : decode cX7_whyNotMade 4 = .ok (.invokevirtual 46, 3) := by decide +kernel
theorem dX7_whyNotMade_7 : decode cX7_whyNotMade 7 = .ok (.if_icmp .ge 41, 3) := by decide +kernel
theorem dX7_whyNotMade_10 : decode cX7_whyNotMade 10 = .ok (.aload_n 0, 1) := by decide +kernel
theorem dX7_whyNotMade_11 : decode cX7_whyNotMade 11 = .ok (.getfield 20, 3) := by decide +kernel
theorem dX7_whyNotMade_14 : decode cX7_whyNotMade 14 = .ok (.iload_n 2, 1) := by decide +kernel
theorem dX7_whyNotMade_15 : decode cX7_whyNotMade 15 = .ok (.aaload, 1) := by decide +kernel
theorem dX7_whyNotMade_16 : decode cX7_whyNotMade 16 = .ok (.aload_n 1, 1) := by decide +kernel
theorem dX7_whyNotMade_17 : decode cX7_whyNotMade 17 = .ok (.getfield 52, 3) := by decide +kernel
theorem dX7_whyNotMade_20 : decode cX7_whyNotMade 20 = .ok (.iload_n 2, 1) := by decide +kernel
theorem dX7_whyNotMade_21 : decode cX7_whyNotMade 21 = .ok (.laload, 1) := by decide +kernel
theorem dX7_whyNotMade_22 : decode cX7_whyNotMade 22 = .ok (.aload_n 1, 1) := by decide +kernel
theorem dX7_whyNotMade_23 : decode cX7_whyNotMade 23 = .ok (.getfield 56, 3) := by decide +kernel
theorem dX7_whyNotMade_26 : decode cX7_whyNotMade 26 = .ok (.iload_n 2, 1) := by decide +kernel
theorem dX7_whyNotMade_27 : decode cX7_whyNotMade 27 = .ok (.aaload, 1) := by decide +kernel
theorem dX7_whyNotMade_28 : decode cX7_whyNotMade 28 = .ok (.aload_n 0, 1) := by decide +kernel
theorem dX7_whyNotMade_29 : decode cX7_whyNotMade 29 = .ok (.getfield 15, 3) := by decide +kernel
theorem dX7_whyNotMade_32 : decode cX7_whyNotMade 32 = .ok (.invokevirtual 60, 3) := by decide +kernel
theorem dX7_whyNotMade_35 : decode cX7_whyNotMade 35 = .ok (.istore_n 3, 1) := by decide +kernel
theorem dX7_whyNotMade_36 : decode cX7_whyNotMade 36 = .ok (.iload_n 3, 1) := by decide +kernel
theorem dX7_whyNotMade_37 : decode cX7_whyNotMade 37 = .ok (.ifCond .eq 5, 3) := by decide +kernel
theorem dX7_whyNotMade_40 : decode cX7_whyNotMade 40 = .ok (.iload_n 3, 1) := by decide +kernel
theorem dX7_whyNotMade_41 : decode cX7_whyNotMade 41 = .ok (.ireturn, 1) := by decide +kernel
theorem dX7_whyNotMade_42 : decode cX7_whyNotMade 42 = .ok (.iinc 2 1, 3) := by decide +kernel
theorem dX7_whyNotMade_45 : decode cX7_whyNotMade 45 = .ok (.goto (-43), 3) := by decide +kernel
theorem dX7_whyNotMade_48 : decode cX7_whyNotMade 48 = .ok (.iconst 0, 1) := by decide +kernel
theorem dX7_whyNotMade_49 : decode cX7_whyNotMade 49 = .ok (.istore_n 2, 1) := by decide +kernel
theorem dX7_whyNotMade_50 : decode cX7_whyNotMade 50 = .ok (.iload_n 2, 1) := by decide +kernel
theorem dX7_whyNotMade_51 : decode cX7_whyNotMade 51 = .ok (.aload_n 0, 1) := by decide +kernel
theorem dX7_whyNotMade_52 : decode cX7_whyNotMade 52 = .ok (.getfield 43, 3) := by decide +kernel
theorem dX7_whyNotMade_55 : decode cX7_whyNotMade 55 = .ok (.if_icmp .ge 26, 3) := by decide +kernel
theorem dX7_whyNotMade_58 : decode cX7_whyNotMade 58 = .ok (.aload_n 0, 1) := by decide +kernel
theorem dX7_whyNotMade_59 : decode cX7_whyNotMade 59 = .ok (.getfield 26, 3) := by decide +kernel
theorem dX7_whyNotMade_62 : decode cX7_whyNotMade 62 = .ok (.iload_n 2, 1) := by decide +kernel
theorem dX7_whyNotMade_63 : decode cX7_whyNotMade 63 = .ok (.aaload, 1) := by decide +kernel
theorem dX7_whyNotMade_64 : decode cX7_whyNotMade 64 = .ok (.aload_n 1, 1) := by decide +kernel
theorem dX7_whyNotMade_65 : decode cX7_whyNotMade 65 = .ok (.invokevirtual 64, 3) := by decide +kernel
theorem dX7_whyNotMade_68 : decode cX7_whyNotMade 68 = .ok (.istore_n 3, 1) := by decide +kernel
theorem dX7_whyNotMade_69 : decode cX7_whyNotMade 69 = .ok (.iload_n 3, 1) := by decide +kernel
theorem dX7_whyNotMade_70 : decode cX7_whyNotMade 70 = .ok (.ifCond .eq 5, 3) := by decide +kernel
theorem dX7_whyNotMade_73 : decode cX7_whyNotMade 73 = .ok (.iload_n 3, 1) := by decide +kernel
theorem dX7_whyNotMade_74 : decode cX7_whyNotMade 74 = .ok (.ireturn, 1) := by decide +kernel
theorem dX7_whyNotMade_75 : decode cX7_whyNotMade 75 = .ok (.iinc 2 1, 3) := by decide +kernel
theorem dX7_whyNotMade_78 : decode cX7_whyNotMade 78 = .ok (.goto (-28), 3) := by decide +kernel
theorem dX7_whyNotMade_81 : decode cX7_whyNotMade 81 = .ok (.iconst 0, 1) := by decide +kernel
theorem dX7_whyNotMade_82 : decode cX7_whyNotMade 82 = .ok (.ireturn, 1) := by decide +kernel
theorem dX8_init_0 : decode cX8_init 0 = .ok (.aload_n 0, 1) := by decide +kernel
theorem dX8_init_1 : decode cX8_init 1 = .ok (.invokespecial 3, 3) := by decide +kernel
theorem dX8_init_4 : decode cX8_init 4 = .ok (.aload_n 0, 1) := by decide +kernel
theorem dX8_init_5 : decode cX8_init 5 = .ok (.iload_n 1, 1) := by decide +kernel
theorem dX8_init_6 : decode cX8_init 6 = .ok (.iconst 0, 1) := by decide +kernel
theorem dX8_init_7 : decode cX8_init 7 = .ok (.invokestatic 9, 3) := by decide +kernel
theorem dX8_init_10 : decode cX8_init 10 = .ok (.newarray .int, 2) := by decide +kernel
theorem dX8_init_12 : decode cX8_init 12 = .ok (.putfield 15, 3) := by decide +kernel
theorem dX8_init_15 : decode cX8_init 15 = .ok (.return_, 1) := by decide +kernel
theorem dX8_family_0 : decode cX8_family 0 = .ok (.iconst 3, 1) := by decide +kernel
theorem dX8_family_1 : decode cX8_family 1 = .ok (.ireturn, 1) := by decide +kernel
theorem dX8_kind_0 : decode cX8_kind 0 = .ok (.bipush (-3), 2) := by decide +kernel
theorem dX8_kind_2 : decode cX8_kind 2 = .ok (.ireturn, 1) := by decide +kernel
theorem dX8_version_0 : decode cX8_version 0 = .ok (.bipush (-3), 2) := by decide +kernel
theorem dX8_version_2 : decode cX8_version 2 = .ok (.ireturn, 1) := by decide +kernel
theorem dX8_extent_0 : decode cX8_extent 0 = .ok (.aload_n 0, 1) := by decide +kernel
theorem dX8_extent_1 : decode cX8_extent 1 = .ok (.getfield 15, 3) := by decide +kernel
theorem dX8_extent_4 : decode cX8_extent 4 = .ok (.arraylength, 1) := by decide +kernel
theorem dX8_extent_5 : decode cX8_extent 5 = .ok (.ireturn, 1) := by decide +kernel
theorem dX9_init_0 : decode cX9_init 0 = .ok (.aload_n 0, 1) := by decide +kernel
theorem dX9_init_1 : decode cX9_init 1 = .ok (.invokespecial 3, 3) := by decide +kernel
theorem dX9_init_4 : decode cX9_init 4 = .ok (.aload_n 0, 1) := by decide +kernel
theorem dX9_init_5 : decode cX9_init 5 = .ok (.sipush 250, 3) := by decide +kernel
theorem dX9_init_8 : decode cX9_init 8 = .ok (.newarray .long, 2) := by decide +kernel
theorem dX9_init_10 : decode cX9_init 10 = .ok (.putfield 9, 3) := by decide +kernel
theorem dX9_init_13 : decode cX9_init 13 = .ok (.aload_n 0, 1) := by decide +kernel
theorem dX9_init_14 : decode cX9_init 14 = .ok (.sipush 250, 3) := by decide +kernel
theorem dX9_init_17 : decode cX9_init 17 = .ok (.newarray .long, 2) := by decide +kernel
theorem dX9_init_19 : decode cX9_init 19 = .ok (.putfield 15, 3) := by decide +kernel
theorem dX9_init_22 : decode cX9_init 22 = .ok (.return_, 1) := by decide +kernel
theorem dX9_replaceBy_0 : decode cX9_replaceBy 0 = .ok (.aload_n 0, 1) := by decide +kernel
theorem dX9_replaceBy_1 : decode cX9_replaceBy 1 = .ok (.iconst 0, 1) := by decide +kernel
theorem dX9_replaceBy_2 : decode cX9_replaceBy 2 = .ok (.putfield 18, 3) := by decide +kernel
theorem dX9_replaceBy_5 : decode cX9_replaceBy 5 = .ok (.aload_n 0, 1) := by decide +kernel
theorem dX9_replaceBy_6 : decode cX9_replaceBy 6 = .ok (.aload_n 1, 1) := by decide +kernel
theorem dX9_replaceBy_7 : decode cX9_replaceBy 7 = .ok (.iconst 0, 1) := by decide +kernel
theorem dX9_replaceBy_8 : decode cX9_replaceBy 8 = .ok (.invokevirtual 22, 3) := by decide +kernel
theorem dX9_replaceBy_11 : decode cX9_replaceBy 11 = .ok (.aload_n 0, 1) := by decide +kernel
theorem dX9_replaceBy_12 : decode cX9_replaceBy 12 = .ok (.getfield 18, 3) := by decide +kernel
theorem dX9_replaceBy_15 : decode cX9_replaceBy 15 = .ok (.sipush 250, 3) := by decide +kernel
theorem dX9_replaceBy_18 : decode cX9_replaceBy 18 = .ok (.if_icmp .le 6, 3) := by decide +kernel
theorem dX9_replaceBy_21 : decode cX9_replaceBy 21 = .ok (.bipush (-2), 2) := by decide +kernel
theorem dX9_replaceBy_23 : decode cX9_replaceBy 23 = .ok (.ireturn, 1) := by decide +kernel
theorem dX9_replaceBy_24 : decode cX9_replaceBy 24 = .ok (.aload_n 0, 1) := by decide +kernel
theorem dX9_replaceBy_25 : decode cX9_replaceBy 25 = .ok (.getfield 15, 3) := by decide +kernel
theorem dX9_replaceBy_28 : decode cX9_replaceBy 28 = .ok (.iconst 0, 1) := by decide +kernel
theorem dX9_replaceBy_29 : decode cX9_replaceBy 29 = .ok (.aload_n 0, 1) := by decide +kernel
theorem dX9_replaceBy_30 : decode cX9_replaceBy 30 = .ok (.getfield 9, 3) := by decide +kernel
theorem dX9_replaceBy_33 : decode cX9_replaceBy 33 = .ok (.iconst 0, 1) := by decide +kernel
theorem dX9_replaceBy_34 : decode cX9_replaceBy 34 = .ok (.aload_n 0, 1) := by decide +kernel
theorem dX9_replaceBy_35 : decode cX9_replaceBy 35 = .ok (.getfield 18, 3) := by decide +kernel
theorem dX9_replaceBy_38 : decode cX9_replaceBy 38 = .ok (.invokestatic 26, 3) := by decide +kernel
theorem dX9_replaceBy_41 : decode cX9_replaceBy 41 = .ok (.aload_n 0, 1) := by decide +kernel
theorem dX9_replaceBy_42 : decode cX9_replaceBy 42 = .ok (.aload_n 0, 1) := by decide +kernel
theorem dX9_replaceBy_43 : decode cX9_replaceBy 43 = .ok (.getfield 18, 3) := by decide +kernel
theorem dX9_replaceBy_46 : decode cX9_replaceBy 46 = .ok (.putfield 32, 3) := by decide +kernel
theorem dX9_replaceBy_49 : decode cX9_replaceBy 49 = .ok (.aload_n 0, 1) := by decide +kernel
theorem dX9_replaceBy_50 : decode cX9_replaceBy 50 = .ok (.getfield 32, 3) := by decide +kernel
theorem dX9_replaceBy_53 : decode cX9_replaceBy 53 = .ok (.ireturn, 1) := by decide +kernel
theorem dX9_put_0 : decode cX9_put 0 = .ok (.aload_n 0, 1) := by decide +kernel
theorem dX9_put_1 : decode cX9_put 1 = .ok (.getfield 18, 3) := by decide +kernel
theorem dX9_put_4 : decode cX9_put 4 = .ok (.sipush 250, 3) := by decide +kernel
theorem dX9_put_7 : decode cX9_put 7 = .ok (.if_icmp .ge 13, 3) := by decide +kernel
theorem dX9_put_10 : decode cX9_put 10 = .ok (.aload_n 0, 1) := by decide +kernel
theorem dX9_put_11 : decode cX9_put 11 = .ok (.getfield 15, 3) := by decide +kernel
theorem dX9_put_14 : decode cX9_put 14 = .ok (.aload_n 0, 1) := by decide +kernel
theorem dX9_put_15 : decode cX9_put 15 = .ok (.getfield 18, 3) := by decide +kernel
theorem dX9_put_18 : decode cX9_put 18 = .ok (.lload_n 1, 1) := by decide +kernel
theorem dX9_put_19 : decode cX9_put 19 = .ok (.lastore, 1) := by decide +kernel
theorem dX9_put_20 : decode cX9_put 20 = .ok (.aload_n 0, 1) := by decide +kernel
theorem dX9_put_21 : decode cX9_put 21 = .ok (.aload_n 0, 1) := by decide +kernel
theorem dX9_put_22 : decode cX9_put 22 = .ok (.getfield 18, 3) := by decide +kernel
theorem dX9_put_25 : decode cX9_put 25 = .ok (.iconst 1, 1) := by decide +kernel
theorem dX9_put_26 : decode cX9_put 26 = .ok (.iadd, 1) := by decide +kernel
theorem dX9_put_27 : decode cX9_put 27 = .ok (.sipush 251, 3) := by decide +kernel
theorem dX9_put_30 : decode cX9_put 30 = .ok (.invokestatic 35, 3) := by decide +kernel
theorem dX9_put_33 : decode cX9_put 33 = .ok (.putfield 18, 3) := by decide +kernel
theorem dX9_put_36 : decode cX9_put 36 = .ok (.return_, 1) := by decide +kernel
theorem dX9_putRecord_0 : decode cX9_putRecord 0 = .ok (.iload_n 2, 1) := by decide +kernel
theorem dX9_putRecord_1 : decode cX9_putRecord 1 = .ok (.iconst 5, 1) := by decide +kernel
theorem dX9_putRecord_2 : decode cX9_putRecord 2 = .ok (.imul, 1) := by decide +kernel
theorem dX9_putRecord_3 : decode cX9_putRecord 3 = .ok (.sipush 250, 3) := by decide +kernel
theorem dX9_putRecord_6 : decode cX9_putRecord 6 = .ok (.if_icmp .lt 11, 3) := by decide +kernel
theorem dX9_putRecord_9 : decode cX9_putRecord 9 = .ok (.aload_n 0, 1) := by decide +kernel
theorem dX9_putRecord_10 : decode cX9_putRecord 10 = .ok (.sipush 251, 3) := by decide +kernel
theorem dX9_putRecord_13 : decode cX9_putRecord 13 = .ok (.putfield 18, 3) := by decide +kernel
theorem dX9_putRecord_16 : decode cX9_putRecord 16 = .ok (.return_, 1) := by decide +kernel
theorem dX9_putRecord_17 : decode cX9_putRecord 17 = .ok (.aload_n 0, 1) := by decide +kernel
theorem dX9_putRecord_18 : decode cX9_putRecord 18 = .ok (.aload_n 1, 1) := by decide +kernel
theorem dX9_putRecord_19 : decode cX9_putRecord 19 = .ok (.invokevirtual 41, 3) := by decide +kernel
theorem dX9_putRecord_22 : decode cX9_putRecord 22 = .ok (.i2l, 1) := by decide +kernel
theorem dX9_putRecord_23 : decode cX9_putRecord 23 = .ok (.invokevirtual 47, 3) := by decide +kernel
theorem dX9_putRecord_26 : decode cX9_putRecord 26 = .ok (.aload_n 0, 1) := by decide +kernel
theorem dX9_putRecord_27 : decode cX9_putRecord 27 = .ok (.aload_n 1, 1) := by decide +kernel
theorem dX9_putRecord_28 : decode cX9_putRecord 28 = .ok (.invokevirtual 51, 3) := by decide +kernel
theorem dX9_putRecord_31 : decode cX9_putRecord 31 = .ok (.i2l, 1) := by decide +kernel
theorem dX9_putRecord_32 : decode cX9_putRecord 32 = .ok (.invokevirtual 47, 3) := by decide +kernel
theorem dX9_putRecord_35 : decode cX9_putRecord 35 = .ok (.iconst 0, 1) := by decide +kernel
theorem dX9_putRecord_36 : decode cX9_putRecord 36 = .ok (.istore_n 3, 1) := by decide +kernel
theorem dX9_putRecord_37 : decode cX9_putRecord 37 = .ok (.iload_n 3, 1) := by decide +kernel
theorem dX9_putRecord_38 : decode cX9_putRecord 38 = .ok (.aload_n 1, 1) := by decide +kernel
theorem dX9_putRecord_39 : decode cX9_putRecord 39 = .ok (.invokevirtual 51, 3) := by decide +kernel
theorem dX9_putRecord_42 : decode cX9_putRecord 42 = .ok (.if_icmp .ge 60, 3) := by decide +kernel
theorem dX9_putRecord_45 : decode cX9_putRecord 45 = .ok (.aload_n 0, 1) := by decide +kernel
theorem dX9_putRecord_46 : decode cX9_putRecord 46 = .ok (.getfield 18, 3) := by decide +kernel
theorem dX9_putRecord_49 : decode cX9_putRecord 49 = .ok (.sipush 250, 3) := by decide +kernel
theorem dX9_putRecord_52 : decode cX9_putRecord 52 = .ok (.if_icmp .gt 50, 3) := by decide +kernel
theorem dX9_putRecord_55 : decode cX9_putRecord 55 = .ok (.aload_n 0, 1) := by decide +kernel
theorem dX9_putRecord_56 : decode cX9_putRecord 56 = .ok (.aload_n 1, 1) := by decide +kernel
theorem dX9_putRecord_57 : decode cX9_putRecord 57 = .ok (.getfield 54, 3) := by decide +kernel
theorem dX9_putRecord_60 : decode cX9_putRecord 60 = .ok (.getfield 58, 3) := by decide +kernel
theorem dX9_putRecord_63 : decode cX9_putRecord 63 = .ok (.iload_n 3, 1) := by decide +kernel
theorem dX9_putRecord_64 : decode cX9_putRecord 64 = .ok (.aaload, 1) := by decide +kernel
theorem dX9_putRecord_65 : decode cX9_putRecord 65 = .ok (.getfield 64, 3) := by decide +kernel
theorem dX9_putRecord_68 : decode cX9_putRecord 68 = .ok (.i2l, 1) := by decide +kernel
theorem dX9_putRecord_69 : decode cX9_putRecord 69 = .ok (.invokevirtual 47, 3) := by decide +kernel
theorem dX9_putRecord_72 : decode cX9_putRecord 72 = .ok (.aload_n 0, 1) := by decide +kernel
theorem dX9_putRecord_73 : decode cX9_putRecord 73 = .ok (.aload_n 1, 1) := by decide +kernel
theorem dX9_putRecord_74 : decode cX9_putRecord 74 = .ok (.getfield 54, 3) := by decide +kernel
theorem dX9_putRecord_77 : decode cX9_putRecord 77 = .ok (.getfield 58, 3) := by decide +kernel
theorem dX9_putRecord_80 : decode cX9_putRecord 80 = .ok (.iload_n 3, 1) := by decide +kernel
theorem dX9_putRecord_81 : decode cX9_putRecord 81 = .ok (.aaload, 1) := by decide +kernel
theorem dX9_putRecord_82 : decode cX9_putRecord 82 = .ok (.getfield 69, 3) := by decide +kernel
theorem dX9_putRecord_85 : decode cX9_putRecord 85 = .ok (.i2l, 1) := by decide +kernel
theorem dX9_putRecord_86 : decode cX9_putRecord 86 = .ok (.invokevirtual 47, 3) := by decide +kernel
theorem dX9_putRecord_89 : decode cX9_putRecord 89 = .ok (.aload_n 0, 1) := by decide +kernel
theorem dX9_putRecord_90 : decode cX9_putRecord 90 = .ok (.aload_n 1, 1) := by decide +kernel
theorem dX9_putRecord_91 : decode cX9_putRecord 91 = .ok (.iload_n 3, 1) := by decide +kernel
theorem dX9_putRecord_92 : decode cX9_putRecord 92 = .ok (.iload_n 2, 1) := by decide +kernel
theorem dX9_putRecord_93 : decode cX9_putRecord 93 = .ok (.invokevirtual 72, 3) := by decide +kernel
theorem dX9_putRecord_96 : decode cX9_putRecord 96 = .ok (.iinc 3 1, 3) := by decide +kernel
theorem dX9_putRecord_99 : decode cX9_putRecord 99 = .ok (.goto (-62), 3) := by decide +kernel
theorem dX9_putRecord_102 : decode cX9_putRecord 102 = .ok (.return_, 1) := by decide +kernel
theorem dX9_putValue_0 : decode cX9_putValue 0 = .ok (.aload_n 1, 1) := by decide +kernel
theorem dX9_putValue_1 : decode cX9_putValue 1 = .ok (.getfield 76, 3) := by decide +kernel
theorem dX9_putValue_4 : decode cX9_putValue 4 = .ok (.iload_n 2, 1) := by decide +kernel
theorem dX9_putValue_5 : decode cX9_putValue 5 = .ok (.aaload, 1) := by decide +kernel
theorem dX9_putValue_6 : decode cX9_putValue 6 = .ok (.astore 4, 2) := by decide +kernel
theorem dX9_putValue_8 : decode cX9_putValue 8 = .ok (.aload_n 1, 1) := by decide +kernel
theorem dX9_putValue_9 : decode cX9_putValue 9 = .ok (.iload_n 2, 1) := by decide +kernel
theorem dX9_putValue_10 : decode cX9_putValue 10 = .ok (.invokevirtual 80, 3) := by decide +kernel
theorem dX9_putValue_13 : decode cX9_putValue 13 = .ok (.ifCond .eq 16, 3) := by decide +kernel
theorem dX9_putValue_16 : decode cX9_putValue 16 = .ok (.aload_n 0, 1) := by decide +kernel
theorem dX9_putValue_17 : decode cX9_putValue 17 = .ok (.aload_n 1, 1) := by decide +kernel
theorem dX9_putValue_18 : decode cX9_putValue 18 = .ok (.getfield 84, 3) := by decide +kernel
theorem dX9_putValue_21 : decode cX9_putValue 21 = .ok (.iload_n 2, 1) := by decide +kernel
theorem dX9_putValue_22 : decode cX9_putValue 22 = .ok (.laload, 1) := by decide +kernel
theorem dX9_putValue_23 : decode cX9_putValue 23 = .ok (.invokevirtual 47, 3) := by decide +kernel
theorem dX9_putValue_26 : decode cX9_putValue 26 = .ok (.goto 117, 3) := by decide +kernel
theorem dX9_putValue_29 : decode cX9_putValue 29 = .ok (.aload 4, 2) := by decide +kernel
theorem dX9_putValue_31 : decode cX9_putValue 31 = .ok (.instanceof 87, 3) := by decide +kernel
theorem dX9_putValue_34 : decode cX9_putValue 34 = .ok (.ifCond .eq 23, 3) := by decide +kernel
theorem dX9_putValue_37 : decode cX9_putValue 37 = .ok (.aload 4, 2) := by decide +kernel
theorem dX9_putValue_39 : decode cX9_putValue 39 = .ok (.checkcast 87, 3) := by decide +kernel
theorem dX9_putValue_42 : decode cX9_putValue 42 = .ok (.astore 5, 2) := by decide +kernel
theorem dX9_putValue_44 : decode cX9_putValue 44 = .ok (.aload_n 0, 1) := by decide +kernel
theorem dX9_putValue_45 : decode cX9_putValue 45 = .ok (.aload 5, 2) := by decide +kernel
theorem dX9_putValue_47 : decode cX9_putValue 47 = .ok (.getfield 89, 3) := by decide +kernel
theorem dX9_putValue_50 : decode cX9_putValue 50 = .ok (.i2l, 1) := by decide +kernel
theorem dX9_putValue_51 : decode cX9_putValue 51 = .ok (.invokevirtual 47, 3) := by decide +kernel
theorem dX9_putValue_54 : decode cX9_putValue 54 = .ok (.goto 89, 3) := by decide +kernel
theorem dX9_putValue_57 : decode cX9_putValue 57 = .ok (.aload 4, 2) := by decide +kernel
theorem dX9_putValue_59 : decode cX9_putValue 59 = .ok (.instanceof 42, 3) := by decide +kernel
theorem dX9_putValue_62 : decode cX9_putValue 62 = .ok (.ifCond .eq 27, 3) := by decide +kernel
theorem dX9_putValue_65 : decode cX9_putValue 65 = .ok (.aload 4, 2) := by decide +kernel
theorem dX9_putValue_67 : decode cX9_putValue 67 = .ok (.checkcast 42, 3) := by decide +kernel
theorem dX9_putValue_70 : decode cX9_putValue 70 = .ok (.astore 6, 2) := by decide +kernel
theorem dX9_putValue_72 : decode cX9_putValue 72 = .ok (.aload_n 0, 1) := by decide +kernel
theorem dX9_putValue_73 : decode cX9_putValue 73 = .ok (.lconst 1, 1) := by decide +kernel
theorem dX9_putValue_74 : decode cX9_putValue 74 = .ok (.invokevirtual 47, 3) := by decide +kernel
theorem dX9_putValue_77 : decode cX9_putValue 77 = .ok (.aload_n 0, 1) := by decide +kernel
theorem dX9_putValue_78 : decode cX9_putValue 78 = .ok (.aload 6, 2) := by decide +kernel
theorem dX9_putValue_80 : decode cX9_putValue 80 = .ok (.iload_n 3, 1) := by decide +kernel
theorem dX9_putValue_81 : decode cX9_putValue 81 = .ok (.iconst 1, 1) := by decide +kernel
theorem dX9_putValue_82 : decode cX9_putValue 82 = .ok (.iadd, 1) := by decide +kernel
theorem dX9_putValue_83 : decode cX9_putValue 83 = .ok (.invokevirtual 22, 3) := by decide +kernel
theorem dX9_putValue_86 : decode cX9_putValue 86 = .ok (.goto 57, 3) := by decide +kernel
theorem dX9_putValue_89 : decode cX9_putValue 89 = .ok (.aload 4, 2) := by decide +kernel
theorem dX9_putValue_91 : decode cX9_putValue 91 = .ok (.instanceof 90, 3) := by decide +kernel
theorem dX9_putValue_94 : decode cX9_putValue 94 = .ok (.ifCond .eq 22, 3) := by decide +kernel
theorem dX9_putValue_97 : decode cX9_putValue 97 = .ok (.aload 4, 2) := by decide +kernel
theorem dX9_putValue_99 : decode cX9_putValue 99 = .ok (.checkcast 90, 3) := by decide +kernel
theorem dX9_putValue_102 : decode cX9_putValue 102 = .ok (.astore 7, 2) := by decide +kernel
theorem dX9_putValue_104 : decode cX9_putValue 104 = .ok (.aload_n 0, 1) := by decide +kernel
theorem dX9_putValue_105 : decode cX9_putValue 105 = .ok (.aload 7, 2) := by decide +kernel
theorem dX9_putValue_107 : decode cX9_putValue 107 = .ok (.getfield 92, 3) := by decide +kernel
theorem dX9_putValue_110 : decode cX9_putValue 110 = .ok (.invokevirtual 96, 3) := by decide +kernel
theorem dX9_putValue_113 : decode cX9_putValue 113 = .ok (.goto 30, 3) := by decide +kernel
theorem dX9_putValue_116 : decode cX9_putValue 116 = .ok (.aload_n 0, 1) := by decide +kernel
theorem dX9_putValue_117 : decode cX9_putValue 117 = .ok (.aload_n 1, 1) := by decide +kernel
theorem dX9_putValue_118 : decode cX9_putValue 118 = .ok (.getfield 54, 3) := by decide +kernel
theorem dX9_putValue_121 : decode cX9_putValue 121 = .ok (.getfield 58, 3) := by decide +kernel
theorem dX9_putValue_124 : decode cX9_putValue 124 = .ok (.iload_n 2, 1) := by decide +kernel
theorem dX9_putValue_125 : decode cX9_putValue 125 = .ok (.aaload, 1) := by decide +kernel
theorem dX9_putValue_126 : decode cX9_putValue 126 = .ok (.getfield 69, 3) := by decide +kernel
theorem dX9_putValue_129 : decode cX9_putValue 129 = .ok (.iconst 3, 1) := by decide +kernel
theorem dX9_putValue_130 : decode cX9_putValue 130 = .ok (.if_icmp .ne 7, 3) := by decide +kernel
theorem dX9_putValue_133 : decode cX9_putValue 133 = .ok (.lconst 0, 1) := by decide +kernel
theorem dX9_putValue_134 : decode cX9_putValue 134 = .ok (.goto 6, 3) := by decide +kernel
theorem dX9_putValue_137 : decode cX9_putValue 137 = .ok (.ldc2_w 100, 3) := by decide +kernel
theorem dX9_putValue_140 : decode cX9_putValue 140 = .ok (.invokevirtual 47, 3) := by decide +kernel
theorem dX9_putValue_143 : decode cX9_putValue 143 = .ok (.return_, 1) := by decide +kernel
theorem dX9_putItems_0 : decode cX9_putItems 0 = .ok (.aload_n 0, 1) := by decide +kernel
theorem dX9_putItems_1 : decode cX9_putItems 1 = .ok (.aload_n 1, 1) := by decide +kernel
theorem dX9_putItems_2 : decode cX9_putItems 2 = .ok (.arraylength, 1) := by decide +kernel
theorem dX9_putItems_3 : decode cX9_putItems 3 = .ok (.i2l, 1) := by decide +kernel
theorem dX9_putItems_4 : decode cX9_putItems 4 = .ok (.invokevirtual 47, 3) := by decide +kernel
theorem dX9_putItems_7 : decode cX9_putItems 7 = .ok (.iconst 0, 1) := by decide +kernel
theorem dX9_putItems_8 : decode cX9_putItems 8 = .ok (.istore_n 2, 1) := by decide +kernel
theorem dX9_putItems_9 : decode cX9_putItems 9 = .ok (.iload_n 2, 1) := by decide +kernel
theorem dX9_putItems_10 : decode cX9_putItems 10 = .ok (.aload_n 1, 1) := by decide +kernel
theorem dX9_putItems_11 : decode cX9_putItems 11 = .ok (.arraylength, 1) := by decide +kernel
theorem dX9_putItems_12 : decode cX9_putItems 12 = .ok (.if_icmp .ge 17, 3) := by decide +kernel
theorem dX9_putItems_15 : decode cX9_putItems 15 = .ok (.aload_n 0, 1) := by decide +kernel
theorem dX9_putItems_16 : decode cX9_putItems 16 = .ok (.aload_n 1, 1) := by decide +kernel
theorem dX9_putItems_17 : decode cX9_putItems 17 = .ok (.iload_n 2, 1) := by decide +kernel
theorem dX9_putItems_18 : decode cX9_putItems 18 = .ok (.iaload, 1) := by decide +kernel
theorem dX9_putItems_19 : decode cX9_putItems 19 = .ok (.i2l, 1) := by decide +kernel
theorem dX9_putItems_20 : decode cX9_putItems 20 = .ok (.invokevirtual 47, 3) := by decide +kernel
theorem dX9_putItems_23 : decode cX9_putItems 23 = .ok (.iinc 2 1, 3) := by decide +kernel
theorem dX9_putItems_26 : decode cX9_putItems 26 = .ok (.goto (-17), 3) := by decide +kernel
theorem dX9_putItems_29 : decode cX9_putItems 29 = .ok (.return_, 1) := by decide +kernel
theorem dX10_init_0 : decode cX10_init 0 = .ok (.aload_n 0, 1) := by decide +kernel
theorem dX10_init_1 : decode cX10_init 1 = .ok (.invokespecial 1, 3) := by decide +kernel
theorem dX10_init_4 : decode cX10_init 4 = .ok (.return_, 1) := by decide +kernel
theorem dX11_init_0 : decode cX11_init 0 = .ok (.aload_n 0, 1) := by decide +kernel
theorem dX11_init_1 : decode cX11_init 1 = .ok (.invokespecial 1, 3) := by decide +kernel
theorem dX11_init_4 : decode cX11_init 4 = .ok (.aload_n 0, 1) := by decide +kernel
theorem dX11_init_5 : decode cX11_init 5 = .ok (.new 7, 3) := by decide +kernel
theorem dX11_init_8 : decode cX11_init 8 = .ok (.dup, 1) := by decide +kernel
theorem dX11_init_9 : decode cX11_init 9 = .ok (.invokespecial 9, 3) := by decide +kernel
theorem dX11_init_12 : decode cX11_init 12 = .ok (.putfield 10, 3) := by decide +kernel
theorem dX11_init_15 : decode cX11_init 15 = .ok (.aload_n 0, 1) := by decide +kernel
theorem dX11_init_16 : decode cX11_init 16 = .ok (.bipush 10, 2) := by decide +kernel
theorem dX11_init_18 : decode cX11_init 18 = .ok (.anewarray 16, 3) := by decide +kernel
theorem dX11_init_21 : decode cX11_init 21 = .ok (.putfield 18, 3) := by decide +kernel
theorem dX11_init_24 : decode cX11_init 24 = .ok (.aload_n 0, 1) := by decide +kernel
theorem dX11_init_25 : decode cX11_init 25 = .ok (.iconst 5, 1) := by decide +kernel
theorem dX11_init_26 : decode cX11_init 26 = .ok (.newarray .long, 2) := by decide +kernel
theorem dX11_init_28 : decode cX11_init 28 = .ok (.putfield 22, 3) := by decide +kernel
theorem dX11_init_31 : decode cX11_init 31 = .ok (.aload_n 0, 1) := by decide +kernel
theorem dX11_init_32 : decode cX11_init 32 = .ok (.iconst 5, 1) := by decide +kernel
theorem dX11_init_33 : decode cX11_init 33 = .ok (.newarray .int, 2) := by decide +kernel
theorem dX11_init_35 : decode cX11_init 35 = .ok (.putfield 26, 3) := by decide +kernel
theorem dX11_init_38 : decode cX11_init 38 = .ok (.aload_n 0, 1) := by decide +kernel
theorem dX11_init_39 : decode cX11_init 39 = .ok (.new 30, 3) := by decide +kernel
theorem dX11_init_42 : decode cX11_init 42 = .ok (.dup, 1) := by decide +kernel
theorem dX11_init_43 : decode cX11_init 43 = .ok (.invokespecial 32, 3) := by decide +kernel
theorem dX11_init_46 : decode cX11_init 46 = .ok (.putfield 33, 3) := by decide +kernel
theorem dX11_init_49 : decode cX11_init 49 = .ok (.aload_n 0, 1) := by decide +kernel
theorem dX11_init_50 : decode cX11_init 50 = .ok (.iconst (-1), 1) := by decide +kernel
theorem dX11_init_51 : decode cX11_init 51 = .ok (.putfield 37, 3) := by decide +kernel
theorem dX11_init_54 : decode cX11_init 54 = .ok (.aload_n 0, 1) := by decide +kernel
theorem dX11_init_55 : decode cX11_init 55 = .ok (.bipush (-3), 2) := by decide +kernel
theorem dX11_init_57 : decode cX11_init 57 = .ok (.putfield 41, 3) := by decide +kernel
theorem dX11_init_60 : decode cX11_init 60 = .ok (.return_, 1) := by decide +kernel
theorem dX11_constant_0 : decode cX11_constant 0 = .ok (.aload_n 0, 1) := by decide +kernel
theorem dX11_constant_1 : decode cX11_constant 1 = .ok (.getfield 10, 3) := by decide +kernel
theorem dX11_constant_4 : decode cX11_constant 4 = .ok (.iload_n 1, 1) := by decide +kernel
theorem dX11_constant_5 : decode cX11_constant 5 = .ok (.iload_n 2, 1) := by decide +kernel
theorem dX11_constant_6 : decode cX11_constant 6 = .ok (.invokevirtual 44, 3) := by decide +kernel
theorem dX11_constant_9 : decode cX11_constant 9 = .ok (.astore 5, 2) := by decide +kernel
theorem dX11_constant_11 : decode cX11_constant 11 = .ok (.aload 5, 2) := by decide +kernel
theorem dX11_constant_13 : decode cX11_constant 13 = .ok (.ifnull 22, 3) := by decide +kernel
theorem dX11_constant_16 : decode cX11_constant 16 = .ok (.iload_n 3, 1) := by decide +kernel
theorem dX11_constant_17 : decode cX11_constant 17 = .ok (.bipush 10, 2) := by decide +kernel
theorem dX11_constant_19 : decode cX11_constant 19 = .ok (.invokestatic 48, 3) := by decide +kernel
theorem dX11_constant_22 : decode cX11_constant 22 = .ok (.ifCond .eq 13, 3) := by decide +kernel
theorem dX11_constant_25 : decode cX11_constant 25 = .ok (.aload 5, 2) := by decide +kernel
theorem dX11_constant_27 : decode cX11_constant 27 = .ok (.iload_n 3, 1) := by decide +kernel
theorem dX11_constant_28 : decode cX11_constant 28 = .ok (.i2l, 1) := by decide +kernel
theorem dX11_constant_29 : decode cX11_constant 29 = .ok (.invokevirtual 52, 3) := by decide +kernel
theorem dX11_constant_32 : decode cX11_constant 32 = .ok (.ifnull 5, 3) := by decide +kernel
theorem dX11_constant_35 : decode cX11_constant 35 = .ok (.iconst (-1), 1) := by decide +kernel
theorem dX11_constant_36 : decode cX11_constant 36 = .ok (.ireturn, 1) := by decide +kernel
theorem dX11_constant_37 : decode cX11_constant 37 = .ok (.aload 5, 2) := by decide +kernel
theorem dX11_constant_39 : decode cX11_constant 39 = .ok (.iload_n 3, 1) := by decide +kernel
theorem dX11_constant_40 : decode cX11_constant 40 = .ok (.iload 4, 2) := by decide +kernel
theorem dX11_constant_42 : decode cX11_constant 42 = .ok (.invokevirtual 58, 3) := by decide +kernel
theorem dX11_constant_45 : decode cX11_constant 45 = .ok (.ireturn, 1) := by decide +kernel
theorem dX11_part_0 : decode cX11_part 0 = .ok (.aload_n 0, 1) := by decide +kernel
theorem dX11_part_1 : decode cX11_part 1 = .ok (.getfield 10, 3) := by decide +kernel
theorem dX11_part_4 : decode cX11_part 4 = .ok (.iload_n 1, 1) := by decide +kernel
theorem dX11_part_5 : decode cX11_part 5 = .ok (.i2l, 1) := by decide +kernel
theorem dX11_part_6 : decode cX11_part 6 = .ok (.iload_n 2, 1) := by decide +kernel
theorem dX11_part_7 : decode cX11_part 7 = .ok (.invokevirtual 62, 3) := by decide +kernel
theorem dX11_part_10 : decode cX11_part 10 = .ok (.astore 6, 2) := by decide +kernel
theorem dX11_part_12 : decode cX11_part 12 = .ok (.aload 6, 2) := by decide +kernel
theorem dX11_part_14 : decode cX11_part 14 = .ok (.ifnull 31, 3) := by decide +kernel
theorem dX11_part_17 : decode cX11_part 17 = .ok (.iload_n 3, 1) := by decide +kernel
theorem dX11_part_18 : decode cX11_part 18 = .ok (.bipush 10, 2) := by decide +kernel
theorem dX11_part_20 : decode cX11_part 20 = .ok (.invokestatic 48, 3) := by decide +kernel
theorem dX11_part_23 : decode cX11_part 23 = .ok (.ifCond .eq 22, 3) := by decide +kernel
theorem dX11_part_26 : decode cX11_part 26 = .ok (.iload 4, 2) := by decide +kernel
theorem dX11_part_28 : decode cX11_part 28 = .ok (.iconst 5, 1) := by decide +kernel
theorem dX11_part_29 : decode cX11_part 29 = .ok (.invokestatic 48, 3) := by decide +kernel
theorem dX11_part_32 : decode cX11_part 32 = .ok (.ifCond .eq 13, 3) := by decide +kernel
theorem dX11_part_35 : decode cX11_part 35 = .ok (.iload 4, 2) := by decide +kernel
theorem dX11_part_37 : decode cX11_part 37 = .ok (.iload 5, 2) := by decide +kernel
theorem dX11_part_39 : decode cX11_part 39 = .ok (.invokestatic 66, 3) := by decide +kernel
theorem dX11_part_42 : decode cX11_part 42 = .ok (.ifCond .ne 5, 3) := by decide +kernel
theorem dX11_part_45 : decode cX11_part 45 = .ok (.iconst (-1), 1) := by decide +kernel
theorem dX11_part_46 : decode cX11_part 46 = .ok (.ireturn, 1) := by decide +kernel
theorem dX11_part_47 : decode cX11_part 47 = .ok (.aload 6, 2) := by decide +kernel
theorem dX11_part_49 : decode cX11_part 49 = .ok (.iload_n 3, 1) := by decide +kernel
theorem dX11_part_50 : decode cX11_part 50 = .ok (.i2l, 1) := by decide +kernel
theorem dX11_part_51 : decode cX11_part 51 = .ok (.invokevirtual 69, 3) := by decide +kernel
theorem dX11_part_54 : decode cX11_part 54 = .ok (.bipush (-3), 2) := by decide +kernel
theorem dX11_part_56 : decode cX11_part 56 = .ok (.if_icmp .eq 5, 3) := by decide +kernel
theorem dX11_part_59 : decode cX11_part 59 = .ok (.iconst (-1), 1) := by decide +kernel
theorem dX11_part_60 : decode cX11_part 60 = .ok (.ireturn, 1) := by decide +kernel
theorem dX11_part_61 : decode cX11_part 61 = .ok (.aload 6, 2) := by decide +kernel
theorem dX11_part_63 : decode cX11_part 63 = .ok (.new 75, 3) := by decide +kernel
theorem dX11_part_66 : decode cX11_part 66 = .ok (.dup, 1) := by decide +kernel
theorem dX11_part_67 : decode cX11_part 67 = .ok (.iload_n 3, 1) := by decide +kernel
theorem dX11_part_68 : decode cX11_part 68 = .ok (.iload 4, 2) := by decide +kernel
theorem dX11_part_70 : decode cX11_part 70 = .ok (.iload 5, 2) := by decide +kernel
theorem dX11_part_72 : decode cX11_part 72 = .ok (.invokespecial 77, 3) := by decide +kernel
theorem dX11_part_75 : decode cX11_part 75 = .ok (.invokevirtual 80, 3) := by decide +kernel
theorem dX11_part_78 : decode cX11_part 78 = .ok (.ireturn, 1) := by decide +kernel
theorem dX11_check_0 : decode cX11_check 0 = .ok (.aload_n 0, 1) := by decide +kernel
theorem dX11_check_1 : decode cX11_check 1 = .ok (.getfield 10, 3) := by decide +kernel
theorem dX11_check_4 : decode cX11_check 4 = .ok (.iload_n 1, 1) := by decide +kernel
theorem dX11_check_5 : decode cX11_check 5 = .ok (.i2l, 1) := by decide +kernel
theorem dX11_check_6 : decode cX11_check 6 = .ok (.iload_n 2, 1) := by decide +kernel
theorem dX11_check_7 : decode cX11_check 7 = .ok (.invokevirtual 62, 3) := by decide +kernel
theorem dX11_check_10 : decode cX11_check 10 = .ok (.astore 6, 2) := by decide +kernel
theorem dX11_check_12 : decode cX11_check 12 = .ok (.aload 6, 2) := by decide +kernel
theorem dX11_check_14 : decode cX11_check 14 = .ok (.ifnull 25, 3) := by decide +kernel
theorem dX11_check_17 : decode cX11_check 17 = .ok (.iload_n 3, 1) := by decide +kernel
theorem dX11_check_18 : decode cX11_check 18 = .ok (.iconst 5, 1) := by decide +kernel
theorem dX11_check_19 : decode cX11_check 19 = .ok (.invokestatic 48, 3) := by decide +kernel
theorem dX11_check_22 : decode cX11_check 22 = .ok (.ifCond .eq 17, 3) := by decide +kernel
theorem dX11_check_25 : decode cX11_check 25 = .ok (.aload 6, 2) := by decide +kernel
theorem dX11_check_27 : decode cX11_check 27 = .ok (.iload 4, 2) := by decide +kernel
theorem dX11_check_29 : decode cX11_check 29 = .ok (.iload_n 3, 1) := by decide +kernel
theorem dX11_check_30 : decode cX11_check 30 = .ok (.invokestatic 84, 3) := by decide +kernel
theorem dX11_check_33 : decode cX11_check 33 = .ok (.invokevirtual 88, 3) := by decide +kernel
theorem dX11_check_36 : decode cX11_check 36 = .ok (.ifCond .ne 5, 3) := by decide +kernel
theorem dX11_check_39 : decode cX11_check 39 = .ok (.iconst (-1), 1) := by decide +kernel
theorem dX11_check_40 : decode cX11_check 40 = .ok (.ireturn, 1) := by decide +kernel
theorem dX11_check_41 : decode cX11_check 41 = .ok (.iload_n 3, 1) := by decide +kernel
theorem dX11_check_42 : decode cX11_check 42 = .ok (.iconst 1, 1) := by decide +kernel
theorem dX11_check_43 : decode cX11_check 43 = .ok (.if_icmp .eq 16, 3) := by decide +kernel
theorem dX11_check_46 : decode cX11_check 46 = .ok (.aload 6, 2) := by decide +kernel
theorem dX11_check_48 : decode cX11_check 48 = .ok (.iload 5, 2) := by decide +kernel
theorem dX11_check_50 : decode cX11_check 50 = .ok (.iconst 0, 1) := by decide +kernel
theorem dX11_check_51 : decode cX11_check 51 = .ok (.invokevirtual 88, 3) := by decide +kernel
theorem dX11_check_54 : decode cX11_check 54 = .ok (.ifCond .ne 5, 3) := by decide +kernel
theorem dX11_check_57 : decode cX11_check 57 = .ok (.iconst (-1), 1) := by decide +kernel
theorem dX11_check_58 : decode cX11_check 58 = .ok (.ireturn, 1) := by decide +kernel
theorem dX11_check_59 : decode cX11_check 59 = .ok (.aload 6, 2) := by decide +kernel
theorem dX11_check_61 : decode cX11_check 61 = .ok (.new 91, 3) := by decide +kernel
theorem dX11_check_64 : decode cX11_check 64 = .ok (.dup, 1) := by decide +kernel
theorem dX11_check_65 : decode cX11_check 65 = .ok (.iload_n 3, 1) := by decide +kernel
theorem dX11_check_66 : decode cX11_check 66 = .ok (.iload 4, 2) := by decide +kernel
theorem dX11_check_68 : decode cX11_check 68 = .ok (.iload 5, 2) := by decide +kernel
theorem dX11_check_70 : decode cX11_check 70 = .ok (.invokespecial 93, 3) := by decide +kernel
theorem dX11_check_73 : decode cX11_check 73 = .ok (.invokevirtual 94, 3) := by decide +kernel
theorem dX11_check_76 : decode cX11_check 76 = .ok (.ireturn, 1) := by decide +kernel
theorem dX11_hold_0 : decode cX11_hold 0 = .ok (.aload_n 0, 1) := by decide +kernel
theorem dX11_hold_1 : decode cX11_hold 1 = .ok (.getfield 10, 3) := by decide +kernel
theorem dX11_hold_4 : decode cX11_hold 4 = .ok (.iload_n 2, 1) := by decide +kernel
theorem dX11_hold_5 : decode cX11_hold 5 = .ok (.iload_n 3, 1) := by decide +kernel
theorem dX11_hold_6 : decode cX11_hold 6 = .ok (.invokevirtual 44, 3) := by decide +kernel
theorem dX11_hold_9 : decode cX11_hold 9 = .ok (.astore 5, 2) := by decide +kernel
theorem dX11_hold_11 : decode cX11_hold 11 = .ok (.iload_n 1, 1) := by decide +kernel
theorem dX11_hold_12 : decode cX11_hold 12 = .ok (.bipush 10, 2) := by decide +kernel
theorem dX11_hold_14 : decode cX11_hold 14 = .ok (.invokestatic 48, 3) := by decide +kernel
theorem dX11_hold_17 : decode cX11_hold 17 = .ok (.ifCond .eq 18, 3) := by decide +kernel
theorem dX11_hold_20 : decode cX11_hold 20 = .ok (.aload 5, 2) := by decide +kernel
theorem dX11_hold_22 : decode cX11_hold 22 = .ok (.ifnull 13, 3) := by decide +kernel
theorem dX11_hold_25 : decode cX11_hold 25 = .ok (.iload 4, 2) := by decide +kernel
theorem dX11_hold_27 : decode cX11_hold 27 = .ok (.bipush 10, 2) := by decide +kernel
theorem dX11_hold_29 : decode cX11_hold 29 = .ok (.invokestatic 48, 3) := by decide +kernel
theorem dX11_hold_32 : decode cX11_hold 32 = .ok (.ifCond .ne 5, 3) := by decide +kernel
theorem dX11_hold_35 : decode cX11_hold 35 = .ok (.iconst (-1), 1) := by decide +kernel
theorem dX11_hold_36 : decode cX11_hold 36 = .ok (.ireturn, 1) := by decide +kernel
theorem dX11_hold_37 : decode cX11_hold 37 = .ok (.aload 5, 2) := by decide +kernel
theorem dX11_hold_39 : decode cX11_hold 39 = .ok (.iload 4, 2) := by decide +kernel
theorem dX11_hold_41 : decode cX11_hold 41 = .ok (.i2l, 1) := by decide +kernel
theorem dX11_hold_42 : decode cX11_hold 42 = .ok (.invokevirtual 52, 3) := by decide +kernel
theorem dX11_hold_45 : decode cX11_hold 45 = .ok (.astore 6, 2) := by decide +kernel
theorem dX11_hold_47 : decode cX11_hold 47 = .ok (.aload 6, 2) := by decide +kernel
theorem dX11_hold_49 : decode cX11_hold 49 = .ok (.ifnonnull 6, 3) := by decide +kernel
theorem dX11_hold_52 : decode cX11_hold 52 = .ok (.bipush (-3), 2) := by decide +kernel
theorem dX11_hold_54 : decode cX11_hold 54 = .ok (.ireturn, 1) := by decide +kernel
theorem dX11_hold_55 : decode cX11_hold 55 = .ok (.aload_n 0, 1) := by decide +kernel
theorem dX11_hold_56 : decode cX11_hold 56 = .ok (.getfield 18, 3) := by decide +kernel
theorem dX11_hold_59 : decode cX11_hold 59 = .ok (.iload_n 1, 1) := by decide +kernel
theorem dX11_hold_60 : decode cX11_hold 60 = .ok (.aload 6, 2) := by decide +kernel
theorem dX11_hold_62 : decode cX11_hold 62 = .ok (.aastore, 1) := by decide +kernel
theorem dX11_hold_63 : decode cX11_hold 63 = .ok (.aload 6, 2) := by decide +kernel
theorem dX11_hold_65 : decode cX11_hold 65 = .ok (.getfield 98, 3) := by decide +kernel
theorem dX11_hold_68 : decode cX11_hold 68 = .ok (.ireturn, 1) := by decide +kernel
theorem dX11_row_0 : decode cX11_row 0 = .ok (.iload_n 1, 1) := by decide +kernel
theorem dX11_row_1 : decode cX11_row 1 = .ok (.bipush 10, 2) := by decide +kernel
theorem dX11_row_3 : decode cX11_row 3 = .ok (.invokestatic 48, 3) := by decide +kernel
theorem dX11_row_6 : decode cX11_row 6 = .ok (.ifCond .eq 18, 3) := by decide +kernel
theorem dX11_row_9 : decode cX11_row 9 = .ok (.iload_n 2, 1) := by decide +kernel
theorem dX11_row_10 : decode cX11_row 10 = .ok (.bipush (-3), 2) := by decide +kernel
theorem dX11_row_12 : decode cX11_row 12 = .ok (.if_icmp .eq 14, 3) := by decide +kernel
theorem dX11_row_15 : decode cX11_row 15 = .ok (.iload_n 2, 1) := by decide +kernel
theorem dX11_row_16 : decode cX11_row 16 = .ok (.bipush 9, 2) := by decide +kernel
theorem dX11_row_18 : decode cX11_row 18 = .ok (.invokestatic 48, 3) := by decide +kernel
theorem dX11_row_21 : decode cX11_row 21 = .ok (.ifCond .ne 5, 3) := by decide +kernel
theorem dX11_row_24 : decode cX11_row 24 = .ok (.iconst (-1), 1) := by decide +kernel
theorem dX11_row_25 : decode cX11_row 25 = .ok (.ireturn, 1) := by decide +kernel
theorem dX11_row_26 : decode cX11_row 26 = .ok (.aload_n 0, 1) := by decide +kernel
theorem dX11_row_27 : decode cX11_row 27 = .ok (.getfield 18, 3) := by decide +kernel
theorem dX11_row_30 : decode cX11_row 30 = .ok (.iload_n 1, 1) := by decide +kernel
theorem dX11_row_31 : decode cX11_row 31 = .ok (.iload_n 2, 1) := by decide +kernel
theorem dX11_row_32 : decode cX11_row 32 = .ok (.bipush (-3), 2) := by decide +kernel
theorem dX11_row_34 : decode cX11_row 34 = .ok (.if_icmp .ne 7, 3) := by decide +kernel
theorem dX11_row_37 : decode cX11_row 37 = .ok (.aconst_null, 1) := by decide +kernel
theorem dX11_row_38 : decode cX11_row 38 = .ok (.goto 11, 3) := by decide +kernel
theorem dX11_row_41 : decode cX11_row 41 = .ok (.new 103, 3) := by decide +kernel
theorem dX11_row_44 : decode cX11_row 44 = .ok (.dup, 1) := by decide +kernel
theorem dX11_row_45 : decode cX11_row 45 = .ok (.iload_n 2, 1) := by decide +kernel
theorem dX11_row_46 : decode cX11_row 46 = .ok (.invokespecial 105, 3) := by decide +kernel
theorem dX11_row_49 : decode cX11_row 49 = .ok (.aastore, 1) := by decide +kernel
theorem dX11_row_50 : decode cX11_row 50 = .ok (.iconst 1, 1) := by decide +kernel
theorem dX11_row_51 : decode cX11_row 51 = .ok (.ireturn, 1) := by decide +kernel
theorem dX11_item_0 : decode cX11_item 0 = .ok (.iload_n 1, 1) := by decide +kernel
theorem dX11_item_1 : decode cX11_item 1 = .ok (.bipush 10, 2) := by decide +kernel
theorem dX11_item_3 : decode cX11_item 3 = .ok (.invokestatic 48, 3) := by decide +kernel
theorem dX11_item_6 : decode cX11_item 6 = .ok (.ifCond .eq 39, 3) := by decide +kernel
theorem dX11_item_9 : decode cX11_item 9 = .ok (.aload_n 0, 1) := by decide +kernel
theorem dX11_item_10 : decode cX11_item 10 = .ok (.getfield 18, 3) := by decide +kernel
theorem dX11_item_13 : decode cX11_item 13 = .ok (.iload_n 1, 1) := by decide +kernel
theorem dX11_item_14 : decode cX11_item 14 = .ok (.aaload, 1) := by decide +kernel
theorem dX11_item_15 : decode cX11_item 15 = .ok (.astore 5, 2) := by decide +kernel
theorem dX11_item_17 : decode cX11_item 17 = .ok (.aload 5, 2) := by decide +kernel
theorem dX11_item_19 : decode cX11_item 19 = .ok (.instanceof 103, 3) := by decide +kernel
theorem dX11_item_22 : decode cX11_item 22 = .ok (.ifCond .eq 23, 3) := by decide +kernel
theorem dX11_item_25 : decode cX11_item 25 = .ok (.aload 5, 2) := by decide +kernel
theorem dX11_item_27 : decode cX11_item 27 = .ok (.checkcast 103, 3) := by decide +kernel
theorem dX11_item_30 : decode cX11_item 30 = .ok (.astore 4, 2) := by decide +kernel
theorem dX11_item_32 : decode cX11_item 32 = .ok (.iload_n 2, 1) := by decide +kernel
theorem dX11_item_33 : decode cX11_item 33 = .ok (.aload 4, 2) := by decide +kernel
theorem dX11_item_35 : decode cX11_item 35 = .ok (.getfield 108, 3) := by decide +kernel
theorem dX11_item_38 : decode cX11_item 38 = .ok (.arraylength, 1) := by decide +kernel
theorem dX11_item_39 : decode cX11_item 39 = .ok (.invokestatic 48, 3) := by decide +kernel
theorem dX11_item_42 : decode cX11_item 42 = .ok (.ifCond .ne 5, 3) := by decide +kernel
theorem dX11_item_45 : decode cX11_item 45 = .ok (.iconst (-1), 1) := by decide +kernel
theorem dX11_item_46 : decode cX11_item 46 = .ok (.ireturn, 1) := by decide +kernel
theorem dX11_item_47 : decode cX11_item 47 = .ok (.aload 4, 2) := by decide +kernel
theorem dX11_item_49 : decode cX11_item 49 = .ok (.getfield 108, 3) := by decide +kernel
theorem dX11_item_52 : decode cX11_item 52 = .ok (.iload_n 2, 1) := by decide +kernel
theorem dX11_item_53 : decode cX11_item 53 = .ok (.iaload, 1) := by decide +kernel
theorem dX11_item_54 : decode cX11_item 54 = .ok (.istore 5, 2) := by decide +kernel
theorem dX11_item_56 : decode cX11_item 56 = .ok (.aload 4, 2) := by decide +kernel
theorem dX11_item_58 : decode cX11_item 58 = .ok (.getfield 108, 3) := by decide +kernel
theorem dX11_item_61 : decode cX11_item 61 = .ok (.iload_n 2, 1) := by decide +kernel
theorem dX11_item_62 : decode cX11_item 62 = .ok (.iload_n 3, 1) := by decide +kernel
theorem dX11_item_63 : decode cX11_item 63 = .ok (.iastore, 1) := by decide +kernel
theorem dX11_item_64 : decode cX11_item 64 = .ok (.iload 5, 2) := by decide +kernel
theorem dX11_item_66 : decode cX11_item 66 = .ok (.ireturn, 1) := by decide +kernel
theorem dX11_share_0 : decode cX11_share 0 = .ok (.iload_n 1, 1) := by decide +kernel
theorem dX11_share_1 : decode cX11_share 1 = .ok (.bipush 10, 2) := by decide +kernel
theorem dX11_share_3 : decode cX11_share 3 = .ok (.invokestatic 48, 3) := by decide +kernel
theorem dX11_share_6 : decode cX11_share 6 = .ok (.ifCond .eq 12, 3) := by decide +kernel
theorem dX11_share_9 : decode cX11_share 9 = .ok (.iload_n 2, 1) := by decide +kernel
theorem dX11_share_10 : decode cX11_share 10 = .ok (.bipush 10, 2) := by decide +kernel
theorem dX11_share_12 : decode cX11_share 12 = .ok (.invokestatic 48, 3) := by decide +kernel
theorem dX11_share_15 : decode cX11_share 15 = .ok (.ifCond .ne 5, 3) := by decide +kernel
theorem dX11_share_18 : decode cX11_share 18 = .ok (.iconst (-1), 1) := by decide +kernel
theorem dX11_share_19 : decode cX11_share 19 = .ok (.ireturn, 1) := by decide +kernel
theorem dX11_share_20 : decode cX11_share 20 = .ok (.aload_n 0, 1) := by decide +kernel
theorem dX11_share_21 : decode cX11_share 21 = .ok (.getfield 18, 3) := by decide +kernel
theorem dX11_share_24 : decode cX11_share 24 = .ok (.iload_n 1, 1) := by decide +kernel
theorem dX11_share_25 : decode cX11_share 25 = .ok (.aload_n 0, 1) := by decide +kernel
theorem dX11_share_26 : decode cX11_share 26 = .ok (.getfield 18, 3) := by decide +kernel
theorem dX11_share_29 : decode cX11_share 29 = .ok (.iload_n 2, 1) := by decide +kernel
theorem dX11_share_30 : decode cX11_share 30 = .ok (.aaload, 1) := by decide +kernel
theorem dX11_share_31 : decode cX11_share 31 = .ok (.aastore, 1) := by decide +kernel
theorem dX11_share_32 : decode cX11_share 32 = .ok (.aload_n 0, 1) := by decide +kernel
theorem dX11_share_33 : decode cX11_share 33 = .ok (.getfield 18, 3) := by decide +kernel
theorem dX11_share_36 : decode cX11_share 36 = .ok (.iload_n 1, 1) := by decide +kernel
theorem dX11_share_37 : decode cX11_share 37 = .ok (.aaload, 1) := by decide +kernel
theorem dX11_share_38 : decode cX11_share 38 = .ok (.invokestatic 111, 3) := by decide +kernel
theorem dX11_share_41 : decode cX11_share 41 = .ok (.ireturn, 1) := by decide +kernel
theorem dX11_give_0 : decode cX11_give 0 = .ok (.iload_n 1, 1) := by decide +kernel
theorem dX11_give_1 : decode cX11_give 1 = .ok (.iconst 5, 1) := by decide +kernel
theorem dX11_give_2 : decode cX11_give 2 = .ok (.invokestatic 48, 3) := by decide +kernel
theorem dX11_give_5 : decode cX11_give 5 = .ok (.ifCond .eq 13, 3) := by decide +kernel
theorem dX11_give_8 : decode cX11_give 8 = .ok (.iload 4, 2) := by decide +kernel
theorem dX11_give_10 : decode cX11_give 10 = .ok (.bipush 10, 2) := by decide +kernel
theorem dX11_give_12 : decode cX11_give 12 = .ok (.invokestatic 48, 3) := by decide +kernel
theorem dX11_give_15 : decode cX11_give 15 = .ok (.ifCond .ne 5, 3) := by decide +kernel
theorem dX11_give_18 : decode cX11_give 18 = .ok (.iconst (-1), 1) := by decide +kernel
theorem dX11_give_19 : decode cX11_give 19 = .ok (.ireturn, 1) := by decide +kernel
theorem dX11_give_20 : decode cX11_give 20 = .ok (.aload_n 0, 1) := by decide +kernel
theorem dX11_give_21 : decode cX11_give 21 = .ok (.getfield 22, 3) := by decide +kernel
theorem dX11_give_24 : decode cX11_give 24 = .ok (.iload_n 1, 1) := by decide +kernel
theorem dX11_give_25 : decode cX11_give 25 = .ok (.lload_n 2, 1) := by decide +kernel
theorem dX11_give_26 : decode cX11_give 26 = .ok (.lastore, 1) := by decide +kernel
theorem dX11_give_27 : decode cX11_give 27 = .ok (.aload_n 0, 1) := by decide +kernel
theorem dX11_give_28 : decode cX11_give 28 = .ok (.getfield 26, 3) := by decide +kernel
theorem dX11_give_31 : decode cX11_give 31 = .ok (.iload_n 1, 1) := by decide +kernel
theorem dX11_give_32 : decode cX11_give 32 = .ok (.iload 4, 2) := by decide +kernel
theorem dX11_give_34 : decode cX11_give 34 = .ok (.iastore, 1) := by decide +kernel
theorem dX11_give_35 : decode cX11_give 35 = .ok (.iconst 1, 1) := by decide +kernel
theorem dX11_give_36 : decode cX11_give 36 = .ok (.ireturn, 1) := by decide +kernel
theorem dX11_make_0 : decode cX11_make 0 = .ok (.aload_n 0, 1) := by decide +kernel
theorem dX11_make_1 : decode cX11_make 1 = .ok (.getfield 10, 3) := by decide +kernel
theorem dX11_make_4 : decode cX11_make 4 = .ok (.iload_n 1, 1) := by decide +kernel
theorem dX11_make_5 : decode cX11_make 5 = .ok (.i2l, 1) := by decide +kernel
theorem dX11_make_6 : decode cX11_make 6 = .ok (.iload_n 2, 1) := by decide +kernel
theorem dX11_make_7 : decode cX11_make 7 = .ok (.invokevirtual 62, 3) := by decide +kernel
theorem dX11_make_10 : decode cX11_make 10 = .ok (.astore 4, 2) := by decide +kernel
theorem dX11_make_12 : decode cX11_make 12 = .ok (.aload 4, 2) := by decide +kernel
theorem dX11_make_14 : decode cX11_make 14 = .ok (.ifnull 12, 3) := by decide +kernel
theorem dX11_make_17 : decode cX11_make 17 = .ok (.iload_n 3, 1) := by decide +kernel
theorem dX11_make_18 : decode cX11_make 18 = .ok (.bipush 10, 2) := by decide +kernel
theorem dX11_make_20 : decode cX11_make 20 = .ok (.invokestatic 48, 3) := by decide +kernel
theorem dX11_make_23 : decode cX11_make 23 = .ok (.ifCond .ne 5, 3) := by decide +kernel
theorem dX11_make_26 : decode cX11_make 26 = .ok (.iconst (-1), 1) := by decide +kernel
theorem dX11_make_27 : decode cX11_make 27 = .ok (.ireturn, 1) := by decide +kernel
theorem dX11_make_28 : decode cX11_make 28 = .ok (.new 115, 3) := by decide +kernel
theorem dX11_make_31 : decode cX11_make 31 = .ok (.dup, 1) := by decide +kernel
theorem dX11_make_32 : decode cX11_make 32 = .ok (.aload 4, 2) := by decide +kernel
theorem dX11_make_34 : decode cX11_make 34 = .ok (.invokespecial 117, 3) := by decide +kernel
theorem dX11_make_37 : decode cX11_make 37 = .ok (.astore 5, 2) := by decide +kernel
theorem dX11_make_39 : decode cX11_make 39 = .ok (.iconst 0, 1) := by decide +kernel
theorem dX11_make_40 : decode cX11_make 40 = .ok (.istore 6, 2) := by decide +kernel
theorem dX11_make_42 : decode cX11_make 42 = .ok (.iload 6, 2) := by decide +kernel
theorem dX11_make_44 : decode cX11_make 44 = .ok (.aload 5, 2) := by decide +kernel
theorem dX11_make_46 : decode cX11_make 46 = .ok (.invokevirtual 120, 3) := by decide +kernel
theorem dX11_make_49 : decode cX11_make 49 = .ok (.if_icmp .ge 35, 3) := by decide +kernel
theorem dX11_make_52 : decode cX11_make 52 = .ok (.aload 5, 2) := by decide +kernel
theorem dX11_make_54 : decode cX11_make 54 = .ok (.iload 6, 2) := by decide +kernel
theorem dX11_make_56 : decode cX11_make 56 = .ok (.aload_n 0, 1) := by decide +kernel
theorem dX11_make_57 : decode cX11_make 57 = .ok (.getfield 22, 3) := by decide +kernel
theorem dX11_make_60 : decode cX11_make 60 = .ok (.iload 6, 2) := by decide +kernel
theorem dX11_make_62 : decode cX11_make 62 = .ok (.laload, 1) := by decide +kernel
theorem dX11_make_63 : decode cX11_make 63 = .ok (.aload_n 0, 1) := by decide +kernel
theorem dX11_make_64 : decode cX11_make 64 = .ok (.getfield 18, 3) := by decide +kernel
theorem dX11_make_67 : decode cX11_make 67 = .ok (.aload_n 0, 1) := by decide +kernel
theorem dX11_make_68 : decode cX11_make 68 = .ok (.getfield 26, 3) := by decide +kernel
theorem dX11_make_71 : decode cX11_make 71 = .ok (.iload 6, 2) := by decide +kernel
theorem dX11_make_73 : decode cX11_make 73 = .ok (.iaload, 1) := by decide +kernel
theorem dX11_make_74 : decode cX11_make 74 = .ok (.aaload, 1) := by decide +kernel
theorem dX11_make_75 : decode cX11_make 75 = .ok (.invokevirtual 124, 3) := by decide +kernel
theorem dX11_make_78 : decode cX11_make 78 = .ok (.iinc 6 1, 3) := by decide +kernel
theorem dX11_make_81 : decode cX11_make 81 = .ok (.goto (-39), 3) := by decide +kernel
theorem dX11_make_84 : decode cX11_make 84 = .ok (.aload 4, 2) := by decide +kernel
theorem dX11_make_86 : decode cX11_make 86 = .ok (.aload 5, 2) := by decide +kernel
theorem dX11_make_88 : decode cX11_make 88 = .ok (.invokevirtual 128, 3) := by decide +kernel
theorem dX11_make_91 : decode cX11_make 91 = .ok (.istore 6, 2) := by decide +kernel
theorem dX11_make_93 : decode cX11_make 93 = .ok (.iload 6, 2) := by decide +kernel
theorem dX11_make_95 : decode cX11_make 95 = .ok (.ifCond .ne 21, 3) := by decide +kernel
theorem dX11_make_98 : decode cX11_make 98 = .ok (.aload_n 0, 1) := by decide +kernel
theorem dX11_make_99 : decode cX11_make 99 = .ok (.dup, 1) := by decide +kernel
theorem dX11_make_100 : decode cX11_make 100 = .ok (.getfield 132, 3) := by decide +kernel
theorem dX11_make_103 : decode cX11_make 103 = .ok (.iconst 1, 1) := by decide +kernel
theorem dX11_make_104 : decode cX11_make 104 = .ok (.iadd, 1) := by decide +kernel
theorem dX11_make_105 : decode cX11_make 105 = .ok (.putfield 132, 3) := by decide +kernel
theorem dX11_make_108 : decode cX11_make 108 = .ok (.aload_n 0, 1) := by decide +kernel
theorem dX11_make_109 : decode cX11_make 109 = .ok (.getfield 18, 3) := by decide +kernel
theorem dX11_make_112 : decode cX11_make 112 = .ok (.iload_n 3, 1) := by decide +kernel
theorem dX11_make_113 : decode cX11_make 113 = .ok (.aload 5, 2) := by decide +kernel
theorem dX11_make_115 : decode cX11_make 115 = .ok (.aastore, 1) := by decide +kernel
theorem dX11_make_116 : decode cX11_make 116 = .ok (.aload_n 0, 1) := by decide +kernel
theorem dX11_make_117 : decode cX11_make 117 = .ok (.iload 6, 2) := by decide +kernel
theorem dX11_make_119 : decode cX11_make 119 = .ok (.bipush (-3), 2) := by decide +kernel
theorem dX11_make_121 : decode cX11_make 121 = .ok (.iconst 0, 1) := by decide +kernel
theorem dX11_make_122 : decode cX11_make 122 = .ok (.invokevirtual 135, 3) := by decide +kernel
theorem dX11_make_125 : decode cX11_make 125 = .ok (.iload 6, 2) := by decide +kernel
theorem dX11_make_127 : decode cX11_make 127 = .ok (.ireturn, 1) := by decide +kernel
theorem dX11_about_0 : decode cX11_about 0 = .ok (.iload_n 1, 1) := by decide +kernel
theorem dX11_about_1 : decode cX11_about 1 = .ok (.bipush 10, 2) := by decide +kernel
theorem dX11_about_3 : decode cX11_about 3 = .ok (.invokestatic 48, 3) := by decide +kernel
theorem dX11_about_6 : decode cX11_about 6 = .ok (.ifCond .ne 5, 3) := by decide +kernel
theorem dX11_about_9 : decode cX11_about 9 = .ok (.iconst (-1), 1) := by decide +kernel
theorem dX11_about_10 : decode cX11_about 10 = .ok (.ireturn, 1) := by decide +kernel
theorem dX11_about_11 : decode cX11_about 11 = .ok (.aload_n 0, 1) := by decide +kernel
theorem dX11_about_12 : decode cX11_about 12 = .ok (.getfield 18, 3) := by decide +kernel
theorem dX11_about_15 : decode cX11_about 15 = .ok (.iload_n 1, 1) := by decide +kernel
theorem dX11_about_16 : decode cX11_about 16 = .ok (.aaload, 1) := by decide +kernel
theorem dX11_about_17 : decode cX11_about 17 = .ok (.astore_n 3, 1) := by decide +kernel
theorem dX11_about_18 : decode cX11_about 18 = .ok (.iload_n 2, 1) := by decide +kernel
theorem dX11_about_19 : decode cX11_about 19 = .ok (.tableswitch 75 0 3 #[29, 34, 48, 62], 29) := by decide +kernel
theorem dX11_about_48 : decode cX11_about 48 = .ok (.aload_n 3, 1) := by decide +kernel
theorem dX11_about_49 : decode cX11_about 49 = .ok (.invokestatic 111, 3) := by decide +kernel
theorem dX11_about_52 : decode cX11_about 52 = .ok (.ireturn, 1) := by decide +kernel
theorem dX11_about_53 : decode cX11_about 53 = .ok (.aload_n 3, 1) := by decide +kernel
theorem dX11_about_54 : decode cX11_about 54 = .ok (.ifnonnull 8, 3) := by decide +kernel
theorem dX11_about_57 : decode cX11_about 57 = .ok (.bipush (-3), 2) := by decide +kernel
theorem dX11_about_59 : decode cX11_about 59 = .ok (.goto 7, 3) := by decide +kernel
theorem dX11_about_62 : decode cX11_about 62 = .ok (.aload_n 3, 1) := by decide +kernel
theorem dX11_about_63 : decode cX11_about 63 = .ok (.invokevirtual 138, 3) := by decide +kernel
theorem dX11_about_66 : decode cX11_about 66 = .ok (.ireturn, 1) := by decide +kernel
theorem dX11_about_67 : decode cX11_about 67 = .ok (.aload_n 3, 1) := by decide +kernel
theorem dX11_about_68 : decode cX11_about 68 = .ok (.ifnonnull 8, 3) := by decide +kernel
theorem dX11_about_71 : decode cX11_about 71 = .ok (.bipush (-3), 2) := by decide +kernel
theorem dX11_about_73 : decode cX11_about 73 = .ok (.goto 7, 3) := by decide +kernel
theorem dX11_about_76 : decode cX11_about 76 = .ok (.aload_n 3, 1) := by decide +kernel
theorem dX11_about_77 : decode cX11_about 77 = .ok (.invokevirtual 141, 3) := by decide +kernel
theorem dX11_about_80 : decode cX11_about 80 = .ok (.ireturn, 1) := by decide +kernel
theorem dX11_about_81 : decode cX11_about 81 = .ok (.aload_n 3, 1) := by decide +kernel
theorem dX11_about_82 : decode cX11_about 82 = .ok (.ifnonnull 7, 3) := by decide +kernel
theorem dX11_about_85 : decode cX11_about 85 = .ok (.iconst 0, 1) := by decide +kernel
theorem dX11_about_86 : decode cX11_about 86 = .ok (.goto 7, 3) := by decide +kernel
theorem dX11_about_89 : decode cX11_about 89 = .ok (.aload_n 3, 1) := by decide +kernel
theorem dX11_about_90 : decode cX11_about 90 = .ok (.invokevirtual 144, 3) := by decide +kernel
theorem dX11_about_93 : decode cX11_about 93 = .ok (.ireturn, 1) := by decide +kernel
theorem dX11_about_94 : decode cX11_about 94 = .ok (.iconst (-1), 1) := by decide +kernel
theorem dX11_about_95 : decode cX11_about 95 = .ok (.ireturn, 1) := by decide +kernel
theorem dX11_number_0 : decode cX11_number 0 = .ok (.aload_n 0, 1) := by decide +kernel
theorem dX11_number_1 : decode cX11_number 1 = .ok (.iconst (-1), 1) := by decide +kernel
theorem dX11_number_2 : decode cX11_number 2 = .ok (.putfield 37, 3) := by decide +kernel
theorem dX11_number_5 : decode cX11_number 5 = .ok (.iload_n 1, 1) := by decide +kernel
theorem dX11_number_6 : decode cX11_number 6 = .ok (.bipush 10, 2) := by decide +kernel
theorem dX11_number_8 : decode cX11_number 8 = .ok (.invokestatic 48, 3) := by decide +kernel
theorem dX11_number_11 : decode cX11_number 11 = .ok (.ifCond .eq 36, 3) := by decide +kernel
theorem dX11_number_14 : decode cX11_number 14 = .ok (.aload_n 0, 1) := by decide +kernel
theorem dX11_number_15 : decode cX11_number 15 = .ok (.getfield 18, 3) := by decide +kernel
theorem dX11_number_18 : decode cX11_number 18 = .ok (.iload_n 1, 1) := by decide +kernel
theorem dX11_number_19 : decode cX11_number 19 = .ok (.aaload, 1) := by decide +kernel
theorem dX11_number_20 : decode cX11_number 20 = .ok (.astore 4, 2) := by decide +kernel
theorem dX11_number_22 : decode cX11_number 22 = .ok (.aload 4, 2) := by decide +kernel
theorem dX11_number_24 : decode cX11_number 24 = .ok (.instanceof 115, 3) := by decide +kernel
theorem dX11_number_27 : decode cX11_number 27 = .ok (.ifCond .eq 20, 3) := by decide +kernel
theorem dX11_number_30 : decode cX11_number 30 = .ok (.aload 4, 2) := by decide +kernel
theorem dX11_number_32 : decode cX11_number 32 = .ok (.checkcast 115, 3) := by decide +kernel
theorem dX11_number_35 : decode cX11_number 35 = .ok (.astore_n 3, 1) := by decide +kernel
theorem dX11_number_36 : decode cX11_number 36 = .ok (.iload_n 2, 1) := by decide +kernel
theorem dX11_number_37 : decode cX11_number 37 = .ok (.aload_n 3, 1) := by decide +kernel
theorem dX11_number_38 : decode cX11_number 38 = .ok (.invokevirtual 120, 3) := by decide +kernel
theorem dX11_number_41 : decode cX11_number 41 = .ok (.invokestatic 48, 3) := by decide +kernel
theorem dX11_number_44 : decode cX11_number 44 = .ok (.ifCond .ne 5, 3) := by decide +kernel
theorem dX11_number_47 : decode cX11_number 47 = .ok (.lconst 0, 1) := by decide +kernel
theorem dX11_number_48 : decode cX11_number 48 = .ok (.lreturn, 1) := by decide +kernel
theorem dX11_number_49 : decode cX11_number 49 = .ok (.aload_n 0, 1) := by decide +kernel
theorem dX11_number_50 : decode cX11_number 50 = .ok (.iconst 0, 1) := by decide +kernel
theorem dX11_number_51 : decode cX11_number 51 = .ok (.putfield 37, 3) := by decide +kernel
theorem dX11_number_54 : decode cX11_number 54 = .ok (.aload_n 3, 1) := by decide +kernel
theorem dX11_number_55 : decode cX11_number 55 = .ok (.iload_n 2, 1) := by decide +kernel
theorem dX11_number_56 : decode cX11_number 56 = .ok (.invokevirtual 145, 3) := by decide +kernel
theorem dX11_number_59 : decode cX11_number 59 = .ok (.ifCond .eq 12, 3) := by decide +kernel
theorem dX11_number_62 : decode cX11_number 62 = .ok (.aload_n 3, 1) := by decide +kernel
theorem dX11_number_63 : decode cX11_number 63 = .ok (.getfield 149, 3) := by decide +kernel
theorem dX11_number_66 : decode cX11_number 66 = .ok (.iload_n 2, 1) := by decide +kernel
theorem dX11_number_67 : decode cX11_number 67 = .ok (.laload, 1) := by decide +kernel
theorem dX11_number_68 : decode cX11_number 68 = .ok (.goto 16, 3) := by decide +kernel
theorem dX11_number_71 : decode cX11_number 71 = .ok (.aload_n 3, 1) := by decide +kernel
theorem dX11_number_72 : decode cX11_number 72 = .ok (.getfield 152, 3) := by decide +kernel
theorem dX11_number_75 : decode cX11_number 75 = .ok (.iload_n 2, 1) := by decide +kernel
theorem dX11_number_76 : decode cX11_number 76 = .ok (.aaload, 1) := by decide +kernel
theorem dX11_number_77 : decode cX11_number 77 = .ok (.invokestatic 111, 3) := by decide +kernel
theorem dX11_number_80 : decode cX11_number 80 = .ok (.bipush 10, 2) := by decide +kernel
theorem dX11_number_82 : decode cX11_number 82 = .ok (.isub, 1) := by decide +kernel
theorem dX11_number_83 : decode cX11_number 83 = .ok (.i2l, 1) := by decide +kernel
theorem dX11_number_84 : decode cX11_number 84 = .ok (.lreturn, 1) := by decide +kernel
theorem dX11_take_0 : decode cX11_take 0 = .ok (.iload_n 1, 1) := by decide +kernel
theorem dX11_take_1 : decode cX11_take 1 = .ok (.bipush 10, 2) := by decide +kernel
theorem dX11_take_3 : decode cX11_take 3 = .ok (.invokestatic 48, 3) := by decide +kernel
theorem dX11_take_6 : decode cX11_take 6 = .ok (.ifCond .eq 38, 3) := by decide +kernel
theorem dX11_take_9 : decode cX11_take 9 = .ok (.iload_n 3, 1) := by decide +kernel
theorem dX11_take_10 : decode cX11_take 10 = .ok (.bipush 10, 2) := by decide +kernel
theorem dX11_take_12 : decode cX11_take 12 = .ok (.invokestatic 48, 3) := by decide +kernel
theorem dX11_take_15 : decode cX11_take 15 = .ok (.ifCond .eq 29, 3) := by decide +kernel
theorem dX11_take_18 : decode cX11_take 18 = .ok (.aload_n 0, 1) := by decide +kernel
theorem dX11_take_19 : decode cX11_take 19 = .ok (.getfield 18, 3) := by decide +kernel
theorem dX11_take_22 : decode cX11_take 22 = .ok (.iload_n 1, 1) := by decide +kernel
theorem dX11_take_23 : decode cX11_take 23 = .ok (.aaload, 1) := by decide +kernel
theorem dX11_take_24 : decode cX11_take 24 = .ok (.astore 5, 2) := by decide +kernel
theorem dX11_take_26 : decode cX11_take 26 = .ok (.aload 5, 2) := by decide +kernel
theorem dX11_take_28 : decode cX11_take 28 = .ok (.instanceof 115, 3) := by decide +kernel
theorem dX11_take_31 : decode cX11_take 31 = .ok (.ifCond .eq 13, 3) := by decide +kernel
theorem dX11_take_34 : decode cX11_take 34 = .ok (.aload 5, 2) := by decide +kernel
theorem dX11_take_36 : decode cX11_take 36 = .ok (.checkcast 115, 3) := by decide +kernel
theorem dX11_take_39 : decode cX11_take 39 = .ok (.astore 4, 2) := by decide +kernel
theorem dX11_take_41 : decode cX11_take 41 = .ok (.goto 5, 3) := by decide +kernel
theorem dX11_take_44 : decode cX11_take 44 = .ok (.iconst (-1), 1) := by decide +kernel
theorem dX11_take_45 : decode cX11_take 45 = .ok (.ireturn, 1) := by decide +kernel
theorem dX11_take_46 : decode cX11_take 46 = .ok (.iload_n 2, 1) := by decide +kernel
theorem dX11_take_47 : decode cX11_take 47 = .ok (.aload 4, 2) := by decide +kernel
theorem dX11_take_49 : decode cX11_take 49 = .ok (.invokevirtual 120, 3) := by decide +kernel
theorem dX11_take_52 : decode cX11_take 52 = .ok (.invokestatic 48, 3) := by decide +kernel
theorem dX11_take_55 : decode cX11_take 55 = .ok (.ifCond .eq 12, 3) := by decide +kernel
theorem dX11_take_58 : decode cX11_take 58 = .ok (.aload 4, 2) := by decide +kernel
theorem dX11_take_60 : decode cX11_take 60 = .ok (.iload_n 2, 1) := by decide +kernel
theorem dX11_take_61 : decode cX11_take 61 = .ok (.invokevirtual 145, 3) := by decide +kernel
theorem dX11_take_64 : decode cX11_take 64 = .ok (.ifCond .eq 5, 3) := by decide +kernel
theorem dX11_take_67 : decode cX11_take 67 = .ok (.iconst (-1), 1) := by decide +kernel
theorem dX11_take_68 : decode cX11_take 68 = .ok (.ireturn, 1) := by decide +kernel
theorem dX11_take_69 : decode cX11_take 69 = .ok (.aload_n 0, 1) := by decide +kernel
theorem dX11_take_70 : decode cX11_take 70 = .ok (.getfield 18, 3) := by decide +kernel
theorem dX11_take_73 : decode cX11_take 73 = .ok (.iload_n 3, 1) := by decide +kernel
theorem dX11_take_74 : decode cX11_take 74 = .ok (.aload 4, 2) := by decide +kernel
theorem dX11_take_76 : decode cX11_take 76 = .ok (.getfield 152, 3) := by decide +kernel
theorem dX11_take_79 : decode cX11_take 79 = .ok (.iload_n 2, 1) := by decide +kernel
theorem dX11_take_80 : decode cX11_take 80 = .ok (.aaload, 1) := by decide +kernel
theorem dX11_take_81 : decode cX11_take 81 = .ok (.aastore, 1) := by decide +kernel
theorem dX11_take_82 : decode cX11_take 82 = .ok (.aload_n 0, 1) := by decide +kernel
theorem dX11_take_83 : decode cX11_take 83 = .ok (.getfield 18, 3) := by decide +kernel
theorem dX11_take_86 : decode cX11_take 86 = .ok (.iload_n 3, 1) := by decide +kernel
theorem dX11_take_87 : decode cX11_take 87 = .ok (.aaload, 1) := by decide +kernel
theorem dX11_take_88 : decode cX11_take 88 = .ok (.invokestatic 111, 3) := by decide +kernel
theorem dX11_take_91 : decode cX11_take 91 = .ok (.ireturn, 1) := by decide +kernel
theorem dX11_like_0 : decode cX11_like 0 = .ok (.iload_n 1, 1) := by decide +kernel
theorem dX11_like_1 : decode cX11_like 1 = .ok (.bipush 10, 2) := by decide +kernel
theorem dX11_like_3 : decode cX11_like 3 = .ok (.invokestatic 48, 3) := by decide +kernel
theorem dX11_like_6 : decode cX11_like 6 = .ok (.ifCond .eq 12, 3) := by decide +kernel
theorem dX11_like_9 : decode cX11_like 9 = .ok (.iload_n 2, 1) := by decide +kernel
theorem dX11_like_10 : decode cX11_like 10 = .ok (.bipush 10, 2) := by decide +kernel
theorem dX11_like_12 : decode cX11_like 12 = .ok (.invokestatic 48, 3) := by decide +kernel
theorem dX11_like_15 : decode cX11_like 15 = .ok (.ifCond .ne 5, 3) := by decide +kernel
theorem dX11_like_18 : decode cX11_like 18 = .ok (.iconst (-1), 1) := by decide +kernel
theorem dX11_like_19 : decode cX11_like 19 = .ok (.ireturn, 1) := by decide +kernel
theorem dX11_like_20 : decode cX11_like 20 = .ok (.aload_n 0, 1) := by decide +kernel
theorem dX11_like_21 : decode cX11_like 21 = .ok (.getfield 18, 3) := by decide +kernel
theorem dX11_like_24 : decode cX11_like 24 = .ok (.iload_n 1, 1) := by decide +kernel
theorem dX11_like_25 : decode cX11_like 25 = .ok (.aaload, 1) := by decide +kernel
theorem dX11_like_26 : decode cX11_like 26 = .ok (.aload_n 0, 1) := by decide +kernel
theorem dX11_like_27 : decode cX11_like 27 = .ok (.getfield 18, 3) := by decide +kernel
theorem dX11_like_30 : decode cX11_like 30 = .ok (.iload_n 2, 1) := by decide +kernel
theorem dX11_like_31 : decode cX11_like 31 = .ok (.aaload, 1) := by decide +kernel
theorem dX11_like_32 : decode cX11_like 32 = .ok (.iconst 0, 1) := by decide +kernel
theorem dX11_like_33 : decode cX11_like 33 = .ok (.invokestatic 155, 3) := by decide +kernel
theorem dX11_like_36 : decode cX11_like 36 = .ok (.ifCond .eq 7, 3) := by decide +kernel
theorem dX11_like_39 : decode cX11_like 39 = .ok (.iconst 1, 1) := by decide +kernel
theorem dX11_like_40 : decode cX11_like 40 = .ok (.goto 4, 3) := by decide +kernel
theorem dX11_like_43 : decode cX11_like 43 = .ok (.iconst 0, 1) := by decide +kernel
theorem dX11_like_44 : decode cX11_like 44 = .ok (.ireturn, 1) := by decide +kernel
theorem dX11_write_0 : decode cX11_write 0 = .ok (.iload_n 1, 1) := by decide +kernel
theorem dX11_write_1 : decode cX11_write 1 = .ok (.bipush 10, 2) := by decide +kernel
theorem dX11_write_3 : decode cX11_write 3 = .ok (.invokestatic 48, 3) := by decide +kernel
theorem dX11_write_6 : decode cX11_write 6 = .ok (.ifCond .eq 25, 3) := by decide +kernel
theorem dX11_write_9 : decode cX11_write 9 = .ok (.aload_n 0, 1) := by decide +kernel
theorem dX11_write_10 : decode cX11_write 10 = .ok (.getfield 18, 3) := by decide +kernel
theorem dX11_write_13 : decode cX11_write 13 = .ok (.iload_n 1, 1) := by decide +kernel
theorem dX11_write_14 : decode cX11_write 14 = .ok (.aaload, 1) := by decide +kernel
theorem dX11_write_15 : decode cX11_write 15 = .ok (.astore_n 3, 1) := by decide +kernel
theorem dX11_write_16 : decode cX11_write 16 = .ok (.aload_n 3, 1) := by decide +kernel
theorem dX11_write_17 : decode cX11_write 17 = .ok (.instanceof 115, 3) := by decide +kernel
theorem dX11_write_20 : decode cX11_write 20 = .ok (.ifCond .eq 11, 3) := by decide +kernel
theorem dX11_write_23 : decode cX11_write 23 = .ok (.aload_n 3, 1) := by decide +kernel
theorem dX11_write_24 : decode cX11_write 24 = .ok (.checkcast 115, 3) := by decide +kernel
theorem dX11_write_27 : decode cX11_write 27 = .ok (.astore_n 2, 1) := by decide +kernel
theorem dX11_write_28 : decode cX11_write 28 = .ok (.goto 5, 3) := by decide +kernel
theorem dX11_write_31 : decode cX11_write 31 = .ok (.iconst (-1), 1) := by decide +kernel
theorem dX11_write_32 : decode cX11_write 32 = .ok (.ireturn, 1) := by decide +kernel
theorem dX11_write_33 : decode cX11_write 33 = .ok (.aload_n 0, 1) := by decide +kernel
theorem dX11_write_34 : decode cX11_write 34 = .ok (.getfield 33, 3) := by decide +kernel
theorem dX11_write_37 : decode cX11_write 37 = .ok (.aload_n 2, 1) := by decide +kernel
theorem dX11_write_38 : decode cX11_write 38 = .ok (.invokevirtual 159, 3) := by decide +kernel
theorem dX11_write_41 : decode cX11_write 41 = .ok (.ireturn, 1) := by decide +kernel
theorem dX11_leaf_0 : decode cX11_leaf 0 = .ok (.aload_n 0, 1) := by decide +kernel
theorem dX11_leaf_1 : decode cX11_leaf 1 = .ok (.iconst (-1), 1) := by decide +kernel
theorem dX11_leaf_2 : decode cX11_leaf 2 = .ok (.putfield 37, 3) := by decide +kernel
theorem dX11_leaf_5 : decode cX11_leaf 5 = .ok (.iload_n 1, 1) := by decide +kernel
theorem dX11_leaf_6 : decode cX11_leaf 6 = .ok (.aload_n 0, 1) := by decide +kernel
theorem dX11_leaf_7 : decode cX11_leaf 7 = .ok (.getfield 33, 3) := by decide +kernel
theorem dX11_leaf_10 : decode cX11_leaf 10 = .ok (.getfield 162, 3) := by decide +kernel
theorem dX11_leaf_13 : decode cX11_leaf 13 = .ok (.invokestatic 48, 3) := by decide +kernel
theorem dX11_leaf_16 : decode cX11_leaf 16 = .ok (.ifCond .ne 5, 3) := by decide +kernel
theorem dX11_leaf_19 : decode cX11_leaf 19 = .ok (.lconst 0, 1) := by decide +kernel
theorem dX11_leaf_20 : decode cX11_leaf 20 = .ok (.lreturn, 1) := by decide +kernel
theorem dX11_leaf_21 : decode cX11_leaf 21 = .ok (.aload_n 0, 1) := by decide +kernel
theorem dX11_leaf_22 : decode cX11_leaf 22 = .ok (.iconst 0, 1) := by decide +kernel
theorem dX11_leaf_23 : decode cX11_leaf 23 = .ok (.putfield 37, 3) := by decide +kernel
theorem dX11_leaf_26 : decode cX11_leaf 26 = .ok (.aload_n 0, 1) := by decide +kernel
theorem dX11_leaf_27 : decode cX11_leaf 27 = .ok (.getfield 33, 3) := by decide +kernel
theorem dX11_leaf_30 : decode cX11_leaf 30 = .ok (.getfield 165, 3) := by decide +kernel
theorem dX11_leaf_33 : decode cX11_leaf 33 = .ok (.iload_n 1, 1) := by decide +kernel
theorem dX11_leaf_34 : decode cX11_leaf 34 = .ok (.laload, 1) := by decide +kernel
theorem dX11_leaf_35 : decode cX11_leaf 35 = .ok (.lreturn, 1) := by decide +kernel
theorem dX11_set_0 : decode cX11_set 0 = .ok (.iload_n 1, 1) := by decide +kernel
theorem dX11_set_1 : decode cX11_set 1 = .ok (.aload_n 0, 1) := by decide +kernel
theorem dX11_set_2 : decode cX11_set 2 = .ok (.getfield 33, 3) := by decide +kernel
theorem dX11_set_5 : decode cX11_set 5 = .ok (.getfield 162, 3) := by decide +kernel
theorem dX11_set_8 : decode cX11_set 8 = .ok (.iconst 1, 1) := by decide +kernel
theorem dX11_set_9 : decode cX11_set 9 = .ok (.iadd, 1) := by decide +kernel
theorem dX11_set_10 : decode cX11_set 10 = .ok (.invokestatic 48, 3) := by decide +kernel
theorem dX11_set_13 : decode cX11_set 13 = .ok (.ifCond .ne 5, 3) := by decide +kernel
theorem dX11_set_16 : decode cX11_set 16 = .ok (.iconst (-1), 1) := by decide +kernel
theorem dX11_set_17 : decode cX11_set 17 = .ok (.ireturn, 1) := by decide +kernel
theorem dX11_set_18 : decode cX11_set 18 = .ok (.iload_n 1, 1) := by decide +kernel
theorem dX11_set_19 : decode cX11_set 19 = .ok (.sipush 250, 3) := by decide +kernel
theorem dX11_set_22 : decode cX11_set 22 = .ok (.if_icmp .ne 6, 3) := by decide +kernel
theorem dX11_set_25 : decode cX11_set 25 = .ok (.bipush (-2), 2) := by decide +kernel
theorem dX11_set_27 : decode cX11_set 27 = .ok (.ireturn, 1) := by decide +kernel
theorem dX11_set_28 : decode cX11_set 28 = .ok (.aload_n 0, 1) := by decide +kernel
theorem dX11_set_29 : decode cX11_set 29 = .ok (.getfield 33, 3) := by decide +kernel
theorem dX11_set_32 : decode cX11_set 32 = .ok (.getfield 165, 3) := by decide +kernel
theorem dX11_set_35 : decode cX11_set 35 = .ok (.iload_n 1, 1) := by decide +kernel
theorem dX11_set_36 : decode cX11_set 36 = .ok (.lload_n 2, 1) := by decide +kernel
theorem dX11_set_37 : decode cX11_set 37 = .ok (.lastore, 1) := by decide +kernel
theorem dX11_set_38 : decode cX11_set 38 = .ok (.aload_n 0, 1) := by decide +kernel
theorem dX11_set_39 : decode cX11_set 39 = .ok (.getfield 33, 3) := by decide +kernel
theorem dX11_set_42 : decode cX11_set 42 = .ok (.aload_n 0, 1) := by decide +kernel
theorem dX11_set_43 : decode cX11_set 43 = .ok (.getfield 33, 3) := by decide +kernel
theorem dX11_set_46 : decode cX11_set 46 = .ok (.getfield 162, 3) := by decide +kernel
theorem dX11_set_49 : decode cX11_set 49 = .ok (.iload_n 1, 1) := by decide +kernel
theorem dX11_set_50 : decode cX11_set 50 = .ok (.iconst 1, 1) := by decide +kernel
theorem dX11_set_51 : decode cX11_set 51 = .ok (.iadd, 1) := by decide +kernel
theorem dX11_set_52 : decode cX11_set 52 = .ok (.invokestatic 168, 3) := by decide +kernel
theorem dX11_set_55 : decode cX11_set 55 = .ok (.putfield 162, 3) := by decide +kernel
theorem dX11_set_58 : decode cX11_set 58 = .ok (.aload_n 0, 1) := by decide +kernel
theorem dX11_set_59 : decode cX11_set 59 = .ok (.getfield 33, 3) := by decide +kernel
theorem dX11_set_62 : decode cX11_set 62 = .ok (.getfield 162, 3) := by decide +kernel
theorem dX11_set_65 : decode cX11_set 65 = .ok (.ireturn, 1) := by decide +kernel
theorem dX11_cut_0 : decode cX11_cut 0 = .ok (.iload_n 1, 1) := by decide +kernel
theorem dX11_cut_1 : decode cX11_cut 1 = .ok (.aload_n 0, 1) := by decide +kernel
theorem dX11_cut_2 : decode cX11_cut 2 = .ok (.getfield 33, 3) := by decide +kernel
theorem dX11_cut_5 : decode cX11_cut 5 = .ok (.getfield 162, 3) := by decide +kernel
theorem dX11_cut_8 : decode cX11_cut 8 = .ok (.iconst 1, 1) := by decide +kernel
theorem dX11_cut_9 : decode cX11_cut 9 = .ok (.iadd, 1) := by decide +kernel
theorem dX11_cut_10 : decode cX11_cut 10 = .ok (.invokestatic 48, 3) := by decide +kernel
theorem dX11_cut_13 : decode cX11_cut 13 = .ok (.ifCond .ne 5, 3) := by decide +kernel
theorem dX11_cut_16 : decode cX11_cut 16 = .ok (.iconst (-1), 1) := by decide +kernel
theorem dX11_cut_17 : decode cX11_cut 17 = .ok (.ireturn, 1) := by decide +kernel
theorem dX11_cut_18 : decode cX11_cut 18 = .ok (.aload_n 0, 1) := by decide +kernel
theorem dX11_cut_19 : decode cX11_cut 19 = .ok (.getfield 33, 3) := by decide +kernel
theorem dX11_cut_22 : decode cX11_cut 22 = .ok (.getfield 162, 3) := by decide +kernel
theorem dX11_cut_25 : decode cX11_cut 25 = .ok (.iload_n 1, 1) := by decide +kernel
theorem dX11_cut_26 : decode cX11_cut 26 = .ok (.isub, 1) := by decide +kernel
theorem dX11_cut_27 : decode cX11_cut 27 = .ok (.istore_n 2, 1) := by decide +kernel
theorem dX11_cut_28 : decode cX11_cut 28 = .ok (.aload_n 0, 1) := by decide +kernel
theorem dX11_cut_29 : decode cX11_cut 29 = .ok (.getfield 33, 3) := by decide +kernel
theorem dX11_cut_32 : decode cX11_cut 32 = .ok (.iload_n 1, 1) := by decide +kernel
theorem dX11_cut_33 : decode cX11_cut 33 = .ok (.putfield 162, 3) := by decide +kernel
theorem dX11_cut_36 : decode cX11_cut 36 = .ok (.iload_n 2, 1) := by decide +kernel
theorem dX11_cut_37 : decode cX11_cut 37 = .ok (.ireturn, 1) := by decide +kernel
theorem dX11_read_0 : decode cX11_read 0 = .ok (.iload_n 1, 1) := by decide +kernel
theorem dX11_read_1 : decode cX11_read 1 = .ok (.iconst 3, 1) := by decide +kernel
theorem dX11_read_2 : decode cX11_read 2 = .ok (.invokestatic 48, 3) := by decide +kernel
theorem dX11_read_5 : decode cX11_read 5 = .ok (.ifCond .eq 12, 3) := by decide +kernel
theorem dX11_read_8 : decode cX11_read 8 = .ok (.iload_n 2, 1) := by decide +kernel
theorem dX11_read_9 : decode cX11_read 9 = .ok (.bipush 10, 2) := by decide +kernel
theorem dX11_read_11 : decode cX11_read 11 = .ok (.invokestatic 48, 3) := by decide +kernel
theorem dX11_read_14 : decode cX11_read 14 = .ok (.ifCond .ne 5, 3) := by decide +kernel
theorem dX11_read_17 : decode cX11_read 17 = .ok (.iconst (-1), 1) := by decide +kernel
theorem dX11_read_18 : decode cX11_read 18 = .ok (.ireturn, 1) := by decide +kernel
theorem dX11_read_19 : decode cX11_read 19 = .ok (.new 174, 3) := by decide +kernel
theorem dX11_read_22 : decode cX11_read 22 = .ok (.dup, 1) := by decide +kernel
theorem dX11_read_23 : decode cX11_read 23 = .ok (.aload_n 0, 1) := by decide +kernel
theorem dX11_read_24 : decode cX11_read 24 = .ok (.getfield 10, 3) := by decide +kernel
theorem dX11_read_27 : decode cX11_read 27 = .ok (.aload_n 0, 1) := by decide +kernel
theorem dX11_read_28 : decode cX11_read 28 = .ok (.getfield 33, 3) := by decide +kernel
theorem dX11_read_31 : decode cX11_read 31 = .ok (.iload_n 1, 1) := by decide +kernel
theorem dX11_read_32 : decode cX11_read 32 = .ok (.invokespecial 176, 3) := by decide +kernel
theorem dX11_read_35 : decode cX11_read 35 = .ok (.astore_n 3, 1) := by decide +kernel
theorem dX11_read_36 : decode cX11_read 36 = .ok (.aload_n 3, 1) := by decide +kernel
theorem dX11_read_37 : decode cX11_read 37 = .ok (.iconst 1, 1) := by decide +kernel
theorem dX11_read_38 : decode cX11_read 38 = .ok (.invokevirtual 179, 3) := by decide +kernel
theorem dX11_read_41 : decode cX11_read 41 = .ok (.astore 4, 2) := by decide +kernel
theorem dX11_read_43 : decode cX11_read 43 = .ok (.aload_n 0, 1) := by decide +kernel
theorem dX11_read_44 : decode cX11_read 44 = .ok (.dup, 1) := by decide +kernel
theorem dX11_read_45 : decode cX11_read 45 = .ok (.getfield 132, 3) := by decide +kernel
theorem dX11_read_48 : decode cX11_read 48 = .ok (.aload_n 3, 1) := by decide +kernel
theorem dX11_read_49 : decode cX11_read 49 = .ok (.getfield 183, 3) := by decide +kernel
theorem dX11_read_52 : decode cX11_read 52 = .ok (.iadd, 1) := by decide +kernel
theorem dX11_read_53 : decode cX11_read 53 = .ok (.putfield 132, 3) := by decide +kernel
theorem dX11_read_56 : decode cX11_read 56 = .ok (.aload_n 3, 1) := by decide +kernel
theorem dX11_read_57 : decode cX11_read 57 = .ok (.getfield 184, 3) := by decide +kernel
theorem dX11_read_60 : decode cX11_read 60 = .ok (.ifCond .ne 32, 3) := by decide +kernel
theorem dX11_read_63 : decode cX11_read 63 = .ok (.aload_n 0, 1) := by decide +kernel
theorem dX11_read_64 : decode cX11_read 64 = .ok (.dup, 1) := by decide +kernel
theorem dX11_read_65 : decode cX11_read 65 = .ok (.getfield 187, 3) := by decide +kernel
theorem dX11_read_68 : decode cX11_read 68 = .ok (.iconst 1, 1) := by decide +kernel
theorem dX11_read_69 : decode cX11_read 69 = .ok (.iadd, 1) := by decide +kernel
theorem dX11_read_70 : decode cX11_read 70 = .ok (.putfield 187, 3) := by decide +kernel
theorem dX11_read_73 : decode cX11_read 73 = .ok (.aload_n 0, 1) := by decide +kernel
theorem dX11_read_74 : decode cX11_read 74 = .ok (.getfield 18, 3) := by decide +kernel
theorem dX11_read_77 : decode cX11_read 77 = .ok (.iload_n 2, 1) := by decide +kernel
theorem dX11_read_78 : decode cX11_read 78 = .ok (.aload 4, 2) := by decide +kernel
theorem dX11_read_80 : decode cX11_read 80 = .ok (.aastore, 1) := by decide +kernel
theorem dX11_read_81 : decode cX11_read 81 = .ok (.aload_n 0, 1) := by decide +kernel
theorem dX11_read_82 : decode cX11_read 82 = .ok (.iconst 0, 1) := by decide +kernel
theorem dX11_read_83 : decode cX11_read 83 = .ok (.bipush (-3), 2) := by decide +kernel
theorem dX11_read_85 : decode cX11_read 85 = .ok (.iconst 0, 1) := by decide +kernel
theorem dX11_read_86 : decode cX11_read 86 = .ok (.invokevirtual 135, 3) := by decide +kernel
theorem dX11_read_89 : decode cX11_read 89 = .ok (.goto 29, 3) := by decide +kernel
theorem dX11_read_92 : decode cX11_read 92 = .ok (.aload_n 0, 1) := by decide +kernel
theorem dX11_read_93 : decode cX11_read 93 = .ok (.dup, 1) := by decide +kernel
theorem dX11_read_94 : decode cX11_read 94 = .ok (.getfield 190, 3) := by decide +kernel
theorem dX11_read_97 : decode cX11_read 97 = .ok (.iconst 1, 1) := by decide +kernel
theorem dX11_read_98 : decode cX11_read 98 = .ok (.iadd, 1) := by decide +kernel
theorem dX11_read_99 : decode cX11_read 99 = .ok (.putfield 190, 3) := by decide +kernel
theorem dX11_read_102 : decode cX11_read 102 = .ok (.aload_n 0, 1) := by decide +kernel
theorem dX11_read_103 : decode cX11_read 103 = .ok (.aload_n 3, 1) := by decide +kernel
theorem dX11_read_104 : decode cX11_read 104 = .ok (.getfield 184, 3) := by decide +kernel
theorem dX11_read_107 : decode cX11_read 107 = .ok (.aload_n 3, 1) := by decide +kernel
theorem dX11_read_108 : decode cX11_read 108 = .ok (.getfield 193, 3) := by decide +kernel
theorem dX11_read_111 : decode cX11_read 111 = .ok (.aload_n 3, 1) := by decide +kernel
theorem dX11_read_112 : decode cX11_read 112 = .ok (.getfield 196, 3) := by decide +kernel
theorem dX11_read_115 : decode cX11_read 115 = .ok (.invokevirtual 135, 3) := by decide +kernel
theorem dX11_read_118 : decode cX11_read 118 = .ok (.aload_n 3, 1) := by decide +kernel
theorem dX11_read_119 : decode cX11_read 119 = .ok (.getfield 184, 3) := by decide +kernel
theorem dX11_read_122 : decode cX11_read 122 = .ok (.ireturn, 1) := by decide +kernel
theorem dX11_cause_0 : decode cX11_cause 0 = .ok (.iload_n 1, 1) := by decide +kernel
theorem dX11_cause_1 : decode cX11_cause 1 = .ok (.tableswitch 42 0 2 #[27, 32, 37], 27) := by decide +kernel
theorem dX11_cause_28 : decode cX11_cause 28 = .ok (.aload_n 0, 1) := by decide +kernel
theorem dX11_cause_29 : decode cX11_cause 29 = .ok (.getfield 199, 3) := by decide +kernel
theorem dX11_cause_32 : decode cX11_cause 32 = .ok (.ireturn, 1) := by decide +kernel
theorem dX11_cause_33 : decode cX11_cause 33 = .ok (.aload_n 0, 1) := by decide +kernel
theorem dX11_cause_34 : decode cX11_cause 34 = .ok (.getfield 41, 3) := by decide +kernel
theorem dX11_cause_37 : decode cX11_cause 37 = .ok (.ireturn, 1) := by decide +kernel
theorem dX11_cause_38 : decode cX11_cause 38 = .ok (.aload_n 0, 1) := by decide +kernel
theorem dX11_cause_39 : decode cX11_cause 39 = .ok (.getfield 202, 3) := by decide +kernel
theorem dX11_cause_42 : decode cX11_cause 42 = .ok (.ireturn, 1) := by decide +kernel
theorem dX11_cause_43 : decode cX11_cause 43 = .ok (.iconst (-1), 1) := by decide +kernel
theorem dX11_cause_44 : decode cX11_cause 44 = .ok (.ireturn, 1) := by decide +kernel
theorem dX11_status_0 : decode cX11_status 0 = .ok (.aload_n 0, 1) := by decide +kernel
theorem dX11_status_1 : decode cX11_status 1 = .ok (.getfield 37, 3) := by decide +kernel
theorem dX11_status_4 : decode cX11_status 4 = .ok (.ireturn, 1) := by decide +kernel
theorem dX11_count_0 : decode cX11_count 0 = .ok (.iload_n 1, 1) := by decide +kernel
theorem dX11_count_1 : decode cX11_count 1 = .ok (.tableswitch 63 0 4 #[35, 40, 45, 50, 58], 35) := by decide +kernel
theorem dX11_count_36 : decode cX11_count 36 = .ok (.aload_n 0, 1) := by decide +kernel
theorem dX11_count_37 : decode cX11_count 37 = .ok (.getfield 132, 3) := by decide +kernel
theorem dX11_count_40 : decode cX11_count 40 = .ok (.ireturn, 1) := by decide +kernel
theorem dX11_count_41 : decode cX11_count 41 = .ok (.aload_n 0, 1) := by decide +kernel
theorem dX11_count_42 : decode cX11_count 42 = .ok (.getfield 187, 3) := by decide +kernel
theorem dX11_count_45 : decode cX11_count 45 = .ok (.ireturn, 1) := by decide +kernel
theorem dX11_count_46 : decode cX11_count 46 = .ok (.aload_n 0, 1) := by decide +kernel
theorem dX11_count_47 : decode cX11_count 47 = .ok (.getfield 190, 3) := by decide +kernel
theorem dX11_count_50 : decode cX11_count 50 = .ok (.ireturn, 1) := by decide +kernel
theorem dX11_count_51 : decode cX11_count 51 = .ok (.aload_n 0, 1) := by decide +kernel
theorem dX11_count_52 : decode cX11_count 52 = .ok (.getfield 33, 3) := by decide +kernel
theorem dX11_count_55 : decode cX11_count 55 = .ok (.getfield 162, 3) := by decide +kernel
theorem dX11_count_58 : decode cX11_count 58 = .ok (.ireturn, 1) := by decide +kernel
theorem dX11_count_59 : decode cX11_count 59 = .ok (.aload_n 0, 1) := by decide +kernel
theorem dX11_count_60 : decode cX11_count 60 = .ok (.invokevirtual 205, 3) := by decide +kernel
theorem dX11_count_63 : decode cX11_count 63 = .ok (.ireturn, 1) := by decide +kernel
theorem dX11_count_64 : decode cX11_count 64 = .ok (.iconst (-1), 1) := by decide +kernel
theorem dX11_count_65 : decode cX11_count 65 = .ok (.ireturn, 1) := by decide +kernel
theorem dX11_rememberCause_0 : decode cX11_rememberCause 0 = .ok (.aload_n 0, 1) := by decide +kernel
theorem dX11_rememberCause_1 : decode cX11_rememberCause 1 = .ok (.iload_n 1, 1) := by decide +kernel
theorem dX11_rememberCause_2 : decode cX11_rememberCause 2 = .ok (.putfield 199, 3) := by decide +kernel
theorem dX11_rememberCause_5 : decode cX11_rememberCause 5 = .ok (.aload_n 0, 1) := by decide +kernel
theorem dX11_rememberCause_6 : decode cX11_rememberCause 6 = .ok (.iload_n 2, 1) := by decide +kernel
theorem dX11_rememberCause_7 : decode cX11_rememberCause 7 = .ok (.putfield 41, 3) := by decide +kernel
theorem dX11_rememberCause_10 : decode cX11_rememberCause 10 = .ok (.aload_n 0, 1) := by decide +kernel
theorem dX11_rememberCause_11 : decode cX11_rememberCause 11 = .ok (.iload_n 3, 1) := by decide +kernel
theorem dX11_rememberCause_12 : decode cX11_rememberCause 12 = .ok (.putfield 202, 3) := by decide +kernel
theorem dX11_rememberCause_15 : decode cX11_rememberCause 15 = .ok (.return_, 1) := by decide +kernel
theorem dX11_heldPlaces_0 : decode cX11_heldPlaces 0 = .ok (.iconst 0, 1) := by decide +kernel
theorem dX11_heldPlaces_1 : decode cX11_heldPlaces 1 = .ok (.istore_n 1, 1) := by decide +kernel
theorem dX11_heldPlaces_2 : decode cX11_heldPlaces 2 = .ok (.iconst 0, 1) := by decide +kernel
theorem dX11_heldPlaces_3 : decode cX11_heldPlaces 3 = .ok (.istore_n 2, 1) := by decide +kernel
theorem dX11_heldPlaces_4 : decode cX11_heldPlaces 4 = .ok (.iload_n 2, 1) := by decide +kernel
theorem dX11_heldPlaces_5 : decode cX11_heldPlaces 5 = .ok (.bipush 10, 2) := by decide +kernel
theorem dX11_heldPlaces_7 : decode cX11_heldPlaces 7 = .ok (.if_icmp .ge 21, 3) := by decide +kernel
theorem dX11_heldPlaces_10 : decode cX11_heldPlaces 10 = .ok (.aload_n 0, 1) := by decide +kernel
theorem dX11_heldPlaces_11 : decode cX11_heldPlaces 11 = .ok (.getfield 18, 3) := by decide +kernel
theorem dX11_heldPlaces_14 : decode cX11_heldPlaces 14 = .ok (.iload_n 2, 1) := by decide +kernel
theorem dX11_heldPlaces_15 : decode cX11_heldPlaces 15 = .ok (.aaload, 1) := by decide +kernel
theorem dX11_heldPlaces_16 : decode cX11_heldPlaces 16 = .ok (.ifnull 6, 3) := by decide +kernel
theorem dX11_heldPlaces_19 : decode cX11_heldPlaces 19 = .ok (.iinc 1 1, 3) := by decide +kernel
theorem dX11_heldPlaces_22 : decode cX11_heldPlaces 22 = .ok (.iinc 2 1, 3) := by decide +kernel
theorem dX11_heldPlaces_25 : decode cX11_heldPlaces 25 = .ok (.goto (-21), 3) := by decide +kernel
theorem dX11_heldPlaces_28 : decode cX11_heldPlaces 28 = .ok (.iload_n 1, 1) := by decide +kernel
theorem dX11_heldPlaces_29 : decode cX11_heldPlaces 29 = .ok (.ireturn, 1) := by decide +kernel
theorem dX11_below_0 : decode cX11_below 0 = .ok (.iload_n 0, 1) := by decide +kernel
theorem dX11_below_1 : decode cX11_below 1 = .ok (.ifCond .lt 12, 3) := by decide +kernel
theorem dX11_below_4 : decode cX11_below 4 = .ok (.iload_n 0, 1) := by decide +kernel
theorem dX11_below_5 : decode cX11_below 5 = .ok (.iload_n 1, 1) := by decide +kernel
theorem dX11_below_6 : decode cX11_below 6 = .ok (.if_icmp .ge 7, 3) := by decide +kernel
theorem dX11_below_9 : decode cX11_below 9 = .ok (.iconst 1, 1) := by decide +kernel
theorem dX11_below_10 : decode cX11_below 10 = .ok (.goto 4, 3) := by decide +kernel
theorem dX11_below_13 : decode cX11_below 13 = .ok (.iconst 0, 1) := by decide +kernel
theorem dX11_below_14 : decode cX11_below 14 = .ok (.ireturn, 1) := by decide +kernel
theorem dX11_mayBeOf_0 : decode cX11_mayBeOf 0 = .ok (.iload_n 0, 1) := by decide +kernel
theorem dX11_mayBeOf_1 : decode cX11_mayBeOf 1 = .ok (.iconst 2, 1) := by decide +kernel
theorem dX11_mayBeOf_2 : decode cX11_mayBeOf 2 = .ok (.if_icmp .ne 9, 3) := by decide +kernel
theorem dX11_mayBeOf_5 : decode cX11_mayBeOf 5 = .ok (.iload_n 1, 1) := by decide +kernel
theorem dX11_mayBeOf_6 : decode cX11_mayBeOf 6 = .ok (.iconst 2, 1) := by decide +kernel
theorem dX11_mayBeOf_7 : decode cX11_mayBeOf 7 = .ok (.invokestatic 48, 3) := by decide +kernel
theorem dX11_mayBeOf_10 : decode cX11_mayBeOf 10 = .ok (.ireturn, 1) := by decide +kernel
theorem dX11_mayBeOf_11 : decode cX11_mayBeOf 11 = .ok (.iload_n 0, 1) := by decide +kernel
theorem dX11_mayBeOf_12 : decode cX11_mayBeOf 12 = .ok (.iconst 3, 1) := by decide +kernel
theorem dX11_mayBeOf_13 : decode cX11_mayBeOf 13 = .ok (.if_icmp .ne 13, 3) := by decide +kernel
theorem dX11_mayBeOf_16 : decode cX11_mayBeOf 16 = .ok (.iload_n 1, 1) := by decide +kernel
theorem dX11_mayBeOf_17 : decode cX11_mayBeOf 17 = .ok (.iconst 2, 1) := by decide +kernel
theorem dX11_mayBeOf_18 : decode cX11_mayBeOf 18 = .ok (.isub, 1) := by decide +kernel
theorem dX11_mayBeOf_19 : decode cX11_mayBeOf 19 = .ok (.iconst 4, 1) := by decide +kernel
theorem dX11_mayBeOf_20 : decode cX11_mayBeOf 20 = .ok (.invokestatic 48, 3) := by decide +kernel
theorem dX11_mayBeOf_23 : decode cX11_mayBeOf 23 = .ok (.ifCond .eq 7, 3) := by decide +kernel
theorem dX11_mayBeOf_26 : decode cX11_mayBeOf 26 = .ok (.iconst 1, 1) := by decide +kernel
theorem dX11_mayBeOf_27 : decode cX11_mayBeOf 27 = .ok (.goto 4, 3) := by decide +kernel
theorem dX11_mayBeOf_30 : decode cX11_mayBeOf 30 = .ok (.iconst 0, 1) := by decide +kernel
theorem dX11_mayBeOf_31 : decode cX11_mayBeOf 31 = .ok (.ireturn, 1) := by decide +kernel
theorem dX11_sortChecked_0 : decode cX11_sortChecked 0 = .ok (.iload_n 0, 1) := by decide +kernel
theorem dX11_sortChecked_1 : decode cX11_sortChecked 1 = .ok (.tableswitch 33 2 4 #[27, 29, 31], 27) := by decide +kernel
theorem dX11_sortChecked_28 : decode cX11_sortChecked 28 = .ok (.iconst 4, 1) := by decide +kernel
theorem dX11_sortChecked_29 : decode cX11_sortChecked 29 = .ok (.ireturn, 1) := by decide +kernel
theorem dX11_sortChecked_30 : decode cX11_sortChecked 30 = .ok (.iconst 3, 1) := by decide +kernel
theorem dX11_sortChecked_31 : decode cX11_sortChecked 31 = .ok (.ireturn, 1) := by decide +kernel
theorem dX11_sortChecked_32 : decode cX11_sortChecked 32 = .ok (.iconst 2, 1) := by decide +kernel
theorem dX11_sortChecked_33 : decode cX11_sortChecked 33 = .ok (.ireturn, 1) := by decide +kernel
theorem dX11_sortChecked_34 : decode cX11_sortChecked 34 = .ok (.iconst 0, 1) := by decide +kernel
theorem dX11_sortChecked_35 : decode cX11_sortChecked 35 = .ok (.ireturn, 1) := by decide +kernel
theorem dX11_familyOf_0 : decode cX11_familyOf 0 = .ok (.aload_n 0, 1) := by decide +kernel
theorem dX11_familyOf_1 : decode cX11_familyOf 1 = .ok (.ifnonnull 7, 3) := by decide +kernel
theorem dX11_familyOf_4 : decode cX11_familyOf 4 = .ok (.iconst 0, 1) := by decide +kernel
theorem dX11_familyOf_5 : decode cX11_familyOf 5 = .ok (.goto 7, 3) := by decide +kernel
theorem dX11_familyOf_8 : decode cX11_familyOf 8 = .ok (.aload_n 0, 1) := by decide +kernel
theorem dX11_familyOf_9 : decode cX11_familyOf 9 = .ok (.invokevirtual 208, 3) := by decide +kernel
theorem dX11_familyOf_12 : decode cX11_familyOf 12 = .ok (.ireturn, 1) := by decide +kernel
theorem dX11_alike_0 : decode cX11_alike 0 = .ok (.aload_n 0, 1) := by decide +kernel
theorem dX11_alike_1 : decode cX11_alike 1 = .ok (.aload_n 1, 1) := by decide +kernel
theorem dX11_alike_2 : decode cX11_alike 2 = .ok (.if_acmp .ne 5, 3) := by decide +kernel
theorem dX11_alike_5 : decode cX11_alike 5 = .ok (.iconst 1, 1) := by decide +kernel
theorem dX11_alike_6 : decode cX11_alike 6 = .ok (.ireturn, 1) := by decide +kernel
theorem dX11_alike_7 : decode cX11_alike 7 = .ok (.aload_n 0, 1) := by decide +kernel
theorem dX11_alike_8 : decode cX11_alike 8 = .ok (.instanceof 103, 3) := by decide +kernel
theorem dX11_alike_11 : decode cX11_alike 11 = .ok (.ifCond .eq 34, 3) := by decide +kernel
theorem dX11_alike_14 : decode cX11_alike 14 = .ok (.aload_n 0, 1) := by decide +kernel
theorem dX11_alike_15 : decode cX11_alike 15 = .ok (.checkcast 103, 3) := by decide +kernel
theorem dX11_alike_18 : decode cX11_alike 18 = .ok (.astore_n 3, 1) := by decide +kernel
theorem dX11_alike_19 : decode cX11_alike 19 = .ok (.aload_n 1, 1) := by decide +kernel
theorem dX11_alike_20 : decode cX11_alike 20 = .ok (.instanceof 103, 3) := by decide +kernel
theorem dX11_alike_23 : decode cX11_alike 23 = .ok (.ifCond .eq 22, 3) := by decide +kernel
theorem dX11_alike_26 : decode cX11_alike 26 = .ok (.aload_n 1, 1) := by decide +kernel
theorem dX11_alike_27 : decode cX11_alike 27 = .ok (.checkcast 103, 3) := by decide +kernel
theorem dX11_alike_30 : decode cX11_alike 30 = .ok (.astore 4, 2) := by decide +kernel
theorem dX11_alike_32 : decode cX11_alike 32 = .ok (.aload_n 3, 1) := by decide +kernel
theorem dX11_alike_33 : decode cX11_alike 33 = .ok (.getfield 108, 3) := by decide +kernel
theorem dX11_alike_36 : decode cX11_alike 36 = .ok (.aload 4, 2) := by decide +kernel
theorem dX11_alike_38 : decode cX11_alike 38 = .ok (.getfield 108, 3) := by decide +kernel
theorem dX11_alike_41 : decode cX11_alike 41 = .ok (.invokestatic 211, 3) := by decide +kernel
theorem dX11_alike_44 : decode cX11_alike 44 = .ok (.ireturn, 1) := by decide +kernel
theorem dX11_alike_45 : decode cX11_alike 45 = .ok (.iload_n 2, 1) := by decide +kernel
theorem dX11_alike_46 : decode cX11_alike 46 = .ok (.bipush 6, 2) := by decide +kernel
theorem dX11_alike_48 : decode cX11_alike 48 = .ok (.if_icmp .ge 36, 3) := by decide +kernel
theorem dX11_alike_51 : decode cX11_alike 51 = .ok (.aload_n 0, 1) := by decide +kernel
theorem dX11_alike_52 : decode cX11_alike 52 = .ok (.instanceof 115, 3) := by decide +kernel
theorem dX11_alike_55 : decode cX11_alike 55 = .ok (.ifCond .eq 29, 3) := by decide +kernel
theorem dX11_alike_58 : decode cX11_alike 58 = .ok (.aload_n 0, 1) := by decide +kernel
theorem dX11_alike_59 : decode cX11_alike 59 = .ok (.checkcast 115, 3) := by decide +kernel
theorem dX11_alike_62 : decode cX11_alike 62 = .ok (.astore_n 3, 1) := by decide +kernel
theorem dX11_alike_63 : decode cX11_alike 63 = .ok (.aload_n 1, 1) := by decide +kernel
theorem dX11_alike_64 : decode cX11_alike 64 = .ok (.instanceof 115, 3) := by decide +kernel
theorem dX11_alike_67 : decode cX11_alike 67 = .ok (.ifCond .eq 17, 3) := by decide +kernel
theorem dX11_alike_70 : decode cX11_alike 70 = .ok (.aload_n 1, 1) := by decide +kernel
theorem dX11_alike_71 : decode cX11_alike 71 = .ok (.checkcast 115, 3) := by decide +kernel
theorem dX11_alike_74 : decode cX11_alike 74 = .ok (.astore 4, 2) := by decide +kernel
theorem dX11_alike_76 : decode cX11_alike 76 = .ok (.aload_n 3, 1) := by decide +kernel
theorem dX11_alike_77 : decode cX11_alike 77 = .ok (.aload 4, 2) := by decide +kernel
theorem dX11_alike_79 : decode cX11_alike 79 = .ok (.iload_n 2, 1) := by decide +kernel
theorem dX11_alike_80 : decode cX11_alike 80 = .ok (.invokestatic 215, 3) := by decide +kernel
theorem dX11_alike_83 : decode cX11_alike 83 = .ok (.ireturn, 1) := by decide +kernel
theorem dX11_alike_84 : decode cX11_alike 84 = .ok (.iconst 0, 1) := by decide +kernel
theorem dX11_alike_85 : decode cX11_alike 85 = .ok (.ireturn, 1) := by decide +kernel
theorem dX11_alikeRecords_0 : decode cX11_alikeRecords 0 = .ok (.aload_n 0, 1) := by decide +kernel
theorem dX11_alikeRecords_1 : decode cX11_alikeRecords 1 = .ok (.getfield 219, 3) := by decide +kernel
theorem dX11_alikeRecords_4 : decode cX11_alikeRecords 4 = .ok (.aload_n 1, 1) := by decide +kernel
theorem dX11_alikeRecords_5 : decode cX11_alikeRecords 5 = .ok (.getfield 219, 3) := by decide +kernel
theorem dX11_alikeRecords_8 : decode cX11_alikeRecords 8 = .ok (.if_acmp .ne 14, 3) := by decide +kernel
theorem dX11_alikeRecords_11 : decode cX11_alikeRecords 11 = .ok (.aload_n 0, 1) := by decide +kernel
theorem dX11_alikeRecords_12 : decode cX11_alikeRecords 12 = .ok (.invokevirtual 120, 3) := by decide +kernel
theorem dX11_alikeRecords_15 : decode cX11_alikeRecords 15 = .ok (.aload_n 1, 1) := by decide +kernel
theorem dX11_alikeRecords_16 : decode cX11_alikeRecords 16 = .ok (.invokevirtual 120, 3) := by decide +kernel
theorem dX11_alikeRecords_19 : decode cX11_alikeRecords 19 = .ok (.if_icmp .eq 5, 3) := by decide +kernel
theorem dX11_alikeRecords_22 : decode cX11_alikeRecords 22 = .ok (.iconst 0, 1) := by decide +kernel
theorem dX11_alikeRecords_23 : decode cX11_alikeRecords 23 = .ok (.ireturn, 1) := by decide +kernel
theorem dX11_alikeRecords_24 : decode cX11_alikeRecords 24 = .ok (.iconst 0, 1) := by decide +kernel
theorem dX11_alikeRecords_25 : decode cX11_alikeRecords 25 = .ok (.istore_n 3, 1) := by decide +kernel
theorem dX11_alikeRecords_26 : decode cX11_alikeRecords 26 = .ok (.iload_n 3, 1) := by decide +kernel
theorem dX11_alikeRecords_27 : decode cX11_alikeRecords 27 = .ok (.aload_n 0, 1) := by decide +kernel
theorem dX11_alikeRecords_28 : decode cX11_alikeRecords 28 = .ok (.invokevirtual 120, 3) := by decide +kernel
theorem dX11_alikeRecords_31 : decode cX11_alikeRecords 31 = .ok (.if_icmp .ge 27, 3) := by decide +kernel
theorem dX11_alikeRecords_34 : decode cX11_alikeRecords 34 = .ok (.aload_n 0, 1) := by decide +kernel
theorem dX11_alikeRecords_35 : decode cX11_alikeRecords 35 = .ok (.getfield 149, 3) := by decide +kernel
theorem dX11_alikeRecords_38 : decode cX11_alikeRecords 38 = .ok (.iload_n 3, 1) := by decide +kernel
theorem dX11_alikeRecords_39 : decode cX11_alikeRecords 39 = .ok (.laload, 1) := by decide +kernel
theorem dX11_alikeRecords_40 : decode cX11_alikeRecords 40 = .ok (.aload_n 1, 1) := by decide +kernel
theorem dX11_alikeRecords_41 : decode cX11_alikeRecords 41 = .ok (.getfield 149, 3) := by decide +kernel
theorem dX11_alikeRecords_44 : decode cX11_alikeRecords 44 = .ok (.iload_n 3, 1) := by decide +kernel
theorem dX11_alikeRecords_45 : decode cX11_alikeRecords 45 = .ok (.laload, 1) := by decide +kernel
theorem dX11_alikeRecords_46 : decode cX11_alikeRecords 46 = .ok (.lcmp, 1) := by decide +kernel
theorem dX11_alikeRecords_47 : decode cX11_alikeRecords 47 = .ok (.ifCond .eq 5, 3) := by decide +kernel
theorem dX11_alikeRecords_50 : decode cX11_alikeRecords 50 = .ok (.iconst 0, 1) := by decide +kernel
theorem dX11_alikeRecords_51 : decode cX11_alikeRecords 51 = .ok (.ireturn, 1) := by decide +kernel
theorem dX11_alikeRecords_52 : decode cX11_alikeRecords 52 = .ok (.iinc 3 1, 3) := by decide +kernel
theorem dX11_alikeRecords_55 : decode cX11_alikeRecords 55 = .ok (.goto (-29), 3) := by decide +kernel
theorem dX11_alikeRecords_58 : decode cX11_alikeRecords 58 = .ok (.iconst 0, 1) := by decide +kernel
theorem dX11_alikeRecords_59 : decode cX11_alikeRecords 59 = .ok (.istore_n 3, 1) := by decide +kernel
theorem dX11_alikeRecords_60 : decode cX11_alikeRecords 60 = .ok (.iload_n 3, 1) := by decide +kernel
theorem dX11_alikeRecords_61 : decode cX11_alikeRecords 61 = .ok (.aload_n 0, 1) := by decide +kernel
theorem dX11_alikeRecords_62 : decode cX11_alikeRecords 62 = .ok (.invokevirtual 120, 3) := by decide +kernel
theorem dX11_alikeRecords_65 : decode cX11_alikeRecords 65 = .ok (.if_icmp .ge 32, 3) := by decide +kernel
theorem dX11_alikeRecords_68 : decode cX11_alikeRecords 68 = .ok (.aload_n 0, 1) := by decide +kernel
theorem dX11_alikeRecords_69 : decode cX11_alikeRecords 69 = .ok (.getfield 152, 3) := by decide +kernel
theorem dX11_alikeRecords_72 : decode cX11_alikeRecords 72 = .ok (.iload_n 3, 1) := by decide +kernel
theorem dX11_alikeRecords_73 : decode cX11_alikeRecords 73 = .ok (.aaload, 1) := by decide +kernel
theorem dX11_alikeRecords_74 : decode cX11_alikeRecords 74 = .ok (.aload_n 1, 1) := by decide +kernel
theorem dX11_alikeRecords_75 : decode cX11_alikeRecords 75 = .ok (.getfield 152, 3) := by decide +kernel
theorem dX11_alikeRecords_78 : decode cX11_alikeRecords 78 = .ok (.iload_n 3, 1) := by decide +kernel
theorem dX11_alikeRecords_79 : decode cX11_alikeRecords 79 = .ok (.aaload, 1) := by decide +kernel
theorem dX11_alikeRecords_80 : decode cX11_alikeRecords 80 = .ok (.iload_n 2, 1) := by decide +kernel
theorem dX11_alikeRecords_81 : decode cX11_alikeRecords 81 = .ok (.iconst 1, 1) := by decide +kernel
theorem dX11_alikeRecords_82 : decode cX11_alikeRecords 82 = .ok (.iadd, 1) := by decide +kernel
theorem dX11_alikeRecords_83 : decode cX11_alikeRecords 83 = .ok (.invokestatic 155, 3) := by decide +kernel
theorem dX11_alikeRecords_86 : decode cX11_alikeRecords 86 = .ok (.ifCond .ne 5, 3) := by decide +kernel
theorem dX11_alikeRecords_89 : decode cX11_alikeRecords 89 = .ok (.iconst 0, 1) := by decide +kernel
theorem dX11_alikeRecords_90 : decode cX11_alikeRecords 90 = .ok (.ireturn, 1) := by decide +kernel
theorem dX11_alikeRecords_91 : decode cX11_alikeRecords 91 = .ok (.iinc 3 1, 3) := by decide +kernel
theorem dX11_alikeRecords_94 : decode cX11_alikeRecords 94 = .ok (.goto (-34), 3) := by decide +kernel
theorem dX11_alikeRecords_97 : decode cX11_alikeRecords 97 = .ok (.iconst 1, 1) := by decide +kernel
theorem dX11_alikeRecords_98 : decode cX11_alikeRecords 98 = .ok (.ireturn, 1) := by decide +kernel
theorem dX11_sameItems_0 : decode cX11_sameItems 0 = .ok (.aload_n 0, 1) := by decide +kernel
theorem dX11_sameItems_1 : decode cX11_sameItems 1 = .ok (.arraylength, 1) := by decide +kernel
theorem dX11_sameItems_2 : decode cX11_sameItems 2 = .ok (.aload_n 1, 1) := by decide +kernel
theorem dX11_sameItems_3 : decode cX11_sameItems 3 = .ok (.arraylength, 1) := by decide +kernel
theorem dX11_sameItems_4 : decode cX11_sameItems 4 = .ok (.if_icmp .eq 5, 3) := by decide +kernel
theorem dX11_sameItems_7 : decode cX11_sameItems 7 = .ok (.iconst 0, 1) := by decide +kernel
theorem dX11_sameItems_8 : decode cX11_sameItems 8 = .ok (.ireturn, 1) := by decide +kernel
theorem dX11_sameItems_9 : decode cX11_sameItems 9 = .ok (.iconst 0, 1) := by decide +kernel
theorem dX11_sameItems_10 : decode cX11_sameItems 10 = .ok (.istore_n 2, 1) := by decide +kernel
theorem dX11_sameItems_11 : decode cX11_sameItems 11 = .ok (.iload_n 2, 1) := by decide +kernel
theorem dX11_sameItems_12 : decode cX11_sameItems 12 = .ok (.aload_n 0, 1) := by decide +kernel
theorem dX11_sameItems_13 : decode cX11_sameItems 13 = .ok (.arraylength, 1) := by decide +kernel
theorem dX11_sameItems_14 : decode cX11_sameItems 14 = .ok (.if_icmp .ge 20, 3) := by decide +kernel
theorem dX11_sameItems_17 : decode cX11_sameItems 17 = .ok (.aload_n 0, 1) := by decide +kernel
theorem dX11_sameItems_18 : decode cX11_sameItems 18 = .ok (.iload_n 2, 1) := by decide +kernel
theorem dX11_sameItems_19 : decode cX11_sameItems 19 = .ok (.iaload, 1) := by decide +kernel
theorem dX11_sameItems_20 : decode cX11_sameItems 20 = .ok (.aload_n 1, 1) := by decide +kernel
theorem dX11_sameItems_21 : decode cX11_sameItems 21 = .ok (.iload_n 2, 1) := by decide +kernel
theorem dX11_sameItems_22 : decode cX11_sameItems 22 = .ok (.iaload, 1) := by decide +kernel
theorem dX11_sameItems_23 : decode cX11_sameItems 23 = .ok (.if_icmp .eq 5, 3) := by decide +kernel
theorem dX11_sameItems_26 : decode cX11_sameItems 26 = .ok (.iconst 0, 1) := by decide +kernel
theorem dX11_sameItems_27 : decode cX11_sameItems 27 = .ok (.ireturn, 1) := by decide +kernel
theorem dX11_sameItems_28 : decode cX11_sameItems 28 = .ok (.iinc 2 1, 3) := by decide +kernel
theorem dX11_sameItems_31 : decode cX11_sameItems 31 = .ok (.goto (-20), 3) := by decide +kernel
theorem dX11_sameItems_34 : decode cX11_sameItems 34 = .ok (.iconst 1, 1) := by decide +kernel
theorem dX11_sameItems_35 : decode cX11_sameItems 35 = .ok (.ireturn, 1) := by decide +kernel
end
section
theorem dX12_init_0 : decode cX12_init 0 = .ok (.aload_n 0, 1) := by decide +kernel
theorem dX12_init_1 : decode cX12_init 1 = .ok (.invokespecial 1, 3) := by decide +kernel
theorem dX12_init_4 : decode cX12_init 4 = .ok (.aload_n 0, 1) := by decide +kernel
theorem dX12_init_5 : decode cX12_init 5 = .ok (.bipush 6, 2) := by decide +kernel
theorem dX12_init_7 : decode cX12_init 7 = .ok (.newarray .int, 2) := by decide +kernel
theorem dX12_init_9 : decode cX12_init 9 = .ok (.putfield 7, 3) := by decide +kernel
theorem dX12_init_12 : decode cX12_init 12 = .ok (.aload_n 0, 1) := by decide +kernel
theorem dX12_init_13 : decode cX12_init 13 = .ok (.bipush 60, 2) := by decide +kernel
theorem dX12_init_15 : decode cX12_init 15 = .ok (.newarray .int, 2) := by decide +kernel
theorem dX12_init_17 : decode cX12_init 17 = .ok (.putfield 13, 3) := by decide +kernel
theorem dX12_init_20 : decode cX12_init 20 = .ok (.aload_n 0, 1) := by decide +kernel
theorem dX12_init_21 : decode cX12_init 21 = .ok (.bipush 60, 2) := by decide +kernel
theorem dX12_init_23 : decode cX12_init 23 = .ok (.newarray .boolean, 2) := by decide +kernel
theorem dX12_init_25 : decode cX12_init 25 = .ok (.putfield 16, 3) := by decide +kernel
theorem dX12_init_28 : decode cX12_init 28 = .ok (.aload_n 0, 1) := by decide +kernel
theorem dX12_init_29 : decode cX12_init 29 = .ok (.bipush 12, 2) := by decide +kernel
theorem dX12_init_31 : decode cX12_init 31 = .ok (.newarray .int, 2) := by decide +kernel
theorem dX12_init_33 : decode cX12_init 33 = .ok (.putfield 20, 3) := by decide +kernel
theorem dX12_init_36 : decode cX12_init 36 = .ok (.aload_n 0, 1) := by decide +kernel
theorem dX12_init_37 : decode cX12_init 37 = .ok (.bipush 60, 2) := by decide +kernel
theorem dX12_init_39 : decode cX12_init 39 = .ok (.newarray .int, 2) := by decide +kernel
theorem dX12_init_41 : decode cX12_init 41 = .ok (.putfield 23, 3) := by decide +kernel
theorem dX12_init_44 : decode cX12_init 44 = .ok (.aload_n 0, 1) := by decide +kernel
theorem dX12_init_45 : decode cX12_init 45 = .ok (.bipush 60, 2) := by decide +kernel
theorem dX12_init_47 : decode cX12_init 47 = .ok (.newarray .int, 2) := by decide +kernel
theorem dX12_init_49 : decode cX12_init 49 = .ok (.putfield 26, 3) := by decide +kernel
theorem dX12_init_52 : decode cX12_init 52 = .ok (.aload_n 0, 1) := by decide +kernel
theorem dX12_init_53 : decode cX12_init 53 = .ok (.bipush 60, 2) := by decide +kernel
theorem dX12_init_55 : decode cX12_init 55 = .ok (.newarray .int, 2) := by decide +kernel
theorem dX12_init_57 : decode cX12_init 57 = .ok (.putfield 29, 3) := by decide +kernel
theorem dX12_init_60 : decode cX12_init 60 = .ok (.aload_n 0, 1) := by decide +kernel
theorem dX12_init_61 : decode cX12_init 61 = .ok (.bipush 12, 2) := by decide +kernel
theorem dX12_init_63 : decode cX12_init 63 = .ok (.newarray .int, 2) := by decide +kernel
theorem dX12_init_65 : decode cX12_init 65 = .ok (.putfield 32, 3) := by decide +kernel
theorem dX12_init_68 : decode cX12_init 68 = .ok (.aload_n 0, 1) := by decide +kernel
theorem dX12_init_69 : decode cX12_init 69 = .ok (.bipush 24, 2) := by decide +kernel
theorem dX12_init_71 : decode cX12_init 71 = .ok (.newarray .int, 2) := by decide +kernel
theorem dX12_init_73 : decode cX12_init 73 = .ok (.putfield 35, 3) := by decide +kernel
theorem dX12_init_76 : decode cX12_init 76 = .ok (.aload_n 0, 1) := by decide +kernel
theorem dX12_init_77 : decode cX12_init 77 = .ok (.bipush 24, 2) := by decide +kernel
theorem dX12_init_79 : decode cX12_init 79 = .ok (.newarray .int, 2) := by decide +kernel
theorem dX12_init_81 : decode cX12_init 81 = .ok (.putfield 38, 3) := by decide +kernel
theorem dX12_init_84 : decode cX12_init 84 = .ok (.aload_n 0, 1) := by decide +kernel
theorem dX12_init_85 : decode cX12_init 85 = .ok (.bipush 24, 2) := by decide +kernel
theorem dX12_init_87 : decode cX12_init 87 = .ok (.newarray .int, 2) := by decide +kernel
theorem dX12_init_89 : decode cX12_init 89 = .ok (.putfield 41, 3) := by decide +kernel
theorem dX12_init_92 : decode cX12_init 92 = .ok (.aload_n 0, 1) := by decide +kernel
theorem dX12_init_93 : decode cX12_init 93 = .ok (.ldc 44, 2) := by decide +kernel
theorem dX12_init_95 : decode cX12_init 95 = .ok (.newarray .int, 2) := by decide +kernel
theorem dX12_init_97 : decode cX12_init 97 = .ok (.putfield 45, 3) := by decide +kernel
theorem dX12_init_100 : decode cX12_init 100 = .ok (.aload_n 0, 1) := by decide +kernel
theorem dX12_init_101 : decode cX12_init 101 = .ok (.ldc 48, 2) := by decide +kernel
theorem dX12_init_103 : decode cX12_init 103 = .ok (.newarray .int, 2) := by decide +kernel
theorem dX12_init_105 : decode cX12_init 105 = .ok (.putfield 49, 3) := by decide +kernel
theorem dX12_init_108 : decode cX12_init 108 = .ok (.aload_n 0, 1) := by decide +kernel
theorem dX12_init_109 : decode cX12_init 109 = .ok (.sipush 26200, 3) := by decide +kernel
theorem dX12_init_112 : decode cX12_init 112 = .ok (.newarray .int, 2) := by decide +kernel
theorem dX12_init_114 : decode cX12_init 114 = .ok (.putfield 52, 3) := by decide +kernel
theorem dX12_init_117 : decode cX12_init 117 = .ok (.aload_n 0, 1) := by decide +kernel
theorem dX12_init_118 : decode cX12_init 118 = .ok (.sipush 26200, 3) := by decide +kernel
theorem dX12_init_121 : decode cX12_init 121 = .ok (.newarray .int, 2) := by decide +kernel
theorem dX12_init_123 : decode cX12_init 123 = .ok (.putfield 55, 3) := by decide +kernel
theorem dX12_init_126 : decode cX12_init 126 = .ok (.aload_n 0, 1) := by decide +kernel
theorem dX12_init_127 : decode cX12_init 127 = .ok (.ldc 58, 2) := by decide +kernel
theorem dX12_init_129 : decode cX12_init 129 = .ok (.newarray .long, 2) := by decide +kernel
theorem dX12_init_131 : decode cX12_init 131 = .ok (.putfield 59, 3) := by decide +kernel
theorem dX12_init_134 : decode cX12_init 134 = .ok (.aload_n 0, 1) := by decide +kernel
theorem dX12_init_135 : decode cX12_init 135 = .ok (.ldc 58, 2) := by decide +kernel
theorem dX12_init_137 : decode cX12_init 137 = .ok (.newarray .int, 2) := by decide +kernel
theorem dX12_init_139 : decode cX12_init 139 = .ok (.putfield 63, 3) := by decide +kernel
theorem dX12_init_142 : decode cX12_init 142 = .ok (.aload_n 0, 1) := by decide +kernel
theorem dX12_init_143 : decode cX12_init 143 = .ok (.bipush 10, 2) := by decide +kernel
theorem dX12_init_145 : decode cX12_init 145 = .ok (.newarray .int, 2) := by decide +kernel
theorem dX12_init_147 : decode cX12_init 147 = .ok (.dup, 1) := by decide +kernel
theorem dX12_init_148 : decode cX12_init 148 = .ok (.iconst 0, 1) := by decide +kernel
theorem dX12_init_149 : decode cX12_init 149 = .ok (.iconst (-1), 1) := by decide +kernel
theorem dX12_init_150 : decode cX12_init 150 = .ok (.iastore, 1) := by decide +kernel
theorem dX12_init_151 : decode cX12_init 151 = .ok (.dup, 1) := by decide +kernel
theorem dX12_init_152 : decode cX12_init 152 = .ok (.iconst 1, 1) := by decide +kernel
theorem dX12_init_153 : decode cX12_init 153 = .ok (.iconst (-1), 1) := by decide +kernel
theorem dX12_init_154 : decode cX12_init 154 = .ok (.iastore, 1) := by decide +kernel
theorem dX12_init_155 : decode cX12_init 155 = .ok (.dup, 1) := by decide +kernel
theorem dX12_init_156 : decode cX12_init 156 = .ok (.iconst 2, 1) := by decide +kernel
theorem dX12_init_157 : decode cX12_init 157 = .ok (.iconst (-1), 1) := by decide +kernel
theorem dX12_init_158 : decode cX12_init 158 = .ok (.iastore, 1) := by decide +kernel
theorem dX12_init_159 : decode cX12_init 159 = .ok (.dup, 1) := by decide +kernel
theorem dX12_init_160 : decode cX12_init 160 = .ok (.iconst 3, 1) := by decide +kernel
theorem dX12_init_161 : decode cX12_init 161 = .ok (.iconst (-1), 1) := by decide +kernel
theorem dX12_init_162 : decode cX12_init 162 = .ok (.iastore, 1) := by decide +kernel
theorem dX12_init_163 : decode cX12_init 163 = .ok (.dup, 1) := by decide +kernel
theorem dX12_init_164 : decode cX12_init 164 = .ok (.iconst 4, 1) := by decide +kernel
theorem dX12_init_165 : decode cX12_init 165 = .ok (.iconst (-1), 1) := by decide +kernel
theorem dX12_init_166 : decode cX12_init 166 = .ok (.iastore, 1) := by decide +kernel
theorem dX12_init_167 : decode cX12_init 167 = .ok (.dup, 1) := by decide +kernel
theorem dX12_init_168 : decode cX12_init 168 = .ok (.iconst 5, 1) := by decide +kernel
theorem dX12_init_169 : decode cX12_init 169 = .ok (.iconst (-1), 1) := by decide +kernel
theorem dX12_init_170 : decode cX12_init 170 = .ok (.iastore, 1) := by decide +kernel
theorem dX12_init_171 : decode cX12_init 171 = .ok (.dup, 1) := by decide +kernel
theorem dX12_init_172 : decode cX12_init 172 = .ok (.bipush 6, 2) := by decide +kernel
theorem dX12_init_174 : decode cX12_init 174 = .ok (.iconst (-1), 1) := by decide +kernel
theorem dX12_init_175 : decode cX12_init 175 = .ok (.iastore, 1) := by decide +kernel
theorem dX12_init_176 : decode cX12_init 176 = .ok (.dup, 1) := by decide +kernel
theorem dX12_init_177 : decode cX12_init 177 = .ok (.bipush 7, 2) := by decide +kernel
theorem dX12_init_179 : decode cX12_init 179 = .ok (.iconst (-1), 1) := by decide +kernel
theorem dX12_init_180 : decode cX12_init 180 = .ok (.iastore, 1) := by decide +kernel
theorem dX12_init_181 : decode cX12_init 181 = .ok (.dup, 1) := by decide +kernel
theorem dX12_init_182 : decode cX12_init 182 = .ok (.bipush 8, 2) := by decide +kernel
theorem dX12_init_184 : decode cX12_init 184 = .ok (.iconst (-1), 1) := by decide +kernel
theorem dX12_init_185 : decode cX12_init 185 = .ok (.iastore, 1) := by decide +kernel
theorem dX12_init_186 : decode cX12_init 186 = .ok (.dup, 1) := by decide +kernel
theorem dX12_init_187 : decode cX12_init 187 = .ok (.bipush 9, 2) := by decide +kernel
theorem dX12_init_189 : decode cX12_init 189 = .ok (.iconst (-1), 1) := by decide +kernel
theorem dX12_init_190 : decode cX12_init 190 = .ok (.iastore, 1) := by decide +kernel
theorem dX12_init_191 : decode cX12_init 191 = .ok (.putfield 66, 3) := by decide +kernel
theorem dX12_init_194 : decode cX12_init 194 = .ok (.aload_n 0, 1) := by decide +kernel
theorem dX12_init_195 : decode cX12_init 195 = .ok (.iconst 5, 1) := by decide +kernel
theorem dX12_init_196 : decode cX12_init 196 = .ok (.newarray .long, 2) := by decide +kernel
theorem dX12_init_198 : decode cX12_init 198 = .ok (.putfield 69, 3) := by decide +kernel
theorem dX12_init_201 : decode cX12_init 201 = .ok (.aload_n 0, 1) := by decide +kernel
theorem dX12_init_202 : decode cX12_init 202 = .ok (.iconst 5, 1) := by decide +kernel
theorem dX12_init_203 : decode cX12_init 203 = .ok (.newarray .int, 2) := by decide +kernel
theorem dX12_init_205 : decode cX12_init 205 = .ok (.putfield 72, 3) := by decide +kernel
theorem dX12_init_208 : decode cX12_init 208 = .ok (.aload_n 0, 1) := by decide +kernel
theorem dX12_init_209 : decode cX12_init 209 = .ok (.sipush 250, 3) := by decide +kernel
theorem dX12_init_212 : decode cX12_init 212 = .ok (.newarray .long, 2) := by decide +kernel
theorem dX12_init_214 : decode cX12_init 214 = .ok (.putfield 75, 3) := by decide +kernel
theorem dX12_init_217 : decode cX12_init 217 = .ok (.aload_n 0, 1) := by decide +kernel
theorem dX12_init_218 : decode cX12_init 218 = .ok (.bipush (-3), 2) := by decide +kernel
theorem dX12_init_220 : decode cX12_init 220 = .ok (.putfield 78, 3) := by decide +kernel
theorem dX12_init_223 : decode cX12_init 223 = .ok (.aload_n 0, 1) := by decide +kernel
theorem dX12_init_224 : decode cX12_init 224 = .ok (.bipush 40, 2) := by decide +kernel
theorem dX12_init_226 : decode cX12_init 226 = .ok (.newarray .long, 2) := by decide +kernel
theorem dX12_init_228 : decode cX12_init 228 = .ok (.putfield 82, 3) := by decide +kernel
theorem dX12_init_231 : decode cX12_init 231 = .ok (.aload_n 0, 1) := by decide +kernel
theorem dX12_init_232 : decode cX12_init 232 = .ok (.bipush 40, 2) := by decide +kernel
theorem dX12_init_234 : decode cX12_init 234 = .ok (.newarray .int, 2) := by decide +kernel
theorem dX12_init_236 : decode cX12_init 236 = .ok (.putfield 85, 3) := by decide +kernel
theorem dX12_init_239 : decode cX12_init 239 = .ok (.aload_n 0, 1) := by decide +kernel
theorem dX12_init_240 : decode cX12_init 240 = .ok (.bipush 40, 2) := by decide +kernel
theorem dX12_init_242 : decode cX12_init 242 = .ok (.newarray .int, 2) := by decide +kernel
theorem dX12_init_244 : decode cX12_init 244 = .ok (.putfield 88, 3) := by decide +kernel
theorem dX12_init_247 : decode cX12_init 247 = .ok (.aload_n 0, 1) := by decide +kernel
theorem dX12_init_248 : decode cX12_init 248 = .ok (.bipush 40, 2) := by decide +kernel
theorem dX12_init_250 : decode cX12_init 250 = .ok (.newarray .int, 2) := by decide +kernel
theorem dX12_init_252 : decode cX12_init 252 = .ok (.putfield 91, 3) := by decide +kernel
theorem dX12_init_255 : decode cX12_init 255 = .ok (.aload_n 0, 1) := by decide +kernel
theorem dX12_init_256 : decode cX12_init 256 = .ok (.bipush 40, 2) := by decide +kernel
theorem dX12_init_258 : decode cX12_init 258 = .ok (.newarray .int, 2) := by decide +kernel
theorem dX12_init_260 : decode cX12_init 260 = .ok (.putfield 94, 3) := by decide +kernel
theorem dX12_init_263 : decode cX12_init 263 = .ok (.aload_n 0, 1) := by decide +kernel
theorem dX12_init_264 : decode cX12_init 264 = .ok (.sipush 250, 3) := by decide +kernel
theorem dX12_init_267 : decode cX12_init 267 = .ok (.newarray .long, 2) := by decide +kernel
theorem dX12_init_269 : decode cX12_init 269 = .ok (.putfield 97, 3) := by decide +kernel
theorem dX12_init_272 : decode cX12_init 272 = .ok (.aload_n 0, 1) := by decide +kernel
theorem dX12_init_273 : decode cX12_init 273 = .ok (.sipush 130, 3) := by decide +kernel
theorem dX12_init_276 : decode cX12_init 276 = .ok (.newarray .int, 2) := by decide +kernel
theorem dX12_init_278 : decode cX12_init 278 = .ok (.putfield 100, 3) := by decide +kernel
theorem dX12_init_281 : decode cX12_init 281 = .ok (.aload_n 0, 1) := by decide +kernel
theorem dX12_init_282 : decode cX12_init 282 = .ok (.sipush 130, 3) := by decide +kernel
theorem dX12_init_285 : decode cX12_init 285 = .ok (.newarray .int, 2) := by decide +kernel
theorem dX12_init_287 : decode cX12_init 287 = .ok (.putfield 103, 3) := by decide +kernel
theorem dX12_init_290 : decode cX12_init 290 = .ok (.aload_n 0, 1) := by decide +kernel
theorem dX12_init_291 : decode cX12_init 291 = .ok (.bipush 7, 2) := by decide +kernel
theorem dX12_init_293 : decode cX12_init 293 = .ok (.newarray .int, 2) := by decide +kernel
theorem dX12_init_295 : decode cX12_init 295 = .ok (.putfield 106, 3) := by decide +kernel
theorem dX12_init_298 : decode cX12_init 298 = .ok (.aload_n 0, 1) := by decide +kernel
theorem dX12_init_299 : decode cX12_init 299 = .ok (.bipush 7, 2) := by decide +kernel
theorem dX12_init_301 : decode cX12_init 301 = .ok (.newarray .long, 2) := by decide +kernel
theorem dX12_init_303 : decode cX12_init 303 = .ok (.putfield 109, 3) := by decide +kernel
theorem dX12_init_306 : decode cX12_init 306 = .ok (.aload_n 0, 1) := by decide +kernel
theorem dX12_init_307 : decode cX12_init 307 = .ok (.bipush 7, 2) := by decide +kernel
theorem dX12_init_309 : decode cX12_init 309 = .ok (.newarray .int, 2) := by decide +kernel
theorem dX12_init_311 : decode cX12_init 311 = .ok (.putfield 112, 3) := by decide +kernel
theorem dX12_init_314 : decode cX12_init 314 = .ok (.return_, 1) := by decide +kernel
theorem dX12_in_0 : decode cX12_in 0 = .ok (.lload_n 0, 1) := by decide +kernel
theorem dX12_in_1 : decode cX12_in 1 = .ok (.lload_n 2, 1) := by decide +kernel
theorem dX12_in_2 : decode cX12_in 2 = .ok (.lcmp, 1) := by decide +kernel
theorem dX12_in_3 : decode cX12_in 3 = .ok (.ifCond .lt 14, 3) := by decide +kernel
theorem dX12_in_6 : decode cX12_in 6 = .ok (.lload_n 0, 1) := by decide +kernel
theorem dX12_in_7 : decode cX12_in 7 = .ok (.lload 4, 2) := by decide +kernel
theorem dX12_in_9 : decode cX12_in 9 = .ok (.lcmp, 1) := by decide +kernel
theorem dX12_in_10 : decode cX12_in 10 = .ok (.ifCond .gt 7, 3) := by decide +kernel
theorem dX12_in_13 : decode cX12_in 13 = .ok (.iconst 1, 1) := by decide +kernel
theorem dX12_in_14 : decode cX12_in 14 = .ok (.goto 4, 3) := by decide +kernel
theorem dX12_in_17 : decode cX12_in 17 = .ok (.iconst 0, 1) := by decide +kernel
theorem dX12_in_18 : decode cX12_in 18 = .ok (.ireturn, 1) := by decide +kernel
theorem dX12_isPlace_0 : decode cX12_isPlace 0 = .ok (.iload_n 0, 1) := by decide +kernel
theorem dX12_isPlace_1 : decode cX12_isPlace 1 = .ok (.i2l, 1) := by decide +kernel
theorem dX12_isPlace_2 : decode cX12_isPlace 2 = .ok (.lconst 0, 1) := by decide +kernel
theorem dX12_isPlace_3 : decode cX12_isPlace 3 = .ok (.ldc2_w 115, 3) := by decide +kernel
theorem dX12_isPlace_6 : decode cX12_isPlace 6 = .ok (.invokestatic 117, 3) := by decide +kernel
theorem dX12_isPlace_9 : decode cX12_isPlace 9 = .ok (.ireturn, 1) := by decide +kernel
theorem dX12_isVersion_0 : decode cX12_isVersion 0 = .ok (.iload_n 0, 1) := by decide +kernel
theorem dX12_isVersion_1 : decode cX12_isVersion 1 = .ok (.i2l, 1) := by decide +kernel
theorem dX12_isVersion_2 : decode cX12_isVersion 2 = .ok (.lconst 0, 1) := by decide +kernel
theorem dX12_isVersion_3 : decode cX12_isVersion 3 = .ok (.ldc2_w 121, 3) := by decide +kernel
theorem dX12_isVersion_6 : decode cX12_isVersion 6 = .ok (.invokestatic 117, 3) := by decide +kernel
theorem dX12_isVersion_9 : decode cX12_isVersion 9 = .ok (.ireturn, 1) := by decide +kernel
theorem dX12_isRecordKind_0 : decode cX12_isRecordKind 0 = .ok (.lload_n 0, 1) := by decide +kernel
theorem dX12_isRecordKind_1 : decode cX12_isRecordKind 1 = .ok (.ldc2_w 121, 3) := by decide +kernel
theorem dX12_isRecordKind_4 : decode cX12_isRecordKind 4 = .ok (.ldc2_w 123, 3) := by decide +kernel
theorem dX12_isRecordKind_7 : decode cX12_isRecordKind 7 = .ok (.invokestatic 117, 3) := by decide +kernel
theorem dX12_isRecordKind_10 : decode cX12_isRecordKind 10 = .ok (.ireturn, 1) := by decide +kernel
theorem dX12_constantBy_0 : decode cX12_constantBy 0 = .ok (.iconst 3, 1) := by decide +kernel
theorem dX12_constantBy_1 : decode cX12_constantBy 1 = .ok (.iload_n 1, 1) := by decide +kernel
theorem dX12_constantBy_2 : decode cX12_constantBy 2 = .ok (.imul, 1) := by decide +kernel
theorem dX12_constantBy_3 : decode cX12_constantBy 3 = .ok (.iload_n 2, 1) := by decide +kernel
theorem dX12_constantBy_4 : decode cX12_constantBy 4 = .ok (.iadd, 1) := by decide +kernel
theorem dX12_constantBy_5 : decode cX12_constantBy 5 = .ok (.istore 5, 2) := by decide +kernel
theorem dX12_constantBy_7 : decode cX12_constantBy 7 = .ok (.iconst 0, 1) := by decide +kernel
theorem dX12_constantBy_8 : decode cX12_constantBy 8 = .ok (.istore 6, 2) := by decide +kernel
theorem dX12_constantBy_10 : decode cX12_constantBy 10 = .ok (.iload 6, 2) := by decide +kernel
theorem dX12_constantBy_12 : decode cX12_constantBy 12 = .ok (.aload_n 0, 1) := by decide +kernel
theorem dX12_constantBy_13 : decode cX12_constantBy 13 = .ok (.getfield 7, 3) := by decide +kernel
theorem dX12_constantBy_16 : decode cX12_constantBy 16 = .ok (.iload 5, 2) := by decide +kernel
theorem dX12_constantBy_18 : decode cX12_constantBy 18 = .ok (.iaload, 1) := by decide +kernel
theorem dX12_constantBy_19 : decode cX12_constantBy 19 = .ok (.if_icmp .ge 37, 3) := by decide +kernel
theorem dX12_constantBy_22 : decode cX12_constantBy 22 = .ok (.aload_n 0, 1) := by decide +kernel
theorem dX12_constantBy_23 : decode cX12_constantBy 23 = .ok (.getfield 13, 3) := by decide +kernel
theorem dX12_constantBy_26 : decode cX12_constantBy 26 = .ok (.bipush 10, 2) := by decide +kernel
theorem dX12_constantBy_28 : decode cX12_constantBy 28 = .ok (.iload 5, 2) := by decide +kernel
theorem dX12_constantBy_30 : decode cX12_constantBy 30 = .ok (.imul, 1) := by decide +kernel
theorem dX12_constantBy_31 : decode cX12_constantBy 31 = .ok (.iload 6, 2) := by decide +kernel
theorem dX12_constantBy_33 : decode cX12_constantBy 33 = .ok (.iadd, 1) := by decide +kernel
theorem dX12_constantBy_34 : decode cX12_constantBy 34 = .ok (.iaload, 1) := by decide +kernel
theorem dX12_constantBy_35 : decode cX12_constantBy 35 = .ok (.i2l, 1) := by decide +kernel
theorem dX12_constantBy_36 : decode cX12_constantBy 36 = .ok (.lload_n 3, 1) := by decide +kernel
theorem dX12_constantBy_37 : decode cX12_constantBy 37 = .ok (.lcmp, 1) := by decide +kernel
theorem dX12_constantBy_38 : decode cX12_constantBy 38 = .ok (.ifCond .ne 12, 3) := by decide +kernel
theorem dX12_constantBy_41 : decode cX12_constantBy 41 = .ok (.bipush 10, 2) := by decide +kernel
theorem dX12_constantBy_43 : decode cX12_constantBy 43 = .ok (.iload 5, 2) := by decide +kernel
theorem dX12_constantBy_45 : decode cX12_constantBy 45 = .ok (.imul, 1) := by decide +kernel
theorem dX12_constantBy_46 : decode cX12_constantBy 46 = .ok (.iload 6, 2) := by decide +kernel
theorem dX12_constantBy_48 : decode cX12_constantBy 48 = .ok (.iadd, 1) := by decide +kernel
theorem dX12_constantBy_49 : decode cX12_constantBy 49 = .ok (.ireturn, 1) := by decide +kernel
theorem dX12_constantBy_50 : decode cX12_constantBy 50 = .ok (.iinc 6 1, 3) := by decide +kernel
theorem dX12_constantBy_53 : decode cX12_constantBy 53 = .ok (.goto (-43), 3) := by decide +kernel
theorem dX12_constantBy_56 : decode cX12_constantBy 56 = .ok (.bipush (-3), 2) := by decide +kernel
theorem dX12_constantBy_58 : decode cX12_constantBy 58 = .ok (.ireturn, 1) := by decide +kernel
theorem dX12_constant_0 : decode cX12_constant 0 = .ok (.iload_n 1, 1) := by decide +kernel
theorem dX12_constant_1 : decode cX12_constant 1 = .ok (.i2l, 1) := by decide +kernel
theorem dX12_constant_2 : decode cX12_constant 2 = .ok (.lconst 0, 1) := by decide +kernel
theorem dX12_constant_3 : decode cX12_constant 3 = .ok (.lconst 1, 1) := by decide +kernel
theorem dX12_constant_4 : decode cX12_constant 4 = .ok (.invokestatic 117, 3) := by decide +kernel
theorem dX12_constant_7 : decode cX12_constant 7 = .ok (.ifCond .eq 33, 3) := by decide +kernel
theorem dX12_constant_10 : decode cX12_constant 10 = .ok (.iload_n 2, 1) := by decide +kernel
theorem dX12_constant_11 : decode cX12_constant 11 = .ok (.invokestatic 125, 3) := by decide +kernel
theorem dX12_constant_14 : decode cX12_constant 14 = .ok (.ifCond .eq 26, 3) := by decide +kernel
theorem dX12_constant_17 : decode cX12_constant 17 = .ok (.iload_n 3, 1) := by decide +kernel
theorem dX12_constant_18 : decode cX12_constant 18 = .ok (.i2l, 1) := by decide +kernel
theorem dX12_constant_19 : decode cX12_constant 19 = .ok (.lconst 0, 1) := by decide +kernel
theorem dX12_constant_20 : decode cX12_constant 20 = .ok (.ldc2_w 115, 3) := by decide +kernel
theorem dX12_constant_23 : decode cX12_constant 23 = .ok (.invokestatic 117, 3) := by decide +kernel
theorem dX12_constant_26 : decode cX12_constant 26 = .ok (.ifCond .eq 14, 3) := by decide +kernel
theorem dX12_constant_29 : decode cX12_constant 29 = .ok (.aload_n 0, 1) := by decide +kernel
theorem dX12_constant_30 : decode cX12_constant 30 = .ok (.iload_n 1, 1) := by decide +kernel
theorem dX12_constant_31 : decode cX12_constant 31 = .ok (.iload_n 2, 1) := by decide +kernel
theorem dX12_constant_32 : decode cX12_constant 32 = .ok (.iload_n 3, 1) := by decide +kernel
theorem dX12_constant_33 : decode cX12_constant 33 = .ok (.i2l, 1) := by decide +kernel
theorem dX12_constant_34 : decode cX12_constant 34 = .ok (.invokevirtual 129, 3) := by decide +kernel
theorem dX12_constant_37 : decode cX12_constant 37 = .ok (.ifCond .lt 5, 3) := by decide +kernel
theorem dX12_constant_40 : decode cX12_constant 40 = .ok (.iconst (-1), 1) := by decide +kernel
theorem dX12_constant_41 : decode cX12_constant 41 = .ok (.ireturn, 1) := by decide +kernel
theorem dX12_constant_42 : decode cX12_constant 42 = .ok (.iconst 3, 1) := by decide +kernel
theorem dX12_constant_43 : decode cX12_constant 43 = .ok (.iload_n 1, 1) := by decide +kernel
theorem dX12_constant_44 : decode cX12_constant 44 = .ok (.imul, 1) := by decide +kernel
theorem dX12_constant_45 : decode cX12_constant 45 = .ok (.iload_n 2, 1) := by decide +kernel
theorem dX12_constant_46 : decode cX12_constant 46 = .ok (.iadd, 1) := by decide +kernel
theorem dX12_constant_47 : decode cX12_constant 47 = .ok (.istore 5, 2) := by decide +kernel
theorem dX12_constant_49 : decode cX12_constant 49 = .ok (.aload_n 0, 1) := by decide +kernel
theorem dX12_constant_50 : decode cX12_constant 50 = .ok (.getfield 7, 3) := by decide +kernel
theorem dX12_constant_53 : decode cX12_constant 53 = .ok (.iload 5, 2) := by decide +kernel
theorem dX12_constant_55 : decode cX12_constant 55 = .ok (.iaload, 1) := by decide +kernel
theorem dX12_constant_56 : decode cX12_constant 56 = .ok (.istore 6, 2) := by decide +kernel
theorem dX12_constant_58 : decode cX12_constant 58 = .ok (.aload_n 0, 1) := by decide +kernel
theorem dX12_constant_59 : decode cX12_constant 59 = .ok (.getfield 13, 3) := by decide +kernel
theorem dX12_constant_62 : decode cX12_constant 62 = .ok (.bipush 10, 2) := by decide +kernel
theorem dX12_constant_64 : decode cX12_constant 64 = .ok (.iload 5, 2) := by decide +kernel
theorem dX12_constant_66 : decode cX12_constant 66 = .ok (.imul, 1) := by decide +kernel
theorem dX12_constant_67 : decode cX12_constant 67 = .ok (.iload 6, 2) := by decide +kernel
theorem dX12_constant_69 : decode cX12_constant 69 = .ok (.iadd, 1) := by decide +kernel
theorem dX12_constant_70 : decode cX12_constant 70 = .ok (.iload_n 3, 1) := by decide +kernel
theorem dX12_constant_71 : decode cX12_constant 71 = .ok (.iastore, 1) := by decide +kernel
theorem dX12_constant_72 : decode cX12_constant 72 = .ok (.aload_n 0, 1) := by decide +kernel
theorem dX12_constant_73 : decode cX12_constant 73 = .ok (.getfield 16, 3) := by decide +kernel
theorem dX12_constant_76 : decode cX12_constant 76 = .ok (.bipush 10, 2) := by decide +kernel
theorem dX12_constant_78 : decode cX12_constant 78 = .ok (.iload 5, 2) := by decide +kernel
theorem dX12_constant_80 : decode cX12_constant 80 = .ok (.imul, 1) := by decide +kernel
theorem dX12_constant_81 : decode cX12_constant 81 = .ok (.iload 6, 2) := by decide +kernel
theorem dX12_constant_83 : decode cX12_constant 83 = .ok (.iadd, 1) := by decide +kernel
theorem dX12_constant_84 : decode cX12_constant 84 = .ok (.iload 4, 2) := by decide +kernel
theorem dX12_constant_86 : decode cX12_constant 86 = .ok (.bastore, 1) := by decide +kernel
theorem dX12_constant_87 : decode cX12_constant 87 = .ok (.aload_n 0, 1) := by decide +kernel
theorem dX12_constant_88 : decode cX12_constant 88 = .ok (.getfield 7, 3) := by decide +kernel
theorem dX12_constant_91 : decode cX12_constant 91 = .ok (.iload 5, 2) := by decide +kernel
theorem dX12_constant_93 : decode cX12_constant 93 = .ok (.dup2, 1) := by decide +kernel
theorem dX12_constant_94 : decode cX12_constant 94 = .ok (.iaload, 1) := by decide +kernel
theorem dX12_constant_95 : decode cX12_constant 95 = .ok (.iconst 1, 1) := by decide +kernel
theorem dX12_constant_96 : decode cX12_constant 96 = .ok (.iadd, 1) := by decide +kernel
theorem dX12_constant_97 : decode cX12_constant 97 = .ok (.iastore, 1) := by decide +kernel
theorem dX12_constant_98 : decode cX12_constant 98 = .ok (.iload 6, 2) := by decide +kernel
theorem dX12_constant_100 : decode cX12_constant 100 = .ok (.ireturn, 1) := by decide +kernel
theorem dX12_partBy_0 : decode cX12_partBy 0 = .ok (.iconst 0, 1) := by decide +kernel
theorem dX12_partBy_1 : decode cX12_partBy 1 = .ok (.istore 4, 2) := by decide +kernel
theorem dX12_partBy_3 : decode cX12_partBy 3 = .ok (.iload 4, 2) := by decide +kernel
theorem dX12_partBy_5 : decode cX12_partBy 5 = .ok (.aload_n 0, 1) := by decide +kernel
theorem dX12_partBy_6 : decode cX12_partBy 6 = .ok (.getfield 20, 3) := by decide +kernel
theorem dX12_partBy_9 : decode cX12_partBy 9 = .ok (.iload_n 1, 1) := by decide +kernel
theorem dX12_partBy_10 : decode cX12_partBy 10 = .ok (.iaload, 1) := by decide +kernel
theorem dX12_partBy_11 : decode cX12_partBy 11 = .ok (.if_icmp .ge 29, 3) := by decide +kernel
theorem dX12_partBy_14 : decode cX12_partBy 14 = .ok (.aload_n 0, 1) := by decide +kernel
theorem dX12_partBy_15 : decode cX12_partBy 15 = .ok (.getfield 23, 3) := by decide +kernel
theorem dX12_partBy_18 : decode cX12_partBy 18 = .ok (.iconst 5, 1) := by decide +kernel
theorem dX12_partBy_19 : decode cX12_partBy 19 = .ok (.iload_n 1, 1) := by decide +kernel
theorem dX12_partBy_20 : decode cX12_partBy 20 = .ok (.imul, 1) := by decide +kernel
theorem dX12_partBy_21 : decode cX12_partBy 21 = .ok (.iload 4, 2) := by decide +kernel
theorem dX12_partBy_23 : decode cX12_partBy 23 = .ok (.iadd, 1) := by decide +kernel
theorem dX12_partBy_24 : decode cX12_partBy 24 = .ok (.iaload, 1) := by decide +kernel
theorem dX12_partBy_25 : decode cX12_partBy 25 = .ok (.i2l, 1) := by decide +kernel
theorem dX12_partBy_26 : decode cX12_partBy 26 = .ok (.lload_n 2, 1) := by decide +kernel
theorem dX12_partBy_27 : decode cX12_partBy 27 = .ok (.lcmp, 1) := by decide +kernel
theorem dX12_partBy_28 : decode cX12_partBy 28 = .ok (.ifCond .ne 6, 3) := by decide +kernel
theorem dX12_partBy_31 : decode cX12_partBy 31 = .ok (.iload 4, 2) := by decide +kernel
theorem dX12_partBy_33 : decode cX12_partBy 33 = .ok (.ireturn, 1) := by decide +kernel
theorem dX12_partBy_34 : decode cX12_partBy 34 = .ok (.iinc 4 1, 3) := by decide +kernel
theorem dX12_partBy_37 : decode cX12_partBy 37 = .ok (.goto (-34), 3) := by decide +kernel
theorem dX12_partBy_40 : decode cX12_partBy 40 = .ok (.bipush (-3), 2) := by decide +kernel
theorem dX12_partBy_42 : decode cX12_partBy 42 = .ok (.ireturn, 1) := by decide +kernel
theorem dX12_part_0 : decode cX12_part 0 = .ok (.iload_n 1, 1) := by decide +kernel
theorem dX12_part_1 : decode cX12_part 1 = .ok (.i2l, 1) := by decide +kernel
theorem dX12_part_2 : decode cX12_part 2 = .ok (.invokestatic 133, 3) := by decide +kernel
theorem dX12_part_5 : decode cX12_part 5 = .ok (.ifCond .eq 67, 3) := by decide +kernel
theorem dX12_part_8 : decode cX12_part 8 = .ok (.iload_n 2, 1) := by decide +kernel
theorem dX12_part_9 : decode cX12_part 9 = .ok (.invokestatic 125, 3) := by decide +kernel
theorem dX12_part_12 : decode cX12_part 12 = .ok (.ifCond .eq 60, 3) := by decide +kernel
theorem dX12_part_15 : decode cX12_part 15 = .ok (.iload_n 3, 1) := by decide +kernel
theorem dX12_part_16 : decode cX12_part 16 = .ok (.i2l, 1) := by decide +kernel
theorem dX12_part_17 : decode cX12_part 17 = .ok (.lconst 0, 1) := by decide +kernel
theorem dX12_part_18 : decode cX12_part 18 = .ok (.ldc2_w 115, 3) := by decide +kernel
theorem dX12_part_21 : decode cX12_part 21 = .ok (.invokestatic 117, 3) := by decide +kernel
theorem dX12_part_24 : decode cX12_part 24 = .ok (.ifCond .eq 48, 3) := by decide +kernel
theorem dX12_part_27 : decode cX12_part 27 = .ok (.iload 4, 2) := by decide +kernel
theorem dX12_part_29 : decode cX12_part 29 = .ok (.i2l, 1) := by decide +kernel
theorem dX12_part_30 : decode cX12_part 30 = .ok (.lconst 0, 1) := by decide +kernel
theorem dX12_part_31 : decode cX12_part 31 = .ok (.ldc2_w 137, 3) := by decide +kernel
theorem dX12_part_34 : decode cX12_part 34 = .ok (.invokestatic 117, 3) := by decide +kernel
theorem dX12_part_37 : decode cX12_part 37 = .ok (.ifCond .eq 35, 3) := by decide +kernel
theorem dX12_part_40 : decode cX12_part 40 = .ok (.iload 4, 2) := by decide +kernel
theorem dX12_part_42 : decode cX12_part 42 = .ok (.iconst 2, 1) := by decide +kernel
theorem dX12_part_43 : decode cX12_part 43 = .ok (.if_icmp .ne 14, 3) := by decide +kernel
theorem dX12_part_46 : decode cX12_part 46 = .ok (.iload 5, 2) := by decide +kernel
theorem dX12_part_48 : decode cX12_part 48 = .ok (.i2l, 1) := by decide +kernel
theorem dX12_part_49 : decode cX12_part 49 = .ok (.lconst 0, 1) := by decide +kernel
theorem dX12_part_50 : decode cX12_part 50 = .ok (.lconst 1, 1) := by decide +kernel
theorem dX12_part_51 : decode cX12_part 51 = .ok (.invokestatic 117, 3) := by decide +kernel
theorem dX12_part_54 : decode cX12_part 54 = .ok (.ifCond .eq 18, 3) := by decide +kernel
theorem dX12_part_57 : decode cX12_part 57 = .ok (.iload 4, 2) := by decide +kernel
theorem dX12_part_59 : decode cX12_part 59 = .ok (.iconst 3, 1) := by decide +kernel
theorem dX12_part_60 : decode cX12_part 60 = .ok (.if_icmp .ne 14, 3) := by decide +kernel
theorem dX12_part_63 : decode cX12_part 63 = .ok (.iload 5, 2) := by decide +kernel
theorem dX12_part_65 : decode cX12_part 65 = .ok (.i2l, 1) := by decide +kernel
theorem dX12_part_66 : decode cX12_part 66 = .ok (.invokestatic 133, 3) := by decide +kernel
theorem dX12_part_69 : decode cX12_part 69 = .ok (.ifCond .ne 5, 3) := by decide +kernel
theorem dX12_part_72 : decode cX12_part 72 = .ok (.iconst (-1), 1) := by decide +kernel
theorem dX12_part_73 : decode cX12_part 73 = .ok (.ireturn, 1) := by decide +kernel
theorem dX12_part_74 : decode cX12_part 74 = .ok (.iconst 3, 1) := by decide +kernel
theorem dX12_part_75 : decode cX12_part 75 = .ok (.iload_n 1, 1) := by decide +kernel
theorem dX12_part_76 : decode cX12_part 76 = .ok (.iconst 2, 1) := by decide +kernel
theorem dX12_part_77 : decode cX12_part 77 = .ok (.isub, 1) := by decide +kernel
theorem dX12_part_78 : decode cX12_part 78 = .ok (.imul, 1) := by decide +kernel
theorem dX12_part_79 : decode cX12_part 79 = .ok (.iload_n 2, 1) := by decide +kernel
theorem dX12_part_80 : decode cX12_part 80 = .ok (.iadd, 1) := by decide +kernel
theorem dX12_part_81 : decode cX12_part 81 = .ok (.istore 6, 2) := by decide +kernel
theorem dX12_part_83 : decode cX12_part 83 = .ok (.aload_n 0, 1) := by decide +kernel
theorem dX12_part_84 : decode cX12_part 84 = .ok (.iload 6, 2) := by decide +kernel
theorem dX12_part_86 : decode cX12_part 86 = .ok (.iload_n 3, 1) := by decide +kernel
theorem dX12_part_87 : decode cX12_part 87 = .ok (.i2l, 1) := by decide +kernel
theorem dX12_part_88 : decode cX12_part 88 = .ok (.invokevirtual 139, 3) := by decide +kernel
theorem dX12_part_91 : decode cX12_part 91 = .ok (.ifCond .lt 5, 3) := by decide +kernel
theorem dX12_part_94 : decode cX12_part 94 = .ok (.iconst (-1), 1) := by decide +kernel
theorem dX12_part_95 : decode cX12_part 95 = .ok (.ireturn, 1) := by decide +kernel
theorem dX12_part_96 : decode cX12_part 96 = .ok (.aload_n 0, 1) := by decide +kernel
theorem dX12_part_97 : decode cX12_part 97 = .ok (.getfield 20, 3) := by decide +kernel
theorem dX12_part_100 : decode cX12_part 100 = .ok (.iload 6, 2) := by decide +kernel
theorem dX12_part_102 : decode cX12_part 102 = .ok (.iaload, 1) := by decide +kernel
theorem dX12_part_103 : decode cX12_part 103 = .ok (.iconst 5, 1) := by decide +kernel
theorem dX12_part_104 : decode cX12_part 104 = .ok (.if_icmp .ne 6, 3) := by decide +kernel
theorem dX12_part_107 : decode cX12_part 107 = .ok (.bipush (-2), 2) := by decide +kernel
theorem dX12_part_109 : decode cX12_part 109 = .ok (.ireturn, 1) := by decide +kernel
theorem dX12_part_110 : decode cX12_part 110 = .ok (.aload_n 0, 1) := by decide +kernel
theorem dX12_part_111 : decode cX12_part 111 = .ok (.getfield 20, 3) := by decide +kernel
theorem dX12_part_114 : decode cX12_part 114 = .ok (.iload 6, 2) := by decide +kernel
theorem dX12_part_116 : decode cX12_part 116 = .ok (.iaload, 1) := by decide +kernel
theorem dX12_part_117 : decode cX12_part 117 = .ok (.istore 7, 2) := by decide +kernel
theorem dX12_part_119 : decode cX12_part 119 = .ok (.aload_n 0, 1) := by decide +kernel
theorem dX12_part_120 : decode cX12_part 120 = .ok (.getfield 23, 3) := by decide +kernel
theorem dX12_part_123 : decode cX12_part 123 = .ok (.iconst 5, 1) := by decide +kernel
theorem dX12_part_124 : decode cX12_part 124 = .ok (.iload 6, 2) := by decide +kernel
theorem dX12_part_126 : decode cX12_part 126 = .ok (.imul, 1) := by decide +kernel
theorem dX12_part_127 : decode cX12_part 127 = .ok (.iload 7, 2) := by decide +kernel
theorem dX12_part_129 : decode cX12_part 129 = .ok (.iadd, 1) := by decide +kernel
theorem dX12_part_130 : decode cX12_part 130 = .ok (.iload_n 3, 1) := by decide +kernel
theorem dX12_part_131 : decode cX12_part 131 = .ok (.iastore, 1) := by decide +kernel
theorem dX12_part_132 : decode cX12_part 132 = .ok (.aload_n 0, 1) := by decide +kernel
theorem dX12_part_133 : decode cX12_part 133 = .ok (.getfield 26, 3) := by decide +kernel
theorem dX12_part_136 : decode cX12_part 136 = .ok (.iconst 5, 1) := by decide +kernel
theorem dX12_part_137 : decode cX12_part 137 = .ok (.iload 6, 2) := by decide +kernel
theorem dX12_part_139 : decode cX12_part 139 = .ok (.imul, 1) := by decide +kernel
theorem dX12_part_140 : decode cX12_part 140 = .ok (.iload 7, 2) := by decide +kernel
theorem dX12_part_142 : decode cX12_part 142 = .ok (.iadd, 1) := by decide +kernel
theorem dX12_part_143 : decode cX12_part 143 = .ok (.iload 4, 2) := by decide +kernel
theorem dX12_part_145 : decode cX12_part 145 = .ok (.iastore, 1) := by decide +kernel
theorem dX12_part_146 : decode cX12_part 146 = .ok (.aload_n 0, 1) := by decide +kernel
theorem dX12_part_147 : decode cX12_part 147 = .ok (.getfield 29, 3) := by decide +kernel
theorem dX12_part_150 : decode cX12_part 150 = .ok (.iconst 5, 1) := by decide +kernel
theorem dX12_part_151 : decode cX12_part 151 = .ok (.iload 6, 2) := by decide +kernel
theorem dX12_part_153 : decode cX12_part 153 = .ok (.imul, 1) := by decide +kernel
theorem dX12_part_154 : decode cX12_part 154 = .ok (.iload 7, 2) := by decide +kernel
theorem dX12_part_156 : decode cX12_part 156 = .ok (.iadd, 1) := by decide +kernel
theorem dX12_part_157 : decode cX12_part 157 = .ok (.iload 5, 2) := by decide +kernel
theorem dX12_part_159 : decode cX12_part 159 = .ok (.iastore, 1) := by decide +kernel
theorem dX12_part_160 : decode cX12_part 160 = .ok (.aload_n 0, 1) := by decide +kernel
theorem dX12_part_161 : decode cX12_part 161 = .ok (.getfield 20, 3) := by decide +kernel
theorem dX12_part_164 : decode cX12_part 164 = .ok (.iload 6, 2) := by decide +kernel
theorem dX12_part_166 : decode cX12_part 166 = .ok (.dup2, 1) := by decide +kernel
theorem dX12_part_167 : decode cX12_part 167 = .ok (.iaload, 1) := by decide +kernel
theorem dX12_part_168 : decode cX12_part 168 = .ok (.iconst 1, 1) := by decide +kernel
theorem dX12_part_169 : decode cX12_part 169 = .ok (.iadd, 1) := by decide +kernel
theorem dX12_part_170 : decode cX12_part 170 = .ok (.iastore, 1) := by decide +kernel
theorem dX12_part_171 : decode cX12_part 171 = .ok (.iload 7, 2) := by decide +kernel
theorem dX12_part_173 : decode cX12_part 173 = .ok (.ireturn, 1) := by decide +kernel
theorem dX12_isSort_0 : decode cX12_isSort 0 = .ok (.iload_n 2, 1) := by decide +kernel
theorem dX12_isSort_1 : decode cX12_isSort 1 = .ok (.i2l, 1) := by decide +kernel
theorem dX12_isSort_2 : decode cX12_isSort 2 = .ok (.lconst 0, 1) := by decide +kernel
theorem dX12_isSort_3 : decode cX12_isSort 3 = .ok (.aload_n 0, 1) := by decide +kernel
theorem dX12_isSort_4 : decode cX12_isSort 4 = .ok (.getfield 20, 3) := by decide +kernel
theorem dX12_isSort_7 : decode cX12_isSort 7 = .ok (.iload_n 1, 1) := by decide +kernel
theorem dX12_isSort_8 : decode cX12_isSort 8 = .ok (.iaload, 1) := by decide +kernel
theorem dX12_isSort_9 : decode cX12_isSort 9 = .ok (.iconst 1, 1) := by decide +kernel
theorem dX12_isSort_10 : decode cX12_isSort 10 = .ok (.isub, 1) := by decide +kernel
theorem dX12_isSort_11 : decode cX12_isSort 11 = .ok (.i2l, 1) := by decide +kernel
theorem dX12_isSort_12 : decode cX12_isSort 12 = .ok (.invokestatic 117, 3) := by decide +kernel
theorem dX12_isSort_15 : decode cX12_isSort 15 = .ok (.ifCond .eq 21, 3) := by decide +kernel
theorem dX12_isSort_18 : decode cX12_isSort 18 = .ok (.aload_n 0, 1) := by decide +kernel
theorem dX12_isSort_19 : decode cX12_isSort 19 = .ok (.getfield 26, 3) := by decide +kernel
theorem dX12_isSort_22 : decode cX12_isSort 22 = .ok (.iconst 5, 1) := by decide +kernel
theorem dX12_isSort_23 : decode cX12_isSort 23 = .ok (.iload_n 1, 1) := by decide +kernel
theorem dX12_isSort_24 : decode cX12_isSort 24 = .ok (.imul, 1) := by decide +kernel
theorem dX12_isSort_25 : decode cX12_isSort 25 = .ok (.iload_n 2, 1) := by decide +kernel
theorem dX12_isSort_26 : decode cX12_isSort 26 = .ok (.iadd, 1) := by decide +kernel
theorem dX12_isSort_27 : decode cX12_isSort 27 = .ok (.iaload, 1) := by decide +kernel
theorem dX12_isSort_28 : decode cX12_isSort 28 = .ok (.iload_n 3, 1) := by decide +kernel
theorem dX12_isSort_29 : decode cX12_isSort 29 = .ok (.if_icmp .ne 7, 3) := by decide +kernel
theorem dX12_isSort_32 : decode cX12_isSort 32 = .ok (.iconst 1, 1) := by decide +kernel
theorem dX12_isSort_33 : decode cX12_isSort 33 = .ok (.goto 4, 3) := by decide +kernel
theorem dX12_isSort_36 : decode cX12_isSort 36 = .ok (.iconst 0, 1) := by decide +kernel
theorem dX12_isSort_37 : decode cX12_isSort 37 = .ok (.ireturn, 1) := by decide +kernel
theorem dX12_check_0 : decode cX12_check 0 = .ok (.iload_n 1, 1) := by decide +kernel
theorem dX12_check_1 : decode cX12_check 1 = .ok (.i2l, 1) := by decide +kernel
theorem dX12_check_2 : decode cX12_check 2 = .ok (.invokestatic 133, 3) := by decide +kernel
theorem dX12_check_5 : decode cX12_check 5 = .ok (.ifCond .eq 22, 3) := by decide +kernel
theorem dX12_check_8 : decode cX12_check 8 = .ok (.iload_n 2, 1) := by decide +kernel
theorem dX12_check_9 : decode cX12_check 9 = .ok (.invokestatic 125, 3) := by decide +kernel
theorem dX12_check_12 : decode cX12_check 12 = .ok (.ifCond .eq 15, 3) := by decide +kernel
theorem dX12_check_15 : decode cX12_check 15 = .ok (.iload_n 3, 1) := by decide +kernel
theorem dX12_check_16 : decode cX12_check 16 = .ok (.i2l, 1) := by decide +kernel
theorem dX12_check_17 : decode cX12_check 17 = .ok (.lconst 0, 1) := by decide +kernel
theorem dX12_check_18 : decode cX12_check 18 = .ok (.ldc2_w 137, 3) := by decide +kernel
theorem dX12_check_21 : decode cX12_check 21 = .ok (.invokestatic 117, 3) := by decide +kernel
theorem dX12_check_24 : decode cX12_check 24 = .ok (.ifCond .ne 5, 3) := by decide +kernel
theorem dX12_check_27 : decode cX12_check 27 = .ok (.iconst (-1), 1) := by decide +kernel
theorem dX12_check_28 : decode cX12_check 28 = .ok (.ireturn, 1) := by decide +kernel
theorem dX12_check_29 : decode cX12_check 29 = .ok (.iconst 3, 1) := by decide +kernel
theorem dX12_check_30 : decode cX12_check 30 = .ok (.iload_n 1, 1) := by decide +kernel
theorem dX12_check_31 : decode cX12_check 31 = .ok (.iconst 2, 1) := by decide +kernel
theorem dX12_check_32 : decode cX12_check 32 = .ok (.isub, 1) := by decide +kernel
theorem dX12_check_33 : decode cX12_check 33 = .ok (.imul, 1) := by decide +kernel
theorem dX12_check_34 : decode cX12_check 34 = .ok (.iload_n 2, 1) := by decide +kernel
theorem dX12_check_35 : decode cX12_check 35 = .ok (.iadd, 1) := by decide +kernel
theorem dX12_check_36 : decode cX12_check 36 = .ok (.istore 6, 2) := by decide +kernel
theorem dX12_check_38 : decode cX12_check 38 = .ok (.iload_n 3, 1) := by decide +kernel
theorem dX12_check_39 : decode cX12_check 39 = .ok (.iconst 2, 1) := by decide +kernel
theorem dX12_check_40 : decode cX12_check 40 = .ok (.if_icmp .ge 7, 3) := by decide +kernel
theorem dX12_check_43 : decode cX12_check 43 = .ok (.iconst 0, 1) := by decide +kernel
theorem dX12_check_44 : decode cX12_check 44 = .ok (.goto 22, 3) := by decide +kernel
theorem dX12_check_47 : decode cX12_check 47 = .ok (.iload_n 3, 1) := by decide +kernel
theorem dX12_check_48 : decode cX12_check 48 = .ok (.iconst 2, 1) := by decide +kernel
theorem dX12_check_49 : decode cX12_check 49 = .ok (.if_icmp .ne 7, 3) := by decide +kernel
theorem dX12_check_52 : decode cX12_check 52 = .ok (.iconst 4, 1) := by decide +kernel
theorem dX12_check_53 : decode cX12_check 53 = .ok (.goto 13, 3) := by decide +kernel
theorem dX12_check_56 : decode cX12_check 56 = .ok (.iload_n 3, 1) := by decide +kernel
theorem dX12_check_57 : decode cX12_check 57 = .ok (.iconst 3, 1) := by decide +kernel
theorem dX12_check_58 : decode cX12_check 58 = .ok (.if_icmp .ne 7, 3) := by decide +kernel
theorem dX12_check_61 : decode cX12_check 61 = .ok (.iconst 3, 1) := by decide +kernel
theorem dX12_check_62 : decode cX12_check 62 = .ok (.goto 4, 3) := by decide +kernel
theorem dX12_check_65 : decode cX12_check 65 = .ok (.iconst 2, 1) := by decide +kernel
theorem dX12_check_66 : decode cX12_check 66 = .ok (.istore 7, 2) := by decide +kernel
theorem dX12_check_68 : decode cX12_check 68 = .ok (.aload_n 0, 1) := by decide +kernel
theorem dX12_check_69 : decode cX12_check 69 = .ok (.iload 6, 2) := by decide +kernel
theorem dX12_check_71 : decode cX12_check 71 = .ok (.iload 4, 2) := by decide +kernel
theorem dX12_check_73 : decode cX12_check 73 = .ok (.iload 7, 2) := by decide +kernel
theorem dX12_check_75 : decode cX12_check 75 = .ok (.invokevirtual 143, 3) := by decide +kernel
theorem dX12_check_78 : decode cX12_check 78 = .ok (.ifCond .eq 20, 3) := by decide +kernel
theorem dX12_check_81 : decode cX12_check 81 = .ok (.iload_n 3, 1) := by decide +kernel
theorem dX12_check_82 : decode cX12_check 82 = .ok (.iconst 1, 1) := by decide +kernel
theorem dX12_check_83 : decode cX12_check 83 = .ok (.if_icmp .eq 17, 3) := by decide +kernel
theorem dX12_check_86 : decode cX12_check 86 = .ok (.aload_n 0, 1) := by decide +kernel
theorem dX12_check_87 : decode cX12_check 87 = .ok (.iload 6, 2) := by decide +kernel
theorem dX12_check_89 : decode cX12_check 89 = .ok (.iload 5, 2) := by decide +kernel
theorem dX12_check_91 : decode cX12_check 91 = .ok (.iconst 0, 1) := by decide +kernel
theorem dX12_check_92 : decode cX12_check 92 = .ok (.invokevirtual 143, 3) := by decide +kernel
theorem dX12_check_95 : decode cX12_check 95 = .ok (.ifCond .ne 5, 3) := by decide +kernel
theorem dX12_check_98 : decode cX12_check 98 = .ok (.iconst (-1), 1) := by decide +kernel
theorem dX12_check_99 : decode cX12_check 99 = .ok (.ireturn, 1) := by decide +kernel
theorem dX12_check_100 : decode cX12_check 100 = .ok (.aload_n 0, 1) := by decide +kernel
theorem dX12_check_101 : decode cX12_check 101 = .ok (.getfield 32, 3) := by decide +kernel
theorem dX12_check_104 : decode cX12_check 104 = .ok (.iload 6, 2) := by decide +kernel
theorem dX12_check_106 : decode cX12_check 106 = .ok (.iaload, 1) := by decide +kernel
theorem dX12_check_107 : decode cX12_check 107 = .ok (.iconst 2, 1) := by decide +kernel
theorem dX12_check_108 : decode cX12_check 108 = .ok (.if_icmp .ne 6, 3) := by decide +kernel
theorem dX12_check_111 : decode cX12_check 111 = .ok (.bipush (-2), 2) := by decide +kernel
theorem dX12_check_113 : decode cX12_check 113 = .ok (.ireturn, 1) := by decide +kernel
theorem dX12_check_114 : decode cX12_check 114 = .ok (.aload_n 0, 1) := by decide +kernel
theorem dX12_check_115 : decode cX12_check 115 = .ok (.getfield 32, 3) := by decide +kernel
theorem dX12_check_118 : decode cX12_check 118 = .ok (.iload 6, 2) := by decide +kernel
theorem dX12_check_120 : decode cX12_check 120 = .ok (.iaload, 1) := by decide +kernel
theorem dX12_check_121 : decode cX12_check 121 = .ok (.istore 8, 2) := by decide +kernel
theorem dX12_check_123 : decode cX12_check 123 = .ok (.aload_n 0, 1) := by decide +kernel
theorem dX12_check_124 : decode cX12_check 124 = .ok (.getfield 35, 3) := by decide +kernel
theorem dX12_check_127 : decode cX12_check 127 = .ok (.iconst 2, 1) := by decide +kernel
theorem dX12_check_128 : decode cX12_check 128 = .ok (.iload 6, 2) := by decide +kernel
theorem dX12_check_130 : decode cX12_check 130 = .ok (.imul, 1) := by decide +kernel
theorem dX12_check_131 : decode cX12_check 131 = .ok (.iload 8, 2) := by decide +kernel
theorem dX12_check_133 : decode cX12_check 133 = .ok (.iadd, 1) := by decide +kernel
theorem dX12_check_134 : decode cX12_check 134 = .ok (.iload_n 3, 1) := by decide +kernel
theorem dX12_check_135 : decode cX12_check 135 = .ok (.iastore, 1) := by decide +kernel
theorem dX12_check_136 : decode cX12_check 136 = .ok (.aload_n 0, 1) := by decide +kernel
theorem dX12_check_137 : decode cX12_check 137 = .ok (.getfield 38, 3) := by decide +kernel
theorem dX12_check_140 : decode cX12_check 140 = .ok (.iconst 2, 1) := by decide +kernel
theorem dX12_check_141 : decode cX12_check 141 = .ok (.iload 6, 2) := by decide +kernel
theorem dX12_check_143 : decode cX12_check 143 = .ok (.imul, 1) := by decide +kernel
theorem dX12_check_144 : decode cX12_check 144 = .ok (.iload 8, 2) := by decide +kernel
theorem dX12_check_146 : decode cX12_check 146 = .ok (.iadd, 1) := by decide +kernel
theorem dX12_check_147 : decode cX12_check 147 = .ok (.iload 4, 2) := by decide +kernel
theorem dX12_check_149 : decode cX12_check 149 = .ok (.iastore, 1) := by decide +kernel
theorem dX12_check_150 : decode cX12_check 150 = .ok (.aload_n 0, 1) := by decide +kernel
theorem dX12_check_151 : decode cX12_check 151 = .ok (.getfield 41, 3) := by decide +kernel
theorem dX12_check_154 : decode cX12_check 154 = .ok (.iconst 2, 1) := by decide +kernel
theorem dX12_check_155 : decode cX12_check 155 = .ok (.iload 6, 2) := by decide +kernel
theorem dX12_check_157 : decode cX12_check 157 = .ok (.imul, 1) := by decide +kernel
theorem dX12_check_158 : decode cX12_check 158 = .ok (.iload 8, 2) := by decide +kernel
theorem dX12_check_160 : decode cX12_check 160 = .ok (.iadd, 1) := by decide +kernel
theorem dX12_check_161 : decode cX12_check 161 = .ok (.iload 5, 2) := by decide +kernel
theorem dX12_check_163 : decode cX12_check 163 = .ok (.iastore, 1) := by decide +kernel
theorem dX12_check_164 : decode cX12_check 164 = .ok (.aload_n 0, 1) := by decide +kernel
theorem dX12_check_165 : decode cX12_check 165 = .ok (.getfield 32, 3) := by decide +kernel
theorem dX12_check_168 : decode cX12_check 168 = .ok (.iload 6, 2) := by decide +kernel
theorem dX12_check_170 : decode cX12_check 170 = .ok (.dup2, 1) := by decide +kernel
theorem dX12_check_171 : decode cX12_check 171 = .ok (.iaload, 1) := by decide +kernel
theorem dX12_check_172 : decode cX12_check 172 = .ok (.iconst 1, 1) := by decide +kernel
theorem dX12_check_173 : decode cX12_check 173 = .ok (.iadd, 1) := by decide +kernel
theorem dX12_check_174 : decode cX12_check 174 = .ok (.iastore, 1) := by decide +kernel
theorem dX12_check_175 : decode cX12_check 175 = .ok (.iload 8, 2) := by decide +kernel
theorem dX12_check_177 : decode cX12_check 177 = .ok (.ireturn, 1) := by decide +kernel
theorem dX12_familyOf_0 : decode cX12_familyOf 0 = .ok (.iload_n 1, 1) := by decide +kernel
theorem dX12_familyOf_1 : decode cX12_familyOf 1 = .ok (.iconst (-1), 1) := by decide +kernel
theorem dX12_familyOf_2 : decode cX12_familyOf 2 = .ok (.if_icmp .ne 7, 3) := by decide +kernel
theorem dX12_familyOf_5 : decode cX12_familyOf 5 = .ok (.iconst 0, 1) := by decide +kernel
theorem dX12_familyOf_6 : decode cX12_familyOf 6 = .ok (.goto 37, 3) := by decide +kernel
theorem dX12_familyOf_9 : decode cX12_familyOf 9 = .ok (.iload_n 1, 1) := by decide +kernel
theorem dX12_familyOf_10 : decode cX12_familyOf 10 = .ok (.bipush 100, 2) := by decide +kernel
theorem dX12_familyOf_12 : decode cX12_familyOf 12 = .ok (.if_icmp .ge 20, 3) := by decide +kernel
theorem dX12_familyOf_15 : decode cX12_familyOf 15 = .ok (.aload_n 0, 1) := by decide +kernel
theorem dX12_familyOf_16 : decode cX12_familyOf 16 = .ok (.getfield 16, 3) := by decide +kernel
theorem dX12_familyOf_19 : decode cX12_familyOf 19 = .ok (.iload_n 1, 1) := by decide +kernel
theorem dX12_familyOf_20 : decode cX12_familyOf 20 = .ok (.baload, 1) := by decide +kernel
theorem dX12_familyOf_21 : decode cX12_familyOf 21 = .ok (.ifCond .eq 7, 3) := by decide +kernel
theorem dX12_familyOf_24 : decode cX12_familyOf 24 = .ok (.iconst 2, 1) := by decide +kernel
theorem dX12_familyOf_25 : decode cX12_familyOf 25 = .ok (.goto 18, 3) := by decide +kernel
theorem dX12_familyOf_28 : decode cX12_familyOf 28 = .ok (.iconst 1, 1) := by decide +kernel
theorem dX12_familyOf_29 : decode cX12_familyOf 29 = .ok (.goto 14, 3) := by decide +kernel
theorem dX12_familyOf_32 : decode cX12_familyOf 32 = .ok (.iload_n 1, 1) := by decide +kernel
theorem dX12_familyOf_33 : decode cX12_familyOf 33 = .ok (.ldc 147, 2) := by decide +kernel
theorem dX12_familyOf_35 : decode cX12_familyOf 35 = .ok (.if_icmp .ge 7, 3) := by decide +kernel
theorem dX12_familyOf_38 : decode cX12_familyOf 38 = .ok (.iconst 3, 1) := by decide +kernel
theorem dX12_familyOf_39 : decode cX12_familyOf 39 = .ok (.goto 4, 3) := by decide +kernel
theorem dX12_familyOf_42 : decode cX12_familyOf 42 = .ok (.iconst 4, 1) := by decide +kernel
theorem dX12_familyOf_43 : decode cX12_familyOf 43 = .ok (.ireturn, 1) := by decide +kernel
theorem dX12_hold_0 : decode cX12_hold 0 = .ok (.iload_n 1, 1) := by decide +kernel
theorem dX12_hold_1 : decode cX12_hold 1 = .ok (.invokestatic 148, 3) := by decide +kernel
theorem dX12_hold_4 : decode cX12_hold 4 = .ok (.ifCond .eq 33, 3) := by decide +kernel
theorem dX12_hold_7 : decode cX12_hold 7 = .ok (.iload_n 2, 1) := by decide +kernel
theorem dX12_hold_8 : decode cX12_hold 8 = .ok (.i2l, 1) := by decide +kernel
theorem dX12_hold_9 : decode cX12_hold 9 = .ok (.lconst 0, 1) := by decide +kernel
theorem dX12_hold_10 : decode cX12_hold 10 = .ok (.lconst 1, 1) := by decide +kernel
theorem dX12_hold_11 : decode cX12_hold 11 = .ok (.invokestatic 117, 3) := by decide +kernel
theorem dX12_hold_14 : decode cX12_hold 14 = .ok (.ifCond .eq 23, 3) := by decide +kernel
theorem dX12_hold_17 : decode cX12_hold 17 = .ok (.iload_n 3, 1) := by decide +kernel
theorem dX12_hold_18 : decode cX12_hold 18 = .ok (.invokestatic 125, 3) := by decide +kernel
theorem dX12_hold_21 : decode cX12_hold 21 = .ok (.ifCond .eq 16, 3) := by decide +kernel
theorem dX12_hold_24 : decode cX12_hold 24 = .ok (.iload 4, 2) := by decide +kernel
theorem dX12_hold_26 : decode cX12_hold 26 = .ok (.i2l, 1) := by decide +kernel
theorem dX12_hold_27 : decode cX12_hold 27 = .ok (.lconst 0, 1) := by decide +kernel
theorem dX12_hold_28 : decode cX12_hold 28 = .ok (.ldc2_w 115, 3) := by decide +kernel
theorem dX12_hold_31 : decode cX12_hold 31 = .ok (.invokestatic 117, 3) := by decide +kernel
theorem dX12_hold_34 : decode cX12_hold 34 = .ok (.ifCond .ne 5, 3) := by decide +kernel
theorem dX12_hold_37 : decode cX12_hold 37 = .ok (.iconst (-1), 1) := by decide +kernel
theorem dX12_hold_38 : decode cX12_hold 38 = .ok (.ireturn, 1) := by decide +kernel
theorem dX12_hold_39 : decode cX12_hold 39 = .ok (.aload_n 0, 1) := by decide +kernel
theorem dX12_hold_40 : decode cX12_hold 40 = .ok (.iload_n 2, 1) := by decide +kernel
theorem dX12_hold_41 : decode cX12_hold 41 = .ok (.iload_n 3, 1) := by decide +kernel
theorem dX12_hold_42 : decode cX12_hold 42 = .ok (.iload 4, 2) := by decide +kernel
theorem dX12_hold_44 : decode cX12_hold 44 = .ok (.i2l, 1) := by decide +kernel
theorem dX12_hold_45 : decode cX12_hold 45 = .ok (.invokevirtual 129, 3) := by decide +kernel
theorem dX12_hold_48 : decode cX12_hold 48 = .ok (.istore 5, 2) := by decide +kernel
theorem dX12_hold_50 : decode cX12_hold 50 = .ok (.iload 5, 2) := by decide +kernel
theorem dX12_hold_52 : decode cX12_hold 52 = .ok (.ifCond .ge 6, 3) := by decide +kernel
theorem dX12_hold_55 : decode cX12_hold 55 = .ok (.bipush (-3), 2) := by decide +kernel
theorem dX12_hold_57 : decode cX12_hold 57 = .ok (.ireturn, 1) := by decide +kernel
theorem dX12_hold_58 : decode cX12_hold 58 = .ok (.aload_n 0, 1) := by decide +kernel
theorem dX12_hold_59 : decode cX12_hold 59 = .ok (.getfield 66, 3) := by decide +kernel
theorem dX12_hold_62 : decode cX12_hold 62 = .ok (.iload_n 1, 1) := by decide +kernel
theorem dX12_hold_63 : decode cX12_hold 63 = .ok (.iload 5, 2) := by decide +kernel
theorem dX12_hold_65 : decode cX12_hold 65 = .ok (.iastore, 1) := by decide +kernel
theorem dX12_hold_66 : decode cX12_hold 66 = .ok (.iload 5, 2) := by decide +kernel
theorem dX12_hold_68 : decode cX12_hold 68 = .ok (.bipush 10, 2) := by decide +kernel
theorem dX12_hold_70 : decode cX12_hold 70 = .ok (.irem, 1) := by decide +kernel
theorem dX12_hold_71 : decode cX12_hold 71 = .ok (.ireturn, 1) := by decide +kernel
theorem dX12_newRow_0 : decode cX12_newRow 0 = .ok (.aload_n 0, 1) := by decide +kernel
theorem dX12_newRow_1 : decode cX12_newRow 1 = .ok (.getfield 45, 3) := by decide +kernel
theorem dX12_newRow_4 : decode cX12_newRow 4 = .ok (.aload_n 0, 1) := by decide +kernel
theorem dX12_newRow_5 : decode cX12_newRow 5 = .ok (.getfield 151, 3) := by decide +kernel
theorem dX12_newRow_8 : decode cX12_newRow 8 = .ok (.iload_n 1, 1) := by decide +kernel
theorem dX12_newRow_9 : decode cX12_newRow 9 = .ok (.iastore, 1) := by decide +kernel
theorem dX12_newRow_10 : decode cX12_newRow 10 = .ok (.iconst 0, 1) := by decide +kernel
theorem dX12_newRow_11 : decode cX12_newRow 11 = .ok (.istore_n 2, 1) := by decide +kernel
theorem dX12_newRow_12 : decode cX12_newRow 12 = .ok (.iload_n 2, 1) := by decide +kernel
theorem dX12_newRow_13 : decode cX12_newRow 13 = .ok (.bipush 8, 2) := by decide +kernel
theorem dX12_newRow_15 : decode cX12_newRow 15 = .ok (.if_icmp .ge 24, 3) := by decide +kernel
theorem dX12_newRow_18 : decode cX12_newRow 18 = .ok (.aload_n 0, 1) := by decide +kernel
theorem dX12_newRow_19 : decode cX12_newRow 19 = .ok (.getfield 49, 3) := by decide +kernel
theorem dX12_newRow_22 : decode cX12_newRow 22 = .ok (.bipush 8, 2) := by decide +kernel
theorem dX12_newRow_24 : decode cX12_newRow 24 = .ok (.aload_n 0, 1) := by decide +kernel
theorem dX12_newRow_25 : decode cX12_newRow 25 = .ok (.getfield 151, 3) := by decide +kernel
theorem dX12_newRow_28 : decode cX12_newRow 28 = .ok (.imul, 1) := by decide +kernel
theorem dX12_newRow_29 : decode cX12_newRow 29 = .ok (.iload_n 2, 1) := by decide +kernel
theorem dX12_newRow_30 : decode cX12_newRow 30 = .ok (.iadd, 1) := by decide +kernel
theorem dX12_newRow_31 : decode cX12_newRow 31 = .ok (.iconst 0, 1) := by decide +kernel
theorem dX12_newRow_32 : decode cX12_newRow 32 = .ok (.iastore, 1) := by decide +kernel
theorem dX12_newRow_33 : decode cX12_newRow 33 = .ok (.iinc 2 1, 3) := by decide +kernel
theorem dX12_newRow_36 : decode cX12_newRow 36 = .ok (.goto (-24), 3) := by decide +kernel
theorem dX12_newRow_39 : decode cX12_newRow 39 = .ok (.aload_n 0, 1) := by decide +kernel
theorem dX12_newRow_40 : decode cX12_newRow 40 = .ok (.dup, 1) := by decide +kernel
theorem dX12_newRow_41 : decode cX12_newRow 41 = .ok (.getfield 151, 3) := by decide +kernel
theorem dX12_newRow_44 : decode cX12_newRow 44 = .ok (.iconst 1, 1) := by decide +kernel
theorem dX12_newRow_45 : decode cX12_newRow 45 = .ok (.iadd, 1) := by decide +kernel
theorem dX12_newRow_46 : decode cX12_newRow 46 = .ok (.putfield 151, 3) := by decide +kernel
theorem dX12_newRow_49 : decode cX12_newRow 49 = .ok (.bipush 100, 2) := by decide +kernel
theorem dX12_newRow_51 : decode cX12_newRow 51 = .ok (.aload_n 0, 1) := by decide +kernel
theorem dX12_newRow_52 : decode cX12_newRow 52 = .ok (.getfield 151, 3) := by decide +kernel
theorem dX12_newRow_55 : decode cX12_newRow 55 = .ok (.iadd, 1) := by decide +kernel
theorem dX12_newRow_56 : decode cX12_newRow 56 = .ok (.iconst 1, 1) := by decide +kernel
theorem dX12_newRow_57 : decode cX12_newRow 57 = .ok (.isub, 1) := by decide +kernel
theorem dX12_newRow_58 : decode cX12_newRow 58 = .ok (.ireturn, 1) := by decide +kernel
theorem dX12_row_0 : decode cX12_row 0 = .ok (.iload_n 1, 1) := by decide +kernel
theorem dX12_row_1 : decode cX12_row 1 = .ok (.invokestatic 148, 3) := by decide +kernel
theorem dX12_row_4 : decode cX12_row 4 = .ok (.ifCond .eq 21, 3) := by decide +kernel
theorem dX12_row_7 : decode cX12_row 7 = .ok (.iload_n 2, 1) := by decide +kernel
theorem dX12_row_8 : decode cX12_row 8 = .ok (.bipush (-3), 2) := by decide +kernel
theorem dX12_row_10 : decode cX12_row 10 = .ok (.if_icmp .eq 17, 3) := by decide +kernel
theorem dX12_row_13 : decode cX12_row 13 = .ok (.iload_n 2, 1) := by decide +kernel
theorem dX12_row_14 : decode cX12_row 14 = .ok (.i2l, 1) := by decide +kernel
theorem dX12_row_15 : decode cX12_row 15 = .ok (.lconst 0, 1) := by decide +kernel
theorem dX12_row_16 : decode cX12_row 16 = .ok (.ldc2_w 154, 3) := by decide +kernel
theorem dX12_row_19 : decode cX12_row 19 = .ok (.invokestatic 117, 3) := by decide +kernel
theorem dX12_row_22 : decode cX12_row 22 = .ok (.ifCond .ne 5, 3) := by decide +kernel
theorem dX12_row_25 : decode cX12_row 25 = .ok (.iconst (-1), 1) := by decide +kernel
theorem dX12_row_26 : decode cX12_row 26 = .ok (.ireturn, 1) := by decide +kernel
theorem dX12_row_27 : decode cX12_row 27 = .ok (.aload_n 0, 1) := by decide +kernel
theorem dX12_row_28 : decode cX12_row 28 = .ok (.getfield 66, 3) := by decide +kernel
theorem dX12_row_31 : decode cX12_row 31 = .ok (.iload_n 1, 1) := by decide +kernel
theorem dX12_row_32 : decode cX12_row 32 = .ok (.iload_n 2, 1) := by decide +kernel
theorem dX12_row_33 : decode cX12_row 33 = .ok (.bipush (-3), 2) := by decide +kernel
theorem dX12_row_35 : decode cX12_row 35 = .ok (.if_icmp .ne 7, 3) := by decide +kernel
theorem dX12_row_38 : decode cX12_row 38 = .ok (.iconst (-1), 1) := by decide +kernel
theorem dX12_row_39 : decode cX12_row 39 = .ok (.goto 8, 3) := by decide +kernel
theorem dX12_row_42 : decode cX12_row 42 = .ok (.aload_n 0, 1) := by decide +kernel
theorem dX12_row_43 : decode cX12_row 43 = .ok (.iload_n 2, 1) := by decide +kernel
theorem dX12_row_44 : decode cX12_row 44 = .ok (.invokevirtual 156, 3) := by decide +kernel
theorem dX12_row_47 : decode cX12_row 47 = .ok (.iastore, 1) := by decide +kernel
theorem dX12_row_48 : decode cX12_row 48 = .ok (.iconst 1, 1) := by decide +kernel
theorem dX12_row_49 : decode cX12_row 49 = .ok (.ireturn, 1) := by decide +kernel
theorem dX12_item_0 : decode cX12_item 0 = .ok (.iload_n 1, 1) := by decide +kernel
theorem dX12_item_1 : decode cX12_item 1 = .ok (.invokestatic 148, 3) := by decide +kernel
theorem dX12_item_4 : decode cX12_item 4 = .ok (.ifCond .eq 17, 3) := by decide +kernel
theorem dX12_item_7 : decode cX12_item 7 = .ok (.aload_n 0, 1) := by decide +kernel
theorem dX12_item_8 : decode cX12_item 8 = .ok (.aload_n 0, 1) := by decide +kernel
theorem dX12_item_9 : decode cX12_item 9 = .ok (.getfield 66, 3) := by decide +kernel
theorem dX12_item_12 : decode cX12_item 12 = .ok (.iload_n 1, 1) := by decide +kernel
theorem dX12_item_13 : decode cX12_item 13 = .ok (.iaload, 1) := by decide +kernel
theorem dX12_item_14 : decode cX12_item 14 = .ok (.invokevirtual 160, 3) := by decide +kernel
theorem dX12_item_17 : decode cX12_item 17 = .ok (.iconst 3, 1) := by decide +kernel
theorem dX12_item_18 : decode cX12_item 18 = .ok (.if_icmp .eq 5, 3) := by decide +kernel
theorem dX12_item_21 : decode cX12_item 21 = .ok (.iconst (-1), 1) := by decide +kernel
theorem dX12_item_22 : decode cX12_item 22 = .ok (.ireturn, 1) := by decide +kernel
theorem dX12_item_23 : decode cX12_item 23 = .ok (.aload_n 0, 1) := by decide +kernel
theorem dX12_item_24 : decode cX12_item 24 = .ok (.getfield 66, 3) := by decide +kernel
theorem dX12_item_27 : decode cX12_item 27 = .ok (.iload_n 1, 1) := by decide +kernel
theorem dX12_item_28 : decode cX12_item 28 = .ok (.iaload, 1) := by decide +kernel
theorem dX12_item_29 : decode cX12_item 29 = .ok (.bipush 100, 2) := by decide +kernel
theorem dX12_item_31 : decode cX12_item 31 = .ok (.isub, 1) := by decide +kernel
theorem dX12_item_32 : decode cX12_item 32 = .ok (.istore 4, 2) := by decide +kernel
theorem dX12_item_34 : decode cX12_item 34 = .ok (.iload_n 2, 1) := by decide +kernel
theorem dX12_item_35 : decode cX12_item 35 = .ok (.i2l, 1) := by decide +kernel
theorem dX12_item_36 : decode cX12_item 36 = .ok (.lconst 0, 1) := by decide +kernel
theorem dX12_item_37 : decode cX12_item 37 = .ok (.aload_n 0, 1) := by decide +kernel
theorem dX12_item_38 : decode cX12_item 38 = .ok (.getfield 45, 3) := by decide +kernel
theorem dX12_item_41 : decode cX12_item 41 = .ok (.iload 4, 2) := by decide +kernel
theorem dX12_item_43 : decode cX12_item 43 = .ok (.iaload, 1) := by decide +kernel
theorem dX12_item_44 : decode cX12_item 44 = .ok (.iconst 1, 1) := by decide +kernel
theorem dX12_item_45 : decode cX12_item 45 = .ok (.isub, 1) := by decide +kernel
theorem dX12_item_46 : decode cX12_item 46 = .ok (.i2l, 1) := by decide +kernel
theorem dX12_item_47 : decode cX12_item 47 = .ok (.invokestatic 117, 3) := by decide +kernel
theorem dX12_item_50 : decode cX12_item 50 = .ok (.ifCond .ne 5, 3) := by decide +kernel
theorem dX12_item_53 : decode cX12_item 53 = .ok (.iconst (-1), 1) := by decide +kernel
theorem dX12_item_54 : decode cX12_item 54 = .ok (.ireturn, 1) := by decide +kernel
theorem dX12_item_55 : decode cX12_item 55 = .ok (.aload_n 0, 1) := by decide +kernel
theorem dX12_item_56 : decode cX12_item 56 = .ok (.getfield 49, 3) := by decide +kernel
theorem dX12_item_59 : decode cX12_item 59 = .ok (.bipush 8, 2) := by decide +kernel
theorem dX12_item_61 : decode cX12_item 61 = .ok (.iload 4, 2) := by decide +kernel
theorem dX12_item_63 : decode cX12_item 63 = .ok (.imul, 1) := by decide +kernel
theorem dX12_item_64 : decode cX12_item 64 = .ok (.iload_n 2, 1) := by decide +kernel
theorem dX12_item_65 : decode cX12_item 65 = .ok (.iadd, 1) := by decide +kernel
theorem dX12_item_66 : decode cX12_item 66 = .ok (.iaload, 1) := by decide +kernel
theorem dX12_item_67 : decode cX12_item 67 = .ok (.istore 5, 2) := by decide +kernel
theorem dX12_item_69 : decode cX12_item 69 = .ok (.aload_n 0, 1) := by decide +kernel
theorem dX12_item_70 : decode cX12_item 70 = .ok (.getfield 49, 3) := by decide +kernel
theorem dX12_item_73 : decode cX12_item 73 = .ok (.bipush 8, 2) := by decide +kernel
theorem dX12_item_75 : decode cX12_item 75 = .ok (.iload 4, 2) := by decide +kernel
theorem dX12_item_77 : decode cX12_item 77 = .ok (.imul, 1) := by decide +kernel
theorem dX12_item_78 : decode cX12_item 78 = .ok (.iload_n 2, 1) := by decide +kernel
theorem dX12_item_79 : decode cX12_item 79 = .ok (.iadd, 1) := by decide +kernel
theorem dX12_item_80 : decode cX12_item 80 = .ok (.iload_n 3, 1) := by decide +kernel
theorem dX12_item_81 : decode cX12_item 81 = .ok (.iastore, 1) := by decide +kernel
theorem dX12_item_82 : decode cX12_item 82 = .ok (.iload 5, 2) := by decide +kernel
theorem dX12_item_84 : decode cX12_item 84 = .ok (.ireturn, 1) := by decide +kernel
theorem dX12_share_0 : decode cX12_share 0 = .ok (.iload_n 1, 1) := by decide +kernel
theorem dX12_share_1 : decode cX12_share 1 = .ok (.invokestatic 148, 3) := by decide +kernel
theorem dX12_share_4 : decode cX12_share 4 = .ok (.ifCond .eq 10, 3) := by decide +kernel
theorem dX12_share_7 : decode cX12_share 7 = .ok (.iload_n 2, 1) := by decide +kernel
theorem dX12_share_8 : decode cX12_share 8 = .ok (.invokestatic 148, 3) := by decide +kernel
theorem dX12_share_11 : decode cX12_share 11 = .ok (.ifCond .ne 5, 3) := by decide +kernel
theorem dX12_share_14 : decode cX12_share 14 = .ok (.iconst (-1), 1) := by decide +kernel
theorem dX12_share_15 : decode cX12_share 15 = .ok (.ireturn, 1) := by decide +kernel
theorem dX12_share_16 : decode cX12_share 16 = .ok (.aload_n 0, 1) := by decide +kernel
theorem dX12_share_17 : decode cX12_share 17 = .ok (.getfield 66, 3) := by decide +kernel
theorem dX12_share_20 : decode cX12_share 20 = .ok (.iload_n 1, 1) := by decide +kernel
theorem dX12_share_21 : decode cX12_share 21 = .ok (.aload_n 0, 1) := by decide +kernel
theorem dX12_share_22 : decode cX12_share 22 = .ok (.getfield 66, 3) := by decide +kernel
theorem dX12_share_25 : decode cX12_share 25 = .ok (.iload_n 2, 1) := by decide +kernel
theorem dX12_share_26 : decode cX12_share 26 = .ok (.iaload, 1) := by decide +kernel
theorem dX12_share_27 : decode cX12_share 27 = .ok (.iastore, 1) := by decide +kernel
theorem dX12_share_28 : decode cX12_share 28 = .ok (.aload_n 0, 1) := by decide +kernel
theorem dX12_share_29 : decode cX12_share 29 = .ok (.aload_n 0, 1) := by decide +kernel
theorem dX12_share_30 : decode cX12_share 30 = .ok (.getfield 66, 3) := by decide +kernel
theorem dX12_share_33 : decode cX12_share 33 = .ok (.iload_n 1, 1) := by decide +kernel
theorem dX12_share_34 : decode cX12_share 34 = .ok (.iaload, 1) := by decide +kernel
theorem dX12_share_35 : decode cX12_share 35 = .ok (.invokevirtual 160, 3) := by decide +kernel
theorem dX12_share_38 : decode cX12_share 38 = .ok (.ireturn, 1) := by decide +kernel
theorem dX12_give_0 : decode cX12_give 0 = .ok (.iload_n 1, 1) := by decide +kernel
theorem dX12_give_1 : decode cX12_give 1 = .ok (.i2l, 1) := by decide +kernel
theorem dX12_give_2 : decode cX12_give 2 = .ok (.lconst 0, 1) := by decide +kernel
theorem dX12_give_3 : decode cX12_give 3 = .ok (.ldc2_w 137, 3) := by decide +kernel
theorem dX12_give_6 : decode cX12_give 6 = .ok (.invokestatic 117, 3) := by decide +kernel
theorem dX12_give_9 : decode cX12_give 9 = .ok (.ifCond .eq 11, 3) := by decide +kernel
theorem dX12_give_12 : decode cX12_give 12 = .ok (.iload 4, 2) := by decide +kernel
theorem dX12_give_14 : decode cX12_give 14 = .ok (.invokestatic 148, 3) := by decide +kernel
theorem dX12_give_17 : decode cX12_give 17 = .ok (.ifCond .ne 5, 3) := by decide +kernel
theorem dX12_give_20 : decode cX12_give 20 = .ok (.iconst (-1), 1) := by decide +kernel
theorem dX12_give_21 : decode cX12_give 21 = .ok (.ireturn, 1) := by decide +kernel
theorem dX12_give_22 : decode cX12_give 22 = .ok (.aload_n 0, 1) := by decide +kernel
theorem dX12_give_23 : decode cX12_give 23 = .ok (.getfield 69, 3) := by decide +kernel
theorem dX12_give_26 : decode cX12_give 26 = .ok (.iload_n 1, 1) := by decide +kernel
theorem dX12_give_27 : decode cX12_give 27 = .ok (.lload_n 2, 1) := by decide +kernel
theorem dX12_give_28 : decode cX12_give 28 = .ok (.lastore, 1) := by decide +kernel
theorem dX12_give_29 : decode cX12_give 29 = .ok (.aload_n 0, 1) := by decide +kernel
theorem dX12_give_30 : decode cX12_give 30 = .ok (.getfield 72, 3) := by decide +kernel
theorem dX12_give_33 : decode cX12_give 33 = .ok (.iload_n 1, 1) := by decide +kernel
theorem dX12_give_34 : decode cX12_give 34 = .ok (.iload 4, 2) := by decide +kernel
theorem dX12_give_36 : decode cX12_give 36 = .ok (.iastore, 1) := by decide +kernel
theorem dX12_give_37 : decode cX12_give 37 = .ok (.iconst 1, 1) := by decide +kernel
theorem dX12_give_38 : decode cX12_give 38 = .ok (.ireturn, 1) := by decide +kernel
theorem dX12_taken_0 : decode cX12_taken 0 = .ok (.aload_n 0, 1) := by decide +kernel
theorem dX12_taken_1 : decode cX12_taken 1 = .ok (.getfield 26, 3) := by decide +kernel
theorem dX12_taken_4 : decode cX12_taken 4 = .ok (.iconst 5, 1) := by decide +kernel
theorem dX12_taken_5 : decode cX12_taken 5 = .ok (.iload_n 1, 1) := by decide +kernel
theorem dX12_taken_6 : decode cX12_taken 6 = .ok (.imul, 1) := by decide +kernel
theorem dX12_taken_7 : decode cX12_taken 7 = .ok (.iload_n 2, 1) := by decide +kernel
theorem dX12_taken_8 : decode cX12_taken 8 = .ok (.iadd, 1) := by decide +kernel
theorem dX12_taken_9 : decode cX12_taken 9 = .ok (.iaload, 1) := by decide +kernel
theorem dX12_taken_10 : decode cX12_taken 10 = .ok (.istore 6, 2) := by decide +kernel
theorem dX12_taken_12 : decode cX12_taken 12 = .ok (.aload_n 0, 1) := by decide +kernel
theorem dX12_taken_13 : decode cX12_taken 13 = .ok (.getfield 29, 3) := by decide +kernel
theorem dX12_taken_16 : decode cX12_taken 16 = .ok (.iconst 5, 1) := by decide +kernel
theorem dX12_taken_17 : decode cX12_taken 17 = .ok (.iload_n 1, 1) := by decide +kernel
theorem dX12_taken_18 : decode cX12_taken 18 = .ok (.imul, 1) := by decide +kernel
theorem dX12_taken_19 : decode cX12_taken 19 = .ok (.iload_n 2, 1) := by decide +kernel
theorem dX12_taken_20 : decode cX12_taken 20 = .ok (.iadd, 1) := by decide +kernel
theorem dX12_taken_21 : decode cX12_taken 21 = .ok (.iaload, 1) := by decide +kernel
theorem dX12_taken_22 : decode cX12_taken 22 = .ok (.istore 7, 2) := by decide +kernel
theorem dX12_taken_24 : decode cX12_taken 24 = .ok (.iload 6, 2) := by decide +kernel
theorem dX12_taken_26 : decode cX12_taken 26 = .ok (.iconst 2, 1) := by decide +kernel
theorem dX12_taken_27 : decode cX12_taken 27 = .ok (.if_icmp .ge 27, 3) := by decide +kernel
theorem dX12_taken_30 : decode cX12_taken 30 = .ok (.iload 6, 2) := by decide +kernel
theorem dX12_taken_32 : decode cX12_taken 32 = .ok (.ifCond .ne 20, 3) := by decide +kernel
theorem dX12_taken_35 : decode cX12_taken 35 = .ok (.lload_n 3, 1) := by decide +kernel
theorem dX12_taken_36 : decode cX12_taken 36 = .ok (.ldc2_w 163, 3) := by decide +kernel
theorem dX12_taken_39 : decode cX12_taken 39 = .ok (.ldc2_w 165, 3) := by decide +kernel
theorem dX12_taken_42 : decode cX12_taken 42 = .ok (.invokestatic 117, 3) := by decide +kernel
theorem dX12_taken_45 : decode cX12_taken 45 = .ok (.ifCond .ne 7, 3) := by decide +kernel
theorem dX12_taken_48 : decode cX12_taken 48 = .ok (.iconst 2, 1) := by decide +kernel
theorem dX12_taken_49 : decode cX12_taken 49 = .ok (.goto 4, 3) := by decide +kernel
theorem dX12_taken_52 : decode cX12_taken 52 = .ok (.iconst 0, 1) := by decide +kernel
theorem dX12_taken_53 : decode cX12_taken 53 = .ok (.ireturn, 1) := by decide +kernel
theorem dX12_taken_54 : decode cX12_taken 54 = .ok (.aload_n 0, 1) := by decide +kernel
theorem dX12_taken_55 : decode cX12_taken 55 = .ok (.iload 5, 2) := by decide +kernel
theorem dX12_taken_57 : decode cX12_taken 57 = .ok (.invokevirtual 160, 3) := by decide +kernel
theorem dX12_taken_60 : decode cX12_taken 60 = .ok (.istore 8, 2) := by decide +kernel
theorem dX12_taken_62 : decode cX12_taken 62 = .ok (.iload 8, 2) := by decide +kernel
theorem dX12_taken_64 : decode cX12_taken 64 = .ok (.ifCond .ne 5, 3) := by decide +kernel
theorem dX12_taken_67 : decode cX12_taken 67 = .ok (.iconst 0, 1) := by decide +kernel
theorem dX12_taken_68 : decode cX12_taken 68 = .ok (.ireturn, 1) := by decide +kernel
theorem dX12_taken_69 : decode cX12_taken 69 = .ok (.iload 6, 2) := by decide +kernel
theorem dX12_taken_71 : decode cX12_taken 71 = .ok (.iconst 2, 1) := by decide +kernel
theorem dX12_taken_72 : decode cX12_taken 72 = .ok (.if_icmp .ne 17, 3) := by decide +kernel
theorem dX12_taken_75 : decode cX12_taken 75 = .ok (.iload 8, 2) := by decide +kernel
theorem dX12_taken_77 : decode cX12_taken 77 = .ok (.iconst 3, 1) := by decide +kernel
theorem dX12_taken_78 : decode cX12_taken 78 = .ok (.if_icmp .ge 7, 3) := by decide +kernel
theorem dX12_taken_81 : decode cX12_taken 81 = .ok (.iconst 1, 1) := by decide +kernel
theorem dX12_taken_82 : decode cX12_taken 82 = .ok (.goto 38, 3) := by decide +kernel
theorem dX12_taken_85 : decode cX12_taken 85 = .ok (.iconst 0, 1) := by decide +kernel
theorem dX12_taken_86 : decode cX12_taken 86 = .ok (.goto 34, 3) := by decide +kernel
theorem dX12_taken_89 : decode cX12_taken 89 = .ok (.iload 6, 2) := by decide +kernel
theorem dX12_taken_91 : decode cX12_taken 91 = .ok (.iconst 3, 1) := by decide +kernel
theorem dX12_taken_92 : decode cX12_taken 92 = .ok (.if_icmp .ne 17, 3) := by decide +kernel
theorem dX12_taken_95 : decode cX12_taken 95 = .ok (.iload 8, 2) := by decide +kernel
theorem dX12_taken_97 : decode cX12_taken 97 = .ok (.iconst 4, 1) := by decide +kernel
theorem dX12_taken_98 : decode cX12_taken 98 = .ok (.if_icmp .ne 7, 3) := by decide +kernel
theorem dX12_taken_101 : decode cX12_taken 101 = .ok (.iconst 1, 1) := by decide +kernel
theorem dX12_taken_102 : decode cX12_taken 102 = .ok (.goto 18, 3) := by decide +kernel
theorem dX12_taken_105 : decode cX12_taken 105 = .ok (.iconst 0, 1) := by decide +kernel
theorem dX12_taken_106 : decode cX12_taken 106 = .ok (.goto 14, 3) := by decide +kernel
theorem dX12_taken_109 : decode cX12_taken 109 = .ok (.iload 8, 2) := by decide +kernel
theorem dX12_taken_111 : decode cX12_taken 111 = .ok (.iconst 3, 1) := by decide +kernel
theorem dX12_taken_112 : decode cX12_taken 112 = .ok (.if_icmp .ne 7, 3) := by decide +kernel
theorem dX12_taken_115 : decode cX12_taken 115 = .ok (.iconst 1, 1) := by decide +kernel
theorem dX12_taken_116 : decode cX12_taken 116 = .ok (.goto 4, 3) := by decide +kernel
theorem dX12_taken_119 : decode cX12_taken 119 = .ok (.iconst 0, 1) := by decide +kernel
theorem dX12_taken_120 : decode cX12_taken 120 = .ok (.istore 9, 2) := by decide +kernel
theorem dX12_taken_122 : decode cX12_taken 122 = .ok (.iload 9, 2) := by decide +kernel
theorem dX12_taken_124 : decode cX12_taken 124 = .ok (.ifCond .ne 5, 3) := by decide +kernel
theorem dX12_taken_127 : decode cX12_taken 127 = .ok (.iconst 1, 1) := by decide +kernel
theorem dX12_taken_128 : decode cX12_taken 128 = .ok (.ireturn, 1) := by decide +kernel
theorem dX12_taken_129 : decode cX12_taken 129 = .ok (.iload 6, 2) := by decide +kernel
theorem dX12_taken_131 : decode cX12_taken 131 = .ok (.iconst 2, 1) := by decide +kernel
theorem dX12_taken_132 : decode cX12_taken 132 = .ok (.if_icmp .ne 25, 3) := by decide +kernel
theorem dX12_taken_135 : decode cX12_taken 135 = .ok (.iload 5, 2) := by decide +kernel
theorem dX12_taken_137 : decode cX12_taken 137 = .ok (.bipush 10, 2) := by decide +kernel
theorem dX12_taken_139 : decode cX12_taken 139 = .ok (.idiv, 1) := by decide +kernel
theorem dX12_taken_140 : decode cX12_taken 140 = .ok (.iconst 3, 1) := by decide +kernel
theorem dX12_taken_141 : decode cX12_taken 141 = .ok (.iload 7, 2) := by decide +kernel
theorem dX12_taken_143 : decode cX12_taken 143 = .ok (.imul, 1) := by decide +kernel
theorem dX12_taken_144 : decode cX12_taken 144 = .ok (.iload_n 1, 1) := by decide +kernel
theorem dX12_taken_145 : decode cX12_taken 145 = .ok (.iconst 3, 1) := by decide +kernel
theorem dX12_taken_146 : decode cX12_taken 146 = .ok (.irem, 1) := by decide +kernel
theorem dX12_taken_147 : decode cX12_taken 147 = .ok (.iadd, 1) := by decide +kernel
theorem dX12_taken_148 : decode cX12_taken 148 = .ok (.if_icmp .ne 7, 3) := by decide +kernel
theorem dX12_taken_151 : decode cX12_taken 151 = .ok (.iconst 0, 1) := by decide +kernel
theorem dX12_taken_152 : decode cX12_taken 152 = .ok (.goto 4, 3) := by decide +kernel
theorem dX12_taken_155 : decode cX12_taken 155 = .ok (.iconst 2, 1) := by decide +kernel
theorem dX12_taken_156 : decode cX12_taken 156 = .ok (.ireturn, 1) := by decide +kernel
theorem dX12_taken_157 : decode cX12_taken 157 = .ok (.iload 6, 2) := by decide +kernel
theorem dX12_taken_159 : decode cX12_taken 159 = .ok (.iconst 3, 1) := by decide +kernel
theorem dX12_taken_160 : decode cX12_taken 160 = .ok (.if_icmp .ne 30, 3) := by decide +kernel
theorem dX12_taken_163 : decode cX12_taken 163 = .ok (.aload_n 0, 1) := by decide +kernel
theorem dX12_taken_164 : decode cX12_taken 164 = .ok (.getfield 52, 3) := by decide +kernel
theorem dX12_taken_167 : decode cX12_taken 167 = .ok (.iload 5, 2) := by decide +kernel
theorem dX12_taken_169 : decode cX12_taken 169 = .ok (.ldc 147, 2) := by decide +kernel
theorem dX12_taken_171 : decode cX12_taken 171 = .ok (.isub, 1) := by decide +kernel
theorem dX12_taken_172 : decode cX12_taken 172 = .ok (.iaload, 1) := by decide +kernel
theorem dX12_taken_173 : decode cX12_taken 173 = .ok (.iconst 3, 1) := by decide +kernel
theorem dX12_taken_174 : decode cX12_taken 174 = .ok (.iload 7, 2) := by decide +kernel
theorem dX12_taken_176 : decode cX12_taken 176 = .ok (.iconst 2, 1) := by decide +kernel
theorem dX12_taken_177 : decode cX12_taken 177 = .ok (.isub, 1) := by decide +kernel
theorem dX12_taken_178 : decode cX12_taken 178 = .ok (.imul, 1) := by decide +kernel
theorem dX12_taken_179 : decode cX12_taken 179 = .ok (.iload_n 1, 1) := by decide +kernel
theorem dX12_taken_180 : decode cX12_taken 180 = .ok (.iconst 3, 1) := by decide +kernel
theorem dX12_taken_181 : decode cX12_taken 181 = .ok (.irem, 1) := by decide +kernel
theorem dX12_taken_182 : decode cX12_taken 182 = .ok (.iadd, 1) := by decide +kernel
theorem dX12_taken_183 : decode cX12_taken 183 = .ok (.if_icmp .eq 7, 3) := by decide +kernel
theorem dX12_taken_186 : decode cX12_taken 186 = .ok (.iconst 2, 1) := by decide +kernel
theorem dX12_taken_187 : decode cX12_taken 187 = .ok (.goto 4, 3) := by decide +kernel
theorem dX12_taken_190 : decode cX12_taken 190 = .ok (.iconst 0, 1) := by decide +kernel
theorem dX12_taken_191 : decode cX12_taken 191 = .ok (.ireturn, 1) := by decide +kernel
theorem dX12_checked_0 : decode cX12_checked 0 = .ok (.iload_n 1, 1) := by decide +kernel
theorem dX12_checked_1 : decode cX12_checked 1 = .ok (.ifCond .ne 16, 3) := by decide +kernel
theorem dX12_checked_4 : decode cX12_checked 4 = .ok (.lload_n 2, 1) := by decide +kernel
theorem dX12_checked_5 : decode cX12_checked 5 = .ok (.lload 5, 2) := by decide +kernel
theorem dX12_checked_7 : decode cX12_checked 7 = .ok (.lcmp, 1) := by decide +kernel
theorem dX12_checked_8 : decode cX12_checked 8 = .ok (.ifCond .gt 7, 3) := by decide +kernel
theorem dX12_checked_11 : decode cX12_checked 11 = .ok (.iconst 0, 1) := by decide +kernel
theorem dX12_checked_12 : decode cX12_checked 12 = .ok (.goto 4, 3) := by decide +kernel
theorem dX12_checked_15 : decode cX12_checked 15 = .ok (.iconst 2, 1) := by decide +kernel
theorem dX12_checked_16 : decode cX12_checked 16 = .ok (.ireturn, 1) := by decide +kernel
theorem dX12_checked_17 : decode cX12_checked 17 = .ok (.iload_n 1, 1) := by decide +kernel
theorem dX12_checked_18 : decode cX12_checked 18 = .ok (.iconst 1, 1) := by decide +kernel
theorem dX12_checked_19 : decode cX12_checked 19 = .ok (.if_icmp .ne 29, 3) := by decide +kernel
theorem dX12_checked_22 : decode cX12_checked 22 = .ok (.lload_n 2, 1) := by decide +kernel
theorem dX12_checked_23 : decode cX12_checked 23 = .ok (.lconst 0, 1) := by decide +kernel
theorem dX12_checked_24 : decode cX12_checked 24 = .ok (.lcmp, 1) := by decide +kernel
theorem dX12_checked_25 : decode cX12_checked 25 = .ok (.ifCond .ne 7, 3) := by decide +kernel
theorem dX12_checked_28 : decode cX12_checked 28 = .ok (.iconst 5, 1) := by decide +kernel
theorem dX12_checked_29 : decode cX12_checked 29 = .ok (.goto 18, 3) := by decide +kernel
theorem dX12_checked_32 : decode cX12_checked 32 = .ok (.ldc2_w 167, 3) := by decide +kernel
theorem dX12_checked_35 : decode cX12_checked 35 = .ok (.lload_n 2, 1) := by decide +kernel
theorem dX12_checked_36 : decode cX12_checked 36 = .ok (.lrem, 1) := by decide +kernel
theorem dX12_checked_37 : decode cX12_checked 37 = .ok (.lconst 0, 1) := by decide +kernel
theorem dX12_checked_38 : decode cX12_checked 38 = .ok (.lcmp, 1) := by decide +kernel
theorem dX12_checked_39 : decode cX12_checked 39 = .ok (.ifCond .ne 7, 3) := by decide +kernel
theorem dX12_checked_42 : decode cX12_checked 42 = .ok (.iconst 0, 1) := by decide +kernel
theorem dX12_checked_43 : decode cX12_checked 43 = .ok (.goto 4, 3) := by decide +kernel
theorem dX12_checked_46 : decode cX12_checked 46 = .ok (.iconst 2, 1) := by decide +kernel
theorem dX12_checked_47 : decode cX12_checked 47 = .ok (.ireturn, 1) := by decide +kernel
theorem dX12_checked_48 : decode cX12_checked 48 = .ok (.iload 4, 2) := by decide +kernel
theorem dX12_checked_50 : decode cX12_checked 50 = .ok (.iconst (-1), 1) := by decide +kernel
theorem dX12_checked_51 : decode cX12_checked 51 = .ok (.if_icmp .ne 5, 3) := by decide +kernel
theorem dX12_checked_54 : decode cX12_checked 54 = .ok (.iconst 3, 1) := by decide +kernel
theorem dX12_checked_55 : decode cX12_checked 55 = .ok (.ireturn, 1) := by decide +kernel
theorem dX12_checked_56 : decode cX12_checked 56 = .ok (.iload_n 1, 1) := by decide +kernel
theorem dX12_checked_57 : decode cX12_checked 57 = .ok (.iconst 2, 1) := by decide +kernel
theorem dX12_checked_58 : decode cX12_checked 58 = .ok (.if_icmp .ne 56, 3) := by decide +kernel
theorem dX12_checked_61 : decode cX12_checked 61 = .ok (.iload 4, 2) := by decide +kernel
theorem dX12_checked_63 : decode cX12_checked 63 = .ok (.bipush 100, 2) := by decide +kernel
theorem dX12_checked_65 : decode cX12_checked 65 = .ok (.isub, 1) := by decide +kernel
theorem dX12_checked_66 : decode cX12_checked 66 = .ok (.istore 7, 2) := by decide +kernel
theorem dX12_checked_68 : decode cX12_checked 68 = .ok (.lload 5, 2) := by decide +kernel
theorem dX12_checked_70 : decode cX12_checked 70 = .ok (.lconst 0, 1) := by decide +kernel
theorem dX12_checked_71 : decode cX12_checked 71 = .ok (.aload_n 0, 1) := by decide +kernel
theorem dX12_checked_72 : decode cX12_checked 72 = .ok (.getfield 45, 3) := by decide +kernel
theorem dX12_checked_75 : decode cX12_checked 75 = .ok (.iload 7, 2) := by decide +kernel
theorem dX12_checked_77 : decode cX12_checked 77 = .ok (.iaload, 1) := by decide +kernel
theorem dX12_checked_78 : decode cX12_checked 78 = .ok (.iconst 1, 1) := by decide +kernel
theorem dX12_checked_79 : decode cX12_checked 79 = .ok (.isub, 1) := by decide +kernel
theorem dX12_checked_80 : decode cX12_checked 80 = .ok (.i2l, 1) := by decide +kernel
theorem dX12_checked_81 : decode cX12_checked 81 = .ok (.invokestatic 117, 3) := by decide +kernel
theorem dX12_checked_84 : decode cX12_checked 84 = .ok (.ifCond .ne 7, 3) := by decide +kernel
theorem dX12_checked_87 : decode cX12_checked 87 = .ok (.iconst 4, 1) := by decide +kernel
theorem dX12_checked_88 : decode cX12_checked 88 = .ok (.goto 25, 3) := by decide +kernel
theorem dX12_checked_91 : decode cX12_checked 91 = .ok (.aload_n 0, 1) := by decide +kernel
theorem dX12_checked_92 : decode cX12_checked 92 = .ok (.getfield 49, 3) := by decide +kernel
theorem dX12_checked_95 : decode cX12_checked 95 = .ok (.bipush 8, 2) := by decide +kernel
theorem dX12_checked_97 : decode cX12_checked 97 = .ok (.iload 7, 2) := by decide +kernel
theorem dX12_checked_99 : decode cX12_checked 99 = .ok (.imul, 1) := by decide +kernel
theorem dX12_checked_100 : decode cX12_checked 100 = .ok (.lload 5, 2) := by decide +kernel
theorem dX12_checked_102 : decode cX12_checked 102 = .ok (.l2i, 1) := by decide +kernel
theorem dX12_checked_103 : decode cX12_checked 103 = .ok (.iadd, 1) := by decide +kernel
theorem dX12_checked_104 : decode cX12_checked 104 = .ok (.iaload, 1) := by decide +kernel
theorem dX12_checked_105 : decode cX12_checked 105 = .ok (.ifCond .le 7, 3) := by decide +kernel
theorem dX12_checked_108 : decode cX12_checked 108 = .ok (.iconst 0, 1) := by decide +kernel
theorem dX12_checked_109 : decode cX12_checked 109 = .ok (.goto 4, 3) := by decide +kernel
theorem dX12_checked_112 : decode cX12_checked 112 = .ok (.iconst 2, 1) := by decide +kernel
theorem dX12_checked_113 : decode cX12_checked 113 = .ok (.ireturn, 1) := by decide +kernel
theorem dX12_checked_114 : decode cX12_checked 114 = .ok (.iload_n 1, 1) := by decide +kernel
theorem dX12_checked_115 : decode cX12_checked 115 = .ok (.iconst 4, 1) := by decide +kernel
theorem dX12_checked_116 : decode cX12_checked 116 = .ok (.if_icmp .ne 21, 3) := by decide +kernel
theorem dX12_checked_119 : decode cX12_checked 119 = .ok (.iload 4, 2) := by decide +kernel
theorem dX12_checked_121 : decode cX12_checked 121 = .ok (.bipush 10, 2) := by decide +kernel
theorem dX12_checked_123 : decode cX12_checked 123 = .ok (.irem, 1) := by decide +kernel
theorem dX12_checked_124 : decode cX12_checked 124 = .ok (.i2l, 1) := by decide +kernel
theorem dX12_checked_125 : decode cX12_checked 125 = .ok (.lload 5, 2) := by decide +kernel
theorem dX12_checked_127 : decode cX12_checked 127 = .ok (.lcmp, 1) := by decide +kernel
theorem dX12_checked_128 : decode cX12_checked 128 = .ok (.ifCond .ge 7, 3) := by decide +kernel
theorem dX12_checked_131 : decode cX12_checked 131 = .ok (.iconst 0, 1) := by decide +kernel
theorem dX12_checked_132 : decode cX12_checked 132 = .ok (.goto 4, 3) := by decide +kernel
theorem dX12_checked_135 : decode cX12_checked 135 = .ok (.iconst 2, 1) := by decide +kernel
theorem dX12_checked_136 : decode cX12_checked 136 = .ok (.ireturn, 1) := by decide +kernel
theorem dX12_checked_137 : decode cX12_checked 137 = .ok (.iload 4, 2) := by decide +kernel
theorem dX12_checked_139 : decode cX12_checked 139 = .ok (.ldc 147, 2) := by decide +kernel
theorem dX12_checked_141 : decode cX12_checked 141 = .ok (.isub, 1) := by decide +kernel
theorem dX12_checked_142 : decode cX12_checked 142 = .ok (.istore 7, 2) := by decide +kernel
theorem dX12_checked_144 : decode cX12_checked 144 = .ok (.aload_n 0, 1) := by decide +kernel
theorem dX12_checked_145 : decode cX12_checked 145 = .ok (.getfield 55, 3) := by decide +kernel
theorem dX12_checked_148 : decode cX12_checked 148 = .ok (.iload 7, 2) := by decide +kernel
theorem dX12_checked_150 : decode cX12_checked 150 = .ok (.iaload, 1) := by decide +kernel
theorem dX12_checked_151 : decode cX12_checked 151 = .ok (.ifCond .ne 7, 3) := by decide +kernel
theorem dX12_checked_154 : decode cX12_checked 154 = .ok (.iconst 4, 1) := by decide +kernel
theorem dX12_checked_155 : decode cX12_checked 155 = .ok (.goto 45, 3) := by decide +kernel
theorem dX12_checked_158 : decode cX12_checked 158 = .ok (.aload_n 0, 1) := by decide +kernel
theorem dX12_checked_159 : decode cX12_checked 159 = .ok (.getfield 26, 3) := by decide +kernel
theorem dX12_checked_162 : decode cX12_checked 162 = .ok (.iconst 5, 1) := by decide +kernel
theorem dX12_checked_163 : decode cX12_checked 163 = .ok (.aload_n 0, 1) := by decide +kernel
theorem dX12_checked_164 : decode cX12_checked 164 = .ok (.getfield 52, 3) := by decide +kernel
theorem dX12_checked_167 : decode cX12_checked 167 = .ok (.iload 7, 2) := by decide +kernel
theorem dX12_checked_169 : decode cX12_checked 169 = .ok (.iaload, 1) := by decide +kernel
theorem dX12_checked_170 : decode cX12_checked 170 = .ok (.imul, 1) := by decide +kernel
theorem dX12_checked_171 : decode cX12_checked 171 = .ok (.iaload, 1) := by decide +kernel
theorem dX12_checked_172 : decode cX12_checked 172 = .ok (.iconst 1, 1) := by decide +kernel
theorem dX12_checked_173 : decode cX12_checked 173 = .ok (.if_icmp .le 7, 3) := by decide +kernel
theorem dX12_checked_176 : decode cX12_checked 176 = .ok (.iconst 1, 1) := by decide +kernel
theorem dX12_checked_177 : decode cX12_checked 177 = .ok (.goto 23, 3) := by decide +kernel
theorem dX12_checked_180 : decode cX12_checked 180 = .ok (.aload_n 0, 1) := by decide +kernel
theorem dX12_checked_181 : decode cX12_checked 181 = .ok (.getfield 59, 3) := by decide +kernel
theorem dX12_checked_184 : decode cX12_checked 184 = .ok (.iconst 5, 1) := by decide +kernel
theorem dX12_checked_185 : decode cX12_checked 185 = .ok (.iload 7, 2) := by decide +kernel
theorem dX12_checked_187 : decode cX12_checked 187 = .ok (.imul, 1) := by decide +kernel
theorem dX12_checked_188 : decode cX12_checked 188 = .ok (.laload, 1) := by decide +kernel
theorem dX12_checked_189 : decode cX12_checked 189 = .ok (.lload 5, 2) := by decide +kernel
theorem dX12_checked_191 : decode cX12_checked 191 = .ok (.lcmp, 1) := by decide +kernel
theorem dX12_checked_192 : decode cX12_checked 192 = .ok (.ifCond .ne 7, 3) := by decide +kernel
theorem dX12_checked_195 : decode cX12_checked 195 = .ok (.iconst 0, 1) := by decide +kernel
theorem dX12_checked_196 : decode cX12_checked 196 = .ok (.goto 4, 3) := by decide +kernel
theorem dX12_checked_199 : decode cX12_checked 199 = .ok (.iconst 2, 1) := by decide +kernel
theorem dX12_checked_200 : decode cX12_checked 200 = .ok (.ireturn, 1) := by decide +kernel
theorem dX12_record_0 : decode cX12_record 0 = .ok (.iconst 0, 1) := by decide +kernel
theorem dX12_record_1 : decode cX12_record 1 = .ok (.istore_n 3, 1) := by decide +kernel
theorem dX12_record_2 : decode cX12_record 2 = .ok (.iconst 0, 1) := by decide +kernel
theorem dX12_record_3 : decode cX12_record 3 = .ok (.istore 4, 2) := by decide +kernel
theorem dX12_record_5 : decode cX12_record 5 = .ok (.iload 4, 2) := by decide +kernel
theorem dX12_record_7 : decode cX12_record 7 = .ok (.aload_n 0, 1) := by decide +kernel
theorem dX12_record_8 : decode cX12_record 8 = .ok (.getfield 20, 3) := by decide +kernel
theorem dX12_record_11 : decode cX12_record 11 = .ok (.iload_n 1, 1) := by decide +kernel
theorem dX12_record_12 : decode cX12_record 12 = .ok (.iaload, 1) := by decide +kernel
theorem dX12_record_13 : decode cX12_record 13 = .ok (.if_icmp .ge 39, 3) := by decide +kernel
theorem dX12_record_16 : decode cX12_record 16 = .ok (.iload_n 3, 1) := by decide +kernel
theorem dX12_record_17 : decode cX12_record 17 = .ok (.ifCond .ne 35, 3) := by decide +kernel
theorem dX12_record_20 : decode cX12_record 20 = .ok (.aload_n 0, 1) := by decide +kernel
theorem dX12_record_21 : decode cX12_record 21 = .ok (.iload_n 1, 1) := by decide +kernel
theorem dX12_record_22 : decode cX12_record 22 = .ok (.iload 4, 2) := by decide +kernel
theorem dX12_record_24 : decode cX12_record 24 = .ok (.aload_n 0, 1) := by decide +kernel
theorem dX12_record_25 : decode cX12_record 25 = .ok (.getfield 82, 3) := by decide +kernel
theorem dX12_record_28 : decode cX12_record 28 = .ok (.iload_n 2, 1) := by decide +kernel
theorem dX12_record_29 : decode cX12_record 29 = .ok (.iload 4, 2) := by decide +kernel
theorem dX12_record_31 : decode cX12_record 31 = .ok (.iadd, 1) := by decide +kernel
theorem dX12_record_32 : decode cX12_record 32 = .ok (.laload, 1) := by decide +kernel
theorem dX12_record_33 : decode cX12_record 33 = .ok (.aload_n 0, 1) := by decide +kernel
theorem dX12_record_34 : decode cX12_record 34 = .ok (.getfield 85, 3) := by decide +kernel
theorem dX12_record_37 : decode cX12_record 37 = .ok (.iload_n 2, 1) := by decide +kernel
theorem dX12_record_38 : decode cX12_record 38 = .ok (.iload 4, 2) := by decide +kernel
theorem dX12_record_40 : decode cX12_record 40 = .ok (.iadd, 1) := by decide +kernel
theorem dX12_record_41 : decode cX12_record 41 = .ok (.iaload, 1) := by decide +kernel
theorem dX12_record_42 : decode cX12_record 42 = .ok (.invokevirtual 169, 3) := by decide +kernel
theorem dX12_record_45 : decode cX12_record 45 = .ok (.istore_n 3, 1) := by decide +kernel
theorem dX12_record_46 : decode cX12_record 46 = .ok (.iinc 4 1, 3) := by decide +kernel
theorem dX12_record_49 : decode cX12_record 49 = .ok (.goto (-44), 3) := by decide +kernel
theorem dX12_record_52 : decode cX12_record 52 = .ok (.iconst 2, 1) := by decide +kernel
theorem dX12_record_53 : decode cX12_record 53 = .ok (.iload_n 1, 1) := by decide +kernel
theorem dX12_record_54 : decode cX12_record 54 = .ok (.imul, 1) := by decide +kernel
theorem dX12_record_55 : decode cX12_record 55 = .ok (.istore 4, 2) := by decide +kernel
theorem dX12_record_57 : decode cX12_record 57 = .ok (.iload 4, 2) := by decide +kernel
theorem dX12_record_59 : decode cX12_record 59 = .ok (.iconst 2, 1) := by decide +kernel
theorem dX12_record_60 : decode cX12_record 60 = .ok (.iload_n 1, 1) := by decide +kernel
theorem dX12_record_61 : decode cX12_record 61 = .ok (.imul, 1) := by decide +kernel
theorem dX12_record_62 : decode cX12_record 62 = .ok (.aload_n 0, 1) := by decide +kernel
theorem dX12_record_63 : decode cX12_record 63 = .ok (.getfield 32, 3) := by decide +kernel
theorem dX12_record_66 : decode cX12_record 66 = .ok (.iload_n 1, 1) := by decide +kernel
theorem dX12_record_67 : decode cX12_record 67 = .ok (.iaload, 1) := by decide +kernel
theorem dX12_record_68 : decode cX12_record 68 = .ok (.iadd, 1) := by decide +kernel
theorem dX12_record_69 : decode cX12_record 69 = .ok (.if_icmp .ge 82, 3) := by decide +kernel
theorem dX12_record_72 : decode cX12_record 72 = .ok (.iload_n 3, 1) := by decide +kernel
theorem dX12_record_73 : decode cX12_record 73 = .ok (.ifCond .ne 78, 3) := by decide +kernel
theorem dX12_record_76 : decode cX12_record 76 = .ok (.aload_n 0, 1) := by decide +kernel
theorem dX12_record_77 : decode cX12_record 77 = .ok (.aload_n 0, 1) := by decide +kernel
theorem dX12_record_78 : decode cX12_record 78 = .ok (.getfield 35, 3) := by decide +kernel
theorem dX12_record_81 : decode cX12_record 81 = .ok (.iload 4, 2) := by decide +kernel
theorem dX12_record_83 : decode cX12_record 83 = .ok (.iaload, 1) := by decide +kernel
theorem dX12_record_84 : decode cX12_record 84 = .ok (.aload_n 0, 1) := by decide +kernel
theorem dX12_record_85 : decode cX12_record 85 = .ok (.getfield 82, 3) := by decide +kernel
theorem dX12_record_88 : decode cX12_record 88 = .ok (.iload_n 2, 1) := by decide +kernel
theorem dX12_record_89 : decode cX12_record 89 = .ok (.aload_n 0, 1) := by decide +kernel
theorem dX12_record_90 : decode cX12_record 90 = .ok (.getfield 38, 3) := by decide +kernel
theorem dX12_record_93 : decode cX12_record 93 = .ok (.iload 4, 2) := by decide +kernel
theorem dX12_record_95 : decode cX12_record 95 = .ok (.iaload, 1) := by decide +kernel
theorem dX12_record_96 : decode cX12_record 96 = .ok (.iadd, 1) := by decide +kernel
theorem dX12_record_97 : decode cX12_record 97 = .ok (.laload, 1) := by decide +kernel
theorem dX12_record_98 : decode cX12_record 98 = .ok (.aload_n 0, 1) := by decide +kernel
theorem dX12_record_99 : decode cX12_record 99 = .ok (.getfield 85, 3) := by decide +kernel
theorem dX12_record_102 : decode cX12_record 102 = .ok (.iload_n 2, 1) := by decide +kernel
theorem dX12_record_103 : decode cX12_record 103 = .ok (.aload_n 0, 1) := by decide +kernel
theorem dX12_record_104 : decode cX12_record 104 = .ok (.getfield 38, 3) := by decide +kernel
theorem dX12_record_107 : decode cX12_record 107 = .ok (.iload 4, 2) := by decide +kernel
theorem dX12_record_109 : decode cX12_record 109 = .ok (.iaload, 1) := by decide +kernel
theorem dX12_record_110 : decode cX12_record 110 = .ok (.iadd, 1) := by decide +kernel
theorem dX12_record_111 : decode cX12_record 111 = .ok (.iaload, 1) := by decide +kernel
theorem dX12_record_112 : decode cX12_record 112 = .ok (.aload_n 0, 1) := by decide +kernel
theorem dX12_record_113 : decode cX12_record 113 = .ok (.getfield 35, 3) := by decide +kernel
theorem dX12_record_116 : decode cX12_record 116 = .ok (.iload 4, 2) := by decide +kernel
theorem dX12_record_118 : decode cX12_record 118 = .ok (.iaload, 1) := by decide +kernel
theorem dX12_record_119 : decode cX12_record 119 = .ok (.iconst 1, 1) := by decide +kernel
theorem dX12_record_120 : decode cX12_record 120 = .ok (.if_icmp .ne 7, 3) := by decide +kernel
theorem dX12_record_123 : decode cX12_record 123 = .ok (.lconst 0, 1) := by decide +kernel
theorem dX12_record_124 : decode cX12_record 124 = .ok (.goto 17, 3) := by decide +kernel
theorem dX12_record_127 : decode cX12_record 127 = .ok (.aload_n 0, 1) := by decide +kernel
theorem dX12_record_128 : decode cX12_record 128 = .ok (.getfield 82, 3) := by decide +kernel
theorem dX12_record_131 : decode cX12_record 131 = .ok (.iload_n 2, 1) := by decide +kernel
theorem dX12_record_132 : decode cX12_record 132 = .ok (.aload_n 0, 1) := by decide +kernel
theorem dX12_record_133 : decode cX12_record 133 = .ok (.getfield 41, 3) := by decide +kernel
theorem dX12_record_136 : decode cX12_record 136 = .ok (.iload 4, 2) := by decide +kernel
theorem dX12_record_138 : decode cX12_record 138 = .ok (.iaload, 1) := by decide +kernel
theorem dX12_record_139 : decode cX12_record 139 = .ok (.iadd, 1) := by decide +kernel
theorem dX12_record_140 : decode cX12_record 140 = .ok (.laload, 1) := by decide +kernel
theorem dX12_record_141 : decode cX12_record 141 = .ok (.invokevirtual 173, 3) := by decide +kernel
theorem dX12_record_144 : decode cX12_record 144 = .ok (.istore_n 3, 1) := by decide +kernel
theorem dX12_record_145 : decode cX12_record 145 = .ok (.iinc 4 1, 3) := by decide +kernel
theorem dX12_record_148 : decode cX12_record 148 = .ok (.goto (-91), 3) := by decide +kernel
theorem dX12_record_151 : decode cX12_record 151 = .ok (.iload_n 3, 1) := by decide +kernel
theorem dX12_record_152 : decode cX12_record 152 = .ok (.ifCond .le 8, 3) := by decide +kernel
theorem dX12_record_155 : decode cX12_record 155 = .ok (.bipush (-10), 2) := by decide +kernel
theorem dX12_record_157 : decode cX12_record 157 = .ok (.iload_n 3, 1) := by decide +kernel
theorem dX12_record_158 : decode cX12_record 158 = .ok (.isub, 1) := by decide +kernel
theorem dX12_record_159 : decode cX12_record 159 = .ok (.ireturn, 1) := by decide +kernel
theorem dX12_record_160 : decode cX12_record 160 = .ok (.aload_n 0, 1) := by decide +kernel
theorem dX12_record_161 : decode cX12_record 161 = .ok (.getfield 177, 3) := by decide +kernel
theorem dX12_record_164 : decode cX12_record 164 = .ok (.istore 4, 2) := by decide +kernel
theorem dX12_record_166 : decode cX12_record 166 = .ok (.aload_n 0, 1) := by decide +kernel
theorem dX12_record_167 : decode cX12_record 167 = .ok (.getfield 52, 3) := by decide +kernel
theorem dX12_record_170 : decode cX12_record 170 = .ok (.iload 4, 2) := by decide +kernel
theorem dX12_record_172 : decode cX12_record 172 = .ok (.iload_n 1, 1) := by decide +kernel
theorem dX12_record_173 : decode cX12_record 173 = .ok (.iastore, 1) := by decide +kernel
theorem dX12_record_174 : decode cX12_record 174 = .ok (.aload_n 0, 1) := by decide +kernel
theorem dX12_record_175 : decode cX12_record 175 = .ok (.getfield 55, 3) := by decide +kernel
theorem dX12_record_178 : decode cX12_record 178 = .ok (.iload 4, 2) := by decide +kernel
theorem dX12_record_180 : decode cX12_record 180 = .ok (.aload_n 0, 1) := by decide +kernel
theorem dX12_record_181 : decode cX12_record 181 = .ok (.getfield 20, 3) := by decide +kernel
theorem dX12_record_184 : decode cX12_record 184 = .ok (.iload_n 1, 1) := by decide +kernel
theorem dX12_record_185 : decode cX12_record 185 = .ok (.iaload, 1) := by decide +kernel
theorem dX12_record_186 : decode cX12_record 186 = .ok (.iastore, 1) := by decide +kernel
theorem dX12_record_187 : decode cX12_record 187 = .ok (.iconst 0, 1) := by decide +kernel
theorem dX12_record_188 : decode cX12_record 188 = .ok (.istore 5, 2) := by decide +kernel
theorem dX12_record_190 : decode cX12_record 190 = .ok (.iload 5, 2) := by decide +kernel
theorem dX12_record_192 : decode cX12_record 192 = .ok (.aload_n 0, 1) := by decide +kernel
theorem dX12_record_193 : decode cX12_record 193 = .ok (.getfield 20, 3) := by decide +kernel
theorem dX12_record_196 : decode cX12_record 196 = .ok (.iload_n 1, 1) := by decide +kernel
theorem dX12_record_197 : decode cX12_record 197 = .ok (.iaload, 1) := by decide +kernel
theorem dX12_record_198 : decode cX12_record 198 = .ok (.if_icmp .ge 91, 3) := by decide +kernel
theorem dX12_record_201 : decode cX12_record 201 = .ok (.aload_n 0, 1) := by decide +kernel
theorem dX12_record_202 : decode cX12_record 202 = .ok (.getfield 26, 3) := by decide +kernel
theorem dX12_record_205 : decode cX12_record 205 = .ok (.iconst 5, 1) := by decide +kernel
theorem dX12_record_206 : decode cX12_record 206 = .ok (.iload_n 1, 1) := by decide +kernel
theorem dX12_record_207 : decode cX12_record 207 = .ok (.imul, 1) := by decide +kernel
theorem dX12_record_208 : decode cX12_record 208 = .ok (.iload 5, 2) := by decide +kernel
theorem dX12_record_210 : decode cX12_record 210 = .ok (.iadd, 1) := by decide +kernel
theorem dX12_record_211 : decode cX12_record 211 = .ok (.iaload, 1) := by decide +kernel
theorem dX12_record_212 : decode cX12_record 212 = .ok (.iconst 2, 1) := by decide +kernel
theorem dX12_record_213 : decode cX12_record 213 = .ok (.if_icmp .ge 7, 3) := by decide +kernel
theorem dX12_record_216 : decode cX12_record 216 = .ok (.iconst 1, 1) := by decide +kernel
theorem dX12_record_217 : decode cX12_record 217 = .ok (.goto 4, 3) := by decide +kernel
theorem dX12_record_220 : decode cX12_record 220 = .ok (.iconst 0, 1) := by decide +kernel
theorem dX12_record_221 : decode cX12_record 221 = .ok (.istore 6, 2) := by decide +kernel
theorem dX12_record_223 : decode cX12_record 223 = .ok (.aload_n 0, 1) := by decide +kernel
theorem dX12_record_224 : decode cX12_record 224 = .ok (.getfield 59, 3) := by decide +kernel
theorem dX12_record_227 : decode cX12_record 227 = .ok (.iconst 5, 1) := by decide +kernel
theorem dX12_record_228 : decode cX12_record 228 = .ok (.iload 4, 2) := by decide +kernel
theorem dX12_record_230 : decode cX12_record 230 = .ok (.imul, 1) := by decide +kernel
theorem dX12_record_231 : decode cX12_record 231 = .ok (.iload 5, 2) := by decide +kernel
theorem dX12_record_233 : decode cX12_record 233 = .ok (.iadd, 1) := by decide +kernel
theorem dX12_record_234 : decode cX12_record 234 = .ok (.iload 6, 2) := by decide +kernel
theorem dX12_record_236 : decode cX12_record 236 = .ok (.ifCond .eq 15, 3) := by decide +kernel
theorem dX12_record_239 : decode cX12_record 239 = .ok (.aload_n 0, 1) := by decide +kernel
theorem dX12_record_240 : decode cX12_record 240 = .ok (.getfield 82, 3) := by decide +kernel
theorem dX12_record_243 : decode cX12_record 243 = .ok (.iload_n 2, 1) := by decide +kernel
theorem dX12_record_244 : decode cX12_record 244 = .ok (.iload 5, 2) := by decide +kernel
theorem dX12_record_246 : decode cX12_record 246 = .ok (.iadd, 1) := by decide +kernel
theorem dX12_record_247 : decode cX12_record 247 = .ok (.laload, 1) := by decide +kernel
theorem dX12_record_248 : decode cX12_record 248 = .ok (.goto 4, 3) := by decide +kernel
theorem dX12_record_251 : decode cX12_record 251 = .ok (.lconst 0, 1) := by decide +kernel
theorem dX12_record_252 : decode cX12_record 252 = .ok (.lastore, 1) := by decide +kernel
theorem dX12_record_253 : decode cX12_record 253 = .ok (.aload_n 0, 1) := by decide +kernel
theorem dX12_record_254 : decode cX12_record 254 = .ok (.getfield 63, 3) := by decide +kernel
theorem dX12_record_257 : decode cX12_record 257 = .ok (.iconst 5, 1) := by decide +kernel
theorem dX12_record_258 : decode cX12_record 258 = .ok (.iload 4, 2) := by decide +kernel
theorem dX12_record_260 : decode cX12_record 260 = .ok (.imul, 1) := by decide +kernel
theorem dX12_record_261 : decode cX12_record 261 = .ok (.iload 5, 2) := by decide +kernel
theorem dX12_record_263 : decode cX12_record 263 = .ok (.iadd, 1) := by decide +kernel
theorem dX12_record_264 : decode cX12_record 264 = .ok (.iload 6, 2) := by decide +kernel
theorem dX12_record_266 : decode cX12_record 266 = .ok (.ifCond .eq 7, 3) := by decide +kernel
theorem dX12_record_269 : decode cX12_record 269 = .ok (.iconst (-1), 1) := by decide +kernel
theorem dX12_record_270 : decode cX12_record 270 = .ok (.goto 12, 3) := by decide +kernel
theorem dX12_record_273 : decode cX12_record 273 = .ok (.aload_n 0, 1) := by decide +kernel
theorem dX12_record_274 : decode cX12_record 274 = .ok (.getfield 85, 3) := by decide +kernel
theorem dX12_record_277 : decode cX12_record 277 = .ok (.iload_n 2, 1) := by decide +kernel
theorem dX12_record_278 : decode cX12_record 278 = .ok (.iload 5, 2) := by decide +kernel
theorem dX12_record_280 : decode cX12_record 280 = .ok (.iadd, 1) := by decide +kernel
theorem dX12_record_281 : decode cX12_record 281 = .ok (.iaload, 1) := by decide +kernel
theorem dX12_record_282 : decode cX12_record 282 = .ok (.iastore, 1) := by decide +kernel
theorem dX12_record_283 : decode cX12_record 283 = .ok (.iinc 5 1, 3) := by decide +kernel
theorem dX12_record_286 : decode cX12_record 286 = .ok (.goto (-96), 3) := by decide +kernel
theorem dX12_record_289 : decode cX12_record 289 = .ok (.aload_n 0, 1) := by decide +kernel
theorem dX12_record_290 : decode cX12_record 290 = .ok (.dup, 1) := by decide +kernel
theorem dX12_record_291 : decode cX12_record 291 = .ok (.getfield 177, 3) := by decide +kernel
theorem dX12_record_294 : decode cX12_record 294 = .ok (.iconst 1, 1) := by decide +kernel
theorem dX12_record_295 : decode cX12_record 295 = .ok (.iadd, 1) := by decide +kernel
theorem dX12_record_296 : decode cX12_record 296 = .ok (.putfield 177, 3) := by decide +kernel
theorem dX12_record_299 : decode cX12_record 299 = .ok (.aload_n 0, 1) := by decide +kernel
theorem dX12_record_300 : decode cX12_record 300 = .ok (.dup, 1) := by decide +kernel
theorem dX12_record_301 : decode cX12_record 301 = .ok (.getfield 180, 3) := by decide +kernel
theorem dX12_record_304 : decode cX12_record 304 = .ok (.iconst 1, 1) := by decide +kernel
theorem dX12_record_305 : decode cX12_record 305 = .ok (.iadd, 1) := by decide +kernel
theorem dX12_record_306 : decode cX12_record 306 = .ok (.putfield 180, 3) := by decide +kernel
theorem dX12_record_309 : decode cX12_record 309 = .ok (.ldc 147, 2) := by decide +kernel
theorem dX12_record_311 : decode cX12_record 311 = .ok (.iload 4, 2) := by decide +kernel
theorem dX12_record_313 : decode cX12_record 313 = .ok (.iadd, 1) := by decide +kernel
theorem dX12_record_314 : decode cX12_record 314 = .ok (.ireturn, 1) := by decide +kernel
theorem dX12_make_0 : decode cX12_make 0 = .ok (.iload_n 1, 1) := by decide +kernel
theorem dX12_make_1 : decode cX12_make 1 = .ok (.i2l, 1) := by decide +kernel
theorem dX12_make_2 : decode cX12_make 2 = .ok (.invokestatic 133, 3) := by decide +kernel
theorem dX12_make_5 : decode cX12_make 5 = .ok (.ifCond .eq 17, 3) := by decide +kernel
theorem dX12_make_8 : decode cX12_make 8 = .ok (.iload_n 2, 1) := by decide +kernel
theorem dX12_make_9 : decode cX12_make 9 = .ok (.invokestatic 125, 3) := by decide +kernel
theorem dX12_make_12 : decode cX12_make 12 = .ok (.ifCond .eq 10, 3) := by decide +kernel
theorem dX12_make_15 : decode cX12_make 15 = .ok (.iload_n 3, 1) := by decide +kernel
theorem dX12_make_16 : decode cX12_make 16 = .ok (.invokestatic 148, 3) := by decide +kernel
theorem dX12_make_19 : decode cX12_make 19 = .ok (.ifCond .ne 5, 3) := by decide +kernel
theorem dX12_make_22 : decode cX12_make 22 = .ok (.iconst (-1), 1) := by decide +kernel
theorem dX12_make_23 : decode cX12_make 23 = .ok (.ireturn, 1) := by decide +kernel
theorem dX12_make_24 : decode cX12_make 24 = .ok (.iconst 0, 1) := by decide +kernel
theorem dX12_make_25 : decode cX12_make 25 = .ok (.istore 4, 2) := by decide +kernel
theorem dX12_make_27 : decode cX12_make 27 = .ok (.iload 4, 2) := by decide +kernel
theorem dX12_make_29 : decode cX12_make 29 = .ok (.iconst 5, 1) := by decide +kernel
theorem dX12_make_30 : decode cX12_make 30 = .ok (.if_icmp .ge 42, 3) := by decide +kernel
theorem dX12_make_33 : decode cX12_make 33 = .ok (.aload_n 0, 1) := by decide +kernel
theorem dX12_make_34 : decode cX12_make 34 = .ok (.getfield 82, 3) := by decide +kernel
theorem dX12_make_37 : decode cX12_make 37 = .ok (.iload 4, 2) := by decide +kernel
theorem dX12_make_39 : decode cX12_make 39 = .ok (.aload_n 0, 1) := by decide +kernel
theorem dX12_make_40 : decode cX12_make 40 = .ok (.getfield 69, 3) := by decide +kernel
theorem dX12_make_43 : decode cX12_make 43 = .ok (.iload 4, 2) := by decide +kernel
theorem dX12_make_45 : decode cX12_make 45 = .ok (.laload, 1) := by decide +kernel
theorem dX12_make_46 : decode cX12_make 46 = .ok (.lastore, 1) := by decide +kernel
theorem dX12_make_47 : decode cX12_make 47 = .ok (.aload_n 0, 1) := by decide +kernel
theorem dX12_make_48 : decode cX12_make 48 = .ok (.getfield 85, 3) := by decide +kernel
theorem dX12_make_51 : decode cX12_make 51 = .ok (.iload 4, 2) := by decide +kernel
theorem dX12_make_53 : decode cX12_make 53 = .ok (.aload_n 0, 1) := by decide +kernel
theorem dX12_make_54 : decode cX12_make 54 = .ok (.getfield 66, 3) := by decide +kernel
theorem dX12_make_57 : decode cX12_make 57 = .ok (.aload_n 0, 1) := by decide +kernel
theorem dX12_make_58 : decode cX12_make 58 = .ok (.getfield 72, 3) := by decide +kernel
theorem dX12_make_61 : decode cX12_make 61 = .ok (.iload 4, 2) := by decide +kernel
theorem dX12_make_63 : decode cX12_make 63 = .ok (.iaload, 1) := by decide +kernel
theorem dX12_make_64 : decode cX12_make 64 = .ok (.iaload, 1) := by decide +kernel
theorem dX12_make_65 : decode cX12_make 65 = .ok (.iastore, 1) := by decide +kernel
theorem dX12_make_66 : decode cX12_make 66 = .ok (.iinc 4 1, 3) := by decide +kernel
theorem dX12_make_69 : decode cX12_make 69 = .ok (.goto (-42), 3) := by decide +kernel
theorem dX12_make_72 : decode cX12_make 72 = .ok (.aload_n 0, 1) := by decide +kernel
theorem dX12_make_73 : decode cX12_make 73 = .ok (.iconst 3, 1) := by decide +kernel
theorem dX12_make_74 : decode cX12_make 74 = .ok (.iload_n 1, 1) := by decide +kernel
theorem dX12_make_75 : decode cX12_make 75 = .ok (.iconst 2, 1) := by decide +kernel
theorem dX12_make_76 : decode cX12_make 76 = .ok (.isub, 1) := by decide +kernel
theorem dX12_make_77 : decode cX12_make 77 = .ok (.imul, 1) := by decide +kernel
theorem dX12_make_78 : decode cX12_make 78 = .ok (.iload_n 2, 1) := by decide +kernel
theorem dX12_make_79 : decode cX12_make 79 = .ok (.iadd, 1) := by decide +kernel
theorem dX12_make_80 : decode cX12_make 80 = .ok (.iconst 0, 1) := by decide +kernel
theorem dX12_make_81 : decode cX12_make 81 = .ok (.invokevirtual 183, 3) := by decide +kernel
theorem dX12_make_84 : decode cX12_make 84 = .ok (.istore 4, 2) := by decide +kernel
theorem dX12_make_86 : decode cX12_make 86 = .ok (.aload_n 0, 1) := by decide +kernel
theorem dX12_make_87 : decode cX12_make 87 = .ok (.iload 4, 2) := by decide +kernel
theorem dX12_make_89 : decode cX12_make 89 = .ok (.ifCond .ge 11, 3) := by decide +kernel
theorem dX12_make_92 : decode cX12_make 92 = .ok (.bipush (-10), 2) := by decide +kernel
theorem dX12_make_94 : decode cX12_make 94 = .ok (.iload 4, 2) := by decide +kernel
theorem dX12_make_96 : decode cX12_make 96 = .ok (.isub, 1) := by decide +kernel
theorem dX12_make_97 : decode cX12_make 97 = .ok (.goto 4, 3) := by decide +kernel
theorem dX12_make_100 : decode cX12_make 100 = .ok (.iconst 0, 1) := by decide +kernel
theorem dX12_make_101 : decode cX12_make 101 = .ok (.putfield 187, 3) := by decide +kernel
theorem dX12_make_104 : decode cX12_make 104 = .ok (.aload_n 0, 1) := by decide +kernel
theorem dX12_make_105 : decode cX12_make 105 = .ok (.bipush (-3), 2) := by decide +kernel
theorem dX12_make_107 : decode cX12_make 107 = .ok (.putfield 78, 3) := by decide +kernel
theorem dX12_make_110 : decode cX12_make 110 = .ok (.aload_n 0, 1) := by decide +kernel
theorem dX12_make_111 : decode cX12_make 111 = .ok (.iconst 0, 1) := by decide +kernel
theorem dX12_make_112 : decode cX12_make 112 = .ok (.putfield 190, 3) := by decide +kernel
theorem dX12_make_115 : decode cX12_make 115 = .ok (.aload_n 0, 1) := by decide +kernel
theorem dX12_make_116 : decode cX12_make 116 = .ok (.getfield 66, 3) := by decide +kernel
theorem dX12_make_119 : decode cX12_make 119 = .ok (.iload_n 3, 1) := by decide +kernel
theorem dX12_make_120 : decode cX12_make 120 = .ok (.iload 4, 2) := by decide +kernel
theorem dX12_make_122 : decode cX12_make 122 = .ok (.ifCond .ge 12, 3) := by decide +kernel
theorem dX12_make_125 : decode cX12_make 125 = .ok (.aload_n 0, 1) := by decide +kernel
theorem dX12_make_126 : decode cX12_make 126 = .ok (.getfield 66, 3) := by decide +kernel
theorem dX12_make_129 : decode cX12_make 129 = .ok (.iload_n 3, 1) := by decide +kernel
theorem dX12_make_130 : decode cX12_make 130 = .ok (.iaload, 1) := by decide +kernel
theorem dX12_make_131 : decode cX12_make 131 = .ok (.goto 5, 3) := by decide +kernel
theorem dX12_make_134 : decode cX12_make 134 = .ok (.iload 4, 2) := by decide +kernel
theorem dX12_make_136 : decode cX12_make 136 = .ok (.iastore, 1) := by decide +kernel
theorem dX12_make_137 : decode cX12_make 137 = .ok (.aload_n 0, 1) := by decide +kernel
theorem dX12_make_138 : decode cX12_make 138 = .ok (.getfield 187, 3) := by decide +kernel
theorem dX12_make_141 : decode cX12_make 141 = .ok (.ireturn, 1) := by decide +kernel
theorem dX12_about_0 : decode cX12_about 0 = .ok (.iload_n 1, 1) := by decide +kernel
theorem dX12_about_1 : decode cX12_about 1 = .ok (.invokestatic 148, 3) := by decide +kernel
theorem dX12_about_4 : decode cX12_about 4 = .ok (.ifCond .eq 15, 3) := by decide +kernel
theorem dX12_about_7 : decode cX12_about 7 = .ok (.iload_n 2, 1) := by decide +kernel
theorem dX12_about_8 : decode cX12_about 8 = .ok (.i2l, 1) := by decide +kernel
theorem dX12_about_9 : decode cX12_about 9 = .ok (.lconst 0, 1) := by decide +kernel
theorem dX12_about_10 : decode cX12_about 10 = .ok (.ldc2_w 193, 3) := by decide +kernel
theorem dX12_about_13 : decode cX12_about 13 = .ok (.invokestatic 117, 3) := by decide +kernel
theorem dX12_about_16 : decode cX12_about 16 = .ok (.ifCond .ne 5, 3) := by decide +kernel
theorem dX12_about_19 : decode cX12_about 19 = .ok (.iconst (-1), 1) := by decide +kernel
theorem dX12_about_20 : decode cX12_about 20 = .ok (.ireturn, 1) := by decide +kernel
theorem dX12_about_21 : decode cX12_about 21 = .ok (.aload_n 0, 1) := by decide +kernel
theorem dX12_about_22 : decode cX12_about 22 = .ok (.getfield 66, 3) := by decide +kernel
theorem dX12_about_25 : decode cX12_about 25 = .ok (.iload_n 1, 1) := by decide +kernel
theorem dX12_about_26 : decode cX12_about 26 = .ok (.iaload, 1) := by decide +kernel
theorem dX12_about_27 : decode cX12_about 27 = .ok (.istore_n 3, 1) := by decide +kernel
theorem dX12_about_28 : decode cX12_about 28 = .ok (.aload_n 0, 1) := by decide +kernel
theorem dX12_about_29 : decode cX12_about 29 = .ok (.iload_n 3, 1) := by decide +kernel
theorem dX12_about_30 : decode cX12_about 30 = .ok (.invokevirtual 160, 3) := by decide +kernel
theorem dX12_about_33 : decode cX12_about 33 = .ok (.istore 4, 2) := by decide +kernel
theorem dX12_about_35 : decode cX12_about 35 = .ok (.iload 4, 2) := by decide +kernel
theorem dX12_about_37 : decode cX12_about 37 = .ok (.iconst 1, 1) := by decide +kernel
theorem dX12_about_38 : decode cX12_about 38 = .ok (.if_icmp .eq 9, 3) := by decide +kernel
theorem dX12_about_41 : decode cX12_about 41 = .ok (.iload 4, 2) := by decide +kernel
theorem dX12_about_43 : decode cX12_about 43 = .ok (.iconst 2, 1) := by decide +kernel
theorem dX12_about_44 : decode cX12_about 44 = .ok (.if_icmp .ne 7, 3) := by decide +kernel
theorem dX12_about_47 : decode cX12_about 47 = .ok (.iconst 1, 1) := by decide +kernel
theorem dX12_about_48 : decode cX12_about 48 = .ok (.goto 4, 3) := by decide +kernel
theorem dX12_about_51 : decode cX12_about 51 = .ok (.iconst 0, 1) := by decide +kernel
theorem dX12_about_52 : decode cX12_about 52 = .ok (.istore 5, 2) := by decide +kernel
theorem dX12_about_54 : decode cX12_about 54 = .ok (.iload_n 2, 1) := by decide +kernel
theorem dX12_about_55 : decode cX12_about 55 = .ok (.ifCond .ne 6, 3) := by decide +kernel
theorem dX12_about_58 : decode cX12_about 58 = .ok (.iload 4, 2) := by decide +kernel
theorem dX12_about_60 : decode cX12_about 60 = .ok (.ireturn, 1) := by decide +kernel
theorem dX12_about_61 : decode cX12_about 61 = .ok (.iload_n 2, 1) := by decide +kernel
theorem dX12_about_62 : decode cX12_about 62 = .ok (.iconst 3, 1) := by decide +kernel
theorem dX12_about_63 : decode cX12_about 63 = .ok (.if_icmp .ne 52, 3) := by decide +kernel
theorem dX12_about_66 : decode cX12_about 66 = .ok (.iload 4, 2) := by decide +kernel
theorem dX12_about_68 : decode cX12_about 68 = .ok (.ifCond .ne 7, 3) := by decide +kernel
theorem dX12_about_71 : decode cX12_about 71 = .ok (.iconst 0, 1) := by decide +kernel
theorem dX12_about_72 : decode cX12_about 72 = .ok (.goto 42, 3) := by decide +kernel
theorem dX12_about_75 : decode cX12_about 75 = .ok (.iload 5, 2) := by decide +kernel
theorem dX12_about_77 : decode cX12_about 77 = .ok (.ifCond .eq 10, 3) := by decide +kernel
theorem dX12_about_80 : decode cX12_about 80 = .ok (.iload_n 3, 1) := by decide +kernel
theorem dX12_about_81 : decode cX12_about 81 = .ok (.bipush 10, 2) := by decide +kernel
theorem dX12_about_83 : decode cX12_about 83 = .ok (.irem, 1) := by decide +kernel
theorem dX12_about_84 : decode cX12_about 84 = .ok (.goto 30, 3) := by decide +kernel
theorem dX12_about_87 : decode cX12_about 87 = .ok (.iload 4, 2) := by decide +kernel
theorem dX12_about_89 : decode cX12_about 89 = .ok (.iconst 3, 1) := by decide +kernel
theorem dX12_about_90 : decode cX12_about 90 = .ok (.if_icmp .ne 15, 3) := by decide +kernel
theorem dX12_about_93 : decode cX12_about 93 = .ok (.aload_n 0, 1) := by decide +kernel
theorem dX12_about_94 : decode cX12_about 94 = .ok (.getfield 45, 3) := by decide +kernel
theorem dX12_about_97 : decode cX12_about 97 = .ok (.iload_n 3, 1) := by decide +kernel
theorem dX12_about_98 : decode cX12_about 98 = .ok (.bipush 100, 2) := by decide +kernel
theorem dX12_about_100 : decode cX12_about 100 = .ok (.isub, 1) := by decide +kernel
theorem dX12_about_101 : decode cX12_about 101 = .ok (.iaload, 1) := by decide +kernel
theorem dX12_about_102 : decode cX12_about 102 = .ok (.goto 12, 3) := by decide +kernel
theorem dX12_about_105 : decode cX12_about 105 = .ok (.aload_n 0, 1) := by decide +kernel
theorem dX12_about_106 : decode cX12_about 106 = .ok (.getfield 55, 3) := by decide +kernel
theorem dX12_about_109 : decode cX12_about 109 = .ok (.iload_n 3, 1) := by decide +kernel
theorem dX12_about_110 : decode cX12_about 110 = .ok (.ldc 147, 2) := by decide +kernel
theorem dX12_about_112 : decode cX12_about 112 = .ok (.isub, 1) := by decide +kernel
theorem dX12_about_113 : decode cX12_about 113 = .ok (.iaload, 1) := by decide +kernel
theorem dX12_about_114 : decode cX12_about 114 = .ok (.ireturn, 1) := by decide +kernel
theorem dX12_about_115 : decode cX12_about 115 = .ok (.iload 4, 2) := by decide +kernel
theorem dX12_about_117 : decode cX12_about 117 = .ok (.ifCond .eq 9, 3) := by decide +kernel
theorem dX12_about_120 : decode cX12_about 120 = .ok (.iload 4, 2) := by decide +kernel
theorem dX12_about_122 : decode cX12_about 122 = .ok (.iconst 3, 1) := by decide +kernel
theorem dX12_about_123 : decode cX12_about 123 = .ok (.if_icmp .ne 6, 3) := by decide +kernel
theorem dX12_about_126 : decode cX12_about 126 = .ok (.bipush (-3), 2) := by decide +kernel
theorem dX12_about_128 : decode cX12_about 128 = .ok (.ireturn, 1) := by decide +kernel
theorem dX12_about_129 : decode cX12_about 129 = .ok (.iload 5, 2) := by decide +kernel
theorem dX12_about_131 : decode cX12_about 131 = .ok (.ifCond .eq 10, 3) := by decide +kernel
theorem dX12_about_134 : decode cX12_about 134 = .ok (.iload_n 3, 1) := by decide +kernel
theorem dX12_about_135 : decode cX12_about 135 = .ok (.bipush 10, 2) := by decide +kernel
theorem dX12_about_137 : decode cX12_about 137 = .ok (.idiv, 1) := by decide +kernel
theorem dX12_about_138 : decode cX12_about 138 = .ok (.goto 12, 3) := by decide +kernel
theorem dX12_about_141 : decode cX12_about 141 = .ok (.aload_n 0, 1) := by decide +kernel
theorem dX12_about_142 : decode cX12_about 142 = .ok (.getfield 52, 3) := by decide +kernel
theorem dX12_about_145 : decode cX12_about 145 = .ok (.iload_n 3, 1) := by decide +kernel
theorem dX12_about_146 : decode cX12_about 146 = .ok (.ldc 147, 2) := by decide +kernel
theorem dX12_about_148 : decode cX12_about 148 = .ok (.isub, 1) := by decide +kernel
theorem dX12_about_149 : decode cX12_about 149 = .ok (.iaload, 1) := by decide +kernel
theorem dX12_about_150 : decode cX12_about 150 = .ok (.istore 6, 2) := by decide +kernel
theorem dX12_about_152 : decode cX12_about 152 = .ok (.iload_n 2, 1) := by decide +kernel
theorem dX12_about_153 : decode cX12_about 153 = .ok (.iconst 2, 1) := by decide +kernel
theorem dX12_about_154 : decode cX12_about 154 = .ok (.if_icmp .ne 10, 3) := by decide +kernel
theorem dX12_about_157 : decode cX12_about 157 = .ok (.iload 6, 2) := by decide +kernel
theorem dX12_about_159 : decode cX12_about 159 = .ok (.iconst 3, 1) := by decide +kernel
theorem dX12_about_160 : decode cX12_about 160 = .ok (.irem, 1) := by decide +kernel
theorem dX12_about_161 : decode cX12_about 161 = .ok (.goto 21, 3) := by decide +kernel
theorem dX12_about_164 : decode cX12_about 164 = .ok (.iload 5, 2) := by decide +kernel
theorem dX12_about_166 : decode cX12_about 166 = .ok (.ifCond .eq 10, 3) := by decide +kernel
theorem dX12_about_169 : decode cX12_about 169 = .ok (.iload 6, 2) := by decide +kernel
theorem dX12_about_171 : decode cX12_about 171 = .ok (.iconst 3, 1) := by decide +kernel
theorem dX12_about_172 : decode cX12_about 172 = .ok (.idiv, 1) := by decide +kernel
theorem dX12_about_173 : decode cX12_about 173 = .ok (.goto 9, 3) := by decide +kernel
theorem dX12_about_176 : decode cX12_about 176 = .ok (.iconst 2, 1) := by decide +kernel
theorem dX12_about_177 : decode cX12_about 177 = .ok (.iload 6, 2) := by decide +kernel
theorem dX12_about_179 : decode cX12_about 179 = .ok (.iconst 3, 1) := by decide +kernel
theorem dX12_about_180 : decode cX12_about 180 = .ok (.idiv, 1) := by decide +kernel
theorem dX12_about_181 : decode cX12_about 181 = .ok (.iadd, 1) := by decide +kernel
theorem dX12_about_182 : decode cX12_about 182 = .ok (.ireturn, 1) := by decide +kernel
theorem dX12_partAt_0 : decode cX12_partAt 0 = .ok (.iload_n 1, 1) := by decide +kernel
theorem dX12_partAt_1 : decode cX12_partAt 1 = .ok (.invokestatic 148, 3) := by decide +kernel
theorem dX12_partAt_4 : decode cX12_partAt 4 = .ok (.ifCond .eq 17, 3) := by decide +kernel
theorem dX12_partAt_7 : decode cX12_partAt 7 = .ok (.aload_n 0, 1) := by decide +kernel
theorem dX12_partAt_8 : decode cX12_partAt 8 = .ok (.aload_n 0, 1) := by decide +kernel
theorem dX12_partAt_9 : decode cX12_partAt 9 = .ok (.getfield 66, 3) := by decide +kernel
end
section
theorem dX12_partAt_12 : decode cX12_partAt 12 = .ok (.iload_n 1, 1) := by decide +kernel
theorem dX12_partAt_13 : decode cX12_partAt 13 = .ok (.iaload, 1) := by decide +kernel
theorem dX12_partAt_14 : decode cX12_partAt 14 = .ok (.invokevirtual 160, 3) := by decide +kernel
theorem dX12_partAt_17 : decode cX12_partAt 17 = .ok (.iconst 4, 1) := by decide +kernel
theorem dX12_partAt_18 : decode cX12_partAt 18 = .ok (.if_icmp .eq 5, 3) := by decide +kernel
theorem dX12_partAt_21 : decode cX12_partAt 21 = .ok (.iconst (-1), 1) := by decide +kernel
theorem dX12_partAt_22 : decode cX12_partAt 22 = .ok (.ireturn, 1) := by decide +kernel
theorem dX12_partAt_23 : decode cX12_partAt 23 = .ok (.aload_n 0, 1) := by decide +kernel
theorem dX12_partAt_24 : decode cX12_partAt 24 = .ok (.getfield 66, 3) := by decide +kernel
theorem dX12_partAt_27 : decode cX12_partAt 27 = .ok (.iload_n 1, 1) := by decide +kernel
theorem dX12_partAt_28 : decode cX12_partAt 28 = .ok (.iaload, 1) := by decide +kernel
theorem dX12_partAt_29 : decode cX12_partAt 29 = .ok (.ldc 147, 2) := by decide +kernel
theorem dX12_partAt_31 : decode cX12_partAt 31 = .ok (.isub, 1) := by decide +kernel
theorem dX12_partAt_32 : decode cX12_partAt 32 = .ok (.istore_n 3, 1) := by decide +kernel
theorem dX12_partAt_33 : decode cX12_partAt 33 = .ok (.iload_n 2, 1) := by decide +kernel
theorem dX12_partAt_34 : decode cX12_partAt 34 = .ok (.i2l, 1) := by decide +kernel
theorem dX12_partAt_35 : decode cX12_partAt 35 = .ok (.lconst 0, 1) := by decide +kernel
theorem dX12_partAt_36 : decode cX12_partAt 36 = .ok (.aload_n 0, 1) := by decide +kernel
theorem dX12_partAt_37 : decode cX12_partAt 37 = .ok (.getfield 55, 3) := by decide +kernel
theorem dX12_partAt_40 : decode cX12_partAt 40 = .ok (.iload_n 3, 1) := by decide +kernel
theorem dX12_partAt_41 : decode cX12_partAt 41 = .ok (.iaload, 1) := by decide +kernel
theorem dX12_partAt_42 : decode cX12_partAt 42 = .ok (.iconst 1, 1) := by decide +kernel
theorem dX12_partAt_43 : decode cX12_partAt 43 = .ok (.isub, 1) := by decide +kernel
theorem dX12_partAt_44 : decode cX12_partAt 44 = .ok (.i2l, 1) := by decide +kernel
theorem dX12_partAt_45 : decode cX12_partAt 45 = .ok (.invokestatic 117, 3) := by decide +kernel
theorem dX12_partAt_48 : decode cX12_partAt 48 = .ok (.ifCond .eq 11, 3) := by decide +kernel
theorem dX12_partAt_51 : decode cX12_partAt 51 = .ok (.iconst 5, 1) := by decide +kernel
theorem dX12_partAt_52 : decode cX12_partAt 52 = .ok (.iload_n 3, 1) := by decide +kernel
theorem dX12_partAt_53 : decode cX12_partAt 53 = .ok (.imul, 1) := by decide +kernel
theorem dX12_partAt_54 : decode cX12_partAt 54 = .ok (.iload_n 2, 1) := by decide +kernel
theorem dX12_partAt_55 : decode cX12_partAt 55 = .ok (.iadd, 1) := by decide +kernel
theorem dX12_partAt_56 : decode cX12_partAt 56 = .ok (.goto 4, 3) := by decide +kernel
theorem dX12_partAt_59 : decode cX12_partAt 59 = .ok (.iconst (-1), 1) := by decide +kernel
theorem dX12_partAt_60 : decode cX12_partAt 60 = .ok (.ireturn, 1) := by decide +kernel
theorem dX12_isNumber_0 : decode cX12_isNumber 0 = .ok (.aload_n 0, 1) := by decide +kernel
theorem dX12_isNumber_1 : decode cX12_isNumber 1 = .ok (.getfield 26, 3) := by decide +kernel
theorem dX12_isNumber_4 : decode cX12_isNumber 4 = .ok (.iconst 5, 1) := by decide +kernel
theorem dX12_isNumber_5 : decode cX12_isNumber 5 = .ok (.aload_n 0, 1) := by decide +kernel
theorem dX12_isNumber_6 : decode cX12_isNumber 6 = .ok (.getfield 52, 3) := by decide +kernel
theorem dX12_isNumber_9 : decode cX12_isNumber 9 = .ok (.iload_n 1, 1) := by decide +kernel
theorem dX12_isNumber_10 : decode cX12_isNumber 10 = .ok (.iconst 5, 1) := by decide +kernel
theorem dX12_isNumber_11 : decode cX12_isNumber 11 = .ok (.idiv, 1) := by decide +kernel
theorem dX12_isNumber_12 : decode cX12_isNumber 12 = .ok (.iaload, 1) := by decide +kernel
theorem dX12_isNumber_13 : decode cX12_isNumber 13 = .ok (.imul, 1) := by decide +kernel
theorem dX12_isNumber_14 : decode cX12_isNumber 14 = .ok (.iload_n 1, 1) := by decide +kernel
theorem dX12_isNumber_15 : decode cX12_isNumber 15 = .ok (.iconst 5, 1) := by decide +kernel
theorem dX12_isNumber_16 : decode cX12_isNumber 16 = .ok (.irem, 1) := by decide +kernel
theorem dX12_isNumber_17 : decode cX12_isNumber 17 = .ok (.iadd, 1) := by decide +kernel
theorem dX12_isNumber_18 : decode cX12_isNumber 18 = .ok (.iaload, 1) := by decide +kernel
theorem dX12_isNumber_19 : decode cX12_isNumber 19 = .ok (.iconst 2, 1) := by decide +kernel
theorem dX12_isNumber_20 : decode cX12_isNumber 20 = .ok (.if_icmp .ge 7, 3) := by decide +kernel
theorem dX12_isNumber_23 : decode cX12_isNumber 23 = .ok (.iconst 1, 1) := by decide +kernel
theorem dX12_isNumber_24 : decode cX12_isNumber 24 = .ok (.goto 4, 3) := by decide +kernel
theorem dX12_isNumber_27 : decode cX12_isNumber 27 = .ok (.iconst 0, 1) := by decide +kernel
theorem dX12_isNumber_28 : decode cX12_isNumber 28 = .ok (.ireturn, 1) := by decide +kernel
theorem dX12_number_0 : decode cX12_number 0 = .ok (.aload_n 0, 1) := by decide +kernel
theorem dX12_number_1 : decode cX12_number 1 = .ok (.iload_n 1, 1) := by decide +kernel
theorem dX12_number_2 : decode cX12_number 2 = .ok (.iload_n 2, 1) := by decide +kernel
theorem dX12_number_3 : decode cX12_number 3 = .ok (.invokevirtual 195, 3) := by decide +kernel
theorem dX12_number_6 : decode cX12_number 6 = .ok (.istore_n 3, 1) := by decide +kernel
theorem dX12_number_7 : decode cX12_number 7 = .ok (.aload_n 0, 1) := by decide +kernel
theorem dX12_number_8 : decode cX12_number 8 = .ok (.iload_n 3, 1) := by decide +kernel
theorem dX12_number_9 : decode cX12_number 9 = .ok (.ifCond .ge 7, 3) := by decide +kernel
theorem dX12_number_12 : decode cX12_number 12 = .ok (.iconst (-1), 1) := by decide +kernel
theorem dX12_number_13 : decode cX12_number 13 = .ok (.goto 4, 3) := by decide +kernel
theorem dX12_number_16 : decode cX12_number 16 = .ok (.iconst 0, 1) := by decide +kernel
theorem dX12_number_17 : decode cX12_number 17 = .ok (.putfield 198, 3) := by decide +kernel
theorem dX12_number_20 : decode cX12_number 20 = .ok (.iload_n 3, 1) := by decide +kernel
theorem dX12_number_21 : decode cX12_number 21 = .ok (.ifCond .ge 7, 3) := by decide +kernel
theorem dX12_number_24 : decode cX12_number 24 = .ok (.lconst 0, 1) := by decide +kernel
theorem dX12_number_25 : decode cX12_number 25 = .ok (.goto 35, 3) := by decide +kernel
theorem dX12_number_28 : decode cX12_number 28 = .ok (.aload_n 0, 1) := by decide +kernel
theorem dX12_number_29 : decode cX12_number 29 = .ok (.iload_n 3, 1) := by decide +kernel
theorem dX12_number_30 : decode cX12_number 30 = .ok (.invokevirtual 201, 3) := by decide +kernel
theorem dX12_number_33 : decode cX12_number 33 = .ok (.ifCond .eq 12, 3) := by decide +kernel
theorem dX12_number_36 : decode cX12_number 36 = .ok (.aload_n 0, 1) := by decide +kernel
theorem dX12_number_37 : decode cX12_number 37 = .ok (.getfield 59, 3) := by decide +kernel
theorem dX12_number_40 : decode cX12_number 40 = .ok (.iload_n 3, 1) := by decide +kernel
theorem dX12_number_41 : decode cX12_number 41 = .ok (.laload, 1) := by decide +kernel
theorem dX12_number_42 : decode cX12_number 42 = .ok (.goto 18, 3) := by decide +kernel
theorem dX12_number_45 : decode cX12_number 45 = .ok (.aload_n 0, 1) := by decide +kernel
theorem dX12_number_46 : decode cX12_number 46 = .ok (.aload_n 0, 1) := by decide +kernel
theorem dX12_number_47 : decode cX12_number 47 = .ok (.getfield 63, 3) := by decide +kernel
theorem dX12_number_50 : decode cX12_number 50 = .ok (.iload_n 3, 1) := by decide +kernel
theorem dX12_number_51 : decode cX12_number 51 = .ok (.iaload, 1) := by decide +kernel
theorem dX12_number_52 : decode cX12_number 52 = .ok (.invokevirtual 160, 3) := by decide +kernel
theorem dX12_number_55 : decode cX12_number 55 = .ok (.i2l, 1) := by decide +kernel
theorem dX12_number_56 : decode cX12_number 56 = .ok (.ldc2_w 204, 3) := by decide +kernel
theorem dX12_number_59 : decode cX12_number 59 = .ok (.lsub, 1) := by decide +kernel
theorem dX12_number_60 : decode cX12_number 60 = .ok (.lreturn, 1) := by decide +kernel
theorem dX12_take_0 : decode cX12_take 0 = .ok (.aload_n 0, 1) := by decide +kernel
theorem dX12_take_1 : decode cX12_take 1 = .ok (.iload_n 1, 1) := by decide +kernel
theorem dX12_take_2 : decode cX12_take 2 = .ok (.iload_n 2, 1) := by decide +kernel
theorem dX12_take_3 : decode cX12_take 3 = .ok (.invokevirtual 195, 3) := by decide +kernel
theorem dX12_take_6 : decode cX12_take 6 = .ok (.istore 4, 2) := by decide +kernel
theorem dX12_take_8 : decode cX12_take 8 = .ok (.iload 4, 2) := by decide +kernel
theorem dX12_take_10 : decode cX12_take 10 = .ok (.ifCond .lt 19, 3) := by decide +kernel
theorem dX12_take_13 : decode cX12_take 13 = .ok (.iload_n 3, 1) := by decide +kernel
theorem dX12_take_14 : decode cX12_take 14 = .ok (.invokestatic 148, 3) := by decide +kernel
theorem dX12_take_17 : decode cX12_take 17 = .ok (.ifCond .eq 12, 3) := by decide +kernel
theorem dX12_take_20 : decode cX12_take 20 = .ok (.aload_n 0, 1) := by decide +kernel
theorem dX12_take_21 : decode cX12_take 21 = .ok (.iload 4, 2) := by decide +kernel
theorem dX12_take_23 : decode cX12_take 23 = .ok (.invokevirtual 201, 3) := by decide +kernel
theorem dX12_take_26 : decode cX12_take 26 = .ok (.ifCond .eq 5, 3) := by decide +kernel
theorem dX12_take_29 : decode cX12_take 29 = .ok (.iconst (-1), 1) := by decide +kernel
theorem dX12_take_30 : decode cX12_take 30 = .ok (.ireturn, 1) := by decide +kernel
theorem dX12_take_31 : decode cX12_take 31 = .ok (.aload_n 0, 1) := by decide +kernel
theorem dX12_take_32 : decode cX12_take 32 = .ok (.getfield 66, 3) := by decide +kernel
theorem dX12_take_35 : decode cX12_take 35 = .ok (.iload_n 3, 1) := by decide +kernel
theorem dX12_take_36 : decode cX12_take 36 = .ok (.aload_n 0, 1) := by decide +kernel
theorem dX12_take_37 : decode cX12_take 37 = .ok (.getfield 63, 3) := by decide +kernel
theorem dX12_take_40 : decode cX12_take 40 = .ok (.iload 4, 2) := by decide +kernel
theorem dX12_take_42 : decode cX12_take 42 = .ok (.iaload, 1) := by decide +kernel
theorem dX12_take_43 : decode cX12_take 43 = .ok (.iastore, 1) := by decide +kernel
theorem dX12_take_44 : decode cX12_take 44 = .ok (.aload_n 0, 1) := by decide +kernel
theorem dX12_take_45 : decode cX12_take 45 = .ok (.aload_n 0, 1) := by decide +kernel
theorem dX12_take_46 : decode cX12_take 46 = .ok (.getfield 66, 3) := by decide +kernel
theorem dX12_take_49 : decode cX12_take 49 = .ok (.iload_n 3, 1) := by decide +kernel
theorem dX12_take_50 : decode cX12_take 50 = .ok (.iaload, 1) := by decide +kernel
theorem dX12_take_51 : decode cX12_take 51 = .ok (.invokevirtual 160, 3) := by decide +kernel
theorem dX12_take_54 : decode cX12_take 54 = .ok (.ireturn, 1) := by decide +kernel
theorem dX12_pair_0 : decode cX12_pair 0 = .ok (.aload_n 0, 1) := by decide +kernel
theorem dX12_pair_1 : decode cX12_pair 1 = .ok (.getfield 88, 3) := by decide +kernel
theorem dX12_pair_4 : decode cX12_pair 4 = .ok (.aload_n 0, 1) := by decide +kernel
theorem dX12_pair_5 : decode cX12_pair 5 = .ok (.getfield 206, 3) := by decide +kernel
theorem dX12_pair_8 : decode cX12_pair 8 = .ok (.iload_n 1, 1) := by decide +kernel
theorem dX12_pair_9 : decode cX12_pair 9 = .ok (.iastore, 1) := by decide +kernel
theorem dX12_pair_10 : decode cX12_pair 10 = .ok (.aload_n 0, 1) := by decide +kernel
theorem dX12_pair_11 : decode cX12_pair 11 = .ok (.getfield 91, 3) := by decide +kernel
theorem dX12_pair_14 : decode cX12_pair 14 = .ok (.aload_n 0, 1) := by decide +kernel
theorem dX12_pair_15 : decode cX12_pair 15 = .ok (.getfield 206, 3) := by decide +kernel
theorem dX12_pair_18 : decode cX12_pair 18 = .ok (.iload_n 2, 1) := by decide +kernel
theorem dX12_pair_19 : decode cX12_pair 19 = .ok (.iastore, 1) := by decide +kernel
theorem dX12_pair_20 : decode cX12_pair 20 = .ok (.aload_n 0, 1) := by decide +kernel
theorem dX12_pair_21 : decode cX12_pair 21 = .ok (.getfield 94, 3) := by decide +kernel
theorem dX12_pair_24 : decode cX12_pair 24 = .ok (.aload_n 0, 1) := by decide +kernel
theorem dX12_pair_25 : decode cX12_pair 25 = .ok (.getfield 206, 3) := by decide +kernel
theorem dX12_pair_28 : decode cX12_pair 28 = .ok (.iload_n 3, 1) := by decide +kernel
theorem dX12_pair_29 : decode cX12_pair 29 = .ok (.iastore, 1) := by decide +kernel
theorem dX12_pair_30 : decode cX12_pair 30 = .ok (.aload_n 0, 1) := by decide +kernel
theorem dX12_pair_31 : decode cX12_pair 31 = .ok (.dup, 1) := by decide +kernel
theorem dX12_pair_32 : decode cX12_pair 32 = .ok (.getfield 206, 3) := by decide +kernel
theorem dX12_pair_35 : decode cX12_pair 35 = .ok (.iconst 1, 1) := by decide +kernel
theorem dX12_pair_36 : decode cX12_pair 36 = .ok (.iadd, 1) := by decide +kernel
theorem dX12_pair_37 : decode cX12_pair 37 = .ok (.putfield 206, 3) := by decide +kernel
theorem dX12_pair_40 : decode cX12_pair 40 = .ok (.return_, 1) := by decide +kernel
theorem dX12_rowsLike_0 : decode cX12_rowsLike 0 = .ok (.aload_n 0, 1) := by decide +kernel
theorem dX12_rowsLike_1 : decode cX12_rowsLike 1 = .ok (.getfield 45, 3) := by decide +kernel
theorem dX12_rowsLike_4 : decode cX12_rowsLike 4 = .ok (.iload_n 1, 1) := by decide +kernel
theorem dX12_rowsLike_5 : decode cX12_rowsLike 5 = .ok (.iaload, 1) := by decide +kernel
theorem dX12_rowsLike_6 : decode cX12_rowsLike 6 = .ok (.aload_n 0, 1) := by decide +kernel
theorem dX12_rowsLike_7 : decode cX12_rowsLike 7 = .ok (.getfield 45, 3) := by decide +kernel
theorem dX12_rowsLike_10 : decode cX12_rowsLike 10 = .ok (.iload_n 2, 1) := by decide +kernel
theorem dX12_rowsLike_11 : decode cX12_rowsLike 11 = .ok (.iaload, 1) := by decide +kernel
theorem dX12_rowsLike_12 : decode cX12_rowsLike 12 = .ok (.if_icmp .ne 7, 3) := by decide +kernel
theorem dX12_rowsLike_15 : decode cX12_rowsLike 15 = .ok (.iconst 1, 1) := by decide +kernel
theorem dX12_rowsLike_16 : decode cX12_rowsLike 16 = .ok (.goto 4, 3) := by decide +kernel
theorem dX12_rowsLike_19 : decode cX12_rowsLike 19 = .ok (.iconst 0, 1) := by decide +kernel
theorem dX12_rowsLike_20 : decode cX12_rowsLike 20 = .ok (.istore_n 3, 1) := by decide +kernel
theorem dX12_rowsLike_21 : decode cX12_rowsLike 21 = .ok (.iconst 0, 1) := by decide +kernel
theorem dX12_rowsLike_22 : decode cX12_rowsLike 22 = .ok (.istore 4, 2) := by decide +kernel
theorem dX12_rowsLike_24 : decode cX12_rowsLike 24 = .ok (.iload 4, 2) := by decide +kernel
theorem dX12_rowsLike_26 : decode cX12_rowsLike 26 = .ok (.aload_n 0, 1) := by decide +kernel
theorem dX12_rowsLike_27 : decode cX12_rowsLike 27 = .ok (.getfield 45, 3) := by decide +kernel
theorem dX12_rowsLike_30 : decode cX12_rowsLike 30 = .ok (.iload_n 1, 1) := by decide +kernel
theorem dX12_rowsLike_31 : decode cX12_rowsLike 31 = .ok (.iaload, 1) := by decide +kernel
theorem dX12_rowsLike_32 : decode cX12_rowsLike 32 = .ok (.if_icmp .ge 46, 3) := by decide +kernel
theorem dX12_rowsLike_35 : decode cX12_rowsLike 35 = .ok (.iload_n 3, 1) := by decide +kernel
theorem dX12_rowsLike_36 : decode cX12_rowsLike 36 = .ok (.ifCond .eq 42, 3) := by decide +kernel
theorem dX12_rowsLike_39 : decode cX12_rowsLike 39 = .ok (.aload_n 0, 1) := by decide +kernel
theorem dX12_rowsLike_40 : decode cX12_rowsLike 40 = .ok (.getfield 49, 3) := by decide +kernel
theorem dX12_rowsLike_43 : decode cX12_rowsLike 43 = .ok (.bipush 8, 2) := by decide +kernel
theorem dX12_rowsLike_45 : decode cX12_rowsLike 45 = .ok (.iload_n 1, 1) := by decide +kernel
theorem dX12_rowsLike_46 : decode cX12_rowsLike 46 = .ok (.imul, 1) := by decide +kernel
theorem dX12_rowsLike_47 : decode cX12_rowsLike 47 = .ok (.iload 4, 2) := by decide +kernel
theorem dX12_rowsLike_49 : decode cX12_rowsLike 49 = .ok (.iadd, 1) := by decide +kernel
theorem dX12_rowsLike_50 : decode cX12_rowsLike 50 = .ok (.iaload, 1) := by decide +kernel
theorem dX12_rowsLike_51 : decode cX12_rowsLike 51 = .ok (.aload_n 0, 1) := by decide +kernel
theorem dX12_rowsLike_52 : decode cX12_rowsLike 52 = .ok (.getfield 49, 3) := by decide +kernel
theorem dX12_rowsLike_55 : decode cX12_rowsLike 55 = .ok (.bipush 8, 2) := by decide +kernel
theorem dX12_rowsLike_57 : decode cX12_rowsLike 57 = .ok (.iload_n 2, 1) := by decide +kernel
theorem dX12_rowsLike_58 : decode cX12_rowsLike 58 = .ok (.imul, 1) := by decide +kernel
theorem dX12_rowsLike_59 : decode cX12_rowsLike 59 = .ok (.iload 4, 2) := by decide +kernel
theorem dX12_rowsLike_61 : decode cX12_rowsLike 61 = .ok (.iadd, 1) := by decide +kernel
theorem dX12_rowsLike_62 : decode cX12_rowsLike 62 = .ok (.iaload, 1) := by decide +kernel
theorem dX12_rowsLike_63 : decode cX12_rowsLike 63 = .ok (.if_icmp .ne 7, 3) := by decide +kernel
theorem dX12_rowsLike_66 : decode cX12_rowsLike 66 = .ok (.iconst 1, 1) := by decide +kernel
theorem dX12_rowsLike_67 : decode cX12_rowsLike 67 = .ok (.goto 4, 3) := by decide +kernel
theorem dX12_rowsLike_70 : decode cX12_rowsLike 70 = .ok (.iconst 0, 1) := by decide +kernel
theorem dX12_rowsLike_71 : decode cX12_rowsLike 71 = .ok (.istore_n 3, 1) := by decide +kernel
theorem dX12_rowsLike_72 : decode cX12_rowsLike 72 = .ok (.iinc 4 1, 3) := by decide +kernel
theorem dX12_rowsLike_75 : decode cX12_rowsLike 75 = .ok (.goto (-51), 3) := by decide +kernel
theorem dX12_rowsLike_78 : decode cX12_rowsLike 78 = .ok (.iload_n 3, 1) := by decide +kernel
theorem dX12_rowsLike_79 : decode cX12_rowsLike 79 = .ok (.ireturn, 1) := by decide +kernel
theorem dX12_opens_0 : decode cX12_opens 0 = .ok (.iload_n 3, 1) := by decide +kernel
theorem dX12_opens_1 : decode cX12_opens 1 = .ok (.iconst 5, 1) := by decide +kernel
theorem dX12_opens_2 : decode cX12_opens 2 = .ok (.if_icmp .gt 33, 3) := by decide +kernel
theorem dX12_opens_5 : decode cX12_opens 5 = .ok (.aload_n 0, 1) := by decide +kernel
theorem dX12_opens_6 : decode cX12_opens 6 = .ok (.getfield 52, 3) := by decide +kernel
theorem dX12_opens_9 : decode cX12_opens 9 = .ok (.iload_n 1, 1) := by decide +kernel
theorem dX12_opens_10 : decode cX12_opens 10 = .ok (.iaload, 1) := by decide +kernel
theorem dX12_opens_11 : decode cX12_opens 11 = .ok (.aload_n 0, 1) := by decide +kernel
theorem dX12_opens_12 : decode cX12_opens 12 = .ok (.getfield 52, 3) := by decide +kernel
theorem dX12_opens_15 : decode cX12_opens 15 = .ok (.iload_n 2, 1) := by decide +kernel
theorem dX12_opens_16 : decode cX12_opens 16 = .ok (.iaload, 1) := by decide +kernel
theorem dX12_opens_17 : decode cX12_opens 17 = .ok (.if_icmp .ne 18, 3) := by decide +kernel
theorem dX12_opens_20 : decode cX12_opens 20 = .ok (.aload_n 0, 1) := by decide +kernel
theorem dX12_opens_21 : decode cX12_opens 21 = .ok (.getfield 55, 3) := by decide +kernel
theorem dX12_opens_24 : decode cX12_opens 24 = .ok (.iload_n 1, 1) := by decide +kernel
theorem dX12_opens_25 : decode cX12_opens 25 = .ok (.iaload, 1) := by decide +kernel
theorem dX12_opens_26 : decode cX12_opens 26 = .ok (.aload_n 0, 1) := by decide +kernel
theorem dX12_opens_27 : decode cX12_opens 27 = .ok (.getfield 55, 3) := by decide +kernel
theorem dX12_opens_30 : decode cX12_opens 30 = .ok (.iload_n 2, 1) := by decide +kernel
theorem dX12_opens_31 : decode cX12_opens 31 = .ok (.iaload, 1) := by decide +kernel
theorem dX12_opens_32 : decode cX12_opens 32 = .ok (.if_icmp .eq 5, 3) := by decide +kernel
theorem dX12_opens_35 : decode cX12_opens 35 = .ok (.iconst 0, 1) := by decide +kernel
theorem dX12_opens_36 : decode cX12_opens 36 = .ok (.ireturn, 1) := by decide +kernel
theorem dX12_opens_37 : decode cX12_opens 37 = .ok (.iconst 1, 1) := by decide +kernel
theorem dX12_opens_38 : decode cX12_opens 38 = .ok (.istore 4, 2) := by decide +kernel
theorem dX12_opens_40 : decode cX12_opens 40 = .ok (.iconst 0, 1) := by decide +kernel
theorem dX12_opens_41 : decode cX12_opens 41 = .ok (.istore 5, 2) := by decide +kernel
theorem dX12_opens_43 : decode cX12_opens 43 = .ok (.iload 5, 2) := by decide +kernel
theorem dX12_opens_45 : decode cX12_opens 45 = .ok (.aload_n 0, 1) := by decide +kernel
theorem dX12_opens_46 : decode cX12_opens 46 = .ok (.getfield 55, 3) := by decide +kernel
theorem dX12_opens_49 : decode cX12_opens 49 = .ok (.iload_n 1, 1) := by decide +kernel
theorem dX12_opens_50 : decode cX12_opens 50 = .ok (.iaload, 1) := by decide +kernel
theorem dX12_opens_51 : decode cX12_opens 51 = .ok (.if_icmp .ge 90, 3) := by decide +kernel
theorem dX12_opens_54 : decode cX12_opens 54 = .ok (.aload_n 0, 1) := by decide +kernel
theorem dX12_opens_55 : decode cX12_opens 55 = .ok (.iconst 5, 1) := by decide +kernel
theorem dX12_opens_56 : decode cX12_opens 56 = .ok (.iload_n 1, 1) := by decide +kernel
theorem dX12_opens_57 : decode cX12_opens 57 = .ok (.imul, 1) := by decide +kernel
theorem dX12_opens_58 : decode cX12_opens 58 = .ok (.iload 5, 2) := by decide +kernel
theorem dX12_opens_60 : decode cX12_opens 60 = .ok (.iadd, 1) := by decide +kernel
theorem dX12_opens_61 : decode cX12_opens 61 = .ok (.invokevirtual 201, 3) := by decide +kernel
theorem dX12_opens_64 : decode cX12_opens 64 = .ok (.ifCond .eq 42, 3) := by decide +kernel
theorem dX12_opens_67 : decode cX12_opens 67 = .ok (.iload 4, 2) := by decide +kernel
theorem dX12_opens_69 : decode cX12_opens 69 = .ok (.aload_n 0, 1) := by decide +kernel
theorem dX12_opens_70 : decode cX12_opens 70 = .ok (.getfield 59, 3) := by decide +kernel
theorem dX12_opens_73 : decode cX12_opens 73 = .ok (.iconst 5, 1) := by decide +kernel
theorem dX12_opens_74 : decode cX12_opens 74 = .ok (.iload_n 1, 1) := by decide +kernel
theorem dX12_opens_75 : decode cX12_opens 75 = .ok (.imul, 1) := by decide +kernel
theorem dX12_opens_76 : decode cX12_opens 76 = .ok (.iload 5, 2) := by decide +kernel
theorem dX12_opens_78 : decode cX12_opens 78 = .ok (.iadd, 1) := by decide +kernel
theorem dX12_opens_79 : decode cX12_opens 79 = .ok (.laload, 1) := by decide +kernel
theorem dX12_opens_80 : decode cX12_opens 80 = .ok (.aload_n 0, 1) := by decide +kernel
theorem dX12_opens_81 : decode cX12_opens 81 = .ok (.getfield 59, 3) := by decide +kernel
theorem dX12_opens_84 : decode cX12_opens 84 = .ok (.iconst 5, 1) := by decide +kernel
theorem dX12_opens_85 : decode cX12_opens 85 = .ok (.iload_n 2, 1) := by decide +kernel
theorem dX12_opens_86 : decode cX12_opens 86 = .ok (.imul, 1) := by decide +kernel
theorem dX12_opens_87 : decode cX12_opens 87 = .ok (.iload 5, 2) := by decide +kernel
theorem dX12_opens_89 : decode cX12_opens 89 = .ok (.iadd, 1) := by decide +kernel
theorem dX12_opens_90 : decode cX12_opens 90 = .ok (.laload, 1) := by decide +kernel
theorem dX12_opens_91 : decode cX12_opens 91 = .ok (.lcmp, 1) := by decide +kernel
theorem dX12_opens_92 : decode cX12_opens 92 = .ok (.ifCond .ne 7, 3) := by decide +kernel
theorem dX12_opens_95 : decode cX12_opens 95 = .ok (.iconst 1, 1) := by decide +kernel
theorem dX12_opens_96 : decode cX12_opens 96 = .ok (.goto 4, 3) := by decide +kernel
theorem dX12_opens_99 : decode cX12_opens 99 = .ok (.iconst 0, 1) := by decide +kernel
theorem dX12_opens_100 : decode cX12_opens 100 = .ok (.iand, 1) := by decide +kernel
theorem dX12_opens_101 : decode cX12_opens 101 = .ok (.istore 4, 2) := by decide +kernel
theorem dX12_opens_103 : decode cX12_opens 103 = .ok (.goto 32, 3) := by decide +kernel
theorem dX12_opens_106 : decode cX12_opens 106 = .ok (.aload_n 0, 1) := by decide +kernel
theorem dX12_opens_107 : decode cX12_opens 107 = .ok (.aload_n 0, 1) := by decide +kernel
theorem dX12_opens_108 : decode cX12_opens 108 = .ok (.getfield 63, 3) := by decide +kernel
theorem dX12_opens_111 : decode cX12_opens 111 = .ok (.iconst 5, 1) := by decide +kernel
theorem dX12_opens_112 : decode cX12_opens 112 = .ok (.iload_n 1, 1) := by decide +kernel
theorem dX12_opens_113 : decode cX12_opens 113 = .ok (.imul, 1) := by decide +kernel
theorem dX12_opens_114 : decode cX12_opens 114 = .ok (.iload 5, 2) := by decide +kernel
theorem dX12_opens_116 : decode cX12_opens 116 = .ok (.iadd, 1) := by decide +kernel
theorem dX12_opens_117 : decode cX12_opens 117 = .ok (.iaload, 1) := by decide +kernel
theorem dX12_opens_118 : decode cX12_opens 118 = .ok (.aload_n 0, 1) := by decide +kernel
theorem dX12_opens_119 : decode cX12_opens 119 = .ok (.getfield 63, 3) := by decide +kernel
theorem dX12_opens_122 : decode cX12_opens 122 = .ok (.iconst 5, 1) := by decide +kernel
theorem dX12_opens_123 : decode cX12_opens 123 = .ok (.iload_n 2, 1) := by decide +kernel
theorem dX12_opens_124 : decode cX12_opens 124 = .ok (.imul, 1) := by decide +kernel
theorem dX12_opens_125 : decode cX12_opens 125 = .ok (.iload 5, 2) := by decide +kernel
theorem dX12_opens_127 : decode cX12_opens 127 = .ok (.iadd, 1) := by decide +kernel
theorem dX12_opens_128 : decode cX12_opens 128 = .ok (.iaload, 1) := by decide +kernel
theorem dX12_opens_129 : decode cX12_opens 129 = .ok (.iload_n 3, 1) := by decide +kernel
theorem dX12_opens_130 : decode cX12_opens 130 = .ok (.iconst 1, 1) := by decide +kernel
theorem dX12_opens_131 : decode cX12_opens 131 = .ok (.iadd, 1) := by decide +kernel
theorem dX12_opens_132 : decode cX12_opens 132 = .ok (.invokevirtual 209, 3) := by decide +kernel
theorem dX12_opens_135 : decode cX12_opens 135 = .ok (.iinc 5 1, 3) := by decide +kernel
theorem dX12_opens_138 : decode cX12_opens 138 = .ok (.goto (-95), 3) := by decide +kernel
theorem dX12_opens_141 : decode cX12_opens 141 = .ok (.iload 4, 2) := by decide +kernel
theorem dX12_opens_143 : decode cX12_opens 143 = .ok (.ireturn, 1) := by decide +kernel
theorem dX12_like_0 : decode cX12_like 0 = .ok (.iload_n 1, 1) := by decide +kernel
theorem dX12_like_1 : decode cX12_like 1 = .ok (.invokestatic 148, 3) := by decide +kernel
theorem dX12_like_4 : decode cX12_like 4 = .ok (.ifCond .eq 10, 3) := by decide +kernel
theorem dX12_like_7 : decode cX12_like 7 = .ok (.iload_n 2, 1) := by decide +kernel
theorem dX12_like_8 : decode cX12_like 8 = .ok (.invokestatic 148, 3) := by decide +kernel
theorem dX12_like_11 : decode cX12_like 11 = .ok (.ifCond .ne 5, 3) := by decide +kernel
theorem dX12_like_14 : decode cX12_like 14 = .ok (.iconst (-1), 1) := by decide +kernel
theorem dX12_like_15 : decode cX12_like 15 = .ok (.ireturn, 1) := by decide +kernel
theorem dX12_like_16 : decode cX12_like 16 = .ok (.aload_n 0, 1) := by decide +kernel
theorem dX12_like_17 : decode cX12_like 17 = .ok (.iconst 0, 1) := by decide +kernel
theorem dX12_like_18 : decode cX12_like 18 = .ok (.putfield 206, 3) := by decide +kernel
theorem dX12_like_21 : decode cX12_like 21 = .ok (.aload_n 0, 1) := by decide +kernel
theorem dX12_like_22 : decode cX12_like 22 = .ok (.aload_n 0, 1) := by decide +kernel
theorem dX12_like_23 : decode cX12_like 23 = .ok (.getfield 66, 3) := by decide +kernel
theorem dX12_like_26 : decode cX12_like 26 = .ok (.iload_n 1, 1) := by decide +kernel
theorem dX12_like_27 : decode cX12_like 27 = .ok (.iaload, 1) := by decide +kernel
theorem dX12_like_28 : decode cX12_like 28 = .ok (.aload_n 0, 1) := by decide +kernel
theorem dX12_like_29 : decode cX12_like 29 = .ok (.getfield 66, 3) := by decide +kernel
theorem dX12_like_32 : decode cX12_like 32 = .ok (.iload_n 2, 1) := by decide +kernel
theorem dX12_like_33 : decode cX12_like 33 = .ok (.iaload, 1) := by decide +kernel
theorem dX12_like_34 : decode cX12_like 34 = .ok (.iconst 0, 1) := by decide +kernel
theorem dX12_like_35 : decode cX12_like 35 = .ok (.invokevirtual 209, 3) := by decide +kernel
theorem dX12_like_38 : decode cX12_like 38 = .ok (.iconst 1, 1) := by decide +kernel
theorem dX12_like_39 : decode cX12_like 39 = .ok (.istore_n 3, 1) := by decide +kernel
theorem dX12_like_40 : decode cX12_like 40 = .ok (.aload_n 0, 1) := by decide +kernel
theorem dX12_like_41 : decode cX12_like 41 = .ok (.getfield 206, 3) := by decide +kernel
theorem dX12_like_44 : decode cX12_like 44 = .ok (.ifCond .le 142, 3) := by decide +kernel
theorem dX12_like_47 : decode cX12_like 47 = .ok (.iload_n 3, 1) := by decide +kernel
theorem dX12_like_48 : decode cX12_like 48 = .ok (.ifCond .eq 138, 3) := by decide +kernel
theorem dX12_like_51 : decode cX12_like 51 = .ok (.aload_n 0, 1) := by decide +kernel
theorem dX12_like_52 : decode cX12_like 52 = .ok (.dup, 1) := by decide +kernel
theorem dX12_like_53 : decode cX12_like 53 = .ok (.getfield 206, 3) := by decide +kernel
theorem dX12_like_56 : decode cX12_like 56 = .ok (.iconst 1, 1) := by decide +kernel
theorem dX12_like_57 : decode cX12_like 57 = .ok (.isub, 1) := by decide +kernel
theorem dX12_like_58 : decode cX12_like 58 = .ok (.putfield 206, 3) := by decide +kernel
theorem dX12_like_61 : decode cX12_like 61 = .ok (.aload_n 0, 1) := by decide +kernel
theorem dX12_like_62 : decode cX12_like 62 = .ok (.getfield 88, 3) := by decide +kernel
theorem dX12_like_65 : decode cX12_like 65 = .ok (.aload_n 0, 1) := by decide +kernel
theorem dX12_like_66 : decode cX12_like 66 = .ok (.getfield 206, 3) := by decide +kernel
theorem dX12_like_69 : decode cX12_like 69 = .ok (.iaload, 1) := by decide +kernel
theorem dX12_like_70 : decode cX12_like 70 = .ok (.istore 4, 2) := by decide +kernel
theorem dX12_like_72 : decode cX12_like 72 = .ok (.aload_n 0, 1) := by decide +kernel
theorem dX12_like_73 : decode cX12_like 73 = .ok (.getfield 91, 3) := by decide +kernel
theorem dX12_like_76 : decode cX12_like 76 = .ok (.aload_n 0, 1) := by decide +kernel
theorem dX12_like_77 : decode cX12_like 77 = .ok (.getfield 206, 3) := by decide +kernel
theorem dX12_like_80 : decode cX12_like 80 = .ok (.iaload, 1) := by decide +kernel
theorem dX12_like_81 : decode cX12_like 81 = .ok (.istore 5, 2) := by decide +kernel
theorem dX12_like_83 : decode cX12_like 83 = .ok (.iload 4, 2) := by decide +kernel
theorem dX12_like_85 : decode cX12_like 85 = .ok (.iload 5, 2) := by decide +kernel
theorem dX12_like_87 : decode cX12_like 87 = .ok (.if_icmp .eq 96, 3) := by decide +kernel
theorem dX12_like_90 : decode cX12_like 90 = .ok (.aload_n 0, 1) := by decide +kernel
theorem dX12_like_91 : decode cX12_like 91 = .ok (.iload 4, 2) := by decide +kernel
theorem dX12_like_93 : decode cX12_like 93 = .ok (.invokevirtual 160, 3) := by decide +kernel
theorem dX12_like_96 : decode cX12_like 96 = .ok (.istore 6, 2) := by decide +kernel
theorem dX12_like_98 : decode cX12_like 98 = .ok (.iload 6, 2) := by decide +kernel
theorem dX12_like_100 : decode cX12_like 100 = .ok (.aload_n 0, 1) := by decide +kernel
theorem dX12_like_101 : decode cX12_like 101 = .ok (.iload 5, 2) := by decide +kernel
theorem dX12_like_103 : decode cX12_like 103 = .ok (.invokevirtual 160, 3) := by decide +kernel
theorem dX12_like_106 : decode cX12_like 106 = .ok (.if_icmp .ne 13, 3) := by decide +kernel
theorem dX12_like_109 : decode cX12_like 109 = .ok (.iload 6, 2) := by decide +kernel
theorem dX12_like_111 : decode cX12_like 111 = .ok (.iconst 2, 1) := by decide +kernel
theorem dX12_like_112 : decode cX12_like 112 = .ok (.if_icmp .le 7, 3) := by decide +kernel
theorem dX12_like_115 : decode cX12_like 115 = .ok (.iconst 1, 1) := by decide +kernel
theorem dX12_like_116 : decode cX12_like 116 = .ok (.goto 4, 3) := by decide +kernel
theorem dX12_like_119 : decode cX12_like 119 = .ok (.iconst 0, 1) := by decide +kernel
theorem dX12_like_120 : decode cX12_like 120 = .ok (.istore_n 3, 1) := by decide +kernel
theorem dX12_like_121 : decode cX12_like 121 = .ok (.iload_n 3, 1) := by decide +kernel
theorem dX12_like_122 : decode cX12_like 122 = .ok (.ifCond .eq 59, 3) := by decide +kernel
theorem dX12_like_125 : decode cX12_like 125 = .ok (.iload 6, 2) := by decide +kernel
theorem dX12_like_127 : decode cX12_like 127 = .ok (.iconst 3, 1) := by decide +kernel
theorem dX12_like_128 : decode cX12_like 128 = .ok (.if_icmp .ne 23, 3) := by decide +kernel
theorem dX12_like_131 : decode cX12_like 131 = .ok (.aload_n 0, 1) := by decide +kernel
theorem dX12_like_132 : decode cX12_like 132 = .ok (.iload 4, 2) := by decide +kernel
theorem dX12_like_134 : decode cX12_like 134 = .ok (.bipush 100, 2) := by decide +kernel
theorem dX12_like_136 : decode cX12_like 136 = .ok (.isub, 1) := by decide +kernel
theorem dX12_like_137 : decode cX12_like 137 = .ok (.iload 5, 2) := by decide +kernel
theorem dX12_like_139 : decode cX12_like 139 = .ok (.bipush 100, 2) := by decide +kernel
theorem dX12_like_141 : decode cX12_like 141 = .ok (.isub, 1) := by decide +kernel
theorem dX12_like_142 : decode cX12_like 142 = .ok (.invokevirtual 213, 3) := by decide +kernel
theorem dX12_like_145 : decode cX12_like 145 = .ok (.ifCond .eq 36, 3) := by decide +kernel
theorem dX12_like_148 : decode cX12_like 148 = .ok (.goto 29, 3) := by decide +kernel
theorem dX12_like_151 : decode cX12_like 151 = .ok (.aload_n 0, 1) := by decide +kernel
theorem dX12_like_152 : decode cX12_like 152 = .ok (.iload 4, 2) := by decide +kernel
theorem dX12_like_154 : decode cX12_like 154 = .ok (.ldc 147, 2) := by decide +kernel
theorem dX12_like_156 : decode cX12_like 156 = .ok (.isub, 1) := by decide +kernel
theorem dX12_like_157 : decode cX12_like 157 = .ok (.iload 5, 2) := by decide +kernel
theorem dX12_like_159 : decode cX12_like 159 = .ok (.ldc 147, 2) := by decide +kernel
theorem dX12_like_161 : decode cX12_like 161 = .ok (.isub, 1) := by decide +kernel
theorem dX12_like_162 : decode cX12_like 162 = .ok (.aload_n 0, 1) := by decide +kernel
theorem dX12_like_163 : decode cX12_like 163 = .ok (.getfield 94, 3) := by decide +kernel
theorem dX12_like_166 : decode cX12_like 166 = .ok (.aload_n 0, 1) := by decide +kernel
theorem dX12_like_167 : decode cX12_like 167 = .ok (.getfield 206, 3) := by decide +kernel
theorem dX12_like_170 : decode cX12_like 170 = .ok (.iaload, 1) := by decide +kernel
theorem dX12_like_171 : decode cX12_like 171 = .ok (.invokevirtual 217, 3) := by decide +kernel
theorem dX12_like_174 : decode cX12_like 174 = .ok (.ifCond .eq 7, 3) := by decide +kernel
theorem dX12_like_177 : decode cX12_like 177 = .ok (.iconst 1, 1) := by decide +kernel
theorem dX12_like_178 : decode cX12_like 178 = .ok (.goto 4, 3) := by decide +kernel
theorem dX12_like_181 : decode cX12_like 181 = .ok (.iconst 0, 1) := by decide +kernel
theorem dX12_like_182 : decode cX12_like 182 = .ok (.istore_n 3, 1) := by decide +kernel
theorem dX12_like_183 : decode cX12_like 183 = .ok (.goto (-143), 3) := by decide +kernel
theorem dX12_like_186 : decode cX12_like 186 = .ok (.iload_n 3, 1) := by decide +kernel
theorem dX12_like_187 : decode cX12_like 187 = .ok (.ifCond .eq 7, 3) := by decide +kernel
theorem dX12_like_190 : decode cX12_like 190 = .ok (.iconst 1, 1) := by decide +kernel
theorem dX12_like_191 : decode cX12_like 191 = .ok (.goto 4, 3) := by decide +kernel
theorem dX12_like_194 : decode cX12_like 194 = .ok (.iconst 0, 1) := by decide +kernel
theorem dX12_like_195 : decode cX12_like 195 = .ok (.ireturn, 1) := by decide +kernel
theorem dX12_put_0 : decode cX12_put 0 = .ok (.aload_n 0, 1) := by decide +kernel
theorem dX12_put_1 : decode cX12_put 1 = .ok (.getfield 220, 3) := by decide +kernel
theorem dX12_put_4 : decode cX12_put 4 = .ok (.sipush 250, 3) := by decide +kernel
theorem dX12_put_7 : decode cX12_put 7 = .ok (.if_icmp .ge 13, 3) := by decide +kernel
theorem dX12_put_10 : decode cX12_put 10 = .ok (.aload_n 0, 1) := by decide +kernel
theorem dX12_put_11 : decode cX12_put 11 = .ok (.getfield 97, 3) := by decide +kernel
theorem dX12_put_14 : decode cX12_put 14 = .ok (.aload_n 0, 1) := by decide +kernel
theorem dX12_put_15 : decode cX12_put 15 = .ok (.getfield 220, 3) := by decide +kernel
theorem dX12_put_18 : decode cX12_put 18 = .ok (.lload_n 1, 1) := by decide +kernel
theorem dX12_put_19 : decode cX12_put 19 = .ok (.lastore, 1) := by decide +kernel
theorem dX12_put_20 : decode cX12_put 20 = .ok (.aload_n 0, 1) := by decide +kernel
theorem dX12_put_21 : decode cX12_put 21 = .ok (.dup, 1) := by decide +kernel
theorem dX12_put_22 : decode cX12_put 22 = .ok (.getfield 220, 3) := by decide +kernel
theorem dX12_put_25 : decode cX12_put 25 = .ok (.iconst 1, 1) := by decide +kernel
theorem dX12_put_26 : decode cX12_put 26 = .ok (.iadd, 1) := by decide +kernel
theorem dX12_put_27 : decode cX12_put 27 = .ok (.putfield 220, 3) := by decide +kernel
theorem dX12_put_30 : decode cX12_put 30 = .ok (.return_, 1) := by decide +kernel
theorem dX12_begins_0 : decode cX12_begins 0 = .ok (.aload_n 0, 1) := by decide +kernel
theorem dX12_begins_1 : decode cX12_begins 1 = .ok (.getfield 100, 3) := by decide +kernel
theorem dX12_begins_4 : decode cX12_begins 4 = .ok (.iload_n 1, 1) := by decide +kernel
theorem dX12_begins_5 : decode cX12_begins 5 = .ok (.iload_n 2, 1) := by decide +kernel
theorem dX12_begins_6 : decode cX12_begins 6 = .ok (.iastore, 1) := by decide +kernel
theorem dX12_begins_7 : decode cX12_begins 7 = .ok (.aload_n 0, 1) := by decide +kernel
theorem dX12_begins_8 : decode cX12_begins 8 = .ok (.getfield 103, 3) := by decide +kernel
theorem dX12_begins_11 : decode cX12_begins 11 = .ok (.iload_n 1, 1) := by decide +kernel
theorem dX12_begins_12 : decode cX12_begins 12 = .ok (.iconst 0, 1) := by decide +kernel
theorem dX12_begins_13 : decode cX12_begins 13 = .ok (.iastore, 1) := by decide +kernel
theorem dX12_begins_14 : decode cX12_begins 14 = .ok (.aload_n 0, 1) := by decide +kernel
theorem dX12_begins_15 : decode cX12_begins 15 = .ok (.iconst 2, 1) := by decide +kernel
theorem dX12_begins_16 : decode cX12_begins 16 = .ok (.aload_n 0, 1) := by decide +kernel
theorem dX12_begins_17 : decode cX12_begins 17 = .ok (.getfield 52, 3) := by decide +kernel
theorem dX12_begins_20 : decode cX12_begins 20 = .ok (.iload_n 2, 1) := by decide +kernel
theorem dX12_begins_21 : decode cX12_begins 21 = .ok (.iaload, 1) := by decide +kernel
theorem dX12_begins_22 : decode cX12_begins 22 = .ok (.iconst 3, 1) := by decide +kernel
theorem dX12_begins_23 : decode cX12_begins 23 = .ok (.idiv, 1) := by decide +kernel
theorem dX12_begins_24 : decode cX12_begins 24 = .ok (.iadd, 1) := by decide +kernel
theorem dX12_begins_25 : decode cX12_begins 25 = .ok (.i2l, 1) := by decide +kernel
theorem dX12_begins_26 : decode cX12_begins 26 = .ok (.invokevirtual 223, 3) := by decide +kernel
theorem dX12_begins_29 : decode cX12_begins 29 = .ok (.aload_n 0, 1) := by decide +kernel
theorem dX12_begins_30 : decode cX12_begins 30 = .ok (.aload_n 0, 1) := by decide +kernel
theorem dX12_begins_31 : decode cX12_begins 31 = .ok (.getfield 55, 3) := by decide +kernel
theorem dX12_begins_34 : decode cX12_begins 34 = .ok (.iload_n 2, 1) := by decide +kernel
theorem dX12_begins_35 : decode cX12_begins 35 = .ok (.iaload, 1) := by decide +kernel
theorem dX12_begins_36 : decode cX12_begins 36 = .ok (.i2l, 1) := by decide +kernel
theorem dX12_begins_37 : decode cX12_begins 37 = .ok (.invokevirtual 223, 3) := by decide +kernel
theorem dX12_begins_40 : decode cX12_begins 40 = .ok (.iload_n 1, 1) := by decide +kernel
theorem dX12_begins_41 : decode cX12_begins 41 = .ok (.iconst 1, 1) := by decide +kernel
theorem dX12_begins_42 : decode cX12_begins 42 = .ok (.iadd, 1) := by decide +kernel
theorem dX12_begins_43 : decode cX12_begins 43 = .ok (.ireturn, 1) := by decide +kernel
theorem dX12_writePart_0 : decode cX12_writePart 0 = .ok (.aload_n 0, 1) := by decide +kernel
theorem dX12_writePart_1 : decode cX12_writePart 1 = .ok (.getfield 100, 3) := by decide +kernel
theorem dX12_writePart_4 : decode cX12_writePart 4 = .ok (.iload_n 1, 1) := by decide +kernel
theorem dX12_writePart_5 : decode cX12_writePart 5 = .ok (.iconst 1, 1) := by decide +kernel
theorem dX12_writePart_6 : decode cX12_writePart 6 = .ok (.isub, 1) := by decide +kernel
theorem dX12_writePart_7 : decode cX12_writePart 7 = .ok (.iaload, 1) := by decide +kernel
theorem dX12_writePart_8 : decode cX12_writePart 8 = .ok (.istore_n 2, 1) := by decide +kernel
theorem dX12_writePart_9 : decode cX12_writePart 9 = .ok (.aload_n 0, 1) := by decide +kernel
theorem dX12_writePart_10 : decode cX12_writePart 10 = .ok (.getfield 103, 3) := by decide +kernel
theorem dX12_writePart_13 : decode cX12_writePart 13 = .ok (.iload_n 1, 1) := by decide +kernel
theorem dX12_writePart_14 : decode cX12_writePart 14 = .ok (.iconst 1, 1) := by decide +kernel
theorem dX12_writePart_15 : decode cX12_writePart 15 = .ok (.isub, 1) := by decide +kernel
theorem dX12_writePart_16 : decode cX12_writePart 16 = .ok (.iaload, 1) := by decide +kernel
theorem dX12_writePart_17 : decode cX12_writePart 17 = .ok (.istore_n 3, 1) := by decide +kernel
theorem dX12_writePart_18 : decode cX12_writePart 18 = .ok (.aload_n 0, 1) := by decide +kernel
theorem dX12_writePart_19 : decode cX12_writePart 19 = .ok (.getfield 63, 3) := by decide +kernel
theorem dX12_writePart_22 : decode cX12_writePart 22 = .ok (.iconst 5, 1) := by decide +kernel
theorem dX12_writePart_23 : decode cX12_writePart 23 = .ok (.iload_n 2, 1) := by decide +kernel
theorem dX12_writePart_24 : decode cX12_writePart 24 = .ok (.imul, 1) := by decide +kernel
theorem dX12_writePart_25 : decode cX12_writePart 25 = .ok (.iload_n 3, 1) := by decide +kernel
theorem dX12_writePart_26 : decode cX12_writePart 26 = .ok (.iadd, 1) := by decide +kernel
theorem dX12_writePart_27 : decode cX12_writePart 27 = .ok (.iaload, 1) := by decide +kernel
theorem dX12_writePart_28 : decode cX12_writePart 28 = .ok (.istore 4, 2) := by decide +kernel
theorem dX12_writePart_30 : decode cX12_writePart 30 = .ok (.aload_n 0, 1) := by decide +kernel
theorem dX12_writePart_31 : decode cX12_writePart 31 = .ok (.getfield 26, 3) := by decide +kernel
theorem dX12_writePart_34 : decode cX12_writePart 34 = .ok (.iconst 5, 1) := by decide +kernel
theorem dX12_writePart_35 : decode cX12_writePart 35 = .ok (.aload_n 0, 1) := by decide +kernel
theorem dX12_writePart_36 : decode cX12_writePart 36 = .ok (.getfield 52, 3) := by decide +kernel
theorem dX12_writePart_39 : decode cX12_writePart 39 = .ok (.iload_n 2, 1) := by decide +kernel
theorem dX12_writePart_40 : decode cX12_writePart 40 = .ok (.iaload, 1) := by decide +kernel
theorem dX12_writePart_41 : decode cX12_writePart 41 = .ok (.imul, 1) := by decide +kernel
theorem dX12_writePart_42 : decode cX12_writePart 42 = .ok (.iload_n 3, 1) := by decide +kernel
theorem dX12_writePart_43 : decode cX12_writePart 43 = .ok (.iadd, 1) := by decide +kernel
theorem dX12_writePart_44 : decode cX12_writePart 44 = .ok (.iaload, 1) := by decide +kernel
theorem dX12_writePart_45 : decode cX12_writePart 45 = .ok (.istore 5, 2) := by decide +kernel
theorem dX12_writePart_47 : decode cX12_writePart 47 = .ok (.aload_n 0, 1) := by decide +kernel
theorem dX12_writePart_48 : decode cX12_writePart 48 = .ok (.getfield 103, 3) := by decide +kernel
theorem dX12_writePart_51 : decode cX12_writePart 51 = .ok (.iload_n 1, 1) := by decide +kernel
theorem dX12_writePart_52 : decode cX12_writePart 52 = .ok (.iconst 1, 1) := by decide +kernel
theorem dX12_writePart_53 : decode cX12_writePart 53 = .ok (.isub, 1) := by decide +kernel
theorem dX12_writePart_54 : decode cX12_writePart 54 = .ok (.dup2, 1) := by decide +kernel
theorem dX12_writePart_55 : decode cX12_writePart 55 = .ok (.iaload, 1) := by decide +kernel
theorem dX12_writePart_56 : decode cX12_writePart 56 = .ok (.iconst 1, 1) := by decide +kernel
theorem dX12_writePart_57 : decode cX12_writePart 57 = .ok (.iadd, 1) := by decide +kernel
theorem dX12_writePart_58 : decode cX12_writePart 58 = .ok (.iastore, 1) := by decide +kernel
theorem dX12_writePart_59 : decode cX12_writePart 59 = .ok (.aload_n 0, 1) := by decide +kernel
theorem dX12_writePart_60 : decode cX12_writePart 60 = .ok (.aload_n 0, 1) := by decide +kernel
theorem dX12_writePart_61 : decode cX12_writePart 61 = .ok (.getfield 23, 3) := by decide +kernel
theorem dX12_writePart_64 : decode cX12_writePart 64 = .ok (.iconst 5, 1) := by decide +kernel
theorem dX12_writePart_65 : decode cX12_writePart 65 = .ok (.aload_n 0, 1) := by decide +kernel
theorem dX12_writePart_66 : decode cX12_writePart 66 = .ok (.getfield 52, 3) := by decide +kernel
theorem dX12_writePart_69 : decode cX12_writePart 69 = .ok (.iload_n 2, 1) := by decide +kernel
theorem dX12_writePart_70 : decode cX12_writePart 70 = .ok (.iaload, 1) := by decide +kernel
theorem dX12_writePart_71 : decode cX12_writePart 71 = .ok (.imul, 1) := by decide +kernel
theorem dX12_writePart_72 : decode cX12_writePart 72 = .ok (.iload_n 3, 1) := by decide +kernel
theorem dX12_writePart_73 : decode cX12_writePart 73 = .ok (.iadd, 1) := by decide +kernel
theorem dX12_writePart_74 : decode cX12_writePart 74 = .ok (.iaload, 1) := by decide +kernel
theorem dX12_writePart_75 : decode cX12_writePart 75 = .ok (.i2l, 1) := by decide +kernel
theorem dX12_writePart_76 : decode cX12_writePart 76 = .ok (.invokevirtual 223, 3) := by decide +kernel
theorem dX12_writePart_79 : decode cX12_writePart 79 = .ok (.aload_n 0, 1) := by decide +kernel
theorem dX12_writePart_80 : decode cX12_writePart 80 = .ok (.iload 5, 2) := by decide +kernel
theorem dX12_writePart_82 : decode cX12_writePart 82 = .ok (.i2l, 1) := by decide +kernel
theorem dX12_writePart_83 : decode cX12_writePart 83 = .ok (.invokevirtual 223, 3) := by decide +kernel
theorem dX12_writePart_86 : decode cX12_writePart 86 = .ok (.iload 5, 2) := by decide +kernel
theorem dX12_writePart_88 : decode cX12_writePart 88 = .ok (.iconst 2, 1) := by decide +kernel
theorem dX12_writePart_89 : decode cX12_writePart 89 = .ok (.if_icmp .ge 20, 3) := by decide +kernel
theorem dX12_writePart_92 : decode cX12_writePart 92 = .ok (.aload_n 0, 1) := by decide +kernel
theorem dX12_writePart_93 : decode cX12_writePart 93 = .ok (.aload_n 0, 1) := by decide +kernel
theorem dX12_writePart_94 : decode cX12_writePart 94 = .ok (.getfield 59, 3) := by decide +kernel
theorem dX12_writePart_97 : decode cX12_writePart 97 = .ok (.iconst 5, 1) := by decide +kernel
theorem dX12_writePart_98 : decode cX12_writePart 98 = .ok (.iload_n 2, 1) := by decide +kernel
theorem dX12_writePart_99 : decode cX12_writePart 99 = .ok (.imul, 1) := by decide +kernel
theorem dX12_writePart_100 : decode cX12_writePart 100 = .ok (.iload_n 3, 1) := by decide +kernel
theorem dX12_writePart_101 : decode cX12_writePart 101 = .ok (.iadd, 1) := by decide +kernel
theorem dX12_writePart_102 : decode cX12_writePart 102 = .ok (.laload, 1) := by decide +kernel
theorem dX12_writePart_103 : decode cX12_writePart 103 = .ok (.invokevirtual 223, 3) := by decide +kernel
theorem dX12_writePart_106 : decode cX12_writePart 106 = .ok (.goto 159, 3) := by decide +kernel
theorem dX12_writePart_109 : decode cX12_writePart 109 = .ok (.iload 5, 2) := by decide +kernel
theorem dX12_writePart_111 : decode cX12_writePart 111 = .ok (.iconst 2, 1) := by decide +kernel
theorem dX12_writePart_112 : decode cX12_writePart 112 = .ok (.if_icmp .ne 30, 3) := by decide +kernel
theorem dX12_writePart_115 : decode cX12_writePart 115 = .ok (.aload_n 0, 1) := by decide +kernel
theorem dX12_writePart_116 : decode cX12_writePart 116 = .ok (.iload 4, 2) := by decide +kernel
theorem dX12_writePart_118 : decode cX12_writePart 118 = .ok (.iconst (-1), 1) := by decide +kernel
theorem dX12_writePart_119 : decode cX12_writePart 119 = .ok (.if_icmp .ne 9, 3) := by decide +kernel
theorem dX12_writePart_122 : decode cX12_writePart 122 = .ok (.ldc2_w 227, 3) := by decide +kernel
theorem dX12_writePart_125 : decode cX12_writePart 125 = .ok (.goto 11, 3) := by decide +kernel
theorem dX12_writePart_128 : decode cX12_writePart 128 = .ok (.aload_n 0, 1) := by decide +kernel
theorem dX12_writePart_129 : decode cX12_writePart 129 = .ok (.getfield 13, 3) := by decide +kernel
theorem dX12_writePart_132 : decode cX12_writePart 132 = .ok (.iload 4, 2) := by decide +kernel
theorem dX12_writePart_134 : decode cX12_writePart 134 = .ok (.iaload, 1) := by decide +kernel
theorem dX12_writePart_135 : decode cX12_writePart 135 = .ok (.i2l, 1) := by decide +kernel
theorem dX12_writePart_136 : decode cX12_writePart 136 = .ok (.invokevirtual 223, 3) := by decide +kernel
theorem dX12_writePart_139 : decode cX12_writePart 139 = .ok (.goto 126, 3) := by decide +kernel
theorem dX12_writePart_142 : decode cX12_writePart 142 = .ok (.iload 5, 2) := by decide +kernel
theorem dX12_writePart_144 : decode cX12_writePart 144 = .ok (.iconst 4, 1) := by decide +kernel
theorem dX12_writePart_145 : decode cX12_writePart 145 = .ok (.if_icmp .ne 84, 3) := by decide +kernel
theorem dX12_writePart_148 : decode cX12_writePart 148 = .ok (.aload_n 0, 1) := by decide +kernel
theorem dX12_writePart_149 : decode cX12_writePart 149 = .ok (.iload 4, 2) := by decide +kernel
theorem dX12_writePart_151 : decode cX12_writePart 151 = .ok (.iconst (-1), 1) := by decide +kernel
theorem dX12_writePart_152 : decode cX12_writePart 152 = .ok (.if_icmp .ne 9, 3) := by decide +kernel
theorem dX12_writePart_155 : decode cX12_writePart 155 = .ok (.ldc2_w 227, 3) := by decide +kernel
theorem dX12_writePart_158 : decode cX12_writePart 158 = .ok (.goto 14, 3) := by decide +kernel
theorem dX12_writePart_161 : decode cX12_writePart 161 = .ok (.aload_n 0, 1) := by decide +kernel
theorem dX12_writePart_162 : decode cX12_writePart 162 = .ok (.getfield 45, 3) := by decide +kernel
theorem dX12_writePart_165 : decode cX12_writePart 165 = .ok (.iload 4, 2) := by decide +kernel
theorem dX12_writePart_167 : decode cX12_writePart 167 = .ok (.bipush 100, 2) := by decide +kernel
theorem dX12_writePart_169 : decode cX12_writePart 169 = .ok (.isub, 1) := by decide +kernel
theorem dX12_writePart_170 : decode cX12_writePart 170 = .ok (.iaload, 1) := by decide +kernel
theorem dX12_writePart_171 : decode cX12_writePart 171 = .ok (.i2l, 1) := by decide +kernel
theorem dX12_writePart_172 : decode cX12_writePart 172 = .ok (.invokevirtual 223, 3) := by decide +kernel
theorem dX12_writePart_175 : decode cX12_writePart 175 = .ok (.iconst 0, 1) := by decide +kernel
theorem dX12_writePart_176 : decode cX12_writePart 176 = .ok (.istore 6, 2) := by decide +kernel
theorem dX12_writePart_178 : decode cX12_writePart 178 = .ok (.iload 4, 2) := by decide +kernel
theorem dX12_writePart_180 : decode cX12_writePart 180 = .ok (.iconst (-1), 1) := by decide +kernel
theorem dX12_writePart_181 : decode cX12_writePart 181 = .ok (.if_icmp .eq 45, 3) := by decide +kernel
theorem dX12_writePart_184 : decode cX12_writePart 184 = .ok (.iload 6, 2) := by decide +kernel
theorem dX12_writePart_186 : decode cX12_writePart 186 = .ok (.aload_n 0, 1) := by decide +kernel
theorem dX12_writePart_187 : decode cX12_writePart 187 = .ok (.getfield 45, 3) := by decide +kernel
theorem dX12_writePart_190 : decode cX12_writePart 190 = .ok (.iload 4, 2) := by decide +kernel
theorem dX12_writePart_192 : decode cX12_writePart 192 = .ok (.bipush 100, 2) := by decide +kernel
theorem dX12_writePart_194 : decode cX12_writePart 194 = .ok (.isub, 1) := by decide +kernel
theorem dX12_writePart_195 : decode cX12_writePart 195 = .ok (.iaload, 1) := by decide +kernel
theorem dX12_writePart_196 : decode cX12_writePart 196 = .ok (.if_icmp .ge 30, 3) := by decide +kernel
theorem dX12_writePart_199 : decode cX12_writePart 199 = .ok (.aload_n 0, 1) := by decide +kernel
theorem dX12_writePart_200 : decode cX12_writePart 200 = .ok (.aload_n 0, 1) := by decide +kernel
theorem dX12_writePart_201 : decode cX12_writePart 201 = .ok (.getfield 49, 3) := by decide +kernel
theorem dX12_writePart_204 : decode cX12_writePart 204 = .ok (.bipush 8, 2) := by decide +kernel
theorem dX12_writePart_206 : decode cX12_writePart 206 = .ok (.iload 4, 2) := by decide +kernel
theorem dX12_writePart_208 : decode cX12_writePart 208 = .ok (.bipush 100, 2) := by decide +kernel
theorem dX12_writePart_210 : decode cX12_writePart 210 = .ok (.isub, 1) := by decide +kernel
theorem dX12_writePart_211 : decode cX12_writePart 211 = .ok (.imul, 1) := by decide +kernel
theorem dX12_writePart_212 : decode cX12_writePart 212 = .ok (.iload 6, 2) := by decide +kernel
theorem dX12_writePart_214 : decode cX12_writePart 214 = .ok (.iadd, 1) := by decide +kernel
theorem dX12_writePart_215 : decode cX12_writePart 215 = .ok (.iaload, 1) := by decide +kernel
theorem dX12_writePart_216 : decode cX12_writePart 216 = .ok (.i2l, 1) := by decide +kernel
theorem dX12_writePart_217 : decode cX12_writePart 217 = .ok (.invokevirtual 223, 3) := by decide +kernel
theorem dX12_writePart_220 : decode cX12_writePart 220 = .ok (.iinc 6 1, 3) := by decide +kernel
theorem dX12_writePart_223 : decode cX12_writePart 223 = .ok (.goto (-45), 3) := by decide +kernel
theorem dX12_writePart_226 : decode cX12_writePart 226 = .ok (.goto 39, 3) := by decide +kernel
theorem dX12_writePart_229 : decode cX12_writePart 229 = .ok (.aload_n 0, 1) := by decide +kernel
theorem dX12_writePart_230 : decode cX12_writePart 230 = .ok (.iload 4, 2) := by decide +kernel
theorem dX12_writePart_232 : decode cX12_writePart 232 = .ok (.iconst (-1), 1) := by decide +kernel
theorem dX12_writePart_233 : decode cX12_writePart 233 = .ok (.if_icmp .ne 7, 3) := by decide +kernel
theorem dX12_writePart_236 : decode cX12_writePart 236 = .ok (.lconst 0, 1) := by decide +kernel
theorem dX12_writePart_237 : decode cX12_writePart 237 = .ok (.goto 4, 3) := by decide +kernel
theorem dX12_writePart_240 : decode cX12_writePart 240 = .ok (.lconst 1, 1) := by decide +kernel
theorem dX12_writePart_241 : decode cX12_writePart 241 = .ok (.invokevirtual 223, 3) := by decide +kernel
theorem dX12_writePart_244 : decode cX12_writePart 244 = .ok (.iload 4, 2) := by decide +kernel
theorem dX12_writePart_246 : decode cX12_writePart 246 = .ok (.iconst (-1), 1) := by decide +kernel
theorem dX12_writePart_247 : decode cX12_writePart 247 = .ok (.if_icmp .ne 7, 3) := by decide +kernel
theorem dX12_writePart_250 : decode cX12_writePart 250 = .ok (.iload_n 1, 1) := by decide +kernel
theorem dX12_writePart_251 : decode cX12_writePart 251 = .ok (.goto 13, 3) := by decide +kernel
theorem dX12_writePart_254 : decode cX12_writePart 254 = .ok (.aload_n 0, 1) := by decide +kernel
theorem dX12_writePart_255 : decode cX12_writePart 255 = .ok (.iload_n 1, 1) := by decide +kernel
theorem dX12_writePart_256 : decode cX12_writePart 256 = .ok (.iload 4, 2) := by decide +kernel
theorem dX12_writePart_258 : decode cX12_writePart 258 = .ok (.ldc 147, 2) := by decide +kernel
theorem dX12_writePart_260 : decode cX12_writePart 260 = .ok (.isub, 1) := by decide +kernel
theorem dX12_writePart_261 : decode cX12_writePart 261 = .ok (.invokevirtual 229, 3) := by decide +kernel
theorem dX12_writePart_264 : decode cX12_writePart 264 = .ok (.ireturn, 1) := by decide +kernel
theorem dX12_writePart_265 : decode cX12_writePart 265 = .ok (.iload_n 1, 1) := by decide +kernel
theorem dX12_writePart_266 : decode cX12_writePart 266 = .ok (.ireturn, 1) := by decide +kernel
theorem dX12_write_0 : decode cX12_write 0 = .ok (.iload_n 1, 1) := by decide +kernel
theorem dX12_write_1 : decode cX12_write 1 = .ok (.invokestatic 148, 3) := by decide +kernel
theorem dX12_write_4 : decode cX12_write 4 = .ok (.ifCond .eq 17, 3) := by decide +kernel
theorem dX12_write_7 : decode cX12_write 7 = .ok (.aload_n 0, 1) := by decide +kernel
theorem dX12_write_8 : decode cX12_write 8 = .ok (.aload_n 0, 1) := by decide +kernel
theorem dX12_write_9 : decode cX12_write 9 = .ok (.getfield 66, 3) := by decide +kernel
theorem dX12_write_12 : decode cX12_write 12 = .ok (.iload_n 1, 1) := by decide +kernel
theorem dX12_write_13 : decode cX12_write 13 = .ok (.iaload, 1) := by decide +kernel
theorem dX12_write_14 : decode cX12_write 14 = .ok (.invokevirtual 160, 3) := by decide +kernel
theorem dX12_write_17 : decode cX12_write 17 = .ok (.iconst 4, 1) := by decide +kernel
theorem dX12_write_18 : decode cX12_write 18 = .ok (.if_icmp .eq 5, 3) := by decide +kernel
theorem dX12_write_21 : decode cX12_write 21 = .ok (.iconst (-1), 1) := by decide +kernel
theorem dX12_write_22 : decode cX12_write 22 = .ok (.ireturn, 1) := by decide +kernel
theorem dX12_write_23 : decode cX12_write 23 = .ok (.aload_n 0, 1) := by decide +kernel
theorem dX12_write_24 : decode cX12_write 24 = .ok (.iconst 0, 1) := by decide +kernel
theorem dX12_write_25 : decode cX12_write 25 = .ok (.putfield 220, 3) := by decide +kernel
theorem dX12_write_28 : decode cX12_write 28 = .ok (.aload_n 0, 1) := by decide +kernel
theorem dX12_write_29 : decode cX12_write 29 = .ok (.iconst 0, 1) := by decide +kernel
theorem dX12_write_30 : decode cX12_write 30 = .ok (.aload_n 0, 1) := by decide +kernel
theorem dX12_write_31 : decode cX12_write 31 = .ok (.getfield 66, 3) := by decide +kernel
theorem dX12_write_34 : decode cX12_write 34 = .ok (.iload_n 1, 1) := by decide +kernel
theorem dX12_write_35 : decode cX12_write 35 = .ok (.iaload, 1) := by decide +kernel
theorem dX12_write_36 : decode cX12_write 36 = .ok (.ldc 147, 2) := by decide +kernel
theorem dX12_write_38 : decode cX12_write 38 = .ok (.isub, 1) := by decide +kernel
theorem dX12_write_39 : decode cX12_write 39 = .ok (.invokevirtual 229, 3) := by decide +kernel
theorem dX12_write_42 : decode cX12_write 42 = .ok (.istore_n 2, 1) := by decide +kernel
theorem dX12_write_43 : decode cX12_write 43 = .ok (.iload_n 2, 1) := by decide +kernel
theorem dX12_write_44 : decode cX12_write 44 = .ok (.ifCond .le 52, 3) := by decide +kernel
theorem dX12_write_47 : decode cX12_write 47 = .ok (.aload_n 0, 1) := by decide +kernel
theorem dX12_write_48 : decode cX12_write 48 = .ok (.getfield 220, 3) := by decide +kernel
theorem dX12_write_51 : decode cX12_write 51 = .ok (.sipush 250, 3) := by decide +kernel
theorem dX12_write_54 : decode cX12_write 54 = .ok (.if_icmp .gt 42, 3) := by decide +kernel
theorem dX12_write_57 : decode cX12_write 57 = .ok (.aload_n 0, 1) := by decide +kernel
theorem dX12_write_58 : decode cX12_write 58 = .ok (.getfield 103, 3) := by decide +kernel
theorem dX12_write_61 : decode cX12_write 61 = .ok (.iload_n 2, 1) := by decide +kernel
theorem dX12_write_62 : decode cX12_write 62 = .ok (.iconst 1, 1) := by decide +kernel
theorem dX12_write_63 : decode cX12_write 63 = .ok (.isub, 1) := by decide +kernel
theorem dX12_write_64 : decode cX12_write 64 = .ok (.iaload, 1) := by decide +kernel
theorem dX12_write_65 : decode cX12_write 65 = .ok (.aload_n 0, 1) := by decide +kernel
theorem dX12_write_66 : decode cX12_write 66 = .ok (.getfield 55, 3) := by decide +kernel
theorem dX12_write_69 : decode cX12_write 69 = .ok (.aload_n 0, 1) := by decide +kernel
theorem dX12_write_70 : decode cX12_write 70 = .ok (.getfield 100, 3) := by decide +kernel
theorem dX12_write_73 : decode cX12_write 73 = .ok (.iload_n 2, 1) := by decide +kernel
theorem dX12_write_74 : decode cX12_write 74 = .ok (.iconst 1, 1) := by decide +kernel
theorem dX12_write_75 : decode cX12_write 75 = .ok (.isub, 1) := by decide +kernel
theorem dX12_write_76 : decode cX12_write 76 = .ok (.iaload, 1) := by decide +kernel
theorem dX12_write_77 : decode cX12_write 77 = .ok (.iaload, 1) := by decide +kernel
theorem dX12_write_78 : decode cX12_write 78 = .ok (.if_icmp .ne 9, 3) := by decide +kernel
theorem dX12_write_81 : decode cX12_write 81 = .ok (.iinc 2 (-1), 3) := by decide +kernel
theorem dX12_write_84 : decode cX12_write 84 = .ok (.goto (-41), 3) := by decide +kernel
theorem dX12_write_87 : decode cX12_write 87 = .ok (.aload_n 0, 1) := by decide +kernel
theorem dX12_write_88 : decode cX12_write 88 = .ok (.iload_n 2, 1) := by decide +kernel
theorem dX12_write_89 : decode cX12_write 89 = .ok (.invokevirtual 232, 3) := by decide +kernel
theorem dX12_write_92 : decode cX12_write 92 = .ok (.istore_n 2, 1) := by decide +kernel
theorem dX12_write_93 : decode cX12_write 93 = .ok (.goto (-50), 3) := by decide +kernel
theorem dX12_write_96 : decode cX12_write 96 = .ok (.aload_n 0, 1) := by decide +kernel
theorem dX12_write_97 : decode cX12_write 97 = .ok (.getfield 220, 3) := by decide +kernel
theorem dX12_write_100 : decode cX12_write 100 = .ok (.sipush 250, 3) := by decide +kernel
theorem dX12_write_103 : decode cX12_write 103 = .ok (.if_icmp .le 6, 3) := by decide +kernel
theorem dX12_write_106 : decode cX12_write 106 = .ok (.bipush (-2), 2) := by decide +kernel
theorem dX12_write_108 : decode cX12_write 108 = .ok (.ireturn, 1) := by decide +kernel
theorem dX12_write_109 : decode cX12_write 109 = .ok (.aload_n 0, 1) := by decide +kernel
theorem dX12_write_110 : decode cX12_write 110 = .ok (.aload_n 0, 1) := by decide +kernel
theorem dX12_write_111 : decode cX12_write 111 = .ok (.getfield 220, 3) := by decide +kernel
theorem dX12_write_114 : decode cX12_write 114 = .ok (.putfield 235, 3) := by decide +kernel
theorem dX12_write_117 : decode cX12_write 117 = .ok (.iconst 0, 1) := by decide +kernel
theorem dX12_write_118 : decode cX12_write 118 = .ok (.istore_n 3, 1) := by decide +kernel
theorem dX12_write_119 : decode cX12_write 119 = .ok (.iload_n 3, 1) := by decide +kernel
theorem dX12_write_120 : decode cX12_write 120 = .ok (.aload_n 0, 1) := by decide +kernel
theorem dX12_write_121 : decode cX12_write 121 = .ok (.getfield 220, 3) := by decide +kernel
theorem dX12_write_124 : decode cX12_write 124 = .ok (.if_icmp .ge 21, 3) := by decide +kernel
theorem dX12_write_127 : decode cX12_write 127 = .ok (.aload_n 0, 1) := by decide +kernel
theorem dX12_write_128 : decode cX12_write 128 = .ok (.getfield 75, 3) := by decide +kernel
theorem dX12_write_131 : decode cX12_write 131 = .ok (.iload_n 3, 1) := by decide +kernel
theorem dX12_write_132 : decode cX12_write 132 = .ok (.aload_n 0, 1) := by decide +kernel
theorem dX12_write_133 : decode cX12_write 133 = .ok (.getfield 97, 3) := by decide +kernel
theorem dX12_write_136 : decode cX12_write 136 = .ok (.iload_n 3, 1) := by decide +kernel
theorem dX12_write_137 : decode cX12_write 137 = .ok (.laload, 1) := by decide +kernel
theorem dX12_write_138 : decode cX12_write 138 = .ok (.lastore, 1) := by decide +kernel
theorem dX12_write_139 : decode cX12_write 139 = .ok (.iinc 3 1, 3) := by decide +kernel
theorem dX12_write_142 : decode cX12_write 142 = .ok (.goto (-23), 3) := by decide +kernel
theorem dX12_write_145 : decode cX12_write 145 = .ok (.aload_n 0, 1) := by decide +kernel
theorem dX12_write_146 : decode cX12_write 146 = .ok (.getfield 235, 3) := by decide +kernel
theorem dX12_write_149 : decode cX12_write 149 = .ok (.ireturn, 1) := by decide +kernel
theorem dX12_leaf_0 : decode cX12_leaf 0 = .ok (.iload_n 1, 1) := by decide +kernel
theorem dX12_leaf_1 : decode cX12_leaf 1 = .ok (.i2l, 1) := by decide +kernel
theorem dX12_leaf_2 : decode cX12_leaf 2 = .ok (.lconst 0, 1) := by decide +kernel
theorem dX12_leaf_3 : decode cX12_leaf 3 = .ok (.aload_n 0, 1) := by decide +kernel
theorem dX12_leaf_4 : decode cX12_leaf 4 = .ok (.getfield 235, 3) := by decide +kernel
theorem dX12_leaf_7 : decode cX12_leaf 7 = .ok (.iconst 1, 1) := by decide +kernel
theorem dX12_leaf_8 : decode cX12_leaf 8 = .ok (.isub, 1) := by decide +kernel
theorem dX12_leaf_9 : decode cX12_leaf 9 = .ok (.i2l, 1) := by decide +kernel
theorem dX12_leaf_10 : decode cX12_leaf 10 = .ok (.invokestatic 117, 3) := by decide +kernel
theorem dX12_leaf_13 : decode cX12_leaf 13 = .ok (.istore_n 2, 1) := by decide +kernel
theorem dX12_leaf_14 : decode cX12_leaf 14 = .ok (.aload_n 0, 1) := by decide +kernel
theorem dX12_leaf_15 : decode cX12_leaf 15 = .ok (.iload_n 2, 1) := by decide +kernel
theorem dX12_leaf_16 : decode cX12_leaf 16 = .ok (.ifCond .eq 7, 3) := by decide +kernel
theorem dX12_leaf_19 : decode cX12_leaf 19 = .ok (.iconst 0, 1) := by decide +kernel
theorem dX12_leaf_20 : decode cX12_leaf 20 = .ok (.goto 4, 3) := by decide +kernel
theorem dX12_leaf_23 : decode cX12_leaf 23 = .ok (.iconst (-1), 1) := by decide +kernel
theorem dX12_leaf_24 : decode cX12_leaf 24 = .ok (.putfield 198, 3) := by decide +kernel
theorem dX12_leaf_27 : decode cX12_leaf 27 = .ok (.iload_n 2, 1) := by decide +kernel
theorem dX12_leaf_28 : decode cX12_leaf 28 = .ok (.ifCond .eq 12, 3) := by decide +kernel
theorem dX12_leaf_31 : decode cX12_leaf 31 = .ok (.aload_n 0, 1) := by decide +kernel
theorem dX12_leaf_32 : decode cX12_leaf 32 = .ok (.getfield 75, 3) := by decide +kernel
theorem dX12_leaf_35 : decode cX12_leaf 35 = .ok (.iload_n 1, 1) := by decide +kernel
theorem dX12_leaf_36 : decode cX12_leaf 36 = .ok (.laload, 1) := by decide +kernel
theorem dX12_leaf_37 : decode cX12_leaf 37 = .ok (.goto 4, 3) := by decide +kernel
theorem dX12_leaf_40 : decode cX12_leaf 40 = .ok (.lconst 0, 1) := by decide +kernel
theorem dX12_leaf_41 : decode cX12_leaf 41 = .ok (.lreturn, 1) := by decide +kernel
theorem dX12_set_0 : decode cX12_set 0 = .ok (.iload_n 1, 1) := by decide +kernel
theorem dX12_set_1 : decode cX12_set 1 = .ok (.i2l, 1) := by decide +kernel
theorem dX12_set_2 : decode cX12_set 2 = .ok (.lconst 0, 1) := by decide +kernel
theorem dX12_set_3 : decode cX12_set 3 = .ok (.aload_n 0, 1) := by decide +kernel
theorem dX12_set_4 : decode cX12_set 4 = .ok (.getfield 235, 3) := by decide +kernel
theorem dX12_set_7 : decode cX12_set 7 = .ok (.i2l, 1) := by decide +kernel
theorem dX12_set_8 : decode cX12_set 8 = .ok (.invokestatic 117, 3) := by decide +kernel
theorem dX12_set_11 : decode cX12_set 11 = .ok (.ifCond .ne 5, 3) := by decide +kernel
theorem dX12_set_14 : decode cX12_set 14 = .ok (.iconst (-1), 1) := by decide +kernel
theorem dX12_set_15 : decode cX12_set 15 = .ok (.ireturn, 1) := by decide +kernel
theorem dX12_set_16 : decode cX12_set 16 = .ok (.iload_n 1, 1) := by decide +kernel
theorem dX12_set_17 : decode cX12_set 17 = .ok (.sipush 250, 3) := by decide +kernel
theorem dX12_set_20 : decode cX12_set 20 = .ok (.if_icmp .ne 6, 3) := by decide +kernel
theorem dX12_set_23 : decode cX12_set 23 = .ok (.bipush (-2), 2) := by decide +kernel
theorem dX12_set_25 : decode cX12_set 25 = .ok (.ireturn, 1) := by decide +kernel
theorem dX12_set_26 : decode cX12_set 26 = .ok (.aload_n 0, 1) := by decide +kernel
theorem dX12_set_27 : decode cX12_set 27 = .ok (.getfield 75, 3) := by decide +kernel
theorem dX12_set_30 : decode cX12_set 30 = .ok (.iload_n 1, 1) := by decide +kernel
theorem dX12_set_31 : decode cX12_set 31 = .ok (.lload_n 2, 1) := by decide +kernel
theorem dX12_set_32 : decode cX12_set 32 = .ok (.lastore, 1) := by decide +kernel
theorem dX12_set_33 : decode cX12_set 33 = .ok (.aload_n 0, 1) := by decide +kernel
theorem dX12_set_34 : decode cX12_set 34 = .ok (.dup, 1) := by decide +kernel
theorem dX12_set_35 : decode cX12_set 35 = .ok (.getfield 235, 3) := by decide +kernel
theorem dX12_set_38 : decode cX12_set 38 = .ok (.iload_n 1, 1) := by decide +kernel
theorem dX12_set_39 : decode cX12_set 39 = .ok (.aload_n 0, 1) := by decide +kernel
theorem dX12_set_40 : decode cX12_set 40 = .ok (.getfield 235, 3) := by decide +kernel
theorem dX12_set_43 : decode cX12_set 43 = .ok (.if_icmp .ne 7, 3) := by decide +kernel
theorem dX12_set_46 : decode cX12_set 46 = .ok (.iconst 1, 1) := by decide +kernel
theorem dX12_set_47 : decode cX12_set 47 = .ok (.goto 4, 3) := by decide +kernel
theorem dX12_set_50 : decode cX12_set 50 = .ok (.iconst 0, 1) := by decide +kernel
theorem dX12_set_51 : decode cX12_set 51 = .ok (.iadd, 1) := by decide +kernel
theorem dX12_set_52 : decode cX12_set 52 = .ok (.putfield 235, 3) := by decide +kernel
theorem dX12_set_55 : decode cX12_set 55 = .ok (.aload_n 0, 1) := by decide +kernel
theorem dX12_set_56 : decode cX12_set 56 = .ok (.getfield 235, 3) := by decide +kernel
theorem dX12_set_59 : decode cX12_set 59 = .ok (.ireturn, 1) := by decide +kernel
theorem dX12_cut_0 : decode cX12_cut 0 = .ok (.iload_n 1, 1) := by decide +kernel
theorem dX12_cut_1 : decode cX12_cut 1 = .ok (.i2l, 1) := by decide +kernel
theorem dX12_cut_2 : decode cX12_cut 2 = .ok (.lconst 0, 1) := by decide +kernel
theorem dX12_cut_3 : decode cX12_cut 3 = .ok (.aload_n 0, 1) := by decide +kernel
theorem dX12_cut_4 : decode cX12_cut 4 = .ok (.getfield 235, 3) := by decide +kernel
theorem dX12_cut_7 : decode cX12_cut 7 = .ok (.i2l, 1) := by decide +kernel
theorem dX12_cut_8 : decode cX12_cut 8 = .ok (.invokestatic 117, 3) := by decide +kernel
theorem dX12_cut_11 : decode cX12_cut 11 = .ok (.ifCond .ne 5, 3) := by decide +kernel
theorem dX12_cut_14 : decode cX12_cut 14 = .ok (.iconst (-1), 1) := by decide +kernel
theorem dX12_cut_15 : decode cX12_cut 15 = .ok (.ireturn, 1) := by decide +kernel
theorem dX12_cut_16 : decode cX12_cut 16 = .ok (.aload_n 0, 1) := by decide +kernel
theorem dX12_cut_17 : decode cX12_cut 17 = .ok (.getfield 235, 3) := by decide +kernel
theorem dX12_cut_20 : decode cX12_cut 20 = .ok (.iload_n 1, 1) := by decide +kernel
theorem dX12_cut_21 : decode cX12_cut 21 = .ok (.isub, 1) := by decide +kernel
theorem dX12_cut_22 : decode cX12_cut 22 = .ok (.istore_n 2, 1) := by decide +kernel
theorem dX12_cut_23 : decode cX12_cut 23 = .ok (.aload_n 0, 1) := by decide +kernel
theorem dX12_cut_24 : decode cX12_cut 24 = .ok (.iload_n 1, 1) := by decide +kernel
theorem dX12_cut_25 : decode cX12_cut 25 = .ok (.putfield 235, 3) := by decide +kernel
theorem dX12_cut_28 : decode cX12_cut 28 = .ok (.iload_n 2, 1) := by decide +kernel
theorem dX12_cut_29 : decode cX12_cut 29 = .ok (.ireturn, 1) := by decide +kernel
theorem dX12_fails_0 : decode cX12_fails 0 = .ok (.aload_n 0, 1) := by decide +kernel
theorem dX12_fails_1 : decode cX12_fails 1 = .ok (.aload_n 0, 1) := by decide +kernel
theorem dX12_fails_2 : decode cX12_fails 2 = .ok (.getfield 238, 3) := by decide +kernel
theorem dX12_fails_5 : decode cX12_fails 5 = .ok (.ifCond .ne 7, 3) := by decide +kernel
theorem dX12_fails_8 : decode cX12_fails 8 = .ok (.iload_n 1, 1) := by decide +kernel
theorem dX12_fails_9 : decode cX12_fails 9 = .ok (.goto 7, 3) := by decide +kernel
theorem dX12_fails_12 : decode cX12_fails 12 = .ok (.aload_n 0, 1) := by decide +kernel
theorem dX12_fails_13 : decode cX12_fails 13 = .ok (.getfield 238, 3) := by decide +kernel
theorem dX12_fails_16 : decode cX12_fails 16 = .ok (.putfield 238, 3) := by decide +kernel
theorem dX12_fails_19 : decode cX12_fails 19 = .ok (.return_, 1) := by decide +kernel
theorem dX12_want_0 : decode cX12_want 0 = .ok (.aload_n 0, 1) := by decide +kernel
theorem dX12_want_1 : decode cX12_want 1 = .ok (.getfield 238, 3) := by decide +kernel
theorem dX12_want_4 : decode cX12_want 4 = .ok (.ifCond .eq 5, 3) := by decide +kernel
theorem dX12_want_7 : decode cX12_want 7 = .ok (.lconst 0, 1) := by decide +kernel
theorem dX12_want_8 : decode cX12_want 8 = .ok (.lreturn, 1) := by decide +kernel
theorem dX12_want_9 : decode cX12_want 9 = .ok (.aload_n 0, 1) := by decide +kernel
theorem dX12_want_10 : decode cX12_want 10 = .ok (.aload_n 0, 1) := by decide +kernel
theorem dX12_want_11 : decode cX12_want 11 = .ok (.getfield 241, 3) := by decide +kernel
theorem dX12_want_14 : decode cX12_want 14 = .ok (.putfield 244, 3) := by decide +kernel
theorem dX12_want_17 : decode cX12_want 17 = .ok (.aload_n 0, 1) := by decide +kernel
theorem dX12_want_18 : decode cX12_want 18 = .ok (.getfield 241, 3) := by decide +kernel
theorem dX12_want_21 : decode cX12_want 21 = .ok (.aload_n 0, 1) := by decide +kernel
theorem dX12_want_22 : decode cX12_want 22 = .ok (.getfield 235, 3) := by decide +kernel
theorem dX12_want_25 : decode cX12_want 25 = .ok (.if_icmp .lt 10, 3) := by decide +kernel
theorem dX12_want_28 : decode cX12_want 28 = .ok (.aload_n 0, 1) := by decide +kernel
theorem dX12_want_29 : decode cX12_want 29 = .ok (.iconst 4, 1) := by decide +kernel
theorem dX12_want_30 : decode cX12_want 30 = .ok (.invokevirtual 247, 3) := by decide +kernel
theorem dX12_want_33 : decode cX12_want 33 = .ok (.lconst 0, 1) := by decide +kernel
theorem dX12_want_34 : decode cX12_want 34 = .ok (.lreturn, 1) := by decide +kernel
theorem dX12_want_35 : decode cX12_want 35 = .ok (.aload_n 0, 1) := by decide +kernel
theorem dX12_want_36 : decode cX12_want 36 = .ok (.dup, 1) := by decide +kernel
theorem dX12_want_37 : decode cX12_want 37 = .ok (.getfield 241, 3) := by decide +kernel
theorem dX12_want_40 : decode cX12_want 40 = .ok (.iconst 1, 1) := by decide +kernel
theorem dX12_want_41 : decode cX12_want 41 = .ok (.iadd, 1) := by decide +kernel
theorem dX12_want_42 : decode cX12_want 42 = .ok (.putfield 241, 3) := by decide +kernel
theorem dX12_want_45 : decode cX12_want 45 = .ok (.aload_n 0, 1) := by decide +kernel
theorem dX12_want_46 : decode cX12_want 46 = .ok (.getfield 75, 3) := by decide +kernel
theorem dX12_want_49 : decode cX12_want 49 = .ok (.aload_n 0, 1) := by decide +kernel
theorem dX12_want_50 : decode cX12_want 50 = .ok (.getfield 241, 3) := by decide +kernel
theorem dX12_want_53 : decode cX12_want 53 = .ok (.iconst 1, 1) := by decide +kernel
theorem dX12_want_54 : decode cX12_want 54 = .ok (.isub, 1) := by decide +kernel
theorem dX12_want_55 : decode cX12_want 55 = .ok (.laload, 1) := by decide +kernel
theorem dX12_want_56 : decode cX12_want 56 = .ok (.lreturn, 1) := by decide +kernel
theorem dX12_beginRecord_0 : decode cX12_beginRecord 0 = .ok (.aload_n 0, 1) := by decide +kernel
theorem dX12_beginRecord_1 : decode cX12_beginRecord 1 = .ok (.getfield 251, 3) := by decide +kernel
theorem dX12_beginRecord_4 : decode cX12_beginRecord 4 = .ok (.bipush 6, 2) := by decide +kernel
theorem dX12_beginRecord_6 : decode cX12_beginRecord 6 = .ok (.if_icmp .ne 10, 3) := by decide +kernel
theorem dX12_beginRecord_9 : decode cX12_beginRecord 9 = .ok (.aload_n 0, 1) := by decide +kernel
theorem dX12_beginRecord_10 : decode cX12_beginRecord 10 = .ok (.bipush 8, 2) := by decide +kernel
theorem dX12_beginRecord_12 : decode cX12_beginRecord 12 = .ok (.invokevirtual 247, 3) := by decide +kernel
theorem dX12_beginRecord_15 : decode cX12_beginRecord 15 = .ok (.return_, 1) := by decide +kernel
theorem dX12_beginRecord_16 : decode cX12_beginRecord 16 = .ok (.aload_n 0, 1) := by decide +kernel
theorem dX12_beginRecord_17 : decode cX12_beginRecord 17 = .ok (.dup, 1) := by decide +kernel
theorem dX12_beginRecord_18 : decode cX12_beginRecord 18 = .ok (.getfield 251, 3) := by decide +kernel
theorem dX12_beginRecord_21 : decode cX12_beginRecord 21 = .ok (.iconst 1, 1) := by decide +kernel
theorem dX12_beginRecord_22 : decode cX12_beginRecord 22 = .ok (.iadd, 1) := by decide +kernel
theorem dX12_beginRecord_23 : decode cX12_beginRecord 23 = .ok (.putfield 251, 3) := by decide +kernel
theorem dX12_beginRecord_26 : decode cX12_beginRecord 26 = .ok (.aload_n 0, 1) := by decide +kernel
theorem dX12_beginRecord_27 : decode cX12_beginRecord 27 = .ok (.invokevirtual 254, 3) := by decide +kernel
theorem dX12_beginRecord_30 : decode cX12_beginRecord 30 = .ok (.lstore_n 2, 1) := by decide +kernel
theorem dX12_beginRecord_31 : decode cX12_beginRecord 31 = .ok (.aload_n 0, 1) := by decide +kernel
theorem dX12_beginRecord_32 : decode cX12_beginRecord 32 = .ok (.getfield 238, 3) := by decide +kernel
theorem dX12_beginRecord_35 : decode cX12_beginRecord 35 = .ok (.ifCond .ne 15, 3) := by decide +kernel
theorem dX12_beginRecord_38 : decode cX12_beginRecord 38 = .ok (.lload_n 2, 1) := by decide +kernel
theorem dX12_beginRecord_39 : decode cX12_beginRecord 39 = .ok (.invokestatic 133, 3) := by decide +kernel
theorem dX12_beginRecord_42 : decode cX12_beginRecord 42 = .ok (.ifCond .ne 8, 3) := by decide +kernel
theorem dX12_beginRecord_45 : decode cX12_beginRecord 45 = .ok (.aload_n 0, 1) := by decide +kernel
theorem dX12_beginRecord_46 : decode cX12_beginRecord 46 = .ok (.iconst 2, 1) := by decide +kernel
theorem dX12_beginRecord_47 : decode cX12_beginRecord 47 = .ok (.invokevirtual 247, 3) := by decide +kernel
theorem dX12_beginRecord_50 : decode cX12_beginRecord 50 = .ok (.aload_n 0, 1) := by decide +kernel
theorem dX12_beginRecord_51 : decode cX12_beginRecord 51 = .ok (.invokevirtual 254, 3) := by decide +kernel
theorem dX12_beginRecord_54 : decode cX12_beginRecord 54 = .ok (.lstore 4, 2) := by decide +kernel
theorem dX12_beginRecord_56 : decode cX12_beginRecord 56 = .ok (.aload_n 0, 1) := by decide +kernel
theorem dX12_beginRecord_57 : decode cX12_beginRecord 57 = .ok (.getfield 106, 3) := by decide +kernel
theorem dX12_beginRecord_60 : decode cX12_beginRecord 60 = .ok (.aload_n 0, 1) := by decide +kernel
theorem dX12_beginRecord_61 : decode cX12_beginRecord 61 = .ok (.getfield 251, 3) := by decide +kernel
theorem dX12_beginRecord_64 : decode cX12_beginRecord 64 = .ok (.iconst 1, 1) := by decide +kernel
theorem dX12_beginRecord_65 : decode cX12_beginRecord 65 = .ok (.isub, 1) := by decide +kernel
theorem dX12_beginRecord_66 : decode cX12_beginRecord 66 = .ok (.iload_n 1, 1) := by decide +kernel
theorem dX12_beginRecord_67 : decode cX12_beginRecord 67 = .ok (.ifCond .eq 17, 3) := by decide +kernel
theorem dX12_beginRecord_70 : decode cX12_beginRecord 70 = .ok (.iconst 3, 1) := by decide +kernel
theorem dX12_beginRecord_71 : decode cX12_beginRecord 71 = .ok (.lload_n 2, 1) := by decide +kernel
theorem dX12_beginRecord_72 : decode cX12_beginRecord 72 = .ok (.l2i, 1) := by decide +kernel
theorem dX12_beginRecord_73 : decode cX12_beginRecord 73 = .ok (.iconst 2, 1) := by decide +kernel
theorem dX12_beginRecord_74 : decode cX12_beginRecord 74 = .ok (.isub, 1) := by decide +kernel
theorem dX12_beginRecord_75 : decode cX12_beginRecord 75 = .ok (.imul, 1) := by decide +kernel
theorem dX12_beginRecord_76 : decode cX12_beginRecord 76 = .ok (.aload_n 0, 1) := by decide +kernel
theorem dX12_beginRecord_77 : decode cX12_beginRecord 77 = .ok (.getfield 258, 3) := by decide +kernel
theorem dX12_beginRecord_80 : decode cX12_beginRecord 80 = .ok (.iadd, 1) := by decide +kernel
theorem dX12_beginRecord_81 : decode cX12_beginRecord 81 = .ok (.goto 5, 3) := by decide +kernel
theorem dX12_beginRecord_84 : decode cX12_beginRecord 84 = .ok (.bipush (-3), 2) := by decide +kernel
theorem dX12_beginRecord_86 : decode cX12_beginRecord 86 = .ok (.iastore, 1) := by decide +kernel
theorem dX12_beginRecord_87 : decode cX12_beginRecord 87 = .ok (.aload_n 0, 1) := by decide +kernel
theorem dX12_beginRecord_88 : decode cX12_beginRecord 88 = .ok (.getfield 109, 3) := by decide +kernel
theorem dX12_beginRecord_91 : decode cX12_beginRecord 91 = .ok (.aload_n 0, 1) := by decide +kernel
theorem dX12_beginRecord_92 : decode cX12_beginRecord 92 = .ok (.getfield 251, 3) := by decide +kernel
theorem dX12_beginRecord_95 : decode cX12_beginRecord 95 = .ok (.iconst 1, 1) := by decide +kernel
theorem dX12_beginRecord_96 : decode cX12_beginRecord 96 = .ok (.isub, 1) := by decide +kernel
theorem dX12_beginRecord_97 : decode cX12_beginRecord 97 = .ok (.lload 4, 2) := by decide +kernel
theorem dX12_beginRecord_99 : decode cX12_beginRecord 99 = .ok (.lastore, 1) := by decide +kernel
theorem dX12_beginRecord_100 : decode cX12_beginRecord 100 = .ok (.iconst 0, 1) := by decide +kernel
theorem dX12_beginRecord_101 : decode cX12_beginRecord 101 = .ok (.istore 6, 2) := by decide +kernel
theorem dX12_beginRecord_103 : decode cX12_beginRecord 103 = .ok (.iload 6, 2) := by decide +kernel
theorem dX12_beginRecord_105 : decode cX12_beginRecord 105 = .ok (.iconst 5, 1) := by decide +kernel
theorem dX12_beginRecord_106 : decode cX12_beginRecord 106 = .ok (.if_icmp .ge 39, 3) := by decide +kernel
theorem dX12_beginRecord_109 : decode cX12_beginRecord 109 = .ok (.aload_n 0, 1) := by decide +kernel
theorem dX12_beginRecord_110 : decode cX12_beginRecord 110 = .ok (.getfield 82, 3) := by decide +kernel
theorem dX12_beginRecord_113 : decode cX12_beginRecord 113 = .ok (.iconst 5, 1) := by decide +kernel
theorem dX12_beginRecord_114 : decode cX12_beginRecord 114 = .ok (.aload_n 0, 1) := by decide +kernel
theorem dX12_beginRecord_115 : decode cX12_beginRecord 115 = .ok (.getfield 251, 3) := by decide +kernel
theorem dX12_beginRecord_118 : decode cX12_beginRecord 118 = .ok (.imul, 1) := by decide +kernel
theorem dX12_beginRecord_119 : decode cX12_beginRecord 119 = .ok (.iload 6, 2) := by decide +kernel
theorem dX12_beginRecord_121 : decode cX12_beginRecord 121 = .ok (.iadd, 1) := by decide +kernel
theorem dX12_beginRecord_122 : decode cX12_beginRecord 122 = .ok (.lconst 0, 1) := by decide +kernel
theorem dX12_beginRecord_123 : decode cX12_beginRecord 123 = .ok (.lastore, 1) := by decide +kernel
theorem dX12_beginRecord_124 : decode cX12_beginRecord 124 = .ok (.aload_n 0, 1) := by decide +kernel
theorem dX12_beginRecord_125 : decode cX12_beginRecord 125 = .ok (.getfield 85, 3) := by decide +kernel
theorem dX12_beginRecord_128 : decode cX12_beginRecord 128 = .ok (.iconst 5, 1) := by decide +kernel
theorem dX12_beginRecord_129 : decode cX12_beginRecord 129 = .ok (.aload_n 0, 1) := by decide +kernel
theorem dX12_beginRecord_130 : decode cX12_beginRecord 130 = .ok (.getfield 251, 3) := by decide +kernel
theorem dX12_beginRecord_133 : decode cX12_beginRecord 133 = .ok (.imul, 1) := by decide +kernel
theorem dX12_beginRecord_134 : decode cX12_beginRecord 134 = .ok (.iload 6, 2) := by decide +kernel
theorem dX12_beginRecord_136 : decode cX12_beginRecord 136 = .ok (.iadd, 1) := by decide +kernel
theorem dX12_beginRecord_137 : decode cX12_beginRecord 137 = .ok (.iconst (-1), 1) := by decide +kernel
theorem dX12_beginRecord_138 : decode cX12_beginRecord 138 = .ok (.iastore, 1) := by decide +kernel
theorem dX12_beginRecord_139 : decode cX12_beginRecord 139 = .ok (.iinc 6 1, 3) := by decide +kernel
theorem dX12_beginRecord_142 : decode cX12_beginRecord 142 = .ok (.goto (-39), 3) := by decide +kernel
theorem dX12_beginRecord_145 : decode cX12_beginRecord 145 = .ok (.return_, 1) := by decide +kernel
theorem dX12_readRow_0 : decode cX12_readRow 0 = .ok (.aload_n 0, 1) := by decide +kernel
theorem dX12_readRow_1 : decode cX12_readRow 1 = .ok (.invokevirtual 254, 3) := by decide +kernel
theorem dX12_readRow_4 : decode cX12_readRow 4 = .ok (.lstore_n 2, 1) := by decide +kernel
theorem dX12_readRow_5 : decode cX12_readRow 5 = .ok (.aload_n 0, 1) := by decide +kernel
theorem dX12_readRow_6 : decode cX12_readRow 6 = .ok (.getfield 238, 3) := by decide +kernel
theorem dX12_readRow_9 : decode cX12_readRow 9 = .ok (.ifCond .ne 17, 3) := by decide +kernel
theorem dX12_readRow_12 : decode cX12_readRow 12 = .ok (.lload_n 2, 1) := by decide +kernel
theorem dX12_readRow_13 : decode cX12_readRow 13 = .ok (.ldc2_w 227, 3) := by decide +kernel
theorem dX12_readRow_16 : decode cX12_readRow 16 = .ok (.lcmp, 1) := by decide +kernel
theorem dX12_readRow_17 : decode cX12_readRow 17 = .ok (.ifCond .ge 9, 3) := by decide +kernel
theorem dX12_readRow_20 : decode cX12_readRow 20 = .ok (.aload_n 0, 1) := by decide +kernel
theorem dX12_readRow_21 : decode cX12_readRow 21 = .ok (.bipush 6, 2) := by decide +kernel
theorem dX12_readRow_23 : decode cX12_readRow 23 = .ok (.invokevirtual 247, 3) := by decide +kernel
theorem dX12_readRow_26 : decode cX12_readRow 26 = .ok (.aload_n 0, 1) := by decide +kernel
theorem dX12_readRow_27 : decode cX12_readRow 27 = .ok (.getfield 238, 3) := by decide +kernel
theorem dX12_readRow_30 : decode cX12_readRow 30 = .ok (.ifCond .ne 16, 3) := by decide +kernel
theorem dX12_readRow_33 : decode cX12_readRow 33 = .ok (.lload_n 2, 1) := by decide +kernel
theorem dX12_readRow_34 : decode cX12_readRow 34 = .ok (.ldc2_w 154, 3) := by decide +kernel
theorem dX12_readRow_37 : decode cX12_readRow 37 = .ok (.lcmp, 1) := by decide +kernel
theorem dX12_readRow_38 : decode cX12_readRow 38 = .ok (.ifCond .le 8, 3) := by decide +kernel
theorem dX12_readRow_41 : decode cX12_readRow 41 = .ok (.aload_n 0, 1) := by decide +kernel
theorem dX12_readRow_42 : decode cX12_readRow 42 = .ok (.iconst 2, 1) := by decide +kernel
theorem dX12_readRow_43 : decode cX12_readRow 43 = .ok (.invokevirtual 247, 3) := by decide +kernel
theorem dX12_readRow_46 : decode cX12_readRow 46 = .ok (.aload_n 0, 1) := by decide +kernel
theorem dX12_readRow_47 : decode cX12_readRow 47 = .ok (.getfield 238, 3) := by decide +kernel
theorem dX12_readRow_50 : decode cX12_readRow 50 = .ok (.ifCond .ne 22, 3) := by decide +kernel
theorem dX12_readRow_53 : decode cX12_readRow 53 = .ok (.lload_n 2, 1) := by decide +kernel
theorem dX12_readRow_54 : decode cX12_readRow 54 = .ok (.lconst 0, 1) := by decide +kernel
theorem dX12_readRow_55 : decode cX12_readRow 55 = .ok (.lcmp, 1) := by decide +kernel
theorem dX12_readRow_56 : decode cX12_readRow 56 = .ok (.ifCond .lt 16, 3) := by decide +kernel
theorem dX12_readRow_59 : decode cX12_readRow 59 = .ok (.iload_n 1, 1) := by decide +kernel
theorem dX12_readRow_60 : decode cX12_readRow 60 = .ok (.ifCond .eq 12, 3) := by decide +kernel
theorem dX12_readRow_63 : decode cX12_readRow 63 = .ok (.aload_n 0, 1) := by decide +kernel
theorem dX12_readRow_64 : decode cX12_readRow 64 = .ok (.lload_n 2, 1) := by decide +kernel
theorem dX12_readRow_65 : decode cX12_readRow 65 = .ok (.l2i, 1) := by decide +kernel
theorem dX12_readRow_66 : decode cX12_readRow 66 = .ok (.invokevirtual 156, 3) := by decide +kernel
theorem dX12_readRow_69 : decode cX12_readRow 69 = .ok (.goto 4, 3) := by decide +kernel
theorem dX12_readRow_72 : decode cX12_readRow 72 = .ok (.iconst (-1), 1) := by decide +kernel
theorem dX12_readRow_73 : decode cX12_readRow 73 = .ok (.istore 4, 2) := by decide +kernel
theorem dX12_readRow_75 : decode cX12_readRow 75 = .ok (.iconst 0, 1) := by decide +kernel
theorem dX12_readRow_76 : decode cX12_readRow 76 = .ok (.istore 5, 2) := by decide +kernel
theorem dX12_readRow_78 : decode cX12_readRow 78 = .ok (.iload 5, 2) := by decide +kernel
theorem dX12_readRow_80 : decode cX12_readRow 80 = .ok (.i2l, 1) := by decide +kernel
theorem dX12_readRow_81 : decode cX12_readRow 81 = .ok (.lload_n 2, 1) := by decide +kernel
theorem dX12_readRow_82 : decode cX12_readRow 82 = .ok (.lcmp, 1) := by decide +kernel
theorem dX12_readRow_83 : decode cX12_readRow 83 = .ok (.ifCond .ge 47, 3) := by decide +kernel
theorem dX12_readRow_86 : decode cX12_readRow 86 = .ok (.aload_n 0, 1) := by decide +kernel
theorem dX12_readRow_87 : decode cX12_readRow 87 = .ok (.getfield 238, 3) := by decide +kernel
theorem dX12_readRow_90 : decode cX12_readRow 90 = .ok (.ifCond .ne 40, 3) := by decide +kernel
theorem dX12_readRow_93 : decode cX12_readRow 93 = .ok (.aload_n 0, 1) := by decide +kernel
theorem dX12_readRow_94 : decode cX12_readRow 94 = .ok (.invokevirtual 254, 3) := by decide +kernel
theorem dX12_readRow_97 : decode cX12_readRow 97 = .ok (.l2i, 1) := by decide +kernel
theorem dX12_readRow_98 : decode cX12_readRow 98 = .ok (.istore 6, 2) := by decide +kernel
theorem dX12_readRow_100 : decode cX12_readRow 100 = .ok (.iload 4, 2) := by decide +kernel
theorem dX12_readRow_102 : decode cX12_readRow 102 = .ok (.iconst (-1), 1) := by decide +kernel
theorem dX12_readRow_103 : decode cX12_readRow 103 = .ok (.if_icmp .eq 21, 3) := by decide +kernel
theorem dX12_readRow_106 : decode cX12_readRow 106 = .ok (.aload_n 0, 1) := by decide +kernel
theorem dX12_readRow_107 : decode cX12_readRow 107 = .ok (.getfield 49, 3) := by decide +kernel
theorem dX12_readRow_110 : decode cX12_readRow 110 = .ok (.bipush 8, 2) := by decide +kernel
theorem dX12_readRow_112 : decode cX12_readRow 112 = .ok (.iload 4, 2) := by decide +kernel
theorem dX12_readRow_114 : decode cX12_readRow 114 = .ok (.bipush 100, 2) := by decide +kernel
theorem dX12_readRow_116 : decode cX12_readRow 116 = .ok (.isub, 1) := by decide +kernel
theorem dX12_readRow_117 : decode cX12_readRow 117 = .ok (.imul, 1) := by decide +kernel
theorem dX12_readRow_118 : decode cX12_readRow 118 = .ok (.iload 5, 2) := by decide +kernel
theorem dX12_readRow_120 : decode cX12_readRow 120 = .ok (.iadd, 1) := by decide +kernel
theorem dX12_readRow_121 : decode cX12_readRow 121 = .ok (.iload 6, 2) := by decide +kernel
theorem dX12_readRow_123 : decode cX12_readRow 123 = .ok (.iastore, 1) := by decide +kernel
theorem dX12_readRow_124 : decode cX12_readRow 124 = .ok (.iinc 5 1, 3) := by decide +kernel
theorem dX12_readRow_127 : decode cX12_readRow 127 = .ok (.goto (-49), 3) := by decide +kernel
theorem dX12_readRow_130 : decode cX12_readRow 130 = .ok (.iload 4, 2) := by decide +kernel
theorem dX12_readRow_132 : decode cX12_readRow 132 = .ok (.ireturn, 1) := by decide +kernel
theorem dX12_readPart_0 : decode cX12_readPart 0 = .ok (.aload_n 0, 1) := by decide +kernel
theorem dX12_readPart_1 : decode cX12_readPart 1 = .ok (.getfield 106, 3) := by decide +kernel
theorem dX12_readPart_4 : decode cX12_readPart 4 = .ok (.aload_n 0, 1) := by decide +kernel
theorem dX12_readPart_5 : decode cX12_readPart 5 = .ok (.getfield 251, 3) := by decide +kernel
theorem dX12_readPart_8 : decode cX12_readPart 8 = .ok (.iconst 1, 1) := by decide +kernel
theorem dX12_readPart_9 : decode cX12_readPart 9 = .ok (.isub, 1) := by decide +kernel
theorem dX12_readPart_10 : decode cX12_readPart 10 = .ok (.iaload, 1) := by decide +kernel
theorem dX12_readPart_11 : decode cX12_readPart 11 = .ok (.istore_n 1, 1) := by decide +kernel
theorem dX12_readPart_12 : decode cX12_readPart 12 = .ok (.aload_n 0, 1) := by decide +kernel
theorem dX12_readPart_13 : decode cX12_readPart 13 = .ok (.invokevirtual 254, 3) := by decide +kernel
theorem dX12_readPart_16 : decode cX12_readPart 16 = .ok (.lstore_n 2, 1) := by decide +kernel
theorem dX12_readPart_17 : decode cX12_readPart 17 = .ok (.aload_n 0, 1) := by decide +kernel
theorem dX12_readPart_18 : decode cX12_readPart 18 = .ok (.invokevirtual 254, 3) := by decide +kernel
theorem dX12_readPart_21 : decode cX12_readPart 21 = .ok (.lstore 4, 2) := by decide +kernel
theorem dX12_readPart_23 : decode cX12_readPart 23 = .ok (.aload_n 0, 1) := by decide +kernel
theorem dX12_readPart_24 : decode cX12_readPart 24 = .ok (.getfield 238, 3) := by decide +kernel
theorem dX12_readPart_27 : decode cX12_readPart 27 = .ok (.ifCond .ne 20, 3) := by decide +kernel
theorem dX12_readPart_30 : decode cX12_readPart 30 = .ok (.lload 4, 2) := by decide +kernel
theorem dX12_readPart_32 : decode cX12_readPart 32 = .ok (.lconst 0, 1) := by decide +kernel
theorem dX12_readPart_33 : decode cX12_readPart 33 = .ok (.ldc2_w 137, 3) := by decide +kernel
theorem dX12_readPart_36 : decode cX12_readPart 36 = .ok (.invokestatic 117, 3) := by decide +kernel
theorem dX12_readPart_39 : decode cX12_readPart 39 = .ok (.ifCond .ne 8, 3) := by decide +kernel
theorem dX12_readPart_42 : decode cX12_readPart 42 = .ok (.aload_n 0, 1) := by decide +kernel
theorem dX12_readPart_43 : decode cX12_readPart 43 = .ok (.iconst 2, 1) := by decide +kernel
theorem dX12_readPart_44 : decode cX12_readPart 44 = .ok (.invokevirtual 247, 3) := by decide +kernel
theorem dX12_readPart_47 : decode cX12_readPart 47 = .ok (.aload_n 0, 1) := by decide +kernel
theorem dX12_readPart_48 : decode cX12_readPart 48 = .ok (.getfield 238, 3) := by decide +kernel
theorem dX12_readPart_51 : decode cX12_readPart 51 = .ok (.ifCond .eq 4, 3) := by decide +kernel
theorem dX12_readPart_54 : decode cX12_readPart 54 = .ok (.return_, 1) := by decide +kernel
theorem dX12_readPart_55 : decode cX12_readPart 55 = .ok (.iload_n 1, 1) := by decide +kernel
theorem dX12_readPart_56 : decode cX12_readPart 56 = .ok (.ifCond .ge 8, 3) := by decide +kernel
theorem dX12_readPart_59 : decode cX12_readPart 59 = .ok (.bipush (-3), 2) := by decide +kernel
theorem dX12_readPart_61 : decode cX12_readPart 61 = .ok (.goto 9, 3) := by decide +kernel
theorem dX12_readPart_64 : decode cX12_readPart 64 = .ok (.aload_n 0, 1) := by decide +kernel
theorem dX12_readPart_65 : decode cX12_readPart 65 = .ok (.iload_n 1, 1) := by decide +kernel
theorem dX12_readPart_66 : decode cX12_readPart 66 = .ok (.lload_n 2, 1) := by decide +kernel
theorem dX12_readPart_67 : decode cX12_readPart 67 = .ok (.invokevirtual 139, 3) := by decide +kernel
theorem dX12_readPart_70 : decode cX12_readPart 70 = .ok (.istore 6, 2) := by decide +kernel
theorem dX12_readPart_72 : decode cX12_readPart 72 = .ok (.iload 6, 2) := by decide +kernel
theorem dX12_readPart_74 : decode cX12_readPart 74 = .ok (.ifCond .lt 7, 3) := by decide +kernel
theorem dX12_readPart_77 : decode cX12_readPart 77 = .ok (.iconst 1, 1) := by decide +kernel
theorem dX12_readPart_78 : decode cX12_readPart 78 = .ok (.goto 4, 3) := by decide +kernel
theorem dX12_readPart_81 : decode cX12_readPart 81 = .ok (.iconst 0, 1) := by decide +kernel
theorem dX12_readPart_82 : decode cX12_readPart 82 = .ok (.istore 7, 2) := by decide +kernel
theorem dX12_readPart_84 : decode cX12_readPart 84 = .ok (.iload 7, 2) := by decide +kernel
theorem dX12_readPart_86 : decode cX12_readPart 86 = .ok (.ifCond .eq 27, 3) := by decide +kernel
theorem dX12_readPart_89 : decode cX12_readPart 89 = .ok (.aload_n 0, 1) := by decide +kernel
theorem dX12_readPart_90 : decode cX12_readPart 90 = .ok (.getfield 26, 3) := by decide +kernel
theorem dX12_readPart_93 : decode cX12_readPart 93 = .ok (.iconst 5, 1) := by decide +kernel
theorem dX12_readPart_94 : decode cX12_readPart 94 = .ok (.iload_n 1, 1) := by decide +kernel
theorem dX12_readPart_95 : decode cX12_readPart 95 = .ok (.imul, 1) := by decide +kernel
theorem dX12_readPart_96 : decode cX12_readPart 96 = .ok (.iload 6, 2) := by decide +kernel
theorem dX12_readPart_98 : decode cX12_readPart 98 = .ok (.iadd, 1) := by decide +kernel
theorem dX12_readPart_99 : decode cX12_readPart 99 = .ok (.iaload, 1) := by decide +kernel
theorem dX12_readPart_100 : decode cX12_readPart 100 = .ok (.i2l, 1) := by decide +kernel
theorem dX12_readPart_101 : decode cX12_readPart 101 = .ok (.lload 4, 2) := by decide +kernel
theorem dX12_readPart_103 : decode cX12_readPart 103 = .ok (.lcmp, 1) := by decide +kernel
theorem dX12_readPart_104 : decode cX12_readPart 104 = .ok (.ifCond .eq 9, 3) := by decide +kernel
theorem dX12_readPart_107 : decode cX12_readPart 107 = .ok (.aload_n 0, 1) := by decide +kernel
theorem dX12_readPart_108 : decode cX12_readPart 108 = .ok (.iconst 1, 1) := by decide +kernel
theorem dX12_readPart_109 : decode cX12_readPart 109 = .ok (.invokevirtual 247, 3) := by decide +kernel
theorem dX12_readPart_112 : decode cX12_readPart 112 = .ok (.return_, 1) := by decide +kernel
theorem dX12_readPart_113 : decode cX12_readPart 113 = .ok (.iconst 5, 1) := by decide +kernel
theorem dX12_readPart_114 : decode cX12_readPart 114 = .ok (.aload_n 0, 1) := by decide +kernel
theorem dX12_readPart_115 : decode cX12_readPart 115 = .ok (.getfield 251, 3) := by decide +kernel
theorem dX12_readPart_118 : decode cX12_readPart 118 = .ok (.imul, 1) := by decide +kernel
theorem dX12_readPart_119 : decode cX12_readPart 119 = .ok (.iload 7, 2) := by decide +kernel
theorem dX12_readPart_121 : decode cX12_readPart 121 = .ok (.ifCond .eq 8, 3) := by decide +kernel
theorem dX12_readPart_124 : decode cX12_readPart 124 = .ok (.iload 6, 2) := by decide +kernel
theorem dX12_readPart_126 : decode cX12_readPart 126 = .ok (.goto 4, 3) := by decide +kernel
theorem dX12_readPart_129 : decode cX12_readPart 129 = .ok (.iconst 0, 1) := by decide +kernel
theorem dX12_readPart_130 : decode cX12_readPart 130 = .ok (.iadd, 1) := by decide +kernel
theorem dX12_readPart_131 : decode cX12_readPart 131 = .ok (.istore 8, 2) := by decide +kernel
theorem dX12_readPart_133 : decode cX12_readPart 133 = .ok (.lload 4, 2) := by decide +kernel
theorem dX12_readPart_135 : decode cX12_readPart 135 = .ok (.ldc2_w 121, 3) := by decide +kernel
theorem dX12_readPart_138 : decode cX12_readPart 138 = .ok (.lcmp, 1) := by decide +kernel
theorem dX12_readPart_139 : decode cX12_readPart 139 = .ok (.ifCond .ge 36, 3) := by decide +kernel
theorem dX12_readPart_142 : decode cX12_readPart 142 = .ok (.aload_n 0, 1) := by decide +kernel
theorem dX12_readPart_143 : decode cX12_readPart 143 = .ok (.invokevirtual 254, 3) := by decide +kernel
theorem dX12_readPart_146 : decode cX12_readPart 146 = .ok (.lstore 9, 2) := by decide +kernel
theorem dX12_readPart_148 : decode cX12_readPart 148 = .ok (.aload_n 0, 1) := by decide +kernel
theorem dX12_readPart_149 : decode cX12_readPart 149 = .ok (.getfield 82, 3) := by decide +kernel
theorem dX12_readPart_152 : decode cX12_readPart 152 = .ok (.iload 8, 2) := by decide +kernel
theorem dX12_readPart_154 : decode cX12_readPart 154 = .ok (.iload 7, 2) := by decide +kernel
theorem dX12_readPart_156 : decode cX12_readPart 156 = .ok (.ifCond .eq 8, 3) := by decide +kernel
theorem dX12_readPart_159 : decode cX12_readPart 159 = .ok (.lload 9, 2) := by decide +kernel
theorem dX12_readPart_161 : decode cX12_readPart 161 = .ok (.goto 10, 3) := by decide +kernel
theorem dX12_readPart_164 : decode cX12_readPart 164 = .ok (.aload_n 0, 1) := by decide +kernel
theorem dX12_readPart_165 : decode cX12_readPart 165 = .ok (.getfield 82, 3) := by decide +kernel
theorem dX12_readPart_168 : decode cX12_readPart 168 = .ok (.iload 8, 2) := by decide +kernel
theorem dX12_readPart_170 : decode cX12_readPart 170 = .ok (.laload, 1) := by decide +kernel
theorem dX12_readPart_171 : decode cX12_readPart 171 = .ok (.lastore, 1) := by decide +kernel
theorem dX12_readPart_172 : decode cX12_readPart 172 = .ok (.goto 214, 3) := by decide +kernel
theorem dX12_readPart_175 : decode cX12_readPart 175 = .ok (.lload 4, 2) := by decide +kernel
theorem dX12_readPart_177 : decode cX12_readPart 177 = .ok (.ldc2_w 121, 3) := by decide +kernel
theorem dX12_readPart_180 : decode cX12_readPart 180 = .ok (.lcmp, 1) := by decide +kernel
theorem dX12_readPart_181 : decode cX12_readPart 181 = .ok (.ifCond .ne 82, 3) := by decide +kernel
theorem dX12_readPart_184 : decode cX12_readPart 184 = .ok (.aload_n 0, 1) := by decide +kernel
theorem dX12_readPart_185 : decode cX12_readPart 185 = .ok (.invokevirtual 254, 3) := by decide +kernel
theorem dX12_readPart_188 : decode cX12_readPart 188 = .ok (.lstore 9, 2) := by decide +kernel
theorem dX12_readPart_190 : decode cX12_readPart 190 = .ok (.iload 7, 2) := by decide +kernel
theorem dX12_readPart_192 : decode cX12_readPart 192 = .ok (.ifCond .eq 68, 3) := by decide +kernel
theorem dX12_readPart_195 : decode cX12_readPart 195 = .ok (.aload_n 0, 1) := by decide +kernel
theorem dX12_readPart_196 : decode cX12_readPart 196 = .ok (.getfield 238, 3) := by decide +kernel
theorem dX12_readPart_199 : decode cX12_readPart 199 = .ok (.ifCond .ne 61, 3) := by decide +kernel
theorem dX12_readPart_202 : decode cX12_readPart 202 = .ok (.lload 9, 2) := by decide +kernel
theorem dX12_readPart_204 : decode cX12_readPart 204 = .ok (.ldc2_w 227, 3) := by decide +kernel
theorem dX12_readPart_207 : decode cX12_readPart 207 = .ok (.lcmp, 1) := by decide +kernel
theorem dX12_readPart_208 : decode cX12_readPart 208 = .ok (.ifCond .ne 7, 3) := by decide +kernel
theorem dX12_readPart_211 : decode cX12_readPart 211 = .ok (.iconst (-1), 1) := by decide +kernel
theorem dX12_readPart_212 : decode cX12_readPart 212 = .ok (.goto 24, 3) := by decide +kernel
theorem dX12_readPart_215 : decode cX12_readPart 215 = .ok (.aload_n 0, 1) := by decide +kernel
theorem dX12_readPart_216 : decode cX12_readPart 216 = .ok (.aload_n 0, 1) := by decide +kernel
theorem dX12_readPart_217 : decode cX12_readPart 217 = .ok (.getfield 29, 3) := by decide +kernel
theorem dX12_readPart_220 : decode cX12_readPart 220 = .ok (.iconst 5, 1) := by decide +kernel
theorem dX12_readPart_221 : decode cX12_readPart 221 = .ok (.iload_n 1, 1) := by decide +kernel
theorem dX12_readPart_222 : decode cX12_readPart 222 = .ok (.imul, 1) := by decide +kernel
theorem dX12_readPart_223 : decode cX12_readPart 223 = .ok (.iload 6, 2) := by decide +kernel
theorem dX12_readPart_225 : decode cX12_readPart 225 = .ok (.iadd, 1) := by decide +kernel
theorem dX12_readPart_226 : decode cX12_readPart 226 = .ok (.iaload, 1) := by decide +kernel
theorem dX12_readPart_227 : decode cX12_readPart 227 = .ok (.aload_n 0, 1) := by decide +kernel
theorem dX12_readPart_228 : decode cX12_readPart 228 = .ok (.getfield 258, 3) := by decide +kernel
theorem dX12_readPart_231 : decode cX12_readPart 231 = .ok (.lload 9, 2) := by decide +kernel
theorem dX12_readPart_233 : decode cX12_readPart 233 = .ok (.invokevirtual 129, 3) := by decide +kernel
theorem dX12_readPart_236 : decode cX12_readPart 236 = .ok (.istore 11, 2) := by decide +kernel
theorem dX12_readPart_238 : decode cX12_readPart 238 = .ok (.iload 11, 2) := by decide +kernel
theorem dX12_readPart_240 : decode cX12_readPart 240 = .ok (.bipush (-3), 2) := by decide +kernel
theorem dX12_readPart_242 : decode cX12_readPart 242 = .ok (.if_icmp .ne 9, 3) := by decide +kernel
theorem dX12_readPart_245 : decode cX12_readPart 245 = .ok (.aload_n 0, 1) := by decide +kernel
theorem dX12_readPart_246 : decode cX12_readPart 246 = .ok (.bipush 7, 2) := by decide +kernel
theorem dX12_readPart_248 : decode cX12_readPart 248 = .ok (.invokevirtual 247, 3) := by decide +kernel
theorem dX12_readPart_251 : decode cX12_readPart 251 = .ok (.aload_n 0, 1) := by decide +kernel
theorem dX12_readPart_252 : decode cX12_readPart 252 = .ok (.getfield 85, 3) := by decide +kernel
theorem dX12_readPart_255 : decode cX12_readPart 255 = .ok (.iload 8, 2) := by decide +kernel
theorem dX12_readPart_257 : decode cX12_readPart 257 = .ok (.iload 11, 2) := by decide +kernel
theorem dX12_readPart_259 : decode cX12_readPart 259 = .ok (.iastore, 1) := by decide +kernel
theorem dX12_readPart_260 : decode cX12_readPart 260 = .ok (.goto 126, 3) := by decide +kernel
theorem dX12_readPart_263 : decode cX12_readPart 263 = .ok (.lload 4, 2) := by decide +kernel
theorem dX12_readPart_265 : decode cX12_readPart 265 = .ok (.ldc2_w 137, 3) := by decide +kernel
theorem dX12_readPart_268 : decode cX12_readPart 268 = .ok (.lcmp, 1) := by decide +kernel
theorem dX12_readPart_269 : decode cX12_readPart 269 = .ok (.ifCond .ne 38, 3) := by decide +kernel
theorem dX12_readPart_272 : decode cX12_readPart 272 = .ok (.aload_n 0, 1) := by decide +kernel
theorem dX12_readPart_273 : decode cX12_readPart 273 = .ok (.iload 7, 2) := by decide +kernel
theorem dX12_readPart_275 : decode cX12_readPart 275 = .ok (.invokevirtual 261, 3) := by decide +kernel
theorem dX12_readPart_278 : decode cX12_readPart 278 = .ok (.istore 9, 2) := by decide +kernel
theorem dX12_readPart_280 : decode cX12_readPart 280 = .ok (.aload_n 0, 1) := by decide +kernel
theorem dX12_readPart_281 : decode cX12_readPart 281 = .ok (.getfield 85, 3) := by decide +kernel
theorem dX12_readPart_284 : decode cX12_readPart 284 = .ok (.iload 8, 2) := by decide +kernel
theorem dX12_readPart_286 : decode cX12_readPart 286 = .ok (.iload 7, 2) := by decide +kernel
theorem dX12_readPart_288 : decode cX12_readPart 288 = .ok (.ifCond .eq 8, 3) := by decide +kernel
theorem dX12_readPart_291 : decode cX12_readPart 291 = .ok (.iload 9, 2) := by decide +kernel
theorem dX12_readPart_293 : decode cX12_readPart 293 = .ok (.goto 10, 3) := by decide +kernel
theorem dX12_readPart_296 : decode cX12_readPart 296 = .ok (.aload_n 0, 1) := by decide +kernel
theorem dX12_readPart_297 : decode cX12_readPart 297 = .ok (.getfield 85, 3) := by decide +kernel
theorem dX12_readPart_300 : decode cX12_readPart 300 = .ok (.iload 8, 2) := by decide +kernel
theorem dX12_readPart_302 : decode cX12_readPart 302 = .ok (.iaload, 1) := by decide +kernel
theorem dX12_readPart_303 : decode cX12_readPart 303 = .ok (.iastore, 1) := by decide +kernel
theorem dX12_readPart_304 : decode cX12_readPart 304 = .ok (.goto 82, 3) := by decide +kernel
theorem dX12_readPart_307 : decode cX12_readPart 307 = .ok (.aload_n 0, 1) := by decide +kernel
theorem dX12_readPart_308 : decode cX12_readPart 308 = .ok (.invokevirtual 254, 3) := by decide +kernel
theorem dX12_readPart_311 : decode cX12_readPart 311 = .ok (.lstore 9, 2) := by decide +kernel
theorem dX12_readPart_313 : decode cX12_readPart 313 = .ok (.aload_n 0, 1) := by decide +kernel
theorem dX12_readPart_314 : decode cX12_readPart 314 = .ok (.getfield 85, 3) := by decide +kernel
theorem dX12_readPart_317 : decode cX12_readPart 317 = .ok (.iload 8, 2) := by decide +kernel
theorem dX12_readPart_319 : decode cX12_readPart 319 = .ok (.iload 7, 2) := by decide +kernel
theorem dX12_readPart_321 : decode cX12_readPart 321 = .ok (.ifCond .eq 14, 3) := by decide +kernel
theorem dX12_readPart_324 : decode cX12_readPart 324 = .ok (.lload 9, 2) := by decide +kernel
theorem dX12_readPart_326 : decode cX12_readPart 326 = .ok (.lconst 0, 1) := by decide +kernel
theorem dX12_readPart_327 : decode cX12_readPart 327 = .ok (.lcmp, 1) := by decide +kernel
theorem dX12_readPart_328 : decode cX12_readPart 328 = .ok (.ifCond .ne 7, 3) := by decide +kernel
theorem dX12_readPart_331 : decode cX12_readPart 331 = .ok (.iconst (-1), 1) := by decide +kernel
theorem dX12_readPart_332 : decode cX12_readPart 332 = .ok (.goto 10, 3) := by decide +kernel
theorem dX12_readPart_335 : decode cX12_readPart 335 = .ok (.aload_n 0, 1) := by decide +kernel
theorem dX12_readPart_336 : decode cX12_readPart 336 = .ok (.getfield 85, 3) := by decide +kernel
theorem dX12_readPart_339 : decode cX12_readPart 339 = .ok (.iload 8, 2) := by decide +kernel
theorem dX12_readPart_341 : decode cX12_readPart 341 = .ok (.iaload, 1) := by decide +kernel
theorem dX12_readPart_342 : decode cX12_readPart 342 = .ok (.iastore, 1) := by decide +kernel
theorem dX12_readPart_343 : decode cX12_readPart 343 = .ok (.aload_n 0, 1) := by decide +kernel
theorem dX12_readPart_344 : decode cX12_readPart 344 = .ok (.getfield 238, 3) := by decide +kernel
theorem dX12_readPart_347 : decode cX12_readPart 347 = .ok (.ifCond .ne 39, 3) := by decide +kernel
theorem dX12_readPart_350 : decode cX12_readPart 350 = .ok (.lload 9, 2) := by decide +kernel
theorem dX12_readPart_352 : decode cX12_readPart 352 = .ok (.lconst 0, 1) := by decide +kernel
theorem dX12_readPart_353 : decode cX12_readPart 353 = .ok (.lcmp, 1) := by decide +kernel
theorem dX12_readPart_354 : decode cX12_readPart 354 = .ok (.ifCond .eq 32, 3) := by decide +kernel
theorem dX12_readPart_357 : decode cX12_readPart 357 = .ok (.aload_n 0, 1) := by decide +kernel
theorem dX12_readPart_358 : decode cX12_readPart 358 = .ok (.getfield 112, 3) := by decide +kernel
theorem dX12_readPart_361 : decode cX12_readPart 361 = .ok (.aload_n 0, 1) := by decide +kernel
theorem dX12_readPart_362 : decode cX12_readPart 362 = .ok (.getfield 251, 3) := by decide +kernel
theorem dX12_readPart_365 : decode cX12_readPart 365 = .ok (.iconst 1, 1) := by decide +kernel
theorem dX12_readPart_366 : decode cX12_readPart 366 = .ok (.isub, 1) := by decide +kernel
theorem dX12_readPart_367 : decode cX12_readPart 367 = .ok (.iload 7, 2) := by decide +kernel
theorem dX12_readPart_369 : decode cX12_readPart 369 = .ok (.ifCond .eq 8, 3) := by decide +kernel
theorem dX12_readPart_372 : decode cX12_readPart 372 = .ok (.iload 6, 2) := by decide +kernel
theorem dX12_readPart_374 : decode cX12_readPart 374 = .ok (.goto 5, 3) := by decide +kernel
theorem dX12_readPart_377 : decode cX12_readPart 377 = .ok (.bipush (-3), 2) := by decide +kernel
theorem dX12_readPart_379 : decode cX12_readPart 379 = .ok (.iastore, 1) := by decide +kernel
theorem dX12_readPart_380 : decode cX12_readPart 380 = .ok (.aload_n 0, 1) := by decide +kernel
theorem dX12_readPart_381 : decode cX12_readPart 381 = .ok (.iload 7, 2) := by decide +kernel
theorem dX12_readPart_383 : decode cX12_readPart 383 = .ok (.invokevirtual 265, 3) := by decide +kernel
theorem dX12_readPart_386 : decode cX12_readPart 386 = .ok (.return_, 1) := by decide +kernel
theorem dX12_endRecord_0 : decode cX12_endRecord 0 = .ok (.iconst (-1), 1) := by decide +kernel
theorem dX12_endRecord_1 : decode cX12_endRecord 1 = .ok (.istore_n 1, 1) := by decide +kernel
theorem dX12_endRecord_2 : decode cX12_endRecord 2 = .ok (.aload_n 0, 1) := by decide +kernel
theorem dX12_endRecord_3 : decode cX12_endRecord 3 = .ok (.getfield 106, 3) := by decide +kernel
theorem dX12_endRecord_6 : decode cX12_endRecord 6 = .ok (.aload_n 0, 1) := by decide +kernel
theorem dX12_endRecord_7 : decode cX12_endRecord 7 = .ok (.getfield 251, 3) := by decide +kernel
theorem dX12_endRecord_10 : decode cX12_endRecord 10 = .ok (.iconst 1, 1) := by decide +kernel
theorem dX12_endRecord_11 : decode cX12_endRecord 11 = .ok (.isub, 1) := by decide +kernel
theorem dX12_endRecord_12 : decode cX12_endRecord 12 = .ok (.iaload, 1) := by decide +kernel
theorem dX12_endRecord_13 : decode cX12_endRecord 13 = .ok (.ifCond .lt 39, 3) := by decide +kernel
theorem dX12_endRecord_16 : decode cX12_endRecord 16 = .ok (.aload_n 0, 1) := by decide +kernel
theorem dX12_endRecord_17 : decode cX12_endRecord 17 = .ok (.aload_n 0, 1) := by decide +kernel
theorem dX12_endRecord_18 : decode cX12_endRecord 18 = .ok (.getfield 106, 3) := by decide +kernel
theorem dX12_endRecord_21 : decode cX12_endRecord 21 = .ok (.aload_n 0, 1) := by decide +kernel
theorem dX12_endRecord_22 : decode cX12_endRecord 22 = .ok (.getfield 251, 3) := by decide +kernel
theorem dX12_endRecord_25 : decode cX12_endRecord 25 = .ok (.iconst 1, 1) := by decide +kernel
theorem dX12_endRecord_26 : decode cX12_endRecord 26 = .ok (.isub, 1) := by decide +kernel
theorem dX12_endRecord_27 : decode cX12_endRecord 27 = .ok (.iaload, 1) := by decide +kernel
theorem dX12_endRecord_28 : decode cX12_endRecord 28 = .ok (.iconst 5, 1) := by decide +kernel
theorem dX12_endRecord_29 : decode cX12_endRecord 29 = .ok (.aload_n 0, 1) := by decide +kernel
theorem dX12_endRecord_30 : decode cX12_endRecord 30 = .ok (.getfield 251, 3) := by decide +kernel
theorem dX12_endRecord_33 : decode cX12_endRecord 33 = .ok (.imul, 1) := by decide +kernel
theorem dX12_endRecord_34 : decode cX12_endRecord 34 = .ok (.invokevirtual 183, 3) := by decide +kernel
theorem dX12_endRecord_37 : decode cX12_endRecord 37 = .ok (.istore_n 1, 1) := by decide +kernel
theorem dX12_endRecord_38 : decode cX12_endRecord 38 = .ok (.iload_n 1, 1) := by decide +kernel
theorem dX12_endRecord_39 : decode cX12_endRecord 39 = .ok (.ifCond .ge 13, 3) := by decide +kernel
theorem dX12_endRecord_42 : decode cX12_endRecord 42 = .ok (.aload_n 0, 1) := by decide +kernel
theorem dX12_endRecord_43 : decode cX12_endRecord 43 = .ok (.bipush (-10), 2) := by decide +kernel
theorem dX12_endRecord_45 : decode cX12_endRecord 45 = .ok (.iload_n 1, 1) := by decide +kernel
theorem dX12_endRecord_46 : decode cX12_endRecord 46 = .ok (.isub, 1) := by decide +kernel
theorem dX12_endRecord_47 : decode cX12_endRecord 47 = .ok (.invokevirtual 247, 3) := by decide +kernel
theorem dX12_endRecord_50 : decode cX12_endRecord 50 = .ok (.iconst (-1), 1) := by decide +kernel
theorem dX12_endRecord_51 : decode cX12_endRecord 51 = .ok (.ireturn, 1) := by decide +kernel
theorem dX12_endRecord_52 : decode cX12_endRecord 52 = .ok (.aload_n 0, 1) := by decide +kernel
theorem dX12_endRecord_53 : decode cX12_endRecord 53 = .ok (.dup, 1) := by decide +kernel
theorem dX12_endRecord_54 : decode cX12_endRecord 54 = .ok (.getfield 251, 3) := by decide +kernel
theorem dX12_endRecord_57 : decode cX12_endRecord 57 = .ok (.iconst 1, 1) := by decide +kernel
theorem dX12_endRecord_58 : decode cX12_endRecord 58 = .ok (.isub, 1) := by decide +kernel
theorem dX12_endRecord_59 : decode cX12_endRecord 59 = .ok (.putfield 251, 3) := by decide +kernel
theorem dX12_endRecord_62 : decode cX12_endRecord 62 = .ok (.aload_n 0, 1) := by decide +kernel
theorem dX12_endRecord_63 : decode cX12_endRecord 63 = .ok (.getfield 251, 3) := by decide +kernel
theorem dX12_endRecord_66 : decode cX12_endRecord 66 = .ok (.ifCond .le 41, 3) := by decide +kernel
theorem dX12_endRecord_69 : decode cX12_endRecord 69 = .ok (.aload_n 0, 1) := by decide +kernel
theorem dX12_endRecord_70 : decode cX12_endRecord 70 = .ok (.getfield 112, 3) := by decide +kernel
theorem dX12_endRecord_73 : decode cX12_endRecord 73 = .ok (.aload_n 0, 1) := by decide +kernel
theorem dX12_endRecord_74 : decode cX12_endRecord 74 = .ok (.getfield 251, 3) := by decide +kernel
theorem dX12_endRecord_77 : decode cX12_endRecord 77 = .ok (.iconst 1, 1) := by decide +kernel
theorem dX12_endRecord_78 : decode cX12_endRecord 78 = .ok (.isub, 1) := by decide +kernel
theorem dX12_endRecord_79 : decode cX12_endRecord 79 = .ok (.iaload, 1) := by decide +kernel
theorem dX12_endRecord_80 : decode cX12_endRecord 80 = .ok (.ifCond .lt 27, 3) := by decide +kernel
theorem dX12_endRecord_83 : decode cX12_endRecord 83 = .ok (.aload_n 0, 1) := by decide +kernel
theorem dX12_endRecord_84 : decode cX12_endRecord 84 = .ok (.getfield 85, 3) := by decide +kernel
theorem dX12_endRecord_87 : decode cX12_endRecord 87 = .ok (.iconst 5, 1) := by decide +kernel
theorem dX12_endRecord_88 : decode cX12_endRecord 88 = .ok (.aload_n 0, 1) := by decide +kernel
theorem dX12_endRecord_89 : decode cX12_endRecord 89 = .ok (.getfield 251, 3) := by decide +kernel
theorem dX12_endRecord_92 : decode cX12_endRecord 92 = .ok (.imul, 1) := by decide +kernel
theorem dX12_endRecord_93 : decode cX12_endRecord 93 = .ok (.aload_n 0, 1) := by decide +kernel
theorem dX12_endRecord_94 : decode cX12_endRecord 94 = .ok (.getfield 112, 3) := by decide +kernel
theorem dX12_endRecord_97 : decode cX12_endRecord 97 = .ok (.aload_n 0, 1) := by decide +kernel
theorem dX12_endRecord_98 : decode cX12_endRecord 98 = .ok (.getfield 251, 3) := by decide +kernel
theorem dX12_endRecord_101 : decode cX12_endRecord 101 = .ok (.iconst 1, 1) := by decide +kernel
theorem dX12_endRecord_102 : decode cX12_endRecord 102 = .ok (.isub, 1) := by decide +kernel
theorem dX12_endRecord_103 : decode cX12_endRecord 103 = .ok (.iaload, 1) := by decide +kernel
theorem dX12_endRecord_104 : decode cX12_endRecord 104 = .ok (.iadd, 1) := by decide +kernel
theorem dX12_endRecord_105 : decode cX12_endRecord 105 = .ok (.iload_n 1, 1) := by decide +kernel
theorem dX12_endRecord_106 : decode cX12_endRecord 106 = .ok (.iastore, 1) := by decide +kernel
theorem dX12_endRecord_107 : decode cX12_endRecord 107 = .ok (.iload_n 1, 1) := by decide +kernel
theorem dX12_endRecord_108 : decode cX12_endRecord 108 = .ok (.ireturn, 1) := by decide +kernel
theorem dX12_read_0 : decode cX12_read 0 = .ok (.iload_n 1, 1) := by decide +kernel
theorem dX12_read_1 : decode cX12_read 1 = .ok (.invokestatic 125, 3) := by decide +kernel
theorem dX12_read_4 : decode cX12_read 4 = .ok (.ifCond .eq 10, 3) := by decide +kernel
theorem dX12_read_7 : decode cX12_read 7 = .ok (.iload_n 2, 1) := by decide +kernel
theorem dX12_read_8 : decode cX12_read 8 = .ok (.invokestatic 148, 3) := by decide +kernel
theorem dX12_read_11 : decode cX12_read 11 = .ok (.ifCond .ne 5, 3) := by decide +kernel
theorem dX12_read_14 : decode cX12_read 14 = .ok (.iconst (-1), 1) := by decide +kernel
theorem dX12_read_15 : decode cX12_read 15 = .ok (.ireturn, 1) := by decide +kernel
theorem dX12_read_16 : decode cX12_read 16 = .ok (.aload_n 0, 1) := by decide +kernel
theorem dX12_read_17 : decode cX12_read 17 = .ok (.getfield 151, 3) := by decide +kernel
theorem dX12_read_20 : decode cX12_read 20 = .ok (.istore_n 3, 1) := by decide +kernel
theorem dX12_read_21 : decode cX12_read 21 = .ok (.aload_n 0, 1) := by decide +kernel
theorem dX12_read_22 : decode cX12_read 22 = .ok (.getfield 177, 3) := by decide +kernel
theorem dX12_read_25 : decode cX12_read 25 = .ok (.istore 4, 2) := by decide +kernel
theorem dX12_read_27 : decode cX12_read 27 = .ok (.aload_n 0, 1) := by decide +kernel
theorem dX12_read_28 : decode cX12_read 28 = .ok (.iload_n 1, 1) := by decide +kernel
theorem dX12_read_29 : decode cX12_read 29 = .ok (.putfield 258, 3) := by decide +kernel
theorem dX12_read_32 : decode cX12_read 32 = .ok (.aload_n 0, 1) := by decide +kernel
theorem dX12_read_33 : decode cX12_read 33 = .ok (.iconst 0, 1) := by decide +kernel
theorem dX12_read_34 : decode cX12_read 34 = .ok (.putfield 241, 3) := by decide +kernel
theorem dX12_read_37 : decode cX12_read 37 = .ok (.aload_n 0, 1) := by decide +kernel
theorem dX12_read_38 : decode cX12_read 38 = .ok (.bipush (-3), 2) := by decide +kernel
theorem dX12_read_40 : decode cX12_read 40 = .ok (.putfield 244, 3) := by decide +kernel
theorem dX12_read_43 : decode cX12_read 43 = .ok (.aload_n 0, 1) := by decide +kernel
theorem dX12_read_44 : decode cX12_read 44 = .ok (.iconst 0, 1) := by decide +kernel
theorem dX12_read_45 : decode cX12_read 45 = .ok (.putfield 238, 3) := by decide +kernel
theorem dX12_read_48 : decode cX12_read 48 = .ok (.aload_n 0, 1) := by decide +kernel
theorem dX12_read_49 : decode cX12_read 49 = .ok (.iconst 0, 1) := by decide +kernel
theorem dX12_read_50 : decode cX12_read 50 = .ok (.putfield 251, 3) := by decide +kernel
theorem dX12_read_53 : decode cX12_read 53 = .ok (.iconst (-1), 1) := by decide +kernel
theorem dX12_read_54 : decode cX12_read 54 = .ok (.istore 5, 2) := by decide +kernel
theorem dX12_read_56 : decode cX12_read 56 = .ok (.aload_n 0, 1) := by decide +kernel
theorem dX12_read_57 : decode cX12_read 57 = .ok (.iconst 1, 1) := by decide +kernel
theorem dX12_read_58 : decode cX12_read 58 = .ok (.invokevirtual 265, 3) := by decide +kernel
theorem dX12_read_61 : decode cX12_read 61 = .ok (.aload_n 0, 1) := by decide +kernel
theorem dX12_read_62 : decode cX12_read 62 = .ok (.getfield 238, 3) := by decide +kernel
theorem dX12_read_65 : decode cX12_read 65 = .ok (.ifCond .ne 57, 3) := by decide +kernel
theorem dX12_read_68 : decode cX12_read 68 = .ok (.aload_n 0, 1) := by decide +kernel
theorem dX12_read_69 : decode cX12_read 69 = .ok (.getfield 251, 3) := by decide +kernel
theorem dX12_read_72 : decode cX12_read 72 = .ok (.ifCond .le 50, 3) := by decide +kernel
theorem dX12_read_75 : decode cX12_read 75 = .ok (.aload_n 0, 1) := by decide +kernel
theorem dX12_read_76 : decode cX12_read 76 = .ok (.getfield 109, 3) := by decide +kernel
theorem dX12_read_79 : decode cX12_read 79 = .ok (.aload_n 0, 1) := by decide +kernel
theorem dX12_read_80 : decode cX12_read 80 = .ok (.getfield 251, 3) := by decide +kernel
theorem dX12_read_83 : decode cX12_read 83 = .ok (.iconst 1, 1) := by decide +kernel
theorem dX12_read_84 : decode cX12_read 84 = .ok (.isub, 1) := by decide +kernel
theorem dX12_read_85 : decode cX12_read 85 = .ok (.laload, 1) := by decide +kernel
theorem dX12_read_86 : decode cX12_read 86 = .ok (.lconst 0, 1) := by decide +kernel
theorem dX12_read_87 : decode cX12_read 87 = .ok (.lcmp, 1) := by decide +kernel
theorem dX12_read_88 : decode cX12_read 88 = .ok (.ifCond .le 25, 3) := by decide +kernel
theorem dX12_read_91 : decode cX12_read 91 = .ok (.aload_n 0, 1) := by decide +kernel
theorem dX12_read_92 : decode cX12_read 92 = .ok (.getfield 109, 3) := by decide +kernel
theorem dX12_read_95 : decode cX12_read 95 = .ok (.aload_n 0, 1) := by decide +kernel
theorem dX12_read_96 : decode cX12_read 96 = .ok (.getfield 251, 3) := by decide +kernel
theorem dX12_read_99 : decode cX12_read 99 = .ok (.iconst 1, 1) := by decide +kernel
theorem dX12_read_100 : decode cX12_read 100 = .ok (.isub, 1) := by decide +kernel
theorem dX12_read_101 : decode cX12_read 101 = .ok (.dup2, 1) := by decide +kernel
theorem dX12_read_102 : decode cX12_read 102 = .ok (.laload, 1) := by decide +kernel
theorem dX12_read_103 : decode cX12_read 103 = .ok (.lconst 1, 1) := by decide +kernel
theorem dX12_read_104 : decode cX12_read 104 = .ok (.lsub, 1) := by decide +kernel
theorem dX12_read_105 : decode cX12_read 105 = .ok (.lastore, 1) := by decide +kernel
theorem dX12_read_106 : decode cX12_read 106 = .ok (.aload_n 0, 1) := by decide +kernel
theorem dX12_read_107 : decode cX12_read 107 = .ok (.invokevirtual 269, 3) := by decide +kernel
theorem dX12_read_110 : decode cX12_read 110 = .ok (.goto (-49), 3) := by decide +kernel
theorem dX12_read_113 : decode cX12_read 113 = .ok (.aload_n 0, 1) := by decide +kernel
theorem dX12_read_114 : decode cX12_read 114 = .ok (.invokevirtual 272, 3) := by decide +kernel
theorem dX12_read_117 : decode cX12_read 117 = .ok (.istore 5, 2) := by decide +kernel
theorem dX12_read_119 : decode cX12_read 119 = .ok (.goto (-58), 3) := by decide +kernel
theorem dX12_read_122 : decode cX12_read 122 = .ok (.aload_n 0, 1) := by decide +kernel
theorem dX12_read_123 : decode cX12_read 123 = .ok (.aload_n 0, 1) := by decide +kernel
theorem dX12_read_124 : decode cX12_read 124 = .ok (.getfield 238, 3) := by decide +kernel
theorem dX12_read_127 : decode cX12_read 127 = .ok (.putfield 187, 3) := by decide +kernel
theorem dX12_read_130 : decode cX12_read 130 = .ok (.aload_n 0, 1) := by decide +kernel
theorem dX12_read_131 : decode cX12_read 131 = .ok (.aload_n 0, 1) := by decide +kernel
theorem dX12_read_132 : decode cX12_read 132 = .ok (.getfield 238, 3) := by decide +kernel
theorem dX12_read_135 : decode cX12_read 135 = .ok (.ifCond .ne 8, 3) := by decide +kernel
theorem dX12_read_138 : decode cX12_read 138 = .ok (.bipush (-3), 2) := by decide +kernel
theorem dX12_read_140 : decode cX12_read 140 = .ok (.goto 7, 3) := by decide +kernel
theorem dX12_read_143 : decode cX12_read 143 = .ok (.aload_n 0, 1) := by decide +kernel
theorem dX12_read_144 : decode cX12_read 144 = .ok (.getfield 244, 3) := by decide +kernel
theorem dX12_read_147 : decode cX12_read 147 = .ok (.putfield 78, 3) := by decide +kernel
theorem dX12_read_150 : decode cX12_read 150 = .ok (.aload_n 0, 1) := by decide +kernel
theorem dX12_read_151 : decode cX12_read 151 = .ok (.aload_n 0, 1) := by decide +kernel
theorem dX12_read_152 : decode cX12_read 152 = .ok (.getfield 238, 3) := by decide +kernel
theorem dX12_read_155 : decode cX12_read 155 = .ok (.ifCond .ne 7, 3) := by decide +kernel
theorem dX12_read_158 : decode cX12_read 158 = .ok (.iconst 0, 1) := by decide +kernel
theorem dX12_read_159 : decode cX12_read 159 = .ok (.goto 7, 3) := by decide +kernel
theorem dX12_read_162 : decode cX12_read 162 = .ok (.aload_n 0, 1) := by decide +kernel
theorem dX12_read_163 : decode cX12_read 163 = .ok (.getfield 251, 3) := by decide +kernel
theorem dX12_read_166 : decode cX12_read 166 = .ok (.putfield 190, 3) := by decide +kernel
theorem dX12_read_169 : decode cX12_read 169 = .ok (.aload_n 0, 1) := by decide +kernel
theorem dX12_read_170 : decode cX12_read 170 = .ok (.getfield 238, 3) := by decide +kernel
theorem dX12_read_173 : decode cX12_read 173 = .ok (.ifCond .ne 24, 3) := by decide +kernel
theorem dX12_read_176 : decode cX12_read 176 = .ok (.aload_n 0, 1) := by decide +kernel
theorem dX12_read_177 : decode cX12_read 177 = .ok (.getfield 66, 3) := by decide +kernel
theorem dX12_read_180 : decode cX12_read 180 = .ok (.iload_n 2, 1) := by decide +kernel
theorem dX12_read_181 : decode cX12_read 181 = .ok (.iload 5, 2) := by decide +kernel
theorem dX12_read_183 : decode cX12_read 183 = .ok (.iastore, 1) := by decide +kernel
theorem dX12_read_184 : decode cX12_read 184 = .ok (.aload_n 0, 1) := by decide +kernel
theorem dX12_read_185 : decode cX12_read 185 = .ok (.dup, 1) := by decide +kernel
theorem dX12_read_186 : decode cX12_read 186 = .ok (.getfield 276, 3) := by decide +kernel
theorem dX12_read_189 : decode cX12_read 189 = .ok (.iconst 1, 1) := by decide +kernel
theorem dX12_read_190 : decode cX12_read 190 = .ok (.iadd, 1) := by decide +kernel
theorem dX12_read_191 : decode cX12_read 191 = .ok (.putfield 276, 3) := by decide +kernel
theorem dX12_read_194 : decode cX12_read 194 = .ok (.goto 24, 3) := by decide +kernel
theorem dX12_read_197 : decode cX12_read 197 = .ok (.aload_n 0, 1) := by decide +kernel
theorem dX12_read_198 : decode cX12_read 198 = .ok (.iload_n 3, 1) := by decide +kernel
theorem dX12_read_199 : decode cX12_read 199 = .ok (.putfield 151, 3) := by decide +kernel
theorem dX12_read_202 : decode cX12_read 202 = .ok (.aload_n 0, 1) := by decide +kernel
theorem dX12_read_203 : decode cX12_read 203 = .ok (.iload 4, 2) := by decide +kernel
theorem dX12_read_205 : decode cX12_read 205 = .ok (.putfield 177, 3) := by decide +kernel
theorem dX12_read_208 : decode cX12_read 208 = .ok (.aload_n 0, 1) := by decide +kernel
theorem dX12_read_209 : decode cX12_read 209 = .ok (.dup, 1) := by decide +kernel
theorem dX12_read_210 : decode cX12_read 210 = .ok (.getfield 279, 3) := by decide +kernel
theorem dX12_read_213 : decode cX12_read 213 = .ok (.iconst 1, 1) := by decide +kernel
theorem dX12_read_214 : decode cX12_read 214 = .ok (.iadd, 1) := by decide +kernel
theorem dX12_read_215 : decode cX12_read 215 = .ok (.putfield 279, 3) := by decide +kernel
theorem dX12_read_218 : decode cX12_read 218 = .ok (.aload_n 0, 1) := by decide +kernel
theorem dX12_read_219 : decode cX12_read 219 = .ok (.getfield 187, 3) := by decide +kernel
theorem dX12_read_222 : decode cX12_read 222 = .ok (.ireturn, 1) := by decide +kernel
theorem dX12_cause_0 : decode cX12_cause 0 = .ok (.iload_n 1, 1) := by decide +kernel
theorem dX12_cause_1 : decode cX12_cause 1 = .ok (.ifCond .ne 10, 3) := by decide +kernel
theorem dX12_cause_4 : decode cX12_cause 4 = .ok (.aload_n 0, 1) := by decide +kernel
theorem dX12_cause_5 : decode cX12_cause 5 = .ok (.getfield 187, 3) := by decide +kernel
theorem dX12_cause_8 : decode cX12_cause 8 = .ok (.goto 28, 3) := by decide +kernel
theorem dX12_cause_11 : decode cX12_cause 11 = .ok (.iload_n 1, 1) := by decide +kernel
theorem dX12_cause_12 : decode cX12_cause 12 = .ok (.iconst 1, 1) := by decide +kernel
theorem dX12_cause_13 : decode cX12_cause 13 = .ok (.if_icmp .ne 10, 3) := by decide +kernel
theorem dX12_cause_16 : decode cX12_cause 16 = .ok (.aload_n 0, 1) := by decide +kernel
theorem dX12_cause_17 : decode cX12_cause 17 = .ok (.getfield 78, 3) := by decide +kernel
theorem dX12_cause_20 : decode cX12_cause 20 = .ok (.goto 16, 3) := by decide +kernel
theorem dX12_cause_23 : decode cX12_cause 23 = .ok (.iload_n 1, 1) := by decide +kernel
theorem dX12_cause_24 : decode cX12_cause 24 = .ok (.iconst 2, 1) := by decide +kernel
theorem dX12_cause_25 : decode cX12_cause 25 = .ok (.if_icmp .ne 10, 3) := by decide +kernel
theorem dX12_cause_28 : decode cX12_cause 28 = .ok (.aload_n 0, 1) := by decide +kernel
theorem dX12_cause_29 : decode cX12_cause 29 = .ok (.getfield 190, 3) := by decide +kernel
theorem dX12_cause_32 : decode cX12_cause 32 = .ok (.goto 4, 3) := by decide +kernel
theorem dX12_cause_35 : decode cX12_cause 35 = .ok (.iconst (-1), 1) := by decide +kernel
theorem dX12_cause_36 : decode cX12_cause 36 = .ok (.ireturn, 1) := by decide +kernel
theorem dX12_status_0 : decode cX12_status 0 = .ok (.aload_n 0, 1) := by decide +kernel
theorem dX12_status_1 : decode cX12_status 1 = .ok (.getfield 198, 3) := by decide +kernel
theorem dX12_status_4 : decode cX12_status 4 = .ok (.ireturn, 1) := by decide +kernel
theorem dX12_count_0 : decode cX12_count 0 = .ok (.iconst 0, 1) := by decide +kernel
theorem dX12_count_1 : decode cX12_count 1 = .ok (.istore_n 2, 1) := by decide +kernel
theorem dX12_count_2 : decode cX12_count 2 = .ok (.iconst 0, 1) := by decide +kernel
theorem dX12_count_3 : decode cX12_count 3 = .ok (.istore_n 3, 1) := by decide +kernel
theorem dX12_count_4 : decode cX12_count 4 = .ok (.iload_n 3, 1) := by decide +kernel
theorem dX12_count_5 : decode cX12_count 5 = .ok (.bipush 10, 2) := by decide +kernel
theorem dX12_count_7 : decode cX12_count 7 = .ok (.if_icmp .ge 27, 3) := by decide +kernel
theorem dX12_count_10 : decode cX12_count 10 = .ok (.iload_n 2, 1) := by decide +kernel
theorem dX12_count_11 : decode cX12_count 11 = .ok (.aload_n 0, 1) := by decide +kernel
theorem dX12_count_12 : decode cX12_count 12 = .ok (.getfield 66, 3) := by decide +kernel
theorem dX12_count_15 : decode cX12_count 15 = .ok (.iload_n 3, 1) := by decide +kernel
theorem dX12_count_16 : decode cX12_count 16 = .ok (.iaload, 1) := by decide +kernel
theorem dX12_count_17 : decode cX12_count 17 = .ok (.iconst (-1), 1) := by decide +kernel
theorem dX12_count_18 : decode cX12_count 18 = .ok (.if_icmp .ne 7, 3) := by decide +kernel
theorem dX12_count_21 : decode cX12_count 21 = .ok (.iconst 0, 1) := by decide +kernel
theorem dX12_count_22 : decode cX12_count 22 = .ok (.goto 4, 3) := by decide +kernel
theorem dX12_count_25 : decode cX12_count 25 = .ok (.iconst 1, 1) := by decide +kernel
theorem dX12_count_26 : decode cX12_count 26 = .ok (.iadd, 1) := by decide +kernel
theorem dX12_count_27 : decode cX12_count 27 = .ok (.istore_n 2, 1) := by decide +kernel
theorem dX12_count_28 : decode cX12_count 28 = .ok (.iinc 3 1, 3) := by decide +kernel
theorem dX12_count_31 : decode cX12_count 31 = .ok (.goto (-27), 3) := by decide +kernel
theorem dX12_count_34 : decode cX12_count 34 = .ok (.iload_n 1, 1) := by decide +kernel
theorem dX12_count_35 : decode cX12_count 35 = .ok (.ifCond .ne 10, 3) := by decide +kernel
theorem dX12_count_38 : decode cX12_count 38 = .ok (.aload_n 0, 1) := by decide +kernel
theorem dX12_count_39 : decode cX12_count 39 = .ok (.getfield 180, 3) := by decide +kernel
theorem dX12_count_42 : decode cX12_count 42 = .ok (.goto 49, 3) := by decide +kernel
theorem dX12_count_45 : decode cX12_count 45 = .ok (.iload_n 1, 1) := by decide +kernel
theorem dX12_count_46 : decode cX12_count 46 = .ok (.iconst 1, 1) := by decide +kernel
theorem dX12_count_47 : decode cX12_count 47 = .ok (.if_icmp .ne 10, 3) := by decide +kernel
theorem dX12_count_50 : decode cX12_count 50 = .ok (.aload_n 0, 1) := by decide +kernel
theorem dX12_count_51 : decode cX12_count 51 = .ok (.getfield 276, 3) := by decide +kernel
theorem dX12_count_54 : decode cX12_count 54 = .ok (.goto 37, 3) := by decide +kernel
theorem dX12_count_57 : decode cX12_count 57 = .ok (.iload_n 1, 1) := by decide +kernel
theorem dX12_count_58 : decode cX12_count 58 = .ok (.iconst 2, 1) := by decide +kernel
theorem dX12_count_59 : decode cX12_count 59 = .ok (.if_icmp .ne 10, 3) := by decide +kernel
theorem dX12_count_62 : decode cX12_count 62 = .ok (.aload_n 0, 1) := by decide +kernel
theorem dX12_count_63 : decode cX12_count 63 = .ok (.getfield 279, 3) := by decide +kernel
theorem dX12_count_66 : decode cX12_count 66 = .ok (.goto 25, 3) := by decide +kernel
theorem dX12_count_69 : decode cX12_count 69 = .ok (.iload_n 1, 1) := by decide +kernel
theorem dX12_count_70 : decode cX12_count 70 = .ok (.iconst 3, 1) := by decide +kernel
theorem dX12_count_71 : decode cX12_count 71 = .ok (.if_icmp .ne 10, 3) := by decide +kernel
theorem dX12_count_74 : decode cX12_count 74 = .ok (.aload_n 0, 1) := by decide +kernel
theorem dX12_count_75 : decode cX12_count 75 = .ok (.getfield 235, 3) := by decide +kernel
theorem dX12_count_78 : decode cX12_count 78 = .ok (.goto 13, 3) := by decide +kernel
theorem dX12_count_81 : decode cX12_count 81 = .ok (.iload_n 1, 1) := by decide +kernel
theorem dX12_count_82 : decode cX12_count 82 = .ok (.iconst 4, 1) := by decide +kernel
theorem dX12_count_83 : decode cX12_count 83 = .ok (.if_icmp .ne 7, 3) := by decide +kernel
theorem dX12_count_86 : decode cX12_count 86 = .ok (.iload_n 2, 1) := by decide +kernel
theorem dX12_count_87 : decode cX12_count 87 = .ok (.goto 4, 3) := by decide +kernel
theorem dX12_count_90 : decode cX12_count 90 = .ok (.iconst (-1), 1) := by decide +kernel
theorem dX12_count_91 : decode cX12_count 91 = .ok (.ireturn, 1) := by decide +kernel
end
section

def rl_rm (k c n : Nat) : Room := { frames := k, cells := c, slots := n, locals := 60 * k }
theorem rl_begin {l : Launch} {y : MethodName} {bytes : ByteArray} {maxL : Nat} {ret : Option FieldType} {rm : Room} {D : va_G} {t : Nat → ClassId} {A : Nat → Prop} {f : rl_M} {z : Nat} {av : List Value} {post : Option Value → rl_M → Nat → Nat → Prop} {own : String} (hy : plainName y.cls = true) (ho : y.cls = own) {lv : List (Nat × Value)} (hlen : (lg_sl av).length ≤ maxL) (hlv : lv_args 0 av = lv)
    (body : ∀ (p : Program) (e : Env) (s : State) (m : MethodId) (args : Array Value) (below : List Frame) (meth : Method) (c : Code) (ls : Array Slot), rl_C p m c bytes maxL s args own (.code y bytes maxL ret) D t A → meth.sig.returnType = ret → meth.locks = false → meth.name = y.name → rl_W D A f z s.heap s.heap [] → lv_has ls maxL lv → p.tables.exec = Jvm.exec → c.code = bytes → W p l e rm s m args below meth c s.heap [] 0 0 (MQ below (rl_Q D A post) args s rm.cells rm.slots A) (F0 m 0 ls [])) : rl_Met l y (.code y bytes maxL ret) rm D t A f z av post := by
  refine rl_start (own := own) hy ho fun p e s m args below meth c hC hr hlk hnm hW => ?_
  have hl := lv_entry av (n := maxL) hlen
  rw [lg_entry_eq]
  rw [hlv] at hl
  exact body p e s m args below meth c _ hC hr hlk hnm hW hl hC.1 hC.2.1
section RLB
variable {p : Program} {l : Launch} {e : Env} {R : Room} {s : State} {m : MethodId} {args : Array Value} {below : List Frame} {meth : Method} {c : Code} {H : Heap} {locs : List Loc} {cells slots : Nat} {Q : State → Prop}
variable {cc : ByteArray} {nL pc : Nat} {ls : Array Slot} {rest : List Value} {D : va_G} {t : Nat → ClassId} {A : Nat → Prop} {a z : Nat} {f : rl_M} {own : String} {cw : Cond}
theorem rl_topn {x y : Int32} (h : x = y) (k : W p l e R s m args below meth c H locs cells slots Q (F0 m pc ls (.int y :: rest))) : W p l e R s m args below meth c H locs cells slots Q (F0 m pc ls (.int x :: rest)) := by rw [h]; exact k
theorem rl_topl {x y : Int64} (h : x = y) (k : W p l e R s m args below meth c H locs cells slots Q (F0 m pc ls (.long y :: rest))) : W p l e R s m args below meth c H locs cells slots Q (F0 m pc ls (.long x :: rest)) := by rw [h]; exact k
theorem rl_aloadq_n (hexec : p.tables.exec = Jvm.exec) (hb : c.code = cc) {k : Fin 4} {i : Nat} {x : Option Nat} (hdg : decode cc pc = .ok (.aload_n k, 1)) (hi : (k : Nat) = i) (hl : ls[i]? = some (.val (va_rf x)))
    (kk : W p l e R s m args below meth c H locs cells slots Q (F0 m (pc + 1) ls (va_rf x :: rest))) : W p l e R s m args below meth c H locs cells slots Q (F0 m pc ls rest) := by
  cases x with
  | none => exact lv_aload_nN hexec hb hdg hi hl kk
  | some x => exact lv_aload_n hexec hb hdg hi hl kk
theorem rl_aloadq (hexec : p.tables.exec = Jvm.exec) (hb : c.code = cc) {i : Nat} {x : Option Nat} (hdg : decode cc pc = .ok (.aload i, 2)) (hl : ls[i]? = some (.val (va_rf x)))
    (kk : W p l e R s m args below meth c H locs cells slots Q (F0 m (pc + 2) ls (va_rf x :: rest))) : W p l e R s m args below meth c H locs cells slots Q (F0 m pc ls rest) := by
  cases x with
  | none => exact lv_aloadN hexec hb hdg hl kk
  | some x => exact lv_aload hexec hb hdg hl kk
theorem rl_in {n N : Nat} (h : n < N) (hN : N < 2 ^ 31) : vp_in (nI n) N ∧ (nI n).toNatClampNeg = n := ⟨vp_in_nI h hN, nI_clamp (by omega)⟩
theorem rl_iald_n {n N : Nat} {g : Nat → Int32} (hC : rl_C p m c cc nL s args own cw D t A) (hW : rl_W D A f z s.heap H locs) (he : f a = some (.inl (t 0, N, .inl g))) (h : n < N) (hN : N < 2 ^ 31) (hdg : decode cc pc = .ok (.iaload, 1))
    (kk : W p l e R s m args below meth c H locs cells slots Q (F0 m (pc + 1) ls (.int (g n) :: rest))) : W p l e R s m args below meth c H locs cells slots Q (F0 m pc ls (.int (nI n) :: .ref a :: rest)) :=
  rl_iald hC hW he (rl_in h hN).1 hdg (by rw [(rl_in h hN).2]; exact kk)
theorem rl_lald_n {n N : Nat} {g : Nat → Int64} (hC : rl_C p m c cc nL s args own cw D t A) (hW : rl_W D A f z s.heap H locs) (he : f a = some (.inl (t 1, N, .inr (.inl g)))) (h : n < N) (hN : N < 2 ^ 31) (hdg : decode cc pc = .ok (.laload, 1))
    (kk : W p l e R s m args below meth c H locs cells slots Q (F0 m (pc + 1) ls (.long (g n) :: rest))) : W p l e R s m args below meth c H locs cells slots Q (F0 m pc ls (.int (nI n) :: .ref a :: rest)) :=
  rl_lald hC hW he (rl_in h hN).1 hdg (by rw [(rl_in h hN).2]; exact kk)
theorem rl_zald_n {n N : Nat} {g : Nat → Int32} (hC : rl_C p m c cc nL s args own cw D t A) (hW : rl_W D A f z s.heap H locs) (he : f a = some (.inl (t 2, N, .inl g))) (h : n < N) (hN : N < 2 ^ 31) (hdg : decode cc pc = .ok (.baload, 1))
    (kk : W p l e R s m args below meth c H locs cells slots Q (F0 m (pc + 1) ls (.int (g n) :: rest))) : W p l e R s m args below meth c H locs cells slots Q (F0 m pc ls (.int (nI n) :: .ref a :: rest)) :=
  rl_zald hC hW he (rl_in h hN).1 hdg (by rw [(rl_in h hN).2]; exact kk)
theorem rl_aald_n (j : Nat) {C : String} {n N : Nat} {g : Nat → Option Nat} (hC : rl_C p m c cc nL s args own cw D t A) (hW : rl_W D A f z s.heap H locs) (hj : (rl_tys t)[j]? = some (t j, .object C)) (he : f a = some (.inl (t j, N, .inr (.inr (.inr (.inr g)))))) (h : n < N) (hN : N < 2 ^ 31) (hdg : decode cc pc = .ok (.aaload, 1))
    (kk : W p l e R s m args below meth c H locs cells slots Q (F0 m (pc + 1) ls (va_rf (g n) :: rest))) : W p l e R s m args below meth c H locs cells slots Q (F0 m pc ls (.int (nI n) :: .ref a :: rest)) :=
  rl_aald j hC hW hj he (rl_in h hN).1 hdg (by rw [(rl_in h hN).2]; exact kk)
theorem rl_iast_n {n N : Nat} {g : Nat → Int32} {x : Int32} (hC : rl_C p m c cc nL s args own cw D t A) (hW : rl_W D A f z s.heap H locs) (he : f a = some (.inl (t 0, N, .inl g))) (h : n < N) (hN : N < 2 ^ 31) (hdg : decode cc pc = .ok (.iastore, 1))
    (kk : ∀ (H1 : Heap) (locs1 : List Loc), rl_W D A (rl_up f a (.inl (t 0, N, .inl (upd g n x)))) z s.heap H1 locs1 → W p l e R s m args below meth c H1 locs1 cells slots Q (F0 m (pc + 1) ls rest)) : W p l e R s m args below meth c H locs cells slots Q (F0 m pc ls (.int x :: .int (nI n) :: .ref a :: rest)) :=
  rl_iast hC hW he (rl_in h hN).1 hdg (by rw [(rl_in h hN).2]; exact kk)
theorem rl_zast_n {n N : Nat} {g : Nat → Int32} {x : Int32} (hC : rl_C p m c cc nL s args own cw D t A) (hW : rl_W D A f z s.heap H locs) (he : f a = some (.inl (t 2, N, .inl g))) (h : n < N) (hN : N < 2 ^ 31) (hdg : decode cc pc = .ok (.bastore, 1))
    (kk : ∀ (H1 : Heap) (locs1 : List Loc), rl_W D A (rl_up f a (.inl (t 2, N, .inl (upd g n (vp_nar .boolean x))))) z s.heap H1 locs1 → W p l e R s m args below meth c H1 locs1 cells slots Q (F0 m (pc + 1) ls rest)) : W p l e R s m args below meth c H locs cells slots Q (F0 m pc ls (.int x :: .int (nI n) :: .ref a :: rest)) :=
  rl_zast hC hW he (rl_in h hN).1 hdg (by rw [(rl_in h hN).2]; exact kk)
theorem rl_last_n {n N : Nat} {g : Nat → Int64} {x : Int64} (hC : rl_C p m c cc nL s args own cw D t A) (hW : rl_W D A f z s.heap H locs) (he : f a = some (.inl (t 1, N, .inr (.inl g)))) (h : n < N) (hN : N < 2 ^ 31) (hdg : decode cc pc = .ok (.lastore, 1))
    (kk : ∀ (H1 : Heap) (locs1 : List Loc), rl_W D A (rl_up f a (.inl (t 1, N, .inr (.inl (vp_updL g n x))))) z s.heap H1 locs1 → W p l e R s m args below meth c H1 locs1 cells slots Q (F0 m (pc + 1) ls rest)) : W p l e R s m args below meth c H locs cells slots Q (F0 m pc ls (.long x :: .int (nI n) :: .ref a :: rest)) :=
  rl_last hC hW he (rl_in h hN).1 hdg (by rw [(rl_in h hN).2]; exact kk)
end RLB

/-- the answers of a method that makes nothing -/
def rl_qi (z : Nat) (P : Int32 → rl_M → Prop) : Option Value → rl_M → Nat → Nat → Prop := fun v f z' ds => ∃ r : Int32, v = some (.int r) ∧ z' = z ∧ ds = 0 ∧ P r f
def rl_ql (z : Nat) (P : Int64 → rl_M → Prop) : Option Value → rl_M → Nat → Nat → Prop := fun v f z' ds => ∃ r : Int64, v = some (.long r) ∧ z' = z ∧ ds = 0 ∧ P r f
def rl_qq (z : Nat) (P : Option Nat → rl_M → Prop) : Option Value → rl_M → Nat → Nat → Prop := fun v f z' ds => ∃ r : Option Nat, v = some (va_rf r) ∧ z' = z ∧ ds = 0 ∧ P r f
def rl_qv (z : Nat) (P : rl_M → Prop) : Option Value → rl_M → Nat → Nat → Prop := fun v f z' ds => v = none ∧ z' = z ∧ ds = 0 ∧ P f
section RLQ
variable {p : Program} {l : Launch} {e : Env} {R : Room} {s : State} {m : MethodId} {args : Array Value} {below : List Frame} {meth : Method} {c : Code} {H : Heap} {locs : List Loc} {cells slots : Nat} {Q : State → Prop}
variable {pc : Nat} {ls : Array Slot} {rest : List Value} {D : va_G} {A : Nat → Prop} {z : Nat} {f : rl_M}
theorem rl_calliQ {mc ms : Nat} {P : Int32 → rl_M → Prop} {av : Array Value} {st0 : List Value} (hr : va_Run p l e R s m args below meth c H locs cells slots mc ms (F0 m pc ls st0) rest (rl_Q D A (rl_qi z P) av) A) (hW : rl_W D A f z s.heap H locs)
    (kk : ∀ (r : Int32) (f' : rl_M) (H1 : Heap) (locs1 : List Loc), P r f' → rl_W D A f' z s.heap H1 locs1 → W p l e R s m args below meth c H1 locs1 cells slots Q (F0 m (pc + 3) ls (.int r :: rest))) : W p l e R s m args below meth c H locs cells slots Q (F0 m pc ls st0) :=
  rl_call hr hW fun v f' z' ds H1 locs1 hp hw hz => by
    obtain ⟨r, rfl, rfl, rfl, hp⟩ := hp
    rw [Nat.sub_self]
    exact kk r f' H1 locs1 hp hw
theorem rl_calllQ {mc ms : Nat} {P : Int64 → rl_M → Prop} {av : Array Value} {st0 : List Value} (hr : va_Run p l e R s m args below meth c H locs cells slots mc ms (F0 m pc ls st0) rest (rl_Q D A (rl_ql z P) av) A) (hW : rl_W D A f z s.heap H locs)
    (kk : ∀ (r : Int64) (f' : rl_M) (H1 : Heap) (locs1 : List Loc), P r f' → rl_W D A f' z s.heap H1 locs1 → W p l e R s m args below meth c H1 locs1 cells slots Q (F0 m (pc + 3) ls (.long r :: rest))) : W p l e R s m args below meth c H locs cells slots Q (F0 m pc ls st0) :=
  rl_call hr hW fun v f' z' ds H1 locs1 hp hw hz => by
    obtain ⟨r, rfl, rfl, rfl, hp⟩ := hp
    rw [Nat.sub_self]
    exact kk r f' H1 locs1 hp hw
theorem rl_callqQ {mc ms : Nat} {P : Option Nat → rl_M → Prop} {av : Array Value} {st0 : List Value} (hr : va_Run p l e R s m args below meth c H locs cells slots mc ms (F0 m pc ls st0) rest (rl_Q D A (rl_qq z P) av) A) (hW : rl_W D A f z s.heap H locs)
    (kk : ∀ (r : Option Nat) (f' : rl_M) (H1 : Heap) (locs1 : List Loc), P r f' → rl_W D A f' z s.heap H1 locs1 → W p l e R s m args below meth c H1 locs1 cells slots Q (F0 m (pc + 3) ls (va_rf r :: rest))) : W p l e R s m args below meth c H locs cells slots Q (F0 m pc ls st0) :=
  rl_call hr hW fun v f' z' ds H1 locs1 hp hw hz => by
    obtain ⟨r, rfl, rfl, rfl, hp⟩ := hp
    rw [Nat.sub_self]
    exact kk r f' H1 locs1 hp hw
theorem rl_callvQ {mc ms : Nat} {P : rl_M → Prop} {av : Array Value} {st0 : List Value} (hr : va_Run p l e R s m args below meth c H locs cells slots mc ms (F0 m pc ls st0) rest (rl_Q D A (rl_qv z P) av) A) (hW : rl_W D A f z s.heap H locs)
    (kk : ∀ (f' : rl_M) (H1 : Heap) (locs1 : List Loc), P f' → rl_W D A f' z s.heap H1 locs1 → W p l e R s m args below meth c H1 locs1 cells slots Q (F0 m (pc + 3) ls rest)) : W p l e R s m args below meth c H locs cells slots Q (F0 m pc ls st0) :=
  rl_call hr hW fun v f' z' ds H1 locs1 hp hw hz => by
    obtain ⟨rfl, rfl, rfl, hp⟩ := hp
    rw [Nat.sub_self]
    exact kk f' H1 locs1 hp hw
end RLQ

def rm_fs (m : Nat) (F : Nat → Int32) : List Value := [.ref (m + 1), .ref (m + 2), .ref (m + 3), .ref (m + 4), .ref (m + 5), .ref (m + 6), .ref (m + 7), .ref (m + 8), .ref (m + 9), .ref (m + 10), .ref (m + 11), .int (F 11), .ref (m + 12), .ref (m + 13), .int (F 14), .ref (m + 14), .ref (m + 15), .ref (m + 16), .ref (m + 17), .ref (m + 18), .ref (m + 19), .ref (m + 20), .int (F 22), .ref (m + 21), .int (F 24), .int (F 25), .int (F 26), .int (F 27), .int (F 28), .int (F 29), .int (F 30), .ref (m + 22), .ref (m + 23), .int (F 33), .ref (m + 24), .ref (m + 25), .ref (m + 26), .int (F 37), .ref (m + 27), .ref (m + 28), .ref (m + 29), .int (F 41), .int (F 42), .int (F 43), .int (F 44), .int (F 45), .ref (m + 30), .ref (m + 31), .ref (m + 32)]
def rm_tab : List (Nat × Nat × Nat) := [(0, 1, 6), (0, 2, 60), (2, 3, 60), (0, 4, 12), (0, 5, 60), (0, 6, 60), (0, 7, 60), (0, 8, 12), (0, 9, 24), (0, 10, 24), (0, 11, 24), (3, 0, 0), (0, 12, 43100), (0, 13, 344800), (3, 0, 0), (0, 14, 26200), (0, 15, 26200), (1, 16, 131000), (0, 17, 131000), (0, 18, 10), (1, 19, 5), (0, 20, 5), (3, 0, 0), (1, 21, 250), (3, 0, 0), (3, 0, 0), (3, 0, 0), (3, 0, 0), (3, 0, 0), (3, 0, 0), (3, 0, 0), (1, 22, 40), (0, 23, 40), (3, 0, 0), (0, 24, 40), (0, 25, 40), (0, 26, 40), (3, 0, 0), (1, 27, 250), (0, 28, 130), (0, 29, 130), (3, 0, 0), (3, 0, 0), (3, 0, 0), (3, 0, 0), (3, 0, 0), (0, 30, 7), (1, 31, 7), (0, 32, 7)]
def rm_k (j : Nat) : Nat := (rm_tab.getD j (3, 0, 0)).1
def rm_ad (j : Nat) : Nat := (rm_tab.getD j (3, 0, 0)).2.1
def rm_len (j : Nat) : Nat := (rm_tab.getD j (3, 0, 0)).2.2
def rm_cell (t : Nat → ClassId) (I : Nat → Nat → Int32) (L : Nat → Nat → Int64) (j : Nat) : va_E := match rm_k j with
  | 1 => .inl (t 1, rm_len j, .inr (.inl (L j)))
  | 2 => .inl (t 2, rm_len j, .inl (I j))
  | _ => .inl (t 0, rm_len j, .inl (I j))
def RM (t : Nat → ClassId) (f : rl_M) (m : Nat) (I : Nat → Nat → Int32) (L : Nat → Nat → Int64) (F : Nat → Int32) : Prop := f m = some (.inr (11, rm_fs m F)) ∧ ∀ j, j < 49 → rm_k j ≠ 3 → f (m + rm_ad j) = some (rm_cell t I L j)
theorem rm_inj : ∀ i, i < 49 → ∀ j, j < 49 → rm_k i ≠ 3 → rm_k j ≠ 3 → rm_ad i = rm_ad j → i = j := by decide +kernel
theorem rm_pos : ∀ i, i < 49 → rm_k i ≠ 3 → 0 < rm_ad i := by decide +kernel
section RMS
variable {t : Nat → ClassId} {f : rl_M} {m : Nat} {I : Nat → Nat → Int32} {L : Nat → Nat → Int64} {F : Nat → Int32}
theorem RM.gen {j : Nat} {e : va_E} {I' : Nat → Nat → Int32} {L' : Nat → Nat → Int64} (h : RM t f m I L F) (hj : j < 49) (hk : rm_k j ≠ 3) (he : rm_cell t I' L' j = e) (hI : ∀ i, i ≠ j → I' i = I i) (hL : ∀ i, i ≠ j → L' i = L i) : RM t (rl_up f (m + rm_ad j) e) m I' L' F := by
  have hp := rm_pos j hj hk
  refine ⟨by rw [rl_up_n (by omega)]; exact h.1, fun i hi hki => ?_⟩
  by_cases hij : i = j
  · subst hij
    rw [rl_up_s, he]
  · have hne : rm_ad i ≠ rm_ad j := fun q => hij (rm_inj i hi j hj hki hk q)
    rw [rl_up_n (by omega), h.2 i hi hki]
    unfold rm_cell
    rw [hI i hij, hL i hij]
theorem va_up_s {α : Type} (f : Nat → α) (k : Nat) (v : α) : va_up f k v k = v := by simp [va_up]
theorem va_up_n {α : Type} (f : Nat → α) {k j : Nat} (v : α) (h : j ≠ k) : va_up f k v j = f j := by simp [va_up, h]
theorem RM.seti {j : Nat} (h : RM t f m I L F) (hj : j < 49) (hk : rm_k j = 0) (g : Nat → Int32) : RM t (rl_up f (m + rm_ad j) (.inl (t 0, rm_len j, .inl g))) m (va_up I j g) L F :=
  h.gen hj (by rw [hk]; decide) (by unfold rm_cell; rw [hk]; simp [va_up]) (fun i hi => va_up_n I g hi) (fun _ _ => rfl)
theorem RM.setz {j : Nat} (h : RM t f m I L F) (hj : j < 49) (hk : rm_k j = 2) (g : Nat → Int32) : RM t (rl_up f (m + rm_ad j) (.inl (t 2, rm_len j, .inl g))) m (va_up I j g) L F :=
  h.gen hj (by rw [hk]; decide) (by unfold rm_cell; rw [hk]; simp [va_up]) (fun i hi => va_up_n I g hi) (fun _ _ => rfl)
theorem RM.setl {j : Nat} (h : RM t f m I L F) (hj : j < 49) (hk : rm_k j = 1) (g : Nat → Int64) : RM t (rl_up f (m + rm_ad j) (.inl (t 1, rm_len j, .inr (.inl g)))) m I (va_up L j g) F :=
  h.gen hj (by rw [hk]; decide) (by unfold rm_cell; rw [hk]; simp [va_up]) (fun _ _ => rfl) (fun i hi => va_up_n L g hi)
theorem RM.setf {F' : Nat → Int32} (h : RM t f m I L F) {fs : List Value} (hf : fs = rm_fs m F') : RM t (rl_up f m (.inr (11, fs))) m I L F' := by
  subst hf
  refine ⟨rl_up_s _ _ _, fun j hj hk => ?_⟩
  have hp := rm_pos j hj hk
  rw [rl_up_n (by omega)]
  exact h.2 j hj hk
theorem RM.a0 (h : RM t f m I L F) : f (m + 1) = some (.inl (t 0, 6, .inl (I 0))) := h.2 0 (by decide) (by decide)
theorem RM.s0 (h : RM t f m I L F) (g : Nat → Int32) : RM t (rl_up f (m + 1) (.inl (t 0, 6, .inl g))) m (va_up I 0 g) L F := h.seti (j := 0) (by decide) (by decide) g
theorem RM.a1 (h : RM t f m I L F) : f (m + 2) = some (.inl (t 0, 60, .inl (I 1))) := h.2 1 (by decide) (by decide)
theorem RM.s1 (h : RM t f m I L F) (g : Nat → Int32) : RM t (rl_up f (m + 2) (.inl (t 0, 60, .inl g))) m (va_up I 1 g) L F := h.seti (j := 1) (by decide) (by decide) g
theorem RM.a2 (h : RM t f m I L F) : f (m + 3) = some (.inl (t 2, 60, .inl (I 2))) := h.2 2 (by decide) (by decide)
theorem RM.s2 (h : RM t f m I L F) (g : Nat → Int32) : RM t (rl_up f (m + 3) (.inl (t 2, 60, .inl g))) m (va_up I 2 g) L F := h.setz (j := 2) (by decide) (by decide) g
theorem RM.a3 (h : RM t f m I L F) : f (m + 4) = some (.inl (t 0, 12, .inl (I 3))) := h.2 3 (by decide) (by decide)
theorem RM.s3 (h : RM t f m I L F) (g : Nat → Int32) : RM t (rl_up f (m + 4) (.inl (t 0, 12, .inl g))) m (va_up I 3 g) L F := h.seti (j := 3) (by decide) (by decide) g
theorem RM.a4 (h : RM t f m I L F) : f (m + 5) = some (.inl (t 0, 60, .inl (I 4))) := h.2 4 (by decide) (by decide)
theorem RM.s4 (h : RM t f m I L F) (g : Nat → Int32) : RM t (rl_up f (m + 5) (.inl (t 0, 60, .inl g))) m (va_up I 4 g) L F := h.seti (j := 4) (by decide) (by decide) g
theorem RM.a5 (h : RM t f m I L F) : f (m + 6) = some (.inl (t 0, 60, .inl (I 5))) := h.2 5 (by decide) (by decide)
theorem RM.s5 (h : RM t f m I L F) (g : Nat → Int32) : RM t (rl_up f (m + 6) (.inl (t 0, 60, .inl g))) m (va_up I 5 g) L F := h.seti (j := 5) (by decide) (by decide) g
theorem RM.a6 (h : RM t f m I L F) : f (m + 7) = some (.inl (t 0, 60, .inl (I 6))) := h.2 6 (by decide) (by decide)
theorem RM.s6 (h : RM t f m I L F) (g : Nat → Int32) : RM t (rl_up f (m + 7) (.inl (t 0, 60, .inl g))) m (va_up I 6 g) L F := h.seti (j := 6) (by decide) (by decide) g
theorem RM.a7 (h : RM t f m I L F) : f (m + 8) = some (.inl (t 0, 12, .inl (I 7))) := h.2 7 (by decide) (by decide)
theorem RM.s7 (h : RM t f m I L F) (g : Nat → Int32) : RM t (rl_up f (m + 8) (.inl (t 0, 12, .inl g))) m (va_up I 7 g) L F := h.seti (j := 7) (by decide) (by decide) g
theorem RM.a8 (h : RM t f m I L F) : f (m + 9) = some (.inl (t 0, 24, .inl (I 8))) := h.2 8 (by decide) (by decide)
theorem RM.s8 (h : RM t f m I L F) (g : Nat → Int32) : RM t (rl_up f (m + 9) (.inl (t 0, 24, .inl g))) m (va_up I 8 g) L F := h.seti (j := 8) (by decide) (by decide) g
theorem RM.a9 (h : RM t f m I L F) : f (m + 10) = some (.inl (t 0, 24, .inl (I 9))) := h.2 9 (by decide) (by decide)
theorem RM.s9 (h : RM t f m I L F) (g : Nat → Int32) : RM t (rl_up f (m + 10) (.inl (t 0, 24, .inl g))) m (va_up I 9 g) L F := h.seti (j := 9) (by decide) (by decide) g
theorem RM.a10 (h : RM t f m I L F) : f (m + 11) = some (.inl (t 0, 24, .inl (I 10))) := h.2 10 (by decide) (by decide)
theorem RM.s10 (h : RM t f m I L F) (g : Nat → Int32) : RM t (rl_up f (m + 11) (.inl (t 0, 24, .inl g))) m (va_up I 10 g) L F := h.seti (j := 10) (by decide) (by decide) g
theorem RM.f11 (h : RM t f m I L F) (v : Int32) : RM t (rl_up f m (.inr (11, (rm_fs m F).set 11 (.int v)))) m I L (upd F 11 v) := h.setf rfl
theorem RM.a12 (h : RM t f m I L F) : f (m + 12) = some (.inl (t 0, 43100, .inl (I 12))) := h.2 12 (by decide) (by decide)
theorem RM.s12 (h : RM t f m I L F) (g : Nat → Int32) : RM t (rl_up f (m + 12) (.inl (t 0, 43100, .inl g))) m (va_up I 12 g) L F := h.seti (j := 12) (by decide) (by decide) g
theorem RM.a13 (h : RM t f m I L F) : f (m + 13) = some (.inl (t 0, 344800, .inl (I 13))) := h.2 13 (by decide) (by decide)
theorem RM.s13 (h : RM t f m I L F) (g : Nat → Int32) : RM t (rl_up f (m + 13) (.inl (t 0, 344800, .inl g))) m (va_up I 13 g) L F := h.seti (j := 13) (by decide) (by decide) g
theorem RM.f14 (h : RM t f m I L F) (v : Int32) : RM t (rl_up f m (.inr (11, (rm_fs m F).set 14 (.int v)))) m I L (upd F 14 v) := h.setf rfl
theorem RM.a15 (h : RM t f m I L F) : f (m + 14) = some (.inl (t 0, 26200, .inl (I 15))) := h.2 15 (by decide) (by decide)
theorem RM.s15 (h : RM t f m I L F) (g : Nat → Int32) : RM t (rl_up f (m + 14) (.inl (t 0, 26200, .inl g))) m (va_up I 15 g) L F := h.seti (j := 15) (by decide) (by decide) g
theorem RM.a16 (h : RM t f m I L F) : f (m + 15) = some (.inl (t 0, 26200, .inl (I 16))) := h.2 16 (by decide) (by decide)
theorem RM.s16 (h : RM t f m I L F) (g : Nat → Int32) : RM t (rl_up f (m + 15) (.inl (t 0, 26200, .inl g))) m (va_up I 16 g) L F := h.seti (j := 16) (by decide) (by decide) g
theorem RM.a17 (h : RM t f m I L F) : f (m + 16) = some (.inl (t 1, 131000, .inr (.inl (L 17)))) := h.2 17 (by decide) (by decide)
theorem RM.s17 (h : RM t f m I L F) (g : Nat → Int64) : RM t (rl_up f (m + 16) (.inl (t 1, 131000, .inr (.inl g)))) m I (va_up L 17 g) F := h.setl (j := 17) (by decide) (by decide) g
theorem RM.a18 (h : RM t f m I L F) : f (m + 17) = some (.inl (t 0, 131000, .inl (I 18))) := h.2 18 (by decide) (by decide)
theorem RM.s18 (h : RM t f m I L F) (g : Nat → Int32) : RM t (rl_up f (m + 17) (.inl (t 0, 131000, .inl g))) m (va_up I 18 g) L F := h.seti (j := 18) (by decide) (by decide) g
theorem RM.a19 (h : RM t f m I L F) : f (m + 18) = some (.inl (t 0, 10, .inl (I 19))) := h.2 19 (by decide) (by decide)
theorem RM.s19 (h : RM t f m I L F) (g : Nat → Int32) : RM t (rl_up f (m + 18) (.inl (t 0, 10, .inl g))) m (va_up I 19 g) L F := h.seti (j := 19) (by decide) (by decide) g
theorem RM.a20 (h : RM t f m I L F) : f (m + 19) = some (.inl (t 1, 5, .inr (.inl (L 20)))) := h.2 20 (by decide) (by decide)
theorem RM.s20 (h : RM t f m I L F) (g : Nat → Int64) : RM t (rl_up f (m + 19) (.inl (t 1, 5, .inr (.inl g)))) m I (va_up L 20 g) F := h.setl (j := 20) (by decide) (by decide) g
theorem RM.a21 (h : RM t f m I L F) : f (m + 20) = some (.inl (t 0, 5, .inl (I 21))) := h.2 21 (by decide) (by decide)
theorem RM.s21 (h : RM t f m I L F) (g : Nat → Int32) : RM t (rl_up f (m + 20) (.inl (t 0, 5, .inl g))) m (va_up I 21 g) L F := h.seti (j := 21) (by decide) (by decide) g
theorem RM.f22 (h : RM t f m I L F) (v : Int32) : RM t (rl_up f m (.inr (11, (rm_fs m F).set 22 (.int v)))) m I L (upd F 22 v) := h.setf rfl
theorem RM.a23 (h : RM t f m I L F) : f (m + 21) = some (.inl (t 1, 250, .inr (.inl (L 23)))) := h.2 23 (by decide) (by decide)
theorem RM.s23 (h : RM t f m I L F) (g : Nat → Int64) : RM t (rl_up f (m + 21) (.inl (t 1, 250, .inr (.inl g)))) m I (va_up L 23 g) F := h.setl (j := 23) (by decide) (by decide) g
theorem RM.f24 (h : RM t f m I L F) (v : Int32) : RM t (rl_up f m (.inr (11, (rm_fs m F).set 24 (.int v)))) m I L (upd F 24 v) := h.setf rfl
theorem RM.f25 (h : RM t f m I L F) (v : Int32) : RM t (rl_up f m (.inr (11, (rm_fs m F).set 25 (.int v)))) m I L (upd F 25 v) := h.setf rfl
theorem RM.f26 (h : RM t f m I L F) (v : Int32) : RM t (rl_up f m (.inr (11, (rm_fs m F).set 26 (.int v)))) m I L (upd F 26 v) := h.setf rfl
theorem RM.f27 (h : RM t f m I L F) (v : Int32) : RM t (rl_up f m (.inr (11, (rm_fs m F).set 27 (.int v)))) m I L (upd F 27 v) := h.setf rfl
theorem RM.f28 (h : RM t f m I L F) (v : Int32) : RM t (rl_up f m (.inr (11, (rm_fs m F).set 28 (.int v)))) m I L (upd F 28 v) := h.setf rfl
theorem RM.f29 (h : RM t f m I L F) (v : Int32) : RM t (rl_up f m (.inr (11, (rm_fs m F).set 29 (.int v)))) m I L (upd F 29 v) := h.setf rfl
theorem RM.f30 (h : RM t f m I L F) (v : Int32) : RM t (rl_up f m (.inr (11, (rm_fs m F).set 30 (.int v)))) m I L (upd F 30 v) := h.setf rfl
theorem RM.a31 (h : RM t f m I L F) : f (m + 22) = some (.inl (t 1, 40, .inr (.inl (L 31)))) := h.2 31 (by decide) (by decide)
theorem RM.s31 (h : RM t f m I L F) (g : Nat → Int64) : RM t (rl_up f (m + 22) (.inl (t 1, 40, .inr (.inl g)))) m I (va_up L 31 g) F := h.setl (j := 31) (by decide) (by decide) g
theorem RM.a32 (h : RM t f m I L F) : f (m + 23) = some (.inl (t 0, 40, .inl (I 32))) := h.2 32 (by decide) (by decide)
theorem RM.s32 (h : RM t f m I L F) (g : Nat → Int32) : RM t (rl_up f (m + 23) (.inl (t 0, 40, .inl g))) m (va_up I 32 g) L F := h.seti (j := 32) (by decide) (by decide) g
theorem RM.f33 (h : RM t f m I L F) (v : Int32) : RM t (rl_up f m (.inr (11, (rm_fs m F).set 33 (.int v)))) m I L (upd F 33 v) := h.setf rfl
theorem RM.a34 (h : RM t f m I L F) : f (m + 24) = some (.inl (t 0, 40, .inl (I 34))) := h.2 34 (by decide) (by decide)
theorem RM.s34 (h : RM t f m I L F) (g : Nat → Int32) : RM t (rl_up f (m + 24) (.inl (t 0, 40, .inl g))) m (va_up I 34 g) L F := h.seti (j := 34) (by decide) (by decide) g
theorem RM.a35 (h : RM t f m I L F) : f (m + 25) = some (.inl (t 0, 40, .inl (I 35))) := h.2 35 (by decide) (by decide)
theorem RM.s35 (h : RM t f m I L F) (g : Nat → Int32) : RM t (rl_up f (m + 25) (.inl (t 0, 40, .inl g))) m (va_up I 35 g) L F := h.seti (j := 35) (by decide) (by decide) g
theorem RM.a36 (h : RM t f m I L F) : f (m + 26) = some (.inl (t 0, 40, .inl (I 36))) := h.2 36 (by decide) (by decide)
theorem RM.s36 (h : RM t f m I L F) (g : Nat → Int32) : RM t (rl_up f (m + 26) (.inl (t 0, 40, .inl g))) m (va_up I 36 g) L F := h.seti (j := 36) (by decide) (by decide) g
theorem RM.f37 (h : RM t f m I L F) (v : Int32) : RM t (rl_up f m (.inr (11, (rm_fs m F).set 37 (.int v)))) m I L (upd F 37 v) := h.setf rfl
theorem RM.a38 (h : RM t f m I L F) : f (m + 27) = some (.inl (t 1, 250, .inr (.inl (L 38)))) := h.2 38 (by decide) (by decide)
theorem RM.s38 (h : RM t f m I L F) (g : Nat → Int64) : RM t (rl_up f (m + 27) (.inl (t 1, 250, .inr (.inl g)))) m I (va_up L 38 g) F := h.setl (j := 38) (by decide) (by decide) g
theorem RM.a39 (h : RM t f m I L F) : f (m + 28) = some (.inl (t 0, 130, .inl (I 39))) := h.2 39 (by decide) (by decide)
theorem RM.s39 (h : RM t f m I L F) (g : Nat → Int32) : RM t (rl_up f (m + 28) (.inl (t 0, 130, .inl g))) m (va_up I 39 g) L F := h.seti (j := 39) (by decide) (by decide) g
theorem RM.a40 (h : RM t f m I L F) : f (m + 29) = some (.inl (t 0, 130, .inl (I 40))) := h.2 40 (by decide) (by decide)
theorem RM.s40 (h : RM t f m I L F) (g : Nat → Int32) : RM t (rl_up f (m + 29) (.inl (t 0, 130, .inl g))) m (va_up I 40 g) L F := h.seti (j := 40) (by decide) (by decide) g
theorem RM.f41 (h : RM t f m I L F) (v : Int32) : RM t (rl_up f m (.inr (11, (rm_fs m F).set 41 (.int v)))) m I L (upd F 41 v) := h.setf rfl
theorem RM.f42 (h : RM t f m I L F) (v : Int32) : RM t (rl_up f m (.inr (11, (rm_fs m F).set 42 (.int v)))) m I L (upd F 42 v) := h.setf rfl
theorem RM.f43 (h : RM t f m I L F) (v : Int32) : RM t (rl_up f m (.inr (11, (rm_fs m F).set 43 (.int v)))) m I L (upd F 43 v) := h.setf rfl
theorem RM.f44 (h : RM t f m I L F) (v : Int32) : RM t (rl_up f m (.inr (11, (rm_fs m F).set 44 (.int v)))) m I L (upd F 44 v) := h.setf rfl
theorem RM.f45 (h : RM t f m I L F) (v : Int32) : RM t (rl_up f m (.inr (11, (rm_fs m F).set 45 (.int v)))) m I L (upd F 45 v) := h.setf rfl
theorem RM.a46 (h : RM t f m I L F) : f (m + 30) = some (.inl (t 0, 7, .inl (I 46))) := h.2 46 (by decide) (by decide)
theorem RM.s46 (h : RM t f m I L F) (g : Nat → Int32) : RM t (rl_up f (m + 30) (.inl (t 0, 7, .inl g))) m (va_up I 46 g) L F := h.seti (j := 46) (by decide) (by decide) g
theorem RM.a47 (h : RM t f m I L F) : f (m + 31) = some (.inl (t 1, 7, .inr (.inl (L 47)))) := h.2 47 (by decide) (by decide)
theorem RM.s47 (h : RM t f m I L F) (g : Nat → Int64) : RM t (rl_up f (m + 31) (.inl (t 1, 7, .inr (.inl g)))) m I (va_up L 47 g) F := h.setl (j := 47) (by decide) (by decide) g
theorem RM.a48 (h : RM t f m I L F) : f (m + 32) = some (.inl (t 0, 7, .inl (I 48))) := h.2 48 (by decide) (by decide)
theorem RM.s48 (h : RM t f m I L F) (g : Nat → Int32) : RM t (rl_up f (m + 32) (.inl (t 0, 7, .inl g))) m (va_up I 48 g) L F := h.seti (j := 48) (by decide) (by decide) g
end RMS
end
section

theorem rg_ix {x : Int32} {n : Nat} {a b : Int64} (ha : a.toInt = 0) (hb : b.toInt = n) (hn : n < 2 ^ 31) : (a ≤ x.toInt64 ∧ x.toInt64 ≤ b) ↔ ∃ j : Nat, j < n + 1 ∧ x = nI j := by
  rw [Int64.le_iff_toInt_le, Int64.le_iff_toInt_le, Int32.toInt_toInt64, ha, hb]
  constructor
  · rintro ⟨h1, h2⟩
    refine ⟨x.toInt.toNat, by omega, ?_⟩
    apply Int32.toInt_inj.mp
    rw [nI_toInt (by omega)]
    omega
  · rintro ⟨j, hj, rfl⟩
    rw [nI_toInt (by omega)]
    omega
theorem rg_no {x : Int32} {n : Nat} (h : ¬ ∃ j : Nat, j < n ∧ x = nI j) : ∀ j : Nat, j < n → x ≠ nI j := fun j hj e => h ⟨j, hj, e⟩

set_option maxHeartbeats 4000000 in
set_option maxRecDepth 100000 in
theorem cR_in (l : Launch) (D : va_G) (t : Nat → ClassId) (A : Nat → Prop) (f : rl_M) (z : Nat) (v a b : Int64) : rl_Met l yX12_in (.code yX12_in cX12_in 6 (some FieldType.boolean)) (rl_rm 0 0 0) D t A f z [.long (v), .long (a), .long (b)] (rl_qi z fun r f1 => f = f1 ∧ ((r = 1 ∧ (a ≤ v ∧ v ≤ b)) ∨ (r = 0 ∧ ¬ (a ≤ v ∧ v ≤ b)))) := by
  refine rl_begin (own := RX12) (lv := [(0, .long (v)), (2, .long (a)), (4, .long (b))]) (by decide +kernel) rfl (Nat.le_of_ble_eq_true rfl) rfl fun p e s m0 args below meth c ls hC hr hlk hnm hW hl hx hb => ?_
  refine lv_lload_n hx hb dX12_in_0 rfl (lv_at hl 0 rfl) ?_
  refine lv_lload_n hx hb dX12_in_1 rfl (lv_at hl 1 rfl) ?_
  refine W.lcmp hx hb dX12_in_2 ?_
  refine lv_if_lt (tgt := 17) hx hb dX12_in_3 (by decide) (fun c1 => ?_) (fun c1 => ?_)
  · refine lv_iconst (v := (nI (0))) hx hb dX12_in_17 (by decide) ?_
    exact rl_zret hC hW hr hlk rfl (Nat.le_refl _) (Nat.le_refl _) ⟨_, rfl, rfl, rfl, rfl, Or.inr ⟨by decide, fun q => absurd ((lg_cmp_lt _ _).mp c1) (Int64.not_lt.mpr q.1)⟩⟩ dX12_in_18
  · refine lv_lload_n hx hb dX12_in_6 rfl (lv_at hl 0 rfl) ?_
    refine lv_lload hx hb dX12_in_7 (lv_at hl 2 rfl) ?_
    refine W.lcmp hx hb dX12_in_9 ?_
    refine lv_if_gt (tgt := 17) hx hb dX12_in_10 (by decide) (fun c2 => ?_) (fun c2 => ?_)
    · refine lv_iconst (v := (nI (0))) hx hb dX12_in_17 (by decide) ?_
      exact rl_zret hC hW hr hlk rfl (Nat.le_refl _) (Nat.le_refl _) ⟨_, rfl, rfl, rfl, rfl, Or.inr ⟨by decide, fun q => absurd ((lg_cmp_gt _ _).mp c2) (Int64.not_lt.mpr q.2)⟩⟩ dX12_in_18
    · refine lv_iconst (v := (nI (1))) hx hb dX12_in_13 (by decide) ?_
      refine lv_goto (tgt := 18) hx hb dX12_in_14 (by decide) ?_
      exact rl_zret hC hW hr hlk rfl (Nat.le_refl _) (Nat.le_refl _) ⟨_, rfl, rfl, rfl, rfl, Or.inl ⟨by decide, Int64.not_lt.mp (fun q => c1 ((lg_cmp_lt _ _).mpr q)), Int64.not_lt.mp (fun q => c2 ((lg_cmp_gt _ _).mpr q))⟩⟩ dX12_in_18

set_option maxHeartbeats 4000000 in
set_option maxRecDepth 100000 in
theorem cR_isPlace (l : Launch) (D : va_G) (t : Nat → ClassId) (A : Nat → Prop) (f : rl_M) (z : Nat) (x : Int32) : rl_Met l yX12_isPlace (.code yX12_isPlace cX12_isPlace 1 (some FieldType.boolean)) (rl_rm 1 0 0) D t A f z [.int (x)] (rl_qi z fun r f1 => f = f1 ∧ ((r = 1 ∧ ∃ j : Nat, j < 10 ∧ x = nI j) ∨ (r = 0 ∧ ¬ ∃ j : Nat, j < 10 ∧ x = nI j))) := by
  refine rl_begin (own := RX12) (lv := [(0, .int (x))]) (by decide +kernel) rfl (Nat.le_of_ble_eq_true rfl) rfl fun p e s m0 args below meth c ls hC hr hlk hnm hW hl hx hb => ?_
  refine lv_iload_n hx hb dX12_isPlace_0 rfl (lv_at hl 0 rfl) ?_
  refine lv_i2l hx hb dX12_isPlace_1 rfl ?_
  refine lv_lconst (v := 0) hx hb dX12_isPlace_2 (by decide) ?_
  refine lv_ldc2 (v := 9) hx hb hC.2.2.2.1 (hC.2.2.2.2.1 _ (List.mem_cons_of_mem _ mw_809)) dX12_isPlace_3 ?_
  refine rl_calliQ (rl_runS (As := [.long ((x).toInt64), .long (0), .long (9)]) (rest := []) hC hW (cR_in l D t A f z _ _ _) cs_X12_117 sm_X12_in ⟨(Nat.le_of_ble_eq_true rfl), (Nat.le_of_ble_eq_true rfl)⟩ rfl hl.1 rfl (Nat.le_of_ble_eq_true rfl) dX12_isPlace_6 ⟨(Nat.le_of_ble_eq_true rfl), (Nat.le_of_ble_eq_true rfl)⟩) hW (fun r f1 H locs hp hW => ?_)
  obtain ⟨rfl, hp⟩ := hp
  rcases hp with ⟨rfl, hp⟩ | ⟨rfl, hp⟩
  · exact rl_zret hC hW hr hlk rfl (Nat.le_refl _) (Nat.le_refl _) ⟨_, rfl, rfl, rfl, rfl, Or.inl ⟨rfl, (rg_ix (n := 9) (by decide) (by decide) (by decide)).mp hp⟩⟩ dX12_isPlace_9
  · exact rl_zret hC hW hr hlk rfl (Nat.le_refl _) (Nat.le_refl _) ⟨_, rfl, rfl, rfl, rfl, Or.inr ⟨rfl, fun q => hp ((rg_ix (n := 9) (by decide) (by decide) (by decide)).mpr q)⟩⟩ dX12_isPlace_9

set_option maxHeartbeats 4000000 in
set_option maxRecDepth 100000 in
theorem cR_isVersion (l : Launch) (D : va_G) (t : Nat → ClassId) (A : Nat → Prop) (f : rl_M) (z : Nat) (x : Int32) : rl_Met l yX12_isVersion (.code yX12_isVersion cX12_isVersion 1 (some FieldType.boolean)) (rl_rm 1 0 0) D t A f z [.int (x)] (rl_qi z fun r f1 => f = f1 ∧ ((r = 1 ∧ ∃ j : Nat, j < 3 ∧ x = nI j) ∨ (r = 0 ∧ ¬ ∃ j : Nat, j < 3 ∧ x = nI j))) := by
  refine rl_begin (own := RX12) (lv := [(0, .int (x))]) (by decide +kernel) rfl (Nat.le_of_ble_eq_true rfl) rfl fun p e s m0 args below meth c ls hC hr hlk hnm hW hl hx hb => ?_
  refine lv_iload_n hx hb dX12_isVersion_0 rfl (lv_at hl 0 rfl) ?_
  refine lv_i2l hx hb dX12_isVersion_1 rfl ?_
  refine lv_lconst (v := 0) hx hb dX12_isVersion_2 (by decide) ?_
  refine lv_ldc2 (v := 2) hx hb hC.2.2.2.1 (hC.2.2.2.2.1 _ (List.mem_cons_of_mem _ mw_808)) dX12_isVersion_3 ?_
  refine rl_calliQ (rl_runS (As := [.long ((x).toInt64), .long (0), .long (2)]) (rest := []) hC hW (cR_in l D t A f z _ _ _) cs_X12_117 sm_X12_in ⟨(Nat.le_of_ble_eq_true rfl), (Nat.le_of_ble_eq_true rfl)⟩ rfl hl.1 rfl (Nat.le_of_ble_eq_true rfl) dX12_isVersion_6 ⟨(Nat.le_of_ble_eq_true rfl), (Nat.le_of_ble_eq_true rfl)⟩) hW (fun r f1 H locs hp hW => ?_)
  obtain ⟨rfl, hp⟩ := hp
  rcases hp with ⟨rfl, hp⟩ | ⟨rfl, hp⟩
  · exact rl_zret hC hW hr hlk rfl (Nat.le_refl _) (Nat.le_refl _) ⟨_, rfl, rfl, rfl, rfl, Or.inl ⟨rfl, (rg_ix (n := 2) (by decide) (by decide) (by decide)).mp hp⟩⟩ dX12_isVersion_9
  · exact rl_zret hC hW hr hlk rfl (Nat.le_refl _) (Nat.le_refl _) ⟨_, rfl, rfl, rfl, rfl, Or.inr ⟨rfl, fun q => hp ((rg_ix (n := 2) (by decide) (by decide) (by decide)).mpr q)⟩⟩ dX12_isVersion_9

set_option maxHeartbeats 4000000 in
set_option maxRecDepth 100000 in
theorem cR_isRecordKind (l : Launch) (D : va_G) (t : Nat → ClassId) (A : Nat → Prop) (f : rl_M) (z : Nat) (x : Int64) : rl_Met l yX12_isRecordKind (.code yX12_isRecordKind cX12_isRecordKind 2 (some FieldType.boolean)) (rl_rm 1 0 0) D t A f z [.long (x)] (rl_qi z fun r f1 => f = f1 ∧ ((r = 1 ∧ (2 ≤ x ∧ x ≤ 5)) ∨ (r = 0 ∧ ¬ (2 ≤ x ∧ x ≤ 5)))) := by
  refine rl_begin (own := RX12) (lv := [(0, .long (x))]) (by decide +kernel) rfl (Nat.le_of_ble_eq_true rfl) rfl fun p e s m0 args below meth c ls hC hr hlk hnm hW hl hx hb => ?_
  refine lv_lload_n hx hb dX12_isRecordKind_0 rfl (lv_at hl 0 rfl) ?_
  refine lv_ldc2 (v := 2) hx hb hC.2.2.2.1 (hC.2.2.2.2.1 _ (List.mem_cons_of_mem _ mw_808)) dX12_isRecordKind_1 ?_
  refine lv_ldc2 (v := 5) hx hb hC.2.2.2.1 (hC.2.2.2.2.1 _ (List.mem_cons_of_mem _ mw_821)) dX12_isRecordKind_4 ?_
  refine rl_calliQ (rl_runS (As := [.long (x), .long (2), .long (5)]) (rest := []) hC hW (cR_in l D t A f z _ _ _) cs_X12_117 sm_X12_in ⟨(Nat.le_of_ble_eq_true rfl), (Nat.le_of_ble_eq_true rfl)⟩ rfl hl.1 rfl (Nat.le_of_ble_eq_true rfl) dX12_isRecordKind_7 ⟨(Nat.le_of_ble_eq_true rfl), (Nat.le_of_ble_eq_true rfl)⟩) hW (fun r f1 H locs hp hW => ?_)
  obtain ⟨rfl, hp⟩ := hp
  rcases hp with ⟨rfl, hp⟩ | ⟨rfl, hp⟩
  · exact rl_zret hC hW hr hlk rfl (Nat.le_refl _) (Nat.le_refl _) ⟨_, rfl, rfl, rfl, rfl, Or.inl ⟨rfl, hp⟩⟩ dX12_isRecordKind_10
  · exact rl_zret hC hW hr hlk rfl (Nat.le_refl _) (Nat.le_refl _) ⟨_, rfl, rfl, rfl, rfl, Or.inr ⟨rfl, hp⟩⟩ dX12_isRecordKind_10
end
