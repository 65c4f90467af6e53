section
-- ===== PART A: goes FIRST, ahead of the names: the tables' words, and 'selects' of the private methods out of them =====
/-- a private method of a class that the tables say can be made, by its rows of tables_1 -/
def lw_okq (q : MethodName × Nat) : Prop := (q.1.cls ≠ "java/lang/invoke/MethodHandle" ∧ q.1.cls ≠ "java/lang/invoke/VarHandle") ∧ Cond.instantiable q.1.cls q.2 ∈ tables_1 ∧ Cond.privateMethod q.1 ∈ tables_1 ∧ Cond.instanceMethod q.1 ∈ tables_1
theorem lw_p0 : lw_okq (⟨"TwoScribes$PageText", "readHalf", "()V"⟩, 7) := ⟨⟨by decide +kernel, by decide +kernel⟩, List.mem_of_getElem? (i := 175) (by decide +kernel), List.mem_of_getElem? (i := 237) (by decide +kernel), List.mem_of_getElem? (i := 238) (by decide +kernel)⟩
theorem lw_p1 : lw_okq (⟨"TwoScribes$PageText", "letterAtCursor", "()I"⟩, 7) := ⟨⟨by decide +kernel, by decide +kernel⟩, List.mem_of_getElem? (i := 175) (by decide +kernel), List.mem_of_getElem? (i := 244) (by decide +kernel), List.mem_of_getElem? (i := 245) (by decide +kernel)⟩
theorem lw_p2 : lw_okq (⟨"TwoScribes$PageText", "isAtCharacter", "()Z"⟩, 7) := ⟨⟨by decide +kernel, by decide +kernel⟩, List.mem_of_getElem? (i := 175) (by decide +kernel), List.mem_of_getElem? (i := 248) (by decide +kernel), List.mem_of_getElem? (i := 249) (by decide +kernel)⟩
theorem lw_p3 : lw_okq (⟨"TwoScribes$PageText", "skip", "(C)Z"⟩, 7) := ⟨⟨by decide +kernel, by decide +kernel⟩, List.mem_of_getElem? (i := 175) (by decide +kernel), List.mem_of_getElem? (i := 255) (by decide +kernel), List.mem_of_getElem? (i := 256) (by decide +kernel)⟩
theorem lw_p4 : lw_okq (⟨"TwoScribes$PageText", "readMisreading", "()Z"⟩, 7) := ⟨⟨by decide +kernel, by decide +kernel⟩, List.mem_of_getElem? (i := 175) (by decide +kernel), List.mem_of_getElem? (i := 259) (by decide +kernel), List.mem_of_getElem? (i := 260) (by decide +kernel)⟩
theorem lw_p5 : lw_okq (⟨"TwoScribes$PageText", "digitAtCursor", "()I"⟩, 7) := ⟨⟨by decide +kernel, by decide +kernel⟩, List.mem_of_getElem? (i := 175) (by decide +kernel), List.mem_of_getElem? (i := 263) (by decide +kernel), List.mem_of_getElem? (i := 264) (by decide +kernel)⟩
theorem lw_p6 : lw_okq (⟨"TwoScribes$History", "stateAt", "(I)LTwoScribes$State;"⟩, 3) := ⟨⟨by decide +kernel, by decide +kernel⟩, List.mem_of_getElem? (i := 155) (by decide +kernel), List.mem_of_getElem? (i := 274) (by decide +kernel), List.mem_of_getElem? (i := 275) (by decide +kernel)⟩
theorem lw_p7 : lw_okq (⟨"TwoScribes$State", "spendTick", "(I)V"⟩, 11) := ⟨⟨by decide +kernel, by decide +kernel⟩, List.mem_of_getElem? (i := 19) (by decide +kernel), List.mem_of_getElem? (i := 422) (by decide +kernel), List.mem_of_getElem? (i := 423) (by decide +kernel)⟩
theorem lw_p8 : lw_okq (⟨"TwoScribes$State", "goOnDipping", "(LTwoScribes$Scribe;)V"⟩, 11) := ⟨⟨by decide +kernel, by decide +kernel⟩, List.mem_of_getElem? (i := 19) (by decide +kernel), List.mem_of_getElem? (i := 431) (by decide +kernel), List.mem_of_getElem? (i := 432) (by decide +kernel)⟩
theorem lw_p9 : lw_okq (⟨"TwoScribesModel", "fault", "()I"⟩, 13) := ⟨⟨by decide +kernel, by decide +kernel⟩, List.mem_of_getElem? (i := 539) (by decide +kernel), List.mem_of_getElem? (i := 589) (by decide +kernel), List.mem_of_getElem? (i := 590) (by decide +kernel)⟩
theorem lw_p10 : lw_okq (⟨"TwoScribesModel", "isHere", "(II)Z"⟩, 13) := ⟨⟨by decide +kernel, by decide +kernel⟩, List.mem_of_getElem? (i := 539) (by decide +kernel), List.mem_of_getElem? (i := 593) (by decide +kernel), List.mem_of_getElem? (i := 594) (by decide +kernel)⟩
theorem lw_p11 : lw_okq (⟨"TwoScribesModel", "takesOne", "(I)Z"⟩, 13) := ⟨⟨by decide +kernel, by decide +kernel⟩, List.mem_of_getElem? (i := 539) (by decide +kernel), List.mem_of_getElem? (i := 600) (by decide +kernel), List.mem_of_getElem? (i := 601) (by decide +kernel)⟩
theorem lw_p12 : lw_okq (⟨"TwoScribesModel", "readsMisreading", "()Z"⟩, 13) := ⟨⟨by decide +kernel, by decide +kernel⟩, List.mem_of_getElem? (i := 539) (by decide +kernel), List.mem_of_getElem? (i := 604) (by decide +kernel), List.mem_of_getElem? (i := 605) (by decide +kernel)⟩
theorem lw_p13 : lw_okq (⟨"TwoScribesModel", "keeps", "()V"⟩, 13) := ⟨⟨by decide +kernel, by decide +kernel⟩, List.mem_of_getElem? (i := 539) (by decide +kernel), List.mem_of_getElem? (i := 608) (by decide +kernel), List.mem_of_getElem? (i := 609) (by decide +kernel)⟩
theorem lw_p14 : lw_okq (⟨"TwoScribesModel", "ends", "(I)I"⟩, 13) := ⟨⟨by decide +kernel, by decide +kernel⟩, List.mem_of_getElem? (i := 539) (by decide +kernel), List.mem_of_getElem? (i := 612) (by decide +kernel), List.mem_of_getElem? (i := 613) (by decide +kernel)⟩
theorem lw_p15 : lw_okq (⟨"TwoScribesModel", "isPlace", "(I)Z"⟩, 13) := ⟨⟨by decide +kernel, by decide +kernel⟩, List.mem_of_getElem? (i := 539) (by decide +kernel), List.mem_of_getElem? (i := 620) (by decide +kernel), List.mem_of_getElem? (i := 621) (by decide +kernel)⟩
def lw_privs_1 : List (MethodName × Nat) := [(⟨"TwoScribes$PageText", "readHalf", "()V"⟩, 7), (⟨"TwoScribes$PageText", "letterAtCursor", "()I"⟩, 7), (⟨"TwoScribes$PageText", "isAtCharacter", "()Z"⟩, 7), (⟨"TwoScribes$PageText", "skip", "(C)Z"⟩, 7), (⟨"TwoScribes$PageText", "readMisreading", "()Z"⟩, 7), (⟨"TwoScribes$PageText", "digitAtCursor", "()I"⟩, 7), (⟨"TwoScribes$History", "stateAt", "(I)LTwoScribes$State;"⟩, 3), (⟨"TwoScribes$State", "spendTick", "(I)V"⟩, 11), (⟨"TwoScribes$State", "goOnDipping", "(LTwoScribes$Scribe;)V"⟩, 11), (⟨"TwoScribesModel", "fault", "()I"⟩, 13), (⟨"TwoScribesModel", "isHere", "(II)Z"⟩, 13), (⟨"TwoScribesModel", "takesOne", "(I)Z"⟩, 13), (⟨"TwoScribesModel", "readsMisreading", "()Z"⟩, 13), (⟨"TwoScribesModel", "keeps", "()V"⟩, 13), (⟨"TwoScribesModel", "ends", "(I)I"⟩, 13), (⟨"TwoScribesModel", "isPlace", "(I)Z"⟩, 13)]
theorem lw_r1 : ∀ q ∈ lw_privs_1, lw_okq q := List.forall_mem_cons.mpr ⟨lw_p0, List.forall_mem_cons.mpr ⟨lw_p1, List.forall_mem_cons.mpr ⟨lw_p2, List.forall_mem_cons.mpr ⟨lw_p3, List.forall_mem_cons.mpr ⟨lw_p4, List.forall_mem_cons.mpr ⟨lw_p5, List.forall_mem_cons.mpr ⟨lw_p6, List.forall_mem_cons.mpr ⟨lw_p7, List.forall_mem_cons.mpr ⟨lw_p8, List.forall_mem_cons.mpr ⟨lw_p9, List.forall_mem_cons.mpr ⟨lw_p10, List.forall_mem_cons.mpr ⟨lw_p11, List.forall_mem_cons.mpr ⟨lw_p12, List.forall_mem_cons.mpr ⟨lw_p13, List.forall_mem_cons.mpr ⟨lw_p14, List.forall_mem_cons.mpr ⟨lw_p15, fun _ h => absurd h List.not_mem_nil⟩⟩⟩⟩⟩⟩⟩⟩⟩⟩⟩⟩⟩⟩⟩⟩
theorem lw_p16 : lw_okq (⟨"TwoScribesModel", "isBegun", "(I)Z"⟩, 13) := ⟨⟨by decide +kernel, by decide +kernel⟩, List.mem_of_getElem? (i := 539) (by decide +kernel), List.mem_of_getElem? (i := 625) (by decide +kernel), List.mem_of_getElem? (i := 626) (by decide +kernel)⟩
theorem lw_p17 : lw_okq (⟨"TwoScribesModel", "nextPlace", "(I)I"⟩, 13) := ⟨⟨by decide +kernel, by decide +kernel⟩, List.mem_of_getElem? (i := 539) (by decide +kernel), List.mem_of_getElem? (i := 629) (by decide +kernel), List.mem_of_getElem? (i := 630) (by decide +kernel)⟩
theorem lw_p18 : lw_okq (⟨"TwoScribesModel", "letterAt", "(I)I"⟩, 13) := ⟨⟨by decide +kernel, by decide +kernel⟩, List.mem_of_getElem? (i := 539) (by decide +kernel), List.mem_of_getElem? (i := 633) (by decide +kernel), List.mem_of_getElem? (i := 634) (by decide +kernel)⟩
theorem lw_p19 : lw_okq (⟨"TwoScribesModel", "due", "(I)I"⟩, 13) := ⟨⟨by decide +kernel, by decide +kernel⟩, List.mem_of_getElem? (i := 539) (by decide +kernel), List.mem_of_getElem? (i := 637) (by decide +kernel), List.mem_of_getElem? (i := 638) (by decide +kernel)⟩
theorem lw_p20 : lw_okq (⟨"TwoScribesModel", "marginLeft", "()I"⟩, 13) := ⟨⟨by decide +kernel, by decide +kernel⟩, List.mem_of_getElem? (i := 539) (by decide +kernel), List.mem_of_getElem? (i := 645) (by decide +kernel), List.mem_of_getElem? (i := 646) (by decide +kernel)⟩
theorem lw_p21 : lw_okq (⟨"TwoScribesModel", "ticks", "()V"⟩, 13) := ⟨⟨by decide +kernel, by decide +kernel⟩, List.mem_of_getElem? (i := 539) (by decide +kernel), List.mem_of_getElem? (i := 675) (by decide +kernel), List.mem_of_getElem? (i := 676) (by decide +kernel)⟩
theorem lw_p22 : lw_okq (⟨"TwoScribesModel", "goes", "(I)V"⟩, 13) := ⟨⟨by decide +kernel, by decide +kernel⟩, List.mem_of_getElem? (i := 539) (by decide +kernel), List.mem_of_getElem? (i := 679) (by decide +kernel), List.mem_of_getElem? (i := 680) (by decide +kernel)⟩
theorem lw_p23 : lw_okq (⟨"TwoScribesModel", "does", "(I)I"⟩, 13) := ⟨⟨by decide +kernel, by decide +kernel⟩, List.mem_of_getElem? (i := 539) (by decide +kernel), List.mem_of_getElem? (i := 683) (by decide +kernel), List.mem_of_getElem? (i := 684) (by decide +kernel)⟩
theorem lw_p24 : lw_okq (⟨"TwoScribesModel", "writes", "(I)V"⟩, 13) := ⟨⟨by decide +kernel, by decide +kernel⟩, List.mem_of_getElem? (i := 539) (by decide +kernel), List.mem_of_getElem? (i := 687) (by decide +kernel), List.mem_of_getElem? (i := 688) (by decide +kernel)⟩
theorem lw_p25 : lw_okq (⟨"TwoScribesModel", "dips", "(I)V"⟩, 13) := ⟨⟨by decide +kernel, by decide +kernel⟩, List.mem_of_getElem? (i := 539) (by decide +kernel), List.mem_of_getElem? (i := 691) (by decide +kernel), List.mem_of_getElem? (i := 692) (by decide +kernel)⟩
theorem lw_p26 : lw_okq (⟨"TwoScribesModel", "tries", "()V"⟩, 13) := ⟨⟨by decide +kernel, by decide +kernel⟩, List.mem_of_getElem? (i := 539) (by decide +kernel), List.mem_of_getElem? (i := 734) (by decide +kernel), List.mem_of_getElem? (i := 735) (by decide +kernel)⟩
theorem lw_p27 : lw_okq (⟨"TwoScribesModel", "comesBack", "()V"⟩, 13) := ⟨⟨by decide +kernel, by decide +kernel⟩, List.mem_of_getElem? (i := 539) (by decide +kernel), List.mem_of_getElem? (i := 738) (by decide +kernel), List.mem_of_getElem? (i := 739) (by decide +kernel)⟩
theorem lw_p28 : lw_okq (⟨"TwoScribesModel", "doneBehind", "()I"⟩, 13) := ⟨⟨by decide +kernel, by decide +kernel⟩, List.mem_of_getElem? (i := 539) (by decide +kernel), List.mem_of_getElem? (i := 746) (by decide +kernel), List.mem_of_getElem? (i := 747) (by decide +kernel)⟩
theorem lw_p29 : lw_okq (⟨"TwoScribesModel", "isDone", "()Z"⟩, 13) := ⟨⟨by decide +kernel, by decide +kernel⟩, List.mem_of_getElem? (i := 539) (by decide +kernel), List.mem_of_getElem? (i := 750) (by decide +kernel), List.mem_of_getElem? (i := 751) (by decide +kernel)⟩
theorem lw_p30 : lw_okq (⟨"TwoScribesModel", "places", "(I)I"⟩, 13) := ⟨⟨by decide +kernel, by decide +kernel⟩, List.mem_of_getElem? (i := 539) (by decide +kernel), List.mem_of_getElem? (i := 774) (by decide +kernel), List.mem_of_getElem? (i := 775) (by decide +kernel)⟩
def lw_privs_2 : List (MethodName × Nat) := [(⟨"TwoScribesModel", "isBegun", "(I)Z"⟩, 13), (⟨"TwoScribesModel", "nextPlace", "(I)I"⟩, 13), (⟨"TwoScribesModel", "letterAt", "(I)I"⟩, 13), (⟨"TwoScribesModel", "due", "(I)I"⟩, 13), (⟨"TwoScribesModel", "marginLeft", "()I"⟩, 13), (⟨"TwoScribesModel", "ticks", "()V"⟩, 13), (⟨"TwoScribesModel", "goes", "(I)V"⟩, 13), (⟨"TwoScribesModel", "does", "(I)I"⟩, 13), (⟨"TwoScribesModel", "writes", "(I)V"⟩, 13), (⟨"TwoScribesModel", "dips", "(I)V"⟩, 13), (⟨"TwoScribesModel", "tries", "()V"⟩, 13), (⟨"TwoScribesModel", "comesBack", "()V"⟩, 13), (⟨"TwoScribesModel", "doneBehind", "()I"⟩, 13), (⟨"TwoScribesModel", "isDone", "()Z"⟩, 13), (⟨"TwoScribesModel", "places", "(I)I"⟩, 13)]
theorem lw_r2 : ∀ q ∈ lw_privs_2, lw_okq q := List.forall_mem_cons.mpr ⟨lw_p16, List.forall_mem_cons.mpr ⟨lw_p17, List.forall_mem_cons.mpr ⟨lw_p18, List.forall_mem_cons.mpr ⟨lw_p19, List.forall_mem_cons.mpr ⟨lw_p20, List.forall_mem_cons.mpr ⟨lw_p21, List.forall_mem_cons.mpr ⟨lw_p22, List.forall_mem_cons.mpr ⟨lw_p23, List.forall_mem_cons.mpr ⟨lw_p24, List.forall_mem_cons.mpr ⟨lw_p25, List.forall_mem_cons.mpr ⟨lw_p26, List.forall_mem_cons.mpr ⟨lw_p27, List.forall_mem_cons.mpr ⟨lw_p28, List.forall_mem_cons.mpr ⟨lw_p29, List.forall_mem_cons.mpr ⟨lw_p30, fun _ h => absurd h List.not_mem_nil⟩⟩⟩⟩⟩⟩⟩⟩⟩⟩⟩⟩⟩⟩⟩
def lw_privs : List (MethodName × Nat) := lw_privs_1 ++ (lw_privs_2)
def lw_tbl : List Cond := k2_sels lw_privs ++ tables_1
theorem lw_privs_ok : ∀ q ∈ lw_privs, lw_okq q := by
  show ∀ q ∈ lw_privs_1 ++ (lw_privs_2), lw_okq q
  exact List.forall_mem_append.mpr ⟨lw_r1, lw_r2⟩
/-- the streams that the claim lets the run draw from -/
abbrev lw_cs : List Choice := [Jvm.Choice.named "NaN.bits"]
theorem lw_bits : nanBits ∈ lw_cs := by first | decide | exact List.mem_cons_self | simp [lw_cs, nanBits]
-- ===== end of PART A; then your names; then what follows =====
end
section
def RX0 : String := "TwoScribes$History"
def TX0 : u_T := fun k => match k with
  | 0 => ("TwoScribes$History", "states", "[LTwoScribes$State;", true)
  | 1 => ("TwoScribes$History", "first", "I", false)
  | _ => ("TwoScribes$History", "size", "I", false)
def tyX0 : Nat → FieldType := fun k => match k with
  | 0 => .array (.object "TwoScribes$State")
  | 1 => .int
  | _ => .int
abbrev wsX00 : List Cond := u_ws RX0 TX0 3
theorem nmX0 : ∀ a, a < 3 → ∀ b, b < 3 → a ≠ b → (TX0 a).2.1 ≠ (TX0 b).2.1 := by decide +kernel
theorem tyX0_ok : ∀ k, k < 3 → parseFieldDescriptor (TX0 k).2.2.1 = some (tyX0 k) := by decide +kernel
abbrev cX0_init : ByteArray := prog_2_method_1_code
def yX0_init : MethodName := ⟨RX0, "<init>", "()V"⟩
abbrev cX0_record : ByteArray := prog_2_method_2_code
def yX0_record : MethodName := ⟨RX0, "record", "(LTwoScribes$State;)V"⟩
abbrev cX0_takeBack : ByteArray := prog_2_method_3_code
def yX0_takeBack : MethodName := ⟨RX0, "takeBack", "(LTwoScribes$State;)Z"⟩
abbrev cX0_stateAt : ByteArray := prog_2_method_4_code
def yX0_stateAt : MethodName := ⟨RX0, "stateAt", "(I)LTwoScribes$State;"⟩
def RX1 : String := "TwoScribes$Page"
def TX1 : u_T := fun k => match k with
  | 0 => ("TwoScribes$Page", "due", "[I", true)
  | 1 => ("TwoScribes$Page", "told", "[I", true)
  | 2 => ("TwoScribes$Page", "written", "[I", true)
  | 3 => ("TwoScribes$Page", "writtenIn", "[I", true)
  | 4 => ("TwoScribes$Page", "blots", "[I", true)
  | 5 => ("TwoScribes$Page", "corrected", "[I", true)
  | 6 => ("TwoScribes$Page", "places", "I", false)
  | _ => ("TwoScribes$Page", "corrections", "I", false)
def tyX1 : Nat → FieldType := fun k => match k with
  | 0 => .array .int
  | 1 => .array .int
  | 2 => .array .int
  | 3 => .array .int
  | 4 => .array .int
  | 5 => .array .int
  | 6 => .int
  | _ => .int
abbrev wsX10 : List Cond := u_ws RX1 TX1 8
theorem nmX1 : ∀ a, a < 8 → ∀ b, b < 8 → a ≠ b → (TX1 a).2.1 ≠ (TX1 b).2.1 := by decide +kernel
theorem tyX1_ok : ∀ k, k < 8 → parseFieldDescriptor (TX1 k).2.2.1 = some (tyX1 k) := by decide +kernel
abbrev cX1_init : ByteArray := prog_3_method_1_code
def yX1_init : MethodName := ⟨RX1, "<init>", "()V"⟩
abbrev cX1_copyFrom : ByteArray := prog_3_method_2_code
def yX1_copyFrom : MethodName := ⟨RX1, "copyFrom", "(LTwoScribes$Page;)V"⟩
abbrev cX1_begin : ByteArray := prog_3_method_3_code
def yX1_begin : MethodName := ⟨RX1, "begin", "(LTwoScribes$PageText;)V"⟩
abbrev cX1_has : ByteArray := prog_3_method_4_code
def yX1_has : MethodName := ⟨RX1, "has", "(I)Z"⟩
abbrev cX1_mirrorOf : ByteArray := prog_3_method_5_code
def yX1_mirrorOf : MethodName := ⟨RX1, "mirrorOf", "(I)I"⟩
abbrev cX1_letterFor : ByteArray := prog_3_method_6_code
def yX1_letterFor : MethodName := ⟨RX1, "letterFor", "(I)I"⟩
abbrev cX1_isWritten : ByteArray := prog_3_method_7_code
def yX1_isWritten : MethodName := ⟨RX1, "isWritten", "(I)Z"⟩
abbrev cX1_isFaultless : ByteArray := prog_3_method_8_code
def yX1_isFaultless : MethodName := ⟨RX1, "isFaultless", "(I)Z"⟩
abbrev cX1_areUnlike : ByteArray := prog_3_method_9_code
def yX1_areUnlike : MethodName := ⟨RX1, "areUnlike", "(II)Z"⟩
abbrev cX1_write : ByteArray := prog_3_method_10_code
def yX1_write : MethodName := ⟨RX1, "write", "(IIZI)V"⟩
abbrev cX1_amend : ByteArray := prog_3_method_11_code
def yX1_amend : MethodName := ⟨RX1, "amend", "(I)V"⟩
abbrev cX1_countBlots : ByteArray := prog_3_method_12_code
def yX1_countBlots : MethodName := ⟨RX1, "countBlots", "()I"⟩
abbrev cX1_countNotDue : ByteArray := prog_3_method_13_code
def yX1_countNotDue : MethodName := ⟨RX1, "countNotDue", "()I"⟩
def RX2 : String := "TwoScribes$PageText"
def TX2 : u_T := fun k => match k with
  | 0 => ("TwoScribes$PageText", "characters", "[C", true)
  | 1 => ("TwoScribes$PageText", "letters", "[I", true)
  | 2 => ("TwoScribes$PageText", "misreadings", "[I", true)
  | 3 => ("TwoScribes$PageText", "length", "I", false)
  | 4 => ("TwoScribes$PageText", "half", "I", false)
  | 5 => ("TwoScribes$PageText", "farthest", "I", false)
  | _ => ("TwoScribes$PageText", "cursor", "I", false)
def tyX2 : Nat → FieldType := fun k => match k with
  | 0 => .array .char
  | 1 => .array .int
  | 2 => .array .int
  | 3 => .int
  | 4 => .int
  | 5 => .int
  | _ => .int
abbrev wsX20 : List Cond := u_ws RX2 TX2 7
theorem nmX2 : ∀ a, a < 7 → ∀ b, b < 7 → a ≠ b → (TX2 a).2.1 ≠ (TX2 b).2.1 := by decide +kernel
theorem tyX2_ok : ∀ k, k < 7 → parseFieldDescriptor (TX2 k).2.2.1 = some (tyX2 k) := by decide +kernel
abbrev cX2_init : ByteArray := prog_4_method_1_code
def yX2_init : MethodName := ⟨RX2, "<init>", "()V"⟩
abbrev cX2_append : ByteArray := prog_4_method_2_code
def yX2_append : MethodName := ⟨RX2, "append", "(C)Z"⟩
abbrev cX2_findFault : ByteArray := prog_4_method_3_code
def yX2_findFault : MethodName := ⟨RX2, "findFault", "()I"⟩
abbrev cX2_readHalf : ByteArray := prog_4_method_4_code
def yX2_readHalf : MethodName := ⟨RX2, "readHalf", "()V"⟩
abbrev cX2_readMisreading : ByteArray := prog_4_method_5_code
def yX2_readMisreading : MethodName := ⟨RX2, "readMisreading", "()Z"⟩
abbrev cX2_skip : ByteArray := prog_4_method_6_code
def yX2_skip : MethodName := ⟨RX2, "skip", "(C)Z"⟩
abbrev cX2_letterAtCursor : ByteArray := prog_4_method_7_code
def yX2_letterAtCursor : MethodName := ⟨RX2, "letterAtCursor", "()I"⟩
abbrev cX2_digitAtCursor : ByteArray := prog_4_method_8_code
def yX2_digitAtCursor : MethodName := ⟨RX2, "digitAtCursor", "()I"⟩
abbrev cX2_isAtCharacter : ByteArray := prog_4_method_9_code
def yX2_isAtCharacter : MethodName := ⟨RX2, "isAtCharacter", "()Z"⟩
def RX3 : String := "TwoScribes$Scribe"
def TX3 : u_T := fun k => match k with
  | 0 => ("TwoScribes$Scribe", "pace", "I", false)
  | 1 => ("TwoScribes$Scribe", "letters", "I", false)
  | 2 => ("TwoScribes$Scribe", "spent", "I", false)
  | 3 => ("TwoScribes$Scribe", "dipLeft", "I", false)
  | 4 => ("TwoScribes$Scribe", "dips", "I", false)
  | 5 => ("TwoScribes$Scribe", "waits", "I", false)
  | _ => ("TwoScribes$Scribe", "pen", "F", false)
def tyX3 : Nat → FieldType := fun k => match k with
  | 0 => .int
  | 1 => .int
  | 2 => .int
  | 3 => .int
  | 4 => .int
  | 5 => .int
  | _ => .float
abbrev wsX30 : List Cond := u_ws RX3 TX3 7
theorem nmX3 : ∀ a, a < 7 → ∀ b, b < 7 → a ≠ b → (TX3 a).2.1 ≠ (TX3 b).2.1 := by decide +kernel
theorem tyX3_ok : ∀ k, k < 7 → parseFieldDescriptor (TX3 k).2.2.1 = some (tyX3 k) := by decide +kernel
abbrev cX3_init : ByteArray := prog_5_method_1_code
def yX3_init : MethodName := ⟨RX3, "<init>", "()V"⟩
abbrev cX3_copyFrom : ByteArray := prog_5_method_2_code
def yX3_copyFrom : MethodName := ⟨RX3, "copyFrom", "(LTwoScribes$Scribe;)V"⟩
abbrev cX3_beginPage : ByteArray := prog_5_method_3_code
def yX3_beginPage : MethodName := ⟨RX3, "beginPage", "()V"⟩
def RX4 : String := "TwoScribes$State"
def TX4 : u_T := fun k => match k with
  | 0 => ("TwoScribes$State", "page", "LTwoScribes$Page;", true)
  | 1 => ("TwoScribes$State", "left", "LTwoScribes$Scribe;", true)
  | 2 => ("TwoScribes$State", "right", "LTwoScribes$Scribe;", true)
  | 3 => ("TwoScribes$State", "settings", "[I", true)
  | 4 => ("TwoScribes$State", "well", "F", false)
  | 5 => ("TwoScribes$State", "letterInk", "F", false)
  | 6 => ("TwoScribes$State", "correctionInk", "F", false)
  | 7 => ("TwoScribes$State", "tick", "I", false)
  | 8 => ("TwoScribes$State", "pages", "I", false)
  | 9 => ("TwoScribes$State", "letters", "I", false)
  | _ => ("TwoScribes$State", "poured", "I", false)
def tyX4 : Nat → FieldType := fun k => match k with
  | 0 => .object "TwoScribes$Page"
  | 1 => .object "TwoScribes$Scribe"
  | 2 => .object "TwoScribes$Scribe"
  | 3 => .array .int
  | 4 => .float
  | 5 => .float
  | 6 => .float
  | 7 => .int
  | 8 => .int
  | 9 => .int
  | _ => .int
abbrev wsX40 : List Cond := u_ws RX4 TX4 11
theorem nmX4 : ∀ a, a < 11 → ∀ b, b < 11 → a ≠ b → (TX4 a).2.1 ≠ (TX4 b).2.1 := by decide +kernel
theorem tyX4_ok : ∀ k, k < 11 → parseFieldDescriptor (TX4 k).2.2.1 = some (tyX4 k) := by decide +kernel
abbrev cX4_init : ByteArray := prog_6_method_1_code
def yX4_init : MethodName := ⟨RX4, "<init>", "()V"⟩
abbrev cX4_copyFrom : ByteArray := prog_6_method_2_code
def yX4_copyFrom : MethodName := ⟨RX4, "copyFrom", "(LTwoScribes$State;)V"⟩
abbrev cX4_scribeOf : ByteArray := prog_6_method_3_code
def yX4_scribeOf : MethodName := ⟨RX4, "scribeOf", "(I)LTwoScribes$Scribe;"⟩
abbrev cX4_beginPage : ByteArray := prog_6_method_4_code
def yX4_beginPage : MethodName := ⟨RX4, "beginPage", "(LTwoScribes$PageText;)V"⟩
abbrev cX4_lettersOnPage : ByteArray := prog_6_method_5_code
def yX4_lettersOnPage : MethodName := ⟨RX4, "lettersOnPage", "()I"⟩
abbrev cX4_isDone : ByteArray := prog_6_method_6_code
def yX4_isDone : MethodName := ⟨RX4, "isDone", "()Z"⟩
abbrev cX4_nextPlaceOf : ByteArray := prog_6_method_7_code
def yX4_nextPlaceOf : MethodName := ⟨RX4, "nextPlaceOf", "(I)I"⟩
abbrev cX4_isBegun : ByteArray := prog_6_method_8_code
def yX4_isBegun : MethodName := ⟨RX4, "isBegun", "(I)Z"⟩
abbrev cX4_correctionsLeft : ByteArray := prog_6_method_9_code
def yX4_correctionsLeft : MethodName := ⟨RX4, "correctionsLeft", "()I"⟩
abbrev cX4_canCorrect : ByteArray := prog_6_method_10_code
def yX4_canCorrect : MethodName := ⟨RX4, "canCorrect", "(I)Z"⟩
abbrev cX4_makeCorrection : ByteArray := prog_6_method_11_code
def yX4_makeCorrection : MethodName := ⟨RX4, "makeCorrection", "(I)V"⟩
abbrev cX4_deedOf : ByteArray := prog_6_method_12_code
def yX4_deedOf : MethodName := ⟨RX4, "deedOf", "(I)I"⟩
abbrev cX4_takeTurn : ByteArray := prog_6_method_13_code
def yX4_takeTurn : MethodName := ⟨RX4, "takeTurn", "(I)I"⟩
abbrev cX4_goOnDipping : ByteArray := prog_6_method_14_code
def yX4_goOnDipping : MethodName := ⟨RX4, "goOnDipping", "(LTwoScribes$Scribe;)V"⟩
abbrev cX4_spendTick : ByteArray := prog_6_method_15_code
def yX4_spendTick : MethodName := ⟨RX4, "spendTick", "(I)V"⟩
abbrev cX4_passTick : ByteArray := prog_6_method_16_code
def yX4_passTick : MethodName := ⟨RX4, "passTick", "()Z"⟩
abbrev cX4_runUntilDone : ByteArray := prog_6_method_17_code
def yX4_runUntilDone : MethodName := ⟨RX4, "runUntilDone", "()I"⟩
def RX5 : String := "TwoScribes"
def TX5 : u_T := fun k => match k with
  | 0 => ("TwoScribes", "now", "LTwoScribes$State;", true)
  | 1 => ("TwoScribes", "trial", "LTwoScribes$State;", true)
  | 2 => ("TwoScribes", "snapshot", "LTwoScribes$State;", true)
  | 3 => ("TwoScribes", "history", "LTwoScribes$History;", true)
  | 4 => ("TwoScribes", "text", "LTwoScribes$PageText;", true)
  | _ => ("TwoScribes", "hasSnapshot", "Z", false)
def tyX5 : Nat → FieldType := fun k => match k with
  | 0 => .object "TwoScribes$State"
  | 1 => .object "TwoScribes$State"
  | 2 => .object "TwoScribes$State"
  | 3 => .object "TwoScribes$History"
  | 4 => .object "TwoScribes$PageText"
  | _ => .boolean
abbrev wsX50 : List Cond := u_ws RX5 TX5 6
theorem nmX5 : ∀ a, a < 6 → ∀ b, b < 6 → a ≠ b → (TX5 a).2.1 ≠ (TX5 b).2.1 := by decide +kernel
theorem tyX5_ok : ∀ k, k < 6 → parseFieldDescriptor (TX5 k).2.2.1 = some (tyX5 k) := by decide +kernel
abbrev cX5_init : ByteArray := prog_1_method_1_code
def yX5_init : MethodName := ⟨RX5, "<init>", "()V"⟩
abbrev cX5_readPage : ByteArray := prog_1_method_2_code
def yX5_readPage : MethodName := ⟨RX5, "readPage", "()I"⟩
abbrev cX5_misread : ByteArray := prog_1_method_3_code
def yX5_misread : MethodName := ⟨RX5, "misread", "(II)I"⟩
abbrev cX5_correct : ByteArray := prog_1_method_4_code
def yX5_correct : MethodName := ⟨RX5, "correct", "(I)I"⟩
abbrev cX5_setPace : ByteArray := prog_1_method_5_code
def yX5_setPace : MethodName := ⟨RX5, "setPace", "(II)I"⟩
abbrev cX5_pour : ByteArray := prog_1_method_6_code
def yX5_pour : MethodName := ⟨RX5, "pour", "(I)I"⟩
abbrev cX5_set : ByteArray := prog_1_method_7_code
def yX5_set : MethodName := ⟨RX5, "set", "(II)I"⟩
abbrev cX5_pass : ByteArray := prog_1_method_8_code
def yX5_pass : MethodName := ⟨RX5, "pass", "(I)I"⟩
abbrev cX5_type : ByteArray := prog_1_method_9_code
def yX5_type : MethodName := ⟨RX5, "type", "(C)I"⟩
abbrev cX5_clearText : ByteArray := prog_1_method_10_code
def yX5_clearText : MethodName := ⟨RX5, "clearText", "()I"⟩
abbrev cX5_undo : ByteArray := prog_1_method_11_code
def yX5_undo : MethodName := ⟨RX5, "undo", "()I"⟩
abbrev cX5_keep : ByteArray := prog_1_method_12_code
def yX5_keep : MethodName := ⟨RX5, "keep", "()I"⟩
abbrev cX5_restore : ByteArray := prog_1_method_13_code
def yX5_restore : MethodName := ⟨RX5, "restore", "()I"⟩
abbrev cX5_place : ByteArray := prog_1_method_14_code
def yX5_place : MethodName := ⟨RX5, "place", "(II)I"⟩
abbrev cX5_scribe : ByteArray := prog_1_method_15_code
def yX5_scribe : MethodName := ⟨RX5, "scribe", "(II)I"⟩
abbrev cX5_ink : ByteArray := prog_1_method_16_code
def yX5_ink : MethodName := ⟨RX5, "ink", "(I)D"⟩
abbrev cX5_next : ByteArray := prog_1_method_17_code
def yX5_next : MethodName := ⟨RX5, "next", "(I)I"⟩
abbrev cX5_doneIn : ByteArray := prog_1_method_18_code
def yX5_doneIn : MethodName := ⟨RX5, "doneIn", "()I"⟩
abbrev cX5_unlikePairs : ByteArray := prog_1_method_19_code
def yX5_unlikePairs : MethodName := ⟨RX5, "unlikePairs", "()I"⟩
abbrev cX5_unlikeReadings : ByteArray := prog_1_method_20_code
def yX5_unlikeReadings : MethodName := ⟨RX5, "unlikeReadings", "()I"⟩
abbrev cX5_needed : ByteArray := prog_1_method_21_code
def yX5_needed : MethodName := ⟨RX5, "needed", "()D"⟩
abbrev cX5_bestPace : ByteArray := prog_1_method_22_code
def yX5_bestPace : MethodName := ⟨RX5, "bestPace", "(I)I"⟩
abbrev cX5_count : ByteArray := prog_1_method_23_code
def yX5_count : MethodName := ⟨RX5, "count", "(I)I"⟩
abbrev cX5_isScribe : ByteArray := prog_1_method_24_code
def yX5_isScribe : MethodName := ⟨RX5, "isScribe", "(I)Z"⟩
abbrev cX5_inkFor : ByteArray := prog_1_method_25_code
def yX5_inkFor : MethodName := ⟨RX5, "inkFor", "(I)F"⟩
abbrev cX5_at : ByteArray := prog_1_method_26_code
def yX5_at : MethodName := ⟨RX5, "at", "([II)I"⟩
abbrev cX5_put : ByteArray := prog_1_method_27_code
def yX5_put : MethodName := ⟨RX5, "put", "([III)V"⟩
abbrev cX5_clearRow : ByteArray := prog_1_method_28_code
def yX5_clearRow : MethodName := ⟨RX5, "clearRow", "([I)V"⟩
abbrev cX5_copyRow : ByteArray := prog_1_method_29_code
def yX5_copyRow : MethodName := ⟨RX5, "copyRow", "([I[I)V"⟩
def RX6 : String := "TwoScribesModel"
def TX6 : u_T := fun k => match k with
  | 0 => ("TwoScribesModel", "all", "[I", true)
  | 1 => ("TwoScribesModel", "kept", "[I", true)
  | 2 => ("TwoScribesModel", "tried", "[I", true)
  | 3 => ("TwoScribesModel", "history", "[I", true)
  | 4 => ("TwoScribesModel", "historyLong", "I", false)
  | 5 => ("TwoScribesModel", "snapshot", "[I", true)
  | 6 => ("TwoScribesModel", "isKept", "I", false)
  | 7 => ("TwoScribesModel", "draft", "[I", true)
  | 8 => ("TwoScribesModel", "text", "[I", true)
  | 9 => ("TwoScribesModel", "textLong", "I", false)
  | 10 => ("TwoScribesModel", "spot", "I", false)
  | 11 => ("TwoScribesModel", "read", "I", false)
  | _ => ("TwoScribesModel", "greatest", "I", false)
def tyX6 : Nat → FieldType := fun k => match k with
  | 0 => .array .int
  | 1 => .array .int
  | 2 => .array .int
  | 3 => .array .int
  | 4 => .int
  | 5 => .array .int
  | 6 => .int
  | 7 => .array .int
  | 8 => .array .int
  | 9 => .int
  | 10 => .int
  | 11 => .int
  | _ => .int
abbrev wsX60 : List Cond := u_ws RX6 TX6 13
theorem nmX6 : ∀ a, a < 13 → ∀ b, b < 13 → a ≠ b → (TX6 a).2.1 ≠ (TX6 b).2.1 := by decide +kernel
theorem tyX6_ok : ∀ k, k < 13 → parseFieldDescriptor (TX6 k).2.2.1 = some (tyX6 k) := by decide +kernel
abbrev cX6_init : ByteArray := prog_8_method_1_code
def yX6_init : MethodName := ⟨RX6, "<init>", "()V"⟩
abbrev cX6_in : ByteArray := prog_8_method_3_code
def yX6_in : MethodName := ⟨RX6, "in", "(JJJ)Z"⟩
abbrev cX6_keeps : ByteArray := prog_8_method_4_code
def yX6_keeps : MethodName := ⟨RX6, "keeps", "()V"⟩
abbrev cX6_ends : ByteArray := prog_8_method_5_code
def yX6_ends : MethodName := ⟨RX6, "ends", "(I)I"⟩
abbrev cX6_tries : ByteArray := prog_8_method_6_code
def yX6_tries : MethodName := ⟨RX6, "tries", "()V"⟩
abbrev cX6_comesBack : ByteArray := prog_8_method_7_code
def yX6_comesBack : MethodName := ⟨RX6, "comesBack", "()V"⟩
abbrev cX6_isPlace : ByteArray := prog_8_method_8_code
def yX6_isPlace : MethodName := ⟨RX6, "isPlace", "(I)Z"⟩
abbrev cX6_due : ByteArray := prog_8_method_9_code
def yX6_due : MethodName := ⟨RX6, "due", "(I)I"⟩
abbrev cX6_letterAt : ByteArray := prog_8_method_10_code
def yX6_letterAt : MethodName := ⟨RX6, "letterAt", "(I)I"⟩
abbrev cX6_nextPlace : ByteArray := prog_8_method_11_code
def yX6_nextPlace : MethodName := ⟨RX6, "nextPlace", "(I)I"⟩
abbrev cX6_isDone : ByteArray := prog_8_method_12_code
def yX6_isDone : MethodName := ⟨RX6, "isDone", "()Z"⟩
abbrev cX6_marginLeft : ByteArray := prog_8_method_13_code
def yX6_marginLeft : MethodName := ⟨RX6, "marginLeft", "()I"⟩
abbrev cX6_does : ByteArray := prog_8_method_14_code
def yX6_does : MethodName := ⟨RX6, "does", "(I)I"⟩
abbrev cX6_dips : ByteArray := prog_8_method_15_code
def yX6_dips : MethodName := ⟨RX6, "dips", "(I)V"⟩
abbrev cX6_writes : ByteArray := prog_8_method_16_code
def yX6_writes : MethodName := ⟨RX6, "writes", "(I)V"⟩
abbrev cX6_goes : ByteArray := prog_8_method_17_code
def yX6_goes : MethodName := ⟨RX6, "goes", "(I)V"⟩
abbrev cX6_ticks : ByteArray := prog_8_method_18_code
def yX6_ticks : MethodName := ⟨RX6, "ticks", "()V"⟩
abbrev cX6_readPage : ByteArray := prog_8_method_19_code
def yX6_readPage : MethodName := ⟨RX6, "readPage", "()I"⟩
abbrev cX6_isBegun : ByteArray := prog_8_method_20_code
def yX6_isBegun : MethodName := ⟨RX6, "isBegun", "(I)Z"⟩
abbrev cX6_misread : ByteArray := prog_8_method_21_code
def yX6_misread : MethodName := ⟨RX6, "misread", "(II)I"⟩
abbrev cX6_correct : ByteArray := prog_8_method_22_code
def yX6_correct : MethodName := ⟨RX6, "correct", "(I)I"⟩
abbrev cX6_isScribe : ByteArray := prog_8_method_23_code
def yX6_isScribe : MethodName := ⟨RX6, "isScribe", "(I)Z"⟩
abbrev cX6_setPace : ByteArray := prog_8_method_24_code
def yX6_setPace : MethodName := ⟨RX6, "setPace", "(II)I"⟩
abbrev cX6_pour : ByteArray := prog_8_method_25_code
def yX6_pour : MethodName := ⟨RX6, "pour", "(I)I"⟩
abbrev cX6_set : ByteArray := prog_8_method_26_code
def yX6_set : MethodName := ⟨RX6, "set", "(II)I"⟩
abbrev cX6_pass : ByteArray := prog_8_method_27_code
def yX6_pass : MethodName := ⟨RX6, "pass", "(I)I"⟩
abbrev cX6_type : ByteArray := prog_8_method_28_code
def yX6_type : MethodName := ⟨RX6, "type", "(C)I"⟩
abbrev cX6_clearText : ByteArray := prog_8_method_29_code
def yX6_clearText : MethodName := ⟨RX6, "clearText", "()I"⟩
abbrev cX6_isHere : ByteArray := prog_8_method_30_code
def yX6_isHere : MethodName := ⟨RX6, "isHere", "(II)Z"⟩
abbrev cX6_takesOne : ByteArray := prog_8_method_31_code
def yX6_takesOne : MethodName := ⟨RX6, "takesOne", "(I)Z"⟩
abbrev cX6_readsMisreading : ByteArray := prog_8_method_32_code
def yX6_readsMisreading : MethodName := ⟨RX6, "readsMisreading", "()Z"⟩
abbrev cX6_fault : ByteArray := prog_8_method_33_code
def yX6_fault : MethodName := ⟨RX6, "fault", "()I"⟩
abbrev cX6_undo : ByteArray := prog_8_method_34_code
def yX6_undo : MethodName := ⟨RX6, "undo", "()I"⟩
abbrev cX6_keep : ByteArray := prog_8_method_35_code
def yX6_keep : MethodName := ⟨RX6, "keep", "()I"⟩
abbrev cX6_restore : ByteArray := prog_8_method_36_code
def yX6_restore : MethodName := ⟨RX6, "restore", "()I"⟩
abbrev cX6_place : ByteArray := prog_8_method_37_code
def yX6_place : MethodName := ⟨RX6, "place", "(II)I"⟩
abbrev cX6_scribe : ByteArray := prog_8_method_38_code
def yX6_scribe : MethodName := ⟨RX6, "scribe", "(II)I"⟩
abbrev cX6_ink : ByteArray := prog_8_method_39_code
def yX6_ink : MethodName := ⟨RX6, "ink", "(I)D"⟩
abbrev cX6_next : ByteArray := prog_8_method_40_code
def yX6_next : MethodName := ⟨RX6, "next", "(I)I"⟩
abbrev cX6_doneBehind : ByteArray := prog_8_method_41_code
def yX6_doneBehind : MethodName := ⟨RX6, "doneBehind", "()I"⟩
abbrev cX6_doneIn : ByteArray := prog_8_method_42_code
def yX6_doneIn : MethodName := ⟨RX6, "doneIn", "()I"⟩
abbrev cX6_unlikePairs : ByteArray := prog_8_method_43_code
def yX6_unlikePairs : MethodName := ⟨RX6, "unlikePairs", "()I"⟩
abbrev cX6_unlikeReadings : ByteArray := prog_8_method_44_code
def yX6_unlikeReadings : MethodName := ⟨RX6, "unlikeReadings", "()I"⟩
abbrev cX6_needed : ByteArray := prog_8_method_45_code
def yX6_needed : MethodName := ⟨RX6, "needed", "()D"⟩
abbrev cX6_bestPace : ByteArray := prog_8_method_46_code
def yX6_bestPace : MethodName := ⟨RX6, "bestPace", "(I)I"⟩
abbrev cX6_places : ByteArray := prog_8_method_47_code
def yX6_places : MethodName := ⟨RX6, "places", "(I)I"⟩
abbrev cX6_count : ByteArray := prog_8_method_48_code
def yX6_count : MethodName := ⟨RX6, "count", "(I)I"⟩
def RL : String := "TwoScribesLaw"
abbrev cL_law : ByteArray := code
def yL_law : MethodName := ⟨RL, "law", "([I)Z"⟩
abbrev vwCl : List vw_C := [(RX0, TX0, 3), (RX1, TX1, 8), (RX2, TX2, 7), (RX3, TX3, 7), (RX4, TX4, 11), (RX5, TX5, 6), (RX6, TX6, 13)]
end
section
/-! words: the good ones of the tables in one list (GW), each by its place; the nest mates' links in two lists -/
def GW : List Cond := lw_tbl.filter goodWord
theorem GW_mem {w : Cond} (i : Nat) (h : lw_tbl[i]? = some w) (g : goodWord w = true) : w ∈ GW := List.mem_filter.mpr ⟨List.mem_of_getElem? h, g⟩
theorem k0 : Jvm.Cond.selects "TwoScribes$PageText" ({ cls := "TwoScribes$PageText", name := "readHalf", desc := "()V" } : Jvm.MethodName) ({ cls := "TwoScribes$PageText", name := "readHalf", desc := "()V" } : Jvm.MethodName) ∈ GW := GW_mem 0 (by decide +kernel) (by decide +kernel)
theorem k1 : Jvm.Cond.selects "TwoScribes$PageText" ({ cls := "TwoScribes$PageText", name := "letterAtCursor", desc := "()I" } : Jvm.MethodName) ({ cls := "TwoScribes$PageText", name := "letterAtCursor", desc := "()I" } : Jvm.MethodName) ∈ GW := GW_mem 1 (by decide +kernel) (by decide +kernel)
theorem k2 : Jvm.Cond.selects "TwoScribes$PageText" ({ cls := "TwoScribes$PageText", name := "isAtCharacter", desc := "()Z" } : Jvm.MethodName) ({ cls := "TwoScribes$PageText", name := "isAtCharacter", desc := "()Z" } : Jvm.MethodName) ∈ GW := GW_mem 2 (by decide +kernel) (by decide +kernel)
theorem k3 : Jvm.Cond.selects "TwoScribes$PageText" ({ cls := "TwoScribes$PageText", name := "skip", desc := "(C)Z" } : Jvm.MethodName) ({ cls := "TwoScribes$PageText", name := "skip", desc := "(C)Z" } : Jvm.MethodName) ∈ GW := GW_mem 3 (by decide +kernel) (by decide +kernel)
theorem k4 : Jvm.Cond.selects "TwoScribes$PageText" ({ cls := "TwoScribes$PageText", name := "readMisreading", desc := "()Z" } : Jvm.MethodName) ({ cls := "TwoScribes$PageText", name := "readMisreading", desc := "()Z" } : Jvm.MethodName) ∈ GW := GW_mem 4 (by decide +kernel) (by decide +kernel)
theorem k5 : Jvm.Cond.selects "TwoScribes$PageText" ({ cls := "TwoScribes$PageText", name := "digitAtCursor", desc := "()I" } : Jvm.MethodName) ({ cls := "TwoScribes$PageText", name := "digitAtCursor", desc := "()I" } : Jvm.MethodName) ∈ GW := GW_mem 5 (by decide +kernel) (by decide +kernel)
theorem k6 : Jvm.Cond.selects "TwoScribes$History" ({ cls := "TwoScribes$History", name := "stateAt", desc := "(I)LTwoScribes$State;" } : Jvm.MethodName) ({ cls := "TwoScribes$History", name := "stateAt", desc := "(I)LTwoScribes$State;" } : Jvm.MethodName) ∈ GW := GW_mem 6 (by decide +kernel) (by decide +kernel)
theorem k7 : Jvm.Cond.selects "TwoScribes$State" ({ cls := "TwoScribes$State", name := "spendTick", desc := "(I)V" } : Jvm.MethodName) ({ cls := "TwoScribes$State", name := "spendTick", desc := "(I)V" } : Jvm.MethodName) ∈ GW := GW_mem 7 (by decide +kernel) (by decide +kernel)
theorem k8 : Jvm.Cond.selects "TwoScribes$State" ({ cls := "TwoScribes$State", name := "goOnDipping", desc := "(LTwoScribes$Scribe;)V" } : Jvm.MethodName) ({ cls := "TwoScribes$State", name := "goOnDipping", desc := "(LTwoScribes$Scribe;)V" } : Jvm.MethodName) ∈ GW := GW_mem 8 (by decide +kernel) (by decide +kernel)
theorem k9 : Jvm.Cond.selects "TwoScribesModel" ({ cls := "TwoScribesModel", name := "fault", desc := "()I" } : Jvm.MethodName) ({ cls := "TwoScribesModel", name := "fault", desc := "()I" } : Jvm.MethodName) ∈ GW := GW_mem 9 (by decide +kernel) (by decide +kernel)
theorem k10 : Jvm.Cond.selects "TwoScribesModel" ({ cls := "TwoScribesModel", name := "isHere", desc := "(II)Z" } : Jvm.MethodName) ({ cls := "TwoScribesModel", name := "isHere", desc := "(II)Z" } : Jvm.MethodName) ∈ GW := GW_mem 10 (by decide +kernel) (by decide +kernel)
theorem k11 : Jvm.Cond.selects "TwoScribesModel" ({ cls := "TwoScribesModel", name := "takesOne", desc := "(I)Z" } : Jvm.MethodName) ({ cls := "TwoScribesModel", name := "takesOne", desc := "(I)Z" } : Jvm.MethodName) ∈ GW := GW_mem 11 (by decide +kernel) (by decide +kernel)
theorem k12 : Jvm.Cond.selects "TwoScribesModel" ({ cls := "TwoScribesModel", name := "readsMisreading", desc := "()Z" } : Jvm.MethodName) ({ cls := "TwoScribesModel", name := "readsMisreading", desc := "()Z" } : Jvm.MethodName) ∈ GW := GW_mem 12 (by decide +kernel) (by decide +kernel)
theorem k13 : Jvm.Cond.selects "TwoScribesModel" ({ cls := "TwoScribesModel", name := "keeps", desc := "()V" } : Jvm.MethodName) ({ cls := "TwoScribesModel", name := "keeps", desc := "()V" } : Jvm.MethodName) ∈ GW := GW_mem 13 (by decide +kernel) (by decide +kernel)
theorem k14 : Jvm.Cond.selects "TwoScribesModel" ({ cls := "TwoScribesModel", name := "ends", desc := "(I)I" } : Jvm.MethodName) ({ cls := "TwoScribesModel", name := "ends", desc := "(I)I" } : Jvm.MethodName) ∈ GW := GW_mem 14 (by decide +kernel) (by decide +kernel)
theorem k15 : Jvm.Cond.selects "TwoScribesModel" ({ cls := "TwoScribesModel", name := "isPlace", desc := "(I)Z" } : Jvm.MethodName) ({ cls := "TwoScribesModel", name := "isPlace", desc := "(I)Z" } : Jvm.MethodName) ∈ GW := GW_mem 15 (by decide +kernel) (by decide +kernel)
theorem k16 : Jvm.Cond.selects "TwoScribesModel" ({ cls := "TwoScribesModel", name := "isBegun", desc := "(I)Z" } : Jvm.MethodName) ({ cls := "TwoScribesModel", name := "isBegun", desc := "(I)Z" } : Jvm.MethodName) ∈ GW := GW_mem 16 (by decide +kernel) (by decide +kernel)
theorem k17 : Jvm.Cond.selects "TwoScribesModel" ({ cls := "TwoScribesModel", name := "nextPlace", desc := "(I)I" } : Jvm.MethodName) ({ cls := "TwoScribesModel", name := "nextPlace", desc := "(I)I" } : Jvm.MethodName) ∈ GW := GW_mem 17 (by decide +kernel) (by decide +kernel)
theorem k18 : Jvm.Cond.selects "TwoScribesModel" ({ cls := "TwoScribesModel", name := "letterAt", desc := "(I)I" } : Jvm.MethodName) ({ cls := "TwoScribesModel", name := "letterAt", desc := "(I)I" } : Jvm.MethodName) ∈ GW := GW_mem 18 (by decide +kernel) (by decide +kernel)
theorem k19 : Jvm.Cond.selects "TwoScribesModel" ({ cls := "TwoScribesModel", name := "due", desc := "(I)I" } : Jvm.MethodName) ({ cls := "TwoScribesModel", name := "due", desc := "(I)I" } : Jvm.MethodName) ∈ GW := GW_mem 19 (by decide +kernel) (by decide +kernel)
theorem k20 : Jvm.Cond.selects "TwoScribesModel" ({ cls := "TwoScribesModel", name := "marginLeft", desc := "()I" } : Jvm.MethodName) ({ cls := "TwoScribesModel", name := "marginLeft", desc := "()I" } : Jvm.MethodName) ∈ GW := GW_mem 20 (by decide +kernel) (by decide +kernel)
theorem k21 : Jvm.Cond.selects "TwoScribesModel" ({ cls := "TwoScribesModel", name := "ticks", desc := "()V" } : Jvm.MethodName) ({ cls := "TwoScribesModel", name := "ticks", desc := "()V" } : Jvm.MethodName) ∈ GW := GW_mem 21 (by decide +kernel) (by decide +kernel)
theorem k22 : Jvm.Cond.selects "TwoScribesModel" ({ cls := "TwoScribesModel", name := "goes", desc := "(I)V" } : Jvm.MethodName) ({ cls := "TwoScribesModel", name := "goes", desc := "(I)V" } : Jvm.MethodName) ∈ GW := GW_mem 22 (by decide +kernel) (by decide +kernel)
theorem k23 : Jvm.Cond.selects "TwoScribesModel" ({ cls := "TwoScribesModel", name := "does", desc := "(I)I" } : Jvm.MethodName) ({ cls := "TwoScribesModel", name := "does", desc := "(I)I" } : Jvm.MethodName) ∈ GW := GW_mem 23 (by decide +kernel) (by decide +kernel)
theorem k24 : Jvm.Cond.selects "TwoScribesModel" ({ cls := "TwoScribesModel", name := "writes", desc := "(I)V" } : Jvm.MethodName) ({ cls := "TwoScribesModel", name := "writes", desc := "(I)V" } : Jvm.MethodName) ∈ GW := GW_mem 24 (by decide +kernel) (by decide +kernel)
theorem k25 : Jvm.Cond.selects "TwoScribesModel" ({ cls := "TwoScribesModel", name := "dips", desc := "(I)V" } : Jvm.MethodName) ({ cls := "TwoScribesModel", name := "dips", desc := "(I)V" } : Jvm.MethodName) ∈ GW := GW_mem 25 (by decide +kernel) (by decide +kernel)
theorem k26 : Jvm.Cond.selects "TwoScribesModel" ({ cls := "TwoScribesModel", name := "tries", desc := "()V" } : Jvm.MethodName) ({ cls := "TwoScribesModel", name := "tries", desc := "()V" } : Jvm.MethodName) ∈ GW := GW_mem 26 (by decide +kernel) (by decide +kernel)
theorem k27 : Jvm.Cond.selects "TwoScribesModel" ({ cls := "TwoScribesModel", name := "comesBack", desc := "()V" } : Jvm.MethodName) ({ cls := "TwoScribesModel", name := "comesBack", desc := "()V" } : Jvm.MethodName) ∈ GW := GW_mem 27 (by decide +kernel) (by decide +kernel)
theorem k28 : Jvm.Cond.selects "TwoScribesModel" ({ cls := "TwoScribesModel", name := "doneBehind", desc := "()I" } : Jvm.MethodName) ({ cls := "TwoScribesModel", name := "doneBehind", desc := "()I" } : Jvm.MethodName) ∈ GW := GW_mem 28 (by decide +kernel) (by decide +kernel)
theorem k29 : Jvm.Cond.selects "TwoScribesModel" ({ cls := "TwoScribesModel", name := "isDone", desc := "()Z" } : Jvm.MethodName) ({ cls := "TwoScribesModel", name := "isDone", desc := "()Z" } : Jvm.MethodName) ∈ GW := GW_mem 29 (by decide +kernel) (by decide +kernel)
theorem k30 : Jvm.Cond.selects "TwoScribesModel" ({ cls := "TwoScribesModel", name := "places", desc := "(I)I" } : Jvm.MethodName) ({ cls := "TwoScribesModel", name := "places", desc := "(I)I" } : Jvm.MethodName) ∈ GW := GW_mem 30 (by decide +kernel) (by decide +kernel)
theorem k31 : Jvm.Cond.initialized "TwoScribesLaw" ∈ GW := GW_mem 31 (by decide +kernel) (by decide +kernel)
theorem k32 : Jvm.Cond.initialized "TwoScribes" ∈ GW := GW_mem 32 (by decide +kernel) (by decide +kernel)
theorem k33 : Jvm.Cond.initialized "TwoScribes$State" ∈ GW := GW_mem 33 (by decide +kernel) (by decide +kernel)
theorem k34 : Jvm.Cond.initialized "TwoScribes$Page" ∈ GW := GW_mem 34 (by decide +kernel) (by decide +kernel)
theorem k35 : Jvm.Cond.initialized "TwoScribes$Scribe" ∈ GW := GW_mem 35 (by decide +kernel) (by decide +kernel)
theorem k36 : Jvm.Cond.initialized "TwoScribes$History" ∈ GW := GW_mem 36 (by decide +kernel) (by decide +kernel)
theorem k37 : Jvm.Cond.initialized "TwoScribes$PageText" ∈ GW := GW_mem 37 (by decide +kernel) (by decide +kernel)
theorem k38 : Jvm.Cond.initialized "TwoScribesModel" ∈ GW := GW_mem 38 (by decide +kernel) (by decide +kernel)
theorem k39 : Jvm.Cond.initialized "java/lang/Math" ∈ GW := GW_mem 39 (by decide +kernel) (by decide +kernel)
theorem k40 : Jvm.Cond.initialized "java/lang/System" ∈ GW := GW_mem 40 (by decide +kernel) (by decide +kernel)
theorem k41 : Jvm.Cond.classLink "TwoScribesLaw" (7 : Nat) "TwoScribes" ∈ GW := GW_mem 41 (by decide +kernel) (by decide +kernel)
theorem k42 : Jvm.Cond.instantiable "TwoScribes" (6 : Nat) ∈ GW := GW_mem 42 (by decide +kernel) (by decide +kernel)
theorem k43 : Jvm.Cond.methodLink "TwoScribesLaw" (9 : Nat) ({ cls := "TwoScribes", name := "<init>", desc := "()V" } : Jvm.MethodName) ∈ GW := GW_mem 43 (by decide +kernel) (by decide +kernel)
theorem k44 : Jvm.Cond.instanceMethod ({ cls := "TwoScribes", name := "<init>", desc := "()V" } : Jvm.MethodName) ∈ GW := GW_mem 44 (by decide +kernel) (by decide +kernel)
theorem k45 : Jvm.Cond.code ({ cls := "TwoScribes", name := "<init>", desc := "()V" } : Jvm.MethodName) prog_1_method_1_code (1 : Nat) (Option.none : Option Jvm.ClassFile.FieldType) ∈ GW := GW_mem 45 (by decide +kernel) (by decide +kernel)
theorem k46 : Jvm.Cond.methodLink "TwoScribes" (1 : Nat) ({ cls := "java/lang/Object", name := "<init>", desc := "()V" } : Jvm.MethodName) ∈ GW := GW_mem 46 (by decide +kernel) (by decide +kernel)
theorem k47 : Jvm.Cond.instanceMethod ({ cls := "java/lang/Object", name := "<init>", desc := "()V" } : Jvm.MethodName) ∈ GW := GW_mem 47 (by decide +kernel) (by decide +kernel)
theorem k48 : Jvm.Cond.code ({ cls := "java/lang/Object", name := "<init>", desc := "()V" } : Jvm.MethodName) object_method_1_code (1 : Nat) (Option.none : Option Jvm.ClassFile.FieldType) ∈ GW := GW_mem 48 (by decide +kernel) (by decide +kernel)
theorem k49 : Jvm.Cond.classLink "TwoScribes" (7 : Nat) "TwoScribes$State" ∈ GW := GW_mem 49 (by decide +kernel) (by decide +kernel)
theorem k50 : Jvm.Cond.instantiable "TwoScribes$State" (11 : Nat) ∈ GW := GW_mem 50 (by decide +kernel) (by decide +kernel)
theorem k52 : Jvm.Cond.instanceMethod ({ cls := "TwoScribes$State", name := "<init>", desc := "()V" } : Jvm.MethodName) ∈ GW := GW_mem 52 (by decide +kernel) (by decide +kernel)
theorem k53 : Jvm.Cond.code ({ cls := "TwoScribes$State", name := "<init>", desc := "()V" } : Jvm.MethodName) prog_6_method_1_code (1 : Nat) (Option.none : Option Jvm.ClassFile.FieldType) ∈ GW := GW_mem 53 (by decide +kernel) (by decide +kernel)
theorem k54 : Jvm.Cond.methodLink "TwoScribes$State" (3 : Nat) ({ cls := "java/lang/Object", name := "<init>", desc := "()V" } : Jvm.MethodName) ∈ GW := GW_mem 54 (by decide +kernel) (by decide +kernel)
theorem k55 : Jvm.Cond.classLink "TwoScribes$State" (9 : Nat) "TwoScribes$Page" ∈ GW := GW_mem 55 (by decide +kernel) (by decide +kernel)
theorem k56 : Jvm.Cond.instantiable "TwoScribes$Page" (8 : Nat) ∈ GW := GW_mem 56 (by decide +kernel) (by decide +kernel)
theorem k58 : Jvm.Cond.instanceMethod ({ cls := "TwoScribes$Page", name := "<init>", desc := "()V" } : Jvm.MethodName) ∈ GW := GW_mem 58 (by decide +kernel) (by decide +kernel)
theorem k59 : Jvm.Cond.code ({ cls := "TwoScribes$Page", name := "<init>", desc := "()V" } : Jvm.MethodName) prog_3_method_1_code (1 : Nat) (Option.none : Option Jvm.ClassFile.FieldType) ∈ GW := GW_mem 59 (by decide +kernel) (by decide +kernel)
theorem k60 : Jvm.Cond.methodLink "TwoScribes$Page" (3 : Nat) ({ cls := "java/lang/Object", name := "<init>", desc := "()V" } : Jvm.MethodName) ∈ GW := GW_mem 60 (by decide +kernel) (by decide +kernel)
theorem k61 : Jvm.Cond.fieldLink "TwoScribes$Page" (9 : Nat) "TwoScribes$Page" "due" "[I" ∈ GW := GW_mem 61 (by decide +kernel) (by decide +kernel)
theorem k64 : Jvm.Cond.fieldLink "TwoScribes$Page" (15 : Nat) "TwoScribes$Page" "told" "[I" ∈ GW := GW_mem 64 (by decide +kernel) (by decide +kernel)
theorem k66 : Jvm.Cond.fieldLink "TwoScribes$Page" (18 : Nat) "TwoScribes$Page" "written" "[I" ∈ GW := GW_mem 66 (by decide +kernel) (by decide +kernel)
theorem k68 : Jvm.Cond.fieldLink "TwoScribes$Page" (21 : Nat) "TwoScribes$Page" "writtenIn" "[I" ∈ GW := GW_mem 68 (by decide +kernel) (by decide +kernel)
theorem k70 : Jvm.Cond.fieldLink "TwoScribes$Page" (24 : Nat) "TwoScribes$Page" "blots" "[I" ∈ GW := GW_mem 70 (by decide +kernel) (by decide +kernel)
theorem k72 : Jvm.Cond.fieldLink "TwoScribes$Page" (27 : Nat) "TwoScribes$Page" "corrected" "[I" ∈ GW := GW_mem 72 (by decide +kernel) (by decide +kernel)
theorem k74 : Jvm.Cond.fieldLink "TwoScribes$Page" (34 : Nat) "TwoScribes$Page" "places" "I" ∈ GW := GW_mem 74 (by decide +kernel) (by decide +kernel)
theorem k77 : Jvm.Cond.fieldLink "TwoScribes$Page" (38 : Nat) "TwoScribes$Page" "corrections" "I" ∈ GW := GW_mem 77 (by decide +kernel) (by decide +kernel)
theorem k96 : Jvm.Cond.arrayClass Jvm.ClassFile.FieldType.int ∈ GW := GW_mem 96 (by decide +kernel) (by decide +kernel)
theorem k97 : Jvm.Cond.classLink "TwoScribes$State" (18 : Nat) "TwoScribes$Scribe" ∈ GW := GW_mem 97 (by decide +kernel) (by decide +kernel)
theorem k98 : Jvm.Cond.instantiable "TwoScribes$Scribe" (7 : Nat) ∈ GW := GW_mem 98 (by decide +kernel) (by decide +kernel)
theorem k100 : Jvm.Cond.instanceMethod ({ cls := "TwoScribes$Scribe", name := "<init>", desc := "()V" } : Jvm.MethodName) ∈ GW := GW_mem 100 (by decide +kernel) (by decide +kernel)
theorem k101 : Jvm.Cond.code ({ cls := "TwoScribes$Scribe", name := "<init>", desc := "()V" } : Jvm.MethodName) prog_5_method_1_code (1 : Nat) (Option.none : Option Jvm.ClassFile.FieldType) ∈ GW := GW_mem 101 (by decide +kernel) (by decide +kernel)
theorem k102 : Jvm.Cond.methodLink "TwoScribes$Scribe" (1 : Nat) ({ cls := "java/lang/Object", name := "<init>", desc := "()V" } : Jvm.MethodName) ∈ GW := GW_mem 102 (by decide +kernel) (by decide +kernel)
theorem k103 : Jvm.Cond.fieldLink "TwoScribes$Scribe" (7 : Nat) "TwoScribes$Scribe" "pace" "I" ∈ GW := GW_mem 103 (by decide +kernel) (by decide +kernel)
theorem k106 : Jvm.Cond.fieldLink "TwoScribes$Scribe" (13 : Nat) "TwoScribes$Scribe" "letters" "I" ∈ GW := GW_mem 106 (by decide +kernel) (by decide +kernel)
theorem k109 : Jvm.Cond.fieldLink "TwoScribes$Scribe" (16 : Nat) "TwoScribes$Scribe" "spent" "I" ∈ GW := GW_mem 109 (by decide +kernel) (by decide +kernel)
theorem k112 : Jvm.Cond.fieldLink "TwoScribes$Scribe" (19 : Nat) "TwoScribes$Scribe" "dipLeft" "I" ∈ GW := GW_mem 112 (by decide +kernel) (by decide +kernel)
theorem k115 : Jvm.Cond.fieldLink "TwoScribes$Scribe" (22 : Nat) "TwoScribes$Scribe" "dips" "I" ∈ GW := GW_mem 115 (by decide +kernel) (by decide +kernel)
theorem k118 : Jvm.Cond.fieldLink "TwoScribes$Scribe" (25 : Nat) "TwoScribes$Scribe" "waits" "I" ∈ GW := GW_mem 118 (by decide +kernel) (by decide +kernel)
theorem k121 : Jvm.Cond.fieldLink "TwoScribes$Scribe" (28 : Nat) "TwoScribes$Scribe" "pen" "F" ∈ GW := GW_mem 121 (by decide +kernel) (by decide +kernel)
theorem k139 : Jvm.Cond.constantFloat "TwoScribes$State" (32 : Nat) (1082130432 : UInt32) ∈ GW := GW_mem 139 (by decide +kernel) (by decide +kernel)
theorem k140 : Jvm.Cond.fieldLink "TwoScribes$State" (12 : Nat) "TwoScribes$State" "page" "LTwoScribes$Page;" ∈ GW := GW_mem 140 (by decide +kernel) (by decide +kernel)
theorem k142 : Jvm.Cond.fieldLink "TwoScribes$State" (21 : Nat) "TwoScribes$State" "left" "LTwoScribes$Scribe;" ∈ GW := GW_mem 142 (by decide +kernel) (by decide +kernel)
theorem k144 : Jvm.Cond.fieldLink "TwoScribes$State" (25 : Nat) "TwoScribes$State" "right" "LTwoScribes$Scribe;" ∈ GW := GW_mem 144 (by decide +kernel) (by decide +kernel)
theorem k146 : Jvm.Cond.fieldLink "TwoScribes$State" (28 : Nat) "TwoScribes$State" "settings" "[I" ∈ GW := GW_mem 146 (by decide +kernel) (by decide +kernel)
theorem k148 : Jvm.Cond.fieldLink "TwoScribes$State" (33 : Nat) "TwoScribes$State" "well" "F" ∈ GW := GW_mem 148 (by decide +kernel) (by decide +kernel)
theorem k150 : Jvm.Cond.fieldLink "TwoScribes$State" (48 : Nat) "TwoScribes$State" "letterInk" "F" ∈ GW := GW_mem 150 (by decide +kernel) (by decide +kernel)
theorem k152 : Jvm.Cond.fieldLink "TwoScribes$State" (51 : Nat) "TwoScribes$State" "correctionInk" "F" ∈ GW := GW_mem 152 (by decide +kernel) (by decide +kernel)
theorem k154 : Jvm.Cond.fieldLink "TwoScribes$State" (54 : Nat) "TwoScribes$State" "tick" "I" ∈ GW := GW_mem 154 (by decide +kernel) (by decide +kernel)
theorem k156 : Jvm.Cond.fieldLink "TwoScribes$State" (58 : Nat) "TwoScribes$State" "pages" "I" ∈ GW := GW_mem 156 (by decide +kernel) (by decide +kernel)
theorem k158 : Jvm.Cond.fieldLink "TwoScribes$State" (61 : Nat) "TwoScribes$State" "letters" "I" ∈ GW := GW_mem 158 (by decide +kernel) (by decide +kernel)
theorem k160 : Jvm.Cond.fieldLink "TwoScribes$State" (64 : Nat) "TwoScribes$State" "poured" "I" ∈ GW := GW_mem 160 (by decide +kernel) (by decide +kernel)
theorem k185 : Jvm.Cond.classLink "TwoScribes" (22 : Nat) "TwoScribes$History" ∈ GW := GW_mem 185 (by decide +kernel) (by decide +kernel)
theorem k186 : Jvm.Cond.instantiable "TwoScribes$History" (3 : Nat) ∈ GW := GW_mem 186 (by decide +kernel) (by decide +kernel)
theorem k187 : Jvm.Cond.methodLink "TwoScribes" (24 : Nat) ({ cls := "TwoScribes$History", name := "<init>", desc := "()V" } : Jvm.MethodName) ∈ GW := GW_mem 187 (by decide +kernel) (by decide +kernel)
theorem k188 : Jvm.Cond.instanceMethod ({ cls := "TwoScribes$History", name := "<init>", desc := "()V" } : Jvm.MethodName) ∈ GW := GW_mem 188 (by decide +kernel) (by decide +kernel)
theorem k189 : Jvm.Cond.code ({ cls := "TwoScribes$History", name := "<init>", desc := "()V" } : Jvm.MethodName) prog_2_method_1_code (2 : Nat) (Option.none : Option Jvm.ClassFile.FieldType) ∈ GW := GW_mem 189 (by decide +kernel) (by decide +kernel)
theorem k190 : Jvm.Cond.methodLink "TwoScribes$History" (3 : Nat) ({ cls := "java/lang/Object", name := "<init>", desc := "()V" } : Jvm.MethodName) ∈ GW := GW_mem 190 (by decide +kernel) (by decide +kernel)
theorem k191 : Jvm.Cond.classLink "TwoScribes$History" (9 : Nat) "TwoScribes$State" ∈ GW := GW_mem 191 (by decide +kernel) (by decide +kernel)
theorem k194 : Jvm.Cond.fieldLink "TwoScribes$History" (11 : Nat) "TwoScribes$History" "states" "[LTwoScribes$State;" ∈ GW := GW_mem 194 (by decide +kernel) (by decide +kernel)
theorem k195 : Jvm.Cond.fieldLink "TwoScribes$History" (22 : Nat) "TwoScribes$History" "first" "I" ∈ GW := GW_mem 195 (by decide +kernel) (by decide +kernel)
theorem k196 : Jvm.Cond.fieldLink "TwoScribes$History" (18 : Nat) "TwoScribes$History" "size" "I" ∈ GW := GW_mem 196 (by decide +kernel) (by decide +kernel)
theorem k205 : Jvm.Cond.classLink "TwoScribes" (29 : Nat) "TwoScribes$PageText" ∈ GW := GW_mem 205 (by decide +kernel) (by decide +kernel)
theorem k206 : Jvm.Cond.instantiable "TwoScribes$PageText" (7 : Nat) ∈ GW := GW_mem 206 (by decide +kernel) (by decide +kernel)
theorem k208 : Jvm.Cond.instanceMethod ({ cls := "TwoScribes$PageText", name := "<init>", desc := "()V" } : Jvm.MethodName) ∈ GW := GW_mem 208 (by decide +kernel) (by decide +kernel)
theorem k209 : Jvm.Cond.code ({ cls := "TwoScribes$PageText", name := "<init>", desc := "()V" } : Jvm.MethodName) prog_4_method_1_code (1 : Nat) (Option.none : Option Jvm.ClassFile.FieldType) ∈ GW := GW_mem 209 (by decide +kernel) (by decide +kernel)
theorem k210 : Jvm.Cond.methodLink "TwoScribes$PageText" (3 : Nat) ({ cls := "java/lang/Object", name := "<init>", desc := "()V" } : Jvm.MethodName) ∈ GW := GW_mem 210 (by decide +kernel) (by decide +kernel)
theorem k211 : Jvm.Cond.fieldLink "TwoScribes$PageText" (9 : Nat) "TwoScribes$PageText" "characters" "[C" ∈ GW := GW_mem 211 (by decide +kernel) (by decide +kernel)
theorem k212 : Jvm.Cond.fieldLink "TwoScribes$PageText" (15 : Nat) "TwoScribes$PageText" "letters" "[I" ∈ GW := GW_mem 212 (by decide +kernel) (by decide +kernel)
theorem k214 : Jvm.Cond.fieldLink "TwoScribes$PageText" (19 : Nat) "TwoScribes$PageText" "misreadings" "[I" ∈ GW := GW_mem 214 (by decide +kernel) (by decide +kernel)
theorem k216 : Jvm.Cond.fieldLink "TwoScribes$PageText" (22 : Nat) "TwoScribes$PageText" "length" "I" ∈ GW := GW_mem 216 (by decide +kernel) (by decide +kernel)
theorem k220 : Jvm.Cond.fieldLink "TwoScribes$PageText" (29 : Nat) "TwoScribes$PageText" "half" "I" ∈ GW := GW_mem 220 (by decide +kernel) (by decide +kernel)
theorem k222 : Jvm.Cond.fieldLink "TwoScribes$PageText" (43 : Nat) "TwoScribes$PageText" "farthest" "I" ∈ GW := GW_mem 222 (by decide +kernel) (by decide +kernel)
theorem k223 : Jvm.Cond.fieldLink "TwoScribes$PageText" (32 : Nat) "TwoScribes$PageText" "cursor" "I" ∈ GW := GW_mem 223 (by decide +kernel) (by decide +kernel)
theorem k239 : Jvm.Cond.arrayClass Jvm.ClassFile.FieldType.char ∈ GW := GW_mem 239 (by decide +kernel) (by decide +kernel)
theorem k240 : Jvm.Cond.fieldLink "TwoScribes" (10 : Nat) "TwoScribes" "now" "LTwoScribes$State;" ∈ GW := GW_mem 240 (by decide +kernel) (by decide +kernel)
theorem k241 : Jvm.Cond.fieldLink "TwoScribes" (16 : Nat) "TwoScribes" "trial" "LTwoScribes$State;" ∈ GW := GW_mem 241 (by decide +kernel) (by decide +kernel)
theorem k242 : Jvm.Cond.fieldLink "TwoScribes" (19 : Nat) "TwoScribes" "snapshot" "LTwoScribes$State;" ∈ GW := GW_mem 242 (by decide +kernel) (by decide +kernel)
theorem k243 : Jvm.Cond.fieldLink "TwoScribes" (25 : Nat) "TwoScribes" "history" "LTwoScribes$History;" ∈ GW := GW_mem 243 (by decide +kernel) (by decide +kernel)
theorem k244 : Jvm.Cond.fieldLink "TwoScribes" (32 : Nat) "TwoScribes" "text" "LTwoScribes$PageText;" ∈ GW := GW_mem 244 (by decide +kernel) (by decide +kernel)
theorem k245 : Jvm.Cond.fieldLink "TwoScribes" (157 : Nat) "TwoScribes" "hasSnapshot" "Z" ∈ GW := GW_mem 245 (by decide +kernel) (by decide +kernel)
theorem k259 : Jvm.Cond.methodLink "TwoScribesLaw" (13 : Nat) ({ cls := "TwoScribes", name := "readPage", desc := "()I" } : Jvm.MethodName) ∈ GW := GW_mem 259 (by decide +kernel) (by decide +kernel)
theorem k260 : Jvm.Cond.instanceMethod ({ cls := "TwoScribes", name := "readPage", desc := "()I" } : Jvm.MethodName) ∈ GW := GW_mem 260 (by decide +kernel) (by decide +kernel)
theorem k261 : Jvm.Cond.selects "TwoScribes" ({ cls := "TwoScribes", name := "readPage", desc := "()I" } : Jvm.MethodName) ({ cls := "TwoScribes", name := "readPage", desc := "()I" } : Jvm.MethodName) ∈ GW := GW_mem 261 (by decide +kernel) (by decide +kernel)
theorem k262 : Jvm.Cond.code ({ cls := "TwoScribes", name := "readPage", desc := "()I" } : Jvm.MethodName) prog_1_method_2_code (2 : Nat) (Option.some Jvm.ClassFile.FieldType.int) ∈ GW := GW_mem 262 (by decide +kernel) (by decide +kernel)
theorem k263 : Jvm.Cond.methodLink "TwoScribes" (36 : Nat) ({ cls := "TwoScribes$PageText", name := "findFault", desc := "()I" } : Jvm.MethodName) ∈ GW := GW_mem 263 (by decide +kernel) (by decide +kernel)
theorem k264 : Jvm.Cond.instanceMethod ({ cls := "TwoScribes$PageText", name := "findFault", desc := "()I" } : Jvm.MethodName) ∈ GW := GW_mem 264 (by decide +kernel) (by decide +kernel)
theorem k265 : Jvm.Cond.selects "TwoScribes$PageText" ({ cls := "TwoScribes$PageText", name := "findFault", desc := "()I" } : Jvm.MethodName) ({ cls := "TwoScribes$PageText", name := "findFault", desc := "()I" } : Jvm.MethodName) ∈ GW := GW_mem 265 (by decide +kernel) (by decide +kernel)
theorem k266 : Jvm.Cond.code ({ cls := "TwoScribes$PageText", name := "findFault", desc := "()I" } : Jvm.MethodName) prog_4_method_3_code (2 : Nat) (Option.some Jvm.ClassFile.FieldType.int) ∈ GW := GW_mem 266 (by decide +kernel) (by decide +kernel)
theorem k267 : Jvm.Cond.methodLink "TwoScribes$PageText" (26 : Nat) ({ cls := "TwoScribes$PageText", name := "readHalf", desc := "()V" } : Jvm.MethodName) ∈ GW := GW_mem 267 (by decide +kernel) (by decide +kernel)
theorem k269 : Jvm.Cond.instanceMethod ({ cls := "TwoScribes$PageText", name := "readHalf", desc := "()V" } : Jvm.MethodName) ∈ GW := GW_mem 269 (by decide +kernel) (by decide +kernel)
theorem k270 : Jvm.Cond.code ({ cls := "TwoScribes$PageText", name := "readHalf", desc := "()V" } : Jvm.MethodName) prog_4_method_4_code (3 : Nat) (Option.none : Option Jvm.ClassFile.FieldType) ∈ GW := GW_mem 270 (by decide +kernel) (by decide +kernel)
theorem k272 : Jvm.Cond.static ({ cls := "TwoScribes", name := "clearRow", desc := "([I)V" } : Jvm.MethodName) ∈ GW := GW_mem 272 (by decide +kernel) (by decide +kernel)
theorem k273 : Jvm.Cond.code ({ cls := "TwoScribes", name := "clearRow", desc := "([I)V" } : Jvm.MethodName) prog_1_method_28_code (2 : Nat) (Option.none : Option Jvm.ClassFile.FieldType) ∈ GW := GW_mem 273 (by decide +kernel) (by decide +kernel)
theorem k274 : Jvm.Cond.methodLink "TwoScribes$PageText" (50 : Nat) ({ cls := "TwoScribes$PageText", name := "letterAtCursor", desc := "()I" } : Jvm.MethodName) ∈ GW := GW_mem 274 (by decide +kernel) (by decide +kernel)
theorem k276 : Jvm.Cond.instanceMethod ({ cls := "TwoScribes$PageText", name := "letterAtCursor", desc := "()I" } : Jvm.MethodName) ∈ GW := GW_mem 276 (by decide +kernel) (by decide +kernel)
theorem k277 : Jvm.Cond.code ({ cls := "TwoScribes$PageText", name := "letterAtCursor", desc := "()I" } : Jvm.MethodName) prog_4_method_7_code (2 : Nat) (Option.some Jvm.ClassFile.FieldType.int) ∈ GW := GW_mem 277 (by decide +kernel) (by decide +kernel)
theorem k278 : Jvm.Cond.methodLink "TwoScribes$PageText" (67 : Nat) ({ cls := "TwoScribes$PageText", name := "isAtCharacter", desc := "()Z" } : Jvm.MethodName) ∈ GW := GW_mem 278 (by decide +kernel) (by decide +kernel)
theorem k280 : Jvm.Cond.instanceMethod ({ cls := "TwoScribes$PageText", name := "isAtCharacter", desc := "()Z" } : Jvm.MethodName) ∈ GW := GW_mem 280 (by decide +kernel) (by decide +kernel)
theorem k281 : Jvm.Cond.code ({ cls := "TwoScribes$PageText", name := "isAtCharacter", desc := "()Z" } : Jvm.MethodName) prog_4_method_9_code (1 : Nat) (Option.some Jvm.ClassFile.FieldType.boolean) ∈ GW := GW_mem 281 (by decide +kernel) (by decide +kernel)
theorem k283 : Jvm.Cond.static ({ cls := "TwoScribes", name := "put", desc := "([III)V" } : Jvm.MethodName) ∈ GW := GW_mem 283 (by decide +kernel) (by decide +kernel)
theorem k284 : Jvm.Cond.code ({ cls := "TwoScribes", name := "put", desc := "([III)V" } : Jvm.MethodName) prog_1_method_27_code (3 : Nat) (Option.none : Option Jvm.ClassFile.FieldType) ∈ GW := GW_mem 284 (by decide +kernel) (by decide +kernel)
theorem k285 : Jvm.Cond.methodLink "TwoScribes$PageText" (35 : Nat) ({ cls := "TwoScribes$PageText", name := "skip", desc := "(C)Z" } : Jvm.MethodName) ∈ GW := GW_mem 285 (by decide +kernel) (by decide +kernel)
theorem k287 : Jvm.Cond.instanceMethod ({ cls := "TwoScribes$PageText", name := "skip", desc := "(C)Z" } : Jvm.MethodName) ∈ GW := GW_mem 287 (by decide +kernel) (by decide +kernel)
theorem k288 : Jvm.Cond.code ({ cls := "TwoScribes$PageText", name := "skip", desc := "(C)Z" } : Jvm.MethodName) prog_4_method_6_code (2 : Nat) (Option.some Jvm.ClassFile.FieldType.boolean) ∈ GW := GW_mem 288 (by decide +kernel) (by decide +kernel)
theorem k289 : Jvm.Cond.methodLink "TwoScribes$PageText" (39 : Nat) ({ cls := "TwoScribes$PageText", name := "readMisreading", desc := "()Z" } : Jvm.MethodName) ∈ GW := GW_mem 289 (by decide +kernel) (by decide +kernel)
theorem k291 : Jvm.Cond.instanceMethod ({ cls := "TwoScribes$PageText", name := "readMisreading", desc := "()Z" } : Jvm.MethodName) ∈ GW := GW_mem 291 (by decide +kernel) (by decide +kernel)
theorem k292 : Jvm.Cond.code ({ cls := "TwoScribes$PageText", name := "readMisreading", desc := "()Z" } : Jvm.MethodName) prog_4_method_5_code (4 : Nat) (Option.some Jvm.ClassFile.FieldType.boolean) ∈ GW := GW_mem 292 (by decide +kernel) (by decide +kernel)
theorem k293 : Jvm.Cond.methodLink "TwoScribes$PageText" (58 : Nat) ({ cls := "TwoScribes$PageText", name := "digitAtCursor", desc := "()I" } : Jvm.MethodName) ∈ GW := GW_mem 293 (by decide +kernel) (by decide +kernel)
theorem k295 : Jvm.Cond.instanceMethod ({ cls := "TwoScribes$PageText", name := "digitAtCursor", desc := "()I" } : Jvm.MethodName) ∈ GW := GW_mem 295 (by decide +kernel) (by decide +kernel)
theorem k296 : Jvm.Cond.code ({ cls := "TwoScribes$PageText", name := "digitAtCursor", desc := "()I" } : Jvm.MethodName) prog_4_method_8_code (2 : Nat) (Option.some Jvm.ClassFile.FieldType.int) ∈ GW := GW_mem 296 (by decide +kernel) (by decide +kernel)
theorem k297 : Jvm.Cond.methodLink "TwoScribes$PageText" (61 : Nat) ({ cls := "java/lang/Math", name := "max", desc := "(II)I" } : Jvm.MethodName) ∈ GW := GW_mem 297 (by decide +kernel) (by decide +kernel)
theorem k298 : Jvm.Cond.static ({ cls := "java/lang/Math", name := "max", desc := "(II)I" } : Jvm.MethodName) ∈ GW := GW_mem 298 (by decide +kernel) (by decide +kernel)
theorem k299 : Jvm.Cond.code ({ cls := "java/lang/Math", name := "max", desc := "(II)I" } : Jvm.MethodName) prog_9_method_65_code (2 : Nat) (Option.some Jvm.ClassFile.FieldType.int) ∈ GW := GW_mem 299 (by decide +kernel) (by decide +kernel)
theorem k300 : Jvm.Cond.methodLink "TwoScribes" (47 : Nat) ({ cls := "TwoScribes$History", name := "record", desc := "(LTwoScribes$State;)V" } : Jvm.MethodName) ∈ GW := GW_mem 300 (by decide +kernel) (by decide +kernel)
theorem k301 : Jvm.Cond.instanceMethod ({ cls := "TwoScribes$History", name := "record", desc := "(LTwoScribes$State;)V" } : Jvm.MethodName) ∈ GW := GW_mem 301 (by decide +kernel) (by decide +kernel)
theorem k302 : Jvm.Cond.selects "TwoScribes$History" ({ cls := "TwoScribes$History", name := "record", desc := "(LTwoScribes$State;)V" } : Jvm.MethodName) ({ cls := "TwoScribes$History", name := "record", desc := "(LTwoScribes$State;)V" } : Jvm.MethodName) ∈ GW := GW_mem 302 (by decide +kernel) (by decide +kernel)
theorem k303 : Jvm.Cond.code ({ cls := "TwoScribes$History", name := "record", desc := "(LTwoScribes$State;)V" } : Jvm.MethodName) prog_2_method_2_code (3 : Nat) (Option.none : Option Jvm.ClassFile.FieldType) ∈ GW := GW_mem 303 (by decide +kernel) (by decide +kernel)
theorem k304 : Jvm.Cond.methodLink "TwoScribes$History" (25 : Nat) ({ cls := "TwoScribes$History", name := "stateAt", desc := "(I)LTwoScribes$State;" } : Jvm.MethodName) ∈ GW := GW_mem 304 (by decide +kernel) (by decide +kernel)
theorem k306 : Jvm.Cond.instanceMethod ({ cls := "TwoScribes$History", name := "stateAt", desc := "(I)LTwoScribes$State;" } : Jvm.MethodName) ∈ GW := GW_mem 306 (by decide +kernel) (by decide +kernel)
theorem k307 : Jvm.Cond.code ({ cls := "TwoScribes$History", name := "stateAt", desc := "(I)LTwoScribes$State;" } : Jvm.MethodName) prog_2_method_4_code (3 : Nat) (Option.some (Jvm.ClassFile.FieldType.object "TwoScribes$State")) ∈ GW := GW_mem 307 (by decide +kernel) (by decide +kernel)
theorem k308 : Jvm.Cond.methodLink "TwoScribes$History" (29 : Nat) ({ cls := "TwoScribes$State", name := "copyFrom", desc := "(LTwoScribes$State;)V" } : Jvm.MethodName) ∈ GW := GW_mem 308 (by decide +kernel) (by decide +kernel)
theorem k309 : Jvm.Cond.instanceMethod ({ cls := "TwoScribes$State", name := "copyFrom", desc := "(LTwoScribes$State;)V" } : Jvm.MethodName) ∈ GW := GW_mem 309 (by decide +kernel) (by decide +kernel)
theorem k310 : Jvm.Cond.selects "TwoScribes$State" ({ cls := "TwoScribes$State", name := "copyFrom", desc := "(LTwoScribes$State;)V" } : Jvm.MethodName) ({ cls := "TwoScribes$State", name := "copyFrom", desc := "(LTwoScribes$State;)V" } : Jvm.MethodName) ∈ GW := GW_mem 310 (by decide +kernel) (by decide +kernel)
theorem k311 : Jvm.Cond.code ({ cls := "TwoScribes$State", name := "copyFrom", desc := "(LTwoScribes$State;)V" } : Jvm.MethodName) prog_6_method_2_code (2 : Nat) (Option.none : Option Jvm.ClassFile.FieldType) ∈ GW := GW_mem 311 (by decide +kernel) (by decide +kernel)
theorem k312 : Jvm.Cond.methodLink "TwoScribes$State" (37 : Nat) ({ cls := "TwoScribes$Page", name := "copyFrom", desc := "(LTwoScribes$Page;)V" } : Jvm.MethodName) ∈ GW := GW_mem 312 (by decide +kernel) (by decide +kernel)
theorem k313 : Jvm.Cond.instanceMethod ({ cls := "TwoScribes$Page", name := "copyFrom", desc := "(LTwoScribes$Page;)V" } : Jvm.MethodName) ∈ GW := GW_mem 313 (by decide +kernel) (by decide +kernel)
theorem k314 : Jvm.Cond.selects "TwoScribes$Page" ({ cls := "TwoScribes$Page", name := "copyFrom", desc := "(LTwoScribes$Page;)V" } : Jvm.MethodName) ({ cls := "TwoScribes$Page", name := "copyFrom", desc := "(LTwoScribes$Page;)V" } : Jvm.MethodName) ∈ GW := GW_mem 314 (by decide +kernel) (by decide +kernel)
theorem k315 : Jvm.Cond.code ({ cls := "TwoScribes$Page", name := "copyFrom", desc := "(LTwoScribes$Page;)V" } : Jvm.MethodName) prog_3_method_2_code (2 : Nat) (Option.none : Option Jvm.ClassFile.FieldType) ∈ GW := GW_mem 315 (by decide +kernel) (by decide +kernel)
theorem k317 : Jvm.Cond.static ({ cls := "TwoScribes", name := "copyRow", desc := "([I[I)V" } : Jvm.MethodName) ∈ GW := GW_mem 317 (by decide +kernel) (by decide +kernel)
theorem k318 : Jvm.Cond.code ({ cls := "TwoScribes", name := "copyRow", desc := "([I[I)V" } : Jvm.MethodName) prog_1_method_29_code (2 : Nat) (Option.none : Option Jvm.ClassFile.FieldType) ∈ GW := GW_mem 318 (by decide +kernel) (by decide +kernel)
theorem k319 : Jvm.Cond.methodLink "TwoScribes" (249 : Nat) ({ cls := "java/lang/Math", name := "min", desc := "(II)I" } : Jvm.MethodName) ∈ GW := GW_mem 319 (by decide +kernel) (by decide +kernel)
theorem k320 : Jvm.Cond.static ({ cls := "java/lang/Math", name := "min", desc := "(II)I" } : Jvm.MethodName) ∈ GW := GW_mem 320 (by decide +kernel) (by decide +kernel)
theorem k321 : Jvm.Cond.code ({ cls := "java/lang/Math", name := "min", desc := "(II)I" } : Jvm.MethodName) prog_9_method_69_code (2 : Nat) (Option.some Jvm.ClassFile.FieldType.int) ∈ GW := GW_mem 321 (by decide +kernel) (by decide +kernel)
theorem k322 : Jvm.Cond.methodLink "TwoScribes" (255 : Nat) ({ cls := "java/lang/System", name := "arraycopy", desc := "(Ljava/lang/Object;ILjava/lang/Object;II)V" } : Jvm.MethodName) ∈ GW := GW_mem 322 (by decide +kernel) (by decide +kernel)
theorem k323 : Jvm.Cond.static ({ cls := "java/lang/System", name := "arraycopy", desc := "(Ljava/lang/Object;ILjava/lang/Object;II)V" } : Jvm.MethodName) ∈ GW := GW_mem 323 (by decide +kernel) (by decide +kernel)
theorem k324 : Jvm.Cond.native ({ cls := "java/lang/System", name := "arraycopy", desc := "(Ljava/lang/Object;ILjava/lang/Object;II)V" } : Jvm.MethodName) ∈ GW := GW_mem 324 (by decide +kernel) (by decide +kernel)
theorem k325 : Jvm.Cond.methodLink "TwoScribes$State" (41 : Nat) ({ cls := "TwoScribes$Scribe", name := "copyFrom", desc := "(LTwoScribes$Scribe;)V" } : Jvm.MethodName) ∈ GW := GW_mem 325 (by decide +kernel) (by decide +kernel)
theorem k326 : Jvm.Cond.instanceMethod ({ cls := "TwoScribes$Scribe", name := "copyFrom", desc := "(LTwoScribes$Scribe;)V" } : Jvm.MethodName) ∈ GW := GW_mem 326 (by decide +kernel) (by decide +kernel)
theorem k327 : Jvm.Cond.selects "TwoScribes$Scribe" ({ cls := "TwoScribes$Scribe", name := "copyFrom", desc := "(LTwoScribes$Scribe;)V" } : Jvm.MethodName) ({ cls := "TwoScribes$Scribe", name := "copyFrom", desc := "(LTwoScribes$Scribe;)V" } : Jvm.MethodName) ∈ GW := GW_mem 327 (by decide +kernel) (by decide +kernel)
theorem k328 : Jvm.Cond.code ({ cls := "TwoScribes$Scribe", name := "copyFrom", desc := "(LTwoScribes$Scribe;)V" } : Jvm.MethodName) prog_5_method_2_code (2 : Nat) (Option.none : Option Jvm.ClassFile.FieldType) ∈ GW := GW_mem 328 (by decide +kernel) (by decide +kernel)
theorem k330 : Jvm.Cond.methodLink "TwoScribes" (51 : Nat) ({ cls := "TwoScribes$State", name := "beginPage", desc := "(LTwoScribes$PageText;)V" } : Jvm.MethodName) ∈ GW := GW_mem 330 (by decide +kernel) (by decide +kernel)
theorem k331 : Jvm.Cond.instanceMethod ({ cls := "TwoScribes$State", name := "beginPage", desc := "(LTwoScribes$PageText;)V" } : Jvm.MethodName) ∈ GW := GW_mem 331 (by decide +kernel) (by decide +kernel)
theorem k332 : Jvm.Cond.selects "TwoScribes$State" ({ cls := "TwoScribes$State", name := "beginPage", desc := "(LTwoScribes$PageText;)V" } : Jvm.MethodName) ({ cls := "TwoScribes$State", name := "beginPage", desc := "(LTwoScribes$PageText;)V" } : Jvm.MethodName) ∈ GW := GW_mem 332 (by decide +kernel) (by decide +kernel)
theorem k333 : Jvm.Cond.code ({ cls := "TwoScribes$State", name := "beginPage", desc := "(LTwoScribes$PageText;)V" } : Jvm.MethodName) prog_6_method_4_code (2 : Nat) (Option.none : Option Jvm.ClassFile.FieldType) ∈ GW := GW_mem 333 (by decide +kernel) (by decide +kernel)
theorem k334 : Jvm.Cond.methodLink "TwoScribes$State" (67 : Nat) ({ cls := "TwoScribes$Page", name := "begin", desc := "(LTwoScribes$PageText;)V" } : Jvm.MethodName) ∈ GW := GW_mem 334 (by decide +kernel) (by decide +kernel)
theorem k335 : Jvm.Cond.instanceMethod ({ cls := "TwoScribes$Page", name := "begin", desc := "(LTwoScribes$PageText;)V" } : Jvm.MethodName) ∈ GW := GW_mem 335 (by decide +kernel) (by decide +kernel)
theorem k336 : Jvm.Cond.selects "TwoScribes$Page" ({ cls := "TwoScribes$Page", name := "begin", desc := "(LTwoScribes$PageText;)V" } : Jvm.MethodName) ({ cls := "TwoScribes$Page", name := "begin", desc := "(LTwoScribes$PageText;)V" } : Jvm.MethodName) ∈ GW := GW_mem 336 (by decide +kernel) (by decide +kernel)
theorem k337 : Jvm.Cond.code ({ cls := "TwoScribes$Page", name := "begin", desc := "(LTwoScribes$PageText;)V" } : Jvm.MethodName) prog_3_method_3_code (4 : Nat) (Option.none : Option Jvm.ClassFile.FieldType) ∈ GW := GW_mem 337 (by decide +kernel) (by decide +kernel)
theorem k340 : Jvm.Cond.static ({ cls := "TwoScribes", name := "at", desc := "([II)I" } : Jvm.MethodName) ∈ GW := GW_mem 340 (by decide +kernel) (by decide +kernel)
theorem k341 : Jvm.Cond.code ({ cls := "TwoScribes", name := "at", desc := "([II)I" } : Jvm.MethodName) prog_1_method_26_code (2 : Nat) (Option.some Jvm.ClassFile.FieldType.int) ∈ GW := GW_mem 341 (by decide +kernel) (by decide +kernel)
theorem k343 : Jvm.Cond.methodLink "TwoScribes$Page" (64 : Nat) ({ cls := "TwoScribes$Page", name := "mirrorOf", desc := "(I)I" } : Jvm.MethodName) ∈ GW := GW_mem 343 (by decide +kernel) (by decide +kernel)
theorem k344 : Jvm.Cond.instanceMethod ({ cls := "TwoScribes$Page", name := "mirrorOf", desc := "(I)I" } : Jvm.MethodName) ∈ GW := GW_mem 344 (by decide +kernel) (by decide +kernel)
theorem k345 : Jvm.Cond.selects "TwoScribes$Page" ({ cls := "TwoScribes$Page", name := "mirrorOf", desc := "(I)I" } : Jvm.MethodName) ({ cls := "TwoScribes$Page", name := "mirrorOf", desc := "(I)I" } : Jvm.MethodName) ∈ GW := GW_mem 345 (by decide +kernel) (by decide +kernel)
theorem k346 : Jvm.Cond.code ({ cls := "TwoScribes$Page", name := "mirrorOf", desc := "(I)I" } : Jvm.MethodName) prog_3_method_5_code (2 : Nat) (Option.some Jvm.ClassFile.FieldType.int) ∈ GW := GW_mem 346 (by decide +kernel) (by decide +kernel)
theorem k347 : Jvm.Cond.methodLink "TwoScribes$State" (71 : Nat) ({ cls := "TwoScribes$Scribe", name := "beginPage", desc := "()V" } : Jvm.MethodName) ∈ GW := GW_mem 347 (by decide +kernel) (by decide +kernel)
theorem k348 : Jvm.Cond.instanceMethod ({ cls := "TwoScribes$Scribe", name := "beginPage", desc := "()V" } : Jvm.MethodName) ∈ GW := GW_mem 348 (by decide +kernel) (by decide +kernel)
theorem k349 : Jvm.Cond.selects "TwoScribes$Scribe" ({ cls := "TwoScribes$Scribe", name := "beginPage", desc := "()V" } : Jvm.MethodName) ({ cls := "TwoScribes$Scribe", name := "beginPage", desc := "()V" } : Jvm.MethodName) ∈ GW := GW_mem 349 (by decide +kernel) (by decide +kernel)
theorem k350 : Jvm.Cond.code ({ cls := "TwoScribes$Scribe", name := "beginPage", desc := "()V" } : Jvm.MethodName) prog_5_method_3_code (1 : Nat) (Option.none : Option Jvm.ClassFile.FieldType) ∈ GW := GW_mem 350 (by decide +kernel) (by decide +kernel)
theorem k351 : Jvm.Cond.methodLink "TwoScribesLaw" (18 : Nat) ({ cls := "TwoScribes", name := "misread", desc := "(II)I" } : Jvm.MethodName) ∈ GW := GW_mem 351 (by decide +kernel) (by decide +kernel)
theorem k352 : Jvm.Cond.instanceMethod ({ cls := "TwoScribes", name := "misread", desc := "(II)I" } : Jvm.MethodName) ∈ GW := GW_mem 352 (by decide +kernel) (by decide +kernel)
theorem k353 : Jvm.Cond.selects "TwoScribes" ({ cls := "TwoScribes", name := "misread", desc := "(II)I" } : Jvm.MethodName) ({ cls := "TwoScribes", name := "misread", desc := "(II)I" } : Jvm.MethodName) ∈ GW := GW_mem 353 (by decide +kernel) (by decide +kernel)
theorem k354 : Jvm.Cond.code ({ cls := "TwoScribes", name := "misread", desc := "(II)I" } : Jvm.MethodName) prog_1_method_3_code (4 : Nat) (Option.some Jvm.ClassFile.FieldType.int) ∈ GW := GW_mem 354 (by decide +kernel) (by decide +kernel)
theorem k355 : Jvm.Cond.methodLink "TwoScribes" (64 : Nat) ({ cls := "TwoScribes$Page", name := "has", desc := "(I)Z" } : Jvm.MethodName) ∈ GW := GW_mem 355 (by decide +kernel) (by decide +kernel)
theorem k356 : Jvm.Cond.instanceMethod ({ cls := "TwoScribes$Page", name := "has", desc := "(I)Z" } : Jvm.MethodName) ∈ GW := GW_mem 356 (by decide +kernel) (by decide +kernel)
theorem k357 : Jvm.Cond.selects "TwoScribes$Page" ({ cls := "TwoScribes$Page", name := "has", desc := "(I)Z" } : Jvm.MethodName) ({ cls := "TwoScribes$Page", name := "has", desc := "(I)Z" } : Jvm.MethodName) ∈ GW := GW_mem 357 (by decide +kernel) (by decide +kernel)
theorem k358 : Jvm.Cond.code ({ cls := "TwoScribes$Page", name := "has", desc := "(I)Z" } : Jvm.MethodName) prog_3_method_4_code (2 : Nat) (Option.some Jvm.ClassFile.FieldType.boolean) ∈ GW := GW_mem 358 (by decide +kernel) (by decide +kernel)
theorem k359 : Jvm.Cond.methodLink "TwoScribes" (68 : Nat) ({ cls := "TwoScribes$State", name := "isBegun", desc := "(I)Z" } : Jvm.MethodName) ∈ GW := GW_mem 359 (by decide +kernel) (by decide +kernel)
theorem k360 : Jvm.Cond.instanceMethod ({ cls := "TwoScribes$State", name := "isBegun", desc := "(I)Z" } : Jvm.MethodName) ∈ GW := GW_mem 360 (by decide +kernel) (by decide +kernel)
theorem k361 : Jvm.Cond.selects "TwoScribes$State" ({ cls := "TwoScribes$State", name := "isBegun", desc := "(I)Z" } : Jvm.MethodName) ({ cls := "TwoScribes$State", name := "isBegun", desc := "(I)Z" } : Jvm.MethodName) ∈ GW := GW_mem 361 (by decide +kernel) (by decide +kernel)
theorem k362 : Jvm.Cond.code ({ cls := "TwoScribes$State", name := "isBegun", desc := "(I)Z" } : Jvm.MethodName) prog_6_method_8_code (2 : Nat) (Option.some Jvm.ClassFile.FieldType.boolean) ∈ GW := GW_mem 362 (by decide +kernel) (by decide +kernel)
theorem k363 : Jvm.Cond.methodLink "TwoScribes$State" (90 : Nat) ({ cls := "TwoScribes$Page", name := "isWritten", desc := "(I)Z" } : Jvm.MethodName) ∈ GW := GW_mem 363 (by decide +kernel) (by decide +kernel)
theorem k364 : Jvm.Cond.instanceMethod ({ cls := "TwoScribes$Page", name := "isWritten", desc := "(I)Z" } : Jvm.MethodName) ∈ GW := GW_mem 364 (by decide +kernel) (by decide +kernel)
theorem k365 : Jvm.Cond.selects "TwoScribes$Page" ({ cls := "TwoScribes$Page", name := "isWritten", desc := "(I)Z" } : Jvm.MethodName) ({ cls := "TwoScribes$Page", name := "isWritten", desc := "(I)Z" } : Jvm.MethodName) ∈ GW := GW_mem 365 (by decide +kernel) (by decide +kernel)
theorem k366 : Jvm.Cond.code ({ cls := "TwoScribes$Page", name := "isWritten", desc := "(I)Z" } : Jvm.MethodName) prog_3_method_7_code (2 : Nat) (Option.some Jvm.ClassFile.FieldType.boolean) ∈ GW := GW_mem 366 (by decide +kernel) (by decide +kernel)
theorem k367 : Jvm.Cond.methodLink "TwoScribes$State" (97 : Nat) ({ cls := "TwoScribes$State", name := "nextPlaceOf", desc := "(I)I" } : Jvm.MethodName) ∈ GW := GW_mem 367 (by decide +kernel) (by decide +kernel)
theorem k368 : Jvm.Cond.instanceMethod ({ cls := "TwoScribes$State", name := "nextPlaceOf", desc := "(I)I" } : Jvm.MethodName) ∈ GW := GW_mem 368 (by decide +kernel) (by decide +kernel)
theorem k369 : Jvm.Cond.selects "TwoScribes$State" ({ cls := "TwoScribes$State", name := "nextPlaceOf", desc := "(I)I" } : Jvm.MethodName) ({ cls := "TwoScribes$State", name := "nextPlaceOf", desc := "(I)I" } : Jvm.MethodName) ∈ GW := GW_mem 369 (by decide +kernel) (by decide +kernel)
theorem k370 : Jvm.Cond.code ({ cls := "TwoScribes$State", name := "nextPlaceOf", desc := "(I)I" } : Jvm.MethodName) prog_6_method_7_code (3 : Nat) (Option.some Jvm.ClassFile.FieldType.int) ∈ GW := GW_mem 370 (by decide +kernel) (by decide +kernel)
theorem k371 : Jvm.Cond.methodLink "TwoScribes$State" (82 : Nat) ({ cls := "TwoScribes$State", name := "scribeOf", desc := "(I)LTwoScribes$Scribe;" } : Jvm.MethodName) ∈ GW := GW_mem 371 (by decide +kernel) (by decide +kernel)
theorem k372 : Jvm.Cond.instanceMethod ({ cls := "TwoScribes$State", name := "scribeOf", desc := "(I)LTwoScribes$Scribe;" } : Jvm.MethodName) ∈ GW := GW_mem 372 (by decide +kernel) (by decide +kernel)
theorem k373 : Jvm.Cond.selects "TwoScribes$State" ({ cls := "TwoScribes$State", name := "scribeOf", desc := "(I)LTwoScribes$Scribe;" } : Jvm.MethodName) ({ cls := "TwoScribes$State", name := "scribeOf", desc := "(I)LTwoScribes$Scribe;" } : Jvm.MethodName) ∈ GW := GW_mem 373 (by decide +kernel) (by decide +kernel)
theorem k374 : Jvm.Cond.code ({ cls := "TwoScribes$State", name := "scribeOf", desc := "(I)LTwoScribes$Scribe;" } : Jvm.MethodName) prog_6_method_3_code (2 : Nat) (Option.some (Jvm.ClassFile.FieldType.object "TwoScribes$Scribe")) ∈ GW := GW_mem 374 (by decide +kernel) (by decide +kernel)
theorem k375 : Jvm.Cond.methodLink "TwoScribes$State" (86 : Nat) ({ cls := "TwoScribes$Page", name := "mirrorOf", desc := "(I)I" } : Jvm.MethodName) ∈ GW := GW_mem 375 (by decide +kernel) (by decide +kernel)
theorem k376 : Jvm.Cond.methodLink "TwoScribes" (75 : Nat) ({ cls := "TwoScribes", name := "at", desc := "([II)I" } : Jvm.MethodName) ∈ GW := GW_mem 376 (by decide +kernel) (by decide +kernel)
theorem k377 : Jvm.Cond.methodLink "TwoScribes" (79 : Nat) ({ cls := "TwoScribes$Page", name := "letterFor", desc := "(I)I" } : Jvm.MethodName) ∈ GW := GW_mem 377 (by decide +kernel) (by decide +kernel)
theorem k378 : Jvm.Cond.instanceMethod ({ cls := "TwoScribes$Page", name := "letterFor", desc := "(I)I" } : Jvm.MethodName) ∈ GW := GW_mem 378 (by decide +kernel) (by decide +kernel)
theorem k379 : Jvm.Cond.selects "TwoScribes$Page" ({ cls := "TwoScribes$Page", name := "letterFor", desc := "(I)I" } : Jvm.MethodName) ({ cls := "TwoScribes$Page", name := "letterFor", desc := "(I)I" } : Jvm.MethodName) ∈ GW := GW_mem 379 (by decide +kernel) (by decide +kernel)
theorem k380 : Jvm.Cond.code ({ cls := "TwoScribes$Page", name := "letterFor", desc := "(I)I" } : Jvm.MethodName) prog_3_method_6_code (3 : Nat) (Option.some Jvm.ClassFile.FieldType.int) ∈ GW := GW_mem 380 (by decide +kernel) (by decide +kernel)
theorem k381 : Jvm.Cond.methodLink "TwoScribes" (83 : Nat) ({ cls := "TwoScribes", name := "put", desc := "([III)V" } : Jvm.MethodName) ∈ GW := GW_mem 381 (by decide +kernel) (by decide +kernel)
theorem k382 : Jvm.Cond.methodLink "TwoScribesLaw" (23 : Nat) ({ cls := "TwoScribes", name := "correct", desc := "(I)I" } : Jvm.MethodName) ∈ GW := GW_mem 382 (by decide +kernel) (by decide +kernel)
theorem k383 : Jvm.Cond.instanceMethod ({ cls := "TwoScribes", name := "correct", desc := "(I)I" } : Jvm.MethodName) ∈ GW := GW_mem 383 (by decide +kernel) (by decide +kernel)
theorem k384 : Jvm.Cond.selects "TwoScribes" ({ cls := "TwoScribes", name := "correct", desc := "(I)I" } : Jvm.MethodName) ({ cls := "TwoScribes", name := "correct", desc := "(I)I" } : Jvm.MethodName) ∈ GW := GW_mem 384 (by decide +kernel) (by decide +kernel)
theorem k385 : Jvm.Cond.code ({ cls := "TwoScribes", name := "correct", desc := "(I)I" } : Jvm.MethodName) prog_1_method_4_code (2 : Nat) (Option.some Jvm.ClassFile.FieldType.int) ∈ GW := GW_mem 385 (by decide +kernel) (by decide +kernel)
theorem k386 : Jvm.Cond.methodLink "TwoScribes" (87 : Nat) ({ cls := "TwoScribes$State", name := "canCorrect", desc := "(I)Z" } : Jvm.MethodName) ∈ GW := GW_mem 386 (by decide +kernel) (by decide +kernel)
theorem k387 : Jvm.Cond.instanceMethod ({ cls := "TwoScribes$State", name := "canCorrect", desc := "(I)Z" } : Jvm.MethodName) ∈ GW := GW_mem 387 (by decide +kernel) (by decide +kernel)
theorem k388 : Jvm.Cond.selects "TwoScribes$State" ({ cls := "TwoScribes$State", name := "canCorrect", desc := "(I)Z" } : Jvm.MethodName) ({ cls := "TwoScribes$State", name := "canCorrect", desc := "(I)Z" } : Jvm.MethodName) ∈ GW := GW_mem 388 (by decide +kernel) (by decide +kernel)
theorem k389 : Jvm.Cond.code ({ cls := "TwoScribes$State", name := "canCorrect", desc := "(I)Z" } : Jvm.MethodName) prog_6_method_10_code (2 : Nat) (Option.some Jvm.ClassFile.FieldType.boolean) ∈ GW := GW_mem 389 (by decide +kernel) (by decide +kernel)
theorem k390 : Jvm.Cond.methodLink "TwoScribes$State" (113 : Nat) ({ cls := "TwoScribes$State", name := "correctionsLeft", desc := "()I" } : Jvm.MethodName) ∈ GW := GW_mem 390 (by decide +kernel) (by decide +kernel)
theorem k391 : Jvm.Cond.instanceMethod ({ cls := "TwoScribes$State", name := "correctionsLeft", desc := "()I" } : Jvm.MethodName) ∈ GW := GW_mem 391 (by decide +kernel) (by decide +kernel)
theorem k392 : Jvm.Cond.selects "TwoScribes$State" ({ cls := "TwoScribes$State", name := "correctionsLeft", desc := "()I" } : Jvm.MethodName) ({ cls := "TwoScribes$State", name := "correctionsLeft", desc := "()I" } : Jvm.MethodName) ∈ GW := GW_mem 392 (by decide +kernel) (by decide +kernel)
theorem k393 : Jvm.Cond.code ({ cls := "TwoScribes$State", name := "correctionsLeft", desc := "()I" } : Jvm.MethodName) prog_6_method_9_code (1 : Nat) (Option.some Jvm.ClassFile.FieldType.int) ∈ GW := GW_mem 393 (by decide +kernel) (by decide +kernel)
theorem k395 : Jvm.Cond.methodLink "TwoScribes$State" (107 : Nat) ({ cls := "java/lang/Math", name := "max", desc := "(II)I" } : Jvm.MethodName) ∈ GW := GW_mem 395 (by decide +kernel) (by decide +kernel)
theorem k397 : Jvm.Cond.static ({ cls := "TwoScribes", name := "inkFor", desc := "(I)F" } : Jvm.MethodName) ∈ GW := GW_mem 397 (by decide +kernel) (by decide +kernel)
theorem k398 : Jvm.Cond.code ({ cls := "TwoScribes", name := "inkFor", desc := "(I)F" } : Jvm.MethodName) prog_1_method_25_code (1 : Nat) (Option.some Jvm.ClassFile.FieldType.float) ∈ GW := GW_mem 398 (by decide +kernel) (by decide +kernel)
theorem k399 : Jvm.Cond.constantFloat "TwoScribes" (248 : Nat) (1115684864 : UInt32) ∈ GW := GW_mem 399 (by decide +kernel) (by decide +kernel)
theorem k400 : Jvm.Cond.methodLink "TwoScribes" (90 : Nat) ({ cls := "TwoScribes$Page", name := "isFaultless", desc := "(I)Z" } : Jvm.MethodName) ∈ GW := GW_mem 400 (by decide +kernel) (by decide +kernel)
theorem k401 : Jvm.Cond.instanceMethod ({ cls := "TwoScribes$Page", name := "isFaultless", desc := "(I)Z" } : Jvm.MethodName) ∈ GW := GW_mem 401 (by decide +kernel) (by decide +kernel)
theorem k402 : Jvm.Cond.selects "TwoScribes$Page" ({ cls := "TwoScribes$Page", name := "isFaultless", desc := "(I)Z" } : Jvm.MethodName) ({ cls := "TwoScribes$Page", name := "isFaultless", desc := "(I)Z" } : Jvm.MethodName) ∈ GW := GW_mem 402 (by decide +kernel) (by decide +kernel)
theorem k403 : Jvm.Cond.code ({ cls := "TwoScribes$Page", name := "isFaultless", desc := "(I)Z" } : Jvm.MethodName) prog_3_method_8_code (2 : Nat) (Option.some Jvm.ClassFile.FieldType.boolean) ∈ GW := GW_mem 403 (by decide +kernel) (by decide +kernel)
theorem k404 : Jvm.Cond.methodLink "TwoScribes" (93 : Nat) ({ cls := "TwoScribes$State", name := "makeCorrection", desc := "(I)V" } : Jvm.MethodName) ∈ GW := GW_mem 404 (by decide +kernel) (by decide +kernel)
theorem k405 : Jvm.Cond.instanceMethod ({ cls := "TwoScribes$State", name := "makeCorrection", desc := "(I)V" } : Jvm.MethodName) ∈ GW := GW_mem 405 (by decide +kernel) (by decide +kernel)
theorem k406 : Jvm.Cond.selects "TwoScribes$State" ({ cls := "TwoScribes$State", name := "makeCorrection", desc := "(I)V" } : Jvm.MethodName) ({ cls := "TwoScribes$State", name := "makeCorrection", desc := "(I)V" } : Jvm.MethodName) ∈ GW := GW_mem 406 (by decide +kernel) (by decide +kernel)
theorem k407 : Jvm.Cond.code ({ cls := "TwoScribes$State", name := "makeCorrection", desc := "(I)V" } : Jvm.MethodName) prog_6_method_11_code (3 : Nat) (Option.none : Option Jvm.ClassFile.FieldType) ∈ GW := GW_mem 407 (by decide +kernel) (by decide +kernel)
theorem k408 : Jvm.Cond.methodLink "TwoScribes$State" (123 : Nat) ({ cls := "TwoScribes$Page", name := "amend", desc := "(I)V" } : Jvm.MethodName) ∈ GW := GW_mem 408 (by decide +kernel) (by decide +kernel)
theorem k409 : Jvm.Cond.instanceMethod ({ cls := "TwoScribes$Page", name := "amend", desc := "(I)V" } : Jvm.MethodName) ∈ GW := GW_mem 409 (by decide +kernel) (by decide +kernel)
theorem k410 : Jvm.Cond.selects "TwoScribes$Page" ({ cls := "TwoScribes$Page", name := "amend", desc := "(I)V" } : Jvm.MethodName) ({ cls := "TwoScribes$Page", name := "amend", desc := "(I)V" } : Jvm.MethodName) ∈ GW := GW_mem 410 (by decide +kernel) (by decide +kernel)
theorem k411 : Jvm.Cond.code ({ cls := "TwoScribes$Page", name := "amend", desc := "(I)V" } : Jvm.MethodName) prog_3_method_11_code (2 : Nat) (Option.none : Option Jvm.ClassFile.FieldType) ∈ GW := GW_mem 411 (by decide +kernel) (by decide +kernel)
theorem k412 : Jvm.Cond.methodLink "TwoScribes" (97 : Nat) ({ cls := "TwoScribes$State", name := "correctionsLeft", desc := "()I" } : Jvm.MethodName) ∈ GW := GW_mem 412 (by decide +kernel) (by decide +kernel)
theorem k413 : Jvm.Cond.methodLink "TwoScribesLaw" (28 : Nat) ({ cls := "TwoScribes", name := "setPace", desc := "(II)I" } : Jvm.MethodName) ∈ GW := GW_mem 413 (by decide +kernel) (by decide +kernel)
theorem k414 : Jvm.Cond.instanceMethod ({ cls := "TwoScribes", name := "setPace", desc := "(II)I" } : Jvm.MethodName) ∈ GW := GW_mem 414 (by decide +kernel) (by decide +kernel)
theorem k415 : Jvm.Cond.selects "TwoScribes" ({ cls := "TwoScribes", name := "setPace", desc := "(II)I" } : Jvm.MethodName) ({ cls := "TwoScribes", name := "setPace", desc := "(II)I" } : Jvm.MethodName) ∈ GW := GW_mem 415 (by decide +kernel) (by decide +kernel)
theorem k416 : Jvm.Cond.code ({ cls := "TwoScribes", name := "setPace", desc := "(II)I" } : Jvm.MethodName) prog_1_method_5_code (4 : Nat) (Option.some Jvm.ClassFile.FieldType.int) ∈ GW := GW_mem 416 (by decide +kernel) (by decide +kernel)
theorem k417 : Jvm.Cond.methodLink "TwoScribes" (100 : Nat) ({ cls := "TwoScribes", name := "isScribe", desc := "(I)Z" } : Jvm.MethodName) ∈ GW := GW_mem 417 (by decide +kernel) (by decide +kernel)
theorem k418 : Jvm.Cond.static ({ cls := "TwoScribes", name := "isScribe", desc := "(I)Z" } : Jvm.MethodName) ∈ GW := GW_mem 418 (by decide +kernel) (by decide +kernel)
theorem k419 : Jvm.Cond.code ({ cls := "TwoScribes", name := "isScribe", desc := "(I)Z" } : Jvm.MethodName) prog_1_method_24_code (1 : Nat) (Option.some Jvm.ClassFile.FieldType.boolean) ∈ GW := GW_mem 419 (by decide +kernel) (by decide +kernel)
theorem k420 : Jvm.Cond.methodLink "TwoScribes" (103 : Nat) ({ cls := "TwoScribes$State", name := "scribeOf", desc := "(I)LTwoScribes$Scribe;" } : Jvm.MethodName) ∈ GW := GW_mem 420 (by decide +kernel) (by decide +kernel)
theorem k421 : Jvm.Cond.methodLink "TwoScribesLaw" (32 : Nat) ({ cls := "TwoScribes", name := "pour", desc := "(I)I" } : Jvm.MethodName) ∈ GW := GW_mem 421 (by decide +kernel) (by decide +kernel)
theorem k422 : Jvm.Cond.instanceMethod ({ cls := "TwoScribes", name := "pour", desc := "(I)I" } : Jvm.MethodName) ∈ GW := GW_mem 422 (by decide +kernel) (by decide +kernel)
theorem k423 : Jvm.Cond.selects "TwoScribes" ({ cls := "TwoScribes", name := "pour", desc := "(I)I" } : Jvm.MethodName) ({ cls := "TwoScribes", name := "pour", desc := "(I)I" } : Jvm.MethodName) ∈ GW := GW_mem 423 (by decide +kernel) (by decide +kernel)
theorem k424 : Jvm.Cond.code ({ cls := "TwoScribes", name := "pour", desc := "(I)I" } : Jvm.MethodName) prog_1_method_6_code (2 : Nat) (Option.some Jvm.ClassFile.FieldType.int) ∈ GW := GW_mem 424 (by decide +kernel) (by decide +kernel)
theorem k425 : Jvm.Cond.constantFloat "TwoScribes" (119 : Nat) (1090519040 : UInt32) ∈ GW := GW_mem 425 (by decide +kernel) (by decide +kernel)
theorem k426 : Jvm.Cond.methodLink "TwoScribesLaw" (36 : Nat) ({ cls := "TwoScribes", name := "set", desc := "(II)I" } : Jvm.MethodName) ∈ GW := GW_mem 426 (by decide +kernel) (by decide +kernel)
theorem k427 : Jvm.Cond.instanceMethod ({ cls := "TwoScribes", name := "set", desc := "(II)I" } : Jvm.MethodName) ∈ GW := GW_mem 427 (by decide +kernel) (by decide +kernel)
theorem k428 : Jvm.Cond.selects "TwoScribes" ({ cls := "TwoScribes", name := "set", desc := "(II)I" } : Jvm.MethodName) ({ cls := "TwoScribes", name := "set", desc := "(II)I" } : Jvm.MethodName) ∈ GW := GW_mem 428 (by decide +kernel) (by decide +kernel)
theorem k429 : Jvm.Cond.code ({ cls := "TwoScribes", name := "set", desc := "(II)I" } : Jvm.MethodName) prog_1_method_7_code (4 : Nat) (Option.some Jvm.ClassFile.FieldType.int) ∈ GW := GW_mem 429 (by decide +kernel) (by decide +kernel)
theorem k430 : Jvm.Cond.fieldLink "TwoScribes" (120 : Nat) "TwoScribes" "LEAST_SETTINGS" "[I" ∈ GW := GW_mem 430 (by decide +kernel) (by decide +kernel)
theorem k432 : Jvm.Cond.fieldLink "TwoScribes" (123 : Nat) "TwoScribes" "GREATEST_SETTINGS" "[I" ∈ GW := GW_mem 432 (by decide +kernel) (by decide +kernel)
theorem k434 : Jvm.Cond.methodLink "TwoScribesLaw" (40 : Nat) ({ cls := "TwoScribes", name := "pass", desc := "(I)I" } : Jvm.MethodName) ∈ GW := GW_mem 434 (by decide +kernel) (by decide +kernel)
theorem k435 : Jvm.Cond.instanceMethod ({ cls := "TwoScribes", name := "pass", desc := "(I)I" } : Jvm.MethodName) ∈ GW := GW_mem 435 (by decide +kernel) (by decide +kernel)
theorem k436 : Jvm.Cond.selects "TwoScribes" ({ cls := "TwoScribes", name := "pass", desc := "(I)I" } : Jvm.MethodName) ({ cls := "TwoScribes", name := "pass", desc := "(I)I" } : Jvm.MethodName) ∈ GW := GW_mem 436 (by decide +kernel) (by decide +kernel)
theorem k437 : Jvm.Cond.code ({ cls := "TwoScribes", name := "pass", desc := "(I)I" } : Jvm.MethodName) prog_1_method_8_code (4 : Nat) (Option.some Jvm.ClassFile.FieldType.int) ∈ GW := GW_mem 437 (by decide +kernel) (by decide +kernel)
theorem k438 : Jvm.Cond.constant "TwoScribes" (132 : Nat) (99999 : Int32) ∈ GW := GW_mem 438 (by decide +kernel) (by decide +kernel)
theorem k439 : Jvm.Cond.methodLink "TwoScribes" (136 : Nat) ({ cls := "TwoScribes$State", name := "passTick", desc := "()Z" } : Jvm.MethodName) ∈ GW := GW_mem 439 (by decide +kernel) (by decide +kernel)
theorem k440 : Jvm.Cond.instanceMethod ({ cls := "TwoScribes$State", name := "passTick", desc := "()Z" } : Jvm.MethodName) ∈ GW := GW_mem 440 (by decide +kernel) (by decide +kernel)
theorem k441 : Jvm.Cond.selects "TwoScribes$State" ({ cls := "TwoScribes$State", name := "passTick", desc := "()Z" } : Jvm.MethodName) ({ cls := "TwoScribes$State", name := "passTick", desc := "()Z" } : Jvm.MethodName) ∈ GW := GW_mem 441 (by decide +kernel) (by decide +kernel)
theorem k442 : Jvm.Cond.code ({ cls := "TwoScribes$State", name := "passTick", desc := "()Z" } : Jvm.MethodName) prog_6_method_16_code (3 : Nat) (Option.some Jvm.ClassFile.FieldType.boolean) ∈ GW := GW_mem 442 (by decide +kernel) (by decide +kernel)
theorem k443 : Jvm.Cond.methodLink "TwoScribes$State" (159 : Nat) ({ cls := "TwoScribes$State", name := "takeTurn", desc := "(I)I" } : Jvm.MethodName) ∈ GW := GW_mem 443 (by decide +kernel) (by decide +kernel)
theorem k444 : Jvm.Cond.instanceMethod ({ cls := "TwoScribes$State", name := "takeTurn", desc := "(I)I" } : Jvm.MethodName) ∈ GW := GW_mem 444 (by decide +kernel) (by decide +kernel)
theorem k445 : Jvm.Cond.selects "TwoScribes$State" ({ cls := "TwoScribes$State", name := "takeTurn", desc := "(I)I" } : Jvm.MethodName) ({ cls := "TwoScribes$State", name := "takeTurn", desc := "(I)I" } : Jvm.MethodName) ∈ GW := GW_mem 445 (by decide +kernel) (by decide +kernel)
theorem k446 : Jvm.Cond.code ({ cls := "TwoScribes$State", name := "takeTurn", desc := "(I)I" } : Jvm.MethodName) prog_6_method_13_code (4 : Nat) (Option.some Jvm.ClassFile.FieldType.int) ∈ GW := GW_mem 446 (by decide +kernel) (by decide +kernel)
theorem k447 : Jvm.Cond.methodLink "TwoScribes$State" (136 : Nat) ({ cls := "TwoScribes$State", name := "deedOf", desc := "(I)I" } : Jvm.MethodName) ∈ GW := GW_mem 447 (by decide +kernel) (by decide +kernel)
theorem k448 : Jvm.Cond.instanceMethod ({ cls := "TwoScribes$State", name := "deedOf", desc := "(I)I" } : Jvm.MethodName) ∈ GW := GW_mem 448 (by decide +kernel) (by decide +kernel)
theorem k449 : Jvm.Cond.selects "TwoScribes$State" ({ cls := "TwoScribes$State", name := "deedOf", desc := "(I)I" } : Jvm.MethodName) ({ cls := "TwoScribes$State", name := "deedOf", desc := "(I)I" } : Jvm.MethodName) ∈ GW := GW_mem 449 (by decide +kernel) (by decide +kernel)
theorem k450 : Jvm.Cond.code ({ cls := "TwoScribes$State", name := "deedOf", desc := "(I)I" } : Jvm.MethodName) prog_6_method_12_code (4 : Nat) (Option.some Jvm.ClassFile.FieldType.int) ∈ GW := GW_mem 450 (by decide +kernel) (by decide +kernel)
theorem k451 : Jvm.Cond.methodLink "TwoScribes$State" (133 : Nat) ({ cls := "TwoScribes$Page", name := "letterFor", desc := "(I)I" } : Jvm.MethodName) ∈ GW := GW_mem 451 (by decide +kernel) (by decide +kernel)
theorem k452 : Jvm.Cond.methodLink "TwoScribes$State" (139 : Nat) ({ cls := "TwoScribes$State", name := "spendTick", desc := "(I)V" } : Jvm.MethodName) ∈ GW := GW_mem 452 (by decide +kernel) (by decide +kernel)
theorem k454 : Jvm.Cond.instanceMethod ({ cls := "TwoScribes$State", name := "spendTick", desc := "(I)V" } : Jvm.MethodName) ∈ GW := GW_mem 454 (by decide +kernel) (by decide +kernel)
theorem k455 : Jvm.Cond.code ({ cls := "TwoScribes$State", name := "spendTick", desc := "(I)V" } : Jvm.MethodName) prog_6_method_15_code (7 : Nat) (Option.none : Option Jvm.ClassFile.FieldType) ∈ GW := GW_mem 455 (by decide +kernel) (by decide +kernel)
theorem k456 : Jvm.Cond.constantFloat "TwoScribes$State" (154 : Nat) (1090519040 : UInt32) ∈ GW := GW_mem 456 (by decide +kernel) (by decide +kernel)
theorem k457 : Jvm.Cond.methodLink "TwoScribes$State" (155 : Nat) ({ cls := "TwoScribes$Page", name := "write", desc := "(IIZI)V" } : Jvm.MethodName) ∈ GW := GW_mem 457 (by decide +kernel) (by decide +kernel)
theorem k458 : Jvm.Cond.instanceMethod ({ cls := "TwoScribes$Page", name := "write", desc := "(IIZI)V" } : Jvm.MethodName) ∈ GW := GW_mem 458 (by decide +kernel) (by decide +kernel)
theorem k459 : Jvm.Cond.selects "TwoScribes$Page" ({ cls := "TwoScribes$Page", name := "write", desc := "(IIZI)V" } : Jvm.MethodName) ({ cls := "TwoScribes$Page", name := "write", desc := "(IIZI)V" } : Jvm.MethodName) ∈ GW := GW_mem 459 (by decide +kernel) (by decide +kernel)
theorem k460 : Jvm.Cond.code ({ cls := "TwoScribes$Page", name := "write", desc := "(IIZI)V" } : Jvm.MethodName) prog_3_method_10_code (5 : Nat) (Option.none : Option Jvm.ClassFile.FieldType) ∈ GW := GW_mem 460 (by decide +kernel) (by decide +kernel)
theorem k461 : Jvm.Cond.methodLink "TwoScribes$State" (142 : Nat) ({ cls := "TwoScribes$State", name := "goOnDipping", desc := "(LTwoScribes$Scribe;)V" } : Jvm.MethodName) ∈ GW := GW_mem 461 (by decide +kernel) (by decide +kernel)
theorem k463 : Jvm.Cond.instanceMethod ({ cls := "TwoScribes$State", name := "goOnDipping", desc := "(LTwoScribes$Scribe;)V" } : Jvm.MethodName) ∈ GW := GW_mem 463 (by decide +kernel) (by decide +kernel)
theorem k464 : Jvm.Cond.code ({ cls := "TwoScribes$State", name := "goOnDipping", desc := "(LTwoScribes$Scribe;)V" } : Jvm.MethodName) prog_6_method_14_code (4 : Nat) (Option.none : Option Jvm.ClassFile.FieldType) ∈ GW := GW_mem 464 (by decide +kernel) (by decide +kernel)
theorem k465 : Jvm.Cond.methodLink "TwoScribesLaw" (44 : Nat) ({ cls := "TwoScribes", name := "type", desc := "(C)I" } : Jvm.MethodName) ∈ GW := GW_mem 465 (by decide +kernel) (by decide +kernel)
theorem k466 : Jvm.Cond.instanceMethod ({ cls := "TwoScribes", name := "type", desc := "(C)I" } : Jvm.MethodName) ∈ GW := GW_mem 466 (by decide +kernel) (by decide +kernel)
theorem k467 : Jvm.Cond.selects "TwoScribes" ({ cls := "TwoScribes", name := "type", desc := "(C)I" } : Jvm.MethodName) ({ cls := "TwoScribes", name := "type", desc := "(C)I" } : Jvm.MethodName) ∈ GW := GW_mem 467 (by decide +kernel) (by decide +kernel)
theorem k468 : Jvm.Cond.code ({ cls := "TwoScribes", name := "type", desc := "(C)I" } : Jvm.MethodName) prog_1_method_9_code (2 : Nat) (Option.some Jvm.ClassFile.FieldType.int) ∈ GW := GW_mem 468 (by decide +kernel) (by decide +kernel)
theorem k469 : Jvm.Cond.methodLink "TwoScribes" (140 : Nat) ({ cls := "TwoScribes$PageText", name := "append", desc := "(C)Z" } : Jvm.MethodName) ∈ GW := GW_mem 469 (by decide +kernel) (by decide +kernel)
theorem k470 : Jvm.Cond.instanceMethod ({ cls := "TwoScribes$PageText", name := "append", desc := "(C)Z" } : Jvm.MethodName) ∈ GW := GW_mem 470 (by decide +kernel) (by decide +kernel)
theorem k471 : Jvm.Cond.selects "TwoScribes$PageText" ({ cls := "TwoScribes$PageText", name := "append", desc := "(C)Z" } : Jvm.MethodName) ({ cls := "TwoScribes$PageText", name := "append", desc := "(C)Z" } : Jvm.MethodName) ∈ GW := GW_mem 471 (by decide +kernel) (by decide +kernel)
theorem k472 : Jvm.Cond.code ({ cls := "TwoScribes$PageText", name := "append", desc := "(C)Z" } : Jvm.MethodName) prog_4_method_2_code (2 : Nat) (Option.some Jvm.ClassFile.FieldType.boolean) ∈ GW := GW_mem 472 (by decide +kernel) (by decide +kernel)
theorem k473 : Jvm.Cond.methodLink "TwoScribesLaw" (49 : Nat) ({ cls := "TwoScribes", name := "clearText", desc := "()I" } : Jvm.MethodName) ∈ GW := GW_mem 473 (by decide +kernel) (by decide +kernel)
theorem k474 : Jvm.Cond.instanceMethod ({ cls := "TwoScribes", name := "clearText", desc := "()I" } : Jvm.MethodName) ∈ GW := GW_mem 474 (by decide +kernel) (by decide +kernel)
theorem k475 : Jvm.Cond.selects "TwoScribes" ({ cls := "TwoScribes", name := "clearText", desc := "()I" } : Jvm.MethodName) ({ cls := "TwoScribes", name := "clearText", desc := "()I" } : Jvm.MethodName) ∈ GW := GW_mem 475 (by decide +kernel) (by decide +kernel)
theorem k476 : Jvm.Cond.code ({ cls := "TwoScribes", name := "clearText", desc := "()I" } : Jvm.MethodName) prog_1_method_10_code (2 : Nat) (Option.some Jvm.ClassFile.FieldType.int) ∈ GW := GW_mem 476 (by decide +kernel) (by decide +kernel)
theorem k477 : Jvm.Cond.methodLink "TwoScribesLaw" (53 : Nat) ({ cls := "TwoScribes", name := "undo", desc := "()I" } : Jvm.MethodName) ∈ GW := GW_mem 477 (by decide +kernel) (by decide +kernel)
theorem k478 : Jvm.Cond.instanceMethod ({ cls := "TwoScribes", name := "undo", desc := "()I" } : Jvm.MethodName) ∈ GW := GW_mem 478 (by decide +kernel) (by decide +kernel)
theorem k479 : Jvm.Cond.selects "TwoScribes" ({ cls := "TwoScribes", name := "undo", desc := "()I" } : Jvm.MethodName) ({ cls := "TwoScribes", name := "undo", desc := "()I" } : Jvm.MethodName) ∈ GW := GW_mem 479 (by decide +kernel) (by decide +kernel)
theorem k480 : Jvm.Cond.code ({ cls := "TwoScribes", name := "undo", desc := "()I" } : Jvm.MethodName) prog_1_method_11_code (1 : Nat) (Option.some Jvm.ClassFile.FieldType.int) ∈ GW := GW_mem 480 (by decide +kernel) (by decide +kernel)
theorem k481 : Jvm.Cond.methodLink "TwoScribes" (147 : Nat) ({ cls := "TwoScribes$History", name := "takeBack", desc := "(LTwoScribes$State;)Z" } : Jvm.MethodName) ∈ GW := GW_mem 481 (by decide +kernel) (by decide +kernel)
theorem k482 : Jvm.Cond.instanceMethod ({ cls := "TwoScribes$History", name := "takeBack", desc := "(LTwoScribes$State;)Z" } : Jvm.MethodName) ∈ GW := GW_mem 482 (by decide +kernel) (by decide +kernel)
theorem k483 : Jvm.Cond.selects "TwoScribes$History" ({ cls := "TwoScribes$History", name := "takeBack", desc := "(LTwoScribes$State;)Z" } : Jvm.MethodName) ({ cls := "TwoScribes$History", name := "takeBack", desc := "(LTwoScribes$State;)Z" } : Jvm.MethodName) ∈ GW := GW_mem 483 (by decide +kernel) (by decide +kernel)
theorem k484 : Jvm.Cond.code ({ cls := "TwoScribes$History", name := "takeBack", desc := "(LTwoScribes$State;)Z" } : Jvm.MethodName) prog_2_method_3_code (3 : Nat) (Option.some Jvm.ClassFile.FieldType.boolean) ∈ GW := GW_mem 484 (by decide +kernel) (by decide +kernel)
theorem k485 : Jvm.Cond.methodLink "TwoScribesLaw" (57 : Nat) ({ cls := "TwoScribes", name := "keep", desc := "()I" } : Jvm.MethodName) ∈ GW := GW_mem 485 (by decide +kernel) (by decide +kernel)
theorem k486 : Jvm.Cond.instanceMethod ({ cls := "TwoScribes", name := "keep", desc := "()I" } : Jvm.MethodName) ∈ GW := GW_mem 486 (by decide +kernel) (by decide +kernel)
theorem k487 : Jvm.Cond.selects "TwoScribes" ({ cls := "TwoScribes", name := "keep", desc := "()I" } : Jvm.MethodName) ({ cls := "TwoScribes", name := "keep", desc := "()I" } : Jvm.MethodName) ∈ GW := GW_mem 487 (by decide +kernel) (by decide +kernel)
theorem k488 : Jvm.Cond.code ({ cls := "TwoScribes", name := "keep", desc := "()I" } : Jvm.MethodName) prog_1_method_12_code (1 : Nat) (Option.some Jvm.ClassFile.FieldType.int) ∈ GW := GW_mem 488 (by decide +kernel) (by decide +kernel)
theorem k489 : Jvm.Cond.methodLink "TwoScribes" (154 : Nat) ({ cls := "TwoScribes$State", name := "copyFrom", desc := "(LTwoScribes$State;)V" } : Jvm.MethodName) ∈ GW := GW_mem 489 (by decide +kernel) (by decide +kernel)
theorem k490 : Jvm.Cond.methodLink "TwoScribesLaw" (61 : Nat) ({ cls := "TwoScribes", name := "restore", desc := "()I" } : Jvm.MethodName) ∈ GW := GW_mem 490 (by decide +kernel) (by decide +kernel)
theorem k491 : Jvm.Cond.instanceMethod ({ cls := "TwoScribes", name := "restore", desc := "()I" } : Jvm.MethodName) ∈ GW := GW_mem 491 (by decide +kernel) (by decide +kernel)
theorem k492 : Jvm.Cond.selects "TwoScribes" ({ cls := "TwoScribes", name := "restore", desc := "()I" } : Jvm.MethodName) ({ cls := "TwoScribes", name := "restore", desc := "()I" } : Jvm.MethodName) ∈ GW := GW_mem 492 (by decide +kernel) (by decide +kernel)
theorem k493 : Jvm.Cond.code ({ cls := "TwoScribes", name := "restore", desc := "()I" } : Jvm.MethodName) prog_1_method_13_code (1 : Nat) (Option.some Jvm.ClassFile.FieldType.int) ∈ GW := GW_mem 493 (by decide +kernel) (by decide +kernel)
theorem k494 : Jvm.Cond.methodLink "TwoScribesLaw" (65 : Nat) ({ cls := "TwoScribes", name := "place", desc := "(II)I" } : Jvm.MethodName) ∈ GW := GW_mem 494 (by decide +kernel) (by decide +kernel)
theorem k495 : Jvm.Cond.instanceMethod ({ cls := "TwoScribes", name := "place", desc := "(II)I" } : Jvm.MethodName) ∈ GW := GW_mem 495 (by decide +kernel) (by decide +kernel)
theorem k496 : Jvm.Cond.selects "TwoScribes" ({ cls := "TwoScribes", name := "place", desc := "(II)I" } : Jvm.MethodName) ({ cls := "TwoScribes", name := "place", desc := "(II)I" } : Jvm.MethodName) ∈ GW := GW_mem 496 (by decide +kernel) (by decide +kernel)
theorem k497 : Jvm.Cond.code ({ cls := "TwoScribes", name := "place", desc := "(II)I" } : Jvm.MethodName) prog_1_method_14_code (4 : Nat) (Option.some Jvm.ClassFile.FieldType.int) ∈ GW := GW_mem 497 (by decide +kernel) (by decide +kernel)
theorem k498 : Jvm.Cond.methodLink "TwoScribes" (173 : Nat) ({ cls := "TwoScribes$Page", name := "mirrorOf", desc := "(I)I" } : Jvm.MethodName) ∈ GW := GW_mem 498 (by decide +kernel) (by decide +kernel)
theorem k499 : Jvm.Cond.methodLink "TwoScribes" (176 : Nat) ({ cls := "TwoScribes$Page", name := "isWritten", desc := "(I)Z" } : Jvm.MethodName) ∈ GW := GW_mem 499 (by decide +kernel) (by decide +kernel)
theorem k500 : Jvm.Cond.methodLink "TwoScribesLaw" (69 : Nat) ({ cls := "TwoScribes", name := "scribe", desc := "(II)I" } : Jvm.MethodName) ∈ GW := GW_mem 500 (by decide +kernel) (by decide +kernel)
theorem k501 : Jvm.Cond.instanceMethod ({ cls := "TwoScribes", name := "scribe", desc := "(II)I" } : Jvm.MethodName) ∈ GW := GW_mem 501 (by decide +kernel) (by decide +kernel)
theorem k502 : Jvm.Cond.selects "TwoScribes" ({ cls := "TwoScribes", name := "scribe", desc := "(II)I" } : Jvm.MethodName) ({ cls := "TwoScribes", name := "scribe", desc := "(II)I" } : Jvm.MethodName) ∈ GW := GW_mem 502 (by decide +kernel) (by decide +kernel)
theorem k503 : Jvm.Cond.code ({ cls := "TwoScribes", name := "scribe", desc := "(II)I" } : Jvm.MethodName) prog_1_method_15_code (4 : Nat) (Option.some Jvm.ClassFile.FieldType.int) ∈ GW := GW_mem 503 (by decide +kernel) (by decide +kernel)
theorem k504 : Jvm.Cond.methodLink "TwoScribes" (183 : Nat) ({ cls := "TwoScribes$State", name := "nextPlaceOf", desc := "(I)I" } : Jvm.MethodName) ∈ GW := GW_mem 504 (by decide +kernel) (by decide +kernel)
theorem k505 : Jvm.Cond.methodLink "TwoScribesLaw" (73 : Nat) ({ cls := "TwoScribes", name := "ink", desc := "(I)D" } : Jvm.MethodName) ∈ GW := GW_mem 505 (by decide +kernel) (by decide +kernel)
theorem k506 : Jvm.Cond.instanceMethod ({ cls := "TwoScribes", name := "ink", desc := "(I)D" } : Jvm.MethodName) ∈ GW := GW_mem 506 (by decide +kernel) (by decide +kernel)
theorem k507 : Jvm.Cond.selects "TwoScribes" ({ cls := "TwoScribes", name := "ink", desc := "(I)D" } : Jvm.MethodName) ({ cls := "TwoScribes", name := "ink", desc := "(I)D" } : Jvm.MethodName) ∈ GW := GW_mem 507 (by decide +kernel) (by decide +kernel)
theorem k508 : Jvm.Cond.code ({ cls := "TwoScribes", name := "ink", desc := "(I)D" } : Jvm.MethodName) prog_1_method_16_code (2 : Nat) (Option.some Jvm.ClassFile.FieldType.double) ∈ GW := GW_mem 508 (by decide +kernel) (by decide +kernel)
theorem k509 : Jvm.Cond.constantDouble "TwoScribes" (214 : Nat) (13830554455654793216 : UInt64) ∈ GW := GW_mem 509 (by decide +kernel) (by decide +kernel)
theorem k510 : Jvm.Cond.methodLink "TwoScribesLaw" (78 : Nat) ({ cls := "TwoScribes", name := "next", desc := "(I)I" } : Jvm.MethodName) ∈ GW := GW_mem 510 (by decide +kernel) (by decide +kernel)
theorem k511 : Jvm.Cond.instanceMethod ({ cls := "TwoScribes", name := "next", desc := "(I)I" } : Jvm.MethodName) ∈ GW := GW_mem 511 (by decide +kernel) (by decide +kernel)
theorem k512 : Jvm.Cond.selects "TwoScribes" ({ cls := "TwoScribes", name := "next", desc := "(I)I" } : Jvm.MethodName) ({ cls := "TwoScribes", name := "next", desc := "(I)I" } : Jvm.MethodName) ∈ GW := GW_mem 512 (by decide +kernel) (by decide +kernel)
theorem k513 : Jvm.Cond.code ({ cls := "TwoScribes", name := "next", desc := "(I)I" } : Jvm.MethodName) prog_1_method_17_code (2 : Nat) (Option.some Jvm.ClassFile.FieldType.int) ∈ GW := GW_mem 513 (by decide +kernel) (by decide +kernel)
theorem k514 : Jvm.Cond.methodLink "TwoScribes" (216 : Nat) ({ cls := "TwoScribes$State", name := "deedOf", desc := "(I)I" } : Jvm.MethodName) ∈ GW := GW_mem 514 (by decide +kernel) (by decide +kernel)
theorem k515 : Jvm.Cond.methodLink "TwoScribes" (219 : Nat) ({ cls := "TwoScribes$State", name := "takeTurn", desc := "(I)I" } : Jvm.MethodName) ∈ GW := GW_mem 515 (by decide +kernel) (by decide +kernel)
theorem k516 : Jvm.Cond.methodLink "TwoScribesLaw" (82 : Nat) ({ cls := "TwoScribes", name := "doneIn", desc := "()I" } : Jvm.MethodName) ∈ GW := GW_mem 516 (by decide +kernel) (by decide +kernel)
theorem k517 : Jvm.Cond.instanceMethod ({ cls := "TwoScribes", name := "doneIn", desc := "()I" } : Jvm.MethodName) ∈ GW := GW_mem 517 (by decide +kernel) (by decide +kernel)
theorem k518 : Jvm.Cond.selects "TwoScribes" ({ cls := "TwoScribes", name := "doneIn", desc := "()I" } : Jvm.MethodName) ({ cls := "TwoScribes", name := "doneIn", desc := "()I" } : Jvm.MethodName) ∈ GW := GW_mem 518 (by decide +kernel) (by decide +kernel)
theorem k519 : Jvm.Cond.code ({ cls := "TwoScribes", name := "doneIn", desc := "()I" } : Jvm.MethodName) prog_1_method_18_code (1 : Nat) (Option.some Jvm.ClassFile.FieldType.int) ∈ GW := GW_mem 519 (by decide +kernel) (by decide +kernel)
theorem k520 : Jvm.Cond.methodLink "TwoScribes" (222 : Nat) ({ cls := "TwoScribes$State", name := "runUntilDone", desc := "()I" } : Jvm.MethodName) ∈ GW := GW_mem 520 (by decide +kernel) (by decide +kernel)
theorem k521 : Jvm.Cond.instanceMethod ({ cls := "TwoScribes$State", name := "runUntilDone", desc := "()I" } : Jvm.MethodName) ∈ GW := GW_mem 521 (by decide +kernel) (by decide +kernel)
theorem k522 : Jvm.Cond.selects "TwoScribes$State" ({ cls := "TwoScribes$State", name := "runUntilDone", desc := "()I" } : Jvm.MethodName) ({ cls := "TwoScribes$State", name := "runUntilDone", desc := "()I" } : Jvm.MethodName) ∈ GW := GW_mem 522 (by decide +kernel) (by decide +kernel)
theorem k523 : Jvm.Cond.code ({ cls := "TwoScribes$State", name := "runUntilDone", desc := "()I" } : Jvm.MethodName) prog_6_method_17_code (2 : Nat) (Option.some Jvm.ClassFile.FieldType.int) ∈ GW := GW_mem 523 (by decide +kernel) (by decide +kernel)
theorem k524 : Jvm.Cond.methodLink "TwoScribes$State" (162 : Nat) ({ cls := "TwoScribes$State", name := "isDone", desc := "()Z" } : Jvm.MethodName) ∈ GW := GW_mem 524 (by decide +kernel) (by decide +kernel)
theorem k525 : Jvm.Cond.instanceMethod ({ cls := "TwoScribes$State", name := "isDone", desc := "()Z" } : Jvm.MethodName) ∈ GW := GW_mem 525 (by decide +kernel) (by decide +kernel)
theorem k526 : Jvm.Cond.selects "TwoScribes$State" ({ cls := "TwoScribes$State", name := "isDone", desc := "()Z" } : Jvm.MethodName) ({ cls := "TwoScribes$State", name := "isDone", desc := "()Z" } : Jvm.MethodName) ∈ GW := GW_mem 526 (by decide +kernel) (by decide +kernel)
theorem k527 : Jvm.Cond.code ({ cls := "TwoScribes$State", name := "isDone", desc := "()Z" } : Jvm.MethodName) prog_6_method_6_code (1 : Nat) (Option.some Jvm.ClassFile.FieldType.boolean) ∈ GW := GW_mem 527 (by decide +kernel) (by decide +kernel)
theorem k528 : Jvm.Cond.methodLink "TwoScribes$State" (75 : Nat) ({ cls := "TwoScribes$State", name := "lettersOnPage", desc := "()I" } : Jvm.MethodName) ∈ GW := GW_mem 528 (by decide +kernel) (by decide +kernel)
theorem k529 : Jvm.Cond.instanceMethod ({ cls := "TwoScribes$State", name := "lettersOnPage", desc := "()I" } : Jvm.MethodName) ∈ GW := GW_mem 529 (by decide +kernel) (by decide +kernel)
theorem k530 : Jvm.Cond.selects "TwoScribes$State" ({ cls := "TwoScribes$State", name := "lettersOnPage", desc := "()I" } : Jvm.MethodName) ({ cls := "TwoScribes$State", name := "lettersOnPage", desc := "()I" } : Jvm.MethodName) ∈ GW := GW_mem 530 (by decide +kernel) (by decide +kernel)
theorem k531 : Jvm.Cond.code ({ cls := "TwoScribes$State", name := "lettersOnPage", desc := "()I" } : Jvm.MethodName) prog_6_method_5_code (1 : Nat) (Option.some Jvm.ClassFile.FieldType.int) ∈ GW := GW_mem 531 (by decide +kernel) (by decide +kernel)
theorem k532 : Jvm.Cond.methodLink "TwoScribes$State" (166 : Nat) ({ cls := "TwoScribes$State", name := "passTick", desc := "()Z" } : Jvm.MethodName) ∈ GW := GW_mem 532 (by decide +kernel) (by decide +kernel)
theorem k533 : Jvm.Cond.methodLink "TwoScribesLaw" (86 : Nat) ({ cls := "TwoScribes", name := "unlikePairs", desc := "()I" } : Jvm.MethodName) ∈ GW := GW_mem 533 (by decide +kernel) (by decide +kernel)
theorem k534 : Jvm.Cond.instanceMethod ({ cls := "TwoScribes", name := "unlikePairs", desc := "()I" } : Jvm.MethodName) ∈ GW := GW_mem 534 (by decide +kernel) (by decide +kernel)
theorem k535 : Jvm.Cond.selects "TwoScribes" ({ cls := "TwoScribes", name := "unlikePairs", desc := "()I" } : Jvm.MethodName) ({ cls := "TwoScribes", name := "unlikePairs", desc := "()I" } : Jvm.MethodName) ∈ GW := GW_mem 535 (by decide +kernel) (by decide +kernel)
theorem k536 : Jvm.Cond.code ({ cls := "TwoScribes", name := "unlikePairs", desc := "()I" } : Jvm.MethodName) prog_1_method_19_code (4 : Nat) (Option.some Jvm.ClassFile.FieldType.int) ∈ GW := GW_mem 536 (by decide +kernel) (by decide +kernel)
theorem k537 : Jvm.Cond.methodLink "TwoScribes" (225 : Nat) ({ cls := "TwoScribes$Page", name := "areUnlike", desc := "(II)Z" } : Jvm.MethodName) ∈ GW := GW_mem 537 (by decide +kernel) (by decide +kernel)
theorem k538 : Jvm.Cond.instanceMethod ({ cls := "TwoScribes$Page", name := "areUnlike", desc := "(II)Z" } : Jvm.MethodName) ∈ GW := GW_mem 538 (by decide +kernel) (by decide +kernel)
theorem k539 : Jvm.Cond.selects "TwoScribes$Page" ({ cls := "TwoScribes$Page", name := "areUnlike", desc := "(II)Z" } : Jvm.MethodName) ({ cls := "TwoScribes$Page", name := "areUnlike", desc := "(II)Z" } : Jvm.MethodName) ∈ GW := GW_mem 539 (by decide +kernel) (by decide +kernel)
theorem k540 : Jvm.Cond.code ({ cls := "TwoScribes$Page", name := "areUnlike", desc := "(II)Z" } : Jvm.MethodName) prog_3_method_9_code (3 : Nat) (Option.some Jvm.ClassFile.FieldType.boolean) ∈ GW := GW_mem 540 (by decide +kernel) (by decide +kernel)
theorem k541 : Jvm.Cond.methodLink "TwoScribes$Page" (68 : Nat) ({ cls := "TwoScribes$Page", name := "isWritten", desc := "(I)Z" } : Jvm.MethodName) ∈ GW := GW_mem 541 (by decide +kernel) (by decide +kernel)
theorem k542 : Jvm.Cond.methodLink "TwoScribesLaw" (90 : Nat) ({ cls := "TwoScribes", name := "unlikeReadings", desc := "()I" } : Jvm.MethodName) ∈ GW := GW_mem 542 (by decide +kernel) (by decide +kernel)
theorem k543 : Jvm.Cond.instanceMethod ({ cls := "TwoScribes", name := "unlikeReadings", desc := "()I" } : Jvm.MethodName) ∈ GW := GW_mem 543 (by decide +kernel) (by decide +kernel)
theorem k544 : Jvm.Cond.selects "TwoScribes" ({ cls := "TwoScribes", name := "unlikeReadings", desc := "()I" } : Jvm.MethodName) ({ cls := "TwoScribes", name := "unlikeReadings", desc := "()I" } : Jvm.MethodName) ∈ GW := GW_mem 544 (by decide +kernel) (by decide +kernel)
theorem k545 : Jvm.Cond.code ({ cls := "TwoScribes", name := "unlikeReadings", desc := "()I" } : Jvm.MethodName) prog_1_method_20_code (5 : Nat) (Option.some Jvm.ClassFile.FieldType.int) ∈ GW := GW_mem 545 (by decide +kernel) (by decide +kernel)
theorem k546 : Jvm.Cond.methodLink "TwoScribesLaw" (94 : Nat) ({ cls := "TwoScribes", name := "needed", desc := "()D" } : Jvm.MethodName) ∈ GW := GW_mem 546 (by decide +kernel) (by decide +kernel)
theorem k547 : Jvm.Cond.instanceMethod ({ cls := "TwoScribes", name := "needed", desc := "()D" } : Jvm.MethodName) ∈ GW := GW_mem 547 (by decide +kernel) (by decide +kernel)
theorem k548 : Jvm.Cond.selects "TwoScribes" ({ cls := "TwoScribes", name := "needed", desc := "()D" } : Jvm.MethodName) ({ cls := "TwoScribes", name := "needed", desc := "()D" } : Jvm.MethodName) ∈ GW := GW_mem 548 (by decide +kernel) (by decide +kernel)
theorem k549 : Jvm.Cond.code ({ cls := "TwoScribes", name := "needed", desc := "()D" } : Jvm.MethodName) prog_1_method_21_code (4 : Nat) (Option.some Jvm.ClassFile.FieldType.double) ∈ GW := GW_mem 549 (by decide +kernel) (by decide +kernel)
theorem k550 : Jvm.Cond.methodLink "TwoScribes" (229 : Nat) ({ cls := "TwoScribes", name := "inkFor", desc := "(I)F" } : Jvm.MethodName) ∈ GW := GW_mem 550 (by decide +kernel) (by decide +kernel)
theorem k551 : Jvm.Cond.methodLink "TwoScribesLaw" (99 : Nat) ({ cls := "TwoScribes", name := "bestPace", desc := "(I)I" } : Jvm.MethodName) ∈ GW := GW_mem 551 (by decide +kernel) (by decide +kernel)
theorem k552 : Jvm.Cond.instanceMethod ({ cls := "TwoScribes", name := "bestPace", desc := "(I)I" } : Jvm.MethodName) ∈ GW := GW_mem 552 (by decide +kernel) (by decide +kernel)
theorem k553 : Jvm.Cond.selects "TwoScribes" ({ cls := "TwoScribes", name := "bestPace", desc := "(I)I" } : Jvm.MethodName) ({ cls := "TwoScribes", name := "bestPace", desc := "(I)I" } : Jvm.MethodName) ∈ GW := GW_mem 553 (by decide +kernel) (by decide +kernel)
theorem k554 : Jvm.Cond.code ({ cls := "TwoScribes", name := "bestPace", desc := "(I)I" } : Jvm.MethodName) prog_1_method_22_code (6 : Nat) (Option.some Jvm.ClassFile.FieldType.int) ∈ GW := GW_mem 554 (by decide +kernel) (by decide +kernel)
theorem k555 : Jvm.Cond.methodLink "TwoScribes" (233 : Nat) ({ cls := "TwoScribes$State", name := "isDone", desc := "()Z" } : Jvm.MethodName) ∈ GW := GW_mem 555 (by decide +kernel) (by decide +kernel)
theorem k556 : Jvm.Cond.methodLink "TwoScribesLaw" (103 : Nat) ({ cls := "TwoScribes", name := "count", desc := "(I)I" } : Jvm.MethodName) ∈ GW := GW_mem 556 (by decide +kernel) (by decide +kernel)
theorem k557 : Jvm.Cond.instanceMethod ({ cls := "TwoScribes", name := "count", desc := "(I)I" } : Jvm.MethodName) ∈ GW := GW_mem 557 (by decide +kernel) (by decide +kernel)
theorem k558 : Jvm.Cond.selects "TwoScribes" ({ cls := "TwoScribes", name := "count", desc := "(I)I" } : Jvm.MethodName) ({ cls := "TwoScribes", name := "count", desc := "(I)I" } : Jvm.MethodName) ∈ GW := GW_mem 558 (by decide +kernel) (by decide +kernel)
theorem k559 : Jvm.Cond.code ({ cls := "TwoScribes", name := "count", desc := "(I)I" } : Jvm.MethodName) prog_1_method_23_code (2 : Nat) (Option.some Jvm.ClassFile.FieldType.int) ∈ GW := GW_mem 559 (by decide +kernel) (by decide +kernel)
theorem k560 : Jvm.Cond.methodLink "TwoScribes" (236 : Nat) ({ cls := "TwoScribes$State", name := "lettersOnPage", desc := "()I" } : Jvm.MethodName) ∈ GW := GW_mem 560 (by decide +kernel) (by decide +kernel)
theorem k561 : Jvm.Cond.methodLink "TwoScribes" (239 : Nat) ({ cls := "TwoScribes$Page", name := "countBlots", desc := "()I" } : Jvm.MethodName) ∈ GW := GW_mem 561 (by decide +kernel) (by decide +kernel)
theorem k562 : Jvm.Cond.instanceMethod ({ cls := "TwoScribes$Page", name := "countBlots", desc := "()I" } : Jvm.MethodName) ∈ GW := GW_mem 562 (by decide +kernel) (by decide +kernel)
theorem k563 : Jvm.Cond.selects "TwoScribes$Page" ({ cls := "TwoScribes$Page", name := "countBlots", desc := "()I" } : Jvm.MethodName) ({ cls := "TwoScribes$Page", name := "countBlots", desc := "()I" } : Jvm.MethodName) ∈ GW := GW_mem 563 (by decide +kernel) (by decide +kernel)
theorem k564 : Jvm.Cond.code ({ cls := "TwoScribes$Page", name := "countBlots", desc := "()I" } : Jvm.MethodName) prog_3_method_12_code (3 : Nat) (Option.some Jvm.ClassFile.FieldType.int) ∈ GW := GW_mem 564 (by decide +kernel) (by decide +kernel)
theorem k565 : Jvm.Cond.methodLink "TwoScribes" (242 : Nat) ({ cls := "TwoScribes$Page", name := "countNotDue", desc := "()I" } : Jvm.MethodName) ∈ GW := GW_mem 565 (by decide +kernel) (by decide +kernel)
theorem k566 : Jvm.Cond.instanceMethod ({ cls := "TwoScribes$Page", name := "countNotDue", desc := "()I" } : Jvm.MethodName) ∈ GW := GW_mem 566 (by decide +kernel) (by decide +kernel)
theorem k567 : Jvm.Cond.selects "TwoScribes$Page" ({ cls := "TwoScribes$Page", name := "countNotDue", desc := "()I" } : Jvm.MethodName) ({ cls := "TwoScribes$Page", name := "countNotDue", desc := "()I" } : Jvm.MethodName) ∈ GW := GW_mem 567 (by decide +kernel) (by decide +kernel)
theorem k568 : Jvm.Cond.code ({ cls := "TwoScribes$Page", name := "countNotDue", desc := "()I" } : Jvm.MethodName) prog_3_method_13_code (3 : Nat) (Option.some Jvm.ClassFile.FieldType.int) ∈ GW := GW_mem 568 (by decide +kernel) (by decide +kernel)
theorem k569 : Jvm.Cond.classLink "TwoScribesLaw" (10 : Nat) "TwoScribesModel" ∈ GW := GW_mem 569 (by decide +kernel) (by decide +kernel)
theorem k570 : Jvm.Cond.instantiable "TwoScribesModel" (13 : Nat) ∈ GW := GW_mem 570 (by decide +kernel) (by decide +kernel)
theorem k571 : Jvm.Cond.methodLink "TwoScribesLaw" (12 : Nat) ({ cls := "TwoScribesModel", name := "<init>", desc := "()V" } : Jvm.MethodName) ∈ GW := GW_mem 571 (by decide +kernel) (by decide +kernel)
theorem k572 : Jvm.Cond.instanceMethod ({ cls := "TwoScribesModel", name := "<init>", desc := "()V" } : Jvm.MethodName) ∈ GW := GW_mem 572 (by decide +kernel) (by decide +kernel)
theorem k573 : Jvm.Cond.code ({ cls := "TwoScribesModel", name := "<init>", desc := "()V" } : Jvm.MethodName) prog_8_method_1_code (1 : Nat) (Option.none : Option Jvm.ClassFile.FieldType) ∈ GW := GW_mem 573 (by decide +kernel) (by decide +kernel)
theorem k574 : Jvm.Cond.methodLink "TwoScribesModel" (1 : Nat) ({ cls := "java/lang/Object", name := "<init>", desc := "()V" } : Jvm.MethodName) ∈ GW := GW_mem 574 (by decide +kernel) (by decide +kernel)
theorem k575 : Jvm.Cond.fieldLink "TwoScribesModel" (7 : Nat) "TwoScribesModel" "all" "[I" ∈ GW := GW_mem 575 (by decide +kernel) (by decide +kernel)
theorem k576 : Jvm.Cond.fieldLink "TwoScribesModel" (13 : Nat) "TwoScribesModel" "kept" "[I" ∈ GW := GW_mem 576 (by decide +kernel) (by decide +kernel)
theorem k577 : Jvm.Cond.fieldLink "TwoScribesModel" (16 : Nat) "TwoScribesModel" "tried" "[I" ∈ GW := GW_mem 577 (by decide +kernel) (by decide +kernel)
theorem k578 : Jvm.Cond.fieldLink "TwoScribesModel" (19 : Nat) "TwoScribesModel" "history" "[I" ∈ GW := GW_mem 578 (by decide +kernel) (by decide +kernel)
theorem k579 : Jvm.Cond.fieldLink "TwoScribesModel" (31 : Nat) "TwoScribesModel" "historyLong" "I" ∈ GW := GW_mem 579 (by decide +kernel) (by decide +kernel)
theorem k580 : Jvm.Cond.fieldLink "TwoScribesModel" (22 : Nat) "TwoScribesModel" "snapshot" "[I" ∈ GW := GW_mem 580 (by decide +kernel) (by decide +kernel)
theorem k581 : Jvm.Cond.fieldLink "TwoScribesModel" (126 : Nat) "TwoScribesModel" "isKept" "I" ∈ GW := GW_mem 581 (by decide +kernel) (by decide +kernel)
theorem k582 : Jvm.Cond.fieldLink "TwoScribesModel" (25 : Nat) "TwoScribesModel" "draft" "[I" ∈ GW := GW_mem 582 (by decide +kernel) (by decide +kernel)
theorem k583 : Jvm.Cond.fieldLink "TwoScribesModel" (28 : Nat) "TwoScribesModel" "text" "[I" ∈ GW := GW_mem 583 (by decide +kernel) (by decide +kernel)
theorem k584 : Jvm.Cond.fieldLink "TwoScribesModel" (109 : Nat) "TwoScribesModel" "textLong" "I" ∈ GW := GW_mem 584 (by decide +kernel) (by decide +kernel)
theorem k585 : Jvm.Cond.fieldLink "TwoScribesModel" (112 : Nat) "TwoScribesModel" "spot" "I" ∈ GW := GW_mem 585 (by decide +kernel) (by decide +kernel)
theorem k586 : Jvm.Cond.fieldLink "TwoScribesModel" (69 : Nat) "TwoScribesModel" "read" "I" ∈ GW := GW_mem 586 (by decide +kernel) (by decide +kernel)
theorem k587 : Jvm.Cond.fieldLink "TwoScribesModel" (66 : Nat) "TwoScribesModel" "greatest" "I" ∈ GW := GW_mem 587 (by decide +kernel) (by decide +kernel)
theorem k615 : Jvm.Cond.methodLink "TwoScribesLaw" (17 : Nat) ({ cls := "TwoScribesModel", name := "readPage", desc := "()I" } : Jvm.MethodName) ∈ GW := GW_mem 615 (by decide +kernel) (by decide +kernel)
theorem k616 : Jvm.Cond.instanceMethod ({ cls := "TwoScribesModel", name := "readPage", desc := "()I" } : Jvm.MethodName) ∈ GW := GW_mem 616 (by decide +kernel) (by decide +kernel)
theorem k617 : Jvm.Cond.selects "TwoScribesModel" ({ cls := "TwoScribesModel", name := "readPage", desc := "()I" } : Jvm.MethodName) ({ cls := "TwoScribesModel", name := "readPage", desc := "()I" } : Jvm.MethodName) ∈ GW := GW_mem 617 (by decide +kernel) (by decide +kernel)
theorem k618 : Jvm.Cond.code ({ cls := "TwoScribesModel", name := "readPage", desc := "()I" } : Jvm.MethodName) prog_8_method_19_code (3 : Nat) (Option.some Jvm.ClassFile.FieldType.int) ∈ GW := GW_mem 618 (by decide +kernel) (by decide +kernel)
theorem k619 : Jvm.Cond.methodLink "TwoScribesModel" (62 : Nat) ({ cls := "TwoScribesModel", name := "fault", desc := "()I" } : Jvm.MethodName) ∈ GW := GW_mem 619 (by decide +kernel) (by decide +kernel)
theorem k621 : Jvm.Cond.instanceMethod ({ cls := "TwoScribesModel", name := "fault", desc := "()I" } : Jvm.MethodName) ∈ GW := GW_mem 621 (by decide +kernel) (by decide +kernel)
theorem k622 : Jvm.Cond.code ({ cls := "TwoScribesModel", name := "fault", desc := "()I" } : Jvm.MethodName) prog_8_method_33_code (2 : Nat) (Option.some Jvm.ClassFile.FieldType.int) ∈ GW := GW_mem 622 (by decide +kernel) (by decide +kernel)
theorem k623 : Jvm.Cond.methodLink "TwoScribesModel" (115 : Nat) ({ cls := "TwoScribesModel", name := "isHere", desc := "(II)Z" } : Jvm.MethodName) ∈ GW := GW_mem 623 (by decide +kernel) (by decide +kernel)
theorem k625 : Jvm.Cond.instanceMethod ({ cls := "TwoScribesModel", name := "isHere", desc := "(II)Z" } : Jvm.MethodName) ∈ GW := GW_mem 625 (by decide +kernel) (by decide +kernel)
theorem k626 : Jvm.Cond.code ({ cls := "TwoScribesModel", name := "isHere", desc := "(II)Z" } : Jvm.MethodName) prog_8_method_30_code (3 : Nat) (Option.some Jvm.ClassFile.FieldType.boolean) ∈ GW := GW_mem 626 (by decide +kernel) (by decide +kernel)
theorem k627 : Jvm.Cond.methodLink "TwoScribesModel" (35 : Nat) ({ cls := "TwoScribesModel", name := "in", desc := "(JJJ)Z" } : Jvm.MethodName) ∈ GW := GW_mem 627 (by decide +kernel) (by decide +kernel)
theorem k628 : Jvm.Cond.static ({ cls := "TwoScribesModel", name := "in", desc := "(JJJ)Z" } : Jvm.MethodName) ∈ GW := GW_mem 628 (by decide +kernel) (by decide +kernel)
theorem k629 : Jvm.Cond.code ({ cls := "TwoScribesModel", name := "in", desc := "(JJJ)Z" } : Jvm.MethodName) prog_8_method_3_code (6 : Nat) (Option.some Jvm.ClassFile.FieldType.boolean) ∈ GW := GW_mem 629 (by decide +kernel) (by decide +kernel)
theorem k630 : Jvm.Cond.methodLink "TwoScribesModel" (119 : Nat) ({ cls := "TwoScribesModel", name := "takesOne", desc := "(I)Z" } : Jvm.MethodName) ∈ GW := GW_mem 630 (by decide +kernel) (by decide +kernel)
theorem k632 : Jvm.Cond.instanceMethod ({ cls := "TwoScribesModel", name := "takesOne", desc := "(I)Z" } : Jvm.MethodName) ∈ GW := GW_mem 632 (by decide +kernel) (by decide +kernel)
theorem k633 : Jvm.Cond.code ({ cls := "TwoScribesModel", name := "takesOne", desc := "(I)Z" } : Jvm.MethodName) prog_8_method_31_code (3 : Nat) (Option.some Jvm.ClassFile.FieldType.boolean) ∈ GW := GW_mem 633 (by decide +kernel) (by decide +kernel)
theorem k634 : Jvm.Cond.methodLink "TwoScribesModel" (122 : Nat) ({ cls := "TwoScribesModel", name := "readsMisreading", desc := "()Z" } : Jvm.MethodName) ∈ GW := GW_mem 634 (by decide +kernel) (by decide +kernel)
theorem k636 : Jvm.Cond.instanceMethod ({ cls := "TwoScribesModel", name := "readsMisreading", desc := "()Z" } : Jvm.MethodName) ∈ GW := GW_mem 636 (by decide +kernel) (by decide +kernel)
theorem k637 : Jvm.Cond.code ({ cls := "TwoScribesModel", name := "readsMisreading", desc := "()Z" } : Jvm.MethodName) prog_8_method_32_code (2 : Nat) (Option.some Jvm.ClassFile.FieldType.boolean) ∈ GW := GW_mem 637 (by decide +kernel) (by decide +kernel)
theorem k638 : Jvm.Cond.methodLink "TwoScribesModel" (72 : Nat) ({ cls := "TwoScribesModel", name := "keeps", desc := "()V" } : Jvm.MethodName) ∈ GW := GW_mem 638 (by decide +kernel) (by decide +kernel)
theorem k640 : Jvm.Cond.instanceMethod ({ cls := "TwoScribesModel", name := "keeps", desc := "()V" } : Jvm.MethodName) ∈ GW := GW_mem 640 (by decide +kernel) (by decide +kernel)
theorem k641 : Jvm.Cond.code ({ cls := "TwoScribesModel", name := "keeps", desc := "()V" } : Jvm.MethodName) prog_8_method_4_code (2 : Nat) (Option.none : Option Jvm.ClassFile.FieldType) ∈ GW := GW_mem 641 (by decide +kernel) (by decide +kernel)
theorem k642 : Jvm.Cond.methodLink "TwoScribesModel" (75 : Nat) ({ cls := "TwoScribesModel", name := "ends", desc := "(I)I" } : Jvm.MethodName) ∈ GW := GW_mem 642 (by decide +kernel) (by decide +kernel)
theorem k644 : Jvm.Cond.instanceMethod ({ cls := "TwoScribesModel", name := "ends", desc := "(I)I" } : Jvm.MethodName) ∈ GW := GW_mem 644 (by decide +kernel) (by decide +kernel)
theorem k645 : Jvm.Cond.code ({ cls := "TwoScribesModel", name := "ends", desc := "(I)I" } : Jvm.MethodName) prog_8_method_5_code (3 : Nat) (Option.some Jvm.ClassFile.FieldType.int) ∈ GW := GW_mem 645 (by decide +kernel) (by decide +kernel)
theorem k646 : Jvm.Cond.methodLink "TwoScribesLaw" (22 : Nat) ({ cls := "TwoScribesModel", name := "misread", desc := "(II)I" } : Jvm.MethodName) ∈ GW := GW_mem 646 (by decide +kernel) (by decide +kernel)
theorem k647 : Jvm.Cond.instanceMethod ({ cls := "TwoScribesModel", name := "misread", desc := "(II)I" } : Jvm.MethodName) ∈ GW := GW_mem 647 (by decide +kernel) (by decide +kernel)
theorem k648 : Jvm.Cond.selects "TwoScribesModel" ({ cls := "TwoScribesModel", name := "misread", desc := "(II)I" } : Jvm.MethodName) ({ cls := "TwoScribesModel", name := "misread", desc := "(II)I" } : Jvm.MethodName) ∈ GW := GW_mem 648 (by decide +kernel) (by decide +kernel)
theorem k649 : Jvm.Cond.code ({ cls := "TwoScribesModel", name := "misread", desc := "(II)I" } : Jvm.MethodName) prog_8_method_21_code (4 : Nat) (Option.some Jvm.ClassFile.FieldType.int) ∈ GW := GW_mem 649 (by decide +kernel) (by decide +kernel)
theorem k650 : Jvm.Cond.methodLink "TwoScribesModel" (78 : Nat) ({ cls := "TwoScribesModel", name := "isPlace", desc := "(I)Z" } : Jvm.MethodName) ∈ GW := GW_mem 650 (by decide +kernel) (by decide +kernel)
theorem k652 : Jvm.Cond.instanceMethod ({ cls := "TwoScribesModel", name := "isPlace", desc := "(I)Z" } : Jvm.MethodName) ∈ GW := GW_mem 652 (by decide +kernel) (by decide +kernel)
theorem k653 : Jvm.Cond.code ({ cls := "TwoScribesModel", name := "isPlace", desc := "(I)Z" } : Jvm.MethodName) prog_8_method_8_code (2 : Nat) (Option.some Jvm.ClassFile.FieldType.boolean) ∈ GW := GW_mem 653 (by decide +kernel) (by decide +kernel)
theorem k654 : Jvm.Cond.constantLong "TwoScribesModel" (82 : Nat) (26 : Int64) ∈ GW := GW_mem 654 (by decide +kernel) (by decide +kernel)
theorem k655 : Jvm.Cond.methodLink "TwoScribesModel" (84 : Nat) ({ cls := "TwoScribesModel", name := "isBegun", desc := "(I)Z" } : Jvm.MethodName) ∈ GW := GW_mem 655 (by decide +kernel) (by decide +kernel)
theorem k657 : Jvm.Cond.instanceMethod ({ cls := "TwoScribesModel", name := "isBegun", desc := "(I)Z" } : Jvm.MethodName) ∈ GW := GW_mem 657 (by decide +kernel) (by decide +kernel)
theorem k658 : Jvm.Cond.code ({ cls := "TwoScribesModel", name := "isBegun", desc := "(I)Z" } : Jvm.MethodName) prog_8_method_20_code (4 : Nat) (Option.some Jvm.ClassFile.FieldType.boolean) ∈ GW := GW_mem 658 (by decide +kernel) (by decide +kernel)
theorem k659 : Jvm.Cond.methodLink "TwoScribesModel" (43 : Nat) ({ cls := "TwoScribesModel", name := "nextPlace", desc := "(I)I" } : Jvm.MethodName) ∈ GW := GW_mem 659 (by decide +kernel) (by decide +kernel)
theorem k661 : Jvm.Cond.instanceMethod ({ cls := "TwoScribesModel", name := "nextPlace", desc := "(I)I" } : Jvm.MethodName) ∈ GW := GW_mem 661 (by decide +kernel) (by decide +kernel)
theorem k662 : Jvm.Cond.code ({ cls := "TwoScribesModel", name := "nextPlace", desc := "(I)I" } : Jvm.MethodName) prog_8_method_11_code (3 : Nat) (Option.some Jvm.ClassFile.FieldType.int) ∈ GW := GW_mem 662 (by decide +kernel) (by decide +kernel)
theorem k663 : Jvm.Cond.methodLink "TwoScribesModel" (46 : Nat) ({ cls := "TwoScribesModel", name := "letterAt", desc := "(I)I" } : Jvm.MethodName) ∈ GW := GW_mem 663 (by decide +kernel) (by decide +kernel)
theorem k665 : Jvm.Cond.instanceMethod ({ cls := "TwoScribesModel", name := "letterAt", desc := "(I)I" } : Jvm.MethodName) ∈ GW := GW_mem 665 (by decide +kernel) (by decide +kernel)
theorem k666 : Jvm.Cond.code ({ cls := "TwoScribesModel", name := "letterAt", desc := "(I)I" } : Jvm.MethodName) prog_8_method_10_code (2 : Nat) (Option.some Jvm.ClassFile.FieldType.int) ∈ GW := GW_mem 666 (by decide +kernel) (by decide +kernel)
theorem k667 : Jvm.Cond.methodLink "TwoScribesModel" (39 : Nat) ({ cls := "TwoScribesModel", name := "due", desc := "(I)I" } : Jvm.MethodName) ∈ GW := GW_mem 667 (by decide +kernel) (by decide +kernel)
theorem k669 : Jvm.Cond.instanceMethod ({ cls := "TwoScribesModel", name := "due", desc := "(I)I" } : Jvm.MethodName) ∈ GW := GW_mem 669 (by decide +kernel) (by decide +kernel)
theorem k670 : Jvm.Cond.code ({ cls := "TwoScribesModel", name := "due", desc := "(I)I" } : Jvm.MethodName) prog_8_method_9_code (2 : Nat) (Option.some Jvm.ClassFile.FieldType.int) ∈ GW := GW_mem 670 (by decide +kernel) (by decide +kernel)
theorem k671 : Jvm.Cond.methodLink "TwoScribesLaw" (27 : Nat) ({ cls := "TwoScribesModel", name := "correct", desc := "(I)I" } : Jvm.MethodName) ∈ GW := GW_mem 671 (by decide +kernel) (by decide +kernel)
theorem k672 : Jvm.Cond.instanceMethod ({ cls := "TwoScribesModel", name := "correct", desc := "(I)I" } : Jvm.MethodName) ∈ GW := GW_mem 672 (by decide +kernel) (by decide +kernel)
theorem k673 : Jvm.Cond.selects "TwoScribesModel" ({ cls := "TwoScribesModel", name := "correct", desc := "(I)I" } : Jvm.MethodName) ({ cls := "TwoScribesModel", name := "correct", desc := "(I)I" } : Jvm.MethodName) ∈ GW := GW_mem 673 (by decide +kernel) (by decide +kernel)
theorem k674 : Jvm.Cond.code ({ cls := "TwoScribesModel", name := "correct", desc := "(I)I" } : Jvm.MethodName) prog_8_method_22_code (3 : Nat) (Option.some Jvm.ClassFile.FieldType.int) ∈ GW := GW_mem 674 (by decide +kernel) (by decide +kernel)
theorem k675 : Jvm.Cond.methodLink "TwoScribesModel" (87 : Nat) ({ cls := "TwoScribesModel", name := "marginLeft", desc := "()I" } : Jvm.MethodName) ∈ GW := GW_mem 675 (by decide +kernel) (by decide +kernel)
theorem k677 : Jvm.Cond.instanceMethod ({ cls := "TwoScribesModel", name := "marginLeft", desc := "()I" } : Jvm.MethodName) ∈ GW := GW_mem 677 (by decide +kernel) (by decide +kernel)
theorem k678 : Jvm.Cond.code ({ cls := "TwoScribesModel", name := "marginLeft", desc := "()I" } : Jvm.MethodName) prog_8_method_13_code (1 : Nat) (Option.some Jvm.ClassFile.FieldType.int) ∈ GW := GW_mem 678 (by decide +kernel) (by decide +kernel)
theorem k679 : Jvm.Cond.methodLink "TwoScribesLaw" (31 : Nat) ({ cls := "TwoScribesModel", name := "setPace", desc := "(II)I" } : Jvm.MethodName) ∈ GW := GW_mem 679 (by decide +kernel) (by decide +kernel)
theorem k680 : Jvm.Cond.instanceMethod ({ cls := "TwoScribesModel", name := "setPace", desc := "(II)I" } : Jvm.MethodName) ∈ GW := GW_mem 680 (by decide +kernel) (by decide +kernel)
theorem k681 : Jvm.Cond.selects "TwoScribesModel" ({ cls := "TwoScribesModel", name := "setPace", desc := "(II)I" } : Jvm.MethodName) ({ cls := "TwoScribesModel", name := "setPace", desc := "(II)I" } : Jvm.MethodName) ∈ GW := GW_mem 681 (by decide +kernel) (by decide +kernel)
theorem k682 : Jvm.Cond.code ({ cls := "TwoScribesModel", name := "setPace", desc := "(II)I" } : Jvm.MethodName) prog_8_method_24_code (4 : Nat) (Option.some Jvm.ClassFile.FieldType.int) ∈ GW := GW_mem 682 (by decide +kernel) (by decide +kernel)
theorem k683 : Jvm.Cond.methodLink "TwoScribesModel" (90 : Nat) ({ cls := "TwoScribesModel", name := "isScribe", desc := "(I)Z" } : Jvm.MethodName) ∈ GW := GW_mem 683 (by decide +kernel) (by decide +kernel)
theorem k684 : Jvm.Cond.static ({ cls := "TwoScribesModel", name := "isScribe", desc := "(I)Z" } : Jvm.MethodName) ∈ GW := GW_mem 684 (by decide +kernel) (by decide +kernel)
theorem k685 : Jvm.Cond.code ({ cls := "TwoScribesModel", name := "isScribe", desc := "(I)Z" } : Jvm.MethodName) prog_8_method_23_code (1 : Nat) (Option.some Jvm.ClassFile.FieldType.boolean) ∈ GW := GW_mem 685 (by decide +kernel) (by decide +kernel)
theorem k686 : Jvm.Cond.constantLong "TwoScribesModel" (93 : Nat) (9 : Int64) ∈ GW := GW_mem 686 (by decide +kernel) (by decide +kernel)
theorem k687 : Jvm.Cond.methodLink "TwoScribesLaw" (35 : Nat) ({ cls := "TwoScribesModel", name := "pour", desc := "(I)I" } : Jvm.MethodName) ∈ GW := GW_mem 687 (by decide +kernel) (by decide +kernel)
theorem k688 : Jvm.Cond.instanceMethod ({ cls := "TwoScribesModel", name := "pour", desc := "(I)I" } : Jvm.MethodName) ∈ GW := GW_mem 688 (by decide +kernel) (by decide +kernel)
theorem k689 : Jvm.Cond.selects "TwoScribesModel" ({ cls := "TwoScribesModel", name := "pour", desc := "(I)I" } : Jvm.MethodName) ({ cls := "TwoScribesModel", name := "pour", desc := "(I)I" } : Jvm.MethodName) ∈ GW := GW_mem 689 (by decide +kernel) (by decide +kernel)
theorem k690 : Jvm.Cond.code ({ cls := "TwoScribesModel", name := "pour", desc := "(I)I" } : Jvm.MethodName) prog_8_method_25_code (2 : Nat) (Option.some Jvm.ClassFile.FieldType.int) ∈ GW := GW_mem 690 (by decide +kernel) (by decide +kernel)
theorem k691 : Jvm.Cond.constantLong "TwoScribesModel" (95 : Nat) (80 : Int64) ∈ GW := GW_mem 691 (by decide +kernel) (by decide +kernel)
theorem k692 : Jvm.Cond.methodLink "TwoScribesLaw" (39 : Nat) ({ cls := "TwoScribesModel", name := "set", desc := "(II)I" } : Jvm.MethodName) ∈ GW := GW_mem 692 (by decide +kernel) (by decide +kernel)
theorem k693 : Jvm.Cond.instanceMethod ({ cls := "TwoScribesModel", name := "set", desc := "(II)I" } : Jvm.MethodName) ∈ GW := GW_mem 693 (by decide +kernel) (by decide +kernel)
theorem k694 : Jvm.Cond.selects "TwoScribesModel" ({ cls := "TwoScribesModel", name := "set", desc := "(II)I" } : Jvm.MethodName) ({ cls := "TwoScribesModel", name := "set", desc := "(II)I" } : Jvm.MethodName) ∈ GW := GW_mem 694 (by decide +kernel) (by decide +kernel)
theorem k695 : Jvm.Cond.code ({ cls := "TwoScribesModel", name := "set", desc := "(II)I" } : Jvm.MethodName) prog_8_method_26_code (4 : Nat) (Option.some Jvm.ClassFile.FieldType.int) ∈ GW := GW_mem 695 (by decide +kernel) (by decide +kernel)
theorem k696 : Jvm.Cond.constantLong "TwoScribesModel" (97 : Nat) (2 : Int64) ∈ GW := GW_mem 696 (by decide +kernel) (by decide +kernel)
theorem k697 : Jvm.Cond.constantLong "TwoScribesModel" (99 : Nat) (8 : Int64) ∈ GW := GW_mem 697 (by decide +kernel) (by decide +kernel)
theorem k698 : Jvm.Cond.constantLong "TwoScribesModel" (101 : Nat) (20 : Int64) ∈ GW := GW_mem 698 (by decide +kernel) (by decide +kernel)
theorem k699 : Jvm.Cond.methodLink "TwoScribesLaw" (43 : Nat) ({ cls := "TwoScribesModel", name := "pass", desc := "(I)I" } : Jvm.MethodName) ∈ GW := GW_mem 699 (by decide +kernel) (by decide +kernel)
theorem k700 : Jvm.Cond.instanceMethod ({ cls := "TwoScribesModel", name := "pass", desc := "(I)I" } : Jvm.MethodName) ∈ GW := GW_mem 700 (by decide +kernel) (by decide +kernel)
theorem k701 : Jvm.Cond.selects "TwoScribesModel" ({ cls := "TwoScribesModel", name := "pass", desc := "(I)I" } : Jvm.MethodName) ({ cls := "TwoScribesModel", name := "pass", desc := "(I)I" } : Jvm.MethodName) ∈ GW := GW_mem 701 (by decide +kernel) (by decide +kernel)
theorem k702 : Jvm.Cond.code ({ cls := "TwoScribesModel", name := "pass", desc := "(I)I" } : Jvm.MethodName) prog_8_method_27_code (4 : Nat) (Option.some Jvm.ClassFile.FieldType.int) ∈ GW := GW_mem 702 (by decide +kernel) (by decide +kernel)
theorem k703 : Jvm.Cond.constantLong "TwoScribesModel" (103 : Nat) (99 : Int64) ∈ GW := GW_mem 703 (by decide +kernel) (by decide +kernel)
theorem k704 : Jvm.Cond.constant "TwoScribesModel" (105 : Nat) (99999 : Int32) ∈ GW := GW_mem 704 (by decide +kernel) (by decide +kernel)
theorem k705 : Jvm.Cond.methodLink "TwoScribesModel" (106 : Nat) ({ cls := "TwoScribesModel", name := "ticks", desc := "()V" } : Jvm.MethodName) ∈ GW := GW_mem 705 (by decide +kernel) (by decide +kernel)
theorem k707 : Jvm.Cond.instanceMethod ({ cls := "TwoScribesModel", name := "ticks", desc := "()V" } : Jvm.MethodName) ∈ GW := GW_mem 707 (by decide +kernel) (by decide +kernel)
theorem k708 : Jvm.Cond.code ({ cls := "TwoScribesModel", name := "ticks", desc := "()V" } : Jvm.MethodName) prog_8_method_18_code (1 : Nat) (Option.none : Option Jvm.ClassFile.FieldType) ∈ GW := GW_mem 708 (by decide +kernel) (by decide +kernel)
theorem k709 : Jvm.Cond.methodLink "TwoScribesModel" (59 : Nat) ({ cls := "TwoScribesModel", name := "goes", desc := "(I)V" } : Jvm.MethodName) ∈ GW := GW_mem 709 (by decide +kernel) (by decide +kernel)
theorem k711 : Jvm.Cond.instanceMethod ({ cls := "TwoScribesModel", name := "goes", desc := "(I)V" } : Jvm.MethodName) ∈ GW := GW_mem 711 (by decide +kernel) (by decide +kernel)
theorem k712 : Jvm.Cond.code ({ cls := "TwoScribesModel", name := "goes", desc := "(I)V" } : Jvm.MethodName) prog_8_method_17_code (2 : Nat) (Option.none : Option Jvm.ClassFile.FieldType) ∈ GW := GW_mem 712 (by decide +kernel) (by decide +kernel)
theorem k713 : Jvm.Cond.methodLink "TwoScribesModel" (49 : Nat) ({ cls := "TwoScribesModel", name := "does", desc := "(I)I" } : Jvm.MethodName) ∈ GW := GW_mem 713 (by decide +kernel) (by decide +kernel)
theorem k715 : Jvm.Cond.instanceMethod ({ cls := "TwoScribesModel", name := "does", desc := "(I)I" } : Jvm.MethodName) ∈ GW := GW_mem 715 (by decide +kernel) (by decide +kernel)
theorem k716 : Jvm.Cond.code ({ cls := "TwoScribesModel", name := "does", desc := "(I)I" } : Jvm.MethodName) prog_8_method_14_code (3 : Nat) (Option.some Jvm.ClassFile.FieldType.int) ∈ GW := GW_mem 716 (by decide +kernel) (by decide +kernel)
theorem k717 : Jvm.Cond.methodLink "TwoScribesModel" (52 : Nat) ({ cls := "TwoScribesModel", name := "writes", desc := "(I)V" } : Jvm.MethodName) ∈ GW := GW_mem 717 (by decide +kernel) (by decide +kernel)
theorem k719 : Jvm.Cond.instanceMethod ({ cls := "TwoScribesModel", name := "writes", desc := "(I)V" } : Jvm.MethodName) ∈ GW := GW_mem 719 (by decide +kernel) (by decide +kernel)
theorem k720 : Jvm.Cond.code ({ cls := "TwoScribesModel", name := "writes", desc := "(I)V" } : Jvm.MethodName) prog_8_method_16_code (4 : Nat) (Option.none : Option Jvm.ClassFile.FieldType) ∈ GW := GW_mem 720 (by decide +kernel) (by decide +kernel)
theorem k721 : Jvm.Cond.methodLink "TwoScribesModel" (56 : Nat) ({ cls := "TwoScribesModel", name := "dips", desc := "(I)V" } : Jvm.MethodName) ∈ GW := GW_mem 721 (by decide +kernel) (by decide +kernel)
theorem k723 : Jvm.Cond.instanceMethod ({ cls := "TwoScribesModel", name := "dips", desc := "(I)V" } : Jvm.MethodName) ∈ GW := GW_mem 723 (by decide +kernel) (by decide +kernel)
theorem k724 : Jvm.Cond.code ({ cls := "TwoScribesModel", name := "dips", desc := "(I)V" } : Jvm.MethodName) prog_8_method_15_code (4 : Nat) (Option.none : Option Jvm.ClassFile.FieldType) ∈ GW := GW_mem 724 (by decide +kernel) (by decide +kernel)
theorem k725 : Jvm.Cond.methodLink "TwoScribesLaw" (48 : Nat) ({ cls := "TwoScribesModel", name := "type", desc := "(C)I" } : Jvm.MethodName) ∈ GW := GW_mem 725 (by decide +kernel) (by decide +kernel)
theorem k726 : Jvm.Cond.instanceMethod ({ cls := "TwoScribesModel", name := "type", desc := "(C)I" } : Jvm.MethodName) ∈ GW := GW_mem 726 (by decide +kernel) (by decide +kernel)
theorem k727 : Jvm.Cond.selects "TwoScribesModel" ({ cls := "TwoScribesModel", name := "type", desc := "(C)I" } : Jvm.MethodName) ({ cls := "TwoScribesModel", name := "type", desc := "(C)I" } : Jvm.MethodName) ∈ GW := GW_mem 727 (by decide +kernel) (by decide +kernel)
theorem k728 : Jvm.Cond.code ({ cls := "TwoScribesModel", name := "type", desc := "(C)I" } : Jvm.MethodName) prog_8_method_28_code (2 : Nat) (Option.some Jvm.ClassFile.FieldType.int) ∈ GW := GW_mem 728 (by decide +kernel) (by decide +kernel)
theorem k729 : Jvm.Cond.methodLink "TwoScribesLaw" (52 : Nat) ({ cls := "TwoScribesModel", name := "clearText", desc := "()I" } : Jvm.MethodName) ∈ GW := GW_mem 729 (by decide +kernel) (by decide +kernel)
theorem k730 : Jvm.Cond.instanceMethod ({ cls := "TwoScribesModel", name := "clearText", desc := "()I" } : Jvm.MethodName) ∈ GW := GW_mem 730 (by decide +kernel) (by decide +kernel)
theorem k731 : Jvm.Cond.selects "TwoScribesModel" ({ cls := "TwoScribesModel", name := "clearText", desc := "()I" } : Jvm.MethodName) ({ cls := "TwoScribesModel", name := "clearText", desc := "()I" } : Jvm.MethodName) ∈ GW := GW_mem 731 (by decide +kernel) (by decide +kernel)
theorem k732 : Jvm.Cond.code ({ cls := "TwoScribesModel", name := "clearText", desc := "()I" } : Jvm.MethodName) prog_8_method_29_code (2 : Nat) (Option.some Jvm.ClassFile.FieldType.int) ∈ GW := GW_mem 732 (by decide +kernel) (by decide +kernel)
theorem k733 : Jvm.Cond.methodLink "TwoScribesLaw" (56 : Nat) ({ cls := "TwoScribesModel", name := "undo", desc := "()I" } : Jvm.MethodName) ∈ GW := GW_mem 733 (by decide +kernel) (by decide +kernel)
theorem k734 : Jvm.Cond.instanceMethod ({ cls := "TwoScribesModel", name := "undo", desc := "()I" } : Jvm.MethodName) ∈ GW := GW_mem 734 (by decide +kernel) (by decide +kernel)
theorem k735 : Jvm.Cond.selects "TwoScribesModel" ({ cls := "TwoScribesModel", name := "undo", desc := "()I" } : Jvm.MethodName) ({ cls := "TwoScribesModel", name := "undo", desc := "()I" } : Jvm.MethodName) ∈ GW := GW_mem 735 (by decide +kernel) (by decide +kernel)
theorem k736 : Jvm.Cond.code ({ cls := "TwoScribesModel", name := "undo", desc := "()I" } : Jvm.MethodName) prog_8_method_34_code (2 : Nat) (Option.some Jvm.ClassFile.FieldType.int) ∈ GW := GW_mem 736 (by decide +kernel) (by decide +kernel)
theorem k737 : Jvm.Cond.methodLink "TwoScribesLaw" (60 : Nat) ({ cls := "TwoScribesModel", name := "keep", desc := "()I" } : Jvm.MethodName) ∈ GW := GW_mem 737 (by decide +kernel) (by decide +kernel)
theorem k738 : Jvm.Cond.instanceMethod ({ cls := "TwoScribesModel", name := "keep", desc := "()I" } : Jvm.MethodName) ∈ GW := GW_mem 738 (by decide +kernel) (by decide +kernel)
theorem k739 : Jvm.Cond.selects "TwoScribesModel" ({ cls := "TwoScribesModel", name := "keep", desc := "()I" } : Jvm.MethodName) ({ cls := "TwoScribesModel", name := "keep", desc := "()I" } : Jvm.MethodName) ∈ GW := GW_mem 739 (by decide +kernel) (by decide +kernel)
theorem k740 : Jvm.Cond.code ({ cls := "TwoScribesModel", name := "keep", desc := "()I" } : Jvm.MethodName) prog_8_method_35_code (2 : Nat) (Option.some Jvm.ClassFile.FieldType.int) ∈ GW := GW_mem 740 (by decide +kernel) (by decide +kernel)
theorem k741 : Jvm.Cond.methodLink "TwoScribesLaw" (64 : Nat) ({ cls := "TwoScribesModel", name := "restore", desc := "()I" } : Jvm.MethodName) ∈ GW := GW_mem 741 (by decide +kernel) (by decide +kernel)
theorem k742 : Jvm.Cond.instanceMethod ({ cls := "TwoScribesModel", name := "restore", desc := "()I" } : Jvm.MethodName) ∈ GW := GW_mem 742 (by decide +kernel) (by decide +kernel)
theorem k743 : Jvm.Cond.selects "TwoScribesModel" ({ cls := "TwoScribesModel", name := "restore", desc := "()I" } : Jvm.MethodName) ({ cls := "TwoScribesModel", name := "restore", desc := "()I" } : Jvm.MethodName) ∈ GW := GW_mem 743 (by decide +kernel) (by decide +kernel)
theorem k744 : Jvm.Cond.code ({ cls := "TwoScribesModel", name := "restore", desc := "()I" } : Jvm.MethodName) prog_8_method_36_code (2 : Nat) (Option.some Jvm.ClassFile.FieldType.int) ∈ GW := GW_mem 744 (by decide +kernel) (by decide +kernel)
theorem k745 : Jvm.Cond.methodLink "TwoScribesLaw" (68 : Nat) ({ cls := "TwoScribesModel", name := "place", desc := "(II)I" } : Jvm.MethodName) ∈ GW := GW_mem 745 (by decide +kernel) (by decide +kernel)
theorem k746 : Jvm.Cond.instanceMethod ({ cls := "TwoScribesModel", name := "place", desc := "(II)I" } : Jvm.MethodName) ∈ GW := GW_mem 746 (by decide +kernel) (by decide +kernel)
theorem k747 : Jvm.Cond.selects "TwoScribesModel" ({ cls := "TwoScribesModel", name := "place", desc := "(II)I" } : Jvm.MethodName) ({ cls := "TwoScribesModel", name := "place", desc := "(II)I" } : Jvm.MethodName) ∈ GW := GW_mem 747 (by decide +kernel) (by decide +kernel)
theorem k748 : Jvm.Cond.code ({ cls := "TwoScribesModel", name := "place", desc := "(II)I" } : Jvm.MethodName) prog_8_method_37_code (3 : Nat) (Option.some Jvm.ClassFile.FieldType.int) ∈ GW := GW_mem 748 (by decide +kernel) (by decide +kernel)
theorem k749 : Jvm.Cond.methodLink "TwoScribesLaw" (72 : Nat) ({ cls := "TwoScribesModel", name := "scribe", desc := "(II)I" } : Jvm.MethodName) ∈ GW := GW_mem 749 (by decide +kernel) (by decide +kernel)
theorem k750 : Jvm.Cond.instanceMethod ({ cls := "TwoScribesModel", name := "scribe", desc := "(II)I" } : Jvm.MethodName) ∈ GW := GW_mem 750 (by decide +kernel) (by decide +kernel)
theorem k751 : Jvm.Cond.selects "TwoScribesModel" ({ cls := "TwoScribesModel", name := "scribe", desc := "(II)I" } : Jvm.MethodName) ({ cls := "TwoScribesModel", name := "scribe", desc := "(II)I" } : Jvm.MethodName) ∈ GW := GW_mem 751 (by decide +kernel) (by decide +kernel)
theorem k752 : Jvm.Cond.code ({ cls := "TwoScribesModel", name := "scribe", desc := "(II)I" } : Jvm.MethodName) prog_8_method_38_code (3 : Nat) (Option.some Jvm.ClassFile.FieldType.int) ∈ GW := GW_mem 752 (by decide +kernel) (by decide +kernel)
theorem k753 : Jvm.Cond.constantLong "TwoScribesModel" (129 : Nat) (6 : Int64) ∈ GW := GW_mem 753 (by decide +kernel) (by decide +kernel)
theorem k754 : Jvm.Cond.methodLink "TwoScribesLaw" (77 : Nat) ({ cls := "TwoScribesModel", name := "ink", desc := "(I)D" } : Jvm.MethodName) ∈ GW := GW_mem 754 (by decide +kernel) (by decide +kernel)
theorem k755 : Jvm.Cond.instanceMethod ({ cls := "TwoScribesModel", name := "ink", desc := "(I)D" } : Jvm.MethodName) ∈ GW := GW_mem 755 (by decide +kernel) (by decide +kernel)
theorem k756 : Jvm.Cond.selects "TwoScribesModel" ({ cls := "TwoScribesModel", name := "ink", desc := "(I)D" } : Jvm.MethodName) ({ cls := "TwoScribesModel", name := "ink", desc := "(I)D" } : Jvm.MethodName) ∈ GW := GW_mem 756 (by decide +kernel) (by decide +kernel)
theorem k757 : Jvm.Cond.code ({ cls := "TwoScribesModel", name := "ink", desc := "(I)D" } : Jvm.MethodName) prog_8_method_39_code (2 : Nat) (Option.some Jvm.ClassFile.FieldType.double) ∈ GW := GW_mem 757 (by decide +kernel) (by decide +kernel)
theorem k758 : Jvm.Cond.constantDouble "TwoScribesModel" (131 : Nat) (4634204016564240384 : UInt64) ∈ GW := GW_mem 758 (by decide +kernel) (by decide +kernel)
theorem k759 : Jvm.Cond.constantDouble "TwoScribesModel" (133 : Nat) (13830554455654793216 : UInt64) ∈ GW := GW_mem 759 (by decide +kernel) (by decide +kernel)
theorem k760 : Jvm.Cond.methodLink "TwoScribesLaw" (81 : Nat) ({ cls := "TwoScribesModel", name := "next", desc := "(I)I" } : Jvm.MethodName) ∈ GW := GW_mem 760 (by decide +kernel) (by decide +kernel)
theorem k761 : Jvm.Cond.instanceMethod ({ cls := "TwoScribesModel", name := "next", desc := "(I)I" } : Jvm.MethodName) ∈ GW := GW_mem 761 (by decide +kernel) (by decide +kernel)
theorem k762 : Jvm.Cond.selects "TwoScribesModel" ({ cls := "TwoScribesModel", name := "next", desc := "(I)I" } : Jvm.MethodName) ({ cls := "TwoScribesModel", name := "next", desc := "(I)I" } : Jvm.MethodName) ∈ GW := GW_mem 762 (by decide +kernel) (by decide +kernel)
theorem k763 : Jvm.Cond.code ({ cls := "TwoScribesModel", name := "next", desc := "(I)I" } : Jvm.MethodName) prog_8_method_40_code (3 : Nat) (Option.some Jvm.ClassFile.FieldType.int) ∈ GW := GW_mem 763 (by decide +kernel) (by decide +kernel)
theorem k764 : Jvm.Cond.methodLink "TwoScribesModel" (135 : Nat) ({ cls := "TwoScribesModel", name := "tries", desc := "()V" } : Jvm.MethodName) ∈ GW := GW_mem 764 (by decide +kernel) (by decide +kernel)
theorem k766 : Jvm.Cond.instanceMethod ({ cls := "TwoScribesModel", name := "tries", desc := "()V" } : Jvm.MethodName) ∈ GW := GW_mem 766 (by decide +kernel) (by decide +kernel)
theorem k767 : Jvm.Cond.code ({ cls := "TwoScribesModel", name := "tries", desc := "()V" } : Jvm.MethodName) prog_8_method_6_code (2 : Nat) (Option.none : Option Jvm.ClassFile.FieldType) ∈ GW := GW_mem 767 (by decide +kernel) (by decide +kernel)
theorem k768 : Jvm.Cond.methodLink "TwoScribesModel" (138 : Nat) ({ cls := "TwoScribesModel", name := "comesBack", desc := "()V" } : Jvm.MethodName) ∈ GW := GW_mem 768 (by decide +kernel) (by decide +kernel)
theorem k770 : Jvm.Cond.instanceMethod ({ cls := "TwoScribesModel", name := "comesBack", desc := "()V" } : Jvm.MethodName) ∈ GW := GW_mem 770 (by decide +kernel) (by decide +kernel)
theorem k771 : Jvm.Cond.code ({ cls := "TwoScribesModel", name := "comesBack", desc := "()V" } : Jvm.MethodName) prog_8_method_7_code (2 : Nat) (Option.none : Option Jvm.ClassFile.FieldType) ∈ GW := GW_mem 771 (by decide +kernel) (by decide +kernel)
theorem k772 : Jvm.Cond.methodLink "TwoScribesLaw" (85 : Nat) ({ cls := "TwoScribesModel", name := "doneIn", desc := "()I" } : Jvm.MethodName) ∈ GW := GW_mem 772 (by decide +kernel) (by decide +kernel)
theorem k773 : Jvm.Cond.instanceMethod ({ cls := "TwoScribesModel", name := "doneIn", desc := "()I" } : Jvm.MethodName) ∈ GW := GW_mem 773 (by decide +kernel) (by decide +kernel)
theorem k774 : Jvm.Cond.selects "TwoScribesModel" ({ cls := "TwoScribesModel", name := "doneIn", desc := "()I" } : Jvm.MethodName) ({ cls := "TwoScribesModel", name := "doneIn", desc := "()I" } : Jvm.MethodName) ∈ GW := GW_mem 774 (by decide +kernel) (by decide +kernel)
theorem k775 : Jvm.Cond.code ({ cls := "TwoScribesModel", name := "doneIn", desc := "()I" } : Jvm.MethodName) prog_8_method_42_code (1 : Nat) (Option.some Jvm.ClassFile.FieldType.int) ∈ GW := GW_mem 775 (by decide +kernel) (by decide +kernel)
theorem k776 : Jvm.Cond.methodLink "TwoScribesModel" (144 : Nat) ({ cls := "TwoScribesModel", name := "doneBehind", desc := "()I" } : Jvm.MethodName) ∈ GW := GW_mem 776 (by decide +kernel) (by decide +kernel)
theorem k778 : Jvm.Cond.instanceMethod ({ cls := "TwoScribesModel", name := "doneBehind", desc := "()I" } : Jvm.MethodName) ∈ GW := GW_mem 778 (by decide +kernel) (by decide +kernel)
theorem k779 : Jvm.Cond.code ({ cls := "TwoScribesModel", name := "doneBehind", desc := "()I" } : Jvm.MethodName) prog_8_method_41_code (2 : Nat) (Option.some Jvm.ClassFile.FieldType.int) ∈ GW := GW_mem 779 (by decide +kernel) (by decide +kernel)
theorem k780 : Jvm.Cond.methodLink "TwoScribesModel" (141 : Nat) ({ cls := "TwoScribesModel", name := "isDone", desc := "()Z" } : Jvm.MethodName) ∈ GW := GW_mem 780 (by decide +kernel) (by decide +kernel)
theorem k782 : Jvm.Cond.instanceMethod ({ cls := "TwoScribesModel", name := "isDone", desc := "()Z" } : Jvm.MethodName) ∈ GW := GW_mem 782 (by decide +kernel) (by decide +kernel)
theorem k783 : Jvm.Cond.code ({ cls := "TwoScribesModel", name := "isDone", desc := "()Z" } : Jvm.MethodName) prog_8_method_12_code (1 : Nat) (Option.some Jvm.ClassFile.FieldType.boolean) ∈ GW := GW_mem 783 (by decide +kernel) (by decide +kernel)
theorem k784 : Jvm.Cond.methodLink "TwoScribesLaw" (89 : Nat) ({ cls := "TwoScribesModel", name := "unlikePairs", desc := "()I" } : Jvm.MethodName) ∈ GW := GW_mem 784 (by decide +kernel) (by decide +kernel)
theorem k785 : Jvm.Cond.instanceMethod ({ cls := "TwoScribesModel", name := "unlikePairs", desc := "()I" } : Jvm.MethodName) ∈ GW := GW_mem 785 (by decide +kernel) (by decide +kernel)
theorem k786 : Jvm.Cond.selects "TwoScribesModel" ({ cls := "TwoScribesModel", name := "unlikePairs", desc := "()I" } : Jvm.MethodName) ({ cls := "TwoScribesModel", name := "unlikePairs", desc := "()I" } : Jvm.MethodName) ∈ GW := GW_mem 786 (by decide +kernel) (by decide +kernel)
theorem k787 : Jvm.Cond.code ({ cls := "TwoScribesModel", name := "unlikePairs", desc := "()I" } : Jvm.MethodName) prog_8_method_43_code (4 : Nat) (Option.some Jvm.ClassFile.FieldType.int) ∈ GW := GW_mem 787 (by decide +kernel) (by decide +kernel)
theorem k788 : Jvm.Cond.methodLink "TwoScribesLaw" (93 : Nat) ({ cls := "TwoScribesModel", name := "unlikeReadings", desc := "()I" } : Jvm.MethodName) ∈ GW := GW_mem 788 (by decide +kernel) (by decide +kernel)
theorem k789 : Jvm.Cond.instanceMethod ({ cls := "TwoScribesModel", name := "unlikeReadings", desc := "()I" } : Jvm.MethodName) ∈ GW := GW_mem 789 (by decide +kernel) (by decide +kernel)
theorem k790 : Jvm.Cond.selects "TwoScribesModel" ({ cls := "TwoScribesModel", name := "unlikeReadings", desc := "()I" } : Jvm.MethodName) ({ cls := "TwoScribesModel", name := "unlikeReadings", desc := "()I" } : Jvm.MethodName) ∈ GW := GW_mem 790 (by decide +kernel) (by decide +kernel)
theorem k791 : Jvm.Cond.code ({ cls := "TwoScribesModel", name := "unlikeReadings", desc := "()I" } : Jvm.MethodName) prog_8_method_44_code (4 : Nat) (Option.some Jvm.ClassFile.FieldType.int) ∈ GW := GW_mem 791 (by decide +kernel) (by decide +kernel)
theorem k792 : Jvm.Cond.methodLink "TwoScribesLaw" (98 : Nat) ({ cls := "TwoScribesModel", name := "needed", desc := "()D" } : Jvm.MethodName) ∈ GW := GW_mem 792 (by decide +kernel) (by decide +kernel)
theorem k793 : Jvm.Cond.instanceMethod ({ cls := "TwoScribesModel", name := "needed", desc := "()D" } : Jvm.MethodName) ∈ GW := GW_mem 793 (by decide +kernel) (by decide +kernel)
theorem k794 : Jvm.Cond.selects "TwoScribesModel" ({ cls := "TwoScribesModel", name := "needed", desc := "()D" } : Jvm.MethodName) ({ cls := "TwoScribesModel", name := "needed", desc := "()D" } : Jvm.MethodName) ∈ GW := GW_mem 794 (by decide +kernel) (by decide +kernel)
theorem k795 : Jvm.Cond.code ({ cls := "TwoScribesModel", name := "needed", desc := "()D" } : Jvm.MethodName) prog_8_method_45_code (3 : Nat) (Option.some Jvm.ClassFile.FieldType.double) ∈ GW := GW_mem 795 (by decide +kernel) (by decide +kernel)
theorem k796 : Jvm.Cond.methodLink "TwoScribesLaw" (102 : Nat) ({ cls := "TwoScribesModel", name := "bestPace", desc := "(I)I" } : Jvm.MethodName) ∈ GW := GW_mem 796 (by decide +kernel) (by decide +kernel)
theorem k797 : Jvm.Cond.instanceMethod ({ cls := "TwoScribesModel", name := "bestPace", desc := "(I)I" } : Jvm.MethodName) ∈ GW := GW_mem 797 (by decide +kernel) (by decide +kernel)
theorem k798 : Jvm.Cond.selects "TwoScribesModel" ({ cls := "TwoScribesModel", name := "bestPace", desc := "(I)I" } : Jvm.MethodName) ({ cls := "TwoScribesModel", name := "bestPace", desc := "(I)I" } : Jvm.MethodName) ∈ GW := GW_mem 798 (by decide +kernel) (by decide +kernel)
theorem k799 : Jvm.Cond.code ({ cls := "TwoScribesModel", name := "bestPace", desc := "(I)I" } : Jvm.MethodName) prog_8_method_46_code (7 : Nat) (Option.some Jvm.ClassFile.FieldType.int) ∈ GW := GW_mem 799 (by decide +kernel) (by decide +kernel)
theorem k800 : Jvm.Cond.methodLink "TwoScribesLaw" (106 : Nat) ({ cls := "TwoScribesModel", name := "count", desc := "(I)I" } : Jvm.MethodName) ∈ GW := GW_mem 800 (by decide +kernel) (by decide +kernel)
theorem k801 : Jvm.Cond.instanceMethod ({ cls := "TwoScribesModel", name := "count", desc := "(I)I" } : Jvm.MethodName) ∈ GW := GW_mem 801 (by decide +kernel) (by decide +kernel)
theorem k802 : Jvm.Cond.selects "TwoScribesModel" ({ cls := "TwoScribesModel", name := "count", desc := "(I)I" } : Jvm.MethodName) ({ cls := "TwoScribesModel", name := "count", desc := "(I)I" } : Jvm.MethodName) ∈ GW := GW_mem 802 (by decide +kernel) (by decide +kernel)
theorem k803 : Jvm.Cond.code ({ cls := "TwoScribesModel", name := "count", desc := "(I)I" } : Jvm.MethodName) prog_8_method_48_code (2 : Nat) (Option.some Jvm.ClassFile.FieldType.int) ∈ GW := GW_mem 803 (by decide +kernel) (by decide +kernel)
theorem k804 : Jvm.Cond.methodLink "TwoScribesModel" (147 : Nat) ({ cls := "TwoScribesModel", name := "places", desc := "(I)I" } : Jvm.MethodName) ∈ GW := GW_mem 804 (by decide +kernel) (by decide +kernel)
theorem k806 : Jvm.Cond.instanceMethod ({ cls := "TwoScribesModel", name := "places", desc := "(I)I" } : Jvm.MethodName) ∈ GW := GW_mem 806 (by decide +kernel) (by decide +kernel)
theorem k807 : Jvm.Cond.code ({ cls := "TwoScribesModel", name := "places", desc := "(I)I" } : Jvm.MethodName) prog_8_method_47_code (5 : Nat) (Option.some Jvm.ClassFile.FieldType.int) ∈ GW := GW_mem 807 (by decide +kernel) (by decide +kernel)
def NSTF : List (String × Nat × String × String × String × String) := [("TwoScribes$State", 116, "TwoScribes$Page", "due", "[I", "TwoScribes"), ("TwoScribes", 161, "TwoScribes$Page", "due", "[I", "TwoScribes"), ("TwoScribes", 71, "TwoScribes$Page", "told", "[I", "TwoScribes"), ("TwoScribes", 164, "TwoScribes$Page", "written", "[I", "TwoScribes"), ("TwoScribes", 179, "TwoScribes$Page", "writtenIn", "[I", "TwoScribes"), ("TwoScribes", 167, "TwoScribes$Page", "blots", "[I", "TwoScribes"), ("TwoScribes", 170, "TwoScribes$Page", "corrected", "[I", "TwoScribes"), ("TwoScribes", 59, "TwoScribes$Page", "places", "I", "TwoScribes"), ("TwoScribes$State", 79, "TwoScribes$Page", "places", "I", "TwoScribes"), ("TwoScribes$State", 104, "TwoScribes$Page", "corrections", "I", "TwoScribes"), ("TwoScribes", 107, "TwoScribes$Scribe", "pace", "I", "TwoScribes"), ("TwoScribes$State", 151, "TwoScribes$Scribe", "pace", "I", "TwoScribes"), ("TwoScribes$State", 74, "TwoScribes$Scribe", "letters", "I", "TwoScribes"), ("TwoScribes", 182, "TwoScribes$Scribe", "letters", "I", "TwoScribes"), ("TwoScribes$State", 94, "TwoScribes$Scribe", "spent", "I", "TwoScribes"), ("TwoScribes", 186, "TwoScribes$Scribe", "spent", "I", "TwoScribes"), ("TwoScribes$State", 127, "TwoScribes$Scribe", "dipLeft", "I", "TwoScribes"), ("TwoScribes", 189, "TwoScribes$Scribe", "dipLeft", "I", "TwoScribes"), ("TwoScribes$State", 148, "TwoScribes$Scribe", "dips", "I", "TwoScribes"), ("TwoScribes", 192, "TwoScribes$Scribe", "dips", "I", "TwoScribes"), ("TwoScribes$State", 145, "TwoScribes$Scribe", "waits", "I", "TwoScribes"), ("TwoScribes", 195, "TwoScribes$Scribe", "waits", "I", "TwoScribes"), ("TwoScribes$State", 130, "TwoScribes$Scribe", "pen", "F", "TwoScribes"), ("TwoScribes", 202, "TwoScribes$Scribe", "pen", "F", "TwoScribes"), ("TwoScribes", 55, "TwoScribes$State", "page", "LTwoScribes$Page;", "TwoScribes"), ("TwoScribes", 198, "TwoScribes$State", "left", "LTwoScribes$Scribe;", "TwoScribes"), ("TwoScribes", 205, "TwoScribes$State", "right", "LTwoScribes$Scribe;", "TwoScribes"), ("TwoScribes", 126, "TwoScribes$State", "settings", "[I", "TwoScribes"), ("TwoScribes", 115, "TwoScribes$State", "well", "F", "TwoScribes"), ("TwoScribes", 208, "TwoScribes$State", "letterInk", "F", "TwoScribes"), ("TwoScribes", 211, "TwoScribes$State", "correctionInk", "F", "TwoScribes"), ("TwoScribes", 129, "TwoScribes$State", "tick", "I", "TwoScribes"), ("TwoScribes", 245, "TwoScribes$State", "pages", "I", "TwoScribes"), ("TwoScribes", 133, "TwoScribes$State", "letters", "I", "TwoScribes"), ("TwoScribes", 112, "TwoScribes$State", "poured", "I", "TwoScribes"), ("TwoScribes", 151, "TwoScribes$History", "size", "I", "TwoScribes"), ("TwoScribes$Page", 53, "TwoScribes$PageText", "letters", "[I", "TwoScribes"), ("TwoScribes$Page", 50, "TwoScribes$PageText", "misreadings", "[I", "TwoScribes"), ("TwoScribes", 144, "TwoScribes$PageText", "length", "I", "TwoScribes"), ("TwoScribes", 44, "TwoScribes$PageText", "half", "I", "TwoScribes"), ("TwoScribes$Page", 41, "TwoScribes$PageText", "half", "I", "TwoScribes"), ("TwoScribes", 40, "TwoScribes$PageText", "farthest", "I", "TwoScribes")]
def NSTM : List (String × Nat × MethodName × String) := [("TwoScribes", 9, ⟨"TwoScribes$State", "<init>", "()V"⟩, "TwoScribes"), ("TwoScribes$State", 11, ⟨"TwoScribes$Page", "<init>", "()V"⟩, "TwoScribes"), ("TwoScribes$State", 20, ⟨"TwoScribes$Scribe", "<init>", "()V"⟩, "TwoScribes"), ("TwoScribes$History", 17, ⟨"TwoScribes$State", "<init>", "()V"⟩, "TwoScribes"), ("TwoScribes", 31, ⟨"TwoScribes$PageText", "<init>", "()V"⟩, "TwoScribes"), ("TwoScribes$PageText", 46, ⟨"TwoScribes", "clearRow", "([I)V"⟩, "TwoScribes"), ("TwoScribes$PageText", 54, ⟨"TwoScribes", "put", "([III)V"⟩, "TwoScribes"), ("TwoScribes$Page", 30, ⟨"TwoScribes", "copyRow", "([I[I)V"⟩, "TwoScribes"), ("TwoScribes$State", 44, ⟨"TwoScribes", "copyRow", "([I[I)V"⟩, "TwoScribes"), ("TwoScribes$Page", 46, ⟨"TwoScribes", "clearRow", "([I)V"⟩, "TwoScribes"), ("TwoScribes$Page", 56, ⟨"TwoScribes", "at", "([II)I"⟩, "TwoScribes"), ("TwoScribes$Page", 60, ⟨"TwoScribes", "put", "([III)V"⟩, "TwoScribes"), ("TwoScribes$State", 100, ⟨"TwoScribes", "at", "([II)I"⟩, "TwoScribes"), ("TwoScribes$State", 119, ⟨"TwoScribes", "inkFor", "(I)F"⟩, "TwoScribes")]
def NOK (U : State) : Prop := (∀ q ∈ NSTF, va_Nw (.fieldLinkNest q.1 q.2.1 q.2.2.1 q.2.2.2.1 q.2.2.2.2.1 q.2.2.2.2.2) U) ∧ ∀ q ∈ NSTM, va_Nw (.methodLinkNest q.1 q.2.1 q.2.2.1 q.2.2.2) U
theorem NOK.warm {s U : State} (hW : s.WarmedH U.vm) (h : NOK s) : NOK U := ⟨fun q hq => va_Nw.warmF hW (h.1 q hq), fun q hq => va_Nw.warmM hW (h.2 q hq)⟩
theorem NOK.same {u U : State} (h : u.vm = U.vm) (hN : NOK u) : NOK U := ⟨fun q hq => va_Nw.same rfl h (hN.1 q hq), fun q hq => va_Nw.same rfl h (hN.2 q hq)⟩
theorem nfTwoScribes_State_116 {U : State} (h : NOK U) : va_Nw (.fieldLinkNest "TwoScribes$State" 116 "TwoScribes$Page" "due" "[I" "TwoScribes") U := h.1 ("TwoScribes$State", 116, "TwoScribes$Page", "due", "[I", "TwoScribes") (List.mem_of_getElem? (i := 0) rfl)
theorem nfTwoScribes_161 {U : State} (h : NOK U) : va_Nw (.fieldLinkNest "TwoScribes" 161 "TwoScribes$Page" "due" "[I" "TwoScribes") U := h.1 ("TwoScribes", 161, "TwoScribes$Page", "due", "[I", "TwoScribes") (List.mem_of_getElem? (i := 1) rfl)
theorem nfTwoScribes_71 {U : State} (h : NOK U) : va_Nw (.fieldLinkNest "TwoScribes" 71 "TwoScribes$Page" "told" "[I" "TwoScribes") U := h.1 ("TwoScribes", 71, "TwoScribes$Page", "told", "[I", "TwoScribes") (List.mem_of_getElem? (i := 2) rfl)
theorem nfTwoScribes_164 {U : State} (h : NOK U) : va_Nw (.fieldLinkNest "TwoScribes" 164 "TwoScribes$Page" "written" "[I" "TwoScribes") U := h.1 ("TwoScribes", 164, "TwoScribes$Page", "written", "[I", "TwoScribes") (List.mem_of_getElem? (i := 3) rfl)
theorem nfTwoScribes_179 {U : State} (h : NOK U) : va_Nw (.fieldLinkNest "TwoScribes" 179 "TwoScribes$Page" "writtenIn" "[I" "TwoScribes") U := h.1 ("TwoScribes", 179, "TwoScribes$Page", "writtenIn", "[I", "TwoScribes") (List.mem_of_getElem? (i := 4) rfl)
theorem nfTwoScribes_167 {U : State} (h : NOK U) : va_Nw (.fieldLinkNest "TwoScribes" 167 "TwoScribes$Page" "blots" "[I" "TwoScribes") U := h.1 ("TwoScribes", 167, "TwoScribes$Page", "blots", "[I", "TwoScribes") (List.mem_of_getElem? (i := 5) rfl)
theorem nfTwoScribes_170 {U : State} (h : NOK U) : va_Nw (.fieldLinkNest "TwoScribes" 170 "TwoScribes$Page" "corrected" "[I" "TwoScribes") U := h.1 ("TwoScribes", 170, "TwoScribes$Page", "corrected", "[I", "TwoScribes") (List.mem_of_getElem? (i := 6) rfl)
theorem nfTwoScribes_59 {U : State} (h : NOK U) : va_Nw (.fieldLinkNest "TwoScribes" 59 "TwoScribes$Page" "places" "I" "TwoScribes") U := h.1 ("TwoScribes", 59, "TwoScribes$Page", "places", "I", "TwoScribes") (List.mem_of_getElem? (i := 7) rfl)
theorem nfTwoScribes_State_79 {U : State} (h : NOK U) : va_Nw (.fieldLinkNest "TwoScribes$State" 79 "TwoScribes$Page" "places" "I" "TwoScribes") U := h.1 ("TwoScribes$State", 79, "TwoScribes$Page", "places", "I", "TwoScribes") (List.mem_of_getElem? (i := 8) rfl)
theorem nfTwoScribes_State_104 {U : State} (h : NOK U) : va_Nw (.fieldLinkNest "TwoScribes$State" 104 "TwoScribes$Page" "corrections" "I" "TwoScribes") U := h.1 ("TwoScribes$State", 104, "TwoScribes$Page", "corrections", "I", "TwoScribes") (List.mem_of_getElem? (i := 9) rfl)
theorem nfTwoScribes_107 {U : State} (h : NOK U) : va_Nw (.fieldLinkNest "TwoScribes" 107 "TwoScribes$Scribe" "pace" "I" "TwoScribes") U := h.1 ("TwoScribes", 107, "TwoScribes$Scribe", "pace", "I", "TwoScribes") (List.mem_of_getElem? (i := 10) rfl)
theorem nfTwoScribes_State_151 {U : State} (h : NOK U) : va_Nw (.fieldLinkNest "TwoScribes$State" 151 "TwoScribes$Scribe" "pace" "I" "TwoScribes") U := h.1 ("TwoScribes$State", 151, "TwoScribes$Scribe", "pace", "I", "TwoScribes") (List.mem_of_getElem? (i := 11) rfl)
theorem nfTwoScribes_State_74 {U : State} (h : NOK U) : va_Nw (.fieldLinkNest "TwoScribes$State" 74 "TwoScribes$Scribe" "letters" "I" "TwoScribes") U := h.1 ("TwoScribes$State", 74, "TwoScribes$Scribe", "letters", "I", "TwoScribes") (List.mem_of_getElem? (i := 12) rfl)
theorem nfTwoScribes_182 {U : State} (h : NOK U) : va_Nw (.fieldLinkNest "TwoScribes" 182 "TwoScribes$Scribe" "letters" "I" "TwoScribes") U := h.1 ("TwoScribes", 182, "TwoScribes$Scribe", "letters", "I", "TwoScribes") (List.mem_of_getElem? (i := 13) rfl)
theorem nfTwoScribes_State_94 {U : State} (h : NOK U) : va_Nw (.fieldLinkNest "TwoScribes$State" 94 "TwoScribes$Scribe" "spent" "I" "TwoScribes") U := h.1 ("TwoScribes$State", 94, "TwoScribes$Scribe", "spent", "I", "TwoScribes") (List.mem_of_getElem? (i := 14) rfl)
theorem nfTwoScribes_186 {U : State} (h : NOK U) : va_Nw (.fieldLinkNest "TwoScribes" 186 "TwoScribes$Scribe" "spent" "I" "TwoScribes") U := h.1 ("TwoScribes", 186, "TwoScribes$Scribe", "spent", "I", "TwoScribes") (List.mem_of_getElem? (i := 15) rfl)
theorem nfTwoScribes_State_127 {U : State} (h : NOK U) : va_Nw (.fieldLinkNest "TwoScribes$State" 127 "TwoScribes$Scribe" "dipLeft" "I" "TwoScribes") U := h.1 ("TwoScribes$State", 127, "TwoScribes$Scribe", "dipLeft", "I", "TwoScribes") (List.mem_of_getElem? (i := 16) rfl)
theorem nfTwoScribes_189 {U : State} (h : NOK U) : va_Nw (.fieldLinkNest "TwoScribes" 189 "TwoScribes$Scribe" "dipLeft" "I" "TwoScribes") U := h.1 ("TwoScribes", 189, "TwoScribes$Scribe", "dipLeft", "I", "TwoScribes") (List.mem_of_getElem? (i := 17) rfl)
theorem nfTwoScribes_State_148 {U : State} (h : NOK U) : va_Nw (.fieldLinkNest "TwoScribes$State" 148 "TwoScribes$Scribe" "dips" "I" "TwoScribes") U := h.1 ("TwoScribes$State", 148, "TwoScribes$Scribe", "dips", "I", "TwoScribes") (List.mem_of_getElem? (i := 18) rfl)
theorem nfTwoScribes_192 {U : State} (h : NOK U) : va_Nw (.fieldLinkNest "TwoScribes" 192 "TwoScribes$Scribe" "dips" "I" "TwoScribes") U := h.1 ("TwoScribes", 192, "TwoScribes$Scribe", "dips", "I", "TwoScribes") (List.mem_of_getElem? (i := 19) rfl)
theorem nfTwoScribes_State_145 {U : State} (h : NOK U) : va_Nw (.fieldLinkNest "TwoScribes$State" 145 "TwoScribes$Scribe" "waits" "I" "TwoScribes") U := h.1 ("TwoScribes$State", 145, "TwoScribes$Scribe", "waits", "I", "TwoScribes") (List.mem_of_getElem? (i := 20) rfl)
theorem nfTwoScribes_195 {U : State} (h : NOK U) : va_Nw (.fieldLinkNest "TwoScribes" 195 "TwoScribes$Scribe" "waits" "I" "TwoScribes") U := h.1 ("TwoScribes", 195, "TwoScribes$Scribe", "waits", "I", "TwoScribes") (List.mem_of_getElem? (i := 21) rfl)
theorem nfTwoScribes_State_130 {U : State} (h : NOK U) : va_Nw (.fieldLinkNest "TwoScribes$State" 130 "TwoScribes$Scribe" "pen" "F" "TwoScribes") U := h.1 ("TwoScribes$State", 130, "TwoScribes$Scribe", "pen", "F", "TwoScribes") (List.mem_of_getElem? (i := 22) rfl)
theorem nfTwoScribes_202 {U : State} (h : NOK U) : va_Nw (.fieldLinkNest "TwoScribes" 202 "TwoScribes$Scribe" "pen" "F" "TwoScribes") U := h.1 ("TwoScribes", 202, "TwoScribes$Scribe", "pen", "F", "TwoScribes") (List.mem_of_getElem? (i := 23) rfl)
theorem nfTwoScribes_55 {U : State} (h : NOK U) : va_Nw (.fieldLinkNest "TwoScribes" 55 "TwoScribes$State" "page" "LTwoScribes$Page;" "TwoScribes") U := h.1 ("TwoScribes", 55, "TwoScribes$State", "page", "LTwoScribes$Page;", "TwoScribes") (List.mem_of_getElem? (i := 24) rfl)
theorem nfTwoScribes_198 {U : State} (h : NOK U) : va_Nw (.fieldLinkNest "TwoScribes" 198 "TwoScribes$State" "left" "LTwoScribes$Scribe;" "TwoScribes") U := h.1 ("TwoScribes", 198, "TwoScribes$State", "left", "LTwoScribes$Scribe;", "TwoScribes") (List.mem_of_getElem? (i := 25) rfl)
theorem nfTwoScribes_205 {U : State} (h : NOK U) : va_Nw (.fieldLinkNest "TwoScribes" 205 "TwoScribes$State" "right" "LTwoScribes$Scribe;" "TwoScribes") U := h.1 ("TwoScribes", 205, "TwoScribes$State", "right", "LTwoScribes$Scribe;", "TwoScribes") (List.mem_of_getElem? (i := 26) rfl)
theorem nfTwoScribes_126 {U : State} (h : NOK U) : va_Nw (.fieldLinkNest "TwoScribes" 126 "TwoScribes$State" "settings" "[I" "TwoScribes") U := h.1 ("TwoScribes", 126, "TwoScribes$State", "settings", "[I", "TwoScribes") (List.mem_of_getElem? (i := 27) rfl)
theorem nfTwoScribes_115 {U : State} (h : NOK U) : va_Nw (.fieldLinkNest "TwoScribes" 115 "TwoScribes$State" "well" "F" "TwoScribes") U := h.1 ("TwoScribes", 115, "TwoScribes$State", "well", "F", "TwoScribes") (List.mem_of_getElem? (i := 28) rfl)
theorem nfTwoScribes_208 {U : State} (h : NOK U) : va_Nw (.fieldLinkNest "TwoScribes" 208 "TwoScribes$State" "letterInk" "F" "TwoScribes") U := h.1 ("TwoScribes", 208, "TwoScribes$State", "letterInk", "F", "TwoScribes") (List.mem_of_getElem? (i := 29) rfl)
theorem nfTwoScribes_211 {U : State} (h : NOK U) : va_Nw (.fieldLinkNest "TwoScribes" 211 "TwoScribes$State" "correctionInk" "F" "TwoScribes") U := h.1 ("TwoScribes", 211, "TwoScribes$State", "correctionInk", "F", "TwoScribes") (List.mem_of_getElem? (i := 30) rfl)
theorem nfTwoScribes_129 {U : State} (h : NOK U) : va_Nw (.fieldLinkNest "TwoScribes" 129 "TwoScribes$State" "tick" "I" "TwoScribes") U := h.1 ("TwoScribes", 129, "TwoScribes$State", "tick", "I", "TwoScribes") (List.mem_of_getElem? (i := 31) rfl)
theorem nfTwoScribes_245 {U : State} (h : NOK U) : va_Nw (.fieldLinkNest "TwoScribes" 245 "TwoScribes$State" "pages" "I" "TwoScribes") U := h.1 ("TwoScribes", 245, "TwoScribes$State", "pages", "I", "TwoScribes") (List.mem_of_getElem? (i := 32) rfl)
theorem nfTwoScribes_133 {U : State} (h : NOK U) : va_Nw (.fieldLinkNest "TwoScribes" 133 "TwoScribes$State" "letters" "I" "TwoScribes") U := h.1 ("TwoScribes", 133, "TwoScribes$State", "letters", "I", "TwoScribes") (List.mem_of_getElem? (i := 33) rfl)
theorem nfTwoScribes_112 {U : State} (h : NOK U) : va_Nw (.fieldLinkNest "TwoScribes" 112 "TwoScribes$State" "poured" "I" "TwoScribes") U := h.1 ("TwoScribes", 112, "TwoScribes$State", "poured", "I", "TwoScribes") (List.mem_of_getElem? (i := 34) rfl)
theorem nfTwoScribes_151 {U : State} (h : NOK U) : va_Nw (.fieldLinkNest "TwoScribes" 151 "TwoScribes$History" "size" "I" "TwoScribes") U := h.1 ("TwoScribes", 151, "TwoScribes$History", "size", "I", "TwoScribes") (List.mem_of_getElem? (i := 35) rfl)
theorem nfTwoScribes_Page_53 {U : State} (h : NOK U) : va_Nw (.fieldLinkNest "TwoScribes$Page" 53 "TwoScribes$PageText" "letters" "[I" "TwoScribes") U := h.1 ("TwoScribes$Page", 53, "TwoScribes$PageText", "letters", "[I", "TwoScribes") (List.mem_of_getElem? (i := 36) rfl)
theorem nfTwoScribes_Page_50 {U : State} (h : NOK U) : va_Nw (.fieldLinkNest "TwoScribes$Page" 50 "TwoScribes$PageText" "misreadings" "[I" "TwoScribes") U := h.1 ("TwoScribes$Page", 50, "TwoScribes$PageText", "misreadings", "[I", "TwoScribes") (List.mem_of_getElem? (i := 37) rfl)
theorem nfTwoScribes_144 {U : State} (h : NOK U) : va_Nw (.fieldLinkNest "TwoScribes" 144 "TwoScribes$PageText" "length" "I" "TwoScribes") U := h.1 ("TwoScribes", 144, "TwoScribes$PageText", "length", "I", "TwoScribes") (List.mem_of_getElem? (i := 38) rfl)
theorem nfTwoScribes_44 {U : State} (h : NOK U) : va_Nw (.fieldLinkNest "TwoScribes" 44 "TwoScribes$PageText" "half" "I" "TwoScribes") U := h.1 ("TwoScribes", 44, "TwoScribes$PageText", "half", "I", "TwoScribes") (List.mem_of_getElem? (i := 39) rfl)
theorem nfTwoScribes_Page_41 {U : State} (h : NOK U) : va_Nw (.fieldLinkNest "TwoScribes$Page" 41 "TwoScribes$PageText" "half" "I" "TwoScribes") U := h.1 ("TwoScribes$Page", 41, "TwoScribes$PageText", "half", "I", "TwoScribes") (List.mem_of_getElem? (i := 40) rfl)
theorem nfTwoScribes_40 {U : State} (h : NOK U) : va_Nw (.fieldLinkNest "TwoScribes" 40 "TwoScribes$PageText" "farthest" "I" "TwoScribes") U := h.1 ("TwoScribes", 40, "TwoScribes$PageText", "farthest", "I", "TwoScribes") (List.mem_of_getElem? (i := 41) rfl)
theorem nmTwoScribes_9 {U : State} (h : NOK U) : va_Nw (.methodLinkNest "TwoScribes" 9 ⟨"TwoScribes$State", "<init>", "()V"⟩ "TwoScribes") U := h.2 ("TwoScribes", 9, ⟨"TwoScribes$State", "<init>", "()V"⟩, "TwoScribes") (List.mem_of_getElem? (i := 0) rfl)
theorem nmTwoScribes_State_11 {U : State} (h : NOK U) : va_Nw (.methodLinkNest "TwoScribes$State" 11 ⟨"TwoScribes$Page", "<init>", "()V"⟩ "TwoScribes") U := h.2 ("TwoScribes$State", 11, ⟨"TwoScribes$Page", "<init>", "()V"⟩, "TwoScribes") (List.mem_of_getElem? (i := 1) rfl)
theorem nmTwoScribes_State_20 {U : State} (h : NOK U) : va_Nw (.methodLinkNest "TwoScribes$State" 20 ⟨"TwoScribes$Scribe", "<init>", "()V"⟩ "TwoScribes") U := h.2 ("TwoScribes$State", 20, ⟨"TwoScribes$Scribe", "<init>", "()V"⟩, "TwoScribes") (List.mem_of_getElem? (i := 2) rfl)
theorem nmTwoScribes_History_17 {U : State} (h : NOK U) : va_Nw (.methodLinkNest "TwoScribes$History" 17 ⟨"TwoScribes$State", "<init>", "()V"⟩ "TwoScribes") U := h.2 ("TwoScribes$History", 17, ⟨"TwoScribes$State", "<init>", "()V"⟩, "TwoScribes") (List.mem_of_getElem? (i := 3) rfl)
theorem nmTwoScribes_31 {U : State} (h : NOK U) : va_Nw (.methodLinkNest "TwoScribes" 31 ⟨"TwoScribes$PageText", "<init>", "()V"⟩ "TwoScribes") U := h.2 ("TwoScribes", 31, ⟨"TwoScribes$PageText", "<init>", "()V"⟩, "TwoScribes") (List.mem_of_getElem? (i := 4) rfl)
theorem nmTwoScribes_PageText_46 {U : State} (h : NOK U) : va_Nw (.methodLinkNest "TwoScribes$PageText" 46 ⟨"TwoScribes", "clearRow", "([I)V"⟩ "TwoScribes") U := h.2 ("TwoScribes$PageText", 46, ⟨"TwoScribes", "clearRow", "([I)V"⟩, "TwoScribes") (List.mem_of_getElem? (i := 5) rfl)
theorem nmTwoScribes_PageText_54 {U : State} (h : NOK U) : va_Nw (.methodLinkNest "TwoScribes$PageText" 54 ⟨"TwoScribes", "put", "([III)V"⟩ "TwoScribes") U := h.2 ("TwoScribes$PageText", 54, ⟨"TwoScribes", "put", "([III)V"⟩, "TwoScribes") (List.mem_of_getElem? (i := 6) rfl)
theorem nmTwoScribes_Page_30 {U : State} (h : NOK U) : va_Nw (.methodLinkNest "TwoScribes$Page" 30 ⟨"TwoScribes", "copyRow", "([I[I)V"⟩ "TwoScribes") U := h.2 ("TwoScribes$Page", 30, ⟨"TwoScribes", "copyRow", "([I[I)V"⟩, "TwoScribes") (List.mem_of_getElem? (i := 7) rfl)
theorem nmTwoScribes_State_44 {U : State} (h : NOK U) : va_Nw (.methodLinkNest "TwoScribes$State" 44 ⟨"TwoScribes", "copyRow", "([I[I)V"⟩ "TwoScribes") U := h.2 ("TwoScribes$State", 44, ⟨"TwoScribes", "copyRow", "([I[I)V"⟩, "TwoScribes") (List.mem_of_getElem? (i := 8) rfl)
theorem nmTwoScribes_Page_46 {U : State} (h : NOK U) : va_Nw (.methodLinkNest "TwoScribes$Page" 46 ⟨"TwoScribes", "clearRow", "([I)V"⟩ "TwoScribes") U := h.2 ("TwoScribes$Page", 46, ⟨"TwoScribes", "clearRow", "([I)V"⟩, "TwoScribes") (List.mem_of_getElem? (i := 9) rfl)
theorem nmTwoScribes_Page_56 {U : State} (h : NOK U) : va_Nw (.methodLinkNest "TwoScribes$Page" 56 ⟨"TwoScribes", "at", "([II)I"⟩ "TwoScribes") U := h.2 ("TwoScribes$Page", 56, ⟨"TwoScribes", "at", "([II)I"⟩, "TwoScribes") (List.mem_of_getElem? (i := 10) rfl)
theorem nmTwoScribes_Page_60 {U : State} (h : NOK U) : va_Nw (.methodLinkNest "TwoScribes$Page" 60 ⟨"TwoScribes", "put", "([III)V"⟩ "TwoScribes") U := h.2 ("TwoScribes$Page", 60, ⟨"TwoScribes", "put", "([III)V"⟩, "TwoScribes") (List.mem_of_getElem? (i := 11) rfl)
theorem nmTwoScribes_State_100 {U : State} (h : NOK U) : va_Nw (.methodLinkNest "TwoScribes$State" 100 ⟨"TwoScribes", "at", "([II)I"⟩ "TwoScribes") U := h.2 ("TwoScribes$State", 100, ⟨"TwoScribes", "at", "([II)I"⟩, "TwoScribes") (List.mem_of_getElem? (i := 12) rfl)
theorem nmTwoScribes_State_119 {U : State} (h : NOK U) : va_Nw (.methodLinkNest "TwoScribes$State" 119 ⟨"TwoScribes", "inkFor", "(I)F"⟩ "TwoScribes") U := h.2 ("TwoScribes$State", 119, ⟨"TwoScribes", "inkFor", "(I)F"⟩, "TwoScribes") (List.mem_of_getElem? (i := 13) rfl)
theorem in0 : ∀ w ∈ wsX00, w ∈ GW := fun w h => List.mem_filter.mpr ⟨(by decide +kernel : ∀ w ∈ wsX00, w ∈ lw_tbl) w h, List.all_eq_true.mp (by decide +kernel : wsX00.all goodWord = true) w h⟩
theorem in1 : ∀ w ∈ wsX10, w ∈ GW := fun w h => List.mem_filter.mpr ⟨(by decide +kernel : ∀ w ∈ wsX10, w ∈ lw_tbl) w h, List.all_eq_true.mp (by decide +kernel : wsX10.all goodWord = true) w h⟩
theorem in2 : ∀ w ∈ wsX20, w ∈ GW := fun w h => List.mem_filter.mpr ⟨(by decide +kernel : ∀ w ∈ wsX20, w ∈ lw_tbl) w h, List.all_eq_true.mp (by decide +kernel : wsX20.all goodWord = true) w h⟩
theorem in3 : ∀ w ∈ wsX30, w ∈ GW := fun w h => List.mem_filter.mpr ⟨(by decide +kernel : ∀ w ∈ wsX30, w ∈ lw_tbl) w h, List.all_eq_true.mp (by decide +kernel : wsX30.all goodWord = true) w h⟩
theorem in4 : ∀ w ∈ wsX40, w ∈ GW := fun w h => List.mem_filter.mpr ⟨(by decide +kernel : ∀ w ∈ wsX40, w ∈ lw_tbl) w h, List.all_eq_true.mp (by decide +kernel : wsX40.all goodWord = true) w h⟩
theorem in5 : ∀ w ∈ wsX50, w ∈ GW := fun w h => List.mem_filter.mpr ⟨(by decide +kernel : ∀ w ∈ wsX50, w ∈ lw_tbl) w h, List.all_eq_true.mp (by decide +kernel : wsX50.all goodWord = true) w h⟩
theorem in6 : ∀ w ∈ wsX60, w ∈ GW := fun w h => List.mem_filter.mpr ⟨(by decide +kernel : ∀ w ∈ wsX60, w ∈ lw_tbl) w h, List.all_eq_true.mp (by decide +kernel : wsX60.all goodWord = true) w h⟩
end
section
/-! decode rows -/
theorem dX0_init_0 : decode cX0_init 0 = .ok (.aload_n 0, 1) := by decide +kernel
theorem dX0_init_1 : decode cX0_init 1 = .ok (.invokespecial 3, 3) := by decide +kernel
theorem dX0_init_4 : decode cX0_init 4 = .ok (.aload_n 0, 1) := by decide +kernel
theorem dX0_init_5 : decode cX0_init 5 = .ok (.iconst 4, 1) := by decide +kernel
theorem dX0_init_6 : decode cX0_init 6 = .ok (.anewarray 9, 3) := by decide +kernel
theorem dX0_init_9 : decode cX0_init 9 = .ok (.putfield 11, 3) := by decide +kernel
theorem dX0_init_12 : decode cX0_init 12 = .ok (.iconst 0, 1) := by decide +kernel
theorem dX0_init_13 : decode cX0_init 13 = .ok (.istore_n 1, 1) := by decide +kernel
theorem dX0_init_14 : decode cX0_init 14 = .ok (.iload_n 1, 1) := by decide +kernel
theorem dX0_init_15 : decode cX0_init 15 = .ok (.aload_n 0, 1) := by decide +kernel
theorem dX0_init_16 : decode cX0_init 16 = .ok (.getfield 11, 3) := by decide +kernel
theorem dX0_init_19 : decode cX0_init 19 = .ok (.arraylength, 1) := by decide +kernel
theorem dX0_init_20 : decode cX0_init 20 = .ok (.if_icmp .ge 22, 3) := by decide +kernel
theorem dX0_init_23 : decode cX0_init 23 = .ok (.aload_n 0, 1) := by decide +kernel
theorem dX0_init_24 : decode cX0_init 24 = .ok (.getfield 11, 3) := by decide +kernel
theorem dX0_init_27 : decode cX0_init 27 = .ok (.iload_n 1, 1) := by decide +kernel
theorem dX0_init_28 : decode cX0_init 28 = .ok (.new 9, 3) := by decide +kernel
theorem dX0_init_31 : decode cX0_init 31 = .ok (.dup, 1) := by decide +kernel
theorem dX0_init_32 : decode cX0_init 32 = .ok (.invokespecial 17, 3) := by decide +kernel
theorem dX0_init_35 : decode cX0_init 35 = .ok (.aastore, 1) := by decide +kernel
theorem dX0_init_36 : decode cX0_init 36 = .ok (.iinc 1 1, 3) := by decide +kernel
theorem dX0_init_39 : decode cX0_init 39 = .ok (.goto (-25), 3) := by decide +kernel
theorem dX0_init_42 : decode cX0_init 42 = .ok (.return_, 1) := by decide +kernel
theorem dX0_record_0 : decode cX0_record 0 = .ok (.aload_n 0, 1) := by decide +kernel
theorem dX0_record_1 : decode cX0_record 1 = .ok (.getfield 18, 3) := by decide +kernel
theorem dX0_record_4 : decode cX0_record 4 = .ok (.iconst 4, 1) := by decide +kernel
theorem dX0_record_5 : decode cX0_record 5 = .ok (.if_icmp .ne 25, 3) := by decide +kernel
theorem dX0_record_8 : decode cX0_record 8 = .ok (.aload_n 0, 1) := by decide +kernel
theorem dX0_record_9 : decode cX0_record 9 = .ok (.aload_n 0, 1) := by decide +kernel
theorem dX0_record_10 : decode cX0_record 10 = .ok (.getfield 22, 3) := by decide +kernel
theorem dX0_record_13 : decode cX0_record 13 = .ok (.iconst 1, 1) := by decide +kernel
theorem dX0_record_14 : decode cX0_record 14 = .ok (.iadd, 1) := by decide +kernel
theorem dX0_record_15 : decode cX0_record 15 = .ok (.iconst 4, 1) := by decide +kernel
theorem dX0_record_16 : decode cX0_record 16 = .ok (.irem, 1) := by decide +kernel
theorem dX0_record_17 : decode cX0_record 17 = .ok (.putfield 22, 3) := by decide +kernel
theorem dX0_record_20 : decode cX0_record 20 = .ok (.aload_n 0, 1) := by decide +kernel
theorem dX0_record_21 : decode cX0_record 21 = .ok (.dup, 1) := by decide +kernel
theorem dX0_record_22 : decode cX0_record 22 = .ok (.getfield 18, 3) := by decide +kernel
theorem dX0_record_25 : decode cX0_record 25 = .ok (.iconst 1, 1) := by decide +kernel
theorem dX0_record_26 : decode cX0_record 26 = .ok (.isub, 1) := by decide +kernel
theorem dX0_record_27 : decode cX0_record 27 = .ok (.putfield 18, 3) := by decide +kernel
theorem dX0_record_30 : decode cX0_record 30 = .ok (.aload_n 0, 1) := by decide +kernel
theorem dX0_record_31 : decode cX0_record 31 = .ok (.aload_n 0, 1) := by decide +kernel
theorem dX0_record_32 : decode cX0_record 32 = .ok (.getfield 18, 3) := by decide +kernel
theorem dX0_record_35 : decode cX0_record 35 = .ok (.invokevirtual 25, 3) := by decide +kernel
theorem dX0_record_38 : decode cX0_record 38 = .ok (.astore_n 2, 1) := by decide +kernel
theorem dX0_record_39 : decode cX0_record 39 = .ok (.aload_n 2, 1) := by decide +kernel
theorem dX0_record_40 : decode cX0_record 40 = .ok (.ifnull 18, 3) := by decide +kernel
theorem dX0_record_43 : decode cX0_record 43 = .ok (.aload_n 2, 1) := by decide +kernel
theorem dX0_record_44 : decode cX0_record 44 = .ok (.aload_n 1, 1) := by decide +kernel
theorem dX0_record_45 : decode cX0_record 45 = .ok (.invokevirtual 29, 3) := by decide +kernel
theorem dX0_record_48 : decode cX0_record 48 = .ok (.aload_n 0, 1) := by decide +kernel
theorem dX0_record_49 : decode cX0_record 49 = .ok (.dup, 1) := by decide +kernel
theorem dX0_record_50 : decode cX0_record 50 = .ok (.getfield 18, 3) := by decide +kernel
theorem dX0_record_53 : decode cX0_record 53 = .ok (.iconst 1, 1) := by decide +kernel
theorem dX0_record_54 : decode cX0_record 54 = .ok (.iadd, 1) := by decide +kernel
theorem dX0_record_55 : decode cX0_record 55 = .ok (.putfield 18, 3) := by decide +kernel
theorem dX0_record_58 : decode cX0_record 58 = .ok (.return_, 1) := by decide +kernel
theorem dX0_takeBack_0 : decode cX0_takeBack 0 = .ok (.aload_n 0, 1) := by decide +kernel
theorem dX0_takeBack_1 : decode cX0_takeBack 1 = .ok (.getfield 18, 3) := by decide +kernel
theorem dX0_takeBack_4 : decode cX0_takeBack 4 = .ok (.ifCond .ne 5, 3) := by decide +kernel
theorem dX0_takeBack_7 : decode cX0_takeBack 7 = .ok (.iconst 0, 1) := by decide +kernel
theorem dX0_takeBack_8 : decode cX0_takeBack 8 = .ok (.ireturn, 1) := by decide +kernel
theorem dX0_takeBack_9 : decode cX0_takeBack 9 = .ok (.aload_n 0, 1) := by decide +kernel
theorem dX0_takeBack_10 : decode cX0_takeBack 10 = .ok (.aload_n 0, 1) := by decide +kernel
theorem dX0_takeBack_11 : decode cX0_takeBack 11 = .ok (.getfield 18, 3) := by decide +kernel
theorem dX0_takeBack_14 : decode cX0_takeBack 14 = .ok (.iconst 1, 1) := by decide +kernel
theorem dX0_takeBack_15 : decode cX0_takeBack 15 = .ok (.isub, 1) := by decide +kernel
theorem dX0_takeBack_16 : decode cX0_takeBack 16 = .ok (.invokevirtual 25, 3) := by decide +kernel
theorem dX0_takeBack_19 : decode cX0_takeBack 19 = .ok (.astore_n 2, 1) := by decide +kernel
theorem dX0_takeBack_20 : decode cX0_takeBack 20 = .ok (.aload_n 2, 1) := by decide +kernel
theorem dX0_takeBack_21 : decode cX0_takeBack 21 = .ok (.ifnonnull 5, 3) := by decide +kernel
theorem dX0_takeBack_24 : decode cX0_takeBack 24 = .ok (.iconst 0, 1) := by decide +kernel
theorem dX0_takeBack_25 : decode cX0_takeBack 25 = .ok (.ireturn, 1) := by decide +kernel
theorem dX0_takeBack_26 : decode cX0_takeBack 26 = .ok (.aload_n 1, 1) := by decide +kernel
theorem dX0_takeBack_27 : decode cX0_takeBack 27 = .ok (.aload_n 2, 1) := by decide +kernel
theorem dX0_takeBack_28 : decode cX0_takeBack 28 = .ok (.invokevirtual 29, 3) := by decide +kernel
theorem dX0_takeBack_31 : decode cX0_takeBack 31 = .ok (.aload_n 0, 1) := by decide +kernel
theorem dX0_takeBack_32 : decode cX0_takeBack 32 = .ok (.dup, 1) := by decide +kernel
theorem dX0_takeBack_33 : decode cX0_takeBack 33 = .ok (.getfield 18, 3) := by decide +kernel
theorem dX0_takeBack_36 : decode cX0_takeBack 36 = .ok (.iconst 1, 1) := by decide +kernel
theorem dX0_takeBack_37 : decode cX0_takeBack 37 = .ok (.isub, 1) := by decide +kernel
theorem dX0_takeBack_38 : decode cX0_takeBack 38 = .ok (.putfield 18, 3) := by decide +kernel
theorem dX0_takeBack_41 : decode cX0_takeBack 41 = .ok (.iconst 1, 1) := by decide +kernel
theorem dX0_takeBack_42 : decode cX0_takeBack 42 = .ok (.ireturn, 1) := by decide +kernel
theorem dX0_stateAt_0 : decode cX0_stateAt 0 = .ok (.aload_n 0, 1) := by decide +kernel
theorem dX0_stateAt_1 : decode cX0_stateAt 1 = .ok (.getfield 22, 3) := by decide +kernel
theorem dX0_stateAt_4 : decode cX0_stateAt 4 = .ok (.iload_n 1, 1) := by decide +kernel
theorem dX0_stateAt_5 : decode cX0_stateAt 5 = .ok (.iadd, 1) := by decide +kernel
theorem dX0_stateAt_6 : decode cX0_stateAt 6 = .ok (.iconst 4, 1) := by decide +kernel
theorem dX0_stateAt_7 : decode cX0_stateAt 7 = .ok (.irem, 1) := by decide +kernel
theorem dX0_stateAt_8 : decode cX0_stateAt 8 = .ok (.istore_n 2, 1) := by decide +kernel
theorem dX0_stateAt_9 : decode cX0_stateAt 9 = .ok (.iload_n 2, 1) := by decide +kernel
theorem dX0_stateAt_10 : decode cX0_stateAt 10 = .ok (.ifCond .lt 21, 3) := by decide +kernel
theorem dX0_stateAt_13 : decode cX0_stateAt 13 = .ok (.iload_n 2, 1) := by decide +kernel
theorem dX0_stateAt_14 : decode cX0_stateAt 14 = .ok (.aload_n 0, 1) := by decide +kernel
theorem dX0_stateAt_15 : decode cX0_stateAt 15 = .ok (.getfield 11, 3) := by decide +kernel
theorem dX0_stateAt_18 : decode cX0_stateAt 18 = .ok (.arraylength, 1) := by decide +kernel
theorem dX0_stateAt_19 : decode cX0_stateAt 19 = .ok (.if_icmp .ge 12, 3) := by decide +kernel
theorem dX0_stateAt_22 : decode cX0_stateAt 22 = .ok (.aload_n 0, 1) := by decide +kernel
theorem dX0_stateAt_23 : decode cX0_stateAt 23 = .ok (.getfield 11, 3) := by decide +kernel
theorem dX0_stateAt_26 : decode cX0_stateAt 26 = .ok (.iload_n 2, 1) := by decide +kernel
theorem dX0_stateAt_27 : decode cX0_stateAt 27 = .ok (.aaload, 1) := by decide +kernel
theorem dX0_stateAt_28 : decode cX0_stateAt 28 = .ok (.goto 4, 3) := by decide +kernel
theorem dX0_stateAt_31 : decode cX0_stateAt 31 = .ok (.aconst_null, 1) := by decide +kernel
theorem dX0_stateAt_32 : decode cX0_stateAt 32 = .ok (.areturn, 1) := by decide +kernel
theorem dX1_init_0 : decode cX1_init 0 = .ok (.aload_n 0, 1) := by decide +kernel
theorem dX1_init_1 : decode cX1_init 1 = .ok (.invokespecial 3, 3) := by decide +kernel
theorem dX1_init_4 : decode cX1_init 4 = .ok (.aload_n 0, 1) := by decide +kernel
theorem dX1_init_5 : decode cX1_init 5 = .ok (.bipush 40, 2) := by decide +kernel
theorem dX1_init_7 : decode cX1_init 7 = .ok (.newarray .int, 2) := by decide +kernel
theorem dX1_init_9 : decode cX1_init 9 = .ok (.putfield 9, 3) := by decide +kernel
theorem dX1_init_12 : decode cX1_init 12 = .ok (.aload_n 0, 1) := by decide +kernel
theorem dX1_init_13 : decode cX1_init 13 = .ok (.bipush 40, 2) := by decide +kernel
theorem dX1_init_15 : decode cX1_init 15 = .ok (.newarray .int, 2) := by decide +kernel
theorem dX1_init_17 : decode cX1_init 17 = .ok (.putfield 15, 3) := by decide +kernel
theorem dX1_init_20 : decode cX1_init 20 = .ok (.aload_n 0, 1) := by decide +kernel
theorem dX1_init_21 : decode cX1_init 21 = .ok (.bipush 40, 2) := by decide +kernel
theorem dX1_init_23 : decode cX1_init 23 = .ok (.newarray .int, 2) := by decide +kernel
theorem dX1_init_25 : decode cX1_init 25 = .ok (.putfield 18, 3) := by decide +kernel
theorem dX1_init_28 : decode cX1_init 28 = .ok (.aload_n 0, 1) := by decide +kernel
theorem dX1_init_29 : decode cX1_init 29 = .ok (.bipush 40, 2) := by decide +kernel
theorem dX1_init_31 : decode cX1_init 31 = .ok (.newarray .int, 2) := by decide +kernel
theorem dX1_init_33 : decode cX1_init 33 = .ok (.putfield 21, 3) := by decide +kernel
theorem dX1_init_36 : decode cX1_init 36 = .ok (.aload_n 0, 1) := by decide +kernel
theorem dX1_init_37 : decode cX1_init 37 = .ok (.bipush 40, 2) := by decide +kernel
theorem dX1_init_39 : decode cX1_init 39 = .ok (.newarray .int, 2) := by decide +kernel
theorem dX1_init_41 : decode cX1_init 41 = .ok (.putfield 24, 3) := by decide +kernel
theorem dX1_init_44 : decode cX1_init 44 = .ok (.aload_n 0, 1) := by decide +kernel
theorem dX1_init_45 : decode cX1_init 45 = .ok (.bipush 40, 2) := by decide +kernel
theorem dX1_init_47 : decode cX1_init 47 = .ok (.newarray .int, 2) := by decide +kernel
theorem dX1_init_49 : decode cX1_init 49 = .ok (.putfield 27, 3) := by decide +kernel
theorem dX1_init_52 : decode cX1_init 52 = .ok (.return_, 1) := by decide +kernel
theorem dX1_copyFrom_0 : decode cX1_copyFrom 0 = .ok (.aload_n 1, 1) := by decide +kernel
theorem dX1_copyFrom_1 : decode cX1_copyFrom 1 = .ok (.getfield 9, 3) := by decide +kernel
theorem dX1_copyFrom_4 : decode cX1_copyFrom 4 = .ok (.aload_n 0, 1) := by decide +kernel
theorem dX1_copyFrom_5 : decode cX1_copyFrom 5 = .ok (.getfield 9, 3) := by decide +kernel
theorem dX1_copyFrom_8 : decode cX1_copyFrom 8 = .ok (.invokestatic 30, 3) := by decide +kernel
theorem dX1_copyFrom_11 : decode cX1_copyFrom 11 = .ok (.aload_n 1, 1) := by decide +kernel
theorem dX1_copyFrom_12 : decode cX1_copyFrom 12 = .ok (.getfield 15, 3) := by decide +kernel
theorem dX1_copyFrom_15 : decode cX1_copyFrom 15 = .ok (.aload_n 0, 1) := by decide +kernel
theorem dX1_copyFrom_16 : decode cX1_copyFrom 16 = .ok (.getfield 15, 3) := by decide +kernel
theorem dX1_copyFrom_19 : decode cX1_copyFrom 19 = .ok (.invokestatic 30, 3) := by decide +kernel
theorem dX1_copyFrom_22 : decode cX1_copyFrom 22 = .ok (.aload_n 1, 1) := by decide +kernel
theorem dX1_copyFrom_23 : decode cX1_copyFrom 23 = .ok (.getfield 18, 3) := by decide +kernel
theorem dX1_copyFrom_26 : decode cX1_copyFrom 26 = .ok (.aload_n 0, 1) := by decide +kernel
theorem dX1_copyFrom_27 : decode cX1_copyFrom 27 = .ok (.getfield 18, 3) := by decide +kernel
theorem dX1_copyFrom_30 : decode cX1_copyFrom 30 = .ok (.invokestatic 30, 3) := by decide +kernel
theorem dX1_copyFrom_33 : decode cX1_copyFrom 33 = .ok (.aload_n 1, 1) := by decide +kernel
theorem dX1_copyFrom_34 : decode cX1_copyFrom 34 = .ok (.getfield 21, 3) := by decide +kernel
theorem dX1_copyFrom_37 : decode cX1_copyFrom 37 = .ok (.aload_n 0, 1) := by decide +kernel
theorem dX1_copyFrom_38 : decode cX1_copyFrom 38 = .ok (.getfield 21, 3) := by decide +kernel
theorem dX1_copyFrom_41 : decode cX1_copyFrom 41 = .ok (.invokestatic 30, 3) := by decide +kernel
theorem dX1_copyFrom_44 : decode cX1_copyFrom 44 = .ok (.aload_n 1, 1) := by decide +kernel
theorem dX1_copyFrom_45 : decode cX1_copyFrom 45 = .ok (.getfield 24, 3) := by decide +kernel
theorem dX1_copyFrom_48 : decode cX1_copyFrom 48 = .ok (.aload_n 0, 1) := by decide +kernel
theorem dX1_copyFrom_49 : decode cX1_copyFrom 49 = .ok (.getfield 24, 3) := by decide +kernel
theorem dX1_copyFrom_52 : decode cX1_copyFrom 52 = .ok (.invokestatic 30, 3) := by decide +kernel
theorem dX1_copyFrom_55 : decode cX1_copyFrom 55 = .ok (.aload_n 1, 1) := by decide +kernel
theorem dX1_copyFrom_56 : decode cX1_copyFrom 56 = .ok (.getfield 27, 3) := by decide +kernel
theorem dX1_copyFrom_59 : decode cX1_copyFrom 59 = .ok (.aload_n 0, 1) := by decide +kernel
theorem dX1_copyFrom_60 : decode cX1_copyFrom 60 = .ok (.getfield 27, 3) := by decide +kernel
theorem dX1_copyFrom_63 : decode cX1_copyFrom 63 = .ok (.invokestatic 30, 3) := by decide +kernel
theorem dX1_copyFrom_66 : decode cX1_copyFrom 66 = .ok (.aload_n 0, 1) := by decide +kernel
theorem dX1_copyFrom_67 : decode cX1_copyFrom 67 = .ok (.aload_n 1, 1) := by decide +kernel
theorem dX1_copyFrom_68 : decode cX1_copyFrom 68 = .ok (.getfield 34, 3) := by decide +kernel
theorem dX1_copyFrom_71 : decode cX1_copyFrom 71 = .ok (.putfield 34, 3) := by decide +kernel
theorem dX1_copyFrom_74 : decode cX1_copyFrom 74 = .ok (.aload_n 0, 1) := by decide +kernel
theorem dX1_copyFrom_75 : decode cX1_copyFrom 75 = .ok (.aload_n 1, 1) := by decide +kernel
theorem dX1_copyFrom_76 : decode cX1_copyFrom 76 = .ok (.getfield 38, 3) := by decide +kernel
theorem dX1_copyFrom_79 : decode cX1_copyFrom 79 = .ok (.putfield 38, 3) := by decide +kernel
theorem dX1_copyFrom_82 : decode cX1_copyFrom 82 = .ok (.return_, 1) := by decide +kernel
theorem dX1_begin_0 : decode cX1_begin 0 = .ok (.aload_n 0, 1) := by decide +kernel
theorem dX1_begin_1 : decode cX1_begin 1 = .ok (.iconst 2, 1) := by decide +kernel
theorem dX1_begin_2 : decode cX1_begin 2 = .ok (.aload_n 1, 1) := by decide +kernel
theorem dX1_begin_3 : decode cX1_begin 3 = .ok (.getfield 41, 3) := by decide +kernel
theorem dX1_begin_6 : decode cX1_begin 6 = .ok (.imul, 1) := by decide +kernel
theorem dX1_begin_7 : decode cX1_begin 7 = .ok (.putfield 34, 3) := by decide +kernel
theorem dX1_begin_10 : decode cX1_begin 10 = .ok (.aload_n 0, 1) := by decide +kernel
theorem dX1_begin_11 : decode cX1_begin 11 = .ok (.iconst 0, 1) := by decide +kernel
theorem dX1_begin_12 : decode cX1_begin 12 = .ok (.putfield 38, 3) := by decide +kernel
theorem dX1_begin_15 : decode cX1_begin 15 = .ok (.aload_n 0, 1) := by decide +kernel
theorem dX1_begin_16 : decode cX1_begin 16 = .ok (.getfield 18, 3) := by decide +kernel
theorem dX1_begin_19 : decode cX1_begin 19 = .ok (.invokestatic 46, 3) := by decide +kernel
theorem dX1_begin_22 : decode cX1_begin 22 = .ok (.aload_n 0, 1) := by decide +kernel
theorem dX1_begin_23 : decode cX1_begin 23 = .ok (.getfield 21, 3) := by decide +kernel
theorem dX1_begin_26 : decode cX1_begin 26 = .ok (.invokestatic 46, 3) := by decide +kernel
theorem dX1_begin_29 : decode cX1_begin 29 = .ok (.aload_n 0, 1) := by decide +kernel
theorem dX1_begin_30 : decode cX1_begin 30 = .ok (.getfield 24, 3) := by decide +kernel
theorem dX1_begin_33 : decode cX1_begin 33 = .ok (.invokestatic 46, 3) := by decide +kernel
theorem dX1_begin_36 : decode cX1_begin 36 = .ok (.aload_n 0, 1) := by decide +kernel
theorem dX1_begin_37 : decode cX1_begin 37 = .ok (.getfield 27, 3) := by decide +kernel
theorem dX1_begin_40 : decode cX1_begin 40 = .ok (.invokestatic 46, 3) := by decide +kernel
theorem dX1_begin_43 : decode cX1_begin 43 = .ok (.aload_n 1, 1) := by decide +kernel
theorem dX1_begin_44 : decode cX1_begin 44 = .ok (.getfield 50, 3) := by decide +kernel
theorem dX1_begin_47 : decode cX1_begin 47 = .ok (.aload_n 0, 1) := by decide +kernel
theorem dX1_begin_48 : decode cX1_begin 48 = .ok (.getfield 15, 3) := by decide +kernel
theorem dX1_begin_51 : decode cX1_begin 51 = .ok (.invokestatic 30, 3) := by decide +kernel
theorem dX1_begin_54 : decode cX1_begin 54 = .ok (.iconst 0, 1) := by decide +kernel
theorem dX1_begin_55 : decode cX1_begin 55 = .ok (.istore_n 2, 1) := by decide +kernel
theorem dX1_begin_56 : decode cX1_begin 56 = .ok (.iload_n 2, 1) := by decide +kernel
theorem dX1_begin_57 : decode cX1_begin 57 = .ok (.aload_n 1, 1) := by decide +kernel
theorem dX1_begin_58 : decode cX1_begin 58 = .ok (.getfield 41, 3) := by decide +kernel
theorem dX1_begin_61 : decode cX1_begin 61 = .ok (.if_icmp .ge 40, 3) := by decide +kernel
theorem dX1_begin_64 : decode cX1_begin 64 = .ok (.aload_n 1, 1) := by decide +kernel
theorem dX1_begin_65 : decode cX1_begin 65 = .ok (.getfield 53, 3) := by decide +kernel
theorem dX1_begin_68 : decode cX1_begin 68 = .ok (.iload_n 2, 1) := by decide +kernel
theorem dX1_begin_69 : decode cX1_begin 69 = .ok (.invokestatic 56, 3) := by decide +kernel
theorem dX1_begin_72 : decode cX1_begin 72 = .ok (.istore_n 3, 1) := by decide +kernel
theorem dX1_begin_73 : decode cX1_begin 73 = .ok (.aload_n 0, 1) := by decide +kernel
theorem dX1_begin_74 : decode cX1_begin 74 = .ok (.getfield 9, 3) := by decide +kernel
theorem dX1_begin_77 : decode cX1_begin 77 = .ok (.iload_n 2, 1) := by decide +kernel
theorem dX1_begin_78 : decode cX1_begin 78 = .ok (.iload_n 3, 1) := by decide +kernel
theorem dX1_begin_79 : decode cX1_begin 79 = .ok (.invokestatic 60, 3) := by decide +kernel
theorem dX1_begin_82 : decode cX1_begin 82 = .ok (.aload_n 0, 1) := by decide +kernel
theorem dX1_begin_83 : decode cX1_begin 83 = .ok (.getfield 9, 3) := by decide +kernel
theorem dX1_begin_86 : decode cX1_begin 86 = .ok (.aload_n 0, 1) := by decide +kernel
theorem dX1_begin_87 : decode cX1_begin 87 = .ok (.iload_n 2, 1) := by decide +kernel
theorem dX1_begin_88 : decode cX1_begin 88 = .ok (.invokevirtual 64, 3) := by decide +kernel
theorem dX1_begin_91 : decode cX1_begin 91 = .ok (.iload_n 3, 1) := by decide +kernel
theorem dX1_begin_92 : decode cX1_begin 92 = .ok (.invokestatic 60, 3) := by decide +kernel
theorem dX1_begin_95 : decode cX1_begin 95 = .ok (.iinc 2 1, 3) := by decide +kernel
theorem dX1_begin_98 : decode cX1_begin 98 = .ok (.goto (-42), 3) := by decide +kernel
theorem dX1_begin_101 : decode cX1_begin 101 = .ok (.return_, 1) := by decide +kernel
theorem dX1_has_0 : decode cX1_has 0 = .ok (.iload_n 1, 1) := by decide +kernel
theorem dX1_has_1 : decode cX1_has 1 = .ok (.ifCond .lt 15, 3) := by decide +kernel
theorem dX1_has_4 : decode cX1_has 4 = .ok (.iload_n 1, 1) := by decide +kernel
theorem dX1_has_5 : decode cX1_has 5 = .ok (.aload_n 0, 1) := by decide +kernel
theorem dX1_has_6 : decode cX1_has 6 = .ok (.getfield 34, 3) := by decide +kernel
theorem dX1_has_9 : decode cX1_has 9 = .ok (.if_icmp .ge 7, 3) := by decide +kernel
theorem dX1_has_12 : decode cX1_has 12 = .ok (.iconst 1, 1) := by decide +kernel
theorem dX1_has_13 : decode cX1_has 13 = .ok (.goto 4, 3) := by decide +kernel
theorem dX1_has_16 : decode cX1_has 16 = .ok (.iconst 0, 1) := by decide +kernel
theorem dX1_has_17 : decode cX1_has 17 = .ok (.ireturn, 1) := by decide +kernel
theorem dX1_mirrorOf_0 : decode cX1_mirrorOf 0 = .ok (.aload_n 0, 1) := by decide +kernel
theorem dX1_mirrorOf_1 : decode cX1_mirrorOf 1 = .ok (.getfield 34, 3) := by decide +kernel
theorem dX1_mirrorOf_4 : decode cX1_mirrorOf 4 = .ok (.iconst 1, 1) := by decide +kernel
theorem dX1_mirrorOf_5 : decode cX1_mirrorOf 5 = .ok (.isub, 1) := by decide +kernel
theorem dX1_mirrorOf_6 : decode cX1_mirrorOf 6 = .ok (.iload_n 1, 1) := by decide +kernel
theorem dX1_mirrorOf_7 : decode cX1_mirrorOf 7 = .ok (.isub, 1) := by decide +kernel
theorem dX1_mirrorOf_8 : decode cX1_mirrorOf 8 = .ok (.ireturn, 1) := by decide +kernel
theorem dX1_letterFor_0 : decode cX1_letterFor 0 = .ok (.aload_n 0, 1) := by decide +kernel
theorem dX1_letterFor_1 : decode cX1_letterFor 1 = .ok (.getfield 15, 3) := by decide +kernel
theorem dX1_letterFor_4 : decode cX1_letterFor 4 = .ok (.iload_n 1, 1) := by decide +kernel
theorem dX1_letterFor_5 : decode cX1_letterFor 5 = .ok (.invokestatic 56, 3) := by decide +kernel
theorem dX1_letterFor_8 : decode cX1_letterFor 8 = .ok (.istore_n 2, 1) := by decide +kernel
theorem dX1_letterFor_9 : decode cX1_letterFor 9 = .ok (.iload_n 2, 1) := by decide +kernel
theorem dX1_letterFor_10 : decode cX1_letterFor 10 = .ok (.ifCond .eq 7, 3) := by decide +kernel
theorem dX1_letterFor_13 : decode cX1_letterFor 13 = .ok (.iload_n 2, 1) := by decide +kernel
theorem dX1_letterFor_14 : decode cX1_letterFor 14 = .ok (.goto 11, 3) := by decide +kernel
theorem dX1_letterFor_17 : decode cX1_letterFor 17 = .ok (.aload_n 0, 1) := by decide +kernel
theorem dX1_letterFor_18 : decode cX1_letterFor 18 = .ok (.getfield 9, 3) := by decide +kernel
theorem dX1_letterFor_21 : decode cX1_letterFor 21 = .ok (.iload_n 1, 1) := by decide +kernel
theorem dX1_letterFor_22 : decode cX1_letterFor 22 = .ok (.invokestatic 56, 3) := by decide +kernel
theorem dX1_letterFor_25 : decode cX1_letterFor 25 = .ok (.ireturn, 1) := by decide +kernel
theorem dX1_isWritten_0 : decode cX1_isWritten 0 = .ok (.aload_n 0, 1) := by decide +kernel
theorem dX1_isWritten_1 : decode cX1_isWritten 1 = .ok (.getfield 18, 3) := by decide +kernel
theorem dX1_isWritten_4 : decode cX1_isWritten 4 = .ok (.iload_n 1, 1) := by decide +kernel
theorem dX1_isWritten_5 : decode cX1_isWritten 5 = .ok (.invokestatic 56, 3) := by decide +kernel
theorem dX1_isWritten_8 : decode cX1_isWritten 8 = .ok (.ifCond .eq 7, 3) := by decide +kernel
theorem dX1_isWritten_11 : decode cX1_isWritten 11 = .ok (.iconst 1, 1) := by decide +kernel
theorem dX1_isWritten_12 : decode cX1_isWritten 12 = .ok (.goto 4, 3) := by decide +kernel
theorem dX1_isWritten_15 : decode cX1_isWritten 15 = .ok (.iconst 0, 1) := by decide +kernel
theorem dX1_isWritten_16 : decode cX1_isWritten 16 = .ok (.ireturn, 1) := by decide +kernel
theorem dX1_isFaultless_0 : decode cX1_isFaultless 0 = .ok (.aload_n 0, 1) := by decide +kernel
theorem dX1_isFaultless_1 : decode cX1_isFaultless 1 = .ok (.getfield 18, 3) := by decide +kernel
theorem dX1_isFaultless_4 : decode cX1_isFaultless 4 = .ok (.iload_n 1, 1) := by decide +kernel
theorem dX1_isFaultless_5 : decode cX1_isFaultless 5 = .ok (.invokestatic 56, 3) := by decide +kernel
theorem dX1_isFaultless_8 : decode cX1_isFaultless 8 = .ok (.aload_n 0, 1) := by decide +kernel
theorem dX1_isFaultless_9 : decode cX1_isFaultless 9 = .ok (.getfield 9, 3) := by decide +kernel
theorem dX1_isFaultless_12 : decode cX1_isFaultless 12 = .ok (.iload_n 1, 1) := by decide +kernel
theorem dX1_isFaultless_13 : decode cX1_isFaultless 13 = .ok (.invokestatic 56, 3) := by decide +kernel
theorem dX1_isFaultless_16 : decode cX1_isFaultless 16 = .ok (.if_icmp .ne 18, 3) := by decide +kernel
theorem dX1_isFaultless_19 : decode cX1_isFaultless 19 = .ok (.aload_n 0, 1) := by decide +kernel
theorem dX1_isFaultless_20 : decode cX1_isFaultless 20 = .ok (.getfield 24, 3) := by decide +kernel
theorem dX1_isFaultless_23 : decode cX1_isFaultless 23 = .ok (.iload_n 1, 1) := by decide +kernel
theorem dX1_isFaultless_24 : decode cX1_isFaultless 24 = .ok (.invokestatic 56, 3) := by decide +kernel
theorem dX1_isFaultless_27 : decode cX1_isFaultless 27 = .ok (.ifCond .ne 7, 3) := by decide +kernel
theorem dX1_isFaultless_30 : decode cX1_isFaultless 30 = .ok (.iconst 1, 1) := by decide +kernel
theorem dX1_isFaultless_31 : decode cX1_isFaultless 31 = .ok (.goto 4, 3) := by decide +kernel
theorem dX1_isFaultless_34 : decode cX1_isFaultless 34 = .ok (.iconst 0, 1) := by decide +kernel
theorem dX1_isFaultless_35 : decode cX1_isFaultless 35 = .ok (.ireturn, 1) := by decide +kernel
theorem dX1_areUnlike_0 : decode cX1_areUnlike 0 = .ok (.aload_n 0, 1) := by decide +kernel
theorem dX1_areUnlike_1 : decode cX1_areUnlike 1 = .ok (.iload_n 1, 1) := by decide +kernel
theorem dX1_areUnlike_2 : decode cX1_areUnlike 2 = .ok (.invokevirtual 68, 3) := by decide +kernel
theorem dX1_areUnlike_5 : decode cX1_areUnlike 5 = .ok (.ifCond .eq 34, 3) := by decide +kernel
theorem dX1_areUnlike_8 : decode cX1_areUnlike 8 = .ok (.aload_n 0, 1) := by decide +kernel
theorem dX1_areUnlike_9 : decode cX1_areUnlike 9 = .ok (.iload_n 2, 1) := by decide +kernel
theorem dX1_areUnlike_10 : decode cX1_areUnlike 10 = .ok (.invokevirtual 68, 3) := by decide +kernel
theorem dX1_areUnlike_13 : decode cX1_areUnlike 13 = .ok (.ifCond .eq 26, 3) := by decide +kernel
theorem dX1_areUnlike_16 : decode cX1_areUnlike 16 = .ok (.aload_n 0, 1) := by decide +kernel
theorem dX1_areUnlike_17 : decode cX1_areUnlike 17 = .ok (.getfield 18, 3) := by decide +kernel
theorem dX1_areUnlike_20 : decode cX1_areUnlike 20 = .ok (.iload_n 1, 1) := by decide +kernel
theorem dX1_areUnlike_21 : decode cX1_areUnlike 21 = .ok (.invokestatic 56, 3) := by decide +kernel
theorem dX1_areUnlike_24 : decode cX1_areUnlike 24 = .ok (.aload_n 0, 1) := by decide +kernel
theorem dX1_areUnlike_25 : decode cX1_areUnlike 25 = .ok (.getfield 18, 3) := by decide +kernel
theorem dX1_areUnlike_28 : decode cX1_areUnlike 28 = .ok (.iload_n 2, 1) := by decide +kernel
theorem dX1_areUnlike_29 : decode cX1_areUnlike 29 = .ok (.invokestatic 56, 3) := by decide +kernel
theorem dX1_areUnlike_32 : decode cX1_areUnlike 32 = .ok (.if_icmp .eq 7, 3) := by decide +kernel
theorem dX1_areUnlike_35 : decode cX1_areUnlike 35 = .ok (.iconst 1, 1) := by decide +kernel
theorem dX1_areUnlike_36 : decode cX1_areUnlike 36 = .ok (.goto 4, 3) := by decide +kernel
theorem dX1_areUnlike_39 : decode cX1_areUnlike 39 = .ok (.iconst 0, 1) := by decide +kernel
theorem dX1_areUnlike_40 : decode cX1_areUnlike 40 = .ok (.ireturn, 1) := by decide +kernel
theorem dX1_write_0 : decode cX1_write 0 = .ok (.aload_n 0, 1) := by decide +kernel
theorem dX1_write_1 : decode cX1_write 1 = .ok (.getfield 18, 3) := by decide +kernel
theorem dX1_write_4 : decode cX1_write 4 = .ok (.iload_n 1, 1) := by decide +kernel
theorem dX1_write_5 : decode cX1_write 5 = .ok (.iload_n 2, 1) := by decide +kernel
theorem dX1_write_6 : decode cX1_write 6 = .ok (.invokestatic 60, 3) := by decide +kernel
theorem dX1_write_9 : decode cX1_write 9 = .ok (.aload_n 0, 1) := by decide +kernel
theorem dX1_write_10 : decode cX1_write 10 = .ok (.getfield 24, 3) := by decide +kernel
theorem dX1_write_13 : decode cX1_write 13 = .ok (.iload_n 1, 1) := by decide +kernel
theorem dX1_write_14 : decode cX1_write 14 = .ok (.iload_n 3, 1) := by decide +kernel
theorem dX1_write_15 : decode cX1_write 15 = .ok (.ifCond .eq 7, 3) := by decide +kernel
theorem dX1_write_18 : decode cX1_write 18 = .ok (.iconst 1, 1) := by decide +kernel
theorem dX1_write_19 : decode cX1_write 19 = .ok (.goto 4, 3) := by decide +kernel
theorem dX1_write_22 : decode cX1_write 22 = .ok (.iconst 0, 1) := by decide +kernel
theorem dX1_write_23 : decode cX1_write 23 = .ok (.invokestatic 60, 3) := by decide +kernel
theorem dX1_write_26 : decode cX1_write 26 = .ok (.aload_n 0, 1) := by decide +kernel
theorem dX1_write_27 : decode cX1_write 27 = .ok (.getfield 21, 3) := by decide +kernel
theorem dX1_write_30 : decode cX1_write 30 = .ok (.iload_n 1, 1) := by decide +kernel
theorem dX1_write_31 : decode cX1_write 31 = .ok (.iload 4, 2) := by decide +kernel
theorem dX1_write_33 : decode cX1_write 33 = .ok (.invokestatic 60, 3) := by decide +kernel
theorem dX1_write_36 : decode cX1_write 36 = .ok (.return_, 1) := by decide +kernel
theorem dX1_amend_0 : decode cX1_amend 0 = .ok (.aload_n 0, 1) := by decide +kernel
theorem dX1_amend_1 : decode cX1_amend 1 = .ok (.getfield 18, 3) := by decide +kernel
theorem dX1_amend_4 : decode cX1_amend 4 = .ok (.iload_n 1, 1) := by decide +kernel
theorem dX1_amend_5 : decode cX1_amend 5 = .ok (.aload_n 0, 1) := by decide +kernel
theorem dX1_amend_6 : decode cX1_amend 6 = .ok (.getfield 9, 3) := by decide +kernel
theorem dX1_amend_9 : decode cX1_amend 9 = .ok (.iload_n 1, 1) := by decide +kernel
theorem dX1_amend_10 : decode cX1_amend 10 = .ok (.invokestatic 56, 3) := by decide +kernel
theorem dX1_amend_13 : decode cX1_amend 13 = .ok (.invokestatic 60, 3) := by decide +kernel
theorem dX1_amend_16 : decode cX1_amend 16 = .ok (.aload_n 0, 1) := by decide +kernel
theorem dX1_amend_17 : decode cX1_amend 17 = .ok (.getfield 24, 3) := by decide +kernel
theorem dX1_amend_20 : decode cX1_amend 20 = .ok (.iload_n 1, 1) := by decide +kernel
theorem dX1_amend_21 : decode cX1_amend 21 = .ok (.iconst 0, 1) := by decide +kernel
theorem dX1_amend_22 : decode cX1_amend 22 = .ok (.invokestatic 60, 3) := by decide +kernel
theorem dX1_amend_25 : decode cX1_amend 25 = .ok (.aload_n 0, 1) := by decide +kernel
theorem dX1_amend_26 : decode cX1_amend 26 = .ok (.getfield 27, 3) := by decide +kernel
theorem dX1_amend_29 : decode cX1_amend 29 = .ok (.iload_n 1, 1) := by decide +kernel
theorem dX1_amend_30 : decode cX1_amend 30 = .ok (.iconst 1, 1) := by decide +kernel
theorem dX1_amend_31 : decode cX1_amend 31 = .ok (.invokestatic 60, 3) := by decide +kernel
theorem dX1_amend_34 : decode cX1_amend 34 = .ok (.aload_n 0, 1) := by decide +kernel
theorem dX1_amend_35 : decode cX1_amend 35 = .ok (.dup, 1) := by decide +kernel
theorem dX1_amend_36 : decode cX1_amend 36 = .ok (.getfield 38, 3) := by decide +kernel
theorem dX1_amend_39 : decode cX1_amend 39 = .ok (.iconst 1, 1) := by decide +kernel
theorem dX1_amend_40 : decode cX1_amend 40 = .ok (.iadd, 1) := by decide +kernel
theorem dX1_amend_41 : decode cX1_amend 41 = .ok (.putfield 38, 3) := by decide +kernel
theorem dX1_amend_44 : decode cX1_amend 44 = .ok (.return_, 1) := by decide +kernel
theorem dX1_countBlots_0 : decode cX1_countBlots 0 = .ok (.iconst 0, 1) := by decide +kernel
theorem dX1_countBlots_1 : decode cX1_countBlots 1 = .ok (.istore_n 1, 1) := by decide +kernel
theorem dX1_countBlots_2 : decode cX1_countBlots 2 = .ok (.iconst 0, 1) := by decide +kernel
theorem dX1_countBlots_3 : decode cX1_countBlots 3 = .ok (.istore_n 2, 1) := by decide +kernel
theorem dX1_countBlots_4 : decode cX1_countBlots 4 = .ok (.iload_n 2, 1) := by decide +kernel
theorem dX1_countBlots_5 : decode cX1_countBlots 5 = .ok (.aload_n 0, 1) := by decide +kernel
theorem dX1_countBlots_6 : decode cX1_countBlots 6 = .ok (.getfield 34, 3) := by decide +kernel
theorem dX1_countBlots_9 : decode cX1_countBlots 9 = .ok (.if_icmp .ge 20, 3) := by decide +kernel
theorem dX1_countBlots_12 : decode cX1_countBlots 12 = .ok (.iload_n 1, 1) := by decide +kernel
theorem dX1_countBlots_13 : decode cX1_countBlots 13 = .ok (.aload_n 0, 1) := by decide +kernel
theorem dX1_countBlots_14 : decode cX1_countBlots 14 = .ok (.getfield 24, 3) := by decide +kernel
theorem dX1_countBlots_17 : decode cX1_countBlots 17 = .ok (.iload_n 2, 1) := by decide +kernel
theorem dX1_countBlots_18 : decode cX1_countBlots 18 = .ok (.invokestatic 56, 3) := by decide +kernel
theorem dX1_countBlots_21 : decode cX1_countBlots 21 = .ok (.iadd, 1) := by decide +kernel
theorem dX1_countBlots_22 : decode cX1_countBlots 22 = .ok (.istore_n 1, 1) := by decide +kernel
theorem dX1_countBlots_23 : decode cX1_countBlots 23 = .ok (.iinc 2 1, 3) := by decide +kernel
theorem dX1_countBlots_26 : decode cX1_countBlots 26 = .ok (.goto (-22), 3) := by decide +kernel
theorem dX1_countBlots_29 : decode cX1_countBlots 29 = .ok (.iload_n 1, 1) := by decide +kernel
theorem dX1_countBlots_30 : decode cX1_countBlots 30 = .ok (.ireturn, 1) := by decide +kernel
theorem dX1_countNotDue_0 : decode cX1_countNotDue 0 = .ok (.iconst 0, 1) := by decide +kernel
theorem dX1_countNotDue_1 : decode cX1_countNotDue 1 = .ok (.istore_n 1, 1) := by decide +kernel
theorem dX1_countNotDue_2 : decode cX1_countNotDue 2 = .ok (.iconst 0, 1) := by decide +kernel
theorem dX1_countNotDue_3 : decode cX1_countNotDue 3 = .ok (.istore_n 2, 1) := by decide +kernel
theorem dX1_countNotDue_4 : decode cX1_countNotDue 4 = .ok (.iload_n 2, 1) := by decide +kernel
theorem dX1_countNotDue_5 : decode cX1_countNotDue 5 = .ok (.aload_n 0, 1) := by decide +kernel
theorem dX1_countNotDue_6 : decode cX1_countNotDue 6 = .ok (.getfield 34, 3) := by decide +kernel
theorem dX1_countNotDue_9 : decode cX1_countNotDue 9 = .ok (.if_icmp .ge 39, 3) := by decide +kernel
theorem dX1_countNotDue_12 : decode cX1_countNotDue 12 = .ok (.aload_n 0, 1) := by decide +kernel
theorem dX1_countNotDue_13 : decode cX1_countNotDue 13 = .ok (.iload_n 2, 1) := by decide +kernel
theorem dX1_countNotDue_14 : decode cX1_countNotDue 14 = .ok (.invokevirtual 68, 3) := by decide +kernel
theorem dX1_countNotDue_17 : decode cX1_countNotDue 17 = .ok (.ifCond .eq 25, 3) := by decide +kernel
theorem dX1_countNotDue_20 : decode cX1_countNotDue 20 = .ok (.aload_n 0, 1) := by decide +kernel
theorem dX1_countNotDue_21 : decode cX1_countNotDue 21 = .ok (.getfield 18, 3) := by decide +kernel
theorem dX1_countNotDue_24 : decode cX1_countNotDue 24 = .ok (.iload_n 2, 1) := by decide +kernel
theorem dX1_countNotDue_25 : decode cX1_countNotDue 25 = .ok (.invokestatic 56, 3) := by decide +kernel
theorem dX1_countNotDue_28 : decode cX1_countNotDue 28 = .ok (.aload_n 0, 1) := by decide +kernel
theorem dX1_countNotDue_29 : decode cX1_countNotDue 29 = .ok (.getfield 9, 3) := by decide +kernel
theorem dX1_countNotDue_32 : decode cX1_countNotDue 32 = .ok (.iload_n 2, 1) := by decide +kernel
theorem dX1_countNotDue_33 : decode cX1_countNotDue 33 = .ok (.invokestatic 56, 3) := by decide +kernel
theorem dX1_countNotDue_36 : decode cX1_countNotDue 36 = .ok (.if_icmp .eq 6, 3) := by decide +kernel
theorem dX1_countNotDue_39 : decode cX1_countNotDue 39 = .ok (.iinc 1 1, 3) := by decide +kernel
theorem dX1_countNotDue_42 : decode cX1_countNotDue 42 = .ok (.iinc 2 1, 3) := by decide +kernel
theorem dX1_countNotDue_45 : decode cX1_countNotDue 45 = .ok (.goto (-41), 3) := by decide +kernel
theorem dX1_countNotDue_48 : decode cX1_countNotDue 48 = .ok (.iload_n 1, 1) := by decide +kernel
theorem dX1_countNotDue_49 : decode cX1_countNotDue 49 = .ok (.ireturn, 1) := by decide +kernel
theorem dX2_init_0 : decode cX2_init 0 = .ok (.aload_n 0, 1) := by decide +kernel
theorem dX2_init_1 : decode cX2_init 1 = .ok (.invokespecial 3, 3) := by decide +kernel
theorem dX2_init_4 : decode cX2_init 4 = .ok (.aload_n 0, 1) := by decide +kernel
theorem dX2_init_5 : decode cX2_init 5 = .ok (.bipush 60, 2) := by decide +kernel
theorem dX2_init_7 : decode cX2_init 7 = .ok (.newarray .char, 2) := by decide +kernel
theorem dX2_init_9 : decode cX2_init 9 = .ok (.putfield 9, 3) := by decide +kernel
theorem dX2_init_12 : decode cX2_init 12 = .ok (.aload_n 0, 1) := by decide +kernel
theorem dX2_init_13 : decode cX2_init 13 = .ok (.bipush 20, 2) := by decide +kernel
theorem dX2_init_15 : decode cX2_init 15 = .ok (.newarray .int, 2) := by decide +kernel
theorem dX2_init_17 : decode cX2_init 17 = .ok (.putfield 15, 3) := by decide +kernel
theorem dX2_init_20 : decode cX2_init 20 = .ok (.aload_n 0, 1) := by decide +kernel
theorem dX2_init_21 : decode cX2_init 21 = .ok (.bipush 40, 2) := by decide +kernel
theorem dX2_init_23 : decode cX2_init 23 = .ok (.newarray .int, 2) := by decide +kernel
theorem dX2_init_25 : decode cX2_init 25 = .ok (.putfield 19, 3) := by decide +kernel
theorem dX2_init_28 : decode cX2_init 28 = .ok (.return_, 1) := by decide +kernel
theorem dX2_append_0 : decode cX2_append 0 = .ok (.aload_n 0, 1) := by decide +kernel
theorem dX2_append_1 : decode cX2_append 1 = .ok (.getfield 22, 3) := by decide +kernel
theorem dX2_append_4 : decode cX2_append 4 = .ok (.ifCond .lt 15, 3) := by decide +kernel
theorem dX2_append_7 : decode cX2_append 7 = .ok (.aload_n 0, 1) := by decide +kernel
theorem dX2_append_8 : decode cX2_append 8 = .ok (.getfield 22, 3) := by decide +kernel
theorem dX2_append_11 : decode cX2_append 11 = .ok (.aload_n 0, 1) := by decide +kernel
theorem dX2_append_12 : decode cX2_append 12 = .ok (.getfield 9, 3) := by decide +kernel
theorem dX2_append_15 : decode cX2_append 15 = .ok (.arraylength, 1) := by decide +kernel
theorem dX2_append_16 : decode cX2_append 16 = .ok (.if_icmp .lt 5, 3) := by decide +kernel
theorem dX2_append_19 : decode cX2_append 19 = .ok (.iconst 0, 1) := by decide +kernel
theorem dX2_append_20 : decode cX2_append 20 = .ok (.ireturn, 1) := by decide +kernel
theorem dX2_append_21 : decode cX2_append 21 = .ok (.aload_n 0, 1) := by decide +kernel
theorem dX2_append_22 : decode cX2_append 22 = .ok (.getfield 9, 3) := by decide +kernel
theorem dX2_append_25 : decode cX2_append 25 = .ok (.aload_n 0, 1) := by decide +kernel
theorem dX2_append_26 : decode cX2_append 26 = .ok (.getfield 22, 3) := by decide +kernel
theorem dX2_append_29 : decode cX2_append 29 = .ok (.iload_n 1, 1) := by decide +kernel
theorem dX2_append_30 : decode cX2_append 30 = .ok (.castore, 1) := by decide +kernel
theorem dX2_append_31 : decode cX2_append 31 = .ok (.aload_n 0, 1) := by decide +kernel
theorem dX2_append_32 : decode cX2_append 32 = .ok (.dup, 1) := by decide +kernel
theorem dX2_append_33 : decode cX2_append 33 = .ok (.getfield 22, 3) := by decide +kernel
theorem dX2_append_36 : decode cX2_append 36 = .ok (.iconst 1, 1) := by decide +kernel
theorem dX2_append_37 : decode cX2_append 37 = .ok (.iadd, 1) := by decide +kernel
theorem dX2_append_38 : decode cX2_append 38 = .ok (.putfield 22, 3) := by decide +kernel
theorem dX2_append_41 : decode cX2_append 41 = .ok (.iconst 1, 1) := by decide +kernel
theorem dX2_append_42 : decode cX2_append 42 = .ok (.ireturn, 1) := by decide +kernel
theorem dX2_findFault_0 : decode cX2_findFault 0 = .ok (.aload_n 0, 1) := by decide +kernel
theorem dX2_findFault_1 : decode cX2_findFault 1 = .ok (.invokevirtual 26, 3) := by decide +kernel
theorem dX2_findFault_4 : decode cX2_findFault 4 = .ok (.aload_n 0, 1) := by decide +kernel
theorem dX2_findFault_5 : decode cX2_findFault 5 = .ok (.getfield 29, 3) := by decide +kernel
theorem dX2_findFault_8 : decode cX2_findFault 8 = .ok (.ifCond .ne 8, 3) := by decide +kernel
theorem dX2_findFault_11 : decode cX2_findFault 11 = .ok (.aload_n 0, 1) := by decide +kernel
theorem dX2_findFault_12 : decode cX2_findFault 12 = .ok (.getfield 32, 3) := by decide +kernel
theorem dX2_findFault_15 : decode cX2_findFault 15 = .ok (.ireturn, 1) := by decide +kernel
theorem dX2_findFault_16 : decode cX2_findFault 16 = .ok (.aload_n 0, 1) := by decide +kernel
theorem dX2_findFault_17 : decode cX2_findFault 17 = .ok (.getfield 32, 3) := by decide +kernel
theorem dX2_findFault_20 : decode cX2_findFault 20 = .ok (.aload_n 0, 1) := by decide +kernel
theorem dX2_findFault_21 : decode cX2_findFault 21 = .ok (.getfield 22, 3) := by decide +kernel
theorem dX2_findFault_24 : decode cX2_findFault 24 = .ok (.if_icmp .ne 5, 3) := by decide +kernel
theorem dX2_findFault_27 : decode cX2_findFault 27 = .ok (.iconst (-1), 1) := by decide +kernel
theorem dX2_findFault_28 : decode cX2_findFault 28 = .ok (.ireturn, 1) := by decide +kernel
theorem dX2_findFault_29 : decode cX2_findFault 29 = .ok (.aload_n 0, 1) := by decide +kernel
theorem dX2_findFault_30 : decode cX2_findFault 30 = .ok (.bipush 33, 2) := by decide +kernel
theorem dX2_findFault_32 : decode cX2_findFault 32 = .ok (.invokevirtual 35, 3) := by decide +kernel
theorem dX2_findFault_35 : decode cX2_findFault 35 = .ok (.ifCond .ne 8, 3) := by decide +kernel
theorem dX2_findFault_38 : decode cX2_findFault 38 = .ok (.aload_n 0, 1) := by decide +kernel
theorem dX2_findFault_39 : decode cX2_findFault 39 = .ok (.getfield 32, 3) := by decide +kernel
theorem dX2_findFault_42 : decode cX2_findFault 42 = .ok (.ireturn, 1) := by decide +kernel
theorem dX2_findFault_43 : decode cX2_findFault 43 = .ok (.iconst 0, 1) := by decide +kernel
theorem dX2_findFault_44 : decode cX2_findFault 44 = .ok (.istore_n 1, 1) := by decide +kernel
theorem dX2_findFault_45 : decode cX2_findFault 45 = .ok (.iload_n 1, 1) := by decide +kernel
theorem dX2_findFault_46 : decode cX2_findFault 46 = .ok (.bipush 60, 2) := by decide +kernel
theorem dX2_findFault_48 : decode cX2_findFault 48 = .ok (.if_icmp .ge 48, 3) := by decide +kernel
theorem dX2_findFault_51 : decode cX2_findFault 51 = .ok (.aload_n 0, 1) := by decide +kernel
theorem dX2_findFault_52 : decode cX2_findFault 52 = .ok (.invokevirtual 39, 3) := by decide +kernel
theorem dX2_findFault_55 : decode cX2_findFault 55 = .ok (.ifCond .ne 8, 3) := by decide +kernel
theorem dX2_findFault_58 : decode cX2_findFault 58 = .ok (.aload_n 0, 1) := by decide +kernel
theorem dX2_findFault_59 : decode cX2_findFault 59 = .ok (.getfield 32, 3) := by decide +kernel
theorem dX2_findFault_62 : decode cX2_findFault 62 = .ok (.ireturn, 1) := by decide +kernel
theorem dX2_findFault_63 : decode cX2_findFault 63 = .ok (.aload_n 0, 1) := by decide +kernel
theorem dX2_findFault_64 : decode cX2_findFault 64 = .ok (.getfield 32, 3) := by decide +kernel
theorem dX2_findFault_67 : decode cX2_findFault 67 = .ok (.aload_n 0, 1) := by decide +kernel
theorem dX2_findFault_68 : decode cX2_findFault 68 = .ok (.getfield 22, 3) := by decide +kernel
theorem dX2_findFault_71 : decode cX2_findFault 71 = .ok (.if_icmp .ne 5, 3) := by decide +kernel
theorem dX2_findFault_74 : decode cX2_findFault 74 = .ok (.iconst (-1), 1) := by decide +kernel
theorem dX2_findFault_75 : decode cX2_findFault 75 = .ok (.ireturn, 1) := by decide +kernel
theorem dX2_findFault_76 : decode cX2_findFault 76 = .ok (.aload_n 0, 1) := by decide +kernel
theorem dX2_findFault_77 : decode cX2_findFault 77 = .ok (.bipush 44, 2) := by decide +kernel
theorem dX2_findFault_79 : decode cX2_findFault 79 = .ok (.invokevirtual 35, 3) := by decide +kernel
theorem dX2_findFault_82 : decode cX2_findFault 82 = .ok (.ifCond .ne 8, 3) := by decide +kernel
theorem dX2_findFault_85 : decode cX2_findFault 85 = .ok (.aload_n 0, 1) := by decide +kernel
theorem dX2_findFault_86 : decode cX2_findFault 86 = .ok (.getfield 32, 3) := by decide +kernel
theorem dX2_findFault_89 : decode cX2_findFault 89 = .ok (.ireturn, 1) := by decide +kernel
theorem dX2_findFault_90 : decode cX2_findFault 90 = .ok (.iinc 1 1, 3) := by decide +kernel
theorem dX2_findFault_93 : decode cX2_findFault 93 = .ok (.goto (-48), 3) := by decide +kernel
theorem dX2_findFault_96 : decode cX2_findFault 96 = .ok (.aload_n 0, 1) := by decide +kernel
theorem dX2_findFault_97 : decode cX2_findFault 97 = .ok (.getfield 32, 3) := by decide +kernel
theorem dX2_findFault_100 : decode cX2_findFault 100 = .ok (.ireturn, 1) := by decide +kernel
theorem dX2_readHalf_0 : decode cX2_readHalf 0 = .ok (.aload_n 0, 1) := by decide +kernel
theorem dX2_readHalf_1 : decode cX2_readHalf 1 = .ok (.iconst 0, 1) := by decide +kernel
theorem dX2_readHalf_2 : decode cX2_readHalf 2 = .ok (.putfield 32, 3) := by decide +kernel
theorem dX2_readHalf_5 : decode cX2_readHalf 5 = .ok (.aload_n 0, 1) := by decide +kernel
theorem dX2_readHalf_6 : decode cX2_readHalf 6 = .ok (.iconst 0, 1) := by decide +kernel
theorem dX2_readHalf_7 : decode cX2_readHalf 7 = .ok (.putfield 29, 3) := by decide +kernel
theorem dX2_readHalf_10 : decode cX2_readHalf 10 = .ok (.aload_n 0, 1) := by decide +kernel
theorem dX2_readHalf_11 : decode cX2_readHalf 11 = .ok (.iconst (-1), 1) := by decide +kernel
theorem dX2_readHalf_12 : decode cX2_readHalf 12 = .ok (.putfield 43, 3) := by decide +kernel
theorem dX2_readHalf_15 : decode cX2_readHalf 15 = .ok (.aload_n 0, 1) := by decide +kernel
theorem dX2_readHalf_16 : decode cX2_readHalf 16 = .ok (.getfield 19, 3) := by decide +kernel
theorem dX2_readHalf_19 : decode cX2_readHalf 19 = .ok (.invokestatic 46, 3) := by decide +kernel
theorem dX2_readHalf_22 : decode cX2_readHalf 22 = .ok (.iconst 0, 1) := by decide +kernel
theorem dX2_readHalf_23 : decode cX2_readHalf 23 = .ok (.istore_n 1, 1) := by decide +kernel
theorem dX2_readHalf_24 : decode cX2_readHalf 24 = .ok (.iload_n 1, 1) := by decide +kernel
theorem dX2_readHalf_25 : decode cX2_readHalf 25 = .ok (.bipush 20, 2) := by decide +kernel
theorem dX2_readHalf_27 : decode cX2_readHalf 27 = .ok (.if_icmp .ge 48, 3) := by decide +kernel
theorem dX2_readHalf_30 : decode cX2_readHalf 30 = .ok (.aload_n 0, 1) := by decide +kernel
theorem dX2_readHalf_31 : decode cX2_readHalf 31 = .ok (.invokevirtual 50, 3) := by decide +kernel
theorem dX2_readHalf_34 : decode cX2_readHalf 34 = .ok (.istore_n 2, 1) := by decide +kernel
theorem dX2_readHalf_35 : decode cX2_readHalf 35 = .ok (.iload_n 2, 1) := by decide +kernel
theorem dX2_readHalf_36 : decode cX2_readHalf 36 = .ok (.ifCond .ne 4, 3) := by decide +kernel
theorem dX2_readHalf_39 : decode cX2_readHalf 39 = .ok (.return_, 1) := by decide +kernel
theorem dX2_readHalf_40 : decode cX2_readHalf 40 = .ok (.aload_n 0, 1) := by decide +kernel
theorem dX2_readHalf_41 : decode cX2_readHalf 41 = .ok (.getfield 15, 3) := by decide +kernel
theorem dX2_readHalf_44 : decode cX2_readHalf 44 = .ok (.iload_n 1, 1) := by decide +kernel
theorem dX2_readHalf_45 : decode cX2_readHalf 45 = .ok (.iload_n 2, 1) := by decide +kernel
theorem dX2_readHalf_46 : decode cX2_readHalf 46 = .ok (.invokestatic 54, 3) := by decide +kernel
theorem dX2_readHalf_49 : decode cX2_readHalf 49 = .ok (.aload_n 0, 1) := by decide +kernel
theorem dX2_readHalf_50 : decode cX2_readHalf 50 = .ok (.dup, 1) := by decide +kernel
theorem dX2_readHalf_51 : decode cX2_readHalf 51 = .ok (.getfield 29, 3) := by decide +kernel
theorem dX2_readHalf_54 : decode cX2_readHalf 54 = .ok (.iconst 1, 1) := by decide +kernel
theorem dX2_readHalf_55 : decode cX2_readHalf 55 = .ok (.iadd, 1) := by decide +kernel
theorem dX2_readHalf_56 : decode cX2_readHalf 56 = .ok (.putfield 29, 3) := by decide +kernel
theorem dX2_readHalf_59 : decode cX2_readHalf 59 = .ok (.aload_n 0, 1) := by decide +kernel
theorem dX2_readHalf_60 : decode cX2_readHalf 60 = .ok (.dup, 1) := by decide +kernel
theorem dX2_readHalf_61 : decode cX2_readHalf 61 = .ok (.getfield 32, 3) := by decide +kernel
theorem dX2_readHalf_64 : decode cX2_readHalf 64 = .ok (.iconst 1, 1) := by decide +kernel
theorem dX2_readHalf_65 : decode cX2_readHalf 65 = .ok (.iadd, 1) := by decide +kernel
theorem dX2_readHalf_66 : decode cX2_readHalf 66 = .ok (.putfield 32, 3) := by decide +kernel
theorem dX2_readHalf_69 : decode cX2_readHalf 69 = .ok (.iinc 1 1, 3) := by decide +kernel
theorem dX2_readHalf_72 : decode cX2_readHalf 72 = .ok (.goto (-48), 3) := by decide +kernel
theorem dX2_readHalf_75 : decode cX2_readHalf 75 = .ok (.return_, 1) := by decide +kernel
theorem dX2_readMisreading_0 : decode cX2_readMisreading 0 = .ok (.aload_n 0, 1) := by decide +kernel
theorem dX2_readMisreading_1 : decode cX2_readMisreading 1 = .ok (.invokevirtual 58, 3) := by decide +kernel
theorem dX2_readMisreading_4 : decode cX2_readMisreading 4 = .ok (.istore_n 1, 1) := by decide +kernel
theorem dX2_readMisreading_5 : decode cX2_readMisreading 5 = .ok (.iload_n 1, 1) := by decide +kernel
theorem dX2_readMisreading_6 : decode cX2_readMisreading 6 = .ok (.ifCond .ge 5, 3) := by decide +kernel
theorem dX2_readMisreading_9 : decode cX2_readMisreading 9 = .ok (.iconst 0, 1) := by decide +kernel
theorem dX2_readMisreading_10 : decode cX2_readMisreading 10 = .ok (.ireturn, 1) := by decide +kernel
theorem dX2_readMisreading_11 : decode cX2_readMisreading 11 = .ok (.aload_n 0, 1) := by decide +kernel
theorem dX2_readMisreading_12 : decode cX2_readMisreading 12 = .ok (.dup, 1) := by decide +kernel
theorem dX2_readMisreading_13 : decode cX2_readMisreading 13 = .ok (.getfield 32, 3) := by decide +kernel
theorem dX2_readMisreading_16 : decode cX2_readMisreading 16 = .ok (.iconst 1, 1) := by decide +kernel
theorem dX2_readMisreading_17 : decode cX2_readMisreading 17 = .ok (.iadd, 1) := by decide +kernel
theorem dX2_readMisreading_18 : decode cX2_readMisreading 18 = .ok (.putfield 32, 3) := by decide +kernel
theorem dX2_readMisreading_21 : decode cX2_readMisreading 21 = .ok (.aload_n 0, 1) := by decide +kernel
theorem dX2_readMisreading_22 : decode cX2_readMisreading 22 = .ok (.invokevirtual 58, 3) := by decide +kernel
theorem dX2_readMisreading_25 : decode cX2_readMisreading 25 = .ok (.istore_n 2, 1) := by decide +kernel
theorem dX2_readMisreading_26 : decode cX2_readMisreading 26 = .ok (.iload_n 1, 1) := by decide +kernel
theorem dX2_readMisreading_27 : decode cX2_readMisreading 27 = .ok (.ifCond .eq 35, 3) := by decide +kernel
theorem dX2_readMisreading_30 : decode cX2_readMisreading 30 = .ok (.iload_n 2, 1) := by decide +kernel
theorem dX2_readMisreading_31 : decode cX2_readMisreading 31 = .ok (.ifCond .lt 31, 3) := by decide +kernel
theorem dX2_readMisreading_34 : decode cX2_readMisreading 34 = .ok (.iload_n 1, 1) := by decide +kernel
theorem dX2_readMisreading_35 : decode cX2_readMisreading 35 = .ok (.bipush 10, 2) := by decide +kernel
theorem dX2_readMisreading_37 : decode cX2_readMisreading 37 = .ok (.imul, 1) := by decide +kernel
theorem dX2_readMisreading_38 : decode cX2_readMisreading 38 = .ok (.iload_n 2, 1) := by decide +kernel
theorem dX2_readMisreading_39 : decode cX2_readMisreading 39 = .ok (.iadd, 1) := by decide +kernel
theorem dX2_readMisreading_40 : decode cX2_readMisreading 40 = .ok (.bipush 39, 2) := by decide +kernel
theorem dX2_readMisreading_42 : decode cX2_readMisreading 42 = .ok (.if_icmp .gt 20, 3) := by decide +kernel
theorem dX2_readMisreading_45 : decode cX2_readMisreading 45 = .ok (.iload_n 1, 1) := by decide +kernel
theorem dX2_readMisreading_46 : decode cX2_readMisreading 46 = .ok (.bipush 10, 2) := by decide +kernel
theorem dX2_readMisreading_48 : decode cX2_readMisreading 48 = .ok (.imul, 1) := by decide +kernel
theorem dX2_readMisreading_49 : decode cX2_readMisreading 49 = .ok (.iload_n 2, 1) := by decide +kernel
theorem dX2_readMisreading_50 : decode cX2_readMisreading 50 = .ok (.iadd, 1) := by decide +kernel
theorem dX2_readMisreading_51 : decode cX2_readMisreading 51 = .ok (.istore_n 1, 1) := by decide +kernel
theorem dX2_readMisreading_52 : decode cX2_readMisreading 52 = .ok (.aload_n 0, 1) := by decide +kernel
theorem dX2_readMisreading_53 : decode cX2_readMisreading 53 = .ok (.dup, 1) := by decide +kernel
theorem dX2_readMisreading_54 : decode cX2_readMisreading 54 = .ok (.getfield 32, 3) := by decide +kernel
theorem dX2_readMisreading_57 : decode cX2_readMisreading 57 = .ok (.iconst 1, 1) := by decide +kernel
theorem dX2_readMisreading_58 : decode cX2_readMisreading 58 = .ok (.iadd, 1) := by decide +kernel
theorem dX2_readMisreading_59 : decode cX2_readMisreading 59 = .ok (.putfield 32, 3) := by decide +kernel
theorem dX2_readMisreading_62 : decode cX2_readMisreading 62 = .ok (.aload_n 0, 1) := by decide +kernel
theorem dX2_readMisreading_63 : decode cX2_readMisreading 63 = .ok (.invokevirtual 50, 3) := by decide +kernel
theorem dX2_readMisreading_66 : decode cX2_readMisreading 66 = .ok (.istore_n 3, 1) := by decide +kernel
theorem dX2_readMisreading_67 : decode cX2_readMisreading 67 = .ok (.iload_n 3, 1) := by decide +kernel
theorem dX2_readMisreading_68 : decode cX2_readMisreading 68 = .ok (.ifCond .ne 5, 3) := by decide +kernel
theorem dX2_readMisreading_71 : decode cX2_readMisreading 71 = .ok (.iconst 0, 1) := by decide +kernel
theorem dX2_readMisreading_72 : decode cX2_readMisreading 72 = .ok (.ireturn, 1) := by decide +kernel
theorem dX2_readMisreading_73 : decode cX2_readMisreading 73 = .ok (.aload_n 0, 1) := by decide +kernel
theorem dX2_readMisreading_74 : decode cX2_readMisreading 74 = .ok (.getfield 19, 3) := by decide +kernel
theorem dX2_readMisreading_77 : decode cX2_readMisreading 77 = .ok (.iload_n 1, 1) := by decide +kernel
theorem dX2_readMisreading_78 : decode cX2_readMisreading 78 = .ok (.iload_n 3, 1) := by decide +kernel
theorem dX2_readMisreading_79 : decode cX2_readMisreading 79 = .ok (.invokestatic 54, 3) := by decide +kernel
theorem dX2_readMisreading_82 : decode cX2_readMisreading 82 = .ok (.aload_n 0, 1) := by decide +kernel
theorem dX2_readMisreading_83 : decode cX2_readMisreading 83 = .ok (.aload_n 0, 1) := by decide +kernel
theorem dX2_readMisreading_84 : decode cX2_readMisreading 84 = .ok (.getfield 43, 3) := by decide +kernel
theorem dX2_readMisreading_87 : decode cX2_readMisreading 87 = .ok (.iload_n 1, 1) := by decide +kernel
theorem dX2_readMisreading_88 : decode cX2_readMisreading 88 = .ok (.invokestatic 61, 3) := by decide +kernel
theorem dX2_readMisreading_91 : decode cX2_readMisreading 91 = .ok (.putfield 43, 3) := by decide +kernel
theorem dX2_readMisreading_94 : decode cX2_readMisreading 94 = .ok (.aload_n 0, 1) := by decide +kernel
theorem dX2_readMisreading_95 : decode cX2_readMisreading 95 = .ok (.dup, 1) := by decide +kernel
theorem dX2_readMisreading_96 : decode cX2_readMisreading 96 = .ok (.getfield 32, 3) := by decide +kernel
theorem dX2_readMisreading_99 : decode cX2_readMisreading 99 = .ok (.iconst 1, 1) := by decide +kernel
theorem dX2_readMisreading_100 : decode cX2_readMisreading 100 = .ok (.iadd, 1) := by decide +kernel
theorem dX2_readMisreading_101 : decode cX2_readMisreading 101 = .ok (.putfield 32, 3) := by decide +kernel
theorem dX2_readMisreading_104 : decode cX2_readMisreading 104 = .ok (.iconst 1, 1) := by decide +kernel
theorem dX2_readMisreading_105 : decode cX2_readMisreading 105 = .ok (.ireturn, 1) := by decide +kernel
theorem dX2_skip_0 : decode cX2_skip 0 = .ok (.aload_n 0, 1) := by decide +kernel
theorem dX2_skip_1 : decode cX2_skip 1 = .ok (.invokevirtual 67, 3) := by decide +kernel
theorem dX2_skip_4 : decode cX2_skip 4 = .ok (.ifCond .eq 16, 3) := by decide +kernel
theorem dX2_skip_7 : decode cX2_skip 7 = .ok (.aload_n 0, 1) := by decide +kernel
theorem dX2_skip_8 : decode cX2_skip 8 = .ok (.getfield 9, 3) := by decide +kernel
theorem dX2_skip_11 : decode cX2_skip 11 = .ok (.aload_n 0, 1) := by decide +kernel
theorem dX2_skip_12 : decode cX2_skip 12 = .ok (.getfield 32, 3) := by decide +kernel
theorem dX2_skip_15 : decode cX2_skip 15 = .ok (.caload, 1) := by decide +kernel
theorem dX2_skip_16 : decode cX2_skip 16 = .ok (.iload_n 1, 1) := by decide +kernel
theorem dX2_skip_17 : decode cX2_skip 17 = .ok (.if_icmp .eq 5, 3) := by decide +kernel
theorem dX2_skip_20 : decode cX2_skip 20 = .ok (.iconst 0, 1) := by decide +kernel
theorem dX2_skip_21 : decode cX2_skip 21 = .ok (.ireturn, 1) := by decide +kernel
theorem dX2_skip_22 : decode cX2_skip 22 = .ok (.aload_n 0, 1) := by decide +kernel
theorem dX2_skip_23 : decode cX2_skip 23 = .ok (.dup, 1) := by decide +kernel
theorem dX2_skip_24 : decode cX2_skip 24 = .ok (.getfield 32, 3) := by decide +kernel
theorem dX2_skip_27 : decode cX2_skip 27 = .ok (.iconst 1, 1) := by decide +kernel
theorem dX2_skip_28 : decode cX2_skip 28 = .ok (.iadd, 1) := by decide +kernel
theorem dX2_skip_29 : decode cX2_skip 29 = .ok (.putfield 32, 3) := by decide +kernel
theorem dX2_skip_32 : decode cX2_skip 32 = .ok (.iconst 1, 1) := by decide +kernel
theorem dX2_skip_33 : decode cX2_skip 33 = .ok (.ireturn, 1) := by decide +kernel
theorem dX2_letterAtCursor_0 : decode cX2_letterAtCursor 0 = .ok (.aload_n 0, 1) := by decide +kernel
theorem dX2_letterAtCursor_1 : decode cX2_letterAtCursor 1 = .ok (.invokevirtual 67, 3) := by decide +kernel
theorem dX2_letterAtCursor_4 : decode cX2_letterAtCursor 4 = .ok (.ifCond .ne 5, 3) := by decide +kernel
theorem dX2_letterAtCursor_7 : decode cX2_letterAtCursor 7 = .ok (.iconst 0, 1) := by decide +kernel
theorem dX2_letterAtCursor_8 : decode cX2_letterAtCursor 8 = .ok (.ireturn, 1) := by decide +kernel
theorem dX2_letterAtCursor_9 : decode cX2_letterAtCursor 9 = .ok (.aload_n 0, 1) := by decide +kernel
theorem dX2_letterAtCursor_10 : decode cX2_letterAtCursor 10 = .ok (.getfield 9, 3) := by decide +kernel
theorem dX2_letterAtCursor_13 : decode cX2_letterAtCursor 13 = .ok (.aload_n 0, 1) := by decide +kernel
theorem dX2_letterAtCursor_14 : decode cX2_letterAtCursor 14 = .ok (.getfield 32, 3) := by decide +kernel
theorem dX2_letterAtCursor_17 : decode cX2_letterAtCursor 17 = .ok (.caload, 1) := by decide +kernel
theorem dX2_letterAtCursor_18 : decode cX2_letterAtCursor 18 = .ok (.istore_n 1, 1) := by decide +kernel
theorem dX2_letterAtCursor_19 : decode cX2_letterAtCursor 19 = .ok (.iload_n 1, 1) := by decide +kernel
theorem dX2_letterAtCursor_20 : decode cX2_letterAtCursor 20 = .ok (.bipush 97, 2) := by decide +kernel
theorem dX2_letterAtCursor_22 : decode cX2_letterAtCursor 22 = .ok (.if_icmp .lt 18, 3) := by decide +kernel
theorem dX2_letterAtCursor_25 : decode cX2_letterAtCursor 25 = .ok (.iload_n 1, 1) := by decide +kernel
theorem dX2_letterAtCursor_26 : decode cX2_letterAtCursor 26 = .ok (.bipush 122, 2) := by decide +kernel
theorem dX2_letterAtCursor_28 : decode cX2_letterAtCursor 28 = .ok (.if_icmp .gt 12, 3) := by decide +kernel
theorem dX2_letterAtCursor_31 : decode cX2_letterAtCursor 31 = .ok (.iload_n 1, 1) := by decide +kernel
theorem dX2_letterAtCursor_32 : decode cX2_letterAtCursor 32 = .ok (.bipush 97, 2) := by decide +kernel
theorem dX2_letterAtCursor_34 : decode cX2_letterAtCursor 34 = .ok (.isub, 1) := by decide +kernel
theorem dX2_letterAtCursor_35 : decode cX2_letterAtCursor 35 = .ok (.iconst 1, 1) := by decide +kernel
theorem dX2_letterAtCursor_36 : decode cX2_letterAtCursor 36 = .ok (.iadd, 1) := by decide +kernel
theorem dX2_letterAtCursor_37 : decode cX2_letterAtCursor 37 = .ok (.goto 4, 3) := by decide +kernel
theorem dX2_letterAtCursor_40 : decode cX2_letterAtCursor 40 = .ok (.iconst 0, 1) := by decide +kernel
theorem dX2_letterAtCursor_41 : decode cX2_letterAtCursor 41 = .ok (.ireturn, 1) := by decide +kernel
theorem dX2_digitAtCursor_0 : decode cX2_digitAtCursor 0 = .ok (.aload_n 0, 1) := by decide +kernel
theorem dX2_digitAtCursor_1 : decode cX2_digitAtCursor 1 = .ok (.invokevirtual 67, 3) := by decide +kernel
theorem dX2_digitAtCursor_4 : decode cX2_digitAtCursor 4 = .ok (.ifCond .ne 5, 3) := by decide +kernel
theorem dX2_digitAtCursor_7 : decode cX2_digitAtCursor 7 = .ok (.iconst (-1), 1) := by decide +kernel
theorem dX2_digitAtCursor_8 : decode cX2_digitAtCursor 8 = .ok (.ireturn, 1) := by decide +kernel
theorem dX2_digitAtCursor_9 : decode cX2_digitAtCursor 9 = .ok (.aload_n 0, 1) := by decide +kernel
theorem dX2_digitAtCursor_10 : decode cX2_digitAtCursor 10 = .ok (.getfield 9, 3) := by decide +kernel
theorem dX2_digitAtCursor_13 : decode cX2_digitAtCursor 13 = .ok (.aload_n 0, 1) := by decide +kernel
theorem dX2_digitAtCursor_14 : decode cX2_digitAtCursor 14 = .ok (.getfield 32, 3) := by decide +kernel
theorem dX2_digitAtCursor_17 : decode cX2_digitAtCursor 17 = .ok (.caload, 1) := by decide +kernel
theorem dX2_digitAtCursor_18 : decode cX2_digitAtCursor 18 = .ok (.istore_n 1, 1) := by decide +kernel
theorem dX2_digitAtCursor_19 : decode cX2_digitAtCursor 19 = .ok (.iload_n 1, 1) := by decide +kernel
theorem dX2_digitAtCursor_20 : decode cX2_digitAtCursor 20 = .ok (.bipush 48, 2) := by decide +kernel
theorem dX2_digitAtCursor_22 : decode cX2_digitAtCursor 22 = .ok (.if_icmp .lt 16, 3) := by decide +kernel
theorem dX2_digitAtCursor_25 : decode cX2_digitAtCursor 25 = .ok (.iload_n 1, 1) := by decide +kernel
theorem dX2_digitAtCursor_26 : decode cX2_digitAtCursor 26 = .ok (.bipush 57, 2) := by decide +kernel
theorem dX2_digitAtCursor_28 : decode cX2_digitAtCursor 28 = .ok (.if_icmp .gt 10, 3) := by decide +kernel
theorem dX2_digitAtCursor_31 : decode cX2_digitAtCursor 31 = .ok (.iload_n 1, 1) := by decide +kernel
theorem dX2_digitAtCursor_32 : decode cX2_digitAtCursor 32 = .ok (.bipush 48, 2) := by decide +kernel
theorem dX2_digitAtCursor_34 : decode cX2_digitAtCursor 34 = .ok (.isub, 1) := by decide +kernel
theorem dX2_digitAtCursor_35 : decode cX2_digitAtCursor 35 = .ok (.goto 4, 3) := by decide +kernel
theorem dX2_digitAtCursor_38 : decode cX2_digitAtCursor 38 = .ok (.iconst (-1), 1) := by decide +kernel
theorem dX2_digitAtCursor_39 : decode cX2_digitAtCursor 39 = .ok (.ireturn, 1) := by decide +kernel
theorem dX2_isAtCharacter_0 : decode cX2_isAtCharacter 0 = .ok (.aload_n 0, 1) := by decide +kernel
theorem dX2_isAtCharacter_1 : decode cX2_isAtCharacter 1 = .ok (.getfield 32, 3) := by decide +kernel
theorem dX2_isAtCharacter_4 : decode cX2_isAtCharacter 4 = .ok (.ifCond .lt 30, 3) := by decide +kernel
theorem dX2_isAtCharacter_7 : decode cX2_isAtCharacter 7 = .ok (.aload_n 0, 1) := by decide +kernel
theorem dX2_isAtCharacter_8 : decode cX2_isAtCharacter 8 = .ok (.getfield 32, 3) := by decide +kernel
theorem dX2_isAtCharacter_11 : decode cX2_isAtCharacter 11 = .ok (.aload_n 0, 1) := by decide +kernel
theorem dX2_isAtCharacter_12 : decode cX2_isAtCharacter 12 = .ok (.getfield 22, 3) := by decide +kernel
theorem dX2_isAtCharacter_15 : decode cX2_isAtCharacter 15 = .ok (.if_icmp .ge 19, 3) := by decide +kernel
theorem dX2_isAtCharacter_18 : decode cX2_isAtCharacter 18 = .ok (.aload_n 0, 1) := by decide +kernel
theorem dX2_isAtCharacter_19 : decode cX2_isAtCharacter 19 = .ok (.getfield 32, 3) := by decide +kernel
theorem dX2_isAtCharacter_22 : decode cX2_isAtCharacter 22 = .ok (.aload_n 0, 1) := by decide +kernel
theorem dX2_isAtCharacter_23 : decode cX2_isAtCharacter 23 = .ok (.getfield 9, 3) := by decide +kernel
theorem dX2_isAtCharacter_26 : decode cX2_isAtCharacter 26 = .ok (.arraylength, 1) := by decide +kernel
theorem dX2_isAtCharacter_27 : decode cX2_isAtCharacter 27 = .ok (.if_icmp .ge 7, 3) := by decide +kernel
theorem dX2_isAtCharacter_30 : decode cX2_isAtCharacter 30 = .ok (.iconst 1, 1) := by decide +kernel
theorem dX2_isAtCharacter_31 : decode cX2_isAtCharacter 31 = .ok (.goto 4, 3) := by decide +kernel
theorem dX2_isAtCharacter_34 : decode cX2_isAtCharacter 34 = .ok (.iconst 0, 1) := by decide +kernel
theorem dX2_isAtCharacter_35 : decode cX2_isAtCharacter 35 = .ok (.ireturn, 1) := by decide +kernel
theorem dX3_init_0 : decode cX3_init 0 = .ok (.aload_n 0, 1) := by decide +kernel
theorem dX3_init_1 : decode cX3_init 1 = .ok (.invokespecial 1, 3) := by decide +kernel
theorem dX3_init_4 : decode cX3_init 4 = .ok (.aload_n 0, 1) := by decide +kernel
theorem dX3_init_5 : decode cX3_init 5 = .ok (.iconst 2, 1) := by decide +kernel
theorem dX3_init_6 : decode cX3_init 6 = .ok (.putfield 7, 3) := by decide +kernel
theorem dX3_init_9 : decode cX3_init 9 = .ok (.return_, 1) := by decide +kernel
theorem dX3_copyFrom_0 : decode cX3_copyFrom 0 = .ok (.aload_n 0, 1) := by decide +kernel
theorem dX3_copyFrom_1 : decode cX3_copyFrom 1 = .ok (.aload_n 1, 1) := by decide +kernel
theorem dX3_copyFrom_2 : decode cX3_copyFrom 2 = .ok (.getfield 7, 3) := by decide +kernel
theorem dX3_copyFrom_5 : decode cX3_copyFrom 5 = .ok (.putfield 7, 3) := by decide +kernel
theorem dX3_copyFrom_8 : decode cX3_copyFrom 8 = .ok (.aload_n 0, 1) := by decide +kernel
theorem dX3_copyFrom_9 : decode cX3_copyFrom 9 = .ok (.aload_n 1, 1) := by decide +kernel
theorem dX3_copyFrom_10 : decode cX3_copyFrom 10 = .ok (.getfield 13, 3) := by decide +kernel
theorem dX3_copyFrom_13 : decode cX3_copyFrom 13 = .ok (.putfield 13, 3) := by decide +kernel
theorem dX3_copyFrom_16 : decode cX3_copyFrom 16 = .ok (.aload_n 0, 1) := by decide +kernel
theorem dX3_copyFrom_17 : decode cX3_copyFrom 17 = .ok (.aload_n 1, 1) := by decide +kernel
theorem dX3_copyFrom_18 : decode cX3_copyFrom 18 = .ok (.getfield 16, 3) := by decide +kernel
theorem dX3_copyFrom_21 : decode cX3_copyFrom 21 = .ok (.putfield 16, 3) := by decide +kernel
theorem dX3_copyFrom_24 : decode cX3_copyFrom 24 = .ok (.aload_n 0, 1) := by decide +kernel
theorem dX3_copyFrom_25 : decode cX3_copyFrom 25 = .ok (.aload_n 1, 1) := by decide +kernel
theorem dX3_copyFrom_26 : decode cX3_copyFrom 26 = .ok (.getfield 19, 3) := by decide +kernel
theorem dX3_copyFrom_29 : decode cX3_copyFrom 29 = .ok (.putfield 19, 3) := by decide +kernel
theorem dX3_copyFrom_32 : decode cX3_copyFrom 32 = .ok (.aload_n 0, 1) := by decide +kernel
theorem dX3_copyFrom_33 : decode cX3_copyFrom 33 = .ok (.aload_n 1, 1) := by decide +kernel
theorem dX3_copyFrom_34 : decode cX3_copyFrom 34 = .ok (.getfield 22, 3) := by decide +kernel
theorem dX3_copyFrom_37 : decode cX3_copyFrom 37 = .ok (.putfield 22, 3) := by decide +kernel
theorem dX3_copyFrom_40 : decode cX3_copyFrom 40 = .ok (.aload_n 0, 1) := by decide +kernel
theorem dX3_copyFrom_41 : decode cX3_copyFrom 41 = .ok (.aload_n 1, 1) := by decide +kernel
theorem dX3_copyFrom_42 : decode cX3_copyFrom 42 = .ok (.getfield 25, 3) := by decide +kernel
theorem dX3_copyFrom_45 : decode cX3_copyFrom 45 = .ok (.putfield 25, 3) := by decide +kernel
theorem dX3_copyFrom_48 : decode cX3_copyFrom 48 = .ok (.aload_n 0, 1) := by decide +kernel
theorem dX3_copyFrom_49 : decode cX3_copyFrom 49 = .ok (.aload_n 1, 1) := by decide +kernel
theorem dX3_copyFrom_50 : decode cX3_copyFrom 50 = .ok (.getfield 28, 3) := by decide +kernel
theorem dX3_copyFrom_53 : decode cX3_copyFrom 53 = .ok (.putfield 28, 3) := by decide +kernel
theorem dX3_copyFrom_56 : decode cX3_copyFrom 56 = .ok (.return_, 1) := by decide +kernel
theorem dX3_beginPage_0 : decode cX3_beginPage 0 = .ok (.aload_n 0, 1) := by decide +kernel
theorem dX3_beginPage_1 : decode cX3_beginPage 1 = .ok (.iconst 0, 1) := by decide +kernel
theorem dX3_beginPage_2 : decode cX3_beginPage 2 = .ok (.putfield 13, 3) := by decide +kernel
theorem dX3_beginPage_5 : decode cX3_beginPage 5 = .ok (.aload_n 0, 1) := by decide +kernel
theorem dX3_beginPage_6 : decode cX3_beginPage 6 = .ok (.iconst 0, 1) := by decide +kernel
theorem dX3_beginPage_7 : decode cX3_beginPage 7 = .ok (.putfield 16, 3) := by decide +kernel
theorem dX3_beginPage_10 : decode cX3_beginPage 10 = .ok (.return_, 1) := by decide +kernel
theorem dX4_init_0 : decode cX4_init 0 = .ok (.aload_n 0, 1) := by decide +kernel
theorem dX4_init_1 : decode cX4_init 1 = .ok (.invokespecial 3, 3) := by decide +kernel
theorem dX4_init_4 : decode cX4_init 4 = .ok (.aload_n 0, 1) := by decide +kernel
theorem dX4_init_5 : decode cX4_init 5 = .ok (.new 9, 3) := by decide +kernel
theorem dX4_init_8 : decode cX4_init 8 = .ok (.dup, 1) := by decide +kernel
theorem dX4_init_9 : decode cX4_init 9 = .ok (.invokespecial 11, 3) := by decide +kernel
theorem dX4_init_12 : decode cX4_init 12 = .ok (.putfield 12, 3) := by decide +kernel
theorem dX4_init_15 : decode cX4_init 15 = .ok (.aload_n 0, 1) := by decide +kernel
theorem dX4_init_16 : decode cX4_init 16 = .ok (.new 18, 3) := by decide +kernel
theorem dX4_init_19 : decode cX4_init 19 = .ok (.dup, 1) := by decide +kernel
theorem dX4_init_20 : decode cX4_init 20 = .ok (.invokespecial 20, 3) := by decide +kernel
theorem dX4_init_23 : decode cX4_init 23 = .ok (.putfield 21, 3) := by decide +kernel
theorem dX4_init_26 : decode cX4_init 26 = .ok (.aload_n 0, 1) := by decide +kernel
theorem dX4_init_27 : decode cX4_init 27 = .ok (.new 18, 3) := by decide +kernel
theorem dX4_init_30 : decode cX4_init 30 = .ok (.dup, 1) := by decide +kernel
theorem dX4_init_31 : decode cX4_init 31 = .ok (.invokespecial 20, 3) := by decide +kernel
theorem dX4_init_34 : decode cX4_init 34 = .ok (.putfield 25, 3) := by decide +kernel
theorem dX4_init_37 : decode cX4_init 37 = .ok (.aload_n 0, 1) := by decide +kernel
theorem dX4_init_38 : decode cX4_init 38 = .ok (.iconst 3, 1) := by decide +kernel
theorem dX4_init_39 : decode cX4_init 39 = .ok (.newarray .int, 2) := by decide +kernel
theorem dX4_init_41 : decode cX4_init 41 = .ok (.dup, 1) := by decide +kernel
theorem dX4_init_42 : decode cX4_init 42 = .ok (.iconst 0, 1) := by decide +kernel
theorem dX4_init_43 : decode cX4_init 43 = .ok (.iconst 2, 1) := by decide +kernel
theorem dX4_init_44 : decode cX4_init 44 = .ok (.iastore, 1) := by decide +kernel
theorem dX4_init_45 : decode cX4_init 45 = .ok (.dup, 1) := by decide +kernel
theorem dX4_init_46 : decode cX4_init 46 = .ok (.iconst 1, 1) := by decide +kernel
theorem dX4_init_47 : decode cX4_init 47 = .ok (.bipush 7, 2) := by decide +kernel
theorem dX4_init_49 : decode cX4_init 49 = .ok (.iastore, 1) := by decide +kernel
theorem dX4_init_50 : decode cX4_init 50 = .ok (.dup, 1) := by decide +kernel
theorem dX4_init_51 : decode cX4_init 51 = .ok (.iconst 2, 1) := by decide +kernel
theorem dX4_init_52 : decode cX4_init 52 = .ok (.iconst 4, 1) := by decide +kernel
theorem dX4_init_53 : decode cX4_init 53 = .ok (.iastore, 1) := by decide +kernel
theorem dX4_init_54 : decode cX4_init 54 = .ok (.putfield 28, 3) := by decide +kernel
theorem dX4_init_57 : decode cX4_init 57 = .ok (.aload_n 0, 1) := by decide +kernel
theorem dX4_init_58 : decode cX4_init 58 = .ok (.ldc 32, 2) := by decide +kernel
theorem dX4_init_60 : decode cX4_init 60 = .ok (.putfield 33, 3) := by decide +kernel
theorem dX4_init_63 : decode cX4_init 63 = .ok (.return_, 1) := by decide +kernel
theorem dX4_copyFrom_0 : decode cX4_copyFrom 0 = .ok (.aload_n 0, 1) := by decide +kernel
theorem dX4_copyFrom_1 : decode cX4_copyFrom 1 = .ok (.getfield 12, 3) := by decide +kernel
theorem dX4_copyFrom_4 : decode cX4_copyFrom 4 = .ok (.aload_n 1, 1) := by decide +kernel
theorem dX4_copyFrom_5 : decode cX4_copyFrom 5 = .ok (.getfield 12, 3) := by decide +kernel
theorem dX4_copyFrom_8 : decode cX4_copyFrom 8 = .ok (.invokevirtual 37, 3) := by decide +kernel
theorem dX4_copyFrom_11 : decode cX4_copyFrom 11 = .ok (.aload_n 0, 1) := by decide +kernel
theorem dX4_copyFrom_12 : decode cX4_copyFrom 12 = .ok (.getfield 21, 3) := by decide +kernel
theorem dX4_copyFrom_15 : decode cX4_copyFrom 15 = .ok (.aload_n 1, 1) := by decide +kernel
theorem dX4_copyFrom_16 : decode cX4_copyFrom 16 = .ok (.getfield 21, 3) := by decide +kernel
theorem dX4_copyFrom_19 : decode cX4_copyFrom 19 = .ok (.invokevirtual 41, 3) := by decide +kernel
theorem dX4_copyFrom_22 : decode cX4_copyFrom 22 = .ok (.aload_n 0, 1) := by decide +kernel
theorem dX4_copyFrom_23 : decode cX4_copyFrom 23 = .ok (.getfield 25, 3) := by decide +kernel
theorem dX4_copyFrom_26 : decode cX4_copyFrom 26 = .ok (.aload_n 1, 1) := by decide +kernel
theorem dX4_copyFrom_27 : decode cX4_copyFrom 27 = .ok (.getfield 25, 3) := by decide +kernel
theorem dX4_copyFrom_30 : decode cX4_copyFrom 30 = .ok (.invokevirtual 41, 3) := by decide +kernel
theorem dX4_copyFrom_33 : decode cX4_copyFrom 33 = .ok (.aload_n 1, 1) := by decide +kernel
theorem dX4_copyFrom_34 : decode cX4_copyFrom 34 = .ok (.getfield 28, 3) := by decide +kernel
theorem dX4_copyFrom_37 : decode cX4_copyFrom 37 = .ok (.aload_n 0, 1) := by decide +kernel
theorem dX4_copyFrom_38 : decode cX4_copyFrom 38 = .ok (.getfield 28, 3) := by decide +kernel
theorem dX4_copyFrom_41 : decode cX4_copyFrom 41 = .ok (.invokestatic 44, 3) := by decide +kernel
theorem dX4_copyFrom_44 : decode cX4_copyFrom 44 = .ok (.aload_n 0, 1) := by decide +kernel
theorem dX4_copyFrom_45 : decode cX4_copyFrom 45 = .ok (.aload_n 1, 1) := by decide +kernel
theorem dX4_copyFrom_46 : decode cX4_copyFrom 46 = .ok (.getfield 33, 3) := by decide +kernel
theorem dX4_copyFrom_49 : decode cX4_copyFrom 49 = .ok (.putfield 33, 3) := by decide +kernel
theorem dX4_copyFrom_52 : decode cX4_copyFrom 52 = .ok (.aload_n 0, 1) := by decide +kernel
theorem dX4_copyFrom_53 : decode cX4_copyFrom 53 = .ok (.aload_n 1, 1) := by decide +kernel
theorem dX4_copyFrom_54 : decode cX4_copyFrom 54 = .ok (.getfield 48, 3) := by decide +kernel
theorem dX4_copyFrom_57 : decode cX4_copyFrom 57 = .ok (.putfield 48, 3) := by decide +kernel
theorem dX4_copyFrom_60 : decode cX4_copyFrom 60 = .ok (.aload_n 0, 1) := by decide +kernel
theorem dX4_copyFrom_61 : decode cX4_copyFrom 61 = .ok (.aload_n 1, 1) := by decide +kernel
theorem dX4_copyFrom_62 : decode cX4_copyFrom 62 = .ok (.getfield 51, 3) := by decide +kernel
theorem dX4_copyFrom_65 : decode cX4_copyFrom 65 = .ok (.putfield 51, 3) := by decide +kernel
theorem dX4_copyFrom_68 : decode cX4_copyFrom 68 = .ok (.aload_n 0, 1) := by decide +kernel
theorem dX4_copyFrom_69 : decode cX4_copyFrom 69 = .ok (.aload_n 1, 1) := by decide +kernel
theorem dX4_copyFrom_70 : decode cX4_copyFrom 70 = .ok (.getfield 54, 3) := by decide +kernel
theorem dX4_copyFrom_73 : decode cX4_copyFrom 73 = .ok (.putfield 54, 3) := by decide +kernel
theorem dX4_copyFrom_76 : decode cX4_copyFrom 76 = .ok (.aload_n 0, 1) := by decide +kernel
theorem dX4_copyFrom_77 : decode cX4_copyFrom 77 = .ok (.aload_n 1, 1) := by decide +kernel
theorem dX4_copyFrom_78 : decode cX4_copyFrom 78 = .ok (.getfield 58, 3) := by decide +kernel
theorem dX4_copyFrom_81 : decode cX4_copyFrom 81 = .ok (.putfield 58, 3) := by decide +kernel
theorem dX4_copyFrom_84 : decode cX4_copyFrom 84 = .ok (.aload_n 0, 1) := by decide +kernel
theorem dX4_copyFrom_85 : decode cX4_copyFrom 85 = .ok (.aload_n 1, 1) := by decide +kernel
theorem dX4_copyFrom_86 : decode cX4_copyFrom 86 = .ok (.getfield 61, 3) := by decide +kernel
theorem dX4_copyFrom_89 : decode cX4_copyFrom 89 = .ok (.putfield 61, 3) := by decide +kernel
theorem dX4_copyFrom_92 : decode cX4_copyFrom 92 = .ok (.aload_n 0, 1) := by decide +kernel
theorem dX4_copyFrom_93 : decode cX4_copyFrom 93 = .ok (.aload_n 1, 1) := by decide +kernel
theorem dX4_copyFrom_94 : decode cX4_copyFrom 94 = .ok (.getfield 64, 3) := by decide +kernel
theorem dX4_copyFrom_97 : decode cX4_copyFrom 97 = .ok (.putfield 64, 3) := by decide +kernel
theorem dX4_copyFrom_100 : decode cX4_copyFrom 100 = .ok (.return_, 1) := by decide +kernel
theorem dX4_scribeOf_0 : decode cX4_scribeOf 0 = .ok (.iload_n 1, 1) := by decide +kernel
theorem dX4_scribeOf_1 : decode cX4_scribeOf 1 = .ok (.ifCond .ne 10, 3) := by decide +kernel
theorem dX4_scribeOf_4 : decode cX4_scribeOf 4 = .ok (.aload_n 0, 1) := by decide +kernel
theorem dX4_scribeOf_5 : decode cX4_scribeOf 5 = .ok (.getfield 21, 3) := by decide +kernel
theorem dX4_scribeOf_8 : decode cX4_scribeOf 8 = .ok (.goto 7, 3) := by decide +kernel
theorem dX4_scribeOf_11 : decode cX4_scribeOf 11 = .ok (.aload_n 0, 1) := by decide +kernel
theorem dX4_scribeOf_12 : decode cX4_scribeOf 12 = .ok (.getfield 25, 3) := by decide +kernel
theorem dX4_scribeOf_15 : decode cX4_scribeOf 15 = .ok (.areturn, 1) := by decide +kernel
theorem dX4_beginPage_0 : decode cX4_beginPage 0 = .ok (.aload_n 0, 1) := by decide +kernel
theorem dX4_beginPage_1 : decode cX4_beginPage 1 = .ok (.getfield 12, 3) := by decide +kernel
theorem dX4_beginPage_4 : decode cX4_beginPage 4 = .ok (.aload_n 1, 1) := by decide +kernel
theorem dX4_beginPage_5 : decode cX4_beginPage 5 = .ok (.invokevirtual 67, 3) := by decide +kernel
theorem dX4_beginPage_8 : decode cX4_beginPage 8 = .ok (.aload_n 0, 1) := by decide +kernel
theorem dX4_beginPage_9 : decode cX4_beginPage 9 = .ok (.getfield 21, 3) := by decide +kernel
theorem dX4_beginPage_12 : decode cX4_beginPage 12 = .ok (.invokevirtual 71, 3) := by decide +kernel
theorem dX4_beginPage_15 : decode cX4_beginPage 15 = .ok (.aload_n 0, 1) := by decide +kernel
theorem dX4_beginPage_16 : decode cX4_beginPage 16 = .ok (.getfield 25, 3) := by decide +kernel
theorem dX4_beginPage_19 : decode cX4_beginPage 19 = .ok (.invokevirtual 71, 3) := by decide +kernel
theorem dX4_beginPage_22 : decode cX4_beginPage 22 = .ok (.aload_n 0, 1) := by decide +kernel
theorem dX4_beginPage_23 : decode cX4_beginPage 23 = .ok (.dup, 1) := by decide +kernel
theorem dX4_beginPage_24 : decode cX4_beginPage 24 = .ok (.getfield 58, 3) := by decide +kernel
theorem dX4_beginPage_27 : decode cX4_beginPage 27 = .ok (.iconst 1, 1) := by decide +kernel
theorem dX4_beginPage_28 : decode cX4_beginPage 28 = .ok (.iadd, 1) := by decide +kernel
theorem dX4_beginPage_29 : decode cX4_beginPage 29 = .ok (.putfield 58, 3) := by decide +kernel
theorem dX4_beginPage_32 : decode cX4_beginPage 32 = .ok (.return_, 1) := by decide +kernel
theorem dX4_lettersOnPage_0 : decode cX4_lettersOnPage 0 = .ok (.aload_n 0, 1) := by decide +kernel
theorem dX4_lettersOnPage_1 : decode cX4_lettersOnPage 1 = .ok (.getfield 21, 3) := by decide +kernel
theorem dX4_lettersOnPage_4 : decode cX4_lettersOnPage 4 = .ok (.getfield 74, 3) := by decide +kernel
theorem dX4_lettersOnPage_7 : decode cX4_lettersOnPage 7 = .ok (.aload_n 0, 1) := by decide +kernel
theorem dX4_lettersOnPage_8 : decode cX4_lettersOnPage 8 = .ok (.getfield 25, 3) := by decide +kernel
theorem dX4_lettersOnPage_11 : decode cX4_lettersOnPage 11 = .ok (.getfield 74, 3) := by decide +kernel
theorem dX4_lettersOnPage_14 : decode cX4_lettersOnPage 14 = .ok (.iadd, 1) := by decide +kernel
theorem dX4_lettersOnPage_15 : decode cX4_lettersOnPage 15 = .ok (.ireturn, 1) := by decide +kernel
theorem dX4_isDone_0 : decode cX4_isDone 0 = .ok (.aload_n 0, 1) := by decide +kernel
theorem dX4_isDone_1 : decode cX4_isDone 1 = .ok (.invokevirtual 75, 3) := by decide +kernel
theorem dX4_isDone_4 : decode cX4_isDone 4 = .ok (.aload_n 0, 1) := by decide +kernel
theorem dX4_isDone_5 : decode cX4_isDone 5 = .ok (.getfield 12, 3) := by decide +kernel
theorem dX4_isDone_8 : decode cX4_isDone 8 = .ok (.getfield 79, 3) := by decide +kernel
theorem dX4_isDone_11 : decode cX4_isDone 11 = .ok (.if_icmp .lt 7, 3) := by decide +kernel
theorem dX4_isDone_14 : decode cX4_isDone 14 = .ok (.iconst 1, 1) := by decide +kernel
theorem dX4_isDone_15 : decode cX4_isDone 15 = .ok (.goto 4, 3) := by decide +kernel
theorem dX4_isDone_18 : decode cX4_isDone 18 = .ok (.iconst 0, 1) := by decide +kernel
theorem dX4_isDone_19 : decode cX4_isDone 19 = .ok (.ireturn, 1) := by decide +kernel
theorem dX4_nextPlaceOf_0 : decode cX4_nextPlaceOf 0 = .ok (.aload_n 0, 1) := by decide +kernel
theorem dX4_nextPlaceOf_1 : decode cX4_nextPlaceOf 1 = .ok (.iload_n 1, 1) := by decide +kernel
theorem dX4_nextPlaceOf_2 : decode cX4_nextPlaceOf 2 = .ok (.invokevirtual 82, 3) := by decide +kernel
theorem dX4_nextPlaceOf_5 : decode cX4_nextPlaceOf 5 = .ok (.getfield 74, 3) := by decide +kernel
theorem dX4_nextPlaceOf_8 : decode cX4_nextPlaceOf 8 = .ok (.istore_n 2, 1) := by decide +kernel
theorem dX4_nextPlaceOf_9 : decode cX4_nextPlaceOf 9 = .ok (.iload_n 2, 1) := by decide +kernel
theorem dX4_nextPlaceOf_10 : decode cX4_nextPlaceOf 10 = .ok (.aload_n 0, 1) := by decide +kernel
theorem dX4_nextPlaceOf_11 : decode cX4_nextPlaceOf 11 = .ok (.getfield 12, 3) := by decide +kernel
theorem dX4_nextPlaceOf_14 : decode cX4_nextPlaceOf 14 = .ok (.getfield 79, 3) := by decide +kernel
theorem dX4_nextPlaceOf_17 : decode cX4_nextPlaceOf 17 = .ok (.iconst 2, 1) := by decide +kernel
theorem dX4_nextPlaceOf_18 : decode cX4_nextPlaceOf 18 = .ok (.idiv, 1) := by decide +kernel
theorem dX4_nextPlaceOf_19 : decode cX4_nextPlaceOf 19 = .ok (.if_icmp .lt 6, 3) := by decide +kernel
theorem dX4_nextPlaceOf_22 : decode cX4_nextPlaceOf 22 = .ok (.bipush (-5), 2) := by decide +kernel
theorem dX4_nextPlaceOf_24 : decode cX4_nextPlaceOf 24 = .ok (.ireturn, 1) := by decide +kernel
theorem dX4_nextPlaceOf_25 : decode cX4_nextPlaceOf 25 = .ok (.iload_n 1, 1) := by decide +kernel
theorem dX4_nextPlaceOf_26 : decode cX4_nextPlaceOf 26 = .ok (.ifCond .ne 7, 3) := by decide +kernel
theorem dX4_nextPlaceOf_29 : decode cX4_nextPlaceOf 29 = .ok (.iload_n 2, 1) := by decide +kernel
theorem dX4_nextPlaceOf_30 : decode cX4_nextPlaceOf 30 = .ok (.goto 11, 3) := by decide +kernel
theorem dX4_nextPlaceOf_33 : decode cX4_nextPlaceOf 33 = .ok (.aload_n 0, 1) := by decide +kernel
theorem dX4_nextPlaceOf_34 : decode cX4_nextPlaceOf 34 = .ok (.getfield 12, 3) := by decide +kernel
theorem dX4_nextPlaceOf_37 : decode cX4_nextPlaceOf 37 = .ok (.iload_n 2, 1) := by decide +kernel
theorem dX4_nextPlaceOf_38 : decode cX4_nextPlaceOf 38 = .ok (.invokevirtual 86, 3) := by decide +kernel
theorem dX4_nextPlaceOf_41 : decode cX4_nextPlaceOf 41 = .ok (.ireturn, 1) := by decide +kernel
theorem dX4_isBegun_0 : decode cX4_isBegun 0 = .ok (.aload_n 0, 1) := by decide +kernel
theorem dX4_isBegun_1 : decode cX4_isBegun 1 = .ok (.getfield 12, 3) := by decide +kernel
theorem dX4_isBegun_4 : decode cX4_isBegun 4 = .ok (.iload_n 1, 1) := by decide +kernel
theorem dX4_isBegun_5 : decode cX4_isBegun 5 = .ok (.invokevirtual 90, 3) := by decide +kernel
theorem dX4_isBegun_8 : decode cX4_isBegun 8 = .ok (.ifCond .ne 41, 3) := by decide +kernel
theorem dX4_isBegun_11 : decode cX4_isBegun 11 = .ok (.aload_n 0, 1) := by decide +kernel
theorem dX4_isBegun_12 : decode cX4_isBegun 12 = .ok (.getfield 21, 3) := by decide +kernel
theorem dX4_isBegun_15 : decode cX4_isBegun 15 = .ok (.getfield 94, 3) := by decide +kernel
theorem dX4_isBegun_18 : decode cX4_isBegun 18 = .ok (.ifCond .le 12, 3) := by decide +kernel
theorem dX4_isBegun_21 : decode cX4_isBegun 21 = .ok (.aload_n 0, 1) := by decide +kernel
theorem dX4_isBegun_22 : decode cX4_isBegun 22 = .ok (.iconst 0, 1) := by decide +kernel
theorem dX4_isBegun_23 : decode cX4_isBegun 23 = .ok (.invokevirtual 97, 3) := by decide +kernel
theorem dX4_isBegun_26 : decode cX4_isBegun 26 = .ok (.iload_n 1, 1) := by decide +kernel
theorem dX4_isBegun_27 : decode cX4_isBegun 27 = .ok (.if_icmp .eq 22, 3) := by decide +kernel
theorem dX4_isBegun_30 : decode cX4_isBegun 30 = .ok (.aload_n 0, 1) := by decide +kernel
theorem dX4_isBegun_31 : decode cX4_isBegun 31 = .ok (.getfield 25, 3) := by decide +kernel
theorem dX4_isBegun_34 : decode cX4_isBegun 34 = .ok (.getfield 94, 3) := by decide +kernel
theorem dX4_isBegun_37 : decode cX4_isBegun 37 = .ok (.ifCond .le 16, 3) := by decide +kernel
theorem dX4_isBegun_40 : decode cX4_isBegun 40 = .ok (.aload_n 0, 1) := by decide +kernel
theorem dX4_isBegun_41 : decode cX4_isBegun 41 = .ok (.iconst 1, 1) := by decide +kernel
theorem dX4_isBegun_42 : decode cX4_isBegun 42 = .ok (.invokevirtual 97, 3) := by decide +kernel
theorem dX4_isBegun_45 : decode cX4_isBegun 45 = .ok (.iload_n 1, 1) := by decide +kernel
theorem dX4_isBegun_46 : decode cX4_isBegun 46 = .ok (.if_icmp .ne 7, 3) := by decide +kernel
theorem dX4_isBegun_49 : decode cX4_isBegun 49 = .ok (.iconst 1, 1) := by decide +kernel
theorem dX4_isBegun_50 : decode cX4_isBegun 50 = .ok (.goto 4, 3) := by decide +kernel
theorem dX4_isBegun_53 : decode cX4_isBegun 53 = .ok (.iconst 0, 1) := by decide +kernel
theorem dX4_isBegun_54 : decode cX4_isBegun 54 = .ok (.ireturn, 1) := by decide +kernel
theorem dX4_correctionsLeft_0 : decode cX4_correctionsLeft 0 = .ok (.iconst 0, 1) := by decide +kernel
theorem dX4_correctionsLeft_1 : decode cX4_correctionsLeft 1 = .ok (.aload_n 0, 1) := by decide +kernel
theorem dX4_correctionsLeft_2 : decode cX4_correctionsLeft 2 = .ok (.getfield 28, 3) := by decide +kernel
theorem dX4_correctionsLeft_5 : decode cX4_correctionsLeft 5 = .ok (.iconst 2, 1) := by decide +kernel
theorem dX4_correctionsLeft_6 : decode cX4_correctionsLeft 6 = .ok (.invokestatic 100, 3) := by decide +kernel
theorem dX4_correctionsLeft_9 : decode cX4_correctionsLeft 9 = .ok (.aload_n 0, 1) := by decide +kernel
theorem dX4_correctionsLeft_10 : decode cX4_correctionsLeft 10 = .ok (.getfield 12, 3) := by decide +kernel
theorem dX4_correctionsLeft_13 : decode cX4_correctionsLeft 13 = .ok (.getfield 104, 3) := by decide +kernel
theorem dX4_correctionsLeft_16 : decode cX4_correctionsLeft 16 = .ok (.isub, 1) := by decide +kernel
theorem dX4_correctionsLeft_17 : decode cX4_correctionsLeft 17 = .ok (.invokestatic 107, 3) := by decide +kernel
theorem dX4_correctionsLeft_20 : decode cX4_correctionsLeft 20 = .ok (.ireturn, 1) := by decide +kernel
theorem dX4_canCorrect_0 : decode cX4_canCorrect 0 = .ok (.aload_n 0, 1) := by decide +kernel
theorem dX4_canCorrect_1 : decode cX4_canCorrect 1 = .ok (.getfield 12, 3) := by decide +kernel
theorem dX4_canCorrect_4 : decode cX4_canCorrect 4 = .ok (.iload_n 1, 1) := by decide +kernel
theorem dX4_canCorrect_5 : decode cX4_canCorrect 5 = .ok (.invokevirtual 90, 3) := by decide +kernel
theorem dX4_canCorrect_8 : decode cX4_canCorrect 8 = .ok (.ifCond .eq 36, 3) := by decide +kernel
theorem dX4_canCorrect_11 : decode cX4_canCorrect 11 = .ok (.aload_n 0, 1) := by decide +kernel
theorem dX4_canCorrect_12 : decode cX4_canCorrect 12 = .ok (.invokevirtual 113, 3) := by decide +kernel
theorem dX4_canCorrect_15 : decode cX4_canCorrect 15 = .ok (.ifCond .le 29, 3) := by decide +kernel
theorem dX4_canCorrect_18 : decode cX4_canCorrect 18 = .ok (.aload_n 0, 1) := by decide +kernel
theorem dX4_canCorrect_19 : decode cX4_canCorrect 19 = .ok (.getfield 33, 3) := by decide +kernel
theorem dX4_canCorrect_22 : decode cX4_canCorrect 22 = .ok (.aload_n 0, 1) := by decide +kernel
theorem dX4_canCorrect_23 : decode cX4_canCorrect 23 = .ok (.getfield 12, 3) := by decide +kernel
theorem dX4_canCorrect_26 : decode cX4_canCorrect 26 = .ok (.getfield 116, 3) := by decide +kernel
theorem dX4_canCorrect_29 : decode cX4_canCorrect 29 = .ok (.iload_n 1, 1) := by decide +kernel
theorem dX4_canCorrect_30 : decode cX4_canCorrect 30 = .ok (.invokestatic 100, 3) := by decide +kernel
theorem dX4_canCorrect_33 : decode cX4_canCorrect 33 = .ok (.invokestatic 119, 3) := by decide +kernel
theorem dX4_canCorrect_36 : decode cX4_canCorrect 36 = .ok (.fcmp .l, 1) := by decide +kernel
theorem dX4_canCorrect_37 : decode cX4_canCorrect 37 = .ok (.ifCond .lt 7, 3) := by decide +kernel
theorem dX4_canCorrect_40 : decode cX4_canCorrect 40 = .ok (.iconst 1, 1) := by decide +kernel
theorem dX4_canCorrect_41 : decode cX4_canCorrect 41 = .ok (.goto 4, 3) := by decide +kernel
theorem dX4_canCorrect_44 : decode cX4_canCorrect 44 = .ok (.iconst 0, 1) := by decide +kernel
theorem dX4_canCorrect_45 : decode cX4_canCorrect 45 = .ok (.ireturn, 1) := by decide +kernel
theorem dX4_makeCorrection_0 : decode cX4_makeCorrection 0 = .ok (.aload_n 0, 1) := by decide +kernel
theorem dX4_makeCorrection_1 : decode cX4_makeCorrection 1 = .ok (.getfield 12, 3) := by decide +kernel
theorem dX4_makeCorrection_4 : decode cX4_makeCorrection 4 = .ok (.getfield 116, 3) := by decide +kernel
theorem dX4_makeCorrection_7 : decode cX4_makeCorrection 7 = .ok (.iload_n 1, 1) := by decide +kernel
theorem dX4_makeCorrection_8 : decode cX4_makeCorrection 8 = .ok (.invokestatic 100, 3) := by decide +kernel
theorem dX4_makeCorrection_11 : decode cX4_makeCorrection 11 = .ok (.invokestatic 119, 3) := by decide +kernel
theorem dX4_makeCorrection_14 : decode cX4_makeCorrection 14 = .ok (.fstore_n 2, 1) := by decide +kernel
theorem dX4_makeCorrection_15 : decode cX4_makeCorrection 15 = .ok (.aload_n 0, 1) := by decide +kernel
theorem dX4_makeCorrection_16 : decode cX4_makeCorrection 16 = .ok (.dup, 1) := by decide +kernel
theorem dX4_makeCorrection_17 : decode cX4_makeCorrection 17 = .ok (.getfield 33, 3) := by decide +kernel
theorem dX4_makeCorrection_20 : decode cX4_makeCorrection 20 = .ok (.fload_n 2, 1) := by decide +kernel
theorem dX4_makeCorrection_21 : decode cX4_makeCorrection 21 = .ok (.fsub, 1) := by decide +kernel
theorem dX4_makeCorrection_22 : decode cX4_makeCorrection 22 = .ok (.putfield 33, 3) := by decide +kernel
theorem dX4_makeCorrection_25 : decode cX4_makeCorrection 25 = .ok (.aload_n 0, 1) := by decide +kernel
theorem dX4_makeCorrection_26 : decode cX4_makeCorrection 26 = .ok (.dup, 1) := by decide +kernel
theorem dX4_makeCorrection_27 : decode cX4_makeCorrection 27 = .ok (.getfield 51, 3) := by decide +kernel
theorem dX4_makeCorrection_30 : decode cX4_makeCorrection 30 = .ok (.fload_n 2, 1) := by decide +kernel
theorem dX4_makeCorrection_31 : decode cX4_makeCorrection 31 = .ok (.fadd, 1) := by decide +kernel
theorem dX4_makeCorrection_32 : decode cX4_makeCorrection 32 = .ok (.putfield 51, 3) := by decide +kernel
theorem dX4_makeCorrection_35 : decode cX4_makeCorrection 35 = .ok (.aload_n 0, 1) := by decide +kernel
theorem dX4_makeCorrection_36 : decode cX4_makeCorrection 36 = .ok (.getfield 12, 3) := by decide +kernel
theorem dX4_makeCorrection_39 : decode cX4_makeCorrection 39 = .ok (.iload_n 1, 1) := by decide +kernel
theorem dX4_makeCorrection_40 : decode cX4_makeCorrection 40 = .ok (.invokevirtual 123, 3) := by decide +kernel
theorem dX4_makeCorrection_43 : decode cX4_makeCorrection 43 = .ok (.return_, 1) := by decide +kernel
theorem dX4_deedOf_0 : decode cX4_deedOf 0 = .ok (.aload_n 0, 1) := by decide +kernel
theorem dX4_deedOf_1 : decode cX4_deedOf 1 = .ok (.iload_n 1, 1) := by decide +kernel
theorem dX4_deedOf_2 : decode cX4_deedOf 2 = .ok (.invokevirtual 82, 3) := by decide +kernel
theorem dX4_deedOf_5 : decode cX4_deedOf 5 = .ok (.astore_n 2, 1) := by decide +kernel
theorem dX4_deedOf_6 : decode cX4_deedOf 6 = .ok (.aload_n 2, 1) := by decide +kernel
theorem dX4_deedOf_7 : decode cX4_deedOf 7 = .ok (.getfield 127, 3) := by decide +kernel
theorem dX4_deedOf_10 : decode cX4_deedOf 10 = .ok (.ifCond .le 5, 3) := by decide +kernel
theorem dX4_deedOf_13 : decode cX4_deedOf 13 = .ok (.iconst 1, 1) := by decide +kernel
theorem dX4_deedOf_14 : decode cX4_deedOf 14 = .ok (.ireturn, 1) := by decide +kernel
theorem dX4_deedOf_15 : decode cX4_deedOf 15 = .ok (.aload_n 0, 1) := by decide +kernel
theorem dX4_deedOf_16 : decode cX4_deedOf 16 = .ok (.iload_n 1, 1) := by decide +kernel
theorem dX4_deedOf_17 : decode cX4_deedOf 17 = .ok (.invokevirtual 97, 3) := by decide +kernel
theorem dX4_deedOf_20 : decode cX4_deedOf 20 = .ok (.istore_n 3, 1) := by decide +kernel
theorem dX4_deedOf_21 : decode cX4_deedOf 21 = .ok (.iload_n 3, 1) := by decide +kernel
theorem dX4_deedOf_22 : decode cX4_deedOf 22 = .ok (.bipush (-5), 2) := by decide +kernel
theorem dX4_deedOf_24 : decode cX4_deedOf 24 = .ok (.if_icmp .ne 5, 3) := by decide +kernel
theorem dX4_deedOf_27 : decode cX4_deedOf 27 = .ok (.iconst 5, 1) := by decide +kernel
theorem dX4_deedOf_28 : decode cX4_deedOf 28 = .ok (.ireturn, 1) := by decide +kernel
theorem dX4_deedOf_29 : decode cX4_deedOf 29 = .ok (.aload_n 2, 1) := by decide +kernel
theorem dX4_deedOf_30 : decode cX4_deedOf 30 = .ok (.getfield 94, 3) := by decide +kernel
theorem dX4_deedOf_33 : decode cX4_deedOf 33 = .ok (.ifCond .gt 22, 3) := by decide +kernel
theorem dX4_deedOf_36 : decode cX4_deedOf 36 = .ok (.aload_n 2, 1) := by decide +kernel
theorem dX4_deedOf_37 : decode cX4_deedOf 37 = .ok (.getfield 130, 3) := by decide +kernel
theorem dX4_deedOf_40 : decode cX4_deedOf 40 = .ok (.aload_n 0, 1) := by decide +kernel
theorem dX4_deedOf_41 : decode cX4_deedOf 41 = .ok (.getfield 12, 3) := by decide +kernel
theorem dX4_deedOf_44 : decode cX4_deedOf 44 = .ok (.iload_n 3, 1) := by decide +kernel
theorem dX4_deedOf_45 : decode cX4_deedOf 45 = .ok (.invokevirtual 133, 3) := by decide +kernel
theorem dX4_deedOf_48 : decode cX4_deedOf 48 = .ok (.invokestatic 119, 3) := by decide +kernel
theorem dX4_deedOf_51 : decode cX4_deedOf 51 = .ok (.fcmp .l, 1) := by decide +kernel
theorem dX4_deedOf_52 : decode cX4_deedOf 52 = .ok (.ifCond .lt 5, 3) := by decide +kernel
theorem dX4_deedOf_55 : decode cX4_deedOf 55 = .ok (.iconst 0, 1) := by decide +kernel
theorem dX4_deedOf_56 : decode cX4_deedOf 56 = .ok (.ireturn, 1) := by decide +kernel
theorem dX4_deedOf_57 : decode cX4_deedOf 57 = .ok (.aload_n 0, 1) := by decide +kernel
theorem dX4_deedOf_58 : decode cX4_deedOf 58 = .ok (.iconst 1, 1) := by decide +kernel
theorem dX4_deedOf_59 : decode cX4_deedOf 59 = .ok (.iload_n 1, 1) := by decide +kernel
theorem dX4_deedOf_60 : decode cX4_deedOf 60 = .ok (.isub, 1) := by decide +kernel
theorem dX4_deedOf_61 : decode cX4_deedOf 61 = .ok (.invokevirtual 82, 3) := by decide +kernel
theorem dX4_deedOf_64 : decode cX4_deedOf 64 = .ok (.getfield 127, 3) := by decide +kernel
theorem dX4_deedOf_67 : decode cX4_deedOf 67 = .ok (.ifCond .le 5, 3) := by decide +kernel
theorem dX4_deedOf_70 : decode cX4_deedOf 70 = .ok (.iconst 3, 1) := by decide +kernel
theorem dX4_deedOf_71 : decode cX4_deedOf 71 = .ok (.ireturn, 1) := by decide +kernel
theorem dX4_deedOf_72 : decode cX4_deedOf 72 = .ok (.aload_n 0, 1) := by decide +kernel
theorem dX4_deedOf_73 : decode cX4_deedOf 73 = .ok (.getfield 33, 3) := by decide +kernel
theorem dX4_deedOf_76 : decode cX4_deedOf 76 = .ok (.fconst 0, 1) := by decide +kernel
theorem dX4_deedOf_77 : decode cX4_deedOf 77 = .ok (.fcmp .l, 1) := by decide +kernel
theorem dX4_deedOf_78 : decode cX4_deedOf 78 = .ok (.ifCond .le 7, 3) := by decide +kernel
theorem dX4_deedOf_81 : decode cX4_deedOf 81 = .ok (.iconst 2, 1) := by decide +kernel
theorem dX4_deedOf_82 : decode cX4_deedOf 82 = .ok (.goto 4, 3) := by decide +kernel
theorem dX4_deedOf_85 : decode cX4_deedOf 85 = .ok (.iconst 4, 1) := by decide +kernel
theorem dX4_deedOf_86 : decode cX4_deedOf 86 = .ok (.ireturn, 1) := by decide +kernel
theorem dX4_takeTurn_0 : decode cX4_takeTurn 0 = .ok (.aload_n 0, 1) := by decide +kernel
theorem dX4_takeTurn_1 : decode cX4_takeTurn 1 = .ok (.iload_n 1, 1) := by decide +kernel
theorem dX4_takeTurn_2 : decode cX4_takeTurn 2 = .ok (.invokevirtual 82, 3) := by decide +kernel
theorem dX4_takeTurn_5 : decode cX4_takeTurn 5 = .ok (.astore_n 2, 1) := by decide +kernel
theorem dX4_takeTurn_6 : decode cX4_takeTurn 6 = .ok (.aload_n 0, 1) := by decide +kernel
theorem dX4_takeTurn_7 : decode cX4_takeTurn 7 = .ok (.iload_n 1, 1) := by decide +kernel
theorem dX4_takeTurn_8 : decode cX4_takeTurn 8 = .ok (.invokevirtual 136, 3) := by decide +kernel
theorem dX4_takeTurn_11 : decode cX4_takeTurn 11 = .ok (.istore_n 3, 1) := by decide +kernel
theorem dX4_takeTurn_12 : decode cX4_takeTurn 12 = .ok (.iload_n 3, 1) := by decide +kernel
theorem dX4_takeTurn_13 : decode cX4_takeTurn 13 = .ok (.tableswitch 79 0 4 #[35, 43, 51, 66, 66], 35) := by decide +kernel
theorem dX4_takeTurn_48 : decode cX4_takeTurn 48 = .ok (.aload_n 0, 1) := by decide +kernel
theorem dX4_takeTurn_49 : decode cX4_takeTurn 49 = .ok (.iload_n 1, 1) := by decide +kernel
theorem dX4_takeTurn_50 : decode cX4_takeTurn 50 = .ok (.invokevirtual 139, 3) := by decide +kernel
theorem dX4_takeTurn_53 : decode cX4_takeTurn 53 = .ok (.goto 39, 3) := by decide +kernel
theorem dX4_takeTurn_56 : decode cX4_takeTurn 56 = .ok (.aload_n 0, 1) := by decide +kernel
theorem dX4_takeTurn_57 : decode cX4_takeTurn 57 = .ok (.aload_n 2, 1) := by decide +kernel
theorem dX4_takeTurn_58 : decode cX4_takeTurn 58 = .ok (.invokevirtual 142, 3) := by decide +kernel
theorem dX4_takeTurn_61 : decode cX4_takeTurn 61 = .ok (.goto 31, 3) := by decide +kernel
theorem dX4_takeTurn_64 : decode cX4_takeTurn 64 = .ok (.aload_n 2, 1) := by decide +kernel
theorem dX4_takeTurn_65 : decode cX4_takeTurn 65 = .ok (.aload_n 0, 1) := by decide +kernel
theorem dX4_takeTurn_66 : decode cX4_takeTurn 66 = .ok (.getfield 28, 3) := by decide +kernel
theorem dX4_takeTurn_69 : decode cX4_takeTurn 69 = .ok (.iconst 0, 1) := by decide +kernel
theorem dX4_takeTurn_70 : decode cX4_takeTurn 70 = .ok (.invokestatic 100, 3) := by decide +kernel
theorem dX4_takeTurn_73 : decode cX4_takeTurn 73 = .ok (.putfield 127, 3) := by decide +kernel
theorem dX4_takeTurn_76 : decode cX4_takeTurn 76 = .ok (.goto 16, 3) := by decide +kernel
theorem dX4_takeTurn_79 : decode cX4_takeTurn 79 = .ok (.aload_n 2, 1) := by decide +kernel
theorem dX4_takeTurn_80 : decode cX4_takeTurn 80 = .ok (.dup, 1) := by decide +kernel
theorem dX4_takeTurn_81 : decode cX4_takeTurn 81 = .ok (.getfield 145, 3) := by decide +kernel
theorem dX4_takeTurn_84 : decode cX4_takeTurn 84 = .ok (.iconst 1, 1) := by decide +kernel
theorem dX4_takeTurn_85 : decode cX4_takeTurn 85 = .ok (.iadd, 1) := by decide +kernel
theorem dX4_takeTurn_86 : decode cX4_takeTurn 86 = .ok (.putfield 145, 3) := by decide +kernel
theorem dX4_takeTurn_89 : decode cX4_takeTurn 89 = .ok (.goto 3, 3) := by decide +kernel
theorem dX4_takeTurn_92 : decode cX4_takeTurn 92 = .ok (.iload_n 3, 1) := by decide +kernel
theorem dX4_takeTurn_93 : decode cX4_takeTurn 93 = .ok (.ireturn, 1) := by decide +kernel
theorem dX4_goOnDipping_0 : decode cX4_goOnDipping 0 = .ok (.aload_n 1, 1) := by decide +kernel
theorem dX4_goOnDipping_1 : decode cX4_goOnDipping 1 = .ok (.dup, 1) := by decide +kernel
theorem dX4_goOnDipping_2 : decode cX4_goOnDipping 2 = .ok (.getfield 127, 3) := by decide +kernel
theorem dX4_goOnDipping_5 : decode cX4_goOnDipping 5 = .ok (.iconst 1, 1) := by decide +kernel
theorem dX4_goOnDipping_6 : decode cX4_goOnDipping 6 = .ok (.isub, 1) := by decide +kernel
theorem dX4_goOnDipping_7 : decode cX4_goOnDipping 7 = .ok (.putfield 127, 3) := by decide +kernel
theorem dX4_goOnDipping_10 : decode cX4_goOnDipping 10 = .ok (.aload_n 1, 1) := by decide +kernel
theorem dX4_goOnDipping_11 : decode cX4_goOnDipping 11 = .ok (.getfield 127, 3) := by decide +kernel
theorem dX4_goOnDipping_14 : decode cX4_goOnDipping 14 = .ok (.ifCond .le 4, 3) := by decide +kernel
theorem dX4_goOnDipping_17 : decode cX4_goOnDipping 17 = .ok (.return_, 1) := by decide +kernel
theorem dX4_goOnDipping_18 : decode cX4_goOnDipping 18 = .ok (.fconst 1, 1) := by decide +kernel
theorem dX4_goOnDipping_19 : decode cX4_goOnDipping 19 = .ok (.aload_n 1, 1) := by decide +kernel
theorem dX4_goOnDipping_20 : decode cX4_goOnDipping 20 = .ok (.getfield 130, 3) := by decide +kernel
theorem dX4_goOnDipping_23 : decode cX4_goOnDipping 23 = .ok (.fsub, 1) := by decide +kernel
theorem dX4_goOnDipping_24 : decode cX4_goOnDipping 24 = .ok (.fstore_n 2, 1) := by decide +kernel
theorem dX4_goOnDipping_25 : decode cX4_goOnDipping 25 = .ok (.aload_n 0, 1) := by decide +kernel
theorem dX4_goOnDipping_26 : decode cX4_goOnDipping 26 = .ok (.getfield 33, 3) := by decide +kernel
theorem dX4_goOnDipping_29 : decode cX4_goOnDipping 29 = .ok (.fload_n 2, 1) := by decide +kernel
theorem dX4_goOnDipping_30 : decode cX4_goOnDipping 30 = .ok (.fcmp .g, 1) := by decide +kernel
theorem dX4_goOnDipping_31 : decode cX4_goOnDipping 31 = .ok (.ifCond .ge 10, 3) := by decide +kernel
theorem dX4_goOnDipping_34 : decode cX4_goOnDipping 34 = .ok (.aload_n 0, 1) := by decide +kernel
theorem dX4_goOnDipping_35 : decode cX4_goOnDipping 35 = .ok (.getfield 33, 3) := by decide +kernel
theorem dX4_goOnDipping_38 : decode cX4_goOnDipping 38 = .ok (.goto 4, 3) := by decide +kernel
theorem dX4_goOnDipping_41 : decode cX4_goOnDipping 41 = .ok (.fload_n 2, 1) := by decide +kernel
theorem dX4_goOnDipping_42 : decode cX4_goOnDipping 42 = .ok (.fstore_n 3, 1) := by decide +kernel
theorem dX4_goOnDipping_43 : decode cX4_goOnDipping 43 = .ok (.aload_n 1, 1) := by decide +kernel
theorem dX4_goOnDipping_44 : decode cX4_goOnDipping 44 = .ok (.dup, 1) := by decide +kernel
theorem dX4_goOnDipping_45 : decode cX4_goOnDipping 45 = .ok (.getfield 130, 3) := by decide +kernel
theorem dX4_goOnDipping_48 : decode cX4_goOnDipping 48 = .ok (.fload_n 3, 1) := by decide +kernel
theorem dX4_goOnDipping_49 : decode cX4_goOnDipping 49 = .ok (.fadd, 1) := by decide +kernel
theorem dX4_goOnDipping_50 : decode cX4_goOnDipping 50 = .ok (.putfield 130, 3) := by decide +kernel
theorem dX4_goOnDipping_53 : decode cX4_goOnDipping 53 = .ok (.aload_n 0, 1) := by decide +kernel
theorem dX4_goOnDipping_54 : decode cX4_goOnDipping 54 = .ok (.dup, 1) := by decide +kernel
theorem dX4_goOnDipping_55 : decode cX4_goOnDipping 55 = .ok (.getfield 33, 3) := by decide +kernel
theorem dX4_goOnDipping_58 : decode cX4_goOnDipping 58 = .ok (.fload_n 3, 1) := by decide +kernel
theorem dX4_goOnDipping_59 : decode cX4_goOnDipping 59 = .ok (.fsub, 1) := by decide +kernel
theorem dX4_goOnDipping_60 : decode cX4_goOnDipping 60 = .ok (.putfield 33, 3) := by decide +kernel
theorem dX4_goOnDipping_63 : decode cX4_goOnDipping 63 = .ok (.aload_n 1, 1) := by decide +kernel
theorem dX4_goOnDipping_64 : decode cX4_goOnDipping 64 = .ok (.dup, 1) := by decide +kernel
theorem dX4_goOnDipping_65 : decode cX4_goOnDipping 65 = .ok (.getfield 148, 3) := by decide +kernel
theorem dX4_goOnDipping_68 : decode cX4_goOnDipping 68 = .ok (.iconst 1, 1) := by decide +kernel
theorem dX4_goOnDipping_69 : decode cX4_goOnDipping 69 = .ok (.iadd, 1) := by decide +kernel
theorem dX4_goOnDipping_70 : decode cX4_goOnDipping 70 = .ok (.putfield 148, 3) := by decide +kernel
theorem dX4_goOnDipping_73 : decode cX4_goOnDipping 73 = .ok (.return_, 1) := by decide +kernel
theorem dX4_spendTick_0 : decode cX4_spendTick 0 = .ok (.aload_n 0, 1) := by decide +kernel
theorem dX4_spendTick_1 : decode cX4_spendTick 1 = .ok (.iload_n 1, 1) := by decide +kernel
theorem dX4_spendTick_2 : decode cX4_spendTick 2 = .ok (.invokevirtual 82, 3) := by decide +kernel
theorem dX4_spendTick_5 : decode cX4_spendTick 5 = .ok (.astore_n 2, 1) := by decide +kernel
theorem dX4_spendTick_6 : decode cX4_spendTick 6 = .ok (.aload_n 2, 1) := by decide +kernel
theorem dX4_spendTick_7 : decode cX4_spendTick 7 = .ok (.dup, 1) := by decide +kernel
theorem dX4_spendTick_8 : decode cX4_spendTick 8 = .ok (.getfield 94, 3) := by decide +kernel
theorem dX4_spendTick_11 : decode cX4_spendTick 11 = .ok (.iconst 1, 1) := by decide +kernel
theorem dX4_spendTick_12 : decode cX4_spendTick 12 = .ok (.iadd, 1) := by decide +kernel
theorem dX4_spendTick_13 : decode cX4_spendTick 13 = .ok (.putfield 94, 3) := by decide +kernel
theorem dX4_spendTick_16 : decode cX4_spendTick 16 = .ok (.aload_n 2, 1) := by decide +kernel
theorem dX4_spendTick_17 : decode cX4_spendTick 17 = .ok (.getfield 94, 3) := by decide +kernel
theorem dX4_spendTick_20 : decode cX4_spendTick 20 = .ok (.aload_n 2, 1) := by decide +kernel
theorem dX4_spendTick_21 : decode cX4_spendTick 21 = .ok (.getfield 151, 3) := by decide +kernel
theorem dX4_spendTick_24 : decode cX4_spendTick 24 = .ok (.if_icmp .ge 4, 3) := by decide +kernel
theorem dX4_spendTick_27 : decode cX4_spendTick 27 = .ok (.return_, 1) := by decide +kernel
theorem dX4_spendTick_28 : decode cX4_spendTick 28 = .ok (.aload_n 0, 1) := by decide +kernel
theorem dX4_spendTick_29 : decode cX4_spendTick 29 = .ok (.iload_n 1, 1) := by decide +kernel
theorem dX4_spendTick_30 : decode cX4_spendTick 30 = .ok (.invokevirtual 97, 3) := by decide +kernel
theorem dX4_spendTick_33 : decode cX4_spendTick 33 = .ok (.istore_n 3, 1) := by decide +kernel
theorem dX4_spendTick_34 : decode cX4_spendTick 34 = .ok (.aload_n 0, 1) := by decide +kernel
theorem dX4_spendTick_35 : decode cX4_spendTick 35 = .ok (.getfield 12, 3) := by decide +kernel
theorem dX4_spendTick_38 : decode cX4_spendTick 38 = .ok (.iload_n 3, 1) := by decide +kernel
theorem dX4_spendTick_39 : decode cX4_spendTick 39 = .ok (.invokevirtual 133, 3) := by decide +kernel
theorem dX4_spendTick_42 : decode cX4_spendTick 42 = .ok (.istore 4, 2) := by decide +kernel
theorem dX4_spendTick_44 : decode cX4_spendTick 44 = .ok (.iload 4, 2) := by decide +kernel
theorem dX4_spendTick_46 : decode cX4_spendTick 46 = .ok (.invokestatic 119, 3) := by decide +kernel
theorem dX4_spendTick_49 : decode cX4_spendTick 49 = .ok (.fstore 5, 2) := by decide +kernel
theorem dX4_spendTick_51 : decode cX4_spendTick 51 = .ok (.aload_n 2, 1) := by decide +kernel
theorem dX4_spendTick_52 : decode cX4_spendTick 52 = .ok (.getfield 130, 3) := by decide +kernel
theorem dX4_spendTick_55 : decode cX4_spendTick 55 = .ok (.aload_n 0, 1) := by decide +kernel
theorem dX4_spendTick_56 : decode cX4_spendTick 56 = .ok (.getfield 28, 3) := by decide +kernel
theorem dX4_spendTick_59 : decode cX4_spendTick 59 = .ok (.iconst 1, 1) := by decide +kernel
theorem dX4_spendTick_60 : decode cX4_spendTick 60 = .ok (.invokestatic 100, 3) := by decide +kernel
theorem dX4_spendTick_63 : decode cX4_spendTick 63 = .ok (.i2f, 1) := by decide +kernel
theorem dX4_spendTick_64 : decode cX4_spendTick 64 = .ok (.ldc 154, 2) := by decide +kernel
theorem dX4_spendTick_66 : decode cX4_spendTick 66 = .ok (.fdiv, 1) := by decide +kernel
theorem dX4_spendTick_67 : decode cX4_spendTick 67 = .ok (.fcmp .l, 1) := by decide +kernel
theorem dX4_spendTick_68 : decode cX4_spendTick 68 = .ok (.ifCond .le 7, 3) := by decide +kernel
theorem dX4_spendTick_71 : decode cX4_spendTick 71 = .ok (.iconst 1, 1) := by decide +kernel
theorem dX4_spendTick_72 : decode cX4_spendTick 72 = .ok (.goto 4, 3) := by decide +kernel
theorem dX4_spendTick_75 : decode cX4_spendTick 75 = .ok (.iconst 0, 1) := by decide +kernel
theorem dX4_spendTick_76 : decode cX4_spendTick 76 = .ok (.istore 6, 2) := by decide +kernel
theorem dX4_spendTick_78 : decode cX4_spendTick 78 = .ok (.aload_n 0, 1) := by decide +kernel
theorem dX4_spendTick_79 : decode cX4_spendTick 79 = .ok (.getfield 12, 3) := by decide +kernel
theorem dX4_spendTick_82 : decode cX4_spendTick 82 = .ok (.iload_n 3, 1) := by decide +kernel
theorem dX4_spendTick_83 : decode cX4_spendTick 83 = .ok (.iload 4, 2) := by decide +kernel
theorem dX4_spendTick_85 : decode cX4_spendTick 85 = .ok (.iload 6, 2) := by decide +kernel
theorem dX4_spendTick_87 : decode cX4_spendTick 87 = .ok (.aload_n 0, 1) := by decide +kernel
theorem dX4_spendTick_88 : decode cX4_spendTick 88 = .ok (.getfield 54, 3) := by decide +kernel
theorem dX4_spendTick_91 : decode cX4_spendTick 91 = .ok (.invokevirtual 155, 3) := by decide +kernel
theorem dX4_spendTick_94 : decode cX4_spendTick 94 = .ok (.aload_n 2, 1) := by decide +kernel
theorem dX4_spendTick_95 : decode cX4_spendTick 95 = .ok (.dup, 1) := by decide +kernel
theorem dX4_spendTick_96 : decode cX4_spendTick 96 = .ok (.getfield 130, 3) := by decide +kernel
theorem dX4_spendTick_99 : decode cX4_spendTick 99 = .ok (.fload 5, 2) := by decide +kernel
theorem dX4_spendTick_101 : decode cX4_spendTick 101 = .ok (.fsub, 1) := by decide +kernel
theorem dX4_spendTick_102 : decode cX4_spendTick 102 = .ok (.putfield 130, 3) := by decide +kernel
theorem dX4_spendTick_105 : decode cX4_spendTick 105 = .ok (.aload_n 0, 1) := by decide +kernel
theorem dX4_spendTick_106 : decode cX4_spendTick 106 = .ok (.dup, 1) := by decide +kernel
theorem dX4_spendTick_107 : decode cX4_spendTick 107 = .ok (.getfield 48, 3) := by decide +kernel
theorem dX4_spendTick_110 : decode cX4_spendTick 110 = .ok (.fload 5, 2) := by decide +kernel
theorem dX4_spendTick_112 : decode cX4_spendTick 112 = .ok (.fadd, 1) := by decide +kernel
theorem dX4_spendTick_113 : decode cX4_spendTick 113 = .ok (.putfield 48, 3) := by decide +kernel
theorem dX4_spendTick_116 : decode cX4_spendTick 116 = .ok (.aload_n 2, 1) := by decide +kernel
theorem dX4_spendTick_117 : decode cX4_spendTick 117 = .ok (.iconst 0, 1) := by decide +kernel
theorem dX4_spendTick_118 : decode cX4_spendTick 118 = .ok (.putfield 94, 3) := by decide +kernel
theorem dX4_spendTick_121 : decode cX4_spendTick 121 = .ok (.aload_n 2, 1) := by decide +kernel
theorem dX4_spendTick_122 : decode cX4_spendTick 122 = .ok (.dup, 1) := by decide +kernel
theorem dX4_spendTick_123 : decode cX4_spendTick 123 = .ok (.getfield 74, 3) := by decide +kernel
theorem dX4_spendTick_126 : decode cX4_spendTick 126 = .ok (.iconst 1, 1) := by decide +kernel
theorem dX4_spendTick_127 : decode cX4_spendTick 127 = .ok (.iadd, 1) := by decide +kernel
theorem dX4_spendTick_128 : decode cX4_spendTick 128 = .ok (.putfield 74, 3) := by decide +kernel
theorem dX4_spendTick_131 : decode cX4_spendTick 131 = .ok (.aload_n 0, 1) := by decide +kernel
theorem dX4_spendTick_132 : decode cX4_spendTick 132 = .ok (.dup, 1) := by decide +kernel
theorem dX4_spendTick_133 : decode cX4_spendTick 133 = .ok (.getfield 61, 3) := by decide +kernel
theorem dX4_spendTick_136 : decode cX4_spendTick 136 = .ok (.iconst 1, 1) := by decide +kernel
theorem dX4_spendTick_137 : decode cX4_spendTick 137 = .ok (.iadd, 1) := by decide +kernel
theorem dX4_spendTick_138 : decode cX4_spendTick 138 = .ok (.putfield 61, 3) := by decide +kernel
theorem dX4_spendTick_141 : decode cX4_spendTick 141 = .ok (.return_, 1) := by decide +kernel
theorem dX4_passTick_0 : decode cX4_passTick 0 = .ok (.aload_n 0, 1) := by decide +kernel
theorem dX4_passTick_1 : decode cX4_passTick 1 = .ok (.dup, 1) := by decide +kernel
theorem dX4_passTick_2 : decode cX4_passTick 2 = .ok (.getfield 54, 3) := by decide +kernel
theorem dX4_passTick_5 : decode cX4_passTick 5 = .ok (.iconst 1, 1) := by decide +kernel
theorem dX4_passTick_6 : decode cX4_passTick 6 = .ok (.iadd, 1) := by decide +kernel
theorem dX4_passTick_7 : decode cX4_passTick 7 = .ok (.putfield 54, 3) := by decide +kernel
theorem dX4_passTick_10 : decode cX4_passTick 10 = .ok (.aload_n 0, 1) := by decide +kernel
theorem dX4_passTick_11 : decode cX4_passTick 11 = .ok (.iconst 0, 1) := by decide +kernel
theorem dX4_passTick_12 : decode cX4_passTick 12 = .ok (.invokevirtual 159, 3) := by decide +kernel
theorem dX4_passTick_15 : decode cX4_passTick 15 = .ok (.istore_n 1, 1) := by decide +kernel
theorem dX4_passTick_16 : decode cX4_passTick 16 = .ok (.aload_n 0, 1) := by decide +kernel
theorem dX4_passTick_17 : decode cX4_passTick 17 = .ok (.iconst 1, 1) := by decide +kernel
theorem dX4_passTick_18 : decode cX4_passTick 18 = .ok (.invokevirtual 159, 3) := by decide +kernel
theorem dX4_passTick_21 : decode cX4_passTick 21 = .ok (.istore_n 2, 1) := by decide +kernel
theorem dX4_passTick_22 : decode cX4_passTick 22 = .ok (.iload_n 1, 1) := by decide +kernel
theorem dX4_passTick_23 : decode cX4_passTick 23 = .ok (.iconst 2, 1) := by decide +kernel
theorem dX4_passTick_24 : decode cX4_passTick 24 = .ok (.if_icmp .le 8, 3) := by decide +kernel
theorem dX4_passTick_27 : decode cX4_passTick 27 = .ok (.iload_n 2, 1) := by decide +kernel
theorem dX4_passTick_28 : decode cX4_passTick 28 = .ok (.iconst 2, 1) := by decide +kernel
theorem dX4_passTick_29 : decode cX4_passTick 29 = .ok (.if_icmp .gt 7, 3) := by decide +kernel
theorem dX4_passTick_32 : decode cX4_passTick 32 = .ok (.iconst 1, 1) := by decide +kernel
theorem dX4_passTick_33 : decode cX4_passTick 33 = .ok (.goto 4, 3) := by decide +kernel
theorem dX4_passTick_36 : decode cX4_passTick 36 = .ok (.iconst 0, 1) := by decide +kernel
theorem dX4_passTick_37 : decode cX4_passTick 37 = .ok (.ireturn, 1) := by decide +kernel
theorem dX4_runUntilDone_0 : decode cX4_runUntilDone 0 = .ok (.iconst 0, 1) := by decide +kernel
theorem dX4_runUntilDone_1 : decode cX4_runUntilDone 1 = .ok (.istore_n 1, 1) := by decide +kernel
theorem dX4_runUntilDone_2 : decode cX4_runUntilDone 2 = .ok (.iload_n 1, 1) := by decide +kernel
theorem dX4_runUntilDone_3 : decode cX4_runUntilDone 3 = .ok (.sipush 2000, 3) := by decide +kernel
theorem dX4_runUntilDone_6 : decode cX4_runUntilDone 6 = .ok (.if_icmp .gt 28, 3) := by decide +kernel
theorem dX4_runUntilDone_9 : decode cX4_runUntilDone 9 = .ok (.aload_n 0, 1) := by decide +kernel
theorem dX4_runUntilDone_10 : decode cX4_runUntilDone 10 = .ok (.invokevirtual 162, 3) := by decide +kernel
theorem dX4_runUntilDone_13 : decode cX4_runUntilDone 13 = .ok (.ifCond .eq 5, 3) := by decide +kernel
theorem dX4_runUntilDone_16 : decode cX4_runUntilDone 16 = .ok (.iload_n 1, 1) := by decide +kernel
theorem dX4_runUntilDone_17 : decode cX4_runUntilDone 17 = .ok (.ireturn, 1) := by decide +kernel
theorem dX4_runUntilDone_18 : decode cX4_runUntilDone 18 = .ok (.aload_n 0, 1) := by decide +kernel
theorem dX4_runUntilDone_19 : decode cX4_runUntilDone 19 = .ok (.invokevirtual 166, 3) := by decide +kernel
theorem dX4_runUntilDone_22 : decode cX4_runUntilDone 22 = .ok (.ifCond .ne 6, 3) := by decide +kernel
theorem dX4_runUntilDone_25 : decode cX4_runUntilDone 25 = .ok (.bipush (-5), 2) := by decide +kernel
theorem dX4_runUntilDone_27 : decode cX4_runUntilDone 27 = .ok (.ireturn, 1) := by decide +kernel
theorem dX4_runUntilDone_28 : decode cX4_runUntilDone 28 = .ok (.iinc 1 1, 3) := by decide +kernel
theorem dX4_runUntilDone_31 : decode cX4_runUntilDone 31 = .ok (.goto (-29), 3) := by decide +kernel
theorem dX4_runUntilDone_34 : decode cX4_runUntilDone 34 = .ok (.bipush (-5), 2) := by decide +kernel
theorem dX4_runUntilDone_36 : decode cX4_runUntilDone 36 = .ok (.ireturn, 1) := by decide +kernel
end
section
/-! decode rows -/
theorem dX5_init_0 : decode cX5_init 0 = .ok (.aload_n 0, 1) := by decide +kernel
theorem dX5_init_1 : decode cX5_init 1 = .ok (.invokespecial 1, 3) := by decide +kernel
theorem dX5_init_4 : decode cX5_init 4 = .ok (.aload_n 0, 1) := by decide +kernel
theorem dX5_init_5 : decode cX5_init 5 = .ok (.new 7, 3) := by decide +kernel
theorem dX5_init_8 : decode cX5_init 8 = .ok (.dup, 1) := by decide +kernel
theorem dX5_init_9 : decode cX5_init 9 = .ok (.invokespecial 9, 3) := by decide +kernel
theorem dX5_init_12 : decode cX5_init 12 = .ok (.putfield 10, 3) := by decide +kernel
theorem dX5_init_15 : decode cX5_init 15 = .ok (.aload_n 0, 1) := by decide +kernel
theorem dX5_init_16 : decode cX5_init 16 = .ok (.new 7, 3) := by decide +kernel
theorem dX5_init_19 : decode cX5_init 19 = .ok (.dup, 1) := by decide +kernel
theorem dX5_init_20 : decode cX5_init 20 = .ok (.invokespecial 9, 3) := by decide +kernel
theorem dX5_init_23 : decode cX5_init 23 = .ok (.putfield 16, 3) := by decide +kernel
theorem dX5_init_26 : decode cX5_init 26 = .ok (.aload_n 0, 1) := by decide +kernel
theorem dX5_init_27 : decode cX5_init 27 = .ok (.new 7, 3) := by decide +kernel
theorem dX5_init_30 : decode cX5_init 30 = .ok (.dup, 1) := by decide +kernel
theorem dX5_init_31 : decode cX5_init 31 = .ok (.invokespecial 9, 3) := by decide +kernel
theorem dX5_init_34 : decode cX5_init 34 = .ok (.putfield 19, 3) := by decide +kernel
theorem dX5_init_37 : decode cX5_init 37 = .ok (.aload_n 0, 1) := by decide +kernel
theorem dX5_init_38 : decode cX5_init 38 = .ok (.new 22, 3) := by decide +kernel
theorem dX5_init_41 : decode cX5_init 41 = .ok (.dup, 1) := by decide +kernel
theorem dX5_init_42 : decode cX5_init 42 = .ok (.invokespecial 24, 3) := by decide +kernel
theorem dX5_init_45 : decode cX5_init 45 = .ok (.putfield 25, 3) := by decide +kernel
theorem dX5_init_48 : decode cX5_init 48 = .ok (.aload_n 0, 1) := by decide +kernel
theorem dX5_init_49 : decode cX5_init 49 = .ok (.new 29, 3) := by decide +kernel
theorem dX5_init_52 : decode cX5_init 52 = .ok (.dup, 1) := by decide +kernel
theorem dX5_init_53 : decode cX5_init 53 = .ok (.invokespecial 31, 3) := by decide +kernel
theorem dX5_init_56 : decode cX5_init 56 = .ok (.putfield 32, 3) := by decide +kernel
theorem dX5_init_59 : decode cX5_init 59 = .ok (.return_, 1) := by decide +kernel
theorem dX5_readPage_0 : decode cX5_readPage 0 = .ok (.aload_n 0, 1) := by decide +kernel
theorem dX5_readPage_1 : decode cX5_readPage 1 = .ok (.getfield 32, 3) := by decide +kernel
theorem dX5_readPage_4 : decode cX5_readPage 4 = .ok (.invokevirtual 36, 3) := by decide +kernel
theorem dX5_readPage_7 : decode cX5_readPage 7 = .ok (.istore_n 1, 1) := by decide +kernel
theorem dX5_readPage_8 : decode cX5_readPage 8 = .ok (.iload_n 1, 1) := by decide +kernel
theorem dX5_readPage_9 : decode cX5_readPage 9 = .ok (.iconst (-1), 1) := by decide +kernel
theorem dX5_readPage_10 : decode cX5_readPage 10 = .ok (.if_icmp .eq 8, 3) := by decide +kernel
theorem dX5_readPage_13 : decode cX5_readPage 13 = .ok (.bipush (-100), 2) := by decide +kernel
theorem dX5_readPage_15 : decode cX5_readPage 15 = .ok (.iload_n 1, 1) := by decide +kernel
theorem dX5_readPage_16 : decode cX5_readPage 16 = .ok (.isub, 1) := by decide +kernel
theorem dX5_readPage_17 : decode cX5_readPage 17 = .ok (.ireturn, 1) := by decide +kernel
theorem dX5_readPage_18 : decode cX5_readPage 18 = .ok (.aload_n 0, 1) := by decide +kernel
theorem dX5_readPage_19 : decode cX5_readPage 19 = .ok (.getfield 32, 3) := by decide +kernel
theorem dX5_readPage_22 : decode cX5_readPage 22 = .ok (.getfield 40, 3) := by decide +kernel
theorem dX5_readPage_25 : decode cX5_readPage 25 = .ok (.iconst 2, 1) := by decide +kernel
theorem dX5_readPage_26 : decode cX5_readPage 26 = .ok (.aload_n 0, 1) := by decide +kernel
theorem dX5_readPage_27 : decode cX5_readPage 27 = .ok (.getfield 32, 3) := by decide +kernel
theorem dX5_readPage_30 : decode cX5_readPage 30 = .ok (.getfield 44, 3) := by decide +kernel
theorem dX5_readPage_33 : decode cX5_readPage 33 = .ok (.imul, 1) := by decide +kernel
theorem dX5_readPage_34 : decode cX5_readPage 34 = .ok (.if_icmp .lt 5, 3) := by decide +kernel
theorem dX5_readPage_37 : decode cX5_readPage 37 = .ok (.iconst (-1), 1) := by decide +kernel
theorem dX5_readPage_38 : decode cX5_readPage 38 = .ok (.ireturn, 1) := by decide +kernel
theorem dX5_readPage_39 : decode cX5_readPage 39 = .ok (.aload_n 0, 1) := by decide +kernel
theorem dX5_readPage_40 : decode cX5_readPage 40 = .ok (.getfield 25, 3) := by decide +kernel
theorem dX5_readPage_43 : decode cX5_readPage 43 = .ok (.aload_n 0, 1) := by decide +kernel
theorem dX5_readPage_44 : decode cX5_readPage 44 = .ok (.getfield 10, 3) := by decide +kernel
theorem dX5_readPage_47 : decode cX5_readPage 47 = .ok (.invokevirtual 47, 3) := by decide +kernel
theorem dX5_readPage_50 : decode cX5_readPage 50 = .ok (.aload_n 0, 1) := by decide +kernel
theorem dX5_readPage_51 : decode cX5_readPage 51 = .ok (.getfield 10, 3) := by decide +kernel
theorem dX5_readPage_54 : decode cX5_readPage 54 = .ok (.aload_n 0, 1) := by decide +kernel
theorem dX5_readPage_55 : decode cX5_readPage 55 = .ok (.getfield 32, 3) := by decide +kernel
theorem dX5_readPage_58 : decode cX5_readPage 58 = .ok (.invokevirtual 51, 3) := by decide +kernel
theorem dX5_readPage_61 : decode cX5_readPage 61 = .ok (.aload_n 0, 1) := by decide +kernel
theorem dX5_readPage_62 : decode cX5_readPage 62 = .ok (.getfield 10, 3) := by decide +kernel
theorem dX5_readPage_65 : decode cX5_readPage 65 = .ok (.getfield 55, 3) := by decide +kernel
theorem dX5_readPage_68 : decode cX5_readPage 68 = .ok (.getfield 59, 3) := by decide +kernel
theorem dX5_readPage_71 : decode cX5_readPage 71 = .ok (.ireturn, 1) := by decide +kernel
theorem dX5_misread_0 : decode cX5_misread 0 = .ok (.aload_n 0, 1) := by decide +kernel
theorem dX5_misread_1 : decode cX5_misread 1 = .ok (.getfield 10, 3) := by decide +kernel
theorem dX5_misread_4 : decode cX5_misread 4 = .ok (.getfield 55, 3) := by decide +kernel
theorem dX5_misread_7 : decode cX5_misread 7 = .ok (.iload_n 1, 1) := by decide +kernel
theorem dX5_misread_8 : decode cX5_misread 8 = .ok (.invokevirtual 64, 3) := by decide +kernel
theorem dX5_misread_11 : decode cX5_misread 11 = .ok (.ifCond .ne 5, 3) := by decide +kernel
theorem dX5_misread_14 : decode cX5_misread 14 = .ok (.iconst (-1), 1) := by decide +kernel
theorem dX5_misread_15 : decode cX5_misread 15 = .ok (.ireturn, 1) := by decide +kernel
theorem dX5_misread_16 : decode cX5_misread 16 = .ok (.iload_n 2, 1) := by decide +kernel
theorem dX5_misread_17 : decode cX5_misread 17 = .ok (.ifCond .lt 9, 3) := by decide +kernel
theorem dX5_misread_20 : decode cX5_misread 20 = .ok (.iload_n 2, 1) := by decide +kernel
theorem dX5_misread_21 : decode cX5_misread 21 = .ok (.bipush 26, 2) := by decide +kernel
theorem dX5_misread_23 : decode cX5_misread 23 = .ok (.if_icmp .le 6, 3) := by decide +kernel
theorem dX5_misread_26 : decode cX5_misread 26 = .ok (.bipush (-2), 2) := by decide +kernel
theorem dX5_misread_28 : decode cX5_misread 28 = .ok (.ireturn, 1) := by decide +kernel
theorem dX5_misread_29 : decode cX5_misread 29 = .ok (.aload_n 0, 1) := by decide +kernel
theorem dX5_misread_30 : decode cX5_misread 30 = .ok (.getfield 10, 3) := by decide +kernel
theorem dX5_misread_33 : decode cX5_misread 33 = .ok (.iload_n 1, 1) := by decide +kernel
theorem dX5_misread_34 : decode cX5_misread 34 = .ok (.invokevirtual 68, 3) := by decide +kernel
theorem dX5_misread_37 : decode cX5_misread 37 = .ok (.ifCond .eq 6, 3) := by decide +kernel
theorem dX5_misread_40 : decode cX5_misread 40 = .ok (.bipush (-4), 2) := by decide +kernel
theorem dX5_misread_42 : decode cX5_misread 42 = .ok (.ireturn, 1) := by decide +kernel
theorem dX5_misread_43 : decode cX5_misread 43 = .ok (.aload_n 0, 1) := by decide +kernel
theorem dX5_misread_44 : decode cX5_misread 44 = .ok (.getfield 10, 3) := by decide +kernel
theorem dX5_misread_47 : decode cX5_misread 47 = .ok (.getfield 55, 3) := by decide +kernel
theorem dX5_misread_50 : decode cX5_misread 50 = .ok (.getfield 71, 3) := by decide +kernel
theorem dX5_misread_53 : decode cX5_misread 53 = .ok (.iload_n 1, 1) := by decide +kernel
theorem dX5_misread_54 : decode cX5_misread 54 = .ok (.invokestatic 75, 3) := by decide +kernel
theorem dX5_misread_57 : decode cX5_misread 57 = .ok (.iload_n 2, 1) := by decide +kernel
theorem dX5_misread_58 : decode cX5_misread 58 = .ok (.if_icmp .ne 6, 3) := by decide +kernel
theorem dX5_misread_61 : decode cX5_misread 61 = .ok (.bipush (-5), 2) := by decide +kernel
theorem dX5_misread_63 : decode cX5_misread 63 = .ok (.ireturn, 1) := by decide +kernel
theorem dX5_misread_64 : decode cX5_misread 64 = .ok (.aload_n 0, 1) := by decide +kernel
theorem dX5_misread_65 : decode cX5_misread 65 = .ok (.getfield 25, 3) := by decide +kernel
theorem dX5_misread_68 : decode cX5_misread 68 = .ok (.aload_n 0, 1) := by decide +kernel
theorem dX5_misread_69 : decode cX5_misread 69 = .ok (.getfield 10, 3) := by decide +kernel
theorem dX5_misread_72 : decode cX5_misread 72 = .ok (.invokevirtual 47, 3) := by decide +kernel
theorem dX5_misread_75 : decode cX5_misread 75 = .ok (.aload_n 0, 1) := by decide +kernel
theorem dX5_misread_76 : decode cX5_misread 76 = .ok (.getfield 10, 3) := by decide +kernel
theorem dX5_misread_79 : decode cX5_misread 79 = .ok (.getfield 55, 3) := by decide +kernel
theorem dX5_misread_82 : decode cX5_misread 82 = .ok (.iload_n 1, 1) := by decide +kernel
theorem dX5_misread_83 : decode cX5_misread 83 = .ok (.invokevirtual 79, 3) := by decide +kernel
theorem dX5_misread_86 : decode cX5_misread 86 = .ok (.istore_n 3, 1) := by decide +kernel
theorem dX5_misread_87 : decode cX5_misread 87 = .ok (.aload_n 0, 1) := by decide +kernel
theorem dX5_misread_88 : decode cX5_misread 88 = .ok (.getfield 10, 3) := by decide +kernel
theorem dX5_misread_91 : decode cX5_misread 91 = .ok (.getfield 55, 3) := by decide +kernel
theorem dX5_misread_94 : decode cX5_misread 94 = .ok (.getfield 71, 3) := by decide +kernel
theorem dX5_misread_97 : decode cX5_misread 97 = .ok (.iload_n 1, 1) := by decide +kernel
theorem dX5_misread_98 : decode cX5_misread 98 = .ok (.iload_n 2, 1) := by decide +kernel
theorem dX5_misread_99 : decode cX5_misread 99 = .ok (.invokestatic 83, 3) := by decide +kernel
theorem dX5_misread_102 : decode cX5_misread 102 = .ok (.iload_n 3, 1) := by decide +kernel
theorem dX5_misread_103 : decode cX5_misread 103 = .ok (.ireturn, 1) := by decide +kernel
theorem dX5_correct_0 : decode cX5_correct 0 = .ok (.aload_n 0, 1) := by decide +kernel
theorem dX5_correct_1 : decode cX5_correct 1 = .ok (.getfield 10, 3) := by decide +kernel
theorem dX5_correct_4 : decode cX5_correct 4 = .ok (.getfield 55, 3) := by decide +kernel
theorem dX5_correct_7 : decode cX5_correct 7 = .ok (.iload_n 1, 1) := by decide +kernel
theorem dX5_correct_8 : decode cX5_correct 8 = .ok (.invokevirtual 64, 3) := by decide +kernel
theorem dX5_correct_11 : decode cX5_correct 11 = .ok (.ifCond .ne 5, 3) := by decide +kernel
theorem dX5_correct_14 : decode cX5_correct 14 = .ok (.iconst (-1), 1) := by decide +kernel
theorem dX5_correct_15 : decode cX5_correct 15 = .ok (.ireturn, 1) := by decide +kernel
theorem dX5_correct_16 : decode cX5_correct 16 = .ok (.aload_n 0, 1) := by decide +kernel
theorem dX5_correct_17 : decode cX5_correct 17 = .ok (.getfield 10, 3) := by decide +kernel
theorem dX5_correct_20 : decode cX5_correct 20 = .ok (.iload_n 1, 1) := by decide +kernel
theorem dX5_correct_21 : decode cX5_correct 21 = .ok (.invokevirtual 87, 3) := by decide +kernel
theorem dX5_correct_24 : decode cX5_correct 24 = .ok (.ifCond .ne 6, 3) := by decide +kernel
theorem dX5_correct_27 : decode cX5_correct 27 = .ok (.bipush (-4), 2) := by decide +kernel
theorem dX5_correct_29 : decode cX5_correct 29 = .ok (.ireturn, 1) := by decide +kernel
theorem dX5_correct_30 : decode cX5_correct 30 = .ok (.aload_n 0, 1) := by decide +kernel
theorem dX5_correct_31 : decode cX5_correct 31 = .ok (.getfield 10, 3) := by decide +kernel
theorem dX5_correct_34 : decode cX5_correct 34 = .ok (.getfield 55, 3) := by decide +kernel
theorem dX5_correct_37 : decode cX5_correct 37 = .ok (.iload_n 1, 1) := by decide +kernel
theorem dX5_correct_38 : decode cX5_correct 38 = .ok (.invokevirtual 90, 3) := by decide +kernel
theorem dX5_correct_41 : decode cX5_correct 41 = .ok (.ifCond .eq 6, 3) := by decide +kernel
theorem dX5_correct_44 : decode cX5_correct 44 = .ok (.bipush (-5), 2) := by decide +kernel
theorem dX5_correct_46 : decode cX5_correct 46 = .ok (.ireturn, 1) := by decide +kernel
theorem dX5_correct_47 : decode cX5_correct 47 = .ok (.aload_n 0, 1) := by decide +kernel
theorem dX5_correct_48 : decode cX5_correct 48 = .ok (.getfield 25, 3) := by decide +kernel
theorem dX5_correct_51 : decode cX5_correct 51 = .ok (.aload_n 0, 1) := by decide +kernel
theorem dX5_correct_52 : decode cX5_correct 52 = .ok (.getfield 10, 3) := by decide +kernel
theorem dX5_correct_55 : decode cX5_correct 55 = .ok (.invokevirtual 47, 3) := by decide +kernel
theorem dX5_correct_58 : decode cX5_correct 58 = .ok (.aload_n 0, 1) := by decide +kernel
theorem dX5_correct_59 : decode cX5_correct 59 = .ok (.getfield 10, 3) := by decide +kernel
theorem dX5_correct_62 : decode cX5_correct 62 = .ok (.iload_n 1, 1) := by decide +kernel
theorem dX5_correct_63 : decode cX5_correct 63 = .ok (.invokevirtual 93, 3) := by decide +kernel
theorem dX5_correct_66 : decode cX5_correct 66 = .ok (.aload_n 0, 1) := by decide +kernel
theorem dX5_correct_67 : decode cX5_correct 67 = .ok (.getfield 10, 3) := by decide +kernel
theorem dX5_correct_70 : decode cX5_correct 70 = .ok (.invokevirtual 97, 3) := by decide +kernel
theorem dX5_correct_73 : decode cX5_correct 73 = .ok (.ireturn, 1) := by decide +kernel
theorem dX5_setPace_0 : decode cX5_setPace 0 = .ok (.iload_n 1, 1) := by decide +kernel
theorem dX5_setPace_1 : decode cX5_setPace 1 = .ok (.invokestatic 100, 3) := by decide +kernel
theorem dX5_setPace_4 : decode cX5_setPace 4 = .ok (.ifCond .ne 5, 3) := by decide +kernel
theorem dX5_setPace_7 : decode cX5_setPace 7 = .ok (.iconst (-1), 1) := by decide +kernel
theorem dX5_setPace_8 : decode cX5_setPace 8 = .ok (.ireturn, 1) := by decide +kernel
theorem dX5_setPace_9 : decode cX5_setPace 9 = .ok (.iload_n 2, 1) := by decide +kernel
theorem dX5_setPace_10 : decode cX5_setPace 10 = .ok (.iconst 1, 1) := by decide +kernel
theorem dX5_setPace_11 : decode cX5_setPace 11 = .ok (.if_icmp .lt 9, 3) := by decide +kernel
theorem dX5_setPace_14 : decode cX5_setPace 14 = .ok (.iload_n 2, 1) := by decide +kernel
theorem dX5_setPace_15 : decode cX5_setPace 15 = .ok (.bipush 9, 2) := by decide +kernel
theorem dX5_setPace_17 : decode cX5_setPace 17 = .ok (.if_icmp .le 6, 3) := by decide +kernel
theorem dX5_setPace_20 : decode cX5_setPace 20 = .ok (.bipush (-2), 2) := by decide +kernel
theorem dX5_setPace_22 : decode cX5_setPace 22 = .ok (.ireturn, 1) := by decide +kernel
theorem dX5_setPace_23 : decode cX5_setPace 23 = .ok (.aload_n 0, 1) := by decide +kernel
theorem dX5_setPace_24 : decode cX5_setPace 24 = .ok (.getfield 10, 3) := by decide +kernel
theorem dX5_setPace_27 : decode cX5_setPace 27 = .ok (.iload_n 1, 1) := by decide +kernel
theorem dX5_setPace_28 : decode cX5_setPace 28 = .ok (.invokevirtual 103, 3) := by decide +kernel
theorem dX5_setPace_31 : decode cX5_setPace 31 = .ok (.getfield 107, 3) := by decide +kernel
theorem dX5_setPace_34 : decode cX5_setPace 34 = .ok (.istore_n 3, 1) := by decide +kernel
theorem dX5_setPace_35 : decode cX5_setPace 35 = .ok (.iload_n 3, 1) := by decide +kernel
theorem dX5_setPace_36 : decode cX5_setPace 36 = .ok (.iload_n 2, 1) := by decide +kernel
theorem dX5_setPace_37 : decode cX5_setPace 37 = .ok (.if_icmp .ne 6, 3) := by decide +kernel
theorem dX5_setPace_40 : decode cX5_setPace 40 = .ok (.bipush (-5), 2) := by decide +kernel
theorem dX5_setPace_42 : decode cX5_setPace 42 = .ok (.ireturn, 1) := by decide +kernel
theorem dX5_setPace_43 : decode cX5_setPace 43 = .ok (.aload_n 0, 1) := by decide +kernel
theorem dX5_setPace_44 : decode cX5_setPace 44 = .ok (.getfield 25, 3) := by decide +kernel
theorem dX5_setPace_47 : decode cX5_setPace 47 = .ok (.aload_n 0, 1) := by decide +kernel
theorem dX5_setPace_48 : decode cX5_setPace 48 = .ok (.getfield 10, 3) := by decide +kernel
theorem dX5_setPace_51 : decode cX5_setPace 51 = .ok (.invokevirtual 47, 3) := by decide +kernel
theorem dX5_setPace_54 : decode cX5_setPace 54 = .ok (.aload_n 0, 1) := by decide +kernel
theorem dX5_setPace_55 : decode cX5_setPace 55 = .ok (.getfield 10, 3) := by decide +kernel
theorem dX5_setPace_58 : decode cX5_setPace 58 = .ok (.iload_n 1, 1) := by decide +kernel
theorem dX5_setPace_59 : decode cX5_setPace 59 = .ok (.invokevirtual 103, 3) := by decide +kernel
theorem dX5_setPace_62 : decode cX5_setPace 62 = .ok (.iload_n 2, 1) := by decide +kernel
theorem dX5_setPace_63 : decode cX5_setPace 63 = .ok (.putfield 107, 3) := by decide +kernel
theorem dX5_setPace_66 : decode cX5_setPace 66 = .ok (.iload_n 3, 1) := by decide +kernel
theorem dX5_setPace_67 : decode cX5_setPace 67 = .ok (.ireturn, 1) := by decide +kernel
theorem dX5_pour_0 : decode cX5_pour 0 = .ok (.iload_n 1, 1) := by decide +kernel
theorem dX5_pour_1 : decode cX5_pour 1 = .ok (.iconst 1, 1) := by decide +kernel
theorem dX5_pour_2 : decode cX5_pour 2 = .ok (.if_icmp .lt 9, 3) := by decide +kernel
theorem dX5_pour_5 : decode cX5_pour 5 = .ok (.iload_n 1, 1) := by decide +kernel
theorem dX5_pour_6 : decode cX5_pour 6 = .ok (.bipush 80, 2) := by decide +kernel
theorem dX5_pour_8 : decode cX5_pour 8 = .ok (.if_icmp .le 6, 3) := by decide +kernel
theorem dX5_pour_11 : decode cX5_pour 11 = .ok (.bipush (-2), 2) := by decide +kernel
theorem dX5_pour_13 : decode cX5_pour 13 = .ok (.ireturn, 1) := by decide +kernel
theorem dX5_pour_14 : decode cX5_pour 14 = .ok (.aload_n 0, 1) := by decide +kernel
theorem dX5_pour_15 : decode cX5_pour 15 = .ok (.getfield 10, 3) := by decide +kernel
theorem dX5_pour_18 : decode cX5_pour 18 = .ok (.getfield 112, 3) := by decide +kernel
theorem dX5_pour_21 : decode cX5_pour 21 = .ok (.iload_n 1, 1) := by decide +kernel
theorem dX5_pour_22 : decode cX5_pour 22 = .ok (.iadd, 1) := by decide +kernel
theorem dX5_pour_23 : decode cX5_pour 23 = .ok (.sipush 9999, 3) := by decide +kernel
theorem dX5_pour_26 : decode cX5_pour 26 = .ok (.if_icmp .le 6, 3) := by decide +kernel
theorem dX5_pour_29 : decode cX5_pour 29 = .ok (.bipush (-3), 2) := by decide +kernel
theorem dX5_pour_31 : decode cX5_pour 31 = .ok (.ireturn, 1) := by decide +kernel
theorem dX5_pour_32 : decode cX5_pour 32 = .ok (.aload_n 0, 1) := by decide +kernel
theorem dX5_pour_33 : decode cX5_pour 33 = .ok (.getfield 25, 3) := by decide +kernel
theorem dX5_pour_36 : decode cX5_pour 36 = .ok (.aload_n 0, 1) := by decide +kernel
theorem dX5_pour_37 : decode cX5_pour 37 = .ok (.getfield 10, 3) := by decide +kernel
theorem dX5_pour_40 : decode cX5_pour 40 = .ok (.invokevirtual 47, 3) := by decide +kernel
theorem dX5_pour_43 : decode cX5_pour 43 = .ok (.aload_n 0, 1) := by decide +kernel
theorem dX5_pour_44 : decode cX5_pour 44 = .ok (.getfield 10, 3) := by decide +kernel
theorem dX5_pour_47 : decode cX5_pour 47 = .ok (.dup, 1) := by decide +kernel
theorem dX5_pour_48 : decode cX5_pour 48 = .ok (.getfield 112, 3) := by decide +kernel
theorem dX5_pour_51 : decode cX5_pour 51 = .ok (.iload_n 1, 1) := by decide +kernel
theorem dX5_pour_52 : decode cX5_pour 52 = .ok (.iadd, 1) := by decide +kernel
theorem dX5_pour_53 : decode cX5_pour 53 = .ok (.putfield 112, 3) := by decide +kernel
theorem dX5_pour_56 : decode cX5_pour 56 = .ok (.aload_n 0, 1) := by decide +kernel
theorem dX5_pour_57 : decode cX5_pour 57 = .ok (.getfield 10, 3) := by decide +kernel
theorem dX5_pour_60 : decode cX5_pour 60 = .ok (.dup, 1) := by decide +kernel
theorem dX5_pour_61 : decode cX5_pour 61 = .ok (.getfield 115, 3) := by decide +kernel
theorem dX5_pour_64 : decode cX5_pour 64 = .ok (.iload_n 1, 1) := by decide +kernel
theorem dX5_pour_65 : decode cX5_pour 65 = .ok (.i2f, 1) := by decide +kernel
theorem dX5_pour_66 : decode cX5_pour 66 = .ok (.ldc 119, 2) := by decide +kernel
theorem dX5_pour_68 : decode cX5_pour 68 = .ok (.fdiv, 1) := by decide +kernel
theorem dX5_pour_69 : decode cX5_pour 69 = .ok (.fadd, 1) := by decide +kernel
theorem dX5_pour_70 : decode cX5_pour 70 = .ok (.putfield 115, 3) := by decide +kernel
theorem dX5_pour_73 : decode cX5_pour 73 = .ok (.aload_n 0, 1) := by decide +kernel
theorem dX5_pour_74 : decode cX5_pour 74 = .ok (.getfield 10, 3) := by decide +kernel
theorem dX5_pour_77 : decode cX5_pour 77 = .ok (.getfield 112, 3) := by decide +kernel
theorem dX5_pour_80 : decode cX5_pour 80 = .ok (.ireturn, 1) := by decide +kernel
theorem dX5_set_0 : decode cX5_set 0 = .ok (.iload_n 1, 1) := by decide +kernel
theorem dX5_set_1 : decode cX5_set 1 = .ok (.ifCond .lt 8, 3) := by decide +kernel
theorem dX5_set_4 : decode cX5_set 4 = .ok (.iload_n 1, 1) := by decide +kernel
theorem dX5_set_5 : decode cX5_set 5 = .ok (.iconst 2, 1) := by decide +kernel
theorem dX5_set_6 : decode cX5_set 6 = .ok (.if_icmp .le 5, 3) := by decide +kernel
theorem dX5_set_9 : decode cX5_set 9 = .ok (.iconst (-1), 1) := by decide +kernel
theorem dX5_set_10 : decode cX5_set 10 = .ok (.ireturn, 1) := by decide +kernel
theorem dX5_set_11 : decode cX5_set 11 = .ok (.iload_n 2, 1) := by decide +kernel
theorem dX5_set_12 : decode cX5_set 12 = .ok (.getstatic 120, 3) := by decide +kernel
theorem dX5_set_15 : decode cX5_set 15 = .ok (.iload_n 1, 1) := by decide +kernel
theorem dX5_set_16 : decode cX5_set 16 = .ok (.invokestatic 75, 3) := by decide +kernel
theorem dX5_set_19 : decode cX5_set 19 = .ok (.if_icmp .lt 14, 3) := by decide +kernel
theorem dX5_set_22 : decode cX5_set 22 = .ok (.iload_n 2, 1) := by decide +kernel
theorem dX5_set_23 : decode cX5_set 23 = .ok (.getstatic 123, 3) := by decide +kernel
theorem dX5_set_26 : decode cX5_set 26 = .ok (.iload_n 1, 1) := by decide +kernel
theorem dX5_set_27 : decode cX5_set 27 = .ok (.invokestatic 75, 3) := by decide +kernel
theorem dX5_set_30 : decode cX5_set 30 = .ok (.if_icmp .le 6, 3) := by decide +kernel
theorem dX5_set_33 : decode cX5_set 33 = .ok (.bipush (-2), 2) := by decide +kernel
theorem dX5_set_35 : decode cX5_set 35 = .ok (.ireturn, 1) := by decide +kernel
theorem dX5_set_36 : decode cX5_set 36 = .ok (.aload_n 0, 1) := by decide +kernel
theorem dX5_set_37 : decode cX5_set 37 = .ok (.getfield 10, 3) := by decide +kernel
theorem dX5_set_40 : decode cX5_set 40 = .ok (.getfield 126, 3) := by decide +kernel
theorem dX5_set_43 : decode cX5_set 43 = .ok (.iload_n 1, 1) := by decide +kernel
theorem dX5_set_44 : decode cX5_set 44 = .ok (.invokestatic 75, 3) := by decide +kernel
theorem dX5_set_47 : decode cX5_set 47 = .ok (.istore_n 3, 1) := by decide +kernel
theorem dX5_set_48 : decode cX5_set 48 = .ok (.iload_n 3, 1) := by decide +kernel
theorem dX5_set_49 : decode cX5_set 49 = .ok (.iload_n 2, 1) := by decide +kernel
theorem dX5_set_50 : decode cX5_set 50 = .ok (.if_icmp .ne 6, 3) := by decide +kernel
theorem dX5_set_53 : decode cX5_set 53 = .ok (.bipush (-5), 2) := by decide +kernel
theorem dX5_set_55 : decode cX5_set 55 = .ok (.ireturn, 1) := by decide +kernel
theorem dX5_set_56 : decode cX5_set 56 = .ok (.aload_n 0, 1) := by decide +kernel
theorem dX5_set_57 : decode cX5_set 57 = .ok (.getfield 25, 3) := by decide +kernel
theorem dX5_set_60 : decode cX5_set 60 = .ok (.aload_n 0, 1) := by decide +kernel
theorem dX5_set_61 : decode cX5_set 61 = .ok (.getfield 10, 3) := by decide +kernel
theorem dX5_set_64 : decode cX5_set 64 = .ok (.invokevirtual 47, 3) := by decide +kernel
theorem dX5_set_67 : decode cX5_set 67 = .ok (.aload_n 0, 1) := by decide +kernel
theorem dX5_set_68 : decode cX5_set 68 = .ok (.getfield 10, 3) := by decide +kernel
theorem dX5_set_71 : decode cX5_set 71 = .ok (.getfield 126, 3) := by decide +kernel
theorem dX5_set_74 : decode cX5_set 74 = .ok (.iload_n 1, 1) := by decide +kernel
theorem dX5_set_75 : decode cX5_set 75 = .ok (.iload_n 2, 1) := by decide +kernel
theorem dX5_set_76 : decode cX5_set 76 = .ok (.invokestatic 83, 3) := by decide +kernel
theorem dX5_set_79 : decode cX5_set 79 = .ok (.iload_n 3, 1) := by decide +kernel
theorem dX5_set_80 : decode cX5_set 80 = .ok (.ireturn, 1) := by decide +kernel
theorem dX5_pass_0 : decode cX5_pass 0 = .ok (.iload_n 1, 1) := by decide +kernel
theorem dX5_pass_1 : decode cX5_pass 1 = .ok (.iconst 1, 1) := by decide +kernel
theorem dX5_pass_2 : decode cX5_pass 2 = .ok (.if_icmp .lt 9, 3) := by decide +kernel
theorem dX5_pass_5 : decode cX5_pass 5 = .ok (.iload_n 1, 1) := by decide +kernel
theorem dX5_pass_6 : decode cX5_pass 6 = .ok (.bipush 99, 2) := by decide +kernel
theorem dX5_pass_8 : decode cX5_pass 8 = .ok (.if_icmp .le 6, 3) := by decide +kernel
theorem dX5_pass_11 : decode cX5_pass 11 = .ok (.bipush (-2), 2) := by decide +kernel
theorem dX5_pass_13 : decode cX5_pass 13 = .ok (.ireturn, 1) := by decide +kernel
theorem dX5_pass_14 : decode cX5_pass 14 = .ok (.aload_n 0, 1) := by decide +kernel
theorem dX5_pass_15 : decode cX5_pass 15 = .ok (.getfield 10, 3) := by decide +kernel
theorem dX5_pass_18 : decode cX5_pass 18 = .ok (.getfield 129, 3) := by decide +kernel
theorem dX5_pass_21 : decode cX5_pass 21 = .ok (.iload_n 1, 1) := by decide +kernel
theorem dX5_pass_22 : decode cX5_pass 22 = .ok (.iadd, 1) := by decide +kernel
theorem dX5_pass_23 : decode cX5_pass 23 = .ok (.ldc 132, 2) := by decide +kernel
theorem dX5_pass_25 : decode cX5_pass 25 = .ok (.if_icmp .le 6, 3) := by decide +kernel
theorem dX5_pass_28 : decode cX5_pass 28 = .ok (.bipush (-3), 2) := by decide +kernel
theorem dX5_pass_30 : decode cX5_pass 30 = .ok (.ireturn, 1) := by decide +kernel
theorem dX5_pass_31 : decode cX5_pass 31 = .ok (.aload_n 0, 1) := by decide +kernel
theorem dX5_pass_32 : decode cX5_pass 32 = .ok (.getfield 25, 3) := by decide +kernel
theorem dX5_pass_35 : decode cX5_pass 35 = .ok (.aload_n 0, 1) := by decide +kernel
theorem dX5_pass_36 : decode cX5_pass 36 = .ok (.getfield 10, 3) := by decide +kernel
theorem dX5_pass_39 : decode cX5_pass 39 = .ok (.invokevirtual 47, 3) := by decide +kernel
theorem dX5_pass_42 : decode cX5_pass 42 = .ok (.aload_n 0, 1) := by decide +kernel
theorem dX5_pass_43 : decode cX5_pass 43 = .ok (.getfield 10, 3) := by decide +kernel
theorem dX5_pass_46 : decode cX5_pass 46 = .ok (.getfield 133, 3) := by decide +kernel
theorem dX5_pass_49 : decode cX5_pass 49 = .ok (.istore_n 2, 1) := by decide +kernel
theorem dX5_pass_50 : decode cX5_pass 50 = .ok (.iconst 0, 1) := by decide +kernel
theorem dX5_pass_51 : decode cX5_pass 51 = .ok (.istore_n 3, 1) := by decide +kernel
theorem dX5_pass_52 : decode cX5_pass 52 = .ok (.iload_n 3, 1) := by decide +kernel
theorem dX5_pass_53 : decode cX5_pass 53 = .ok (.iload_n 1, 1) := by decide +kernel
theorem dX5_pass_54 : decode cX5_pass 54 = .ok (.if_icmp .ge 17, 3) := by decide +kernel
theorem dX5_pass_57 : decode cX5_pass 57 = .ok (.aload_n 0, 1) := by decide +kernel
theorem dX5_pass_58 : decode cX5_pass 58 = .ok (.getfield 10, 3) := by decide +kernel
theorem dX5_pass_61 : decode cX5_pass 61 = .ok (.invokevirtual 136, 3) := by decide +kernel
theorem dX5_pass_64 : decode cX5_pass 64 = .ok (.pop, 1) := by decide +kernel
theorem dX5_pass_65 : decode cX5_pass 65 = .ok (.iinc 3 1, 3) := by decide +kernel
theorem dX5_pass_68 : decode cX5_pass 68 = .ok (.goto (-16), 3) := by decide +kernel
theorem dX5_pass_71 : decode cX5_pass 71 = .ok (.aload_n 0, 1) := by decide +kernel
theorem dX5_pass_72 : decode cX5_pass 72 = .ok (.getfield 10, 3) := by decide +kernel
theorem dX5_pass_75 : decode cX5_pass 75 = .ok (.getfield 133, 3) := by decide +kernel
theorem dX5_pass_78 : decode cX5_pass 78 = .ok (.iload_n 2, 1) := by decide +kernel
theorem dX5_pass_79 : decode cX5_pass 79 = .ok (.isub, 1) := by decide +kernel
theorem dX5_pass_80 : decode cX5_pass 80 = .ok (.ireturn, 1) := by decide +kernel
theorem dX5_type_0 : decode cX5_type 0 = .ok (.aload_n 0, 1) := by decide +kernel
theorem dX5_type_1 : decode cX5_type 1 = .ok (.getfield 32, 3) := by decide +kernel
theorem dX5_type_4 : decode cX5_type 4 = .ok (.iload_n 1, 1) := by decide +kernel
theorem dX5_type_5 : decode cX5_type 5 = .ok (.invokevirtual 140, 3) := by decide +kernel
theorem dX5_type_8 : decode cX5_type 8 = .ok (.ifCond .eq 13, 3) := by decide +kernel
theorem dX5_type_11 : decode cX5_type 11 = .ok (.aload_n 0, 1) := by decide +kernel
theorem dX5_type_12 : decode cX5_type 12 = .ok (.getfield 32, 3) := by decide +kernel
theorem dX5_type_15 : decode cX5_type 15 = .ok (.getfield 144, 3) := by decide +kernel
theorem dX5_type_18 : decode cX5_type 18 = .ok (.goto 5, 3) := by decide +kernel
theorem dX5_type_21 : decode cX5_type 21 = .ok (.bipush (-3), 2) := by decide +kernel
theorem dX5_type_23 : decode cX5_type 23 = .ok (.ireturn, 1) := by decide +kernel
theorem dX5_clearText_0 : decode cX5_clearText 0 = .ok (.aload_n 0, 1) := by decide +kernel
theorem dX5_clearText_1 : decode cX5_clearText 1 = .ok (.getfield 32, 3) := by decide +kernel
theorem dX5_clearText_4 : decode cX5_clearText 4 = .ok (.getfield 144, 3) := by decide +kernel
theorem dX5_clearText_7 : decode cX5_clearText 7 = .ok (.istore_n 1, 1) := by decide +kernel
theorem dX5_clearText_8 : decode cX5_clearText 8 = .ok (.aload_n 0, 1) := by decide +kernel
theorem dX5_clearText_9 : decode cX5_clearText 9 = .ok (.getfield 32, 3) := by decide +kernel
theorem dX5_clearText_12 : decode cX5_clearText 12 = .ok (.iconst 0, 1) := by decide +kernel
theorem dX5_clearText_13 : decode cX5_clearText 13 = .ok (.putfield 144, 3) := by decide +kernel
theorem dX5_clearText_16 : decode cX5_clearText 16 = .ok (.iload_n 1, 1) := by decide +kernel
theorem dX5_clearText_17 : decode cX5_clearText 17 = .ok (.ireturn, 1) := by decide +kernel
theorem dX5_undo_0 : decode cX5_undo 0 = .ok (.aload_n 0, 1) := by decide +kernel
theorem dX5_undo_1 : decode cX5_undo 1 = .ok (.getfield 25, 3) := by decide +kernel
theorem dX5_undo_4 : decode cX5_undo 4 = .ok (.aload_n 0, 1) := by decide +kernel
theorem dX5_undo_5 : decode cX5_undo 5 = .ok (.getfield 10, 3) := by decide +kernel
theorem dX5_undo_8 : decode cX5_undo 8 = .ok (.invokevirtual 147, 3) := by decide +kernel
theorem dX5_undo_11 : decode cX5_undo 11 = .ok (.ifCond .eq 13, 3) := by decide +kernel
theorem dX5_undo_14 : decode cX5_undo 14 = .ok (.aload_n 0, 1) := by decide +kernel
theorem dX5_undo_15 : decode cX5_undo 15 = .ok (.getfield 25, 3) := by decide +kernel
theorem dX5_undo_18 : decode cX5_undo 18 = .ok (.getfield 151, 3) := by decide +kernel
theorem dX5_undo_21 : decode cX5_undo 21 = .ok (.goto 5, 3) := by decide +kernel
theorem dX5_undo_24 : decode cX5_undo 24 = .ok (.bipush (-5), 2) := by decide +kernel
theorem dX5_undo_26 : decode cX5_undo 26 = .ok (.ireturn, 1) := by decide +kernel
theorem dX5_keep_0 : decode cX5_keep 0 = .ok (.aload_n 0, 1) := by decide +kernel
theorem dX5_keep_1 : decode cX5_keep 1 = .ok (.getfield 19, 3) := by decide +kernel
theorem dX5_keep_4 : decode cX5_keep 4 = .ok (.aload_n 0, 1) := by decide +kernel
theorem dX5_keep_5 : decode cX5_keep 5 = .ok (.getfield 10, 3) := by decide +kernel
theorem dX5_keep_8 : decode cX5_keep 8 = .ok (.invokevirtual 154, 3) := by decide +kernel
theorem dX5_keep_11 : decode cX5_keep 11 = .ok (.aload_n 0, 1) := by decide +kernel
theorem dX5_keep_12 : decode cX5_keep 12 = .ok (.iconst 1, 1) := by decide +kernel
theorem dX5_keep_13 : decode cX5_keep 13 = .ok (.putfield 157, 3) := by decide +kernel
theorem dX5_keep_16 : decode cX5_keep 16 = .ok (.aload_n 0, 1) := by decide +kernel
theorem dX5_keep_17 : decode cX5_keep 17 = .ok (.getfield 10, 3) := by decide +kernel
theorem dX5_keep_20 : decode cX5_keep 20 = .ok (.getfield 129, 3) := by decide +kernel
theorem dX5_keep_23 : decode cX5_keep 23 = .ok (.ireturn, 1) := by decide +kernel
theorem dX5_restore_0 : decode cX5_restore 0 = .ok (.aload_n 0, 1) := by decide +kernel
theorem dX5_restore_1 : decode cX5_restore 1 = .ok (.getfield 157, 3) := by decide +kernel
theorem dX5_restore_4 : decode cX5_restore 4 = .ok (.ifCond .ne 6, 3) := by decide +kernel
theorem dX5_restore_7 : decode cX5_restore 7 = .ok (.bipush (-5), 2) := by decide +kernel
theorem dX5_restore_9 : decode cX5_restore 9 = .ok (.ireturn, 1) := by decide +kernel
theorem dX5_restore_10 : decode cX5_restore 10 = .ok (.aload_n 0, 1) := by decide +kernel
theorem dX5_restore_11 : decode cX5_restore 11 = .ok (.getfield 25, 3) := by decide +kernel
theorem dX5_restore_14 : decode cX5_restore 14 = .ok (.aload_n 0, 1) := by decide +kernel
theorem dX5_restore_15 : decode cX5_restore 15 = .ok (.getfield 10, 3) := by decide +kernel
theorem dX5_restore_18 : decode cX5_restore 18 = .ok (.invokevirtual 47, 3) := by decide +kernel
theorem dX5_restore_21 : decode cX5_restore 21 = .ok (.aload_n 0, 1) := by decide +kernel
theorem dX5_restore_22 : decode cX5_restore 22 = .ok (.getfield 10, 3) := by decide +kernel
theorem dX5_restore_25 : decode cX5_restore 25 = .ok (.aload_n 0, 1) := by decide +kernel
theorem dX5_restore_26 : decode cX5_restore 26 = .ok (.getfield 19, 3) := by decide +kernel
theorem dX5_restore_29 : decode cX5_restore 29 = .ok (.invokevirtual 154, 3) := by decide +kernel
theorem dX5_restore_32 : decode cX5_restore 32 = .ok (.aload_n 0, 1) := by decide +kernel
theorem dX5_restore_33 : decode cX5_restore 33 = .ok (.getfield 10, 3) := by decide +kernel
theorem dX5_restore_36 : decode cX5_restore 36 = .ok (.getfield 129, 3) := by decide +kernel
theorem dX5_restore_39 : decode cX5_restore 39 = .ok (.ireturn, 1) := by decide +kernel
theorem dX5_place_0 : decode cX5_place 0 = .ok (.aload_n 0, 1) := by decide +kernel
theorem dX5_place_1 : decode cX5_place 1 = .ok (.getfield 10, 3) := by decide +kernel
theorem dX5_place_4 : decode cX5_place 4 = .ok (.getfield 55, 3) := by decide +kernel
theorem dX5_place_7 : decode cX5_place 7 = .ok (.astore_n 3, 1) := by decide +kernel
theorem dX5_place_8 : decode cX5_place 8 = .ok (.aload_n 3, 1) := by decide +kernel
theorem dX5_place_9 : decode cX5_place 9 = .ok (.iload_n 1, 1) := by decide +kernel
theorem dX5_place_10 : decode cX5_place 10 = .ok (.invokevirtual 64, 3) := by decide +kernel
theorem dX5_place_13 : decode cX5_place 13 = .ok (.ifCond .ne 5, 3) := by decide +kernel
theorem dX5_place_16 : decode cX5_place 16 = .ok (.iconst (-1), 1) := by decide +kernel
theorem dX5_place_17 : decode cX5_place 17 = .ok (.ireturn, 1) := by decide +kernel
theorem dX5_place_18 : decode cX5_place 18 = .ok (.iload_n 2, 1) := by decide +kernel
theorem dX5_place_19 : decode cX5_place 19 = .ok (.tableswitch 114 0 6 #[41, 50, 59, 68, 77, 86, 92], 41) := by decide +kernel
theorem dX5_place_60 : decode cX5_place 60 = .ok (.aload_n 3, 1) := by decide +kernel
theorem dX5_place_61 : decode cX5_place 61 = .ok (.getfield 161, 3) := by decide +kernel
theorem dX5_place_64 : decode cX5_place 64 = .ok (.iload_n 1, 1) := by decide +kernel
theorem dX5_place_65 : decode cX5_place 65 = .ok (.invokestatic 75, 3) := by decide +kernel
theorem dX5_place_68 : decode cX5_place 68 = .ok (.ireturn, 1) := by decide +kernel
theorem dX5_place_69 : decode cX5_place 69 = .ok (.aload_n 3, 1) := by decide +kernel
theorem dX5_place_70 : decode cX5_place 70 = .ok (.getfield 164, 3) := by decide +kernel
theorem dX5_place_73 : decode cX5_place 73 = .ok (.iload_n 1, 1) := by decide +kernel
theorem dX5_place_74 : decode cX5_place 74 = .ok (.invokestatic 75, 3) := by decide +kernel
theorem dX5_place_77 : decode cX5_place 77 = .ok (.ireturn, 1) := by decide +kernel
theorem dX5_place_78 : decode cX5_place 78 = .ok (.aload_n 3, 1) := by decide +kernel
theorem dX5_place_79 : decode cX5_place 79 = .ok (.getfield 167, 3) := by decide +kernel
theorem dX5_place_82 : decode cX5_place 82 = .ok (.iload_n 1, 1) := by decide +kernel
theorem dX5_place_83 : decode cX5_place 83 = .ok (.invokestatic 75, 3) := by decide +kernel
theorem dX5_place_86 : decode cX5_place 86 = .ok (.ireturn, 1) := by decide +kernel
theorem dX5_place_87 : decode cX5_place 87 = .ok (.aload_n 3, 1) := by decide +kernel
theorem dX5_place_88 : decode cX5_place 88 = .ok (.getfield 170, 3) := by decide +kernel
theorem dX5_place_91 : decode cX5_place 91 = .ok (.iload_n 1, 1) := by decide +kernel
theorem dX5_place_92 : decode cX5_place 92 = .ok (.invokestatic 75, 3) := by decide +kernel
theorem dX5_place_95 : decode cX5_place 95 = .ok (.ireturn, 1) := by decide +kernel
theorem dX5_place_96 : decode cX5_place 96 = .ok (.aload_n 3, 1) := by decide +kernel
theorem dX5_place_97 : decode cX5_place 97 = .ok (.getfield 71, 3) := by decide +kernel
theorem dX5_place_100 : decode cX5_place 100 = .ok (.iload_n 1, 1) := by decide +kernel
theorem dX5_place_101 : decode cX5_place 101 = .ok (.invokestatic 75, 3) := by decide +kernel
theorem dX5_place_104 : decode cX5_place 104 = .ok (.ireturn, 1) := by decide +kernel
theorem dX5_place_105 : decode cX5_place 105 = .ok (.aload_n 3, 1) := by decide +kernel
theorem dX5_place_106 : decode cX5_place 106 = .ok (.iload_n 1, 1) := by decide +kernel
theorem dX5_place_107 : decode cX5_place 107 = .ok (.invokevirtual 173, 3) := by decide +kernel
theorem dX5_place_110 : decode cX5_place 110 = .ok (.ireturn, 1) := by decide +kernel
theorem dX5_place_111 : decode cX5_place 111 = .ok (.aload_n 3, 1) := by decide +kernel
theorem dX5_place_112 : decode cX5_place 112 = .ok (.iload_n 1, 1) := by decide +kernel
theorem dX5_place_113 : decode cX5_place 113 = .ok (.invokevirtual 176, 3) := by decide +kernel
theorem dX5_place_116 : decode cX5_place 116 = .ok (.ifCond .eq 14, 3) := by decide +kernel
theorem dX5_place_119 : decode cX5_place 119 = .ok (.aload_n 3, 1) := by decide +kernel
theorem dX5_place_120 : decode cX5_place 120 = .ok (.getfield 179, 3) := by decide +kernel
theorem dX5_place_123 : decode cX5_place 123 = .ok (.iload_n 1, 1) := by decide +kernel
theorem dX5_place_124 : decode cX5_place 124 = .ok (.invokestatic 75, 3) := by decide +kernel
theorem dX5_place_127 : decode cX5_place 127 = .ok (.goto 5, 3) := by decide +kernel
theorem dX5_place_130 : decode cX5_place 130 = .ok (.bipush (-5), 2) := by decide +kernel
theorem dX5_place_132 : decode cX5_place 132 = .ok (.ireturn, 1) := by decide +kernel
theorem dX5_place_133 : decode cX5_place 133 = .ok (.bipush (-2), 2) := by decide +kernel
theorem dX5_place_135 : decode cX5_place 135 = .ok (.ireturn, 1) := by decide +kernel
theorem dX5_scribe_0 : decode cX5_scribe 0 = .ok (.iload_n 1, 1) := by decide +kernel
theorem dX5_scribe_1 : decode cX5_scribe 1 = .ok (.invokestatic 100, 3) := by decide +kernel
theorem dX5_scribe_4 : decode cX5_scribe 4 = .ok (.ifCond .ne 5, 3) := by decide +kernel
theorem dX5_scribe_7 : decode cX5_scribe 7 = .ok (.iconst (-1), 1) := by decide +kernel
theorem dX5_scribe_8 : decode cX5_scribe 8 = .ok (.ireturn, 1) := by decide +kernel
theorem dX5_scribe_9 : decode cX5_scribe 9 = .ok (.aload_n 0, 1) := by decide +kernel
theorem dX5_scribe_10 : decode cX5_scribe 10 = .ok (.getfield 10, 3) := by decide +kernel
theorem dX5_scribe_13 : decode cX5_scribe 13 = .ok (.iload_n 1, 1) := by decide +kernel
theorem dX5_scribe_14 : decode cX5_scribe 14 = .ok (.invokevirtual 103, 3) := by decide +kernel
theorem dX5_scribe_17 : decode cX5_scribe 17 = .ok (.astore_n 3, 1) := by decide +kernel
theorem dX5_scribe_18 : decode cX5_scribe 18 = .ok (.iload_n 2, 1) := by decide +kernel
theorem dX5_scribe_19 : decode cX5_scribe 19 = .ok (.tableswitch 80 0 6 #[41, 46, 51, 60, 65, 70, 75], 41) := by decide +kernel
theorem dX5_scribe_60 : decode cX5_scribe 60 = .ok (.aload_n 3, 1) := by decide +kernel
theorem dX5_scribe_61 : decode cX5_scribe 61 = .ok (.getfield 107, 3) := by decide +kernel
theorem dX5_scribe_64 : decode cX5_scribe 64 = .ok (.ireturn, 1) := by decide +kernel
theorem dX5_scribe_65 : decode cX5_scribe 65 = .ok (.aload_n 3, 1) := by decide +kernel
theorem dX5_scribe_66 : decode cX5_scribe 66 = .ok (.getfield 182, 3) := by decide +kernel
theorem dX5_scribe_69 : decode cX5_scribe 69 = .ok (.ireturn, 1) := by decide +kernel
theorem dX5_scribe_70 : decode cX5_scribe 70 = .ok (.aload_n 0, 1) := by decide +kernel
theorem dX5_scribe_71 : decode cX5_scribe 71 = .ok (.getfield 10, 3) := by decide +kernel
theorem dX5_scribe_74 : decode cX5_scribe 74 = .ok (.iload_n 1, 1) := by decide +kernel
theorem dX5_scribe_75 : decode cX5_scribe 75 = .ok (.invokevirtual 183, 3) := by decide +kernel
theorem dX5_scribe_78 : decode cX5_scribe 78 = .ok (.ireturn, 1) := by decide +kernel
theorem dX5_scribe_79 : decode cX5_scribe 79 = .ok (.aload_n 3, 1) := by decide +kernel
theorem dX5_scribe_80 : decode cX5_scribe 80 = .ok (.getfield 186, 3) := by decide +kernel
theorem dX5_scribe_83 : decode cX5_scribe 83 = .ok (.ireturn, 1) := by decide +kernel
theorem dX5_scribe_84 : decode cX5_scribe 84 = .ok (.aload_n 3, 1) := by decide +kernel
theorem dX5_scribe_85 : decode cX5_scribe 85 = .ok (.getfield 189, 3) := by decide +kernel
theorem dX5_scribe_88 : decode cX5_scribe 88 = .ok (.ireturn, 1) := by decide +kernel
theorem dX5_scribe_89 : decode cX5_scribe 89 = .ok (.aload_n 3, 1) := by decide +kernel
theorem dX5_scribe_90 : decode cX5_scribe 90 = .ok (.getfield 192, 3) := by decide +kernel
theorem dX5_scribe_93 : decode cX5_scribe 93 = .ok (.ireturn, 1) := by decide +kernel
theorem dX5_scribe_94 : decode cX5_scribe 94 = .ok (.aload_n 3, 1) := by decide +kernel
theorem dX5_scribe_95 : decode cX5_scribe 95 = .ok (.getfield 195, 3) := by decide +kernel
theorem dX5_scribe_98 : decode cX5_scribe 98 = .ok (.ireturn, 1) := by decide +kernel
theorem dX5_scribe_99 : decode cX5_scribe 99 = .ok (.bipush (-2), 2) := by decide +kernel
theorem dX5_scribe_101 : decode cX5_scribe 101 = .ok (.ireturn, 1) := by decide +kernel
theorem dX5_ink_0 : decode cX5_ink 0 = .ok (.iload_n 1, 1) := by decide +kernel
theorem dX5_ink_1 : decode cX5_ink 1 = .ok (.tableswitch 86 0 4 #[35, 47, 59, 68, 77], 35) := by decide +kernel
theorem dX5_ink_36 : decode cX5_ink 36 = .ok (.aload_n 0, 1) := by decide +kernel
theorem dX5_ink_37 : decode cX5_ink 37 = .ok (.getfield 10, 3) := by decide +kernel
theorem dX5_ink_40 : decode cX5_ink 40 = .ok (.getfield 198, 3) := by decide +kernel
theorem dX5_ink_43 : decode cX5_ink 43 = .ok (.getfield 202, 3) := by decide +kernel
theorem dX5_ink_46 : decode cX5_ink 46 = .ok (.f2d, 1) := by decide +kernel
theorem dX5_ink_47 : decode cX5_ink 47 = .ok (.dreturn, 1) := by decide +kernel
theorem dX5_ink_48 : decode cX5_ink 48 = .ok (.aload_n 0, 1) := by decide +kernel
theorem dX5_ink_49 : decode cX5_ink 49 = .ok (.getfield 10, 3) := by decide +kernel
theorem dX5_ink_52 : decode cX5_ink 52 = .ok (.getfield 205, 3) := by decide +kernel
theorem dX5_ink_55 : decode cX5_ink 55 = .ok (.getfield 202, 3) := by decide +kernel
theorem dX5_ink_58 : decode cX5_ink 58 = .ok (.f2d, 1) := by decide +kernel
theorem dX5_ink_59 : decode cX5_ink 59 = .ok (.dreturn, 1) := by decide +kernel
theorem dX5_ink_60 : decode cX5_ink 60 = .ok (.aload_n 0, 1) := by decide +kernel
theorem dX5_ink_61 : decode cX5_ink 61 = .ok (.getfield 10, 3) := by decide +kernel
theorem dX5_ink_64 : decode cX5_ink 64 = .ok (.getfield 115, 3) := by decide +kernel
theorem dX5_ink_67 : decode cX5_ink 67 = .ok (.f2d, 1) := by decide +kernel
theorem dX5_ink_68 : decode cX5_ink 68 = .ok (.dreturn, 1) := by decide +kernel
theorem dX5_ink_69 : decode cX5_ink 69 = .ok (.aload_n 0, 1) := by decide +kernel
theorem dX5_ink_70 : decode cX5_ink 70 = .ok (.getfield 10, 3) := by decide +kernel
theorem dX5_ink_73 : decode cX5_ink 73 = .ok (.getfield 208, 3) := by decide +kernel
theorem dX5_ink_76 : decode cX5_ink 76 = .ok (.f2d, 1) := by decide +kernel
theorem dX5_ink_77 : decode cX5_ink 77 = .ok (.dreturn, 1) := by decide +kernel
theorem dX5_ink_78 : decode cX5_ink 78 = .ok (.aload_n 0, 1) := by decide +kernel
theorem dX5_ink_79 : decode cX5_ink 79 = .ok (.getfield 10, 3) := by decide +kernel
theorem dX5_ink_82 : decode cX5_ink 82 = .ok (.getfield 211, 3) := by decide +kernel
theorem dX5_ink_85 : decode cX5_ink 85 = .ok (.f2d, 1) := by decide +kernel
theorem dX5_ink_86 : decode cX5_ink 86 = .ok (.dreturn, 1) := by decide +kernel
theorem dX5_ink_87 : decode cX5_ink 87 = .ok (.ldc2_w 214, 3) := by decide +kernel
theorem dX5_ink_90 : decode cX5_ink 90 = .ok (.dreturn, 1) := by decide +kernel
theorem dX5_next_0 : decode cX5_next 0 = .ok (.iload_n 1, 1) := by decide +kernel
theorem dX5_next_1 : decode cX5_next 1 = .ok (.invokestatic 100, 3) := by decide +kernel
theorem dX5_next_4 : decode cX5_next 4 = .ok (.ifCond .ne 5, 3) := by decide +kernel
theorem dX5_next_7 : decode cX5_next 7 = .ok (.iconst (-1), 1) := by decide +kernel
theorem dX5_next_8 : decode cX5_next 8 = .ok (.ireturn, 1) := by decide +kernel
theorem dX5_next_9 : decode cX5_next 9 = .ok (.iload_n 1, 1) := by decide +kernel
theorem dX5_next_10 : decode cX5_next 10 = .ok (.ifCond .ne 12, 3) := by decide +kernel
theorem dX5_next_13 : decode cX5_next 13 = .ok (.aload_n 0, 1) := by decide +kernel
theorem dX5_next_14 : decode cX5_next 14 = .ok (.getfield 10, 3) := by decide +kernel
theorem dX5_next_17 : decode cX5_next 17 = .ok (.iconst 0, 1) := by decide +kernel
theorem dX5_next_18 : decode cX5_next 18 = .ok (.invokevirtual 216, 3) := by decide +kernel
theorem dX5_next_21 : decode cX5_next 21 = .ok (.ireturn, 1) := by decide +kernel
theorem dX5_next_22 : decode cX5_next 22 = .ok (.aload_n 0, 1) := by decide +kernel
theorem dX5_next_23 : decode cX5_next 23 = .ok (.getfield 16, 3) := by decide +kernel
theorem dX5_next_26 : decode cX5_next 26 = .ok (.aload_n 0, 1) := by decide +kernel
theorem dX5_next_27 : decode cX5_next 27 = .ok (.getfield 10, 3) := by decide +kernel
theorem dX5_next_30 : decode cX5_next 30 = .ok (.invokevirtual 154, 3) := by decide +kernel
theorem dX5_next_33 : decode cX5_next 33 = .ok (.aload_n 0, 1) := by decide +kernel
theorem dX5_next_34 : decode cX5_next 34 = .ok (.getfield 16, 3) := by decide +kernel
theorem dX5_next_37 : decode cX5_next 37 = .ok (.iconst 0, 1) := by decide +kernel
theorem dX5_next_38 : decode cX5_next 38 = .ok (.invokevirtual 219, 3) := by decide +kernel
theorem dX5_next_41 : decode cX5_next 41 = .ok (.pop, 1) := by decide +kernel
theorem dX5_next_42 : decode cX5_next 42 = .ok (.aload_n 0, 1) := by decide +kernel
theorem dX5_next_43 : decode cX5_next 43 = .ok (.getfield 16, 3) := by decide +kernel
theorem dX5_next_46 : decode cX5_next 46 = .ok (.iconst 1, 1) := by decide +kernel
theorem dX5_next_47 : decode cX5_next 47 = .ok (.invokevirtual 216, 3) := by decide +kernel
theorem dX5_next_50 : decode cX5_next 50 = .ok (.ireturn, 1) := by decide +kernel
theorem dX5_doneIn_0 : decode cX5_doneIn 0 = .ok (.aload_n 0, 1) := by decide +kernel
theorem dX5_doneIn_1 : decode cX5_doneIn 1 = .ok (.getfield 16, 3) := by decide +kernel
theorem dX5_doneIn_4 : decode cX5_doneIn 4 = .ok (.aload_n 0, 1) := by decide +kernel
theorem dX5_doneIn_5 : decode cX5_doneIn 5 = .ok (.getfield 10, 3) := by decide +kernel
theorem dX5_doneIn_8 : decode cX5_doneIn 8 = .ok (.invokevirtual 154, 3) := by decide +kernel
theorem dX5_doneIn_11 : decode cX5_doneIn 11 = .ok (.aload_n 0, 1) := by decide +kernel
theorem dX5_doneIn_12 : decode cX5_doneIn 12 = .ok (.getfield 16, 3) := by decide +kernel
theorem dX5_doneIn_15 : decode cX5_doneIn 15 = .ok (.invokevirtual 222, 3) := by decide +kernel
theorem dX5_doneIn_18 : decode cX5_doneIn 18 = .ok (.ireturn, 1) := by decide +kernel
theorem dX5_unlikePairs_0 : decode cX5_unlikePairs 0 = .ok (.aload_n 0, 1) := by decide +kernel
theorem dX5_unlikePairs_1 : decode cX5_unlikePairs 1 = .ok (.getfield 10, 3) := by decide +kernel
theorem dX5_unlikePairs_4 : decode cX5_unlikePairs 4 = .ok (.getfield 55, 3) := by decide +kernel
theorem dX5_unlikePairs_7 : decode cX5_unlikePairs 7 = .ok (.astore_n 1, 1) := by decide +kernel
theorem dX5_unlikePairs_8 : decode cX5_unlikePairs 8 = .ok (.iconst 0, 1) := by decide +kernel
theorem dX5_unlikePairs_9 : decode cX5_unlikePairs 9 = .ok (.istore_n 2, 1) := by decide +kernel
theorem dX5_unlikePairs_10 : decode cX5_unlikePairs 10 = .ok (.iconst 0, 1) := by decide +kernel
theorem dX5_unlikePairs_11 : decode cX5_unlikePairs 11 = .ok (.istore_n 3, 1) := by decide +kernel
theorem dX5_unlikePairs_12 : decode cX5_unlikePairs 12 = .ok (.iload_n 3, 1) := by decide +kernel
theorem dX5_unlikePairs_13 : decode cX5_unlikePairs 13 = .ok (.aload_n 1, 1) := by decide +kernel
theorem dX5_unlikePairs_14 : decode cX5_unlikePairs 14 = .ok (.getfield 59, 3) := by decide +kernel
theorem dX5_unlikePairs_17 : decode cX5_unlikePairs 17 = .ok (.iconst 2, 1) := by decide +kernel
theorem dX5_unlikePairs_18 : decode cX5_unlikePairs 18 = .ok (.idiv, 1) := by decide +kernel
theorem dX5_unlikePairs_19 : decode cX5_unlikePairs 19 = .ok (.if_icmp .ge 25, 3) := by decide +kernel
theorem dX5_unlikePairs_22 : decode cX5_unlikePairs 22 = .ok (.aload_n 1, 1) := by decide +kernel
theorem dX5_unlikePairs_23 : decode cX5_unlikePairs 23 = .ok (.iload_n 3, 1) := by decide +kernel
theorem dX5_unlikePairs_24 : decode cX5_unlikePairs 24 = .ok (.aload_n 1, 1) := by decide +kernel
theorem dX5_unlikePairs_25 : decode cX5_unlikePairs 25 = .ok (.iload_n 3, 1) := by decide +kernel
theorem dX5_unlikePairs_26 : decode cX5_unlikePairs 26 = .ok (.invokevirtual 173, 3) := by decide +kernel
theorem dX5_unlikePairs_29 : decode cX5_unlikePairs 29 = .ok (.invokevirtual 225, 3) := by decide +kernel
theorem dX5_unlikePairs_32 : decode cX5_unlikePairs 32 = .ok (.ifCond .eq 6, 3) := by decide +kernel
theorem dX5_unlikePairs_35 : decode cX5_unlikePairs 35 = .ok (.iinc 2 1, 3) := by decide +kernel
theorem dX5_unlikePairs_38 : decode cX5_unlikePairs 38 = .ok (.iinc 3 1, 3) := by decide +kernel
theorem dX5_unlikePairs_41 : decode cX5_unlikePairs 41 = .ok (.goto (-29), 3) := by decide +kernel
theorem dX5_unlikePairs_44 : decode cX5_unlikePairs 44 = .ok (.iload_n 2, 1) := by decide +kernel
theorem dX5_unlikePairs_45 : decode cX5_unlikePairs 45 = .ok (.ireturn, 1) := by decide +kernel
theorem dX5_unlikeReadings_0 : decode cX5_unlikeReadings 0 = .ok (.aload_n 0, 1) := by decide +kernel
theorem dX5_unlikeReadings_1 : decode cX5_unlikeReadings 1 = .ok (.getfield 10, 3) := by decide +kernel
theorem dX5_unlikeReadings_4 : decode cX5_unlikeReadings 4 = .ok (.getfield 55, 3) := by decide +kernel
theorem dX5_unlikeReadings_7 : decode cX5_unlikeReadings 7 = .ok (.astore_n 1, 1) := by decide +kernel
theorem dX5_unlikeReadings_8 : decode cX5_unlikeReadings 8 = .ok (.iconst 0, 1) := by decide +kernel
theorem dX5_unlikeReadings_9 : decode cX5_unlikeReadings 9 = .ok (.istore_n 2, 1) := by decide +kernel
theorem dX5_unlikeReadings_10 : decode cX5_unlikeReadings 10 = .ok (.aload_n 1, 1) := by decide +kernel
theorem dX5_unlikeReadings_11 : decode cX5_unlikeReadings 11 = .ok (.getfield 59, 3) := by decide +kernel
theorem dX5_unlikeReadings_14 : decode cX5_unlikeReadings 14 = .ok (.istore_n 3, 1) := by decide +kernel
theorem dX5_unlikeReadings_15 : decode cX5_unlikeReadings 15 = .ok (.iconst 0, 1) := by decide +kernel
theorem dX5_unlikeReadings_16 : decode cX5_unlikeReadings 16 = .ok (.istore 4, 2) := by decide +kernel
theorem dX5_unlikeReadings_18 : decode cX5_unlikeReadings 18 = .ok (.iload 4, 2) := by decide +kernel
theorem dX5_unlikeReadings_20 : decode cX5_unlikeReadings 20 = .ok (.aload_n 1, 1) := by decide +kernel
theorem dX5_unlikeReadings_21 : decode cX5_unlikeReadings 21 = .ok (.getfield 59, 3) := by decide +kernel
theorem dX5_unlikeReadings_24 : decode cX5_unlikeReadings 24 = .ok (.if_icmp .ge 25, 3) := by decide +kernel
theorem dX5_unlikeReadings_27 : decode cX5_unlikeReadings 27 = .ok (.iinc 3 (-1), 3) := by decide +kernel
theorem dX5_unlikeReadings_30 : decode cX5_unlikeReadings 30 = .ok (.aload_n 1, 1) := by decide +kernel
theorem dX5_unlikeReadings_31 : decode cX5_unlikeReadings 31 = .ok (.iload 4, 2) := by decide +kernel
theorem dX5_unlikeReadings_33 : decode cX5_unlikeReadings 33 = .ok (.iload_n 3, 1) := by decide +kernel
theorem dX5_unlikeReadings_34 : decode cX5_unlikeReadings 34 = .ok (.invokevirtual 225, 3) := by decide +kernel
theorem dX5_unlikeReadings_37 : decode cX5_unlikeReadings 37 = .ok (.ifCond .eq 6, 3) := by decide +kernel
theorem dX5_unlikeReadings_40 : decode cX5_unlikeReadings 40 = .ok (.iinc 2 1, 3) := by decide +kernel
theorem dX5_unlikeReadings_43 : decode cX5_unlikeReadings 43 = .ok (.iinc 4 1, 3) := by decide +kernel
theorem dX5_unlikeReadings_46 : decode cX5_unlikeReadings 46 = .ok (.goto (-28), 3) := by decide +kernel
theorem dX5_unlikeReadings_49 : decode cX5_unlikeReadings 49 = .ok (.iload_n 2, 1) := by decide +kernel
theorem dX5_unlikeReadings_50 : decode cX5_unlikeReadings 50 = .ok (.iconst 2, 1) := by decide +kernel
theorem dX5_unlikeReadings_51 : decode cX5_unlikeReadings 51 = .ok (.idiv, 1) := by decide +kernel
theorem dX5_unlikeReadings_52 : decode cX5_unlikeReadings 52 = .ok (.ireturn, 1) := by decide +kernel
theorem dX5_needed_0 : decode cX5_needed 0 = .ok (.aload_n 0, 1) := by decide +kernel
theorem dX5_needed_1 : decode cX5_needed 1 = .ok (.getfield 10, 3) := by decide +kernel
theorem dX5_needed_4 : decode cX5_needed 4 = .ok (.getfield 55, 3) := by decide +kernel
theorem dX5_needed_7 : decode cX5_needed 7 = .ok (.astore_n 1, 1) := by decide +kernel
theorem dX5_needed_8 : decode cX5_needed 8 = .ok (.fconst 0, 1) := by decide +kernel
theorem dX5_needed_9 : decode cX5_needed 9 = .ok (.fstore_n 2, 1) := by decide +kernel
theorem dX5_needed_10 : decode cX5_needed 10 = .ok (.iconst 0, 1) := by decide +kernel
theorem dX5_needed_11 : decode cX5_needed 11 = .ok (.istore_n 3, 1) := by decide +kernel
theorem dX5_needed_12 : decode cX5_needed 12 = .ok (.iload_n 3, 1) := by decide +kernel
theorem dX5_needed_13 : decode cX5_needed 13 = .ok (.aload_n 1, 1) := by decide +kernel
theorem dX5_needed_14 : decode cX5_needed 14 = .ok (.getfield 59, 3) := by decide +kernel
theorem dX5_needed_17 : decode cX5_needed 17 = .ok (.if_icmp .ge 28, 3) := by decide +kernel
theorem dX5_needed_20 : decode cX5_needed 20 = .ok (.aload_n 1, 1) := by decide +kernel
theorem dX5_needed_21 : decode cX5_needed 21 = .ok (.iload_n 3, 1) := by decide +kernel
theorem dX5_needed_22 : decode cX5_needed 22 = .ok (.invokevirtual 176, 3) := by decide +kernel
theorem dX5_needed_25 : decode cX5_needed 25 = .ok (.ifCond .ne 14, 3) := by decide +kernel
theorem dX5_needed_28 : decode cX5_needed 28 = .ok (.fload_n 2, 1) := by decide +kernel
theorem dX5_needed_29 : decode cX5_needed 29 = .ok (.aload_n 1, 1) := by decide +kernel
theorem dX5_needed_30 : decode cX5_needed 30 = .ok (.iload_n 3, 1) := by decide +kernel
theorem dX5_needed_31 : decode cX5_needed 31 = .ok (.invokevirtual 79, 3) := by decide +kernel
theorem dX5_needed_34 : decode cX5_needed 34 = .ok (.invokestatic 229, 3) := by decide +kernel
theorem dX5_needed_37 : decode cX5_needed 37 = .ok (.fadd, 1) := by decide +kernel
theorem dX5_needed_38 : decode cX5_needed 38 = .ok (.fstore_n 2, 1) := by decide +kernel
theorem dX5_needed_39 : decode cX5_needed 39 = .ok (.iinc 3 1, 3) := by decide +kernel
theorem dX5_needed_42 : decode cX5_needed 42 = .ok (.goto (-30), 3) := by decide +kernel
theorem dX5_needed_45 : decode cX5_needed 45 = .ok (.fload_n 2, 1) := by decide +kernel
theorem dX5_needed_46 : decode cX5_needed 46 = .ok (.f2d, 1) := by decide +kernel
theorem dX5_needed_47 : decode cX5_needed 47 = .ok (.dreturn, 1) := by decide +kernel
theorem dX5_bestPace_0 : decode cX5_bestPace 0 = .ok (.iload_n 1, 1) := by decide +kernel
theorem dX5_bestPace_1 : decode cX5_bestPace 1 = .ok (.invokestatic 100, 3) := by decide +kernel
theorem dX5_bestPace_4 : decode cX5_bestPace 4 = .ok (.ifCond .ne 5, 3) := by decide +kernel
theorem dX5_bestPace_7 : decode cX5_bestPace 7 = .ok (.iconst (-1), 1) := by decide +kernel
theorem dX5_bestPace_8 : decode cX5_bestPace 8 = .ok (.ireturn, 1) := by decide +kernel
theorem dX5_bestPace_9 : decode cX5_bestPace 9 = .ok (.aload_n 0, 1) := by decide +kernel
theorem dX5_bestPace_10 : decode cX5_bestPace 10 = .ok (.getfield 10, 3) := by decide +kernel
theorem dX5_bestPace_13 : decode cX5_bestPace 13 = .ok (.invokevirtual 233, 3) := by decide +kernel
theorem dX5_bestPace_16 : decode cX5_bestPace 16 = .ok (.ifCond .eq 6, 3) := by decide +kernel
theorem dX5_bestPace_19 : decode cX5_bestPace 19 = .ok (.bipush (-5), 2) := by decide +kernel
theorem dX5_bestPace_21 : decode cX5_bestPace 21 = .ok (.ireturn, 1) := by decide +kernel
theorem dX5_bestPace_22 : decode cX5_bestPace 22 = .ok (.bipush (-5), 2) := by decide +kernel
theorem dX5_bestPace_24 : decode cX5_bestPace 24 = .ok (.istore_n 2, 1) := by decide +kernel
theorem dX5_bestPace_25 : decode cX5_bestPace 25 = .ok (.sipush 2000, 3) := by decide +kernel
theorem dX5_bestPace_28 : decode cX5_bestPace 28 = .ok (.istore_n 3, 1) := by decide +kernel
theorem dX5_bestPace_29 : decode cX5_bestPace 29 = .ok (.iconst 1, 1) := by decide +kernel
theorem dX5_bestPace_30 : decode cX5_bestPace 30 = .ok (.istore 4, 2) := by decide +kernel
theorem dX5_bestPace_32 : decode cX5_bestPace 32 = .ok (.iload 4, 2) := by decide +kernel
theorem dX5_bestPace_34 : decode cX5_bestPace 34 = .ok (.bipush 9, 2) := by decide +kernel
theorem dX5_bestPace_36 : decode cX5_bestPace 36 = .ok (.if_icmp .gt 61, 3) := by decide +kernel
theorem dX5_bestPace_39 : decode cX5_bestPace 39 = .ok (.aload_n 0, 1) := by decide +kernel
theorem dX5_bestPace_40 : decode cX5_bestPace 40 = .ok (.getfield 16, 3) := by decide +kernel
theorem dX5_bestPace_43 : decode cX5_bestPace 43 = .ok (.aload_n 0, 1) := by decide +kernel
theorem dX5_bestPace_44 : decode cX5_bestPace 44 = .ok (.getfield 10, 3) := by decide +kernel
theorem dX5_bestPace_47 : decode cX5_bestPace 47 = .ok (.invokevirtual 154, 3) := by decide +kernel
theorem dX5_bestPace_50 : decode cX5_bestPace 50 = .ok (.aload_n 0, 1) := by decide +kernel
theorem dX5_bestPace_51 : decode cX5_bestPace 51 = .ok (.getfield 16, 3) := by decide +kernel
theorem dX5_bestPace_54 : decode cX5_bestPace 54 = .ok (.iload_n 1, 1) := by decide +kernel
theorem dX5_bestPace_55 : decode cX5_bestPace 55 = .ok (.invokevirtual 103, 3) := by decide +kernel
theorem dX5_bestPace_58 : decode cX5_bestPace 58 = .ok (.iload 4, 2) := by decide +kernel
theorem dX5_bestPace_60 : decode cX5_bestPace 60 = .ok (.putfield 107, 3) := by decide +kernel
theorem dX5_bestPace_63 : decode cX5_bestPace 63 = .ok (.aload_n 0, 1) := by decide +kernel
theorem dX5_bestPace_64 : decode cX5_bestPace 64 = .ok (.getfield 16, 3) := by decide +kernel
theorem dX5_bestPace_67 : decode cX5_bestPace 67 = .ok (.invokevirtual 222, 3) := by decide +kernel
theorem dX5_bestPace_70 : decode cX5_bestPace 70 = .ok (.istore 5, 2) := by decide +kernel
theorem dX5_bestPace_72 : decode cX5_bestPace 72 = .ok (.iload 5, 2) := by decide +kernel
theorem dX5_bestPace_74 : decode cX5_bestPace 74 = .ok (.bipush (-5), 2) := by decide +kernel
theorem dX5_bestPace_76 : decode cX5_bestPace 76 = .ok (.if_icmp .eq 15, 3) := by decide +kernel
theorem dX5_bestPace_79 : decode cX5_bestPace 79 = .ok (.iload 5, 2) := by decide +kernel
theorem dX5_bestPace_81 : decode cX5_bestPace 81 = .ok (.iload_n 3, 1) := by decide +kernel
theorem dX5_bestPace_82 : decode cX5_bestPace 82 = .ok (.if_icmp .gt 9, 3) := by decide +kernel
theorem dX5_bestPace_85 : decode cX5_bestPace 85 = .ok (.iload 4, 2) := by decide +kernel
theorem dX5_bestPace_87 : decode cX5_bestPace 87 = .ok (.istore_n 2, 1) := by decide +kernel
theorem dX5_bestPace_88 : decode cX5_bestPace 88 = .ok (.iload 5, 2) := by decide +kernel
theorem dX5_bestPace_90 : decode cX5_bestPace 90 = .ok (.istore_n 3, 1) := by decide +kernel
theorem dX5_bestPace_91 : decode cX5_bestPace 91 = .ok (.iinc 4 1, 3) := by decide +kernel
theorem dX5_bestPace_94 : decode cX5_bestPace 94 = .ok (.goto (-62), 3) := by decide +kernel
theorem dX5_bestPace_97 : decode cX5_bestPace 97 = .ok (.iload_n 2, 1) := by decide +kernel
theorem dX5_bestPace_98 : decode cX5_bestPace 98 = .ok (.ireturn, 1) := by decide +kernel
theorem dX5_count_0 : decode cX5_count 0 = .ok (.iload_n 1, 1) := by decide +kernel
theorem dX5_count_1 : decode cX5_count 1 = .ok (.tableswitch 204 0 13 #[71, 79, 90, 98, 109, 120, 128, 136, 144, 152, 164, 176, 188, 196], 71) := by decide +kernel
theorem dX5_count_72 : decode cX5_count 72 = .ok (.aload_n 0, 1) := by decide +kernel
theorem dX5_count_73 : decode cX5_count 73 = .ok (.getfield 10, 3) := by decide +kernel
theorem dX5_count_76 : decode cX5_count 76 = .ok (.getfield 129, 3) := by decide +kernel
theorem dX5_count_79 : decode cX5_count 79 = .ok (.ireturn, 1) := by decide +kernel
theorem dX5_count_80 : decode cX5_count 80 = .ok (.aload_n 0, 1) := by decide +kernel
theorem dX5_count_81 : decode cX5_count 81 = .ok (.getfield 10, 3) := by decide +kernel
theorem dX5_count_84 : decode cX5_count 84 = .ok (.getfield 55, 3) := by decide +kernel
theorem dX5_count_87 : decode cX5_count 87 = .ok (.getfield 59, 3) := by decide +kernel
theorem dX5_count_90 : decode cX5_count 90 = .ok (.ireturn, 1) := by decide +kernel
theorem dX5_count_91 : decode cX5_count 91 = .ok (.aload_n 0, 1) := by decide +kernel
theorem dX5_count_92 : decode cX5_count 92 = .ok (.getfield 10, 3) := by decide +kernel
theorem dX5_count_95 : decode cX5_count 95 = .ok (.invokevirtual 236, 3) := by decide +kernel
theorem dX5_count_98 : decode cX5_count 98 = .ok (.ireturn, 1) := by decide +kernel
theorem dX5_count_99 : decode cX5_count 99 = .ok (.aload_n 0, 1) := by decide +kernel
theorem dX5_count_100 : decode cX5_count 100 = .ok (.getfield 10, 3) := by decide +kernel
theorem dX5_count_103 : decode cX5_count 103 = .ok (.getfield 55, 3) := by decide +kernel
theorem dX5_count_106 : decode cX5_count 106 = .ok (.invokevirtual 239, 3) := by decide +kernel
theorem dX5_count_109 : decode cX5_count 109 = .ok (.ireturn, 1) := by decide +kernel
theorem dX5_count_110 : decode cX5_count 110 = .ok (.aload_n 0, 1) := by decide +kernel
theorem dX5_count_111 : decode cX5_count 111 = .ok (.getfield 10, 3) := by decide +kernel
theorem dX5_count_114 : decode cX5_count 114 = .ok (.getfield 55, 3) := by decide +kernel
theorem dX5_count_117 : decode cX5_count 117 = .ok (.invokevirtual 242, 3) := by decide +kernel
theorem dX5_count_120 : decode cX5_count 120 = .ok (.ireturn, 1) := by decide +kernel
theorem dX5_count_121 : decode cX5_count 121 = .ok (.aload_n 0, 1) := by decide +kernel
theorem dX5_count_122 : decode cX5_count 122 = .ok (.getfield 10, 3) := by decide +kernel
theorem dX5_count_125 : decode cX5_count 125 = .ok (.invokevirtual 97, 3) := by decide +kernel
theorem dX5_count_128 : decode cX5_count 128 = .ok (.ireturn, 1) := by decide +kernel
theorem dX5_count_129 : decode cX5_count 129 = .ok (.aload_n 0, 1) := by decide +kernel
theorem dX5_count_130 : decode cX5_count 130 = .ok (.getfield 10, 3) := by decide +kernel
theorem dX5_count_133 : decode cX5_count 133 = .ok (.getfield 245, 3) := by decide +kernel
theorem dX5_count_136 : decode cX5_count 136 = .ok (.ireturn, 1) := by decide +kernel
theorem dX5_count_137 : decode cX5_count 137 = .ok (.aload_n 0, 1) := by decide +kernel
theorem dX5_count_138 : decode cX5_count 138 = .ok (.getfield 10, 3) := by decide +kernel
theorem dX5_count_141 : decode cX5_count 141 = .ok (.getfield 133, 3) := by decide +kernel
theorem dX5_count_144 : decode cX5_count 144 = .ok (.ireturn, 1) := by decide +kernel
theorem dX5_count_145 : decode cX5_count 145 = .ok (.aload_n 0, 1) := by decide +kernel
theorem dX5_count_146 : decode cX5_count 146 = .ok (.getfield 10, 3) := by decide +kernel
theorem dX5_count_149 : decode cX5_count 149 = .ok (.getfield 112, 3) := by decide +kernel
theorem dX5_count_152 : decode cX5_count 152 = .ok (.ireturn, 1) := by decide +kernel
theorem dX5_count_153 : decode cX5_count 153 = .ok (.aload_n 0, 1) := by decide +kernel
theorem dX5_count_154 : decode cX5_count 154 = .ok (.getfield 10, 3) := by decide +kernel
theorem dX5_count_157 : decode cX5_count 157 = .ok (.getfield 126, 3) := by decide +kernel
theorem dX5_count_160 : decode cX5_count 160 = .ok (.iconst 0, 1) := by decide +kernel
theorem dX5_count_161 : decode cX5_count 161 = .ok (.invokestatic 75, 3) := by decide +kernel
theorem dX5_count_164 : decode cX5_count 164 = .ok (.ireturn, 1) := by decide +kernel
theorem dX5_count_165 : decode cX5_count 165 = .ok (.aload_n 0, 1) := by decide +kernel
theorem dX5_count_166 : decode cX5_count 166 = .ok (.getfield 10, 3) := by decide +kernel
theorem dX5_count_169 : decode cX5_count 169 = .ok (.getfield 126, 3) := by decide +kernel
theorem dX5_count_172 : decode cX5_count 172 = .ok (.iconst 1, 1) := by decide +kernel
theorem dX5_count_173 : decode cX5_count 173 = .ok (.invokestatic 75, 3) := by decide +kernel
theorem dX5_count_176 : decode cX5_count 176 = .ok (.ireturn, 1) := by decide +kernel
theorem dX5_count_177 : decode cX5_count 177 = .ok (.aload_n 0, 1) := by decide +kernel
theorem dX5_count_178 : decode cX5_count 178 = .ok (.getfield 10, 3) := by decide +kernel
theorem dX5_count_181 : decode cX5_count 181 = .ok (.getfield 126, 3) := by decide +kernel
theorem dX5_count_184 : decode cX5_count 184 = .ok (.iconst 2, 1) := by decide +kernel
theorem dX5_count_185 : decode cX5_count 185 = .ok (.invokestatic 75, 3) := by decide +kernel
theorem dX5_count_188 : decode cX5_count 188 = .ok (.ireturn, 1) := by decide +kernel
theorem dX5_count_189 : decode cX5_count 189 = .ok (.aload_n 0, 1) := by decide +kernel
theorem dX5_count_190 : decode cX5_count 190 = .ok (.getfield 25, 3) := by decide +kernel
theorem dX5_count_193 : decode cX5_count 193 = .ok (.getfield 151, 3) := by decide +kernel
theorem dX5_count_196 : decode cX5_count 196 = .ok (.ireturn, 1) := by decide +kernel
theorem dX5_count_197 : decode cX5_count 197 = .ok (.aload_n 0, 1) := by decide +kernel
theorem dX5_count_198 : decode cX5_count 198 = .ok (.getfield 32, 3) := by decide +kernel
theorem dX5_count_201 : decode cX5_count 201 = .ok (.getfield 144, 3) := by decide +kernel
theorem dX5_count_204 : decode cX5_count 204 = .ok (.ireturn, 1) := by decide +kernel
theorem dX5_count_205 : decode cX5_count 205 = .ok (.bipush (-2), 2) := by decide +kernel
theorem dX5_count_207 : decode cX5_count 207 = .ok (.ireturn, 1) := by decide +kernel
theorem dX5_isScribe_0 : decode cX5_isScribe 0 = .ok (.iload_n 0, 1) := by decide +kernel
theorem dX5_isScribe_1 : decode cX5_isScribe 1 = .ok (.ifCond .eq 8, 3) := by decide +kernel
theorem dX5_isScribe_4 : decode cX5_isScribe 4 = .ok (.iload_n 0, 1) := by decide +kernel
theorem dX5_isScribe_5 : decode cX5_isScribe 5 = .ok (.iconst 1, 1) := by decide +kernel
theorem dX5_isScribe_6 : decode cX5_isScribe 6 = .ok (.if_icmp .ne 7, 3) := by decide +kernel
theorem dX5_isScribe_9 : decode cX5_isScribe 9 = .ok (.iconst 1, 1) := by decide +kernel
theorem dX5_isScribe_10 : decode cX5_isScribe 10 = .ok (.goto 4, 3) := by decide +kernel
theorem dX5_isScribe_13 : decode cX5_isScribe 13 = .ok (.iconst 0, 1) := by decide +kernel
theorem dX5_isScribe_14 : decode cX5_isScribe 14 = .ok (.ireturn, 1) := by decide +kernel
theorem dX5_inkFor_0 : decode cX5_inkFor 0 = .ok (.iload_n 0, 1) := by decide +kernel
theorem dX5_inkFor_1 : decode cX5_inkFor 1 = .ok (.i2f, 1) := by decide +kernel
theorem dX5_inkFor_2 : decode cX5_inkFor 2 = .ok (.ldc 248, 2) := by decide +kernel
theorem dX5_inkFor_4 : decode cX5_inkFor 4 = .ok (.fdiv, 1) := by decide +kernel
theorem dX5_inkFor_5 : decode cX5_inkFor 5 = .ok (.freturn, 1) := by decide +kernel
theorem dX5_at_0 : decode cX5_at 0 = .ok (.iload_n 1, 1) := by decide +kernel
theorem dX5_at_1 : decode cX5_at 1 = .ok (.ifCond .lt 15, 3) := by decide +kernel
theorem dX5_at_4 : decode cX5_at 4 = .ok (.iload_n 1, 1) := by decide +kernel
theorem dX5_at_5 : decode cX5_at 5 = .ok (.aload_n 0, 1) := by decide +kernel
theorem dX5_at_6 : decode cX5_at 6 = .ok (.arraylength, 1) := by decide +kernel
theorem dX5_at_7 : decode cX5_at 7 = .ok (.if_icmp .ge 9, 3) := by decide +kernel
theorem dX5_at_10 : decode cX5_at 10 = .ok (.aload_n 0, 1) := by decide +kernel
theorem dX5_at_11 : decode cX5_at 11 = .ok (.iload_n 1, 1) := by decide +kernel
theorem dX5_at_12 : decode cX5_at 12 = .ok (.iaload, 1) := by decide +kernel
theorem dX5_at_13 : decode cX5_at 13 = .ok (.goto 4, 3) := by decide +kernel
theorem dX5_at_16 : decode cX5_at 16 = .ok (.iconst 0, 1) := by decide +kernel
theorem dX5_at_17 : decode cX5_at 17 = .ok (.ireturn, 1) := by decide +kernel
theorem dX5_put_0 : decode cX5_put 0 = .ok (.iload_n 1, 1) := by decide +kernel
theorem dX5_put_1 : decode cX5_put 1 = .ok (.ifCond .lt 13, 3) := by decide +kernel
theorem dX5_put_4 : decode cX5_put 4 = .ok (.iload_n 1, 1) := by decide +kernel
theorem dX5_put_5 : decode cX5_put 5 = .ok (.aload_n 0, 1) := by decide +kernel
theorem dX5_put_6 : decode cX5_put 6 = .ok (.arraylength, 1) := by decide +kernel
theorem dX5_put_7 : decode cX5_put 7 = .ok (.if_icmp .ge 7, 3) := by decide +kernel
theorem dX5_put_10 : decode cX5_put 10 = .ok (.aload_n 0, 1) := by decide +kernel
theorem dX5_put_11 : decode cX5_put 11 = .ok (.iload_n 1, 1) := by decide +kernel
theorem dX5_put_12 : decode cX5_put 12 = .ok (.iload_n 2, 1) := by decide +kernel
theorem dX5_put_13 : decode cX5_put 13 = .ok (.iastore, 1) := by decide +kernel
theorem dX5_put_14 : decode cX5_put 14 = .ok (.return_, 1) := by decide +kernel
theorem dX5_clearRow_0 : decode cX5_clearRow 0 = .ok (.iconst 0, 1) := by decide +kernel
theorem dX5_clearRow_1 : decode cX5_clearRow 1 = .ok (.istore_n 1, 1) := by decide +kernel
theorem dX5_clearRow_2 : decode cX5_clearRow 2 = .ok (.iload_n 1, 1) := by decide +kernel
theorem dX5_clearRow_3 : decode cX5_clearRow 3 = .ok (.aload_n 0, 1) := by decide +kernel
theorem dX5_clearRow_4 : decode cX5_clearRow 4 = .ok (.arraylength, 1) := by decide +kernel
theorem dX5_clearRow_5 : decode cX5_clearRow 5 = .ok (.if_icmp .ge 13, 3) := by decide +kernel
theorem dX5_clearRow_8 : decode cX5_clearRow 8 = .ok (.aload_n 0, 1) := by decide +kernel
theorem dX5_clearRow_9 : decode cX5_clearRow 9 = .ok (.iload_n 1, 1) := by decide +kernel
theorem dX5_clearRow_10 : decode cX5_clearRow 10 = .ok (.iconst 0, 1) := by decide +kernel
theorem dX5_clearRow_11 : decode cX5_clearRow 11 = .ok (.iastore, 1) := by decide +kernel
theorem dX5_clearRow_12 : decode cX5_clearRow 12 = .ok (.iinc 1 1, 3) := by decide +kernel
theorem dX5_clearRow_15 : decode cX5_clearRow 15 = .ok (.goto (-13), 3) := by decide +kernel
theorem dX5_clearRow_18 : decode cX5_clearRow 18 = .ok (.return_, 1) := by decide +kernel
theorem dX5_copyRow_0 : decode cX5_copyRow 0 = .ok (.aload_n 0, 1) := by decide +kernel
theorem dX5_copyRow_1 : decode cX5_copyRow 1 = .ok (.iconst 0, 1) := by decide +kernel
theorem dX5_copyRow_2 : decode cX5_copyRow 2 = .ok (.aload_n 1, 1) := by decide +kernel
theorem dX5_copyRow_3 : decode cX5_copyRow 3 = .ok (.iconst 0, 1) := by decide +kernel
theorem dX5_copyRow_4 : decode cX5_copyRow 4 = .ok (.aload_n 0, 1) := by decide +kernel
theorem dX5_copyRow_5 : decode cX5_copyRow 5 = .ok (.arraylength, 1) := by decide +kernel
theorem dX5_copyRow_6 : decode cX5_copyRow 6 = .ok (.aload_n 1, 1) := by decide +kernel
theorem dX5_copyRow_7 : decode cX5_copyRow 7 = .ok (.arraylength, 1) := by decide +kernel
theorem dX5_copyRow_8 : decode cX5_copyRow 8 = .ok (.invokestatic 249, 3) := by decide +kernel
theorem dX5_copyRow_11 : decode cX5_copyRow 11 = .ok (.invokestatic 255, 3) := by decide +kernel
theorem dX5_copyRow_14 : decode cX5_copyRow 14 = .ok (.return_, 1) := by decide +kernel
end
section
/-! decode rows -/
theorem dX6_init_0 : decode cX6_init 0 = .ok (.aload_n 0, 1) := by decide +kernel
theorem dX6_init_1 : decode cX6_init 1 = .ok (.invokespecial 1, 3) := by decide +kernel
theorem dX6_init_4 : decode cX6_init 4 = .ok (.aload_n 0, 1) := by decide +kernel
theorem dX6_init_5 : decode cX6_init 5 = .ok (.sipush 246, 3) := by decide +kernel
theorem dX6_init_8 : decode cX6_init 8 = .ok (.newarray .int, 2) := by decide +kernel
theorem dX6_init_10 : decode cX6_init 10 = .ok (.putfield 7, 3) := by decide +kernel
theorem dX6_init_13 : decode cX6_init 13 = .ok (.aload_n 0, 1) := by decide +kernel
theorem dX6_init_14 : decode cX6_init 14 = .ok (.sipush 246, 3) := by decide +kernel
theorem dX6_init_17 : decode cX6_init 17 = .ok (.newarray .int, 2) := by decide +kernel
theorem dX6_init_19 : decode cX6_init 19 = .ok (.putfield 13, 3) := by decide +kernel
theorem dX6_init_22 : decode cX6_init 22 = .ok (.aload_n 0, 1) := by decide +kernel
theorem dX6_init_23 : decode cX6_init 23 = .ok (.sipush 246, 3) := by decide +kernel
theorem dX6_init_26 : decode cX6_init 26 = .ok (.newarray .int, 2) := by decide +kernel
theorem dX6_init_28 : decode cX6_init 28 = .ok (.putfield 16, 3) := by decide +kernel
theorem dX6_init_31 : decode cX6_init 31 = .ok (.aload_n 0, 1) := by decide +kernel
theorem dX6_init_32 : decode cX6_init 32 = .ok (.sipush 984, 3) := by decide +kernel
theorem dX6_init_35 : decode cX6_init 35 = .ok (.newarray .int, 2) := by decide +kernel
theorem dX6_init_37 : decode cX6_init 37 = .ok (.putfield 19, 3) := by decide +kernel
theorem dX6_init_40 : decode cX6_init 40 = .ok (.aload_n 0, 1) := by decide +kernel
theorem dX6_init_41 : decode cX6_init 41 = .ok (.sipush 246, 3) := by decide +kernel
theorem dX6_init_44 : decode cX6_init 44 = .ok (.newarray .int, 2) := by decide +kernel
theorem dX6_init_46 : decode cX6_init 46 = .ok (.putfield 22, 3) := by decide +kernel
theorem dX6_init_49 : decode cX6_init 49 = .ok (.aload_n 0, 1) := by decide +kernel
theorem dX6_init_50 : decode cX6_init 50 = .ok (.bipush 40, 2) := by decide +kernel
theorem dX6_init_52 : decode cX6_init 52 = .ok (.newarray .int, 2) := by decide +kernel
theorem dX6_init_54 : decode cX6_init 54 = .ok (.putfield 25, 3) := by decide +kernel
theorem dX6_init_57 : decode cX6_init 57 = .ok (.aload_n 0, 1) := by decide +kernel
theorem dX6_init_58 : decode cX6_init 58 = .ok (.bipush 60, 2) := by decide +kernel
theorem dX6_init_60 : decode cX6_init 60 = .ok (.newarray .int, 2) := by decide +kernel
theorem dX6_init_62 : decode cX6_init 62 = .ok (.putfield 28, 3) := by decide +kernel
theorem dX6_init_65 : decode cX6_init 65 = .ok (.aload_n 0, 1) := by decide +kernel
theorem dX6_init_66 : decode cX6_init 66 = .ok (.getfield 7, 3) := by decide +kernel
theorem dX6_init_69 : decode cX6_init 69 = .ok (.iconst 0, 1) := by decide +kernel
theorem dX6_init_70 : decode cX6_init 70 = .ok (.iconst 2, 1) := by decide +kernel
theorem dX6_init_71 : decode cX6_init 71 = .ok (.iastore, 1) := by decide +kernel
theorem dX6_init_72 : decode cX6_init 72 = .ok (.aload_n 0, 1) := by decide +kernel
theorem dX6_init_73 : decode cX6_init 73 = .ok (.getfield 7, 3) := by decide +kernel
theorem dX6_init_76 : decode cX6_init 76 = .ok (.iconst 1, 1) := by decide +kernel
theorem dX6_init_77 : decode cX6_init 77 = .ok (.bipush 7, 2) := by decide +kernel
theorem dX6_init_79 : decode cX6_init 79 = .ok (.iastore, 1) := by decide +kernel
theorem dX6_init_80 : decode cX6_init 80 = .ok (.aload_n 0, 1) := by decide +kernel
theorem dX6_init_81 : decode cX6_init 81 = .ok (.getfield 7, 3) := by decide +kernel
theorem dX6_init_84 : decode cX6_init 84 = .ok (.iconst 2, 1) := by decide +kernel
theorem dX6_init_85 : decode cX6_init 85 = .ok (.iconst 4, 1) := by decide +kernel
theorem dX6_init_86 : decode cX6_init 86 = .ok (.iastore, 1) := by decide +kernel
theorem dX6_init_87 : decode cX6_init 87 = .ok (.aload_n 0, 1) := by decide +kernel
theorem dX6_init_88 : decode cX6_init 88 = .ok (.getfield 7, 3) := by decide +kernel
theorem dX6_init_91 : decode cX6_init 91 = .ok (.bipush 6, 2) := by decide +kernel
theorem dX6_init_93 : decode cX6_init 93 = .ok (.sipush 256, 3) := by decide +kernel
theorem dX6_init_96 : decode cX6_init 96 = .ok (.iastore, 1) := by decide +kernel
theorem dX6_init_97 : decode cX6_init 97 = .ok (.aload_n 0, 1) := by decide +kernel
theorem dX6_init_98 : decode cX6_init 98 = .ok (.getfield 7, 3) := by decide +kernel
theorem dX6_init_101 : decode cX6_init 101 = .ok (.bipush 12, 2) := by decide +kernel
theorem dX6_init_103 : decode cX6_init 103 = .ok (.iconst 2, 1) := by decide +kernel
theorem dX6_init_104 : decode cX6_init 104 = .ok (.iastore, 1) := by decide +kernel
theorem dX6_init_105 : decode cX6_init 105 = .ok (.aload_n 0, 1) := by decide +kernel
theorem dX6_init_106 : decode cX6_init 106 = .ok (.getfield 7, 3) := by decide +kernel
theorem dX6_init_109 : decode cX6_init 109 = .ok (.bipush 13, 2) := by decide +kernel
theorem dX6_init_111 : decode cX6_init 111 = .ok (.iconst 2, 1) := by decide +kernel
theorem dX6_init_112 : decode cX6_init 112 = .ok (.iastore, 1) := by decide +kernel
theorem dX6_init_113 : decode cX6_init 113 = .ok (.return_, 1) := by decide +kernel
theorem dX6_in_0 : decode cX6_in 0 = .ok (.lload_n 0, 1) := by decide +kernel
theorem dX6_in_1 : decode cX6_in 1 = .ok (.lload_n 2, 1) := by decide +kernel
theorem dX6_in_2 : decode cX6_in 2 = .ok (.lcmp, 1) := by decide +kernel
theorem dX6_in_3 : decode cX6_in 3 = .ok (.ifCond .lt 14, 3) := by decide +kernel
theorem dX6_in_6 : decode cX6_in 6 = .ok (.lload_n 0, 1) := by decide +kernel
theorem dX6_in_7 : decode cX6_in 7 = .ok (.lload 4, 2) := by decide +kernel
theorem dX6_in_9 : decode cX6_in 9 = .ok (.lcmp, 1) := by decide +kernel
theorem dX6_in_10 : decode cX6_in 10 = .ok (.ifCond .gt 7, 3) := by decide +kernel
theorem dX6_in_13 : decode cX6_in 13 = .ok (.iconst 1, 1) := by decide +kernel
theorem dX6_in_14 : decode cX6_in 14 = .ok (.goto 4, 3) := by decide +kernel
theorem dX6_in_17 : decode cX6_in 17 = .ok (.iconst 0, 1) := by decide +kernel
theorem dX6_in_18 : decode cX6_in 18 = .ok (.ireturn, 1) := by decide +kernel
theorem dX6_keeps_0 : decode cX6_keeps 0 = .ok (.iconst 0, 1) := by decide +kernel
theorem dX6_keeps_1 : decode cX6_keeps 1 = .ok (.istore_n 1, 1) := by decide +kernel
theorem dX6_keeps_2 : decode cX6_keeps 2 = .ok (.iload_n 1, 1) := by decide +kernel
theorem dX6_keeps_3 : decode cX6_keeps 3 = .ok (.sipush 246, 3) := by decide +kernel
theorem dX6_keeps_6 : decode cX6_keeps 6 = .ok (.if_icmp .ge 21, 3) := by decide +kernel
theorem dX6_keeps_9 : decode cX6_keeps 9 = .ok (.aload_n 0, 1) := by decide +kernel
theorem dX6_keeps_10 : decode cX6_keeps 10 = .ok (.getfield 13, 3) := by decide +kernel
theorem dX6_keeps_13 : decode cX6_keeps 13 = .ok (.iload_n 1, 1) := by decide +kernel
theorem dX6_keeps_14 : decode cX6_keeps 14 = .ok (.aload_n 0, 1) := by decide +kernel
theorem dX6_keeps_15 : decode cX6_keeps 15 = .ok (.getfield 7, 3) := by decide +kernel
theorem dX6_keeps_18 : decode cX6_keeps 18 = .ok (.iload_n 1, 1) := by decide +kernel
theorem dX6_keeps_19 : decode cX6_keeps 19 = .ok (.iaload, 1) := by decide +kernel
theorem dX6_keeps_20 : decode cX6_keeps 20 = .ok (.iastore, 1) := by decide +kernel
theorem dX6_keeps_21 : decode cX6_keeps 21 = .ok (.iinc 1 1, 3) := by decide +kernel
theorem dX6_keeps_24 : decode cX6_keeps 24 = .ok (.goto (-22), 3) := by decide +kernel
theorem dX6_keeps_27 : decode cX6_keeps 27 = .ok (.return_, 1) := by decide +kernel
theorem dX6_ends_0 : decode cX6_ends 0 = .ok (.aload_n 0, 1) := by decide +kernel
theorem dX6_ends_1 : decode cX6_ends 1 = .ok (.getfield 31, 3) := by decide +kernel
theorem dX6_ends_4 : decode cX6_ends 4 = .ok (.iconst 4, 1) := by decide +kernel
theorem dX6_ends_5 : decode cX6_ends 5 = .ok (.if_icmp .ne 44, 3) := by decide +kernel
theorem dX6_ends_8 : decode cX6_ends 8 = .ok (.iconst 0, 1) := by decide +kernel
theorem dX6_ends_9 : decode cX6_ends 9 = .ok (.istore_n 2, 1) := by decide +kernel
theorem dX6_ends_10 : decode cX6_ends 10 = .ok (.iload_n 2, 1) := by decide +kernel
theorem dX6_ends_11 : decode cX6_ends 11 = .ok (.sipush 738, 3) := by decide +kernel
theorem dX6_ends_14 : decode cX6_ends 14 = .ok (.if_icmp .ge 25, 3) := by decide +kernel
theorem dX6_ends_17 : decode cX6_ends 17 = .ok (.aload_n 0, 1) := by decide +kernel
theorem dX6_ends_18 : decode cX6_ends 18 = .ok (.getfield 19, 3) := by decide +kernel
theorem dX6_ends_21 : decode cX6_ends 21 = .ok (.iload_n 2, 1) := by decide +kernel
theorem dX6_ends_22 : decode cX6_ends 22 = .ok (.aload_n 0, 1) := by decide +kernel
theorem dX6_ends_23 : decode cX6_ends 23 = .ok (.getfield 19, 3) := by decide +kernel
theorem dX6_ends_26 : decode cX6_ends 26 = .ok (.iload_n 2, 1) := by decide +kernel
theorem dX6_ends_27 : decode cX6_ends 27 = .ok (.sipush 246, 3) := by decide +kernel
theorem dX6_ends_30 : decode cX6_ends 30 = .ok (.iadd, 1) := by decide +kernel
theorem dX6_ends_31 : decode cX6_ends 31 = .ok (.iaload, 1) := by decide +kernel
theorem dX6_ends_32 : decode cX6_ends 32 = .ok (.iastore, 1) := by decide +kernel
theorem dX6_ends_33 : decode cX6_ends 33 = .ok (.iinc 2 1, 3) := by decide +kernel
theorem dX6_ends_36 : decode cX6_ends 36 = .ok (.goto (-26), 3) := by decide +kernel
theorem dX6_ends_39 : decode cX6_ends 39 = .ok (.aload_n 0, 1) := by decide +kernel
theorem dX6_ends_40 : decode cX6_ends 40 = .ok (.dup, 1) := by decide +kernel
theorem dX6_ends_41 : decode cX6_ends 41 = .ok (.getfield 31, 3) := by decide +kernel
theorem dX6_ends_44 : decode cX6_ends 44 = .ok (.iconst 1, 1) := by decide +kernel
theorem dX6_ends_45 : decode cX6_ends 45 = .ok (.isub, 1) := by decide +kernel
theorem dX6_ends_46 : decode cX6_ends 46 = .ok (.putfield 31, 3) := by decide +kernel
theorem dX6_ends_49 : decode cX6_ends 49 = .ok (.iconst 0, 1) := by decide +kernel
theorem dX6_ends_50 : decode cX6_ends 50 = .ok (.istore_n 2, 1) := by decide +kernel
theorem dX6_ends_51 : decode cX6_ends 51 = .ok (.iload_n 2, 1) := by decide +kernel
theorem dX6_ends_52 : decode cX6_ends 52 = .ok (.sipush 246, 3) := by decide +kernel
theorem dX6_ends_55 : decode cX6_ends 55 = .ok (.if_icmp .ge 30, 3) := by decide +kernel
theorem dX6_ends_58 : decode cX6_ends 58 = .ok (.aload_n 0, 1) := by decide +kernel
theorem dX6_ends_59 : decode cX6_ends 59 = .ok (.getfield 19, 3) := by decide +kernel
theorem dX6_ends_62 : decode cX6_ends 62 = .ok (.sipush 246, 3) := by decide +kernel
theorem dX6_ends_65 : decode cX6_ends 65 = .ok (.aload_n 0, 1) := by decide +kernel
theorem dX6_ends_66 : decode cX6_ends 66 = .ok (.getfield 31, 3) := by decide +kernel
theorem dX6_ends_69 : decode cX6_ends 69 = .ok (.imul, 1) := by decide +kernel
theorem dX6_ends_70 : decode cX6_ends 70 = .ok (.iload_n 2, 1) := by decide +kernel
theorem dX6_ends_71 : decode cX6_ends 71 = .ok (.iadd, 1) := by decide +kernel
theorem dX6_ends_72 : decode cX6_ends 72 = .ok (.aload_n 0, 1) := by decide +kernel
theorem dX6_ends_73 : decode cX6_ends 73 = .ok (.getfield 13, 3) := by decide +kernel
theorem dX6_ends_76 : decode cX6_ends 76 = .ok (.iload_n 2, 1) := by decide +kernel
theorem dX6_ends_77 : decode cX6_ends 77 = .ok (.iaload, 1) := by decide +kernel
theorem dX6_ends_78 : decode cX6_ends 78 = .ok (.iastore, 1) := by decide +kernel
theorem dX6_ends_79 : decode cX6_ends 79 = .ok (.iinc 2 1, 3) := by decide +kernel
theorem dX6_ends_82 : decode cX6_ends 82 = .ok (.goto (-31), 3) := by decide +kernel
theorem dX6_ends_85 : decode cX6_ends 85 = .ok (.aload_n 0, 1) := by decide +kernel
theorem dX6_ends_86 : decode cX6_ends 86 = .ok (.dup, 1) := by decide +kernel
theorem dX6_ends_87 : decode cX6_ends 87 = .ok (.getfield 31, 3) := by decide +kernel
theorem dX6_ends_90 : decode cX6_ends 90 = .ok (.iconst 1, 1) := by decide +kernel
theorem dX6_ends_91 : decode cX6_ends 91 = .ok (.iadd, 1) := by decide +kernel
theorem dX6_ends_92 : decode cX6_ends 92 = .ok (.putfield 31, 3) := by decide +kernel
theorem dX6_ends_95 : decode cX6_ends 95 = .ok (.iload_n 1, 1) := by decide +kernel
theorem dX6_ends_96 : decode cX6_ends 96 = .ok (.ireturn, 1) := by decide +kernel
theorem dX6_tries_0 : decode cX6_tries 0 = .ok (.iconst 0, 1) := by decide +kernel
theorem dX6_tries_1 : decode cX6_tries 1 = .ok (.istore_n 1, 1) := by decide +kernel
theorem dX6_tries_2 : decode cX6_tries 2 = .ok (.iload_n 1, 1) := by decide +kernel
theorem dX6_tries_3 : decode cX6_tries 3 = .ok (.sipush 246, 3) := by decide +kernel
theorem dX6_tries_6 : decode cX6_tries 6 = .ok (.if_icmp .ge 21, 3) := by decide +kernel
theorem dX6_tries_9 : decode cX6_tries 9 = .ok (.aload_n 0, 1) := by decide +kernel
theorem dX6_tries_10 : decode cX6_tries 10 = .ok (.getfield 16, 3) := by decide +kernel
theorem dX6_tries_13 : decode cX6_tries 13 = .ok (.iload_n 1, 1) := by decide +kernel
theorem dX6_tries_14 : decode cX6_tries 14 = .ok (.aload_n 0, 1) := by decide +kernel
theorem dX6_tries_15 : decode cX6_tries 15 = .ok (.getfield 7, 3) := by decide +kernel
theorem dX6_tries_18 : decode cX6_tries 18 = .ok (.iload_n 1, 1) := by decide +kernel
theorem dX6_tries_19 : decode cX6_tries 19 = .ok (.iaload, 1) := by decide +kernel
theorem dX6_tries_20 : decode cX6_tries 20 = .ok (.iastore, 1) := by decide +kernel
theorem dX6_tries_21 : decode cX6_tries 21 = .ok (.iinc 1 1, 3) := by decide +kernel
theorem dX6_tries_24 : decode cX6_tries 24 = .ok (.goto (-22), 3) := by decide +kernel
theorem dX6_tries_27 : decode cX6_tries 27 = .ok (.return_, 1) := by decide +kernel
theorem dX6_comesBack_0 : decode cX6_comesBack 0 = .ok (.iconst 0, 1) := by decide +kernel
theorem dX6_comesBack_1 : decode cX6_comesBack 1 = .ok (.istore_n 1, 1) := by decide +kernel
theorem dX6_comesBack_2 : decode cX6_comesBack 2 = .ok (.iload_n 1, 1) := by decide +kernel
theorem dX6_comesBack_3 : decode cX6_comesBack 3 = .ok (.sipush 246, 3) := by decide +kernel
theorem dX6_comesBack_6 : decode cX6_comesBack 6 = .ok (.if_icmp .ge 21, 3) := by decide +kernel
theorem dX6_comesBack_9 : decode cX6_comesBack 9 = .ok (.aload_n 0, 1) := by decide +kernel
theorem dX6_comesBack_10 : decode cX6_comesBack 10 = .ok (.getfield 7, 3) := by decide +kernel
theorem dX6_comesBack_13 : decode cX6_comesBack 13 = .ok (.iload_n 1, 1) := by decide +kernel
theorem dX6_comesBack_14 : decode cX6_comesBack 14 = .ok (.aload_n 0, 1) := by decide +kernel
theorem dX6_comesBack_15 : decode cX6_comesBack 15 = .ok (.getfield 16, 3) := by decide +kernel
theorem dX6_comesBack_18 : decode cX6_comesBack 18 = .ok (.iload_n 1, 1) := by decide +kernel
theorem dX6_comesBack_19 : decode cX6_comesBack 19 = .ok (.iaload, 1) := by decide +kernel
theorem dX6_comesBack_20 : decode cX6_comesBack 20 = .ok (.iastore, 1) := by decide +kernel
theorem dX6_comesBack_21 : decode cX6_comesBack 21 = .ok (.iinc 1 1, 3) := by decide +kernel
theorem dX6_comesBack_24 : decode cX6_comesBack 24 = .ok (.goto (-22), 3) := by decide +kernel
theorem dX6_comesBack_27 : decode cX6_comesBack 27 = .ok (.return_, 1) := by decide +kernel
theorem dX6_isPlace_0 : decode cX6_isPlace 0 = .ok (.iload_n 1, 1) := by decide +kernel
theorem dX6_isPlace_1 : decode cX6_isPlace 1 = .ok (.i2l, 1) := by decide +kernel
theorem dX6_isPlace_2 : decode cX6_isPlace 2 = .ok (.lconst 0, 1) := by decide +kernel
theorem dX6_isPlace_3 : decode cX6_isPlace 3 = .ok (.aload_n 0, 1) := by decide +kernel
theorem dX6_isPlace_4 : decode cX6_isPlace 4 = .ok (.getfield 7, 3) := by decide +kernel
theorem dX6_isPlace_7 : decode cX6_isPlace 7 = .ok (.iconst 4, 1) := by decide +kernel
theorem dX6_isPlace_8 : decode cX6_isPlace 8 = .ok (.iaload, 1) := by decide +kernel
theorem dX6_isPlace_9 : decode cX6_isPlace 9 = .ok (.i2l, 1) := by decide +kernel
theorem dX6_isPlace_10 : decode cX6_isPlace 10 = .ok (.lconst 1, 1) := by decide +kernel
theorem dX6_isPlace_11 : decode cX6_isPlace 11 = .ok (.lsub, 1) := by decide +kernel
theorem dX6_isPlace_12 : decode cX6_isPlace 12 = .ok (.invokestatic 35, 3) := by decide +kernel
theorem dX6_isPlace_15 : decode cX6_isPlace 15 = .ok (.ireturn, 1) := by decide +kernel
theorem dX6_due_0 : decode cX6_due 0 = .ok (.aload_n 0, 1) := by decide +kernel
theorem dX6_due_1 : decode cX6_due 1 = .ok (.getfield 7, 3) := by decide +kernel
theorem dX6_due_4 : decode cX6_due 4 = .ok (.bipush 26, 2) := by decide +kernel
theorem dX6_due_6 : decode cX6_due 6 = .ok (.iload_n 1, 1) := by decide +kernel
theorem dX6_due_7 : decode cX6_due 7 = .ok (.aload_n 0, 1) := by decide +kernel
theorem dX6_due_8 : decode cX6_due 8 = .ok (.getfield 7, 3) := by decide +kernel
theorem dX6_due_11 : decode cX6_due 11 = .ok (.iconst 4, 1) := by decide +kernel
theorem dX6_due_12 : decode cX6_due 12 = .ok (.iaload, 1) := by decide +kernel
theorem dX6_due_13 : decode cX6_due 13 = .ok (.iconst 2, 1) := by decide +kernel
theorem dX6_due_14 : decode cX6_due 14 = .ok (.idiv, 1) := by decide +kernel
theorem dX6_due_15 : decode cX6_due 15 = .ok (.if_icmp .ge 7, 3) := by decide +kernel
theorem dX6_due_18 : decode cX6_due 18 = .ok (.iload_n 1, 1) := by decide +kernel
theorem dX6_due_19 : decode cX6_due 19 = .ok (.goto 13, 3) := by decide +kernel
theorem dX6_due_22 : decode cX6_due 22 = .ok (.aload_n 0, 1) := by decide +kernel
theorem dX6_due_23 : decode cX6_due 23 = .ok (.getfield 7, 3) := by decide +kernel
theorem dX6_due_26 : decode cX6_due 26 = .ok (.iconst 4, 1) := by decide +kernel
theorem dX6_due_27 : decode cX6_due 27 = .ok (.iaload, 1) := by decide +kernel
theorem dX6_due_28 : decode cX6_due 28 = .ok (.iconst 1, 1) := by decide +kernel
theorem dX6_due_29 : decode cX6_due 29 = .ok (.isub, 1) := by decide +kernel
theorem dX6_due_30 : decode cX6_due 30 = .ok (.iload_n 1, 1) := by decide +kernel
theorem dX6_due_31 : decode cX6_due 31 = .ok (.isub, 1) := by decide +kernel
theorem dX6_due_32 : decode cX6_due 32 = .ok (.iadd, 1) := by decide +kernel
theorem dX6_due_33 : decode cX6_due 33 = .ok (.iaload, 1) := by decide +kernel
theorem dX6_due_34 : decode cX6_due 34 = .ok (.ireturn, 1) := by decide +kernel
theorem dX6_letterAt_0 : decode cX6_letterAt 0 = .ok (.aload_n 0, 1) := by decide +kernel
theorem dX6_letterAt_1 : decode cX6_letterAt 1 = .ok (.getfield 7, 3) := by decide +kernel
theorem dX6_letterAt_4 : decode cX6_letterAt 4 = .ok (.bipush 46, 2) := by decide +kernel
theorem dX6_letterAt_6 : decode cX6_letterAt 6 = .ok (.iload_n 1, 1) := by decide +kernel
theorem dX6_letterAt_7 : decode cX6_letterAt 7 = .ok (.iadd, 1) := by decide +kernel
theorem dX6_letterAt_8 : decode cX6_letterAt 8 = .ok (.iaload, 1) := by decide +kernel
theorem dX6_letterAt_9 : decode cX6_letterAt 9 = .ok (.ifCond .le 15, 3) := by decide +kernel
theorem dX6_letterAt_12 : decode cX6_letterAt 12 = .ok (.aload_n 0, 1) := by decide +kernel
theorem dX6_letterAt_13 : decode cX6_letterAt 13 = .ok (.getfield 7, 3) := by decide +kernel
theorem dX6_letterAt_16 : decode cX6_letterAt 16 = .ok (.bipush 46, 2) := by decide +kernel
theorem dX6_letterAt_18 : decode cX6_letterAt 18 = .ok (.iload_n 1, 1) := by decide +kernel
theorem dX6_letterAt_19 : decode cX6_letterAt 19 = .ok (.iadd, 1) := by decide +kernel
theorem dX6_letterAt_20 : decode cX6_letterAt 20 = .ok (.iaload, 1) := by decide +kernel
theorem dX6_letterAt_21 : decode cX6_letterAt 21 = .ok (.goto 8, 3) := by decide +kernel
theorem dX6_letterAt_24 : decode cX6_letterAt 24 = .ok (.aload_n 0, 1) := by decide +kernel
theorem dX6_letterAt_25 : decode cX6_letterAt 25 = .ok (.iload_n 1, 1) := by decide +kernel
theorem dX6_letterAt_26 : decode cX6_letterAt 26 = .ok (.invokevirtual 39, 3) := by decide +kernel
theorem dX6_letterAt_29 : decode cX6_letterAt 29 = .ok (.ireturn, 1) := by decide +kernel
theorem dX6_nextPlace_0 : decode cX6_nextPlace 0 = .ok (.aload_n 0, 1) := by decide +kernel
theorem dX6_nextPlace_1 : decode cX6_nextPlace 1 = .ok (.getfield 7, 3) := by decide +kernel
theorem dX6_nextPlace_4 : decode cX6_nextPlace 4 = .ok (.bipush 14, 2) := by decide +kernel
theorem dX6_nextPlace_6 : decode cX6_nextPlace 6 = .ok (.iload_n 1, 1) := by decide +kernel
theorem dX6_nextPlace_7 : decode cX6_nextPlace 7 = .ok (.iadd, 1) := by decide +kernel
theorem dX6_nextPlace_8 : decode cX6_nextPlace 8 = .ok (.iaload, 1) := by decide +kernel
theorem dX6_nextPlace_9 : decode cX6_nextPlace 9 = .ok (.istore_n 2, 1) := by decide +kernel
theorem dX6_nextPlace_10 : decode cX6_nextPlace 10 = .ok (.iload_n 2, 1) := by decide +kernel
theorem dX6_nextPlace_11 : decode cX6_nextPlace 11 = .ok (.aload_n 0, 1) := by decide +kernel
theorem dX6_nextPlace_12 : decode cX6_nextPlace 12 = .ok (.getfield 7, 3) := by decide +kernel
theorem dX6_nextPlace_15 : decode cX6_nextPlace 15 = .ok (.iconst 4, 1) := by decide +kernel
theorem dX6_nextPlace_16 : decode cX6_nextPlace 16 = .ok (.iaload, 1) := by decide +kernel
theorem dX6_nextPlace_17 : decode cX6_nextPlace 17 = .ok (.iconst 2, 1) := by decide +kernel
theorem dX6_nextPlace_18 : decode cX6_nextPlace 18 = .ok (.idiv, 1) := by decide +kernel
theorem dX6_nextPlace_19 : decode cX6_nextPlace 19 = .ok (.if_icmp .ne 8, 3) := by decide +kernel
theorem dX6_nextPlace_22 : decode cX6_nextPlace 22 = .ok (.bipush (-5), 2) := by decide +kernel
theorem dX6_nextPlace_24 : decode cX6_nextPlace 24 = .ok (.goto 21, 3) := by decide +kernel
theorem dX6_nextPlace_27 : decode cX6_nextPlace 27 = .ok (.iload_n 1, 1) := by decide +kernel
theorem dX6_nextPlace_28 : decode cX6_nextPlace 28 = .ok (.ifCond .ne 7, 3) := by decide +kernel
theorem dX6_nextPlace_31 : decode cX6_nextPlace 31 = .ok (.iload_n 2, 1) := by decide +kernel
theorem dX6_nextPlace_32 : decode cX6_nextPlace 32 = .ok (.goto 13, 3) := by decide +kernel
theorem dX6_nextPlace_35 : decode cX6_nextPlace 35 = .ok (.aload_n 0, 1) := by decide +kernel
theorem dX6_nextPlace_36 : decode cX6_nextPlace 36 = .ok (.getfield 7, 3) := by decide +kernel
theorem dX6_nextPlace_39 : decode cX6_nextPlace 39 = .ok (.iconst 4, 1) := by decide +kernel
theorem dX6_nextPlace_40 : decode cX6_nextPlace 40 = .ok (.iaload, 1) := by decide +kernel
theorem dX6_nextPlace_41 : decode cX6_nextPlace 41 = .ok (.iconst 1, 1) := by decide +kernel
theorem dX6_nextPlace_42 : decode cX6_nextPlace 42 = .ok (.isub, 1) := by decide +kernel
theorem dX6_nextPlace_43 : decode cX6_nextPlace 43 = .ok (.iload_n 2, 1) := by decide +kernel
theorem dX6_nextPlace_44 : decode cX6_nextPlace 44 = .ok (.isub, 1) := by decide +kernel
theorem dX6_nextPlace_45 : decode cX6_nextPlace 45 = .ok (.ireturn, 1) := by decide +kernel
theorem dX6_isDone_0 : decode cX6_isDone 0 = .ok (.aload_n 0, 1) := by decide +kernel
theorem dX6_isDone_1 : decode cX6_isDone 1 = .ok (.getfield 7, 3) := by decide +kernel
theorem dX6_isDone_4 : decode cX6_isDone 4 = .ok (.bipush 14, 2) := by decide +kernel
theorem dX6_isDone_6 : decode cX6_isDone 6 = .ok (.iaload, 1) := by decide +kernel
theorem dX6_isDone_7 : decode cX6_isDone 7 = .ok (.aload_n 0, 1) := by decide +kernel
theorem dX6_isDone_8 : decode cX6_isDone 8 = .ok (.getfield 7, 3) := by decide +kernel
theorem dX6_isDone_11 : decode cX6_isDone 11 = .ok (.bipush 15, 2) := by decide +kernel
theorem dX6_isDone_13 : decode cX6_isDone 13 = .ok (.iaload, 1) := by decide +kernel
theorem dX6_isDone_14 : decode cX6_isDone 14 = .ok (.iadd, 1) := by decide +kernel
theorem dX6_isDone_15 : decode cX6_isDone 15 = .ok (.aload_n 0, 1) := by decide +kernel
theorem dX6_isDone_16 : decode cX6_isDone 16 = .ok (.getfield 7, 3) := by decide +kernel
theorem dX6_isDone_19 : decode cX6_isDone 19 = .ok (.iconst 4, 1) := by decide +kernel
theorem dX6_isDone_20 : decode cX6_isDone 20 = .ok (.iaload, 1) := by decide +kernel
theorem dX6_isDone_21 : decode cX6_isDone 21 = .ok (.if_icmp .ne 7, 3) := by decide +kernel
theorem dX6_isDone_24 : decode cX6_isDone 24 = .ok (.iconst 1, 1) := by decide +kernel
theorem dX6_isDone_25 : decode cX6_isDone 25 = .ok (.goto 4, 3) := by decide +kernel
theorem dX6_isDone_28 : decode cX6_isDone 28 = .ok (.iconst 0, 1) := by decide +kernel
theorem dX6_isDone_29 : decode cX6_isDone 29 = .ok (.ireturn, 1) := by decide +kernel
theorem dX6_marginLeft_0 : decode cX6_marginLeft 0 = .ok (.aload_n 0, 1) := by decide +kernel
theorem dX6_marginLeft_1 : decode cX6_marginLeft 1 = .ok (.getfield 7, 3) := by decide +kernel
theorem dX6_marginLeft_4 : decode cX6_marginLeft 4 = .ok (.iconst 5, 1) := by decide +kernel
theorem dX6_marginLeft_5 : decode cX6_marginLeft 5 = .ok (.iaload, 1) := by decide +kernel
theorem dX6_marginLeft_6 : decode cX6_marginLeft 6 = .ok (.aload_n 0, 1) := by decide +kernel
theorem dX6_marginLeft_7 : decode cX6_marginLeft 7 = .ok (.getfield 7, 3) := by decide +kernel
theorem dX6_marginLeft_10 : decode cX6_marginLeft 10 = .ok (.iconst 2, 1) := by decide +kernel
theorem dX6_marginLeft_11 : decode cX6_marginLeft 11 = .ok (.iaload, 1) := by decide +kernel
theorem dX6_marginLeft_12 : decode cX6_marginLeft 12 = .ok (.if_icmp .le 7, 3) := by decide +kernel
theorem dX6_marginLeft_15 : decode cX6_marginLeft 15 = .ok (.iconst 0, 1) := by decide +kernel
theorem dX6_marginLeft_16 : decode cX6_marginLeft 16 = .ok (.goto 16, 3) := by decide +kernel
theorem dX6_marginLeft_19 : decode cX6_marginLeft 19 = .ok (.aload_n 0, 1) := by decide +kernel
theorem dX6_marginLeft_20 : decode cX6_marginLeft 20 = .ok (.getfield 7, 3) := by decide +kernel
theorem dX6_marginLeft_23 : decode cX6_marginLeft 23 = .ok (.iconst 2, 1) := by decide +kernel
theorem dX6_marginLeft_24 : decode cX6_marginLeft 24 = .ok (.iaload, 1) := by decide +kernel
theorem dX6_marginLeft_25 : decode cX6_marginLeft 25 = .ok (.aload_n 0, 1) := by decide +kernel
theorem dX6_marginLeft_26 : decode cX6_marginLeft 26 = .ok (.getfield 7, 3) := by decide +kernel
theorem dX6_marginLeft_29 : decode cX6_marginLeft 29 = .ok (.iconst 5, 1) := by decide +kernel
theorem dX6_marginLeft_30 : decode cX6_marginLeft 30 = .ok (.iaload, 1) := by decide +kernel
theorem dX6_marginLeft_31 : decode cX6_marginLeft 31 = .ok (.isub, 1) := by decide +kernel
theorem dX6_marginLeft_32 : decode cX6_marginLeft 32 = .ok (.ireturn, 1) := by decide +kernel
theorem dX6_does_0 : decode cX6_does 0 = .ok (.aload_n 0, 1) := by decide +kernel
theorem dX6_does_1 : decode cX6_does 1 = .ok (.getfield 7, 3) := by decide +kernel
theorem dX6_does_4 : decode cX6_does 4 = .ok (.bipush 18, 2) := by decide +kernel
theorem dX6_does_6 : decode cX6_does 6 = .ok (.iload_n 1, 1) := by decide +kernel
theorem dX6_does_7 : decode cX6_does 7 = .ok (.iadd, 1) := by decide +kernel
theorem dX6_does_8 : decode cX6_does 8 = .ok (.iaload, 1) := by decide +kernel
theorem dX6_does_9 : decode cX6_does 9 = .ok (.ifCond .le 5, 3) := by decide +kernel
theorem dX6_does_12 : decode cX6_does 12 = .ok (.iconst 1, 1) := by decide +kernel
theorem dX6_does_13 : decode cX6_does 13 = .ok (.ireturn, 1) := by decide +kernel
theorem dX6_does_14 : decode cX6_does 14 = .ok (.aload_n 0, 1) := by decide +kernel
theorem dX6_does_15 : decode cX6_does 15 = .ok (.iload_n 1, 1) := by decide +kernel
theorem dX6_does_16 : decode cX6_does 16 = .ok (.invokevirtual 43, 3) := by decide +kernel
theorem dX6_does_19 : decode cX6_does 19 = .ok (.istore_n 2, 1) := by decide +kernel
theorem dX6_does_20 : decode cX6_does 20 = .ok (.iload_n 2, 1) := by decide +kernel
theorem dX6_does_21 : decode cX6_does 21 = .ok (.bipush (-5), 2) := by decide +kernel
theorem dX6_does_23 : decode cX6_does 23 = .ok (.if_icmp .ne 5, 3) := by decide +kernel
theorem dX6_does_26 : decode cX6_does 26 = .ok (.iconst 5, 1) := by decide +kernel
theorem dX6_does_27 : decode cX6_does 27 = .ok (.ireturn, 1) := by decide +kernel
theorem dX6_does_28 : decode cX6_does 28 = .ok (.aload_n 0, 1) := by decide +kernel
theorem dX6_does_29 : decode cX6_does 29 = .ok (.getfield 7, 3) := by decide +kernel
theorem dX6_does_32 : decode cX6_does 32 = .ok (.bipush 24, 2) := by decide +kernel
theorem dX6_does_34 : decode cX6_does 34 = .ok (.iload_n 1, 1) := by decide +kernel
theorem dX6_does_35 : decode cX6_does 35 = .ok (.iadd, 1) := by decide +kernel
theorem dX6_does_36 : decode cX6_does 36 = .ok (.iaload, 1) := by decide +kernel
theorem dX6_does_37 : decode cX6_does 37 = .ok (.aload_n 0, 1) := by decide +kernel
theorem dX6_does_38 : decode cX6_does 38 = .ok (.iload_n 2, 1) := by decide +kernel
theorem dX6_does_39 : decode cX6_does 39 = .ok (.invokevirtual 46, 3) := by decide +kernel
theorem dX6_does_42 : decode cX6_does 42 = .ok (.if_icmp .ge 15, 3) := by decide +kernel
theorem dX6_does_45 : decode cX6_does 45 = .ok (.aload_n 0, 1) := by decide +kernel
theorem dX6_does_46 : decode cX6_does 46 = .ok (.getfield 7, 3) := by decide +kernel
theorem dX6_does_49 : decode cX6_does 49 = .ok (.bipush 16, 2) := by decide +kernel
theorem dX6_does_51 : decode cX6_does 51 = .ok (.iload_n 1, 1) := by decide +kernel
theorem dX6_does_52 : decode cX6_does 52 = .ok (.iadd, 1) := by decide +kernel
theorem dX6_does_53 : decode cX6_does 53 = .ok (.iaload, 1) := by decide +kernel
theorem dX6_does_54 : decode cX6_does 54 = .ok (.ifCond .le 5, 3) := by decide +kernel
theorem dX6_does_57 : decode cX6_does 57 = .ok (.iconst 0, 1) := by decide +kernel
theorem dX6_does_58 : decode cX6_does 58 = .ok (.ireturn, 1) := by decide +kernel
theorem dX6_does_59 : decode cX6_does 59 = .ok (.aload_n 0, 1) := by decide +kernel
theorem dX6_does_60 : decode cX6_does 60 = .ok (.getfield 7, 3) := by decide +kernel
theorem dX6_does_63 : decode cX6_does 63 = .ok (.bipush 19, 2) := by decide +kernel
theorem dX6_does_65 : decode cX6_does 65 = .ok (.iload_n 1, 1) := by decide +kernel
theorem dX6_does_66 : decode cX6_does 66 = .ok (.isub, 1) := by decide +kernel
theorem dX6_does_67 : decode cX6_does 67 = .ok (.iaload, 1) := by decide +kernel
theorem dX6_does_68 : decode cX6_does 68 = .ok (.ifCond .le 7, 3) := by decide +kernel
theorem dX6_does_71 : decode cX6_does 71 = .ok (.iconst 3, 1) := by decide +kernel
theorem dX6_does_72 : decode cX6_does 72 = .ok (.goto 18, 3) := by decide +kernel
theorem dX6_does_75 : decode cX6_does 75 = .ok (.aload_n 0, 1) := by decide +kernel
theorem dX6_does_76 : decode cX6_does 76 = .ok (.getfield 7, 3) := by decide +kernel
theorem dX6_does_79 : decode cX6_does 79 = .ok (.bipush 6, 2) := by decide +kernel
theorem dX6_does_81 : decode cX6_does 81 = .ok (.iaload, 1) := by decide +kernel
theorem dX6_does_82 : decode cX6_does 82 = .ok (.ifCond .ne 7, 3) := by decide +kernel
theorem dX6_does_85 : decode cX6_does 85 = .ok (.iconst 4, 1) := by decide +kernel
theorem dX6_does_86 : decode cX6_does 86 = .ok (.goto 4, 3) := by decide +kernel
theorem dX6_does_89 : decode cX6_does 89 = .ok (.iconst 2, 1) := by decide +kernel
theorem dX6_does_90 : decode cX6_does 90 = .ok (.ireturn, 1) := by decide +kernel
theorem dX6_dips_0 : decode cX6_dips 0 = .ok (.aload_n 0, 1) := by decide +kernel
theorem dX6_dips_1 : decode cX6_dips 1 = .ok (.getfield 7, 3) := by decide +kernel
theorem dX6_dips_4 : decode cX6_dips 4 = .ok (.bipush 18, 2) := by decide +kernel
theorem dX6_dips_6 : decode cX6_dips 6 = .ok (.iload_n 1, 1) := by decide +kernel
theorem dX6_dips_7 : decode cX6_dips 7 = .ok (.iadd, 1) := by decide +kernel
theorem dX6_dips_8 : decode cX6_dips 8 = .ok (.dup2, 1) := by decide +kernel
theorem dX6_dips_9 : decode cX6_dips 9 = .ok (.iaload, 1) := by decide +kernel
theorem dX6_dips_10 : decode cX6_dips 10 = .ok (.iconst 1, 1) := by decide +kernel
theorem dX6_dips_11 : decode cX6_dips 11 = .ok (.isub, 1) := by decide +kernel
theorem dX6_dips_12 : decode cX6_dips 12 = .ok (.iastore, 1) := by decide +kernel
theorem dX6_dips_13 : decode cX6_dips 13 = .ok (.aload_n 0, 1) := by decide +kernel
theorem dX6_dips_14 : decode cX6_dips 14 = .ok (.getfield 7, 3) := by decide +kernel
theorem dX6_dips_17 : decode cX6_dips 17 = .ok (.bipush 18, 2) := by decide +kernel
theorem dX6_dips_19 : decode cX6_dips 19 = .ok (.iload_n 1, 1) := by decide +kernel
theorem dX6_dips_20 : decode cX6_dips 20 = .ok (.iadd, 1) := by decide +kernel
theorem dX6_dips_21 : decode cX6_dips 21 = .ok (.iaload, 1) := by decide +kernel
theorem dX6_dips_22 : decode cX6_dips 22 = .ok (.ifCond .ne 76, 3) := by decide +kernel
theorem dX6_dips_25 : decode cX6_dips 25 = .ok (.bipush 64, 2) := by decide +kernel
theorem dX6_dips_27 : decode cX6_dips 27 = .ok (.aload_n 0, 1) := by decide +kernel
theorem dX6_dips_28 : decode cX6_dips 28 = .ok (.getfield 7, 3) := by decide +kernel
theorem dX6_dips_31 : decode cX6_dips 31 = .ok (.bipush 24, 2) := by decide +kernel
theorem dX6_dips_33 : decode cX6_dips 33 = .ok (.iload_n 1, 1) := by decide +kernel
theorem dX6_dips_34 : decode cX6_dips 34 = .ok (.iadd, 1) := by decide +kernel
theorem dX6_dips_35 : decode cX6_dips 35 = .ok (.iaload, 1) := by decide +kernel
theorem dX6_dips_36 : decode cX6_dips 36 = .ok (.isub, 1) := by decide +kernel
theorem dX6_dips_37 : decode cX6_dips 37 = .ok (.istore_n 2, 1) := by decide +kernel
theorem dX6_dips_38 : decode cX6_dips 38 = .ok (.iload_n 2, 1) := by decide +kernel
theorem dX6_dips_39 : decode cX6_dips 39 = .ok (.aload_n 0, 1) := by decide +kernel
theorem dX6_dips_40 : decode cX6_dips 40 = .ok (.getfield 7, 3) := by decide +kernel
theorem dX6_dips_43 : decode cX6_dips 43 = .ok (.bipush 6, 2) := by decide +kernel
theorem dX6_dips_45 : decode cX6_dips 45 = .ok (.iaload, 1) := by decide +kernel
theorem dX6_dips_46 : decode cX6_dips 46 = .ok (.if_icmp .ge 7, 3) := by decide +kernel
theorem dX6_dips_49 : decode cX6_dips 49 = .ok (.iload_n 2, 1) := by decide +kernel
theorem dX6_dips_50 : decode cX6_dips 50 = .ok (.goto 10, 3) := by decide +kernel
theorem dX6_dips_53 : decode cX6_dips 53 = .ok (.aload_n 0, 1) := by decide +kernel
theorem dX6_dips_54 : decode cX6_dips 54 = .ok (.getfield 7, 3) := by decide +kernel
theorem dX6_dips_57 : decode cX6_dips 57 = .ok (.bipush 6, 2) := by decide +kernel
theorem dX6_dips_59 : decode cX6_dips 59 = .ok (.iaload, 1) := by decide +kernel
theorem dX6_dips_60 : decode cX6_dips 60 = .ok (.istore_n 3, 1) := by decide +kernel
theorem dX6_dips_61 : decode cX6_dips 61 = .ok (.aload_n 0, 1) := by decide +kernel
theorem dX6_dips_62 : decode cX6_dips 62 = .ok (.getfield 7, 3) := by decide +kernel
theorem dX6_dips_65 : decode cX6_dips 65 = .ok (.bipush 24, 2) := by decide +kernel
theorem dX6_dips_67 : decode cX6_dips 67 = .ok (.iload_n 1, 1) := by decide +kernel
theorem dX6_dips_68 : decode cX6_dips 68 = .ok (.iadd, 1) := by decide +kernel
theorem dX6_dips_69 : decode cX6_dips 69 = .ok (.dup2, 1) := by decide +kernel
theorem dX6_dips_70 : decode cX6_dips 70 = .ok (.iaload, 1) := by decide +kernel
theorem dX6_dips_71 : decode cX6_dips 71 = .ok (.iload_n 3, 1) := by decide +kernel
theorem dX6_dips_72 : decode cX6_dips 72 = .ok (.iadd, 1) := by decide +kernel
theorem dX6_dips_73 : decode cX6_dips 73 = .ok (.iastore, 1) := by decide +kernel
theorem dX6_dips_74 : decode cX6_dips 74 = .ok (.aload_n 0, 1) := by decide +kernel
theorem dX6_dips_75 : decode cX6_dips 75 = .ok (.getfield 7, 3) := by decide +kernel
theorem dX6_dips_78 : decode cX6_dips 78 = .ok (.bipush 6, 2) := by decide +kernel
theorem dX6_dips_80 : decode cX6_dips 80 = .ok (.dup2, 1) := by decide +kernel
theorem dX6_dips_81 : decode cX6_dips 81 = .ok (.iaload, 1) := by decide +kernel
theorem dX6_dips_82 : decode cX6_dips 82 = .ok (.iload_n 3, 1) := by decide +kernel
theorem dX6_dips_83 : decode cX6_dips 83 = .ok (.isub, 1) := by decide +kernel
theorem dX6_dips_84 : decode cX6_dips 84 = .ok (.iastore, 1) := by decide +kernel
theorem dX6_dips_85 : decode cX6_dips 85 = .ok (.aload_n 0, 1) := by decide +kernel
theorem dX6_dips_86 : decode cX6_dips 86 = .ok (.getfield 7, 3) := by decide +kernel
theorem dX6_dips_89 : decode cX6_dips 89 = .ok (.bipush 20, 2) := by decide +kernel
theorem dX6_dips_91 : decode cX6_dips 91 = .ok (.iload_n 1, 1) := by decide +kernel
theorem dX6_dips_92 : decode cX6_dips 92 = .ok (.iadd, 1) := by decide +kernel
theorem dX6_dips_93 : decode cX6_dips 93 = .ok (.dup2, 1) := by decide +kernel
theorem dX6_dips_94 : decode cX6_dips 94 = .ok (.iaload, 1) := by decide +kernel
theorem dX6_dips_95 : decode cX6_dips 95 = .ok (.iconst 1, 1) := by decide +kernel
theorem dX6_dips_96 : decode cX6_dips 96 = .ok (.iadd, 1) := by decide +kernel
theorem dX6_dips_97 : decode cX6_dips 97 = .ok (.iastore, 1) := by decide +kernel
theorem dX6_dips_98 : decode cX6_dips 98 = .ok (.return_, 1) := by decide +kernel
theorem dX6_writes_0 : decode cX6_writes 0 = .ok (.aload_n 0, 1) := by decide +kernel
theorem dX6_writes_1 : decode cX6_writes 1 = .ok (.getfield 7, 3) := by decide +kernel
theorem dX6_writes_4 : decode cX6_writes 4 = .ok (.bipush 16, 2) := by decide +kernel
theorem dX6_writes_6 : decode cX6_writes 6 = .ok (.iload_n 1, 1) := by decide +kernel
theorem dX6_writes_7 : decode cX6_writes 7 = .ok (.iadd, 1) := by decide +kernel
theorem dX6_writes_8 : decode cX6_writes 8 = .ok (.dup2, 1) := by decide +kernel
theorem dX6_writes_9 : decode cX6_writes 9 = .ok (.iaload, 1) := by decide +kernel
theorem dX6_writes_10 : decode cX6_writes 10 = .ok (.iconst 1, 1) := by decide +kernel
theorem dX6_writes_11 : decode cX6_writes 11 = .ok (.iadd, 1) := by decide +kernel
theorem dX6_writes_12 : decode cX6_writes 12 = .ok (.iastore, 1) := by decide +kernel
theorem dX6_writes_13 : decode cX6_writes 13 = .ok (.aload_n 0, 1) := by decide +kernel
theorem dX6_writes_14 : decode cX6_writes 14 = .ok (.getfield 7, 3) := by decide +kernel
theorem dX6_writes_17 : decode cX6_writes 17 = .ok (.bipush 16, 2) := by decide +kernel
theorem dX6_writes_19 : decode cX6_writes 19 = .ok (.iload_n 1, 1) := by decide +kernel
theorem dX6_writes_20 : decode cX6_writes 20 = .ok (.iadd, 1) := by decide +kernel
theorem dX6_writes_21 : decode cX6_writes 21 = .ok (.iaload, 1) := by decide +kernel
theorem dX6_writes_22 : decode cX6_writes 22 = .ok (.aload_n 0, 1) := by decide +kernel
theorem dX6_writes_23 : decode cX6_writes 23 = .ok (.getfield 7, 3) := by decide +kernel
theorem dX6_writes_26 : decode cX6_writes 26 = .ok (.bipush 12, 2) := by decide +kernel
theorem dX6_writes_28 : decode cX6_writes 28 = .ok (.iload_n 1, 1) := by decide +kernel
theorem dX6_writes_29 : decode cX6_writes 29 = .ok (.iadd, 1) := by decide +kernel
theorem dX6_writes_30 : decode cX6_writes 30 = .ok (.iaload, 1) := by decide +kernel
theorem dX6_writes_31 : decode cX6_writes 31 = .ok (.if_icmp .ge 4, 3) := by decide +kernel
theorem dX6_writes_34 : decode cX6_writes 34 = .ok (.return_, 1) := by decide +kernel
theorem dX6_writes_35 : decode cX6_writes 35 = .ok (.aload_n 0, 1) := by decide +kernel
theorem dX6_writes_36 : decode cX6_writes 36 = .ok (.iload_n 1, 1) := by decide +kernel
theorem dX6_writes_37 : decode cX6_writes 37 = .ok (.invokevirtual 43, 3) := by decide +kernel
theorem dX6_writes_40 : decode cX6_writes 40 = .ok (.istore_n 2, 1) := by decide +kernel
theorem dX6_writes_41 : decode cX6_writes 41 = .ok (.aload_n 0, 1) := by decide +kernel
theorem dX6_writes_42 : decode cX6_writes 42 = .ok (.iload_n 2, 1) := by decide +kernel
theorem dX6_writes_43 : decode cX6_writes 43 = .ok (.invokevirtual 46, 3) := by decide +kernel
theorem dX6_writes_46 : decode cX6_writes 46 = .ok (.istore_n 3, 1) := by decide +kernel
theorem dX6_writes_47 : decode cX6_writes 47 = .ok (.aload_n 0, 1) := by decide +kernel
theorem dX6_writes_48 : decode cX6_writes 48 = .ok (.getfield 7, 3) := by decide +kernel
theorem dX6_writes_51 : decode cX6_writes 51 = .ok (.bipush 86, 2) := by decide +kernel
theorem dX6_writes_53 : decode cX6_writes 53 = .ok (.iload_n 2, 1) := by decide +kernel
theorem dX6_writes_54 : decode cX6_writes 54 = .ok (.iadd, 1) := by decide +kernel
theorem dX6_writes_55 : decode cX6_writes 55 = .ok (.iload_n 3, 1) := by decide +kernel
theorem dX6_writes_56 : decode cX6_writes 56 = .ok (.iastore, 1) := by decide +kernel
theorem dX6_writes_57 : decode cX6_writes 57 = .ok (.aload_n 0, 1) := by decide +kernel
theorem dX6_writes_58 : decode cX6_writes 58 = .ok (.getfield 7, 3) := by decide +kernel
theorem dX6_writes_61 : decode cX6_writes 61 = .ok (.bipush 126, 2) := by decide +kernel
theorem dX6_writes_63 : decode cX6_writes 63 = .ok (.iload_n 2, 1) := by decide +kernel
theorem dX6_writes_64 : decode cX6_writes 64 = .ok (.iadd, 1) := by decide +kernel
theorem dX6_writes_65 : decode cX6_writes 65 = .ok (.aload_n 0, 1) := by decide +kernel
theorem dX6_writes_66 : decode cX6_writes 66 = .ok (.getfield 7, 3) := by decide +kernel
theorem dX6_writes_69 : decode cX6_writes 69 = .ok (.bipush 24, 2) := by decide +kernel
theorem dX6_writes_71 : decode cX6_writes 71 = .ok (.iload_n 1, 1) := by decide +kernel
theorem dX6_writes_72 : decode cX6_writes 72 = .ok (.iadd, 1) := by decide +kernel
theorem dX6_writes_73 : decode cX6_writes 73 = .ok (.iaload, 1) := by decide +kernel
theorem dX6_writes_74 : decode cX6_writes 74 = .ok (.bipush 8, 2) := by decide +kernel
theorem dX6_writes_76 : decode cX6_writes 76 = .ok (.aload_n 0, 1) := by decide +kernel
theorem dX6_writes_77 : decode cX6_writes 77 = .ok (.getfield 7, 3) := by decide +kernel
theorem dX6_writes_80 : decode cX6_writes 80 = .ok (.iconst 1, 1) := by decide +kernel
theorem dX6_writes_81 : decode cX6_writes 81 = .ok (.iaload, 1) := by decide +kernel
theorem dX6_writes_82 : decode cX6_writes 82 = .ok (.imul, 1) := by decide +kernel
theorem dX6_writes_83 : decode cX6_writes 83 = .ok (.if_icmp .le 7, 3) := by decide +kernel
theorem dX6_writes_86 : decode cX6_writes 86 = .ok (.iconst 1, 1) := by decide +kernel
theorem dX6_writes_87 : decode cX6_writes 87 = .ok (.goto 4, 3) := by decide +kernel
theorem dX6_writes_90 : decode cX6_writes 90 = .ok (.iconst 0, 1) := by decide +kernel
theorem dX6_writes_91 : decode cX6_writes 91 = .ok (.iastore, 1) := by decide +kernel
theorem dX6_writes_92 : decode cX6_writes 92 = .ok (.aload_n 0, 1) := by decide +kernel
theorem dX6_writes_93 : decode cX6_writes 93 = .ok (.getfield 7, 3) := by decide +kernel
theorem dX6_writes_96 : decode cX6_writes 96 = .ok (.sipush 206, 3) := by decide +kernel
theorem dX6_writes_99 : decode cX6_writes 99 = .ok (.iload_n 2, 1) := by decide +kernel
theorem dX6_writes_100 : decode cX6_writes 100 = .ok (.iadd, 1) := by decide +kernel
theorem dX6_writes_101 : decode cX6_writes 101 = .ok (.aload_n 0, 1) := by decide +kernel
theorem dX6_writes_102 : decode cX6_writes 102 = .ok (.getfield 7, 3) := by decide +kernel
theorem dX6_writes_105 : decode cX6_writes 105 = .ok (.iconst 3, 1) := by decide +kernel
theorem dX6_writes_106 : decode cX6_writes 106 = .ok (.iaload, 1) := by decide +kernel
theorem dX6_writes_107 : decode cX6_writes 107 = .ok (.iconst 1, 1) := by decide +kernel
theorem dX6_writes_108 : decode cX6_writes 108 = .ok (.iadd, 1) := by decide +kernel
theorem dX6_writes_109 : decode cX6_writes 109 = .ok (.iastore, 1) := by decide +kernel
theorem dX6_writes_110 : decode cX6_writes 110 = .ok (.aload_n 0, 1) := by decide +kernel
theorem dX6_writes_111 : decode cX6_writes 111 = .ok (.getfield 7, 3) := by decide +kernel
theorem dX6_writes_114 : decode cX6_writes 114 = .ok (.bipush 24, 2) := by decide +kernel
theorem dX6_writes_116 : decode cX6_writes 116 = .ok (.iload_n 1, 1) := by decide +kernel
theorem dX6_writes_117 : decode cX6_writes 117 = .ok (.iadd, 1) := by decide +kernel
theorem dX6_writes_118 : decode cX6_writes 118 = .ok (.dup2, 1) := by decide +kernel
theorem dX6_writes_119 : decode cX6_writes 119 = .ok (.iaload, 1) := by decide +kernel
theorem dX6_writes_120 : decode cX6_writes 120 = .ok (.iload_n 3, 1) := by decide +kernel
theorem dX6_writes_121 : decode cX6_writes 121 = .ok (.isub, 1) := by decide +kernel
theorem dX6_writes_122 : decode cX6_writes 122 = .ok (.iastore, 1) := by decide +kernel
theorem dX6_writes_123 : decode cX6_writes 123 = .ok (.aload_n 0, 1) := by decide +kernel
theorem dX6_writes_124 : decode cX6_writes 124 = .ok (.getfield 7, 3) := by decide +kernel
theorem dX6_writes_127 : decode cX6_writes 127 = .ok (.bipush 7, 2) := by decide +kernel
theorem dX6_writes_129 : decode cX6_writes 129 = .ok (.dup2, 1) := by decide +kernel
theorem dX6_writes_130 : decode cX6_writes 130 = .ok (.iaload, 1) := by decide +kernel
theorem dX6_writes_131 : decode cX6_writes 131 = .ok (.iload_n 3, 1) := by decide +kernel
theorem dX6_writes_132 : decode cX6_writes 132 = .ok (.iadd, 1) := by decide +kernel
theorem dX6_writes_133 : decode cX6_writes 133 = .ok (.iastore, 1) := by decide +kernel
theorem dX6_writes_134 : decode cX6_writes 134 = .ok (.aload_n 0, 1) := by decide +kernel
theorem dX6_writes_135 : decode cX6_writes 135 = .ok (.getfield 7, 3) := by decide +kernel
theorem dX6_writes_138 : decode cX6_writes 138 = .ok (.bipush 10, 2) := by decide +kernel
theorem dX6_writes_140 : decode cX6_writes 140 = .ok (.dup2, 1) := by decide +kernel
theorem dX6_writes_141 : decode cX6_writes 141 = .ok (.iaload, 1) := by decide +kernel
theorem dX6_writes_142 : decode cX6_writes 142 = .ok (.iconst 1, 1) := by decide +kernel
theorem dX6_writes_143 : decode cX6_writes 143 = .ok (.iadd, 1) := by decide +kernel
theorem dX6_writes_144 : decode cX6_writes 144 = .ok (.iastore, 1) := by decide +kernel
theorem dX6_writes_145 : decode cX6_writes 145 = .ok (.aload_n 0, 1) := by decide +kernel
theorem dX6_writes_146 : decode cX6_writes 146 = .ok (.getfield 7, 3) := by decide +kernel
theorem dX6_writes_149 : decode cX6_writes 149 = .ok (.bipush 14, 2) := by decide +kernel
theorem dX6_writes_151 : decode cX6_writes 151 = .ok (.iload_n 1, 1) := by decide +kernel
theorem dX6_writes_152 : decode cX6_writes 152 = .ok (.iadd, 1) := by decide +kernel
theorem dX6_writes_153 : decode cX6_writes 153 = .ok (.dup2, 1) := by decide +kernel
theorem dX6_writes_154 : decode cX6_writes 154 = .ok (.iaload, 1) := by decide +kernel
theorem dX6_writes_155 : decode cX6_writes 155 = .ok (.iconst 1, 1) := by decide +kernel
theorem dX6_writes_156 : decode cX6_writes 156 = .ok (.iadd, 1) := by decide +kernel
theorem dX6_writes_157 : decode cX6_writes 157 = .ok (.iastore, 1) := by decide +kernel
theorem dX6_writes_158 : decode cX6_writes 158 = .ok (.aload_n 0, 1) := by decide +kernel
theorem dX6_writes_159 : decode cX6_writes 159 = .ok (.getfield 7, 3) := by decide +kernel
theorem dX6_writes_162 : decode cX6_writes 162 = .ok (.bipush 16, 2) := by decide +kernel
theorem dX6_writes_164 : decode cX6_writes 164 = .ok (.iload_n 1, 1) := by decide +kernel
theorem dX6_writes_165 : decode cX6_writes 165 = .ok (.iadd, 1) := by decide +kernel
theorem dX6_writes_166 : decode cX6_writes 166 = .ok (.iconst 0, 1) := by decide +kernel
theorem dX6_writes_167 : decode cX6_writes 167 = .ok (.iastore, 1) := by decide +kernel
theorem dX6_writes_168 : decode cX6_writes 168 = .ok (.return_, 1) := by decide +kernel
theorem dX6_goes_0 : decode cX6_goes 0 = .ok (.aload_n 0, 1) := by decide +kernel
theorem dX6_goes_1 : decode cX6_goes 1 = .ok (.iload_n 1, 1) := by decide +kernel
theorem dX6_goes_2 : decode cX6_goes 2 = .ok (.invokevirtual 49, 3) := by decide +kernel
theorem dX6_goes_5 : decode cX6_goes 5 = .ok (.tableswitch 85 0 4 #[35, 43, 51, 69, 69], 35) := by decide +kernel
theorem dX6_goes_40 : decode cX6_goes 40 = .ok (.aload_n 0, 1) := by decide +kernel
theorem dX6_goes_41 : decode cX6_goes 41 = .ok (.iload_n 1, 1) := by decide +kernel
theorem dX6_goes_42 : decode cX6_goes 42 = .ok (.invokevirtual 52, 3) := by decide +kernel
theorem dX6_goes_45 : decode cX6_goes 45 = .ok (.goto 45, 3) := by decide +kernel
theorem dX6_goes_48 : decode cX6_goes 48 = .ok (.aload_n 0, 1) := by decide +kernel
theorem dX6_goes_49 : decode cX6_goes 49 = .ok (.iload_n 1, 1) := by decide +kernel
theorem dX6_goes_50 : decode cX6_goes 50 = .ok (.invokevirtual 56, 3) := by decide +kernel
theorem dX6_goes_53 : decode cX6_goes 53 = .ok (.goto 37, 3) := by decide +kernel
theorem dX6_goes_56 : decode cX6_goes 56 = .ok (.aload_n 0, 1) := by decide +kernel
theorem dX6_goes_57 : decode cX6_goes 57 = .ok (.getfield 7, 3) := by decide +kernel
theorem dX6_goes_60 : decode cX6_goes 60 = .ok (.bipush 18, 2) := by decide +kernel
theorem dX6_goes_62 : decode cX6_goes 62 = .ok (.iload_n 1, 1) := by decide +kernel
theorem dX6_goes_63 : decode cX6_goes 63 = .ok (.iadd, 1) := by decide +kernel
theorem dX6_goes_64 : decode cX6_goes 64 = .ok (.aload_n 0, 1) := by decide +kernel
theorem dX6_goes_65 : decode cX6_goes 65 = .ok (.getfield 7, 3) := by decide +kernel
theorem dX6_goes_68 : decode cX6_goes 68 = .ok (.iconst 0, 1) := by decide +kernel
theorem dX6_goes_69 : decode cX6_goes 69 = .ok (.iaload, 1) := by decide +kernel
theorem dX6_goes_70 : decode cX6_goes 70 = .ok (.iastore, 1) := by decide +kernel
theorem dX6_goes_71 : decode cX6_goes 71 = .ok (.goto 19, 3) := by decide +kernel
theorem dX6_goes_74 : decode cX6_goes 74 = .ok (.aload_n 0, 1) := by decide +kernel
theorem dX6_goes_75 : decode cX6_goes 75 = .ok (.getfield 7, 3) := by decide +kernel
theorem dX6_goes_78 : decode cX6_goes 78 = .ok (.bipush 22, 2) := by decide +kernel
theorem dX6_goes_80 : decode cX6_goes 80 = .ok (.iload_n 1, 1) := by decide +kernel
theorem dX6_goes_81 : decode cX6_goes 81 = .ok (.iadd, 1) := by decide +kernel
theorem dX6_goes_82 : decode cX6_goes 82 = .ok (.dup2, 1) := by decide +kernel
theorem dX6_goes_83 : decode cX6_goes 83 = .ok (.iaload, 1) := by decide +kernel
theorem dX6_goes_84 : decode cX6_goes 84 = .ok (.iconst 1, 1) := by decide +kernel
theorem dX6_goes_85 : decode cX6_goes 85 = .ok (.iadd, 1) := by decide +kernel
theorem dX6_goes_86 : decode cX6_goes 86 = .ok (.iastore, 1) := by decide +kernel
theorem dX6_goes_87 : decode cX6_goes 87 = .ok (.goto 3, 3) := by decide +kernel
theorem dX6_goes_90 : decode cX6_goes 90 = .ok (.return_, 1) := by decide +kernel
theorem dX6_ticks_0 : decode cX6_ticks 0 = .ok (.aload_n 0, 1) := by decide +kernel
theorem dX6_ticks_1 : decode cX6_ticks 1 = .ok (.iconst 0, 1) := by decide +kernel
theorem dX6_ticks_2 : decode cX6_ticks 2 = .ok (.invokevirtual 59, 3) := by decide +kernel
theorem dX6_ticks_5 : decode cX6_ticks 5 = .ok (.aload_n 0, 1) := by decide +kernel
theorem dX6_ticks_6 : decode cX6_ticks 6 = .ok (.iconst 1, 1) := by decide +kernel
theorem dX6_ticks_7 : decode cX6_ticks 7 = .ok (.invokevirtual 59, 3) := by decide +kernel
theorem dX6_ticks_10 : decode cX6_ticks 10 = .ok (.aload_n 0, 1) := by decide +kernel
theorem dX6_ticks_11 : decode cX6_ticks 11 = .ok (.getfield 7, 3) := by decide +kernel
theorem dX6_ticks_14 : decode cX6_ticks 14 = .ok (.iconst 3, 1) := by decide +kernel
theorem dX6_ticks_15 : decode cX6_ticks 15 = .ok (.dup2, 1) := by decide +kernel
theorem dX6_ticks_16 : decode cX6_ticks 16 = .ok (.iaload, 1) := by decide +kernel
theorem dX6_ticks_17 : decode cX6_ticks 17 = .ok (.iconst 1, 1) := by decide +kernel
theorem dX6_ticks_18 : decode cX6_ticks 18 = .ok (.iadd, 1) := by decide +kernel
theorem dX6_ticks_19 : decode cX6_ticks 19 = .ok (.iastore, 1) := by decide +kernel
theorem dX6_ticks_20 : decode cX6_ticks 20 = .ok (.return_, 1) := by decide +kernel
theorem dX6_readPage_0 : decode cX6_readPage 0 = .ok (.aload_n 0, 1) := by decide +kernel
theorem dX6_readPage_1 : decode cX6_readPage 1 = .ok (.invokevirtual 62, 3) := by decide +kernel
theorem dX6_readPage_4 : decode cX6_readPage 4 = .ok (.istore_n 1, 1) := by decide +kernel
theorem dX6_readPage_5 : decode cX6_readPage 5 = .ok (.iload_n 1, 1) := by decide +kernel
theorem dX6_readPage_6 : decode cX6_readPage 6 = .ok (.bipush (-5), 2) := by decide +kernel
theorem dX6_readPage_8 : decode cX6_readPage 8 = .ok (.if_icmp .eq 8, 3) := by decide +kernel
theorem dX6_readPage_11 : decode cX6_readPage 11 = .ok (.bipush (-100), 2) := by decide +kernel
theorem dX6_readPage_13 : decode cX6_readPage 13 = .ok (.iload_n 1, 1) := by decide +kernel
theorem dX6_readPage_14 : decode cX6_readPage 14 = .ok (.isub, 1) := by decide +kernel
theorem dX6_readPage_15 : decode cX6_readPage 15 = .ok (.ireturn, 1) := by decide +kernel
theorem dX6_readPage_16 : decode cX6_readPage 16 = .ok (.aload_n 0, 1) := by decide +kernel
theorem dX6_readPage_17 : decode cX6_readPage 17 = .ok (.getfield 66, 3) := by decide +kernel
theorem dX6_readPage_20 : decode cX6_readPage 20 = .ok (.iconst 2, 1) := by decide +kernel
theorem dX6_readPage_21 : decode cX6_readPage 21 = .ok (.aload_n 0, 1) := by decide +kernel
theorem dX6_readPage_22 : decode cX6_readPage 22 = .ok (.getfield 69, 3) := by decide +kernel
theorem dX6_readPage_25 : decode cX6_readPage 25 = .ok (.imul, 1) := by decide +kernel
theorem dX6_readPage_26 : decode cX6_readPage 26 = .ok (.if_icmp .lt 5, 3) := by decide +kernel
theorem dX6_readPage_29 : decode cX6_readPage 29 = .ok (.iconst (-1), 1) := by decide +kernel
theorem dX6_readPage_30 : decode cX6_readPage 30 = .ok (.ireturn, 1) := by decide +kernel
theorem dX6_readPage_31 : decode cX6_readPage 31 = .ok (.aload_n 0, 1) := by decide +kernel
theorem dX6_readPage_32 : decode cX6_readPage 32 = .ok (.invokevirtual 72, 3) := by decide +kernel
theorem dX6_readPage_35 : decode cX6_readPage 35 = .ok (.bipush 46, 2) := by decide +kernel
theorem dX6_readPage_37 : decode cX6_readPage 37 = .ok (.istore_n 2, 1) := by decide +kernel
theorem dX6_readPage_38 : decode cX6_readPage 38 = .ok (.iload_n 2, 1) := by decide +kernel
theorem dX6_readPage_39 : decode cX6_readPage 39 = .ok (.sipush 246, 3) := by decide +kernel
theorem dX6_readPage_42 : decode cX6_readPage 42 = .ok (.if_icmp .ge 16, 3) := by decide +kernel
theorem dX6_readPage_45 : decode cX6_readPage 45 = .ok (.aload_n 0, 1) := by decide +kernel
theorem dX6_readPage_46 : decode cX6_readPage 46 = .ok (.getfield 7, 3) := by decide +kernel
theorem dX6_readPage_49 : decode cX6_readPage 49 = .ok (.iload_n 2, 1) := by decide +kernel
theorem dX6_readPage_50 : decode cX6_readPage 50 = .ok (.iconst 0, 1) := by decide +kernel
theorem dX6_readPage_51 : decode cX6_readPage 51 = .ok (.iastore, 1) := by decide +kernel
theorem dX6_readPage_52 : decode cX6_readPage 52 = .ok (.iinc 2 1, 3) := by decide +kernel
theorem dX6_readPage_55 : decode cX6_readPage 55 = .ok (.goto (-17), 3) := by decide +kernel
theorem dX6_readPage_58 : decode cX6_readPage 58 = .ok (.iconst 0, 1) := by decide +kernel
theorem dX6_readPage_59 : decode cX6_readPage 59 = .ok (.istore_n 2, 1) := by decide +kernel
theorem dX6_readPage_60 : decode cX6_readPage 60 = .ok (.iload_n 2, 1) := by decide +kernel
theorem dX6_readPage_61 : decode cX6_readPage 61 = .ok (.bipush 20, 2) := by decide +kernel
theorem dX6_readPage_63 : decode cX6_readPage 63 = .ok (.if_icmp .ge 41, 3) := by decide +kernel
theorem dX6_readPage_66 : decode cX6_readPage 66 = .ok (.aload_n 0, 1) := by decide +kernel
theorem dX6_readPage_67 : decode cX6_readPage 67 = .ok (.getfield 7, 3) := by decide +kernel
theorem dX6_readPage_70 : decode cX6_readPage 70 = .ok (.bipush 26, 2) := by decide +kernel
theorem dX6_readPage_72 : decode cX6_readPage 72 = .ok (.iload_n 2, 1) := by decide +kernel
theorem dX6_readPage_73 : decode cX6_readPage 73 = .ok (.iadd, 1) := by decide +kernel
theorem dX6_readPage_74 : decode cX6_readPage 74 = .ok (.iload_n 2, 1) := by decide +kernel
theorem dX6_readPage_75 : decode cX6_readPage 75 = .ok (.aload_n 0, 1) := by decide +kernel
theorem dX6_readPage_76 : decode cX6_readPage 76 = .ok (.getfield 69, 3) := by decide +kernel
theorem dX6_readPage_79 : decode cX6_readPage 79 = .ok (.if_icmp .ge 17, 3) := by decide +kernel
theorem dX6_readPage_82 : decode cX6_readPage 82 = .ok (.aload_n 0, 1) := by decide +kernel
theorem dX6_readPage_83 : decode cX6_readPage 83 = .ok (.getfield 28, 3) := by decide +kernel
theorem dX6_readPage_86 : decode cX6_readPage 86 = .ok (.iload_n 2, 1) := by decide +kernel
theorem dX6_readPage_87 : decode cX6_readPage 87 = .ok (.iaload, 1) := by decide +kernel
theorem dX6_readPage_88 : decode cX6_readPage 88 = .ok (.bipush 97, 2) := by decide +kernel
theorem dX6_readPage_90 : decode cX6_readPage 90 = .ok (.isub, 1) := by decide +kernel
theorem dX6_readPage_91 : decode cX6_readPage 91 = .ok (.iconst 1, 1) := by decide +kernel
theorem dX6_readPage_92 : decode cX6_readPage 92 = .ok (.iadd, 1) := by decide +kernel
theorem dX6_readPage_93 : decode cX6_readPage 93 = .ok (.goto 4, 3) := by decide +kernel
theorem dX6_readPage_96 : decode cX6_readPage 96 = .ok (.iconst 0, 1) := by decide +kernel
theorem dX6_readPage_97 : decode cX6_readPage 97 = .ok (.iastore, 1) := by decide +kernel
theorem dX6_readPage_98 : decode cX6_readPage 98 = .ok (.iinc 2 1, 3) := by decide +kernel
theorem dX6_readPage_101 : decode cX6_readPage 101 = .ok (.goto (-41), 3) := by decide +kernel
theorem dX6_readPage_104 : decode cX6_readPage 104 = .ok (.iconst 0, 1) := by decide +kernel
theorem dX6_readPage_105 : decode cX6_readPage 105 = .ok (.istore_n 2, 1) := by decide +kernel
theorem dX6_readPage_106 : decode cX6_readPage 106 = .ok (.iload_n 2, 1) := by decide +kernel
theorem dX6_readPage_107 : decode cX6_readPage 107 = .ok (.bipush 40, 2) := by decide +kernel
theorem dX6_readPage_109 : decode cX6_readPage 109 = .ok (.if_icmp .ge 24, 3) := by decide +kernel
theorem dX6_readPage_112 : decode cX6_readPage 112 = .ok (.aload_n 0, 1) := by decide +kernel
theorem dX6_readPage_113 : decode cX6_readPage 113 = .ok (.getfield 7, 3) := by decide +kernel
theorem dX6_readPage_116 : decode cX6_readPage 116 = .ok (.bipush 46, 2) := by decide +kernel
theorem dX6_readPage_118 : decode cX6_readPage 118 = .ok (.iload_n 2, 1) := by decide +kernel
theorem dX6_readPage_119 : decode cX6_readPage 119 = .ok (.iadd, 1) := by decide +kernel
theorem dX6_readPage_120 : decode cX6_readPage 120 = .ok (.aload_n 0, 1) := by decide +kernel
theorem dX6_readPage_121 : decode cX6_readPage 121 = .ok (.getfield 25, 3) := by decide +kernel
theorem dX6_readPage_124 : decode cX6_readPage 124 = .ok (.iload_n 2, 1) := by decide +kernel
theorem dX6_readPage_125 : decode cX6_readPage 125 = .ok (.iaload, 1) := by decide +kernel
theorem dX6_readPage_126 : decode cX6_readPage 126 = .ok (.iastore, 1) := by decide +kernel
theorem dX6_readPage_127 : decode cX6_readPage 127 = .ok (.iinc 2 1, 3) := by decide +kernel
theorem dX6_readPage_130 : decode cX6_readPage 130 = .ok (.goto (-24), 3) := by decide +kernel
theorem dX6_readPage_133 : decode cX6_readPage 133 = .ok (.iconst 0, 1) := by decide +kernel
theorem dX6_readPage_134 : decode cX6_readPage 134 = .ok (.istore_n 2, 1) := by decide +kernel
theorem dX6_readPage_135 : decode cX6_readPage 135 = .ok (.iload_n 2, 1) := by decide +kernel
theorem dX6_readPage_136 : decode cX6_readPage 136 = .ok (.iconst 2, 1) := by decide +kernel
theorem dX6_readPage_137 : decode cX6_readPage 137 = .ok (.if_icmp .ge 29, 3) := by decide +kernel
theorem dX6_readPage_140 : decode cX6_readPage 140 = .ok (.aload_n 0, 1) := by decide +kernel
theorem dX6_readPage_141 : decode cX6_readPage 141 = .ok (.getfield 7, 3) := by decide +kernel
theorem dX6_readPage_144 : decode cX6_readPage 144 = .ok (.bipush 14, 2) := by decide +kernel
theorem dX6_readPage_146 : decode cX6_readPage 146 = .ok (.iload_n 2, 1) := by decide +kernel
theorem dX6_readPage_147 : decode cX6_readPage 147 = .ok (.iadd, 1) := by decide +kernel
theorem dX6_readPage_148 : decode cX6_readPage 148 = .ok (.iconst 0, 1) := by decide +kernel
theorem dX6_readPage_149 : decode cX6_readPage 149 = .ok (.iastore, 1) := by decide +kernel
theorem dX6_readPage_150 : decode cX6_readPage 150 = .ok (.aload_n 0, 1) := by decide +kernel
theorem dX6_readPage_151 : decode cX6_readPage 151 = .ok (.getfield 7, 3) := by decide +kernel
theorem dX6_readPage_154 : decode cX6_readPage 154 = .ok (.bipush 16, 2) := by decide +kernel
theorem dX6_readPage_156 : decode cX6_readPage 156 = .ok (.iload_n 2, 1) := by decide +kernel
theorem dX6_readPage_157 : decode cX6_readPage 157 = .ok (.iadd, 1) := by decide +kernel
theorem dX6_readPage_158 : decode cX6_readPage 158 = .ok (.iconst 0, 1) := by decide +kernel
theorem dX6_readPage_159 : decode cX6_readPage 159 = .ok (.iastore, 1) := by decide +kernel
theorem dX6_readPage_160 : decode cX6_readPage 160 = .ok (.iinc 2 1, 3) := by decide +kernel
theorem dX6_readPage_163 : decode cX6_readPage 163 = .ok (.goto (-28), 3) := by decide +kernel
theorem dX6_readPage_166 : decode cX6_readPage 166 = .ok (.aload_n 0, 1) := by decide +kernel
theorem dX6_readPage_167 : decode cX6_readPage 167 = .ok (.getfield 7, 3) := by decide +kernel
theorem dX6_readPage_170 : decode cX6_readPage 170 = .ok (.iconst 4, 1) := by decide +kernel
theorem dX6_readPage_171 : decode cX6_readPage 171 = .ok (.iconst 2, 1) := by decide +kernel
theorem dX6_readPage_172 : decode cX6_readPage 172 = .ok (.aload_n 0, 1) := by decide +kernel
theorem dX6_readPage_173 : decode cX6_readPage 173 = .ok (.getfield 69, 3) := by decide +kernel
theorem dX6_readPage_176 : decode cX6_readPage 176 = .ok (.imul, 1) := by decide +kernel
theorem dX6_readPage_177 : decode cX6_readPage 177 = .ok (.iastore, 1) := by decide +kernel
theorem dX6_readPage_178 : decode cX6_readPage 178 = .ok (.aload_n 0, 1) := by decide +kernel
theorem dX6_readPage_179 : decode cX6_readPage 179 = .ok (.getfield 7, 3) := by decide +kernel
theorem dX6_readPage_182 : decode cX6_readPage 182 = .ok (.iconst 5, 1) := by decide +kernel
theorem dX6_readPage_183 : decode cX6_readPage 183 = .ok (.iconst 0, 1) := by decide +kernel
theorem dX6_readPage_184 : decode cX6_readPage 184 = .ok (.iastore, 1) := by decide +kernel
theorem dX6_readPage_185 : decode cX6_readPage 185 = .ok (.aload_n 0, 1) := by decide +kernel
theorem dX6_readPage_186 : decode cX6_readPage 186 = .ok (.getfield 7, 3) := by decide +kernel
theorem dX6_readPage_189 : decode cX6_readPage 189 = .ok (.bipush 9, 2) := by decide +kernel
theorem dX6_readPage_191 : decode cX6_readPage 191 = .ok (.dup2, 1) := by decide +kernel
theorem dX6_readPage_192 : decode cX6_readPage 192 = .ok (.iaload, 1) := by decide +kernel
theorem dX6_readPage_193 : decode cX6_readPage 193 = .ok (.iconst 1, 1) := by decide +kernel
theorem dX6_readPage_194 : decode cX6_readPage 194 = .ok (.iadd, 1) := by decide +kernel
theorem dX6_readPage_195 : decode cX6_readPage 195 = .ok (.iastore, 1) := by decide +kernel
theorem dX6_readPage_196 : decode cX6_readPage 196 = .ok (.aload_n 0, 1) := by decide +kernel
theorem dX6_readPage_197 : decode cX6_readPage 197 = .ok (.aload_n 0, 1) := by decide +kernel
theorem dX6_readPage_198 : decode cX6_readPage 198 = .ok (.getfield 7, 3) := by decide +kernel
theorem dX6_readPage_201 : decode cX6_readPage 201 = .ok (.iconst 4, 1) := by decide +kernel
theorem dX6_readPage_202 : decode cX6_readPage 202 = .ok (.iaload, 1) := by decide +kernel
theorem dX6_readPage_203 : decode cX6_readPage 203 = .ok (.invokevirtual 75, 3) := by decide +kernel
theorem dX6_readPage_206 : decode cX6_readPage 206 = .ok (.ireturn, 1) := by decide +kernel
theorem dX6_isBegun_0 : decode cX6_isBegun 0 = .ok (.aload_n 0, 1) := by decide +kernel
theorem dX6_isBegun_1 : decode cX6_isBegun 1 = .ok (.getfield 7, 3) := by decide +kernel
theorem dX6_isBegun_4 : decode cX6_isBegun 4 = .ok (.bipush 86, 2) := by decide +kernel
theorem dX6_isBegun_6 : decode cX6_isBegun 6 = .ok (.iload_n 1, 1) := by decide +kernel
theorem dX6_isBegun_7 : decode cX6_isBegun 7 = .ok (.iadd, 1) := by decide +kernel
theorem dX6_isBegun_8 : decode cX6_isBegun 8 = .ok (.iaload, 1) := by decide +kernel
theorem dX6_isBegun_9 : decode cX6_isBegun 9 = .ok (.ifCond .le 7, 3) := by decide +kernel
theorem dX6_isBegun_12 : decode cX6_isBegun 12 = .ok (.iconst 1, 1) := by decide +kernel
theorem dX6_isBegun_13 : decode cX6_isBegun 13 = .ok (.goto 4, 3) := by decide +kernel
theorem dX6_isBegun_16 : decode cX6_isBegun 16 = .ok (.iconst 0, 1) := by decide +kernel
theorem dX6_isBegun_17 : decode cX6_isBegun 17 = .ok (.istore_n 2, 1) := by decide +kernel
theorem dX6_isBegun_18 : decode cX6_isBegun 18 = .ok (.iconst 0, 1) := by decide +kernel
theorem dX6_isBegun_19 : decode cX6_isBegun 19 = .ok (.istore_n 3, 1) := by decide +kernel
theorem dX6_isBegun_20 : decode cX6_isBegun 20 = .ok (.iload_n 3, 1) := by decide +kernel
theorem dX6_isBegun_21 : decode cX6_isBegun 21 = .ok (.iconst 2, 1) := by decide +kernel
theorem dX6_isBegun_22 : decode cX6_isBegun 22 = .ok (.if_icmp .ge 40, 3) := by decide +kernel
theorem dX6_isBegun_25 : decode cX6_isBegun 25 = .ok (.iload_n 2, 1) := by decide +kernel
theorem dX6_isBegun_26 : decode cX6_isBegun 26 = .ok (.ifCond .ne 24, 3) := by decide +kernel
theorem dX6_isBegun_29 : decode cX6_isBegun 29 = .ok (.aload_n 0, 1) := by decide +kernel
theorem dX6_isBegun_30 : decode cX6_isBegun 30 = .ok (.iload_n 3, 1) := by decide +kernel
theorem dX6_isBegun_31 : decode cX6_isBegun 31 = .ok (.invokevirtual 43, 3) := by decide +kernel
theorem dX6_isBegun_34 : decode cX6_isBegun 34 = .ok (.iload_n 1, 1) := by decide +kernel
theorem dX6_isBegun_35 : decode cX6_isBegun 35 = .ok (.if_icmp .ne 19, 3) := by decide +kernel
theorem dX6_isBegun_38 : decode cX6_isBegun 38 = .ok (.aload_n 0, 1) := by decide +kernel
theorem dX6_isBegun_39 : decode cX6_isBegun 39 = .ok (.getfield 7, 3) := by decide +kernel
theorem dX6_isBegun_42 : decode cX6_isBegun 42 = .ok (.bipush 16, 2) := by decide +kernel
theorem dX6_isBegun_44 : decode cX6_isBegun 44 = .ok (.iload_n 3, 1) := by decide +kernel
theorem dX6_isBegun_45 : decode cX6_isBegun 45 = .ok (.iadd, 1) := by decide +kernel
theorem dX6_isBegun_46 : decode cX6_isBegun 46 = .ok (.iaload, 1) := by decide +kernel
theorem dX6_isBegun_47 : decode cX6_isBegun 47 = .ok (.ifCond .le 7, 3) := by decide +kernel
theorem dX6_isBegun_50 : decode cX6_isBegun 50 = .ok (.iconst 1, 1) := by decide +kernel
theorem dX6_isBegun_51 : decode cX6_isBegun 51 = .ok (.goto 4, 3) := by decide +kernel
theorem dX6_isBegun_54 : decode cX6_isBegun 54 = .ok (.iconst 0, 1) := by decide +kernel
theorem dX6_isBegun_55 : decode cX6_isBegun 55 = .ok (.istore_n 2, 1) := by decide +kernel
theorem dX6_isBegun_56 : decode cX6_isBegun 56 = .ok (.iinc 3 1, 3) := by decide +kernel
theorem dX6_isBegun_59 : decode cX6_isBegun 59 = .ok (.goto (-39), 3) := by decide +kernel
theorem dX6_isBegun_62 : decode cX6_isBegun 62 = .ok (.iload_n 2, 1) := by decide +kernel
theorem dX6_isBegun_63 : decode cX6_isBegun 63 = .ok (.ireturn, 1) := by decide +kernel
theorem dX6_misread_0 : decode cX6_misread 0 = .ok (.aload_n 0, 1) := by decide +kernel
theorem dX6_misread_1 : decode cX6_misread 1 = .ok (.iload_n 1, 1) := by decide +kernel
theorem dX6_misread_2 : decode cX6_misread 2 = .ok (.invokevirtual 78, 3) := by decide +kernel
theorem dX6_misread_5 : decode cX6_misread 5 = .ok (.ifCond .ne 5, 3) := by decide +kernel
theorem dX6_misread_8 : decode cX6_misread 8 = .ok (.iconst (-1), 1) := by decide +kernel
theorem dX6_misread_9 : decode cX6_misread 9 = .ok (.ireturn, 1) := by decide +kernel
theorem dX6_misread_10 : decode cX6_misread 10 = .ok (.iload_n 2, 1) := by decide +kernel
theorem dX6_misread_11 : decode cX6_misread 11 = .ok (.i2l, 1) := by decide +kernel
theorem dX6_misread_12 : decode cX6_misread 12 = .ok (.lconst 0, 1) := by decide +kernel
theorem dX6_misread_13 : decode cX6_misread 13 = .ok (.ldc2_w 82, 3) := by decide +kernel
theorem dX6_misread_16 : decode cX6_misread 16 = .ok (.invokestatic 35, 3) := by decide +kernel
theorem dX6_misread_19 : decode cX6_misread 19 = .ok (.ifCond .ne 6, 3) := by decide +kernel
theorem dX6_misread_22 : decode cX6_misread 22 = .ok (.bipush (-2), 2) := by decide +kernel
theorem dX6_misread_24 : decode cX6_misread 24 = .ok (.ireturn, 1) := by decide +kernel
theorem dX6_misread_25 : decode cX6_misread 25 = .ok (.aload_n 0, 1) := by decide +kernel
theorem dX6_misread_26 : decode cX6_misread 26 = .ok (.iload_n 1, 1) := by decide +kernel
theorem dX6_misread_27 : decode cX6_misread 27 = .ok (.invokevirtual 84, 3) := by decide +kernel
theorem dX6_misread_30 : decode cX6_misread 30 = .ok (.ifCond .eq 6, 3) := by decide +kernel
theorem dX6_misread_33 : decode cX6_misread 33 = .ok (.bipush (-4), 2) := by decide +kernel
theorem dX6_misread_35 : decode cX6_misread 35 = .ok (.ireturn, 1) := by decide +kernel
theorem dX6_misread_36 : decode cX6_misread 36 = .ok (.aload_n 0, 1) := by decide +kernel
theorem dX6_misread_37 : decode cX6_misread 37 = .ok (.getfield 7, 3) := by decide +kernel
theorem dX6_misread_40 : decode cX6_misread 40 = .ok (.bipush 46, 2) := by decide +kernel
theorem dX6_misread_42 : decode cX6_misread 42 = .ok (.iload_n 1, 1) := by decide +kernel
theorem dX6_misread_43 : decode cX6_misread 43 = .ok (.iadd, 1) := by decide +kernel
theorem dX6_misread_44 : decode cX6_misread 44 = .ok (.iaload, 1) := by decide +kernel
theorem dX6_misread_45 : decode cX6_misread 45 = .ok (.iload_n 2, 1) := by decide +kernel
theorem dX6_misread_46 : decode cX6_misread 46 = .ok (.if_icmp .ne 6, 3) := by decide +kernel
theorem dX6_misread_49 : decode cX6_misread 49 = .ok (.bipush (-5), 2) := by decide +kernel
theorem dX6_misread_51 : decode cX6_misread 51 = .ok (.ireturn, 1) := by decide +kernel
theorem dX6_misread_52 : decode cX6_misread 52 = .ok (.aload_n 0, 1) := by decide +kernel
theorem dX6_misread_53 : decode cX6_misread 53 = .ok (.invokevirtual 72, 3) := by decide +kernel
theorem dX6_misread_56 : decode cX6_misread 56 = .ok (.aload_n 0, 1) := by decide +kernel
theorem dX6_misread_57 : decode cX6_misread 57 = .ok (.iload_n 1, 1) := by decide +kernel
theorem dX6_misread_58 : decode cX6_misread 58 = .ok (.invokevirtual 46, 3) := by decide +kernel
theorem dX6_misread_61 : decode cX6_misread 61 = .ok (.istore_n 3, 1) := by decide +kernel
theorem dX6_misread_62 : decode cX6_misread 62 = .ok (.aload_n 0, 1) := by decide +kernel
theorem dX6_misread_63 : decode cX6_misread 63 = .ok (.getfield 7, 3) := by decide +kernel
theorem dX6_misread_66 : decode cX6_misread 66 = .ok (.bipush 46, 2) := by decide +kernel
theorem dX6_misread_68 : decode cX6_misread 68 = .ok (.iload_n 1, 1) := by decide +kernel
theorem dX6_misread_69 : decode cX6_misread 69 = .ok (.iadd, 1) := by decide +kernel
theorem dX6_misread_70 : decode cX6_misread 70 = .ok (.iload_n 2, 1) := by decide +kernel
theorem dX6_misread_71 : decode cX6_misread 71 = .ok (.iastore, 1) := by decide +kernel
theorem dX6_misread_72 : decode cX6_misread 72 = .ok (.aload_n 0, 1) := by decide +kernel
theorem dX6_misread_73 : decode cX6_misread 73 = .ok (.iload_n 3, 1) := by decide +kernel
theorem dX6_misread_74 : decode cX6_misread 74 = .ok (.invokevirtual 75, 3) := by decide +kernel
theorem dX6_misread_77 : decode cX6_misread 77 = .ok (.ireturn, 1) := by decide +kernel
theorem dX6_correct_0 : decode cX6_correct 0 = .ok (.aload_n 0, 1) := by decide +kernel
theorem dX6_correct_1 : decode cX6_correct 1 = .ok (.iload_n 1, 1) := by decide +kernel
theorem dX6_correct_2 : decode cX6_correct 2 = .ok (.invokevirtual 78, 3) := by decide +kernel
theorem dX6_correct_5 : decode cX6_correct 5 = .ok (.ifCond .ne 5, 3) := by decide +kernel
theorem dX6_correct_8 : decode cX6_correct 8 = .ok (.iconst (-1), 1) := by decide +kernel
theorem dX6_correct_9 : decode cX6_correct 9 = .ok (.ireturn, 1) := by decide +kernel
theorem dX6_correct_10 : decode cX6_correct 10 = .ok (.aload_n 0, 1) := by decide +kernel
theorem dX6_correct_11 : decode cX6_correct 11 = .ok (.iload_n 1, 1) := by decide +kernel
theorem dX6_correct_12 : decode cX6_correct 12 = .ok (.invokevirtual 39, 3) := by decide +kernel
theorem dX6_correct_15 : decode cX6_correct 15 = .ok (.istore_n 2, 1) := by decide +kernel
theorem dX6_correct_16 : decode cX6_correct 16 = .ok (.aload_n 0, 1) := by decide +kernel
theorem dX6_correct_17 : decode cX6_correct 17 = .ok (.getfield 7, 3) := by decide +kernel
theorem dX6_correct_20 : decode cX6_correct 20 = .ok (.bipush 86, 2) := by decide +kernel
theorem dX6_correct_22 : decode cX6_correct 22 = .ok (.iload_n 1, 1) := by decide +kernel
theorem dX6_correct_23 : decode cX6_correct 23 = .ok (.iadd, 1) := by decide +kernel
theorem dX6_correct_24 : decode cX6_correct 24 = .ok (.iaload, 1) := by decide +kernel
theorem dX6_correct_25 : decode cX6_correct 25 = .ok (.ifCond .eq 21, 3) := by decide +kernel
theorem dX6_correct_28 : decode cX6_correct 28 = .ok (.aload_n 0, 1) := by decide +kernel
theorem dX6_correct_29 : decode cX6_correct 29 = .ok (.invokevirtual 87, 3) := by decide +kernel
theorem dX6_correct_32 : decode cX6_correct 32 = .ok (.ifCond .eq 14, 3) := by decide +kernel
theorem dX6_correct_35 : decode cX6_correct 35 = .ok (.aload_n 0, 1) := by decide +kernel
theorem dX6_correct_36 : decode cX6_correct 36 = .ok (.getfield 7, 3) := by decide +kernel
theorem dX6_correct_39 : decode cX6_correct 39 = .ok (.bipush 6, 2) := by decide +kernel
theorem dX6_correct_41 : decode cX6_correct 41 = .ok (.iaload, 1) := by decide +kernel
theorem dX6_correct_42 : decode cX6_correct 42 = .ok (.iload_n 2, 1) := by decide +kernel
theorem dX6_correct_43 : decode cX6_correct 43 = .ok (.if_icmp .ge 6, 3) := by decide +kernel
theorem dX6_correct_46 : decode cX6_correct 46 = .ok (.bipush (-4), 2) := by decide +kernel
theorem dX6_correct_48 : decode cX6_correct 48 = .ok (.ireturn, 1) := by decide +kernel
theorem dX6_correct_49 : decode cX6_correct 49 = .ok (.aload_n 0, 1) := by decide +kernel
theorem dX6_correct_50 : decode cX6_correct 50 = .ok (.getfield 7, 3) := by decide +kernel
theorem dX6_correct_53 : decode cX6_correct 53 = .ok (.bipush 86, 2) := by decide +kernel
theorem dX6_correct_55 : decode cX6_correct 55 = .ok (.iload_n 1, 1) := by decide +kernel
theorem dX6_correct_56 : decode cX6_correct 56 = .ok (.iadd, 1) := by decide +kernel
theorem dX6_correct_57 : decode cX6_correct 57 = .ok (.iaload, 1) := by decide +kernel
theorem dX6_correct_58 : decode cX6_correct 58 = .ok (.iload_n 2, 1) := by decide +kernel
theorem dX6_correct_59 : decode cX6_correct 59 = .ok (.if_icmp .ne 18, 3) := by decide +kernel
theorem dX6_correct_62 : decode cX6_correct 62 = .ok (.aload_n 0, 1) := by decide +kernel
theorem dX6_correct_63 : decode cX6_correct 63 = .ok (.getfield 7, 3) := by decide +kernel
theorem dX6_correct_66 : decode cX6_correct 66 = .ok (.bipush 126, 2) := by decide +kernel
theorem dX6_correct_68 : decode cX6_correct 68 = .ok (.iload_n 1, 1) := by decide +kernel
theorem dX6_correct_69 : decode cX6_correct 69 = .ok (.iadd, 1) := by decide +kernel
theorem dX6_correct_70 : decode cX6_correct 70 = .ok (.iaload, 1) := by decide +kernel
theorem dX6_correct_71 : decode cX6_correct 71 = .ok (.ifCond .ne 6, 3) := by decide +kernel
theorem dX6_correct_74 : decode cX6_correct 74 = .ok (.bipush (-5), 2) := by decide +kernel
theorem dX6_correct_76 : decode cX6_correct 76 = .ok (.ireturn, 1) := by decide +kernel
theorem dX6_correct_77 : decode cX6_correct 77 = .ok (.aload_n 0, 1) := by decide +kernel
theorem dX6_correct_78 : decode cX6_correct 78 = .ok (.invokevirtual 72, 3) := by decide +kernel
theorem dX6_correct_81 : decode cX6_correct 81 = .ok (.aload_n 0, 1) := by decide +kernel
theorem dX6_correct_82 : decode cX6_correct 82 = .ok (.getfield 7, 3) := by decide +kernel
theorem dX6_correct_85 : decode cX6_correct 85 = .ok (.bipush 86, 2) := by decide +kernel
theorem dX6_correct_87 : decode cX6_correct 87 = .ok (.iload_n 1, 1) := by decide +kernel
theorem dX6_correct_88 : decode cX6_correct 88 = .ok (.iadd, 1) := by decide +kernel
theorem dX6_correct_89 : decode cX6_correct 89 = .ok (.iload_n 2, 1) := by decide +kernel
theorem dX6_correct_90 : decode cX6_correct 90 = .ok (.iastore, 1) := by decide +kernel
theorem dX6_correct_91 : decode cX6_correct 91 = .ok (.aload_n 0, 1) := by decide +kernel
theorem dX6_correct_92 : decode cX6_correct 92 = .ok (.getfield 7, 3) := by decide +kernel
theorem dX6_correct_95 : decode cX6_correct 95 = .ok (.bipush 126, 2) := by decide +kernel
theorem dX6_correct_97 : decode cX6_correct 97 = .ok (.iload_n 1, 1) := by decide +kernel
theorem dX6_correct_98 : decode cX6_correct 98 = .ok (.iadd, 1) := by decide +kernel
theorem dX6_correct_99 : decode cX6_correct 99 = .ok (.iconst 0, 1) := by decide +kernel
theorem dX6_correct_100 : decode cX6_correct 100 = .ok (.iastore, 1) := by decide +kernel
theorem dX6_correct_101 : decode cX6_correct 101 = .ok (.aload_n 0, 1) := by decide +kernel
theorem dX6_correct_102 : decode cX6_correct 102 = .ok (.getfield 7, 3) := by decide +kernel
theorem dX6_correct_105 : decode cX6_correct 105 = .ok (.sipush 166, 3) := by decide +kernel
theorem dX6_correct_108 : decode cX6_correct 108 = .ok (.iload_n 1, 1) := by decide +kernel
theorem dX6_correct_109 : decode cX6_correct 109 = .ok (.iadd, 1) := by decide +kernel
theorem dX6_correct_110 : decode cX6_correct 110 = .ok (.iconst 1, 1) := by decide +kernel
theorem dX6_correct_111 : decode cX6_correct 111 = .ok (.iastore, 1) := by decide +kernel
theorem dX6_correct_112 : decode cX6_correct 112 = .ok (.aload_n 0, 1) := by decide +kernel
theorem dX6_correct_113 : decode cX6_correct 113 = .ok (.getfield 7, 3) := by decide +kernel
theorem dX6_correct_116 : decode cX6_correct 116 = .ok (.bipush 6, 2) := by decide +kernel
theorem dX6_correct_118 : decode cX6_correct 118 = .ok (.dup2, 1) := by decide +kernel
theorem dX6_correct_119 : decode cX6_correct 119 = .ok (.iaload, 1) := by decide +kernel
theorem dX6_correct_120 : decode cX6_correct 120 = .ok (.iload_n 2, 1) := by decide +kernel
theorem dX6_correct_121 : decode cX6_correct 121 = .ok (.isub, 1) := by decide +kernel
theorem dX6_correct_122 : decode cX6_correct 122 = .ok (.iastore, 1) := by decide +kernel
theorem dX6_correct_123 : decode cX6_correct 123 = .ok (.aload_n 0, 1) := by decide +kernel
theorem dX6_correct_124 : decode cX6_correct 124 = .ok (.getfield 7, 3) := by decide +kernel
theorem dX6_correct_127 : decode cX6_correct 127 = .ok (.bipush 8, 2) := by decide +kernel
theorem dX6_correct_129 : decode cX6_correct 129 = .ok (.dup2, 1) := by decide +kernel
theorem dX6_correct_130 : decode cX6_correct 130 = .ok (.iaload, 1) := by decide +kernel
theorem dX6_correct_131 : decode cX6_correct 131 = .ok (.iload_n 2, 1) := by decide +kernel
theorem dX6_correct_132 : decode cX6_correct 132 = .ok (.iadd, 1) := by decide +kernel
theorem dX6_correct_133 : decode cX6_correct 133 = .ok (.iastore, 1) := by decide +kernel
theorem dX6_correct_134 : decode cX6_correct 134 = .ok (.aload_n 0, 1) := by decide +kernel
theorem dX6_correct_135 : decode cX6_correct 135 = .ok (.getfield 7, 3) := by decide +kernel
theorem dX6_correct_138 : decode cX6_correct 138 = .ok (.iconst 5, 1) := by decide +kernel
theorem dX6_correct_139 : decode cX6_correct 139 = .ok (.dup2, 1) := by decide +kernel
theorem dX6_correct_140 : decode cX6_correct 140 = .ok (.iaload, 1) := by decide +kernel
theorem dX6_correct_141 : decode cX6_correct 141 = .ok (.iconst 1, 1) := by decide +kernel
theorem dX6_correct_142 : decode cX6_correct 142 = .ok (.iadd, 1) := by decide +kernel
theorem dX6_correct_143 : decode cX6_correct 143 = .ok (.iastore, 1) := by decide +kernel
theorem dX6_correct_144 : decode cX6_correct 144 = .ok (.aload_n 0, 1) := by decide +kernel
theorem dX6_correct_145 : decode cX6_correct 145 = .ok (.aload_n 0, 1) := by decide +kernel
theorem dX6_correct_146 : decode cX6_correct 146 = .ok (.invokevirtual 87, 3) := by decide +kernel
theorem dX6_correct_149 : decode cX6_correct 149 = .ok (.invokevirtual 75, 3) := by decide +kernel
theorem dX6_correct_152 : decode cX6_correct 152 = .ok (.ireturn, 1) := by decide +kernel
theorem dX6_isScribe_0 : decode cX6_isScribe 0 = .ok (.iload_n 0, 1) := by decide +kernel
theorem dX6_isScribe_1 : decode cX6_isScribe 1 = .ok (.ifCond .eq 8, 3) := by decide +kernel
theorem dX6_isScribe_4 : decode cX6_isScribe 4 = .ok (.iload_n 0, 1) := by decide +kernel
theorem dX6_isScribe_5 : decode cX6_isScribe 5 = .ok (.iconst 1, 1) := by decide +kernel
theorem dX6_isScribe_6 : decode cX6_isScribe 6 = .ok (.if_icmp .ne 7, 3) := by decide +kernel
theorem dX6_isScribe_9 : decode cX6_isScribe 9 = .ok (.iconst 1, 1) := by decide +kernel
theorem dX6_isScribe_10 : decode cX6_isScribe 10 = .ok (.goto 4, 3) := by decide +kernel
theorem dX6_isScribe_13 : decode cX6_isScribe 13 = .ok (.iconst 0, 1) := by decide +kernel
theorem dX6_isScribe_14 : decode cX6_isScribe 14 = .ok (.ireturn, 1) := by decide +kernel
theorem dX6_setPace_0 : decode cX6_setPace 0 = .ok (.iload_n 1, 1) := by decide +kernel
theorem dX6_setPace_1 : decode cX6_setPace 1 = .ok (.invokestatic 90, 3) := by decide +kernel
theorem dX6_setPace_4 : decode cX6_setPace 4 = .ok (.ifCond .ne 5, 3) := by decide +kernel
theorem dX6_setPace_7 : decode cX6_setPace 7 = .ok (.iconst (-1), 1) := by decide +kernel
theorem dX6_setPace_8 : decode cX6_setPace 8 = .ok (.ireturn, 1) := by decide +kernel
theorem dX6_setPace_9 : decode cX6_setPace 9 = .ok (.iload_n 2, 1) := by decide +kernel
theorem dX6_setPace_10 : decode cX6_setPace 10 = .ok (.i2l, 1) := by decide +kernel
theorem dX6_setPace_11 : decode cX6_setPace 11 = .ok (.lconst 1, 1) := by decide +kernel
theorem dX6_setPace_12 : decode cX6_setPace 12 = .ok (.ldc2_w 93, 3) := by decide +kernel
theorem dX6_setPace_15 : decode cX6_setPace 15 = .ok (.invokestatic 35, 3) := by decide +kernel
theorem dX6_setPace_18 : decode cX6_setPace 18 = .ok (.ifCond .ne 6, 3) := by decide +kernel
theorem dX6_setPace_21 : decode cX6_setPace 21 = .ok (.bipush (-2), 2) := by decide +kernel
theorem dX6_setPace_23 : decode cX6_setPace 23 = .ok (.ireturn, 1) := by decide +kernel
theorem dX6_setPace_24 : decode cX6_setPace 24 = .ok (.aload_n 0, 1) := by decide +kernel
theorem dX6_setPace_25 : decode cX6_setPace 25 = .ok (.getfield 7, 3) := by decide +kernel
theorem dX6_setPace_28 : decode cX6_setPace 28 = .ok (.bipush 12, 2) := by decide +kernel
theorem dX6_setPace_30 : decode cX6_setPace 30 = .ok (.iload_n 1, 1) := by decide +kernel
theorem dX6_setPace_31 : decode cX6_setPace 31 = .ok (.iadd, 1) := by decide +kernel
theorem dX6_setPace_32 : decode cX6_setPace 32 = .ok (.iaload, 1) := by decide +kernel
theorem dX6_setPace_33 : decode cX6_setPace 33 = .ok (.istore_n 3, 1) := by decide +kernel
theorem dX6_setPace_34 : decode cX6_setPace 34 = .ok (.iload_n 3, 1) := by decide +kernel
theorem dX6_setPace_35 : decode cX6_setPace 35 = .ok (.iload_n 2, 1) := by decide +kernel
theorem dX6_setPace_36 : decode cX6_setPace 36 = .ok (.if_icmp .ne 6, 3) := by decide +kernel
theorem dX6_setPace_39 : decode cX6_setPace 39 = .ok (.bipush (-5), 2) := by decide +kernel
theorem dX6_setPace_41 : decode cX6_setPace 41 = .ok (.ireturn, 1) := by decide +kernel
theorem dX6_setPace_42 : decode cX6_setPace 42 = .ok (.aload_n 0, 1) := by decide +kernel
theorem dX6_setPace_43 : decode cX6_setPace 43 = .ok (.invokevirtual 72, 3) := by decide +kernel
theorem dX6_setPace_46 : decode cX6_setPace 46 = .ok (.aload_n 0, 1) := by decide +kernel
theorem dX6_setPace_47 : decode cX6_setPace 47 = .ok (.getfield 7, 3) := by decide +kernel
theorem dX6_setPace_50 : decode cX6_setPace 50 = .ok (.bipush 12, 2) := by decide +kernel
theorem dX6_setPace_52 : decode cX6_setPace 52 = .ok (.iload_n 1, 1) := by decide +kernel
theorem dX6_setPace_53 : decode cX6_setPace 53 = .ok (.iadd, 1) := by decide +kernel
theorem dX6_setPace_54 : decode cX6_setPace 54 = .ok (.iload_n 2, 1) := by decide +kernel
theorem dX6_setPace_55 : decode cX6_setPace 55 = .ok (.iastore, 1) := by decide +kernel
theorem dX6_setPace_56 : decode cX6_setPace 56 = .ok (.aload_n 0, 1) := by decide +kernel
theorem dX6_setPace_57 : decode cX6_setPace 57 = .ok (.iload_n 3, 1) := by decide +kernel
theorem dX6_setPace_58 : decode cX6_setPace 58 = .ok (.invokevirtual 75, 3) := by decide +kernel
theorem dX6_setPace_61 : decode cX6_setPace 61 = .ok (.ireturn, 1) := by decide +kernel
theorem dX6_pour_0 : decode cX6_pour 0 = .ok (.iload_n 1, 1) := by decide +kernel
theorem dX6_pour_1 : decode cX6_pour 1 = .ok (.i2l, 1) := by decide +kernel
theorem dX6_pour_2 : decode cX6_pour 2 = .ok (.lconst 1, 1) := by decide +kernel
theorem dX6_pour_3 : decode cX6_pour 3 = .ok (.ldc2_w 95, 3) := by decide +kernel
theorem dX6_pour_6 : decode cX6_pour 6 = .ok (.invokestatic 35, 3) := by decide +kernel
theorem dX6_pour_9 : decode cX6_pour 9 = .ok (.ifCond .ne 6, 3) := by decide +kernel
theorem dX6_pour_12 : decode cX6_pour 12 = .ok (.bipush (-2), 2) := by decide +kernel
theorem dX6_pour_14 : decode cX6_pour 14 = .ok (.ireturn, 1) := by decide +kernel
theorem dX6_pour_15 : decode cX6_pour 15 = .ok (.aload_n 0, 1) := by decide +kernel
theorem dX6_pour_16 : decode cX6_pour 16 = .ok (.getfield 7, 3) := by decide +kernel
theorem dX6_pour_19 : decode cX6_pour 19 = .ok (.bipush 11, 2) := by decide +kernel
theorem dX6_pour_21 : decode cX6_pour 21 = .ok (.iaload, 1) := by decide +kernel
theorem dX6_pour_22 : decode cX6_pour 22 = .ok (.iload_n 1, 1) := by decide +kernel
theorem dX6_pour_23 : decode cX6_pour 23 = .ok (.iadd, 1) := by decide +kernel
theorem dX6_pour_24 : decode cX6_pour 24 = .ok (.sipush 9999, 3) := by decide +kernel
theorem dX6_pour_27 : decode cX6_pour 27 = .ok (.if_icmp .le 6, 3) := by decide +kernel
theorem dX6_pour_30 : decode cX6_pour 30 = .ok (.bipush (-3), 2) := by decide +kernel
theorem dX6_pour_32 : decode cX6_pour 32 = .ok (.ireturn, 1) := by decide +kernel
theorem dX6_pour_33 : decode cX6_pour 33 = .ok (.aload_n 0, 1) := by decide +kernel
theorem dX6_pour_34 : decode cX6_pour 34 = .ok (.invokevirtual 72, 3) := by decide +kernel
theorem dX6_pour_37 : decode cX6_pour 37 = .ok (.aload_n 0, 1) := by decide +kernel
theorem dX6_pour_38 : decode cX6_pour 38 = .ok (.getfield 7, 3) := by decide +kernel
theorem dX6_pour_41 : decode cX6_pour 41 = .ok (.bipush 11, 2) := by decide +kernel
theorem dX6_pour_43 : decode cX6_pour 43 = .ok (.dup2, 1) := by decide +kernel
theorem dX6_pour_44 : decode cX6_pour 44 = .ok (.iaload, 1) := by decide +kernel
theorem dX6_pour_45 : decode cX6_pour 45 = .ok (.iload_n 1, 1) := by decide +kernel
theorem dX6_pour_46 : decode cX6_pour 46 = .ok (.iadd, 1) := by decide +kernel
theorem dX6_pour_47 : decode cX6_pour 47 = .ok (.iastore, 1) := by decide +kernel
theorem dX6_pour_48 : decode cX6_pour 48 = .ok (.aload_n 0, 1) := by decide +kernel
theorem dX6_pour_49 : decode cX6_pour 49 = .ok (.getfield 7, 3) := by decide +kernel
theorem dX6_pour_52 : decode cX6_pour 52 = .ok (.bipush 6, 2) := by decide +kernel
theorem dX6_pour_54 : decode cX6_pour 54 = .ok (.dup2, 1) := by decide +kernel
theorem dX6_pour_55 : decode cX6_pour 55 = .ok (.iaload, 1) := by decide +kernel
theorem dX6_pour_56 : decode cX6_pour 56 = .ok (.bipush 8, 2) := by decide +kernel
theorem dX6_pour_58 : decode cX6_pour 58 = .ok (.iload_n 1, 1) := by decide +kernel
theorem dX6_pour_59 : decode cX6_pour 59 = .ok (.imul, 1) := by decide +kernel
theorem dX6_pour_60 : decode cX6_pour 60 = .ok (.iadd, 1) := by decide +kernel
theorem dX6_pour_61 : decode cX6_pour 61 = .ok (.iastore, 1) := by decide +kernel
theorem dX6_pour_62 : decode cX6_pour 62 = .ok (.aload_n 0, 1) := by decide +kernel
theorem dX6_pour_63 : decode cX6_pour 63 = .ok (.aload_n 0, 1) := by decide +kernel
theorem dX6_pour_64 : decode cX6_pour 64 = .ok (.getfield 7, 3) := by decide +kernel
theorem dX6_pour_67 : decode cX6_pour 67 = .ok (.bipush 11, 2) := by decide +kernel
theorem dX6_pour_69 : decode cX6_pour 69 = .ok (.iaload, 1) := by decide +kernel
theorem dX6_pour_70 : decode cX6_pour 70 = .ok (.invokevirtual 75, 3) := by decide +kernel
theorem dX6_pour_73 : decode cX6_pour 73 = .ok (.ireturn, 1) := by decide +kernel
theorem dX6_set_0 : decode cX6_set 0 = .ok (.iload_n 1, 1) := by decide +kernel
theorem dX6_set_1 : decode cX6_set 1 = .ok (.i2l, 1) := by decide +kernel
theorem dX6_set_2 : decode cX6_set 2 = .ok (.lconst 0, 1) := by decide +kernel
theorem dX6_set_3 : decode cX6_set 3 = .ok (.ldc2_w 97, 3) := by decide +kernel
theorem dX6_set_6 : decode cX6_set 6 = .ok (.invokestatic 35, 3) := by decide +kernel
theorem dX6_set_9 : decode cX6_set 9 = .ok (.ifCond .ne 5, 3) := by decide +kernel
theorem dX6_set_12 : decode cX6_set 12 = .ok (.iconst (-1), 1) := by decide +kernel
theorem dX6_set_13 : decode cX6_set 13 = .ok (.ireturn, 1) := by decide +kernel
theorem dX6_set_14 : decode cX6_set 14 = .ok (.iload_n 2, 1) := by decide +kernel
theorem dX6_set_15 : decode cX6_set 15 = .ok (.i2l, 1) := by decide +kernel
theorem dX6_set_16 : decode cX6_set 16 = .ok (.iload_n 1, 1) := by decide +kernel
theorem dX6_set_17 : decode cX6_set 17 = .ok (.ifCond .ne 7, 3) := by decide +kernel
theorem dX6_set_20 : decode cX6_set 20 = .ok (.lconst 1, 1) := by decide +kernel
theorem dX6_set_21 : decode cX6_set 21 = .ok (.goto 4, 3) := by decide +kernel
theorem dX6_set_24 : decode cX6_set 24 = .ok (.lconst 0, 1) := by decide +kernel
theorem dX6_set_25 : decode cX6_set 25 = .ok (.iload_n 1, 1) := by decide +kernel
theorem dX6_set_26 : decode cX6_set 26 = .ok (.ifCond .ne 9, 3) := by decide +kernel
theorem dX6_set_29 : decode cX6_set 29 = .ok (.ldc2_w 93, 3) := by decide +kernel
theorem dX6_set_32 : decode cX6_set 32 = .ok (.goto 17, 3) := by decide +kernel
theorem dX6_set_35 : decode cX6_set 35 = .ok (.iload_n 1, 1) := by decide +kernel
theorem dX6_set_36 : decode cX6_set 36 = .ok (.iconst 1, 1) := by decide +kernel
theorem dX6_set_37 : decode cX6_set 37 = .ok (.if_icmp .ne 9, 3) := by decide +kernel
theorem dX6_set_40 : decode cX6_set 40 = .ok (.ldc2_w 99, 3) := by decide +kernel
theorem dX6_set_43 : decode cX6_set 43 = .ok (.goto 6, 3) := by decide +kernel
theorem dX6_set_46 : decode cX6_set 46 = .ok (.ldc2_w 101, 3) := by decide +kernel
theorem dX6_set_49 : decode cX6_set 49 = .ok (.invokestatic 35, 3) := by decide +kernel
theorem dX6_set_52 : decode cX6_set 52 = .ok (.ifCond .ne 6, 3) := by decide +kernel
theorem dX6_set_55 : decode cX6_set 55 = .ok (.bipush (-2), 2) := by decide +kernel
theorem dX6_set_57 : decode cX6_set 57 = .ok (.ireturn, 1) := by decide +kernel
theorem dX6_set_58 : decode cX6_set 58 = .ok (.aload_n 0, 1) := by decide +kernel
theorem dX6_set_59 : decode cX6_set 59 = .ok (.getfield 7, 3) := by decide +kernel
theorem dX6_set_62 : decode cX6_set 62 = .ok (.iload_n 1, 1) := by decide +kernel
theorem dX6_set_63 : decode cX6_set 63 = .ok (.iaload, 1) := by decide +kernel
theorem dX6_set_64 : decode cX6_set 64 = .ok (.istore_n 3, 1) := by decide +kernel
theorem dX6_set_65 : decode cX6_set 65 = .ok (.iload_n 3, 1) := by decide +kernel
theorem dX6_set_66 : decode cX6_set 66 = .ok (.iload_n 2, 1) := by decide +kernel
theorem dX6_set_67 : decode cX6_set 67 = .ok (.if_icmp .ne 6, 3) := by decide +kernel
theorem dX6_set_70 : decode cX6_set 70 = .ok (.bipush (-5), 2) := by decide +kernel
theorem dX6_set_72 : decode cX6_set 72 = .ok (.ireturn, 1) := by decide +kernel
theorem dX6_set_73 : decode cX6_set 73 = .ok (.aload_n 0, 1) := by decide +kernel
theorem dX6_set_74 : decode cX6_set 74 = .ok (.invokevirtual 72, 3) := by decide +kernel
theorem dX6_set_77 : decode cX6_set 77 = .ok (.aload_n 0, 1) := by decide +kernel
theorem dX6_set_78 : decode cX6_set 78 = .ok (.getfield 7, 3) := by decide +kernel
theorem dX6_set_81 : decode cX6_set 81 = .ok (.iload_n 1, 1) := by decide +kernel
theorem dX6_set_82 : decode cX6_set 82 = .ok (.iload_n 2, 1) := by decide +kernel
theorem dX6_set_83 : decode cX6_set 83 = .ok (.iastore, 1) := by decide +kernel
theorem dX6_set_84 : decode cX6_set 84 = .ok (.aload_n 0, 1) := by decide +kernel
theorem dX6_set_85 : decode cX6_set 85 = .ok (.iload_n 3, 1) := by decide +kernel
theorem dX6_set_86 : decode cX6_set 86 = .ok (.invokevirtual 75, 3) := by decide +kernel
theorem dX6_set_89 : decode cX6_set 89 = .ok (.ireturn, 1) := by decide +kernel
theorem dX6_pass_0 : decode cX6_pass 0 = .ok (.iload_n 1, 1) := by decide +kernel
theorem dX6_pass_1 : decode cX6_pass 1 = .ok (.i2l, 1) := by decide +kernel
theorem dX6_pass_2 : decode cX6_pass 2 = .ok (.lconst 1, 1) := by decide +kernel
theorem dX6_pass_3 : decode cX6_pass 3 = .ok (.ldc2_w 103, 3) := by decide +kernel
theorem dX6_pass_6 : decode cX6_pass 6 = .ok (.invokestatic 35, 3) := by decide +kernel
theorem dX6_pass_9 : decode cX6_pass 9 = .ok (.ifCond .ne 6, 3) := by decide +kernel
theorem dX6_pass_12 : decode cX6_pass 12 = .ok (.bipush (-2), 2) := by decide +kernel
theorem dX6_pass_14 : decode cX6_pass 14 = .ok (.ireturn, 1) := by decide +kernel
theorem dX6_pass_15 : decode cX6_pass 15 = .ok (.aload_n 0, 1) := by decide +kernel
theorem dX6_pass_16 : decode cX6_pass 16 = .ok (.getfield 7, 3) := by decide +kernel
theorem dX6_pass_19 : decode cX6_pass 19 = .ok (.iconst 3, 1) := by decide +kernel
theorem dX6_pass_20 : decode cX6_pass 20 = .ok (.iaload, 1) := by decide +kernel
theorem dX6_pass_21 : decode cX6_pass 21 = .ok (.iload_n 1, 1) := by decide +kernel
theorem dX6_pass_22 : decode cX6_pass 22 = .ok (.iadd, 1) := by decide +kernel
theorem dX6_pass_23 : decode cX6_pass 23 = .ok (.ldc 105, 2) := by decide +kernel
theorem dX6_pass_25 : decode cX6_pass 25 = .ok (.if_icmp .le 6, 3) := by decide +kernel
theorem dX6_pass_28 : decode cX6_pass 28 = .ok (.bipush (-3), 2) := by decide +kernel
theorem dX6_pass_30 : decode cX6_pass 30 = .ok (.ireturn, 1) := by decide +kernel
theorem dX6_pass_31 : decode cX6_pass 31 = .ok (.aload_n 0, 1) := by decide +kernel
theorem dX6_pass_32 : decode cX6_pass 32 = .ok (.invokevirtual 72, 3) := by decide +kernel
theorem dX6_pass_35 : decode cX6_pass 35 = .ok (.aload_n 0, 1) := by decide +kernel
theorem dX6_pass_36 : decode cX6_pass 36 = .ok (.getfield 7, 3) := by decide +kernel
theorem dX6_pass_39 : decode cX6_pass 39 = .ok (.bipush 10, 2) := by decide +kernel
theorem dX6_pass_41 : decode cX6_pass 41 = .ok (.iaload, 1) := by decide +kernel
theorem dX6_pass_42 : decode cX6_pass 42 = .ok (.istore_n 2, 1) := by decide +kernel
theorem dX6_pass_43 : decode cX6_pass 43 = .ok (.iconst 0, 1) := by decide +kernel
theorem dX6_pass_44 : decode cX6_pass 44 = .ok (.istore_n 3, 1) := by decide +kernel
theorem dX6_pass_45 : decode cX6_pass 45 = .ok (.iload_n 3, 1) := by decide +kernel
theorem dX6_pass_46 : decode cX6_pass 46 = .ok (.iload_n 1, 1) := by decide +kernel
theorem dX6_pass_47 : decode cX6_pass 47 = .ok (.if_icmp .ge 13, 3) := by decide +kernel
theorem dX6_pass_50 : decode cX6_pass 50 = .ok (.aload_n 0, 1) := by decide +kernel
theorem dX6_pass_51 : decode cX6_pass 51 = .ok (.invokevirtual 106, 3) := by decide +kernel
theorem dX6_pass_54 : decode cX6_pass 54 = .ok (.iinc 3 1, 3) := by decide +kernel
theorem dX6_pass_57 : decode cX6_pass 57 = .ok (.goto (-12), 3) := by decide +kernel
theorem dX6_pass_60 : decode cX6_pass 60 = .ok (.aload_n 0, 1) := by decide +kernel
theorem dX6_pass_61 : decode cX6_pass 61 = .ok (.aload_n 0, 1) := by decide +kernel
theorem dX6_pass_62 : decode cX6_pass 62 = .ok (.getfield 7, 3) := by decide +kernel
theorem dX6_pass_65 : decode cX6_pass 65 = .ok (.bipush 10, 2) := by decide +kernel
theorem dX6_pass_67 : decode cX6_pass 67 = .ok (.iaload, 1) := by decide +kernel
theorem dX6_pass_68 : decode cX6_pass 68 = .ok (.iload_n 2, 1) := by decide +kernel
theorem dX6_pass_69 : decode cX6_pass 69 = .ok (.isub, 1) := by decide +kernel
theorem dX6_pass_70 : decode cX6_pass 70 = .ok (.invokevirtual 75, 3) := by decide +kernel
theorem dX6_pass_73 : decode cX6_pass 73 = .ok (.ireturn, 1) := by decide +kernel
theorem dX6_type_0 : decode cX6_type 0 = .ok (.aload_n 0, 1) := by decide +kernel
theorem dX6_type_1 : decode cX6_type 1 = .ok (.getfield 109, 3) := by decide +kernel
theorem dX6_type_4 : decode cX6_type 4 = .ok (.bipush 60, 2) := by decide +kernel
theorem dX6_type_6 : decode cX6_type 6 = .ok (.if_icmp .ne 6, 3) := by decide +kernel
theorem dX6_type_9 : decode cX6_type 9 = .ok (.bipush (-3), 2) := by decide +kernel
theorem dX6_type_11 : decode cX6_type 11 = .ok (.ireturn, 1) := by decide +kernel
theorem dX6_type_12 : decode cX6_type 12 = .ok (.aload_n 0, 1) := by decide +kernel
theorem dX6_type_13 : decode cX6_type 13 = .ok (.getfield 28, 3) := by decide +kernel
theorem dX6_type_16 : decode cX6_type 16 = .ok (.aload_n 0, 1) := by decide +kernel
theorem dX6_type_17 : decode cX6_type 17 = .ok (.getfield 109, 3) := by decide +kernel
theorem dX6_type_20 : decode cX6_type 20 = .ok (.iload_n 1, 1) := by decide +kernel
theorem dX6_type_21 : decode cX6_type 21 = .ok (.iastore, 1) := by decide +kernel
theorem dX6_type_22 : decode cX6_type 22 = .ok (.aload_n 0, 1) := by decide +kernel
theorem dX6_type_23 : decode cX6_type 23 = .ok (.dup, 1) := by decide +kernel
theorem dX6_type_24 : decode cX6_type 24 = .ok (.getfield 109, 3) := by decide +kernel
theorem dX6_type_27 : decode cX6_type 27 = .ok (.iconst 1, 1) := by decide +kernel
theorem dX6_type_28 : decode cX6_type 28 = .ok (.iadd, 1) := by decide +kernel
theorem dX6_type_29 : decode cX6_type 29 = .ok (.putfield 109, 3) := by decide +kernel
theorem dX6_type_32 : decode cX6_type 32 = .ok (.aload_n 0, 1) := by decide +kernel
theorem dX6_type_33 : decode cX6_type 33 = .ok (.getfield 109, 3) := by decide +kernel
theorem dX6_type_36 : decode cX6_type 36 = .ok (.ireturn, 1) := by decide +kernel
theorem dX6_clearText_0 : decode cX6_clearText 0 = .ok (.aload_n 0, 1) := by decide +kernel
theorem dX6_clearText_1 : decode cX6_clearText 1 = .ok (.getfield 109, 3) := by decide +kernel
theorem dX6_clearText_4 : decode cX6_clearText 4 = .ok (.istore_n 1, 1) := by decide +kernel
theorem dX6_clearText_5 : decode cX6_clearText 5 = .ok (.aload_n 0, 1) := by decide +kernel
theorem dX6_clearText_6 : decode cX6_clearText 6 = .ok (.iconst 0, 1) := by decide +kernel
theorem dX6_clearText_7 : decode cX6_clearText 7 = .ok (.putfield 109, 3) := by decide +kernel
theorem dX6_clearText_10 : decode cX6_clearText 10 = .ok (.iload_n 1, 1) := by decide +kernel
theorem dX6_clearText_11 : decode cX6_clearText 11 = .ok (.ireturn, 1) := by decide +kernel
theorem dX6_isHere_0 : decode cX6_isHere 0 = .ok (.aload_n 0, 1) := by decide +kernel
theorem dX6_isHere_1 : decode cX6_isHere 1 = .ok (.getfield 112, 3) := by decide +kernel
theorem dX6_isHere_4 : decode cX6_isHere 4 = .ok (.aload_n 0, 1) := by decide +kernel
theorem dX6_isHere_5 : decode cX6_isHere 5 = .ok (.getfield 109, 3) := by decide +kernel
theorem dX6_isHere_8 : decode cX6_isHere 8 = .ok (.if_icmp .ge 27, 3) := by decide +kernel
theorem dX6_isHere_11 : decode cX6_isHere 11 = .ok (.aload_n 0, 1) := by decide +kernel
theorem dX6_isHere_12 : decode cX6_isHere 12 = .ok (.getfield 28, 3) := by decide +kernel
theorem dX6_isHere_15 : decode cX6_isHere 15 = .ok (.aload_n 0, 1) := by decide +kernel
theorem dX6_isHere_16 : decode cX6_isHere 16 = .ok (.getfield 112, 3) := by decide +kernel
theorem dX6_isHere_19 : decode cX6_isHere 19 = .ok (.iaload, 1) := by decide +kernel
theorem dX6_isHere_20 : decode cX6_isHere 20 = .ok (.i2l, 1) := by decide +kernel
theorem dX6_isHere_21 : decode cX6_isHere 21 = .ok (.iload_n 1, 1) := by decide +kernel
theorem dX6_isHere_22 : decode cX6_isHere 22 = .ok (.i2l, 1) := by decide +kernel
theorem dX6_isHere_23 : decode cX6_isHere 23 = .ok (.iload_n 2, 1) := by decide +kernel
theorem dX6_isHere_24 : decode cX6_isHere 24 = .ok (.i2l, 1) := by decide +kernel
theorem dX6_isHere_25 : decode cX6_isHere 25 = .ok (.invokestatic 35, 3) := by decide +kernel
theorem dX6_isHere_28 : decode cX6_isHere 28 = .ok (.ifCond .eq 7, 3) := by decide +kernel
theorem dX6_isHere_31 : decode cX6_isHere 31 = .ok (.iconst 1, 1) := by decide +kernel
theorem dX6_isHere_32 : decode cX6_isHere 32 = .ok (.goto 4, 3) := by decide +kernel
theorem dX6_isHere_35 : decode cX6_isHere 35 = .ok (.iconst 0, 1) := by decide +kernel
theorem dX6_isHere_36 : decode cX6_isHere 36 = .ok (.ireturn, 1) := by decide +kernel
theorem dX6_takesOne_0 : decode cX6_takesOne 0 = .ok (.aload_n 0, 1) := by decide +kernel
theorem dX6_takesOne_1 : decode cX6_takesOne 1 = .ok (.iload_n 1, 1) := by decide +kernel
theorem dX6_takesOne_2 : decode cX6_takesOne 2 = .ok (.iload_n 1, 1) := by decide +kernel
theorem dX6_takesOne_3 : decode cX6_takesOne 3 = .ok (.invokevirtual 115, 3) := by decide +kernel
theorem dX6_takesOne_6 : decode cX6_takesOne 6 = .ok (.istore_n 2, 1) := by decide +kernel
theorem dX6_takesOne_7 : decode cX6_takesOne 7 = .ok (.aload_n 0, 1) := by decide +kernel
theorem dX6_takesOne_8 : decode cX6_takesOne 8 = .ok (.dup, 1) := by decide +kernel
theorem dX6_takesOne_9 : decode cX6_takesOne 9 = .ok (.getfield 112, 3) := by decide +kernel
theorem dX6_takesOne_12 : decode cX6_takesOne 12 = .ok (.iload_n 2, 1) := by decide +kernel
theorem dX6_takesOne_13 : decode cX6_takesOne 13 = .ok (.ifCond .eq 7, 3) := by decide +kernel
theorem dX6_takesOne_16 : decode cX6_takesOne 16 = .ok (.iconst 1, 1) := by decide +kernel
theorem dX6_takesOne_17 : decode cX6_takesOne 17 = .ok (.goto 4, 3) := by decide +kernel
theorem dX6_takesOne_20 : decode cX6_takesOne 20 = .ok (.iconst 0, 1) := by decide +kernel
theorem dX6_takesOne_21 : decode cX6_takesOne 21 = .ok (.iadd, 1) := by decide +kernel
theorem dX6_takesOne_22 : decode cX6_takesOne 22 = .ok (.putfield 112, 3) := by decide +kernel
theorem dX6_takesOne_25 : decode cX6_takesOne 25 = .ok (.iload_n 2, 1) := by decide +kernel
theorem dX6_takesOne_26 : decode cX6_takesOne 26 = .ok (.ireturn, 1) := by decide +kernel
theorem dX6_readsMisreading_0 : decode cX6_readsMisreading 0 = .ok (.aload_n 0, 1) := by decide +kernel
theorem dX6_readsMisreading_1 : decode cX6_readsMisreading 1 = .ok (.bipush 48, 2) := by decide +kernel
theorem dX6_readsMisreading_3 : decode cX6_readsMisreading 3 = .ok (.bipush 57, 2) := by decide +kernel
theorem dX6_readsMisreading_5 : decode cX6_readsMisreading 5 = .ok (.invokevirtual 115, 3) := by decide +kernel
theorem dX6_readsMisreading_8 : decode cX6_readsMisreading 8 = .ok (.ifCond .ne 5, 3) := by decide +kernel
theorem dX6_readsMisreading_11 : decode cX6_readsMisreading 11 = .ok (.iconst 0, 1) := by decide +kernel
theorem dX6_readsMisreading_12 : decode cX6_readsMisreading 12 = .ok (.ireturn, 1) := by decide +kernel
theorem dX6_readsMisreading_13 : decode cX6_readsMisreading 13 = .ok (.aload_n 0, 1) := by decide +kernel
theorem dX6_readsMisreading_14 : decode cX6_readsMisreading 14 = .ok (.getfield 28, 3) := by decide +kernel
theorem dX6_readsMisreading_17 : decode cX6_readsMisreading 17 = .ok (.aload_n 0, 1) := by decide +kernel
theorem dX6_readsMisreading_18 : decode cX6_readsMisreading 18 = .ok (.getfield 112, 3) := by decide +kernel
theorem dX6_readsMisreading_21 : decode cX6_readsMisreading 21 = .ok (.iaload, 1) := by decide +kernel
theorem dX6_readsMisreading_22 : decode cX6_readsMisreading 22 = .ok (.bipush 48, 2) := by decide +kernel
theorem dX6_readsMisreading_24 : decode cX6_readsMisreading 24 = .ok (.isub, 1) := by decide +kernel
theorem dX6_readsMisreading_25 : decode cX6_readsMisreading 25 = .ok (.istore_n 1, 1) := by decide +kernel
theorem dX6_readsMisreading_26 : decode cX6_readsMisreading 26 = .ok (.aload_n 0, 1) := by decide +kernel
theorem dX6_readsMisreading_27 : decode cX6_readsMisreading 27 = .ok (.dup, 1) := by decide +kernel
theorem dX6_readsMisreading_28 : decode cX6_readsMisreading 28 = .ok (.getfield 112, 3) := by decide +kernel
theorem dX6_readsMisreading_31 : decode cX6_readsMisreading 31 = .ok (.iconst 1, 1) := by decide +kernel
theorem dX6_readsMisreading_32 : decode cX6_readsMisreading 32 = .ok (.iadd, 1) := by decide +kernel
theorem dX6_readsMisreading_33 : decode cX6_readsMisreading 33 = .ok (.putfield 112, 3) := by decide +kernel
theorem dX6_readsMisreading_36 : decode cX6_readsMisreading 36 = .ok (.iload_n 1, 1) := by decide +kernel
theorem dX6_readsMisreading_37 : decode cX6_readsMisreading 37 = .ok (.ifCond .le 64, 3) := by decide +kernel
theorem dX6_readsMisreading_40 : decode cX6_readsMisreading 40 = .ok (.aload_n 0, 1) := by decide +kernel
theorem dX6_readsMisreading_41 : decode cX6_readsMisreading 41 = .ok (.bipush 48, 2) := by decide +kernel
theorem dX6_readsMisreading_43 : decode cX6_readsMisreading 43 = .ok (.bipush 57, 2) := by decide +kernel
theorem dX6_readsMisreading_45 : decode cX6_readsMisreading 45 = .ok (.invokevirtual 115, 3) := by decide +kernel
theorem dX6_readsMisreading_48 : decode cX6_readsMisreading 48 = .ok (.ifCond .eq 53, 3) := by decide +kernel
theorem dX6_readsMisreading_51 : decode cX6_readsMisreading 51 = .ok (.bipush 10, 2) := by decide +kernel
theorem dX6_readsMisreading_53 : decode cX6_readsMisreading 53 = .ok (.iload_n 1, 1) := by decide +kernel
theorem dX6_readsMisreading_54 : decode cX6_readsMisreading 54 = .ok (.imul, 1) := by decide +kernel
theorem dX6_readsMisreading_55 : decode cX6_readsMisreading 55 = .ok (.aload_n 0, 1) := by decide +kernel
theorem dX6_readsMisreading_56 : decode cX6_readsMisreading 56 = .ok (.getfield 28, 3) := by decide +kernel
theorem dX6_readsMisreading_59 : decode cX6_readsMisreading 59 = .ok (.aload_n 0, 1) := by decide +kernel
theorem dX6_readsMisreading_60 : decode cX6_readsMisreading 60 = .ok (.getfield 112, 3) := by decide +kernel
theorem dX6_readsMisreading_63 : decode cX6_readsMisreading 63 = .ok (.iaload, 1) := by decide +kernel
theorem dX6_readsMisreading_64 : decode cX6_readsMisreading 64 = .ok (.iadd, 1) := by decide +kernel
theorem dX6_readsMisreading_65 : decode cX6_readsMisreading 65 = .ok (.bipush 48, 2) := by decide +kernel
theorem dX6_readsMisreading_67 : decode cX6_readsMisreading 67 = .ok (.isub, 1) := by decide +kernel
theorem dX6_readsMisreading_68 : decode cX6_readsMisreading 68 = .ok (.bipush 40, 2) := by decide +kernel
theorem dX6_readsMisreading_70 : decode cX6_readsMisreading 70 = .ok (.if_icmp .ge 31, 3) := by decide +kernel
theorem dX6_readsMisreading_73 : decode cX6_readsMisreading 73 = .ok (.bipush 10, 2) := by decide +kernel
theorem dX6_readsMisreading_75 : decode cX6_readsMisreading 75 = .ok (.iload_n 1, 1) := by decide +kernel
theorem dX6_readsMisreading_76 : decode cX6_readsMisreading 76 = .ok (.imul, 1) := by decide +kernel
theorem dX6_readsMisreading_77 : decode cX6_readsMisreading 77 = .ok (.aload_n 0, 1) := by decide +kernel
theorem dX6_readsMisreading_78 : decode cX6_readsMisreading 78 = .ok (.getfield 28, 3) := by decide +kernel
theorem dX6_readsMisreading_81 : decode cX6_readsMisreading 81 = .ok (.aload_n 0, 1) := by decide +kernel
theorem dX6_readsMisreading_82 : decode cX6_readsMisreading 82 = .ok (.getfield 112, 3) := by decide +kernel
theorem dX6_readsMisreading_85 : decode cX6_readsMisreading 85 = .ok (.iaload, 1) := by decide +kernel
theorem dX6_readsMisreading_86 : decode cX6_readsMisreading 86 = .ok (.iadd, 1) := by decide +kernel
theorem dX6_readsMisreading_87 : decode cX6_readsMisreading 87 = .ok (.bipush 48, 2) := by decide +kernel
theorem dX6_readsMisreading_89 : decode cX6_readsMisreading 89 = .ok (.isub, 1) := by decide +kernel
theorem dX6_readsMisreading_90 : decode cX6_readsMisreading 90 = .ok (.istore_n 1, 1) := by decide +kernel
theorem dX6_readsMisreading_91 : decode cX6_readsMisreading 91 = .ok (.aload_n 0, 1) := by decide +kernel
theorem dX6_readsMisreading_92 : decode cX6_readsMisreading 92 = .ok (.dup, 1) := by decide +kernel
theorem dX6_readsMisreading_93 : decode cX6_readsMisreading 93 = .ok (.getfield 112, 3) := by decide +kernel
theorem dX6_readsMisreading_96 : decode cX6_readsMisreading 96 = .ok (.iconst 1, 1) := by decide +kernel
theorem dX6_readsMisreading_97 : decode cX6_readsMisreading 97 = .ok (.iadd, 1) := by decide +kernel
theorem dX6_readsMisreading_98 : decode cX6_readsMisreading 98 = .ok (.putfield 112, 3) := by decide +kernel
theorem dX6_readsMisreading_101 : decode cX6_readsMisreading 101 = .ok (.aload_n 0, 1) := by decide +kernel
theorem dX6_readsMisreading_102 : decode cX6_readsMisreading 102 = .ok (.bipush 97, 2) := by decide +kernel
theorem dX6_readsMisreading_104 : decode cX6_readsMisreading 104 = .ok (.bipush 122, 2) := by decide +kernel
theorem dX6_readsMisreading_106 : decode cX6_readsMisreading 106 = .ok (.invokevirtual 115, 3) := by decide +kernel
theorem dX6_readsMisreading_109 : decode cX6_readsMisreading 109 = .ok (.ifCond .ne 5, 3) := by decide +kernel
theorem dX6_readsMisreading_112 : decode cX6_readsMisreading 112 = .ok (.iconst 0, 1) := by decide +kernel
theorem dX6_readsMisreading_113 : decode cX6_readsMisreading 113 = .ok (.ireturn, 1) := by decide +kernel
theorem dX6_readsMisreading_114 : decode cX6_readsMisreading 114 = .ok (.aload_n 0, 1) := by decide +kernel
theorem dX6_readsMisreading_115 : decode cX6_readsMisreading 115 = .ok (.getfield 25, 3) := by decide +kernel
theorem dX6_readsMisreading_118 : decode cX6_readsMisreading 118 = .ok (.iload_n 1, 1) := by decide +kernel
theorem dX6_readsMisreading_119 : decode cX6_readsMisreading 119 = .ok (.aload_n 0, 1) := by decide +kernel
theorem dX6_readsMisreading_120 : decode cX6_readsMisreading 120 = .ok (.getfield 28, 3) := by decide +kernel
theorem dX6_readsMisreading_123 : decode cX6_readsMisreading 123 = .ok (.aload_n 0, 1) := by decide +kernel
theorem dX6_readsMisreading_124 : decode cX6_readsMisreading 124 = .ok (.getfield 112, 3) := by decide +kernel
theorem dX6_readsMisreading_127 : decode cX6_readsMisreading 127 = .ok (.iaload, 1) := by decide +kernel
theorem dX6_readsMisreading_128 : decode cX6_readsMisreading 128 = .ok (.bipush 97, 2) := by decide +kernel
theorem dX6_readsMisreading_130 : decode cX6_readsMisreading 130 = .ok (.isub, 1) := by decide +kernel
theorem dX6_readsMisreading_131 : decode cX6_readsMisreading 131 = .ok (.iconst 1, 1) := by decide +kernel
theorem dX6_readsMisreading_132 : decode cX6_readsMisreading 132 = .ok (.iadd, 1) := by decide +kernel
theorem dX6_readsMisreading_133 : decode cX6_readsMisreading 133 = .ok (.iastore, 1) := by decide +kernel
theorem dX6_readsMisreading_134 : decode cX6_readsMisreading 134 = .ok (.aload_n 0, 1) := by decide +kernel
theorem dX6_readsMisreading_135 : decode cX6_readsMisreading 135 = .ok (.dup, 1) := by decide +kernel
theorem dX6_readsMisreading_136 : decode cX6_readsMisreading 136 = .ok (.getfield 112, 3) := by decide +kernel
theorem dX6_readsMisreading_139 : decode cX6_readsMisreading 139 = .ok (.iconst 1, 1) := by decide +kernel
theorem dX6_readsMisreading_140 : decode cX6_readsMisreading 140 = .ok (.iadd, 1) := by decide +kernel
theorem dX6_readsMisreading_141 : decode cX6_readsMisreading 141 = .ok (.putfield 112, 3) := by decide +kernel
theorem dX6_readsMisreading_144 : decode cX6_readsMisreading 144 = .ok (.aload_n 0, 1) := by decide +kernel
theorem dX6_readsMisreading_145 : decode cX6_readsMisreading 145 = .ok (.iload_n 1, 1) := by decide +kernel
theorem dX6_readsMisreading_146 : decode cX6_readsMisreading 146 = .ok (.aload_n 0, 1) := by decide +kernel
theorem dX6_readsMisreading_147 : decode cX6_readsMisreading 147 = .ok (.getfield 66, 3) := by decide +kernel
theorem dX6_readsMisreading_150 : decode cX6_readsMisreading 150 = .ok (.if_icmp .le 7, 3) := by decide +kernel
theorem dX6_readsMisreading_153 : decode cX6_readsMisreading 153 = .ok (.iload_n 1, 1) := by decide +kernel
theorem dX6_readsMisreading_154 : decode cX6_readsMisreading 154 = .ok (.goto 7, 3) := by decide +kernel
theorem dX6_readsMisreading_157 : decode cX6_readsMisreading 157 = .ok (.aload_n 0, 1) := by decide +kernel
theorem dX6_readsMisreading_158 : decode cX6_readsMisreading 158 = .ok (.getfield 66, 3) := by decide +kernel
theorem dX6_readsMisreading_161 : decode cX6_readsMisreading 161 = .ok (.putfield 66, 3) := by decide +kernel
theorem dX6_readsMisreading_164 : decode cX6_readsMisreading 164 = .ok (.iconst 1, 1) := by decide +kernel
theorem dX6_readsMisreading_165 : decode cX6_readsMisreading 165 = .ok (.ireturn, 1) := by decide +kernel
theorem dX6_fault_0 : decode cX6_fault 0 = .ok (.aload_n 0, 1) := by decide +kernel
theorem dX6_fault_1 : decode cX6_fault 1 = .ok (.iconst 0, 1) := by decide +kernel
theorem dX6_fault_2 : decode cX6_fault 2 = .ok (.putfield 112, 3) := by decide +kernel
theorem dX6_fault_5 : decode cX6_fault 5 = .ok (.aload_n 0, 1) := by decide +kernel
theorem dX6_fault_6 : decode cX6_fault 6 = .ok (.iconst (-1), 1) := by decide +kernel
theorem dX6_fault_7 : decode cX6_fault 7 = .ok (.putfield 66, 3) := by decide +kernel
theorem dX6_fault_10 : decode cX6_fault 10 = .ok (.iconst 0, 1) := by decide +kernel
theorem dX6_fault_11 : decode cX6_fault 11 = .ok (.istore_n 1, 1) := by decide +kernel
theorem dX6_fault_12 : decode cX6_fault 12 = .ok (.iload_n 1, 1) := by decide +kernel
theorem dX6_fault_13 : decode cX6_fault 13 = .ok (.bipush 40, 2) := by decide +kernel
theorem dX6_fault_15 : decode cX6_fault 15 = .ok (.if_icmp .ge 16, 3) := by decide +kernel
theorem dX6_fault_18 : decode cX6_fault 18 = .ok (.aload_n 0, 1) := by decide +kernel
theorem dX6_fault_19 : decode cX6_fault 19 = .ok (.getfield 25, 3) := by decide +kernel
theorem dX6_fault_22 : decode cX6_fault 22 = .ok (.iload_n 1, 1) := by decide +kernel
theorem dX6_fault_23 : decode cX6_fault 23 = .ok (.iconst 0, 1) := by decide +kernel
theorem dX6_fault_24 : decode cX6_fault 24 = .ok (.iastore, 1) := by decide +kernel
theorem dX6_fault_25 : decode cX6_fault 25 = .ok (.iinc 1 1, 3) := by decide +kernel
theorem dX6_fault_28 : decode cX6_fault 28 = .ok (.goto (-16), 3) := by decide +kernel
theorem dX6_fault_31 : decode cX6_fault 31 = .ok (.aload_n 0, 1) := by decide +kernel
theorem dX6_fault_32 : decode cX6_fault 32 = .ok (.getfield 112, 3) := by decide +kernel
theorem dX6_fault_35 : decode cX6_fault 35 = .ok (.bipush 20, 2) := by decide +kernel
theorem dX6_fault_37 : decode cX6_fault 37 = .ok (.if_icmp .ge 27, 3) := by decide +kernel
theorem dX6_fault_40 : decode cX6_fault 40 = .ok (.aload_n 0, 1) := by decide +kernel
theorem dX6_fault_41 : decode cX6_fault 41 = .ok (.bipush 97, 2) := by decide +kernel
theorem dX6_fault_43 : decode cX6_fault 43 = .ok (.bipush 122, 2) := by decide +kernel
theorem dX6_fault_45 : decode cX6_fault 45 = .ok (.invokevirtual 115, 3) := by decide +kernel
theorem dX6_fault_48 : decode cX6_fault 48 = .ok (.ifCond .eq 16, 3) := by decide +kernel
theorem dX6_fault_51 : decode cX6_fault 51 = .ok (.aload_n 0, 1) := by decide +kernel
theorem dX6_fault_52 : decode cX6_fault 52 = .ok (.dup, 1) := by decide +kernel
theorem dX6_fault_53 : decode cX6_fault 53 = .ok (.getfield 112, 3) := by decide +kernel
theorem dX6_fault_56 : decode cX6_fault 56 = .ok (.iconst 1, 1) := by decide +kernel
theorem dX6_fault_57 : decode cX6_fault 57 = .ok (.iadd, 1) := by decide +kernel
theorem dX6_fault_58 : decode cX6_fault 58 = .ok (.putfield 112, 3) := by decide +kernel
theorem dX6_fault_61 : decode cX6_fault 61 = .ok (.goto (-30), 3) := by decide +kernel
theorem dX6_fault_64 : decode cX6_fault 64 = .ok (.aload_n 0, 1) := by decide +kernel
theorem dX6_fault_65 : decode cX6_fault 65 = .ok (.aload_n 0, 1) := by decide +kernel
theorem dX6_fault_66 : decode cX6_fault 66 = .ok (.getfield 112, 3) := by decide +kernel
theorem dX6_fault_69 : decode cX6_fault 69 = .ok (.putfield 69, 3) := by decide +kernel
theorem dX6_fault_72 : decode cX6_fault 72 = .ok (.aload_n 0, 1) := by decide +kernel
theorem dX6_fault_73 : decode cX6_fault 73 = .ok (.getfield 69, 3) := by decide +kernel
theorem dX6_fault_76 : decode cX6_fault 76 = .ok (.ifCond .le 16, 3) := by decide +kernel
theorem dX6_fault_79 : decode cX6_fault 79 = .ok (.aload_n 0, 1) := by decide +kernel
theorem dX6_fault_80 : decode cX6_fault 80 = .ok (.bipush 33, 2) := by decide +kernel
theorem dX6_fault_82 : decode cX6_fault 82 = .ok (.invokevirtual 119, 3) := by decide +kernel
theorem dX6_fault_85 : decode cX6_fault 85 = .ok (.ifCond .eq 7, 3) := by decide +kernel
theorem dX6_fault_88 : decode cX6_fault 88 = .ok (.iconst 1, 1) := by decide +kernel
theorem dX6_fault_89 : decode cX6_fault 89 = .ok (.goto 4, 3) := by decide +kernel
theorem dX6_fault_92 : decode cX6_fault 92 = .ok (.iconst 0, 1) := by decide +kernel
theorem dX6_fault_93 : decode cX6_fault 93 = .ok (.istore_n 1, 1) := by decide +kernel
theorem dX6_fault_94 : decode cX6_fault 94 = .ok (.iload_n 1, 1) := by decide +kernel
theorem dX6_fault_95 : decode cX6_fault 95 = .ok (.ifCond .eq 25, 3) := by decide +kernel
theorem dX6_fault_98 : decode cX6_fault 98 = .ok (.aload_n 0, 1) := by decide +kernel
theorem dX6_fault_99 : decode cX6_fault 99 = .ok (.invokevirtual 122, 3) := by decide +kernel
theorem dX6_fault_102 : decode cX6_fault 102 = .ok (.ifCond .ne 8, 3) := by decide +kernel
theorem dX6_fault_105 : decode cX6_fault 105 = .ok (.aload_n 0, 1) := by decide +kernel
theorem dX6_fault_106 : decode cX6_fault 106 = .ok (.getfield 112, 3) := by decide +kernel
theorem dX6_fault_109 : decode cX6_fault 109 = .ok (.ireturn, 1) := by decide +kernel
theorem dX6_fault_110 : decode cX6_fault 110 = .ok (.aload_n 0, 1) := by decide +kernel
theorem dX6_fault_111 : decode cX6_fault 111 = .ok (.bipush 44, 2) := by decide +kernel
theorem dX6_fault_113 : decode cX6_fault 113 = .ok (.invokevirtual 119, 3) := by decide +kernel
theorem dX6_fault_116 : decode cX6_fault 116 = .ok (.istore_n 1, 1) := by decide +kernel
theorem dX6_fault_117 : decode cX6_fault 117 = .ok (.goto (-23), 3) := by decide +kernel
theorem dX6_fault_120 : decode cX6_fault 120 = .ok (.aload_n 0, 1) := by decide +kernel
theorem dX6_fault_121 : decode cX6_fault 121 = .ok (.getfield 112, 3) := by decide +kernel
theorem dX6_fault_124 : decode cX6_fault 124 = .ok (.aload_n 0, 1) := by decide +kernel
theorem dX6_fault_125 : decode cX6_fault 125 = .ok (.getfield 109, 3) := by decide +kernel
theorem dX6_fault_128 : decode cX6_fault 128 = .ok (.if_icmp .ne 15, 3) := by decide +kernel
theorem dX6_fault_131 : decode cX6_fault 131 = .ok (.aload_n 0, 1) := by decide +kernel
theorem dX6_fault_132 : decode cX6_fault 132 = .ok (.getfield 69, 3) := by decide +kernel
theorem dX6_fault_135 : decode cX6_fault 135 = .ok (.ifCond .le 8, 3) := by decide +kernel
theorem dX6_fault_138 : decode cX6_fault 138 = .ok (.bipush (-5), 2) := by decide +kernel
theorem dX6_fault_140 : decode cX6_fault 140 = .ok (.goto 7, 3) := by decide +kernel
theorem dX6_fault_143 : decode cX6_fault 143 = .ok (.aload_n 0, 1) := by decide +kernel
theorem dX6_fault_144 : decode cX6_fault 144 = .ok (.getfield 112, 3) := by decide +kernel
theorem dX6_fault_147 : decode cX6_fault 147 = .ok (.ireturn, 1) := by decide +kernel
theorem dX6_undo_0 : decode cX6_undo 0 = .ok (.aload_n 0, 1) := by decide +kernel
theorem dX6_undo_1 : decode cX6_undo 1 = .ok (.getfield 31, 3) := by decide +kernel
theorem dX6_undo_4 : decode cX6_undo 4 = .ok (.ifCond .ne 6, 3) := by decide +kernel
theorem dX6_undo_7 : decode cX6_undo 7 = .ok (.bipush (-5), 2) := by decide +kernel
theorem dX6_undo_9 : decode cX6_undo 9 = .ok (.ireturn, 1) := by decide +kernel
theorem dX6_undo_10 : decode cX6_undo 10 = .ok (.aload_n 0, 1) := by decide +kernel
theorem dX6_undo_11 : decode cX6_undo 11 = .ok (.dup, 1) := by decide +kernel
theorem dX6_undo_12 : decode cX6_undo 12 = .ok (.getfield 31, 3) := by decide +kernel
theorem dX6_undo_15 : decode cX6_undo 15 = .ok (.iconst 1, 1) := by decide +kernel
theorem dX6_undo_16 : decode cX6_undo 16 = .ok (.isub, 1) := by decide +kernel
theorem dX6_undo_17 : decode cX6_undo 17 = .ok (.putfield 31, 3) := by decide +kernel
theorem dX6_undo_20 : decode cX6_undo 20 = .ok (.iconst 0, 1) := by decide +kernel
theorem dX6_undo_21 : decode cX6_undo 21 = .ok (.istore_n 1, 1) := by decide +kernel
theorem dX6_undo_22 : decode cX6_undo 22 = .ok (.iload_n 1, 1) := by decide +kernel
theorem dX6_undo_23 : decode cX6_undo 23 = .ok (.sipush 246, 3) := by decide +kernel
theorem dX6_undo_26 : decode cX6_undo 26 = .ok (.if_icmp .ge 30, 3) := by decide +kernel
theorem dX6_undo_29 : decode cX6_undo 29 = .ok (.aload_n 0, 1) := by decide +kernel
theorem dX6_undo_30 : decode cX6_undo 30 = .ok (.getfield 7, 3) := by decide +kernel
theorem dX6_undo_33 : decode cX6_undo 33 = .ok (.iload_n 1, 1) := by decide +kernel
theorem dX6_undo_34 : decode cX6_undo 34 = .ok (.aload_n 0, 1) := by decide +kernel
theorem dX6_undo_35 : decode cX6_undo 35 = .ok (.getfield 19, 3) := by decide +kernel
theorem dX6_undo_38 : decode cX6_undo 38 = .ok (.sipush 246, 3) := by decide +kernel
theorem dX6_undo_41 : decode cX6_undo 41 = .ok (.aload_n 0, 1) := by decide +kernel
theorem dX6_undo_42 : decode cX6_undo 42 = .ok (.getfield 31, 3) := by decide +kernel
theorem dX6_undo_45 : decode cX6_undo 45 = .ok (.imul, 1) := by decide +kernel
theorem dX6_undo_46 : decode cX6_undo 46 = .ok (.iload_n 1, 1) := by decide +kernel
theorem dX6_undo_47 : decode cX6_undo 47 = .ok (.iadd, 1) := by decide +kernel
theorem dX6_undo_48 : decode cX6_undo 48 = .ok (.iaload, 1) := by decide +kernel
theorem dX6_undo_49 : decode cX6_undo 49 = .ok (.iastore, 1) := by decide +kernel
theorem dX6_undo_50 : decode cX6_undo 50 = .ok (.iinc 1 1, 3) := by decide +kernel
theorem dX6_undo_53 : decode cX6_undo 53 = .ok (.goto (-31), 3) := by decide +kernel
theorem dX6_undo_56 : decode cX6_undo 56 = .ok (.aload_n 0, 1) := by decide +kernel
theorem dX6_undo_57 : decode cX6_undo 57 = .ok (.getfield 31, 3) := by decide +kernel
theorem dX6_undo_60 : decode cX6_undo 60 = .ok (.ireturn, 1) := by decide +kernel
theorem dX6_keep_0 : decode cX6_keep 0 = .ok (.iconst 0, 1) := by decide +kernel
theorem dX6_keep_1 : decode cX6_keep 1 = .ok (.istore_n 1, 1) := by decide +kernel
theorem dX6_keep_2 : decode cX6_keep 2 = .ok (.iload_n 1, 1) := by decide +kernel
theorem dX6_keep_3 : decode cX6_keep 3 = .ok (.sipush 246, 3) := by decide +kernel
theorem dX6_keep_6 : decode cX6_keep 6 = .ok (.if_icmp .ge 21, 3) := by decide +kernel
theorem dX6_keep_9 : decode cX6_keep 9 = .ok (.aload_n 0, 1) := by decide +kernel
theorem dX6_keep_10 : decode cX6_keep 10 = .ok (.getfield 22, 3) := by decide +kernel
theorem dX6_keep_13 : decode cX6_keep 13 = .ok (.iload_n 1, 1) := by decide +kernel
theorem dX6_keep_14 : decode cX6_keep 14 = .ok (.aload_n 0, 1) := by decide +kernel
theorem dX6_keep_15 : decode cX6_keep 15 = .ok (.getfield 7, 3) := by decide +kernel
theorem dX6_keep_18 : decode cX6_keep 18 = .ok (.iload_n 1, 1) := by decide +kernel
theorem dX6_keep_19 : decode cX6_keep 19 = .ok (.iaload, 1) := by decide +kernel
theorem dX6_keep_20 : decode cX6_keep 20 = .ok (.iastore, 1) := by decide +kernel
theorem dX6_keep_21 : decode cX6_keep 21 = .ok (.iinc 1 1, 3) := by decide +kernel
theorem dX6_keep_24 : decode cX6_keep 24 = .ok (.goto (-22), 3) := by decide +kernel
theorem dX6_keep_27 : decode cX6_keep 27 = .ok (.aload_n 0, 1) := by decide +kernel
theorem dX6_keep_28 : decode cX6_keep 28 = .ok (.iconst 1, 1) := by decide +kernel
theorem dX6_keep_29 : decode cX6_keep 29 = .ok (.putfield 126, 3) := by decide +kernel
theorem dX6_keep_32 : decode cX6_keep 32 = .ok (.aload_n 0, 1) := by decide +kernel
theorem dX6_keep_33 : decode cX6_keep 33 = .ok (.getfield 7, 3) := by decide +kernel
theorem dX6_keep_36 : decode cX6_keep 36 = .ok (.iconst 3, 1) := by decide +kernel
theorem dX6_keep_37 : decode cX6_keep 37 = .ok (.iaload, 1) := by decide +kernel
theorem dX6_keep_38 : decode cX6_keep 38 = .ok (.ireturn, 1) := by decide +kernel
theorem dX6_restore_0 : decode cX6_restore 0 = .ok (.aload_n 0, 1) := by decide +kernel
theorem dX6_restore_1 : decode cX6_restore 1 = .ok (.getfield 126, 3) := by decide +kernel
theorem dX6_restore_4 : decode cX6_restore 4 = .ok (.ifCond .ne 6, 3) := by decide +kernel
theorem dX6_restore_7 : decode cX6_restore 7 = .ok (.bipush (-5), 2) := by decide +kernel
theorem dX6_restore_9 : decode cX6_restore 9 = .ok (.ireturn, 1) := by decide +kernel
theorem dX6_restore_10 : decode cX6_restore 10 = .ok (.aload_n 0, 1) := by decide +kernel
theorem dX6_restore_11 : decode cX6_restore 11 = .ok (.invokevirtual 72, 3) := by decide +kernel
theorem dX6_restore_14 : decode cX6_restore 14 = .ok (.iconst 0, 1) := by decide +kernel
theorem dX6_restore_15 : decode cX6_restore 15 = .ok (.istore_n 1, 1) := by decide +kernel
theorem dX6_restore_16 : decode cX6_restore 16 = .ok (.iload_n 1, 1) := by decide +kernel
theorem dX6_restore_17 : decode cX6_restore 17 = .ok (.sipush 246, 3) := by decide +kernel
theorem dX6_restore_20 : decode cX6_restore 20 = .ok (.if_icmp .ge 21, 3) := by decide +kernel
theorem dX6_restore_23 : decode cX6_restore 23 = .ok (.aload_n 0, 1) := by decide +kernel
theorem dX6_restore_24 : decode cX6_restore 24 = .ok (.getfield 7, 3) := by decide +kernel
theorem dX6_restore_27 : decode cX6_restore 27 = .ok (.iload_n 1, 1) := by decide +kernel
theorem dX6_restore_28 : decode cX6_restore 28 = .ok (.aload_n 0, 1) := by decide +kernel
theorem dX6_restore_29 : decode cX6_restore 29 = .ok (.getfield 22, 3) := by decide +kernel
theorem dX6_restore_32 : decode cX6_restore 32 = .ok (.iload_n 1, 1) := by decide +kernel
theorem dX6_restore_33 : decode cX6_restore 33 = .ok (.iaload, 1) := by decide +kernel
theorem dX6_restore_34 : decode cX6_restore 34 = .ok (.iastore, 1) := by decide +kernel
theorem dX6_restore_35 : decode cX6_restore 35 = .ok (.iinc 1 1, 3) := by decide +kernel
theorem dX6_restore_38 : decode cX6_restore 38 = .ok (.goto (-22), 3) := by decide +kernel
theorem dX6_restore_41 : decode cX6_restore 41 = .ok (.aload_n 0, 1) := by decide +kernel
theorem dX6_restore_42 : decode cX6_restore 42 = .ok (.aload_n 0, 1) := by decide +kernel
theorem dX6_restore_43 : decode cX6_restore 43 = .ok (.getfield 7, 3) := by decide +kernel
theorem dX6_restore_46 : decode cX6_restore 46 = .ok (.iconst 3, 1) := by decide +kernel
theorem dX6_restore_47 : decode cX6_restore 47 = .ok (.iaload, 1) := by decide +kernel
theorem dX6_restore_48 : decode cX6_restore 48 = .ok (.invokevirtual 75, 3) := by decide +kernel
theorem dX6_restore_51 : decode cX6_restore 51 = .ok (.ireturn, 1) := by decide +kernel
theorem dX6_place_0 : decode cX6_place 0 = .ok (.aload_n 0, 1) := by decide +kernel
theorem dX6_place_1 : decode cX6_place 1 = .ok (.iload_n 1, 1) := by decide +kernel
theorem dX6_place_2 : decode cX6_place 2 = .ok (.invokevirtual 78, 3) := by decide +kernel
theorem dX6_place_5 : decode cX6_place 5 = .ok (.ifCond .ne 5, 3) := by decide +kernel
theorem dX6_place_8 : decode cX6_place 8 = .ok (.iconst (-1), 1) := by decide +kernel
theorem dX6_place_9 : decode cX6_place 9 = .ok (.ireturn, 1) := by decide +kernel
theorem dX6_place_10 : decode cX6_place 10 = .ok (.iload_n 2, 1) := by decide +kernel
theorem dX6_place_11 : decode cX6_place 11 = .ok (.tableswitch 128 0 6 #[41, 47, 57, 67, 78, 88, 99], 41) := by decide +kernel
theorem dX6_place_52 : decode cX6_place 52 = .ok (.aload_n 0, 1) := by decide +kernel
theorem dX6_place_53 : decode cX6_place 53 = .ok (.iload_n 1, 1) := by decide +kernel
theorem dX6_place_54 : decode cX6_place 54 = .ok (.invokevirtual 39, 3) := by decide +kernel
theorem dX6_place_57 : decode cX6_place 57 = .ok (.ireturn, 1) := by decide +kernel
theorem dX6_place_58 : decode cX6_place 58 = .ok (.aload_n 0, 1) := by decide +kernel
theorem dX6_place_59 : decode cX6_place 59 = .ok (.getfield 7, 3) := by decide +kernel
theorem dX6_place_62 : decode cX6_place 62 = .ok (.bipush 86, 2) := by decide +kernel
theorem dX6_place_64 : decode cX6_place 64 = .ok (.iload_n 1, 1) := by decide +kernel
theorem dX6_place_65 : decode cX6_place 65 = .ok (.iadd, 1) := by decide +kernel
theorem dX6_place_66 : decode cX6_place 66 = .ok (.iaload, 1) := by decide +kernel
theorem dX6_place_67 : decode cX6_place 67 = .ok (.ireturn, 1) := by decide +kernel
theorem dX6_place_68 : decode cX6_place 68 = .ok (.aload_n 0, 1) := by decide +kernel
theorem dX6_place_69 : decode cX6_place 69 = .ok (.getfield 7, 3) := by decide +kernel
theorem dX6_place_72 : decode cX6_place 72 = .ok (.bipush 126, 2) := by decide +kernel
theorem dX6_place_74 : decode cX6_place 74 = .ok (.iload_n 1, 1) := by decide +kernel
theorem dX6_place_75 : decode cX6_place 75 = .ok (.iadd, 1) := by decide +kernel
theorem dX6_place_76 : decode cX6_place 76 = .ok (.iaload, 1) := by decide +kernel
theorem dX6_place_77 : decode cX6_place 77 = .ok (.ireturn, 1) := by decide +kernel
theorem dX6_place_78 : decode cX6_place 78 = .ok (.aload_n 0, 1) := by decide +kernel
theorem dX6_place_79 : decode cX6_place 79 = .ok (.getfield 7, 3) := by decide +kernel
theorem dX6_place_82 : decode cX6_place 82 = .ok (.sipush 166, 3) := by decide +kernel
theorem dX6_place_85 : decode cX6_place 85 = .ok (.iload_n 1, 1) := by decide +kernel
theorem dX6_place_86 : decode cX6_place 86 = .ok (.iadd, 1) := by decide +kernel
theorem dX6_place_87 : decode cX6_place 87 = .ok (.iaload, 1) := by decide +kernel
theorem dX6_place_88 : decode cX6_place 88 = .ok (.ireturn, 1) := by decide +kernel
theorem dX6_place_89 : decode cX6_place 89 = .ok (.aload_n 0, 1) := by decide +kernel
theorem dX6_place_90 : decode cX6_place 90 = .ok (.getfield 7, 3) := by decide +kernel
theorem dX6_place_93 : decode cX6_place 93 = .ok (.bipush 46, 2) := by decide +kernel
theorem dX6_place_95 : decode cX6_place 95 = .ok (.iload_n 1, 1) := by decide +kernel
theorem dX6_place_96 : decode cX6_place 96 = .ok (.iadd, 1) := by decide +kernel
theorem dX6_place_97 : decode cX6_place 97 = .ok (.iaload, 1) := by decide +kernel
theorem dX6_place_98 : decode cX6_place 98 = .ok (.ireturn, 1) := by decide +kernel
theorem dX6_place_99 : decode cX6_place 99 = .ok (.aload_n 0, 1) := by decide +kernel
theorem dX6_place_100 : decode cX6_place 100 = .ok (.getfield 7, 3) := by decide +kernel
theorem dX6_place_103 : decode cX6_place 103 = .ok (.iconst 4, 1) := by decide +kernel
theorem dX6_place_104 : decode cX6_place 104 = .ok (.iaload, 1) := by decide +kernel
theorem dX6_place_105 : decode cX6_place 105 = .ok (.iconst 1, 1) := by decide +kernel
theorem dX6_place_106 : decode cX6_place 106 = .ok (.isub, 1) := by decide +kernel
theorem dX6_place_107 : decode cX6_place 107 = .ok (.iload_n 1, 1) := by decide +kernel
theorem dX6_place_108 : decode cX6_place 108 = .ok (.isub, 1) := by decide +kernel
theorem dX6_place_109 : decode cX6_place 109 = .ok (.ireturn, 1) := by decide +kernel
theorem dX6_place_110 : decode cX6_place 110 = .ok (.aload_n 0, 1) := by decide +kernel
theorem dX6_place_111 : decode cX6_place 111 = .ok (.getfield 7, 3) := by decide +kernel
theorem dX6_place_114 : decode cX6_place 114 = .ok (.sipush 206, 3) := by decide +kernel
theorem dX6_place_117 : decode cX6_place 117 = .ok (.iload_n 1, 1) := by decide +kernel
theorem dX6_place_118 : decode cX6_place 118 = .ok (.iadd, 1) := by decide +kernel
theorem dX6_place_119 : decode cX6_place 119 = .ok (.iaload, 1) := by decide +kernel
theorem dX6_place_120 : decode cX6_place 120 = .ok (.ifCond .ne 8, 3) := by decide +kernel
theorem dX6_place_123 : decode cX6_place 123 = .ok (.bipush (-5), 2) := by decide +kernel
theorem dX6_place_125 : decode cX6_place 125 = .ok (.goto 13, 3) := by decide +kernel
theorem dX6_place_128 : decode cX6_place 128 = .ok (.aload_n 0, 1) := by decide +kernel
theorem dX6_place_129 : decode cX6_place 129 = .ok (.getfield 7, 3) := by decide +kernel
theorem dX6_place_132 : decode cX6_place 132 = .ok (.sipush 206, 3) := by decide +kernel
theorem dX6_place_135 : decode cX6_place 135 = .ok (.iload_n 1, 1) := by decide +kernel
theorem dX6_place_136 : decode cX6_place 136 = .ok (.iadd, 1) := by decide +kernel
theorem dX6_place_137 : decode cX6_place 137 = .ok (.iaload, 1) := by decide +kernel
theorem dX6_place_138 : decode cX6_place 138 = .ok (.ireturn, 1) := by decide +kernel
theorem dX6_place_139 : decode cX6_place 139 = .ok (.bipush (-2), 2) := by decide +kernel
theorem dX6_place_141 : decode cX6_place 141 = .ok (.ireturn, 1) := by decide +kernel
theorem dX6_scribe_0 : decode cX6_scribe 0 = .ok (.iload_n 1, 1) := by decide +kernel
theorem dX6_scribe_1 : decode cX6_scribe 1 = .ok (.invokestatic 90, 3) := by decide +kernel
theorem dX6_scribe_4 : decode cX6_scribe 4 = .ok (.ifCond .ne 5, 3) := by decide +kernel
theorem dX6_scribe_7 : decode cX6_scribe 7 = .ok (.iconst (-1), 1) := by decide +kernel
theorem dX6_scribe_8 : decode cX6_scribe 8 = .ok (.ireturn, 1) := by decide +kernel
theorem dX6_scribe_9 : decode cX6_scribe 9 = .ok (.iload_n 2, 1) := by decide +kernel
theorem dX6_scribe_10 : decode cX6_scribe 10 = .ok (.iconst 2, 1) := by decide +kernel
theorem dX6_scribe_11 : decode cX6_scribe 11 = .ok (.if_icmp .ne 9, 3) := by decide +kernel
theorem dX6_scribe_14 : decode cX6_scribe 14 = .ok (.aload_n 0, 1) := by decide +kernel
theorem dX6_scribe_15 : decode cX6_scribe 15 = .ok (.iload_n 1, 1) := by decide +kernel
theorem dX6_scribe_16 : decode cX6_scribe 16 = .ok (.invokevirtual 43, 3) := by decide +kernel
theorem dX6_scribe_19 : decode cX6_scribe 19 = .ok (.ireturn, 1) := by decide +kernel
theorem dX6_scribe_20 : decode cX6_scribe 20 = .ok (.iload_n 2, 1) := by decide +kernel
theorem dX6_scribe_21 : decode cX6_scribe 21 = .ok (.i2l, 1) := by decide +kernel
theorem dX6_scribe_22 : decode cX6_scribe 22 = .ok (.lconst 0, 1) := by decide +kernel
theorem dX6_scribe_23 : decode cX6_scribe 23 = .ok (.ldc2_w 129, 3) := by decide +kernel
theorem dX6_scribe_26 : decode cX6_scribe 26 = .ok (.invokestatic 35, 3) := by decide +kernel
theorem dX6_scribe_29 : decode cX6_scribe 29 = .ok (.ifCond .ne 6, 3) := by decide +kernel
theorem dX6_scribe_32 : decode cX6_scribe 32 = .ok (.bipush (-2), 2) := by decide +kernel
theorem dX6_scribe_34 : decode cX6_scribe 34 = .ok (.ireturn, 1) := by decide +kernel
theorem dX6_scribe_35 : decode cX6_scribe 35 = .ok (.aload_n 0, 1) := by decide +kernel
theorem dX6_scribe_36 : decode cX6_scribe 36 = .ok (.getfield 7, 3) := by decide +kernel
theorem dX6_scribe_39 : decode cX6_scribe 39 = .ok (.bipush 12, 2) := by decide +kernel
theorem dX6_scribe_41 : decode cX6_scribe 41 = .ok (.iconst 2, 1) := by decide +kernel
theorem dX6_scribe_42 : decode cX6_scribe 42 = .ok (.iload_n 2, 1) := by decide +kernel
theorem dX6_scribe_43 : decode cX6_scribe 43 = .ok (.iconst 2, 1) := by decide +kernel
theorem dX6_scribe_44 : decode cX6_scribe 44 = .ok (.if_icmp .ge 7, 3) := by decide +kernel
theorem dX6_scribe_47 : decode cX6_scribe 47 = .ok (.iload_n 2, 1) := by decide +kernel
theorem dX6_scribe_48 : decode cX6_scribe 48 = .ok (.goto 6, 3) := by decide +kernel
theorem dX6_scribe_51 : decode cX6_scribe 51 = .ok (.iload_n 2, 1) := by decide +kernel
theorem dX6_scribe_52 : decode cX6_scribe 52 = .ok (.iconst 1, 1) := by decide +kernel
theorem dX6_scribe_53 : decode cX6_scribe 53 = .ok (.isub, 1) := by decide +kernel
theorem dX6_scribe_54 : decode cX6_scribe 54 = .ok (.imul, 1) := by decide +kernel
theorem dX6_scribe_55 : decode cX6_scribe 55 = .ok (.iadd, 1) := by decide +kernel
theorem dX6_scribe_56 : decode cX6_scribe 56 = .ok (.iload_n 1, 1) := by decide +kernel
theorem dX6_scribe_57 : decode cX6_scribe 57 = .ok (.iadd, 1) := by decide +kernel
theorem dX6_scribe_58 : decode cX6_scribe 58 = .ok (.iaload, 1) := by decide +kernel
theorem dX6_scribe_59 : decode cX6_scribe 59 = .ok (.ireturn, 1) := by decide +kernel
theorem dX6_ink_0 : decode cX6_ink 0 = .ok (.iload_n 1, 1) := by decide +kernel
theorem dX6_ink_1 : decode cX6_ink 1 = .ok (.tableswitch 67 0 4 #[35, 35, 50, 50, 50], 35) := by decide +kernel
theorem dX6_ink_36 : decode cX6_ink 36 = .ok (.aload_n 0, 1) := by decide +kernel
theorem dX6_ink_37 : decode cX6_ink 37 = .ok (.getfield 7, 3) := by decide +kernel
theorem dX6_ink_40 : decode cX6_ink 40 = .ok (.bipush 24, 2) := by decide +kernel
theorem dX6_ink_42 : decode cX6_ink 42 = .ok (.iload_n 1, 1) := by decide +kernel
theorem dX6_ink_43 : decode cX6_ink 43 = .ok (.iadd, 1) := by decide +kernel
theorem dX6_ink_44 : decode cX6_ink 44 = .ok (.iaload, 1) := by decide +kernel
theorem dX6_ink_45 : decode cX6_ink 45 = .ok (.i2d, 1) := by decide +kernel
theorem dX6_ink_46 : decode cX6_ink 46 = .ok (.ldc2_w 131, 3) := by decide +kernel
theorem dX6_ink_49 : decode cX6_ink 49 = .ok (.ddiv, 1) := by decide +kernel
theorem dX6_ink_50 : decode cX6_ink 50 = .ok (.dreturn, 1) := by decide +kernel
theorem dX6_ink_51 : decode cX6_ink 51 = .ok (.aload_n 0, 1) := by decide +kernel
theorem dX6_ink_52 : decode cX6_ink 52 = .ok (.getfield 7, 3) := by decide +kernel
theorem dX6_ink_55 : decode cX6_ink 55 = .ok (.bipush 6, 2) := by decide +kernel
theorem dX6_ink_57 : decode cX6_ink 57 = .ok (.iload_n 1, 1) := by decide +kernel
theorem dX6_ink_58 : decode cX6_ink 58 = .ok (.iadd, 1) := by decide +kernel
theorem dX6_ink_59 : decode cX6_ink 59 = .ok (.iconst 2, 1) := by decide +kernel
theorem dX6_ink_60 : decode cX6_ink 60 = .ok (.isub, 1) := by decide +kernel
theorem dX6_ink_61 : decode cX6_ink 61 = .ok (.iaload, 1) := by decide +kernel
theorem dX6_ink_62 : decode cX6_ink 62 = .ok (.i2d, 1) := by decide +kernel
theorem dX6_ink_63 : decode cX6_ink 63 = .ok (.ldc2_w 131, 3) := by decide +kernel
theorem dX6_ink_66 : decode cX6_ink 66 = .ok (.ddiv, 1) := by decide +kernel
theorem dX6_ink_67 : decode cX6_ink 67 = .ok (.dreturn, 1) := by decide +kernel
theorem dX6_ink_68 : decode cX6_ink 68 = .ok (.ldc2_w 133, 3) := by decide +kernel
theorem dX6_ink_71 : decode cX6_ink 71 = .ok (.dreturn, 1) := by decide +kernel
theorem dX6_next_0 : decode cX6_next 0 = .ok (.iload_n 1, 1) := by decide +kernel
theorem dX6_next_1 : decode cX6_next 1 = .ok (.invokestatic 90, 3) := by decide +kernel
theorem dX6_next_4 : decode cX6_next 4 = .ok (.ifCond .ne 5, 3) := by decide +kernel
theorem dX6_next_7 : decode cX6_next 7 = .ok (.iconst (-1), 1) := by decide +kernel
theorem dX6_next_8 : decode cX6_next 8 = .ok (.ireturn, 1) := by decide +kernel
theorem dX6_next_9 : decode cX6_next 9 = .ok (.iload_n 1, 1) := by decide +kernel
theorem dX6_next_10 : decode cX6_next 10 = .ok (.ifCond .ne 9, 3) := by decide +kernel
theorem dX6_next_13 : decode cX6_next 13 = .ok (.aload_n 0, 1) := by decide +kernel
theorem dX6_next_14 : decode cX6_next 14 = .ok (.iconst 0, 1) := by decide +kernel
theorem dX6_next_15 : decode cX6_next 15 = .ok (.invokevirtual 49, 3) := by decide +kernel
theorem dX6_next_18 : decode cX6_next 18 = .ok (.ireturn, 1) := by decide +kernel
theorem dX6_next_19 : decode cX6_next 19 = .ok (.aload_n 0, 1) := by decide +kernel
theorem dX6_next_20 : decode cX6_next 20 = .ok (.invokevirtual 135, 3) := by decide +kernel
theorem dX6_next_23 : decode cX6_next 23 = .ok (.aload_n 0, 1) := by decide +kernel
theorem dX6_next_24 : decode cX6_next 24 = .ok (.iconst 0, 1) := by decide +kernel
theorem dX6_next_25 : decode cX6_next 25 = .ok (.invokevirtual 59, 3) := by decide +kernel
theorem dX6_next_28 : decode cX6_next 28 = .ok (.aload_n 0, 1) := by decide +kernel
theorem dX6_next_29 : decode cX6_next 29 = .ok (.iconst 1, 1) := by decide +kernel
theorem dX6_next_30 : decode cX6_next 30 = .ok (.invokevirtual 49, 3) := by decide +kernel
theorem dX6_next_33 : decode cX6_next 33 = .ok (.istore_n 2, 1) := by decide +kernel
theorem dX6_next_34 : decode cX6_next 34 = .ok (.aload_n 0, 1) := by decide +kernel
theorem dX6_next_35 : decode cX6_next 35 = .ok (.invokevirtual 138, 3) := by decide +kernel
theorem dX6_next_38 : decode cX6_next 38 = .ok (.iload_n 2, 1) := by decide +kernel
theorem dX6_next_39 : decode cX6_next 39 = .ok (.ireturn, 1) := by decide +kernel
theorem dX6_doneBehind_0 : decode cX6_doneBehind 0 = .ok (.aload_n 0, 1) := by decide +kernel
theorem dX6_doneBehind_1 : decode cX6_doneBehind 1 = .ok (.invokevirtual 135, 3) := by decide +kernel
theorem dX6_doneBehind_4 : decode cX6_doneBehind 4 = .ok (.iconst 0, 1) := by decide +kernel
theorem dX6_doneBehind_5 : decode cX6_doneBehind 5 = .ok (.istore_n 1, 1) := by decide +kernel
theorem dX6_doneBehind_6 : decode cX6_doneBehind 6 = .ok (.iload_n 1, 1) := by decide +kernel
theorem dX6_doneBehind_7 : decode cX6_doneBehind 7 = .ok (.sipush 2000, 3) := by decide +kernel
theorem dX6_doneBehind_10 : decode cX6_doneBehind 10 = .ok (.if_icmp .gt 20, 3) := by decide +kernel
theorem dX6_doneBehind_13 : decode cX6_doneBehind 13 = .ok (.aload_n 0, 1) := by decide +kernel
theorem dX6_doneBehind_14 : decode cX6_doneBehind 14 = .ok (.invokevirtual 141, 3) := by decide +kernel
theorem dX6_doneBehind_17 : decode cX6_doneBehind 17 = .ok (.ifCond .ne 13, 3) := by decide +kernel
theorem dX6_doneBehind_20 : decode cX6_doneBehind 20 = .ok (.aload_n 0, 1) := by decide +kernel
theorem dX6_doneBehind_21 : decode cX6_doneBehind 21 = .ok (.invokevirtual 106, 3) := by decide +kernel
theorem dX6_doneBehind_24 : decode cX6_doneBehind 24 = .ok (.iinc 1 1, 3) := by decide +kernel
theorem dX6_doneBehind_27 : decode cX6_doneBehind 27 = .ok (.goto (-21), 3) := by decide +kernel
theorem dX6_doneBehind_30 : decode cX6_doneBehind 30 = .ok (.aload_n 0, 1) := by decide +kernel
theorem dX6_doneBehind_31 : decode cX6_doneBehind 31 = .ok (.invokevirtual 138, 3) := by decide +kernel
theorem dX6_doneBehind_34 : decode cX6_doneBehind 34 = .ok (.iload_n 1, 1) := by decide +kernel
theorem dX6_doneBehind_35 : decode cX6_doneBehind 35 = .ok (.sipush 2000, 3) := by decide +kernel
theorem dX6_doneBehind_38 : decode cX6_doneBehind 38 = .ok (.if_icmp .le 8, 3) := by decide +kernel
theorem dX6_doneBehind_41 : decode cX6_doneBehind 41 = .ok (.bipush (-5), 2) := by decide +kernel
theorem dX6_doneBehind_43 : decode cX6_doneBehind 43 = .ok (.goto 4, 3) := by decide +kernel
theorem dX6_doneBehind_46 : decode cX6_doneBehind 46 = .ok (.iload_n 1, 1) := by decide +kernel
theorem dX6_doneBehind_47 : decode cX6_doneBehind 47 = .ok (.ireturn, 1) := by decide +kernel
theorem dX6_doneIn_0 : decode cX6_doneIn 0 = .ok (.aload_n 0, 1) := by decide +kernel
theorem dX6_doneIn_1 : decode cX6_doneIn 1 = .ok (.invokevirtual 144, 3) := by decide +kernel
theorem dX6_doneIn_4 : decode cX6_doneIn 4 = .ok (.ireturn, 1) := by decide +kernel
theorem dX6_unlikePairs_0 : decode cX6_unlikePairs 0 = .ok (.iconst 0, 1) := by decide +kernel
theorem dX6_unlikePairs_1 : decode cX6_unlikePairs 1 = .ok (.istore_n 1, 1) := by decide +kernel
theorem dX6_unlikePairs_2 : decode cX6_unlikePairs 2 = .ok (.iconst 0, 1) := by decide +kernel
theorem dX6_unlikePairs_3 : decode cX6_unlikePairs 3 = .ok (.istore_n 2, 1) := by decide +kernel
theorem dX6_unlikePairs_4 : decode cX6_unlikePairs 4 = .ok (.iload_n 2, 1) := by decide +kernel
theorem dX6_unlikePairs_5 : decode cX6_unlikePairs 5 = .ok (.aload_n 0, 1) := by decide +kernel
theorem dX6_unlikePairs_6 : decode cX6_unlikePairs 6 = .ok (.getfield 7, 3) := by decide +kernel
theorem dX6_unlikePairs_9 : decode cX6_unlikePairs 9 = .ok (.iconst 4, 1) := by decide +kernel
theorem dX6_unlikePairs_10 : decode cX6_unlikePairs 10 = .ok (.iaload, 1) := by decide +kernel
theorem dX6_unlikePairs_11 : decode cX6_unlikePairs 11 = .ok (.iconst 2, 1) := by decide +kernel
theorem dX6_unlikePairs_12 : decode cX6_unlikePairs 12 = .ok (.idiv, 1) := by decide +kernel
theorem dX6_unlikePairs_13 : decode cX6_unlikePairs 13 = .ok (.if_icmp .ge 73, 3) := by decide +kernel
theorem dX6_unlikePairs_16 : decode cX6_unlikePairs 16 = .ok (.aload_n 0, 1) := by decide +kernel
theorem dX6_unlikePairs_17 : decode cX6_unlikePairs 17 = .ok (.getfield 7, 3) := by decide +kernel
theorem dX6_unlikePairs_20 : decode cX6_unlikePairs 20 = .ok (.iconst 4, 1) := by decide +kernel
theorem dX6_unlikePairs_21 : decode cX6_unlikePairs 21 = .ok (.iaload, 1) := by decide +kernel
theorem dX6_unlikePairs_22 : decode cX6_unlikePairs 22 = .ok (.iconst 1, 1) := by decide +kernel
theorem dX6_unlikePairs_23 : decode cX6_unlikePairs 23 = .ok (.isub, 1) := by decide +kernel
theorem dX6_unlikePairs_24 : decode cX6_unlikePairs 24 = .ok (.iload_n 2, 1) := by decide +kernel
theorem dX6_unlikePairs_25 : decode cX6_unlikePairs 25 = .ok (.isub, 1) := by decide +kernel
theorem dX6_unlikePairs_26 : decode cX6_unlikePairs 26 = .ok (.istore_n 3, 1) := by decide +kernel
theorem dX6_unlikePairs_27 : decode cX6_unlikePairs 27 = .ok (.iload_n 1, 1) := by decide +kernel
theorem dX6_unlikePairs_28 : decode cX6_unlikePairs 28 = .ok (.aload_n 0, 1) := by decide +kernel
theorem dX6_unlikePairs_29 : decode cX6_unlikePairs 29 = .ok (.getfield 7, 3) := by decide +kernel
theorem dX6_unlikePairs_32 : decode cX6_unlikePairs 32 = .ok (.bipush 86, 2) := by decide +kernel
theorem dX6_unlikePairs_34 : decode cX6_unlikePairs 34 = .ok (.iload_n 2, 1) := by decide +kernel
theorem dX6_unlikePairs_35 : decode cX6_unlikePairs 35 = .ok (.iadd, 1) := by decide +kernel
theorem dX6_unlikePairs_36 : decode cX6_unlikePairs 36 = .ok (.iaload, 1) := by decide +kernel
theorem dX6_unlikePairs_37 : decode cX6_unlikePairs 37 = .ok (.ifCond .le 40, 3) := by decide +kernel
theorem dX6_unlikePairs_40 : decode cX6_unlikePairs 40 = .ok (.aload_n 0, 1) := by decide +kernel
theorem dX6_unlikePairs_41 : decode cX6_unlikePairs 41 = .ok (.getfield 7, 3) := by decide +kernel
theorem dX6_unlikePairs_44 : decode cX6_unlikePairs 44 = .ok (.bipush 86, 2) := by decide +kernel
theorem dX6_unlikePairs_46 : decode cX6_unlikePairs 46 = .ok (.iload_n 3, 1) := by decide +kernel
theorem dX6_unlikePairs_47 : decode cX6_unlikePairs 47 = .ok (.iadd, 1) := by decide +kernel
theorem dX6_unlikePairs_48 : decode cX6_unlikePairs 48 = .ok (.iaload, 1) := by decide +kernel
theorem dX6_unlikePairs_49 : decode cX6_unlikePairs 49 = .ok (.ifCond .le 28, 3) := by decide +kernel
theorem dX6_unlikePairs_52 : decode cX6_unlikePairs 52 = .ok (.aload_n 0, 1) := by decide +kernel
theorem dX6_unlikePairs_53 : decode cX6_unlikePairs 53 = .ok (.getfield 7, 3) := by decide +kernel
theorem dX6_unlikePairs_56 : decode cX6_unlikePairs 56 = .ok (.bipush 86, 2) := by decide +kernel
theorem dX6_unlikePairs_58 : decode cX6_unlikePairs 58 = .ok (.iload_n 2, 1) := by decide +kernel
theorem dX6_unlikePairs_59 : decode cX6_unlikePairs 59 = .ok (.iadd, 1) := by decide +kernel
theorem dX6_unlikePairs_60 : decode cX6_unlikePairs 60 = .ok (.iaload, 1) := by decide +kernel
theorem dX6_unlikePairs_61 : decode cX6_unlikePairs 61 = .ok (.aload_n 0, 1) := by decide +kernel
theorem dX6_unlikePairs_62 : decode cX6_unlikePairs 62 = .ok (.getfield 7, 3) := by decide +kernel
theorem dX6_unlikePairs_65 : decode cX6_unlikePairs 65 = .ok (.bipush 86, 2) := by decide +kernel
theorem dX6_unlikePairs_67 : decode cX6_unlikePairs 67 = .ok (.iload_n 3, 1) := by decide +kernel
theorem dX6_unlikePairs_68 : decode cX6_unlikePairs 68 = .ok (.iadd, 1) := by decide +kernel
theorem dX6_unlikePairs_69 : decode cX6_unlikePairs 69 = .ok (.iaload, 1) := by decide +kernel
theorem dX6_unlikePairs_70 : decode cX6_unlikePairs 70 = .ok (.if_icmp .eq 7, 3) := by decide +kernel
theorem dX6_unlikePairs_73 : decode cX6_unlikePairs 73 = .ok (.iconst 1, 1) := by decide +kernel
theorem dX6_unlikePairs_74 : decode cX6_unlikePairs 74 = .ok (.goto 4, 3) := by decide +kernel
theorem dX6_unlikePairs_77 : decode cX6_unlikePairs 77 = .ok (.iconst 0, 1) := by decide +kernel
theorem dX6_unlikePairs_78 : decode cX6_unlikePairs 78 = .ok (.iadd, 1) := by decide +kernel
theorem dX6_unlikePairs_79 : decode cX6_unlikePairs 79 = .ok (.istore_n 1, 1) := by decide +kernel
theorem dX6_unlikePairs_80 : decode cX6_unlikePairs 80 = .ok (.iinc 2 1, 3) := by decide +kernel
theorem dX6_unlikePairs_83 : decode cX6_unlikePairs 83 = .ok (.goto (-79), 3) := by decide +kernel
theorem dX6_unlikePairs_86 : decode cX6_unlikePairs 86 = .ok (.iload_n 1, 1) := by decide +kernel
theorem dX6_unlikePairs_87 : decode cX6_unlikePairs 87 = .ok (.ireturn, 1) := by decide +kernel
theorem dX6_unlikeReadings_0 : decode cX6_unlikeReadings 0 = .ok (.iconst 0, 1) := by decide +kernel
theorem dX6_unlikeReadings_1 : decode cX6_unlikeReadings 1 = .ok (.istore_n 1, 1) := by decide +kernel
theorem dX6_unlikeReadings_2 : decode cX6_unlikeReadings 2 = .ok (.iconst 0, 1) := by decide +kernel
theorem dX6_unlikeReadings_3 : decode cX6_unlikeReadings 3 = .ok (.istore_n 2, 1) := by decide +kernel
theorem dX6_unlikeReadings_4 : decode cX6_unlikeReadings 4 = .ok (.iload_n 2, 1) := by decide +kernel
theorem dX6_unlikeReadings_5 : decode cX6_unlikeReadings 5 = .ok (.aload_n 0, 1) := by decide +kernel
theorem dX6_unlikeReadings_6 : decode cX6_unlikeReadings 6 = .ok (.getfield 7, 3) := by decide +kernel
theorem dX6_unlikeReadings_9 : decode cX6_unlikeReadings 9 = .ok (.iconst 4, 1) := by decide +kernel
theorem dX6_unlikeReadings_10 : decode cX6_unlikeReadings 10 = .ok (.iaload, 1) := by decide +kernel
theorem dX6_unlikeReadings_11 : decode cX6_unlikeReadings 11 = .ok (.if_icmp .ge 65, 3) := by decide +kernel
theorem dX6_unlikeReadings_14 : decode cX6_unlikeReadings 14 = .ok (.aload_n 0, 1) := by decide +kernel
theorem dX6_unlikeReadings_15 : decode cX6_unlikeReadings 15 = .ok (.getfield 7, 3) := by decide +kernel
theorem dX6_unlikeReadings_18 : decode cX6_unlikeReadings 18 = .ok (.bipush 86, 2) := by decide +kernel
theorem dX6_unlikeReadings_20 : decode cX6_unlikeReadings 20 = .ok (.aload_n 0, 1) := by decide +kernel
theorem dX6_unlikeReadings_21 : decode cX6_unlikeReadings 21 = .ok (.getfield 7, 3) := by decide +kernel
theorem dX6_unlikeReadings_24 : decode cX6_unlikeReadings 24 = .ok (.iconst 4, 1) := by decide +kernel
theorem dX6_unlikeReadings_25 : decode cX6_unlikeReadings 25 = .ok (.iaload, 1) := by decide +kernel
theorem dX6_unlikeReadings_26 : decode cX6_unlikeReadings 26 = .ok (.iadd, 1) := by decide +kernel
theorem dX6_unlikeReadings_27 : decode cX6_unlikeReadings 27 = .ok (.iconst 1, 1) := by decide +kernel
theorem dX6_unlikeReadings_28 : decode cX6_unlikeReadings 28 = .ok (.isub, 1) := by decide +kernel
theorem dX6_unlikeReadings_29 : decode cX6_unlikeReadings 29 = .ok (.iload_n 2, 1) := by decide +kernel
theorem dX6_unlikeReadings_30 : decode cX6_unlikeReadings 30 = .ok (.isub, 1) := by decide +kernel
theorem dX6_unlikeReadings_31 : decode cX6_unlikeReadings 31 = .ok (.iaload, 1) := by decide +kernel
theorem dX6_unlikeReadings_32 : decode cX6_unlikeReadings 32 = .ok (.istore_n 3, 1) := by decide +kernel
theorem dX6_unlikeReadings_33 : decode cX6_unlikeReadings 33 = .ok (.iload_n 1, 1) := by decide +kernel
theorem dX6_unlikeReadings_34 : decode cX6_unlikeReadings 34 = .ok (.aload_n 0, 1) := by decide +kernel
theorem dX6_unlikeReadings_35 : decode cX6_unlikeReadings 35 = .ok (.getfield 7, 3) := by decide +kernel
theorem dX6_unlikeReadings_38 : decode cX6_unlikeReadings 38 = .ok (.bipush 86, 2) := by decide +kernel
theorem dX6_unlikeReadings_40 : decode cX6_unlikeReadings 40 = .ok (.iload_n 2, 1) := by decide +kernel
theorem dX6_unlikeReadings_41 : decode cX6_unlikeReadings 41 = .ok (.iadd, 1) := by decide +kernel
theorem dX6_unlikeReadings_42 : decode cX6_unlikeReadings 42 = .ok (.iaload, 1) := by decide +kernel
theorem dX6_unlikeReadings_43 : decode cX6_unlikeReadings 43 = .ok (.iload_n 3, 1) := by decide +kernel
theorem dX6_unlikeReadings_44 : decode cX6_unlikeReadings 44 = .ok (.if_icmp .eq 23, 3) := by decide +kernel
theorem dX6_unlikeReadings_47 : decode cX6_unlikeReadings 47 = .ok (.iload_n 3, 1) := by decide +kernel
theorem dX6_unlikeReadings_48 : decode cX6_unlikeReadings 48 = .ok (.ifCond .le 19, 3) := by decide +kernel
theorem dX6_unlikeReadings_51 : decode cX6_unlikeReadings 51 = .ok (.aload_n 0, 1) := by decide +kernel
theorem dX6_unlikeReadings_52 : decode cX6_unlikeReadings 52 = .ok (.getfield 7, 3) := by decide +kernel
theorem dX6_unlikeReadings_55 : decode cX6_unlikeReadings 55 = .ok (.bipush 86, 2) := by decide +kernel
theorem dX6_unlikeReadings_57 : decode cX6_unlikeReadings 57 = .ok (.iload_n 2, 1) := by decide +kernel
theorem dX6_unlikeReadings_58 : decode cX6_unlikeReadings 58 = .ok (.iadd, 1) := by decide +kernel
theorem dX6_unlikeReadings_59 : decode cX6_unlikeReadings 59 = .ok (.iaload, 1) := by decide +kernel
theorem dX6_unlikeReadings_60 : decode cX6_unlikeReadings 60 = .ok (.ifCond .le 7, 3) := by decide +kernel
theorem dX6_unlikeReadings_63 : decode cX6_unlikeReadings 63 = .ok (.iconst 1, 1) := by decide +kernel
theorem dX6_unlikeReadings_64 : decode cX6_unlikeReadings 64 = .ok (.goto 4, 3) := by decide +kernel
theorem dX6_unlikeReadings_67 : decode cX6_unlikeReadings 67 = .ok (.iconst 0, 1) := by decide +kernel
theorem dX6_unlikeReadings_68 : decode cX6_unlikeReadings 68 = .ok (.iadd, 1) := by decide +kernel
theorem dX6_unlikeReadings_69 : decode cX6_unlikeReadings 69 = .ok (.istore_n 1, 1) := by decide +kernel
theorem dX6_unlikeReadings_70 : decode cX6_unlikeReadings 70 = .ok (.iinc 2 1, 3) := by decide +kernel
theorem dX6_unlikeReadings_73 : decode cX6_unlikeReadings 73 = .ok (.goto (-69), 3) := by decide +kernel
theorem dX6_unlikeReadings_76 : decode cX6_unlikeReadings 76 = .ok (.iload_n 1, 1) := by decide +kernel
theorem dX6_unlikeReadings_77 : decode cX6_unlikeReadings 77 = .ok (.iconst 2, 1) := by decide +kernel
theorem dX6_unlikeReadings_78 : decode cX6_unlikeReadings 78 = .ok (.idiv, 1) := by decide +kernel
theorem dX6_unlikeReadings_79 : decode cX6_unlikeReadings 79 = .ok (.ireturn, 1) := by decide +kernel
theorem dX6_needed_0 : decode cX6_needed 0 = .ok (.iconst 0, 1) := by decide +kernel
theorem dX6_needed_1 : decode cX6_needed 1 = .ok (.istore_n 1, 1) := by decide +kernel
theorem dX6_needed_2 : decode cX6_needed 2 = .ok (.iconst 0, 1) := by decide +kernel
theorem dX6_needed_3 : decode cX6_needed 3 = .ok (.istore_n 2, 1) := by decide +kernel
theorem dX6_needed_4 : decode cX6_needed 4 = .ok (.iload_n 2, 1) := by decide +kernel
theorem dX6_needed_5 : decode cX6_needed 5 = .ok (.aload_n 0, 1) := by decide +kernel
theorem dX6_needed_6 : decode cX6_needed 6 = .ok (.getfield 7, 3) := by decide +kernel
theorem dX6_needed_9 : decode cX6_needed 9 = .ok (.iconst 4, 1) := by decide +kernel
theorem dX6_needed_10 : decode cX6_needed 10 = .ok (.iaload, 1) := by decide +kernel
theorem dX6_needed_11 : decode cX6_needed 11 = .ok (.if_icmp .ge 33, 3) := by decide +kernel
theorem dX6_needed_14 : decode cX6_needed 14 = .ok (.iload_n 1, 1) := by decide +kernel
theorem dX6_needed_15 : decode cX6_needed 15 = .ok (.aload_n 0, 1) := by decide +kernel
theorem dX6_needed_16 : decode cX6_needed 16 = .ok (.getfield 7, 3) := by decide +kernel
theorem dX6_needed_19 : decode cX6_needed 19 = .ok (.bipush 86, 2) := by decide +kernel
theorem dX6_needed_21 : decode cX6_needed 21 = .ok (.iload_n 2, 1) := by decide +kernel
theorem dX6_needed_22 : decode cX6_needed 22 = .ok (.iadd, 1) := by decide +kernel
theorem dX6_needed_23 : decode cX6_needed 23 = .ok (.iaload, 1) := by decide +kernel
theorem dX6_needed_24 : decode cX6_needed 24 = .ok (.ifCond .ne 11, 3) := by decide +kernel
theorem dX6_needed_27 : decode cX6_needed 27 = .ok (.aload_n 0, 1) := by decide +kernel
theorem dX6_needed_28 : decode cX6_needed 28 = .ok (.iload_n 2, 1) := by decide +kernel
theorem dX6_needed_29 : decode cX6_needed 29 = .ok (.invokevirtual 46, 3) := by decide +kernel
theorem dX6_needed_32 : decode cX6_needed 32 = .ok (.goto 4, 3) := by decide +kernel
theorem dX6_needed_35 : decode cX6_needed 35 = .ok (.iconst 0, 1) := by decide +kernel
theorem dX6_needed_36 : decode cX6_needed 36 = .ok (.iadd, 1) := by decide +kernel
theorem dX6_needed_37 : decode cX6_needed 37 = .ok (.istore_n 1, 1) := by decide +kernel
theorem dX6_needed_38 : decode cX6_needed 38 = .ok (.iinc 2 1, 3) := by decide +kernel
theorem dX6_needed_41 : decode cX6_needed 41 = .ok (.goto (-37), 3) := by decide +kernel
theorem dX6_needed_44 : decode cX6_needed 44 = .ok (.iload_n 1, 1) := by decide +kernel
theorem dX6_needed_45 : decode cX6_needed 45 = .ok (.i2d, 1) := by decide +kernel
theorem dX6_needed_46 : decode cX6_needed 46 = .ok (.ldc2_w 131, 3) := by decide +kernel
theorem dX6_needed_49 : decode cX6_needed 49 = .ok (.ddiv, 1) := by decide +kernel
theorem dX6_needed_50 : decode cX6_needed 50 = .ok (.dreturn, 1) := by decide +kernel
theorem dX6_bestPace_0 : decode cX6_bestPace 0 = .ok (.iload_n 1, 1) := by decide +kernel
theorem dX6_bestPace_1 : decode cX6_bestPace 1 = .ok (.invokestatic 90, 3) := by decide +kernel
theorem dX6_bestPace_4 : decode cX6_bestPace 4 = .ok (.ifCond .ne 5, 3) := by decide +kernel
theorem dX6_bestPace_7 : decode cX6_bestPace 7 = .ok (.iconst (-1), 1) := by decide +kernel
theorem dX6_bestPace_8 : decode cX6_bestPace 8 = .ok (.ireturn, 1) := by decide +kernel
theorem dX6_bestPace_9 : decode cX6_bestPace 9 = .ok (.aload_n 0, 1) := by decide +kernel
theorem dX6_bestPace_10 : decode cX6_bestPace 10 = .ok (.invokevirtual 141, 3) := by decide +kernel
theorem dX6_bestPace_13 : decode cX6_bestPace 13 = .ok (.ifCond .eq 6, 3) := by decide +kernel
theorem dX6_bestPace_16 : decode cX6_bestPace 16 = .ok (.bipush (-5), 2) := by decide +kernel
theorem dX6_bestPace_18 : decode cX6_bestPace 18 = .ok (.ireturn, 1) := by decide +kernel
theorem dX6_bestPace_19 : decode cX6_bestPace 19 = .ok (.aload_n 0, 1) := by decide +kernel
theorem dX6_bestPace_20 : decode cX6_bestPace 20 = .ok (.getfield 7, 3) := by decide +kernel
theorem dX6_bestPace_23 : decode cX6_bestPace 23 = .ok (.bipush 12, 2) := by decide +kernel
theorem dX6_bestPace_25 : decode cX6_bestPace 25 = .ok (.iload_n 1, 1) := by decide +kernel
theorem dX6_bestPace_26 : decode cX6_bestPace 26 = .ok (.iadd, 1) := by decide +kernel
theorem dX6_bestPace_27 : decode cX6_bestPace 27 = .ok (.iaload, 1) := by decide +kernel
theorem dX6_bestPace_28 : decode cX6_bestPace 28 = .ok (.istore_n 2, 1) := by decide +kernel
theorem dX6_bestPace_29 : decode cX6_bestPace 29 = .ok (.bipush (-5), 2) := by decide +kernel
theorem dX6_bestPace_31 : decode cX6_bestPace 31 = .ok (.istore_n 3, 1) := by decide +kernel
theorem dX6_bestPace_32 : decode cX6_bestPace 32 = .ok (.sipush 2001, 3) := by decide +kernel
theorem dX6_bestPace_35 : decode cX6_bestPace 35 = .ok (.istore 4, 2) := by decide +kernel
theorem dX6_bestPace_37 : decode cX6_bestPace 37 = .ok (.bipush 9, 2) := by decide +kernel
theorem dX6_bestPace_39 : decode cX6_bestPace 39 = .ok (.istore 5, 2) := by decide +kernel
theorem dX6_bestPace_41 : decode cX6_bestPace 41 = .ok (.iload 5, 2) := by decide +kernel
theorem dX6_bestPace_43 : decode cX6_bestPace 43 = .ok (.ifCond .le 70, 3) := by decide +kernel
theorem dX6_bestPace_46 : decode cX6_bestPace 46 = .ok (.aload_n 0, 1) := by decide +kernel
theorem dX6_bestPace_47 : decode cX6_bestPace 47 = .ok (.getfield 7, 3) := by decide +kernel
theorem dX6_bestPace_50 : decode cX6_bestPace 50 = .ok (.bipush 12, 2) := by decide +kernel
theorem dX6_bestPace_52 : decode cX6_bestPace 52 = .ok (.iload_n 1, 1) := by decide +kernel
theorem dX6_bestPace_53 : decode cX6_bestPace 53 = .ok (.iadd, 1) := by decide +kernel
theorem dX6_bestPace_54 : decode cX6_bestPace 54 = .ok (.iload 5, 2) := by decide +kernel
theorem dX6_bestPace_56 : decode cX6_bestPace 56 = .ok (.iastore, 1) := by decide +kernel
theorem dX6_bestPace_57 : decode cX6_bestPace 57 = .ok (.aload_n 0, 1) := by decide +kernel
theorem dX6_bestPace_58 : decode cX6_bestPace 58 = .ok (.invokevirtual 144, 3) := by decide +kernel
theorem dX6_bestPace_61 : decode cX6_bestPace 61 = .ok (.istore 6, 2) := by decide +kernel
theorem dX6_bestPace_63 : decode cX6_bestPace 63 = .ok (.iload 6, 2) := by decide +kernel
theorem dX6_bestPace_65 : decode cX6_bestPace 65 = .ok (.bipush (-5), 2) := by decide +kernel
theorem dX6_bestPace_67 : decode cX6_bestPace 67 = .ok (.if_icmp .eq 15, 3) := by decide +kernel
theorem dX6_bestPace_70 : decode cX6_bestPace 70 = .ok (.iload 6, 2) := by decide +kernel
theorem dX6_bestPace_72 : decode cX6_bestPace 72 = .ok (.iload 4, 2) := by decide +kernel
theorem dX6_bestPace_74 : decode cX6_bestPace 74 = .ok (.if_icmp .ge 8, 3) := by decide +kernel
theorem dX6_bestPace_77 : decode cX6_bestPace 77 = .ok (.iload 5, 2) := by decide +kernel
theorem dX6_bestPace_79 : decode cX6_bestPace 79 = .ok (.goto 4, 3) := by decide +kernel
theorem dX6_bestPace_82 : decode cX6_bestPace 82 = .ok (.iload_n 3, 1) := by decide +kernel
theorem dX6_bestPace_83 : decode cX6_bestPace 83 = .ok (.istore_n 3, 1) := by decide +kernel
theorem dX6_bestPace_84 : decode cX6_bestPace 84 = .ok (.iload 6, 2) := by decide +kernel
theorem dX6_bestPace_86 : decode cX6_bestPace 86 = .ok (.bipush (-5), 2) := by decide +kernel
theorem dX6_bestPace_88 : decode cX6_bestPace 88 = .ok (.if_icmp .eq 15, 3) := by decide +kernel
theorem dX6_bestPace_91 : decode cX6_bestPace 91 = .ok (.iload 6, 2) := by decide +kernel
theorem dX6_bestPace_93 : decode cX6_bestPace 93 = .ok (.iload 4, 2) := by decide +kernel
theorem dX6_bestPace_95 : decode cX6_bestPace 95 = .ok (.if_icmp .ge 8, 3) := by decide +kernel
theorem dX6_bestPace_98 : decode cX6_bestPace 98 = .ok (.iload 6, 2) := by decide +kernel
theorem dX6_bestPace_100 : decode cX6_bestPace 100 = .ok (.goto 5, 3) := by decide +kernel
theorem dX6_bestPace_103 : decode cX6_bestPace 103 = .ok (.iload 4, 2) := by decide +kernel
theorem dX6_bestPace_105 : decode cX6_bestPace 105 = .ok (.istore 4, 2) := by decide +kernel
theorem dX6_bestPace_107 : decode cX6_bestPace 107 = .ok (.iinc 5 (-1), 3) := by decide +kernel
theorem dX6_bestPace_110 : decode cX6_bestPace 110 = .ok (.goto (-69), 3) := by decide +kernel
theorem dX6_bestPace_113 : decode cX6_bestPace 113 = .ok (.aload_n 0, 1) := by decide +kernel
theorem dX6_bestPace_114 : decode cX6_bestPace 114 = .ok (.getfield 7, 3) := by decide +kernel
theorem dX6_bestPace_117 : decode cX6_bestPace 117 = .ok (.bipush 12, 2) := by decide +kernel
theorem dX6_bestPace_119 : decode cX6_bestPace 119 = .ok (.iload_n 1, 1) := by decide +kernel
theorem dX6_bestPace_120 : decode cX6_bestPace 120 = .ok (.iadd, 1) := by decide +kernel
theorem dX6_bestPace_121 : decode cX6_bestPace 121 = .ok (.iload_n 2, 1) := by decide +kernel
theorem dX6_bestPace_122 : decode cX6_bestPace 122 = .ok (.iastore, 1) := by decide +kernel
theorem dX6_bestPace_123 : decode cX6_bestPace 123 = .ok (.iload_n 3, 1) := by decide +kernel
theorem dX6_bestPace_124 : decode cX6_bestPace 124 = .ok (.ireturn, 1) := by decide +kernel
theorem dX6_places_0 : decode cX6_places 0 = .ok (.iconst 0, 1) := by decide +kernel
theorem dX6_places_1 : decode cX6_places 1 = .ok (.istore_n 2, 1) := by decide +kernel
theorem dX6_places_2 : decode cX6_places 2 = .ok (.iconst 0, 1) := by decide +kernel
theorem dX6_places_3 : decode cX6_places 3 = .ok (.istore_n 3, 1) := by decide +kernel
theorem dX6_places_4 : decode cX6_places 4 = .ok (.iload_n 3, 1) := by decide +kernel
theorem dX6_places_5 : decode cX6_places 5 = .ok (.aload_n 0, 1) := by decide +kernel
theorem dX6_places_6 : decode cX6_places 6 = .ok (.getfield 7, 3) := by decide +kernel
theorem dX6_places_9 : decode cX6_places 9 = .ok (.iconst 4, 1) := by decide +kernel
theorem dX6_places_10 : decode cX6_places 10 = .ok (.iaload, 1) := by decide +kernel
theorem dX6_places_11 : decode cX6_places 11 = .ok (.if_icmp .ge 108, 3) := by decide +kernel
theorem dX6_places_14 : decode cX6_places 14 = .ok (.iload_n 1, 1) := by decide +kernel
theorem dX6_places_15 : decode cX6_places 15 = .ok (.ifCond .ne 23, 3) := by decide +kernel
theorem dX6_places_18 : decode cX6_places 18 = .ok (.aload_n 0, 1) := by decide +kernel
theorem dX6_places_19 : decode cX6_places 19 = .ok (.getfield 7, 3) := by decide +kernel
theorem dX6_places_22 : decode cX6_places 22 = .ok (.bipush 86, 2) := by decide +kernel
theorem dX6_places_24 : decode cX6_places 24 = .ok (.iload_n 3, 1) := by decide +kernel
theorem dX6_places_25 : decode cX6_places 25 = .ok (.iadd, 1) := by decide +kernel
theorem dX6_places_26 : decode cX6_places 26 = .ok (.iaload, 1) := by decide +kernel
theorem dX6_places_27 : decode cX6_places 27 = .ok (.ifCond .le 7, 3) := by decide +kernel
theorem dX6_places_30 : decode cX6_places 30 = .ok (.iconst 1, 1) := by decide +kernel
theorem dX6_places_31 : decode cX6_places 31 = .ok (.goto 67, 3) := by decide +kernel
theorem dX6_places_34 : decode cX6_places 34 = .ok (.iconst 0, 1) := by decide +kernel
theorem dX6_places_35 : decode cX6_places 35 = .ok (.goto 63, 3) := by decide +kernel
theorem dX6_places_38 : decode cX6_places 38 = .ok (.iload_n 1, 1) := by decide +kernel
theorem dX6_places_39 : decode cX6_places 39 = .ok (.iconst 1, 1) := by decide +kernel
theorem dX6_places_40 : decode cX6_places 40 = .ok (.if_icmp .ne 24, 3) := by decide +kernel
theorem dX6_places_43 : decode cX6_places 43 = .ok (.aload_n 0, 1) := by decide +kernel
theorem dX6_places_44 : decode cX6_places 44 = .ok (.getfield 7, 3) := by decide +kernel
theorem dX6_places_47 : decode cX6_places 47 = .ok (.bipush 126, 2) := by decide +kernel
theorem dX6_places_49 : decode cX6_places 49 = .ok (.iload_n 3, 1) := by decide +kernel
theorem dX6_places_50 : decode cX6_places 50 = .ok (.iadd, 1) := by decide +kernel
theorem dX6_places_51 : decode cX6_places 51 = .ok (.iaload, 1) := by decide +kernel
theorem dX6_places_52 : decode cX6_places 52 = .ok (.iconst 1, 1) := by decide +kernel
theorem dX6_places_53 : decode cX6_places 53 = .ok (.if_icmp .ne 7, 3) := by decide +kernel
theorem dX6_places_56 : decode cX6_places 56 = .ok (.iconst 1, 1) := by decide +kernel
theorem dX6_places_57 : decode cX6_places 57 = .ok (.goto 41, 3) := by decide +kernel
theorem dX6_places_60 : decode cX6_places 60 = .ok (.iconst 0, 1) := by decide +kernel
theorem dX6_places_61 : decode cX6_places 61 = .ok (.goto 37, 3) := by decide +kernel
theorem dX6_places_64 : decode cX6_places 64 = .ok (.aload_n 0, 1) := by decide +kernel
theorem dX6_places_65 : decode cX6_places 65 = .ok (.getfield 7, 3) := by decide +kernel
theorem dX6_places_68 : decode cX6_places 68 = .ok (.bipush 86, 2) := by decide +kernel
theorem dX6_places_70 : decode cX6_places 70 = .ok (.iload_n 3, 1) := by decide +kernel
theorem dX6_places_71 : decode cX6_places 71 = .ok (.iadd, 1) := by decide +kernel
theorem dX6_places_72 : decode cX6_places 72 = .ok (.iaload, 1) := by decide +kernel
theorem dX6_places_73 : decode cX6_places 73 = .ok (.ifCond .le 24, 3) := by decide +kernel
theorem dX6_places_76 : decode cX6_places 76 = .ok (.aload_n 0, 1) := by decide +kernel
theorem dX6_places_77 : decode cX6_places 77 = .ok (.getfield 7, 3) := by decide +kernel
theorem dX6_places_80 : decode cX6_places 80 = .ok (.bipush 86, 2) := by decide +kernel
theorem dX6_places_82 : decode cX6_places 82 = .ok (.iload_n 3, 1) := by decide +kernel
theorem dX6_places_83 : decode cX6_places 83 = .ok (.iadd, 1) := by decide +kernel
theorem dX6_places_84 : decode cX6_places 84 = .ok (.iaload, 1) := by decide +kernel
theorem dX6_places_85 : decode cX6_places 85 = .ok (.aload_n 0, 1) := by decide +kernel
theorem dX6_places_86 : decode cX6_places 86 = .ok (.iload_n 3, 1) := by decide +kernel
theorem dX6_places_87 : decode cX6_places 87 = .ok (.invokevirtual 39, 3) := by decide +kernel
theorem dX6_places_90 : decode cX6_places 90 = .ok (.if_icmp .eq 7, 3) := by decide +kernel
theorem dX6_places_93 : decode cX6_places 93 = .ok (.iconst 1, 1) := by decide +kernel
theorem dX6_places_94 : decode cX6_places 94 = .ok (.goto 4, 3) := by decide +kernel
theorem dX6_places_97 : decode cX6_places 97 = .ok (.iconst 0, 1) := by decide +kernel
theorem dX6_places_98 : decode cX6_places 98 = .ok (.istore 4, 2) := by decide +kernel
theorem dX6_places_100 : decode cX6_places 100 = .ok (.iload_n 2, 1) := by decide +kernel
theorem dX6_places_101 : decode cX6_places 101 = .ok (.iload 4, 2) := by decide +kernel
theorem dX6_places_103 : decode cX6_places 103 = .ok (.ifCond .eq 7, 3) := by decide +kernel
theorem dX6_places_106 : decode cX6_places 106 = .ok (.iconst 1, 1) := by decide +kernel
theorem dX6_places_107 : decode cX6_places 107 = .ok (.goto 4, 3) := by decide +kernel
theorem dX6_places_110 : decode cX6_places 110 = .ok (.iconst 0, 1) := by decide +kernel
theorem dX6_places_111 : decode cX6_places 111 = .ok (.iadd, 1) := by decide +kernel
theorem dX6_places_112 : decode cX6_places 112 = .ok (.istore_n 2, 1) := by decide +kernel
theorem dX6_places_113 : decode cX6_places 113 = .ok (.iinc 3 1, 3) := by decide +kernel
theorem dX6_places_116 : decode cX6_places 116 = .ok (.goto (-112), 3) := by decide +kernel
theorem dX6_places_119 : decode cX6_places 119 = .ok (.iload_n 2, 1) := by decide +kernel
theorem dX6_places_120 : decode cX6_places 120 = .ok (.ireturn, 1) := by decide +kernel
theorem dX6_count_0 : decode cX6_count 0 = .ok (.iload_n 1, 1) := by decide +kernel
theorem dX6_count_1 : decode cX6_count 1 = .ok (.tableswitch 126 0 13 #[71, 71, 80, 80, 80, 88, 93, 93, 93, 106, 106, 106, 116, 121], 71) := by decide +kernel
theorem dX6_count_72 : decode cX6_count 72 = .ok (.aload_n 0, 1) := by decide +kernel
theorem dX6_count_73 : decode cX6_count 73 = .ok (.getfield 7, 3) := by decide +kernel
theorem dX6_count_76 : decode cX6_count 76 = .ok (.iconst 3, 1) := by decide +kernel
theorem dX6_count_77 : decode cX6_count 77 = .ok (.iload_n 1, 1) := by decide +kernel
theorem dX6_count_78 : decode cX6_count 78 = .ok (.iadd, 1) := by decide +kernel
theorem dX6_count_79 : decode cX6_count 79 = .ok (.iaload, 1) := by decide +kernel
theorem dX6_count_80 : decode cX6_count 80 = .ok (.ireturn, 1) := by decide +kernel
theorem dX6_count_81 : decode cX6_count 81 = .ok (.aload_n 0, 1) := by decide +kernel
theorem dX6_count_82 : decode cX6_count 82 = .ok (.iload_n 1, 1) := by decide +kernel
theorem dX6_count_83 : decode cX6_count 83 = .ok (.iconst 2, 1) := by decide +kernel
theorem dX6_count_84 : decode cX6_count 84 = .ok (.isub, 1) := by decide +kernel
theorem dX6_count_85 : decode cX6_count 85 = .ok (.invokevirtual 147, 3) := by decide +kernel
theorem dX6_count_88 : decode cX6_count 88 = .ok (.ireturn, 1) := by decide +kernel
theorem dX6_count_89 : decode cX6_count 89 = .ok (.aload_n 0, 1) := by decide +kernel
theorem dX6_count_90 : decode cX6_count 90 = .ok (.invokevirtual 87, 3) := by decide +kernel
theorem dX6_count_93 : decode cX6_count 93 = .ok (.ireturn, 1) := by decide +kernel
theorem dX6_count_94 : decode cX6_count 94 = .ok (.aload_n 0, 1) := by decide +kernel
theorem dX6_count_95 : decode cX6_count 95 = .ok (.getfield 7, 3) := by decide +kernel
theorem dX6_count_98 : decode cX6_count 98 = .ok (.bipush 9, 2) := by decide +kernel
theorem dX6_count_100 : decode cX6_count 100 = .ok (.iload_n 1, 1) := by decide +kernel
theorem dX6_count_101 : decode cX6_count 101 = .ok (.iadd, 1) := by decide +kernel
theorem dX6_count_102 : decode cX6_count 102 = .ok (.bipush 6, 2) := by decide +kernel
theorem dX6_count_104 : decode cX6_count 104 = .ok (.isub, 1) := by decide +kernel
theorem dX6_count_105 : decode cX6_count 105 = .ok (.iaload, 1) := by decide +kernel
theorem dX6_count_106 : decode cX6_count 106 = .ok (.ireturn, 1) := by decide +kernel
theorem dX6_count_107 : decode cX6_count 107 = .ok (.aload_n 0, 1) := by decide +kernel
theorem dX6_count_108 : decode cX6_count 108 = .ok (.getfield 7, 3) := by decide +kernel
theorem dX6_count_111 : decode cX6_count 111 = .ok (.iload_n 1, 1) := by decide +kernel
theorem dX6_count_112 : decode cX6_count 112 = .ok (.bipush 9, 2) := by decide +kernel
theorem dX6_count_114 : decode cX6_count 114 = .ok (.isub, 1) := by decide +kernel
theorem dX6_count_115 : decode cX6_count 115 = .ok (.iaload, 1) := by decide +kernel
theorem dX6_count_116 : decode cX6_count 116 = .ok (.ireturn, 1) := by decide +kernel
theorem dX6_count_117 : decode cX6_count 117 = .ok (.aload_n 0, 1) := by decide +kernel
theorem dX6_count_118 : decode cX6_count 118 = .ok (.getfield 31, 3) := by decide +kernel
theorem dX6_count_121 : decode cX6_count 121 = .ok (.ireturn, 1) := by decide +kernel
theorem dX6_count_122 : decode cX6_count 122 = .ok (.aload_n 0, 1) := by decide +kernel
theorem dX6_count_123 : decode cX6_count 123 = .ok (.getfield 109, 3) := by decide +kernel
theorem dX6_count_126 : decode cX6_count 126 = .ok (.ireturn, 1) := by decide +kernel
theorem dX6_count_127 : decode cX6_count 127 = .ok (.bipush (-2), 2) := by decide +kernel
theorem dX6_count_129 : decode cX6_count 129 = .ok (.ireturn, 1) := by decide +kernel
theorem dL_law_0 : decode cL_law 0 = .ok (.new 7, 3) := by decide +kernel
theorem dL_law_3 : decode cL_law 3 = .ok (.dup, 1) := by decide +kernel
theorem dL_law_4 : decode cL_law 4 = .ok (.invokespecial 9, 3) := by decide +kernel
theorem dL_law_7 : decode cL_law 7 = .ok (.astore_n 1, 1) := by decide +kernel
theorem dL_law_8 : decode cL_law 8 = .ok (.new 10, 3) := by decide +kernel
theorem dL_law_11 : decode cL_law 11 = .ok (.dup, 1) := by decide +kernel
theorem dL_law_12 : decode cL_law 12 = .ok (.invokespecial 12, 3) := by decide +kernel
theorem dL_law_15 : decode cL_law 15 = .ok (.astore_n 2, 1) := by decide +kernel
theorem dL_law_16 : decode cL_law 16 = .ok (.iconst 0, 1) := by decide +kernel
theorem dL_law_17 : decode cL_law 17 = .ok (.istore_n 3, 1) := by decide +kernel
theorem dL_law_18 : decode cL_law 18 = .ok (.iload_n 3, 1) := by decide +kernel
theorem dL_law_19 : decode cL_law 19 = .ok (.aload_n 0, 1) := by decide +kernel
theorem dL_law_20 : decode cL_law 20 = .ok (.arraylength, 1) := by decide +kernel
theorem dL_law_21 : decode cL_law 21 = .ok (.iconst 3, 1) := by decide +kernel
theorem dL_law_22 : decode cL_law 22 = .ok (.isub, 1) := by decide +kernel
theorem dL_law_23 : decode cL_law 23 = .ok (.if_icmp .gt 643, 3) := by decide +kernel
theorem dL_law_26 : decode cL_law 26 = .ok (.aload_n 0, 1) := by decide +kernel
theorem dL_law_27 : decode cL_law 27 = .ok (.iload_n 3, 1) := by decide +kernel
theorem dL_law_28 : decode cL_law 28 = .ok (.iaload, 1) := by decide +kernel
theorem dL_law_29 : decode cL_law 29 = .ok (.bipush 31, 2) := by decide +kernel
theorem dL_law_31 : decode cL_law 31 = .ok (.iand, 1) := by decide +kernel
theorem dL_law_32 : decode cL_law 32 = .ok (.tableswitch 628 0 21 #[104, 117, 150, 173, 206, 229, 262, 285, 310, 323, 336, 349, 362, 395, 428, 479, 502, 515, 528, 541, 582, 605], 104) := by decide +kernel
theorem dL_law_136 : decode cL_law 136 = .ok (.aload_n 1, 1) := by decide +kernel
theorem dL_law_137 : decode cL_law 137 = .ok (.invokevirtual 13, 3) := by decide +kernel
theorem dL_law_140 : decode cL_law 140 = .ok (.aload_n 2, 1) := by decide +kernel
theorem dL_law_141 : decode cL_law 141 = .ok (.invokevirtual 17, 3) := by decide +kernel
theorem dL_law_144 : decode cL_law 144 = .ok (.if_icmp .eq 516, 3) := by decide +kernel
theorem dL_law_147 : decode cL_law 147 = .ok (.iconst 0, 1) := by decide +kernel
theorem dL_law_148 : decode cL_law 148 = .ok (.ireturn, 1) := by decide +kernel
theorem dL_law_149 : decode cL_law 149 = .ok (.aload_n 1, 1) := by decide +kernel
theorem dL_law_150 : decode cL_law 150 = .ok (.aload_n 0, 1) := by decide +kernel
theorem dL_law_151 : decode cL_law 151 = .ok (.iload_n 3, 1) := by decide +kernel
theorem dL_law_152 : decode cL_law 152 = .ok (.iconst 1, 1) := by decide +kernel
theorem dL_law_153 : decode cL_law 153 = .ok (.iadd, 1) := by decide +kernel
theorem dL_law_154 : decode cL_law 154 = .ok (.iaload, 1) := by decide +kernel
theorem dL_law_155 : decode cL_law 155 = .ok (.aload_n 0, 1) := by decide +kernel
theorem dL_law_156 : decode cL_law 156 = .ok (.iload_n 3, 1) := by decide +kernel
theorem dL_law_157 : decode cL_law 157 = .ok (.iconst 2, 1) := by decide +kernel
theorem dL_law_158 : decode cL_law 158 = .ok (.iadd, 1) := by decide +kernel
theorem dL_law_159 : decode cL_law 159 = .ok (.iaload, 1) := by decide +kernel
theorem dL_law_160 : decode cL_law 160 = .ok (.invokevirtual 18, 3) := by decide +kernel
theorem dL_law_163 : decode cL_law 163 = .ok (.aload_n 2, 1) := by decide +kernel
theorem dL_law_164 : decode cL_law 164 = .ok (.aload_n 0, 1) := by decide +kernel
theorem dL_law_165 : decode cL_law 165 = .ok (.iload_n 3, 1) := by decide +kernel
theorem dL_law_166 : decode cL_law 166 = .ok (.iconst 1, 1) := by decide +kernel
theorem dL_law_167 : decode cL_law 167 = .ok (.iadd, 1) := by decide +kernel
theorem dL_law_168 : decode cL_law 168 = .ok (.iaload, 1) := by decide +kernel
theorem dL_law_169 : decode cL_law 169 = .ok (.aload_n 0, 1) := by decide +kernel
theorem dL_law_170 : decode cL_law 170 = .ok (.iload_n 3, 1) := by decide +kernel
theorem dL_law_171 : decode cL_law 171 = .ok (.iconst 2, 1) := by decide +kernel
theorem dL_law_172 : decode cL_law 172 = .ok (.iadd, 1) := by decide +kernel
theorem dL_law_173 : decode cL_law 173 = .ok (.iaload, 1) := by decide +kernel
theorem dL_law_174 : decode cL_law 174 = .ok (.invokevirtual 22, 3) := by decide +kernel
theorem dL_law_177 : decode cL_law 177 = .ok (.if_icmp .eq 483, 3) := by decide +kernel
theorem dL_law_180 : decode cL_law 180 = .ok (.iconst 0, 1) := by decide +kernel
theorem dL_law_181 : decode cL_law 181 = .ok (.ireturn, 1) := by decide +kernel
theorem dL_law_182 : decode cL_law 182 = .ok (.aload_n 1, 1) := by decide +kernel
theorem dL_law_183 : decode cL_law 183 = .ok (.aload_n 0, 1) := by decide +kernel
theorem dL_law_184 : decode cL_law 184 = .ok (.iload_n 3, 1) := by decide +kernel
theorem dL_law_185 : decode cL_law 185 = .ok (.iconst 1, 1) := by decide +kernel
theorem dL_law_186 : decode cL_law 186 = .ok (.iadd, 1) := by decide +kernel
theorem dL_law_187 : decode cL_law 187 = .ok (.iaload, 1) := by decide +kernel
theorem dL_law_188 : decode cL_law 188 = .ok (.invokevirtual 23, 3) := by decide +kernel
theorem dL_law_191 : decode cL_law 191 = .ok (.aload_n 2, 1) := by decide +kernel
theorem dL_law_192 : decode cL_law 192 = .ok (.aload_n 0, 1) := by decide +kernel
theorem dL_law_193 : decode cL_law 193 = .ok (.iload_n 3, 1) := by decide +kernel
theorem dL_law_194 : decode cL_law 194 = .ok (.iconst 1, 1) := by decide +kernel
theorem dL_law_195 : decode cL_law 195 = .ok (.iadd, 1) := by decide +kernel
theorem dL_law_196 : decode cL_law 196 = .ok (.iaload, 1) := by decide +kernel
theorem dL_law_197 : decode cL_law 197 = .ok (.invokevirtual 27, 3) := by decide +kernel
theorem dL_law_200 : decode cL_law 200 = .ok (.if_icmp .eq 460, 3) := by decide +kernel
theorem dL_law_203 : decode cL_law 203 = .ok (.iconst 0, 1) := by decide +kernel
theorem dL_law_204 : decode cL_law 204 = .ok (.ireturn, 1) := by decide +kernel
theorem dL_law_205 : decode cL_law 205 = .ok (.aload_n 1, 1) := by decide +kernel
theorem dL_law_206 : decode cL_law 206 = .ok (.aload_n 0, 1) := by decide +kernel
theorem dL_law_207 : decode cL_law 207 = .ok (.iload_n 3, 1) := by decide +kernel
theorem dL_law_208 : decode cL_law 208 = .ok (.iconst 1, 1) := by decide +kernel
theorem dL_law_209 : decode cL_law 209 = .ok (.iadd, 1) := by decide +kernel
theorem dL_law_210 : decode cL_law 210 = .ok (.iaload, 1) := by decide +kernel
theorem dL_law_211 : decode cL_law 211 = .ok (.aload_n 0, 1) := by decide +kernel
theorem dL_law_212 : decode cL_law 212 = .ok (.iload_n 3, 1) := by decide +kernel
theorem dL_law_213 : decode cL_law 213 = .ok (.iconst 2, 1) := by decide +kernel
theorem dL_law_214 : decode cL_law 214 = .ok (.iadd, 1) := by decide +kernel
theorem dL_law_215 : decode cL_law 215 = .ok (.iaload, 1) := by decide +kernel
theorem dL_law_216 : decode cL_law 216 = .ok (.invokevirtual 28, 3) := by decide +kernel
theorem dL_law_219 : decode cL_law 219 = .ok (.aload_n 2, 1) := by decide +kernel
theorem dL_law_220 : decode cL_law 220 = .ok (.aload_n 0, 1) := by decide +kernel
theorem dL_law_221 : decode cL_law 221 = .ok (.iload_n 3, 1) := by decide +kernel
theorem dL_law_222 : decode cL_law 222 = .ok (.iconst 1, 1) := by decide +kernel
theorem dL_law_223 : decode cL_law 223 = .ok (.iadd, 1) := by decide +kernel
theorem dL_law_224 : decode cL_law 224 = .ok (.iaload, 1) := by decide +kernel
theorem dL_law_225 : decode cL_law 225 = .ok (.aload_n 0, 1) := by decide +kernel
theorem dL_law_226 : decode cL_law 226 = .ok (.iload_n 3, 1) := by decide +kernel
theorem dL_law_227 : decode cL_law 227 = .ok (.iconst 2, 1) := by decide +kernel
theorem dL_law_228 : decode cL_law 228 = .ok (.iadd, 1) := by decide +kernel
theorem dL_law_229 : decode cL_law 229 = .ok (.iaload, 1) := by decide +kernel
theorem dL_law_230 : decode cL_law 230 = .ok (.invokevirtual 31, 3) := by decide +kernel
theorem dL_law_233 : decode cL_law 233 = .ok (.if_icmp .eq 427, 3) := by decide +kernel
theorem dL_law_236 : decode cL_law 236 = .ok (.iconst 0, 1) := by decide +kernel
theorem dL_law_237 : decode cL_law 237 = .ok (.ireturn, 1) := by decide +kernel
theorem dL_law_238 : decode cL_law 238 = .ok (.aload_n 1, 1) := by decide +kernel
theorem dL_law_239 : decode cL_law 239 = .ok (.aload_n 0, 1) := by decide +kernel
theorem dL_law_240 : decode cL_law 240 = .ok (.iload_n 3, 1) := by decide +kernel
theorem dL_law_241 : decode cL_law 241 = .ok (.iconst 1, 1) := by decide +kernel
theorem dL_law_242 : decode cL_law 242 = .ok (.iadd, 1) := by decide +kernel
theorem dL_law_243 : decode cL_law 243 = .ok (.iaload, 1) := by decide +kernel
theorem dL_law_244 : decode cL_law 244 = .ok (.invokevirtual 32, 3) := by decide +kernel
theorem dL_law_247 : decode cL_law 247 = .ok (.aload_n 2, 1) := by decide +kernel
theorem dL_law_248 : decode cL_law 248 = .ok (.aload_n 0, 1) := by decide +kernel
theorem dL_law_249 : decode cL_law 249 = .ok (.iload_n 3, 1) := by decide +kernel
theorem dL_law_250 : decode cL_law 250 = .ok (.iconst 1, 1) := by decide +kernel
theorem dL_law_251 : decode cL_law 251 = .ok (.iadd, 1) := by decide +kernel
theorem dL_law_252 : decode cL_law 252 = .ok (.iaload, 1) := by decide +kernel
theorem dL_law_253 : decode cL_law 253 = .ok (.invokevirtual 35, 3) := by decide +kernel
theorem dL_law_256 : decode cL_law 256 = .ok (.if_icmp .eq 404, 3) := by decide +kernel
theorem dL_law_259 : decode cL_law 259 = .ok (.iconst 0, 1) := by decide +kernel
theorem dL_law_260 : decode cL_law 260 = .ok (.ireturn, 1) := by decide +kernel
theorem dL_law_261 : decode cL_law 261 = .ok (.aload_n 1, 1) := by decide +kernel
theorem dL_law_262 : decode cL_law 262 = .ok (.aload_n 0, 1) := by decide +kernel
theorem dL_law_263 : decode cL_law 263 = .ok (.iload_n 3, 1) := by decide +kernel
theorem dL_law_264 : decode cL_law 264 = .ok (.iconst 1, 1) := by decide +kernel
theorem dL_law_265 : decode cL_law 265 = .ok (.iadd, 1) := by decide +kernel
theorem dL_law_266 : decode cL_law 266 = .ok (.iaload, 1) := by decide +kernel
theorem dL_law_267 : decode cL_law 267 = .ok (.aload_n 0, 1) := by decide +kernel
theorem dL_law_268 : decode cL_law 268 = .ok (.iload_n 3, 1) := by decide +kernel
theorem dL_law_269 : decode cL_law 269 = .ok (.iconst 2, 1) := by decide +kernel
theorem dL_law_270 : decode cL_law 270 = .ok (.iadd, 1) := by decide +kernel
theorem dL_law_271 : decode cL_law 271 = .ok (.iaload, 1) := by decide +kernel
theorem dL_law_272 : decode cL_law 272 = .ok (.invokevirtual 36, 3) := by decide +kernel
theorem dL_law_275 : decode cL_law 275 = .ok (.aload_n 2, 1) := by decide +kernel
theorem dL_law_276 : decode cL_law 276 = .ok (.aload_n 0, 1) := by decide +kernel
theorem dL_law_277 : decode cL_law 277 = .ok (.iload_n 3, 1) := by decide +kernel
theorem dL_law_278 : decode cL_law 278 = .ok (.iconst 1, 1) := by decide +kernel
theorem dL_law_279 : decode cL_law 279 = .ok (.iadd, 1) := by decide +kernel
theorem dL_law_280 : decode cL_law 280 = .ok (.iaload, 1) := by decide +kernel
theorem dL_law_281 : decode cL_law 281 = .ok (.aload_n 0, 1) := by decide +kernel
theorem dL_law_282 : decode cL_law 282 = .ok (.iload_n 3, 1) := by decide +kernel
theorem dL_law_283 : decode cL_law 283 = .ok (.iconst 2, 1) := by decide +kernel
theorem dL_law_284 : decode cL_law 284 = .ok (.iadd, 1) := by decide +kernel
theorem dL_law_285 : decode cL_law 285 = .ok (.iaload, 1) := by decide +kernel
theorem dL_law_286 : decode cL_law 286 = .ok (.invokevirtual 39, 3) := by decide +kernel
theorem dL_law_289 : decode cL_law 289 = .ok (.if_icmp .eq 371, 3) := by decide +kernel
theorem dL_law_292 : decode cL_law 292 = .ok (.iconst 0, 1) := by decide +kernel
theorem dL_law_293 : decode cL_law 293 = .ok (.ireturn, 1) := by decide +kernel
theorem dL_law_294 : decode cL_law 294 = .ok (.aload_n 1, 1) := by decide +kernel
theorem dL_law_295 : decode cL_law 295 = .ok (.aload_n 0, 1) := by decide +kernel
theorem dL_law_296 : decode cL_law 296 = .ok (.iload_n 3, 1) := by decide +kernel
theorem dL_law_297 : decode cL_law 297 = .ok (.iconst 1, 1) := by decide +kernel
theorem dL_law_298 : decode cL_law 298 = .ok (.iadd, 1) := by decide +kernel
theorem dL_law_299 : decode cL_law 299 = .ok (.iaload, 1) := by decide +kernel
theorem dL_law_300 : decode cL_law 300 = .ok (.invokevirtual 40, 3) := by decide +kernel
theorem dL_law_303 : decode cL_law 303 = .ok (.aload_n 2, 1) := by decide +kernel
theorem dL_law_304 : decode cL_law 304 = .ok (.aload_n 0, 1) := by decide +kernel
theorem dL_law_305 : decode cL_law 305 = .ok (.iload_n 3, 1) := by decide +kernel
theorem dL_law_306 : decode cL_law 306 = .ok (.iconst 1, 1) := by decide +kernel
theorem dL_law_307 : decode cL_law 307 = .ok (.iadd, 1) := by decide +kernel
theorem dL_law_308 : decode cL_law 308 = .ok (.iaload, 1) := by decide +kernel
theorem dL_law_309 : decode cL_law 309 = .ok (.invokevirtual 43, 3) := by decide +kernel
theorem dL_law_312 : decode cL_law 312 = .ok (.if_icmp .eq 348, 3) := by decide +kernel
theorem dL_law_315 : decode cL_law 315 = .ok (.iconst 0, 1) := by decide +kernel
theorem dL_law_316 : decode cL_law 316 = .ok (.ireturn, 1) := by decide +kernel
theorem dL_law_317 : decode cL_law 317 = .ok (.aload_n 1, 1) := by decide +kernel
theorem dL_law_318 : decode cL_law 318 = .ok (.aload_n 0, 1) := by decide +kernel
theorem dL_law_319 : decode cL_law 319 = .ok (.iload_n 3, 1) := by decide +kernel
theorem dL_law_320 : decode cL_law 320 = .ok (.iconst 1, 1) := by decide +kernel
theorem dL_law_321 : decode cL_law 321 = .ok (.iadd, 1) := by decide +kernel
theorem dL_law_322 : decode cL_law 322 = .ok (.iaload, 1) := by decide +kernel
theorem dL_law_323 : decode cL_law 323 = .ok (.i2c, 1) := by decide +kernel
theorem dL_law_324 : decode cL_law 324 = .ok (.invokevirtual 44, 3) := by decide +kernel
theorem dL_law_327 : decode cL_law 327 = .ok (.aload_n 2, 1) := by decide +kernel
theorem dL_law_328 : decode cL_law 328 = .ok (.aload_n 0, 1) := by decide +kernel
theorem dL_law_329 : decode cL_law 329 = .ok (.iload_n 3, 1) := by decide +kernel
theorem dL_law_330 : decode cL_law 330 = .ok (.iconst 1, 1) := by decide +kernel
theorem dL_law_331 : decode cL_law 331 = .ok (.iadd, 1) := by decide +kernel
theorem dL_law_332 : decode cL_law 332 = .ok (.iaload, 1) := by decide +kernel
theorem dL_law_333 : decode cL_law 333 = .ok (.i2c, 1) := by decide +kernel
theorem dL_law_334 : decode cL_law 334 = .ok (.invokevirtual 48, 3) := by decide +kernel
theorem dL_law_337 : decode cL_law 337 = .ok (.if_icmp .eq 323, 3) := by decide +kernel
theorem dL_law_340 : decode cL_law 340 = .ok (.iconst 0, 1) := by decide +kernel
theorem dL_law_341 : decode cL_law 341 = .ok (.ireturn, 1) := by decide +kernel
theorem dL_law_342 : decode cL_law 342 = .ok (.aload_n 1, 1) := by decide +kernel
theorem dL_law_343 : decode cL_law 343 = .ok (.invokevirtual 49, 3) := by decide +kernel
theorem dL_law_346 : decode cL_law 346 = .ok (.aload_n 2, 1) := by decide +kernel
theorem dL_law_347 : decode cL_law 347 = .ok (.invokevirtual 52, 3) := by decide +kernel
theorem dL_law_350 : decode cL_law 350 = .ok (.if_icmp .eq 310, 3) := by decide +kernel
theorem dL_law_353 : decode cL_law 353 = .ok (.iconst 0, 1) := by decide +kernel
theorem dL_law_354 : decode cL_law 354 = .ok (.ireturn, 1) := by decide +kernel
theorem dL_law_355 : decode cL_law 355 = .ok (.aload_n 1, 1) := by decide +kernel
theorem dL_law_356 : decode cL_law 356 = .ok (.invokevirtual 53, 3) := by decide +kernel
theorem dL_law_359 : decode cL_law 359 = .ok (.aload_n 2, 1) := by decide +kernel
theorem dL_law_360 : decode cL_law 360 = .ok (.invokevirtual 56, 3) := by decide +kernel
theorem dL_law_363 : decode cL_law 363 = .ok (.if_icmp .eq 297, 3) := by decide +kernel
theorem dL_law_366 : decode cL_law 366 = .ok (.iconst 0, 1) := by decide +kernel
theorem dL_law_367 : decode cL_law 367 = .ok (.ireturn, 1) := by decide +kernel
theorem dL_law_368 : decode cL_law 368 = .ok (.aload_n 1, 1) := by decide +kernel
theorem dL_law_369 : decode cL_law 369 = .ok (.invokevirtual 57, 3) := by decide +kernel
theorem dL_law_372 : decode cL_law 372 = .ok (.aload_n 2, 1) := by decide +kernel
theorem dL_law_373 : decode cL_law 373 = .ok (.invokevirtual 60, 3) := by decide +kernel
theorem dL_law_376 : decode cL_law 376 = .ok (.if_icmp .eq 284, 3) := by decide +kernel
theorem dL_law_379 : decode cL_law 379 = .ok (.iconst 0, 1) := by decide +kernel
theorem dL_law_380 : decode cL_law 380 = .ok (.ireturn, 1) := by decide +kernel
theorem dL_law_381 : decode cL_law 381 = .ok (.aload_n 1, 1) := by decide +kernel
theorem dL_law_382 : decode cL_law 382 = .ok (.invokevirtual 61, 3) := by decide +kernel
theorem dL_law_385 : decode cL_law 385 = .ok (.aload_n 2, 1) := by decide +kernel
theorem dL_law_386 : decode cL_law 386 = .ok (.invokevirtual 64, 3) := by decide +kernel
theorem dL_law_389 : decode cL_law 389 = .ok (.if_icmp .eq 271, 3) := by decide +kernel
theorem dL_law_392 : decode cL_law 392 = .ok (.iconst 0, 1) := by decide +kernel
theorem dL_law_393 : decode cL_law 393 = .ok (.ireturn, 1) := by decide +kernel
theorem dL_law_394 : decode cL_law 394 = .ok (.aload_n 1, 1) := by decide +kernel
theorem dL_law_395 : decode cL_law 395 = .ok (.aload_n 0, 1) := by decide +kernel
theorem dL_law_396 : decode cL_law 396 = .ok (.iload_n 3, 1) := by decide +kernel
theorem dL_law_397 : decode cL_law 397 = .ok (.iconst 1, 1) := by decide +kernel
theorem dL_law_398 : decode cL_law 398 = .ok (.iadd, 1) := by decide +kernel
theorem dL_law_399 : decode cL_law 399 = .ok (.iaload, 1) := by decide +kernel
theorem dL_law_400 : decode cL_law 400 = .ok (.aload_n 0, 1) := by decide +kernel
theorem dL_law_401 : decode cL_law 401 = .ok (.iload_n 3, 1) := by decide +kernel
theorem dL_law_402 : decode cL_law 402 = .ok (.iconst 2, 1) := by decide +kernel
theorem dL_law_403 : decode cL_law 403 = .ok (.iadd, 1) := by decide +kernel
theorem dL_law_404 : decode cL_law 404 = .ok (.iaload, 1) := by decide +kernel
theorem dL_law_405 : decode cL_law 405 = .ok (.invokevirtual 65, 3) := by decide +kernel
theorem dL_law_408 : decode cL_law 408 = .ok (.aload_n 2, 1) := by decide +kernel
theorem dL_law_409 : decode cL_law 409 = .ok (.aload_n 0, 1) := by decide +kernel
theorem dL_law_410 : decode cL_law 410 = .ok (.iload_n 3, 1) := by decide +kernel
theorem dL_law_411 : decode cL_law 411 = .ok (.iconst 1, 1) := by decide +kernel
theorem dL_law_412 : decode cL_law 412 = .ok (.iadd, 1) := by decide +kernel
theorem dL_law_413 : decode cL_law 413 = .ok (.iaload, 1) := by decide +kernel
theorem dL_law_414 : decode cL_law 414 = .ok (.aload_n 0, 1) := by decide +kernel
theorem dL_law_415 : decode cL_law 415 = .ok (.iload_n 3, 1) := by decide +kernel
theorem dL_law_416 : decode cL_law 416 = .ok (.iconst 2, 1) := by decide +kernel
theorem dL_law_417 : decode cL_law 417 = .ok (.iadd, 1) := by decide +kernel
theorem dL_law_418 : decode cL_law 418 = .ok (.iaload, 1) := by decide +kernel
theorem dL_law_419 : decode cL_law 419 = .ok (.invokevirtual 68, 3) := by decide +kernel
theorem dL_law_422 : decode cL_law 422 = .ok (.if_icmp .eq 238, 3) := by decide +kernel
theorem dL_law_425 : decode cL_law 425 = .ok (.iconst 0, 1) := by decide +kernel
theorem dL_law_426 : decode cL_law 426 = .ok (.ireturn, 1) := by decide +kernel
theorem dL_law_427 : decode cL_law 427 = .ok (.aload_n 1, 1) := by decide +kernel
theorem dL_law_428 : decode cL_law 428 = .ok (.aload_n 0, 1) := by decide +kernel
theorem dL_law_429 : decode cL_law 429 = .ok (.iload_n 3, 1) := by decide +kernel
theorem dL_law_430 : decode cL_law 430 = .ok (.iconst 1, 1) := by decide +kernel
theorem dL_law_431 : decode cL_law 431 = .ok (.iadd, 1) := by decide +kernel
theorem dL_law_432 : decode cL_law 432 = .ok (.iaload, 1) := by decide +kernel
theorem dL_law_433 : decode cL_law 433 = .ok (.aload_n 0, 1) := by decide +kernel
theorem dL_law_434 : decode cL_law 434 = .ok (.iload_n 3, 1) := by decide +kernel
theorem dL_law_435 : decode cL_law 435 = .ok (.iconst 2, 1) := by decide +kernel
theorem dL_law_436 : decode cL_law 436 = .ok (.iadd, 1) := by decide +kernel
theorem dL_law_437 : decode cL_law 437 = .ok (.iaload, 1) := by decide +kernel
theorem dL_law_438 : decode cL_law 438 = .ok (.invokevirtual 69, 3) := by decide +kernel
theorem dL_law_441 : decode cL_law 441 = .ok (.aload_n 2, 1) := by decide +kernel
theorem dL_law_442 : decode cL_law 442 = .ok (.aload_n 0, 1) := by decide +kernel
theorem dL_law_443 : decode cL_law 443 = .ok (.iload_n 3, 1) := by decide +kernel
theorem dL_law_444 : decode cL_law 444 = .ok (.iconst 1, 1) := by decide +kernel
theorem dL_law_445 : decode cL_law 445 = .ok (.iadd, 1) := by decide +kernel
theorem dL_law_446 : decode cL_law 446 = .ok (.iaload, 1) := by decide +kernel
theorem dL_law_447 : decode cL_law 447 = .ok (.aload_n 0, 1) := by decide +kernel
theorem dL_law_448 : decode cL_law 448 = .ok (.iload_n 3, 1) := by decide +kernel
theorem dL_law_449 : decode cL_law 449 = .ok (.iconst 2, 1) := by decide +kernel
theorem dL_law_450 : decode cL_law 450 = .ok (.iadd, 1) := by decide +kernel
theorem dL_law_451 : decode cL_law 451 = .ok (.iaload, 1) := by decide +kernel
theorem dL_law_452 : decode cL_law 452 = .ok (.invokevirtual 72, 3) := by decide +kernel
theorem dL_law_455 : decode cL_law 455 = .ok (.if_icmp .eq 205, 3) := by decide +kernel
theorem dL_law_458 : decode cL_law 458 = .ok (.iconst 0, 1) := by decide +kernel
theorem dL_law_459 : decode cL_law 459 = .ok (.ireturn, 1) := by decide +kernel
theorem dL_law_460 : decode cL_law 460 = .ok (.aload_n 1, 1) := by decide +kernel
theorem dL_law_461 : decode cL_law 461 = .ok (.aload_n 0, 1) := by decide +kernel
theorem dL_law_462 : decode cL_law 462 = .ok (.iload_n 3, 1) := by decide +kernel
theorem dL_law_463 : decode cL_law 463 = .ok (.iconst 1, 1) := by decide +kernel
theorem dL_law_464 : decode cL_law 464 = .ok (.iadd, 1) := by decide +kernel
theorem dL_law_465 : decode cL_law 465 = .ok (.iaload, 1) := by decide +kernel
theorem dL_law_466 : decode cL_law 466 = .ok (.invokevirtual 73, 3) := by decide +kernel
theorem dL_law_469 : decode cL_law 469 = .ok (.dstore 4, 2) := by decide +kernel
theorem dL_law_471 : decode cL_law 471 = .ok (.aload_n 2, 1) := by decide +kernel
theorem dL_law_472 : decode cL_law 472 = .ok (.aload_n 0, 1) := by decide +kernel
theorem dL_law_473 : decode cL_law 473 = .ok (.iload_n 3, 1) := by decide +kernel
theorem dL_law_474 : decode cL_law 474 = .ok (.iconst 1, 1) := by decide +kernel
theorem dL_law_475 : decode cL_law 475 = .ok (.iadd, 1) := by decide +kernel
theorem dL_law_476 : decode cL_law 476 = .ok (.iaload, 1) := by decide +kernel
theorem dL_law_477 : decode cL_law 477 = .ok (.invokevirtual 77, 3) := by decide +kernel
theorem dL_law_480 : decode cL_law 480 = .ok (.dstore 6, 2) := by decide +kernel
theorem dL_law_482 : decode cL_law 482 = .ok (.dload 4, 2) := by decide +kernel
theorem dL_law_484 : decode cL_law 484 = .ok (.dload 6, 2) := by decide +kernel
theorem dL_law_486 : decode cL_law 486 = .ok (.dcmp .l, 1) := by decide +kernel
theorem dL_law_487 : decode cL_law 487 = .ok (.ifCond .eq 21, 3) := by decide +kernel
theorem dL_law_490 : decode cL_law 490 = .ok (.dload 4, 2) := by decide +kernel
theorem dL_law_492 : decode cL_law 492 = .ok (.dload 4, 2) := by decide +kernel
theorem dL_law_494 : decode cL_law 494 = .ok (.dcmp .l, 1) := by decide +kernel
theorem dL_law_495 : decode cL_law 495 = .ok (.ifCond .eq 11, 3) := by decide +kernel
theorem dL_law_498 : decode cL_law 498 = .ok (.dload 6, 2) := by decide +kernel
theorem dL_law_500 : decode cL_law 500 = .ok (.dload 6, 2) := by decide +kernel
theorem dL_law_502 : decode cL_law 502 = .ok (.dcmp .l, 1) := by decide +kernel
theorem dL_law_503 : decode cL_law 503 = .ok (.ifCond .ne 5, 3) := by decide +kernel
theorem dL_law_506 : decode cL_law 506 = .ok (.iconst 0, 1) := by decide +kernel
theorem dL_law_507 : decode cL_law 507 = .ok (.ireturn, 1) := by decide +kernel
theorem dL_law_508 : decode cL_law 508 = .ok (.goto 152, 3) := by decide +kernel
theorem dL_law_511 : decode cL_law 511 = .ok (.aload_n 1, 1) := by decide +kernel
theorem dL_law_512 : decode cL_law 512 = .ok (.aload_n 0, 1) := by decide +kernel
theorem dL_law_513 : decode cL_law 513 = .ok (.iload_n 3, 1) := by decide +kernel
theorem dL_law_514 : decode cL_law 514 = .ok (.iconst 1, 1) := by decide +kernel
theorem dL_law_515 : decode cL_law 515 = .ok (.iadd, 1) := by decide +kernel
theorem dL_law_516 : decode cL_law 516 = .ok (.iaload, 1) := by decide +kernel
theorem dL_law_517 : decode cL_law 517 = .ok (.invokevirtual 78, 3) := by decide +kernel
theorem dL_law_520 : decode cL_law 520 = .ok (.aload_n 2, 1) := by decide +kernel
theorem dL_law_521 : decode cL_law 521 = .ok (.aload_n 0, 1) := by decide +kernel
theorem dL_law_522 : decode cL_law 522 = .ok (.iload_n 3, 1) := by decide +kernel
theorem dL_law_523 : decode cL_law 523 = .ok (.iconst 1, 1) := by decide +kernel
theorem dL_law_524 : decode cL_law 524 = .ok (.iadd, 1) := by decide +kernel
theorem dL_law_525 : decode cL_law 525 = .ok (.iaload, 1) := by decide +kernel
theorem dL_law_526 : decode cL_law 526 = .ok (.invokevirtual 81, 3) := by decide +kernel
theorem dL_law_529 : decode cL_law 529 = .ok (.if_icmp .eq 131, 3) := by decide +kernel
theorem dL_law_532 : decode cL_law 532 = .ok (.iconst 0, 1) := by decide +kernel
theorem dL_law_533 : decode cL_law 533 = .ok (.ireturn, 1) := by decide +kernel
theorem dL_law_534 : decode cL_law 534 = .ok (.aload_n 1, 1) := by decide +kernel
theorem dL_law_535 : decode cL_law 535 = .ok (.invokevirtual 82, 3) := by decide +kernel
theorem dL_law_538 : decode cL_law 538 = .ok (.aload_n 2, 1) := by decide +kernel
theorem dL_law_539 : decode cL_law 539 = .ok (.invokevirtual 85, 3) := by decide +kernel
theorem dL_law_542 : decode cL_law 542 = .ok (.if_icmp .eq 118, 3) := by decide +kernel
theorem dL_law_545 : decode cL_law 545 = .ok (.iconst 0, 1) := by decide +kernel
theorem dL_law_546 : decode cL_law 546 = .ok (.ireturn, 1) := by decide +kernel
theorem dL_law_547 : decode cL_law 547 = .ok (.aload_n 1, 1) := by decide +kernel
theorem dL_law_548 : decode cL_law 548 = .ok (.invokevirtual 86, 3) := by decide +kernel
theorem dL_law_551 : decode cL_law 551 = .ok (.aload_n 2, 1) := by decide +kernel
theorem dL_law_552 : decode cL_law 552 = .ok (.invokevirtual 89, 3) := by decide +kernel
theorem dL_law_555 : decode cL_law 555 = .ok (.if_icmp .eq 105, 3) := by decide +kernel
theorem dL_law_558 : decode cL_law 558 = .ok (.iconst 0, 1) := by decide +kernel
theorem dL_law_559 : decode cL_law 559 = .ok (.ireturn, 1) := by decide +kernel
theorem dL_law_560 : decode cL_law 560 = .ok (.aload_n 1, 1) := by decide +kernel
theorem dL_law_561 : decode cL_law 561 = .ok (.invokevirtual 90, 3) := by decide +kernel
theorem dL_law_564 : decode cL_law 564 = .ok (.aload_n 2, 1) := by decide +kernel
theorem dL_law_565 : decode cL_law 565 = .ok (.invokevirtual 93, 3) := by decide +kernel
theorem dL_law_568 : decode cL_law 568 = .ok (.if_icmp .eq 92, 3) := by decide +kernel
theorem dL_law_571 : decode cL_law 571 = .ok (.iconst 0, 1) := by decide +kernel
theorem dL_law_572 : decode cL_law 572 = .ok (.ireturn, 1) := by decide +kernel
theorem dL_law_573 : decode cL_law 573 = .ok (.aload_n 1, 1) := by decide +kernel
theorem dL_law_574 : decode cL_law 574 = .ok (.invokevirtual 94, 3) := by decide +kernel
theorem dL_law_577 : decode cL_law 577 = .ok (.dstore 4, 2) := by decide +kernel
theorem dL_law_579 : decode cL_law 579 = .ok (.aload_n 2, 1) := by decide +kernel
theorem dL_law_580 : decode cL_law 580 = .ok (.invokevirtual 98, 3) := by decide +kernel
theorem dL_law_583 : decode cL_law 583 = .ok (.dstore 6, 2) := by decide +kernel
theorem dL_law_585 : decode cL_law 585 = .ok (.dload 4, 2) := by decide +kernel
theorem dL_law_587 : decode cL_law 587 = .ok (.dload 6, 2) := by decide +kernel
theorem dL_law_589 : decode cL_law 589 = .ok (.dcmp .l, 1) := by decide +kernel
theorem dL_law_590 : decode cL_law 590 = .ok (.ifCond .eq 21, 3) := by decide +kernel
theorem dL_law_593 : decode cL_law 593 = .ok (.dload 4, 2) := by decide +kernel
theorem dL_law_595 : decode cL_law 595 = .ok (.dload 4, 2) := by decide +kernel
theorem dL_law_597 : decode cL_law 597 = .ok (.dcmp .l, 1) := by decide +kernel
theorem dL_law_598 : decode cL_law 598 = .ok (.ifCond .eq 11, 3) := by decide +kernel
theorem dL_law_601 : decode cL_law 601 = .ok (.dload 6, 2) := by decide +kernel
theorem dL_law_603 : decode cL_law 603 = .ok (.dload 6, 2) := by decide +kernel
theorem dL_law_605 : decode cL_law 605 = .ok (.dcmp .l, 1) := by decide +kernel
theorem dL_law_606 : decode cL_law 606 = .ok (.ifCond .ne 5, 3) := by decide +kernel
theorem dL_law_609 : decode cL_law 609 = .ok (.iconst 0, 1) := by decide +kernel
theorem dL_law_610 : decode cL_law 610 = .ok (.ireturn, 1) := by decide +kernel
theorem dL_law_611 : decode cL_law 611 = .ok (.goto 49, 3) := by decide +kernel
theorem dL_law_614 : decode cL_law 614 = .ok (.aload_n 1, 1) := by decide +kernel
theorem dL_law_615 : decode cL_law 615 = .ok (.aload_n 0, 1) := by decide +kernel
theorem dL_law_616 : decode cL_law 616 = .ok (.iload_n 3, 1) := by decide +kernel
theorem dL_law_617 : decode cL_law 617 = .ok (.iconst 1, 1) := by decide +kernel
theorem dL_law_618 : decode cL_law 618 = .ok (.iadd, 1) := by decide +kernel
theorem dL_law_619 : decode cL_law 619 = .ok (.iaload, 1) := by decide +kernel
theorem dL_law_620 : decode cL_law 620 = .ok (.invokevirtual 99, 3) := by decide +kernel
theorem dL_law_623 : decode cL_law 623 = .ok (.aload_n 2, 1) := by decide +kernel
theorem dL_law_624 : decode cL_law 624 = .ok (.aload_n 0, 1) := by decide +kernel
theorem dL_law_625 : decode cL_law 625 = .ok (.iload_n 3, 1) := by decide +kernel
theorem dL_law_626 : decode cL_law 626 = .ok (.iconst 1, 1) := by decide +kernel
theorem dL_law_627 : decode cL_law 627 = .ok (.iadd, 1) := by decide +kernel
theorem dL_law_628 : decode cL_law 628 = .ok (.iaload, 1) := by decide +kernel
theorem dL_law_629 : decode cL_law 629 = .ok (.invokevirtual 102, 3) := by decide +kernel
theorem dL_law_632 : decode cL_law 632 = .ok (.if_icmp .eq 28, 3) := by decide +kernel
theorem dL_law_635 : decode cL_law 635 = .ok (.iconst 0, 1) := by decide +kernel
theorem dL_law_636 : decode cL_law 636 = .ok (.ireturn, 1) := by decide +kernel
theorem dL_law_637 : decode cL_law 637 = .ok (.aload_n 1, 1) := by decide +kernel
theorem dL_law_638 : decode cL_law 638 = .ok (.aload_n 0, 1) := by decide +kernel
theorem dL_law_639 : decode cL_law 639 = .ok (.iload_n 3, 1) := by decide +kernel
theorem dL_law_640 : decode cL_law 640 = .ok (.iconst 1, 1) := by decide +kernel
theorem dL_law_641 : decode cL_law 641 = .ok (.iadd, 1) := by decide +kernel
theorem dL_law_642 : decode cL_law 642 = .ok (.iaload, 1) := by decide +kernel
theorem dL_law_643 : decode cL_law 643 = .ok (.invokevirtual 103, 3) := by decide +kernel
theorem dL_law_646 : decode cL_law 646 = .ok (.aload_n 2, 1) := by decide +kernel
theorem dL_law_647 : decode cL_law 647 = .ok (.aload_n 0, 1) := by decide +kernel
theorem dL_law_648 : decode cL_law 648 = .ok (.iload_n 3, 1) := by decide +kernel
theorem dL_law_649 : decode cL_law 649 = .ok (.iconst 1, 1) := by decide +kernel
theorem dL_law_650 : decode cL_law 650 = .ok (.iadd, 1) := by decide +kernel
theorem dL_law_651 : decode cL_law 651 = .ok (.iaload, 1) := by decide +kernel
theorem dL_law_652 : decode cL_law 652 = .ok (.invokevirtual 106, 3) := by decide +kernel
theorem dL_law_655 : decode cL_law 655 = .ok (.if_icmp .eq 5, 3) := by decide +kernel
theorem dL_law_658 : decode cL_law 658 = .ok (.iconst 0, 1) := by decide +kernel
theorem dL_law_659 : decode cL_law 659 = .ok (.ireturn, 1) := by decide +kernel
theorem dL_law_660 : decode cL_law 660 = .ok (.iinc 3 3, 3) := by decide +kernel
theorem dL_law_663 : decode cL_law 663 = .ok (.goto (-645), 3) := by decide +kernel
theorem dL_law_666 : decode cL_law 666 = .ok (.iconst 1, 1) := by decide +kernel
theorem dL_law_667 : decode cL_law 667 = .ok (.ireturn, 1) := by decide +kernel
end
section
/-! THE JUDGEMENT J: at (pc, stack), for every heap that holds the world ws and locals that hold lv, the machine comes to its end with Q; and contracts Ct in one shape -/
abbrev GT : Type := va_G × ClassId × ClassId × ClassId
abbrev tyG (G : GT) : List (ClassId × FieldType) := [(G.2.1, .int), (G.2.2.1, .char), (G.2.2.2, .object "TwoScribes$State")]
abbrev Wy (y : MethodName) (b : ByteArray) (n : Nat) (r : Option FieldType) : List Cond := Cond.code y b n r :: GW
def Ev (G : GT) (U : State) : Prop := va_K G.1 vwCl (tyG G) U ∧ NOK U
theorem Ev.warm {G : GT} {s U : State} (hW : s.WarmedH U.vm) (h : Ev G s) : Ev G U := ⟨va_K.moved hW.alike h.1, NOK.warm hW h.2⟩
theorem Ev.same {G : GT} {u U : State} (h : u.vm = U.vm) (hE : Ev G u) : Ev G U := ⟨va_K.moved (by rw [h]; exact Vm.Alike.refl _) hE.1, NOK.same h hE.2⟩
def Cx (p : Program) (s : State) (m : MethodId) (args : Array Value) (meth : Method) (c : Code) (G : GT) (A : Nat → Prop) (nL : Nat) (cc : ByteArray) (own : String) : Prop :=
  p.tables.exec = Jvm.exec ∧ c.code = cc ∧ c.maxLocals = nL ∧ s.vm.findClass own = some m.cls ∧ (∀ w ∈ GW, w.before args s = true) ∧ Ev G s ∧ (∀ q, s.heap.size ≤ q → A q) ∧ meth.locks = false
def QcG {S : Type} (post : S → Prop) (ret1 : S → Option Value) (W1 : S → va_W) (G : GT) (A : Nat → Prop) : Array Value → State → Outcome → State → Prop := fun _ st oc t => (∃ u : S, oc = .returned (ret1 u) ∧ post u ∧ va_P G.1 vwCl (W1 u) t.heap ∧ va_D A (W1 u)) ∧ va_F A st t
abbrev PcG (G : GT) (X : (Nat → Prop) → State → Prop) (as : List Value) (W0 : va_W) (sz : Nat) : Array Value → State → Prop := va_Pc as (fun U => U.heap.size = sz ∧ va_P G.1 vwCl W0 U.heap ∧ Ev G U ∧ va_D (fun _ => True) W0 ∧ X (va_A W0 sz) U)
def Ct {S : Type} (l : Launch) (G : GT) (X : (Nat → Prop) → State → Prop) (y : MethodName) (ws : List Cond) (rm : Room) (as : List Value) (W0 : va_W) (post : S → Prop) (ret1 : S → Option Value) (W1 : S → va_W) : Prop :=
  ∀ sz : Nat, Met l y ws rm (PcG G X as W0 sz) (QcG post ret1 W1 G (va_A W0 sz)) rm.cells rm.slots (va_A W0 sz)
def NoX : (Nat → Prop) → State → Prop := fun _ _ => True
def J (p : Program) (l : Launch) (e : Env) (R : Room) (s : State) (m : MethodId) (args : Array Value) (below : List Frame) (meth : Method) (c : Code) (Q : State → Prop) (G : GT) (A : Nat → Prop) (nL k n : Nat) (ws : va_W) (lv : List (Nat × Value)) (pc : Nat) (st : List Value) : Prop :=
  ∀ (H : Heap) (locs : List Loc) (ls : Array Slot), va_P G.1 vwCl ws H → va_D A ws → va_S A s.heap H locs → lv_has ls nL lv → W p l e R s m args below meth c H locs k n Q (F0 m pc ls st)
def lvf (lv : List (Nat × Value)) (i : Nat) : Option Value := (lv.find? (fun q => q.1 == i)).map (fun q => q.2)
theorem lvf_at {ls : Array Slot} {nL : Nat} {lv : List (Nat × Value)} {i : Nat} {v : Value} (h : lv_has ls nL lv) (hf : lvf lv i = some v) : ls[i]? = some (.val v) := by
  unfold lvf at hf
  cases hq : lv.find? (fun q => q.1 == i) with
  | none => rw [hq] at hf; cases hf
  | some q =>
    rw [hq] at hf
    have h1 := List.find?_some hq
    have h2 := List.mem_of_find?_eq_some hq
    have h3 := h.2.2 q h2
    have h4 : q.1 = i := by simpa using h1
    have h5 : q.2 = v := by simpa using hf
    rw [h4, h5] at h3
    exact h3
theorem lvf_sub {ls : Array Slot} {nL : Nat} {lv lv' : List (Nat × Value)} (h : lv_has ls nL lv) (hs : ∀ q ∈ lv', lvf lv q.1 = some q.2) : lv_has ls nL lv' := ⟨h.1, h.2.1, fun q hq => lvf_at h (hs q hq)⟩
section BASE
variable {p : Program} {l : Launch} {e : Env} {R : Room} {s : State} {m : MethodId} {args : Array Value} {below : List Frame} {meth : Method} {c : Code} {Q : State → Prop} {G : GT} {A : Nat → Prop} {nL k n : Nat} {cc : ByteArray} {own : String} {ws : va_W} {lv : List (Nat × Value)} {pc : Nat} {st : List Value}
theorem J_ws {ws' : va_W} (h : ws = ws') (kk : J p l e R s m args below meth c Q G A nL k n ws' lv pc st) : J p l e R s m args below meth c Q G A nL k n ws lv pc st := h ▸ kk
theorem J_st {st' : List Value} (h : st = st') (kk : J p l e R s m args below meth c Q G A nL k n ws lv pc st') : J p l e R s m args below meth c Q G A nL k n ws lv pc st := h ▸ kk
theorem J_i {x y : Int32} (h : x = y) (kk : J p l e R s m args below meth c Q G A nL k n ws lv pc (.int y :: st)) : J p l e R s m args below meth c Q G A nL k n ws lv pc (.int x :: st) := h ▸ kk
theorem J_f {x y : UInt32} (h : x = y) (kk : J p l e R s m args below meth c Q G A nL k n ws lv pc (.float y :: st)) : J p l e R s m args below meth c Q G A nL k n ws lv pc (.float x :: st) := h ▸ kk
theorem J_d {x y : UInt64} (h : x = y) (kk : J p l e R s m args below meth c Q G A nL k n ws lv pc (.double y :: st)) : J p l e R s m args below meth c Q G A nL k n ws lv pc (.double x :: st) := h ▸ kk
theorem J_l {x y : Int64} (h : x = y) (kk : J p l e R s m args below meth c Q G A nL k n ws lv pc (.long y :: st)) : J p l e R s m args below meth c Q G A nL k n ws lv pc (.long x :: st) := h ▸ kk
theorem J_lv {lv' : List (Nat × Value)} (hs : ∀ q ∈ lv', lvf lv q.1 = some q.2) (kk : J p l e R s m args below meth c Q G A nL k n ws lv' pc st) : J p l e R s m args below meth c Q G A nL k n ws lv pc st := fun H locs ls hP hD hS hl => kk H locs ls hP hD hS (lvf_sub hl hs)
theorem J_widen {k' n' : Nat} (h1 : k ≤ k') (h2 : n ≤ n') (kk : J p l e R s m args below meth c Q G A nL k' n' ws lv pc st) : J p l e R s m args below meth c Q G A nL k n ws lv pc st := fun H locs ls hP hD hS hl => W.widen h1 h2 (kk H locs ls hP hD hS hl)
theorem arrV_ext {cI : ClassId} {N : Nat} {f g : Nat → Value} (h : ∀ j, j < N → f j = g j) : arrV cI N f = arrV cI N g := by
  unfold arrV
  have : (Array.ofFn (n := N) fun j => f j.val) = Array.ofFn (n := N) fun j => g j.val := by
    congr 1
    funext j
    exact h j.val j.isLt
  rw [this]
/-- an array's function may be another one that agrees below its length -/
theorem J_arr (q0 : Nat) {a N : Nat} {cA : ClassId} {f : Nat → Int32} (g : Nat → Int32) (he : ws[q0]? = some (a, .inl (cA, N, .inl f))) (hfg : ∀ j, j < N → f j = g j) (kk : J p l e R s m args below meth c Q G A nL k n (ws.set q0 (a, .inl (cA, N, .inl g))) lv pc st) : J p l e R s m args below meth c Q G A nL k n ws lv pc st := by
  intro H locs ls hP hD hS hl
  refine kk H locs ls (hP.set hD he ?_ (fun _ _ => rfl)) (hD.set he) hS hl
  have h1 : H[a]? = some (vp_cell cA (N, .inl f)) := hP q0 _ he
  show H[a]? = some (vp_cell cA (N, .inl g))
  rw [h1, vp_cell_i, vp_cell_i, arrV_ext (fun j hj => by rw [hfg j hj])]
theorem J_iconst (C : Cx p s m args meth c G A nL cc own) {z : Int} (v : Int32) (hv : Int32.ofInt z = v) (hdg : decode cc pc = .ok (.iconst z, 1)) (kk : J p l e R s m args below meth c Q G A nL k n ws lv (pc + 1) (.int v :: st)) : J p l e R s m args below meth c Q G A nL k n ws lv pc (st) := fun H locs ls hP hD hS hl => lv_iconst C.1 C.2.1 hdg hv (kk H locs ls hP hD hS hl)
theorem J_bipush (C : Cx p s m args meth c G A nL cc own) {z : Int} (v : Int32) (hv : (Int8.ofInt z).toInt32 = v) (hdg : decode cc pc = .ok (.bipush z, 2)) (kk : J p l e R s m args below meth c Q G A nL k n ws lv (pc + 2) (.int v :: st)) : J p l e R s m args below meth c Q G A nL k n ws lv pc (st) := fun H locs ls hP hD hS hl => lv_bipush C.1 C.2.1 hdg hv (kk H locs ls hP hD hS hl)
theorem J_sipush (C : Cx p s m args meth c G A nL cc own) {z : Int} (v : Int32) (hv : (Int16.ofInt z).toInt32 = v) (hdg : decode cc pc = .ok (.sipush z, 3)) (kk : J p l e R s m args below meth c Q G A nL k n ws lv (pc + 3) (.int v :: st)) : J p l e R s m args below meth c Q G A nL k n ws lv pc (st) := fun H locs ls hP hD hS hl => lv_sipush C.1 C.2.1 hdg hv (kk H locs ls hP hD hS hl)
theorem J_lconst (C : Cx p s m args meth c G A nL cc own) {z : Fin 2} (v : Int64) (hv : Int64.ofNat (z : Nat) = v) (hdg : decode cc pc = .ok (.lconst z, 1)) (kk : J p l e R s m args below meth c Q G A nL k n ws lv (pc + 1) (.long v :: st)) : J p l e R s m args below meth c Q G A nL k n ws lv pc (st) := fun H locs ls hP hD hS hl => lv_lconst C.1 C.2.1 hdg hv (kk H locs ls hP hD hS hl)
theorem J_iload_n (C : Cx p s m args meth c G A nL cc own) {i : Fin 4} {x : Int32} (hf : lvf lv (i : Nat) = some (.int x)) (hdg : decode cc pc = .ok (.iload_n i, 1)) (kk : J p l e R s m args below meth c Q G A nL k n ws lv (pc + 1) (.int x :: st)) : J p l e R s m args below meth c Q G A nL k n ws lv pc (st) := fun H locs ls hP hD hS hl => lv_iload_n C.1 C.2.1 hdg rfl (lvf_at hl hf) (kk H locs ls hP hD hS hl)
theorem J_iload (C : Cx p s m args meth c G A nL cc own) {i : Nat} {x : Int32} (hf : lvf lv i = some (.int x)) (hdg : decode cc pc = .ok (.iload i, 2)) (kk : J p l e R s m args below meth c Q G A nL k n ws lv (pc + 2) (.int x :: st)) : J p l e R s m args below meth c Q G A nL k n ws lv pc (st) := fun H locs ls hP hD hS hl => lv_iload C.1 C.2.1 hdg (lvf_at hl hf) (kk H locs ls hP hD hS hl)
theorem J_istore_n (C : Cx p s m args meth c G A nL cc own) {i : Fin 4} {x : Int32} (lv' : List (Nat × Value)) (hn : (i : Nat) < nL) (hlv : ((i : Nat), Value.int x) :: lv.filter (fun q => !(q.1 == (i : Nat)) && !(q.1 + 1 == (i : Nat) && q.2.category == 2)) = lv') (hdg : decode cc pc = .ok (.istore_n i, 1)) (kk : J p l e R s m args below meth c Q G A nL k n ws lv' (pc + 1) st) : J p l e R s m args below meth c Q G A nL k n ws lv pc (.int x :: st) := fun H locs ls hP hD hS hl => lv_istore_n C.1 C.2.1 hdg rfl hl hn hlv (fun ls' hl' => kk H locs ls' hP hD hS hl')
theorem J_istore (C : Cx p s m args meth c G A nL cc own) {i : Nat} {x : Int32} (lv' : List (Nat × Value)) (hn : i < nL) (hlv : (i, Value.int x) :: lv.filter (fun q => !(q.1 == i) && !(q.1 + 1 == i && q.2.category == 2)) = lv') (hdg : decode cc pc = .ok (.istore i, 2)) (kk : J p l e R s m args below meth c Q G A nL k n ws lv' (pc + 2) st) : J p l e R s m args below meth c Q G A nL k n ws lv pc (.int x :: st) := fun H locs ls hP hD hS hl => lv_istore C.1 C.2.1 hdg hl hn hlv (fun ls' hl' => kk H locs ls' hP hD hS hl')
theorem J_lload_n (C : Cx p s m args meth c G A nL cc own) {i : Fin 4} {x : Int64} (hf : lvf lv (i : Nat) = some (.long x)) (hdg : decode cc pc = .ok (.lload_n i, 1)) (kk : J p l e R s m args below meth c Q G A nL k n ws lv (pc + 1) (.long x :: st)) : J p l e R s m args below meth c Q G A nL k n ws lv pc (st) := fun H locs ls hP hD hS hl => lv_lload_n C.1 C.2.1 hdg rfl (lvf_at hl hf) (kk H locs ls hP hD hS hl)
theorem J_lload (C : Cx p s m args meth c G A nL cc own) {i : Nat} {x : Int64} (hf : lvf lv i = some (.long x)) (hdg : decode cc pc = .ok (.lload i, 2)) (kk : J p l e R s m args below meth c Q G A nL k n ws lv (pc + 2) (.long x :: st)) : J p l e R s m args below meth c Q G A nL k n ws lv pc (st) := fun H locs ls hP hD hS hl => lv_lload C.1 C.2.1 hdg (lvf_at hl hf) (kk H locs ls hP hD hS hl)
theorem J_fload_n (C : Cx p s m args meth c G A nL cc own) {i : Fin 4} {x : UInt32} (hf : lvf lv (i : Nat) = some (.float x)) (hdg : decode cc pc = .ok (.fload_n i, 1)) (kk : J p l e R s m args below meth c Q G A nL k n ws lv (pc + 1) (.float x :: st)) : J p l e R s m args below meth c Q G A nL k n ws lv pc (st) := fun H locs ls hP hD hS hl => lv_fload_n C.1 C.2.1 hdg rfl (lvf_at hl hf) (kk H locs ls hP hD hS hl)
theorem J_fload (C : Cx p s m args meth c G A nL cc own) {i : Nat} {x : UInt32} (hf : lvf lv i = some (.float x)) (hdg : decode cc pc = .ok (.fload i, 2)) (kk : J p l e R s m args below meth c Q G A nL k n ws lv (pc + 2) (.float x :: st)) : J p l e R s m args below meth c Q G A nL k n ws lv pc (st) := fun H locs ls hP hD hS hl => lv_fload C.1 C.2.1 hdg (lvf_at hl hf) (kk H locs ls hP hD hS hl)
theorem J_fstore_n (C : Cx p s m args meth c G A nL cc own) {i : Fin 4} {x : UInt32} (lv' : List (Nat × Value)) (hn : (i : Nat) < nL) (hlv : ((i : Nat), Value.float x) :: lv.filter (fun q => !(q.1 == (i : Nat)) && !(q.1 + 1 == (i : Nat) && q.2.category == 2)) = lv') (hdg : decode cc pc = .ok (.fstore_n i, 1)) (kk : J p l e R s m args below meth c Q G A nL k n ws lv' (pc + 1) st) : J p l e R s m args below meth c Q G A nL k n ws lv pc (.float x :: st) := fun H locs ls hP hD hS hl => lv_fstore_n C.1 C.2.1 hdg rfl hl hn hlv (fun ls' hl' => kk H locs ls' hP hD hS hl')
theorem J_fstore (C : Cx p s m args meth c G A nL cc own) {i : Nat} {x : UInt32} (lv' : List (Nat × Value)) (hn : i < nL) (hlv : (i, Value.float x) :: lv.filter (fun q => !(q.1 == i) && !(q.1 + 1 == i && q.2.category == 2)) = lv') (hdg : decode cc pc = .ok (.fstore i, 2)) (kk : J p l e R s m args below meth c Q G A nL k n ws lv' (pc + 2) st) : J p l e R s m args below meth c Q G A nL k n ws lv pc (.float x :: st) := fun H locs ls hP hD hS hl => lv_fstore C.1 C.2.1 hdg hl hn hlv (fun ls' hl' => kk H locs ls' hP hD hS hl')
theorem J_dload_n (C : Cx p s m args meth c G A nL cc own) {i : Fin 4} {x : UInt64} (hf : lvf lv (i : Nat) = some (.double x)) (hdg : decode cc pc = .ok (.dload_n i, 1)) (kk : J p l e R s m args below meth c Q G A nL k n ws lv (pc + 1) (.double x :: st)) : J p l e R s m args below meth c Q G A nL k n ws lv pc (st) := fun H locs ls hP hD hS hl => lv_dload_n C.1 C.2.1 hdg rfl (lvf_at hl hf) (kk H locs ls hP hD hS hl)
theorem J_dload (C : Cx p s m args meth c G A nL cc own) {i : Nat} {x : UInt64} (hf : lvf lv i = some (.double x)) (hdg : decode cc pc = .ok (.dload i, 2)) (kk : J p l e R s m args below meth c Q G A nL k n ws lv (pc + 2) (.double x :: st)) : J p l e R s m args below meth c Q G A nL k n ws lv pc (st) := fun H locs ls hP hD hS hl => lv_dload C.1 C.2.1 hdg (lvf_at hl hf) (kk H locs ls hP hD hS hl)
theorem J_dstore (C : Cx p s m args meth c G A nL cc own) {i : Nat} {x : UInt64} (lv' : List (Nat × Value)) (hn : i + 1 < nL) (hlv : (i, Value.double x) :: lv.filter (fun q => !(q.1 == i) && (!(q.1 == i + 1) && !(q.1 + 1 == i && q.2.category == 2))) = lv') (hdg : decode cc pc = .ok (.dstore i, 2)) (kk : J p l e R s m args below meth c Q G A nL k n ws lv' (pc + 2) st) : J p l e R s m args below meth c Q G A nL k n ws lv pc (.double x :: st) := fun H locs ls hP hD hS hl => lv_dstore C.1 C.2.1 hdg hl hn hlv (fun ls' hl' => kk H locs ls' hP hD hS hl')
theorem J_aload_n (C : Cx p s m args meth c G A nL cc own) {i : Fin 4} {x : Nat} (hf : lvf lv (i : Nat) = some (.ref x)) (hdg : decode cc pc = .ok (.aload_n i, 1)) (kk : J p l e R s m args below meth c Q G A nL k n ws lv (pc + 1) (.ref x :: st)) : J p l e R s m args below meth c Q G A nL k n ws lv pc (st) := fun H locs ls hP hD hS hl => lv_aload_n C.1 C.2.1 hdg rfl (lvf_at hl hf) (kk H locs ls hP hD hS hl)
theorem J_aload (C : Cx p s m args meth c G A nL cc own) {i : Nat} {x : Nat} (hf : lvf lv i = some (.ref x)) (hdg : decode cc pc = .ok (.aload i, 2)) (kk : J p l e R s m args below meth c Q G A nL k n ws lv (pc + 2) (.ref x :: st)) : J p l e R s m args below meth c Q G A nL k n ws lv pc (st) := fun H locs ls hP hD hS hl => lv_aload C.1 C.2.1 hdg (lvf_at hl hf) (kk H locs ls hP hD hS hl)
theorem J_astore_n (C : Cx p s m args meth c G A nL cc own) {i : Fin 4} {x : Nat} (lv' : List (Nat × Value)) (hn : (i : Nat) < nL) (hlv : ((i : Nat), Value.ref x) :: lv.filter (fun q => !(q.1 == (i : Nat)) && !(q.1 + 1 == (i : Nat) && q.2.category == 2)) = lv') (hdg : decode cc pc = .ok (.astore_n i, 1)) (kk : J p l e R s m args below meth c Q G A nL k n ws lv' (pc + 1) st) : J p l e R s m args below meth c Q G A nL k n ws lv pc (.ref x :: st) := fun H locs ls hP hD hS hl => lv_astore_n C.1 C.2.1 hdg rfl hl hn hlv (fun ls' hl' => kk H locs ls' hP hD hS hl')
theorem J_astore (C : Cx p s m args meth c G A nL cc own) {i : Nat} {x : Nat} (lv' : List (Nat × Value)) (hn : i < nL) (hlv : (i, Value.ref x) :: lv.filter (fun q => !(q.1 == i) && !(q.1 + 1 == i && q.2.category == 2)) = lv') (hdg : decode cc pc = .ok (.astore i, 2)) (kk : J p l e R s m args below meth c Q G A nL k n ws lv' (pc + 2) st) : J p l e R s m args below meth c Q G A nL k n ws lv pc (.ref x :: st) := fun H locs ls hP hD hS hl => lv_astore C.1 C.2.1 hdg hl hn hlv (fun ls' hl' => kk H locs ls' hP hD hS hl')
theorem J_iinc (C : Cx p s m args meth c G A nL cc own) {i : Nat} {z : Int} {x : Int32} (v : Int32) (lv' : List (Nat × Value)) (kx : Nat) (hk : lv[kx]? = some (i, .int x)) (hv : x + Int32.ofInt z = v) (hn : i < nL) (hlv : (i, Value.int v) :: lv.filter (fun q => !(q.1 == i) && !(q.1 + 1 == i && q.2.category == 2)) = lv') (hdg : decode cc pc = .ok (.iinc i z, 3)) (kk : J p l e R s m args below meth c Q G A nL k n ws lv' (pc + 3) st) : J p l e R s m args below meth c Q G A nL k n ws lv pc st := fun H locs ls hP hD hS hl => lv_iinc C.1 C.2.1 hdg hl hk hv hn hlv (fun ls' hl' => kk H locs ls' hP hD hS hl')
theorem J_iadd (C : Cx p s m args meth c G A nL cc own) {x y : Int32}  (hdg : decode cc pc = .ok (.iadd, 1)) (kk : J p l e R s m args below meth c Q G A nL k n ws lv (pc + 1) (.int (x + y) :: st)) : J p l e R s m args below meth c Q G A nL k n ws lv pc (.int y :: .int x :: st) := fun H locs ls hP hD hS hl => lv_iadd C.1 C.2.1 hdg (kk H locs ls hP hD hS hl)
theorem J_isub (C : Cx p s m args meth c G A nL cc own) {x y : Int32}  (hdg : decode cc pc = .ok (.isub, 1)) (kk : J p l e R s m args below meth c Q G A nL k n ws lv (pc + 1) (.int (x - y) :: st)) : J p l e R s m args below meth c Q G A nL k n ws lv pc (.int y :: .int x :: st) := fun H locs ls hP hD hS hl => lv_isub C.1 C.2.1 hdg (kk H locs ls hP hD hS hl)
theorem J_imul (C : Cx p s m args meth c G A nL cc own) {x y : Int32}  (hdg : decode cc pc = .ok (.imul, 1)) (kk : J p l e R s m args below meth c Q G A nL k n ws lv (pc + 1) (.int (x * y) :: st)) : J p l e R s m args below meth c Q G A nL k n ws lv pc (.int y :: .int x :: st) := fun H locs ls hP hD hS hl => lv_imul C.1 C.2.1 hdg (kk H locs ls hP hD hS hl)
theorem J_iand (C : Cx p s m args meth c G A nL cc own) {x y : Int32}  (hdg : decode cc pc = .ok (.iand, 1)) (kk : J p l e R s m args below meth c Q G A nL k n ws lv (pc + 1) (.int (x &&& y) :: st)) : J p l e R s m args below meth c Q G A nL k n ws lv pc (.int y :: .int x :: st) := fun H locs ls hP hD hS hl => lv_iand C.1 C.2.1 hdg (kk H locs ls hP hD hS hl)
theorem J_lsub (C : Cx p s m args meth c G A nL cc own) {x y : Int64}  (hdg : decode cc pc = .ok (.lsub, 1)) (kk : J p l e R s m args below meth c Q G A nL k n ws lv (pc + 1) (.long (x - y) :: st)) : J p l e R s m args below meth c Q G A nL k n ws lv pc (.long y :: .long x :: st) := fun H locs ls hP hD hS hl => lv_lsub C.1 C.2.1 hdg (kk H locs ls hP hD hS hl)
theorem J_idiv (C : Cx p s m args meth c G A nL cc own) {x y : Int32} (hne : ¬ y = 0) (hdg : decode cc pc = .ok (.idiv, 1)) (kk : J p l e R s m args below meth c Q G A nL k n ws lv (pc + 1) (.int (x / y) :: st)) : J p l e R s m args below meth c Q G A nL k n ws lv pc (.int y :: .int x :: st) := fun H locs ls hP hD hS hl => lv_idiv C.1 C.2.1 hdg hne (kk H locs ls hP hD hS hl)
theorem J_irem (C : Cx p s m args meth c G A nL cc own) {x y : Int32} (hne : ¬ y = 0) (hdg : decode cc pc = .ok (.irem, 1)) (kk : J p l e R s m args below meth c Q G A nL k n ws lv (pc + 1) (.int (x - x / y * y) :: st)) : J p l e R s m args below meth c Q G A nL k n ws lv pc (.int y :: .int x :: st) := fun H locs ls hP hD hS hl => lv_irem C.1 C.2.1 hdg hne (kk H locs ls hP hD hS hl)
theorem J_i2l (C : Cx p s m args meth c G A nL cc own) {x : Int32}  (hdg : decode cc pc = .ok (.i2l, 1)) (kk : J p l e R s m args below meth c Q G A nL k n ws lv (pc + 1) (.long x.toInt64 :: st)) : J p l e R s m args below meth c Q G A nL k n ws lv pc (.int x :: st) := fun H locs ls hP hD hS hl => lv_i2l C.1 C.2.1 hdg rfl (kk H locs ls hP hD hS hl)
theorem J_i2c (C : Cx p s m args meth c G A nL cc own) {x : Int32}  (hdg : decode cc pc = .ok (.i2c, 1)) (kk : J p l e R s m args below meth c Q G A nL k n ws lv (pc + 1) (.int (x.toUInt32 % 65536).toInt32 :: st)) : J p l e R s m args below meth c Q G A nL k n ws lv pc (.int x :: st) := fun H locs ls hP hD hS hl => lv_i2c C.1 C.2.1 hdg rfl (kk H locs ls hP hD hS hl)
theorem J_i2f (C : Cx p s m args meth c G A nL cc own) {x : Int32}  (hdg : decode cc pc = .ok (.i2f, 1)) (kk : J p l e R s m args below meth c Q G A nL k n ws lv (pc + 1) (.float (FP.i2f x) :: st)) : J p l e R s m args below meth c Q G A nL k n ws lv pc (.int x :: st) := fun H locs ls hP hD hS hl => lv_i2f C.1 C.2.1 hdg (kk H locs ls hP hD hS hl)
theorem J_i2d (C : Cx p s m args meth c G A nL cc own) {x : Int32}  (hdg : decode cc pc = .ok (.i2d, 1)) (kk : J p l e R s m args below meth c Q G A nL k n ws lv (pc + 1) (.double (FP.i2d x) :: st)) : J p l e R s m args below meth c Q G A nL k n ws lv pc (.int x :: st) := fun H locs ls hP hD hS hl => lv_i2d C.1 C.2.1 hdg (kk H locs ls hP hD hS hl)
theorem J_f2d (C : Cx p s m args meth c G A nL cc own) {x : UInt32} (hne : vf_n64 (FP.f2d x)) (hdg : decode cc pc = .ok (.f2d, 1)) (kk : J p l e R s m args below meth c Q G A nL k n ws lv (pc + 1) (.double (FP.f2d x) :: st)) : J p l e R s m args below meth c Q G A nL k n ws lv pc (.float x :: st) := fun H locs ls hP hD hS hl => lv_f2d C.1 C.2.1 hdg hne (kk H locs ls hP hD hS hl)
theorem J_fadd (C : Cx p s m args meth c G A nL cc own) {x y : UInt32} (hne : vf_n32 (FP.fadd x y)) (hdg : decode cc pc = .ok (.fadd, 1)) (kk : J p l e R s m args below meth c Q G A nL k n ws lv (pc + 1) (.float (FP.fadd x y) :: st)) : J p l e R s m args below meth c Q G A nL k n ws lv pc (.float y :: .float x :: st) := fun H locs ls hP hD hS hl => lv_fadd C.1 C.2.1 hdg hne (kk H locs ls hP hD hS hl)
theorem J_fsub (C : Cx p s m args meth c G A nL cc own) {x y : UInt32} (hne : vf_n32 (FP.fsub x y)) (hdg : decode cc pc = .ok (.fsub, 1)) (kk : J p l e R s m args below meth c Q G A nL k n ws lv (pc + 1) (.float (FP.fsub x y) :: st)) : J p l e R s m args below meth c Q G A nL k n ws lv pc (.float y :: .float x :: st) := fun H locs ls hP hD hS hl => lv_fsub C.1 C.2.1 hdg hne (kk H locs ls hP hD hS hl)
theorem J_fdiv (C : Cx p s m args meth c G A nL cc own) {x y : UInt32} (hne : vf_n32 (FP.fdiv x y)) (hdg : decode cc pc = .ok (.fdiv, 1)) (kk : J p l e R s m args below meth c Q G A nL k n ws lv (pc + 1) (.float (FP.fdiv x y) :: st)) : J p l e R s m args below meth c Q G A nL k n ws lv pc (.float y :: .float x :: st) := fun H locs ls hP hD hS hl => lv_fdiv C.1 C.2.1 hdg hne (kk H locs ls hP hD hS hl)
theorem J_ddiv (C : Cx p s m args meth c G A nL cc own) {x y : UInt64} (hne : vf_n64 (FP.ddiv x y)) (hdg : decode cc pc = .ok (.ddiv, 1)) (kk : J p l e R s m args below meth c Q G A nL k n ws lv (pc + 1) (.double (FP.ddiv x y) :: st)) : J p l e R s m args below meth c Q G A nL k n ws lv pc (.double y :: .double x :: st) := fun H locs ls hP hD hS hl => lv_ddiv C.1 C.2.1 hdg hne (kk H locs ls hP hD hS hl)
theorem J_fcmp (C : Cx p s m args meth c G A nL cc own) {x y : UInt32} {op : CmpOp}  (hdg : decode cc pc = .ok (.fcmp op, 1)) (kk : J p l e R s m args below meth c Q G A nL k n ws lv (pc + 1) (.int (Op.cmpValue (FP.fcmp x y) op) :: st)) : J p l e R s m args below meth c Q G A nL k n ws lv pc (.float y :: .float x :: st) := fun H locs ls hP hD hS hl => lv_fcmp C.1 C.2.1 hdg (kk H locs ls hP hD hS hl)
theorem J_dcmp (C : Cx p s m args meth c G A nL cc own) {x y : UInt64} {op : CmpOp}  (hdg : decode cc pc = .ok (.dcmp op, 1)) (kk : J p l e R s m args below meth c Q G A nL k n ws lv (pc + 1) (.int (Op.cmpValue (FP.dcmp x y) op) :: st)) : J p l e R s m args below meth c Q G A nL k n ws lv pc (.double y :: .double x :: st) := fun H locs ls hP hD hS hl => lv_dcmp C.1 C.2.1 hdg (kk H locs ls hP hD hS hl)
theorem J_fconst0 (C : Cx p s m args meth c G A nL cc own)   (hdg : decode cc pc = .ok (.fconst 0, 1)) (kk : J p l e R s m args below meth c Q G A nL k n ws lv (pc + 1) (.float FP.fconst0 :: st)) : J p l e R s m args below meth c Q G A nL k n ws lv pc (st) := fun H locs ls hP hD hS hl => lv_fconst0 C.1 C.2.1 hdg (kk H locs ls hP hD hS hl)
theorem J_fconst1 (C : Cx p s m args meth c G A nL cc own)   (hdg : decode cc pc = .ok (.fconst 1, 1)) (kk : J p l e R s m args below meth c Q G A nL k n ws lv (pc + 1) (.float FP.fconst1 :: st)) : J p l e R s m args below meth c Q G A nL k n ws lv pc (st) := fun H locs ls hP hD hS hl => lv_fconst1 C.1 C.2.1 hdg (kk H locs ls hP hD hS hl)
theorem J_dconst0 (C : Cx p s m args meth c G A nL cc own)   (hdg : decode cc pc = .ok (.dconst 0, 1)) (kk : J p l e R s m args below meth c Q G A nL k n ws lv (pc + 1) (.double FP.dconst0 :: st)) : J p l e R s m args below meth c Q G A nL k n ws lv pc (st) := fun H locs ls hP hD hS hl => lv_dconst0 C.1 C.2.1 hdg (kk H locs ls hP hD hS hl)
theorem J_null (C : Cx p s m args meth c G A nL cc own)   (hdg : decode cc pc = .ok (.aconst_null, 1)) (kk : J p l e R s m args below meth c Q G A nL k n ws lv (pc + 1) (.null :: st)) : J p l e R s m args below meth c Q G A nL k n ws lv pc (st) := fun H locs ls hP hD hS hl => lv_null C.1 C.2.1 hdg (kk H locs ls hP hD hS hl)
theorem J_ldc (C : Cx p s m args meth c G A nL cc own) {index : Nat} {v : Int32} (hw : Cond.constant own index v ∈ GW) (hdg : decode cc pc = .ok (.ldc index, 2)) (kk : J p l e R s m args below meth c Q G A nL k n ws lv (pc + 2) (.int v :: st)) : J p l e R s m args below meth c Q G A nL k n ws lv pc (st) := fun H locs ls hP hD hS hl => lv_ldc C.1 C.2.1 C.2.2.2.1 (C.2.2.2.2.1 _ hw) hdg (kk H locs ls hP hD hS hl)
theorem J_ldcf (C : Cx p s m args meth c G A nL cc own) {index : Nat} {v : UInt32} (hw : Cond.constantFloat own index v ∈ GW) (hdg : decode cc pc = .ok (.ldc index, 2)) (kk : J p l e R s m args below meth c Q G A nL k n ws lv (pc + 2) (.float v :: st)) : J p l e R s m args below meth c Q G A nL k n ws lv pc (st) := fun H locs ls hP hD hS hl => lv_ldcf C.1 C.2.1 C.2.2.2.1 (C.2.2.2.2.1 _ hw) hdg (kk H locs ls hP hD hS hl)
theorem J_ldc2 (C : Cx p s m args meth c G A nL cc own) {index : Nat} {v : Int64} (hw : Cond.constantLong own index v ∈ GW) (hdg : decode cc pc = .ok (.ldc2_w index, 3)) (kk : J p l e R s m args below meth c Q G A nL k n ws lv (pc + 3) (.long v :: st)) : J p l e R s m args below meth c Q G A nL k n ws lv pc (st) := fun H locs ls hP hD hS hl => lv_ldc2 C.1 C.2.1 C.2.2.2.1 (C.2.2.2.2.1 _ hw) hdg (kk H locs ls hP hD hS hl)
theorem J_ldc2d (C : Cx p s m args meth c G A nL cc own) {index : Nat} {v : UInt64} (hw : Cond.constantDouble own index v ∈ GW) (hdg : decode cc pc = .ok (.ldc2_w index, 3)) (kk : J p l e R s m args below meth c Q G A nL k n ws lv (pc + 3) (.double v :: st)) : J p l e R s m args below meth c Q G A nL k n ws lv pc (st) := fun H locs ls hP hD hS hl => lv_ldc2d C.1 C.2.1 C.2.2.2.1 (C.2.2.2.2.1 _ hw) hdg (kk H locs ls hP hD hS hl)
theorem J_dup (C : Cx p s m args meth c G A nL cc own) {va : Value} (hva : va.category = 1) (hdg : decode cc pc = .ok (.dup, 1)) (kk : J p l e R s m args below meth c Q G A nL k n ws lv (pc + 1) (va :: va :: st)) : J p l e R s m args below meth c Q G A nL k n ws lv pc (va :: st) := fun H locs ls hP hD hS hl => lv_dup C.1 C.2.1 hdg hva (kk H locs ls hP hD hS hl)
theorem J_pop (C : Cx p s m args meth c G A nL cc own) {va : Value} (hva : va.category = 1) (hdg : decode cc pc = .ok (.pop, 1)) (kk : J p l e R s m args below meth c Q G A nL k n ws lv (pc + 1) (st)) : J p l e R s m args below meth c Q G A nL k n ws lv pc (va :: st) := fun H locs ls hP hD hS hl => lv_pop C.1 C.2.1 hdg hva (kk H locs ls hP hD hS hl)
theorem J_dup2 (C : Cx p s m args meth c G A nL cc own) {va vb : Value} (hva : va.category = 1) (hvb : vb.category = 1) (hdg : decode cc pc = .ok (.dup2, 1)) (kk : J p l e R s m args below meth c Q G A nL k n ws lv (pc + 1) (va :: vb :: va :: vb :: st)) : J p l e R s m args below meth c Q G A nL k n ws lv pc (va :: vb :: st) := fun H locs ls hP hD hS hl => lv_dup2_11 C.1 C.2.1 hdg hva hvb (kk H locs ls hP hD hS hl)
theorem J_goto (C : Cx p s m args meth c G A nL cc own) {off : Int} (tgt : Nat) (ht : (pc : Int) + off = (tgt : Int)) (hdg : decode cc pc = .ok (.goto off, 3)) (kk : J p l e R s m args below meth c Q G A nL k n ws lv tgt (st)) : J p l e R s m args below meth c Q G A nL k n ws lv pc (st) := fun H locs ls hP hD hS hl => lv_goto C.1 C.2.1 hdg ht (kk H locs ls hP hD hS hl)
theorem J_if_eq (C : Cx p s m args meth c G A nL cc own) {x : Int32} {off : Int} (tgt : Nat) (ht : (pc : Int) + off = (tgt : Int)) (hdg : decode cc pc = .ok (.ifCond .eq off, 3)) (kt : (x = 0) → J p l e R s m args below meth c Q G A nL k n ws lv tgt st) (kf : (¬ x = 0) → J p l e R s m args below meth c Q G A nL k n ws lv (pc + 3) st) : J p l e R s m args below meth c Q G A nL k n ws lv pc (.int x :: st) := fun H locs ls hP hD hS hl => lv_if_eq C.1 C.2.1 hdg ht (fun h => kt h H locs ls hP hD hS hl) (fun h => kf h H locs ls hP hD hS hl)
theorem J_icmp_eq (C : Cx p s m args meth c G A nL cc own) {x y : Int32} {off : Int} (tgt : Nat) (ht : (pc : Int) + off = (tgt : Int)) (hdg : decode cc pc = .ok (.if_icmp .eq off, 3)) (kt : (x = y) → J p l e R s m args below meth c Q G A nL k n ws lv tgt st) (kf : (¬ x = y) → J p l e R s m args below meth c Q G A nL k n ws lv (pc + 3) st) : J p l e R s m args below meth c Q G A nL k n ws lv pc (.int y :: .int x :: st) := fun H locs ls hP hD hS hl => lv_icmp_eq C.1 C.2.1 hdg ht (fun h => kt h H locs ls hP hD hS hl) (fun h => kf h H locs ls hP hD hS hl)
theorem J_if_ne (C : Cx p s m args meth c G A nL cc own) {x : Int32} {off : Int} (tgt : Nat) (ht : (pc : Int) + off = (tgt : Int)) (hdg : decode cc pc = .ok (.ifCond .ne off, 3)) (kt : (¬ x = 0) → J p l e R s m args below meth c Q G A nL k n ws lv tgt st) (kf : (x = 0) → J p l e R s m args below meth c Q G A nL k n ws lv (pc + 3) st) : J p l e R s m args below meth c Q G A nL k n ws lv pc (.int x :: st) := fun H locs ls hP hD hS hl => lv_if_ne C.1 C.2.1 hdg ht (fun h => kt h H locs ls hP hD hS hl) (fun h => kf h H locs ls hP hD hS hl)
theorem J_icmp_ne (C : Cx p s m args meth c G A nL cc own) {x y : Int32} {off : Int} (tgt : Nat) (ht : (pc : Int) + off = (tgt : Int)) (hdg : decode cc pc = .ok (.if_icmp .ne off, 3)) (kt : (¬ x = y) → J p l e R s m args below meth c Q G A nL k n ws lv tgt st) (kf : (x = y) → J p l e R s m args below meth c Q G A nL k n ws lv (pc + 3) st) : J p l e R s m args below meth c Q G A nL k n ws lv pc (.int y :: .int x :: st) := fun H locs ls hP hD hS hl => lv_icmp_ne C.1 C.2.1 hdg ht (fun h => kt h H locs ls hP hD hS hl) (fun h => kf h H locs ls hP hD hS hl)
theorem J_if_lt (C : Cx p s m args meth c G A nL cc own) {x : Int32} {off : Int} (tgt : Nat) (ht : (pc : Int) + off = (tgt : Int)) (hdg : decode cc pc = .ok (.ifCond .lt off, 3)) (kt : (x < 0) → J p l e R s m args below meth c Q G A nL k n ws lv tgt st) (kf : (¬ x < 0) → J p l e R s m args below meth c Q G A nL k n ws lv (pc + 3) st) : J p l e R s m args below meth c Q G A nL k n ws lv pc (.int x :: st) := fun H locs ls hP hD hS hl => lv_if_lt C.1 C.2.1 hdg ht (fun h => kt h H locs ls hP hD hS hl) (fun h => kf h H locs ls hP hD hS hl)
theorem J_icmp_lt (C : Cx p s m args meth c G A nL cc own) {x y : Int32} {off : Int} (tgt : Nat) (ht : (pc : Int) + off = (tgt : Int)) (hdg : decode cc pc = .ok (.if_icmp .lt off, 3)) (kt : (x < y) → J p l e R s m args below meth c Q G A nL k n ws lv tgt st) (kf : (¬ x < y) → J p l e R s m args below meth c Q G A nL k n ws lv (pc + 3) st) : J p l e R s m args below meth c Q G A nL k n ws lv pc (.int y :: .int x :: st) := fun H locs ls hP hD hS hl => lv_icmp_lt C.1 C.2.1 hdg ht (fun h => kt h H locs ls hP hD hS hl) (fun h => kf h H locs ls hP hD hS hl)
theorem J_if_ge (C : Cx p s m args meth c G A nL cc own) {x : Int32} {off : Int} (tgt : Nat) (ht : (pc : Int) + off = (tgt : Int)) (hdg : decode cc pc = .ok (.ifCond .ge off, 3)) (kt : (0 ≤ x) → J p l e R s m args below meth c Q G A nL k n ws lv tgt st) (kf : (¬ 0 ≤ x) → J p l e R s m args below meth c Q G A nL k n ws lv (pc + 3) st) : J p l e R s m args below meth c Q G A nL k n ws lv pc (.int x :: st) := fun H locs ls hP hD hS hl => lv_if_ge C.1 C.2.1 hdg ht (fun h => kt h H locs ls hP hD hS hl) (fun h => kf h H locs ls hP hD hS hl)
theorem J_icmp_ge (C : Cx p s m args meth c G A nL cc own) {x y : Int32} {off : Int} (tgt : Nat) (ht : (pc : Int) + off = (tgt : Int)) (hdg : decode cc pc = .ok (.if_icmp .ge off, 3)) (kt : (y ≤ x) → J p l e R s m args below meth c Q G A nL k n ws lv tgt st) (kf : (¬ y ≤ x) → J p l e R s m args below meth c Q G A nL k n ws lv (pc + 3) st) : J p l e R s m args below meth c Q G A nL k n ws lv pc (.int y :: .int x :: st) := fun H locs ls hP hD hS hl => lv_icmp_ge C.1 C.2.1 hdg ht (fun h => kt h H locs ls hP hD hS hl) (fun h => kf h H locs ls hP hD hS hl)
theorem J_if_gt (C : Cx p s m args meth c G A nL cc own) {x : Int32} {off : Int} (tgt : Nat) (ht : (pc : Int) + off = (tgt : Int)) (hdg : decode cc pc = .ok (.ifCond .gt off, 3)) (kt : (0 < x) → J p l e R s m args below meth c Q G A nL k n ws lv tgt st) (kf : (¬ 0 < x) → J p l e R s m args below meth c Q G A nL k n ws lv (pc + 3) st) : J p l e R s m args below meth c Q G A nL k n ws lv pc (.int x :: st) := fun H locs ls hP hD hS hl => lv_if_gt C.1 C.2.1 hdg ht (fun h => kt h H locs ls hP hD hS hl) (fun h => kf h H locs ls hP hD hS hl)
theorem J_icmp_gt (C : Cx p s m args meth c G A nL cc own) {x y : Int32} {off : Int} (tgt : Nat) (ht : (pc : Int) + off = (tgt : Int)) (hdg : decode cc pc = .ok (.if_icmp .gt off, 3)) (kt : (y < x) → J p l e R s m args below meth c Q G A nL k n ws lv tgt st) (kf : (¬ y < x) → J p l e R s m args below meth c Q G A nL k n ws lv (pc + 3) st) : J p l e R s m args below meth c Q G A nL k n ws lv pc (.int y :: .int x :: st) := fun H locs ls hP hD hS hl => lv_icmp_gt C.1 C.2.1 hdg ht (fun h => kt h H locs ls hP hD hS hl) (fun h => kf h H locs ls hP hD hS hl)
theorem J_if_le (C : Cx p s m args meth c G A nL cc own) {x : Int32} {off : Int} (tgt : Nat) (ht : (pc : Int) + off = (tgt : Int)) (hdg : decode cc pc = .ok (.ifCond .le off, 3)) (kt : (x ≤ 0) → J p l e R s m args below meth c Q G A nL k n ws lv tgt st) (kf : (¬ x ≤ 0) → J p l e R s m args below meth c Q G A nL k n ws lv (pc + 3) st) : J p l e R s m args below meth c Q G A nL k n ws lv pc (.int x :: st) := fun H locs ls hP hD hS hl => lv_if_le C.1 C.2.1 hdg ht (fun h => kt h H locs ls hP hD hS hl) (fun h => kf h H locs ls hP hD hS hl)
theorem J_icmp_le (C : Cx p s m args meth c G A nL cc own) {x y : Int32} {off : Int} (tgt : Nat) (ht : (pc : Int) + off = (tgt : Int)) (hdg : decode cc pc = .ok (.if_icmp .le off, 3)) (kt : (x ≤ y) → J p l e R s m args below meth c Q G A nL k n ws lv tgt st) (kf : (¬ x ≤ y) → J p l e R s m args below meth c Q G A nL k n ws lv (pc + 3) st) : J p l e R s m args below meth c Q G A nL k n ws lv pc (.int y :: .int x :: st) := fun H locs ls hP hD hS hl => lv_icmp_le C.1 C.2.1 hdg ht (fun h => kt h H locs ls hP hD hS hl) (fun h => kf h H locs ls hP hD hS hl)
theorem J_ifnull (C : Cx p s m args meth c G A nL cc own) {x : Nat} {off : Int}  (hdg : decode cc pc = .ok (.ifnull off, 3)) (kk : J p l e R s m args below meth c Q G A nL k n ws lv (pc + 3) (st)) : J p l e R s m args below meth c Q G A nL k n ws lv pc (.ref x :: st) := fun H locs ls hP hD hS hl => lv_ifnull C.1 C.2.1 hdg (kk H locs ls hP hD hS hl)
theorem J_ifnonnullN (C : Cx p s m args meth c G A nL cc own) {off : Int}  (hdg : decode cc pc = .ok (.ifnonnull off, 3)) (kk : J p l e R s m args below meth c Q G A nL k n ws lv (pc + 3) (st)) : J p l e R s m args below meth c Q G A nL k n ws lv pc (.null :: st) := fun H locs ls hP hD hS hl => lv_ifnonnullN C.1 C.2.1 hdg (kk H locs ls hP hD hS hl)
theorem J_tableIn (C : Cx p s m args meth c G A nL cc own) {dflt lo hi : Int} {offs : Array Int} {len : Nat} {x : Int32} {off : Int} (tgt : Nat) (h1 : ¬ x.toInt < lo) (h2 : ¬ hi < x.toInt) (ho : offs[(x.toInt - lo).toNat]? = some off) (ht : (pc : Int) + off = (tgt : Int)) (hdg : decode cc pc = .ok (.tableswitch dflt lo hi offs, len)) (kk : J p l e R s m args below meth c Q G A nL k n ws lv tgt st) : J p l e R s m args below meth c Q G A nL k n ws lv pc (.int x :: st) := fun H locs ls hP hD hS hl => lv_tableIn C.1 C.2.1 hdg h1 h2 ho ht (kk H locs ls hP hD hS hl)
theorem J_tableOut (C : Cx p s m args meth c G A nL cc own) {dflt lo hi : Int} {offs : Array Int} {len : Nat} {x : Int32} (tgt : Nat) (h : x.toInt < lo ∨ hi < x.toInt) (ht : (pc : Int) + dflt = (tgt : Int)) (hdg : decode cc pc = .ok (.tableswitch dflt lo hi offs, len)) (kk : J p l e R s m args below meth c Q G A nL k n ws lv tgt st) : J p l e R s m args below meth c Q G A nL k n ws lv pc (.int x :: st) := fun H locs ls hP hD hS hl => lv_tableOut C.1 C.2.1 hdg h ht (kk H locs ls hP hD hS hl)
theorem J_get (C : Cx p s m args meth c G A nL cc own) {Cn : String} {T : u_T} {N ci index a : Nat} {fs : List Value} (q0 kf : Nat) (hin : ∀ w ∈ u_ws Cn T N, w ∈ GW) {v : Value} (he : ws[q0]? = some (a, .inr (ci, fs))) (hc : vwCl[ci]? = some (Cn, T, N)) (hk : kf < N) (hlink : Cond.fieldLink own index (T kf).1 (T kf).2.1 (T kf).2.2.1 ∈ GW) (hv : fs[kf]? = some v) (hdg : decode cc pc = .ok (.getfield index, 3)) (kk : J p l e R s m args below meth c Q G A nL k n ws lv (pc + 3) (v :: st)) : J p l e R s m args below meth c Q G A nL k n ws lv pc (.ref a :: st) := fun H locs ls hP hD hS hl => va_get C.1 C.2.1 C.2.2.2.2.1 hin C.2.2.2.1 C.2.2.2.2.2.1.1 hP q0 he hc kf hk (C.2.2.2.2.1 _ hlink) (fun _ h9 => h9) hv hdg (kk H locs ls hP hD hS hl)
theorem J_getN (C : Cx p s m args meth c G A nL cc own) {Cn : String} {T : u_T} {N ci index a : Nat} {fs : List Value} (q0 kf : Nat) (hin : ∀ w ∈ u_ws Cn T N, w ∈ GW) {v : Value} {host : String} (he : ws[q0]? = some (a, .inr (ci, fs))) (hc : vwCl[ci]? = some (Cn, T, N)) (hk : kf < N) (hlink : ∀ {U : State}, NOK U → va_Nw (.fieldLinkNest own index (T kf).1 (T kf).2.1 (T kf).2.2.1 host) U) (hv : fs[kf]? = some v) (hdg : decode cc pc = .ok (.getfield index, 3)) (kk : J p l e R s m args below meth c Q G A nL k n ws lv (pc + 3) (v :: st)) : J p l e R s m args below meth c Q G A nL k n ws lv pc (.ref a :: st) := fun H locs ls hP hD hS hl => va_getN C.1 C.2.1 C.2.2.2.2.1 hin C.2.2.2.1 C.2.2.2.2.2.1.1 hP q0 he hc kf hk (va_Nw.use rfl (hlink C.2.2.2.2.2.1.2)) (fun _ h9 => h9) hv hdg (kk H locs ls hP hD hS hl)
theorem J_put (C : Cx p s m args meth c G A nL cc own) {Cn : String} {T : u_T} {N ci index a : Nat} {fs : List Value} (q0 kf : Nat) (hin : ∀ w ∈ u_ws Cn T N, w ∈ GW) (ty0 : Nat → FieldType) (hty : ∀ k, k < N → parseFieldDescriptor (T k).2.2.1 = some (ty0 k)) (hnm : ∀ a, a < N → ∀ b, b < N → a ≠ b → (T a).2.1 ≠ (T b).2.1) {v : Value} (ws' : va_W) (he : ws[q0]? = some (a, .inr (ci, fs))) (hc : vwCl[ci]? = some (Cn, T, N)) (hk : kf < N) (hlink : Cond.fieldLink own index (T kf).1 (T kf).2.1 (T kf).2.2.1 ∈ GW) (hfin : (T kf).2.2.2 = false) (hn : narrow (ty0 kf) v = v) (hfit : fits (ty0 kf) v = true) (hlen : kf < fs.length) (hw : ws.set q0 (a, .inr (ci, fs.set kf v)) = ws') (hdg : decode cc pc = .ok (.putfield index, 3)) (kk : J p l e R s m args below meth c Q G A nL k n ws' lv (pc + 3) st) : J p l e R s m args below meth c Q G A nL k n ws lv pc (v :: .ref a :: st) := fun H locs ls hP hD hS hl => va_put C.1 C.2.1 C.2.2.2.2.1 hin ty0 hty hnm C.2.2.2.1 C.2.2.2.2.2.1.1 hP hD hS q0 he hc kf hk (C.2.2.2.2.1 _ hlink) (fun _ h9 => h9) hfin (hty kf hk) hn hfit hlen hdg (fun H1 locs1 hP1 hD1 hS1 => by rw [hw] at hP1 hD1; exact kk H1 locs1 ls hP1 hD1 hS1 hl)
theorem J_putN (C : Cx p s m args meth c G A nL cc own) {Cn : String} {T : u_T} {N ci index a : Nat} {fs : List Value} (q0 kf : Nat) (hin : ∀ w ∈ u_ws Cn T N, w ∈ GW) (ty0 : Nat → FieldType) (hty : ∀ k, k < N → parseFieldDescriptor (T k).2.2.1 = some (ty0 k)) (hnm : ∀ a, a < N → ∀ b, b < N → a ≠ b → (T a).2.1 ≠ (T b).2.1) {v : Value} (ws' : va_W) {host : String} (he : ws[q0]? = some (a, .inr (ci, fs))) (hc : vwCl[ci]? = some (Cn, T, N)) (hk : kf < N) (hlink : ∀ {U : State}, NOK U → va_Nw (.fieldLinkNest own index (T kf).1 (T kf).2.1 (T kf).2.2.1 host) U) (hfin : (T kf).2.2.2 = false) (hn : narrow (ty0 kf) v = v) (hfit : fits (ty0 kf) v = true) (hlen : kf < fs.length) (hw : ws.set q0 (a, .inr (ci, fs.set kf v)) = ws') (hdg : decode cc pc = .ok (.putfield index, 3)) (kk : J p l e R s m args below meth c Q G A nL k n ws' lv (pc + 3) st) : J p l e R s m args below meth c Q G A nL k n ws lv pc (v :: .ref a :: st) := fun H locs ls hP hD hS hl => va_putN C.1 C.2.1 C.2.2.2.2.1 hin ty0 hty hnm C.2.2.2.1 C.2.2.2.2.2.1.1 hP hD hS q0 he hc kf hk (va_Nw.use rfl (hlink C.2.2.2.2.2.1.2)) (fun _ h9 => h9) hfin (hty kf hk) hn hfit hlen hdg (fun H1 locs1 hP1 hD1 hS1 => by rw [hw] at hP1 hD1; exact kk H1 locs1 ls hP1 hD1 hS1 hl)
theorem J_putF (C : Cx p s m args meth c G A nL cc own) {Cn : String} {T : u_T} {N ci index a : Nat} {fs : List Value} (q0 kf : Nat) (hin : ∀ w ∈ u_ws Cn T N, w ∈ GW) (ty0 : Nat → FieldType) (hty : ∀ k, k < N → parseFieldDescriptor (T k).2.2.1 = some (ty0 k)) (hnm : ∀ a, a < N → ∀ b, b < N → a ≠ b → (T a).2.1 ≠ (T b).2.1) {v : Value} (ws' : va_W) (he : ws[q0]? = some (a, .inr (ci, fs))) (hc : vwCl[ci]? = some (Cn, T, N)) (hk : kf < N) (hlink : Cond.fieldLink own index (T kf).1 (T kf).2.1 (T kf).2.2.1 ∈ GW) (hfin : (T kf).2.2.2 = true) (hin2 : meth.name = "<init>") (hdecl : (T kf).1 = own) (hn : narrow (ty0 kf) v = v) (hfit : fits (ty0 kf) v = true) (hlen : kf < fs.length) (hw : ws.set q0 (a, .inr (ci, fs.set kf v)) = ws') (hdg : decode cc pc = .ok (.putfield index, 3)) (kk : J p l e R s m args below meth c Q G A nL k n ws' lv (pc + 3) st) : J p l e R s m args below meth c Q G A nL k n ws lv pc (v :: .ref a :: st) := fun H locs ls hP hD hS hl => va_putF C.1 C.2.1 C.2.2.2.2.1 hin ty0 hty hnm C.2.2.2.1 C.2.2.2.2.2.1.1 hP hD hS q0 he hc kf hk (C.2.2.2.2.1 _ hlink) (fun _ h9 => h9) hfin hin2 hdecl (hty kf hk) hn hfit hlen hdg (fun H1 locs1 hP1 hD1 hS1 => by rw [hw] at hP1 hD1; exact kk H1 locs1 ls hP1 hD1 hS1 hl)
theorem ix_in {N j : Nat} {i : Int32} (hi : i = nI j) (hj : j < N) (hN : N ≤ 4096) : vp_in i N ∧ i.toNatClampNeg = j := by subst hi; exact ⟨vp_in_nI hj (by omega), nI_clamp (by omega)⟩
theorem J_iald (C : Cx p s m args meth c G A nL cc own) {a N : Nat} {i : Int32} {f : Nat → Int32} (q0 : Nat) (he : ws[q0]? = some (a, .inl (G.2.1, N, .inl f))) (j : Nat) (hi : i = nI j) (hj : j < N) (hN : N ≤ 4096) (hdg : decode cc pc = .ok (.iaload, 1)) (kk : J p l e R s m args below meth c Q G A nL k n ws lv (pc + 1) (.int (f j) :: st)) : J p l e R s m args below meth c Q G A nL k n ws lv pc (.int i :: .ref a :: st) := by
  obtain ⟨h1, h2⟩ := ix_in hi hj hN
  subst h2
  exact fun H locs ls hP hD hS hl => va_iald C.1 C.2.1 C.2.2.2.2.2.1.1 hP q0 0 he rfl h1 hdg (kk H locs ls hP hD hS hl)
theorem J_cald (C : Cx p s m args meth c G A nL cc own) {a N : Nat} {i : Int32} {f : Nat → Int32} (q0 : Nat) (he : ws[q0]? = some (a, .inl (G.2.2.1, N, .inl f))) (j : Nat) (hi : i = nI j) (hj : j < N) (hN : N ≤ 4096) (hdg : decode cc pc = .ok (.caload, 1)) (kk : J p l e R s m args below meth c Q G A nL k n ws lv (pc + 1) (.int (f j) :: st)) : J p l e R s m args below meth c Q G A nL k n ws lv pc (.int i :: .ref a :: st) := by
  obtain ⟨h1, h2⟩ := ix_in hi hj hN
  subst h2
  exact fun H locs ls hP hD hS hl => va_cald C.1 C.2.1 C.2.2.2.2.2.1.1 hP q0 1 he rfl h1 hdg (kk H locs ls hP hD hS hl)
theorem J_aald (C : Cx p s m args meth c G A nL cc own) {a N : Nat} {i : Int32} {f : Nat → Option Nat} (q0 : Nat) (he : ws[q0]? = some (a, .inl (G.2.2.2, N, .inr (.inr (.inr (.inr f)))))) (j : Nat) (hi : i = nI j) (hj : j < N) (hN : N ≤ 4096) (hdg : decode cc pc = .ok (.aaload, 1)) (kk : J p l e R s m args below meth c Q G A nL k n ws lv (pc + 1) (va_rf (f j) :: st)) : J p l e R s m args below meth c Q G A nL k n ws lv pc (.int i :: .ref a :: st) := by
  obtain ⟨h1, h2⟩ := ix_in hi hj hN
  subst h2
  exact fun H locs ls hP hD hS hl => va_aldq C.1 C.2.1 C.2.2.2.2.2.1.1 hP q0 2 he rfl h1 hdg (kk H locs ls hP hD hS hl)
theorem J_iast (C : Cx p s m args meth c G A nL cc own) {a N : Nat} {i : Int32} {x : Int32} {f : Nat → Int32} (q0 : Nat) (ws' : va_W) (he : ws[q0]? = some (a, .inl (G.2.1, N, .inl f))) (j : Nat) (hi : i = nI j) (hj : j < N) (hN : N ≤ 4096) (hw : ws.set q0 (a, .inl (G.2.1, N, .inl (upd f j x))) = ws') (hdg : decode cc pc = .ok (.iastore, 1)) (kk : J p l e R s m args below meth c Q G A nL k n ws' lv (pc + 1) st) : J p l e R s m args below meth c Q G A nL k n ws lv pc (.int x :: .int i :: .ref a :: st) := by
  obtain ⟨h1, h2⟩ := ix_in hi hj hN
  subst h2
  exact fun H locs ls hP hD hS hl => va_iast C.1 C.2.1 C.2.2.2.2.2.1.1 hP hD hS q0 0 he rfl h1 hdg (fun H1 locs1 hP1 hD1 hS1 => by rw [hw] at hP1 hD1; exact kk H1 locs1 ls hP1 hD1 hS1 hl)
theorem J_cast (C : Cx p s m args meth c G A nL cc own) {a N : Nat} {i : Int32} {x : Int32} {f : Nat → Int32} (q0 : Nat) (ws' : va_W) (he : ws[q0]? = some (a, .inl (G.2.2.1, N, .inl f))) (j : Nat) (hi : i = nI j) (hj : j < N) (hN : N ≤ 4096) (hw : ws.set q0 (a, .inl (G.2.2.1, N, .inl (upd f j (vp_nar .char x)))) = ws') (hdg : decode cc pc = .ok (.castore, 1)) (kk : J p l e R s m args below meth c Q G A nL k n ws' lv (pc + 1) st) : J p l e R s m args below meth c Q G A nL k n ws lv pc (.int x :: .int i :: .ref a :: st) := by
  obtain ⟨h1, h2⟩ := ix_in hi hj hN
  subst h2
  exact fun H locs ls hP hD hS hl => va_cast C.1 C.2.1 C.2.2.2.2.2.1.1 hP hD hS q0 1 he rfl h1 hdg (fun H1 locs1 hP1 hD1 hS1 => by rw [hw] at hP1 hD1; exact kk H1 locs1 ls hP1 hD1 hS1 hl)
theorem J_aast (C : Cx p s m args meth c G A nL cc own) {a N : Nat} {i : Int32} {v ci : Nat} {vs : List Value} {f : Nat → Option Nat} (q0 qk : Nat) (ws' : va_W) {r : vw_C} (he : ws[q0]? = some (a, .inl (G.2.2.2, N, .inr (.inr (.inr (.inr f)))))) (hv : ws[qk]? = some (v, .inr (ci, vs))) (hc : vwCl[ci]? = some r) (hr : r.1 = "TwoScribes$State") (j : Nat) (hi : i = nI j) (hj : j < N) (hN : N ≤ 4096) (hw : ws.set q0 (a, .inl (G.2.2.2, N, .inr (.inr (.inr (.inr (va_up f j (some v))))))) = ws') (hdg : decode cc pc = .ok (.aastore, 1)) (kk : J p l e R s m args below meth c Q G A nL k n ws' lv (pc + 1) st) : J p l e R s m args below meth c Q G A nL k n ws lv pc (.ref v :: .int i :: .ref a :: st) := by
  obtain ⟨h1, h2⟩ := ix_in hi hj hN
  subst h2
  exact fun H locs ls hP hD hS hl => va_astq C.1 C.2.1 C.2.2.2.2.2.1.1 hP hD hS q0 2 qk ci he (by rw [hr]; rfl) hv hc h1 hdg (fun H1 locs1 hP1 hD1 hS1 => by rw [hw] at hP1 hD1; exact kk H1 locs1 ls hP1 hD1 hS1 hl)
theorem J_ilen (C : Cx p s m args meth c G A nL cc own) {a N : Nat} {f : Nat → Int32} (q0 : Nat) (he : ws[q0]? = some (a, .inl (G.2.1, N, .inl f))) (hdg : decode cc pc = .ok (.arraylength, 1)) (kk : J p l e R s m args below meth c Q G A nL k n ws lv (pc + 1) (.int (nI N) :: st)) : J p l e R s m args below meth c Q G A nL k n ws lv pc (.ref a :: st) := fun H locs ls hP hD hS hl => va_alen C.1 C.2.1 C.2.2.2.2.2.1.1 hP q0 0 he rfl rfl hdg (kk H locs ls hP hD hS hl)
theorem J_clen (C : Cx p s m args meth c G A nL cc own) {a N : Nat} {f : Nat → Int32} (q0 : Nat) (he : ws[q0]? = some (a, .inl (G.2.2.1, N, .inl f))) (hdg : decode cc pc = .ok (.arraylength, 1)) (kk : J p l e R s m args below meth c Q G A nL k n ws lv (pc + 1) (.int (nI N) :: st)) : J p l e R s m args below meth c Q G A nL k n ws lv pc (.ref a :: st) := fun H locs ls hP hD hS hl => va_alen C.1 C.2.1 C.2.2.2.2.2.1.1 hP q0 1 he rfl rfl hdg (kk H locs ls hP hD hS hl)
theorem J_alen (C : Cx p s m args meth c G A nL cc own) {a N : Nat} {f : Nat → Option Nat} (q0 : Nat) (he : ws[q0]? = some (a, .inl (G.2.2.2, N, .inr (.inr (.inr (.inr f)))))) (hdg : decode cc pc = .ok (.arraylength, 1)) (kk : J p l e R s m args below meth c Q G A nL k n ws lv (pc + 1) (.int (nI N) :: st)) : J p l e R s m args below meth c Q G A nL k n ws lv pc (.ref a :: st) := fun H locs ls hP hD hS hl => va_alen C.1 C.2.1 C.2.2.2.2.2.1.1 hP q0 2 he rfl rfl hdg (kk H locs ls hP hD hS hl)
theorem J_lvp (ks : List Nat) (lv' : List (Nat × Value)) (h : lv_pick lv ks = lv') (kk : J p l e R s m args below meth c Q G A nL k n ws lv' pc st) : J p l e R s m args below meth c Q G A nL k n ws lv pc st := fun H locs ls hP hD hS hl => kk H locs ls hP hD hS (lv_sub hl ks h)
theorem J_loop {σ : Type} (WF : σ → va_W) (LF : σ → List (Nat × Value)) (I : σ → Prop) (μ : σ → Nat) (hs : ∀ x, I x → (∀ z, I z → μ z < μ x → J p l e R s m args below meth c Q G A nL k n (WF z) (LF z) pc st) → J p l e R s m args below meth c Q G A nL k n (WF x) (LF x) pc st) (x0 : σ) (h0 : I x0) (hw : ws = WF x0) (hlv : lv = LF x0) : J p l e R s m args below meth c Q G A nL k n ws lv pc st := by
  have key : ∀ (f : Nat) (x : σ), μ x < f → I x → J p l e R s m args below meth c Q G A nL k n (WF x) (LF x) pc st := by
    intro f
    induction f with
    | zero => intro x hx; omega
    | succ f ih => intro x hx hI; exact hs x hI (fun z hz hlt => ih z (by omega) hz)
  subst hw
  subst hlv
  exact key (μ x0 + 1) x0 (by omega) h0
theorem J_lcmp (C : Cx p s m args meth c G A nL cc own) {x y : Int64} (hdg : decode cc pc = .ok (.lcmp, 1)) (kk : J p l e R s m args below meth c Q G A nL k n ws lv (pc + 1) (.int (lg_cmp x y) :: st)) : J p l e R s m args below meth c Q G A nL k n ws lv pc (.long y :: .long x :: st) := fun H locs ls hP hD hS hl => W.lcmp C.1 C.2.1 hdg (kk H locs ls hP hD hS hl)
/-! ends -/
theorem J_zret {S : Type} {post : S → Prop} {ret1 : S → Option Value} {W1 : S → va_W} (C : Cx p s m args meth c G A nL cc own) {v : Int32} {ty : FieldType} (hr : meth.sig.returnType = some ty) (hn : narrow ty (.int v) = .int v) (hdg : decode cc pc = .ok (.ireturn, 1)) (u : S) (hv : ret1 u = some (.int v)) (hpost : post u) (hw : ws = W1 u) : J p l e R s m args below meth c (MQ below (QcG post ret1 W1 G A) args s k n A) G A nL k n ws lv pc [.int v] := fun H locs ls hP hD hS hl => W.zret C.1 C.2.1 hr hn (fun t ht hW => ⟨⟨u, by rw [hv], hpost, by rw [ht, ← hw]; exact hP, by rw [← hw]; exact hD⟩, hS.F ht⟩) hS.2.2 hdg C.2.2.2.2.2.2.2
theorem J_vret {S : Type} {post : S → Prop} {ret1 : S → Option Value} {W1 : S → va_W} (C : Cx p s m args meth c G A nL cc own) (hr : meth.sig.returnType = none) (hdg : decode cc pc = .ok (.return_, 1)) (u : S) (hv : ret1 u = none) (hpost : post u) (hw : ws = W1 u) : J p l e R s m args below meth c (MQ below (QcG post ret1 W1 G A) args s k n A) G A nL k n ws lv pc [] := fun H locs ls hP hD hS hl => W.vret C.1 C.2.1 hr (fun t ht hW => ⟨⟨u, by rw [hv], hpost, by rw [ht, ← hw]; exact hP, by rw [← hw]; exact hD⟩, hS.F ht⟩) hS.2.2 hdg C.2.2.2.2.2.2.2
theorem J_fret {S : Type} {post : S → Prop} {ret1 : S → Option Value} {W1 : S → va_W} (C : Cx p s m args meth c G A nL cc own) {v : UInt32} (hr : meth.sig.returnType = some .float) (hdg : decode cc pc = .ok (.freturn, 1)) (u : S) (hv : ret1 u = some (.float v)) (hpost : post u) (hw : ws = W1 u) : J p l e R s m args below meth c (MQ below (QcG post ret1 W1 G A) args s k n A) G A nL k n ws lv pc [.float v] := fun H locs ls hP hD hS hl => W.fret C.1 C.2.1 hr (fun t ht hW => ⟨⟨u, by rw [hv], hpost, by rw [ht, ← hw]; exact hP, by rw [← hw]; exact hD⟩, hS.F ht⟩) hS.2.2 hdg C.2.2.2.2.2.2.2
theorem J_dret {S : Type} {post : S → Prop} {ret1 : S → Option Value} {W1 : S → va_W} (C : Cx p s m args meth c G A nL cc own) {v : UInt64} (hr : meth.sig.returnType = some .double) (hdg : decode cc pc = .ok (.dreturn, 1)) (u : S) (hv : ret1 u = some (.double v)) (hpost : post u) (hw : ws = W1 u) : J p l e R s m args below meth c (MQ below (QcG post ret1 W1 G A) args s k n A) G A nL k n ws lv pc [.double v] := fun H locs ls hP hD hS hl => W.dret C.1 C.2.1 hr (fun t ht hW => ⟨⟨u, by rw [hv], hpost, by rw [ht, ← hw]; exact hP, by rw [← hw]; exact hD⟩, hS.F ht⟩) hS.2.2 hdg C.2.2.2.2.2.2.2
theorem J_aret {S : Type} {post : S → Prop} {ret1 : S → Option Value} {W1 : S → va_W} (C : Cx p s m args meth c G A nL cc own) {v : Value} {nm : String} (hr : meth.sig.returnType = some (.object nm)) (hvr : v = .null ∨ ∃ a, v = .ref a) (hdg : decode cc pc = .ok (.areturn, 1)) (u : S) (hv : ret1 u = some v) (hpost : post u) (hw : ws = W1 u) : J p l e R s m args below meth c (MQ below (QcG post ret1 W1 G A) args s k n A) G A nL k n ws lv pc [v] := fun H locs ls hP hD hS hl => W.aret C.1 C.2.1 hr (Or.inl ⟨nm, rfl⟩) hvr (fun t ht hW => ⟨⟨u, by rw [hv], hpost, by rw [ht, ← hw]; exact hP, by rw [← hw]; exact hD⟩, hS.F ht⟩) hS.2.2 hdg C.2.2.2.2.2.2.2
/-! a contract out of a walk -/
theorem Ct.of {S : Type} {X : (Nat → Prop) → State → Prop} {y : MethodName} {ret : Option FieldType} {rm : Room} {as : List Value} {W0 : va_W} {post : S → Prop} {ret1 : S → Option Value} {W1 : S → va_W} (hy : plainName y.cls = true) (hlen : (lg_sl as).length ≤ nL)
    (body : ∀ (p : Program) (e : Env) (s : State) (m : MethodId) (args : Array Value) (below : List Frame) (meth : Method) (c : Code), Cx p s m args meth c G (va_A W0 s.heap.size) nL cc y.cls → meth.sig.returnType = ret → meth.name = y.name → X (va_A W0 s.heap.size) s → J p l e rm s m args below meth c (MQ below (QcG post ret1 W1 G (va_A W0 s.heap.size)) args s rm.cells rm.slots (va_A W0 s.heap.size)) G (va_A W0 s.heap.size) nL 0 0 W0 (lv_args 0 as) 0 []) : Ct l G X y (Wy y cc nL ret) rm as W0 post ret1 W1 := by
  intro sz
  refine Met.ofW (cc := cc) (maxL := nL) (ret := ret) hy rfl ?_
  intro p e s m args below meth c s₁ B hml hv
  obtain ⟨rfl, hsz, hP, hE, hD0, hX⟩ := hv
  subst hsz
  have hts := atoms_spec (ws := Wy y cc nL ret) B.pre
  rw [lg_entry_eq]
  exact body p e s m _ below meth c ⟨B.exec, B.bytes, hml, findClass_of_methodNamed B.named, fun w h => hts w (List.mem_cons_of_mem _ h), hE, fun q h => Or.inr h, B.notSynchronized⟩ B.returns (name_of_methodNamed B.named B.method).1 hX s.heap [] _ hP hD0.self va_S.rf (lv_entry as hlen)
/-! calls -/
theorem wb_pos {ws W0 : va_W} {is : List Nat} (h : is.map (fun i => ws[i]?) = W0.map some) {j i : Nat} {q : Nat × va_E} (hi : is[j]? = some i) (hq : ws[i]? = some q) : W0[j]? = some q := by
  have h1 : (is.map (fun i => ws[i]?))[j]? = (W0.map some)[j]? := by rw [h]
  rw [List.getElem?_map, hi, List.getElem?_map] at h1
  cases hw : W0[j]? with
  | none => rw [hw] at h1; cases h1
  | some q2 =>
    rw [hw] at h1
    have h2 : ws[i]? = some q2 := Option.some.inj h1
    rw [← h2, hq]
theorem wb_fm {ws W0 : va_W} {is : List Nat} (h : is.map (fun i => ws[i]?) = W0.map some) : is.filterMap (fun i => ws[i]?) = W0 := by
  have h1 : (is.map (fun i => ws[i]?)).filterMap id = (W0.map some).filterMap id := by rw [h]
  rw [List.filterMap_map, List.filterMap_map] at h1
  have h2 : List.filterMap (id ∘ some) W0 = W0 := by
    have : (id ∘ some : (Nat × va_E) → Option (Nat × va_E)) = some := rfl
    rw [this, List.filterMap_some]
  rw [h2] at h1
  exact h1
theorem wb {D : va_G} {cl : List vw_C} {A0 : Nat → Prop} {ws W0 W1 ws2 : va_W} {H H1 : Heap} {isC isR : List Nat} (hP : va_P D cl ws H) (hD : va_D A0 ws) (hC1 : isC.map (fun i => ws[i]?) = W0.map some) (hC2 : isC.map (fun i => ws2[i]?) = W1.map some) (hR : isR.map (fun i => ws2[i]?) = isR.map (fun i => ws[i]?)) (hall : (List.range ws2.length).all (fun i => isC.contains i || isR.contains i) = true) (hdis : isR.all (fun i => !isC.contains i) = true)
    (hk : ∀ q : Nat, q < H.size → ¬ va_A W0 H.size q → H1[q]? = H[q]?) (hF : ∀ q, va_A W0 H.size q → A0 q) (hP1 : va_P D cl W1 H1) (hD1 : va_D (va_A W0 H.size) W1) : va_P D cl ws2 H1 ∧ va_D A0 ws2 := by
  have pos : ∀ (k : Nat) (q : Nat × va_E), ws2[k]? = some q → (∃ j : Nat, isC[j]? = some k ∧ W1[j]? = some q) ∨ (k ∉ isC ∧ ws[k]? = some q) := by
    intro k q hq
    have hlt : k < ws2.length := (List.getElem?_eq_some_iff.mp hq).1
    have h1 := List.all_eq_true.mp hall k (List.mem_range.mpr hlt)
    by_cases hc : k ∈ isC
    · obtain ⟨j, hj⟩ := List.getElem?_of_mem hc
      exact Or.inl ⟨j, hj, wb_pos hC2 hj hq⟩
    · have h2 : k ∈ isR := by
        rcases Bool.or_eq_true_iff.mp h1 with h | h
        · exact absurd (List.contains_iff_mem.mp h) hc
        · exact List.contains_iff_mem.mp h
      obtain ⟨j, hj⟩ := List.getElem?_of_mem h2
      have h3 : (isR.map (fun i => ws2[i]?))[j]? = (isR.map (fun i => ws[i]?))[j]? := by rw [hR]
      rw [List.getElem?_map, hj, List.getElem?_map, hj] at h3
      have h4 : ws2[k]? = ws[k]? := Option.some.inj h3
      exact Or.inr ⟨hc, by rw [← h4]; exact hq⟩
  have apart : ∀ (k : Nat) (q : Nat × va_E), k ∉ isC → ws[k]? = some q → q.1 < H.size ∧ ¬ va_A W0 H.size q.1 := by
    intro k q hc hq
    have hl := (hP k q hq).lt
    refine ⟨hl, fun h => ?_⟩
    rcases h with ⟨k2, e2, h⟩ | h
    · have h5 : (isC.map (fun i => ws[i]?))[k2]? = some (some (q.1, e2)) := by rw [hC1, List.getElem?_map, h]; rfl
      rw [List.getElem?_map] at h5
      cases hi : isC[k2]? with
      | none => rw [hi] at h5; cases h5
      | some i =>
        rw [hi] at h5
        have h6 : ws[i]? = some (q.1, e2) := Option.some.inj h5
        have hij := hD.1 k i q (q.1, e2) hq h6 rfl
        subst hij
        exact hc (List.mem_of_getElem? hi)
    · omega
  refine ⟨fun k q hq => ?_, fun i j x y hx hy hxy => ?_, fun k q hq => ?_⟩
  · rcases pos k q hq with ⟨j, -, h2⟩ | ⟨h1, h2⟩
    · exact hP1 j q h2
    · obtain ⟨g1, g2⟩ := apart k q h1 h2
      exact (hP k q h2).kept (hk q.1 g1 g2)
  · rcases pos i x hx with ⟨a, h1, h2⟩ | ⟨h1, h2⟩ <;> rcases pos j y hy with ⟨b, h3, h4⟩ | ⟨h3, h4⟩
    · have hab := hD1.1 a b x y h2 h4 hxy
      subst hab
      rw [h1] at h3
      exact Option.some.inj h3
    · exact absurd (by rw [← hxy]; exact hD1.2 a x h2) (apart j y h3 h4).2
    · exact absurd (by rw [hxy]; exact hD1.2 b y h4) (apart i x h1 h2).2
    · exact hD.1 i j x y h2 h4 hxy
  · rcases pos k q hq with ⟨j, -, h2⟩ | ⟨-, h2⟩
    · exact hF _ (hD1.2 j q h2)
    · exact hD.2 k q h2
theorem J_run {S : Type} {post : S → Prop} {ret1 : S → Option Value} {W0 : va_W} {W1 : S → va_W} {mc ms : Nat} {rest st0 : List Value} {a : Array Value} (C : Cx p s m args meth c G A nL cc own) (ws2 : S → va_W) (isC isR : List Nat) (hC1 : isC.map (fun i => ws[i]?) = W0.map some) (hnC : va_nd isC = true) (hC2 : ∀ u, isC.map (fun i => (ws2 u)[i]?) = (W1 u).map some) (wr : va_W) (hR1 : isR.map (fun i => ws[i]?) = wr.map some) (hR2 : ∀ u, isR.map (fun i => (ws2 u)[i]?) = wr.map some) (NW : Nat) (hNW : ∀ u, (ws2 u).length = NW) (hall : (List.range NW).all (fun i => isC.contains i || isR.contains i) = true) (hdis : isR.all (fun i => !isC.contains i) = true)
    (hrun : ∀ (H : Heap) (locs : List Loc) (ls : Array Slot), va_P G.1 vwCl ws H → va_P G.1 vwCl W0 H → va_D (fun _ => True) W0 → lv_has ls nL lv → va_Run p l e R s m args below meth c H locs k n mc ms (F0 m pc ls st0) rest (QcG post ret1 W1 G (va_A W0 H.size) a) (va_A W0 H.size))
    (kk : ∀ u, post u → J p l e R s m args below meth c Q G A nL (k + mc) (n + ms) (ws2 u) lv (pc + 3) ((ret1 u).toList ++ rest)) : J p l e R s m args below meth c Q G A nL k n ws lv pc st0 := by
  intro H locs ls hP hD hS hl
  have hPc : va_P G.1 vwCl W0 H := hP.sub isC (wb_fm hC1)
  have hDc : va_D A W0 := hD.sub isC hnC hC1
  have hFc := va_free hD hS C.2.2.2.2.2.2.1 isC hC1
  intro T hT X
  obtain ⟨v, st₀, t, T', L, h0, X', hL, e1, e2, ⟨⟨u, hv, hp, hP1, hD1⟩, hz, hk⟩, go⟩ := hrun H locs ls hP hPc (hDc.weaken (fun _ _ _ _ => trivial)) hl T hT X
  cases hv
  rw [h0] at hz hk
  obtain ⟨hP2, hD2⟩ := wb hP hD hC1 (hC2 u) ((hR2 u).trans hR1.symm) (by rw [hNW u]; exact hall) hdis hk hFc hP1 hD1
  obtain ⟨t2, a1, b1⟩ := kk u hp T'.heap (locs ++ L) ls (by rw [e1]; exact hP2) hD2
    ⟨Nat.le_trans hS.1 (by rw [e1]; exact hz), fun q h1 h2 => by rw [e1, hk q (Nat.lt_of_lt_of_le h1 hS.1) (fun z => h2 (hFc q z))]; exact hS.2.1 q h1 h2, fun q hq => by
      rcases List.mem_append.mp hq with h | h
      · exact hS.2.2 q h
      · exact hFc _ (hL q h)⟩ hl T' rfl X'
  exact ⟨t2, go t2 a1, b1⟩
theorem gw_good {w : Cond} (h : w ∈ GW) : w ∈ GW ∧ ((w.onTables && w.keeps) = true ∨ ∃ ty, w = .arrayClass ty) := ⟨h, good_of_word (List.mem_filter.mp h).2⟩
theorem Wy_good {y : MethodName} {b : ByteArray} {nn : Nat} {r : Option FieldType} (hc : Cond.code y b nn r ∈ GW) : GoodIn GW (Wy y b nn r) := fun w h => (List.mem_cons.mp h).elim (fun q => by rw [q]; exact gw_good hc) (fun q => gw_good q)
theorem PcG_blind {as : List Value} {W0 : va_W} {sz : Nat} : FrameBlind (PcG G NoX as W0 sz) := fun a U g mk q => ⟨q.1, q.2.1, q.2.2.1, Ev.same (U := U.calling g mk a) rfl q.2.2.2.1, q.2.2.2.2.1, trivial⟩
variable {S : Type} {post : S → Prop} {ret1 : S → Option Value} {W0 : va_W} {W1 : S → va_W} {y : MethodName} {bytes : ByteArray} {maxL : Nat} {ret : Option FieldType} {rmc : Room} {as rest : List Value} {b index : Nat}
theorem J_callV (C : Cx p s m args meth c G A nL cc own) (hC : Ct l G NoX y (Wy y bytes maxL ret) rmc (.ref b :: as) W0 post ret1 W1) (ws2 : S → va_W) (isC isR : List Nat) (nn : Nat) (hlk : Cond.methodLink own index y ∈ GW) (him : Cond.instanceMethod y ∈ GW) (hse : Cond.selects y.cls y y ∈ GW) (hini : Cond.initialized y.cls ∈ GW) (hcode : Cond.code y bytes maxL ret ∈ GW) (hn : as.length = nn) (hd : y.cls ≠ "java/lang/invoke/MethodHandle" ∧ y.cls ≠ "java/lang/invoke/VarHandle" ∧ (parseMethodDescriptor y.desc).map (fun d => d.parameters.length) = some nn) (hR0 : rmc.frames + 1 ≤ R.frames ∧ 8 + (maxL + 11) + rmc.locals ≤ R.locals) (hcell : k + rmc.cells ≤ R.cells ∧ n + rmc.slots ≤ R.slots) (hdg : decode cc pc = .ok (.invokevirtual index, 3)) (hst : (rest.map fun v => v.category).sum ≤ 8)
    (q0 : Nat) {ci : Nat} {fs : List Value} {T : u_T} {N : Nat} (hrecv : ws[q0]? = some (b, .inr (ci, fs))) (hcl : vwCl[ci]? = some (y.cls, T, N))
    (hC1 : isC.map (fun i => ws[i]?) = W0.map some) (hnC : va_nd isC = true) (hC2 : ∀ u, isC.map (fun i => (ws2 u)[i]?) = (W1 u).map some) (wr : va_W) (hR1 : isR.map (fun i => ws[i]?) = wr.map some) (hR2 : ∀ u, isR.map (fun i => (ws2 u)[i]?) = wr.map some) (NW : Nat) (hNW : ∀ u, (ws2 u).length = NW) (hall : (List.range NW).all (fun i => isC.contains i || isR.contains i) = true) (hdis : isR.all (fun i => !isC.contains i) = true)
    (kk : ∀ u, post u → J p l e R s m args below meth c Q G A nL (k + rmc.cells) (n + rmc.slots) (ws2 u) lv (pc + 3) ((ret1 u).toList ++ rest)) : J p l e R s m args below meth c Q G A nL k n ws lv pc (as.reverse ++ .ref b :: rest) :=
  J_run (a := (Value.ref b :: as).toArray) C ws2 isC isR hC1 hnC hC2 wr hR1 hR2 NW hNW hall hdis (fun H locs ls hP hPc hDc hl => va_runV ⟨C.1, C.2.1, C.2.2.1, C.2.2.2.1, C.2.2.2.2.1⟩ (hC H.size) ⟨callB_of nn C.2.2.2.2.1 (Wy_good hcode) rfl rfl rfl (C.2.2.2.2.1 _ hini) (C.2.2.2.2.1 _ hlk) hd hR0, C.2.2.2.2.1 _ him, C.2.2.2.2.1 _ hse⟩ ⟨PcG_blind, va_recv C.2.2.2.2.2.1.1 hP hcl hrecv, fun U hU hW => ⟨rfl, by rw [hU], by rw [hU]; exact hPc, Ev.warm hW C.2.2.2.2.2.1, hDc, trivial⟩⟩ rfl hn hl.1 rfl (lv_room hst) hdg hcell) kk
theorem J_callVN (C : Cx p s m args meth c G A nL cc own) (hC : Ct l G NoX y (Wy y bytes maxL ret) rmc (.ref b :: as) W0 post ret1 W1) (ws2 : S → va_W) (isC isR : List Nat) (nn : Nat) {host : String} (hlk : ∀ {U : State}, NOK U → va_Nw (.methodLinkNest own index y host) U) (him : Cond.instanceMethod y ∈ GW) (hse : Cond.selects y.cls y y ∈ GW) (hini : Cond.initialized y.cls ∈ GW) (hcode : Cond.code y bytes maxL ret ∈ GW) (hn : as.length = nn) (hd : y.cls ≠ "java/lang/invoke/MethodHandle" ∧ y.cls ≠ "java/lang/invoke/VarHandle" ∧ (parseMethodDescriptor y.desc).map (fun d => d.parameters.length) = some nn) (hR0 : rmc.frames + 1 ≤ R.frames ∧ 8 + (maxL + 11) + rmc.locals ≤ R.locals) (hcell : k + rmc.cells ≤ R.cells ∧ n + rmc.slots ≤ R.slots) (hdg : decode cc pc = .ok (.invokevirtual index, 3)) (hst : (rest.map fun v => v.category).sum ≤ 8)
    (q0 : Nat) {ci : Nat} {fs : List Value} {T : u_T} {N : Nat} (hrecv : ws[q0]? = some (b, .inr (ci, fs))) (hcl : vwCl[ci]? = some (y.cls, T, N))
    (hC1 : isC.map (fun i => ws[i]?) = W0.map some) (hnC : va_nd isC = true) (hC2 : ∀ u, isC.map (fun i => (ws2 u)[i]?) = (W1 u).map some) (wr : va_W) (hR1 : isR.map (fun i => ws[i]?) = wr.map some) (hR2 : ∀ u, isR.map (fun i => (ws2 u)[i]?) = wr.map some) (NW : Nat) (hNW : ∀ u, (ws2 u).length = NW) (hall : (List.range NW).all (fun i => isC.contains i || isR.contains i) = true) (hdis : isR.all (fun i => !isC.contains i) = true)
    (kk : ∀ u, post u → J p l e R s m args below meth c Q G A nL (k + rmc.cells) (n + rmc.slots) (ws2 u) lv (pc + 3) ((ret1 u).toList ++ rest)) : J p l e R s m args below meth c Q G A nL k n ws lv pc (as.reverse ++ .ref b :: rest) :=
  J_run (a := (Value.ref b :: as).toArray) C ws2 isC isR hC1 hnC hC2 wr hR1 hR2 NW hNW hall hdis (fun H locs ls hP hPc hDc hl => va_runVN ⟨C.1, C.2.1, C.2.2.1, C.2.2.2.1, C.2.2.2.2.1⟩ (hC H.size) ⟨va_cnB nn C.2.2.2.2.1 (Wy_good hcode) rfl rfl rfl (hlk C.2.2.2.2.2.1.2) (C.2.2.2.2.1 _ hini) hd hR0, C.2.2.2.2.1 _ him, C.2.2.2.2.1 _ hse⟩ ⟨PcG_blind, va_recv C.2.2.2.2.2.1.1 hP hcl hrecv, fun U hU hW => ⟨rfl, by rw [hU], by rw [hU]; exact hPc, Ev.warm hW C.2.2.2.2.2.1, hDc, trivial⟩⟩ rfl hn hl.1 rfl (lv_room hst) hdg hcell) kk
theorem J_callS (C : Cx p s m args meth c G A nL cc own) (hC : Ct l G NoX y (Wy y bytes maxL ret) rmc as W0 post ret1 W1) (ws2 : S → va_W) (isC isR : List Nat) (nn : Nat) (hlk : Cond.methodLink own index y ∈ GW) (hsm : Cond.static y ∈ GW) (hini : Cond.initialized y.cls ∈ GW) (hcode : Cond.code y bytes maxL ret ∈ GW) (hn : as.length = nn) (hd : y.cls ≠ "java/lang/invoke/MethodHandle" ∧ y.cls ≠ "java/lang/invoke/VarHandle" ∧ (parseMethodDescriptor y.desc).map (fun d => d.parameters.length) = some nn) (hR0 : rmc.frames + 1 ≤ R.frames ∧ 8 + (maxL + 11) + rmc.locals ≤ R.locals) (hcell : k + rmc.cells ≤ R.cells ∧ n + rmc.slots ≤ R.slots) (hdg : decode cc pc = .ok (.invokestatic index, 3)) (hst : (rest.map fun v => v.category).sum ≤ 8)
    (hC1 : isC.map (fun i => ws[i]?) = W0.map some) (hnC : va_nd isC = true) (hC2 : ∀ u, isC.map (fun i => (ws2 u)[i]?) = (W1 u).map some) (wr : va_W) (hR1 : isR.map (fun i => ws[i]?) = wr.map some) (hR2 : ∀ u, isR.map (fun i => (ws2 u)[i]?) = wr.map some) (NW : Nat) (hNW : ∀ u, (ws2 u).length = NW) (hall : (List.range NW).all (fun i => isC.contains i || isR.contains i) = true) (hdis : isR.all (fun i => !isC.contains i) = true)
    (kk : ∀ u, post u → J p l e R s m args below meth c Q G A nL (k + rmc.cells) (n + rmc.slots) (ws2 u) lv (pc + 3) ((ret1 u).toList ++ rest)) : J p l e R s m args below meth c Q G A nL k n ws lv pc (as.reverse ++ rest) :=
  J_run (a := as.toArray) C ws2 isC isR hC1 hnC hC2 wr hR1 hR2 NW hNW hall hdis (fun H locs ls hP hPc hDc hl => va_runS ⟨C.1, C.2.1, C.2.2.1, C.2.2.2.1, C.2.2.2.2.1⟩ (hC H.size) ⟨callB_of nn C.2.2.2.2.1 (Wy_good hcode) rfl rfl rfl (C.2.2.2.2.1 _ hini) (C.2.2.2.2.1 _ hlk) hd hR0, C.2.2.2.2.1 _ hsm⟩ ⟨PcG_blind, fun U hU hW => ⟨rfl, by rw [hU], by rw [hU]; exact hPc, Ev.warm hW C.2.2.2.2.2.1, hDc, trivial⟩⟩ rfl hn hl.1 rfl (lv_room hst) hdg hcell) kk
theorem J_callSN (C : Cx p s m args meth c G A nL cc own) (hC : Ct l G NoX y (Wy y bytes maxL ret) rmc as W0 post ret1 W1) (ws2 : S → va_W) (isC isR : List Nat) (nn : Nat) {host : String} (hlk : ∀ {U : State}, NOK U → va_Nw (.methodLinkNest own index y host) U) (hsm : Cond.static y ∈ GW) (hini : Cond.initialized y.cls ∈ GW) (hcode : Cond.code y bytes maxL ret ∈ GW) (hn : as.length = nn) (hd : y.cls ≠ "java/lang/invoke/MethodHandle" ∧ y.cls ≠ "java/lang/invoke/VarHandle" ∧ (parseMethodDescriptor y.desc).map (fun d => d.parameters.length) = some nn) (hR0 : rmc.frames + 1 ≤ R.frames ∧ 8 + (maxL + 11) + rmc.locals ≤ R.locals) (hcell : k + rmc.cells ≤ R.cells ∧ n + rmc.slots ≤ R.slots) (hdg : decode cc pc = .ok (.invokestatic index, 3)) (hst : (rest.map fun v => v.category).sum ≤ 8)
    (hC1 : isC.map (fun i => ws[i]?) = W0.map some) (hnC : va_nd isC = true) (hC2 : ∀ u, isC.map (fun i => (ws2 u)[i]?) = (W1 u).map some) (wr : va_W) (hR1 : isR.map (fun i => ws[i]?) = wr.map some) (hR2 : ∀ u, isR.map (fun i => (ws2 u)[i]?) = wr.map some) (NW : Nat) (hNW : ∀ u, (ws2 u).length = NW) (hall : (List.range NW).all (fun i => isC.contains i || isR.contains i) = true) (hdis : isR.all (fun i => !isC.contains i) = true)
    (kk : ∀ u, post u → J p l e R s m args below meth c Q G A nL (k + rmc.cells) (n + rmc.slots) (ws2 u) lv (pc + 3) ((ret1 u).toList ++ rest)) : J p l e R s m args below meth c Q G A nL k n ws lv pc (as.reverse ++ rest) :=
  J_run (a := as.toArray) C ws2 isC isR hC1 hnC hC2 wr hR1 hR2 NW hNW hall hdis (fun H locs ls hP hPc hDc hl => va_runSN ⟨C.1, C.2.1, C.2.2.1, C.2.2.2.1, C.2.2.2.2.1⟩ (hC H.size) ⟨va_cnB nn C.2.2.2.2.1 (Wy_good hcode) rfl rfl rfl (hlk C.2.2.2.2.2.1.2) (C.2.2.2.2.1 _ hini) hd hR0, C.2.2.2.2.1 _ hsm, trivial⟩ ⟨PcG_blind, fun U hU hW => ⟨rfl, by rw [hU], by rw [hU]; exact hPc, Ev.warm hW C.2.2.2.2.2.1, hDc, trivial⟩⟩ rfl hn hl.1 rfl (lv_room hst) hdg hcell) kk
theorem J_callI (C : Cx p s m args meth c G A nL cc own) (hC : Ct l G NoX y (Wy y bytes maxL none) rmc (.ref b :: as) W0 post ret1 W1) (ws2 : S → va_W) (isC isR : List Nat) (nn : Nat) (hlk : Cond.methodLink own index y ∈ GW) (hy1 : y.name = "<init>") (him : Cond.instanceMethod y ∈ GW) (hini : Cond.initialized y.cls ∈ GW) (hcode : Cond.code y bytes maxL none ∈ GW) (hn : as.length = nn) (hd : y.cls ≠ "java/lang/invoke/MethodHandle" ∧ y.cls ≠ "java/lang/invoke/VarHandle" ∧ (parseMethodDescriptor y.desc).map (fun d => d.parameters.length) = some nn) (hR0 : rmc.frames + 1 ≤ R.frames ∧ 8 + (maxL + 11) + rmc.locals ≤ R.locals) (hcell : k + rmc.cells ≤ R.cells ∧ n + rmc.slots ≤ R.slots) (hdg : decode cc pc = .ok (.invokespecial index, 3)) (hst : (rest.map fun v => v.category).sum ≤ 8)
    (hC1 : isC.map (fun i => ws[i]?) = W0.map some) (hnC : va_nd isC = true) (hC2 : ∀ u, (isC.map (fun i => (ws2 u)[i]?)) = (W1 u).map some) (wr : va_W) (hR1 : isR.map (fun i => ws[i]?) = wr.map some) (hR2 : ∀ u, isR.map (fun i => (ws2 u)[i]?) = wr.map some) (NW : Nat) (hNW : ∀ u, (ws2 u).length = NW) (hall : (List.range NW).all (fun i => isC.contains i || isR.contains i) = true) (hdis : isR.all (fun i => !isC.contains i) = true)
    (kk : ∀ u, post u → J p l e R s m args below meth c Q G A nL (k + rmc.cells) (n + rmc.slots) (ws2 u) lv (pc + 3) ((ret1 u).toList ++ rest)) : J p l e R s m args below meth c Q G A nL k n ws lv pc (as.reverse ++ .ref b :: rest) :=
  J_run (a := (Value.ref b :: as).toArray) C ws2 isC isR hC1 hnC hC2 wr hR1 hR2 NW hNW hall hdis (fun H locs ls hP hPc hDc hl => va_runI ⟨C.1, C.2.1, C.2.2.1, C.2.2.2.1, C.2.2.2.2.1⟩ (hC H.size) ⟨callB_of nn C.2.2.2.2.1 (Wy_good hcode) rfl rfl rfl (C.2.2.2.2.1 _ hini) (C.2.2.2.2.1 _ hlk) hd hR0, hy1, C.2.2.2.2.1 _ him⟩ ⟨PcG_blind, fun U hU hW => ⟨rfl, by rw [hU], by rw [hU]; exact hPc, Ev.warm hW C.2.2.2.2.2.1, hDc, trivial⟩⟩ rfl hn hl.1 rfl (lv_room hst) hdg hcell) kk
theorem J_callIN (C : Cx p s m args meth c G A nL cc own) (hC : Ct l G NoX y (Wy y bytes maxL none) rmc (.ref b :: as) W0 post ret1 W1) (ws2 : S → va_W) (isC isR : List Nat) (nn : Nat) {host : String} (hlk : ∀ {U : State}, NOK U → va_Nw (.methodLinkNest own index y host) U) (hy1 : y.name = "<init>") (him : Cond.instanceMethod y ∈ GW) (hini : Cond.initialized y.cls ∈ GW) (hcode : Cond.code y bytes maxL none ∈ GW) (hn : as.length = nn) (hd : y.cls ≠ "java/lang/invoke/MethodHandle" ∧ y.cls ≠ "java/lang/invoke/VarHandle" ∧ (parseMethodDescriptor y.desc).map (fun d => d.parameters.length) = some nn) (hR0 : rmc.frames + 1 ≤ R.frames ∧ 8 + (maxL + 11) + rmc.locals ≤ R.locals) (hcell : k + rmc.cells ≤ R.cells ∧ n + rmc.slots ≤ R.slots) (hdg : decode cc pc = .ok (.invokespecial index, 3)) (hst : (rest.map fun v => v.category).sum ≤ 8)
    (hC1 : isC.map (fun i => ws[i]?) = W0.map some) (hnC : va_nd isC = true) (hC2 : ∀ u, (isC.map (fun i => (ws2 u)[i]?)) = (W1 u).map some) (wr : va_W) (hR1 : isR.map (fun i => ws[i]?) = wr.map some) (hR2 : ∀ u, isR.map (fun i => (ws2 u)[i]?) = wr.map some) (NW : Nat) (hNW : ∀ u, (ws2 u).length = NW) (hall : (List.range NW).all (fun i => isC.contains i || isR.contains i) = true) (hdis : isR.all (fun i => !isC.contains i) = true)
    (kk : ∀ u, post u → J p l e R s m args below meth c Q G A nL (k + rmc.cells) (n + rmc.slots) (ws2 u) lv (pc + 3) ((ret1 u).toList ++ rest)) : J p l e R s m args below meth c Q G A nL k n ws lv pc (as.reverse ++ .ref b :: rest) :=
  J_run (a := (Value.ref b :: as).toArray) C ws2 isC isR hC1 hnC hC2 wr hR1 hR2 NW hNW hall hdis (fun H locs ls hP hPc hDc hl => va_runIN ⟨C.1, C.2.1, C.2.2.1, C.2.2.2.1, C.2.2.2.2.1⟩ (hC H.size) ⟨va_cnB nn C.2.2.2.2.1 (Wy_good hcode) rfl rfl rfl (hlk C.2.2.2.2.2.1.2) (C.2.2.2.2.1 _ hini) hd hR0, hy1, C.2.2.2.2.1 _ him⟩ ⟨PcG_blind, fun U hU hW => ⟨rfl, by rw [hU], by rw [hU]; exact hPc, Ev.warm hW C.2.2.2.2.2.1, hDc, trivial⟩⟩ rfl hn hl.1 rfl (lv_room hst) hdg hcell) kk
theorem J_objInit (C : Cx p s m args meth c G A nL cc own) {idx : Nat} {a : Nat} {rest : List Value} (hlk : Cond.methodLink own idx Lib.objectInit ∈ GW) (hin : Cond.instanceMethod Lib.objectInit ∈ GW) (hco : Cond.code Lib.objectInit ⟨#[0xb1]⟩ 1 none ∈ GW) (hframes : 1 ≤ R.frames) (hlocals : (rest.map fun v => v.category).sum + 12 ≤ R.locals) (hdg : decode cc pc = .ok (.invokespecial idx, 3)) (kk : J p l e R s m args below meth c Q G A nL k n ws lv (pc + 3) rest) : J p l e R s m args below meth c Q G A nL k n ws lv pc (.ref a :: rest) := fun H locs ls hP hD hS hl => W.objInit C.1 C.2.1 C.2.2.2.1 (C.2.2.2.2.1 _ hlk) (C.2.2.2.2.1 _ hin) (C.2.2.2.2.1 _ hco) rfl (by rw [C.2.2.1]; exact hl.1) rfl hdg hframes (by show 2 * 0 + _ + 12 ≤ _; omega) (kk H locs ls hP hD hS hl)
theorem J_new (C : Cx p s m args meth c G A nL cc own) {Cn : String} {T : u_T} {N ci index : Nat} (ty0 : Nat → FieldType) (fs : List Value) (hin : ∀ w ∈ u_ws Cn T N, w ∈ GW) (hty : ∀ k, k < N → parseFieldDescriptor (T k).2.2.1 = some (ty0 k)) (hcl : Cond.classLink own index Cn ∈ GW) (hinst : Cond.instantiable Cn N ∈ GW) (hini : Cond.initialized Cn ∈ GW) (hc : vwCl[ci]? = some (Cn, T, N)) (hfs : ∀ j, j < N → defaultValue (ty0 j) = vp_V fs j) (hcells : k + 1 ≤ R.cells) (hslots : n + N ≤ R.slots) (hdg : decode cc pc = .ok (.new index, 3)) (kk : ∀ q : Nat, J p l e R s m args below meth c Q G A nL (k + 1) (n + N) (ws ++ [(q, .inr (ci, fs))]) lv (pc + 3) (.ref q :: st)) : J p l e R s m args below meth c Q G A nL k n ws lv pc st := fun H locs ls hP hD hS hl => va_new C.1 C.2.1 C.2.2.2.2.1 hin ty0 hty C.2.2.2.1 (C.2.2.2.2.1 _ hcl) (C.2.2.2.2.1 _ hinst) (C.2.2.2.2.1 _ hini) C.2.2.2.2.2.1.1 hP hD hS C.2.2.2.2.2.2.1 hc hfs hcells hslots hdg (fun q H1 hP1 hD1 hS1 => kk q H1 locs ls hP1 hD1 hS1 hl)
theorem J_newi (C : Cx p s m args meth c G A nL cc own) {i : Int32} (N : Nat) (harr : Cond.arrayClass .int ∈ GW) (hi : i = nI N) (hN : N ≤ 4096) (hcells : k + 1 ≤ R.cells) (hslots : n + N ≤ R.slots) (hdg : decode cc pc = .ok (.newarray .int, 2)) (kk : ∀ q : Nat, J p l e R s m args below meth c Q G A nL (k + 1) (n + N) (ws ++ [(q, .inl (G.2.1, N, .inl (fun _ => 0)))]) lv (pc + 2) (.ref q :: st)) : J p l e R s m args below meth c Q G A nL k n ws lv pc (.int i :: st) := by
  intro H locs ls hP hD hS hl
  subst hi
  refine va_newa (atype := .int) (a0 := (N, .inl (fun _ => 0))) C.1 C.2.1 (C.2.2.2.2.1 _ harr) (ty := .int) rfl C.2.2.2.2.2.1.1 hP hD hS C.2.2.2.2.2.2.1 (fun cA => rfl) (nI_pos (by omega)) (nI_clamp (by omega)) (by show N * 4 ≤ 536870912; omega) hcells hslots hdg (fun q cA H1 hK1 hP1 hD1 hS1 => ?_)
  have h1 : s.vm.findClass ("[" ++ (FieldType.int).toString) = some cA := (hK1.2 (tyG G).length (cA, .int) (by rw [List.getElem?_append_right (Nat.le_refl _), Nat.sub_self]; rfl)).2
  have h2 : s.vm.findClass ("[" ++ (FieldType.int).toString) = some G.2.1 := (C.2.2.2.2.2.1.1.2 0 (G.2.1, .int) rfl).2
  have h3 : cA = G.2.1 := Option.some.inj (h1.symm.trans h2)
  subst h3
  exact kk q H1 locs ls hP1 hD1 hS1 hl
theorem J_newc (C : Cx p s m args meth c G A nL cc own) {i : Int32} (N : Nat) (harr : Cond.arrayClass .char ∈ GW) (hi : i = nI N) (hN : N ≤ 4096) (hcells : k + 1 ≤ R.cells) (hslots : n + N ≤ R.slots) (hdg : decode cc pc = .ok (.newarray .char, 2)) (kk : ∀ q : Nat, J p l e R s m args below meth c Q G A nL (k + 1) (n + N) (ws ++ [(q, .inl (G.2.2.1, N, .inl (fun _ => 0)))]) lv (pc + 2) (.ref q :: st)) : J p l e R s m args below meth c Q G A nL k n ws lv pc (.int i :: st) := by
  intro H locs ls hP hD hS hl
  subst hi
  refine va_newa (atype := .char) (a0 := (N, .inl (fun _ => 0))) C.1 C.2.1 (C.2.2.2.2.1 _ harr) (ty := .char) rfl C.2.2.2.2.2.1.1 hP hD hS C.2.2.2.2.2.2.1 (fun cA => rfl) (nI_pos (by omega)) (nI_clamp (by omega)) (by show N * 2 ≤ 536870912; omega) hcells hslots hdg (fun q cA H1 hK1 hP1 hD1 hS1 => ?_)
  have h1 : s.vm.findClass ("[" ++ (FieldType.char).toString) = some cA := (hK1.2 (tyG G).length (cA, .char) (by rw [List.getElem?_append_right (Nat.le_refl _), Nat.sub_self]; rfl)).2
  have h2 : s.vm.findClass ("[" ++ (FieldType.char).toString) = some G.2.2.1 := (C.2.2.2.2.2.1.1.2 1 (G.2.2.1, .char) rfl).2
  have h3 : cA = G.2.2.1 := Option.some.inj (h1.symm.trans h2)
  subst h3
  exact kk q H1 locs ls hP1 hD1 hS1 hl
theorem J_mmax (C : Cx p s m args meth c G A nL cc own) {x y : Int32} {index : Nat} {rest : List Value} (hlk : Cond.methodLink own index Lib.Math.max.name ∈ GW) (hs1 : Cond.static Lib.Math.max.name ∈ GW) (hini : Cond.initialized "java/lang/Math" ∈ GW) (hco : Cond.code Lib.Math.max.name Lib.Math.max.code 2 (some .int) ∈ GW) (hframes : 1 ≤ R.frames) (hlocals : (rest.map fun v => v.category).sum + 13 ≤ R.locals) (hcell : k ≤ R.cells ∧ n ≤ R.slots) (hdg : decode cc pc = .ok (.invokestatic index, 3)) (kk : J p l e R s m args below meth c Q G A nL k n ws lv (pc + 3) (.int (if x < y then y else x) :: rest)) : J p l e R s m args below meth c Q G A nL k n ws lv pc (.int y :: .int x :: rest) := fun H locs ls hP hD hS hl => va_mmax C.1 C.2.1 (C.2.2.1.trans hl.1.symm) C.2.2.2.1 (C.2.2.2.2.1 _ hlk) (C.2.2.2.2.1 _ hs1) (C.2.2.2.2.1 _ hini) (C.2.2.2.2.1 _ hco) hframes hlocals hcell.1 hcell.2 hdg (kk H locs ls hP hD hS hl)
theorem J_mmin (C : Cx p s m args meth c G A nL cc own) {x y : Int32} {index : Nat} {rest : List Value} (hlk : Cond.methodLink own index Lib.Math.min.name ∈ GW) (hs1 : Cond.static Lib.Math.min.name ∈ GW) (hini : Cond.initialized "java/lang/Math" ∈ GW) (hco : Cond.code Lib.Math.min.name Lib.Math.min.code 2 (some .int) ∈ GW) (hframes : 1 ≤ R.frames) (hlocals : (rest.map fun v => v.category).sum + 13 ≤ R.locals) (hcell : k ≤ R.cells ∧ n ≤ R.slots) (hdg : decode cc pc = .ok (.invokestatic index, 3)) (kk : J p l e R s m args below meth c Q G A nL k n ws lv (pc + 3) (.int (if y < x then y else x) :: rest)) : J p l e R s m args below meth c Q G A nL k n ws lv pc (.int y :: .int x :: rest) := fun H locs ls hP hD hS hl => va_mmin C.1 C.2.1 (C.2.2.1.trans hl.1.symm) C.2.2.2.1 (C.2.2.2.2.1 _ hlk) (C.2.2.2.2.1 _ hs1) (C.2.2.2.2.1 _ hini) (C.2.2.2.2.1 _ hco) hframes hlocals hcell.1 hcell.2 hdg (kk H locs ls hP hD hS hl)
/-- System.arraycopy(from, 0, to, 0, N) of two int arrays of N elements: to holds what from holds -/
theorem J_copyi (C : Cx p s m args meth c G A nL cc own) {a0 a1 N index : Nat} {f g : Nat → Int32} {sp dp i : Int32} {rest : List Value} (q0 q1 : Nat) (ws' : va_W) (hlk : Cond.methodLink own index arraycopyName ∈ GW) (hna : Cond.native arraycopyName ∈ GW) (hst : Cond.static arraycopyName ∈ GW) (hini : Cond.initialized "java/lang/System" ∈ GW) (ha0 : ws[q0]? = some (a0, .inl (G.2.1, N, .inl f))) (ha1 : ws[q1]? = some (a1, .inl (G.2.1, N, .inl g))) (hsp : sp = 0) (hdp : dp = 0) (hi : i = nI N) (hN : N ≤ 4096) (hframes : 1 ≤ R.frames) (hlocals : (rest.map fun v => v.category).sum + (nativeFrameWords "java/lang/System" "arraycopy" 5 + 11) ≤ R.locals) (hw : ws.set q1 (a1, .inl (G.2.1, N, .inl f)) = ws') (hdg : decode cc pc = .ok (.invokestatic index, 3)) (kk : J p l e R s m args below meth c Q G A nL k n ws' lv (pc + 3) rest) : J p l e R s m args below meth c Q G A nL k n ws lv pc (.int i :: .int dp :: .ref a1 :: .int sp :: .ref a0 :: rest) := by
  intro H locs ls hP hD hS hl
  subst hi
  subst hsp
  subst hdp
  have hz : (0 : Int32).toNatClampNeg = 0 := by decide
  have hc : (nI N).toNatClampNeg = N := nI_clamp (by omega)
  refine va_copyi C.1 C.2.1 (C.2.2.1.trans hl.1.symm) C.2.2.2.1 (C.2.2.2.2.1 _ hlk) (C.2.2.2.2.1 _ hna) (C.2.2.2.2.1 _ hst) (C.2.2.2.2.1 _ hini) C.2.2.2.2.2.1.1 hP hD hS q0 q1 0 0 ha0 ha1 rfl rfl rfl (by decide) (by decide) (nI_pos (by omega)) (by rw [hz, hc]; omega) (by rw [hz, hc]; omega) (fun _ _ => rfl) hframes hlocals hdg (fun H1 locs1 hP1 hD1 hS1 => ?_)
  rw [hz, hc] at hP1 hD1
  have hlt := (List.getElem?_eq_some_iff.mp ha1).1
  have hse : (ws.set q1 (a1, .inl (G.2.1, N, .inl (va_cpy f g 0 0 N))))[q1]? = some (a1, .inl (G.2.1, N, .inl (va_cpy f g 0 0 N))) := List.getElem?_set_self hlt
  have hex : vp_cell G.2.1 (N, .inl (va_cpy f g 0 0 N)) = vp_cell G.2.1 (N, .inl f) := by
    rw [vp_cell_i, vp_cell_i]
    exact arrV_ext (fun j hj => by rw [sb_cpy0 hj])
  have hP2 := hP1.set hD1 hse (e := .inl (G.2.1, N, .inl f)) (H1 := H1) (by
    have h1 : H1[a1]? = some (vp_cell G.2.1 (N, .inl (va_cpy f g 0 0 N))) := hP1 q1 _ hse
    show H1[a1]? = some (vp_cell G.2.1 (N, .inl f))
    rw [h1, hex]) (fun _ _ => rfl)
  have hD2 := hD1.set hse (e := .inl (G.2.1, N, .inl f))
  rw [List.set_set, hw] at hP2 hD2
  exact kk H1 locs1 ls hP2 hD2 hS1 hl
end BASE
end
section
/-! numbers: branch conditions over nI as facts of Nat -/
theorem cv_eq_t {a b : Nat} (ha : a < 2147483648) (hb : b < 2147483648) (h : nI a = nI b) : a = b := (nI_eq ha hb).mp h
theorem cv_eq_f {a b : Nat} (ha : a < 2147483648) (hb : b < 2147483648) (h : ¬ nI a = nI b) : ¬ a = b := fun q => h ((nI_eq ha hb).mpr q)
theorem cv_ne_t {a b : Nat} (ha : a < 2147483648) (hb : b < 2147483648) (h : ¬ nI a = nI b) : ¬ a = b := fun q => h ((nI_eq ha hb).mpr q)
theorem cv_ne_f {a b : Nat} (ha : a < 2147483648) (hb : b < 2147483648) (h : nI a = nI b) : a = b := (nI_eq ha hb).mp h
theorem cv_lt_t {a b : Nat} (ha : a < 2147483648) (hb : b < 2147483648) (h : nI a < nI b) : a < b := (nI_ltI ha hb).mp h
theorem cv_lt_f {a b : Nat} (ha : a < 2147483648) (hb : b < 2147483648) (h : ¬ nI a < nI b) : b ≤ a := Nat.le_of_not_lt fun q => h ((nI_ltI ha hb).mpr q)
theorem cv_ge_t {a b : Nat} (ha : a < 2147483648) (hb : b < 2147483648) (h : nI b ≤ nI a) : b ≤ a := (nI_leI hb ha).mp h
theorem cv_ge_f {a b : Nat} (ha : a < 2147483648) (hb : b < 2147483648) (h : ¬ nI b ≤ nI a) : a < b := Nat.lt_of_not_le fun q => h ((nI_leI hb ha).mpr q)
theorem cv_gt_t {a b : Nat} (ha : a < 2147483648) (hb : b < 2147483648) (h : nI b < nI a) : b < a := (nI_ltI hb ha).mp h
theorem cv_gt_f {a b : Nat} (ha : a < 2147483648) (hb : b < 2147483648) (h : ¬ nI b < nI a) : a ≤ b := Nat.le_of_not_lt fun q => h ((nI_ltI hb ha).mpr q)
theorem cv_le_t {a b : Nat} (ha : a < 2147483648) (hb : b < 2147483648) (h : nI a ≤ nI b) : a ≤ b := (nI_leI ha hb).mp h
theorem cv_le_f {a b : Nat} (ha : a < 2147483648) (hb : b < 2147483648) (h : ¬ nI a ≤ nI b) : b < a := Nat.lt_of_not_le fun q => h ((nI_leI ha hb).mpr q)
theorem fa_lt (a b : Int32) : a < b ↔ a.toInt < b.toInt := Int32.lt_iff_toInt_lt
theorem fa_le (a b : Int32) : a ≤ b ↔ a.toInt ≤ b.toInt := Int32.le_iff_toInt_le
theorem fa_eq (a b : Int32) : a = b ↔ a.toInt = b.toInt := Int32.toInt_inj.symm
theorem fa_lt64 (a b : Int64) : a < b ↔ a.toInt < b.toInt := Int64.lt_iff_toInt_lt
theorem fa_le64 (a b : Int64) : a ≤ b ↔ a.toInt ≤ b.toInt := Int64.le_iff_toInt_le
theorem fa_eq64 (a b : Int64) : a = b ↔ a.toInt = b.toInt := Int64.toInt_inj.symm
theorem fb_rng32 (x : Int32) : -2147483648 ≤ x.toInt ∧ x.toInt < 2147483648 := ⟨x.le_toInt, x.toInt_lt⟩
theorem upd_nI (g : Nat → Nat) (j x : Nat) : upd (fun q => nI (g q)) j (nI x) = fun q => nI (if q = j then x else g q) := by
  funext q
  unfold upd
  by_cases h : q = j
  · rw [if_pos h, if_pos h]
  · rw [if_neg h, if_neg h]
/-! the state: rows of numbers. Row 0: the numbers 3 to 25 (tick, places, corrections, well, ink of letters, of corrections, pages, letters, poured; then by pairs pace, wrote, spent, dipping, dips, waits, pen); 1: what is due (the left half); 2: told; 3: written; 4: blots; 5: corrected; 6: when; 7: the settings. Ink in 64ths. -/
abbrev AS : Type := Nat → Nat → Nat
def up2 (σ : AS) (i k x : Nat) : AS := fun j q => if j = i then (if q = k then x else σ i q) else σ j q
/-- n times 2^-t in a format -/
def dC (f : FP.Core.Fmt) (t n : Nat) : FP.Core.Datum := if n = 0 then .fin false 0 f.qmin else .fin false (n * 2 ^ (f.p - 1 - n.log2)) ((n.log2 : Int) - ((f.p : Int) - 1) - t)
/-- n / 64 as a float, as a double -/
def fl (n : Nat) : UInt32 := UInt32.ofNat (FP.Core.encode FP.Core.b32 (dC FP.Core.b32 6 n))
def dl (n : Nat) : UInt64 := UInt64.ofNat (FP.Core.encode FP.Core.b64 (dC FP.Core.b64 6 n))
def dueAt (σ : AS) (p : Nat) : Nat := σ 1 (if p < σ 0 4 / 2 then p else σ 0 4 - 1 - p)
def letAt (σ : AS) (p : Nat) : Nat := if 0 < σ 2 p then σ 2 p else dueAt σ p
/-- what every state of the system is -/
def Inv (σ : AS) : Prop :=
  (σ 0 4 ≤ 40 ∧ σ 0 4 % 2 = 0 ∧ σ 0 3 ≤ 102100 ∧ σ 0 5 ≤ 20 ∧ σ 0 11 ≤ 9999) ∧
  (1 ≤ σ 7 0 ∧ σ 7 0 ≤ 9 ∧ σ 7 1 ≤ 8 ∧ σ 7 2 ≤ 20) ∧
  (σ 0 24 ≤ 64 ∧ σ 0 25 ≤ 64 ∧ σ 0 24 + σ 0 25 + σ 0 6 + σ 0 7 + σ 0 8 = 256 + 8 * σ 0 11) ∧
  (1 ≤ σ 0 12 ∧ σ 0 12 ≤ 9 ∧ 1 ≤ σ 0 13 ∧ σ 0 13 ≤ 9 ∧ 2 * σ 0 14 ≤ σ 0 4 ∧ 2 * σ 0 15 ≤ σ 0 4 ∧ σ 0 16 ≤ 8 ∧ σ 0 17 ≤ 8 ∧ σ 0 18 ≤ 9 ∧ σ 0 19 ≤ 9) ∧
  (0 < σ 0 16 → 2 * σ 0 14 < σ 0 4 ∧ letAt σ (σ 0 14) ≤ σ 0 24 ∧ σ 0 18 = 0) ∧
  (0 < σ 0 17 → 2 * σ 0 15 < σ 0 4 ∧ letAt σ (σ 0 4 - 1 - σ 0 15) ≤ σ 0 25 ∧ σ 0 19 = 0) ∧
  (∀ q, q < 40 → σ 2 q ≤ 26 ∧ σ 3 q ≤ 26 ∧ σ 4 q ≤ 1 ∧ σ 5 q ≤ 1 ∧ σ 6 q ≤ 102100 ∧ (0 < σ 3 q ↔ q < σ 0 14 ∨ (σ 0 4 ≤ q + σ 0 15 ∧ q < σ 0 4))) ∧
  (∀ q, q < σ 0 4 / 2 → 1 ≤ σ 1 q ∧ σ 1 q ≤ 26)
theorem Inv.a {σ : AS} (h : Inv σ) : σ 0 4 ≤ 40 ∧ σ 0 4 % 2 = 0 ∧ σ 0 3 ≤ 102100 ∧ σ 0 5 ≤ 20 ∧ σ 0 11 ≤ 9999 := h.1
theorem Inv.s {σ : AS} (h : Inv σ) : 1 ≤ σ 7 0 ∧ σ 7 0 ≤ 9 ∧ σ 7 1 ≤ 8 ∧ σ 7 2 ≤ 20 := h.2.1
theorem Inv.i {σ : AS} (h : Inv σ) : σ 0 24 ≤ 64 ∧ σ 0 25 ≤ 64 ∧ σ 0 24 + σ 0 25 + σ 0 6 + σ 0 7 + σ 0 8 = 256 + 8 * σ 0 11 := h.2.2.1
theorem Inv.c {σ : AS} (h : Inv σ) : 1 ≤ σ 0 12 ∧ σ 0 12 ≤ 9 ∧ 1 ≤ σ 0 13 ∧ σ 0 13 ≤ 9 ∧ 2 * σ 0 14 ≤ σ 0 4 ∧ 2 * σ 0 15 ≤ σ 0 4 ∧ σ 0 16 ≤ 8 ∧ σ 0 17 ≤ 8 ∧ σ 0 18 ≤ 9 ∧ σ 0 19 ≤ 9 := h.2.2.2.1
theorem Inv.l {σ : AS} (h : Inv σ) : 0 < σ 0 16 → 2 * σ 0 14 < σ 0 4 ∧ letAt σ (σ 0 14) ≤ σ 0 24 ∧ σ 0 18 = 0 := h.2.2.2.2.1
theorem Inv.r {σ : AS} (h : Inv σ) : 0 < σ 0 17 → 2 * σ 0 15 < σ 0 4 ∧ letAt σ (σ 0 4 - 1 - σ 0 15) ≤ σ 0 25 ∧ σ 0 19 = 0 := h.2.2.2.2.2.1
theorem Inv.q {σ : AS} (h : Inv σ) {q : Nat} (hq : q < 40) : σ 2 q ≤ 26 ∧ σ 3 q ≤ 26 ∧ σ 4 q ≤ 1 ∧ σ 5 q ≤ 1 ∧ σ 6 q ≤ 102100 ∧ (0 < σ 3 q ↔ q < σ 0 14 ∨ (σ 0 4 ≤ q + σ 0 15 ∧ q < σ 0 4)) := h.2.2.2.2.2.2.1 q hq
theorem Inv.d {σ : AS} (h : Inv σ) {q : Nat} (hq : q < σ 0 4 / 2) : 1 ≤ σ 1 q ∧ σ 1 q ≤ 26 := h.2.2.2.2.2.2.2 q hq
theorem Inv.due {σ : AS} (h : Inv σ) {p : Nat} (hp : p < σ 0 4) : 1 ≤ dueAt σ p ∧ dueAt σ p ≤ 26 := by
  have h1 := h.a
  unfold dueAt
  split
  · exact h.d (by omega)
  · exact h.d (by omega)
theorem Inv.let {σ : AS} (h : Inv σ) {p : Nat} (hp : p < σ 0 4) : 1 ≤ letAt σ p ∧ letAt σ p ≤ 26 := by
  have h1 := h.a
  have h2 := h.due hp
  have h3 := h.q (q := p) (by omega)
  unfold letAt
  split <;> omega
/-- written just where a tick is told -/
def WOK (σ : AS) : Prop := ∀ q, q < 40 → (σ 3 q = 0 ↔ σ 6 q = 0)
/-- what the class holds as due is what is due -/
def DOK (σ : AS) (d : Nat → Nat) : Prop := ∀ q, q < σ 0 4 → d q = dueAt σ q
def sumN (f : Nat → Nat) : Nat → Nat
  | 0 => 0
  | n + 1 => sumN f n + f n
theorem sumN_le {f : Nat → Nat} {b : Nat} : ∀ n, (∀ q, q < n → f q ≤ b) → sumN f n ≤ n * b
  | 0, _ => by simp [sumN]
  | n + 1, h => by
    have h1 := sumN_le (f := f) (b := b) n (fun q hq => h q (by omega))
    have h2 := h n (by omega)
    rw [Nat.succ_mul]
    show sumN f n + f n ≤ _
    omega
/-! a tick: where the next letter is written, what a scribe does (as next() tells), what becomes of the state; w: the tick that is told of a letter that is written -/
def plc (σ : AS) (s : Nat) : Nat := if s = 0 then σ 0 14 else σ 0 4 - 1 - σ 0 15
def doesN (σ : AS) (s : Nat) : Nat := if 0 < σ 0 (18 + s) then 1 else if σ 0 4 ≤ 2 * σ 0 (14 + s) then 5 else if letAt σ (plc σ s) ≤ σ 0 (24 + s) ∨ 0 < σ 0 (16 + s) then 0 else if 0 < σ 0 (19 - s) then 3 else if σ 0 6 = 0 then 4 else 2
def gotF (σ : AS) (s : Nat) : Nat := if σ 0 6 < 64 - σ 0 (24 + s) then σ 0 6 else 64 - σ 0 (24 + s)
def dipsF (σ : AS) (s : Nat) : AS := if σ 0 (18 + s) - 1 = 0 then up2 (up2 (up2 (up2 σ 0 (18 + s) (σ 0 (18 + s) - 1)) 0 (24 + s) (σ 0 (24 + s) + gotF σ s)) 0 6 (σ 0 6 - gotF σ s)) 0 (20 + s) (σ 0 (20 + s) + 1) else up2 σ 0 (18 + s) (σ 0 (18 + s) - 1)
def blotN (σ : AS) (s : Nat) : Nat := if 8 * σ 7 1 < σ 0 (24 + s) then 1 else 0
def wroteF (σ : AS) (s w : Nat) : AS := up2 (up2 (up2 (up2 (up2 (up2 (up2 (up2 σ 3 (plc σ s) (letAt σ (plc σ s))) 4 (plc σ s) (blotN σ s)) 6 (plc σ s) w) 0 (24 + s) (σ 0 (24 + s) - letAt σ (plc σ s))) 0 7 (σ 0 7 + letAt σ (plc σ s))) 0 (16 + s) 0) 0 (14 + s) (σ 0 (14 + s) + 1)) 0 10 (σ 0 10 + 1)
def writesF (σ : AS) (s w : Nat) : AS := if σ 0 (16 + s) + 1 < σ 0 (12 + s) then up2 σ 0 (16 + s) (σ 0 (16 + s) + 1) else wroteF σ s w
def goesF (σ : AS) (s w : Nat) : AS := if doesN σ s = 0 then writesF σ s w else if doesN σ s = 1 then dipsF σ s else if doesN σ s = 2 then up2 σ 0 (18 + s) (σ 7 0) else if doesN σ s = 5 then σ else up2 σ 0 (22 + s) (σ 0 (22 + s) + 1)
def tickF (σ : AS) : AS := up2 σ 0 3 (σ 0 3 + 1)
def ticksF (σ : AS) : AS := goesF (goesF (tickF σ) 0 (σ 0 3 + 1)) 1 (σ 0 3 + 1)
def dnF : Nat → Nat → AS → Int32
  | 0, _, _ => -5
  | f + 1, c, σ => if σ 0 4 ≤ σ 0 14 + σ 0 15 then nI c else dnF f (c + 1) (ticksF σ)
theorem doesN_le (σ : AS) (s : Nat) : doesN σ s ≤ 5 := by
  unfold doesN
  repeat' split
  all_goals omega
theorem mx_sub {a b : Nat} (ha : a ≤ 1000) (hb : b ≤ 1000) : (if (0 : Int32) < nI a - nI b then nI a - nI b else 0) = nI (a - b) := by
  have e : (nI a - nI b).toInt = (a : Int) - b := pk_sub_toInt (by omega) (by omega)
  have z : (0 : Int32).toInt = 0 := rfl
  by_cases h : b < a
  · rw [if_pos (by rw [fa_lt, e, z]; omega)]
    exact pk_sub (by omega)
  · rw [if_neg (by rw [fa_lt, e, z]; omega)]
    rw [show a - b = 0 by omega]
    rfl
theorem fcv_lt_t {a b : Nat} (h : (if a < b then (-1 : Int32) else if a = b then 0 else 1) < 0) : a < b := Classical.byContradiction fun q => by
  rw [if_neg q] at h
  split at h <;> exact absurd h (by decide)
theorem fcv_lt_f {a b : Nat} (h : ¬ (if a < b then (-1 : Int32) else if a = b then 0 else 1) < 0) : b ≤ a := Nat.le_of_not_lt fun q => h (by rw [if_pos q]; decide)
theorem fcv_le_t {a b : Nat} (h : (if a < b then (-1 : Int32) else if a = b then 0 else 1) ≤ 0) : a ≤ b := Classical.byContradiction fun q => by
  rw [if_neg (by omega), if_neg (by omega)] at h
  exact absurd h (by decide)
theorem fcv_le_f {a b : Nat} (h : ¬ (if a < b then (-1 : Int32) else if a = b then 0 else 1) ≤ 0) : b < a := Nat.lt_of_not_le fun q => h (by
  by_cases h1 : a < b
  · rw [if_pos h1]; decide
  · rw [if_neg h1, if_pos (by omega)]; decide)
theorem fcv_ge_t {a b : Nat} (h : (0 : Int32) ≤ (if a < b then (-1 : Int32) else if a = b then 0 else 1)) : b ≤ a := Nat.le_of_not_lt fun q => by
  rw [if_pos q] at h
  exact absurd h (by decide)
theorem fcv_ge_f {a b : Nat} (h : ¬ (0 : Int32) ≤ (if a < b then (-1 : Int32) else if a = b then 0 else 1)) : a < b := Classical.byContradiction fun q => h (by
  rw [if_neg q]
  split <;> decide)
def notDue (σ : AS) (q : Nat) : Nat := if 0 < σ 3 q ∧ ¬ σ 3 q = dueAt σ q then 1 else 0
/-! the cells of a page, of a state: addresses a 0 .. a 10; d: the row of what is due as the class holds it (40 places) -/
abbrev pgW (G : GT) (a : Nat → Nat) (σ : AS) (d : Nat → Nat) : va_W := [(a 1, .inr (1, [.ref (a 2), .ref (a 3), .ref (a 4), .ref (a 5), .ref (a 6), .ref (a 7), .int (nI (σ 0 4)), .int (nI (σ 0 5))])), (a 2, .inl (G.2.1, 40, .inl (fun q => nI (d q)))), (a 3, .inl (G.2.1, 40, .inl (fun q => nI (σ 2 q)))), (a 4, .inl (G.2.1, 40, .inl (fun q => nI (σ 3 q)))), (a 5, .inl (G.2.1, 40, .inl (fun q => nI (σ 6 q)))), (a 6, .inl (G.2.1, 40, .inl (fun q => nI (σ 4 q)))), (a 7, .inl (G.2.1, 40, .inl (fun q => nI (σ 5 q))))]
abbrev stW (G : GT) (a : Nat → Nat) (σ : AS) (d : Nat → Nat) : va_W := [(a 0, .inr (4, [.ref (a 1), .ref (a 8), .ref (a 9), .ref (a 10), .float (fl (σ 0 6)), .float (fl (σ 0 7)), .float (fl (σ 0 8)), .int (nI (σ 0 3)), .int (nI (σ 0 9)), .int (nI (σ 0 10)), .int (nI (σ 0 11))])), (a 1, .inr (1, [.ref (a 2), .ref (a 3), .ref (a 4), .ref (a 5), .ref (a 6), .ref (a 7), .int (nI (σ 0 4)), .int (nI (σ 0 5))])), (a 2, .inl (G.2.1, 40, .inl (fun q => nI (d q)))), (a 3, .inl (G.2.1, 40, .inl (fun q => nI (σ 2 q)))), (a 4, .inl (G.2.1, 40, .inl (fun q => nI (σ 3 q)))), (a 5, .inl (G.2.1, 40, .inl (fun q => nI (σ 6 q)))), (a 6, .inl (G.2.1, 40, .inl (fun q => nI (σ 4 q)))), (a 7, .inl (G.2.1, 40, .inl (fun q => nI (σ 5 q)))), (a 8, .inr (3, [.int (nI (σ 0 12)), .int (nI (σ 0 14)), .int (nI (σ 0 16)), .int (nI (σ 0 18)), .int (nI (σ 0 20)), .int (nI (σ 0 22)), .float (fl (σ 0 24))])), (a 9, .inr (3, [.int (nI (σ 0 13)), .int (nI (σ 0 15)), .int (nI (σ 0 17)), .int (nI (σ 0 19)), .int (nI (σ 0 21)), .int (nI (σ 0 23)), .float (fl (σ 0 25))])), (a 10, .inl (G.2.1, 3, .inl (fun q => nI (σ 7 q))))]
/-! an argument that is a place, or not -/
abbrev isPl (σ : AS) (x : Int32) : Prop := 0 ≤ x.toInt ∧ x.toInt < (σ 0 4 : Int)
theorem isPl_lt {σ : AS} {x : Int32} (h : x < 0) : ¬ isPl σ x := fun q => by have h1 := (fa_lt _ _).mp h; have h2 : (0 : Int32).toInt = 0 := rfl; have h3 := q.1; omega
theorem isPl_ge {σ : AS} {x : Int32} (hn : σ 0 4 ≤ 40) (h : nI (σ 0 4) ≤ x) : ¬ isPl σ x := fun q => by have h1 := (fa_le _ _).mp h; rw [nI_toInt (by omega)] at h1; have h3 := q.2; omega
theorem isPl_ok {σ : AS} {x : Int32} (hn : σ 0 4 ≤ 40) (h0 : ¬ x < 0) (h : ¬ nI (σ 0 4) ≤ x) : isPl σ x := by
  rw [fa_lt] at h0
  rw [fa_le, nI_toInt (by omega)] at h
  have h2 : (0 : Int32).toInt = 0 := rfl
  exact ⟨by omega, by omega⟩
theorem isPl_of {σ : AS} {x : Int32} (h : isPl σ x) (hn : σ 0 4 ≤ 40) : ∃ j, j < σ 0 4 ∧ x = nI j := by
  refine ⟨x.toInt.toNat, by have := h.1; have := h.2; omega, ?_⟩
  apply Int32.toInt_inj.mp
  rw [nI_toInt (by have := h.1; have := h.2; omega)]
  have := h.1
  omega
theorem isPl_nI {σ : AS} {j : Nat} (hn : σ 0 4 ≤ 40) (h : j < σ 0 4) : isPl σ (nI j) := by
  unfold isPl
  rw [nI_toInt (by omega)]
  omega
end
section
/-! n / 64 as a float is exact: sums, differences, comparisons of such floats are those of the numbers -/
theorem fq_log {n K : Nat} (h : n ≠ 0) : (n * 2 ^ K).log2 = n.log2 + K := by
  have h1 : n * 2 ^ K ≠ 0 := Nat.mul_ne_zero h (Nat.ne_of_gt (Nat.two_pow_pos K))
  refine (Nat.log2_eq_iff h1).mpr ⟨?_, ?_⟩
  · rw [Nat.pow_add]; exact Nat.mul_le_mul_right _ (Nat.log2_self_le h)
  · have h2 := (Nat.log2_lt h).mp (Nat.lt_succ_self n.log2)
    rw [show n.log2 + K + 1 = (n.log2 + 1) + K by omega, Nat.pow_add]
    exact Nat.mul_lt_mul_of_pos_right h2 (Nat.two_pow_pos K)
theorem fq_le {n p : Nat} (h0 : n ≠ 0) (h : n < 2 ^ p) : n.log2 < p := (Nat.log2_lt h0).mpr h
theorem fq_near1 (x : Nat) : FP.Core.nearest x 1 = x := by
  unfold FP.Core.nearest
  rw [Nat.mod_one, if_pos (by omega), Nat.div_one]
theorem fq_nearM (x d : Nat) (hd : 0 < d) : FP.Core.nearest (x * d) d = x := by
  unfold FP.Core.nearest
  rw [Nat.mul_mod_left, if_pos (by omega), Nat.mul_div_cancel _ hd]
theorem fq_top {n p : Nat} (h0 : n ≠ 0) (h : n < 2 ^ p) : n * 2 ^ (p - 1 - n.log2) < 2 ^ p ∧ 2 ^ (p - 1) ≤ n * 2 ^ (p - 1 - n.log2) := by
  have h1 := fq_le h0 h
  have h2 := (Nat.log2_lt h0).mp (Nat.lt_succ_self n.log2)
  have h3 := Nat.log2_self_le h0
  constructor
  · have e : 2 ^ p = 2 ^ (n.log2 + 1) * 2 ^ (p - 1 - n.log2) := by rw [← Nat.pow_add]; congr 1; omega
    rw [e]
    exact Nat.mul_lt_mul_of_pos_right h2 (Nat.two_pow_pos _)
  · have e : 2 ^ (p - 1) = 2 ^ n.log2 * 2 ^ (p - 1 - n.log2) := by rw [← Nat.pow_add]; congr 1; omega
    rw [e]
    exact Nat.mul_le_mul_right _ h3
def fq_ok (f : FP.Core.Fmt) (t : Nat) : Prop := 1 ≤ f.p ∧ f.qmin ≤ -((f.p : Int) - 1) - t ∧ 0 ≤ f.qmax
theorem fq_ok32 {t : Nat} (h : t ≤ 6) : fq_ok FP.Core.b32 t := by
  have e1 : FP.Core.b32.qmin = -149 := by decide
  have e2 : FP.Core.b32.qmax = 104 := by decide
  have e3 : FP.Core.b32.p = 24 := rfl
  refine ⟨by rw [e3]; omega, by rw [e1, e3]; omega, by rw [e2]; omega⟩
theorem fq_ok64 {t : Nat} (h : t ≤ 6) : fq_ok FP.Core.b64 t := by
  have e1 : FP.Core.b64.qmin = -1074 := by decide
  have e2 : FP.Core.b64.qmax = 971 := by decide
  have e3 : FP.Core.b64.p = 53 := rfl
  refine ⟨by rw [e3]; omega, by rw [e1, e3]; omega, by rw [e2]; omega⟩
theorem fq_settle {f : FP.Core.Fmt} {c : Nat} {q : Int} (h : c < 2 ^ f.p) (hq : q ≤ f.qmax) : FP.Core.settle f false c q = .fin false c q := by
  unfold FP.Core.settle FP.Core.bound
  rw [if_pos h, if_pos hq]
theorem fq_round {f : FP.Core.Fmt} {t n : Nat} (K : Nat) (hf : fq_ok f t) (hn : n < 2 ^ f.p) : FP.Core.round f (.fin false (n * 2 ^ K) (-(t : Int) - K)) = dC f t n := by
  obtain ⟨hp, hq1, hq2⟩ := hf
  show FP.Core.roundRatio f false (n * 2 ^ K) 1 (-(t : Int) - K) = _
  by_cases h0 : n = 0
  · subst h0
    unfold FP.Core.roundRatio dC
    rw [Nat.zero_mul, if_pos rfl, if_pos rfl]
  have hN : n * 2 ^ K ≠ 0 := Nat.mul_ne_zero h0 (Nat.ne_of_gt (Nat.two_pow_pos K))
  have hl := fq_le h0 hn
  have hlog := fq_log (K := K) h0
  have hle : FP.Core.leading (n * 2 ^ K) 1 = ((n.log2 + K : Nat) : Int) := by
    unfold FP.Core.leading
    have e : (((n * 2 ^ K).log2 : Int) - ((1 : Nat).log2 : Int)) = ((n.log2 + K : Nat) : Int) := by
      rw [hlog]
      have : (1 : Nat).log2 = 0 := by decide
      rw [this]
      omega
    simp only [e]
    rw [if_pos]
    have e2 : (-((n.log2 + K : Nat) : Int)).toNat = 0 := by omega
    have e3 : (((n.log2 + K : Nat) : Int)).toNat = n.log2 + K := by omega
    rw [e2, e3, Nat.one_mul, Nat.pow_zero, Nat.mul_one, ← hlog]
    exact Nat.log2_self_le hN
  have hqu : FP.Core.quantum f (n * 2 ^ K) 1 (-(t : Int) - K) = (n.log2 : Int) - ((f.p : Int) - 1) - t := by
    unfold FP.Core.quantum
    rw [hle]
    omega
  unfold FP.Core.roundRatio
  rw [if_neg hN, hqu]
  unfold FP.Core.roundAt
  have hne : FP.Core.nearest (FP.Core.unitsNum (n * 2 ^ K) (-(t : Int) - K) ((n.log2 : Int) - ((f.p : Int) - 1) - t)) (FP.Core.unitsDen 1 (-(t : Int) - K) ((n.log2 : Int) - ((f.p : Int) - 1) - t)) = n * 2 ^ (f.p - 1 - n.log2) := by
    unfold FP.Core.unitsNum FP.Core.unitsDen
    rcases Nat.lt_or_ge (f.p - 1 - n.log2) K with h | h
    · have e1 : ((-(t : Int) - K) - ((n.log2 : Int) - ((f.p : Int) - 1) - t)).toNat = 0 := by omega
      have e2 : (((n.log2 : Int) - ((f.p : Int) - 1) - t) - (-(t : Int) - K)).toNat = K - (f.p - 1 - n.log2) := by omega
      rw [e1, e2, Nat.pow_zero, Nat.mul_one, Nat.one_mul]
      have e3 : 2 ^ K = 2 ^ (f.p - 1 - n.log2) * 2 ^ (K - (f.p - 1 - n.log2)) := by rw [← Nat.pow_add]; congr 1; omega
      rw [e3, ← Nat.mul_assoc]
      exact fq_nearM _ _ (Nat.two_pow_pos _)
    · have e1 : ((-(t : Int) - K) - ((n.log2 : Int) - ((f.p : Int) - 1) - t)).toNat = (f.p - 1 - n.log2) - K := by omega
      have e2 : (((n.log2 : Int) - ((f.p : Int) - 1) - t) - (-(t : Int) - K)).toNat = 0 := by omega
      rw [e1, e2, Nat.pow_zero, Nat.mul_one, fq_near1, Nat.mul_assoc, ← Nat.pow_add]
      congr 2
      omega
  rw [hne, fq_settle (fq_top h0 hn).1 (by omega)]
  unfold dC
  rw [if_neg h0]
/-- a datum of the kind as n times a power, over 2 to the t and more -/
theorem fq_rep {f : FP.Core.Fmt} {t n : Nat} (hf : fq_ok f t) (hn : n < 2 ^ f.p) : ∃ K : Nat, dC f t n = .fin false (n * 2 ^ K) (-(t : Int) - K) := by
  obtain ⟨hp, hq1, hq2⟩ := hf
  unfold dC
  by_cases h0 : n = 0
  · subst h0
    refine ⟨(-(t : Int) - f.qmin).toNat, ?_⟩
    rw [if_pos rfl, Nat.zero_mul]
    congr 1
    omega
  · have hl := fq_le h0 hn
    refine ⟨f.p - 1 - n.log2, ?_⟩
    rw [if_neg h0]
    congr 1
    omega
theorem fq_enc (f : FP.Core.Fmt) (s : Bool) (c : Nat) (q : Int) : FP.Core.encode f (.fin s c q) = if c < f.tails then FP.Core.assemble f s 0 c else FP.Core.assemble f s ((q - f.qmin).toNat + 1) (c - f.tails) := rfl
theorem fq_quo (f : FP.Core.Fmt) (s t : Bool) (c d : Nat) (q r : Int) : FP.Core.quotient f (.fin s c q) (.fin t d r) = if d = 0 then (if c = 0 then .nan else .inf (s != t)) else FP.Core.roundRatio f (s != t) c d (q - r) := rfl
theorem fq_sum (s t : Bool) (c d : Nat) (q r : Int) : FP.Core.exactSum (.fin s c q) (.fin t d r) = .fin (FP.Core.sumSign s t (FP.Core.sumUnits s c q t d r (min q r))) (FP.Core.sumUnits s c q t d r (min q r)).natAbs (min q r) := rfl
theorem fq_cmpI (x y : Int) : compare x y = if x < y then .lt else if x = y then .eq else .gt := rfl
theorem fq_dec {f : FP.Core.Fmt} {t n : Nat} (hf : fq_ok f t) (hn : n < 2 ^ f.p) (he : (2 : Int) - f.qmin ≤ (f.exps : Int) - 2) : FP.Core.decode f (FP.Core.encode f (dC f t n)) = dC f t n ∧ FP.Core.encode f (dC f t n) < (f.exps - 1) * f.tails := by
  obtain ⟨hp, hq1, hq2⟩ := hf
  have hT : 0 < f.tails := Nat.two_pow_pos _
  have hE : 4 ≤ f.exps := by omega
  unfold dC
  by_cases h0 : n = 0
  · subst h0
    rw [if_pos rfl]
    rw [fq_enc, if_pos hT]
    unfold FP.Core.assemble
    have e : (Bool.toNat false * f.exps + 0) * f.tails + 0 = 0 := by simp
    rw [e]
    refine ⟨?_, Nat.mul_pos (by omega) hT⟩
    unfold FP.Core.decode FP.Core.fieldE FP.Core.fieldT FP.Core.fieldS
    rw [Nat.zero_div, Nat.zero_mod, if_neg (by omega), if_pos rfl, Nat.zero_mod, Nat.zero_div, Nat.zero_mod]
    rfl
  · rw [if_neg h0]
    have hl := fq_le h0 hn
    obtain ⟨h1, h2⟩ := fq_top h0 hn
    have h2' : f.tails ≤ n * 2 ^ (f.p - 1 - n.log2) := h2
    have h3 : n * 2 ^ (f.p - 1 - n.log2) < 2 * f.tails := by
      have : 2 * f.tails = 2 ^ f.p := by
        unfold FP.Core.Fmt.tails
        rw [show f.p = (f.p - 1) + 1 by omega, Nat.pow_succ, Nat.mul_comm]
        simp
      omega
    rw [fq_enc, if_neg (by omega)]
    generalize hEE : (((n.log2 : Int) - ((f.p : Int) - 1) - t) - f.qmin).toNat + 1 = E
    generalize hTT : n * 2 ^ (f.p - 1 - n.log2) - f.tails = T
    have hTl : T < f.tails := by omega
    have hEl : E < f.exps - 1 := by omega
    unfold FP.Core.assemble
    have e : (Bool.toNat false * f.exps + E) * f.tails + T = E * f.tails + T := by simp
    rw [e]
    have d1 : (E * f.tails + T) / f.tails = E := by
      rw [Nat.mul_comm, Nat.mul_add_div hT, Nat.div_eq_of_lt hTl]
      rfl
    have d2 : (E * f.tails + T) % f.tails = T := by
      rw [Nat.mul_comm, Nat.mul_add_mod, Nat.mod_eq_of_lt hTl]
    have d3 : E % f.exps = E := Nat.mod_eq_of_lt (by omega)
    have d4 : E / f.exps = 0 := Nat.div_eq_of_lt (by omega)
    refine ⟨?_, ?_⟩
    · unfold FP.Core.decode FP.Core.fieldE FP.Core.fieldT FP.Core.fieldS
      rw [d1, d2, d3, d4, if_neg (by omega), if_neg (by omega), Nat.zero_mod]
      have e5 : f.tails + T = n * 2 ^ (f.p - 1 - n.log2) := by omega
      have e6 : f.qmin + ((E : Int) - 1) = (n.log2 : Int) - ((f.p : Int) - 1) - t := by omega
      rw [e5, e6]
      rfl
    · have : (E + 1) * f.tails ≤ (f.exps - 1) * f.tails := Nat.mul_le_mul_right _ (by omega)
      rw [Nat.succ_mul] at this
      omega
theorem fl_dec {n : Nat} (hn : n < 16777216) : FP.Core.decode FP.Core.b32 (fl n).toNat = dC FP.Core.b32 6 n ∧ (fl n).toNat < 2139095040 := by
  have h := fq_dec (f := FP.Core.b32) (t := 6) (n := n) (fq_ok32 (by omega)) (by show n < 2 ^ 24; omega) (by decide)
  have h2 : FP.Core.encode FP.Core.b32 (dC FP.Core.b32 6 n) < 2139095040 := h.2
  have e : (fl n).toNat = FP.Core.encode FP.Core.b32 (dC FP.Core.b32 6 n) := by
    unfold fl
    rw [UInt32.toNat_ofNat']
    exact Nat.mod_eq_of_lt (by omega)
  rw [e]
  exact ⟨h.1, h2⟩
theorem fl_num {n : Nat} (hn : n < 16777216) : vf_n32 (fl n) := by
  have h := (fl_dec hn).2
  unfold vf_n32
  rw [UInt32.le_iff_toNat_le, UInt32.toNat_and]
  have h1 : (fl n).toNat &&& (0x7fffffff : UInt32).toNat ≤ (fl n).toNat := Nat.and_le_left
  have h2 : (0x7f800000 : UInt32).toNat = 2139095040 := rfl
  omega
theorem dl_num {n : Nat} (hn : n < 16777216) : vf_n64 (dl n) := by
  have h := fq_dec (f := FP.Core.b64) (t := 6) (n := n) (fq_ok64 (by omega)) (by show n < 2 ^ 53; omega) (by decide)
  have h2 : FP.Core.encode FP.Core.b64 (dC FP.Core.b64 6 n) < 9218868437227405312 := h.2
  have e : (dl n).toNat = FP.Core.encode FP.Core.b64 (dC FP.Core.b64 6 n) := by
    unfold dl
    rw [UInt64.toNat_ofNat']
    exact Nat.mod_eq_of_lt (by omega)
  unfold vf_n64
  rw [UInt64.le_iff_toNat_le, UInt64.toNat_and]
  have h1 : (dl n).toNat &&& (0x7fffffffffffffff : UInt64).toNat ≤ (dl n).toNat := Nat.and_le_left
  have h3 : (0x7ff0000000000000 : UInt64).toNat = 9218868437227405312 := rfl
  omega
theorem fq_units (a Ka K t : Nat) (h : Ka ≤ K) : FP.Core.inUnits (a * 2 ^ Ka) (-(t : Int) - Ka) (-(t : Int) - K) = a * 2 ^ K := by
  unfold FP.Core.inUnits
  have e : ((-(t : Int) - Ka) - (-(t : Int) - K)).toNat = K - Ka := by omega
  rw [e, Nat.mul_assoc, ← Nat.pow_add]
  congr 2
  omega
theorem fq_min (t Ka Kb : Nat) : min (-(t : Int) - Ka) (-(t : Int) - Kb) = -(t : Int) - ((max Ka Kb : Nat) : Int) := by omega
theorem fl_add {a b : Nat} (h : a + b < 16777216) : FP.fadd (fl a) (fl b) = fl (a + b) := by
  show UInt32.ofNat (FP.Core.encode FP.Core.b32 (FP.Core.round FP.Core.b32 (FP.Core.exactSum (FP.Core.decode FP.Core.b32 (fl a).toNat) (FP.Core.decode FP.Core.b32 (fl b).toNat)))) = fl (a + b)
  rw [(fl_dec (n := a) (by omega)).1, (fl_dec (n := b) (by omega)).1]
  obtain ⟨Ka, ea⟩ := fq_rep (f := FP.Core.b32) (t := 6) (n := a) (fq_ok32 (by omega)) (by show a < 2 ^ 24; omega)
  obtain ⟨Kb, eb⟩ := fq_rep (f := FP.Core.b32) (t := 6) (n := b) (fq_ok32 (by omega)) (by show b < 2 ^ 24; omega)
  rw [ea, eb]
  have hs : FP.Core.exactSum (.fin false (a * 2 ^ Ka) (-((6 : Nat) : Int) - Ka)) (.fin false (b * 2 ^ Kb) (-((6 : Nat) : Int) - Kb)) = .fin false ((a + b) * 2 ^ (max Ka Kb)) (-((6 : Nat) : Int) - ((max Ka Kb : Nat) : Int)) := by
    have hv : FP.Core.sumUnits false (a * 2 ^ Ka) (-((6 : Nat) : Int) - Ka) false (b * 2 ^ Kb) (-((6 : Nat) : Int) - Kb) (min (-((6 : Nat) : Int) - Ka) (-((6 : Nat) : Int) - Kb)) = (((a + b) * 2 ^ (max Ka Kb) : Nat) : Int) := by
      unfold FP.Core.sumUnits FP.Core.signed
      rw [fq_min, fq_units a Ka (max Ka Kb) 6 (Nat.le_max_left _ _), fq_units b Kb (max Ka Kb) 6 (Nat.le_max_right _ _), if_neg (by decide), if_neg (by decide), Nat.add_mul, Int.natCast_add]
    have hsg : FP.Core.sumSign false false (((a + b) * 2 ^ (max Ka Kb) : Nat) : Int) = false := by
      unfold FP.Core.sumSign
      split
      · rfl
      · exact decide_eq_false (by omega)
    rw [fq_sum, hv, hsg, Int.natAbs_natCast, fq_min]
  rw [hs, fq_round _ (fq_ok32 (by omega)) (by show a + b < 2 ^ 24; omega)]
  rfl
theorem fl_sub {a b : Nat} (h : a < 16777216) (hb : b ≤ a) : FP.fsub (fl a) (fl b) = fl (a - b) := by
  show UInt32.ofNat (FP.Core.encode FP.Core.b32 (FP.Core.round FP.Core.b32 (FP.Core.exactSum (FP.Core.decode FP.Core.b32 (fl a).toNat) (FP.Core.negate (FP.Core.decode FP.Core.b32 (fl b).toNat))))) = fl (a - b)
  rw [(fl_dec (n := a) (by omega)).1, (fl_dec (n := b) (by omega)).1]
  obtain ⟨Ka, ea⟩ := fq_rep (f := FP.Core.b32) (t := 6) (n := a) (fq_ok32 (by omega)) (by show a < 2 ^ 24; omega)
  obtain ⟨Kb, eb⟩ := fq_rep (f := FP.Core.b32) (t := 6) (n := b) (fq_ok32 (by omega)) (by show b < 2 ^ 24; omega)
  rw [ea, eb]
  have hs : FP.Core.exactSum (.fin false (a * 2 ^ Ka) (-((6 : Nat) : Int) - Ka)) (FP.Core.negate (.fin false (b * 2 ^ Kb) (-((6 : Nat) : Int) - Kb))) = .fin false ((a - b) * 2 ^ (max Ka Kb)) (-((6 : Nat) : Int) - ((max Ka Kb : Nat) : Int)) := by
    show FP.Core.exactSum (.fin false (a * 2 ^ Ka) (-((6 : Nat) : Int) - Ka)) (.fin true (b * 2 ^ Kb) (-((6 : Nat) : Int) - Kb)) = _
    have hm : b * 2 ^ (max Ka Kb) ≤ a * 2 ^ (max Ka Kb) := Nat.mul_le_mul_right _ hb
    have hv : FP.Core.sumUnits false (a * 2 ^ Ka) (-((6 : Nat) : Int) - Ka) true (b * 2 ^ Kb) (-((6 : Nat) : Int) - Kb) (min (-((6 : Nat) : Int) - Ka) (-((6 : Nat) : Int) - Kb)) = (((a - b) * 2 ^ (max Ka Kb) : Nat) : Int) := by
      unfold FP.Core.sumUnits FP.Core.signed
      rw [fq_min, fq_units a Ka (max Ka Kb) 6 (Nat.le_max_left _ _), fq_units b Kb (max Ka Kb) 6 (Nat.le_max_right _ _), if_neg (by decide), if_pos rfl, Nat.sub_mul]
      omega
    have hsg : FP.Core.sumSign false true (((a - b) * 2 ^ (max Ka Kb) : Nat) : Int) = false := by
      unfold FP.Core.sumSign
      split
      · rfl
      · exact decide_eq_false (by omega)
    rw [fq_sum, hv, hsg, Int.natAbs_natCast, fq_min]
  rw [hs, fq_round _ (fq_ok32 (by omega)) (by show a - b < 2 ^ 24; omega)]
  rfl
theorem fl_cmp {a b : Nat} (ha : a < 16777216) (hb : b < 16777216) (op : CmpOp) : Op.cmpValue (FP.fcmp (fl a) (fl b)) op = if a < b then -1 else if a = b then 0 else 1 := by
  have hc : FP.fcmp (fl a) (fl b) = some (if a < b then .lt else if a = b then .eq else .gt) := by
    show FP.Core.order (FP.Core.decode FP.Core.b32 (fl a).toNat) (FP.Core.decode FP.Core.b32 (fl b).toNat) = _
    rw [(fl_dec ha).1, (fl_dec hb).1]
    obtain ⟨Ka, ea⟩ := fq_rep (f := FP.Core.b32) (t := 6) (n := a) (fq_ok32 (by omega)) (by show a < 2 ^ 24; omega)
    obtain ⟨Kb, eb⟩ := fq_rep (f := FP.Core.b32) (t := 6) (n := b) (fq_ok32 (by omega)) (by show b < 2 ^ 24; omega)
    rw [ea, eb]
    unfold FP.Core.order FP.Core.signed
    simp only [fq_min, fq_units a Ka (max Ka Kb) 6 (Nat.le_max_left _ _), fq_units b Kb (max Ka Kb) 6 (Nat.le_max_right _ _)]
    have hp := Nat.two_pow_pos (max Ka Kb)
    congr 1
    show compare ((a * 2 ^ (max Ka Kb) : Nat) : Int) ((b * 2 ^ (max Ka Kb) : Nat) : Int) = _
    rw [fq_cmpI]
    simp only [Int.ofNat_lt, Int.ofNat_inj]
    have e1 : a * 2 ^ (max Ka Kb) < b * 2 ^ (max Ka Kb) ↔ a < b := Nat.mul_lt_mul_right hp
    have e2 : a * 2 ^ (max Ka Kb) = b * 2 ^ (max Ka Kb) ↔ a = b := ⟨fun h => Nat.eq_of_mul_eq_mul_right hp h, fun h => by rw [h]⟩
    simp only [e1, e2]
  rw [hc]
  split
  · rfl
  · split <;> rfl
theorem fl_i2 {n : Nat} (hn : n < 16777216) : FP.i2f (nI n) = UInt32.ofNat (FP.Core.encode FP.Core.b32 (dC FP.Core.b32 0 n)) := by
  show UInt32.ofNat (FP.Core.encode FP.Core.b32 (FP.Core.round FP.Core.b32 (FP.Core.ofInt (nI n).toInt))) = _
  rw [nI_toInt (by omega)]
  have e : FP.Core.ofInt (n : Int) = .fin false (n * 2 ^ 0) (-((0 : Nat) : Int) - (0 : Nat)) := by
    unfold FP.Core.ofInt
    rw [decide_eq_false (by omega), Int.natAbs_natCast, Nat.pow_zero, Nat.mul_one]
    rfl
  rw [e, fq_round 0 (fq_ok32 (by omega)) (by show n < 2 ^ 24; omega)]
theorem fl_idec {n : Nat} (hn : n < 16777216) : FP.Core.decode FP.Core.b32 (FP.i2f (nI n)).toNat = dC FP.Core.b32 0 n := by
  have h := fq_dec (f := FP.Core.b32) (t := 0) (n := n) (fq_ok32 (by omega)) (by show n < 2 ^ 24; omega) (by decide)
  have h2 : FP.Core.encode FP.Core.b32 (dC FP.Core.b32 0 n) < 2139095040 := h.2
  rw [fl_i2 hn, UInt32.toNat_ofNat', Nat.mod_eq_of_lt (by omega)]
  exact h.1
theorem fq_div {f : FP.Core.Fmt} {t n : Nat} (u : Nat) (hf : fq_ok f (t + u)) (hn : n < 2 ^ f.p) : FP.Core.quotient f (dC f t n) (.fin false (2 ^ (f.p - 1)) ((u : Int) - ((f.p : Int) - 1))) = dC f (t + u) n := by
  obtain ⟨hp, hq1, hq2⟩ := hf
  have hd : 2 ^ (f.p - 1) ≠ 0 := Nat.ne_of_gt (Nat.two_pow_pos _)
  by_cases h0 : n = 0
  · subst h0
    unfold dC
    rw [if_pos rfl, if_pos rfl]
    rw [fq_quo, if_neg hd]
    unfold FP.Core.roundRatio
    rw [if_pos rfl]
    rfl
  have hl := fq_le h0 hn
  obtain ⟨h1, h2⟩ := fq_top h0 hn
  unfold dC
  rw [if_neg h0, if_neg h0]
  rw [fq_quo, if_neg hd]
  have hc0 : n * 2 ^ (f.p - 1 - n.log2) ≠ 0 := Nat.mul_ne_zero h0 (Nat.ne_of_gt (Nat.two_pow_pos _))
  have hlog : (n * 2 ^ (f.p - 1 - n.log2)).log2 = f.p - 1 := by rw [fq_log h0]; omega
  have hlog2 : (2 ^ (f.p - 1)).log2 = f.p - 1 := Nat.log2_two_pow
  have hE : ((n.log2 : Int) - ((f.p : Int) - 1) - t - ((u : Int) - ((f.p : Int) - 1))) = (n.log2 : Int) - t - u := by omega
  rw [hE]
  have hle : FP.Core.leading (n * 2 ^ (f.p - 1 - n.log2)) (2 ^ (f.p - 1)) = 0 := by
    unfold FP.Core.leading
    rw [hlog, hlog2]
    have e : (((f.p - 1 : Nat) : Int) - ((f.p - 1 : Nat) : Int)) = 0 := by omega
    simp only [e]
    rw [if_pos]
    show 2 ^ (f.p - 1) * 2 ^ 0 ≤ n * 2 ^ (f.p - 1 - n.log2) * 2 ^ 0
    rw [Nat.pow_zero, Nat.mul_one, Nat.mul_one]
    exact h2
  have hqu : FP.Core.quantum f (n * 2 ^ (f.p - 1 - n.log2)) (2 ^ (f.p - 1)) ((n.log2 : Int) - t - u) = (n.log2 : Int) - ((f.p : Int) - 1) - ((t + u : Nat) : Int) := by
    unfold FP.Core.quantum
    rw [hle]
    omega
  show FP.Core.roundRatio f false _ _ _ = _
  unfold FP.Core.roundRatio
  rw [if_neg hc0, hqu]
  unfold FP.Core.roundAt FP.Core.unitsNum FP.Core.unitsDen
  have e1 : (((n.log2 : Int) - t - u) - ((n.log2 : Int) - ((f.p : Int) - 1) - ((t + u : Nat) : Int))).toNat = f.p - 1 := by omega
  have e2 : (((n.log2 : Int) - ((f.p : Int) - 1) - ((t + u : Nat) : Int)) - ((n.log2 : Int) - t - u)).toNat = 0 := by omega
  rw [e1, e2, Nat.pow_zero, Nat.mul_one, fq_nearM _ _ (Nat.two_pow_pos _), fq_settle h1 (by omega)]
/-- what inkFor(letter) computes -/
theorem fl_ink {n : Nat} (hn : n < 16777216) : FP.fdiv (FP.i2f (nI n)) 1115684864 = fl n := by
  show UInt32.ofNat (FP.Core.encode FP.Core.b32 (FP.Core.quotient FP.Core.b32 (FP.Core.decode FP.Core.b32 (FP.i2f (nI n)).toNat) (FP.Core.decode FP.Core.b32 (1115684864 : UInt32).toNat))) = fl n
  rw [fl_idec hn, show FP.Core.decode FP.Core.b32 (1115684864 : UInt32).toNat = .fin false (2 ^ (FP.Core.b32.p - 1)) (((6 : Nat) : Int) - ((FP.Core.b32.p : Int) - 1)) by decide +kernel, fq_div 6 (fq_ok32 (by omega)) (by show n < 2 ^ 24; omega)]
  rfl
theorem fl_8 {n : Nat} (hn : n < 1048576) : FP.fdiv (FP.i2f (nI n)) 1090519040 = fl (8 * n) := by
  show UInt32.ofNat (FP.Core.encode FP.Core.b32 (FP.Core.quotient FP.Core.b32 (FP.Core.decode FP.Core.b32 (FP.i2f (nI n)).toNat) (FP.Core.decode FP.Core.b32 (1090519040 : UInt32).toNat))) = fl (8 * n)
  rw [fl_idec (by omega), show FP.Core.decode FP.Core.b32 (1090519040 : UInt32).toNat = .fin false (2 ^ (FP.Core.b32.p - 1)) (((3 : Nat) : Int) - ((FP.Core.b32.p : Int) - 1)) by decide +kernel, fq_div 3 (fq_ok32 (by omega)) (by show n < 2 ^ 24; omega)]
  unfold fl
  congr 2
  unfold dC
  by_cases h0 : n = 0
  · subst h0
    rfl
  · have hl : n.log2 < 20 := (Nat.log2_lt h0).mpr (by omega)
    have e : (8 * n).log2 = n.log2 + 3 := by rw [Nat.mul_comm]; exact fq_log (K := 3) h0
    rw [if_neg h0, if_neg (by omega), e]
    have e3 : FP.Core.b32.p = 24 := rfl
    rw [e3]
    have e4 : 8 * n * 2 ^ (24 - 1 - (n.log2 + 3)) = n * 2 ^ (24 - 1 - n.log2) := by
      rw [Nat.mul_comm 8 n, Nat.mul_assoc]
      congr 1
      rw [show (8 : Nat) = 2 ^ 3 from rfl, ← Nat.pow_add]
      congr 1
      omega
    rw [e4]
    congr 1
    omega
theorem fl_f2d {n : Nat} (hn : n < 16777216) : FP.f2d (fl n) = dl n := by
  obtain ⟨K, e⟩ := fq_rep (f := FP.Core.b32) (t := 6) (n := n) (fq_ok32 (by omega)) (by show n < 2 ^ 24; omega)
  have hd := (fl_dec hn).1
  have hnn : FP.Core.fIsNaN (fl n) = false := by
    show decide (FP.Core.decode FP.Core.b32 (fl n).toNat = .nan) = false
    rw [hd, e]
    rfl
  unfold FP.f2d
  rw [hnn]
  show UInt64.ofNat (FP.Core.encode FP.Core.b64 (FP.Core.round FP.Core.b64 (FP.Core.decode FP.Core.b32 (fl n).toNat))) = dl n
  rw [hd, e, fq_round K (fq_ok64 (by omega)) (by show n < 2 ^ 53; omega)]
  rfl
theorem dl_div {n : Nat} (hn : n < 16777216) : FP.ddiv (FP.i2d (nI n)) 4634204016564240384 = dl n := by
  show UInt64.ofNat (FP.Core.encode FP.Core.b64 (FP.Core.quotient FP.Core.b64 (FP.Core.decode FP.Core.b64 (FP.i2d (nI n)).toNat) (FP.Core.decode FP.Core.b64 (4634204016564240384 : UInt64).toNat))) = dl n
  have hi : FP.Core.decode FP.Core.b64 (FP.i2d (nI n)).toNat = dC FP.Core.b64 0 n := by
    have h := fq_dec (f := FP.Core.b64) (t := 0) (n := n) (fq_ok64 (by omega)) (by show n < 2 ^ 53; omega) (by decide)
    have h2 : FP.Core.encode FP.Core.b64 (dC FP.Core.b64 0 n) < 9218868437227405312 := h.2
    have h3 : FP.i2d (nI n) = UInt64.ofNat (FP.Core.encode FP.Core.b64 (dC FP.Core.b64 0 n)) := by
      show UInt64.ofNat (FP.Core.encode FP.Core.b64 (FP.Core.round FP.Core.b64 (FP.Core.ofInt (nI n).toInt))) = _
      rw [nI_toInt (by omega)]
      have e : FP.Core.ofInt (n : Int) = .fin false (n * 2 ^ 0) (-((0 : Nat) : Int) - (0 : Nat)) := by
        unfold FP.Core.ofInt
        rw [decide_eq_false (by omega), Int.natAbs_natCast, Nat.pow_zero, Nat.mul_one]
        rfl
      rw [e, fq_round 0 (fq_ok64 (by omega)) (by show n < 2 ^ 53; omega)]
    rw [h3, UInt64.toNat_ofNat', Nat.mod_eq_of_lt (by omega)]
    exact h.1
  rw [hi, show FP.Core.decode FP.Core.b64 (4634204016564240384 : UInt64).toNat = .fin false (2 ^ (FP.Core.b64.p - 1)) (((6 : Nat) : Int) - ((FP.Core.b64.p : Int) - 1)) by decide +kernel, fq_div 6 (fq_ok64 (by omega)) (by show n < 2 ^ 53; omega)]
  rfl
theorem fl_0 : FP.fconst0 = fl 0 := by decide +kernel
theorem fl_64 : FP.fconst1 = fl 64 := by decide +kernel
theorem fl_256 : (1082130432 : UInt32) = fl 256 := by decide +kernel
end
section
theorem clr_upd (f : Nat → Int32) (i : Nat) : upd (fun q => if q < i then nI 0 else f q) i 0 = fun q => if q < i + 1 then nI 0 else f q := by
  funext q
  unfold upd
  by_cases h : q = i
  · rw [if_pos h, if_pos (by omega)]; rfl
  · rw [if_neg h]
    show (if q < i then nI 0 else f q) = _
    by_cases h2 : q < i
    · rw [if_pos h2, if_pos (by omega)]
    · rw [if_neg h2, if_neg (by omega)]

set_option maxHeartbeats 4000000 in
set_option maxRecDepth 100000 in
theorem ct_at (l : Launch) (G : GT) (ra n : Nat) (f : Nat → Int32) (j : Nat) (hj : j < n) (hN : n ≤ 4096) : Ct (S := Unit) l G NoX yX5_at (Wy yX5_at cX5_at 2 ((Option.some Jvm.ClassFile.FieldType.int))) { frames := 0, cells := 0, slots := 0, locals := 0 } [.ref ra, .int (nI j)] ([(ra, .inl (G.2.1, n, .inl f))]) (fun u => True) (fun u => some (.int (f j))) (fun u => [(ra, .inl (G.2.1, n, .inl f))]) := by
  refine Ct.of (by decide) (Nat.le_of_ble_eq_true rfl) (fun p e s m args below meth c C hr hnm hX => ?_)
  refine J_iload_n C rfl dX5_at_0 ?_
  refine J_if_lt C 16 (by decide) dX5_at_1 (fun h => absurd h (nI_pos (by omega))) (fun _ => ?_)
  refine J_iload_n C rfl dX5_at_4 ?_
  refine J_aload_n C rfl dX5_at_5 ?_
  refine J_ilen C 0 rfl dX5_at_6 ?_
  refine J_icmp_ge C 16 (by decide) dX5_at_7 (fun h => absurd (cv_ge_t (a := j) (b := n) (by omega) (by omega) h) (by omega)) (fun c7 => ?_)
  refine J_aload_n C rfl dX5_at_10 ?_
  refine J_iload_n C rfl dX5_at_11 ?_
  refine J_iald C 0 rfl j rfl (by omega) (by omega) dX5_at_12 ?_
  refine J_goto C 17 (by decide) dX5_at_13 ?_
  exact J_zret C hr rfl dX5_at_17 () rfl trivial rfl

set_option maxHeartbeats 4000000 in
set_option maxRecDepth 100000 in
theorem ct_put (l : Launch) (G : GT) (ra n : Nat) (f : Nat → Int32) (j : Nat) (x : Int32) (hj : j < n) (hN : n ≤ 4096) : Ct (S := Unit) l G NoX yX5_put (Wy yX5_put cX5_put 3 ((Option.none : Option Jvm.ClassFile.FieldType))) { frames := 0, cells := 0, slots := 0, locals := 0 } [.ref ra, .int (nI j), .int x] ([(ra, .inl (G.2.1, n, .inl f))]) (fun u => True) (fun u => none) (fun u => [(ra, .inl (G.2.1, n, .inl (upd f j x)))]) := by
  refine Ct.of (by decide) (Nat.le_of_ble_eq_true rfl) (fun p e s m args below meth c C hr hnm hX => ?_)
  refine J_iload_n C rfl dX5_put_0 ?_
  refine J_if_lt C 14 (by decide) dX5_put_1 (fun h => absurd h (nI_pos (by omega))) (fun _ => ?_)
  refine J_iload_n C rfl dX5_put_4 ?_
  refine J_aload_n C rfl dX5_put_5 ?_
  refine J_ilen C 0 rfl dX5_put_6 ?_
  refine J_icmp_ge C 14 (by decide) dX5_put_7 (fun h => absurd (cv_ge_t (a := j) (b := n) (by omega) (by omega) h) (by omega)) (fun c7 => ?_)
  refine J_aload_n C rfl dX5_put_10 ?_
  refine J_iload_n C rfl dX5_put_11 ?_
  refine J_iload_n C rfl dX5_put_12 ?_
  refine J_iast C 0 ([(ra, .inl (G.2.1, n, .inl (upd f j x)))]) rfl j rfl (by omega) (by omega) rfl dX5_put_13 ?_
  exact J_vret C hr dX5_put_14 () rfl trivial rfl

set_option maxHeartbeats 4000000 in
set_option maxRecDepth 100000 in
theorem ct_clearRow (l : Launch) (G : GT) (ra n : Nat) (f : Nat → Int32) (hN : n ≤ 4096) : Ct (S := Unit) l G NoX yX5_clearRow (Wy yX5_clearRow cX5_clearRow 2 ((Option.none : Option Jvm.ClassFile.FieldType))) { frames := 0, cells := 0, slots := 0, locals := 0 } [.ref ra] ([(ra, .inl (G.2.1, n, .inl f))]) (fun u => True) (fun u => none) (fun u => [(ra, .inl (G.2.1, n, .inl (fun _ => nI 0)))]) := by
  refine Ct.of (by decide) (Nat.le_of_ble_eq_true rfl) (fun p e s m args below meth c C hr hnm hX => ?_)
  refine J_iconst C 0 (by decide) dX5_clearRow_0 ?_
  refine J_istore_n C [(1, .int 0), (0, .ref ra)] (by decide) rfl dX5_clearRow_1 ?_
  refine J_lvp [1, 0] [(0, .ref ra), (1, .int (nI 0))] rfl ?_
  refine J_loop (fun i => [(ra, .inl (G.2.1, n, .inl (fun q => if q < i then nI 0 else f q)))]) (fun i => [(0, .ref ra), (1, .int (nI i))]) (fun i => i ≤ n) (fun i => n - i) (fun i hi ih => ?_) 0 (Nat.zero_le _) rfl rfl
  refine J_iload_n C rfl dX5_clearRow_2 ?_
  refine J_aload_n C rfl dX5_clearRow_3 ?_
  refine J_ilen C 0 rfl dX5_clearRow_4 ?_
  refine J_icmp_ge C 18 (by decide) dX5_clearRow_5 (fun c5 => ?_) (fun c5 => ?_)
  · skip
    have c5 := cv_ge_t (a := i) (b := n) (by omega) (by omega) c5
    refine J_arr 0 (fun _ => nI 0) rfl (fun j hj => if_pos (by omega)) ?_
    exact J_vret C hr dX5_clearRow_18 () rfl trivial rfl
  · skip
    have c5 := cv_ge_f (a := i) (b := n) (by omega) (by omega) c5
    refine J_aload_n C rfl dX5_clearRow_8 ?_
    refine J_iload_n C rfl dX5_clearRow_9 ?_
    refine J_iconst C 0 (by decide) dX5_clearRow_10 ?_
    refine J_iast C 0 ([(ra, .inl (G.2.1, n, .inl (upd (fun q => if q < i then nI 0 else f q) i 0)))]) rfl i rfl (by omega) (by omega) rfl dX5_clearRow_11 ?_
    refine J_arr 0 (fun q => if q < i + 1 then nI 0 else f q) rfl (fun q _ => congrFun (clr_upd f i) q) ?_
    refine J_ws (ws' := [(ra, .inl (G.2.1, n, .inl (fun q => if q < i + 1 then nI 0 else f q)))]) rfl ?_
    refine J_iinc C (nI (i + 1)) [(1, .int (nI (i + 1))), (0, .ref ra)] 1 rfl (by first | exact nI_add _ 1 | rfl) (by decide) rfl dX5_clearRow_12 ?_
    refine J_goto C 2 (by decide) dX5_clearRow_15 ?_
    refine J_lvp [1, 0] [(0, .ref ra), (1, .int (nI (i + 1)))] rfl ?_
    exact ih (i + 1) (by omega) (by omega)

set_option maxHeartbeats 4000000 in
set_option maxRecDepth 100000 in
theorem ct_copyRow (l : Launch) (G : GT) (ra rb n : Nat) (f g : Nat → Int32) (hN : n ≤ 4096) : Ct (S := Unit) l G NoX yX5_copyRow (Wy yX5_copyRow cX5_copyRow 2 ((Option.none : Option Jvm.ClassFile.FieldType))) { frames := 1, cells := 0, slots := 0, locals := 40 } [.ref ra, .ref rb] ([(ra, .inl (G.2.1, n, .inl f)), (rb, .inl (G.2.1, n, .inl g))]) (fun u => True) (fun u => none) (fun u => [(ra, .inl (G.2.1, n, .inl f)), (rb, .inl (G.2.1, n, .inl f))]) := by
  refine Ct.of (by decide) (Nat.le_of_ble_eq_true rfl) (fun p e s m args below meth c C hr hnm hX => ?_)
  refine J_aload_n C rfl dX5_copyRow_0 ?_
  refine J_iconst C 0 (by decide) dX5_copyRow_1 ?_
  refine J_aload_n C rfl dX5_copyRow_2 ?_
  refine J_iconst C 0 (by decide) dX5_copyRow_3 ?_
  refine J_aload_n C rfl dX5_copyRow_4 ?_
  refine J_ilen C 0 rfl dX5_copyRow_5 ?_
  refine J_aload_n C rfl dX5_copyRow_6 ?_
  refine J_ilen C 1 rfl dX5_copyRow_7 ?_
  refine J_mmin C k319 k320 k39 k321 (Nat.le_of_ble_eq_true rfl) (Nat.le_of_ble_eq_true rfl) ⟨Nat.le_of_ble_eq_true rfl, Nat.le_of_ble_eq_true rfl⟩ dX5_copyRow_8 ?_
  refine J_i (ite_self _ : (if (nI n) < (nI n) then (nI n) else (nI n)) = (nI n)) ?_
  refine J_copyi C 0 1 ([(ra, .inl (G.2.1, n, .inl f)), (rb, .inl (G.2.1, n, .inl f))]) k322 k324 k323 k40 rfl rfl rfl rfl rfl (by omega) (Nat.le_of_ble_eq_true rfl) (Nat.le_of_ble_eq_true rfl) rfl dX5_copyRow_11 ?_
  exact J_vret C hr dX5_copyRow_14 () rfl trivial rfl

set_option maxHeartbeats 4000000 in
set_option maxRecDepth 100000 in
theorem ct_isScribe (l : Launch) (G : GT) (x : Int32)  : Ct (S := Unit) l G NoX yX5_isScribe (Wy yX5_isScribe cX5_isScribe 1 ((Option.some Jvm.ClassFile.FieldType.boolean))) { frames := 0, cells := 0, slots := 0, locals := 0 } [.int x] ([]) (fun u => True) (fun u => some (.int (if x = 0 ∨ x = 1 then 1 else 0))) (fun u => []) := by
  refine Ct.of (by decide) (Nat.le_of_ble_eq_true rfl) (fun p e s m args below meth c C hr hnm hX => ?_)
  refine J_iload_n C rfl dX5_isScribe_0 ?_
  refine J_if_eq C 9 (by decide) dX5_isScribe_1 (fun c1 => ?_) (fun c1 => ?_)
  · skip
    refine J_iconst C 1 (by decide) dX5_isScribe_9 ?_
    refine J_goto C 14 (by decide) dX5_isScribe_10 ?_
    exact J_zret C hr rfl dX5_isScribe_14 () (by simp [c1]) trivial rfl
  · skip
    refine J_iload_n C rfl dX5_isScribe_4 ?_
    refine J_iconst C 1 (by decide) dX5_isScribe_5 ?_
    refine J_icmp_ne C 13 (by decide) dX5_isScribe_6 (fun c6 => ?_) (fun c6 => ?_)
    · skip
      refine J_iconst C 0 (by decide) dX5_isScribe_13 ?_
      exact J_zret C hr rfl dX5_isScribe_14 () (by simp [c1, c6]) trivial rfl
    · skip
      refine J_iconst C 1 (by decide) dX5_isScribe_9 ?_
      refine J_goto C 14 (by decide) dX5_isScribe_10 ?_
      exact J_zret C hr rfl dX5_isScribe_14 () (by simp [c1, c6]) trivial rfl

set_option maxHeartbeats 4000000 in
set_option maxRecDepth 100000 in
theorem ct_inkFor (l : Launch) (G : GT) (n : Nat) (hn : n < 16777216) : Ct (S := Unit) l G NoX yX5_inkFor (Wy yX5_inkFor cX5_inkFor 1 ((Option.some Jvm.ClassFile.FieldType.float))) { frames := 0, cells := 0, slots := 0, locals := 0 } [.int (nI n)] ([]) (fun u => True) (fun u => some (.float (fl n))) (fun u => []) := by
  refine Ct.of (by decide) (Nat.le_of_ble_eq_true rfl) (fun p e s m args below meth c C hr hnm hX => ?_)
  refine J_iload_n C rfl dX5_inkFor_0 ?_
  refine J_i2f C dX5_inkFor_1 ?_
  refine J_ldcf C k399 dX5_inkFor_2 ?_
  refine J_fdiv C (by rw [fl_ink (n := n) (by omega)]; exact fl_num (by omega)) dX5_inkFor_4 ?_
  refine J_f (fl_ink (n := n) (by omega) : (FP.fdiv (FP.i2f (nI n)) 1115684864) = (fl n)) ?_
  exact J_fret C hr dX5_inkFor_5 () rfl trivial rfl

theorem ct_putN (l : Launch) (G : GT) (ra n : Nat) (g : Nat → Nat) (j x : Nat) (hj : j < n) (hN : n ≤ 4096) : Ct (S := Unit) l G NoX yX5_put (Wy yX5_put cX5_put 3 none) { frames := 0, cells := 0, slots := 0, locals := 0 } [.ref ra, .int (nI j), .int (nI x)] ([(ra, .inl (G.2.1, n, .inl (fun q => nI (g q))))]) (fun u => True) (fun u => none) (fun u => [(ra, .inl (G.2.1, n, .inl (fun q => nI (if q = j then x else g q))))]) := by
  have h := ct_put l G ra n (fun q => nI (g q)) j (nI x) hj hN
  rw [upd_nI] at h
  exact h
end
section
set_option maxHeartbeats 4000000 in
set_option maxRecDepth 100000 in
theorem ct_has (l : Launch) (G : GT) (a : Nat → Nat) (σ : AS) (d : Nat → Nat) (x : Int32) (hn : σ 0 4 ≤ 40) : Ct (S := Unit) l G NoX yX1_has (Wy yX1_has cX1_has 2 ((Option.some Jvm.ClassFile.FieldType.boolean))) { frames := 0, cells := 0, slots := 0, locals := 0 } [.ref (a 1), .int x] (pgW G a σ d) (fun u => True) (fun u => some (.int (if isPl σ x then 1 else 0))) (fun u => pgW G a σ d) := by
  refine Ct.of (by decide) (Nat.le_of_ble_eq_true rfl) (fun p e s m args below meth c C hr hnm hX => ?_)
  refine J_iload_n C rfl dX1_has_0 ?_
  refine J_if_lt C 16 (by decide) dX1_has_1 (fun c1 => ?_) (fun c1 => ?_)
  · skip
    refine J_iconst C 0 (by decide) dX1_has_16 ?_
    exact J_zret C hr rfl dX1_has_17 () (by rw [if_neg (isPl_lt c1)]) trivial rfl
  · skip
    refine J_iload_n C rfl dX1_has_4 ?_
    refine J_aload_n C rfl dX1_has_5 ?_
    refine J_get C 0 6 in1 rfl rfl (by decide) k74 rfl dX1_has_6 ?_
    refine J_icmp_ge C 16 (by decide) dX1_has_9 (fun c9 => ?_) (fun c9 => ?_)
    · skip
      refine J_iconst C 0 (by decide) dX1_has_16 ?_
      exact J_zret C hr rfl dX1_has_17 () (by rw [if_neg (isPl_ge hn c9)]) trivial rfl
    · skip
      refine J_iconst C 1 (by decide) dX1_has_12 ?_
      refine J_goto C 17 (by decide) dX1_has_13 ?_
      exact J_zret C hr rfl dX1_has_17 () (by rw [if_pos (isPl_ok hn c1 c9)]) trivial rfl

set_option maxHeartbeats 4000000 in
set_option maxRecDepth 100000 in
theorem ct_mirrorOf (l : Launch) (G : GT) (a : Nat → Nat) (σ : AS) (d : Nat → Nat) (j : Nat) (hn : σ 0 4 ≤ 40) (hj : j < σ 0 4) : Ct (S := Unit) l G NoX yX1_mirrorOf (Wy yX1_mirrorOf cX1_mirrorOf 2 ((Option.some Jvm.ClassFile.FieldType.int))) { frames := 0, cells := 0, slots := 0, locals := 0 } [.ref (a 1), .int (nI j)] (pgW G a σ d) (fun u => True) (fun u => some (.int (nI (σ 0 4 - 1 - j)))) (fun u => pgW G a σ d) := by
  refine Ct.of (by decide) (Nat.le_of_ble_eq_true rfl) (fun p e s m args below meth c C hr hnm hX => ?_)
  refine J_aload_n C rfl dX1_mirrorOf_0 ?_
  refine J_get C 0 6 in1 rfl rfl (by decide) k74 rfl dX1_mirrorOf_1 ?_
  refine J_iconst C 1 (by decide) dX1_mirrorOf_4 ?_
  refine J_isub C dX1_mirrorOf_5 ?_
  refine J_i (pk_sub (a := σ 0 4) (b := 1) (by omega) : ((nI (σ 0 4)) - 1) = (nI (σ 0 4 - 1))) ?_
  refine J_iload_n C rfl dX1_mirrorOf_6 ?_
  refine J_isub C dX1_mirrorOf_7 ?_
  refine J_i (pk_sub (a := σ 0 4 - 1) (b := j) (by omega) : ((nI (σ 0 4 - 1)) - (nI j)) = (nI ((σ 0 4 - 1) - j))) ?_
  exact J_zret C hr rfl dX1_mirrorOf_8 () rfl trivial rfl

set_option maxHeartbeats 4000000 in
set_option maxRecDepth 100000 in
theorem ct_letterFor (l : Launch) (G : GT) (a : Nat → Nat) (σ : AS) (d : Nat → Nat) (j : Nat) (hI : Inv σ) (hD : DOK σ d) (hj : j < σ 0 4) : Ct (S := Unit) l G NoX yX1_letterFor (Wy yX1_letterFor cX1_letterFor 3 ((Option.some Jvm.ClassFile.FieldType.int))) { frames := 1, cells := 0, slots := 0, locals := 21 } [.ref (a 1), .int (nI j)] (pgW G a σ d) (fun u => True) (fun u => some (.int (nI (letAt σ j)))) (fun u => pgW G a σ d) := by
  refine Ct.of (by decide) (Nat.le_of_ble_eq_true rfl) (fun p e s m args below meth c C hr hnm hX => ?_)
  have h40 := hI.a
  have hq := hI.q (q := j) (by omega)
  refine J_aload_n C rfl dX1_letterFor_0 ?_
  refine J_get C 0 1 in1 rfl rfl (by decide) k64 rfl dX1_letterFor_1 ?_
  refine J_iload_n C rfl dX1_letterFor_4 ?_
  refine J_callSN (as := [.ref (a 3), .int (nI j)]) (rest := []) C (ct_at l G (a 3) 40 (fun q => nI (σ 2 q)) j (by omega) (by decide)) (fun u => pgW G a σ d) [2] [0, 1, 3, 4, 5, 6] 2 nmTwoScribes_Page_56 k340 k32 k341 rfl (by decide +kernel) ⟨Nat.le_of_ble_eq_true rfl, Nat.le_of_ble_eq_true rfl⟩ ⟨Nat.le_of_ble_eq_true rfl, Nat.le_of_ble_eq_true rfl⟩ dX1_letterFor_5 (Nat.le_of_ble_eq_true rfl) rfl (by decide +kernel) (fun _ => rfl) ([(a 1, .inr (1, [.ref (a 2), .ref (a 3), .ref (a 4), .ref (a 5), .ref (a 6), .ref (a 7), .int (nI (σ 0 4)), .int (nI (σ 0 5))])), (a 2, .inl (G.2.1, 40, .inl (fun q => nI (d q)))), (a 4, .inl (G.2.1, 40, .inl (fun q => nI (σ 3 q)))), (a 5, .inl (G.2.1, 40, .inl (fun q => nI (σ 6 q)))), (a 6, .inl (G.2.1, 40, .inl (fun q => nI (σ 4 q)))), (a 7, .inl (G.2.1, 40, .inl (fun q => nI (σ 5 q))))]) rfl (fun _ => rfl) 7 (fun _ => rfl) (by decide +kernel) (by decide +kernel) (fun _ _ => ?_)
  refine J_st (st' := [.int (nI (σ 2 j))]) rfl ?_
  refine J_istore_n C [(2, .int (nI (σ 2 j))), (0, .ref (a 1)), (1, .int (nI j))] (by decide) rfl dX1_letterFor_8 ?_
  refine J_iload_n C rfl dX1_letterFor_9 ?_
  refine J_if_eq C 17 (by decide) dX1_letterFor_10 (fun c10 => ?_) (fun c10 => ?_)
  · skip
    have c10 := cv_eq_t (a := (σ 2 j)) (b := 0) (by omega) (by omega) c10
    refine J_aload_n C rfl dX1_letterFor_17 ?_
    refine J_get C 0 0 in1 rfl rfl (by decide) k61 rfl dX1_letterFor_18 ?_
    refine J_iload_n C rfl dX1_letterFor_21 ?_
    refine J_callSN (as := [.ref (a 2), .int (nI j)]) (rest := []) C (ct_at l G (a 2) 40 (fun q => nI (d q)) j (by omega) (by decide)) (fun u => pgW G a σ d) [1] [0, 2, 3, 4, 5, 6] 2 nmTwoScribes_Page_56 k340 k32 k341 rfl (by decide +kernel) ⟨Nat.le_of_ble_eq_true rfl, Nat.le_of_ble_eq_true rfl⟩ ⟨Nat.le_of_ble_eq_true rfl, Nat.le_of_ble_eq_true rfl⟩ dX1_letterFor_22 (Nat.le_of_ble_eq_true rfl) rfl (by decide +kernel) (fun _ => rfl) ([(a 1, .inr (1, [.ref (a 2), .ref (a 3), .ref (a 4), .ref (a 5), .ref (a 6), .ref (a 7), .int (nI (σ 0 4)), .int (nI (σ 0 5))])), (a 3, .inl (G.2.1, 40, .inl (fun q => nI (σ 2 q)))), (a 4, .inl (G.2.1, 40, .inl (fun q => nI (σ 3 q)))), (a 5, .inl (G.2.1, 40, .inl (fun q => nI (σ 6 q)))), (a 6, .inl (G.2.1, 40, .inl (fun q => nI (σ 4 q)))), (a 7, .inl (G.2.1, 40, .inl (fun q => nI (σ 5 q))))]) rfl (fun _ => rfl) 7 (fun _ => rfl) (by decide +kernel) (by decide +kernel) (fun _ _ => ?_)
    refine J_st (st' := [.int (nI (d j))]) rfl ?_
    exact J_zret C hr rfl dX1_letterFor_25 () (by unfold letAt; rw [if_neg (by omega), ← hD j hj]) trivial rfl
  · skip
    have c10 := cv_eq_f (a := (σ 2 j)) (b := 0) (by omega) (by omega) c10
    refine J_iload_n C rfl dX1_letterFor_13 ?_
    refine J_goto C 25 (by decide) dX1_letterFor_14 ?_
    exact J_zret C hr rfl dX1_letterFor_25 () (by unfold letAt; rw [if_pos (by omega)]) trivial rfl

set_option maxHeartbeats 4000000 in
set_option maxRecDepth 100000 in
theorem ct_isWritten (l : Launch) (G : GT) (a : Nat → Nat) (σ : AS) (d : Nat → Nat) (j : Nat) (hj : j < 40) (hb : σ 3 j ≤ 26) : Ct (S := Unit) l G NoX yX1_isWritten (Wy yX1_isWritten cX1_isWritten 2 ((Option.some Jvm.ClassFile.FieldType.boolean))) { frames := 1, cells := 0, slots := 0, locals := 21 } [.ref (a 1), .int (nI j)] (pgW G a σ d) (fun u => True) (fun u => some (.int (if 0 < σ 3 j then 1 else 0))) (fun u => pgW G a σ d) := by
  refine Ct.of (by decide) (Nat.le_of_ble_eq_true rfl) (fun p e s m args below meth c C hr hnm hX => ?_)
  refine J_aload_n C rfl dX1_isWritten_0 ?_
  refine J_get C 0 2 in1 rfl rfl (by decide) k66 rfl dX1_isWritten_1 ?_
  refine J_iload_n C rfl dX1_isWritten_4 ?_
  refine J_callSN (as := [.ref (a 4), .int (nI j)]) (rest := []) C (ct_at l G (a 4) 40 (fun q => nI (σ 3 q)) j (by omega) (by decide)) (fun u => pgW G a σ d) [3] [0, 1, 2, 4, 5, 6] 2 nmTwoScribes_Page_56 k340 k32 k341 rfl (by decide +kernel) ⟨Nat.le_of_ble_eq_true rfl, Nat.le_of_ble_eq_true rfl⟩ ⟨Nat.le_of_ble_eq_true rfl, Nat.le_of_ble_eq_true rfl⟩ dX1_isWritten_5 (Nat.le_of_ble_eq_true rfl) rfl (by decide +kernel) (fun _ => rfl) ([(a 1, .inr (1, [.ref (a 2), .ref (a 3), .ref (a 4), .ref (a 5), .ref (a 6), .ref (a 7), .int (nI (σ 0 4)), .int (nI (σ 0 5))])), (a 2, .inl (G.2.1, 40, .inl (fun q => nI (d q)))), (a 3, .inl (G.2.1, 40, .inl (fun q => nI (σ 2 q)))), (a 5, .inl (G.2.1, 40, .inl (fun q => nI (σ 6 q)))), (a 6, .inl (G.2.1, 40, .inl (fun q => nI (σ 4 q)))), (a 7, .inl (G.2.1, 40, .inl (fun q => nI (σ 5 q))))]) rfl (fun _ => rfl) 7 (fun _ => rfl) (by decide +kernel) (by decide +kernel) (fun _ _ => ?_)
  refine J_st (st' := [.int (nI (σ 3 j))]) rfl ?_
  refine J_if_eq C 15 (by decide) dX1_isWritten_8 (fun c8 => ?_) (fun c8 => ?_)
  · skip
    have c8 := cv_eq_t (a := (σ 3 j)) (b := 0) (by omega) (by omega) c8
    refine J_iconst C 0 (by decide) dX1_isWritten_15 ?_
    exact J_zret C hr rfl dX1_isWritten_16 () (by rw [if_neg (by omega)]) trivial rfl
  · skip
    have c8 := cv_eq_f (a := (σ 3 j)) (b := 0) (by omega) (by omega) c8
    refine J_iconst C 1 (by decide) dX1_isWritten_11 ?_
    refine J_goto C 16 (by decide) dX1_isWritten_12 ?_
    exact J_zret C hr rfl dX1_isWritten_16 () (by rw [if_pos (by omega)]) trivial rfl

set_option maxHeartbeats 4000000 in
set_option maxRecDepth 100000 in
theorem ct_isFaultless (l : Launch) (G : GT) (a : Nat → Nat) (σ : AS) (d : Nat → Nat) (j : Nat) (hI : Inv σ) (hD : DOK σ d) (hj : j < σ 0 4) : Ct (S := Unit) l G NoX yX1_isFaultless (Wy yX1_isFaultless cX1_isFaultless 2 ((Option.some Jvm.ClassFile.FieldType.boolean))) { frames := 1, cells := 0, slots := 0, locals := 21 } [.ref (a 1), .int (nI j)] (pgW G a σ d) (fun u => True) (fun u => some (.int (if σ 3 j = dueAt σ j ∧ σ 4 j = 0 then 1 else 0))) (fun u => pgW G a σ d) := by
  refine Ct.of (by decide) (Nat.le_of_ble_eq_true rfl) (fun p e s m args below meth c C hr hnm hX => ?_)
  have h40 := hI.a
  have hq := hI.q (q := j) (by omega)
  have hdj := hD j hj
  have hdu := hI.due hj
  refine J_aload_n C rfl dX1_isFaultless_0 ?_
  refine J_get C 0 2 in1 rfl rfl (by decide) k66 rfl dX1_isFaultless_1 ?_
  refine J_iload_n C rfl dX1_isFaultless_4 ?_
  refine J_callSN (as := [.ref (a 4), .int (nI j)]) (rest := []) C (ct_at l G (a 4) 40 (fun q => nI (σ 3 q)) j (by omega) (by decide)) (fun u => pgW G a σ d) [3] [0, 1, 2, 4, 5, 6] 2 nmTwoScribes_Page_56 k340 k32 k341 rfl (by decide +kernel) ⟨Nat.le_of_ble_eq_true rfl, Nat.le_of_ble_eq_true rfl⟩ ⟨Nat.le_of_ble_eq_true rfl, Nat.le_of_ble_eq_true rfl⟩ dX1_isFaultless_5 (Nat.le_of_ble_eq_true rfl) rfl (by decide +kernel) (fun _ => rfl) ([(a 1, .inr (1, [.ref (a 2), .ref (a 3), .ref (a 4), .ref (a 5), .ref (a 6), .ref (a 7), .int (nI (σ 0 4)), .int (nI (σ 0 5))])), (a 2, .inl (G.2.1, 40, .inl (fun q => nI (d q)))), (a 3, .inl (G.2.1, 40, .inl (fun q => nI (σ 2 q)))), (a 5, .inl (G.2.1, 40, .inl (fun q => nI (σ 6 q)))), (a 6, .inl (G.2.1, 40, .inl (fun q => nI (σ 4 q)))), (a 7, .inl (G.2.1, 40, .inl (fun q => nI (σ 5 q))))]) rfl (fun _ => rfl) 7 (fun _ => rfl) (by decide +kernel) (by decide +kernel) (fun _ _ => ?_)
  refine J_st (st' := [.int (nI (σ 3 j))]) rfl ?_
  refine J_aload_n C rfl dX1_isFaultless_8 ?_
  refine J_get C 0 0 in1 rfl rfl (by decide) k61 rfl dX1_isFaultless_9 ?_
  refine J_iload_n C rfl dX1_isFaultless_12 ?_
  refine J_callSN (as := [.ref (a 2), .int (nI j)]) (rest := [.int (nI (σ 3 j))]) C (ct_at l G (a 2) 40 (fun q => nI (d q)) j (by omega) (by decide)) (fun u => pgW G a σ d) [1] [0, 2, 3, 4, 5, 6] 2 nmTwoScribes_Page_56 k340 k32 k341 rfl (by decide +kernel) ⟨Nat.le_of_ble_eq_true rfl, Nat.le_of_ble_eq_true rfl⟩ ⟨Nat.le_of_ble_eq_true rfl, Nat.le_of_ble_eq_true rfl⟩ dX1_isFaultless_13 (Nat.le_of_ble_eq_true rfl) rfl (by decide +kernel) (fun _ => rfl) ([(a 1, .inr (1, [.ref (a 2), .ref (a 3), .ref (a 4), .ref (a 5), .ref (a 6), .ref (a 7), .int (nI (σ 0 4)), .int (nI (σ 0 5))])), (a 3, .inl (G.2.1, 40, .inl (fun q => nI (σ 2 q)))), (a 4, .inl (G.2.1, 40, .inl (fun q => nI (σ 3 q)))), (a 5, .inl (G.2.1, 40, .inl (fun q => nI (σ 6 q)))), (a 6, .inl (G.2.1, 40, .inl (fun q => nI (σ 4 q)))), (a 7, .inl (G.2.1, 40, .inl (fun q => nI (σ 5 q))))]) rfl (fun _ => rfl) 7 (fun _ => rfl) (by decide +kernel) (by decide +kernel) (fun _ _ => ?_)
  refine J_st (st' := [.int (nI (d j)), .int (nI (σ 3 j))]) rfl ?_
  refine J_icmp_ne C 34 (by decide) dX1_isFaultless_16 (fun c16 => ?_) (fun c16 => ?_)
  · skip
    have c16 := cv_ne_t (a := (σ 3 j)) (b := (d j)) (by omega) (by omega) c16
    refine J_iconst C 0 (by decide) dX1_isFaultless_34 ?_
    exact J_zret C hr rfl dX1_isFaultless_35 () (by rw [if_neg (by omega)]) trivial rfl
  · skip
    have c16 := cv_ne_f (a := (σ 3 j)) (b := (d j)) (by omega) (by omega) c16
    refine J_aload_n C rfl dX1_isFaultless_19 ?_
    refine J_get C 0 4 in1 rfl rfl (by decide) k70 rfl dX1_isFaultless_20 ?_
    refine J_iload_n C rfl dX1_isFaultless_23 ?_
    refine J_callSN (as := [.ref (a 6), .int (nI j)]) (rest := []) C (ct_at l G (a 6) 40 (fun q => nI (σ 4 q)) j (by omega) (by decide)) (fun u => pgW G a σ d) [5] [0, 1, 2, 3, 4, 6] 2 nmTwoScribes_Page_56 k340 k32 k341 rfl (by decide +kernel) ⟨Nat.le_of_ble_eq_true rfl, Nat.le_of_ble_eq_true rfl⟩ ⟨Nat.le_of_ble_eq_true rfl, Nat.le_of_ble_eq_true rfl⟩ dX1_isFaultless_24 (Nat.le_of_ble_eq_true rfl) rfl (by decide +kernel) (fun _ => rfl) ([(a 1, .inr (1, [.ref (a 2), .ref (a 3), .ref (a 4), .ref (a 5), .ref (a 6), .ref (a 7), .int (nI (σ 0 4)), .int (nI (σ 0 5))])), (a 2, .inl (G.2.1, 40, .inl (fun q => nI (d q)))), (a 3, .inl (G.2.1, 40, .inl (fun q => nI (σ 2 q)))), (a 4, .inl (G.2.1, 40, .inl (fun q => nI (σ 3 q)))), (a 5, .inl (G.2.1, 40, .inl (fun q => nI (σ 6 q)))), (a 7, .inl (G.2.1, 40, .inl (fun q => nI (σ 5 q))))]) rfl (fun _ => rfl) 7 (fun _ => rfl) (by decide +kernel) (by decide +kernel) (fun _ _ => ?_)
    refine J_st (st' := [.int (nI (σ 4 j))]) rfl ?_
    refine J_if_ne C 34 (by decide) dX1_isFaultless_27 (fun c27 => ?_) (fun c27 => ?_)
    · skip
      have c27 := cv_ne_t (a := (σ 4 j)) (b := 0) (by omega) (by omega) c27
      refine J_iconst C 0 (by decide) dX1_isFaultless_34 ?_
      exact J_zret C hr rfl dX1_isFaultless_35 () (by rw [if_neg (by omega)]) trivial rfl
    · skip
      have c27 := cv_ne_f (a := (σ 4 j)) (b := 0) (by omega) (by omega) c27
      refine J_iconst C 1 (by decide) dX1_isFaultless_30 ?_
      refine J_goto C 35 (by decide) dX1_isFaultless_31 ?_
      exact J_zret C hr rfl dX1_isFaultless_35 () (by rw [if_pos (by omega)]) trivial rfl

set_option maxHeartbeats 4000000 in
set_option maxRecDepth 100000 in
theorem ct_areUnlike (l : Launch) (G : GT) (a : Nat → Nat) (σ : AS) (d : Nat → Nat) (j k : Nat) (hI : Inv σ) (hj : j < σ 0 4) (hk : k < σ 0 4) : Ct (S := Unit) l G NoX yX1_areUnlike (Wy yX1_areUnlike cX1_areUnlike 3 ((Option.some Jvm.ClassFile.FieldType.boolean))) { frames := 2, cells := 0, slots := 0, locals := 42 } [.ref (a 1), .int (nI j), .int (nI k)] (pgW G a σ d) (fun u => True) (fun u => some (.int (if 0 < σ 3 j ∧ 0 < σ 3 k ∧ ¬ σ 3 j = σ 3 k then 1 else 0))) (fun u => pgW G a σ d) := by
  refine Ct.of (by decide) (Nat.le_of_ble_eq_true rfl) (fun p e s m args below meth c C hr hnm hX => ?_)
  have h40 := hI.a
  have hq := hI.q (q := j) (by omega)
  have hq2 := hI.q (q := k) (by omega)
  refine J_aload_n C rfl dX1_areUnlike_0 ?_
  refine J_iload_n C rfl dX1_areUnlike_1 ?_
  refine J_callV (as := [.int (nI j)]) (rest := []) C (ct_isWritten l G a σ d j (by omega) (by omega)) (fun u => pgW G a σ d) [0, 1, 2, 3, 4, 5, 6] [] 1 k541 k364 k365 k34 k366 rfl (by decide +kernel) ⟨Nat.le_of_ble_eq_true rfl, Nat.le_of_ble_eq_true rfl⟩ ⟨Nat.le_of_ble_eq_true rfl, Nat.le_of_ble_eq_true rfl⟩ dX1_areUnlike_2 (Nat.le_of_ble_eq_true rfl) 0 rfl rfl rfl (by decide +kernel) (fun _ => rfl) ([]) rfl (fun _ => rfl) 7 (fun _ => rfl) (by decide +kernel) (by decide +kernel) (fun _ _ => ?_)
  refine J_st (st' := [.int (if 0 < σ 3 j then 1 else 0)]) rfl ?_
  refine J_if_eq C 39 (by decide) dX1_areUnlike_5 (fun c5 => ?_) (fun c5 => ?_)
  · skip
    have c5 : ¬ (0 < σ 3 j) := fun q => by rw [if_pos q] at c5; exact absurd c5 (by decide)
    refine J_iconst C 0 (by decide) dX1_areUnlike_39 ?_
    exact J_zret C hr rfl dX1_areUnlike_40 () (by rw [if_neg (by omega)]) trivial rfl
  · skip
    have c5 : 0 < σ 3 j := Classical.byContradiction fun q => c5 (by rw [if_neg q])
    refine J_aload_n C rfl dX1_areUnlike_8 ?_
    refine J_iload_n C rfl dX1_areUnlike_9 ?_
    refine J_callV (as := [.int (nI k)]) (rest := []) C (ct_isWritten l G a σ d k (by omega) (by omega)) (fun u => pgW G a σ d) [0, 1, 2, 3, 4, 5, 6] [] 1 k541 k364 k365 k34 k366 rfl (by decide +kernel) ⟨Nat.le_of_ble_eq_true rfl, Nat.le_of_ble_eq_true rfl⟩ ⟨Nat.le_of_ble_eq_true rfl, Nat.le_of_ble_eq_true rfl⟩ dX1_areUnlike_10 (Nat.le_of_ble_eq_true rfl) 0 rfl rfl rfl (by decide +kernel) (fun _ => rfl) ([]) rfl (fun _ => rfl) 7 (fun _ => rfl) (by decide +kernel) (by decide +kernel) (fun _ _ => ?_)
    refine J_st (st' := [.int (if 0 < σ 3 k then 1 else 0)]) rfl ?_
    refine J_if_eq C 39 (by decide) dX1_areUnlike_13 (fun c13 => ?_) (fun c13 => ?_)
    · skip
      have c13 : ¬ (0 < σ 3 k) := fun q => by rw [if_pos q] at c13; exact absurd c13 (by decide)
      refine J_iconst C 0 (by decide) dX1_areUnlike_39 ?_
      exact J_zret C hr rfl dX1_areUnlike_40 () (by rw [if_neg (by omega)]) trivial rfl
    · skip
      have c13 : 0 < σ 3 k := Classical.byContradiction fun q => c13 (by rw [if_neg q])
      refine J_aload_n C rfl dX1_areUnlike_16 ?_
      refine J_get C 0 2 in1 rfl rfl (by decide) k66 rfl dX1_areUnlike_17 ?_
      refine J_iload_n C rfl dX1_areUnlike_20 ?_
      refine J_callSN (as := [.ref (a 4), .int (nI j)]) (rest := []) C (ct_at l G (a 4) 40 (fun q => nI (σ 3 q)) j (by omega) (by decide)) (fun u => pgW G a σ d) [3] [0, 1, 2, 4, 5, 6] 2 nmTwoScribes_Page_56 k340 k32 k341 rfl (by decide +kernel) ⟨Nat.le_of_ble_eq_true rfl, Nat.le_of_ble_eq_true rfl⟩ ⟨Nat.le_of_ble_eq_true rfl, Nat.le_of_ble_eq_true rfl⟩ dX1_areUnlike_21 (Nat.le_of_ble_eq_true rfl) rfl (by decide +kernel) (fun _ => rfl) ([(a 1, .inr (1, [.ref (a 2), .ref (a 3), .ref (a 4), .ref (a 5), .ref (a 6), .ref (a 7), .int (nI (σ 0 4)), .int (nI (σ 0 5))])), (a 2, .inl (G.2.1, 40, .inl (fun q => nI (d q)))), (a 3, .inl (G.2.1, 40, .inl (fun q => nI (σ 2 q)))), (a 5, .inl (G.2.1, 40, .inl (fun q => nI (σ 6 q)))), (a 6, .inl (G.2.1, 40, .inl (fun q => nI (σ 4 q)))), (a 7, .inl (G.2.1, 40, .inl (fun q => nI (σ 5 q))))]) rfl (fun _ => rfl) 7 (fun _ => rfl) (by decide +kernel) (by decide +kernel) (fun _ _ => ?_)
      refine J_st (st' := [.int (nI (σ 3 j))]) rfl ?_
      refine J_aload_n C rfl dX1_areUnlike_24 ?_
      refine J_get C 0 2 in1 rfl rfl (by decide) k66 rfl dX1_areUnlike_25 ?_
      refine J_iload_n C rfl dX1_areUnlike_28 ?_
      refine J_callSN (as := [.ref (a 4), .int (nI k)]) (rest := [.int (nI (σ 3 j))]) C (ct_at l G (a 4) 40 (fun q => nI (σ 3 q)) k (by omega) (by decide)) (fun u => pgW G a σ d) [3] [0, 1, 2, 4, 5, 6] 2 nmTwoScribes_Page_56 k340 k32 k341 rfl (by decide +kernel) ⟨Nat.le_of_ble_eq_true rfl, Nat.le_of_ble_eq_true rfl⟩ ⟨Nat.le_of_ble_eq_true rfl, Nat.le_of_ble_eq_true rfl⟩ dX1_areUnlike_29 (Nat.le_of_ble_eq_true rfl) rfl (by decide +kernel) (fun _ => rfl) ([(a 1, .inr (1, [.ref (a 2), .ref (a 3), .ref (a 4), .ref (a 5), .ref (a 6), .ref (a 7), .int (nI (σ 0 4)), .int (nI (σ 0 5))])), (a 2, .inl (G.2.1, 40, .inl (fun q => nI (d q)))), (a 3, .inl (G.2.1, 40, .inl (fun q => nI (σ 2 q)))), (a 5, .inl (G.2.1, 40, .inl (fun q => nI (σ 6 q)))), (a 6, .inl (G.2.1, 40, .inl (fun q => nI (σ 4 q)))), (a 7, .inl (G.2.1, 40, .inl (fun q => nI (σ 5 q))))]) rfl (fun _ => rfl) 7 (fun _ => rfl) (by decide +kernel) (by decide +kernel) (fun _ _ => ?_)
      refine J_st (st' := [.int (nI (σ 3 k)), .int (nI (σ 3 j))]) rfl ?_
      refine J_icmp_eq C 39 (by decide) dX1_areUnlike_32 (fun c32 => ?_) (fun c32 => ?_)
      · skip
        have c32 := cv_eq_t (a := (σ 3 j)) (b := (σ 3 k)) (by omega) (by omega) c32
        refine J_iconst C 0 (by decide) dX1_areUnlike_39 ?_
        exact J_zret C hr rfl dX1_areUnlike_40 () (by rw [if_neg (by omega)]) trivial rfl
      · skip
        have c32 := cv_eq_f (a := (σ 3 j)) (b := (σ 3 k)) (by omega) (by omega) c32
        refine J_iconst C 1 (by decide) dX1_areUnlike_35 ?_
        refine J_goto C 40 (by decide) dX1_areUnlike_36 ?_
        exact J_zret C hr rfl dX1_areUnlike_40 () (by rw [if_pos (by omega)]) trivial rfl

set_option maxHeartbeats 4000000 in
set_option maxRecDepth 100000 in
theorem ct_write (l : Launch) (G : GT) (a : Nat → Nat) (σ : AS) (d : Nat → Nat) (j x b t : Nat) (hj : j < 40) (hb : b ≤ 1) : Ct (S := Unit) l G NoX yX1_write (Wy yX1_write cX1_write 5 ((Option.none : Option Jvm.ClassFile.FieldType))) { frames := 1, cells := 0, slots := 0, locals := 22 } [.ref (a 1), .int (nI j), .int (nI x), .int (nI b), .int (nI t)] (pgW G a σ d) (fun u => True) (fun u => none) (fun u => pgW G a (up2 (up2 (up2 σ 3 j x) 4 j b) 6 j t) d) := by
  refine Ct.of (by decide) (Nat.le_of_ble_eq_true rfl) (fun p e s m args below meth c C hr hnm hX => ?_)
  refine J_aload_n C rfl dX1_write_0 ?_
  refine J_get C 0 2 in1 rfl rfl (by decide) k66 rfl dX1_write_1 ?_
  refine J_iload_n C rfl dX1_write_4 ?_
  refine J_iload_n C rfl dX1_write_5 ?_
  refine J_callSN (as := [.ref (a 4), .int (nI j), .int (nI x)]) (rest := []) C (ct_putN l G (a 4) 40 (σ 3) j x (by omega) (by decide)) (fun u => [(a 1, .inr (1, [.ref (a 2), .ref (a 3), .ref (a 4), .ref (a 5), .ref (a 6), .ref (a 7), .int (nI (σ 0 4)), .int (nI (σ 0 5))])), (a 2, .inl (G.2.1, 40, .inl (fun q => nI (d q)))), (a 3, .inl (G.2.1, 40, .inl (fun q => nI (σ 2 q)))), (a 4, .inl (G.2.1, 40, .inl (fun q => nI (if q = j then x else (σ 3) q)))), (a 5, .inl (G.2.1, 40, .inl (fun q => nI (σ 6 q)))), (a 6, .inl (G.2.1, 40, .inl (fun q => nI (σ 4 q)))), (a 7, .inl (G.2.1, 40, .inl (fun q => nI (σ 5 q))))]) [3] [0, 1, 2, 4, 5, 6] 3 nmTwoScribes_Page_60 k283 k32 k284 rfl (by decide +kernel) ⟨Nat.le_of_ble_eq_true rfl, Nat.le_of_ble_eq_true rfl⟩ ⟨Nat.le_of_ble_eq_true rfl, Nat.le_of_ble_eq_true rfl⟩ dX1_write_6 (Nat.le_of_ble_eq_true rfl) rfl (by decide +kernel) (fun _ => rfl) ([(a 1, .inr (1, [.ref (a 2), .ref (a 3), .ref (a 4), .ref (a 5), .ref (a 6), .ref (a 7), .int (nI (σ 0 4)), .int (nI (σ 0 5))])), (a 2, .inl (G.2.1, 40, .inl (fun q => nI (d q)))), (a 3, .inl (G.2.1, 40, .inl (fun q => nI (σ 2 q)))), (a 5, .inl (G.2.1, 40, .inl (fun q => nI (σ 6 q)))), (a 6, .inl (G.2.1, 40, .inl (fun q => nI (σ 4 q)))), (a 7, .inl (G.2.1, 40, .inl (fun q => nI (σ 5 q))))]) rfl (fun _ => rfl) 7 (fun _ => rfl) (by decide +kernel) (by decide +kernel) (fun _ _ => ?_)
  refine J_st (st' := []) rfl ?_
  refine J_aload_n C rfl dX1_write_9 ?_
  refine J_get C 0 4 in1 rfl rfl (by decide) k70 rfl dX1_write_10 ?_
  refine J_iload_n C rfl dX1_write_13 ?_
  refine J_iload_n C rfl dX1_write_14 ?_
  refine J_if_eq C 22 (by decide) dX1_write_15 (fun c15 => ?_) (fun c15 => ?_)
  · skip
    have c15 := cv_eq_t (a := b) (b := 0) (by omega) (by omega) c15
    subst c15
    refine J_iconst C 0 (by decide) dX1_write_22 ?_
    refine J_callSN (as := [.ref (a 6), .int (nI j), .int 0]) (rest := []) C (ct_putN l G (a 6) 40 (σ 4) j 0 (by omega) (by decide)) (fun u => [(a 1, .inr (1, [.ref (a 2), .ref (a 3), .ref (a 4), .ref (a 5), .ref (a 6), .ref (a 7), .int (nI (σ 0 4)), .int (nI (σ 0 5))])), (a 2, .inl (G.2.1, 40, .inl (fun q => nI (d q)))), (a 3, .inl (G.2.1, 40, .inl (fun q => nI (σ 2 q)))), (a 4, .inl (G.2.1, 40, .inl (fun q => nI (if q = j then x else (σ 3) q)))), (a 5, .inl (G.2.1, 40, .inl (fun q => nI (σ 6 q)))), (a 6, .inl (G.2.1, 40, .inl (fun q => nI (if q = j then 0 else (σ 4) q)))), (a 7, .inl (G.2.1, 40, .inl (fun q => nI (σ 5 q))))]) [5] [0, 1, 2, 3, 4, 6] 3 nmTwoScribes_Page_60 k283 k32 k284 rfl (by decide +kernel) ⟨Nat.le_of_ble_eq_true rfl, Nat.le_of_ble_eq_true rfl⟩ ⟨Nat.le_of_ble_eq_true rfl, Nat.le_of_ble_eq_true rfl⟩ dX1_write_23 (Nat.le_of_ble_eq_true rfl) rfl (by decide +kernel) (fun _ => rfl) ([(a 1, .inr (1, [.ref (a 2), .ref (a 3), .ref (a 4), .ref (a 5), .ref (a 6), .ref (a 7), .int (nI (σ 0 4)), .int (nI (σ 0 5))])), (a 2, .inl (G.2.1, 40, .inl (fun q => nI (d q)))), (a 3, .inl (G.2.1, 40, .inl (fun q => nI (σ 2 q)))), (a 4, .inl (G.2.1, 40, .inl (fun q => nI (if q = j then x else (σ 3) q)))), (a 5, .inl (G.2.1, 40, .inl (fun q => nI (σ 6 q)))), (a 7, .inl (G.2.1, 40, .inl (fun q => nI (σ 5 q))))]) rfl (fun _ => rfl) 7 (fun _ => rfl) (by decide +kernel) (by decide +kernel) (fun _ _ => ?_)
    refine J_st (st' := []) rfl ?_
    refine J_aload_n C rfl dX1_write_26 ?_
    refine J_get C 0 3 in1 rfl rfl (by decide) k68 rfl dX1_write_27 ?_
    refine J_iload_n C rfl dX1_write_30 ?_
    refine J_iload C rfl dX1_write_31 ?_
    refine J_callSN (as := [.ref (a 5), .int (nI j), .int (nI t)]) (rest := []) C (ct_putN l G (a 5) 40 (σ 6) j t (by omega) (by decide)) (fun u => [(a 1, .inr (1, [.ref (a 2), .ref (a 3), .ref (a 4), .ref (a 5), .ref (a 6), .ref (a 7), .int (nI (σ 0 4)), .int (nI (σ 0 5))])), (a 2, .inl (G.2.1, 40, .inl (fun q => nI (d q)))), (a 3, .inl (G.2.1, 40, .inl (fun q => nI (σ 2 q)))), (a 4, .inl (G.2.1, 40, .inl (fun q => nI (if q = j then x else (σ 3) q)))), (a 5, .inl (G.2.1, 40, .inl (fun q => nI (if q = j then t else (σ 6) q)))), (a 6, .inl (G.2.1, 40, .inl (fun q => nI (if q = j then 0 else (σ 4) q)))), (a 7, .inl (G.2.1, 40, .inl (fun q => nI (σ 5 q))))]) [4] [0, 1, 2, 3, 5, 6] 3 nmTwoScribes_Page_60 k283 k32 k284 rfl (by decide +kernel) ⟨Nat.le_of_ble_eq_true rfl, Nat.le_of_ble_eq_true rfl⟩ ⟨Nat.le_of_ble_eq_true rfl, Nat.le_of_ble_eq_true rfl⟩ dX1_write_33 (Nat.le_of_ble_eq_true rfl) rfl (by decide +kernel) (fun _ => rfl) ([(a 1, .inr (1, [.ref (a 2), .ref (a 3), .ref (a 4), .ref (a 5), .ref (a 6), .ref (a 7), .int (nI (σ 0 4)), .int (nI (σ 0 5))])), (a 2, .inl (G.2.1, 40, .inl (fun q => nI (d q)))), (a 3, .inl (G.2.1, 40, .inl (fun q => nI (σ 2 q)))), (a 4, .inl (G.2.1, 40, .inl (fun q => nI (if q = j then x else (σ 3) q)))), (a 6, .inl (G.2.1, 40, .inl (fun q => nI (if q = j then 0 else (σ 4) q)))), (a 7, .inl (G.2.1, 40, .inl (fun q => nI (σ 5 q))))]) rfl (fun _ => rfl) 7 (fun _ => rfl) (by decide +kernel) (by decide +kernel) (fun _ _ => ?_)
    refine J_st (st' := []) rfl ?_
    exact J_vret C hr dX1_write_36 () rfl trivial rfl
  · skip
    have c15 := cv_eq_f (a := b) (b := 0) (by omega) (by omega) c15
    obtain rfl : b = 1 := by omega
    refine J_iconst C 1 (by decide) dX1_write_18 ?_
    refine J_goto C 23 (by decide) dX1_write_19 ?_
    refine J_callSN (as := [.ref (a 6), .int (nI j), .int 1]) (rest := []) C (ct_putN l G (a 6) 40 (σ 4) j 1 (by omega) (by decide)) (fun u => [(a 1, .inr (1, [.ref (a 2), .ref (a 3), .ref (a 4), .ref (a 5), .ref (a 6), .ref (a 7), .int (nI (σ 0 4)), .int (nI (σ 0 5))])), (a 2, .inl (G.2.1, 40, .inl (fun q => nI (d q)))), (a 3, .inl (G.2.1, 40, .inl (fun q => nI (σ 2 q)))), (a 4, .inl (G.2.1, 40, .inl (fun q => nI (if q = j then x else (σ 3) q)))), (a 5, .inl (G.2.1, 40, .inl (fun q => nI (σ 6 q)))), (a 6, .inl (G.2.1, 40, .inl (fun q => nI (if q = j then 1 else (σ 4) q)))), (a 7, .inl (G.2.1, 40, .inl (fun q => nI (σ 5 q))))]) [5] [0, 1, 2, 3, 4, 6] 3 nmTwoScribes_Page_60 k283 k32 k284 rfl (by decide +kernel) ⟨Nat.le_of_ble_eq_true rfl, Nat.le_of_ble_eq_true rfl⟩ ⟨Nat.le_of_ble_eq_true rfl, Nat.le_of_ble_eq_true rfl⟩ dX1_write_23 (Nat.le_of_ble_eq_true rfl) rfl (by decide +kernel) (fun _ => rfl) ([(a 1, .inr (1, [.ref (a 2), .ref (a 3), .ref (a 4), .ref (a 5), .ref (a 6), .ref (a 7), .int (nI (σ 0 4)), .int (nI (σ 0 5))])), (a 2, .inl (G.2.1, 40, .inl (fun q => nI (d q)))), (a 3, .inl (G.2.1, 40, .inl (fun q => nI (σ 2 q)))), (a 4, .inl (G.2.1, 40, .inl (fun q => nI (if q = j then x else (σ 3) q)))), (a 5, .inl (G.2.1, 40, .inl (fun q => nI (σ 6 q)))), (a 7, .inl (G.2.1, 40, .inl (fun q => nI (σ 5 q))))]) rfl (fun _ => rfl) 7 (fun _ => rfl) (by decide +kernel) (by decide +kernel) (fun _ _ => ?_)
    refine J_st (st' := []) rfl ?_
    refine J_aload_n C rfl dX1_write_26 ?_
    refine J_get C 0 3 in1 rfl rfl (by decide) k68 rfl dX1_write_27 ?_
    refine J_iload_n C rfl dX1_write_30 ?_
    refine J_iload C rfl dX1_write_31 ?_
    refine J_callSN (as := [.ref (a 5), .int (nI j), .int (nI t)]) (rest := []) C (ct_putN l G (a 5) 40 (σ 6) j t (by omega) (by decide)) (fun u => [(a 1, .inr (1, [.ref (a 2), .ref (a 3), .ref (a 4), .ref (a 5), .ref (a 6), .ref (a 7), .int (nI (σ 0 4)), .int (nI (σ 0 5))])), (a 2, .inl (G.2.1, 40, .inl (fun q => nI (d q)))), (a 3, .inl (G.2.1, 40, .inl (fun q => nI (σ 2 q)))), (a 4, .inl (G.2.1, 40, .inl (fun q => nI (if q = j then x else (σ 3) q)))), (a 5, .inl (G.2.1, 40, .inl (fun q => nI (if q = j then t else (σ 6) q)))), (a 6, .inl (G.2.1, 40, .inl (fun q => nI (if q = j then 1 else (σ 4) q)))), (a 7, .inl (G.2.1, 40, .inl (fun q => nI (σ 5 q))))]) [4] [0, 1, 2, 3, 5, 6] 3 nmTwoScribes_Page_60 k283 k32 k284 rfl (by decide +kernel) ⟨Nat.le_of_ble_eq_true rfl, Nat.le_of_ble_eq_true rfl⟩ ⟨Nat.le_of_ble_eq_true rfl, Nat.le_of_ble_eq_true rfl⟩ dX1_write_33 (Nat.le_of_ble_eq_true rfl) rfl (by decide +kernel) (fun _ => rfl) ([(a 1, .inr (1, [.ref (a 2), .ref (a 3), .ref (a 4), .ref (a 5), .ref (a 6), .ref (a 7), .int (nI (σ 0 4)), .int (nI (σ 0 5))])), (a 2, .inl (G.2.1, 40, .inl (fun q => nI (d q)))), (a 3, .inl (G.2.1, 40, .inl (fun q => nI (σ 2 q)))), (a 4, .inl (G.2.1, 40, .inl (fun q => nI (if q = j then x else (σ 3) q)))), (a 6, .inl (G.2.1, 40, .inl (fun q => nI (if q = j then 1 else (σ 4) q)))), (a 7, .inl (G.2.1, 40, .inl (fun q => nI (σ 5 q))))]) rfl (fun _ => rfl) 7 (fun _ => rfl) (by decide +kernel) (by decide +kernel) (fun _ _ => ?_)
    refine J_st (st' := []) rfl ?_
    exact J_vret C hr dX1_write_36 () rfl trivial rfl

set_option maxHeartbeats 4000000 in
set_option maxRecDepth 100000 in
theorem ct_amend (l : Launch) (G : GT) (a : Nat → Nat) (σ : AS) (d : Nat → Nat) (j : Nat) (hj : j < 40) : Ct (S := Unit) l G NoX yX1_amend (Wy yX1_amend cX1_amend 2 ((Option.none : Option Jvm.ClassFile.FieldType))) { frames := 1, cells := 0, slots := 0, locals := 22 } [.ref (a 1), .int (nI j)] (pgW G a σ d) (fun u => True) (fun u => none) (fun u => pgW G a (up2 (up2 (up2 (up2 σ 3 j (d j)) 4 j 0) 5 j 1) 0 5 (σ 0 5 + 1)) d) := by
  refine Ct.of (by decide) (Nat.le_of_ble_eq_true rfl) (fun p e s m args below meth c C hr hnm hX => ?_)
  refine J_aload_n C rfl dX1_amend_0 ?_
  refine J_get C 0 2 in1 rfl rfl (by decide) k66 rfl dX1_amend_1 ?_
  refine J_iload_n C rfl dX1_amend_4 ?_
  refine J_aload_n C rfl dX1_amend_5 ?_
  refine J_get C 0 0 in1 rfl rfl (by decide) k61 rfl dX1_amend_6 ?_
  refine J_iload_n C rfl dX1_amend_9 ?_
  refine J_callSN (as := [.ref (a 2), .int (nI j)]) (rest := [.int (nI j), .ref (a 4)]) C (ct_at l G (a 2) 40 (fun q => nI (d q)) j (by omega) (by decide)) (fun u => pgW G a σ d) [1] [0, 2, 3, 4, 5, 6] 2 nmTwoScribes_Page_56 k340 k32 k341 rfl (by decide +kernel) ⟨Nat.le_of_ble_eq_true rfl, Nat.le_of_ble_eq_true rfl⟩ ⟨Nat.le_of_ble_eq_true rfl, Nat.le_of_ble_eq_true rfl⟩ dX1_amend_10 (Nat.le_of_ble_eq_true rfl) rfl (by decide +kernel) (fun _ => rfl) ([(a 1, .inr (1, [.ref (a 2), .ref (a 3), .ref (a 4), .ref (a 5), .ref (a 6), .ref (a 7), .int (nI (σ 0 4)), .int (nI (σ 0 5))])), (a 3, .inl (G.2.1, 40, .inl (fun q => nI (σ 2 q)))), (a 4, .inl (G.2.1, 40, .inl (fun q => nI (σ 3 q)))), (a 5, .inl (G.2.1, 40, .inl (fun q => nI (σ 6 q)))), (a 6, .inl (G.2.1, 40, .inl (fun q => nI (σ 4 q)))), (a 7, .inl (G.2.1, 40, .inl (fun q => nI (σ 5 q))))]) rfl (fun _ => rfl) 7 (fun _ => rfl) (by decide +kernel) (by decide +kernel) (fun _ _ => ?_)
  refine J_st (st' := [.int (nI (d j)), .int (nI j), .ref (a 4)]) rfl ?_
  refine J_callSN (as := [.ref (a 4), .int (nI j), .int (nI (d j))]) (rest := []) C (ct_putN l G (a 4) 40 (σ 3) j (d j) (by omega) (by decide)) (fun u => [(a 1, .inr (1, [.ref (a 2), .ref (a 3), .ref (a 4), .ref (a 5), .ref (a 6), .ref (a 7), .int (nI (σ 0 4)), .int (nI (σ 0 5))])), (a 2, .inl (G.2.1, 40, .inl (fun q => nI (d q)))), (a 3, .inl (G.2.1, 40, .inl (fun q => nI (σ 2 q)))), (a 4, .inl (G.2.1, 40, .inl (fun q => nI (if q = j then d j else (σ 3) q)))), (a 5, .inl (G.2.1, 40, .inl (fun q => nI (σ 6 q)))), (a 6, .inl (G.2.1, 40, .inl (fun q => nI (σ 4 q)))), (a 7, .inl (G.2.1, 40, .inl (fun q => nI (σ 5 q))))]) [3] [0, 1, 2, 4, 5, 6] 3 nmTwoScribes_Page_60 k283 k32 k284 rfl (by decide +kernel) ⟨Nat.le_of_ble_eq_true rfl, Nat.le_of_ble_eq_true rfl⟩ ⟨Nat.le_of_ble_eq_true rfl, Nat.le_of_ble_eq_true rfl⟩ dX1_amend_13 (Nat.le_of_ble_eq_true rfl) rfl (by decide +kernel) (fun _ => rfl) ([(a 1, .inr (1, [.ref (a 2), .ref (a 3), .ref (a 4), .ref (a 5), .ref (a 6), .ref (a 7), .int (nI (σ 0 4)), .int (nI (σ 0 5))])), (a 2, .inl (G.2.1, 40, .inl (fun q => nI (d q)))), (a 3, .inl (G.2.1, 40, .inl (fun q => nI (σ 2 q)))), (a 5, .inl (G.2.1, 40, .inl (fun q => nI (σ 6 q)))), (a 6, .inl (G.2.1, 40, .inl (fun q => nI (σ 4 q)))), (a 7, .inl (G.2.1, 40, .inl (fun q => nI (σ 5 q))))]) rfl (fun _ => rfl) 7 (fun _ => rfl) (by decide +kernel) (by decide +kernel) (fun _ _ => ?_)
  refine J_st (st' := []) rfl ?_
  refine J_aload_n C rfl dX1_amend_16 ?_
  refine J_get C 0 4 in1 rfl rfl (by decide) k70 rfl dX1_amend_17 ?_
  refine J_iload_n C rfl dX1_amend_20 ?_
  refine J_iconst C 0 (by decide) dX1_amend_21 ?_
  refine J_callSN (as := [.ref (a 6), .int (nI j), .int 0]) (rest := []) C (ct_putN l G (a 6) 40 (σ 4) j 0 (by omega) (by decide)) (fun u => [(a 1, .inr (1, [.ref (a 2), .ref (a 3), .ref (a 4), .ref (a 5), .ref (a 6), .ref (a 7), .int (nI (σ 0 4)), .int (nI (σ 0 5))])), (a 2, .inl (G.2.1, 40, .inl (fun q => nI (d q)))), (a 3, .inl (G.2.1, 40, .inl (fun q => nI (σ 2 q)))), (a 4, .inl (G.2.1, 40, .inl (fun q => nI (if q = j then d j else (σ 3) q)))), (a 5, .inl (G.2.1, 40, .inl (fun q => nI (σ 6 q)))), (a 6, .inl (G.2.1, 40, .inl (fun q => nI (if q = j then 0 else (σ 4) q)))), (a 7, .inl (G.2.1, 40, .inl (fun q => nI (σ 5 q))))]) [5] [0, 1, 2, 3, 4, 6] 3 nmTwoScribes_Page_60 k283 k32 k284 rfl (by decide +kernel) ⟨Nat.le_of_ble_eq_true rfl, Nat.le_of_ble_eq_true rfl⟩ ⟨Nat.le_of_ble_eq_true rfl, Nat.le_of_ble_eq_true rfl⟩ dX1_amend_22 (Nat.le_of_ble_eq_true rfl) rfl (by decide +kernel) (fun _ => rfl) ([(a 1, .inr (1, [.ref (a 2), .ref (a 3), .ref (a 4), .ref (a 5), .ref (a 6), .ref (a 7), .int (nI (σ 0 4)), .int (nI (σ 0 5))])), (a 2, .inl (G.2.1, 40, .inl (fun q => nI (d q)))), (a 3, .inl (G.2.1, 40, .inl (fun q => nI (σ 2 q)))), (a 4, .inl (G.2.1, 40, .inl (fun q => nI (if q = j then d j else (σ 3) q)))), (a 5, .inl (G.2.1, 40, .inl (fun q => nI (σ 6 q)))), (a 7, .inl (G.2.1, 40, .inl (fun q => nI (σ 5 q))))]) rfl (fun _ => rfl) 7 (fun _ => rfl) (by decide +kernel) (by decide +kernel) (fun _ _ => ?_)
  refine J_st (st' := []) rfl ?_
  refine J_aload_n C rfl dX1_amend_25 ?_
  refine J_get C 0 5 in1 rfl rfl (by decide) k72 rfl dX1_amend_26 ?_
  refine J_iload_n C rfl dX1_amend_29 ?_
  refine J_iconst C 1 (by decide) dX1_amend_30 ?_
  refine J_callSN (as := [.ref (a 7), .int (nI j), .int 1]) (rest := []) C (ct_putN l G (a 7) 40 (σ 5) j 1 (by omega) (by decide)) (fun u => [(a 1, .inr (1, [.ref (a 2), .ref (a 3), .ref (a 4), .ref (a 5), .ref (a 6), .ref (a 7), .int (nI (σ 0 4)), .int (nI (σ 0 5))])), (a 2, .inl (G.2.1, 40, .inl (fun q => nI (d q)))), (a 3, .inl (G.2.1, 40, .inl (fun q => nI (σ 2 q)))), (a 4, .inl (G.2.1, 40, .inl (fun q => nI (if q = j then d j else (σ 3) q)))), (a 5, .inl (G.2.1, 40, .inl (fun q => nI (σ 6 q)))), (a 6, .inl (G.2.1, 40, .inl (fun q => nI (if q = j then 0 else (σ 4) q)))), (a 7, .inl (G.2.1, 40, .inl (fun q => nI (if q = j then 1 else (σ 5) q))))]) [6] [0, 1, 2, 3, 4, 5] 3 nmTwoScribes_Page_60 k283 k32 k284 rfl (by decide +kernel) ⟨Nat.le_of_ble_eq_true rfl, Nat.le_of_ble_eq_true rfl⟩ ⟨Nat.le_of_ble_eq_true rfl, Nat.le_of_ble_eq_true rfl⟩ dX1_amend_31 (Nat.le_of_ble_eq_true rfl) rfl (by decide +kernel) (fun _ => rfl) ([(a 1, .inr (1, [.ref (a 2), .ref (a 3), .ref (a 4), .ref (a 5), .ref (a 6), .ref (a 7), .int (nI (σ 0 4)), .int (nI (σ 0 5))])), (a 2, .inl (G.2.1, 40, .inl (fun q => nI (d q)))), (a 3, .inl (G.2.1, 40, .inl (fun q => nI (σ 2 q)))), (a 4, .inl (G.2.1, 40, .inl (fun q => nI (if q = j then d j else (σ 3) q)))), (a 5, .inl (G.2.1, 40, .inl (fun q => nI (σ 6 q)))), (a 6, .inl (G.2.1, 40, .inl (fun q => nI (if q = j then 0 else (σ 4) q))))]) rfl (fun _ => rfl) 7 (fun _ => rfl) (by decide +kernel) (by decide +kernel) (fun _ _ => ?_)
  refine J_st (st' := []) rfl ?_
  refine J_aload_n C rfl dX1_amend_34 ?_
  refine J_dup C rfl dX1_amend_35 ?_
  refine J_get C 0 7 in1 rfl rfl (by decide) k77 rfl dX1_amend_36 ?_
  refine J_iconst C 1 (by decide) dX1_amend_39 ?_
  refine J_iadd C dX1_amend_40 ?_
  refine J_i (nI_add (σ 0 5) 1 : ((nI (σ 0 5)) + 1) = (nI (σ 0 5 + 1))) ?_
  refine J_put C 0 7 in1 tyX1 tyX1_ok nmX1 ([(a 1, .inr (1, [.ref (a 2), .ref (a 3), .ref (a 4), .ref (a 5), .ref (a 6), .ref (a 7), .int (nI (σ 0 4)), .int (nI (σ 0 5 + 1))])), (a 2, .inl (G.2.1, 40, .inl (fun q => nI (d q)))), (a 3, .inl (G.2.1, 40, .inl (fun q => nI (σ 2 q)))), (a 4, .inl (G.2.1, 40, .inl (fun q => nI (if q = j then d j else (σ 3) q)))), (a 5, .inl (G.2.1, 40, .inl (fun q => nI (σ 6 q)))), (a 6, .inl (G.2.1, 40, .inl (fun q => nI (if q = j then 0 else (σ 4) q)))), (a 7, .inl (G.2.1, 40, .inl (fun q => nI (if q = j then 1 else (σ 5) q))))]) rfl rfl (by decide) k77 rfl rfl rfl (Nat.le_of_ble_eq_true rfl) rfl dX1_amend_41 ?_
  exact J_vret C hr dX1_amend_44 () rfl trivial rfl

set_option maxHeartbeats 4000000 in
set_option maxRecDepth 100000 in
theorem ct_countBlots (l : Launch) (G : GT) (a : Nat → Nat) (σ : AS) (d : Nat → Nat) (hI : Inv σ) : Ct (S := Unit) l G NoX yX1_countBlots (Wy yX1_countBlots cX1_countBlots 3 ((Option.some Jvm.ClassFile.FieldType.int))) { frames := 1, cells := 0, slots := 0, locals := 21 } [.ref (a 1)] (pgW G a σ d) (fun u => True) (fun u => some (.int (nI (sumN (fun q => σ 4 q) (σ 0 4))))) (fun u => pgW G a σ d) := by
  refine Ct.of (by decide) (Nat.le_of_ble_eq_true rfl) (fun p e s m args below meth c C hr hnm hX => ?_)
  have h40 := hI.a
  refine J_iconst C 0 (by decide) dX1_countBlots_0 ?_
  refine J_istore_n C [(1, .int 0), (0, .ref (a 1))] (by decide) rfl dX1_countBlots_1 ?_
  refine J_iconst C 0 (by decide) dX1_countBlots_2 ?_
  refine J_istore_n C [(2, .int 0), (1, .int 0), (0, .ref (a 1))] (by decide) rfl dX1_countBlots_3 ?_
  refine J_lvp [2, 1, 0] [(0, .ref (a 1)), (1, .int 0), (2, .int 0)] rfl ?_
  refine J_loop (fun _ => pgW G a σ d) (fun i => [(0, .ref (a 1)), (1, .int (nI (sumN (fun q => σ 4 q) i))), (2, .int (nI i))]) (fun i => i ≤ σ 0 4) (fun i => σ 0 4 - i) (fun i hi ih => ?_) 0 (Nat.zero_le _) rfl rfl
  refine J_iload_n C rfl dX1_countBlots_4 ?_
  refine J_aload_n C rfl dX1_countBlots_5 ?_
  refine J_get C 0 6 in1 rfl rfl (by decide) k74 rfl dX1_countBlots_6 ?_
  refine J_icmp_ge C 29 (by decide) dX1_countBlots_9 (fun c9 => ?_) (fun c9 => ?_)
  · skip
    have c9 := cv_ge_t (a := i) (b := (σ 0 4)) (by omega) (by omega) c9
    refine J_iload_n C rfl dX1_countBlots_29 ?_
    exact J_zret C hr rfl dX1_countBlots_30 () (by rw [show i = σ 0 4 from by omega]) trivial rfl
  · skip
    have c9 := cv_ge_f (a := i) (b := (σ 0 4)) (by omega) (by omega) c9
    refine J_iload_n C rfl dX1_countBlots_12 ?_
    refine J_aload_n C rfl dX1_countBlots_13 ?_
    refine J_get C 0 4 in1 rfl rfl (by decide) k70 rfl dX1_countBlots_14 ?_
    refine J_iload_n C rfl dX1_countBlots_17 ?_
    refine J_callSN (as := [.ref (a 6), .int (nI i)]) (rest := [.int (nI (sumN (fun q => σ 4 q) i))]) C (ct_at l G (a 6) 40 (fun q => nI (σ 4 q)) i (by omega) (by decide)) (fun u => pgW G a σ d) [5] [0, 1, 2, 3, 4, 6] 2 nmTwoScribes_Page_56 k340 k32 k341 rfl (by decide +kernel) ⟨Nat.le_of_ble_eq_true rfl, Nat.le_of_ble_eq_true rfl⟩ ⟨Nat.le_of_ble_eq_true rfl, Nat.le_of_ble_eq_true rfl⟩ dX1_countBlots_18 (Nat.le_of_ble_eq_true rfl) rfl (by decide +kernel) (fun _ => rfl) ([(a 1, .inr (1, [.ref (a 2), .ref (a 3), .ref (a 4), .ref (a 5), .ref (a 6), .ref (a 7), .int (nI (σ 0 4)), .int (nI (σ 0 5))])), (a 2, .inl (G.2.1, 40, .inl (fun q => nI (d q)))), (a 3, .inl (G.2.1, 40, .inl (fun q => nI (σ 2 q)))), (a 4, .inl (G.2.1, 40, .inl (fun q => nI (σ 3 q)))), (a 5, .inl (G.2.1, 40, .inl (fun q => nI (σ 6 q)))), (a 7, .inl (G.2.1, 40, .inl (fun q => nI (σ 5 q))))]) rfl (fun _ => rfl) 7 (fun _ => rfl) (by decide +kernel) (by decide +kernel) (fun _ _ => ?_)
    refine J_st (st' := [.int (nI (σ 4 i)), .int (nI (sumN (fun q => σ 4 q) i))]) rfl ?_
    refine J_iadd C dX1_countBlots_21 ?_
    refine J_i (nI_add _ _ : ((nI (sumN (fun q => σ 4 q) i)) + (nI (σ 4 i))) = (nI (sumN (fun q => σ 4 q) (i + 1)))) ?_
    refine J_istore_n C [(1, .int (nI (sumN (fun q => σ 4 q) (i + 1)))), (0, .ref (a 1)), (2, .int (nI i))] (by decide) rfl dX1_countBlots_22 ?_
    refine J_iinc C (nI (i + 1)) [(2, .int (nI (i + 1))), (1, .int (nI (sumN (fun q => σ 4 q) (i + 1)))), (0, .ref (a 1))] 2 rfl (by first | exact nI_add _ 1 | rfl) (by decide) rfl dX1_countBlots_23 ?_
    refine J_goto C 4 (by decide) dX1_countBlots_26 ?_
    refine J_lvp [2, 1, 0] [(0, .ref (a 1)), (1, .int (nI (sumN (fun q => σ 4 q) (i + 1)))), (2, .int (nI (i + 1)))] rfl ?_
    exact ih (i + 1) (by omega) (by omega)

set_option maxHeartbeats 4000000 in
set_option maxRecDepth 100000 in
theorem ct_countNotDue (l : Launch) (G : GT) (a : Nat → Nat) (σ : AS) (d : Nat → Nat) (hI : Inv σ) (hD : DOK σ d) : Ct (S := Unit) l G NoX yX1_countNotDue (Wy yX1_countNotDue cX1_countNotDue 3 ((Option.some Jvm.ClassFile.FieldType.int))) { frames := 2, cells := 0, slots := 0, locals := 42 } [.ref (a 1)] (pgW G a σ d) (fun u => True) (fun u => some (.int (nI (sumN (notDue σ) (σ 0 4))))) (fun u => pgW G a σ d) := by
  refine Ct.of (by decide) (Nat.le_of_ble_eq_true rfl) (fun p e s m args below meth c C hr hnm hX => ?_)
  have h40 := hI.a
  refine J_iconst C 0 (by decide) dX1_countNotDue_0 ?_
  refine J_istore_n C [(1, .int 0), (0, .ref (a 1))] (by decide) rfl dX1_countNotDue_1 ?_
  refine J_iconst C 0 (by decide) dX1_countNotDue_2 ?_
  refine J_istore_n C [(2, .int 0), (1, .int 0), (0, .ref (a 1))] (by decide) rfl dX1_countNotDue_3 ?_
  refine J_lvp [2, 1, 0] [(0, .ref (a 1)), (1, .int 0), (2, .int 0)] rfl ?_
  refine J_loop (fun _ => pgW G a σ d) (fun i => [(0, .ref (a 1)), (1, .int (nI (sumN (notDue σ) i))), (2, .int (nI i))]) (fun i => i ≤ σ 0 4) (fun i => σ 0 4 - i) (fun i hi ih => ?_) 0 (Nat.zero_le _) rfl rfl
  refine J_iload_n C rfl dX1_countNotDue_4 ?_
  refine J_aload_n C rfl dX1_countNotDue_5 ?_
  refine J_get C 0 6 in1 rfl rfl (by decide) k74 rfl dX1_countNotDue_6 ?_
  refine J_icmp_ge C 48 (by decide) dX1_countNotDue_9 (fun c9 => ?_) (fun c9 => ?_)
  · skip
    have c9 := cv_ge_t (a := i) (b := (σ 0 4)) (by omega) (by omega) c9
    refine J_iload_n C rfl dX1_countNotDue_48 ?_
    exact J_zret C hr rfl dX1_countNotDue_49 () (by rw [show i = σ 0 4 from by omega]) trivial rfl
  · skip
    have c9 := cv_ge_f (a := i) (b := (σ 0 4)) (by omega) (by omega) c9
    have hq := hI.q (q := i) (by omega)
    have hdi := hD i (by omega)
    have hdu := hI.due (p := i) (by omega)
    refine J_aload_n C rfl dX1_countNotDue_12 ?_
    refine J_iload_n C rfl dX1_countNotDue_13 ?_
    refine J_callV (as := [.int (nI i)]) (rest := []) C (ct_isWritten l G a σ d i (by omega) (by omega)) (fun u => pgW G a σ d) [0, 1, 2, 3, 4, 5, 6] [] 1 k541 k364 k365 k34 k366 rfl (by decide +kernel) ⟨Nat.le_of_ble_eq_true rfl, Nat.le_of_ble_eq_true rfl⟩ ⟨Nat.le_of_ble_eq_true rfl, Nat.le_of_ble_eq_true rfl⟩ dX1_countNotDue_14 (Nat.le_of_ble_eq_true rfl) 0 rfl rfl rfl (by decide +kernel) (fun _ => rfl) ([]) rfl (fun _ => rfl) 7 (fun _ => rfl) (by decide +kernel) (by decide +kernel) (fun _ _ => ?_)
    refine J_st (st' := [.int (if 0 < σ 3 i then 1 else 0)]) rfl ?_
    refine J_if_eq C 42 (by decide) dX1_countNotDue_17 (fun c17 => ?_) (fun c17 => ?_)
    · skip
      have c17 : ¬ (0 < σ 3 i) := fun q => by rw [if_pos q] at c17; exact absurd c17 (by decide)
      have hs : nI (sumN (notDue σ) i) = nI (sumN (notDue σ) (i + 1)) := by show nI (sumN (notDue σ) i) = nI (sumN (notDue σ) i + notDue σ i); rw [show notDue σ i = 0 from if_neg (by omega)]; rfl
      rw [hs]
      refine J_iinc C (nI (i + 1)) [(2, .int (nI (i + 1))), (0, .ref (a 1)), (1, .int (nI (sumN (notDue σ) (i + 1))))] 2 rfl (by first | exact nI_add _ 1 | rfl) (by decide) rfl dX1_countNotDue_42 ?_
      refine J_goto C 4 (by decide) dX1_countNotDue_45 ?_
      refine J_lvp [1, 2, 0] [(0, .ref (a 1)), (1, .int (nI (sumN (notDue σ) (i + 1)))), (2, .int (nI (i + 1)))] rfl ?_
      exact ih (i + 1) (by omega) (by omega)
    · skip
      have c17 : 0 < σ 3 i := Classical.byContradiction fun q => c17 (by rw [if_neg q])
      refine J_aload_n C rfl dX1_countNotDue_20 ?_
      refine J_get C 0 2 in1 rfl rfl (by decide) k66 rfl dX1_countNotDue_21 ?_
      refine J_iload_n C rfl dX1_countNotDue_24 ?_
      refine J_callSN (as := [.ref (a 4), .int (nI i)]) (rest := []) C (ct_at l G (a 4) 40 (fun q => nI (σ 3 q)) i (by omega) (by decide)) (fun u => pgW G a σ d) [3] [0, 1, 2, 4, 5, 6] 2 nmTwoScribes_Page_56 k340 k32 k341 rfl (by decide +kernel) ⟨Nat.le_of_ble_eq_true rfl, Nat.le_of_ble_eq_true rfl⟩ ⟨Nat.le_of_ble_eq_true rfl, Nat.le_of_ble_eq_true rfl⟩ dX1_countNotDue_25 (Nat.le_of_ble_eq_true rfl) rfl (by decide +kernel) (fun _ => rfl) ([(a 1, .inr (1, [.ref (a 2), .ref (a 3), .ref (a 4), .ref (a 5), .ref (a 6), .ref (a 7), .int (nI (σ 0 4)), .int (nI (σ 0 5))])), (a 2, .inl (G.2.1, 40, .inl (fun q => nI (d q)))), (a 3, .inl (G.2.1, 40, .inl (fun q => nI (σ 2 q)))), (a 5, .inl (G.2.1, 40, .inl (fun q => nI (σ 6 q)))), (a 6, .inl (G.2.1, 40, .inl (fun q => nI (σ 4 q)))), (a 7, .inl (G.2.1, 40, .inl (fun q => nI (σ 5 q))))]) rfl (fun _ => rfl) 7 (fun _ => rfl) (by decide +kernel) (by decide +kernel) (fun _ _ => ?_)
      refine J_st (st' := [.int (nI (σ 3 i))]) rfl ?_
      refine J_aload_n C rfl dX1_countNotDue_28 ?_
      refine J_get C 0 0 in1 rfl rfl (by decide) k61 rfl dX1_countNotDue_29 ?_
      refine J_iload_n C rfl dX1_countNotDue_32 ?_
      refine J_callSN (as := [.ref (a 2), .int (nI i)]) (rest := [.int (nI (σ 3 i))]) C (ct_at l G (a 2) 40 (fun q => nI (d q)) i (by omega) (by decide)) (fun u => pgW G a σ d) [1] [0, 2, 3, 4, 5, 6] 2 nmTwoScribes_Page_56 k340 k32 k341 rfl (by decide +kernel) ⟨Nat.le_of_ble_eq_true rfl, Nat.le_of_ble_eq_true rfl⟩ ⟨Nat.le_of_ble_eq_true rfl, Nat.le_of_ble_eq_true rfl⟩ dX1_countNotDue_33 (Nat.le_of_ble_eq_true rfl) rfl (by decide +kernel) (fun _ => rfl) ([(a 1, .inr (1, [.ref (a 2), .ref (a 3), .ref (a 4), .ref (a 5), .ref (a 6), .ref (a 7), .int (nI (σ 0 4)), .int (nI (σ 0 5))])), (a 3, .inl (G.2.1, 40, .inl (fun q => nI (σ 2 q)))), (a 4, .inl (G.2.1, 40, .inl (fun q => nI (σ 3 q)))), (a 5, .inl (G.2.1, 40, .inl (fun q => nI (σ 6 q)))), (a 6, .inl (G.2.1, 40, .inl (fun q => nI (σ 4 q)))), (a 7, .inl (G.2.1, 40, .inl (fun q => nI (σ 5 q))))]) rfl (fun _ => rfl) 7 (fun _ => rfl) (by decide +kernel) (by decide +kernel) (fun _ _ => ?_)
      refine J_st (st' := [.int (nI (d i)), .int (nI (σ 3 i))]) rfl ?_
      refine J_icmp_eq C 42 (by decide) dX1_countNotDue_36 (fun c36 => ?_) (fun c36 => ?_)
      · skip
        have c36 := cv_eq_t (a := (σ 3 i)) (b := (d i)) (by omega) (by omega) c36
        have hs : nI (sumN (notDue σ) i) = nI (sumN (notDue σ) (i + 1)) := by show nI (sumN (notDue σ) i) = nI (sumN (notDue σ) i + notDue σ i); rw [show notDue σ i = 0 from if_neg (by omega)]; rfl
        rw [hs]
        refine J_iinc C (nI (i + 1)) [(2, .int (nI (i + 1))), (0, .ref (a 1)), (1, .int (nI (sumN (notDue σ) (i + 1))))] 2 rfl (by first | exact nI_add _ 1 | rfl) (by decide) rfl dX1_countNotDue_42 ?_
        refine J_goto C 4 (by decide) dX1_countNotDue_45 ?_
        refine J_lvp [1, 2, 0] [(0, .ref (a 1)), (1, .int (nI (sumN (notDue σ) (i + 1)))), (2, .int (nI (i + 1)))] rfl ?_
        exact ih (i + 1) (by omega) (by omega)
      · skip
        have c36 := cv_eq_f (a := (σ 3 i)) (b := (d i)) (by omega) (by omega) c36
        refine J_iinc C (nI (sumN (notDue σ) i + 1)) [(1, .int (nI (sumN (notDue σ) i + 1))), (0, .ref (a 1)), (2, .int (nI i))] 1 rfl (by first | exact nI_add _ 1 | rfl) (by decide) rfl dX1_countNotDue_39 ?_
        have hs : nI (sumN (notDue σ) i + 1) = nI (sumN (notDue σ) (i + 1)) := by show nI (sumN (notDue σ) i + 1) = nI (sumN (notDue σ) i + notDue σ i); rw [show notDue σ i = 1 from if_pos (by omega)]
        rw [hs]
        refine J_iinc C (nI (i + 1)) [(2, .int (nI (i + 1))), (1, .int (nI (sumN (notDue σ) (i + 1)))), (0, .ref (a 1))] 2 rfl (by first | exact nI_add _ 1 | rfl) (by decide) rfl dX1_countNotDue_42 ?_
        refine J_goto C 4 (by decide) dX1_countNotDue_45 ?_
        refine J_lvp [2, 1, 0] [(0, .ref (a 1)), (1, .int (nI (sumN (notDue σ) (i + 1)))), (2, .int (nI (i + 1)))] rfl ?_
        exact ih (i + 1) (by omega) (by omega)

set_option maxHeartbeats 4000000 in
set_option maxRecDepth 100000 in
theorem ct_pageCopy (l : Launch) (G : GT) (a : Nat → Nat) (σ : AS) (d : Nat → Nat) (a2 : Nat → Nat) (σ2 : AS) (d2 : Nat → Nat)  : Ct (S := Unit) l G NoX yX1_copyFrom (Wy yX1_copyFrom cX1_copyFrom 2 ((Option.none : Option Jvm.ClassFile.FieldType))) { frames := 2, cells := 0, slots := 0, locals := 61 } [.ref (a 1), .ref (a2 1)] (pgW G a σ d ++ pgW G a2 σ2 d2) (fun u => True) (fun u => none) (fun u => pgW G a σ2 d2 ++ pgW G a2 σ2 d2) := by
  refine Ct.of (by decide) (Nat.le_of_ble_eq_true rfl) (fun p e s m args below meth c C hr hnm hX => ?_)
  refine J_aload_n C rfl dX1_copyFrom_0 ?_
  refine J_get C 7 0 in1 rfl rfl (by decide) k61 rfl dX1_copyFrom_1 ?_
  refine J_aload_n C rfl dX1_copyFrom_4 ?_
  refine J_get C 0 0 in1 rfl rfl (by decide) k61 rfl dX1_copyFrom_5 ?_
  refine J_callSN (as := [.ref (a2 2), .ref (a 2)]) (rest := []) C (ct_copyRow l G (a2 2) (a 2) 40 (fun q => nI (d2 q)) (fun q => nI (d q)) (by decide)) (fun u => [(a 1, .inr (1, [.ref (a 2), .ref (a 3), .ref (a 4), .ref (a 5), .ref (a 6), .ref (a 7), .int (nI (σ 0 4)), .int (nI (σ 0 5))])), (a 2, .inl (G.2.1, 40, .inl (fun q => nI (d2 q)))), (a 3, .inl (G.2.1, 40, .inl (fun q => nI (σ 2 q)))), (a 4, .inl (G.2.1, 40, .inl (fun q => nI (σ 3 q)))), (a 5, .inl (G.2.1, 40, .inl (fun q => nI (σ 6 q)))), (a 6, .inl (G.2.1, 40, .inl (fun q => nI (σ 4 q)))), (a 7, .inl (G.2.1, 40, .inl (fun q => nI (σ 5 q))))] ++ pgW G a2 σ2 d2) [8, 1] [0, 2, 3, 4, 5, 6, 7, 9, 10, 11, 12, 13] 2 nmTwoScribes_Page_30 k317 k32 k318 rfl (by decide +kernel) ⟨Nat.le_of_ble_eq_true rfl, Nat.le_of_ble_eq_true rfl⟩ ⟨Nat.le_of_ble_eq_true rfl, Nat.le_of_ble_eq_true rfl⟩ dX1_copyFrom_8 (Nat.le_of_ble_eq_true rfl) rfl (by decide +kernel) (fun _ => rfl) ([(a 1, .inr (1, [.ref (a 2), .ref (a 3), .ref (a 4), .ref (a 5), .ref (a 6), .ref (a 7), .int (nI (σ 0 4)), .int (nI (σ 0 5))])), (a 3, .inl (G.2.1, 40, .inl (fun q => nI (σ 2 q)))), (a 4, .inl (G.2.1, 40, .inl (fun q => nI (σ 3 q)))), (a 5, .inl (G.2.1, 40, .inl (fun q => nI (σ 6 q)))), (a 6, .inl (G.2.1, 40, .inl (fun q => nI (σ 4 q)))), (a 7, .inl (G.2.1, 40, .inl (fun q => nI (σ 5 q))))] ++ [(a2 1, .inr (1, [.ref (a2 2), .ref (a2 3), .ref (a2 4), .ref (a2 5), .ref (a2 6), .ref (a2 7), .int (nI (σ2 0 4)), .int (nI (σ2 0 5))])), (a2 3, .inl (G.2.1, 40, .inl (fun q => nI (σ2 2 q)))), (a2 4, .inl (G.2.1, 40, .inl (fun q => nI (σ2 3 q)))), (a2 5, .inl (G.2.1, 40, .inl (fun q => nI (σ2 6 q)))), (a2 6, .inl (G.2.1, 40, .inl (fun q => nI (σ2 4 q)))), (a2 7, .inl (G.2.1, 40, .inl (fun q => nI (σ2 5 q))))]) rfl (fun _ => rfl) 14 (fun _ => rfl) (by decide +kernel) (by decide +kernel) (fun _ _ => ?_)
  refine J_st (st' := []) rfl ?_
  refine J_aload_n C rfl dX1_copyFrom_11 ?_
  refine J_get C 7 1 in1 rfl rfl (by decide) k64 rfl dX1_copyFrom_12 ?_
  refine J_aload_n C rfl dX1_copyFrom_15 ?_
  refine J_get C 0 1 in1 rfl rfl (by decide) k64 rfl dX1_copyFrom_16 ?_
  refine J_callSN (as := [.ref (a2 3), .ref (a 3)]) (rest := []) C (ct_copyRow l G (a2 3) (a 3) 40 (fun q => nI (σ2 2 q)) (fun q => nI (σ 2 q)) (by decide)) (fun u => [(a 1, .inr (1, [.ref (a 2), .ref (a 3), .ref (a 4), .ref (a 5), .ref (a 6), .ref (a 7), .int (nI (σ 0 4)), .int (nI (σ 0 5))])), (a 2, .inl (G.2.1, 40, .inl (fun q => nI (d2 q)))), (a 3, .inl (G.2.1, 40, .inl (fun q => nI (σ2 2 q)))), (a 4, .inl (G.2.1, 40, .inl (fun q => nI (σ 3 q)))), (a 5, .inl (G.2.1, 40, .inl (fun q => nI (σ 6 q)))), (a 6, .inl (G.2.1, 40, .inl (fun q => nI (σ 4 q)))), (a 7, .inl (G.2.1, 40, .inl (fun q => nI (σ 5 q))))] ++ pgW G a2 σ2 d2) [9, 2] [0, 1, 3, 4, 5, 6, 7, 8, 10, 11, 12, 13] 2 nmTwoScribes_Page_30 k317 k32 k318 rfl (by decide +kernel) ⟨Nat.le_of_ble_eq_true rfl, Nat.le_of_ble_eq_true rfl⟩ ⟨Nat.le_of_ble_eq_true rfl, Nat.le_of_ble_eq_true rfl⟩ dX1_copyFrom_19 (Nat.le_of_ble_eq_true rfl) rfl (by decide +kernel) (fun _ => rfl) ([(a 1, .inr (1, [.ref (a 2), .ref (a 3), .ref (a 4), .ref (a 5), .ref (a 6), .ref (a 7), .int (nI (σ 0 4)), .int (nI (σ 0 5))])), (a 2, .inl (G.2.1, 40, .inl (fun q => nI (d2 q)))), (a 4, .inl (G.2.1, 40, .inl (fun q => nI (σ 3 q)))), (a 5, .inl (G.2.1, 40, .inl (fun q => nI (σ 6 q)))), (a 6, .inl (G.2.1, 40, .inl (fun q => nI (σ 4 q)))), (a 7, .inl (G.2.1, 40, .inl (fun q => nI (σ 5 q))))] ++ [(a2 1, .inr (1, [.ref (a2 2), .ref (a2 3), .ref (a2 4), .ref (a2 5), .ref (a2 6), .ref (a2 7), .int (nI (σ2 0 4)), .int (nI (σ2 0 5))])), (a2 2, .inl (G.2.1, 40, .inl (fun q => nI (d2 q)))), (a2 4, .inl (G.2.1, 40, .inl (fun q => nI (σ2 3 q)))), (a2 5, .inl (G.2.1, 40, .inl (fun q => nI (σ2 6 q)))), (a2 6, .inl (G.2.1, 40, .inl (fun q => nI (σ2 4 q)))), (a2 7, .inl (G.2.1, 40, .inl (fun q => nI (σ2 5 q))))]) rfl (fun _ => rfl) 14 (fun _ => rfl) (by decide +kernel) (by decide +kernel) (fun _ _ => ?_)
  refine J_st (st' := []) rfl ?_
  refine J_aload_n C rfl dX1_copyFrom_22 ?_
  refine J_get C 7 2 in1 rfl rfl (by decide) k66 rfl dX1_copyFrom_23 ?_
  refine J_aload_n C rfl dX1_copyFrom_26 ?_
  refine J_get C 0 2 in1 rfl rfl (by decide) k66 rfl dX1_copyFrom_27 ?_
  refine J_callSN (as := [.ref (a2 4), .ref (a 4)]) (rest := []) C (ct_copyRow l G (a2 4) (a 4) 40 (fun q => nI (σ2 3 q)) (fun q => nI (σ 3 q)) (by decide)) (fun u => [(a 1, .inr (1, [.ref (a 2), .ref (a 3), .ref (a 4), .ref (a 5), .ref (a 6), .ref (a 7), .int (nI (σ 0 4)), .int (nI (σ 0 5))])), (a 2, .inl (G.2.1, 40, .inl (fun q => nI (d2 q)))), (a 3, .inl (G.2.1, 40, .inl (fun q => nI (σ2 2 q)))), (a 4, .inl (G.2.1, 40, .inl (fun q => nI (σ2 3 q)))), (a 5, .inl (G.2.1, 40, .inl (fun q => nI (σ 6 q)))), (a 6, .inl (G.2.1, 40, .inl (fun q => nI (σ 4 q)))), (a 7, .inl (G.2.1, 40, .inl (fun q => nI (σ 5 q))))] ++ pgW G a2 σ2 d2) [10, 3] [0, 1, 2, 4, 5, 6, 7, 8, 9, 11, 12, 13] 2 nmTwoScribes_Page_30 k317 k32 k318 rfl (by decide +kernel) ⟨Nat.le_of_ble_eq_true rfl, Nat.le_of_ble_eq_true rfl⟩ ⟨Nat.le_of_ble_eq_true rfl, Nat.le_of_ble_eq_true rfl⟩ dX1_copyFrom_30 (Nat.le_of_ble_eq_true rfl) rfl (by decide +kernel) (fun _ => rfl) ([(a 1, .inr (1, [.ref (a 2), .ref (a 3), .ref (a 4), .ref (a 5), .ref (a 6), .ref (a 7), .int (nI (σ 0 4)), .int (nI (σ 0 5))])), (a 2, .inl (G.2.1, 40, .inl (fun q => nI (d2 q)))), (a 3, .inl (G.2.1, 40, .inl (fun q => nI (σ2 2 q)))), (a 5, .inl (G.2.1, 40, .inl (fun q => nI (σ 6 q)))), (a 6, .inl (G.2.1, 40, .inl (fun q => nI (σ 4 q)))), (a 7, .inl (G.2.1, 40, .inl (fun q => nI (σ 5 q))))] ++ [(a2 1, .inr (1, [.ref (a2 2), .ref (a2 3), .ref (a2 4), .ref (a2 5), .ref (a2 6), .ref (a2 7), .int (nI (σ2 0 4)), .int (nI (σ2 0 5))])), (a2 2, .inl (G.2.1, 40, .inl (fun q => nI (d2 q)))), (a2 3, .inl (G.2.1, 40, .inl (fun q => nI (σ2 2 q)))), (a2 5, .inl (G.2.1, 40, .inl (fun q => nI (σ2 6 q)))), (a2 6, .inl (G.2.1, 40, .inl (fun q => nI (σ2 4 q)))), (a2 7, .inl (G.2.1, 40, .inl (fun q => nI (σ2 5 q))))]) rfl (fun _ => rfl) 14 (fun _ => rfl) (by decide +kernel) (by decide +kernel) (fun _ _ => ?_)
  refine J_st (st' := []) rfl ?_
  refine J_aload_n C rfl dX1_copyFrom_33 ?_
  refine J_get C 7 3 in1 rfl rfl (by decide) k68 rfl dX1_copyFrom_34 ?_
  refine J_aload_n C rfl dX1_copyFrom_37 ?_
  refine J_get C 0 3 in1 rfl rfl (by decide) k68 rfl dX1_copyFrom_38 ?_
  refine J_callSN (as := [.ref (a2 5), .ref (a 5)]) (rest := []) C (ct_copyRow l G (a2 5) (a 5) 40 (fun q => nI (σ2 6 q)) (fun q => nI (σ 6 q)) (by decide)) (fun u => [(a 1, .inr (1, [.ref (a 2), .ref (a 3), .ref (a 4), .ref (a 5), .ref (a 6), .ref (a 7), .int (nI (σ 0 4)), .int (nI (σ 0 5))])), (a 2, .inl (G.2.1, 40, .inl (fun q => nI (d2 q)))), (a 3, .inl (G.2.1, 40, .inl (fun q => nI (σ2 2 q)))), (a 4, .inl (G.2.1, 40, .inl (fun q => nI (σ2 3 q)))), (a 5, .inl (G.2.1, 40, .inl (fun q => nI (σ2 6 q)))), (a 6, .inl (G.2.1, 40, .inl (fun q => nI (σ 4 q)))), (a 7, .inl (G.2.1, 40, .inl (fun q => nI (σ 5 q))))] ++ pgW G a2 σ2 d2) [11, 4] [0, 1, 2, 3, 5, 6, 7, 8, 9, 10, 12, 13] 2 nmTwoScribes_Page_30 k317 k32 k318 rfl (by decide +kernel) ⟨Nat.le_of_ble_eq_true rfl, Nat.le_of_ble_eq_true rfl⟩ ⟨Nat.le_of_ble_eq_true rfl, Nat.le_of_ble_eq_true rfl⟩ dX1_copyFrom_41 (Nat.le_of_ble_eq_true rfl) rfl (by decide +kernel) (fun _ => rfl) ([(a 1, .inr (1, [.ref (a 2), .ref (a 3), .ref (a 4), .ref (a 5), .ref (a 6), .ref (a 7), .int (nI (σ 0 4)), .int (nI (σ 0 5))])), (a 2, .inl (G.2.1, 40, .inl (fun q => nI (d2 q)))), (a 3, .inl (G.2.1, 40, .inl (fun q => nI (σ2 2 q)))), (a 4, .inl (G.2.1, 40, .inl (fun q => nI (σ2 3 q)))), (a 6, .inl (G.2.1, 40, .inl (fun q => nI (σ 4 q)))), (a 7, .inl (G.2.1, 40, .inl (fun q => nI (σ 5 q))))] ++ [(a2 1, .inr (1, [.ref (a2 2), .ref (a2 3), .ref (a2 4), .ref (a2 5), .ref (a2 6), .ref (a2 7), .int (nI (σ2 0 4)), .int (nI (σ2 0 5))])), (a2 2, .inl (G.2.1, 40, .inl (fun q => nI (d2 q)))), (a2 3, .inl (G.2.1, 40, .inl (fun q => nI (σ2 2 q)))), (a2 4, .inl (G.2.1, 40, .inl (fun q => nI (σ2 3 q)))), (a2 6, .inl (G.2.1, 40, .inl (fun q => nI (σ2 4 q)))), (a2 7, .inl (G.2.1, 40, .inl (fun q => nI (σ2 5 q))))]) rfl (fun _ => rfl) 14 (fun _ => rfl) (by decide +kernel) (by decide +kernel) (fun _ _ => ?_)
  refine J_st (st' := []) rfl ?_
  refine J_aload_n C rfl dX1_copyFrom_44 ?_
  refine J_get C 7 4 in1 rfl rfl (by decide) k70 rfl dX1_copyFrom_45 ?_
  refine J_aload_n C rfl dX1_copyFrom_48 ?_
  refine J_get C 0 4 in1 rfl rfl (by decide) k70 rfl dX1_copyFrom_49 ?_
  refine J_callSN (as := [.ref (a2 6), .ref (a 6)]) (rest := []) C (ct_copyRow l G (a2 6) (a 6) 40 (fun q => nI (σ2 4 q)) (fun q => nI (σ 4 q)) (by decide)) (fun u => [(a 1, .inr (1, [.ref (a 2), .ref (a 3), .ref (a 4), .ref (a 5), .ref (a 6), .ref (a 7), .int (nI (σ 0 4)), .int (nI (σ 0 5))])), (a 2, .inl (G.2.1, 40, .inl (fun q => nI (d2 q)))), (a 3, .inl (G.2.1, 40, .inl (fun q => nI (σ2 2 q)))), (a 4, .inl (G.2.1, 40, .inl (fun q => nI (σ2 3 q)))), (a 5, .inl (G.2.1, 40, .inl (fun q => nI (σ2 6 q)))), (a 6, .inl (G.2.1, 40, .inl (fun q => nI (σ2 4 q)))), (a 7, .inl (G.2.1, 40, .inl (fun q => nI (σ 5 q))))] ++ pgW G a2 σ2 d2) [12, 5] [0, 1, 2, 3, 4, 6, 7, 8, 9, 10, 11, 13] 2 nmTwoScribes_Page_30 k317 k32 k318 rfl (by decide +kernel) ⟨Nat.le_of_ble_eq_true rfl, Nat.le_of_ble_eq_true rfl⟩ ⟨Nat.le_of_ble_eq_true rfl, Nat.le_of_ble_eq_true rfl⟩ dX1_copyFrom_52 (Nat.le_of_ble_eq_true rfl) rfl (by decide +kernel) (fun _ => rfl) ([(a 1, .inr (1, [.ref (a 2), .ref (a 3), .ref (a 4), .ref (a 5), .ref (a 6), .ref (a 7), .int (nI (σ 0 4)), .int (nI (σ 0 5))])), (a 2, .inl (G.2.1, 40, .inl (fun q => nI (d2 q)))), (a 3, .inl (G.2.1, 40, .inl (fun q => nI (σ2 2 q)))), (a 4, .inl (G.2.1, 40, .inl (fun q => nI (σ2 3 q)))), (a 5, .inl (G.2.1, 40, .inl (fun q => nI (σ2 6 q)))), (a 7, .inl (G.2.1, 40, .inl (fun q => nI (σ 5 q))))] ++ [(a2 1, .inr (1, [.ref (a2 2), .ref (a2 3), .ref (a2 4), .ref (a2 5), .ref (a2 6), .ref (a2 7), .int (nI (σ2 0 4)), .int (nI (σ2 0 5))])), (a2 2, .inl (G.2.1, 40, .inl (fun q => nI (d2 q)))), (a2 3, .inl (G.2.1, 40, .inl (fun q => nI (σ2 2 q)))), (a2 4, .inl (G.2.1, 40, .inl (fun q => nI (σ2 3 q)))), (a2 5, .inl (G.2.1, 40, .inl (fun q => nI (σ2 6 q)))), (a2 7, .inl (G.2.1, 40, .inl (fun q => nI (σ2 5 q))))]) rfl (fun _ => rfl) 14 (fun _ => rfl) (by decide +kernel) (by decide +kernel) (fun _ _ => ?_)
  refine J_st (st' := []) rfl ?_
  refine J_aload_n C rfl dX1_copyFrom_55 ?_
  refine J_get C 7 5 in1 rfl rfl (by decide) k72 rfl dX1_copyFrom_56 ?_
  refine J_aload_n C rfl dX1_copyFrom_59 ?_
  refine J_get C 0 5 in1 rfl rfl (by decide) k72 rfl dX1_copyFrom_60 ?_
  refine J_callSN (as := [.ref (a2 7), .ref (a 7)]) (rest := []) C (ct_copyRow l G (a2 7) (a 7) 40 (fun q => nI (σ2 5 q)) (fun q => nI (σ 5 q)) (by decide)) (fun u => [(a 1, .inr (1, [.ref (a 2), .ref (a 3), .ref (a 4), .ref (a 5), .ref (a 6), .ref (a 7), .int (nI (σ 0 4)), .int (nI (σ 0 5))])), (a 2, .inl (G.2.1, 40, .inl (fun q => nI (d2 q)))), (a 3, .inl (G.2.1, 40, .inl (fun q => nI (σ2 2 q)))), (a 4, .inl (G.2.1, 40, .inl (fun q => nI (σ2 3 q)))), (a 5, .inl (G.2.1, 40, .inl (fun q => nI (σ2 6 q)))), (a 6, .inl (G.2.1, 40, .inl (fun q => nI (σ2 4 q)))), (a 7, .inl (G.2.1, 40, .inl (fun q => nI (σ2 5 q))))] ++ pgW G a2 σ2 d2) [13, 6] [0, 1, 2, 3, 4, 5, 7, 8, 9, 10, 11, 12] 2 nmTwoScribes_Page_30 k317 k32 k318 rfl (by decide +kernel) ⟨Nat.le_of_ble_eq_true rfl, Nat.le_of_ble_eq_true rfl⟩ ⟨Nat.le_of_ble_eq_true rfl, Nat.le_of_ble_eq_true rfl⟩ dX1_copyFrom_63 (Nat.le_of_ble_eq_true rfl) rfl (by decide +kernel) (fun _ => rfl) ([(a 1, .inr (1, [.ref (a 2), .ref (a 3), .ref (a 4), .ref (a 5), .ref (a 6), .ref (a 7), .int (nI (σ 0 4)), .int (nI (σ 0 5))])), (a 2, .inl (G.2.1, 40, .inl (fun q => nI (d2 q)))), (a 3, .inl (G.2.1, 40, .inl (fun q => nI (σ2 2 q)))), (a 4, .inl (G.2.1, 40, .inl (fun q => nI (σ2 3 q)))), (a 5, .inl (G.2.1, 40, .inl (fun q => nI (σ2 6 q)))), (a 6, .inl (G.2.1, 40, .inl (fun q => nI (σ2 4 q))))] ++ [(a2 1, .inr (1, [.ref (a2 2), .ref (a2 3), .ref (a2 4), .ref (a2 5), .ref (a2 6), .ref (a2 7), .int (nI (σ2 0 4)), .int (nI (σ2 0 5))])), (a2 2, .inl (G.2.1, 40, .inl (fun q => nI (d2 q)))), (a2 3, .inl (G.2.1, 40, .inl (fun q => nI (σ2 2 q)))), (a2 4, .inl (G.2.1, 40, .inl (fun q => nI (σ2 3 q)))), (a2 5, .inl (G.2.1, 40, .inl (fun q => nI (σ2 6 q)))), (a2 6, .inl (G.2.1, 40, .inl (fun q => nI (σ2 4 q))))]) rfl (fun _ => rfl) 14 (fun _ => rfl) (by decide +kernel) (by decide +kernel) (fun _ _ => ?_)
  refine J_st (st' := []) rfl ?_
  refine J_aload_n C rfl dX1_copyFrom_66 ?_
  refine J_aload_n C rfl dX1_copyFrom_67 ?_
  refine J_get C 7 6 in1 rfl rfl (by decide) k74 rfl dX1_copyFrom_68 ?_
  refine J_put C 0 6 in1 tyX1 tyX1_ok nmX1 ([(a 1, .inr (1, [.ref (a 2), .ref (a 3), .ref (a 4), .ref (a 5), .ref (a 6), .ref (a 7), .int (nI (σ2 0 4)), .int (nI (σ 0 5))])), (a 2, .inl (G.2.1, 40, .inl (fun q => nI (d2 q)))), (a 3, .inl (G.2.1, 40, .inl (fun q => nI (σ2 2 q)))), (a 4, .inl (G.2.1, 40, .inl (fun q => nI (σ2 3 q)))), (a 5, .inl (G.2.1, 40, .inl (fun q => nI (σ2 6 q)))), (a 6, .inl (G.2.1, 40, .inl (fun q => nI (σ2 4 q)))), (a 7, .inl (G.2.1, 40, .inl (fun q => nI (σ2 5 q))))] ++ pgW G a2 σ2 d2) rfl rfl (by decide) k74 rfl rfl rfl (Nat.le_of_ble_eq_true rfl) rfl dX1_copyFrom_71 ?_
  refine J_aload_n C rfl dX1_copyFrom_74 ?_
  refine J_aload_n C rfl dX1_copyFrom_75 ?_
  refine J_get C 7 7 in1 rfl rfl (by decide) k77 rfl dX1_copyFrom_76 ?_
  refine J_put C 0 7 in1 tyX1 tyX1_ok nmX1 ([(a 1, .inr (1, [.ref (a 2), .ref (a 3), .ref (a 4), .ref (a 5), .ref (a 6), .ref (a 7), .int (nI (σ2 0 4)), .int (nI (σ2 0 5))])), (a 2, .inl (G.2.1, 40, .inl (fun q => nI (d2 q)))), (a 3, .inl (G.2.1, 40, .inl (fun q => nI (σ2 2 q)))), (a 4, .inl (G.2.1, 40, .inl (fun q => nI (σ2 3 q)))), (a 5, .inl (G.2.1, 40, .inl (fun q => nI (σ2 6 q)))), (a 6, .inl (G.2.1, 40, .inl (fun q => nI (σ2 4 q)))), (a 7, .inl (G.2.1, 40, .inl (fun q => nI (σ2 5 q))))] ++ pgW G a2 σ2 d2) rfl rfl (by decide) k77 rfl rfl rfl (Nat.le_of_ble_eq_true rfl) rfl dX1_copyFrom_79 ?_
  exact J_vret C hr dX1_copyFrom_82 () rfl trivial rfl

set_option maxHeartbeats 4000000 in
set_option maxRecDepth 100000 in
theorem ct_scrBegin (l : Launch) (G : GT) (r : Nat) (v0 v1 v2 v3 v4 v5 : Int32) (v6 : UInt32)  : Ct (S := Unit) l G NoX yX3_beginPage (Wy yX3_beginPage cX3_beginPage 1 ((Option.none : Option Jvm.ClassFile.FieldType))) { frames := 0, cells := 0, slots := 0, locals := 0 } [.ref r] ([(r, .inr (3, [.int v0, .int v1, .int v2, .int v3, .int v4, .int v5, .float v6]))]) (fun u => True) (fun u => none) (fun u => [(r, .inr (3, [.int v0, .int (nI 0), .int (nI 0), .int v3, .int v4, .int v5, .float v6]))]) := by
  refine Ct.of (by decide) (Nat.le_of_ble_eq_true rfl) (fun p e s m args below meth c C hr hnm hX => ?_)
  refine J_aload_n C rfl dX3_beginPage_0 ?_
  refine J_iconst C 0 (by decide) dX3_beginPage_1 ?_
  refine J_put C 0 1 in3 tyX3 tyX3_ok nmX3 ([(r, .inr (3, [.int v0, .int 0, .int v2, .int v3, .int v4, .int v5, .float v6]))]) rfl rfl (by decide) k106 rfl rfl rfl (Nat.le_of_ble_eq_true rfl) rfl dX3_beginPage_2 ?_
  refine J_aload_n C rfl dX3_beginPage_5 ?_
  refine J_iconst C 0 (by decide) dX3_beginPage_6 ?_
  refine J_put C 0 2 in3 tyX3 tyX3_ok nmX3 ([(r, .inr (3, [.int v0, .int 0, .int 0, .int v3, .int v4, .int v5, .float v6]))]) rfl rfl (by decide) k109 rfl rfl rfl (Nat.le_of_ble_eq_true rfl) rfl dX3_beginPage_7 ?_
  exact J_vret C hr dX3_beginPage_10 () rfl trivial rfl

set_option maxHeartbeats 4000000 in
set_option maxRecDepth 100000 in
theorem ct_scrCopy (l : Launch) (G : GT) (r r2 : Nat) (v0 v1 v2 v3 v4 v5 : Int32) (v6 : UInt32) (w0 w1 w2 w3 w4 w5 : Int32) (w6 : UInt32)  : Ct (S := Unit) l G NoX yX3_copyFrom (Wy yX3_copyFrom cX3_copyFrom 2 ((Option.none : Option Jvm.ClassFile.FieldType))) { frames := 0, cells := 0, slots := 0, locals := 0 } [.ref r, .ref r2] ([(r, .inr (3, [.int v0, .int v1, .int v2, .int v3, .int v4, .int v5, .float v6])), (r2, .inr (3, [.int w0, .int w1, .int w2, .int w3, .int w4, .int w5, .float w6]))]) (fun u => True) (fun u => none) (fun u => [(r, .inr (3, [.int w0, .int w1, .int w2, .int w3, .int w4, .int w5, .float w6])), (r2, .inr (3, [.int w0, .int w1, .int w2, .int w3, .int w4, .int w5, .float w6]))]) := by
  refine Ct.of (by decide) (Nat.le_of_ble_eq_true rfl) (fun p e s m args below meth c C hr hnm hX => ?_)
  refine J_aload_n C rfl dX3_copyFrom_0 ?_
  refine J_aload_n C rfl dX3_copyFrom_1 ?_
  refine J_get C 1 0 in3 rfl rfl (by decide) k103 rfl dX3_copyFrom_2 ?_
  refine J_put C 0 0 in3 tyX3 tyX3_ok nmX3 ([(r, .inr (3, [.int w0, .int v1, .int v2, .int v3, .int v4, .int v5, .float v6])), (r2, .inr (3, [.int w0, .int w1, .int w2, .int w3, .int w4, .int w5, .float w6]))]) rfl rfl (by decide) k103 rfl rfl rfl (Nat.le_of_ble_eq_true rfl) rfl dX3_copyFrom_5 ?_
  refine J_aload_n C rfl dX3_copyFrom_8 ?_
  refine J_aload_n C rfl dX3_copyFrom_9 ?_
  refine J_get C 1 1 in3 rfl rfl (by decide) k106 rfl dX3_copyFrom_10 ?_
  refine J_put C 0 1 in3 tyX3 tyX3_ok nmX3 ([(r, .inr (3, [.int w0, .int w1, .int v2, .int v3, .int v4, .int v5, .float v6])), (r2, .inr (3, [.int w0, .int w1, .int w2, .int w3, .int w4, .int w5, .float w6]))]) rfl rfl (by decide) k106 rfl rfl rfl (Nat.le_of_ble_eq_true rfl) rfl dX3_copyFrom_13 ?_
  refine J_aload_n C rfl dX3_copyFrom_16 ?_
  refine J_aload_n C rfl dX3_copyFrom_17 ?_
  refine J_get C 1 2 in3 rfl rfl (by decide) k109 rfl dX3_copyFrom_18 ?_
  refine J_put C 0 2 in3 tyX3 tyX3_ok nmX3 ([(r, .inr (3, [.int w0, .int w1, .int w2, .int v3, .int v4, .int v5, .float v6])), (r2, .inr (3, [.int w0, .int w1, .int w2, .int w3, .int w4, .int w5, .float w6]))]) rfl rfl (by decide) k109 rfl rfl rfl (Nat.le_of_ble_eq_true rfl) rfl dX3_copyFrom_21 ?_
  refine J_aload_n C rfl dX3_copyFrom_24 ?_
  refine J_aload_n C rfl dX3_copyFrom_25 ?_
  refine J_get C 1 3 in3 rfl rfl (by decide) k112 rfl dX3_copyFrom_26 ?_
  refine J_put C 0 3 in3 tyX3 tyX3_ok nmX3 ([(r, .inr (3, [.int w0, .int w1, .int w2, .int w3, .int v4, .int v5, .float v6])), (r2, .inr (3, [.int w0, .int w1, .int w2, .int w3, .int w4, .int w5, .float w6]))]) rfl rfl (by decide) k112 rfl rfl rfl (Nat.le_of_ble_eq_true rfl) rfl dX3_copyFrom_29 ?_
  refine J_aload_n C rfl dX3_copyFrom_32 ?_
  refine J_aload_n C rfl dX3_copyFrom_33 ?_
  refine J_get C 1 4 in3 rfl rfl (by decide) k115 rfl dX3_copyFrom_34 ?_
  refine J_put C 0 4 in3 tyX3 tyX3_ok nmX3 ([(r, .inr (3, [.int w0, .int w1, .int w2, .int w3, .int w4, .int v5, .float v6])), (r2, .inr (3, [.int w0, .int w1, .int w2, .int w3, .int w4, .int w5, .float w6]))]) rfl rfl (by decide) k115 rfl rfl rfl (Nat.le_of_ble_eq_true rfl) rfl dX3_copyFrom_37 ?_
  refine J_aload_n C rfl dX3_copyFrom_40 ?_
  refine J_aload_n C rfl dX3_copyFrom_41 ?_
  refine J_get C 1 5 in3 rfl rfl (by decide) k118 rfl dX3_copyFrom_42 ?_
  refine J_put C 0 5 in3 tyX3 tyX3_ok nmX3 ([(r, .inr (3, [.int w0, .int w1, .int w2, .int w3, .int w4, .int w5, .float v6])), (r2, .inr (3, [.int w0, .int w1, .int w2, .int w3, .int w4, .int w5, .float w6]))]) rfl rfl (by decide) k118 rfl rfl rfl (Nat.le_of_ble_eq_true rfl) rfl dX3_copyFrom_45 ?_
  refine J_aload_n C rfl dX3_copyFrom_48 ?_
  refine J_aload_n C rfl dX3_copyFrom_49 ?_
  refine J_get C 1 6 in3 rfl rfl (by decide) k121 rfl dX3_copyFrom_50 ?_
  refine J_put C 0 6 in3 tyX3 tyX3_ok nmX3 ([(r, .inr (3, [.int w0, .int w1, .int w2, .int w3, .int w4, .int w5, .float w6])), (r2, .inr (3, [.int w0, .int w1, .int w2, .int w3, .int w4, .int w5, .float w6]))]) rfl rfl (by decide) k121 rfl rfl rfl (Nat.le_of_ble_eq_true rfl) rfl dX3_copyFrom_53 ?_
  exact J_vret C hr dX3_copyFrom_56 () rfl trivial rfl
end
section
/-! the definitions of a tick at each of the two scribes -/
theorem plc_0 (σ : AS) : plc σ 0 = σ 0 14 := rfl
theorem plc_1 (σ : AS) : plc σ 1 = σ 0 4 - 1 - σ 0 15 := rfl
theorem doesN_0 (σ : AS) : doesN σ 0 = if 0 < σ 0 18 then 1 else if σ 0 4 ≤ 2 * σ 0 14 then 5 else if letAt σ (σ 0 14) ≤ σ 0 24 ∨ 0 < σ 0 16 then 0 else if 0 < σ 0 19 then 3 else if σ 0 6 = 0 then 4 else 2 := rfl
theorem doesN_1 (σ : AS) : doesN σ 1 = if 0 < σ 0 19 then 1 else if σ 0 4 ≤ 2 * σ 0 15 then 5 else if letAt σ (σ 0 4 - 1 - σ 0 15) ≤ σ 0 25 ∨ 0 < σ 0 17 then 0 else if 0 < σ 0 18 then 3 else if σ 0 6 = 0 then 4 else 2 := rfl
theorem dipsF_0 (σ : AS) : dipsF σ 0 = if σ 0 18 - 1 = 0 then up2 (up2 (up2 (up2 σ 0 18 (σ 0 18 - 1)) 0 24 (σ 0 24 + gotF σ 0)) 0 6 (σ 0 6 - gotF σ 0)) 0 20 (σ 0 20 + 1) else up2 σ 0 18 (σ 0 18 - 1) := rfl
theorem dipsF_1 (σ : AS) : dipsF σ 1 = if σ 0 19 - 1 = 0 then up2 (up2 (up2 (up2 σ 0 19 (σ 0 19 - 1)) 0 25 (σ 0 25 + gotF σ 1)) 0 6 (σ 0 6 - gotF σ 1)) 0 21 (σ 0 21 + 1) else up2 σ 0 19 (σ 0 19 - 1) := rfl
theorem gotF_0 (σ : AS) : gotF σ 0 = if σ 0 6 < 64 - σ 0 24 then σ 0 6 else 64 - σ 0 24 := rfl
theorem gotF_1 (σ : AS) : gotF σ 1 = if σ 0 6 < 64 - σ 0 25 then σ 0 6 else 64 - σ 0 25 := rfl
theorem blotN_0 (σ : AS) : blotN σ 0 = if 8 * σ 7 1 < σ 0 24 then 1 else 0 := rfl
theorem blotN_1 (σ : AS) : blotN σ 1 = if 8 * σ 7 1 < σ 0 25 then 1 else 0 := rfl
theorem wroteF_0 (σ : AS) (w : Nat) : wroteF σ 0 w = up2 (up2 (up2 (up2 (up2 (up2 (up2 (up2 σ 3 (σ 0 14) (letAt σ (σ 0 14))) 4 (σ 0 14) (blotN σ 0)) 6 (σ 0 14) w) 0 24 (σ 0 24 - letAt σ (σ 0 14))) 0 7 (σ 0 7 + letAt σ (σ 0 14))) 0 16 0) 0 14 (σ 0 14 + 1)) 0 10 (σ 0 10 + 1) := rfl
theorem wroteF_1 (σ : AS) (w : Nat) : wroteF σ 1 w = up2 (up2 (up2 (up2 (up2 (up2 (up2 (up2 σ 3 (σ 0 4 - 1 - σ 0 15) (letAt σ (σ 0 4 - 1 - σ 0 15))) 4 (σ 0 4 - 1 - σ 0 15) (blotN σ 1)) 6 (σ 0 4 - 1 - σ 0 15) w) 0 25 (σ 0 25 - letAt σ (σ 0 4 - 1 - σ 0 15))) 0 7 (σ 0 7 + letAt σ (σ 0 4 - 1 - σ 0 15))) 0 17 0) 0 15 (σ 0 15 + 1)) 0 10 (σ 0 10 + 1) := rfl
theorem writesF_0 (σ : AS) (w : Nat) : writesF σ 0 w = if σ 0 16 + 1 < σ 0 12 then up2 σ 0 16 (σ 0 16 + 1) else wroteF σ 0 w := rfl
theorem writesF_1 (σ : AS) (w : Nat) : writesF σ 1 w = if σ 0 17 + 1 < σ 0 13 then up2 σ 0 17 (σ 0 17 + 1) else wroteF σ 1 w := rfl
theorem goesF_0 (σ : AS) (w : Nat) : goesF σ 0 w = if doesN σ 0 = 0 then writesF σ 0 w else if doesN σ 0 = 1 then dipsF σ 0 else if doesN σ 0 = 2 then up2 σ 0 18 (σ 7 0) else if doesN σ 0 = 5 then σ else up2 σ 0 22 (σ 0 22 + 1) := rfl
theorem goesF_1 (σ : AS) (w : Nat) : goesF σ 1 w = if doesN σ 1 = 0 then writesF σ 1 w else if doesN σ 1 = 1 then dipsF σ 1 else if doesN σ 1 = 2 then up2 σ 0 19 (σ 7 0) else if doesN σ 1 = 5 then σ else up2 σ 0 23 (σ 0 23 + 1) := rfl
end
section
/-! what every state is, stays so -/
theorem nI_ne5 {n : Nat} (h : n < 2147483648) : ¬ nI n = -5 := by
  intro e
  have h1 := congrArg Int32.toInt e
  rw [nI_toInt (by omega)] at h1
  have h2 : (-5 : Int32).toInt = -5 := by decide
  omega
theorem Inv.tick {σ : AS} (h : Inv σ) (ht : σ 0 3 < 102100) : Inv (tickF σ) := ⟨⟨h.a.1, h.a.2.1, by show σ 0 3 + 1 ≤ 102100; omega, h.a.2.2.2.1, h.a.2.2.2.2⟩, h.s, h.i, h.c, h.l, h.r, fun _ hq => h.q hq, fun _ hq => h.d hq⟩
theorem DOK.tick {σ : AS} {d : Nat → Nat} (h : DOK σ d) : DOK (tickF σ) d := fun q hq => h q hq
theorem does0_0 {σ : AS} (hI : Inv σ) (h : doesN σ 0 = 0) : 2 * σ 0 14 < σ 0 4 ∧ letAt σ (σ 0 14) ≤ σ 0 24 ∧ σ 0 18 = 0 := by
  have hl := hI.l
  rw [doesN_0] at h
  by_cases h1 : 0 < σ 0 18
  · rw [if_pos h1] at h; omega
  rw [if_neg h1] at h
  by_cases h2 : σ 0 4 ≤ 2 * σ 0 14
  · rw [if_pos h2] at h; omega
  rw [if_neg h2] at h
  by_cases h3 : letAt σ (σ 0 14) ≤ σ 0 24 ∨ 0 < σ 0 16
  · omega
  · rw [if_neg h3] at h
    split at h
    · omega
    · split at h <;> omega
theorem does0_1 {σ : AS} (hI : Inv σ) (h : doesN σ 1 = 0) : 2 * σ 0 15 < σ 0 4 ∧ letAt σ (σ 0 4 - 1 - σ 0 15) ≤ σ 0 25 ∧ σ 0 19 = 0 := by
  have hl := hI.r
  rw [doesN_1] at h
  by_cases h1 : 0 < σ 0 19
  · rw [if_pos h1] at h; omega
  rw [if_neg h1] at h
  by_cases h2 : σ 0 4 ≤ 2 * σ 0 15
  · rw [if_pos h2] at h; omega
  rw [if_neg h2] at h
  by_cases h3 : letAt σ (σ 0 4 - 1 - σ 0 15) ≤ σ 0 25 ∨ 0 < σ 0 17
  · omega
  · rw [if_neg h3] at h
    split at h
    · omega
    · split at h <;> omega
theorem does1_0 {σ : AS} (h : doesN σ 0 = 1) : 0 < σ 0 18 := by
  rw [doesN_0] at h
  by_cases h1 : 0 < σ 0 18
  · exact h1
  · rw [if_neg h1] at h
    repeat' split at h
    all_goals omega
theorem does1_1 {σ : AS} (h : doesN σ 1 = 1) : 0 < σ 0 19 := by
  rw [doesN_1] at h
  by_cases h1 : 0 < σ 0 19
  · exact h1
  · rw [if_neg h1] at h
    repeat' split at h
    all_goals omega
theorem does2_0 {σ : AS} (h : doesN σ 0 = 2) : σ 0 16 = 0 ∧ σ 0 18 = 0 ∧ σ 0 19 = 0 ∧ 0 < σ 0 6 ∧ 2 * σ 0 14 < σ 0 4 := by
  rw [doesN_0] at h
  repeat' split at h
  all_goals omega
theorem does2_1 {σ : AS} (h : doesN σ 1 = 2) : σ 0 17 = 0 ∧ σ 0 19 = 0 ∧ σ 0 18 = 0 ∧ 0 < σ 0 6 ∧ 2 * σ 0 15 < σ 0 4 := by
  rw [doesN_1] at h
  repeat' split at h
  all_goals omega
theorem got_le0 (σ : AS) : gotF σ 0 ≤ σ 0 6 ∧ gotF σ 0 ≤ 64 - σ 0 24 := by
  rw [gotF_0]
  split <;> omega
theorem got_le1 (σ : AS) : gotF σ 1 ≤ σ 0 6 ∧ gotF σ 1 ≤ 64 - σ 0 25 := by
  rw [gotF_1]
  split <;> omega
theorem Inv.dips0 {σ : AS} (h : Inv σ) (hp : 0 < σ 0 18) : Inv (dipsF σ 0) := by
  have hc := h.c
  have hi := h.i
  have hg := got_le0 σ
  rw [dipsF_0]
  split
  · exact ⟨h.a, h.s, ⟨by show σ 0 24 + gotF σ 0 ≤ 64; omega, hi.2.1, by show (σ 0 24 + gotF σ 0) + σ 0 25 + (σ 0 6 - gotF σ 0) + σ 0 7 + σ 0 8 = 256 + 8 * σ 0 11; omega⟩, ⟨hc.1, hc.2.1, hc.2.2.1, hc.2.2.2.1, hc.2.2.2.2.1, hc.2.2.2.2.2.1, hc.2.2.2.2.2.2.1, hc.2.2.2.2.2.2.2.1, by show σ 0 18 - 1 ≤ 9; omega, hc.2.2.2.2.2.2.2.2.2⟩, fun hh => absurd (h.l hh).2.2 (by omega), h.r, fun _ hq => h.q hq, fun _ hq => h.d hq⟩
  · exact ⟨h.a, h.s, h.i, ⟨hc.1, hc.2.1, hc.2.2.1, hc.2.2.2.1, hc.2.2.2.2.1, hc.2.2.2.2.2.1, hc.2.2.2.2.2.2.1, hc.2.2.2.2.2.2.2.1, by show σ 0 18 - 1 ≤ 9; omega, hc.2.2.2.2.2.2.2.2.2⟩, fun hh => absurd (h.l hh).2.2 (by omega), h.r, fun _ hq => h.q hq, fun _ hq => h.d hq⟩
theorem Inv.dips1 {σ : AS} (h : Inv σ) (hp : 0 < σ 0 19) : Inv (dipsF σ 1) := by
  have hc := h.c
  have hi := h.i
  have hg := got_le1 σ
  rw [dipsF_1]
  split
  · exact ⟨h.a, h.s, ⟨hi.1, by show σ 0 25 + gotF σ 1 ≤ 64; omega, by show σ 0 24 + (σ 0 25 + gotF σ 1) + (σ 0 6 - gotF σ 1) + σ 0 7 + σ 0 8 = 256 + 8 * σ 0 11; omega⟩, ⟨hc.1, hc.2.1, hc.2.2.1, hc.2.2.2.1, hc.2.2.2.2.1, hc.2.2.2.2.2.1, hc.2.2.2.2.2.2.1, hc.2.2.2.2.2.2.2.1, hc.2.2.2.2.2.2.2.2.1, by show σ 0 19 - 1 ≤ 9; omega⟩, h.l, fun hh => absurd (h.r hh).2.2 (by omega), fun _ hq => h.q hq, fun _ hq => h.d hq⟩
  · exact ⟨h.a, h.s, h.i, ⟨hc.1, hc.2.1, hc.2.2.1, hc.2.2.2.1, hc.2.2.2.2.1, hc.2.2.2.2.2.1, hc.2.2.2.2.2.2.1, hc.2.2.2.2.2.2.2.1, hc.2.2.2.2.2.2.2.2.1, by show σ 0 19 - 1 ≤ 9; omega⟩, h.l, fun hh => absurd (h.r hh).2.2 (by omega), fun _ hq => h.q hq, fun _ hq => h.d hq⟩
theorem blot_le (σ : AS) (s : Nat) : blotN σ s ≤ 1 := by
  unfold blotN
  split <;> omega
theorem Inv.writes0 {σ : AS} {w : Nat} (h : Inv σ) (hd : doesN σ 0 = 0) (hw : w ≤ 102100) : Inv (writesF σ 0 w) := by
  have hc := h.c
  have hi := h.i
  have ha := h.a
  obtain ⟨h1, h2, h3⟩ := does0_0 h hd
  have hlt := h.let (p := σ 0 14) (by omega)
  have hb := blot_le σ 0
  rw [writesF_0]
  split
  · exact ⟨h.a, h.s, h.i, ⟨hc.1, hc.2.1, hc.2.2.1, hc.2.2.2.1, hc.2.2.2.2.1, hc.2.2.2.2.2.1, by show σ 0 16 + 1 ≤ 8; omega, hc.2.2.2.2.2.2.2.1, hc.2.2.2.2.2.2.2.2.1, hc.2.2.2.2.2.2.2.2.2⟩, fun _ => ⟨h1, h2, h3⟩, h.r, fun _ hq => h.q hq, fun _ hq => h.d hq⟩
  · rw [wroteF_0]
    refine ⟨h.a, h.s, ⟨by show σ 0 24 - letAt σ (σ 0 14) ≤ 64; omega, hi.2.1, by show (σ 0 24 - letAt σ (σ 0 14)) + σ 0 25 + σ 0 6 + (σ 0 7 + letAt σ (σ 0 14)) + σ 0 8 = 256 + 8 * σ 0 11; omega⟩, ⟨hc.1, hc.2.1, hc.2.2.1, hc.2.2.2.1, by show 2 * (σ 0 14 + 1) ≤ σ 0 4; omega, hc.2.2.2.2.2.1, Nat.zero_le _, hc.2.2.2.2.2.2.2.1, hc.2.2.2.2.2.2.2.2.1, hc.2.2.2.2.2.2.2.2.2⟩, fun hh => absurd (show 0 < 0 from hh) (by omega), h.r, fun q hq => ?_, fun _ hq => h.d hq⟩
    have hq2 := h.q hq
    show σ 2 q ≤ 26 ∧ (if q = σ 0 14 then letAt σ (σ 0 14) else σ 3 q) ≤ 26 ∧ (if q = σ 0 14 then blotN σ 0 else σ 4 q) ≤ 1 ∧ σ 5 q ≤ 1 ∧ (if q = σ 0 14 then w else σ 6 q) ≤ 102100 ∧ (0 < (if q = σ 0 14 then letAt σ (σ 0 14) else σ 3 q) ↔ q < σ 0 14 + 1 ∨ (σ 0 4 ≤ q + σ 0 15 ∧ q < σ 0 4))
    by_cases hqq : q = σ 0 14
    · rw [if_pos hqq, if_pos hqq, if_pos hqq]; omega
    · rw [if_neg hqq, if_neg hqq, if_neg hqq]; omega
theorem Inv.writes1 {σ : AS} {w : Nat} (h : Inv σ) (hd : doesN σ 1 = 0) (hw : w ≤ 102100) : Inv (writesF σ 1 w) := by
  have hc := h.c
  have hi := h.i
  have ha := h.a
  obtain ⟨h1, h2, h3⟩ := does0_1 h hd
  have hlt := h.let (p := σ 0 4 - 1 - σ 0 15) (by omega)
  have hb := blot_le σ 1
  rw [writesF_1]
  split
  · exact ⟨h.a, h.s, h.i, ⟨hc.1, hc.2.1, hc.2.2.1, hc.2.2.2.1, hc.2.2.2.2.1, hc.2.2.2.2.2.1, hc.2.2.2.2.2.2.1, by show σ 0 17 + 1 ≤ 8; omega, hc.2.2.2.2.2.2.2.2.1, hc.2.2.2.2.2.2.2.2.2⟩, h.l, fun _ => ⟨h1, h2, h3⟩, fun _ hq => h.q hq, fun _ hq => h.d hq⟩
  · rw [wroteF_1]
    generalize hP : σ 0 4 - 1 - σ 0 15 = P at hlt h2 ⊢
    refine ⟨h.a, h.s, ⟨hi.1, by show σ 0 25 - letAt σ P ≤ 64; omega, by show σ 0 24 + (σ 0 25 - letAt σ P) + σ 0 6 + (σ 0 7 + letAt σ P) + σ 0 8 = 256 + 8 * σ 0 11; omega⟩, ⟨hc.1, hc.2.1, hc.2.2.1, hc.2.2.2.1, hc.2.2.2.2.1, by show 2 * (σ 0 15 + 1) ≤ σ 0 4; omega, hc.2.2.2.2.2.2.1, Nat.zero_le _, hc.2.2.2.2.2.2.2.2.1, hc.2.2.2.2.2.2.2.2.2⟩, h.l, fun hh => absurd (show 0 < 0 from hh) (by omega), fun q hq => ?_, fun _ hq => h.d hq⟩
    have hq2 := h.q hq
    show σ 2 q ≤ 26 ∧ (if q = P then letAt σ P else σ 3 q) ≤ 26 ∧ (if q = P then blotN σ 1 else σ 4 q) ≤ 1 ∧ σ 5 q ≤ 1 ∧ (if q = P then w else σ 6 q) ≤ 102100 ∧ (0 < (if q = P then letAt σ P else σ 3 q) ↔ q < σ 0 14 ∨ (σ 0 4 ≤ q + (σ 0 15 + 1) ∧ q < σ 0 4))
    by_cases hqq : q = P
    · rw [if_pos hqq, if_pos hqq, if_pos hqq]; omega
    · rw [if_neg hqq, if_neg hqq, if_neg hqq]; omega
theorem Inv.goes0 {σ : AS} {w : Nat} (h : Inv σ) (hw : w ≤ 102100) : Inv (goesF σ 0 w) := by
  have hc := h.c
  have hs := h.s
  rw [goesF_0]
  split
  · rename_i hd; exact h.writes0 hd hw
  split
  · rename_i hd; exact h.dips0 (does1_0 hd)
  split
  · rename_i hd
    have h2 := does2_0 hd
    exact ⟨h.a, h.s, h.i, ⟨hc.1, hc.2.1, hc.2.2.1, hc.2.2.2.1, hc.2.2.2.2.1, hc.2.2.2.2.2.1, hc.2.2.2.2.2.2.1, hc.2.2.2.2.2.2.2.1, by show σ 7 0 ≤ 9; omega, hc.2.2.2.2.2.2.2.2.2⟩, fun hh => absurd (show 0 < σ 0 16 from hh) (by omega), h.r, fun _ hq => h.q hq, fun _ hq => h.d hq⟩
  split
  · exact h
  · exact ⟨h.a, h.s, h.i, h.c, h.l, h.r, fun _ hq => h.q hq, fun _ hq => h.d hq⟩
theorem Inv.goes1 {σ : AS} {w : Nat} (h : Inv σ) (hw : w ≤ 102100) : Inv (goesF σ 1 w) := by
  have hc := h.c
  have hs := h.s
  rw [goesF_1]
  split
  · rename_i hd; exact h.writes1 hd hw
  split
  · rename_i hd; exact h.dips1 (does1_1 hd)
  split
  · rename_i hd
    have h2 := does2_1 hd
    exact ⟨h.a, h.s, h.i, ⟨hc.1, hc.2.1, hc.2.2.1, hc.2.2.2.1, hc.2.2.2.2.1, hc.2.2.2.2.2.1, hc.2.2.2.2.2.2.1, hc.2.2.2.2.2.2.2.1, hc.2.2.2.2.2.2.2.2.1, by show σ 7 0 ≤ 9; omega⟩, h.l, fun hh => absurd (show 0 < σ 0 17 from hh) (by omega), fun _ hq => h.q hq, fun _ hq => h.d hq⟩
  split
  · exact h
  · exact ⟨h.a, h.s, h.i, h.c, h.l, h.r, fun _ hq => h.q hq, fun _ hq => h.d hq⟩
/-- what a scribe's turn leaves: the tick, the places, the rows of what is due and told, the settings -/
theorem goes_keep (σ : AS) (s w : Nat) (hs : s = 0 ∨ s = 1) : (goesF σ s w) 0 3 = σ 0 3 ∧ (goesF σ s w) 0 4 = σ 0 4 ∧ (goesF σ s w) 1 = σ 1 ∧ (goesF σ s w) 2 = σ 2 ∧ (goesF σ s w) 7 = σ 7 ∧ (goesF σ s w) 0 5 = σ 0 5 ∧ (goesF σ s w) 0 8 = σ 0 8 ∧ (goesF σ s w) 0 9 = σ 0 9 ∧ (goesF σ s w) 0 11 = σ 0 11 ∧ (goesF σ s w) 0 12 = σ 0 12 ∧ (goesF σ s w) 0 13 = σ 0 13 ∧ (goesF σ s w) 5 = σ 5 := by
  rcases hs with rfl | rfl
  · rw [goesF_0]
    split
    · rw [writesF_0]
      split
      · exact ⟨rfl, rfl, rfl, rfl, rfl, rfl, rfl, rfl, rfl, rfl, rfl, rfl⟩
      · rw [wroteF_0]; exact ⟨rfl, rfl, rfl, rfl, rfl, rfl, rfl, rfl, rfl, rfl, rfl, rfl⟩
    split
    · rw [dipsF_0]
      split <;> exact ⟨rfl, rfl, rfl, rfl, rfl, rfl, rfl, rfl, rfl, rfl, rfl, rfl⟩
    split
    · exact ⟨rfl, rfl, rfl, rfl, rfl, rfl, rfl, rfl, rfl, rfl, rfl, rfl⟩
    split <;> exact ⟨rfl, rfl, rfl, rfl, rfl, rfl, rfl, rfl, rfl, rfl, rfl, rfl⟩
  · rw [goesF_1]
    split
    · rw [writesF_1]
      split
      · exact ⟨rfl, rfl, rfl, rfl, rfl, rfl, rfl, rfl, rfl, rfl, rfl, rfl⟩
      · rw [wroteF_1]; exact ⟨rfl, rfl, rfl, rfl, rfl, rfl, rfl, rfl, rfl, rfl, rfl, rfl⟩
    split
    · rw [dipsF_1]
      split <;> exact ⟨rfl, rfl, rfl, rfl, rfl, rfl, rfl, rfl, rfl, rfl, rfl, rfl⟩
    split
    · exact ⟨rfl, rfl, rfl, rfl, rfl, rfl, rfl, rfl, rfl, rfl, rfl, rfl⟩
    split <;> exact ⟨rfl, rfl, rfl, rfl, rfl, rfl, rfl, rfl, rfl, rfl, rfl, rfl⟩
theorem due_keep {σ τ : AS} (h4 : τ 0 4 = σ 0 4) (h1 : τ 1 = σ 1) (q : Nat) : dueAt τ q = dueAt σ q := by
  unfold dueAt
  rw [h4, h1]
theorem let_keep {σ τ : AS} (h4 : τ 0 4 = σ 0 4) (h1 : τ 1 = σ 1) (h2 : τ 2 = σ 2) (q : Nat) : letAt τ q = letAt σ q := by
  unfold letAt
  rw [due_keep h4 h1, h2]
theorem DOK.keep {σ τ : AS} {d : Nat → Nat} (h : DOK σ d) (h4 : τ 0 4 = σ 0 4) (h1 : τ 1 = σ 1) : DOK τ d := fun q hq => by
  rw [due_keep h4 h1]
  exact h q (by rw [← h4]; exact hq)
theorem DOK.goes0 {σ : AS} {d : Nat → Nat} {w : Nat} (h : DOK σ d) : DOK (goesF σ 0 w) d := h.keep (goes_keep σ 0 w (Or.inl rfl)).2.1 (goes_keep σ 0 w (Or.inl rfl)).2.2.1
theorem DOK.goes1 {σ : AS} {d : Nat → Nat} {w : Nat} (h : DOK σ d) : DOK (goesF σ 1 w) d := h.keep (goes_keep σ 1 w (Or.inr rfl)).2.1 (goes_keep σ 1 w (Or.inr rfl)).2.2.1
theorem Inv.ticks {σ : AS} (h : Inv σ) (ht : σ 0 3 < 102100) : Inv (ticksF σ) := ((h.tick ht).goes0 (by omega)).goes1 (by omega)
theorem DOK.ticks {σ : AS} {d : Nat → Nat} (h : DOK σ d) : DOK (ticksF σ) d := (h.tick.goes0).goes1
theorem ticks_tick (σ : AS) : ticksF σ 0 3 = σ 0 3 + 1 := by
  unfold ticksF
  rw [(goes_keep _ 1 _ (Or.inr rfl)).1, (goes_keep _ 0 _ (Or.inl rfl)).1]
  rfl
/-! when both wait for ink or rest, no later tick brings anything -/
def Stuck (σ : AS) : Prop := (doesN σ 0 = 4 ∨ doesN σ 0 = 5) ∧ (doesN σ 1 = 4 ∨ doesN σ 1 = 5) ∧ ¬ σ 0 4 ≤ σ 0 14 + σ 0 15
theorem does_alike {σ τ : AS} (h : ∀ k, k ≠ 3 → k ≠ 22 → k ≠ 23 → τ 0 k = σ 0 k) (h1 : τ 1 = σ 1) (h2 : τ 2 = σ 2) : doesN τ 0 = doesN σ 0 ∧ doesN τ 1 = doesN σ 1 := by
  have e4 := h 4 (by omega) (by omega) (by omega)
  rw [doesN_0, doesN_0, doesN_1, doesN_1, let_keep e4 h1 h2, let_keep e4 h1 h2, e4, h 18 (by omega) (by omega) (by omega), h 19 (by omega) (by omega) (by omega), h 14 (by omega) (by omega) (by omega), h 15 (by omega) (by omega) (by omega), h 24 (by omega) (by omega) (by omega), h 25 (by omega) (by omega) (by omega), h 16 (by omega) (by omega) (by omega), h 17 (by omega) (by omega) (by omega), h 6 (by omega) (by omega) (by omega)]
  exact ⟨rfl, rfl⟩
theorem goes_idle0 {σ : AS} {w : Nat} (h : doesN σ 0 = 4 ∨ doesN σ 0 = 5) : (∀ k, k ≠ 3 → k ≠ 22 → k ≠ 23 → (goesF σ 0 w) 0 k = σ 0 k) ∧ (goesF σ 0 w) 1 = σ 1 ∧ (goesF σ 0 w) 2 = σ 2 := by
  rw [goesF_0, if_neg (by omega), if_neg (by omega), if_neg (by omega)]
  split
  · exact ⟨fun _ _ _ _ => rfl, rfl, rfl⟩
  · exact ⟨fun k h1 h2 h3 => by show (if k = 22 then _ else _) = _; rw [if_neg h2], rfl, rfl⟩
theorem goes_idle1 {σ : AS} {w : Nat} (h : doesN σ 1 = 4 ∨ doesN σ 1 = 5) : (∀ k, k ≠ 3 → k ≠ 22 → k ≠ 23 → (goesF σ 1 w) 0 k = σ 0 k) ∧ (goesF σ 1 w) 1 = σ 1 ∧ (goesF σ 1 w) 2 = σ 2 := by
  rw [goesF_1, if_neg (by omega), if_neg (by omega), if_neg (by omega)]
  split
  · exact ⟨fun _ _ _ _ => rfl, rfl, rfl⟩
  · exact ⟨fun k h1 h2 h3 => by show (if k = 23 then _ else _) = _; rw [if_neg h3], rfl, rfl⟩
theorem tick_alike (σ : AS) : (∀ k, k ≠ 3 → k ≠ 22 → k ≠ 23 → (tickF σ) 0 k = σ 0 k) ∧ (tickF σ) 1 = σ 1 ∧ (tickF σ) 2 = σ 2 := ⟨fun k h1 _ _ => by show (if k = 3 then _ else _) = _; rw [if_neg h1], rfl, rfl⟩
theorem Stuck.next {σ : AS} (h : Stuck σ) : Stuck (ticksF σ) := by
  obtain ⟨h0, h1, h2⟩ := h
  obtain ⟨a1, a2, a3⟩ := tick_alike σ
  have da := does_alike a1 a2 a3
  obtain ⟨b1, b2, b3⟩ := goes_idle0 (σ := tickF σ) (w := σ 0 3 + 1) (by rw [da.1]; exact h0)
  have db := does_alike b1 b2 b3
  obtain ⟨c1, c2, c3⟩ := goes_idle1 (σ := goesF (tickF σ) 0 (σ 0 3 + 1)) (w := σ 0 3 + 1) (by rw [db.2, da.2]; exact h1)
  have dc := does_alike c1 c2 c3
  refine ⟨?_, ?_, ?_⟩
  · show doesN (goesF (goesF (tickF σ) 0 (σ 0 3 + 1)) 1 (σ 0 3 + 1)) 0 = 4 ∨ _
    unfold ticksF
    rw [dc.1, db.1, da.1]; exact h0
  · unfold ticksF
    rw [dc.2, db.2, da.2]; exact h1
  · unfold ticksF
    rw [c1 4 (by omega) (by omega) (by omega), c1 14 (by omega) (by omega) (by omega), c1 15 (by omega) (by omega) (by omega), b1 4 (by omega) (by omega) (by omega), b1 14 (by omega) (by omega) (by omega), b1 15 (by omega) (by omega) (by omega), a1 4 (by omega) (by omega) (by omega), a1 14 (by omega) (by omega) (by omega), a1 15 (by omega) (by omega) (by omega)]
    exact h2
theorem Stuck.never {σ : AS} (h : Stuck σ) : ∀ f c, dnF f c σ = -5 := by
  intro f
  induction f generalizing σ with
  | zero => intro c; rfl
  | succ f ih =>
    intro c
    unfold dnF
    rw [if_neg h.2.2]
    exact ih h.next (c + 1)
/-- neither dipped nor wrote in a tick: stuck -/
theorem Stuck.of {σ : AS} (h0 : 2 < doesN (tickF σ) 0) (h1 : 2 < doesN (goesF (tickF σ) 0 (σ 0 3 + 1)) 1) (h2 : ¬ σ 0 4 ≤ σ 0 14 + σ 0 15) : Stuck σ := by
  obtain ⟨a1, a2, a3⟩ := tick_alike σ
  have da := does_alike a1 a2 a3
  rw [da.1] at h0
  have l0 := doesN_le σ 0
  have key : doesN σ 0 ≠ 3 := by
    intro h3
    have e : goesF (tickF σ) 0 (σ 0 3 + 1) = up2 (tickF σ) 0 22 ((tickF σ) 0 22 + 1) := by
      rw [goesF_0, da.1, h3]
      rfl
    rw [e] at h1
    have hd : 0 < σ 0 19 := by
      rw [doesN_0] at h3
      repeat' split at h3
      all_goals omega
    have : doesN (up2 (tickF σ) 0 22 ((tickF σ) 0 22 + 1)) 1 = 1 := by
      rw [doesN_1]
      exact if_pos hd
    omega
  have h4 : doesN σ 0 = 4 ∨ doesN σ 0 = 5 := by omega
  obtain ⟨b1, b2, b3⟩ := goes_idle0 (σ := tickF σ) (w := σ 0 3 + 1) (by rw [da.1]; exact h4)
  have db := does_alike b1 b2 b3
  rw [db.2, da.2] at h1
  have l1 := doesN_le σ 1
  have key2 : doesN σ 1 ≠ 3 := by
    intro h3
    have hd : 0 < σ 0 18 := by
      rw [doesN_1] at h3
      repeat' split at h3
      all_goals omega
    have : doesN σ 0 = 1 := by
      rw [doesN_0]
      exact if_pos hd
    omega
  exact ⟨h4, by omega, h2⟩
end
