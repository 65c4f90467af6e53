section
-- ===== PART A: goes FIRST, ahead of the names: the tables' words, and 'selects' of the private methods out of them =====
/-- a private method of a class that the tables say can be made, by its rows of tables_1 -/
def lw_okq (q : MethodName × Nat) : Prop := (q.1.cls ≠ "java/lang/invoke/MethodHandle" ∧ q.1.cls ≠ "java/lang/invoke/VarHandle") ∧ Cond.instantiable q.1.cls q.2 ∈ tables_1 ∧ Cond.privateMethod q.1 ∈ tables_1 ∧ Cond.instanceMethod q.1 ∈ tables_1
theorem lw_p0 : lw_okq (⟨"TwoScribes$PageText", "readHalf", "()V"⟩, 7) := ⟨⟨by decide +kernel, by decide +kernel⟩, List.mem_of_getElem? (i := 175) (by decide +kernel), List.mem_of_getElem? (i := 237) (by decide +kernel), List.mem_of_getElem? (i := 238) (by decide +kernel)⟩
theorem lw_p1 : lw_okq (⟨"TwoScribes$PageText", "letterAtCursor", "()I"⟩, 7) := ⟨⟨by decide +kernel, by decide +kernel⟩, List.mem_of_getElem? (i := 175) (by decide +kernel), List.mem_of_getElem? (i := 244) (by decide +kernel), List.mem_of_getElem? (i := 245) (by decide +kernel)⟩
theorem lw_p2 : lw_okq (⟨"TwoScribes$PageText", "isAtCharacter", "()Z"⟩, 7) := ⟨⟨by decide +kernel, by decide +kernel⟩, List.mem_of_getElem? (i := 175) (by decide +kernel), List.mem_of_getElem? (i := 248) (by decide +kernel), List.mem_of_getElem? (i := 249) (by decide +kernel)⟩
theorem lw_p3 : lw_okq (⟨"TwoScribes$PageText", "skip", "(C)Z"⟩, 7) := ⟨⟨by decide +kernel, by decide +kernel⟩, List.mem_of_getElem? (i := 175) (by decide +kernel), List.mem_of_getElem? (i := 255) (by decide +kernel), List.mem_of_getElem? (i := 256) (by decide +kernel)⟩
theorem lw_p4 : lw_okq (⟨"TwoScribes$PageText", "readMisreading", "()Z"⟩, 7) := ⟨⟨by decide +kernel, by decide +kernel⟩, List.mem_of_getElem? (i := 175) (by decide +kernel), List.mem_of_getElem? (i := 259) (by decide +kernel), List.mem_of_getElem? (i := 260) (by decide +kernel)⟩
theorem lw_p5 : lw_okq (⟨"TwoScribes$PageText", "digitAtCursor", "()I"⟩, 7) := ⟨⟨by decide +kernel, by decide +kernel⟩, List.mem_of_getElem? (i := 175) (by decide +kernel), List.mem_of_getElem? (i := 263) (by decide +kernel), List.mem_of_getElem? (i := 264) (by decide +kernel)⟩
theorem lw_p6 : lw_okq (⟨"TwoScribes$History", "stateAt", "(I)LTwoScribes$State;"⟩, 3) := ⟨⟨by decide +kernel, by decide +kernel⟩, List.mem_of_getElem? (i := 155) (by decide +kernel), List.mem_of_getElem? (i := 274) (by decide +kernel), List.mem_of_getElem? (i := 275) (by decide +kernel)⟩
theorem lw_p7 : lw_okq (⟨"TwoScribes$State", "spendTick", "(I)V"⟩, 11) := ⟨⟨by decide +kernel, by decide +kernel⟩, List.mem_of_getElem? (i := 19) (by decide +kernel), List.mem_of_getElem? (i := 422) (by decide +kernel), List.mem_of_getElem? (i := 423) (by decide +kernel)⟩
theorem lw_p8 : lw_okq (⟨"TwoScribes$State", "goOnDipping", "(LTwoScribes$Scribe;)V"⟩, 11) := ⟨⟨by decide +kernel, by decide +kernel⟩, List.mem_of_getElem? (i := 19) (by decide +kernel), List.mem_of_getElem? (i := 431) (by decide +kernel), List.mem_of_getElem? (i := 432) (by decide +kernel)⟩
theorem lw_p9 : lw_okq (⟨"TwoScribesModel", "fault", "()I"⟩, 13) := ⟨⟨by decide +kernel, by decide +kernel⟩, List.mem_of_getElem? (i := 539) (by decide +kernel), List.mem_of_getElem? (i := 589) (by decide +kernel), List.mem_of_getElem? (i := 590) (by decide +kernel)⟩
theorem lw_p10 : lw_okq (⟨"TwoScribesModel", "isHere", "(II)Z"⟩, 13) := ⟨⟨by decide +kernel, by decide +kernel⟩, List.mem_of_getElem? (i := 539) (by decide +kernel), List.mem_of_getElem? (i := 593) (by decide +kernel), List.mem_of_getElem? (i := 594) (by decide +kernel)⟩
theorem lw_p11 : lw_okq (⟨"TwoScribesModel", "takesOne", "(I)Z"⟩, 13) := ⟨⟨by decide +kernel, by decide +kernel⟩, List.mem_of_getElem? (i := 539) (by decide +kernel), List.mem_of_getElem? (i := 600) (by decide +kernel), List.mem_of_getElem? (i := 601) (by decide +kernel)⟩
theorem lw_p12 : lw_okq (⟨"TwoScribesModel", "readsMisreading", "()Z"⟩, 13) := ⟨⟨by decide +kernel, by decide +kernel⟩, List.mem_of_getElem? (i := 539) (by decide +kernel), List.mem_of_getElem? (i := 604) (by decide +kernel), List.mem_of_getElem? (i := 605) (by decide +kernel)⟩
theorem lw_p13 : lw_okq (⟨"TwoScribesModel", "keeps", "()V"⟩, 13) := ⟨⟨by decide +kernel, by decide +kernel⟩, List.mem_of_getElem? (i := 539) (by decide +kernel), List.mem_of_getElem? (i := 608) (by decide +kernel), List.mem_of_getElem? (i := 609) (by decide +kernel)⟩
theorem lw_p14 : lw_okq (⟨"TwoScribesModel", "ends", "(I)I"⟩, 13) := ⟨⟨by decide +kernel, by decide +kernel⟩, List.mem_of_getElem? (i := 539) (by decide +kernel), List.mem_of_getElem? (i := 612) (by decide +kernel), List.mem_of_getElem? (i := 613) (by decide +kernel)⟩
theorem lw_p15 : lw_okq (⟨"TwoScribesModel", "isPlace", "(I)Z"⟩, 13) := ⟨⟨by decide +kernel, by decide +kernel⟩, List.mem_of_getElem? (i := 539) (by decide +kernel), List.mem_of_getElem? (i := 620) (by decide +kernel), List.mem_of_getElem? (i := 621) (by decide +kernel)⟩
def lw_privs_1 : List (MethodName × Nat) := [(⟨"TwoScribes$PageText", "readHalf", "()V"⟩, 7), (⟨"TwoScribes$PageText", "letterAtCursor", "()I"⟩, 7), (⟨"TwoScribes$PageText", "isAtCharacter", "()Z"⟩, 7), (⟨"TwoScribes$PageText", "skip", "(C)Z"⟩, 7), (⟨"TwoScribes$PageText", "readMisreading", "()Z"⟩, 7), (⟨"TwoScribes$PageText", "digitAtCursor", "()I"⟩, 7), (⟨"TwoScribes$History", "stateAt", "(I)LTwoScribes$State;"⟩, 3), (⟨"TwoScribes$State", "spendTick", "(I)V"⟩, 11), (⟨"TwoScribes$State", "goOnDipping", "(LTwoScribes$Scribe;)V"⟩, 11), (⟨"TwoScribesModel", "fault", "()I"⟩, 13), (⟨"TwoScribesModel", "isHere", "(II)Z"⟩, 13), (⟨"TwoScribesModel", "takesOne", "(I)Z"⟩, 13), (⟨"TwoScribesModel", "readsMisreading", "()Z"⟩, 13), (⟨"TwoScribesModel", "keeps", "()V"⟩, 13), (⟨"TwoScribesModel", "ends", "(I)I"⟩, 13), (⟨"TwoScribesModel", "isPlace", "(I)Z"⟩, 13)]
theorem lw_r1 : ∀ q ∈ lw_privs_1, lw_okq q := List.forall_mem_cons.mpr ⟨lw_p0, List.forall_mem_cons.mpr ⟨lw_p1, List.forall_mem_cons.mpr ⟨lw_p2, List.forall_mem_cons.mpr ⟨lw_p3, List.forall_mem_cons.mpr ⟨lw_p4, List.forall_mem_cons.mpr ⟨lw_p5, List.forall_mem_cons.mpr ⟨lw_p6, List.forall_mem_cons.mpr ⟨lw_p7, List.forall_mem_cons.mpr ⟨lw_p8, List.forall_mem_cons.mpr ⟨lw_p9, List.forall_mem_cons.mpr ⟨lw_p10, List.forall_mem_cons.mpr ⟨lw_p11, List.forall_mem_cons.mpr ⟨lw_p12, List.forall_mem_cons.mpr ⟨lw_p13, List.forall_mem_cons.mpr ⟨lw_p14, List.forall_mem_cons.mpr ⟨lw_p15, fun _ h => absurd h List.not_mem_nil⟩⟩⟩⟩⟩⟩⟩⟩⟩⟩⟩⟩⟩⟩⟩⟩
theorem lw_p16 : lw_okq (⟨"TwoScribesModel", "isBegun", "(I)Z"⟩, 13) := ⟨⟨by decide +kernel, by decide +kernel⟩, List.mem_of_getElem? (i := 539) (by decide +kernel), List.mem_of_getElem? (i := 625) (by decide +kernel), List.mem_of_getElem? (i := 626) (by decide +kernel)⟩
theorem lw_p17 : lw_okq (⟨"TwoScribesModel", "nextPlace", "(I)I"⟩, 13) := ⟨⟨by decide +kernel, by decide +kernel⟩, List.mem_of_getElem? (i := 539) (by decide +kernel), List.mem_of_getElem? (i := 629) (by decide +kernel), List.mem_of_getElem? (i := 630) (by decide +kernel)⟩
theorem lw_p18 : lw_okq (⟨"TwoScribesModel", "letterAt", "(I)I"⟩, 13) := ⟨⟨by decide +kernel, by decide +kernel⟩, List.mem_of_getElem? (i := 539) (by decide +kernel), List.mem_of_getElem? (i := 633) (by decide +kernel), List.mem_of_getElem? (i := 634) (by decide +kernel)⟩
theorem lw_p19 : lw_okq (⟨"TwoScribesModel", "due", "(I)I"⟩, 13) := ⟨⟨by decide +kernel, by decide +kernel⟩, List.mem_of_getElem? (i := 539) (by decide +kernel), List.mem_of_getElem? (i := 637) (by decide +kernel), List.mem_of_getElem? (i := 638) (by decide +kernel)⟩
theorem lw_p20 : lw_okq (⟨"TwoScribesModel", "marginLeft", "()I"⟩, 13) := ⟨⟨by decide +kernel, by decide +kernel⟩, List.mem_of_getElem? (i := 539) (by decide +kernel), List.mem_of_getElem? (i := 645) (by decide +kernel), List.mem_of_getElem? (i := 646) (by decide +kernel)⟩
theorem lw_p21 : lw_okq (⟨"TwoScribesModel", "ticks", "()V"⟩, 13) := ⟨⟨by decide +kernel, by decide +kernel⟩, List.mem_of_getElem? (i := 539) (by decide +kernel), List.mem_of_getElem? (i := 675) (by decide +kernel), List.mem_of_getElem? (i := 676) (by decide +kernel)⟩
theorem lw_p22 : lw_okq (⟨"TwoScribesModel", "goes", "(I)V"⟩, 13) := ⟨⟨by decide +kernel, by decide +kernel⟩, List.mem_of_getElem? (i := 539) (by decide +kernel), List.mem_of_getElem? (i := 679) (by decide +kernel), List.mem_of_getElem? (i := 680) (by decide +kernel)⟩
theorem lw_p23 : lw_okq (⟨"TwoScribesModel", "does", "(I)I"⟩, 13) := ⟨⟨by decide +kernel, by decide +kernel⟩, List.mem_of_getElem? (i := 539) (by decide +kernel), List.mem_of_getElem? (i := 683) (by decide +kernel), List.mem_of_getElem? (i := 684) (by decide +kernel)⟩
theorem lw_p24 : lw_okq (⟨"TwoScribesModel", "writes", "(I)V"⟩, 13) := ⟨⟨by decide +kernel, by decide +kernel⟩, List.mem_of_getElem? (i := 539) (by decide +kernel), List.mem_of_getElem? (i := 687) (by decide +kernel), List.mem_of_getElem? (i := 688) (by decide +kernel)⟩
theorem lw_p25 : lw_okq (⟨"TwoScribesModel", "dips", "(I)V"⟩, 13) := ⟨⟨by decide +kernel, by decide +kernel⟩, List.mem_of_getElem? (i := 539) (by decide +kernel), List.mem_of_getElem? (i := 691) (by decide +kernel), List.mem_of_getElem? (i := 692) (by decide +kernel)⟩
theorem lw_p26 : lw_okq (⟨"TwoScribesModel", "tries", "()V"⟩, 13) := ⟨⟨by decide +kernel, by decide +kernel⟩, List.mem_of_getElem? (i := 539) (by decide +kernel), List.mem_of_getElem? (i := 734) (by decide +kernel), List.mem_of_getElem? (i := 735) (by decide +kernel)⟩
theorem lw_p27 : lw_okq (⟨"TwoScribesModel", "comesBack", "()V"⟩, 13) := ⟨⟨by decide +kernel, by decide +kernel⟩, List.mem_of_getElem? (i := 539) (by decide +kernel), List.mem_of_getElem? (i := 738) (by decide +kernel), List.mem_of_getElem? (i := 739) (by decide +kernel)⟩
theorem lw_p28 : lw_okq (⟨"TwoScribesModel", "doneBehind", "()I"⟩, 13) := ⟨⟨by decide +kernel, by decide +kernel⟩, List.mem_of_getElem? (i := 539) (by decide +kernel), List.mem_of_getElem? (i := 746) (by decide +kernel), List.mem_of_getElem? (i := 747) (by decide +kernel)⟩
theorem lw_p29 : lw_okq (⟨"TwoScribesModel", "isDone", "()Z"⟩, 13) := ⟨⟨by decide +kernel, by decide +kernel⟩, List.mem_of_getElem? (i := 539) (by decide +kernel), List.mem_of_getElem? (i := 750) (by decide +kernel), List.mem_of_getElem? (i := 751) (by decide +kernel)⟩
theorem lw_p30 : lw_okq (⟨"TwoScribesModel", "places", "(I)I"⟩, 13) := ⟨⟨by decide +kernel, by decide +kernel⟩, List.mem_of_getElem? (i := 539) (by decide +kernel), List.mem_of_getElem? (i := 774) (by decide +kernel), List.mem_of_getElem? (i := 775) (by decide +kernel)⟩
def lw_privs_2 : List (MethodName × Nat) := [(⟨"TwoScribesModel", "isBegun", "(I)Z"⟩, 13), (⟨"TwoScribesModel", "nextPlace", "(I)I"⟩, 13), (⟨"TwoScribesModel", "letterAt", "(I)I"⟩, 13), (⟨"TwoScribesModel", "due", "(I)I"⟩, 13), (⟨"TwoScribesModel", "marginLeft", "()I"⟩, 13), (⟨"TwoScribesModel", "ticks", "()V"⟩, 13), (⟨"TwoScribesModel", "goes", "(I)V"⟩, 13), (⟨"TwoScribesModel", "does", "(I)I"⟩, 13), (⟨"TwoScribesModel", "writes", "(I)V"⟩, 13), (⟨"TwoScribesModel", "dips", "(I)V"⟩, 13), (⟨"TwoScribesModel", "tries", "()V"⟩, 13), (⟨"TwoScribesModel", "comesBack", "()V"⟩, 13), (⟨"TwoScribesModel", "doneBehind", "()I"⟩, 13), (⟨"TwoScribesModel", "isDone", "()Z"⟩, 13), (⟨"TwoScribesModel", "places", "(I)I"⟩, 13)]
theorem lw_r2 : ∀ q ∈ lw_privs_2, lw_okq q := List.forall_mem_cons.mpr ⟨lw_p16, List.forall_mem_cons.mpr ⟨lw_p17, List.forall_mem_cons.mpr ⟨lw_p18, List.forall_mem_cons.mpr ⟨lw_p19, List.forall_mem_cons.mpr ⟨lw_p20, List.forall_mem_cons.mpr ⟨lw_p21, List.forall_mem_cons.mpr ⟨lw_p22, List.forall_mem_cons.mpr ⟨lw_p23, List.forall_mem_cons.mpr ⟨lw_p24, List.forall_mem_cons.mpr ⟨lw_p25, List.forall_mem_cons.mpr ⟨lw_p26, List.forall_mem_cons.mpr ⟨lw_p27, List.forall_mem_cons.mpr ⟨lw_p28, List.forall_mem_cons.mpr ⟨lw_p29, List.forall_mem_cons.mpr ⟨lw_p30, fun _ h => absurd h List.not_mem_nil⟩⟩⟩⟩⟩⟩⟩⟩⟩⟩⟩⟩⟩⟩⟩
def lw_privs : List (MethodName × Nat) := lw_privs_1 ++ (lw_privs_2)
def lw_tbl : List Cond := k2_sels lw_privs ++ tables_1
theorem lw_privs_ok : ∀ q ∈ lw_privs, lw_okq q := by
  show ∀ q ∈ lw_privs_1 ++ (lw_privs_2), lw_okq q
  exact List.forall_mem_append.mpr ⟨lw_r1, lw_r2⟩
/-- the streams that the claim lets the run draw from -/
abbrev lw_cs : List Choice := [Jvm.Choice.named "NaN.bits"]
theorem lw_bits : nanBits ∈ lw_cs := by first | decide | exact List.mem_cons_self | simp [lw_cs, nanBits]
-- ===== end of PART A; then your names; then what follows =====
end
section
def RX0 : String := "TwoScribes$History"
def TX0 : u_T := fun k => match k with
  | 0 => ("TwoScribes$History", "states", "[LTwoScribes$State;", true)
  | 1 => ("TwoScribes$History", "first", "I", false)
  | _ => ("TwoScribes$History", "size", "I", false)
def tyX0 : Nat → FieldType := fun k => match k with
  | 0 => .array (.object "TwoScribes$State")
  | 1 => .int
  | _ => .int
abbrev wsX00 : List Cond := u_ws RX0 TX0 3
theorem nmX0 : ∀ a, a < 3 → ∀ b, b < 3 → a ≠ b → (TX0 a).2.1 ≠ (TX0 b).2.1 := by decide +kernel
theorem tyX0_ok : ∀ k, k < 3 → parseFieldDescriptor (TX0 k).2.2.1 = some (tyX0 k) := by decide +kernel
abbrev cX0_init : ByteArray := prog_2_method_1_code
def yX0_init : MethodName := ⟨RX0, "<init>", "()V"⟩
abbrev cX0_record : ByteArray := prog_2_method_2_code
def yX0_record : MethodName := ⟨RX0, "record", "(LTwoScribes$State;)V"⟩
abbrev cX0_takeBack : ByteArray := prog_2_method_3_code
def yX0_takeBack : MethodName := ⟨RX0, "takeBack", "(LTwoScribes$State;)Z"⟩
abbrev cX0_stateAt : ByteArray := prog_2_method_4_code
def yX0_stateAt : MethodName := ⟨RX0, "stateAt", "(I)LTwoScribes$State;"⟩
def RX1 : String := "TwoScribes$Page"
def TX1 : u_T := fun k => match k with
  | 0 => ("TwoScribes$Page", "due", "[I", true)
  | 1 => ("TwoScribes$Page", "told", "[I", true)
  | 2 => ("TwoScribes$Page", "written", "[I", true)
  | 3 => ("TwoScribes$Page", "writtenIn", "[I", true)
  | 4 => ("TwoScribes$Page", "blots", "[I", true)
  | 5 => ("TwoScribes$Page", "corrected", "[I", true)
  | 6 => ("TwoScribes$Page", "places", "I", false)
  | _ => ("TwoScribes$Page", "corrections", "I", false)
def tyX1 : Nat → FieldType := fun k => match k with
  | 0 => .array .int
  | 1 => .array .int
  | 2 => .array .int
  | 3 => .array .int
  | 4 => .array .int
  | 5 => .array .int
  | 6 => .int
  | _ => .int
abbrev wsX10 : List Cond := u_ws RX1 TX1 8
theorem nmX1 : ∀ a, a < 8 → ∀ b, b < 8 → a ≠ b → (TX1 a).2.1 ≠ (TX1 b).2.1 := by decide +kernel
theorem tyX1_ok : ∀ k, k < 8 → parseFieldDescriptor (TX1 k).2.2.1 = some (tyX1 k) := by decide +kernel
abbrev cX1_init : ByteArray := prog_3_method_1_code
def yX1_init : MethodName := ⟨RX1, "<init>", "()V"⟩
abbrev cX1_copyFrom : ByteArray := prog_3_method_2_code
def yX1_copyFrom : MethodName := ⟨RX1, "copyFrom", "(LTwoScribes$Page;)V"⟩
abbrev cX1_begin : ByteArray := prog_3_method_3_code
def yX1_begin : MethodName := ⟨RX1, "begin", "(LTwoScribes$PageText;)V"⟩
abbrev cX1_has : ByteArray := prog_3_method_4_code
def yX1_has : MethodName := ⟨RX1, "has", "(I)Z"⟩
abbrev cX1_mirrorOf : ByteArray := prog_3_method_5_code
def yX1_mirrorOf : MethodName := ⟨RX1, "mirrorOf", "(I)I"⟩
abbrev cX1_letterFor : ByteArray := prog_3_method_6_code
def yX1_letterFor : MethodName := ⟨RX1, "letterFor", "(I)I"⟩
abbrev cX1_isWritten : ByteArray := prog_3_method_7_code
def yX1_isWritten : MethodName := ⟨RX1, "isWritten", "(I)Z"⟩
abbrev cX1_isFaultless : ByteArray := prog_3_method_8_code
def yX1_isFaultless : MethodName := ⟨RX1, "isFaultless", "(I)Z"⟩
abbrev cX1_areUnlike : ByteArray := prog_3_method_9_code
def yX1_areUnlike : MethodName := ⟨RX1, "areUnlike", "(II)Z"⟩
abbrev cX1_write : ByteArray := prog_3_method_10_code
def yX1_write : MethodName := ⟨RX1, "write", "(IIZI)V"⟩
abbrev cX1_amend : ByteArray := prog_3_method_11_code
def yX1_amend : MethodName := ⟨RX1, "amend", "(I)V"⟩
abbrev cX1_countBlots : ByteArray := prog_3_method_12_code
def yX1_countBlots : MethodName := ⟨RX1, "countBlots", "()I"⟩
abbrev cX1_countNotDue : ByteArray := prog_3_method_13_code
def yX1_countNotDue : MethodName := ⟨RX1, "countNotDue", "()I"⟩
def RX2 : String := "TwoScribes$PageText"
def TX2 : u_T := fun k => match k with
  | 0 => ("TwoScribes$PageText", "characters", "[C", true)
  | 1 => ("TwoScribes$PageText", "letters", "[I", true)
  | 2 => ("TwoScribes$PageText", "misreadings", "[I", true)
  | 3 => ("TwoScribes$PageText", "length", "I", false)
  | 4 => ("TwoScribes$PageText", "half", "I", false)
  | 5 => ("TwoScribes$PageText", "farthest", "I", false)
  | _ => ("TwoScribes$PageText", "cursor", "I", false)
def tyX2 : Nat → FieldType := fun k => match k with
  | 0 => .array .char
  | 1 => .array .int
  | 2 => .array .int
  | 3 => .int
  | 4 => .int
  | 5 => .int
  | _ => .int
abbrev wsX20 : List Cond := u_ws RX2 TX2 7
theorem nmX2 : ∀ a, a < 7 → ∀ b, b < 7 → a ≠ b → (TX2 a).2.1 ≠ (TX2 b).2.1 := by decide +kernel
theorem tyX2_ok : ∀ k, k < 7 → parseFieldDescriptor (TX2 k).2.2.1 = some (tyX2 k) := by decide +kernel
abbrev cX2_init : ByteArray := prog_4_method_1_code
def yX2_init : MethodName := ⟨RX2, "<init>", "()V"⟩
abbrev cX2_append : ByteArray := prog_4_method_2_code
def yX2_append : MethodName := ⟨RX2, "append", "(C)Z"⟩
abbrev cX2_findFault : ByteArray := prog_4_method_3_code
def yX2_findFault : MethodName := ⟨RX2, "findFault", "()I"⟩
abbrev cX2_readHalf : ByteArray := prog_4_method_4_code
def yX2_readHalf : MethodName := ⟨RX2, "readHalf", "()V"⟩
abbrev cX2_readMisreading : ByteArray := prog_4_method_5_code
def yX2_readMisreading : MethodName := ⟨RX2, "readMisreading", "()Z"⟩
abbrev cX2_skip : ByteArray := prog_4_method_6_code
def yX2_skip : MethodName := ⟨RX2, "skip", "(C)Z"⟩
abbrev cX2_letterAtCursor : ByteArray := prog_4_method_7_code
def yX2_letterAtCursor : MethodName := ⟨RX2, "letterAtCursor", "()I"⟩
abbrev cX2_digitAtCursor : ByteArray := prog_4_method_8_code
def yX2_digitAtCursor : MethodName := ⟨RX2, "digitAtCursor", "()I"⟩
abbrev cX2_isAtCharacter : ByteArray := prog_4_method_9_code
def yX2_isAtCharacter : MethodName := ⟨RX2, "isAtCharacter", "()Z"⟩
def RX3 : String := "TwoScribes$Scribe"
def TX3 : u_T := fun k => match k with
  | 0 => ("TwoScribes$Scribe", "pace", "I", false)
  | 1 => ("TwoScribes$Scribe", "letters", "I", false)
  | 2 => ("TwoScribes$Scribe", "spent", "I", false)
  | 3 => ("TwoScribes$Scribe", "dipLeft", "I", false)
  | 4 => ("TwoScribes$Scribe", "dips", "I", false)
  | 5 => ("TwoScribes$Scribe", "waits", "I", false)
  | _ => ("TwoScribes$Scribe", "pen", "F", false)
def tyX3 : Nat → FieldType := fun k => match k with
  | 0 => .int
  | 1 => .int
  | 2 => .int
  | 3 => .int
  | 4 => .int
  | 5 => .int
  | _ => .float
abbrev wsX30 : List Cond := u_ws RX3 TX3 7
theorem nmX3 : ∀ a, a < 7 → ∀ b, b < 7 → a ≠ b → (TX3 a).2.1 ≠ (TX3 b).2.1 := by decide +kernel
theorem tyX3_ok : ∀ k, k < 7 → parseFieldDescriptor (TX3 k).2.2.1 = some (tyX3 k) := by decide +kernel
abbrev cX3_init : ByteArray := prog_5_method_1_code
def yX3_init : MethodName := ⟨RX3, "<init>", "()V"⟩
abbrev cX3_copyFrom : ByteArray := prog_5_method_2_code
def yX3_copyFrom : MethodName := ⟨RX3, "copyFrom", "(LTwoScribes$Scribe;)V"⟩
abbrev cX3_beginPage : ByteArray := prog_5_method_3_code
def yX3_beginPage : MethodName := ⟨RX3, "beginPage", "()V"⟩
def RX4 : String := "TwoScribes$State"
def TX4 : u_T := fun k => match k with
  | 0 => ("TwoScribes$State", "page", "LTwoScribes$Page;", true)
  | 1 => ("TwoScribes$State", "left", "LTwoScribes$Scribe;", true)
  | 2 => ("TwoScribes$State", "right", "LTwoScribes$Scribe;", true)
  | 3 => ("TwoScribes$State", "settings", "[I", true)
  | 4 => ("TwoScribes$State", "well", "F", false)
  | 5 => ("TwoScribes$State", "letterInk", "F", false)
  | 6 => ("TwoScribes$State", "correctionInk", "F", false)
  | 7 => ("TwoScribes$State", "tick", "I", false)
  | 8 => ("TwoScribes$State", "pages", "I", false)
  | 9 => ("TwoScribes$State", "letters", "I", false)
  | _ => ("TwoScribes$State", "poured", "I", false)
def tyX4 : Nat → FieldType := fun k => match k with
  | 0 => .object "TwoScribes$Page"
  | 1 => .object "TwoScribes$Scribe"
  | 2 => .object "TwoScribes$Scribe"
  | 3 => .array .int
  | 4 => .float
  | 5 => .float
  | 6 => .float
  | 7 => .int
  | 8 => .int
  | 9 => .int
  | _ => .int
abbrev wsX40 : List Cond := u_ws RX4 TX4 11
theorem nmX4 : ∀ a, a < 11 → ∀ b, b < 11 → a ≠ b → (TX4 a).2.1 ≠ (TX4 b).2.1 := by decide +kernel
theorem tyX4_ok : ∀ k, k < 11 → parseFieldDescriptor (TX4 k).2.2.1 = some (tyX4 k) := by decide +kernel
abbrev cX4_init : ByteArray := prog_6_method_1_code
def yX4_init : MethodName := ⟨RX4, "<init>", "()V"⟩
abbrev cX4_copyFrom : ByteArray := prog_6_method_2_code
def yX4_copyFrom : MethodName := ⟨RX4, "copyFrom", "(LTwoScribes$State;)V"⟩
abbrev cX4_scribeOf : ByteArray := prog_6_method_3_code
def yX4_scribeOf : MethodName := ⟨RX4, "scribeOf", "(I)LTwoScribes$Scribe;"⟩
abbrev cX4_beginPage : ByteArray := prog_6_method_4_code
def yX4_beginPage : MethodName := ⟨RX4, "beginPage", "(LTwoScribes$PageText;)V"⟩
abbrev cX4_lettersOnPage : ByteArray := prog_6_method_5_code
def yX4_lettersOnPage : MethodName := ⟨RX4, "lettersOnPage", "()I"⟩
abbrev cX4_isDone : ByteArray := prog_6_method_6_code
def yX4_isDone : MethodName := ⟨RX4, "isDone", "()Z"⟩
abbrev cX4_nextPlaceOf : ByteArray := prog_6_method_7_code
def yX4_nextPlaceOf : MethodName := ⟨RX4, "nextPlaceOf", "(I)I"⟩
abbrev cX4_isBegun : ByteArray := prog_6_method_8_code
def yX4_isBegun : MethodName := ⟨RX4, "isBegun", "(I)Z"⟩
abbrev cX4_correctionsLeft : ByteArray := prog_6_method_9_code
def yX4_correctionsLeft : MethodName := ⟨RX4, "correctionsLeft", "()I"⟩
abbrev cX4_canCorrect : ByteArray := prog_6_method_10_code
def yX4_canCorrect : MethodName := ⟨RX4, "canCorrect", "(I)Z"⟩
abbrev cX4_makeCorrection : ByteArray := prog_6_method_11_code
def yX4_makeCorrection : MethodName := ⟨RX4, "makeCorrection", "(I)V"⟩
abbrev cX4_deedOf : ByteArray := prog_6_method_12_code
def yX4_deedOf : MethodName := ⟨RX4, "deedOf", "(I)I"⟩
abbrev cX4_takeTurn : ByteArray := prog_6_method_13_code
def yX4_takeTurn : MethodName := ⟨RX4, "takeTurn", "(I)I"⟩
abbrev cX4_goOnDipping : ByteArray := prog_6_method_14_code
def yX4_goOnDipping : MethodName := ⟨RX4, "goOnDipping", "(LTwoScribes$Scribe;)V"⟩
abbrev cX4_spendTick : ByteArray := prog_6_method_15_code
def yX4_spendTick : MethodName := ⟨RX4, "spendTick", "(I)V"⟩
abbrev cX4_passTick : ByteArray := prog_6_method_16_code
def yX4_passTick : MethodName := ⟨RX4, "passTick", "()Z"⟩
abbrev cX4_runUntilDone : ByteArray := prog_6_method_17_code
def yX4_runUntilDone : MethodName := ⟨RX4, "runUntilDone", "()I"⟩
def RX5 : String := "TwoScribes"
def TX5 : u_T := fun k => match k with
  | 0 => ("TwoScribes", "now", "LTwoScribes$State;", true)
  | 1 => ("TwoScribes", "trial", "LTwoScribes$State;", true)
  | 2 => ("TwoScribes", "snapshot", "LTwoScribes$State;", true)
  | 3 => ("TwoScribes", "history", "LTwoScribes$History;", true)
  | 4 => ("TwoScribes", "text", "LTwoScribes$PageText;", true)
  | _ => ("TwoScribes", "hasSnapshot", "Z", false)
def tyX5 : Nat → FieldType := fun k => match k with
  | 0 => .object "TwoScribes$State"
  | 1 => .object "TwoScribes$State"
  | 2 => .object "TwoScribes$State"
  | 3 => .object "TwoScribes$History"
  | 4 => .object "TwoScribes$PageText"
  | _ => .boolean
abbrev wsX50 : List Cond := u_ws RX5 TX5 6
theorem nmX5 : ∀ a, a < 6 → ∀ b, b < 6 → a ≠ b → (TX5 a).2.1 ≠ (TX5 b).2.1 := by decide +kernel
theorem tyX5_ok : ∀ k, k < 6 → parseFieldDescriptor (TX5 k).2.2.1 = some (tyX5 k) := by decide +kernel
abbrev cX5_init : ByteArray := prog_1_method_1_code
def yX5_init : MethodName := ⟨RX5, "<init>", "()V"⟩
abbrev cX5_readPage : ByteArray := prog_1_method_2_code
def yX5_readPage : MethodName := ⟨RX5, "readPage", "()I"⟩
abbrev cX5_misread : ByteArray := prog_1_method_3_code
def yX5_misread : MethodName := ⟨RX5, "misread", "(II)I"⟩
abbrev cX5_correct : ByteArray := prog_1_method_4_code
def yX5_correct : MethodName := ⟨RX5, "correct", "(I)I"⟩
abbrev cX5_setPace : ByteArray := prog_1_method_5_code
def yX5_setPace : MethodName := ⟨RX5, "setPace", "(II)I"⟩
abbrev cX5_pour : ByteArray := prog_1_method_6_code
def yX5_pour : MethodName := ⟨RX5, "pour", "(I)I"⟩
abbrev cX5_set : ByteArray := prog_1_method_7_code
def yX5_set : MethodName := ⟨RX5, "set", "(II)I"⟩
abbrev cX5_pass : ByteArray := prog_1_method_8_code
def yX5_pass : MethodName := ⟨RX5, "pass", "(I)I"⟩
abbrev cX5_type : ByteArray := prog_1_method_9_code
def yX5_type : MethodName := ⟨RX5, "type", "(C)I"⟩
abbrev cX5_clearText : ByteArray := prog_1_method_10_code
def yX5_clearText : MethodName := ⟨RX5, "clearText", "()I"⟩
abbrev cX5_undo : ByteArray := prog_1_method_11_code
def yX5_undo : MethodName := ⟨RX5, "undo", "()I"⟩
abbrev cX5_keep : ByteArray := prog_1_method_12_code
def yX5_keep : MethodName := ⟨RX5, "keep", "()I"⟩
abbrev cX5_restore : ByteArray := prog_1_method_13_code
def yX5_restore : MethodName := ⟨RX5, "restore", "()I"⟩
abbrev cX5_place : ByteArray := prog_1_method_14_code
def yX5_place : MethodName := ⟨RX5, "place", "(II)I"⟩
abbrev cX5_scribe : ByteArray := prog_1_method_15_code
def yX5_scribe : MethodName := ⟨RX5, "scribe", "(II)I"⟩
abbrev cX5_ink : ByteArray := prog_1_method_16_code
def yX5_ink : MethodName := ⟨RX5, "ink", "(I)D"⟩
abbrev cX5_next : ByteArray := prog_1_method_17_code
def yX5_next : MethodName := ⟨RX5, "next", "(I)I"⟩
abbrev cX5_doneIn : ByteArray := prog_1_method_18_code
def yX5_doneIn : MethodName := ⟨RX5, "doneIn", "()I"⟩
abbrev cX5_unlikePairs : ByteArray := prog_1_method_19_code
def yX5_unlikePairs : MethodName := ⟨RX5, "unlikePairs", "()I"⟩
abbrev cX5_unlikeReadings : ByteArray := prog_1_method_20_code
def yX5_unlikeReadings : MethodName := ⟨RX5, "unlikeReadings", "()I"⟩
abbrev cX5_needed : ByteArray := prog_1_method_21_code
def yX5_needed : MethodName := ⟨RX5, "needed", "()D"⟩
abbrev cX5_bestPace : ByteArray := prog_1_method_22_code
def yX5_bestPace : MethodName := ⟨RX5, "bestPace", "(I)I"⟩
abbrev cX5_count : ByteArray := prog_1_method_23_code
def yX5_count : MethodName := ⟨RX5, "count", "(I)I"⟩
abbrev cX5_isScribe : ByteArray := prog_1_method_24_code
def yX5_isScribe : MethodName := ⟨RX5, "isScribe", "(I)Z"⟩
abbrev cX5_inkFor : ByteArray := prog_1_method_25_code
def yX5_inkFor : MethodName := ⟨RX5, "inkFor", "(I)F"⟩
abbrev cX5_at : ByteArray := prog_1_method_26_code
def yX5_at : MethodName := ⟨RX5, "at", "([II)I"⟩
abbrev cX5_put : ByteArray := prog_1_method_27_code
def yX5_put : MethodName := ⟨RX5, "put", "([III)V"⟩
abbrev cX5_clearRow : ByteArray := prog_1_method_28_code
def yX5_clearRow : MethodName := ⟨RX5, "clearRow", "([I)V"⟩
abbrev cX5_copyRow : ByteArray := prog_1_method_29_code
def yX5_copyRow : MethodName := ⟨RX5, "copyRow", "([I[I)V"⟩
def RX6 : String := "TwoScribesModel"
def TX6 : u_T := fun k => match k with
  | 0 => ("TwoScribesModel", "all", "[I", true)
  | 1 => ("TwoScribesModel", "kept", "[I", true)
  | 2 => ("TwoScribesModel", "tried", "[I", true)
  | 3 => ("TwoScribesModel", "history", "[I", true)
  | 4 => ("TwoScribesModel", "historyLong", "I", false)
  | 5 => ("TwoScribesModel", "snapshot", "[I", true)
  | 6 => ("TwoScribesModel", "isKept", "I", false)
  | 7 => ("TwoScribesModel", "draft", "[I", true)
  | 8 => ("TwoScribesModel", "text", "[I", true)
  | 9 => ("TwoScribesModel", "textLong", "I", false)
  | 10 => ("TwoScribesModel", "spot", "I", false)
  | 11 => ("TwoScribesModel", "read", "I", false)
  | _ => ("TwoScribesModel", "greatest", "I", false)
def tyX6 : Nat → FieldType := fun k => match k with
  | 0 => .array .int
  | 1 => .array .int
  | 2 => .array .int
  | 3 => .array .int
  | 4 => .int
  | 5 => .array .int
  | 6 => .int
  | 7 => .array .int
  | 8 => .array .int
  | 9 => .int
  | 10 => .int
  | 11 => .int
  | _ => .int
abbrev wsX60 : List Cond := u_ws RX6 TX6 13
theorem nmX6 : ∀ a, a < 13 → ∀ b, b < 13 → a ≠ b → (TX6 a).2.1 ≠ (TX6 b).2.1 := by decide +kernel
theorem tyX6_ok : ∀ k, k < 13 → parseFieldDescriptor (TX6 k).2.2.1 = some (tyX6 k) := by decide +kernel
abbrev cX6_init : ByteArray := prog_8_method_1_code
def yX6_init : MethodName := ⟨RX6, "<init>", "()V"⟩
abbrev cX6_in : ByteArray := prog_8_method_3_code
def yX6_in : MethodName := ⟨RX6, "in", "(JJJ)Z"⟩
abbrev cX6_keeps : ByteArray := prog_8_method_4_code
def yX6_keeps : MethodName := ⟨RX6, "keeps", "()V"⟩
abbrev cX6_ends : ByteArray := prog_8_method_5_code
def yX6_ends : MethodName := ⟨RX6, "ends", "(I)I"⟩
abbrev cX6_tries : ByteArray := prog_8_method_6_code
def yX6_tries : MethodName := ⟨RX6, "tries", "()V"⟩
abbrev cX6_comesBack : ByteArray := prog_8_method_7_code
def yX6_comesBack : MethodName := ⟨RX6, "comesBack", "()V"⟩
abbrev cX6_isPlace : ByteArray := prog_8_method_8_code
def yX6_isPlace : MethodName := ⟨RX6, "isPlace", "(I)Z"⟩
abbrev cX6_due : ByteArray := prog_8_method_9_code
def yX6_due : MethodName := ⟨RX6, "due", "(I)I"⟩
abbrev cX6_letterAt : ByteArray := prog_8_method_10_code
def yX6_letterAt : MethodName := ⟨RX6, "letterAt", "(I)I"⟩
abbrev cX6_nextPlace : ByteArray := prog_8_method_11_code
def yX6_nextPlace : MethodName := ⟨RX6, "nextPlace", "(I)I"⟩
abbrev cX6_isDone : ByteArray := prog_8_method_12_code
def yX6_isDone : MethodName := ⟨RX6, "isDone", "()Z"⟩
abbrev cX6_marginLeft : ByteArray := prog_8_method_13_code
def yX6_marginLeft : MethodName := ⟨RX6, "marginLeft", "()I"⟩
abbrev cX6_does : ByteArray := prog_8_method_14_code
def yX6_does : MethodName := ⟨RX6, "does", "(I)I"⟩
abbrev cX6_dips : ByteArray := prog_8_method_15_code
def yX6_dips : MethodName := ⟨RX6, "dips", "(I)V"⟩
abbrev cX6_writes : ByteArray := prog_8_method_16_code
def yX6_writes : MethodName := ⟨RX6, "writes", "(I)V"⟩
abbrev cX6_goes : ByteArray := prog_8_method_17_code
def yX6_goes : MethodName := ⟨RX6, "goes", "(I)V"⟩
abbrev cX6_ticks : ByteArray := prog_8_method_18_code
def yX6_ticks : MethodName := ⟨RX6, "ticks", "()V"⟩
abbrev cX6_readPage : ByteArray := prog_8_method_19_code
def yX6_readPage : MethodName := ⟨RX6, "readPage", "()I"⟩
abbrev cX6_isBegun : ByteArray := prog_8_method_20_code
def yX6_isBegun : MethodName := ⟨RX6, "isBegun", "(I)Z"⟩
abbrev cX6_misread : ByteArray := prog_8_method_21_code
def yX6_misread : MethodName := ⟨RX6, "misread", "(II)I"⟩
abbrev cX6_correct : ByteArray := prog_8_method_22_code
def yX6_correct : MethodName := ⟨RX6, "correct", "(I)I"⟩
abbrev cX6_isScribe : ByteArray := prog_8_method_23_code
def yX6_isScribe : MethodName := ⟨RX6, "isScribe", "(I)Z"⟩
abbrev cX6_setPace : ByteArray := prog_8_method_24_code
def yX6_setPace : MethodName := ⟨RX6, "setPace", "(II)I"⟩
abbrev cX6_pour : ByteArray := prog_8_method_25_code
def yX6_pour : MethodName := ⟨RX6, "pour", "(I)I"⟩
abbrev cX6_set : ByteArray := prog_8_method_26_code
def yX6_set : MethodName := ⟨RX6, "set", "(II)I"⟩
abbrev cX6_pass : ByteArray := prog_8_method_27_code
def yX6_pass : MethodName := ⟨RX6, "pass", "(I)I"⟩
abbrev cX6_type : ByteArray := prog_8_method_28_code
def yX6_type : MethodName := ⟨RX6, "type", "(C)I"⟩
abbrev cX6_clearText : ByteArray := prog_8_method_29_code
def yX6_clearText : MethodName := ⟨RX6, "clearText", "()I"⟩
abbrev cX6_isHere : ByteArray := prog_8_method_30_code
def yX6_isHere : MethodName := ⟨RX6, "isHere", "(II)Z"⟩
abbrev cX6_takesOne : ByteArray := prog_8_method_31_code
def yX6_takesOne : MethodName := ⟨RX6, "takesOne", "(I)Z"⟩
abbrev cX6_readsMisreading : ByteArray := prog_8_method_32_code
def yX6_readsMisreading : MethodName := ⟨RX6, "readsMisreading", "()Z"⟩
abbrev cX6_fault : ByteArray := prog_8_method_33_code
def yX6_fault : MethodName := ⟨RX6, "fault", "()I"⟩
abbrev cX6_undo : ByteArray := prog_8_method_34_code
def yX6_undo : MethodName := ⟨RX6, "undo", "()I"⟩
abbrev cX6_keep : ByteArray := prog_8_method_35_code
def yX6_keep : MethodName := ⟨RX6, "keep", "()I"⟩
abbrev cX6_restore : ByteArray := prog_8_method_36_code
def yX6_restore : MethodName := ⟨RX6, "restore", "()I"⟩
abbrev cX6_place : ByteArray := prog_8_method_37_code
def yX6_place : MethodName := ⟨RX6, "place", "(II)I"⟩
abbrev cX6_scribe : ByteArray := prog_8_method_38_code
def yX6_scribe : MethodName := ⟨RX6, "scribe", "(II)I"⟩
abbrev cX6_ink : ByteArray := prog_8_method_39_code
def yX6_ink : MethodName := ⟨RX6, "ink", "(I)D"⟩
abbrev cX6_next : ByteArray := prog_8_method_40_code
def yX6_next : MethodName := ⟨RX6, "next", "(I)I"⟩
abbrev cX6_doneBehind : ByteArray := prog_8_method_41_code
def yX6_doneBehind : MethodName := ⟨RX6, "doneBehind", "()I"⟩
abbrev cX6_doneIn : ByteArray := prog_8_method_42_code
def yX6_doneIn : MethodName := ⟨RX6, "doneIn", "()I"⟩
abbrev cX6_unlikePairs : ByteArray := prog_8_method_43_code
def yX6_unlikePairs : MethodName := ⟨RX6, "unlikePairs", "()I"⟩
abbrev cX6_unlikeReadings : ByteArray := prog_8_method_44_code
def yX6_unlikeReadings : MethodName := ⟨RX6, "unlikeReadings", "()I"⟩
abbrev cX6_needed : ByteArray := prog_8_method_45_code
def yX6_needed : MethodName := ⟨RX6, "needed", "()D"⟩
abbrev cX6_bestPace : ByteArray := prog_8_method_46_code
def yX6_bestPace : MethodName := ⟨RX6, "bestPace", "(I)I"⟩
abbrev cX6_places : ByteArray := prog_8_method_47_code
def yX6_places : MethodName := ⟨RX6, "places", "(I)I"⟩
abbrev cX6_count : ByteArray := prog_8_method_48_code
def yX6_count : MethodName := ⟨RX6, "count", "(I)I"⟩
def RL : String := "TwoScribesLaw"
abbrev cL_law : ByteArray := code
def yL_law : MethodName := ⟨RL, "law", "([I)Z"⟩
abbrev vwCl : List vw_C := [(RX0, TX0, 3), (RX1, TX1, 8), (RX2, TX2, 7), (RX3, TX3, 7), (RX4, TX4, 11), (RX5, TX5, 6), (RX6, TX6, 13)]
end
section
/-! words: the good ones of the tables in one list (GW), each by its place; the nest mates' links in two lists -/
def GW : List Cond := lw_tbl.filter goodWord
theorem GW_mem {w : Cond} (i : Nat) (h : lw_tbl[i]? = some w) (g : goodWord w = true) : w ∈ GW := List.mem_filter.mpr ⟨List.mem_of_getElem? h, g⟩
theorem k0 : Jvm.Cond.selects "TwoScribes$PageText" ({ cls := "TwoScribes$PageText", name := "readHalf", desc := "()V" } : Jvm.MethodName) ({ cls := "TwoScribes$PageText", name := "readHalf", desc := "()V" } : Jvm.MethodName) ∈ GW := GW_mem 0 (by decide +kernel) (by decide +kernel)
theorem k1 : Jvm.Cond.selects "TwoScribes$PageText" ({ cls := "TwoScribes$PageText", name := "letterAtCursor", desc := "()I" } : Jvm.MethodName) ({ cls := "TwoScribes$PageText", name := "letterAtCursor", desc := "()I" } : Jvm.MethodName) ∈ GW := GW_mem 1 (by decide +kernel) (by decide +kernel)
theorem k2 : Jvm.Cond.selects "TwoScribes$PageText" ({ cls := "TwoScribes$PageText", name := "isAtCharacter", desc := "()Z" } : Jvm.MethodName) ({ cls := "TwoScribes$PageText", name := "isAtCharacter", desc := "()Z" } : Jvm.MethodName) ∈ GW := GW_mem 2 (by decide +kernel) (by decide +kernel)
theorem k3 : Jvm.Cond.selects "TwoScribes$PageText" ({ cls := "TwoScribes$PageText", name := "skip", desc := "(C)Z" } : Jvm.MethodName) ({ cls := "TwoScribes$PageText", name := "skip", desc := "(C)Z" } : Jvm.MethodName) ∈ GW := GW_mem 3 (by decide +kernel) (by decide +kernel)
theorem k4 : Jvm.Cond.selects "TwoScribes$PageText" ({ cls := "TwoScribes$PageText", name := "readMisreading", desc := "()Z" } : Jvm.MethodName) ({ cls := "TwoScribes$PageText", name := "readMisreading", desc := "()Z" } : Jvm.MethodName) ∈ GW := GW_mem 4 (by decide +kernel) (by decide +kernel)
theorem k5 : Jvm.Cond.selects "TwoScribes$PageText" ({ cls := "TwoScribes$PageText", name := "digitAtCursor", desc := "()I" } : Jvm.MethodName) ({ cls := "TwoScribes$PageText", name := "digitAtCursor", desc := "()I" } : Jvm.MethodName) ∈ GW := GW_mem 5 (by decide +kernel) (by decide +kernel)
theorem k6 : Jvm.Cond.selects "TwoScribes$History" ({ cls := "TwoScribes$History", name := "stateAt", desc := "(I)LTwoScribes$State;" } : Jvm.MethodName) ({ cls := "TwoScribes$History", name := "stateAt", desc := "(I)LTwoScribes$State;" } : Jvm.MethodName) ∈ GW := GW_mem 6 (by decide +kernel) (by decide +kernel)
theorem k7 : Jvm.Cond.selects "TwoScribes$State" ({ cls := "TwoScribes$State", name := "spendTick", desc := "(I)V" } : Jvm.MethodName) ({ cls := "TwoScribes$State", name := "spendTick", desc := "(I)V" } : Jvm.MethodName) ∈ GW := GW_mem 7 (by decide +kernel) (by decide +kernel)
theorem k8 : Jvm.Cond.selects "TwoScribes$State" ({ cls := "TwoScribes$State", name := "goOnDipping", desc := "(LTwoScribes$Scribe;)V" } : Jvm.MethodName) ({ cls := "TwoScribes$State", name := "goOnDipping", desc := "(LTwoScribes$Scribe;)V" } : Jvm.MethodName) ∈ GW := GW_mem 8 (by decide +kernel) (by decide +kernel)
theorem k9 : Jvm.Cond.selects "TwoScribesModel" ({ cls := "TwoScribesModel", name := "fault", desc := "()I" } : Jvm.MethodName) ({ cls := "TwoScribesModel", name := "fault", desc := "()I" } : Jvm.MethodName) ∈ GW := GW_mem 9 (by decide +kernel) (by decide +kernel)
theorem k10 : Jvm.Cond.selects "TwoScribesModel" ({ cls := "TwoScribesModel", name := "isHere", desc := "(II)Z" } : Jvm.MethodName) ({ cls := "TwoScribesModel", name := "isHere", desc := "(II)Z" } : Jvm.MethodName) ∈ GW := GW_mem 10 (by decide +kernel) (by decide +kernel)
theorem k11 : Jvm.Cond.selects "TwoScribesModel" ({ cls := "TwoScribesModel", name := "takesOne", desc := "(I)Z" } : Jvm.MethodName) ({ cls := "TwoScribesModel", name := "takesOne", desc := "(I)Z" } : Jvm.MethodName) ∈ GW := GW_mem 11 (by decide +kernel) (by decide +kernel)
theorem k12 : Jvm.Cond.selects "TwoScribesModel" ({ cls := "TwoScribesModel", name := "readsMisreading", desc := "()Z" } : Jvm.MethodName) ({ cls := "TwoScribesModel", name := "readsMisreading", desc := "()Z" } : Jvm.MethodName) ∈ GW := GW_mem 12 (by decide +kernel) (by decide +kernel)
theorem k13 : Jvm.Cond.selects "TwoScribesModel" ({ cls := "TwoScribesModel", name := "keeps", desc := "()V" } : Jvm.MethodName) ({ cls := "TwoScribesModel", name := "keeps", desc := "()V" } : Jvm.MethodName) ∈ GW := GW_mem 13 (by decide +kernel) (by decide +kernel)
theorem k14 : Jvm.Cond.selects "TwoScribesModel" ({ cls := "TwoScribesModel", name := "ends", desc := "(I)I" } : Jvm.MethodName) ({ cls := "TwoScribesModel", name := "ends", desc := "(I)I" } : Jvm.MethodName) ∈ GW := GW_mem 14 (by decide +kernel) (by decide +kernel)
theorem k15 : Jvm.Cond.selects "TwoScribesModel" ({ cls := "TwoScribesModel", name := "isPlace", desc := "(I)Z" } : Jvm.MethodName) ({ cls := "TwoScribesModel", name := "isPlace", desc := "(I)Z" } : Jvm.MethodName) ∈ GW := GW_mem 15 (by decide +kernel) (by decide +kernel)
theorem k16 : Jvm.Cond.selects "TwoScribesModel" ({ cls := "TwoScribesModel", name := "isBegun", desc := "(I)Z" } : Jvm.MethodName) ({ cls := "TwoScribesModel", name := "isBegun", desc := "(I)Z" } : Jvm.MethodName) ∈ GW := GW_mem 16 (by decide +kernel) (by decide +kernel)
theorem k17 : Jvm.Cond.selects "TwoScribesModel" ({ cls := "TwoScribesModel", name := "nextPlace", desc := "(I)I" } : Jvm.MethodName) ({ cls := "TwoScribesModel", name := "nextPlace", desc := "(I)I" } : Jvm.MethodName) ∈ GW := GW_mem 17 (by decide +kernel) (by decide +kernel)
theorem k18 : Jvm.Cond.selects "TwoScribesModel" ({ cls := "TwoScribesModel", name := "letterAt", desc := "(I)I" } : Jvm.MethodName) ({ cls := "TwoScribesModel", name := "letterAt", desc := "(I)I" } : Jvm.MethodName) ∈ GW := GW_mem 18 (by decide +kernel) (by decide +kernel)
theorem k19 : Jvm.Cond.selects "TwoScribesModel" ({ cls := "TwoScribesModel", name := "due", desc := "(I)I" } : Jvm.MethodName) ({ cls := "TwoScribesModel", name := "due", desc := "(I)I" } : Jvm.MethodName) ∈ GW := GW_mem 19 (by decide +kernel) (by decide +kernel)
theorem k20 : Jvm.Cond.selects "TwoScribesModel" ({ cls := "TwoScribesModel", name := "marginLeft", desc := "()I" } : Jvm.MethodName) ({ cls := "TwoScribesModel", name := "marginLeft", desc := "()I" } : Jvm.MethodName) ∈ GW := GW_mem 20 (by decide +kernel) (by decide +kernel)
theorem k21 : Jvm.Cond.selects "TwoScribesModel" ({ cls := "TwoScribesModel", name := "ticks", desc := "()V" } : Jvm.MethodName) ({ cls := "TwoScribesModel", name := "ticks", desc := "()V" } : Jvm.MethodName) ∈ GW := GW_mem 21 (by decide +kernel) (by decide +kernel)
theorem k22 : Jvm.Cond.selects "TwoScribesModel" ({ cls := "TwoScribesModel", name := "goes", desc := "(I)V" } : Jvm.MethodName) ({ cls := "TwoScribesModel", name := "goes", desc := "(I)V" } : Jvm.MethodName) ∈ GW := GW_mem 22 (by decide +kernel) (by decide +kernel)
theorem k23 : Jvm.Cond.selects "TwoScribesModel" ({ cls := "TwoScribesModel", name := "does", desc := "(I)I" } : Jvm.MethodName) ({ cls := "TwoScribesModel", name := "does", desc := "(I)I" } : Jvm.MethodName) ∈ GW := GW_mem 23 (by decide +kernel) (by decide +kernel)
theorem k24 : Jvm.Cond.selects "TwoScribesModel" ({ cls := "TwoScribesModel", name := "writes", desc := "(I)V" } : Jvm.MethodName) ({ cls := "TwoScribesModel", name := "writes", desc := "(I)V" } : Jvm.MethodName) ∈ GW := GW_mem 24 (by decide +kernel) (by decide +kernel)
theorem k25 : Jvm.Cond.selects "TwoScribesModel" ({ cls := "TwoScribesModel", name := "dips", desc := "(I)V" } : Jvm.MethodName) ({ cls := "TwoScribesModel", name := "dips", desc := "(I)V" } : Jvm.MethodName) ∈ GW := GW_mem 25 (by decide +kernel) (by decide +kernel)
theorem k26 : Jvm.Cond.selects "TwoScribesModel" ({ cls := "TwoScribesModel", name := "tries", desc := "()V" } : Jvm.MethodName) ({ cls := "TwoScribesModel", name := "tries", desc := "()V" } : Jvm.MethodName) ∈ GW := GW_mem 26 (by decide +kernel) (by decide +kernel)
theorem k27 : Jvm.Cond.selects "TwoScribesModel" ({ cls := "TwoScribesModel", name := "comesBack", desc := "()V" } : Jvm.MethodName) ({ cls := "TwoScribesModel", name := "comesBack", desc := "()V" } : Jvm.MethodName) ∈ GW := GW_mem 27 (by decide +kernel) (by decide +kernel)
theorem k28 : Jvm.Cond.selects "TwoScribesModel" ({ cls := "TwoScribesModel", name := "doneBehind", desc := "()I" } : Jvm.MethodName) ({ cls := "TwoScribesModel", name := "doneBehind", desc := "()I" } : Jvm.MethodName) ∈ GW := GW_mem 28 (by decide +kernel) (by decide +kernel)
theorem k29 : Jvm.Cond.selects "TwoScribesModel" ({ cls := "TwoScribesModel", name := "isDone", desc := "()Z" } : Jvm.MethodName) ({ cls := "TwoScribesModel", name := "isDone", desc := "()Z" } : Jvm.MethodName) ∈ GW := GW_mem 29 (by decide +kernel) (by decide +kernel)
theorem k30 : Jvm.Cond.selects "TwoScribesModel" ({ cls := "TwoScribesModel", name := "places", desc := "(I)I" } : Jvm.MethodName) ({ cls := "TwoScribesModel", name := "places", desc := "(I)I" } : Jvm.MethodName) ∈ GW := GW_mem 30 (by decide +kernel) (by decide +kernel)
theorem k31 : Jvm.Cond.initialized "TwoScribesLaw" ∈ GW := GW_mem 31 (by decide +kernel) (by decide +kernel)
theorem k32 : Jvm.Cond.initialized "TwoScribes" ∈ GW := GW_mem 32 (by decide +kernel) (by decide +kernel)
theorem k33 : Jvm.Cond.initialized "TwoScribes$State" ∈ GW := GW_mem 33 (by decide +kernel) (by decide +kernel)
theorem k34 : Jvm.Cond.initialized "TwoScribes$Page" ∈ GW := GW_mem 34 (by decide +kernel) (by decide +kernel)
theorem k35 : Jvm.Cond.initialized "TwoScribes$Scribe" ∈ GW := GW_mem 35 (by decide +kernel) (by decide +kernel)
theorem k36 : Jvm.Cond.initialized "TwoScribes$History" ∈ GW := GW_mem 36 (by decide +kernel) (by decide +kernel)
theorem k37 : Jvm.Cond.initialized "TwoScribes$PageText" ∈ GW := GW_mem 37 (by decide +kernel) (by decide +kernel)
theorem k38 : Jvm.Cond.initialized "TwoScribesModel" ∈ GW := GW_mem 38 (by decide +kernel) (by decide +kernel)
theorem k39 : Jvm.Cond.initialized "java/lang/Math" ∈ GW := GW_mem 39 (by decide +kernel) (by decide +kernel)
theorem k40 : Jvm.Cond.initialized "java/lang/System" ∈ GW := GW_mem 40 (by decide +kernel) (by decide +kernel)
theorem k41 : Jvm.Cond.classLink "TwoScribesLaw" (7 : Nat) "TwoScribes" ∈ GW := GW_mem 41 (by decide +kernel) (by decide +kernel)
theorem k42 : Jvm.Cond.instantiable "TwoScribes" (6 : Nat) ∈ GW := GW_mem 42 (by decide +kernel) (by decide +kernel)
theorem k43 : Jvm.Cond.methodLink "TwoScribesLaw" (9 : Nat) ({ cls := "TwoScribes", name := "<init>", desc := "()V" } : Jvm.MethodName) ∈ GW := GW_mem 43 (by decide +kernel) (by decide +kernel)
theorem k44 : Jvm.Cond.instanceMethod ({ cls := "TwoScribes", name := "<init>", desc := "()V" } : Jvm.MethodName) ∈ GW := GW_mem 44 (by decide +kernel) (by decide +kernel)
theorem k45 : Jvm.Cond.code ({ cls := "TwoScribes", name := "<init>", desc := "()V" } : Jvm.MethodName) prog_1_method_1_code (1 : Nat) (Option.none : Option Jvm.ClassFile.FieldType) ∈ GW := GW_mem 45 (by decide +kernel) (by decide +kernel)
theorem k46 : Jvm.Cond.methodLink "TwoScribes" (1 : Nat) ({ cls := "java/lang/Object", name := "<init>", desc := "()V" } : Jvm.MethodName) ∈ GW := GW_mem 46 (by decide +kernel) (by decide +kernel)
theorem k47 : Jvm.Cond.instanceMethod ({ cls := "java/lang/Object", name := "<init>", desc := "()V" } : Jvm.MethodName) ∈ GW := GW_mem 47 (by decide +kernel) (by decide +kernel)
theorem k48 : Jvm.Cond.code ({ cls := "java/lang/Object", name := "<init>", desc := "()V" } : Jvm.MethodName) object_method_1_code (1 : Nat) (Option.none : Option Jvm.ClassFile.FieldType) ∈ GW := GW_mem 48 (by decide +kernel) (by decide +kernel)
theorem k49 : Jvm.Cond.classLink "TwoScribes" (7 : Nat) "TwoScribes$State" ∈ GW := GW_mem 49 (by decide +kernel) (by decide +kernel)
theorem k50 : Jvm.Cond.instantiable "TwoScribes$State" (11 : Nat) ∈ GW := GW_mem 50 (by decide +kernel) (by decide +kernel)
theorem k52 : Jvm.Cond.instanceMethod ({ cls := "TwoScribes$State", name := "<init>", desc := "()V" } : Jvm.MethodName) ∈ GW := GW_mem 52 (by decide +kernel) (by decide +kernel)
theorem k53 : Jvm.Cond.code ({ cls := "TwoScribes$State", name := "<init>", desc := "()V" } : Jvm.MethodName) prog_6_method_1_code (1 : Nat) (Option.none : Option Jvm.ClassFile.FieldType) ∈ GW := GW_mem 53 (by decide +kernel) (by decide +kernel)
theorem k54 : Jvm.Cond.methodLink "TwoScribes$State" (3 : Nat) ({ cls := "java/lang/Object", name := "<init>", desc := "()V" } : Jvm.MethodName) ∈ GW := GW_mem 54 (by decide +kernel) (by decide +kernel)
theorem k55 : Jvm.Cond.classLink "TwoScribes$State" (9 : Nat) "TwoScribes$Page" ∈ GW := GW_mem 55 (by decide +kernel) (by decide +kernel)
theorem k56 : Jvm.Cond.instantiable "TwoScribes$Page" (8 : Nat) ∈ GW := GW_mem 56 (by decide +kernel) (by decide +kernel)
theorem k58 : Jvm.Cond.instanceMethod ({ cls := "TwoScribes$Page", name := "<init>", desc := "()V" } : Jvm.MethodName) ∈ GW := GW_mem 58 (by decide +kernel) (by decide +kernel)
theorem k59 : Jvm.Cond.code ({ cls := "TwoScribes$Page", name := "<init>", desc := "()V" } : Jvm.MethodName) prog_3_method_1_code (1 : Nat) (Option.none : Option Jvm.ClassFile.FieldType) ∈ GW := GW_mem 59 (by decide +kernel) (by decide +kernel)
theorem k60 : Jvm.Cond.methodLink "TwoScribes$Page" (3 : Nat) ({ cls := "java/lang/Object", name := "<init>", desc := "()V" } : Jvm.MethodName) ∈ GW := GW_mem 60 (by decide +kernel) (by decide +kernel)
theorem k61 : Jvm.Cond.fieldLink "TwoScribes$Page" (9 : Nat) "TwoScribes$Page" "due" "[I" ∈ GW := GW_mem 61 (by decide +kernel) (by decide +kernel)
theorem k64 : Jvm.Cond.fieldLink "TwoScribes$Page" (15 : Nat) "TwoScribes$Page" "told" "[I" ∈ GW := GW_mem 64 (by decide +kernel) (by decide +kernel)
theorem k66 : Jvm.Cond.fieldLink "TwoScribes$Page" (18 : Nat) "TwoScribes$Page" "written" "[I" ∈ GW := GW_mem 66 (by decide +kernel) (by decide +kernel)
theorem k68 : Jvm.Cond.fieldLink "TwoScribes$Page" (21 : Nat) "TwoScribes$Page" "writtenIn" "[I" ∈ GW := GW_mem 68 (by decide +kernel) (by decide +kernel)
theorem k70 : Jvm.Cond.fieldLink "TwoScribes$Page" (24 : Nat) "TwoScribes$Page" "blots" "[I" ∈ GW := GW_mem 70 (by decide +kernel) (by decide +kernel)
theorem k72 : Jvm.Cond.fieldLink "TwoScribes$Page" (27 : Nat) "TwoScribes$Page" "corrected" "[I" ∈ GW := GW_mem 72 (by decide +kernel) (by decide +kernel)
theorem k74 : Jvm.Cond.fieldLink "TwoScribes$Page" (34 : Nat) "TwoScribes$Page" "places" "I" ∈ GW := GW_mem 74 (by decide +kernel) (by decide +kernel)
theorem k77 : Jvm.Cond.fieldLink "TwoScribes$Page" (38 : Nat) "TwoScribes$Page" "corrections" "I" ∈ GW := GW_mem 77 (by decide +kernel) (by decide +kernel)
theorem k96 : Jvm.Cond.arrayClass Jvm.ClassFile.FieldType.int ∈ GW := GW_mem 96 (by decide +kernel) (by decide +kernel)
theorem k97 : Jvm.Cond.classLink "TwoScribes$State" (18 : Nat) "TwoScribes$Scribe" ∈ GW := GW_mem 97 (by decide +kernel) (by decide +kernel)
theorem k98 : Jvm.Cond.instantiable "TwoScribes$Scribe" (7 : Nat) ∈ GW := GW_mem 98 (by decide +kernel) (by decide +kernel)
theorem k100 : Jvm.Cond.instanceMethod ({ cls := "TwoScribes$Scribe", name := "<init>", desc := "()V" } : Jvm.MethodName) ∈ GW := GW_mem 100 (by decide +kernel) (by decide +kernel)
theorem k101 : Jvm.Cond.code ({ cls := "TwoScribes$Scribe", name := "<init>", desc := "()V" } : Jvm.MethodName) prog_5_method_1_code (1 : Nat) (Option.none : Option Jvm.ClassFile.FieldType) ∈ GW := GW_mem 101 (by decide +kernel) (by decide +kernel)
theorem k102 : Jvm.Cond.methodLink "TwoScribes$Scribe" (1 : Nat) ({ cls := "java/lang/Object", name := "<init>", desc := "()V" } : Jvm.MethodName) ∈ GW := GW_mem 102 (by decide +kernel) (by decide +kernel)
theorem k103 : Jvm.Cond.fieldLink "TwoScribes$Scribe" (7 : Nat) "TwoScribes$Scribe" "pace" "I" ∈ GW := GW_mem 103 (by decide +kernel) (by decide +kernel)
theorem k106 : Jvm.Cond.fieldLink "TwoScribes$Scribe" (13 : Nat) "TwoScribes$Scribe" "letters" "I" ∈ GW := GW_mem 106 (by decide +kernel) (by decide +kernel)
theorem k109 : Jvm.Cond.fieldLink "TwoScribes$Scribe" (16 : Nat) "TwoScribes$Scribe" "spent" "I" ∈ GW := GW_mem 109 (by decide +kernel) (by decide +kernel)
theorem k112 : Jvm.Cond.fieldLink "TwoScribes$Scribe" (19 : Nat) "TwoScribes$Scribe" "dipLeft" "I" ∈ GW := GW_mem 112 (by decide +kernel) (by decide +kernel)
theorem k115 : Jvm.Cond.fieldLink "TwoScribes$Scribe" (22 : Nat) "TwoScribes$Scribe" "dips" "I" ∈ GW := GW_mem 115 (by decide +kernel) (by decide +kernel)
theorem k118 : Jvm.Cond.fieldLink "TwoScribes$Scribe" (25 : Nat) "TwoScribes$Scribe" "waits" "I" ∈ GW := GW_mem 118 (by decide +kernel) (by decide +kernel)
theorem k121 : Jvm.Cond.fieldLink "TwoScribes$Scribe" (28 : Nat) "TwoScribes$Scribe" "pen" "F" ∈ GW := GW_mem 121 (by decide +kernel) (by decide +kernel)
theorem k139 : Jvm.Cond.constantFloat "TwoScribes$State" (32 : Nat) (1082130432 : UInt32) ∈ GW := GW_mem 139 (by decide +kernel) (by decide +kernel)
theorem k140 : Jvm.Cond.fieldLink "TwoScribes$State" (12 : Nat) "TwoScribes$State" "page" "LTwoScribes$Page;" ∈ GW := GW_mem 140 (by decide +kernel) (by decide +kernel)
theorem k142 : Jvm.Cond.fieldLink "TwoScribes$State" (21 : Nat) "TwoScribes$State" "left" "LTwoScribes$Scribe;" ∈ GW := GW_mem 142 (by decide +kernel) (by decide +kernel)
theorem k144 : Jvm.Cond.fieldLink "TwoScribes$State" (25 : Nat) "TwoScribes$State" "right" "LTwoScribes$Scribe;" ∈ GW := GW_mem 144 (by decide +kernel) (by decide +kernel)
theorem k146 : Jvm.Cond.fieldLink "TwoScribes$State" (28 : Nat) "TwoScribes$State" "settings" "[I" ∈ GW := GW_mem 146 (by decide +kernel) (by decide +kernel)
theorem k148 : Jvm.Cond.fieldLink "TwoScribes$State" (33 : Nat) "TwoScribes$State" "well" "F" ∈ GW := GW_mem 148 (by decide +kernel) (by decide +kernel)
theorem k150 : Jvm.Cond.fieldLink "TwoScribes$State" (48 : Nat) "TwoScribes$State" "letterInk" "F" ∈ GW := GW_mem 150 (by decide +kernel) (by decide +kernel)
theorem k152 : Jvm.Cond.fieldLink "TwoScribes$State" (51 : Nat) "TwoScribes$State" "correctionInk" "F" ∈ GW := GW_mem 152 (by decide +kernel) (by decide +kernel)
theorem k154 : Jvm.Cond.fieldLink "TwoScribes$State" (54 : Nat) "TwoScribes$State" "tick" "I" ∈ GW := GW_mem 154 (by decide +kernel) (by decide +kernel)
theorem k156 : Jvm.Cond.fieldLink "TwoScribes$State" (58 : Nat) "TwoScribes$State" "pages" "I" ∈ GW := GW_mem 156 (by decide +kernel) (by decide +kernel)
theorem k158 : Jvm.Cond.fieldLink "TwoScribes$State" (61 : Nat) "TwoScribes$State" "letters" "I" ∈ GW := GW_mem 158 (by decide +kernel) (by decide +kernel)
theorem k160 : Jvm.Cond.fieldLink "TwoScribes$State" (64 : Nat) "TwoScribes$State" "poured" "I" ∈ GW := GW_mem 160 (by decide +kernel) (by decide +kernel)
theorem k185 : Jvm.Cond.classLink "TwoScribes" (22 : Nat) "TwoScribes$History" ∈ GW := GW_mem 185 (by decide +kernel) (by decide +kernel)
theorem k186 : Jvm.Cond.instantiable "TwoScribes$History" (3 : Nat) ∈ GW := GW_mem 186 (by decide +kernel) (by decide +kernel)
theorem k187 : Jvm.Cond.methodLink "TwoScribes" (24 : Nat) ({ cls := "TwoScribes$History", name := "<init>", desc := "()V" } : Jvm.MethodName) ∈ GW := GW_mem 187 (by decide +kernel) (by decide +kernel)
theorem k188 : Jvm.Cond.instanceMethod ({ cls := "TwoScribes$History", name := "<init>", desc := "()V" } : Jvm.MethodName) ∈ GW := GW_mem 188 (by decide +kernel) (by decide +kernel)
theorem k189 : Jvm.Cond.code ({ cls := "TwoScribes$History", name := "<init>", desc := "()V" } : Jvm.MethodName) prog_2_method_1_code (2 : Nat) (Option.none : Option Jvm.ClassFile.FieldType) ∈ GW := GW_mem 189 (by decide +kernel) (by decide +kernel)
theorem k190 : Jvm.Cond.methodLink "TwoScribes$History" (3 : Nat) ({ cls := "java/lang/Object", name := "<init>", desc := "()V" } : Jvm.MethodName) ∈ GW := GW_mem 190 (by decide +kernel) (by decide +kernel)
theorem k191 : Jvm.Cond.classLink "TwoScribes$History" (9 : Nat) "TwoScribes$State" ∈ GW := GW_mem 191 (by decide +kernel) (by decide +kernel)
theorem k194 : Jvm.Cond.fieldLink "TwoScribes$History" (11 : Nat) "TwoScribes$History" "states" "[LTwoScribes$State;" ∈ GW := GW_mem 194 (by decide +kernel) (by decide +kernel)
theorem k195 : Jvm.Cond.fieldLink "TwoScribes$History" (22 : Nat) "TwoScribes$History" "first" "I" ∈ GW := GW_mem 195 (by decide +kernel) (by decide +kernel)
theorem k196 : Jvm.Cond.fieldLink "TwoScribes$History" (18 : Nat) "TwoScribes$History" "size" "I" ∈ GW := GW_mem 196 (by decide +kernel) (by decide +kernel)
theorem k205 : Jvm.Cond.classLink "TwoScribes" (29 : Nat) "TwoScribes$PageText" ∈ GW := GW_mem 205 (by decide +kernel) (by decide +kernel)
theorem k206 : Jvm.Cond.instantiable "TwoScribes$PageText" (7 : Nat) ∈ GW := GW_mem 206 (by decide +kernel) (by decide +kernel)
theorem k208 : Jvm.Cond.instanceMethod ({ cls := "TwoScribes$PageText", name := "<init>", desc := "()V" } : Jvm.MethodName) ∈ GW := GW_mem 208 (by decide +kernel) (by decide +kernel)
theorem k209 : Jvm.Cond.code ({ cls := "TwoScribes$PageText", name := "<init>", desc := "()V" } : Jvm.MethodName) prog_4_method_1_code (1 : Nat) (Option.none : Option Jvm.ClassFile.FieldType) ∈ GW := GW_mem 209 (by decide +kernel) (by decide +kernel)
theorem k210 : Jvm.Cond.methodLink "TwoScribes$PageText" (3 : Nat) ({ cls := "java/lang/Object", name := "<init>", desc := "()V" } : Jvm.MethodName) ∈ GW := GW_mem 210 (by decide +kernel) (by decide +kernel)
theorem k211 : Jvm.Cond.fieldLink "TwoScribes$PageText" (9 : Nat) "TwoScribes$PageText" "characters" "[C" ∈ GW := GW_mem 211 (by decide +kernel) (by decide +kernel)
theorem k212 : Jvm.Cond.fieldLink "TwoScribes$PageText" (15 : Nat) "TwoScribes$PageText" "letters" "[I" ∈ GW := GW_mem 212 (by decide +kernel) (by decide +kernel)
theorem k214 : Jvm.Cond.fieldLink "TwoScribes$PageText" (19 : Nat) "TwoScribes$PageText" "misreadings" "[I" ∈ GW := GW_mem 214 (by decide +kernel) (by decide +kernel)
theorem k216 : Jvm.Cond.fieldLink "TwoScribes$PageText" (22 : Nat) "TwoScribes$PageText" "length" "I" ∈ GW := GW_mem 216 (by decide +kernel) (by decide +kernel)
theorem k220 : Jvm.Cond.fieldLink "TwoScribes$PageText" (29 : Nat) "TwoScribes$PageText" "half" "I" ∈ GW := GW_mem 220 (by decide +kernel) (by decide +kernel)
theorem k222 : Jvm.Cond.fieldLink "TwoScribes$PageText" (43 : Nat) "TwoScribes$PageText" "farthest" "I" ∈ GW := GW_mem 222 (by decide +kernel) (by decide +kernel)
theorem k223 : Jvm.Cond.fieldLink "TwoScribes$PageText" (32 : Nat) "TwoScribes$PageText" "cursor" "I" ∈ GW := GW_mem 223 (by decide +kernel) (by decide +kernel)
theorem k239 : Jvm.Cond.arrayClass Jvm.ClassFile.FieldType.char ∈ GW := GW_mem 239 (by decide +kernel) (by decide +kernel)
theorem k240 : Jvm.Cond.fieldLink "TwoScribes" (10 : Nat) "TwoScribes" "now" "LTwoScribes$State;" ∈ GW := GW_mem 240 (by decide +kernel) (by decide +kernel)
theorem k241 : Jvm.Cond.fieldLink "TwoScribes" (16 : Nat) "TwoScribes" "trial" "LTwoScribes$State;" ∈ GW := GW_mem 241 (by decide +kernel) (by decide +kernel)
theorem k242 : Jvm.Cond.fieldLink "TwoScribes" (19 : Nat) "TwoScribes" "snapshot" "LTwoScribes$State;" ∈ GW := GW_mem 242 (by decide +kernel) (by decide +kernel)
theorem k243 : Jvm.Cond.fieldLink "TwoScribes" (25 : Nat) "TwoScribes" "history" "LTwoScribes$History;" ∈ GW := GW_mem 243 (by decide +kernel) (by decide +kernel)
theorem k244 : Jvm.Cond.fieldLink "TwoScribes" (32 : Nat) "TwoScribes" "text" "LTwoScribes$PageText;" ∈ GW := GW_mem 244 (by decide +kernel) (by decide +kernel)
theorem k245 : Jvm.Cond.fieldLink "TwoScribes" (157 : Nat) "TwoScribes" "hasSnapshot" "Z" ∈ GW := GW_mem 245 (by decide +kernel) (by decide +kernel)
theorem k259 : Jvm.Cond.methodLink "TwoScribesLaw" (13 : Nat) ({ cls := "TwoScribes", name := "readPage", desc := "()I" } : Jvm.MethodName) ∈ GW := GW_mem 259 (by decide +kernel) (by decide +kernel)
theorem k260 : Jvm.Cond.instanceMethod ({ cls := "TwoScribes", name := "readPage", desc := "()I" } : Jvm.MethodName) ∈ GW := GW_mem 260 (by decide +kernel) (by decide +kernel)
theorem k261 : Jvm.Cond.selects "TwoScribes" ({ cls := "TwoScribes", name := "readPage", desc := "()I" } : Jvm.MethodName) ({ cls := "TwoScribes", name := "readPage", desc := "()I" } : Jvm.MethodName) ∈ GW := GW_mem 261 (by decide +kernel) (by decide +kernel)
theorem k262 : Jvm.Cond.code ({ cls := "TwoScribes", name := "readPage", desc := "()I" } : Jvm.MethodName) prog_1_method_2_code (2 : Nat) (Option.some Jvm.ClassFile.FieldType.int) ∈ GW := GW_mem 262 (by decide +kernel) (by decide +kernel)
theorem k263 : Jvm.Cond.methodLink "TwoScribes" (36 : Nat) ({ cls := "TwoScribes$PageText", name := "findFault", desc := "()I" } : Jvm.MethodName) ∈ GW := GW_mem 263 (by decide +kernel) (by decide +kernel)
theorem k264 : Jvm.Cond.instanceMethod ({ cls := "TwoScribes$PageText", name := "findFault", desc := "()I" } : Jvm.MethodName) ∈ GW := GW_mem 264 (by decide +kernel) (by decide +kernel)
theorem k265 : Jvm.Cond.selects "TwoScribes$PageText" ({ cls := "TwoScribes$PageText", name := "findFault", desc := "()I" } : Jvm.MethodName) ({ cls := "TwoScribes$PageText", name := "findFault", desc := "()I" } : Jvm.MethodName) ∈ GW := GW_mem 265 (by decide +kernel) (by decide +kernel)
theorem k266 : Jvm.Cond.code ({ cls := "TwoScribes$PageText", name := "findFault", desc := "()I" } : Jvm.MethodName) prog_4_method_3_code (2 : Nat) (Option.some Jvm.ClassFile.FieldType.int) ∈ GW := GW_mem 266 (by decide +kernel) (by decide +kernel)
theorem k267 : Jvm.Cond.methodLink "TwoScribes$PageText" (26 : Nat) ({ cls := "TwoScribes$PageText", name := "readHalf", desc := "()V" } : Jvm.MethodName) ∈ GW := GW_mem 267 (by decide +kernel) (by decide +kernel)
theorem k269 : Jvm.Cond.instanceMethod ({ cls := "TwoScribes$PageText", name := "readHalf", desc := "()V" } : Jvm.MethodName) ∈ GW := GW_mem 269 (by decide +kernel) (by decide +kernel)
theorem k270 : Jvm.Cond.code ({ cls := "TwoScribes$PageText", name := "readHalf", desc := "()V" } : Jvm.MethodName) prog_4_method_4_code (3 : Nat) (Option.none : Option Jvm.ClassFile.FieldType) ∈ GW := GW_mem 270 (by decide +kernel) (by decide +kernel)
theorem k272 : Jvm.Cond.static ({ cls := "TwoScribes", name := "clearRow", desc := "([I)V" } : Jvm.MethodName) ∈ GW := GW_mem 272 (by decide +kernel) (by decide +kernel)
theorem k273 : Jvm.Cond.code ({ cls := "TwoScribes", name := "clearRow", desc := "([I)V" } : Jvm.MethodName) prog_1_method_28_code (2 : Nat) (Option.none : Option Jvm.ClassFile.FieldType) ∈ GW := GW_mem 273 (by decide +kernel) (by decide +kernel)
theorem k274 : Jvm.Cond.methodLink "TwoScribes$PageText" (50 : Nat) ({ cls := "TwoScribes$PageText", name := "letterAtCursor", desc := "()I" } : Jvm.MethodName) ∈ GW := GW_mem 274 (by decide +kernel) (by decide +kernel)
theorem k276 : Jvm.Cond.instanceMethod ({ cls := "TwoScribes$PageText", name := "letterAtCursor", desc := "()I" } : Jvm.MethodName) ∈ GW := GW_mem 276 (by decide +kernel) (by decide +kernel)
theorem k277 : Jvm.Cond.code ({ cls := "TwoScribes$PageText", name := "letterAtCursor", desc := "()I" } : Jvm.MethodName) prog_4_method_7_code (2 : Nat) (Option.some Jvm.ClassFile.FieldType.int) ∈ GW := GW_mem 277 (by decide +kernel) (by decide +kernel)
theorem k278 : Jvm.Cond.methodLink "TwoScribes$PageText" (67 : Nat) ({ cls := "TwoScribes$PageText", name := "isAtCharacter", desc := "()Z" } : Jvm.MethodName) ∈ GW := GW_mem 278 (by decide +kernel) (by decide +kernel)
theorem k280 : Jvm.Cond.instanceMethod ({ cls := "TwoScribes$PageText", name := "isAtCharacter", desc := "()Z" } : Jvm.MethodName) ∈ GW := GW_mem 280 (by decide +kernel) (by decide +kernel)
theorem k281 : Jvm.Cond.code ({ cls := "TwoScribes$PageText", name := "isAtCharacter", desc := "()Z" } : Jvm.MethodName) prog_4_method_9_code (1 : Nat) (Option.some Jvm.ClassFile.FieldType.boolean) ∈ GW := GW_mem 281 (by decide +kernel) (by decide +kernel)
theorem k283 : Jvm.Cond.static ({ cls := "TwoScribes", name := "put", desc := "([III)V" } : Jvm.MethodName) ∈ GW := GW_mem 283 (by decide +kernel) (by decide +kernel)
theorem k284 : Jvm.Cond.code ({ cls := "TwoScribes", name := "put", desc := "([III)V" } : Jvm.MethodName) prog_1_method_27_code (3 : Nat) (Option.none : Option Jvm.ClassFile.FieldType) ∈ GW := GW_mem 284 (by decide +kernel) (by decide +kernel)
theorem k285 : Jvm.Cond.methodLink "TwoScribes$PageText" (35 : Nat) ({ cls := "TwoScribes$PageText", name := "skip", desc := "(C)Z" } : Jvm.MethodName) ∈ GW := GW_mem 285 (by decide +kernel) (by decide +kernel)
theorem k287 : Jvm.Cond.instanceMethod ({ cls := "TwoScribes$PageText", name := "skip", desc := "(C)Z" } : Jvm.MethodName) ∈ GW := GW_mem 287 (by decide +kernel) (by decide +kernel)
theorem k288 : Jvm.Cond.code ({ cls := "TwoScribes$PageText", name := "skip", desc := "(C)Z" } : Jvm.MethodName) prog_4_method_6_code (2 : Nat) (Option.some Jvm.ClassFile.FieldType.boolean) ∈ GW := GW_mem 288 (by decide +kernel) (by decide +kernel)
theorem k289 : Jvm.Cond.methodLink "TwoScribes$PageText" (39 : Nat) ({ cls := "TwoScribes$PageText", name := "readMisreading", desc := "()Z" } : Jvm.MethodName) ∈ GW := GW_mem 289 (by decide +kernel) (by decide +kernel)
theorem k291 : Jvm.Cond.instanceMethod ({ cls := "TwoScribes$PageText", name := "readMisreading", desc := "()Z" } : Jvm.MethodName) ∈ GW := GW_mem 291 (by decide +kernel) (by decide +kernel)
theorem k292 : Jvm.Cond.code ({ cls := "TwoScribes$PageText", name := "readMisreading", desc := "()Z" } : Jvm.MethodName) prog_4_method_5_code (4 : Nat) (Option.some Jvm.ClassFile.FieldType.boolean) ∈ GW := GW_mem 292 (by decide +kernel) (by decide +kernel)
theorem k293 : Jvm.Cond.methodLink "TwoScribes$PageText" (58 : Nat) ({ cls := "TwoScribes$PageText", name := "digitAtCursor", desc := "()I" } : Jvm.MethodName) ∈ GW := GW_mem 293 (by decide +kernel) (by decide +kernel)
theorem k295 : Jvm.Cond.instanceMethod ({ cls := "TwoScribes$PageText", name := "digitAtCursor", desc := "()I" } : Jvm.MethodName) ∈ GW := GW_mem 295 (by decide +kernel) (by decide +kernel)
theorem k296 : Jvm.Cond.code ({ cls := "TwoScribes$PageText", name := "digitAtCursor", desc := "()I" } : Jvm.MethodName) prog_4_method_8_code (2 : Nat) (Option.some Jvm.ClassFile.FieldType.int) ∈ GW := GW_mem 296 (by decide +kernel) (by decide +kernel)
theorem k297 : Jvm.Cond.methodLink "TwoScribes$PageText" (61 : Nat) ({ cls := "java/lang/Math", name := "max", desc := "(II)I" } : Jvm.MethodName) ∈ GW := GW_mem 297 (by decide +kernel) (by decide +kernel)
theorem k298 : Jvm.Cond.static ({ cls := "java/lang/Math", name := "max", desc := "(II)I" } : Jvm.MethodName) ∈ GW := GW_mem 298 (by decide +kernel) (by decide +kernel)
theorem k299 : Jvm.Cond.code ({ cls := "java/lang/Math", name := "max", desc := "(II)I" } : Jvm.MethodName) prog_9_method_65_code (2 : Nat) (Option.some Jvm.ClassFile.FieldType.int) ∈ GW := GW_mem 299 (by decide +kernel) (by decide +kernel)
theorem k300 : Jvm.Cond.methodLink "TwoScribes" (47 : Nat) ({ cls := "TwoScribes$History", name := "record", desc := "(LTwoScribes$State;)V" } : Jvm.MethodName) ∈ GW := GW_mem 300 (by decide +kernel) (by decide +kernel)
theorem k301 : Jvm.Cond.instanceMethod ({ cls := "TwoScribes$History", name := "record", desc := "(LTwoScribes$State;)V" } : Jvm.MethodName) ∈ GW := GW_mem 301 (by decide +kernel) (by decide +kernel)
theorem k302 : Jvm.Cond.selects "TwoScribes$History" ({ cls := "TwoScribes$History", name := "record", desc := "(LTwoScribes$State;)V" } : Jvm.MethodName) ({ cls := "TwoScribes$History", name := "record", desc := "(LTwoScribes$State;)V" } : Jvm.MethodName) ∈ GW := GW_mem 302 (by decide +kernel) (by decide +kernel)
theorem k303 : Jvm.Cond.code ({ cls := "TwoScribes$History", name := "record", desc := "(LTwoScribes$State;)V" } : Jvm.MethodName) prog_2_method_2_code (3 : Nat) (Option.none : Option Jvm.ClassFile.FieldType) ∈ GW := GW_mem 303 (by decide +kernel) (by decide +kernel)
theorem k304 : Jvm.Cond.methodLink "TwoScribes$History" (25 : Nat) ({ cls := "TwoScribes$History", name := "stateAt", desc := "(I)LTwoScribes$State;" } : Jvm.MethodName) ∈ GW := GW_mem 304 (by decide +kernel) (by decide +kernel)
theorem k306 : Jvm.Cond.instanceMethod ({ cls := "TwoScribes$History", name := "stateAt", desc := "(I)LTwoScribes$State;" } : Jvm.MethodName) ∈ GW := GW_mem 306 (by decide +kernel) (by decide +kernel)
theorem k307 : Jvm.Cond.code ({ cls := "TwoScribes$History", name := "stateAt", desc := "(I)LTwoScribes$State;" } : Jvm.MethodName) prog_2_method_4_code (3 : Nat) (Option.some (Jvm.ClassFile.FieldType.object "TwoScribes$State")) ∈ GW := GW_mem 307 (by decide +kernel) (by decide +kernel)
theorem k308 : Jvm.Cond.methodLink "TwoScribes$History" (29 : Nat) ({ cls := "TwoScribes$State", name := "copyFrom", desc := "(LTwoScribes$State;)V" } : Jvm.MethodName) ∈ GW := GW_mem 308 (by decide +kernel) (by decide +kernel)
theorem k309 : Jvm.Cond.instanceMethod ({ cls := "TwoScribes$State", name := "copyFrom", desc := "(LTwoScribes$State;)V" } : Jvm.MethodName) ∈ GW := GW_mem 309 (by decide +kernel) (by decide +kernel)
theorem k310 : Jvm.Cond.selects "TwoScribes$State" ({ cls := "TwoScribes$State", name := "copyFrom", desc := "(LTwoScribes$State;)V" } : Jvm.MethodName) ({ cls := "TwoScribes$State", name := "copyFrom", desc := "(LTwoScribes$State;)V" } : Jvm.MethodName) ∈ GW := GW_mem 310 (by decide +kernel) (by decide +kernel)
theorem k311 : Jvm.Cond.code ({ cls := "TwoScribes$State", name := "copyFrom", desc := "(LTwoScribes$State;)V" } : Jvm.MethodName) prog_6_method_2_code (2 : Nat) (Option.none : Option Jvm.ClassFile.FieldType) ∈ GW := GW_mem 311 (by decide +kernel) (by decide +kernel)
theorem k312 : Jvm.Cond.methodLink "TwoScribes$State" (37 : Nat) ({ cls := "TwoScribes$Page", name := "copyFrom", desc := "(LTwoScribes$Page;)V" } : Jvm.MethodName) ∈ GW := GW_mem 312 (by decide +kernel) (by decide +kernel)
theorem k313 : Jvm.Cond.instanceMethod ({ cls := "TwoScribes$Page", name := "copyFrom", desc := "(LTwoScribes$Page;)V" } : Jvm.MethodName) ∈ GW := GW_mem 313 (by decide +kernel) (by decide +kernel)
theorem k314 : Jvm.Cond.selects "TwoScribes$Page" ({ cls := "TwoScribes$Page", name := "copyFrom", desc := "(LTwoScribes$Page;)V" } : Jvm.MethodName) ({ cls := "TwoScribes$Page", name := "copyFrom", desc := "(LTwoScribes$Page;)V" } : Jvm.MethodName) ∈ GW := GW_mem 314 (by decide +kernel) (by decide +kernel)
theorem k315 : Jvm.Cond.code ({ cls := "TwoScribes$Page", name := "copyFrom", desc := "(LTwoScribes$Page;)V" } : Jvm.MethodName) prog_3_method_2_code (2 : Nat) (Option.none : Option Jvm.ClassFile.FieldType) ∈ GW := GW_mem 315 (by decide +kernel) (by decide +kernel)
theorem k317 : Jvm.Cond.static ({ cls := "TwoScribes", name := "copyRow", desc := "([I[I)V" } : Jvm.MethodName) ∈ GW := GW_mem 317 (by decide +kernel) (by decide +kernel)
theorem k318 : Jvm.Cond.code ({ cls := "TwoScribes", name := "copyRow", desc := "([I[I)V" } : Jvm.MethodName) prog_1_method_29_code (2 : Nat) (Option.none : Option Jvm.ClassFile.FieldType) ∈ GW := GW_mem 318 (by decide +kernel) (by decide +kernel)
theorem k319 : Jvm.Cond.methodLink "TwoScribes" (249 : Nat) ({ cls := "java/lang/Math", name := "min", desc := "(II)I" } : Jvm.MethodName) ∈ GW := GW_mem 319 (by decide +kernel) (by decide +kernel)
theorem k320 : Jvm.Cond.static ({ cls := "java/lang/Math", name := "min", desc := "(II)I" } : Jvm.MethodName) ∈ GW := GW_mem 320 (by decide +kernel) (by decide +kernel)
theorem k321 : Jvm.Cond.code ({ cls := "java/lang/Math", name := "min", desc := "(II)I" } : Jvm.MethodName) prog_9_method_69_code (2 : Nat) (Option.some Jvm.ClassFile.FieldType.int) ∈ GW := GW_mem 321 (by decide +kernel) (by decide +kernel)
theorem k322 : Jvm.Cond.methodLink "TwoScribes" (255 : Nat) ({ cls := "java/lang/System", name := "arraycopy", desc := "(Ljava/lang/Object;ILjava/lang/Object;II)V" } : Jvm.MethodName) ∈ GW := GW_mem 322 (by decide +kernel) (by decide +kernel)
theorem k323 : Jvm.Cond.static ({ cls := "java/lang/System", name := "arraycopy", desc := "(Ljava/lang/Object;ILjava/lang/Object;II)V" } : Jvm.MethodName) ∈ GW := GW_mem 323 (by decide +kernel) (by decide +kernel)
theorem k324 : Jvm.Cond.native ({ cls := "java/lang/System", name := "arraycopy", desc := "(Ljava/lang/Object;ILjava/lang/Object;II)V" } : Jvm.MethodName) ∈ GW := GW_mem 324 (by decide +kernel) (by decide +kernel)
theorem k325 : Jvm.Cond.methodLink "TwoScribes$State" (41 : Nat) ({ cls := "TwoScribes$Scribe", name := "copyFrom", desc := "(LTwoScribes$Scribe;)V" } : Jvm.MethodName) ∈ GW := GW_mem 325 (by decide +kernel) (by decide +kernel)
theorem k326 : Jvm.Cond.instanceMethod ({ cls := "TwoScribes$Scribe", name := "copyFrom", desc := "(LTwoScribes$Scribe;)V" } : Jvm.MethodName) ∈ GW := GW_mem 326 (by decide +kernel) (by decide +kernel)
theorem k327 : Jvm.Cond.selects "TwoScribes$Scribe" ({ cls := "TwoScribes$Scribe", name := "copyFrom", desc := "(LTwoScribes$Scribe;)V" } : Jvm.MethodName) ({ cls := "TwoScribes$Scribe", name := "copyFrom", desc := "(LTwoScribes$Scribe;)V" } : Jvm.MethodName) ∈ GW := GW_mem 327 (by decide +kernel) (by decide +kernel)
theorem k328 : Jvm.Cond.code ({ cls := "TwoScribes$Scribe", name := "copyFrom", desc := "(LTwoScribes$Scribe;)V" } : Jvm.MethodName) prog_5_method_2_code (2 : Nat) (Option.none : Option Jvm.ClassFile.FieldType) ∈ GW := GW_mem 328 (by decide +kernel) (by decide +kernel)
theorem k330 : Jvm.Cond.methodLink "TwoScribes" (51 : Nat) ({ cls := "TwoScribes$State", name := "beginPage", desc := "(LTwoScribes$PageText;)V" } : Jvm.MethodName) ∈ GW := GW_mem 330 (by decide +kernel) (by decide +kernel)
theorem k331 : Jvm.Cond.instanceMethod ({ cls := "TwoScribes$State", name := "beginPage", desc := "(LTwoScribes$PageText;)V" } : Jvm.MethodName) ∈ GW := GW_mem 331 (by decide +kernel) (by decide +kernel)
theorem k332 : Jvm.Cond.selects "TwoScribes$State" ({ cls := "TwoScribes$State", name := "beginPage", desc := "(LTwoScribes$PageText;)V" } : Jvm.MethodName) ({ cls := "TwoScribes$State", name := "beginPage", desc := "(LTwoScribes$PageText;)V" } : Jvm.MethodName) ∈ GW := GW_mem 332 (by decide +kernel) (by decide +kernel)
theorem k333 : Jvm.Cond.code ({ cls := "TwoScribes$State", name := "beginPage", desc := "(LTwoScribes$PageText;)V" } : Jvm.MethodName) prog_6_method_4_code (2 : Nat) (Option.none : Option Jvm.ClassFile.FieldType) ∈ GW := GW_mem 333 (by decide +kernel) (by decide +kernel)
theorem k334 : Jvm.Cond.methodLink "TwoScribes$State" (67 : Nat) ({ cls := "TwoScribes$Page", name := "begin", desc := "(LTwoScribes$PageText;)V" } : Jvm.MethodName) ∈ GW := GW_mem 334 (by decide +kernel) (by decide +kernel)
theorem k335 : Jvm.Cond.instanceMethod ({ cls := "TwoScribes$Page", name := "begin", desc := "(LTwoScribes$PageText;)V" } : Jvm.MethodName) ∈ GW := GW_mem 335 (by decide +kernel) (by decide +kernel)
theorem k336 : Jvm.Cond.selects "TwoScribes$Page" ({ cls := "TwoScribes$Page", name := "begin", desc := "(LTwoScribes$PageText;)V" } : Jvm.MethodName) ({ cls := "TwoScribes$Page", name := "begin", desc := "(LTwoScribes$PageText;)V" } : Jvm.MethodName) ∈ GW := GW_mem 336 (by decide +kernel) (by decide +kernel)
theorem k337 : Jvm.Cond.code ({ cls := "TwoScribes$Page", name := "begin", desc := "(LTwoScribes$PageText;)V" } : Jvm.MethodName) prog_3_method_3_code (4 : Nat) (Option.none : Option Jvm.ClassFile.FieldType) ∈ GW := GW_mem 337 (by decide +kernel) (by decide +kernel)
theorem k340 : Jvm.Cond.static ({ cls := "TwoScribes", name := "at", desc := "([II)I" } : Jvm.MethodName) ∈ GW := GW_mem 340 (by decide +kernel) (by decide +kernel)
theorem k341 : Jvm.Cond.code ({ cls := "TwoScribes", name := "at", desc := "([II)I" } : Jvm.MethodName) prog_1_method_26_code (2 : Nat) (Option.some Jvm.ClassFile.FieldType.int) ∈ GW := GW_mem 341 (by decide +kernel) (by decide +kernel)
theorem k343 : Jvm.Cond.methodLink "TwoScribes$Page" (64 : Nat) ({ cls := "TwoScribes$Page", name := "mirrorOf", desc := "(I)I" } : Jvm.MethodName) ∈ GW := GW_mem 343 (by decide +kernel) (by decide +kernel)
theorem k344 : Jvm.Cond.instanceMethod ({ cls := "TwoScribes$Page", name := "mirrorOf", desc := "(I)I" } : Jvm.MethodName) ∈ GW := GW_mem 344 (by decide +kernel) (by decide +kernel)
theorem k345 : Jvm.Cond.selects "TwoScribes$Page" ({ cls := "TwoScribes$Page", name := "mirrorOf", desc := "(I)I" } : Jvm.MethodName) ({ cls := "TwoScribes$Page", name := "mirrorOf", desc := "(I)I" } : Jvm.MethodName) ∈ GW := GW_mem 345 (by decide +kernel) (by decide +kernel)
theorem k346 : Jvm.Cond.code ({ cls := "TwoScribes$Page", name := "mirrorOf", desc := "(I)I" } : Jvm.MethodName) prog_3_method_5_code (2 : Nat) (Option.some Jvm.ClassFile.FieldType.int) ∈ GW := GW_mem 346 (by decide +kernel) (by decide +kernel)
theorem k347 : Jvm.Cond.methodLink "TwoScribes$State" (71 : Nat) ({ cls := "TwoScribes$Scribe", name := "beginPage", desc := "()V" } : Jvm.MethodName) ∈ GW := GW_mem 347 (by decide +kernel) (by decide +kernel)
theorem k348 : Jvm.Cond.instanceMethod ({ cls := "TwoScribes$Scribe", name := "beginPage", desc := "()V" } : Jvm.MethodName) ∈ GW := GW_mem 348 (by decide +kernel) (by decide +kernel)
theorem k349 : Jvm.Cond.selects "TwoScribes$Scribe" ({ cls := "TwoScribes$Scribe", name := "beginPage", desc := "()V" } : Jvm.MethodName) ({ cls := "TwoScribes$Scribe", name := "beginPage", desc := "()V" } : Jvm.MethodName) ∈ GW := GW_mem 349 (by decide +kernel) (by decide +kernel)
theorem k350 : Jvm.Cond.code ({ cls := "TwoScribes$Scribe", name := "beginPage", desc := "()V" } : Jvm.MethodName) prog_5_method_3_code (1 : Nat) (Option.none : Option Jvm.ClassFile.FieldType) ∈ GW := GW_mem 350 (by decide +kernel) (by decide +kernel)
theorem k351 : Jvm.Cond.methodLink "TwoScribesLaw" (18 : Nat) ({ cls := "TwoScribes", name := "misread", desc := "(II)I" } : Jvm.MethodName) ∈ GW := GW_mem 351 (by decide +kernel) (by decide +kernel)
theorem k352 : Jvm.Cond.instanceMethod ({ cls := "TwoScribes", name := "misread", desc := "(II)I" } : Jvm.MethodName) ∈ GW := GW_mem 352 (by decide +kernel) (by decide +kernel)
theorem k353 : Jvm.Cond.selects "TwoScribes" ({ cls := "TwoScribes", name := "misread", desc := "(II)I" } : Jvm.MethodName) ({ cls := "TwoScribes", name := "misread", desc := "(II)I" } : Jvm.MethodName) ∈ GW := GW_mem 353 (by decide +kernel) (by decide +kernel)
theorem k354 : Jvm.Cond.code ({ cls := "TwoScribes", name := "misread", desc := "(II)I" } : Jvm.MethodName) prog_1_method_3_code (4 : Nat) (Option.some Jvm.ClassFile.FieldType.int) ∈ GW := GW_mem 354 (by decide +kernel) (by decide +kernel)
theorem k355 : Jvm.Cond.methodLink "TwoScribes" (64 : Nat) ({ cls := "TwoScribes$Page", name := "has", desc := "(I)Z" } : Jvm.MethodName) ∈ GW := GW_mem 355 (by decide +kernel) (by decide +kernel)
theorem k356 : Jvm.Cond.instanceMethod ({ cls := "TwoScribes$Page", name := "has", desc := "(I)Z" } : Jvm.MethodName) ∈ GW := GW_mem 356 (by decide +kernel) (by decide +kernel)
theorem k357 : Jvm.Cond.selects "TwoScribes$Page" ({ cls := "TwoScribes$Page", name := "has", desc := "(I)Z" } : Jvm.MethodName) ({ cls := "TwoScribes$Page", name := "has", desc := "(I)Z" } : Jvm.MethodName) ∈ GW := GW_mem 357 (by decide +kernel) (by decide +kernel)
theorem k358 : Jvm.Cond.code ({ cls := "TwoScribes$Page", name := "has", desc := "(I)Z" } : Jvm.MethodName) prog_3_method_4_code (2 : Nat) (Option.some Jvm.ClassFile.FieldType.boolean) ∈ GW := GW_mem 358 (by decide +kernel) (by decide +kernel)
theorem k359 : Jvm.Cond.methodLink "TwoScribes" (68 : Nat) ({ cls := "TwoScribes$State", name := "isBegun", desc := "(I)Z" } : Jvm.MethodName) ∈ GW := GW_mem 359 (by decide +kernel) (by decide +kernel)
theorem k360 : Jvm.Cond.instanceMethod ({ cls := "TwoScribes$State", name := "isBegun", desc := "(I)Z" } : Jvm.MethodName) ∈ GW := GW_mem 360 (by decide +kernel) (by decide +kernel)
theorem k361 : Jvm.Cond.selects "TwoScribes$State" ({ cls := "TwoScribes$State", name := "isBegun", desc := "(I)Z" } : Jvm.MethodName) ({ cls := "TwoScribes$State", name := "isBegun", desc := "(I)Z" } : Jvm.MethodName) ∈ GW := GW_mem 361 (by decide +kernel) (by decide +kernel)
theorem k362 : Jvm.Cond.code ({ cls := "TwoScribes$State", name := "isBegun", desc := "(I)Z" } : Jvm.MethodName) prog_6_method_8_code (2 : Nat) (Option.some Jvm.ClassFile.FieldType.boolean) ∈ GW := GW_mem 362 (by decide +kernel) (by decide +kernel)
theorem k363 : Jvm.Cond.methodLink "TwoScribes$State" (90 : Nat) ({ cls := "TwoScribes$Page", name := "isWritten", desc := "(I)Z" } : Jvm.MethodName) ∈ GW := GW_mem 363 (by decide +kernel) (by decide +kernel)
theorem k364 : Jvm.Cond.instanceMethod ({ cls := "TwoScribes$Page", name := "isWritten", desc := "(I)Z" } : Jvm.MethodName) ∈ GW := GW_mem 364 (by decide +kernel) (by decide +kernel)
theorem k365 : Jvm.Cond.selects "TwoScribes$Page" ({ cls := "TwoScribes$Page", name := "isWritten", desc := "(I)Z" } : Jvm.MethodName) ({ cls := "TwoScribes$Page", name := "isWritten", desc := "(I)Z" } : Jvm.MethodName) ∈ GW := GW_mem 365 (by decide +kernel) (by decide +kernel)
theorem k366 : Jvm.Cond.code ({ cls := "TwoScribes$Page", name := "isWritten", desc := "(I)Z" } : Jvm.MethodName) prog_3_method_7_code (2 : Nat) (Option.some Jvm.ClassFile.FieldType.boolean) ∈ GW := GW_mem 366 (by decide +kernel) (by decide +kernel)
theorem k367 : Jvm.Cond.methodLink "TwoScribes$State" (97 : Nat) ({ cls := "TwoScribes$State", name := "nextPlaceOf", desc := "(I)I" } : Jvm.MethodName) ∈ GW := GW_mem 367 (by decide +kernel) (by decide +kernel)
theorem k368 : Jvm.Cond.instanceMethod ({ cls := "TwoScribes$State", name := "nextPlaceOf", desc := "(I)I" } : Jvm.MethodName) ∈ GW := GW_mem 368 (by decide +kernel) (by decide +kernel)
theorem k369 : Jvm.Cond.selects "TwoScribes$State" ({ cls := "TwoScribes$State", name := "nextPlaceOf", desc := "(I)I" } : Jvm.MethodName) ({ cls := "TwoScribes$State", name := "nextPlaceOf", desc := "(I)I" } : Jvm.MethodName) ∈ GW := GW_mem 369 (by decide +kernel) (by decide +kernel)
theorem k370 : Jvm.Cond.code ({ cls := "TwoScribes$State", name := "nextPlaceOf", desc := "(I)I" } : Jvm.MethodName) prog_6_method_7_code (3 : Nat) (Option.some Jvm.ClassFile.FieldType.int) ∈ GW := GW_mem 370 (by decide +kernel) (by decide +kernel)
theorem k371 : Jvm.Cond.methodLink "TwoScribes$State" (82 : Nat) ({ cls := "TwoScribes$State", name := "scribeOf", desc := "(I)LTwoScribes$Scribe;" } : Jvm.MethodName) ∈ GW := GW_mem 371 (by decide +kernel) (by decide +kernel)
theorem k372 : Jvm.Cond.instanceMethod ({ cls := "TwoScribes$State", name := "scribeOf", desc := "(I)LTwoScribes$Scribe;" } : Jvm.MethodName) ∈ GW := GW_mem 372 (by decide +kernel) (by decide +kernel)
theorem k373 : Jvm.Cond.selects "TwoScribes$State" ({ cls := "TwoScribes$State", name := "scribeOf", desc := "(I)LTwoScribes$Scribe;" } : Jvm.MethodName) ({ cls := "TwoScribes$State", name := "scribeOf", desc := "(I)LTwoScribes$Scribe;" } : Jvm.MethodName) ∈ GW := GW_mem 373 (by decide +kernel) (by decide +kernel)
theorem k374 : Jvm.Cond.code ({ cls := "TwoScribes$State", name := "scribeOf", desc := "(I)LTwoScribes$Scribe;" } : Jvm.MethodName) prog_6_method_3_code (2 : Nat) (Option.some (Jvm.ClassFile.FieldType.object "TwoScribes$Scribe")) ∈ GW := GW_mem 374 (by decide +kernel) (by decide +kernel)
theorem k375 : Jvm.Cond.methodLink "TwoScribes$State" (86 : Nat) ({ cls := "TwoScribes$Page", name := "mirrorOf", desc := "(I)I" } : Jvm.MethodName) ∈ GW := GW_mem 375 (by decide +kernel) (by decide +kernel)
theorem k376 : Jvm.Cond.methodLink "TwoScribes" (75 : Nat) ({ cls := "TwoScribes", name := "at", desc := "([II)I" } : Jvm.MethodName) ∈ GW := GW_mem 376 (by decide +kernel) (by decide +kernel)
theorem k377 : Jvm.Cond.methodLink "TwoScribes" (79 : Nat) ({ cls := "TwoScribes$Page", name := "letterFor", desc := "(I)I" } : Jvm.MethodName) ∈ GW := GW_mem 377 (by decide +kernel) (by decide +kernel)
theorem k378 : Jvm.Cond.instanceMethod ({ cls := "TwoScribes$Page", name := "letterFor", desc := "(I)I" } : Jvm.MethodName) ∈ GW := GW_mem 378 (by decide +kernel) (by decide +kernel)
theorem k379 : Jvm.Cond.selects "TwoScribes$Page" ({ cls := "TwoScribes$Page", name := "letterFor", desc := "(I)I" } : Jvm.MethodName) ({ cls := "TwoScribes$Page", name := "letterFor", desc := "(I)I" } : Jvm.MethodName) ∈ GW := GW_mem 379 (by decide +kernel) (by decide +kernel)
theorem k380 : Jvm.Cond.code ({ cls := "TwoScribes$Page", name := "letterFor", desc := "(I)I" } : Jvm.MethodName) prog_3_method_6_code (3 : Nat) (Option.some Jvm.ClassFile.FieldType.int) ∈ GW := GW_mem 380 (by decide +kernel) (by decide +kernel)
theorem k381 : Jvm.Cond.methodLink "TwoScribes" (83 : Nat) ({ cls := "TwoScribes", name := "put", desc := "([III)V" } : Jvm.MethodName) ∈ GW := GW_mem 381 (by decide +kernel) (by decide +kernel)
theorem k382 : Jvm.Cond.methodLink "TwoScribesLaw" (23 : Nat) ({ cls := "TwoScribes", name := "correct", desc := "(I)I" } : Jvm.MethodName) ∈ GW := GW_mem 382 (by decide +kernel) (by decide +kernel)
theorem k383 : Jvm.Cond.instanceMethod ({ cls := "TwoScribes", name := "correct", desc := "(I)I" } : Jvm.MethodName) ∈ GW := GW_mem 383 (by decide +kernel) (by decide +kernel)
theorem k384 : Jvm.Cond.selects "TwoScribes" ({ cls := "TwoScribes", name := "correct", desc := "(I)I" } : Jvm.MethodName) ({ cls := "TwoScribes", name := "correct", desc := "(I)I" } : Jvm.MethodName) ∈ GW := GW_mem 384 (by decide +kernel) (by decide +kernel)
theorem k385 : Jvm.Cond.code ({ cls := "TwoScribes", name := "correct", desc := "(I)I" } : Jvm.MethodName) prog_1_method_4_code (2 : Nat) (Option.some Jvm.ClassFile.FieldType.int) ∈ GW := GW_mem 385 (by decide +kernel) (by decide +kernel)
theorem k386 : Jvm.Cond.methodLink "TwoScribes" (87 : Nat) ({ cls := "TwoScribes$State", name := "canCorrect", desc := "(I)Z" } : Jvm.MethodName) ∈ GW := GW_mem 386 (by decide +kernel) (by decide +kernel)
theorem k387 : Jvm.Cond.instanceMethod ({ cls := "TwoScribes$State", name := "canCorrect", desc := "(I)Z" } : Jvm.MethodName) ∈ GW := GW_mem 387 (by decide +kernel) (by decide +kernel)
theorem k388 : Jvm.Cond.selects "TwoScribes$State" ({ cls := "TwoScribes$State", name := "canCorrect", desc := "(I)Z" } : Jvm.MethodName) ({ cls := "TwoScribes$State", name := "canCorrect", desc := "(I)Z" } : Jvm.MethodName) ∈ GW := GW_mem 388 (by decide +kernel) (by decide +kernel)
theorem k389 : Jvm.Cond.code ({ cls := "TwoScribes$State", name := "canCorrect", desc := "(I)Z" } : Jvm.MethodName) prog_6_method_10_code (2 : Nat) (Option.some Jvm.ClassFile.FieldType.boolean) ∈ GW := GW_mem 389 (by decide +kernel) (by decide +kernel)
theorem k390 : Jvm.Cond.methodLink "TwoScribes$State" (113 : Nat) ({ cls := "TwoScribes$State", name := "correctionsLeft", desc := "()I" } : Jvm.MethodName) ∈ GW := GW_mem 390 (by decide +kernel) (by decide +kernel)
theorem k391 : Jvm.Cond.instanceMethod ({ cls := "TwoScribes$State", name := "correctionsLeft", desc := "()I" } : Jvm.MethodName) ∈ GW := GW_mem 391 (by decide +kernel) (by decide +kernel)
theorem k392 : Jvm.Cond.selects "TwoScribes$State" ({ cls := "TwoScribes$State", name := "correctionsLeft", desc := "()I" } : Jvm.MethodName) ({ cls := "TwoScribes$State", name := "correctionsLeft", desc := "()I" } : Jvm.MethodName) ∈ GW := GW_mem 392 (by decide +kernel) (by decide +kernel)
theorem k393 : Jvm.Cond.code ({ cls := "TwoScribes$State", name := "correctionsLeft", desc := "()I" } : Jvm.MethodName) prog_6_method_9_code (1 : Nat) (Option.some Jvm.ClassFile.FieldType.int) ∈ GW := GW_mem 393 (by decide +kernel) (by decide +kernel)
theorem k395 : Jvm.Cond.methodLink "TwoScribes$State" (107 : Nat) ({ cls := "java/lang/Math", name := "max", desc := "(II)I" } : Jvm.MethodName) ∈ GW := GW_mem 395 (by decide +kernel) (by decide +kernel)
theorem k397 : Jvm.Cond.static ({ cls := "TwoScribes", name := "inkFor", desc := "(I)F" } : Jvm.MethodName) ∈ GW := GW_mem 397 (by decide +kernel) (by decide +kernel)
theorem k398 : Jvm.Cond.code ({ cls := "TwoScribes", name := "inkFor", desc := "(I)F" } : Jvm.MethodName) prog_1_method_25_code (1 : Nat) (Option.some Jvm.ClassFile.FieldType.float) ∈ GW := GW_mem 398 (by decide +kernel) (by decide +kernel)
theorem k399 : Jvm.Cond.constantFloat "TwoScribes" (248 : Nat) (1115684864 : UInt32) ∈ GW := GW_mem 399 (by decide +kernel) (by decide +kernel)
theorem k400 : Jvm.Cond.methodLink "TwoScribes" (90 : Nat) ({ cls := "TwoScribes$Page", name := "isFaultless", desc := "(I)Z" } : Jvm.MethodName) ∈ GW := GW_mem 400 (by decide +kernel) (by decide +kernel)
theorem k401 : Jvm.Cond.instanceMethod ({ cls := "TwoScribes$Page", name := "isFaultless", desc := "(I)Z" } : Jvm.MethodName) ∈ GW := GW_mem 401 (by decide +kernel) (by decide +kernel)
theorem k402 : Jvm.Cond.selects "TwoScribes$Page" ({ cls := "TwoScribes$Page", name := "isFaultless", desc := "(I)Z" } : Jvm.MethodName) ({ cls := "TwoScribes$Page", name := "isFaultless", desc := "(I)Z" } : Jvm.MethodName) ∈ GW := GW_mem 402 (by decide +kernel) (by decide +kernel)
theorem k403 : Jvm.Cond.code ({ cls := "TwoScribes$Page", name := "isFaultless", desc := "(I)Z" } : Jvm.MethodName) prog_3_method_8_code (2 : Nat) (Option.some Jvm.ClassFile.FieldType.boolean) ∈ GW := GW_mem 403 (by decide +kernel) (by decide +kernel)
theorem k404 : Jvm.Cond.methodLink "TwoScribes" (93 : Nat) ({ cls := "TwoScribes$State", name := "makeCorrection", desc := "(I)V" } : Jvm.MethodName) ∈ GW := GW_mem 404 (by decide +kernel) (by decide +kernel)
theorem k405 : Jvm.Cond.instanceMethod ({ cls := "TwoScribes$State", name := "makeCorrection", desc := "(I)V" } : Jvm.MethodName) ∈ GW := GW_mem 405 (by decide +kernel) (by decide +kernel)
theorem k406 : Jvm.Cond.selects "TwoScribes$State" ({ cls := "TwoScribes$State", name := "makeCorrection", desc := "(I)V" } : Jvm.MethodName) ({ cls := "TwoScribes$State", name := "makeCorrection", desc := "(I)V" } : Jvm.MethodName) ∈ GW := GW_mem 406 (by decide +kernel) (by decide +kernel)
theorem k407 : Jvm.Cond.code ({ cls := "TwoScribes$State", name := "makeCorrection", desc := "(I)V" } : Jvm.MethodName) prog_6_method_11_code (3 : Nat) (Option.none : Option Jvm.ClassFile.FieldType) ∈ GW := GW_mem 407 (by decide +kernel) (by decide +kernel)
theorem k408 : Jvm.Cond.methodLink "TwoScribes$State" (123 : Nat) ({ cls := "TwoScribes$Page", name := "amend", desc := "(I)V" } : Jvm.MethodName) ∈ GW := GW_mem 408 (by decide +kernel) (by decide +kernel)
theorem k409 : Jvm.Cond.instanceMethod ({ cls := "TwoScribes$Page", name := "amend", desc := "(I)V" } : Jvm.MethodName) ∈ GW := GW_mem 409 (by decide +kernel) (by decide +kernel)
theorem k410 : Jvm.Cond.selects "TwoScribes$Page" ({ cls := "TwoScribes$Page", name := "amend", desc := "(I)V" } : Jvm.MethodName) ({ cls := "TwoScribes$Page", name := "amend", desc := "(I)V" } : Jvm.MethodName) ∈ GW := GW_mem 410 (by decide +kernel) (by decide +kernel)
theorem k411 : Jvm.Cond.code ({ cls := "TwoScribes$Page", name := "amend", desc := "(I)V" } : Jvm.MethodName) prog_3_method_11_code (2 : Nat) (Option.none : Option Jvm.ClassFile.FieldType) ∈ GW := GW_mem 411 (by decide +kernel) (by decide +kernel)
theorem k412 : Jvm.Cond.methodLink "TwoScribes" (97 : Nat) ({ cls := "TwoScribes$State", name := "correctionsLeft", desc := "()I" } : Jvm.MethodName) ∈ GW := GW_mem 412 (by decide +kernel) (by decide +kernel)
theorem k413 : Jvm.Cond.methodLink "TwoScribesLaw" (28 : Nat) ({ cls := "TwoScribes", name := "setPace", desc := "(II)I" } : Jvm.MethodName) ∈ GW := GW_mem 413 (by decide +kernel) (by decide +kernel)
theorem k414 : Jvm.Cond.instanceMethod ({ cls := "TwoScribes", name := "setPace", desc := "(II)I" } : Jvm.MethodName) ∈ GW := GW_mem 414 (by decide +kernel) (by decide +kernel)
theorem k415 : Jvm.Cond.selects "TwoScribes" ({ cls := "TwoScribes", name := "setPace", desc := "(II)I" } : Jvm.MethodName) ({ cls := "TwoScribes", name := "setPace", desc := "(II)I" } : Jvm.MethodName) ∈ GW := GW_mem 415 (by decide +kernel) (by decide +kernel)
theorem k416 : Jvm.Cond.code ({ cls := "TwoScribes", name := "setPace", desc := "(II)I" } : Jvm.MethodName) prog_1_method_5_code (4 : Nat) (Option.some Jvm.ClassFile.FieldType.int) ∈ GW := GW_mem 416 (by decide +kernel) (by decide +kernel)
theorem k417 : Jvm.Cond.methodLink "TwoScribes" (100 : Nat) ({ cls := "TwoScribes", name := "isScribe", desc := "(I)Z" } : Jvm.MethodName) ∈ GW := GW_mem 417 (by decide +kernel) (by decide +kernel)
theorem k418 : Jvm.Cond.static ({ cls := "TwoScribes", name := "isScribe", desc := "(I)Z" } : Jvm.MethodName) ∈ GW := GW_mem 418 (by decide +kernel) (by decide +kernel)
theorem k419 : Jvm.Cond.code ({ cls := "TwoScribes", name := "isScribe", desc := "(I)Z" } : Jvm.MethodName) prog_1_method_24_code (1 : Nat) (Option.some Jvm.ClassFile.FieldType.boolean) ∈ GW := GW_mem 419 (by decide +kernel) (by decide +kernel)
theorem k420 : Jvm.Cond.methodLink "TwoScribes" (103 : Nat) ({ cls := "TwoScribes$State", name := "scribeOf", desc := "(I)LTwoScribes$Scribe;" } : Jvm.MethodName) ∈ GW := GW_mem 420 (by decide +kernel) (by decide +kernel)
theorem k421 : Jvm.Cond.methodLink "TwoScribesLaw" (32 : Nat) ({ cls := "TwoScribes", name := "pour", desc := "(I)I" } : Jvm.MethodName) ∈ GW := GW_mem 421 (by decide +kernel) (by decide +kernel)
theorem k422 : Jvm.Cond.instanceMethod ({ cls := "TwoScribes", name := "pour", desc := "(I)I" } : Jvm.MethodName) ∈ GW := GW_mem 422 (by decide +kernel) (by decide +kernel)
theorem k423 : Jvm.Cond.selects "TwoScribes" ({ cls := "TwoScribes", name := "pour", desc := "(I)I" } : Jvm.MethodName) ({ cls := "TwoScribes", name := "pour", desc := "(I)I" } : Jvm.MethodName) ∈ GW := GW_mem 423 (by decide +kernel) (by decide +kernel)
theorem k424 : Jvm.Cond.code ({ cls := "TwoScribes", name := "pour", desc := "(I)I" } : Jvm.MethodName) prog_1_method_6_code (2 : Nat) (Option.some Jvm.ClassFile.FieldType.int) ∈ GW := GW_mem 424 (by decide +kernel) (by decide +kernel)
theorem k425 : Jvm.Cond.constantFloat "TwoScribes" (119 : Nat) (1090519040 : UInt32) ∈ GW := GW_mem 425 (by decide +kernel) (by decide +kernel)
theorem k426 : Jvm.Cond.methodLink "TwoScribesLaw" (36 : Nat) ({ cls := "TwoScribes", name := "set", desc := "(II)I" } : Jvm.MethodName) ∈ GW := GW_mem 426 (by decide +kernel) (by decide +kernel)
theorem k427 : Jvm.Cond.instanceMethod ({ cls := "TwoScribes", name := "set", desc := "(II)I" } : Jvm.MethodName) ∈ GW := GW_mem 427 (by decide +kernel) (by decide +kernel)
theorem k428 : Jvm.Cond.selects "TwoScribes" ({ cls := "TwoScribes", name := "set", desc := "(II)I" } : Jvm.MethodName) ({ cls := "TwoScribes", name := "set", desc := "(II)I" } : Jvm.MethodName) ∈ GW := GW_mem 428 (by decide +kernel) (by decide +kernel)
theorem k429 : Jvm.Cond.code ({ cls := "TwoScribes", name := "set", desc := "(II)I" } : Jvm.MethodName) prog_1_method_7_code (4 : Nat) (Option.some Jvm.ClassFile.FieldType.int) ∈ GW := GW_mem 429 (by decide +kernel) (by decide +kernel)
theorem k430 : Jvm.Cond.fieldLink "TwoScribes" (120 : Nat) "TwoScribes" "LEAST_SETTINGS" "[I" ∈ GW := GW_mem 430 (by decide +kernel) (by decide +kernel)
theorem k432 : Jvm.Cond.fieldLink "TwoScribes" (123 : Nat) "TwoScribes" "GREATEST_SETTINGS" "[I" ∈ GW := GW_mem 432 (by decide +kernel) (by decide +kernel)
theorem k434 : Jvm.Cond.methodLink "TwoScribesLaw" (40 : Nat) ({ cls := "TwoScribes", name := "pass", desc := "(I)I" } : Jvm.MethodName) ∈ GW := GW_mem 434 (by decide +kernel) (by decide +kernel)
theorem k435 : Jvm.Cond.instanceMethod ({ cls := "TwoScribes", name := "pass", desc := "(I)I" } : Jvm.MethodName) ∈ GW := GW_mem 435 (by decide +kernel) (by decide +kernel)
theorem k436 : Jvm.Cond.selects "TwoScribes" ({ cls := "TwoScribes", name := "pass", desc := "(I)I" } : Jvm.MethodName) ({ cls := "TwoScribes", name := "pass", desc := "(I)I" } : Jvm.MethodName) ∈ GW := GW_mem 436 (by decide +kernel) (by decide +kernel)
theorem k437 : Jvm.Cond.code ({ cls := "TwoScribes", name := "pass", desc := "(I)I" } : Jvm.MethodName) prog_1_method_8_code (4 : Nat) (Option.some Jvm.ClassFile.FieldType.int) ∈ GW := GW_mem 437 (by decide +kernel) (by decide +kernel)
theorem k438 : Jvm.Cond.constant "TwoScribes" (132 : Nat) (99999 : Int32) ∈ GW := GW_mem 438 (by decide +kernel) (by decide +kernel)
theorem k439 : Jvm.Cond.methodLink "TwoScribes" (136 : Nat) ({ cls := "TwoScribes$State", name := "passTick", desc := "()Z" } : Jvm.MethodName) ∈ GW := GW_mem 439 (by decide +kernel) (by decide +kernel)
theorem k440 : Jvm.Cond.instanceMethod ({ cls := "TwoScribes$State", name := "passTick", desc := "()Z" } : Jvm.MethodName) ∈ GW := GW_mem 440 (by decide +kernel) (by decide +kernel)
theorem k441 : Jvm.Cond.selects "TwoScribes$State" ({ cls := "TwoScribes$State", name := "passTick", desc := "()Z" } : Jvm.MethodName) ({ cls := "TwoScribes$State", name := "passTick", desc := "()Z" } : Jvm.MethodName) ∈ GW := GW_mem 441 (by decide +kernel) (by decide +kernel)
theorem k442 : Jvm.Cond.code ({ cls := "TwoScribes$State", name := "passTick", desc := "()Z" } : Jvm.MethodName) prog_6_method_16_code (3 : Nat) (Option.some Jvm.ClassFile.FieldType.boolean) ∈ GW := GW_mem 442 (by decide +kernel) (by decide +kernel)
theorem k443 : Jvm.Cond.methodLink "TwoScribes$State" (159 : Nat) ({ cls := "TwoScribes$State", name := "takeTurn", desc := "(I)I" } : Jvm.MethodName) ∈ GW := GW_mem 443 (by decide +kernel) (by decide +kernel)
theorem k444 : Jvm.Cond.instanceMethod ({ cls := "TwoScribes$State", name := "takeTurn", desc := "(I)I" } : Jvm.MethodName) ∈ GW := GW_mem 444 (by decide +kernel) (by decide +kernel)
theorem k445 : Jvm.Cond.selects "TwoScribes$State" ({ cls := "TwoScribes$State", name := "takeTurn", desc := "(I)I" } : Jvm.MethodName) ({ cls := "TwoScribes$State", name := "takeTurn", desc := "(I)I" } : Jvm.MethodName) ∈ GW := GW_mem 445 (by decide +kernel) (by decide +kernel)
theorem k446 : Jvm.Cond.code ({ cls := "TwoScribes$State", name := "takeTurn", desc := "(I)I" } : Jvm.MethodName) prog_6_method_13_code (4 : Nat) (Option.some Jvm.ClassFile.FieldType.int) ∈ GW := GW_mem 446 (by decide +kernel) (by decide +kernel)
theorem k447 : Jvm.Cond.methodLink "TwoScribes$State" (136 : Nat) ({ cls := "TwoScribes$State", name := "deedOf", desc := "(I)I" } : Jvm.MethodName) ∈ GW := GW_mem 447 (by decide +kernel) (by decide +kernel)
theorem k448 : Jvm.Cond.instanceMethod ({ cls := "TwoScribes$State", name := "deedOf", desc := "(I)I" } : Jvm.MethodName) ∈ GW := GW_mem 448 (by decide +kernel) (by decide +kernel)
theorem k449 : Jvm.Cond.selects "TwoScribes$State" ({ cls := "TwoScribes$State", name := "deedOf", desc := "(I)I" } : Jvm.MethodName) ({ cls := "TwoScribes$State", name := "deedOf", desc := "(I)I" } : Jvm.MethodName) ∈ GW := GW_mem 449 (by decide +kernel) (by decide +kernel)
theorem k450 : Jvm.Cond.code ({ cls := "TwoScribes$State", name := "deedOf", desc := "(I)I" } : Jvm.MethodName) prog_6_method_12_code (4 : Nat) (Option.some Jvm.ClassFile.FieldType.int) ∈ GW := GW_mem 450 (by decide +kernel) (by decide +kernel)
theorem k451 : Jvm.Cond.methodLink "TwoScribes$State" (133 : Nat) ({ cls := "TwoScribes$Page", name := "letterFor", desc := "(I)I" } : Jvm.MethodName) ∈ GW := GW_mem 451 (by decide +kernel) (by decide +kernel)
theorem k452 : Jvm.Cond.methodLink "TwoScribes$State" (139 : Nat) ({ cls := "TwoScribes$State", name := "spendTick", desc := "(I)V" } : Jvm.MethodName) ∈ GW := GW_mem 452 (by decide +kernel) (by decide +kernel)
theorem k454 : Jvm.Cond.instanceMethod ({ cls := "TwoScribes$State", name := "spendTick", desc := "(I)V" } : Jvm.MethodName) ∈ GW := GW_mem 454 (by decide +kernel) (by decide +kernel)
theorem k455 : Jvm.Cond.code ({ cls := "TwoScribes$State", name := "spendTick", desc := "(I)V" } : Jvm.MethodName) prog_6_method_15_code (7 : Nat) (Option.none : Option Jvm.ClassFile.FieldType) ∈ GW := GW_mem 455 (by decide +kernel) (by decide +kernel)
theorem k456 : Jvm.Cond.constantFloat "TwoScribes$State" (154 : Nat) (1090519040 : UInt32) ∈ GW := GW_mem 456 (by decide +kernel) (by decide +kernel)
theorem k457 : Jvm.Cond.methodLink "TwoScribes$State" (155 : Nat) ({ cls := "TwoScribes$Page", name := "write", desc := "(IIZI)V" } : Jvm.MethodName) ∈ GW := GW_mem 457 (by decide +kernel) (by decide +kernel)
theorem k458 : Jvm.Cond.instanceMethod ({ cls := "TwoScribes$Page", name := "write", desc := "(IIZI)V" } : Jvm.MethodName) ∈ GW := GW_mem 458 (by decide +kernel) (by decide +kernel)
theorem k459 : Jvm.Cond.selects "TwoScribes$Page" ({ cls := "TwoScribes$Page", name := "write", desc := "(IIZI)V" } : Jvm.MethodName) ({ cls := "TwoScribes$Page", name := "write", desc := "(IIZI)V" } : Jvm.MethodName) ∈ GW := GW_mem 459 (by decide +kernel) (by decide +kernel)
theorem k460 : Jvm.Cond.code ({ cls := "TwoScribes$Page", name := "write", desc := "(IIZI)V" } : Jvm.MethodName) prog_3_method_10_code (5 : Nat) (Option.none : Option Jvm.ClassFile.FieldType) ∈ GW := GW_mem 460 (by decide +kernel) (by decide +kernel)
theorem k461 : Jvm.Cond.methodLink "TwoScribes$State" (142 : Nat) ({ cls := "TwoScribes$State", name := "goOnDipping", desc := "(LTwoScribes$Scribe;)V" } : Jvm.MethodName) ∈ GW := GW_mem 461 (by decide +kernel) (by decide +kernel)
theorem k463 : Jvm.Cond.instanceMethod ({ cls := "TwoScribes$State", name := "goOnDipping", desc := "(LTwoScribes$Scribe;)V" } : Jvm.MethodName) ∈ GW := GW_mem 463 (by decide +kernel) (by decide +kernel)
theorem k464 : Jvm.Cond.code ({ cls := "TwoScribes$State", name := "goOnDipping", desc := "(LTwoScribes$Scribe;)V" } : Jvm.MethodName) prog_6_method_14_code (4 : Nat) (Option.none : Option Jvm.ClassFile.FieldType) ∈ GW := GW_mem 464 (by decide +kernel) (by decide +kernel)
theorem k465 : Jvm.Cond.methodLink "TwoScribesLaw" (44 : Nat) ({ cls := "TwoScribes", name := "type", desc := "(C)I" } : Jvm.MethodName) ∈ GW := GW_mem 465 (by decide +kernel) (by decide +kernel)
theorem k466 : Jvm.Cond.instanceMethod ({ cls := "TwoScribes", name := "type", desc := "(C)I" } : Jvm.MethodName) ∈ GW := GW_mem 466 (by decide +kernel) (by decide +kernel)
theorem k467 : Jvm.Cond.selects "TwoScribes" ({ cls := "TwoScribes", name := "type", desc := "(C)I" } : Jvm.MethodName) ({ cls := "TwoScribes", name := "type", desc := "(C)I" } : Jvm.MethodName) ∈ GW := GW_mem 467 (by decide +kernel) (by decide +kernel)
theorem k468 : Jvm.Cond.code ({ cls := "TwoScribes", name := "type", desc := "(C)I" } : Jvm.MethodName) prog_1_method_9_code (2 : Nat) (Option.some Jvm.ClassFile.FieldType.int) ∈ GW := GW_mem 468 (by decide +kernel) (by decide +kernel)
theorem k469 : Jvm.Cond.methodLink "TwoScribes" (140 : Nat) ({ cls := "TwoScribes$PageText", name := "append", desc := "(C)Z" } : Jvm.MethodName) ∈ GW := GW_mem 469 (by decide +kernel) (by decide +kernel)
theorem k470 : Jvm.Cond.instanceMethod ({ cls := "TwoScribes$PageText", name := "append", desc := "(C)Z" } : Jvm.MethodName) ∈ GW := GW_mem 470 (by decide +kernel) (by decide +kernel)
theorem k471 : Jvm.Cond.selects "TwoScribes$PageText" ({ cls := "TwoScribes$PageText", name := "append", desc := "(C)Z" } : Jvm.MethodName) ({ cls := "TwoScribes$PageText", name := "append", desc := "(C)Z" } : Jvm.MethodName) ∈ GW := GW_mem 471 (by decide +kernel) (by decide +kernel)
theorem k472 : Jvm.Cond.code ({ cls := "TwoScribes$PageText", name := "append", desc := "(C)Z" } : Jvm.MethodName) prog_4_method_2_code (2 : Nat) (Option.some Jvm.ClassFile.FieldType.boolean) ∈ GW := GW_mem 472 (by decide +kernel) (by decide +kernel)
theorem k473 : Jvm.Cond.methodLink "TwoScribesLaw" (49 : Nat) ({ cls := "TwoScribes", name := "clearText", desc := "()I" } : Jvm.MethodName) ∈ GW := GW_mem 473 (by decide +kernel) (by decide +kernel)
theorem k474 : Jvm.Cond.instanceMethod ({ cls := "TwoScribes", name := "clearText", desc := "()I" } : Jvm.MethodName) ∈ GW := GW_mem 474 (by decide +kernel) (by decide +kernel)
theorem k475 : Jvm.Cond.selects "TwoScribes" ({ cls := "TwoScribes", name := "clearText", desc := "()I" } : Jvm.MethodName) ({ cls := "TwoScribes", name := "clearText", desc := "()I" } : Jvm.MethodName) ∈ GW := GW_mem 475 (by decide +kernel) (by decide +kernel)
theorem k476 : Jvm.Cond.code ({ cls := "TwoScribes", name := "clearText", desc := "()I" } : Jvm.MethodName) prog_1_method_10_code (2 : Nat) (Option.some Jvm.ClassFile.FieldType.int) ∈ GW := GW_mem 476 (by decide +kernel) (by decide +kernel)
theorem k477 : Jvm.Cond.methodLink "TwoScribesLaw" (53 : Nat) ({ cls := "TwoScribes", name := "undo", desc := "()I" } : Jvm.MethodName) ∈ GW := GW_mem 477 (by decide +kernel) (by decide +kernel)
theorem k478 : Jvm.Cond.instanceMethod ({ cls := "TwoScribes", name := "undo", desc := "()I" } : Jvm.MethodName) ∈ GW := GW_mem 478 (by decide +kernel) (by decide +kernel)
theorem k479 : Jvm.Cond.selects "TwoScribes" ({ cls := "TwoScribes", name := "undo", desc := "()I" } : Jvm.MethodName) ({ cls := "TwoScribes", name := "undo", desc := "()I" } : Jvm.MethodName) ∈ GW := GW_mem 479 (by decide +kernel) (by decide +kernel)
theorem k480 : Jvm.Cond.code ({ cls := "TwoScribes", name := "undo", desc := "()I" } : Jvm.MethodName) prog_1_method_11_code (1 : Nat) (Option.some Jvm.ClassFile.FieldType.int) ∈ GW := GW_mem 480 (by decide +kernel) (by decide +kernel)
theorem k481 : Jvm.Cond.methodLink "TwoScribes" (147 : Nat) ({ cls := "TwoScribes$History", name := "takeBack", desc := "(LTwoScribes$State;)Z" } : Jvm.MethodName) ∈ GW := GW_mem 481 (by decide +kernel) (by decide +kernel)
theorem k482 : Jvm.Cond.instanceMethod ({ cls := "TwoScribes$History", name := "takeBack", desc := "(LTwoScribes$State;)Z" } : Jvm.MethodName) ∈ GW := GW_mem 482 (by decide +kernel) (by decide +kernel)
theorem k483 : Jvm.Cond.selects "TwoScribes$History" ({ cls := "TwoScribes$History", name := "takeBack", desc := "(LTwoScribes$State;)Z" } : Jvm.MethodName) ({ cls := "TwoScribes$History", name := "takeBack", desc := "(LTwoScribes$State;)Z" } : Jvm.MethodName) ∈ GW := GW_mem 483 (by decide +kernel) (by decide +kernel)
theorem k484 : Jvm.Cond.code ({ cls := "TwoScribes$History", name := "takeBack", desc := "(LTwoScribes$State;)Z" } : Jvm.MethodName) prog_2_method_3_code (3 : Nat) (Option.some Jvm.ClassFile.FieldType.boolean) ∈ GW := GW_mem 484 (by decide +kernel) (by decide +kernel)
theorem k485 : Jvm.Cond.methodLink "TwoScribesLaw" (57 : Nat) ({ cls := "TwoScribes", name := "keep", desc := "()I" } : Jvm.MethodName) ∈ GW := GW_mem 485 (by decide +kernel) (by decide +kernel)
theorem k486 : Jvm.Cond.instanceMethod ({ cls := "TwoScribes", name := "keep", desc := "()I" } : Jvm.MethodName) ∈ GW := GW_mem 486 (by decide +kernel) (by decide +kernel)
theorem k487 : Jvm.Cond.selects "TwoScribes" ({ cls := "TwoScribes", name := "keep", desc := "()I" } : Jvm.MethodName) ({ cls := "TwoScribes", name := "keep", desc := "()I" } : Jvm.MethodName) ∈ GW := GW_mem 487 (by decide +kernel) (by decide +kernel)
theorem k488 : Jvm.Cond.code ({ cls := "TwoScribes", name := "keep", desc := "()I" } : Jvm.MethodName) prog_1_method_12_code (1 : Nat) (Option.some Jvm.ClassFile.FieldType.int) ∈ GW := GW_mem 488 (by decide +kernel) (by decide +kernel)
theorem k489 : Jvm.Cond.methodLink "TwoScribes" (154 : Nat) ({ cls := "TwoScribes$State", name := "copyFrom", desc := "(LTwoScribes$State;)V" } : Jvm.MethodName) ∈ GW := GW_mem 489 (by decide +kernel) (by decide +kernel)
theorem k490 : Jvm.Cond.methodLink "TwoScribesLaw" (61 : Nat) ({ cls := "TwoScribes", name := "restore", desc := "()I" } : Jvm.MethodName) ∈ GW := GW_mem 490 (by decide +kernel) (by decide +kernel)
theorem k491 : Jvm.Cond.instanceMethod ({ cls := "TwoScribes", name := "restore", desc := "()I" } : Jvm.MethodName) ∈ GW := GW_mem 491 (by decide +kernel) (by decide +kernel)
theorem k492 : Jvm.Cond.selects "TwoScribes" ({ cls := "TwoScribes", name := "restore", desc := "()I" } : Jvm.MethodName) ({ cls := "TwoScribes", name := "restore", desc := "()I" } : Jvm.MethodName) ∈ GW := GW_mem 492 (by decide +kernel) (by decide +kernel)
theorem k493 : Jvm.Cond.code ({ cls := "TwoScribes", name := "restore", desc := "()I" } : Jvm.MethodName) prog_1_method_13_code (1 : Nat) (Option.some Jvm.ClassFile.FieldType.int) ∈ GW := GW_mem 493 (by decide +kernel) (by decide +kernel)
theorem k494 : Jvm.Cond.methodLink "TwoScribesLaw" (65 : Nat) ({ cls := "TwoScribes", name := "place", desc := "(II)I" } : Jvm.MethodName) ∈ GW := GW_mem 494 (by decide +kernel) (by decide +kernel)
theorem k495 : Jvm.Cond.instanceMethod ({ cls := "TwoScribes", name := "place", desc := "(II)I" } : Jvm.MethodName) ∈ GW := GW_mem 495 (by decide +kernel) (by decide +kernel)
theorem k496 : Jvm.Cond.selects "TwoScribes" ({ cls := "TwoScribes", name := "place", desc := "(II)I" } : Jvm.MethodName) ({ cls := "TwoScribes", name := "place", desc := "(II)I" } : Jvm.MethodName) ∈ GW := GW_mem 496 (by decide +kernel) (by decide +kernel)
theorem k497 : Jvm.Cond.code ({ cls := "TwoScribes", name := "place", desc := "(II)I" } : Jvm.MethodName) prog_1_method_14_code (4 : Nat) (Option.some Jvm.ClassFile.FieldType.int) ∈ GW := GW_mem 497 (by decide +kernel) (by decide +kernel)
theorem k498 : Jvm.Cond.methodLink "TwoScribes" (173 : Nat) ({ cls := "TwoScribes$Page", name := "mirrorOf", desc := "(I)I" } : Jvm.MethodName) ∈ GW := GW_mem 498 (by decide +kernel) (by decide +kernel)
theorem k499 : Jvm.Cond.methodLink "TwoScribes" (176 : Nat) ({ cls := "TwoScribes$Page", name := "isWritten", desc := "(I)Z" } : Jvm.MethodName) ∈ GW := GW_mem 499 (by decide +kernel) (by decide +kernel)
theorem k500 : Jvm.Cond.methodLink "TwoScribesLaw" (69 : Nat) ({ cls := "TwoScribes", name := "scribe", desc := "(II)I" } : Jvm.MethodName) ∈ GW := GW_mem 500 (by decide +kernel) (by decide +kernel)
theorem k501 : Jvm.Cond.instanceMethod ({ cls := "TwoScribes", name := "scribe", desc := "(II)I" } : Jvm.MethodName) ∈ GW := GW_mem 501 (by decide +kernel) (by decide +kernel)
theorem k502 : Jvm.Cond.selects "TwoScribes" ({ cls := "TwoScribes", name := "scribe", desc := "(II)I" } : Jvm.MethodName) ({ cls := "TwoScribes", name := "scribe", desc := "(II)I" } : Jvm.MethodName) ∈ GW := GW_mem 502 (by decide +kernel) (by decide +kernel)
theorem k503 : Jvm.Cond.code ({ cls := "TwoScribes", name := "scribe", desc := "(II)I" } : Jvm.MethodName) prog_1_method_15_code (4 : Nat) (Option.some Jvm.ClassFile.FieldType.int) ∈ GW := GW_mem 503 (by decide +kernel) (by decide +kernel)
theorem k504 : Jvm.Cond.methodLink "TwoScribes" (183 : Nat) ({ cls := "TwoScribes$State", name := "nextPlaceOf", desc := "(I)I" } : Jvm.MethodName) ∈ GW := GW_mem 504 (by decide +kernel) (by decide +kernel)
theorem k505 : Jvm.Cond.methodLink "TwoScribesLaw" (73 : Nat) ({ cls := "TwoScribes", name := "ink", desc := "(I)D" } : Jvm.MethodName) ∈ GW := GW_mem 505 (by decide +kernel) (by decide +kernel)
theorem k506 : Jvm.Cond.instanceMethod ({ cls := "TwoScribes", name := "ink", desc := "(I)D" } : Jvm.MethodName) ∈ GW := GW_mem 506 (by decide +kernel) (by decide +kernel)
theorem k507 : Jvm.Cond.selects "TwoScribes" ({ cls := "TwoScribes", name := "ink", desc := "(I)D" } : Jvm.MethodName) ({ cls := "TwoScribes", name := "ink", desc := "(I)D" } : Jvm.MethodName) ∈ GW := GW_mem 507 (by decide +kernel) (by decide +kernel)
theorem k508 : Jvm.Cond.code ({ cls := "TwoScribes", name := "ink", desc := "(I)D" } : Jvm.MethodName) prog_1_method_16_code (2 : Nat) (Option.some Jvm.ClassFile.FieldType.double) ∈ GW := GW_mem 508 (by decide +kernel) (by decide +kernel)
theorem k509 : Jvm.Cond.constantDouble "TwoScribes" (214 : Nat) (13830554455654793216 : UInt64) ∈ GW := GW_mem 509 (by decide +kernel) (by decide +kernel)
theorem k510 : Jvm.Cond.methodLink "TwoScribesLaw" (78 : Nat) ({ cls := "TwoScribes", name := "next", desc := "(I)I" } : Jvm.MethodName) ∈ GW := GW_mem 510 (by decide +kernel) (by decide +kernel)
theorem k511 : Jvm.Cond.instanceMethod ({ cls := "TwoScribes", name := "next", desc := "(I)I" } : Jvm.MethodName) ∈ GW := GW_mem 511 (by decide +kernel) (by decide +kernel)
theorem k512 : Jvm.Cond.selects "TwoScribes" ({ cls := "TwoScribes", name := "next", desc := "(I)I" } : Jvm.MethodName) ({ cls := "TwoScribes", name := "next", desc := "(I)I" } : Jvm.MethodName) ∈ GW := GW_mem 512 (by decide +kernel) (by decide +kernel)
theorem k513 : Jvm.Cond.code ({ cls := "TwoScribes", name := "next", desc := "(I)I" } : Jvm.MethodName) prog_1_method_17_code (2 : Nat) (Option.some Jvm.ClassFile.FieldType.int) ∈ GW := GW_mem 513 (by decide +kernel) (by decide +kernel)
theorem k514 : Jvm.Cond.methodLink "TwoScribes" (216 : Nat) ({ cls := "TwoScribes$State", name := "deedOf", desc := "(I)I" } : Jvm.MethodName) ∈ GW := GW_mem 514 (by decide +kernel) (by decide +kernel)
theorem k515 : Jvm.Cond.methodLink "TwoScribes" (219 : Nat) ({ cls := "TwoScribes$State", name := "takeTurn", desc := "(I)I" } : Jvm.MethodName) ∈ GW := GW_mem 515 (by decide +kernel) (by decide +kernel)
theorem k516 : Jvm.Cond.methodLink "TwoScribesLaw" (82 : Nat) ({ cls := "TwoScribes", name := "doneIn", desc := "()I" } : Jvm.MethodName) ∈ GW := GW_mem 516 (by decide +kernel) (by decide +kernel)
theorem k517 : Jvm.Cond.instanceMethod ({ cls := "TwoScribes", name := "doneIn", desc := "()I" } : Jvm.MethodName) ∈ GW := GW_mem 517 (by decide +kernel) (by decide +kernel)
theorem k518 : Jvm.Cond.selects "TwoScribes" ({ cls := "TwoScribes", name := "doneIn", desc := "()I" } : Jvm.MethodName) ({ cls := "TwoScribes", name := "doneIn", desc := "()I" } : Jvm.MethodName) ∈ GW := GW_mem 518 (by decide +kernel) (by decide +kernel)
theorem k519 : Jvm.Cond.code ({ cls := "TwoScribes", name := "doneIn", desc := "()I" } : Jvm.MethodName) prog_1_method_18_code (1 : Nat) (Option.some Jvm.ClassFile.FieldType.int) ∈ GW := GW_mem 519 (by decide +kernel) (by decide +kernel)
theorem k520 : Jvm.Cond.methodLink "TwoScribes" (222 : Nat) ({ cls := "TwoScribes$State", name := "runUntilDone", desc := "()I" } : Jvm.MethodName) ∈ GW := GW_mem 520 (by decide +kernel) (by decide +kernel)
theorem k521 : Jvm.Cond.instanceMethod ({ cls := "TwoScribes$State", name := "runUntilDone", desc := "()I" } : Jvm.MethodName) ∈ GW := GW_mem 521 (by decide +kernel) (by decide +kernel)
theorem k522 : Jvm.Cond.selects "TwoScribes$State" ({ cls := "TwoScribes$State", name := "runUntilDone", desc := "()I" } : Jvm.MethodName) ({ cls := "TwoScribes$State", name := "runUntilDone", desc := "()I" } : Jvm.MethodName) ∈ GW := GW_mem 522 (by decide +kernel) (by decide +kernel)
theorem k523 : Jvm.Cond.code ({ cls := "TwoScribes$State", name := "runUntilDone", desc := "()I" } : Jvm.MethodName) prog_6_method_17_code (2 : Nat) (Option.some Jvm.ClassFile.FieldType.int) ∈ GW := GW_mem 523 (by decide +kernel) (by decide +kernel)
theorem k524 : Jvm.Cond.methodLink "TwoScribes$State" (162 : Nat) ({ cls := "TwoScribes$State", name := "isDone", desc := "()Z" } : Jvm.MethodName) ∈ GW := GW_mem 524 (by decide +kernel) (by decide +kernel)
theorem k525 : Jvm.Cond.instanceMethod ({ cls := "TwoScribes$State", name := "isDone", desc := "()Z" } : Jvm.MethodName) ∈ GW := GW_mem 525 (by decide +kernel) (by decide +kernel)
theorem k526 : Jvm.Cond.selects "TwoScribes$State" ({ cls := "TwoScribes$State", name := "isDone", desc := "()Z" } : Jvm.MethodName) ({ cls := "TwoScribes$State", name := "isDone", desc := "()Z" } : Jvm.MethodName) ∈ GW := GW_mem 526 (by decide +kernel) (by decide +kernel)
theorem k527 : Jvm.Cond.code ({ cls := "TwoScribes$State", name := "isDone", desc := "()Z" } : Jvm.MethodName) prog_6_method_6_code (1 : Nat) (Option.some Jvm.ClassFile.FieldType.boolean) ∈ GW := GW_mem 527 (by decide +kernel) (by decide +kernel)
theorem k528 : Jvm.Cond.methodLink "TwoScribes$State" (75 : Nat) ({ cls := "TwoScribes$State", name := "lettersOnPage", desc := "()I" } : Jvm.MethodName) ∈ GW := GW_mem 528 (by decide +kernel) (by decide +kernel)
theorem k529 : Jvm.Cond.instanceMethod ({ cls := "TwoScribes$State", name := "lettersOnPage", desc := "()I" } : Jvm.MethodName) ∈ GW := GW_mem 529 (by decide +kernel) (by decide +kernel)
theorem k530 : Jvm.Cond.selects "TwoScribes$State" ({ cls := "TwoScribes$State", name := "lettersOnPage", desc := "()I" } : Jvm.MethodName) ({ cls := "TwoScribes$State", name := "lettersOnPage", desc := "()I" } : Jvm.MethodName) ∈ GW := GW_mem 530 (by decide +kernel) (by decide +kernel)
theorem k531 : Jvm.Cond.code ({ cls := "TwoScribes$State", name := "lettersOnPage", desc := "()I" } : Jvm.MethodName) prog_6_method_5_code (1 : Nat) (Option.some Jvm.ClassFile.FieldType.int) ∈ GW := GW_mem 531 (by decide +kernel) (by decide +kernel)
theorem k532 : Jvm.Cond.methodLink "TwoScribes$State" (166 : Nat) ({ cls := "TwoScribes$State", name := "passTick", desc := "()Z" } : Jvm.MethodName) ∈ GW := GW_mem 532 (by decide +kernel) (by decide +kernel)
theorem k533 : Jvm.Cond.methodLink "TwoScribesLaw" (86 : Nat) ({ cls := "TwoScribes", name := "unlikePairs", desc := "()I" } : Jvm.MethodName) ∈ GW := GW_mem 533 (by decide +kernel) (by decide +kernel)
theorem k534 : Jvm.Cond.instanceMethod ({ cls := "TwoScribes", name := "unlikePairs", desc := "()I" } : Jvm.MethodName) ∈ GW := GW_mem 534 (by decide +kernel) (by decide +kernel)
theorem k535 : Jvm.Cond.selects "TwoScribes" ({ cls := "TwoScribes", name := "unlikePairs", desc := "()I" } : Jvm.MethodName) ({ cls := "TwoScribes", name := "unlikePairs", desc := "()I" } : Jvm.MethodName) ∈ GW := GW_mem 535 (by decide +kernel) (by decide +kernel)
theorem k536 : Jvm.Cond.code ({ cls := "TwoScribes", name := "unlikePairs", desc := "()I" } : Jvm.MethodName) prog_1_method_19_code (4 : Nat) (Option.some Jvm.ClassFile.FieldType.int) ∈ GW := GW_mem 536 (by decide +kernel) (by decide +kernel)
theorem k537 : Jvm.Cond.methodLink "TwoScribes" (225 : Nat) ({ cls := "TwoScribes$Page", name := "areUnlike", desc := "(II)Z" } : Jvm.MethodName) ∈ GW := GW_mem 537 (by decide +kernel) (by decide +kernel)
theorem k538 : Jvm.Cond.instanceMethod ({ cls := "TwoScribes$Page", name := "areUnlike", desc := "(II)Z" } : Jvm.MethodName) ∈ GW := GW_mem 538 (by decide +kernel) (by decide +kernel)
theorem k539 : Jvm.Cond.selects "TwoScribes$Page" ({ cls := "TwoScribes$Page", name := "areUnlike", desc := "(II)Z" } : Jvm.MethodName) ({ cls := "TwoScribes$Page", name := "areUnlike", desc := "(II)Z" } : Jvm.MethodName) ∈ GW := GW_mem 539 (by decide +kernel) (by decide +kernel)
theorem k540 : Jvm.Cond.code ({ cls := "TwoScribes$Page", name := "areUnlike", desc := "(II)Z" } : Jvm.MethodName) prog_3_method_9_code (3 : Nat) (Option.some Jvm.ClassFile.FieldType.boolean) ∈ GW := GW_mem 540 (by decide +kernel) (by decide +kernel)
theorem k541 : Jvm.Cond.methodLink "TwoScribes$Page" (68 : Nat) ({ cls := "TwoScribes$Page", name := "isWritten", desc := "(I)Z" } : Jvm.MethodName) ∈ GW := GW_mem 541 (by decide +kernel) (by decide +kernel)
theorem k542 : Jvm.Cond.methodLink "TwoScribesLaw" (90 : Nat) ({ cls := "TwoScribes", name := "unlikeReadings", desc := "()I" } : Jvm.MethodName) ∈ GW := GW_mem 542 (by decide +kernel) (by decide +kernel)
theorem k543 : Jvm.Cond.instanceMethod ({ cls := "TwoScribes", name := "unlikeReadings", desc := "()I" } : Jvm.MethodName) ∈ GW := GW_mem 543 (by decide +kernel) (by decide +kernel)
theorem k544 : Jvm.Cond.selects "TwoScribes" ({ cls := "TwoScribes", name := "unlikeReadings", desc := "()I" } : Jvm.MethodName) ({ cls := "TwoScribes", name := "unlikeReadings", desc := "()I" } : Jvm.MethodName) ∈ GW := GW_mem 544 (by decide +kernel) (by decide +kernel)
theorem k545 : Jvm.Cond.code ({ cls := "TwoScribes", name := "unlikeReadings", desc := "()I" } : Jvm.MethodName) prog_1_method_20_code (5 : Nat) (Option.some Jvm.ClassFile.FieldType.int) ∈ GW := GW_mem 545 (by decide +kernel) (by decide +kernel)
theorem k546 : Jvm.Cond.methodLink "TwoScribesLaw" (94 : Nat) ({ cls := "TwoScribes", name := "needed", desc := "()D" } : Jvm.MethodName) ∈ GW := GW_mem 546 (by decide +kernel) (by decide +kernel)
theorem k547 : Jvm.Cond.instanceMethod ({ cls := "TwoScribes", name := "needed", desc := "()D" } : Jvm.MethodName) ∈ GW := GW_mem 547 (by decide +kernel) (by decide +kernel)
theorem k548 : Jvm.Cond.selects "TwoScribes" ({ cls := "TwoScribes", name := "needed", desc := "()D" } : Jvm.MethodName) ({ cls := "TwoScribes", name := "needed", desc := "()D" } : Jvm.MethodName) ∈ GW := GW_mem 548 (by decide +kernel) (by decide +kernel)
theorem k549 : Jvm.Cond.code ({ cls := "TwoScribes", name := "needed", desc := "()D" } : Jvm.MethodName) prog_1_method_21_code (4 : Nat) (Option.some Jvm.ClassFile.FieldType.double) ∈ GW := GW_mem 549 (by decide +kernel) (by decide +kernel)
theorem k550 : Jvm.Cond.methodLink "TwoScribes" (229 : Nat) ({ cls := "TwoScribes", name := "inkFor", desc := "(I)F" } : Jvm.MethodName) ∈ GW := GW_mem 550 (by decide +kernel) (by decide +kernel)
theorem k551 : Jvm.Cond.methodLink "TwoScribesLaw" (99 : Nat) ({ cls := "TwoScribes", name := "bestPace", desc := "(I)I" } : Jvm.MethodName) ∈ GW := GW_mem 551 (by decide +kernel) (by decide +kernel)
theorem k552 : Jvm.Cond.instanceMethod ({ cls := "TwoScribes", name := "bestPace", desc := "(I)I" } : Jvm.MethodName) ∈ GW := GW_mem 552 (by decide +kernel) (by decide +kernel)
theorem k553 : Jvm.Cond.selects "TwoScribes" ({ cls := "TwoScribes", name := "bestPace", desc := "(I)I" } : Jvm.MethodName) ({ cls := "TwoScribes", name := "bestPace", desc := "(I)I" } : Jvm.MethodName) ∈ GW := GW_mem 553 (by decide +kernel) (by decide +kernel)
theorem k554 : Jvm.Cond.code ({ cls := "TwoScribes", name := "bestPace", desc := "(I)I" } : Jvm.MethodName) prog_1_method_22_code (6 : Nat) (Option.some Jvm.ClassFile.FieldType.int) ∈ GW := GW_mem 554 (by decide +kernel) (by decide +kernel)
theorem k555 : Jvm.Cond.methodLink "TwoScribes" (233 : Nat) ({ cls := "TwoScribes$State", name := "isDone", desc := "()Z" } : Jvm.MethodName) ∈ GW := GW_mem 555 (by decide +kernel) (by decide +kernel)
theorem k556 : Jvm.Cond.methodLink "TwoScribesLaw" (103 : Nat) ({ cls := "TwoScribes", name := "count", desc := "(I)I" } : Jvm.MethodName) ∈ GW := GW_mem 556 (by decide +kernel) (by decide +kernel)
theorem k557 : Jvm.Cond.instanceMethod ({ cls := "TwoScribes", name := "count", desc := "(I)I" } : Jvm.MethodName) ∈ GW := GW_mem 557 (by decide +kernel) (by decide +kernel)
theorem k558 : Jvm.Cond.selects "TwoScribes" ({ cls := "TwoScribes", name := "count", desc := "(I)I" } : Jvm.MethodName) ({ cls := "TwoScribes", name := "count", desc := "(I)I" } : Jvm.MethodName) ∈ GW := GW_mem 558 (by decide +kernel) (by decide +kernel)
theorem k559 : Jvm.Cond.code ({ cls := "TwoScribes", name := "count", desc := "(I)I" } : Jvm.MethodName) prog_1_method_23_code (2 : Nat) (Option.some Jvm.ClassFile.FieldType.int) ∈ GW := GW_mem 559 (by decide +kernel) (by decide +kernel)
theorem k560 : Jvm.Cond.methodLink "TwoScribes" (236 : Nat) ({ cls := "TwoScribes$State", name := "lettersOnPage", desc := "()I" } : Jvm.MethodName) ∈ GW := GW_mem 560 (by decide +kernel) (by decide +kernel)
theorem k561 : Jvm.Cond.methodLink "TwoScribes" (239 : Nat) ({ cls := "TwoScribes$Page", name := "countBlots", desc := "()I" } : Jvm.MethodName) ∈ GW := GW_mem 561 (by decide +kernel) (by decide +kernel)
theorem k562 : Jvm.Cond.instanceMethod ({ cls := "TwoScribes$Page", name := "countBlots", desc := "()I" } : Jvm.MethodName) ∈ GW := GW_mem 562 (by decide +kernel) (by decide +kernel)
theorem k563 : Jvm.Cond.selects "TwoScribes$Page" ({ cls := "TwoScribes$Page", name := "countBlots", desc := "()I" } : Jvm.MethodName) ({ cls := "TwoScribes$Page", name := "countBlots", desc := "()I" } : Jvm.MethodName) ∈ GW := GW_mem 563 (by decide +kernel) (by decide +kernel)
theorem k564 : Jvm.Cond.code ({ cls := "TwoScribes$Page", name := "countBlots", desc := "()I" } : Jvm.MethodName) prog_3_method_12_code (3 : Nat) (Option.some Jvm.ClassFile.FieldType.int) ∈ GW := GW_mem 564 (by decide +kernel) (by decide +kernel)
theorem k565 : Jvm.Cond.methodLink "TwoScribes" (242 : Nat) ({ cls := "TwoScribes$Page", name := "countNotDue", desc := "()I" } : Jvm.MethodName) ∈ GW := GW_mem 565 (by decide +kernel) (by decide +kernel)
theorem k566 : Jvm.Cond.instanceMethod ({ cls := "TwoScribes$Page", name := "countNotDue", desc := "()I" } : Jvm.MethodName) ∈ GW := GW_mem 566 (by decide +kernel) (by decide +kernel)
theorem k567 : Jvm.Cond.selects "TwoScribes$Page" ({ cls := "TwoScribes$Page", name := "countNotDue", desc := "()I" } : Jvm.MethodName) ({ cls := "TwoScribes$Page", name := "countNotDue", desc := "()I" } : Jvm.MethodName) ∈ GW := GW_mem 567 (by decide +kernel) (by decide +kernel)
theorem k568 : Jvm.Cond.code ({ cls := "TwoScribes$Page", name := "countNotDue", desc := "()I" } : Jvm.MethodName) prog_3_method_13_code (3 : Nat) (Option.some Jvm.ClassFile.FieldType.int) ∈ GW := GW_mem 568 (by decide +kernel) (by decide +kernel)
theorem k569 : Jvm.Cond.classLink "TwoScribesLaw" (10 : Nat) "TwoScribesModel" ∈ GW := GW_mem 569 (by decide +kernel) (by decide +kernel)
theorem k570 : Jvm.Cond.instantiable "TwoScribesModel" (13 : Nat) ∈ GW := GW_mem 570 (by decide +kernel) (by decide +kernel)
theorem k571 : Jvm.Cond.methodLink "TwoScribesLaw" (12 : Nat) ({ cls := "TwoScribesModel", name := "<init>", desc := "()V" } : Jvm.MethodName) ∈ GW := GW_mem 571 (by decide +kernel) (by decide +kernel)
theorem k572 : Jvm.Cond.instanceMethod ({ cls := "TwoScribesModel", name := "<init>", desc := "()V" } : Jvm.MethodName) ∈ GW := GW_mem 572 (by decide +kernel) (by decide +kernel)
theorem k573 : Jvm.Cond.code ({ cls := "TwoScribesModel", name := "<init>", desc := "()V" } : Jvm.MethodName) prog_8_method_1_code (1 : Nat) (Option.none : Option Jvm.ClassFile.FieldType) ∈ GW := GW_mem 573 (by decide +kernel) (by decide +kernel)
theorem k574 : Jvm.Cond.methodLink "TwoScribesModel" (1 : Nat) ({ cls := "java/lang/Object", name := "<init>", desc := "()V" } : Jvm.MethodName) ∈ GW := GW_mem 574 (by decide +kernel) (by decide +kernel)
theorem k575 : Jvm.Cond.fieldLink "TwoScribesModel" (7 : Nat) "TwoScribesModel" "all" "[I" ∈ GW := GW_mem 575 (by decide +kernel) (by decide +kernel)
theorem k576 : Jvm.Cond.fieldLink "TwoScribesModel" (13 : Nat) "TwoScribesModel" "kept" "[I" ∈ GW := GW_mem 576 (by decide +kernel) (by decide +kernel)
theorem k577 : Jvm.Cond.fieldLink "TwoScribesModel" (16 : Nat) "TwoScribesModel" "tried" "[I" ∈ GW := GW_mem 577 (by decide +kernel) (by decide +kernel)
theorem k578 : Jvm.Cond.fieldLink "TwoScribesModel" (19 : Nat) "TwoScribesModel" "history" "[I" ∈ GW := GW_mem 578 (by decide +kernel) (by decide +kernel)
theorem k579 : Jvm.Cond.fieldLink "TwoScribesModel" (31 : Nat) "TwoScribesModel" "historyLong" "I" ∈ GW := GW_mem 579 (by decide +kernel) (by decide +kernel)
theorem k580 : Jvm.Cond.fieldLink "TwoScribesModel" (22 : Nat) "TwoScribesModel" "snapshot" "[I" ∈ GW := GW_mem 580 (by decide +kernel) (by decide +kernel)
theorem k581 : Jvm.Cond.fieldLink "TwoScribesModel" (126 : Nat) "TwoScribesModel" "isKept" "I" ∈ GW := GW_mem 581 (by decide +kernel) (by decide +kernel)
theorem k582 : Jvm.Cond.fieldLink "TwoScribesModel" (25 : Nat) "TwoScribesModel" "draft" "[I" ∈ GW := GW_mem 582 (by decide +kernel) (by decide +kernel)
theorem k583 : Jvm.Cond.fieldLink "TwoScribesModel" (28 : Nat) "TwoScribesModel" "text" "[I" ∈ GW := GW_mem 583 (by decide +kernel) (by decide +kernel)
theorem k584 : Jvm.Cond.fieldLink "TwoScribesModel" (109 : Nat) "TwoScribesModel" "textLong" "I" ∈ GW := GW_mem 584 (by decide +kernel) (by decide +kernel)
theorem k585 : Jvm.Cond.fieldLink "TwoScribesModel" (112 : Nat) "TwoScribesModel" "spot" "I" ∈ GW := GW_mem 585 (by decide +kernel) (by decide +kernel)
theorem k586 : Jvm.Cond.fieldLink "TwoScribesModel" (69 : Nat) "TwoScribesModel" "read" "I" ∈ GW := GW_mem 586 (by decide +kernel) (by decide +kernel)
theorem k587 : Jvm.Cond.fieldLink "TwoScribesModel" (66 : Nat) "TwoScribesModel" "greatest" "I" ∈ GW := GW_mem 587 (by decide +kernel) (by decide +kernel)
theorem k615 : Jvm.Cond.methodLink "TwoScribesLaw" (17 : Nat) ({ cls := "TwoScribesModel", name := "readPage", desc := "()I" } : Jvm.MethodName) ∈ GW := GW_mem 615 (by decide +kernel) (by decide +kernel)
theorem k616 : Jvm.Cond.instanceMethod ({ cls := "TwoScribesModel", name := "readPage", desc := "()I" } : Jvm.MethodName) ∈ GW := GW_mem 616 (by decide +kernel) (by decide +kernel)
theorem k617 : Jvm.Cond.selects "TwoScribesModel" ({ cls := "TwoScribesModel", name := "readPage", desc := "()I" } : Jvm.MethodName) ({ cls := "TwoScribesModel", name := "readPage", desc := "()I" } : Jvm.MethodName) ∈ GW := GW_mem 617 (by decide +kernel) (by decide +kernel)
theorem k618 : Jvm.Cond.code ({ cls := "TwoScribesModel", name := "readPage", desc := "()I" } : Jvm.MethodName) prog_8_method_19_code (3 : Nat) (Option.some Jvm.ClassFile.FieldType.int) ∈ GW := GW_mem 618 (by decide +kernel) (by decide +kernel)
theorem k619 : Jvm.Cond.methodLink "TwoScribesModel" (62 : Nat) ({ cls := "TwoScribesModel", name := "fault", desc := "()I" } : Jvm.MethodName) ∈ GW := GW_mem 619 (by decide +kernel) (by decide +kernel)
theorem k621 : Jvm.Cond.instanceMethod ({ cls := "TwoScribesModel", name := "fault", desc := "()I" } : Jvm.MethodName) ∈ GW := GW_mem 621 (by decide +kernel) (by decide +kernel)
theorem k622 : Jvm.Cond.code ({ cls := "TwoScribesModel", name := "fault", desc := "()I" } : Jvm.MethodName) prog_8_method_33_code (2 : Nat) (Option.some Jvm.ClassFile.FieldType.int) ∈ GW := GW_mem 622 (by decide +kernel) (by decide +kernel)
theorem k623 : Jvm.Cond.methodLink "TwoScribesModel" (115 : Nat) ({ cls := "TwoScribesModel", name := "isHere", desc := "(II)Z" } : Jvm.MethodName) ∈ GW := GW_mem 623 (by decide +kernel) (by decide +kernel)
theorem k625 : Jvm.Cond.instanceMethod ({ cls := "TwoScribesModel", name := "isHere", desc := "(II)Z" } : Jvm.MethodName) ∈ GW := GW_mem 625 (by decide +kernel) (by decide +kernel)
theorem k626 : Jvm.Cond.code ({ cls := "TwoScribesModel", name := "isHere", desc := "(II)Z" } : Jvm.MethodName) prog_8_method_30_code (3 : Nat) (Option.some Jvm.ClassFile.FieldType.boolean) ∈ GW := GW_mem 626 (by decide +kernel) (by decide +kernel)
theorem k627 : Jvm.Cond.methodLink "TwoScribesModel" (35 : Nat) ({ cls := "TwoScribesModel", name := "in", desc := "(JJJ)Z" } : Jvm.MethodName) ∈ GW := GW_mem 627 (by decide +kernel) (by decide +kernel)
theorem k628 : Jvm.Cond.static ({ cls := "TwoScribesModel", name := "in", desc := "(JJJ)Z" } : Jvm.MethodName) ∈ GW := GW_mem 628 (by decide +kernel) (by decide +kernel)
theorem k629 : Jvm.Cond.code ({ cls := "TwoScribesModel", name := "in", desc := "(JJJ)Z" } : Jvm.MethodName) prog_8_method_3_code (6 : Nat) (Option.some Jvm.ClassFile.FieldType.boolean) ∈ GW := GW_mem 629 (by decide +kernel) (by decide +kernel)
theorem k630 : Jvm.Cond.methodLink "TwoScribesModel" (119 : Nat) ({ cls := "TwoScribesModel", name := "takesOne", desc := "(I)Z" } : Jvm.MethodName) ∈ GW := GW_mem 630 (by decide +kernel) (by decide +kernel)
theorem k632 : Jvm.Cond.instanceMethod ({ cls := "TwoScribesModel", name := "takesOne", desc := "(I)Z" } : Jvm.MethodName) ∈ GW := GW_mem 632 (by decide +kernel) (by decide +kernel)
theorem k633 : Jvm.Cond.code ({ cls := "TwoScribesModel", name := "takesOne", desc := "(I)Z" } : Jvm.MethodName) prog_8_method_31_code (3 : Nat) (Option.some Jvm.ClassFile.FieldType.boolean) ∈ GW := GW_mem 633 (by decide +kernel) (by decide +kernel)
theorem k634 : Jvm.Cond.methodLink "TwoScribesModel" (122 : Nat) ({ cls := "TwoScribesModel", name := "readsMisreading", desc := "()Z" } : Jvm.MethodName) ∈ GW := GW_mem 634 (by decide +kernel) (by decide +kernel)
theorem k636 : Jvm.Cond.instanceMethod ({ cls := "TwoScribesModel", name := "readsMisreading", desc := "()Z" } : Jvm.MethodName) ∈ GW := GW_mem 636 (by decide +kernel) (by decide +kernel)
theorem k637 : Jvm.Cond.code ({ cls := "TwoScribesModel", name := "readsMisreading", desc := "()Z" } : Jvm.MethodName) prog_8_method_32_code (2 : Nat) (Option.some Jvm.ClassFile.FieldType.boolean) ∈ GW := GW_mem 637 (by decide +kernel) (by decide +kernel)
theorem k638 : Jvm.Cond.methodLink "TwoScribesModel" (72 : Nat) ({ cls := "TwoScribesModel", name := "keeps", desc := "()V" } : Jvm.MethodName) ∈ GW := GW_mem 638 (by decide +kernel) (by decide +kernel)
theorem k640 : Jvm.Cond.instanceMethod ({ cls := "TwoScribesModel", name := "keeps", desc := "()V" } : Jvm.MethodName) ∈ GW := GW_mem 640 (by decide +kernel) (by decide +kernel)
theorem k641 : Jvm.Cond.code ({ cls := "TwoScribesModel", name := "keeps", desc := "()V" } : Jvm.MethodName) prog_8_method_4_code (2 : Nat) (Option.none : Option Jvm.ClassFile.FieldType) ∈ GW := GW_mem 641 (by decide +kernel) (by decide +kernel)
theorem k642 : Jvm.Cond.methodLink "TwoScribesModel" (75 : Nat) ({ cls := "TwoScribesModel", name := "ends", desc := "(I)I" } : Jvm.MethodName) ∈ GW := GW_mem 642 (by decide +kernel) (by decide +kernel)
theorem k644 : Jvm.Cond.instanceMethod ({ cls := "TwoScribesModel", name := "ends", desc := "(I)I" } : Jvm.MethodName) ∈ GW := GW_mem 644 (by decide +kernel) (by decide +kernel)
theorem k645 : Jvm.Cond.code ({ cls := "TwoScribesModel", name := "ends", desc := "(I)I" } : Jvm.MethodName) prog_8_method_5_code (3 : Nat) (Option.some Jvm.ClassFile.FieldType.int) ∈ GW := GW_mem 645 (by decide +kernel) (by decide +kernel)
theorem k646 : Jvm.Cond.methodLink "TwoScribesLaw" (22 : Nat) ({ cls := "TwoScribesModel", name := "misread", desc := "(II)I" } : Jvm.MethodName) ∈ GW := GW_mem 646 (by decide +kernel) (by decide +kernel)
theorem k647 : Jvm.Cond.instanceMethod ({ cls := "TwoScribesModel", name := "misread", desc := "(II)I" } : Jvm.MethodName) ∈ GW := GW_mem 647 (by decide +kernel) (by decide +kernel)
theorem k648 : Jvm.Cond.selects "TwoScribesModel" ({ cls := "TwoScribesModel", name := "misread", desc := "(II)I" } : Jvm.MethodName) ({ cls := "TwoScribesModel", name := "misread", desc := "(II)I" } : Jvm.MethodName) ∈ GW := GW_mem 648 (by decide +kernel) (by decide +kernel)
theorem k649 : Jvm.Cond.code ({ cls := "TwoScribesModel", name := "misread", desc := "(II)I" } : Jvm.MethodName) prog_8_method_21_code (4 : Nat) (Option.some Jvm.ClassFile.FieldType.int) ∈ GW := GW_mem 649 (by decide +kernel) (by decide +kernel)
theorem k650 : Jvm.Cond.methodLink "TwoScribesModel" (78 : Nat) ({ cls := "TwoScribesModel", name := "isPlace", desc := "(I)Z" } : Jvm.MethodName) ∈ GW := GW_mem 650 (by decide +kernel) (by decide +kernel)
theorem k652 : Jvm.Cond.instanceMethod ({ cls := "TwoScribesModel", name := "isPlace", desc := "(I)Z" } : Jvm.MethodName) ∈ GW := GW_mem 652 (by decide +kernel) (by decide +kernel)
theorem k653 : Jvm.Cond.code ({ cls := "TwoScribesModel", name := "isPlace", desc := "(I)Z" } : Jvm.MethodName) prog_8_method_8_code (2 : Nat) (Option.some Jvm.ClassFile.FieldType.boolean) ∈ GW := GW_mem 653 (by decide +kernel) (by decide +kernel)
theorem k654 : Jvm.Cond.constantLong "TwoScribesModel" (82 : Nat) (26 : Int64) ∈ GW := GW_mem 654 (by decide +kernel) (by decide +kernel)
theorem k655 : Jvm.Cond.methodLink "TwoScribesModel" (84 : Nat) ({ cls := "TwoScribesModel", name := "isBegun", desc := "(I)Z" } : Jvm.MethodName) ∈ GW := GW_mem 655 (by decide +kernel) (by decide +kernel)
theorem k657 : Jvm.Cond.instanceMethod ({ cls := "TwoScribesModel", name := "isBegun", desc := "(I)Z" } : Jvm.MethodName) ∈ GW := GW_mem 657 (by decide +kernel) (by decide +kernel)
theorem k658 : Jvm.Cond.code ({ cls := "TwoScribesModel", name := "isBegun", desc := "(I)Z" } : Jvm.MethodName) prog_8_method_20_code (4 : Nat) (Option.some Jvm.ClassFile.FieldType.boolean) ∈ GW := GW_mem 658 (by decide +kernel) (by decide +kernel)
theorem k659 : Jvm.Cond.methodLink "TwoScribesModel" (43 : Nat) ({ cls := "TwoScribesModel", name := "nextPlace", desc := "(I)I" } : Jvm.MethodName) ∈ GW := GW_mem 659 (by decide +kernel) (by decide +kernel)
theorem k661 : Jvm.Cond.instanceMethod ({ cls := "TwoScribesModel", name := "nextPlace", desc := "(I)I" } : Jvm.MethodName) ∈ GW := GW_mem 661 (by decide +kernel) (by decide +kernel)
theorem k662 : Jvm.Cond.code ({ cls := "TwoScribesModel", name := "nextPlace", desc := "(I)I" } : Jvm.MethodName) prog_8_method_11_code (3 : Nat) (Option.some Jvm.ClassFile.FieldType.int) ∈ GW := GW_mem 662 (by decide +kernel) (by decide +kernel)
theorem k663 : Jvm.Cond.methodLink "TwoScribesModel" (46 : Nat) ({ cls := "TwoScribesModel", name := "letterAt", desc := "(I)I" } : Jvm.MethodName) ∈ GW := GW_mem 663 (by decide +kernel) (by decide +kernel)
theorem k665 : Jvm.Cond.instanceMethod ({ cls := "TwoScribesModel", name := "letterAt", desc := "(I)I" } : Jvm.MethodName) ∈ GW := GW_mem 665 (by decide +kernel) (by decide +kernel)
theorem k666 : Jvm.Cond.code ({ cls := "TwoScribesModel", name := "letterAt", desc := "(I)I" } : Jvm.MethodName) prog_8_method_10_code (2 : Nat) (Option.some Jvm.ClassFile.FieldType.int) ∈ GW := GW_mem 666 (by decide +kernel) (by decide +kernel)
theorem k667 : Jvm.Cond.methodLink "TwoScribesModel" (39 : Nat) ({ cls := "TwoScribesModel", name := "due", desc := "(I)I" } : Jvm.MethodName) ∈ GW := GW_mem 667 (by decide +kernel) (by decide +kernel)
theorem k669 : Jvm.Cond.instanceMethod ({ cls := "TwoScribesModel", name := "due", desc := "(I)I" } : Jvm.MethodName) ∈ GW := GW_mem 669 (by decide +kernel) (by decide +kernel)
theorem k670 : Jvm.Cond.code ({ cls := "TwoScribesModel", name := "due", desc := "(I)I" } : Jvm.MethodName) prog_8_method_9_code (2 : Nat) (Option.some Jvm.ClassFile.FieldType.int) ∈ GW := GW_mem 670 (by decide +kernel) (by decide +kernel)
theorem k671 : Jvm.Cond.methodLink "TwoScribesLaw" (27 : Nat) ({ cls := "TwoScribesModel", name := "correct", desc := "(I)I" } : Jvm.MethodName) ∈ GW := GW_mem 671 (by decide +kernel) (by decide +kernel)
theorem k672 : Jvm.Cond.instanceMethod ({ cls := "TwoScribesModel", name := "correct", desc := "(I)I" } : Jvm.MethodName) ∈ GW := GW_mem 672 (by decide +kernel) (by decide +kernel)
theorem k673 : Jvm.Cond.selects "TwoScribesModel" ({ cls := "TwoScribesModel", name := "correct", desc := "(I)I" } : Jvm.MethodName) ({ cls := "TwoScribesModel", name := "correct", desc := "(I)I" } : Jvm.MethodName) ∈ GW := GW_mem 673 (by decide +kernel) (by decide +kernel)
theorem k674 : Jvm.Cond.code ({ cls := "TwoScribesModel", name := "correct", desc := "(I)I" } : Jvm.MethodName) prog_8_method_22_code (3 : Nat) (Option.some Jvm.ClassFile.FieldType.int) ∈ GW := GW_mem 674 (by decide +kernel) (by decide +kernel)
theorem k675 : Jvm.Cond.methodLink "TwoScribesModel" (87 : Nat) ({ cls := "TwoScribesModel", name := "marginLeft", desc := "()I" } : Jvm.MethodName) ∈ GW := GW_mem 675 (by decide +kernel) (by decide +kernel)
theorem k677 : Jvm.Cond.instanceMethod ({ cls := "TwoScribesModel", name := "marginLeft", desc := "()I" } : Jvm.MethodName) ∈ GW := GW_mem 677 (by decide +kernel) (by decide +kernel)
theorem k678 : Jvm.Cond.code ({ cls := "TwoScribesModel", name := "marginLeft", desc := "()I" } : Jvm.MethodName) prog_8_method_13_code (1 : Nat) (Option.some Jvm.ClassFile.FieldType.int) ∈ GW := GW_mem 678 (by decide +kernel) (by decide +kernel)
theorem k679 : Jvm.Cond.methodLink "TwoScribesLaw" (31 : Nat) ({ cls := "TwoScribesModel", name := "setPace", desc := "(II)I" } : Jvm.MethodName) ∈ GW := GW_mem 679 (by decide +kernel) (by decide +kernel)
theorem k680 : Jvm.Cond.instanceMethod ({ cls := "TwoScribesModel", name := "setPace", desc := "(II)I" } : Jvm.MethodName) ∈ GW := GW_mem 680 (by decide +kernel) (by decide +kernel)
theorem k681 : Jvm.Cond.selects "TwoScribesModel" ({ cls := "TwoScribesModel", name := "setPace", desc := "(II)I" } : Jvm.MethodName) ({ cls := "TwoScribesModel", name := "setPace", desc := "(II)I" } : Jvm.MethodName) ∈ GW := GW_mem 681 (by decide +kernel) (by decide +kernel)
theorem k682 : Jvm.Cond.code ({ cls := "TwoScribesModel", name := "setPace", desc := "(II)I" } : Jvm.MethodName) prog_8_method_24_code (4 : Nat) (Option.some Jvm.ClassFile.FieldType.int) ∈ GW := GW_mem 682 (by decide +kernel) (by decide +kernel)
theorem k683 : Jvm.Cond.methodLink "TwoScribesModel" (90 : Nat) ({ cls := "TwoScribesModel", name := "isScribe", desc := "(I)Z" } : Jvm.MethodName) ∈ GW := GW_mem 683 (by decide +kernel) (by decide +kernel)
theorem k684 : Jvm.Cond.static ({ cls := "TwoScribesModel", name := "isScribe", desc := "(I)Z" } : Jvm.MethodName) ∈ GW := GW_mem 684 (by decide +kernel) (by decide +kernel)
theorem k685 : Jvm.Cond.code ({ cls := "TwoScribesModel", name := "isScribe", desc := "(I)Z" } : Jvm.MethodName) prog_8_method_23_code (1 : Nat) (Option.some Jvm.ClassFile.FieldType.boolean) ∈ GW := GW_mem 685 (by decide +kernel) (by decide +kernel)
theorem k686 : Jvm.Cond.constantLong "TwoScribesModel" (93 : Nat) (9 : Int64) ∈ GW := GW_mem 686 (by decide +kernel) (by decide +kernel)
theorem k687 : Jvm.Cond.methodLink "TwoScribesLaw" (35 : Nat) ({ cls := "TwoScribesModel", name := "pour", desc := "(I)I" } : Jvm.MethodName) ∈ GW := GW_mem 687 (by decide +kernel) (by decide +kernel)
theorem k688 : Jvm.Cond.instanceMethod ({ cls := "TwoScribesModel", name := "pour", desc := "(I)I" } : Jvm.MethodName) ∈ GW := GW_mem 688 (by decide +kernel) (by decide +kernel)
theorem k689 : Jvm.Cond.selects "TwoScribesModel" ({ cls := "TwoScribesModel", name := "pour", desc := "(I)I" } : Jvm.MethodName) ({ cls := "TwoScribesModel", name := "pour", desc := "(I)I" } : Jvm.MethodName) ∈ GW := GW_mem 689 (by decide +kernel) (by decide +kernel)
theorem k690 : Jvm.Cond.code ({ cls := "TwoScribesModel", name := "pour", desc := "(I)I" } : Jvm.MethodName) prog_8_method_25_code (2 : Nat) (Option.some Jvm.ClassFile.FieldType.int) ∈ GW := GW_mem 690 (by decide +kernel) (by decide +kernel)
theorem k691 : Jvm.Cond.constantLong "TwoScribesModel" (95 : Nat) (80 : Int64) ∈ GW := GW_mem 691 (by decide +kernel) (by decide +kernel)
theorem k692 : Jvm.Cond.methodLink "TwoScribesLaw" (39 : Nat) ({ cls := "TwoScribesModel", name := "set", desc := "(II)I" } : Jvm.MethodName) ∈ GW := GW_mem 692 (by decide +kernel) (by decide +kernel)
theorem k693 : Jvm.Cond.instanceMethod ({ cls := "TwoScribesModel", name := "set", desc := "(II)I" } : Jvm.MethodName) ∈ GW := GW_mem 693 (by decide +kernel) (by decide +kernel)
theorem k694 : Jvm.Cond.selects "TwoScribesModel" ({ cls := "TwoScribesModel", name := "set", desc := "(II)I" } : Jvm.MethodName) ({ cls := "TwoScribesModel", name := "set", desc := "(II)I" } : Jvm.MethodName) ∈ GW := GW_mem 694 (by decide +kernel) (by decide +kernel)
theorem k695 : Jvm.Cond.code ({ cls := "TwoScribesModel", name := "set", desc := "(II)I" } : Jvm.MethodName) prog_8_method_26_code (4 : Nat) (Option.some Jvm.ClassFile.FieldType.int) ∈ GW := GW_mem 695 (by decide +kernel) (by decide +kernel)
theorem k696 : Jvm.Cond.constantLong "TwoScribesModel" (97 : Nat) (2 : Int64) ∈ GW := GW_mem 696 (by decide +kernel) (by decide +kernel)
theorem k697 : Jvm.Cond.constantLong "TwoScribesModel" (99 : Nat) (8 : Int64) ∈ GW := GW_mem 697 (by decide +kernel) (by decide +kernel)
theorem k698 : Jvm.Cond.constantLong "TwoScribesModel" (101 : Nat) (20 : Int64) ∈ GW := GW_mem 698 (by decide +kernel) (by decide +kernel)
theorem k699 : Jvm.Cond.methodLink "TwoScribesLaw" (43 : Nat) ({ cls := "TwoScribesModel", name := "pass", desc := "(I)I" } : Jvm.MethodName) ∈ GW := GW_mem 699 (by decide +kernel) (by decide +kernel)
theorem k700 : Jvm.Cond.instanceMethod ({ cls := "TwoScribesModel", name := "pass", desc := "(I)I" } : Jvm.MethodName) ∈ GW := GW_mem 700 (by decide +kernel) (by decide +kernel)
theorem k701 : Jvm.Cond.selects "TwoScribesModel" ({ cls := "TwoScribesModel", name := "pass", desc := "(I)I" } : Jvm.MethodName) ({ cls := "TwoScribesModel", name := "pass", desc := "(I)I" } : Jvm.MethodName) ∈ GW := GW_mem 701 (by decide +kernel) (by decide +kernel)
theorem k702 : Jvm.Cond.code ({ cls := "TwoScribesModel", name := "pass", desc := "(I)I" } : Jvm.MethodName) prog_8_method_27_code (4 : Nat) (Option.some Jvm.ClassFile.FieldType.int) ∈ GW := GW_mem 702 (by decide +kernel) (by decide +kernel)
theorem k703 : Jvm.Cond.constantLong "TwoScribesModel" (103 : Nat) (99 : Int64) ∈ GW := GW_mem 703 (by decide +kernel) (by decide +kernel)
theorem k704 : Jvm.Cond.constant "TwoScribesModel" (105 : Nat) (99999 : Int32) ∈ GW := GW_mem 704 (by decide +kernel) (by decide +kernel)
theorem k705 : Jvm.Cond.methodLink "TwoScribesModel" (106 : Nat) ({ cls := "TwoScribesModel", name := "ticks", desc := "()V" } : Jvm.MethodName) ∈ GW := GW_mem 705 (by decide +kernel) (by decide +kernel)
theorem k707 : Jvm.Cond.instanceMethod ({ cls := "TwoScribesModel", name := "ticks", desc := "()V" } : Jvm.MethodName) ∈ GW := GW_mem 707 (by decide +kernel) (by decide +kernel)
theorem k708 : Jvm.Cond.code ({ cls := "TwoScribesModel", name := "ticks", desc := "()V" } : Jvm.MethodName) prog_8_method_18_code (1 : Nat) (Option.none : Option Jvm.ClassFile.FieldType) ∈ GW := GW_mem 708 (by decide +kernel) (by decide +kernel)
theorem k709 : Jvm.Cond.methodLink "TwoScribesModel" (59 : Nat) ({ cls := "TwoScribesModel", name := "goes", desc := "(I)V" } : Jvm.MethodName) ∈ GW := GW_mem 709 (by decide +kernel) (by decide +kernel)
theorem k711 : Jvm.Cond.instanceMethod ({ cls := "TwoScribesModel", name := "goes", desc := "(I)V" } : Jvm.MethodName) ∈ GW := GW_mem 711 (by decide +kernel) (by decide +kernel)
theorem k712 : Jvm.Cond.code ({ cls := "TwoScribesModel", name := "goes", desc := "(I)V" } : Jvm.MethodName) prog_8_method_17_code (2 : Nat) (Option.none : Option Jvm.ClassFile.FieldType) ∈ GW := GW_mem 712 (by decide +kernel) (by decide +kernel)
theorem k713 : Jvm.Cond.methodLink "TwoScribesModel" (49 : Nat) ({ cls := "TwoScribesModel", name := "does", desc := "(I)I" } : Jvm.MethodName) ∈ GW := GW_mem 713 (by decide +kernel) (by decide +kernel)
theorem k715 : Jvm.Cond.instanceMethod ({ cls := "TwoScribesModel", name := "does", desc := "(I)I" } : Jvm.MethodName) ∈ GW := GW_mem 715 (by decide +kernel) (by decide +kernel)
theorem k716 : Jvm.Cond.code ({ cls := "TwoScribesModel", name := "does", desc := "(I)I" } : Jvm.MethodName) prog_8_method_14_code (3 : Nat) (Option.some Jvm.ClassFile.FieldType.int) ∈ GW := GW_mem 716 (by decide +kernel) (by decide +kernel)
theorem k717 : Jvm.Cond.methodLink "TwoScribesModel" (52 : Nat) ({ cls := "TwoScribesModel", name := "writes", desc := "(I)V" } : Jvm.MethodName) ∈ GW := GW_mem 717 (by decide +kernel) (by decide +kernel)
theorem k719 : Jvm.Cond.instanceMethod ({ cls := "TwoScribesModel", name := "writes", desc := "(I)V" } : Jvm.MethodName) ∈ GW := GW_mem 719 (by decide +kernel) (by decide +kernel)
theorem k720 : Jvm.Cond.code ({ cls := "TwoScribesModel", name := "writes", desc := "(I)V" } : Jvm.MethodName) prog_8_method_16_code (4 : Nat) (Option.none : Option Jvm.ClassFile.FieldType) ∈ GW := GW_mem 720 (by decide +kernel) (by decide +kernel)
theorem k721 : Jvm.Cond.methodLink "TwoScribesModel" (56 : Nat) ({ cls := "TwoScribesModel", name := "dips", desc := "(I)V" } : Jvm.MethodName) ∈ GW := GW_mem 721 (by decide +kernel) (by decide +kernel)
theorem k723 : Jvm.Cond.instanceMethod ({ cls := "TwoScribesModel", name := "dips", desc := "(I)V" } : Jvm.MethodName) ∈ GW := GW_mem 723 (by decide +kernel) (by decide +kernel)
theorem k724 : Jvm.Cond.code ({ cls := "TwoScribesModel", name := "dips", desc := "(I)V" } : Jvm.MethodName) prog_8_method_15_code (4 : Nat) (Option.none : Option Jvm.ClassFile.FieldType) ∈ GW := GW_mem 724 (by decide +kernel) (by decide +kernel)
theorem k725 : Jvm.Cond.methodLink "TwoScribesLaw" (48 : Nat) ({ cls := "TwoScribesModel", name := "type", desc := "(C)I" } : Jvm.MethodName) ∈ GW := GW_mem 725 (by decide +kernel) (by decide +kernel)
theorem k726 : Jvm.Cond.instanceMethod ({ cls := "TwoScribesModel", name := "type", desc := "(C)I" } : Jvm.MethodName) ∈ GW := GW_mem 726 (by decide +kernel) (by decide +kernel)
theorem k727 : Jvm.Cond.selects "TwoScribesModel" ({ cls := "TwoScribesModel", name := "type", desc := "(C)I" } : Jvm.MethodName) ({ cls := "TwoScribesModel", name := "type", desc := "(C)I" } : Jvm.MethodName) ∈ GW := GW_mem 727 (by decide +kernel) (by decide +kernel)
theorem k728 : Jvm.Cond.code ({ cls := "TwoScribesModel", name := "type", desc := "(C)I" } : Jvm.MethodName) prog_8_method_28_code (2 : Nat) (Option.some Jvm.ClassFile.FieldType.int) ∈ GW := GW_mem 728 (by decide +kernel) (by decide +kernel)
theorem k729 : Jvm.Cond.methodLink "TwoScribesLaw" (52 : Nat) ({ cls := "TwoScribesModel", name := "clearText", desc := "()I" } : Jvm.MethodName) ∈ GW := GW_mem 729 (by decide +kernel) (by decide +kernel)
theorem k730 : Jvm.Cond.instanceMethod ({ cls := "TwoScribesModel", name := "clearText", desc := "()I" } : Jvm.MethodName) ∈ GW := GW_mem 730 (by decide +kernel) (by decide +kernel)
theorem k731 : Jvm.Cond.selects "TwoScribesModel" ({ cls := "TwoScribesModel", name := "clearText", desc := "()I" } : Jvm.MethodName) ({ cls := "TwoScribesModel", name := "clearText", desc := "()I" } : Jvm.MethodName) ∈ GW := GW_mem 731 (by decide +kernel) (by decide +kernel)
theorem k732 : Jvm.Cond.code ({ cls := "TwoScribesModel", name := "clearText", desc := "()I" } : Jvm.MethodName) prog_8_method_29_code (2 : Nat) (Option.some Jvm.ClassFile.FieldType.int) ∈ GW := GW_mem 732 (by decide +kernel) (by decide +kernel)
theorem k733 : Jvm.Cond.methodLink "TwoScribesLaw" (56 : Nat) ({ cls := "TwoScribesModel", name := "undo", desc := "()I" } : Jvm.MethodName) ∈ GW := GW_mem 733 (by decide +kernel) (by decide +kernel)
theorem k734 : Jvm.Cond.instanceMethod ({ cls := "TwoScribesModel", name := "undo", desc := "()I" } : Jvm.MethodName) ∈ GW := GW_mem 734 (by decide +kernel) (by decide +kernel)
theorem k735 : Jvm.Cond.selects "TwoScribesModel" ({ cls := "TwoScribesModel", name := "undo", desc := "()I" } : Jvm.MethodName) ({ cls := "TwoScribesModel", name := "undo", desc := "()I" } : Jvm.MethodName) ∈ GW := GW_mem 735 (by decide +kernel) (by decide +kernel)
theorem k736 : Jvm.Cond.code ({ cls := "TwoScribesModel", name := "undo", desc := "()I" } : Jvm.MethodName) prog_8_method_34_code (2 : Nat) (Option.some Jvm.ClassFile.FieldType.int) ∈ GW := GW_mem 736 (by decide +kernel) (by decide +kernel)
theorem k737 : Jvm.Cond.methodLink "TwoScribesLaw" (60 : Nat) ({ cls := "TwoScribesModel", name := "keep", desc := "()I" } : Jvm.MethodName) ∈ GW := GW_mem 737 (by decide +kernel) (by decide +kernel)
theorem k738 : Jvm.Cond.instanceMethod ({ cls := "TwoScribesModel", name := "keep", desc := "()I" } : Jvm.MethodName) ∈ GW := GW_mem 738 (by decide +kernel) (by decide +kernel)
theorem k739 : Jvm.Cond.selects "TwoScribesModel" ({ cls := "TwoScribesModel", name := "keep", desc := "()I" } : Jvm.MethodName) ({ cls := "TwoScribesModel", name := "keep", desc := "()I" } : Jvm.MethodName) ∈ GW := GW_mem 739 (by decide +kernel) (by decide +kernel)
theorem k740 : Jvm.Cond.code ({ cls := "TwoScribesModel", name := "keep", desc := "()I" } : Jvm.MethodName) prog_8_method_35_code (2 : Nat) (Option.some Jvm.ClassFile.FieldType.int) ∈ GW := GW_mem 740 (by decide +kernel) (by decide +kernel)
theorem k741 : Jvm.Cond.methodLink "TwoScribesLaw" (64 : Nat) ({ cls := "TwoScribesModel", name := "restore", desc := "()I" } : Jvm.MethodName) ∈ GW := GW_mem 741 (by decide +kernel) (by decide +kernel)
theorem k742 : Jvm.Cond.instanceMethod ({ cls := "TwoScribesModel", name := "restore", desc := "()I" } : Jvm.MethodName) ∈ GW := GW_mem 742 (by decide +kernel) (by decide +kernel)
theorem k743 : Jvm.Cond.selects "TwoScribesModel" ({ cls := "TwoScribesModel", name := "restore", desc := "()I" } : Jvm.MethodName) ({ cls := "TwoScribesModel", name := "restore", desc := "()I" } : Jvm.MethodName) ∈ GW := GW_mem 743 (by decide +kernel) (by decide +kernel)
theorem k744 : Jvm.Cond.code ({ cls := "TwoScribesModel", name := "restore", desc := "()I" } : Jvm.MethodName) prog_8_method_36_code (2 : Nat) (Option.some Jvm.ClassFile.FieldType.int) ∈ GW := GW_mem 744 (by decide +kernel) (by decide +kernel)
theorem k745 : Jvm.Cond.methodLink "TwoScribesLaw" (68 : Nat) ({ cls := "TwoScribesModel", name := "place", desc := "(II)I" } : Jvm.MethodName) ∈ GW := GW_mem 745 (by decide +kernel) (by decide +kernel)
theorem k746 : Jvm.Cond.instanceMethod ({ cls := "TwoScribesModel", name := "place", desc := "(II)I" } : Jvm.MethodName) ∈ GW := GW_mem 746 (by decide +kernel) (by decide +kernel)
theorem k747 : Jvm.Cond.selects "TwoScribesModel" ({ cls := "TwoScribesModel", name := "place", desc := "(II)I" } : Jvm.MethodName) ({ cls := "TwoScribesModel", name := "place", desc := "(II)I" } : Jvm.MethodName) ∈ GW := GW_mem 747 (by decide +kernel) (by decide +kernel)
theorem k748 : Jvm.Cond.code ({ cls := "TwoScribesModel", name := "place", desc := "(II)I" } : Jvm.MethodName) prog_8_method_37_code (3 : Nat) (Option.some Jvm.ClassFile.FieldType.int) ∈ GW := GW_mem 748 (by decide +kernel) (by decide +kernel)
theorem k749 : Jvm.Cond.methodLink "TwoScribesLaw" (72 : Nat) ({ cls := "TwoScribesModel", name := "scribe", desc := "(II)I" } : Jvm.MethodName) ∈ GW := GW_mem 749 (by decide +kernel) (by decide +kernel)
theorem k750 : Jvm.Cond.instanceMethod ({ cls := "TwoScribesModel", name := "scribe", desc := "(II)I" } : Jvm.MethodName) ∈ GW := GW_mem 750 (by decide +kernel) (by decide +kernel)
theorem k751 : Jvm.Cond.selects "TwoScribesModel" ({ cls := "TwoScribesModel", name := "scribe", desc := "(II)I" } : Jvm.MethodName) ({ cls := "TwoScribesModel", name := "scribe", desc := "(II)I" } : Jvm.MethodName) ∈ GW := GW_mem 751 (by decide +kernel) (by decide +kernel)
theorem k752 : Jvm.Cond.code ({ cls := "TwoScribesModel", name := "scribe", desc := "(II)I" } : Jvm.MethodName) prog_8_method_38_code (3 : Nat) (Option.some Jvm.ClassFile.FieldType.int) ∈ GW := GW_mem 752 (by decide +kernel) (by decide +kernel)
theorem k753 : Jvm.Cond.constantLong "TwoScribesModel" (129 : Nat) (6 : Int64) ∈ GW := GW_mem 753 (by decide +kernel) (by decide +kernel)
theorem k754 : Jvm.Cond.methodLink "TwoScribesLaw" (77 : Nat) ({ cls := "TwoScribesModel", name := "ink", desc := "(I)D" } : Jvm.MethodName) ∈ GW := GW_mem 754 (by decide +kernel) (by decide +kernel)
theorem k755 : Jvm.Cond.instanceMethod ({ cls := "TwoScribesModel", name := "ink", desc := "(I)D" } : Jvm.MethodName) ∈ GW := GW_mem 755 (by decide +kernel) (by decide +kernel)
theorem k756 : Jvm.Cond.selects "TwoScribesModel" ({ cls := "TwoScribesModel", name := "ink", desc := "(I)D" } : Jvm.MethodName) ({ cls := "TwoScribesModel", name := "ink", desc := "(I)D" } : Jvm.MethodName) ∈ GW := GW_mem 756 (by decide +kernel) (by decide +kernel)
theorem k757 : Jvm.Cond.code ({ cls := "TwoScribesModel", name := "ink", desc := "(I)D" } : Jvm.MethodName) prog_8_method_39_code (2 : Nat) (Option.some Jvm.ClassFile.FieldType.double) ∈ GW := GW_mem 757 (by decide +kernel) (by decide +kernel)
theorem k758 : Jvm.Cond.constantDouble "TwoScribesModel" (131 : Nat) (4634204016564240384 : UInt64) ∈ GW := GW_mem 758 (by decide +kernel) (by decide +kernel)
theorem k759 : Jvm.Cond.constantDouble "TwoScribesModel" (133 : Nat) (13830554455654793216 : UInt64) ∈ GW := GW_mem 759 (by decide +kernel) (by decide +kernel)
theorem k760 : Jvm.Cond.methodLink "TwoScribesLaw" (81 : Nat) ({ cls := "TwoScribesModel", name := "next", desc := "(I)I" } : Jvm.MethodName) ∈ GW := GW_mem 760 (by decide +kernel) (by decide +kernel)
theorem k761 : Jvm.Cond.instanceMethod ({ cls := "TwoScribesModel", name := "next", desc := "(I)I" } : Jvm.MethodName) ∈ GW := GW_mem 761 (by decide +kernel) (by decide +kernel)
theorem k762 : Jvm.Cond.selects "TwoScribesModel" ({ cls := "TwoScribesModel", name := "next", desc := "(I)I" } : Jvm.MethodName) ({ cls := "TwoScribesModel", name := "next", desc := "(I)I" } : Jvm.MethodName) ∈ GW := GW_mem 762 (by decide +kernel) (by decide +kernel)
theorem k763 : Jvm.Cond.code ({ cls := "TwoScribesModel", name := "next", desc := "(I)I" } : Jvm.MethodName) prog_8_method_40_code (3 : Nat) (Option.some Jvm.ClassFile.FieldType.int) ∈ GW := GW_mem 763 (by decide +kernel) (by decide +kernel)
theorem k764 : Jvm.Cond.methodLink "TwoScribesModel" (135 : Nat) ({ cls := "TwoScribesModel", name := "tries", desc := "()V" } : Jvm.MethodName) ∈ GW := GW_mem 764 (by decide +kernel) (by decide +kernel)
theorem k766 : Jvm.Cond.instanceMethod ({ cls := "TwoScribesModel", name := "tries", desc := "()V" } : Jvm.MethodName) ∈ GW := GW_mem 766 (by decide +kernel) (by decide +kernel)
theorem k767 : Jvm.Cond.code ({ cls := "TwoScribesModel", name := "tries", desc := "()V" } : Jvm.MethodName) prog_8_method_6_code (2 : Nat) (Option.none : Option Jvm.ClassFile.FieldType) ∈ GW := GW_mem 767 (by decide +kernel) (by decide +kernel)
theorem k768 : Jvm.Cond.methodLink "TwoScribesModel" (138 : Nat) ({ cls := "TwoScribesModel", name := "comesBack", desc := "()V" } : Jvm.MethodName) ∈ GW := GW_mem 768 (by decide +kernel) (by decide +kernel)
theorem k770 : Jvm.Cond.instanceMethod ({ cls := "TwoScribesModel", name := "comesBack", desc := "()V" } : Jvm.MethodName) ∈ GW := GW_mem 770 (by decide +kernel) (by decide +kernel)
theorem k771 : Jvm.Cond.code ({ cls := "TwoScribesModel", name := "comesBack", desc := "()V" } : Jvm.MethodName) prog_8_method_7_code (2 : Nat) (Option.none : Option Jvm.ClassFile.FieldType) ∈ GW := GW_mem 771 (by decide +kernel) (by decide +kernel)
theorem k772 : Jvm.Cond.methodLink "TwoScribesLaw" (85 : Nat) ({ cls := "TwoScribesModel", name := "doneIn", desc := "()I" } : Jvm.MethodName) ∈ GW := GW_mem 772 (by decide +kernel) (by decide +kernel)
theorem k773 : Jvm.Cond.instanceMethod ({ cls := "TwoScribesModel", name := "doneIn", desc := "()I" } : Jvm.MethodName) ∈ GW := GW_mem 773 (by decide +kernel) (by decide +kernel)
theorem k774 : Jvm.Cond.selects "TwoScribesModel" ({ cls := "TwoScribesModel", name := "doneIn", desc := "()I" } : Jvm.MethodName) ({ cls := "TwoScribesModel", name := "doneIn", desc := "()I" } : Jvm.MethodName) ∈ GW := GW_mem 774 (by decide +kernel) (by decide +kernel)
theorem k775 : Jvm.Cond.code ({ cls := "TwoScribesModel", name := "doneIn", desc := "()I" } : Jvm.MethodName) prog_8_method_42_code (1 : Nat) (Option.some Jvm.ClassFile.FieldType.int) ∈ GW := GW_mem 775 (by decide +kernel) (by decide +kernel)
theorem k776 : Jvm.Cond.methodLink "TwoScribesModel" (144 : Nat) ({ cls := "TwoScribesModel", name := "doneBehind", desc := "()I" } : Jvm.MethodName) ∈ GW := GW_mem 776 (by decide +kernel) (by decide +kernel)
theorem k778 : Jvm.Cond.instanceMethod ({ cls := "TwoScribesModel", name := "doneBehind", desc := "()I" } : Jvm.MethodName) ∈ GW := GW_mem 778 (by decide +kernel) (by decide +kernel)
theorem k779 : Jvm.Cond.code ({ cls := "TwoScribesModel", name := "doneBehind", desc := "()I" } : Jvm.MethodName) prog_8_method_41_code (2 : Nat) (Option.some Jvm.ClassFile.FieldType.int) ∈ GW := GW_mem 779 (by decide +kernel) (by decide +kernel)
theorem k780 : Jvm.Cond.methodLink "TwoScribesModel" (141 : Nat) ({ cls := "TwoScribesModel", name := "isDone", desc := "()Z" } : Jvm.MethodName) ∈ GW := GW_mem 780 (by decide +kernel) (by decide +kernel)
theorem k782 : Jvm.Cond.instanceMethod ({ cls := "TwoScribesModel", name := "isDone", desc := "()Z" } : Jvm.MethodName) ∈ GW := GW_mem 782 (by decide +kernel) (by decide +kernel)
theorem k783 : Jvm.Cond.code ({ cls := "TwoScribesModel", name := "isDone", desc := "()Z" } : Jvm.MethodName) prog_8_method_12_code (1 : Nat) (Option.some Jvm.ClassFile.FieldType.boolean) ∈ GW := GW_mem 783 (by decide +kernel) (by decide +kernel)
theorem k784 : Jvm.Cond.methodLink "TwoScribesLaw" (89 : Nat) ({ cls := "TwoScribesModel", name := "unlikePairs", desc := "()I" } : Jvm.MethodName) ∈ GW := GW_mem 784 (by decide +kernel) (by decide +kernel)
theorem k785 : Jvm.Cond.instanceMethod ({ cls := "TwoScribesModel", name := "unlikePairs", desc := "()I" } : Jvm.MethodName) ∈ GW := GW_mem 785 (by decide +kernel) (by decide +kernel)
theorem k786 : Jvm.Cond.selects "TwoScribesModel" ({ cls := "TwoScribesModel", name := "unlikePairs", desc := "()I" } : Jvm.MethodName) ({ cls := "TwoScribesModel", name := "unlikePairs", desc := "()I" } : Jvm.MethodName) ∈ GW := GW_mem 786 (by decide +kernel) (by decide +kernel)
theorem k787 : Jvm.Cond.code ({ cls := "TwoScribesModel", name := "unlikePairs", desc := "()I" } : Jvm.MethodName) prog_8_method_43_code (4 : Nat) (Option.some Jvm.ClassFile.FieldType.int) ∈ GW := GW_mem 787 (by decide +kernel) (by decide +kernel)
theorem k788 : Jvm.Cond.methodLink "TwoScribesLaw" (93 : Nat) ({ cls := "TwoScribesModel", name := "unlikeReadings", desc := "()I" } : Jvm.MethodName) ∈ GW := GW_mem 788 (by decide +kernel) (by decide +kernel)
theorem k789 : Jvm.Cond.instanceMethod ({ cls := "TwoScribesModel", name := "unlikeReadings", desc := "()I" } : Jvm.MethodName) ∈ GW := GW_mem 789 (by decide +kernel) (by decide +kernel)
theorem k790 : Jvm.Cond.selects "TwoScribesModel" ({ cls := "TwoScribesModel", name := "unlikeReadings", desc := "()I" } : Jvm.MethodName) ({ cls := "TwoScribesModel", name := "unlikeReadings", desc := "()I" } : Jvm.MethodName) ∈ GW := GW_mem 790 (by decide +kernel) (by decide +kernel)
theorem k791 : Jvm.Cond.code ({ cls := "TwoScribesModel", name := "unlikeReadings", desc := "()I" } : Jvm.MethodName) prog_8_method_44_code (4 : Nat) (Option.some Jvm.ClassFile.FieldType.int) ∈ GW := GW_mem 791 (by decide +kernel) (by decide +kernel)
theorem k792 : Jvm.Cond.methodLink "TwoScribesLaw" (98 : Nat) ({ cls := "TwoScribesModel", name := "needed", desc := "()D" } : Jvm.MethodName) ∈ GW := GW_mem 792 (by decide +kernel) (by decide +kernel)
theorem k793 : Jvm.Cond.instanceMethod ({ cls := "TwoScribesModel", name := "needed", desc := "()D" } : Jvm.MethodName) ∈ GW := GW_mem 793 (by decide +kernel) (by decide +kernel)
theorem k794 : Jvm.Cond.selects "TwoScribesModel" ({ cls := "TwoScribesModel", name := "needed", desc := "()D" } : Jvm.MethodName) ({ cls := "TwoScribesModel", name := "needed", desc := "()D" } : Jvm.MethodName) ∈ GW := GW_mem 794 (by decide +kernel) (by decide +kernel)
theorem k795 : Jvm.Cond.code ({ cls := "TwoScribesModel", name := "needed", desc := "()D" } : Jvm.MethodName) prog_8_method_45_code (3 : Nat) (Option.some Jvm.ClassFile.FieldType.double) ∈ GW := GW_mem 795 (by decide +kernel) (by decide +kernel)
theorem k796 : Jvm.Cond.methodLink "TwoScribesLaw" (102 : Nat) ({ cls := "TwoScribesModel", name := "bestPace", desc := "(I)I" } : Jvm.MethodName) ∈ GW := GW_mem 796 (by decide +kernel) (by decide +kernel)
theorem k797 : Jvm.Cond.instanceMethod ({ cls := "TwoScribesModel", name := "bestPace", desc := "(I)I" } : Jvm.MethodName) ∈ GW := GW_mem 797 (by decide +kernel) (by decide +kernel)
theorem k798 : Jvm.Cond.selects "TwoScribesModel" ({ cls := "TwoScribesModel", name := "bestPace", desc := "(I)I" } : Jvm.MethodName) ({ cls := "TwoScribesModel", name := "bestPace", desc := "(I)I" } : Jvm.MethodName) ∈ GW := GW_mem 798 (by decide +kernel) (by decide +kernel)
theorem k799 : Jvm.Cond.code ({ cls := "TwoScribesModel", name := "bestPace", desc := "(I)I" } : Jvm.MethodName) prog_8_method_46_code (7 : Nat) (Option.some Jvm.ClassFile.FieldType.int) ∈ GW := GW_mem 799 (by decide +kernel) (by decide +kernel)
theorem k800 : Jvm.Cond.methodLink "TwoScribesLaw" (106 : Nat) ({ cls := "TwoScribesModel", name := "count", desc := "(I)I" } : Jvm.MethodName) ∈ GW := GW_mem 800 (by decide +kernel) (by decide +kernel)
theorem k801 : Jvm.Cond.instanceMethod ({ cls := "TwoScribesModel", name := "count", desc := "(I)I" } : Jvm.MethodName) ∈ GW := GW_mem 801 (by decide +kernel) (by decide +kernel)
theorem k802 : Jvm.Cond.selects "TwoScribesModel" ({ cls := "TwoScribesModel", name := "count", desc := "(I)I" } : Jvm.MethodName) ({ cls := "TwoScribesModel", name := "count", desc := "(I)I" } : Jvm.MethodName) ∈ GW := GW_mem 802 (by decide +kernel) (by decide +kernel)
theorem k803 : Jvm.Cond.code ({ cls := "TwoScribesModel", name := "count", desc := "(I)I" } : Jvm.MethodName) prog_8_method_48_code (2 : Nat) (Option.some Jvm.ClassFile.FieldType.int) ∈ GW := GW_mem 803 (by decide +kernel) (by decide +kernel)
theorem k804 : Jvm.Cond.methodLink "TwoScribesModel" (147 : Nat) ({ cls := "TwoScribesModel", name := "places", desc := "(I)I" } : Jvm.MethodName) ∈ GW := GW_mem 804 (by decide +kernel) (by decide +kernel)
theorem k806 : Jvm.Cond.instanceMethod ({ cls := "TwoScribesModel", name := "places", desc := "(I)I" } : Jvm.MethodName) ∈ GW := GW_mem 806 (by decide +kernel) (by decide +kernel)
theorem k807 : Jvm.Cond.code ({ cls := "TwoScribesModel", name := "places", desc := "(I)I" } : Jvm.MethodName) prog_8_method_47_code (5 : Nat) (Option.some Jvm.ClassFile.FieldType.int) ∈ GW := GW_mem 807 (by decide +kernel) (by decide +kernel)
def NSTF : List (String × Nat × String × String × String × String) := [("TwoScribes$State", 116, "TwoScribes$Page", "due", "[I", "TwoScribes"), ("TwoScribes", 161, "TwoScribes$Page", "due", "[I", "TwoScribes"), ("TwoScribes", 71, "TwoScribes$Page", "told", "[I", "TwoScribes"), ("TwoScribes", 164, "TwoScribes$Page", "written", "[I", "TwoScribes"), ("TwoScribes", 179, "TwoScribes$Page", "writtenIn", "[I", "TwoScribes"), ("TwoScribes", 167, "TwoScribes$Page", "blots", "[I", "TwoScribes"), ("TwoScribes", 170, "TwoScribes$Page", "corrected", "[I", "TwoScribes"), ("TwoScribes", 59, "TwoScribes$Page", "places", "I", "TwoScribes"), ("TwoScribes$State", 79, "TwoScribes$Page", "places", "I", "TwoScribes"), ("TwoScribes$State", 104, "TwoScribes$Page", "corrections", "I", "TwoScribes"), ("TwoScribes", 107, "TwoScribes$Scribe", "pace", "I", "TwoScribes"), ("TwoScribes$State", 151, "TwoScribes$Scribe", "pace", "I", "TwoScribes"), ("TwoScribes$State", 74, "TwoScribes$Scribe", "letters", "I", "TwoScribes"), ("TwoScribes", 182, "TwoScribes$Scribe", "letters", "I", "TwoScribes"), ("TwoScribes$State", 94, "TwoScribes$Scribe", "spent", "I", "TwoScribes"), ("TwoScribes", 186, "TwoScribes$Scribe", "spent", "I", "TwoScribes"), ("TwoScribes$State", 127, "TwoScribes$Scribe", "dipLeft", "I", "TwoScribes"), ("TwoScribes", 189, "TwoScribes$Scribe", "dipLeft", "I", "TwoScribes"), ("TwoScribes$State", 148, "TwoScribes$Scribe", "dips", "I", "TwoScribes"), ("TwoScribes", 192, "TwoScribes$Scribe", "dips", "I", "TwoScribes"), ("TwoScribes$State", 145, "TwoScribes$Scribe", "waits", "I", "TwoScribes"), ("TwoScribes", 195, "TwoScribes$Scribe", "waits", "I", "TwoScribes"), ("TwoScribes$State", 130, "TwoScribes$Scribe", "pen", "F", "TwoScribes"), ("TwoScribes", 202, "TwoScribes$Scribe", "pen", "F", "TwoScribes"), ("TwoScribes", 55, "TwoScribes$State", "page", "LTwoScribes$Page;", "TwoScribes"), ("TwoScribes", 198, "TwoScribes$State", "left", "LTwoScribes$Scribe;", "TwoScribes"), ("TwoScribes", 205, "TwoScribes$State", "right", "LTwoScribes$Scribe;", "TwoScribes"), ("TwoScribes", 126, "TwoScribes$State", "settings", "[I", "TwoScribes"), ("TwoScribes", 115, "TwoScribes$State", "well", "F", "TwoScribes"), ("TwoScribes", 208, "TwoScribes$State", "letterInk", "F", "TwoScribes"), ("TwoScribes", 211, "TwoScribes$State", "correctionInk", "F", "TwoScribes"), ("TwoScribes", 129, "TwoScribes$State", "tick", "I", "TwoScribes"), ("TwoScribes", 245, "TwoScribes$State", "pages", "I", "TwoScribes"), ("TwoScribes", 133, "TwoScribes$State", "letters", "I", "TwoScribes"), ("TwoScribes", 112, "TwoScribes$State", "poured", "I", "TwoScribes"), ("TwoScribes", 151, "TwoScribes$History", "size", "I", "TwoScribes"), ("TwoScribes$Page", 53, "TwoScribes$PageText", "letters", "[I", "TwoScribes"), ("TwoScribes$Page", 50, "TwoScribes$PageText", "misreadings", "[I", "TwoScribes"), ("TwoScribes", 144, "TwoScribes$PageText", "length", "I", "TwoScribes"), ("TwoScribes", 44, "TwoScribes$PageText", "half", "I", "TwoScribes"), ("TwoScribes$Page", 41, "TwoScribes$PageText", "half", "I", "TwoScribes"), ("TwoScribes", 40, "TwoScribes$PageText", "farthest", "I", "TwoScribes")]
def NSTM : List (String × Nat × MethodName × String) := [("TwoScribes", 9, ⟨"TwoScribes$State", "<init>", "()V"⟩, "TwoScribes"), ("TwoScribes$State", 11, ⟨"TwoScribes$Page", "<init>", "()V"⟩, "TwoScribes"), ("TwoScribes$State", 20, ⟨"TwoScribes$Scribe", "<init>", "()V"⟩, "TwoScribes"), ("TwoScribes$History", 17, ⟨"TwoScribes$State", "<init>", "()V"⟩, "TwoScribes"), ("TwoScribes", 31, ⟨"TwoScribes$PageText", "<init>", "()V"⟩, "TwoScribes"), ("TwoScribes$PageText", 46, ⟨"TwoScribes", "clearRow", "([I)V"⟩, "TwoScribes"), ("TwoScribes$PageText", 54, ⟨"TwoScribes", "put", "([III)V"⟩, "TwoScribes"), ("TwoScribes$Page", 30, ⟨"TwoScribes", "copyRow", "([I[I)V"⟩, "TwoScribes"), ("TwoScribes$State", 44, ⟨"TwoScribes", "copyRow", "([I[I)V"⟩, "TwoScribes"), ("TwoScribes$Page", 46, ⟨"TwoScribes", "clearRow", "([I)V"⟩, "TwoScribes"), ("TwoScribes$Page", 56, ⟨"TwoScribes", "at", "([II)I"⟩, "TwoScribes"), ("TwoScribes$Page", 60, ⟨"TwoScribes", "put", "([III)V"⟩, "TwoScribes"), ("TwoScribes$State", 100, ⟨"TwoScribes", "at", "([II)I"⟩, "TwoScribes"), ("TwoScribes$State", 119, ⟨"TwoScribes", "inkFor", "(I)F"⟩, "TwoScribes")]
def NOK (U : State) : Prop := (∀ q ∈ NSTF, va_Nw (.fieldLinkNest q.1 q.2.1 q.2.2.1 q.2.2.2.1 q.2.2.2.2.1 q.2.2.2.2.2) U) ∧ ∀ q ∈ NSTM, va_Nw (.methodLinkNest q.1 q.2.1 q.2.2.1 q.2.2.2) U
theorem NOK.warm {s U : State} (hW : s.WarmedH U.vm) (h : NOK s) : NOK U := ⟨fun q hq => va_Nw.warmF hW (h.1 q hq), fun q hq => va_Nw.warmM hW (h.2 q hq)⟩
theorem NOK.same {u U : State} (h : u.vm = U.vm) (hN : NOK u) : NOK U := ⟨fun q hq => va_Nw.same rfl h (hN.1 q hq), fun q hq => va_Nw.same rfl h (hN.2 q hq)⟩
theorem nfTwoScribes_State_116 {U : State} (h : NOK U) : va_Nw (.fieldLinkNest "TwoScribes$State" 116 "TwoScribes$Page" "due" "[I" "TwoScribes") U := h.1 ("TwoScribes$State", 116, "TwoScribes$Page", "due", "[I", "TwoScribes") (List.mem_of_getElem? (i := 0) rfl)
theorem nfTwoScribes_161 {U : State} (h : NOK U) : va_Nw (.fieldLinkNest "TwoScribes" 161 "TwoScribes$Page" "due" "[I" "TwoScribes") U := h.1 ("TwoScribes", 161, "TwoScribes$Page", "due", "[I", "TwoScribes") (List.mem_of_getElem? (i := 1) rfl)
theorem nfTwoScribes_71 {U : State} (h : NOK U) : va_Nw (.fieldLinkNest "TwoScribes" 71 "TwoScribes$Page" "told" "[I" "TwoScribes") U := h.1 ("TwoScribes", 71, "TwoScribes$Page", "told", "[I", "TwoScribes") (List.mem_of_getElem? (i := 2) rfl)
theorem nfTwoScribes_164 {U : State} (h : NOK U) : va_Nw (.fieldLinkNest "TwoScribes" 164 "TwoScribes$Page" "written" "[I" "TwoScribes") U := h.1 ("TwoScribes", 164, "TwoScribes$Page", "written", "[I", "TwoScribes") (List.mem_of_getElem? (i := 3) rfl)
theorem nfTwoScribes_179 {U : State} (h : NOK U) : va_Nw (.fieldLinkNest "TwoScribes" 179 "TwoScribes$Page" "writtenIn" "[I" "TwoScribes") U := h.1 ("TwoScribes", 179, "TwoScribes$Page", "writtenIn", "[I", "TwoScribes") (List.mem_of_getElem? (i := 4) rfl)
theorem nfTwoScribes_167 {U : State} (h : NOK U) : va_Nw (.fieldLinkNest "TwoScribes" 167 "TwoScribes$Page" "blots" "[I" "TwoScribes") U := h.1 ("TwoScribes", 167, "TwoScribes$Page", "blots", "[I", "TwoScribes") (List.mem_of_getElem? (i := 5) rfl)
theorem nfTwoScribes_170 {U : State} (h : NOK U) : va_Nw (.fieldLinkNest "TwoScribes" 170 "TwoScribes$Page" "corrected" "[I" "TwoScribes") U := h.1 ("TwoScribes", 170, "TwoScribes$Page", "corrected", "[I", "TwoScribes") (List.mem_of_getElem? (i := 6) rfl)
theorem nfTwoScribes_59 {U : State} (h : NOK U) : va_Nw (.fieldLinkNest "TwoScribes" 59 "TwoScribes$Page" "places" "I" "TwoScribes") U := h.1 ("TwoScribes", 59, "TwoScribes$Page", "places", "I", "TwoScribes") (List.mem_of_getElem? (i := 7) rfl)
theorem nfTwoScribes_State_79 {U : State} (h : NOK U) : va_Nw (.fieldLinkNest "TwoScribes$State" 79 "TwoScribes$Page" "places" "I" "TwoScribes") U := h.1 ("TwoScribes$State", 79, "TwoScribes$Page", "places", "I", "TwoScribes") (List.mem_of_getElem? (i := 8) rfl)
theorem nfTwoScribes_State_104 {U : State} (h : NOK U) : va_Nw (.fieldLinkNest "TwoScribes$State" 104 "TwoScribes$Page" "corrections" "I" "TwoScribes") U := h.1 ("TwoScribes$State", 104, "TwoScribes$Page", "corrections", "I", "TwoScribes") (List.mem_of_getElem? (i := 9) rfl)
theorem nfTwoScribes_107 {U : State} (h : NOK U) : va_Nw (.fieldLinkNest "TwoScribes" 107 "TwoScribes$Scribe" "pace" "I" "TwoScribes") U := h.1 ("TwoScribes", 107, "TwoScribes$Scribe", "pace", "I", "TwoScribes") (List.mem_of_getElem? (i := 10) rfl)
theorem nfTwoScribes_State_151 {U : State} (h : NOK U) : va_Nw (.fieldLinkNest "TwoScribes$State" 151 "TwoScribes$Scribe" "pace" "I" "TwoScribes") U := h.1 ("TwoScribes$State", 151, "TwoScribes$Scribe", "pace", "I", "TwoScribes") (List.mem_of_getElem? (i := 11) rfl)
theorem nfTwoScribes_State_74 {U : State} (h : NOK U) : va_Nw (.fieldLinkNest "TwoScribes$State" 74 "TwoScribes$Scribe" "letters" "I" "TwoScribes") U := h.1 ("TwoScribes$State", 74, "TwoScribes$Scribe", "letters", "I", "TwoScribes") (List.mem_of_getElem? (i := 12) rfl)
theorem nfTwoScribes_182 {U : State} (h : NOK U) : va_Nw (.fieldLinkNest "TwoScribes" 182 "TwoScribes$Scribe" "letters" "I" "TwoScribes") U := h.1 ("TwoScribes", 182, "TwoScribes$Scribe", "letters", "I", "TwoScribes") (List.mem_of_getElem? (i := 13) rfl)
theorem nfTwoScribes_State_94 {U : State} (h : NOK U) : va_Nw (.fieldLinkNest "TwoScribes$State" 94 "TwoScribes$Scribe" "spent" "I" "TwoScribes") U := h.1 ("TwoScribes$State", 94, "TwoScribes$Scribe", "spent", "I", "TwoScribes") (List.mem_of_getElem? (i := 14) rfl)
theorem nfTwoScribes_186 {U : State} (h : NOK U) : va_Nw (.fieldLinkNest "TwoScribes" 186 "TwoScribes$Scribe" "spent" "I" "TwoScribes") U := h.1 ("TwoScribes", 186, "TwoScribes$Scribe", "spent", "I", "TwoScribes") (List.mem_of_getElem? (i := 15) rfl)
theorem nfTwoScribes_State_127 {U : State} (h : NOK U) : va_Nw (.fieldLinkNest "TwoScribes$State" 127 "TwoScribes$Scribe" "dipLeft" "I" "TwoScribes") U := h.1 ("TwoScribes$State", 127, "TwoScribes$Scribe", "dipLeft", "I", "TwoScribes") (List.mem_of_getElem? (i := 16) rfl)
theorem nfTwoScribes_189 {U : State} (h : NOK U) : va_Nw (.fieldLinkNest "TwoScribes" 189 "TwoScribes$Scribe" "dipLeft" "I" "TwoScribes") U := h.1 ("TwoScribes", 189, "TwoScribes$Scribe", "dipLeft", "I", "TwoScribes") (List.mem_of_getElem? (i := 17) rfl)
theorem nfTwoScribes_State_148 {U : State} (h : NOK U) : va_Nw (.fieldLinkNest "TwoScribes$State" 148 "TwoScribes$Scribe" "dips" "I" "TwoScribes") U := h.1 ("TwoScribes$State", 148, "TwoScribes$Scribe", "dips", "I", "TwoScribes") (List.mem_of_getElem? (i := 18) rfl)
theorem nfTwoScribes_192 {U : State} (h : NOK U) : va_Nw (.fieldLinkNest "TwoScribes" 192 "TwoScribes$Scribe" "dips" "I" "TwoScribes") U := h.1 ("TwoScribes", 192, "TwoScribes$Scribe", "dips", "I", "TwoScribes") (List.mem_of_getElem? (i := 19) rfl)
theorem nfTwoScribes_State_145 {U : State} (h : NOK U) : va_Nw (.fieldLinkNest "TwoScribes$State" 145 "TwoScribes$Scribe" "waits" "I" "TwoScribes") U := h.1 ("TwoScribes$State", 145, "TwoScribes$Scribe", "waits", "I", "TwoScribes") (List.mem_of_getElem? (i := 20) rfl)
theorem nfTwoScribes_195 {U : State} (h : NOK U) : va_Nw (.fieldLinkNest "TwoScribes" 195 "TwoScribes$Scribe" "waits" "I" "TwoScribes") U := h.1 ("TwoScribes", 195, "TwoScribes$Scribe", "waits", "I", "TwoScribes") (List.mem_of_getElem? (i := 21) rfl)
theorem nfTwoScribes_State_130 {U : State} (h : NOK U) : va_Nw (.fieldLinkNest "TwoScribes$State" 130 "TwoScribes$Scribe" "pen" "F" "TwoScribes") U := h.1 ("TwoScribes$State", 130, "TwoScribes$Scribe", "pen", "F", "TwoScribes") (List.mem_of_getElem? (i := 22) rfl)
theorem nfTwoScribes_202 {U : State} (h : NOK U) : va_Nw (.fieldLinkNest "TwoScribes" 202 "TwoScribes$Scribe" "pen" "F" "TwoScribes") U := h.1 ("TwoScribes", 202, "TwoScribes$Scribe", "pen", "F", "TwoScribes") (List.mem_of_getElem? (i := 23) rfl)
theorem nfTwoScribes_55 {U : State} (h : NOK U) : va_Nw (.fieldLinkNest "TwoScribes" 55 "TwoScribes$State" "page" "LTwoScribes$Page;" "TwoScribes") U := h.1 ("TwoScribes", 55, "TwoScribes$State", "page", "LTwoScribes$Page;", "TwoScribes") (List.mem_of_getElem? (i := 24) rfl)
theorem nfTwoScribes_198 {U : State} (h : NOK U) : va_Nw (.fieldLinkNest "TwoScribes" 198 "TwoScribes$State" "left" "LTwoScribes$Scribe;" "TwoScribes") U := h.1 ("TwoScribes", 198, "TwoScribes$State", "left", "LTwoScribes$Scribe;", "TwoScribes") (List.mem_of_getElem? (i := 25) rfl)
theorem nfTwoScribes_205 {U : State} (h : NOK U) : va_Nw (.fieldLinkNest "TwoScribes" 205 "TwoScribes$State" "right" "LTwoScribes$Scribe;" "TwoScribes") U := h.1 ("TwoScribes", 205, "TwoScribes$State", "right", "LTwoScribes$Scribe;", "TwoScribes") (List.mem_of_getElem? (i := 26) rfl)
theorem nfTwoScribes_126 {U : State} (h : NOK U) : va_Nw (.fieldLinkNest "TwoScribes" 126 "TwoScribes$State" "settings" "[I" "TwoScribes") U := h.1 ("TwoScribes", 126, "TwoScribes$State", "settings", "[I", "TwoScribes") (List.mem_of_getElem? (i := 27) rfl)
theorem nfTwoScribes_115 {U : State} (h : NOK U) : va_Nw (.fieldLinkNest "TwoScribes" 115 "TwoScribes$State" "well" "F" "TwoScribes") U := h.1 ("TwoScribes", 115, "TwoScribes$State", "well", "F", "TwoScribes") (List.mem_of_getElem? (i := 28) rfl)
theorem nfTwoScribes_208 {U : State} (h : NOK U) : va_Nw (.fieldLinkNest "TwoScribes" 208 "TwoScribes$State" "letterInk" "F" "TwoScribes") U := h.1 ("TwoScribes", 208, "TwoScribes$State", "letterInk", "F", "TwoScribes") (List.mem_of_getElem? (i := 29) rfl)
theorem nfTwoScribes_211 {U : State} (h : NOK U) : va_Nw (.fieldLinkNest "TwoScribes" 211 "TwoScribes$State" "correctionInk" "F" "TwoScribes") U := h.1 ("TwoScribes", 211, "TwoScribes$State", "correctionInk", "F", "TwoScribes") (List.mem_of_getElem? (i := 30) rfl)
theorem nfTwoScribes_129 {U : State} (h : NOK U) : va_Nw (.fieldLinkNest "TwoScribes" 129 "TwoScribes$State" "tick" "I" "TwoScribes") U := h.1 ("TwoScribes", 129, "TwoScribes$State", "tick", "I", "TwoScribes") (List.mem_of_getElem? (i := 31) rfl)
theorem nfTwoScribes_245 {U : State} (h : NOK U) : va_Nw (.fieldLinkNest "TwoScribes" 245 "TwoScribes$State" "pages" "I" "TwoScribes") U := h.1 ("TwoScribes", 245, "TwoScribes$State", "pages", "I", "TwoScribes") (List.mem_of_getElem? (i := 32) rfl)
theorem nfTwoScribes_133 {U : State} (h : NOK U) : va_Nw (.fieldLinkNest "TwoScribes" 133 "TwoScribes$State" "letters" "I" "TwoScribes") U := h.1 ("TwoScribes", 133, "TwoScribes$State", "letters", "I", "TwoScribes") (List.mem_of_getElem? (i := 33) rfl)
theorem nfTwoScribes_112 {U : State} (h : NOK U) : va_Nw (.fieldLinkNest "TwoScribes" 112 "TwoScribes$State" "poured" "I" "TwoScribes") U := h.1 ("TwoScribes", 112, "TwoScribes$State", "poured", "I", "TwoScribes") (List.mem_of_getElem? (i := 34) rfl)
theorem nfTwoScribes_151 {U : State} (h : NOK U) : va_Nw (.fieldLinkNest "TwoScribes" 151 "TwoScribes$History" "size" "I" "TwoScribes") U := h.1 ("TwoScribes", 151, "TwoScribes$History", "size", "I", "TwoScribes") (List.mem_of_getElem? (i := 35) rfl)
theorem nfTwoScribes_Page_53 {U : State} (h : NOK U) : va_Nw (.fieldLinkNest "TwoScribes$Page" 53 "TwoScribes$PageText" "letters" "[I" "TwoScribes") U := h.1 ("TwoScribes$Page", 53, "TwoScribes$PageText", "letters", "[I", "TwoScribes") (List.mem_of_getElem? (i := 36) rfl)
theorem nfTwoScribes_Page_50 {U : State} (h : NOK U) : va_Nw (.fieldLinkNest "TwoScribes$Page" 50 "TwoScribes$PageText" "misreadings" "[I" "TwoScribes") U := h.1 ("TwoScribes$Page", 50, "TwoScribes$PageText", "misreadings", "[I", "TwoScribes") (List.mem_of_getElem? (i := 37) rfl)
theorem nfTwoScribes_144 {U : State} (h : NOK U) : va_Nw (.fieldLinkNest "TwoScribes" 144 "TwoScribes$PageText" "length" "I" "TwoScribes") U := h.1 ("TwoScribes", 144, "TwoScribes$PageText", "length", "I", "TwoScribes") (List.mem_of_getElem? (i := 38) rfl)
theorem nfTwoScribes_44 {U : State} (h : NOK U) : va_Nw (.fieldLinkNest "TwoScribes" 44 "TwoScribes$PageText" "half" "I" "TwoScribes") U := h.1 ("TwoScribes", 44, "TwoScribes$PageText", "half", "I", "TwoScribes") (List.mem_of_getElem? (i := 39) rfl)
theorem nfTwoScribes_Page_41 {U : State} (h : NOK U) : va_Nw (.fieldLinkNest "TwoScribes$Page" 41 "TwoScribes$PageText" "half" "I" "TwoScribes") U := h.1 ("TwoScribes$Page", 41, "TwoScribes$PageText", "half", "I", "TwoScribes") (List.mem_of_getElem? (i := 40) rfl)
theorem nfTwoScribes_40 {U : State} (h : NOK U) : va_Nw (.fieldLinkNest "TwoScribes" 40 "TwoScribes$PageText" "farthest" "I" "TwoScribes") U := h.1 ("TwoScribes", 40, "TwoScribes$PageText", "farthest", "I", "TwoScribes") (List.mem_of_getElem? (i := 41) rfl)
theorem nmTwoScribes_9 {U : State} (h : NOK U) : va_Nw (.methodLinkNest "TwoScribes" 9 ⟨"TwoScribes$State", "<init>", "()V"⟩ "TwoScribes") U := h.2 ("TwoScribes", 9, ⟨"TwoScribes$State", "<init>", "()V"⟩, "TwoScribes") (List.mem_of_getElem? (i := 0) rfl)
theorem nmTwoScribes_State_11 {U : State} (h : NOK U) : va_Nw (.methodLinkNest "TwoScribes$State" 11 ⟨"TwoScribes$Page", "<init>", "()V"⟩ "TwoScribes") U := h.2 ("TwoScribes$State", 11, ⟨"TwoScribes$Page", "<init>", "()V"⟩, "TwoScribes") (List.mem_of_getElem? (i := 1) rfl)
theorem nmTwoScribes_State_20 {U : State} (h : NOK U) : va_Nw (.methodLinkNest "TwoScribes$State" 20 ⟨"TwoScribes$Scribe", "<init>", "()V"⟩ "TwoScribes") U := h.2 ("TwoScribes$State", 20, ⟨"TwoScribes$Scribe", "<init>", "()V"⟩, "TwoScribes") (List.mem_of_getElem? (i := 2) rfl)
theorem nmTwoScribes_History_17 {U : State} (h : NOK U) : va_Nw (.methodLinkNest "TwoScribes$History" 17 ⟨"TwoScribes$State", "<init>", "()V"⟩ "TwoScribes") U := h.2 ("TwoScribes$History", 17, ⟨"TwoScribes$State", "<init>", "()V"⟩, "TwoScribes") (List.mem_of_getElem? (i := 3) rfl)
theorem nmTwoScribes_31 {U : State} (h : NOK U) : va_Nw (.methodLinkNest "TwoScribes" 31 ⟨"TwoScribes$PageText", "<init>", "()V"⟩ "TwoScribes") U := h.2 ("TwoScribes", 31, ⟨"TwoScribes$PageText", "<init>", "()V"⟩, "TwoScribes") (List.mem_of_getElem? (i := 4) rfl)
theorem nmTwoScribes_PageText_46 {U : State} (h : NOK U) : va_Nw (.methodLinkNest "TwoScribes$PageText" 46 ⟨"TwoScribes", "clearRow", "([I)V"⟩ "TwoScribes") U := h.2 ("TwoScribes$PageText", 46, ⟨"TwoScribes", "clearRow", "([I)V"⟩, "TwoScribes") (List.mem_of_getElem? (i := 5) rfl)
theorem nmTwoScribes_PageText_54 {U : State} (h : NOK U) : va_Nw (.methodLinkNest "TwoScribes$PageText" 54 ⟨"TwoScribes", "put", "([III)V"⟩ "TwoScribes") U := h.2 ("TwoScribes$PageText", 54, ⟨"TwoScribes", "put", "([III)V"⟩, "TwoScribes") (List.mem_of_getElem? (i := 6) rfl)
theorem nmTwoScribes_Page_30 {U : State} (h : NOK U) : va_Nw (.methodLinkNest "TwoScribes$Page" 30 ⟨"TwoScribes", "copyRow", "([I[I)V"⟩ "TwoScribes") U := h.2 ("TwoScribes$Page", 30, ⟨"TwoScribes", "copyRow", "([I[I)V"⟩, "TwoScribes") (List.mem_of_getElem? (i := 7) rfl)
theorem nmTwoScribes_State_44 {U : State} (h : NOK U) : va_Nw (.methodLinkNest "TwoScribes$State" 44 ⟨"TwoScribes", "copyRow", "([I[I)V"⟩ "TwoScribes") U := h.2 ("TwoScribes$State", 44, ⟨"TwoScribes", "copyRow", "([I[I)V"⟩, "TwoScribes") (List.mem_of_getElem? (i := 8) rfl)
theorem nmTwoScribes_Page_46 {U : State} (h : NOK U) : va_Nw (.methodLinkNest "TwoScribes$Page" 46 ⟨"TwoScribes", "clearRow", "([I)V"⟩ "TwoScribes") U := h.2 ("TwoScribes$Page", 46, ⟨"TwoScribes", "clearRow", "([I)V"⟩, "TwoScribes") (List.mem_of_getElem? (i := 9) rfl)
theorem nmTwoScribes_Page_56 {U : State} (h : NOK U) : va_Nw (.methodLinkNest "TwoScribes$Page" 56 ⟨"TwoScribes", "at", "([II)I"⟩ "TwoScribes") U := h.2 ("TwoScribes$Page", 56, ⟨"TwoScribes", "at", "([II)I"⟩, "TwoScribes") (List.mem_of_getElem? (i := 10) rfl)
theorem nmTwoScribes_Page_60 {U : State} (h : NOK U) : va_Nw (.methodLinkNest "TwoScribes$Page" 60 ⟨"TwoScribes", "put", "([III)V"⟩ "TwoScribes") U := h.2 ("TwoScribes$Page", 60, ⟨"TwoScribes", "put", "([III)V"⟩, "TwoScribes") (List.mem_of_getElem? (i := 11) rfl)
theorem nmTwoScribes_State_100 {U : State} (h : NOK U) : va_Nw (.methodLinkNest "TwoScribes$State" 100 ⟨"TwoScribes", "at", "([II)I"⟩ "TwoScribes") U := h.2 ("TwoScribes$State", 100, ⟨"TwoScribes", "at", "([II)I"⟩, "TwoScribes") (List.mem_of_getElem? (i := 12) rfl)
theorem nmTwoScribes_State_119 {U : State} (h : NOK U) : va_Nw (.methodLinkNest "TwoScribes$State" 119 ⟨"TwoScribes", "inkFor", "(I)F"⟩ "TwoScribes") U := h.2 ("TwoScribes$State", 119, ⟨"TwoScribes", "inkFor", "(I)F"⟩, "TwoScribes") (List.mem_of_getElem? (i := 13) rfl)
theorem in0 : ∀ w ∈ wsX00, w ∈ GW := fun w h => List.mem_filter.mpr ⟨(by decide +kernel : ∀ w ∈ wsX00, w ∈ lw_tbl) w h, List.all_eq_true.mp (by decide +kernel : wsX00.all goodWord = true) w h⟩
theorem in1 : ∀ w ∈ wsX10, w ∈ GW := fun w h => List.mem_filter.mpr ⟨(by decide +kernel : ∀ w ∈ wsX10, w ∈ lw_tbl) w h, List.all_eq_true.mp (by decide +kernel : wsX10.all goodWord = true) w h⟩
theorem in2 : ∀ w ∈ wsX20, w ∈ GW := fun w h => List.mem_filter.mpr ⟨(by decide +kernel : ∀ w ∈ wsX20, w ∈ lw_tbl) w h, List.all_eq_true.mp (by decide +kernel : wsX20.all goodWord = true) w h⟩
theorem in3 : ∀ w ∈ wsX30, w ∈ GW := fun w h => List.mem_filter.mpr ⟨(by decide +kernel : ∀ w ∈ wsX30, w ∈ lw_tbl) w h, List.all_eq_true.mp (by decide +kernel : wsX30.all goodWord = true) w h⟩
theorem in4 : ∀ w ∈ wsX40, w ∈ GW := fun w h => List.mem_filter.mpr ⟨(by decide +kernel : ∀ w ∈ wsX40, w ∈ lw_tbl) w h, List.all_eq_true.mp (by decide +kernel : wsX40.all goodWord = true) w h⟩
theorem in5 : ∀ w ∈ wsX50, w ∈ GW := fun w h => List.mem_filter.mpr ⟨(by decide +kernel : ∀ w ∈ wsX50, w ∈ lw_tbl) w h, List.all_eq_true.mp (by decide +kernel : wsX50.all goodWord = true) w h⟩
theorem in6 : ∀ w ∈ wsX60, w ∈ GW := fun w h => List.mem_filter.mpr ⟨(by decide +kernel : ∀ w ∈ wsX60, w ∈ lw_tbl) w h, List.all_eq_true.mp (by decide +kernel : wsX60.all goodWord = true) w h⟩
end
section
/-! THE JUDGEMENT J: at (pc, stack), for every heap that holds the world ws and locals that hold lv, the machine comes to its end with Q; and contracts Ct in one shape -/
abbrev GT : Type := va_G × ClassId × ClassId × ClassId
abbrev tyG (G : GT) : List (ClassId × FieldType) := [(G.2.1, .int), (G.2.2.1, .char), (G.2.2.2, .object "TwoScribes$State")]
abbrev Wy (y : MethodName) (b : ByteArray) (n : Nat) (r : Option FieldType) : List Cond := Cond.code y b n r :: GW
def Ev (G : GT) (U : State) : Prop := va_K G.1 vwCl (tyG G) U ∧ NOK U
theorem Ev.warm {G : GT} {s U : State} (hW : s.WarmedH U.vm) (h : Ev G s) : Ev G U := ⟨va_K.moved hW.alike h.1, NOK.warm hW h.2⟩
theorem Ev.same {G : GT} {u U : State} (h : u.vm = U.vm) (hE : Ev G u) : Ev G U := ⟨va_K.moved (by rw [h]; exact Vm.Alike.refl _) hE.1, NOK.same h hE.2⟩
def Cx (p : Program) (s : State) (m : MethodId) (args : Array Value) (meth : Method) (c : Code) (G : GT) (A : Nat → Prop) (nL : Nat) (cc : ByteArray) (own : String) : Prop :=
  p.tables.exec = Jvm.exec ∧ c.code = cc ∧ c.maxLocals = nL ∧ s.vm.findClass own = some m.cls ∧ (∀ w ∈ GW, w.before args s = true) ∧ Ev G s ∧ (∀ q, s.heap.size ≤ q → A q) ∧ meth.locks = false
def QcG {S : Type} (post : S → Prop) (ret1 : S → Option Value) (W1 : S → va_W) (G : GT) (A : Nat → Prop) : Array Value → State → Outcome → State → Prop := fun _ st oc t => (∃ u : S, oc = .returned (ret1 u) ∧ post u ∧ va_P G.1 vwCl (W1 u) t.heap ∧ va_D A (W1 u)) ∧ va_F A st t
abbrev PcG (G : GT) (X : (Nat → Prop) → State → Prop) (as : List Value) (W0 : va_W) (sz : Nat) : Array Value → State → Prop := va_Pc as (fun U => U.heap.size = sz ∧ va_P G.1 vwCl W0 U.heap ∧ Ev G U ∧ va_D (fun _ => True) W0 ∧ X (va_A W0 sz) U)
def Ct {S : Type} (l : Launch) (G : GT) (X : (Nat → Prop) → State → Prop) (y : MethodName) (ws : List Cond) (rm : Room) (as : List Value) (W0 : va_W) (post : S → Prop) (ret1 : S → Option Value) (W1 : S → va_W) : Prop :=
  ∀ sz : Nat, Met l y ws rm (PcG G X as W0 sz) (QcG post ret1 W1 G (va_A W0 sz)) rm.cells rm.slots (va_A W0 sz)
def NoX : (Nat → Prop) → State → Prop := fun _ _ => True
def J (p : Program) (l : Launch) (e : Env) (R : Room) (s : State) (m : MethodId) (args : Array Value) (below : List Frame) (meth : Method) (c : Code) (Q : State → Prop) (G : GT) (A : Nat → Prop) (nL k n : Nat) (ws : va_W) (lv : List (Nat × Value)) (pc : Nat) (st : List Value) : Prop :=
  ∀ (H : Heap) (locs : List Loc) (ls : Array Slot), va_P G.1 vwCl ws H → va_D A ws → va_S A s.heap H locs → lv_has ls nL lv → W p l e R s m args below meth c H locs k n Q (F0 m pc ls st)
def lvf (lv : List (Nat × Value)) (i : Nat) : Option Value := (lv.find? (fun q => q.1 == i)).map (fun q => q.2)
theorem lvf_at {ls : Array Slot} {nL : Nat} {lv : List (Nat × Value)} {i : Nat} {v : Value} (h : lv_has ls nL lv) (hf : lvf lv i = some v) : ls[i]? = some (.val v) := by
  unfold lvf at hf
  cases hq : lv.find? (fun q => q.1 == i) with
  | none => rw [hq] at hf; cases hf
  | some q =>
    rw [hq] at hf
    have h1 := List.find?_some hq
    have h2 := List.mem_of_find?_eq_some hq
    have h3 := h.2.2 q h2
    have h4 : q.1 = i := by simpa using h1
    have h5 : q.2 = v := by simpa using hf
    rw [h4, h5] at h3
    exact h3
theorem lvf_sub {ls : Array Slot} {nL : Nat} {lv lv' : List (Nat × Value)} (h : lv_has ls nL lv) (hs : ∀ q ∈ lv', lvf lv q.1 = some q.2) : lv_has ls nL lv' := ⟨h.1, h.2.1, fun q hq => lvf_at h (hs q hq)⟩
section BASE
variable {p : Program} {l : Launch} {e : Env} {R : Room} {s : State} {m : MethodId} {args : Array Value} {below : List Frame} {meth : Method} {c : Code} {Q : State → Prop} {G : GT} {A : Nat → Prop} {nL k n : Nat} {cc : ByteArray} {own : String} {ws : va_W} {lv : List (Nat × Value)} {pc : Nat} {st : List Value}
theorem J_ws {ws' : va_W} (h : ws = ws') (kk : J p l e R s m args below meth c Q G A nL k n ws' lv pc st) : J p l e R s m args below meth c Q G A nL k n ws lv pc st := h ▸ kk
theorem J_st {st' : List Value} (h : st = st') (kk : J p l e R s m args below meth c Q G A nL k n ws lv pc st') : J p l e R s m args below meth c Q G A nL k n ws lv pc st := h ▸ kk
theorem J_i {x y : Int32} (h : x = y) (kk : J p l e R s m args below meth c Q G A nL k n ws lv pc (.int y :: st)) : J p l e R s m args below meth c Q G A nL k n ws lv pc (.int x :: st) := h ▸ kk
theorem J_f {x y : UInt32} (h : x = y) (kk : J p l e R s m args below meth c Q G A nL k n ws lv pc (.float y :: st)) : J p l e R s m args below meth c Q G A nL k n ws lv pc (.float x :: st) := h ▸ kk
theorem J_d {x y : UInt64} (h : x = y) (kk : J p l e R s m args below meth c Q G A nL k n ws lv pc (.double y :: st)) : J p l e R s m args below meth c Q G A nL k n ws lv pc (.double x :: st) := h ▸ kk
theorem J_l {x y : Int64} (h : x = y) (kk : J p l e R s m args below meth c Q G A nL k n ws lv pc (.long y :: st)) : J p l e R s m args below meth c Q G A nL k n ws lv pc (.long x :: st) := h ▸ kk
theorem J_lv {lv' : List (Nat × Value)} (hs : ∀ q ∈ lv', lvf lv q.1 = some q.2) (kk : J p l e R s m args below meth c Q G A nL k n ws lv' pc st) : J p l e R s m args below meth c Q G A nL k n ws lv pc st := fun H locs ls hP hD hS hl => kk H locs ls hP hD hS (lvf_sub hl hs)
theorem J_widen {k' n' : Nat} (h1 : k ≤ k') (h2 : n ≤ n') (kk : J p l e R s m args below meth c Q G A nL k' n' ws lv pc st) : J p l e R s m args below meth c Q G A nL k n ws lv pc st := fun H locs ls hP hD hS hl => W.widen h1 h2 (kk H locs ls hP hD hS hl)
theorem arrV_ext {cI : ClassId} {N : Nat} {f g : Nat → Value} (h : ∀ j, j < N → f j = g j) : arrV cI N f = arrV cI N g := by
  unfold arrV
  have : (Array.ofFn (n := N) fun j => f j.val) = Array.ofFn (n := N) fun j => g j.val := by
    congr 1
    funext j
    exact h j.val j.isLt
  rw [this]
/-- an array's function may be another one that agrees below its length -/
theorem J_arr (q0 : Nat) {a N : Nat} {cA : ClassId} {f : Nat → Int32} (g : Nat → Int32) (he : ws[q0]? = some (a, .inl (cA, N, .inl f))) (hfg : ∀ j, j < N → f j = g j) (kk : J p l e R s m args below meth c Q G A nL k n (ws.set q0 (a, .inl (cA, N, .inl g))) lv pc st) : J p l e R s m args below meth c Q G A nL k n ws lv pc st := by
  intro H locs ls hP hD hS hl
  refine kk H locs ls (hP.set hD he ?_ (fun _ _ => rfl)) (hD.set he) hS hl
  have h1 : H[a]? = some (vp_cell cA (N, .inl f)) := hP q0 _ he
  show H[a]? = some (vp_cell cA (N, .inl g))
  rw [h1, vp_cell_i, vp_cell_i, arrV_ext (fun j hj => by rw [hfg j hj])]
theorem J_iconst (C : Cx p s m args meth c G A nL cc own) {z : Int} (v : Int32) (hv : Int32.ofInt z = v) (hdg : decode cc pc = .ok (.iconst z, 1)) (kk : J p l e R s m args below meth c Q G A nL k n ws lv (pc + 1) (.int v :: st)) : J p l e R s m args below meth c Q G A nL k n ws lv pc (st) := fun H locs ls hP hD hS hl => lv_iconst C.1 C.2.1 hdg hv (kk H locs ls hP hD hS hl)
theorem J_bipush (C : Cx p s m args meth c G A nL cc own) {z : Int} (v : Int32) (hv : (Int8.ofInt z).toInt32 = v) (hdg : decode cc pc = .ok (.bipush z, 2)) (kk : J p l e R s m args below meth c Q G A nL k n ws lv (pc + 2) (.int v :: st)) : J p l e R s m args below meth c Q G A nL k n ws lv pc (st) := fun H locs ls hP hD hS hl => lv_bipush C.1 C.2.1 hdg hv (kk H locs ls hP hD hS hl)
theorem J_sipush (C : Cx p s m args meth c G A nL cc own) {z : Int} (v : Int32) (hv : (Int16.ofInt z).toInt32 = v) (hdg : decode cc pc = .ok (.sipush z, 3)) (kk : J p l e R s m args below meth c Q G A nL k n ws lv (pc + 3) (.int v :: st)) : J p l e R s m args below meth c Q G A nL k n ws lv pc (st) := fun H locs ls hP hD hS hl => lv_sipush C.1 C.2.1 hdg hv (kk H locs ls hP hD hS hl)
theorem J_lconst (C : Cx p s m args meth c G A nL cc own) {z : Fin 2} (v : Int64) (hv : Int64.ofNat (z : Nat) = v) (hdg : decode cc pc = .ok (.lconst z, 1)) (kk : J p l e R s m args below meth c Q G A nL k n ws lv (pc + 1) (.long v :: st)) : J p l e R s m args below meth c Q G A nL k n ws lv pc (st) := fun H locs ls hP hD hS hl => lv_lconst C.1 C.2.1 hdg hv (kk H locs ls hP hD hS hl)
theorem J_iload_n (C : Cx p s m args meth c G A nL cc own) {i : Fin 4} {x : Int32} (hf : lvf lv (i : Nat) = some (.int x)) (hdg : decode cc pc = .ok (.iload_n i, 1)) (kk : J p l e R s m args below meth c Q G A nL k n ws lv (pc + 1) (.int x :: st)) : J p l e R s m args below meth c Q G A nL k n ws lv pc (st) := fun H locs ls hP hD hS hl => lv_iload_n C.1 C.2.1 hdg rfl (lvf_at hl hf) (kk H locs ls hP hD hS hl)
theorem J_iload (C : Cx p s m args meth c G A nL cc own) {i : Nat} {x : Int32} (hf : lvf lv i = some (.int x)) (hdg : decode cc pc = .ok (.iload i, 2)) (kk : J p l e R s m args below meth c Q G A nL k n ws lv (pc + 2) (.int x :: st)) : J p l e R s m args below meth c Q G A nL k n ws lv pc (st) := fun H locs ls hP hD hS hl => lv_iload C.1 C.2.1 hdg (lvf_at hl hf) (kk H locs ls hP hD hS hl)
theorem J_istore_n (C : Cx p s m args meth c G A nL cc own) {i : Fin 4} {x : Int32} (lv' : List (Nat × Value)) (hn : (i : Nat) < nL) (hlv : ((i : Nat), Value.int x) :: lv.filter (fun q => !(q.1 == (i : Nat)) && !(q.1 + 1 == (i : Nat) && q.2.category == 2)) = lv') (hdg : decode cc pc = .ok (.istore_n i, 1)) (kk : J p l e R s m args below meth c Q G A nL k n ws lv' (pc + 1) st) : J p l e R s m args below meth c Q G A nL k n ws lv pc (.int x :: st) := fun H locs ls hP hD hS hl => lv_istore_n C.1 C.2.1 hdg rfl hl hn hlv (fun ls' hl' => kk H locs ls' hP hD hS hl')
theorem J_istore (C : Cx p s m args meth c G A nL cc own) {i : Nat} {x : Int32} (lv' : List (Nat × Value)) (hn : i < nL) (hlv : (i, Value.int x) :: lv.filter (fun q => !(q.1 == i) && !(q.1 + 1 == i && q.2.category == 2)) = lv') (hdg : decode cc pc = .ok (.istore i, 2)) (kk : J p l e R s m args below meth c Q G A nL k n ws lv' (pc + 2) st) : J p l e R s m args below meth c Q G A nL k n ws lv pc (.int x :: st) := fun H locs ls hP hD hS hl => lv_istore C.1 C.2.1 hdg hl hn hlv (fun ls' hl' => kk H locs ls' hP hD hS hl')
theorem J_lload_n (C : Cx p s m args meth c G A nL cc own) {i : Fin 4} {x : Int64} (hf : lvf lv (i : Nat) = some (.long x)) (hdg : decode cc pc = .ok (.lload_n i, 1)) (kk : J p l e R s m args below meth c Q G A nL k n ws lv (pc + 1) (.long x :: st)) : J p l e R s m args below meth c Q G A nL k n ws lv pc (st) := fun H locs ls hP hD hS hl => lv_lload_n C.1 C.2.1 hdg rfl (lvf_at hl hf) (kk H locs ls hP hD hS hl)
theorem J_lload (C : Cx p s m args meth c G A nL cc own) {i : Nat} {x : Int64} (hf : lvf lv i = some (.long x)) (hdg : decode cc pc = .ok (.lload i, 2)) (kk : J p l e R s m args below meth c Q G A nL k n ws lv (pc + 2) (.long x :: st)) : J p l e R s m args below meth c Q G A nL k n ws lv pc (st) := fun H locs ls hP hD hS hl => lv_lload C.1 C.2.1 hdg (lvf_at hl hf) (kk H locs ls hP hD hS hl)
theorem J_fload_n (C : Cx p s m args meth c G A nL cc own) {i : Fin 4} {x : UInt32} (hf : lvf lv (i : Nat) = some (.float x)) (hdg : decode cc pc = .ok (.fload_n i, 1)) (kk : J p l e R s m args below meth c Q G A nL k n ws lv (pc + 1) (.float x :: st)) : J p l e R s m args below meth c Q G A nL k n ws lv pc (st) := fun H locs ls hP hD hS hl => lv_fload_n C.1 C.2.1 hdg rfl (lvf_at hl hf) (kk H locs ls hP hD hS hl)
theorem J_fload (C : Cx p s m args meth c G A nL cc own) {i : Nat} {x : UInt32} (hf : lvf lv i = some (.float x)) (hdg : decode cc pc = .ok (.fload i, 2)) (kk : J p l e R s m args below meth c Q G A nL k n ws lv (pc + 2) (.float x :: st)) : J p l e R s m args below meth c Q G A nL k n ws lv pc (st) := fun H locs ls hP hD hS hl => lv_fload C.1 C.2.1 hdg (lvf_at hl hf) (kk H locs ls hP hD hS hl)
theorem J_fstore_n (C : Cx p s m args meth c G A nL cc own) {i : Fin 4} {x : UInt32} (lv' : List (Nat × Value)) (hn : (i : Nat) < nL) (hlv : ((i : Nat), Value.float x) :: lv.filter (fun q => !(q.1 == (i : Nat)) && !(q.1 + 1 == (i : Nat) && q.2.category == 2)) = lv') (hdg : decode cc pc = .ok (.fstore_n i, 1)) (kk : J p l e R s m args below meth c Q G A nL k n ws lv' (pc + 1) st) : J p l e R s m args below meth c Q G A nL k n ws lv pc (.float x :: st) := fun H locs ls hP hD hS hl => lv_fstore_n C.1 C.2.1 hdg rfl hl hn hlv (fun ls' hl' => kk H locs ls' hP hD hS hl')
theorem J_fstore (C : Cx p s m args meth c G A nL cc own) {i : Nat} {x : UInt32} (lv' : List (Nat × Value)) (hn : i < nL) (hlv : (i, Value.float x) :: lv.filter (fun q => !(q.1 == i) && !(q.1 + 1 == i && q.2.category == 2)) = lv') (hdg : decode cc pc = .ok (.fstore i, 2)) (kk : J p l e R s m args below meth c Q G A nL k n ws lv' (pc + 2) st) : J p l e R s m args below meth c Q G A nL k n ws lv pc (.float x :: st) := fun H locs ls hP hD hS hl => lv_fstore C.1 C.2.1 hdg hl hn hlv (fun ls' hl' => kk H locs ls' hP hD hS hl')
theorem J_dload_n (C : Cx p s m args meth c G A nL cc own) {i : Fin 4} {x : UInt64} (hf : lvf lv (i : Nat) = some (.double x)) (hdg : decode cc pc = .ok (.dload_n i, 1)) (kk : J p l e R s m args below meth c Q G A nL k n ws lv (pc + 1) (.double x :: st)) : J p l e R s m args below meth c Q G A nL k n ws lv pc (st) := fun H locs ls hP hD hS hl => lv_dload_n C.1 C.2.1 hdg rfl (lvf_at hl hf) (kk H locs ls hP hD hS hl)
theorem J_dload (C : Cx p s m args meth c G A nL cc own) {i : Nat} {x : UInt64} (hf : lvf lv i = some (.double x)) (hdg : decode cc pc = .ok (.dload i, 2)) (kk : J p l e R s m args below meth c Q G A nL k n ws lv (pc + 2) (.double x :: st)) : J p l e R s m args below meth c Q G A nL k n ws lv pc (st) := fun H locs ls hP hD hS hl => lv_dload C.1 C.2.1 hdg (lvf_at hl hf) (kk H locs ls hP hD hS hl)
theorem J_dstore (C : Cx p s m args meth c G A nL cc own) {i : Nat} {x : UInt64} (lv' : List (Nat × Value)) (hn : i + 1 < nL) (hlv : (i, Value.double x) :: lv.filter (fun q => !(q.1 == i) && (!(q.1 == i + 1) && !(q.1 + 1 == i && q.2.category == 2))) = lv') (hdg : decode cc pc = .ok (.dstore i, 2)) (kk : J p l e R s m args below meth c Q G A nL k n ws lv' (pc + 2) st) : J p l e R s m args below meth c Q G A nL k n ws lv pc (.double x :: st) := fun H locs ls hP hD hS hl => lv_dstore C.1 C.2.1 hdg hl hn hlv (fun ls' hl' => kk H locs ls' hP hD hS hl')
theorem J_aload_n (C : Cx p s m args meth c G A nL cc own) {i : Fin 4} {x : Nat} (hf : lvf lv (i : Nat) = some (.ref x)) (hdg : decode cc pc = .ok (.aload_n i, 1)) (kk : J p l e R s m args below meth c Q G A nL k n ws lv (pc + 1) (.ref x :: st)) : J p l e R s m args below meth c Q G A nL k n ws lv pc (st) := fun H locs ls hP hD hS hl => lv_aload_n C.1 C.2.1 hdg rfl (lvf_at hl hf) (kk H locs ls hP hD hS hl)
theorem J_aload (C : Cx p s m args meth c G A nL cc own) {i : Nat} {x : Nat} (hf : lvf lv i = some (.ref x)) (hdg : decode cc pc = .ok (.aload i, 2)) (kk : J p l e R s m args below meth c Q G A nL k n ws lv (pc + 2) (.ref x :: st)) : J p l e R s m args below meth c Q G A nL k n ws lv pc (st) := fun H locs ls hP hD hS hl => lv_aload C.1 C.2.1 hdg (lvf_at hl hf) (kk H locs ls hP hD hS hl)
theorem J_astore_n (C : Cx p s m args meth c G A nL cc own) {i : Fin 4} {x : Nat} (lv' : List (Nat × Value)) (hn : (i : Nat) < nL) (hlv : ((i : Nat), Value.ref x) :: lv.filter (fun q => !(q.1 == (i : Nat)) && !(q.1 + 1 == (i : Nat) && q.2.category == 2)) = lv') (hdg : decode cc pc = .ok (.astore_n i, 1)) (kk : J p l e R s m args below meth c Q G A nL k n ws lv' (pc + 1) st) : J p l e R s m args below meth c Q G A nL k n ws lv pc (.ref x :: st) := fun H locs ls hP hD hS hl => lv_astore_n C.1 C.2.1 hdg rfl hl hn hlv (fun ls' hl' => kk H locs ls' hP hD hS hl')
theorem J_astore (C : Cx p s m args meth c G A nL cc own) {i : Nat} {x : Nat} (lv' : List (Nat × Value)) (hn : i < nL) (hlv : (i, Value.ref x) :: lv.filter (fun q => !(q.1 == i) && !(q.1 + 1 == i && q.2.category == 2)) = lv') (hdg : decode cc pc = .ok (.astore i, 2)) (kk : J p l e R s m args below meth c Q G A nL k n ws lv' (pc + 2) st) : J p l e R s m args below meth c Q G A nL k n ws lv pc (.ref x :: st) := fun H locs ls hP hD hS hl => lv_astore C.1 C.2.1 hdg hl hn hlv (fun ls' hl' => kk H locs ls' hP hD hS hl')
theorem J_iinc (C : Cx p s m args meth c G A nL cc own) {i : Nat} {z : Int} {x : Int32} (v : Int32) (lv' : List (Nat × Value)) (kx : Nat) (hk : lv[kx]? = some (i, .int x)) (hv : x + Int32.ofInt z = v) (hn : i < nL) (hlv : (i, Value.int v) :: lv.filter (fun q => !(q.1 == i) && !(q.1 + 1 == i && q.2.category == 2)) = lv') (hdg : decode cc pc = .ok (.iinc i z, 3)) (kk : J p l e R s m args below meth c Q G A nL k n ws lv' (pc + 3) st) : J p l e R s m args below meth c Q G A nL k n ws lv pc st := fun H locs ls hP hD hS hl => lv_iinc C.1 C.2.1 hdg hl hk hv hn hlv (fun ls' hl' => kk H locs ls' hP hD hS hl')
theorem J_iadd (C : Cx p s m args meth c G A nL cc own) {x y : Int32}  (hdg : decode cc pc = .ok (.iadd, 1)) (kk : J p l e R s m args below meth c Q G A nL k n ws lv (pc + 1) (.int (x + y) :: st)) : J p l e R s m args below meth c Q G A nL k n ws lv pc (.int y :: .int x :: st) := fun H locs ls hP hD hS hl => lv_iadd C.1 C.2.1 hdg (kk H locs ls hP hD hS hl)
theorem J_isub (C : Cx p s m args meth c G A nL cc own) {x y : Int32}  (hdg : decode cc pc = .ok (.isub, 1)) (kk : J p l e R s m args below meth c Q G A nL k n ws lv (pc + 1) (.int (x - y) :: st)) : J p l e R s m args below meth c Q G A nL k n ws lv pc (.int y :: .int x :: st) := fun H locs ls hP hD hS hl => lv_isub C.1 C.2.1 hdg (kk H locs ls hP hD hS hl)
theorem J_imul (C : Cx p s m args meth c G A nL cc own) {x y : Int32}  (hdg : decode cc pc = .ok (.imul, 1)) (kk : J p l e R s m args below meth c Q G A nL k n ws lv (pc + 1) (.int (x * y) :: st)) : J p l e R s m args below meth c Q G A nL k n ws lv pc (.int y :: .int x :: st) := fun H locs ls hP hD hS hl => lv_imul C.1 C.2.1 hdg (kk H locs ls hP hD hS hl)
theorem J_iand (C : Cx p s m args meth c G A nL cc own) {x y : Int32}  (hdg : decode cc pc = .ok (.iand, 1)) (kk : J p l e R s m args below meth c Q G A nL k n ws lv (pc + 1) (.int (x &&& y) :: st)) : J p l e R s m args below meth c Q G A nL k n ws lv pc (.int y :: .int x :: st) := fun H locs ls hP hD hS hl => lv_iand C.1 C.2.1 hdg (kk H locs ls hP hD hS hl)
theorem J_lsub (C : Cx p s m args meth c G A nL cc own) {x y : Int64}  (hdg : decode cc pc = .ok (.lsub, 1)) (kk : J p l e R s m args below meth c Q G A nL k n ws lv (pc + 1) (.long (x - y) :: st)) : J p l e R s m args below meth c Q G A nL k n ws lv pc (.long y :: .long x :: st) := fun H locs ls hP hD hS hl => lv_lsub C.1 C.2.1 hdg (kk H locs ls hP hD hS hl)
theorem J_idiv (C : Cx p s m args meth c G A nL cc own) {x y : Int32} (hne : ¬ y = 0) (hdg : decode cc pc = .ok (.idiv, 1)) (kk : J p l e R s m args below meth c Q G A nL k n ws lv (pc + 1) (.int (x / y) :: st)) : J p l e R s m args below meth c Q G A nL k n ws lv pc (.int y :: .int x :: st) := fun H locs ls hP hD hS hl => lv_idiv C.1 C.2.1 hdg hne (kk H locs ls hP hD hS hl)
theorem J_irem (C : Cx p s m args meth c G A nL cc own) {x y : Int32} (hne : ¬ y = 0) (hdg : decode cc pc = .ok (.irem, 1)) (kk : J p l e R s m args below meth c Q G A nL k n ws lv (pc + 1) (.int (x - x / y * y) :: st)) : J p l e R s m args below meth c Q G A nL k n ws lv pc (.int y :: .int x :: st) := fun H locs ls hP hD hS hl => lv_irem C.1 C.2.1 hdg hne (kk H locs ls hP hD hS hl)
theorem J_i2l (C : Cx p s m args meth c G A nL cc own) {x : Int32}  (hdg : decode cc pc = .ok (.i2l, 1)) (kk : J p l e R s m args below meth c Q G A nL k n ws lv (pc + 1) (.long x.toInt64 :: st)) : J p l e R s m args below meth c Q G A nL k n ws lv pc (.int x :: st) := fun H locs ls hP hD hS hl => lv_i2l C.1 C.2.1 hdg rfl (kk H locs ls hP hD hS hl)
theorem J_i2c (C : Cx p s m args meth c G A nL cc own) {x : Int32}  (hdg : decode cc pc = .ok (.i2c, 1)) (kk : J p l e R s m args below meth c Q G A nL k n ws lv (pc + 1) (.int (x.toUInt32 % 65536).toInt32 :: st)) : J p l e R s m args below meth c Q G A nL k n ws lv pc (.int x :: st) := fun H locs ls hP hD hS hl => lv_i2c C.1 C.2.1 hdg rfl (kk H locs ls hP hD hS hl)
theorem J_i2f (C : Cx p s m args meth c G A nL cc own) {x : Int32}  (hdg : decode cc pc = .ok (.i2f, 1)) (kk : J p l e R s m args below meth c Q G A nL k n ws lv (pc + 1) (.float (FP.i2f x) :: st)) : J p l e R s m args below meth c Q G A nL k n ws lv pc (.int x :: st) := fun H locs ls hP hD hS hl => lv_i2f C.1 C.2.1 hdg (kk H locs ls hP hD hS hl)
theorem J_i2d (C : Cx p s m args meth c G A nL cc own) {x : Int32}  (hdg : decode cc pc = .ok (.i2d, 1)) (kk : J p l e R s m args below meth c Q G A nL k n ws lv (pc + 1) (.double (FP.i2d x) :: st)) : J p l e R s m args below meth c Q G A nL k n ws lv pc (.int x :: st) := fun H locs ls hP hD hS hl => lv_i2d C.1 C.2.1 hdg (kk H locs ls hP hD hS hl)
theorem J_f2d (C : Cx p s m args meth c G A nL cc own) {x : UInt32} (hne : vf_n64 (FP.f2d x)) (hdg : decode cc pc = .ok (.f2d, 1)) (kk : J p l e R s m args below meth c Q G A nL k n ws lv (pc + 1) (.double (FP.f2d x) :: st)) : J p l e R s m args below meth c Q G A nL k n ws lv pc (.float x :: st) := fun H locs ls hP hD hS hl => lv_f2d C.1 C.2.1 hdg hne (kk H locs ls hP hD hS hl)
theorem J_fadd (C : Cx p s m args meth c G A nL cc own) {x y : UInt32} (hne : vf_n32 (FP.fadd x y)) (hdg : decode cc pc = .ok (.fadd, 1)) (kk : J p l e R s m args below meth c Q G A nL k n ws lv (pc + 1) (.float (FP.fadd x y) :: st)) : J p l e R s m args below meth c Q G A nL k n ws lv pc (.float y :: .float x :: st) := fun H locs ls hP hD hS hl => lv_fadd C.1 C.2.1 hdg hne (kk H locs ls hP hD hS hl)
theorem J_fsub (C : Cx p s m args meth c G A nL cc own) {x y : UInt32} (hne : vf_n32 (FP.fsub x y)) (hdg : decode cc pc = .ok (.fsub, 1)) (kk : J p l e R s m args below meth c Q G A nL k n ws lv (pc + 1) (.float (FP.fsub x y) :: st)) : J p l e R s m args below meth c Q G A nL k n ws lv pc (.float y :: .float x :: st) := fun H locs ls hP hD hS hl => lv_fsub C.1 C.2.1 hdg hne (kk H locs ls hP hD hS hl)
theorem J_fdiv (C : Cx p s m args meth c G A nL cc own) {x y : UInt32} (hne : vf_n32 (FP.fdiv x y)) (hdg : decode cc pc = .ok (.fdiv, 1)) (kk : J p l e R s m args below meth c Q G A nL k n ws lv (pc + 1) (.float (FP.fdiv x y) :: st)) : J p l e R s m args below meth c Q G A nL k n ws lv pc (.float y :: .float x :: st) := fun H locs ls hP hD hS hl => lv_fdiv C.1 C.2.1 hdg hne (kk H locs ls hP hD hS hl)
theorem J_ddiv (C : Cx p s m args meth c G A nL cc own) {x y : UInt64} (hne : vf_n64 (FP.ddiv x y)) (hdg : decode cc pc = .ok (.ddiv, 1)) (kk : J p l e R s m args below meth c Q G A nL k n ws lv (pc + 1) (.double (FP.ddiv x y) :: st)) : J p l e R s m args below meth c Q G A nL k n ws lv pc (.double y :: .double x :: st) := fun H locs ls hP hD hS hl => lv_ddiv C.1 C.2.1 hdg hne (kk H locs ls hP hD hS hl)
theorem J_fcmp (C : Cx p s m args meth c G A nL cc own) {x y : UInt32} {op : CmpOp}  (hdg : decode cc pc = .ok (.fcmp op, 1)) (kk : J p l e R s m args below meth c Q G A nL k n ws lv (pc + 1) (.int (Op.cmpValue (FP.fcmp x y) op) :: st)) : J p l e R s m args below meth c Q G A nL k n ws lv pc (.float y :: .float x :: st) := fun H locs ls hP hD hS hl => lv_fcmp C.1 C.2.1 hdg (kk H locs ls hP hD hS hl)
theorem J_dcmp (C : Cx p s m args meth c G A nL cc own) {x y : UInt64} {op : CmpOp}  (hdg : decode cc pc = .ok (.dcmp op, 1)) (kk : J p l e R s m args below meth c Q G A nL k n ws lv (pc + 1) (.int (Op.cmpValue (FP.dcmp x y) op) :: st)) : J p l e R s m args below meth c Q G A nL k n ws lv pc (.double y :: .double x :: st) := fun H locs ls hP hD hS hl => lv_dcmp C.1 C.2.1 hdg (kk H locs ls hP hD hS hl)
theorem J_fconst0 (C : Cx p s m args meth c G A nL cc own)   (hdg : decode cc pc = .ok (.fconst 0, 1)) (kk : J p l e R s m args below meth c Q G A nL k n ws lv (pc + 1) (.float FP.fconst0 :: st)) : J p l e R s m args below meth c Q G A nL k n ws lv pc (st) := fun H locs ls hP hD hS hl => lv_fconst0 C.1 C.2.1 hdg (kk H locs ls hP hD hS hl)
theorem J_fconst1 (C : Cx p s m args meth c G A nL cc own)   (hdg : decode cc pc = .ok (.fconst 1, 1)) (kk : J p l e R s m args below meth c Q G A nL k n ws lv (pc + 1) (.float FP.fconst1 :: st)) : J p l e R s m args below meth c Q G A nL k n ws lv pc (st) := fun H locs ls hP hD hS hl => lv_fconst1 C.1 C.2.1 hdg (kk H locs ls hP hD hS hl)
theorem J_dconst0 (C : Cx p s m args meth c G A nL cc own)   (hdg : decode cc pc = .ok (.dconst 0, 1)) (kk : J p l e R s m args below meth c Q G A nL k n ws lv (pc + 1) (.double FP.dconst0 :: st)) : J p l e R s m args below meth c Q G A nL k n ws lv pc (st) := fun H locs ls hP hD hS hl => lv_dconst0 C.1 C.2.1 hdg (kk H locs ls hP hD hS hl)
theorem J_null (C : Cx p s m args meth c G A nL cc own)   (hdg : decode cc pc = .ok (.aconst_null, 1)) (kk : J p l e R s m args below meth c Q G A nL k n ws lv (pc + 1) (.null :: st)) : J p l e R s m args below meth c Q G A nL k n ws lv pc (st) := fun H locs ls hP hD hS hl => lv_null C.1 C.2.1 hdg (kk H locs ls hP hD hS hl)
theorem J_ldc (C : Cx p s m args meth c G A nL cc own) {index : Nat} {v : Int32} (hw : Cond.constant own index v ∈ GW) (hdg : decode cc pc = .ok (.ldc index, 2)) (kk : J p l e R s m args below meth c Q G A nL k n ws lv (pc + 2) (.int v :: st)) : J p l e R s m args below meth c Q G A nL k n ws lv pc (st) := fun H locs ls hP hD hS hl => lv_ldc C.1 C.2.1 C.2.2.2.1 (C.2.2.2.2.1 _ hw) hdg (kk H locs ls hP hD hS hl)
theorem J_ldcf (C : Cx p s m args meth c G A nL cc own) {index : Nat} {v : UInt32} (hw : Cond.constantFloat own index v ∈ GW) (hdg : decode cc pc = .ok (.ldc index, 2)) (kk : J p l e R s m args below meth c Q G A nL k n ws lv (pc + 2) (.float v :: st)) : J p l e R s m args below meth c Q G A nL k n ws lv pc (st) := fun H locs ls hP hD hS hl => lv_ldcf C.1 C.2.1 C.2.2.2.1 (C.2.2.2.2.1 _ hw) hdg (kk H locs ls hP hD hS hl)
theorem J_ldc2 (C : Cx p s m args meth c G A nL cc own) {index : Nat} {v : Int64} (hw : Cond.constantLong own index v ∈ GW) (hdg : decode cc pc = .ok (.ldc2_w index, 3)) (kk : J p l e R s m args below meth c Q G A nL k n ws lv (pc + 3) (.long v :: st)) : J p l e R s m args below meth c Q G A nL k n ws lv pc (st) := fun H locs ls hP hD hS hl => lv_ldc2 C.1 C.2.1 C.2.2.2.1 (C.2.2.2.2.1 _ hw) hdg (kk H locs ls hP hD hS hl)
theorem J_ldc2d (C : Cx p s m args meth c G A nL cc own) {index : Nat} {v : UInt64} (hw : Cond.constantDouble own index v ∈ GW) (hdg : decode cc pc = .ok (.ldc2_w index, 3)) (kk : J p l e R s m args below meth c Q G A nL k n ws lv (pc + 3) (.double v :: st)) : J p l e R s m args below meth c Q G A nL k n ws lv pc (st) := fun H locs ls hP hD hS hl => lv_ldc2d C.1 C.2.1 C.2.2.2.1 (C.2.2.2.2.1 _ hw) hdg (kk H locs ls hP hD hS hl)
theorem J_dup (C : Cx p s m args meth c G A nL cc own) {va : Value} (hva : va.category = 1) (hdg : decode cc pc = .ok (.dup, 1)) (kk : J p l e R s m args below meth c Q G A nL k n ws lv (pc + 1) (va :: va :: st)) : J p l e R s m args below meth c Q G A nL k n ws lv pc (va :: st) := fun H locs ls hP hD hS hl => lv_dup C.1 C.2.1 hdg hva (kk H locs ls hP hD hS hl)
theorem J_pop (C : Cx p s m args meth c G A nL cc own) {va : Value} (hva : va.category = 1) (hdg : decode cc pc = .ok (.pop, 1)) (kk : J p l e R s m args below meth c Q G A nL k n ws lv (pc + 1) (st)) : J p l e R s m args below meth c Q G A nL k n ws lv pc (va :: st) := fun H locs ls hP hD hS hl => lv_pop C.1 C.2.1 hdg hva (kk H locs ls hP hD hS hl)
theorem J_dup2 (C : Cx p s m args meth c G A nL cc own) {va vb : Value} (hva : va.category = 1) (hvb : vb.category = 1) (hdg : decode cc pc = .ok (.dup2, 1)) (kk : J p l e R s m args below meth c Q G A nL k n ws lv (pc + 1) (va :: vb :: va :: vb :: st)) : J p l e R s m args below meth c Q G A nL k n ws lv pc (va :: vb :: st) := fun H locs ls hP hD hS hl => lv_dup2_11 C.1 C.2.1 hdg hva hvb (kk H locs ls hP hD hS hl)
theorem J_goto (C : Cx p s m args meth c G A nL cc own) {off : Int} (tgt : Nat) (ht : (pc : Int) + off = (tgt : Int)) (hdg : decode cc pc = .ok (.goto off, 3)) (kk : J p l e R s m args below meth c Q G A nL k n ws lv tgt (st)) : J p l e R s m args below meth c Q G A nL k n ws lv pc (st) := fun H locs ls hP hD hS hl => lv_goto C.1 C.2.1 hdg ht (kk H locs ls hP hD hS hl)
theorem J_if_eq (C : Cx p s m args meth c G A nL cc own) {x : Int32} {off : Int} (tgt : Nat) (ht : (pc : Int) + off = (tgt : Int)) (hdg : decode cc pc = .ok (.ifCond .eq off, 3)) (kt : (x = 0) → J p l e R s m args below meth c Q G A nL k n ws lv tgt st) (kf : (¬ x = 0) → J p l e R s m args below meth c Q G A nL k n ws lv (pc + 3) st) : J p l e R s m args below meth c Q G A nL k n ws lv pc (.int x :: st) := fun H locs ls hP hD hS hl => lv_if_eq C.1 C.2.1 hdg ht (fun h => kt h H locs ls hP hD hS hl) (fun h => kf h H locs ls hP hD hS hl)
theorem J_icmp_eq (C : Cx p s m args meth c G A nL cc own) {x y : Int32} {off : Int} (tgt : Nat) (ht : (pc : Int) + off = (tgt : Int)) (hdg : decode cc pc = .ok (.if_icmp .eq off, 3)) (kt : (x = y) → J p l e R s m args below meth c Q G A nL k n ws lv tgt st) (kf : (¬ x = y) → J p l e R s m args below meth c Q G A nL k n ws lv (pc + 3) st) : J p l e R s m args below meth c Q G A nL k n ws lv pc (.int y :: .int x :: st) := fun H locs ls hP hD hS hl => lv_icmp_eq C.1 C.2.1 hdg ht (fun h => kt h H locs ls hP hD hS hl) (fun h => kf h H locs ls hP hD hS hl)
theorem J_if_ne (C : Cx p s m args meth c G A nL cc own) {x : Int32} {off : Int} (tgt : Nat) (ht : (pc : Int) + off = (tgt : Int)) (hdg : decode cc pc = .ok (.ifCond .ne off, 3)) (kt : (¬ x = 0) → J p l e R s m args below meth c Q G A nL k n ws lv tgt st) (kf : (x = 0) → J p l e R s m args below meth c Q G A nL k n ws lv (pc + 3) st) : J p l e R s m args below meth c Q G A nL k n ws lv pc (.int x :: st) := fun H locs ls hP hD hS hl => lv_if_ne C.1 C.2.1 hdg ht (fun h => kt h H locs ls hP hD hS hl) (fun h => kf h H locs ls hP hD hS hl)
theorem J_icmp_ne (C : Cx p s m args meth c G A nL cc own) {x y : Int32} {off : Int} (tgt : Nat) (ht : (pc : Int) + off = (tgt : Int)) (hdg : decode cc pc = .ok (.if_icmp .ne off, 3)) (kt : (¬ x = y) → J p l e R s m args below meth c Q G A nL k n ws lv tgt st) (kf : (x = y) → J p l e R s m args below meth c Q G A nL k n ws lv (pc + 3) st) : J p l e R s m args below meth c Q G A nL k n ws lv pc (.int y :: .int x :: st) := fun H locs ls hP hD hS hl => lv_icmp_ne C.1 C.2.1 hdg ht (fun h => kt h H locs ls hP hD hS hl) (fun h => kf h H locs ls hP hD hS hl)
theorem J_if_lt (C : Cx p s m args meth c G A nL cc own) {x : Int32} {off : Int} (tgt : Nat) (ht : (pc : Int) + off = (tgt : Int)) (hdg : decode cc pc = .ok (.ifCond .lt off, 3)) (kt : (x < 0) → J p l e R s m args below meth c Q G A nL k n ws lv tgt st) (kf : (¬ x < 0) → J p l e R s m args below meth c Q G A nL k n ws lv (pc + 3) st) : J p l e R s m args below meth c Q G A nL k n ws lv pc (.int x :: st) := fun H locs ls hP hD hS hl => lv_if_lt C.1 C.2.1 hdg ht (fun h => kt h H locs ls hP hD hS hl) (fun h => kf h H locs ls hP hD hS hl)
theorem J_icmp_lt (C : Cx p s m args meth c G A nL cc own) {x y : Int32} {off : Int} (tgt : Nat) (ht : (pc : Int) + off = (tgt : Int)) (hdg : decode cc pc = .ok (.if_icmp .lt off, 3)) (kt : (x < y) → J p l e R s m args below meth c Q G A nL k n ws lv tgt st) (kf : (¬ x < y) → J p l e R s m args below meth c Q G A nL k n ws lv (pc + 3) st) : J p l e R s m args below meth c Q G A nL k n ws lv pc (.int y :: .int x :: st) := fun H locs ls hP hD hS hl => lv_icmp_lt C.1 C.2.1 hdg ht (fun h => kt h H locs ls hP hD hS hl) (fun h => kf h H locs ls hP hD hS hl)
theorem J_if_ge (C : Cx p s m args meth c G A nL cc own) {x : Int32} {off : Int} (tgt : Nat) (ht : (pc : Int) + off = (tgt : Int)) (hdg : decode cc pc = .ok (.ifCond .ge off, 3)) (kt : (0 ≤ x) → J p l e R s m args below meth c Q G A nL k n ws lv tgt st) (kf : (¬ 0 ≤ x) → J p l e R s m args below meth c Q G A nL k n ws lv (pc + 3) st) : J p l e R s m args below meth c Q G A nL k n ws lv pc (.int x :: st) := fun H locs ls hP hD hS hl => lv_if_ge C.1 C.2.1 hdg ht (fun h => kt h H locs ls hP hD hS hl) (fun h => kf h H locs ls hP hD hS hl)
theorem J_icmp_ge (C : Cx p s m args meth c G A nL cc own) {x y : Int32} {off : Int} (tgt : Nat) (ht : (pc : Int) + off = (tgt : Int)) (hdg : decode cc pc = .ok (.if_icmp .ge off, 3)) (kt : (y ≤ x) → J p l e R s m args below meth c Q G A nL k n ws lv tgt st) (kf : (¬ y ≤ x) → J p l e R s m args below meth c Q G A nL k n ws lv (pc + 3) st) : J p l e R s m args below meth c Q G A nL k n ws lv pc (.int y :: .int x :: st) := fun H locs ls hP hD hS hl => lv_icmp_ge C.1 C.2.1 hdg ht (fun h => kt h H locs ls hP hD hS hl) (fun h => kf h H locs ls hP hD hS hl)
theorem J_if_gt (C : Cx p s m args meth c G A nL cc own) {x : Int32} {off : Int} (tgt : Nat) (ht : (pc : Int) + off = (tgt : Int)) (hdg : decode cc pc = .ok (.ifCond .gt off, 3)) (kt : (0 < x) → J p l e R s m args below meth c Q G A nL k n ws lv tgt st) (kf : (¬ 0 < x) → J p l e R s m args below meth c Q G A nL k n ws lv (pc + 3) st) : J p l e R s m args below meth c Q G A nL k n ws lv pc (.int x :: st) := fun H locs ls hP hD hS hl => lv_if_gt C.1 C.2.1 hdg ht (fun h => kt h H locs ls hP hD hS hl) (fun h => kf h H locs ls hP hD hS hl)
theorem J_icmp_gt (C : Cx p s m args meth c G A nL cc own) {x y : Int32} {off : Int} (tgt : Nat) (ht : (pc : Int) + off = (tgt : Int)) (hdg : decode cc pc = .ok (.if_icmp .gt off, 3)) (kt : (y < x) → J p l e R s m args below meth c Q G A nL k n ws lv tgt st) (kf : (¬ y < x) → J p l e R s m args below meth c Q G A nL k n ws lv (pc + 3) st) : J p l e R s m args below meth c Q G A nL k n ws lv pc (.int y :: .int x :: st) := fun H locs ls hP hD hS hl => lv_icmp_gt C.1 C.2.1 hdg ht (fun h => kt h H locs ls hP hD hS hl) (fun h => kf h H locs ls hP hD hS hl)
theorem J_if_le (C : Cx p s m args meth c G A nL cc own) {x : Int32} {off : Int} (tgt : Nat) (ht : (pc : Int) + off = (tgt : Int)) (hdg : decode cc pc = .ok (.ifCond .le off, 3)) (kt : (x ≤ 0) → J p l e R s m args below meth c Q G A nL k n ws lv tgt st) (kf : (¬ x ≤ 0) → J p l e R s m args below meth c Q G A nL k n ws lv (pc + 3) st) : J p l e R s m args below meth c Q G A nL k n ws lv pc (.int x :: st) := fun H locs ls hP hD hS hl => lv_if_le C.1 C.2.1 hdg ht (fun h => kt h H locs ls hP hD hS hl) (fun h => kf h H locs ls hP hD hS hl)
theorem J_icmp_le (C : Cx p s m args meth c G A nL cc own) {x y : Int32} {off : Int} (tgt : Nat) (ht : (pc : Int) + off = (tgt : Int)) (hdg : decode cc pc = .ok (.if_icmp .le off, 3)) (kt : (x ≤ y) → J p l e R s m args below meth c Q G A nL k n ws lv tgt st) (kf : (¬ x ≤ y) → J p l e R s m args below meth c Q G A nL k n ws lv (pc + 3) st) : J p l e R s m args below meth c Q G A nL k n ws lv pc (.int y :: .int x :: st) := fun H locs ls hP hD hS hl => lv_icmp_le C.1 C.2.1 hdg ht (fun h => kt h H locs ls hP hD hS hl) (fun h => kf h H locs ls hP hD hS hl)
theorem J_ifnull (C : Cx p s m args meth c G A nL cc own) {x : Nat} {off : Int}  (hdg : decode cc pc = .ok (.ifnull off, 3)) (kk : J p l e R s m args below meth c Q G A nL k n ws lv (pc + 3) (st)) : J p l e R s m args below meth c Q G A nL k n ws lv pc (.ref x :: st) := fun H locs ls hP hD hS hl => lv_ifnull C.1 C.2.1 hdg (kk H locs ls hP hD hS hl)
theorem J_ifnonnullN (C : Cx p s m args meth c G A nL cc own) {off : Int}  (hdg : decode cc pc = .ok (.ifnonnull off, 3)) (kk : J p l e R s m args below meth c Q G A nL k n ws lv (pc + 3) (st)) : J p l e R s m args below meth c Q G A nL k n ws lv pc (.null :: st) := fun H locs ls hP hD hS hl => lv_ifnonnullN C.1 C.2.1 hdg (kk H locs ls hP hD hS hl)
theorem J_tableIn (C : Cx p s m args meth c G A nL cc own) {dflt lo hi : Int} {offs : Array Int} {len : Nat} {x : Int32} {off : Int} (tgt : Nat) (h1 : ¬ x.toInt < lo) (h2 : ¬ hi < x.toInt) (ho : offs[(x.toInt - lo).toNat]? = some off) (ht : (pc : Int) + off = (tgt : Int)) (hdg : decode cc pc = .ok (.tableswitch dflt lo hi offs, len)) (kk : J p l e R s m args below meth c Q G A nL k n ws lv tgt st) : J p l e R s m args below meth c Q G A nL k n ws lv pc (.int x :: st) := fun H locs ls hP hD hS hl => lv_tableIn C.1 C.2.1 hdg h1 h2 ho ht (kk H locs ls hP hD hS hl)
theorem J_tableOut (C : Cx p s m args meth c G A nL cc own) {dflt lo hi : Int} {offs : Array Int} {len : Nat} {x : Int32} (tgt : Nat) (h : x.toInt < lo ∨ hi < x.toInt) (ht : (pc : Int) + dflt = (tgt : Int)) (hdg : decode cc pc = .ok (.tableswitch dflt lo hi offs, len)) (kk : J p l e R s m args below meth c Q G A nL k n ws lv tgt st) : J p l e R s m args below meth c Q G A nL k n ws lv pc (.int x :: st) := fun H locs ls hP hD hS hl => lv_tableOut C.1 C.2.1 hdg h ht (kk H locs ls hP hD hS hl)
theorem J_get (C : Cx p s m args meth c G A nL cc own) {Cn : String} {T : u_T} {N ci index a : Nat} {fs : List Value} (q0 kf : Nat) (hin : ∀ w ∈ u_ws Cn T N, w ∈ GW) {v : Value} (he : ws[q0]? = some (a, .inr (ci, fs))) (hc : vwCl[ci]? = some (Cn, T, N)) (hk : kf < N) (hlink : Cond.fieldLink own index (T kf).1 (T kf).2.1 (T kf).2.2.1 ∈ GW) (hv : fs[kf]? = some v) (hdg : decode cc pc = .ok (.getfield index, 3)) (kk : J p l e R s m args below meth c Q G A nL k n ws lv (pc + 3) (v :: st)) : J p l e R s m args below meth c Q G A nL k n ws lv pc (.ref a :: st) := fun H locs ls hP hD hS hl => va_get C.1 C.2.1 C.2.2.2.2.1 hin C.2.2.2.1 C.2.2.2.2.2.1.1 hP q0 he hc kf hk (C.2.2.2.2.1 _ hlink) (fun _ h9 => h9) hv hdg (kk H locs ls hP hD hS hl)
theorem J_getN (C : Cx p s m args meth c G A nL cc own) {Cn : String} {T : u_T} {N ci index a : Nat} {fs : List Value} (q0 kf : Nat) (hin : ∀ w ∈ u_ws Cn T N, w ∈ GW) {v : Value} {host : String} (he : ws[q0]? = some (a, .inr (ci, fs))) (hc : vwCl[ci]? = some (Cn, T, N)) (hk : kf < N) (hlink : ∀ {U : State}, NOK U → va_Nw (.fieldLinkNest own index (T kf).1 (T kf).2.1 (T kf).2.2.1 host) U) (hv : fs[kf]? = some v) (hdg : decode cc pc = .ok (.getfield index, 3)) (kk : J p l e R s m args below meth c Q G A nL k n ws lv (pc + 3) (v :: st)) : J p l e R s m args below meth c Q G A nL k n ws lv pc (.ref a :: st) := fun H locs ls hP hD hS hl => va_getN C.1 C.2.1 C.2.2.2.2.1 hin C.2.2.2.1 C.2.2.2.2.2.1.1 hP q0 he hc kf hk (va_Nw.use rfl (hlink C.2.2.2.2.2.1.2)) (fun _ h9 => h9) hv hdg (kk H locs ls hP hD hS hl)
theorem J_put (C : Cx p s m args meth c G A nL cc own) {Cn : String} {T : u_T} {N ci index a : Nat} {fs : List Value} (q0 kf : Nat) (hin : ∀ w ∈ u_ws Cn T N, w ∈ GW) (ty0 : Nat → FieldType) (hty : ∀ k, k < N → parseFieldDescriptor (T k).2.2.1 = some (ty0 k)) (hnm : ∀ a, a < N → ∀ b, b < N → a ≠ b → (T a).2.1 ≠ (T b).2.1) {v : Value} (ws' : va_W) (he : ws[q0]? = some (a, .inr (ci, fs))) (hc : vwCl[ci]? = some (Cn, T, N)) (hk : kf < N) (hlink : Cond.fieldLink own index (T kf).1 (T kf).2.1 (T kf).2.2.1 ∈ GW) (hfin : (T kf).2.2.2 = false) (hn : narrow (ty0 kf) v = v) (hfit : fits (ty0 kf) v = true) (hlen : kf < fs.length) (hw : ws.set q0 (a, .inr (ci, fs.set kf v)) = ws') (hdg : decode cc pc = .ok (.putfield index, 3)) (kk : J p l e R s m args below meth c Q G A nL k n ws' lv (pc + 3) st) : J p l e R s m args below meth c Q G A nL k n ws lv pc (v :: .ref a :: st) := fun H locs ls hP hD hS hl => va_put C.1 C.2.1 C.2.2.2.2.1 hin ty0 hty hnm C.2.2.2.1 C.2.2.2.2.2.1.1 hP hD hS q0 he hc kf hk (C.2.2.2.2.1 _ hlink) (fun _ h9 => h9) hfin (hty kf hk) hn hfit hlen hdg (fun H1 locs1 hP1 hD1 hS1 => by rw [hw] at hP1 hD1; exact kk H1 locs1 ls hP1 hD1 hS1 hl)
theorem J_putN (C : Cx p s m args meth c G A nL cc own) {Cn : String} {T : u_T} {N ci index a : Nat} {fs : List Value} (q0 kf : Nat) (hin : ∀ w ∈ u_ws Cn T N, w ∈ GW) (ty0 : Nat → FieldType) (hty : ∀ k, k < N → parseFieldDescriptor (T k).2.2.1 = some (ty0 k)) (hnm : ∀ a, a < N → ∀ b, b < N → a ≠ b → (T a).2.1 ≠ (T b).2.1) {v : Value} (ws' : va_W) {host : String} (he : ws[q0]? = some (a, .inr (ci, fs))) (hc : vwCl[ci]? = some (Cn, T, N)) (hk : kf < N) (hlink : ∀ {U : State}, NOK U → va_Nw (.fieldLinkNest own index (T kf).1 (T kf).2.1 (T kf).2.2.1 host) U) (hfin : (T kf).2.2.2 = false) (hn : narrow (ty0 kf) v = v) (hfit : fits (ty0 kf) v = true) (hlen : kf < fs.length) (hw : ws.set q0 (a, .inr (ci, fs.set kf v)) = ws') (hdg : decode cc pc = .ok (.putfield index, 3)) (kk : J p l e R s m args below meth c Q G A nL k n ws' lv (pc + 3) st) : J p l e R s m args below meth c Q G A nL k n ws lv pc (v :: .ref a :: st) := fun H locs ls hP hD hS hl => va_putN C.1 C.2.1 C.2.2.2.2.1 hin ty0 hty hnm C.2.2.2.1 C.2.2.2.2.2.1.1 hP hD hS q0 he hc kf hk (va_Nw.use rfl (hlink C.2.2.2.2.2.1.2)) (fun _ h9 => h9) hfin (hty kf hk) hn hfit hlen hdg (fun H1 locs1 hP1 hD1 hS1 => by rw [hw] at hP1 hD1; exact kk H1 locs1 ls hP1 hD1 hS1 hl)
theorem J_putF (C : Cx p s m args meth c G A nL cc own) {Cn : String} {T : u_T} {N ci index a : Nat} {fs : List Value} (q0 kf : Nat) (hin : ∀ w ∈ u_ws Cn T N, w ∈ GW) (ty0 : Nat → FieldType) (hty : ∀ k, k < N → parseFieldDescriptor (T k).2.2.1 = some (ty0 k)) (hnm : ∀ a, a < N → ∀ b, b < N → a ≠ b → (T a).2.1 ≠ (T b).2.1) {v : Value} (ws' : va_W) (he : ws[q0]? = some (a, .inr (ci, fs))) (hc : vwCl[ci]? = some (Cn, T, N)) (hk : kf < N) (hlink : Cond.fieldLink own index (T kf).1 (T kf).2.1 (T kf).2.2.1 ∈ GW) (hfin : (T kf).2.2.2 = true) (hin2 : meth.name = "<init>") (hdecl : (T kf).1 = own) (hn : narrow (ty0 kf) v = v) (hfit : fits (ty0 kf) v = true) (hlen : kf < fs.length) (hw : ws.set q0 (a, .inr (ci, fs.set kf v)) = ws') (hdg : decode cc pc = .ok (.putfield index, 3)) (kk : J p l e R s m args below meth c Q G A nL k n ws' lv (pc + 3) st) : J p l e R s m args below meth c Q G A nL k n ws lv pc (v :: .ref a :: st) := fun H locs ls hP hD hS hl => va_putF C.1 C.2.1 C.2.2.2.2.1 hin ty0 hty hnm C.2.2.2.1 C.2.2.2.2.2.1.1 hP hD hS q0 he hc kf hk (C.2.2.2.2.1 _ hlink) (fun _ h9 => h9) hfin hin2 hdecl (hty kf hk) hn hfit hlen hdg (fun H1 locs1 hP1 hD1 hS1 => by rw [hw] at hP1 hD1; exact kk H1 locs1 ls hP1 hD1 hS1 hl)
theorem ix_in {N j : Nat} {i : Int32} (hi : i = nI j) (hj : j < N) (hN : N ≤ 4096) : vp_in i N ∧ i.toNatClampNeg = j := by subst hi; exact ⟨vp_in_nI hj (by omega), nI_clamp (by omega)⟩
theorem J_iald (C : Cx p s m args meth c G A nL cc own) {a N : Nat} {i : Int32} {f : Nat → Int32} (q0 : Nat) (he : ws[q0]? = some (a, .inl (G.2.1, N, .inl f))) (j : Nat) (hi : i = nI j) (hj : j < N) (hN : N ≤ 4096) (hdg : decode cc pc = .ok (.iaload, 1)) (kk : J p l e R s m args below meth c Q G A nL k n ws lv (pc + 1) (.int (f j) :: st)) : J p l e R s m args below meth c Q G A nL k n ws lv pc (.int i :: .ref a :: st) := by
  obtain ⟨h1, h2⟩ := ix_in hi hj hN
  subst h2
  exact fun H locs ls hP hD hS hl => va_iald C.1 C.2.1 C.2.2.2.2.2.1.1 hP q0 0 he rfl h1 hdg (kk H locs ls hP hD hS hl)
theorem J_cald (C : Cx p s m args meth c G A nL cc own) {a N : Nat} {i : Int32} {f : Nat → Int32} (q0 : Nat) (he : ws[q0]? = some (a, .inl (G.2.2.1, N, .inl f))) (j : Nat) (hi : i = nI j) (hj : j < N) (hN : N ≤ 4096) (hdg : decode cc pc = .ok (.caload, 1)) (kk : J p l e R s m args below meth c Q G A nL k n ws lv (pc + 1) (.int (f j) :: st)) : J p l e R s m args below meth c Q G A nL k n ws lv pc (.int i :: .ref a :: st) := by
  obtain ⟨h1, h2⟩ := ix_in hi hj hN
  subst h2
  exact fun H locs ls hP hD hS hl => va_cald C.1 C.2.1 C.2.2.2.2.2.1.1 hP q0 1 he rfl h1 hdg (kk H locs ls hP hD hS hl)
theorem J_aald (C : Cx p s m args meth c G A nL cc own) {a N : Nat} {i : Int32} {f : Nat → Option Nat} (q0 : Nat) (he : ws[q0]? = some (a, .inl (G.2.2.2, N, .inr (.inr (.inr (.inr f)))))) (j : Nat) (hi : i = nI j) (hj : j < N) (hN : N ≤ 4096) (hdg : decode cc pc = .ok (.aaload, 1)) (kk : J p l e R s m args below meth c Q G A nL k n ws lv (pc + 1) (va_rf (f j) :: st)) : J p l e R s m args below meth c Q G A nL k n ws lv pc (.int i :: .ref a :: st) := by
  obtain ⟨h1, h2⟩ := ix_in hi hj hN
  subst h2
  exact fun H locs ls hP hD hS hl => va_aldq C.1 C.2.1 C.2.2.2.2.2.1.1 hP q0 2 he rfl h1 hdg (kk H locs ls hP hD hS hl)
theorem J_iast (C : Cx p s m args meth c G A nL cc own) {a N : Nat} {i : Int32} {x : Int32} {f : Nat → Int32} (q0 : Nat) (ws' : va_W) (he : ws[q0]? = some (a, .inl (G.2.1, N, .inl f))) (j : Nat) (hi : i = nI j) (hj : j < N) (hN : N ≤ 4096) (hw : ws.set q0 (a, .inl (G.2.1, N, .inl (upd f j x))) = ws') (hdg : decode cc pc = .ok (.iastore, 1)) (kk : J p l e R s m args below meth c Q G A nL k n ws' lv (pc + 1) st) : J p l e R s m args below meth c Q G A nL k n ws lv pc (.int x :: .int i :: .ref a :: st) := by
  obtain ⟨h1, h2⟩ := ix_in hi hj hN
  subst h2
  exact fun H locs ls hP hD hS hl => va_iast C.1 C.2.1 C.2.2.2.2.2.1.1 hP hD hS q0 0 he rfl h1 hdg (fun H1 locs1 hP1 hD1 hS1 => by rw [hw] at hP1 hD1; exact kk H1 locs1 ls hP1 hD1 hS1 hl)
theorem J_cast (C : Cx p s m args meth c G A nL cc own) {a N : Nat} {i : Int32} {x : Int32} {f : Nat → Int32} (q0 : Nat) (ws' : va_W) (he : ws[q0]? = some (a, .inl (G.2.2.1, N, .inl f))) (j : Nat) (hi : i = nI j) (hj : j < N) (hN : N ≤ 4096) (hw : ws.set q0 (a, .inl (G.2.2.1, N, .inl (upd f j (vp_nar .char x)))) = ws') (hdg : decode cc pc = .ok (.castore, 1)) (kk : J p l e R s m args below meth c Q G A nL k n ws' lv (pc + 1) st) : J p l e R s m args below meth c Q G A nL k n ws lv pc (.int x :: .int i :: .ref a :: st) := by
  obtain ⟨h1, h2⟩ := ix_in hi hj hN
  subst h2
  exact fun H locs ls hP hD hS hl => va_cast C.1 C.2.1 C.2.2.2.2.2.1.1 hP hD hS q0 1 he rfl h1 hdg (fun H1 locs1 hP1 hD1 hS1 => by rw [hw] at hP1 hD1; exact kk H1 locs1 ls hP1 hD1 hS1 hl)
theorem J_aast (C : Cx p s m args meth c G A nL cc own) {a N : Nat} {i : Int32} {v ci : Nat} {vs : List Value} {f : Nat → Option Nat} (q0 qk : Nat) (ws' : va_W) {r : vw_C} (he : ws[q0]? = some (a, .inl (G.2.2.2, N, .inr (.inr (.inr (.inr f)))))) (hv : ws[qk]? = some (v, .inr (ci, vs))) (hc : vwCl[ci]? = some r) (hr : r.1 = "TwoScribes$State") (j : Nat) (hi : i = nI j) (hj : j < N) (hN : N ≤ 4096) (hw : ws.set q0 (a, .inl (G.2.2.2, N, .inr (.inr (.inr (.inr (va_up f j (some v))))))) = ws') (hdg : decode cc pc = .ok (.aastore, 1)) (kk : J p l e R s m args below meth c Q G A nL k n ws' lv (pc + 1) st) : J p l e R s m args below meth c Q G A nL k n ws lv pc (.ref v :: .int i :: .ref a :: st) := by
  obtain ⟨h1, h2⟩ := ix_in hi hj hN
  subst h2
  exact fun H locs ls hP hD hS hl => va_astq C.1 C.2.1 C.2.2.2.2.2.1.1 hP hD hS q0 2 qk ci he (by rw [hr]; rfl) hv hc h1 hdg (fun H1 locs1 hP1 hD1 hS1 => by rw [hw] at hP1 hD1; exact kk H1 locs1 ls hP1 hD1 hS1 hl)
theorem J_ilen (C : Cx p s m args meth c G A nL cc own) {a N : Nat} {f : Nat → Int32} (q0 : Nat) (he : ws[q0]? = some (a, .inl (G.2.1, N, .inl f))) (hdg : decode cc pc = .ok (.arraylength, 1)) (kk : J p l e R s m args below meth c Q G A nL k n ws lv (pc + 1) (.int (nI N) :: st)) : J p l e R s m args below meth c Q G A nL k n ws lv pc (.ref a :: st) := fun H locs ls hP hD hS hl => va_alen C.1 C.2.1 C.2.2.2.2.2.1.1 hP q0 0 he rfl rfl hdg (kk H locs ls hP hD hS hl)
theorem J_clen (C : Cx p s m args meth c G A nL cc own) {a N : Nat} {f : Nat → Int32} (q0 : Nat) (he : ws[q0]? = some (a, .inl (G.2.2.1, N, .inl f))) (hdg : decode cc pc = .ok (.arraylength, 1)) (kk : J p l e R s m args below meth c Q G A nL k n ws lv (pc + 1) (.int (nI N) :: st)) : J p l e R s m args below meth c Q G A nL k n ws lv pc (.ref a :: st) := fun H locs ls hP hD hS hl => va_alen C.1 C.2.1 C.2.2.2.2.2.1.1 hP q0 1 he rfl rfl hdg (kk H locs ls hP hD hS hl)
theorem J_alen (C : Cx p s m args meth c G A nL cc own) {a N : Nat} {f : Nat → Option Nat} (q0 : Nat) (he : ws[q0]? = some (a, .inl (G.2.2.2, N, .inr (.inr (.inr (.inr f)))))) (hdg : decode cc pc = .ok (.arraylength, 1)) (kk : J p l e R s m args below meth c Q G A nL k n ws lv (pc + 1) (.int (nI N) :: st)) : J p l e R s m args below meth c Q G A nL k n ws lv pc (.ref a :: st) := fun H locs ls hP hD hS hl => va_alen C.1 C.2.1 C.2.2.2.2.2.1.1 hP q0 2 he rfl rfl hdg (kk H locs ls hP hD hS hl)
theorem J_lcmp (C : Cx p s m args meth c G A nL cc own) {x y : Int64} (hdg : decode cc pc = .ok (.lcmp, 1)) (kk : J p l e R s m args below meth c Q G A nL k n ws lv (pc + 1) (.int (lg_cmp x y) :: st)) : J p l e R s m args below meth c Q G A nL k n ws lv pc (.long y :: .long x :: st) := fun H locs ls hP hD hS hl => W.lcmp C.1 C.2.1 hdg (kk H locs ls hP hD hS hl)
/-! ends -/
theorem J_zret {S : Type} {post : S → Prop} {ret1 : S → Option Value} {W1 : S → va_W} (C : Cx p s m args meth c G A nL cc own) {v : Int32} {ty : FieldType} (hr : meth.sig.returnType = some ty) (hn : narrow ty (.int v) = .int v) (hdg : decode cc pc = .ok (.ireturn, 1)) (u : S) (hv : ret1 u = some (.int v)) (hpost : post u) (hw : ws = W1 u) : J p l e R s m args below meth c (MQ below (QcG post ret1 W1 G A) args s k n A) G A nL k n ws lv pc [.int v] := fun H locs ls hP hD hS hl => W.zret C.1 C.2.1 hr hn (fun t ht hW => ⟨⟨u, by rw [hv], hpost, by rw [ht, ← hw]; exact hP, by rw [← hw]; exact hD⟩, hS.F ht⟩) hS.2.2 hdg C.2.2.2.2.2.2.2
theorem J_vret {S : Type} {post : S → Prop} {ret1 : S → Option Value} {W1 : S → va_W} (C : Cx p s m args meth c G A nL cc own) (hr : meth.sig.returnType = none) (hdg : decode cc pc = .ok (.return_, 1)) (u : S) (hv : ret1 u = none) (hpost : post u) (hw : ws = W1 u) : J p l e R s m args below meth c (MQ below (QcG post ret1 W1 G A) args s k n A) G A nL k n ws lv pc [] := fun H locs ls hP hD hS hl => W.vret C.1 C.2.1 hr (fun t ht hW => ⟨⟨u, by rw [hv], hpost, by rw [ht, ← hw]; exact hP, by rw [← hw]; exact hD⟩, hS.F ht⟩) hS.2.2 hdg C.2.2.2.2.2.2.2
theorem J_fret {S : Type} {post : S → Prop} {ret1 : S → Option Value} {W1 : S → va_W} (C : Cx p s m args meth c G A nL cc own) {v : UInt32} (hr : meth.sig.returnType = some .float) (hdg : decode cc pc = .ok (.freturn, 1)) (u : S) (hv : ret1 u = some (.float v)) (hpost : post u) (hw : ws = W1 u) : J p l e R s m args below meth c (MQ below (QcG post ret1 W1 G A) args s k n A) G A nL k n ws lv pc [.float v] := fun H locs ls hP hD hS hl => W.fret C.1 C.2.1 hr (fun t ht hW => ⟨⟨u, by rw [hv], hpost, by rw [ht, ← hw]; exact hP, by rw [← hw]; exact hD⟩, hS.F ht⟩) hS.2.2 hdg C.2.2.2.2.2.2.2
theorem J_dret {S : Type} {post : S → Prop} {ret1 : S → Option Value} {W1 : S → va_W} (C : Cx p s m args meth c G A nL cc own) {v : UInt64} (hr : meth.sig.returnType = some .double) (hdg : decode cc pc = .ok (.dreturn, 1)) (u : S) (hv : ret1 u = some (.double v)) (hpost : post u) (hw : ws = W1 u) : J p l e R s m args below meth c (MQ below (QcG post ret1 W1 G A) args s k n A) G A nL k n ws lv pc [.double v] := fun H locs ls hP hD hS hl => W.dret C.1 C.2.1 hr (fun t ht hW => ⟨⟨u, by rw [hv], hpost, by rw [ht, ← hw]; exact hP, by rw [← hw]; exact hD⟩, hS.F ht⟩) hS.2.2 hdg C.2.2.2.2.2.2.2
theorem J_aret {S : Type} {post : S → Prop} {ret1 : S → Option Value} {W1 : S → va_W} (C : Cx p s m args meth c G A nL cc own) {v : Value} {nm : String} (hr : meth.sig.returnType = some (.object nm)) (hvr : v = .null ∨ ∃ a, v = .ref a) (hdg : decode cc pc = .ok (.areturn, 1)) (u : S) (hv : ret1 u = some v) (hpost : post u) (hw : ws = W1 u) : J p l e R s m args below meth c (MQ below (QcG post ret1 W1 G A) args s k n A) G A nL k n ws lv pc [v] := fun H locs ls hP hD hS hl => W.aret C.1 C.2.1 hr (Or.inl ⟨nm, rfl⟩) hvr (fun t ht hW => ⟨⟨u, by rw [hv], hpost, by rw [ht, ← hw]; exact hP, by rw [← hw]; exact hD⟩, hS.F ht⟩) hS.2.2 hdg C.2.2.2.2.2.2.2
/-! a contract out of a walk -/
theorem Ct.of {S : Type} {X : (Nat → Prop) → State → Prop} {y : MethodName} {ret : Option FieldType} {rm : Room} {as : List Value} {W0 : va_W} {post : S → Prop} {ret1 : S → Option Value} {W1 : S → va_W} (hy : plainName y.cls = true) (hlen : (lg_sl as).length ≤ nL)
    (body : ∀ (p : Program) (e : Env) (s : State) (m : MethodId) (args : Array Value) (below : List Frame) (meth : Method) (c : Code), Cx p s m args meth c G (va_A W0 s.heap.size) nL cc y.cls → meth.sig.returnType = ret → meth.name = y.name → X (va_A W0 s.heap.size) s → J p l e rm s m args below meth c (MQ below (QcG post ret1 W1 G (va_A W0 s.heap.size)) args s rm.cells rm.slots (va_A W0 s.heap.size)) G (va_A W0 s.heap.size) nL 0 0 W0 (lv_args 0 as) 0 []) : Ct l G X y (Wy y cc nL ret) rm as W0 post ret1 W1 := by
  intro sz
  refine Met.ofW (cc := cc) (maxL := nL) (ret := ret) hy rfl ?_
  intro p e s m args below meth c s₁ B hml hv
  obtain ⟨rfl, hsz, hP, hE, hD0, hX⟩ := hv
  subst hsz
  have hts := atoms_spec (ws := Wy y cc nL ret) B.pre
  rw [lg_entry_eq]
  exact body p e s m _ below meth c ⟨B.exec, B.bytes, hml, findClass_of_methodNamed B.named, fun w h => hts w (List.mem_cons_of_mem _ h), hE, fun q h => Or.inr h, B.notSynchronized⟩ B.returns (name_of_methodNamed B.named B.method).1 hX s.heap [] _ hP hD0.self va_S.rf (lv_entry as hlen)
/-! calls -/
theorem wb_pos {ws W0 : va_W} {is : List Nat} (h : is.map (fun i => ws[i]?) = W0.map some) {j i : Nat} {q : Nat × va_E} (hi : is[j]? = some i) (hq : ws[i]? = some q) : W0[j]? = some q := by
  have h1 : (is.map (fun i => ws[i]?))[j]? = (W0.map some)[j]? := by rw [h]
  rw [List.getElem?_map, hi, List.getElem?_map] at h1
  cases hw : W0[j]? with
  | none => rw [hw] at h1; cases h1
  | some q2 =>
    rw [hw] at h1
    have h2 : ws[i]? = some q2 := Option.some.inj h1
    rw [← h2, hq]
theorem wb_fm {ws W0 : va_W} {is : List Nat} (h : is.map (fun i => ws[i]?) = W0.map some) : is.filterMap (fun i => ws[i]?) = W0 := by
  have h1 : (is.map (fun i => ws[i]?)).filterMap id = (W0.map some).filterMap id := by rw [h]
  rw [List.filterMap_map, List.filterMap_map] at h1
  have h2 : List.filterMap (id ∘ some) W0 = W0 := by
    have : (id ∘ some : (Nat × va_E) → Option (Nat × va_E)) = some := rfl
    rw [this, List.filterMap_some]
  rw [h2] at h1
  exact h1
theorem wb {D : va_G} {cl : List vw_C} {A0 : Nat → Prop} {ws W0 W1 ws2 : va_W} {H H1 : Heap} {isC isR : List Nat} (hP : va_P D cl ws H) (hD : va_D A0 ws) (hC1 : isC.map (fun i => ws[i]?) = W0.map some) (hC2 : isC.map (fun i => ws2[i]?) = W1.map some) (hR : isR.map (fun i => ws2[i]?) = isR.map (fun i => ws[i]?)) (hall : (List.range ws2.length).all (fun i => isC.contains i || isR.contains i) = true) (hdis : isR.all (fun i => !isC.contains i) = true)
    (hk : ∀ q : Nat, q < H.size → ¬ va_A W0 H.size q → H1[q]? = H[q]?) (hF : ∀ q, va_A W0 H.size q → A0 q) (hP1 : va_P D cl W1 H1) (hD1 : va_D (va_A W0 H.size) W1) : va_P D cl ws2 H1 ∧ va_D A0 ws2 := by
  have pos : ∀ (k : Nat) (q : Nat × va_E), ws2[k]? = some q → (∃ j : Nat, isC[j]? = some k ∧ W1[j]? = some q) ∨ (k ∉ isC ∧ ws[k]? = some q) := by
    intro k q hq
    have hlt : k < ws2.length := (List.getElem?_eq_some_iff.mp hq).1
    have h1 := List.all_eq_true.mp hall k (List.mem_range.mpr hlt)
    by_cases hc : k ∈ isC
    · obtain ⟨j, hj⟩ := List.getElem?_of_mem hc
      exact Or.inl ⟨j, hj, wb_pos hC2 hj hq⟩
    · have h2 : k ∈ isR := by
        rcases Bool.or_eq_true_iff.mp h1 with h | h
        · exact absurd (List.contains_iff_mem.mp h) hc
        · exact List.contains_iff_mem.mp h
      obtain ⟨j, hj⟩ := List.getElem?_of_mem h2
      have h3 : (isR.map (fun i => ws2[i]?))[j]? = (isR.map (fun i => ws[i]?))[j]? := by rw [hR]
      rw [List.getElem?_map, hj, List.getElem?_map, hj] at h3
      have h4 : ws2[k]? = ws[k]? := Option.some.inj h3
      exact Or.inr ⟨hc, by rw [← h4]; exact hq⟩
  have apart : ∀ (k : Nat) (q : Nat × va_E), k ∉ isC → ws[k]? = some q → q.1 < H.size ∧ ¬ va_A W0 H.size q.1 := by
    intro k q hc hq
    have hl := (hP k q hq).lt
    refine ⟨hl, fun h => ?_⟩
    rcases h with ⟨k2, e2, h⟩ | h
    · have h5 : (isC.map (fun i => ws[i]?))[k2]? = some (some (q.1, e2)) := by rw [hC1, List.getElem?_map, h]; rfl
      rw [List.getElem?_map] at h5
      cases hi : isC[k2]? with
      | none => rw [hi] at h5; cases h5
      | some i =>
        rw [hi] at h5
        have h6 : ws[i]? = some (q.1, e2) := Option.some.inj h5
        have hij := hD.1 k i q (q.1, e2) hq h6 rfl
        subst hij
        exact hc (List.mem_of_getElem? hi)
    · omega
  refine ⟨fun k q hq => ?_, fun i j x y hx hy hxy => ?_, fun k q hq => ?_⟩
  · rcases pos k q hq with ⟨j, -, h2⟩ | ⟨h1, h2⟩
    · exact hP1 j q h2
    · obtain ⟨g1, g2⟩ := apart k q h1 h2
      exact (hP k q h2).kept (hk q.1 g1 g2)
  · rcases pos i x hx with ⟨a, h1, h2⟩ | ⟨h1, h2⟩ <;> rcases pos j y hy with ⟨b, h3, h4⟩ | ⟨h3, h4⟩
    · have hab := hD1.1 a b x y h2 h4 hxy
      subst hab
      rw [h1] at h3
      exact Option.some.inj h3
    · exact absurd (by rw [← hxy]; exact hD1.2 a x h2) (apart j y h3 h4).2
    · exact absurd (by rw [hxy]; exact hD1.2 b y h4) (apart i x h1 h2).2
    · exact hD.1 i j x y h2 h4 hxy
  · rcases pos k q hq with ⟨j, -, h2⟩ | ⟨-, h2⟩
    · exact hF _ (hD1.2 j q h2)
    · exact hD.2 k q h2
theorem J_run {S : Type} {post : S → Prop} {ret1 : S → Option Value} {W0 : va_W} {W1 : S → va_W} {mc ms : Nat} {rest st0 : List Value} {a : Array Value} (C : Cx p s m args meth c G A nL cc own) (ws2 : S → va_W) (isC isR : List Nat) (hC1 : isC.map (fun i => ws[i]?) = W0.map some) (hnC : va_nd isC = true) (hC2 : ∀ u, isC.map (fun i => (ws2 u)[i]?) = (W1 u).map some) (hR : ∀ u, isR.map (fun i => (ws2 u)[i]?) = isR.map (fun i => ws[i]?)) (hall : ∀ u, (List.range (ws2 u).length).all (fun i => isC.contains i || isR.contains i) = true) (hdis : isR.all (fun i => !isC.contains i) = true)
    (hrun : ∀ (H : Heap) (locs : List Loc) (ls : Array Slot), va_P G.1 vwCl ws H → va_P G.1 vwCl W0 H → va_D (fun _ => True) W0 → lv_has ls nL lv → va_Run p l e R s m args below meth c H locs k n mc ms (F0 m pc ls st0) rest (QcG post ret1 W1 G (va_A W0 H.size) a) (va_A W0 H.size))
    (kk : ∀ u, post u → J p l e R s m args below meth c Q G A nL (k + mc) (n + ms) (ws2 u) lv (pc + 3) ((ret1 u).toList ++ rest)) : J p l e R s m args below meth c Q G A nL k n ws lv pc st0 := by
  intro H locs ls hP hD hS hl
  have hPc : va_P G.1 vwCl W0 H := hP.sub isC (wb_fm hC1)
  have hDc : va_D A W0 := hD.sub isC hnC hC1
  have hFc := va_free hD hS C.2.2.2.2.2.2.1 isC hC1
  intro T hT X
  obtain ⟨v, st₀, t, T', L, h0, X', hL, e1, e2, ⟨⟨u, hv, hp, hP1, hD1⟩, hz, hk⟩, go⟩ := hrun H locs ls hP hPc (hDc.weaken (fun _ _ _ _ => trivial)) hl T hT X
  cases hv
  rw [h0] at hz hk
  obtain ⟨hP2, hD2⟩ := wb hP hD hC1 (hC2 u) (hR u) (hall u) hdis hk hFc hP1 hD1
  obtain ⟨t2, a1, b1⟩ := kk u hp T'.heap (locs ++ L) ls (by rw [e1]; exact hP2) hD2
    ⟨Nat.le_trans hS.1 (by rw [e1]; exact hz), fun q h1 h2 => by rw [e1, hk q (Nat.lt_of_lt_of_le h1 hS.1) (fun z => h2 (hFc q z))]; exact hS.2.1 q h1 h2, fun q hq => by
      rcases List.mem_append.mp hq with h | h
      · exact hS.2.2 q h
      · exact hFc _ (hL q h)⟩ hl T' rfl X'
  exact ⟨t2, go t2 a1, b1⟩
theorem gw_good {w : Cond} (h : w ∈ GW) : w ∈ GW ∧ ((w.onTables && w.keeps) = true ∨ ∃ ty, w = .arrayClass ty) := ⟨h, good_of_word (List.mem_filter.mp h).2⟩
theorem Wy_good {y : MethodName} {b : ByteArray} {nn : Nat} {r : Option FieldType} (hc : Cond.code y b nn r ∈ GW) : GoodIn GW (Wy y b nn r) := fun w h => (List.mem_cons.mp h).elim (fun q => by rw [q]; exact gw_good hc) (fun q => gw_good q)
theorem PcG_blind {as : List Value} {W0 : va_W} {sz : Nat} : FrameBlind (PcG G NoX as W0 sz) := fun a U g mk q => ⟨q.1, q.2.1, q.2.2.1, Ev.same (U := U.calling g mk a) rfl q.2.2.2.1, q.2.2.2.2.1, trivial⟩
variable {S : Type} {post : S → Prop} {ret1 : S → Option Value} {W0 : va_W} {W1 : S → va_W} {y : MethodName} {bytes : ByteArray} {maxL : Nat} {ret : Option FieldType} {rmc : Room} {as rest : List Value} {b index : Nat}
theorem J_callV (C : Cx p s m args meth c G A nL cc own) (hC : Ct l G NoX y (Wy y bytes maxL ret) rmc (.ref b :: as) W0 post ret1 W1) (ws2 : S → va_W) (isC isR : List Nat) (nn : Nat) (hlk : Cond.methodLink own index y ∈ GW) (him : Cond.instanceMethod y ∈ GW) (hse : Cond.selects y.cls y y ∈ GW) (hini : Cond.initialized y.cls ∈ GW) (hcode : Cond.code y bytes maxL ret ∈ GW) (hn : as.length = nn) (hd : y.cls ≠ "java/lang/invoke/MethodHandle" ∧ y.cls ≠ "java/lang/invoke/VarHandle" ∧ (parseMethodDescriptor y.desc).map (fun d => d.parameters.length) = some nn) (hR0 : rmc.frames + 1 ≤ R.frames ∧ 8 + (maxL + 11) + rmc.locals ≤ R.locals) (hcell : k + rmc.cells ≤ R.cells ∧ n + rmc.slots ≤ R.slots) (hdg : decode cc pc = .ok (.invokevirtual index, 3)) (hst : (rest.map fun v => v.category).sum ≤ 8)
    (q0 : Nat) {ci : Nat} {fs : List Value} {T : u_T} {N : Nat} (hrecv : ws[q0]? = some (b, .inr (ci, fs))) (hcl : vwCl[ci]? = some (y.cls, T, N))
    (hC1 : isC.map (fun i => ws[i]?) = W0.map some) (hnC : va_nd isC = true) (hC2 : ∀ u, isC.map (fun i => (ws2 u)[i]?) = (W1 u).map some) (hR : ∀ u, isR.map (fun i => (ws2 u)[i]?) = isR.map (fun i => ws[i]?)) (hall : ∀ u, (List.range (ws2 u).length).all (fun i => isC.contains i || isR.contains i) = true) (hdis : isR.all (fun i => !isC.contains i) = true)
    (kk : ∀ u, post u → J p l e R s m args below meth c Q G A nL (k + rmc.cells) (n + rmc.slots) (ws2 u) lv (pc + 3) ((ret1 u).toList ++ rest)) : J p l e R s m args below meth c Q G A nL k n ws lv pc (as.reverse ++ .ref b :: rest) :=
  J_run (a := (Value.ref b :: as).toArray) C ws2 isC isR hC1 hnC hC2 hR hall hdis (fun H locs ls hP hPc hDc hl => va_runV ⟨C.1, C.2.1, C.2.2.1, C.2.2.2.1, C.2.2.2.2.1⟩ (hC H.size) ⟨callB_of nn C.2.2.2.2.1 (Wy_good hcode) rfl rfl rfl (C.2.2.2.2.1 _ hini) (C.2.2.2.2.1 _ hlk) hd hR0, C.2.2.2.2.1 _ him, C.2.2.2.2.1 _ hse⟩ ⟨PcG_blind, va_recv C.2.2.2.2.2.1.1 hP hcl hrecv, fun U hU hW => ⟨rfl, by rw [hU], by rw [hU]; exact hPc, Ev.warm hW C.2.2.2.2.2.1, hDc, trivial⟩⟩ rfl hn hl.1 rfl (lv_room hst) hdg hcell) kk
theorem J_callVN (C : Cx p s m args meth c G A nL cc own) (hC : Ct l G NoX y (Wy y bytes maxL ret) rmc (.ref b :: as) W0 post ret1 W1) (ws2 : S → va_W) (isC isR : List Nat) (nn : Nat) {host : String} (hlk : ∀ {U : State}, NOK U → va_Nw (.methodLinkNest own index y host) U) (him : Cond.instanceMethod y ∈ GW) (hse : Cond.selects y.cls y y ∈ GW) (hini : Cond.initialized y.cls ∈ GW) (hcode : Cond.code y bytes maxL ret ∈ GW) (hn : as.length = nn) (hd : y.cls ≠ "java/lang/invoke/MethodHandle" ∧ y.cls ≠ "java/lang/invoke/VarHandle" ∧ (parseMethodDescriptor y.desc).map (fun d => d.parameters.length) = some nn) (hR0 : rmc.frames + 1 ≤ R.frames ∧ 8 + (maxL + 11) + rmc.locals ≤ R.locals) (hcell : k + rmc.cells ≤ R.cells ∧ n + rmc.slots ≤ R.slots) (hdg : decode cc pc = .ok (.invokevirtual index, 3)) (hst : (rest.map fun v => v.category).sum ≤ 8)
    (q0 : Nat) {ci : Nat} {fs : List Value} {T : u_T} {N : Nat} (hrecv : ws[q0]? = some (b, .inr (ci, fs))) (hcl : vwCl[ci]? = some (y.cls, T, N))
    (hC1 : isC.map (fun i => ws[i]?) = W0.map some) (hnC : va_nd isC = true) (hC2 : ∀ u, isC.map (fun i => (ws2 u)[i]?) = (W1 u).map some) (hR : ∀ u, isR.map (fun i => (ws2 u)[i]?) = isR.map (fun i => ws[i]?)) (hall : ∀ u, (List.range (ws2 u).length).all (fun i => isC.contains i || isR.contains i) = true) (hdis : isR.all (fun i => !isC.contains i) = true)
    (kk : ∀ u, post u → J p l e R s m args below meth c Q G A nL (k + rmc.cells) (n + rmc.slots) (ws2 u) lv (pc + 3) ((ret1 u).toList ++ rest)) : J p l e R s m args below meth c Q G A nL k n ws lv pc (as.reverse ++ .ref b :: rest) :=
  J_run (a := (Value.ref b :: as).toArray) C ws2 isC isR hC1 hnC hC2 hR hall hdis (fun H locs ls hP hPc hDc hl => va_runVN ⟨C.1, C.2.1, C.2.2.1, C.2.2.2.1, C.2.2.2.2.1⟩ (hC H.size) ⟨va_cnB nn C.2.2.2.2.1 (Wy_good hcode) rfl rfl rfl (hlk C.2.2.2.2.2.1.2) (C.2.2.2.2.1 _ hini) hd hR0, C.2.2.2.2.1 _ him, C.2.2.2.2.1 _ hse⟩ ⟨PcG_blind, va_recv C.2.2.2.2.2.1.1 hP hcl hrecv, fun U hU hW => ⟨rfl, by rw [hU], by rw [hU]; exact hPc, Ev.warm hW C.2.2.2.2.2.1, hDc, trivial⟩⟩ rfl hn hl.1 rfl (lv_room hst) hdg hcell) kk
theorem J_callS (C : Cx p s m args meth c G A nL cc own) (hC : Ct l G NoX y (Wy y bytes maxL ret) rmc as W0 post ret1 W1) (ws2 : S → va_W) (isC isR : List Nat) (nn : Nat) (hlk : Cond.methodLink own index y ∈ GW) (hsm : Cond.static y ∈ GW) (hini : Cond.initialized y.cls ∈ GW) (hcode : Cond.code y bytes maxL ret ∈ GW) (hn : as.length = nn) (hd : y.cls ≠ "java/lang/invoke/MethodHandle" ∧ y.cls ≠ "java/lang/invoke/VarHandle" ∧ (parseMethodDescriptor y.desc).map (fun d => d.parameters.length) = some nn) (hR0 : rmc.frames + 1 ≤ R.frames ∧ 8 + (maxL + 11) + rmc.locals ≤ R.locals) (hcell : k + rmc.cells ≤ R.cells ∧ n + rmc.slots ≤ R.slots) (hdg : decode cc pc = .ok (.invokestatic index, 3)) (hst : (rest.map fun v => v.category).sum ≤ 8)
    (hC1 : isC.map (fun i => ws[i]?) = W0.map some) (hnC : va_nd isC = true) (hC2 : ∀ u, isC.map (fun i => (ws2 u)[i]?) = (W1 u).map some) (hR : ∀ u, isR.map (fun i => (ws2 u)[i]?) = isR.map (fun i => ws[i]?)) (hall : ∀ u, (List.range (ws2 u).length).all (fun i => isC.contains i || isR.contains i) = true) (hdis : isR.all (fun i => !isC.contains i) = true)
    (kk : ∀ u, post u → J p l e R s m args below meth c Q G A nL (k + rmc.cells) (n + rmc.slots) (ws2 u) lv (pc + 3) ((ret1 u).toList ++ rest)) : J p l e R s m args below meth c Q G A nL k n ws lv pc (as.reverse ++ rest) :=
  J_run (a := as.toArray) C ws2 isC isR hC1 hnC hC2 hR hall hdis (fun H locs ls hP hPc hDc hl => va_runS ⟨C.1, C.2.1, C.2.2.1, C.2.2.2.1, C.2.2.2.2.1⟩ (hC H.size) ⟨callB_of nn C.2.2.2.2.1 (Wy_good hcode) rfl rfl rfl (C.2.2.2.2.1 _ hini) (C.2.2.2.2.1 _ hlk) hd hR0, C.2.2.2.2.1 _ hsm⟩ ⟨PcG_blind, fun U hU hW => ⟨rfl, by rw [hU], by rw [hU]; exact hPc, Ev.warm hW C.2.2.2.2.2.1, hDc, trivial⟩⟩ rfl hn hl.1 rfl (lv_room hst) hdg hcell) kk
theorem J_callSN (C : Cx p s m args meth c G A nL cc own) (hC : Ct l G NoX y (Wy y bytes maxL ret) rmc as W0 post ret1 W1) (ws2 : S → va_W) (isC isR : List Nat) (nn : Nat) {host : String} (hlk : ∀ {U : State}, NOK U → va_Nw (.methodLinkNest own index y host) U) (hsm : Cond.static y ∈ GW) (hini : Cond.initialized y.cls ∈ GW) (hcode : Cond.code y bytes maxL ret ∈ GW) (hn : as.length = nn) (hd : y.cls ≠ "java/lang/invoke/MethodHandle" ∧ y.cls ≠ "java/lang/invoke/VarHandle" ∧ (parseMethodDescriptor y.desc).map (fun d => d.parameters.length) = some nn) (hR0 : rmc.frames + 1 ≤ R.frames ∧ 8 + (maxL + 11) + rmc.locals ≤ R.locals) (hcell : k + rmc.cells ≤ R.cells ∧ n + rmc.slots ≤ R.slots) (hdg : decode cc pc = .ok (.invokestatic index, 3)) (hst : (rest.map fun v => v.category).sum ≤ 8)
    (hC1 : isC.map (fun i => ws[i]?) = W0.map some) (hnC : va_nd isC = true) (hC2 : ∀ u, isC.map (fun i => (ws2 u)[i]?) = (W1 u).map some) (hR : ∀ u, isR.map (fun i => (ws2 u)[i]?) = isR.map (fun i => ws[i]?)) (hall : ∀ u, (List.range (ws2 u).length).all (fun i => isC.contains i || isR.contains i) = true) (hdis : isR.all (fun i => !isC.contains i) = true)
    (kk : ∀ u, post u → J p l e R s m args below meth c Q G A nL (k + rmc.cells) (n + rmc.slots) (ws2 u) lv (pc + 3) ((ret1 u).toList ++ rest)) : J p l e R s m args below meth c Q G A nL k n ws lv pc (as.reverse ++ rest) :=
  J_run (a := as.toArray) C ws2 isC isR hC1 hnC hC2 hR hall hdis (fun H locs ls hP hPc hDc hl => va_runSN ⟨C.1, C.2.1, C.2.2.1, C.2.2.2.1, C.2.2.2.2.1⟩ (hC H.size) ⟨va_cnB nn C.2.2.2.2.1 (Wy_good hcode) rfl rfl rfl (hlk C.2.2.2.2.2.1.2) (C.2.2.2.2.1 _ hini) hd hR0, C.2.2.2.2.1 _ hsm, trivial⟩ ⟨PcG_blind, fun U hU hW => ⟨rfl, by rw [hU], by rw [hU]; exact hPc, Ev.warm hW C.2.2.2.2.2.1, hDc, trivial⟩⟩ rfl hn hl.1 rfl (lv_room hst) hdg hcell) kk
theorem J_callI (C : Cx p s m args meth c G A nL cc own) (hC : Ct l G NoX y (Wy y bytes maxL none) rmc (.ref b :: as) W0 post ret1 W1) (ws2 : S → va_W) (isC isR : List Nat) (nn : Nat) (hlk : Cond.methodLink own index y ∈ GW) (hy1 : y.name = "<init>") (him : Cond.instanceMethod y ∈ GW) (hini : Cond.initialized y.cls ∈ GW) (hcode : Cond.code y bytes maxL none ∈ GW) (hn : as.length = nn) (hd : y.cls ≠ "java/lang/invoke/MethodHandle" ∧ y.cls ≠ "java/lang/invoke/VarHandle" ∧ (parseMethodDescriptor y.desc).map (fun d => d.parameters.length) = some nn) (hR0 : rmc.frames + 1 ≤ R.frames ∧ 8 + (maxL + 11) + rmc.locals ≤ R.locals) (hcell : k + rmc.cells ≤ R.cells ∧ n + rmc.slots ≤ R.slots) (hdg : decode cc pc = .ok (.invokespecial index, 3)) (hst : (rest.map fun v => v.category).sum ≤ 8)
    (hC1 : isC.map (fun i => ws[i]?) = W0.map some) (hnC : va_nd isC = true) (hC2 : ∀ u, (isC.map (fun i => (ws2 u)[i]?)) = (W1 u).map some) (hR : ∀ u, isR.map (fun i => (ws2 u)[i]?) = isR.map (fun i => ws[i]?)) (hall : ∀ u, (List.range (ws2 u).length).all (fun i => isC.contains i || isR.contains i) = true) (hdis : isR.all (fun i => !isC.contains i) = true)
    (kk : ∀ u, post u → J p l e R s m args below meth c Q G A nL (k + rmc.cells) (n + rmc.slots) (ws2 u) lv (pc + 3) ((ret1 u).toList ++ rest)) : J p l e R s m args below meth c Q G A nL k n ws lv pc (as.reverse ++ .ref b :: rest) :=
  J_run (a := (Value.ref b :: as).toArray) C ws2 isC isR hC1 hnC hC2 hR hall hdis (fun H locs ls hP hPc hDc hl => va_runI ⟨C.1, C.2.1, C.2.2.1, C.2.2.2.1, C.2.2.2.2.1⟩ (hC H.size) ⟨callB_of nn C.2.2.2.2.1 (Wy_good hcode) rfl rfl rfl (C.2.2.2.2.1 _ hini) (C.2.2.2.2.1 _ hlk) hd hR0, hy1, C.2.2.2.2.1 _ him⟩ ⟨PcG_blind, fun U hU hW => ⟨rfl, by rw [hU], by rw [hU]; exact hPc, Ev.warm hW C.2.2.2.2.2.1, hDc, trivial⟩⟩ rfl hn hl.1 rfl (lv_room hst) hdg hcell) kk
theorem J_callIN (C : Cx p s m args meth c G A nL cc own) (hC : Ct l G NoX y (Wy y bytes maxL none) rmc (.ref b :: as) W0 post ret1 W1) (ws2 : S → va_W) (isC isR : List Nat) (nn : Nat) {host : String} (hlk : ∀ {U : State}, NOK U → va_Nw (.methodLinkNest own index y host) U) (hy1 : y.name = "<init>") (him : Cond.instanceMethod y ∈ GW) (hini : Cond.initialized y.cls ∈ GW) (hcode : Cond.code y bytes maxL none ∈ GW) (hn : as.length = nn) (hd : y.cls ≠ "java/lang/invoke/MethodHandle" ∧ y.cls ≠ "java/lang/invoke/VarHandle" ∧ (parseMethodDescriptor y.desc).map (fun d => d.parameters.length) = some nn) (hR0 : rmc.frames + 1 ≤ R.frames ∧ 8 + (maxL + 11) + rmc.locals ≤ R.locals) (hcell : k + rmc.cells ≤ R.cells ∧ n + rmc.slots ≤ R.slots) (hdg : decode cc pc = .ok (.invokespecial index, 3)) (hst : (rest.map fun v => v.category).sum ≤ 8)
    (hC1 : isC.map (fun i => ws[i]?) = W0.map some) (hnC : va_nd isC = true) (hC2 : ∀ u, (isC.map (fun i => (ws2 u)[i]?)) = (W1 u).map some) (hR : ∀ u, isR.map (fun i => (ws2 u)[i]?) = isR.map (fun i => ws[i]?)) (hall : ∀ u, (List.range (ws2 u).length).all (fun i => isC.contains i || isR.contains i) = true) (hdis : isR.all (fun i => !isC.contains i) = true)
    (kk : ∀ u, post u → J p l e R s m args below meth c Q G A nL (k + rmc.cells) (n + rmc.slots) (ws2 u) lv (pc + 3) ((ret1 u).toList ++ rest)) : J p l e R s m args below meth c Q G A nL k n ws lv pc (as.reverse ++ .ref b :: rest) :=
  J_run (a := (Value.ref b :: as).toArray) C ws2 isC isR hC1 hnC hC2 hR hall hdis (fun H locs ls hP hPc hDc hl => va_runIN ⟨C.1, C.2.1, C.2.2.1, C.2.2.2.1, C.2.2.2.2.1⟩ (hC H.size) ⟨va_cnB nn C.2.2.2.2.1 (Wy_good hcode) rfl rfl rfl (hlk C.2.2.2.2.2.1.2) (C.2.2.2.2.1 _ hini) hd hR0, hy1, C.2.2.2.2.1 _ him⟩ ⟨PcG_blind, fun U hU hW => ⟨rfl, by rw [hU], by rw [hU]; exact hPc, Ev.warm hW C.2.2.2.2.2.1, hDc, trivial⟩⟩ rfl hn hl.1 rfl (lv_room hst) hdg hcell) kk
theorem J_objInit (C : Cx p s m args meth c G A nL cc own) {idx : Nat} {a : Nat} {rest : List Value} (hlk : Cond.methodLink own idx Lib.objectInit ∈ GW) (hin : Cond.instanceMethod Lib.objectInit ∈ GW) (hco : Cond.code Lib.objectInit ⟨#[0xb1]⟩ 1 none ∈ GW) (hframes : 1 ≤ R.frames) (hlocals : (rest.map fun v => v.category).sum + 12 ≤ R.locals) (hdg : decode cc pc = .ok (.invokespecial idx, 3)) (kk : J p l e R s m args below meth c Q G A nL k n ws lv (pc + 3) rest) : J p l e R s m args below meth c Q G A nL k n ws lv pc (.ref a :: rest) := fun H locs ls hP hD hS hl => W.objInit C.1 C.2.1 C.2.2.2.1 (C.2.2.2.2.1 _ hlk) (C.2.2.2.2.1 _ hin) (C.2.2.2.2.1 _ hco) rfl (by rw [C.2.2.1]; exact hl.1) rfl hdg hframes (by show 2 * 0 + _ + 12 ≤ _; omega) (kk H locs ls hP hD hS hl)
theorem J_new (C : Cx p s m args meth c G A nL cc own) {Cn : String} {T : u_T} {N ci index : Nat} (ty0 : Nat → FieldType) (fs : List Value) (hin : ∀ w ∈ u_ws Cn T N, w ∈ GW) (hty : ∀ k, k < N → parseFieldDescriptor (T k).2.2.1 = some (ty0 k)) (hcl : Cond.classLink own index Cn ∈ GW) (hinst : Cond.instantiable Cn N ∈ GW) (hini : Cond.initialized Cn ∈ GW) (hc : vwCl[ci]? = some (Cn, T, N)) (hfs : ∀ j, j < N → defaultValue (ty0 j) = vp_V fs j) (hcells : k + 1 ≤ R.cells) (hslots : n + N ≤ R.slots) (hdg : decode cc pc = .ok (.new index, 3)) (kk : ∀ q : Nat, J p l e R s m args below meth c Q G A nL (k + 1) (n + N) (ws ++ [(q, .inr (ci, fs))]) lv (pc + 3) (.ref q :: st)) : J p l e R s m args below meth c Q G A nL k n ws lv pc st := fun H locs ls hP hD hS hl => va_new C.1 C.2.1 C.2.2.2.2.1 hin ty0 hty C.2.2.2.1 (C.2.2.2.2.1 _ hcl) (C.2.2.2.2.1 _ hinst) (C.2.2.2.2.1 _ hini) C.2.2.2.2.2.1.1 hP hD hS C.2.2.2.2.2.2.1 hc hfs hcells hslots hdg (fun q H1 hP1 hD1 hS1 => kk q H1 locs ls hP1 hD1 hS1 hl)
theorem J_newi (C : Cx p s m args meth c G A nL cc own) {i : Int32} (N : Nat) (harr : Cond.arrayClass .int ∈ GW) (hi : i = nI N) (hN : N ≤ 4096) (hcells : k + 1 ≤ R.cells) (hslots : n + N ≤ R.slots) (hdg : decode cc pc = .ok (.newarray .int, 2)) (kk : ∀ q : Nat, J p l e R s m args below meth c Q G A nL (k + 1) (n + N) (ws ++ [(q, .inl (G.2.1, N, .inl (fun _ => 0)))]) lv (pc + 2) (.ref q :: st)) : J p l e R s m args below meth c Q G A nL k n ws lv pc (.int i :: st) := by
  intro H locs ls hP hD hS hl
  subst hi
  refine va_newa (atype := .int) (a0 := (N, .inl (fun _ => 0))) C.1 C.2.1 (C.2.2.2.2.1 _ harr) (ty := .int) rfl C.2.2.2.2.2.1.1 hP hD hS C.2.2.2.2.2.2.1 (fun cA => rfl) (nI_pos (by omega)) (nI_clamp (by omega)) (by show N * 4 ≤ 536870912; omega) hcells hslots hdg (fun q cA H1 hK1 hP1 hD1 hS1 => ?_)
  have h1 : s.vm.findClass ("[" ++ (FieldType.int).toString) = some cA := (hK1.2 (tyG G).length (cA, .int) (by rw [List.getElem?_append_right (Nat.le_refl _), Nat.sub_self]; rfl)).2
  have h2 : s.vm.findClass ("[" ++ (FieldType.int).toString) = some G.2.1 := (C.2.2.2.2.2.1.1.2 0 (G.2.1, .int) rfl).2
  have h3 : cA = G.2.1 := Option.some.inj (h1.symm.trans h2)
  subst h3
  exact kk q H1 locs ls hP1 hD1 hS1 hl
theorem J_newc (C : Cx p s m args meth c G A nL cc own) {i : Int32} (N : Nat) (harr : Cond.arrayClass .char ∈ GW) (hi : i = nI N) (hN : N ≤ 4096) (hcells : k + 1 ≤ R.cells) (hslots : n + N ≤ R.slots) (hdg : decode cc pc = .ok (.newarray .char, 2)) (kk : ∀ q : Nat, J p l e R s m args below meth c Q G A nL (k + 1) (n + N) (ws ++ [(q, .inl (G.2.2.1, N, .inl (fun _ => 0)))]) lv (pc + 2) (.ref q :: st)) : J p l e R s m args below meth c Q G A nL k n ws lv pc (.int i :: st) := by
  intro H locs ls hP hD hS hl
  subst hi
  refine va_newa (atype := .char) (a0 := (N, .inl (fun _ => 0))) C.1 C.2.1 (C.2.2.2.2.1 _ harr) (ty := .char) rfl C.2.2.2.2.2.1.1 hP hD hS C.2.2.2.2.2.2.1 (fun cA => rfl) (nI_pos (by omega)) (nI_clamp (by omega)) (by show N * 2 ≤ 536870912; omega) hcells hslots hdg (fun q cA H1 hK1 hP1 hD1 hS1 => ?_)
  have h1 : s.vm.findClass ("[" ++ (FieldType.char).toString) = some cA := (hK1.2 (tyG G).length (cA, .char) (by rw [List.getElem?_append_right (Nat.le_refl _), Nat.sub_self]; rfl)).2
  have h2 : s.vm.findClass ("[" ++ (FieldType.char).toString) = some G.2.2.1 := (C.2.2.2.2.2.1.1.2 1 (G.2.2.1, .char) rfl).2
  have h3 : cA = G.2.2.1 := Option.some.inj (h1.symm.trans h2)
  subst h3
  exact kk q H1 locs ls hP1 hD1 hS1 hl
theorem J_mmax (C : Cx p s m args meth c G A nL cc own) {x y : Int32} {index : Nat} {rest : List Value} (hlk : Cond.methodLink own index Lib.Math.max.name ∈ GW) (hs1 : Cond.static Lib.Math.max.name ∈ GW) (hini : Cond.initialized "java/lang/Math" ∈ GW) (hco : Cond.code Lib.Math.max.name Lib.Math.max.code 2 (some .int) ∈ GW) (hframes : 1 ≤ R.frames) (hlocals : (rest.map fun v => v.category).sum + 13 ≤ R.locals) (hcell : k ≤ R.cells ∧ n ≤ R.slots) (hdg : decode cc pc = .ok (.invokestatic index, 3)) (kk : J p l e R s m args below meth c Q G A nL k n ws lv (pc + 3) (.int (if x < y then y else x) :: rest)) : J p l e R s m args below meth c Q G A nL k n ws lv pc (.int y :: .int x :: rest) := fun H locs ls hP hD hS hl => va_mmax C.1 C.2.1 (C.2.2.1.trans hl.1.symm) C.2.2.2.1 (C.2.2.2.2.1 _ hlk) (C.2.2.2.2.1 _ hs1) (C.2.2.2.2.1 _ hini) (C.2.2.2.2.1 _ hco) hframes hlocals hcell.1 hcell.2 hdg (kk H locs ls hP hD hS hl)
theorem J_mmin (C : Cx p s m args meth c G A nL cc own) {x y : Int32} {index : Nat} {rest : List Value} (hlk : Cond.methodLink own index Lib.Math.min.name ∈ GW) (hs1 : Cond.static Lib.Math.min.name ∈ GW) (hini : Cond.initialized "java/lang/Math" ∈ GW) (hco : Cond.code Lib.Math.min.name Lib.Math.min.code 2 (some .int) ∈ GW) (hframes : 1 ≤ R.frames) (hlocals : (rest.map fun v => v.category).sum + 13 ≤ R.locals) (hcell : k ≤ R.cells ∧ n ≤ R.slots) (hdg : decode cc pc = .ok (.invokestatic index, 3)) (kk : J p l e R s m args below meth c Q G A nL k n ws lv (pc + 3) (.int (if y < x then y else x) :: rest)) : J p l e R s m args below meth c Q G A nL k n ws lv pc (.int y :: .int x :: rest) := fun H locs ls hP hD hS hl => va_mmin C.1 C.2.1 (C.2.2.1.trans hl.1.symm) C.2.2.2.1 (C.2.2.2.2.1 _ hlk) (C.2.2.2.2.1 _ hs1) (C.2.2.2.2.1 _ hini) (C.2.2.2.2.1 _ hco) hframes hlocals hcell.1 hcell.2 hdg (kk H locs ls hP hD hS hl)
/-- System.arraycopy(from, 0, to, 0, N) of two int arrays of N elements: to holds what from holds -/
theorem J_copyi (C : Cx p s m args meth c G A nL cc own) {a0 a1 N index : Nat} {f g : Nat → Int32} {sp dp i : Int32} {rest : List Value} (q0 q1 : Nat) (ws' : va_W) (hlk : Cond.methodLink own index arraycopyName ∈ GW) (hna : Cond.native arraycopyName ∈ GW) (hst : Cond.static arraycopyName ∈ GW) (hini : Cond.initialized "java/lang/System" ∈ GW) (ha0 : ws[q0]? = some (a0, .inl (G.2.1, N, .inl f))) (ha1 : ws[q1]? = some (a1, .inl (G.2.1, N, .inl g))) (hsp : sp = 0) (hdp : dp = 0) (hi : i = nI N) (hN : N ≤ 4096) (hframes : 1 ≤ R.frames) (hlocals : (rest.map fun v => v.category).sum + (nativeFrameWords "java/lang/System" "arraycopy" 5 + 11) ≤ R.locals) (hw : ws.set q1 (a1, .inl (G.2.1, N, .inl f)) = ws') (hdg : decode cc pc = .ok (.invokestatic index, 3)) (kk : J p l e R s m args below meth c Q G A nL k n ws' lv (pc + 3) rest) : J p l e R s m args below meth c Q G A nL k n ws lv pc (.int i :: .int dp :: .ref a1 :: .int sp :: .ref a0 :: rest) := by
  intro H locs ls hP hD hS hl
  subst hi
  subst hsp
  subst hdp
  have hz : (0 : Int32).toNatClampNeg = 0 := by decide
  have hc : (nI N).toNatClampNeg = N := nI_clamp (by omega)
  refine va_copyi C.1 C.2.1 (C.2.2.1.trans hl.1.symm) C.2.2.2.1 (C.2.2.2.2.1 _ hlk) (C.2.2.2.2.1 _ hna) (C.2.2.2.2.1 _ hst) (C.2.2.2.2.1 _ hini) C.2.2.2.2.2.1.1 hP hD hS q0 q1 0 0 ha0 ha1 rfl rfl rfl (by decide) (by decide) (nI_pos (by omega)) (by rw [hz, hc]; omega) (by rw [hz, hc]; omega) (fun _ _ => rfl) hframes hlocals hdg (fun H1 locs1 hP1 hD1 hS1 => ?_)
  rw [hz, hc] at hP1 hD1
  have hlt := (List.getElem?_eq_some_iff.mp ha1).1
  have hse : (ws.set q1 (a1, .inl (G.2.1, N, .inl (va_cpy f g 0 0 N))))[q1]? = some (a1, .inl (G.2.1, N, .inl (va_cpy f g 0 0 N))) := List.getElem?_set_self hlt
  have hex : vp_cell G.2.1 (N, .inl (va_cpy f g 0 0 N)) = vp_cell G.2.1 (N, .inl f) := by
    rw [vp_cell_i, vp_cell_i]
    exact arrV_ext (fun j hj => by rw [sb_cpy0 hj])
  have hP2 := hP1.set hD1 hse (e := .inl (G.2.1, N, .inl f)) (H1 := H1) (by
    have h1 : H1[a1]? = some (vp_cell G.2.1 (N, .inl (va_cpy f g 0 0 N))) := hP1 q1 _ hse
    show H1[a1]? = some (vp_cell G.2.1 (N, .inl f))
    rw [h1, hex]) (fun _ _ => rfl)
  have hD2 := hD1.set hse (e := .inl (G.2.1, N, .inl f))
  rw [List.set_set, hw] at hP2 hD2
  exact kk H1 locs1 ls hP2 hD2 hS1 hl
end BASE
end
