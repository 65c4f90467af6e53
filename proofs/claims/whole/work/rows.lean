section
-- ===== PART A: goes FIRST, ahead of the names: the tables' words, and 'selects' of the private methods out of them =====
/-- a private method of a class that the tables say can be made, by its rows of tables_1 -/
def lw_okq (q : MethodName × Nat) : Prop := (q.1.cls ≠ "java/lang/invoke/MethodHandle" ∧ q.1.cls ≠ "java/lang/invoke/VarHandle") ∧ Cond.instantiable q.1.cls q.2 ∈ tables_1 ∧ Cond.privateMethod q.1 ∈ tables_1 ∧ Cond.instanceMethod q.1 ∈ tables_1
theorem lw_p0 : lw_okq (⟨"TwoScribes$PageText", "readHalf", "()V"⟩, 7) := ⟨⟨by decide +kernel, by decide +kernel⟩, List.mem_of_getElem? (i := 175) (by decide +kernel), List.mem_of_getElem? (i := 237) (by decide +kernel), List.mem_of_getElem? (i := 238) (by decide +kernel)⟩
theorem lw_p1 : lw_okq (⟨"TwoScribes$PageText", "letterAtCursor", "()I"⟩, 7) := ⟨⟨by decide +kernel, by decide +kernel⟩, List.mem_of_getElem? (i := 175) (by decide +kernel), List.mem_of_getElem? (i := 244) (by decide +kernel), List.mem_of_getElem? (i := 245) (by decide +kernel)⟩
theorem lw_p2 : lw_okq (⟨"TwoScribes$PageText", "isAtCharacter", "()Z"⟩, 7) := ⟨⟨by decide +kernel, by decide +kernel⟩, List.mem_of_getElem? (i := 175) (by decide +kernel), List.mem_of_getElem? (i := 248) (by decide +kernel), List.mem_of_getElem? (i := 249) (by decide +kernel)⟩
theorem lw_p3 : lw_okq (⟨"TwoScribes$PageText", "skip", "(C)Z"⟩, 7) := ⟨⟨by decide +kernel, by decide +kernel⟩, List.mem_of_getElem? (i := 175) (by decide +kernel), List.mem_of_getElem? (i := 255) (by decide +kernel), List.mem_of_getElem? (i := 256) (by decide +kernel)⟩
theorem lw_p4 : lw_okq (⟨"TwoScribes$PageText", "readMisreading", "()Z"⟩, 7) := ⟨⟨by decide +kernel, by decide +kernel⟩, List.mem_of_getElem? (i := 175) (by decide +kernel), List.mem_of_getElem? (i := 259) (by decide +kernel), List.mem_of_getElem? (i := 260) (by decide +kernel)⟩
theorem lw_p5 : lw_okq (⟨"TwoScribes$PageText", "digitAtCursor", "()I"⟩, 7) := ⟨⟨by decide +kernel, by decide +kernel⟩, List.mem_of_getElem? (i := 175) (by decide +kernel), List.mem_of_getElem? (i := 263) (by decide +kernel), List.mem_of_getElem? (i := 264) (by decide +kernel)⟩
theorem lw_p6 : lw_okq (⟨"TwoScribes$History", "stateAt", "(I)LTwoScribes$State;"⟩, 3) := ⟨⟨by decide +kernel, by decide +kernel⟩, List.mem_of_getElem? (i := 155) (by decide +kernel), List.mem_of_getElem? (i := 274) (by decide +kernel), List.mem_of_getElem? (i := 275) (by decide +kernel)⟩
theorem lw_p7 : lw_okq (⟨"TwoScribes$State", "spendTick", "(I)V"⟩, 11) := ⟨⟨by decide +kernel, by decide +kernel⟩, List.mem_of_getElem? (i := 19) (by decide +kernel), List.mem_of_getElem? (i := 422) (by decide +kernel), List.mem_of_getElem? (i := 423) (by decide +kernel)⟩
theorem lw_p8 : lw_okq (⟨"TwoScribes$State", "goOnDipping", "(LTwoScribes$Scribe;)V"⟩, 11) := ⟨⟨by decide +kernel, by decide +kernel⟩, List.mem_of_getElem? (i := 19) (by decide +kernel), List.mem_of_getElem? (i := 431) (by decide +kernel), List.mem_of_getElem? (i := 432) (by decide +kernel)⟩
theorem lw_p9 : lw_okq (⟨"TwoScribesModel", "fault", "()I"⟩, 13) := ⟨⟨by decide +kernel, by decide +kernel⟩, List.mem_of_getElem? (i := 539) (by decide +kernel), List.mem_of_getElem? (i := 589) (by decide +kernel), List.mem_of_getElem? (i := 590) (by decide +kernel)⟩
theorem lw_p10 : lw_okq (⟨"TwoScribesModel", "isHere", "(II)Z"⟩, 13) := ⟨⟨by decide +kernel, by decide +kernel⟩, List.mem_of_getElem? (i := 539) (by decide +kernel), List.mem_of_getElem? (i := 593) (by decide +kernel), List.mem_of_getElem? (i := 594) (by decide +kernel)⟩
theorem lw_p11 : lw_okq (⟨"TwoScribesModel", "takesOne", "(I)Z"⟩, 13) := ⟨⟨by decide +kernel, by decide +kernel⟩, List.mem_of_getElem? (i := 539) (by decide +kernel), List.mem_of_getElem? (i := 600) (by decide +kernel), List.mem_of_getElem? (i := 601) (by decide +kernel)⟩
theorem lw_p12 : lw_okq (⟨"TwoScribesModel", "readsMisreading", "()Z"⟩, 13) := ⟨⟨by decide +kernel, by decide +kernel⟩, List.mem_of_getElem? (i := 539) (by decide +kernel), List.mem_of_getElem? (i := 604) (by decide +kernel), List.mem_of_getElem? (i := 605) (by decide +kernel)⟩
theorem lw_p13 : lw_okq (⟨"TwoScribesModel", "keeps", "()V"⟩, 13) := ⟨⟨by decide +kernel, by decide +kernel⟩, List.mem_of_getElem? (i := 539) (by decide +kernel), List.mem_of_getElem? (i := 608) (by decide +kernel), List.mem_of_getElem? (i := 609) (by decide +kernel)⟩
theorem lw_p14 : lw_okq (⟨"TwoScribesModel", "ends", "(I)I"⟩, 13) := ⟨⟨by decide +kernel, by decide +kernel⟩, List.mem_of_getElem? (i := 539) (by decide +kernel), List.mem_of_getElem? (i := 612) (by decide +kernel), List.mem_of_getElem? (i := 613) (by decide +kernel)⟩
theorem lw_p15 : lw_okq (⟨"TwoScribesModel", "isPlace", "(I)Z"⟩, 13) := ⟨⟨by decide +kernel, by decide +kernel⟩, List.mem_of_getElem? (i := 539) (by decide +kernel), List.mem_of_getElem? (i := 620) (by decide +kernel), List.mem_of_getElem? (i := 621) (by decide +kernel)⟩
def lw_privs_1 : List (MethodName × Nat) := [(⟨"TwoScribes$PageText", "readHalf", "()V"⟩, 7), (⟨"TwoScribes$PageText", "letterAtCursor", "()I"⟩, 7), (⟨"TwoScribes$PageText", "isAtCharacter", "()Z"⟩, 7), (⟨"TwoScribes$PageText", "skip", "(C)Z"⟩, 7), (⟨"TwoScribes$PageText", "readMisreading", "()Z"⟩, 7), (⟨"TwoScribes$PageText", "digitAtCursor", "()I"⟩, 7), (⟨"TwoScribes$History", "stateAt", "(I)LTwoScribes$State;"⟩, 3), (⟨"TwoScribes$State", "spendTick", "(I)V"⟩, 11), (⟨"TwoScribes$State", "goOnDipping", "(LTwoScribes$Scribe;)V"⟩, 11), (⟨"TwoScribesModel", "fault", "()I"⟩, 13), (⟨"TwoScribesModel", "isHere", "(II)Z"⟩, 13), (⟨"TwoScribesModel", "takesOne", "(I)Z"⟩, 13), (⟨"TwoScribesModel", "readsMisreading", "()Z"⟩, 13), (⟨"TwoScribesModel", "keeps", "()V"⟩, 13), (⟨"TwoScribesModel", "ends", "(I)I"⟩, 13), (⟨"TwoScribesModel", "isPlace", "(I)Z"⟩, 13)]
theorem lw_r1 : ∀ q ∈ lw_privs_1, lw_okq q := List.forall_mem_cons.mpr ⟨lw_p0, List.forall_mem_cons.mpr ⟨lw_p1, List.forall_mem_cons.mpr ⟨lw_p2, List.forall_mem_cons.mpr ⟨lw_p3, List.forall_mem_cons.mpr ⟨lw_p4, List.forall_mem_cons.mpr ⟨lw_p5, List.forall_mem_cons.mpr ⟨lw_p6, List.forall_mem_cons.mpr ⟨lw_p7, List.forall_mem_cons.mpr ⟨lw_p8, List.forall_mem_cons.mpr ⟨lw_p9, List.forall_mem_cons.mpr ⟨lw_p10, List.forall_mem_cons.mpr ⟨lw_p11, List.forall_mem_cons.mpr ⟨lw_p12, List.forall_mem_cons.mpr ⟨lw_p13, List.forall_mem_cons.mpr ⟨lw_p14, List.forall_mem_cons.mpr ⟨lw_p15, fun _ h => absurd h List.not_mem_nil⟩⟩⟩⟩⟩⟩⟩⟩⟩⟩⟩⟩⟩⟩⟩⟩
theorem lw_p16 : lw_okq (⟨"TwoScribesModel", "isBegun", "(I)Z"⟩, 13) := ⟨⟨by decide +kernel, by decide +kernel⟩, List.mem_of_getElem? (i := 539) (by decide +kernel), List.mem_of_getElem? (i := 625) (by decide +kernel), List.mem_of_getElem? (i := 626) (by decide +kernel)⟩
theorem lw_p17 : lw_okq (⟨"TwoScribesModel", "nextPlace", "(I)I"⟩, 13) := ⟨⟨by decide +kernel, by decide +kernel⟩, List.mem_of_getElem? (i := 539) (by decide +kernel), List.mem_of_getElem? (i := 629) (by decide +kernel), List.mem_of_getElem? (i := 630) (by decide +kernel)⟩
theorem lw_p18 : lw_okq (⟨"TwoScribesModel", "letterAt", "(I)I"⟩, 13) := ⟨⟨by decide +kernel, by decide +kernel⟩, List.mem_of_getElem? (i := 539) (by decide +kernel), List.mem_of_getElem? (i := 633) (by decide +kernel), List.mem_of_getElem? (i := 634) (by decide +kernel)⟩
theorem lw_p19 : lw_okq (⟨"TwoScribesModel", "due", "(I)I"⟩, 13) := ⟨⟨by decide +kernel, by decide +kernel⟩, List.mem_of_getElem? (i := 539) (by decide +kernel), List.mem_of_getElem? (i := 637) (by decide +kernel), List.mem_of_getElem? (i := 638) (by decide +kernel)⟩
theorem lw_p20 : lw_okq (⟨"TwoScribesModel", "marginLeft", "()I"⟩, 13) := ⟨⟨by decide +kernel, by decide +kernel⟩, List.mem_of_getElem? (i := 539) (by decide +kernel), List.mem_of_getElem? (i := 645) (by decide +kernel), List.mem_of_getElem? (i := 646) (by decide +kernel)⟩
theorem lw_p21 : lw_okq (⟨"TwoScribesModel", "ticks", "()V"⟩, 13) := ⟨⟨by decide +kernel, by decide +kernel⟩, List.mem_of_getElem? (i := 539) (by decide +kernel), List.mem_of_getElem? (i := 675) (by decide +kernel), List.mem_of_getElem? (i := 676) (by decide +kernel)⟩
theorem lw_p22 : lw_okq (⟨"TwoScribesModel", "goes", "(I)V"⟩, 13) := ⟨⟨by decide +kernel, by decide +kernel⟩, List.mem_of_getElem? (i := 539) (by decide +kernel), List.mem_of_getElem? (i := 679) (by decide +kernel), List.mem_of_getElem? (i := 680) (by decide +kernel)⟩
theorem lw_p23 : lw_okq (⟨"TwoScribesModel", "does", "(I)I"⟩, 13) := ⟨⟨by decide +kernel, by decide +kernel⟩, List.mem_of_getElem? (i := 539) (by decide +kernel), List.mem_of_getElem? (i := 683) (by decide +kernel), List.mem_of_getElem? (i := 684) (by decide +kernel)⟩
theorem lw_p24 : lw_okq (⟨"TwoScribesModel", "writes", "(I)V"⟩, 13) := ⟨⟨by decide +kernel, by decide +kernel⟩, List.mem_of_getElem? (i := 539) (by decide +kernel), List.mem_of_getElem? (i := 687) (by decide +kernel), List.mem_of_getElem? (i := 688) (by decide +kernel)⟩
theorem lw_p25 : lw_okq (⟨"TwoScribesModel", "dips", "(I)V"⟩, 13) := ⟨⟨by decide +kernel, by decide +kernel⟩, List.mem_of_getElem? (i := 539) (by decide +kernel), List.mem_of_getElem? (i := 691) (by decide +kernel), List.mem_of_getElem? (i := 692) (by decide +kernel)⟩
theorem lw_p26 : lw_okq (⟨"TwoScribesModel", "tries", "()V"⟩, 13) := ⟨⟨by decide +kernel, by decide +kernel⟩, List.mem_of_getElem? (i := 539) (by decide +kernel), List.mem_of_getElem? (i := 734) (by decide +kernel), List.mem_of_getElem? (i := 735) (by decide +kernel)⟩
theorem lw_p27 : lw_okq (⟨"TwoScribesModel", "comesBack", "()V"⟩, 13) := ⟨⟨by decide +kernel, by decide +kernel⟩, List.mem_of_getElem? (i := 539) (by decide +kernel), List.mem_of_getElem? (i := 738) (by decide +kernel), List.mem_of_getElem? (i := 739) (by decide +kernel)⟩
theorem lw_p28 : lw_okq (⟨"TwoScribesModel", "doneBehind", "()I"⟩, 13) := ⟨⟨by decide +kernel, by decide +kernel⟩, List.mem_of_getElem? (i := 539) (by decide +kernel), List.mem_of_getElem? (i := 746) (by decide +kernel), List.mem_of_getElem? (i := 747) (by decide +kernel)⟩
theorem lw_p29 : lw_okq (⟨"TwoScribesModel", "isDone", "()Z"⟩, 13) := ⟨⟨by decide +kernel, by decide +kernel⟩, List.mem_of_getElem? (i := 539) (by decide +kernel), List.mem_of_getElem? (i := 750) (by decide +kernel), List.mem_of_getElem? (i := 751) (by decide +kernel)⟩
theorem lw_p30 : lw_okq (⟨"TwoScribesModel", "places", "(I)I"⟩, 13) := ⟨⟨by decide +kernel, by decide +kernel⟩, List.mem_of_getElem? (i := 539) (by decide +kernel), List.mem_of_getElem? (i := 774) (by decide +kernel), List.mem_of_getElem? (i := 775) (by decide +kernel)⟩
def lw_privs_2 : List (MethodName × Nat) := [(⟨"TwoScribesModel", "isBegun", "(I)Z"⟩, 13), (⟨"TwoScribesModel", "nextPlace", "(I)I"⟩, 13), (⟨"TwoScribesModel", "letterAt", "(I)I"⟩, 13), (⟨"TwoScribesModel", "due", "(I)I"⟩, 13), (⟨"TwoScribesModel", "marginLeft", "()I"⟩, 13), (⟨"TwoScribesModel", "ticks", "()V"⟩, 13), (⟨"TwoScribesModel", "goes", "(I)V"⟩, 13), (⟨"TwoScribesModel", "does", "(I)I"⟩, 13), (⟨"TwoScribesModel", "writes", "(I)V"⟩, 13), (⟨"TwoScribesModel", "dips", "(I)V"⟩, 13), (⟨"TwoScribesModel", "tries", "()V"⟩, 13), (⟨"TwoScribesModel", "comesBack", "()V"⟩, 13), (⟨"TwoScribesModel", "doneBehind", "()I"⟩, 13), (⟨"TwoScribesModel", "isDone", "()Z"⟩, 13), (⟨"TwoScribesModel", "places", "(I)I"⟩, 13)]
theorem lw_r2 : ∀ q ∈ lw_privs_2, lw_okq q := List.forall_mem_cons.mpr ⟨lw_p16, List.forall_mem_cons.mpr ⟨lw_p17, List.forall_mem_cons.mpr ⟨lw_p18, List.forall_mem_cons.mpr ⟨lw_p19, List.forall_mem_cons.mpr ⟨lw_p20, List.forall_mem_cons.mpr ⟨lw_p21, List.forall_mem_cons.mpr ⟨lw_p22, List.forall_mem_cons.mpr ⟨lw_p23, List.forall_mem_cons.mpr ⟨lw_p24, List.forall_mem_cons.mpr ⟨lw_p25, List.forall_mem_cons.mpr ⟨lw_p26, List.forall_mem_cons.mpr ⟨lw_p27, List.forall_mem_cons.mpr ⟨lw_p28, List.forall_mem_cons.mpr ⟨lw_p29, List.forall_mem_cons.mpr ⟨lw_p30, fun _ h => absurd h List.not_mem_nil⟩⟩⟩⟩⟩⟩⟩⟩⟩⟩⟩⟩⟩⟩⟩
def lw_privs : List (MethodName × Nat) := lw_privs_1 ++ (lw_privs_2)
def lw_tbl : List Cond := k2_sels lw_privs ++ tables_1
theorem lw_privs_ok : ∀ q ∈ lw_privs, lw_okq q := by
  show ∀ q ∈ lw_privs_1 ++ (lw_privs_2), lw_okq q
  exact List.forall_mem_append.mpr ⟨lw_r1, lw_r2⟩
/-- the streams that the claim lets the run draw from -/
abbrev lw_cs : List Choice := [Jvm.Choice.named "NaN.bits"]
theorem lw_bits : nanBits ∈ lw_cs := by first | decide | exact List.mem_cons_self | simp [lw_cs, nanBits]
-- ===== end of PART A; then your names; then what follows =====
end
section
def RX0 : String := "TwoScribes$History"
def TX0 : u_T := fun k => match k with
  | 0 => ("TwoScribes$History", "states", "[LTwoScribes$State;", true)
  | 1 => ("TwoScribes$History", "first", "I", false)
  | _ => ("TwoScribes$History", "size", "I", false)
def tyX0 : Nat → FieldType := fun k => match k with
  | 0 => .array (.object "TwoScribes$State")
  | 1 => .int
  | _ => .int
abbrev wsX00 : List Cond := u_ws RX0 TX0 3
theorem nmX0 : ∀ a, a < 3 → ∀ b, b < 3 → a ≠ b → (TX0 a).2.1 ≠ (TX0 b).2.1 := by decide +kernel
theorem tyX0_ok : ∀ k, k < 3 → parseFieldDescriptor (TX0 k).2.2.1 = some (tyX0 k) := by decide +kernel
abbrev cX0_init : ByteArray := prog_2_method_1_code
def yX0_init : MethodName := ⟨RX0, "<init>", "()V"⟩
abbrev cX0_record : ByteArray := prog_2_method_2_code
def yX0_record : MethodName := ⟨RX0, "record", "(LTwoScribes$State;)V"⟩
abbrev cX0_takeBack : ByteArray := prog_2_method_3_code
def yX0_takeBack : MethodName := ⟨RX0, "takeBack", "(LTwoScribes$State;)Z"⟩
abbrev cX0_stateAt : ByteArray := prog_2_method_4_code
def yX0_stateAt : MethodName := ⟨RX0, "stateAt", "(I)LTwoScribes$State;"⟩
def RX1 : String := "TwoScribes$Page"
def TX1 : u_T := fun k => match k with
  | 0 => ("TwoScribes$Page", "due", "[I", true)
  | 1 => ("TwoScribes$Page", "told", "[I", true)
  | 2 => ("TwoScribes$Page", "written", "[I", true)
  | 3 => ("TwoScribes$Page", "writtenIn", "[I", true)
  | 4 => ("TwoScribes$Page", "blots", "[I", true)
  | 5 => ("TwoScribes$Page", "corrected", "[I", true)
  | 6 => ("TwoScribes$Page", "places", "I", false)
  | _ => ("TwoScribes$Page", "corrections", "I", false)
def tyX1 : Nat → FieldType := fun k => match k with
  | 0 => .array .int
  | 1 => .array .int
  | 2 => .array .int
  | 3 => .array .int
  | 4 => .array .int
  | 5 => .array .int
  | 6 => .int
  | _ => .int
abbrev wsX10 : List Cond := u_ws RX1 TX1 8
theorem nmX1 : ∀ a, a < 8 → ∀ b, b < 8 → a ≠ b → (TX1 a).2.1 ≠ (TX1 b).2.1 := by decide +kernel
theorem tyX1_ok : ∀ k, k < 8 → parseFieldDescriptor (TX1 k).2.2.1 = some (tyX1 k) := by decide +kernel
abbrev cX1_init : ByteArray := prog_3_method_1_code
def yX1_init : MethodName := ⟨RX1, "<init>", "()V"⟩
abbrev cX1_copyFrom : ByteArray := prog_3_method_2_code
def yX1_copyFrom : MethodName := ⟨RX1, "copyFrom", "(LTwoScribes$Page;)V"⟩
abbrev cX1_begin : ByteArray := prog_3_method_3_code
def yX1_begin : MethodName := ⟨RX1, "begin", "(LTwoScribes$PageText;)V"⟩
abbrev cX1_has : ByteArray := prog_3_method_4_code
def yX1_has : MethodName := ⟨RX1, "has", "(I)Z"⟩
abbrev cX1_mirrorOf : ByteArray := prog_3_method_5_code
def yX1_mirrorOf : MethodName := ⟨RX1, "mirrorOf", "(I)I"⟩
abbrev cX1_letterFor : ByteArray := prog_3_method_6_code
def yX1_letterFor : MethodName := ⟨RX1, "letterFor", "(I)I"⟩
abbrev cX1_isWritten : ByteArray := prog_3_method_7_code
def yX1_isWritten : MethodName := ⟨RX1, "isWritten", "(I)Z"⟩
abbrev cX1_isFaultless : ByteArray := prog_3_method_8_code
def yX1_isFaultless : MethodName := ⟨RX1, "isFaultless", "(I)Z"⟩
abbrev cX1_areUnlike : ByteArray := prog_3_method_9_code
def yX1_areUnlike : MethodName := ⟨RX1, "areUnlike", "(II)Z"⟩
abbrev cX1_write : ByteArray := prog_3_method_10_code
def yX1_write : MethodName := ⟨RX1, "write", "(IIZI)V"⟩
abbrev cX1_amend : ByteArray := prog_3_method_11_code
def yX1_amend : MethodName := ⟨RX1, "amend", "(I)V"⟩
abbrev cX1_countBlots : ByteArray := prog_3_method_12_code
def yX1_countBlots : MethodName := ⟨RX1, "countBlots", "()I"⟩
abbrev cX1_countNotDue : ByteArray := prog_3_method_13_code
def yX1_countNotDue : MethodName := ⟨RX1, "countNotDue", "()I"⟩
def RX2 : String := "TwoScribes$PageText"
def TX2 : u_T := fun k => match k with
  | 0 => ("TwoScribes$PageText", "characters", "[C", true)
  | 1 => ("TwoScribes$PageText", "letters", "[I", true)
  | 2 => ("TwoScribes$PageText", "misreadings", "[I", true)
  | 3 => ("TwoScribes$PageText", "length", "I", false)
  | 4 => ("TwoScribes$PageText", "half", "I", false)
  | 5 => ("TwoScribes$PageText", "farthest", "I", false)
  | _ => ("TwoScribes$PageText", "cursor", "I", false)
def tyX2 : Nat → FieldType := fun k => match k with
  | 0 => .array .char
  | 1 => .array .int
  | 2 => .array .int
  | 3 => .int
  | 4 => .int
  | 5 => .int
  | _ => .int
abbrev wsX20 : List Cond := u_ws RX2 TX2 7
theorem nmX2 : ∀ a, a < 7 → ∀ b, b < 7 → a ≠ b → (TX2 a).2.1 ≠ (TX2 b).2.1 := by decide +kernel
theorem tyX2_ok : ∀ k, k < 7 → parseFieldDescriptor (TX2 k).2.2.1 = some (tyX2 k) := by decide +kernel
abbrev cX2_init : ByteArray := prog_4_method_1_code
def yX2_init : MethodName := ⟨RX2, "<init>", "()V"⟩
abbrev cX2_append : ByteArray := prog_4_method_2_code
def yX2_append : MethodName := ⟨RX2, "append", "(C)Z"⟩
abbrev cX2_findFault : ByteArray := prog_4_method_3_code
def yX2_findFault : MethodName := ⟨RX2, "findFault", "()I"⟩
abbrev cX2_readHalf : ByteArray := prog_4_method_4_code
def yX2_readHalf : MethodName := ⟨RX2, "readHalf", "()V"⟩
abbrev cX2_readMisreading : ByteArray := prog_4_method_5_code
def yX2_readMisreading : MethodName := ⟨RX2, "readMisreading", "()Z"⟩
abbrev cX2_skip : ByteArray := prog_4_method_6_code
def yX2_skip : MethodName := ⟨RX2, "skip", "(C)Z"⟩
abbrev cX2_letterAtCursor : ByteArray := prog_4_method_7_code
def yX2_letterAtCursor : MethodName := ⟨RX2, "letterAtCursor", "()I"⟩
abbrev cX2_digitAtCursor : ByteArray := prog_4_method_8_code
def yX2_digitAtCursor : MethodName := ⟨RX2, "digitAtCursor", "()I"⟩
abbrev cX2_isAtCharacter : ByteArray := prog_4_method_9_code
def yX2_isAtCharacter : MethodName := ⟨RX2, "isAtCharacter", "()Z"⟩
def RX3 : String := "TwoScribes$Scribe"
def TX3 : u_T := fun k => match k with
  | 0 => ("TwoScribes$Scribe", "pace", "I", false)
  | 1 => ("TwoScribes$Scribe", "letters", "I", false)
  | 2 => ("TwoScribes$Scribe", "spent", "I", false)
  | 3 => ("TwoScribes$Scribe", "dipLeft", "I", false)
  | 4 => ("TwoScribes$Scribe", "dips", "I", false)
  | 5 => ("TwoScribes$Scribe", "waits", "I", false)
  | _ => ("TwoScribes$Scribe", "pen", "F", false)
def tyX3 : Nat → FieldType := fun k => match k with
  | 0 => .int
  | 1 => .int
  | 2 => .int
  | 3 => .int
  | 4 => .int
  | 5 => .int
  | _ => .float
abbrev wsX30 : List Cond := u_ws RX3 TX3 7
theorem nmX3 : ∀ a, a < 7 → ∀ b, b < 7 → a ≠ b → (TX3 a).2.1 ≠ (TX3 b).2.1 := by decide +kernel
theorem tyX3_ok : ∀ k, k < 7 → parseFieldDescriptor (TX3 k).2.2.1 = some (tyX3 k) := by decide +kernel
abbrev cX3_init : ByteArray := prog_5_method_1_code
def yX3_init : MethodName := ⟨RX3, "<init>", "()V"⟩
abbrev cX3_copyFrom : ByteArray := prog_5_method_2_code
def yX3_copyFrom : MethodName := ⟨RX3, "copyFrom", "(LTwoScribes$Scribe;)V"⟩
abbrev cX3_beginPage : ByteArray := prog_5_method_3_code
def yX3_beginPage : MethodName := ⟨RX3, "beginPage", "()V"⟩
def RX4 : String := "TwoScribes$State"
def TX4 : u_T := fun k => match k with
  | 0 => ("TwoScribes$State", "page", "LTwoScribes$Page;", true)
  | 1 => ("TwoScribes$State", "left", "LTwoScribes$Scribe;", true)
  | 2 => ("TwoScribes$State", "right", "LTwoScribes$Scribe;", true)
  | 3 => ("TwoScribes$State", "settings", "[I", true)
  | 4 => ("TwoScribes$State", "well", "F", false)
  | 5 => ("TwoScribes$State", "letterInk", "F", false)
  | 6 => ("TwoScribes$State", "correctionInk", "F", false)
  | 7 => ("TwoScribes$State", "tick", "I", false)
  | 8 => ("TwoScribes$State", "pages", "I", false)
  | 9 => ("TwoScribes$State", "letters", "I", false)
  | _ => ("TwoScribes$State", "poured", "I", false)
def tyX4 : Nat → FieldType := fun k => match k with
  | 0 => .object "TwoScribes$Page"
  | 1 => .object "TwoScribes$Scribe"
  | 2 => .object "TwoScribes$Scribe"
  | 3 => .array .int
  | 4 => .float
  | 5 => .float
  | 6 => .float
  | 7 => .int
  | 8 => .int
  | 9 => .int
  | _ => .int
abbrev wsX40 : List Cond := u_ws RX4 TX4 11
theorem nmX4 : ∀ a, a < 11 → ∀ b, b < 11 → a ≠ b → (TX4 a).2.1 ≠ (TX4 b).2.1 := by decide +kernel
theorem tyX4_ok : ∀ k, k < 11 → parseFieldDescriptor (TX4 k).2.2.1 = some (tyX4 k) := by decide +kernel
abbrev cX4_init : ByteArray := prog_6_method_1_code
def yX4_init : MethodName := ⟨RX4, "<init>", "()V"⟩
abbrev cX4_copyFrom : ByteArray := prog_6_method_2_code
def yX4_copyFrom : MethodName := ⟨RX4, "copyFrom", "(LTwoScribes$State;)V"⟩
abbrev cX4_scribeOf : ByteArray := prog_6_method_3_code
def yX4_scribeOf : MethodName := ⟨RX4, "scribeOf", "(I)LTwoScribes$Scribe;"⟩
abbrev cX4_beginPage : ByteArray := prog_6_method_4_code
def yX4_beginPage : MethodName := ⟨RX4, "beginPage", "(LTwoScribes$PageText;)V"⟩
abbrev cX4_lettersOnPage : ByteArray := prog_6_method_5_code
def yX4_lettersOnPage : MethodName := ⟨RX4, "lettersOnPage", "()I"⟩
abbrev cX4_isDone : ByteArray := prog_6_method_6_code
def yX4_isDone : MethodName := ⟨RX4, "isDone", "()Z"⟩
abbrev cX4_nextPlaceOf : ByteArray := prog_6_method_7_code
def yX4_nextPlaceOf : MethodName := ⟨RX4, "nextPlaceOf", "(I)I"⟩
abbrev cX4_isBegun : ByteArray := prog_6_method_8_code
def yX4_isBegun : MethodName := ⟨RX4, "isBegun", "(I)Z"⟩
abbrev cX4_correctionsLeft : ByteArray := prog_6_method_9_code
def yX4_correctionsLeft : MethodName := ⟨RX4, "correctionsLeft", "()I"⟩
abbrev cX4_canCorrect : ByteArray := prog_6_method_10_code
def yX4_canCorrect : MethodName := ⟨RX4, "canCorrect", "(I)Z"⟩
abbrev cX4_makeCorrection : ByteArray := prog_6_method_11_code
def yX4_makeCorrection : MethodName := ⟨RX4, "makeCorrection", "(I)V"⟩
abbrev cX4_deedOf : ByteArray := prog_6_method_12_code
def yX4_deedOf : MethodName := ⟨RX4, "deedOf", "(I)I"⟩
abbrev cX4_takeTurn : ByteArray := prog_6_method_13_code
def yX4_takeTurn : MethodName := ⟨RX4, "takeTurn", "(I)I"⟩
abbrev cX4_goOnDipping : ByteArray := prog_6_method_14_code
def yX4_goOnDipping : MethodName := ⟨RX4, "goOnDipping", "(LTwoScribes$Scribe;)V"⟩
abbrev cX4_spendTick : ByteArray := prog_6_method_15_code
def yX4_spendTick : MethodName := ⟨RX4, "spendTick", "(I)V"⟩
abbrev cX4_passTick : ByteArray := prog_6_method_16_code
def yX4_passTick : MethodName := ⟨RX4, "passTick", "()Z"⟩
abbrev cX4_runUntilDone : ByteArray := prog_6_method_17_code
def yX4_runUntilDone : MethodName := ⟨RX4, "runUntilDone", "()I"⟩
def RX5 : String := "TwoScribes"
def TX5 : u_T := fun k => match k with
  | 0 => ("TwoScribes", "now", "LTwoScribes$State;", true)
  | 1 => ("TwoScribes", "trial", "LTwoScribes$State;", true)
  | 2 => ("TwoScribes", "snapshot", "LTwoScribes$State;", true)
  | 3 => ("TwoScribes", "history", "LTwoScribes$History;", true)
  | 4 => ("TwoScribes", "text", "LTwoScribes$PageText;", true)
  | _ => ("TwoScribes", "hasSnapshot", "Z", false)
def tyX5 : Nat → FieldType := fun k => match k with
  | 0 => .object "TwoScribes$State"
  | 1 => .object "TwoScribes$State"
  | 2 => .object "TwoScribes$State"
  | 3 => .object "TwoScribes$History"
  | 4 => .object "TwoScribes$PageText"
  | _ => .boolean
abbrev wsX50 : List Cond := u_ws RX5 TX5 6
theorem nmX5 : ∀ a, a < 6 → ∀ b, b < 6 → a ≠ b → (TX5 a).2.1 ≠ (TX5 b).2.1 := by decide +kernel
theorem tyX5_ok : ∀ k, k < 6 → parseFieldDescriptor (TX5 k).2.2.1 = some (tyX5 k) := by decide +kernel
abbrev cX5_init : ByteArray := prog_1_method_1_code
def yX5_init : MethodName := ⟨RX5, "<init>", "()V"⟩
abbrev cX5_readPage : ByteArray := prog_1_method_2_code
def yX5_readPage : MethodName := ⟨RX5, "readPage", "()I"⟩
abbrev cX5_misread : ByteArray := prog_1_method_3_code
def yX5_misread : MethodName := ⟨RX5, "misread", "(II)I"⟩
abbrev cX5_correct : ByteArray := prog_1_method_4_code
def yX5_correct : MethodName := ⟨RX5, "correct", "(I)I"⟩
abbrev cX5_setPace : ByteArray := prog_1_method_5_code
def yX5_setPace : MethodName := ⟨RX5, "setPace", "(II)I"⟩
abbrev cX5_pour : ByteArray := prog_1_method_6_code
def yX5_pour : MethodName := ⟨RX5, "pour", "(I)I"⟩
abbrev cX5_set : ByteArray := prog_1_method_7_code
def yX5_set : MethodName := ⟨RX5, "set", "(II)I"⟩
abbrev cX5_pass : ByteArray := prog_1_method_8_code
def yX5_pass : MethodName := ⟨RX5, "pass", "(I)I"⟩
abbrev cX5_type : ByteArray := prog_1_method_9_code
def yX5_type : MethodName := ⟨RX5, "type", "(C)I"⟩
abbrev cX5_clearText : ByteArray := prog_1_method_10_code
def yX5_clearText : MethodName := ⟨RX5, "clearText", "()I"⟩
abbrev cX5_undo : ByteArray := prog_1_method_11_code
def yX5_undo : MethodName := ⟨RX5, "undo", "()I"⟩
abbrev cX5_keep : ByteArray := prog_1_method_12_code
def yX5_keep : MethodName := ⟨RX5, "keep", "()I"⟩
abbrev cX5_restore : ByteArray := prog_1_method_13_code
def yX5_restore : MethodName := ⟨RX5, "restore", "()I"⟩
abbrev cX5_place : ByteArray := prog_1_method_14_code
def yX5_place : MethodName := ⟨RX5, "place", "(II)I"⟩
abbrev cX5_scribe : ByteArray := prog_1_method_15_code
def yX5_scribe : MethodName := ⟨RX5, "scribe", "(II)I"⟩
abbrev cX5_ink : ByteArray := prog_1_method_16_code
def yX5_ink : MethodName := ⟨RX5, "ink", "(I)D"⟩
abbrev cX5_next : ByteArray := prog_1_method_17_code
def yX5_next : MethodName := ⟨RX5, "next", "(I)I"⟩
abbrev cX5_doneIn : ByteArray := prog_1_method_18_code
def yX5_doneIn : MethodName := ⟨RX5, "doneIn", "()I"⟩
abbrev cX5_unlikePairs : ByteArray := prog_1_method_19_code
def yX5_unlikePairs : MethodName := ⟨RX5, "unlikePairs", "()I"⟩
abbrev cX5_unlikeReadings : ByteArray := prog_1_method_20_code
def yX5_unlikeReadings : MethodName := ⟨RX5, "unlikeReadings", "()I"⟩
abbrev cX5_needed : ByteArray := prog_1_method_21_code
def yX5_needed : MethodName := ⟨RX5, "needed", "()D"⟩
abbrev cX5_bestPace : ByteArray := prog_1_method_22_code
def yX5_bestPace : MethodName := ⟨RX5, "bestPace", "(I)I"⟩
abbrev cX5_count : ByteArray := prog_1_method_23_code
def yX5_count : MethodName := ⟨RX5, "count", "(I)I"⟩
abbrev cX5_isScribe : ByteArray := prog_1_method_24_code
def yX5_isScribe : MethodName := ⟨RX5, "isScribe", "(I)Z"⟩
abbrev cX5_inkFor : ByteArray := prog_1_method_25_code
def yX5_inkFor : MethodName := ⟨RX5, "inkFor", "(I)F"⟩
abbrev cX5_at : ByteArray := prog_1_method_26_code
def yX5_at : MethodName := ⟨RX5, "at", "([II)I"⟩
abbrev cX5_put : ByteArray := prog_1_method_27_code
def yX5_put : MethodName := ⟨RX5, "put", "([III)V"⟩
abbrev cX5_clearRow : ByteArray := prog_1_method_28_code
def yX5_clearRow : MethodName := ⟨RX5, "clearRow", "([I)V"⟩
abbrev cX5_copyRow : ByteArray := prog_1_method_29_code
def yX5_copyRow : MethodName := ⟨RX5, "copyRow", "([I[I)V"⟩
def RX6 : String := "TwoScribesModel"
def TX6 : u_T := fun k => match k with
  | 0 => ("TwoScribesModel", "all", "[I", true)
  | 1 => ("TwoScribesModel", "kept", "[I", true)
  | 2 => ("TwoScribesModel", "tried", "[I", true)
  | 3 => ("TwoScribesModel", "history", "[I", true)
  | 4 => ("TwoScribesModel", "historyLong", "I", false)
  | 5 => ("TwoScribesModel", "snapshot", "[I", true)
  | 6 => ("TwoScribesModel", "isKept", "I", false)
  | 7 => ("TwoScribesModel", "draft", "[I", true)
  | 8 => ("TwoScribesModel", "text", "[I", true)
  | 9 => ("TwoScribesModel", "textLong", "I", false)
  | 10 => ("TwoScribesModel", "spot", "I", false)
  | 11 => ("TwoScribesModel", "read", "I", false)
  | _ => ("TwoScribesModel", "greatest", "I", false)
def tyX6 : Nat → FieldType := fun k => match k with
  | 0 => .array .int
  | 1 => .array .int
  | 2 => .array .int
  | 3 => .array .int
  | 4 => .int
  | 5 => .array .int
  | 6 => .int
  | 7 => .array .int
  | 8 => .array .int
  | 9 => .int
  | 10 => .int
  | 11 => .int
  | _ => .int
abbrev wsX60 : List Cond := u_ws RX6 TX6 13
theorem nmX6 : ∀ a, a < 13 → ∀ b, b < 13 → a ≠ b → (TX6 a).2.1 ≠ (TX6 b).2.1 := by decide +kernel
theorem tyX6_ok : ∀ k, k < 13 → parseFieldDescriptor (TX6 k).2.2.1 = some (tyX6 k) := by decide +kernel
abbrev cX6_init : ByteArray := prog_8_method_1_code
def yX6_init : MethodName := ⟨RX6, "<init>", "()V"⟩
abbrev cX6_in : ByteArray := prog_8_method_3_code
def yX6_in : MethodName := ⟨RX6, "in", "(JJJ)Z"⟩
abbrev cX6_keeps : ByteArray := prog_8_method_4_code
def yX6_keeps : MethodName := ⟨RX6, "keeps", "()V"⟩
abbrev cX6_ends : ByteArray := prog_8_method_5_code
def yX6_ends : MethodName := ⟨RX6, "ends", "(I)I"⟩
abbrev cX6_tries : ByteArray := prog_8_method_6_code
def yX6_tries : MethodName := ⟨RX6, "tries", "()V"⟩
abbrev cX6_comesBack : ByteArray := prog_8_method_7_code
def yX6_comesBack : MethodName := ⟨RX6, "comesBack", "()V"⟩
abbrev cX6_isPlace : ByteArray := prog_8_method_8_code
def yX6_isPlace : MethodName := ⟨RX6, "isPlace", "(I)Z"⟩
abbrev cX6_due : ByteArray := prog_8_method_9_code
def yX6_due : MethodName := ⟨RX6, "due", "(I)I"⟩
abbrev cX6_letterAt : ByteArray := prog_8_method_10_code
def yX6_letterAt : MethodName := ⟨RX6, "letterAt", "(I)I"⟩
abbrev cX6_nextPlace : ByteArray := prog_8_method_11_code
def yX6_nextPlace : MethodName := ⟨RX6, "nextPlace", "(I)I"⟩
abbrev cX6_isDone : ByteArray := prog_8_method_12_code
def yX6_isDone : MethodName := ⟨RX6, "isDone", "()Z"⟩
abbrev cX6_marginLeft : ByteArray := prog_8_method_13_code
def yX6_marginLeft : MethodName := ⟨RX6, "marginLeft", "()I"⟩
abbrev cX6_does : ByteArray := prog_8_method_14_code
def yX6_does : MethodName := ⟨RX6, "does", "(I)I"⟩
abbrev cX6_dips : ByteArray := prog_8_method_15_code
def yX6_dips : MethodName := ⟨RX6, "dips", "(I)V"⟩
abbrev cX6_writes : ByteArray := prog_8_method_16_code
def yX6_writes : MethodName := ⟨RX6, "writes", "(I)V"⟩
abbrev cX6_goes : ByteArray := prog_8_method_17_code
def yX6_goes : MethodName := ⟨RX6, "goes", "(I)V"⟩
abbrev cX6_ticks : ByteArray := prog_8_method_18_code
def yX6_ticks : MethodName := ⟨RX6, "ticks", "()V"⟩
abbrev cX6_readPage : ByteArray := prog_8_method_19_code
def yX6_readPage : MethodName := ⟨RX6, "readPage", "()I"⟩
abbrev cX6_isBegun : ByteArray := prog_8_method_20_code
def yX6_isBegun : MethodName := ⟨RX6, "isBegun", "(I)Z"⟩
abbrev cX6_misread : ByteArray := prog_8_method_21_code
def yX6_misread : MethodName := ⟨RX6, "misread", "(II)I"⟩
abbrev cX6_correct : ByteArray := prog_8_method_22_code
def yX6_correct : MethodName := ⟨RX6, "correct", "(I)I"⟩
abbrev cX6_isScribe : ByteArray := prog_8_method_23_code
def yX6_isScribe : MethodName := ⟨RX6, "isScribe", "(I)Z"⟩
abbrev cX6_setPace : ByteArray := prog_8_method_24_code
def yX6_setPace : MethodName := ⟨RX6, "setPace", "(II)I"⟩
abbrev cX6_pour : ByteArray := prog_8_method_25_code
def yX6_pour : MethodName := ⟨RX6, "pour", "(I)I"⟩
abbrev cX6_set : ByteArray := prog_8_method_26_code
def yX6_set : MethodName := ⟨RX6, "set", "(II)I"⟩
abbrev cX6_pass : ByteArray := prog_8_method_27_code
def yX6_pass : MethodName := ⟨RX6, "pass", "(I)I"⟩
abbrev cX6_type : ByteArray := prog_8_method_28_code
def yX6_type : MethodName := ⟨RX6, "type", "(C)I"⟩
abbrev cX6_clearText : ByteArray := prog_8_method_29_code
def yX6_clearText : MethodName := ⟨RX6, "clearText", "()I"⟩
abbrev cX6_isHere : ByteArray := prog_8_method_30_code
def yX6_isHere : MethodName := ⟨RX6, "isHere", "(II)Z"⟩
abbrev cX6_takesOne : ByteArray := prog_8_method_31_code
def yX6_takesOne : MethodName := ⟨RX6, "takesOne", "(I)Z"⟩
abbrev cX6_readsMisreading : ByteArray := prog_8_method_32_code
def yX6_readsMisreading : MethodName := ⟨RX6, "readsMisreading", "()Z"⟩
abbrev cX6_fault : ByteArray := prog_8_method_33_code
def yX6_fault : MethodName := ⟨RX6, "fault", "()I"⟩
abbrev cX6_undo : ByteArray := prog_8_method_34_code
def yX6_undo : MethodName := ⟨RX6, "undo", "()I"⟩
abbrev cX6_keep : ByteArray := prog_8_method_35_code
def yX6_keep : MethodName := ⟨RX6, "keep", "()I"⟩
abbrev cX6_restore : ByteArray := prog_8_method_36_code
def yX6_restore : MethodName := ⟨RX6, "restore", "()I"⟩
abbrev cX6_place : ByteArray := prog_8_method_37_code
def yX6_place : MethodName := ⟨RX6, "place", "(II)I"⟩
abbrev cX6_scribe : ByteArray := prog_8_method_38_code
def yX6_scribe : MethodName := ⟨RX6, "scribe", "(II)I"⟩
abbrev cX6_ink : ByteArray := prog_8_method_39_code
def yX6_ink : MethodName := ⟨RX6, "ink", "(I)D"⟩
abbrev cX6_next : ByteArray := prog_8_method_40_code
def yX6_next : MethodName := ⟨RX6, "next", "(I)I"⟩
abbrev cX6_doneBehind : ByteArray := prog_8_method_41_code
def yX6_doneBehind : MethodName := ⟨RX6, "doneBehind", "()I"⟩
abbrev cX6_doneIn : ByteArray := prog_8_method_42_code
def yX6_doneIn : MethodName := ⟨RX6, "doneIn", "()I"⟩
abbrev cX6_unlikePairs : ByteArray := prog_8_method_43_code
def yX6_unlikePairs : MethodName := ⟨RX6, "unlikePairs", "()I"⟩
abbrev cX6_unlikeReadings : ByteArray := prog_8_method_44_code
def yX6_unlikeReadings : MethodName := ⟨RX6, "unlikeReadings", "()I"⟩
abbrev cX6_needed : ByteArray := prog_8_method_45_code
def yX6_needed : MethodName := ⟨RX6, "needed", "()D"⟩
abbrev cX6_bestPace : ByteArray := prog_8_method_46_code
def yX6_bestPace : MethodName := ⟨RX6, "bestPace", "(I)I"⟩
abbrev cX6_places : ByteArray := prog_8_method_47_code
def yX6_places : MethodName := ⟨RX6, "places", "(I)I"⟩
abbrev cX6_count : ByteArray := prog_8_method_48_code
def yX6_count : MethodName := ⟨RX6, "count", "(I)I"⟩
def RL : String := "TwoScribesLaw"
abbrev cL_law : ByteArray := code
def yL_law : MethodName := ⟨RL, "law", "([I)Z"⟩
abbrev vwCl : List vw_C := [(RX0, TX0, 3), (RX1, TX1, 8), (RX2, TX2, 7), (RX3, TX3, 7), (RX4, TX4, 11), (RX5, TX5, 6), (RX6, TX6, 13)]
end
section
/-! words: the good ones of the tables in one list (GW), each by its place; the nest mates' links in two lists -/
def GW : List Cond := lw_tbl.filter goodWord
theorem GW_mem {w : Cond} (i : Nat) (h : lw_tbl[i]? = some w) (g : goodWord w = true) : w ∈ GW := List.mem_filter.mpr ⟨List.mem_of_getElem? h, g⟩
theorem k0 : Jvm.Cond.selects "TwoScribes$PageText" ({ cls := "TwoScribes$PageText", name := "readHalf", desc := "()V" } : Jvm.MethodName) ({ cls := "TwoScribes$PageText", name := "readHalf", desc := "()V" } : Jvm.MethodName) ∈ GW := GW_mem 0 (by decide +kernel) (by decide +kernel)
theorem k1 : Jvm.Cond.selects "TwoScribes$PageText" ({ cls := "TwoScribes$PageText", name := "letterAtCursor", desc := "()I" } : Jvm.MethodName) ({ cls := "TwoScribes$PageText", name := "letterAtCursor", desc := "()I" } : Jvm.MethodName) ∈ GW := GW_mem 1 (by decide +kernel) (by decide +kernel)
theorem k2 : Jvm.Cond.selects "TwoScribes$PageText" ({ cls := "TwoScribes$PageText", name := "isAtCharacter", desc := "()Z" } : Jvm.MethodName) ({ cls := "TwoScribes$PageText", name := "isAtCharacter", desc := "()Z" } : Jvm.MethodName) ∈ GW := GW_mem 2 (by decide +kernel) (by decide +kernel)
theorem k3 : Jvm.Cond.selects "TwoScribes$PageText" ({ cls := "TwoScribes$PageText", name := "skip", desc := "(C)Z" } : Jvm.MethodName) ({ cls := "TwoScribes$PageText", name := "skip", desc := "(C)Z" } : Jvm.MethodName) ∈ GW := GW_mem 3 (by decide +kernel) (by decide +kernel)
theorem k4 : Jvm.Cond.selects "TwoScribes$PageText" ({ cls := "TwoScribes$PageText", name := "readMisreading", desc := "()Z" } : Jvm.MethodName) ({ cls := "TwoScribes$PageText", name := "readMisreading", desc := "()Z" } : Jvm.MethodName) ∈ GW := GW_mem 4 (by decide +kernel) (by decide +kernel)
theorem k5 : Jvm.Cond.selects "TwoScribes$PageText" ({ cls := "TwoScribes$PageText", name := "digitAtCursor", desc := "()I" } : Jvm.MethodName) ({ cls := "TwoScribes$PageText", name := "digitAtCursor", desc := "()I" } : Jvm.MethodName) ∈ GW := GW_mem 5 (by decide +kernel) (by decide +kernel)
theorem k6 : Jvm.Cond.selects "TwoScribes$History" ({ cls := "TwoScribes$History", name := "stateAt", desc := "(I)LTwoScribes$State;" } : Jvm.MethodName) ({ cls := "TwoScribes$History", name := "stateAt", desc := "(I)LTwoScribes$State;" } : Jvm.MethodName) ∈ GW := GW_mem 6 (by decide +kernel) (by decide +kernel)
theorem k7 : Jvm.Cond.selects "TwoScribes$State" ({ cls := "TwoScribes$State", name := "spendTick", desc := "(I)V" } : Jvm.MethodName) ({ cls := "TwoScribes$State", name := "spendTick", desc := "(I)V" } : Jvm.MethodName) ∈ GW := GW_mem 7 (by decide +kernel) (by decide +kernel)
theorem k8 : Jvm.Cond.selects "TwoScribes$State" ({ cls := "TwoScribes$State", name := "goOnDipping", desc := "(LTwoScribes$Scribe;)V" } : Jvm.MethodName) ({ cls := "TwoScribes$State", name := "goOnDipping", desc := "(LTwoScribes$Scribe;)V" } : Jvm.MethodName) ∈ GW := GW_mem 8 (by decide +kernel) (by decide +kernel)
theorem k9 : Jvm.Cond.selects "TwoScribesModel" ({ cls := "TwoScribesModel", name := "fault", desc := "()I" } : Jvm.MethodName) ({ cls := "TwoScribesModel", name := "fault", desc := "()I" } : Jvm.MethodName) ∈ GW := GW_mem 9 (by decide +kernel) (by decide +kernel)
theorem k10 : Jvm.Cond.selects "TwoScribesModel" ({ cls := "TwoScribesModel", name := "isHere", desc := "(II)Z" } : Jvm.MethodName) ({ cls := "TwoScribesModel", name := "isHere", desc := "(II)Z" } : Jvm.MethodName) ∈ GW := GW_mem 10 (by decide +kernel) (by decide +kernel)
theorem k11 : Jvm.Cond.selects "TwoScribesModel" ({ cls := "TwoScribesModel", name := "takesOne", desc := "(I)Z" } : Jvm.MethodName) ({ cls := "TwoScribesModel", name := "takesOne", desc := "(I)Z" } : Jvm.MethodName) ∈ GW := GW_mem 11 (by decide +kernel) (by decide +kernel)
theorem k12 : Jvm.Cond.selects "TwoScribesModel" ({ cls := "TwoScribesModel", name := "readsMisreading", desc := "()Z" } : Jvm.MethodName) ({ cls := "TwoScribesModel", name := "readsMisreading", desc := "()Z" } : Jvm.MethodName) ∈ GW := GW_mem 12 (by decide +kernel) (by decide +kernel)
theorem k13 : Jvm.Cond.selects "TwoScribesModel" ({ cls := "TwoScribesModel", name := "keeps", desc := "()V" } : Jvm.MethodName) ({ cls := "TwoScribesModel", name := "keeps", desc := "()V" } : Jvm.MethodName) ∈ GW := GW_mem 13 (by decide +kernel) (by decide +kernel)
theorem k14 : Jvm.Cond.selects "TwoScribesModel" ({ cls := "TwoScribesModel", name := "ends", desc := "(I)I" } : Jvm.MethodName) ({ cls := "TwoScribesModel", name := "ends", desc := "(I)I" } : Jvm.MethodName) ∈ GW := GW_mem 14 (by decide +kernel) (by decide +kernel)
theorem k15 : Jvm.Cond.selects "TwoScribesModel" ({ cls := "TwoScribesModel", name := "isPlace", desc := "(I)Z" } : Jvm.MethodName) ({ cls := "TwoScribesModel", name := "isPlace", desc := "(I)Z" } : Jvm.MethodName) ∈ GW := GW_mem 15 (by decide +kernel) (by decide +kernel)
theorem k16 : Jvm.Cond.selects "TwoScribesModel" ({ cls := "TwoScribesModel", name := "isBegun", desc := "(I)Z" } : Jvm.MethodName) ({ cls := "TwoScribesModel", name := "isBegun", desc := "(I)Z" } : Jvm.MethodName) ∈ GW := GW_mem 16 (by decide +kernel) (by decide +kernel)
theorem k17 : Jvm.Cond.selects "TwoScribesModel" ({ cls := "TwoScribesModel", name := "nextPlace", desc := "(I)I" } : Jvm.MethodName) ({ cls := "TwoScribesModel", name := "nextPlace", desc := "(I)I" } : Jvm.MethodName) ∈ GW := GW_mem 17 (by decide +kernel) (by decide +kernel)
theorem k18 : Jvm.Cond.selects "TwoScribesModel" ({ cls := "TwoScribesModel", name := "letterAt", desc := "(I)I" } : Jvm.MethodName) ({ cls := "TwoScribesModel", name := "letterAt", desc := "(I)I" } : Jvm.MethodName) ∈ GW := GW_mem 18 (by decide +kernel) (by decide +kernel)
theorem k19 : Jvm.Cond.selects "TwoScribesModel" ({ cls := "TwoScribesModel", name := "due", desc := "(I)I" } : Jvm.MethodName) ({ cls := "TwoScribesModel", name := "due", desc := "(I)I" } : Jvm.MethodName) ∈ GW := GW_mem 19 (by decide +kernel) (by decide +kernel)
theorem k20 : Jvm.Cond.selects "TwoScribesModel" ({ cls := "TwoScribesModel", name := "marginLeft", desc := "()I" } : Jvm.MethodName) ({ cls := "TwoScribesModel", name := "marginLeft", desc := "()I" } : Jvm.MethodName) ∈ GW := GW_mem 20 (by decide +kernel) (by decide +kernel)
theorem k21 : Jvm.Cond.selects "TwoScribesModel" ({ cls := "TwoScribesModel", name := "ticks", desc := "()V" } : Jvm.MethodName) ({ cls := "TwoScribesModel", name := "ticks", desc := "()V" } : Jvm.MethodName) ∈ GW := GW_mem 21 (by decide +kernel) (by decide +kernel)
theorem k22 : Jvm.Cond.selects "TwoScribesModel" ({ cls := "TwoScribesModel", name := "goes", desc := "(I)V" } : Jvm.MethodName) ({ cls := "TwoScribesModel", name := "goes", desc := "(I)V" } : Jvm.MethodName) ∈ GW := GW_mem 22 (by decide +kernel) (by decide +kernel)
theorem k23 : Jvm.Cond.selects "TwoScribesModel" ({ cls := "TwoScribesModel", name := "does", desc := "(I)I" } : Jvm.MethodName) ({ cls := "TwoScribesModel", name := "does", desc := "(I)I" } : Jvm.MethodName) ∈ GW := GW_mem 23 (by decide +kernel) (by decide +kernel)
theorem k24 : Jvm.Cond.selects "TwoScribesModel" ({ cls := "TwoScribesModel", name := "writes", desc := "(I)V" } : Jvm.MethodName) ({ cls := "TwoScribesModel", name := "writes", desc := "(I)V" } : Jvm.MethodName) ∈ GW := GW_mem 24 (by decide +kernel) (by decide +kernel)
theorem k25 : Jvm.Cond.selects "TwoScribesModel" ({ cls := "TwoScribesModel", name := "dips", desc := "(I)V" } : Jvm.MethodName) ({ cls := "TwoScribesModel", name := "dips", desc := "(I)V" } : Jvm.MethodName) ∈ GW := GW_mem 25 (by decide +kernel) (by decide +kernel)
theorem k26 : Jvm.Cond.selects "TwoScribesModel" ({ cls := "TwoScribesModel", name := "tries", desc := "()V" } : Jvm.MethodName) ({ cls := "TwoScribesModel", name := "tries", desc := "()V" } : Jvm.MethodName) ∈ GW := GW_mem 26 (by decide +kernel) (by decide +kernel)
theorem k27 : Jvm.Cond.selects "TwoScribesModel" ({ cls := "TwoScribesModel", name := "comesBack", desc := "()V" } : Jvm.MethodName) ({ cls := "TwoScribesModel", name := "comesBack", desc := "()V" } : Jvm.MethodName) ∈ GW := GW_mem 27 (by decide +kernel) (by decide +kernel)
theorem k28 : Jvm.Cond.selects "TwoScribesModel" ({ cls := "TwoScribesModel", name := "doneBehind", desc := "()I" } : Jvm.MethodName) ({ cls := "TwoScribesModel", name := "doneBehind", desc := "()I" } : Jvm.MethodName) ∈ GW := GW_mem 28 (by decide +kernel) (by decide +kernel)
theorem k29 : Jvm.Cond.selects "TwoScribesModel" ({ cls := "TwoScribesModel", name := "isDone", desc := "()Z" } : Jvm.MethodName) ({ cls := "TwoScribesModel", name := "isDone", desc := "()Z" } : Jvm.MethodName) ∈ GW := GW_mem 29 (by decide +kernel) (by decide +kernel)
theorem k30 : Jvm.Cond.selects "TwoScribesModel" ({ cls := "TwoScribesModel", name := "places", desc := "(I)I" } : Jvm.MethodName) ({ cls := "TwoScribesModel", name := "places", desc := "(I)I" } : Jvm.MethodName) ∈ GW := GW_mem 30 (by decide +kernel) (by decide +kernel)
theorem k31 : Jvm.Cond.initialized "TwoScribesLaw" ∈ GW := GW_mem 31 (by decide +kernel) (by decide +kernel)
theorem k32 : Jvm.Cond.initialized "TwoScribes" ∈ GW := GW_mem 32 (by decide +kernel) (by decide +kernel)
theorem k33 : Jvm.Cond.initialized "TwoScribes$State" ∈ GW := GW_mem 33 (by decide +kernel) (by decide +kernel)
theorem k34 : Jvm.Cond.initialized "TwoScribes$Page" ∈ GW := GW_mem 34 (by decide +kernel) (by decide +kernel)
theorem k35 : Jvm.Cond.initialized "TwoScribes$Scribe" ∈ GW := GW_mem 35 (by decide +kernel) (by decide +kernel)
theorem k36 : Jvm.Cond.initialized "TwoScribes$History" ∈ GW := GW_mem 36 (by decide +kernel) (by decide +kernel)
theorem k37 : Jvm.Cond.initialized "TwoScribes$PageText" ∈ GW := GW_mem 37 (by decide +kernel) (by decide +kernel)
theorem k38 : Jvm.Cond.initialized "TwoScribesModel" ∈ GW := GW_mem 38 (by decide +kernel) (by decide +kernel)
theorem k39 : Jvm.Cond.initialized "java/lang/Math" ∈ GW := GW_mem 39 (by decide +kernel) (by decide +kernel)
theorem k40 : Jvm.Cond.initialized "java/lang/System" ∈ GW := GW_mem 40 (by decide +kernel) (by decide +kernel)
theorem k41 : Jvm.Cond.classLink "TwoScribesLaw" (7 : Nat) "TwoScribes" ∈ GW := GW_mem 41 (by decide +kernel) (by decide +kernel)
theorem k42 : Jvm.Cond.instantiable "TwoScribes" (6 : Nat) ∈ GW := GW_mem 42 (by decide +kernel) (by decide +kernel)
theorem k43 : Jvm.Cond.methodLink "TwoScribesLaw" (9 : Nat) ({ cls := "TwoScribes", name := "<init>", desc := "()V" } : Jvm.MethodName) ∈ GW := GW_mem 43 (by decide +kernel) (by decide +kernel)
theorem k44 : Jvm.Cond.instanceMethod ({ cls := "TwoScribes", name := "<init>", desc := "()V" } : Jvm.MethodName) ∈ GW := GW_mem 44 (by decide +kernel) (by decide +kernel)
theorem k45 : Jvm.Cond.code ({ cls := "TwoScribes", name := "<init>", desc := "()V" } : Jvm.MethodName) prog_1_method_1_code (1 : Nat) (Option.none : Option Jvm.ClassFile.FieldType) ∈ GW := GW_mem 45 (by decide +kernel) (by decide +kernel)
theorem k46 : Jvm.Cond.methodLink "TwoScribes" (1 : Nat) ({ cls := "java/lang/Object", name := "<init>", desc := "()V" } : Jvm.MethodName) ∈ GW := GW_mem 46 (by decide +kernel) (by decide +kernel)
theorem k47 : Jvm.Cond.instanceMethod ({ cls := "java/lang/Object", name := "<init>", desc := "()V" } : Jvm.MethodName) ∈ GW := GW_mem 47 (by decide +kernel) (by decide +kernel)
theorem k48 : Jvm.Cond.code ({ cls := "java/lang/Object", name := "<init>", desc := "()V" } : Jvm.MethodName) object_method_1_code (1 : Nat) (Option.none : Option Jvm.ClassFile.FieldType) ∈ GW := GW_mem 48 (by decide +kernel) (by decide +kernel)
theorem k49 : Jvm.Cond.classLink "TwoScribes" (7 : Nat) "TwoScribes$State" ∈ GW := GW_mem 49 (by decide +kernel) (by decide +kernel)
theorem k50 : Jvm.Cond.instantiable "TwoScribes$State" (11 : Nat) ∈ GW := GW_mem 50 (by decide +kernel) (by decide +kernel)
theorem k52 : Jvm.Cond.instanceMethod ({ cls := "TwoScribes$State", name := "<init>", desc := "()V" } : Jvm.MethodName) ∈ GW := GW_mem 52 (by decide +kernel) (by decide +kernel)
theorem k53 : Jvm.Cond.code ({ cls := "TwoScribes$State", name := "<init>", desc := "()V" } : Jvm.MethodName) prog_6_method_1_code (1 : Nat) (Option.none : Option Jvm.ClassFile.FieldType) ∈ GW := GW_mem 53 (by decide +kernel) (by decide +kernel)
theorem k54 : Jvm.Cond.methodLink "TwoScribes$State" (3 : Nat) ({ cls := "java/lang/Object", name := "<init>", desc := "()V" } : Jvm.MethodName) ∈ GW := GW_mem 54 (by decide +kernel) (by decide +kernel)
theorem k55 : Jvm.Cond.classLink "TwoScribes$State" (9 : Nat) "TwoScribes$Page" ∈ GW := GW_mem 55 (by decide +kernel) (by decide +kernel)
theorem k56 : Jvm.Cond.instantiable "TwoScribes$Page" (8 : Nat) ∈ GW := GW_mem 56 (by decide +kernel) (by decide +kernel)
theorem k58 : Jvm.Cond.instanceMethod ({ cls := "TwoScribes$Page", name := "<init>", desc := "()V" } : Jvm.MethodName) ∈ GW := GW_mem 58 (by decide +kernel) (by decide +kernel)
theorem k59 : Jvm.Cond.code ({ cls := "TwoScribes$Page", name := "<init>", desc := "()V" } : Jvm.MethodName) prog_3_method_1_code (1 : Nat) (Option.none : Option Jvm.ClassFile.FieldType) ∈ GW := GW_mem 59 (by decide +kernel) (by decide +kernel)
theorem k60 : Jvm.Cond.methodLink "TwoScribes$Page" (3 : Nat) ({ cls := "java/lang/Object", name := "<init>", desc := "()V" } : Jvm.MethodName) ∈ GW := GW_mem 60 (by decide +kernel) (by decide +kernel)
theorem k61 : Jvm.Cond.fieldLink "TwoScribes$Page" (9 : Nat) "TwoScribes$Page" "due" "[I" ∈ GW := GW_mem 61 (by decide +kernel) (by decide +kernel)
theorem k64 : Jvm.Cond.fieldLink "TwoScribes$Page" (15 : Nat) "TwoScribes$Page" "told" "[I" ∈ GW := GW_mem 64 (by decide +kernel) (by decide +kernel)
theorem k66 : Jvm.Cond.fieldLink "TwoScribes$Page" (18 : Nat) "TwoScribes$Page" "written" "[I" ∈ GW := GW_mem 66 (by decide +kernel) (by decide +kernel)
theorem k68 : Jvm.Cond.fieldLink "TwoScribes$Page" (21 : Nat) "TwoScribes$Page" "writtenIn" "[I" ∈ GW := GW_mem 68 (by decide +kernel) (by decide +kernel)
theorem k70 : Jvm.Cond.fieldLink "TwoScribes$Page" (24 : Nat) "TwoScribes$Page" "blots" "[I" ∈ GW := GW_mem 70 (by decide +kernel) (by decide +kernel)
theorem k72 : Jvm.Cond.fieldLink "TwoScribes$Page" (27 : Nat) "TwoScribes$Page" "corrected" "[I" ∈ GW := GW_mem 72 (by decide +kernel) (by decide +kernel)
theorem k74 : Jvm.Cond.fieldLink "TwoScribes$Page" (34 : Nat) "TwoScribes$Page" "places" "I" ∈ GW := GW_mem 74 (by decide +kernel) (by decide +kernel)
theorem k77 : Jvm.Cond.fieldLink "TwoScribes$Page" (38 : Nat) "TwoScribes$Page" "corrections" "I" ∈ GW := GW_mem 77 (by decide +kernel) (by decide +kernel)
theorem k96 : Jvm.Cond.arrayClass Jvm.ClassFile.FieldType.int ∈ GW := GW_mem 96 (by decide +kernel) (by decide +kernel)
theorem k97 : Jvm.Cond.classLink "TwoScribes$State" (18 : Nat) "TwoScribes$Scribe" ∈ GW := GW_mem 97 (by decide +kernel) (by decide +kernel)
theorem k98 : Jvm.Cond.instantiable "TwoScribes$Scribe" (7 : Nat) ∈ GW := GW_mem 98 (by decide +kernel) (by decide +kernel)
theorem k100 : Jvm.Cond.instanceMethod ({ cls := "TwoScribes$Scribe", name := "<init>", desc := "()V" } : Jvm.MethodName) ∈ GW := GW_mem 100 (by decide +kernel) (by decide +kernel)
theorem k101 : Jvm.Cond.code ({ cls := "TwoScribes$Scribe", name := "<init>", desc := "()V" } : Jvm.MethodName) prog_5_method_1_code (1 : Nat) (Option.none : Option Jvm.ClassFile.FieldType) ∈ GW := GW_mem 101 (by decide +kernel) (by decide +kernel)
theorem k102 : Jvm.Cond.methodLink "TwoScribes$Scribe" (1 : Nat) ({ cls := "java/lang/Object", name := "<init>", desc := "()V" } : Jvm.MethodName) ∈ GW := GW_mem 102 (by decide +kernel) (by decide +kernel)
theorem k103 : Jvm.Cond.fieldLink "TwoScribes$Scribe" (7 : Nat) "TwoScribes$Scribe" "pace" "I" ∈ GW := GW_mem 103 (by decide +kernel) (by decide +kernel)
theorem k106 : Jvm.Cond.fieldLink "TwoScribes$Scribe" (13 : Nat) "TwoScribes$Scribe" "letters" "I" ∈ GW := GW_mem 106 (by decide +kernel) (by decide +kernel)
theorem k109 : Jvm.Cond.fieldLink "TwoScribes$Scribe" (16 : Nat) "TwoScribes$Scribe" "spent" "I" ∈ GW := GW_mem 109 (by decide +kernel) (by decide +kernel)
theorem k112 : Jvm.Cond.fieldLink "TwoScribes$Scribe" (19 : Nat) "TwoScribes$Scribe" "dipLeft" "I" ∈ GW := GW_mem 112 (by decide +kernel) (by decide +kernel)
theorem k115 : Jvm.Cond.fieldLink "TwoScribes$Scribe" (22 : Nat) "TwoScribes$Scribe" "dips" "I" ∈ GW := GW_mem 115 (by decide +kernel) (by decide +kernel)
theorem k118 : Jvm.Cond.fieldLink "TwoScribes$Scribe" (25 : Nat) "TwoScribes$Scribe" "waits" "I" ∈ GW := GW_mem 118 (by decide +kernel) (by decide +kernel)
theorem k121 : Jvm.Cond.fieldLink "TwoScribes$Scribe" (28 : Nat) "TwoScribes$Scribe" "pen" "F" ∈ GW := GW_mem 121 (by decide +kernel) (by decide +kernel)
theorem k139 : Jvm.Cond.constantFloat "TwoScribes$State" (32 : Nat) (1082130432 : UInt32) ∈ GW := GW_mem 139 (by decide +kernel) (by decide +kernel)
theorem k140 : Jvm.Cond.fieldLink "TwoScribes$State" (12 : Nat) "TwoScribes$State" "page" "LTwoScribes$Page;" ∈ GW := GW_mem 140 (by decide +kernel) (by decide +kernel)
theorem k142 : Jvm.Cond.fieldLink "TwoScribes$State" (21 : Nat) "TwoScribes$State" "left" "LTwoScribes$Scribe;" ∈ GW := GW_mem 142 (by decide +kernel) (by decide +kernel)
theorem k144 : Jvm.Cond.fieldLink "TwoScribes$State" (25 : Nat) "TwoScribes$State" "right" "LTwoScribes$Scribe;" ∈ GW := GW_mem 144 (by decide +kernel) (by decide +kernel)
theorem k146 : Jvm.Cond.fieldLink "TwoScribes$State" (28 : Nat) "TwoScribes$State" "settings" "[I" ∈ GW := GW_mem 146 (by decide +kernel) (by decide +kernel)
theorem k148 : Jvm.Cond.fieldLink "TwoScribes$State" (33 : Nat) "TwoScribes$State" "well" "F" ∈ GW := GW_mem 148 (by decide +kernel) (by decide +kernel)
theorem k150 : Jvm.Cond.fieldLink "TwoScribes$State" (48 : Nat) "TwoScribes$State" "letterInk" "F" ∈ GW := GW_mem 150 (by decide +kernel) (by decide +kernel)
theorem k152 : Jvm.Cond.fieldLink "TwoScribes$State" (51 : Nat) "TwoScribes$State" "correctionInk" "F" ∈ GW := GW_mem 152 (by decide +kernel) (by decide +kernel)
theorem k154 : Jvm.Cond.fieldLink "TwoScribes$State" (54 : Nat) "TwoScribes$State" "tick" "I" ∈ GW := GW_mem 154 (by decide +kernel) (by decide +kernel)
theorem k156 : Jvm.Cond.fieldLink "TwoScribes$State" (58 : Nat) "TwoScribes$State" "pages" "I" ∈ GW := GW_mem 156 (by decide +kernel) (by decide +kernel)
theorem k158 : Jvm.Cond.fieldLink "TwoScribes$State" (61 : Nat) "TwoScribes$State" "letters" "I" ∈ GW := GW_mem 158 (by decide +kernel) (by decide +kernel)
theorem k160 : Jvm.Cond.fieldLink "TwoScribes$State" (64 : Nat) "TwoScribes$State" "poured" "I" ∈ GW := GW_mem 160 (by decide +kernel) (by decide +kernel)
theorem k185 : Jvm.Cond.classLink "TwoScribes" (22 : Nat) "TwoScribes$History" ∈ GW := GW_mem 185 (by decide +kernel) (by decide +kernel)
theorem k186 : Jvm.Cond.instantiable "TwoScribes$History" (3 : Nat) ∈ GW := GW_mem 186 (by decide +kernel) (by decide +kernel)
theorem k187 : Jvm.Cond.methodLink "TwoScribes" (24 : Nat) ({ cls := "TwoScribes$History", name := "<init>", desc := "()V" } : Jvm.MethodName) ∈ GW := GW_mem 187 (by decide +kernel) (by decide +kernel)
theorem k188 : Jvm.Cond.instanceMethod ({ cls := "TwoScribes$History", name := "<init>", desc := "()V" } : Jvm.MethodName) ∈ GW := GW_mem 188 (by decide +kernel) (by decide +kernel)
theorem k189 : Jvm.Cond.code ({ cls := "TwoScribes$History", name := "<init>", desc := "()V" } : Jvm.MethodName) prog_2_method_1_code (2 : Nat) (Option.none : Option Jvm.ClassFile.FieldType) ∈ GW := GW_mem 189 (by decide +kernel) (by decide +kernel)
theorem k190 : Jvm.Cond.methodLink "TwoScribes$History" (3 : Nat) ({ cls := "java/lang/Object", name := "<init>", desc := "()V" } : Jvm.MethodName) ∈ GW := GW_mem 190 (by decide +kernel) (by decide +kernel)
theorem k191 : Jvm.Cond.classLink "TwoScribes$History" (9 : Nat) "TwoScribes$State" ∈ GW := GW_mem 191 (by decide +kernel) (by decide +kernel)
theorem k194 : Jvm.Cond.fieldLink "TwoScribes$History" (11 : Nat) "TwoScribes$History" "states" "[LTwoScribes$State;" ∈ GW := GW_mem 194 (by decide +kernel) (by decide +kernel)
theorem k195 : Jvm.Cond.fieldLink "TwoScribes$History" (22 : Nat) "TwoScribes$History" "first" "I" ∈ GW := GW_mem 195 (by decide +kernel) (by decide +kernel)
theorem k196 : Jvm.Cond.fieldLink "TwoScribes$History" (18 : Nat) "TwoScribes$History" "size" "I" ∈ GW := GW_mem 196 (by decide +kernel) (by decide +kernel)
theorem k205 : Jvm.Cond.classLink "TwoScribes" (29 : Nat) "TwoScribes$PageText" ∈ GW := GW_mem 205 (by decide +kernel) (by decide +kernel)
theorem k206 : Jvm.Cond.instantiable "TwoScribes$PageText" (7 : Nat) ∈ GW := GW_mem 206 (by decide +kernel) (by decide +kernel)
theorem k208 : Jvm.Cond.instanceMethod ({ cls := "TwoScribes$PageText", name := "<init>", desc := "()V" } : Jvm.MethodName) ∈ GW := GW_mem 208 (by decide +kernel) (by decide +kernel)
theorem k209 : Jvm.Cond.code ({ cls := "TwoScribes$PageText", name := "<init>", desc := "()V" } : Jvm.MethodName) prog_4_method_1_code (1 : Nat) (Option.none : Option Jvm.ClassFile.FieldType) ∈ GW := GW_mem 209 (by decide +kernel) (by decide +kernel)
theorem k210 : Jvm.Cond.methodLink "TwoScribes$PageText" (3 : Nat) ({ cls := "java/lang/Object", name := "<init>", desc := "()V" } : Jvm.MethodName) ∈ GW := GW_mem 210 (by decide +kernel) (by decide +kernel)
theorem k211 : Jvm.Cond.fieldLink "TwoScribes$PageText" (9 : Nat) "TwoScribes$PageText" "characters" "[C" ∈ GW := GW_mem 211 (by decide +kernel) (by decide +kernel)
theorem k212 : Jvm.Cond.fieldLink "TwoScribes$PageText" (15 : Nat) "TwoScribes$PageText" "letters" "[I" ∈ GW := GW_mem 212 (by decide +kernel) (by decide +kernel)
theorem k214 : Jvm.Cond.fieldLink "TwoScribes$PageText" (19 : Nat) "TwoScribes$PageText" "misreadings" "[I" ∈ GW := GW_mem 214 (by decide +kernel) (by decide +kernel)
theorem k216 : Jvm.Cond.fieldLink "TwoScribes$PageText" (22 : Nat) "TwoScribes$PageText" "length" "I" ∈ GW := GW_mem 216 (by decide +kernel) (by decide +kernel)
theorem k220 : Jvm.Cond.fieldLink "TwoScribes$PageText" (29 : Nat) "TwoScribes$PageText" "half" "I" ∈ GW := GW_mem 220 (by decide +kernel) (by decide +kernel)
theorem k222 : Jvm.Cond.fieldLink "TwoScribes$PageText" (43 : Nat) "TwoScribes$PageText" "farthest" "I" ∈ GW := GW_mem 222 (by decide +kernel) (by decide +kernel)
theorem k223 : Jvm.Cond.fieldLink "TwoScribes$PageText" (32 : Nat) "TwoScribes$PageText" "cursor" "I" ∈ GW := GW_mem 223 (by decide +kernel) (by decide +kernel)
theorem k239 : Jvm.Cond.arrayClass Jvm.ClassFile.FieldType.char ∈ GW := GW_mem 239 (by decide +kernel) (by decide +kernel)
theorem k240 : Jvm.Cond.fieldLink "TwoScribes" (10 : Nat) "TwoScribes" "now" "LTwoScribes$State;" ∈ GW := GW_mem 240 (by decide +kernel) (by decide +kernel)
theorem k241 : Jvm.Cond.fieldLink "TwoScribes" (16 : Nat) "TwoScribes" "trial" "LTwoScribes$State;" ∈ GW := GW_mem 241 (by decide +kernel) (by decide +kernel)
theorem k242 : Jvm.Cond.fieldLink "TwoScribes" (19 : Nat) "TwoScribes" "snapshot" "LTwoScribes$State;" ∈ GW := GW_mem 242 (by decide +kernel) (by decide +kernel)
theorem k243 : Jvm.Cond.fieldLink "TwoScribes" (25 : Nat) "TwoScribes" "history" "LTwoScribes$History;" ∈ GW := GW_mem 243 (by decide +kernel) (by decide +kernel)
theorem k244 : Jvm.Cond.fieldLink "TwoScribes" (32 : Nat) "TwoScribes" "text" "LTwoScribes$PageText;" ∈ GW := GW_mem 244 (by decide +kernel) (by decide +kernel)
theorem k245 : Jvm.Cond.fieldLink "TwoScribes" (157 : Nat) "TwoScribes" "hasSnapshot" "Z" ∈ GW := GW_mem 245 (by decide +kernel) (by decide +kernel)
theorem k259 : Jvm.Cond.methodLink "TwoScribesLaw" (13 : Nat) ({ cls := "TwoScribes", name := "readPage", desc := "()I" } : Jvm.MethodName) ∈ GW := GW_mem 259 (by decide +kernel) (by decide +kernel)
theorem k260 : Jvm.Cond.instanceMethod ({ cls := "TwoScribes", name := "readPage", desc := "()I" } : Jvm.MethodName) ∈ GW := GW_mem 260 (by decide +kernel) (by decide +kernel)
theorem k261 : Jvm.Cond.selects "TwoScribes" ({ cls := "TwoScribes", name := "readPage", desc := "()I" } : Jvm.MethodName) ({ cls := "TwoScribes", name := "readPage", desc := "()I" } : Jvm.MethodName) ∈ GW := GW_mem 261 (by decide +kernel) (by decide +kernel)
theorem k262 : Jvm.Cond.code ({ cls := "TwoScribes", name := "readPage", desc := "()I" } : Jvm.MethodName) prog_1_method_2_code (2 : Nat) (Option.some Jvm.ClassFile.FieldType.int) ∈ GW := GW_mem 262 (by decide +kernel) (by decide +kernel)
theorem k263 : Jvm.Cond.methodLink "TwoScribes" (36 : Nat) ({ cls := "TwoScribes$PageText", name := "findFault", desc := "()I" } : Jvm.MethodName) ∈ GW := GW_mem 263 (by decide +kernel) (by decide +kernel)
theorem k264 : Jvm.Cond.instanceMethod ({ cls := "TwoScribes$PageText", name := "findFault", desc := "()I" } : Jvm.MethodName) ∈ GW := GW_mem 264 (by decide +kernel) (by decide +kernel)
theorem k265 : Jvm.Cond.selects "TwoScribes$PageText" ({ cls := "TwoScribes$PageText", name := "findFault", desc := "()I" } : Jvm.MethodName) ({ cls := "TwoScribes$PageText", name := "findFault", desc := "()I" } : Jvm.MethodName) ∈ GW := GW_mem 265 (by decide +kernel) (by decide +kernel)
theorem k266 : Jvm.Cond.code ({ cls := "TwoScribes$PageText", name := "findFault", desc := "()I" } : Jvm.MethodName) prog_4_method_3_code (2 : Nat) (Option.some Jvm.ClassFile.FieldType.int) ∈ GW := GW_mem 266 (by decide +kernel) (by decide +kernel)
theorem k267 : Jvm.Cond.methodLink "TwoScribes$PageText" (26 : Nat) ({ cls := "TwoScribes$PageText", name := "readHalf", desc := "()V" } : Jvm.MethodName) ∈ GW := GW_mem 267 (by decide +kernel) (by decide +kernel)
theorem k269 : Jvm.Cond.instanceMethod ({ cls := "TwoScribes$PageText", name := "readHalf", desc := "()V" } : Jvm.MethodName) ∈ GW := GW_mem 269 (by decide +kernel) (by decide +kernel)
theorem k270 : Jvm.Cond.code ({ cls := "TwoScribes$PageText", name := "readHalf", desc := "()V" } : Jvm.MethodName) prog_4_method_4_code (3 : Nat) (Option.none : Option Jvm.ClassFile.FieldType) ∈ GW := GW_mem 270 (by decide +kernel) (by decide +kernel)
theorem k272 : Jvm.Cond.static ({ cls := "TwoScribes", name := "clearRow", desc := "([I)V" } : Jvm.MethodName) ∈ GW := GW_mem 272 (by decide +kernel) (by decide +kernel)
theorem k273 : Jvm.Cond.code ({ cls := "TwoScribes", name := "clearRow", desc := "([I)V" } : Jvm.MethodName) prog_1_method_28_code (2 : Nat) (Option.none : Option Jvm.ClassFile.FieldType) ∈ GW := GW_mem 273 (by decide +kernel) (by decide +kernel)
theorem k274 : Jvm.Cond.methodLink "TwoScribes$PageText" (50 : Nat) ({ cls := "TwoScribes$PageText", name := "letterAtCursor", desc := "()I" } : Jvm.MethodName) ∈ GW := GW_mem 274 (by decide +kernel) (by decide +kernel)
theorem k276 : Jvm.Cond.instanceMethod ({ cls := "TwoScribes$PageText", name := "letterAtCursor", desc := "()I" } : Jvm.MethodName) ∈ GW := GW_mem 276 (by decide +kernel) (by decide +kernel)
theorem k277 : Jvm.Cond.code ({ cls := "TwoScribes$PageText", name := "letterAtCursor", desc := "()I" } : Jvm.MethodName) prog_4_method_7_code (2 : Nat) (Option.some Jvm.ClassFile.FieldType.int) ∈ GW := GW_mem 277 (by decide +kernel) (by decide +kernel)
theorem k278 : Jvm.Cond.methodLink "TwoScribes$PageText" (67 : Nat) ({ cls := "TwoScribes$PageText", name := "isAtCharacter", desc := "()Z" } : Jvm.MethodName) ∈ GW := GW_mem 278 (by decide +kernel) (by decide +kernel)
theorem k280 : Jvm.Cond.instanceMethod ({ cls := "TwoScribes$PageText", name := "isAtCharacter", desc := "()Z" } : Jvm.MethodName) ∈ GW := GW_mem 280 (by decide +kernel) (by decide +kernel)
theorem k281 : Jvm.Cond.code ({ cls := "TwoScribes$PageText", name := "isAtCharacter", desc := "()Z" } : Jvm.MethodName) prog_4_method_9_code (1 : Nat) (Option.some Jvm.ClassFile.FieldType.boolean) ∈ GW := GW_mem 281 (by decide +kernel) (by decide +kernel)
theorem k283 : Jvm.Cond.static ({ cls := "TwoScribes", name := "put", desc := "([III)V" } : Jvm.MethodName) ∈ GW := GW_mem 283 (by decide +kernel) (by decide +kernel)
theorem k284 : Jvm.Cond.code ({ cls := "TwoScribes", name := "put", desc := "([III)V" } : Jvm.MethodName) prog_1_method_27_code (3 : Nat) (Option.none : Option Jvm.ClassFile.FieldType) ∈ GW := GW_mem 284 (by decide +kernel) (by decide +kernel)
theorem k285 : Jvm.Cond.methodLink "TwoScribes$PageText" (35 : Nat) ({ cls := "TwoScribes$PageText", name := "skip", desc := "(C)Z" } : Jvm.MethodName) ∈ GW := GW_mem 285 (by decide +kernel) (by decide +kernel)
theorem k287 : Jvm.Cond.instanceMethod ({ cls := "TwoScribes$PageText", name := "skip", desc := "(C)Z" } : Jvm.MethodName) ∈ GW := GW_mem 287 (by decide +kernel) (by decide +kernel)
theorem k288 : Jvm.Cond.code ({ cls := "TwoScribes$PageText", name := "skip", desc := "(C)Z" } : Jvm.MethodName) prog_4_method_6_code (2 : Nat) (Option.some Jvm.ClassFile.FieldType.boolean) ∈ GW := GW_mem 288 (by decide +kernel) (by decide +kernel)
theorem k289 : Jvm.Cond.methodLink "TwoScribes$PageText" (39 : Nat) ({ cls := "TwoScribes$PageText", name := "readMisreading", desc := "()Z" } : Jvm.MethodName) ∈ GW := GW_mem 289 (by decide +kernel) (by decide +kernel)
theorem k291 : Jvm.Cond.instanceMethod ({ cls := "TwoScribes$PageText", name := "readMisreading", desc := "()Z" } : Jvm.MethodName) ∈ GW := GW_mem 291 (by decide +kernel) (by decide +kernel)
theorem k292 : Jvm.Cond.code ({ cls := "TwoScribes$PageText", name := "readMisreading", desc := "()Z" } : Jvm.MethodName) prog_4_method_5_code (4 : Nat) (Option.some Jvm.ClassFile.FieldType.boolean) ∈ GW := GW_mem 292 (by decide +kernel) (by decide +kernel)
theorem k293 : Jvm.Cond.methodLink "TwoScribes$PageText" (58 : Nat) ({ cls := "TwoScribes$PageText", name := "digitAtCursor", desc := "()I" } : Jvm.MethodName) ∈ GW := GW_mem 293 (by decide +kernel) (by decide +kernel)
theorem k295 : Jvm.Cond.instanceMethod ({ cls := "TwoScribes$PageText", name := "digitAtCursor", desc := "()I" } : Jvm.MethodName) ∈ GW := GW_mem 295 (by decide +kernel) (by decide +kernel)
theorem k296 : Jvm.Cond.code ({ cls := "TwoScribes$PageText", name := "digitAtCursor", desc := "()I" } : Jvm.MethodName) prog_4_method_8_code (2 : Nat) (Option.some Jvm.ClassFile.FieldType.int) ∈ GW := GW_mem 296 (by decide +kernel) (by decide +kernel)
theorem k297 : Jvm.Cond.methodLink "TwoScribes$PageText" (61 : Nat) ({ cls := "java/lang/Math", name := "max", desc := "(II)I" } : Jvm.MethodName) ∈ GW := GW_mem 297 (by decide +kernel) (by decide +kernel)
theorem k298 : Jvm.Cond.static ({ cls := "java/lang/Math", name := "max", desc := "(II)I" } : Jvm.MethodName) ∈ GW := GW_mem 298 (by decide +kernel) (by decide +kernel)
theorem k299 : Jvm.Cond.code ({ cls := "java/lang/Math", name := "max", desc := "(II)I" } : Jvm.MethodName) prog_9_method_65_code (2 : Nat) (Option.some Jvm.ClassFile.FieldType.int) ∈ GW := GW_mem 299 (by decide +kernel) (by decide +kernel)
theorem k300 : Jvm.Cond.methodLink "TwoScribes" (47 : Nat) ({ cls := "TwoScribes$History", name := "record", desc := "(LTwoScribes$State;)V" } : Jvm.MethodName) ∈ GW := GW_mem 300 (by decide +kernel) (by decide +kernel)
theorem k301 : Jvm.Cond.instanceMethod ({ cls := "TwoScribes$History", name := "record", desc := "(LTwoScribes$State;)V" } : Jvm.MethodName) ∈ GW := GW_mem 301 (by decide +kernel) (by decide +kernel)
theorem k302 : Jvm.Cond.selects "TwoScribes$History" ({ cls := "TwoScribes$History", name := "record", desc := "(LTwoScribes$State;)V" } : Jvm.MethodName) ({ cls := "TwoScribes$History", name := "record", desc := "(LTwoScribes$State;)V" } : Jvm.MethodName) ∈ GW := GW_mem 302 (by decide +kernel) (by decide +kernel)
theorem k303 : Jvm.Cond.code ({ cls := "TwoScribes$History", name := "record", desc := "(LTwoScribes$State;)V" } : Jvm.MethodName) prog_2_method_2_code (3 : Nat) (Option.none : Option Jvm.ClassFile.FieldType) ∈ GW := GW_mem 303 (by decide +kernel) (by decide +kernel)
theorem k304 : Jvm.Cond.methodLink "TwoScribes$History" (25 : Nat) ({ cls := "TwoScribes$History", name := "stateAt", desc := "(I)LTwoScribes$State;" } : Jvm.MethodName) ∈ GW := GW_mem 304 (by decide +kernel) (by decide +kernel)
theorem k306 : Jvm.Cond.instanceMethod ({ cls := "TwoScribes$History", name := "stateAt", desc := "(I)LTwoScribes$State;" } : Jvm.MethodName) ∈ GW := GW_mem 306 (by decide +kernel) (by decide +kernel)
theorem k307 : Jvm.Cond.code ({ cls := "TwoScribes$History", name := "stateAt", desc := "(I)LTwoScribes$State;" } : Jvm.MethodName) prog_2_method_4_code (3 : Nat) (Option.some (Jvm.ClassFile.FieldType.object "TwoScribes$State")) ∈ GW := GW_mem 307 (by decide +kernel) (by decide +kernel)
theorem k308 : Jvm.Cond.methodLink "TwoScribes$History" (29 : Nat) ({ cls := "TwoScribes$State", name := "copyFrom", desc := "(LTwoScribes$State;)V" } : Jvm.MethodName) ∈ GW := GW_mem 308 (by decide +kernel) (by decide +kernel)
theorem k309 : Jvm.Cond.instanceMethod ({ cls := "TwoScribes$State", name := "copyFrom", desc := "(LTwoScribes$State;)V" } : Jvm.MethodName) ∈ GW := GW_mem 309 (by decide +kernel) (by decide +kernel)
theorem k310 : Jvm.Cond.selects "TwoScribes$State" ({ cls := "TwoScribes$State", name := "copyFrom", desc := "(LTwoScribes$State;)V" } : Jvm.MethodName) ({ cls := "TwoScribes$State", name := "copyFrom", desc := "(LTwoScribes$State;)V" } : Jvm.MethodName) ∈ GW := GW_mem 310 (by decide +kernel) (by decide +kernel)
theorem k311 : Jvm.Cond.code ({ cls := "TwoScribes$State", name := "copyFrom", desc := "(LTwoScribes$State;)V" } : Jvm.MethodName) prog_6_method_2_code (2 : Nat) (Option.none : Option Jvm.ClassFile.FieldType) ∈ GW := GW_mem 311 (by decide +kernel) (by decide +kernel)
theorem k312 : Jvm.Cond.methodLink "TwoScribes$State" (37 : Nat) ({ cls := "TwoScribes$Page", name := "copyFrom", desc := "(LTwoScribes$Page;)V" } : Jvm.MethodName) ∈ GW := GW_mem 312 (by decide +kernel) (by decide +kernel)
theorem k313 : Jvm.Cond.instanceMethod ({ cls := "TwoScribes$Page", name := "copyFrom", desc := "(LTwoScribes$Page;)V" } : Jvm.MethodName) ∈ GW := GW_mem 313 (by decide +kernel) (by decide +kernel)
theorem k314 : Jvm.Cond.selects "TwoScribes$Page" ({ cls := "TwoScribes$Page", name := "copyFrom", desc := "(LTwoScribes$Page;)V" } : Jvm.MethodName) ({ cls := "TwoScribes$Page", name := "copyFrom", desc := "(LTwoScribes$Page;)V" } : Jvm.MethodName) ∈ GW := GW_mem 314 (by decide +kernel) (by decide +kernel)
theorem k315 : Jvm.Cond.code ({ cls := "TwoScribes$Page", name := "copyFrom", desc := "(LTwoScribes$Page;)V" } : Jvm.MethodName) prog_3_method_2_code (2 : Nat) (Option.none : Option Jvm.ClassFile.FieldType) ∈ GW := GW_mem 315 (by decide +kernel) (by decide +kernel)
theorem k317 : Jvm.Cond.static ({ cls := "TwoScribes", name := "copyRow", desc := "([I[I)V" } : Jvm.MethodName) ∈ GW := GW_mem 317 (by decide +kernel) (by decide +kernel)
theorem k318 : Jvm.Cond.code ({ cls := "TwoScribes", name := "copyRow", desc := "([I[I)V" } : Jvm.MethodName) prog_1_method_29_code (2 : Nat) (Option.none : Option Jvm.ClassFile.FieldType) ∈ GW := GW_mem 318 (by decide +kernel) (by decide +kernel)
theorem k319 : Jvm.Cond.methodLink "TwoScribes" (249 : Nat) ({ cls := "java/lang/Math", name := "min", desc := "(II)I" } : Jvm.MethodName) ∈ GW := GW_mem 319 (by decide +kernel) (by decide +kernel)
theorem k320 : Jvm.Cond.static ({ cls := "java/lang/Math", name := "min", desc := "(II)I" } : Jvm.MethodName) ∈ GW := GW_mem 320 (by decide +kernel) (by decide +kernel)
theorem k321 : Jvm.Cond.code ({ cls := "java/lang/Math", name := "min", desc := "(II)I" } : Jvm.MethodName) prog_9_method_69_code (2 : Nat) (Option.some Jvm.ClassFile.FieldType.int) ∈ GW := GW_mem 321 (by decide +kernel) (by decide +kernel)
theorem k322 : Jvm.Cond.methodLink "TwoScribes" (255 : Nat) ({ cls := "java/lang/System", name := "arraycopy", desc := "(Ljava/lang/Object;ILjava/lang/Object;II)V" } : Jvm.MethodName) ∈ GW := GW_mem 322 (by decide +kernel) (by decide +kernel)
theorem k323 : Jvm.Cond.static ({ cls := "java/lang/System", name := "arraycopy", desc := "(Ljava/lang/Object;ILjava/lang/Object;II)V" } : Jvm.MethodName) ∈ GW := GW_mem 323 (by decide +kernel) (by decide +kernel)
theorem k324 : Jvm.Cond.native ({ cls := "java/lang/System", name := "arraycopy", desc := "(Ljava/lang/Object;ILjava/lang/Object;II)V" } : Jvm.MethodName) ∈ GW := GW_mem 324 (by decide +kernel) (by decide +kernel)
theorem k325 : Jvm.Cond.methodLink "TwoScribes$State" (41 : Nat) ({ cls := "TwoScribes$Scribe", name := "copyFrom", desc := "(LTwoScribes$Scribe;)V" } : Jvm.MethodName) ∈ GW := GW_mem 325 (by decide +kernel) (by decide +kernel)
theorem k326 : Jvm.Cond.instanceMethod ({ cls := "TwoScribes$Scribe", name := "copyFrom", desc := "(LTwoScribes$Scribe;)V" } : Jvm.MethodName) ∈ GW := GW_mem 326 (by decide +kernel) (by decide +kernel)
theorem k327 : Jvm.Cond.selects "TwoScribes$Scribe" ({ cls := "TwoScribes$Scribe", name := "copyFrom", desc := "(LTwoScribes$Scribe;)V" } : Jvm.MethodName) ({ cls := "TwoScribes$Scribe", name := "copyFrom", desc := "(LTwoScribes$Scribe;)V" } : Jvm.MethodName) ∈ GW := GW_mem 327 (by decide +kernel) (by decide +kernel)
theorem k328 : Jvm.Cond.code ({ cls := "TwoScribes$Scribe", name := "copyFrom", desc := "(LTwoScribes$Scribe;)V" } : Jvm.MethodName) prog_5_method_2_code (2 : Nat) (Option.none : Option Jvm.ClassFile.FieldType) ∈ GW := GW_mem 328 (by decide +kernel) (by decide +kernel)
theorem k330 : Jvm.Cond.methodLink "TwoScribes" (51 : Nat) ({ cls := "TwoScribes$State", name := "beginPage", desc := "(LTwoScribes$PageText;)V" } : Jvm.MethodName) ∈ GW := GW_mem 330 (by decide +kernel) (by decide +kernel)
theorem k331 : Jvm.Cond.instanceMethod ({ cls := "TwoScribes$State", name := "beginPage", desc := "(LTwoScribes$PageText;)V" } : Jvm.MethodName) ∈ GW := GW_mem 331 (by decide +kernel) (by decide +kernel)
theorem k332 : Jvm.Cond.selects "TwoScribes$State" ({ cls := "TwoScribes$State", name := "beginPage", desc := "(LTwoScribes$PageText;)V" } : Jvm.MethodName) ({ cls := "TwoScribes$State", name := "beginPage", desc := "(LTwoScribes$PageText;)V" } : Jvm.MethodName) ∈ GW := GW_mem 332 (by decide +kernel) (by decide +kernel)
theorem k333 : Jvm.Cond.code ({ cls := "TwoScribes$State", name := "beginPage", desc := "(LTwoScribes$PageText;)V" } : Jvm.MethodName) prog_6_method_4_code (2 : Nat) (Option.none : Option Jvm.ClassFile.FieldType) ∈ GW := GW_mem 333 (by decide +kernel) (by decide +kernel)
theorem k334 : Jvm.Cond.methodLink "TwoScribes$State" (67 : Nat) ({ cls := "TwoScribes$Page", name := "begin", desc := "(LTwoScribes$PageText;)V" } : Jvm.MethodName) ∈ GW := GW_mem 334 (by decide +kernel) (by decide +kernel)
theorem k335 : Jvm.Cond.instanceMethod ({ cls := "TwoScribes$Page", name := "begin", desc := "(LTwoScribes$PageText;)V" } : Jvm.MethodName) ∈ GW := GW_mem 335 (by decide +kernel) (by decide +kernel)
theorem k336 : Jvm.Cond.selects "TwoScribes$Page" ({ cls := "TwoScribes$Page", name := "begin", desc := "(LTwoScribes$PageText;)V" } : Jvm.MethodName) ({ cls := "TwoScribes$Page", name := "begin", desc := "(LTwoScribes$PageText;)V" } : Jvm.MethodName) ∈ GW := GW_mem 336 (by decide +kernel) (by decide +kernel)
theorem k337 : Jvm.Cond.code ({ cls := "TwoScribes$Page", name := "begin", desc := "(LTwoScribes$PageText;)V" } : Jvm.MethodName) prog_3_method_3_code (4 : Nat) (Option.none : Option Jvm.ClassFile.FieldType) ∈ GW := GW_mem 337 (by decide +kernel) (by decide +kernel)
theorem k340 : Jvm.Cond.static ({ cls := "TwoScribes", name := "at", desc := "([II)I" } : Jvm.MethodName) ∈ GW := GW_mem 340 (by decide +kernel) (by decide +kernel)
theorem k341 : Jvm.Cond.code ({ cls := "TwoScribes", name := "at", desc := "([II)I" } : Jvm.MethodName) prog_1_method_26_code (2 : Nat) (Option.some Jvm.ClassFile.FieldType.int) ∈ GW := GW_mem 341 (by decide +kernel) (by decide +kernel)
theorem k343 : Jvm.Cond.methodLink "TwoScribes$Page" (64 : Nat) ({ cls := "TwoScribes$Page", name := "mirrorOf", desc := "(I)I" } : Jvm.MethodName) ∈ GW := GW_mem 343 (by decide +kernel) (by decide +kernel)
theorem k344 : Jvm.Cond.instanceMethod ({ cls := "TwoScribes$Page", name := "mirrorOf", desc := "(I)I" } : Jvm.MethodName) ∈ GW := GW_mem 344 (by decide +kernel) (by decide +kernel)
theorem k345 : Jvm.Cond.selects "TwoScribes$Page" ({ cls := "TwoScribes$Page", name := "mirrorOf", desc := "(I)I" } : Jvm.MethodName) ({ cls := "TwoScribes$Page", name := "mirrorOf", desc := "(I)I" } : Jvm.MethodName) ∈ GW := GW_mem 345 (by decide +kernel) (by decide +kernel)
theorem k346 : Jvm.Cond.code ({ cls := "TwoScribes$Page", name := "mirrorOf", desc := "(I)I" } : Jvm.MethodName) prog_3_method_5_code (2 : Nat) (Option.some Jvm.ClassFile.FieldType.int) ∈ GW := GW_mem 346 (by decide +kernel) (by decide +kernel)
theorem k347 : Jvm.Cond.methodLink "TwoScribes$State" (71 : Nat) ({ cls := "TwoScribes$Scribe", name := "beginPage", desc := "()V" } : Jvm.MethodName) ∈ GW := GW_mem 347 (by decide +kernel) (by decide +kernel)
theorem k348 : Jvm.Cond.instanceMethod ({ cls := "TwoScribes$Scribe", name := "beginPage", desc := "()V" } : Jvm.MethodName) ∈ GW := GW_mem 348 (by decide +kernel) (by decide +kernel)
theorem k349 : Jvm.Cond.selects "TwoScribes$Scribe" ({ cls := "TwoScribes$Scribe", name := "beginPage", desc := "()V" } : Jvm.MethodName) ({ cls := "TwoScribes$Scribe", name := "beginPage", desc := "()V" } : Jvm.MethodName) ∈ GW := GW_mem 349 (by decide +kernel) (by decide +kernel)
theorem k350 : Jvm.Cond.code ({ cls := "TwoScribes$Scribe", name := "beginPage", desc := "()V" } : Jvm.MethodName) prog_5_method_3_code (1 : Nat) (Option.none : Option Jvm.ClassFile.FieldType) ∈ GW := GW_mem 350 (by decide +kernel) (by decide +kernel)
theorem k351 : Jvm.Cond.methodLink "TwoScribesLaw" (18 : Nat) ({ cls := "TwoScribes", name := "misread", desc := "(II)I" } : Jvm.MethodName) ∈ GW := GW_mem 351 (by decide +kernel) (by decide +kernel)
theorem k352 : Jvm.Cond.instanceMethod ({ cls := "TwoScribes", name := "misread", desc := "(II)I" } : Jvm.MethodName) ∈ GW := GW_mem 352 (by decide +kernel) (by decide +kernel)
theorem k353 : Jvm.Cond.selects "TwoScribes" ({ cls := "TwoScribes", name := "misread", desc := "(II)I" } : Jvm.MethodName) ({ cls := "TwoScribes", name := "misread", desc := "(II)I" } : Jvm.MethodName) ∈ GW := GW_mem 353 (by decide +kernel) (by decide +kernel)
theorem k354 : Jvm.Cond.code ({ cls := "TwoScribes", name := "misread", desc := "(II)I" } : Jvm.MethodName) prog_1_method_3_code (4 : Nat) (Option.some Jvm.ClassFile.FieldType.int) ∈ GW := GW_mem 354 (by decide +kernel) (by decide +kernel)
theorem k355 : Jvm.Cond.methodLink "TwoScribes" (64 : Nat) ({ cls := "TwoScribes$Page", name := "has", desc := "(I)Z" } : Jvm.MethodName) ∈ GW := GW_mem 355 (by decide +kernel) (by decide +kernel)
theorem k356 : Jvm.Cond.instanceMethod ({ cls := "TwoScribes$Page", name := "has", desc := "(I)Z" } : Jvm.MethodName) ∈ GW := GW_mem 356 (by decide +kernel) (by decide +kernel)
theorem k357 : Jvm.Cond.selects "TwoScribes$Page" ({ cls := "TwoScribes$Page", name := "has", desc := "(I)Z" } : Jvm.MethodName) ({ cls := "TwoScribes$Page", name := "has", desc := "(I)Z" } : Jvm.MethodName) ∈ GW := GW_mem 357 (by decide +kernel) (by decide +kernel)
theorem k358 : Jvm.Cond.code ({ cls := "TwoScribes$Page", name := "has", desc := "(I)Z" } : Jvm.MethodName) prog_3_method_4_code (2 : Nat) (Option.some Jvm.ClassFile.FieldType.boolean) ∈ GW := GW_mem 358 (by decide +kernel) (by decide +kernel)
theorem k359 : Jvm.Cond.methodLink "TwoScribes" (68 : Nat) ({ cls := "TwoScribes$State", name := "isBegun", desc := "(I)Z" } : Jvm.MethodName) ∈ GW := GW_mem 359 (by decide +kernel) (by decide +kernel)
theorem k360 : Jvm.Cond.instanceMethod ({ cls := "TwoScribes$State", name := "isBegun", desc := "(I)Z" } : Jvm.MethodName) ∈ GW := GW_mem 360 (by decide +kernel) (by decide +kernel)
theorem k361 : Jvm.Cond.selects "TwoScribes$State" ({ cls := "TwoScribes$State", name := "isBegun", desc := "(I)Z" } : Jvm.MethodName) ({ cls := "TwoScribes$State", name := "isBegun", desc := "(I)Z" } : Jvm.MethodName) ∈ GW := GW_mem 361 (by decide +kernel) (by decide +kernel)
theorem k362 : Jvm.Cond.code ({ cls := "TwoScribes$State", name := "isBegun", desc := "(I)Z" } : Jvm.MethodName) prog_6_method_8_code (2 : Nat) (Option.some Jvm.ClassFile.FieldType.boolean) ∈ GW := GW_mem 362 (by decide +kernel) (by decide +kernel)
theorem k363 : Jvm.Cond.methodLink "TwoScribes$State" (90 : Nat) ({ cls := "TwoScribes$Page", name := "isWritten", desc := "(I)Z" } : Jvm.MethodName) ∈ GW := GW_mem 363 (by decide +kernel) (by decide +kernel)
theorem k364 : Jvm.Cond.instanceMethod ({ cls := "TwoScribes$Page", name := "isWritten", desc := "(I)Z" } : Jvm.MethodName) ∈ GW := GW_mem 364 (by decide +kernel) (by decide +kernel)
theorem k365 : Jvm.Cond.selects "TwoScribes$Page" ({ cls := "TwoScribes$Page", name := "isWritten", desc := "(I)Z" } : Jvm.MethodName) ({ cls := "TwoScribes$Page", name := "isWritten", desc := "(I)Z" } : Jvm.MethodName) ∈ GW := GW_mem 365 (by decide +kernel) (by decide +kernel)
theorem k366 : Jvm.Cond.code ({ cls := "TwoScribes$Page", name := "isWritten", desc := "(I)Z" } : Jvm.MethodName) prog_3_method_7_code (2 : Nat) (Option.some Jvm.ClassFile.FieldType.boolean) ∈ GW := GW_mem 366 (by decide +kernel) (by decide +kernel)
theorem k367 : Jvm.Cond.methodLink "TwoScribes$State" (97 : Nat) ({ cls := "TwoScribes$State", name := "nextPlaceOf", desc := "(I)I" } : Jvm.MethodName) ∈ GW := GW_mem 367 (by decide +kernel) (by decide +kernel)
theorem k368 : Jvm.Cond.instanceMethod ({ cls := "TwoScribes$State", name := "nextPlaceOf", desc := "(I)I" } : Jvm.MethodName) ∈ GW := GW_mem 368 (by decide +kernel) (by decide +kernel)
theorem k369 : Jvm.Cond.selects "TwoScribes$State" ({ cls := "TwoScribes$State", name := "nextPlaceOf", desc := "(I)I" } : Jvm.MethodName) ({ cls := "TwoScribes$State", name := "nextPlaceOf", desc := "(I)I" } : Jvm.MethodName) ∈ GW := GW_mem 369 (by decide +kernel) (by decide +kernel)
theorem k370 : Jvm.Cond.code ({ cls := "TwoScribes$State", name := "nextPlaceOf", desc := "(I)I" } : Jvm.MethodName) prog_6_method_7_code (3 : Nat) (Option.some Jvm.ClassFile.FieldType.int) ∈ GW := GW_mem 370 (by decide +kernel) (by decide +kernel)
theorem k371 : Jvm.Cond.methodLink "TwoScribes$State" (82 : Nat) ({ cls := "TwoScribes$State", name := "scribeOf", desc := "(I)LTwoScribes$Scribe;" } : Jvm.MethodName) ∈ GW := GW_mem 371 (by decide +kernel) (by decide +kernel)
theorem k372 : Jvm.Cond.instanceMethod ({ cls := "TwoScribes$State", name := "scribeOf", desc := "(I)LTwoScribes$Scribe;" } : Jvm.MethodName) ∈ GW := GW_mem 372 (by decide +kernel) (by decide +kernel)
theorem k373 : Jvm.Cond.selects "TwoScribes$State" ({ cls := "TwoScribes$State", name := "scribeOf", desc := "(I)LTwoScribes$Scribe;" } : Jvm.MethodName) ({ cls := "TwoScribes$State", name := "scribeOf", desc := "(I)LTwoScribes$Scribe;" } : Jvm.MethodName) ∈ GW := GW_mem 373 (by decide +kernel) (by decide +kernel)
theorem k374 : Jvm.Cond.code ({ cls := "TwoScribes$State", name := "scribeOf", desc := "(I)LTwoScribes$Scribe;" } : Jvm.MethodName) prog_6_method_3_code (2 : Nat) (Option.some (Jvm.ClassFile.FieldType.object "TwoScribes$Scribe")) ∈ GW := GW_mem 374 (by decide +kernel) (by decide +kernel)
theorem k375 : Jvm.Cond.methodLink "TwoScribes$State" (86 : Nat) ({ cls := "TwoScribes$Page", name := "mirrorOf", desc := "(I)I" } : Jvm.MethodName) ∈ GW := GW_mem 375 (by decide +kernel) (by decide +kernel)
theorem k376 : Jvm.Cond.methodLink "TwoScribes" (75 : Nat) ({ cls := "TwoScribes", name := "at", desc := "([II)I" } : Jvm.MethodName) ∈ GW := GW_mem 376 (by decide +kernel) (by decide +kernel)
theorem k377 : Jvm.Cond.methodLink "TwoScribes" (79 : Nat) ({ cls := "TwoScribes$Page", name := "letterFor", desc := "(I)I" } : Jvm.MethodName) ∈ GW := GW_mem 377 (by decide +kernel) (by decide +kernel)
theorem k378 : Jvm.Cond.instanceMethod ({ cls := "TwoScribes$Page", name := "letterFor", desc := "(I)I" } : Jvm.MethodName) ∈ GW := GW_mem 378 (by decide +kernel) (by decide +kernel)
theorem k379 : Jvm.Cond.selects "TwoScribes$Page" ({ cls := "TwoScribes$Page", name := "letterFor", desc := "(I)I" } : Jvm.MethodName) ({ cls := "TwoScribes$Page", name := "letterFor", desc := "(I)I" } : Jvm.MethodName) ∈ GW := GW_mem 379 (by decide +kernel) (by decide +kernel)
theorem k380 : Jvm.Cond.code ({ cls := "TwoScribes$Page", name := "letterFor", desc := "(I)I" } : Jvm.MethodName) prog_3_method_6_code (3 : Nat) (Option.some Jvm.ClassFile.FieldType.int) ∈ GW := GW_mem 380 (by decide +kernel) (by decide +kernel)
theorem k381 : Jvm.Cond.methodLink "TwoScribes" (83 : Nat) ({ cls := "TwoScribes", name := "put", desc := "([III)V" } : Jvm.MethodName) ∈ GW := GW_mem 381 (by decide +kernel) (by decide +kernel)
theorem k382 : Jvm.Cond.methodLink "TwoScribesLaw" (23 : Nat) ({ cls := "TwoScribes", name := "correct", desc := "(I)I" } : Jvm.MethodName) ∈ GW := GW_mem 382 (by decide +kernel) (by decide +kernel)
theorem k383 : Jvm.Cond.instanceMethod ({ cls := "TwoScribes", name := "correct", desc := "(I)I" } : Jvm.MethodName) ∈ GW := GW_mem 383 (by decide +kernel) (by decide +kernel)
theorem k384 : Jvm.Cond.selects "TwoScribes" ({ cls := "TwoScribes", name := "correct", desc := "(I)I" } : Jvm.MethodName) ({ cls := "TwoScribes", name := "correct", desc := "(I)I" } : Jvm.MethodName) ∈ GW := GW_mem 384 (by decide +kernel) (by decide +kernel)
theorem k385 : Jvm.Cond.code ({ cls := "TwoScribes", name := "correct", desc := "(I)I" } : Jvm.MethodName) prog_1_method_4_code (2 : Nat) (Option.some Jvm.ClassFile.FieldType.int) ∈ GW := GW_mem 385 (by decide +kernel) (by decide +kernel)
theorem k386 : Jvm.Cond.methodLink "TwoScribes" (87 : Nat) ({ cls := "TwoScribes$State", name := "canCorrect", desc := "(I)Z" } : Jvm.MethodName) ∈ GW := GW_mem 386 (by decide +kernel) (by decide +kernel)
theorem k387 : Jvm.Cond.instanceMethod ({ cls := "TwoScribes$State", name := "canCorrect", desc := "(I)Z" } : Jvm.MethodName) ∈ GW := GW_mem 387 (by decide +kernel) (by decide +kernel)
theorem k388 : Jvm.Cond.selects "TwoScribes$State" ({ cls := "TwoScribes$State", name := "canCorrect", desc := "(I)Z" } : Jvm.MethodName) ({ cls := "TwoScribes$State", name := "canCorrect", desc := "(I)Z" } : Jvm.MethodName) ∈ GW := GW_mem 388 (by decide +kernel) (by decide +kernel)
theorem k389 : Jvm.Cond.code ({ cls := "TwoScribes$State", name := "canCorrect", desc := "(I)Z" } : Jvm.MethodName) prog_6_method_10_code (2 : Nat) (Option.some Jvm.ClassFile.FieldType.boolean) ∈ GW := GW_mem 389 (by decide +kernel) (by decide +kernel)
theorem k390 : Jvm.Cond.methodLink "TwoScribes$State" (113 : Nat) ({ cls := "TwoScribes$State", name := "correctionsLeft", desc := "()I" } : Jvm.MethodName) ∈ GW := GW_mem 390 (by decide +kernel) (by decide +kernel)
theorem k391 : Jvm.Cond.instanceMethod ({ cls := "TwoScribes$State", name := "correctionsLeft", desc := "()I" } : Jvm.MethodName) ∈ GW := GW_mem 391 (by decide +kernel) (by decide +kernel)
theorem k392 : Jvm.Cond.selects "TwoScribes$State" ({ cls := "TwoScribes$State", name := "correctionsLeft", desc := "()I" } : Jvm.MethodName) ({ cls := "TwoScribes$State", name := "correctionsLeft", desc := "()I" } : Jvm.MethodName) ∈ GW := GW_mem 392 (by decide +kernel) (by decide +kernel)
theorem k393 : Jvm.Cond.code ({ cls := "TwoScribes$State", name := "correctionsLeft", desc := "()I" } : Jvm.MethodName) prog_6_method_9_code (1 : Nat) (Option.some Jvm.ClassFile.FieldType.int) ∈ GW := GW_mem 393 (by decide +kernel) (by decide +kernel)
theorem k395 : Jvm.Cond.methodLink "TwoScribes$State" (107 : Nat) ({ cls := "java/lang/Math", name := "max", desc := "(II)I" } : Jvm.MethodName) ∈ GW := GW_mem 395 (by decide +kernel) (by decide +kernel)
theorem k397 : Jvm.Cond.static ({ cls := "TwoScribes", name := "inkFor", desc := "(I)F" } : Jvm.MethodName) ∈ GW := GW_mem 397 (by decide +kernel) (by decide +kernel)
theorem k398 : Jvm.Cond.code ({ cls := "TwoScribes", name := "inkFor", desc := "(I)F" } : Jvm.MethodName) prog_1_method_25_code (1 : Nat) (Option.some Jvm.ClassFile.FieldType.float) ∈ GW := GW_mem 398 (by decide +kernel) (by decide +kernel)
theorem k399 : Jvm.Cond.constantFloat "TwoScribes" (248 : Nat) (1115684864 : UInt32) ∈ GW := GW_mem 399 (by decide +kernel) (by decide +kernel)
theorem k400 : Jvm.Cond.methodLink "TwoScribes" (90 : Nat) ({ cls := "TwoScribes$Page", name := "isFaultless", desc := "(I)Z" } : Jvm.MethodName) ∈ GW := GW_mem 400 (by decide +kernel) (by decide +kernel)
theorem k401 : Jvm.Cond.instanceMethod ({ cls := "TwoScribes$Page", name := "isFaultless", desc := "(I)Z" } : Jvm.MethodName) ∈ GW := GW_mem 401 (by decide +kernel) (by decide +kernel)
theorem k402 : Jvm.Cond.selects "TwoScribes$Page" ({ cls := "TwoScribes$Page", name := "isFaultless", desc := "(I)Z" } : Jvm.MethodName) ({ cls := "TwoScribes$Page", name := "isFaultless", desc := "(I)Z" } : Jvm.MethodName) ∈ GW := GW_mem 402 (by decide +kernel) (by decide +kernel)
theorem k403 : Jvm.Cond.code ({ cls := "TwoScribes$Page", name := "isFaultless", desc := "(I)Z" } : Jvm.MethodName) prog_3_method_8_code (2 : Nat) (Option.some Jvm.ClassFile.FieldType.boolean) ∈ GW := GW_mem 403 (by decide +kernel) (by decide +kernel)
theorem k404 : Jvm.Cond.methodLink "TwoScribes" (93 : Nat) ({ cls := "TwoScribes$State", name := "makeCorrection", desc := "(I)V" } : Jvm.MethodName) ∈ GW := GW_mem 404 (by decide +kernel) (by decide +kernel)
theorem k405 : Jvm.Cond.instanceMethod ({ cls := "TwoScribes$State", name := "makeCorrection", desc := "(I)V" } : Jvm.MethodName) ∈ GW := GW_mem 405 (by decide +kernel) (by decide +kernel)
theorem k406 : Jvm.Cond.selects "TwoScribes$State" ({ cls := "TwoScribes$State", name := "makeCorrection", desc := "(I)V" } : Jvm.MethodName) ({ cls := "TwoScribes$State", name := "makeCorrection", desc := "(I)V" } : Jvm.MethodName) ∈ GW := GW_mem 406 (by decide +kernel) (by decide +kernel)
theorem k407 : Jvm.Cond.code ({ cls := "TwoScribes$State", name := "makeCorrection", desc := "(I)V" } : Jvm.MethodName) prog_6_method_11_code (3 : Nat) (Option.none : Option Jvm.ClassFile.FieldType) ∈ GW := GW_mem 407 (by decide +kernel) (by decide +kernel)
theorem k408 : Jvm.Cond.methodLink "TwoScribes$State" (123 : Nat) ({ cls := "TwoScribes$Page", name := "amend", desc := "(I)V" } : Jvm.MethodName) ∈ GW := GW_mem 408 (by decide +kernel) (by decide +kernel)
theorem k409 : Jvm.Cond.instanceMethod ({ cls := "TwoScribes$Page", name := "amend", desc := "(I)V" } : Jvm.MethodName) ∈ GW := GW_mem 409 (by decide +kernel) (by decide +kernel)
theorem k410 : Jvm.Cond.selects "TwoScribes$Page" ({ cls := "TwoScribes$Page", name := "amend", desc := "(I)V" } : Jvm.MethodName) ({ cls := "TwoScribes$Page", name := "amend", desc := "(I)V" } : Jvm.MethodName) ∈ GW := GW_mem 410 (by decide +kernel) (by decide +kernel)
theorem k411 : Jvm.Cond.code ({ cls := "TwoScribes$Page", name := "amend", desc := "(I)V" } : Jvm.MethodName) prog_3_method_11_code (2 : Nat) (Option.none : Option Jvm.ClassFile.FieldType) ∈ GW := GW_mem 411 (by decide +kernel) (by decide +kernel)
theorem k412 : Jvm.Cond.methodLink "TwoScribes" (97 : Nat) ({ cls := "TwoScribes$State", name := "correctionsLeft", desc := "()I" } : Jvm.MethodName) ∈ GW := GW_mem 412 (by decide +kernel) (by decide +kernel)
theorem k413 : Jvm.Cond.methodLink "TwoScribesLaw" (28 : Nat) ({ cls := "TwoScribes", name := "setPace", desc := "(II)I" } : Jvm.MethodName) ∈ GW := GW_mem 413 (by decide +kernel) (by decide +kernel)
theorem k414 : Jvm.Cond.instanceMethod ({ cls := "TwoScribes", name := "setPace", desc := "(II)I" } : Jvm.MethodName) ∈ GW := GW_mem 414 (by decide +kernel) (by decide +kernel)
theorem k415 : Jvm.Cond.selects "TwoScribes" ({ cls := "TwoScribes", name := "setPace", desc := "(II)I" } : Jvm.MethodName) ({ cls := "TwoScribes", name := "setPace", desc := "(II)I" } : Jvm.MethodName) ∈ GW := GW_mem 415 (by decide +kernel) (by decide +kernel)
theorem k416 : Jvm.Cond.code ({ cls := "TwoScribes", name := "setPace", desc := "(II)I" } : Jvm.MethodName) prog_1_method_5_code (4 : Nat) (Option.some Jvm.ClassFile.FieldType.int) ∈ GW := GW_mem 416 (by decide +kernel) (by decide +kernel)
theorem k417 : Jvm.Cond.methodLink "TwoScribes" (100 : Nat) ({ cls := "TwoScribes", name := "isScribe", desc := "(I)Z" } : Jvm.MethodName) ∈ GW := GW_mem 417 (by decide +kernel) (by decide +kernel)
theorem k418 : Jvm.Cond.static ({ cls := "TwoScribes", name := "isScribe", desc := "(I)Z" } : Jvm.MethodName) ∈ GW := GW_mem 418 (by decide +kernel) (by decide +kernel)
theorem k419 : Jvm.Cond.code ({ cls := "TwoScribes", name := "isScribe", desc := "(I)Z" } : Jvm.MethodName) prog_1_method_24_code (1 : Nat) (Option.some Jvm.ClassFile.FieldType.boolean) ∈ GW := GW_mem 419 (by decide +kernel) (by decide +kernel)
theorem k420 : Jvm.Cond.methodLink "TwoScribes" (103 : Nat) ({ cls := "TwoScribes$State", name := "scribeOf", desc := "(I)LTwoScribes$Scribe;" } : Jvm.MethodName) ∈ GW := GW_mem 420 (by decide +kernel) (by decide +kernel)
theorem k421 : Jvm.Cond.methodLink "TwoScribesLaw" (32 : Nat) ({ cls := "TwoScribes", name := "pour", desc := "(I)I" } : Jvm.MethodName) ∈ GW := GW_mem 421 (by decide +kernel) (by decide +kernel)
theorem k422 : Jvm.Cond.instanceMethod ({ cls := "TwoScribes", name := "pour", desc := "(I)I" } : Jvm.MethodName) ∈ GW := GW_mem 422 (by decide +kernel) (by decide +kernel)
theorem k423 : Jvm.Cond.selects "TwoScribes" ({ cls := "TwoScribes", name := "pour", desc := "(I)I" } : Jvm.MethodName) ({ cls := "TwoScribes", name := "pour", desc := "(I)I" } : Jvm.MethodName) ∈ GW := GW_mem 423 (by decide +kernel) (by decide +kernel)
theorem k424 : Jvm.Cond.code ({ cls := "TwoScribes", name := "pour", desc := "(I)I" } : Jvm.MethodName) prog_1_method_6_code (2 : Nat) (Option.some Jvm.ClassFile.FieldType.int) ∈ GW := GW_mem 424 (by decide +kernel) (by decide +kernel)
theorem k425 : Jvm.Cond.constantFloat "TwoScribes" (119 : Nat) (1090519040 : UInt32) ∈ GW := GW_mem 425 (by decide +kernel) (by decide +kernel)
theorem k426 : Jvm.Cond.methodLink "TwoScribesLaw" (36 : Nat) ({ cls := "TwoScribes", name := "set", desc := "(II)I" } : Jvm.MethodName) ∈ GW := GW_mem 426 (by decide +kernel) (by decide +kernel)
theorem k427 : Jvm.Cond.instanceMethod ({ cls := "TwoScribes", name := "set", desc := "(II)I" } : Jvm.MethodName) ∈ GW := GW_mem 427 (by decide +kernel) (by decide +kernel)
theorem k428 : Jvm.Cond.selects "TwoScribes" ({ cls := "TwoScribes", name := "set", desc := "(II)I" } : Jvm.MethodName) ({ cls := "TwoScribes", name := "set", desc := "(II)I" } : Jvm.MethodName) ∈ GW := GW_mem 428 (by decide +kernel) (by decide +kernel)
theorem k429 : Jvm.Cond.code ({ cls := "TwoScribes", name := "set", desc := "(II)I" } : Jvm.MethodName) prog_1_method_7_code (4 : Nat) (Option.some Jvm.ClassFile.FieldType.int) ∈ GW := GW_mem 429 (by decide +kernel) (by decide +kernel)
theorem k430 : Jvm.Cond.fieldLink "TwoScribes" (120 : Nat) "TwoScribes" "LEAST_SETTINGS" "[I" ∈ GW := GW_mem 430 (by decide +kernel) (by decide +kernel)
theorem k432 : Jvm.Cond.fieldLink "TwoScribes" (123 : Nat) "TwoScribes" "GREATEST_SETTINGS" "[I" ∈ GW := GW_mem 432 (by decide +kernel) (by decide +kernel)
theorem k434 : Jvm.Cond.methodLink "TwoScribesLaw" (40 : Nat) ({ cls := "TwoScribes", name := "pass", desc := "(I)I" } : Jvm.MethodName) ∈ GW := GW_mem 434 (by decide +kernel) (by decide +kernel)
theorem k435 : Jvm.Cond.instanceMethod ({ cls := "TwoScribes", name := "pass", desc := "(I)I" } : Jvm.MethodName) ∈ GW := GW_mem 435 (by decide +kernel) (by decide +kernel)
theorem k436 : Jvm.Cond.selects "TwoScribes" ({ cls := "TwoScribes", name := "pass", desc := "(I)I" } : Jvm.MethodName) ({ cls := "TwoScribes", name := "pass", desc := "(I)I" } : Jvm.MethodName) ∈ GW := GW_mem 436 (by decide +kernel) (by decide +kernel)
theorem k437 : Jvm.Cond.code ({ cls := "TwoScribes", name := "pass", desc := "(I)I" } : Jvm.MethodName) prog_1_method_8_code (4 : Nat) (Option.some Jvm.ClassFile.FieldType.int) ∈ GW := GW_mem 437 (by decide +kernel) (by decide +kernel)
theorem k438 : Jvm.Cond.constant "TwoScribes" (132 : Nat) (99999 : Int32) ∈ GW := GW_mem 438 (by decide +kernel) (by decide +kernel)
theorem k439 : Jvm.Cond.methodLink "TwoScribes" (136 : Nat) ({ cls := "TwoScribes$State", name := "passTick", desc := "()Z" } : Jvm.MethodName) ∈ GW := GW_mem 439 (by decide +kernel) (by decide +kernel)
theorem k440 : Jvm.Cond.instanceMethod ({ cls := "TwoScribes$State", name := "passTick", desc := "()Z" } : Jvm.MethodName) ∈ GW := GW_mem 440 (by decide +kernel) (by decide +kernel)
theorem k441 : Jvm.Cond.selects "TwoScribes$State" ({ cls := "TwoScribes$State", name := "passTick", desc := "()Z" } : Jvm.MethodName) ({ cls := "TwoScribes$State", name := "passTick", desc := "()Z" } : Jvm.MethodName) ∈ GW := GW_mem 441 (by decide +kernel) (by decide +kernel)
theorem k442 : Jvm.Cond.code ({ cls := "TwoScribes$State", name := "passTick", desc := "()Z" } : Jvm.MethodName) prog_6_method_16_code (3 : Nat) (Option.some Jvm.ClassFile.FieldType.boolean) ∈ GW := GW_mem 442 (by decide +kernel) (by decide +kernel)
theorem k443 : Jvm.Cond.methodLink "TwoScribes$State" (159 : Nat) ({ cls := "TwoScribes$State", name := "takeTurn", desc := "(I)I" } : Jvm.MethodName) ∈ GW := GW_mem 443 (by decide +kernel) (by decide +kernel)
theorem k444 : Jvm.Cond.instanceMethod ({ cls := "TwoScribes$State", name := "takeTurn", desc := "(I)I" } : Jvm.MethodName) ∈ GW := GW_mem 444 (by decide +kernel) (by decide +kernel)
theorem k445 : Jvm.Cond.selects "TwoScribes$State" ({ cls := "TwoScribes$State", name := "takeTurn", desc := "(I)I" } : Jvm.MethodName) ({ cls := "TwoScribes$State", name := "takeTurn", desc := "(I)I" } : Jvm.MethodName) ∈ GW := GW_mem 445 (by decide +kernel) (by decide +kernel)
theorem k446 : Jvm.Cond.code ({ cls := "TwoScribes$State", name := "takeTurn", desc := "(I)I" } : Jvm.MethodName) prog_6_method_13_code (4 : Nat) (Option.some Jvm.ClassFile.FieldType.int) ∈ GW := GW_mem 446 (by decide +kernel) (by decide +kernel)
theorem k447 : Jvm.Cond.methodLink "TwoScribes$State" (136 : Nat) ({ cls := "TwoScribes$State", name := "deedOf", desc := "(I)I" } : Jvm.MethodName) ∈ GW := GW_mem 447 (by decide +kernel) (by decide +kernel)
theorem k448 : Jvm.Cond.instanceMethod ({ cls := "TwoScribes$State", name := "deedOf", desc := "(I)I" } : Jvm.MethodName) ∈ GW := GW_mem 448 (by decide +kernel) (by decide +kernel)
theorem k449 : Jvm.Cond.selects "TwoScribes$State" ({ cls := "TwoScribes$State", name := "deedOf", desc := "(I)I" } : Jvm.MethodName) ({ cls := "TwoScribes$State", name := "deedOf", desc := "(I)I" } : Jvm.MethodName) ∈ GW := GW_mem 449 (by decide +kernel) (by decide +kernel)
theorem k450 : Jvm.Cond.code ({ cls := "TwoScribes$State", name := "deedOf", desc := "(I)I" } : Jvm.MethodName) prog_6_method_12_code (4 : Nat) (Option.some Jvm.ClassFile.FieldType.int) ∈ GW := GW_mem 450 (by decide +kernel) (by decide +kernel)
theorem k451 : Jvm.Cond.methodLink "TwoScribes$State" (133 : Nat) ({ cls := "TwoScribes$Page", name := "letterFor", desc := "(I)I" } : Jvm.MethodName) ∈ GW := GW_mem 451 (by decide +kernel) (by decide +kernel)
theorem k452 : Jvm.Cond.methodLink "TwoScribes$State" (139 : Nat) ({ cls := "TwoScribes$State", name := "spendTick", desc := "(I)V" } : Jvm.MethodName) ∈ GW := GW_mem 452 (by decide +kernel) (by decide +kernel)
theorem k454 : Jvm.Cond.instanceMethod ({ cls := "TwoScribes$State", name := "spendTick", desc := "(I)V" } : Jvm.MethodName) ∈ GW := GW_mem 454 (by decide +kernel) (by decide +kernel)
theorem k455 : Jvm.Cond.code ({ cls := "TwoScribes$State", name := "spendTick", desc := "(I)V" } : Jvm.MethodName) prog_6_method_15_code (7 : Nat) (Option.none : Option Jvm.ClassFile.FieldType) ∈ GW := GW_mem 455 (by decide +kernel) (by decide +kernel)
theorem k456 : Jvm.Cond.constantFloat "TwoScribes$State" (154 : Nat) (1090519040 : UInt32) ∈ GW := GW_mem 456 (by decide +kernel) (by decide +kernel)
theorem k457 : Jvm.Cond.methodLink "TwoScribes$State" (155 : Nat) ({ cls := "TwoScribes$Page", name := "write", desc := "(IIZI)V" } : Jvm.MethodName) ∈ GW := GW_mem 457 (by decide +kernel) (by decide +kernel)
theorem k458 : Jvm.Cond.instanceMethod ({ cls := "TwoScribes$Page", name := "write", desc := "(IIZI)V" } : Jvm.MethodName) ∈ GW := GW_mem 458 (by decide +kernel) (by decide +kernel)
theorem k459 : Jvm.Cond.selects "TwoScribes$Page" ({ cls := "TwoScribes$Page", name := "write", desc := "(IIZI)V" } : Jvm.MethodName) ({ cls := "TwoScribes$Page", name := "write", desc := "(IIZI)V" } : Jvm.MethodName) ∈ GW := GW_mem 459 (by decide +kernel) (by decide +kernel)
theorem k460 : Jvm.Cond.code ({ cls := "TwoScribes$Page", name := "write", desc := "(IIZI)V" } : Jvm.MethodName) prog_3_method_10_code (5 : Nat) (Option.none : Option Jvm.ClassFile.FieldType) ∈ GW := GW_mem 460 (by decide +kernel) (by decide +kernel)
theorem k461 : Jvm.Cond.methodLink "TwoScribes$State" (142 : Nat) ({ cls := "TwoScribes$State", name := "goOnDipping", desc := "(LTwoScribes$Scribe;)V" } : Jvm.MethodName) ∈ GW := GW_mem 461 (by decide +kernel) (by decide +kernel)
theorem k463 : Jvm.Cond.instanceMethod ({ cls := "TwoScribes$State", name := "goOnDipping", desc := "(LTwoScribes$Scribe;)V" } : Jvm.MethodName) ∈ GW := GW_mem 463 (by decide +kernel) (by decide +kernel)
theorem k464 : Jvm.Cond.code ({ cls := "TwoScribes$State", name := "goOnDipping", desc := "(LTwoScribes$Scribe;)V" } : Jvm.MethodName) prog_6_method_14_code (4 : Nat) (Option.none : Option Jvm.ClassFile.FieldType) ∈ GW := GW_mem 464 (by decide +kernel) (by decide +kernel)
theorem k465 : Jvm.Cond.methodLink "TwoScribesLaw" (44 : Nat) ({ cls := "TwoScribes", name := "type", desc := "(C)I" } : Jvm.MethodName) ∈ GW := GW_mem 465 (by decide +kernel) (by decide +kernel)
theorem k466 : Jvm.Cond.instanceMethod ({ cls := "TwoScribes", name := "type", desc := "(C)I" } : Jvm.MethodName) ∈ GW := GW_mem 466 (by decide +kernel) (by decide +kernel)
theorem k467 : Jvm.Cond.selects "TwoScribes" ({ cls := "TwoScribes", name := "type", desc := "(C)I" } : Jvm.MethodName) ({ cls := "TwoScribes", name := "type", desc := "(C)I" } : Jvm.MethodName) ∈ GW := GW_mem 467 (by decide +kernel) (by decide +kernel)
theorem k468 : Jvm.Cond.code ({ cls := "TwoScribes", name := "type", desc := "(C)I" } : Jvm.MethodName) prog_1_method_9_code (2 : Nat) (Option.some Jvm.ClassFile.FieldType.int) ∈ GW := GW_mem 468 (by decide +kernel) (by decide +kernel)
theorem k469 : Jvm.Cond.methodLink "TwoScribes" (140 : Nat) ({ cls := "TwoScribes$PageText", name := "append", desc := "(C)Z" } : Jvm.MethodName) ∈ GW := GW_mem 469 (by decide +kernel) (by decide +kernel)
theorem k470 : Jvm.Cond.instanceMethod ({ cls := "TwoScribes$PageText", name := "append", desc := "(C)Z" } : Jvm.MethodName) ∈ GW := GW_mem 470 (by decide +kernel) (by decide +kernel)
theorem k471 : Jvm.Cond.selects "TwoScribes$PageText" ({ cls := "TwoScribes$PageText", name := "append", desc := "(C)Z" } : Jvm.MethodName) ({ cls := "TwoScribes$PageText", name := "append", desc := "(C)Z" } : Jvm.MethodName) ∈ GW := GW_mem 471 (by decide +kernel) (by decide +kernel)
theorem k472 : Jvm.Cond.code ({ cls := "TwoScribes$PageText", name := "append", desc := "(C)Z" } : Jvm.MethodName) prog_4_method_2_code (2 : Nat) (Option.some Jvm.ClassFile.FieldType.boolean) ∈ GW := GW_mem 472 (by decide +kernel) (by decide +kernel)
theorem k473 : Jvm.Cond.methodLink "TwoScribesLaw" (49 : Nat) ({ cls := "TwoScribes", name := "clearText", desc := "()I" } : Jvm.MethodName) ∈ GW := GW_mem 473 (by decide +kernel) (by decide +kernel)
theorem k474 : Jvm.Cond.instanceMethod ({ cls := "TwoScribes", name := "clearText", desc := "()I" } : Jvm.MethodName) ∈ GW := GW_mem 474 (by decide +kernel) (by decide +kernel)
theorem k475 : Jvm.Cond.selects "TwoScribes" ({ cls := "TwoScribes", name := "clearText", desc := "()I" } : Jvm.MethodName) ({ cls := "TwoScribes", name := "clearText", desc := "()I" } : Jvm.MethodName) ∈ GW := GW_mem 475 (by decide +kernel) (by decide +kernel)
theorem k476 : Jvm.Cond.code ({ cls := "TwoScribes", name := "clearText", desc := "()I" } : Jvm.MethodName) prog_1_method_10_code (2 : Nat) (Option.some Jvm.ClassFile.FieldType.int) ∈ GW := GW_mem 476 (by decide +kernel) (by decide +kernel)
theorem k477 : Jvm.Cond.methodLink "TwoScribesLaw" (53 : Nat) ({ cls := "TwoScribes", name := "undo", desc := "()I" } : Jvm.MethodName) ∈ GW := GW_mem 477 (by decide +kernel) (by decide +kernel)
theorem k478 : Jvm.Cond.instanceMethod ({ cls := "TwoScribes", name := "undo", desc := "()I" } : Jvm.MethodName) ∈ GW := GW_mem 478 (by decide +kernel) (by decide +kernel)
theorem k479 : Jvm.Cond.selects "TwoScribes" ({ cls := "TwoScribes", name := "undo", desc := "()I" } : Jvm.MethodName) ({ cls := "TwoScribes", name := "undo", desc := "()I" } : Jvm.MethodName) ∈ GW := GW_mem 479 (by decide +kernel) (by decide +kernel)
theorem k480 : Jvm.Cond.code ({ cls := "TwoScribes", name := "undo", desc := "()I" } : Jvm.MethodName) prog_1_method_11_code (1 : Nat) (Option.some Jvm.ClassFile.FieldType.int) ∈ GW := GW_mem 480 (by decide +kernel) (by decide +kernel)
theorem k481 : Jvm.Cond.methodLink "TwoScribes" (147 : Nat) ({ cls := "TwoScribes$History", name := "takeBack", desc := "(LTwoScribes$State;)Z" } : Jvm.MethodName) ∈ GW := GW_mem 481 (by decide +kernel) (by decide +kernel)
theorem k482 : Jvm.Cond.instanceMethod ({ cls := "TwoScribes$History", name := "takeBack", desc := "(LTwoScribes$State;)Z" } : Jvm.MethodName) ∈ GW := GW_mem 482 (by decide +kernel) (by decide +kernel)
theorem k483 : Jvm.Cond.selects "TwoScribes$History" ({ cls := "TwoScribes$History", name := "takeBack", desc := "(LTwoScribes$State;)Z" } : Jvm.MethodName) ({ cls := "TwoScribes$History", name := "takeBack", desc := "(LTwoScribes$State;)Z" } : Jvm.MethodName) ∈ GW := GW_mem 483 (by decide +kernel) (by decide +kernel)
theorem k484 : Jvm.Cond.code ({ cls := "TwoScribes$History", name := "takeBack", desc := "(LTwoScribes$State;)Z" } : Jvm.MethodName) prog_2_method_3_code (3 : Nat) (Option.some Jvm.ClassFile.FieldType.boolean) ∈ GW := GW_mem 484 (by decide +kernel) (by decide +kernel)
theorem k485 : Jvm.Cond.methodLink "TwoScribesLaw" (57 : Nat) ({ cls := "TwoScribes", name := "keep", desc := "()I" } : Jvm.MethodName) ∈ GW := GW_mem 485 (by decide +kernel) (by decide +kernel)
theorem k486 : Jvm.Cond.instanceMethod ({ cls := "TwoScribes", name := "keep", desc := "()I" } : Jvm.MethodName) ∈ GW := GW_mem 486 (by decide +kernel) (by decide +kernel)
theorem k487 : Jvm.Cond.selects "TwoScribes" ({ cls := "TwoScribes", name := "keep", desc := "()I" } : Jvm.MethodName) ({ cls := "TwoScribes", name := "keep", desc := "()I" } : Jvm.MethodName) ∈ GW := GW_mem 487 (by decide +kernel) (by decide +kernel)
theorem k488 : Jvm.Cond.code ({ cls := "TwoScribes", name := "keep", desc := "()I" } : Jvm.MethodName) prog_1_method_12_code (1 : Nat) (Option.some Jvm.ClassFile.FieldType.int) ∈ GW := GW_mem 488 (by decide +kernel) (by decide +kernel)
theorem k489 : Jvm.Cond.methodLink "TwoScribes" (154 : Nat) ({ cls := "TwoScribes$State", name := "copyFrom", desc := "(LTwoScribes$State;)V" } : Jvm.MethodName) ∈ GW := GW_mem 489 (by decide +kernel) (by decide +kernel)
theorem k490 : Jvm.Cond.methodLink "TwoScribesLaw" (61 : Nat) ({ cls := "TwoScribes", name := "restore", desc := "()I" } : Jvm.MethodName) ∈ GW := GW_mem 490 (by decide +kernel) (by decide +kernel)
theorem k491 : Jvm.Cond.instanceMethod ({ cls := "TwoScribes", name := "restore", desc := "()I" } : Jvm.MethodName) ∈ GW := GW_mem 491 (by decide +kernel) (by decide +kernel)
theorem k492 : Jvm.Cond.selects "TwoScribes" ({ cls := "TwoScribes", name := "restore", desc := "()I" } : Jvm.MethodName) ({ cls := "TwoScribes", name := "restore", desc := "()I" } : Jvm.MethodName) ∈ GW := GW_mem 492 (by decide +kernel) (by decide +kernel)
theorem k493 : Jvm.Cond.code ({ cls := "TwoScribes", name := "restore", desc := "()I" } : Jvm.MethodName) prog_1_method_13_code (1 : Nat) (Option.some Jvm.ClassFile.FieldType.int) ∈ GW := GW_mem 493 (by decide +kernel) (by decide +kernel)
theorem k494 : Jvm.Cond.methodLink "TwoScribesLaw" (65 : Nat) ({ cls := "TwoScribes", name := "place", desc := "(II)I" } : Jvm.MethodName) ∈ GW := GW_mem 494 (by decide +kernel) (by decide +kernel)
theorem k495 : Jvm.Cond.instanceMethod ({ cls := "TwoScribes", name := "place", desc := "(II)I" } : Jvm.MethodName) ∈ GW := GW_mem 495 (by decide +kernel) (by decide +kernel)
theorem k496 : Jvm.Cond.selects "TwoScribes" ({ cls := "TwoScribes", name := "place", desc := "(II)I" } : Jvm.MethodName) ({ cls := "TwoScribes", name := "place", desc := "(II)I" } : Jvm.MethodName) ∈ GW := GW_mem 496 (by decide +kernel) (by decide +kernel)
theorem k497 : Jvm.Cond.code ({ cls := "TwoScribes", name := "place", desc := "(II)I" } : Jvm.MethodName) prog_1_method_14_code (4 : Nat) (Option.some Jvm.ClassFile.FieldType.int) ∈ GW := GW_mem 497 (by decide +kernel) (by decide +kernel)
theorem k498 : Jvm.Cond.methodLink "TwoScribes" (173 : Nat) ({ cls := "TwoScribes$Page", name := "mirrorOf", desc := "(I)I" } : Jvm.MethodName) ∈ GW := GW_mem 498 (by decide +kernel) (by decide +kernel)
theorem k499 : Jvm.Cond.methodLink "TwoScribes" (176 : Nat) ({ cls := "TwoScribes$Page", name := "isWritten", desc := "(I)Z" } : Jvm.MethodName) ∈ GW := GW_mem 499 (by decide +kernel) (by decide +kernel)
theorem k500 : Jvm.Cond.methodLink "TwoScribesLaw" (69 : Nat) ({ cls := "TwoScribes", name := "scribe", desc := "(II)I" } : Jvm.MethodName) ∈ GW := GW_mem 500 (by decide +kernel) (by decide +kernel)
theorem k501 : Jvm.Cond.instanceMethod ({ cls := "TwoScribes", name := "scribe", desc := "(II)I" } : Jvm.MethodName) ∈ GW := GW_mem 501 (by decide +kernel) (by decide +kernel)
theorem k502 : Jvm.Cond.selects "TwoScribes" ({ cls := "TwoScribes", name := "scribe", desc := "(II)I" } : Jvm.MethodName) ({ cls := "TwoScribes", name := "scribe", desc := "(II)I" } : Jvm.MethodName) ∈ GW := GW_mem 502 (by decide +kernel) (by decide +kernel)
theorem k503 : Jvm.Cond.code ({ cls := "TwoScribes", name := "scribe", desc := "(II)I" } : Jvm.MethodName) prog_1_method_15_code (4 : Nat) (Option.some Jvm.ClassFile.FieldType.int) ∈ GW := GW_mem 503 (by decide +kernel) (by decide +kernel)
theorem k504 : Jvm.Cond.methodLink "TwoScribes" (183 : Nat) ({ cls := "TwoScribes$State", name := "nextPlaceOf", desc := "(I)I" } : Jvm.MethodName) ∈ GW := GW_mem 504 (by decide +kernel) (by decide +kernel)
theorem k505 : Jvm.Cond.methodLink "TwoScribesLaw" (73 : Nat) ({ cls := "TwoScribes", name := "ink", desc := "(I)D" } : Jvm.MethodName) ∈ GW := GW_mem 505 (by decide +kernel) (by decide +kernel)
theorem k506 : Jvm.Cond.instanceMethod ({ cls := "TwoScribes", name := "ink", desc := "(I)D" } : Jvm.MethodName) ∈ GW := GW_mem 506 (by decide +kernel) (by decide +kernel)
theorem k507 : Jvm.Cond.selects "TwoScribes" ({ cls := "TwoScribes", name := "ink", desc := "(I)D" } : Jvm.MethodName) ({ cls := "TwoScribes", name := "ink", desc := "(I)D" } : Jvm.MethodName) ∈ GW := GW_mem 507 (by decide +kernel) (by decide +kernel)
theorem k508 : Jvm.Cond.code ({ cls := "TwoScribes", name := "ink", desc := "(I)D" } : Jvm.MethodName) prog_1_method_16_code (2 : Nat) (Option.some Jvm.ClassFile.FieldType.double) ∈ GW := GW_mem 508 (by decide +kernel) (by decide +kernel)
theorem k509 : Jvm.Cond.constantDouble "TwoScribes" (214 : Nat) (13830554455654793216 : UInt64) ∈ GW := GW_mem 509 (by decide +kernel) (by decide +kernel)
theorem k510 : Jvm.Cond.methodLink "TwoScribesLaw" (78 : Nat) ({ cls := "TwoScribes", name := "next", desc := "(I)I" } : Jvm.MethodName) ∈ GW := GW_mem 510 (by decide +kernel) (by decide +kernel)
theorem k511 : Jvm.Cond.instanceMethod ({ cls := "TwoScribes", name := "next", desc := "(I)I" } : Jvm.MethodName) ∈ GW := GW_mem 511 (by decide +kernel) (by decide +kernel)
theorem k512 : Jvm.Cond.selects "TwoScribes" ({ cls := "TwoScribes", name := "next", desc := "(I)I" } : Jvm.MethodName) ({ cls := "TwoScribes", name := "next", desc := "(I)I" } : Jvm.MethodName) ∈ GW := GW_mem 512 (by decide +kernel) (by decide +kernel)
theorem k513 : Jvm.Cond.code ({ cls := "TwoScribes", name := "next", desc := "(I)I" } : Jvm.MethodName) prog_1_method_17_code (2 : Nat) (Option.some Jvm.ClassFile.FieldType.int) ∈ GW := GW_mem 513 (by decide +kernel) (by decide +kernel)
theorem k514 : Jvm.Cond.methodLink "TwoScribes" (216 : Nat) ({ cls := "TwoScribes$State", name := "deedOf", desc := "(I)I" } : Jvm.MethodName) ∈ GW := GW_mem 514 (by decide +kernel) (by decide +kernel)
theorem k515 : Jvm.Cond.methodLink "TwoScribes" (219 : Nat) ({ cls := "TwoScribes$State", name := "takeTurn", desc := "(I)I" } : Jvm.MethodName) ∈ GW := GW_mem 515 (by decide +kernel) (by decide +kernel)
theorem k516 : Jvm.Cond.methodLink "TwoScribesLaw" (82 : Nat) ({ cls := "TwoScribes", name := "doneIn", desc := "()I" } : Jvm.MethodName) ∈ GW := GW_mem 516 (by decide +kernel) (by decide +kernel)
theorem k517 : Jvm.Cond.instanceMethod ({ cls := "TwoScribes", name := "doneIn", desc := "()I" } : Jvm.MethodName) ∈ GW := GW_mem 517 (by decide +kernel) (by decide +kernel)
theorem k518 : Jvm.Cond.selects "TwoScribes" ({ cls := "TwoScribes", name := "doneIn", desc := "()I" } : Jvm.MethodName) ({ cls := "TwoScribes", name := "doneIn", desc := "()I" } : Jvm.MethodName) ∈ GW := GW_mem 518 (by decide +kernel) (by decide +kernel)
theorem k519 : Jvm.Cond.code ({ cls := "TwoScribes", name := "doneIn", desc := "()I" } : Jvm.MethodName) prog_1_method_18_code (1 : Nat) (Option.some Jvm.ClassFile.FieldType.int) ∈ GW := GW_mem 519 (by decide +kernel) (by decide +kernel)
theorem k520 : Jvm.Cond.methodLink "TwoScribes" (222 : Nat) ({ cls := "TwoScribes$State", name := "runUntilDone", desc := "()I" } : Jvm.MethodName) ∈ GW := GW_mem 520 (by decide +kernel) (by decide +kernel)
theorem k521 : Jvm.Cond.instanceMethod ({ cls := "TwoScribes$State", name := "runUntilDone", desc := "()I" } : Jvm.MethodName) ∈ GW := GW_mem 521 (by decide +kernel) (by decide +kernel)
theorem k522 : Jvm.Cond.selects "TwoScribes$State" ({ cls := "TwoScribes$State", name := "runUntilDone", desc := "()I" } : Jvm.MethodName) ({ cls := "TwoScribes$State", name := "runUntilDone", desc := "()I" } : Jvm.MethodName) ∈ GW := GW_mem 522 (by decide +kernel) (by decide +kernel)
theorem k523 : Jvm.Cond.code ({ cls := "TwoScribes$State", name := "runUntilDone", desc := "()I" } : Jvm.MethodName) prog_6_method_17_code (2 : Nat) (Option.some Jvm.ClassFile.FieldType.int) ∈ GW := GW_mem 523 (by decide +kernel) (by decide +kernel)
theorem k524 : Jvm.Cond.methodLink "TwoScribes$State" (162 : Nat) ({ cls := "TwoScribes$State", name := "isDone", desc := "()Z" } : Jvm.MethodName) ∈ GW := GW_mem 524 (by decide +kernel) (by decide +kernel)
theorem k525 : Jvm.Cond.instanceMethod ({ cls := "TwoScribes$State", name := "isDone", desc := "()Z" } : Jvm.MethodName) ∈ GW := GW_mem 525 (by decide +kernel) (by decide +kernel)
theorem k526 : Jvm.Cond.selects "TwoScribes$State" ({ cls := "TwoScribes$State", name := "isDone", desc := "()Z" } : Jvm.MethodName) ({ cls := "TwoScribes$State", name := "isDone", desc := "()Z" } : Jvm.MethodName) ∈ GW := GW_mem 526 (by decide +kernel) (by decide +kernel)
theorem k527 : Jvm.Cond.code ({ cls := "TwoScribes$State", name := "isDone", desc := "()Z" } : Jvm.MethodName) prog_6_method_6_code (1 : Nat) (Option.some Jvm.ClassFile.FieldType.boolean) ∈ GW := GW_mem 527 (by decide +kernel) (by decide +kernel)
theorem k528 : Jvm.Cond.methodLink "TwoScribes$State" (75 : Nat) ({ cls := "TwoScribes$State", name := "lettersOnPage", desc := "()I" } : Jvm.MethodName) ∈ GW := GW_mem 528 (by decide +kernel) (by decide +kernel)
theorem k529 : Jvm.Cond.instanceMethod ({ cls := "TwoScribes$State", name := "lettersOnPage", desc := "()I" } : Jvm.MethodName) ∈ GW := GW_mem 529 (by decide +kernel) (by decide +kernel)
theorem k530 : Jvm.Cond.selects "TwoScribes$State" ({ cls := "TwoScribes$State", name := "lettersOnPage", desc := "()I" } : Jvm.MethodName) ({ cls := "TwoScribes$State", name := "lettersOnPage", desc := "()I" } : Jvm.MethodName) ∈ GW := GW_mem 530 (by decide +kernel) (by decide +kernel)
theorem k531 : Jvm.Cond.code ({ cls := "TwoScribes$State", name := "lettersOnPage", desc := "()I" } : Jvm.MethodName) prog_6_method_5_code (1 : Nat) (Option.some Jvm.ClassFile.FieldType.int) ∈ GW := GW_mem 531 (by decide +kernel) (by decide +kernel)
theorem k532 : Jvm.Cond.methodLink "TwoScribes$State" (166 : Nat) ({ cls := "TwoScribes$State", name := "passTick", desc := "()Z" } : Jvm.MethodName) ∈ GW := GW_mem 532 (by decide +kernel) (by decide +kernel)
theorem k533 : Jvm.Cond.methodLink "TwoScribesLaw" (86 : Nat) ({ cls := "TwoScribes", name := "unlikePairs", desc := "()I" } : Jvm.MethodName) ∈ GW := GW_mem 533 (by decide +kernel) (by decide +kernel)
theorem k534 : Jvm.Cond.instanceMethod ({ cls := "TwoScribes", name := "unlikePairs", desc := "()I" } : Jvm.MethodName) ∈ GW := GW_mem 534 (by decide +kernel) (by decide +kernel)
theorem k535 : Jvm.Cond.selects "TwoScribes" ({ cls := "TwoScribes", name := "unlikePairs", desc := "()I" } : Jvm.MethodName) ({ cls := "TwoScribes", name := "unlikePairs", desc := "()I" } : Jvm.MethodName) ∈ GW := GW_mem 535 (by decide +kernel) (by decide +kernel)
theorem k536 : Jvm.Cond.code ({ cls := "TwoScribes", name := "unlikePairs", desc := "()I" } : Jvm.MethodName) prog_1_method_19_code (4 : Nat) (Option.some Jvm.ClassFile.FieldType.int) ∈ GW := GW_mem 536 (by decide +kernel) (by decide +kernel)
theorem k537 : Jvm.Cond.methodLink "TwoScribes" (225 : Nat) ({ cls := "TwoScribes$Page", name := "areUnlike", desc := "(II)Z" } : Jvm.MethodName) ∈ GW := GW_mem 537 (by decide +kernel) (by decide +kernel)
theorem k538 : Jvm.Cond.instanceMethod ({ cls := "TwoScribes$Page", name := "areUnlike", desc := "(II)Z" } : Jvm.MethodName) ∈ GW := GW_mem 538 (by decide +kernel) (by decide +kernel)
theorem k539 : Jvm.Cond.selects "TwoScribes$Page" ({ cls := "TwoScribes$Page", name := "areUnlike", desc := "(II)Z" } : Jvm.MethodName) ({ cls := "TwoScribes$Page", name := "areUnlike", desc := "(II)Z" } : Jvm.MethodName) ∈ GW := GW_mem 539 (by decide +kernel) (by decide +kernel)
theorem k540 : Jvm.Cond.code ({ cls := "TwoScribes$Page", name := "areUnlike", desc := "(II)Z" } : Jvm.MethodName) prog_3_method_9_code (3 : Nat) (Option.some Jvm.ClassFile.FieldType.boolean) ∈ GW := GW_mem 540 (by decide +kernel) (by decide +kernel)
theorem k541 : Jvm.Cond.methodLink "TwoScribes$Page" (68 : Nat) ({ cls := "TwoScribes$Page", name := "isWritten", desc := "(I)Z" } : Jvm.MethodName) ∈ GW := GW_mem 541 (by decide +kernel) (by decide +kernel)
theorem k542 : Jvm.Cond.methodLink "TwoScribesLaw" (90 : Nat) ({ cls := "TwoScribes", name := "unlikeReadings", desc := "()I" } : Jvm.MethodName) ∈ GW := GW_mem 542 (by decide +kernel) (by decide +kernel)
theorem k543 : Jvm.Cond.instanceMethod ({ cls := "TwoScribes", name := "unlikeReadings", desc := "()I" } : Jvm.MethodName) ∈ GW := GW_mem 543 (by decide +kernel) (by decide +kernel)
theorem k544 : Jvm.Cond.selects "TwoScribes" ({ cls := "TwoScribes", name := "unlikeReadings", desc := "()I" } : Jvm.MethodName) ({ cls := "TwoScribes", name := "unlikeReadings", desc := "()I" } : Jvm.MethodName) ∈ GW := GW_mem 544 (by decide +kernel) (by decide +kernel)
theorem k545 : Jvm.Cond.code ({ cls := "TwoScribes", name := "unlikeReadings", desc := "()I" } : Jvm.MethodName) prog_1_method_20_code (5 : Nat) (Option.some Jvm.ClassFile.FieldType.int) ∈ GW := GW_mem 545 (by decide +kernel) (by decide +kernel)
theorem k546 : Jvm.Cond.methodLink "TwoScribesLaw" (94 : Nat) ({ cls := "TwoScribes", name := "needed", desc := "()D" } : Jvm.MethodName) ∈ GW := GW_mem 546 (by decide +kernel) (by decide +kernel)
theorem k547 : Jvm.Cond.instanceMethod ({ cls := "TwoScribes", name := "needed", desc := "()D" } : Jvm.MethodName) ∈ GW := GW_mem 547 (by decide +kernel) (by decide +kernel)
theorem k548 : Jvm.Cond.selects "TwoScribes" ({ cls := "TwoScribes", name := "needed", desc := "()D" } : Jvm.MethodName) ({ cls := "TwoScribes", name := "needed", desc := "()D" } : Jvm.MethodName) ∈ GW := GW_mem 548 (by decide +kernel) (by decide +kernel)
theorem k549 : Jvm.Cond.code ({ cls := "TwoScribes", name := "needed", desc := "()D" } : Jvm.MethodName) prog_1_method_21_code (4 : Nat) (Option.some Jvm.ClassFile.FieldType.double) ∈ GW := GW_mem 549 (by decide +kernel) (by decide +kernel)
theorem k550 : Jvm.Cond.methodLink "TwoScribes" (229 : Nat) ({ cls := "TwoScribes", name := "inkFor", desc := "(I)F" } : Jvm.MethodName) ∈ GW := GW_mem 550 (by decide +kernel) (by decide +kernel)
theorem k551 : Jvm.Cond.methodLink "TwoScribesLaw" (99 : Nat) ({ cls := "TwoScribes", name := "bestPace", desc := "(I)I" } : Jvm.MethodName) ∈ GW := GW_mem 551 (by decide +kernel) (by decide +kernel)
theorem k552 : Jvm.Cond.instanceMethod ({ cls := "TwoScribes", name := "bestPace", desc := "(I)I" } : Jvm.MethodName) ∈ GW := GW_mem 552 (by decide +kernel) (by decide +kernel)
theorem k553 : Jvm.Cond.selects "TwoScribes" ({ cls := "TwoScribes", name := "bestPace", desc := "(I)I" } : Jvm.MethodName) ({ cls := "TwoScribes", name := "bestPace", desc := "(I)I" } : Jvm.MethodName) ∈ GW := GW_mem 553 (by decide +kernel) (by decide +kernel)
theorem k554 : Jvm.Cond.code ({ cls := "TwoScribes", name := "bestPace", desc := "(I)I" } : Jvm.MethodName) prog_1_method_22_code (6 : Nat) (Option.some Jvm.ClassFile.FieldType.int) ∈ GW := GW_mem 554 (by decide +kernel) (by decide +kernel)
theorem k555 : Jvm.Cond.methodLink "TwoScribes" (233 : Nat) ({ cls := "TwoScribes$State", name := "isDone", desc := "()Z" } : Jvm.MethodName) ∈ GW := GW_mem 555 (by decide +kernel) (by decide +kernel)
theorem k556 : Jvm.Cond.methodLink "TwoScribesLaw" (103 : Nat) ({ cls := "TwoScribes", name := "count", desc := "(I)I" } : Jvm.MethodName) ∈ GW := GW_mem 556 (by decide +kernel) (by decide +kernel)
theorem k557 : Jvm.Cond.instanceMethod ({ cls := "TwoScribes", name := "count", desc := "(I)I" } : Jvm.MethodName) ∈ GW := GW_mem 557 (by decide +kernel) (by decide +kernel)
theorem k558 : Jvm.Cond.selects "TwoScribes" ({ cls := "TwoScribes", name := "count", desc := "(I)I" } : Jvm.MethodName) ({ cls := "TwoScribes", name := "count", desc := "(I)I" } : Jvm.MethodName) ∈ GW := GW_mem 558 (by decide +kernel) (by decide +kernel)
theorem k559 : Jvm.Cond.code ({ cls := "TwoScribes", name := "count", desc := "(I)I" } : Jvm.MethodName) prog_1_method_23_code (2 : Nat) (Option.some Jvm.ClassFile.FieldType.int) ∈ GW := GW_mem 559 (by decide +kernel) (by decide +kernel)
theorem k560 : Jvm.Cond.methodLink "TwoScribes" (236 : Nat) ({ cls := "TwoScribes$State", name := "lettersOnPage", desc := "()I" } : Jvm.MethodName) ∈ GW := GW_mem 560 (by decide +kernel) (by decide +kernel)
theorem k561 : Jvm.Cond.methodLink "TwoScribes" (239 : Nat) ({ cls := "TwoScribes$Page", name := "countBlots", desc := "()I" } : Jvm.MethodName) ∈ GW := GW_mem 561 (by decide +kernel) (by decide +kernel)
theorem k562 : Jvm.Cond.instanceMethod ({ cls := "TwoScribes$Page", name := "countBlots", desc := "()I" } : Jvm.MethodName) ∈ GW := GW_mem 562 (by decide +kernel) (by decide +kernel)
theorem k563 : Jvm.Cond.selects "TwoScribes$Page" ({ cls := "TwoScribes$Page", name := "countBlots", desc := "()I" } : Jvm.MethodName) ({ cls := "TwoScribes$Page", name := "countBlots", desc := "()I" } : Jvm.MethodName) ∈ GW := GW_mem 563 (by decide +kernel) (by decide +kernel)
theorem k564 : Jvm.Cond.code ({ cls := "TwoScribes$Page", name := "countBlots", desc := "()I" } : Jvm.MethodName) prog_3_method_12_code (3 : Nat) (Option.some Jvm.ClassFile.FieldType.int) ∈ GW := GW_mem 564 (by decide +kernel) (by decide +kernel)
theorem k565 : Jvm.Cond.methodLink "TwoScribes" (242 : Nat) ({ cls := "TwoScribes$Page", name := "countNotDue", desc := "()I" } : Jvm.MethodName) ∈ GW := GW_mem 565 (by decide +kernel) (by decide +kernel)
theorem k566 : Jvm.Cond.instanceMethod ({ cls := "TwoScribes$Page", name := "countNotDue", desc := "()I" } : Jvm.MethodName) ∈ GW := GW_mem 566 (by decide +kernel) (by decide +kernel)
theorem k567 : Jvm.Cond.selects "TwoScribes$Page" ({ cls := "TwoScribes$Page", name := "countNotDue", desc := "()I" } : Jvm.MethodName) ({ cls := "TwoScribes$Page", name := "countNotDue", desc := "()I" } : Jvm.MethodName) ∈ GW := GW_mem 567 (by decide +kernel) (by decide +kernel)
theorem k568 : Jvm.Cond.code ({ cls := "TwoScribes$Page", name := "countNotDue", desc := "()I" } : Jvm.MethodName) prog_3_method_13_code (3 : Nat) (Option.some Jvm.ClassFile.FieldType.int) ∈ GW := GW_mem 568 (by decide +kernel) (by decide +kernel)
theorem k569 : Jvm.Cond.classLink "TwoScribesLaw" (10 : Nat) "TwoScribesModel" ∈ GW := GW_mem 569 (by decide +kernel) (by decide +kernel)
theorem k570 : Jvm.Cond.instantiable "TwoScribesModel" (13 : Nat) ∈ GW := GW_mem 570 (by decide +kernel) (by decide +kernel)
theorem k571 : Jvm.Cond.methodLink "TwoScribesLaw" (12 : Nat) ({ cls := "TwoScribesModel", name := "<init>", desc := "()V" } : Jvm.MethodName) ∈ GW := GW_mem 571 (by decide +kernel) (by decide +kernel)
theorem k572 : Jvm.Cond.instanceMethod ({ cls := "TwoScribesModel", name := "<init>", desc := "()V" } : Jvm.MethodName) ∈ GW := GW_mem 572 (by decide +kernel) (by decide +kernel)
theorem k573 : Jvm.Cond.code ({ cls := "TwoScribesModel", name := "<init>", desc := "()V" } : Jvm.MethodName) prog_8_method_1_code (1 : Nat) (Option.none : Option Jvm.ClassFile.FieldType) ∈ GW := GW_mem 573 (by decide +kernel) (by decide +kernel)
theorem k574 : Jvm.Cond.methodLink "TwoScribesModel" (1 : Nat) ({ cls := "java/lang/Object", name := "<init>", desc := "()V" } : Jvm.MethodName) ∈ GW := GW_mem 574 (by decide +kernel) (by decide +kernel)
theorem k575 : Jvm.Cond.fieldLink "TwoScribesModel" (7 : Nat) "TwoScribesModel" "all" "[I" ∈ GW := GW_mem 575 (by decide +kernel) (by decide +kernel)
theorem k576 : Jvm.Cond.fieldLink "TwoScribesModel" (13 : Nat) "TwoScribesModel" "kept" "[I" ∈ GW := GW_mem 576 (by decide +kernel) (by decide +kernel)
theorem k577 : Jvm.Cond.fieldLink "TwoScribesModel" (16 : Nat) "TwoScribesModel" "tried" "[I" ∈ GW := GW_mem 577 (by decide +kernel) (by decide +kernel)
theorem k578 : Jvm.Cond.fieldLink "TwoScribesModel" (19 : Nat) "TwoScribesModel" "history" "[I" ∈ GW := GW_mem 578 (by decide +kernel) (by decide +kernel)
theorem k579 : Jvm.Cond.fieldLink "TwoScribesModel" (31 : Nat) "TwoScribesModel" "historyLong" "I" ∈ GW := GW_mem 579 (by decide +kernel) (by decide +kernel)
theorem k580 : Jvm.Cond.fieldLink "TwoScribesModel" (22 : Nat) "TwoScribesModel" "snapshot" "[I" ∈ GW := GW_mem 580 (by decide +kernel) (by decide +kernel)
theorem k581 : Jvm.Cond.fieldLink "TwoScribesModel" (126 : Nat) "TwoScribesModel" "isKept" "I" ∈ GW := GW_mem 581 (by decide +kernel) (by decide +kernel)
theorem k582 : Jvm.Cond.fieldLink "TwoScribesModel" (25 : Nat) "TwoScribesModel" "draft" "[I" ∈ GW := GW_mem 582 (by decide +kernel) (by decide +kernel)
theorem k583 : Jvm.Cond.fieldLink "TwoScribesModel" (28 : Nat) "TwoScribesModel" "text" "[I" ∈ GW := GW_mem 583 (by decide +kernel) (by decide +kernel)
theorem k584 : Jvm.Cond.fieldLink "TwoScribesModel" (109 : Nat) "TwoScribesModel" "textLong" "I" ∈ GW := GW_mem 584 (by decide +kernel) (by decide +kernel)
theorem k585 : Jvm.Cond.fieldLink "TwoScribesModel" (112 : Nat) "TwoScribesModel" "spot" "I" ∈ GW := GW_mem 585 (by decide +kernel) (by decide +kernel)
theorem k586 : Jvm.Cond.fieldLink "TwoScribesModel" (69 : Nat) "TwoScribesModel" "read" "I" ∈ GW := GW_mem 586 (by decide +kernel) (by decide +kernel)
theorem k587 : Jvm.Cond.fieldLink "TwoScribesModel" (66 : Nat) "TwoScribesModel" "greatest" "I" ∈ GW := GW_mem 587 (by decide +kernel) (by decide +kernel)
theorem k615 : Jvm.Cond.methodLink "TwoScribesLaw" (17 : Nat) ({ cls := "TwoScribesModel", name := "readPage", desc := "()I" } : Jvm.MethodName) ∈ GW := GW_mem 615 (by decide +kernel) (by decide +kernel)
theorem k616 : Jvm.Cond.instanceMethod ({ cls := "TwoScribesModel", name := "readPage", desc := "()I" } : Jvm.MethodName) ∈ GW := GW_mem 616 (by decide +kernel) (by decide +kernel)
theorem k617 : Jvm.Cond.selects "TwoScribesModel" ({ cls := "TwoScribesModel", name := "readPage", desc := "()I" } : Jvm.MethodName) ({ cls := "TwoScribesModel", name := "readPage", desc := "()I" } : Jvm.MethodName) ∈ GW := GW_mem 617 (by decide +kernel) (by decide +kernel)
theorem k618 : Jvm.Cond.code ({ cls := "TwoScribesModel", name := "readPage", desc := "()I" } : Jvm.MethodName) prog_8_method_19_code (3 : Nat) (Option.some Jvm.ClassFile.FieldType.int) ∈ GW := GW_mem 618 (by decide +kernel) (by decide +kernel)
theorem k619 : Jvm.Cond.methodLink "TwoScribesModel" (62 : Nat) ({ cls := "TwoScribesModel", name := "fault", desc := "()I" } : Jvm.MethodName) ∈ GW := GW_mem 619 (by decide +kernel) (by decide +kernel)
theorem k621 : Jvm.Cond.instanceMethod ({ cls := "TwoScribesModel", name := "fault", desc := "()I" } : Jvm.MethodName) ∈ GW := GW_mem 621 (by decide +kernel) (by decide +kernel)
theorem k622 : Jvm.Cond.code ({ cls := "TwoScribesModel", name := "fault", desc := "()I" } : Jvm.MethodName) prog_8_method_33_code (2 : Nat) (Option.some Jvm.ClassFile.FieldType.int) ∈ GW := GW_mem 622 (by decide +kernel) (by decide +kernel)
theorem k623 : Jvm.Cond.methodLink "TwoScribesModel" (115 : Nat) ({ cls := "TwoScribesModel", name := "isHere", desc := "(II)Z" } : Jvm.MethodName) ∈ GW := GW_mem 623 (by decide +kernel) (by decide +kernel)
theorem k625 : Jvm.Cond.instanceMethod ({ cls := "TwoScribesModel", name := "isHere", desc := "(II)Z" } : Jvm.MethodName) ∈ GW := GW_mem 625 (by decide +kernel) (by decide +kernel)
theorem k626 : Jvm.Cond.code ({ cls := "TwoScribesModel", name := "isHere", desc := "(II)Z" } : Jvm.MethodName) prog_8_method_30_code (3 : Nat) (Option.some Jvm.ClassFile.FieldType.boolean) ∈ GW := GW_mem 626 (by decide +kernel) (by decide +kernel)
theorem k627 : Jvm.Cond.methodLink "TwoScribesModel" (35 : Nat) ({ cls := "TwoScribesModel", name := "in", desc := "(JJJ)Z" } : Jvm.MethodName) ∈ GW := GW_mem 627 (by decide +kernel) (by decide +kernel)
theorem k628 : Jvm.Cond.static ({ cls := "TwoScribesModel", name := "in", desc := "(JJJ)Z" } : Jvm.MethodName) ∈ GW := GW_mem 628 (by decide +kernel) (by decide +kernel)
theorem k629 : Jvm.Cond.code ({ cls := "TwoScribesModel", name := "in", desc := "(JJJ)Z" } : Jvm.MethodName) prog_8_method_3_code (6 : Nat) (Option.some Jvm.ClassFile.FieldType.boolean) ∈ GW := GW_mem 629 (by decide +kernel) (by decide +kernel)
theorem k630 : Jvm.Cond.methodLink "TwoScribesModel" (119 : Nat) ({ cls := "TwoScribesModel", name := "takesOne", desc := "(I)Z" } : Jvm.MethodName) ∈ GW := GW_mem 630 (by decide +kernel) (by decide +kernel)
theorem k632 : Jvm.Cond.instanceMethod ({ cls := "TwoScribesModel", name := "takesOne", desc := "(I)Z" } : Jvm.MethodName) ∈ GW := GW_mem 632 (by decide +kernel) (by decide +kernel)
theorem k633 : Jvm.Cond.code ({ cls := "TwoScribesModel", name := "takesOne", desc := "(I)Z" } : Jvm.MethodName) prog_8_method_31_code (3 : Nat) (Option.some Jvm.ClassFile.FieldType.boolean) ∈ GW := GW_mem 633 (by decide +kernel) (by decide +kernel)
theorem k634 : Jvm.Cond.methodLink "TwoScribesModel" (122 : Nat) ({ cls := "TwoScribesModel", name := "readsMisreading", desc := "()Z" } : Jvm.MethodName) ∈ GW := GW_mem 634 (by decide +kernel) (by decide +kernel)
theorem k636 : Jvm.Cond.instanceMethod ({ cls := "TwoScribesModel", name := "readsMisreading", desc := "()Z" } : Jvm.MethodName) ∈ GW := GW_mem 636 (by decide +kernel) (by decide +kernel)
theorem k637 : Jvm.Cond.code ({ cls := "TwoScribesModel", name := "readsMisreading", desc := "()Z" } : Jvm.MethodName) prog_8_method_32_code (2 : Nat) (Option.some Jvm.ClassFile.FieldType.boolean) ∈ GW := GW_mem 637 (by decide +kernel) (by decide +kernel)
theorem k638 : Jvm.Cond.methodLink "TwoScribesModel" (72 : Nat) ({ cls := "TwoScribesModel", name := "keeps", desc := "()V" } : Jvm.MethodName) ∈ GW := GW_mem 638 (by decide +kernel) (by decide +kernel)
theorem k640 : Jvm.Cond.instanceMethod ({ cls := "TwoScribesModel", name := "keeps", desc := "()V" } : Jvm.MethodName) ∈ GW := GW_mem 640 (by decide +kernel) (by decide +kernel)
theorem k641 : Jvm.Cond.code ({ cls := "TwoScribesModel", name := "keeps", desc := "()V" } : Jvm.MethodName) prog_8_method_4_code (2 : Nat) (Option.none : Option Jvm.ClassFile.FieldType) ∈ GW := GW_mem 641 (by decide +kernel) (by decide +kernel)
theorem k642 : Jvm.Cond.methodLink "TwoScribesModel" (75 : Nat) ({ cls := "TwoScribesModel", name := "ends", desc := "(I)I" } : Jvm.MethodName) ∈ GW := GW_mem 642 (by decide +kernel) (by decide +kernel)
theorem k644 : Jvm.Cond.instanceMethod ({ cls := "TwoScribesModel", name := "ends", desc := "(I)I" } : Jvm.MethodName) ∈ GW := GW_mem 644 (by decide +kernel) (by decide +kernel)
theorem k645 : Jvm.Cond.code ({ cls := "TwoScribesModel", name := "ends", desc := "(I)I" } : Jvm.MethodName) prog_8_method_5_code (3 : Nat) (Option.some Jvm.ClassFile.FieldType.int) ∈ GW := GW_mem 645 (by decide +kernel) (by decide +kernel)
theorem k646 : Jvm.Cond.methodLink "TwoScribesLaw" (22 : Nat) ({ cls := "TwoScribesModel", name := "misread", desc := "(II)I" } : Jvm.MethodName) ∈ GW := GW_mem 646 (by decide +kernel) (by decide +kernel)
theorem k647 : Jvm.Cond.instanceMethod ({ cls := "TwoScribesModel", name := "misread", desc := "(II)I" } : Jvm.MethodName) ∈ GW := GW_mem 647 (by decide +kernel) (by decide +kernel)
theorem k648 : Jvm.Cond.selects "TwoScribesModel" ({ cls := "TwoScribesModel", name := "misread", desc := "(II)I" } : Jvm.MethodName) ({ cls := "TwoScribesModel", name := "misread", desc := "(II)I" } : Jvm.MethodName) ∈ GW := GW_mem 648 (by decide +kernel) (by decide +kernel)
theorem k649 : Jvm.Cond.code ({ cls := "TwoScribesModel", name := "misread", desc := "(II)I" } : Jvm.MethodName) prog_8_method_21_code (4 : Nat) (Option.some Jvm.ClassFile.FieldType.int) ∈ GW := GW_mem 649 (by decide +kernel) (by decide +kernel)
theorem k650 : Jvm.Cond.methodLink "TwoScribesModel" (78 : Nat) ({ cls := "TwoScribesModel", name := "isPlace", desc := "(I)Z" } : Jvm.MethodName) ∈ GW := GW_mem 650 (by decide +kernel) (by decide +kernel)
theorem k652 : Jvm.Cond.instanceMethod ({ cls := "TwoScribesModel", name := "isPlace", desc := "(I)Z" } : Jvm.MethodName) ∈ GW := GW_mem 652 (by decide +kernel) (by decide +kernel)
theorem k653 : Jvm.Cond.code ({ cls := "TwoScribesModel", name := "isPlace", desc := "(I)Z" } : Jvm.MethodName) prog_8_method_8_code (2 : Nat) (Option.some Jvm.ClassFile.FieldType.boolean) ∈ GW := GW_mem 653 (by decide +kernel) (by decide +kernel)
theorem k654 : Jvm.Cond.constantLong "TwoScribesModel" (82 : Nat) (26 : Int64) ∈ GW := GW_mem 654 (by decide +kernel) (by decide +kernel)
theorem k655 : Jvm.Cond.methodLink "TwoScribesModel" (84 : Nat) ({ cls := "TwoScribesModel", name := "isBegun", desc := "(I)Z" } : Jvm.MethodName) ∈ GW := GW_mem 655 (by decide +kernel) (by decide +kernel)
theorem k657 : Jvm.Cond.instanceMethod ({ cls := "TwoScribesModel", name := "isBegun", desc := "(I)Z" } : Jvm.MethodName) ∈ GW := GW_mem 657 (by decide +kernel) (by decide +kernel)
theorem k658 : Jvm.Cond.code ({ cls := "TwoScribesModel", name := "isBegun", desc := "(I)Z" } : Jvm.MethodName) prog_8_method_20_code (4 : Nat) (Option.some Jvm.ClassFile.FieldType.boolean) ∈ GW := GW_mem 658 (by decide +kernel) (by decide +kernel)
theorem k659 : Jvm.Cond.methodLink "TwoScribesModel" (43 : Nat) ({ cls := "TwoScribesModel", name := "nextPlace", desc := "(I)I" } : Jvm.MethodName) ∈ GW := GW_mem 659 (by decide +kernel) (by decide +kernel)
theorem k661 : Jvm.Cond.instanceMethod ({ cls := "TwoScribesModel", name := "nextPlace", desc := "(I)I" } : Jvm.MethodName) ∈ GW := GW_mem 661 (by decide +kernel) (by decide +kernel)
theorem k662 : Jvm.Cond.code ({ cls := "TwoScribesModel", name := "nextPlace", desc := "(I)I" } : Jvm.MethodName) prog_8_method_11_code (3 : Nat) (Option.some Jvm.ClassFile.FieldType.int) ∈ GW := GW_mem 662 (by decide +kernel) (by decide +kernel)
theorem k663 : Jvm.Cond.methodLink "TwoScribesModel" (46 : Nat) ({ cls := "TwoScribesModel", name := "letterAt", desc := "(I)I" } : Jvm.MethodName) ∈ GW := GW_mem 663 (by decide +kernel) (by decide +kernel)
theorem k665 : Jvm.Cond.instanceMethod ({ cls := "TwoScribesModel", name := "letterAt", desc := "(I)I" } : Jvm.MethodName) ∈ GW := GW_mem 665 (by decide +kernel) (by decide +kernel)
theorem k666 : Jvm.Cond.code ({ cls := "TwoScribesModel", name := "letterAt", desc := "(I)I" } : Jvm.MethodName) prog_8_method_10_code (2 : Nat) (Option.some Jvm.ClassFile.FieldType.int) ∈ GW := GW_mem 666 (by decide +kernel) (by decide +kernel)
theorem k667 : Jvm.Cond.methodLink "TwoScribesModel" (39 : Nat) ({ cls := "TwoScribesModel", name := "due", desc := "(I)I" } : Jvm.MethodName) ∈ GW := GW_mem 667 (by decide +kernel) (by decide +kernel)
theorem k669 : Jvm.Cond.instanceMethod ({ cls := "TwoScribesModel", name := "due", desc := "(I)I" } : Jvm.MethodName) ∈ GW := GW_mem 669 (by decide +kernel) (by decide +kernel)
theorem k670 : Jvm.Cond.code ({ cls := "TwoScribesModel", name := "due", desc := "(I)I" } : Jvm.MethodName) prog_8_method_9_code (2 : Nat) (Option.some Jvm.ClassFile.FieldType.int) ∈ GW := GW_mem 670 (by decide +kernel) (by decide +kernel)
theorem k671 : Jvm.Cond.methodLink "TwoScribesLaw" (27 : Nat) ({ cls := "TwoScribesModel", name := "correct", desc := "(I)I" } : Jvm.MethodName) ∈ GW := GW_mem 671 (by decide +kernel) (by decide +kernel)
theorem k672 : Jvm.Cond.instanceMethod ({ cls := "TwoScribesModel", name := "correct", desc := "(I)I" } : Jvm.MethodName) ∈ GW := GW_mem 672 (by decide +kernel) (by decide +kernel)
theorem k673 : Jvm.Cond.selects "TwoScribesModel" ({ cls := "TwoScribesModel", name := "correct", desc := "(I)I" } : Jvm.MethodName) ({ cls := "TwoScribesModel", name := "correct", desc := "(I)I" } : Jvm.MethodName) ∈ GW := GW_mem 673 (by decide +kernel) (by decide +kernel)
theorem k674 : Jvm.Cond.code ({ cls := "TwoScribesModel", name := "correct", desc := "(I)I" } : Jvm.MethodName) prog_8_method_22_code (3 : Nat) (Option.some Jvm.ClassFile.FieldType.int) ∈ GW := GW_mem 674 (by decide +kernel) (by decide +kernel)
theorem k675 : Jvm.Cond.methodLink "TwoScribesModel" (87 : Nat) ({ cls := "TwoScribesModel", name := "marginLeft", desc := "()I" } : Jvm.MethodName) ∈ GW := GW_mem 675 (by decide +kernel) (by decide +kernel)
theorem k677 : Jvm.Cond.instanceMethod ({ cls := "TwoScribesModel", name := "marginLeft", desc := "()I" } : Jvm.MethodName) ∈ GW := GW_mem 677 (by decide +kernel) (by decide +kernel)
theorem k678 : Jvm.Cond.code ({ cls := "TwoScribesModel", name := "marginLeft", desc := "()I" } : Jvm.MethodName) prog_8_method_13_code (1 : Nat) (Option.some Jvm.ClassFile.FieldType.int) ∈ GW := GW_mem 678 (by decide +kernel) (by decide +kernel)
theorem k679 : Jvm.Cond.methodLink "TwoScribesLaw" (31 : Nat) ({ cls := "TwoScribesModel", name := "setPace", desc := "(II)I" } : Jvm.MethodName) ∈ GW := GW_mem 679 (by decide +kernel) (by decide +kernel)
theorem k680 : Jvm.Cond.instanceMethod ({ cls := "TwoScribesModel", name := "setPace", desc := "(II)I" } : Jvm.MethodName) ∈ GW := GW_mem 680 (by decide +kernel) (by decide +kernel)
theorem k681 : Jvm.Cond.selects "TwoScribesModel" ({ cls := "TwoScribesModel", name := "setPace", desc := "(II)I" } : Jvm.MethodName) ({ cls := "TwoScribesModel", name := "setPace", desc := "(II)I" } : Jvm.MethodName) ∈ GW := GW_mem 681 (by decide +kernel) (by decide +kernel)
theorem k682 : Jvm.Cond.code ({ cls := "TwoScribesModel", name := "setPace", desc := "(II)I" } : Jvm.MethodName) prog_8_method_24_code (4 : Nat) (Option.some Jvm.ClassFile.FieldType.int) ∈ GW := GW_mem 682 (by decide +kernel) (by decide +kernel)
theorem k683 : Jvm.Cond.methodLink "TwoScribesModel" (90 : Nat) ({ cls := "TwoScribesModel", name := "isScribe", desc := "(I)Z" } : Jvm.MethodName) ∈ GW := GW_mem 683 (by decide +kernel) (by decide +kernel)
theorem k684 : Jvm.Cond.static ({ cls := "TwoScribesModel", name := "isScribe", desc := "(I)Z" } : Jvm.MethodName) ∈ GW := GW_mem 684 (by decide +kernel) (by decide +kernel)
theorem k685 : Jvm.Cond.code ({ cls := "TwoScribesModel", name := "isScribe", desc := "(I)Z" } : Jvm.MethodName) prog_8_method_23_code (1 : Nat) (Option.some Jvm.ClassFile.FieldType.boolean) ∈ GW := GW_mem 685 (by decide +kernel) (by decide +kernel)
theorem k686 : Jvm.Cond.constantLong "TwoScribesModel" (93 : Nat) (9 : Int64) ∈ GW := GW_mem 686 (by decide +kernel) (by decide +kernel)
theorem k687 : Jvm.Cond.methodLink "TwoScribesLaw" (35 : Nat) ({ cls := "TwoScribesModel", name := "pour", desc := "(I)I" } : Jvm.MethodName) ∈ GW := GW_mem 687 (by decide +kernel) (by decide +kernel)
theorem k688 : Jvm.Cond.instanceMethod ({ cls := "TwoScribesModel", name := "pour", desc := "(I)I" } : Jvm.MethodName) ∈ GW := GW_mem 688 (by decide +kernel) (by decide +kernel)
theorem k689 : Jvm.Cond.selects "TwoScribesModel" ({ cls := "TwoScribesModel", name := "pour", desc := "(I)I" } : Jvm.MethodName) ({ cls := "TwoScribesModel", name := "pour", desc := "(I)I" } : Jvm.MethodName) ∈ GW := GW_mem 689 (by decide +kernel) (by decide +kernel)
theorem k690 : Jvm.Cond.code ({ cls := "TwoScribesModel", name := "pour", desc := "(I)I" } : Jvm.MethodName) prog_8_method_25_code (2 : Nat) (Option.some Jvm.ClassFile.FieldType.int) ∈ GW := GW_mem 690 (by decide +kernel) (by decide +kernel)
theorem k691 : Jvm.Cond.constantLong "TwoScribesModel" (95 : Nat) (80 : Int64) ∈ GW := GW_mem 691 (by decide +kernel) (by decide +kernel)
theorem k692 : Jvm.Cond.methodLink "TwoScribesLaw" (39 : Nat) ({ cls := "TwoScribesModel", name := "set", desc := "(II)I" } : Jvm.MethodName) ∈ GW := GW_mem 692 (by decide +kernel) (by decide +kernel)
theorem k693 : Jvm.Cond.instanceMethod ({ cls := "TwoScribesModel", name := "set", desc := "(II)I" } : Jvm.MethodName) ∈ GW := GW_mem 693 (by decide +kernel) (by decide +kernel)
theorem k694 : Jvm.Cond.selects "TwoScribesModel" ({ cls := "TwoScribesModel", name := "set", desc := "(II)I" } : Jvm.MethodName) ({ cls := "TwoScribesModel", name := "set", desc := "(II)I" } : Jvm.MethodName) ∈ GW := GW_mem 694 (by decide +kernel) (by decide +kernel)
theorem k695 : Jvm.Cond.code ({ cls := "TwoScribesModel", name := "set", desc := "(II)I" } : Jvm.MethodName) prog_8_method_26_code (4 : Nat) (Option.some Jvm.ClassFile.FieldType.int) ∈ GW := GW_mem 695 (by decide +kernel) (by decide +kernel)
theorem k696 : Jvm.Cond.constantLong "TwoScribesModel" (97 : Nat) (2 : Int64) ∈ GW := GW_mem 696 (by decide +kernel) (by decide +kernel)
theorem k697 : Jvm.Cond.constantLong "TwoScribesModel" (99 : Nat) (8 : Int64) ∈ GW := GW_mem 697 (by decide +kernel) (by decide +kernel)
theorem k698 : Jvm.Cond.constantLong "TwoScribesModel" (101 : Nat) (20 : Int64) ∈ GW := GW_mem 698 (by decide +kernel) (by decide +kernel)
theorem k699 : Jvm.Cond.methodLink "TwoScribesLaw" (43 : Nat) ({ cls := "TwoScribesModel", name := "pass", desc := "(I)I" } : Jvm.MethodName) ∈ GW := GW_mem 699 (by decide +kernel) (by decide +kernel)
theorem k700 : Jvm.Cond.instanceMethod ({ cls := "TwoScribesModel", name := "pass", desc := "(I)I" } : Jvm.MethodName) ∈ GW := GW_mem 700 (by decide +kernel) (by decide +kernel)
theorem k701 : Jvm.Cond.selects "TwoScribesModel" ({ cls := "TwoScribesModel", name := "pass", desc := "(I)I" } : Jvm.MethodName) ({ cls := "TwoScribesModel", name := "pass", desc := "(I)I" } : Jvm.MethodName) ∈ GW := GW_mem 701 (by decide +kernel) (by decide +kernel)
theorem k702 : Jvm.Cond.code ({ cls := "TwoScribesModel", name := "pass", desc := "(I)I" } : Jvm.MethodName) prog_8_method_27_code (4 : Nat) (Option.some Jvm.ClassFile.FieldType.int) ∈ GW := GW_mem 702 (by decide +kernel) (by decide +kernel)
theorem k703 : Jvm.Cond.constantLong "TwoScribesModel" (103 : Nat) (99 : Int64) ∈ GW := GW_mem 703 (by decide +kernel) (by decide +kernel)
theorem k704 : Jvm.Cond.constant "TwoScribesModel" (105 : Nat) (99999 : Int32) ∈ GW := GW_mem 704 (by decide +kernel) (by decide +kernel)
theorem k705 : Jvm.Cond.methodLink "TwoScribesModel" (106 : Nat) ({ cls := "TwoScribesModel", name := "ticks", desc := "()V" } : Jvm.MethodName) ∈ GW := GW_mem 705 (by decide +kernel) (by decide +kernel)
theorem k707 : Jvm.Cond.instanceMethod ({ cls := "TwoScribesModel", name := "ticks", desc := "()V" } : Jvm.MethodName) ∈ GW := GW_mem 707 (by decide +kernel) (by decide +kernel)
theorem k708 : Jvm.Cond.code ({ cls := "TwoScribesModel", name := "ticks", desc := "()V" } : Jvm.MethodName) prog_8_method_18_code (1 : Nat) (Option.none : Option Jvm.ClassFile.FieldType) ∈ GW := GW_mem 708 (by decide +kernel) (by decide +kernel)
theorem k709 : Jvm.Cond.methodLink "TwoScribesModel" (59 : Nat) ({ cls := "TwoScribesModel", name := "goes", desc := "(I)V" } : Jvm.MethodName) ∈ GW := GW_mem 709 (by decide +kernel) (by decide +kernel)
theorem k711 : Jvm.Cond.instanceMethod ({ cls := "TwoScribesModel", name := "goes", desc := "(I)V" } : Jvm.MethodName) ∈ GW := GW_mem 711 (by decide +kernel) (by decide +kernel)
theorem k712 : Jvm.Cond.code ({ cls := "TwoScribesModel", name := "goes", desc := "(I)V" } : Jvm.MethodName) prog_8_method_17_code (2 : Nat) (Option.none : Option Jvm.ClassFile.FieldType) ∈ GW := GW_mem 712 (by decide +kernel) (by decide +kernel)
theorem k713 : Jvm.Cond.methodLink "TwoScribesModel" (49 : Nat) ({ cls := "TwoScribesModel", name := "does", desc := "(I)I" } : Jvm.MethodName) ∈ GW := GW_mem 713 (by decide +kernel) (by decide +kernel)
theorem k715 : Jvm.Cond.instanceMethod ({ cls := "TwoScribesModel", name := "does", desc := "(I)I" } : Jvm.MethodName) ∈ GW := GW_mem 715 (by decide +kernel) (by decide +kernel)
theorem k716 : Jvm.Cond.code ({ cls := "TwoScribesModel", name := "does", desc := "(I)I" } : Jvm.MethodName) prog_8_method_14_code (3 : Nat) (Option.some Jvm.ClassFile.FieldType.int) ∈ GW := GW_mem 716 (by decide +kernel) (by decide +kernel)
theorem k717 : Jvm.Cond.methodLink "TwoScribesModel" (52 : Nat) ({ cls := "TwoScribesModel", name := "writes", desc := "(I)V" } : Jvm.MethodName) ∈ GW := GW_mem 717 (by decide +kernel) (by decide +kernel)
theorem k719 : Jvm.Cond.instanceMethod ({ cls := "TwoScribesModel", name := "writes", desc := "(I)V" } : Jvm.MethodName) ∈ GW := GW_mem 719 (by decide +kernel) (by decide +kernel)
theorem k720 : Jvm.Cond.code ({ cls := "TwoScribesModel", name := "writes", desc := "(I)V" } : Jvm.MethodName) prog_8_method_16_code (4 : Nat) (Option.none : Option Jvm.ClassFile.FieldType) ∈ GW := GW_mem 720 (by decide +kernel) (by decide +kernel)
theorem k721 : Jvm.Cond.methodLink "TwoScribesModel" (56 : Nat) ({ cls := "TwoScribesModel", name := "dips", desc := "(I)V" } : Jvm.MethodName) ∈ GW := GW_mem 721 (by decide +kernel) (by decide +kernel)
theorem k723 : Jvm.Cond.instanceMethod ({ cls := "TwoScribesModel", name := "dips", desc := "(I)V" } : Jvm.MethodName) ∈ GW := GW_mem 723 (by decide +kernel) (by decide +kernel)
theorem k724 : Jvm.Cond.code ({ cls := "TwoScribesModel", name := "dips", desc := "(I)V" } : Jvm.MethodName) prog_8_method_15_code (4 : Nat) (Option.none : Option Jvm.ClassFile.FieldType) ∈ GW := GW_mem 724 (by decide +kernel) (by decide +kernel)
theorem k725 : Jvm.Cond.methodLink "TwoScribesLaw" (48 : Nat) ({ cls := "TwoScribesModel", name := "type", desc := "(C)I" } : Jvm.MethodName) ∈ GW := GW_mem 725 (by decide +kernel) (by decide +kernel)
theorem k726 : Jvm.Cond.instanceMethod ({ cls := "TwoScribesModel", name := "type", desc := "(C)I" } : Jvm.MethodName) ∈ GW := GW_mem 726 (by decide +kernel) (by decide +kernel)
theorem k727 : Jvm.Cond.selects "TwoScribesModel" ({ cls := "TwoScribesModel", name := "type", desc := "(C)I" } : Jvm.MethodName) ({ cls := "TwoScribesModel", name := "type", desc := "(C)I" } : Jvm.MethodName) ∈ GW := GW_mem 727 (by decide +kernel) (by decide +kernel)
theorem k728 : Jvm.Cond.code ({ cls := "TwoScribesModel", name := "type", desc := "(C)I" } : Jvm.MethodName) prog_8_method_28_code (2 : Nat) (Option.some Jvm.ClassFile.FieldType.int) ∈ GW := GW_mem 728 (by decide +kernel) (by decide +kernel)
theorem k729 : Jvm.Cond.methodLink "TwoScribesLaw" (52 : Nat) ({ cls := "TwoScribesModel", name := "clearText", desc := "()I" } : Jvm.MethodName) ∈ GW := GW_mem 729 (by decide +kernel) (by decide +kernel)
theorem k730 : Jvm.Cond.instanceMethod ({ cls := "TwoScribesModel", name := "clearText", desc := "()I" } : Jvm.MethodName) ∈ GW := GW_mem 730 (by decide +kernel) (by decide +kernel)
theorem k731 : Jvm.Cond.selects "TwoScribesModel" ({ cls := "TwoScribesModel", name := "clearText", desc := "()I" } : Jvm.MethodName) ({ cls := "TwoScribesModel", name := "clearText", desc := "()I" } : Jvm.MethodName) ∈ GW := GW_mem 731 (by decide +kernel) (by decide +kernel)
theorem k732 : Jvm.Cond.code ({ cls := "TwoScribesModel", name := "clearText", desc := "()I" } : Jvm.MethodName) prog_8_method_29_code (2 : Nat) (Option.some Jvm.ClassFile.FieldType.int) ∈ GW := GW_mem 732 (by decide +kernel) (by decide +kernel)
theorem k733 : Jvm.Cond.methodLink "TwoScribesLaw" (56 : Nat) ({ cls := "TwoScribesModel", name := "undo", desc := "()I" } : Jvm.MethodName) ∈ GW := GW_mem 733 (by decide +kernel) (by decide +kernel)
theorem k734 : Jvm.Cond.instanceMethod ({ cls := "TwoScribesModel", name := "undo", desc := "()I" } : Jvm.MethodName) ∈ GW := GW_mem 734 (by decide +kernel) (by decide +kernel)
theorem k735 : Jvm.Cond.selects "TwoScribesModel" ({ cls := "TwoScribesModel", name := "undo", desc := "()I" } : Jvm.MethodName) ({ cls := "TwoScribesModel", name := "undo", desc := "()I" } : Jvm.MethodName) ∈ GW := GW_mem 735 (by decide +kernel) (by decide +kernel)
theorem k736 : Jvm.Cond.code ({ cls := "TwoScribesModel", name := "undo", desc := "()I" } : Jvm.MethodName) prog_8_method_34_code (2 : Nat) (Option.some Jvm.ClassFile.FieldType.int) ∈ GW := GW_mem 736 (by decide +kernel) (by decide +kernel)
theorem k737 : Jvm.Cond.methodLink "TwoScribesLaw" (60 : Nat) ({ cls := "TwoScribesModel", name := "keep", desc := "()I" } : Jvm.MethodName) ∈ GW := GW_mem 737 (by decide +kernel) (by decide +kernel)
theorem k738 : Jvm.Cond.instanceMethod ({ cls := "TwoScribesModel", name := "keep", desc := "()I" } : Jvm.MethodName) ∈ GW := GW_mem 738 (by decide +kernel) (by decide +kernel)
theorem k739 : Jvm.Cond.selects "TwoScribesModel" ({ cls := "TwoScribesModel", name := "keep", desc := "()I" } : Jvm.MethodName) ({ cls := "TwoScribesModel", name := "keep", desc := "()I" } : Jvm.MethodName) ∈ GW := GW_mem 739 (by decide +kernel) (by decide +kernel)
theorem k740 : Jvm.Cond.code ({ cls := "TwoScribesModel", name := "keep", desc := "()I" } : Jvm.MethodName) prog_8_method_35_code (2 : Nat) (Option.some Jvm.ClassFile.FieldType.int) ∈ GW := GW_mem 740 (by decide +kernel) (by decide +kernel)
theorem k741 : Jvm.Cond.methodLink "TwoScribesLaw" (64 : Nat) ({ cls := "TwoScribesModel", name := "restore", desc := "()I" } : Jvm.MethodName) ∈ GW := GW_mem 741 (by decide +kernel) (by decide +kernel)
theorem k742 : Jvm.Cond.instanceMethod ({ cls := "TwoScribesModel", name := "restore", desc := "()I" } : Jvm.MethodName) ∈ GW := GW_mem 742 (by decide +kernel) (by decide +kernel)
theorem k743 : Jvm.Cond.selects "TwoScribesModel" ({ cls := "TwoScribesModel", name := "restore", desc := "()I" } : Jvm.MethodName) ({ cls := "TwoScribesModel", name := "restore", desc := "()I" } : Jvm.MethodName) ∈ GW := GW_mem 743 (by decide +kernel) (by decide +kernel)
theorem k744 : Jvm.Cond.code ({ cls := "TwoScribesModel", name := "restore", desc := "()I" } : Jvm.MethodName) prog_8_method_36_code (2 : Nat) (Option.some Jvm.ClassFile.FieldType.int) ∈ GW := GW_mem 744 (by decide +kernel) (by decide +kernel)
theorem k745 : Jvm.Cond.methodLink "TwoScribesLaw" (68 : Nat) ({ cls := "TwoScribesModel", name := "place", desc := "(II)I" } : Jvm.MethodName) ∈ GW := GW_mem 745 (by decide +kernel) (by decide +kernel)
theorem k746 : Jvm.Cond.instanceMethod ({ cls := "TwoScribesModel", name := "place", desc := "(II)I" } : Jvm.MethodName) ∈ GW := GW_mem 746 (by decide +kernel) (by decide +kernel)
theorem k747 : Jvm.Cond.selects "TwoScribesModel" ({ cls := "TwoScribesModel", name := "place", desc := "(II)I" } : Jvm.MethodName) ({ cls := "TwoScribesModel", name := "place", desc := "(II)I" } : Jvm.MethodName) ∈ GW := GW_mem 747 (by decide +kernel) (by decide +kernel)
theorem k748 : Jvm.Cond.code ({ cls := "TwoScribesModel", name := "place", desc := "(II)I" } : Jvm.MethodName) prog_8_method_37_code (3 : Nat) (Option.some Jvm.ClassFile.FieldType.int) ∈ GW := GW_mem 748 (by decide +kernel) (by decide +kernel)
theorem k749 : Jvm.Cond.methodLink "TwoScribesLaw" (72 : Nat) ({ cls := "TwoScribesModel", name := "scribe", desc := "(II)I" } : Jvm.MethodName) ∈ GW := GW_mem 749 (by decide +kernel) (by decide +kernel)
theorem k750 : Jvm.Cond.instanceMethod ({ cls := "TwoScribesModel", name := "scribe", desc := "(II)I" } : Jvm.MethodName) ∈ GW := GW_mem 750 (by decide +kernel) (by decide +kernel)
theorem k751 : Jvm.Cond.selects "TwoScribesModel" ({ cls := "TwoScribesModel", name := "scribe", desc := "(II)I" } : Jvm.MethodName) ({ cls := "TwoScribesModel", name := "scribe", desc := "(II)I" } : Jvm.MethodName) ∈ GW := GW_mem 751 (by decide +kernel) (by decide +kernel)
theorem k752 : Jvm.Cond.code ({ cls := "TwoScribesModel", name := "scribe", desc := "(II)I" } : Jvm.MethodName) prog_8_method_38_code (3 : Nat) (Option.some Jvm.ClassFile.FieldType.int) ∈ GW := GW_mem 752 (by decide +kernel) (by decide +kernel)
theorem k753 : Jvm.Cond.constantLong "TwoScribesModel" (129 : Nat) (6 : Int64) ∈ GW := GW_mem 753 (by decide +kernel) (by decide +kernel)
theorem k754 : Jvm.Cond.methodLink "TwoScribesLaw" (77 : Nat) ({ cls := "TwoScribesModel", name := "ink", desc := "(I)D" } : Jvm.MethodName) ∈ GW := GW_mem 754 (by decide +kernel) (by decide +kernel)
theorem k755 : Jvm.Cond.instanceMethod ({ cls := "TwoScribesModel", name := "ink", desc := "(I)D" } : Jvm.MethodName) ∈ GW := GW_mem 755 (by decide +kernel) (by decide +kernel)
theorem k756 : Jvm.Cond.selects "TwoScribesModel" ({ cls := "TwoScribesModel", name := "ink", desc := "(I)D" } : Jvm.MethodName) ({ cls := "TwoScribesModel", name := "ink", desc := "(I)D" } : Jvm.MethodName) ∈ GW := GW_mem 756 (by decide +kernel) (by decide +kernel)
theorem k757 : Jvm.Cond.code ({ cls := "TwoScribesModel", name := "ink", desc := "(I)D" } : Jvm.MethodName) prog_8_method_39_code (2 : Nat) (Option.some Jvm.ClassFile.FieldType.double) ∈ GW := GW_mem 757 (by decide +kernel) (by decide +kernel)
theorem k758 : Jvm.Cond.constantDouble "TwoScribesModel" (131 : Nat) (4634204016564240384 : UInt64) ∈ GW := GW_mem 758 (by decide +kernel) (by decide +kernel)
theorem k759 : Jvm.Cond.constantDouble "TwoScribesModel" (133 : Nat) (13830554455654793216 : UInt64) ∈ GW := GW_mem 759 (by decide +kernel) (by decide +kernel)
theorem k760 : Jvm.Cond.methodLink "TwoScribesLaw" (81 : Nat) ({ cls := "TwoScribesModel", name := "next", desc := "(I)I" } : Jvm.MethodName) ∈ GW := GW_mem 760 (by decide +kernel) (by decide +kernel)
theorem k761 : Jvm.Cond.instanceMethod ({ cls := "TwoScribesModel", name := "next", desc := "(I)I" } : Jvm.MethodName) ∈ GW := GW_mem 761 (by decide +kernel) (by decide +kernel)
theorem k762 : Jvm.Cond.selects "TwoScribesModel" ({ cls := "TwoScribesModel", name := "next", desc := "(I)I" } : Jvm.MethodName) ({ cls := "TwoScribesModel", name := "next", desc := "(I)I" } : Jvm.MethodName) ∈ GW := GW_mem 762 (by decide +kernel) (by decide +kernel)
theorem k763 : Jvm.Cond.code ({ cls := "TwoScribesModel", name := "next", desc := "(I)I" } : Jvm.MethodName) prog_8_method_40_code (3 : Nat) (Option.some Jvm.ClassFile.FieldType.int) ∈ GW := GW_mem 763 (by decide +kernel) (by decide +kernel)
theorem k764 : Jvm.Cond.methodLink "TwoScribesModel" (135 : Nat) ({ cls := "TwoScribesModel", name := "tries", desc := "()V" } : Jvm.MethodName) ∈ GW := GW_mem 764 (by decide +kernel) (by decide +kernel)
theorem k766 : Jvm.Cond.instanceMethod ({ cls := "TwoScribesModel", name := "tries", desc := "()V" } : Jvm.MethodName) ∈ GW := GW_mem 766 (by decide +kernel) (by decide +kernel)
theorem k767 : Jvm.Cond.code ({ cls := "TwoScribesModel", name := "tries", desc := "()V" } : Jvm.MethodName) prog_8_method_6_code (2 : Nat) (Option.none : Option Jvm.ClassFile.FieldType) ∈ GW := GW_mem 767 (by decide +kernel) (by decide +kernel)
theorem k768 : Jvm.Cond.methodLink "TwoScribesModel" (138 : Nat) ({ cls := "TwoScribesModel", name := "comesBack", desc := "()V" } : Jvm.MethodName) ∈ GW := GW_mem 768 (by decide +kernel) (by decide +kernel)
theorem k770 : Jvm.Cond.instanceMethod ({ cls := "TwoScribesModel", name := "comesBack", desc := "()V" } : Jvm.MethodName) ∈ GW := GW_mem 770 (by decide +kernel) (by decide +kernel)
theorem k771 : Jvm.Cond.code ({ cls := "TwoScribesModel", name := "comesBack", desc := "()V" } : Jvm.MethodName) prog_8_method_7_code (2 : Nat) (Option.none : Option Jvm.ClassFile.FieldType) ∈ GW := GW_mem 771 (by decide +kernel) (by decide +kernel)
theorem k772 : Jvm.Cond.methodLink "TwoScribesLaw" (85 : Nat) ({ cls := "TwoScribesModel", name := "doneIn", desc := "()I" } : Jvm.MethodName) ∈ GW := GW_mem 772 (by decide +kernel) (by decide +kernel)
theorem k773 : Jvm.Cond.instanceMethod ({ cls := "TwoScribesModel", name := "doneIn", desc := "()I" } : Jvm.MethodName) ∈ GW := GW_mem 773 (by decide +kernel) (by decide +kernel)
theorem k774 : Jvm.Cond.selects "TwoScribesModel" ({ cls := "TwoScribesModel", name := "doneIn", desc := "()I" } : Jvm.MethodName) ({ cls := "TwoScribesModel", name := "doneIn", desc := "()I" } : Jvm.MethodName) ∈ GW := GW_mem 774 (by decide +kernel) (by decide +kernel)
theorem k775 : Jvm.Cond.code ({ cls := "TwoScribesModel", name := "doneIn", desc := "()I" } : Jvm.MethodName) prog_8_method_42_code (1 : Nat) (Option.some Jvm.ClassFile.FieldType.int) ∈ GW := GW_mem 775 (by decide +kernel) (by decide +kernel)
theorem k776 : Jvm.Cond.methodLink "TwoScribesModel" (144 : Nat) ({ cls := "TwoScribesModel", name := "doneBehind", desc := "()I" } : Jvm.MethodName) ∈ GW := GW_mem 776 (by decide +kernel) (by decide +kernel)
theorem k778 : Jvm.Cond.instanceMethod ({ cls := "TwoScribesModel", name := "doneBehind", desc := "()I" } : Jvm.MethodName) ∈ GW := GW_mem 778 (by decide +kernel) (by decide +kernel)
theorem k779 : Jvm.Cond.code ({ cls := "TwoScribesModel", name := "doneBehind", desc := "()I" } : Jvm.MethodName) prog_8_method_41_code (2 : Nat) (Option.some Jvm.ClassFile.FieldType.int) ∈ GW := GW_mem 779 (by decide +kernel) (by decide +kernel)
theorem k780 : Jvm.Cond.methodLink "TwoScribesModel" (141 : Nat) ({ cls := "TwoScribesModel", name := "isDone", desc := "()Z" } : Jvm.MethodName) ∈ GW := GW_mem 780 (by decide +kernel) (by decide +kernel)
theorem k782 : Jvm.Cond.instanceMethod ({ cls := "TwoScribesModel", name := "isDone", desc := "()Z" } : Jvm.MethodName) ∈ GW := GW_mem 782 (by decide +kernel) (by decide +kernel)
theorem k783 : Jvm.Cond.code ({ cls := "TwoScribesModel", name := "isDone", desc := "()Z" } : Jvm.MethodName) prog_8_method_12_code (1 : Nat) (Option.some Jvm.ClassFile.FieldType.boolean) ∈ GW := GW_mem 783 (by decide +kernel) (by decide +kernel)
theorem k784 : Jvm.Cond.methodLink "TwoScribesLaw" (89 : Nat) ({ cls := "TwoScribesModel", name := "unlikePairs", desc := "()I" } : Jvm.MethodName) ∈ GW := GW_mem 784 (by decide +kernel) (by decide +kernel)
theorem k785 : Jvm.Cond.instanceMethod ({ cls := "TwoScribesModel", name := "unlikePairs", desc := "()I" } : Jvm.MethodName) ∈ GW := GW_mem 785 (by decide +kernel) (by decide +kernel)
theorem k786 : Jvm.Cond.selects "TwoScribesModel" ({ cls := "TwoScribesModel", name := "unlikePairs", desc := "()I" } : Jvm.MethodName) ({ cls := "TwoScribesModel", name := "unlikePairs", desc := "()I" } : Jvm.MethodName) ∈ GW := GW_mem 786 (by decide +kernel) (by decide +kernel)
theorem k787 : Jvm.Cond.code ({ cls := "TwoScribesModel", name := "unlikePairs", desc := "()I" } : Jvm.MethodName) prog_8_method_43_code (4 : Nat) (Option.some Jvm.ClassFile.FieldType.int) ∈ GW := GW_mem 787 (by decide +kernel) (by decide +kernel)
theorem k788 : Jvm.Cond.methodLink "TwoScribesLaw" (93 : Nat) ({ cls := "TwoScribesModel", name := "unlikeReadings", desc := "()I" } : Jvm.MethodName) ∈ GW := GW_mem 788 (by decide +kernel) (by decide +kernel)
theorem k789 : Jvm.Cond.instanceMethod ({ cls := "TwoScribesModel", name := "unlikeReadings", desc := "()I" } : Jvm.MethodName) ∈ GW := GW_mem 789 (by decide +kernel) (by decide +kernel)
theorem k790 : Jvm.Cond.selects "TwoScribesModel" ({ cls := "TwoScribesModel", name := "unlikeReadings", desc := "()I" } : Jvm.MethodName) ({ cls := "TwoScribesModel", name := "unlikeReadings", desc := "()I" } : Jvm.MethodName) ∈ GW := GW_mem 790 (by decide +kernel) (by decide +kernel)
theorem k791 : Jvm.Cond.code ({ cls := "TwoScribesModel", name := "unlikeReadings", desc := "()I" } : Jvm.MethodName) prog_8_method_44_code (4 : Nat) (Option.some Jvm.ClassFile.FieldType.int) ∈ GW := GW_mem 791 (by decide +kernel) (by decide +kernel)
theorem k792 : Jvm.Cond.methodLink "TwoScribesLaw" (98 : Nat) ({ cls := "TwoScribesModel", name := "needed", desc := "()D" } : Jvm.MethodName) ∈ GW := GW_mem 792 (by decide +kernel) (by decide +kernel)
theorem k793 : Jvm.Cond.instanceMethod ({ cls := "TwoScribesModel", name := "needed", desc := "()D" } : Jvm.MethodName) ∈ GW := GW_mem 793 (by decide +kernel) (by decide +kernel)
theorem k794 : Jvm.Cond.selects "TwoScribesModel" ({ cls := "TwoScribesModel", name := "needed", desc := "()D" } : Jvm.MethodName) ({ cls := "TwoScribesModel", name := "needed", desc := "()D" } : Jvm.MethodName) ∈ GW := GW_mem 794 (by decide +kernel) (by decide +kernel)
theorem k795 : Jvm.Cond.code ({ cls := "TwoScribesModel", name := "needed", desc := "()D" } : Jvm.MethodName) prog_8_method_45_code (3 : Nat) (Option.some Jvm.ClassFile.FieldType.double) ∈ GW := GW_mem 795 (by decide +kernel) (by decide +kernel)
theorem k796 : Jvm.Cond.methodLink "TwoScribesLaw" (102 : Nat) ({ cls := "TwoScribesModel", name := "bestPace", desc := "(I)I" } : Jvm.MethodName) ∈ GW := GW_mem 796 (by decide +kernel) (by decide +kernel)
theorem k797 : Jvm.Cond.instanceMethod ({ cls := "TwoScribesModel", name := "bestPace", desc := "(I)I" } : Jvm.MethodName) ∈ GW := GW_mem 797 (by decide +kernel) (by decide +kernel)
theorem k798 : Jvm.Cond.selects "TwoScribesModel" ({ cls := "TwoScribesModel", name := "bestPace", desc := "(I)I" } : Jvm.MethodName) ({ cls := "TwoScribesModel", name := "bestPace", desc := "(I)I" } : Jvm.MethodName) ∈ GW := GW_mem 798 (by decide +kernel) (by decide +kernel)
theorem k799 : Jvm.Cond.code ({ cls := "TwoScribesModel", name := "bestPace", desc := "(I)I" } : Jvm.MethodName) prog_8_method_46_code (7 : Nat) (Option.some Jvm.ClassFile.FieldType.int) ∈ GW := GW_mem 799 (by decide +kernel) (by decide +kernel)
theorem k800 : Jvm.Cond.methodLink "TwoScribesLaw" (106 : Nat) ({ cls := "TwoScribesModel", name := "count", desc := "(I)I" } : Jvm.MethodName) ∈ GW := GW_mem 800 (by decide +kernel) (by decide +kernel)
theorem k801 : Jvm.Cond.instanceMethod ({ cls := "TwoScribesModel", name := "count", desc := "(I)I" } : Jvm.MethodName) ∈ GW := GW_mem 801 (by decide +kernel) (by decide +kernel)
theorem k802 : Jvm.Cond.selects "TwoScribesModel" ({ cls := "TwoScribesModel", name := "count", desc := "(I)I" } : Jvm.MethodName) ({ cls := "TwoScribesModel", name := "count", desc := "(I)I" } : Jvm.MethodName) ∈ GW := GW_mem 802 (by decide +kernel) (by decide +kernel)
theorem k803 : Jvm.Cond.code ({ cls := "TwoScribesModel", name := "count", desc := "(I)I" } : Jvm.MethodName) prog_8_method_48_code (2 : Nat) (Option.some Jvm.ClassFile.FieldType.int) ∈ GW := GW_mem 803 (by decide +kernel) (by decide +kernel)
theorem k804 : Jvm.Cond.methodLink "TwoScribesModel" (147 : Nat) ({ cls := "TwoScribesModel", name := "places", desc := "(I)I" } : Jvm.MethodName) ∈ GW := GW_mem 804 (by decide +kernel) (by decide +kernel)
theorem k806 : Jvm.Cond.instanceMethod ({ cls := "TwoScribesModel", name := "places", desc := "(I)I" } : Jvm.MethodName) ∈ GW := GW_mem 806 (by decide +kernel) (by decide +kernel)
theorem k807 : Jvm.Cond.code ({ cls := "TwoScribesModel", name := "places", desc := "(I)I" } : Jvm.MethodName) prog_8_method_47_code (5 : Nat) (Option.some Jvm.ClassFile.FieldType.int) ∈ GW := GW_mem 807 (by decide +kernel) (by decide +kernel)
def NSTF : List (String × Nat × String × String × String × String) := [("TwoScribes$State", 116, "TwoScribes$Page", "due", "[I", "TwoScribes"), ("TwoScribes", 161, "TwoScribes$Page", "due", "[I", "TwoScribes"), ("TwoScribes", 71, "TwoScribes$Page", "told", "[I", "TwoScribes"), ("TwoScribes", 164, "TwoScribes$Page", "written", "[I", "TwoScribes"), ("TwoScribes", 179, "TwoScribes$Page", "writtenIn", "[I", "TwoScribes"), ("TwoScribes", 167, "TwoScribes$Page", "blots", "[I", "TwoScribes"), ("TwoScribes", 170, "TwoScribes$Page", "corrected", "[I", "TwoScribes"), ("TwoScribes", 59, "TwoScribes$Page", "places", "I", "TwoScribes"), ("TwoScribes$State", 79, "TwoScribes$Page", "places", "I", "TwoScribes"), ("TwoScribes$State", 104, "TwoScribes$Page", "corrections", "I", "TwoScribes"), ("TwoScribes", 107, "TwoScribes$Scribe", "pace", "I", "TwoScribes"), ("TwoScribes$State", 151, "TwoScribes$Scribe", "pace", "I", "TwoScribes"), ("TwoScribes$State", 74, "TwoScribes$Scribe", "letters", "I", "TwoScribes"), ("TwoScribes", 182, "TwoScribes$Scribe", "letters", "I", "TwoScribes"), ("TwoScribes$State", 94, "TwoScribes$Scribe", "spent", "I", "TwoScribes"), ("TwoScribes", 186, "TwoScribes$Scribe", "spent", "I", "TwoScribes"), ("TwoScribes$State", 127, "TwoScribes$Scribe", "dipLeft", "I", "TwoScribes"), ("TwoScribes", 189, "TwoScribes$Scribe", "dipLeft", "I", "TwoScribes"), ("TwoScribes$State", 148, "TwoScribes$Scribe", "dips", "I", "TwoScribes"), ("TwoScribes", 192, "TwoScribes$Scribe", "dips", "I", "TwoScribes"), ("TwoScribes$State", 145, "TwoScribes$Scribe", "waits", "I", "TwoScribes"), ("TwoScribes", 195, "TwoScribes$Scribe", "waits", "I", "TwoScribes"), ("TwoScribes$State", 130, "TwoScribes$Scribe", "pen", "F", "TwoScribes"), ("TwoScribes", 202, "TwoScribes$Scribe", "pen", "F", "TwoScribes"), ("TwoScribes", 55, "TwoScribes$State", "page", "LTwoScribes$Page;", "TwoScribes"), ("TwoScribes", 198, "TwoScribes$State", "left", "LTwoScribes$Scribe;", "TwoScribes"), ("TwoScribes", 205, "TwoScribes$State", "right", "LTwoScribes$Scribe;", "TwoScribes"), ("TwoScribes", 126, "TwoScribes$State", "settings", "[I", "TwoScribes"), ("TwoScribes", 115, "TwoScribes$State", "well", "F", "TwoScribes"), ("TwoScribes", 208, "TwoScribes$State", "letterInk", "F", "TwoScribes"), ("TwoScribes", 211, "TwoScribes$State", "correctionInk", "F", "TwoScribes"), ("TwoScribes", 129, "TwoScribes$State", "tick", "I", "TwoScribes"), ("TwoScribes", 245, "TwoScribes$State", "pages", "I", "TwoScribes"), ("TwoScribes", 133, "TwoScribes$State", "letters", "I", "TwoScribes"), ("TwoScribes", 112, "TwoScribes$State", "poured", "I", "TwoScribes"), ("TwoScribes", 151, "TwoScribes$History", "size", "I", "TwoScribes"), ("TwoScribes$Page", 53, "TwoScribes$PageText", "letters", "[I", "TwoScribes"), ("TwoScribes$Page", 50, "TwoScribes$PageText", "misreadings", "[I", "TwoScribes"), ("TwoScribes", 144, "TwoScribes$PageText", "length", "I", "TwoScribes"), ("TwoScribes", 44, "TwoScribes$PageText", "half", "I", "TwoScribes"), ("TwoScribes$Page", 41, "TwoScribes$PageText", "half", "I", "TwoScribes"), ("TwoScribes", 40, "TwoScribes$PageText", "farthest", "I", "TwoScribes")]
def NSTM : List (String × Nat × MethodName × String) := [("TwoScribes", 9, ⟨"TwoScribes$State", "<init>", "()V"⟩, "TwoScribes"), ("TwoScribes$State", 11, ⟨"TwoScribes$Page", "<init>", "()V"⟩, "TwoScribes"), ("TwoScribes$State", 20, ⟨"TwoScribes$Scribe", "<init>", "()V"⟩, "TwoScribes"), ("TwoScribes$History", 17, ⟨"TwoScribes$State", "<init>", "()V"⟩, "TwoScribes"), ("TwoScribes", 31, ⟨"TwoScribes$PageText", "<init>", "()V"⟩, "TwoScribes"), ("TwoScribes$PageText", 46, ⟨"TwoScribes", "clearRow", "([I)V"⟩, "TwoScribes"), ("TwoScribes$PageText", 54, ⟨"TwoScribes", "put", "([III)V"⟩, "TwoScribes"), ("TwoScribes$Page", 30, ⟨"TwoScribes", "copyRow", "([I[I)V"⟩, "TwoScribes"), ("TwoScribes$State", 44, ⟨"TwoScribes", "copyRow", "([I[I)V"⟩, "TwoScribes"), ("TwoScribes$Page", 46, ⟨"TwoScribes", "clearRow", "([I)V"⟩, "TwoScribes"), ("TwoScribes$Page", 56, ⟨"TwoScribes", "at", "([II)I"⟩, "TwoScribes"), ("TwoScribes$Page", 60, ⟨"TwoScribes", "put", "([III)V"⟩, "TwoScribes"), ("TwoScribes$State", 100, ⟨"TwoScribes", "at", "([II)I"⟩, "TwoScribes"), ("TwoScribes$State", 119, ⟨"TwoScribes", "inkFor", "(I)F"⟩, "TwoScribes")]
def NOK (U : State) : Prop := (∀ q ∈ NSTF, va_Nw (.fieldLinkNest q.1 q.2.1 q.2.2.1 q.2.2.2.1 q.2.2.2.2.1 q.2.2.2.2.2) U) ∧ ∀ q ∈ NSTM, va_Nw (.methodLinkNest q.1 q.2.1 q.2.2.1 q.2.2.2) U
theorem NOK.warm {s U : State} (hW : s.WarmedH U.vm) (h : NOK s) : NOK U := ⟨fun q hq => va_Nw.warmF hW (h.1 q hq), fun q hq => va_Nw.warmM hW (h.2 q hq)⟩
theorem NOK.same {u U : State} (h : u.vm = U.vm) (hN : NOK u) : NOK U := ⟨fun q hq => va_Nw.same rfl h (hN.1 q hq), fun q hq => va_Nw.same rfl h (hN.2 q hq)⟩
theorem nfTwoScribes_State_116 {U : State} (h : NOK U) : va_Nw (.fieldLinkNest "TwoScribes$State" 116 "TwoScribes$Page" "due" "[I" "TwoScribes") U := h.1 ("TwoScribes$State", 116, "TwoScribes$Page", "due", "[I", "TwoScribes") (List.mem_of_getElem? (i := 0) rfl)
theorem nfTwoScribes_161 {U : State} (h : NOK U) : va_Nw (.fieldLinkNest "TwoScribes" 161 "TwoScribes$Page" "due" "[I" "TwoScribes") U := h.1 ("TwoScribes", 161, "TwoScribes$Page", "due", "[I", "TwoScribes") (List.mem_of_getElem? (i := 1) rfl)
theorem nfTwoScribes_71 {U : State} (h : NOK U) : va_Nw (.fieldLinkNest "TwoScribes" 71 "TwoScribes$Page" "told" "[I" "TwoScribes") U := h.1 ("TwoScribes", 71, "TwoScribes$Page", "told", "[I", "TwoScribes") (List.mem_of_getElem? (i := 2) rfl)
theorem nfTwoScribes_164 {U : State} (h : NOK U) : va_Nw (.fieldLinkNest "TwoScribes" 164 "TwoScribes$Page" "written" "[I" "TwoScribes") U := h.1 ("TwoScribes", 164, "TwoScribes$Page", "written", "[I", "TwoScribes") (List.mem_of_getElem? (i := 3) rfl)
theorem nfTwoScribes_179 {U : State} (h : NOK U) : va_Nw (.fieldLinkNest "TwoScribes" 179 "TwoScribes$Page" "writtenIn" "[I" "TwoScribes") U := h.1 ("TwoScribes", 179, "TwoScribes$Page", "writtenIn", "[I", "TwoScribes") (List.mem_of_getElem? (i := 4) rfl)
theorem nfTwoScribes_167 {U : State} (h : NOK U) : va_Nw (.fieldLinkNest "TwoScribes" 167 "TwoScribes$Page" "blots" "[I" "TwoScribes") U := h.1 ("TwoScribes", 167, "TwoScribes$Page", "blots", "[I", "TwoScribes") (List.mem_of_getElem? (i := 5) rfl)
theorem nfTwoScribes_170 {U : State} (h : NOK U) : va_Nw (.fieldLinkNest "TwoScribes" 170 "TwoScribes$Page" "corrected" "[I" "TwoScribes") U := h.1 ("TwoScribes", 170, "TwoScribes$Page", "corrected", "[I", "TwoScribes") (List.mem_of_getElem? (i := 6) rfl)
theorem nfTwoScribes_59 {U : State} (h : NOK U) : va_Nw (.fieldLinkNest "TwoScribes" 59 "TwoScribes$Page" "places" "I" "TwoScribes") U := h.1 ("TwoScribes", 59, "TwoScribes$Page", "places", "I", "TwoScribes") (List.mem_of_getElem? (i := 7) rfl)
theorem nfTwoScribes_State_79 {U : State} (h : NOK U) : va_Nw (.fieldLinkNest "TwoScribes$State" 79 "TwoScribes$Page" "places" "I" "TwoScribes") U := h.1 ("TwoScribes$State", 79, "TwoScribes$Page", "places", "I", "TwoScribes") (List.mem_of_getElem? (i := 8) rfl)
theorem nfTwoScribes_State_104 {U : State} (h : NOK U) : va_Nw (.fieldLinkNest "TwoScribes$State" 104 "TwoScribes$Page" "corrections" "I" "TwoScribes") U := h.1 ("TwoScribes$State", 104, "TwoScribes$Page", "corrections", "I", "TwoScribes") (List.mem_of_getElem? (i := 9) rfl)
theorem nfTwoScribes_107 {U : State} (h : NOK U) : va_Nw (.fieldLinkNest "TwoScribes" 107 "TwoScribes$Scribe" "pace" "I" "TwoScribes") U := h.1 ("TwoScribes", 107, "TwoScribes$Scribe", "pace", "I", "TwoScribes") (List.mem_of_getElem? (i := 10) rfl)
theorem nfTwoScribes_State_151 {U : State} (h : NOK U) : va_Nw (.fieldLinkNest "TwoScribes$State" 151 "TwoScribes$Scribe" "pace" "I" "TwoScribes") U := h.1 ("TwoScribes$State", 151, "TwoScribes$Scribe", "pace", "I", "TwoScribes") (List.mem_of_getElem? (i := 11) rfl)
theorem nfTwoScribes_State_74 {U : State} (h : NOK U) : va_Nw (.fieldLinkNest "TwoScribes$State" 74 "TwoScribes$Scribe" "letters" "I" "TwoScribes") U := h.1 ("TwoScribes$State", 74, "TwoScribes$Scribe", "letters", "I", "TwoScribes") (List.mem_of_getElem? (i := 12) rfl)
theorem nfTwoScribes_182 {U : State} (h : NOK U) : va_Nw (.fieldLinkNest "TwoScribes" 182 "TwoScribes$Scribe" "letters" "I" "TwoScribes") U := h.1 ("TwoScribes", 182, "TwoScribes$Scribe", "letters", "I", "TwoScribes") (List.mem_of_getElem? (i := 13) rfl)
theorem nfTwoScribes_State_94 {U : State} (h : NOK U) : va_Nw (.fieldLinkNest "TwoScribes$State" 94 "TwoScribes$Scribe" "spent" "I" "TwoScribes") U := h.1 ("TwoScribes$State", 94, "TwoScribes$Scribe", "spent", "I", "TwoScribes") (List.mem_of_getElem? (i := 14) rfl)
theorem nfTwoScribes_186 {U : State} (h : NOK U) : va_Nw (.fieldLinkNest "TwoScribes" 186 "TwoScribes$Scribe" "spent" "I" "TwoScribes") U := h.1 ("TwoScribes", 186, "TwoScribes$Scribe", "spent", "I", "TwoScribes") (List.mem_of_getElem? (i := 15) rfl)
theorem nfTwoScribes_State_127 {U : State} (h : NOK U) : va_Nw (.fieldLinkNest "TwoScribes$State" 127 "TwoScribes$Scribe" "dipLeft" "I" "TwoScribes") U := h.1 ("TwoScribes$State", 127, "TwoScribes$Scribe", "dipLeft", "I", "TwoScribes") (List.mem_of_getElem? (i := 16) rfl)
theorem nfTwoScribes_189 {U : State} (h : NOK U) : va_Nw (.fieldLinkNest "TwoScribes" 189 "TwoScribes$Scribe" "dipLeft" "I" "TwoScribes") U := h.1 ("TwoScribes", 189, "TwoScribes$Scribe", "dipLeft", "I", "TwoScribes") (List.mem_of_getElem? (i := 17) rfl)
theorem nfTwoScribes_State_148 {U : State} (h : NOK U) : va_Nw (.fieldLinkNest "TwoScribes$State" 148 "TwoScribes$Scribe" "dips" "I" "TwoScribes") U := h.1 ("TwoScribes$State", 148, "TwoScribes$Scribe", "dips", "I", "TwoScribes") (List.mem_of_getElem? (i := 18) rfl)
theorem nfTwoScribes_192 {U : State} (h : NOK U) : va_Nw (.fieldLinkNest "TwoScribes" 192 "TwoScribes$Scribe" "dips" "I" "TwoScribes") U := h.1 ("TwoScribes", 192, "TwoScribes$Scribe", "dips", "I", "TwoScribes") (List.mem_of_getElem? (i := 19) rfl)
theorem nfTwoScribes_State_145 {U : State} (h : NOK U) : va_Nw (.fieldLinkNest "TwoScribes$State" 145 "TwoScribes$Scribe" "waits" "I" "TwoScribes") U := h.1 ("TwoScribes$State", 145, "TwoScribes$Scribe", "waits", "I", "TwoScribes") (List.mem_of_getElem? (i := 20) rfl)
theorem nfTwoScribes_195 {U : State} (h : NOK U) : va_Nw (.fieldLinkNest "TwoScribes" 195 "TwoScribes$Scribe" "waits" "I" "TwoScribes") U := h.1 ("TwoScribes", 195, "TwoScribes$Scribe", "waits", "I", "TwoScribes") (List.mem_of_getElem? (i := 21) rfl)
theorem nfTwoScribes_State_130 {U : State} (h : NOK U) : va_Nw (.fieldLinkNest "TwoScribes$State" 130 "TwoScribes$Scribe" "pen" "F" "TwoScribes") U := h.1 ("TwoScribes$State", 130, "TwoScribes$Scribe", "pen", "F", "TwoScribes") (List.mem_of_getElem? (i := 22) rfl)
theorem nfTwoScribes_202 {U : State} (h : NOK U) : va_Nw (.fieldLinkNest "TwoScribes" 202 "TwoScribes$Scribe" "pen" "F" "TwoScribes") U := h.1 ("TwoScribes", 202, "TwoScribes$Scribe", "pen", "F", "TwoScribes") (List.mem_of_getElem? (i := 23) rfl)
theorem nfTwoScribes_55 {U : State} (h : NOK U) : va_Nw (.fieldLinkNest "TwoScribes" 55 "TwoScribes$State" "page" "LTwoScribes$Page;" "TwoScribes") U := h.1 ("TwoScribes", 55, "TwoScribes$State", "page", "LTwoScribes$Page;", "TwoScribes") (List.mem_of_getElem? (i := 24) rfl)
theorem nfTwoScribes_198 {U : State} (h : NOK U) : va_Nw (.fieldLinkNest "TwoScribes" 198 "TwoScribes$State" "left" "LTwoScribes$Scribe;" "TwoScribes") U := h.1 ("TwoScribes", 198, "TwoScribes$State", "left", "LTwoScribes$Scribe;", "TwoScribes") (List.mem_of_getElem? (i := 25) rfl)
theorem nfTwoScribes_205 {U : State} (h : NOK U) : va_Nw (.fieldLinkNest "TwoScribes" 205 "TwoScribes$State" "right" "LTwoScribes$Scribe;" "TwoScribes") U := h.1 ("TwoScribes", 205, "TwoScribes$State", "right", "LTwoScribes$Scribe;", "TwoScribes") (List.mem_of_getElem? (i := 26) rfl)
theorem nfTwoScribes_126 {U : State} (h : NOK U) : va_Nw (.fieldLinkNest "TwoScribes" 126 "TwoScribes$State" "settings" "[I" "TwoScribes") U := h.1 ("TwoScribes", 126, "TwoScribes$State", "settings", "[I", "TwoScribes") (List.mem_of_getElem? (i := 27) rfl)
theorem nfTwoScribes_115 {U : State} (h : NOK U) : va_Nw (.fieldLinkNest "TwoScribes" 115 "TwoScribes$State" "well" "F" "TwoScribes") U := h.1 ("TwoScribes", 115, "TwoScribes$State", "well", "F", "TwoScribes") (List.mem_of_getElem? (i := 28) rfl)
theorem nfTwoScribes_208 {U : State} (h : NOK U) : va_Nw (.fieldLinkNest "TwoScribes" 208 "TwoScribes$State" "letterInk" "F" "TwoScribes") U := h.1 ("TwoScribes", 208, "TwoScribes$State", "letterInk", "F", "TwoScribes") (List.mem_of_getElem? (i := 29) rfl)
theorem nfTwoScribes_211 {U : State} (h : NOK U) : va_Nw (.fieldLinkNest "TwoScribes" 211 "TwoScribes$State" "correctionInk" "F" "TwoScribes") U := h.1 ("TwoScribes", 211, "TwoScribes$State", "correctionInk", "F", "TwoScribes") (List.mem_of_getElem? (i := 30) rfl)
theorem nfTwoScribes_129 {U : State} (h : NOK U) : va_Nw (.fieldLinkNest "TwoScribes" 129 "TwoScribes$State" "tick" "I" "TwoScribes") U := h.1 ("TwoScribes", 129, "TwoScribes$State", "tick", "I", "TwoScribes") (List.mem_of_getElem? (i := 31) rfl)
theorem nfTwoScribes_245 {U : State} (h : NOK U) : va_Nw (.fieldLinkNest "TwoScribes" 245 "TwoScribes$State" "pages" "I" "TwoScribes") U := h.1 ("TwoScribes", 245, "TwoScribes$State", "pages", "I", "TwoScribes") (List.mem_of_getElem? (i := 32) rfl)
theorem nfTwoScribes_133 {U : State} (h : NOK U) : va_Nw (.fieldLinkNest "TwoScribes" 133 "TwoScribes$State" "letters" "I" "TwoScribes") U := h.1 ("TwoScribes", 133, "TwoScribes$State", "letters", "I", "TwoScribes") (List.mem_of_getElem? (i := 33) rfl)
theorem nfTwoScribes_112 {U : State} (h : NOK U) : va_Nw (.fieldLinkNest "TwoScribes" 112 "TwoScribes$State" "poured" "I" "TwoScribes") U := h.1 ("TwoScribes", 112, "TwoScribes$State", "poured", "I", "TwoScribes") (List.mem_of_getElem? (i := 34) rfl)
theorem nfTwoScribes_151 {U : State} (h : NOK U) : va_Nw (.fieldLinkNest "TwoScribes" 151 "TwoScribes$History" "size" "I" "TwoScribes") U := h.1 ("TwoScribes", 151, "TwoScribes$History", "size", "I", "TwoScribes") (List.mem_of_getElem? (i := 35) rfl)
theorem nfTwoScribes_Page_53 {U : State} (h : NOK U) : va_Nw (.fieldLinkNest "TwoScribes$Page" 53 "TwoScribes$PageText" "letters" "[I" "TwoScribes") U := h.1 ("TwoScribes$Page", 53, "TwoScribes$PageText", "letters", "[I", "TwoScribes") (List.mem_of_getElem? (i := 36) rfl)
theorem nfTwoScribes_Page_50 {U : State} (h : NOK U) : va_Nw (.fieldLinkNest "TwoScribes$Page" 50 "TwoScribes$PageText" "misreadings" "[I" "TwoScribes") U := h.1 ("TwoScribes$Page", 50, "TwoScribes$PageText", "misreadings", "[I", "TwoScribes") (List.mem_of_getElem? (i := 37) rfl)
theorem nfTwoScribes_144 {U : State} (h : NOK U) : va_Nw (.fieldLinkNest "TwoScribes" 144 "TwoScribes$PageText" "length" "I" "TwoScribes") U := h.1 ("TwoScribes", 144, "TwoScribes$PageText", "length", "I", "TwoScribes") (List.mem_of_getElem? (i := 38) rfl)
theorem nfTwoScribes_44 {U : State} (h : NOK U) : va_Nw (.fieldLinkNest "TwoScribes" 44 "TwoScribes$PageText" "half" "I" "TwoScribes") U := h.1 ("TwoScribes", 44, "TwoScribes$PageText", "half", "I", "TwoScribes") (List.mem_of_getElem? (i := 39) rfl)
theorem nfTwoScribes_Page_41 {U : State} (h : NOK U) : va_Nw (.fieldLinkNest "TwoScribes$Page" 41 "TwoScribes$PageText" "half" "I" "TwoScribes") U := h.1 ("TwoScribes$Page", 41, "TwoScribes$PageText", "half", "I", "TwoScribes") (List.mem_of_getElem? (i := 40) rfl)
theorem nfTwoScribes_40 {U : State} (h : NOK U) : va_Nw (.fieldLinkNest "TwoScribes" 40 "TwoScribes$PageText" "farthest" "I" "TwoScribes") U := h.1 ("TwoScribes", 40, "TwoScribes$PageText", "farthest", "I", "TwoScribes") (List.mem_of_getElem? (i := 41) rfl)
theorem nmTwoScribes_9 {U : State} (h : NOK U) : va_Nw (.methodLinkNest "TwoScribes" 9 ⟨"TwoScribes$State", "<init>", "()V"⟩ "TwoScribes") U := h.2 ("TwoScribes", 9, ⟨"TwoScribes$State", "<init>", "()V"⟩, "TwoScribes") (List.mem_of_getElem? (i := 0) rfl)
theorem nmTwoScribes_State_11 {U : State} (h : NOK U) : va_Nw (.methodLinkNest "TwoScribes$State" 11 ⟨"TwoScribes$Page", "<init>", "()V"⟩ "TwoScribes") U := h.2 ("TwoScribes$State", 11, ⟨"TwoScribes$Page", "<init>", "()V"⟩, "TwoScribes") (List.mem_of_getElem? (i := 1) rfl)
theorem nmTwoScribes_State_20 {U : State} (h : NOK U) : va_Nw (.methodLinkNest "TwoScribes$State" 20 ⟨"TwoScribes$Scribe", "<init>", "()V"⟩ "TwoScribes") U := h.2 ("TwoScribes$State", 20, ⟨"TwoScribes$Scribe", "<init>", "()V"⟩, "TwoScribes") (List.mem_of_getElem? (i := 2) rfl)
theorem nmTwoScribes_History_17 {U : State} (h : NOK U) : va_Nw (.methodLinkNest "TwoScribes$History" 17 ⟨"TwoScribes$State", "<init>", "()V"⟩ "TwoScribes") U := h.2 ("TwoScribes$History", 17, ⟨"TwoScribes$State", "<init>", "()V"⟩, "TwoScribes") (List.mem_of_getElem? (i := 3) rfl)
theorem nmTwoScribes_31 {U : State} (h : NOK U) : va_Nw (.methodLinkNest "TwoScribes" 31 ⟨"TwoScribes$PageText", "<init>", "()V"⟩ "TwoScribes") U := h.2 ("TwoScribes", 31, ⟨"TwoScribes$PageText", "<init>", "()V"⟩, "TwoScribes") (List.mem_of_getElem? (i := 4) rfl)
theorem nmTwoScribes_PageText_46 {U : State} (h : NOK U) : va_Nw (.methodLinkNest "TwoScribes$PageText" 46 ⟨"TwoScribes", "clearRow", "([I)V"⟩ "TwoScribes") U := h.2 ("TwoScribes$PageText", 46, ⟨"TwoScribes", "clearRow", "([I)V"⟩, "TwoScribes") (List.mem_of_getElem? (i := 5) rfl)
theorem nmTwoScribes_PageText_54 {U : State} (h : NOK U) : va_Nw (.methodLinkNest "TwoScribes$PageText" 54 ⟨"TwoScribes", "put", "([III)V"⟩ "TwoScribes") U := h.2 ("TwoScribes$PageText", 54, ⟨"TwoScribes", "put", "([III)V"⟩, "TwoScribes") (List.mem_of_getElem? (i := 6) rfl)
theorem nmTwoScribes_Page_30 {U : State} (h : NOK U) : va_Nw (.methodLinkNest "TwoScribes$Page" 30 ⟨"TwoScribes", "copyRow", "([I[I)V"⟩ "TwoScribes") U := h.2 ("TwoScribes$Page", 30, ⟨"TwoScribes", "copyRow", "([I[I)V"⟩, "TwoScribes") (List.mem_of_getElem? (i := 7) rfl)
theorem nmTwoScribes_State_44 {U : State} (h : NOK U) : va_Nw (.methodLinkNest "TwoScribes$State" 44 ⟨"TwoScribes", "copyRow", "([I[I)V"⟩ "TwoScribes") U := h.2 ("TwoScribes$State", 44, ⟨"TwoScribes", "copyRow", "([I[I)V"⟩, "TwoScribes") (List.mem_of_getElem? (i := 8) rfl)
theorem nmTwoScribes_Page_46 {U : State} (h : NOK U) : va_Nw (.methodLinkNest "TwoScribes$Page" 46 ⟨"TwoScribes", "clearRow", "([I)V"⟩ "TwoScribes") U := h.2 ("TwoScribes$Page", 46, ⟨"TwoScribes", "clearRow", "([I)V"⟩, "TwoScribes") (List.mem_of_getElem? (i := 9) rfl)
theorem nmTwoScribes_Page_56 {U : State} (h : NOK U) : va_Nw (.methodLinkNest "TwoScribes$Page" 56 ⟨"TwoScribes", "at", "([II)I"⟩ "TwoScribes") U := h.2 ("TwoScribes$Page", 56, ⟨"TwoScribes", "at", "([II)I"⟩, "TwoScribes") (List.mem_of_getElem? (i := 10) rfl)
theorem nmTwoScribes_Page_60 {U : State} (h : NOK U) : va_Nw (.methodLinkNest "TwoScribes$Page" 60 ⟨"TwoScribes", "put", "([III)V"⟩ "TwoScribes") U := h.2 ("TwoScribes$Page", 60, ⟨"TwoScribes", "put", "([III)V"⟩, "TwoScribes") (List.mem_of_getElem? (i := 11) rfl)
theorem nmTwoScribes_State_100 {U : State} (h : NOK U) : va_Nw (.methodLinkNest "TwoScribes$State" 100 ⟨"TwoScribes", "at", "([II)I"⟩ "TwoScribes") U := h.2 ("TwoScribes$State", 100, ⟨"TwoScribes", "at", "([II)I"⟩, "TwoScribes") (List.mem_of_getElem? (i := 12) rfl)
theorem nmTwoScribes_State_119 {U : State} (h : NOK U) : va_Nw (.methodLinkNest "TwoScribes$State" 119 ⟨"TwoScribes", "inkFor", "(I)F"⟩ "TwoScribes") U := h.2 ("TwoScribes$State", 119, ⟨"TwoScribes", "inkFor", "(I)F"⟩, "TwoScribes") (List.mem_of_getElem? (i := 13) rfl)
theorem in0 : ∀ w ∈ wsX00, w ∈ GW := fun w h => List.mem_filter.mpr ⟨(by decide +kernel : ∀ w ∈ wsX00, w ∈ lw_tbl) w h, List.all_eq_true.mp (by decide +kernel : wsX00.all goodWord = true) w h⟩
theorem in1 : ∀ w ∈ wsX10, w ∈ GW := fun w h => List.mem_filter.mpr ⟨(by decide +kernel : ∀ w ∈ wsX10, w ∈ lw_tbl) w h, List.all_eq_true.mp (by decide +kernel : wsX10.all goodWord = true) w h⟩
theorem in2 : ∀ w ∈ wsX20, w ∈ GW := fun w h => List.mem_filter.mpr ⟨(by decide +kernel : ∀ w ∈ wsX20, w ∈ lw_tbl) w h, List.all_eq_true.mp (by decide +kernel : wsX20.all goodWord = true) w h⟩
theorem in3 : ∀ w ∈ wsX30, w ∈ GW := fun w h => List.mem_filter.mpr ⟨(by decide +kernel : ∀ w ∈ wsX30, w ∈ lw_tbl) w h, List.all_eq_true.mp (by decide +kernel : wsX30.all goodWord = true) w h⟩
theorem in4 : ∀ w ∈ wsX40, w ∈ GW := fun w h => List.mem_filter.mpr ⟨(by decide +kernel : ∀ w ∈ wsX40, w ∈ lw_tbl) w h, List.all_eq_true.mp (by decide +kernel : wsX40.all goodWord = true) w h⟩
theorem in5 : ∀ w ∈ wsX50, w ∈ GW := fun w h => List.mem_filter.mpr ⟨(by decide +kernel : ∀ w ∈ wsX50, w ∈ lw_tbl) w h, List.all_eq_true.mp (by decide +kernel : wsX50.all goodWord = true) w h⟩
theorem in6 : ∀ w ∈ wsX60, w ∈ GW := fun w h => List.mem_filter.mpr ⟨(by decide +kernel : ∀ w ∈ wsX60, w ∈ lw_tbl) w h, List.all_eq_true.mp (by decide +kernel : wsX60.all goodWord = true) w h⟩
end
