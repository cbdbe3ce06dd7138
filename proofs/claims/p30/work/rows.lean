section
-- ===== PART A: goes FIRST, ahead of the names: the tables' words, and 'selects' of the private methods out of them =====
/-- a private method of a class that the tables say can be made, by its rows of tables_1 -/
def lw_okq (q : MethodName × Nat) : Prop := (q.1.cls ≠ "java/lang/invoke/MethodHandle" ∧ q.1.cls ≠ "java/lang/invoke/VarHandle") ∧ Cond.instantiable q.1.cls q.2 ∈ tables_1 ∧ Cond.privateMethod q.1 ∈ tables_1 ∧ Cond.instanceMethod q.1 ∈ tables_1
theorem lw_p0 : lw_okq (⟨"HandoverDesk$State", "work", "([I)V"⟩, 17) := ⟨⟨by decide +kernel, by decide +kernel⟩, List.mem_of_getElem? (i := 16) (by decide +kernel), List.mem_of_getElem? (i := 181) (by decide +kernel), List.mem_of_getElem? (i := 182) (by decide +kernel)⟩
theorem lw_p1 : lw_okq (⟨"HandoverDesk$State", "passOn", "([I[II)I"⟩, 17) := ⟨⟨by decide +kernel, by decide +kernel⟩, List.mem_of_getElem? (i := 16) (by decide +kernel), List.mem_of_getElem? (i := 192) (by decide +kernel), List.mem_of_getElem? (i := 193) (by decide +kernel)⟩
theorem lw_p2 : lw_okq (⟨"HandoverDesk$State", "widestGap", "([I[I)I"⟩, 17) := ⟨⟨by decide +kernel, by decide +kernel⟩, List.mem_of_getElem? (i := 16) (by decide +kernel), List.mem_of_getElem? (i := 196) (by decide +kernel), List.mem_of_getElem? (i := 197) (by decide +kernel)⟩
theorem lw_p3 : lw_okq (⟨"HandoverDesk$State", "decay", "([I)V"⟩, 17) := ⟨⟨by decide +kernel, by decide +kernel⟩, List.mem_of_getElem? (i := 16) (by decide +kernel), List.mem_of_getElem? (i := 200) (by decide +kernel), List.mem_of_getElem? (i := 201) (by decide +kernel)⟩
theorem lw_p4 : lw_okq (⟨"HandoverDesk$State", "beginWithOpen", "([I)V"⟩, 17) := ⟨⟨by decide +kernel, by decide +kernel⟩, List.mem_of_getElem? (i := 16) (by decide +kernel), List.mem_of_getElem? (i := 204) (by decide +kernel), List.mem_of_getElem? (i := 205) (by decide +kernel)⟩
theorem lw_p5 : lw_okq (⟨"HandoverDesk$State", "missesOfChecklist", "([I)I"⟩, 17) := ⟨⟨by decide +kernel, by decide +kernel⟩, List.mem_of_getElem? (i := 16) (by decide +kernel), List.mem_of_getElem? (i := 208) (by decide +kernel), List.mem_of_getElem? (i := 209) (by decide +kernel)⟩
theorem lw_p6 : lw_okq (⟨"HandoverDesk", "recorded", "(I)I"⟩, 10) := ⟨⟨by decide +kernel, by decide +kernel⟩, List.mem_of_getElem? (i := 8) (by decide +kernel), List.mem_of_getElem? (i := 212) (by decide +kernel), List.mem_of_getElem? (i := 213) (by decide +kernel)⟩
theorem lw_p7 : lw_okq (⟨"HandoverDesk", "dropOldest", "()V"⟩, 10) := ⟨⟨by decide +kernel, by decide +kernel⟩, List.mem_of_getElem? (i := 8) (by decide +kernel), List.mem_of_getElem? (i := 216) (by decide +kernel), List.mem_of_getElem? (i := 217) (by decide +kernel)⟩
theorem lw_p8 : lw_okq (⟨"HandoverDesk$State", "putLevel", "(III)V"⟩, 17) := ⟨⟨by decide +kernel, by decide +kernel⟩, List.mem_of_getElem? (i := 16) (by decide +kernel), List.mem_of_getElem? (i := 372) (by decide +kernel), List.mem_of_getElem? (i := 373) (by decide +kernel)⟩
def lw_privs_1 : List (MethodName × Nat) := [(⟨"HandoverDesk$State", "work", "([I)V"⟩, 17), (⟨"HandoverDesk$State", "passOn", "([I[II)I"⟩, 17), (⟨"HandoverDesk$State", "widestGap", "([I[I)I"⟩, 17), (⟨"HandoverDesk$State", "decay", "([I)V"⟩, 17), (⟨"HandoverDesk$State", "beginWithOpen", "([I)V"⟩, 17), (⟨"HandoverDesk$State", "missesOfChecklist", "([I)I"⟩, 17), (⟨"HandoverDesk", "recorded", "(I)I"⟩, 10), (⟨"HandoverDesk", "dropOldest", "()V"⟩, 10), (⟨"HandoverDesk$State", "putLevel", "(III)V"⟩, 17)]
theorem lw_r1 : ∀ q ∈ lw_privs_1, lw_okq q := List.forall_mem_cons.mpr ⟨lw_p0, List.forall_mem_cons.mpr ⟨lw_p1, List.forall_mem_cons.mpr ⟨lw_p2, List.forall_mem_cons.mpr ⟨lw_p3, List.forall_mem_cons.mpr ⟨lw_p4, List.forall_mem_cons.mpr ⟨lw_p5, List.forall_mem_cons.mpr ⟨lw_p6, List.forall_mem_cons.mpr ⟨lw_p7, List.forall_mem_cons.mpr ⟨lw_p8, fun _ h => absurd h List.not_mem_nil⟩⟩⟩⟩⟩⟩⟩⟩⟩
def lw_privs : List (MethodName × Nat) := lw_privs_1
def lw_tbl : List Cond := k2_sels lw_privs ++ tables_1
theorem lw_privs_ok : ∀ q ∈ lw_privs, lw_okq q := lw_r1
/-- the streams that the claim lets the run draw from -/
abbrev lw_cs : List Choice := [Jvm.Choice.named "NaN.bits"]
theorem lw_bits : nanBits ∈ lw_cs := by first | decide | exact List.mem_cons_self | simp [lw_cs, nanBits]
-- ===== end of PART A; then your names; then what follows =====

def R_law : String := "HandoverDeskLaw"
def RX0 : String := "HandoverDesk$Pad"
def TX0 : u_T := fun k => match k with
  | 0 => ("HandoverDesk$Pad", "signs", "[C", true)
  | 1 => ("HandoverDesk$Pad", "values", "[I", true)
  | 2 => ("HandoverDesk$Pad", "length", "I", false)
  | 3 => ("HandoverDesk$Pad", "letter", "C", false)
  | _ => ("HandoverDesk$Pad", "at", "I", false)
def tyX0 : Nat → FieldType := fun k => match k with
  | 0 => .array .char
  | 1 => .array .int
  | 2 => .int
  | 3 => .char
  | _ => .int
abbrev wsX00 : List Cond := u_ws RX0 TX0 5
theorem nmX0 : ∀ a, a < 5 → ∀ b, b < 5 → a ≠ b → (TX0 a).2.1 ≠ (TX0 b).2.1 := by decide +kernel
theorem tyX0_ok : ∀ k, k < 5 → parseFieldDescriptor (TX0 k).2.2.1 = some (tyX0 k) := by decide +kernel

def RX1 : String := "HandoverDesk$State"
def TX1 : u_T := fun k => match k with
  | 0 => ("HandoverDesk$State", "settings", "[I", true)
  | 1 => ("HandoverDesk$State", "workerAt", "[I", true)
  | 2 => ("HandoverDesk$State", "minutesAt", "[I", true)
  | 3 => ("HandoverDesk$State", "levels", "[[I", true)
  | 4 => ("HandoverDesk$State", "checkedTopics", "[I", true)
  | 5 => ("HandoverDesk$State", "missesOf", "[I", true)
  | 6 => ("HandoverDesk$State", "begunWith", "[I", true)
  | 7 => ("HandoverDesk$State", "begunKnown", "[I", true)
  | 8 => ("HandoverDesk$State", "topics", "I", false)
  | 9 => ("HandoverDesk$State", "openSet", "I", false)
  | 10 => ("HandoverDesk$State", "checked", "I", false)
  | 11 => ("HandoverDesk$State", "shift", "I", false)
  | 12 => ("HandoverDesk$State", "misses", "I", false)
  | 13 => ("HandoverDesk$State", "minutesHad", "I", false)
  | 14 => ("HandoverDesk$State", "minutesIdle", "I", false)
  | 15 => ("HandoverDesk$State", "minutesCost", "I", false)
  | _ => ("HandoverDesk$State", "callsCost", "I", false)
def tyX1 : Nat → FieldType := fun k => match k with
  | 0 => .array .int
  | 1 => .array .int
  | 2 => .array .int
  | 3 => .array (.array .int)
  | 4 => .array .int
  | 5 => .array .int
  | 6 => .array .int
  | 7 => .array .int
  | 8 => .int
  | 9 => .int
  | 10 => .int
  | 11 => .int
  | 12 => .int
  | 13 => .int
  | 14 => .int
  | 15 => .int
  | _ => .int
abbrev wsX10 : List Cond := u_ws RX1 TX1 17
theorem nmX1 : ∀ a, a < 17 → ∀ b, b < 17 → a ≠ b → (TX1 a).2.1 ≠ (TX1 b).2.1 := by decide +kernel
theorem tyX1_ok : ∀ k, k < 17 → parseFieldDescriptor (TX1 k).2.2.1 = some (tyX1 k) := by decide +kernel

def RX2 : String := "HandoverDesk"
def TX2 : u_T := fun k => match k with
  | 0 => ("HandoverDesk", "now", "LHandoverDesk$State;", false)
  | 1 => ("HandoverDesk", "before", "LHandoverDesk$State;", false)
  | 2 => ("HandoverDesk", "history", "[LHandoverDesk$State;", true)
  | 3 => ("HandoverDesk", "undoable", "I", false)
  | 4 => ("HandoverDesk", "slots", "[LHandoverDesk$State;", true)
  | 5 => ("HandoverDesk", "saved", "[Z", true)
  | 6 => ("HandoverDesk", "pad", "LHandoverDesk$Pad;", true)
  | 7 => ("HandoverDesk", "trial", "LHandoverDesk$State;", true)
  | 8 => ("HandoverDesk", "secondTrial", "LHandoverDesk$State;", true)
  | _ => ("HandoverDesk", "thirdTrial", "LHandoverDesk$State;", true)
def tyX2 : Nat → FieldType := fun k => match k with
  | 0 => .object "HandoverDesk$State"
  | 1 => .object "HandoverDesk$State"
  | 2 => .array (.object "HandoverDesk$State")
  | 3 => .int
  | 4 => .array (.object "HandoverDesk$State")
  | 5 => .array .boolean
  | 6 => .object "HandoverDesk$Pad"
  | 7 => .object "HandoverDesk$State"
  | 8 => .object "HandoverDesk$State"
  | _ => .object "HandoverDesk$State"
abbrev wsX20 : List Cond := u_ws RX2 TX2 10
theorem nmX2 : ∀ a, a < 10 → ∀ b, b < 10 → a ≠ b → (TX2 a).2.1 ≠ (TX2 b).2.1 := by decide +kernel
theorem tyX2_ok : ∀ k, k < 10 → parseFieldDescriptor (TX2 k).2.2.1 = some (tyX2 k) := by decide +kernel

abbrev vwCl : List vw_C := [(RX0, TX0, 5), (RX1, TX1, 17), (RX2, TX2, 10)]
/-! own classes, by number -/
def cnL : List String := ["HandoverDesk$Pad", "HandoverDesk$State", "HandoverDesk", "HandoverDeskModel", "HandoverDeskLaw", "java/lang/Math", "java/lang/Integer", "java/lang/String", "java/lang/StringLatin1", "jdk/internal/util/Preconditions", "java/lang/Float", "java/lang/Double"]
def cn (o : Nat) : String := cnL.getD o ""
/-- a method: (own class, name, descriptor), its bytes, its locals' words, what it returns, its rank, whether it is static -/
abbrev Mi : Type := (Nat × String × String) × ByteArray × Nat × Option FieldType × Nat × Bool
def mtL0 : List Mi := [((0, "<init>", "()V"), prog_2_method_1_code, 1, none, 1, false),
  ((4, "low", "(II)I"), method_2_code, 2, some .int, 0, true),
  ((4, "low", "(II)I"), method_2_code, 2, some .int, 0, true),
  ((4, "low", "(II)I"), method_2_code, 2, some .int, 0, true),
  ((4, "low", "(II)I"), method_2_code, 2, some .int, 0, true),
  ((4, "low", "(II)I"), method_2_code, 2, some .int, 0, true),
  ((4, "low", "(II)I"), method_2_code, 2, some .int, 0, true),
  ((4, "low", "(II)I"), method_2_code, 2, some .int, 0, true),
  ((4, "low", "(II)I"), method_2_code, 2, some .int, 0, true),
  ((4, "low", "(II)I"), method_2_code, 2, some .int, 0, true),
  ((4, "low", "(II)I"), method_2_code, 2, some .int, 0, true),
  ((1, "<init>", "()V"), prog_3_method_1_code, 2, none, 1, false),
  ((1, "copyFrom", "(LHandoverDesk$State;)V"), prog_3_method_2_code, 3, none, 1, false),
  ((1, "changeSetting", "(II)I"), prog_3_method_17_code, 4, some .int, 1, false),
  ((1, "changeWorker", "(II)I"), prog_3_method_18_code, 4, some .int, 1, false),
  ((1, "changeMinutes", "(II)I"), prog_3_method_19_code, 4, some .int, 1, false)]
def mtL1 : List Mi := [((1, "bringTopic", "()I"), prog_3_method_20_code, 2, some .int, 0, false),
  ((1, "turnTopic", "(I)I"), prog_3_method_21_code, 2, some .int, 1, false),
  ((1, "isTopic", "(I)Z"), prog_3_method_3_code, 2, some .boolean, 0, false),
  ((1, "isOpen", "(I)Z"), prog_3_method_4_code, 2, some .boolean, 0, false),
  ((1, "checkTopic", "(I)I"), prog_3_method_22_code, 4, some .int, 1, false),
  ((1, "placeInChecklist", "(I)I"), prog_3_method_15_code, 3, some .int, 0, false),
  ((1, "learnTopic", "(III)I"), prog_3_method_23_code, 5, some .int, 2, false),
  ((1, "levelOf", "(II)I"), prog_3_method_8_code, 3, some .int, 1, false),
  ((1, "putLevel", "(III)V"), prog_3_method_9_code, 4, none, 1, false),
  ((1, "callAbout", "(I)I"), prog_3_method_24_code, 6, some .int, 3, false),
  ((1, "onDuty", "()I"), prog_3_method_5_code, 1, some .int, 1, false),
  ((1, "greatestFor", "(I)I"), prog_3_method_16_code, 4, some .int, 2, false),
  ((1, "minutesBought", "()I"), prog_3_method_7_code, 1, some .int, 1, false),
  ((1, "finishWith", "(I)I"), prog_3_method_25_code, 5, some .int, 3, false),
  ((1, "nextOnDuty", "()I"), prog_3_method_6_code, 1, some .int, 1, false),
  ((1, "work", "([I)V"), prog_3_method_26_code, 3, none, 1, false)]
def mtL2 : List Mi := [((1, "passOn", "([I[II)I"), prog_3_method_27_code, 7, some .int, 2, false),
  ((1, "widestGap", "([I[I)I"), prog_3_method_28_code, 6, some .int, 1, false),
  ((1, "decay", "([I)V"), prog_3_method_29_code, 3, none, 0, false),
  ((1, "beginWithOpen", "([I)V"), prog_3_method_30_code, 3, none, 1, false),
  ((1, "missesOfChecklist", "([I)I"), prog_3_method_31_code, 5, some .int, 1, false),
  ((1, "howIs", "(I)I"), prog_3_method_11_code, 3, some .int, 3, false),
  ((1, "knows", "(II)Z"), prog_3_method_10_code, 3, some .boolean, 2, false),
  ((1, "countOpen", "()I"), prog_3_method_13_code, 1, some .int, 1, false),
  ((1, "openThatAre", "(I)I"), prog_3_method_12_code, 4, some .int, 4, false),
  ((1, "sumOfOpen", "(I)I"), prog_3_method_14_code, 4, some .int, 2, false),
  ((4, "low", "(II)I"), method_2_code, 2, some .int, 0, true),
  ((2, "<init>", "()V"), prog_1_method_1_code, 2, none, 2, false),
  ((2, "set", "(II)I"), prog_1_method_2_code, 3, some .int, 2, false),
  ((2, "isSetting", "(I)Z"), prog_1_method_29_code, 1, some .boolean, 0, true),
  ((2, "recorded", "(I)I"), prog_1_method_33_code, 3, some .int, 1, false),
  ((2, "dropOldest", "()V"), prog_1_method_34_code, 3, none, 0, false)]
def mtL3 : List Mi := [((2, "roster", "(II)I"), prog_1_method_3_code, 3, some .int, 2, false),
  ((2, "isWorker", "(I)Z"), prog_1_method_30_code, 1, some .boolean, 0, true),
  ((2, "isPlace", "(I)Z"), prog_1_method_31_code, 1, some .boolean, 0, true),
  ((2, "minutes", "(II)I"), prog_1_method_4_code, 3, some .int, 2, false),
  ((2, "open", "()I"), prog_1_method_5_code, 1, some .int, 2, false),
  ((2, "turn", "(I)I"), prog_1_method_6_code, 2, some .int, 2, false),
  ((2, "check", "(I)I"), prog_1_method_7_code, 2, some .int, 2, false),
  ((2, "learn", "(III)I"), prog_1_method_8_code, 4, some .int, 3, false),
  ((2, "call", "(I)I"), prog_1_method_9_code, 2, some .int, 4, false),
  ((2, "endShift", "()I"), prog_1_method_10_code, 1, some .int, 4, false),
  ((2, "level", "(II)I"), prog_1_method_11_code, 3, some .int, 2, false),
  ((2, "ofTopic", "(II)I"), prog_1_method_12_code, 3, some .int, 4, false),
  ((2, "checklist", "(I)I"), prog_1_method_13_code, 2, some .int, 0, false),
  ((2, "count", "(I)I"), prog_1_method_14_code, 3, some .int, 5, false),
  ((2, "place", "(II)I"), prog_1_method_15_code, 3, some .int, 1, false),
  ((2, "inOrder", "()I"), prog_1_method_16_code, 3, some .int, 4, false)]
def mtL4 : List Mi := [((2, "share", "(I)I"), prog_1_method_17_code, 3, some .int, 1, false),
  ((2, "bitsOfShare", "(F)I"), prog_1_method_36_code, 3, some .int, 0, true),
  ((2, "mean", "(I)J"), prog_1_method_18_code, 3, some .long, 3, false),
  ((2, "bitsOfMean", "(D)J"), prog_1_method_37_code, 5, some .long, 0, true),
  ((4, "low", "(II)I"), method_2_code, 2, some .int, 0, true),
  ((2, "lostIn", "(I)I"), prog_1_method_20_code, 3, some .int, 5, false),
  ((4, "low", "(II)I"), method_2_code, 2, some .int, 0, true),
  ((4, "low", "(II)I"), method_2_code, 2, some .int, 0, true),
  ((4, "low", "(II)I"), method_2_code, 2, some .int, 0, true),
  ((4, "low", "(II)I"), method_2_code, 2, some .int, 0, true),
  ((4, "low", "(II)I"), method_2_code, 2, some .int, 0, true),
  ((4, "low", "(II)I"), method_2_code, 2, some .int, 0, true),
  ((2, "undo", "()I"), prog_1_method_26_code, 2, some .int, 0, false),
  ((4, "low", "(II)I"), method_2_code, 2, some .int, 0, true),
  ((4, "low", "(II)I"), method_2_code, 2, some .int, 0, true),
  ((4, "low", "(II)I"), method_2_code, 2, some .int, 0, true)]
def mtL5 : List Mi := [((4, "low", "(II)I"), method_2_code, 2, some .int, 0, true),
  ((4, "cell", "([II)I"), method_3_code, 2, some .int, 0, true),
  ((4, "topic", "(LHandoverDesk;I)Z"), method_4_code, 8, some .boolean, 6, true),
  ((4, "desk", "(LHandoverDesk;)Z"), method_5_code, 8, some .boolean, 7, true),
  ((4, "act", "(LHandoverDesk;[II)I"), method_6_code, 6, some .int, 5, true),
  ((4, "low", "(II)I"), method_2_code, 2, some .int, 0, true),
  ((4, "low", "(II)I"), method_2_code, 2, some .int, 0, true),
  ((4, "low", "(II)I"), method_2_code, 2, some .int, 0, true),
  ((4, "low", "(II)I"), method_2_code, 2, some .int, 0, true),
  ((4, "low", "(II)I"), method_2_code, 2, some .int, 0, true),
  ((4, "low", "(II)I"), method_2_code, 2, some .int, 0, true),
  ((4, "low", "(II)I"), method_2_code, 2, some .int, 0, true),
  ((4, "low", "(II)I"), method_2_code, 2, some .int, 0, true),
  ((4, "low", "(II)I"), method_2_code, 2, some .int, 0, true),
  ((4, "low", "(II)I"), method_2_code, 2, some .int, 0, true),
  ((4, "low", "(II)I"), method_2_code, 2, some .int, 0, true)]
def mtL6 : List Mi := [((4, "low", "(II)I"), method_2_code, 2, some .int, 0, true),
  ((4, "low", "(II)I"), method_2_code, 2, some .int, 0, true),
  ((4, "low", "(II)I"), method_2_code, 2, some .int, 0, true),
  ((4, "low", "(II)I"), method_2_code, 2, some .int, 0, true),
  ((4, "low", "(II)I"), method_2_code, 2, some .int, 0, true),
  ((4, "low", "(II)I"), method_2_code, 2, some .int, 0, true),
  ((4, "low", "(II)I"), method_2_code, 2, some .int, 0, true),
  ((4, "low", "(II)I"), method_2_code, 2, some .int, 0, true),
  ((4, "low", "(II)I"), method_2_code, 2, some .int, 0, true),
  ((4, "low", "(II)I"), method_2_code, 2, some .int, 0, true),
  ((4, "low", "(II)I"), method_2_code, 2, some .int, 0, true),
  ((4, "low", "(II)I"), method_2_code, 2, some .int, 0, true),
  ((4, "low", "(II)I"), method_2_code, 2, some .int, 0, true),
  ((4, "low", "(II)I"), method_2_code, 2, some .int, 0, true),
  ((4, "low", "(II)I"), method_2_code, 2, some .int, 0, true),
  ((4, "low", "(II)I"), method_2_code, 2, some .int, 0, true)]
def mtL7 : List Mi := [((4, "low", "(II)I"), method_2_code, 2, some .int, 0, true),
  ((4, "low", "(II)I"), method_2_code, 2, some .int, 0, true),
  ((4, "low", "(II)I"), method_2_code, 2, some .int, 0, true),
  ((4, "low", "(II)I"), method_2_code, 2, some .int, 0, true),
  ((4, "low", "(II)I"), method_2_code, 2, some .int, 0, true),
  ((4, "low", "(II)I"), method_2_code, 2, some .int, 0, true),
  ((4, "low", "(II)I"), method_2_code, 2, some .int, 0, true),
  ((4, "low", "(II)I"), method_2_code, 2, some .int, 0, true),
  ((4, "low", "(II)I"), method_2_code, 2, some .int, 0, true),
  ((4, "low", "(II)I"), method_2_code, 2, some .int, 0, true),
  ((4, "low", "(II)I"), method_2_code, 2, some .int, 0, true),
  ((4, "low", "(II)I"), method_2_code, 2, some .int, 0, true),
  ((4, "low", "(II)I"), method_2_code, 2, some .int, 0, true),
  ((4, "low", "(II)I"), method_2_code, 2, some .int, 0, true),
  ((4, "low", "(II)I"), method_2_code, 2, some .int, 0, true),
  ((4, "low", "(II)I"), method_2_code, 2, some .int, 0, true)]
def mtL8 : List Mi := [((4, "low", "(II)I"), method_2_code, 2, some .int, 0, true),
  ((4, "low", "(II)I"), method_2_code, 2, some .int, 0, true),
  ((4, "low", "(II)I"), method_2_code, 2, some .int, 0, true),
  ((4, "low", "(II)I"), method_2_code, 2, some .int, 0, true),
  ((4, "low", "(II)I"), method_2_code, 2, some .int, 0, true),
  ((4, "low", "(II)I"), method_2_code, 2, some .int, 0, true),
  ((4, "low", "(II)I"), method_2_code, 2, some .int, 0, true),
  ((4, "low", "(II)I"), method_2_code, 2, some .int, 0, true),
  ((4, "low", "(II)I"), method_2_code, 2, some .int, 0, true),
  ((4, "low", "(II)I"), method_2_code, 2, some .int, 0, true),
  ((4, "low", "(II)I"), method_2_code, 2, some .int, 0, true),
  ((4, "low", "(II)I"), method_2_code, 2, some .int, 0, true),
  ((4, "low", "(II)I"), method_2_code, 2, some .int, 0, true),
  ((4, "low", "(II)I"), method_2_code, 2, some .int, 0, true),
  ((4, "low", "(II)I"), method_2_code, 2, some .int, 0, true),
  ((4, "low", "(II)I"), method_2_code, 2, some .int, 0, true)]
def mtL9 : List Mi := [((4, "low", "(II)I"), method_2_code, 2, some .int, 0, true),
  ((4, "low", "(II)I"), method_2_code, 2, some .int, 0, true),
  ((4, "low", "(II)I"), method_2_code, 2, some .int, 0, true),
  ((4, "low", "(II)I"), method_2_code, 2, some .int, 0, true),
  ((4, "low", "(II)I"), method_2_code, 2, some .int, 0, true),
  ((4, "low", "(II)I"), method_2_code, 2, some .int, 0, true),
  ((4, "low", "(II)I"), method_2_code, 2, some .int, 0, true),
  ((5, "min", "(II)I"), prog_7_method_69_code, 2, some .int, 0, true),
  ((5, "floorMod", "(II)I"), prog_7_method_50_code, 3, some .int, 0, true),
  ((4, "low", "(II)I"), method_2_code, 2, some .int, 0, true),
  ((6, "bitCount", "(I)I"), prog_6_method_49_code, 1, some .int, 0, true),
  ((4, "low", "(II)I"), method_2_code, 2, some .int, 0, true),
  ((4, "low", "(II)I"), method_2_code, 2, some .int, 0, true),
  ((4, "low", "(II)I"), method_2_code, 2, some .int, 0, true),
  ((4, "low", "(II)I"), method_2_code, 2, some .int, 0, true),
  ((4, "low", "(II)I"), method_2_code, 2, some .int, 0, true)]
def mtL10 : List Mi := [((4, "low", "(II)I"), method_2_code, 2, some .int, 0, true),
  ((4, "low", "(II)I"), method_2_code, 2, some .int, 0, true),
  ((4, "low", "(II)I"), method_2_code, 2, some .int, 0, true),
  ((4, "low", "(II)I"), method_2_code, 2, some .int, 0, true),
  ((4, "low", "(II)I"), method_2_code, 2, some .int, 0, true),
  ((4, "low", "(II)I"), method_2_code, 2, some .int, 0, true),
  ((4, "low", "(II)I"), method_2_code, 2, some .int, 0, true),
  ((4, "low", "(II)I"), method_2_code, 2, some .int, 0, true),
  ((4, "low", "(II)I"), method_2_code, 2, some .int, 0, true),
  ((4, "low", "(II)I"), method_2_code, 2, some .int, 0, true),
  ((4, "low", "(II)I"), method_2_code, 2, some .int, 0, true),
  ((4, "law", "([I)Z"), code, 16, some .boolean, 8, true)]
def mtL : List (List Mi) := [mtL0, mtL1, mtL2, mtL3, mtL4, mtL5, mtL6, mtL7, mtL8, mtL9, mtL10]
def mi0 : Mi := ((99, "", ""), ⟨#[]⟩, 0, none, 99, true)
def mi (K : Nat) : Mi := (mtL.getD (K / 16) []).getD (K % 16) mi0
def ow (K : Nat) : Nat := (mi K).1.1
def nm (K : Nat) : MethodName := ⟨cn (mi K).1.1, (mi K).1.2.1, (mi K).1.2.2⟩
def cod (K : Nat) : ByteArray := (mi K).2.1
def mxl (K : Nat) : Nat := (mi K).2.2.1
def rtt (K : Nat) : Option FieldType := (mi K).2.2.2.1
def rk (K : Nat) : Nat := (mi K).2.2.2.2.1
def sta (K : Nat) : Bool := (mi K).2.2.2.2.2
theorem mi_0 : mi 0 = ((0, "<init>", "()V"), prog_2_method_1_code, 1, none, 1, false) := rfl
theorem mi_1 : mi 1 = ((4, "low", "(II)I"), method_2_code, 2, some .int, 0, true) := rfl
theorem mi_2 : mi 2 = ((4, "low", "(II)I"), method_2_code, 2, some .int, 0, true) := rfl
theorem mi_3 : mi 3 = ((4, "low", "(II)I"), method_2_code, 2, some .int, 0, true) := rfl
theorem mi_4 : mi 4 = ((4, "low", "(II)I"), method_2_code, 2, some .int, 0, true) := rfl
theorem mi_5 : mi 5 = ((4, "low", "(II)I"), method_2_code, 2, some .int, 0, true) := rfl
theorem mi_6 : mi 6 = ((4, "low", "(II)I"), method_2_code, 2, some .int, 0, true) := rfl
theorem mi_7 : mi 7 = ((4, "low", "(II)I"), method_2_code, 2, some .int, 0, true) := rfl
theorem mi_8 : mi 8 = ((4, "low", "(II)I"), method_2_code, 2, some .int, 0, true) := rfl
theorem mi_9 : mi 9 = ((4, "low", "(II)I"), method_2_code, 2, some .int, 0, true) := rfl
theorem mi_10 : mi 10 = ((4, "low", "(II)I"), method_2_code, 2, some .int, 0, true) := rfl
theorem mi_11 : mi 11 = ((1, "<init>", "()V"), prog_3_method_1_code, 2, none, 1, false) := rfl
theorem mi_12 : mi 12 = ((1, "copyFrom", "(LHandoverDesk$State;)V"), prog_3_method_2_code, 3, none, 1, false) := rfl
theorem mi_13 : mi 13 = ((1, "changeSetting", "(II)I"), prog_3_method_17_code, 4, some .int, 1, false) := rfl
theorem mi_14 : mi 14 = ((1, "changeWorker", "(II)I"), prog_3_method_18_code, 4, some .int, 1, false) := rfl
theorem mi_15 : mi 15 = ((1, "changeMinutes", "(II)I"), prog_3_method_19_code, 4, some .int, 1, false) := rfl
theorem mi_16 : mi 16 = ((1, "bringTopic", "()I"), prog_3_method_20_code, 2, some .int, 0, false) := rfl
theorem mi_17 : mi 17 = ((1, "turnTopic", "(I)I"), prog_3_method_21_code, 2, some .int, 1, false) := rfl
theorem mi_18 : mi 18 = ((1, "isTopic", "(I)Z"), prog_3_method_3_code, 2, some .boolean, 0, false) := rfl
theorem mi_19 : mi 19 = ((1, "isOpen", "(I)Z"), prog_3_method_4_code, 2, some .boolean, 0, false) := rfl
theorem mi_20 : mi 20 = ((1, "checkTopic", "(I)I"), prog_3_method_22_code, 4, some .int, 1, false) := rfl
theorem mi_21 : mi 21 = ((1, "placeInChecklist", "(I)I"), prog_3_method_15_code, 3, some .int, 0, false) := rfl
theorem mi_22 : mi 22 = ((1, "learnTopic", "(III)I"), prog_3_method_23_code, 5, some .int, 2, false) := rfl
theorem mi_23 : mi 23 = ((1, "levelOf", "(II)I"), prog_3_method_8_code, 3, some .int, 1, false) := rfl
theorem mi_24 : mi 24 = ((1, "putLevel", "(III)V"), prog_3_method_9_code, 4, none, 1, false) := rfl
theorem mi_25 : mi 25 = ((1, "callAbout", "(I)I"), prog_3_method_24_code, 6, some .int, 3, false) := rfl
theorem mi_26 : mi 26 = ((1, "onDuty", "()I"), prog_3_method_5_code, 1, some .int, 1, false) := rfl
theorem mi_27 : mi 27 = ((1, "greatestFor", "(I)I"), prog_3_method_16_code, 4, some .int, 2, false) := rfl
theorem mi_28 : mi 28 = ((1, "minutesBought", "()I"), prog_3_method_7_code, 1, some .int, 1, false) := rfl
theorem mi_29 : mi 29 = ((1, "finishWith", "(I)I"), prog_3_method_25_code, 5, some .int, 3, false) := rfl
theorem mi_30 : mi 30 = ((1, "nextOnDuty", "()I"), prog_3_method_6_code, 1, some .int, 1, false) := rfl
theorem mi_31 : mi 31 = ((1, "work", "([I)V"), prog_3_method_26_code, 3, none, 1, false) := rfl
theorem mi_32 : mi 32 = ((1, "passOn", "([I[II)I"), prog_3_method_27_code, 7, some .int, 2, false) := rfl
theorem mi_33 : mi 33 = ((1, "widestGap", "([I[I)I"), prog_3_method_28_code, 6, some .int, 1, false) := rfl
theorem mi_34 : mi 34 = ((1, "decay", "([I)V"), prog_3_method_29_code, 3, none, 0, false) := rfl
theorem mi_35 : mi 35 = ((1, "beginWithOpen", "([I)V"), prog_3_method_30_code, 3, none, 1, false) := rfl
theorem mi_36 : mi 36 = ((1, "missesOfChecklist", "([I)I"), prog_3_method_31_code, 5, some .int, 1, false) := rfl
theorem mi_37 : mi 37 = ((1, "howIs", "(I)I"), prog_3_method_11_code, 3, some .int, 3, false) := rfl
theorem mi_38 : mi 38 = ((1, "knows", "(II)Z"), prog_3_method_10_code, 3, some .boolean, 2, false) := rfl
theorem mi_39 : mi 39 = ((1, "countOpen", "()I"), prog_3_method_13_code, 1, some .int, 1, false) := rfl
theorem mi_40 : mi 40 = ((1, "openThatAre", "(I)I"), prog_3_method_12_code, 4, some .int, 4, false) := rfl
theorem mi_41 : mi 41 = ((1, "sumOfOpen", "(I)I"), prog_3_method_14_code, 4, some .int, 2, false) := rfl
theorem mi_42 : mi 42 = ((4, "low", "(II)I"), method_2_code, 2, some .int, 0, true) := rfl
theorem mi_43 : mi 43 = ((2, "<init>", "()V"), prog_1_method_1_code, 2, none, 2, false) := rfl
theorem mi_44 : mi 44 = ((2, "set", "(II)I"), prog_1_method_2_code, 3, some .int, 2, false) := rfl
theorem mi_45 : mi 45 = ((2, "isSetting", "(I)Z"), prog_1_method_29_code, 1, some .boolean, 0, true) := rfl
theorem mi_46 : mi 46 = ((2, "recorded", "(I)I"), prog_1_method_33_code, 3, some .int, 1, false) := rfl
theorem mi_47 : mi 47 = ((2, "dropOldest", "()V"), prog_1_method_34_code, 3, none, 0, false) := rfl
theorem mi_48 : mi 48 = ((2, "roster", "(II)I"), prog_1_method_3_code, 3, some .int, 2, false) := rfl
theorem mi_49 : mi 49 = ((2, "isWorker", "(I)Z"), prog_1_method_30_code, 1, some .boolean, 0, true) := rfl
theorem mi_50 : mi 50 = ((2, "isPlace", "(I)Z"), prog_1_method_31_code, 1, some .boolean, 0, true) := rfl
theorem mi_51 : mi 51 = ((2, "minutes", "(II)I"), prog_1_method_4_code, 3, some .int, 2, false) := rfl
theorem mi_52 : mi 52 = ((2, "open", "()I"), prog_1_method_5_code, 1, some .int, 2, false) := rfl
theorem mi_53 : mi 53 = ((2, "turn", "(I)I"), prog_1_method_6_code, 2, some .int, 2, false) := rfl
theorem mi_54 : mi 54 = ((2, "check", "(I)I"), prog_1_method_7_code, 2, some .int, 2, false) := rfl
theorem mi_55 : mi 55 = ((2, "learn", "(III)I"), prog_1_method_8_code, 4, some .int, 3, false) := rfl
theorem mi_56 : mi 56 = ((2, "call", "(I)I"), prog_1_method_9_code, 2, some .int, 4, false) := rfl
theorem mi_57 : mi 57 = ((2, "endShift", "()I"), prog_1_method_10_code, 1, some .int, 4, false) := rfl
theorem mi_58 : mi 58 = ((2, "level", "(II)I"), prog_1_method_11_code, 3, some .int, 2, false) := rfl
theorem mi_59 : mi 59 = ((2, "ofTopic", "(II)I"), prog_1_method_12_code, 3, some .int, 4, false) := rfl
theorem mi_60 : mi 60 = ((2, "checklist", "(I)I"), prog_1_method_13_code, 2, some .int, 0, false) := rfl
theorem mi_61 : mi 61 = ((2, "count", "(I)I"), prog_1_method_14_code, 3, some .int, 5, false) := rfl
theorem mi_62 : mi 62 = ((2, "place", "(II)I"), prog_1_method_15_code, 3, some .int, 1, false) := rfl
theorem mi_63 : mi 63 = ((2, "inOrder", "()I"), prog_1_method_16_code, 3, some .int, 4, false) := rfl
theorem mi_64 : mi 64 = ((2, "share", "(I)I"), prog_1_method_17_code, 3, some .int, 1, false) := rfl
theorem mi_65 : mi 65 = ((2, "bitsOfShare", "(F)I"), prog_1_method_36_code, 3, some .int, 0, true) := rfl
theorem mi_66 : mi 66 = ((2, "mean", "(I)J"), prog_1_method_18_code, 3, some .long, 3, false) := rfl
theorem mi_67 : mi 67 = ((2, "bitsOfMean", "(D)J"), prog_1_method_37_code, 5, some .long, 0, true) := rfl
theorem mi_68 : mi 68 = ((4, "low", "(II)I"), method_2_code, 2, some .int, 0, true) := rfl
theorem mi_69 : mi 69 = ((2, "lostIn", "(I)I"), prog_1_method_20_code, 3, some .int, 5, false) := rfl
theorem mi_70 : mi 70 = ((4, "low", "(II)I"), method_2_code, 2, some .int, 0, true) := rfl
theorem mi_71 : mi 71 = ((4, "low", "(II)I"), method_2_code, 2, some .int, 0, true) := rfl
theorem mi_72 : mi 72 = ((4, "low", "(II)I"), method_2_code, 2, some .int, 0, true) := rfl
theorem mi_73 : mi 73 = ((4, "low", "(II)I"), method_2_code, 2, some .int, 0, true) := rfl
theorem mi_74 : mi 74 = ((4, "low", "(II)I"), method_2_code, 2, some .int, 0, true) := rfl
theorem mi_75 : mi 75 = ((4, "low", "(II)I"), method_2_code, 2, some .int, 0, true) := rfl
theorem mi_76 : mi 76 = ((2, "undo", "()I"), prog_1_method_26_code, 2, some .int, 0, false) := rfl
theorem mi_77 : mi 77 = ((4, "low", "(II)I"), method_2_code, 2, some .int, 0, true) := rfl
theorem mi_78 : mi 78 = ((4, "low", "(II)I"), method_2_code, 2, some .int, 0, true) := rfl
theorem mi_79 : mi 79 = ((4, "low", "(II)I"), method_2_code, 2, some .int, 0, true) := rfl
theorem mi_80 : mi 80 = ((4, "low", "(II)I"), method_2_code, 2, some .int, 0, true) := rfl
theorem mi_81 : mi 81 = ((4, "cell", "([II)I"), method_3_code, 2, some .int, 0, true) := rfl
theorem mi_82 : mi 82 = ((4, "topic", "(LHandoverDesk;I)Z"), method_4_code, 8, some .boolean, 6, true) := rfl
theorem mi_83 : mi 83 = ((4, "desk", "(LHandoverDesk;)Z"), method_5_code, 8, some .boolean, 7, true) := rfl
theorem mi_84 : mi 84 = ((4, "act", "(LHandoverDesk;[II)I"), method_6_code, 6, some .int, 5, true) := rfl
theorem mi_85 : mi 85 = ((4, "low", "(II)I"), method_2_code, 2, some .int, 0, true) := rfl
theorem mi_86 : mi 86 = ((4, "low", "(II)I"), method_2_code, 2, some .int, 0, true) := rfl
theorem mi_87 : mi 87 = ((4, "low", "(II)I"), method_2_code, 2, some .int, 0, true) := rfl
theorem mi_88 : mi 88 = ((4, "low", "(II)I"), method_2_code, 2, some .int, 0, true) := rfl
theorem mi_89 : mi 89 = ((4, "low", "(II)I"), method_2_code, 2, some .int, 0, true) := rfl
theorem mi_90 : mi 90 = ((4, "low", "(II)I"), method_2_code, 2, some .int, 0, true) := rfl
theorem mi_91 : mi 91 = ((4, "low", "(II)I"), method_2_code, 2, some .int, 0, true) := rfl
theorem mi_92 : mi 92 = ((4, "low", "(II)I"), method_2_code, 2, some .int, 0, true) := rfl
theorem mi_93 : mi 93 = ((4, "low", "(II)I"), method_2_code, 2, some .int, 0, true) := rfl
theorem mi_94 : mi 94 = ((4, "low", "(II)I"), method_2_code, 2, some .int, 0, true) := rfl
theorem mi_95 : mi 95 = ((4, "low", "(II)I"), method_2_code, 2, some .int, 0, true) := rfl
theorem mi_96 : mi 96 = ((4, "low", "(II)I"), method_2_code, 2, some .int, 0, true) := rfl
theorem mi_97 : mi 97 = ((4, "low", "(II)I"), method_2_code, 2, some .int, 0, true) := rfl
theorem mi_98 : mi 98 = ((4, "low", "(II)I"), method_2_code, 2, some .int, 0, true) := rfl
theorem mi_99 : mi 99 = ((4, "low", "(II)I"), method_2_code, 2, some .int, 0, true) := rfl
theorem mi_100 : mi 100 = ((4, "low", "(II)I"), method_2_code, 2, some .int, 0, true) := rfl
theorem mi_101 : mi 101 = ((4, "low", "(II)I"), method_2_code, 2, some .int, 0, true) := rfl
theorem mi_102 : mi 102 = ((4, "low", "(II)I"), method_2_code, 2, some .int, 0, true) := rfl
theorem mi_103 : mi 103 = ((4, "low", "(II)I"), method_2_code, 2, some .int, 0, true) := rfl
theorem mi_104 : mi 104 = ((4, "low", "(II)I"), method_2_code, 2, some .int, 0, true) := rfl
theorem mi_105 : mi 105 = ((4, "low", "(II)I"), method_2_code, 2, some .int, 0, true) := rfl
theorem mi_106 : mi 106 = ((4, "low", "(II)I"), method_2_code, 2, some .int, 0, true) := rfl
theorem mi_107 : mi 107 = ((4, "low", "(II)I"), method_2_code, 2, some .int, 0, true) := rfl
theorem mi_108 : mi 108 = ((4, "low", "(II)I"), method_2_code, 2, some .int, 0, true) := rfl
theorem mi_109 : mi 109 = ((4, "low", "(II)I"), method_2_code, 2, some .int, 0, true) := rfl
theorem mi_110 : mi 110 = ((4, "low", "(II)I"), method_2_code, 2, some .int, 0, true) := rfl
theorem mi_111 : mi 111 = ((4, "low", "(II)I"), method_2_code, 2, some .int, 0, true) := rfl
theorem mi_112 : mi 112 = ((4, "low", "(II)I"), method_2_code, 2, some .int, 0, true) := rfl
theorem mi_113 : mi 113 = ((4, "low", "(II)I"), method_2_code, 2, some .int, 0, true) := rfl
theorem mi_114 : mi 114 = ((4, "low", "(II)I"), method_2_code, 2, some .int, 0, true) := rfl
theorem mi_115 : mi 115 = ((4, "low", "(II)I"), method_2_code, 2, some .int, 0, true) := rfl
theorem mi_116 : mi 116 = ((4, "low", "(II)I"), method_2_code, 2, some .int, 0, true) := rfl
theorem mi_117 : mi 117 = ((4, "low", "(II)I"), method_2_code, 2, some .int, 0, true) := rfl
theorem mi_118 : mi 118 = ((4, "low", "(II)I"), method_2_code, 2, some .int, 0, true) := rfl
theorem mi_119 : mi 119 = ((4, "low", "(II)I"), method_2_code, 2, some .int, 0, true) := rfl
theorem mi_120 : mi 120 = ((4, "low", "(II)I"), method_2_code, 2, some .int, 0, true) := rfl
theorem mi_121 : mi 121 = ((4, "low", "(II)I"), method_2_code, 2, some .int, 0, true) := rfl
theorem mi_122 : mi 122 = ((4, "low", "(II)I"), method_2_code, 2, some .int, 0, true) := rfl
theorem mi_123 : mi 123 = ((4, "low", "(II)I"), method_2_code, 2, some .int, 0, true) := rfl
theorem mi_124 : mi 124 = ((4, "low", "(II)I"), method_2_code, 2, some .int, 0, true) := rfl
theorem mi_125 : mi 125 = ((4, "low", "(II)I"), method_2_code, 2, some .int, 0, true) := rfl
theorem mi_126 : mi 126 = ((4, "low", "(II)I"), method_2_code, 2, some .int, 0, true) := rfl
theorem mi_127 : mi 127 = ((4, "low", "(II)I"), method_2_code, 2, some .int, 0, true) := rfl
theorem mi_128 : mi 128 = ((4, "low", "(II)I"), method_2_code, 2, some .int, 0, true) := rfl
theorem mi_129 : mi 129 = ((4, "low", "(II)I"), method_2_code, 2, some .int, 0, true) := rfl
theorem mi_130 : mi 130 = ((4, "low", "(II)I"), method_2_code, 2, some .int, 0, true) := rfl
theorem mi_131 : mi 131 = ((4, "low", "(II)I"), method_2_code, 2, some .int, 0, true) := rfl
theorem mi_132 : mi 132 = ((4, "low", "(II)I"), method_2_code, 2, some .int, 0, true) := rfl
theorem mi_133 : mi 133 = ((4, "low", "(II)I"), method_2_code, 2, some .int, 0, true) := rfl
theorem mi_134 : mi 134 = ((4, "low", "(II)I"), method_2_code, 2, some .int, 0, true) := rfl
theorem mi_135 : mi 135 = ((4, "low", "(II)I"), method_2_code, 2, some .int, 0, true) := rfl
theorem mi_136 : mi 136 = ((4, "low", "(II)I"), method_2_code, 2, some .int, 0, true) := rfl
theorem mi_137 : mi 137 = ((4, "low", "(II)I"), method_2_code, 2, some .int, 0, true) := rfl
theorem mi_138 : mi 138 = ((4, "low", "(II)I"), method_2_code, 2, some .int, 0, true) := rfl
theorem mi_139 : mi 139 = ((4, "low", "(II)I"), method_2_code, 2, some .int, 0, true) := rfl
theorem mi_140 : mi 140 = ((4, "low", "(II)I"), method_2_code, 2, some .int, 0, true) := rfl
theorem mi_141 : mi 141 = ((4, "low", "(II)I"), method_2_code, 2, some .int, 0, true) := rfl
theorem mi_142 : mi 142 = ((4, "low", "(II)I"), method_2_code, 2, some .int, 0, true) := rfl
theorem mi_143 : mi 143 = ((4, "low", "(II)I"), method_2_code, 2, some .int, 0, true) := rfl
theorem mi_144 : mi 144 = ((4, "low", "(II)I"), method_2_code, 2, some .int, 0, true) := rfl
theorem mi_145 : mi 145 = ((4, "low", "(II)I"), method_2_code, 2, some .int, 0, true) := rfl
theorem mi_146 : mi 146 = ((4, "low", "(II)I"), method_2_code, 2, some .int, 0, true) := rfl
theorem mi_147 : mi 147 = ((4, "low", "(II)I"), method_2_code, 2, some .int, 0, true) := rfl
theorem mi_148 : mi 148 = ((4, "low", "(II)I"), method_2_code, 2, some .int, 0, true) := rfl
theorem mi_149 : mi 149 = ((4, "low", "(II)I"), method_2_code, 2, some .int, 0, true) := rfl
theorem mi_150 : mi 150 = ((4, "low", "(II)I"), method_2_code, 2, some .int, 0, true) := rfl
theorem mi_151 : mi 151 = ((5, "min", "(II)I"), prog_7_method_69_code, 2, some .int, 0, true) := rfl
theorem mi_152 : mi 152 = ((5, "floorMod", "(II)I"), prog_7_method_50_code, 3, some .int, 0, true) := rfl
theorem mi_153 : mi 153 = ((4, "low", "(II)I"), method_2_code, 2, some .int, 0, true) := rfl
theorem mi_154 : mi 154 = ((6, "bitCount", "(I)I"), prog_6_method_49_code, 1, some .int, 0, true) := rfl
theorem mi_155 : mi 155 = ((4, "low", "(II)I"), method_2_code, 2, some .int, 0, true) := rfl
theorem mi_156 : mi 156 = ((4, "low", "(II)I"), method_2_code, 2, some .int, 0, true) := rfl
theorem mi_157 : mi 157 = ((4, "low", "(II)I"), method_2_code, 2, some .int, 0, true) := rfl
theorem mi_158 : mi 158 = ((4, "low", "(II)I"), method_2_code, 2, some .int, 0, true) := rfl
theorem mi_159 : mi 159 = ((4, "low", "(II)I"), method_2_code, 2, some .int, 0, true) := rfl
theorem mi_160 : mi 160 = ((4, "low", "(II)I"), method_2_code, 2, some .int, 0, true) := rfl
theorem mi_161 : mi 161 = ((4, "low", "(II)I"), method_2_code, 2, some .int, 0, true) := rfl
theorem mi_162 : mi 162 = ((4, "low", "(II)I"), method_2_code, 2, some .int, 0, true) := rfl
theorem mi_163 : mi 163 = ((4, "low", "(II)I"), method_2_code, 2, some .int, 0, true) := rfl
theorem mi_164 : mi 164 = ((4, "low", "(II)I"), method_2_code, 2, some .int, 0, true) := rfl
theorem mi_165 : mi 165 = ((4, "low", "(II)I"), method_2_code, 2, some .int, 0, true) := rfl
theorem mi_166 : mi 166 = ((4, "low", "(II)I"), method_2_code, 2, some .int, 0, true) := rfl
theorem mi_167 : mi 167 = ((4, "low", "(II)I"), method_2_code, 2, some .int, 0, true) := rfl
theorem mi_168 : mi 168 = ((4, "low", "(II)I"), method_2_code, 2, some .int, 0, true) := rfl
theorem mi_169 : mi 169 = ((4, "low", "(II)I"), method_2_code, 2, some .int, 0, true) := rfl
theorem mi_170 : mi 170 = ((4, "low", "(II)I"), method_2_code, 2, some .int, 0, true) := rfl
theorem mi_171 : mi 171 = ((4, "law", "([I)Z"), code, 16, some .boolean, 8, true) := rfl
/-- the word stands there, and outlives a call -/
def gw (i : Nat) (w : Cond) : Bool := decide (lw_tbl[i]? = some w) && goodWord w
theorem gw_of {i : Nat} {w : Cond} (h : gw i w = true) : w ∈ lw_tbl ∧ goodWord w = true := by
  simp only [gw, Bool.and_eq_true, decide_eq_true_eq] at h
  exact ⟨List.mem_of_getElem? h.1, h.2⟩
def nstL : List (Nat × Nat × Nat) := [(1, 111, 45), (1, 81, 49), (1, 120, 50)]
/-- a call's use: own class, index, kind (0 virtual, 1 static, 2 <init>, 3 virtual of a nest mate, 4 static of one), the method, its words' places, how many arguments -/
abbrev Ci : Type := Nat × Nat × Nat × Nat × Nat × Nat × Nat × Nat × Nat
def calL1 : List Ci := [(1, 111, 4, 45, 418, 233, 0, 10, 1), (1, 81, 4, 49, 186, 187, 0, 10, 1), (1, 120, 4, 50, 401, 271, 0, 10, 1), (1, 85, 0, 18, 262, 263, 264, 11, 1), (1, 99, 0, 19, 193, 194, 195, 11, 1), (1, 123, 0, 21, 371, 297, 298, 11, 1), (1, 88, 0, 23, 258, 259, 260, 11, 2), (1, 126, 1, 151, 197, 198, 0, 14, 2), (1, 129, 0, 24, 380, 382, 8, 11, 3), (1, 91, 0, 26, 178, 179, 180, 11, 0), (1, 133, 0, 27, 392, 301, 302, 11, 1), (1, 75, 1, 152, 171, 172, 0, 14, 2), (1, 136, 0, 30, 182, 183, 184, 11, 0), (1, 139, 0, 31, 189, 191, 0, 11, 1), (1, 143, 0, 32, 200, 202, 1, 11, 3), (1, 147, 0, 34, 208, 210, 3, 11, 1), (1, 150, 0, 35, 212, 214, 4, 11, 1), (1, 153, 0, 36, 216, 218, 5, 11, 1), (1, 157, 0, 33, 204, 206, 2, 11, 2), (1, 95, 0, 38, 254, 255, 256, 11, 2), (1, 106, 1, 154, 240, 241, 0, 15, 1), (1, 102, 0, 37, 250, 251, 252, 11, 1)]
def calL2 : List Ci := [(2, 11, 2, 11, 26, 27, 0, 11, 0), (2, 32, 2, 0, 108, 109, 0, 13, 0), (2, 46, 0, 12, 163, 164, 165, 11, 1), (2, 50, 0, 13, 414, 415, 416, 11, 2), (2, 54, 0, 46, 220, 222, 6, 10, 1), (2, 221, 0, 47, 224, 226, 7, 10, 0), (2, 58, 0, 14, 397, 398, 399, 11, 2), (2, 61, 0, 15, 406, 407, 408, 11, 2), (2, 64, 0, 16, 351, 352, 353, 11, 0), (2, 68, 0, 17, 359, 360, 361, 11, 1), (2, 71, 0, 20, 367, 368, 369, 11, 1), (2, 74, 0, 22, 376, 377, 378, 11, 3), (2, 78, 0, 25, 388, 389, 390, 11, 1), (2, 81, 0, 28, 167, 168, 169, 11, 0), (2, 84, 0, 29, 174, 175, 176, 11, 1), (2, 87, 1, 49, 287, 187, 0, 10, 1), (2, 91, 0, 18, 288, 263, 264, 11, 1), (2, 94, 0, 23, 289, 259, 260, 11, 2), (2, 97, 0, 19, 294, 194, 195, 11, 1), (2, 100, 0, 37, 295, 251, 252, 11, 1), (2, 103, 0, 21, 296, 297, 298, 11, 1), (2, 106, 0, 27, 300, 301, 302, 11, 1), (2, 126, 1, 45, 232, 233, 0, 10, 1), (2, 135, 0, 26, 235, 179, 180, 11, 0), (2, 141, 0, 39, 236, 237, 238, 11, 0), (2, 159, 0, 40, 246, 247, 248, 11, 1), (2, 168, 1, 50, 270, 271, 0, 10, 1), (2, 177, 1, 65, 312, 313, 0, 10, 1), (2, 183, 0, 41, 326, 327, 328, 11, 1), (2, 186, 1, 67, 330, 331, 0, 10, 1)]
def calL4 : List Ci := [(4, 9, 0, 58, 283, 284, 285, 10, 2), (4, 15, 0, 61, 228, 229, 230, 10, 1), (4, 19, 0, 59, 290, 291, 292, 10, 2), (4, 22, 0, 60, 304, 305, 306, 10, 1), (4, 25, 0, 64, 308, 309, 310, 10, 1), (4, 28, 0, 62, 266, 267, 268, 10, 2), (4, 31, 1, 82, 280, 281, 0, 9, 2), (4, 37, 0, 63, 317, 318, 319, 10, 0), (4, 41, 0, 66, 321, 322, 323, 10, 1), (4, 45, 1, 81, 339, 340, 0, 9, 2), (4, 49, 1, 80, 343, 344, 0, 9, 2), (4, 52, 0, 52, 347, 348, 349, 10, 0), (4, 55, 0, 53, 355, 356, 357, 10, 1), (4, 58, 0, 54, 363, 364, 365, 10, 1), (4, 61, 0, 55, 372, 373, 374, 10, 3), (4, 65, 0, 56, 384, 385, 386, 10, 1), (4, 68, 0, 48, 393, 394, 395, 10, 2), (4, 71, 0, 51, 402, 403, 404, 10, 2), (4, 74, 0, 44, 410, 411, 412, 10, 2), (4, 77, 0, 76, 423, 424, 425, 10, 0), (4, 80, 2, 43, 18, 19, 0, 10, 0), (4, 81, 1, 84, 336, 337, 0, 9, 3), (4, 85, 0, 69, 273, 274, 275, 10, 1), (4, 88, 0, 57, 159, 160, 161, 10, 0), (4, 91, 1, 83, 277, 278, 0, 9, 1)]
def calL (o : Nat) : List Ci := match o with
  | 1 => calL1
  | 2 => calL2
  | 4 => calL4
  | _ => []
def cal (o i : Nat) : Option Ci := (calL o).find? (fun c => c.2.1 == i)
def cwd (K : Nat) : Cond := .code (nm K) (cod K) (mxl K) (rtt K)
def okc (o : Nat) (c : Ci) : Bool := (c.1 == o) && (gw c.2.2.2.2.2.2.2.1 (.initialized (nm c.2.2.2.1).cls) && decide (c.2.2.2.1 < 171) && decide ((parseMethodDescriptor (nm c.2.2.2.1).desc).map (fun d => d.parameters.length) = some c.2.2.2.2.2.2.2.2) && decide ((nm c.2.2.2.1).cls ≠ "java/lang/invoke/MethodHandle" ∧ (nm c.2.2.2.1).cls ≠ "java/lang/invoke/VarHandle") &&
  match c.2.2.1 with
  | 0 => gw c.2.2.2.2.1 (.methodLink (cn o) c.2.1 (nm c.2.2.2.1)) && gw c.2.2.2.2.2.1 (.instanceMethod (nm c.2.2.2.1)) && gw c.2.2.2.2.2.2.1 (.selects (nm c.2.2.2.1).cls (nm c.2.2.2.1) (nm c.2.2.2.1))
  | 1 => gw c.2.2.2.2.1 (.methodLink (cn o) c.2.1 (nm c.2.2.2.1)) && gw c.2.2.2.2.2.1 (.static (nm c.2.2.2.1))
  | 2 => gw c.2.2.2.2.1 (.methodLink (cn o) c.2.1 (nm c.2.2.2.1)) && gw c.2.2.2.2.2.1 (.instanceMethod (nm c.2.2.2.1)) && decide ((nm c.2.2.2.1).name = "<init>") && decide (rtt c.2.2.2.1 = none)
  | 4 => gw c.2.2.2.2.2.1 (.static (nm c.2.2.2.1)) && decide ((o, c.2.1, c.2.2.2.1) ∈ nstL)
  | _ => false)
/-- calls of a nest mate's private methods: their links are said beside the words -/
theorem okc_1_0 : ((calL 1).drop 0 |>.take 12).all (okc 1) = true := by decide +kernel
theorem okc_1_1 : ((calL 1).drop 12 |>.take 12).all (okc 1) = true := by decide +kernel
theorem okc_1 : (calL 1).all (okc 1) = true := by
  have h : calL 1 = ((calL 1).drop 0 |>.take 12) ++ (((calL 1).drop 12 |>.take 12)) := rfl
  rw [h]
  simp only [List.all_append, okc_1_0, okc_1_1, Bool.and_self]
theorem okc_2_0 : ((calL 2).drop 0 |>.take 12).all (okc 2) = true := by decide +kernel
theorem okc_2_1 : ((calL 2).drop 12 |>.take 12).all (okc 2) = true := by decide +kernel
theorem okc_2_2 : ((calL 2).drop 24 |>.take 12).all (okc 2) = true := by decide +kernel
theorem okc_2 : (calL 2).all (okc 2) = true := by
  have h : calL 2 = ((calL 2).drop 0 |>.take 12) ++ (((calL 2).drop 12 |>.take 12) ++ (((calL 2).drop 24 |>.take 12))) := rfl
  rw [h]
  simp only [List.all_append, okc_2_0, okc_2_1, okc_2_2, Bool.and_self]
theorem okc_4_0 : ((calL 4).drop 0 |>.take 12).all (okc 4) = true := by decide +kernel
theorem okc_4_1 : ((calL 4).drop 12 |>.take 12).all (okc 4) = true := by decide +kernel
theorem okc_4_2 : ((calL 4).drop 24 |>.take 12).all (okc 4) = true := by decide +kernel
theorem okc_4 : (calL 4).all (okc 4) = true := by
  have h : calL 4 = ((calL 4).drop 0 |>.take 12) ++ (((calL 4).drop 12 |>.take 12) ++ (((calL 4).drop 24 |>.take 12))) := rfl
  rw [h]
  simp only [List.all_append, okc_4_0, okc_4_1, okc_4_2, Bool.and_self]
set_option maxRecDepth 100000 in
theorem cwd_in : ∀ K, K < 171 → cwd K ∈ lw_tbl := by
  have h : (List.range 171).map cwd = [110, 345, 345, 345, 345, 345, 345, 345, 345, 345, 345, 28, 166, 417, 400, 409, 354, 362, 265, 196, 370, 299, 379, 261, 383, 391, 181, 303, 170, 177, 185, 192, 203, 207, 211, 215, 219, 253, 257, 239, 249, 329, 345, 20, 413, 234, 223, 227, 396, 188, 272, 405, 350, 358, 366, 375, 387, 162, 286, 293, 307, 231, 269, 320, 311, 314, 324, 332, 345, 276, 345, 345, 345, 345, 345, 345, 426, 345, 345, 345, 345, 341, 282, 279, 338, 345, 345, 345, 345, 345, 345, 345, 345, 345, 345, 345, 345, 345, 345, 345, 345, 345, 345, 345, 345, 345, 345, 345, 345, 345, 345, 345, 345, 345, 345, 345, 345, 345, 345, 345, 345, 345, 345, 345, 345, 345, 345, 345, 345, 345, 345, 345, 345, 345, 345, 345, 345, 345, 345, 345, 345, 345, 345, 345, 345, 345, 345, 345, 345, 345, 345, 199, 173, 345, 242, 345, 345, 345, 345, 345, 345, 345, 345, 345, 345, 345, 345, 345, 345, 345, 345].filterMap (fun i => lw_tbl[i]?) := rfl
  intro K hK
  have h1 : cwd K ∈ (List.range 171).map cwd := List.mem_map.mpr ⟨K, List.mem_range.mpr hK, rfl⟩
  rw [h] at h1
  obtain ⟨i, -, hi⟩ := List.mem_filterMap.mp h1
  exact List.mem_of_getElem? hi
end
section
/-! THE PICTURE MACHINE. A memory is (how many cells stand, whole numbers by vector and place, references by cell and place).
Cells have fixed names: 16 b + c is part c of the b-th State (0 the object, 1 .. its arrays), 208.. the desk and the pad, 224.. the model;
from 1000 on what stood before: the script, the static rows, the String constants. -/
abbrev Mm : Type := Nat × (Nat → Nat → Int32) × (Nat → Nat → Option Nat)
abbrev Lo : Type := List (Option Value)
abbrev Rz : Type := Option Value × Mm
abbrev Cf : Type := Nat × Lo × List Value × Mm
abbrev Orc : Type := Nat → List Value → Mm → Option Rz
def up {α : Type} (I : Nat → α) (v : Nat) (V : α) : Nat → α := fun w => if w = v then V else I w
/-- kind (1 .. 4 an object of that class less one; 5 int[], 6 char[], 7 boolean[], 8 State[], 9 int[][]), length, first place -/
def dsS : List (Nat × Nat × Nat) := [(2, 17, 0), (5, 6, 2), (5, 12, 14), (5, 12, 26), (9, 6, 0), (5, 10, 58), (5, 10, 68), (5, 10, 78), (5, 10, 88), (5, 10, 98), (5, 10, 108), (5, 10, 48), (5, 10, 118), (5, 10, 128), (5, 10, 138)]
def dsO : List (Nat × Nat × Nat) := [(3, 10, 0), (8, 6, 0), (8, 2, 0), (7, 2, 1), (1, 5, 0), (6, 80, 10), (5, 3, 6), (0, 0, 0), (0, 0, 0), (0, 0, 0), (0, 0, 0), (0, 0, 0), (0, 0, 0), (0, 0, 0), (0, 0, 0), (0, 0, 0),
  (4, 11, 0), (5, 148, 0), (5, 148, 0), (5, 888, 0), (5, 296, 0), (7, 2, 0), (5, 80, 10), (5, 164, 0)]
def ds (a : Nat) : Nat × Nat × Nat := if a < 208 then dsS.getD (a % 16) (0, 0, 0) else dsO.getD (a - 208) (0, 0, 0)
def kd (a : Nat) : Nat := (ds a).1
def ln (a : Nat) : Nat := (ds a).2.1
def off (a : Nat) : Nat := (ds a).2.2
/-- in which vector an array's or an object's numbers lie -/
def vec (a : Nat) : Nat := if a < 208 then a / 16 else if a < 224 then 20 else if a = 224 then 32 else if a = 229 then 32 else if a = 230 then 32 else if a = 231 then 33 else a
def vx (a j : Nat) : Nat := if a = 227 then 40 + j / 148 else if a = 228 then 50 + j / 148 else vec a
def ix (a j : Nat) : Nat := if a = 227 then j % 148 else if a = 228 then j % 148 else off a + j
/-- a field of a class: 0 a reference, 1 an int, 2 a set of topics that lies as ten numbers, 3 a char; and its place -/
def fkL : List (List (Nat × Nat)) := [[], [(0, 0), (0, 0), (1, 3), (3, 4), (1, 5)], [(0, 0), (0, 0), (0, 0), (0, 0), (0, 0), (0, 0), (0, 0), (0, 0), (1, 1), (2, 0), (1, 13), (1, 0), (1, 8), (1, 9), (1, 10), (1, 11), (1, 12)],
  [(0, 0), (0, 0), (0, 0), (1, 0), (0, 0), (0, 0), (0, 0), (0, 0), (0, 0), (0, 0)], [(0, 0), (0, 0), (0, 0), (1, 2), (0, 0), (0, 0), (0, 0), (1, 3), (1, 4), (0, 0), (1, 5)]]
def fk (c k : Nat) : Nat := ((fkL.getD c []).getD k (0, 0)).1
def fo (c k : Nat) : Nat := ((fkL.getD c []).getD k (0, 0)).2
def bt1 (V : Nat → Int32) (t : Nat) : Nat := if V (38 + t) = 1 then 1 else 0
def pkN (V : Nat → Int32) : Nat := bt1 V 0 + 2 * bt1 V 1 + 4 * bt1 V 2 + 8 * bt1 V 3 + 16 * bt1 V 4 + 32 * bt1 V 5 + 64 * bt1 V 6 + 128 * bt1 V 7 + 256 * bt1 V 8 + 512 * bt1 V 9
def pk (V : Nat → Int32) : Int32 := nI (pkN V)
def unpk (V : Nat → Int32) (m : Nat) : Nat → Int32 := fun k => if 38 ≤ k ∧ k < 48 then nI (m / 2 ^ (k - 38) % 2) else V k
/-- the order in which the cells are made -/
def sbL : List Nat := [1, 16, 32, 47, 62, 77, 92, 107, 123, 138, 157, 172, 187]
def poL : List Nat := [0, 31, 122, 153, 154, 155, 156, 9999, 9999, 9999, 9999, 9999, 9999, 9999, 9999, 9999, 9999, 9999, 9999, 9999, 9999, 9999, 9999, 9999]
def pos (a : Nat) : Nat := if a < 208 then (if a % 16 = 15 then 9999 else sbL.getD (a / 16) 9999 + a % 16) else poL.getD (a - 208) 9999
def adL : List Nat := [208, 0, 1, 2, 3, 4, 5, 6, 7, 8, 9, 10, 11, 12, 13, 14, 16, 17, 18, 19, 20, 21, 22, 23, 24, 25, 26, 27, 28, 29, 30, 209, 32, 33, 34, 35, 36, 37, 38, 39, 40, 41, 42, 43, 44, 45, 46, 48, 49, 50, 51, 52, 53, 54, 55, 56, 57, 58, 59, 60, 61, 62, 64, 65, 66, 67, 68, 69, 70, 71, 72, 73, 74, 75, 76, 77, 78, 80, 81, 82, 83, 84, 85, 86, 87, 88, 89, 90, 91, 92, 93, 94, 96, 97, 98, 99, 100, 101, 102, 103, 104, 105, 106, 107, 108, 109, 110, 112, 113, 114, 115, 116, 117, 118, 119, 120, 121, 122, 123, 124, 125, 126, 210, 128, 129, 130, 131, 132, 133, 134, 135, 136, 137, 138, 139, 140, 141, 142, 144, 145, 146, 147, 148, 149, 150, 151, 152, 153, 154, 155, 156, 157, 158, 211, 212, 213, 214, 160, 161, 162, 163, 164, 165, 166, 167, 168, 169, 170, 171, 172, 173, 174, 176, 177, 178, 179, 180, 181, 182, 183, 184, 185, 186, 187, 188, 189, 190, 192, 193, 194, 195, 196, 197, 198, 199, 200, 201, 202, 203, 204, 205, 206]
def adr (n : Nat) : Nat := adL.getD n 999
/-- how many slots the first n cells have -/
def sl : Nat → Nat
  | 0 => 0
  | n + 1 => sl n + ln (adr n)
/-- what an object's field holds -/
def fv (I : Nat → Nat → Int32) (R : Nat → Nat → Option Nat) (a k : Nat) : Value := match fk (kd a) k with
  | 0 => va_rf (R a k)
  | 2 => .int (pk (I (vec a)))
  | _ => .int (I (vec a) (fo (kd a) k))
/-- the constants' contents -/
def csI (a j : Nat) : Int32 := match a with
  | 1001 => ([50, 5, 10, 8, 3, 40] : List Int32).getD j 0
  | 1002 => ([1, 1, 0, 0, 0, 0] : List Int32).getD j 0
  | _ => ([100, 20, 50, 20, 99, 999] : List Int32).getD j 0
/-! ===== the step ===== -/
abbrev inb (j : Int32) (n : Nat) : Prop := ¬ (j < 0 ∨ n ≤ j.toNatClampNeg)
def cln (x : Option Value) : Option Value := match x with
  | some v => if v.category = 2 then none else some v
  | none => none
def sto1 : Lo → Nat → Value → Lo
  | [], _, _ => []
  | _ :: l, 0, v => some v :: l
  | x :: l, 1, v => cln x :: sto1 l 0 v
  | x :: l, i + 2, v => x :: sto1 l (i + 1) v
def sto2 : Lo → Nat → Value → Lo
  | _ :: _ :: l, 0, v => some v :: none :: l
  | x :: l, 1, v => cln x :: sto2 l 0 v
  | x :: l, i + 2, v => x :: sto2 l (i + 1) v
  | _, _, _ => []
/-- what a constant's instruction pushes, and its length -/
def pshI (i : Instr) : Option (Value × Nat) := match i with
  | .iconst n => some (.int (Int32.ofInt n), 1)
  | .bipush n => some (.int (Int8.ofInt n).toInt32, 2)
  | .sipush n => some (.int (Int16.ofInt n).toInt32, 3)
  | .lconst n => some (.long (Int64.ofNat n), 1)
  | .fconst 0 => some (.float FP.fconst0, 1)
  | .fconst 1 => some (.float FP.fconst1, 1)
  | .fconst 2 => some (.float FP.fconst2, 1)
  | .dconst 0 => some (.double FP.dconst0, 1)
  | .dconst 1 => some (.double FP.dconst1, 1)
  | _ => none
/-- a value's kind -/
def vkn (v : Value) : Nat := match v with
  | .int _ => 0
  | .long _ => 1
  | .float _ => 2
  | .double _ => 3
  | .ref _ => 4
  | _ => 9
def ldI (i : Instr) : Option (Nat × Nat × Nat) := match i with
  | .iload_n k => some (0, k, 1)
  | .lload_n k => some (1, k, 1)
  | .fload_n k => some (2, k, 1)
  | .dload_n k => some (3, k, 1)
  | .aload_n k => some (4, k, 1)
  | .iload k => some (0, k, 2)
  | .lload k => some (1, k, 2)
  | .fload k => some (2, k, 2)
  | .dload k => some (3, k, 2)
  | .aload k => some (4, k, 2)
  | _ => none
def stoI (i : Instr) : Option (Nat × Nat × Nat) := match i with
  | .istore_n k => some (0, k, 1)
  | .lstore_n k => some (1, k, 1)
  | .fstore_n k => some (2, k, 1)
  | .dstore_n k => some (3, k, 1)
  | .astore_n k => some (4, k, 1)
  | .istore k => some (0, k, 2)
  | .lstore k => some (1, k, 2)
  | .fstore k => some (2, k, 2)
  | .dstore k => some (3, k, 2)
  | .astore k => some (4, k, 2)
  | _ => none
def binI (i : Instr) (x y : Int32) : Option Int32 := match i with
  | .iadd => some (x + y)
  | .isub => some (x - y)
  | .imul => some (x * y)
  | .iand => some (x &&& y)
  | .ior => some (x ||| y)
  | .ixor => some (x ^^^ y)
  | .ishl => some (x <<< (y &&& 31))
  | .ishr => some (x >>> (y &&& 31))
  | .iushr => some (x.toUInt32 >>> (y.toUInt32 &&& Int32.toUInt32 31)).toInt32
  | .idiv => if y = 0 then none else some (x / y)
  | .irem => if y = 0 then none else some (x - x / y * y)
  | _ => none
def binL (i : Instr) (x y : Int64) : Option Int64 := match i with
  | .ladd => some (x + y)
  | .lsub => some (x - y)
  | .land => some (x &&& y)
  | .lor => some (x ||| y)
  | _ => none
def shL (i : Instr) (x : Int64) (y : Int32) : Option Int64 := match i with
  | .lshl => some (x <<< (y.toInt64 &&& 63))
  | .lshr => some (x >>> (y.toInt64 &&& 63))
  | .lushr => some (x.toUInt64 >>> (y.toInt64.toUInt64 &&& Int64.toUInt64 63)).toInt64
  | _ => none
def unI (i : Instr) (v : Value) : Option Value := match i, v with
  | .i2l, .int x => some (.long x.toInt64)
  | .l2i, .long x => some (.int x.toInt32)
  | .i2b, .int x => some (.int x.toInt8.toInt32)
  | .i2c, .int x => some (.int (x.toUInt32 % 65536).toInt32)
  | .i2d, .int x => some (.double (FP.i2d x))
  | .d2l, .double x => some (.long (FP.d2l x))
  | .f2i, .float x => some (.int (FP.f2i x))
  | .d2f, .double x => if FP.d2f x &&& 0x7fffffff ≤ 0x7f800000 then some (.float (FP.d2f x)) else none
  | _, _ => none
def binF (i : Instr) (v w : Value) : Option Value := match i, v, w with
  | .lcmp, .long x, .long y => some (.int (lg_cmp x y))
  | .fmul, .float x, .float y => if FP.fmul x y &&& 0x7fffffff ≤ 0x7f800000 then some (.float (FP.fmul x y)) else none
  | .dmul, .double x, .double y => if FP.dmul x y &&& 0x7fffffffffffffff ≤ 0x7ff0000000000000 then some (.double (FP.dmul x y)) else none
  | .ddiv, .double x, .double y => if FP.ddiv x y &&& 0x7fffffffffffffff ≤ 0x7ff0000000000000 then some (.double (FP.ddiv x y)) else none
  | .fcmp op, .float x, .float y => some (.int (Op.cmpValue (FP.fcmp x y) op))
  | .dcmp op, .double x, .double y => some (.int (Op.cmpValue (FP.dcmp x y) op))
  | _, _, _ => none
/-- a condition of two ints -/
def cnd (c : ClassFile.Cond) (x y : Int32) : Bool := match c with
  | .eq => decide (x = y)
  | .ne => decide (¬ x = y)
  | .lt => decide (x < y)
  | .ge => decide (y ≤ x)
  | .gt => decide (y < x)
  | .le => decide (x ≤ y)
def tgt (pc : Nat) (o : Int) : Nat := ((pc : Int) + o).toNat
/-- what stands at a place of an array of whole numbers -/
def ardI (k : Nat) (n : Nat) (I : Nat → Nat → Int32) (a : Nat) (j : Int32) : Option Int32 :=
  if a < 1000 then (if kd a = k ∧ pos a < n ∧ inb j (ln a) then some (I (vx a j.toNatClampNeg) (ix a j.toNatClampNeg)) else none)
  else if a = 1000 then (if k = 5 ∧ inb j (I 61 0).toNatClampNeg then some (I 60 j.toNatClampNeg) else none)
  else if a < 1004 then (if k = 5 ∧ inb j 6 then some (csI a j.toNatClampNeg) else none)
  else none
def aln (n : Nat) (I : Nat → Nat → Int32) (a : Nat) : Option Int32 :=
  if a < 1000 then (if 5 ≤ kd a ∧ pos a < n then some (nI (ln a)) else none)
  else if a = 1000 then some (nI (I 61 0).toNatClampNeg)
  else none
def wI (I : Nat → Nat → Int32) (a j : Nat) (x : Int32) : Nat → Nat → Int32 := up I (vx a j) (up (I (vx a j)) (ix a j) x)
/-- what a store keeps -/
def nar (k : Nat) (x : Int32) : Int32 := match k with
  | 6 => vp_nar .char x
  | 7 => vp_nar .boolean x
  | _ => x
def wR (R : Nat → Nat → Option Nat) (a k : Nat) (v : Option Nat) : Nat → Nat → Option Nat := up R a (up (R a) k v)
/-- a new cell's numbers and references -/
def bnI (I : Nat → Nat → Int32) (a : Nat) : Nat → Nat → Int32 :=
  if kd a ≤ 4 then (fun v x => if v = vec a ∧ ((List.range (ln a)).any (fun k => (fk (kd a) k == 1 || fk (kd a) k == 3) && x == fo (kd a) k) || (kd a == 2 && decide (38 ≤ x ∧ x < 48))) = true then 0 else I v x)
  else if kd a ≤ 7 then (fun v x => if (if a = 227 then 40 ≤ v ∧ v < 46 ∧ x < 148 else if a = 228 then 50 ≤ v ∧ v < 52 ∧ x < 148 else v = vec a ∧ off a ≤ x ∧ x < off a + ln a) then 0 else I v x)
  else I
def bnR (R : Nat → Nat → Option Nat) (a : Nat) : Nat → Nat → Option Nat := up R a (fun _ => none)
def bn (M : Mm) : Mm := (M.1 + 1, bnI M.2.1 (adr M.1), bnR M.2.2 (adr M.1))
/-- a copy between arrays of ints -/
def cpI (n : Nat) (I : Nat → Nat → Int32) (a0 : Nat) (sp : Int32) (a1 : Nat) (dp : Int32) (w : Int32) : Option (Nat → Nat → Int32) :=
  if (a0 < 1000 ∧ kd a0 = 5 ∧ pos a0 < n ∧ a0 ≠ 227 ∧ a0 ≠ 228 ∨ a0 = 1001) ∧ a1 < 1000 ∧ kd a1 = 5 ∧ pos a1 < n ∧ a1 ≠ 227 ∧ a1 ≠ 228 ∧ sp = 0 ∧ dp = 0 ∧ ¬ w < 0 ∧ w.toNatClampNeg ≤ (if a0 = 1001 then 6 else ln a0) ∧ w.toNatClampNeg ≤ ln a1 then
    some (up I (vec a1) (fun x => if off a1 ≤ x ∧ x < off a1 + w.toNatClampNeg then (if a0 = 1001 then csI 1001 (x - off a1) else I (vec a0) (off a0 + (x - off a1))) else I (vec a1) x))
  else none
/-- is it an object of that class -/
def isO (C : String) (n : Nat) (a : Nat) : Bool := if a < 1000 then decide (1 ≤ kd a ∧ kd a ≤ 4 ∧ pos a < n ∧ cn (kd a - 1) = C) else false
/-- a class's field, out of an object -/
def gfI (n : Nat) (I : Nat → Nat → Int32) (R : Nat → Nat → Option Nat) (ci k a : Nat) : Option Value :=
  if ci = 100 then none
  else if kd a = ci + 1 ∧ a < 1000 ∧ pos a < n ∧ k < ln a then some (fv I R a k) else none
def pfI (n : Nat) (I : Nat → Nat → Int32) (R : Nat → Nat → Option Nat) (ci k a : Nat) (v : Value) : Option ((Nat → Nat → Int32) × (Nat → Nat → Option Nat)) :=
  if kd a = ci + 1 ∧ a < 1000 ∧ pos a < n ∧ k < ln a ∧ ci ≤ 3 then
    (match fk (ci + 1) k, v with
      | 0, .ref b => if b < 1000 ∧ pos b < n then some (I, wR R a k (some b)) else none
      | 1, .int x => some (up I (vec a) (up (I (vec a)) (fo (ci + 1) k) x), R)
      | 3, .int x => if narrow .char (.int x) = .int x ∧ fits .char (.int x) = true then some (up I (vec a) (up (I (vec a)) (fo (ci + 1) k) x), R) else none
      | 2, .int x => if ¬ x < 0 ∧ x.toNatClampNeg < 1024 then some (up I (vec a) (unpk (I (vec a)) x.toNatClampNeg), R) else none
      | _, _ => none)
  else none
/-- a field's use: own class, index, the field's class and number, the word's place, final -/
abbrev Fi : Type := Nat × Nat × Nat × Nat × Nat × Bool
def fldL0 : List Fi := [(0, 9, 0, 0, 112, true), (0, 15, 0, 1, 113, true)]
def fldL1 : List Fi := [(1, 9, 1, 0, 37, true), (1, 24, 1, 1, 39, true), (1, 27, 1, 2, 41, true), (1, 32, 1, 3, 43, true), (1, 35, 1, 4, 44, true), (1, 38, 1, 5, 46, true), (1, 41, 1, 6, 48, true), (1, 44, 1, 7, 50, true), (1, 47, 1, 8, 52, false), (1, 51, 1, 9, 54, false), (1, 54, 1, 10, 55, false), (1, 57, 1, 11, 57, false), (1, 60, 1, 12, 59, false), (1, 63, 1, 13, 61, false), (1, 66, 1, 14, 63, false), (1, 69, 1, 15, 65, false), (1, 72, 1, 16, 67, false)]
def fldL2 : List Fi := [(2, 12, 2, 0, 128, false), (2, 16, 2, 1, 129, false), (2, 19, 2, 2, 130, true), (2, 23, 2, 4, 132, true), (2, 26, 2, 5, 133, true), (2, 33, 2, 6, 134, true), (2, 37, 2, 7, 135, true), (2, 40, 2, 8, 136, true), (2, 43, 2, 9, 137, true), (2, 165, 2, 3, 131, false), (2, 109, 1, 5, 47, true), (2, 113, 1, 6, 49, true), (2, 116, 1, 7, 51, true), (2, 119, 1, 10, 56, false), (2, 123, 1, 4, 45, true), (2, 129, 1, 0, 38, true), (2, 132, 1, 11, 58, false), (2, 138, 1, 8, 53, false), (2, 144, 1, 12, 60, false), (2, 147, 1, 13, 62, false), (2, 150, 1, 14, 64, false), (2, 153, 1, 15, 66, false), (2, 156, 1, 16, 68, false), (2, 162, 0, 2, 114, false), (2, 171, 1, 1, 40, true), (2, 174, 1, 2, 42, true)]
def fldL (o : Nat) : List Fi := match o with
  | 0 => fldL0
  | 1 => fldL1
  | 2 => fldL2
  | _ => []
def fld (o i : Nat) : Option Fi := (fldL o).find? (fun c => c.2.1 == i)
def gstL : List (Nat × Nat × Nat × Nat) := [(1, 15, 1001, 0), (1, 114, 1002, 0), (1, 117, 1003, 0)]
def gst (o i : Nat) : Option (Nat × Nat × Nat × Nat) := gstL.find? (fun c => c.1 == o && c.2.1 == i)
def konL : List (Nat × Nat × Value) := [(4, 7, .int 2147483647), (2, 224, .float 1258291200), (2, 225, .int 8388608), (4, 8, .int 40503), (6, 265, .int 1431655765), (6, 266, .int 858993459), (6, 267, .int 252645135)]
def kon (o i : Nat) : Option (Nat × Nat × Value) := konL.find? (fun c => c.1 == o && c.2.1 == i)
def ko2L : List (Nat × Nat × Value) := [(2, 181, .long (-1)), (2, 226, .double 4611686018427387904), (2, 228, .double 4841369599423283200), (2, 230, .long (4503599627370496))]
def ko2 (o i : Nat) : Option (Nat × Nat × Value) := ko2L.find? (fun c => c.1 == o && c.2.1 == i)
def nwcL : List (Nat × Nat × Nat) := [(2, 9, 1), (2, 30, 0), (4, 10, 2)]
def nwc (o i : Nat) : Option (Nat × Nat × Nat) := nwcL.find? (fun c => c.1 == o && c.2.1 == i)
def anw (o i : Nat) : Bool := (o == 2 && i == 9)
def mna (o i : Nat) : Bool := (o == 1 && i == 30)
def natL : List (Nat × Nat × Nat) := [(0, 3, 4), (1, 3, 4), (1, 18, 1), (2, 3, 4)]
def nat (o i : Nat) : Option Nat := (natL.find? (fun c => c.1 == o && c.2.1 == i)).map (fun c => c.2.2)
/-- what a static field holds -/
def gsv (w : Nat) : Value := .ref w
/-! the steps, by groups: what comes next, or the end -/
def stA (i : Instr) (pc : Nat) (ls : Lo) (st : List Value) (M : Mm) : Option Cf :=
  match pshI i with
  | some (v, n) => some (pc + n, ls, v :: st, M)
  | none => match ldI i with
    | some (t, k, n) => (match ls[k]? with
      | some (some v) => if vkn v = t then some (pc + n, ls, v :: st, M) else none
      | _ => none)
    | none => match stoI i with
      | some (t, k, n) => (match st with
        | v :: r => if vkn v = t then (if v.category = 2 then (if k + 1 < ls.length then some (pc + n, sto2 ls k v, r, M) else none) else (if k < ls.length then some (pc + n, sto1 ls k v, r, M) else none)) else none
        | _ => none)
      | none => none
def stBn (i : Instr) (pc : Nat) (ls : Lo) (st : List Value) (M : Mm) : Option Cf :=
  match st with
  | .int y :: .int x :: r => (binI i x y).map (fun z => (pc + 1, ls, .int z :: r, M))
  | .long y :: .long x :: r => (match binL i x y with
    | some z => some (pc + 1, ls, .long z :: r, M)
    | none => (binF i (.long x) (.long y)).map (fun z => (pc + 1, ls, z :: r, M)))
  | .int y :: .long x :: r => (shL i x y).map (fun z => (pc + 1, ls, .long z :: r, M))
  | .float y :: .float x :: r => (binF i (.float x) (.float y)).map (fun z => (pc + 1, ls, z :: r, M))
  | .double y :: .double x :: r => (binF i (.double x) (.double y)).map (fun z => (pc + 1, ls, z :: r, M))
  | _ => none
def stUn (i : Instr) (pc : Nat) (ls : Lo) (st : List Value) (M : Mm) : Option Cf :=
  match st with
  | v :: r => (unI i v).map (fun z => (pc + 1, ls, z :: r, M))
  | _ => none
def stJ (i : Instr) (len pc : Nat) (ls : Lo) (st : List Value) (M : Mm) : Option Cf :=
  match i with
  | .goto o => if len = 3 ∧ 0 ≤ (pc : Int) + o then some (tgt pc o, ls, st, M) else none
  | .iinc k n => (match ls[k]? with
    | some (some (.int x)) => if len = 3 then some (pc + 3, sto1 ls k (.int (x + Int32.ofInt n)), st, M) else none
    | _ => none)
  | .ifCond c o => (match st with
    | .int x :: r => if len = 3 ∧ 0 ≤ (pc : Int) + o then some (if cnd c x 0 = true then tgt pc o else pc + 3, ls, r, M) else none
    | _ => none)
  | .if_icmp c o => (match st with
    | .int y :: .int x :: r => if len = 3 ∧ 0 ≤ (pc : Int) + o then some (if cnd c x y = true then tgt pc o else pc + 3, ls, r, M) else none
    | _ => none)
  | .tableswitch d lo hi os => (match st with
    | .int x :: r => if x.toInt < lo ∨ hi < x.toInt then (if 0 ≤ (pc : Int) + d then some (tgt pc d, ls, r, M) else none)
        else (match os[(x.toInt - lo).toNat]? with
          | some o => if 0 ≤ (pc : Int) + o then some (tgt pc o, ls, r, M) else none
          | none => none)
    | _ => none)
  | .lookupswitch d ps => (match st with
    | .int x :: r => if (ps.toList.zip (ps.toList.drop 1)).all (fun (a, next) => a.1 < next.1) = true ∧ 0 ≤ (pc : Int) + Op.lookupswitch.offset ps.toList d x.toInt then some (tgt pc (Op.lookupswitch.offset ps.toList d x.toInt), ls, r, M) else none
    | _ => none)
  | .dup => (match st with
    | v :: r => if v.category = 1 then some (pc + 1, ls, v :: v :: r, M) else none
    | _ => none)
  | .pop => (match st with
    | v :: r => if v.category = 1 then some (pc + 1, ls, r, M) else none
    | _ => none)
  | .dup2 => (match st with
    | v :: w :: r => if v.category = 1 ∧ w.category = 1 then some (pc + 1, ls, v :: w :: v :: w :: r, M) else none
    | _ => none)
  | _ => none
def stM (K : Nat) (i : Instr) (pc : Nat) (ls : Lo) (st : List Value) (M : Mm) : Option Cf :=
  match i, st with
  | .iaload, .int j :: .ref a :: r => (ardI 5 M.1 M.2.1 a j).map (fun z => (pc + 1, ls, .int z :: r, M))
  | .caload, .int j :: .ref a :: r => (ardI 6 M.1 M.2.1 a j).map (fun z => (pc + 1, ls, .int z :: r, M))
  | .baload, .int j :: .ref a :: r => (ardI 7 M.1 M.2.1 a j).map (fun z => (pc + 1, ls, .int z :: r, M))
  | .aaload, .int j :: .ref a :: r => if 8 ≤ kd a ∧ a < 1000 ∧ pos a < M.1 ∧ inb j (ln a) then some (pc + 1, ls, va_rf (M.2.2 a j.toNatClampNeg) :: r, M) else none
  | .arraylength, .ref a :: r => (aln M.1 M.2.1 a).map (fun z => (pc + 1, ls, .int z :: r, M))
  | .iastore, .int x :: .int j :: .ref a :: r => if kd a = 5 ∧ a < 1000 ∧ pos a < M.1 ∧ inb j (ln a) then some (pc + 1, ls, r, (M.1, wI M.2.1 a j.toNatClampNeg x, M.2.2)) else none
  | .castore, .int x :: .int j :: .ref a :: r => if kd a = 6 ∧ a < 1000 ∧ pos a < M.1 ∧ inb j (ln a) then some (pc + 1, ls, r, (M.1, wI M.2.1 a j.toNatClampNeg (vp_nar .char x), M.2.2)) else none
  | .bastore, .int x :: .int j :: .ref a :: r => if kd a = 7 ∧ a < 1000 ∧ pos a < M.1 ∧ inb j (ln a) then some (pc + 1, ls, r, (M.1, wI M.2.1 a j.toNatClampNeg (vp_nar .boolean x), M.2.2)) else none
  | .aastore, .ref b :: .int j :: .ref a :: r => if kd a = 8 ∧ a < 1000 ∧ pos a < M.1 ∧ inb j (ln a) ∧ kd b = 2 ∧ b < 1000 ∧ pos b < M.1 then some (pc + 1, ls, r, (M.1, M.2.1, wR M.2.2 a j.toNatClampNeg (some b))) else none
  | .getfield x, .ref a :: r => (match fld (ow K) x with
    | some c => (gfI M.1 M.2.1 M.2.2 c.2.2.1 c.2.2.2.1 a).map (fun z => (pc + 3, ls, z :: r, M))
    | none => none)
  | .putfield x, v :: .ref a :: r => (match fld (ow K) x with
    | some c => if c.2.2.1 = ow K ∧ ((nm K).name = "<init>" ∨ c.2.2.2.2.2 = false) ∨ c.2.2.2.2.2 = false then (pfI M.1 M.2.1 M.2.2 c.2.2.1 c.2.2.2.1 a v).map (fun z => (pc + 3, ls, r, (M.1, z.1, z.2))) else none
    | none => none)
  | .getstatic x, r => (match gst (ow K) x with
    | some c => some (pc + 3, ls, gsv c.2.2.1 :: r, M)
    | none => none)
  | .ldc x, r => (match kon (ow K) x with
    | some c => some (pc + 2, ls, c.2.2 :: r, M)
    | none => none)
  | .ldc_w x, r => (match kon (ow K) x with
    | some (_, _, .int v) => some (pc + 3, ls, .int v :: r, M)
    | _ => none)
  | .ldc2_w x, r => (match ko2 (ow K) x with
    | some c => some (pc + 3, ls, c.2.2 :: r, M)
    | none => none)
  | .new x, r => (match nwc (ow K) x with
    | some c => if M.1 < 202 ∧ kd (adr M.1) = c.2.2 + 1 then some (pc + 3, ls, .ref (adr M.1) :: r, bn M) else none
    | none => none)
  | .newarray t, .int w :: r => if M.1 < 202 ∧ kd (adr M.1) = (if newarray.typeOf t = .int then 5 else if newarray.typeOf t = .char then 6 else if newarray.typeOf t = .boolean then 7 else 99) ∧ ¬ w < 0 ∧ w.toNatClampNeg = ln (adr M.1) then some (pc + 2, ls, .ref (adr M.1) :: r, bn M) else none
  | .anewarray x, .int w :: r => if anw (ow K) x = true ∧ M.1 < 202 ∧ kd (adr M.1) = 8 ∧ ¬ w < 0 ∧ w.toNatClampNeg = ln (adr M.1) then some (pc + 3, ls, .ref (adr M.1) :: r, bn M) else none
  | .multianewarray x d, .int w :: .int u :: r => if mna (ow K) x = true ∧ d = 2 ∧ M.1 + 7 ≤ 202 ∧ kd (adr M.1) = 9 ∧ u = 6 ∧ w = 10 ∧ adr M.1 + 6 < 208 ∧ (List.range 6).all (fun j => adr (M.1 + 1 + j) == adr M.1 + 1 + j) = true then
      some (pc + 4, ls, .ref (adr M.1) :: r, (M.1 + 7, (bn (bn (bn (bn (bn (bn (bn M))))))).2.1, up (bn (bn (bn (bn (bn (bn (bn M))))))).2.2 (adr M.1) (fun j => if j < 6 then some (adr M.1 + 1 + j) else none))) else none
  | _, _ => none
def stC (F : Orc) (K : Nat) (i : Instr) (pc : Nat) (ls : Lo) (st : List Value) (M : Mm) : Option Cf :=
  match i with
  | .invokestatic x => (match cal (ow K) x with
    | some c => if (c.2.2.1 = 1 ∨ c.2.2.1 = 4) ∧ c.2.2.2.2.2.2.2.2 ≤ st.length ∧ st.length ≤ c.2.2.2.2.2.2.2.2 + 4 ∧ rk c.2.2.2.1 < rk K ∧ mxl c.2.2.2.1 ≤ 18 then
        (F c.2.2.2.1 (st.take c.2.2.2.2.2.2.2.2).reverse M).map (fun z => (pc + 3, ls, z.1.toList ++ st.drop c.2.2.2.2.2.2.2.2, z.2)) else none
    | none => (match nat (ow K) x, st with
      | some 1, .int w :: .int dp :: .ref a1 :: .int sp :: .ref a0 :: r => if r.length ≤ 4 ∧ 1 ≤ rk K then (cpI M.1 M.2.1 a0 sp a1 dp w).map (fun z => (pc + 3, ls, r, (M.1, z, M.2.2))) else none
      | _, _ => none))
  | .invokevirtual x => (match cal (ow K) x with
    | some c => (match st.drop c.2.2.2.2.2.2.2.2 with
      | .ref a :: r => if c.2.2.1 = 0 ∧ c.2.2.2.2.2.2.2.2 ≤ st.length ∧ r.length ≤ 4 ∧ rk c.2.2.2.1 < rk K ∧ mxl c.2.2.2.1 ≤ 18 ∧ isO (nm c.2.2.2.1).cls M.1 a = true then
          (F c.2.2.2.1 (.ref a :: (st.take c.2.2.2.2.2.2.2.2).reverse) M).map (fun z => (pc + 3, ls, z.1.toList ++ r, z.2)) else none
      | _ => none)
    | none => none)
  | .invokespecial x => (match cal (ow K) x with
    | some c => (match st.drop c.2.2.2.2.2.2.2.2 with
      | .ref a :: r => if c.2.2.1 = 2 ∧ c.2.2.2.2.2.2.2.2 ≤ st.length ∧ r.length ≤ 4 ∧ rk c.2.2.2.1 < rk K ∧ mxl c.2.2.2.1 ≤ 18 then
          (match F c.2.2.2.1 (.ref a :: (st.take c.2.2.2.2.2.2.2.2).reverse) M with
            | some (none, M') => some (pc + 3, ls, r, M')
            | _ => none) else none
      | _ => none)
    | none => (match nat (ow K) x, st with
      | some 4, .ref _ :: r => if r.length ≤ 4 ∧ 1 ≤ rk K then some (pc + 3, ls, r, M) else none
      | _, _ => none))
  | _ => none
def stR (K : Nat) (i : Instr) (st : List Value) (M : Mm) : Option Rz :=
  match i, st with
  | .ireturn, [.int v] => (match rtt K with
    | some ty => if narrow ty (.int v) = .int v then some (some (.int v), M) else none
    | none => none)
  | .lreturn, [.long v] => if rtt K = some .long then some (some (.long v), M) else none
  | .return_, [] => if rtt K = none then some (none, M) else none
  | _, _ => none
/-- an instruction's length -/
def lok (i : Instr) (len : Nat) : Bool := match i with
  | .bipush _ | .iload _ | .lload _ | .fload _ | .dload _ | .aload _ | .istore _ | .lstore _ | .fstore _ | .dstore _ | .astore _ | .ldc _ | .newarray _ => len == 2
  | .sipush _ | .iinc _ _ | .goto _ | .ifCond _ _ | .if_icmp _ _ | .getfield _ | .putfield _ | .getstatic _ | .ldc_w _ | .ldc2_w _ | .new _ | .anewarray _ | .invokestatic _ | .invokevirtual _ | .invokespecial _ => len == 3
  | .multianewarray _ _ => len == 4
  | .tableswitch _ _ _ _ | .lookupswitch _ _ => true
  | _ => len == 1
def stp (F : Orc) (K : Nat) (c : Cf) : Option (Cf ⊕ Rz) :=
  match decode (cod K) c.1 with
  | .error _ => none
  | .ok (i, len) => if lok i len = false then none else (match stR K i c.2.2.1 c.2.2.2 with
    | some r => some (.inr r)
    | none => (match stA i c.1 c.2.1 c.2.2.1 c.2.2.2 with
      | some c' => some (.inl c')
      | none => (match stBn i c.1 c.2.1 c.2.2.1 c.2.2.2 with
        | some c' => some (.inl c')
        | none => (match stUn i c.1 c.2.1 c.2.2.1 c.2.2.2 with
          | some c' => some (.inl c')
          | none => (match stJ i len c.1 c.2.1 c.2.2.1 c.2.2.2 with
            | some c' => some (.inl c')
            | none => (match stM K i c.1 c.2.1 c.2.2.1 c.2.2.2 with
              | some c' => some (.inl c')
              | none => (match stC F K i c.1 c.2.1 c.2.2.1 c.2.2.2 with
                | some c' => some (.inl c')
                | none => none)))))))
def run (F : Orc) (K : Nat) : Nat → Cf → Option Rz
  | 0, _ => none
  | n + 1, c => match stp F K c with
    | none => none
    | some (.inl c') => run F K n c'
    | some (.inr r) => some r
theorem run_mono {F : Orc} {K : Nat} : ∀ (n : Nat) (c : Cf) (r : Rz), run F K n c = some r → run F K (n + 1) c = some r := by
  intro n
  induction n with
  | zero => intro c r h; cases h
  | succ n ih =>
    intro c r h
    rw [run] at h ⊢
    cases hs : stp F K c with
    | none => rw [hs] at h; cases h
    | some x =>
      rw [hs] at h
      cases x with
      | inl c' => exact ih c' r h
      | inr z => exact h
theorem run_le {F : Orc} {K : Nat} {n m : Nat} {c : Cf} {r : Rz} (h : run F K n c = some r) (hm : n ≤ m) : run F K m c = some r := by
  induction hm with
  | refl => exact h
  | step _ ih => exact run_mono _ _ _ ih
theorem run_lim (F : Orc) (K : Nat) (c : Cf) : ∃ o : Option Rz, ∃ n, ∀ m, n ≤ m → run F K m c = o := by
  by_cases h : ∃ n r, run F K n c = some r
  · obtain ⟨n, r, h⟩ := h
    exact ⟨some r, n, fun m hm => run_le h hm⟩
  · refine ⟨none, 0, fun m _ => ?_⟩
    cases hr : run F K m c with
    | none => rfl
    | some r => exact absurd ⟨m, r, hr⟩ h
noncomputable def EV (F : Orc) (K : Nat) (c : Cf) : Option Rz := Classical.choose (run_lim F K c)
theorem EV_spec (F : Orc) (K : Nat) (c : Cf) : ∃ n, ∀ m, n ≤ m → run F K m c = EV F K c := Classical.choose_spec (run_lim F K c)
theorem EV_step (F : Orc) (K : Nat) (c : Cf) : EV F K c = (match stp F K c with
    | none => none
    | some (.inl c') => EV F K c'
    | some (.inr r) => some r) := by
  obtain ⟨n, hn⟩ := EV_spec F K c
  have h1 := hn (n + 1) (Nat.le_succ n)
  rw [← h1, run]
  cases hs : stp F K c with
  | none => rfl
  | some x =>
    cases x with
    | inr z => rfl
    | inl c' =>
      obtain ⟨n', hn'⟩ := EV_spec F K c'
      show run F K n c' = EV F K c'
      have h2 := hn' (n + n') (Nat.le_add_left _ _)
      have h3 := hn (n + n' + 1) (by omega)
      rw [run, hs] at h3
      have h4 : run F K (n + n') c' = EV F K c := h3
      rw [run, hs] at h1
      have h5 : run F K n c' = EV F K c := h1
      rw [h5, ← h4, h2]
theorem EV_run {F : Orc} {K : Nat} {c : Cf} {r : Rz} (h : EV F K c = some r) : ∃ n, run F K n c = some r := by
  obtain ⟨n, hn⟩ := EV_spec F K c
  exact ⟨n, by rw [hn n (Nat.le_refl n), h]⟩
/-- a method's locals at its start -/
def ina : List Value → Lo
  | [] => []
  | v :: l => if v.category = 2 then some v :: none :: ina l else some v :: ina l
def ini (K : Nat) (a : List Value) : Lo := ina a ++ List.replicate (mxl K - (ina a).length) none
/-- what the methods below a rank answer -/
noncomputable def G : Nat → Orc
  | 0 => fun _ _ _ => none
  | r + 1 => fun y a M => if rk y = r ∧ (ina a).length ≤ mxl y then EV (G r) y (0, ini y a, [], M) else G r y a M
noncomputable def FF (y : Nat) (a : List Value) (M : Mm) : Option Rz := G (rk y + 1) y a M
noncomputable def EE (K pc : Nat) (ls : Lo) (st : List Value) (M : Mm) : Option Rz := EV (G (rk K)) K (pc, ls, st, M)
theorem FF_eq (K : Nat) (a : List Value) (M : Mm) (h : (ina a).length ≤ mxl K) : FF K a M = EE K 0 (ini K a) [] M := by
  unfold FF EE
  rw [G]
  exact if_pos ⟨rfl, h⟩
theorem G_none {y : Nat} (a : List Value) (M : Mm) : ∀ {r : Nat}, r ≤ rk y → G r y a M = none := by
  intro r
  induction r with
  | zero => intro _; rfl
  | succ r ih =>
    intro h
    rw [G]
    show (if rk y = r ∧ _ then _ else _) = _
    rw [if_neg (fun q => by have := q.1; omega)]
    exact ih (by omega)
theorem FF_some {y : Nat} {a : List Value} {M : Mm} {z : Rz} (h : FF y a M = some z) : (ina a).length ≤ mxl y ∧ EV (G (rk y)) y (0, ini y a, [], M) = some z := by
  unfold FF at h
  rw [G] at h
  by_cases hc : rk y = rk y ∧ (ina a).length ≤ mxl y
  · have h1 : (if rk y = rk y ∧ (ina a).length ≤ mxl y then EV (G (rk y)) y (0, ini y a, [], M) else G (rk y) y a M) = some z := h
    rw [if_pos hc] at h1
    exact ⟨hc.2, h1⟩
  · have h1 : (if rk y = rk y ∧ (ina a).length ≤ mxl y then EV (G (rk y)) y (0, ini y a, [], M) else G (rk y) y a M) = some z := h
    rw [if_neg hc, G_none a M (Nat.le_refl _)] at h1
    cases h1
theorem G_FF {y : Nat} (a : List Value) (M : Mm) : ∀ {r : Nat}, rk y < r → G r y a M = FF y a M := by
  intro r
  induction r with
  | zero => intro h; omega
  | succ r ih =>
    intro h
    by_cases e : rk y = r
    · unfold FF
      rw [e]
    · rw [G]
      show (if rk y = r ∧ _ then _ else _) = _
      rw [if_neg (fun q => e q.1)]
      exact ih (by omega)
end
section
/-! THE PICTURE MACHINE, instruction by instruction, as equations -/
section ES
variable {K pc : Nat} {ls : Lo} {st : List Value} {M : Mm}
theorem EE_stp {c' : Cf} (h : stp (G (rk K)) K (pc, ls, st, M) = some (.inl c')) : EE K pc ls st M = EE K c'.1 c'.2.1 c'.2.2.1 c'.2.2.2 := by
  unfold EE
  rw [EV_step, h]
theorem EE_ret {r : Rz} (h : stp (G (rk K)) K (pc, ls, st, M) = some (.inr r)) : EE K pc ls st M = some r := by
  unfold EE
  rw [EV_step, h]
theorem EE_no (h : stp (G (rk K)) K (pc, ls, st, M) = none) : EE K pc ls st M = none := by
  unfold EE
  rw [EV_step, h]
theorem e_A {i : Instr} {len : Nat} {c' : Cf} (d : decode (cod K) pc = .ok (i, len)) (hk : lok i len = true) (hr : stR K i st M = none) (ha : stA i pc ls st M = some c') : EE K pc ls st M = EE K c'.1 c'.2.1 c'.2.2.1 c'.2.2.2 :=
  EE_stp (by simp only [stp, d, hk, Bool.true_eq_false, if_false, hr, ha])
theorem e_psh {i : Instr} {len n : Nat} {v : Value} (d : decode (cod K) pc = .ok (i, len)) (hk : lok i len = true) (hr : stR K i st M = none) (ha : pshI i = some (v, n)) : EE K pc ls st M = EE K (pc + n) ls (v :: st) M :=
  e_A (c' := (pc + n, ls, v :: st, M)) d hk hr (by simp only [stA, ha])
theorem e_con {n : Int} {v : Int32} (d : decode (cod K) pc = .ok (.iconst n, 1)) (h : Int32.ofInt n = v) : EE K pc ls st M = EE K (pc + 1) ls (.int v :: st) M := by subst h; exact e_psh d rfl rfl rfl
theorem e_bip {n : Int} {v : Int32} (d : decode (cod K) pc = .ok (.bipush n, 2)) (h : (Int8.ofInt n).toInt32 = v) : EE K pc ls st M = EE K (pc + 2) ls (.int v :: st) M := by subst h; exact e_psh d rfl rfl rfl
theorem e_sip {n : Int} {v : Int32} (d : decode (cod K) pc = .ok (.sipush n, 3)) (h : (Int16.ofInt n).toInt32 = v) : EE K pc ls st M = EE K (pc + 3) ls (.int v :: st) M := by subst h; exact e_psh d rfl rfl rfl
theorem e_ld {i : Instr} {len t k n : Nat} {v : Value} (d : decode (cod K) pc = .ok (i, len)) (hk : lok i len = true) (hr : stR K i st M = none) (hp : pshI i = none) (hi : ldI i = some (t, k, n)) (hl : ls[k]? = some (some v)) (hv : vkn v = t) : EE K pc ls st M = EE K (pc + n) ls (v :: st) M :=
  e_A (c' := (pc + n, ls, v :: st, M)) d hk hr (by simp only [stA, hp, hi, hl, hv, if_true])
theorem e_st1 {i : Instr} {len t k n : Nat} {v : Value} {ls' : Lo} (d : decode (cod K) pc = .ok (i, len)) (hk : lok i len = true) (hr : stR K i (v :: st) M = none) (hp : pshI i = none) (hq : ldI i = none) (hi : stoI i = some (t, k, n)) (hv : vkn v = t) (hc : v.category = 1) (hq9 : k < ls.length) (hs : sto1 ls k v = ls') : EE K pc ls (v :: st) M = EE K (pc + n) ls' st M :=
  e_A (c' := (pc + n, ls', st, M)) d hk hr (by simp only [stA, hp, hq, hi, hv, if_true, hc, hq9, hs]; rfl)
theorem e_st2 {i : Instr} {len t k n : Nat} {v : Value} {ls' : Lo} (d : decode (cod K) pc = .ok (i, len)) (hk : lok i len = true) (hr : stR K i (v :: st) M = none) (hp : pshI i = none) (hq : ldI i = none) (hi : stoI i = some (t, k, n)) (hv : vkn v = t) (hc : v.category = 2) (hq9 : k + 1 < ls.length) (hs : sto2 ls k v = ls') : EE K pc ls (v :: st) M = EE K (pc + n) ls' st M :=
  e_A (c' := (pc + n, ls', st, M)) d hk hr (by simp only [stA, hp, hq, hi, hv, if_true, hc, hq9, hs])
theorem e_B {i : Instr} {len : Nat} {c' : Cf} (d : decode (cod K) pc = .ok (i, len)) (hk : lok i len = true) (hr : stR K i st M = none) (hp : pshI i = none) (hq : ldI i = none) (hw : stoI i = none) (ha : stBn i pc ls st M = some c') : EE K pc ls st M = EE K c'.1 c'.2.1 c'.2.2.1 c'.2.2.2 :=
  EE_stp (by simp only [stp, d, hk, Bool.true_eq_false, if_false, hr, stA, hp, hq, hw, ha])
theorem e_II {i : Instr} {x y z : Int32} (d : decode (cod K) pc = .ok (i, 1)) (hk : lok i 1 = true) (hr : stR K i (.int y :: .int x :: st) M = none) (hp : pshI i = none) (hq : ldI i = none) (hw : stoI i = none) (h : binI i x y = some z) : EE K pc ls (.int y :: .int x :: st) M = EE K (pc + 1) ls (.int z :: st) M :=
  e_B (c' := (pc + 1, ls, .int z :: st, M)) d hk hr hp hq hw (by simp only [stBn, h, Option.map_some])
theorem e_div {x y : Int32} (d : decode (cod K) pc = .ok (.idiv, 1)) (h : ¬ y = 0) : EE K pc ls (.int y :: .int x :: st) M = EE K (pc + 1) ls (.int (x / y) :: st) M := e_II d rfl rfl rfl rfl rfl (by simp only [binI, h, if_false])
theorem e_rem {x y : Int32} (d : decode (cod K) pc = .ok (.irem, 1)) (h : ¬ y = 0) : EE K pc ls (.int y :: .int x :: st) M = EE K (pc + 1) ls (.int (x - x / y * y) :: st) M := e_II d rfl rfl rfl rfl rfl (by simp only [binI, h, if_false])
theorem e_LL {i : Instr} {x y z : Int64} (d : decode (cod K) pc = .ok (i, 1)) (hk : lok i 1 = true) (hr : stR K i (.long y :: .long x :: st) M = none) (hp : pshI i = none) (hq : ldI i = none) (hw : stoI i = none) (h : binL i x y = some z) : EE K pc ls (.long y :: .long x :: st) M = EE K (pc + 1) ls (.long z :: st) M :=
  e_B (c' := (pc + 1, ls, .long z :: st, M)) d hk hr hp hq hw (by simp only [stBn, h])
theorem e_sh {i : Instr} {x z : Int64} {y : Int32} (d : decode (cod K) pc = .ok (i, 1)) (hk : lok i 1 = true) (hr : stR K i (.int y :: .long x :: st) M = none) (hp : pshI i = none) (hq : ldI i = none) (hw : stoI i = none) (h : shL i x y = some z) : EE K pc ls (.int y :: .long x :: st) M = EE K (pc + 1) ls (.long z :: st) M :=
  e_B (c' := (pc + 1, ls, .long z :: st, M)) d hk hr hp hq hw (by simp only [stBn, h, Option.map_some])
theorem e_lcmp {x y : Int64} (d : decode (cod K) pc = .ok (.lcmp, 1)) : EE K pc ls (.long y :: .long x :: st) M = EE K (pc + 1) ls (.int (lg_cmp x y) :: st) M :=
  e_B (c' := (pc + 1, ls, .int (lg_cmp x y) :: st, M)) d rfl rfl rfl rfl rfl rfl
theorem e_fcmp {op : CmpOp} {x y : UInt32} (d : decode (cod K) pc = .ok (.fcmp op, 1)) : EE K pc ls (.float y :: .float x :: st) M = EE K (pc + 1) ls (.int (Op.cmpValue (FP.fcmp x y) op) :: st) M :=
  e_B (c' := (pc + 1, ls, .int (Op.cmpValue (FP.fcmp x y) op) :: st, M)) d rfl rfl rfl rfl rfl rfl
theorem e_dcmp {op : CmpOp} {x y : UInt64} (d : decode (cod K) pc = .ok (.dcmp op, 1)) : EE K pc ls (.double y :: .double x :: st) M = EE K (pc + 1) ls (.int (Op.cmpValue (FP.dcmp x y) op) :: st) M :=
  e_B (c' := (pc + 1, ls, .int (Op.cmpValue (FP.dcmp x y) op) :: st, M)) d rfl rfl rfl rfl rfl rfl
theorem e_fmul {x y : UInt32} (d : decode (cod K) pc = .ok (.fmul, 1)) (h : FP.fmul x y &&& 0x7fffffff ≤ 0x7f800000) : EE K pc ls (.float y :: .float x :: st) M = EE K (pc + 1) ls (.float (FP.fmul x y) :: st) M :=
  e_B (c' := (pc + 1, ls, .float (FP.fmul x y) :: st, M)) d rfl rfl rfl rfl rfl (by simp only [stBn, binF, h, if_true, Option.map_some])
theorem e_dmul {x y : UInt64} (d : decode (cod K) pc = .ok (.dmul, 1)) (h : FP.dmul x y &&& 0x7fffffffffffffff ≤ 0x7ff0000000000000) : EE K pc ls (.double y :: .double x :: st) M = EE K (pc + 1) ls (.double (FP.dmul x y) :: st) M :=
  e_B (c' := (pc + 1, ls, .double (FP.dmul x y) :: st, M)) d rfl rfl rfl rfl rfl (by simp only [stBn, binF, h, if_true, Option.map_some])
theorem e_ddiv {x y : UInt64} (d : decode (cod K) pc = .ok (.ddiv, 1)) (h : FP.ddiv x y &&& 0x7fffffffffffffff ≤ 0x7ff0000000000000) : EE K pc ls (.double y :: .double x :: st) M = EE K (pc + 1) ls (.double (FP.ddiv x y) :: st) M :=
  e_B (c' := (pc + 1, ls, .double (FP.ddiv x y) :: st, M)) d rfl rfl rfl rfl rfl (by simp only [stBn, binF, h, if_true, Option.map_some])
theorem e_U {i : Instr} {v z : Value} (d : decode (cod K) pc = .ok (i, 1)) (hk : lok i 1 = true) (hr : stR K i (v :: st) M = none) (hp : pshI i = none) (hq : ldI i = none) (hw : stoI i = none) (hb : stBn i pc ls (v :: st) M = none) (h : unI i v = some z) : EE K pc ls (v :: st) M = EE K (pc + 1) ls (z :: st) M :=
  EE_stp (c' := (pc + 1, ls, z :: st, M)) (by simp only [stp, d, hk, Bool.true_eq_false, if_false, hr, stA, hp, hq, hw, hb, stUn, h, Option.map_some])
theorem bn_i2l (x : Int32) : stBn .i2l pc ls (.int x :: st) M = none := by cases st with | nil => rfl | cons v l => cases v <;> rfl
theorem bn_i2b (x : Int32) : stBn .i2b pc ls (.int x :: st) M = none := by cases st with | nil => rfl | cons v l => cases v <;> rfl
theorem bn_i2c (x : Int32) : stBn .i2c pc ls (.int x :: st) M = none := by cases st with | nil => rfl | cons v l => cases v <;> rfl
theorem bn_i2d (x : Int32) : stBn .i2d pc ls (.int x :: st) M = none := by cases st with | nil => rfl | cons v l => cases v <;> rfl
theorem bn_l2i (x : Int64) : stBn .l2i pc ls (.long x :: st) M = none := by cases st with | nil => rfl | cons v l => cases v <;> rfl
theorem bn_d2l (x : UInt64) : stBn .d2l pc ls (.double x :: st) M = none := by cases st with | nil => rfl | cons v l => cases v <;> rfl
theorem bn_d2f (x : UInt64) : stBn .d2f pc ls (.double x :: st) M = none := by cases st with | nil => rfl | cons v l => cases v <;> rfl
theorem bn_f2i (x : UInt32) : stBn .f2i pc ls (.float x :: st) M = none := by cases st with | nil => rfl | cons v l => cases v <;> rfl
theorem e_d2f {x : UInt64} (d : decode (cod K) pc = .ok (.d2f, 1)) (h : FP.d2f x &&& 0x7fffffff ≤ 0x7f800000) : EE K pc ls (.double x :: st) M = EE K (pc + 1) ls (.float (FP.d2f x) :: st) M :=
  e_U d rfl rfl rfl rfl rfl (bn_d2f x) (by simp only [unI, h, if_true])
/-- no number's instruction: the stack's rows do nothing -/
def noB (i : Instr) : Bool := match i with
  | .iadd | .isub | .imul | .iand | .ior | .ixor | .ishl | .ishr | .iushr | .idiv | .irem | .ladd | .lsub | .land | .lor | .lshl | .lshr | .lushr | .i2l | .l2i | .i2b | .i2c | .i2d | .d2l | .f2i | .d2f | .lcmp | .fmul | .dmul | .ddiv | .fcmp _ | .dcmp _ => false
  | _ => true
theorem noB_I {i : Instr} (h : noB i = true) (x y : Int32) : binI i x y = none := by cases i <;> first | rfl | cases h
theorem noB_L {i : Instr} (h : noB i = true) (x y : Int64) : binL i x y = none := by cases i <;> first | rfl | cases h
theorem noB_s {i : Instr} (h : noB i = true) (x : Int64) (y : Int32) : shL i x y = none := by cases i <;> first | rfl | cases h
theorem noB_F {i : Instr} (h : noB i = true) (v w : Value) : binF i v w = none := by cases i <;> first | rfl | cases h
theorem noB_U {i : Instr} (h : noB i = true) (v : Value) : unI i v = none := by cases i <;> first | rfl | cases h
theorem noB_B {i : Instr} (h : noB i = true) : stBn i pc ls st M = none := by
  unfold stBn
  split
  · rw [noB_I h]; rfl
  · rw [noB_L h]; show (binF i _ _).map _ = none; rw [noB_F h]; rfl
  · rw [noB_s h]; rfl
  · rw [noB_F h]; rfl
  · rw [noB_F h]; rfl
  · rfl
theorem noB_Un {i : Instr} (h : noB i = true) : stUn i pc ls st M = none := by
  unfold stUn
  split
  · rw [noB_U h]; rfl
  · rfl
theorem e_J {i : Instr} {len : Nat} {c' : Cf} (d : decode (cod K) pc = .ok (i, len)) (hk : lok i len = true) (hr : stR K i st M = none) (hp : pshI i = none) (hq : ldI i = none) (hw : stoI i = none) (hn : noB i = true) (ha : stJ i len pc ls st M = some c') : EE K pc ls st M = EE K c'.1 c'.2.1 c'.2.2.1 c'.2.2.2 :=
  EE_stp (by simp only [stp, d, hk, Bool.true_eq_false, if_false, hr, stA, hp, hq, hw, noB_B hn, noB_Un hn, ha])
theorem tgt_of {pc t : Nat} {o : Int} (h : (pc : Int) + o = (t : Int)) : tgt pc o = t := by unfold tgt; rw [h]; rfl
theorem tgt_0 {pc t : Nat} {o : Int} (h : (pc : Int) + o = (t : Int)) : 0 ≤ (pc : Int) + o := by rw [h]; exact Int.natCast_nonneg t
theorem e_goto {o : Int} {t : Nat} (d : decode (cod K) pc = .ok (.goto o, 3)) (h : (pc : Int) + o = (t : Int)) : EE K pc ls st M = EE K t ls st M :=
  e_J (c' := (t, ls, st, M)) d rfl rfl rfl rfl rfl rfl (by simp only [stJ, tgt_of h, tgt_0 h, and_self, if_true])
theorem e_iinc {k : Nat} {n : Int} {x v : Int32} {ls' : Lo} (d : decode (cod K) pc = .ok (.iinc k n, 3)) (hl : ls[k]? = some (some (.int x))) (hv : x + Int32.ofInt n = v) (hs : sto1 ls k (.int v) = ls') : EE K pc ls st M = EE K (pc + 3) ls' st M :=
  e_J (c' := (pc + 3, ls', st, M)) d rfl rfl rfl rfl rfl rfl (by simp only [stJ, hl, hv, hs, if_true])
theorem e_if {c : ClassFile.Cond} {o : Int} {t : Nat} {x : Int32} (d : decode (cod K) pc = .ok (.ifCond c o, 3)) (h : (pc : Int) + o = (t : Int)) : EE K pc ls (.int x :: st) M = if cnd c x 0 = true then EE K t ls st M else EE K (pc + 3) ls st M := by
  have := e_J (K := K) (pc := pc) (ls := ls) (st := .int x :: st) (M := M) (c' := (if cnd c x 0 = true then t else pc + 3, ls, st, M)) d rfl rfl rfl rfl rfl rfl (by simp only [stJ, tgt_of h, tgt_0 h, and_self, if_true])
  rw [this]
  split <;> rfl
theorem e_cmp {c : ClassFile.Cond} {o : Int} {t : Nat} {x y : Int32} (d : decode (cod K) pc = .ok (.if_icmp c o, 3)) (h : (pc : Int) + o = (t : Int)) : EE K pc ls (.int y :: .int x :: st) M = if cnd c x y = true then EE K t ls st M else EE K (pc + 3) ls st M := by
  have := e_J (K := K) (pc := pc) (ls := ls) (st := .int y :: .int x :: st) (M := M) (c' := (if cnd c x y = true then t else pc + 3, ls, st, M)) d rfl rfl rfl rfl rfl rfl (by simp only [stJ, tgt_of h, tgt_0 h, and_self, if_true])
  rw [this]
  split <;> rfl
theorem br_b {α : Type} {b : Bool} {P : Prop} {inst : Decidable P} (h : b = decide P) (x y : α) : (if b = true then x else y) = (if P then x else y) := by
  subst h
  by_cases hp : P
  · rw [if_pos hp, if_pos (decide_eq_true hp)]
  · rw [if_neg hp, if_neg (by rw [decide_eq_false hp]; exact Bool.false_ne_true)]
theorem br_n {α : Type} {P : Prop} {inst : Decidable P} {inst2 : Decidable (¬ P)} (x y : α) : (if ¬ P then x else y) = (if P then y else x) := by
  by_cases hp : P
  · rw [if_pos hp, if_neg (fun h => h hp)]
  · rw [if_neg hp, if_pos hp]
theorem e_eq0 {o : Int} {t : Nat} {x : Int32} (d : decode (cod K) pc = .ok (.ifCond .eq o, 3)) (h : (pc : Int) + o = (t : Int)) : EE K pc ls (.int x :: st) M = if x = 0 then EE K t ls st M else EE K (pc + 3) ls st M := (e_if d h).trans (br_b rfl _ _)
theorem e_ne0 {o : Int} {t : Nat} {x : Int32} (d : decode (cod K) pc = .ok (.ifCond .ne o, 3)) (h : (pc : Int) + o = (t : Int)) : EE K pc ls (.int x :: st) M = if x = 0 then EE K (pc + 3) ls st M else EE K t ls st M := ((e_if d h).trans (br_b (P := ¬ x = 0) rfl _ _)).trans (br_n _ _)
theorem e_lt0 {o : Int} {t : Nat} {x : Int32} (d : decode (cod K) pc = .ok (.ifCond .lt o, 3)) (h : (pc : Int) + o = (t : Int)) : EE K pc ls (.int x :: st) M = if x < 0 then EE K t ls st M else EE K (pc + 3) ls st M := (e_if d h).trans (br_b rfl _ _)
theorem e_ge0 {o : Int} {t : Nat} {x : Int32} (d : decode (cod K) pc = .ok (.ifCond .ge o, 3)) (h : (pc : Int) + o = (t : Int)) : EE K pc ls (.int x :: st) M = if 0 ≤ x then EE K t ls st M else EE K (pc + 3) ls st M := (e_if d h).trans (br_b rfl _ _)
theorem e_gt0 {o : Int} {t : Nat} {x : Int32} (d : decode (cod K) pc = .ok (.ifCond .gt o, 3)) (h : (pc : Int) + o = (t : Int)) : EE K pc ls (.int x :: st) M = if 0 < x then EE K t ls st M else EE K (pc + 3) ls st M := (e_if d h).trans (br_b rfl _ _)
theorem e_le0 {o : Int} {t : Nat} {x : Int32} (d : decode (cod K) pc = .ok (.ifCond .le o, 3)) (h : (pc : Int) + o = (t : Int)) : EE K pc ls (.int x :: st) M = if x ≤ 0 then EE K t ls st M else EE K (pc + 3) ls st M := (e_if d h).trans (br_b rfl _ _)
theorem e_ceq {o : Int} {t : Nat} {x y : Int32} (d : decode (cod K) pc = .ok (.if_icmp .eq o, 3)) (h : (pc : Int) + o = (t : Int)) : EE K pc ls (.int y :: .int x :: st) M = if x = y then EE K t ls st M else EE K (pc + 3) ls st M := (e_cmp d h).trans (br_b rfl _ _)
theorem e_cne {o : Int} {t : Nat} {x y : Int32} (d : decode (cod K) pc = .ok (.if_icmp .ne o, 3)) (h : (pc : Int) + o = (t : Int)) : EE K pc ls (.int y :: .int x :: st) M = if x = y then EE K (pc + 3) ls st M else EE K t ls st M := ((e_cmp d h).trans (br_b (P := ¬ x = y) rfl _ _)).trans (br_n _ _)
theorem e_clt {o : Int} {t : Nat} {x y : Int32} (d : decode (cod K) pc = .ok (.if_icmp .lt o, 3)) (h : (pc : Int) + o = (t : Int)) : EE K pc ls (.int y :: .int x :: st) M = if x < y then EE K t ls st M else EE K (pc + 3) ls st M := (e_cmp d h).trans (br_b rfl _ _)
theorem e_cge {o : Int} {t : Nat} {x y : Int32} (d : decode (cod K) pc = .ok (.if_icmp .ge o, 3)) (h : (pc : Int) + o = (t : Int)) : EE K pc ls (.int y :: .int x :: st) M = if y ≤ x then EE K t ls st M else EE K (pc + 3) ls st M := (e_cmp d h).trans (br_b rfl _ _)
theorem e_cgt {o : Int} {t : Nat} {x y : Int32} (d : decode (cod K) pc = .ok (.if_icmp .gt o, 3)) (h : (pc : Int) + o = (t : Int)) : EE K pc ls (.int y :: .int x :: st) M = if y < x then EE K t ls st M else EE K (pc + 3) ls st M := (e_cmp d h).trans (br_b rfl _ _)
theorem e_cle {o : Int} {t : Nat} {x y : Int32} (d : decode (cod K) pc = .ok (.if_icmp .le o, 3)) (h : (pc : Int) + o = (t : Int)) : EE K pc ls (.int y :: .int x :: st) M = if x ≤ y then EE K t ls st M else EE K (pc + 3) ls st M := (e_cmp d h).trans (br_b rfl _ _)
theorem e_dup {v : Value} (d : decode (cod K) pc = .ok (.dup, 1)) (h : v.category = 1) : EE K pc ls (v :: st) M = EE K (pc + 1) ls (v :: v :: st) M := e_J (c' := (pc + 1, ls, v :: v :: st, M)) d rfl rfl rfl rfl rfl rfl (by simp only [stJ, h, if_true])
theorem e_pop {v : Value} (d : decode (cod K) pc = .ok (.pop, 1)) (h : v.category = 1) : EE K pc ls (v :: st) M = EE K (pc + 1) ls st M := e_J (c' := (pc + 1, ls, st, M)) d rfl rfl rfl rfl rfl rfl (by simp only [stJ, h, if_true])
theorem e_dup2 {v w : Value} (d : decode (cod K) pc = .ok (.dup2, 1)) (h : v.category = 1) (h2 : w.category = 1) : EE K pc ls (v :: w :: st) M = EE K (pc + 1) ls (v :: w :: v :: w :: st) M := e_J (c' := (pc + 1, ls, v :: w :: v :: w :: st, M)) d rfl rfl rfl rfl rfl rfl (by simp only [stJ, h, h2, and_self, if_true])
theorem e_tab {dd lo hi : Int} {os : Array Int} {len : Nat} {x : Int32} {t : Nat} (d : decode (cod K) pc = .ok (.tableswitch dd lo hi os, len))
    (h : (if x.toInt < lo ∨ hi < x.toInt then (if 0 ≤ (pc : Int) + dd then some (tgt pc dd) else none) else (match os[(x.toInt - lo).toNat]? with | some o => if 0 ≤ (pc : Int) + o then some (tgt pc o) else none | none => none)) = some t) : EE K pc ls (.int x :: st) M = EE K t ls st M := by
  refine e_J (c' := (t, ls, st, M)) d rfl rfl rfl rfl rfl rfl ?_
  simp only [stJ]
  by_cases h1 : x.toInt < lo ∨ hi < x.toInt
  · rw [if_pos h1] at h ⊢
    by_cases h2 : 0 ≤ (pc : Int) + dd
    · rw [if_pos h2] at h ⊢
      cases h
      rfl
    · rw [if_neg h2] at h; cases h
  · rw [if_neg h1] at h ⊢
    cases ho : os[(x.toInt - lo).toNat]? with
    | none => rw [ho] at h; cases h
    | some o =>
      rw [ho] at h
      show (if 0 ≤ (pc : Int) + o then _ else _) = _
      by_cases h2 : 0 ≤ (pc : Int) + o
      · have h3 : (if 0 ≤ (pc : Int) + o then some (tgt pc o) else none) = some t := h
        rw [if_pos h2] at h3 ⊢
        cases h3
        rfl
      · have h3 : (if 0 ≤ (pc : Int) + o then some (tgt pc o) else none) = some t := h
        rw [if_neg h2] at h3; cases h3
theorem e_look {dd : Int} {ps : Array (Int × Int)} {len : Nat} {x : Int32} {t : Nat} (d : decode (cod K) pc = .ok (.lookupswitch dd ps, len)) (hp : (ps.toList.zip (ps.toList.drop 1)).all (fun (a, next) => a.1 < next.1) = true) (h : (pc : Int) + Op.lookupswitch.offset ps.toList dd x.toInt = (t : Int)) : EE K pc ls (.int x :: st) M = EE K t ls st M :=
  e_J (c' := (t, ls, st, M)) d rfl rfl rfl rfl rfl rfl (by simp only [stJ, hp, tgt_of h, tgt_0 h, and_self, if_true])
theorem e_M {i : Instr} {len : Nat} {c' : Cf} (d : decode (cod K) pc = .ok (i, len)) (hk : lok i len = true) (hr : stR K i st M = none) (hp : pshI i = none) (hq : ldI i = none) (hw : stoI i = none) (hn : noB i = true) (hj : stJ i len pc ls st M = none) (ha : stM K i pc ls st M = some c') : EE K pc ls st M = EE K c'.1 c'.2.1 c'.2.2.1 c'.2.2.2 :=
  EE_stp (by simp only [stp, d, hk, Bool.true_eq_false, if_false, hr, stA, hp, hq, hw, noB_B hn, noB_Un hn, hj, ha])
theorem e_C {i : Instr} {len : Nat} {c' : Cf} (d : decode (cod K) pc = .ok (i, len)) (hk : lok i len = true) (hr : stR K i st M = none) (hp : pshI i = none) (hq : ldI i = none) (hw : stoI i = none) (hn : noB i = true) (hj : stJ i len pc ls st M = none) (hm : stM K i pc ls st M = none) (ha : stC (G (rk K)) K i pc ls st M = some c') : EE K pc ls st M = EE K c'.1 c'.2.1 c'.2.2.1 c'.2.2.2 :=
  EE_stp (by simp only [stp, d, hk, Bool.true_eq_false, if_false, hr, stA, hp, hq, hw, noB_B hn, noB_Un hn, hj, hm, ha])
theorem e_Cn {i : Instr} {len : Nat} (d : decode (cod K) pc = .ok (i, len)) (hk : lok i len = true) (hr : stR K i st M = none) (hp : pshI i = none) (hq : ldI i = none) (hw : stoI i = none) (hn : noB i = true) (hj : stJ i len pc ls st M = none) (hm : stM K i pc ls st M = none) (ha : stC (G (rk K)) K i pc ls st M = none) : EE K pc ls st M = none :=
  EE_no (by simp only [stp, d, hk, Bool.true_eq_false, if_false, hr, stA, hp, hq, hw, noB_B hn, noB_Un hn, hj, hm, ha])
end ES
section EM
variable {K pc : Nat} {ls : Lo} {st : List Value} {M : Mm} {n : Nat} {I : Nat → Nat → Int32} {R : Nat → Nat → Option Nat}
theorem e_none {i : Instr} {len : Nat} (d : decode (cod K) pc = .ok (i, len)) (hk : lok i len = true) (hr : stR K i st M = none) (hp : pshI i = none) (hq : ldI i = none) (hw : stoI i = none) (hn : noB i = true) (hj : stJ i len pc ls st M = none) (hm : stM K i pc ls st M = none) (hc : stC (G (rk K)) K i pc ls st M = none) : EE K pc ls st M = none := e_Cn d hk hr hp hq hw hn hj hm hc
theorem e_ald {i : Instr} {k a : Nat} {j : Int32} (d : decode (cod K) pc = .ok (i, 1)) (hk : lok i 1 = true) (hi : i = .iaload ∧ k = 5 ∨ i = .caload ∧ k = 6 ∨ i = .baload ∧ k = 7) : EE K pc ls (.int j :: .ref a :: st) (n, I, R) = (ardI k n I a j).bind (fun z => EE K (pc + 1) ls (.int z :: st) (n, I, R)) := by
  cases h : ardI k n I a j with
  | none => rcases hi with ⟨rfl, rfl⟩ | ⟨rfl, rfl⟩ | ⟨rfl, rfl⟩ <;> exact e_none d rfl rfl rfl rfl rfl rfl rfl (by simp only [stM, h, Option.map_none]) rfl
  | some z => rcases hi with ⟨rfl, rfl⟩ | ⟨rfl, rfl⟩ | ⟨rfl, rfl⟩ <;> exact e_M (c' := (pc + 1, ls, .int z :: st, (n, I, R))) d rfl rfl rfl rfl rfl rfl rfl (by simp only [stM, h, Option.map_some])
theorem e_iald {a : Nat} {j : Int32} (d : decode (cod K) pc = .ok (.iaload, 1)) : EE K pc ls (.int j :: .ref a :: st) (n, I, R) = (ardI 5 n I a j).bind (fun z => EE K (pc + 1) ls (.int z :: st) (n, I, R)) := e_ald d rfl (Or.inl ⟨rfl, rfl⟩)
theorem e_cald {a : Nat} {j : Int32} (d : decode (cod K) pc = .ok (.caload, 1)) : EE K pc ls (.int j :: .ref a :: st) (n, I, R) = (ardI 6 n I a j).bind (fun z => EE K (pc + 1) ls (.int z :: st) (n, I, R)) := e_ald d rfl (Or.inr (Or.inl ⟨rfl, rfl⟩))
theorem e_bald {a : Nat} {j : Int32} (d : decode (cod K) pc = .ok (.baload, 1)) : EE K pc ls (.int j :: .ref a :: st) (n, I, R) = (ardI 7 n I a j).bind (fun z => EE K (pc + 1) ls (.int z :: st) (n, I, R)) := e_ald d rfl (Or.inr (Or.inr ⟨rfl, rfl⟩))
/-- may an array's element be written, or a reference read -/
def acI (k : Nat) (n a : Nat) (j : Int32) : Prop := kd a = k ∧ a < 1000 ∧ pos a < n ∧ inb j (ln a)
theorem e_aald {a : Nat} {j : Int32} (d : decode (cod K) pc = .ok (.aaload, 1)) (h : 8 ≤ kd a ∧ a < 1000 ∧ pos a < n ∧ inb j (ln a)) : EE K pc ls (.int j :: .ref a :: st) (n, I, R) = EE K (pc + 1) ls (va_rf (R a j.toNatClampNeg) :: st) (n, I, R) :=
  e_M (c' := (pc + 1, ls, va_rf (R a j.toNatClampNeg) :: st, (n, I, R))) d rfl rfl rfl rfl rfl rfl rfl (by simp only [stM]; exact if_pos h)
theorem e_alen {a : Nat} {z : Int32} (d : decode (cod K) pc = .ok (.arraylength, 1)) (h : aln n I a = some z) : EE K pc ls (.ref a :: st) (n, I, R) = EE K (pc + 1) ls (.int z :: st) (n, I, R) :=
  e_M (c' := (pc + 1, ls, .int z :: st, (n, I, R))) d rfl rfl rfl rfl rfl rfl rfl (by simp only [stM, h, Option.map_some])
theorem e_iast {a : Nat} {j x : Int32} (d : decode (cod K) pc = .ok (.iastore, 1)) (h : acI 5 n a j) : EE K pc ls (.int x :: .int j :: .ref a :: st) (n, I, R) = EE K (pc + 1) ls st (n, wI I a j.toNatClampNeg x, R) :=
  e_M (c' := (pc + 1, ls, st, (n, wI I a j.toNatClampNeg x, R))) d rfl rfl rfl rfl rfl rfl rfl (by simp only [stM]; exact if_pos h)
theorem e_cast {a : Nat} {j x : Int32} (d : decode (cod K) pc = .ok (.castore, 1)) (h : acI 6 n a j) : EE K pc ls (.int x :: .int j :: .ref a :: st) (n, I, R) = EE K (pc + 1) ls st (n, wI I a j.toNatClampNeg (vp_nar .char x), R) :=
  e_M (c' := (pc + 1, ls, st, (n, wI I a j.toNatClampNeg (vp_nar .char x), R))) d rfl rfl rfl rfl rfl rfl rfl (by simp only [stM]; exact if_pos h)
theorem e_bast {a : Nat} {j x : Int32} (d : decode (cod K) pc = .ok (.bastore, 1)) (h : acI 7 n a j) : EE K pc ls (.int x :: .int j :: .ref a :: st) (n, I, R) = EE K (pc + 1) ls st (n, wI I a j.toNatClampNeg (vp_nar .boolean x), R) :=
  e_M (c' := (pc + 1, ls, st, (n, wI I a j.toNatClampNeg (vp_nar .boolean x), R))) d rfl rfl rfl rfl rfl rfl rfl (by simp only [stM]; exact if_pos h)
theorem e_aast {a b : Nat} {j : Int32} (d : decode (cod K) pc = .ok (.aastore, 1)) (h : kd a = 8 ∧ a < 1000 ∧ pos a < n ∧ inb j (ln a) ∧ kd b = 2 ∧ b < 1000 ∧ pos b < n) : EE K pc ls (.ref b :: .int j :: .ref a :: st) (n, I, R) = EE K (pc + 1) ls st (n, I, wR R a j.toNatClampNeg (some b)) :=
  e_M (c' := (pc + 1, ls, st, (n, I, wR R a j.toNatClampNeg (some b)))) d rfl rfl rfl rfl rfl rfl rfl (by simp only [stM]; exact if_pos h)
theorem e_getf {x a ci k : Nat} {c : Fi} (d : decode (cod K) pc = .ok (.getfield x, 3)) (hf : fld (ow K) x = some c) (h1 : c.2.2.1 = ci) (h2 : c.2.2.2.1 = k) : EE K pc ls (.ref a :: st) (n, I, R) = (gfI n I R ci k a).bind (fun z => EE K (pc + 3) ls (z :: st) (n, I, R)) := by
  subst h1; subst h2
  cases h : gfI n I R c.2.2.1 c.2.2.2.1 a with
  | none => exact e_none d rfl rfl rfl rfl rfl rfl rfl (by simp only [stM, hf, h, Option.map_none]) rfl
  | some z => exact e_M (c' := (pc + 3, ls, z :: st, (n, I, R))) d rfl rfl rfl rfl rfl rfl rfl (by simp only [stM, hf, h, Option.map_some])
theorem e_putf {x a ci k : Nat} {v : Value} {c : Fi} (d : decode (cod K) pc = .ok (.putfield x, 3)) (hf : fld (ow K) x = some c) (h1 : c.2.2.1 = ci) (h2 : c.2.2.2.1 = k) (hw : c.2.2.1 = ow K ∧ ((nm K).name = "<init>" ∨ c.2.2.2.2.2 = false) ∨ c.2.2.2.2.2 = false) : EE K pc ls (v :: .ref a :: st) (n, I, R) = (pfI n I R ci k a v).bind (fun z => EE K (pc + 3) ls st (n, z.1, z.2)) := by
  subst h1; subst h2
  cases h : pfI n I R c.2.2.1 c.2.2.2.1 a v with
  | none => exact e_none d rfl rfl rfl rfl rfl rfl rfl (by simp only [stM, hf, if_pos hw, h, Option.map_none]) rfl
  | some z => exact e_M (c' := (pc + 3, ls, st, (n, z.1, z.2))) d rfl rfl rfl rfl rfl rfl rfl (by simp only [stM, hf, if_pos hw, h, Option.map_some])
theorem e_gets {x : Nat} {v : Value} {c : Nat × Nat × Nat × Nat} (d : decode (cod K) pc = .ok (.getstatic x, 3)) (hf : gst (ow K) x = some c) (hv : gsv c.2.2.1 = v) : EE K pc ls st M = EE K (pc + 3) ls (v :: st) M :=
  e_M (c' := (pc + 3, ls, v :: st, M)) d rfl rfl rfl rfl rfl rfl rfl (by simp only [stM, hf, hv])
theorem e_ldc {x : Nat} {v : Value} {o i : Nat} (d : decode (cod K) pc = .ok (.ldc x, 2)) (hf : kon (ow K) x = some (o, i, v)) : EE K pc ls st M = EE K (pc + 2) ls (v :: st) M :=
  e_M (c' := (pc + 2, ls, v :: st, M)) d rfl rfl rfl rfl rfl rfl rfl (by simp only [stM, hf])
theorem e_ldcw {x : Nat} {v : Int32} {o i : Nat} (d : decode (cod K) pc = .ok (.ldc_w x, 3)) (hf : kon (ow K) x = some (o, i, .int v)) : EE K pc ls st M = EE K (pc + 3) ls (.int v :: st) M :=
  e_M (c' := (pc + 3, ls, .int v :: st, M)) d rfl rfl rfl rfl rfl rfl rfl (by simp only [stM, hf])
theorem e_ldc2 {x : Nat} {v : Value} {o i : Nat} (d : decode (cod K) pc = .ok (.ldc2_w x, 3)) (hf : ko2 (ow K) x = some (o, i, v)) : EE K pc ls st M = EE K (pc + 3) ls (v :: st) M :=
  e_M (c' := (pc + 3, ls, v :: st, M)) d rfl rfl rfl rfl rfl rfl rfl (by simp only [stM, hf])
/-- what a call leaves on the stack -/
def psh (r : Option Value) (st : List Value) : List Value := match r with
  | some v => v :: st
  | none => st
theorem psh_some (v : Value) (st : List Value) : psh (some v) st = v :: st := rfl
theorem psh_none (st : List Value) : psh none st = st := rfl
theorem psh_eq (r : Option Value) (st : List Value) : r.toList ++ st = psh r st := by cases r <;> rfl
theorem e_cals {x y w : Nat} {c : Ci} {av : List Value} (d : decode (cod K) pc = .ok (.invokestatic x, 3)) (hc : cal (ow K) x = some c) (hm : c.2.2.1 = 1 ∨ c.2.2.1 = 4) (hy : c.2.2.2.1 = y) (hw : c.2.2.2.2.2.2.2.2 = w) (hr : rk y < rk K ∧ mxl y ≤ 18) (ha : av.length = w) (hl : st.length ≤ 4) :
    EE K pc ls (av.reverse ++ st) M = (FF y av M).bind (fun z => EE K (pc + 3) ls (psh z.1 st) z.2) := by
  subst hy; subst hw
  have h0 : (c.2.2.1 = 1 ∨ c.2.2.1 = 4) ∧ c.2.2.2.2.2.2.2.2 ≤ (av.reverse ++ st).length ∧ (av.reverse ++ st).length ≤ c.2.2.2.2.2.2.2.2 + 4 ∧ rk c.2.2.2.1 < rk K ∧ mxl c.2.2.2.1 ≤ 18 := ⟨hm, by rw [List.length_append, List.length_reverse, ha]; omega, by rw [List.length_append, List.length_reverse, ha]; omega, hr⟩
  have h1 : (av.reverse ++ st).take c.2.2.2.2.2.2.2.2 = av.reverse := by rw [List.take_append_of_le_length (by rw [List.length_reverse, ha]; exact Nat.le_refl _), List.take_of_length_le (by rw [List.length_reverse, ha]; exact Nat.le_refl _)]
  have h2 : (av.reverse ++ st).drop c.2.2.2.2.2.2.2.2 = st := by rw [List.drop_append_of_le_length (by rw [List.length_reverse, ha]; exact Nat.le_refl _), List.drop_of_length_le (by rw [List.length_reverse, ha]; exact Nat.le_refl _)]; rfl
  have h3 : stC (G (rk K)) K (.invokestatic x) pc ls (av.reverse ++ st) M = (FF c.2.2.2.1 av M).map (fun z => (pc + 3, ls, psh z.1 st, z.2)) := by
    simp only [stC, hc, h1, h2, List.reverse_reverse, G_FF _ _ hr.1, psh_eq]
    exact if_pos h0
  cases h : FF c.2.2.2.1 av M with
  | none => exact e_none d rfl rfl rfl rfl rfl rfl rfl rfl (by rw [h3, h]; rfl)
  | some z => exact e_C (c' := (pc + 3, ls, psh z.1 st, z.2)) d rfl rfl rfl rfl rfl rfl rfl rfl (by rw [h3, h]; rfl)
theorem e_calv {x y w a : Nat} {c : Ci} {av : List Value} (d : decode (cod K) pc = .ok (.invokevirtual x, 3)) (hc : cal (ow K) x = some c) (hm : c.2.2.1 = 0) (hy : c.2.2.2.1 = y) (hw : c.2.2.2.2.2.2.2.2 = w) (hr : rk y < rk K ∧ mxl y ≤ 18) (ha : av.length = w) (hl : st.length ≤ 4) (ho : isO (nm y).cls M.1 a = true) :
    EE K pc ls (av.reverse ++ .ref a :: st) M = (FF y (.ref a :: av) M).bind (fun z => EE K (pc + 3) ls (psh z.1 st) z.2) := by
  subst hy; subst hw
  have h1 : (av.reverse ++ .ref a :: st).take c.2.2.2.2.2.2.2.2 = av.reverse := by rw [List.take_append_of_le_length (by rw [List.length_reverse, ha]; exact Nat.le_refl _), List.take_of_length_le (by rw [List.length_reverse, ha]; exact Nat.le_refl _)]
  have h2 : (av.reverse ++ .ref a :: st).drop c.2.2.2.2.2.2.2.2 = .ref a :: st := by rw [List.drop_append_of_le_length (by rw [List.length_reverse, ha]; exact Nat.le_refl _), List.drop_of_length_le (by rw [List.length_reverse, ha]; exact Nat.le_refl _)]; rfl
  have h0 : c.2.2.1 = 0 ∧ c.2.2.2.2.2.2.2.2 ≤ (av.reverse ++ .ref a :: st).length ∧ st.length ≤ 4 ∧ rk c.2.2.2.1 < rk K ∧ mxl c.2.2.2.1 ≤ 18 ∧ isO (nm c.2.2.2.1).cls M.1 a = true := ⟨hm, by rw [List.length_append, List.length_reverse, ha]; omega, hl, hr.1, hr.2, ho⟩
  have h3 : stC (G (rk K)) K (.invokevirtual x) pc ls (av.reverse ++ .ref a :: st) M = (FF c.2.2.2.1 (.ref a :: av) M).map (fun z => (pc + 3, ls, psh z.1 st, z.2)) := by
    simp only [stC, hc, h1, h2, List.reverse_reverse, G_FF _ _ hr.1, psh_eq]
    exact if_pos h0
  cases h : FF c.2.2.2.1 (.ref a :: av) M with
  | none => exact e_none d rfl rfl rfl rfl rfl rfl rfl rfl (by rw [h3, h]; rfl)
  | some z => exact e_C (c' := (pc + 3, ls, psh z.1 st, z.2)) d rfl rfl rfl rfl rfl rfl rfl rfl (by rw [h3, h]; rfl)
theorem e_cali {x y a : Nat} {c : Ci} (d : decode (cod K) pc = .ok (.invokespecial x, 3)) (hc : cal (ow K) x = some c) (hm : c.2.2.1 = 2) (hy : c.2.2.2.1 = y) (hw : c.2.2.2.2.2.2.2.2 = 0) (hr : rk y < rk K ∧ mxl y ≤ 18) (hl : st.length ≤ 4) {M' : Mm} (hF : FF y [.ref a] M = some (none, M')) :
    EE K pc ls (.ref a :: st) M = EE K (pc + 3) ls st M' := by
  subst hy
  have h0 : c.2.2.1 = 2 ∧ 0 ≤ (Value.ref a :: st).length ∧ st.length ≤ 4 ∧ rk c.2.2.2.1 < rk K ∧ mxl c.2.2.2.1 ≤ 18 := ⟨hm, Nat.zero_le _, hl, hr.1, hr.2⟩
  refine e_C (c' := (pc + 3, ls, st, M')) d rfl rfl rfl rfl rfl rfl rfl rfl ?_
  simp only [stC, hc, hw, List.drop_zero, List.take_zero, List.reverse_nil, G_FF _ _ hr.1, hF]
  exact if_pos h0
theorem e_oin {x a : Nat} (d : decode (cod K) pc = .ok (.invokespecial x, 3)) (hc : cal (ow K) x = none) (hn : nat (ow K) x = some 4) (hr : 1 ≤ rk K) (hl : st.length ≤ 4) : EE K pc ls (.ref a :: st) M = EE K (pc + 3) ls st M :=
  e_C (c' := (pc + 3, ls, st, M)) d rfl rfl rfl rfl rfl rfl rfl rfl (by simp only [stC, hc, hn, hl, hr, and_self, if_true])
theorem e_cpy {x a0 a1 : Nat} {sp dp w : Int32} (d : decode (cod K) pc = .ok (.invokestatic x, 3)) (hc : cal (ow K) x = none) (hn : nat (ow K) x = some 1) (hr : 1 ≤ rk K) (hl : st.length ≤ 4) : EE K pc ls (.int w :: .int dp :: .ref a1 :: .int sp :: .ref a0 :: st) (n, I, R) = (cpI n I a0 sp a1 dp w).bind (fun z => EE K (pc + 3) ls st (n, z, R)) := by
  have h3 : stC (G (rk K)) K (.invokestatic x) pc ls (.int w :: .int dp :: .ref a1 :: .int sp :: .ref a0 :: st) (n, I, R) = (cpI n I a0 sp a1 dp w).map (fun z => (pc + 3, ls, st, (n, z, R))) := by
    simp only [stC, hc, hn]
    exact if_pos ⟨hl, hr⟩
  cases h : cpI n I a0 sp a1 dp w with
  | none => exact e_none d rfl rfl rfl rfl rfl rfl rfl rfl (by rw [h3, h]; rfl)
  | some z => exact e_C (c' := (pc + 3, ls, st, (n, z, R))) d rfl rfl rfl rfl rfl rfl rfl rfl (by rw [h3, h]; rfl)
theorem e_new {x : Nat} {c : Nat × Nat × Nat} (d : decode (cod K) pc = .ok (.new x, 3)) (hf : nwc (ow K) x = some c) (h : M.1 < 202 ∧ kd (adr M.1) = c.2.2 + 1) : EE K pc ls st M = EE K (pc + 3) ls (.ref (adr M.1) :: st) (bn M) :=
  e_M (c' := (pc + 3, ls, .ref (adr M.1) :: st, bn M)) d rfl rfl rfl rfl rfl rfl rfl (by simp only [stM, hf]; exact if_pos h)
theorem e_newa {t : ArrayType} {w : Int32} (d : decode (cod K) pc = .ok (.newarray t, 2)) (h : M.1 < 202 ∧ kd (adr M.1) = (if newarray.typeOf t = .int then 5 else if newarray.typeOf t = .char then 6 else if newarray.typeOf t = .boolean then 7 else 99) ∧ ¬ w < 0 ∧ w.toNatClampNeg = ln (adr M.1)) : EE K pc ls (.int w :: st) M = EE K (pc + 2) ls (.ref (adr M.1) :: st) (bn M) :=
  e_M (c' := (pc + 2, ls, .ref (adr M.1) :: st, bn M)) d rfl rfl rfl rfl rfl rfl rfl (by simp only [stM]; exact if_pos h)
theorem e_anew {x : Nat} {w : Int32} (d : decode (cod K) pc = .ok (.anewarray x, 3)) (h : anw (ow K) x = true ∧ M.1 < 202 ∧ kd (adr M.1) = 8 ∧ ¬ w < 0 ∧ w.toNatClampNeg = ln (adr M.1)) : EE K pc ls (.int w :: st) M = EE K (pc + 3) ls (.ref (adr M.1) :: st) (bn M) :=
  e_M (c' := (pc + 3, ls, .ref (adr M.1) :: st, bn M)) d rfl rfl rfl rfl rfl rfl rfl (by simp only [stM]; exact if_pos h)
theorem e_R {i : Instr} {len : Nat} {r : Rz} (d : decode (cod K) pc = .ok (i, len)) (hk : lok i len = true) (h : stR K i st M = some r) : EE K pc ls st M = some r := EE_ret (by simp only [stp, d, hk, Bool.true_eq_false, if_false, h])
theorem e_iret {ty : FieldType} {v : Int32} (d : decode (cod K) pc = .ok (.ireturn, 1)) (hr : rtt K = some ty) (hn : narrow ty (.int v) = .int v) : EE K pc ls [.int v] M = some (some (.int v), M) := e_R d rfl (by simp only [stR, hr, hn, if_true])
theorem e_lret {v : Int64} (d : decode (cod K) pc = .ok (.lreturn, 1)) (hr : rtt K = some .long) : EE K pc ls [.long v] M = some (some (.long v), M) := e_R d rfl (by simp only [stR, hr, if_true])
theorem e_vret (d : decode (cod K) pc = .ok (.return_, 1)) (hr : rtt K = none) : EE K pc ls [] M = some (none, M) := e_R d rfl (by simp only [stR, hr, if_true])
end EM
end
section
/-! WHAT THE PICTURE MACHINE DOES, THE JVM DOES: first the picture itself -/
/-- where the made cells begin; where those from 1000 on stand; the tables' slots; the arrays' classes; the script's numbers and its length -/
abbrev Gl : Type := Nat × (Nat → Nat) × va_G × (Nat → ClassId) × (Nat → Int32) × Int32
def ad (g : Gl) (a : Nat) : Nat := if a < 1000 then g.1 + pos a else g.2.1 a
def cv (g : Gl) (v : Value) : Value := match v with
  | .ref a => .ref (ad g a)
  | v => v
theorem cv_cat (g : Gl) (v : Value) : (cv g v).category = v.category := by
  cases v <;> rfl
def arT (k : Nat) : FieldType := match k with
  | 5 => .int
  | 6 => .char
  | 7 => .boolean
  | 8 => .object RX1
  | _ => .array .int
def tysG (g : Gl) : List (ClassId × FieldType) := [(g.2.2.2.1 5, .int), (g.2.2.2.1 6, .char), (g.2.2.2.1 7, .boolean), (g.2.2.2.1 8, .object RX1), (g.2.2.2.1 9, .array .int)]
def arf (I : Nat → Nat → Int32) (a : Nat) : Nat → Int32 := fun j => if j < ln a then I (vx a j) (ix a j) else 0
def rrf (g : Gl) (R : Nat → Nat → Option Nat) (a : Nat) : Nat → Option Nat := fun j => if j < ln a then (R a j).map (ad g) else none
def obf (g : Gl) (I : Nat → Nat → Int32) (R : Nat → Nat → Option Nat) (a : Nat) : List Value := (List.range (ln a)).map (fun k => cv g (fv I R a k))
def ent (g : Gl) (I : Nat → Nat → Int32) (R : Nat → Nat → Option Nat) (a : Nat) : va_E :=
  if kd a ≤ 4 then .inr (kd a - 1, obf g I R a)
  else if kd a ≤ 7 then .inl (g.2.2.2.1 (kd a), ln a, .inl (arf I a))
  else .inl (g.2.2.2.1 (kd a), ln a, .inr (.inr (.inr (.inr (rrf g R a)))))
def wl (g : Gl) (M : Mm) : va_W := (List.range M.1).map (fun i => (g.1 + i, ent g M.2.1 M.2.2 (adr i)))
/-- which cell and place a number belongs to -/
def ow2 (v x : Nat) : Nat × Nat :=
  if v < 13 then
    (if x = 0 then (16 * v, 11) else if x = 1 then (16 * v, 8) else if x < 8 then (16 * v + 1, x - 2) else if x < 13 then (16 * v, x + 4) else if x = 13 then (16 * v, 10)
     else if x < 26 then (16 * v + 2, x - 14) else if x < 38 then (16 * v + 3, x - 26) else if x < 48 then (16 * v, 9) else if x < 58 then (16 * v + 11, x - 48)
     else if x < 118 then (16 * v + 5 + (x - 58) / 10, (x - 58) % 10) else if x < 128 then (16 * v + 12, x - 118) else if x < 138 then (16 * v + 13, x - 128) else if x < 148 then (16 * v + 14, x - 138) else (999, 0))
  else if v = 20 then (if x = 0 then (208, 3) else if x < 3 then (211, x - 1) else if x < 6 then (212, x - 1) else if x < 9 then (214, x - 6) else if x < 10 then (999, 0) else (213, x - 10))
  else if v = 32 then (if x < 2 then (229, x) else if x = 2 then (224, 3) else if x = 3 then (224, 7) else if x = 4 then (224, 8) else if x = 5 then (224, 10) else if x < 10 then (999, 0) else (230, x - 10))
  else if v = 33 then (231, x)
  else if 40 ≤ v ∧ v < 46 then (227, 148 * (v - 40) + x)
  else if 50 ≤ v ∧ v < 52 then (228, 148 * (v - 50) + x)
  else if v = 225 ∨ v = 226 then (v, x) else (999, 0)
def chkA (i : Nat) : Bool := decide (adr i < 1000) && decide (pos (adr i) = i) && decide (1 ≤ kd (adr i)) && decide (kd (adr i) ≤ 9) &&
  decide (kd (adr i) ≤ 4 → kd (adr i) ≤ 3 ∧ ln (adr i) = ([0, 5, 17, 10, 11] : List Nat).getD (kd (adr i)) 0)
theorem chkA_ok : (List.range 202).all chkA = true := by decide +kernel
theorem adr_ok {i : Nat} (h : i < 202) : adr i < 1000 ∧ pos (adr i) = i ∧ 1 ≤ kd (adr i) ∧ kd (adr i) ≤ 9 ∧ (kd (adr i) ≤ 4 → kd (adr i) ≤ 3 ∧ ln (adr i) = ([0, 5, 17, 10, 11] : List Nat).getD (kd (adr i)) 0) := by
  have h1 := List.all_eq_true.mp chkA_ok i (List.mem_range.mpr h)
  simp only [chkA, Bool.and_eq_true, decide_eq_true_eq] at h1
  exact ⟨h1.1.1.1.1, h1.1.1.1.2, h1.1.1.2, h1.1.2, h1.2⟩
def chkB (a : Nat) : Bool := decide (pos a < 202 → adr (pos a) = a)
theorem chkB_ok : (List.range 1000).all chkB = true := by decide +kernel
theorem adr_pos {a : Nat} (h : a < 1000) (hp : pos a < 202) : adr (pos a) = a := by
  have h1 := List.all_eq_true.mp chkB_ok a (List.mem_range.mpr h)
  simp only [chkB, decide_eq_true_eq] at h1
  exact h1 hp
def chkC (i : Nat) : Bool := (List.range (ln (adr i))).all (fun j =>
  if kd (adr i) ≤ 4 then (match fk (kd (adr i)) j with
    | 0 => true
    | 2 => (List.range 10).all (fun t => decide (ow2 (vec (adr i)) (38 + t) = (adr i, 9))) && decide (j = 9)
    | _ => decide (ow2 (vec (adr i)) (fo (kd (adr i)) j) = (adr i, j)))
  else if kd (adr i) ≤ 7 then decide (ow2 (vx (adr i) j) (ix (adr i) j) = (adr i, j)) else true)
theorem chkC1 : ((List.range 202).take 70).all chkC = true := by decide +kernel
theorem chkC2 : (((List.range 202).drop 70).take 70).all chkC = true := by decide +kernel
theorem chkC3 : ((List.range 202).drop 140).all chkC = true := by decide +kernel
theorem chkC_ok : (List.range 202).all chkC = true := by
  have h : List.range 202 = (List.range 202).take 70 ++ (((List.range 202).drop 70).take 70 ++ (List.range 202).drop 140) := by decide +kernel
  rw [h, List.all_append, List.all_append, chkC1, chkC2, chkC3]
  rfl
/-- the name of a made cell -/
def Mad (n a : Nat) : Prop := a < 1000 ∧ pos a < n
theorem own_arr {a j : Nat} (h : Mad 202 a) (h5 : 5 ≤ kd a) (h7 : kd a ≤ 7) (hj : j < ln a) : ow2 (vx a j) (ix a j) = (a, j) := by
  have h1 := List.all_eq_true.mp chkC_ok (pos a) (List.mem_range.mpr h.2)
  have e := adr_pos h.1 h.2
  unfold chkC at h1
  rw [e] at h1
  have h2 := List.all_eq_true.mp h1 j (List.mem_range.mpr hj)
  rw [if_neg (by omega), if_pos h7] at h2
  exact of_decide_eq_true h2
theorem own_obj {a k : Nat} (h : Mad 202 a) (h4 : kd a ≤ 4) (hk : k < ln a) (h0 : fk (kd a) k ≠ 0) (h2 : fk (kd a) k ≠ 2) : ow2 (vec a) (fo (kd a) k) = (a, k) := by
  have h1 := List.all_eq_true.mp chkC_ok (pos a) (List.mem_range.mpr h.2)
  have e := adr_pos h.1 h.2
  unfold chkC at h1
  rw [e] at h1
  have h3 := List.all_eq_true.mp h1 k (List.mem_range.mpr hk)
  rw [if_pos h4] at h3
  split at h3
  · rename_i q; exact absurd q h0
  · rename_i q; exact absurd q h2
  · exact of_decide_eq_true h3
theorem own_pk {a k t : Nat} (h : Mad 202 a) (h4 : kd a ≤ 4) (hk : k < ln a) (h2 : fk (kd a) k = 2) (ht : t < 10) : ow2 (vec a) (38 + t) = (a, 9) ∧ k = 9 := by
  have h1 := List.all_eq_true.mp chkC_ok (pos a) (List.mem_range.mpr h.2)
  have e := adr_pos h.1 h.2
  unfold chkC at h1
  rw [e] at h1
  have h3 := List.all_eq_true.mp h1 k (List.mem_range.mpr hk)
  rw [if_pos h4, h2] at h3
  have h5 : ((List.range 10).all (fun t => decide (ow2 (vec a) (38 + t) = (a, 9))) && decide (k = 9)) = true := h3
  rw [Bool.and_eq_true] at h5
  exact ⟨of_decide_eq_true (List.all_eq_true.mp h5.1 t (List.mem_range.mpr ht)), of_decide_eq_true h5.2⟩
theorem pk_congr {V W : Nat → Int32} (h : ∀ t, t < 10 → V (38 + t) = W (38 + t)) : pk V = pk W := by
  unfold pk pkN bt1
  rw [h 0 (by omega), h 1 (by omega), h 2 (by omega), h 3 (by omega), h 4 (by omega), h 5 (by omega), h 6 (by omega), h 7 (by omega), h 8 (by omega), h 9 (by omega)]
theorem fv_congr {I I' : Nat → Nat → Int32} {R R' : Nat → Nat → Option Nat} {a k : Nat} (h : Mad 202 a) (h4 : kd a ≤ 4) (hk : k < ln a) (hI : ∀ v x, (ow2 v x).1 = a → (ow2 v x).2 = k → I v x = I' v x) (hR : R a k = R' a k) : fv I R a k = fv I' R' a k := by
  unfold fv
  split
  · rw [hR]
  · rename_i q
    have hp : ∀ t, t < 10 → ow2 (vec a) (38 + t) = (a, 9) ∧ k = 9 := fun t ht => own_pk h h4 hk q ht
    rw [pk_congr (fun t ht => hI _ _ (by rw [(hp t ht).1]) (by rw [(hp t ht).1, (hp t ht).2]))]
  · rename_i q0 q2
    have ho := own_obj h h4 hk q0 q2
    rw [hI _ _ (by rw [ho]) (by rw [ho])]
theorem ent_congr {g : Gl} {I I' : Nat → Nat → Int32} {R R' : Nat → Nat → Option Nat} {a : Nat} (h : Mad 202 a) (hI : ∀ v x, (ow2 v x).1 = a → I v x = I' v x) (hR : ∀ k, R a k = R' a k) : ent g I R a = ent g I' R' a := by
  unfold ent
  split
  · rename_i h4
    have : obf g I R a = obf g I' R' a := by
      unfold obf
      apply List.map_congr_left
      intro k hk
      rw [fv_congr h h4 (List.mem_range.mp hk) (fun v x q _ => hI v x q) (hR k)]
    rw [this]
  · rename_i h4
    split
    · rename_i h7
      have : arf I a = arf I' a := by
        funext j
        unfold arf
        split
        · rename_i hj
          have ho := own_arr h (by omega) h7 hj
          exact hI _ _ (by rw [ho])
        · rfl
      rw [this]
    · have : rrf g R a = rrf g R' a := by
        funext j
        unfold rrf
        rw [hR j]
      rw [this]
theorem wl_get {g : Gl} {M : Mm} {i : Nat} (h : i < M.1) : (wl g M)[i]? = some (g.1 + i, ent g M.2.1 M.2.2 (adr i)) := by
  unfold wl
  rw [List.getElem?_map, List.getElem?_range h]
  rfl
theorem wl_at {g : Gl} {M : Mm} {a : Nat} (hn : M.1 ≤ 202) (h : Mad M.1 a) : (wl g M)[pos a]? = some (ad g a, ent g M.2.1 M.2.2 a) := by
  rw [wl_get h.2, adr_pos h.1 (Nat.lt_of_lt_of_le h.2 hn)]
  unfold ad
  rw [if_pos h.1]
theorem wl_len {g : Gl} {M : Mm} : (wl g M).length = M.1 := by simp [wl]
/-- one cell changes -/
theorem wl_set {g : Gl} {n : Nat} {I I' : Nat → Nat → Int32} {R R' : Nat → Nat → Option Nat} {a : Nat} (hn : n ≤ 202) (h : Mad n a) (hI : ∀ v x, (ow2 v x).1 ≠ a → I' v x = I v x) (hR : ∀ b k, b ≠ a → R' b k = R b k) : wl g (n, I', R') = (wl g (n, I, R)).set (pos a) (ad g a, ent g I' R' a) := by
  apply List.ext_getElem?
  intro i
  by_cases hi : i < n
  · rw [wl_get (M := (n, I', R')) hi]
    by_cases e : i = pos a
    · subst e
      rw [List.getElem?_set_self (by rw [wl_len]; exact hi), adr_pos h.1 (Nat.lt_of_lt_of_le h.2 hn)]
      unfold ad
      rw [if_pos h.1]
    · rw [List.getElem?_set_ne (Ne.symm e), wl_get (M := (n, I, R)) hi]
      have h1 := adr_ok (Nat.lt_of_lt_of_le hi hn)
      have hne : adr i ≠ a := fun q => e (by rw [← q]; exact h1.2.1.symm)
      rw [ent_congr (I := I') (I' := I) (R := R') (R' := R) ⟨h1.1, by rw [h1.2.1]; exact Nat.lt_of_lt_of_le hi hn⟩ (fun v x q => hI v x (fun z => hne (q ▸ z))) (fun k => hR _ k hne)]
  · rw [List.getElem?_eq_none (by rw [wl_len]; exact Nat.not_lt.mp hi), List.getElem?_eq_none (by rw [List.length_set, wl_len]; exact Nat.not_lt.mp hi)]
theorem wl_D {g : Gl} {M : Mm} : va_D (fun q => g.1 ≤ q) (wl g M) := by
  have key : ∀ (k : Nat) (q : Nat × va_E), (wl g M)[k]? = some q → q.1 = g.1 + k := by
    intro k q hk
    by_cases h : k < M.1
    · rw [wl_get h] at hk
      cases hk
      rfl
    · rw [List.getElem?_eq_none (by rw [wl_len]; exact Nat.not_lt.mp h)] at hk
      cases hk
  refine ⟨fun i j p q hi hj hpq => ?_, fun k q hk => ?_⟩
  · have := key i p hi
    have := key j q hj
    omega
  · have := key k q hk
    show g.1 ≤ q.1
    omega
/-- writing into an array of numbers -/
theorem wI_own {I : Nat → Nat → Int32} {a j : Nat} {x : Int32} (h : Mad 202 a) (h5 : 5 ≤ kd a) (h7 : kd a ≤ 7) (hj : j < ln a) (v y : Nat) : wI I a j x v y = if v = vx a j ∧ y = ix a j then x else I v y := by
  unfold wI up
  by_cases hv : v = vx a j
  · subst hv
    rw [if_pos rfl]
    by_cases hy : y = ix a j
    · rw [if_pos hy, if_pos ⟨rfl, hy⟩]
    · rw [if_neg hy, if_neg (fun q => hy q.2)]
  · rw [if_neg hv, if_neg (fun q => hv q.1)]
theorem wI_ne {I : Nat → Nat → Int32} {a j : Nat} {x : Int32} (h : Mad 202 a) (h5 : 5 ≤ kd a) (h7 : kd a ≤ 7) (hj : j < ln a) {v y : Nat} (ho : (ow2 v y).1 ≠ a) : wI I a j x v y = I v y := by
  rw [wI_own h h5 h7 hj, if_neg]
  rintro ⟨rfl, rfl⟩
  exact ho (by rw [own_arr h h5 h7 hj])
theorem arf_wI {I : Nat → Nat → Int32} {a j : Nat} {x : Int32} (h : Mad 202 a) (h5 : 5 ≤ kd a) (h7 : kd a ≤ 7) (hj : j < ln a) : arf (wI I a j x) a = upd (arf I a) j x := by
  funext k
  show (if k < ln a then wI I a j x (vx a k) (ix a k) else 0) = (if k = j then x else if k < ln a then I (vx a k) (ix a k) else 0)
  by_cases hk : k < ln a
  · rw [if_pos hk, if_pos hk, wI_own h h5 h7 hj]
    by_cases e : k = j
    · subst e
      rw [if_pos ⟨rfl, rfl⟩, if_pos rfl]
    · rw [if_neg e, if_neg]
      rintro ⟨q1, q2⟩
      have o1 := own_arr h h5 h7 hk
      have o2 := own_arr h h5 h7 hj
      rw [q1, q2, o2] at o1
      exact e (congrArg Prod.snd o1).symm
  · rw [if_neg hk, if_neg hk]
    by_cases e : k = j
    · exact absurd (e ▸ hj) hk
    · rw [if_neg e]

/-! the machine's rows behind the picture's steps -/
def wsU : List Cond := lw_tbl.filter goodWord
/-- arrays of rows of ints have their class -/
def aoa (U : State) : Prop := (Cond.arrayOver (.array .int)).before #[] U = true
theorem aoa_use {A : Array Value} {U : State} (h : aoa U) : (Cond.arrayOver (.array .int)).before A U = true := h
theorem aoa_spec {u : State} (h : aoa u) : ∃ (comp : ClassId) (c : Nat) (k : Class), u.vm.findClass (FieldType.array .int).toString = some comp ∧ (u.vm.classes.findIdx? fun x => match x.kind with | .array component _ => component == comp | _ => false) = some c ∧ u.vm.classes[c]? = some k ∧ k.kind = .array comp (.array .int) ∧ u.vm.findClass ("[" ++ (FieldType.array .int).toString) = some c := by
  have h1 : (Cond.arrayOver (.array .int)).holds #[] u none u [] = true := h
  simp only [Cond.holds, Cond.value, beq_iff_eq] at h1
  cases hc : u.vm.findClass (FieldType.array .int).toString with
  | none => simp [hc] at h1
  | some comp =>
    simp only [hc, Option.bind_some, Option.bind_eq_some_iff, Option.map_eq_some_iff] at h1
    obtain ⟨c, hi, k, hk, hb⟩ := h1
    obtain ⟨hlt, hp, -⟩ := Array.findIdx?_eq_some_iff_getElem.mp hi
    have hkk : u.vm.classes[c] = k := (Array.getElem?_eq_some_iff.mp hk).2
    rw [hkk] at hp
    cases hkind : k.kind with
    | array component ty =>
      rw [hkind] at hb hp
      simp at hb hp
      exact ⟨comp, c, k, rfl, hi, hk, by rw [hkind, hp, hb.1], hb.2⟩
    | _ => rw [hkind] at hb; simp at hb
theorem aoa_moved {u U : State} (hvm : u.vm.Alike U.vm) (h : aoa u) : aoa U := by
  obtain ⟨comp, c, k, h1, h2, h3, h4, h5⟩ := aoa_spec h
  obtain ⟨k', hk', he⟩ := hvm.2.2 _ _ h3
  have hi : (U.vm.classes.findIdx? fun (x : Class) => match x.kind with | .array component _ => component == comp | _ => false) = some c := by
    have e1 := va_idx_bare U.vm comp
    have e2 := va_idx_bare u.vm comp
    have e3 : U.vm.bare = u.vm.bare := by first | exact hvm.bare_eq | exact hvm.bare_eq.symm
    rw [e3] at e1
    exact (e1.symm.trans e2).trans h2
  have hkind : k'.kind = .array comp (.array .int) := by rw [he]; exact h4
  have f1 : U.vm.findClass (FieldType.array .int).toString = some comp := by rw [hvm.findClass]; exact h1
  have f2 : U.vm.findClass ("[" ++ (FieldType.array .int).toString) = some c := by rw [hvm.findClass]; exact h5
  unfold aoa Cond.before Cond.holds
  simp only [Cond.value]
  rw [f1, Option.bind_some]
  refine (congrArg (fun o : Option Nat => (o.bind (fun c => (U.vm.classes[c]?).map fun (k : Class) => match k.kind with | .array _ ty => decide (ty = FieldType.array .int) && decide (U.vm.findClass ("[" ++ (FieldType.array .int).toString) = some c) | _ => false) == some true)) hi).trans ?_
  simp [hk', hkind, f2]
/-- what stands from before: never written -/
def EXT (g : Gl) (s : State) : Prop :=
  va_X (g.2.1 1000) g.2.2.2.2.2.toNatClampNeg g.2.2.2.2.1 s s.heap ∧ g.2.1 1000 < s.heap.size ∧ g.2.1 1000 < g.1 ∧
  (va_Z "HandoverDesk" "FIRST_SETTING" "[I" (.ref (g.2.1 1001)) (fun q => g.1 ≤ q) s s.heap ∧ va_Z "HandoverDesk" "LEAST_SETTING" "[I" (.ref (g.2.1 1002)) (fun q => g.1 ≤ q) s s.heap ∧ va_Z "HandoverDesk" "MOST_SETTING" "[I" (.ref (g.2.1 1003)) (fun q => g.1 ≤ q) s s.heap) ∧
  (∀ a, 1001 ≤ a → a < 1004 → va_T .int (g.2.1 a) 6 (fun j => .int (csI a j)) (fun q => g.1 ≤ q) s s.heap) ∧
  True ∧
  True ∧
  (va_Nw (.methodLinkNest "HandoverDesk$State" 111 ⟨"HandoverDesk", "isSetting", "(I)Z"⟩ "HandoverDesk") s ∧ va_Nw (.methodLinkNest "HandoverDesk$State" 81 ⟨"HandoverDesk", "isWorker", "(I)Z"⟩ "HandoverDesk") s ∧ va_Nw (.methodLinkNest "HandoverDesk$State" 120 ⟨"HandoverDesk", "isPlace", "(I)Z"⟩ "HandoverDesk") s ∧
    va_Nw (.fieldLinkNest "HandoverDesk$State" 15 "HandoverDesk" "FIRST_SETTING" "[I" "HandoverDesk") s ∧ va_Nw (.fieldLinkNest "HandoverDesk$State" 114 "HandoverDesk" "LEAST_SETTING" "[I" "HandoverDesk") s ∧ va_Nw (.fieldLinkNest "HandoverDesk$State" 117 "HandoverDesk" "MOST_SETTING" "[I" "HandoverDesk") s) ∧
  va_AO "HandoverDesk$State" s ∧ aoa s
def ENV (g : Gl) (s : State) : Prop := va_K g.2.2.1 vwCl (tysG g) s ∧ EXT g s
/-- the heap as the picture says -/
def HV (g : Gl) (M : Mm) (H : Heap) : Prop := M.1 ≤ 202 ∧ H.size = g.1 + M.1 ∧ va_P g.2.2.1 vwCl (wl g M) H ∧ M.2.1 60 = g.2.2.2.2.1 ∧ M.2.1 61 0 = g.2.2.2.2.2
def asc (g : Gl) : Nat → Lo → List (Nat × Value)
  | _, [] => []
  | i, some v :: l => (i, cv g v) :: asc g (i + 1) l
  | i, none :: l => asc g (i + 1) l
theorem asc_mem {g : Gl} : ∀ (l : Lo) (i : Nat) (q : Nat × Value), q ∈ asc g i l ↔ ∃ (k : Nat) (v : Value), l[k]? = some (some v) ∧ q = (i + k, cv g v)
  | [], i, q => by
    constructor
    · intro h; cases h
    · rintro ⟨k, v, h, -⟩; simp at h
  | some w :: l, i, q => by
    rw [asc, List.mem_cons, asc_mem l (i + 1) q]
    constructor
    · rintro (rfl | ⟨k, v, h, rfl⟩)
      · exact ⟨0, w, rfl, rfl⟩
      · exact ⟨k + 1, v, h, by rw [show i + 1 + k = i + (k + 1) by omega]⟩
    · rintro ⟨k, v, h, rfl⟩
      cases k with
      | zero =>
        left
        rw [List.getElem?_cons_zero] at h
        cases h
        rfl
      | succ k =>
        right
        rw [List.getElem?_cons_succ] at h
        exact ⟨k, v, h, by rw [show i + 1 + k = i + (k + 1) by omega]⟩
  | none :: l, i, q => by
    rw [asc, asc_mem l (i + 1) q]
    constructor
    · rintro ⟨k, v, h, rfl⟩
      exact ⟨k + 1, v, h, by rw [show i + 1 + k = i + (k + 1) by omega]⟩
    · rintro ⟨k, v, h, rfl⟩
      cases k with
      | zero => rw [List.getElem?_cons_zero] at h; cases h
      | succ k =>
        rw [List.getElem?_cons_succ] at h
        exact ⟨k, v, h, by rw [show i + 1 + k = i + (k + 1) by omega]⟩
theorem lo_at {g : Gl} {ls : Array Slot} {n : Nat} {l : Lo} (h : lv_has ls n (asc g 0 l)) {k : Nat} {v : Value} (hk : l[k]? = some (some v)) : ls[k]? = some (.val (cv g v)) :=
  h.2.2 (k, cv g v) ((asc_mem l 0 _).mpr ⟨k, v, hk, by rw [Nat.zero_add]⟩)
theorem lo_sub {g : Gl} {ls : Array Slot} {n : Nat} {l : Lo} {lv : List (Nat × Value)} (h : lv_has ls n lv) (hs : ∀ (k : Nat) (v : Value), l[k]? = some (some v) → (k, cv g v) ∈ lv) : lv_has ls n (asc g 0 l) := by
  refine ⟨h.1, h.2.1, fun q hq => ?_⟩
  obtain ⟨k, v, hk, rfl⟩ := (asc_mem l 0 q).mp hq
  rw [Nat.zero_add]
  exact h.2.2 _ (hs k v hk)
theorem sto1_len : ∀ (l : Lo) (i : Nat) (v : Value), (sto1 l i v).length = l.length
  | [], i, _ => by cases i <;> rfl
  | _ :: l, 0, _ => rfl
  | _ :: l, 1, v => by rw [sto1, List.length_cons, List.length_cons, sto1_len l 0 v]
  | _ :: l, i + 2, v => by rw [sto1, List.length_cons, List.length_cons, sto1_len l (i + 1) v]
theorem sto1_at : ∀ (l : Lo) (i : Nat) (v : Value) (k : Nat) (w : Value), (sto1 l i v)[k]? = some (some w) → (k = i ∧ w = v) ∨ (k ≠ i ∧ l[k]? = some (some w) ∧ ¬ (k + 1 = i ∧ w.category = 2))
  | [], i, v, k, w, h => by cases i <;> simp [sto1] at h
  | x :: l, 0, v, k, w, h => by
    cases k with
    | zero => left; simp [sto1] at h; exact ⟨rfl, h.symm⟩
    | succ k => right; simp [sto1] at h; exact ⟨by omega, by simpa using h, by omega⟩
  | x :: l, 1, v, k, w, h => by
    cases k with
    | zero =>
      right
      rw [sto1, List.getElem?_cons_zero] at h
      have h1 : cln x = some w := by simpa using h
      cases x with
      | none => cases h1
      | some y =>
        unfold cln at h1
        by_cases hc : y.category = 2
        · simp [hc] at h1
        · simp [hc] at h1
          subst h1
          exact ⟨by omega, rfl, fun q => hc q.2⟩
    | succ k =>
      rw [sto1, List.getElem?_cons_succ] at h
      rcases sto1_at l 0 v k w h with ⟨rfl, rfl⟩ | ⟨h1, h2, h3⟩
      · exact Or.inl ⟨rfl, rfl⟩
      · exact Or.inr ⟨by omega, by rw [List.getElem?_cons_succ]; exact h2, by omega⟩
  | x :: l, i + 2, v, k, w, h => by
    cases k with
    | zero =>
      right
      rw [sto1, List.getElem?_cons_zero] at h
      exact ⟨by omega, by rw [List.getElem?_cons_zero]; exact h, by omega⟩
    | succ k =>
      rw [sto1, List.getElem?_cons_succ] at h
      rcases sto1_at l (i + 1) v k w h with ⟨rfl, rfl⟩ | ⟨h1, h2, h3⟩
      · exact Or.inl ⟨rfl, rfl⟩
      · exact Or.inr ⟨by omega, by rw [List.getElem?_cons_succ]; exact h2, fun q => h3 ⟨by omega, q.2⟩⟩
theorem sto2_len : ∀ (l : Lo) (i : Nat) (v : Value), i + 1 < l.length → (sto2 l i v).length = l.length
  | [], i, _, h => by simp at h
  | [x], 0, _, h => by simp at h
  | _ :: _ :: l, 0, _, _ => rfl
  | [x], 1, v, h => by simp at h
  | x :: y :: l, 1, v, h => by rw [sto2, List.length_cons, List.length_cons, sto2_len (y :: l) 0 v (by simpa using h)]
  | x :: l, i + 2, v, h => by rw [sto2, List.length_cons, List.length_cons, sto2_len l (i + 1) v (by simpa using h)]
theorem sto2_at : ∀ (l : Lo) (i : Nat) (v : Value) (k : Nat) (w : Value), i + 1 < l.length → (sto2 l i v)[k]? = some (some w) → (k = i ∧ w = v) ∨ (k ≠ i ∧ k ≠ i + 1 ∧ l[k]? = some (some w) ∧ ¬ (k + 1 = i ∧ w.category = 2))
  | [], i, v, k, w, hl, h => by simp at hl
  | [x], 0, v, k, w, hl, h => by simp at hl
  | x :: y :: l, 0, v, k, w, hl, h => by
    match k, h with
    | 0, h => left; simp [sto2] at h; exact ⟨rfl, h.symm⟩
    | 1, h => simp [sto2] at h
    | k + 2, h => right; simp [sto2] at h; exact ⟨by omega, by omega, by simpa using h, by omega⟩
  | [x], 1, v, k, w, hl, h => by simp at hl
  | x :: y :: l, 1, v, k, w, hl, h => by
    cases k with
    | zero =>
      right
      rw [sto2, List.getElem?_cons_zero] at h
      have h1 : cln x = some w := by simpa using h
      cases x with
      | none => cases h1
      | some z =>
        unfold cln at h1
        by_cases hc : z.category = 2
        · simp [hc] at h1
        · simp [hc] at h1
          subst h1
          exact ⟨by omega, by omega, rfl, fun q => hc q.2⟩
    | succ k =>
      rw [sto2, List.getElem?_cons_succ] at h
      rcases sto2_at (y :: l) 0 v k w (by simpa using hl) h with ⟨rfl, rfl⟩ | ⟨h1, h2, h3, h4⟩
      · exact Or.inl ⟨rfl, rfl⟩
      · exact Or.inr ⟨by omega, by omega, by rw [List.getElem?_cons_succ]; exact h3, by omega⟩
  | x :: l, i + 2, v, k, w, hl, h => by
    cases k with
    | zero =>
      right
      rw [sto2, List.getElem?_cons_zero] at h
      exact ⟨by omega, by omega, by rw [List.getElem?_cons_zero]; exact h, by omega⟩
    | succ k =>
      rw [sto2, List.getElem?_cons_succ] at h
      rcases sto2_at l (i + 1) v k w (by simpa using hl) h with ⟨rfl, rfl⟩ | ⟨h1, h2, h3, h4⟩
      · exact Or.inl ⟨rfl, rfl⟩
      · exact Or.inr ⟨by omega, by omega, by rw [List.getElem?_cons_succ]; exact h3, fun q => h4 ⟨by omega, q.2⟩⟩
theorem lo_st1 {g : Gl} {ls' : Array Slot} {n i : Nat} {l : Lo} {v : Value} (h : lv_has ls' n ((i, cv g v) :: (asc g 0 l).filter (fun q => !(q.1 == i) && !(q.1 + 1 == i && q.2.category == 2)))) : lv_has ls' n (asc g 0 (sto1 l i v)) := by
  refine lo_sub h (fun k w hk => ?_)
  rcases sto1_at l i v k w hk with ⟨rfl, rfl⟩ | ⟨h1, h2, h3⟩
  · exact List.mem_cons_self
  · refine List.mem_cons_of_mem _ (List.mem_filter.mpr ⟨(asc_mem l 0 _).mpr ⟨k, w, h2, by rw [Nat.zero_add]⟩, ?_⟩)
    simp only [Bool.and_eq_true, Bool.not_eq_true', beq_eq_false_iff_ne, ne_eq, Bool.and_eq_false_iff, cv_cat]
    exact ⟨h1, by by_cases q : k + 1 = i
                  · exact Or.inr (fun z => h3 ⟨q, z⟩)
                  · exact Or.inl q⟩
theorem lo_st2 {g : Gl} {ls' : Array Slot} {n i : Nat} {l : Lo} {v : Value} (hl : i + 1 < l.length) (h : lv_has ls' n ((i, cv g v) :: (asc g 0 l).filter (fun q => !(q.1 == i) && (!(q.1 == i + 1) && !(q.1 + 1 == i && q.2.category == 2))))) : lv_has ls' n (asc g 0 (sto2 l i v)) := by
  refine lo_sub h (fun k w hk => ?_)
  rcases sto2_at l i v k w hl hk with ⟨rfl, rfl⟩ | ⟨h1, h1', h2, h3⟩
  · exact List.mem_cons_self
  · refine List.mem_cons_of_mem _ (List.mem_filter.mpr ⟨(asc_mem l 0 _).mpr ⟨k, w, h2, by rw [Nat.zero_add]⟩, ?_⟩)
    simp only [Bool.and_eq_true, Bool.not_eq_true', beq_eq_false_iff_ne, ne_eq, Bool.and_eq_false_iff, cv_cat]
    exact ⟨h1, h1', by by_cases q : k + 1 = i
                       · exact Or.inr (fun z => h3 ⟨q, z⟩)
                       · exact Or.inl q⟩
end
section
section SND
variable {p : Program} {l : Launch} {e : Env} {R : Room} {s : State} {m : MethodId} {args : Array Value} {below : List Frame} {meth : Method} {c : Code} {Q : State → Prop} {g : Gl} {K n0 : Nat}
/-- the machine at a place of the picture's run -/
def WW (p : Program) (l : Launch) (e : Env) (R : Room) (s : State) (m : MethodId) (args : Array Value) (below : List Frame) (meth : Method) (c : Code) (Q : State → Prop) (g : Gl) (K n0 : Nat) (H : Heap) (locs : List Loc) (x : Cf) : Prop :=
  x.2.1.length = mxl K → ∀ ls : Array Slot, lv_has ls (mxl K) (asc g 0 x.2.1) → W p l e R s m args below meth c H locs (x.2.2.2.1 - n0) (sl x.2.2.2.1 - sl n0) Q (F0 m x.1 ls (x.2.2.1.map (cv g)))
/-- what is fixed in a method's body -/
def FXD (p : Program) (R : Room) (s : State) (m : MethodId) (args : Array Value) (meth : Method) (c : Code) (g : Gl) (K n0 : Nat) : Prop :=
  p.tables.exec = Jvm.exec ∧ c.code = cod K ∧ c.maxLocals = mxl K ∧ s.vm.findClass (cn (ow K)) = some m.cls ∧ (∀ w, w ∈ lw_tbl → goodWord w = true → w.before args s = true) ∧
  ((nm K).name = "<init>" → meth.name = "<init>") ∧ ENV g s ∧ s.heap.size = g.1 + n0 ∧ rk K ≤ R.frames ∧ 37 * rk K ≤ R.locals
theorem snd_psh (hX : FXD p R s m args meth c g K n0) {i : Instr} {len pc n : Nat} {v : Value} {L : Lo} {st : List Value} {M : Mm} {H : Heap} {locs : List Loc} (d : decode (cod K) pc = .ok (i, len)) (hk : lok i len = true) (h : pshI i = some (v, n))
    (k : WW p l e R s m args below meth c Q g K n0 H locs (pc + n, L, v :: st, M)) : WW p l e R s m args below meth c Q g K n0 H locs (pc, L, st, M) := by
  intro hl ls hls
  have k1 := k hl ls hls
  obtain ⟨hx, hb, -⟩ := hX
  unfold pshI at h
  split at h
  · rename_i z; have q : len = 1 := by simpa [lok] using hk
    subst q; cases h; exact lv_iconst hx hb d rfl k1
  · rename_i z; have q : len = 2 := by simpa [lok] using hk
    subst q; cases h; exact lv_bipush hx hb d rfl k1
  · rename_i z; have q : len = 3 := by simpa [lok] using hk
    subst q; cases h; exact lv_sipush hx hb d rfl k1
  · rename_i z; have q : len = 1 := by simpa [lok] using hk
    subst q; cases h; exact lv_lconst hx hb d rfl k1
  · have q : len = 1 := by simpa [lok] using hk
    subst q; cases h; exact lv_fconst0 hx hb d k1
  · have q : len = 1 := by simpa [lok] using hk
    subst q; cases h; exact lv_fconst1 hx hb d k1
  · have q : len = 1 := by simpa [lok] using hk
    subst q; cases h; exact lv_fconst2 hx hb d k1
  · have q : len = 1 := by simpa [lok] using hk
    subst q; cases h; exact lv_dconst0 hx hb d k1
  · have q : len = 1 := by simpa [lok] using hk
    subst q; cases h; exact lv_dconst1 hx hb d k1
  · cases h
theorem snd_ld (hX : FXD p R s m args meth c g K n0) {i : Instr} {len pc n t k0 : Nat} {v : Value} {L : Lo} {st : List Value} {M : Mm} {H : Heap} {locs : List Loc} (d : decode (cod K) pc = .ok (i, len)) (hk : lok i len = true) (h : ldI i = some (t, k0, n)) (hL : L[k0]? = some (some v)) (hv : vkn v = t)
    (k : WW p l e R s m args below meth c Q g K n0 H locs (pc + n, L, v :: st, M)) : WW p l e R s m args below meth c Q g K n0 H locs (pc, L, st, M) := by
  intro hl ls hls
  have k1 := k hl ls hls
  have hat := lo_at hls hL
  obtain ⟨hx, hb, -⟩ := hX
  subst hv
  unfold ldI at h
  split at h
  · have q : len = 1 := by simpa [lok] using hk
    subst q
    simp only [Option.some.injEq, Prod.mk.injEq] at h
    obtain ⟨h1, rfl, rfl⟩ := h
    cases v <;> first | (cases h1; done) | exact lv_iload_n hx hb d rfl hat k1
  · have q : len = 1 := by simpa [lok] using hk
    subst q
    simp only [Option.some.injEq, Prod.mk.injEq] at h
    obtain ⟨h1, rfl, rfl⟩ := h
    cases v <;> first | (cases h1; done) | exact lv_lload_n hx hb d rfl hat k1
  · have q : len = 1 := by simpa [lok] using hk
    subst q
    simp only [Option.some.injEq, Prod.mk.injEq] at h
    obtain ⟨h1, rfl, rfl⟩ := h
    cases v <;> first | (cases h1; done) | exact lv_fload_n hx hb d rfl hat k1
  · have q : len = 1 := by simpa [lok] using hk
    subst q
    simp only [Option.some.injEq, Prod.mk.injEq] at h
    obtain ⟨h1, rfl, rfl⟩ := h
    cases v <;> first | (cases h1; done) | exact lv_dload_n hx hb d rfl hat k1
  · have q : len = 1 := by simpa [lok] using hk
    subst q
    simp only [Option.some.injEq, Prod.mk.injEq] at h
    obtain ⟨h1, rfl, rfl⟩ := h
    cases v <;> first | (cases h1; done) | exact lv_aload_n hx hb d rfl hat k1
  · have q : len = 2 := by simpa [lok] using hk
    subst q
    simp only [Option.some.injEq, Prod.mk.injEq] at h
    obtain ⟨h1, rfl, rfl⟩ := h
    cases v <;> first | (cases h1; done) | exact lv_iload hx hb d hat k1
  · have q : len = 2 := by simpa [lok] using hk
    subst q
    simp only [Option.some.injEq, Prod.mk.injEq] at h
    obtain ⟨h1, rfl, rfl⟩ := h
    cases v <;> first | (cases h1; done) | exact lv_lload hx hb d hat k1
  · have q : len = 2 := by simpa [lok] using hk
    subst q
    simp only [Option.some.injEq, Prod.mk.injEq] at h
    obtain ⟨h1, rfl, rfl⟩ := h
    cases v <;> first | (cases h1; done) | exact lv_fload hx hb d hat k1
  · have q : len = 2 := by simpa [lok] using hk
    subst q
    simp only [Option.some.injEq, Prod.mk.injEq] at h
    obtain ⟨h1, rfl, rfl⟩ := h
    cases v <;> first | (cases h1; done) | exact lv_dload hx hb d hat k1
  · have q : len = 2 := by simpa [lok] using hk
    subst q
    simp only [Option.some.injEq, Prod.mk.injEq] at h
    obtain ⟨h1, rfl, rfl⟩ := h
    cases v <;> first | (cases h1; done) | exact lv_aload hx hb d hat k1
  · cases h
theorem snd_st (hX : FXD p R s m args meth c g K n0) {i : Instr} {len pc n t k0 : Nat} {v : Value} {L : Lo} {st : List Value} {M : Mm} {H : Heap} {locs : List Loc} (d : decode (cod K) pc = .ok (i, len)) (hk : lok i len = true) (h : stoI i = some (t, k0, n)) (hv : vkn v = t)
    (k1 : ¬ v.category = 2 → k0 < L.length → WW p l e R s m args below meth c Q g K n0 H locs (pc + n, sto1 L k0 v, st, M)) (k2 : v.category = 2 → k0 + 1 < L.length → WW p l e R s m args below meth c Q g K n0 H locs (pc + n, sto2 L k0 v, st, M)) (hw : if v.category = 2 then k0 + 1 < L.length else k0 < L.length) : WW p l e R s m args below meth c Q g K n0 H locs (pc, L, v :: st, M) := by
  intro hl ls hls
  obtain ⟨hx, hb, -⟩ := hX
  subst hv
  unfold stoI at h
  split at h
  · have q : len = 1 := by simpa [lok] using hk
    subst q
    simp only [Option.some.injEq, Prod.mk.injEq] at h
    obtain ⟨h1, rfl, rfl⟩ := h
    cases v <;> first | (cases h1; done) | skip
    have hw1 : _ < L.length := hw
    exact lv_istore_n hx hb d rfl hls (by rw [← hl]; exact hw1) rfl (fun ls' hls' => k1 (fun q => by cases q) hw1 (by rw [← hl]; exact sto1_len _ _ _) ls' (lo_st1 hls'))
  · have q : len = 1 := by simpa [lok] using hk
    subst q
    simp only [Option.some.injEq, Prod.mk.injEq] at h
    obtain ⟨h1, rfl, rfl⟩ := h
    cases v <;> first | (cases h1; done) | skip
    have hw1 : _ + 1 < L.length := hw
    exact lv_lstore_n hx hb d rfl hls (by rw [← hl]; exact hw1) rfl (fun ls' hls' => k2 rfl hw1 (by rw [← hl]; exact sto2_len _ _ _ hw1) ls' (lo_st2 hw1 hls'))
  · have q : len = 1 := by simpa [lok] using hk
    subst q
    simp only [Option.some.injEq, Prod.mk.injEq] at h
    obtain ⟨h1, rfl, rfl⟩ := h
    cases v <;> first | (cases h1; done) | skip
    have hw1 : _ < L.length := hw
    exact lv_fstore_n hx hb d rfl hls (by rw [← hl]; exact hw1) rfl (fun ls' hls' => k1 (fun q => by cases q) hw1 (by rw [← hl]; exact sto1_len _ _ _) ls' (lo_st1 hls'))
  · have q : len = 1 := by simpa [lok] using hk
    subst q
    simp only [Option.some.injEq, Prod.mk.injEq] at h
    obtain ⟨h1, rfl, rfl⟩ := h
    cases v <;> first | (cases h1; done) | skip
    have hw1 : _ + 1 < L.length := hw
    exact lv_dstore_n hx hb d rfl hls (by rw [← hl]; exact hw1) rfl (fun ls' hls' => k2 rfl hw1 (by rw [← hl]; exact sto2_len _ _ _ hw1) ls' (lo_st2 hw1 hls'))
  · have q : len = 1 := by simpa [lok] using hk
    subst q
    simp only [Option.some.injEq, Prod.mk.injEq] at h
    obtain ⟨h1, rfl, rfl⟩ := h
    cases v <;> first | (cases h1; done) | skip
    have hw1 : _ < L.length := hw
    exact lv_astore_n hx hb d rfl hls (by rw [← hl]; exact hw1) rfl (fun ls' hls' => k1 (fun q => by cases q) hw1 (by rw [← hl]; exact sto1_len _ _ _) ls' (lo_st1 hls'))
  · have q : len = 2 := by simpa [lok] using hk
    subst q
    simp only [Option.some.injEq, Prod.mk.injEq] at h
    obtain ⟨h1, rfl, rfl⟩ := h
    cases v <;> first | (cases h1; done) | skip
    have hw1 : _ < L.length := hw
    exact lv_istore hx hb d hls (by rw [← hl]; exact hw1) rfl (fun ls' hls' => k1 (fun q => by cases q) hw1 (by rw [← hl]; exact sto1_len _ _ _) ls' (lo_st1 hls'))
  · have q : len = 2 := by simpa [lok] using hk
    subst q
    simp only [Option.some.injEq, Prod.mk.injEq] at h
    obtain ⟨h1, rfl, rfl⟩ := h
    cases v <;> first | (cases h1; done) | skip
    have hw1 : _ + 1 < L.length := hw
    exact lv_lstore hx hb d hls (by rw [← hl]; exact hw1) rfl (fun ls' hls' => k2 rfl hw1 (by rw [← hl]; exact sto2_len _ _ _ hw1) ls' (lo_st2 hw1 hls'))
  · have q : len = 2 := by simpa [lok] using hk
    subst q
    simp only [Option.some.injEq, Prod.mk.injEq] at h
    obtain ⟨h1, rfl, rfl⟩ := h
    cases v <;> first | (cases h1; done) | skip
    have hw1 : _ < L.length := hw
    exact lv_fstore hx hb d hls (by rw [← hl]; exact hw1) rfl (fun ls' hls' => k1 (fun q => by cases q) hw1 (by rw [← hl]; exact sto1_len _ _ _) ls' (lo_st1 hls'))
  · have q : len = 2 := by simpa [lok] using hk
    subst q
    simp only [Option.some.injEq, Prod.mk.injEq] at h
    obtain ⟨h1, rfl, rfl⟩ := h
    cases v <;> first | (cases h1; done) | skip
    have hw1 : _ + 1 < L.length := hw
    exact lv_dstore hx hb d hls (by rw [← hl]; exact hw1) rfl (fun ls' hls' => k2 rfl hw1 (by rw [← hl]; exact sto2_len _ _ _ hw1) ls' (lo_st2 hw1 hls'))
  · have q : len = 2 := by simpa [lok] using hk
    subst q
    simp only [Option.some.injEq, Prod.mk.injEq] at h
    obtain ⟨h1, rfl, rfl⟩ := h
    cases v <;> first | (cases h1; done) | skip
    have hw1 : _ < L.length := hw
    exact lv_astore hx hb d hls (by rw [← hl]; exact hw1) rfl (fun ls' hls' => k1 (fun q => by cases q) hw1 (by rw [← hl]; exact sto1_len _ _ _) ls' (lo_st1 hls'))
  · cases h
theorem snd_A (hX : FXD p R s m args meth c g K n0) {i : Instr} {len pc : Nat} {L : Lo} {st : List Value} {M : Mm} {x : Cf} {H : Heap} {locs : List Loc} (d : decode (cod K) pc = .ok (i, len)) (hk : lok i len = true) (h : stA i pc L st M = some x)
    (k : WW p l e R s m args below meth c Q g K n0 H locs x) : WW p l e R s m args below meth c Q g K n0 H locs (pc, L, st, M) ∧ x.2.2.2 = M := by
  unfold stA at h
  cases hp : pshI i with
  | some q =>
    rw [hp] at h
    cases h
    exact ⟨snd_psh hX d hk hp k, rfl⟩
  | none =>
    rw [hp] at h
    cases hq : ldI i with
    | some q =>
      obtain ⟨t, k0, n⟩ := q
      rw [hq] at h
      have h1 : (match L[k0]? with | some (some v) => if vkn v = t then some (pc + n, L, v :: st, M) else none | _ => none) = some x := h
      cases hL : L[k0]? with
      | none => rw [hL] at h1; cases h1
      | some y =>
        cases y with
        | none => rw [hL] at h1; cases h1
        | some v =>
          rw [hL] at h1
          have h2 : (if vkn v = t then some (pc + n, L, v :: st, M) else none) = some x := h1
          by_cases hv : vkn v = t
          · rw [if_pos hv] at h2
            cases h2
            exact ⟨snd_ld hX d hk hq hL hv k, rfl⟩
          · rw [if_neg hv] at h2; cases h2
    | none =>
      rw [hq] at h
      cases hw : stoI i with
      | none => rw [hw] at h; cases h
      | some q =>
        obtain ⟨t, k0, n⟩ := q
        rw [hw] at h
        cases st with
        | nil => cases h
        | cons v r =>
          have h2 : (if vkn v = t then (if v.category = 2 then (if k0 + 1 < L.length then some (pc + n, sto2 L k0 v, r, M) else none) else (if k0 < L.length then some (pc + n, sto1 L k0 v, r, M) else none)) else none) = some x := h
          by_cases hv : vkn v = t
          · rw [if_pos hv] at h2
            by_cases hc : v.category = 2
            · rw [if_pos hc] at h2
              by_cases hl : k0 + 1 < L.length
              · rw [if_pos hl] at h2
                cases h2
                exact ⟨snd_st hX d hk hw hv (fun q => absurd hc q) (fun _ _ => k) (by rw [if_pos hc]; exact hl), rfl⟩
              · rw [if_neg hl] at h2; cases h2
            · rw [if_neg hc] at h2
              by_cases hl : k0 < L.length
              · rw [if_pos hl] at h2
                cases h2
                exact ⟨snd_st hX d hk hw hv (fun _ _ => k) (fun q => absurd q hc) (by rw [if_neg hc]; exact hl), rfl⟩
              · rw [if_neg hl] at h2; cases h2
          · rw [if_neg hv] at h2; cases h2
end SND
end
section
section SND2
variable {p : Program} {l : Launch} {e : Env} {R : Room} {s : State} {m : MethodId} {args : Array Value} {below : List Frame} {meth : Method} {c : Code} {Q : State → Prop} {g : Gl} {K n0 : Nat}
variable {i : Instr} {len pc : Nat} {L : Lo} {st : List Value} {M : Mm} {H : Heap} {locs : List Loc}
theorem snd_bI (hX : FXD p R s m args meth c g K n0) {a b z : Int32} (d : decode (cod K) pc = .ok (i, len)) (hk : lok i len = true) (h : binI i a b = some z) (k : WW p l e R s m args below meth c Q g K n0 H locs (pc + 1, L, .int z :: st, M)) : WW p l e R s m args below meth c Q g K n0 H locs (pc, L, .int b :: .int a :: st, M) := by
  intro hl ls hls
  have k1 := k hl ls hls
  obtain ⟨hx, hb, -⟩ := hX
  unfold binI at h
  split at h
  · have q : len = 1 := by simpa [lok] using hk
    subst q
    cases h
    exact lv_iadd hx hb d k1
  · have q : len = 1 := by simpa [lok] using hk
    subst q
    cases h
    exact lv_isub hx hb d k1
  · have q : len = 1 := by simpa [lok] using hk
    subst q
    cases h
    exact lv_imul hx hb d k1
  · have q : len = 1 := by simpa [lok] using hk
    subst q
    cases h
    exact lv_iand hx hb d k1
  · have q : len = 1 := by simpa [lok] using hk
    subst q
    cases h
    exact lv_ior hx hb d k1
  · have q : len = 1 := by simpa [lok] using hk
    subst q
    cases h
    exact lv_ixor hx hb d k1
  · have q : len = 1 := by simpa [lok] using hk
    subst q
    cases h
    exact lv_ishl hx hb d k1
  · have q : len = 1 := by simpa [lok] using hk
    subst q
    cases h
    exact lv_ishr hx hb d k1
  · have q : len = 1 := by simpa [lok] using hk
    subst q
    cases h
    exact lv_iushr hx hb d rfl k1
  · have q : len = 1 := by simpa [lok] using hk
    subst q
    by_cases hz : b = 0
    · rw [if_pos hz] at h; cases h
    · rw [if_neg hz] at h
      cases h
      exact lv_idiv hx hb d hz k1
  · have q : len = 1 := by simpa [lok] using hk
    subst q
    by_cases hz : b = 0
    · rw [if_pos hz] at h; cases h
    · rw [if_neg hz] at h
      cases h
      exact lv_irem hx hb d hz k1
  · cases h
theorem snd_bL (hX : FXD p R s m args meth c g K n0) {a b z : Int64} (d : decode (cod K) pc = .ok (i, len)) (hk : lok i len = true) (h : binL i a b = some z) (k : WW p l e R s m args below meth c Q g K n0 H locs (pc + 1, L, .long z :: st, M)) : WW p l e R s m args below meth c Q g K n0 H locs (pc, L, .long b :: .long a :: st, M) := by
  intro hl ls hls
  have k1 := k hl ls hls
  obtain ⟨hx, hb, -⟩ := hX
  unfold binL at h
  split at h
  · have q : len = 1 := by simpa [lok] using hk
    subst q
    cases h
    exact lv_ladd hx hb d k1
  · have q : len = 1 := by simpa [lok] using hk
    subst q
    cases h
    exact lv_lsub hx hb d k1
  · have q : len = 1 := by simpa [lok] using hk
    subst q
    cases h
    exact lv_land hx hb d k1
  · have q : len = 1 := by simpa [lok] using hk
    subst q
    cases h
    exact lv_lor hx hb d k1
  · cases h
theorem snd_sL (hX : FXD p R s m args meth c g K n0) {a z : Int64} {b : Int32} (d : decode (cod K) pc = .ok (i, len)) (hk : lok i len = true) (h : shL i a b = some z) (k : WW p l e R s m args below meth c Q g K n0 H locs (pc + 1, L, .long z :: st, M)) : WW p l e R s m args below meth c Q g K n0 H locs (pc, L, .int b :: .long a :: st, M) := by
  intro hl ls hls
  have k1 := k hl ls hls
  obtain ⟨hx, hb, -⟩ := hX
  unfold shL at h
  split at h
  · have q : len = 1 := by simpa [lok] using hk
    subst q
    cases h
    exact lv_lshl hx hb d rfl k1
  · have q : len = 1 := by simpa [lok] using hk
    subst q
    cases h
    exact lv_lshr hx hb d rfl k1
  · have q : len = 1 := by simpa [lok] using hk
    subst q
    cases h
    exact lv_lushr hx hb d rfl k1
  · cases h
theorem snd_bF (hX : FXD p R s m args meth c g K n0) {a b z : Value} (d : decode (cod K) pc = .ok (i, len)) (hk : lok i len = true) (h : binF i a b = some z) (k : WW p l e R s m args below meth c Q g K n0 H locs (pc + 1, L, z :: st, M)) : WW p l e R s m args below meth c Q g K n0 H locs (pc, L, b :: a :: st, M) := by
  intro hl ls hls
  have k1 := k hl ls hls
  obtain ⟨hx, hb, -⟩ := hX
  unfold binF at h
  split at h
  · have q : len = 1 := by simpa [lok] using hk
    subst q
    cases h
    exact W.lcmp hx hb d k1
  · have q : len = 1 := by simpa [lok] using hk
    subst q
    split at h
    · rename_i hn
      cases h
      exact lv_fmul hx hb d hn k1
    · cases h
  · have q : len = 1 := by simpa [lok] using hk
    subst q
    split at h
    · rename_i hn
      cases h
      exact lv_dmul hx hb d hn k1
    · cases h
  · have q : len = 1 := by simpa [lok] using hk
    subst q
    split at h
    · rename_i hn
      cases h
      exact lv_ddiv hx hb d hn k1
    · cases h
  · have q : len = 1 := by simpa [lok] using hk
    subst q
    cases h
    exact lv_fcmp hx hb d k1
  · have q : len = 1 := by simpa [lok] using hk
    subst q
    cases h
    exact lv_dcmp hx hb d k1
  · cases h
theorem snd_uI (hX : FXD p R s m args meth c g K n0) {a z : Value} (d : decode (cod K) pc = .ok (i, len)) (hk : lok i len = true) (h : unI i a = some z) (k : WW p l e R s m args below meth c Q g K n0 H locs (pc + 1, L, z :: st, M)) : WW p l e R s m args below meth c Q g K n0 H locs (pc, L, a :: st, M) := by
  intro hl ls hls
  have k1 := k hl ls hls
  obtain ⟨hx, hb, -⟩ := hX
  unfold unI at h
  split at h
  · have q : len = 1 := by simpa [lok] using hk
    subst q
    cases h
    exact lv_i2l hx hb d rfl k1
  · have q : len = 1 := by simpa [lok] using hk
    subst q
    cases h
    exact lv_l2i hx hb d rfl k1
  · have q : len = 1 := by simpa [lok] using hk
    subst q
    cases h
    exact lv_i2b hx hb d rfl k1
  · have q : len = 1 := by simpa [lok] using hk
    subst q
    cases h
    exact lv_i2c hx hb d rfl k1
  · have q : len = 1 := by simpa [lok] using hk
    subst q
    cases h
    exact lv_i2d hx hb d k1
  · have q : len = 1 := by simpa [lok] using hk
    subst q
    cases h
    exact lv_d2l hx hb d k1
  · have q : len = 1 := by simpa [lok] using hk
    subst q
    cases h
    exact lv_f2i hx hb d k1
  · have q : len = 1 := by simpa [lok] using hk
    subst q
    split at h
    · rename_i hn
      cases h
      exact lv_d2f hx hb d hn k1
    · cases h
  · cases h
theorem snd_Bn (hX : FXD p R s m args meth c g K n0) {x : Cf} (d : decode (cod K) pc = .ok (i, len)) (hk : lok i len = true) (h : stBn i pc L st M = some x) (k : WW p l e R s m args below meth c Q g K n0 H locs x) : WW p l e R s m args below meth c Q g K n0 H locs (pc, L, st, M) ∧ x.2.2.2 = M := by
  unfold stBn at h
  split at h
  · obtain ⟨z, hz, rfl⟩ := Option.map_eq_some_iff.mp h
    exact ⟨snd_bI hX d hk hz k, rfl⟩
  · split at h
    · rename_i z hz
      cases h
      exact ⟨snd_bL hX d hk hz k, rfl⟩
    · obtain ⟨z, hz, rfl⟩ := Option.map_eq_some_iff.mp h
      exact ⟨snd_bF hX d hk hz k, rfl⟩
  · obtain ⟨z, hz, rfl⟩ := Option.map_eq_some_iff.mp h
    exact ⟨snd_sL hX d hk hz k, rfl⟩
  · obtain ⟨z, hz, rfl⟩ := Option.map_eq_some_iff.mp h
    exact ⟨snd_bF hX d hk hz k, rfl⟩
  · obtain ⟨z, hz, rfl⟩ := Option.map_eq_some_iff.mp h
    exact ⟨snd_bF hX d hk hz k, rfl⟩
  · cases h
theorem snd_Un (hX : FXD p R s m args meth c g K n0) {x : Cf} (d : decode (cod K) pc = .ok (i, len)) (hk : lok i len = true) (h : stUn i pc L st M = some x) (k : WW p l e R s m args below meth c Q g K n0 H locs x) : WW p l e R s m args below meth c Q g K n0 H locs (pc, L, st, M) ∧ x.2.2.2 = M := by
  unfold stUn at h
  split at h
  · obtain ⟨z, hz, rfl⟩ := Option.map_eq_some_iff.mp h
    exact ⟨snd_uI hX d hk hz k, rfl⟩
  · cases h
theorem tgt_eq {pc : Nat} {o : Int} (h : 0 ≤ (pc : Int) + o) : (pc : Int) + o = (tgt pc o : Int) := (Int.toNat_of_nonneg h).symm
theorem snd_if (hX : FXD p R s m args meth c g K n0) {cc : ClassFile.Cond} {o : Int} {a : Int32} (d : decode (cod K) pc = .ok (.ifCond cc o, 3)) (ho : 0 ≤ (pc : Int) + o) (k : WW p l e R s m args below meth c Q g K n0 H locs (if cnd cc a 0 = true then tgt pc o else pc + 3, L, st, M)) : WW p l e R s m args below meth c Q g K n0 H locs (pc, L, .int a :: st, M) := by
  intro hl ls hls
  have k1 := k hl ls hls
  obtain ⟨hx, hb, -⟩ := hX
  have hT := tgt_eq ho
  have kt : cnd cc a 0 = true → W p l e R s m args below meth c H locs (M.1 - n0) (sl M.1 - sl n0) Q (F0 m (tgt pc o) ls (st.map (cv g))) := fun q => by have k2 := k1; simp only [q, if_true] at k2; exact k2
  have kf : ¬ cnd cc a 0 = true → W p l e R s m args below meth c H locs (M.1 - n0) (sl M.1 - sl n0) Q (F0 m (pc + 3) ls (st.map (cv g))) := fun q => by have k2 := k1; simp only [q, if_false] at k2; exact k2
  cases cc
  · exact lv_if_eq hx hb d hT (fun q => kt (decide_eq_true q)) (fun q => kf (fun z => q (of_decide_eq_true z)))
  · exact lv_if_ne hx hb d hT (fun q => kt (decide_eq_true q)) (fun q => kf (fun z => (of_decide_eq_true z) q))
  · exact lv_if_lt hx hb d hT (fun q => kt (decide_eq_true q)) (fun q => kf (fun z => q (of_decide_eq_true z)))
  · exact lv_if_ge hx hb d hT (fun q => kt (decide_eq_true q)) (fun q => kf (fun z => q (of_decide_eq_true z)))
  · exact lv_if_gt hx hb d hT (fun q => kt (decide_eq_true q)) (fun q => kf (fun z => q (of_decide_eq_true z)))
  · exact lv_if_le hx hb d hT (fun q => kt (decide_eq_true q)) (fun q => kf (fun z => q (of_decide_eq_true z)))
theorem snd_cmp (hX : FXD p R s m args meth c g K n0) {cc : ClassFile.Cond} {o : Int} {a b : Int32} (d : decode (cod K) pc = .ok (.if_icmp cc o, 3)) (ho : 0 ≤ (pc : Int) + o) (k : WW p l e R s m args below meth c Q g K n0 H locs (if cnd cc a b = true then tgt pc o else pc + 3, L, st, M)) : WW p l e R s m args below meth c Q g K n0 H locs (pc, L, .int b :: .int a :: st, M) := by
  intro hl ls hls
  have k1 := k hl ls hls
  obtain ⟨hx, hb, -⟩ := hX
  have hT := tgt_eq ho
  have kt : cnd cc a b = true → W p l e R s m args below meth c H locs (M.1 - n0) (sl M.1 - sl n0) Q (F0 m (tgt pc o) ls (st.map (cv g))) := fun q => by have k2 := k1; simp only [q, if_true] at k2; exact k2
  have kf : ¬ cnd cc a b = true → W p l e R s m args below meth c H locs (M.1 - n0) (sl M.1 - sl n0) Q (F0 m (pc + 3) ls (st.map (cv g))) := fun q => by have k2 := k1; simp only [q, if_false] at k2; exact k2
  cases cc
  · exact lv_icmp_eq hx hb d hT (fun q => kt (decide_eq_true q)) (fun q => kf (fun z => q (of_decide_eq_true z)))
  · exact lv_icmp_ne hx hb d hT (fun q => kt (decide_eq_true q)) (fun q => kf (fun z => (of_decide_eq_true z) q))
  · exact lv_icmp_lt hx hb d hT (fun q => kt (decide_eq_true q)) (fun q => kf (fun z => q (of_decide_eq_true z)))
  · exact lv_icmp_ge hx hb d hT (fun q => kt (decide_eq_true q)) (fun q => kf (fun z => q (of_decide_eq_true z)))
  · exact lv_icmp_gt hx hb d hT (fun q => kt (decide_eq_true q)) (fun q => kf (fun z => q (of_decide_eq_true z)))
  · exact lv_icmp_le hx hb d hT (fun q => kt (decide_eq_true q)) (fun q => kf (fun z => q (of_decide_eq_true z)))
theorem snd_J (hX : FXD p R s m args meth c g K n0) {x : Cf} (d : decode (cod K) pc = .ok (i, len)) (hk : lok i len = true) (h : stJ i len pc L st M = some x) (k : WW p l e R s m args below meth c Q g K n0 H locs x) : WW p l e R s m args below meth c Q g K n0 H locs (pc, L, st, M) ∧ x.2.2.2 = M := by
  unfold stJ at h
  split at h
  · -- goto
    split at h
    · rename_i o hc
      cases h
      obtain ⟨rfl, ho⟩ := hc
      refine ⟨fun hl ls hls => ?_, rfl⟩
      exact lv_goto hX.1 hX.2.1 d (tgt_eq ho) (k hl ls hls)
    · cases h
  · -- iinc
    split at h
    · rename_i hL
      split at h
      · rename_i h3
        subst h3
        cases h
        refine ⟨fun hl ls hls => ?_, rfl⟩
        have hlt := (List.getElem?_eq_some_iff.mp hL).1
        have hmem := (asc_mem (g := g) L 0 _).mpr ⟨_, _, hL, rfl⟩
        rw [Nat.zero_add] at hmem
        obtain ⟨kx, hkx⟩ := List.getElem?_of_mem hmem
        exact lv_iinc hX.1 hX.2.1 d hls hkx rfl (by rw [← hl]; exact hlt) rfl (fun ls' hls' => k (by show (sto1 L _ _).length = _; rw [sto1_len]; exact hl) ls' (lo_st1 (v := .int _) hls'))
      · cases h
    · cases h
  · -- if
    split at h
    · split at h
      · rename_i hc
        cases h
        obtain ⟨rfl, ho⟩ := hc
        exact ⟨snd_if hX d ho k, rfl⟩
      · cases h
    · cases h
  · split at h
    · split at h
      · rename_i hc
        cases h
        obtain ⟨rfl, ho⟩ := hc
        exact ⟨snd_cmp hX d ho k, rfl⟩
      · cases h
    · cases h
  · -- tableswitch
    split at h
    · rename_i dd lo hi os _ x0 r
      split at h
      · rename_i hout
        split at h
        · rename_i ho
          cases h
          exact ⟨fun hl ls hls => lv_tableOut hX.1 hX.2.1 d hout (tgt_eq ho) (k hl ls hls), rfl⟩
        · cases h
      · rename_i hin
        split at h
        · rename_i o hos
          split at h
          · rename_i ho
            cases h
            exact ⟨fun hl ls hls => lv_tableIn hX.1 hX.2.1 d (fun q => hin (Or.inl q)) (fun q => hin (Or.inr q)) hos (tgt_eq ho) (k hl ls hls), rfl⟩
          · cases h
        · cases h
    · cases h
  · -- lookupswitch
    split at h
    · split at h
      · rename_i hc
        cases h
        exact ⟨fun hl ls hls => lv_lookup hX.1 hX.2.1 d hc.1 rfl (tgt_eq hc.2) (k hl ls hls), rfl⟩
      · cases h
    · cases h
  · split at h
    · split at h
      · rename_i hc
        have q : len = 1 := by simpa [lok] using hk
        subst q
        cases h
        exact ⟨fun hl ls hls => lv_dup hX.1 hX.2.1 d (by rw [cv_cat]; exact hc) (k hl ls hls), rfl⟩
      · cases h
    · cases h
  · split at h
    · split at h
      · rename_i hc
        have q : len = 1 := by simpa [lok] using hk
        subst q
        cases h
        exact ⟨fun hl ls hls => lv_pop hX.1 hX.2.1 d (by rw [cv_cat]; exact hc) (k hl ls hls), rfl⟩
      · cases h
    · cases h
  · split at h
    · split at h
      · rename_i hc
        have q : len = 1 := by simpa [lok] using hk
        subst q
        cases h
        exact ⟨fun hl ls hls => lv_dup2_11 hX.1 hX.2.1 d (by rw [cv_cat]; exact hc.1) (by rw [cv_cat]; exact hc.2) (k hl ls hls), rfl⟩
      · cases h
    · cases h
  · cases h
end SND2
end
section
theorem Mad.w {n m a : Nat} (h : Mad n a) (hn : n ≤ m) : Mad m a := ⟨h.1, Nat.lt_of_lt_of_le h.2 hn⟩
theorem Mad_ne {a : Nat} (h : Mad 202 a) : a ≠ 999 := by
  rintro rfl
  exact absurd h.2 (by decide)
theorem vx_ne {a j v : Nat} (h : Mad 202 a) (h5 : 5 ≤ kd a) (h7 : kd a ≤ 7) (hj : j < ln a) (hv : v = 60 ∨ v = 61) : v ≠ vx a j := by
  intro e
  have h1 := own_arr h h5 h7 hj
  rw [← e] at h1
  have h2 : a = 999 := by
    rcases hv with rfl | rfl <;> · have := congrArg Prod.fst h1; exact this.symm
  exact Mad_ne h h2
theorem ent_ob {g : Gl} {I : Nat → Nat → Int32} {R : Nat → Nat → Option Nat} {a : Nat} (h : kd a ≤ 4) : ent g I R a = .inr (kd a - 1, obf g I R a) := if_pos h
theorem ent_ar {g : Gl} {I : Nat → Nat → Int32} {R : Nat → Nat → Option Nat} {a : Nat} (h5 : 5 ≤ kd a) (h7 : kd a ≤ 7) : ent g I R a = .inl (g.2.2.2.1 (kd a), ln a, .inl (arf I a)) := by
  unfold ent
  rw [if_neg (by omega), if_pos h7]
theorem ent_rr {g : Gl} {I : Nat → Nat → Int32} {R : Nat → Nat → Option Nat} {a : Nat} (h8 : 8 ≤ kd a) : ent g I R a = .inl (g.2.2.2.1 (kd a), ln a, .inr (.inr (.inr (.inr (rrf g R a))))) := by
  unfold ent
  rw [if_neg (by omega), if_neg (by omega)]
theorem kd_le {a : Nat} (h : Mad 202 a) : kd a ≤ 9 ∧ 1 ≤ kd a := by
  have h1 := adr_ok h.2
  rw [adr_pos h.1 h.2] at h1
  exact ⟨h1.2.2.2.1, h1.2.2.1⟩
theorem tys_at {g : Gl} {a : Nat} (h5 : 5 ≤ kd a) (h9 : kd a ≤ 9) : (tysG g)[kd a - 5]? = some (g.2.2.2.1 (kd a), arT (kd a)) := by
  generalize kd a = k at h5 h9 ⊢
  rcases (show k = 5 ∨ k = 6 ∨ k = 7 ∨ k = 8 ∨ k = 9 by omega) with rfl | rfl | rfl | rfl | rfl <;> rfl
theorem cv_rf (g : Gl) (r : Option Nat) : cv g (va_rf r) = va_rf (r.map (ad g)) := by cases r <;> rfl
theorem inb_lt {j : Int32} {n : Nat} (h : inb j n) : j.toNatClampNeg < n := Nat.not_le.mp fun q => h (Or.inr q)
theorem ad_own {g : Gl} {a : Nat} (h : a < 1000) : ad g a = g.1 + pos a := if_pos h
theorem ad_ext {g : Gl} {a : Nat} (h : 1000 ≤ a) : ad g a = g.2.1 a := if_neg (by omega)
section SND3
variable {p : Program} {l : Launch} {e : Env} {R : Room} {s : State} {m : MethodId} {args : Array Value} {below : List Frame} {meth : Method} {c : Code} {Q : State → Prop} {g : Gl} {K n0 : Nat}
variable {i : Instr} {len pc : Nat} {L : Lo} {st : List Value} {M : Mm} {H : Heap} {locs : List Loc}
theorem snd_ard (hX : FXD p R s m args meth c g K n0) (hH : HV g M H) (hS : va_S (fun q => g.1 ≤ q) s.heap H locs) {k0 a : Nat} {j z : Int32} (hi : i = .iaload ∧ k0 = 5 ∨ i = .caload ∧ k0 = 6 ∨ i = .baload ∧ k0 = 7) (d : decode (cod K) pc = .ok (i, 1)) (h : ardI k0 M.1 M.2.1 a j = some z)
    (k : WW p l e R s m args below meth c Q g K n0 H locs (pc + 1, L, .int z :: st, M)) : WW p l e R s m args below meth c Q g K n0 H locs (pc, L, .int j :: .ref a :: st, M) := by
  intro hl ls hls
  have k1 := k hl ls hls
  obtain ⟨hx, hb, hml, hown, hts, hin, ⟨hK, hE⟩, hsz, hfr, hlo⟩ := hX
  obtain ⟨hn, hHs, hP, h60, h61⟩ := hH
  unfold ardI at h
  split at h
  · rename_i ha
    split at h
    · rename_i hc
      obtain ⟨hkd, hp, hj⟩ := hc
      cases h
      have hM : Mad M.1 a := ⟨ha, hp⟩
      have hat := wl_at (g := g) hn hM
      have h5 : 5 ≤ kd a := by rcases hi with ⟨-, q⟩ | ⟨-, q⟩ | ⟨-, q⟩ <;> omega
      have h7 : kd a ≤ 7 := by rcases hi with ⟨-, q⟩ | ⟨-, q⟩ | ⟨-, q⟩ <;> omega
      rw [ent_ar h5 h7] at hat
      have hty := tys_at (g := g) h5 (by omega)
      have hv : arf M.2.1 a j.toNatClampNeg = M.2.1 (vx a j.toNatClampNeg) (ix a j.toNatClampNeg) := if_pos (inb_lt hj)
      rcases hi with ⟨rfl, q⟩ | ⟨rfl, q⟩ | ⟨rfl, q⟩
      · rw [show arT (kd a) = .int by rw [hkd, q]; rfl] at hty
        exact va_iald hx hb hK hP _ _ hat hty hj d (by rw [hv]; exact k1)
      · rw [show arT (kd a) = .char by rw [hkd, q]; rfl] at hty
        exact va_cald hx hb hK hP _ _ hat hty hj d (by rw [hv]; exact k1)
      · rw [show arT (kd a) = .boolean by rw [hkd, q]; rfl] at hty
        exact va_zald hx hb hK hP _ _ hat hty hj d (by rw [hv]; exact k1)
    · cases h
  · rename_i ha
    have hae : cv g (.ref a) = .ref (g.2.1 a) := by show Value.ref (ad g a) = _; rw [ad_ext (by omega)]
    split at h
    · rename_i h1000
      split at h
      · rename_i hc
        obtain ⟨h5, hj⟩ := hc
        cases h
        subst h1000
        rcases hi with ⟨rfl, q⟩ | ⟨rfl, q⟩ | ⟨rfl, q⟩
        · show W p l e R s m args below meth c H locs _ _ Q (F0 m pc ls (.int j :: cv g (.ref 1000) :: st.map (cv g)))
          rw [hae]
          rw [h61] at hj
          refine va_sld hx hb hE.1 hE.2.1 (Nat.not_le.mpr hE.2.2.1) hS hj d ?_
          rw [← h60]
          exact k1
        · omega
        · omega
      · cases h
    · split at h
      · rename_i h4
        split at h
        · rename_i hc
          obtain ⟨h5, hj⟩ := hc
          cases h
          rcases hi with ⟨rfl, q⟩ | ⟨rfl, q⟩ | ⟨rfl, q⟩
          · show W p l e R s m args below meth c H locs _ _ Q (F0 m pc ls (.int j :: cv g (.ref a) :: st.map (cv g)))
            rw [hae]
            exact va_ti hx hb (hE.2.2.2.2.1 a (by omega) h4) hS hj rfl d k1
          · omega
          · omega
        · cases h
      · cases h
theorem snd_aald (hX : FXD p R s m args meth c g K n0) (hH : HV g M H) {a : Nat} {j : Int32} (d : decode (cod K) pc = .ok (.aaload, 1)) (h8 : 8 ≤ kd a) (hM : Mad M.1 a) (hj : inb j (ln a))
    (k : WW p l e R s m args below meth c Q g K n0 H locs (pc + 1, L, va_rf (M.2.2 a j.toNatClampNeg) :: st, M)) : WW p l e R s m args below meth c Q g K n0 H locs (pc, L, .int j :: .ref a :: st, M) := by
  intro hl ls hls
  have k1 := k hl ls hls
  obtain ⟨hx, hb, hml, hown, hts, hin, ⟨hK, hE⟩, hsz, hfr, hlo⟩ := hX
  obtain ⟨hn, hHs, hP, h60, h61⟩ := hH
  have hat := wl_at (g := g) hn hM
  rw [ent_rr h8] at hat
  have h9 := (kd_le (hM.w hn)).1
  have hty := tys_at (g := g) (by omega) h9
  have hv : va_rf (rrf g M.2.2 a j.toNatClampNeg) = cv g (va_rf (M.2.2 a j.toNatClampNeg)) := by
    rw [cv_rf]
    show va_rf (if _ then _ else _) = _
    rw [if_pos (inb_lt hj)]
  have href : (arT (kd a)).isReference = true := by
    rcases (show kd a = 8 ∨ kd a = 9 by omega) with q | q <;> rw [q] <;> rfl
  refine W.aald (v := va_rf (rrf g M.2.2 a j.toNatClampNeg)) (ty := arT (kd a)) hx hb (hP _ _ hat) ((hK.2 _ _ hty).1 (ln a) (fun j => va_rf (rrf g M.2.2 a j))) href (fun q => by cases q) (by show ¬ (j < 0 ∨ (arrV _ _ _).slots.size ≤ _); rw [arrV_size]; exact hj) (by show (arrV _ _ _).slots[_]? = _; rw [arrV_read _ _ (inb_lt hj)]) rfl rfl d ?_
  rw [hv]
  exact k1
theorem snd_alen (hX : FXD p R s m args meth c g K n0) (hH : HV g M H) (hS : va_S (fun q => g.1 ≤ q) s.heap H locs) {a : Nat} {z : Int32} (d : decode (cod K) pc = .ok (.arraylength, 1)) (h : aln M.1 M.2.1 a = some z)
    (k : WW p l e R s m args below meth c Q g K n0 H locs (pc + 1, L, .int z :: st, M)) : WW p l e R s m args below meth c Q g K n0 H locs (pc, L, .ref a :: st, M) := by
  intro hl ls hls
  have k1 := k hl ls hls
  obtain ⟨hx, hb, hml, hown, hts, hin, ⟨hK, hE⟩, hsz, hfr, hlo⟩ := hX
  obtain ⟨hn, hHs, hP, h60, h61⟩ := hH
  unfold aln at h
  split at h
  · rename_i ha
    split at h
    · rename_i hc
      cases h
      have hM : Mad M.1 a := ⟨ha, hc.2⟩
      have hat := wl_at (g := g) hn hM
      have h9 := (kd_le (hM.w hn)).1
      have hty := tys_at (g := g) hc.1 h9
      by_cases h7 : kd a ≤ 7
      · rw [ent_ar hc.1 h7] at hat
        exact va_alen hx hb hK hP _ _ hat hty rfl d k1
      · rw [ent_rr (by omega)] at hat
        exact va_alen hx hb hK hP _ _ hat hty rfl d k1
    · cases h
  · rename_i ha
    have hae : cv g (.ref a) = .ref (g.2.1 a) := by show Value.ref (ad g a) = _; rw [ad_ext (by omega)]
    show W p l e R s m args below meth c H locs _ _ Q (F0 m pc ls (cv g (.ref a) :: st.map (cv g)))
    rw [hae]
    split at h
    · rename_i h1000
      subst h1000
      cases h
      refine va_slen hx hb hE.1 hE.2.1 (Nat.not_le.mpr hE.2.2.1) hS d ?_
      rw [← h61]
      exact k1
    · cases h
/-- one cell is written -/
theorem HV_put {n : Nat} {I I' : Nat → Nat → Int32} {R0 R' : Nat → Nat → Option Nat} {a : Nat} {H1 : Heap} (hH : HV g (n, I, R0) H) (ha : Mad n a) (hI : ∀ v x, (ow2 v x).1 ≠ a → I' v x = I v x) (hR : ∀ b k, b ≠ a → R' b k = R0 b k) (h60 : I' 60 = I 60) (h61 : I' 61 0 = I 61 0)
    (e1 : va_at g.2.2.1 vwCl (ad g a, ent g I' R' a) H1) (z : H1.size = H.size) (oq : ∀ q : Nat, q ≠ ad g a → H1[q]? = H[q]?) : HV g (n, I', R') H1 := by
  obtain ⟨hn, hs, hP, h1, h2⟩ := hH
  refine ⟨hn, z.trans hs, ?_, h60.trans h1, h61.trans h2⟩
  rw [wl_set hn ha hI hR]
  exact hP.set wl_D (wl_at (M := (n, I, R0)) hn ha) e1 oq
theorem ad_ge {a : Nat} (h : a < 1000) : g.1 ≤ ad g a := by rw [ad_own h]; exact Nat.le_add_right _ _
theorem cell_i {k n j : Nat} {f : Nat → Int32} {x : Int32} {cA : ClassId} : (arrV cA n (fun j => .int (f j))).setSlot j (.int x) = vp_cell cA (n, .inl (upd f j x)) := by
  rw [vp_cell_i, arrV_store]
  congr 1
  funext q
  by_cases hq : q = j
  · subst hq
    simp [updV, upd]
  · simp [updV, upd, hq]
theorem snd_ast (hX : FXD p R s m args meth c g K n0) (hH : HV g M H) (hS : va_S (fun q => g.1 ≤ q) s.heap H locs) {k0 a : Nat} {j x y : Int32} (hi : i = .iastore ∧ k0 = 5 ∧ y = x ∨ i = .castore ∧ k0 = 6 ∧ y = vp_nar .char x ∨ i = .bastore ∧ k0 = 7 ∧ y = vp_nar .boolean x) (d : decode (cod K) pc = .ok (i, 1)) (hkd : kd a = k0) (hM : Mad M.1 a) (hj : inb j (ln a))
    (k : ∀ (H1 : Heap) (locs1 : List Loc), HV g (M.1, wI M.2.1 a j.toNatClampNeg y, M.2.2) H1 → va_S (fun q => g.1 ≤ q) s.heap H1 locs1 → WW p l e R s m args below meth c Q g K n0 H1 locs1 (pc + 1, L, st, (M.1, wI M.2.1 a j.toNatClampNeg y, M.2.2))) : WW p l e R s m args below meth c Q g K n0 H locs (pc, L, .int x :: .int j :: .ref a :: st, M) := by
  intro hl ls hls
  obtain ⟨hx, hb, hml, hown, hts, hin, ⟨hK, hE⟩, hsz, hfr, hlo⟩ := hX
  have hn := hH.1
  have hP := hH.2.2.1
  have hat := wl_at (g := g) hn hM
  have hM2 := hM.w hn
  have h5 : 5 ≤ kd a := by rcases hi with ⟨-, q, -⟩ | ⟨-, q, -⟩ | ⟨-, q, -⟩ <;> omega
  have h7 : kd a ≤ 7 := by rcases hi with ⟨-, q, -⟩ | ⟨-, q, -⟩ | ⟨-, q, -⟩ <;> omega
  rw [ent_ar h5 h7] at hat
  have hty := tys_at (g := g) h5 (by omega)
  have hcell : H[ad g a]? = some (vp_cell (g.2.2.2.1 (kd a)) (ln a, .inl (arf M.2.1 a))) := hP _ _ hat
  have hlt := inb_lt hj
  have done : ∀ (H1 : Heap) (q0 : Nat), H1[ad g a]? = some ((arrV (g.2.2.2.1 (kd a)) (ln a) (fun j => .int (arf M.2.1 a j))).setSlot j.toNatClampNeg (.int y)) → H1.size = H.size → (∀ q : Nat, q ≠ ad g a → H1[q]? = H[q]?) → W p l e R s m args below meth c H1 (locs ++ [⟨ad g a, q0⟩]) (M.1 - n0) (sl M.1 - sl n0) Q (F0 m (pc + 1) ls (st.map (cv g))) := by
    intro H1 q0 e1 z oq
    refine k H1 _ (HV_put (I := M.2.1) (R0 := M.2.2) hH hM (fun v x0 ho => wI_ne hM2 h5 h7 hlt ho) (fun _ _ _ => rfl) ?_ ?_ ?_ z oq) (hS.put z oq (ad_ge hM.1)) hl ls hls
    · exact if_neg (vx_ne hM2 h5 h7 hlt (Or.inl rfl))
    · show wI M.2.1 a j.toNatClampNeg y 61 0 = M.2.1 61 0
      unfold wI
      show up M.2.1 (vx a j.toNatClampNeg) _ 61 0 = _
      unfold up
      rw [if_neg (vx_ne hM2 h5 h7 hlt (Or.inr rfl))]
    · rw [ent_ar h5 h7, arf_wI hM2 h5 h7 hlt]
      show H1[ad g a]? = some (vp_cell _ _)
      rw [e1, cell_i (k := 0)]
  have hin2 : ¬ (j < 0 ∨ (arrV (g.2.2.2.1 (kd a)) (ln a) (fun j => .int (arf M.2.1 a j))).slots.size ≤ j.toNatClampNeg) := by rw [arrV_size]; exact hj
  rcases hi with ⟨rfl, q, rfl⟩ | ⟨rfl, q, rfl⟩ | ⟨rfl, q, rfl⟩
  · rw [show arT (kd a) = .int by rw [hkd, q]; rfl] at hty
    exact W.iast hx hb hcell ((hK.2 _ _ hty).1 (ln a) (fun j => .int (arf M.2.1 a j))) (fun q => by cases q) hin2 rfl rfl d (fun H1 e1 z oq => done H1 _ e1 z oq)
  · rw [show arT (kd a) = .char by rw [hkd, q]; rfl] at hty
    exact W.cast hx hb hcell ((hK.2 _ _ hty).1 (ln a) (fun j => .int (arf M.2.1 a j))) (fun q => by cases q) hin2 rfl rfl d (fun H1 e1 z oq => done H1 _ e1 z oq)
  · rw [show arT (kd a) = .boolean by rw [hkd, q]; rfl] at hty
    exact W.zast hx hb hcell ((hK.2 _ _ hty).1 (ln a) (fun j => .int (arf M.2.1 a j))) (fun q => by cases q) hin2 rfl rfl d (fun H1 e1 z oq => done H1 _ e1 z oq)
theorem wR_ne {R0 : Nat → Nat → Option Nat} {a k b j : Nat} {v : Option Nat} (h : b ≠ a) : wR R0 a k v b j = R0 b j := by
  unfold wR up
  rw [if_neg h]
theorem rrf_wR {R0 : Nat → Nat → Option Nat} {a j : Nat} {v : Option Nat} (hj : j < ln a) : rrf g (wR R0 a j v) a = va_up (rrf g R0 a) j (v.map (ad g)) := by
  funext q
  show (if q < ln a then (wR R0 a j v a q).map (ad g) else none) = (if q = j then v.map (ad g) else if q < ln a then (R0 a q).map (ad g) else none)
  unfold wR up
  rw [if_pos rfl]
  by_cases e : q = j
  · subst e
    rw [if_pos hj, if_pos rfl, if_pos rfl]
  · rw [if_neg e, if_neg e]
theorem snd_aast (hX : FXD p R s m args meth c g K n0) (hH : HV g M H) (hS : va_S (fun q => g.1 ≤ q) s.heap H locs) {a b : Nat} {j : Int32} (d : decode (cod K) pc = .ok (.aastore, 1)) (hkd : kd a = 8) (hM : Mad M.1 a) (hj : inb j (ln a)) (hkb : kd b = 2) (hMb : Mad M.1 b)
    (k : ∀ (H1 : Heap) (locs1 : List Loc), HV g (M.1, M.2.1, wR M.2.2 a j.toNatClampNeg (some b)) H1 → va_S (fun q => g.1 ≤ q) s.heap H1 locs1 → WW p l e R s m args below meth c Q g K n0 H1 locs1 (pc + 1, L, st, (M.1, M.2.1, wR M.2.2 a j.toNatClampNeg (some b)))) : WW p l e R s m args below meth c Q g K n0 H locs (pc, L, .ref b :: .int j :: .ref a :: st, M) := by
  intro hl ls hls
  obtain ⟨hx, hb, hml, hown, hts, hin, ⟨hK, hE⟩, hsz, hfr, hlo⟩ := hX
  have hn := hH.1
  have hP := hH.2.2.1
  have hat := wl_at (g := g) hn hM
  rw [ent_rr (by omega)] at hat
  have hbt := wl_at (g := g) hn hMb
  rw [ent_ob (by omega), hkb] at hbt
  have hty := tys_at (g := g) (a := a) (by omega) (by omega)
  rw [show arT (kd a) = .object RX1 by rw [hkd]; rfl] at hty
  have hcl : vwCl[2 - 1]? = some (RX1, TX1, 17) := rfl
  have hlt := inb_lt hj
  obtain ⟨r', hr', cellV, g1, g2, g3, -⟩ := hP _ _ hbt
  have hcls := (hK.1 _ _ hcl).2
  obtain ⟨kA, comp, k1, k2, k3, -⟩ := (hK.2 _ _ hty).2
  have hcomp : comp = g.2.2.1.1 (2 - 1) := Option.some.inj (k3.symm.trans hcls.1)
  subst hcomp
  obtain ⟨kC, hkC, -⟩ := hcls.2
  refine W.aast hx hb (hP _ _ hat) (fun q h => by cases h) (fun h => by cases h) k1 k2 rfl hkC ⟨fun q => hj (Or.inl q), by show _ < (arrV _ _ _).slots.size; rw [arrV_size]; exact hlt⟩ g1 (fun q h => by rw [g3] at h; cases h) (by rw [g2]; exact hkC) (by rw [g2]; exact va_assign hcls) rfl rfl d fun H1 e1 z oq => ?_
  refine k H1 _ (HV_put (I := M.2.1) (R0 := M.2.2) hH hM (fun _ _ _ => rfl) (fun _ _ h => wR_ne h) rfl rfl ?_ z oq) (hS.put z oq (ad_ge hM.1)) hl ls hls
  rw [ent_rr (by omega), rrf_wR hlt]
  show H1[ad g a]? = some (vp_cell _ _)
  rw [e1]
  rw [vp_cell_q, vp_cell_q, arrV_store]
  congr 2
  funext q
  by_cases hq : q = j.toNatClampNeg
  · subst hq
    simp [updV, va_up, va_rf]
  · simp [updV, va_up, hq]
end SND3
end
section
theorem gT_0 : GoodIn lw_tbl wsX00 := goodIn_p _ [] rfl (by decide +kernel)
theorem gT_1 : GoodIn lw_tbl wsX10 := goodIn_p _ [] rfl (by decide +kernel)
theorem gT_2 : GoodIn lw_tbl wsX20 := goodIn_p _ [] rfl (by decide +kernel)
def okf (o : Nat) (c : Fi) : Bool := (c.1 == o) &&
  (if c.2.2.1 = 100 then gw c.2.2.2.2.1 (.fieldLink (cn o) c.2.1 "java/lang/String" (if c.2.2.2.1 = 0 then "value" else "coder") (if c.2.2.2.1 = 0 then "[B" else "B")) && decide (c.2.2.2.2.2 = true)
   else match vwCl[c.2.2.1]? with
     | some q => gw c.2.2.2.2.1 (.fieldLink (cn o) c.2.1 (q.2.1 c.2.2.2.1).1 (q.2.1 c.2.2.2.1).2.1 (q.2.1 c.2.2.2.1).2.2.1) && decide (c.2.2.2.2.2 = (q.2.1 c.2.2.2.1).2.2.2) && decide (c.2.2.2.1 < q.2.2) && decide ((q.2.1 c.2.2.2.1).1 = cn c.2.2.1)
     | none => false)
theorem okf_0_0 : ((fldL 0).drop 0 |>.take 10).all (okf 0) = true := by decide +kernel
theorem okf_0 : (fldL 0).all (okf 0) = true := by
  have h : fldL 0 = ((fldL 0).drop 0 |>.take 10) := rfl
  rw [h]
  simp only [List.all_append, okf_0_0, Bool.and_self]
theorem okf_1_0 : ((fldL 1).drop 0 |>.take 10).all (okf 1) = true := by decide +kernel
theorem okf_1_1 : ((fldL 1).drop 10 |>.take 10).all (okf 1) = true := by decide +kernel
theorem okf_1 : (fldL 1).all (okf 1) = true := by
  have h : fldL 1 = ((fldL 1).drop 0 |>.take 10) ++ (((fldL 1).drop 10 |>.take 10)) := rfl
  rw [h]
  simp only [List.all_append, okf_1_0, okf_1_1, Bool.and_self]
theorem okf_2_0 : ((fldL 2).drop 0 |>.take 10).all (okf 2) = true := by decide +kernel
theorem okf_2_1 : ((fldL 2).drop 10 |>.take 10).all (okf 2) = true := by decide +kernel
theorem okf_2_2 : ((fldL 2).drop 20 |>.take 10).all (okf 2) = true := by decide +kernel
theorem okf_2 : (fldL 2).all (okf 2) = true := by
  have h : fldL 2 = ((fldL 2).drop 0 |>.take 10) ++ (((fldL 2).drop 10 |>.take 10) ++ (((fldL 2).drop 20 |>.take 10))) := rfl
  rw [h]
  simp only [List.all_append, okf_2_0, okf_2_1, okf_2_2, Bool.and_self]
theorem fld_ok {o i : Nat} {c : Fi} (h : fld o i = some c) : okf o c = true ∧ c.2.1 = i := by
  unfold fld at h
  have hm := List.mem_of_find?_eq_some h
  have hp := List.find?_some h
  refine ⟨?_, by simpa using hp⟩
  unfold fldL at hm
  split at hm
  · exact List.all_eq_true.mp okf_0 _ hm
  · exact List.all_eq_true.mp okf_1 _ hm
  · exact List.all_eq_true.mp okf_2 _ hm
  · cases hm
theorem cal_ok {o i : Nat} {c : Ci} (h : cal o i = some c) : okc o c = true ∧ c.2.1 = i := by
  unfold cal at h
  have hm := List.mem_of_find?_eq_some h
  have hp := List.find?_some h
  refine ⟨?_, by simpa using hp⟩
  unfold calL at hm
  split at hm
  · exact List.all_eq_true.mp okc_1 _ hm
  · exact List.all_eq_true.mp okc_2 _ hm
  · exact List.all_eq_true.mp okc_4 _ hm
  · cases hm
theorem wk_2_181 : (.constantLong "HandoverDesk" 181 (-1) : Cond) ∈ lw_tbl ∧ goodWord (.constantLong "HandoverDesk" 181 (-1) : Cond) = true := gw_of (i := 325) (by decide +kernel)
theorem wk_2_224 : (.constantFloat "HandoverDesk" 224 (1258291200) : Cond) ∈ lw_tbl ∧ goodWord (.constantFloat "HandoverDesk" 224 (1258291200) : Cond) = true := gw_of (i := 315) (by decide +kernel)
theorem wk_2_225 : (.constant "HandoverDesk" 225 (8388608) : Cond) ∈ lw_tbl ∧ goodWord (.constant "HandoverDesk" 225 (8388608) : Cond) = true := gw_of (i := 316) (by decide +kernel)
theorem wk_2_226 : (.constantDouble "HandoverDesk" 226 (4611686018427387904) : Cond) ∈ lw_tbl ∧ goodWord (.constantDouble "HandoverDesk" 226 (4611686018427387904) : Cond) = true := gw_of (i := 333) (by decide +kernel)
theorem wk_2_228 : (.constantDouble "HandoverDesk" 228 (4841369599423283200) : Cond) ∈ lw_tbl ∧ goodWord (.constantDouble "HandoverDesk" 228 (4841369599423283200) : Cond) = true := gw_of (i := 334) (by decide +kernel)
theorem wk_2_230 : (.constantLong "HandoverDesk" 230 (4503599627370496) : Cond) ∈ lw_tbl ∧ goodWord (.constantLong "HandoverDesk" 230 (4503599627370496) : Cond) = true := gw_of (i := 335) (by decide +kernel)
theorem wk_4_7 : (.constant "HandoverDeskLaw" 7 (2147483647) : Cond) ∈ lw_tbl ∧ goodWord (.constant "HandoverDeskLaw" 7 (2147483647) : Cond) = true := gw_of (i := 346) (by decide +kernel)
theorem wk_4_8 : (.constant "HandoverDeskLaw" 8 (40503) : Cond) ∈ lw_tbl ∧ goodWord (.constant "HandoverDeskLaw" 8 (40503) : Cond) = true := gw_of (i := 342) (by decide +kernel)
theorem wk_6_265 : (.constant "java/lang/Integer" 265 (1431655765) : Cond) ∈ lw_tbl ∧ goodWord (.constant "java/lang/Integer" 265 (1431655765) : Cond) = true := gw_of (i := 243) (by decide +kernel)
theorem wk_6_266 : (.constant "java/lang/Integer" 266 (858993459) : Cond) ∈ lw_tbl ∧ goodWord (.constant "java/lang/Integer" 266 (858993459) : Cond) = true := gw_of (i := 244) (by decide +kernel)
theorem wk_6_267 : (.constant "java/lang/Integer" 267 (252645135) : Cond) ∈ lw_tbl ∧ goodWord (.constant "java/lang/Integer" 267 (252645135) : Cond) = true := gw_of (i := 245) (by decide +kernel)
theorem wa_link : (.methodLink RX1 18 arraycopyName : Cond) ∈ lw_tbl ∧ goodWord (.methodLink RX1 18 arraycopyName : Cond) = true := gw_of (i := 32) (by decide +kernel)
theorem wa_nat : (.native arraycopyName : Cond) ∈ lw_tbl ∧ goodWord (.native arraycopyName : Cond) = true := gw_of (i := 34) (by decide +kernel)
theorem wa_sta : (.static arraycopyName : Cond) ∈ lw_tbl ∧ goodWord (.static arraycopyName : Cond) = true := gw_of (i := 33) (by decide +kernel)
theorem wa_ini : (.initialized "java/lang/System" : Cond) ∈ lw_tbl ∧ goodWord (.initialized "java/lang/System" : Cond) = true := gw_of (i := 12) (by decide +kernel)
theorem wo_0 : (.methodLink "HandoverDesk$Pad" 3 objectInit : Cond) ∈ lw_tbl ∧ goodWord (.methodLink "HandoverDesk$Pad" 3 objectInit : Cond) = true := gw_of (i := 111) (by decide +kernel)
theorem wo_1 : (.methodLink "HandoverDesk$State" 3 objectInit : Cond) ∈ lw_tbl ∧ goodWord (.methodLink "HandoverDesk$State" 3 objectInit : Cond) = true := gw_of (i := 29) (by decide +kernel)
theorem wo_2 : (.methodLink "HandoverDesk" 3 objectInit : Cond) ∈ lw_tbl ∧ goodWord (.methodLink "HandoverDesk" 3 objectInit : Cond) = true := gw_of (i := 21) (by decide +kernel)
theorem wo_inst : (.instanceMethod objectInit : Cond) ∈ lw_tbl ∧ goodWord (.instanceMethod objectInit : Cond) = true := gw_of (i := 22) (by decide +kernel)
theorem wo_code : (.code objectInit ⟨#[0xb1]⟩ 1 none : Cond) ∈ lw_tbl ∧ goodWord (.code objectInit ⟨#[0xb1]⟩ 1 none : Cond) = true := ⟨List.mem_of_getElem? (i := 23) rfl, by decide +kernel⟩
theorem wn_2_9 : (.classLink "HandoverDesk" 9 "HandoverDesk$State" : Cond) ∈ lw_tbl ∧ goodWord (.classLink "HandoverDesk" 9 "HandoverDesk$State" : Cond) = true := gw_of (i := 24) (by decide +kernel)
theorem wn_2_30 : (.classLink "HandoverDesk" 30 "HandoverDesk$Pad" : Cond) ∈ lw_tbl ∧ goodWord (.classLink "HandoverDesk" 30 "HandoverDesk$Pad" : Cond) = true := gw_of (i := 106) (by decide +kernel)
theorem wn_4_10 : (.classLink "HandoverDeskLaw" 10 "HandoverDesk" : Cond) ∈ lw_tbl ∧ goodWord (.classLink "HandoverDeskLaw" 10 "HandoverDesk" : Cond) = true := gw_of (i := 16) (by decide +kernel)
theorem wi_0 : (.instantiable RX0 5 : Cond) ∈ lw_tbl ∧ goodWord (.instantiable RX0 5 : Cond) = true := gw_of (i := 107) (by decide +kernel)
theorem wz_0 : (.initialized RX0 : Cond) ∈ lw_tbl ∧ goodWord (.initialized RX0 : Cond) = true := gw_of (i := 13) (by decide +kernel)
theorem wi_1 : (.instantiable RX1 17 : Cond) ∈ lw_tbl ∧ goodWord (.instantiable RX1 17 : Cond) = true := gw_of (i := 25) (by decide +kernel)
theorem wz_1 : (.initialized RX1 : Cond) ∈ lw_tbl ∧ goodWord (.initialized RX1 : Cond) = true := gw_of (i := 11) (by decide +kernel)
theorem wi_2 : (.instantiable RX2 10 : Cond) ∈ lw_tbl ∧ goodWord (.instantiable RX2 10 : Cond) = true := gw_of (i := 17) (by decide +kernel)
theorem wz_2 : (.initialized RX2 : Cond) ∈ lw_tbl ∧ goodWord (.initialized RX2 : Cond) = true := gw_of (i := 10) (by decide +kernel)
theorem wy_int : (.arrayClass .int : Cond) ∈ lw_tbl ∧ goodWord (.arrayClass .int : Cond) = true := gw_of (i := 104) (by decide +kernel)
theorem wy_char : (.arrayClass .char : Cond) ∈ lw_tbl ∧ goodWord (.arrayClass .char : Cond) = true := gw_of (i := 127) (by decide +kernel)
theorem wy_boolean : (.arrayClass .boolean : Cond) ∈ lw_tbl ∧ goodWord (.arrayClass .boolean : Cond) = true := gw_of (i := 126) (by decide +kernel)
theorem wm_link : (.classLink RX1 30 "[[I" : Cond) ∈ lw_tbl ∧ goodWord (.classLink RX1 30 "[[I" : Cond) = true := gw_of (i := 35) (by decide +kernel)
theorem wq_link : (.classLink RX2 9 RX1 : Cond) ∈ lw_tbl ∧ goodWord (.classLink RX2 9 RX1 : Cond) = true := gw_of (i := 24) (by decide +kernel)
theorem wl_FIRST_SETTING : (.laysStatic "HandoverDesk" "FIRST_SETTING" "[I" : Cond) ∈ lw_tbl := List.mem_of_getElem? (i := 31) (by decide +kernel)
theorem wl_LEAST_SETTING : (.laysStatic "HandoverDesk" "LEAST_SETTING" "[I" : Cond) ∈ lw_tbl := List.mem_of_getElem? (i := 420) (by decide +kernel)
theorem wl_MOST_SETTING : (.laysStatic "HandoverDesk" "MOST_SETTING" "[I" : Cond) ∈ lw_tbl := List.mem_of_getElem? (i := 422) (by decide +kernel)
theorem wzz_desk : (.initialized "HandoverDesk" : Cond) ∈ lw_tbl ∧ goodWord (.initialized "HandoverDesk" : Cond) = true := gw_of (i := 10) (by decide +kernel)
theorem wnm_0 : (.methodLinkNest "HandoverDesk$State" 111 ⟨"HandoverDesk", "isSetting", "(I)Z"⟩ "HandoverDesk" : Cond) ∈ lw_tbl := List.mem_of_getElem? (i := 418) (by decide +kernel)
theorem wnm_1 : (.methodLinkNest "HandoverDesk$State" 81 ⟨"HandoverDesk", "isWorker", "(I)Z"⟩ "HandoverDesk" : Cond) ∈ lw_tbl := List.mem_of_getElem? (i := 186) (by decide +kernel)
theorem wnm_2 : (.methodLinkNest "HandoverDesk$State" 120 ⟨"HandoverDesk", "isPlace", "(I)Z"⟩ "HandoverDesk" : Cond) ∈ lw_tbl := List.mem_of_getElem? (i := 401) (by decide +kernel)
theorem wnf_0 : (.fieldLinkNest "HandoverDesk$State" 15 "HandoverDesk" "FIRST_SETTING" "[I" "HandoverDesk" : Cond) ∈ lw_tbl := List.mem_of_getElem? (i := 30) (by decide +kernel)
theorem wnf_1 : (.fieldLinkNest "HandoverDesk$State" 114 "HandoverDesk" "LEAST_SETTING" "[I" "HandoverDesk" : Cond) ∈ lw_tbl := List.mem_of_getElem? (i := 419) (by decide +kernel)
theorem wnf_2 : (.fieldLinkNest "HandoverDesk$State" 117 "HandoverDesk" "MOST_SETTING" "[I" "HandoverDesk" : Cond) ∈ lw_tbl := List.mem_of_getElem? (i := 421) (by decide +kernel)
theorem wao_i : (.arrayOver (.array .int) : Cond) ∈ lw_tbl := List.mem_of_getElem? (i := 36) (by decide +kernel)
theorem wao_s : (.arrayOver (.object RX1) : Cond) ∈ lw_tbl := List.mem_of_getElem? (i := 105) (by decide +kernel)
theorem cwd_good : ∀ K, K < 171 → goodWord (cwd K) = true := fun K _ => rfl
end
section
theorem pk_bit {m t : Nat} : bt1 (fun k => if 38 ≤ k ∧ k < 48 then nI (m / 2 ^ (k - 38) % 2) else 0) t = if t < 10 then m / 2 ^ t % 2 else 0 := by
  unfold bt1
  show (if (if 38 ≤ 38 + t ∧ 38 + t < 48 then nI (m / 2 ^ (38 + t - 38) % 2) else 0) = 1 then 1 else 0) = _
  by_cases ht : t < 10
  · rw [if_pos (show 38 ≤ 38 + t ∧ 38 + t < 48 by omega), if_pos ht, Nat.add_sub_cancel_left]
    rcases Nat.mod_two_eq_zero_or_one (m / 2 ^ t) with q | q <;> rw [q] <;> decide
  · rw [if_neg (show ¬ (38 ≤ 38 + t ∧ 38 + t < 48) by omega), if_neg ht]
    decide
theorem pk_unpk {V : Nat → Int32} {m : Nat} (hm : m < 1024) : pk (unpk V m) = nI m := by
  have e : pk (unpk V m) = pk (fun k => if 38 ≤ k ∧ k < 48 then nI (m / 2 ^ (k - 38) % 2) else 0) := by
    refine pk_congr (fun t ht => ?_)
    show (if _ then _ else _) = (if _ then _ else _)
    rw [if_pos (show 38 ≤ 38 + t ∧ 38 + t < 48 by omega), if_pos (show 38 ≤ 38 + t ∧ 38 + t < 48 by omega)]
  rw [e]
  unfold pk
  congr 1
  unfold pkN
  simp only [pk_bit]
  simp only [if_pos (show (0 : Nat) < 10 by decide), if_pos (show (1 : Nat) < 10 by decide), if_pos (show (2 : Nat) < 10 by decide), if_pos (show (3 : Nat) < 10 by decide), if_pos (show (4 : Nat) < 10 by decide), if_pos (show (5 : Nat) < 10 by decide), if_pos (show (6 : Nat) < 10 by decide), if_pos (show (7 : Nat) < 10 by decide), if_pos (show (8 : Nat) < 10 by decide), if_pos (show (9 : Nat) < 10 by decide)]
  omega
theorem nI_of_nn {x : Int32} (h : ¬ x < 0) : x = nI x.toNatClampNeg := by
  obtain ⟨j, hj, rfl⟩ := nI_of h
  rw [nI_clamp hj]
/-- the numbers change at one field's place alone -/
theorem obf_set {g : Gl} {I I' : Nat → Nat → Int32} {R R' : Nat → Nat → Option Nat} {a k : Nat} {v : Value} (h : Mad 202 a) (h4 : kd a ≤ 4) (hk : k < ln a) (hI : ∀ w x, ow2 w x ≠ (a, k) → I' w x = I w x) (hR : ∀ j, j ≠ k → R' a j = R a j) (hv : fv I' R' a k = v) : obf g I' R' a = (obf g I R a).set k (cv g v) := by
  apply List.ext_getElem?
  intro j
  have hlen : (obf g I R a).length = ln a := by simp [obf]
  by_cases hj : j < ln a
  · by_cases e : j = k
    · subst e
      rw [List.getElem?_set_self (by rw [hlen]; exact hj)]
      unfold obf
      rw [List.getElem?_map, List.getElem?_range hj, ← hv]
      rfl
    · rw [List.getElem?_set_ne (Ne.symm e)]
      unfold obf
      rw [List.getElem?_map, List.getElem?_map, List.getElem?_range hj]
      show some (cv g (fv I' R' a j)) = some (cv g (fv I R a j))
      rw [fv_congr h h4 hj (fun w x q1 q2 => hI w x (fun z => e (by rw [← q2, z]))) (hR j e)]
  · rw [List.getElem?_eq_none (by simp [obf]; omega), List.getElem?_eq_none (by rw [List.length_set, hlen]; omega)]
theorem vw_at {a : Nat} (h : Mad 202 a) (h4 : kd a ≤ 4) : ∃ q : vw_C, vwCl[kd a - 1]? = some q ∧ q.2.2 = ln a ∧ q.1 = cn (kd a - 1) := by
  have h1 := adr_ok h.2
  rw [adr_pos h.1 h.2] at h1
  have h2 := h1.2.2.2.2 h4
  rw [h2.2]
  have h3 := h1.2.2.1
  have h5 := h2.1
  generalize kd a = k at h4 h3 h5
  rcases (show k = 1 ∨ k = 2 ∨ k = 3 by omega) with rfl | rfl | rfl
  · exact ⟨_, rfl, rfl, rfl⟩
  · exact ⟨_, rfl, rfl, rfl⟩
  · exact ⟨_, rfl, rfl, rfl⟩
/-- a class of the table: its words, its fields' types, its names apart -/
theorem vw_ok {ci : Nat} {q : vw_C} (h : vwCl[ci]? = some q) : GoodIn lw_tbl (u_ws q.1 q.2.1 q.2.2) ∧ (∃ ty : Nat → FieldType, ∀ k, k < q.2.2 → parseFieldDescriptor (q.2.1 k).2.2.1 = some (ty k)) ∧ (∀ a, a < q.2.2 → ∀ b, b < q.2.2 → a ≠ b → (q.2.1 a).2.1 ≠ (q.2.1 b).2.1) := by
  match ci, h with
  | 0, h => cases h; exact ⟨gT_0, ⟨_, tyX0_ok⟩, nmX0⟩
  | 1, h => cases h; exact ⟨gT_1, ⟨_, tyX1_ok⟩, nmX1⟩
  | 2, h => cases h; exact ⟨gT_2, ⟨_, tyX2_ok⟩, nmX2⟩
  | k + 3, h => simp [vwCl] at h
/-- what a field of each kind may hold -/
def fty (ci k : Nat) (v : Value) : Prop := ∃ (q : vw_C) (ty : FieldType), vwCl[ci]? = some q ∧ parseFieldDescriptor (q.2.1 k).2.2.1 = some ty ∧ narrow ty v = v ∧ fits ty v = true
def chkT (ci : Nat) : Bool := match vwCl[ci]? with
  | some q => (List.range q.2.2).all (fun k => match parseFieldDescriptor (q.2.1 k).2.2.1 with
    | some ty => (match fk (ci + 1) k with
      | 0 => ty.isReference
      | 3 => decide (ty = .char)
      | _ => decide (ty = .int))
    | none => false)
  | none => false
theorem chkT_ok : (List.range 3).all chkT = true := by decide +kernel
theorem fty_of {ci k : Nat} {q : vw_C} {v : Value} (hq : vwCl[ci]? = some q) (hc : ci < 3) (hk : k < q.2.2) (hv : (fk (ci + 1) k = 0 ∧ ∃ a, v = .ref a) ∨ (fk (ci + 1) k = 3 ∧ narrow .char v = v ∧ fits .char v = true) ∨ (fk (ci + 1) k ≠ 0 ∧ fk (ci + 1) k ≠ 3 ∧ ∃ x, v = .int x)) : fty ci k v := by
  have h1 := List.all_eq_true.mp chkT_ok ci (List.mem_range.mpr hc)
  unfold chkT at h1
  rw [hq] at h1
  have h2 := List.all_eq_true.mp h1 k (List.mem_range.mpr hk)
  cases hp : parseFieldDescriptor (q.2.1 k).2.2.1 with
  | none => rw [hp] at h2; cases h2
  | some ty =>
    rw [hp] at h2
    refine ⟨q, ty, hq, hp, ?_⟩
    rcases hv with ⟨h0, a, rfl⟩ | ⟨h3, hn, hf⟩ | ⟨h0, h3, x, rfl⟩
    · rw [h0] at h2
      have h3 : ty.isReference = true := h2
      cases ty <;> first | (cases h3; done) | exact ⟨rfl, rfl⟩
    · rw [h3] at h2
      have h4 : ty = .char := of_decide_eq_true h2
      subst h4
      exact ⟨hn, hf⟩
    · have h4 : ty = .int := by
        revert h2
        generalize fk (ci + 1) k = z at h0 h3 ⊢
        intro h2
        match z, h0, h3, h2 with
        | 0, h0, _, _ => exact absurd rfl h0
        | 3, _, h3, _ => exact absurd rfl h3
        | 1, _, _, h2 => exact of_decide_eq_true h2
        | 2, _, _, h2 => exact of_decide_eq_true h2
        | z + 4, _, _, h2 => exact of_decide_eq_true h2
      subst h4
      exact ⟨rfl, rfl⟩
section SND4
variable {p : Program} {l : Launch} {e : Env} {R : Room} {s : State} {m : MethodId} {args : Array Value} {below : List Frame} {meth : Method} {c : Code} {Q : State → Prop} {g : Gl} {K n0 : Nat}
variable {i : Instr} {len pc : Nat} {L : Lo} {st : List Value} {M : Mm} {H : Heap} {locs : List Loc}
/-- a field is written: the cell as it is then, the heap's size, all else as it was -/
theorem put_core {cc : ByteArray} {D : va_G} {cl : List vw_C} {tys : List (ClassId × FieldType)} {ws : va_W} {a : Nat} {ls : Array Slot} {rest : List Value} {cells slots : Nat} (hexec : p.tables.exec = Jvm.exec) (hb : c.code = cc) {own ref C : String} {T : u_T} {N ci index : Nat} {Ts : List Cond} (hts : ∀ w ∈ Ts, w.before args s = true) (hin : ∀ w ∈ u_ws C T N, w ∈ Ts) (ty0 : Nat → FieldType) (hty : ∀ k, k < N → parseFieldDescriptor (T k).2.2.1 = some (ty0 k)) (hnm : ∀ a, a < N → ∀ b, b < N → a ≠ b → (T a).2.1 ≠ (T b).2.1) (hown : s.vm.findClass own = some m.cls) (hK : va_K D cl tys s) (hP : va_P D cl ws H) (q0 : Nat) {fs : List Value} (he : ws[q0]? = some (a, .inr (ci, fs))) (hc : cl[ci]? = some (C, T, N)) (k : Nat) (hk : k < N) (hlink : (Cond.fieldLink own index ref (T k).2.1 (T k).2.2.1).before args s = true) (hsame : ∀ x, s.fieldFound? (T k).1 (T k).2.1 (T k).2.2.1 = some x → s.fieldFound? ref (T k).2.1 (T k).2.2.1 = some x) (hfin : (T k).2.2.2 = false ∨ (meth.name = "<init>" ∧ (T k).1 = own)) {ty : FieldType} {v : Value} (hd : parseFieldDescriptor (T k).2.2.1 = some ty) (hn : narrow ty v = v) (hfit : fits ty v = true) (hl : k < fs.length)
    (hdg : decode cc pc = .ok (.putfield index, 3)) (kk : ∀ (H1 : Heap) (q1 : Nat), va_at D cl (a, .inr (ci, fs.set k v)) H1 → H1.size = H.size → (∀ q : Nat, q ≠ a → H1[q]? = H[q]?) → W p l e R s m args below meth c H1 (locs ++ [⟨a, q1⟩]) cells slots Q (F0 m (pc + 3) ls rest)) : W p l e R s m args below meth c H locs cells slots Q (F0 m pc ls (v :: .ref a :: rest)) := by
  have hap := va_apart (own := own) hts hin ty0 hty hnm hK hc
  obtain ⟨r, h1, cell, q1, q2, q3, q4⟩ := hP q0 _ he
  have hr : r = (C, T, N) := Option.some.inj (h1.symm.trans hc)
  subst hr
  obtain ⟨hS, hfc, kC, hkC, hkind⟩ := hK.1 ci _ hc
  obtain ⟨cf, kf, fi, f, hi, hsl⟩ := hS k hk
  have hlay := hts _ (hin _ (u_in_lay hk))
  unfold u_lay at hlay
  have hst := (u_facts hfc hkC (u_lays hts hin hk) hi).1
  by_cases hf : (T k).2.2.2 = true
  · rw [if_pos hf] at hlay
    obtain ⟨hin2, hdecl⟩ : meth.name = "<init>" ∧ (T k).1 = own := by
      rcases hfin with q | q
      · rw [q] at hf; cases hf
      · exact q
    have hcf : m.cls = cf := by
      obtain ⟨_, _, c', _, _, _, -, -, hf', -, -, -, hown2, -⟩ := Cond.laysFinal_spec hlay
      have e1 : c' = cf := by have := hi.symm.trans hf'; simp at this; exact this.1.symm
      rw [hdecl] at hown2
      rw [← e1]; exact Option.some.inj (hown.symm.trans hown2)
    have h6 := u_fits hfc hkC hkind (Or.inr hlay) hi hd hn hfit
    refine W.putFinK hexec hb hown hlink (hsame _ hi) hst hcf hin2 (by rw [q2]; exact h6) q1 q3 (by rw [hsl]; exact k2_hasslot (q4 k hk)) rfl rfl hdg fun H' e1 e2 e3 => ?_
    rw [hsl] at e1 ⊢
    exact kk H' _ ⟨_, hc, t_OB.to (V := updV (vp_V fs) k v) ⟨_, e1, q2, q3, t_set q4 hap hk v⟩ (fun j _ => vp_updV_set hl v j)⟩ e2 e3
  · rw [if_neg hf] at hlay
    have h6 := u_store hfc hkC hkind hlay hi hd hn hfit
    refine W.putK hexec hb (f := f) ⟨hown, hlink, ⟨_, _, _, hsame _ hi⟩, hst⟩ (by rw [q2]; exact h6) q1 q3 (by rw [hsl]; exact k2_hasslot (q4 k hk)) rfl rfl hdg fun H' e1 e2 e3 => ?_
    rw [hsl] at e1 ⊢
    exact kk H' _ ⟨_, hc, t_OB.to (V := updV (vp_V fs) k v) ⟨_, e1, q2, q3, t_set q4 hap hk v⟩ (fun j _ => vp_updV_set hl v j)⟩ e2 e3
theorem snd_getf (hX : FXD p R s m args meth c g K n0) (hH : HV g M H) (hS : va_S (fun q => g.1 ≤ q) s.heap H locs) {x a : Nat} {z : Value} {f : Fi} (d : decode (cod K) pc = .ok (.getfield x, 3)) (hf : fld (ow K) x = some f) (h : gfI M.1 M.2.1 M.2.2 f.2.2.1 f.2.2.2.1 a = some z)
    (k : WW p l e R s m args below meth c Q g K n0 H locs (pc + 3, L, z :: st, M)) : WW p l e R s m args below meth c Q g K n0 H locs (pc, L, .ref a :: st, M) := by
  intro hl ls hls
  have k1 := k hl ls hls
  obtain ⟨hx, hb, hml, hown, hts, hin, ⟨hK, hE⟩, hsz, hfr, hlo⟩ := hX
  obtain ⟨hn, hHs, hP, h60, h61⟩ := hH
  obtain ⟨hok, hix⟩ := fld_ok hf
  unfold okf at hok
  rw [Bool.and_eq_true] at hok
  have hok := hok.2
  unfold gfI at h
  by_cases h100 : f.2.2.1 = 100
  · rw [if_pos h100] at h
    cases h
  · rw [if_neg h100] at hok h
    split at h
    · rename_i hc
      obtain ⟨hkd, ha, hp, hk⟩ := hc
      cases h
      have hM : Mad M.1 a := ⟨ha, hp⟩
      have hM2 := hM.w hn
      have h4 : kd a ≤ 4 := by
        cases hq : vwCl[f.2.2.1]? with
        | none => rw [hq] at hok; cases hok
        | some q =>
          have : f.2.2.1 < 3 := (List.getElem?_eq_some_iff.mp hq).1
          omega
      obtain ⟨q, hq, hqn, hqc⟩ := vw_at hM2 h4
      rw [show f.2.2.1 = kd a - 1 by omega, hq] at hok
      simp only [Bool.and_eq_true, decide_eq_true_eq] at hok
      obtain ⟨⟨⟨hgw, hfin⟩, hkn⟩, hdc⟩ := hok
      obtain ⟨hw, hg⟩ := gw_of hgw
      have hlink := hts _ hw hg
      rw [hix] at hlink
      obtain ⟨hG, ⟨ty, hty⟩, hnm⟩ := vw_ok hq
      have hat := wl_at (g := g) hn hM
      rw [ent_ob h4] at hat
      obtain ⟨C, T, N⟩ := q
      exact va_get hx hb (Ts := u_ws C T N) (fun w h => hts w (hG w h).1 (by
        rcases (hG w h).2 with q | ⟨t, rfl⟩
        · cases w <;> first | exact q | rfl
        · rfl)) (fun _ h => h) hown hK hP _ hat hq _ hkn hlink (fun _ q => q) (v := cv g (fv M.2.1 M.2.2 a f.2.2.2.1)) (by unfold obf; rw [List.getElem?_map, List.getElem?_range hk]; rfl) d k1
    · cases h
theorem snd_putf (hX : FXD p R s m args meth c g K n0) (hH : HV g M H) (hS : va_S (fun q => g.1 ≤ q) s.heap H locs) {x a : Nat} {v : Value} {z : (Nat → Nat → Int32) × (Nat → Nat → Option Nat)} {f : Fi} (d : decode (cod K) pc = .ok (.putfield x, 3)) (hf : fld (ow K) x = some f) (hfi : f.2.2.1 = ow K ∧ ((nm K).name = "<init>" ∨ f.2.2.2.2.2 = false) ∨ f.2.2.2.2.2 = false) (h : pfI M.1 M.2.1 M.2.2 f.2.2.1 f.2.2.2.1 a v = some z)
    (k : ∀ (H1 : Heap) (locs1 : List Loc), HV g (M.1, z.1, z.2) H1 → va_S (fun q => g.1 ≤ q) s.heap H1 locs1 → WW p l e R s m args below meth c Q g K n0 H1 locs1 (pc + 3, L, st, (M.1, z.1, z.2))) : WW p l e R s m args below meth c Q g K n0 H locs (pc, L, v :: .ref a :: st, M) := by
  intro hl ls hls
  obtain ⟨hx, hb, hml, hown, hts, hin, ⟨hK, hE⟩, hsz, hfr, hlo⟩ := hX
  have hn := hH.1
  have hP := hH.2.2.1
  obtain ⟨hok, hix⟩ := fld_ok hf
  unfold okf at hok
  rw [Bool.and_eq_true] at hok
  have hok := hok.2
  unfold pfI at h
  split at h
  · rename_i hc
    obtain ⟨hkd, ha, hp, hk, h3⟩ := hc
    rw [if_neg (by omega)] at hok
    have hM : Mad M.1 a := ⟨ha, hp⟩
    have hM2 := hM.w hn
    have h4 : kd a ≤ 4 := by omega
    obtain ⟨q, hq, hqn, hqc⟩ := vw_at hM2 h4
    have hci : f.2.2.1 = kd a - 1 := by omega
    rw [hci, hq] at hok
    simp only [Bool.and_eq_true, decide_eq_true_eq] at hok
    obtain ⟨⟨⟨hgw, hfin⟩, hkn⟩, hdc⟩ := hok
    obtain ⟨hw, hg⟩ := gw_of hgw
    have hlink := hts _ hw hg
    rw [hix] at hlink
    obtain ⟨hG, ⟨ty0, hty⟩, hnm⟩ := vw_ok hq
    have hat := wl_at (g := g) hn hM
    rw [ent_ob h4] at hat
    obtain ⟨C, T, N⟩ := q
    have hlen : f.2.2.2.1 < (obf g M.2.1 M.2.2 a).length := by simp [obf]; exact hk
    have go : ∀ (hft : fty (kd a - 1) f.2.2.2.1 (cv g v)) (hI : ∀ w y, ow2 w y ≠ (a, f.2.2.2.1) → z.1 w y = M.2.1 w y) (hR : ∀ b j, ¬ (b = a ∧ j = f.2.2.2.1) → z.2 b j = M.2.2 b j) (hv : fv z.1 z.2 a f.2.2.2.1 = v), W p l e R s m args below meth c H locs (M.1 - n0) (sl M.1 - sl n0) Q (F0 m pc ls (cv g v :: cv g (.ref a) :: st.map (cv g))) := by
      intro hft hI hR hv
      obtain ⟨q', ty, hq', hd', hnr, hfit⟩ := hft
      cases hq.symm.trans hq'
      refine put_core hx hb (Ts := u_ws C T N) (fun w h => hts w (hG w h).1 (by
        rcases (hG w h).2 with q | ⟨t, rfl⟩
        · cases w <;> first | exact q | rfl
        · rfl)) (fun _ h => h) ty0 hty hnm hown hK hP _ hat hq f.2.2.2.1 hkn hlink (fun _ q => q) ?_ hd' hnr hfit hlen d (fun H1 q1 e1 z1 oq => ?_)
      · rcases hfi with ⟨h1, h2 | h2⟩ | h2
        · by_cases hb2 : (T f.2.2.2.1).2.2.2 = false
          · exact Or.inl hb2
          · refine Or.inr ⟨hin h2, ?_⟩
            show (T f.2.2.2.1).1 = cn (ow K)
            rw [hdc, ← hci, h1]
        · exact Or.inl (by rw [← h2]; exact hfin.symm)
        · exact Or.inl (by rw [← h2]; exact hfin.symm)
      · have hne : ∀ y, y = 60 ∨ y = 61 → ∀ t, ow2 y t ≠ (a, f.2.2.2.1) := by
          intro y hy t e9
          have h9 : a = 999 := by rcases hy with rfl | rfl <;> exact (congrArg Prod.fst e9).symm
          exact Mad_ne hM2 h9
        refine k H1 _ (HV_put (I := M.2.1) (R0 := M.2.2) hH hM (fun w y ho => hI w y (fun e9 => ho (by rw [e9]))) (fun b j hb => hR b j (fun e9 => hb e9.1)) (funext fun t => hI _ _ (hne 60 (Or.inl rfl) t)) (hI _ _ (hne 61 (Or.inr rfl) 0)) ?_ z1 oq) (hS.put z1 oq (ad_ge ha)) hl ls hls
        rw [ent_ob h4, obf_set hM2 h4 hk hI (fun j hj => hR a j (fun e9 => hj e9.2)) hv]
        exact e1
    have hkl : kd a - 1 < 3 := (List.getElem?_eq_some_iff.mp hq).1
    have hup : ∀ {x0 : Int32} (h0 : fk (kd a) f.2.2.2.1 ≠ 0) (h2 : fk (kd a) f.2.2.2.1 ≠ 2) (w y : Nat), ow2 w y ≠ (a, f.2.2.2.1) → up M.2.1 (vec a) (up (M.2.1 (vec a)) (fo (kd a) f.2.2.2.1) x0) w y = M.2.1 w y := by
      intro x0 h0 h2 w y ho
      unfold up
      by_cases hw : w = vec a
      · subst hw
        rw [if_pos rfl]
        by_cases hy : y = fo (kd a) f.2.2.2.1
        · subst hy
          exact absurd (own_obj hM2 h4 hk h0 h2) ho
        · rw [if_neg hy]
      · rw [if_neg hw]
    rw [show f.2.2.1 + 1 = kd a by omega] at h
    split at h
    · rename_i b h0
      split at h
      · rename_i hb2
        cases h
        refine go (fty_of hq (by omega) hkn (Or.inl ⟨by rw [show kd a - 1 + 1 = kd a by omega]; exact h0, ad g b, rfl⟩)) (fun _ _ _ => rfl) (fun b' j hbj => ?_) ?_
        · unfold wR up
          dsimp only
          by_cases e1 : b' = a
          · subst e1
            rw [if_pos rfl, if_neg (fun q => hbj ⟨rfl, q⟩)]
          · rw [if_neg e1]
        · unfold fv
          rw [h0]
          show va_rf (wR M.2.2 a f.2.2.2.1 (some b) a f.2.2.2.1) = _
          unfold wR up
          rw [if_pos rfl, if_pos rfl]
          rfl
      · cases h
    · rename_i x0 h0
      cases h
      refine go (fty_of hq (by omega) hkn (Or.inr (Or.inr ⟨by rw [show kd a - 1 + 1 = kd a by omega, h0]; decide, by rw [show kd a - 1 + 1 = kd a by omega, h0]; decide, x0, rfl⟩))) (hup (by rw [h0]; decide) (by rw [h0]; decide)) (fun _ _ _ => rfl) ?_
      unfold fv
      rw [h0]
      show Value.int (up M.2.1 (vec a) _ (vec a) _) = _
      unfold up
      rw [if_pos rfl, if_pos rfl]
    · rename_i x0 h0
      split at h
      · rename_i hnc
        cases h
        refine go (fty_of hq (by omega) hkn (Or.inr (Or.inl ⟨by rw [show kd a - 1 + 1 = kd a by omega]; exact h0, hnc.1, hnc.2⟩))) (hup (by rw [h0]; decide) (by rw [h0]; decide)) (fun _ _ _ => rfl) ?_
        unfold fv
        rw [h0]
        show Value.int (up M.2.1 (vec a) _ (vec a) _) = _
        unfold up
        rw [if_pos rfl, if_pos rfl]
      · cases h
    · rename_i x0 h0
      split at h
      · rename_i hx0
        cases h
        have h9 := own_pk hM2 h4 hk h0 (t := 0) (by omega)
        refine go (fty_of hq (by omega) hkn (Or.inr (Or.inr ⟨by rw [show kd a - 1 + 1 = kd a by omega, h0]; decide, by rw [show kd a - 1 + 1 = kd a by omega, h0]; decide, x0, rfl⟩))) (fun w y ho => ?_) (fun _ _ _ => rfl) ?_
        · unfold up
          dsimp only
          by_cases hw : w = vec a
          · subst hw
            rw [if_pos rfl]
            show (if 38 ≤ y ∧ y < 48 then _ else _) = _
            by_cases hy : 38 ≤ y ∧ y < 48
            · have h10 := own_pk hM2 h4 hk h0 (t := y - 38) (by omega)
              rw [show 38 + (y - 38) = y by omega, ← h10.2] at h10
              exact absurd h10.1 ho
            · rw [if_neg hy]
          · rw [if_neg hw]
        · unfold fv
          rw [h0]
          show Value.int (pk (up M.2.1 (vec a) _ (vec a))) = _
          unfold up
          rw [if_pos rfl, pk_unpk hx0.2, ← nI_of_nn hx0.1]
      · cases h
    · cases h
  · cases h
end SND4
end
section
theorem bnI_ne {I : Nat → Nat → Int32} {a v x : Nat} (h : Mad 202 a) (ho : (ow2 v x).1 ≠ a) : bnI I a v x = I v x := by
  unfold bnI
  split
  · rename_i h4
    show (if _ then _ else _) = _
    rw [if_neg]
    rintro ⟨rfl, hx⟩
    rw [Bool.or_eq_true] at hx
    rcases hx with hx | hx
    · obtain ⟨k, hk, hx⟩ := List.any_eq_true.mp hx
      simp only [Bool.and_eq_true, Bool.or_eq_true, beq_iff_eq] at hx
      obtain ⟨hf, rfl⟩ := hx
      exact ho (by rw [own_obj h h4 (List.mem_range.mp hk) (by omega) (by omega)])
    · simp only [Bool.and_eq_true, beq_iff_eq, decide_eq_true_eq] at hx
      obtain ⟨h2, hx⟩ := hx
      have hl := (adr_ok h.2).2.2.2.2
      rw [adr_pos h.1 h.2] at hl
      have hl2 := (hl h4).2
      rw [h2] at hl2
      have h9 := own_pk (k := 9) (t := x - 38) h h4 (by rw [hl2]; decide) (by rw [h2]; rfl) (by omega)
      rw [show 38 + (x - 38) = x by omega] at h9
      exact ho (by rw [h9.1])
  · rename_i h4
    split
    · rename_i h7
      show (if _ then _ else _) = _
      rw [if_neg]
      intro hx
      by_cases e1 : a = 227
      · subst e1
        rw [if_pos rfl] at hx
        refine ho ?_
        unfold ow2
        rw [if_neg (by omega), if_neg (by omega), if_neg (by omega), if_neg (by omega), if_pos ⟨hx.1, hx.2.1⟩]
      · rw [if_neg e1] at hx
        by_cases e2 : a = 228
        · subst e2
          rw [if_pos rfl] at hx
          refine ho ?_
          unfold ow2
          rw [if_neg (by omega), if_neg (by omega), if_neg (by omega), if_neg (by omega), if_neg (by omega), if_pos ⟨hx.1, hx.2.1⟩]
        · rw [if_neg e2] at hx
          have h9 := own_arr (j := x - off a) h (by omega) h7 (by omega)
          unfold vx ix at h9
          rw [if_neg e1, if_neg e2, if_neg e1, if_neg e2, ← hx.1, show off a + (x - off a) = x by omega] at h9
          exact ho (by rw [h9])
    · rfl
theorem bnI_arr {I : Nat → Nat → Int32} {a j : Nat} (h5 : 5 ≤ kd a) (h7 : kd a ≤ 7) (hj : j < ln a) : bnI I a (vx a j) (ix a j) = 0 := by
  unfold bnI
  rw [if_neg (by omega), if_pos h7]
  refine if_pos ?_
  by_cases e1 : a = 227
  · subst e1
    rw [if_pos rfl]
    have hj2 : j < 888 := hj
    show 40 ≤ 40 + j / 148 ∧ 40 + j / 148 < 46 ∧ j % 148 < 148
    omega
  · rw [if_neg e1]
    by_cases e2 : a = 228
    · subst e2
      rw [if_pos rfl]
      have hj2 : j < 296 := hj
      show 50 ≤ 50 + j / 148 ∧ 50 + j / 148 < 52 ∧ j % 148 < 148
      omega
    · rw [if_neg e2]
      unfold vx ix
      rw [if_neg e1, if_neg e2, if_neg e1, if_neg e2]
      omega
theorem bnI_fld {I : Nat → Nat → Int32} {a k : Nat} (h4 : kd a ≤ 4) (hk : k < ln a) (h : fk (kd a) k = 1 ∨ fk (kd a) k = 3) : bnI I a (vec a) (fo (kd a) k) = 0 := by
  unfold bnI
  rw [if_pos h4]
  refine if_pos ⟨rfl, ?_⟩
  rw [Bool.or_eq_true]
  left
  refine List.any_eq_true.mpr ⟨k, List.mem_range.mpr hk, ?_⟩
  simp only [Bool.and_eq_true, Bool.or_eq_true, beq_iff_eq]
  exact ⟨h, trivial⟩
theorem bnI_set {I : Nat → Nat → Int32} {a t : Nat} (h2 : kd a = 2) (ht : t < 10) : bnI I a (vec a) (38 + t) = 0 := by
  unfold bnI
  rw [if_pos (by omega)]
  refine if_pos ⟨rfl, ?_⟩
  rw [Bool.or_eq_true]
  right
  simp only [Bool.and_eq_true, beq_iff_eq, decide_eq_true_eq]
  exact ⟨h2, by omega, by omega⟩
theorem bn_fk {a k : Nat} (h : Mad 202 a) (h4 : kd a ≤ 4) (hk : k < ln a) : fk (kd a) k = 0 ∨ fk (kd a) k = 1 ∨ fk (kd a) k = 3 ∨ (fk (kd a) k = 2 ∧ kd a = 2) := by
  have h1 := adr_ok h.2
  rw [adr_pos h.1 h.2] at h1
  have hl := (h1.2.2.2.2 h4).2
  have hk1 := h1.2.2.1
  rw [hl] at hk
  generalize kd a = c at h4 hk hk1
  have key : (List.range 5).all (fun c => (List.range (([0, 5, 17, 10, 11] : List Nat).getD c 0)).all (fun k => decide (fk c k = 0 ∨ fk c k = 1 ∨ fk c k = 3 ∨ (fk c k = 2 ∧ c = 2)))) = true := by decide +kernel
  exact of_decide_eq_true (List.all_eq_true.mp (List.all_eq_true.mp key c (List.mem_range.mpr (by omega))) k (List.mem_range.mpr hk))
theorem bn_fv {I : Nat → Nat → Int32} {R : Nat → Nat → Option Nat} {a k : Nat} (h : Mad 202 a) (h4 : kd a ≤ 4) (hk : k < ln a) : fv (bnI I a) (bnR R a) a k = if fk (kd a) k = 0 then .null else .int 0 := by
  unfold fv
  rcases bn_fk h h4 hk with q | q | q | ⟨q, q2⟩
  · rw [q, if_pos rfl]
    show va_rf (bnR R a a k) = _
    unfold bnR up
    rw [if_pos rfl]
    rfl
  · rw [if_neg (by rw [q]; decide)]
    have e := bnI_fld (I := I) h4 hk (Or.inl q)
    rw [q]
    show Value.int (bnI I a (vec a) _) = _
    rw [e]
  · rw [if_neg (by rw [q]; decide)]
    have e := bnI_fld (I := I) h4 hk (Or.inr q)
    rw [q]
    show Value.int (bnI I a (vec a) _) = _
    rw [e]
  · rw [if_neg (by rw [q]; decide), q]
    show Value.int (pk (bnI I a (vec a))) = _
    have e : pk (bnI I a (vec a)) = pk (fun _ => 0) := pk_congr (fun t ht => bnI_set q2 ht)
    rw [e]
    rfl
theorem HV_push {g : Gl} {M : Mm} {I' : Nat → Nat → Int32} {R' : Nat → Nat → Option Nat} {H H1 : Heap} (hH : HV g M H) (hn : M.1 < 202) (hz : H1.size = H.size + 1) (o1 : ∀ q : Nat, q < H.size → H1[q]? = H[q]?) (hI : ∀ v x, (ow2 v x).1 ≠ adr M.1 → I' v x = M.2.1 v x) (hR : ∀ b k, b ≠ adr M.1 → R' b k = M.2.2 b k) (e1 : va_at g.2.2.1 vwCl (g.1 + M.1, ent g I' R' (adr M.1)) H1) : HV g (M.1 + 1, I', R') H1 := by
  obtain ⟨-, hs, hP, h60, h61⟩ := hH
  have hA := adr_ok hn
  have hMad : Mad 202 (adr M.1) := ⟨hA.1, by rw [hA.2.1]; exact hn⟩
  have hne : ∀ y, y = 60 ∨ y = 61 → ∀ t, (ow2 y t).1 ≠ adr M.1 := by
    intro y hy t e9
    refine Mad_ne hMad ?_
    rw [← e9]
    rcases hy with rfl | rfl <;> rfl
  refine ⟨hn, by show H1.size = g.1 + (M.1 + 1); omega, ?_, (funext fun t => hI _ _ (hne 60 (Or.inl rfl) t)).trans h60, (hI _ _ (hne 61 (Or.inr rfl) 0)).trans h61⟩
  intro k q hk
  by_cases hlt : k < M.1
  · rw [wl_get (M := (M.1 + 1, I', R')) (Nat.lt_succ_of_lt hlt)] at hk
    cases hk
    have h9 := hP k _ (wl_get (g := g) (M := M) hlt)
    have hB := adr_ok (Nat.lt_trans hlt hn)
    have hneq : adr k ≠ adr M.1 := fun q => by have := congrArg pos q; rw [hB.2.1, hA.2.1] at this; omega
    have hent : ent g I' R' (adr k) = ent g M.2.1 M.2.2 (adr k) := ent_congr ⟨hB.1, by rw [hB.2.1]; omega⟩ (fun v x q => hI v x (fun z => hneq (q ▸ z))) (fun j => hR _ j hneq)
    show va_at _ _ (g.1 + k, ent g I' R' (adr k)) H1
    rw [hent]
    exact h9.kept (o1 _ (by show g.1 + k < H.size; omega))
  · by_cases e : k = M.1
    · subst e
      rw [wl_get (M := (M.1 + 1, I', R')) (Nat.lt_succ_self _)] at hk
      cases hk
      exact e1
    · rw [List.getElem?_eq_none (by rw [wl_len]; show M.1 + 1 ≤ k; omega)] at hk
      cases hk
theorem vaS_push {A : Nat → Prop} {H0 H H1 : Heap} {locs : List Loc} (h : va_S A H0 H locs) (hz : H.size ≤ H1.size) (o1 : ∀ q : Nat, q < H.size → H1[q]? = H[q]?) : va_S A H0 H1 locs :=
  ⟨Nat.le_trans h.1 hz, fun q h1 h2 => (o1 q (Nat.lt_of_lt_of_le h1 h.1)).trans (h.2.1 q h1 h2), h.2.2⟩
theorem arf_zero {I : Nat → Nat → Int32} {a : Nat} (h5 : 5 ≤ kd a) (h7 : kd a ≤ 7) : arf (bnI I a) a = fun _ => 0 := by
  funext j
  show (if j < ln a then bnI I a (vx a j) (ix a j) else 0) = 0
  by_cases hj : j < ln a
  · rw [if_pos hj, bnI_arr h5 h7 hj]
  · rw [if_neg hj]
theorem sl_adr (n : Nat) : sl (n + 1) = sl n + ln (adr n) := rfl
theorem sl_mono {n m : Nat} (h : n ≤ m) : sl n ≤ sl m := by
  induction h with
  | refl => exact Nat.le_refl _
  | step _ ih => exact Nat.le_trans ih (Nat.le_add_right _ _)
section SND5
variable {p : Program} {l : Launch} {e : Env} {R : Room} {s : State} {m : MethodId} {args : Array Value} {below : List Frame} {meth : Method} {c : Code} {Q : State → Prop} {g : Gl} {K n0 : Nat}
variable {i : Instr} {len pc : Nat} {L : Lo} {st : List Value} {M : Mm} {H : Heap} {locs : List Loc}
theorem good_of {w : Cond} (h : (w.onTables && w.keeps) = true ∨ ∃ ty, w = .arrayClass ty) : goodWord w = true := by
  rcases h with q | ⟨t, rfl⟩
  · cases w <;> first | exact q | rfl
  · rfl
theorem snd_new (hX : FXD p R s m args meth c g K n0) (hH : HV g M H) (hS : va_S (fun q => g.1 ≤ q) s.heap H locs) (hnM : n0 ≤ M.1) (hrc : M.1 + 1 - n0 ≤ R.cells) (hrs : sl (M.1 + 1) - sl n0 ≤ R.slots) {x : Nat} {y : Nat × Nat × Nat} (d : decode (cod K) pc = .ok (.new x, 3)) (hf : nwc (ow K) x = some y) (hn : M.1 < 202) (hk : kd (adr M.1) = y.2.2 + 1)
    (k : ∀ (H1 : Heap), HV g (bn M) H1 → va_S (fun q => g.1 ≤ q) s.heap H1 locs → WW p l e R s m args below meth c Q g K n0 H1 locs (pc + 3, L, .ref (adr M.1) :: st, bn M)) : WW p l e R s m args below meth c Q g K n0 H locs (pc, L, st, M) := by
  intro hl ls hls
  obtain ⟨hx, hb, hml, hown, hts, hin, ⟨hK, hE⟩, hsz, hfr, hlo⟩ := hX
  have hm := List.mem_of_find?_eq_some hf
  have hp := List.find?_some hf
  simp only [Bool.and_eq_true, beq_iff_eq] at hp
  have hA := adr_ok hn
  have hMad : Mad 202 (adr M.1) := ⟨hA.1, by rw [hA.2.1]; exact hn⟩
  have hci : y.2.2 < 3 ∧ ∃ C N, (cn y.2.2 = C) ∧ (Cond.classLink (cn y.1) y.2.1 C).before args s = true ∧ (Cond.instantiable C N).before args s = true ∧ (Cond.initialized C).before args s = true ∧ N = ([5, 17, 10, 11] : List Nat).getD y.2.2 0 := by
    simp only [nwcL, List.mem_cons, List.not_mem_nil, or_false] at hm
    rcases hm with rfl | rfl | rfl
    · exact ⟨by decide, RX1, 17, rfl, hts _ wn_2_9.1 wn_2_9.2, hts _ wi_1.1 wi_1.2, hts _ wz_1.1 wz_1.2, rfl⟩
    · exact ⟨by decide, RX0, 5, rfl, hts _ wn_2_30.1 wn_2_30.2, hts _ wi_0.1 wi_0.2, hts _ wz_0.1 wz_0.2, rfl⟩
    · exact ⟨by decide, RX2, 10, rfl, hts _ wn_4_10.1 wn_4_10.2, hts _ wi_2.1 wi_2.2, hts _ wz_2.1 wz_2.2, rfl⟩
  obtain ⟨hy4, C, N, hC, hclink, hins, hini, hN⟩ := hci
  have h4 : kd (adr M.1) ≤ 4 := by omega
  obtain ⟨q, hq, hqn, hqc⟩ := vw_at hMad h4
  have hNl : N = ln (adr M.1) := by
    rw [hN, (hA.2.2.2.2 h4).2, hk]
    generalize y.2.2 = z at hy4
    rcases (show z = 0 ∨ z = 1 ∨ z = 2 by omega) with rfl | rfl | rfl <;> rfl
  obtain ⟨hG, ⟨ty, hty⟩, hnm⟩ := vw_ok hq
  obtain ⟨C', T, N'⟩ := q
  have hqc : C' = cn (kd (adr M.1) - 1) := hqc
  have hqn : N' = ln (adr M.1) := hqn
  have hCC : C' = C := by rw [hqc, show kd (adr M.1) - 1 = y.2.2 by omega, hC]
  subst hCC
  have hKn := hK.1 _ _ hq
  rw [hp.1, hp.2] at hclink
  show W p l e R s m args below meth c H locs (M.1 - n0) (sl M.1 - sl n0) Q (F0 m pc ls (st.map (cv g)))
  refine W.newcK hx hb hown hclink hins hini rfl d (by omega) (by rw [sl_adr] at hrs; have := sl_mono hnM; omega) hKn.2.1 rfl fun H1 kC hkC e1 z1 o1 => ?_
  have hts2 : ∀ w ∈ u_ws C' T N', w.before args s = true := fun w h => hts w (hG w h).1 (good_of (hG w h).2)
  have hborn := u_born ty hts2 (fun _ h => h) hKn hkC e1 hty
  have hHV : HV g (bn M) H1 := by
    refine HV_push hH hn z1 o1 (fun v x ho => bnI_ne hMad ho) (fun b j hb => by show bnR M.2.2 (adr M.1) b j = _; unfold bnR up; rw [if_neg hb]) ?_
    rw [ent_ob h4]
    refine ⟨_, hq, ?_⟩
    show t_OB (g.1 + M.1) _ N' _ H1 _
    rw [← hH.2.1]
    refine hborn.to (fun j hj => ?_)
    have hjl : j < ln (adr M.1) := by rw [← hqn]; exact hj
    show defaultValue (ty j) = vp_V (obf g (bnI M.2.1 (adr M.1)) (bnR M.2.2 (adr M.1)) (adr M.1)) j
    unfold vp_V obf
    rw [List.getD_eq_getElem?_getD, List.getElem?_map, List.getElem?_range hjl]
    show defaultValue (ty j) = cv g (fv _ _ _ j)
    rw [bn_fv hMad h4 hjl]
    have h1 := List.all_eq_true.mp chkT_ok (kd (adr M.1) - 1) (List.mem_range.mpr (by omega))
    unfold chkT at h1
    rw [hq] at h1
    have h2 := List.all_eq_true.mp h1 j (List.mem_range.mpr hj)
    rw [hty j hj, show kd (adr M.1) - 1 + 1 = kd (adr M.1) by omega] at h2
    rcases bn_fk hMad h4 hjl with q | q | q | ⟨q, -⟩
    · rw [q] at h2
      rw [if_pos q]
      have h3 : (ty j).isReference = true := h2
      generalize ty j = z at h3
      cases z <;> first | (cases h3; done) | rfl
    · rw [q] at h2
      rw [if_neg (by rw [q]; decide)]
      have h3 : ty j = .int := of_decide_eq_true h2
      rw [h3]; rfl
    · rw [q] at h2
      rw [if_neg (by rw [q]; decide)]
      have h3 : ty j = .char := of_decide_eq_true h2
      rw [h3]; rfl
    · rw [q] at h2
      rw [if_neg (by rw [q]; decide)]
      have h3 : ty j = .int := of_decide_eq_true h2
      rw [h3]; rfl
  have k1 := k H1 hHV (vaS_push hS (by omega) o1) hl ls hls
  have e2 : cv g (.ref (adr M.1)) = .ref H.size := by show Value.ref (ad g (adr M.1)) = _; rw [ad_own hA.1, hA.2.1, hH.2.1]
  have e3 : (bn M).1 - n0 = M.1 - n0 + 1 := by show M.1 + 1 - n0 = _; omega
  have e4 : sl (bn M).1 - sl n0 = sl M.1 - sl n0 + N := by show sl (M.1 + 1) - sl n0 = _; rw [sl_adr, hNl]; have := sl_mono hnM; omega
  have k2 : W p l e R s m args below meth c H1 locs ((bn M).1 - n0) (sl (bn M).1 - sl n0) Q (F0 m (pc + 3) ls (cv g (.ref (adr M.1)) :: st.map (cv g))) := k1
  rw [e2, e3, e4] at k2
  exact k2
theorem snd_newa (hX : FXD p R s m args meth c g K n0) (hH : HV g M H) (hS : va_S (fun q => g.1 ≤ q) s.heap H locs) (hnM : n0 ≤ M.1) (hrc : M.1 + 1 - n0 ≤ R.cells) (hrs : sl (M.1 + 1) - sl n0 ≤ R.slots) {t : ArrayType} {w : Int32} (d : decode (cod K) pc = .ok (.newarray t, 2)) (hn : M.1 < 202) (hk : kd (adr M.1) = (if newarray.typeOf t = .int then 5 else if newarray.typeOf t = .char then 6 else if newarray.typeOf t = .boolean then 7 else 99)) (hw : ¬ w < 0) (hwl : w.toNatClampNeg = ln (adr M.1))
    (k : ∀ (H1 : Heap), HV g (bn M) H1 → va_S (fun q => g.1 ≤ q) s.heap H1 locs → WW p l e R s m args below meth c Q g K n0 H1 locs (pc + 2, L, .ref (adr M.1) :: st, bn M)) : WW p l e R s m args below meth c Q g K n0 H locs (pc, L, .int w :: st, M) := by
  intro hl ls hls
  obtain ⟨hx, hb, hml, hown, hts, hin, ⟨hK, hE⟩, hsz, hfr, hlo⟩ := hX
  have hA := adr_ok hn
  have hMad : Mad 202 (adr M.1) := ⟨hA.1, by rw [hA.2.1]; exact hn⟩
  have h9 := hA.2.2.2.1
  have htt : (newarray.typeOf t = .int ∧ kd (adr M.1) = 5) ∨ (newarray.typeOf t = .char ∧ kd (adr M.1) = 6) ∨ (newarray.typeOf t = .boolean ∧ kd (adr M.1) = 7) := by
    by_cases e1 : newarray.typeOf t = .int
    · rw [if_pos e1] at hk; exact Or.inl ⟨e1, hk⟩
    · rw [if_neg e1] at hk
      by_cases e2 : newarray.typeOf t = .char
      · rw [if_pos e2] at hk; exact Or.inr (Or.inl ⟨e2, hk⟩)
      · rw [if_neg e2] at hk
        by_cases e3 : newarray.typeOf t = .boolean
        · rw [if_pos e3] at hk; exact Or.inr (Or.inr ⟨e3, hk⟩)
        · rw [if_neg e3] at hk; omega
  have h5 : 5 ≤ kd (adr M.1) := by rcases htt with ⟨-, q⟩ | ⟨-, q⟩ | ⟨-, q⟩ <;> omega
  have h7 : kd (adr M.1) ≤ 7 := by rcases htt with ⟨-, q⟩ | ⟨-, q⟩ | ⟨-, q⟩ <;> omega
  have harT : arT (kd (adr M.1)) = newarray.typeOf t := by rcases htt with ⟨e1, q⟩ | ⟨e1, q⟩ | ⟨e1, q⟩ <;> rw [e1, q] <;> rfl
  have hac : (Cond.arrayClass (newarray.typeOf t)).before args s = true := by
    rcases htt with ⟨e1, -⟩ | ⟨e1, -⟩ | ⟨e1, -⟩ <;> rw [e1]
    · exact hts _ wy_int.1 wy_int.2
    · exact hts _ wy_char.1 wy_char.2
    · exact hts _ wy_boolean.1 wy_boolean.2
  have hln : ln (adr M.1) ≤ 888 := by
    have key : (List.range 202).all (fun i => decide (ln (adr i) ≤ 888)) = true := by decide +kernel
    exact of_decide_eq_true (List.all_eq_true.mp key M.1 (List.mem_range.mpr hn))
  have hby : ln (adr M.1) * componentBytes (newarray.typeOf t) ≤ 536870912 := by
    have : componentBytes (newarray.typeOf t) ≤ 4 := by rcases htt with ⟨e1, -⟩ | ⟨e1, -⟩ | ⟨e1, -⟩ <;> rw [e1] <;> decide
    calc ln (adr M.1) * componentBytes (newarray.typeOf t) ≤ 888 * 4 := Nat.mul_le_mul hln this
      _ ≤ 536870912 := by decide
  show W p l e R s m args below meth c H locs (M.1 - n0) (sl M.1 - sl n0) Q (F0 m pc ls (.int w :: st.map (cv g)))
  refine va_newaK hx hb hac rfl d rfl hw hwl hby (by omega) (by rw [sl_adr] at hrs; have := sl_mono hnM; omega) rfl fun H1 cA e1 z1 o1 hAr hNm => ?_
  have hty := tys_at (g := g) h5 h9
  rw [harT] at hty
  have hcA : cA = g.2.2.2.1 (kd (adr M.1)) := by
    have h1 := (hK.2 _ _ hty).2
    rcases htt with ⟨q, -⟩ | ⟨q, -⟩ | ⟨q, -⟩ <;>
    · rw [q] at h1 hNm
      have h2 : s.vm.findClass ("[" ++ _) = some (g.2.2.2.1 (kd (adr M.1))) := h1
      exact Option.some.inj (hNm.symm.trans h2)
  have hHV : HV g (bn M) H1 := by
    refine HV_push hH hn z1 o1 (fun v x ho => bnI_ne hMad ho) (fun b j hb => by show bnR M.2.2 (adr M.1) b j = _; unfold bnR up; rw [if_neg hb]) ?_
    rw [ent_ar h5 h7, arf_zero h5 h7]
    show H1[g.1 + M.1]? = some (vp_cell _ _)
    rw [← hH.2.1, e1, vp_cell_i, hcA]
    have : defaultValue (newarray.typeOf t) = .int 0 := by rcases htt with ⟨q, -⟩ | ⟨q, -⟩ | ⟨q, -⟩ <;> rw [q] <;> rfl
    rw [this]
  have k1 := k H1 hHV (vaS_push hS (by omega) o1) hl ls hls
  have e2 : cv g (.ref (adr M.1)) = .ref H.size := by show Value.ref (ad g (adr M.1)) = _; rw [ad_own hA.1, hA.2.1, hH.2.1]
  have e3 : (bn M).1 - n0 = M.1 - n0 + 1 := by show M.1 + 1 - n0 = _; omega
  have e4 : sl (bn M).1 - sl n0 = sl M.1 - sl n0 + ln (adr M.1) := by show sl (M.1 + 1) - sl n0 = _; rw [sl_adr]; have := sl_mono hnM; omega
  have k2 : W p l e R s m args below meth c H1 locs ((bn M).1 - n0) (sl (bn M).1 - sl n0) Q (F0 m (pc + 2) ls (cv g (.ref (adr M.1)) :: st.map (cv g))) := k1
  rw [e2, e3, e4] at k2
  exact k2
theorem rrf_none {R0 : Nat → Nat → Option Nat} {a : Nat} : rrf g (bnR R0 a) a = fun _ => none := by
  funext j
  show (if j < ln a then (bnR R0 a a j).map (ad g) else none) = none
  unfold bnR up
  rw [if_pos rfl]
  split <;> rfl
theorem snd_anew (hX : FXD p R s m args meth c g K n0) (hH : HV g M H) (hS : va_S (fun q => g.1 ≤ q) s.heap H locs) (hnM : n0 ≤ M.1) (hrc : M.1 + 1 - n0 ≤ R.cells) (hrs : sl (M.1 + 1) - sl n0 ≤ R.slots) {x : Nat} {w : Int32} (d : decode (cod K) pc = .ok (.anewarray x, 3)) (hx1 : anw (ow K) x = true) (hn : M.1 < 202) (hk : kd (adr M.1) = 8) (hw : ¬ w < 0) (hwl : w.toNatClampNeg = ln (adr M.1))
    (k : ∀ (H1 : Heap), HV g (bn M) H1 → va_S (fun q => g.1 ≤ q) s.heap H1 locs → WW p l e R s m args below meth c Q g K n0 H1 locs (pc + 3, L, .ref (adr M.1) :: st, bn M)) : WW p l e R s m args below meth c Q g K n0 H locs (pc, L, .int w :: st, M) := by
  intro hl ls hls
  obtain ⟨hx, hb, hml, hown, hts, hin, ⟨hK, hE⟩, hsz, hfr, hlo⟩ := hX
  have hA := adr_ok hn
  have hMad : Mad 202 (adr M.1) := ⟨hA.1, by rw [hA.2.1]; exact hn⟩
  unfold anw at hx1
  simp only [Bool.and_eq_true, beq_iff_eq] at hx1
  obtain ⟨ho, rfl⟩ := hx1
  rw [ho] at hown
  have hln : ln (adr M.1) ≤ 888 := by
    have key : (List.range 202).all (fun i => decide (ln (adr i) ≤ 888)) = true := by decide +kernel
    exact of_decide_eq_true (List.all_eq_true.mp key M.1 (List.mem_range.mpr hn))
  show W p l e R s m args below meth c H locs (M.1 - n0) (sl M.1 - sl n0) Q (F0 m pc ls (.int w :: st.map (cv g)))
  refine W.anew (C := RX1) hx hb hown (hts _ wq_link.1 wq_link.2) (va_AO.use hE.2.2.2.2.2.2.2.2.1) rfl d rfl hw (by rw [hwl]; omega) (by omega) (by rw [hwl]; rw [sl_adr] at hrs; have := sl_mono hnM; omega) fun cA kA comp f1 f2 f3 f4 => ?_
  generalize hH1 : H.push ({ cls := cA, slots := Array.replicate w.toNatClampNeg .null, vm := .none } : Cell) = H1
  have z1 : H1.size = H.size + 1 := by rw [← hH1, Array.size_push]
  have e1 : H1[H.size]? = some (arrV cA w.toNatClampNeg (fun _ => .null)) := by rw [← hH1, Array.getElem?_push_size, ← arrV_new]
  have o1 : ∀ q : Nat, q < H.size → H1[q]? = H[q]? := fun q hq => by rw [← hH1, Array.getElem?_push, if_neg (Nat.ne_of_lt hq)]
  have hty := tys_at (g := g) (a := adr M.1) (by omega) (by omega)
  rw [show arT (kd (adr M.1)) = .object RX1 by rw [hk]; rfl] at hty
  have hcA : cA = g.2.2.2.1 (kd (adr M.1)) := by
    obtain ⟨_, _, -, -, -, h4⟩ := (hK.2 _ _ hty).2
    exact Option.some.inj (f1.symm.trans h4)
  have hHV : HV g (bn M) H1 := by
    refine HV_push hH hn z1 o1 (fun v x ho => bnI_ne hMad ho) (fun b j hb => by show bnR M.2.2 (adr M.1) b j = _; unfold bnR up; rw [if_neg hb]) ?_
    rw [ent_rr (by omega), rrf_none]
    show H1[g.1 + M.1]? = some (vp_cell _ _)
    rw [← hH.2.1, e1, vp_cell_q, hcA, hwl]
    rfl
  have k1 := k H1 hHV (vaS_push hS (by omega) o1) hl ls hls
  have e2 : cv g (.ref (adr M.1)) = .ref H.size := by show Value.ref (ad g (adr M.1)) = _; rw [ad_own hA.1, hA.2.1, hH.2.1]
  have e3 : (bn M).1 - n0 = M.1 - n0 + 1 := by show M.1 + 1 - n0 = _; omega
  have e4 : sl (bn M).1 - sl n0 = sl M.1 - sl n0 + w.toNatClampNeg := by show sl (M.1 + 1) - sl n0 = _; rw [sl_adr, hwl]; have := sl_mono hnM; omega
  have k2 : W p l e R s m args below meth c H1 locs ((bn M).1 - n0) (sl (bn M).1 - sl n0) Q (F0 m (pc + 3) ls (cv g (.ref (adr M.1)) :: st.map (cv g))) := k1
  rw [e2, e3, e4] at k2
  exact k2
theorem snd_gets (hX : FXD p R s m args meth c g K n0) (hS : va_S (fun q => g.1 ≤ q) s.heap H locs) {x : Nat} {y : Nat × Nat × Nat × Nat} (d : decode (cod K) pc = .ok (.getstatic x, 3)) (hf : gst (ow K) x = some y)
    (k : WW p l e R s m args below meth c Q g K n0 H locs (pc + 3, L, gsv y.2.2.1 :: st, M)) : WW p l e R s m args below meth c Q g K n0 H locs (pc, L, st, M) := by
  intro hl ls hls
  have k1 := k hl ls hls
  obtain ⟨hx, hb, hml, hown, hts, hin, ⟨hK, hE⟩, hsz, hfr, hlo⟩ := hX
  have hm := List.mem_of_find?_eq_some hf
  have hp := List.find?_some hf
  simp only [Bool.and_eq_true, beq_iff_eq] at hp
  obtain ⟨hp1, hp2⟩ := hp
  subst hp2
  rw [← hp1] at hown
  simp only [gstL, List.mem_cons, List.not_mem_nil, or_false] at hm
  have hZ := hE.2.2.2.1
  have hN := hE.2.2.2.2.2.2.2.1
  rcases hm with rfl | rfl | rfl
  · exact va_getsN hx hb hZ.1 hS hown (va_Nw.use rfl hN.2.2.2.1) (fun _ q => q) d k1
  · exact va_getsN hx hb hZ.2.1 hS hown (va_Nw.use rfl hN.2.2.2.2.1) (fun _ q => q) d k1
  · exact va_getsN hx hb hZ.2.2 hS hown (va_Nw.use rfl hN.2.2.2.2.2) (fun _ q => q) d k1
theorem snd_ldc (hX : FXD p R s m args meth c g K n0) {x : Nat} {y : Nat × Nat × Value} (d : decode (cod K) pc = .ok (.ldc x, 2)) (hf : kon (ow K) x = some y)
    (k : WW p l e R s m args below meth c Q g K n0 H locs (pc + 2, L, y.2.2 :: st, M)) : WW p l e R s m args below meth c Q g K n0 H locs (pc, L, st, M) := by
  intro hl ls hls
  have k1 := k hl ls hls
  obtain ⟨hx, hb, hml, hown, hts, hin, ⟨hK, hE⟩, hsz, hfr, hlo⟩ := hX
  have hm := List.mem_of_find?_eq_some hf
  have hp := List.find?_some hf
  simp only [Bool.and_eq_true, beq_iff_eq] at hp
  obtain ⟨hp1, hp2⟩ := hp
  subst hp2
  rw [← hp1] at hown
  simp only [konL, List.mem_cons, List.not_mem_nil, or_false] at hm
  rcases hm with rfl | rfl | rfl | rfl | rfl | rfl | rfl
  · exact lv_ldc hx hb hown (hts _ wk_4_7.1 wk_4_7.2) d k1
  · exact lv_ldcf hx hb hown (hts _ wk_2_224.1 wk_2_224.2) d k1
  · exact lv_ldc hx hb hown (hts _ wk_2_225.1 wk_2_225.2) d k1
  · exact lv_ldc hx hb hown (hts _ wk_4_8.1 wk_4_8.2) d k1
  · exact lv_ldc hx hb hown (hts _ wk_6_265.1 wk_6_265.2) d k1
  · exact lv_ldc hx hb hown (hts _ wk_6_266.1 wk_6_266.2) d k1
  · exact lv_ldc hx hb hown (hts _ wk_6_267.1 wk_6_267.2) d k1
theorem snd_ldcw (hX : FXD p R s m args meth c g K n0) {x o1 i1 : Nat} {v : Int32} (d : decode (cod K) pc = .ok (.ldc_w x, 3)) (hf : kon (ow K) x = some (o1, i1, .int v))
    (k : WW p l e R s m args below meth c Q g K n0 H locs (pc + 3, L, .int v :: st, M)) : WW p l e R s m args below meth c Q g K n0 H locs (pc, L, st, M) := by
  intro hl ls hls
  have k1 := k hl ls hls
  obtain ⟨hx, hb, hml, hown, hts, hin, ⟨hK, hE⟩, hsz, hfr, hlo⟩ := hX
  have hm := List.mem_of_find?_eq_some hf
  have hp := List.find?_some hf
  simp only [Bool.and_eq_true, beq_iff_eq] at hp
  obtain ⟨hp1, hp2⟩ := hp
  subst hp2
  rw [← hp1] at hown
  simp only [konL, List.mem_cons, List.not_mem_nil, or_false, Prod.mk.injEq, Value.int.injEq, reduceCtorEq, and_false, false_or] at hm
  rcases hm with ⟨rfl, rfl, rfl⟩ | ⟨rfl, rfl, rfl⟩ | ⟨rfl, rfl, rfl⟩ | ⟨rfl, rfl, rfl⟩ | ⟨rfl, rfl, rfl⟩ | ⟨rfl, rfl, rfl⟩
  · exact lv_ldcw hx hb hown (hts _ wk_4_7.1 wk_4_7.2) d k1
  · exact lv_ldcw hx hb hown (hts _ wk_2_225.1 wk_2_225.2) d k1
  · exact lv_ldcw hx hb hown (hts _ wk_4_8.1 wk_4_8.2) d k1
  · exact lv_ldcw hx hb hown (hts _ wk_6_265.1 wk_6_265.2) d k1
  · exact lv_ldcw hx hb hown (hts _ wk_6_266.1 wk_6_266.2) d k1
  · exact lv_ldcw hx hb hown (hts _ wk_6_267.1 wk_6_267.2) d k1
theorem snd_ldc2 (hX : FXD p R s m args meth c g K n0) {x : Nat} {y : Nat × Nat × Value} (d : decode (cod K) pc = .ok (.ldc2_w x, 3)) (hf : ko2 (ow K) x = some y)
    (k : WW p l e R s m args below meth c Q g K n0 H locs (pc + 3, L, y.2.2 :: st, M)) : WW p l e R s m args below meth c Q g K n0 H locs (pc, L, st, M) := by
  intro hl ls hls
  have k1 := k hl ls hls
  obtain ⟨hx, hb, hml, hown, hts, hin, ⟨hK, hE⟩, hsz, hfr, hlo⟩ := hX
  have hm := List.mem_of_find?_eq_some hf
  have hp := List.find?_some hf
  simp only [Bool.and_eq_true, beq_iff_eq] at hp
  obtain ⟨hp1, hp2⟩ := hp
  subst hp2
  rw [← hp1] at hown
  simp only [ko2L, List.mem_cons, List.not_mem_nil, or_false] at hm
  rcases hm with rfl | rfl | rfl | rfl
  · exact lv_ldc2 hx hb hown (hts _ wk_2_181.1 wk_2_181.2) d k1
  · exact lv_ldc2d hx hb hown (hts _ wk_2_226.1 wk_2_226.2) d k1
  · exact lv_ldc2d hx hb hown (hts _ wk_2_228.1 wk_2_228.2) d k1
  · exact lv_ldc2 hx hb hown (hts _ wk_2_230.1 wk_2_230.2) d k1
end SND5
end
section
section SND6
variable {p : Program} {l : Launch} {e : Env} {R : Room} {s : State} {m : MethodId} {args : Array Value} {below : List Frame} {meth : Method} {c : Code} {Q : State → Prop} {g : Gl} {K n0 : Nat}
variable {i : Instr} {len pc : Nat} {L : Lo} {st : List Value} {M : Mm} {H : Heap} {locs : List Loc}
theorem copy_core {cc : ByteArray} {cells slots a : Nat} {ls : Array Slot} {rest : List Value} {A : Nat → Prop} (hexec : p.tables.exec = Jvm.exec) (hb : c.code = cc) (hml : c.maxLocals = ls.size) {own : String} {index : Nat} (hown : s.vm.findClass own = some m.cls) (hlink : (Cond.methodLink own index arraycopyName).before args s = true) (hnat : (Cond.native arraycopyName).before args s = true) (hstat : (Cond.static arraycopyName).before args s = true) (hini : (Cond.initialized "java/lang/System").before args s = true)
    (hS : va_S A s.heap H locs) {b0 nn0 : Nat} {f : Nat → Int32} {scr : Cell} (hc0 : H[b0]? = some scr) (hs2 : s.isArrayOf scr .int) (hs3 : scr.vm ≠ .unknown) (hs4 : nn0 ≤ scr.slots.size) (hs5 : ∀ j, j < nn0 → scr.slots[j]? = some (.int (f j))) {c1 : ClassId} {n1 : Nat} {gg : Nat → Int32} (hc1 : H[a]? = some (vp_cell c1 (n1, .inl gg))) (ht1 : ArrOfT s c1 .int) (hA : A a)
    {sp dp n : Int32} (h1 : ¬ sp < 0) (h2 : ¬ dp < 0) (h3 : ¬ n < 0) (h4 : sp.toNatClampNeg + n.toNatClampNeg ≤ nn0) (h5 : dp.toNatClampNeg + n.toNatClampNeg ≤ n1)
    (hframes : 1 ≤ R.frames) (hlocals : (rest.map fun v => v.category).sum + (nativeFrameWords "java/lang/System" "arraycopy" 5 + 11) ≤ R.locals) (hdg : decode cc pc = .ok (.invokestatic index, 3))
    (kk : ∀ (H1 : Heap) (locs1 : List Loc), H1[a]? = some (vp_cell c1 (n1, .inl (va_cpy f gg sp.toNatClampNeg dp.toNatClampNeg n.toNatClampNeg))) → H1.size = H.size → (∀ q : Nat, q ≠ a → H1[q]? = H[q]?) → va_S A s.heap H1 locs1 → W p l e R s m args below meth c H1 locs1 cells slots Q (F0 m (pc + 3) ls rest)) : W p l e R s m args below meth c H locs cells slots Q (F0 m pc ls (.int n :: .int dp :: .ref a :: .int sp :: .ref b0 :: rest)) := by
  have nn : ∀ z : Int32, ¬ z < 0 → z.toInt = (z.toNatClampNeg : Int) := by
    intro z hz
    have hz0 : (0 : Int) ≤ z.toInt := by
      have := Int32.not_lt.mp hz
      simpa using Int32.le_iff_toInt_le.mp this
    show z.toInt = ((z.toInt.toNat : Nat) : Int)
    omega
  intro T hT X
  obtain ⟨hs6, k0, hk0, cm0, hkk0⟩ := hs2
  obtain ⟨-, k1, hk1, cm1, hkk1⟩ := ht1 n1 (fun j => .int (gg j))
  obtain ⟨vm', X', step⟩ := X.arraycopy hexec hown hlink hnat hstat hini (src := b0) (dst := a) (cs := scr) (cd := vp_cell c1 (n1, .inl gg)) (srcPos := sp) (destPos := dp) (n := n) (by rw [hT]; exact hc0) (by rw [hT]; exact hc1)
    hs6 (fun _ h => by cases h) hs3 (fun h => by cases h) hk0 hk1 hkk0 hkk1 (by simp [refKind]) h1 h2 h3
    (by rw [nn sp h1, nn n h3]; omega)
    (by rw [nn dp h2, nn n h3]; show ¬ _ > ((arrV c1 n1 (fun j => .int (gg j))).slots.size : Int); rw [arrV_size]; omega)
    (fun vm₁ _ i hi => by
      have e : scr.slots.getD (sp.toNatClampNeg + i) .null = .int (f (sp.toNatClampNeg + i)) := by
        rw [Array.getD_eq_getD_getElem?, hs5 _ (by omega)]
        rfl
      refine ⟨?_, ?_⟩
      · rw [e]
        rfl
      · rw [e]
        exact trivial)
    (g := F0 m pc ls (.int n :: .int dp :: .ref a :: .int sp :: .ref b0 :: rest)) rfl (by rw [hml]) (rest := rest) rfl (by rw [hb]; exact hdg) hframes (by show 2 * 0 + _ + _ ≤ _; omega)
  have e1 : copied scr (vp_cell c1 (n1, .inl gg)) sp dp n = vp_cell c1 (n1, .inl (va_cpy f gg sp.toNatClampNeg dp.toNatClampNeg n.toNatClampNeg)) := va_copiedX (fun z => .int z) scr c1 f gg hs5 h4
  rw [e1] at X' step
  have hl : a < H.size := (Array.getElem?_eq_some_iff.mp hc1).1
  have hheap : ((T.setVm vm').setCell a (vp_cell c1 (n1, .inl (va_cpy f gg sp.toNatClampNeg dp.toNatClampNeg n.toNatClampNeg)))).heap = H.setIfInBounds a (vp_cell c1 (n1, .inl (va_cpy f gg sp.toNatClampNeg dp.toNatClampNeg n.toNatClampNeg))) := by rw [← hT]; rfl
  have oq : ∀ q : Nat, q ≠ a → (H.setIfInBounds a (vp_cell c1 (n1, .inl (va_cpy f gg sp.toNatClampNeg dp.toNatClampNeg n.toNatClampNeg))))[q]? = H[q]? := fun q hq => by simp [Array.getElem?_setIfInBounds, Ne.symm hq]
  obtain ⟨t, a1, b1⟩ := kk _ _ (show (H.setIfInBounds a _)[a]? = some _ by simp [Array.getElem?_setIfInBounds, hl]) (by simp) oq ⟨by simp; exact hS.1, fun q g1 g2 => by
      rw [oq q (fun e => g2 (by rw [e]; exact hA))]
      exact hS.2.1 q g1 g2, fun q hq => by
      rcases List.mem_append.mp hq with h | h
      · exact hS.2.2 q h
      · obtain ⟨z, -, hz⟩ := List.mem_map.mp h
        rw [← hz]
        exact hA⟩ _ hheap X'
  exact ⟨t, step t a1, b1⟩
theorem cats_le {v : List Value} (h : v.length ≤ 4) : ((v.map (cv g)).map fun v => v.category).sum ≤ 8 := by
  have key : ∀ v : List Value, ((v.map (cv g)).map fun v => v.category).sum ≤ 2 * v.length := by
    intro v
    induction v with
    | nil => exact Nat.le_refl _
    | cons x v ih =>
      show (cv g x).category + ((v.map (cv g)).map fun v => v.category).sum ≤ 2 * (v.length + 1)
      have : (cv g x).category ≤ 2 := by rw [cv_cat]; rcases lv_cat x with q | q <;> omega
      omega
  have := key v
  omega
theorem snd_cpy (hX : FXD p R s m args meth c g K n0) (hH : HV g M H) (hS : va_S (fun q => g.1 ≤ q) s.heap H locs) {x a0 a1 : Nat} {sp dp w : Int32} {z : Nat → Nat → Int32} (d : decode (cod K) pc = .ok (.invokestatic x, 3)) (hn : nat (ow K) x = some 1) (hst : st.length ≤ 4) (hr : 1 ≤ rk K) (h : cpI M.1 M.2.1 a0 sp a1 dp w = some z)
    (k : ∀ (H1 : Heap) (locs1 : List Loc), HV g (M.1, z, M.2.2) H1 → va_S (fun q => g.1 ≤ q) s.heap H1 locs1 → WW p l e R s m args below meth c Q g K n0 H1 locs1 (pc + 3, L, st, (M.1, z, M.2.2))) : WW p l e R s m args below meth c Q g K n0 H locs (pc, L, .int w :: .int dp :: .ref a1 :: .int sp :: .ref a0 :: st, M) := by
  intro hl ls hls
  obtain ⟨hx, hb, hml, hown, hts, hin, ⟨hK, hE⟩, hsz, hfr, hlo⟩ := hX
  have hnn := hH.1
  have hP := hH.2.2.1
  have hxo : ow K = 1 ∧ x = 18 := by
    unfold nat at hn
    obtain ⟨y, hy, h1⟩ := Option.map_eq_some_iff.mp hn
    have hm := List.mem_of_find?_eq_some hy
    have hp := List.find?_some hy
    simp only [Bool.and_eq_true, beq_iff_eq] at hp
    simp only [natL, List.mem_cons, List.not_mem_nil, or_false] at hm
    rcases hm with rfl | rfl | rfl | rfl <;> first | (cases h1; done) | exact ⟨hp.1.symm, hp.2.symm⟩
  obtain ⟨ho, rfl⟩ := hxo
  rw [ho] at hown
  unfold cpI at h
  obtain ⟨hc, hh⟩ := Option.ite_none_right_eq_some.mp h
  clear h
  · obtain ⟨hsrc, ha1, hk1, hp1, h27, h28, rfl, rfl, hw, hw0, hw1⟩ := hc
    have h := Option.some.inj hh
    have hM1 : Mad M.1 a1 := ⟨ha1, hp1⟩
    have hM12 := hM1.w hnn
    have hat := wl_at (g := g) hnn hM1
    rw [ent_ar (by omega) (by omega)] at hat
    have hty := tys_at (g := g) (a := a1) (by omega) (by omega)
    rw [show arT (kd a1) = .int by rw [hk1]; rfl] at hty
    have hS0 : ∃ (f : Nat → Int32) (scr : Cell), H[ad g a0]? = some scr ∧ s.isArrayOf scr .int ∧ scr.vm ≠ .unknown ∧ (if a0 = 1001 then 6 else ln a0) ≤ scr.slots.size ∧ (∀ j, j < (if a0 = 1001 then 6 else ln a0) → scr.slots[j]? = some (.int (f j))) ∧ ∀ j, j < (if a0 = 1001 then 6 else ln a0) → f j = (if a0 = 1001 then csI 1001 j else M.2.1 (vec a0) (off a0 + j)) := by
      rcases hsrc with ⟨ha0, hk0, hp0, h7, h8⟩ | rfl
      · have hM0 : Mad M.1 a0 := ⟨ha0, hp0⟩
        have hat0 := wl_at (g := g) hnn hM0
        rw [ent_ar (by omega) (by omega)] at hat0
        have hty0 := tys_at (g := g) (a := a0) (by omega) (by omega)
        rw [show arT (kd a0) = .int by rw [hk0]; rfl] at hty0
        have hne : a0 ≠ 1001 := by omega
        refine ⟨arf M.2.1 a0, _, hP _ _ hat0, (hK.2 _ _ hty0).1 _ _, (fun q => by cases q), ?_, fun j hj => ?_, fun j hj => ?_⟩
        · rw [if_neg hne]; show _ ≤ (arrV _ _ _).slots.size; rw [arrV_size]; exact Nat.le_refl _
        · rw [if_neg hne] at hj; show (arrV _ _ _).slots[j]? = _; rw [arrV_read _ _ hj]
        · rw [if_neg hne] at hj
          rw [if_neg hne]
          show (if j < ln a0 then M.2.1 (vx a0 j) (ix a0 j) else 0) = _
          rw [if_pos hj]
          unfold vx ix
          rw [if_neg h7, if_neg h8, if_neg h7, if_neg h8]
      · obtain ⟨scr, hs1, hs2, hs3, hs4, -, hs5, hs7⟩ := hE.2.2.2.2.1 1001 (by decide) (by decide)
        refine ⟨fun j => csI 1001 j, scr, ?_, hs2, hs3, ?_, fun j hj => ?_, fun j _ => ?_⟩
        · rw [ad_ext (by decide), hS.2.1 _ (Array.getElem?_eq_some_iff.mp hs1).1 hs7]; exact hs1
        · rw [if_pos rfl]; exact hs4
        · rw [if_pos rfl] at hj; exact hs5 j hj
        · rw [if_pos rfl]
    obtain ⟨f, scr, c0, c1, c2, c3, c4, c5⟩ := hS0
    have hz0 : (0 : Int32).toNatClampNeg = 0 := rfl
    refine copy_core (cc := cod K) (nn0 := if a0 = 1001 then 6 else ln a0) hx hb (by rw [hml]; exact hls.1.symm) hown (hts _ wa_link.1 wa_link.2) (hts _ wa_nat.1 wa_nat.2) (hts _ wa_sta.1 wa_sta.2) (hts _ wa_ini.1 wa_ini.2) hS c0 c1 c2 c3 c4 (hP _ _ hat) (hK.2 _ _ hty).1 (ad_ge ha1) (by decide) (by decide) hw (by rw [hz0, Nat.zero_add]; exact hw0) (by rw [hz0, Nat.zero_add]; exact hw1) (by omega) ?_ d (fun H1 locs1 e1 z1 oq hS1 => ?_)
    · have := cats_le (g := g) hst
      have hnw : nativeFrameWords "java/lang/System" "arraycopy" 5 ≤ 12 := by decide +kernel
      omega
    · have hin9 : ∀ y, off a1 ≤ y → y < off a1 + w.toNatClampNeg → ow2 (vec a1) y = (a1, y - off a1) := by
        intro y h8 h9
        have := own_arr (j := y - off a1) hM12 (by omega) (by omega) (by omega)
        unfold vx ix at this
        rw [if_neg h27, if_neg h28, if_neg h27, if_neg h28, show off a1 + (y - off a1) = y by omega] at this
        exact this
      have hI : ∀ v y, (ow2 v y).1 ≠ a1 → z v y = M.2.1 v y := by
        intro v y ho
        rw [← h]
        unfold up
        by_cases hv : v = vec a1
        · subst hv
          rw [if_pos rfl, if_neg]
          rintro ⟨h8, h9⟩
          exact ho (by rw [hin9 y h8 h9])
        · rw [if_neg hv]
      have hne : ∀ y, y = 60 ∨ y = 61 → ∀ t, (ow2 y t).1 ≠ a1 := by
        intro y hy t e9
        refine Mad_ne hM12 ?_
        rw [← e9]
        rcases hy with rfl | rfl <;> rfl
      refine k H1 locs1 (HV_put (I := M.2.1) (R0 := M.2.2) hH hM1 hI (fun _ _ _ => rfl) (funext fun t => hI _ _ (hne 60 (Or.inl rfl) t)) (hI _ _ (hne 61 (Or.inr rfl) 0)) ?_ z1 oq) hS1 hl ls hls
      rw [ent_ar (by omega) (by omega)]
      show H1[ad g a1]? = some (vp_cell _ _)
      rw [e1]
      refine congrArg some ?_
      show arrV _ _ (fun j => Value.int (va_cpy f (arf M.2.1 a1) (0 : Int32).toNatClampNeg (0 : Int32).toNatClampNeg w.toNatClampNeg j)) = arrV _ _ (fun j => Value.int (arf z a1 j))
      have hfun : ∀ j, j < ln a1 → va_cpy f (arf M.2.1 a1) (0 : Int32).toNatClampNeg (0 : Int32).toNatClampNeg w.toNatClampNeg j = arf z a1 j := by
        intro j hj
        rw [hz0]
        show (if 0 ≤ j ∧ j < 0 + w.toNatClampNeg then f (0 + (j - 0)) else arf M.2.1 a1 j) = (if j < ln a1 then z (vx a1 j) (ix a1 j) else 0)
        rw [if_pos hj, ← h]
        unfold vx ix up
        rw [if_neg h27, if_neg h28, if_neg h27, if_neg h28, if_pos rfl]
        by_cases hj2 : j < w.toNatClampNeg
        · rw [if_pos ⟨Nat.zero_le _, by omega⟩, if_pos ⟨by omega, by omega⟩, c5 _ (by omega)]
          rw [show 0 + (j - 0) = j by omega, show off a1 + j - off a1 = j by omega]
        · rw [if_neg (by omega), if_neg (by omega)]
          show (if j < ln a1 then M.2.1 (vx a1 j) (ix a1 j) else 0) = _
          rw [if_pos hj]
          unfold vx ix
          rw [if_neg h27, if_neg h28, if_neg h27, if_neg h28]
      unfold arrV
      congr 1
      refine congrArg Array.ofFn (funext fun j => ?_)
      exact congrArg Value.int (hfun j.val j.isLt)
theorem nat_at {o x t : Nat} (h : nat o x = some t) : (o, x, t) ∈ natL := by
  unfold nat at h
  obtain ⟨y, hy, h1⟩ := Option.map_eq_some_iff.mp h
  have hm := List.mem_of_find?_eq_some hy
  have hp := List.find?_some hy
  simp only [Bool.and_eq_true, beq_iff_eq] at hp
  rw [← hp.1, ← hp.2, ← h1]
  exact hm
theorem snd_oin (hX : FXD p R s m args meth c g K n0) {x a : Nat} (d : decode (cod K) pc = .ok (.invokespecial x, 3)) (hn : nat (ow K) x = some 4) (hst : st.length ≤ 4) (hr : 1 ≤ rk K)
    (k : WW p l e R s m args below meth c Q g K n0 H locs (pc + 3, L, st, M)) : WW p l e R s m args below meth c Q g K n0 H locs (pc, L, .ref a :: st, M) := by
  intro hl ls hls
  have k1 := k hl ls hls
  obtain ⟨hx, hb, hml, hown, hts, hin, ⟨hK, hE⟩, hsz, hfr, hlo⟩ := hX
  have hm := nat_at hn
  have hsz2 : ls.size = c.maxLocals := by rw [hml]; exact hls.1
  have hr2 : 1 ≤ R.frames := by omega
  have hr3 : 2 * (F0 m pc ls (.ref (ad g a) :: st.map (cv g))).monitorRoom + (((st.map (cv g))).map fun v => v.category).sum + 12 ≤ R.locals := by
    have h1 := cats_le (g := g) hst
    have h2 : 2 * (F0 m pc ls (.ref (ad g a) :: st.map (cv g))).monitorRoom = 0 := rfl
    omega
  have hlink : (Cond.methodLink (cn (ow K)) x objectInit).before args s = true := by
    simp only [natL, List.mem_cons, List.not_mem_nil, or_false, Prod.mk.injEq] at hm
    have h9 : (ow K = 0 ∧ x = 3) ∨ (ow K = 1 ∧ x = 3) ∨ (ow K = 2 ∧ x = 3) := by omega
    rcases h9 with ⟨ho, rfl⟩ | ⟨ho, rfl⟩ | ⟨ho, rfl⟩ <;> rw [ho]
    · exact hts _ wo_0.1 wo_0.2
    · exact hts _ wo_1.1 wo_1.2
    · exact hts _ wo_2.1 wo_2.2
  exact W.objInit hx hb hown hlink (hts _ wo_inst.1 wo_inst.2) (hts _ wo_code.1 wo_code.2) rfl hsz2 rfl d hr2 hr3 k1
end SND6
end
section
theorem ENV_next {g : Gl} {s U : State} {H : Heap} {locs : List Loc} (hE : ENV g s) (hW : s.WarmedH U.vm) (hU : U.heap = H) (hS : va_S (fun q => g.1 ≤ q) s.heap H locs) : ENV g U := by
  obtain ⟨hK, hX, h1, h2, ⟨z1, z2, z3⟩, hT, -, -, ⟨w1, w2, w3, w4, w5, w6⟩, hA, hB⟩ := hE
  have hvm := hW.alike
  have hq : ∀ a : Nat, a < s.heap.size → ¬ (g.1 ≤ a) → H[a]? = s.heap[a]? := hS.2.1
  subst hU
  refine ⟨va_K.moved hvm hK, va_X.moved hvm (hX.kept (hq _ h1 (by omega))), Nat.lt_of_lt_of_le h1 hS.1, h2, ⟨va_Z.moved hvm (z1.kept hq), va_Z.moved hvm (z2.kept hq), va_Z.moved hvm (z3.kept hq)⟩, fun a ha hb => va_T.moved hvm ((hT a ha hb).kept hq), trivial, trivial, ⟨va_Nw.warmM hW w1, va_Nw.warmM hW w2, va_Nw.warmM hW w3, va_Nw.warmF hW w4, va_Nw.warmF hW w5, va_Nw.warmF hW w6⟩, va_AO.moved hvm hA, aoa_moved hvm hB⟩
/-- a method's start: the heap as the picture says -/
def PB (g : Gl) (M : Mm) : State → Prop := fun U => HV g M U.heap ∧ ENV g U
def QB (g : Gl) (v : Option Value) (M : Mm) : Array Value → State → Outcome → State → Prop := fun _ st o t => o = .returned (v.map (cv g)) ∧ HV g M t.heap ∧ st.heap.size ≤ t.heap.size ∧ ∀ q : Nat, q < g.1 → t.heap[q]? = st.heap[q]?
theorem PB_blind {g : Gl} {M : Mm} {av : List Value} : FrameBlind (va_Pc av (PB g M)) := by
  intro a U f mk h
  exact ⟨h.1, h.2.1, ENV_next (H := U.heap) (locs := []) h.2.2 (State.WarmedH.refl U) rfl va_S.rf⟩
def wsK (y : Nat) : List Cond := cwd y :: wsU
def rmK (y : Nat) (M M' : Mm) : Room := { frames := rk y, cells := M'.1 - M.1, slots := sl M'.1 - sl M.1, locals := 37 * rk y }
theorem wsU_in {w : Cond} (h : w ∈ wsU) : w ∈ lw_tbl ∧ goodWord w = true := by
  unfold wsU at h
  exact List.mem_filter.mp h
theorem wsK_good {y : Nat} (hy : y < 171) : GoodIn wsU (wsK y) := by
  intro w hw
  rcases List.mem_cons.mp hw with rfl | h
  · exact ⟨List.mem_filter.mpr ⟨cwd_in y hy, cwd_good y hy⟩, good_of_word (cwd_good y hy)⟩
  · exact ⟨h, good_of_word (wsU_in h).2⟩
/-- what a picture's call means on the machine -/
def MetK (l : Launch) (g : Gl) (y : Nat) (av : List Value) (M : Mm) (v : Option Value) (M' : Mm) : Prop :=
  Met l (nm y) (wsK y) (rmK y M M') (va_Pc (av.map (cv g)) (PB g M)) (QB g v M') (M'.1 - M.1) (sl M'.1 - sl M.1) (fun q => g.1 ≤ q)
section SND7
variable {p : Program} {l : Launch} {e : Env} {R : Room} {s : State} {m : MethodId} {args : Array Value} {below : List Frame} {meth : Method} {c : Code} {Q : State → Prop} {g : Gl} {K n0 : Nat}
variable {i : Instr} {len pc : Nat} {L : Lo} {st : List Value} {M M' : Mm} {H : Heap} {locs : List Loc}
theorem call_go {ls : Array Slot} {st0 rest : List Value} {v : Option Value} {a : Array Value} {mc ms cells slots : Nat} (hr : va_Run p l e R s m args below meth c H locs cells slots mc ms (F0 m pc ls st0) rest (QB g v M' a) (fun q => g.1 ≤ q)) (hS : va_S (fun q => g.1 ≤ q) s.heap H locs)
    (kk : ∀ (H1 : Heap) (locs1 : List Loc), HV g M' H1 → va_S (fun q => g.1 ≤ q) s.heap H1 locs1 → W p l e R s m args below meth c H1 locs1 (cells + mc) (slots + ms) Q (F0 m (pc + 3) ls ((v.map (cv g)).toList ++ rest))) : W p l e R s m args below meth c H locs cells slots Q (F0 m pc ls st0) := by
  intro T hT X
  obtain ⟨w, st₀, t, T', L, h0, X', hL, e1, e2, ⟨hq1, hq2, hq3, hq4⟩, go⟩ := hr T hT X
  have hw := Outcome.returned.inj hq1
  subst hw
  obtain ⟨t2, a1, b1⟩ := kk t.heap (locs ++ L) hq2 ⟨Nat.le_trans hS.1 (by rw [← h0]; exact hq3), fun q g1 g2 => by
      rw [hq4 q (Nat.not_le.mp g2), h0]
      exact hS.2.1 q g1 g2, fun q hq => by
      rcases List.mem_append.mp hq with h | h
      · exact hS.2.2 q h
      · exact hL q h⟩ T' e1 X'
  exact ⟨t2, go t2 a1, b1⟩
theorem room_go {y : Nat} (h1 : rk y < rk K) (h2 : mxl y ≤ 18) (hfr : rk K ≤ R.frames) (hlo : 37 * rk K ≤ R.locals) : (rmK y M M').frames + 1 ≤ R.frames ∧ 8 + (mxl y + 11) + (rmK y M M').locals ≤ R.locals := by
  show rk y + 1 ≤ R.frames ∧ 8 + (mxl y + 11) + 37 * rk y ≤ R.locals
  omega
theorem nm_ok {o i : Nat} {y : Ci} (h : cal o i = some y) : y.2.2.2.1 < 171 ∧ (parseMethodDescriptor (nm y.2.2.2.1).desc).map (fun d => d.parameters.length) = some y.2.2.2.2.2.2.2.2 ∧ ((nm y.2.2.2.1).cls ≠ "java/lang/invoke/MethodHandle" ∧ (nm y.2.2.2.1).cls ≠ "java/lang/invoke/VarHandle") ∧ gw y.2.2.2.2.2.2.2.1 (.initialized (nm y.2.2.2.1).cls) = true := by
  obtain ⟨hok, -⟩ := cal_ok h
  unfold okc at hok
  simp only [Bool.and_eq_true, decide_eq_true_eq] at hok
  exact ⟨hok.2.1.1.1.2, hok.2.1.1.2, hok.2.1.2, hok.2.1.1.1.1⟩
theorem snd_calls (hX : FXD p R s m args meth c g K n0) (hH : HV g M H) (hS : va_S (fun q => g.1 ≤ q) s.heap H locs) (hnM : n0 ≤ M.1) (hMM : M.1 ≤ M'.1) (hrc : M'.1 - n0 ≤ R.cells) (hrs : sl M'.1 - sl n0 ≤ R.slots) {x : Nat} {y : Ci} {v : Option Value} {av : List Value} (d : decode (cod K) pc = .ok (.invokestatic x, 3)) (hc : cal (ow K) x = some y) (hmo : y.2.2.1 = 1 ∨ y.2.2.1 = 4) (hr : rk y.2.2.2.1 < rk K) (h18 : mxl y.2.2.2.1 ≤ 18) (hal : av.length = y.2.2.2.2.2.2.2.2) (hst : st.length ≤ 4) (hM : MetK l g y.2.2.2.1 av M v M')
    (k : ∀ (H1 : Heap) (locs1 : List Loc), HV g M' H1 → va_S (fun q => g.1 ≤ q) s.heap H1 locs1 → WW p l e R s m args below meth c Q g K n0 H1 locs1 (pc + 3, L, v.toList ++ st, M')) : WW p l e R s m args below meth c Q g K n0 H locs (pc, L, av.reverse ++ st, M) := by
  intro hl ls hls
  obtain ⟨hx, hb, hml, hown, hts, hin, hE, hsz, hfr, hlo⟩ := hX
  obtain ⟨hy, hpd, hmh, hini⟩ := nm_ok hc
  obtain ⟨hok, hix⟩ := cal_ok hc
  have htU : ∀ w ∈ wsU, w.before args s = true := fun w h => hts w (wsU_in h).1 (wsU_in h).2
  have hrm := room_go (R := R) (M := M) (M' := M') hr h18 hfr hlo
  have hsm := sl_mono hnM
  have hsm2 := sl_mono hMM
  have hp : PreS s H (va_Pc (av.map (cv g)) (PB g M)) (av.map (cv g)) := ⟨PB_blind, fun U hU hW => ⟨rfl, by rw [hU]; exact hH, ENV_next hE hW hU hS⟩⟩
  have hini2 := gw_of hini
  have key : va_Run p l e R s m args below meth c H locs (M.1 - n0) (sl M.1 - sl n0) (M'.1 - M.1) (sl M'.1 - sl M.1) (F0 m pc ls ((av.reverse ++ st).map (cv g))) (st.map (cv g)) (QB g v M' (av.map (cv g)).toArray) (fun q => g.1 ≤ q) := by
    have hstack : (F0 m pc ls ((av.reverse ++ st).map (cv g))).stack = (av.map (cv g)).reverse ++ st.map (cv g) := by
      show (av.reverse ++ st).map (cv g) = _
      rw [List.map_append, List.map_reverse]
    have hWd : 2 * (F0 m pc ls ((av.reverse ++ st).map (cv g))).monitorRoom + ((st.map (cv g)).map fun v => v.category).sum ≤ 8 := by
      have h1 := cats_le (g := g) hst
      have h2 : 2 * (F0 m pc ls ((av.reverse ++ st).map (cv g))).monitorRoom = 0 := rfl
      omega
    unfold okc at hok
    rw [Bool.and_eq_true, Bool.and_eq_true] at hok
    rcases hmo with hm1 | hm4
    · rw [hm1] at hok
      have hok3 : (gw y.2.2.2.2.1 (.methodLink (cn (ow K)) y.2.1 (nm y.2.2.2.1)) && gw y.2.2.2.2.2.1 (.static (nm y.2.2.2.1))) = true := hok.2.2
      rw [Bool.and_eq_true] at hok3
      obtain ⟨g1, g2⟩ := gw_of hok3.1
      obtain ⟨g3, g4⟩ := gw_of hok3.2
      rw [hix] at g1 g2
      have hcb : CallB R s args (cn (ow K)) x (nm y.2.2.2.1) (cod y.2.2.2.1) (mxl y.2.2.2.1) (rtt y.2.2.2.1) (wsK y.2.2.2.1) (rmK y.2.2.2.1 M M') (M'.1 - M.1) (sl M'.1 - sl M.1) y.2.2.2.2.2.2.2.2 :=
        callB_of _ htU (wsK_good hy) rfl rfl rfl (hts _ hini2.1 hini2.2) (hts _ g1 g2) ⟨hmh.1, hmh.2, hpd⟩ hrm
      exact va_runS ⟨hx, hb, hml, hown, htU⟩ hM ⟨hcb, hts _ g3 g4⟩ hp rfl (by rw [List.length_map]; exact hal) hls.1 hstack hWd d ⟨by omega, by omega⟩
    · rw [hm4] at hok
      have hok3 : (gw y.2.2.2.2.2.1 (.static (nm y.2.2.2.1)) && decide ((ow K, y.2.1, y.2.2.2.1) ∈ nstL)) = true := hok.2.2
      rw [Bool.and_eq_true] at hok3
      obtain ⟨g3, g4⟩ := gw_of hok3.1
      have g5 := of_decide_eq_true hok3.2
      rw [hix] at g5
      have hN := hE.2.2.2.2.2.2.2.2.1
      have hlink : va_Nw (.methodLinkNest (cn (ow K)) x (nm y.2.2.2.1) "HandoverDesk") s := by
        simp only [nstL, List.mem_cons, List.not_mem_nil, or_false, Prod.mk.injEq] at g5
        rcases g5 with ⟨e1, e2, e3⟩ | ⟨e1, e2, e3⟩ | ⟨e1, e2, e3⟩ <;> rw [e1, e2, e3]
        · exact hN.1
        · first | exact hN.2.1 | exact hN.2.2.1
        · first | exact hN.2.2.1 | exact hN.2.1
      have hcb := va_cnB (R := R) (own := cn (ow K)) (host := "HandoverDesk") (index := x) (mc := M'.1 - M.1) (ms := sl M'.1 - sl M.1) (y := nm y.2.2.2.1) (bytes := cod y.2.2.2.1) (maxL := mxl y.2.2.2.1) (ret := rtt y.2.2.2.1) (rm := rmK y.2.2.2.1 M M') y.2.2.2.2.2.2.2.2 htU (wsK_good hy) rfl rfl rfl hlink (hts _ hini2.1 hini2.2) ⟨hmh.1, hmh.2, hpd⟩ hrm
      exact va_runSN ⟨hx, hb, hml, hown, htU⟩ hM ⟨hcb, hts _ g3 g4, trivial⟩ hp rfl (by rw [List.length_map]; exact hal) hls.1 hstack hWd d ⟨by omega, by omega⟩
  refine call_go key hS (fun H1 locs1 h1 h2 => ?_)
  have k1 := k H1 locs1 h1 h2 hl ls hls
  have e1 : M.1 - n0 + (M'.1 - M.1) = M'.1 - n0 := by omega
  have e2 : sl M.1 - sl n0 + (sl M'.1 - sl M.1) = sl M'.1 - sl n0 := by omega
  rw [e1, e2]
  have e3 : (v.map (cv g)).toList ++ st.map (cv g) = (v.toList ++ st).map (cv g) := by cases v <;> rfl
  rw [e3]
  exact k1
theorem snd_recv (hX : FXD p R s m args meth c g K n0) (hH : HV g M H) (hS : va_S (fun q => g.1 ≤ q) s.heap H locs) {C : String} {a : Nat} (ho : isO C M.1 a = true) : ∃ cellB : Cell, H[ad g a]? = some cellB ∧ cellB.vm.isStatics = false ∧ s.vm.findClass C = some cellB.cls := by
  obtain ⟨hx, hb, hml, hown, hts, hin, ⟨hK, hE⟩, hsz, hfr, hlo⟩ := hX
  have hn := hH.1
  unfold isO at ho
  by_cases ha : a < 1000
  · rw [if_pos ha] at ho
    obtain ⟨h1, h4, hp, hC⟩ := of_decide_eq_true ho
    have hM : Mad M.1 a := ⟨ha, hp⟩
    obtain ⟨q, hq, hqn, hqc⟩ := vw_at (hM.w hn) h4
    have hat := wl_at (g := g) hn hM
    rw [ent_ob h4] at hat
    have := va_recv hK hH.2.2.1 hq hat
    rw [hqc, hC] at this
    exact this
  · rw [if_neg ha] at ho
    cases ho
theorem snd_callv (hX : FXD p R s m args meth c g K n0) (hH : HV g M H) (hS : va_S (fun q => g.1 ≤ q) s.heap H locs) (hnM : n0 ≤ M.1) (hMM : M.1 ≤ M'.1) (hrc : M'.1 - n0 ≤ R.cells) (hrs : sl M'.1 - sl n0 ≤ R.slots) {x a : Nat} {y : Ci} {v : Option Value} {av : List Value} (d : decode (cod K) pc = .ok (.invokevirtual x, 3)) (hc : cal (ow K) x = some y) (hmo : y.2.2.1 = 0) (hr : rk y.2.2.2.1 < rk K) (h18 : mxl y.2.2.2.1 ≤ 18) (hal : av.length = y.2.2.2.2.2.2.2.2) (hst : st.length ≤ 4) (ho : isO (nm y.2.2.2.1).cls M.1 a = true) (hM : MetK l g y.2.2.2.1 (.ref a :: av) M v M')
    (k : ∀ (H1 : Heap) (locs1 : List Loc), HV g M' H1 → va_S (fun q => g.1 ≤ q) s.heap H1 locs1 → WW p l e R s m args below meth c Q g K n0 H1 locs1 (pc + 3, L, v.toList ++ st, M')) : WW p l e R s m args below meth c Q g K n0 H locs (pc, L, av.reverse ++ .ref a :: st, M) := by
  intro hl ls hls
  have hrecv := snd_recv hX hH hS ho
  obtain ⟨hx, hb, hml, hown, hts, hin, hE, hsz, hfr, hlo⟩ := hX
  obtain ⟨hy, hpd, hmh, hini⟩ := nm_ok hc
  obtain ⟨hok, hix⟩ := cal_ok hc
  have htU : ∀ w ∈ wsU, w.before args s = true := fun w h => hts w (wsU_in h).1 (wsU_in h).2
  have hrm := room_go (R := R) (M := M) (M' := M') hr h18 hfr hlo
  have hsm := sl_mono hnM
  have hsm2 := sl_mono hMM
  have hini2 := gw_of hini
  have hp : PreV s H (nm y.2.2.2.1).cls (ad g a) (va_Pc ((Value.ref a :: av).map (cv g)) (PB g M)) (av.map (cv g)) := ⟨PB_blind, hrecv, fun U hU hW => ⟨rfl, by rw [hU]; exact hH, ENV_next hE hW hU hS⟩⟩
  have key : va_Run p l e R s m args below meth c H locs (M.1 - n0) (sl M.1 - sl n0) (M'.1 - M.1) (sl M'.1 - sl M.1) (F0 m pc ls ((av.reverse ++ .ref a :: st).map (cv g))) (st.map (cv g)) (QB g v M' (Value.ref (ad g a) :: av.map (cv g)).toArray) (fun q => g.1 ≤ q) := by
    have hstack : (F0 m pc ls ((av.reverse ++ .ref a :: st).map (cv g))).stack = (av.map (cv g)).reverse ++ .ref (ad g a) :: st.map (cv g) := by
      show (av.reverse ++ .ref a :: st).map (cv g) = _
      rw [List.map_append, List.map_reverse]
      rfl
    have hWd : 2 * (F0 m pc ls ((av.reverse ++ .ref a :: st).map (cv g))).monitorRoom + ((st.map (cv g)).map fun v => v.category).sum ≤ 8 := by
      have h1 := cats_le (g := g) hst
      have h2 : 2 * (F0 m pc ls ((av.reverse ++ .ref a :: st).map (cv g))).monitorRoom = 0 := rfl
      omega
    unfold okc at hok
    rw [Bool.and_eq_true, Bool.and_eq_true, hmo] at hok
    have hok3 : (gw y.2.2.2.2.1 (.methodLink (cn (ow K)) y.2.1 (nm y.2.2.2.1)) && gw y.2.2.2.2.2.1 (.instanceMethod (nm y.2.2.2.1)) && gw y.2.2.2.2.2.2.1 (.selects (nm y.2.2.2.1).cls (nm y.2.2.2.1) (nm y.2.2.2.1))) = true := hok.2.2
    rw [Bool.and_eq_true, Bool.and_eq_true] at hok3
    obtain ⟨g1, g2⟩ := gw_of hok3.1.1
    obtain ⟨g3, g4⟩ := gw_of hok3.1.2
    obtain ⟨g5, g6⟩ := gw_of hok3.2
    rw [hix] at g1 g2
    have hcb : CallB R s args (cn (ow K)) x (nm y.2.2.2.1) (cod y.2.2.2.1) (mxl y.2.2.2.1) (rtt y.2.2.2.1) (wsK y.2.2.2.1) (rmK y.2.2.2.1 M M') (M'.1 - M.1) (sl M'.1 - sl M.1) y.2.2.2.2.2.2.2.2 :=
      callB_of _ htU (wsK_good hy) rfl rfl rfl (hts _ hini2.1 hini2.2) (hts _ g1 g2) ⟨hmh.1, hmh.2, hpd⟩ hrm
    exact va_runV ⟨hx, hb, hml, hown, htU⟩ hM ⟨hcb, hts _ g3 g4, hts _ g5 g6⟩ hp rfl (by rw [List.length_map]; exact hal) hls.1 hstack hWd d ⟨by omega, by omega⟩
  refine call_go key hS (fun H1 locs1 h1 h2 => ?_)
  have k1 := k H1 locs1 h1 h2 hl ls hls
  have e1 : M.1 - n0 + (M'.1 - M.1) = M'.1 - n0 := by omega
  have e2 : sl M.1 - sl n0 + (sl M'.1 - sl M.1) = sl M'.1 - sl n0 := by omega
  rw [e1, e2]
  have e3 : (v.map (cv g)).toList ++ st.map (cv g) = (v.toList ++ st).map (cv g) := by cases v <;> rfl
  rw [e3]
  exact k1
theorem snd_calli (hX : FXD p R s m args meth c g K n0) (hH : HV g M H) (hS : va_S (fun q => g.1 ≤ q) s.heap H locs) (hnM : n0 ≤ M.1) (hMM : M.1 ≤ M'.1) (hrc : M'.1 - n0 ≤ R.cells) (hrs : sl M'.1 - sl n0 ≤ R.slots) {x a : Nat} {y : Ci} {av : List Value} (d : decode (cod K) pc = .ok (.invokespecial x, 3)) (hc : cal (ow K) x = some y) (hmo : y.2.2.1 = 2) (hr : rk y.2.2.2.1 < rk K) (h18 : mxl y.2.2.2.1 ≤ 18) (hal : av.length = y.2.2.2.2.2.2.2.2) (hst : st.length ≤ 4) (hM : MetK l g y.2.2.2.1 (.ref a :: av) M none M')
    (k : ∀ (H1 : Heap) (locs1 : List Loc), HV g M' H1 → va_S (fun q => g.1 ≤ q) s.heap H1 locs1 → WW p l e R s m args below meth c Q g K n0 H1 locs1 (pc + 3, L, st, M')) : WW p l e R s m args below meth c Q g K n0 H locs (pc, L, av.reverse ++ .ref a :: st, M) := by
  intro hl ls hls
  obtain ⟨hx, hb, hml, hown, hts, hin, hE, hsz, hfr, hlo⟩ := hX
  obtain ⟨hy, hpd, hmh, hini⟩ := nm_ok hc
  obtain ⟨hok, hix⟩ := cal_ok hc
  have htU : ∀ w ∈ wsU, w.before args s = true := fun w h => hts w (wsU_in h).1 (wsU_in h).2
  have hrm := room_go (R := R) (M := M) (M' := M') hr h18 hfr hlo
  have hsm := sl_mono hnM
  have hsm2 := sl_mono hMM
  have hini2 := gw_of hini
  have hp : PreS s H (va_Pc ((Value.ref a :: av).map (cv g)) (PB g M)) (.ref (ad g a) :: av.map (cv g)) := ⟨PB_blind, fun U hU hW => ⟨rfl, by rw [hU]; exact hH, ENV_next hE hW hU hS⟩⟩
  have key : va_Run p l e R s m args below meth c H locs (M.1 - n0) (sl M.1 - sl n0) (M'.1 - M.1) (sl M'.1 - sl M.1) (F0 m pc ls ((av.reverse ++ .ref a :: st).map (cv g))) (st.map (cv g)) (QB g none M' (Value.ref (ad g a) :: av.map (cv g)).toArray) (fun q => g.1 ≤ q) := by
    have hstack : (F0 m pc ls ((av.reverse ++ .ref a :: st).map (cv g))).stack = (av.map (cv g)).reverse ++ .ref (ad g a) :: st.map (cv g) := by
      show (av.reverse ++ .ref a :: st).map (cv g) = _
      rw [List.map_append, List.map_reverse]
      rfl
    have hWd : 2 * (F0 m pc ls ((av.reverse ++ .ref a :: st).map (cv g))).monitorRoom + ((st.map (cv g)).map fun v => v.category).sum ≤ 8 := by
      have h1 := cats_le (g := g) hst
      have h2 : 2 * (F0 m pc ls ((av.reverse ++ .ref a :: st).map (cv g))).monitorRoom = 0 := rfl
      omega
    unfold okc at hok
    rw [Bool.and_eq_true, Bool.and_eq_true, hmo] at hok
    have hok3 : (gw y.2.2.2.2.1 (.methodLink (cn (ow K)) y.2.1 (nm y.2.2.2.1)) && gw y.2.2.2.2.2.1 (.instanceMethod (nm y.2.2.2.1)) && decide ((nm y.2.2.2.1).name = "<init>") && decide (rtt y.2.2.2.1 = none)) = true := hok.2.2
    rw [Bool.and_eq_true, Bool.and_eq_true, Bool.and_eq_true] at hok3
    obtain ⟨g1, g2⟩ := gw_of hok3.1.1.1
    obtain ⟨g3, g4⟩ := gw_of hok3.1.1.2
    have g5 := of_decide_eq_true hok3.1.2
    have g6 := of_decide_eq_true hok3.2
    rw [hix] at g1 g2
    have hcb : CallB R s args (cn (ow K)) x (nm y.2.2.2.1) (cod y.2.2.2.1) (mxl y.2.2.2.1) none (wsK y.2.2.2.1) (rmK y.2.2.2.1 M M') (M'.1 - M.1) (sl M'.1 - sl M.1) y.2.2.2.2.2.2.2.2 :=
      callB_of _ htU (wsK_good hy) (by unfold wsK cwd; rw [g6]) rfl rfl (hts _ hini2.1 hini2.2) (hts _ g1 g2) ⟨hmh.1, hmh.2, hpd⟩ hrm
    exact va_runI ⟨hx, hb, hml, hown, htU⟩ hM ⟨hcb, g5, hts _ g3 g4⟩ hp rfl (by rw [List.length_map]; exact hal) hls.1 hstack hWd d ⟨by omega, by omega⟩
  refine call_go key hS (fun H1 locs1 h1 h2 => ?_)
  have k1 := k H1 locs1 h1 h2 hl ls hls
  have e1 : M.1 - n0 + (M'.1 - M.1) = M'.1 - n0 := by omega
  have e2 : sl M.1 - sl n0 + (sl M'.1 - sl M.1) = sl M'.1 - sl n0 := by omega
  rw [e1, e2]
  exact k1
end SND7
end
section
section SND8
variable {p : Program} {l : Launch} {e : Env} {R : Room} {s : State} {m : MethodId} {args : Array Value} {below : List Frame} {meth : Method} {c : Code} {Q : State → Prop} {g : Gl} {K n0 : Nat}
variable {i : Instr} {len pc : Nat} {L : Lo} {st : List Value} {M M' : Mm} {H : Heap} {locs : List Loc}
theorem bnR_ne {R0 : Nat → Nat → Option Nat} {a b k : Nat} (h : b ≠ a) : bnR R0 a b k = R0 b k := by
  unfold bnR up
  rw [if_neg h]
theorem bnI_9 {I : Nat → Nat → Int32} {a : Nat} (h : 8 ≤ kd a) : bnI I a = I := by
  unfold bnI
  rw [if_neg (by omega), if_neg (by omega)]
theorem snd_mna (hX : FXD p R s m args meth c g K n0) (hH : HV g M H) (hS : va_S (fun q => g.1 ≤ q) s.heap H locs) (hnM : n0 ≤ M.1) (hrc : M.1 + 7 - n0 ≤ R.cells) (hrs : sl (M.1 + 7) - sl n0 ≤ R.slots) {x : Nat} (d : decode (cod K) pc = .ok (.multianewarray x 2, 4)) (hx1 : mna (ow K) x = true) (hn : M.1 + 7 ≤ 202) (hk : kd (adr M.1) = 9) (h208 : adr M.1 + 6 < 208) (hadr : (List.range 6).all (fun j => adr (M.1 + 1 + j) == adr M.1 + 1 + j) = true) {I' : Nat → Nat → Int32} {R' : Nat → Nat → Option Nat} (hI' : I' = (bn (bn (bn (bn (bn (bn (bn M))))))).2.1) (hR' : R' = up (bn (bn (bn (bn (bn (bn (bn M))))))).2.2 (adr M.1) (fun j => if j < 6 then some (adr M.1 + 1 + j) else none))
    (k : ∀ (H1 : Heap), HV g (M.1 + 7, I', R') H1 → va_S (fun q => g.1 ≤ q) s.heap H1 locs → WW p l e R s m args below meth c Q g K n0 H1 locs (pc + 4, L, .ref (adr M.1) :: st, (M.1 + 7, I', R'))) : WW p l e R s m args below meth c Q g K n0 H locs (pc, L, .int 10 :: .int 6 :: st, M) := by
  intro hl ls hls
  obtain ⟨hx, hb, hml, hown, hts, hin, ⟨hK, hE⟩, hsz, hfr, hlo⟩ := hX
  have hA := adr_ok (i := M.1) (by omega)
  have hMad : Mad 202 (adr M.1) := ⟨hA.1, by rw [hA.2.1]; omega⟩
  have had : ∀ j, j < 6 → adr (M.1 + 1 + j) = adr M.1 + 1 + j := fun j hj => by
    have := List.all_eq_true.mp hadr j (List.mem_range.mpr hj)
    simpa using this
  have hkin : ∀ j, j < 6 → kd (adr (M.1 + 1 + j)) = 5 ∧ ln (adr (M.1 + 1 + j)) = 10 := by
    have key : (List.range 196).all (fun n => (List.range 6).all (fun j => decide (kd (adr n) = 9 ∧ adr (n + 1 + j) = adr n + 1 + j → kd (adr (n + 1 + j)) = 5 ∧ ln (adr (n + 1 + j)) = 10))) = true := by decide +kernel
    exact fun j hj => of_decide_eq_true (List.all_eq_true.mp (List.all_eq_true.mp key M.1 (List.mem_range.mpr (by omega))) j (List.mem_range.mpr hj)) ⟨hk, had j hj⟩
  have hl6 : ln (adr M.1) = 6 := by
    have key : (List.range 202).all (fun n => decide (kd (adr n) = 9 → ln (adr n) = 6)) = true := by decide +kernel
    exact of_decide_eq_true (List.all_eq_true.mp key M.1 (List.mem_range.mpr (by omega))) hk
  unfold mna at hx1
  simp only [Bool.and_eq_true, beq_iff_eq] at hx1
  obtain ⟨ho, rfl⟩ := hx1
  rw [ho] at hown
  have hsl7 : sl (M.1 + 7) = sl M.1 + 66 := by
    rw [show M.1 + 7 = M.1 + 6 + 1 by omega, sl_adr, sl_adr, sl_adr, sl_adr, sl_adr, sl_adr, sl_adr, hl6]
    have e0 := (hkin 0 (by omega)).2
    have e1 := (hkin 1 (by omega)).2
    have e2 := (hkin 2 (by omega)).2
    have e3 := (hkin 3 (by omega)).2
    have e4 := (hkin 4 (by omega)).2
    have e5 := (hkin 5 (by omega)).2
    rw [show M.1 + 6 = M.1 + 1 + 5 by omega, e5, show M.1 + 5 = M.1 + 1 + 4 by omega, e4, show M.1 + 4 = M.1 + 1 + 3 by omega, e3, show M.1 + 3 = M.1 + 1 + 2 by omega, e2, show M.1 + 2 = M.1 + 1 + 1 by omega, e1, show M.1 + 1 = M.1 + 1 + 0 by omega, e0]
  have hsm := sl_mono hnM
  show W p l e R s m args below meth c H locs (M.1 - n0) (sl M.1 - sl n0) Q (F0 m pc ls (.int 10 :: .int 6 :: st.map (cv g)))
  intro T hT Xs
  obtain ⟨vm₁, cA, comp, -, fA, fC, hO, hInn, X', step⟩ := Stand.multianewarray2F Xs (ty := .int) hx hown (hts _ wm_link.1 wm_link.2) (aoa_use hE.2.2.2.2.2.2.2.2.2) (hts _ wy_int.1 wy_int.2) (g := F0 m pc ls (.int 10 :: .int 6 :: st.map (cv g))) rfl (by rw [hb]; exact d) rfl (n := 6) (k := 10) (by decide) (by decide) (by decide) (by decide) (by decide) rfl rfl (by show _ + (1 + 6) ≤ _; omega) (by show _ + (6 + 6 * 10) ≤ _; omega)
  have hty9 := tys_at (g := g) (a := adr M.1) (by omega) (by omega)
  rw [hk] at hty9
  have hcA : cA = g.2.2.2.1 9 := by
    have h1 : s.vm.findClass ("[" ++ (FieldType.array .int).toString) = some (g.2.2.2.1 9) := (hK.2 _ _ hty9).2
    exact Option.some.inj (fA.symm.trans h1)
  have hcC : comp = g.2.2.2.1 5 := by
    have h1 : s.vm.findClass ("[" ++ FieldType.int.toString) = some (g.2.2.2.1 5) := (hK.2 0 _ rfl).2
    have h2 : s.vm.findClass (FieldType.array .int).toString = some comp := fC
    exact Option.some.inj (h2.symm.trans h1)
  subst hcA
  subst hcC
  generalize hF : Jvm.Free.Multi.fill (T.setVm vm₁) (g.2.2.2.1 9) (g.2.2.2.1 5) (6 : Int32).toNatClampNeg (10 : Int32).toNatClampNeg (defaultValue .int) (6 : Int32).toNatClampNeg = F at X' step
  have hTh : (T.setVm vm₁).heap = H := hT
  obtain ⟨f1, f2, -, -⟩ := Jvm.Free.Multi.fill_facts (T.setVm vm₁) (g.2.2.2.1 9) (g.2.2.2.1 5) (6 : Int32).toNatClampNeg (10 : Int32).toNatClampNeg (defaultValue .int) (6 : Int32).toNatClampNeg
  rw [hF, hTh] at f1 f2
  have hold : ∀ x : Nat, x < H.size → F.heap[x]? = H[x]? := fun x hx => by
    have := Jvm.Free.Multi.fill_old (T.setVm vm₁) (g.2.2.2.1 9) (g.2.2.2.1 5) (6 : Int32).toNatClampNeg (10 : Int32).toNatClampNeg (defaultValue .int) (a := x) (by rw [hTh]; exact hx) (6 : Int32).toNatClampNeg
    rw [hF, hTh] at this
    exact this
  have hrow : ∀ j : Nat, j < 6 → F.heap[H.size + 1 + j]? = some (arrV (g.2.2.2.1 5) 10 (fun _ => .int 0)) := fun j hj => by
    have := Jvm.Free.Multi.fill_inner (T.setVm vm₁) (g.2.2.2.1 9) (g.2.2.2.1 5) (6 : Int32).toNatClampNeg (10 : Int32).toNatClampNeg (defaultValue .int) (6 : Int32).toNatClampNeg j hj
    rw [hF, hTh] at this
    rw [this, ← arrV_new]
    rfl
  have hsz1 : F.heap.size = H.size + 7 := by rw [f1]; show H.size + 1 + 6 = _; omega
  have houter : Jvm.Free.Multi.outerC (g.2.2.2.1 9) 6 H.size 6 = arrV (g.2.2.2.1 9) 6 (fun j => va_rf (if j < 6 then some (H.size + 1 + j) else none)) := by
    have key : ∀ i : Nat, Jvm.Free.Multi.outerC (g.2.2.2.1 9) 6 H.size i = arrV (g.2.2.2.1 9) 6 (fun j => va_rf (if j < i then some (H.size + 1 + j) else none)) := by
      intro i
      induction i with
      | zero =>
        show ({ cls := g.2.2.2.1 9, slots := Array.replicate 6 .null, vm := .none } : Cell) = _
        rw [arrV_new]
        refine congrArg (arrV _ 6) (funext fun j => ?_)
        simp [va_rf]
      | succ i ih =>
        show (Jvm.Free.Multi.outerC (g.2.2.2.1 9) 6 H.size i).setSlot i (.ref (H.size + 1 + i)) = _
        rw [ih, arrV_store]
        refine congrArg (arrV _ 6) (funext fun j => ?_)
        by_cases e : j = i
        · subst e
          simp [updV, va_rf]
        · by_cases h : j < i
          · simp [updV, e, h, Nat.lt_succ_of_lt h]
          · simp [updV, e, h, show ¬ j < i + 1 by omega]
    exact key 6
  -- the numbers and references of the seven cells
  have hne : ∀ j, j < 6 → ∀ j', j' < 6 → j ≠ j' → adr (M.1 + 1 + j) ≠ adr (M.1 + 1 + j') := fun j hj j' hj' h => by rw [had j hj, had j' hj']; omega
  have hMj : ∀ j, j < 6 → Mad 202 (adr (M.1 + 1 + j)) := fun j hj => by
    have := adr_ok (i := M.1 + 1 + j) (by omega)
    exact ⟨this.1, by rw [this.2.1]; omega⟩
  have hI7 : I' = bnI (bnI (bnI (bnI (bnI (bnI (bnI M.2.1 (adr M.1)) (adr (M.1 + 1 + 0))) (adr (M.1 + 1 + 1))) (adr (M.1 + 1 + 2))) (adr (M.1 + 1 + 3))) (adr (M.1 + 1 + 4))) (adr (M.1 + 1 + 5)) := hI'
  have hIout : ∀ v y, (∀ j, j < 6 → (ow2 v y).1 ≠ adr (M.1 + 1 + j)) → (ow2 v y).1 ≠ adr M.1 → I' v y = M.2.1 v y := by
    intro v y h1 h2
    rw [hI7, bnI_ne (hMj 5 (by omega)) (h1 5 (by omega)), bnI_ne (hMj 4 (by omega)) (h1 4 (by omega)), bnI_ne (hMj 3 (by omega)) (h1 3 (by omega)), bnI_ne (hMj 2 (by omega)) (h1 2 (by omega)), bnI_ne (hMj 1 (by omega)) (h1 1 (by omega)), bnI_ne (hMj 0 (by omega)) (h1 0 (by omega)), bnI_ne hMad h2]
  have hIin : ∀ j, j < 6 → ∀ t, t < 10 → I' (vx (adr (M.1 + 1 + j)) t) (ix (adr (M.1 + 1 + j)) t) = 0 := by
    intro j hj t ht
    have hkj := hkin j hj
    have ho := own_arr (hMj j hj) (j := t) (by omega) (by omega) (by omega)
    have z : ∀ I0 : Nat → Nat → Int32, bnI I0 (adr (M.1 + 1 + j)) (vx (adr (M.1 + 1 + j)) t) (ix (adr (M.1 + 1 + j)) t) = 0 := fun I0 => bnI_arr (by omega) (by omega) (by omega)
    have nx : ∀ (I0 : Nat → Nat → Int32) (j' : Nat), j' < 6 → j' ≠ j → bnI I0 (adr (M.1 + 1 + j')) (vx (adr (M.1 + 1 + j)) t) (ix (adr (M.1 + 1 + j)) t) = I0 (vx (adr (M.1 + 1 + j)) t) (ix (adr (M.1 + 1 + j)) t) := fun I0 j' hj' hjj => bnI_ne (hMj j' hj') (by rw [ho]; exact hne j hj j' hj' (Ne.symm hjj))
    rw [hI7]
    rcases (show j = 0 ∨ j = 1 ∨ j = 2 ∨ j = 3 ∨ j = 4 ∨ j = 5 by omega) with rfl | rfl | rfl | rfl | rfl | rfl
    · rw [nx _ 5 (by omega) (by omega), nx _ 4 (by omega) (by omega), nx _ 3 (by omega) (by omega), nx _ 2 (by omega) (by omega), nx _ 1 (by omega) (by omega), z]
    · rw [nx _ 5 (by omega) (by omega), nx _ 4 (by omega) (by omega), nx _ 3 (by omega) (by omega), nx _ 2 (by omega) (by omega), z]
    · rw [nx _ 5 (by omega) (by omega), nx _ 4 (by omega) (by omega), nx _ 3 (by omega) (by omega), z]
    · rw [nx _ 5 (by omega) (by omega), nx _ 4 (by omega) (by omega), z]
    · rw [nx _ 5 (by omega) (by omega), z]
    · rw [z]
  have hRout : ∀ b t, b ≠ adr M.1 → (∀ j, j < 6 → b ≠ adr (M.1 + 1 + j)) → R' b t = M.2.2 b t := by
    intro b t h1 h2
    rw [hR']
    unfold up
    rw [if_neg h1]
    show bnR (bnR (bnR (bnR (bnR (bnR (bnR M.2.2 (adr M.1)) (adr (M.1 + 1 + 0))) (adr (M.1 + 1 + 1))) (adr (M.1 + 1 + 2))) (adr (M.1 + 1 + 3))) (adr (M.1 + 1 + 4))) (adr (M.1 + 1 + 5)) b t = _
    rw [bnR_ne (h2 5 (by omega)), bnR_ne (h2 4 (by omega)), bnR_ne (h2 3 (by omega)), bnR_ne (h2 2 (by omega)), bnR_ne (h2 1 (by omega)), bnR_ne (h2 0 (by omega)), bnR_ne h1]
  have hne9 : ∀ y, y = 60 ∨ y = 61 → ∀ t, I' y t = M.2.1 y t := by
    intro y hy t
    have h9 : (ow2 y t).1 = 999 := by rcases hy with rfl | rfl <;> rfl
    exact hIout y t (fun j hj => by rw [h9]; exact (Mad_ne (hMj j hj)).symm) (by rw [h9]; exact (Mad_ne hMad).symm)
  have hHV : HV g (M.1 + 7, I', R') F.heap := by
    refine ⟨hn, by show F.heap.size = g.1 + (M.1 + 7); rw [hsz1, hH.2.1]; omega, ?_, (funext fun t => hne9 60 (Or.inl rfl) t).trans hH.2.2.2.1, (hne9 61 (Or.inr rfl) 0).trans hH.2.2.2.2⟩
    intro k9 q hk9
    by_cases hlt : k9 < M.1
    · rw [wl_get (M := (M.1 + 7, I', R')) (show k9 < M.1 + 7 by omega)] at hk9
      cases hk9
      have h9 := hH.2.2.1 k9 _ (wl_get (g := g) (M := M) hlt)
      have hB := adr_ok (i := k9) (by omega)
      have hneq : adr k9 ≠ adr M.1 := fun q => by have := congrArg pos q; rw [hB.2.1, hA.2.1] at this; omega
      have hneqj : ∀ j, j < 6 → adr k9 ≠ adr (M.1 + 1 + j) := fun j hj q => by
        have := congrArg pos q
        rw [hB.2.1, (adr_ok (i := M.1 + 1 + j) (by omega)).2.1] at this
        omega
      have hent : ent g I' R' (adr k9) = ent g M.2.1 M.2.2 (adr k9) := ent_congr ⟨hB.1, by rw [hB.2.1]; omega⟩ (fun v x q => hIout v x (fun j hj z => hneqj j hj (q ▸ z)) (fun z => hneq (q ▸ z))) (fun j => hRout _ j hneq hneqj)
      show va_at _ _ (g.1 + k9, ent g I' R' (adr k9)) F.heap
      rw [hent]
      exact h9.kept (hold _ (by show g.1 + k9 < H.size; rw [hH.2.1]; omega))
    · by_cases e : k9 = M.1
      · subst e
        rw [wl_get (M := (M.1 + 7, I', R')) (show M.1 < M.1 + 7 by omega)] at hk9
        cases hk9
        show va_at _ _ (g.1 + M.1, ent g I' R' (adr M.1)) F.heap
        rw [ent_rr (by omega), hk]
        show F.heap[g.1 + M.1]? = some (vp_cell _ _)
        rw [← hH.2.1, f2, vp_cell_q, hl6]
        refine congrArg some (houter.trans (congrArg (arrV _ 6) (funext fun j => ?_)))
        show va_rf _ = va_rf (if j < ln (adr M.1) then (R' (adr M.1) j).map (ad g) else none)
        rw [hl6, hR']
        unfold up
        rw [if_pos rfl]
        by_cases hj : j < 6
        · rw [if_pos hj, if_pos hj, if_pos hj]
          show Value.ref _ = Value.ref (ad g (adr M.1 + 1 + j))
          rw [← had j hj]
          have h9 := adr_ok (i := M.1 + 1 + j) (by omega)
          rw [ad_own h9.1, h9.2.1]
          have hs9 := hH.2.1
          exact congrArg Value.ref (by show H.size + 1 + j = g.1 + (M.1 + 1 + j); omega)
        · rw [if_neg hj, if_neg hj]
      · by_cases h7 : k9 < M.1 + 7
        · obtain ⟨j, rfl⟩ : ∃ j, k9 = M.1 + 1 + j := ⟨k9 - M.1 - 1, by omega⟩
          have hj : j < 6 := by omega
          rw [wl_get (M := (M.1 + 7, I', R')) h7] at hk9
          cases hk9
          have hkj := hkin j hj
          show va_at _ _ (g.1 + (M.1 + 1 + j), ent g I' R' (adr (M.1 + 1 + j))) F.heap
          rw [ent_ar (by omega) (by omega), hkj.1, hkj.2]
          show F.heap[g.1 + (M.1 + 1 + j)]? = some (vp_cell _ _)
          rw [show g.1 + (M.1 + 1 + j) = H.size + 1 + j by rw [hH.2.1]; omega, hrow j hj, vp_cell_i]
          refine congrArg some (congrArg (arrV _ 10) (funext fun t => ?_))
          show Value.int 0 = Value.int (if t < ln (adr (M.1 + 1 + j)) then I' (vx (adr (M.1 + 1 + j)) t) (ix (adr (M.1 + 1 + j)) t) else 0)
          rw [hkj.2]
          by_cases ht : t < 10
          · rw [if_pos ht, hIin j hj t ht]
          · rw [if_neg ht]
        · rw [List.getElem?_eq_none (by rw [wl_len]; show M.1 + 7 ≤ k9; omega)] at hk9
          cases hk9
  have k1 := k F.heap hHV (vaS_push hS (by omega) hold) hl ls hls
  have e2 : cv g (.ref (adr M.1)) = .ref H.size := by show Value.ref (ad g (adr M.1)) = _; rw [ad_own hA.1, hA.2.1, hH.2.1]
  have e3 : M.1 + 7 - n0 = M.1 - n0 + 1 + 6 := by omega
  have e4 : sl (M.1 + 7) - sl n0 = sl M.1 - sl n0 + 6 + 6 * 10 := by omega
  have k2 : W p l e R s m args below meth c F.heap locs (M.1 + 7 - n0) (sl (M.1 + 7) - sl n0) Q (F0 m (pc + 4) ls (cv g (.ref (adr M.1)) :: st.map (cv g))) := k1
  rw [e2, e3, e4] at k2
  obtain ⟨t, a1, b1⟩ := k2 F rfl X'
  refine ⟨t, step t ?_, b1⟩
  have e9 : T.heap.size = H.size := by rw [hT]
  rw [e9]
  exact a1
end SND8
end
section
section SND9
variable {p : Program} {l : Launch} {e : Env} {R : Room} {s : State} {m : MethodId} {args : Array Value} {below : List Frame} {meth : Method} {c : Code} {Q : State → Prop} {g : Gl} {K n0 : Nat}
variable {i : Instr} {len pc : Nat} {L : Lo} {st : List Value} {M : Mm} {H : Heap} {locs : List Loc} {F : Orc}
theorem mono_M {x : Cf} (h : stM K i pc L st M = some x) : M.1 ≤ x.2.2.2.1 := by
  unfold stM at h
  split at h
  case h_1 | h_2 | h_3 | h_5 => obtain ⟨z, -, rfl⟩ := Option.map_eq_some_iff.mp h; exact Nat.le_refl _
  case h_17 | h_18 | h_19 =>
    obtain ⟨-, hh⟩ := Option.ite_none_right_eq_some.mp h
    have hh := Option.some.inj hh
    subst hh
    first | exact Nat.le_succ _ | exact Nat.le_add_right _ _
  case h_4 | h_6 | h_7 | h_8 | h_9 | h_16 =>
    first
    | (split at h
       · first
         | (cases h; first | exact Nat.le_refl _ | exact Nat.le_succ _ | exact Nat.le_add_right _ _)
         | (split at h
            · cases h; first | exact Nat.le_refl _ | exact Nat.le_succ _ | exact Nat.le_add_right _ _
            · cases h)
       · cases h)
  case h_10 =>
    split at h
    · obtain ⟨z, -, rfl⟩ := Option.map_eq_some_iff.mp h; exact Nat.le_refl _
    · cases h
  case h_11 =>
    split at h
    · split at h
      · obtain ⟨z, -, rfl⟩ := Option.map_eq_some_iff.mp h; exact Nat.le_refl _
      · cases h
    · cases h
  case h_12 | h_13 | h_14 | h_15 =>
    split at h
    · cases h; exact Nat.le_refl _
    · cases h
  case h_20 => cases h
theorem snd_M (hX : FXD p R s m args meth c g K n0) (hH : HV g M H) (hS : va_S (fun q => g.1 ≤ q) s.heap H locs) (hnM : n0 ≤ M.1) {x : Cf} (d : decode (cod K) pc = .ok (i, len)) (hk : lok i len = true) (h : stM K i pc L st M = some x) (hrc : x.2.2.2.1 - n0 ≤ R.cells) (hrs : sl x.2.2.2.1 - sl n0 ≤ R.slots)
    (k : ∀ (H1 : Heap) (locs1 : List Loc), HV g x.2.2.2 H1 → va_S (fun q => g.1 ≤ q) s.heap H1 locs1 → WW p l e R s m args below meth c Q g K n0 H1 locs1 x) : WW p l e R s m args below meth c Q g K n0 H locs (pc, L, st, M) := by
  unfold stM at h
  split at h
  · have q : len = 1 := by simpa [lok] using hk
    subst q
    obtain ⟨z, hz, rfl⟩ := Option.map_eq_some_iff.mp h
    exact snd_ard hX hH hS (Or.inl ⟨rfl, rfl⟩) d hz (k H locs hH hS)
  · have q : len = 1 := by simpa [lok] using hk
    subst q
    obtain ⟨z, hz, rfl⟩ := Option.map_eq_some_iff.mp h
    exact snd_ard hX hH hS (Or.inr (Or.inl ⟨rfl, rfl⟩)) d hz (k H locs hH hS)
  · have q : len = 1 := by simpa [lok] using hk
    subst q
    obtain ⟨z, hz, rfl⟩ := Option.map_eq_some_iff.mp h
    exact snd_ard hX hH hS (Or.inr (Or.inr ⟨rfl, rfl⟩)) d hz (k H locs hH hS)
  · have q : len = 1 := by simpa [lok] using hk
    subst q
    split at h
    · rename_i hc
      cases h
      exact snd_aald hX hH d hc.1 ⟨hc.2.1, hc.2.2.1⟩ hc.2.2.2 (k H locs hH hS)
    · cases h
  · have q : len = 1 := by simpa [lok] using hk
    subst q
    obtain ⟨z, hz, rfl⟩ := Option.map_eq_some_iff.mp h
    exact snd_alen hX hH hS d hz (k H locs hH hS)
  · have q : len = 1 := by simpa [lok] using hk
    subst q
    split at h
    · rename_i hc
      cases h
      exact snd_ast hX hH hS (Or.inl ⟨rfl, rfl, rfl⟩) d hc.1 ⟨hc.2.1, hc.2.2.1⟩ hc.2.2.2 k
    · cases h
  · have q : len = 1 := by simpa [lok] using hk
    subst q
    split at h
    · rename_i hc
      cases h
      exact snd_ast hX hH hS (Or.inr (Or.inl ⟨rfl, rfl, rfl⟩)) d hc.1 ⟨hc.2.1, hc.2.2.1⟩ hc.2.2.2 k
    · cases h
  · have q : len = 1 := by simpa [lok] using hk
    subst q
    split at h
    · rename_i hc
      cases h
      exact snd_ast hX hH hS (Or.inr (Or.inr ⟨rfl, rfl, rfl⟩)) d hc.1 ⟨hc.2.1, hc.2.2.1⟩ hc.2.2.2 k
    · cases h
  · have q : len = 1 := by simpa [lok] using hk
    subst q
    split at h
    · rename_i hc
      cases h
      exact snd_aast hX hH hS d hc.1 ⟨hc.2.1, hc.2.2.1⟩ hc.2.2.2.1 hc.2.2.2.2.1 ⟨hc.2.2.2.2.2.1, hc.2.2.2.2.2.2⟩ k
    · cases h
  · have q : len = 3 := by simpa [lok] using hk
    subst q
    split at h
    · rename_i y hy
      obtain ⟨z, hz, rfl⟩ := Option.map_eq_some_iff.mp h
      exact snd_getf hX hH hS d hy hz (k H locs hH hS)
    · cases h
  · have q : len = 3 := by simpa [lok] using hk
    subst q
    split at h
    · rename_i y hy
      split at h
      · rename_i hw
        obtain ⟨z, hz, rfl⟩ := Option.map_eq_some_iff.mp h
        exact snd_putf hX hH hS d hy hw hz k
      · cases h
    · cases h
  · have q : len = 3 := by simpa [lok] using hk
    subst q
    split at h
    · rename_i y hy
      cases h
      exact snd_gets hX hS d hy (k H locs hH hS)
    · cases h
  · have q : len = 2 := by simpa [lok] using hk
    subst q
    split at h
    · rename_i y hy
      cases h
      exact snd_ldc hX d hy (k H locs hH hS)
    · cases h
  · have q : len = 3 := by simpa [lok] using hk
    subst q
    split at h
    · rename_i o1 i1 v hy
      cases h
      exact snd_ldcw hX d hy (k H locs hH hS)
    · cases h
  · have q : len = 3 := by simpa [lok] using hk
    subst q
    split at h
    · rename_i y hy
      cases h
      exact snd_ldc2 hX d hy (k H locs hH hS)
    · cases h
  · have q : len = 3 := by simpa [lok] using hk
    subst q
    split at h
    · rename_i y hy
      split at h
      · rename_i hc
        cases h
        exact snd_new hX hH hS hnM hrc hrs d hy hc.1 hc.2 (fun H1 h1 h2 => k H1 locs h1 h2)
      · cases h
    · cases h
  · have q : len = 2 := by simpa [lok] using hk
    subst q
    obtain ⟨hc, hh⟩ := Option.ite_none_right_eq_some.mp h
    cases hh
    exact snd_newa hX hH hS hnM hrc hrs d hc.1 hc.2.1 hc.2.2.1 hc.2.2.2 (fun H1 h1 h2 => k H1 locs h1 h2)
  · have q : len = 3 := by simpa [lok] using hk
    subst q
    obtain ⟨hc, hh⟩ := Option.ite_none_right_eq_some.mp h
    cases hh
    exact snd_anew hX hH hS hnM hrc hrs d hc.1 hc.2.1 hc.2.2.1 hc.2.2.2.1 hc.2.2.2.2 (fun H1 h1 h2 => k H1 locs h1 h2)
  · have q : len = 4 := by simpa [lok] using hk
    subst q
    obtain ⟨hc, hh⟩ := Option.ite_none_right_eq_some.mp h
    have hh := Option.some.inj hh
    obtain ⟨c1, rfl, c3, c4, rfl, rfl, c7, c8⟩ := hc
    subst hh
    exact snd_mna hX hH hS hnM hrc hrs d c1 c3 c4 c7 c8 rfl rfl (fun H1 h1 h2 => k H1 locs h1 h2)
  · cases h
/-- what is asked of the calls -/
def ORC (l : Launch) (g : Gl) (F : Orc) (r : Nat) : Prop := ∀ (y : Nat) (av : List Value) (M : Mm) (v : Option Value) (M' : Mm), y < 171 → rk y < r → F y av M = some (v, M') → M.1 ≤ M'.1 ∧ MetK l g y av M v M'
theorem mono_C {x : Cf} (hF : ORC l g F (rk K)) (h : stC F K i pc L st M = some x) : M.1 ≤ x.2.2.2.1 := by
  unfold stC at h
  split at h
  · split at h
    · rename_i y hy
      split at h
      · rename_i hc
        obtain ⟨z, hz, rfl⟩ := Option.map_eq_some_iff.mp h
        exact (hF _ _ _ z.1 z.2 (nm_ok hy).1 hc.2.2.2.1 hz).1
      · cases h
    · split at h
      · split at h
        · obtain ⟨z, hz, rfl⟩ := Option.map_eq_some_iff.mp h
          exact Nat.le_refl _
        · cases h
      · cases h
  · split at h
    · rename_i y hy
      split at h
      · split at h
        · rename_i hc
          obtain ⟨z, hz, rfl⟩ := Option.map_eq_some_iff.mp h
          exact (hF _ _ _ z.1 z.2 (nm_ok hy).1 hc.2.2.2.1 hz).1
        · cases h
      · cases h
    · cases h
  · split at h
    · rename_i y hy
      split at h
      · split at h
        · rename_i hc
          split at h
          · rename_i M' hz
            cases h
            exact (hF _ _ _ none M' (nm_ok hy).1 hc.2.2.2.1 hz).1
          · cases h
        · cases h
      · cases h
    · split at h
      · split at h
        · cases h; exact Nat.le_refl _
        · cases h
      · cases h
  · cases h
theorem snd_C (hX : FXD p R s m args meth c g K n0) (hF : ORC l g F (rk K)) (hH : HV g M H) (hS : va_S (fun q => g.1 ≤ q) s.heap H locs) (hnM : n0 ≤ M.1) {x : Cf} (d : decode (cod K) pc = .ok (i, len)) (hk : lok i len = true) (h : stC F K i pc L st M = some x) (hrc : x.2.2.2.1 - n0 ≤ R.cells) (hrs : sl x.2.2.2.1 - sl n0 ≤ R.slots)
    (k : ∀ (H1 : Heap) (locs1 : List Loc), HV g x.2.2.2 H1 → va_S (fun q => g.1 ≤ q) s.heap H1 locs1 → WW p l e R s m args below meth c Q g K n0 H1 locs1 x) : WW p l e R s m args below meth c Q g K n0 H locs (pc, L, st, M) := by
  unfold stC at h
  split at h
  · have q : len = 3 := by simpa [lok] using hk
    subst q
    split at h
    · rename_i y hy
      split at h
      · rename_i hc
        obtain ⟨z, hz, rfl⟩ := Option.map_eq_some_iff.mp h
        obtain ⟨c1, c2, c3, c4, c5⟩ := hc
        obtain ⟨m1, m2⟩ := hF _ _ _ z.1 z.2 (nm_ok hy).1 c4 hz
        have hst : st = (st.take y.2.2.2.2.2.2.2.2).reverse.reverse ++ st.drop y.2.2.2.2.2.2.2.2 := by rw [List.reverse_reverse, List.take_append_drop]
        have hl : (st.drop y.2.2.2.2.2.2.2.2).length ≤ 4 := by rw [List.length_drop]; omega
        have ha : ((st.take y.2.2.2.2.2.2.2.2).reverse).length = y.2.2.2.2.2.2.2.2 := by rw [List.length_reverse, List.length_take]; omega
        generalize hav : (st.take y.2.2.2.2.2.2.2.2).reverse = av at hst m2 ha
        generalize hrs9 : st.drop y.2.2.2.2.2.2.2.2 = rst at hst hl k
        rw [hst]
        exact snd_calls hX hH hS hnM m1 hrc hrs d hy c1 c4 c5 ha hl m2 k
      · cases h
    · split at h
      · rename_i hn
        split at h
        · rename_i hc
          obtain ⟨z, hz, rfl⟩ := Option.map_eq_some_iff.mp h
          exact snd_cpy hX hH hS d hn hc.1 hc.2 hz k
        · cases h
      · cases h
  · have q : len = 3 := by simpa [lok] using hk
    subst q
    split at h
    · rename_i y hy
      split at h
      · rename_i a r hdr
        split at h
        · rename_i hc
          obtain ⟨z, hz, rfl⟩ := Option.map_eq_some_iff.mp h
          obtain ⟨c1, c2, c3, c4, c5, c6⟩ := hc
          obtain ⟨m1, m2⟩ := hF _ _ _ z.1 z.2 (nm_ok hy).1 c4 hz
          have hst : st = (st.take y.2.2.2.2.2.2.2.2).reverse.reverse ++ .ref a :: r := by rw [List.reverse_reverse, ← hdr, List.take_append_drop]
          have ha : ((st.take y.2.2.2.2.2.2.2.2).reverse).length = y.2.2.2.2.2.2.2.2 := by rw [List.length_reverse, List.length_take]; omega
          generalize hav : (st.take y.2.2.2.2.2.2.2.2).reverse = av at hst m2 ha
          rw [hst]
          exact snd_callv hX hH hS hnM m1 hrc hrs d hy c1 c4 c5 ha c3 c6 m2 k
        · cases h
      · cases h
    · cases h
  · have q : len = 3 := by simpa [lok] using hk
    subst q
    split at h
    · rename_i y hy
      split at h
      · rename_i a r hdr
        split at h
        · rename_i hc
          split at h
          · rename_i M' hz
            cases h
            obtain ⟨c1, c2, c3, c4, c5⟩ := hc
            obtain ⟨m1, m2⟩ := hF _ _ _ none M' (nm_ok hy).1 c4 hz
            have hst : st = (st.take y.2.2.2.2.2.2.2.2).reverse.reverse ++ .ref a :: r := by rw [List.reverse_reverse, ← hdr, List.take_append_drop]
            have ha : ((st.take y.2.2.2.2.2.2.2.2).reverse).length = y.2.2.2.2.2.2.2.2 := by rw [List.length_reverse, List.length_take]; omega
            generalize hav : (st.take y.2.2.2.2.2.2.2.2).reverse = av at hst m2 ha
            rw [hst]
            exact snd_calli hX hH hS hnM m1 hrc hrs d hy c1 c4 c5 ha c3 m2 k
          · cases h
        · cases h
      · cases h
    · split at h
      · rename_i hn
        split at h
        · rename_i hc
          cases h
          exact snd_oin hX d hn hc.1 hc.2 (k H locs hH hS)
        · cases h
      · cases h
  · cases h
theorem stp_cases {x : Cf} {z : Cf ⊕ Rz} (h : stp F K x = some z) : ∃ (i : Instr) (len : Nat), decode (cod K) x.1 = .ok (i, len) ∧ lok i len = true ∧
    ((∃ r, z = .inr r ∧ stR K i x.2.2.1 x.2.2.2 = some r) ∨ (∃ y, z = .inl y ∧ (stA i x.1 x.2.1 x.2.2.1 x.2.2.2 = some y ∨ stBn i x.1 x.2.1 x.2.2.1 x.2.2.2 = some y ∨ stUn i x.1 x.2.1 x.2.2.1 x.2.2.2 = some y ∨ stJ i len x.1 x.2.1 x.2.2.1 x.2.2.2 = some y ∨ stM K i x.1 x.2.1 x.2.2.1 x.2.2.2 = some y ∨ stC F K i x.1 x.2.1 x.2.2.1 x.2.2.2 = some y))) := by
  unfold stp at h
  split at h
  · cases h
  · rename_i i len d
    split at h
    · cases h
    · rename_i hk
      refine ⟨i, len, d, by simpa using hk, ?_⟩
      split at h
      · rename_i r hr
        cases h
        exact Or.inl ⟨r, rfl, hr⟩
      · right
        split at h
        · rename_i y hy
          cases h
          exact ⟨y, rfl, Or.inl hy⟩
        · split at h
          · rename_i y hy
            cases h
            exact ⟨y, rfl, Or.inr (Or.inl hy)⟩
          · split at h
            · rename_i y hy
              cases h
              exact ⟨y, rfl, Or.inr (Or.inr (Or.inl hy))⟩
            · split at h
              · rename_i y hy
                cases h
                exact ⟨y, rfl, Or.inr (Or.inr (Or.inr (Or.inl hy)))⟩
              · split at h
                · rename_i y hy
                  cases h
                  exact ⟨y, rfl, Or.inr (Or.inr (Or.inr (Or.inr (Or.inl hy))))⟩
                · split at h
                  · rename_i y hy
                    cases h
                    exact ⟨y, rfl, Or.inr (Or.inr (Or.inr (Or.inr (Or.inr hy))))⟩
                  · cases h
theorem stR_mem {r : Rz} (h : stR K i st M = some r) : r.2 = M := by
  unfold stR at h
  split at h
  · split at h
    · split at h
      · cases h; rfl
      · cases h
    · cases h
  · split at h
    · cases h; rfl
    · cases h
  · split at h
    · cases h; rfl
    · cases h
  · cases h
theorem same_A {y : Cf} (h : stA i pc L st M = some y) : y.2.2.2 = M := by
  unfold stA at h
  split at h
  · cases h; rfl
  · split at h
    · split at h
      · split at h
        · cases h; rfl
        · cases h
      · cases h
    · split at h
      · split at h
        · split at h
          · split at h
            · split at h
              · cases h; rfl
              · cases h
            · split at h
              · cases h; rfl
              · cases h
          · cases h
        · cases h
      · cases h
theorem same_B {y : Cf} (h : stBn i pc L st M = some y) : y.2.2.2 = M := by
  unfold stBn at h
  split at h
  · obtain ⟨z, hz, rfl⟩ := Option.map_eq_some_iff.mp h; rfl
  · split at h
    · cases h; rfl
    · obtain ⟨z, hz, rfl⟩ := Option.map_eq_some_iff.mp h; rfl
  · obtain ⟨z, hz, rfl⟩ := Option.map_eq_some_iff.mp h; rfl
  · obtain ⟨z, hz, rfl⟩ := Option.map_eq_some_iff.mp h; rfl
  · obtain ⟨z, hz, rfl⟩ := Option.map_eq_some_iff.mp h; rfl
  · cases h
theorem same_U {y : Cf} (h : stUn i pc L st M = some y) : y.2.2.2 = M := by
  unfold stUn at h
  split at h
  · obtain ⟨z, hz, rfl⟩ := Option.map_eq_some_iff.mp h; rfl
  · cases h
theorem same_J {y : Cf} (h : stJ i len pc L st M = some y) : y.2.2.2 = M := by
  unfold stJ at h
  split at h
  · split at h
    · cases h; rfl
    · cases h
  · split at h
    · split at h
      · cases h; rfl
      · cases h
    · cases h
  · split at h
    · split at h
      · cases h; rfl
      · cases h
    · cases h
  · split at h
    · split at h
      · cases h; rfl
      · cases h
    · cases h
  · split at h
    · split at h
      · split at h
        · cases h; rfl
        · cases h
      · split at h
        · split at h
          · cases h; rfl
          · cases h
        · cases h
    · cases h
  · split at h
    · split at h
      · cases h; rfl
      · cases h
    · cases h
  · split at h
    · split at h
      · cases h; rfl
      · cases h
    · cases h
  · split at h
    · split at h
      · cases h; rfl
      · cases h
    · cases h
  · split at h
    · split at h
      · cases h; rfl
      · cases h
    · cases h
  · cases h
theorem run_mono1 (hF : ORC l g F (rk K)) : ∀ (f : Nat) (x : Cf) (v : Option Value) (M' : Mm), run F K f x = some (v, M') → x.2.2.2.1 ≤ M'.1 := by
  intro f
  induction f with
  | zero => intro x v M' h; cases h
  | succ f ih =>
    intro x v M' h
    rw [run] at h
    cases hs : stp F K x with
    | none => rw [hs] at h; cases h
    | some z =>
      rw [hs] at h
      obtain ⟨i, len, d, hk, hcase⟩ := stp_cases hs
      rcases hcase with ⟨r, rfl, hr⟩ | ⟨y, rfl, hy⟩
      · have h2 := Option.some.inj h
        have := stR_mem hr
        rw [h2] at this
        rw [← this]
        exact Nat.le_refl _
      · have h2 := ih y v M' h
        have h3 : x.2.2.2.1 ≤ y.2.2.2.1 := by
          rcases hy with h | h | h | h | h | h
          · rw [same_A h]; exact Nat.le_refl _
          · rw [same_B h]; exact Nat.le_refl _
          · rw [same_U h]; exact Nat.le_refl _
          · rw [same_J h]; exact Nat.le_refl _
          · exact mono_M h
          · exact mono_C hF h
        exact Nat.le_trans h3 h2
/-- a picture's run is a run of the machine -/
theorem run_sound (hX : FXD p R s m args meth c g K n0) (hF : ORC l g F (rk K)) {v : Option Value} {M' : Mm} (hrc : M'.1 - n0 ≤ R.cells) (hrs : sl M'.1 - sl n0 ≤ R.slots)
    (END : ∀ (pc : Nat) (st : List Value) (H : Heap) (locs : List Loc) (i : Instr) (len : Nat) (ls : Array Slot), decode (cod K) pc = .ok (i, len) → lok i len = true → stR K i st M' = some (v, M') → HV g M' H → va_S (fun q => g.1 ≤ q) s.heap H locs → W p l e R s m args below meth c H locs (M'.1 - n0) (sl M'.1 - sl n0) Q (F0 m pc ls (st.map (cv g)))) :
    ∀ (f : Nat) (x : Cf) (H : Heap) (locs : List Loc), run F K f x = some (v, M') → n0 ≤ x.2.2.2.1 → HV g x.2.2.2 H → va_S (fun q => g.1 ≤ q) s.heap H locs → WW p l e R s m args below meth c Q g K n0 H locs x := by
  intro f
  induction f with
  | zero => intro x H locs h; cases h
  | succ f ih =>
    intro x H locs h hn hH hS
    have hm := run_mono1 hF (f + 1) x v M' h
    rw [run] at h
    cases hs : stp F K x with
    | none => rw [hs] at h; cases h
    | some z =>
      rw [hs] at h
      obtain ⟨i, len, d, hk, hcase⟩ := stp_cases hs
      rcases hcase with ⟨r, rfl, hr⟩ | ⟨y, rfl, hy⟩
      · have h2 : r = (v, M') := Option.some.inj h
        subst h2
        have h3 := stR_mem hr
        obtain ⟨pc, L, st, M⟩ := x
        have h4 : M' = M := h3
        subst h4
        exact fun _ ls _ => END pc st H locs i len ls d hk hr hH hS
      · have h2 : run F K f y = some (v, M') := h
        have h3 := run_mono1 hF f y v M' h2
        have h4 := sl_mono h3
        obtain ⟨pc, L, st, M⟩ := x
        rcases hy with h | h | h | h | h | h
        · have e9 : y.2.2.2 = M := same_A h
          exact (snd_A hX d hk h (ih y H locs h2 (by rw [e9]; exact hn) (by rw [e9]; exact hH) hS)).1
        · have e9 : y.2.2.2 = M := same_B h
          exact (snd_Bn hX d hk h (ih y H locs h2 (by rw [e9]; exact hn) (by rw [e9]; exact hH) hS)).1
        · have e9 : y.2.2.2 = M := same_U h
          exact (snd_Un hX d hk h (ih y H locs h2 (by rw [e9]; exact hn) (by rw [e9]; exact hH) hS)).1
        · have e9 : y.2.2.2 = M := same_J h
          exact (snd_J hX d hk h (ih y H locs h2 (by rw [e9]; exact hn) (by rw [e9]; exact hH) hS)).1
        · have h5 : M.1 ≤ y.2.2.2.1 := mono_M h
          exact snd_M hX hH hS hn d hk h (by omega) (by omega) (fun H1 locs1 k1 k2 => ih y H1 locs1 h2 (Nat.le_trans hn h5) k1 k2)
        · have h5 : M.1 ≤ y.2.2.2.1 := mono_C hF h
          exact snd_C hX hF hH hS hn d hk h (by omega) (by omega) (fun H1 locs1 k1 k2 => ih y H1 locs1 h2 (Nat.le_trans hn h5) k1 k2)
end SND9
end
section
theorem plain_all : (List.range 171).all (fun y => plainFor (nm y)) = true := by decide +kernel
theorem ina_args {g : Gl} : ∀ (av : List Value) (i k : Nat) (v : Value), (ina av)[k]? = some (some v) → (i + k, cv g v) ∈ lv_args i (av.map (cv g))
  | [], i, k, v, h => by simp [ina] at h
  | w :: av, i, k, v, h => by
    rw [List.map_cons, lv_args, cv_cat]
    rw [ina] at h
    by_cases hc : w.category = 2
    · rw [if_pos hc] at h ⊢
      match k, h with
      | 0, h =>
        simp at h
        subst h
        exact List.mem_cons_self
      | 1, h => simp at h
      | k + 2, h =>
        have h2 : (ina av)[k]? = some (some v) := by simpa using h
        have := ina_args (g := g) av (i + 2) k v h2
        rw [show i + 2 + k = i + (k + 2) by omega] at this
        exact List.mem_cons_of_mem _ this
    · rw [if_neg hc] at h ⊢
      match k, h with
      | 0, h =>
        simp at h
        subst h
        exact List.mem_cons_self
      | k + 1, h =>
        have h2 : (ina av)[k]? = some (some v) := by simpa using h
        have := ina_args (g := g) av (i + 1) k v h2
        rw [show i + 1 + k = i + (k + 1) by omega] at this
        exact List.mem_cons_of_mem _ this
theorem ina_len {g : Gl} : ∀ av : List Value, (lg_sl (av.map (cv g))).length = (ina av).length
  | [] => rfl
  | w :: av => by
    have ih := ina_len (g := g) av
    rw [List.map_cons, ina]
    unfold lg_sl at ih ⊢
    rw [List.flatMap_cons, List.length_append, ih, cv_cat]
    by_cases hc : w.category = 2
    · rw [if_pos hc, if_pos hc]
      simp
      omega
    · rw [if_neg hc, if_neg hc]
      simp
      omega
theorem ini_at {y k : Nat} {av : List Value} {v : Value} (h : (ini y av)[k]? = some (some v)) : (ina av)[k]? = some (some v) := by
  unfold ini at h
  by_cases hk : k < (ina av).length
  · rw [List.getElem?_append_left hk] at h
    exact h
  · rw [List.getElem?_append_right (by omega)] at h
    by_cases h2 : k - (ina av).length < mxl y - (ina av).length
    · rw [List.getElem?_replicate, if_pos h2] at h
      cases h
    · rw [List.getElem?_replicate, if_neg h2] at h
      cases h
theorem ini_len {y : Nat} {av : List Value} (h : (ina av).length ≤ mxl y) : (ini y av).length = mxl y := by
  unfold ini
  rw [List.length_append, List.length_replicate]
  omega
/-- a method's locals at its entry -/
theorem entry_lo {g : Gl} {y : Nat} {av : List Value} (h : (ina av).length ≤ mxl y) : lv_has ((lg_sl (av.map (cv g)) ++ List.replicate (mxl y - (lg_sl (av.map (cv g))).length) Slot.unset).toArray) (mxl y) (asc g 0 (ini y av)) := by
  have h1 := lv_entry (av.map (cv g)) (n := mxl y) (by rw [ina_len]; exact h)
  exact lo_sub h1 (fun k v hk => by
    have := ina_args (g := g) av 0 k v (ini_at hk)
    rw [Nat.zero_add] at this
    exact this)
theorem met_of_run {l : Launch} {g : Gl} {F : Orc} {y f : Nat} {av : List Value} {M M' : Mm} {v : Option Value} (hy : y < 171) (hF : ORC l g F (rk y)) (h : run F y f (0, ini y av, [], M) = some (v, M')) (hlen : (ina av).length ≤ mxl y) : MetK l g y av M v M' := by
  refine va_MetF (cc := cod y) (maxL := mxl y) (ret := rtt y) (List.all_eq_true.mp plain_all y (List.mem_range.mpr hy)) rfl ?_
  intro p e s m args below meth c s₁ B hml hv
  obtain ⟨rfl, hH, hE⟩ := hv
  have hts := atoms_spec (ws := wsK y) B.pre
  have hown : s.vm.findClass (nm y).cls = some m.cls := findClass_of_methodNamed B.named
  have hlocks := B.notSynchronized
  have hr := B.returns
  have hX : FXD p (rmK y M M') s m (av.map (cv g)).toArray meth c g y M.1 := ⟨B.exec, B.bytes, hml, hown, fun w h1 h2 => hts w (List.mem_cons_of_mem _ (List.mem_filter.mpr ⟨h1, h2⟩)), fun q => by rw [(name_of_methodNamed B.named B.method).1]; exact q, hE, hH.2.1, Nat.le_refl _, Nat.le_refl _⟩
  have hfin : ∀ (H : Heap) (locs : List Loc) (o : Option Value), HV g M' H → va_S (fun q => g.1 ≤ q) s.heap H locs → ∀ t : State, t.heap = H → QB g v M' (av.map (cv g)).toArray s (.returned (v.map (cv g))) t := by
    intro H locs o h1 h2 t ht
    refine ⟨rfl, by rw [ht]; exact h1, by rw [ht]; exact h2.1, fun q hq => by rw [ht]; exact h2.2.1 q (by rw [hH.2.1]; omega) (by omega)⟩
  have key := run_sound (l := l) (e := e) (below := below) (Q := MQ below (QB g v M') (av.map (cv g)).toArray s (M'.1 - M.1) (sl M'.1 - sl M.1) (fun q => g.1 ≤ q)) hX hF (v := v) (M' := M') (Nat.le_refl _) (Nat.le_refl _) (fun pc st H locs i len ls d hk hst h1 h2 => by
    have hq := hfin H locs none h1 h2
    unfold stR at hst
    split at hst
    · have q : len = 1 := by simpa [lok] using hk
      subst q
      split at hst
      · rename_i ty hty
        split at hst
        · rename_i hn
          cases hst
          exact W.zret B.exec B.bytes (hr.trans hty) hn (fun t ht _ => hq t ht) (fun q hq => h2.2.2 q hq) d hlocks
        · cases hst
      · cases hst
    · have q : len = 1 := by simpa [lok] using hk
      subst q
      split at hst
      · rename_i hty
        cases hst
        exact W.lret B.exec B.bytes (hr.trans hty) (fun t ht _ => hq t ht) (fun q hq => h2.2.2 q hq) d hlocks
      · cases hst
    · have q : len = 1 := by simpa [lok] using hk
      subst q
      split at hst
      · rename_i hty
        cases hst
        exact W.vret B.exec B.bytes (hr.trans hty) (fun t ht _ => hq t ht) (fun q hq => h2.2.2 q hq) d hlocks
      · cases hst
    · cases hst) f (0, ini y av, [], M) s.heap [] h (Nat.le_refl _) hH va_S.rf
  have k1 := key (ini_len hlen) _ (entry_lo hlen)
  rw [lg_entry_eq]
  have e1 : M.1 - M.1 = 0 := Nat.sub_self _
  have e2 : sl M.1 - sl M.1 = 0 := Nat.sub_self _
  have k2 : W p l e (rmK y M M') s m (av.map (cv g)).toArray below meth c s.heap [] (M.1 - M.1) (sl M.1 - sl M.1) _ (F0 m 0 _ []) := k1
  rw [e1, e2] at k2
  exact k2
theorem G_sound (l : Launch) (g : Gl) : ∀ r : Nat, ORC l g (G r) r := by
  intro r
  induction r with
  | zero => intro y av M v M' _ h; omega
  | succ r ih =>
    intro y av M v M' hy hr h
    rw [G] at h
    have h1 : (if rk y = r ∧ (ina av).length ≤ mxl y then EV (G r) y (0, ini y av, [], M) else G r y av M) = some (v, M') := h
    by_cases hc : rk y = r ∧ (ina av).length ≤ mxl y
    · rw [if_pos hc] at h1
      obtain ⟨f, hf⟩ := EV_run h1
      have hF : ORC l g (G r) (rk y) := by rw [hc.1]; exact ih
      exact ⟨run_mono1 hF f _ v M' hf, met_of_run hy hF hf hc.2⟩
    · rw [if_neg hc] at h1
      by_cases e : rk y < r
      · exact ih y av M v M' hy e h1
      · rw [G_none av M (by omega)] at h1
        cases h1
end
section
/-! THE CLAIM OUT OF ONE WALK OF THE LAW'S BODY. Your part is whole_start (and what it stands on); all else here is the same for every law, but numbers. -/
def lw_P (b : Addr) (xs : List Int32) (args : Array Value) (s : State) : Prop := args = #[.ref b] ∧ s.IntsAt b xs ∧ xs.length ≤ 260 ∧ (Jvm.Cond.and given_1 narrow_1).before args s = true
/-- what a walk over the start with the record d0 says of its end, said of the start itself -/
theorem lw_closed {s t : State} {o : Outcome} {d0 : Drawn} {L : List Loc} {k n : Nat} (hd0 : s.drawn.sameBut d0 lw_cs) (hv : ∃ v, o = .returned v) (hW : (s.setDrawn d0).WarmedH t.vm) (hs : (s.setDrawn d0).sameButNew ({ t with vm := s.vm } : State) L k n) : State.butDraws s t lw_cs (fun t1 => Framed s o t1 L k n) := by
  have h2 : t.drawn = d0 := congrArg State.drawn hs.1
  refine ⟨⟨hv, hW, State.sameButNew.setDrawn hs s.drawn⟩, ?_, by decide⟩
  rw [h2]
  exact hd0
def lw_Q (_ : Array Value) (s : State) (o : Outcome) (t : State) : Prop := o = .returned (some (.int 1)) ∧ State.butDraws s t lw_cs (fun t1 => Framed s o t1 [] 600000 7302249)
def lw_Z (below : List Frame) (a : Array Value) (s : State) : State → Prop := fun t => ∃ o, t.status = .running ∧ Ended t below o ∧ lw_Q a s o t
/-- the law's own end, with 1 on the stack, nothing written that was there before, its room as the claim has it; d0: the record of draws at this point (at the entry s.drawn: begin with 'refine W.base ?_' and 'have hd0 := Drawn.sameBut.refl s.drawn lw_cs') -/
theorem lw_ret {p : Program} {l : Launch} {e : Env} {s : State} {m : MethodId} {below : List Frame} {meth : Method} {c : Code} {b : Nat} {d0 : Drawn} (hd0 : s.drawn.sameBut d0 lw_cs) (hx : p.tables.exec = Jvm.exec) (hb : c.code = code) (hr : meth.sig.returnType = ret) (hlocks : meth.locks = false) {pc : Nat} {H : Heap} {ls : Array Slot} (hdg : decode code pc = .ok (.ireturn, 1)) : W p l e room_1 (s.setDrawn d0) m #[Value.ref b] below meth c H [] 600000 7302249 (lw_Z below #[Value.ref b] s) (F0 m pc ls [.int 1]) := by
  intro T hT X
  obtain ⟨fs, hret, hrun, hended, hW, hframe⟩ := X.leave (v := some (.int 1)) (hlocks := hlocks) (fun h => by rw [hr] at h; cases h)
  have hmeth' : T.vm.method? m = some meth := X.method'
  refine ⟨T.setFrames fs, ?_, .returned (some (.int 1)), hrun, hended, rfl, lw_closed hd0 ⟨_, rfl⟩ hW hframe⟩
  jvm_step X.here [X.here.top, hx, hb, hdg, hmeth', hr, ret, narrow_b1]
  (try refine ⟨rfl, ?_⟩); (try refine ⟨rfl, ?_⟩)
  first | (intro acts; rw [hret _ acts rfl rfl rfl]) | rw [hret _ _ rfl rfl rfl]
  exact Steps.refl _
/-- what holds at the law's entry: the machine, the code, the tables' words (any of lw_tbl by 'hts w (by decide +kernel)'), the script of L ints xs at the cell b, what the Statement gives of the start (any of its parts by flat_of_before) -/
def lw_At (p : Program) (s : State) (m : MethodId) (meth : Method) (c : Code) (b L : Nat) (xs : Nat → Int32) : Prop :=
  p.tables.exec = Jvm.exec ∧ c.code = code ∧ meth.sig.returnType = ret ∧ c.maxLocals = 16 ∧ s.vm.findClass R_law = some m.cls ∧ (∀ w ∈ lw_tbl, w.before #[Value.ref b] s = true) ∧ va_X b L xs s s.heap ∧ b < s.heap.size ∧ meth.locks = false ∧ (Jvm.Cond.and given_1 narrow_1).before #[Value.ref b] s = true
/-! THE LAW'S START, and the claim out of the picture machine's answer for the law -/
theorem arrT_of {s : State} {c : ClassId} {ty : FieldType} {k : Class} {comp : ClassId} (h1 : s.vm.classes[c]? = some k) (h2 : k.kind = .array comp ty) : ArrOfT s c ty := fun N z => ⟨(fun q h => by cases h), k, h1, comp, h2⟩
/-- the pictures' first memory: the script alone -/
def I0 (L : Nat) (xs : Nat → Int32) : Nat → Nat → Int32 := fun v => if v = 60 then xs else if v = 61 then (fun _ => nI L) else fun _ => 0
def M0 (L : Nat) (xs : Nat → Int32) : Mm := (0, I0 L xs, fun _ _ => none)
theorem env_at {p : Program} {s : State} {m : MethodId} {meth : Method} {c : Code} {b L : Nat} {xs : Nat → Int32} (hL : L ≤ 260) (C0 : lw_At p s m meth c b L xs) : ∃ g : Gl, ENV g s ∧ g.1 = s.heap.size ∧ g.2.1 1000 = b ∧ HV g (M0 L xs) s.heap := by
  obtain ⟨hx, hb, hr, hml, hown, hts, hX, hbl, hlocks, hgv⟩ := C0
  have hs := flat_of_before _ hgv
  have hA : ∀ a : Nat, a < s.heap.size → ¬ (fun q : Nat => s.heap.size ≤ q) a := fun a h => Nat.not_le.mpr h
  have hA' : ∀ a : Nat, a < s.heap.size → ¬ (s.heap.size ≤ a) := fun a h => Nat.not_le.mpr h
  -- the classes
  obtain ⟨c0, i0, k0⟩ := u_known (C := RX0) (T := TX0) (N := 5) (n := 5) hts (fun w h => (gT_0 w h).1) (hts _ wi_0.1)
  obtain ⟨c1, i1, k1⟩ := u_known (C := RX1) (T := TX1) (N := 17) (n := 17) hts (fun w h => (gT_1 w h).1) (hts _ wi_1.1)
  obtain ⟨c2, i2, k2⟩ := u_known (C := RX2) (T := TX2) (N := 10) (n := 10) hts (fun w h => (gT_2 w h).1) (hts _ wi_2.1)
  obtain ⟨a5, y5, z5, f5, g5, e5⟩ := Cond.arrayClass_spec (hts _ wy_int.1)
  obtain ⟨a6, y6, z6, f6, g6, e6⟩ := Cond.arrayClass_spec (hts _ wy_char.1)
  obtain ⟨a7, y7, z7, f7, g7, e7⟩ := Cond.arrayClass_spec (hts _ wy_boolean.1)
  have hAO : va_AO "HandoverDesk$State" s := va_AO.of (hts _ wao_s)
  have hAA : aoa s := hts _ wao_i
  obtain ⟨z8, a8, y8, f8, n8, g8, e8, h8⟩ := Cond.arrayOver_spec (va_AO.use (A := #[]) hAO)
  obtain ⟨z9, a9, y9, f9, n9, g9, e9, h9⟩ := aoa_spec hAA
  -- what stands from before
  obtain ⟨t1, v1, T1⟩ := va_Tof (N := 6) (ty := .int) (tm := .static "HandoverDesk" "FIRST_SETTING" "[I") (f := fun j => .int (csI 1001 j)) (by decide) (hs _ (by decide +kernel)) (va_eqt (hs (.eq (.length (.static "HandoverDesk" "FIRST_SETTING" "[I")) (.int 6)) (by decide +kernel))) (fun j hj => by
    rcases (show j = 0 ∨ j = 1 ∨ j = 2 ∨ j = 3 ∨ j = 4 ∨ j = 5 by omega) with rfl | rfl | rfl | rfl | rfl | rfl
    · exact va_eqt (hs (.eq (.elem (.static "HandoverDesk" "FIRST_SETTING" "[I") (.int 0)) (.int 50)) (by decide +kernel))
    · exact va_eqt (hs (.eq (.elem (.static "HandoverDesk" "FIRST_SETTING" "[I") (.int 1)) (.int 5)) (by decide +kernel))
    · exact va_eqt (hs (.eq (.elem (.static "HandoverDesk" "FIRST_SETTING" "[I") (.int 2)) (.int 10)) (by decide +kernel))
    · exact va_eqt (hs (.eq (.elem (.static "HandoverDesk" "FIRST_SETTING" "[I") (.int 3)) (.int 8)) (by decide +kernel))
    · exact va_eqt (hs (.eq (.elem (.static "HandoverDesk" "FIRST_SETTING" "[I") (.int 4)) (.int 3)) (by decide +kernel))
    · exact va_eqt (hs (.eq (.elem (.static "HandoverDesk" "FIRST_SETTING" "[I") (.int 5)) (.int 40)) (by decide +kernel))) hA
  obtain ⟨t2, v2, T2⟩ := va_Tof (N := 6) (ty := .int) (tm := .static "HandoverDesk" "LEAST_SETTING" "[I") (f := fun j => .int (csI 1002 j)) (by decide) (hs _ (by decide +kernel)) (va_eqt (hs (.eq (.length (.static "HandoverDesk" "LEAST_SETTING" "[I")) (.int 6)) (by decide +kernel))) (fun j hj => by
    rcases (show j = 0 ∨ j = 1 ∨ j = 2 ∨ j = 3 ∨ j = 4 ∨ j = 5 by omega) with rfl | rfl | rfl | rfl | rfl | rfl
    · exact va_eqt (hs (.eq (.elem (.static "HandoverDesk" "LEAST_SETTING" "[I") (.int 0)) (.int 1)) (by decide +kernel))
    · exact va_eqt (hs (.eq (.elem (.static "HandoverDesk" "LEAST_SETTING" "[I") (.int 1)) (.int 1)) (by decide +kernel))
    · exact va_eqt (hs (.eq (.elem (.static "HandoverDesk" "LEAST_SETTING" "[I") (.int 2)) (.int 0)) (by decide +kernel))
    · exact va_eqt (hs (.eq (.elem (.static "HandoverDesk" "LEAST_SETTING" "[I") (.int 3)) (.int 0)) (by decide +kernel))
    · exact va_eqt (hs (.eq (.elem (.static "HandoverDesk" "LEAST_SETTING" "[I") (.int 4)) (.int 0)) (by decide +kernel))
    · exact va_eqt (hs (.eq (.elem (.static "HandoverDesk" "LEAST_SETTING" "[I") (.int 5)) (.int 0)) (by decide +kernel))) hA
  obtain ⟨t3, v3, T3⟩ := va_Tof (N := 6) (ty := .int) (tm := .static "HandoverDesk" "MOST_SETTING" "[I") (f := fun j => .int (csI 1003 j)) (by decide) (hs _ (by decide +kernel)) (va_eqt (hs (.eq (.length (.static "HandoverDesk" "MOST_SETTING" "[I")) (.int 6)) (by decide +kernel))) (fun j hj => by
    rcases (show j = 0 ∨ j = 1 ∨ j = 2 ∨ j = 3 ∨ j = 4 ∨ j = 5 by omega) with rfl | rfl | rfl | rfl | rfl | rfl
    · exact va_eqt (hs (.eq (.elem (.static "HandoverDesk" "MOST_SETTING" "[I") (.int 0)) (.int 100)) (by decide +kernel))
    · exact va_eqt (hs (.eq (.elem (.static "HandoverDesk" "MOST_SETTING" "[I") (.int 1)) (.int 20)) (by decide +kernel))
    · exact va_eqt (hs (.eq (.elem (.static "HandoverDesk" "MOST_SETTING" "[I") (.int 2)) (.int 50)) (by decide +kernel))
    · exact va_eqt (hs (.eq (.elem (.static "HandoverDesk" "MOST_SETTING" "[I") (.int 3)) (.int 20)) (by decide +kernel))
    · exact va_eqt (hs (.eq (.elem (.static "HandoverDesk" "MOST_SETTING" "[I") (.int 4)) (.int 99)) (by decide +kernel))
    · exact va_eqt (hs (.eq (.elem (.static "HandoverDesk" "MOST_SETTING" "[I") (.int 5)) (.int 999)) (by decide +kernel))) hA
  refine ⟨(s.heap.size, (fun a => if a = 1000 then b else if a = 1001 then t1 else if a = 1002 then t2 else t3), ((fun k => if k = 0 then c0 else if k = 1 then c1 else c2), (fun k => if k = 0 then i0 else if k = 1 then i1 else i2)), (fun k => if k = 5 then a5 else if k = 6 then a6 else if k = 7 then a7 else if k = 8 then a8 else a9), xs, nI L), ⟨⟨?_, ?_⟩, ?_⟩, rfl, rfl, ?_⟩
  · intro k q hq
    match k, hq with
    | 0, hq => cases hq; exact k0
    | 1, hq => cases hq; exact k1
    | 2, hq => cases hq; exact k2
    | k + 3, hq => simp [vwCl] at hq
  · intro k q hq
    match k, hq with
    | 0, hq => cases hq; exact ⟨arrT_of g5 e5, f5⟩
    | 1, hq => cases hq; exact ⟨arrT_of g6 e6, f6⟩
    | 2, hq => cases hq; exact ⟨arrT_of g7 e7, f7⟩
    | 3, hq => cases hq; exact ⟨arrT_of g8 e8, y8, z8, g8, e8, f8, h8⟩
    | 4, hq => cases hq; exact ⟨arrT_of g9 e9, h9⟩
    | k + 5, hq => simp [tysG] at hq
  · refine ⟨?_, hbl, hbl, ⟨va_Zref (hts _ wl_FIRST_SETTING) (hts _ wzz_desk.1) v1 hA, va_Zref (hts _ wl_LEAST_SETTING) (hts _ wzz_desk.1) v2 hA, va_Zref (hts _ wl_MOST_SETTING) (hts _ wzz_desk.1) v3 hA⟩, ?_, trivial, trivial, ?_, hAO, hAA⟩
    · show va_X b (nI L).toNatClampNeg xs s s.heap
      rw [nI_clamp (by omega)]
      exact hX
    · intro a ha hb4
      rcases (show a = 1001 ∨ a = 1002 ∨ a = 1003 by omega) with rfl | rfl | rfl
      · exact T1
      · exact T2
      · exact T3
    · exact ⟨va_Nw.of rfl (hts _ wnm_0), va_Nw.of rfl (hts _ wnm_1), va_Nw.of rfl (hts _ wnm_2), va_Nw.of rfl (hts _ wnf_0), va_Nw.of rfl (hts _ wnf_1), va_Nw.of rfl (hts _ wnf_2)⟩
  · refine ⟨Nat.zero_le _, rfl, fun k q h => ?_, rfl, rfl⟩
    rw [List.getElem?_eq_none (by rw [wl_len]; exact Nat.zero_le _)] at h
    cases h
/-- what is wanted of the pictures: the law answers 1 on every script -/
def LAWF : Prop := ∀ (L : Nat) (xs : Nat → Int32), L ≤ 260 → ∃ M' : Mm, M'.1 = 202 ∧ FF 171 [.ref 1000] (M0 L xs) = some (some (.int 1), M')
theorem start_of (hlaw : LAWF) {p : Program} {e : Env} {s : State} {m : MethodId} {below : List Frame} {meth : Method} {c : Code} (l : Launch) {b L : Nat} {xs : Nat → Int32} (hL : L ≤ 260) (C0 : lw_At p s m meth c b L xs) : W p l e room_1 s m #[Value.ref b] below meth c s.heap [] 0 0 (lw_Z below #[Value.ref b] s) (entryFrame m ([Value.ref b] : List Value).toArray 16) := by
  obtain ⟨g, hE, hg1, hgb, hH⟩ := env_at hL C0
  obtain ⟨hx, hb, hr, hml, hown, hts, hX, hbl, hlocks, hgv⟩ := C0
  have hd0 := Drawn.sameBut.refl s.drawn lw_cs
  refine W.base ?_
  obtain ⟨M', hM', hF⟩ := hlaw L xs hL
  obtain ⟨hlen, hEV⟩ := FF_some hF
  obtain ⟨f, hf⟩ := EV_run hEV
  have hE2 : ENV g (s.setDrawn s.drawn) := ENV_next (H := s.heap) (locs := []) hE (State.WarmedH.refl s) rfl va_S.rf
  have hXX : FXD p room_1 (s.setDrawn s.drawn) m #[Value.ref b] meth c g 171 0 := ⟨hx, hb, hml, hown, fun w h1 _ => dr_words hts _ w h1, fun q => absurd q (by decide +kernel), hE2, by show s.heap.size = g.1 + 0; rw [hg1]; rfl, by decide +kernel, by decide +kernel⟩
  have key := run_sound (l := l) (e := e) (below := below) (Q := lw_Z below #[Value.ref b] s) hXX (G_sound l g (rk 171)) (v := some (.int 1)) (M' := M') (by rw [hM']; decide +kernel) (by rw [hM']; decide +kernel) (fun pc st H locs i len ls d hk hst h1 h2 => by
    unfold stR at hst
    split at hst
    · have q : len = 1 := by simpa [lok] using hk
      subst q
      split at hst
      · split at hst
        · have h9 := Option.some.inj hst
          have h8 : Value.int _ = Value.int 1 := Option.some.inj (congrArg Prod.fst h9)
          have h7 := Value.int.inj h8
          subst h7
          refine va_forget (fun q hq => by have := h2.2.2 q hq; show s.heap.size ≤ q.base; rw [← hg1]; exact this) ?_
          refine W.widen (k := 600000) (n := 7302249) (by rw [hM']; decide +kernel) (by rw [hM']; decide +kernel) ?_
          exact lw_ret hd0 hx hb hr hlocks d
        · cases hst
      · cases hst
    · split at hst
      · cases hst
      · cases hst
    · split at hst
      · cases hst
      · cases hst
    · cases hst) f (0, ini 171 [.ref 1000], [], M0 L xs) s.heap [] hf (Nat.le_refl _) hH va_S.rf
  have k1 := key (ini_len hlen) _ (entry_lo hlen)
  have e5 : cv g (.ref 1000) = .ref b := by show Value.ref (ad g 1000) = _; rw [ad_ext (by decide), hgb]
  rw [lg_entry_eq]
  have k2 : W p l e room_1 (s.setDrawn s.drawn) m #[Value.ref b] below meth c s.heap [] 0 (sl 0 - sl 0) (lw_Z below #[Value.ref b] s) (F0 m 0 (lg_sl ([cv g (.ref 1000)]) ++ List.replicate (16 - (lg_sl ([cv g (.ref 1000)])).length) Slot.unset).toArray []) := k1
  rw [e5] at k2
  exact k2
end
