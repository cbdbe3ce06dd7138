-- ===== PART A: goes FIRST, ahead of the names: the tables' words, and 'selects' of the private methods out of them =====
/-- a private method of a class that the tables say can be made, by its rows of tables_1 -/
def lw_okq (q : MethodName × Nat) : Prop := (q.1.cls ≠ "java/lang/invoke/MethodHandle" ∧ q.1.cls ≠ "java/lang/invoke/VarHandle") ∧ Cond.instantiable q.1.cls q.2 ∈ tables_1 ∧ Cond.privateMethod q.1 ∈ tables_1 ∧ Cond.instanceMethod q.1 ∈ tables_1
theorem lw_p0 : lw_okq (⟨"HandoverDesk$State", "work", "([I)V"⟩, 17) := ⟨⟨by decide +kernel, by decide +kernel⟩, List.mem_of_getElem? (i := 16) (by decide +kernel), List.mem_of_getElem? (i := 181) (by decide +kernel), List.mem_of_getElem? (i := 182) (by decide +kernel)⟩
theorem lw_p1 : lw_okq (⟨"HandoverDesk$State", "passOn", "([I[II)I"⟩, 17) := ⟨⟨by decide +kernel, by decide +kernel⟩, List.mem_of_getElem? (i := 16) (by decide +kernel), List.mem_of_getElem? (i := 192) (by decide +kernel), List.mem_of_getElem? (i := 193) (by decide +kernel)⟩
theorem lw_p2 : lw_okq (⟨"HandoverDesk$State", "widestGap", "([I[I)I"⟩, 17) := ⟨⟨by decide +kernel, by decide +kernel⟩, List.mem_of_getElem? (i := 16) (by decide +kernel), List.mem_of_getElem? (i := 196) (by decide +kernel), List.mem_of_getElem? (i := 197) (by decide +kernel)⟩
theorem lw_p3 : lw_okq (⟨"HandoverDesk$State", "decay", "([I)V"⟩, 17) := ⟨⟨by decide +kernel, by decide +kernel⟩, List.mem_of_getElem? (i := 16) (by decide +kernel), List.mem_of_getElem? (i := 200) (by decide +kernel), List.mem_of_getElem? (i := 201) (by decide +kernel)⟩
theorem lw_p4 : lw_okq (⟨"HandoverDesk$State", "beginWithOpen", "([I)V"⟩, 17) := ⟨⟨by decide +kernel, by decide +kernel⟩, List.mem_of_getElem? (i := 16) (by decide +kernel), List.mem_of_getElem? (i := 204) (by decide +kernel), List.mem_of_getElem? (i := 205) (by decide +kernel)⟩
theorem lw_p5 : lw_okq (⟨"HandoverDesk$State", "missesOfChecklist", "([I)I"⟩, 17) := ⟨⟨by decide +kernel, by decide +kernel⟩, List.mem_of_getElem? (i := 16) (by decide +kernel), List.mem_of_getElem? (i := 208) (by decide +kernel), List.mem_of_getElem? (i := 209) (by decide +kernel)⟩
theorem lw_p6 : lw_okq (⟨"HandoverDesk", "recorded", "(I)I"⟩, 10) := ⟨⟨by decide +kernel, by decide +kernel⟩, List.mem_of_getElem? (i := 8) (by decide +kernel), List.mem_of_getElem? (i := 212) (by decide +kernel), List.mem_of_getElem? (i := 213) (by decide +kernel)⟩
theorem lw_p7 : lw_okq (⟨"HandoverDesk", "dropOldest", "()V"⟩, 10) := ⟨⟨by decide +kernel, by decide +kernel⟩, List.mem_of_getElem? (i := 8) (by decide +kernel), List.mem_of_getElem? (i := 216) (by decide +kernel), List.mem_of_getElem? (i := 217) (by decide +kernel)⟩
theorem lw_p8 : lw_okq (⟨"HandoverDesk$State", "putLevel", "(III)V"⟩, 17) := ⟨⟨by decide +kernel, by decide +kernel⟩, List.mem_of_getElem? (i := 16) (by decide +kernel), List.mem_of_getElem? (i := 372) (by decide +kernel), List.mem_of_getElem? (i := 373) (by decide +kernel)⟩
def lw_privs_1 : List (MethodName × Nat) := [(⟨"HandoverDesk$State", "work", "([I)V"⟩, 17), (⟨"HandoverDesk$State", "passOn", "([I[II)I"⟩, 17), (⟨"HandoverDesk$State", "widestGap", "([I[I)I"⟩, 17), (⟨"HandoverDesk$State", "decay", "([I)V"⟩, 17), (⟨"HandoverDesk$State", "beginWithOpen", "([I)V"⟩, 17), (⟨"HandoverDesk$State", "missesOfChecklist", "([I)I"⟩, 17), (⟨"HandoverDesk", "recorded", "(I)I"⟩, 10), (⟨"HandoverDesk", "dropOldest", "()V"⟩, 10), (⟨"HandoverDesk$State", "putLevel", "(III)V"⟩, 17)]
theorem lw_r1 : ∀ q ∈ lw_privs_1, lw_okq q := List.forall_mem_cons.mpr ⟨lw_p0, List.forall_mem_cons.mpr ⟨lw_p1, List.forall_mem_cons.mpr ⟨lw_p2, List.forall_mem_cons.mpr ⟨lw_p3, List.forall_mem_cons.mpr ⟨lw_p4, List.forall_mem_cons.mpr ⟨lw_p5, List.forall_mem_cons.mpr ⟨lw_p6, List.forall_mem_cons.mpr ⟨lw_p7, List.forall_mem_cons.mpr ⟨lw_p8, fun _ h => absurd h List.not_mem_nil⟩⟩⟩⟩⟩⟩⟩⟩⟩
def lw_privs : List (MethodName × Nat) := lw_privs_1
def lw_tbl : List Cond := k2_sels lw_privs ++ tables_1
theorem lw_privs_ok : ∀ q ∈ lw_privs, lw_okq q := lw_r1
/-- the streams that the claim lets the run draw from -/
abbrev lw_cs : List Choice := [Jvm.Choice.named "NaN.bits"]
theorem lw_bits : nanBits ∈ lw_cs := by first | decide | exact List.mem_cons_self | simp [lw_cs, nanBits]
-- ===== end of PART A; then your names; then what follows =====

def R_law : String := "HandoverDeskLaw"
def RX0 : String := "HandoverDesk$Pad"
def TX0 : u_T := fun k => match k with
  | 0 => ("HandoverDesk$Pad", "signs", "[C", true)
  | 1 => ("HandoverDesk$Pad", "values", "[I", true)
  | 2 => ("HandoverDesk$Pad", "length", "I", false)
  | 3 => ("HandoverDesk$Pad", "letter", "C", false)
  | _ => ("HandoverDesk$Pad", "at", "I", false)
def tyX0 : Nat → FieldType := fun k => match k with
  | 0 => .array .char
  | 1 => .array .int
  | 2 => .int
  | 3 => .char
  | _ => .int
abbrev wsX00 : List Cond := u_ws RX0 TX0 5
theorem nmX0 : ∀ a, a < 5 → ∀ b, b < 5 → a ≠ b → (TX0 a).2.1 ≠ (TX0 b).2.1 := by decide +kernel
theorem tyX0_ok : ∀ k, k < 5 → parseFieldDescriptor (TX0 k).2.2.1 = some (tyX0 k) := by decide +kernel

def RX1 : String := "HandoverDesk$State"
def TX1 : u_T := fun k => match k with
  | 0 => ("HandoverDesk$State", "settings", "[I", true)
  | 1 => ("HandoverDesk$State", "workerAt", "[I", true)
  | 2 => ("HandoverDesk$State", "minutesAt", "[I", true)
  | 3 => ("HandoverDesk$State", "levels", "[[I", true)
  | 4 => ("HandoverDesk$State", "checkedTopics", "[I", true)
  | 5 => ("HandoverDesk$State", "missesOf", "[I", true)
  | 6 => ("HandoverDesk$State", "begunWith", "[I", true)
  | 7 => ("HandoverDesk$State", "begunKnown", "[I", true)
  | 8 => ("HandoverDesk$State", "topics", "I", false)
  | 9 => ("HandoverDesk$State", "openSet", "I", false)
  | 10 => ("HandoverDesk$State", "checked", "I", false)
  | 11 => ("HandoverDesk$State", "shift", "I", false)
  | 12 => ("HandoverDesk$State", "misses", "I", false)
  | 13 => ("HandoverDesk$State", "minutesHad", "I", false)
  | 14 => ("HandoverDesk$State", "minutesIdle", "I", false)
  | 15 => ("HandoverDesk$State", "minutesCost", "I", false)
  | _ => ("HandoverDesk$State", "callsCost", "I", false)
def tyX1 : Nat → FieldType := fun k => match k with
  | 0 => .array .int
  | 1 => .array .int
  | 2 => .array .int
  | 3 => .array (.array .int)
  | 4 => .array .int
  | 5 => .array .int
  | 6 => .array .int
  | 7 => .array .int
  | 8 => .int
  | 9 => .int
  | 10 => .int
  | 11 => .int
  | 12 => .int
  | 13 => .int
  | 14 => .int
  | 15 => .int
  | _ => .int
abbrev wsX10 : List Cond := u_ws RX1 TX1 17
theorem nmX1 : ∀ a, a < 17 → ∀ b, b < 17 → a ≠ b → (TX1 a).2.1 ≠ (TX1 b).2.1 := by decide +kernel
theorem tyX1_ok : ∀ k, k < 17 → parseFieldDescriptor (TX1 k).2.2.1 = some (tyX1 k) := by decide +kernel

def RX2 : String := "HandoverDesk"
def TX2 : u_T := fun k => match k with
  | 0 => ("HandoverDesk", "now", "LHandoverDesk$State;", false)
  | 1 => ("HandoverDesk", "before", "LHandoverDesk$State;", false)
  | 2 => ("HandoverDesk", "history", "[LHandoverDesk$State;", true)
  | 3 => ("HandoverDesk", "undoable", "I", false)
  | 4 => ("HandoverDesk", "slots", "[LHandoverDesk$State;", true)
  | 5 => ("HandoverDesk", "saved", "[Z", true)
  | 6 => ("HandoverDesk", "pad", "LHandoverDesk$Pad;", true)
  | 7 => ("HandoverDesk", "trial", "LHandoverDesk$State;", true)
  | 8 => ("HandoverDesk", "secondTrial", "LHandoverDesk$State;", true)
  | _ => ("HandoverDesk", "thirdTrial", "LHandoverDesk$State;", true)
def tyX2 : Nat → FieldType := fun k => match k with
  | 0 => .object "HandoverDesk$State"
  | 1 => .object "HandoverDesk$State"
  | 2 => .array (.object "HandoverDesk$State")
  | 3 => .int
  | 4 => .array (.object "HandoverDesk$State")
  | 5 => .array .boolean
  | 6 => .object "HandoverDesk$Pad"
  | 7 => .object "HandoverDesk$State"
  | 8 => .object "HandoverDesk$State"
  | _ => .object "HandoverDesk$State"
abbrev wsX20 : List Cond := u_ws RX2 TX2 10
theorem nmX2 : ∀ a, a < 10 → ∀ b, b < 10 → a ≠ b → (TX2 a).2.1 ≠ (TX2 b).2.1 := by decide +kernel
theorem tyX2_ok : ∀ k, k < 10 → parseFieldDescriptor (TX2 k).2.2.1 = some (tyX2 k) := by decide +kernel

abbrev vwCl : List vw_C := [(RX0, TX0, 5), (RX1, TX1, 17), (RX2, TX2, 10)]
/-! own classes, by number -/
def cnL : List String := ["HandoverDesk$Pad", "HandoverDesk$State", "HandoverDesk", "HandoverDeskModel", "HandoverDeskLaw", "java/lang/Math", "java/lang/Integer", "java/lang/String", "java/lang/StringLatin1", "jdk/internal/util/Preconditions", "java/lang/Float", "java/lang/Double"]
def cn (o : Nat) : String := cnL.getD o ""
/-- a method: (own class, name, descriptor), its bytes, its locals' words, what it returns, its rank, whether it is static -/
abbrev Mi : Type := (Nat × String × String) × ByteArray × Nat × Option FieldType × Nat × Bool
def mtL0 : List Mi := [((0, "<init>", "()V"), prog_2_method_1_code, 1, none, 1, false),
  ((4, "low", "(II)I"), method_2_code, 2, some .int, 0, true),
  ((4, "low", "(II)I"), method_2_code, 2, some .int, 0, true),
  ((4, "low", "(II)I"), method_2_code, 2, some .int, 0, true),
  ((4, "low", "(II)I"), method_2_code, 2, some .int, 0, true),
  ((4, "low", "(II)I"), method_2_code, 2, some .int, 0, true),
  ((4, "low", "(II)I"), method_2_code, 2, some .int, 0, true),
  ((4, "low", "(II)I"), method_2_code, 2, some .int, 0, true),
  ((4, "low", "(II)I"), method_2_code, 2, some .int, 0, true),
  ((4, "low", "(II)I"), method_2_code, 2, some .int, 0, true),
  ((4, "low", "(II)I"), method_2_code, 2, some .int, 0, true),
  ((1, "<init>", "()V"), prog_3_method_1_code, 2, none, 1, false),
  ((1, "copyFrom", "(LHandoverDesk$State;)V"), prog_3_method_2_code, 3, none, 1, false),
  ((1, "changeSetting", "(II)I"), prog_3_method_17_code, 4, some .int, 1, false),
  ((1, "changeWorker", "(II)I"), prog_3_method_18_code, 4, some .int, 1, false),
  ((1, "changeMinutes", "(II)I"), prog_3_method_19_code, 4, some .int, 1, false)]
def mtL1 : List Mi := [((1, "bringTopic", "()I"), prog_3_method_20_code, 2, some .int, 0, false),
  ((1, "turnTopic", "(I)I"), prog_3_method_21_code, 2, some .int, 1, false),
  ((1, "isTopic", "(I)Z"), prog_3_method_3_code, 2, some .boolean, 0, false),
  ((1, "isOpen", "(I)Z"), prog_3_method_4_code, 2, some .boolean, 0, false),
  ((1, "checkTopic", "(I)I"), prog_3_method_22_code, 4, some .int, 1, false),
  ((1, "placeInChecklist", "(I)I"), prog_3_method_15_code, 3, some .int, 0, false),
  ((1, "learnTopic", "(III)I"), prog_3_method_23_code, 5, some .int, 2, false),
  ((1, "levelOf", "(II)I"), prog_3_method_8_code, 3, some .int, 1, false),
  ((1, "putLevel", "(III)V"), prog_3_method_9_code, 4, none, 1, false),
  ((1, "callAbout", "(I)I"), prog_3_method_24_code, 6, some .int, 3, false),
  ((1, "onDuty", "()I"), prog_3_method_5_code, 1, some .int, 1, false),
  ((1, "greatestFor", "(I)I"), prog_3_method_16_code, 4, some .int, 2, false),
  ((1, "minutesBought", "()I"), prog_3_method_7_code, 1, some .int, 1, false),
  ((1, "finishWith", "(I)I"), prog_3_method_25_code, 5, some .int, 3, false),
  ((1, "nextOnDuty", "()I"), prog_3_method_6_code, 1, some .int, 1, false),
  ((1, "work", "([I)V"), prog_3_method_26_code, 3, none, 1, false)]
def mtL2 : List Mi := [((1, "passOn", "([I[II)I"), prog_3_method_27_code, 7, some .int, 2, false),
  ((1, "widestGap", "([I[I)I"), prog_3_method_28_code, 6, some .int, 1, false),
  ((1, "decay", "([I)V"), prog_3_method_29_code, 3, none, 0, false),
  ((1, "beginWithOpen", "([I)V"), prog_3_method_30_code, 3, none, 1, false),
  ((1, "missesOfChecklist", "([I)I"), prog_3_method_31_code, 5, some .int, 1, false),
  ((1, "howIs", "(I)I"), prog_3_method_11_code, 3, some .int, 3, false),
  ((1, "knows", "(II)Z"), prog_3_method_10_code, 3, some .boolean, 2, false),
  ((1, "countOpen", "()I"), prog_3_method_13_code, 1, some .int, 1, false),
  ((1, "openThatAre", "(I)I"), prog_3_method_12_code, 4, some .int, 4, false),
  ((1, "sumOfOpen", "(I)I"), prog_3_method_14_code, 4, some .int, 2, false),
  ((4, "low", "(II)I"), method_2_code, 2, some .int, 0, true),
  ((2, "<init>", "()V"), prog_1_method_1_code, 2, none, 2, false),
  ((2, "set", "(II)I"), prog_1_method_2_code, 3, some .int, 2, false),
  ((2, "isSetting", "(I)Z"), prog_1_method_29_code, 1, some .boolean, 0, true),
  ((2, "recorded", "(I)I"), prog_1_method_33_code, 3, some .int, 1, false),
  ((2, "dropOldest", "()V"), prog_1_method_34_code, 3, none, 0, false)]
def mtL3 : List Mi := [((2, "roster", "(II)I"), prog_1_method_3_code, 3, some .int, 2, false),
  ((2, "isWorker", "(I)Z"), prog_1_method_30_code, 1, some .boolean, 0, true),
  ((2, "isPlace", "(I)Z"), prog_1_method_31_code, 1, some .boolean, 0, true),
  ((2, "minutes", "(II)I"), prog_1_method_4_code, 3, some .int, 2, false),
  ((2, "open", "()I"), prog_1_method_5_code, 1, some .int, 2, false),
  ((2, "turn", "(I)I"), prog_1_method_6_code, 2, some .int, 2, false),
  ((2, "check", "(I)I"), prog_1_method_7_code, 2, some .int, 2, false),
  ((2, "learn", "(III)I"), prog_1_method_8_code, 4, some .int, 3, false),
  ((2, "call", "(I)I"), prog_1_method_9_code, 2, some .int, 4, false),
  ((2, "endShift", "()I"), prog_1_method_10_code, 1, some .int, 4, false),
  ((2, "level", "(II)I"), prog_1_method_11_code, 3, some .int, 2, false),
  ((2, "ofTopic", "(II)I"), prog_1_method_12_code, 3, some .int, 4, false),
  ((2, "checklist", "(I)I"), prog_1_method_13_code, 2, some .int, 0, false),
  ((2, "count", "(I)I"), prog_1_method_14_code, 3, some .int, 5, false),
  ((2, "place", "(II)I"), prog_1_method_15_code, 3, some .int, 1, false),
  ((2, "inOrder", "()I"), prog_1_method_16_code, 3, some .int, 4, false)]
def mtL4 : List Mi := [((2, "share", "(I)I"), prog_1_method_17_code, 3, some .int, 1, false),
  ((2, "bitsOfShare", "(F)I"), prog_1_method_36_code, 3, some .int, 0, true),
  ((2, "mean", "(I)J"), prog_1_method_18_code, 3, some .long, 3, false),
  ((2, "bitsOfMean", "(D)J"), prog_1_method_37_code, 5, some .long, 0, true),
  ((4, "low", "(II)I"), method_2_code, 2, some .int, 0, true),
  ((2, "lostIn", "(I)I"), prog_1_method_20_code, 3, some .int, 5, false),
  ((4, "low", "(II)I"), method_2_code, 2, some .int, 0, true),
  ((4, "low", "(II)I"), method_2_code, 2, some .int, 0, true),
  ((4, "low", "(II)I"), method_2_code, 2, some .int, 0, true),
  ((4, "low", "(II)I"), method_2_code, 2, some .int, 0, true),
  ((4, "low", "(II)I"), method_2_code, 2, some .int, 0, true),
  ((4, "low", "(II)I"), method_2_code, 2, some .int, 0, true),
  ((2, "undo", "()I"), prog_1_method_26_code, 2, some .int, 0, false),
  ((4, "low", "(II)I"), method_2_code, 2, some .int, 0, true),
  ((4, "low", "(II)I"), method_2_code, 2, some .int, 0, true),
  ((4, "low", "(II)I"), method_2_code, 2, some .int, 0, true)]
def mtL5 : List Mi := [((4, "low", "(II)I"), method_2_code, 2, some .int, 0, true),
  ((4, "cell", "([II)I"), method_3_code, 2, some .int, 0, true),
  ((4, "topic", "(LHandoverDesk;I)Z"), method_4_code, 8, some .boolean, 6, true),
  ((4, "desk", "(LHandoverDesk;)Z"), method_5_code, 8, some .boolean, 7, true),
  ((4, "act", "(LHandoverDesk;[II)I"), method_6_code, 6, some .int, 5, true),
  ((4, "low", "(II)I"), method_2_code, 2, some .int, 0, true),
  ((4, "low", "(II)I"), method_2_code, 2, some .int, 0, true),
  ((4, "low", "(II)I"), method_2_code, 2, some .int, 0, true),
  ((4, "low", "(II)I"), method_2_code, 2, some .int, 0, true),
  ((4, "low", "(II)I"), method_2_code, 2, some .int, 0, true),
  ((4, "low", "(II)I"), method_2_code, 2, some .int, 0, true),
  ((4, "low", "(II)I"), method_2_code, 2, some .int, 0, true),
  ((4, "low", "(II)I"), method_2_code, 2, some .int, 0, true),
  ((4, "low", "(II)I"), method_2_code, 2, some .int, 0, true),
  ((4, "low", "(II)I"), method_2_code, 2, some .int, 0, true),
  ((4, "low", "(II)I"), method_2_code, 2, some .int, 0, true)]
def mtL6 : List Mi := [((4, "low", "(II)I"), method_2_code, 2, some .int, 0, true),
  ((4, "low", "(II)I"), method_2_code, 2, some .int, 0, true),
  ((4, "low", "(II)I"), method_2_code, 2, some .int, 0, true),
  ((4, "low", "(II)I"), method_2_code, 2, some .int, 0, true),
  ((4, "low", "(II)I"), method_2_code, 2, some .int, 0, true),
  ((4, "low", "(II)I"), method_2_code, 2, some .int, 0, true),
  ((4, "low", "(II)I"), method_2_code, 2, some .int, 0, true),
  ((4, "low", "(II)I"), method_2_code, 2, some .int, 0, true),
  ((4, "low", "(II)I"), method_2_code, 2, some .int, 0, true),
  ((4, "low", "(II)I"), method_2_code, 2, some .int, 0, true),
  ((4, "low", "(II)I"), method_2_code, 2, some .int, 0, true),
  ((4, "low", "(II)I"), method_2_code, 2, some .int, 0, true),
  ((4, "low", "(II)I"), method_2_code, 2, some .int, 0, true),
  ((4, "low", "(II)I"), method_2_code, 2, some .int, 0, true),
  ((4, "low", "(II)I"), method_2_code, 2, some .int, 0, true),
  ((4, "low", "(II)I"), method_2_code, 2, some .int, 0, true)]
def mtL7 : List Mi := [((4, "low", "(II)I"), method_2_code, 2, some .int, 0, true),
  ((4, "low", "(II)I"), method_2_code, 2, some .int, 0, true),
  ((4, "low", "(II)I"), method_2_code, 2, some .int, 0, true),
  ((4, "low", "(II)I"), method_2_code, 2, some .int, 0, true),
  ((4, "low", "(II)I"), method_2_code, 2, some .int, 0, true),
  ((4, "low", "(II)I"), method_2_code, 2, some .int, 0, true),
  ((4, "low", "(II)I"), method_2_code, 2, some .int, 0, true),
  ((4, "low", "(II)I"), method_2_code, 2, some .int, 0, true),
  ((4, "low", "(II)I"), method_2_code, 2, some .int, 0, true),
  ((4, "low", "(II)I"), method_2_code, 2, some .int, 0, true),
  ((4, "low", "(II)I"), method_2_code, 2, some .int, 0, true),
  ((4, "low", "(II)I"), method_2_code, 2, some .int, 0, true),
  ((4, "low", "(II)I"), method_2_code, 2, some .int, 0, true),
  ((4, "low", "(II)I"), method_2_code, 2, some .int, 0, true),
  ((4, "low", "(II)I"), method_2_code, 2, some .int, 0, true),
  ((4, "low", "(II)I"), method_2_code, 2, some .int, 0, true)]
def mtL8 : List Mi := [((4, "low", "(II)I"), method_2_code, 2, some .int, 0, true),
  ((4, "low", "(II)I"), method_2_code, 2, some .int, 0, true),
  ((4, "low", "(II)I"), method_2_code, 2, some .int, 0, true),
  ((4, "low", "(II)I"), method_2_code, 2, some .int, 0, true),
  ((4, "low", "(II)I"), method_2_code, 2, some .int, 0, true),
  ((4, "low", "(II)I"), method_2_code, 2, some .int, 0, true),
  ((4, "low", "(II)I"), method_2_code, 2, some .int, 0, true),
  ((4, "low", "(II)I"), method_2_code, 2, some .int, 0, true),
  ((4, "low", "(II)I"), method_2_code, 2, some .int, 0, true),
  ((4, "low", "(II)I"), method_2_code, 2, some .int, 0, true),
  ((4, "low", "(II)I"), method_2_code, 2, some .int, 0, true),
  ((4, "low", "(II)I"), method_2_code, 2, some .int, 0, true),
  ((4, "low", "(II)I"), method_2_code, 2, some .int, 0, true),
  ((4, "low", "(II)I"), method_2_code, 2, some .int, 0, true),
  ((4, "low", "(II)I"), method_2_code, 2, some .int, 0, true),
  ((4, "low", "(II)I"), method_2_code, 2, some .int, 0, true)]
def mtL9 : List Mi := [((4, "low", "(II)I"), method_2_code, 2, some .int, 0, true),
  ((4, "low", "(II)I"), method_2_code, 2, some .int, 0, true),
  ((4, "low", "(II)I"), method_2_code, 2, some .int, 0, true),
  ((4, "low", "(II)I"), method_2_code, 2, some .int, 0, true),
  ((4, "low", "(II)I"), method_2_code, 2, some .int, 0, true),
  ((4, "low", "(II)I"), method_2_code, 2, some .int, 0, true),
  ((4, "low", "(II)I"), method_2_code, 2, some .int, 0, true),
  ((5, "min", "(II)I"), prog_7_method_69_code, 2, some .int, 0, true),
  ((5, "floorMod", "(II)I"), prog_7_method_50_code, 3, some .int, 0, true),
  ((4, "low", "(II)I"), method_2_code, 2, some .int, 0, true),
  ((6, "bitCount", "(I)I"), prog_6_method_49_code, 1, some .int, 0, true),
  ((4, "low", "(II)I"), method_2_code, 2, some .int, 0, true),
  ((4, "low", "(II)I"), method_2_code, 2, some .int, 0, true),
  ((4, "low", "(II)I"), method_2_code, 2, some .int, 0, true),
  ((4, "low", "(II)I"), method_2_code, 2, some .int, 0, true),
  ((4, "low", "(II)I"), method_2_code, 2, some .int, 0, true)]
def mtL10 : List Mi := [((4, "low", "(II)I"), method_2_code, 2, some .int, 0, true),
  ((4, "low", "(II)I"), method_2_code, 2, some .int, 0, true),
  ((4, "low", "(II)I"), method_2_code, 2, some .int, 0, true),
  ((4, "low", "(II)I"), method_2_code, 2, some .int, 0, true),
  ((4, "low", "(II)I"), method_2_code, 2, some .int, 0, true),
  ((4, "low", "(II)I"), method_2_code, 2, some .int, 0, true),
  ((4, "low", "(II)I"), method_2_code, 2, some .int, 0, true),
  ((4, "low", "(II)I"), method_2_code, 2, some .int, 0, true),
  ((4, "low", "(II)I"), method_2_code, 2, some .int, 0, true),
  ((4, "low", "(II)I"), method_2_code, 2, some .int, 0, true),
  ((4, "low", "(II)I"), method_2_code, 2, some .int, 0, true),
  ((4, "law", "([I)Z"), code, 16, some .boolean, 8, true)]
def mtL : List (List Mi) := [mtL0, mtL1, mtL2, mtL3, mtL4, mtL5, mtL6, mtL7, mtL8, mtL9, mtL10]
def mi0 : Mi := ((99, "", ""), ⟨#[]⟩, 0, none, 99, true)
def mi (K : Nat) : Mi := (mtL.getD (K / 16) []).getD (K % 16) mi0
def ow (K : Nat) : Nat := (mi K).1.1
def nm (K : Nat) : MethodName := ⟨cn (mi K).1.1, (mi K).1.2.1, (mi K).1.2.2⟩
def cod (K : Nat) : ByteArray := (mi K).2.1
def mxl (K : Nat) : Nat := (mi K).2.2.1
def rtt (K : Nat) : Option FieldType := (mi K).2.2.2.1
def rk (K : Nat) : Nat := (mi K).2.2.2.2.1
def sta (K : Nat) : Bool := (mi K).2.2.2.2.2
theorem mi_0 : mi 0 = ((0, "<init>", "()V"), prog_2_method_1_code, 1, none, 1, false) := rfl
theorem mi_1 : mi 1 = ((4, "low", "(II)I"), method_2_code, 2, some .int, 0, true) := rfl
theorem mi_2 : mi 2 = ((4, "low", "(II)I"), method_2_code, 2, some .int, 0, true) := rfl
theorem mi_3 : mi 3 = ((4, "low", "(II)I"), method_2_code, 2, some .int, 0, true) := rfl
theorem mi_4 : mi 4 = ((4, "low", "(II)I"), method_2_code, 2, some .int, 0, true) := rfl
theorem mi_5 : mi 5 = ((4, "low", "(II)I"), method_2_code, 2, some .int, 0, true) := rfl
theorem mi_6 : mi 6 = ((4, "low", "(II)I"), method_2_code, 2, some .int, 0, true) := rfl
theorem mi_7 : mi 7 = ((4, "low", "(II)I"), method_2_code, 2, some .int, 0, true) := rfl
theorem mi_8 : mi 8 = ((4, "low", "(II)I"), method_2_code, 2, some .int, 0, true) := rfl
theorem mi_9 : mi 9 = ((4, "low", "(II)I"), method_2_code, 2, some .int, 0, true) := rfl
theorem mi_10 : mi 10 = ((4, "low", "(II)I"), method_2_code, 2, some .int, 0, true) := rfl
theorem mi_11 : mi 11 = ((1, "<init>", "()V"), prog_3_method_1_code, 2, none, 1, false) := rfl
theorem mi_12 : mi 12 = ((1, "copyFrom", "(LHandoverDesk$State;)V"), prog_3_method_2_code, 3, none, 1, false) := rfl
theorem mi_13 : mi 13 = ((1, "changeSetting", "(II)I"), prog_3_method_17_code, 4, some .int, 1, false) := rfl
theorem mi_14 : mi 14 = ((1, "changeWorker", "(II)I"), prog_3_method_18_code, 4, some .int, 1, false) := rfl
theorem mi_15 : mi 15 = ((1, "changeMinutes", "(II)I"), prog_3_method_19_code, 4, some .int, 1, false) := rfl
theorem mi_16 : mi 16 = ((1, "bringTopic", "()I"), prog_3_method_20_code, 2, some .int, 0, false) := rfl
theorem mi_17 : mi 17 = ((1, "turnTopic", "(I)I"), prog_3_method_21_code, 2, some .int, 1, false) := rfl
theorem mi_18 : mi 18 = ((1, "isTopic", "(I)Z"), prog_3_method_3_code, 2, some .boolean, 0, false) := rfl
theorem mi_19 : mi 19 = ((1, "isOpen", "(I)Z"), prog_3_method_4_code, 2, some .boolean, 0, false) := rfl
theorem mi_20 : mi 20 = ((1, "checkTopic", "(I)I"), prog_3_method_22_code, 4, some .int, 1, false) := rfl
theorem mi_21 : mi 21 = ((1, "placeInChecklist", "(I)I"), prog_3_method_15_code, 3, some .int, 0, false) := rfl
theorem mi_22 : mi 22 = ((1, "learnTopic", "(III)I"), prog_3_method_23_code, 5, some .int, 2, false) := rfl
theorem mi_23 : mi 23 = ((1, "levelOf", "(II)I"), prog_3_method_8_code, 3, some .int, 1, false) := rfl
theorem mi_24 : mi 24 = ((1, "putLevel", "(III)V"), prog_3_method_9_code, 4, none, 1, false) := rfl
theorem mi_25 : mi 25 = ((1, "callAbout", "(I)I"), prog_3_method_24_code, 6, some .int, 3, false) := rfl
theorem mi_26 : mi 26 = ((1, "onDuty", "()I"), prog_3_method_5_code, 1, some .int, 1, false) := rfl
theorem mi_27 : mi 27 = ((1, "greatestFor", "(I)I"), prog_3_method_16_code, 4, some .int, 2, false) := rfl
theorem mi_28 : mi 28 = ((1, "minutesBought", "()I"), prog_3_method_7_code, 1, some .int, 1, false) := rfl
theorem mi_29 : mi 29 = ((1, "finishWith", "(I)I"), prog_3_method_25_code, 5, some .int, 3, false) := rfl
theorem mi_30 : mi 30 = ((1, "nextOnDuty", "()I"), prog_3_method_6_code, 1, some .int, 1, false) := rfl
theorem mi_31 : mi 31 = ((1, "work", "([I)V"), prog_3_method_26_code, 3, none, 1, false) := rfl
theorem mi_32 : mi 32 = ((1, "passOn", "([I[II)I"), prog_3_method_27_code, 7, some .int, 2, false) := rfl
theorem mi_33 : mi 33 = ((1, "widestGap", "([I[I)I"), prog_3_method_28_code, 6, some .int, 1, false) := rfl
theorem mi_34 : mi 34 = ((1, "decay", "([I)V"), prog_3_method_29_code, 3, none, 0, false) := rfl
theorem mi_35 : mi 35 = ((1, "beginWithOpen", "([I)V"), prog_3_method_30_code, 3, none, 1, false) := rfl
theorem mi_36 : mi 36 = ((1, "missesOfChecklist", "([I)I"), prog_3_method_31_code, 5, some .int, 1, false) := rfl
theorem mi_37 : mi 37 = ((1, "howIs", "(I)I"), prog_3_method_11_code, 3, some .int, 3, false) := rfl
theorem mi_38 : mi 38 = ((1, "knows", "(II)Z"), prog_3_method_10_code, 3, some .boolean, 2, false) := rfl
theorem mi_39 : mi 39 = ((1, "countOpen", "()I"), prog_3_method_13_code, 1, some .int, 1, false) := rfl
theorem mi_40 : mi 40 = ((1, "openThatAre", "(I)I"), prog_3_method_12_code, 4, some .int, 4, false) := rfl
theorem mi_41 : mi 41 = ((1, "sumOfOpen", "(I)I"), prog_3_method_14_code, 4, some .int, 2, false) := rfl
theorem mi_42 : mi 42 = ((4, "low", "(II)I"), method_2_code, 2, some .int, 0, true) := rfl
theorem mi_43 : mi 43 = ((2, "<init>", "()V"), prog_1_method_1_code, 2, none, 2, false) := rfl
theorem mi_44 : mi 44 = ((2, "set", "(II)I"), prog_1_method_2_code, 3, some .int, 2, false) := rfl
theorem mi_45 : mi 45 = ((2, "isSetting", "(I)Z"), prog_1_method_29_code, 1, some .boolean, 0, true) := rfl
theorem mi_46 : mi 46 = ((2, "recorded", "(I)I"), prog_1_method_33_code, 3, some .int, 1, false) := rfl
theorem mi_47 : mi 47 = ((2, "dropOldest", "()V"), prog_1_method_34_code, 3, none, 0, false) := rfl
theorem mi_48 : mi 48 = ((2, "roster", "(II)I"), prog_1_method_3_code, 3, some .int, 2, false) := rfl
theorem mi_49 : mi 49 = ((2, "isWorker", "(I)Z"), prog_1_method_30_code, 1, some .boolean, 0, true) := rfl
theorem mi_50 : mi 50 = ((2, "isPlace", "(I)Z"), prog_1_method_31_code, 1, some .boolean, 0, true) := rfl
theorem mi_51 : mi 51 = ((2, "minutes", "(II)I"), prog_1_method_4_code, 3, some .int, 2, false) := rfl
theorem mi_52 : mi 52 = ((2, "open", "()I"), prog_1_method_5_code, 1, some .int, 2, false) := rfl
theorem mi_53 : mi 53 = ((2, "turn", "(I)I"), prog_1_method_6_code, 2, some .int, 2, false) := rfl
theorem mi_54 : mi 54 = ((2, "check", "(I)I"), prog_1_method_7_code, 2, some .int, 2, false) := rfl
theorem mi_55 : mi 55 = ((2, "learn", "(III)I"), prog_1_method_8_code, 4, some .int, 3, false) := rfl
theorem mi_56 : mi 56 = ((2, "call", "(I)I"), prog_1_method_9_code, 2, some .int, 4, false) := rfl
theorem mi_57 : mi 57 = ((2, "endShift", "()I"), prog_1_method_10_code, 1, some .int, 4, false) := rfl
theorem mi_58 : mi 58 = ((2, "level", "(II)I"), prog_1_method_11_code, 3, some .int, 2, false) := rfl
theorem mi_59 : mi 59 = ((2, "ofTopic", "(II)I"), prog_1_method_12_code, 3, some .int, 4, false) := rfl
theorem mi_60 : mi 60 = ((2, "checklist", "(I)I"), prog_1_method_13_code, 2, some .int, 0, false) := rfl
theorem mi_61 : mi 61 = ((2, "count", "(I)I"), prog_1_method_14_code, 3, some .int, 5, false) := rfl
theorem mi_62 : mi 62 = ((2, "place", "(II)I"), prog_1_method_15_code, 3, some .int, 1, false) := rfl
theorem mi_63 : mi 63 = ((2, "inOrder", "()I"), prog_1_method_16_code, 3, some .int, 4, false) := rfl
theorem mi_64 : mi 64 = ((2, "share", "(I)I"), prog_1_method_17_code, 3, some .int, 1, false) := rfl
theorem mi_65 : mi 65 = ((2, "bitsOfShare", "(F)I"), prog_1_method_36_code, 3, some .int, 0, true) := rfl
theorem mi_66 : mi 66 = ((2, "mean", "(I)J"), prog_1_method_18_code, 3, some .long, 3, false) := rfl
theorem mi_67 : mi 67 = ((2, "bitsOfMean", "(D)J"), prog_1_method_37_code, 5, some .long, 0, true) := rfl
theorem mi_68 : mi 68 = ((4, "low", "(II)I"), method_2_code, 2, some .int, 0, true) := rfl
theorem mi_69 : mi 69 = ((2, "lostIn", "(I)I"), prog_1_method_20_code, 3, some .int, 5, false) := rfl
theorem mi_70 : mi 70 = ((4, "low", "(II)I"), method_2_code, 2, some .int, 0, true) := rfl
theorem mi_71 : mi 71 = ((4, "low", "(II)I"), method_2_code, 2, some .int, 0, true) := rfl
theorem mi_72 : mi 72 = ((4, "low", "(II)I"), method_2_code, 2, some .int, 0, true) := rfl
theorem mi_73 : mi 73 = ((4, "low", "(II)I"), method_2_code, 2, some .int, 0, true) := rfl
theorem mi_74 : mi 74 = ((4, "low", "(II)I"), method_2_code, 2, some .int, 0, true) := rfl
theorem mi_75 : mi 75 = ((4, "low", "(II)I"), method_2_code, 2, some .int, 0, true) := rfl
theorem mi_76 : mi 76 = ((2, "undo", "()I"), prog_1_method_26_code, 2, some .int, 0, false) := rfl
theorem mi_77 : mi 77 = ((4, "low", "(II)I"), method_2_code, 2, some .int, 0, true) := rfl
theorem mi_78 : mi 78 = ((4, "low", "(II)I"), method_2_code, 2, some .int, 0, true) := rfl
theorem mi_79 : mi 79 = ((4, "low", "(II)I"), method_2_code, 2, some .int, 0, true) := rfl
theorem mi_80 : mi 80 = ((4, "low", "(II)I"), method_2_code, 2, some .int, 0, true) := rfl
theorem mi_81 : mi 81 = ((4, "cell", "([II)I"), method_3_code, 2, some .int, 0, true) := rfl
theorem mi_82 : mi 82 = ((4, "topic", "(LHandoverDesk;I)Z"), method_4_code, 8, some .boolean, 6, true) := rfl
theorem mi_83 : mi 83 = ((4, "desk", "(LHandoverDesk;)Z"), method_5_code, 8, some .boolean, 7, true) := rfl
theorem mi_84 : mi 84 = ((4, "act", "(LHandoverDesk;[II)I"), method_6_code, 6, some .int, 5, true) := rfl
theorem mi_85 : mi 85 = ((4, "low", "(II)I"), method_2_code, 2, some .int, 0, true) := rfl
theorem mi_86 : mi 86 = ((4, "low", "(II)I"), method_2_code, 2, some .int, 0, true) := rfl
theorem mi_87 : mi 87 = ((4, "low", "(II)I"), method_2_code, 2, some .int, 0, true) := rfl
theorem mi_88 : mi 88 = ((4, "low", "(II)I"), method_2_code, 2, some .int, 0, true) := rfl
theorem mi_89 : mi 89 = ((4, "low", "(II)I"), method_2_code, 2, some .int, 0, true) := rfl
theorem mi_90 : mi 90 = ((4, "low", "(II)I"), method_2_code, 2, some .int, 0, true) := rfl
theorem mi_91 : mi 91 = ((4, "low", "(II)I"), method_2_code, 2, some .int, 0, true) := rfl
theorem mi_92 : mi 92 = ((4, "low", "(II)I"), method_2_code, 2, some .int, 0, true) := rfl
theorem mi_93 : mi 93 = ((4, "low", "(II)I"), method_2_code, 2, some .int, 0, true) := rfl
theorem mi_94 : mi 94 = ((4, "low", "(II)I"), method_2_code, 2, some .int, 0, true) := rfl
theorem mi_95 : mi 95 = ((4, "low", "(II)I"), method_2_code, 2, some .int, 0, true) := rfl
theorem mi_96 : mi 96 = ((4, "low", "(II)I"), method_2_code, 2, some .int, 0, true) := rfl
theorem mi_97 : mi 97 = ((4, "low", "(II)I"), method_2_code, 2, some .int, 0, true) := rfl
theorem mi_98 : mi 98 = ((4, "low", "(II)I"), method_2_code, 2, some .int, 0, true) := rfl
theorem mi_99 : mi 99 = ((4, "low", "(II)I"), method_2_code, 2, some .int, 0, true) := rfl
theorem mi_100 : mi 100 = ((4, "low", "(II)I"), method_2_code, 2, some .int, 0, true) := rfl
theorem mi_101 : mi 101 = ((4, "low", "(II)I"), method_2_code, 2, some .int, 0, true) := rfl
theorem mi_102 : mi 102 = ((4, "low", "(II)I"), method_2_code, 2, some .int, 0, true) := rfl
theorem mi_103 : mi 103 = ((4, "low", "(II)I"), method_2_code, 2, some .int, 0, true) := rfl
theorem mi_104 : mi 104 = ((4, "low", "(II)I"), method_2_code, 2, some .int, 0, true) := rfl
theorem mi_105 : mi 105 = ((4, "low", "(II)I"), method_2_code, 2, some .int, 0, true) := rfl
theorem mi_106 : mi 106 = ((4, "low", "(II)I"), method_2_code, 2, some .int, 0, true) := rfl
theorem mi_107 : mi 107 = ((4, "low", "(II)I"), method_2_code, 2, some .int, 0, true) := rfl
theorem mi_108 : mi 108 = ((4, "low", "(II)I"), method_2_code, 2, some .int, 0, true) := rfl
theorem mi_109 : mi 109 = ((4, "low", "(II)I"), method_2_code, 2, some .int, 0, true) := rfl
theorem mi_110 : mi 110 = ((4, "low", "(II)I"), method_2_code, 2, some .int, 0, true) := rfl
theorem mi_111 : mi 111 = ((4, "low", "(II)I"), method_2_code, 2, some .int, 0, true) := rfl
theorem mi_112 : mi 112 = ((4, "low", "(II)I"), method_2_code, 2, some .int, 0, true) := rfl
theorem mi_113 : mi 113 = ((4, "low", "(II)I"), method_2_code, 2, some .int, 0, true) := rfl
theorem mi_114 : mi 114 = ((4, "low", "(II)I"), method_2_code, 2, some .int, 0, true) := rfl
theorem mi_115 : mi 115 = ((4, "low", "(II)I"), method_2_code, 2, some .int, 0, true) := rfl
theorem mi_116 : mi 116 = ((4, "low", "(II)I"), method_2_code, 2, some .int, 0, true) := rfl
theorem mi_117 : mi 117 = ((4, "low", "(II)I"), method_2_code, 2, some .int, 0, true) := rfl
theorem mi_118 : mi 118 = ((4, "low", "(II)I"), method_2_code, 2, some .int, 0, true) := rfl
theorem mi_119 : mi 119 = ((4, "low", "(II)I"), method_2_code, 2, some .int, 0, true) := rfl
theorem mi_120 : mi 120 = ((4, "low", "(II)I"), method_2_code, 2, some .int, 0, true) := rfl
theorem mi_121 : mi 121 = ((4, "low", "(II)I"), method_2_code, 2, some .int, 0, true) := rfl
theorem mi_122 : mi 122 = ((4, "low", "(II)I"), method_2_code, 2, some .int, 0, true) := rfl
theorem mi_123 : mi 123 = ((4, "low", "(II)I"), method_2_code, 2, some .int, 0, true) := rfl
theorem mi_124 : mi 124 = ((4, "low", "(II)I"), method_2_code, 2, some .int, 0, true) := rfl
theorem mi_125 : mi 125 = ((4, "low", "(II)I"), method_2_code, 2, some .int, 0, true) := rfl
theorem mi_126 : mi 126 = ((4, "low", "(II)I"), method_2_code, 2, some .int, 0, true) := rfl
theorem mi_127 : mi 127 = ((4, "low", "(II)I"), method_2_code, 2, some .int, 0, true) := rfl
theorem mi_128 : mi 128 = ((4, "low", "(II)I"), method_2_code, 2, some .int, 0, true) := rfl
theorem mi_129 : mi 129 = ((4, "low", "(II)I"), method_2_code, 2, some .int, 0, true) := rfl
theorem mi_130 : mi 130 = ((4, "low", "(II)I"), method_2_code, 2, some .int, 0, true) := rfl
theorem mi_131 : mi 131 = ((4, "low", "(II)I"), method_2_code, 2, some .int, 0, true) := rfl
theorem mi_132 : mi 132 = ((4, "low", "(II)I"), method_2_code, 2, some .int, 0, true) := rfl
theorem mi_133 : mi 133 = ((4, "low", "(II)I"), method_2_code, 2, some .int, 0, true) := rfl
theorem mi_134 : mi 134 = ((4, "low", "(II)I"), method_2_code, 2, some .int, 0, true) := rfl
theorem mi_135 : mi 135 = ((4, "low", "(II)I"), method_2_code, 2, some .int, 0, true) := rfl
theorem mi_136 : mi 136 = ((4, "low", "(II)I"), method_2_code, 2, some .int, 0, true) := rfl
theorem mi_137 : mi 137 = ((4, "low", "(II)I"), method_2_code, 2, some .int, 0, true) := rfl
theorem mi_138 : mi 138 = ((4, "low", "(II)I"), method_2_code, 2, some .int, 0, true) := rfl
theorem mi_139 : mi 139 = ((4, "low", "(II)I"), method_2_code, 2, some .int, 0, true) := rfl
theorem mi_140 : mi 140 = ((4, "low", "(II)I"), method_2_code, 2, some .int, 0, true) := rfl
theorem mi_141 : mi 141 = ((4, "low", "(II)I"), method_2_code, 2, some .int, 0, true) := rfl
theorem mi_142 : mi 142 = ((4, "low", "(II)I"), method_2_code, 2, some .int, 0, true) := rfl
theorem mi_143 : mi 143 = ((4, "low", "(II)I"), method_2_code, 2, some .int, 0, true) := rfl
theorem mi_144 : mi 144 = ((4, "low", "(II)I"), method_2_code, 2, some .int, 0, true) := rfl
theorem mi_145 : mi 145 = ((4, "low", "(II)I"), method_2_code, 2, some .int, 0, true) := rfl
theorem mi_146 : mi 146 = ((4, "low", "(II)I"), method_2_code, 2, some .int, 0, true) := rfl
theorem mi_147 : mi 147 = ((4, "low", "(II)I"), method_2_code, 2, some .int, 0, true) := rfl
theorem mi_148 : mi 148 = ((4, "low", "(II)I"), method_2_code, 2, some .int, 0, true) := rfl
theorem mi_149 : mi 149 = ((4, "low", "(II)I"), method_2_code, 2, some .int, 0, true) := rfl
theorem mi_150 : mi 150 = ((4, "low", "(II)I"), method_2_code, 2, some .int, 0, true) := rfl
theorem mi_151 : mi 151 = ((5, "min", "(II)I"), prog_7_method_69_code, 2, some .int, 0, true) := rfl
theorem mi_152 : mi 152 = ((5, "floorMod", "(II)I"), prog_7_method_50_code, 3, some .int, 0, true) := rfl
theorem mi_153 : mi 153 = ((4, "low", "(II)I"), method_2_code, 2, some .int, 0, true) := rfl
theorem mi_154 : mi 154 = ((6, "bitCount", "(I)I"), prog_6_method_49_code, 1, some .int, 0, true) := rfl
theorem mi_155 : mi 155 = ((4, "low", "(II)I"), method_2_code, 2, some .int, 0, true) := rfl
theorem mi_156 : mi 156 = ((4, "low", "(II)I"), method_2_code, 2, some .int, 0, true) := rfl
theorem mi_157 : mi 157 = ((4, "low", "(II)I"), method_2_code, 2, some .int, 0, true) := rfl
theorem mi_158 : mi 158 = ((4, "low", "(II)I"), method_2_code, 2, some .int, 0, true) := rfl
theorem mi_159 : mi 159 = ((4, "low", "(II)I"), method_2_code, 2, some .int, 0, true) := rfl
theorem mi_160 : mi 160 = ((4, "low", "(II)I"), method_2_code, 2, some .int, 0, true) := rfl
theorem mi_161 : mi 161 = ((4, "low", "(II)I"), method_2_code, 2, some .int, 0, true) := rfl
theorem mi_162 : mi 162 = ((4, "low", "(II)I"), method_2_code, 2, some .int, 0, true) := rfl
theorem mi_163 : mi 163 = ((4, "low", "(II)I"), method_2_code, 2, some .int, 0, true) := rfl
theorem mi_164 : mi 164 = ((4, "low", "(II)I"), method_2_code, 2, some .int, 0, true) := rfl
theorem mi_165 : mi 165 = ((4, "low", "(II)I"), method_2_code, 2, some .int, 0, true) := rfl
theorem mi_166 : mi 166 = ((4, "low", "(II)I"), method_2_code, 2, some .int, 0, true) := rfl
theorem mi_167 : mi 167 = ((4, "low", "(II)I"), method_2_code, 2, some .int, 0, true) := rfl
theorem mi_168 : mi 168 = ((4, "low", "(II)I"), method_2_code, 2, some .int, 0, true) := rfl
theorem mi_169 : mi 169 = ((4, "low", "(II)I"), method_2_code, 2, some .int, 0, true) := rfl
theorem mi_170 : mi 170 = ((4, "low", "(II)I"), method_2_code, 2, some .int, 0, true) := rfl
theorem mi_171 : mi 171 = ((4, "law", "([I)Z"), code, 16, some .boolean, 8, true) := rfl
/-- the word stands there, and outlives a call -/
def gw (i : Nat) (w : Cond) : Bool := decide (lw_tbl[i]? = some w) && goodWord w
theorem gw_of {i : Nat} {w : Cond} (h : gw i w = true) : w ∈ lw_tbl ∧ goodWord w = true := by
  simp only [gw, Bool.and_eq_true, decide_eq_true_eq] at h
  exact ⟨List.mem_of_getElem? h.1, h.2⟩
def nstL : List (Nat × Nat × Nat) := [(1, 111, 45), (1, 81, 49), (1, 120, 50)]
/-- a call's use: own class, index, kind (0 virtual, 1 static, 2 <init>, 3 virtual of a nest mate, 4 static of one), the method, its words' places, how many arguments -/
abbrev Ci : Type := Nat × Nat × Nat × Nat × Nat × Nat × Nat × Nat × Nat
def calL1 : List Ci := [(1, 111, 4, 45, 418, 233, 0, 10, 1), (1, 81, 4, 49, 186, 187, 0, 10, 1), (1, 120, 4, 50, 401, 271, 0, 10, 1), (1, 85, 0, 18, 262, 263, 264, 11, 1), (1, 99, 0, 19, 193, 194, 195, 11, 1), (1, 123, 0, 21, 371, 297, 298, 11, 1), (1, 88, 0, 23, 258, 259, 260, 11, 2), (1, 126, 1, 151, 197, 198, 0, 14, 2), (1, 129, 0, 24, 380, 382, 8, 11, 3), (1, 91, 0, 26, 178, 179, 180, 11, 0), (1, 133, 0, 27, 392, 301, 302, 11, 1), (1, 75, 1, 152, 171, 172, 0, 14, 2), (1, 136, 0, 30, 182, 183, 184, 11, 0), (1, 139, 0, 31, 189, 191, 0, 11, 1), (1, 143, 0, 32, 200, 202, 1, 11, 3), (1, 147, 0, 34, 208, 210, 3, 11, 1), (1, 150, 0, 35, 212, 214, 4, 11, 1), (1, 153, 0, 36, 216, 218, 5, 11, 1), (1, 157, 0, 33, 204, 206, 2, 11, 2), (1, 95, 0, 38, 254, 255, 256, 11, 2), (1, 106, 1, 154, 240, 241, 0, 15, 1), (1, 102, 0, 37, 250, 251, 252, 11, 1)]
def calL2 : List Ci := [(2, 11, 2, 11, 26, 27, 0, 11, 0), (2, 32, 2, 0, 108, 109, 0, 13, 0), (2, 46, 0, 12, 163, 164, 165, 11, 1), (2, 50, 0, 13, 414, 415, 416, 11, 2), (2, 54, 0, 46, 220, 222, 6, 10, 1), (2, 221, 0, 47, 224, 226, 7, 10, 0), (2, 58, 0, 14, 397, 398, 399, 11, 2), (2, 61, 0, 15, 406, 407, 408, 11, 2), (2, 64, 0, 16, 351, 352, 353, 11, 0), (2, 68, 0, 17, 359, 360, 361, 11, 1), (2, 71, 0, 20, 367, 368, 369, 11, 1), (2, 74, 0, 22, 376, 377, 378, 11, 3), (2, 78, 0, 25, 388, 389, 390, 11, 1), (2, 81, 0, 28, 167, 168, 169, 11, 0), (2, 84, 0, 29, 174, 175, 176, 11, 1), (2, 87, 1, 49, 287, 187, 0, 10, 1), (2, 91, 0, 18, 288, 263, 264, 11, 1), (2, 94, 0, 23, 289, 259, 260, 11, 2), (2, 97, 0, 19, 294, 194, 195, 11, 1), (2, 100, 0, 37, 295, 251, 252, 11, 1), (2, 103, 0, 21, 296, 297, 298, 11, 1), (2, 106, 0, 27, 300, 301, 302, 11, 1), (2, 126, 1, 45, 232, 233, 0, 10, 1), (2, 135, 0, 26, 235, 179, 180, 11, 0), (2, 141, 0, 39, 236, 237, 238, 11, 0), (2, 159, 0, 40, 246, 247, 248, 11, 1), (2, 168, 1, 50, 270, 271, 0, 10, 1), (2, 177, 1, 65, 312, 313, 0, 10, 1), (2, 183, 0, 41, 326, 327, 328, 11, 1), (2, 186, 1, 67, 330, 331, 0, 10, 1)]
def calL4 : List Ci := [(4, 9, 0, 58, 283, 284, 285, 10, 2), (4, 15, 0, 61, 228, 229, 230, 10, 1), (4, 19, 0, 59, 290, 291, 292, 10, 2), (4, 22, 0, 60, 304, 305, 306, 10, 1), (4, 25, 0, 64, 308, 309, 310, 10, 1), (4, 28, 0, 62, 266, 267, 268, 10, 2), (4, 31, 1, 82, 280, 281, 0, 9, 2), (4, 37, 0, 63, 317, 318, 319, 10, 0), (4, 41, 0, 66, 321, 322, 323, 10, 1), (4, 45, 1, 81, 339, 340, 0, 9, 2), (4, 49, 1, 80, 343, 344, 0, 9, 2), (4, 52, 0, 52, 347, 348, 349, 10, 0), (4, 55, 0, 53, 355, 356, 357, 10, 1), (4, 58, 0, 54, 363, 364, 365, 10, 1), (4, 61, 0, 55, 372, 373, 374, 10, 3), (4, 65, 0, 56, 384, 385, 386, 10, 1), (4, 68, 0, 48, 393, 394, 395, 10, 2), (4, 71, 0, 51, 402, 403, 404, 10, 2), (4, 74, 0, 44, 410, 411, 412, 10, 2), (4, 77, 0, 76, 423, 424, 425, 10, 0), (4, 80, 2, 43, 18, 19, 0, 10, 0), (4, 81, 1, 84, 336, 337, 0, 9, 3), (4, 85, 0, 69, 273, 274, 275, 10, 1), (4, 88, 0, 57, 159, 160, 161, 10, 0), (4, 91, 1, 83, 277, 278, 0, 9, 1)]
def calL (o : Nat) : List Ci := match o with
  | 1 => calL1
  | 2 => calL2
  | 4 => calL4
  | _ => []
def cal (o i : Nat) : Option Ci := (calL o).find? (fun c => c.2.1 == i)
def cwd (K : Nat) : Cond := .code (nm K) (cod K) (mxl K) (rtt K)
def okc (o : Nat) (c : Ci) : Bool := (c.1 == o) && (gw c.2.2.2.2.2.2.2.1 (.initialized (nm c.2.2.2.1).cls) && decide (c.2.2.2.1 < 171) && decide ((parseMethodDescriptor (nm c.2.2.2.1).desc).map (fun d => d.parameters.length) = some c.2.2.2.2.2.2.2.2) && decide ((nm c.2.2.2.1).cls ≠ "java/lang/invoke/MethodHandle" ∧ (nm c.2.2.2.1).cls ≠ "java/lang/invoke/VarHandle") &&
  match c.2.2.1 with
  | 0 => gw c.2.2.2.2.1 (.methodLink (cn o) c.2.1 (nm c.2.2.2.1)) && gw c.2.2.2.2.2.1 (.instanceMethod (nm c.2.2.2.1)) && gw c.2.2.2.2.2.2.1 (.selects (nm c.2.2.2.1).cls (nm c.2.2.2.1) (nm c.2.2.2.1))
  | 1 => gw c.2.2.2.2.1 (.methodLink (cn o) c.2.1 (nm c.2.2.2.1)) && gw c.2.2.2.2.2.1 (.static (nm c.2.2.2.1))
  | 2 => gw c.2.2.2.2.1 (.methodLink (cn o) c.2.1 (nm c.2.2.2.1)) && gw c.2.2.2.2.2.1 (.instanceMethod (nm c.2.2.2.1)) && decide ((nm c.2.2.2.1).name = "<init>") && decide (rtt c.2.2.2.1 = none)
  | 4 => gw c.2.2.2.2.2.1 (.static (nm c.2.2.2.1)) && decide ((o, c.2.1, c.2.2.2.1) ∈ nstL)
  | _ => false)
/-- calls of a nest mate's private methods: their links are said beside the words -/
theorem okc_1_0 : ((calL 1).drop 0 |>.take 12).all (okc 1) = true := by decide +kernel
theorem okc_1_1 : ((calL 1).drop 12 |>.take 12).all (okc 1) = true := by decide +kernel
theorem okc_1 : (calL 1).all (okc 1) = true := by
  have h : calL 1 = ((calL 1).drop 0 |>.take 12) ++ (((calL 1).drop 12 |>.take 12)) := rfl
  rw [h]
  simp only [List.all_append, okc_1_0, okc_1_1, Bool.and_self]
theorem okc_2_0 : ((calL 2).drop 0 |>.take 12).all (okc 2) = true := by decide +kernel
theorem okc_2_1 : ((calL 2).drop 12 |>.take 12).all (okc 2) = true := by decide +kernel
theorem okc_2_2 : ((calL 2).drop 24 |>.take 12).all (okc 2) = true := by decide +kernel
theorem okc_2 : (calL 2).all (okc 2) = true := by
  have h : calL 2 = ((calL 2).drop 0 |>.take 12) ++ (((calL 2).drop 12 |>.take 12) ++ (((calL 2).drop 24 |>.take 12))) := rfl
  rw [h]
  simp only [List.all_append, okc_2_0, okc_2_1, okc_2_2, Bool.and_self]
theorem okc_4_0 : ((calL 4).drop 0 |>.take 12).all (okc 4) = true := by decide +kernel
theorem okc_4_1 : ((calL 4).drop 12 |>.take 12).all (okc 4) = true := by decide +kernel
theorem okc_4_2 : ((calL 4).drop 24 |>.take 12).all (okc 4) = true := by decide +kernel
theorem okc_4 : (calL 4).all (okc 4) = true := by
  have h : calL 4 = ((calL 4).drop 0 |>.take 12) ++ (((calL 4).drop 12 |>.take 12) ++ (((calL 4).drop 24 |>.take 12))) := rfl
  rw [h]
  simp only [List.all_append, okc_4_0, okc_4_1, okc_4_2, Bool.and_self]
set_option maxRecDepth 100000 in
theorem cwd_in : ∀ K, K < 171 → cwd K ∈ lw_tbl := by
  have h : (List.range 171).map cwd = [110, 345, 345, 345, 345, 345, 345, 345, 345, 345, 345, 28, 166, 417, 400, 409, 354, 362, 265, 196, 370, 299, 379, 261, 383, 391, 181, 303, 170, 177, 185, 192, 203, 207, 211, 215, 219, 253, 257, 239, 249, 329, 345, 20, 413, 234, 223, 227, 396, 188, 272, 405, 350, 358, 366, 375, 387, 162, 286, 293, 307, 231, 269, 320, 311, 314, 324, 332, 345, 276, 345, 345, 345, 345, 345, 345, 426, 345, 345, 345, 345, 341, 282, 279, 338, 345, 345, 345, 345, 345, 345, 345, 345, 345, 345, 345, 345, 345, 345, 345, 345, 345, 345, 345, 345, 345, 345, 345, 345, 345, 345, 345, 345, 345, 345, 345, 345, 345, 345, 345, 345, 345, 345, 345, 345, 345, 345, 345, 345, 345, 345, 345, 345, 345, 345, 345, 345, 345, 345, 345, 345, 345, 345, 345, 345, 345, 345, 345, 345, 345, 345, 199, 173, 345, 242, 345, 345, 345, 345, 345, 345, 345, 345, 345, 345, 345, 345, 345, 345, 345, 345].filterMap (fun i => lw_tbl[i]?) := rfl
  intro K hK
  have h1 : cwd K ∈ (List.range 171).map cwd := List.mem_map.mpr ⟨K, List.mem_range.mpr hK, rfl⟩
  rw [h] at h1
  obtain ⟨i, -, hi⟩ := List.mem_filterMap.mp h1
  exact List.mem_of_getElem? hi
