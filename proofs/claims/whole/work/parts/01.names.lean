-- ===== PART A: goes FIRST, ahead of the names: the tables' words, and 'selects' of the private methods out of them =====
/-- a private method of a class that the tables say can be made, by its rows of tables_1 -/
def lw_okq (q : MethodName × Nat) : Prop := (q.1.cls ≠ "java/lang/invoke/MethodHandle" ∧ q.1.cls ≠ "java/lang/invoke/VarHandle") ∧ Cond.instantiable q.1.cls q.2 ∈ tables_1 ∧ Cond.privateMethod q.1 ∈ tables_1 ∧ Cond.instanceMethod q.1 ∈ tables_1
theorem lw_p0 : lw_okq (⟨"HandoverDesk", "recorded", "(I)I"⟩, 10) := ⟨⟨by decide +kernel, by decide +kernel⟩, List.mem_of_getElem? (i := 16) (by decide +kernel), List.mem_of_getElem? (i := 183) (by decide +kernel), List.mem_of_getElem? (i := 184) (by decide +kernel)⟩
theorem lw_p1 : lw_okq (⟨"HandoverDesk", "dropOldest", "()V"⟩, 10) := ⟨⟨by decide +kernel, by decide +kernel⟩, List.mem_of_getElem? (i := 16) (by decide +kernel), List.mem_of_getElem? (i := 187) (by decide +kernel), List.mem_of_getElem? (i := 188) (by decide +kernel)⟩
theorem lw_p2 : lw_okq (⟨"HandoverDesk$State", "putLevel", "(III)V"⟩, 17) := ⟨⟨by decide +kernel, by decide +kernel⟩, List.mem_of_getElem? (i := 24) (by decide +kernel), List.mem_of_getElem? (i := 264) (by decide +kernel), List.mem_of_getElem? (i := 265) (by decide +kernel)⟩
theorem lw_p3 : lw_okq (⟨"HandoverDesk$State", "work", "([I)V"⟩, 17) := ⟨⟨by decide +kernel, by decide +kernel⟩, List.mem_of_getElem? (i := 24) (by decide +kernel), List.mem_of_getElem? (i := 303) (by decide +kernel), List.mem_of_getElem? (i := 304) (by decide +kernel)⟩
theorem lw_p4 : lw_okq (⟨"HandoverDesk$State", "passOn", "([I[II)I"⟩, 17) := ⟨⟨by decide +kernel, by decide +kernel⟩, List.mem_of_getElem? (i := 24) (by decide +kernel), List.mem_of_getElem? (i := 307) (by decide +kernel), List.mem_of_getElem? (i := 308) (by decide +kernel)⟩
theorem lw_p5 : lw_okq (⟨"HandoverDesk$State", "widestGap", "([I[I)I"⟩, 17) := ⟨⟨by decide +kernel, by decide +kernel⟩, List.mem_of_getElem? (i := 24) (by decide +kernel), List.mem_of_getElem? (i := 311) (by decide +kernel), List.mem_of_getElem? (i := 312) (by decide +kernel)⟩
theorem lw_p6 : lw_okq (⟨"HandoverDesk$State", "decay", "([I)V"⟩, 17) := ⟨⟨by decide +kernel, by decide +kernel⟩, List.mem_of_getElem? (i := 24) (by decide +kernel), List.mem_of_getElem? (i := 315) (by decide +kernel), List.mem_of_getElem? (i := 316) (by decide +kernel)⟩
theorem lw_p7 : lw_okq (⟨"HandoverDesk$State", "beginWithOpen", "([I)V"⟩, 17) := ⟨⟨by decide +kernel, by decide +kernel⟩, List.mem_of_getElem? (i := 24) (by decide +kernel), List.mem_of_getElem? (i := 319) (by decide +kernel), List.mem_of_getElem? (i := 320) (by decide +kernel)⟩
theorem lw_p8 : lw_okq (⟨"HandoverDesk$State", "missesOfChecklist", "([I)I"⟩, 17) := ⟨⟨by decide +kernel, by decide +kernel⟩, List.mem_of_getElem? (i := 24) (by decide +kernel), List.mem_of_getElem? (i := 323) (by decide +kernel), List.mem_of_getElem? (i := 324) (by decide +kernel)⟩
theorem lw_p9 : lw_okq (⟨"HandoverDesk", "missesOfLastTwo", "(III)I"⟩, 10) := ⟨⟨by decide +kernel, by decide +kernel⟩, List.mem_of_getElem? (i := 16) (by decide +kernel), List.mem_of_getElem? (i := 419) (by decide +kernel), List.mem_of_getElem? (i := 420) (by decide +kernel)⟩
theorem lw_p10 : lw_okq (⟨"HandoverDesk$Pad", "readSign", "(C)I"⟩, 5) := ⟨⟨by decide +kernel, by decide +kernel⟩, List.mem_of_getElem? (i := 106) (by decide +kernel), List.mem_of_getElem? (i := 457) (by decide +kernel), List.mem_of_getElem? (i := 458) (by decide +kernel)⟩
theorem lw_p11 : lw_okq (⟨"HandoverDesk$Pad", "readPart", "(C)I"⟩, 5) := ⟨⟨by decide +kernel, by decide +kernel⟩, List.mem_of_getElem? (i := 106) (by decide +kernel), List.mem_of_getElem? (i := 575) (by decide +kernel), List.mem_of_getElem? (i := 576) (by decide +kernel)⟩
theorem lw_p12 : lw_okq (⟨"HandoverDesk$Pad", "readDigit", "(C)I"⟩, 5) := ⟨⟨by decide +kernel, by decide +kernel⟩, List.mem_of_getElem? (i := 106) (by decide +kernel), List.mem_of_getElem? (i := 579) (by decide +kernel), List.mem_of_getElem? (i := 580) (by decide +kernel)⟩
theorem lw_p13 : lw_okq (⟨"HandoverDesk$Pad", "readNumber", "()I"⟩, 5) := ⟨⟨by decide +kernel, by decide +kernel⟩, List.mem_of_getElem? (i := 106) (by decide +kernel), List.mem_of_getElem? (i := 583) (by decide +kernel), List.mem_of_getElem? (i := 584) (by decide +kernel)⟩
theorem lw_p14 : lw_okq (⟨"HandoverDeskModel", "records", "()V"⟩, 11) := ⟨⟨by decide +kernel, by decide +kernel⟩, List.mem_of_getElem? (i := 622) (by decide +kernel), List.mem_of_getElem? (i := 680) (by decide +kernel), List.mem_of_getElem? (i := 681) (by decide +kernel)⟩
theorem lw_p15 : lw_okq (⟨"HandoverDeskModel", "changes", "(II)I"⟩, 11) := ⟨⟨by decide +kernel, by decide +kernel⟩, List.mem_of_getElem? (i := 622) (by decide +kernel), List.mem_of_getElem? (i := 704) (by decide +kernel), List.mem_of_getElem? (i := 705) (by decide +kernel)⟩
def lw_privs_1 : List (MethodName × Nat) := [(⟨"HandoverDesk", "recorded", "(I)I"⟩, 10), (⟨"HandoverDesk", "dropOldest", "()V"⟩, 10), (⟨"HandoverDesk$State", "putLevel", "(III)V"⟩, 17), (⟨"HandoverDesk$State", "work", "([I)V"⟩, 17), (⟨"HandoverDesk$State", "passOn", "([I[II)I"⟩, 17), (⟨"HandoverDesk$State", "widestGap", "([I[I)I"⟩, 17), (⟨"HandoverDesk$State", "decay", "([I)V"⟩, 17), (⟨"HandoverDesk$State", "beginWithOpen", "([I)V"⟩, 17), (⟨"HandoverDesk$State", "missesOfChecklist", "([I)I"⟩, 17), (⟨"HandoverDesk", "missesOfLastTwo", "(III)I"⟩, 10), (⟨"HandoverDesk$Pad", "readSign", "(C)I"⟩, 5), (⟨"HandoverDesk$Pad", "readPart", "(C)I"⟩, 5), (⟨"HandoverDesk$Pad", "readDigit", "(C)I"⟩, 5), (⟨"HandoverDesk$Pad", "readNumber", "()I"⟩, 5), (⟨"HandoverDeskModel", "records", "()V"⟩, 11), (⟨"HandoverDeskModel", "changes", "(II)I"⟩, 11)]
theorem lw_r1 : ∀ q ∈ lw_privs_1, lw_okq q := List.forall_mem_cons.mpr ⟨lw_p0, List.forall_mem_cons.mpr ⟨lw_p1, List.forall_mem_cons.mpr ⟨lw_p2, List.forall_mem_cons.mpr ⟨lw_p3, List.forall_mem_cons.mpr ⟨lw_p4, List.forall_mem_cons.mpr ⟨lw_p5, List.forall_mem_cons.mpr ⟨lw_p6, List.forall_mem_cons.mpr ⟨lw_p7, List.forall_mem_cons.mpr ⟨lw_p8, List.forall_mem_cons.mpr ⟨lw_p9, List.forall_mem_cons.mpr ⟨lw_p10, List.forall_mem_cons.mpr ⟨lw_p11, List.forall_mem_cons.mpr ⟨lw_p12, List.forall_mem_cons.mpr ⟨lw_p13, List.forall_mem_cons.mpr ⟨lw_p14, List.forall_mem_cons.mpr ⟨lw_p15, fun _ h => absurd h List.not_mem_nil⟩⟩⟩⟩⟩⟩⟩⟩⟩⟩⟩⟩⟩⟩⟩⟩
theorem lw_p16 : lw_okq (⟨"HandoverDeskModel", "comes", "()V"⟩, 11) := ⟨⟨by decide +kernel, by decide +kernel⟩, List.mem_of_getElem? (i := 622) (by decide +kernel), List.mem_of_getElem? (i := 719) (by decide +kernel), List.mem_of_getElem? (i := 720) (by decide +kernel)⟩
theorem lw_p17 : lw_okq (⟨"HandoverDeskModel", "isTopic", "(I)Z"⟩, 11) := ⟨⟨by decide +kernel, by decide +kernel⟩, List.mem_of_getElem? (i := 622) (by decide +kernel), List.mem_of_getElem? (i := 727) (by decide +kernel), List.mem_of_getElem? (i := 728) (by decide +kernel)⟩
theorem lw_p18 : lw_okq (⟨"HandoverDeskModel", "turns", "(I)I"⟩, 11) := ⟨⟨by decide +kernel, by decide +kernel⟩, List.mem_of_getElem? (i := 622) (by decide +kernel), List.mem_of_getElem? (i := 731) (by decide +kernel), List.mem_of_getElem? (i := 732) (by decide +kernel)⟩
theorem lw_p19 : lw_okq (⟨"HandoverDeskModel", "checks", "(I)I"⟩, 11) := ⟨⟨by decide +kernel, by decide +kernel⟩, List.mem_of_getElem? (i := 622) (by decide +kernel), List.mem_of_getElem? (i := 739) (by decide +kernel), List.mem_of_getElem? (i := 740) (by decide +kernel)⟩
theorem lw_p20 : lw_okq (⟨"HandoverDeskModel", "placeOf", "(I)I"⟩, 11) := ⟨⟨by decide +kernel, by decide +kernel⟩, List.mem_of_getElem? (i := 622) (by decide +kernel), List.mem_of_getElem? (i := 743) (by decide +kernel), List.mem_of_getElem? (i := 744) (by decide +kernel)⟩
theorem lw_p21 : lw_okq (⟨"HandoverDeskModel", "mayLearn", "(III)I"⟩, 11) := ⟨⟨by decide +kernel, by decide +kernel⟩, List.mem_of_getElem? (i := 622) (by decide +kernel), List.mem_of_getElem? (i := 751) (by decide +kernel), List.mem_of_getElem? (i := 752) (by decide +kernel)⟩
theorem lw_p22 : lw_okq (⟨"HandoverDeskModel", "learns", "(III)I"⟩, 11) := ⟨⟨by decide +kernel, by decide +kernel⟩, List.mem_of_getElem? (i := 622) (by decide +kernel), List.mem_of_getElem? (i := 755) (by decide +kernel), List.mem_of_getElem? (i := 756) (by decide +kernel)⟩
theorem lw_p23 : lw_okq (⟨"HandoverDeskModel", "mayCall", "(I)I"⟩, 11) := ⟨⟨by decide +kernel, by decide +kernel⟩, List.mem_of_getElem? (i := 622) (by decide +kernel), List.mem_of_getElem? (i := 769) (by decide +kernel), List.mem_of_getElem? (i := 770) (by decide +kernel)⟩
theorem lw_p24 : lw_okq (⟨"HandoverDeskModel", "best", "(I)I"⟩, 11) := ⟨⟨by decide +kernel, by decide +kernel⟩, List.mem_of_getElem? (i := 622) (by decide +kernel), List.mem_of_getElem? (i := 776) (by decide +kernel), List.mem_of_getElem? (i := 777) (by decide +kernel)⟩
theorem lw_p25 : lw_okq (⟨"HandoverDeskModel", "calls", "(I)I"⟩, 11) := ⟨⟨by decide +kernel, by decide +kernel⟩, List.mem_of_getElem? (i := 622) (by decide +kernel), List.mem_of_getElem? (i := 780) (by decide +kernel), List.mem_of_getElem? (i := 781) (by decide +kernel)⟩
theorem lw_p26 : lw_okq (⟨"HandoverDeskModel", "opened", "()I"⟩, 11) := ⟨⟨by decide +kernel, by decide +kernel⟩, List.mem_of_getElem? (i := 622) (by decide +kernel), List.mem_of_getElem? (i := 825) (by decide +kernel), List.mem_of_getElem? (i := 826) (by decide +kernel)⟩
theorem lw_p27 : lw_okq (⟨"HandoverDeskModel", "tries", "()V"⟩, 11) := ⟨⟨by decide +kernel, by decide +kernel⟩, List.mem_of_getElem? (i := 622) (by decide +kernel), List.mem_of_getElem? (i := 873) (by decide +kernel), List.mem_of_getElem? (i := 874) (by decide +kernel)⟩
theorem lw_p28 : lw_okq (⟨"HandoverDeskModel", "missesBy", "(III)I"⟩, 11) := ⟨⟨by decide +kernel, by decide +kernel⟩, List.mem_of_getElem? (i := 622) (by decide +kernel), List.mem_of_getElem? (i := 885) (by decide +kernel), List.mem_of_getElem? (i := 886) (by decide +kernel)⟩
theorem lw_p29 : lw_okq (⟨"HandoverDeskModel", "isText", "()Z"⟩, 11) := ⟨⟨by decide +kernel, by decide +kernel⟩, List.mem_of_getElem? (i := 622) (by decide +kernel), List.mem_of_getElem? (i := 908) (by decide +kernel), List.mem_of_getElem? (i := 909) (by decide +kernel)⟩
theorem lw_p30 : lw_okq (⟨"HandoverDeskModel", "isOrder", "()Z"⟩, 11) := ⟨⟨by decide +kernel, by decide +kernel⟩, List.mem_of_getElem? (i := 622) (by decide +kernel), List.mem_of_getElem? (i := 912) (by decide +kernel), List.mem_of_getElem? (i := 913) (by decide +kernel)⟩
theorem lw_p31 : lw_okq (⟨"HandoverDeskModel", "isDigit", "(II)Z"⟩, 11) := ⟨⟨by decide +kernel, by decide +kernel⟩, List.mem_of_getElem? (i := 622) (by decide +kernel), List.mem_of_getElem? (i := 916) (by decide +kernel), List.mem_of_getElem? (i := 917) (by decide +kernel)⟩
def lw_privs_2 : List (MethodName × Nat) := [(⟨"HandoverDeskModel", "comes", "()V"⟩, 11), (⟨"HandoverDeskModel", "isTopic", "(I)Z"⟩, 11), (⟨"HandoverDeskModel", "turns", "(I)I"⟩, 11), (⟨"HandoverDeskModel", "checks", "(I)I"⟩, 11), (⟨"HandoverDeskModel", "placeOf", "(I)I"⟩, 11), (⟨"HandoverDeskModel", "mayLearn", "(III)I"⟩, 11), (⟨"HandoverDeskModel", "learns", "(III)I"⟩, 11), (⟨"HandoverDeskModel", "mayCall", "(I)I"⟩, 11), (⟨"HandoverDeskModel", "best", "(I)I"⟩, 11), (⟨"HandoverDeskModel", "calls", "(I)I"⟩, 11), (⟨"HandoverDeskModel", "opened", "()I"⟩, 11), (⟨"HandoverDeskModel", "tries", "()V"⟩, 11), (⟨"HandoverDeskModel", "missesBy", "(III)I"⟩, 11), (⟨"HandoverDeskModel", "isText", "()Z"⟩, 11), (⟨"HandoverDeskModel", "isOrder", "()Z"⟩, 11), (⟨"HandoverDeskModel", "isDigit", "(II)Z"⟩, 11)]
theorem lw_r2 : ∀ q ∈ lw_privs_2, lw_okq q := List.forall_mem_cons.mpr ⟨lw_p16, List.forall_mem_cons.mpr ⟨lw_p17, List.forall_mem_cons.mpr ⟨lw_p18, List.forall_mem_cons.mpr ⟨lw_p19, List.forall_mem_cons.mpr ⟨lw_p20, List.forall_mem_cons.mpr ⟨lw_p21, List.forall_mem_cons.mpr ⟨lw_p22, List.forall_mem_cons.mpr ⟨lw_p23, List.forall_mem_cons.mpr ⟨lw_p24, List.forall_mem_cons.mpr ⟨lw_p25, List.forall_mem_cons.mpr ⟨lw_p26, List.forall_mem_cons.mpr ⟨lw_p27, List.forall_mem_cons.mpr ⟨lw_p28, List.forall_mem_cons.mpr ⟨lw_p29, List.forall_mem_cons.mpr ⟨lw_p30, List.forall_mem_cons.mpr ⟨lw_p31, fun _ h => absurd h List.not_mem_nil⟩⟩⟩⟩⟩⟩⟩⟩⟩⟩⟩⟩⟩⟩⟩⟩
theorem lw_p32 : lw_okq (⟨"HandoverDeskModel", "isAt", "(II)Z"⟩, 11) := ⟨⟨by decide +kernel, by decide +kernel⟩, List.mem_of_getElem? (i := 622) (by decide +kernel), List.mem_of_getElem? (i := 920) (by decide +kernel), List.mem_of_getElem? (i := 921) (by decide +kernel)⟩
theorem lw_p33 : lw_okq (⟨"HandoverDeskModel", "isSign", "(I)Z"⟩, 11) := ⟨⟨by decide +kernel, by decide +kernel⟩, List.mem_of_getElem? (i := 622) (by decide +kernel), List.mem_of_getElem? (i := 924) (by decide +kernel), List.mem_of_getElem? (i := 925) (by decide +kernel)⟩
theorem lw_p34 : lw_okq (⟨"HandoverDeskModel", "isNumber", "(I)Z"⟩, 11) := ⟨⟨by decide +kernel, by decide +kernel⟩, List.mem_of_getElem? (i := 622) (by decide +kernel), List.mem_of_getElem? (i := 928) (by decide +kernel), List.mem_of_getElem? (i := 929) (by decide +kernel)⟩
theorem lw_p35 : lw_okq (⟨"HandoverDeskModel", "does", "(I)Z"⟩, 11) := ⟨⟨by decide +kernel, by decide +kernel⟩, List.mem_of_getElem? (i := 622) (by decide +kernel), List.mem_of_getElem? (i := 936) (by decide +kernel), List.mem_of_getElem? (i := 937) (by decide +kernel)⟩
theorem lw_p36 : lw_okq (⟨"HandoverDeskModel", "mayDo", "(IIII)I"⟩, 11) := ⟨⟨by decide +kernel, by decide +kernel⟩, List.mem_of_getElem? (i := 622) (by decide +kernel), List.mem_of_getElem? (i := 940) (by decide +kernel), List.mem_of_getElem? (i := 941) (by decide +kernel)⟩
def lw_privs_3 : List (MethodName × Nat) := [(⟨"HandoverDeskModel", "isAt", "(II)Z"⟩, 11), (⟨"HandoverDeskModel", "isSign", "(I)Z"⟩, 11), (⟨"HandoverDeskModel", "isNumber", "(I)Z"⟩, 11), (⟨"HandoverDeskModel", "does", "(I)Z"⟩, 11), (⟨"HandoverDeskModel", "mayDo", "(IIII)I"⟩, 11)]
theorem lw_r3 : ∀ q ∈ lw_privs_3, lw_okq q := List.forall_mem_cons.mpr ⟨lw_p32, List.forall_mem_cons.mpr ⟨lw_p33, List.forall_mem_cons.mpr ⟨lw_p34, List.forall_mem_cons.mpr ⟨lw_p35, List.forall_mem_cons.mpr ⟨lw_p36, fun _ h => absurd h List.not_mem_nil⟩⟩⟩⟩⟩
def lw_privs : List (MethodName × Nat) := lw_privs_1 ++ (lw_privs_2 ++ (lw_privs_3))
def lw_tbl : List Cond := k2_sels lw_privs ++ tables_1
theorem lw_privs_ok : ∀ q ∈ lw_privs, lw_okq q := by
  show ∀ q ∈ lw_privs_1 ++ (lw_privs_2 ++ (lw_privs_3)), lw_okq q
  exact List.forall_mem_append.mpr ⟨lw_r1, List.forall_mem_append.mpr ⟨lw_r2, lw_r3⟩⟩
/-- the streams that the claim lets the run draw from -/
abbrev lw_cs : List Choice := [Jvm.Choice.named "NaN.bits"]
theorem lw_bits : nanBits ∈ lw_cs := by first | decide | exact List.mem_cons_self | simp [lw_cs, nanBits]
-- ===== end of PART A; then your names; then what follows =====

def R_law : String := "HandoverDeskLaw"
def RX0 : String := "HandoverDesk$Pad"
def TX0 : u_T := fun k => match k with
  | 0 => ("HandoverDesk$Pad", "signs", "[C", true)
  | 1 => ("HandoverDesk$Pad", "values", "[I", true)
  | 2 => ("HandoverDesk$Pad", "length", "I", false)
  | 3 => ("HandoverDesk$Pad", "letter", "C", false)
  | _ => ("HandoverDesk$Pad", "at", "I", false)
def tyX0 : Nat → FieldType := fun k => match k with
  | 0 => .array .char
  | 1 => .array .int
  | 2 => .int
  | 3 => .char
  | _ => .int
abbrev wsX00 : List Cond := u_ws RX0 TX0 5
theorem nmX0 : ∀ a, a < 5 → ∀ b, b < 5 → a ≠ b → (TX0 a).2.1 ≠ (TX0 b).2.1 := by decide +kernel
theorem tyX0_ok : ∀ k, k < 5 → parseFieldDescriptor (TX0 k).2.2.1 = some (tyX0 k) := by decide +kernel

def RX1 : String := "HandoverDesk$State"
def TX1 : u_T := fun k => match k with
  | 0 => ("HandoverDesk$State", "settings", "[I", true)
  | 1 => ("HandoverDesk$State", "workerAt", "[I", true)
  | 2 => ("HandoverDesk$State", "minutesAt", "[I", true)
  | 3 => ("HandoverDesk$State", "levels", "[[I", true)
  | 4 => ("HandoverDesk$State", "checkedTopics", "[I", true)
  | 5 => ("HandoverDesk$State", "missesOf", "[I", true)
  | 6 => ("HandoverDesk$State", "begunWith", "[I", true)
  | 7 => ("HandoverDesk$State", "begunKnown", "[I", true)
  | 8 => ("HandoverDesk$State", "topics", "I", false)
  | 9 => ("HandoverDesk$State", "openSet", "I", false)
  | 10 => ("HandoverDesk$State", "checked", "I", false)
  | 11 => ("HandoverDesk$State", "shift", "I", false)
  | 12 => ("HandoverDesk$State", "misses", "I", false)
  | 13 => ("HandoverDesk$State", "minutesHad", "I", false)
  | 14 => ("HandoverDesk$State", "minutesIdle", "I", false)
  | 15 => ("HandoverDesk$State", "minutesCost", "I", false)
  | _ => ("HandoverDesk$State", "callsCost", "I", false)
def tyX1 : Nat → FieldType := fun k => match k with
  | 0 => .array .int
  | 1 => .array .int
  | 2 => .array .int
  | 3 => .array (.array .int)
  | 4 => .array .int
  | 5 => .array .int
  | 6 => .array .int
  | 7 => .array .int
  | 8 => .int
  | 9 => .int
  | 10 => .int
  | 11 => .int
  | 12 => .int
  | 13 => .int
  | 14 => .int
  | 15 => .int
  | _ => .int
abbrev wsX10 : List Cond := u_ws RX1 TX1 17
theorem nmX1 : ∀ a, a < 17 → ∀ b, b < 17 → a ≠ b → (TX1 a).2.1 ≠ (TX1 b).2.1 := by decide +kernel
theorem tyX1_ok : ∀ k, k < 17 → parseFieldDescriptor (TX1 k).2.2.1 = some (tyX1 k) := by decide +kernel

def RX2 : String := "HandoverDesk"
def TX2 : u_T := fun k => match k with
  | 0 => ("HandoverDesk", "now", "LHandoverDesk$State;", false)
  | 1 => ("HandoverDesk", "before", "LHandoverDesk$State;", false)
  | 2 => ("HandoverDesk", "history", "[LHandoverDesk$State;", true)
  | 3 => ("HandoverDesk", "undoable", "I", false)
  | 4 => ("HandoverDesk", "slots", "[LHandoverDesk$State;", true)
  | 5 => ("HandoverDesk", "saved", "[Z", true)
  | 6 => ("HandoverDesk", "pad", "LHandoverDesk$Pad;", true)
  | 7 => ("HandoverDesk", "trial", "LHandoverDesk$State;", true)
  | 8 => ("HandoverDesk", "secondTrial", "LHandoverDesk$State;", true)
  | _ => ("HandoverDesk", "thirdTrial", "LHandoverDesk$State;", true)
def tyX2 : Nat → FieldType := fun k => match k with
  | 0 => .object "HandoverDesk$State"
  | 1 => .object "HandoverDesk$State"
  | 2 => .array (.object "HandoverDesk$State")
  | 3 => .int
  | 4 => .array (.object "HandoverDesk$State")
  | 5 => .array .boolean
  | 6 => .object "HandoverDesk$Pad"
  | 7 => .object "HandoverDesk$State"
  | 8 => .object "HandoverDesk$State"
  | _ => .object "HandoverDesk$State"
abbrev wsX20 : List Cond := u_ws RX2 TX2 10
theorem nmX2 : ∀ a, a < 10 → ∀ b, b < 10 → a ≠ b → (TX2 a).2.1 ≠ (TX2 b).2.1 := by decide +kernel
theorem tyX2_ok : ∀ k, k < 10 → parseFieldDescriptor (TX2 k).2.2.1 = some (tyX2 k) := by decide +kernel

def RX3 : String := "HandoverDeskModel"
def TX3 : u_T := fun k => match k with
  | 0 => ("HandoverDeskModel", "now", "[I", true)
  | 1 => ("HandoverDeskModel", "then", "[I", true)
  | 2 => ("HandoverDeskModel", "past", "[I", true)
  | 3 => ("HandoverDeskModel", "kept", "I", false)
  | 4 => ("HandoverDeskModel", "slots", "[I", true)
  | 5 => ("HandoverDeskModel", "held", "[Z", true)
  | 6 => ("HandoverDeskModel", "pad", "[I", true)
  | 7 => ("HandoverDeskModel", "padded", "I", false)
  | 8 => ("HandoverDeskModel", "at", "I", false)
  | 9 => ("HandoverDeskModel", "orders", "[I", true)
  | _ => ("HandoverDeskModel", "ordered", "I", false)
def tyX3 : Nat → FieldType := fun k => match k with
  | 0 => .array .int
  | 1 => .array .int
  | 2 => .array .int
  | 3 => .int
  | 4 => .array .int
  | 5 => .array .boolean
  | 6 => .array .int
  | 7 => .int
  | 8 => .int
  | 9 => .array .int
  | _ => .int
abbrev wsX30 : List Cond := u_ws RX3 TX3 11
theorem nmX3 : ∀ a, a < 11 → ∀ b, b < 11 → a ≠ b → (TX3 a).2.1 ≠ (TX3 b).2.1 := by decide +kernel
theorem tyX3_ok : ∀ k, k < 11 → parseFieldDescriptor (TX3 k).2.2.1 = some (tyX3 k) := by decide +kernel

abbrev vwCl : List vw_C := [(RX0, TX0, 5), (RX1, TX1, 17), (RX2, TX2, 10), (RX3, TX3, 11)]
/-! own classes, by number -/
def cnL : List String := ["HandoverDesk$Pad", "HandoverDesk$State", "HandoverDesk", "HandoverDeskModel", "HandoverDeskLaw", "java/lang/Math", "java/lang/Integer", "java/lang/String", "java/lang/StringLatin1", "jdk/internal/util/Preconditions", "java/lang/Float", "java/lang/Double"]
def cn (o : Nat) : String := cnL.getD o ""
/-- a method: (own class, name, descriptor), its bytes, its locals' words, what it returns, its rank, whether it is static -/
abbrev Mi : Type := (Nat × String × String) × ByteArray × Nat × Option FieldType × Nat × Bool
def mtL0 : List Mi := [((0, "<init>", "()V"), prog_2_method_1_code, 1, none, 1, false),
  ((0, "append", "(J)I"), prog_2_method_3_code, 7, some .int, 1, false),
  ((0, "countSigns", "(J)I"), prog_2_method_2_code, 7, some .int, 0, true),
  ((0, "findFault", "()I"), prog_2_method_5_code, 2, some .int, 5, false),
  ((0, "rewind", "()V"), prog_2_method_4_code, 1, none, 0, false),
  ((0, "readNext", "()Z"), prog_2_method_6_code, 4, some .boolean, 4, false),
  ((0, "readSign", "(C)I"), prog_2_method_9_code, 2, some .int, 0, false),
  ((0, "shapeOf", "(C)Ljava/lang/String;"), prog_2_method_7_code, 1, some (.object "java/lang/String"), 0, true),
  ((0, "readPart", "(C)I"), prog_2_method_8_code, 2, some .int, 2, false),
  ((0, "readDigit", "(C)I"), prog_2_method_10_code, 3, some .int, 0, false),
  ((0, "readNumber", "()I"), prog_2_method_11_code, 4, some .int, 1, false),
  ((1, "<init>", "()V"), prog_3_method_1_code, 2, none, 1, false),
  ((1, "copyFrom", "(LHandoverDesk$State;)V"), prog_3_method_2_code, 3, none, 1, false),
  ((1, "changeSetting", "(II)I"), prog_3_method_17_code, 4, some .int, 1, false),
  ((1, "changeWorker", "(II)I"), prog_3_method_18_code, 4, some .int, 1, false),
  ((1, "changeMinutes", "(II)I"), prog_3_method_19_code, 4, some .int, 1, false)]
def mtL1 : List Mi := [((1, "bringTopic", "()I"), prog_3_method_20_code, 2, some .int, 0, false),
  ((1, "turnTopic", "(I)I"), prog_3_method_21_code, 2, some .int, 1, false),
  ((1, "isTopic", "(I)Z"), prog_3_method_3_code, 2, some .boolean, 0, false),
  ((1, "isOpen", "(I)Z"), prog_3_method_4_code, 2, some .boolean, 0, false),
  ((1, "checkTopic", "(I)I"), prog_3_method_22_code, 4, some .int, 1, false),
  ((1, "placeInChecklist", "(I)I"), prog_3_method_15_code, 3, some .int, 0, false),
  ((1, "learnTopic", "(III)I"), prog_3_method_23_code, 5, some .int, 2, false),
  ((1, "levelOf", "(II)I"), prog_3_method_8_code, 3, some .int, 1, false),
  ((1, "putLevel", "(III)V"), prog_3_method_9_code, 4, none, 1, false),
  ((1, "callAbout", "(I)I"), prog_3_method_24_code, 6, some .int, 3, false),
  ((1, "onDuty", "()I"), prog_3_method_5_code, 1, some .int, 1, false),
  ((1, "greatestFor", "(I)I"), prog_3_method_16_code, 4, some .int, 2, false),
  ((1, "minutesBought", "()I"), prog_3_method_7_code, 1, some .int, 1, false),
  ((1, "finishWith", "(I)I"), prog_3_method_25_code, 5, some .int, 3, false),
  ((1, "nextOnDuty", "()I"), prog_3_method_6_code, 1, some .int, 1, false),
  ((1, "work", "([I)V"), prog_3_method_26_code, 3, none, 1, false)]
def mtL2 : List Mi := [((1, "passOn", "([I[II)I"), prog_3_method_27_code, 7, some .int, 2, false),
  ((1, "widestGap", "([I[I)I"), prog_3_method_28_code, 6, some .int, 1, false),
  ((1, "decay", "([I)V"), prog_3_method_29_code, 3, none, 0, false),
  ((1, "beginWithOpen", "([I)V"), prog_3_method_30_code, 3, none, 1, false),
  ((1, "missesOfChecklist", "([I)I"), prog_3_method_31_code, 5, some .int, 1, false),
  ((1, "howIs", "(I)I"), prog_3_method_11_code, 3, some .int, 3, false),
  ((1, "knows", "(II)Z"), prog_3_method_10_code, 3, some .boolean, 2, false),
  ((1, "countOpen", "()I"), prog_3_method_13_code, 1, some .int, 1, false),
  ((1, "openThatAre", "(I)I"), prog_3_method_12_code, 4, some .int, 4, false),
  ((1, "sumOfOpen", "(I)I"), prog_3_method_14_code, 4, some .int, 2, false),
  ((1, "obey", "(C[I)I"), prog_3_method_32_code, 3, some .int, 4, false),
  ((2, "<init>", "()V"), prog_1_method_1_code, 2, none, 2, false),
  ((2, "set", "(II)I"), prog_1_method_2_code, 3, some .int, 2, false),
  ((2, "isSetting", "(I)Z"), prog_1_method_29_code, 1, some .boolean, 0, true),
  ((2, "recorded", "(I)I"), prog_1_method_33_code, 3, some .int, 1, false),
  ((2, "dropOldest", "()V"), prog_1_method_34_code, 3, none, 0, false)]
def mtL3 : List Mi := [((2, "roster", "(II)I"), prog_1_method_3_code, 3, some .int, 2, false),
  ((2, "isWorker", "(I)Z"), prog_1_method_30_code, 1, some .boolean, 0, true),
  ((2, "isPlace", "(I)Z"), prog_1_method_31_code, 1, some .boolean, 0, true),
  ((2, "minutes", "(II)I"), prog_1_method_4_code, 3, some .int, 2, false),
  ((2, "open", "()I"), prog_1_method_5_code, 1, some .int, 2, false),
  ((2, "turn", "(I)I"), prog_1_method_6_code, 2, some .int, 2, false),
  ((2, "check", "(I)I"), prog_1_method_7_code, 2, some .int, 2, false),
  ((2, "learn", "(III)I"), prog_1_method_8_code, 4, some .int, 3, false),
  ((2, "call", "(I)I"), prog_1_method_9_code, 2, some .int, 4, false),
  ((2, "endShift", "()I"), prog_1_method_10_code, 1, some .int, 4, false),
  ((2, "level", "(II)I"), prog_1_method_11_code, 3, some .int, 2, false),
  ((2, "ofTopic", "(II)I"), prog_1_method_12_code, 3, some .int, 4, false),
  ((2, "checklist", "(I)I"), prog_1_method_13_code, 2, some .int, 0, false),
  ((2, "count", "(I)I"), prog_1_method_14_code, 3, some .int, 5, false),
  ((2, "place", "(II)I"), prog_1_method_15_code, 3, some .int, 1, false),
  ((2, "inOrder", "()I"), prog_1_method_16_code, 3, some .int, 4, false)]
def mtL4 : List Mi := [((2, "share", "(I)I"), prog_1_method_17_code, 3, some .int, 1, false),
  ((2, "bitsOfShare", "(F)I"), prog_1_method_36_code, 3, some .int, 0, true),
  ((2, "mean", "(I)J"), prog_1_method_18_code, 3, some .long, 3, false),
  ((2, "bitsOfMean", "(D)J"), prog_1_method_37_code, 5, some .long, 0, true),
  ((2, "leastMinutes", "()I"), prog_1_method_19_code, 2, some .int, 4, false),
  ((2, "lostIn", "(I)I"), prog_1_method_20_code, 3, some .int, 5, false),
  ((2, "bestSplit", "(II)I"), prog_1_method_21_code, 10, some .int, 5, false),
  ((2, "missesOfLastTwo", "(III)I"), prog_1_method_35_code, 5, some .int, 4, false),
  ((2, "put", "(J)I"), prog_1_method_22_code, 3, some .int, 2, false),
  ((2, "wipe", "()I"), prog_1_method_23_code, 2, some .int, 0, false),
  ((2, "fault", "()I"), prog_1_method_24_code, 1, some .int, 6, false),
  ((2, "carryOut", "()I"), prog_1_method_25_code, 2, some .int, 6, false),
  ((2, "undo", "()I"), prog_1_method_26_code, 2, some .int, 0, false),
  ((2, "save", "(I)I"), prog_1_method_27_code, 2, some .int, 2, false),
  ((2, "isSlot", "(I)Z"), prog_1_method_32_code, 1, some .boolean, 0, true),
  ((2, "restore", "(I)I"), prog_1_method_28_code, 2, some .int, 2, false)]
def mtL5 : List Mi := [((3, "<init>", "()V"), prog_5_method_1_code, 2, none, 1, false),
  ((3, "undo", "()I"), prog_5_method_9_code, 1, some .int, 1, false),
  ((3, "lays", "([II[II)V"), prog_5_method_7_code, 5, none, 0, true),
  ((3, "save", "(I)I"), prog_5_method_10_code, 2, some .int, 1, false),
  ((3, "in", "(III)Z"), prog_5_method_3_code, 3, some .boolean, 0, true),
  ((3, "restore", "(I)I"), prog_5_method_11_code, 2, some .int, 2, false),
  ((3, "records", "()V"), prog_5_method_8_code, 2, none, 1, false),
  ((3, "set", "(II)I"), prog_5_method_24_code, 4, some .int, 2, false),
  ((3, "isFor", "(II)Z"), prog_5_method_23_code, 2, some .boolean, 1, true),
  ((3, "roster", "(II)I"), prog_5_method_27_code, 4, some .int, 3, false),
  ((3, "mayRoster", "(II)I"), prog_5_method_25_code, 2, some .int, 2, true),
  ((3, "isWorker", "(I)Z"), prog_5_method_5_code, 1, some .boolean, 1, true),
  ((3, "isPlace", "(I)Z"), prog_5_method_6_code, 1, some .boolean, 1, true),
  ((3, "changes", "(II)I"), prog_5_method_26_code, 4, some .int, 0, false),
  ((3, "minutes", "(II)I"), prog_5_method_29_code, 4, some .int, 3, false),
  ((3, "mayBuy", "(II)I"), prog_5_method_28_code, 2, some .int, 2, true)]
def mtL6 : List Mi := [((3, "open", "()I"), prog_5_method_31_code, 1, some .int, 2, false),
  ((3, "comes", "()V"), prog_5_method_30_code, 1, none, 0, false),
  ((3, "turn", "(I)I"), prog_5_method_33_code, 2, some .int, 2, false),
  ((3, "isTopic", "(I)Z"), prog_5_method_4_code, 2, some .boolean, 1, false),
  ((3, "turns", "(I)I"), prog_5_method_32_code, 2, some .int, 0, false),
  ((3, "check", "(I)I"), prog_5_method_36_code, 2, some .int, 2, false),
  ((3, "checks", "(I)I"), prog_5_method_35_code, 4, some .int, 1, false),
  ((3, "placeOf", "(I)I"), prog_5_method_34_code, 3, some .int, 0, false),
  ((3, "learn", "(III)I"), prog_5_method_39_code, 5, some .int, 3, false),
  ((3, "mayLearn", "(III)I"), prog_5_method_37_code, 4, some .int, 2, false),
  ((3, "learns", "(III)I"), prog_5_method_38_code, 4, some .int, 1, false),
  ((3, "at", "(II)I"), prog_5_method_13_code, 2, some .int, 0, true),
  ((3, "raises", "([IIII)V"), prog_5_method_15_code, 4, none, 0, true),
  ((3, "call", "(I)I"), prog_5_method_43_code, 3, some .int, 3, false),
  ((3, "mayCall", "(I)I"), prog_5_method_41_code, 3, some .int, 2, false),
  ((3, "worker", "([II)I"), prog_5_method_12_code, 2, some .int, 0, true)]
def mtL7 : List Mi := [((3, "best", "(I)I"), prog_5_method_40_code, 4, some .int, 1, false),
  ((3, "calls", "(I)I"), prog_5_method_42_code, 3, some .int, 2, false),
  ((3, "endShift", "()I"), prog_5_method_44_code, 1, some .int, 5, false),
  ((3, "ends", "([I)I"), prog_5_method_20_code, 4, some .int, 4, true),
  ((3, "handsOver", "([III)V"), prog_5_method_17_code, 6, none, 3, true),
  ((3, "passed", "([III)I"), prog_5_method_16_code, 7, some .int, 2, true),
  ((3, "knows", "([III)Z"), prog_5_method_14_code, 3, some .boolean, 1, true),
  ((3, "decays", "([II)V"), prog_5_method_18_code, 4, none, 1, true),
  ((3, "begins", "([II)I"), prog_5_method_19_code, 6, some .int, 2, true),
  ((3, "level", "(II)I"), prog_5_method_45_code, 3, some .int, 2, false),
  ((3, "ofTopic", "(II)I"), prog_5_method_46_code, 3, some .int, 3, false),
  ((3, "how", "([II)I"), prog_5_method_21_code, 4, some .int, 2, true),
  ((3, "checklist", "(I)I"), prog_5_method_47_code, 2, some .int, 1, false),
  ((3, "count", "(I)I"), prog_5_method_49_code, 2, some .int, 4, false),
  ((3, "opened", "()I"), prog_5_method_48_code, 3, some .int, 0, false),
  ((3, "topicsThat", "([II)I"), prog_5_method_22_code, 4, some .int, 3, true)]
def mtL8 : List Mi := [((3, "place", "(II)I"), prog_5_method_50_code, 3, some .int, 2, false),
  ((3, "inOrder", "()I"), prog_5_method_51_code, 4, some .int, 3, false),
  ((3, "share", "(I)I"), prog_5_method_52_code, 3, some .int, 2, false),
  ((3, "mean", "(I)J"), prog_5_method_53_code, 4, some .long, 2, false),
  ((3, "leastMinutes", "()I"), prog_5_method_55_code, 2, some .int, 5, false),
  ((3, "tries", "()V"), prog_5_method_54_code, 1, none, 1, false),
  ((3, "lostIn", "(I)I"), prog_5_method_56_code, 3, some .int, 5, false),
  ((3, "bestSplit", "(II)I"), prog_5_method_58_code, 9, some .int, 6, false),
  ((3, "missesBy", "(III)I"), prog_5_method_57_code, 4, some .int, 5, false),
  ((3, "put", "(J)I"), prog_5_method_61_code, 5, some .int, 2, false),
  ((3, "toldBy", "(J)I"), prog_5_method_60_code, 4, some .int, 1, true),
  ((3, "byteOf", "(JI)I"), prog_5_method_59_code, 3, some .int, 0, true),
  ((3, "wipe", "()I"), prog_5_method_62_code, 2, some .int, 0, false),
  ((3, "fault", "()I"), prog_5_method_69_code, 1, some .int, 5, false),
  ((3, "isText", "()Z"), prog_5_method_68_code, 2, some .boolean, 4, false),
  ((3, "isOrder", "()Z"), prog_5_method_67_code, 2, some .boolean, 3, false)]
def mtL9 : List Mi := [((3, "isDigit", "(II)Z"), prog_5_method_65_code, 4, some .boolean, 2, false),
  ((3, "isAt", "(II)Z"), prog_5_method_63_code, 3, some .boolean, 1, false),
  ((3, "isSign", "(I)Z"), prog_5_method_64_code, 3, some .boolean, 2, false),
  ((3, "isNumber", "(I)Z"), prog_5_method_66_code, 3, some .boolean, 2, false),
  ((3, "carryOut", "()I"), prog_5_method_72_code, 2, some .int, 6, false),
  ((3, "does", "(I)Z"), prog_5_method_71_code, 6, some .boolean, 5, false),
  ((3, "mayDo", "(IIII)I"), prog_5_method_70_code, 5, some .int, 3, false),
  ((5, "min", "(II)I"), prog_10_method_69_code, 2, some .int, 0, true),
  ((5, "floorMod", "(II)I"), prog_10_method_50_code, 3, some .int, 0, true),
  ((5, "max", "(II)I"), prog_10_method_65_code, 2, some .int, 0, true),
  ((6, "bitCount", "(I)I"), prog_9_method_49_code, 1, some .int, 0, true),
  ((7, "indexOf", "(I)I"), prog_11_method_79_code, 2, some .int, 3, false),
  ((7, "indexOf", "(II)I"), prog_11_method_80_code, 3, some .int, 2, false),
  ((7, "isLatin1", "()Z"), prog_11_method_154_code, 1, some .boolean, 0, false),
  ((7, "length", "()I"), prog_11_method_54_code, 1, some .int, 1, false),
  ((7, "coder", "()B"), prog_11_method_152_code, 1, some .byte, 0, false)]
def mtL10 : List Mi := [((7, "charAt", "(I)C"), prog_11_method_56_code, 2, some .char, 3, false),
  ((7, "checkIndex", "(II)V"), prog_11_method_155_code, 2, none, 1, true),
  ((8, "indexOf", "([BIII)I"), prog_12_method_22_code, 4, some .int, 1, true),
  ((8, "canEncode", "(I)Z"), prog_12_method_4_code, 1, some .boolean, 0, true),
  ((8, "indexOfChar", "([BIII)I"), prog_12_method_23_code, 6, some .int, 0, true),
  ((8, "charAt", "([BI)C"), prog_12_method_2_code, 2, some .char, 2, true),
  ((9, "checkIndex", "(IILjava/util/function/BiFunction;)I"), prog_15_method_11_code, 3, some .int, 0, true),
  ((10, "floatToIntBits", "(F)I"), prog_8_method_24_code, 1, some .int, 1, true),
  ((10, "isNaN", "(F)Z"), prog_8_method_6_code, 1, some .boolean, 0, true),
  ((11, "doubleToLongBits", "(D)J"), prog_7_method_23_code, 2, some .long, 1, true),
  ((11, "isNaN", "(D)Z"), prog_7_method_6_code, 2, some .boolean, 0, true),
  ((4, "law", "([I)Z"), code, 4, some .boolean, 7, true)]
def mtL : List (List Mi) := [mtL0, mtL1, mtL2, mtL3, mtL4, mtL5, mtL6, mtL7, mtL8, mtL9, mtL10]
def mi0 : Mi := ((99, "", ""), ⟨#[]⟩, 0, none, 99, true)
def mi (K : Nat) : Mi := (mtL.getD (K / 16) []).getD (K % 16) mi0
def ow (K : Nat) : Nat := (mi K).1.1
def nm (K : Nat) : MethodName := ⟨cn (mi K).1.1, (mi K).1.2.1, (mi K).1.2.2⟩
def cod (K : Nat) : ByteArray := (mi K).2.1
def mxl (K : Nat) : Nat := (mi K).2.2.1
def rtt (K : Nat) : Option FieldType := (mi K).2.2.2.1
def rk (K : Nat) : Nat := (mi K).2.2.2.2.1
def sta (K : Nat) : Bool := (mi K).2.2.2.2.2
theorem mi_0 : mi 0 = ((0, "<init>", "()V"), prog_2_method_1_code, 1, none, 1, false) := rfl
theorem mi_1 : mi 1 = ((0, "append", "(J)I"), prog_2_method_3_code, 7, some .int, 1, false) := rfl
theorem mi_2 : mi 2 = ((0, "countSigns", "(J)I"), prog_2_method_2_code, 7, some .int, 0, true) := rfl
theorem mi_3 : mi 3 = ((0, "findFault", "()I"), prog_2_method_5_code, 2, some .int, 5, false) := rfl
theorem mi_4 : mi 4 = ((0, "rewind", "()V"), prog_2_method_4_code, 1, none, 0, false) := rfl
theorem mi_5 : mi 5 = ((0, "readNext", "()Z"), prog_2_method_6_code, 4, some .boolean, 4, false) := rfl
theorem mi_6 : mi 6 = ((0, "readSign", "(C)I"), prog_2_method_9_code, 2, some .int, 0, false) := rfl
theorem mi_7 : mi 7 = ((0, "shapeOf", "(C)Ljava/lang/String;"), prog_2_method_7_code, 1, some (.object "java/lang/String"), 0, true) := rfl
theorem mi_8 : mi 8 = ((0, "readPart", "(C)I"), prog_2_method_8_code, 2, some .int, 2, false) := rfl
theorem mi_9 : mi 9 = ((0, "readDigit", "(C)I"), prog_2_method_10_code, 3, some .int, 0, false) := rfl
theorem mi_10 : mi 10 = ((0, "readNumber", "()I"), prog_2_method_11_code, 4, some .int, 1, false) := rfl
theorem mi_11 : mi 11 = ((1, "<init>", "()V"), prog_3_method_1_code, 2, none, 1, false) := rfl
theorem mi_12 : mi 12 = ((1, "copyFrom", "(LHandoverDesk$State;)V"), prog_3_method_2_code, 3, none, 1, false) := rfl
theorem mi_13 : mi 13 = ((1, "changeSetting", "(II)I"), prog_3_method_17_code, 4, some .int, 1, false) := rfl
theorem mi_14 : mi 14 = ((1, "changeWorker", "(II)I"), prog_3_method_18_code, 4, some .int, 1, false) := rfl
theorem mi_15 : mi 15 = ((1, "changeMinutes", "(II)I"), prog_3_method_19_code, 4, some .int, 1, false) := rfl
theorem mi_16 : mi 16 = ((1, "bringTopic", "()I"), prog_3_method_20_code, 2, some .int, 0, false) := rfl
theorem mi_17 : mi 17 = ((1, "turnTopic", "(I)I"), prog_3_method_21_code, 2, some .int, 1, false) := rfl
theorem mi_18 : mi 18 = ((1, "isTopic", "(I)Z"), prog_3_method_3_code, 2, some .boolean, 0, false) := rfl
theorem mi_19 : mi 19 = ((1, "isOpen", "(I)Z"), prog_3_method_4_code, 2, some .boolean, 0, false) := rfl
theorem mi_20 : mi 20 = ((1, "checkTopic", "(I)I"), prog_3_method_22_code, 4, some .int, 1, false) := rfl
theorem mi_21 : mi 21 = ((1, "placeInChecklist", "(I)I"), prog_3_method_15_code, 3, some .int, 0, false) := rfl
theorem mi_22 : mi 22 = ((1, "learnTopic", "(III)I"), prog_3_method_23_code, 5, some .int, 2, false) := rfl
theorem mi_23 : mi 23 = ((1, "levelOf", "(II)I"), prog_3_method_8_code, 3, some .int, 1, false) := rfl
theorem mi_24 : mi 24 = ((1, "putLevel", "(III)V"), prog_3_method_9_code, 4, none, 1, false) := rfl
theorem mi_25 : mi 25 = ((1, "callAbout", "(I)I"), prog_3_method_24_code, 6, some .int, 3, false) := rfl
theorem mi_26 : mi 26 = ((1, "onDuty", "()I"), prog_3_method_5_code, 1, some .int, 1, false) := rfl
theorem mi_27 : mi 27 = ((1, "greatestFor", "(I)I"), prog_3_method_16_code, 4, some .int, 2, false) := rfl
theorem mi_28 : mi 28 = ((1, "minutesBought", "()I"), prog_3_method_7_code, 1, some .int, 1, false) := rfl
theorem mi_29 : mi 29 = ((1, "finishWith", "(I)I"), prog_3_method_25_code, 5, some .int, 3, false) := rfl
theorem mi_30 : mi 30 = ((1, "nextOnDuty", "()I"), prog_3_method_6_code, 1, some .int, 1, false) := rfl
theorem mi_31 : mi 31 = ((1, "work", "([I)V"), prog_3_method_26_code, 3, none, 1, false) := rfl
theorem mi_32 : mi 32 = ((1, "passOn", "([I[II)I"), prog_3_method_27_code, 7, some .int, 2, false) := rfl
theorem mi_33 : mi 33 = ((1, "widestGap", "([I[I)I"), prog_3_method_28_code, 6, some .int, 1, false) := rfl
theorem mi_34 : mi 34 = ((1, "decay", "([I)V"), prog_3_method_29_code, 3, none, 0, false) := rfl
theorem mi_35 : mi 35 = ((1, "beginWithOpen", "([I)V"), prog_3_method_30_code, 3, none, 1, false) := rfl
theorem mi_36 : mi 36 = ((1, "missesOfChecklist", "([I)I"), prog_3_method_31_code, 5, some .int, 1, false) := rfl
theorem mi_37 : mi 37 = ((1, "howIs", "(I)I"), prog_3_method_11_code, 3, some .int, 3, false) := rfl
theorem mi_38 : mi 38 = ((1, "knows", "(II)Z"), prog_3_method_10_code, 3, some .boolean, 2, false) := rfl
theorem mi_39 : mi 39 = ((1, "countOpen", "()I"), prog_3_method_13_code, 1, some .int, 1, false) := rfl
theorem mi_40 : mi 40 = ((1, "openThatAre", "(I)I"), prog_3_method_12_code, 4, some .int, 4, false) := rfl
theorem mi_41 : mi 41 = ((1, "sumOfOpen", "(I)I"), prog_3_method_14_code, 4, some .int, 2, false) := rfl
theorem mi_42 : mi 42 = ((1, "obey", "(C[I)I"), prog_3_method_32_code, 3, some .int, 4, false) := rfl
theorem mi_43 : mi 43 = ((2, "<init>", "()V"), prog_1_method_1_code, 2, none, 2, false) := rfl
theorem mi_44 : mi 44 = ((2, "set", "(II)I"), prog_1_method_2_code, 3, some .int, 2, false) := rfl
theorem mi_45 : mi 45 = ((2, "isSetting", "(I)Z"), prog_1_method_29_code, 1, some .boolean, 0, true) := rfl
theorem mi_46 : mi 46 = ((2, "recorded", "(I)I"), prog_1_method_33_code, 3, some .int, 1, false) := rfl
theorem mi_47 : mi 47 = ((2, "dropOldest", "()V"), prog_1_method_34_code, 3, none, 0, false) := rfl
theorem mi_48 : mi 48 = ((2, "roster", "(II)I"), prog_1_method_3_code, 3, some .int, 2, false) := rfl
theorem mi_49 : mi 49 = ((2, "isWorker", "(I)Z"), prog_1_method_30_code, 1, some .boolean, 0, true) := rfl
theorem mi_50 : mi 50 = ((2, "isPlace", "(I)Z"), prog_1_method_31_code, 1, some .boolean, 0, true) := rfl
theorem mi_51 : mi 51 = ((2, "minutes", "(II)I"), prog_1_method_4_code, 3, some .int, 2, false) := rfl
theorem mi_52 : mi 52 = ((2, "open", "()I"), prog_1_method_5_code, 1, some .int, 2, false) := rfl
theorem mi_53 : mi 53 = ((2, "turn", "(I)I"), prog_1_method_6_code, 2, some .int, 2, false) := rfl
theorem mi_54 : mi 54 = ((2, "check", "(I)I"), prog_1_method_7_code, 2, some .int, 2, false) := rfl
theorem mi_55 : mi 55 = ((2, "learn", "(III)I"), prog_1_method_8_code, 4, some .int, 3, false) := rfl
theorem mi_56 : mi 56 = ((2, "call", "(I)I"), prog_1_method_9_code, 2, some .int, 4, false) := rfl
theorem mi_57 : mi 57 = ((2, "endShift", "()I"), prog_1_method_10_code, 1, some .int, 4, false) := rfl
theorem mi_58 : mi 58 = ((2, "level", "(II)I"), prog_1_method_11_code, 3, some .int, 2, false) := rfl
theorem mi_59 : mi 59 = ((2, "ofTopic", "(II)I"), prog_1_method_12_code, 3, some .int, 4, false) := rfl
theorem mi_60 : mi 60 = ((2, "checklist", "(I)I"), prog_1_method_13_code, 2, some .int, 0, false) := rfl
theorem mi_61 : mi 61 = ((2, "count", "(I)I"), prog_1_method_14_code, 3, some .int, 5, false) := rfl
theorem mi_62 : mi 62 = ((2, "place", "(II)I"), prog_1_method_15_code, 3, some .int, 1, false) := rfl
theorem mi_63 : mi 63 = ((2, "inOrder", "()I"), prog_1_method_16_code, 3, some .int, 4, false) := rfl
theorem mi_64 : mi 64 = ((2, "share", "(I)I"), prog_1_method_17_code, 3, some .int, 1, false) := rfl
theorem mi_65 : mi 65 = ((2, "bitsOfShare", "(F)I"), prog_1_method_36_code, 3, some .int, 0, true) := rfl
theorem mi_66 : mi 66 = ((2, "mean", "(I)J"), prog_1_method_18_code, 3, some .long, 3, false) := rfl
theorem mi_67 : mi 67 = ((2, "bitsOfMean", "(D)J"), prog_1_method_37_code, 5, some .long, 0, true) := rfl
theorem mi_68 : mi 68 = ((2, "leastMinutes", "()I"), prog_1_method_19_code, 2, some .int, 4, false) := rfl
theorem mi_69 : mi 69 = ((2, "lostIn", "(I)I"), prog_1_method_20_code, 3, some .int, 5, false) := rfl
theorem mi_70 : mi 70 = ((2, "bestSplit", "(II)I"), prog_1_method_21_code, 10, some .int, 5, false) := rfl
theorem mi_71 : mi 71 = ((2, "missesOfLastTwo", "(III)I"), prog_1_method_35_code, 5, some .int, 4, false) := rfl
theorem mi_72 : mi 72 = ((2, "put", "(J)I"), prog_1_method_22_code, 3, some .int, 2, false) := rfl
theorem mi_73 : mi 73 = ((2, "wipe", "()I"), prog_1_method_23_code, 2, some .int, 0, false) := rfl
theorem mi_74 : mi 74 = ((2, "fault", "()I"), prog_1_method_24_code, 1, some .int, 6, false) := rfl
theorem mi_75 : mi 75 = ((2, "carryOut", "()I"), prog_1_method_25_code, 2, some .int, 6, false) := rfl
theorem mi_76 : mi 76 = ((2, "undo", "()I"), prog_1_method_26_code, 2, some .int, 0, false) := rfl
theorem mi_77 : mi 77 = ((2, "save", "(I)I"), prog_1_method_27_code, 2, some .int, 2, false) := rfl
theorem mi_78 : mi 78 = ((2, "isSlot", "(I)Z"), prog_1_method_32_code, 1, some .boolean, 0, true) := rfl
theorem mi_79 : mi 79 = ((2, "restore", "(I)I"), prog_1_method_28_code, 2, some .int, 2, false) := rfl
theorem mi_80 : mi 80 = ((3, "<init>", "()V"), prog_5_method_1_code, 2, none, 1, false) := rfl
theorem mi_81 : mi 81 = ((3, "undo", "()I"), prog_5_method_9_code, 1, some .int, 1, false) := rfl
theorem mi_82 : mi 82 = ((3, "lays", "([II[II)V"), prog_5_method_7_code, 5, none, 0, true) := rfl
theorem mi_83 : mi 83 = ((3, "save", "(I)I"), prog_5_method_10_code, 2, some .int, 1, false) := rfl
theorem mi_84 : mi 84 = ((3, "in", "(III)Z"), prog_5_method_3_code, 3, some .boolean, 0, true) := rfl
theorem mi_85 : mi 85 = ((3, "restore", "(I)I"), prog_5_method_11_code, 2, some .int, 2, false) := rfl
theorem mi_86 : mi 86 = ((3, "records", "()V"), prog_5_method_8_code, 2, none, 1, false) := rfl
theorem mi_87 : mi 87 = ((3, "set", "(II)I"), prog_5_method_24_code, 4, some .int, 2, false) := rfl
theorem mi_88 : mi 88 = ((3, "isFor", "(II)Z"), prog_5_method_23_code, 2, some .boolean, 1, true) := rfl
theorem mi_89 : mi 89 = ((3, "roster", "(II)I"), prog_5_method_27_code, 4, some .int, 3, false) := rfl
theorem mi_90 : mi 90 = ((3, "mayRoster", "(II)I"), prog_5_method_25_code, 2, some .int, 2, true) := rfl
theorem mi_91 : mi 91 = ((3, "isWorker", "(I)Z"), prog_5_method_5_code, 1, some .boolean, 1, true) := rfl
theorem mi_92 : mi 92 = ((3, "isPlace", "(I)Z"), prog_5_method_6_code, 1, some .boolean, 1, true) := rfl
theorem mi_93 : mi 93 = ((3, "changes", "(II)I"), prog_5_method_26_code, 4, some .int, 0, false) := rfl
theorem mi_94 : mi 94 = ((3, "minutes", "(II)I"), prog_5_method_29_code, 4, some .int, 3, false) := rfl
theorem mi_95 : mi 95 = ((3, "mayBuy", "(II)I"), prog_5_method_28_code, 2, some .int, 2, true) := rfl
theorem mi_96 : mi 96 = ((3, "open", "()I"), prog_5_method_31_code, 1, some .int, 2, false) := rfl
theorem mi_97 : mi 97 = ((3, "comes", "()V"), prog_5_method_30_code, 1, none, 0, false) := rfl
theorem mi_98 : mi 98 = ((3, "turn", "(I)I"), prog_5_method_33_code, 2, some .int, 2, false) := rfl
theorem mi_99 : mi 99 = ((3, "isTopic", "(I)Z"), prog_5_method_4_code, 2, some .boolean, 1, false) := rfl
theorem mi_100 : mi 100 = ((3, "turns", "(I)I"), prog_5_method_32_code, 2, some .int, 0, false) := rfl
theorem mi_101 : mi 101 = ((3, "check", "(I)I"), prog_5_method_36_code, 2, some .int, 2, false) := rfl
theorem mi_102 : mi 102 = ((3, "checks", "(I)I"), prog_5_method_35_code, 4, some .int, 1, false) := rfl
theorem mi_103 : mi 103 = ((3, "placeOf", "(I)I"), prog_5_method_34_code, 3, some .int, 0, false) := rfl
theorem mi_104 : mi 104 = ((3, "learn", "(III)I"), prog_5_method_39_code, 5, some .int, 3, false) := rfl
theorem mi_105 : mi 105 = ((3, "mayLearn", "(III)I"), prog_5_method_37_code, 4, some .int, 2, false) := rfl
theorem mi_106 : mi 106 = ((3, "learns", "(III)I"), prog_5_method_38_code, 4, some .int, 1, false) := rfl
theorem mi_107 : mi 107 = ((3, "at", "(II)I"), prog_5_method_13_code, 2, some .int, 0, true) := rfl
theorem mi_108 : mi 108 = ((3, "raises", "([IIII)V"), prog_5_method_15_code, 4, none, 0, true) := rfl
theorem mi_109 : mi 109 = ((3, "call", "(I)I"), prog_5_method_43_code, 3, some .int, 3, false) := rfl
theorem mi_110 : mi 110 = ((3, "mayCall", "(I)I"), prog_5_method_41_code, 3, some .int, 2, false) := rfl
theorem mi_111 : mi 111 = ((3, "worker", "([II)I"), prog_5_method_12_code, 2, some .int, 0, true) := rfl
theorem mi_112 : mi 112 = ((3, "best", "(I)I"), prog_5_method_40_code, 4, some .int, 1, false) := rfl
theorem mi_113 : mi 113 = ((3, "calls", "(I)I"), prog_5_method_42_code, 3, some .int, 2, false) := rfl
theorem mi_114 : mi 114 = ((3, "endShift", "()I"), prog_5_method_44_code, 1, some .int, 5, false) := rfl
theorem mi_115 : mi 115 = ((3, "ends", "([I)I"), prog_5_method_20_code, 4, some .int, 4, true) := rfl
theorem mi_116 : mi 116 = ((3, "handsOver", "([III)V"), prog_5_method_17_code, 6, none, 3, true) := rfl
theorem mi_117 : mi 117 = ((3, "passed", "([III)I"), prog_5_method_16_code, 7, some .int, 2, true) := rfl
theorem mi_118 : mi 118 = ((3, "knows", "([III)Z"), prog_5_method_14_code, 3, some .boolean, 1, true) := rfl
theorem mi_119 : mi 119 = ((3, "decays", "([II)V"), prog_5_method_18_code, 4, none, 1, true) := rfl
theorem mi_120 : mi 120 = ((3, "begins", "([II)I"), prog_5_method_19_code, 6, some .int, 2, true) := rfl
theorem mi_121 : mi 121 = ((3, "level", "(II)I"), prog_5_method_45_code, 3, some .int, 2, false) := rfl
theorem mi_122 : mi 122 = ((3, "ofTopic", "(II)I"), prog_5_method_46_code, 3, some .int, 3, false) := rfl
theorem mi_123 : mi 123 = ((3, "how", "([II)I"), prog_5_method_21_code, 4, some .int, 2, true) := rfl
theorem mi_124 : mi 124 = ((3, "checklist", "(I)I"), prog_5_method_47_code, 2, some .int, 1, false) := rfl
theorem mi_125 : mi 125 = ((3, "count", "(I)I"), prog_5_method_49_code, 2, some .int, 4, false) := rfl
theorem mi_126 : mi 126 = ((3, "opened", "()I"), prog_5_method_48_code, 3, some .int, 0, false) := rfl
theorem mi_127 : mi 127 = ((3, "topicsThat", "([II)I"), prog_5_method_22_code, 4, some .int, 3, true) := rfl
theorem mi_128 : mi 128 = ((3, "place", "(II)I"), prog_5_method_50_code, 3, some .int, 2, false) := rfl
theorem mi_129 : mi 129 = ((3, "inOrder", "()I"), prog_5_method_51_code, 4, some .int, 3, false) := rfl
theorem mi_130 : mi 130 = ((3, "share", "(I)I"), prog_5_method_52_code, 3, some .int, 2, false) := rfl
theorem mi_131 : mi 131 = ((3, "mean", "(I)J"), prog_5_method_53_code, 4, some .long, 2, false) := rfl
theorem mi_132 : mi 132 = ((3, "leastMinutes", "()I"), prog_5_method_55_code, 2, some .int, 5, false) := rfl
theorem mi_133 : mi 133 = ((3, "tries", "()V"), prog_5_method_54_code, 1, none, 1, false) := rfl
theorem mi_134 : mi 134 = ((3, "lostIn", "(I)I"), prog_5_method_56_code, 3, some .int, 5, false) := rfl
theorem mi_135 : mi 135 = ((3, "bestSplit", "(II)I"), prog_5_method_58_code, 9, some .int, 6, false) := rfl
theorem mi_136 : mi 136 = ((3, "missesBy", "(III)I"), prog_5_method_57_code, 4, some .int, 5, false) := rfl
theorem mi_137 : mi 137 = ((3, "put", "(J)I"), prog_5_method_61_code, 5, some .int, 2, false) := rfl
theorem mi_138 : mi 138 = ((3, "toldBy", "(J)I"), prog_5_method_60_code, 4, some .int, 1, true) := rfl
theorem mi_139 : mi 139 = ((3, "byteOf", "(JI)I"), prog_5_method_59_code, 3, some .int, 0, true) := rfl
theorem mi_140 : mi 140 = ((3, "wipe", "()I"), prog_5_method_62_code, 2, some .int, 0, false) := rfl
theorem mi_141 : mi 141 = ((3, "fault", "()I"), prog_5_method_69_code, 1, some .int, 5, false) := rfl
theorem mi_142 : mi 142 = ((3, "isText", "()Z"), prog_5_method_68_code, 2, some .boolean, 4, false) := rfl
theorem mi_143 : mi 143 = ((3, "isOrder", "()Z"), prog_5_method_67_code, 2, some .boolean, 3, false) := rfl
theorem mi_144 : mi 144 = ((3, "isDigit", "(II)Z"), prog_5_method_65_code, 4, some .boolean, 2, false) := rfl
theorem mi_145 : mi 145 = ((3, "isAt", "(II)Z"), prog_5_method_63_code, 3, some .boolean, 1, false) := rfl
theorem mi_146 : mi 146 = ((3, "isSign", "(I)Z"), prog_5_method_64_code, 3, some .boolean, 2, false) := rfl
theorem mi_147 : mi 147 = ((3, "isNumber", "(I)Z"), prog_5_method_66_code, 3, some .boolean, 2, false) := rfl
theorem mi_148 : mi 148 = ((3, "carryOut", "()I"), prog_5_method_72_code, 2, some .int, 6, false) := rfl
theorem mi_149 : mi 149 = ((3, "does", "(I)Z"), prog_5_method_71_code, 6, some .boolean, 5, false) := rfl
theorem mi_150 : mi 150 = ((3, "mayDo", "(IIII)I"), prog_5_method_70_code, 5, some .int, 3, false) := rfl
theorem mi_151 : mi 151 = ((5, "min", "(II)I"), prog_10_method_69_code, 2, some .int, 0, true) := rfl
theorem mi_152 : mi 152 = ((5, "floorMod", "(II)I"), prog_10_method_50_code, 3, some .int, 0, true) := rfl
theorem mi_153 : mi 153 = ((5, "max", "(II)I"), prog_10_method_65_code, 2, some .int, 0, true) := rfl
theorem mi_154 : mi 154 = ((6, "bitCount", "(I)I"), prog_9_method_49_code, 1, some .int, 0, true) := rfl
theorem mi_155 : mi 155 = ((7, "indexOf", "(I)I"), prog_11_method_79_code, 2, some .int, 3, false) := rfl
theorem mi_156 : mi 156 = ((7, "indexOf", "(II)I"), prog_11_method_80_code, 3, some .int, 2, false) := rfl
theorem mi_157 : mi 157 = ((7, "isLatin1", "()Z"), prog_11_method_154_code, 1, some .boolean, 0, false) := rfl
theorem mi_158 : mi 158 = ((7, "length", "()I"), prog_11_method_54_code, 1, some .int, 1, false) := rfl
theorem mi_159 : mi 159 = ((7, "coder", "()B"), prog_11_method_152_code, 1, some .byte, 0, false) := rfl
theorem mi_160 : mi 160 = ((7, "charAt", "(I)C"), prog_11_method_56_code, 2, some .char, 3, false) := rfl
theorem mi_161 : mi 161 = ((7, "checkIndex", "(II)V"), prog_11_method_155_code, 2, none, 1, true) := rfl
theorem mi_162 : mi 162 = ((8, "indexOf", "([BIII)I"), prog_12_method_22_code, 4, some .int, 1, true) := rfl
theorem mi_163 : mi 163 = ((8, "canEncode", "(I)Z"), prog_12_method_4_code, 1, some .boolean, 0, true) := rfl
theorem mi_164 : mi 164 = ((8, "indexOfChar", "([BIII)I"), prog_12_method_23_code, 6, some .int, 0, true) := rfl
theorem mi_165 : mi 165 = ((8, "charAt", "([BI)C"), prog_12_method_2_code, 2, some .char, 2, true) := rfl
theorem mi_166 : mi 166 = ((9, "checkIndex", "(IILjava/util/function/BiFunction;)I"), prog_15_method_11_code, 3, some .int, 0, true) := rfl
theorem mi_167 : mi 167 = ((10, "floatToIntBits", "(F)I"), prog_8_method_24_code, 1, some .int, 1, true) := rfl
theorem mi_168 : mi 168 = ((10, "isNaN", "(F)Z"), prog_8_method_6_code, 1, some .boolean, 0, true) := rfl
theorem mi_169 : mi 169 = ((11, "doubleToLongBits", "(D)J"), prog_7_method_23_code, 2, some .long, 1, true) := rfl
theorem mi_170 : mi 170 = ((11, "isNaN", "(D)Z"), prog_7_method_6_code, 2, some .boolean, 0, true) := rfl
theorem mi_171 : mi 171 = ((4, "law", "([I)Z"), code, 4, some .boolean, 7, true) := rfl
/-- the word stands there, and outlives a call -/
def gw (i : Nat) (w : Cond) : Bool := decide (lw_tbl[i]? = some w) && goodWord w
theorem gw_of {i : Nat} {w : Cond} (h : gw i w = true) : w ∈ lw_tbl ∧ goodWord w = true := by
  simp only [gw, Bool.and_eq_true, decide_eq_true_eq] at h
  exact ⟨List.mem_of_getElem? h.1, h.2⟩
def nstL : List (Nat × Nat × Nat) := [(1, 111, 45), (1, 81, 49), (1, 120, 50)]
/-- a call's use: own class, index, kind (0 virtual, 1 static, 2 <init>, 3 virtual of a nest mate, 4 static of one), the method, its words' places, how many arguments -/
abbrev Ci : Type := Nat × Nat × Nat × Nat × Nat × Nat × Nat × Nat × Nat
def calL0 : List Ci := [(0, 25, 1, 2, 467, 468, 0, 41, 1), (0, 36, 0, 4, 485, 486, 487, 41, 0), (0, 39, 0, 5, 489, 490, 491, 41, 0), (0, 43, 0, 6, 493, 495, 10, 41, 1), (0, 49, 0, 155, 498, 499, 500, 47, 1), (0, 59, 1, 7, 582, 583, 0, 41, 1), (0, 63, 0, 158, 590, 513, 514, 47, 0), (0, 66, 0, 160, 591, 592, 593, 47, 1), (0, 70, 0, 8, 611, 613, 11, 41, 1), (0, 83, 0, 9, 615, 617, 12, 41, 1), (0, 86, 0, 10, 619, 621, 13, 41, 0)]
def calL1 : List Ci := [(1, 111, 4, 45, 212, 213, 0, 38, 1), (1, 81, 4, 49, 235, 236, 0, 38, 1), (1, 120, 4, 50, 238, 239, 0, 38, 1), (1, 85, 0, 18, 265, 266, 267, 39, 1), (1, 99, 0, 19, 269, 270, 271, 39, 1), (1, 123, 0, 21, 281, 282, 283, 39, 1), (1, 88, 0, 23, 293, 294, 295, 39, 2), (1, 126, 1, 151, 297, 298, 0, 43, 2), (1, 129, 0, 24, 300, 302, 2, 39, 3), (1, 91, 0, 26, 312, 313, 314, 39, 0), (1, 133, 0, 27, 319, 320, 321, 39, 1), (1, 75, 1, 152, 316, 317, 0, 43, 2), (1, 136, 0, 30, 335, 336, 337, 39, 0), (1, 139, 0, 31, 339, 341, 3, 39, 1), (1, 143, 0, 32, 343, 345, 4, 39, 3), (1, 147, 0, 34, 351, 353, 6, 39, 1), (1, 150, 0, 35, 355, 357, 7, 39, 1), (1, 153, 0, 36, 359, 361, 8, 39, 1), (1, 157, 0, 33, 347, 349, 5, 39, 2), (1, 95, 0, 38, 379, 380, 381, 39, 2), (1, 106, 1, 154, 399, 400, 0, 44, 1), (1, 102, 0, 37, 409, 376, 377, 39, 1), (1, 161, 0, 16, 634, 254, 255, 39, 0), (1, 164, 0, 17, 635, 262, 263, 39, 1), (1, 167, 0, 20, 636, 278, 279, 39, 1), (1, 170, 0, 25, 637, 309, 310, 39, 1), (1, 173, 0, 22, 638, 290, 291, 39, 3), (1, 177, 0, 14, 639, 232, 233, 39, 2), (1, 180, 0, 15, 640, 246, 247, 39, 2), (1, 183, 0, 28, 641, 328, 329, 39, 0), (1, 186, 0, 29, 642, 332, 333, 39, 1)]
def calL2 : List Ci := [(2, 11, 2, 11, 62, 63, 0, 39, 0), (2, 32, 2, 0, 144, 145, 0, 41, 0), (2, 46, 0, 12, 204, 205, 206, 39, 1), (2, 50, 0, 13, 208, 209, 210, 39, 2), (2, 54, 0, 46, 219, 221, 0, 38, 1), (2, 221, 0, 47, 223, 225, 1, 38, 0), (2, 58, 0, 14, 231, 232, 233, 39, 2), (2, 61, 0, 15, 245, 246, 247, 39, 2), (2, 64, 0, 16, 253, 254, 255, 39, 0), (2, 68, 0, 17, 261, 262, 263, 39, 1), (2, 71, 0, 20, 277, 278, 279, 39, 1), (2, 74, 0, 22, 289, 290, 291, 39, 3), (2, 78, 0, 25, 308, 309, 310, 39, 1), (2, 81, 0, 28, 327, 328, 329, 39, 0), (2, 84, 0, 29, 331, 332, 333, 39, 1), (2, 87, 1, 49, 367, 236, 0, 38, 1), (2, 91, 0, 18, 368, 266, 267, 39, 1), (2, 94, 0, 23, 369, 294, 295, 39, 2), (2, 97, 0, 19, 374, 270, 271, 39, 1), (2, 100, 0, 37, 375, 376, 377, 39, 1), (2, 103, 0, 21, 383, 282, 283, 39, 1), (2, 106, 0, 27, 384, 320, 321, 39, 1), (2, 126, 1, 45, 393, 213, 0, 38, 1), (2, 135, 0, 26, 394, 313, 314, 39, 0), (2, 141, 0, 39, 395, 396, 397, 39, 0), (2, 159, 0, 40, 405, 406, 407, 39, 1), (2, 168, 1, 50, 414, 239, 0, 38, 1), (2, 177, 1, 65, 423, 424, 0, 38, 1), (2, 183, 0, 41, 433, 434, 435, 39, 1), (2, 186, 1, 67, 437, 438, 0, 38, 1), (2, 190, 0, 71, 455, 457, 9, 38, 3), (2, 193, 0, 1, 463, 464, 465, 41, 1), (2, 197, 0, 3, 481, 482, 483, 41, 0), (2, 200, 0, 4, 628, 486, 487, 41, 0), (2, 203, 0, 5, 629, 490, 491, 41, 0), (2, 214, 0, 42, 630, 631, 632, 39, 2), (2, 218, 1, 78, 651, 652, 0, 38, 1)]
def calL3 : List Ci := [(3, 40, 1, 82, 702, 703, 0, 42, 4), (3, 32, 1, 84, 709, 710, 0, 42, 3), (3, 44, 0, 86, 716, 718, 14, 42, 0), (3, 81, 1, 88, 724, 725, 0, 42, 2), (3, 92, 1, 90, 731, 732, 0, 42, 2), (3, 95, 0, 93, 740, 742, 15, 42, 2), (3, 85, 1, 91, 734, 735, 0, 42, 1), (3, 89, 1, 92, 737, 738, 0, 42, 1), (3, 98, 1, 95, 748, 749, 0, 42, 2), (3, 101, 0, 97, 755, 757, 16, 42, 0), (3, 104, 0, 99, 763, 765, 17, 42, 1), (3, 107, 0, 100, 767, 769, 18, 42, 1), (3, 114, 0, 102, 775, 777, 19, 42, 1), (3, 111, 0, 103, 779, 781, 20, 42, 1), (3, 117, 0, 105, 787, 789, 21, 42, 3), (3, 121, 0, 106, 791, 793, 22, 42, 3), (3, 47, 1, 107, 795, 796, 0, 42, 2), (3, 59, 1, 108, 798, 799, 0, 42, 4), (3, 127, 0, 110, 805, 807, 23, 42, 1), (3, 130, 0, 113, 816, 818, 25, 42, 1), (3, 63, 1, 111, 809, 810, 0, 42, 2), (3, 124, 0, 112, 812, 814, 24, 42, 1), (3, 133, 1, 115, 824, 825, 0, 42, 1), (3, 67, 1, 116, 827, 828, 0, 42, 3), (3, 71, 1, 119, 836, 837, 0, 42, 2), (3, 75, 1, 120, 839, 840, 0, 42, 2), (3, 55, 1, 117, 830, 831, 0, 42, 3), (3, 51, 1, 118, 833, 834, 0, 42, 3), (3, 78, 1, 123, 850, 851, 0, 42, 2), (3, 137, 0, 126, 861, 863, 26, 42, 0), (3, 141, 1, 127, 865, 866, 0, 42, 2), (3, 147, 1, 167, 880, 881, 0, 45, 1), (3, 155, 1, 169, 895, 896, 0, 46, 1), (3, 161, 0, 133, 909, 911, 27, 42, 0), (3, 164, 0, 136, 921, 923, 28, 42, 3), (3, 173, 1, 138, 929, 930, 0, 42, 1), (3, 169, 1, 139, 932, 933, 0, 42, 2), (3, 198, 0, 142, 944, 946, 29, 42, 0), (3, 194, 0, 143, 948, 950, 30, 42, 0), (3, 188, 0, 146, 960, 962, 33, 42, 1), (3, 185, 0, 144, 952, 954, 31, 42, 2), (3, 191, 0, 147, 964, 966, 34, 42, 1), (3, 179, 0, 145, 956, 958, 32, 42, 2), (3, 205, 0, 149, 972, 974, 35, 42, 1), (3, 201, 0, 150, 976, 978, 36, 42, 4)]
def calL4 : List Ci := [(4, 9, 2, 43, 54, 55, 0, 38, 0), (4, 12, 2, 80, 660, 661, 0, 42, 0), (4, 13, 0, 44, 200, 201, 202, 38, 2), (4, 17, 0, 87, 720, 721, 722, 42, 2), (4, 18, 0, 48, 227, 228, 229, 38, 2), (4, 21, 0, 89, 727, 728, 729, 42, 2), (4, 22, 0, 51, 241, 242, 243, 38, 2), (4, 25, 0, 94, 744, 745, 746, 42, 2), (4, 26, 0, 52, 249, 250, 251, 38, 0), (4, 30, 0, 96, 751, 752, 753, 42, 0), (4, 31, 0, 53, 257, 258, 259, 38, 1), (4, 35, 0, 98, 759, 760, 761, 42, 1), (4, 36, 0, 54, 273, 274, 275, 38, 1), (4, 39, 0, 101, 771, 772, 773, 42, 1), (4, 40, 0, 55, 285, 286, 287, 38, 3), (4, 44, 0, 104, 783, 784, 785, 42, 3), (4, 45, 0, 56, 304, 305, 306, 38, 1), (4, 48, 0, 109, 801, 802, 803, 42, 1), (4, 49, 0, 57, 323, 324, 325, 38, 0), (4, 52, 0, 114, 820, 821, 822, 42, 0), (4, 53, 0, 58, 363, 364, 365, 38, 2), (4, 56, 0, 121, 842, 843, 844, 42, 2), (4, 57, 0, 59, 370, 371, 372, 38, 2), (4, 60, 0, 122, 846, 847, 848, 42, 2), (4, 61, 0, 60, 385, 386, 387, 38, 1), (4, 64, 0, 124, 853, 854, 855, 42, 1), (4, 65, 0, 61, 389, 390, 391, 38, 1), (4, 68, 0, 125, 857, 858, 859, 42, 1), (4, 69, 0, 62, 410, 411, 412, 38, 2), (4, 72, 0, 128, 868, 869, 870, 42, 2), (4, 73, 0, 63, 415, 416, 417, 38, 0), (4, 76, 0, 129, 872, 873, 874, 42, 0), (4, 77, 0, 64, 419, 420, 421, 38, 1), (4, 80, 0, 130, 876, 877, 878, 42, 1), (4, 81, 0, 66, 428, 429, 430, 38, 1), (4, 85, 0, 131, 890, 891, 892, 42, 1), (4, 86, 0, 68, 443, 444, 445, 38, 0), (4, 89, 0, 132, 905, 906, 907, 42, 0), (4, 90, 0, 69, 447, 448, 449, 38, 1), (4, 93, 0, 134, 913, 914, 915, 42, 1), (4, 94, 0, 70, 451, 452, 453, 38, 2), (4, 97, 0, 135, 917, 918, 919, 42, 2), (4, 100, 0, 72, 459, 460, 461, 38, 1), (4, 104, 0, 137, 925, 926, 927, 42, 1), (4, 105, 0, 73, 473, 474, 475, 38, 0), (4, 108, 0, 140, 936, 937, 938, 42, 0), (4, 109, 0, 74, 477, 478, 479, 38, 0), (4, 112, 0, 141, 940, 941, 942, 42, 0), (4, 113, 0, 75, 624, 625, 626, 38, 0), (4, 116, 0, 148, 968, 969, 970, 42, 0), (4, 117, 0, 76, 643, 644, 645, 38, 0), (4, 120, 0, 81, 698, 699, 700, 42, 0), (4, 121, 0, 77, 647, 648, 649, 38, 1), (4, 124, 0, 83, 705, 706, 707, 42, 1), (4, 125, 0, 79, 654, 655, 656, 38, 1), (4, 128, 0, 85, 712, 713, 714, 42, 1)]
def calL7 : List Ci := [(7, 633, 0, 156, 502, 503, 504, 47, 2), (7, 492, 0, 157, 506, 507, 508, 47, 0), (7, 505, 0, 158, 512, 513, 514, 47, 0), (7, 637, 1, 162, 520, 521, 0, 48, 4), (7, 335, 0, 159, 516, 517, 518, 47, 0), (7, 495, 1, 165, 595, 596, 0, 48, 2), (7, 1059, 1, 166, 601, 602, 0, 50, 3)]
def calL8 : List Ci := [(8, 88, 1, 163, 523, 524, 0, 48, 1), (8, 92, 1, 153, 526, 527, 0, 43, 2), (8, 38, 1, 151, 529, 298, 0, 43, 2), (8, 95, 1, 164, 530, 531, 0, 48, 4), (8, 9, 1, 161, 598, 599, 0, 47, 2)]
def calL10 : List Ci := [(10, 59, 1, 168, 883, 884, 0, 45, 1)]
def calL11 : List Ci := [(11, 122, 1, 170, 898, 899, 0, 46, 1)]
def calL (o : Nat) : List Ci := match o with
  | 0 => calL0
  | 1 => calL1
  | 2 => calL2
  | 3 => calL3
  | 4 => calL4
  | 7 => calL7
  | 8 => calL8
  | 10 => calL10
  | 11 => calL11
  | _ => []
def cal (o i : Nat) : Option Ci := (calL o).find? (fun c => c.2.1 == i)
def cwd (K : Nat) : Cond := .code (nm K) (cod K) (mxl K) (rtt K)
def okc (o : Nat) (c : Ci) : Bool := (c.1 == o) && (gw c.2.2.2.2.2.2.2.1 (.initialized (nm c.2.2.2.1).cls) && decide (c.2.2.2.1 < 171) && decide ((parseMethodDescriptor (nm c.2.2.2.1).desc).map (fun d => d.parameters.length) = some c.2.2.2.2.2.2.2.2) && decide ((nm c.2.2.2.1).cls ≠ "java/lang/invoke/MethodHandle" ∧ (nm c.2.2.2.1).cls ≠ "java/lang/invoke/VarHandle") &&
  match c.2.2.1 with
  | 0 => gw c.2.2.2.2.1 (.methodLink (cn o) c.2.1 (nm c.2.2.2.1)) && gw c.2.2.2.2.2.1 (.instanceMethod (nm c.2.2.2.1)) && gw c.2.2.2.2.2.2.1 (.selects (nm c.2.2.2.1).cls (nm c.2.2.2.1) (nm c.2.2.2.1))
  | 1 => gw c.2.2.2.2.1 (.methodLink (cn o) c.2.1 (nm c.2.2.2.1)) && gw c.2.2.2.2.2.1 (.static (nm c.2.2.2.1))
  | 2 => gw c.2.2.2.2.1 (.methodLink (cn o) c.2.1 (nm c.2.2.2.1)) && gw c.2.2.2.2.2.1 (.instanceMethod (nm c.2.2.2.1)) && decide ((nm c.2.2.2.1).name = "<init>") && decide (rtt c.2.2.2.1 = none)
  | 4 => gw c.2.2.2.2.2.1 (.static (nm c.2.2.2.1)) && decide ((o, c.2.1, c.2.2.2.1) ∈ nstL)
  | _ => false)
/-- calls of a nest mate's private methods: their links are said beside the words -/
theorem okc_0_0 : ((calL 0).drop 0 |>.take 12).all (okc 0) = true := by decide +kernel
theorem okc_0 : (calL 0).all (okc 0) = true := by
  have h : calL 0 = ((calL 0).drop 0 |>.take 12) := rfl
  rw [h]
  simp only [List.all_append, okc_0_0, Bool.and_self]
theorem okc_1_0 : ((calL 1).drop 0 |>.take 12).all (okc 1) = true := by decide +kernel
theorem okc_1_1 : ((calL 1).drop 12 |>.take 12).all (okc 1) = true := by decide +kernel
theorem okc_1_2 : ((calL 1).drop 24 |>.take 12).all (okc 1) = true := by decide +kernel
theorem okc_1 : (calL 1).all (okc 1) = true := by
  have h : calL 1 = ((calL 1).drop 0 |>.take 12) ++ (((calL 1).drop 12 |>.take 12) ++ (((calL 1).drop 24 |>.take 12))) := rfl
  rw [h]
  simp only [List.all_append, okc_1_0, okc_1_1, okc_1_2, Bool.and_self]
theorem okc_2_0 : ((calL 2).drop 0 |>.take 12).all (okc 2) = true := by decide +kernel
theorem okc_2_1 : ((calL 2).drop 12 |>.take 12).all (okc 2) = true := by decide +kernel
theorem okc_2_2 : ((calL 2).drop 24 |>.take 12).all (okc 2) = true := by decide +kernel
theorem okc_2_3 : ((calL 2).drop 36 |>.take 12).all (okc 2) = true := by decide +kernel
theorem okc_2 : (calL 2).all (okc 2) = true := by
  have h : calL 2 = ((calL 2).drop 0 |>.take 12) ++ (((calL 2).drop 12 |>.take 12) ++ (((calL 2).drop 24 |>.take 12) ++ (((calL 2).drop 36 |>.take 12)))) := rfl
  rw [h]
  simp only [List.all_append, okc_2_0, okc_2_1, okc_2_2, okc_2_3, Bool.and_self]
theorem okc_3_0 : ((calL 3).drop 0 |>.take 12).all (okc 3) = true := by decide +kernel
theorem okc_3_1 : ((calL 3).drop 12 |>.take 12).all (okc 3) = true := by decide +kernel
theorem okc_3_2 : ((calL 3).drop 24 |>.take 12).all (okc 3) = true := by decide +kernel
theorem okc_3_3 : ((calL 3).drop 36 |>.take 12).all (okc 3) = true := by decide +kernel
theorem okc_3 : (calL 3).all (okc 3) = true := by
  have h : calL 3 = ((calL 3).drop 0 |>.take 12) ++ (((calL 3).drop 12 |>.take 12) ++ (((calL 3).drop 24 |>.take 12) ++ (((calL 3).drop 36 |>.take 12)))) := rfl
  rw [h]
  simp only [List.all_append, okc_3_0, okc_3_1, okc_3_2, okc_3_3, Bool.and_self]
theorem okc_4_0 : ((calL 4).drop 0 |>.take 12).all (okc 4) = true := by decide +kernel
theorem okc_4_1 : ((calL 4).drop 12 |>.take 12).all (okc 4) = true := by decide +kernel
theorem okc_4_2 : ((calL 4).drop 24 |>.take 12).all (okc 4) = true := by decide +kernel
theorem okc_4_3 : ((calL 4).drop 36 |>.take 12).all (okc 4) = true := by decide +kernel
theorem okc_4_4 : ((calL 4).drop 48 |>.take 12).all (okc 4) = true := by decide +kernel
theorem okc_4 : (calL 4).all (okc 4) = true := by
  have h : calL 4 = ((calL 4).drop 0 |>.take 12) ++ (((calL 4).drop 12 |>.take 12) ++ (((calL 4).drop 24 |>.take 12) ++ (((calL 4).drop 36 |>.take 12) ++ (((calL 4).drop 48 |>.take 12))))) := rfl
  rw [h]
  simp only [List.all_append, okc_4_0, okc_4_1, okc_4_2, okc_4_3, okc_4_4, Bool.and_self]
theorem okc_7_0 : ((calL 7).drop 0 |>.take 12).all (okc 7) = true := by decide +kernel
theorem okc_7 : (calL 7).all (okc 7) = true := by
  have h : calL 7 = ((calL 7).drop 0 |>.take 12) := rfl
  rw [h]
  simp only [List.all_append, okc_7_0, Bool.and_self]
theorem okc_8_0 : ((calL 8).drop 0 |>.take 12).all (okc 8) = true := by decide +kernel
theorem okc_8 : (calL 8).all (okc 8) = true := by
  have h : calL 8 = ((calL 8).drop 0 |>.take 12) := rfl
  rw [h]
  simp only [List.all_append, okc_8_0, Bool.and_self]
theorem okc_10_0 : ((calL 10).drop 0 |>.take 12).all (okc 10) = true := by decide +kernel
theorem okc_10 : (calL 10).all (okc 10) = true := by
  have h : calL 10 = ((calL 10).drop 0 |>.take 12) := rfl
  rw [h]
  simp only [List.all_append, okc_10_0, Bool.and_self]
theorem okc_11_0 : ((calL 11).drop 0 |>.take 12).all (okc 11) = true := by decide +kernel
theorem okc_11 : (calL 11).all (okc 11) = true := by
  have h : calL 11 = ((calL 11).drop 0 |>.take 12) := rfl
  rw [h]
  simp only [List.all_append, okc_11_0, Bool.and_self]
set_option maxRecDepth 100000 in
theorem cwd_in : ∀ K, K < 171 → cwd K ∈ lw_tbl := by
  have h : (List.range 171).map cwd = [146, 466, 469, 484, 488, 492, 496, 584, 614, 618, 622, 64, 207, 211, 234, 248, 256, 264, 268, 272, 280, 284, 292, 296, 303, 311, 315, 322, 330, 334, 338, 342, 346, 350, 354, 358, 362, 378, 382, 398, 408, 436, 633, 56, 203, 214, 222, 226, 230, 237, 240, 244, 252, 260, 276, 288, 307, 326, 366, 373, 388, 392, 413, 418, 422, 425, 431, 439, 446, 450, 454, 458, 462, 476, 480, 627, 646, 650, 653, 657, 662, 701, 704, 708, 711, 715, 719, 723, 726, 730, 733, 736, 739, 743, 747, 750, 754, 758, 762, 766, 770, 774, 778, 782, 786, 790, 794, 797, 800, 804, 808, 811, 815, 819, 823, 826, 829, 832, 835, 838, 841, 845, 849, 852, 856, 860, 864, 867, 871, 875, 879, 893, 908, 912, 916, 920, 924, 928, 931, 934, 939, 943, 947, 951, 955, 959, 963, 967, 971, 975, 979, 299, 318, 528, 401, 501, 505, 509, 515, 519, 594, 600, 522, 525, 532, 597, 603, 882, 885, 897, 900].filterMap (fun i => lw_tbl[i]?) := rfl
  intro K hK
  have h1 : cwd K ∈ (List.range 171).map cwd := List.mem_map.mpr ⟨K, List.mem_range.mpr hK, rfl⟩
  rw [h] at h1
  obtain ⟨i, -, hi⟩ := List.mem_filterMap.mp h1
  exact List.mem_of_getElem? hi
