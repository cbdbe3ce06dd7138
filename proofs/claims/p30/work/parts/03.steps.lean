/-! THE PICTURE MACHINE, instruction by instruction, as equations -/
section ES
variable {K pc : Nat} {ls : Lo} {st : List Value} {M : Mm}
theorem EE_stp {c' : Cf} (h : stp (G (rk K)) K (pc, ls, st, M) = some (.inl c')) : EE K pc ls st M = EE K c'.1 c'.2.1 c'.2.2.1 c'.2.2.2 := by
  unfold EE
  rw [EV_step, h]
theorem EE_ret {r : Rz} (h : stp (G (rk K)) K (pc, ls, st, M) = some (.inr r)) : EE K pc ls st M = some r := by
  unfold EE
  rw [EV_step, h]
theorem EE_no (h : stp (G (rk K)) K (pc, ls, st, M) = none) : EE K pc ls st M = none := by
  unfold EE
  rw [EV_step, h]
theorem e_A {i : Instr} {len : Nat} {c' : Cf} (d : decode (cod K) pc = .ok (i, len)) (hk : lok i len = true) (hr : stR K i st M = none) (ha : stA i pc ls st M = some c') : EE K pc ls st M = EE K c'.1 c'.2.1 c'.2.2.1 c'.2.2.2 :=
  EE_stp (by simp only [stp, d, hk, Bool.true_eq_false, if_false, hr, ha])
theorem e_psh {i : Instr} {len n : Nat} {v : Value} (d : decode (cod K) pc = .ok (i, len)) (hk : lok i len = true) (hr : stR K i st M = none) (ha : pshI i = some (v, n)) : EE K pc ls st M = EE K (pc + n) ls (v :: st) M :=
  e_A (c' := (pc + n, ls, v :: st, M)) d hk hr (by simp only [stA, ha])
theorem e_con {n : Int} {v : Int32} (d : decode (cod K) pc = .ok (.iconst n, 1)) (h : Int32.ofInt n = v) : EE K pc ls st M = EE K (pc + 1) ls (.int v :: st) M := by subst h; exact e_psh d rfl rfl rfl
theorem e_bip {n : Int} {v : Int32} (d : decode (cod K) pc = .ok (.bipush n, 2)) (h : (Int8.ofInt n).toInt32 = v) : EE K pc ls st M = EE K (pc + 2) ls (.int v :: st) M := by subst h; exact e_psh d rfl rfl rfl
theorem e_sip {n : Int} {v : Int32} (d : decode (cod K) pc = .ok (.sipush n, 3)) (h : (Int16.ofInt n).toInt32 = v) : EE K pc ls st M = EE K (pc + 3) ls (.int v :: st) M := by subst h; exact e_psh d rfl rfl rfl
theorem e_ld {i : Instr} {len t k n : Nat} {v : Value} (d : decode (cod K) pc = .ok (i, len)) (hk : lok i len = true) (hr : stR K i st M = none) (hp : pshI i = none) (hi : ldI i = some (t, k, n)) (hl : ls[k]? = some (some v)) (hv : vkn v = t) : EE K pc ls st M = EE K (pc + n) ls (v :: st) M :=
  e_A (c' := (pc + n, ls, v :: st, M)) d hk hr (by simp only [stA, hp, hi, hl, hv, if_true])
theorem e_st1 {i : Instr} {len t k n : Nat} {v : Value} {ls' : Lo} (d : decode (cod K) pc = .ok (i, len)) (hk : lok i len = true) (hr : stR K i (v :: st) M = none) (hp : pshI i = none) (hq : ldI i = none) (hi : stoI i = some (t, k, n)) (hv : vkn v = t) (hc : v.category = 1) (hq9 : k < ls.length) (hs : sto1 ls k v = ls') : EE K pc ls (v :: st) M = EE K (pc + n) ls' st M :=
  e_A (c' := (pc + n, ls', st, M)) d hk hr (by simp only [stA, hp, hq, hi, hv, if_true, hc, hq9, hs]; rfl)
theorem e_st2 {i : Instr} {len t k n : Nat} {v : Value} {ls' : Lo} (d : decode (cod K) pc = .ok (i, len)) (hk : lok i len = true) (hr : stR K i (v :: st) M = none) (hp : pshI i = none) (hq : ldI i = none) (hi : stoI i = some (t, k, n)) (hv : vkn v = t) (hc : v.category = 2) (hq9 : k + 1 < ls.length) (hs : sto2 ls k v = ls') : EE K pc ls (v :: st) M = EE K (pc + n) ls' st M :=
  e_A (c' := (pc + n, ls', st, M)) d hk hr (by simp only [stA, hp, hq, hi, hv, if_true, hc, hq9, hs])
theorem e_B {i : Instr} {len : Nat} {c' : Cf} (d : decode (cod K) pc = .ok (i, len)) (hk : lok i len = true) (hr : stR K i st M = none) (hp : pshI i = none) (hq : ldI i = none) (hw : stoI i = none) (ha : stBn i pc ls st M = some c') : EE K pc ls st M = EE K c'.1 c'.2.1 c'.2.2.1 c'.2.2.2 :=
  EE_stp (by simp only [stp, d, hk, Bool.true_eq_false, if_false, hr, stA, hp, hq, hw, ha])
theorem e_II {i : Instr} {x y z : Int32} (d : decode (cod K) pc = .ok (i, 1)) (hk : lok i 1 = true) (hr : stR K i (.int y :: .int x :: st) M = none) (hp : pshI i = none) (hq : ldI i = none) (hw : stoI i = none) (h : binI i x y = some z) : EE K pc ls (.int y :: .int x :: st) M = EE K (pc + 1) ls (.int z :: st) M :=
  e_B (c' := (pc + 1, ls, .int z :: st, M)) d hk hr hp hq hw (by simp only [stBn, h, Option.map_some])
theorem e_div {x y : Int32} (d : decode (cod K) pc = .ok (.idiv, 1)) (h : ¬ y = 0) : EE K pc ls (.int y :: .int x :: st) M = EE K (pc + 1) ls (.int (x / y) :: st) M := e_II d rfl rfl rfl rfl rfl (by simp only [binI, h, if_false])
theorem e_rem {x y : Int32} (d : decode (cod K) pc = .ok (.irem, 1)) (h : ¬ y = 0) : EE K pc ls (.int y :: .int x :: st) M = EE K (pc + 1) ls (.int (x - x / y * y) :: st) M := e_II d rfl rfl rfl rfl rfl (by simp only [binI, h, if_false])
theorem e_LL {i : Instr} {x y z : Int64} (d : decode (cod K) pc = .ok (i, 1)) (hk : lok i 1 = true) (hr : stR K i (.long y :: .long x :: st) M = none) (hp : pshI i = none) (hq : ldI i = none) (hw : stoI i = none) (h : binL i x y = some z) : EE K pc ls (.long y :: .long x :: st) M = EE K (pc + 1) ls (.long z :: st) M :=
  e_B (c' := (pc + 1, ls, .long z :: st, M)) d hk hr hp hq hw (by simp only [stBn, h])
theorem e_sh {i : Instr} {x z : Int64} {y : Int32} (d : decode (cod K) pc = .ok (i, 1)) (hk : lok i 1 = true) (hr : stR K i (.int y :: .long x :: st) M = none) (hp : pshI i = none) (hq : ldI i = none) (hw : stoI i = none) (h : shL i x y = some z) : EE K pc ls (.int y :: .long x :: st) M = EE K (pc + 1) ls (.long z :: st) M :=
  e_B (c' := (pc + 1, ls, .long z :: st, M)) d hk hr hp hq hw (by simp only [stBn, h, Option.map_some])
theorem e_lcmp {x y : Int64} (d : decode (cod K) pc = .ok (.lcmp, 1)) : EE K pc ls (.long y :: .long x :: st) M = EE K (pc + 1) ls (.int (lg_cmp x y) :: st) M :=
  e_B (c' := (pc + 1, ls, .int (lg_cmp x y) :: st, M)) d rfl rfl rfl rfl rfl rfl
theorem e_fcmp {op : CmpOp} {x y : UInt32} (d : decode (cod K) pc = .ok (.fcmp op, 1)) : EE K pc ls (.float y :: .float x :: st) M = EE K (pc + 1) ls (.int (Op.cmpValue (FP.fcmp x y) op) :: st) M :=
  e_B (c' := (pc + 1, ls, .int (Op.cmpValue (FP.fcmp x y) op) :: st, M)) d rfl rfl rfl rfl rfl rfl
theorem e_dcmp {op : CmpOp} {x y : UInt64} (d : decode (cod K) pc = .ok (.dcmp op, 1)) : EE K pc ls (.double y :: .double x :: st) M = EE K (pc + 1) ls (.int (Op.cmpValue (FP.dcmp x y) op) :: st) M :=
  e_B (c' := (pc + 1, ls, .int (Op.cmpValue (FP.dcmp x y) op) :: st, M)) d rfl rfl rfl rfl rfl rfl
theorem e_fmul {x y : UInt32} (d : decode (cod K) pc = .ok (.fmul, 1)) (h : FP.fmul x y &&& 0x7fffffff ≤ 0x7f800000) : EE K pc ls (.float y :: .float x :: st) M = EE K (pc + 1) ls (.float (FP.fmul x y) :: st) M :=
  e_B (c' := (pc + 1, ls, .float (FP.fmul x y) :: st, M)) d rfl rfl rfl rfl rfl (by simp only [stBn, binF, h, if_true, Option.map_some])
theorem e_dmul {x y : UInt64} (d : decode (cod K) pc = .ok (.dmul, 1)) (h : FP.dmul x y &&& 0x7fffffffffffffff ≤ 0x7ff0000000000000) : EE K pc ls (.double y :: .double x :: st) M = EE K (pc + 1) ls (.double (FP.dmul x y) :: st) M :=
  e_B (c' := (pc + 1, ls, .double (FP.dmul x y) :: st, M)) d rfl rfl rfl rfl rfl (by simp only [stBn, binF, h, if_true, Option.map_some])
theorem e_ddiv {x y : UInt64} (d : decode (cod K) pc = .ok (.ddiv, 1)) (h : FP.ddiv x y &&& 0x7fffffffffffffff ≤ 0x7ff0000000000000) : EE K pc ls (.double y :: .double x :: st) M = EE K (pc + 1) ls (.double (FP.ddiv x y) :: st) M :=
  e_B (c' := (pc + 1, ls, .double (FP.ddiv x y) :: st, M)) d rfl rfl rfl rfl rfl (by simp only [stBn, binF, h, if_true, Option.map_some])
theorem e_U {i : Instr} {v z : Value} (d : decode (cod K) pc = .ok (i, 1)) (hk : lok i 1 = true) (hr : stR K i (v :: st) M = none) (hp : pshI i = none) (hq : ldI i = none) (hw : stoI i = none) (hb : stBn i pc ls (v :: st) M = none) (h : unI i v = some z) : EE K pc ls (v :: st) M = EE K (pc + 1) ls (z :: st) M :=
  EE_stp (c' := (pc + 1, ls, z :: st, M)) (by simp only [stp, d, hk, Bool.true_eq_false, if_false, hr, stA, hp, hq, hw, hb, stUn, h, Option.map_some])
theorem bn_i2l (x : Int32) : stBn .i2l pc ls (.int x :: st) M = none := by cases st with | nil => rfl | cons v l => cases v <;> rfl
theorem bn_i2b (x : Int32) : stBn .i2b pc ls (.int x :: st) M = none := by cases st with | nil => rfl | cons v l => cases v <;> rfl
theorem bn_i2c (x : Int32) : stBn .i2c pc ls (.int x :: st) M = none := by cases st with | nil => rfl | cons v l => cases v <;> rfl
theorem bn_i2d (x : Int32) : stBn .i2d pc ls (.int x :: st) M = none := by cases st with | nil => rfl | cons v l => cases v <;> rfl
theorem bn_l2i (x : Int64) : stBn .l2i pc ls (.long x :: st) M = none := by cases st with | nil => rfl | cons v l => cases v <;> rfl
theorem bn_d2l (x : UInt64) : stBn .d2l pc ls (.double x :: st) M = none := by cases st with | nil => rfl | cons v l => cases v <;> rfl
theorem bn_d2f (x : UInt64) : stBn .d2f pc ls (.double x :: st) M = none := by cases st with | nil => rfl | cons v l => cases v <;> rfl
theorem bn_f2i (x : UInt32) : stBn .f2i pc ls (.float x :: st) M = none := by cases st with | nil => rfl | cons v l => cases v <;> rfl
theorem e_d2f {x : UInt64} (d : decode (cod K) pc = .ok (.d2f, 1)) (h : FP.d2f x &&& 0x7fffffff ≤ 0x7f800000) : EE K pc ls (.double x :: st) M = EE K (pc + 1) ls (.float (FP.d2f x) :: st) M :=
  e_U d rfl rfl rfl rfl rfl (bn_d2f x) (by simp only [unI, h, if_true])
/-- no number's instruction: the stack's rows do nothing -/
def noB (i : Instr) : Bool := match i with
  | .iadd | .isub | .imul | .iand | .ior | .ixor | .ishl | .ishr | .iushr | .idiv | .irem | .ladd | .lsub | .land | .lor | .lshl | .lshr | .lushr | .i2l | .l2i | .i2b | .i2c | .i2d | .d2l | .f2i | .d2f | .lcmp | .fmul | .dmul | .ddiv | .fcmp _ | .dcmp _ => false
  | _ => true
theorem noB_I {i : Instr} (h : noB i = true) (x y : Int32) : binI i x y = none := by cases i <;> first | rfl | cases h
theorem noB_L {i : Instr} (h : noB i = true) (x y : Int64) : binL i x y = none := by cases i <;> first | rfl | cases h
theorem noB_s {i : Instr} (h : noB i = true) (x : Int64) (y : Int32) : shL i x y = none := by cases i <;> first | rfl | cases h
theorem noB_F {i : Instr} (h : noB i = true) (v w : Value) : binF i v w = none := by cases i <;> first | rfl | cases h
theorem noB_U {i : Instr} (h : noB i = true) (v : Value) : unI i v = none := by cases i <;> first | rfl | cases h
theorem noB_B {i : Instr} (h : noB i = true) : stBn i pc ls st M = none := by
  unfold stBn
  split
  · rw [noB_I h]; rfl
  · rw [noB_L h]; show (binF i _ _).map _ = none; rw [noB_F h]; rfl
  · rw [noB_s h]; rfl
  · rw [noB_F h]; rfl
  · rw [noB_F h]; rfl
  · rfl
theorem noB_Un {i : Instr} (h : noB i = true) : stUn i pc ls st M = none := by
  unfold stUn
  split
  · rw [noB_U h]; rfl
  · rfl
theorem e_J {i : Instr} {len : Nat} {c' : Cf} (d : decode (cod K) pc = .ok (i, len)) (hk : lok i len = true) (hr : stR K i st M = none) (hp : pshI i = none) (hq : ldI i = none) (hw : stoI i = none) (hn : noB i = true) (ha : stJ i len pc ls st M = some c') : EE K pc ls st M = EE K c'.1 c'.2.1 c'.2.2.1 c'.2.2.2 :=
  EE_stp (by simp only [stp, d, hk, Bool.true_eq_false, if_false, hr, stA, hp, hq, hw, noB_B hn, noB_Un hn, ha])
theorem tgt_of {pc t : Nat} {o : Int} (h : (pc : Int) + o = (t : Int)) : tgt pc o = t := by unfold tgt; rw [h]; rfl
theorem tgt_0 {pc t : Nat} {o : Int} (h : (pc : Int) + o = (t : Int)) : 0 ≤ (pc : Int) + o := by rw [h]; exact Int.natCast_nonneg t
theorem e_goto {o : Int} {t : Nat} (d : decode (cod K) pc = .ok (.goto o, 3)) (h : (pc : Int) + o = (t : Int)) : EE K pc ls st M = EE K t ls st M :=
  e_J (c' := (t, ls, st, M)) d rfl rfl rfl rfl rfl rfl (by simp only [stJ, tgt_of h, tgt_0 h, and_self, if_true])
theorem e_iinc {k : Nat} {n : Int} {x v : Int32} {ls' : Lo} (d : decode (cod K) pc = .ok (.iinc k n, 3)) (hl : ls[k]? = some (some (.int x))) (hv : x + Int32.ofInt n = v) (hs : sto1 ls k (.int v) = ls') : EE K pc ls st M = EE K (pc + 3) ls' st M :=
  e_J (c' := (pc + 3, ls', st, M)) d rfl rfl rfl rfl rfl rfl (by simp only [stJ, hl, hv, hs, if_true])
theorem e_if {c : ClassFile.Cond} {o : Int} {t : Nat} {x : Int32} (d : decode (cod K) pc = .ok (.ifCond c o, 3)) (h : (pc : Int) + o = (t : Int)) : EE K pc ls (.int x :: st) M = if cnd c x 0 = true then EE K t ls st M else EE K (pc + 3) ls st M := by
  have := e_J (K := K) (pc := pc) (ls := ls) (st := .int x :: st) (M := M) (c' := (if cnd c x 0 = true then t else pc + 3, ls, st, M)) d rfl rfl rfl rfl rfl rfl (by simp only [stJ, tgt_of h, tgt_0 h, and_self, if_true])
  rw [this]
  split <;> rfl
theorem e_cmp {c : ClassFile.Cond} {o : Int} {t : Nat} {x y : Int32} (d : decode (cod K) pc = .ok (.if_icmp c o, 3)) (h : (pc : Int) + o = (t : Int)) : EE K pc ls (.int y :: .int x :: st) M = if cnd c x y = true then EE K t ls st M else EE K (pc + 3) ls st M := by
  have := e_J (K := K) (pc := pc) (ls := ls) (st := .int y :: .int x :: st) (M := M) (c' := (if cnd c x y = true then t else pc + 3, ls, st, M)) d rfl rfl rfl rfl rfl rfl (by simp only [stJ, tgt_of h, tgt_0 h, and_self, if_true])
  rw [this]
  split <;> rfl
theorem br_b {α : Type} {b : Bool} {P : Prop} {inst : Decidable P} (h : b = decide P) (x y : α) : (if b = true then x else y) = (if P then x else y) := by
  subst h
  by_cases hp : P
  · rw [if_pos hp, if_pos (decide_eq_true hp)]
  · rw [if_neg hp, if_neg (by rw [decide_eq_false hp]; exact Bool.false_ne_true)]
theorem br_n {α : Type} {P : Prop} {inst : Decidable P} {inst2 : Decidable (¬ P)} (x y : α) : (if ¬ P then x else y) = (if P then y else x) := by
  by_cases hp : P
  · rw [if_pos hp, if_neg (fun h => h hp)]
  · rw [if_neg hp, if_pos hp]
theorem e_eq0 {o : Int} {t : Nat} {x : Int32} (d : decode (cod K) pc = .ok (.ifCond .eq o, 3)) (h : (pc : Int) + o = (t : Int)) : EE K pc ls (.int x :: st) M = if x = 0 then EE K t ls st M else EE K (pc + 3) ls st M := (e_if d h).trans (br_b rfl _ _)
theorem e_ne0 {o : Int} {t : Nat} {x : Int32} (d : decode (cod K) pc = .ok (.ifCond .ne o, 3)) (h : (pc : Int) + o = (t : Int)) : EE K pc ls (.int x :: st) M = if x = 0 then EE K (pc + 3) ls st M else EE K t ls st M := ((e_if d h).trans (br_b (P := ¬ x = 0) rfl _ _)).trans (br_n _ _)
theorem e_lt0 {o : Int} {t : Nat} {x : Int32} (d : decode (cod K) pc = .ok (.ifCond .lt o, 3)) (h : (pc : Int) + o = (t : Int)) : EE K pc ls (.int x :: st) M = if x < 0 then EE K t ls st M else EE K (pc + 3) ls st M := (e_if d h).trans (br_b rfl _ _)
theorem e_ge0 {o : Int} {t : Nat} {x : Int32} (d : decode (cod K) pc = .ok (.ifCond .ge o, 3)) (h : (pc : Int) + o = (t : Int)) : EE K pc ls (.int x :: st) M = if 0 ≤ x then EE K t ls st M else EE K (pc + 3) ls st M := (e_if d h).trans (br_b rfl _ _)
theorem e_gt0 {o : Int} {t : Nat} {x : Int32} (d : decode (cod K) pc = .ok (.ifCond .gt o, 3)) (h : (pc : Int) + o = (t : Int)) : EE K pc ls (.int x :: st) M = if 0 < x then EE K t ls st M else EE K (pc + 3) ls st M := (e_if d h).trans (br_b rfl _ _)
theorem e_le0 {o : Int} {t : Nat} {x : Int32} (d : decode (cod K) pc = .ok (.ifCond .le o, 3)) (h : (pc : Int) + o = (t : Int)) : EE K pc ls (.int x :: st) M = if x ≤ 0 then EE K t ls st M else EE K (pc + 3) ls st M := (e_if d h).trans (br_b rfl _ _)
theorem e_ceq {o : Int} {t : Nat} {x y : Int32} (d : decode (cod K) pc = .ok (.if_icmp .eq o, 3)) (h : (pc : Int) + o = (t : Int)) : EE K pc ls (.int y :: .int x :: st) M = if x = y then EE K t ls st M else EE K (pc + 3) ls st M := (e_cmp d h).trans (br_b rfl _ _)
theorem e_cne {o : Int} {t : Nat} {x y : Int32} (d : decode (cod K) pc = .ok (.if_icmp .ne o, 3)) (h : (pc : Int) + o = (t : Int)) : EE K pc ls (.int y :: .int x :: st) M = if x = y then EE K (pc + 3) ls st M else EE K t ls st M := ((e_cmp d h).trans (br_b (P := ¬ x = y) rfl _ _)).trans (br_n _ _)
theorem e_clt {o : Int} {t : Nat} {x y : Int32} (d : decode (cod K) pc = .ok (.if_icmp .lt o, 3)) (h : (pc : Int) + o = (t : Int)) : EE K pc ls (.int y :: .int x :: st) M = if x < y then EE K t ls st M else EE K (pc + 3) ls st M := (e_cmp d h).trans (br_b rfl _ _)
theorem e_cge {o : Int} {t : Nat} {x y : Int32} (d : decode (cod K) pc = .ok (.if_icmp .ge o, 3)) (h : (pc : Int) + o = (t : Int)) : EE K pc ls (.int y :: .int x :: st) M = if y ≤ x then EE K t ls st M else EE K (pc + 3) ls st M := (e_cmp d h).trans (br_b rfl _ _)
theorem e_cgt {o : Int} {t : Nat} {x y : Int32} (d : decode (cod K) pc = .ok (.if_icmp .gt o, 3)) (h : (pc : Int) + o = (t : Int)) : EE K pc ls (.int y :: .int x :: st) M = if y < x then EE K t ls st M else EE K (pc + 3) ls st M := (e_cmp d h).trans (br_b rfl _ _)
theorem e_cle {o : Int} {t : Nat} {x y : Int32} (d : decode (cod K) pc = .ok (.if_icmp .le o, 3)) (h : (pc : Int) + o = (t : Int)) : EE K pc ls (.int y :: .int x :: st) M = if x ≤ y then EE K t ls st M else EE K (pc + 3) ls st M := (e_cmp d h).trans (br_b rfl _ _)
theorem e_dup {v : Value} (d : decode (cod K) pc = .ok (.dup, 1)) (h : v.category = 1) : EE K pc ls (v :: st) M = EE K (pc + 1) ls (v :: v :: st) M := e_J (c' := (pc + 1, ls, v :: v :: st, M)) d rfl rfl rfl rfl rfl rfl (by simp only [stJ, h, if_true])
theorem e_pop {v : Value} (d : decode (cod K) pc = .ok (.pop, 1)) (h : v.category = 1) : EE K pc ls (v :: st) M = EE K (pc + 1) ls st M := e_J (c' := (pc + 1, ls, st, M)) d rfl rfl rfl rfl rfl rfl (by simp only [stJ, h, if_true])
theorem e_dup2 {v w : Value} (d : decode (cod K) pc = .ok (.dup2, 1)) (h : v.category = 1) (h2 : w.category = 1) : EE K pc ls (v :: w :: st) M = EE K (pc + 1) ls (v :: w :: v :: w :: st) M := e_J (c' := (pc + 1, ls, v :: w :: v :: w :: st, M)) d rfl rfl rfl rfl rfl rfl (by simp only [stJ, h, h2, and_self, if_true])
theorem e_tab {dd lo hi : Int} {os : Array Int} {len : Nat} {x : Int32} {t : Nat} (d : decode (cod K) pc = .ok (.tableswitch dd lo hi os, len))
    (h : (if x.toInt < lo ∨ hi < x.toInt then (if 0 ≤ (pc : Int) + dd then some (tgt pc dd) else none) else (match os[(x.toInt - lo).toNat]? with | some o => if 0 ≤ (pc : Int) + o then some (tgt pc o) else none | none => none)) = some t) : EE K pc ls (.int x :: st) M = EE K t ls st M := by
  refine e_J (c' := (t, ls, st, M)) d rfl rfl rfl rfl rfl rfl ?_
  simp only [stJ]
  by_cases h1 : x.toInt < lo ∨ hi < x.toInt
  · rw [if_pos h1] at h ⊢
    by_cases h2 : 0 ≤ (pc : Int) + dd
    · rw [if_pos h2] at h ⊢
      cases h
      rfl
    · rw [if_neg h2] at h; cases h
  · rw [if_neg h1] at h ⊢
    cases ho : os[(x.toInt - lo).toNat]? with
    | none => rw [ho] at h; cases h
    | some o =>
      rw [ho] at h
      show (if 0 ≤ (pc : Int) + o then _ else _) = _
      by_cases h2 : 0 ≤ (pc : Int) + o
      · have h3 : (if 0 ≤ (pc : Int) + o then some (tgt pc o) else none) = some t := h
        rw [if_pos h2] at h3 ⊢
        cases h3
        rfl
      · have h3 : (if 0 ≤ (pc : Int) + o then some (tgt pc o) else none) = some t := h
        rw [if_neg h2] at h3; cases h3
theorem e_look {dd : Int} {ps : Array (Int × Int)} {len : Nat} {x : Int32} {t : Nat} (d : decode (cod K) pc = .ok (.lookupswitch dd ps, len)) (hp : (ps.toList.zip (ps.toList.drop 1)).all (fun (a, next) => a.1 < next.1) = true) (h : (pc : Int) + Op.lookupswitch.offset ps.toList dd x.toInt = (t : Int)) : EE K pc ls (.int x :: st) M = EE K t ls st M :=
  e_J (c' := (t, ls, st, M)) d rfl rfl rfl rfl rfl rfl (by simp only [stJ, hp, tgt_of h, tgt_0 h, and_self, if_true])
theorem e_M {i : Instr} {len : Nat} {c' : Cf} (d : decode (cod K) pc = .ok (i, len)) (hk : lok i len = true) (hr : stR K i st M = none) (hp : pshI i = none) (hq : ldI i = none) (hw : stoI i = none) (hn : noB i = true) (hj : stJ i len pc ls st M = none) (ha : stM K i pc ls st M = some c') : EE K pc ls st M = EE K c'.1 c'.2.1 c'.2.2.1 c'.2.2.2 :=
  EE_stp (by simp only [stp, d, hk, Bool.true_eq_false, if_false, hr, stA, hp, hq, hw, noB_B hn, noB_Un hn, hj, ha])
theorem e_C {i : Instr} {len : Nat} {c' : Cf} (d : decode (cod K) pc = .ok (i, len)) (hk : lok i len = true) (hr : stR K i st M = none) (hp : pshI i = none) (hq : ldI i = none) (hw : stoI i = none) (hn : noB i = true) (hj : stJ i len pc ls st M = none) (hm : stM K i pc ls st M = none) (ha : stC (G (rk K)) K i pc ls st M = some c') : EE K pc ls st M = EE K c'.1 c'.2.1 c'.2.2.1 c'.2.2.2 :=
  EE_stp (by simp only [stp, d, hk, Bool.true_eq_false, if_false, hr, stA, hp, hq, hw, noB_B hn, noB_Un hn, hj, hm, ha])
theorem e_Cn {i : Instr} {len : Nat} (d : decode (cod K) pc = .ok (i, len)) (hk : lok i len = true) (hr : stR K i st M = none) (hp : pshI i = none) (hq : ldI i = none) (hw : stoI i = none) (hn : noB i = true) (hj : stJ i len pc ls st M = none) (hm : stM K i pc ls st M = none) (ha : stC (G (rk K)) K i pc ls st M = none) : EE K pc ls st M = none :=
  EE_no (by simp only [stp, d, hk, Bool.true_eq_false, if_false, hr, stA, hp, hq, hw, noB_B hn, noB_Un hn, hj, hm, ha])
end ES
section EM
variable {K pc : Nat} {ls : Lo} {st : List Value} {M : Mm} {n : Nat} {I : Nat → Nat → Int32} {R : Nat → Nat → Option Nat}
theorem e_none {i : Instr} {len : Nat} (d : decode (cod K) pc = .ok (i, len)) (hk : lok i len = true) (hr : stR K i st M = none) (hp : pshI i = none) (hq : ldI i = none) (hw : stoI i = none) (hn : noB i = true) (hj : stJ i len pc ls st M = none) (hm : stM K i pc ls st M = none) (hc : stC (G (rk K)) K i pc ls st M = none) : EE K pc ls st M = none := e_Cn d hk hr hp hq hw hn hj hm hc
theorem e_ald {i : Instr} {k a : Nat} {j : Int32} (d : decode (cod K) pc = .ok (i, 1)) (hk : lok i 1 = true) (hi : i = .iaload ∧ k = 5 ∨ i = .caload ∧ k = 6 ∨ i = .baload ∧ k = 7) : EE K pc ls (.int j :: .ref a :: st) (n, I, R) = (ardI k n I a j).bind (fun z => EE K (pc + 1) ls (.int z :: st) (n, I, R)) := by
  cases h : ardI k n I a j with
  | none => rcases hi with ⟨rfl, rfl⟩ | ⟨rfl, rfl⟩ | ⟨rfl, rfl⟩ <;> exact e_none d rfl rfl rfl rfl rfl rfl rfl (by simp only [stM, h, Option.map_none]) rfl
  | some z => rcases hi with ⟨rfl, rfl⟩ | ⟨rfl, rfl⟩ | ⟨rfl, rfl⟩ <;> exact e_M (c' := (pc + 1, ls, .int z :: st, (n, I, R))) d rfl rfl rfl rfl rfl rfl rfl (by simp only [stM, h, Option.map_some])
theorem e_iald {a : Nat} {j : Int32} (d : decode (cod K) pc = .ok (.iaload, 1)) : EE K pc ls (.int j :: .ref a :: st) (n, I, R) = (ardI 5 n I a j).bind (fun z => EE K (pc + 1) ls (.int z :: st) (n, I, R)) := e_ald d rfl (Or.inl ⟨rfl, rfl⟩)
theorem e_cald {a : Nat} {j : Int32} (d : decode (cod K) pc = .ok (.caload, 1)) : EE K pc ls (.int j :: .ref a :: st) (n, I, R) = (ardI 6 n I a j).bind (fun z => EE K (pc + 1) ls (.int z :: st) (n, I, R)) := e_ald d rfl (Or.inr (Or.inl ⟨rfl, rfl⟩))
theorem e_bald {a : Nat} {j : Int32} (d : decode (cod K) pc = .ok (.baload, 1)) : EE K pc ls (.int j :: .ref a :: st) (n, I, R) = (ardI 7 n I a j).bind (fun z => EE K (pc + 1) ls (.int z :: st) (n, I, R)) := e_ald d rfl (Or.inr (Or.inr ⟨rfl, rfl⟩))
/-- may an array's element be written, or a reference read -/
def acI (k : Nat) (n a : Nat) (j : Int32) : Prop := kd a = k ∧ a < 1000 ∧ pos a < n ∧ inb j (ln a)
theorem e_aald {a : Nat} {j : Int32} (d : decode (cod K) pc = .ok (.aaload, 1)) (h : 8 ≤ kd a ∧ a < 1000 ∧ pos a < n ∧ inb j (ln a)) : EE K pc ls (.int j :: .ref a :: st) (n, I, R) = EE K (pc + 1) ls (va_rf (R a j.toNatClampNeg) :: st) (n, I, R) :=
  e_M (c' := (pc + 1, ls, va_rf (R a j.toNatClampNeg) :: st, (n, I, R))) d rfl rfl rfl rfl rfl rfl rfl (by simp only [stM]; exact if_pos h)
theorem e_alen {a : Nat} {z : Int32} (d : decode (cod K) pc = .ok (.arraylength, 1)) (h : aln n I a = some z) : EE K pc ls (.ref a :: st) (n, I, R) = EE K (pc + 1) ls (.int z :: st) (n, I, R) :=
  e_M (c' := (pc + 1, ls, .int z :: st, (n, I, R))) d rfl rfl rfl rfl rfl rfl rfl (by simp only [stM, h, Option.map_some])
theorem e_iast {a : Nat} {j x : Int32} (d : decode (cod K) pc = .ok (.iastore, 1)) (h : acI 5 n a j) : EE K pc ls (.int x :: .int j :: .ref a :: st) (n, I, R) = EE K (pc + 1) ls st (n, wI I a j.toNatClampNeg x, R) :=
  e_M (c' := (pc + 1, ls, st, (n, wI I a j.toNatClampNeg x, R))) d rfl rfl rfl rfl rfl rfl rfl (by simp only [stM]; exact if_pos h)
theorem e_cast {a : Nat} {j x : Int32} (d : decode (cod K) pc = .ok (.castore, 1)) (h : acI 6 n a j) : EE K pc ls (.int x :: .int j :: .ref a :: st) (n, I, R) = EE K (pc + 1) ls st (n, wI I a j.toNatClampNeg (vp_nar .char x), R) :=
  e_M (c' := (pc + 1, ls, st, (n, wI I a j.toNatClampNeg (vp_nar .char x), R))) d rfl rfl rfl rfl rfl rfl rfl (by simp only [stM]; exact if_pos h)
theorem e_bast {a : Nat} {j x : Int32} (d : decode (cod K) pc = .ok (.bastore, 1)) (h : acI 7 n a j) : EE K pc ls (.int x :: .int j :: .ref a :: st) (n, I, R) = EE K (pc + 1) ls st (n, wI I a j.toNatClampNeg (vp_nar .boolean x), R) :=
  e_M (c' := (pc + 1, ls, st, (n, wI I a j.toNatClampNeg (vp_nar .boolean x), R))) d rfl rfl rfl rfl rfl rfl rfl (by simp only [stM]; exact if_pos h)
theorem e_aast {a b : Nat} {j : Int32} (d : decode (cod K) pc = .ok (.aastore, 1)) (h : kd a = 8 ∧ a < 1000 ∧ pos a < n ∧ inb j (ln a) ∧ kd b = 2 ∧ b < 1000 ∧ pos b < n) : EE K pc ls (.ref b :: .int j :: .ref a :: st) (n, I, R) = EE K (pc + 1) ls st (n, I, wR R a j.toNatClampNeg (some b)) :=
  e_M (c' := (pc + 1, ls, st, (n, I, wR R a j.toNatClampNeg (some b)))) d rfl rfl rfl rfl rfl rfl rfl (by simp only [stM]; exact if_pos h)
theorem e_getf {x a ci k : Nat} {c : Fi} (d : decode (cod K) pc = .ok (.getfield x, 3)) (hf : fld (ow K) x = some c) (h1 : c.2.2.1 = ci) (h2 : c.2.2.2.1 = k) : EE K pc ls (.ref a :: st) (n, I, R) = (gfI n I R ci k a).bind (fun z => EE K (pc + 3) ls (z :: st) (n, I, R)) := by
  subst h1; subst h2
  cases h : gfI n I R c.2.2.1 c.2.2.2.1 a with
  | none => exact e_none d rfl rfl rfl rfl rfl rfl rfl (by simp only [stM, hf, h, Option.map_none]) rfl
  | some z => exact e_M (c' := (pc + 3, ls, z :: st, (n, I, R))) d rfl rfl rfl rfl rfl rfl rfl (by simp only [stM, hf, h, Option.map_some])
theorem e_putf {x a ci k : Nat} {v : Value} {c : Fi} (d : decode (cod K) pc = .ok (.putfield x, 3)) (hf : fld (ow K) x = some c) (h1 : c.2.2.1 = ci) (h2 : c.2.2.2.1 = k) (hw : c.2.2.1 = ow K ∧ ((nm K).name = "<init>" ∨ c.2.2.2.2.2 = false) ∨ c.2.2.2.2.2 = false) : EE K pc ls (v :: .ref a :: st) (n, I, R) = (pfI n I R ci k a v).bind (fun z => EE K (pc + 3) ls st (n, z.1, z.2)) := by
  subst h1; subst h2
  cases h : pfI n I R c.2.2.1 c.2.2.2.1 a v with
  | none => exact e_none d rfl rfl rfl rfl rfl rfl rfl (by simp only [stM, hf, if_pos hw, h, Option.map_none]) rfl
  | some z => exact e_M (c' := (pc + 3, ls, st, (n, z.1, z.2))) d rfl rfl rfl rfl rfl rfl rfl (by simp only [stM, hf, if_pos hw, h, Option.map_some])
theorem e_gets {x : Nat} {v : Value} {c : Nat × Nat × Nat × Nat} (d : decode (cod K) pc = .ok (.getstatic x, 3)) (hf : gst (ow K) x = some c) (hv : gsv c.2.2.1 = v) : EE K pc ls st M = EE K (pc + 3) ls (v :: st) M :=
  e_M (c' := (pc + 3, ls, v :: st, M)) d rfl rfl rfl rfl rfl rfl rfl (by simp only [stM, hf, hv])
theorem e_ldc {x : Nat} {v : Value} {o i : Nat} (d : decode (cod K) pc = .ok (.ldc x, 2)) (hf : kon (ow K) x = some (o, i, v)) : EE K pc ls st M = EE K (pc + 2) ls (v :: st) M :=
  e_M (c' := (pc + 2, ls, v :: st, M)) d rfl rfl rfl rfl rfl rfl rfl (by simp only [stM, hf])
theorem e_ldcw {x : Nat} {v : Int32} {o i : Nat} (d : decode (cod K) pc = .ok (.ldc_w x, 3)) (hf : kon (ow K) x = some (o, i, .int v)) : EE K pc ls st M = EE K (pc + 3) ls (.int v :: st) M :=
  e_M (c' := (pc + 3, ls, .int v :: st, M)) d rfl rfl rfl rfl rfl rfl rfl (by simp only [stM, hf])
theorem e_ldc2 {x : Nat} {v : Value} {o i : Nat} (d : decode (cod K) pc = .ok (.ldc2_w x, 3)) (hf : ko2 (ow K) x = some (o, i, v)) : EE K pc ls st M = EE K (pc + 3) ls (v :: st) M :=
  e_M (c' := (pc + 3, ls, v :: st, M)) d rfl rfl rfl rfl rfl rfl rfl (by simp only [stM, hf])
/-- what a call leaves on the stack -/
def psh (r : Option Value) (st : List Value) : List Value := match r with
  | some v => v :: st
  | none => st
theorem psh_some (v : Value) (st : List Value) : psh (some v) st = v :: st := rfl
theorem psh_none (st : List Value) : psh none st = st := rfl
theorem psh_eq (r : Option Value) (st : List Value) : r.toList ++ st = psh r st := by cases r <;> rfl
theorem e_cals {x y w : Nat} {c : Ci} {av : List Value} (d : decode (cod K) pc = .ok (.invokestatic x, 3)) (hc : cal (ow K) x = some c) (hm : c.2.2.1 = 1 ∨ c.2.2.1 = 4) (hy : c.2.2.2.1 = y) (hw : c.2.2.2.2.2.2.2.2 = w) (hr : rk y < rk K ∧ mxl y ≤ 18) (ha : av.length = w) (hl : st.length ≤ 4) :
    EE K pc ls (av.reverse ++ st) M = (FF y av M).bind (fun z => EE K (pc + 3) ls (psh z.1 st) z.2) := by
  subst hy; subst hw
  have h0 : (c.2.2.1 = 1 ∨ c.2.2.1 = 4) ∧ c.2.2.2.2.2.2.2.2 ≤ (av.reverse ++ st).length ∧ (av.reverse ++ st).length ≤ c.2.2.2.2.2.2.2.2 + 4 ∧ rk c.2.2.2.1 < rk K ∧ mxl c.2.2.2.1 ≤ 18 := ⟨hm, by rw [List.length_append, List.length_reverse, ha]; omega, by rw [List.length_append, List.length_reverse, ha]; omega, hr⟩
  have h1 : (av.reverse ++ st).take c.2.2.2.2.2.2.2.2 = av.reverse := by rw [List.take_append_of_le_length (by rw [List.length_reverse, ha]; exact Nat.le_refl _), List.take_of_length_le (by rw [List.length_reverse, ha]; exact Nat.le_refl _)]
  have h2 : (av.reverse ++ st).drop c.2.2.2.2.2.2.2.2 = st := by rw [List.drop_append_of_le_length (by rw [List.length_reverse, ha]; exact Nat.le_refl _), List.drop_of_length_le (by rw [List.length_reverse, ha]; exact Nat.le_refl _)]; rfl
  have h3 : stC (G (rk K)) K (.invokestatic x) pc ls (av.reverse ++ st) M = (FF c.2.2.2.1 av M).map (fun z => (pc + 3, ls, psh z.1 st, z.2)) := by
    simp only [stC, hc, h1, h2, List.reverse_reverse, G_FF _ _ hr.1, psh_eq]
    exact if_pos h0
  cases h : FF c.2.2.2.1 av M with
  | none => exact e_none d rfl rfl rfl rfl rfl rfl rfl rfl (by rw [h3, h]; rfl)
  | some z => exact e_C (c' := (pc + 3, ls, psh z.1 st, z.2)) d rfl rfl rfl rfl rfl rfl rfl rfl (by rw [h3, h]; rfl)
theorem e_calv {x y w a : Nat} {c : Ci} {av : List Value} (d : decode (cod K) pc = .ok (.invokevirtual x, 3)) (hc : cal (ow K) x = some c) (hm : c.2.2.1 = 0) (hy : c.2.2.2.1 = y) (hw : c.2.2.2.2.2.2.2.2 = w) (hr : rk y < rk K ∧ mxl y ≤ 18) (ha : av.length = w) (hl : st.length ≤ 4) (ho : isO (nm y).cls M.1 a = true) :
    EE K pc ls (av.reverse ++ .ref a :: st) M = (FF y (.ref a :: av) M).bind (fun z => EE K (pc + 3) ls (psh z.1 st) z.2) := by
  subst hy; subst hw
  have h1 : (av.reverse ++ .ref a :: st).take c.2.2.2.2.2.2.2.2 = av.reverse := by rw [List.take_append_of_le_length (by rw [List.length_reverse, ha]; exact Nat.le_refl _), List.take_of_length_le (by rw [List.length_reverse, ha]; exact Nat.le_refl _)]
  have h2 : (av.reverse ++ .ref a :: st).drop c.2.2.2.2.2.2.2.2 = .ref a :: st := by rw [List.drop_append_of_le_length (by rw [List.length_reverse, ha]; exact Nat.le_refl _), List.drop_of_length_le (by rw [List.length_reverse, ha]; exact Nat.le_refl _)]; rfl
  have h0 : c.2.2.1 = 0 ∧ c.2.2.2.2.2.2.2.2 ≤ (av.reverse ++ .ref a :: st).length ∧ st.length ≤ 4 ∧ rk c.2.2.2.1 < rk K ∧ mxl c.2.2.2.1 ≤ 18 ∧ isO (nm c.2.2.2.1).cls M.1 a = true := ⟨hm, by rw [List.length_append, List.length_reverse, ha]; omega, hl, hr.1, hr.2, ho⟩
  have h3 : stC (G (rk K)) K (.invokevirtual x) pc ls (av.reverse ++ .ref a :: st) M = (FF c.2.2.2.1 (.ref a :: av) M).map (fun z => (pc + 3, ls, psh z.1 st, z.2)) := by
    simp only [stC, hc, h1, h2, List.reverse_reverse, G_FF _ _ hr.1, psh_eq]
    exact if_pos h0
  cases h : FF c.2.2.2.1 (.ref a :: av) M with
  | none => exact e_none d rfl rfl rfl rfl rfl rfl rfl rfl (by rw [h3, h]; rfl)
  | some z => exact e_C (c' := (pc + 3, ls, psh z.1 st, z.2)) d rfl rfl rfl rfl rfl rfl rfl rfl (by rw [h3, h]; rfl)
theorem e_cali {x y a : Nat} {c : Ci} (d : decode (cod K) pc = .ok (.invokespecial x, 3)) (hc : cal (ow K) x = some c) (hm : c.2.2.1 = 2) (hy : c.2.2.2.1 = y) (hw : c.2.2.2.2.2.2.2.2 = 0) (hr : rk y < rk K ∧ mxl y ≤ 18) (hl : st.length ≤ 4) {M' : Mm} (hF : FF y [.ref a] M = some (none, M')) :
    EE K pc ls (.ref a :: st) M = EE K (pc + 3) ls st M' := by
  subst hy
  have h0 : c.2.2.1 = 2 ∧ 0 ≤ (Value.ref a :: st).length ∧ st.length ≤ 4 ∧ rk c.2.2.2.1 < rk K ∧ mxl c.2.2.2.1 ≤ 18 := ⟨hm, Nat.zero_le _, hl, hr.1, hr.2⟩
  refine e_C (c' := (pc + 3, ls, st, M')) d rfl rfl rfl rfl rfl rfl rfl rfl ?_
  simp only [stC, hc, hw, List.drop_zero, List.take_zero, List.reverse_nil, G_FF _ _ hr.1, hF]
  exact if_pos h0
theorem e_oin {x a : Nat} (d : decode (cod K) pc = .ok (.invokespecial x, 3)) (hc : cal (ow K) x = none) (hn : nat (ow K) x = some 4) (hr : 1 ≤ rk K) (hl : st.length ≤ 4) : EE K pc ls (.ref a :: st) M = EE K (pc + 3) ls st M :=
  e_C (c' := (pc + 3, ls, st, M)) d rfl rfl rfl rfl rfl rfl rfl rfl (by simp only [stC, hc, hn, hl, hr, and_self, if_true])
theorem e_cpy {x a0 a1 : Nat} {sp dp w : Int32} (d : decode (cod K) pc = .ok (.invokestatic x, 3)) (hc : cal (ow K) x = none) (hn : nat (ow K) x = some 1) (hr : 1 ≤ rk K) (hl : st.length ≤ 4) : EE K pc ls (.int w :: .int dp :: .ref a1 :: .int sp :: .ref a0 :: st) (n, I, R) = (cpI n I a0 sp a1 dp w).bind (fun z => EE K (pc + 3) ls st (n, z, R)) := by
  have h3 : stC (G (rk K)) K (.invokestatic x) pc ls (.int w :: .int dp :: .ref a1 :: .int sp :: .ref a0 :: st) (n, I, R) = (cpI n I a0 sp a1 dp w).map (fun z => (pc + 3, ls, st, (n, z, R))) := by
    simp only [stC, hc, hn]
    exact if_pos ⟨hl, hr⟩
  cases h : cpI n I a0 sp a1 dp w with
  | none => exact e_none d rfl rfl rfl rfl rfl rfl rfl rfl (by rw [h3, h]; rfl)
  | some z => exact e_C (c' := (pc + 3, ls, st, (n, z, R))) d rfl rfl rfl rfl rfl rfl rfl rfl (by rw [h3, h]; rfl)
theorem e_new {x : Nat} {c : Nat × Nat × Nat} (d : decode (cod K) pc = .ok (.new x, 3)) (hf : nwc (ow K) x = some c) (h : M.1 < 202 ∧ kd (adr M.1) = c.2.2 + 1) : EE K pc ls st M = EE K (pc + 3) ls (.ref (adr M.1) :: st) (bn M) :=
  e_M (c' := (pc + 3, ls, .ref (adr M.1) :: st, bn M)) d rfl rfl rfl rfl rfl rfl rfl (by simp only [stM, hf]; exact if_pos h)
theorem e_newa {t : ArrayType} {w : Int32} (d : decode (cod K) pc = .ok (.newarray t, 2)) (h : M.1 < 202 ∧ kd (adr M.1) = (if newarray.typeOf t = .int then 5 else if newarray.typeOf t = .char then 6 else if newarray.typeOf t = .boolean then 7 else 99) ∧ ¬ w < 0 ∧ w.toNatClampNeg = ln (adr M.1)) : EE K pc ls (.int w :: st) M = EE K (pc + 2) ls (.ref (adr M.1) :: st) (bn M) :=
  e_M (c' := (pc + 2, ls, .ref (adr M.1) :: st, bn M)) d rfl rfl rfl rfl rfl rfl rfl (by simp only [stM]; exact if_pos h)
theorem e_anew {x : Nat} {w : Int32} (d : decode (cod K) pc = .ok (.anewarray x, 3)) (h : anw (ow K) x = true ∧ M.1 < 202 ∧ kd (adr M.1) = 8 ∧ ¬ w < 0 ∧ w.toNatClampNeg = ln (adr M.1)) : EE K pc ls (.int w :: st) M = EE K (pc + 3) ls (.ref (adr M.1) :: st) (bn M) :=
  e_M (c' := (pc + 3, ls, .ref (adr M.1) :: st, bn M)) d rfl rfl rfl rfl rfl rfl rfl (by simp only [stM]; exact if_pos h)
theorem e_R {i : Instr} {len : Nat} {r : Rz} (d : decode (cod K) pc = .ok (i, len)) (hk : lok i len = true) (h : stR K i st M = some r) : EE K pc ls st M = some r := EE_ret (by simp only [stp, d, hk, Bool.true_eq_false, if_false, h])
theorem e_iret {ty : FieldType} {v : Int32} (d : decode (cod K) pc = .ok (.ireturn, 1)) (hr : rtt K = some ty) (hn : narrow ty (.int v) = .int v) : EE K pc ls [.int v] M = some (some (.int v), M) := e_R d rfl (by simp only [stR, hr, hn, if_true])
theorem e_lret {v : Int64} (d : decode (cod K) pc = .ok (.lreturn, 1)) (hr : rtt K = some .long) : EE K pc ls [.long v] M = some (some (.long v), M) := e_R d rfl (by simp only [stR, hr, if_true])
theorem e_vret (d : decode (cod K) pc = .ok (.return_, 1)) (hr : rtt K = none) : EE K pc ls [] M = some (none, M) := e_R d rfl (by simp only [stR, hr, if_true])
end EM
