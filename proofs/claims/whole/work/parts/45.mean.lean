/-! ===== mean ===== -/
theorem sh52 : ∀ E, E < 1100 → (nI E).toInt64 <<< ((nI 52).toInt64 &&& 63) = Int64.ofNat (E * 2 ^ 52) := by decide +kernel
section ME
variable {M : Mm}
theorem f67z : FF 67 [.double 0] M = some (some (.long 0), M) := by
  have e : Op.cmpValue (FP.dcmp 0 FP.dconst0) .g = 0 := by decide +kernel
  have e2 : ((0 : Int32) < 0) = False := eq_false (by decide)
  simp (disch := first | omega | (show List.length _ ≤ 4; exact Nat.le_of_ble_eq_true rfl) | assumption | exact nbo_0 | exact nbo_1 | exact b2_b) only [FE67, s67_0, s67_1, s67_2, s67_3, s67_6, s67_7, ↓reduceIte, psh_some, psh_none, cln_i, cln_r, cln_n, cln_l, cln_d, cln_f, Option.bind_some, Option.bind_none, if_true, if_false, nI_add, pk_mul, nbo_0, nbo_1, nI_leI, nI_ltI, nI_eq, Nat.reduceAdd, Nat.reduceMul, Nat.add_zero, Nat.mul_zero, e, e2]
theorem p67c {E T : Nat} {l0 : Option Value} (hE2 : E < 1100) (hT : T < 2 ^ 52) : EE 67 67 [l0, none, some (.double (F64 1023 T)), none, some (.int (nI E))] [] M = some (some (.long (Int64.ofNat (E * 2 ^ 52 + T))), M) := by
  have m0 : (4841369599423283200 : UInt64) = F64 (1023 + 52) 0 := by decide +kernel
  have m : FP.dmul (F64 1023 T) 4841369599423283200 = F64 1075 T := by rw [m0]; exact F64_mul (by decide) (by decide) (by decide) hT
  have mn : FP.dmul (F64 1023 T) 4841369599423283200 &&& 0x7fffffffffffffff ≤ 0x7ff0000000000000 := by rw [m]; exact F64_nn (by decide) hT
  have k : (4503599627370496 : Int64) = Int64.ofNat (2 ^ 52) := by decide
  have k2 : Int64.ofNat (2 ^ 52 + T) - Int64.ofNat (2 ^ 52) = Int64.ofNat T := by rw [Nat.add_comm, Int64.ofNat_add, Int64.add_sub_cancel]
  have k4 := sh52 E hE2
  have k5 : Int64.ofNat (E * 2 ^ 52) + Int64.ofNat T = Int64.ofNat (E * 2 ^ 52 + T) := (Int64.ofNat_add _ _).symm
  simp (disch := first | omega | (show List.length _ ≤ 4; exact Nat.le_of_ble_eq_true rfl) | assumption | exact nbo_0 | exact nbo_1 | exact b2_b) only [s67_67, s67_69, s67_70, s67_72, s67_73, s67_74, s67_77, s67_78, s67_79, s67_82, s67_83, s67_84, ↓reduceIte, psh_some, psh_none, cln_i, cln_r, cln_n, cln_l, cln_d, cln_f, Option.bind_some, Option.bind_none, if_true, if_false, nI_add, pk_mul, nbo_0, nbo_1, nI_leI, nI_ltI, nI_eq, Nat.reduceAdd, Nat.reduceMul, Nat.add_zero, Nat.mul_zero, m, F64_d2l hT, k, k2, k4, k5]
theorem p67b {E T : Nat} {l0 : Option Value} (hE2 : E < 1100) (hT : T < 2 ^ 52) : ∀ d J, J = 1023 + d → J ≤ E ∨ d = 0 → EE 67 39 [l0, none, some (.double (F64 J T)), none, some (.int (nI (1023 + E - J)))] [] M = some (some (.long (Int64.ofNat (E * 2 ^ 52 + T))), M) := by
  have m0 : (4611686018427387904 : UInt64) = F64 1024 0 := by decide +kernel
  intro d
  induction d with
  | zero =>
    intro J hJ hEJ
    subst hJ
    have c := F64_lt (L := 1024) (K := 1023) (T := T) (by decide) (by decide) (by decide) hT .l
    have c2 : ((-1 : Int32) < 0) = True := eq_true (by decide)
    have k : 1023 + E - (1023 + 0) = E := by omega
    rw [← p67c (M := M) (l0 := l0) hE2 hT, s67_39, Nat.add_zero]
    rw [Nat.add_zero] at k
    simp (disch := first | omega | (show List.length _ ≤ 4; exact Nat.le_of_ble_eq_true rfl) | assumption | exact nbo_0 | exact nbo_1 | exact b2_b) only [s67_40, s67_43, s67_44, ↓reduceIte, psh_some, psh_none, cln_i, cln_r, cln_n, cln_l, cln_d, cln_f, Option.bind_some, Option.bind_none, if_true, if_false, nI_add, pk_mul, nbo_0, nbo_1, nI_leI, nI_ltI, nI_eq, Nat.reduceAdd, Nat.reduceMul, Nat.add_zero, Nat.mul_zero, m0, c, c2, k]
  | succ d ih =>
    intro J hJ hEJ
    have hEJ2 : J ≤ E := by omega
    have c := Int32.not_lt.mpr (F64_ge (L := 1024) (K := J) (T := T) (by decide) (by omega) (by omega) hT .l)
    have q : (2046 ≤ 1023 + E - J) = False := eq_false (by omega)
    have m : FP.ddiv (F64 J T) (F64 1024 0) = F64 (1023 + d) T := by
      subst hJ
      exact F64_half (K := 1023 + d) (by omega) (by omega) hT
    have mn : FP.ddiv (F64 J T) (F64 1024 0) &&& 0x7fffffffffffffff ≤ 0x7ff0000000000000 := by rw [m]; exact F64_nn (by omega) hT
    have k : 1023 + E - J + 1 = 1023 + E - (1023 + d) := by omega
    rw [← ih (1023 + d) rfl (by omega), s67_39]
    simp (disch := first | omega | (show List.length _ ≤ 4; exact Nat.le_of_ble_eq_true rfl) | assumption | exact nbo_0 | exact nbo_1 | exact b2_b) only [s67_0, s67_1, s67_2, s67_3, s67_6, s67_7, s67_8, s67_9, s67_10, s67_13, s67_15, s67_16, s67_17, s67_18, s67_21, s67_23, s67_24, s67_27, s67_28, s67_31, s67_32, s67_33, s67_36, s67_40, s67_43, s67_44, s67_47, s67_49, s67_52, s67_55, s67_56, s67_59, s67_60, s67_61, s67_64, s67_67, s67_69, s67_70, s67_72, s67_73, s67_74, s67_77, s67_78, s67_79, s67_82, s67_83, s67_84, ↓reduceIte, psh_some, psh_none, cln_i, cln_r, cln_n, cln_l, cln_d, cln_f, Option.bind_some, Option.bind_none, if_true, if_false, nI_add, pk_mul, nbo_0, nbo_1, nI_leI, nI_ltI, nI_eq, Nat.reduceAdd, Nat.reduceMul, Nat.add_zero, Nat.mul_zero, m0, c, q, m, k]
theorem p67a {E T : Nat} {l0 : Option Value} (hE : 1 ≤ E) (hE2 : E ≤ 1023) (hT : T < 2 ^ 52) : ∀ d K, K + d = 1023 → E ≤ K → EE 67 15 [l0, none, some (.double (F64 K T)), none, some (.int (nI (1023 + E - K)))] [] M = some (some (.long (Int64.ofNat (E * 2 ^ 52 + T))), M) := by
  have m0 : (4611686018427387904 : UInt64) = F64 (1023 + 1) 0 := by decide +kernel
  intro d
  induction d with
  | zero =>
    intro K hK hEK
    have e : K = 1023 := by omega
    subst e
    have c := eq_true (F64_ge (L := 1023) (K := 1023) (T := T) (by decide) (Nat.le_refl _) (by decide) hT .g)
    rw [← p67b (M := M) (l0 := l0) (E := E) (by omega) hT 0 1023 rfl (Or.inr rfl), s67_15]
    simp (disch := first | omega | (show List.length _ ≤ 4; exact Nat.le_of_ble_eq_true rfl) | assumption | exact nbo_0 | exact nbo_1 | exact b2_b) only [s67_16, s67_17, s67_18, ↓reduceIte, psh_some, psh_none, cln_i, cln_r, cln_n, cln_l, cln_d, cln_f, Option.bind_some, Option.bind_none, if_true, if_false, nI_add, pk_mul, nbo_0, nbo_1, nI_leI, nI_ltI, nI_eq, Nat.reduceAdd, Nat.reduceMul, Nat.add_zero, Nat.mul_zero, F64_one, c]
  | succ d ih =>
    intro K hK hEK
    have c := F64_lt (L := 1023) (K := K) (T := T) (by omega) (by omega) (by decide) hT .g
    have c2 : (0 ≤ (-1 : Int32)) = False := eq_false (by decide)
    have q : (1023 + E - K ≤ 1) = False := eq_false (by omega)
    have m : FP.dmul (F64 K T) (F64 (1023 + 1) 0) = F64 (K + 1) T := F64_mul (by omega) (by omega) (by decide) hT
    have mn : FP.dmul (F64 K T) (F64 (1023 + 1) 0) &&& 0x7fffffffffffffff ≤ 0x7ff0000000000000 := by rw [m]; exact F64_nn (by omega) hT
    have k : nI (1023 + E - K) + -1 = nI (1023 + E - (K + 1)) := by rw [show 1023 + E - K = (1023 + E - (K + 1)) + 1 by omega, nI_m1]
    rw [← ih (K + 1) (by omega) (by omega), s67_15]
    simp (disch := first | omega | (show List.length _ ≤ 4; exact Nat.le_of_ble_eq_true rfl) | assumption | exact nbo_0 | exact nbo_1 | exact b2_b) only [s67_16, s67_17, s67_18, s67_21, s67_23, s67_24, s67_27, s67_28, s67_31, s67_32, s67_33, s67_36, ↓reduceIte, cln_i, cln_r, cln_n, cln_l, cln_d, cln_f, Option.bind_some, if_false, if_true, nI_leI, F64_one, c, c2, q, m0, m, k]
theorem f67 {E T : Nat} (hE : 1 ≤ E) (hE2 : E < 1100) (hT : T < 2 ^ 52) : FF 67 [.double (F64 E T)] M = some (some (.long (Int64.ofNat (E * 2 ^ 52 + T))), M) := by
  have c := F64_gt (K := E) (T := T) hE (by omega) hT .g
  have c2 : ((0 : Int32) < 1) = True := eq_true (by decide)
  have key : EE 67 15 [some (.double (F64 E T)), none, some (.double (F64 E T)), none, some (.int (nI 1023))] [] M = some (some (.long (Int64.ofNat (E * 2 ^ 52 + T))), M) := by
    by_cases h : E ≤ 1023
    · have h2 := p67a (M := M) (l0 := some (.double (F64 E T))) hE h hT (1023 - E) E (by omega) (Nat.le_refl _)
      rw [Nat.add_sub_cancel] at h2
      exact h2
    · have h2 := p67b (M := M) (l0 := some (.double (F64 E T))) (E := E) hE2 hT (E - 1023) E (by omega) (Or.inl (Nat.le_refl _))
      rw [Nat.add_sub_cancel] at h2
      have d := eq_true (F64_ge (L := 1023) (K := E) (T := T) (by decide) (by omega) (by omega) hT .g)
      refine Eq.trans ?_ h2
      rw [s67_15]
      simp (disch := first | omega | (show List.length _ ≤ 4; exact Nat.le_of_ble_eq_true rfl) | assumption | exact nbo_0 | exact nbo_1 | exact b2_b) only [s67_16, s67_17, s67_18, ↓reduceIte, psh_some, psh_none, cln_i, cln_r, cln_n, cln_l, cln_d, cln_f, Option.bind_some, Option.bind_none, if_true, if_false, nI_add, pk_mul, nbo_0, nbo_1, nI_leI, nI_ltI, nI_eq, Nat.reduceAdd, Nat.reduceMul, Nat.add_zero, Nat.mul_zero, F64_one, d]
  refine Eq.trans ?_ key
  simp (disch := first | omega | (show List.length _ ≤ 4; exact Nat.le_of_ble_eq_true rfl) | assumption | exact nbo_0 | exact nbo_1 | exact b2_b) only [FE67, s67_0, s67_1, s67_2, s67_3, s67_8, s67_9, s67_10, s67_13, ↓reduceIte, psh_some, psh_none, cln_i, cln_r, cln_n, cln_l, cln_d, cln_f, Option.bind_some, Option.bind_none, if_true, if_false, nI_add, pk_mul, nbo_0, nbo_1, nI_leI, nI_ltI, nI_eq, Nat.reduceAdd, Nat.reduceMul, Nat.add_zero, Nat.mul_zero, c, c2]
theorem f169z : FF 169 [.double 0] M = some (some (.long 0), M) := by
  have e : Op.cmpValue (FP.dcmp 0 0) .l = 0 := by decide +kernel
  have e2 : (UInt64.toInt64 0) = 0 := by decide
  simp (disch := first | omega | (show List.length _ ≤ 4; exact Nat.le_of_ble_eq_true rfl) | assumption | exact nbo_0 | exact nbo_1 | exact b2_b) only [FE169, s169_0, s169_1, s169_4, s169_7, s169_8, s169_11, s169_12, s169_15, FE170, s170_0, s170_1, s170_2, s170_3, s170_6, s170_7, s170_10, s170_11, ↓reduceIte, psh_some, psh_none, cln_i, cln_r, cln_n, cln_l, cln_d, cln_f, Option.bind_some, Option.bind_none, if_true, if_false, nI_add, pk_mul, nbo_0, nbo_1, nI_leI, nI_ltI, nI_eq, Nat.reduceAdd, Nat.reduceMul, Nat.add_zero, Nat.mul_zero, e, z0, e2]
theorem f169 {E T : Nat} (hE : 1 ≤ E) (hE2 : E < 1100) (hT : T < 2 ^ 52) : FF 169 [.double (F64 E T)] M = some (some (.long (Int64.ofNat (E * 2 ^ 52 + T))), M) := by
  have e := F64_self (K := E) (T := T) hE (by omega) hT .l
  have e2 : (F64 E T).toInt64 = Int64.ofNat (E * 2 ^ 52 + T) := rfl
  simp (disch := first | omega | (show List.length _ ≤ 4; exact Nat.le_of_ble_eq_true rfl) | assumption | exact nbo_0 | exact nbo_1 | exact b2_b) only [FE169, s169_0, s169_1, s169_4, s169_7, s169_8, s169_11, s169_12, s169_15, FE170, s170_0, s170_1, s170_2, s170_3, s170_6, s170_7, s170_10, s170_11, ↓reduceIte, psh_some, psh_none, cln_i, cln_r, cln_n, cln_l, cln_d, cln_f, Option.bind_some, Option.bind_none, if_true, if_false, nI_add, pk_mul, nbo_0, nbo_1, nI_leI, nI_ltI, nI_eq, Nat.reduceAdd, Nat.reduceMul, Nat.add_zero, Nat.mul_zero, e, z0, e2]
end ME
/-- the sum of a worker's levels for open topics -/
def smF (a : Nat → Nat) (w : Nat) (t s : Nat) : Nat := s + a (38 + t) * a (58 + 10 * w + t)
theorem sm_le {a : Nat → Nat} {w : Nat} (hW : WO a) (hw : w < 6) : ∀ d i c, i + d ≤ 10 → fd (smF a w) d i c ≤ c + 100 * d := by
  intro d
  induction d with
  | zero => intro i c _; show c ≤ _; omega
  | succ d ih =>
    intro i c hi
    have h := ih (i + 1) (smF a w i c) (by omega)
    have h1 := hW.op i (by omega)
    have h2 := hW.lv w i hw (by omega)
    have h3 : a (38 + i) * a (58 + 10 * w + i) ≤ 1 * 100 := Nat.mul_le_mul h1 h2
    show fd (smF a w) d (i + 1) (smF a w i c) ≤ _
    unfold smF at h ⊢
    omega
section ME2
variable {I : Nat → Nat → Int32} {R : Nat → Nat → Option Nat} {nw bf u n N : Nat} {h hd q : Nat → Nat} {p sl : Nat → Nat → Nat} {a : Nat → Nat}
theorem p41 {b w : Nat} (hb : b < 13) (hI : I b = vI a) (hW : WO a) (hRS : RS R) (hw : w < 6) : ∀ d i c, i + d = a 1 → EE 41 4 [some (.ref (16 * b)), some (.int (nI w)), some (.int (nI c)), some (.int (nI i))] [] (210, I, R) = some (some (.int (nI (fd (smF a w) d i c))), 210, I, R) := by
  have ho := os hb
  have hT := hW.tp
  intro d
  induction d with
  | zero =>
    intro i c hi
    have e : a 1 ≤ i := by omega
    rw [s41_4]
    simp (disch := first | omega | (show List.length _ ≤ 4; exact Nat.le_of_ble_eq_true rfl) | assumption | exact nbo_0 | exact nbo_1 | exact b2_b) only [s41_0, s41_1, s41_2, s41_3, s41_5, s41_6, s41_9, s41_12, s41_13, s41_14, s41_17, s41_20, s41_21, s41_22, s41_23, s41_24, s41_27, s41_28, s41_29, s41_32, s41_35, s41_36, ↓reduceIte, psh_some, psh_none, cln_i, cln_r, cln_n, cln_l, cln_d, cln_f, Option.bind_some, Option.bind_none, if_true, if_false, nI_add, pk_mul, nbo_0, nbo_1, nI_leI, nI_ltI, nI_eq, Nat.reduceAdd, Nat.reduceMul, Nat.add_zero, Nat.mul_zero, gs_8 hb, hI, vI_at, e]
    rfl
  | succ d ih =>
    intro i c hi
    have e : ¬ a 1 ≤ i := by omega
    have hop := hW.op i (by omega)
    have g19 := f19 (I := I) (R := R) (b := b) (a := a) (t := i) hb hI hW (by omega)
    have g23 := f23 (I := I) (R := R) (b := b) (a := a) (w := w) (t := i) hb hRS hI hW hw (by omega)
    rw [s41_4]
    refine Eq.trans ?_ (ih (i + 1) (smF a w i c) (by omega))
    unfold smF
    rcases (show a (38 + i) = 0 ∨ a (38 + i) = 1 by omega) with e1 | e1
    · have e4 : ¬ a (38 + i) = 1 := by omega
      rw [b2_f e4] at g19
      rw [e1, Nat.zero_mul, Nat.add_zero]
      simp (disch := first | omega | (show List.length _ ≤ 4; exact Nat.le_of_ble_eq_true rfl) | assumption | exact nbo_0 | exact nbo_1 | exact b2_b) only [s41_0, s41_1, s41_2, s41_3, s41_5, s41_6, s41_9, s41_12, s41_13, s41_14, s41_17, s41_20, s41_21, s41_22, s41_23, s41_24, s41_27, s41_28, s41_29, s41_32, s41_35, s41_36, ↓reduceIte, psh_some, psh_none, cln_i, cln_r, cln_n, cln_l, cln_d, cln_f, Option.bind_some, Option.bind_none, if_true, if_false, nI_add, pk_mul, nbo_0, nbo_1, nI_leI, nI_ltI, nI_eq, Nat.reduceAdd, Nat.reduceMul, Nat.add_zero, Nat.mul_zero, gs_8 hb, hI, vI_at, e, g19, z0]
    · rw [b2_t e1] at g19
      rw [e1, Nat.one_mul]
      simp (disch := first | omega | (show List.length _ ≤ 4; exact Nat.le_of_ble_eq_true rfl) | assumption | exact nbo_0 | exact nbo_1 | exact b2_b) only [s41_0, s41_1, s41_2, s41_3, s41_5, s41_6, s41_9, s41_12, s41_13, s41_14, s41_17, s41_20, s41_21, s41_22, s41_23, s41_24, s41_27, s41_28, s41_29, s41_32, s41_35, s41_36, ↓reduceIte, psh_some, psh_none, cln_i, cln_r, cln_n, cln_l, cln_d, cln_f, Option.bind_some, Option.bind_none, if_true, if_false, nI_add, pk_mul, nbo_0, nbo_1, nI_leI, nI_ltI, nI_eq, Nat.reduceAdd, Nat.reduceMul, Nat.add_zero, Nat.mul_zero, gs_8 hb, hI, vI_at, e, g19, g23, z1]
theorem f41 {b w : Nat} (hb : b < 13) (hI : I b = vI a) (hW : WO a) (hRS : RS R) (hw : w < 6) : FF 41 [.ref (16 * b), .int (nI w)] (210, I, R) = some (some (.int (nI (fd (smF a w) (a 1) 0 0))), 210, I, R) := by
  refine Eq.trans ?_ (p41 hb hI hW hRS hw (a 1) 0 0 (by omega))
  simp (disch := first | omega | (show List.length _ ≤ 4; exact Nat.le_of_ble_eq_true rfl) | assumption | exact nbo_0 | exact nbo_1 | exact b2_b) only [FE41, s41_0, s41_1, s41_2, s41_3, ↓reduceIte, psh_some, psh_none, cln_i, cln_r, cln_n, cln_l, cln_d, cln_f, Option.bind_some, Option.bind_none, if_true, if_false, nI_add, pk_mul, nbo_0, nbo_1, nI_leI, nI_ltI, nI_eq, Nat.reduceAdd, Nat.reduceMul, Nat.add_zero, Nat.mul_zero]
theorem p131 {w : Nat} (hI : I 225 = vI a) (hW : WO a) (hR : RM R) (hw : w < 6) : ∀ d i c, i + d = a 1 → EE 131 15 [some (.ref 224), some (.int (nI w)), some (.int (nI c)), some (.int (nI i))] [] (210, I, R) = EE 131 54 [some (.ref 224), some (.int (nI w)), some (.int (nI (fd (smF a w) d i c))), some (.int (nI (a 1)))] [] (210, I, R) := by
  have hv : (225 : Nat) = 225 ∨ (225 : Nat) = 226 := Or.inl rfl
  have hT := hW.tp
  intro d
  induction d with
  | zero =>
    intro i c hi
    have e : a 1 ≤ i := by omega
    have e2 : i = a 1 := by omega
    rw [s131_15]
    simp (disch := first | omega | (show List.length _ ≤ 4; exact Nat.le_of_ble_eq_true rfl) | assumption | exact nbo_0 | exact nbo_1 | exact b2_b) only [s131_16, s131_17, s131_20, s131_21, s131_22, ↓reduceIte, psh_some, psh_none, cln_i, cln_r, cln_n, cln_l, cln_d, cln_f, Option.bind_some, Option.bind_none, if_true, if_false, nI_add, pk_mul, nbo_0, nbo_1, nI_leI, nI_ltI, nI_eq, Nat.reduceAdd, Nat.reduceMul, Nat.add_zero, Nat.mul_zero, gm_0 hR, am_n hv, hI, vI_at, e]
    rw [e2]
    rfl
  | succ d ih =>
    intro i c hi
    have e : ¬ a 1 ≤ i := by omega
    rw [s131_15]
    refine Eq.trans ?_ (ih (i + 1) (smF a w i c) (by omega))
    unfold smF
    simp (disch := first | omega | (show List.length _ ≤ 4; exact Nat.le_of_ble_eq_true rfl) | assumption | exact nbo_0 | exact nbo_1 | exact b2_b) only [s131_0, s131_1, s131_4, s131_7, s131_10, s131_11, s131_12, s131_13, s131_14, s131_16, s131_17, s131_20, s131_21, s131_22, s131_25, s131_26, s131_27, s131_30, s131_32, s131_33, s131_34, s131_35, s131_36, s131_39, s131_40, s131_41, s131_44, s131_45, s131_46, s131_47, s131_48, s131_51, s131_55, s131_58, s131_61, s131_62, s131_65, s131_66, s131_67, s131_68, s131_71, s131_72, s131_73, s131_76, ↓reduceIte, psh_some, psh_none, cln_i, cln_r, cln_n, cln_l, cln_d, cln_f, Option.bind_some, Option.bind_none, if_true, if_false, nI_add, pk_mul, nbo_0, nbo_1, nI_leI, nI_ltI, nI_eq, Nat.reduceAdd, Nat.reduceMul, Nat.add_zero, Nat.mul_zero, gm_0 hR, am_n hv, hI, vI_at, e, f107]
/-- a call that answers a long and changes nothing -/
def PRL (R0 : Nat → Nat → Option Nat) (I : Nat → Nat → Int32) (R : Nat → Nat → Option Nat) (N K1 : Nat) (as1 : List Value) (K2 : Nat) (as2 : List Value) : Prop := ∃ (x : Int64) (I1 : Nat → Nat → Int32) (R1 : Nat → Nat → Option Nat) (I2 : Nat → Nat → Int32), FF K1 as1 (210, I, R) = some (some (.long x), 210, I1, R1) ∧ FF K2 as2 (210, I1, R1) = some (some (.long x), 210, I2, R1) ∧ RL R0 N I2 R1 ∧ I2 60 = I 60 ∧ I2 61 = I 61 ∧ I1 60 = I 60 ∧ I1 61 = I 61
theorem viewL {K1 K2 : Nat} {as1 as2 : List Value} {x : Int64} (hG : GL N a u p sl hd n q) (hC : CL I nw bf h a u p sl hd n q) (hM : ML I a u p sl hd n q) (h1 : FF K1 as1 (210, I, QR R nw bf h) = some (some (.long x), 210, I, QR R nw bf h)) (h2 : FF K2 as2 (210, I, QR R nw bf h) = some (some (.long x), 210, I, QR R nw bf h)) : PRL R I (QR R nw bf h) N K1 as1 K2 as2 :=
  ⟨x, I, QR R nw bf h, I, h1, h2, ⟨nw, bf, h, a, u, p, sl, hd, n, q, rfl, hG, hC, hM⟩, rfl, rfl, rfl, rfl⟩
theorem pr_mean (hB : BR R) (hG : GL N a u p sl hd n q) (hC : CL I nw bf h a u p sl hd n q) (hM : ML I a u p sl hd n q) (x : Int32) : PRL R I (QR R nw bf h) N 66 [.ref 208, .int x] 131 [.ref 224, .int x] := by
  have ho := od
  have ho3 := om
  have q1 := hC.1.1
  have q13 : nw < 13 := by omega
  have ho2 := os (b := nw) (by omega)
  have hRM : RM (QR R nw bf h) := QR_RM hB.2.2.2.2
  have hRS : RS (QR R nw bf h) := QR_RS hB.2.2.2.1
  have hv : (225 : Nat) = 225 ∨ (225 : Nat) = 226 := Or.inl rfl
  have hI := hC.2.1
  have hJ := hM.1.1
  have hW := hG.1.1
  have hT := hW.tp
  have hop := op_all hW.op
  by_cases e : iT x 6
  · obtain ⟨w, hw, rfl⟩ := iT_nI (by decide) e
    have g39 := f39 (I := I) (R := QR R nw bf h) (b := nw) (a := a) q13 hI hW
    have g126 := f126 (I := I) (R := QR R nw bf h) (a := a) hRM hJ hW
    have g41 := f41 (I := I) (R := QR R nw bf h) (b := nw) (a := a) q13 hI hW hRS hw
    have g131 := p131 (I := I) (R := QR R nw bf h) (a := a) hJ hW hRM hw (a 1) 0 0 (by omega)
    have hs := sm_le hW hw (a 1) 0 0 (by omega)
    have hb10 : bsum a ≤ 10 := by unfold bsum; omega
    generalize fd (smF a w) (a 1) 0 0 = s at *
    by_cases e0 : bsum a = 0
    · have c0 : (nI 0 ≤ (0 : Int32)) = True := eq_true (by decide)
      rw [e0] at g39 g126
      refine viewL (x := 0) hG hC hM ?_ ?_
      · simp (disch := first | omega | (show List.length _ ≤ 4; exact Nat.le_of_ble_eq_true rfl) | assumption | exact nbo_0 | exact nbo_1 | exact b2_b) only [FE66, s66_0, s66_1, s66_4, s66_7, s66_10, s66_11, s66_12, s66_15, s66_18, s66_19, s66_20, s66_23, s66_24, s66_27, s66_28, s66_31, s66_32, s66_33, s66_34, s66_35, s66_38, s66_41, s66_42, ↓reduceIte, psh_some, psh_none, cln_i, cln_r, cln_n, cln_l, cln_d, cln_f, Option.bind_some, Option.bind_none, if_true, if_false, nI_add, pk_mul, nbo_0, nbo_1, nI_leI, nI_ltI, nI_eq, Nat.reduceAdd, Nat.reduceMul, Nat.add_zero, Nat.mul_zero, f49t, b2_t e, z1, gd_0, g39, c0]
      · simp (disch := first | omega | (show List.length _ ≤ 4; exact Nat.le_of_ble_eq_true rfl) | assumption | exact nbo_0 | exact nbo_1 | exact b2_b) only [FE131, s131_0, s131_1, s131_4, s131_7, s131_10, s131_11, s131_12, s131_13, s131_14, s131_16, s131_17, s131_20, s131_21, s131_22, s131_25, s131_26, s131_27, s131_30, s131_32, s131_33, s131_34, s131_35, s131_36, s131_39, s131_40, s131_41, s131_44, s131_45, s131_46, s131_47, s131_48, s131_51, s131_54, s131_55, s131_58, s131_61, s131_62, s131_65, s131_66, s131_67, s131_68, s131_71, s131_72, s131_73, s131_76, ↓reduceIte, psh_some, psh_none, cln_i, cln_r, cln_n, cln_l, cln_d, cln_f, Option.bind_some, Option.bind_none, if_true, if_false, nI_add, pk_mul, nbo_0, nbo_1, nI_leI, nI_ltI, nI_eq, Nat.reduceAdd, Nat.reduceMul, Nat.add_zero, Nat.mul_zero, f91, b2_t e, z0, z1, g131, g126]
    · have c0 : (nI (bsum a) ≤ (0 : Int32)) = False := eq_false (nI_nle (by omega) (by omega))
      have c1 : (nI (bsum a) = (0 : Int32)) = False := eq_false (nI_ne0 (by omega) (by omega))
      by_cases eg : s = 0
      · subst eg
        have d0 := ddiv_zero (b := bsum a) (by omega) (by omega)
        have dn : FP.ddiv (FP.i2d (nI 0)) (FP.i2d (nI (bsum a))) &&& 0x7fffffffffffffff ≤ 0x7ff0000000000000 := by rw [d0]; exact nn64_0
        refine viewL (x := 0) hG hC hM ?_ ?_
        · simp (disch := first | omega | (show List.length _ ≤ 4; exact Nat.le_of_ble_eq_true rfl) | assumption | exact nbo_0 | exact nbo_1 | exact b2_b) only [FE66, s66_0, s66_1, s66_4, s66_7, s66_10, s66_11, s66_12, s66_15, s66_18, s66_19, s66_20, s66_23, s66_24, s66_27, s66_28, s66_31, s66_32, s66_33, s66_34, s66_35, s66_38, s66_41, s66_42, ↓reduceIte, psh_some, psh_none, cln_i, cln_r, cln_n, cln_l, cln_d, cln_f, Option.bind_some, Option.bind_none, if_true, if_false, nI_add, pk_mul, nbo_0, nbo_1, nI_leI, nI_ltI, nI_eq, Nat.reduceAdd, Nat.reduceMul, Nat.add_zero, Nat.mul_zero, f49t, b2_t e, z1, gd_0, g39, c0, g41, d0, f67z]
        · simp (disch := first | omega | (show List.length _ ≤ 4; exact Nat.le_of_ble_eq_true rfl) | assumption | exact nbo_0 | exact nbo_1 | exact b2_b) only [FE131, s131_0, s131_1, s131_4, s131_7, s131_10, s131_11, s131_12, s131_13, s131_14, s131_16, s131_17, s131_20, s131_21, s131_22, s131_25, s131_26, s131_27, s131_30, s131_32, s131_33, s131_34, s131_35, s131_36, s131_39, s131_40, s131_41, s131_44, s131_45, s131_46, s131_47, s131_48, s131_51, s131_54, s131_55, s131_58, s131_61, s131_62, s131_65, s131_66, s131_67, s131_68, s131_71, s131_72, s131_73, s131_76, ↓reduceIte, psh_some, psh_none, cln_i, cln_r, cln_n, cln_l, cln_d, cln_f, Option.bind_some, Option.bind_none, if_true, if_false, nI_add, pk_mul, nbo_0, nbo_1, nI_leI, nI_ltI, nI_eq, Nat.reduceAdd, Nat.reduceMul, Nat.add_zero, Nat.mul_zero, f91, b2_t e, z0, z1, g131, g126, c1, d0, f169z]
      · obtain ⟨K, T, d0, d1, d2, d3⟩ := ddiv_int (g := s) (b := bsum a) (u := 10) (w := 4) (by omega) (by omega) (by omega) (by omega) (by decide) (by decide) (by omega) (by omega)
        have dn : FP.ddiv (FP.i2d (nI s)) (FP.i2d (nI (bsum a))) &&& 0x7fffffffffffffff ≤ 0x7ff0000000000000 := by rw [d0]; exact F64_nn (by omega) d3
        refine viewL (x := (Int64.ofNat (K * 2 ^ 52 + T))) hG hC hM ?_ ?_
        · simp (disch := first | omega | (show List.length _ ≤ 4; exact Nat.le_of_ble_eq_true rfl) | assumption | exact nbo_0 | exact nbo_1 | exact b2_b) only [FE66, s66_0, s66_1, s66_4, s66_7, s66_10, s66_11, s66_12, s66_15, s66_18, s66_19, s66_20, s66_23, s66_24, s66_27, s66_28, s66_31, s66_32, s66_33, s66_34, s66_35, s66_38, s66_41, s66_42, ↓reduceIte, psh_some, psh_none, cln_i, cln_r, cln_n, cln_l, cln_d, cln_f, Option.bind_some, Option.bind_none, if_true, if_false, nI_add, pk_mul, nbo_0, nbo_1, nI_leI, nI_ltI, nI_eq, Nat.reduceAdd, Nat.reduceMul, Nat.add_zero, Nat.mul_zero, f49t, b2_t e, z1, gd_0, g39, c0, g41, d0, f67 (show 1 ≤ K by omega) (show K < 1100 by omega) d3]
        · simp (disch := first | omega | (show List.length _ ≤ 4; exact Nat.le_of_ble_eq_true rfl) | assumption | exact nbo_0 | exact nbo_1 | exact b2_b) only [FE131, s131_0, s131_1, s131_4, s131_7, s131_10, s131_11, s131_12, s131_13, s131_14, s131_16, s131_17, s131_20, s131_21, s131_22, s131_25, s131_26, s131_27, s131_30, s131_32, s131_33, s131_34, s131_35, s131_36, s131_39, s131_40, s131_41, s131_44, s131_45, s131_46, s131_47, s131_48, s131_51, s131_54, s131_55, s131_58, s131_61, s131_62, s131_65, s131_66, s131_67, s131_68, s131_71, s131_72, s131_73, s131_76, ↓reduceIte, psh_some, psh_none, cln_i, cln_r, cln_n, cln_l, cln_d, cln_f, Option.bind_some, Option.bind_none, if_true, if_false, nI_add, pk_mul, nbo_0, nbo_1, nI_leI, nI_ltI, nI_eq, Nat.reduceAdd, Nat.reduceMul, Nat.add_zero, Nat.mul_zero, f91, b2_t e, z0, z1, g131, g126, c1, d0, f169 (show 1 ≤ K by omega) (show K < 1100 by omega) d3]
  · refine viewL (x := (-1)) hG hC hM ?_ ?_
    · simp (disch := first | omega | (show List.length _ ≤ 4; exact Nat.le_of_ble_eq_true rfl) | assumption | exact nbo_0 | exact nbo_1 | exact b2_b) only [FE66, s66_0, s66_1, s66_4, s66_7, s66_10, ↓reduceIte, psh_some, psh_none, cln_i, cln_r, cln_n, cln_l, cln_d, cln_f, Option.bind_some, Option.bind_none, if_true, if_false, nI_add, pk_mul, nbo_0, nbo_1, nI_leI, nI_ltI, nI_eq, Nat.reduceAdd, Nat.reduceMul, Nat.add_zero, Nat.mul_zero, f49t, b2_f e, z0, z1]
    · simp (disch := first | omega | (show List.length _ ≤ 4; exact Nat.le_of_ble_eq_true rfl) | assumption | exact nbo_0 | exact nbo_1 | exact b2_b) only [FE131, s131_0, s131_1, s131_4, s131_7, s131_10, ↓reduceIte, psh_some, psh_none, cln_i, cln_r, cln_n, cln_l, cln_d, cln_f, Option.bind_some, Option.bind_none, if_true, if_false, nI_add, pk_mul, nbo_0, nbo_1, nI_leI, nI_ltI, nI_eq, Nat.reduceAdd, Nat.reduceMul, Nat.add_zero, Nat.mul_zero, f91, b2_f e, z0, z1]
end ME2
