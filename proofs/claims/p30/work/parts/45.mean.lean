/-! ===== mean ===== -/
theorem sh52 : ∀ E, E < 1100 → (nI E).toInt64 <<< ((nI 52).toInt64 &&& 63) = Int64.ofNat (E * 2 ^ 52) := by decide +kernel
section ME
variable {M : Mm}
theorem f67z : FF 67 [.double 0] M = some (some (.long 0), M) := by
  have e : Op.cmpValue (FP.dcmp 0 FP.dconst0) .g = 0 := by decide +kernel
  have e2 : ((0 : Int32) < 0) = False := eq_false (by decide)
  simp (disch := first | omega | (show List.length _ ≤ 4; exact Nat.le_of_ble_eq_true rfl) | assumption | exact nbo_0 | exact nbo_1 | exact b2_b) only [FE67, s67_0, s67_1, s67_2, s67_3, s67_6, s67_7, ↓reduceIte, psh_some, psh_none, cln_i, cln_r, cln_n, cln_l, cln_d, cln_f, Option.bind_some, Option.bind_none, if_true, if_false, nI_add, pk_mul, nbo_0, nbo_1, nI_leI, nI_ltI, nI_eq, Nat.reduceAdd, Nat.reduceMul, Nat.add_zero, Nat.mul_zero, e, e2]
theorem p67c {E T : Nat} {l0 : Option Value} (hE2 : E < 1100) (hT : T < 2 ^ 52) : EE 67 67 [l0, none, some (.double (F64 1023 T)), none, some (.int (nI E))] [] M = some (some (.long (Int64.ofNat (E * 2 ^ 52 + T))), M) := by
  have m0 : (4841369599423283200 : UInt64) = F64 (1023 + 52) 0 := by decide +kernel
  have m : FP.dmul (F64 1023 T) 4841369599423283200 = F64 1075 T := by rw [m0]; exact F64_mul (by decide) (by decide) (by decide) hT
  have mn : FP.dmul (F64 1023 T) 4841369599423283200 &&& 0x7fffffffffffffff ≤ 0x7ff0000000000000 := by rw [m]; exact F64_nn (by decide) hT
  have k : (4503599627370496 : Int64) = Int64.ofNat (2 ^ 52) := by decide
  have k2 : Int64.ofNat (2 ^ 52 + T) - Int64.ofNat (2 ^ 52) = Int64.ofNat T := by rw [Nat.add_comm, Int64.ofNat_add, Int64.add_sub_cancel]
  have k4 := sh52 E hE2
  have k5 : Int64.ofNat (E * 2 ^ 52) + Int64.ofNat T = Int64.ofNat (E * 2 ^ 52 + T) := (Int64.ofNat_add _ _).symm
  simp (disch := first | omega | (show List.length _ ≤ 4; exact Nat.le_of_ble_eq_true rfl) | assumption | exact nbo_0 | exact nbo_1 | exact b2_b) only [s67_67, s67_69, s67_70, s67_72, s67_73, s67_74, s67_77, s67_78, s67_79, s67_82, s67_83, s67_84, ↓reduceIte, psh_some, psh_none, cln_i, cln_r, cln_n, cln_l, cln_d, cln_f, Option.bind_some, Option.bind_none, if_true, if_false, nI_add, pk_mul, nbo_0, nbo_1, nI_leI, nI_ltI, nI_eq, Nat.reduceAdd, Nat.reduceMul, Nat.add_zero, Nat.mul_zero, m, F64_d2l hT, k, k2, k4, k5]
theorem p67b {E T : Nat} {l0 : Option Value} (hE2 : E < 1100) (hT : T < 2 ^ 52) : ∀ d J, J = 1023 + d → J ≤ E ∨ d = 0 → EE 67 39 [l0, none, some (.double (F64 J T)), none, some (.int (nI (1023 + E - J)))] [] M = some (some (.long (Int64.ofNat (E * 2 ^ 52 + T))), M) := by
  have m0 : (4611686018427387904 : UInt64) = F64 1024 0 := by decide +kernel
  intro d
  induction d with
  | zero =>
    intro J hJ hEJ
    subst hJ
    have c := F64_lt (L := 1024) (K := 1023) (T := T) (by decide) (by decide) (by decide) hT .l
    have c2 : ((-1 : Int32) < 0) = True := eq_true (by decide)
    have k : 1023 + E - (1023 + 0) = E := by omega
    rw [← p67c (M := M) (l0 := l0) hE2 hT, s67_39, Nat.add_zero]
    rw [Nat.add_zero] at k
    simp (disch := first | omega | (show List.length _ ≤ 4; exact Nat.le_of_ble_eq_true rfl) | assumption | exact nbo_0 | exact nbo_1 | exact b2_b) only [s67_40, s67_43, s67_44, ↓reduceIte, psh_some, psh_none, cln_i, cln_r, cln_n, cln_l, cln_d, cln_f, Option.bind_some, Option.bind_none, if_true, if_false, nI_add, pk_mul, nbo_0, nbo_1, nI_leI, nI_ltI, nI_eq, Nat.reduceAdd, Nat.reduceMul, Nat.add_zero, Nat.mul_zero, m0, c, c2, k]
  | succ d ih =>
    intro J hJ hEJ
    have hEJ2 : J ≤ E := by omega
    have c := Int32.not_lt.mpr (F64_ge (L := 1024) (K := J) (T := T) (by decide) (by omega) (by omega) hT .l)
    have q : (2046 ≤ 1023 + E - J) = False := eq_false (by omega)
    have m : FP.ddiv (F64 J T) (F64 1024 0) = F64 (1023 + d) T := by
      subst hJ
      exact F64_half (K := 1023 + d) (by omega) (by omega) hT
    have mn : FP.ddiv (F64 J T) (F64 1024 0) &&& 0x7fffffffffffffff ≤ 0x7ff0000000000000 := by rw [m]; exact F64_nn (by omega) hT
    have k : 1023 + E - J + 1 = 1023 + E - (1023 + d) := by omega
    rw [← ih (1023 + d) rfl (by omega), s67_39]
    simp (disch := first | omega | (show List.length _ ≤ 4; exact Nat.le_of_ble_eq_true rfl) | assumption | exact nbo_0 | exact nbo_1 | exact b2_b) only [s67_0, s67_1, s67_2, s67_3, s67_6, s67_7, s67_8, s67_9, s67_10, s67_13, s67_15, s67_16, s67_17, s67_18, s67_21, s67_23, s67_24, s67_27, s67_28, s67_31, s67_32, s67_33, s67_36, s67_40, s67_43, s67_44, s67_47, s67_49, s67_52, s67_55, s67_56, s67_59, s67_60, s67_61, s67_64, s67_67, s67_69, s67_70, s67_72, s67_73, s67_74, s67_77, s67_78, s67_79, s67_82, s67_83, s67_84, ↓reduceIte, psh_some, psh_none, cln_i, cln_r, cln_n, cln_l, cln_d, cln_f, Option.bind_some, Option.bind_none, if_true, if_false, nI_add, pk_mul, nbo_0, nbo_1, nI_leI, nI_ltI, nI_eq, Nat.reduceAdd, Nat.reduceMul, Nat.add_zero, Nat.mul_zero, m0, c, q, m, k]
theorem p67a {E T : Nat} {l0 : Option Value} (hE : 1 ≤ E) (hE2 : E ≤ 1023) (hT : T < 2 ^ 52) : ∀ d K, K + d = 1023 → E ≤ K → EE 67 15 [l0, none, some (.double (F64 K T)), none, some (.int (nI (1023 + E - K)))] [] M = some (some (.long (Int64.ofNat (E * 2 ^ 52 + T))), M) := by
  have m0 : (4611686018427387904 : UInt64) = F64 (1023 + 1) 0 := by decide +kernel
  intro d
  induction d with
  | zero =>
    intro K hK hEK
    have e : K = 1023 := by omega
    subst e
    have c := eq_true (F64_ge (L := 1023) (K := 1023) (T := T) (by decide) (Nat.le_refl _) (by decide) hT .g)
    rw [← p67b (M := M) (l0 := l0) (E := E) (by omega) hT 0 1023 rfl (Or.inr rfl), s67_15]
    simp (disch := first | omega | (show List.length _ ≤ 4; exact Nat.le_of_ble_eq_true rfl) | assumption | exact nbo_0 | exact nbo_1 | exact b2_b) only [s67_16, s67_17, s67_18, ↓reduceIte, psh_some, psh_none, cln_i, cln_r, cln_n, cln_l, cln_d, cln_f, Option.bind_some, Option.bind_none, if_true, if_false, nI_add, pk_mul, nbo_0, nbo_1, nI_leI, nI_ltI, nI_eq, Nat.reduceAdd, Nat.reduceMul, Nat.add_zero, Nat.mul_zero, F64_one, c]
  | succ d ih =>
    intro K hK hEK
    have c := F64_lt (L := 1023) (K := K) (T := T) (by omega) (by omega) (by decide) hT .g
    have c2 : (0 ≤ (-1 : Int32)) = False := eq_false (by decide)
    have q : (1023 + E - K ≤ 1) = False := eq_false (by omega)
    have m : FP.dmul (F64 K T) (F64 (1023 + 1) 0) = F64 (K + 1) T := F64_mul (by omega) (by omega) (by decide) hT
    have mn : FP.dmul (F64 K T) (F64 (1023 + 1) 0) &&& 0x7fffffffffffffff ≤ 0x7ff0000000000000 := by rw [m]; exact F64_nn (by omega) hT
    have k : nI (1023 + E - K) + -1 = nI (1023 + E - (K + 1)) := by rw [show 1023 + E - K = (1023 + E - (K + 1)) + 1 by omega, nI_m1]
    rw [← ih (K + 1) (by omega) (by omega), s67_15]
    simp (disch := first | omega | (show List.length _ ≤ 4; exact Nat.le_of_ble_eq_true rfl) | assumption | exact nbo_0 | exact nbo_1 | exact b2_b) only [s67_16, s67_17, s67_18, s67_21, s67_23, s67_24, s67_27, s67_28, s67_31, s67_32, s67_33, s67_36, ↓reduceIte, cln_i, cln_r, cln_n, cln_l, cln_d, cln_f, Option.bind_some, if_false, if_true, nI_leI, F64_one, c, c2, q, m0, m, k]
theorem f67 {E T : Nat} (hE : 1 ≤ E) (hE2 : E < 1100) (hT : T < 2 ^ 52) : FF 67 [.double (F64 E T)] M = some (some (.long (Int64.ofNat (E * 2 ^ 52 + T))), M) := by
  have c := F64_gt (K := E) (T := T) hE (by omega) hT .g
  have c2 : ((0 : Int32) < 1) = True := eq_true (by decide)
  have key : EE 67 15 [some (.double (F64 E T)), none, some (.double (F64 E T)), none, some (.int (nI 1023))] [] M = some (some (.long (Int64.ofNat (E * 2 ^ 52 + T))), M) := by
    by_cases h : E ≤ 1023
    · have h2 := p67a (M := M) (l0 := some (.double (F64 E T))) hE h hT (1023 - E) E (by omega) (Nat.le_refl _)
      rw [Nat.add_sub_cancel] at h2
      exact h2
    · have h2 := p67b (M := M) (l0 := some (.double (F64 E T))) (E := E) hE2 hT (E - 1023) E (by omega) (Or.inl (Nat.le_refl _))
      rw [Nat.add_sub_cancel] at h2
      have d := eq_true (F64_ge (L := 1023) (K := E) (T := T) (by decide) (by omega) (by omega) hT .g)
      refine Eq.trans ?_ h2
      rw [s67_15]
      simp (disch := first | omega | (show List.length _ ≤ 4; exact Nat.le_of_ble_eq_true rfl) | assumption | exact nbo_0 | exact nbo_1 | exact b2_b) only [s67_16, s67_17, s67_18, ↓reduceIte, psh_some, psh_none, cln_i, cln_r, cln_n, cln_l, cln_d, cln_f, Option.bind_some, Option.bind_none, if_true, if_false, nI_add, pk_mul, nbo_0, nbo_1, nI_leI, nI_ltI, nI_eq, Nat.reduceAdd, Nat.reduceMul, Nat.add_zero, Nat.mul_zero, F64_one, d]
  refine Eq.trans ?_ key
  simp (disch := first | omega | (show List.length _ ≤ 4; exact Nat.le_of_ble_eq_true rfl) | assumption | exact nbo_0 | exact nbo_1 | exact b2_b) only [FE67, s67_0, s67_1, s67_2, s67_3, s67_8, s67_9, s67_10, s67_13, ↓reduceIte, psh_some, psh_none, cln_i, cln_r, cln_n, cln_l, cln_d, cln_f, Option.bind_some, Option.bind_none, if_true, if_false, nI_add, pk_mul, nbo_0, nbo_1, nI_leI, nI_ltI, nI_eq, Nat.reduceAdd, Nat.reduceMul, Nat.add_zero, Nat.mul_zero, c, c2]
end ME
/-- the sum of a worker's levels for open topics -/
def smF (a : Nat → Nat) (w : Nat) (t s : Nat) : Nat := s + a (38 + t) * a (58 + 10 * w + t)
theorem sm_le {a : Nat → Nat} {w : Nat} (hW : WO a) (hw : w < 6) : ∀ d i c, i + d ≤ 10 → fd (smF a w) d i c ≤ c + 100 * d := by
  intro d
  induction d with
  | zero => intro i c _; show c ≤ _; omega
  | succ d ih =>
    intro i c hi
    have h := ih (i + 1) (smF a w i c) (by omega)
    have h1 := hW.op i (by omega)
    have h2 := hW.lv w i hw (by omega)
    have h3 : a (38 + i) * a (58 + 10 * w + i) ≤ 1 * 100 := Nat.mul_le_mul h1 h2
    show fd (smF a w) d (i + 1) (smF a w i c) ≤ _
    unfold smF at h ⊢
    omega
section ME2
variable {I : Nat → Nat → Int32} {R : Nat → Nat → Option Nat} {a : Nat → Nat}
theorem p41 {b w : Nat} (hb : b < 13) (hI : I b = vI a) (hW : WO a) (hRS : RS R) (hw : w < 6) : ∀ d i c, i + d = a 1 → EE 41 4 [some (.ref (16 * b)), some (.int (nI w)), some (.int (nI c)), some (.int (nI i))] [] (202, I, R) = some (some (.int (nI (fd (smF a w) d i c))), 202, I, R) := by
  have ho := os hb
  have hT := hW.tp
  intro d
  induction d with
  | zero =>
    intro i c hi
    have e : a 1 ≤ i := by omega
    rw [s41_4]
    simp (disch := first | omega | (show List.length _ ≤ 4; exact Nat.le_of_ble_eq_true rfl) | assumption | exact nbo_0 | exact nbo_1 | exact b2_b) only [s41_0, s41_1, s41_2, s41_3, s41_5, s41_6, s41_9, s41_12, s41_13, s41_14, s41_17, s41_20, s41_21, s41_22, s41_23, s41_24, s41_27, s41_28, s41_29, s41_32, s41_35, s41_36, ↓reduceIte, psh_some, psh_none, cln_i, cln_r, cln_n, cln_l, cln_d, cln_f, Option.bind_some, Option.bind_none, if_true, if_false, nI_add, pk_mul, nbo_0, nbo_1, nI_leI, nI_ltI, nI_eq, Nat.reduceAdd, Nat.reduceMul, Nat.add_zero, Nat.mul_zero, gs_8 hb, hI, vI_at, e]
    rfl
  | succ d ih =>
    intro i c hi
    have e : ¬ a 1 ≤ i := by omega
    have hop := hW.op i (by omega)
    have g19 := f19 (I := I) (R := R) (b := b) (a := a) (t := i) hb hI hW (by omega)
    have g23 := f23 (I := I) (R := R) (b := b) (a := a) (w := w) (t := i) hb hRS hI hW hw (by omega)
    rw [s41_4]
    refine Eq.trans ?_ (ih (i + 1) (smF a w i c) (by omega))
    unfold smF
    rcases (show a (38 + i) = 0 ∨ a (38 + i) = 1 by omega) with e1 | e1
    · have e4 : ¬ a (38 + i) = 1 := by omega
      rw [b2_f e4] at g19
      rw [e1, Nat.zero_mul, Nat.add_zero]
      simp (disch := first | omega | (show List.length _ ≤ 4; exact Nat.le_of_ble_eq_true rfl) | assumption | exact nbo_0 | exact nbo_1 | exact b2_b) only [s41_0, s41_1, s41_2, s41_3, s41_5, s41_6, s41_9, s41_12, s41_13, s41_14, s41_17, s41_20, s41_21, s41_22, s41_23, s41_24, s41_27, s41_28, s41_29, s41_32, s41_35, s41_36, ↓reduceIte, psh_some, psh_none, cln_i, cln_r, cln_n, cln_l, cln_d, cln_f, Option.bind_some, Option.bind_none, if_true, if_false, nI_add, pk_mul, nbo_0, nbo_1, nI_leI, nI_ltI, nI_eq, Nat.reduceAdd, Nat.reduceMul, Nat.add_zero, Nat.mul_zero, gs_8 hb, hI, vI_at, e, g19, z0]
    · rw [b2_t e1] at g19
      rw [e1, Nat.one_mul]
      simp (disch := first | omega | (show List.length _ ≤ 4; exact Nat.le_of_ble_eq_true rfl) | assumption | exact nbo_0 | exact nbo_1 | exact b2_b) only [s41_0, s41_1, s41_2, s41_3, s41_5, s41_6, s41_9, s41_12, s41_13, s41_14, s41_17, s41_20, s41_21, s41_22, s41_23, s41_24, s41_27, s41_28, s41_29, s41_32, s41_35, s41_36, ↓reduceIte, psh_some, psh_none, cln_i, cln_r, cln_n, cln_l, cln_d, cln_f, Option.bind_some, Option.bind_none, if_true, if_false, nI_add, pk_mul, nbo_0, nbo_1, nI_leI, nI_ltI, nI_eq, Nat.reduceAdd, Nat.reduceMul, Nat.add_zero, Nat.mul_zero, gs_8 hb, hI, vI_at, e, g19, g23, z1]
theorem f41 {b w : Nat} (hb : b < 13) (hI : I b = vI a) (hW : WO a) (hRS : RS R) (hw : w < 6) : FF 41 [.ref (16 * b), .int (nI w)] (202, I, R) = some (some (.int (nI (fd (smF a w) (a 1) 0 0))), 202, I, R) := by
  refine Eq.trans ?_ (p41 hb hI hW hRS hw (a 1) 0 0 (by omega))
  simp (disch := first | omega | (show List.length _ ≤ 4; exact Nat.le_of_ble_eq_true rfl) | assumption | exact nbo_0 | exact nbo_1 | exact b2_b) only [FE41, s41_0, s41_1, s41_2, s41_3, ↓reduceIte, psh_some, psh_none, cln_i, cln_r, cln_n, cln_l, cln_d, cln_f, Option.bind_some, Option.bind_none, if_true, if_false, nI_add, pk_mul, nbo_0, nbo_1, nI_leI, nI_ltI, nI_eq, Nat.reduceAdd, Nat.reduceMul, Nat.add_zero, Nat.mul_zero]
end ME2
