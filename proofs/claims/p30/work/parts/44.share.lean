/-! ===== share ===== -/
theorem sh23 : ∀ E, E < 256 → nI E <<< (nI 23 &&& 31) = nI (E * 2 ^ 23) := by decide +kernel
section SH
variable {M : Mm}
theorem f65z : FF 65 [.float 0] M = some (some (.int (nI 0)), M) := by
  have e : Op.cmpValue (FP.fcmp 0 FP.fconst0) .g = 0 := by decide +kernel
  have e2 : ((0 : Int32) < 0) = False := eq_false (by decide)
  simp (disch := first | omega | (show List.length _ ≤ 4; exact Nat.le_of_ble_eq_true rfl) | assumption | exact nbo_0 | exact nbo_1 | exact b2_b) only [FE65, s65_0, s65_1, s65_2, s65_3, s65_6, s65_7, ↓reduceIte, psh_some, psh_none, cln_i, cln_r, cln_n, cln_l, cln_d, cln_f, Option.bind_some, Option.bind_none, if_true, if_false, nI_add, pk_mul, nbo_0, nbo_1, nI_leI, nI_ltI, nI_eq, Nat.reduceAdd, Nat.reduceMul, Nat.add_zero, Nat.mul_zero, e, e2]
theorem p65 {E T : Nat} {x0 : UInt32} (hE : 1 ≤ E) (hT : T < 2 ^ 23) : ∀ d K, K + d = 127 → E ≤ K → EE 65 13 [some (.float x0), some (.float (F32 K T)), some (.int (nI (127 + E - K)))] [] M = some (some (.int (nI (E * 2 ^ 23 + T))), M) := by
  intro d
  induction d with
  | zero =>
    intro K hK hEK
    have e : K = 127 := by omega
    subst e
    have c := eq_true (F32_ge (L := 127) (K := 127) (T := T) (by decide) (Nat.le_refl _) (by decide) hT .g)
    have m0 : (1258291200 : UInt32) = F32 (127 + 23) 0 := by decide +kernel
    have m : FP.fmul (F32 127 T) 1258291200 = F32 150 T := by rw [m0]; exact F32_mul (by decide) (by decide) (by decide) hT
    have mn : FP.fmul (F32 127 T) 1258291200 &&& 0x7fffffff ≤ 0x7f800000 := by rw [m]; exact F32_nn (by decide) hT
    have k : (8388608 : Int32) = nI (2 ^ 23) := by decide
    have k2 : nI (2 ^ 23 + T) - nI (2 ^ 23) = nI T := by rw [nI_sub (by omega), Nat.add_sub_cancel_left]
    have k3 : 127 + E - 127 = E := by omega
    have k4 := sh23 E (by omega)
    rw [s65_13]
    simp (disch := first | omega | (show List.length _ ≤ 4; exact Nat.le_of_ble_eq_true rfl) | assumption | exact nbo_0 | exact nbo_1 | exact b2_b) only [s65_0, s65_1, s65_2, s65_3, s65_6, s65_7, s65_8, s65_9, s65_10, s65_12, s65_14, s65_15, s65_16, s65_19, s65_20, s65_21, s65_24, s65_25, s65_26, s65_27, s65_28, s65_31, s65_34, s65_35, s65_37, s65_38, s65_39, s65_41, s65_42, s65_43, s65_45, s65_46, s65_47, ↓reduceIte, psh_some, psh_none, cln_i, cln_r, cln_n, cln_l, cln_d, cln_f, Option.bind_some, Option.bind_none, if_true, if_false, nI_add, pk_mul, nbo_0, nbo_1, nI_leI, nI_ltI, nI_eq, Nat.reduceAdd, Nat.reduceMul, Nat.add_zero, Nat.mul_zero, F32_one, c, m, F32_f2i hT, k, k2, k3, k4]
  | succ d ih =>
    intro K hK hEK
    have c := F32_lt (L := 127) (K := K) (T := T) (by omega) (by omega) (by decide) hT .g
    have c2 : (0 ≤ (-1 : Int32)) = False := eq_false (by decide)
    have q : (127 + E - K ≤ 1) = False := eq_false (by omega)
    have m0 : FP.fconst2 = F32 (127 + 1) 0 := by decide +kernel
    have m : FP.fmul (F32 K T) FP.fconst2 = F32 (K + 1) T := by rw [m0]; exact F32_mul (by omega) (by omega) (by decide) hT
    have mn : FP.fmul (F32 K T) FP.fconst2 &&& 0x7fffffff ≤ 0x7f800000 := by rw [m]; exact F32_nn (by omega) hT
    have k : nI (127 + E - K) + -1 = nI (127 + E - (K + 1)) := by rw [show 127 + E - K = (127 + E - (K + 1)) + 1 by omega, nI_m1]
    rw [← ih (K + 1) (by omega) (by omega), s65_13]
    simp (disch := first | omega | (show List.length _ ≤ 4; exact Nat.le_of_ble_eq_true rfl) | assumption | exact nbo_0 | exact nbo_1 | exact b2_b) only [s65_0, s65_1, s65_2, s65_3, s65_6, s65_7, s65_8, s65_9, s65_10, s65_12, s65_14, s65_15, s65_16, s65_19, s65_20, s65_21, s65_24, s65_25, s65_26, s65_27, s65_28, s65_31, s65_34, s65_35, s65_37, s65_38, s65_39, s65_41, s65_42, s65_43, s65_45, s65_46, s65_47, ↓reduceIte, psh_some, psh_none, cln_i, cln_r, cln_n, cln_l, cln_d, cln_f, Option.bind_some, Option.bind_none, if_true, if_false, nI_add, pk_mul, nbo_0, nbo_1, nI_leI, nI_ltI, nI_eq, Nat.reduceAdd, Nat.reduceMul, Nat.add_zero, Nat.mul_zero, F32_one, c, c2, q, m, k]
theorem f65 {E T : Nat} (hE : 1 ≤ E) (hE2 : E ≤ 127) (hT : T < 2 ^ 23) : FF 65 [.float (F32 E T)] M = some (some (.int (nI (E * 2 ^ 23 + T))), M) := by
  have h := p65 (M := M) (x0 := F32 E T) hE hT (127 - E) E (by omega) (Nat.le_refl _)
  rw [Nat.add_sub_cancel] at h
  have c := F32_gt (K := E) (T := T) hE (by omega) hT .g
  have c2 : ((0 : Int32) < 1) = True := eq_true (by decide)
  refine Eq.trans ?_ h
  simp (disch := first | omega | (show List.length _ ≤ 4; exact Nat.le_of_ble_eq_true rfl) | assumption | exact nbo_0 | exact nbo_1 | exact b2_b) only [FE65, s65_0, s65_1, s65_2, s65_3, s65_8, s65_9, s65_10, s65_12, ↓reduceIte, psh_some, psh_none, cln_i, cln_r, cln_n, cln_l, cln_d, cln_f, Option.bind_some, Option.bind_none, if_true, if_false, nI_add, pk_mul, nbo_0, nbo_1, nI_leI, nI_ltI, nI_eq, Nat.reduceAdd, Nat.reduceMul, Nat.add_zero, Nat.mul_zero, c, c2]
end SH
