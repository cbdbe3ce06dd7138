/-! ===== share ===== -/
theorem sh23 : ∀ E, E < 256 → nI E <<< (nI 23 &&& 31) = nI (E * 2 ^ 23) := by decide +kernel
section SH
variable {M : Mm}
theorem f65z : FF 65 [.float 0] M = some (some (.int (nI 0)), M) := by
  have e : Op.cmpValue (FP.fcmp 0 FP.fconst0) .g = 0 := by decide +kernel
  have e2 : ((0 : Int32) < 0) = False := eq_false (by decide)
  simp (disch := first | omega | (show List.length _ ≤ 4; exact Nat.le_of_ble_eq_true rfl) | assumption | exact nbo_0 | exact nbo_1 | exact b2_b) only [FE65, s65_0, s65_1, s65_2, s65_3, s65_6, s65_7, ↓reduceIte, psh_some, psh_none, cln_i, cln_r, cln_n, cln_l, cln_d, cln_f, Option.bind_some, Option.bind_none, if_true, if_false, nI_add, pk_mul, nbo_0, nbo_1, nI_leI, nI_ltI, nI_eq, Nat.reduceAdd, Nat.reduceMul, Nat.add_zero, Nat.mul_zero, e, e2]
theorem p65 {E T : Nat} {x0 : UInt32} (hE : 1 ≤ E) (hT : T < 2 ^ 23) : ∀ d K, K + d = 127 → E ≤ K → EE 65 13 [some (.float x0), some (.float (F32 K T)), some (.int (nI (127 + E - K)))] [] M = some (some (.int (nI (E * 2 ^ 23 + T))), M) := by
  intro d
  induction d with
  | zero =>
    intro K hK hEK
    have e : K = 127 := by omega
    subst e
    have c := eq_true (F32_ge (L := 127) (K := 127) (T := T) (by decide) (Nat.le_refl _) (by decide) hT .g)
    have m0 : (1258291200 : UInt32) = F32 (127 + 23) 0 := by decide +kernel
    have m : FP.fmul (F32 127 T) 1258291200 = F32 150 T := by rw [m0]; exact F32_mul (by decide) (by decide) (by decide) hT
    have mn : FP.fmul (F32 127 T) 1258291200 &&& 0x7fffffff ≤ 0x7f800000 := by rw [m]; exact F32_nn (by decide) hT
    have k : (8388608 : Int32) = nI (2 ^ 23) := by decide
    have k2 : nI (2 ^ 23 + T) - nI (2 ^ 23) = nI T := by rw [nI_sub (by omega), Nat.add_sub_cancel_left]
    have k3 : 127 + E - 127 = E := by omega
    have k4 := sh23 E (by omega)
    rw [s65_13]
    simp (disch := first | omega | (show List.length _ ≤ 4; exact Nat.le_of_ble_eq_true rfl) | assumption | exact nbo_0 | exact nbo_1 | exact b2_b) only [s65_0, s65_1, s65_2, s65_3, s65_6, s65_7, s65_8, s65_9, s65_10, s65_12, s65_14, s65_15, s65_16, s65_19, s65_20, s65_21, s65_24, s65_25, s65_26, s65_27, s65_28, s65_31, s65_34, s65_35, s65_37, s65_38, s65_39, s65_41, s65_42, s65_43, s65_45, s65_46, s65_47, ↓reduceIte, psh_some, psh_none, cln_i, cln_r, cln_n, cln_l, cln_d, cln_f, Option.bind_some, Option.bind_none, if_true, if_false, nI_add, pk_mul, nbo_0, nbo_1, nI_leI, nI_ltI, nI_eq, Nat.reduceAdd, Nat.reduceMul, Nat.add_zero, Nat.mul_zero, F32_one, c, m, F32_f2i hT, k, k2, k3, k4]
  | succ d ih =>
    intro K hK hEK
    have c := F32_lt (L := 127) (K := K) (T := T) (by omega) (by omega) (by decide) hT .g
    have c2 : (0 ≤ (-1 : Int32)) = False := eq_false (by decide)
    have q : (127 + E - K ≤ 1) = False := eq_false (by omega)
    have m0 : FP.fconst2 = F32 (127 + 1) 0 := by decide +kernel
    have m : FP.fmul (F32 K T) FP.fconst2 = F32 (K + 1) T := by rw [m0]; exact F32_mul (by omega) (by omega) (by decide) hT
    have mn : FP.fmul (F32 K T) FP.fconst2 &&& 0x7fffffff ≤ 0x7f800000 := by rw [m]; exact F32_nn (by omega) hT
    have k : nI (127 + E - K) + -1 = nI (127 + E - (K + 1)) := by rw [show 127 + E - K = (127 + E - (K + 1)) + 1 by omega, nI_m1]
    rw [← ih (K + 1) (by omega) (by omega), s65_13]
    simp (disch := first | omega | (show List.length _ ≤ 4; exact Nat.le_of_ble_eq_true rfl) | assumption | exact nbo_0 | exact nbo_1 | exact b2_b) only [s65_0, s65_1, s65_2, s65_3, s65_6, s65_7, s65_8, s65_9, s65_10, s65_12, s65_14, s65_15, s65_16, s65_19, s65_20, s65_21, s65_24, s65_25, s65_26, s65_27, s65_28, s65_31, s65_34, s65_35, s65_37, s65_38, s65_39, s65_41, s65_42, s65_43, s65_45, s65_46, s65_47, ↓reduceIte, psh_some, psh_none, cln_i, cln_r, cln_n, cln_l, cln_d, cln_f, Option.bind_some, Option.bind_none, if_true, if_false, nI_add, pk_mul, nbo_0, nbo_1, nI_leI, nI_ltI, nI_eq, Nat.reduceAdd, Nat.reduceMul, Nat.add_zero, Nat.mul_zero, F32_one, c, c2, q, m, k]
theorem f65 {E T : Nat} (hE : 1 ≤ E) (hE2 : E ≤ 127) (hT : T < 2 ^ 23) : FF 65 [.float (F32 E T)] M = some (some (.int (nI (E * 2 ^ 23 + T))), M) := by
  have h := p65 (M := M) (x0 := F32 E T) hE hT (127 - E) E (by omega) (Nat.le_refl _)
  rw [Nat.add_sub_cancel] at h
  have c := F32_gt (K := E) (T := T) hE (by omega) hT .g
  have c2 : ((0 : Int32) < 1) = True := eq_true (by decide)
  refine Eq.trans ?_ h
  simp (disch := first | omega | (show List.length _ ≤ 4; exact Nat.le_of_ble_eq_true rfl) | assumption | exact nbo_0 | exact nbo_1 | exact b2_b) only [FE65, s65_0, s65_1, s65_2, s65_3, s65_8, s65_9, s65_10, s65_12, ↓reduceIte, psh_some, psh_none, cln_i, cln_r, cln_n, cln_l, cln_d, cln_f, Option.bind_some, Option.bind_none, if_true, if_false, nI_add, pk_mul, nbo_0, nbo_1, nI_leI, nI_ltI, nI_eq, Nat.reduceAdd, Nat.reduceMul, Nat.add_zero, Nat.mul_zero, c, c2]
theorem f167z : FF 167 [.float 0] M = some (some (.int (nI 0)), M) := by
  have e : Op.cmpValue (FP.fcmp 0 0) .l = 0 := by decide +kernel
  have e2 : (UInt32.toInt32 0) = nI 0 := by decide
  simp (disch := first | omega | (show List.length _ ≤ 4; exact Nat.le_of_ble_eq_true rfl) | assumption | exact nbo_0 | exact nbo_1 | exact b2_b) only [FE167, s167_0, s167_1, s167_4, s167_7, s167_8, s167_11, s167_12, s167_14, FE168, s168_0, s168_1, s168_2, s168_3, s168_6, s168_7, s168_10, s168_11, ↓reduceIte, psh_some, psh_none, cln_i, cln_r, cln_n, cln_l, cln_d, cln_f, Option.bind_some, Option.bind_none, if_true, if_false, nI_add, pk_mul, nbo_0, nbo_1, nI_leI, nI_ltI, nI_eq, Nat.reduceAdd, Nat.reduceMul, Nat.add_zero, Nat.mul_zero, e, z0, e2]
theorem f167 {E T : Nat} (hE : 1 ≤ E) (hE2 : E ≤ 127) (hT : T < 2 ^ 23) : FF 167 [.float (F32 E T)] M = some (some (.int (nI (E * 2 ^ 23 + T))), M) := by
  have e := F32_self (K := E) (T := T) hE (by omega) hT .l
  have e2 : (F32 E T).toInt32 = nI (E * 2 ^ 23 + T) := rfl
  simp (disch := first | omega | (show List.length _ ≤ 4; exact Nat.le_of_ble_eq_true rfl) | assumption | exact nbo_0 | exact nbo_1 | exact b2_b) only [FE167, s167_0, s167_1, s167_4, s167_7, s167_8, s167_11, s167_12, s167_14, FE168, s168_0, s168_1, s168_2, s168_3, s168_6, s168_7, s168_10, s168_11, ↓reduceIte, psh_some, psh_none, cln_i, cln_r, cln_n, cln_l, cln_d, cln_f, Option.bind_some, Option.bind_none, if_true, if_false, nI_add, pk_mul, nbo_0, nbo_1, nI_leI, nI_ltI, nI_eq, Nat.reduceAdd, Nat.reduceMul, Nat.add_zero, Nat.mul_zero, e, z0, e2]
end SH
section SH2
variable {I : Nat → Nat → Int32} {R : Nat → Nat → Option Nat} {nw bf u n N : Nat} {h hd q : Nat → Nat} {p sl : Nat → Nat → Nat} {a : Nat → Nat}
theorem pr_share (hB : BR R) (hG : GL N a u p sl hd n q) (hC : CL I nw bf h a u p sl hd n q) (hM : ML I a u p sl hd n q) (hN : N < 2 ^ 17) (x : Int32) : PR R I (QR R nw bf h) N 64 [.ref 208, .int x] 130 [.ref 224, .int x] := by
  have ho := od
  have ho3 := om
  have q1 := hC.1.1
  have q13 : nw < 13 := by omega
  have ho2 := os (b := nw) (by omega)
  have hRM : RM (QR R nw bf h) := QR_RM hB.2.2.2.2
  have hRS : RS (QR R nw bf h) := QR_RS hB.2.2.2.1
  have hv : (225 : Nat) = 225 ∨ (225 : Nat) = 226 := Or.inl rfl
  have hI := hC.2.1
  have hJ := hM.1.1
  have hW := hG.1.1
  have hT := hW.tp
  have g18 := f18t (I := I) (R := QR R nw bf h) (b := nw) (a := a) (x := x) (by omega) hI
  have g99 := f99 (I := I) (R := QR R nw bf h) (x := x) hRM hJ hW
  by_cases e : iT x (a 1)
  · rw [b2_t e] at g18 g99
    obtain ⟨t, ht, rfl⟩ := iT_nI (by omega) e
    have n1 := hG.1.2.1
    have n2 := hG.1.2.2.1 t (by omega)
    have n3 := hG.1.2.2.2 t (by omega)
    by_cases e0 : a (128 + t) = 0
    · have c0 : (nI 0 ≤ (0 : Int32)) = True := eq_true (by decide)
      refine view (r := .int (-6)) hG hC hM ?_ ?_
      · simp (disch := first | omega | (show List.length _ ≤ 4; exact Nat.le_of_ble_eq_true rfl) | assumption | exact nbo_0 | exact nbo_1 | exact b2_b) only [FE64, s64_0, s64_1, s64_4, s64_5, s64_8, s64_11, s64_12, s64_13, s64_14, s64_17, s64_20, s64_21, s64_22, s64_23, s64_24, s64_27, s64_28, s64_31, s64_34, s64_35, s64_36, s64_37, s64_38, s64_39, s64_40, s64_41, s64_44, s64_47, s64_49, ↓reduceIte, psh_some, psh_none, cln_i, cln_r, cln_n, cln_l, cln_d, cln_f, Option.bind_some, Option.bind_none, if_true, if_false, nI_add, pk_mul, nbo_0, nbo_1, nI_leI, nI_ltI, nI_eq, Nat.reduceAdd, Nat.reduceMul, Nat.add_zero, Nat.mul_zero, gd_0, g18, z1, gs_6 q13 hRS, as_13 q13, hI, vI_at, e0, c0]
      · simp (disch := first | omega | (show List.length _ ≤ 4; exact Nat.le_of_ble_eq_true rfl) | assumption | exact nbo_0 | exact nbo_1 | exact b2_b) only [FE130, s130_0, s130_1, s130_2, s130_5, s130_8, s130_9, s130_10, s130_11, s130_14, s130_17, s130_18, s130_19, s130_20, s130_21, s130_22, s130_25, s130_27, s130_30, s130_31, s130_34, s130_37, s130_38, s130_39, s130_40, s130_41, s130_42, s130_43, s130_44, s130_45, s130_48, ↓reduceIte, psh_some, psh_none, cln_i, cln_r, cln_n, cln_l, cln_d, cln_f, Option.bind_some, Option.bind_none, if_true, if_false, nI_add, pk_mul, nbo_0, nbo_1, nI_leI, nI_ltI, nI_eq, Nat.reduceAdd, Nat.reduceMul, Nat.add_zero, Nat.mul_zero, g99, z0, z1, gm_0 hRM, am_n hv, hJ, vI_at, e0]
    · have c0 : (nI (a (128 + t)) ≤ (0 : Int32)) = False := eq_false (nI_nle (by omega) (by omega))
      have c1 : (nI (a (128 + t)) = (0 : Int32)) = False := eq_false (nI_ne0 (by omega) (by omega))
      by_cases eg : a (138 + t) = 0
      · have d0 := ddiv_zero (b := a (128 + t)) (by omega) (by omega)
        have dn : FP.ddiv (FP.i2d (nI 0)) (FP.i2d (nI (a (128 + t)))) &&& 0x7fffffffffffffff ≤ 0x7ff0000000000000 := by rw [d0]; exact nn64_0
        have fn : FP.d2f 0 &&& 0x7fffffff ≤ 0x7f800000 := by rw [d2f_0]; exact nn32_0
        refine view (r := .int (nI 0)) hG hC hM ?_ ?_
        · simp (disch := first | omega | (show List.length _ ≤ 4; exact Nat.le_of_ble_eq_true rfl) | assumption | exact nbo_0 | exact nbo_1 | exact b2_b) only [FE64, s64_0, s64_1, s64_4, s64_5, s64_8, s64_11, s64_12, s64_13, s64_14, s64_17, s64_20, s64_21, s64_22, s64_23, s64_24, s64_27, s64_28, s64_31, s64_34, s64_35, s64_36, s64_37, s64_38, s64_39, s64_40, s64_41, s64_44, s64_47, s64_49, ↓reduceIte, psh_some, psh_none, cln_i, cln_r, cln_n, cln_l, cln_d, cln_f, Option.bind_some, Option.bind_none, if_true, if_false, nI_add, pk_mul, nbo_0, nbo_1, nI_leI, nI_ltI, nI_eq, Nat.reduceAdd, Nat.reduceMul, Nat.add_zero, Nat.mul_zero, gd_0, g18, z1, gs_6 q13 hRS, as_13 q13, gs_7 q13 hRS, as_14 q13, hI, vI_at, c0, eg, d0, d2f_0, f65z]
        · simp (disch := first | omega | (show List.length _ ≤ 4; exact Nat.le_of_ble_eq_true rfl) | assumption | exact nbo_0 | exact nbo_1 | exact b2_b) only [FE130, s130_0, s130_1, s130_2, s130_5, s130_8, s130_9, s130_10, s130_11, s130_14, s130_17, s130_18, s130_19, s130_20, s130_21, s130_22, s130_25, s130_27, s130_30, s130_31, s130_34, s130_37, s130_38, s130_39, s130_40, s130_41, s130_42, s130_43, s130_44, s130_45, s130_48, ↓reduceIte, psh_some, psh_none, cln_i, cln_r, cln_n, cln_l, cln_d, cln_f, Option.bind_some, Option.bind_none, if_true, if_false, nI_add, pk_mul, nbo_0, nbo_1, nI_leI, nI_ltI, nI_eq, Nat.reduceAdd, Nat.reduceMul, Nat.add_zero, Nat.mul_zero, g99, z1, gm_0 hRM, am_n hv, hJ, vI_at, c1, eg, d0, d2f_0, f167z]
      · obtain ⟨K, T, d0, d1, d2, d3⟩ := ddiv_int (g := a (138 + t)) (b := a (128 + t)) (u := 0) (w := 17) (by omega) (by omega) (by omega) (by omega) (by decide) (by decide) (by omega) (by omega)
        obtain ⟨K', T', f0, f1, f2, f3⟩ := d2f_int (K := K) (T := T) (w := 17) (by decide) d1 d2 d3
        have dn : FP.ddiv (FP.i2d (nI (a (138 + t)))) (FP.i2d (nI (a (128 + t)))) &&& 0x7fffffffffffffff ≤ 0x7ff0000000000000 := by rw [d0]; exact F64_nn (by omega) d3
        have fn : FP.d2f (F64 K T) &&& 0x7fffffff ≤ 0x7f800000 := by rw [f0]; exact F32_nn (by omega) f3
        refine view (r := .int (nI (K' * 2 ^ 23 + T'))) hG hC hM ?_ ?_
        · simp (disch := first | omega | (show List.length _ ≤ 4; exact Nat.le_of_ble_eq_true rfl) | assumption | exact nbo_0 | exact nbo_1 | exact b2_b) only [FE64, s64_0, s64_1, s64_4, s64_5, s64_8, s64_11, s64_12, s64_13, s64_14, s64_17, s64_20, s64_21, s64_22, s64_23, s64_24, s64_27, s64_28, s64_31, s64_34, s64_35, s64_36, s64_37, s64_38, s64_39, s64_40, s64_41, s64_44, s64_47, s64_49, ↓reduceIte, psh_some, psh_none, cln_i, cln_r, cln_n, cln_l, cln_d, cln_f, Option.bind_some, Option.bind_none, if_true, if_false, nI_add, pk_mul, nbo_0, nbo_1, nI_leI, nI_ltI, nI_eq, Nat.reduceAdd, Nat.reduceMul, Nat.add_zero, Nat.mul_zero, gd_0, g18, z1, gs_6 q13 hRS, as_13 q13, gs_7 q13 hRS, as_14 q13, hI, vI_at, c0, d0, f0, f65 (show 1 ≤ K' by omega) f2 f3]
        · simp (disch := first | omega | (show List.length _ ≤ 4; exact Nat.le_of_ble_eq_true rfl) | assumption | exact nbo_0 | exact nbo_1 | exact b2_b) only [FE130, s130_0, s130_1, s130_2, s130_5, s130_8, s130_9, s130_10, s130_11, s130_14, s130_17, s130_18, s130_19, s130_20, s130_21, s130_22, s130_25, s130_27, s130_30, s130_31, s130_34, s130_37, s130_38, s130_39, s130_40, s130_41, s130_42, s130_43, s130_44, s130_45, s130_48, ↓reduceIte, psh_some, psh_none, cln_i, cln_r, cln_n, cln_l, cln_d, cln_f, Option.bind_some, Option.bind_none, if_true, if_false, nI_add, pk_mul, nbo_0, nbo_1, nI_leI, nI_ltI, nI_eq, Nat.reduceAdd, Nat.reduceMul, Nat.add_zero, Nat.mul_zero, g99, z1, gm_0 hRM, am_n hv, hJ, vI_at, c1, d0, f0, f167 (show 1 ≤ K' by omega) f2 f3]
  · rw [b2_f e] at g18 g99
    refine view (r := .int (-1)) hG hC hM ?_ ?_
    · simp (disch := first | omega | (show List.length _ ≤ 4; exact Nat.le_of_ble_eq_true rfl) | assumption | exact nbo_0 | exact nbo_1 | exact b2_b) only [FE64, s64_0, s64_1, s64_4, s64_5, s64_8, s64_11, s64_12, ↓reduceIte, psh_some, psh_none, cln_i, cln_r, cln_n, cln_l, cln_d, cln_f, Option.bind_some, Option.bind_none, if_true, if_false, nI_add, pk_mul, nbo_0, nbo_1, nI_leI, nI_ltI, nI_eq, Nat.reduceAdd, Nat.reduceMul, Nat.add_zero, Nat.mul_zero, gd_0, g18, z0]
    · simp (disch := first | omega | (show List.length _ ≤ 4; exact Nat.le_of_ble_eq_true rfl) | assumption | exact nbo_0 | exact nbo_1 | exact b2_b) only [FE130, s130_0, s130_1, s130_2, s130_5, s130_8, s130_9, ↓reduceIte, psh_some, psh_none, cln_i, cln_r, cln_n, cln_l, cln_d, cln_f, Option.bind_some, Option.bind_none, if_true, if_false, nI_add, pk_mul, nbo_0, nbo_1, nI_leI, nI_ltI, nI_eq, Nat.reduceAdd, Nat.reduceMul, Nat.add_zero, Nat.mul_zero, g99, z0]
end SH2
