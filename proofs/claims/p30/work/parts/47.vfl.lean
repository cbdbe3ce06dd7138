/-! ===== share, mean and lostIn ===== -/
section VF
variable {I : Nat → Nat → Int32} {R : Nat → Nat → Option Nat} {nw bf u N : Nat} {h : Nat → Nat} {p : Nat → Nat → Nat} {a : Nat → Nat}
theorem v_share (hB : BR R) (hC : CL I nw bf h a u p) (hWN : WN N a) (hN : N < 2 ^ 17) {t : Nat} (ht : t < a 1) : ∃ r, FF 64 [.ref 208, .int (nI t)] (202, I, QR R nw bf h) = some (some (.int r), 202, I, QR R nw bf h) ∧ (r = -6 ↔ a (128 + t) = 0) := by
  have ho := od
  have q1 := hC.1.1
  have q13 : nw < 13 := by omega
  have ho2 := os (b := nw) (by omega)
  have hRS : RS (QR R nw bf h) := QR_RS hB.2.2.2.1
  have hI := hC.2.1
  have hW := hWN.1
  have hT := hW.tp
  have g18 := f18t (I := I) (R := QR R nw bf h) (b := nw) (a := a) (x := nI t) (by omega) hI
  rw [b2_t (nI_iT ht (by omega))] at g18
  have n1 := hWN.2.1
  have n2 := hWN.2.2.1 t (by omega)
  have n3 := hWN.2.2.2 t (by omega)
  have nm6 : ∀ x, x < 2 ^ 31 → ¬ nI x = (-6 : Int32) := fun x hx hc => nI_pos hx (by rw [hc]; decide)
  by_cases e0 : a (128 + t) = 0
  · have c0 : (nI 0 ≤ (0 : Int32)) = True := eq_true (by decide)
    refine ⟨-6, ?_, iff_of_true rfl e0⟩
    simp (disch := first | omega | (show List.length _ ≤ 4; exact Nat.le_of_ble_eq_true rfl) | assumption | exact nbo_0 | exact nbo_1 | exact b2_b) only [FE64, s64_0, s64_1, s64_4, s64_5, s64_8, s64_11, s64_12, s64_13, s64_14, s64_17, s64_20, s64_21, s64_22, s64_23, s64_24, s64_27, s64_28, s64_31, s64_34, s64_35, s64_36, s64_37, s64_38, s64_39, s64_40, s64_41, s64_44, s64_47, s64_49, ↓reduceIte, psh_some, psh_none, cln_i, cln_r, cln_n, cln_l, cln_d, cln_f, Option.bind_some, Option.bind_none, if_true, if_false, nI_add, pk_mul, nbo_0, nbo_1, nI_leI, nI_ltI, nI_eq, Nat.reduceAdd, Nat.reduceMul, Nat.add_zero, Nat.mul_zero, gd_0, g18, z1, gs_6 q13 hRS, as_13 q13, hI, vI_at, e0, c0]
  · have c0 : (nI (a (128 + t)) ≤ (0 : Int32)) = False := eq_false (nI_nle (by omega) (by omega))
    by_cases eg : a (138 + t) = 0
    · have d0 := ddiv_zero (b := a (128 + t)) (by omega) (by omega)
      have dn : FP.ddiv (FP.i2d (nI 0)) (FP.i2d (nI (a (128 + t)))) &&& 0x7fffffffffffffff ≤ 0x7ff0000000000000 := by rw [d0]; exact nn64_0
      have fn : FP.d2f 0 &&& 0x7fffffff ≤ 0x7f800000 := by rw [d2f_0]; exact nn32_0
      refine ⟨nI 0, ?_, iff_of_false (nm6 0 (by decide)) e0⟩
      simp (disch := first | omega | (show List.length _ ≤ 4; exact Nat.le_of_ble_eq_true rfl) | assumption | exact nbo_0 | exact nbo_1 | exact b2_b) only [FE64, s64_0, s64_1, s64_4, s64_5, s64_8, s64_11, s64_12, s64_13, s64_14, s64_17, s64_20, s64_21, s64_22, s64_23, s64_24, s64_27, s64_28, s64_31, s64_34, s64_35, s64_36, s64_37, s64_38, s64_39, s64_40, s64_41, s64_44, s64_47, s64_49, ↓reduceIte, psh_some, psh_none, cln_i, cln_r, cln_n, cln_l, cln_d, cln_f, Option.bind_some, Option.bind_none, if_true, if_false, nI_add, pk_mul, nbo_0, nbo_1, nI_leI, nI_ltI, nI_eq, Nat.reduceAdd, Nat.reduceMul, Nat.add_zero, Nat.mul_zero, gd_0, g18, z1, gs_6 q13 hRS, as_13 q13, gs_7 q13 hRS, as_14 q13, hI, vI_at, c0, eg, d0, d2f_0, f65z]
    · obtain ⟨K, T, d0, d1, d2, d3⟩ := ddiv_int (g := a (138 + t)) (b := a (128 + t)) (u := 0) (w := 17) (by omega) (by omega) (by omega) (by omega) (by decide) (by decide) (by omega) (by omega)
      obtain ⟨K', T', f0, f1, f2, f3⟩ := d2f_int (K := K) (T := T) (w := 17) (by decide) d1 d2 d3
      have dn : FP.ddiv (FP.i2d (nI (a (138 + t)))) (FP.i2d (nI (a (128 + t)))) &&& 0x7fffffffffffffff ≤ 0x7ff0000000000000 := by rw [d0]; exact F64_nn (by omega) d3
      have fn : FP.d2f (F64 K T) &&& 0x7fffffff ≤ 0x7f800000 := by rw [f0]; exact F32_nn (by omega) f3
      refine ⟨nI (K' * 2 ^ 23 + T'), ?_, iff_of_false (nm6 _ (by omega)) e0⟩
      simp (disch := first | omega | (show List.length _ ≤ 4; exact Nat.le_of_ble_eq_true rfl) | assumption | exact nbo_0 | exact nbo_1 | exact b2_b) only [FE64, s64_0, s64_1, s64_4, s64_5, s64_8, s64_11, s64_12, s64_13, s64_14, s64_17, s64_20, s64_21, s64_22, s64_23, s64_24, s64_27, s64_28, s64_31, s64_34, s64_35, s64_36, s64_37, s64_38, s64_39, s64_40, s64_41, s64_44, s64_47, s64_49, ↓reduceIte, psh_some, psh_none, cln_i, cln_r, cln_n, cln_l, cln_d, cln_f, Option.bind_some, Option.bind_none, if_true, if_false, nI_add, pk_mul, nbo_0, nbo_1, nI_leI, nI_ltI, nI_eq, Nat.reduceAdd, Nat.reduceMul, Nat.add_zero, Nat.mul_zero, gd_0, g18, z1, gs_6 q13 hRS, as_13 q13, gs_7 q13 hRS, as_14 q13, hI, vI_at, c0, d0, f0, f65 (show 1 ≤ K' by omega) f2 f3]
/-- the mean of worker 0 where no topic is open -/
theorem v_mean (hB : BR R) (hC : CL I nw bf h a u p) (hW : WO a) (e0 : bsum a = 0) : FF 66 [.ref 208, .int (nI 0)] (202, I, QR R nw bf h) = some (some (.long 0), 202, I, QR R nw bf h) := by
  have ho := od
  have q1 := hC.1.1
  have q13 : nw < 13 := by omega
  have ho2 := os (b := nw) (by omega)
  have hI := hC.2.1
  have g39 := f39 (I := I) (R := QR R nw bf h) (b := nw) (a := a) q13 hI hW
  have c0 : (nI 0 ≤ (0 : Int32)) = True := eq_true (by decide)
  rw [e0] at g39
  have e := nI_iT (k := 0) (n := 6) (by decide) (by decide)
  simp (disch := first | omega | (show List.length _ ≤ 4; exact Nat.le_of_ble_eq_true rfl) | assumption | exact nbo_0 | exact nbo_1 | exact b2_b) only [FE66, s66_0, s66_1, s66_4, s66_7, s66_10, s66_11, s66_12, s66_15, s66_18, s66_19, s66_20, s66_23, s66_24, s66_27, s66_28, s66_31, s66_32, s66_33, s66_34, s66_35, s66_38, s66_41, s66_42, ↓reduceIte, psh_some, psh_none, cln_i, cln_r, cln_n, cln_l, cln_d, cln_f, Option.bind_some, Option.bind_none, if_true, if_false, nI_add, pk_mul, nbo_0, nbo_1, nI_leI, nI_ltI, nI_eq, Nat.reduceAdd, Nat.reduceMul, Nat.add_zero, Nat.mul_zero, f49t, b2_t e, z1, gd_0, g39, c0]
/-- what would be lost, if this shift ended -/
theorem v_lost (hB : BR R) (hC : CL I nw bf h a u p) (hWN : WN N a) (hN : N < 2 ^ 28) : ∃ J, FF 69 [.ref 208, .int (nI 1)] (202, I, QR R nw bf h) = some (some (.int (ot (tot (endP (a (26 + a 0 % 12)) a)) 2)), 202, J, QR R nw bf h) ∧ CL J nw bf h a u p ∧ J 60 = I 60 ∧ J 61 = I 61 := by
  have ho := od
  have ho1 : isO "HandoverDesk$State" 202 160 = true := os (b := 10) (by decide)
  have hRS : RS (QR R nw bf h) := QR_RS hB.2.2.2.1
  have hW := hWN.1
  have h0 : a 0 < 2 ^ 30 := Nat.lt_of_le_of_lt hWN.2.1 (by omega)
  have q1 := hC.1.1
  obtain ⟨e, he, hz⟩ := hC.2.2.2
  have hmi := hW.mi (a 0 % 12) (Nat.mod_lt _ (by decide))
  have hok := endP_ok (n := a (26 + a 0 % 12)) hWN
  have g1 : FF 12 [.ref 160, .ref (16 * nw)] (202, I, QR R nw bf h) = some (none, 202, up I 10 (vI a), QR R nw bf h) := f12 (I := I) (R := QR R nw bf h) (b := nw) (d := 10) (a := a) (e := e) (by omega) (by decide) (by omega) hRS hC.2.1 hW he hz
  have g2 : FF 28 [.ref 160] (202, up I 10 (vI a), QR R nw bf h) = some (some (.int (nI (a (26 + a 0 % 12)))), 202, up I 10 (vI a), QR R nw bf h) := f28 (I := up I 10 (vI a)) (R := QR R nw bf h) (b := 10) (a := a) (by decide) hRS (up_at _ _ _) h0
  have g3 : FF 29 [.ref 160, .int (nI (a (26 + a 0 % 12)))] (202, up I 10 (vI a), QR R nw bf h) = some (some (.int (nI (endP (a (26 + a 0 % 12)) a).2)), 202, up I 10 (vI (tot (endP (a (26 + a 0 % 12)) a))), QR R nw bf h) := by
    have g := f29 (I := up I 10 (vI a)) (R := QR R nw bf h) (b := 10) (a := a) (n := a (26 + a 0 % 12)) (by decide) hRS (up_at _ _ _) hW h0 (by omega)
    rw [up_up] at g
    exact g
  generalize tot (endP (a (26 + a 0 % 12)) a) = a' at *
  have h0' : a' 0 < 2 ^ 30 := Nat.lt_of_le_of_lt hok.2.1 (by omega)
  have g4 : FF 40 [.ref 160, .int (nI 2)] (202, up I 10 (vI a'), QR R nw bf h) = some (some (.int (ot a' 2)), 202, up I 10 (vI a'), QR R nw bf h) := f40 (I := up I 10 (vI a')) (R := QR R nw bf h) (b := 10) (a := a') (h := 2) (by decide) hRS (up_at _ _ _) hok.1 h0' (by decide)
  have e5 : ¬ 1 < 1 := by decide
  have e6 : 1 ≤ 50 := by decide
  have e7 : ¬ 1 ≤ 0 := by decide
  have e8 : 1 ≤ 1 := Nat.le_refl _
  refine ⟨up I 10 (vI a'), ?_, hC.congr (fun v h1 h2 => up_ne h2) ⟨a', up_at _ _ _, hok.1.zz⟩, up_ne (by decide), up_ne (by decide)⟩
  have q : FF 69 [.ref 208, .int (nI 1)] (202, I, QR R nw bf h) = EE 69 27 [some (.ref 208), some (.int (nI 1)), some (.int (nI 0))] [] (202, up I 10 (vI a), QR R nw bf h) := by
    simp (disch := first | omega | (show List.length _ ≤ 4; exact Nat.le_of_ble_eq_true rfl) | assumption | exact nbo_0 | exact nbo_1 | exact b2_b) only [FE69, s69_0, s69_1, s69_2, s69_5, s69_6, s69_8, s69_11, s69_13, s69_14, s69_15, s69_18, s69_19, s69_22, s69_25, s69_26, s69_28, s69_29, s69_32, s69_33, s69_36, s69_37, s69_40, s69_43, s69_46i, s69_46r, s69_47, s69_50, s69_53, s69_54, s69_57, s69_58, s69_61, ↓reduceIte, psh_some, psh_none, cln_i, cln_r, cln_n, cln_l, cln_d, cln_f, Option.bind_some, Option.bind_none, if_true, if_false, nI_add, pk_mul, nbo_0, nbo_1, nI_leI, nI_ltI, nI_eq, Nat.reduceAdd, Nat.reduceMul, Nat.add_zero, Nat.mul_zero, e5, e6, gd_7 hB, gd_0, g1]
  have q2 : EE 69 27 [some (.ref 208), some (.int (nI 1)), some (.int (nI 0))] [] (202, up I 10 (vI a), QR R nw bf h) = EE 69 27 [some (.ref 208), some (.int (nI 1)), some (.int (nI 1))] [] (202, up I 10 (vI a'), QR R nw bf h) := by
    rw [s69_27]
    simp (disch := first | omega | (show List.length _ ≤ 4; exact Nat.le_of_ble_eq_true rfl) | assumption | exact nbo_0 | exact nbo_1 | exact b2_b) only [s69_0, s69_1, s69_2, s69_5, s69_6, s69_8, s69_11, s69_13, s69_14, s69_15, s69_18, s69_19, s69_22, s69_25, s69_26, s69_28, s69_29, s69_32, s69_33, s69_36, s69_37, s69_40, s69_43, s69_46i, s69_46r, s69_47, s69_50, s69_53, s69_54, s69_57, s69_58, s69_61, ↓reduceIte, psh_some, psh_none, cln_i, cln_r, cln_n, cln_l, cln_d, cln_f, Option.bind_some, Option.bind_none, if_true, if_false, nI_add, pk_mul, nbo_0, nbo_1, nI_leI, nI_ltI, nI_eq, Nat.reduceAdd, Nat.reduceMul, Nat.add_zero, Nat.mul_zero, e7, gd_7 hB, g2, g3]
  rw [q, q2, s69_27]
  simp (disch := first | omega | (show List.length _ ≤ 4; exact Nat.le_of_ble_eq_true rfl) | assumption | exact nbo_0 | exact nbo_1 | exact b2_b) only [s69_0, s69_1, s69_2, s69_5, s69_6, s69_8, s69_11, s69_13, s69_14, s69_15, s69_18, s69_19, s69_22, s69_25, s69_26, s69_28, s69_29, s69_32, s69_33, s69_36, s69_37, s69_40, s69_43, s69_46i, s69_46r, s69_47, s69_50, s69_53, s69_54, s69_57, s69_58, s69_61, ↓reduceIte, psh_some, psh_none, cln_i, cln_r, cln_n, cln_l, cln_d, cln_f, Option.bind_some, Option.bind_none, if_true, if_false, nI_add, pk_mul, nbo_0, nbo_1, nI_leI, nI_ltI, nI_eq, Nat.reduceAdd, Nat.reduceMul, Nat.add_zero, Nat.mul_zero, e8, gd_7 hB, g4]
end VF
