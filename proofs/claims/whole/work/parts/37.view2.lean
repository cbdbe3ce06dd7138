/-! ===== views, 2 ===== -/
section VX
variable {I : Nat → Nat → Int32} {R : Nat → Nat → Option Nat} {nw bf u n N : Nat} {h hd q : Nat → Nat} {p sl : Nat → Nat → Nat} {a : Nat → Nat}
theorem pr_place (hB : BR R) (hG : GL N a u p sl hd n q) (hC : CL I nw bf h a u p sl hd n q) (hM : ML I a u p sl hd n q) (x y : Int32) : PR R I (QR R nw bf h) N 62 [.ref 208, .int x, .int y] 128 [.ref 224, .int x, .int y] := by
  have ho := od
  have ho3 := om
  have hRM : RM (QR R nw bf h) := QR_RM hB.2.2.2.2
  have hRS : RS (QR R nw bf h) := QR_RS hB.2.2.2.1
  have hv : (225 : Nat) = 225 ∨ (225 : Nat) = 226 := Or.inl rfl
  have q1 := hC.1.1
  have hI := hC.2.1
  have hJ := hM.1.1
  have ho2 := os (b := nw) (by omega)
  have g84 := f84n (M := (210, I, QR R nw bf h)) (x := y) (m := 1) (by decide)
  by_cases e : iT x 12
  · obtain ⟨k, hk, rfl⟩ := iT_nI (by decide) e
    by_cases e2 : iT y 2
    · obtain ⟨j, hj, rfl⟩ := iT_nI (by decide) e2
      rw [b2_t e2] at g84
      have n0 : ¬ nI j < 0 := nI_pos (by omega)
      rcases (show j = 0 ∨ j = 1 by omega) with rfl | rfl
      · refine view (r := .int (nI (a (14 + k)))) hG hC hM ?_ ?_
        · simp (disch := first | omega | (show List.length _ ≤ 4; exact Nat.le_of_ble_eq_true rfl) | assumption | exact nbo_0 | exact nbo_1 | exact b2_b) only [FE62, s62_0, s62_1, s62_4, s62_7, s62_8, s62_11, s62_12, s62_13, s62_16, s62_18, s62_19, s62_20, s62_23, s62_24, s62_27, s62_30, s62_31, s62_32, s62_35, s62_36, s62_39, s62_42, s62_43, s62_44, ↓reduceIte, psh_some, psh_none, cln_i, cln_r, cln_n, cln_l, cln_d, cln_f, Option.bind_some, Option.bind_none, if_true, if_false, nI_add, pk_mul, nbo_0, nbo_1, nI_leI, nI_ltI, nI_eq, Nat.reduceAdd, Nat.reduceMul, Nat.add_zero, Nat.mul_zero, f50t, b2_t e, z0, z1, n0, gd_0, gs_1 (b := nw) (show nw < 13 by omega) hRS, as_2 (b := nw) (show nw < 13 by omega), hI, vI_at, show ((0 : Nat) ≤ 1) = True from eq_true (by decide)]
        · simp (disch := first | omega | (show List.length _ ≤ 4; exact Nat.le_of_ble_eq_true rfl) | assumption | exact nbo_0 | exact nbo_1 | exact b2_b) only [FE128, s128_0, s128_1, s128_4, s128_7, s128_8, s128_9, s128_10, s128_13, s128_16, s128_17, s128_20, s128_21, s128_24, s128_26, s128_29, s128_31, s128_32, s128_33, s128_34, s128_37, s128_39, ↓reduceIte, psh_some, psh_none, cln_i, cln_r, cln_n, cln_l, cln_d, cln_f, Option.bind_some, Option.bind_none, if_true, if_false, nI_add, pk_mul, nbo_0, nbo_1, nI_leI, nI_ltI, nI_eq, Nat.reduceAdd, Nat.reduceMul, Nat.add_zero, Nat.mul_zero, f92, b2_t e, g84, z0, z1, gm_0 hRM, am_n hv, hJ, vI_at]
      · refine view (r := .int (nI (a (26 + k)))) hG hC hM ?_ ?_
        · simp (disch := first | omega | (show List.length _ ≤ 4; exact Nat.le_of_ble_eq_true rfl) | assumption | exact nbo_0 | exact nbo_1 | exact b2_b) only [FE62, s62_0, s62_1, s62_4, s62_7, s62_8, s62_11, s62_12, s62_13, s62_16, s62_18, s62_19, s62_20, s62_23, s62_24, s62_27, s62_30, s62_31, s62_32, s62_35, s62_36, s62_39, s62_42, s62_43, s62_44, ↓reduceIte, psh_some, psh_none, cln_i, cln_r, cln_n, cln_l, cln_d, cln_f, Option.bind_some, Option.bind_none, if_true, if_false, nI_add, pk_mul, nbo_0, nbo_1, nI_leI, nI_ltI, nI_eq, Nat.reduceAdd, Nat.reduceMul, Nat.add_zero, Nat.mul_zero, f50t, b2_t e, z0, z1, n0, gd_0, gs_2 (b := nw) (show nw < 13 by omega) hRS, as_3 (b := nw) (show nw < 13 by omega), hI, vI_at, Nat.le_refl]
        · simp (disch := first | omega | (show List.length _ ≤ 4; exact Nat.le_of_ble_eq_true rfl) | assumption | exact nbo_0 | exact nbo_1 | exact b2_b) only [FE128, s128_0, s128_1, s128_4, s128_7, s128_8, s128_9, s128_10, s128_13, s128_16, s128_17, s128_20, s128_21, s128_24, s128_26, s128_29, s128_31, s128_32, s128_33, s128_34, s128_37, s128_39, ↓reduceIte, psh_some, psh_none, cln_i, cln_r, cln_n, cln_l, cln_d, cln_f, Option.bind_some, Option.bind_none, if_true, if_false, nI_add, pk_mul, nbo_0, nbo_1, nI_leI, nI_ltI, nI_eq, Nat.reduceAdd, Nat.reduceMul, Nat.add_zero, Nat.mul_zero, f92, b2_t e, g84, z0, z1, gm_0 hRM, am_n hv, hJ, vI_at]
    · rw [b2_f e2] at g84
      refine view (r := .int (-2)) hG hC hM ?_ ?_
      · by_cases e3 : y < 0
        · simp (disch := first | omega | (show List.length _ ≤ 4; exact Nat.le_of_ble_eq_true rfl) | assumption | exact nbo_0 | exact nbo_1 | exact b2_b) only [FE62, s62_0, s62_1, s62_4, s62_7, s62_8, s62_11, s62_12, s62_13, s62_16, s62_18, s62_19, s62_20, s62_23, s62_24, s62_27, s62_30, s62_31, s62_32, s62_35, s62_36, s62_39, s62_42, s62_43, s62_44, ↓reduceIte, psh_some, psh_none, cln_i, cln_r, cln_n, cln_l, cln_d, cln_f, Option.bind_some, Option.bind_none, if_true, if_false, nI_add, pk_mul, nbo_0, nbo_1, nI_leI, nI_ltI, nI_eq, Nat.reduceAdd, Nat.reduceMul, Nat.add_zero, Nat.mul_zero, f50t, b2_t e, z0, z1, e3]
        · have e4 : nI 2 ≤ y := by
            by_cases e5 : nI 2 ≤ y
            · exact e5
            · exact absurd ⟨e3, e5⟩ e2
          have e5 : ¬ y ≤ nI 1 := Int32.not_le.mpr ((lt_le (m := 1) (by decide)).mpr e4)
          simp (disch := first | omega | (show List.length _ ≤ 4; exact Nat.le_of_ble_eq_true rfl) | assumption | exact nbo_0 | exact nbo_1 | exact b2_b) only [FE62, s62_0, s62_1, s62_4, s62_7, s62_8, s62_11, s62_12, s62_13, s62_16, s62_18, s62_19, s62_20, s62_23, s62_24, s62_27, s62_30, s62_31, s62_32, s62_35, s62_36, s62_39, s62_42, s62_43, s62_44, ↓reduceIte, psh_some, psh_none, cln_i, cln_r, cln_n, cln_l, cln_d, cln_f, Option.bind_some, Option.bind_none, if_true, if_false, nI_add, pk_mul, nbo_0, nbo_1, nI_leI, nI_ltI, nI_eq, Nat.reduceAdd, Nat.reduceMul, Nat.add_zero, Nat.mul_zero, f50t, b2_t e, z0, z1, e3, e5]
      · simp (disch := first | omega | (show List.length _ ≤ 4; exact Nat.le_of_ble_eq_true rfl) | assumption | exact nbo_0 | exact nbo_1 | exact b2_b) only [FE128, s128_0, s128_1, s128_4, s128_7, s128_8, s128_9, s128_10, s128_13, s128_16, s128_17, s128_20, s128_21, s128_24, s128_26, s128_29, s128_31, s128_32, s128_33, s128_34, s128_37, s128_39, ↓reduceIte, psh_some, psh_none, cln_i, cln_r, cln_n, cln_l, cln_d, cln_f, Option.bind_some, Option.bind_none, if_true, if_false, nI_add, pk_mul, nbo_0, nbo_1, nI_leI, nI_ltI, nI_eq, Nat.reduceAdd, Nat.reduceMul, Nat.add_zero, Nat.mul_zero, f92, b2_t e, g84, z0, z1]
  · refine view (r := .int (-2)) hG hC hM ?_ ?_
    · simp (disch := first | omega | (show List.length _ ≤ 4; exact Nat.le_of_ble_eq_true rfl) | assumption | exact nbo_0 | exact nbo_1 | exact b2_b) only [FE62, s62_0, s62_1, s62_4, s62_7, s62_8, s62_11, s62_12, s62_13, s62_16, s62_18, s62_19, s62_20, s62_23, s62_24, s62_27, s62_30, s62_31, s62_32, s62_35, s62_36, s62_39, s62_42, s62_43, s62_44, ↓reduceIte, psh_some, psh_none, cln_i, cln_r, cln_n, cln_l, cln_d, cln_f, Option.bind_some, Option.bind_none, if_true, if_false, nI_add, pk_mul, nbo_0, nbo_1, nI_leI, nI_ltI, nI_eq, Nat.reduceAdd, Nat.reduceMul, Nat.add_zero, Nat.mul_zero, f50t, b2_f e, z0, z1]
    · simp (disch := first | omega | (show List.length _ ≤ 4; exact Nat.le_of_ble_eq_true rfl) | assumption | exact nbo_0 | exact nbo_1 | exact b2_b) only [FE128, s128_0, s128_1, s128_4, s128_7, s128_8, s128_9, s128_10, s128_13, s128_16, s128_17, s128_20, s128_21, s128_24, s128_26, s128_29, s128_31, s128_32, s128_33, s128_34, s128_37, s128_39, ↓reduceIte, psh_some, psh_none, cln_i, cln_r, cln_n, cln_l, cln_d, cln_f, Option.bind_some, Option.bind_none, if_true, if_false, nI_add, pk_mul, nbo_0, nbo_1, nI_leI, nI_ltI, nI_eq, Nat.reduceAdd, Nat.reduceMul, Nat.add_zero, Nat.mul_zero, f92, b2_f e, z0, z1]
end VX
