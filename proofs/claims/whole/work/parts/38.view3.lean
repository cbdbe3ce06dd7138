/-! ===== views, 3 ===== -/
section VY
variable {I : Nat → Nat → Int32} {R : Nat → Nat → Option Nat} {nw bf u n N : Nat} {h hd q : Nat → Nat} {p sl : Nat → Nat → Nat} {a : Nat → Nat}
theorem pr_checklist (hB : BR R) (hG : GL N a u p sl hd n q) (hC : CL I nw bf h a u p sl hd n q) (hM : ML I a u p sl hd n q) (x : Int32) : PR R I (QR R nw bf h) N 60 [.ref 208, .int x] 124 [.ref 224, .int x] := by
  have ho := od
  have ho3 := om
  have hRM : RM (QR R nw bf h) := QR_RM hB.2.2.2.2
  have hRS : RS (QR R nw bf h) := QR_RS hB.2.2.2.1
  have hv : (225 : Nat) = 225 ∨ (225 : Nat) = 226 := Or.inl rfl
  have hW := hG.1.1
  have hT := hW.tp
  have hL := hW.li
  have q1 := hC.1.1
  have q13 : nw < 13 := by omega
  have hI := hC.2.1
  have hJ := hM.1.1
  have g84 : FF 84 [.int x, .int (nI 0), .int (nI (a 13) - nI 1)] (210, I, QR R nw bf h) = some (some (.int (b2 (iT x (a 13)))), 210, I, QR R nw bf h) := by
    rw [f84]
    exact congrArg (fun z => some (some (Value.int z), 210, I, QR R nw bf h)) (b2_c ⟨fun h => ⟨h.1, fun h2 => h.2 ((lt_le1 (by omega)).mpr h2)⟩, fun h => ⟨h.1, fun h2 => h.2 ((lt_le1 (by omega)).mp h2)⟩⟩)
  by_cases e : iT x (a 13)
  · obtain ⟨k, hk, rfl⟩ := iT_nI (by omega) e
    rw [b2_t e] at g84
    have n0 : ¬ nI k < 0 := nI_pos (by omega)
    have n1 : ¬ a 13 ≤ k := by omega
    refine view (r := .int (nI (a (48 + k)))) hG hC hM ?_ ?_
    · simp (disch := first | omega | (show List.length _ ≤ 4; exact Nat.le_of_ble_eq_true rfl) | assumption | exact nbo_0 | exact nbo_1 | exact b2_b) only [FE60, s60_0, s60_1, s60_4, s60_5, s60_6, s60_9, s60_12, s60_15, s60_16, s60_19, s60_22, s60_23, s60_24, s60_27, s60_28, ↓reduceIte, psh_some, psh_none, cln_i, cln_r, cln_n, cln_l, cln_d, cln_f, Option.bind_some, Option.bind_none, if_true, if_false, nI_add, pk_mul, nbo_0, nbo_1, nI_leI, nI_ltI, nI_eq, Nat.reduceAdd, Nat.reduceMul, Nat.add_zero, Nat.mul_zero, n0, n1, gd_0, gs_10 q13, gs_4 q13 hRS, as_11 q13, hI, vI_at]
    · simp (disch := first | omega | (show List.length _ ≤ 4; exact Nat.le_of_ble_eq_true rfl) | assumption | exact nbo_0 | exact nbo_1 | exact b2_b) only [FE124, s124_0, s124_1, s124_2, s124_3, s124_6, s124_8, s124_9, s124_10, s124_11, s124_14, s124_17, s124_18, s124_21, s124_23, s124_24, s124_25, s124_26, s124_29, s124_30, ↓reduceIte, psh_some, psh_none, cln_i, cln_r, cln_n, cln_l, cln_d, cln_f, Option.bind_some, Option.bind_none, if_true, if_false, nI_add, pk_mul, nbo_0, nbo_1, nI_leI, nI_ltI, nI_eq, Nat.reduceAdd, Nat.reduceMul, Nat.add_zero, Nat.mul_zero, g84, z0, z1, gm_0 hRM, am_n hv, hJ, vI_at]
  · rw [b2_f e] at g84
    refine view (r := .int (-1)) hG hC hM ?_ ?_
    · by_cases e3 : x < 0
      · simp (disch := first | omega | (show List.length _ ≤ 4; exact Nat.le_of_ble_eq_true rfl) | assumption | exact nbo_0 | exact nbo_1 | exact b2_b) only [FE60, s60_0, s60_1, s60_4, s60_5, s60_6, s60_9, s60_12, s60_15, s60_16, s60_19, s60_22, s60_23, s60_24, s60_27, s60_28, ↓reduceIte, psh_some, psh_none, cln_i, cln_r, cln_n, cln_l, cln_d, cln_f, Option.bind_some, Option.bind_none, if_true, if_false, nI_add, pk_mul, nbo_0, nbo_1, nI_leI, nI_ltI, nI_eq, Nat.reduceAdd, Nat.reduceMul, Nat.add_zero, Nat.mul_zero, e3]
      · have e4 : nI (a 13) ≤ x := by
          by_cases e5 : nI (a 13) ≤ x
          · exact e5
          · exact absurd ⟨e3, e5⟩ e
        simp (disch := first | omega | (show List.length _ ≤ 4; exact Nat.le_of_ble_eq_true rfl) | assumption | exact nbo_0 | exact nbo_1 | exact b2_b) only [FE60, s60_0, s60_1, s60_4, s60_5, s60_6, s60_9, s60_12, s60_15, s60_16, s60_19, s60_22, s60_23, s60_24, s60_27, s60_28, ↓reduceIte, psh_some, psh_none, cln_i, cln_r, cln_n, cln_l, cln_d, cln_f, Option.bind_some, Option.bind_none, if_true, if_false, nI_add, pk_mul, nbo_0, nbo_1, nI_leI, nI_ltI, nI_eq, Nat.reduceAdd, Nat.reduceMul, Nat.add_zero, Nat.mul_zero, e3, e4, gd_0, gs_10 q13, hI, vI_at]
    · simp (disch := first | omega | (show List.length _ ≤ 4; exact Nat.le_of_ble_eq_true rfl) | assumption | exact nbo_0 | exact nbo_1 | exact b2_b) only [FE124, s124_0, s124_1, s124_2, s124_3, s124_6, s124_8, s124_9, s124_10, s124_11, s124_14, s124_17, s124_18, s124_21, s124_23, s124_24, s124_25, s124_26, s124_29, s124_30, ↓reduceIte, psh_some, psh_none, cln_i, cln_r, cln_n, cln_l, cln_d, cln_f, Option.bind_some, Option.bind_none, if_true, if_false, nI_add, pk_mul, nbo_0, nbo_1, nI_leI, nI_ltI, nI_eq, Nat.reduceAdd, Nat.reduceMul, Nat.add_zero, Nat.mul_zero, g84, z0, z1, gm_0 hRM, am_n hv, hJ, vI_at]
end VY
