/-! ===== views ===== -/
section VW
variable {I : Nat → Nat → Int32} {R : Nat → Nat → Option Nat} {nw bf u n N : Nat} {h hd q : Nat → Nat} {p sl : Nat → Nat → Nat} {a : Nat → Nat}
theorem view {K1 K2 : Nat} {as1 as2 : List Value} {r : Value} (hG : GL N a u p sl hd n q) (hC : CL I nw bf h a u p sl hd n q) (hM : ML I a u p sl hd n q) (h1 : FF K1 as1 (210, I, QR R nw bf h) = some (some r, 210, I, QR R nw bf h)) (h2 : FF K2 as2 (210, I, QR R nw bf h) = some (some r, 210, I, QR R nw bf h)) : PR R I (QR R nw bf h) N K1 as1 K2 as2 :=
  ⟨r, I, QR R nw bf h, I, h1, h2, ⟨nw, bf, h, a, u, p, sl, hd, n, q, rfl, hG, hC, hM⟩, rfl, rfl, rfl, rfl⟩
theorem pr_level (hB : BR R) (hG : GL N a u p sl hd n q) (hC : CL I nw bf h a u p sl hd n q) (hM : ML I a u p sl hd n q) (x y : Int32) : PR R I (QR R nw bf h) N 58 [.ref 208, .int x, .int y] 121 [.ref 224, .int x, .int y] := by
  have ho := od
  have ho3 := om
  have hRM : RM (QR R nw bf h) := QR_RM hB.2.2.2.2
  have hRS : RS (QR R nw bf h) := QR_RS hB.2.2.2.1
  have hv : (225 : Nat) = 225 ∨ (225 : Nat) = 226 := Or.inl rfl
  have hW := hG.1.1
  have hT := hW.tp
  have q1 := hC.1.1
  have hI := hC.2.1
  have hJ := hM.1.1
  have ho2 := os (b := nw) (by omega)
  have g18 := f18t (I := I) (R := QR R nw bf h) (b := nw) (a := a) (x := y) (by omega) hI
  have g99 := f99 (I := I) (R := QR R nw bf h) (x := y) hRM hJ hW
  by_cases e : iT x 6
  · by_cases e2 : iT y (a 1)
    · obtain ⟨w, hw, rfl⟩ := iT_nI (by decide) e
      obtain ⟨t, ht, rfl⟩ := iT_nI (by omega) e2
      have g23 := f23 (I := I) (R := QR R nw bf h) (b := nw) (a := a) (w := w) (t := t) (by omega) hRS hI hW hw (by omega)
      rw [b2_t e2] at g18 g99
      refine view (r := .int (nI (a (58 + 10 * w + t)))) hG hC hM ?_ ?_
      · simp (disch := first | omega | (show List.length _ ≤ 4; exact Nat.le_of_ble_eq_true rfl) | assumption | exact nbo_0 | exact nbo_1 | exact b2_b) only [FE58, s58_0, s58_1, s58_4, s58_7, s58_8, s58_11, s58_12, s58_15, s58_18, s58_19, s58_22, s58_23, s58_24, s58_27, s58_30, s58_31, ↓reduceIte, psh_some, psh_none, cln_i, cln_r, cln_n, cln_l, cln_d, cln_f, Option.bind_some, Option.bind_none, if_true, if_false, nI_add, pk_mul, nbo_0, nbo_1, nI_leI, nI_ltI, nI_eq, Nat.reduceAdd, Nat.reduceMul, Nat.add_zero, Nat.mul_zero, f49t, b2_t e, z0, z1, gd_0, g18, g23]
      · simp (disch := first | omega | (show List.length _ ≤ 4; exact Nat.le_of_ble_eq_true rfl) | assumption | exact nbo_0 | exact nbo_1 | exact b2_b) only [FE121, s121_0, s121_1, s121_4, s121_7, s121_8, s121_9, s121_12, s121_15, s121_16, s121_19, s121_20, s121_21, s121_24, s121_25, s121_28, s121_29, ↓reduceIte, psh_some, psh_none, cln_i, cln_r, cln_n, cln_l, cln_d, cln_f, Option.bind_some, Option.bind_none, if_true, if_false, nI_add, pk_mul, nbo_0, nbo_1, nI_leI, nI_ltI, nI_eq, Nat.reduceAdd, Nat.reduceMul, Nat.add_zero, Nat.mul_zero, f91, b2_t e, z0, z1, gm_0 hRM, g99, f107, am_n hv, hJ, vI_at]
    · rw [b2_f e2] at g18 g99
      refine view (r := .int (-1)) hG hC hM ?_ ?_
      · simp (disch := first | omega | (show List.length _ ≤ 4; exact Nat.le_of_ble_eq_true rfl) | assumption | exact nbo_0 | exact nbo_1 | exact b2_b) only [FE58, s58_0, s58_1, s58_4, s58_7, s58_8, s58_11, s58_12, s58_15, s58_18, s58_19, s58_22, s58_23, s58_24, s58_27, s58_30, s58_31, ↓reduceIte, psh_some, psh_none, cln_i, cln_r, cln_n, cln_l, cln_d, cln_f, Option.bind_some, Option.bind_none, if_true, if_false, nI_add, pk_mul, nbo_0, nbo_1, nI_leI, nI_ltI, nI_eq, Nat.reduceAdd, Nat.reduceMul, Nat.add_zero, Nat.mul_zero, f49t, b2_t e, z0, z1, gd_0, g18]
      · simp (disch := first | omega | (show List.length _ ≤ 4; exact Nat.le_of_ble_eq_true rfl) | assumption | exact nbo_0 | exact nbo_1 | exact b2_b) only [FE121, s121_0, s121_1, s121_4, s121_7, s121_8, s121_9, s121_12, s121_15, s121_16, s121_19, s121_20, s121_21, s121_24, s121_25, s121_28, s121_29, ↓reduceIte, psh_some, psh_none, cln_i, cln_r, cln_n, cln_l, cln_d, cln_f, Option.bind_some, Option.bind_none, if_true, if_false, nI_add, pk_mul, nbo_0, nbo_1, nI_leI, nI_ltI, nI_eq, Nat.reduceAdd, Nat.reduceMul, Nat.add_zero, Nat.mul_zero, f91, b2_t e, z0, z1, g99]
  · refine view (r := .int (-1)) hG hC hM ?_ ?_
    · simp (disch := first | omega | (show List.length _ ≤ 4; exact Nat.le_of_ble_eq_true rfl) | assumption | exact nbo_0 | exact nbo_1 | exact b2_b) only [FE58, s58_0, s58_1, s58_4, s58_7, s58_8, s58_11, s58_12, s58_15, s58_18, s58_19, s58_22, s58_23, s58_24, s58_27, s58_30, s58_31, ↓reduceIte, psh_some, psh_none, cln_i, cln_r, cln_n, cln_l, cln_d, cln_f, Option.bind_some, Option.bind_none, if_true, if_false, nI_add, pk_mul, nbo_0, nbo_1, nI_leI, nI_ltI, nI_eq, Nat.reduceAdd, Nat.reduceMul, Nat.add_zero, Nat.mul_zero, f49t, b2_f e, z0, z1]
    · simp (disch := first | omega | (show List.length _ ≤ 4; exact Nat.le_of_ble_eq_true rfl) | assumption | exact nbo_0 | exact nbo_1 | exact b2_b) only [FE121, s121_0, s121_1, s121_4, s121_7, s121_8, s121_9, s121_12, s121_15, s121_16, s121_19, s121_20, s121_21, s121_24, s121_25, s121_28, s121_29, ↓reduceIte, psh_some, psh_none, cln_i, cln_r, cln_n, cln_l, cln_d, cln_f, Option.bind_some, Option.bind_none, if_true, if_false, nI_add, pk_mul, nbo_0, nbo_1, nI_leI, nI_ltI, nI_eq, Nat.reduceAdd, Nat.reduceMul, Nat.add_zero, Nat.mul_zero, f91, b2_f e, z0, z1]
end VW
