/-! ===== ofTopic ===== -/
section OT
variable {I : Nat → Nat → Int32} {R : Nat → Nat → Option Nat} {nw bf u n N : Nat} {h hd q : Nat → Nat} {p sl : Nat → Nat → Nat} {a : Nat → Nat}
theorem pr_oft_e (hB : BR R) (hG : GL N a u p sl hd n q) (hC : CL I nw bf h a u p sl hd n q) (hM : ML I a u p sl hd n q) (x y : Int32) (e : ¬ iT x (a 1)) : PR R I (QR R nw bf h) N 59 [.ref 208, .int x, .int y] 122 [.ref 224, .int x, .int y] := by
  have ho := od
  have ho3 := om
  have q1 := hC.1.1
  have ho2 := os (b := nw) (by omega)
  have hRM : RM (QR R nw bf h) := QR_RM hB.2.2.2.2
  have g18 := f18t (I := I) (R := QR R nw bf h) (b := nw) (a := a) (x := x) (by omega) hC.2.1
  have g99 := f99 (I := I) (R := QR R nw bf h) (x := x) hRM hM.1.1 hG.1.1
  rw [b2_f e] at g18 g99
  refine view (r := .int (-1)) hG hC hM ?_ ?_
  · simp (disch := first | omega | (show List.length _ ≤ 4; exact Nat.le_of_ble_eq_true rfl) | assumption | exact nbo_0 | exact nbo_1 | exact b2_b) only [FE59, s59_0, s59_1, s59_4, s59_5, s59_8, s59_11, s59_12, ↓reduceIte, psh_some, psh_none, cln_i, cln_r, cln_n, cln_l, cln_d, cln_f, Option.bind_some, Option.bind_none, if_true, if_false, nI_add, pk_mul, nbo_0, nbo_1, nI_leI, nI_ltI, nI_eq, Nat.reduceAdd, Nat.reduceMul, Nat.add_zero, Nat.mul_zero, gd_0, g18, z0]
  · simp (disch := first | omega | (show List.length _ ≤ 4; exact Nat.le_of_ble_eq_true rfl) | assumption | exact nbo_0 | exact nbo_1 | exact b2_b) only [FE122, s122_0, s122_1, s122_2, s122_5, s122_8, s122_9, ↓reduceIte, psh_some, psh_none, cln_i, cln_r, cln_n, cln_l, cln_d, cln_f, Option.bind_some, Option.bind_none, if_true, if_false, nI_add, pk_mul, nbo_0, nbo_1, nI_leI, nI_ltI, nI_eq, Nat.reduceAdd, Nat.reduceMul, Nat.add_zero, Nat.mul_zero, g99, z0]
end OT
