/-! ===== inOrder ===== -/
/-- the open topics in their order, as long as they are known -/
def ord (a : Nat → Nat) : Nat → Nat → Nat → Nat
  | 0, _, c => c
  | d + 1, i, c => if a (38 + i) = 1 then (if howN a i = 0 then ord a d (i + 1) (c + 1) else c) else ord a d (i + 1) c
section OR
variable {I : Nat → Nat → Int32} {R : Nat → Nat → Option Nat} {nw bf u n N : Nat} {h hd q : Nat → Nat} {p sl : Nat → Nat → Nat} {a : Nat → Nat}
theorem p63 (hn : nw < 8) (hI : I nw = vI a) (hW : WO a) (hRS : RS R) (h0 : a 0 < 2 ^ 30) : ∀ d i c, i + d = a 1 → EE 63 4 [some (.ref 208), some (.int (nI c)), some (.int (nI i))] [] (210, I, QR R nw bf h) = some (some (.int (nI (ord a d i c))), 210, I, QR R nw bf h) := by
  have ho := od
  have ho2 := os (b := nw) (by omega)
  have q13 : nw < 13 := by omega
  have hT := hW.tp
  have hRS' : RS (QR R nw bf h) := QR_RS hRS
  intro d
  induction d with
  | zero =>
    intro i c hi
    have e : a 1 ≤ i := by omega
    rw [s63_4]
    simp (disch := first | omega | (show List.length _ ≤ 4; exact Nat.le_of_ble_eq_true rfl) | assumption | exact nbo_0 | exact nbo_1 | exact b2_b) only [s63_0, s63_1, s63_2, s63_3, s63_5, s63_6, s63_9, s63_12, s63_15, s63_16, s63_19, s63_20, s63_23, s63_26, s63_27, s63_30, s63_31, s63_34, s63_37, s63_38, s63_39, s63_42, s63_45, s63_48, s63_49, ↓reduceIte, psh_some, psh_none, cln_i, cln_r, cln_n, cln_l, cln_d, cln_f, Option.bind_some, Option.bind_none, if_true, if_false, nI_add, pk_mul, nbo_0, nbo_1, nI_leI, nI_ltI, nI_eq, Nat.reduceAdd, Nat.reduceMul, Nat.add_zero, Nat.mul_zero, gd_0, gs_8 q13, hI, vI_at, e]
    rfl
  | succ d ih =>
    intro i c hi
    have e : ¬ a 1 ≤ i := by omega
    have g19 := f19 (I := I) (R := QR R nw bf h) (b := nw) (a := a) (t := i) q13 hI hW (by omega)
    have g37 := f37 (I := I) (R := QR R nw bf h) (b := nw) (a := a) (t := i) q13 hRS' hI hW h0 (by omega)
    have hl := howN_lt (a := a) (t := i)
    unfold ord
    rw [s63_4]
    by_cases e1 : a (38 + i) = 1
    · rw [if_pos e1]
      by_cases e2 : howN a i = 0
      · rw [if_pos e2, ← ih (i + 1) (c + 1) (by omega)]
        rw [e2] at g37
        simp (disch := first | omega | (show List.length _ ≤ 4; exact Nat.le_of_ble_eq_true rfl) | assumption | exact nbo_0 | exact nbo_1 | exact b2_b) only [s63_0, s63_1, s63_2, s63_3, s63_5, s63_6, s63_9, s63_12, s63_15, s63_16, s63_19, s63_20, s63_23, s63_26, s63_27, s63_30, s63_31, s63_34, s63_37, s63_38, s63_39, s63_42, s63_45, s63_48, s63_49, ↓reduceIte, psh_some, psh_none, cln_i, cln_r, cln_n, cln_l, cln_d, cln_f, Option.bind_some, Option.bind_none, if_true, if_false, nI_add, pk_mul, nbo_0, nbo_1, nI_leI, nI_ltI, nI_eq, Nat.reduceAdd, Nat.reduceMul, Nat.add_zero, Nat.mul_zero, gd_0, gs_8 q13, hI, vI_at, e, g19, g37, b2_if, e1, z0]
      · rw [if_neg e2]
        have e3 : (nI (howN a i) = (0 : Int32)) = False := eq_false (nI_ne0 (by omega) (by omega))
        simp (disch := first | omega | (show List.length _ ≤ 4; exact Nat.le_of_ble_eq_true rfl) | assumption | exact nbo_0 | exact nbo_1 | exact b2_b) only [s63_0, s63_1, s63_2, s63_3, s63_5, s63_6, s63_9, s63_12, s63_15, s63_16, s63_19, s63_20, s63_23, s63_26, s63_27, s63_30, s63_31, s63_34, s63_37, s63_38, s63_39, s63_42, s63_45, s63_48, s63_49, ↓reduceIte, psh_some, psh_none, cln_i, cln_r, cln_n, cln_l, cln_d, cln_f, Option.bind_some, Option.bind_none, if_true, if_false, nI_add, pk_mul, nbo_0, nbo_1, nI_leI, nI_ltI, nI_eq, Nat.reduceAdd, Nat.reduceMul, Nat.add_zero, Nat.mul_zero, gd_0, gs_8 q13, hI, vI_at, e, g19, g37, b2_if, e1, e3]
    · rw [if_neg e1, ← ih (i + 1) c (by omega)]
      simp (disch := first | omega | (show List.length _ ≤ 4; exact Nat.le_of_ble_eq_true rfl) | assumption | exact nbo_0 | exact nbo_1 | exact b2_b) only [s63_0, s63_1, s63_2, s63_3, s63_5, s63_6, s63_9, s63_12, s63_15, s63_16, s63_19, s63_20, s63_23, s63_26, s63_27, s63_30, s63_31, s63_34, s63_37, s63_38, s63_39, s63_42, s63_45, s63_48, s63_49, ↓reduceIte, psh_some, psh_none, cln_i, cln_r, cln_n, cln_l, cln_d, cln_f, Option.bind_some, Option.bind_none, if_true, if_false, nI_add, pk_mul, nbo_0, nbo_1, nI_leI, nI_ltI, nI_eq, Nat.reduceAdd, Nat.reduceMul, Nat.add_zero, Nat.mul_zero, gd_0, gs_8 q13, hI, vI_at, e, g19, b2_if, e1]
theorem p129 (hI : I 225 = vI a) (hW : WO a) (hR : RM R) (h0 : a 0 < 2 ^ 30) : ∀ d i c l3, i + d = a 1 → EE 129 4 [some (.ref 224), some (.int (nI c)), some (.int (nI i)), l3] [] (210, I, R) = some (some (.int (nI (ord a d i c))), 210, I, R) := by
  have ho := om
  have hv : (225 : Nat) = 225 ∨ (225 : Nat) = 226 := Or.inl rfl
  have hT := hW.tp
  intro d
  induction d with
  | zero =>
    intro i c l3 hi
    have e : a 1 ≤ i := by omega
    rw [s129_4]
    simp (disch := first | omega | (show List.length _ ≤ 4; exact Nat.le_of_ble_eq_true rfl) | assumption | exact nbo_0 | exact nbo_1 | exact b2_b) only [s129_0, s129_1, s129_2, s129_3, s129_5, s129_6, s129_9, s129_10, s129_11, s129_14, s129_15, s129_18, s129_19, s129_22, s129_23, s129_24, s129_27, s129_28, s129_29, s129_30, s129_31, s129_34, s129_35, s129_38, s129_39, s129_40, s129_41, s129_44, s129_47, s129_48, ↓reduceIte, psh_some, psh_none, cln_i, cln_r, cln_n, cln_l, cln_d, cln_f, Option.bind_some, Option.bind_none, if_true, if_false, nI_add, pk_mul, nbo_0, nbo_1, nI_leI, nI_ltI, nI_eq, Nat.reduceAdd, Nat.reduceMul, Nat.add_zero, Nat.mul_zero, gm_0 hR, am_n hv, hI, vI_at, e]
    rfl
  | succ d ih =>
    intro i c l3 hi
    have e : ¬ a 1 ≤ i := by omega
    have hop := hW.op i (by omega)
    have hl := howN_lt (a := a) (t := i)
    unfold ord
    rw [s129_4]
    by_cases e1 : a (38 + i) = 1
    · have g23 := f123 (v := 225) (I := I) (R := R) (t := i) hv hI hW h0 (by omega) e1
      rw [if_pos e1]
      by_cases e2 : howN a i = 0
      · rw [if_pos e2]
        rw [e2] at g23
        refine Eq.trans ?_ (ih (i + 1) (c + 1) (some (.int (nI 0))) (by omega))
        have e4 : (nI 0 ≤ (0 : Int32)) = True := eq_true (by decide)
        simp (disch := first | omega | (show List.length _ ≤ 4; exact Nat.le_of_ble_eq_true rfl) | assumption | exact nbo_0 | exact nbo_1 | exact b2_b) only [s129_0, s129_1, s129_2, s129_3, s129_5, s129_6, s129_9, s129_10, s129_11, s129_14, s129_15, s129_18, s129_19, s129_22, s129_23, s129_24, s129_27, s129_28, s129_29, s129_30, s129_31, s129_34, s129_35, s129_38, s129_39, s129_40, s129_41, s129_44, s129_47, s129_48, ↓reduceIte, psh_some, psh_none, cln_i, cln_r, cln_n, cln_l, cln_d, cln_f, Option.bind_some, Option.bind_none, if_true, if_false, nI_add, pk_mul, nbo_0, nbo_1, nI_leI, nI_ltI, nI_eq, Nat.reduceAdd, Nat.reduceMul, Nat.add_zero, Nat.mul_zero, gm_0 hR, am_n hv, hI, vI_at, e, g23, z0, e4]
      · rw [if_neg e2]
        have e4 : (nI (howN a i) ≤ (0 : Int32)) = False := eq_false (nI_nle (by omega) (by omega))
        simp (disch := first | omega | (show List.length _ ≤ 4; exact Nat.le_of_ble_eq_true rfl) | assumption | exact nbo_0 | exact nbo_1 | exact b2_b) only [s129_0, s129_1, s129_2, s129_3, s129_5, s129_6, s129_9, s129_10, s129_11, s129_14, s129_15, s129_18, s129_19, s129_22, s129_23, s129_24, s129_27, s129_28, s129_29, s129_30, s129_31, s129_34, s129_35, s129_38, s129_39, s129_40, s129_41, s129_44, s129_47, s129_48, ↓reduceIte, psh_some, psh_none, cln_i, cln_r, cln_n, cln_l, cln_d, cln_f, Option.bind_some, Option.bind_none, if_true, if_false, nI_add, pk_mul, nbo_0, nbo_1, nI_leI, nI_ltI, nI_eq, Nat.reduceAdd, Nat.reduceMul, Nat.add_zero, Nat.mul_zero, gm_0 hR, am_n hv, hI, vI_at, e, g23, e4]
    · have g23 := f123c (v := 225) (I := I) (R := R) (t := i) hv hI (by omega) (by omega)
      rw [if_neg e1]
      refine Eq.trans ?_ (ih (i + 1) c (some (.int (-6))) (by omega))
      have e4 : ((-6 : Int32) ≤ 0) = True := eq_true (by decide)
      have e5 : ((-6 : Int32) = 0) = False := eq_false (by decide)
      simp (disch := first | omega | (show List.length _ ≤ 4; exact Nat.le_of_ble_eq_true rfl) | assumption | exact nbo_0 | exact nbo_1 | exact b2_b) only [s129_0, s129_1, s129_2, s129_3, s129_5, s129_6, s129_9, s129_10, s129_11, s129_14, s129_15, s129_18, s129_19, s129_22, s129_23, s129_24, s129_27, s129_28, s129_29, s129_30, s129_31, s129_34, s129_35, s129_38, s129_39, s129_40, s129_41, s129_44, s129_47, s129_48, ↓reduceIte, psh_some, psh_none, cln_i, cln_r, cln_n, cln_l, cln_d, cln_f, Option.bind_some, Option.bind_none, if_true, if_false, nI_add, pk_mul, nbo_0, nbo_1, nI_leI, nI_ltI, nI_eq, Nat.reduceAdd, Nat.reduceMul, Nat.add_zero, Nat.mul_zero, gm_0 hR, am_n hv, hI, vI_at, e, g23, e4, e5]
theorem pr_order (hB : BR R) (hG : GL N a u p sl hd n q) (hC : CL I nw bf h a u p sl hd n q) (hM : ML I a u p sl hd n q) (hN : N < 2 ^ 30) : PR R I (QR R nw bf h) N 63 [.ref 208] 129 [.ref 224] := by
  have h0 : a 0 < 2 ^ 30 := Nat.lt_of_le_of_lt hG.1.2.1 hN
  refine view (r := .int (nI (ord a (a 1) 0 0))) hG hC hM ?_ ?_
  · refine Eq.trans ?_ (p63 hC.1.1 hC.2.1 hG.1.1 hB.2.2.2.1 h0 (a 1) 0 0 (by omega))
    simp (disch := first | omega | (show List.length _ ≤ 4; exact Nat.le_of_ble_eq_true rfl) | assumption | exact nbo_0 | exact nbo_1 | exact b2_b) only [FE63, s63_0, s63_1, s63_2, s63_3, ↓reduceIte, psh_some, psh_none, cln_i, cln_r, cln_n, cln_l, cln_d, cln_f, Option.bind_some, Option.bind_none, if_true, if_false, nI_add, pk_mul, nbo_0, nbo_1, nI_leI, nI_ltI, nI_eq, Nat.reduceAdd, Nat.reduceMul, Nat.add_zero, Nat.mul_zero]
  · refine Eq.trans ?_ (p129 (R := QR R nw bf h) hM.1.1 hG.1.1 (QR_RM hB.2.2.2.2) h0 (a 1) 0 0 none (by omega))
    simp (disch := first | omega | (show List.length _ ≤ 4; exact Nat.le_of_ble_eq_true rfl) | assumption | exact nbo_0 | exact nbo_1 | exact b2_b) only [FE129, s129_0, s129_1, s129_2, s129_3, ↓reduceIte, psh_some, psh_none, cln_i, cln_r, cln_n, cln_l, cln_d, cln_f, Option.bind_some, Option.bind_none, if_true, if_false, nI_add, pk_mul, nbo_0, nbo_1, nI_leI, nI_ltI, nI_eq, Nat.reduceAdd, Nat.reduceMul, Nat.add_zero, Nat.mul_zero]
end OR
