/-! ===== inOrder ===== -/
/-- the open topics in their order, as long as they are known -/
def ord (a : Nat → Nat) : Nat → Nat → Nat → Nat
  | 0, _, c => c
  | d + 1, i, c => if a (38 + i) = 1 then (if howN a i = 0 then ord a d (i + 1) (c + 1) else c) else ord a d (i + 1) c
section OR
variable {I : Nat → Nat → Int32} {R : Nat → Nat → Option Nat} {nw bf : Nat} {h : Nat → Nat} {a : Nat → Nat}
theorem p63 (hn : nw < 8) (hI : I nw = vI a) (hW : WO a) (hRS : RS R) (h0 : a 0 < 2 ^ 30) : ∀ d i c, i + d = a 1 → EE 63 4 [some (.ref 208), some (.int (nI c)), some (.int (nI i))] [] (202, I, QR R nw bf h) = some (some (.int (nI (ord a d i c))), 202, I, QR R nw bf h) := by
  have ho := od
  have ho2 := os (b := nw) (by omega)
  have q13 : nw < 13 := by omega
  have hT := hW.tp
  have hRS' : RS (QR R nw bf h) := QR_RS hRS
  intro d
  induction d with
  | zero =>
    intro i c hi
    have e : a 1 ≤ i := by omega
    rw [s63_4]
    simp (disch := first | omega | (show List.length _ ≤ 4; exact Nat.le_of_ble_eq_true rfl) | assumption | exact nbo_0 | exact nbo_1 | exact b2_b) only [s63_0, s63_1, s63_2, s63_3, s63_5, s63_6, s63_9, s63_12, s63_15, s63_16, s63_19, s63_20, s63_23, s63_26, s63_27, s63_30, s63_31, s63_34, s63_37, s63_38, s63_39, s63_42, s63_45, s63_48, s63_49, ↓reduceIte, psh_some, psh_none, cln_i, cln_r, cln_n, cln_l, cln_d, cln_f, Option.bind_some, Option.bind_none, if_true, if_false, nI_add, pk_mul, nbo_0, nbo_1, nI_leI, nI_ltI, nI_eq, Nat.reduceAdd, Nat.reduceMul, Nat.add_zero, Nat.mul_zero, gd_0, gs_8 q13, hI, vI_at, e]
    rfl
  | succ d ih =>
    intro i c hi
    have e : ¬ a 1 ≤ i := by omega
    have g19 := f19 (I := I) (R := QR R nw bf h) (b := nw) (a := a) (t := i) q13 hI hW (by omega)
    have g37 := f37 (I := I) (R := QR R nw bf h) (b := nw) (a := a) (t := i) q13 hRS' hI hW h0 (by omega)
    have hl := howN_lt (a := a) (t := i)
    unfold ord
    rw [s63_4]
    by_cases e1 : a (38 + i) = 1
    · rw [if_pos e1]
      by_cases e2 : howN a i = 0
      · rw [if_pos e2, ← ih (i + 1) (c + 1) (by omega)]
        rw [e2] at g37
        simp (disch := first | omega | (show List.length _ ≤ 4; exact Nat.le_of_ble_eq_true rfl) | assumption | exact nbo_0 | exact nbo_1 | exact b2_b) only [s63_0, s63_1, s63_2, s63_3, s63_5, s63_6, s63_9, s63_12, s63_15, s63_16, s63_19, s63_20, s63_23, s63_26, s63_27, s63_30, s63_31, s63_34, s63_37, s63_38, s63_39, s63_42, s63_45, s63_48, s63_49, ↓reduceIte, psh_some, psh_none, cln_i, cln_r, cln_n, cln_l, cln_d, cln_f, Option.bind_some, Option.bind_none, if_true, if_false, nI_add, pk_mul, nbo_0, nbo_1, nI_leI, nI_ltI, nI_eq, Nat.reduceAdd, Nat.reduceMul, Nat.add_zero, Nat.mul_zero, gd_0, gs_8 q13, hI, vI_at, e, g19, g37, b2_if, e1, z0]
      · rw [if_neg e2]
        have e3 : (nI (howN a i) = (0 : Int32)) = False := eq_false (nI_ne0 (by omega) (by omega))
        simp (disch := first | omega | (show List.length _ ≤ 4; exact Nat.le_of_ble_eq_true rfl) | assumption | exact nbo_0 | exact nbo_1 | exact b2_b) only [s63_0, s63_1, s63_2, s63_3, s63_5, s63_6, s63_9, s63_12, s63_15, s63_16, s63_19, s63_20, s63_23, s63_26, s63_27, s63_30, s63_31, s63_34, s63_37, s63_38, s63_39, s63_42, s63_45, s63_48, s63_49, ↓reduceIte, psh_some, psh_none, cln_i, cln_r, cln_n, cln_l, cln_d, cln_f, Option.bind_some, Option.bind_none, if_true, if_false, nI_add, pk_mul, nbo_0, nbo_1, nI_leI, nI_ltI, nI_eq, Nat.reduceAdd, Nat.reduceMul, Nat.add_zero, Nat.mul_zero, gd_0, gs_8 q13, hI, vI_at, e, g19, g37, b2_if, e1, e3]
    · rw [if_neg e1, ← ih (i + 1) c (by omega)]
      simp (disch := first | omega | (show List.length _ ≤ 4; exact Nat.le_of_ble_eq_true rfl) | assumption | exact nbo_0 | exact nbo_1 | exact b2_b) only [s63_0, s63_1, s63_2, s63_3, s63_5, s63_6, s63_9, s63_12, s63_15, s63_16, s63_19, s63_20, s63_23, s63_26, s63_27, s63_30, s63_31, s63_34, s63_37, s63_38, s63_39, s63_42, s63_45, s63_48, s63_49, ↓reduceIte, psh_some, psh_none, cln_i, cln_r, cln_n, cln_l, cln_d, cln_f, Option.bind_some, Option.bind_none, if_true, if_false, nI_add, pk_mul, nbo_0, nbo_1, nI_leI, nI_ltI, nI_eq, Nat.reduceAdd, Nat.reduceMul, Nat.add_zero, Nat.mul_zero, gd_0, gs_8 q13, hI, vI_at, e, g19, b2_if, e1]
end OR
