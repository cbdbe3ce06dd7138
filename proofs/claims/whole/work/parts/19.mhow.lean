/-! ===== the model's known, away, lost ===== -/
section M5
variable {I : Nat → Nat → Int32} {R : Nat → Nat → Option Nat} {v : Nat} {a : Nat → Nat}
theorem f123c {t : Nat} (hv : v = 225 ∨ v = 226) (hI : I v = vI a) (ht : t < 10) (e : a (38 + t) = 0) : FF 123 [.ref v, .int (nI t)] (210, I, R) = some (some (.int (-6)), 210, I, R) := by
  have e9 : (nI 0 = (0 : Int32)) = True := eq_true (by decide)
  simp (disch := first | omega | (show List.length _ ≤ 4; exact Nat.le_of_ble_eq_true rfl) | assumption | exact nbo_0 | exact nbo_1 | exact b2_b) only [FE123, s123_0, s123_1, s123_3, s123_4, s123_5, s123_6, s123_9, s123_11, s123_12, s123_13, s123_14, s123_15, s123_17, s123_19, s123_22, s123_23, s123_26, s123_27, s123_28, s123_29, s123_32, s123_35, s123_36, s123_39, s123_40, s123_41, s123_44, s123_47, s123_48, s123_49, s123_50, s123_51, s123_52, s123_55, s123_56, s123_59, s123_62, s123_63, s123_66, s123_67, s123_70, s123_71, s123_74, s123_75, ↓reduceIte, psh_some, psh_none, cln_i, cln_r, cln_n, cln_l, cln_d, cln_f, Option.bind_some, Option.bind_none, if_true, if_false, nI_add, pk_mul, nbo_0, nbo_1, nI_leI, nI_ltI, nI_eq, Nat.reduceAdd, Nat.reduceMul, Nat.add_zero, Nat.mul_zero, am_n hv, hI, vI_at, e, e9]
theorem f123 {t : Nat} (hv : v = 225 ∨ v = 226) (hI : I v = vI a) (hW : WO a) (h0 : a 0 < 2 ^ 30) (ht : t < 10) (e : a (38 + t) = 1) : FF 123 [.ref v, .int (nI t)] (210, I, R) = some (some (.int (nI (howN a t))), 210, I, R) := by
  have e9 : (nI 0 = (0 : Int32)) = True := eq_true (by decide)
  have e8 : (nI 1 = (0 : Int32)) = False := eq_false (by decide)
  have hf : frm a < 6 := hW.ro _ (Nat.mod_lt _ (by decide))
  have main := fd_loop (E := fun i g => EE 123 16 [some (.ref v), some (.int (nI t)), some (.int (nI g)), some (.int (nI i))] [] (210, I, R)) (f := gF a t) (Inv := fun _ g => g ≤ 1) 6 (by
    intro i g hi hg
    have hn : ¬ 6 ≤ i := by omega
    have h18 := f118 (R := R) (w := i) (t := t) hv hI hW hi ht
    show EE 123 16 _ _ _ = EE 123 16 _ _ _ ∧ _
    rw [s123_16]
    rcases (show g = 0 ∨ g = 1 by omega) with rfl | rfl
    · unfold gF
      rw [if_pos rfl]
      by_cases e2 : a 2 ≤ a (58 + 10 * i + t)
      · rw [if_pos e2]
        refine ⟨?_, by decide⟩
        simp (disch := first | omega | (show List.length _ ≤ 4; exact Nat.le_of_ble_eq_true rfl) | assumption | exact nbo_0 | exact nbo_1 | exact b2_b) only [s123_0, s123_1, s123_3, s123_4, s123_5, s123_6, s123_9, s123_11, s123_12, s123_13, s123_14, s123_15, s123_17, s123_19, s123_22, s123_23, s123_26, s123_27, s123_28, s123_29, s123_32, s123_35, s123_36, s123_39, s123_40, s123_41, s123_44, s123_47, s123_48, s123_49, s123_50, s123_51, s123_52, s123_55, s123_56, s123_59, s123_62, s123_63, s123_66, s123_67, s123_70, s123_71, s123_74, s123_75, ↓reduceIte, psh_some, psh_none, cln_i, cln_r, cln_n, cln_l, cln_d, cln_f, Option.bind_some, Option.bind_none, if_true, if_false, nI_add, pk_mul, nbo_0, nbo_1, nI_leI, nI_ltI, nI_eq, Nat.reduceAdd, Nat.reduceMul, Nat.add_zero, Nat.mul_zero, h18, b2_if, hn, e2, e9]
      · rw [if_neg e2]
        refine ⟨?_, by decide⟩
        simp (disch := first | omega | (show List.length _ ≤ 4; exact Nat.le_of_ble_eq_true rfl) | assumption | exact nbo_0 | exact nbo_1 | exact b2_b) only [s123_0, s123_1, s123_3, s123_4, s123_5, s123_6, s123_9, s123_11, s123_12, s123_13, s123_14, s123_15, s123_17, s123_19, s123_22, s123_23, s123_26, s123_27, s123_28, s123_29, s123_32, s123_35, s123_36, s123_39, s123_40, s123_41, s123_44, s123_47, s123_48, s123_49, s123_50, s123_51, s123_52, s123_55, s123_56, s123_59, s123_62, s123_63, s123_66, s123_67, s123_70, s123_71, s123_74, s123_75, ↓reduceIte, psh_some, psh_none, cln_i, cln_r, cln_n, cln_l, cln_d, cln_f, Option.bind_some, Option.bind_none, if_true, if_false, nI_add, pk_mul, nbo_0, nbo_1, nI_leI, nI_ltI, nI_eq, Nat.reduceAdd, Nat.reduceMul, Nat.add_zero, Nat.mul_zero, h18, b2_if, hn, e2, e9]
    · show _ = EE 123 16 [some (.ref v), some (.int (nI t)), some (.int (nI 1)), some (.int (nI (i + 1)))] [] (210, I, R) ∧ 1 ≤ 1
      refine ⟨?_, by decide⟩
      simp (disch := first | omega | (show List.length _ ≤ 4; exact Nat.le_of_ble_eq_true rfl) | assumption | exact nbo_0 | exact nbo_1 | exact b2_b) only [s123_0, s123_1, s123_3, s123_4, s123_5, s123_6, s123_9, s123_11, s123_12, s123_13, s123_14, s123_15, s123_17, s123_19, s123_22, s123_23, s123_26, s123_27, s123_28, s123_29, s123_32, s123_35, s123_36, s123_39, s123_40, s123_41, s123_44, s123_47, s123_48, s123_49, s123_50, s123_51, s123_52, s123_55, s123_56, s123_59, s123_62, s123_63, s123_66, s123_67, s123_70, s123_71, s123_74, s123_75, ↓reduceIte, psh_some, psh_none, cln_i, cln_r, cln_n, cln_l, cln_d, cln_f, Option.bind_some, Option.bind_none, if_true, if_false, nI_add, pk_mul, nbo_0, nbo_1, nI_leI, nI_ltI, nI_eq, Nat.reduceAdd, Nat.reduceMul, Nat.add_zero, Nat.mul_zero, hn, e8]) 6 0 0 (by decide) (by decide)
  obtain ⟨m1, m2⟩ := main
  have hq : FF 123 [.ref v, .int (nI t)] (210, I, R) = EE 123 16 [some (.ref v), some (.int (nI t)), some (.int (nI 0)), some (.int (nI 0))] [] (210, I, R) := by
    simp (disch := first | omega | (show List.length _ ≤ 4; exact Nat.le_of_ble_eq_true rfl) | assumption | exact nbo_0 | exact nbo_1 | exact b2_b) only [FE123, s123_0, s123_1, s123_3, s123_4, s123_5, s123_6, s123_9, s123_11, s123_12, s123_13, s123_14, s123_15, s123_17, s123_19, s123_22, s123_23, s123_26, s123_27, s123_28, s123_29, s123_32, s123_35, s123_36, s123_39, s123_40, s123_41, s123_44, s123_47, s123_48, s123_49, s123_50, s123_51, s123_52, s123_55, s123_56, s123_59, s123_62, s123_63, s123_66, s123_67, s123_70, s123_71, s123_74, s123_75, ↓reduceIte, psh_some, psh_none, cln_i, cln_r, cln_n, cln_l, cln_d, cln_f, Option.bind_some, Option.bind_none, if_true, if_false, nI_add, pk_mul, nbo_0, nbo_1, nI_leI, nI_ltI, nI_eq, Nat.reduceAdd, Nat.reduceMul, Nat.add_zero, Nat.mul_zero, am_n hv, hI, vI_at, e, e8]
  rw [hq]
  refine m1.trans ?_
  show EE 123 16 [some (.ref v), some (.int (nI t)), some (.int (nI (fd (gF a t) 6 0 0))), some (.int (nI 6))] [] (210, I, R) = _
  have e6 : 6 ≤ 6 := Nat.le_refl _
  have g1 := f111 (R := R) (x := a 0) hv hI (by omega)
  rw [show a (14 + a 0 % 12) = frm a from rfl] at g1
  have h18 := f118 (R := R) (w := frm a) (t := t) hv hI hW hf ht
  unfold howN
  rw [s123_16]
  by_cases e2 : a 2 ≤ a (58 + 10 * frm a + t)
  · rw [if_pos e2]
    simp (disch := first | omega | (show List.length _ ≤ 4; exact Nat.le_of_ble_eq_true rfl) | assumption | exact nbo_0 | exact nbo_1 | exact b2_b) only [s123_0, s123_1, s123_3, s123_4, s123_5, s123_6, s123_9, s123_11, s123_12, s123_13, s123_14, s123_15, s123_17, s123_19, s123_22, s123_23, s123_26, s123_27, s123_28, s123_29, s123_32, s123_35, s123_36, s123_39, s123_40, s123_41, s123_44, s123_47, s123_48, s123_49, s123_50, s123_51, s123_52, s123_55, s123_56, s123_59, s123_62, s123_63, s123_66, s123_67, s123_70, s123_71, s123_74, s123_75, ↓reduceIte, psh_some, psh_none, cln_i, cln_r, cln_n, cln_l, cln_d, cln_f, Option.bind_some, Option.bind_none, if_true, if_false, nI_add, pk_mul, nbo_0, nbo_1, nI_leI, nI_ltI, nI_eq, Nat.reduceAdd, Nat.reduceMul, Nat.add_zero, Nat.mul_zero, e6, am_n hv, hI, vI_at, g1, h18, b2_if, e2]
  · rw [if_neg e2]
    rcases (show fd (gF a t) 6 0 0 = 0 ∨ fd (gF a t) 6 0 0 = 1 by have : fd (gF a t) 6 0 0 ≤ 1 := m2; omega) with e3 | e3
    · rw [if_pos e3, e3]
      simp (disch := first | omega | (show List.length _ ≤ 4; exact Nat.le_of_ble_eq_true rfl) | assumption | exact nbo_0 | exact nbo_1 | exact b2_b) only [s123_0, s123_1, s123_3, s123_4, s123_5, s123_6, s123_9, s123_11, s123_12, s123_13, s123_14, s123_15, s123_17, s123_19, s123_22, s123_23, s123_26, s123_27, s123_28, s123_29, s123_32, s123_35, s123_36, s123_39, s123_40, s123_41, s123_44, s123_47, s123_48, s123_49, s123_50, s123_51, s123_52, s123_55, s123_56, s123_59, s123_62, s123_63, s123_66, s123_67, s123_70, s123_71, s123_74, s123_75, ↓reduceIte, psh_some, psh_none, cln_i, cln_r, cln_n, cln_l, cln_d, cln_f, Option.bind_some, Option.bind_none, if_true, if_false, nI_add, pk_mul, nbo_0, nbo_1, nI_leI, nI_ltI, nI_eq, Nat.reduceAdd, Nat.reduceMul, Nat.add_zero, Nat.mul_zero, e6, am_n hv, hI, vI_at, g1, h18, b2_if, e2, e9]
    · rw [if_neg (by omega), e3]
      simp (disch := first | omega | (show List.length _ ≤ 4; exact Nat.le_of_ble_eq_true rfl) | assumption | exact nbo_0 | exact nbo_1 | exact b2_b) only [s123_0, s123_1, s123_3, s123_4, s123_5, s123_6, s123_9, s123_11, s123_12, s123_13, s123_14, s123_15, s123_17, s123_19, s123_22, s123_23, s123_26, s123_27, s123_28, s123_29, s123_32, s123_35, s123_36, s123_39, s123_40, s123_41, s123_44, s123_47, s123_48, s123_49, s123_50, s123_51, s123_52, s123_55, s123_56, s123_59, s123_62, s123_63, s123_66, s123_67, s123_70, s123_71, s123_74, s123_75, ↓reduceIte, psh_some, psh_none, cln_i, cln_r, cln_n, cln_l, cln_d, cln_f, Option.bind_some, Option.bind_none, if_true, if_false, nI_add, pk_mul, nbo_0, nbo_1, nI_leI, nI_ltI, nI_eq, Nat.reduceAdd, Nat.reduceMul, Nat.add_zero, Nat.mul_zero, e6, am_n hv, hI, vI_at, g1, h18, b2_if, e2, e8]
theorem f127 {h : Nat} (hv : v = 225 ∨ v = 226) (hI : I v = vI a) (hW : WO a) (h0 : a 0 < 2 ^ 30) (hh : h < 3) : FF 127 [.ref v, .int (nI h)] (210, I, R) = some (some (.int (ot a h)), 210, I, R) := by
  have hT := hW.tp
  have main := fd_loop (E := fun i (S : Int32) => EE 127 4 [some (.ref v), some (.int (nI h)), some (.int S), some (.int (nI i))] [] (210, I, R)) (f := otF a h) (Inv := fun _ _ => True) (a 1) (by
    intro i S hi _
    refine ⟨?_, trivial⟩
    have hn : ¬ a 1 ≤ i := by omega
    have hl := howN_lt (a := a) (t := i)
    have hop := hW.op i (by omega)
    have hz : S ||| nI 0 = S := by rw [show nI 0 = (0 : Int32) from by decide]; exact Int32.or_zero
    show EE 127 4 _ _ _ = EE 127 4 _ _ _
    rw [s127_4]
    unfold otF
    by_cases e : a (38 + i) = 1
    · have h23 := f123 (R := R) (t := i) hv hI hW h0 (by omega) e
      by_cases e2 : howN a i = h
      · rw [if_pos ⟨e, e2⟩]
        simp (disch := first | omega | (show List.length _ ≤ 4; exact Nat.le_of_ble_eq_true rfl) | assumption | exact nbo_0 | exact nbo_1 | exact b2_b) only [s127_0, s127_1, s127_2, s127_3, s127_5, s127_6, s127_7, s127_8, s127_11, s127_12, s127_13, s127_14, s127_17, s127_18, s127_21, s127_22, s127_23, s127_24, s127_27, s127_28, s127_29, s127_30, s127_33, s127_36, s127_37, ↓reduceIte, psh_some, psh_none, cln_i, cln_r, cln_n, cln_l, cln_d, cln_f, Option.bind_some, Option.bind_none, if_true, if_false, nI_add, pk_mul, nbo_0, nbo_1, nI_leI, nI_ltI, nI_eq, Nat.reduceAdd, Nat.reduceMul, Nat.add_zero, Nat.mul_zero, am_n hv, hI, vI_at, h23, hn, e2]
      · rw [if_neg (fun h => e2 h.2)]
        simp (disch := first | omega | (show List.length _ ≤ 4; exact Nat.le_of_ble_eq_true rfl) | assumption | exact nbo_0 | exact nbo_1 | exact b2_b) only [s127_0, s127_1, s127_2, s127_3, s127_5, s127_6, s127_7, s127_8, s127_11, s127_12, s127_13, s127_14, s127_17, s127_18, s127_21, s127_22, s127_23, s127_24, s127_27, s127_28, s127_29, s127_30, s127_33, s127_36, s127_37, ↓reduceIte, psh_some, psh_none, cln_i, cln_r, cln_n, cln_l, cln_d, cln_f, Option.bind_some, Option.bind_none, if_true, if_false, nI_add, pk_mul, nbo_0, nbo_1, nI_leI, nI_ltI, nI_eq, Nat.reduceAdd, Nat.reduceMul, Nat.add_zero, Nat.mul_zero, am_n hv, hI, vI_at, h23, hn, e2, hz]
    · have h23 := f123c (R := R) (t := i) hv hI (by omega) (by omega)
      have h6 : ¬ (-6 : Int32) = nI h := by
        rcases (show h = 0 ∨ h = 1 ∨ h = 2 by omega) with rfl | rfl | rfl <;> decide
      rw [if_neg (fun h => e h.1)]
      simp (disch := first | omega | (show List.length _ ≤ 4; exact Nat.le_of_ble_eq_true rfl) | assumption | exact nbo_0 | exact nbo_1 | exact b2_b) only [s127_0, s127_1, s127_2, s127_3, s127_5, s127_6, s127_7, s127_8, s127_11, s127_12, s127_13, s127_14, s127_17, s127_18, s127_21, s127_22, s127_23, s127_24, s127_27, s127_28, s127_29, s127_30, s127_33, s127_36, s127_37, ↓reduceIte, psh_some, psh_none, cln_i, cln_r, cln_n, cln_l, cln_d, cln_f, Option.bind_some, Option.bind_none, if_true, if_false, nI_add, pk_mul, nbo_0, nbo_1, nI_leI, nI_ltI, nI_eq, Nat.reduceAdd, Nat.reduceMul, Nat.add_zero, Nat.mul_zero, am_n hv, hI, vI_at, h23, hn, h6, hz]) (a 1) 0 (nI 0) (by omega) trivial
  obtain ⟨m1, _⟩ := main
  have hq : FF 127 [.ref v, .int (nI h)] (210, I, R) = EE 127 4 [some (.ref v), some (.int (nI h)), some (.int (nI 0)), some (.int (nI 0))] [] (210, I, R) := by
    simp (disch := first | omega | (show List.length _ ≤ 4; exact Nat.le_of_ble_eq_true rfl) | assumption | exact nbo_0 | exact nbo_1 | exact b2_b) only [FE127, s127_0, s127_1, s127_2, s127_3, ↓reduceIte, psh_some, psh_none, cln_i, cln_r, cln_n, cln_l, cln_d, cln_f, Option.bind_some, Option.bind_none, if_true, if_false, nI_add, pk_mul, nbo_0, nbo_1, nI_leI, nI_ltI, nI_eq, Nat.reduceAdd, Nat.reduceMul, Nat.add_zero, Nat.mul_zero]
  rw [hq]
  refine m1.trans ?_
  show EE 127 4 _ _ _ = _
  have e6 : a 1 ≤ a 1 := Nat.le_refl _
  rw [s127_4]
  simp (disch := first | omega | (show List.length _ ≤ 4; exact Nat.le_of_ble_eq_true rfl) | assumption | exact nbo_0 | exact nbo_1 | exact b2_b) only [s127_0, s127_1, s127_2, s127_3, s127_5, s127_6, s127_7, s127_8, s127_11, s127_12, s127_13, s127_14, s127_17, s127_18, s127_21, s127_22, s127_23, s127_24, s127_27, s127_28, s127_29, s127_30, s127_33, s127_36, s127_37, ↓reduceIte, psh_some, psh_none, cln_i, cln_r, cln_n, cln_l, cln_d, cln_f, Option.bind_some, Option.bind_none, if_true, if_false, nI_add, pk_mul, nbo_0, nbo_1, nI_leI, nI_ltI, nI_eq, Nat.reduceAdd, Nat.reduceMul, Nat.add_zero, Nat.mul_zero, am_n hv, hI, vI_at, e6]
  rfl
def opF (a : Nat → Nat) (i n : Nat) : Nat := n + a (38 + i)
theorem f126 (hR : RM R) (hI : I 225 = vI a) (hW : WO a) : FF 126 [.ref 224] (210, I, R) = some (some (.int (nI (bsum a))), 210, I, R) := by
  have hv : (225 : Nat) = 225 ∨ (225 : Nat) = 226 := Or.inl rfl
  have hT := hW.tp
  have main := fd_loop (E := fun i n => EE 126 4 [some (.ref 224), some (.int (nI n)), some (.int (nI i))] [] (210, I, R)) (f := opF a) (Inv := fun _ _ => True) (a 1) (by
    intro i n hi _
    refine ⟨?_, trivial⟩
    have hn : ¬ a 1 ≤ i := by omega
    show EE 126 4 _ _ _ = EE 126 4 _ _ _
    rw [s126_4]
    simp (disch := first | omega | (show List.length _ ≤ 4; exact Nat.le_of_ble_eq_true rfl) | assumption | exact nbo_0 | exact nbo_1 | exact b2_b) only [s126_0, s126_1, s126_2, s126_3, s126_5, s126_6, s126_9, s126_10, s126_11, s126_14, s126_15, s126_16, s126_19, s126_21, s126_22, s126_23, s126_24, s126_25, s126_26, s126_29, s126_32, s126_33, ↓reduceIte, psh_some, psh_none, cln_i, cln_r, cln_n, cln_l, cln_d, cln_f, Option.bind_some, Option.bind_none, if_true, if_false, nI_add, pk_mul, nbo_0, nbo_1, nI_leI, nI_ltI, nI_eq, Nat.reduceAdd, Nat.reduceMul, Nat.add_zero, Nat.mul_zero, gm_0 hR, am_n hv, hI, vI_at, hn, opF]) (a 1) 0 0 (by omega) trivial
  obtain ⟨m1, _⟩ := main
  have hq : FF 126 [.ref 224] (210, I, R) = EE 126 4 [some (.ref 224), some (.int (nI 0)), some (.int (nI 0))] [] (210, I, R) := by
    simp (disch := first | omega | (show List.length _ ≤ 4; exact Nat.le_of_ble_eq_true rfl) | assumption | exact nbo_0 | exact nbo_1 | exact b2_b) only [FE126, s126_0, s126_1, s126_2, s126_3, ↓reduceIte, psh_some, psh_none, cln_i, cln_r, cln_n, cln_l, cln_d, cln_f, Option.bind_some, Option.bind_none, if_true, if_false, nI_add, pk_mul, nbo_0, nbo_1, nI_leI, nI_ltI, nI_eq, Nat.reduceAdd, Nat.reduceMul, Nat.add_zero, Nat.mul_zero]
  rw [hq]
  refine m1.trans ?_
  show EE 126 4 [some (.ref 224), some (.int (nI (fd (opF a) (a 1) 0 0))), some (.int (nI (a 1)))] [] (210, I, R) = _
  have e6 : a 1 ≤ a 1 := Nat.le_refl _
  have es : fd (opF a) (a 1) 0 0 = bsum a := by
    have h10 : fd (opF a) 10 0 0 = bsum a := by
      show 0 + a 38 + a 39 + a 40 + a 41 + a 42 + a 43 + a 44 + a 45 + a 46 + a 47 = bsum a
      unfold bsum
      omega
    rw [← h10, show (10 : Nat) = a 1 + (10 - a 1) by omega, fd_app, Nat.zero_add]
    have key : ∀ d i n, a 1 ≤ i → i + d ≤ 10 → fd (opF a) d i n = n := by
      intro d
      induction d with
      | zero => intros; rfl
      | succ d ih =>
        intro i n h1 h2
        have e0 : opF a i n = n := by unfold opF; rw [hW.oz i (by omega) h1, Nat.add_zero]
        show fd (opF a) d (i + 1) (opF a i n) = n
        rw [e0]
        exact ih (i + 1) n (by omega) (by omega)
    exact (key _ _ _ (Nat.le_refl _) (by omega)).symm
  rw [s126_4, es]
  simp (disch := first | omega | (show List.length _ ≤ 4; exact Nat.le_of_ble_eq_true rfl) | assumption | exact nbo_0 | exact nbo_1 | exact b2_b) only [s126_0, s126_1, s126_2, s126_3, s126_5, s126_6, s126_9, s126_10, s126_11, s126_14, s126_15, s126_16, s126_19, s126_21, s126_22, s126_23, s126_24, s126_25, s126_26, s126_29, s126_32, s126_33, ↓reduceIte, psh_some, psh_none, cln_i, cln_r, cln_n, cln_l, cln_d, cln_f, Option.bind_some, Option.bind_none, if_true, if_false, nI_add, pk_mul, nbo_0, nbo_1, nI_leI, nI_ltI, nI_eq, Nat.reduceAdd, Nat.reduceMul, Nat.add_zero, Nat.mul_zero, gm_0 hR, am_n hv, hI, vI_at, e6]
theorem f112 {t : Nat} (hR : RM R) (hI : I 225 = vI a) (hW : WO a) (ht : t < 10) : FF 112 [.ref 224, .int (nI t)] (210, I, R) = some (some (.int (nI (bst a t))), 210, I, R) := by
  have hv : (225 : Nat) = 225 ∨ (225 : Nat) = 226 := Or.inl rfl
  have main := fd_loop (E := fun i g => EE 112 4 [some (.ref 224), some (.int (nI t)), some (.int (nI g)), some (.int (nI i))] [] (210, I, R)) (f := bsF a t) (Inv := fun _ g => g < 6) 6 (by
    intro i g hi hg
    have hn : ¬ 6 ≤ i := by omega
    have l1 := hW.lv i t hi ht
    have l2 := hW.lv g t hg ht
    show EE 112 4 _ _ _ = EE 112 4 _ _ _ ∧ _
    rw [s112_4]
    unfold bsF
    by_cases e : a (58 + 10 * g + t) < a (58 + 10 * i + t)
    · have e2 : ¬ a (58 + 10 * i + t) ≤ a (58 + 10 * g + t) := by omega
      rw [if_pos e]
      refine ⟨?_, hi⟩
      simp (disch := first | omega | (show List.length _ ≤ 4; exact Nat.le_of_ble_eq_true rfl) | assumption | exact nbo_0 | exact nbo_1 | exact b2_b) only [s112_0, s112_1, s112_2, s112_3, s112_5, s112_7, s112_10, s112_11, s112_14, s112_15, s112_16, s112_19, s112_20, s112_21, s112_24, s112_25, s112_26, s112_29, s112_30, s112_33, s112_34, s112_37, s112_38, s112_39, s112_42, s112_45, s112_46, ↓reduceIte, psh_some, psh_none, cln_i, cln_r, cln_n, cln_l, cln_d, cln_f, Option.bind_some, Option.bind_none, if_true, if_false, nI_add, pk_mul, nbo_0, nbo_1, nI_leI, nI_ltI, nI_eq, Nat.reduceAdd, Nat.reduceMul, Nat.add_zero, Nat.mul_zero, gm_0 hR, am_n hv, hI, vI_at, f107, hn, e2]
    · have e2 : a (58 + 10 * i + t) ≤ a (58 + 10 * g + t) := by omega
      rw [if_neg e]
      refine ⟨?_, hg⟩
      simp (disch := first | omega | (show List.length _ ≤ 4; exact Nat.le_of_ble_eq_true rfl) | assumption | exact nbo_0 | exact nbo_1 | exact b2_b) only [s112_0, s112_1, s112_2, s112_3, s112_5, s112_7, s112_10, s112_11, s112_14, s112_15, s112_16, s112_19, s112_20, s112_21, s112_24, s112_25, s112_26, s112_29, s112_30, s112_33, s112_34, s112_37, s112_38, s112_39, s112_42, s112_45, s112_46, ↓reduceIte, psh_some, psh_none, cln_i, cln_r, cln_n, cln_l, cln_d, cln_f, Option.bind_some, Option.bind_none, if_true, if_false, nI_add, pk_mul, nbo_0, nbo_1, nI_leI, nI_ltI, nI_eq, Nat.reduceAdd, Nat.reduceMul, Nat.add_zero, Nat.mul_zero, gm_0 hR, am_n hv, hI, vI_at, f107, hn, e2]) 5 1 0 (by decide) (by decide)
  obtain ⟨m1, _⟩ := main
  have hq : FF 112 [.ref 224, .int (nI t)] (210, I, R) = EE 112 4 [some (.ref 224), some (.int (nI t)), some (.int (nI 0)), some (.int (nI 1))] [] (210, I, R) := by
    simp (disch := first | omega | (show List.length _ ≤ 4; exact Nat.le_of_ble_eq_true rfl) | assumption | exact nbo_0 | exact nbo_1 | exact b2_b) only [FE112, s112_0, s112_1, s112_2, s112_3, ↓reduceIte, psh_some, psh_none, cln_i, cln_r, cln_n, cln_l, cln_d, cln_f, Option.bind_some, Option.bind_none, if_true, if_false, nI_add, pk_mul, nbo_0, nbo_1, nI_leI, nI_ltI, nI_eq, Nat.reduceAdd, Nat.reduceMul, Nat.add_zero, Nat.mul_zero]
  rw [hq]
  refine m1.trans ?_
  show EE 112 4 _ _ _ = _
  have e6 : 6 ≤ 6 := Nat.le_refl _
  rw [s112_4]
  simp (disch := first | omega | (show List.length _ ≤ 4; exact Nat.le_of_ble_eq_true rfl) | assumption | exact nbo_0 | exact nbo_1 | exact b2_b) only [s112_0, s112_1, s112_2, s112_3, s112_5, s112_7, s112_10, s112_11, s112_14, s112_15, s112_16, s112_19, s112_20, s112_21, s112_24, s112_25, s112_26, s112_29, s112_30, s112_33, s112_34, s112_37, s112_38, s112_39, s112_42, s112_45, s112_46, ↓reduceIte, psh_some, psh_none, cln_i, cln_r, cln_n, cln_l, cln_d, cln_f, Option.bind_some, Option.bind_none, if_true, if_false, nI_add, pk_mul, nbo_0, nbo_1, nI_leI, nI_ltI, nI_eq, Nat.reduceAdd, Nat.reduceMul, Nat.add_zero, Nat.mul_zero, e6]
  rfl
theorem p103 {t : Nat} (hR : RM R) (hI : I 225 = vI a) (hW : WO a) (ht : t < 2 ^ 31) : ∀ d k, k + d = a 13 → EE 103 2 [some (.ref 224), some (.int (nI t)), some (.int (nI k))] [] (210, I, R) = some (some (.int (oN (-6) (plc a t d k))), 210, I, R) := by
  have hv : (225 : Nat) = 225 ∨ (225 : Nat) = 226 := Or.inl rfl
  have hL := hW.li
  have hT := hW.tp
  intro d
  induction d with
  | zero =>
    intro k h
    have hn : a 13 ≤ k := by omega
    rw [s103_2]
    simp (disch := first | omega | (show List.length _ ≤ 4; exact Nat.le_of_ble_eq_true rfl) | assumption | exact nbo_0 | exact nbo_1 | exact b2_b) only [s103_0, s103_1, s103_3, s103_4, s103_7, s103_9, s103_10, s103_13, s103_14, s103_17, s103_19, s103_20, s103_21, s103_22, s103_23, s103_26, s103_27, s103_28, s103_31, s103_34, s103_36, ↓reduceIte, psh_some, psh_none, cln_i, cln_r, cln_n, cln_l, cln_d, cln_f, Option.bind_some, Option.bind_none, if_true, if_false, nI_add, pk_mul, nbo_0, nbo_1, nI_leI, nI_ltI, nI_eq, Nat.reduceAdd, Nat.reduceMul, Nat.add_zero, Nat.mul_zero, gm_0 hR, am_n hv, hI, vI_at, hn]
    rfl
  | succ d ih =>
    intro k h
    have hn : ¬ a 13 ≤ k := by omega
    have hx := hW.le k (by omega)
    unfold plc
    rw [s103_2]
    by_cases e : a (48 + k) = t
    · rw [if_pos e]
      simp (disch := first | omega | (show List.length _ ≤ 4; exact Nat.le_of_ble_eq_true rfl) | assumption | exact nbo_0 | exact nbo_1 | exact b2_b) only [s103_0, s103_1, s103_3, s103_4, s103_7, s103_9, s103_10, s103_13, s103_14, s103_17, s103_19, s103_20, s103_21, s103_22, s103_23, s103_26, s103_27, s103_28, s103_31, s103_34, s103_36, ↓reduceIte, psh_some, psh_none, cln_i, cln_r, cln_n, cln_l, cln_d, cln_f, Option.bind_some, Option.bind_none, if_true, if_false, nI_add, pk_mul, nbo_0, nbo_1, nI_leI, nI_ltI, nI_eq, Nat.reduceAdd, Nat.reduceMul, Nat.add_zero, Nat.mul_zero, gm_0 hR, am_n hv, hI, vI_at, hn, e]
      rfl
    · rw [if_neg e, ← ih (k + 1) (by omega)]
      simp (disch := first | omega | (show List.length _ ≤ 4; exact Nat.le_of_ble_eq_true rfl) | assumption | exact nbo_0 | exact nbo_1 | exact b2_b) only [s103_0, s103_1, s103_3, s103_4, s103_7, s103_9, s103_10, s103_13, s103_14, s103_17, s103_19, s103_20, s103_21, s103_22, s103_23, s103_26, s103_27, s103_28, s103_31, s103_34, s103_36, ↓reduceIte, psh_some, psh_none, cln_i, cln_r, cln_n, cln_l, cln_d, cln_f, Option.bind_some, Option.bind_none, if_true, if_false, nI_add, pk_mul, nbo_0, nbo_1, nI_leI, nI_ltI, nI_eq, Nat.reduceAdd, Nat.reduceMul, Nat.add_zero, Nat.mul_zero, gm_0 hR, am_n hv, hI, vI_at, hn, e]
theorem f103 {t : Nat} (hR : RM R) (hI : I 225 = vI a) (hW : WO a) (ht : t < 2 ^ 31) : FF 103 [.ref 224, .int (nI t)] (210, I, R) = some (some (.int (oN (-6) (plc a t (a 13) 0))), 210, I, R) := by
  refine Eq.trans ?_ (p103 (R := R) hR hI hW ht (a 13) 0 (by omega))
  simp (disch := first | omega | (show List.length _ ≤ 4; exact Nat.le_of_ble_eq_true rfl) | assumption | exact nbo_0 | exact nbo_1 | exact b2_b) only [FE103, s103_0, s103_1, ↓reduceIte, psh_some, psh_none, cln_i, cln_r, cln_n, cln_l, cln_d, cln_f, Option.bind_some, Option.bind_none, if_true, if_false, nI_add, pk_mul, nbo_0, nbo_1, nI_leI, nI_ltI, nI_eq, Nat.reduceAdd, Nat.reduceMul, Nat.add_zero, Nat.mul_zero]
end M5
