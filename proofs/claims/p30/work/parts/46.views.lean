/-! ===== what the calls that change nothing answer ===== -/
section VW
variable {I : Nat → Nat → Int32} {R : Nat → Nat → Option Nat} {nw bf u N : Nat} {h : Nat → Nat} {p : Nat → Nat → Nat} {a : Nat → Nat}
theorem v_level (hB : BR R) (hC : CL I nw bf h a u p) (hW : WO a) {w t : Nat} (hw : w < 6) (ht : t < a 1) : FF 58 [.ref 208, .int (nI w), .int (nI t)] (202, I, QR R nw bf h) = some (some (.int (nI (a (58 + 10 * w + t)))), 202, I, QR R nw bf h) := by
  have ho := od
  have hRS : RS (QR R nw bf h) := QR_RS hB.2.2.2.1
  have hT := hW.tp
  have q1 := hC.1.1
  have hI := hC.2.1
  have ho2 := os (b := nw) (by omega)
  have g18 := f18t (I := I) (R := QR R nw bf h) (b := nw) (a := a) (x := nI t) (by omega) hI
  rw [b2_t (nI_iT ht (by omega))] at g18
  have g23 := f23 (I := I) (R := QR R nw bf h) (b := nw) (a := a) (w := w) (t := t) (by omega) hRS hI hW hw (by omega)
  have e := nI_iT hw (by decide)
  simp (disch := first | omega | (show List.length _ ≤ 4; exact Nat.le_of_ble_eq_true rfl) | assumption | exact nbo_0 | exact nbo_1 | exact b2_b) only [FE58, s58_0, s58_1, s58_4, s58_7, s58_8, s58_11, s58_12, s58_15, s58_18, s58_19, s58_22, s58_23, s58_24, s58_27, s58_30, s58_31, ↓reduceIte, psh_some, psh_none, cln_i, cln_r, cln_n, cln_l, cln_d, cln_f, Option.bind_some, Option.bind_none, if_true, if_false, nI_add, pk_mul, nbo_0, nbo_1, nI_leI, nI_ltI, nI_eq, Nat.reduceAdd, Nat.reduceMul, Nat.add_zero, Nat.mul_zero, f49t, b2_t e, z0, z1, gd_0, g18, g23]
theorem v_place0 (hB : BR R) (hC : CL I nw bf h a u p) {k : Nat} (hk : k < 12) : FF 62 [.ref 208, .int (nI k), .int (nI 0)] (202, I, QR R nw bf h) = some (some (.int (nI (a (14 + k)))), 202, I, QR R nw bf h) := by
  have ho := od
  have hRS : RS (QR R nw bf h) := QR_RS hB.2.2.2.1
  have q1 := hC.1.1
  have hI := hC.2.1
  have ho2 := os (b := nw) (by omega)
  have e := nI_iT hk (by decide)
  have n0 : ¬ nI 0 < 0 := nI_pos (by omega)
  simp (disch := first | omega | (show List.length _ ≤ 4; exact Nat.le_of_ble_eq_true rfl) | assumption | exact nbo_0 | exact nbo_1 | exact b2_b) only [FE62, s62_0, s62_1, s62_4, s62_7, s62_8, s62_11, s62_12, s62_13, s62_16, s62_18, s62_19, s62_20, s62_23, s62_24, s62_27, s62_30, s62_31, s62_32, s62_35, s62_36, s62_39, s62_42, s62_43, s62_44, ↓reduceIte, psh_some, psh_none, cln_i, cln_r, cln_n, cln_l, cln_d, cln_f, Option.bind_some, Option.bind_none, if_true, if_false, nI_add, pk_mul, nbo_0, nbo_1, nI_leI, nI_ltI, nI_eq, Nat.reduceAdd, Nat.reduceMul, Nat.add_zero, Nat.mul_zero, f50t, b2_t e, z0, z1, n0, gd_0, gs_1 (b := nw) (show nw < 13 by omega) hRS, as_2 (b := nw) (show nw < 13 by omega), hI, vI_at, show ((0 : Nat) ≤ 1) = True from eq_true (by decide)]
theorem v_place1 (hB : BR R) (hC : CL I nw bf h a u p) {k : Nat} (hk : k < 12) : FF 62 [.ref 208, .int (nI k), .int (nI 1)] (202, I, QR R nw bf h) = some (some (.int (nI (a (26 + k)))), 202, I, QR R nw bf h) := by
  have ho := od
  have hRS : RS (QR R nw bf h) := QR_RS hB.2.2.2.1
  have q1 := hC.1.1
  have hI := hC.2.1
  have ho2 := os (b := nw) (by omega)
  have e := nI_iT hk (by decide)
  have n0 : ¬ nI 1 < 0 := nI_pos (by omega)
  simp (disch := first | omega | (show List.length _ ≤ 4; exact Nat.le_of_ble_eq_true rfl) | assumption | exact nbo_0 | exact nbo_1 | exact b2_b) only [FE62, s62_0, s62_1, s62_4, s62_7, s62_8, s62_11, s62_12, s62_13, s62_16, s62_18, s62_19, s62_20, s62_23, s62_24, s62_27, s62_30, s62_31, s62_32, s62_35, s62_36, s62_39, s62_42, s62_43, s62_44, ↓reduceIte, psh_some, psh_none, cln_i, cln_r, cln_n, cln_l, cln_d, cln_f, Option.bind_some, Option.bind_none, if_true, if_false, nI_add, pk_mul, nbo_0, nbo_1, nI_leI, nI_ltI, nI_eq, Nat.reduceAdd, Nat.reduceMul, Nat.add_zero, Nat.mul_zero, f50t, b2_t e, z0, z1, n0, gd_0, gs_2 (b := nw) (show nw < 13 by omega) hRS, as_3 (b := nw) (show nw < 13 by omega), hI, vI_at, Nat.le_refl]
theorem v_list (hB : BR R) (hC : CL I nw bf h a u p) (hW : WO a) {k : Nat} (hk : k < a 13) : FF 60 [.ref 208, .int (nI k)] (202, I, QR R nw bf h) = some (some (.int (nI (a (48 + k)))), 202, I, QR R nw bf h) := by
  have ho := od
  have hRS : RS (QR R nw bf h) := QR_RS hB.2.2.2.1
  have hT := hW.tp
  have hL := hW.li
  have q1 := hC.1.1
  have q13 : nw < 13 := by omega
  have hI := hC.2.1
  have n0 : ¬ nI k < 0 := nI_pos (by omega)
  have n1 : ¬ a 13 ≤ k := by omega
  simp (disch := first | omega | (show List.length _ ≤ 4; exact Nat.le_of_ble_eq_true rfl) | assumption | exact nbo_0 | exact nbo_1 | exact b2_b) only [FE60, s60_0, s60_1, s60_4, s60_5, s60_6, s60_9, s60_12, s60_15, s60_16, s60_19, s60_22, s60_23, s60_24, s60_27, s60_28, ↓reduceIte, psh_some, psh_none, cln_i, cln_r, cln_n, cln_l, cln_d, cln_f, Option.bind_some, Option.bind_none, if_true, if_false, nI_add, pk_mul, nbo_0, nbo_1, nI_leI, nI_ltI, nI_eq, Nat.reduceAdd, Nat.reduceMul, Nat.add_zero, Nat.mul_zero, n0, n1, gd_0, gs_10 q13, gs_4 q13 hRS, as_11 q13, hI, vI_at]
theorem v_list_e (hC : CL I nw bf h a u p) (hW : WO a) : FF 60 [.ref 208, .int (nI (a 13))] (202, I, QR R nw bf h) = some (some (.int (-1)), 202, I, QR R nw bf h) := by
  have hL := hW.li
  have q1 := hC.1.1
  have q13 : nw < 13 := by omega
  have hI := hC.2.1
  have n0 : ¬ nI (a 13) < 0 := nI_pos (by omega)
  have n1 : a 13 ≤ a 13 := Nat.le_refl _
  simp (disch := first | omega | (show List.length _ ≤ 4; exact Nat.le_of_ble_eq_true rfl) | assumption | exact nbo_0 | exact nbo_1 | exact b2_b) only [FE60, s60_0, s60_1, s60_4, s60_5, s60_6, s60_9, s60_12, s60_15, s60_16, s60_19, s60_22, s60_23, s60_24, s60_27, s60_28, ↓reduceIte, psh_some, psh_none, cln_i, cln_r, cln_n, cln_l, cln_d, cln_f, Option.bind_some, Option.bind_none, if_true, if_false, nI_add, pk_mul, nbo_0, nbo_1, nI_leI, nI_ltI, nI_eq, Nat.reduceAdd, Nat.reduceMul, Nat.add_zero, Nat.mul_zero, n0, n1, gd_0, gs_10 q13, hI, vI_at]
theorem v_order (hB : BR R) (hC : CL I nw bf h a u p) (hW : WO a) (h0 : a 0 < 2 ^ 30) : FF 63 [.ref 208] (202, I, QR R nw bf h) = some (some (.int (nI (ord a (a 1) 0 0))), 202, I, QR R nw bf h) := by
  refine Eq.trans ?_ (p63 hC.1.1 hC.2.1 hW hB.2.2.2.1 h0 (a 1) 0 0 (by omega))
  simp (disch := first | omega | (show List.length _ ≤ 4; exact Nat.le_of_ble_eq_true rfl) | assumption | exact nbo_0 | exact nbo_1 | exact b2_b) only [FE63, s63_0, s63_1, s63_2, s63_3, ↓reduceIte, psh_some, psh_none, cln_i, cln_r, cln_n, cln_l, cln_d, cln_f, Option.bind_some, Option.bind_none, if_true, if_false, nI_add, pk_mul, nbo_0, nbo_1, nI_leI, nI_ltI, nI_eq, Nat.reduceAdd, Nat.reduceMul, Nat.add_zero, Nat.mul_zero]
theorem v_t0 (hB : BR R) (hC : CL I nw bf h a u p) (hW : WO a) {t : Nat} (ht : t < a 1) : FF 59 [.ref 208, .int (nI t), .int (nI 0)] (202, I, QR R nw bf h) = some (some (.int (nI (a (38 + t)))), 202, I, QR R nw bf h) := by
  have ho := od
  have q1 := hC.1.1
  have q13 : nw < 13 := by omega
  have ho2 := os (b := nw) (by omega)
  have hRS : RS (QR R nw bf h) := QR_RS hB.2.2.2.1
  have hI := hC.2.1
  have hT := hW.tp
  have g18 := f18t (I := I) (R := QR R nw bf h) (b := nw) (a := a) (x := nI t) (by omega) hI
  rw [b2_t (nI_iT ht (by omega))] at g18
  have hop := hW.op t (by omega)
  have g19 := f19 (I := I) (R := QR R nw bf h) (b := nw) (a := a) (t := t) q13 hI hW (by omega)
  rcases (show a (38 + t) = 0 ∨ a (38 + t) = 1 by omega) with e3 | e3
  · have e4 : ¬ a (38 + t) = 1 := by omega
    rw [b2_f e4] at g19
    rw [e3]
    simp (disch := first | omega | (show List.length _ ≤ 4; exact Nat.le_of_ble_eq_true rfl) | assumption | exact nbo_0 | exact nbo_1 | exact b2_b) only [FE59, s59_0, s59_1, s59_4, s59_5, s59_8, s59_11, s59_12, s59_13, s59_14_0, s59_14_1, s59_14_2, s59_14_3, s59_14_4, s59_14_5, s59_14_6, s59_14_d, s59_56, s59_57, s59_60, s59_61, s59_64, s59_67, s59_68, s59_71, s59_72, s59_73, s59_74, s59_77, s59_78, s59_81, s59_84, s59_85, s59_88, s59_89, s59_92, s59_95, s59_97, s59_98, s59_99, s59_102, s59_103, s59_106, s59_107, s59_108, s59_111, s59_112, s59_115, s59_116, s59_117, s59_120, s59_123, s59_124, s59_125, s59_126, s59_127, s59_130, s59_133, s59_134, s59_135, s59_136, s59_137, s59_140, s59_143, s59_144, s59_145, s59_146, s59_148, ↓reduceIte, psh_some, psh_none, cln_i, cln_r, cln_n, cln_l, cln_d, cln_f, Option.bind_some, Option.bind_none, if_true, if_false, nI_add, pk_mul, nbo_0, nbo_1, nI_leI, nI_ltI, nI_eq, Nat.reduceAdd, Nat.reduceMul, Nat.add_zero, Nat.mul_zero, gd_0, g18, g19, z0, z1]
  · rw [b2_t e3] at g19
    rw [e3]
    simp (disch := first | omega | (show List.length _ ≤ 4; exact Nat.le_of_ble_eq_true rfl) | assumption | exact nbo_0 | exact nbo_1 | exact b2_b) only [FE59, s59_0, s59_1, s59_4, s59_5, s59_8, s59_11, s59_12, s59_13, s59_14_0, s59_14_1, s59_14_2, s59_14_3, s59_14_4, s59_14_5, s59_14_6, s59_14_d, s59_56, s59_57, s59_60, s59_61, s59_64, s59_67, s59_68, s59_71, s59_72, s59_73, s59_74, s59_77, s59_78, s59_81, s59_84, s59_85, s59_88, s59_89, s59_92, s59_95, s59_97, s59_98, s59_99, s59_102, s59_103, s59_106, s59_107, s59_108, s59_111, s59_112, s59_115, s59_116, s59_117, s59_120, s59_123, s59_124, s59_125, s59_126, s59_127, s59_130, s59_133, s59_134, s59_135, s59_136, s59_137, s59_140, s59_143, s59_144, s59_145, s59_146, s59_148, ↓reduceIte, psh_some, psh_none, cln_i, cln_r, cln_n, cln_l, cln_d, cln_f, Option.bind_some, Option.bind_none, if_true, if_false, nI_add, pk_mul, nbo_0, nbo_1, nI_leI, nI_ltI, nI_eq, Nat.reduceAdd, Nat.reduceMul, Nat.add_zero, Nat.mul_zero, gd_0, g18, g19, z0, z1]
theorem v_t1 (hB : BR R) (hC : CL I nw bf h a u p) (hW : WO a) (h0 : a 0 < 2 ^ 30) {t : Nat} (ht : t < a 1) : FF 59 [.ref 208, .int (nI t), .int (nI 1)] (202, I, QR R nw bf h) = some (some (.int (if a (38 + t) = 1 then nI (howN a t) else -6)), 202, I, QR R nw bf h) := by
  have ho := od
  have q1 := hC.1.1
  have q13 : nw < 13 := by omega
  have ho2 := os (b := nw) (by omega)
  have hRS : RS (QR R nw bf h) := QR_RS hB.2.2.2.1
  have hI := hC.2.1
  have hT := hW.tp
  have g18 := f18t (I := I) (R := QR R nw bf h) (b := nw) (a := a) (x := nI t) (by omega) hI
  rw [b2_t (nI_iT ht (by omega))] at g18
  have hop := hW.op t (by omega)
  have g19 := f19 (I := I) (R := QR R nw bf h) (b := nw) (a := a) (t := t) q13 hI hW (by omega)
  have g37 := f37 (I := I) (R := QR R nw bf h) (b := nw) (a := a) (t := t) q13 hRS hI hW h0 (by omega)
  by_cases e3 : a (38 + t) = 1
  · rw [b2_t e3] at g19
    rw [if_pos e3]
    simp (disch := first | omega | (show List.length _ ≤ 4; exact Nat.le_of_ble_eq_true rfl) | assumption | exact nbo_0 | exact nbo_1 | exact b2_b) only [FE59, s59_0, s59_1, s59_4, s59_5, s59_8, s59_11, s59_12, s59_13, s59_14_0, s59_14_1, s59_14_2, s59_14_3, s59_14_4, s59_14_5, s59_14_6, s59_14_d, s59_56, s59_57, s59_60, s59_61, s59_64, s59_67, s59_68, s59_71, s59_72, s59_73, s59_74, s59_77, s59_78, s59_81, s59_84, s59_85, s59_88, s59_89, s59_92, s59_95, s59_97, s59_98, s59_99, s59_102, s59_103, s59_106, s59_107, s59_108, s59_111, s59_112, s59_115, s59_116, s59_117, s59_120, s59_123, s59_124, s59_125, s59_126, s59_127, s59_130, s59_133, s59_134, s59_135, s59_136, s59_137, s59_140, s59_143, s59_144, s59_145, s59_146, s59_148, ↓reduceIte, psh_some, psh_none, cln_i, cln_r, cln_n, cln_l, cln_d, cln_f, Option.bind_some, Option.bind_none, if_true, if_false, nI_add, pk_mul, nbo_0, nbo_1, nI_leI, nI_ltI, nI_eq, Nat.reduceAdd, Nat.reduceMul, Nat.add_zero, Nat.mul_zero, gd_0, g18, g19, g37, z0, z1]
  · rw [b2_f e3] at g19
    rw [if_neg e3]
    simp (disch := first | omega | (show List.length _ ≤ 4; exact Nat.le_of_ble_eq_true rfl) | assumption | exact nbo_0 | exact nbo_1 | exact b2_b) only [FE59, s59_0, s59_1, s59_4, s59_5, s59_8, s59_11, s59_12, s59_13, s59_14_0, s59_14_1, s59_14_2, s59_14_3, s59_14_4, s59_14_5, s59_14_6, s59_14_d, s59_56, s59_57, s59_60, s59_61, s59_64, s59_67, s59_68, s59_71, s59_72, s59_73, s59_74, s59_77, s59_78, s59_81, s59_84, s59_85, s59_88, s59_89, s59_92, s59_95, s59_97, s59_98, s59_99, s59_102, s59_103, s59_106, s59_107, s59_108, s59_111, s59_112, s59_115, s59_116, s59_117, s59_120, s59_123, s59_124, s59_125, s59_126, s59_127, s59_130, s59_133, s59_134, s59_135, s59_136, s59_137, s59_140, s59_143, s59_144, s59_145, s59_146, s59_148, ↓reduceIte, psh_some, psh_none, cln_i, cln_r, cln_n, cln_l, cln_d, cln_f, Option.bind_some, Option.bind_none, if_true, if_false, nI_add, pk_mul, nbo_0, nbo_1, nI_leI, nI_ltI, nI_eq, Nat.reduceAdd, Nat.reduceMul, Nat.add_zero, Nat.mul_zero, gd_0, g18, g19, z0, z1]
theorem v_t2 (hB : BR R) (hC : CL I nw bf h a u p) (hW : WO a) {t : Nat} (ht : t < a 1) : FF 59 [.ref 208, .int (nI t), .int (nI 2)] (202, I, QR R nw bf h) = some (some (.int (oN (-6) (plc a t (a 13) 0))), 202, I, QR R nw bf h) := by
  have ho := od
  have q1 := hC.1.1
  have q13 : nw < 13 := by omega
  have ho2 := os (b := nw) (by omega)
  have hRS : RS (QR R nw bf h) := QR_RS hB.2.2.2.1
  have hI := hC.2.1
  have hT := hW.tp
  have g18 := f18t (I := I) (R := QR R nw bf h) (b := nw) (a := a) (x := nI t) (by omega) hI
  rw [b2_t (nI_iT ht (by omega))] at g18
  have hop := hW.op t (by omega)
  have g21 := f21 (I := I) (R := QR R nw bf h) (b := nw) (a := a) (t := t) q13 hRS hI hW (by omega)
  simp (disch := first | omega | (show List.length _ ≤ 4; exact Nat.le_of_ble_eq_true rfl) | assumption | exact nbo_0 | exact nbo_1 | exact b2_b) only [FE59, s59_0, s59_1, s59_4, s59_5, s59_8, s59_11, s59_12, s59_13, s59_14_0, s59_14_1, s59_14_2, s59_14_3, s59_14_4, s59_14_5, s59_14_6, s59_14_d, s59_56, s59_57, s59_60, s59_61, s59_64, s59_67, s59_68, s59_71, s59_72, s59_73, s59_74, s59_77, s59_78, s59_81, s59_84, s59_85, s59_88, s59_89, s59_92, s59_95, s59_97, s59_98, s59_99, s59_102, s59_103, s59_106, s59_107, s59_108, s59_111, s59_112, s59_115, s59_116, s59_117, s59_120, s59_123, s59_124, s59_125, s59_126, s59_127, s59_130, s59_133, s59_134, s59_135, s59_136, s59_137, s59_140, s59_143, s59_144, s59_145, s59_146, s59_148, ↓reduceIte, psh_some, psh_none, cln_i, cln_r, cln_n, cln_l, cln_d, cln_f, Option.bind_some, Option.bind_none, if_true, if_false, nI_add, pk_mul, nbo_0, nbo_1, nI_leI, nI_ltI, nI_eq, Nat.reduceAdd, Nat.reduceMul, Nat.add_zero, Nat.mul_zero, gd_0, g18, g21, z0, z1]
theorem v_t3 (hB : BR R) (hC : CL I nw bf h a u p) (hW : WO a) {t : Nat} (ht : t < a 1) : FF 59 [.ref 208, .int (nI t), .int (nI 3)] (202, I, QR R nw bf h) = some (some (.int (nI (bst a t))), 202, I, QR R nw bf h) := by
  have ho := od
  have q1 := hC.1.1
  have q13 : nw < 13 := by omega
  have ho2 := os (b := nw) (by omega)
  have hRS : RS (QR R nw bf h) := QR_RS hB.2.2.2.1
  have hI := hC.2.1
  have hT := hW.tp
  have g18 := f18t (I := I) (R := QR R nw bf h) (b := nw) (a := a) (x := nI t) (by omega) hI
  rw [b2_t (nI_iT ht (by omega))] at g18
  have hop := hW.op t (by omega)
  have g27 := f27 (I := I) (R := QR R nw bf h) (b := nw) (a := a) (t := t) q13 hRS hI hW (by omega)
  simp (disch := first | omega | (show List.length _ ≤ 4; exact Nat.le_of_ble_eq_true rfl) | assumption | exact nbo_0 | exact nbo_1 | exact b2_b) only [FE59, s59_0, s59_1, s59_4, s59_5, s59_8, s59_11, s59_12, s59_13, s59_14_0, s59_14_1, s59_14_2, s59_14_3, s59_14_4, s59_14_5, s59_14_6, s59_14_d, s59_56, s59_57, s59_60, s59_61, s59_64, s59_67, s59_68, s59_71, s59_72, s59_73, s59_74, s59_77, s59_78, s59_81, s59_84, s59_85, s59_88, s59_89, s59_92, s59_95, s59_97, s59_98, s59_99, s59_102, s59_103, s59_106, s59_107, s59_108, s59_111, s59_112, s59_115, s59_116, s59_117, s59_120, s59_123, s59_124, s59_125, s59_126, s59_127, s59_130, s59_133, s59_134, s59_135, s59_136, s59_137, s59_140, s59_143, s59_144, s59_145, s59_146, s59_148, ↓reduceIte, psh_some, psh_none, cln_i, cln_r, cln_n, cln_l, cln_d, cln_f, Option.bind_some, Option.bind_none, if_true, if_false, nI_add, pk_mul, nbo_0, nbo_1, nI_leI, nI_ltI, nI_eq, Nat.reduceAdd, Nat.reduceMul, Nat.add_zero, Nat.mul_zero, gd_0, g18, g27, z0, z1]
theorem v_t4 (hB : BR R) (hC : CL I nw bf h a u p) (hW : WO a) {t : Nat} (ht : t < a 1) : FF 59 [.ref 208, .int (nI t), .int (nI 4)] (202, I, QR R nw bf h) = some (some (.int (nI (a (118 + t)))), 202, I, QR R nw bf h) := by
  have ho := od
  have q1 := hC.1.1
  have q13 : nw < 13 := by omega
  have ho2 := os (b := nw) (by omega)
  have hRS : RS (QR R nw bf h) := QR_RS hB.2.2.2.1
  have hI := hC.2.1
  have hT := hW.tp
  have g18 := f18t (I := I) (R := QR R nw bf h) (b := nw) (a := a) (x := nI t) (by omega) hI
  rw [b2_t (nI_iT ht (by omega))] at g18
  have hop := hW.op t (by omega)
  simp (disch := first | omega | (show List.length _ ≤ 4; exact Nat.le_of_ble_eq_true rfl) | assumption | exact nbo_0 | exact nbo_1 | exact b2_b) only [FE59, s59_0, s59_1, s59_4, s59_5, s59_8, s59_11, s59_12, s59_13, s59_14_0, s59_14_1, s59_14_2, s59_14_3, s59_14_4, s59_14_5, s59_14_6, s59_14_d, s59_56, s59_57, s59_60, s59_61, s59_64, s59_67, s59_68, s59_71, s59_72, s59_73, s59_74, s59_77, s59_78, s59_81, s59_84, s59_85, s59_88, s59_89, s59_92, s59_95, s59_97, s59_98, s59_99, s59_102, s59_103, s59_106, s59_107, s59_108, s59_111, s59_112, s59_115, s59_116, s59_117, s59_120, s59_123, s59_124, s59_125, s59_126, s59_127, s59_130, s59_133, s59_134, s59_135, s59_136, s59_137, s59_140, s59_143, s59_144, s59_145, s59_146, s59_148, ↓reduceIte, psh_some, psh_none, cln_i, cln_r, cln_n, cln_l, cln_d, cln_f, Option.bind_some, Option.bind_none, if_true, if_false, nI_add, pk_mul, nbo_0, nbo_1, nI_leI, nI_ltI, nI_eq, Nat.reduceAdd, Nat.reduceMul, Nat.add_zero, Nat.mul_zero, gd_0, g18, z0, z1, gs_5 q13 hRS, as_12 q13, hI, vI_at]
theorem v_t5 (hB : BR R) (hC : CL I nw bf h a u p) (hW : WO a) {t : Nat} (ht : t < a 1) : FF 59 [.ref 208, .int (nI t), .int (nI 5)] (202, I, QR R nw bf h) = some (some (.int (nI (a (128 + t)))), 202, I, QR R nw bf h) := by
  have ho := od
  have q1 := hC.1.1
  have q13 : nw < 13 := by omega
  have ho2 := os (b := nw) (by omega)
  have hRS : RS (QR R nw bf h) := QR_RS hB.2.2.2.1
  have hI := hC.2.1
  have hT := hW.tp
  have g18 := f18t (I := I) (R := QR R nw bf h) (b := nw) (a := a) (x := nI t) (by omega) hI
  rw [b2_t (nI_iT ht (by omega))] at g18
  have hop := hW.op t (by omega)
  simp (disch := first | omega | (show List.length _ ≤ 4; exact Nat.le_of_ble_eq_true rfl) | assumption | exact nbo_0 | exact nbo_1 | exact b2_b) only [FE59, s59_0, s59_1, s59_4, s59_5, s59_8, s59_11, s59_12, s59_13, s59_14_0, s59_14_1, s59_14_2, s59_14_3, s59_14_4, s59_14_5, s59_14_6, s59_14_d, s59_56, s59_57, s59_60, s59_61, s59_64, s59_67, s59_68, s59_71, s59_72, s59_73, s59_74, s59_77, s59_78, s59_81, s59_84, s59_85, s59_88, s59_89, s59_92, s59_95, s59_97, s59_98, s59_99, s59_102, s59_103, s59_106, s59_107, s59_108, s59_111, s59_112, s59_115, s59_116, s59_117, s59_120, s59_123, s59_124, s59_125, s59_126, s59_127, s59_130, s59_133, s59_134, s59_135, s59_136, s59_137, s59_140, s59_143, s59_144, s59_145, s59_146, s59_148, ↓reduceIte, psh_some, psh_none, cln_i, cln_r, cln_n, cln_l, cln_d, cln_f, Option.bind_some, Option.bind_none, if_true, if_false, nI_add, pk_mul, nbo_0, nbo_1, nI_leI, nI_ltI, nI_eq, Nat.reduceAdd, Nat.reduceMul, Nat.add_zero, Nat.mul_zero, gd_0, g18, z0, z1, gs_6 q13 hRS, as_13 q13, hI, vI_at]
theorem v_t6 (hB : BR R) (hC : CL I nw bf h a u p) (hW : WO a) {t : Nat} (ht : t < a 1) : FF 59 [.ref 208, .int (nI t), .int (nI 6)] (202, I, QR R nw bf h) = some (some (.int (nI (a (138 + t)))), 202, I, QR R nw bf h) := by
  have ho := od
  have q1 := hC.1.1
  have q13 : nw < 13 := by omega
  have ho2 := os (b := nw) (by omega)
  have hRS : RS (QR R nw bf h) := QR_RS hB.2.2.2.1
  have hI := hC.2.1
  have hT := hW.tp
  have g18 := f18t (I := I) (R := QR R nw bf h) (b := nw) (a := a) (x := nI t) (by omega) hI
  rw [b2_t (nI_iT ht (by omega))] at g18
  have hop := hW.op t (by omega)
  simp (disch := first | omega | (show List.length _ ≤ 4; exact Nat.le_of_ble_eq_true rfl) | assumption | exact nbo_0 | exact nbo_1 | exact b2_b) only [FE59, s59_0, s59_1, s59_4, s59_5, s59_8, s59_11, s59_12, s59_13, s59_14_0, s59_14_1, s59_14_2, s59_14_3, s59_14_4, s59_14_5, s59_14_6, s59_14_d, s59_56, s59_57, s59_60, s59_61, s59_64, s59_67, s59_68, s59_71, s59_72, s59_73, s59_74, s59_77, s59_78, s59_81, s59_84, s59_85, s59_88, s59_89, s59_92, s59_95, s59_97, s59_98, s59_99, s59_102, s59_103, s59_106, s59_107, s59_108, s59_111, s59_112, s59_115, s59_116, s59_117, s59_120, s59_123, s59_124, s59_125, s59_126, s59_127, s59_130, s59_133, s59_134, s59_135, s59_136, s59_137, s59_140, s59_143, s59_144, s59_145, s59_146, s59_148, ↓reduceIte, psh_some, psh_none, cln_i, cln_r, cln_n, cln_l, cln_d, cln_f, Option.bind_some, Option.bind_none, if_true, if_false, nI_add, pk_mul, nbo_0, nbo_1, nI_leI, nI_ltI, nI_eq, Nat.reduceAdd, Nat.reduceMul, Nat.add_zero, Nat.mul_zero, gd_0, g18, z0, z1, gs_7 q13 hRS, as_14 q13, hI, vI_at]
theorem v_c0 (hB : BR R) (hC : CL I nw bf h a u p) (hW : WO a) (h0 : a 0 < 2 ^ 30) : FF 61 [.ref 208, .int (nI 0)] (202, I, QR R nw bf h) = some (some (.int (nI (a 0))), 202, I, QR R nw bf h) := by
  have ho := od
  have q1 := hC.1.1
  have q13 : nw < 13 := by omega
  have ho2 := os (b := nw) (by omega)
  have hRS : RS (QR R nw bf h) := QR_RS hB.2.2.2.1
  have hI := hC.2.1
  have hT := hW.tp
  have c23 := hC.2.2.1.1
  have g26 := f26 (I := I) (R := QR R nw bf h) (b := nw) (a := a) q13 hRS hI h0
  have g39 := f39 (I := I) (R := QR R nw bf h) (b := nw) (a := a) q13 hI hW
  have g40a := f40 (I := I) (R := QR R nw bf h) (b := nw) (a := a) (h := 2) q13 hRS hI hW h0 (by decide)
  have g40b := f40 (I := I) (R := QR R nw bf h) (b := nw) (a := a) (h := 1) q13 hRS hI hW h0 (by decide)
  have g45 := f45t (M := (202, I, QR R nw bf h)) (x := nI 0 - nI 11)
  rw [b2_f (by decide)] at g45
  simp (disch := first | omega | (show List.length _ ≤ 4; exact Nat.le_of_ble_eq_true rfl) | assumption | exact nbo_0 | exact nbo_1 | exact b2_b) only [FE61, s61_0, s61_1, s61_3, s61_4, s61_5, s61_6, s61_9, s61_12, s61_13, s61_16, s61_19, s61_20, s61_21, s61_22, s61_23_0, s61_23_1, s61_23_2, s61_23_3, s61_23_4, s61_23_5, s61_23_6, s61_23_7, s61_23_8, s61_23_9, s61_23_10, s61_23_11, s61_23_12, s61_23_13, s61_23_14, s61_23_15, s61_23_16, s61_23_17, s61_23_18, s61_23_d, s61_112, s61_113, s61_116, s61_119, s61_120, s61_121, s61_124, s61_127, s61_128, s61_129, s61_132, s61_135, s61_136, s61_137, s61_140, s61_143, s61_144, s61_145, s61_148, s61_151, s61_152, s61_153, s61_156, s61_159, s61_160, s61_161, s61_164, s61_167, s61_168, s61_169, s61_172, s61_175, s61_176, s61_177, s61_180, s61_183, s61_184, s61_185, s61_188, s61_189, s61_192, s61_193, s61_194, s61_197, s61_198, s61_201, s61_202, s61_203, s61_206, s61_209, s61_210, s61_211, s61_214, s61_215, s61_217, ↓reduceIte, psh_some, psh_none, cln_i, cln_r, cln_n, cln_l, cln_d, cln_f, Option.bind_some, Option.bind_none, if_true, if_false, nI_add, pk_mul, nbo_0, nbo_1, nI_leI, nI_ltI, nI_eq, Nat.reduceAdd, Nat.reduceMul, Nat.add_zero, Nat.mul_zero, g45, z0, z1, gd_0, gd_3, gs_8 q13, gs_11 q13, gs_12 q13, gs_13 q13, gs_14 q13, gs_15 q13, gs_16 q13, g26, g39, g40a, g40b, c23, hI, vI_at]
theorem v_c1 (hB : BR R) (hC : CL I nw bf h a u p) (hW : WO a) (h0 : a 0 < 2 ^ 30) : FF 61 [.ref 208, .int (nI 1)] (202, I, QR R nw bf h) = some (some (.int (nI (a (14 + a 0 % 12)))), 202, I, QR R nw bf h) := by
  have ho := od
  have q1 := hC.1.1
  have q13 : nw < 13 := by omega
  have ho2 := os (b := nw) (by omega)
  have hRS : RS (QR R nw bf h) := QR_RS hB.2.2.2.1
  have hI := hC.2.1
  have hT := hW.tp
  have c23 := hC.2.2.1.1
  have g26 := f26 (I := I) (R := QR R nw bf h) (b := nw) (a := a) q13 hRS hI h0
  have g39 := f39 (I := I) (R := QR R nw bf h) (b := nw) (a := a) q13 hI hW
  have g40a := f40 (I := I) (R := QR R nw bf h) (b := nw) (a := a) (h := 2) q13 hRS hI hW h0 (by decide)
  have g40b := f40 (I := I) (R := QR R nw bf h) (b := nw) (a := a) (h := 1) q13 hRS hI hW h0 (by decide)
  have g45 := f45t (M := (202, I, QR R nw bf h)) (x := nI 1 - nI 11)
  rw [b2_f (by decide)] at g45
  simp (disch := first | omega | (show List.length _ ≤ 4; exact Nat.le_of_ble_eq_true rfl) | assumption | exact nbo_0 | exact nbo_1 | exact b2_b) only [FE61, s61_0, s61_1, s61_3, s61_4, s61_5, s61_6, s61_9, s61_12, s61_13, s61_16, s61_19, s61_20, s61_21, s61_22, s61_23_0, s61_23_1, s61_23_2, s61_23_3, s61_23_4, s61_23_5, s61_23_6, s61_23_7, s61_23_8, s61_23_9, s61_23_10, s61_23_11, s61_23_12, s61_23_13, s61_23_14, s61_23_15, s61_23_16, s61_23_17, s61_23_18, s61_23_d, s61_112, s61_113, s61_116, s61_119, s61_120, s61_121, s61_124, s61_127, s61_128, s61_129, s61_132, s61_135, s61_136, s61_137, s61_140, s61_143, s61_144, s61_145, s61_148, s61_151, s61_152, s61_153, s61_156, s61_159, s61_160, s61_161, s61_164, s61_167, s61_168, s61_169, s61_172, s61_175, s61_176, s61_177, s61_180, s61_183, s61_184, s61_185, s61_188, s61_189, s61_192, s61_193, s61_194, s61_197, s61_198, s61_201, s61_202, s61_203, s61_206, s61_209, s61_210, s61_211, s61_214, s61_215, s61_217, ↓reduceIte, psh_some, psh_none, cln_i, cln_r, cln_n, cln_l, cln_d, cln_f, Option.bind_some, Option.bind_none, if_true, if_false, nI_add, pk_mul, nbo_0, nbo_1, nI_leI, nI_ltI, nI_eq, Nat.reduceAdd, Nat.reduceMul, Nat.add_zero, Nat.mul_zero, g45, z0, z1, gd_0, gd_3, gs_8 q13, gs_11 q13, gs_12 q13, gs_13 q13, gs_14 q13, gs_15 q13, gs_16 q13, g26, g39, g40a, g40b, c23, hI, vI_at]
theorem v_c2 (hB : BR R) (hC : CL I nw bf h a u p) (hW : WO a) (h0 : a 0 < 2 ^ 30) : FF 61 [.ref 208, .int (nI 2)] (202, I, QR R nw bf h) = some (some (.int (nI (a 1))), 202, I, QR R nw bf h) := by
  have ho := od
  have q1 := hC.1.1
  have q13 : nw < 13 := by omega
  have ho2 := os (b := nw) (by omega)
  have hRS : RS (QR R nw bf h) := QR_RS hB.2.2.2.1
  have hI := hC.2.1
  have hT := hW.tp
  have c23 := hC.2.2.1.1
  have g26 := f26 (I := I) (R := QR R nw bf h) (b := nw) (a := a) q13 hRS hI h0
  have g39 := f39 (I := I) (R := QR R nw bf h) (b := nw) (a := a) q13 hI hW
  have g40a := f40 (I := I) (R := QR R nw bf h) (b := nw) (a := a) (h := 2) q13 hRS hI hW h0 (by decide)
  have g40b := f40 (I := I) (R := QR R nw bf h) (b := nw) (a := a) (h := 1) q13 hRS hI hW h0 (by decide)
  have g45 := f45t (M := (202, I, QR R nw bf h)) (x := nI 2 - nI 11)
  rw [b2_f (by decide)] at g45
  simp (disch := first | omega | (show List.length _ ≤ 4; exact Nat.le_of_ble_eq_true rfl) | assumption | exact nbo_0 | exact nbo_1 | exact b2_b) only [FE61, s61_0, s61_1, s61_3, s61_4, s61_5, s61_6, s61_9, s61_12, s61_13, s61_16, s61_19, s61_20, s61_21, s61_22, s61_23_0, s61_23_1, s61_23_2, s61_23_3, s61_23_4, s61_23_5, s61_23_6, s61_23_7, s61_23_8, s61_23_9, s61_23_10, s61_23_11, s61_23_12, s61_23_13, s61_23_14, s61_23_15, s61_23_16, s61_23_17, s61_23_18, s61_23_d, s61_112, s61_113, s61_116, s61_119, s61_120, s61_121, s61_124, s61_127, s61_128, s61_129, s61_132, s61_135, s61_136, s61_137, s61_140, s61_143, s61_144, s61_145, s61_148, s61_151, s61_152, s61_153, s61_156, s61_159, s61_160, s61_161, s61_164, s61_167, s61_168, s61_169, s61_172, s61_175, s61_176, s61_177, s61_180, s61_183, s61_184, s61_185, s61_188, s61_189, s61_192, s61_193, s61_194, s61_197, s61_198, s61_201, s61_202, s61_203, s61_206, s61_209, s61_210, s61_211, s61_214, s61_215, s61_217, ↓reduceIte, psh_some, psh_none, cln_i, cln_r, cln_n, cln_l, cln_d, cln_f, Option.bind_some, Option.bind_none, if_true, if_false, nI_add, pk_mul, nbo_0, nbo_1, nI_leI, nI_ltI, nI_eq, Nat.reduceAdd, Nat.reduceMul, Nat.add_zero, Nat.mul_zero, g45, z0, z1, gd_0, gd_3, gs_8 q13, gs_11 q13, gs_12 q13, gs_13 q13, gs_14 q13, gs_15 q13, gs_16 q13, g26, g39, g40a, g40b, c23, hI, vI_at]
theorem v_c3 (hB : BR R) (hC : CL I nw bf h a u p) (hW : WO a) (h0 : a 0 < 2 ^ 30) : FF 61 [.ref 208, .int (nI 3)] (202, I, QR R nw bf h) = some (some (.int (nI (bsum a))), 202, I, QR R nw bf h) := by
  have ho := od
  have q1 := hC.1.1
  have q13 : nw < 13 := by omega
  have ho2 := os (b := nw) (by omega)
  have hRS : RS (QR R nw bf h) := QR_RS hB.2.2.2.1
  have hI := hC.2.1
  have hT := hW.tp
  have c23 := hC.2.2.1.1
  have g26 := f26 (I := I) (R := QR R nw bf h) (b := nw) (a := a) q13 hRS hI h0
  have g39 := f39 (I := I) (R := QR R nw bf h) (b := nw) (a := a) q13 hI hW
  have g40a := f40 (I := I) (R := QR R nw bf h) (b := nw) (a := a) (h := 2) q13 hRS hI hW h0 (by decide)
  have g40b := f40 (I := I) (R := QR R nw bf h) (b := nw) (a := a) (h := 1) q13 hRS hI hW h0 (by decide)
  have g45 := f45t (M := (202, I, QR R nw bf h)) (x := nI 3 - nI 11)
  rw [b2_f (by decide)] at g45
  simp (disch := first | omega | (show List.length _ ≤ 4; exact Nat.le_of_ble_eq_true rfl) | assumption | exact nbo_0 | exact nbo_1 | exact b2_b) only [FE61, s61_0, s61_1, s61_3, s61_4, s61_5, s61_6, s61_9, s61_12, s61_13, s61_16, s61_19, s61_20, s61_21, s61_22, s61_23_0, s61_23_1, s61_23_2, s61_23_3, s61_23_4, s61_23_5, s61_23_6, s61_23_7, s61_23_8, s61_23_9, s61_23_10, s61_23_11, s61_23_12, s61_23_13, s61_23_14, s61_23_15, s61_23_16, s61_23_17, s61_23_18, s61_23_d, s61_112, s61_113, s61_116, s61_119, s61_120, s61_121, s61_124, s61_127, s61_128, s61_129, s61_132, s61_135, s61_136, s61_137, s61_140, s61_143, s61_144, s61_145, s61_148, s61_151, s61_152, s61_153, s61_156, s61_159, s61_160, s61_161, s61_164, s61_167, s61_168, s61_169, s61_172, s61_175, s61_176, s61_177, s61_180, s61_183, s61_184, s61_185, s61_188, s61_189, s61_192, s61_193, s61_194, s61_197, s61_198, s61_201, s61_202, s61_203, s61_206, s61_209, s61_210, s61_211, s61_214, s61_215, s61_217, ↓reduceIte, psh_some, psh_none, cln_i, cln_r, cln_n, cln_l, cln_d, cln_f, Option.bind_some, Option.bind_none, if_true, if_false, nI_add, pk_mul, nbo_0, nbo_1, nI_leI, nI_ltI, nI_eq, Nat.reduceAdd, Nat.reduceMul, Nat.add_zero, Nat.mul_zero, g45, z0, z1, gd_0, gd_3, gs_8 q13, gs_11 q13, gs_12 q13, gs_13 q13, gs_14 q13, gs_15 q13, gs_16 q13, g26, g39, g40a, g40b, c23, hI, vI_at]
theorem v_c4 (hB : BR R) (hC : CL I nw bf h a u p) (hW : WO a) (h0 : a 0 < 2 ^ 30) : FF 61 [.ref 208, .int (nI 4)] (202, I, QR R nw bf h) = some (some (.int (nI (a 8))), 202, I, QR R nw bf h) := by
  have ho := od
  have q1 := hC.1.1
  have q13 : nw < 13 := by omega
  have ho2 := os (b := nw) (by omega)
  have hRS : RS (QR R nw bf h) := QR_RS hB.2.2.2.1
  have hI := hC.2.1
  have hT := hW.tp
  have c23 := hC.2.2.1.1
  have g26 := f26 (I := I) (R := QR R nw bf h) (b := nw) (a := a) q13 hRS hI h0
  have g39 := f39 (I := I) (R := QR R nw bf h) (b := nw) (a := a) q13 hI hW
  have g40a := f40 (I := I) (R := QR R nw bf h) (b := nw) (a := a) (h := 2) q13 hRS hI hW h0 (by decide)
  have g40b := f40 (I := I) (R := QR R nw bf h) (b := nw) (a := a) (h := 1) q13 hRS hI hW h0 (by decide)
  have g45 := f45t (M := (202, I, QR R nw bf h)) (x := nI 4 - nI 11)
  rw [b2_f (by decide)] at g45
  simp (disch := first | omega | (show List.length _ ≤ 4; exact Nat.le_of_ble_eq_true rfl) | assumption | exact nbo_0 | exact nbo_1 | exact b2_b) only [FE61, s61_0, s61_1, s61_3, s61_4, s61_5, s61_6, s61_9, s61_12, s61_13, s61_16, s61_19, s61_20, s61_21, s61_22, s61_23_0, s61_23_1, s61_23_2, s61_23_3, s61_23_4, s61_23_5, s61_23_6, s61_23_7, s61_23_8, s61_23_9, s61_23_10, s61_23_11, s61_23_12, s61_23_13, s61_23_14, s61_23_15, s61_23_16, s61_23_17, s61_23_18, s61_23_d, s61_112, s61_113, s61_116, s61_119, s61_120, s61_121, s61_124, s61_127, s61_128, s61_129, s61_132, s61_135, s61_136, s61_137, s61_140, s61_143, s61_144, s61_145, s61_148, s61_151, s61_152, s61_153, s61_156, s61_159, s61_160, s61_161, s61_164, s61_167, s61_168, s61_169, s61_172, s61_175, s61_176, s61_177, s61_180, s61_183, s61_184, s61_185, s61_188, s61_189, s61_192, s61_193, s61_194, s61_197, s61_198, s61_201, s61_202, s61_203, s61_206, s61_209, s61_210, s61_211, s61_214, s61_215, s61_217, ↓reduceIte, psh_some, psh_none, cln_i, cln_r, cln_n, cln_l, cln_d, cln_f, Option.bind_some, Option.bind_none, if_true, if_false, nI_add, pk_mul, nbo_0, nbo_1, nI_leI, nI_ltI, nI_eq, Nat.reduceAdd, Nat.reduceMul, Nat.add_zero, Nat.mul_zero, g45, z0, z1, gd_0, gd_3, gs_8 q13, gs_11 q13, gs_12 q13, gs_13 q13, gs_14 q13, gs_15 q13, gs_16 q13, g26, g39, g40a, g40b, c23, hI, vI_at]
theorem v_c5 (hB : BR R) (hC : CL I nw bf h a u p) (hW : WO a) (h0 : a 0 < 2 ^ 30) : FF 61 [.ref 208, .int (nI 5)] (202, I, QR R nw bf h) = some (some (.int (nI (a 9))), 202, I, QR R nw bf h) := by
  have ho := od
  have q1 := hC.1.1
  have q13 : nw < 13 := by omega
  have ho2 := os (b := nw) (by omega)
  have hRS : RS (QR R nw bf h) := QR_RS hB.2.2.2.1
  have hI := hC.2.1
  have hT := hW.tp
  have c23 := hC.2.2.1.1
  have g26 := f26 (I := I) (R := QR R nw bf h) (b := nw) (a := a) q13 hRS hI h0
  have g39 := f39 (I := I) (R := QR R nw bf h) (b := nw) (a := a) q13 hI hW
  have g40a := f40 (I := I) (R := QR R nw bf h) (b := nw) (a := a) (h := 2) q13 hRS hI hW h0 (by decide)
  have g40b := f40 (I := I) (R := QR R nw bf h) (b := nw) (a := a) (h := 1) q13 hRS hI hW h0 (by decide)
  have g45 := f45t (M := (202, I, QR R nw bf h)) (x := nI 5 - nI 11)
  rw [b2_f (by decide)] at g45
  simp (disch := first | omega | (show List.length _ ≤ 4; exact Nat.le_of_ble_eq_true rfl) | assumption | exact nbo_0 | exact nbo_1 | exact b2_b) only [FE61, s61_0, s61_1, s61_3, s61_4, s61_5, s61_6, s61_9, s61_12, s61_13, s61_16, s61_19, s61_20, s61_21, s61_22, s61_23_0, s61_23_1, s61_23_2, s61_23_3, s61_23_4, s61_23_5, s61_23_6, s61_23_7, s61_23_8, s61_23_9, s61_23_10, s61_23_11, s61_23_12, s61_23_13, s61_23_14, s61_23_15, s61_23_16, s61_23_17, s61_23_18, s61_23_d, s61_112, s61_113, s61_116, s61_119, s61_120, s61_121, s61_124, s61_127, s61_128, s61_129, s61_132, s61_135, s61_136, s61_137, s61_140, s61_143, s61_144, s61_145, s61_148, s61_151, s61_152, s61_153, s61_156, s61_159, s61_160, s61_161, s61_164, s61_167, s61_168, s61_169, s61_172, s61_175, s61_176, s61_177, s61_180, s61_183, s61_184, s61_185, s61_188, s61_189, s61_192, s61_193, s61_194, s61_197, s61_198, s61_201, s61_202, s61_203, s61_206, s61_209, s61_210, s61_211, s61_214, s61_215, s61_217, ↓reduceIte, psh_some, psh_none, cln_i, cln_r, cln_n, cln_l, cln_d, cln_f, Option.bind_some, Option.bind_none, if_true, if_false, nI_add, pk_mul, nbo_0, nbo_1, nI_leI, nI_ltI, nI_eq, Nat.reduceAdd, Nat.reduceMul, Nat.add_zero, Nat.mul_zero, g45, z0, z1, gd_0, gd_3, gs_8 q13, gs_11 q13, gs_12 q13, gs_13 q13, gs_14 q13, gs_15 q13, gs_16 q13, g26, g39, g40a, g40b, c23, hI, vI_at]
theorem v_c6 (hB : BR R) (hC : CL I nw bf h a u p) (hW : WO a) (h0 : a 0 < 2 ^ 30) : FF 61 [.ref 208, .int (nI 6)] (202, I, QR R nw bf h) = some (some (.int (nI (a 10))), 202, I, QR R nw bf h) := by
  have ho := od
  have q1 := hC.1.1
  have q13 : nw < 13 := by omega
  have ho2 := os (b := nw) (by omega)
  have hRS : RS (QR R nw bf h) := QR_RS hB.2.2.2.1
  have hI := hC.2.1
  have hT := hW.tp
  have c23 := hC.2.2.1.1
  have g26 := f26 (I := I) (R := QR R nw bf h) (b := nw) (a := a) q13 hRS hI h0
  have g39 := f39 (I := I) (R := QR R nw bf h) (b := nw) (a := a) q13 hI hW
  have g40a := f40 (I := I) (R := QR R nw bf h) (b := nw) (a := a) (h := 2) q13 hRS hI hW h0 (by decide)
  have g40b := f40 (I := I) (R := QR R nw bf h) (b := nw) (a := a) (h := 1) q13 hRS hI hW h0 (by decide)
  have g45 := f45t (M := (202, I, QR R nw bf h)) (x := nI 6 - nI 11)
  rw [b2_f (by decide)] at g45
  simp (disch := first | omega | (show List.length _ ≤ 4; exact Nat.le_of_ble_eq_true rfl) | assumption | exact nbo_0 | exact nbo_1 | exact b2_b) only [FE61, s61_0, s61_1, s61_3, s61_4, s61_5, s61_6, s61_9, s61_12, s61_13, s61_16, s61_19, s61_20, s61_21, s61_22, s61_23_0, s61_23_1, s61_23_2, s61_23_3, s61_23_4, s61_23_5, s61_23_6, s61_23_7, s61_23_8, s61_23_9, s61_23_10, s61_23_11, s61_23_12, s61_23_13, s61_23_14, s61_23_15, s61_23_16, s61_23_17, s61_23_18, s61_23_d, s61_112, s61_113, s61_116, s61_119, s61_120, s61_121, s61_124, s61_127, s61_128, s61_129, s61_132, s61_135, s61_136, s61_137, s61_140, s61_143, s61_144, s61_145, s61_148, s61_151, s61_152, s61_153, s61_156, s61_159, s61_160, s61_161, s61_164, s61_167, s61_168, s61_169, s61_172, s61_175, s61_176, s61_177, s61_180, s61_183, s61_184, s61_185, s61_188, s61_189, s61_192, s61_193, s61_194, s61_197, s61_198, s61_201, s61_202, s61_203, s61_206, s61_209, s61_210, s61_211, s61_214, s61_215, s61_217, ↓reduceIte, psh_some, psh_none, cln_i, cln_r, cln_n, cln_l, cln_d, cln_f, Option.bind_some, Option.bind_none, if_true, if_false, nI_add, pk_mul, nbo_0, nbo_1, nI_leI, nI_ltI, nI_eq, Nat.reduceAdd, Nat.reduceMul, Nat.add_zero, Nat.mul_zero, g45, z0, z1, gd_0, gd_3, gs_8 q13, gs_11 q13, gs_12 q13, gs_13 q13, gs_14 q13, gs_15 q13, gs_16 q13, g26, g39, g40a, g40b, c23, hI, vI_at]
theorem v_c7 (hB : BR R) (hC : CL I nw bf h a u p) (hW : WO a) (h0 : a 0 < 2 ^ 30) : FF 61 [.ref 208, .int (nI 7)] (202, I, QR R nw bf h) = some (some (.int (nI (a 11))), 202, I, QR R nw bf h) := by
  have ho := od
  have q1 := hC.1.1
  have q13 : nw < 13 := by omega
  have ho2 := os (b := nw) (by omega)
  have hRS : RS (QR R nw bf h) := QR_RS hB.2.2.2.1
  have hI := hC.2.1
  have hT := hW.tp
  have c23 := hC.2.2.1.1
  have g26 := f26 (I := I) (R := QR R nw bf h) (b := nw) (a := a) q13 hRS hI h0
  have g39 := f39 (I := I) (R := QR R nw bf h) (b := nw) (a := a) q13 hI hW
  have g40a := f40 (I := I) (R := QR R nw bf h) (b := nw) (a := a) (h := 2) q13 hRS hI hW h0 (by decide)
  have g40b := f40 (I := I) (R := QR R nw bf h) (b := nw) (a := a) (h := 1) q13 hRS hI hW h0 (by decide)
  have g45 := f45t (M := (202, I, QR R nw bf h)) (x := nI 7 - nI 11)
  rw [b2_f (by decide)] at g45
  simp (disch := first | omega | (show List.length _ ≤ 4; exact Nat.le_of_ble_eq_true rfl) | assumption | exact nbo_0 | exact nbo_1 | exact b2_b) only [FE61, s61_0, s61_1, s61_3, s61_4, s61_5, s61_6, s61_9, s61_12, s61_13, s61_16, s61_19, s61_20, s61_21, s61_22, s61_23_0, s61_23_1, s61_23_2, s61_23_3, s61_23_4, s61_23_5, s61_23_6, s61_23_7, s61_23_8, s61_23_9, s61_23_10, s61_23_11, s61_23_12, s61_23_13, s61_23_14, s61_23_15, s61_23_16, s61_23_17, s61_23_18, s61_23_d, s61_112, s61_113, s61_116, s61_119, s61_120, s61_121, s61_124, s61_127, s61_128, s61_129, s61_132, s61_135, s61_136, s61_137, s61_140, s61_143, s61_144, s61_145, s61_148, s61_151, s61_152, s61_153, s61_156, s61_159, s61_160, s61_161, s61_164, s61_167, s61_168, s61_169, s61_172, s61_175, s61_176, s61_177, s61_180, s61_183, s61_184, s61_185, s61_188, s61_189, s61_192, s61_193, s61_194, s61_197, s61_198, s61_201, s61_202, s61_203, s61_206, s61_209, s61_210, s61_211, s61_214, s61_215, s61_217, ↓reduceIte, psh_some, psh_none, cln_i, cln_r, cln_n, cln_l, cln_d, cln_f, Option.bind_some, Option.bind_none, if_true, if_false, nI_add, pk_mul, nbo_0, nbo_1, nI_leI, nI_ltI, nI_eq, Nat.reduceAdd, Nat.reduceMul, Nat.add_zero, Nat.mul_zero, g45, z0, z1, gd_0, gd_3, gs_8 q13, gs_11 q13, gs_12 q13, gs_13 q13, gs_14 q13, gs_15 q13, gs_16 q13, g26, g39, g40a, g40b, c23, hI, vI_at]
theorem v_c8 (hB : BR R) (hC : CL I nw bf h a u p) (hW : WO a) (h0 : a 0 < 2 ^ 30) : FF 61 [.ref 208, .int (nI 8)] (202, I, QR R nw bf h) = some (some (.int (nI (a 12))), 202, I, QR R nw bf h) := by
  have ho := od
  have q1 := hC.1.1
  have q13 : nw < 13 := by omega
  have ho2 := os (b := nw) (by omega)
  have hRS : RS (QR R nw bf h) := QR_RS hB.2.2.2.1
  have hI := hC.2.1
  have hT := hW.tp
  have c23 := hC.2.2.1.1
  have g26 := f26 (I := I) (R := QR R nw bf h) (b := nw) (a := a) q13 hRS hI h0
  have g39 := f39 (I := I) (R := QR R nw bf h) (b := nw) (a := a) q13 hI hW
  have g40a := f40 (I := I) (R := QR R nw bf h) (b := nw) (a := a) (h := 2) q13 hRS hI hW h0 (by decide)
  have g40b := f40 (I := I) (R := QR R nw bf h) (b := nw) (a := a) (h := 1) q13 hRS hI hW h0 (by decide)
  have g45 := f45t (M := (202, I, QR R nw bf h)) (x := nI 8 - nI 11)
  rw [b2_f (by decide)] at g45
  simp (disch := first | omega | (show List.length _ ≤ 4; exact Nat.le_of_ble_eq_true rfl) | assumption | exact nbo_0 | exact nbo_1 | exact b2_b) only [FE61, s61_0, s61_1, s61_3, s61_4, s61_5, s61_6, s61_9, s61_12, s61_13, s61_16, s61_19, s61_20, s61_21, s61_22, s61_23_0, s61_23_1, s61_23_2, s61_23_3, s61_23_4, s61_23_5, s61_23_6, s61_23_7, s61_23_8, s61_23_9, s61_23_10, s61_23_11, s61_23_12, s61_23_13, s61_23_14, s61_23_15, s61_23_16, s61_23_17, s61_23_18, s61_23_d, s61_112, s61_113, s61_116, s61_119, s61_120, s61_121, s61_124, s61_127, s61_128, s61_129, s61_132, s61_135, s61_136, s61_137, s61_140, s61_143, s61_144, s61_145, s61_148, s61_151, s61_152, s61_153, s61_156, s61_159, s61_160, s61_161, s61_164, s61_167, s61_168, s61_169, s61_172, s61_175, s61_176, s61_177, s61_180, s61_183, s61_184, s61_185, s61_188, s61_189, s61_192, s61_193, s61_194, s61_197, s61_198, s61_201, s61_202, s61_203, s61_206, s61_209, s61_210, s61_211, s61_214, s61_215, s61_217, ↓reduceIte, psh_some, psh_none, cln_i, cln_r, cln_n, cln_l, cln_d, cln_f, Option.bind_some, Option.bind_none, if_true, if_false, nI_add, pk_mul, nbo_0, nbo_1, nI_leI, nI_ltI, nI_eq, Nat.reduceAdd, Nat.reduceMul, Nat.add_zero, Nat.mul_zero, g45, z0, z1, gd_0, gd_3, gs_8 q13, gs_11 q13, gs_12 q13, gs_13 q13, gs_14 q13, gs_15 q13, gs_16 q13, g26, g39, g40a, g40b, c23, hI, vI_at]
theorem v_c9 (hB : BR R) (hC : CL I nw bf h a u p) (hW : WO a) (h0 : a 0 < 2 ^ 30) : FF 61 [.ref 208, .int (nI 9)] (202, I, QR R nw bf h) = some (some (.int (ot a 2)), 202, I, QR R nw bf h) := by
  have ho := od
  have q1 := hC.1.1
  have q13 : nw < 13 := by omega
  have ho2 := os (b := nw) (by omega)
  have hRS : RS (QR R nw bf h) := QR_RS hB.2.2.2.1
  have hI := hC.2.1
  have hT := hW.tp
  have c23 := hC.2.2.1.1
  have g26 := f26 (I := I) (R := QR R nw bf h) (b := nw) (a := a) q13 hRS hI h0
  have g39 := f39 (I := I) (R := QR R nw bf h) (b := nw) (a := a) q13 hI hW
  have g40a := f40 (I := I) (R := QR R nw bf h) (b := nw) (a := a) (h := 2) q13 hRS hI hW h0 (by decide)
  have g40b := f40 (I := I) (R := QR R nw bf h) (b := nw) (a := a) (h := 1) q13 hRS hI hW h0 (by decide)
  have g45 := f45t (M := (202, I, QR R nw bf h)) (x := nI 9 - nI 11)
  rw [b2_f (by decide)] at g45
  simp (disch := first | omega | (show List.length _ ≤ 4; exact Nat.le_of_ble_eq_true rfl) | assumption | exact nbo_0 | exact nbo_1 | exact b2_b) only [FE61, s61_0, s61_1, s61_3, s61_4, s61_5, s61_6, s61_9, s61_12, s61_13, s61_16, s61_19, s61_20, s61_21, s61_22, s61_23_0, s61_23_1, s61_23_2, s61_23_3, s61_23_4, s61_23_5, s61_23_6, s61_23_7, s61_23_8, s61_23_9, s61_23_10, s61_23_11, s61_23_12, s61_23_13, s61_23_14, s61_23_15, s61_23_16, s61_23_17, s61_23_18, s61_23_d, s61_112, s61_113, s61_116, s61_119, s61_120, s61_121, s61_124, s61_127, s61_128, s61_129, s61_132, s61_135, s61_136, s61_137, s61_140, s61_143, s61_144, s61_145, s61_148, s61_151, s61_152, s61_153, s61_156, s61_159, s61_160, s61_161, s61_164, s61_167, s61_168, s61_169, s61_172, s61_175, s61_176, s61_177, s61_180, s61_183, s61_184, s61_185, s61_188, s61_189, s61_192, s61_193, s61_194, s61_197, s61_198, s61_201, s61_202, s61_203, s61_206, s61_209, s61_210, s61_211, s61_214, s61_215, s61_217, ↓reduceIte, psh_some, psh_none, cln_i, cln_r, cln_n, cln_l, cln_d, cln_f, Option.bind_some, Option.bind_none, if_true, if_false, nI_add, pk_mul, nbo_0, nbo_1, nI_leI, nI_ltI, nI_eq, Nat.reduceAdd, Nat.reduceMul, Nat.add_zero, Nat.mul_zero, g45, z0, z1, gd_0, gd_3, gs_8 q13, gs_11 q13, gs_12 q13, gs_13 q13, gs_14 q13, gs_15 q13, gs_16 q13, g26, g39, g40a, g40b, c23, hI, vI_at]
theorem v_c10 (hB : BR R) (hC : CL I nw bf h a u p) (hW : WO a) (h0 : a 0 < 2 ^ 30) : FF 61 [.ref 208, .int (nI 10)] (202, I, QR R nw bf h) = some (some (.int (ot a 1)), 202, I, QR R nw bf h) := by
  have ho := od
  have q1 := hC.1.1
  have q13 : nw < 13 := by omega
  have ho2 := os (b := nw) (by omega)
  have hRS : RS (QR R nw bf h) := QR_RS hB.2.2.2.1
  have hI := hC.2.1
  have hT := hW.tp
  have c23 := hC.2.2.1.1
  have g26 := f26 (I := I) (R := QR R nw bf h) (b := nw) (a := a) q13 hRS hI h0
  have g39 := f39 (I := I) (R := QR R nw bf h) (b := nw) (a := a) q13 hI hW
  have g40a := f40 (I := I) (R := QR R nw bf h) (b := nw) (a := a) (h := 2) q13 hRS hI hW h0 (by decide)
  have g40b := f40 (I := I) (R := QR R nw bf h) (b := nw) (a := a) (h := 1) q13 hRS hI hW h0 (by decide)
  have g45 := f45t (M := (202, I, QR R nw bf h)) (x := nI 10 - nI 11)
  rw [b2_f (by decide)] at g45
  simp (disch := first | omega | (show List.length _ ≤ 4; exact Nat.le_of_ble_eq_true rfl) | assumption | exact nbo_0 | exact nbo_1 | exact b2_b) only [FE61, s61_0, s61_1, s61_3, s61_4, s61_5, s61_6, s61_9, s61_12, s61_13, s61_16, s61_19, s61_20, s61_21, s61_22, s61_23_0, s61_23_1, s61_23_2, s61_23_3, s61_23_4, s61_23_5, s61_23_6, s61_23_7, s61_23_8, s61_23_9, s61_23_10, s61_23_11, s61_23_12, s61_23_13, s61_23_14, s61_23_15, s61_23_16, s61_23_17, s61_23_18, s61_23_d, s61_112, s61_113, s61_116, s61_119, s61_120, s61_121, s61_124, s61_127, s61_128, s61_129, s61_132, s61_135, s61_136, s61_137, s61_140, s61_143, s61_144, s61_145, s61_148, s61_151, s61_152, s61_153, s61_156, s61_159, s61_160, s61_161, s61_164, s61_167, s61_168, s61_169, s61_172, s61_175, s61_176, s61_177, s61_180, s61_183, s61_184, s61_185, s61_188, s61_189, s61_192, s61_193, s61_194, s61_197, s61_198, s61_201, s61_202, s61_203, s61_206, s61_209, s61_210, s61_211, s61_214, s61_215, s61_217, ↓reduceIte, psh_some, psh_none, cln_i, cln_r, cln_n, cln_l, cln_d, cln_f, Option.bind_some, Option.bind_none, if_true, if_false, nI_add, pk_mul, nbo_0, nbo_1, nI_leI, nI_ltI, nI_eq, Nat.reduceAdd, Nat.reduceMul, Nat.add_zero, Nat.mul_zero, g45, z0, z1, gd_0, gd_3, gs_8 q13, gs_11 q13, gs_12 q13, gs_13 q13, gs_14 q13, gs_15 q13, gs_16 q13, g26, g39, g40a, g40b, c23, hI, vI_at]
theorem v_c11 (hB : BR R) (hC : CL I nw bf h a u p) (hW : WO a) (h0 : a 0 < 2 ^ 30) : FF 61 [.ref 208, .int (nI 11)] (202, I, QR R nw bf h) = some (some (.int (nI (a 2))), 202, I, QR R nw bf h) := by
  have ho := od
  have q1 := hC.1.1
  have q13 : nw < 13 := by omega
  have ho2 := os (b := nw) (by omega)
  have hRS : RS (QR R nw bf h) := QR_RS hB.2.2.2.1
  have hI := hC.2.1
  have hT := hW.tp
  have c23 := hC.2.2.1.1
  have g26 := f26 (I := I) (R := QR R nw bf h) (b := nw) (a := a) q13 hRS hI h0
  have g39 := f39 (I := I) (R := QR R nw bf h) (b := nw) (a := a) q13 hI hW
  have g40a := f40 (I := I) (R := QR R nw bf h) (b := nw) (a := a) (h := 2) q13 hRS hI hW h0 (by decide)
  have g40b := f40 (I := I) (R := QR R nw bf h) (b := nw) (a := a) (h := 1) q13 hRS hI hW h0 (by decide)
  have g45 := f45t (M := (202, I, QR R nw bf h)) (x := nI 0)
  rw [b2_t (by decide)] at g45
  simp (disch := first | omega | (show List.length _ ≤ 4; exact Nat.le_of_ble_eq_true rfl) | assumption | exact nbo_0 | exact nbo_1 | exact b2_b) only [FE61, s61_0, s61_1, s61_3, s61_4, s61_5, s61_6, s61_9, s61_12, s61_13, s61_16, s61_19, s61_20, s61_21, s61_22, s61_23_0, s61_23_1, s61_23_2, s61_23_3, s61_23_4, s61_23_5, s61_23_6, s61_23_7, s61_23_8, s61_23_9, s61_23_10, s61_23_11, s61_23_12, s61_23_13, s61_23_14, s61_23_15, s61_23_16, s61_23_17, s61_23_18, s61_23_d, s61_112, s61_113, s61_116, s61_119, s61_120, s61_121, s61_124, s61_127, s61_128, s61_129, s61_132, s61_135, s61_136, s61_137, s61_140, s61_143, s61_144, s61_145, s61_148, s61_151, s61_152, s61_153, s61_156, s61_159, s61_160, s61_161, s61_164, s61_167, s61_168, s61_169, s61_172, s61_175, s61_176, s61_177, s61_180, s61_183, s61_184, s61_185, s61_188, s61_189, s61_192, s61_193, s61_194, s61_197, s61_198, s61_201, s61_202, s61_203, s61_206, s61_209, s61_210, s61_211, s61_214, s61_215, s61_217, ↓reduceIte, psh_some, psh_none, cln_i, cln_r, cln_n, cln_l, cln_d, cln_f, Option.bind_some, Option.bind_none, if_true, if_false, nI_add, pk_mul, nbo_0, nbo_1, nI_leI, nI_ltI, nI_eq, Nat.reduceAdd, Nat.reduceMul, Nat.add_zero, Nat.mul_zero, nI_sub, Nat.reduceSub, g45, z0, z1, gd_0, gs_0 q13 hRS, as_1 q13, hI, vI_at]
theorem v_c15 (hB : BR R) (hC : CL I nw bf h a u p) (hW : WO a) (h0 : a 0 < 2 ^ 30) : FF 61 [.ref 208, .int (nI 15)] (202, I, QR R nw bf h) = some (some (.int (nI (a 6))), 202, I, QR R nw bf h) := by
  have ho := od
  have q1 := hC.1.1
  have q13 : nw < 13 := by omega
  have ho2 := os (b := nw) (by omega)
  have hRS : RS (QR R nw bf h) := QR_RS hB.2.2.2.1
  have hI := hC.2.1
  have hT := hW.tp
  have c23 := hC.2.2.1.1
  have g26 := f26 (I := I) (R := QR R nw bf h) (b := nw) (a := a) q13 hRS hI h0
  have g39 := f39 (I := I) (R := QR R nw bf h) (b := nw) (a := a) q13 hI hW
  have g40a := f40 (I := I) (R := QR R nw bf h) (b := nw) (a := a) (h := 2) q13 hRS hI hW h0 (by decide)
  have g40b := f40 (I := I) (R := QR R nw bf h) (b := nw) (a := a) (h := 1) q13 hRS hI hW h0 (by decide)
  have g45 := f45t (M := (202, I, QR R nw bf h)) (x := nI 4)
  rw [b2_t (by decide)] at g45
  simp (disch := first | omega | (show List.length _ ≤ 4; exact Nat.le_of_ble_eq_true rfl) | assumption | exact nbo_0 | exact nbo_1 | exact b2_b) only [FE61, s61_0, s61_1, s61_3, s61_4, s61_5, s61_6, s61_9, s61_12, s61_13, s61_16, s61_19, s61_20, s61_21, s61_22, s61_23_0, s61_23_1, s61_23_2, s61_23_3, s61_23_4, s61_23_5, s61_23_6, s61_23_7, s61_23_8, s61_23_9, s61_23_10, s61_23_11, s61_23_12, s61_23_13, s61_23_14, s61_23_15, s61_23_16, s61_23_17, s61_23_18, s61_23_d, s61_112, s61_113, s61_116, s61_119, s61_120, s61_121, s61_124, s61_127, s61_128, s61_129, s61_132, s61_135, s61_136, s61_137, s61_140, s61_143, s61_144, s61_145, s61_148, s61_151, s61_152, s61_153, s61_156, s61_159, s61_160, s61_161, s61_164, s61_167, s61_168, s61_169, s61_172, s61_175, s61_176, s61_177, s61_180, s61_183, s61_184, s61_185, s61_188, s61_189, s61_192, s61_193, s61_194, s61_197, s61_198, s61_201, s61_202, s61_203, s61_206, s61_209, s61_210, s61_211, s61_214, s61_215, s61_217, ↓reduceIte, psh_some, psh_none, cln_i, cln_r, cln_n, cln_l, cln_d, cln_f, Option.bind_some, Option.bind_none, if_true, if_false, nI_add, pk_mul, nbo_0, nbo_1, nI_leI, nI_ltI, nI_eq, Nat.reduceAdd, Nat.reduceMul, Nat.add_zero, Nat.mul_zero, nI_sub, Nat.reduceSub, g45, z0, z1, gd_0, gs_0 q13 hRS, as_1 q13, hI, vI_at]
theorem v_c18 (hB : BR R) (hC : CL I nw bf h a u p) (hW : WO a) (h0 : a 0 < 2 ^ 30) : FF 61 [.ref 208, .int (nI 18)] (202, I, QR R nw bf h) = some (some (.int (nI u)), 202, I, QR R nw bf h) := by
  have ho := od
  have q1 := hC.1.1
  have q13 : nw < 13 := by omega
  have ho2 := os (b := nw) (by omega)
  have hRS : RS (QR R nw bf h) := QR_RS hB.2.2.2.1
  have hI := hC.2.1
  have hT := hW.tp
  have c23 := hC.2.2.1.1
  have g26 := f26 (I := I) (R := QR R nw bf h) (b := nw) (a := a) q13 hRS hI h0
  have g39 := f39 (I := I) (R := QR R nw bf h) (b := nw) (a := a) q13 hI hW
  have g40a := f40 (I := I) (R := QR R nw bf h) (b := nw) (a := a) (h := 2) q13 hRS hI hW h0 (by decide)
  have g40b := f40 (I := I) (R := QR R nw bf h) (b := nw) (a := a) (h := 1) q13 hRS hI hW h0 (by decide)
  have g45 := f45t (M := (202, I, QR R nw bf h)) (x := nI 7)
  rw [b2_f (by decide)] at g45
  simp (disch := first | omega | (show List.length _ ≤ 4; exact Nat.le_of_ble_eq_true rfl) | assumption | exact nbo_0 | exact nbo_1 | exact b2_b) only [FE61, s61_0, s61_1, s61_3, s61_4, s61_5, s61_6, s61_9, s61_12, s61_13, s61_16, s61_19, s61_20, s61_21, s61_22, s61_23_0, s61_23_1, s61_23_2, s61_23_3, s61_23_4, s61_23_5, s61_23_6, s61_23_7, s61_23_8, s61_23_9, s61_23_10, s61_23_11, s61_23_12, s61_23_13, s61_23_14, s61_23_15, s61_23_16, s61_23_17, s61_23_18, s61_23_d, s61_112, s61_113, s61_116, s61_119, s61_120, s61_121, s61_124, s61_127, s61_128, s61_129, s61_132, s61_135, s61_136, s61_137, s61_140, s61_143, s61_144, s61_145, s61_148, s61_151, s61_152, s61_153, s61_156, s61_159, s61_160, s61_161, s61_164, s61_167, s61_168, s61_169, s61_172, s61_175, s61_176, s61_177, s61_180, s61_183, s61_184, s61_185, s61_188, s61_189, s61_192, s61_193, s61_194, s61_197, s61_198, s61_201, s61_202, s61_203, s61_206, s61_209, s61_210, s61_211, s61_214, s61_215, s61_217, ↓reduceIte, psh_some, psh_none, cln_i, cln_r, cln_n, cln_l, cln_d, cln_f, Option.bind_some, Option.bind_none, if_true, if_false, nI_add, pk_mul, nbo_0, nbo_1, nI_leI, nI_ltI, nI_eq, Nat.reduceAdd, Nat.reduceMul, Nat.add_zero, Nat.mul_zero, nI_sub, Nat.reduceSub, g45, z0, z1, gd_0, gd_3, gs_8 q13, gs_11 q13, gs_12 q13, gs_13 q13, gs_14 q13, gs_15 q13, gs_16 q13, g26, g39, g40a, g40b, c23, hI, vI_at]
end VW
