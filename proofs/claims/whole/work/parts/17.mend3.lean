/-! ===== the model ends a shift, 3 ===== -/
section M4
variable {M : Mm} {I : Nat → Nat → Int32} {R : Nat → Nat → Option Nat} {v : Nat} {a : Nat → Nat}
theorem p120b {t m : Nat} (hv : v = 225 ∨ v = 226) (ht : t < 6) : ∀ d i (s : Nat → Nat) (l4 l5 : Option Value), i + d = s 1 → WO s → EE 120 89 [some (.ref v), some (.int (nI t)), some (.int (nI m)), some (.int (nI i)), l4, l5] [] (210, up I v (vI s), R) = some (some (.int (nI m)), 210, up I v (vI (tot (fd (bgF t) d i s, m))), R) := by
  intro d
  have hw : ∀ {J : Nat → Nat → Int32} {k : Nat} {z : Int32}, k < 148 → wI J v (nI k).toNatClampNeg z = up J v (up (J v) k z) := fun {J k z} h => wm_n hv (by omega)
  have hc : ∀ {k : Nat}, k < 148 → acI 5 210 v (nI k) := fun {k} h => cm_n hv h
  have c8 := hc (k := 8) (by omega)
  induction d with
  | zero =>
    intro i s l4 l5 h hs
    have hT := hs.tp
    have hn : s 1 ≤ i := by omega
    rw [s120_89]
    simp (disch := first | omega | (show List.length _ ≤ 4; exact Nat.le_of_ble_eq_true rfl) | assumption | exact nbo_0 | exact nbo_1 | exact b2_b) only [s120_0, s120_1, s120_2, s120_3, s120_5, s120_6, s120_8, s120_9, s120_12, s120_13, s120_15, s120_16, s120_17, s120_18, s120_20, s120_21, s120_23, s120_25, s120_26, s120_27, s120_28, s120_31, s120_32, s120_33, s120_35, s120_38, s120_41, s120_42, s120_45, s120_46, s120_48, s120_49, s120_51, s120_54, s120_55, s120_58, s120_59, s120_60, s120_61, s120_62, s120_64, s120_66, s120_67, s120_68, s120_69, s120_71, s120_74, s120_75, s120_78, s120_79, s120_80, s120_81, s120_84, s120_87, s120_88, s120_90, s120_91, s120_92, s120_93, s120_96, s120_97, s120_100, s120_101, s120_102, s120_103, s120_104, s120_105, s120_107, s120_108, s120_109, s120_110, s120_111, s120_112, s120_113, s120_116, s120_117, s120_118, s120_119, s120_120, s120_121, s120_123, s120_124, s120_125, s120_126, s120_127, s120_130, s120_131, s120_132, s120_133, s120_136, s120_139, s120_140, s120_143, s120_144, s120_145, s120_146, s120_149, s120_152, s120_153, s120_155, s120_156, s120_157, s120_158, s120_159, s120_160, s120_161, ↓reduceIte, psh_some, psh_none, cln_i, cln_r, cln_n, cln_l, cln_d, cln_f, Option.bind_some, Option.bind_none, if_true, if_false, nI_add, pk_mul, nbo_0, nbo_1, nI_leI, nI_ltI, nI_eq, Nat.reduceAdd, Nat.reduceMul, Nat.add_zero, Nat.mul_zero, up_at, up_up, up_vI, vI_at, am_n hv, hw, hn]
    rfl
  | succ d ih =>
    intro i s l4 l5 h hs
    have hT := hs.tp
    have hn : ¬ s 1 ≤ i := by omega
    have b1 := bgF_ok (w := t) (i := i) hs (by omega)
    have h18 := fun x => f118 (I := up I v (vI (up s (128 + i) x))) (R := R) (w := t) (t := i) hv (up_at I v _) (hs.up_ct (by omega)) ht (by omega)
    have hop := hs.op i (by omega)
    have l1 := hs.lv t i ht (by omega)
    have c1 := hc (k := 128 + i) (by omega)
    have c2 := hc (k := 138 + i) (by omega)
    have n1 : ∀ x, up s (128 + i) x (58 + 10 * t + i) = s (58 + 10 * t + i) := fun x => up_ne (by omega)
    have n2 : ∀ x, up s (128 + i) x 2 = s 2 := fun x => up_ne (by omega)
    have n3 : ∀ x, up s (128 + i) x (138 + i) = s (138 + i) := fun x => up_ne (by omega)
    have n4 : ∀ x, up s (128 + i) x (38 + i) = s (38 + i) := fun x => up_ne (by omega)
    have n5 : ∀ x, up (up s (128 + i) x) (138 + i) (s (138 + i)) = up s (128 + i) x := fun x => up_eq (n3 x)
    show _ = some (some (Value.int (nI m)), 210, up I v (vI (tot (fd (bgF t) d (i + 1) (bgF t i s), m))), R)
    refine Eq.trans ?_ (ih (i + 1) (bgF t i s) l4 l5 (by rw [b1.2 1 (by omega)]; omega) b1.1)
    rw [s120_89]
    unfold bgF
    by_cases e : s (38 + i) = 1
    · by_cases e2 : s 2 ≤ s (58 + 10 * t + i)
      · simp (disch := first | omega | (show List.length _ ≤ 4; exact Nat.le_of_ble_eq_true rfl) | assumption | exact nbo_0 | exact nbo_1 | exact b2_b) only [s120_0, s120_1, s120_2, s120_3, s120_5, s120_6, s120_8, s120_9, s120_12, s120_13, s120_15, s120_16, s120_17, s120_18, s120_20, s120_21, s120_23, s120_25, s120_26, s120_27, s120_28, s120_31, s120_32, s120_33, s120_35, s120_38, s120_41, s120_42, s120_45, s120_46, s120_48, s120_49, s120_51, s120_54, s120_55, s120_58, s120_59, s120_60, s120_61, s120_62, s120_64, s120_66, s120_67, s120_68, s120_69, s120_71, s120_74, s120_75, s120_78, s120_79, s120_80, s120_81, s120_84, s120_87, s120_88, s120_90, s120_91, s120_92, s120_93, s120_96, s120_97, s120_100, s120_101, s120_102, s120_103, s120_104, s120_105, s120_107, s120_108, s120_109, s120_110, s120_111, s120_112, s120_113, s120_116, s120_117, s120_118, s120_119, s120_120, s120_121, s120_123, s120_124, s120_125, s120_126, s120_127, s120_130, s120_131, s120_132, s120_133, s120_136, s120_139, s120_140, s120_143, s120_144, s120_145, s120_146, s120_149, s120_152, s120_153, s120_155, s120_156, s120_157, s120_158, s120_159, s120_160, s120_161, ↓reduceIte, psh_some, psh_none, cln_i, cln_r, cln_n, cln_l, cln_d, cln_f, Option.bind_some, Option.bind_none, if_true, if_false, nI_add, pk_mul, nbo_0, nbo_1, nI_leI, nI_ltI, nI_eq, Nat.reduceAdd, Nat.reduceMul, Nat.add_zero, Nat.mul_zero, up_at, up_up, up_vI, vI_at, am_n hv, hw, hn, h18, b2_if, n1, n2, n3, n4, e, e2]
      · simp (disch := first | omega | (show List.length _ ≤ 4; exact Nat.le_of_ble_eq_true rfl) | assumption | exact nbo_0 | exact nbo_1 | exact b2_b) only [s120_0, s120_1, s120_2, s120_3, s120_5, s120_6, s120_8, s120_9, s120_12, s120_13, s120_15, s120_16, s120_17, s120_18, s120_20, s120_21, s120_23, s120_25, s120_26, s120_27, s120_28, s120_31, s120_32, s120_33, s120_35, s120_38, s120_41, s120_42, s120_45, s120_46, s120_48, s120_49, s120_51, s120_54, s120_55, s120_58, s120_59, s120_60, s120_61, s120_62, s120_64, s120_66, s120_67, s120_68, s120_69, s120_71, s120_74, s120_75, s120_78, s120_79, s120_80, s120_81, s120_84, s120_87, s120_88, s120_90, s120_91, s120_92, s120_93, s120_96, s120_97, s120_100, s120_101, s120_102, s120_103, s120_104, s120_105, s120_107, s120_108, s120_109, s120_110, s120_111, s120_112, s120_113, s120_116, s120_117, s120_118, s120_119, s120_120, s120_121, s120_123, s120_124, s120_125, s120_126, s120_127, s120_130, s120_131, s120_132, s120_133, s120_136, s120_139, s120_140, s120_143, s120_144, s120_145, s120_146, s120_149, s120_152, s120_153, s120_155, s120_156, s120_157, s120_158, s120_159, s120_160, s120_161, ↓reduceIte, psh_some, psh_none, cln_i, cln_r, cln_n, cln_l, cln_d, cln_f, Option.bind_some, Option.bind_none, if_true, if_false, nI_add, pk_mul, nbo_0, nbo_1, nI_leI, nI_ltI, nI_eq, Nat.reduceAdd, Nat.reduceMul, Nat.add_zero, Nat.mul_zero, up_at, up_up, up_vI, vI_at, am_n hv, hw, hn, h18, b2_if, n1, n2, n3, n4, n5, e, e2]
    · have e0 : s (38 + i) = 0 := by omega
      have e1 : ¬ (0 : Nat) = 1 := by decide
      simp (disch := first | omega | (show List.length _ ≤ 4; exact Nat.le_of_ble_eq_true rfl) | assumption | exact nbo_0 | exact nbo_1 | exact b2_b) only [s120_0, s120_1, s120_2, s120_3, s120_5, s120_6, s120_8, s120_9, s120_12, s120_13, s120_15, s120_16, s120_17, s120_18, s120_20, s120_21, s120_23, s120_25, s120_26, s120_27, s120_28, s120_31, s120_32, s120_33, s120_35, s120_38, s120_41, s120_42, s120_45, s120_46, s120_48, s120_49, s120_51, s120_54, s120_55, s120_58, s120_59, s120_60, s120_61, s120_62, s120_64, s120_66, s120_67, s120_68, s120_69, s120_71, s120_74, s120_75, s120_78, s120_79, s120_80, s120_81, s120_84, s120_87, s120_88, s120_90, s120_91, s120_92, s120_93, s120_96, s120_97, s120_100, s120_101, s120_102, s120_103, s120_104, s120_105, s120_107, s120_108, s120_109, s120_110, s120_111, s120_112, s120_113, s120_116, s120_117, s120_118, s120_119, s120_120, s120_121, s120_123, s120_124, s120_125, s120_126, s120_127, s120_130, s120_131, s120_132, s120_133, s120_136, s120_139, s120_140, s120_143, s120_144, s120_145, s120_146, s120_149, s120_152, s120_153, s120_155, s120_156, s120_157, s120_158, s120_159, s120_160, s120_161, ↓reduceIte, psh_some, psh_none, cln_i, cln_r, cln_n, cln_l, cln_d, cln_f, Option.bind_some, Option.bind_none, if_true, if_false, nI_add, pk_mul, nbo_0, nbo_1, nI_leI, nI_ltI, nI_eq, Nat.reduceAdd, Nat.reduceMul, Nat.add_zero, Nat.mul_zero, up_at, up_up, up_vI, vI_at, am_n hv, hw, hn, h18, b2_if, n3, n4, n5, e0, e1, up_self]
theorem p120a {t : Nat} (hv : v = 225 ∨ v = 226) (ht : t < 6) : ∀ d k (p : (Nat → Nat) × Nat) (l4 l5 : Option Value), k + d = p.1 13 → WO p.1 → EE 120 4 [some (.ref v), some (.int (nI t)), some (.int (nI p.2)), some (.int (nI k)), l4, l5] [] (210, up I v (vI p.1), R) = some (some (.int (nI (fd (msF t) d k p).2)), 210, up I v (vI (tot (fd (bgF t) (p.1 1) 0 (fd (msF t) d k p).1, (fd (msF t) d k p).2))), R) := by
  intro d
  have hw : ∀ {J : Nat → Nat → Int32} {k : Nat} {z : Int32}, k < 148 → wI J v (nI k).toNatClampNeg z = up J v (up (J v) k z) := fun {J k z} h => wm_n hv (by omega)
  have hc : ∀ {k : Nat}, k < 148 → acI 5 210 v (nI k) := fun {k} h => cm_n hv h
  induction d with
  | zero =>
    intro k p l4 l5 h hs
    have hL := hs.li
    have hn : p.1 13 ≤ k := by omega
    refine Eq.trans ?_ (p120b (I := I) (R := R) (m := p.2) hv ht (p.1 1) 0 p.1 l4 l5 (by omega) hs)
    rw [s120_4]
    simp (disch := first | omega | (show List.length _ ≤ 4; exact Nat.le_of_ble_eq_true rfl) | assumption | exact nbo_0 | exact nbo_1 | exact b2_b) only [s120_0, s120_1, s120_2, s120_3, s120_5, s120_6, s120_8, s120_9, s120_12, s120_13, s120_15, s120_16, s120_17, s120_18, s120_20, s120_21, s120_23, s120_25, s120_26, s120_27, s120_28, s120_31, s120_32, s120_33, s120_35, s120_38, s120_41, s120_42, s120_45, s120_46, s120_48, s120_49, s120_51, s120_54, s120_55, s120_58, s120_59, s120_60, s120_61, s120_62, s120_64, s120_66, s120_67, s120_68, s120_69, s120_71, s120_74, s120_75, s120_78, s120_79, s120_80, s120_81, s120_84, s120_87, s120_88, s120_90, s120_91, s120_92, s120_93, s120_96, s120_97, s120_100, s120_101, s120_102, s120_103, s120_104, s120_105, s120_107, s120_108, s120_109, s120_110, s120_111, s120_112, s120_113, s120_116, s120_117, s120_118, s120_119, s120_120, s120_121, s120_123, s120_124, s120_125, s120_126, s120_127, s120_130, s120_131, s120_132, s120_133, s120_136, s120_139, s120_140, s120_143, s120_144, s120_145, s120_146, s120_149, s120_152, s120_153, s120_155, s120_156, s120_157, s120_158, s120_159, s120_160, s120_161, ↓reduceIte, psh_some, psh_none, cln_i, cln_r, cln_n, cln_l, cln_d, cln_f, Option.bind_some, Option.bind_none, if_true, if_false, nI_add, pk_mul, nbo_0, nbo_1, nI_leI, nI_ltI, nI_eq, Nat.reduceAdd, Nat.reduceMul, Nat.add_zero, Nat.mul_zero, up_at, up_up, up_vI, vI_at, am_n hv, hn]
  | succ d ih =>
    intro k p l4 l5 h hs
    have hT := hs.tp
    have hL := hs.li
    have hn : ¬ p.1 13 ≤ k := by omega
    have hx := hs.le k (by omega)
    have m1 := msF_ok (w := t) (i := k) (p := p) hs (by omega)
    have h18 := f118 (I := up I v (vI p.1)) (R := R) (w := t) (t := p.1 (48 + k)) hv (up_at I v _) hs ht (by omega)
    have hop := hs.op (p.1 (48 + k)) (by omega)
    have l1 := hs.lv t (p.1 (48 + k)) ht (by omega)
    have c1 := hc (k := 118 + p.1 (48 + k)) (by omega)
    show _ = some (some (Value.int (nI (fd (msF t) d (k + 1) (msF t k p)).2)), 210, up I v (vI (tot (fd (bgF t) (p.1 1) 0 (fd (msF t) d (k + 1) (msF t k p)).1, (fd (msF t) d (k + 1) (msF t k p)).2))), R)
    have i1 := fun l4 l5 => ih (k + 1) (msF t k p) l4 l5 (by rw [m1.2 13 (by omega)]; omega) m1.1
    rw [m1.2 1 (by omega)] at i1
    rw [s120_4]
    have e1 : ¬ nI 1 = 0 := by decide
    have e9 : (nI 0 = (0 : Int32)) = True := eq_true (by decide)
    by_cases e : p.1 (38 + p.1 (48 + k)) = 1
    · by_cases e2 : p.1 2 ≤ p.1 (58 + 10 * t + p.1 (48 + k))
      · refine Eq.trans ?_ (i1 (some (.int (nI (p.1 (48 + k))))) (some (.int (nI 0))))
        have em : msF t k p = p := if_neg (fun h => by have := h.2; omega)
        rw [em]
        simp (disch := first | omega | (show List.length _ ≤ 4; exact Nat.le_of_ble_eq_true rfl) | assumption | exact nbo_0 | exact nbo_1 | exact b2_b) only [s120_0, s120_1, s120_2, s120_3, s120_5, s120_6, s120_8, s120_9, s120_12, s120_13, s120_15, s120_16, s120_17, s120_18, s120_20, s120_21, s120_23, s120_25, s120_26, s120_27, s120_28, s120_31, s120_32, s120_33, s120_35, s120_38, s120_41, s120_42, s120_45, s120_46, s120_48, s120_49, s120_51, s120_54, s120_55, s120_58, s120_59, s120_60, s120_61, s120_62, s120_64, s120_66, s120_67, s120_68, s120_69, s120_71, s120_74, s120_75, s120_78, s120_79, s120_80, s120_81, s120_84, s120_87, s120_88, s120_90, s120_91, s120_92, s120_93, s120_96, s120_97, s120_100, s120_101, s120_102, s120_103, s120_104, s120_105, s120_107, s120_108, s120_109, s120_110, s120_111, s120_112, s120_113, s120_116, s120_117, s120_118, s120_119, s120_120, s120_121, s120_123, s120_124, s120_125, s120_126, s120_127, s120_130, s120_131, s120_132, s120_133, s120_136, s120_139, s120_140, s120_143, s120_144, s120_145, s120_146, s120_149, s120_152, s120_153, s120_155, s120_156, s120_157, s120_158, s120_159, s120_160, s120_161, ↓reduceIte, psh_some, psh_none, cln_i, cln_r, cln_n, cln_l, cln_d, cln_f, Option.bind_some, Option.bind_none, if_true, if_false, nI_add, pk_mul, nbo_0, nbo_1, nI_leI, nI_ltI, nI_eq, Nat.reduceAdd, Nat.reduceMul, Nat.add_zero, Nat.mul_zero, up_at, up_up, up_vI, vI_at, am_n hv, hw, hn, h18, b2_if, e, e2, e1, e9, up_self]
      · refine Eq.trans ?_ (i1 (some (.int (nI (p.1 (48 + k))))) (some (.int (nI 1))))
        have em : msF t k p = (up p.1 (118 + p.1 (48 + k)) (p.1 (118 + p.1 (48 + k)) + 1), p.2 + 1) := if_pos ⟨e, by omega⟩
        rw [em]
        simp (disch := first | omega | (show List.length _ ≤ 4; exact Nat.le_of_ble_eq_true rfl) | assumption | exact nbo_0 | exact nbo_1 | exact b2_b) only [s120_0, s120_1, s120_2, s120_3, s120_5, s120_6, s120_8, s120_9, s120_12, s120_13, s120_15, s120_16, s120_17, s120_18, s120_20, s120_21, s120_23, s120_25, s120_26, s120_27, s120_28, s120_31, s120_32, s120_33, s120_35, s120_38, s120_41, s120_42, s120_45, s120_46, s120_48, s120_49, s120_51, s120_54, s120_55, s120_58, s120_59, s120_60, s120_61, s120_62, s120_64, s120_66, s120_67, s120_68, s120_69, s120_71, s120_74, s120_75, s120_78, s120_79, s120_80, s120_81, s120_84, s120_87, s120_88, s120_90, s120_91, s120_92, s120_93, s120_96, s120_97, s120_100, s120_101, s120_102, s120_103, s120_104, s120_105, s120_107, s120_108, s120_109, s120_110, s120_111, s120_112, s120_113, s120_116, s120_117, s120_118, s120_119, s120_120, s120_121, s120_123, s120_124, s120_125, s120_126, s120_127, s120_130, s120_131, s120_132, s120_133, s120_136, s120_139, s120_140, s120_143, s120_144, s120_145, s120_146, s120_149, s120_152, s120_153, s120_155, s120_156, s120_157, s120_158, s120_159, s120_160, s120_161, ↓reduceIte, psh_some, psh_none, cln_i, cln_r, cln_n, cln_l, cln_d, cln_f, Option.bind_some, Option.bind_none, if_true, if_false, nI_add, pk_mul, nbo_0, nbo_1, nI_leI, nI_ltI, nI_eq, Nat.reduceAdd, Nat.reduceMul, Nat.add_zero, Nat.mul_zero, up_at, up_up, up_vI, vI_at, am_n hv, hw, hn, h18, b2_if, e, e2, e1, e9, up_self]
    · refine Eq.trans ?_ (i1 (some (.int (nI (p.1 (48 + k))))) (some (.int (nI 0))))
      have em : msF t k p = p := if_neg (fun h => e h.1)
      rw [em]
      simp (disch := first | omega | (show List.length _ ≤ 4; exact Nat.le_of_ble_eq_true rfl) | assumption | exact nbo_0 | exact nbo_1 | exact b2_b) only [s120_0, s120_1, s120_2, s120_3, s120_5, s120_6, s120_8, s120_9, s120_12, s120_13, s120_15, s120_16, s120_17, s120_18, s120_20, s120_21, s120_23, s120_25, s120_26, s120_27, s120_28, s120_31, s120_32, s120_33, s120_35, s120_38, s120_41, s120_42, s120_45, s120_46, s120_48, s120_49, s120_51, s120_54, s120_55, s120_58, s120_59, s120_60, s120_61, s120_62, s120_64, s120_66, s120_67, s120_68, s120_69, s120_71, s120_74, s120_75, s120_78, s120_79, s120_80, s120_81, s120_84, s120_87, s120_88, s120_90, s120_91, s120_92, s120_93, s120_96, s120_97, s120_100, s120_101, s120_102, s120_103, s120_104, s120_105, s120_107, s120_108, s120_109, s120_110, s120_111, s120_112, s120_113, s120_116, s120_117, s120_118, s120_119, s120_120, s120_121, s120_123, s120_124, s120_125, s120_126, s120_127, s120_130, s120_131, s120_132, s120_133, s120_136, s120_139, s120_140, s120_143, s120_144, s120_145, s120_146, s120_149, s120_152, s120_153, s120_155, s120_156, s120_157, s120_158, s120_159, s120_160, s120_161, ↓reduceIte, psh_some, psh_none, cln_i, cln_r, cln_n, cln_l, cln_d, cln_f, Option.bind_some, Option.bind_none, if_true, if_false, nI_add, pk_mul, nbo_0, nbo_1, nI_leI, nI_ltI, nI_eq, Nat.reduceAdd, Nat.reduceMul, Nat.add_zero, Nat.mul_zero, up_at, up_up, up_vI, vI_at, am_n hv, hw, hn, e, e1, e9, up_self]
theorem f120 {t : Nat} (hv : v = 225 ∨ v = 226) (hI : I v = vI a) (hW : WO a) (ht : t < 6) : FF 120 [.ref v, .int (nI t)] (210, I, R) = some (some (.int (nI (msE t (fd (bgF t) (a 1) 0 a)).2)), 210, up I v (vI (tot (msE t (fd (bgF t) (a 1) 0 a)))), R) := by
  have h := p120a (I := I) (R := R) hv ht (a 13) 0 (a, 0) none none (by show 0 + a 13 = a 13; omega) hW
  have hb := bgA_ok (t := t) (n := a 1) hW hW.tp
  have e : msE t (fd (bgF t) (a 1) 0 a) = (fd (bgF t) (a 1) 0 (fd (msF t) (a 13) 0 (a, 0)).1, (fd (msF t) (a 13) 0 (a, 0)).2) := by
    unfold msE
    rw [hb.2 13 (by omega)]
    exact msbg ht hW.tp (a 13) 0 0 a hW (by omega)
  rw [up_eq hI] at h
  rw [e]
  refine Eq.trans ?_ h
  simp (disch := first | omega | (show List.length _ ≤ 4; exact Nat.le_of_ble_eq_true rfl) | assumption | exact nbo_0 | exact nbo_1 | exact b2_b) only [FE120, s120_0, s120_1, s120_2, s120_3, ↓reduceIte, psh_some, psh_none, cln_i, cln_r, cln_n, cln_l, cln_d, cln_f, Option.bind_some, Option.bind_none, if_true, if_false, nI_add, pk_mul, nbo_0, nbo_1, nI_leI, nI_ltI, nI_eq, Nat.reduceAdd, Nat.reduceMul, Nat.add_zero, Nat.mul_zero]
theorem f115 (hv : v = 225 ∨ v = 226) (hI : I v = vI a) (hW : WO a) (h0 : a 0 < 2 ^ 30) : FF 115 [.ref v] (210, I, R) = some (some (.int (nI (endP (a (26 + a 0 % 12)) a).2)), 210, up I v (vI (tot (endP (a (26 + a 0 % 12)) a))), R) := by
  have hw : ∀ {J : Nat → Nat → Int32} {k : Nat} {z : Int32}, k < 148 → wI J v (nI k).toNatClampNeg z = up J v (up (J v) k z) := fun {J k z} h => wm_n hv (by omega)
  have hc : ∀ {k : Nat}, k < 148 → acI 5 210 v (nI k) := fun {k} h => cm_n hv h
  have hm := Nat.mod_lt (a 0) (show 12 > 0 by decide)
  have hT := hW.tp
  have hf : frm a < 6 := hW.ro _ (Nat.mod_lt _ (by decide))
  have ht : too a < 6 := hW.ro _ (Nat.mod_lt _ (by decide))
  have k1 := wkA_ok hW
  have k2 := hands_ok (n := a (26 + a 0 % 12)) hf ht k1.1
  have k3 : WO (shN (hands (frm a) (too a) (a (26 + a 0 % 12)) (wkA a))) := k2.1.up_ct (by omega)
  have k3' : ∀ k, 1 ≤ k → shN (hands (frm a) (too a) (a (26 + a 0 % 12)) (wkA a)) k = hands (frm a) (too a) (a (26 + a 0 % 12)) (wkA a) k := fun k hk => up_ne (by omega)
  have k4 := dcA_ok (t := too a) k3
  have e1 : dcA (too a) (shN (hands (frm a) (too a) (a (26 + a 0 % 12)) (wkA a))) 1 = a 1 := by rw [k4.2 1 (by omega), k3' 1 (by omega), k2.2 1 (by omega) (by omega), k1.2 1 (by omega)]
  have hA : FF 115 [.ref v] (210, I, R) = EE 115 20 [some (.ref v), some (.int (nI (frm a))), some (.int (nI (too a))), some (.int (nI 0))] [] (210, up I v (vI a), R) := by
    rw [up_eq hI]
    have g1 := f111 (R := R) (x := a 0) hv hI (by omega)
    have g2 := f111 (R := R) (x := a 0 + 1) hv hI (by omega)
    simp (disch := first | omega | (show List.length _ ≤ 4; exact Nat.le_of_ble_eq_true rfl) | assumption | exact nbo_0 | exact nbo_1 | exact b2_b) only [FE115, s115_0, s115_1, s115_2, s115_3, s115_4, s115_7, s115_8, s115_9, s115_10, s115_11, s115_12, s115_13, s115_14, s115_17, s115_18, s115_19, s115_21, s115_22, s115_23, s115_24, s115_27, s115_28, s115_30, s115_31, s115_32, s115_33, s115_34, s115_37, s115_38, s115_39, s115_40, s115_43, s115_44, s115_45, s115_46, s115_48, s115_51, s115_54, s115_57, s115_58, s115_59, s115_62, s115_63, s115_64, s115_65, s115_68, s115_69, s115_70, s115_71, s115_72, s115_73, s115_74, s115_75, s115_76, s115_77, s115_80, s115_81, s115_82, s115_85, ↓reduceIte, psh_some, psh_none, cln_i, cln_r, cln_n, cln_l, cln_d, cln_f, Option.bind_some, Option.bind_none, if_true, if_false, nI_add, pk_mul, nbo_0, nbo_1, nI_leI, nI_ltI, nI_eq, Nat.reduceAdd, Nat.reduceMul, Nat.add_zero, Nat.mul_zero, am_n hv, hI, vI_at, g1, g2]
    rfl
  have main := fd_loop (E := fun i s => EE 115 20 [some (.ref v), some (.int (nI (frm a))), some (.int (nI (too a))), some (.int (nI i))] [] (210, up I v (vI s), R)) (f := wkF (frm a)) (Inv := fun i s => WO s ∧ s 1 = a 1) (a 1) (by
    intro i s hi ⟨h1, h2⟩
    have hk := wkF_ok (w := frm a) (i := i) hf h1 (by omega)
    refine ⟨?_, hk.1, by rw [hk.2 1 (by omega)]; exact h2⟩
    have hn : ¬ s 1 ≤ i := by omega
    have h5 := h1.wk
    have hl := h1.lv (frm a) i hf (by omega)
    have hop := h1.op i (by omega)
    have h8 := f108 (I := up I v (vI s)) (R := R) (k := 58 + 10 * frm a + i) (x := s 5) (y := 100) hv (up_at I v _) (by omega) (by omega) (by omega)
    show EE 115 20 _ _ _ = EE 115 20 _ _ _
    rw [s115_20]
    unfold wkF
    by_cases e : s (38 + i) = 1
    · simp (disch := first | omega | (show List.length _ ≤ 4; exact Nat.le_of_ble_eq_true rfl) | assumption | exact nbo_0 | exact nbo_1 | exact b2_b) only [s115_0, s115_1, s115_2, s115_3, s115_4, s115_7, s115_8, s115_9, s115_10, s115_11, s115_12, s115_13, s115_14, s115_17, s115_18, s115_19, s115_21, s115_22, s115_23, s115_24, s115_27, s115_28, s115_30, s115_31, s115_32, s115_33, s115_34, s115_37, s115_38, s115_39, s115_40, s115_43, s115_44, s115_45, s115_46, s115_48, s115_51, s115_54, s115_57, s115_58, s115_59, s115_62, s115_63, s115_64, s115_65, s115_68, s115_69, s115_70, s115_71, s115_72, s115_73, s115_74, s115_75, s115_76, s115_77, s115_80, s115_81, s115_82, s115_85, ↓reduceIte, psh_some, psh_none, cln_i, cln_r, cln_n, cln_l, cln_d, cln_f, Option.bind_some, Option.bind_none, if_true, if_false, nI_add, pk_mul, nbo_0, nbo_1, nI_leI, nI_ltI, nI_eq, Nat.reduceAdd, Nat.reduceMul, Nat.add_zero, Nat.mul_zero, up_at, up_up, up_vI, vI_at, am_n hv, f107, h8, hn, e]
    · simp (disch := first | omega | (show List.length _ ≤ 4; exact Nat.le_of_ble_eq_true rfl) | assumption | exact nbo_0 | exact nbo_1 | exact b2_b) only [s115_0, s115_1, s115_2, s115_3, s115_4, s115_7, s115_8, s115_9, s115_10, s115_11, s115_12, s115_13, s115_14, s115_17, s115_18, s115_19, s115_21, s115_22, s115_23, s115_24, s115_27, s115_28, s115_30, s115_31, s115_32, s115_33, s115_34, s115_37, s115_38, s115_39, s115_40, s115_43, s115_44, s115_45, s115_46, s115_48, s115_51, s115_54, s115_57, s115_58, s115_59, s115_62, s115_63, s115_64, s115_65, s115_68, s115_69, s115_70, s115_71, s115_72, s115_73, s115_74, s115_75, s115_76, s115_77, s115_80, s115_81, s115_82, s115_85, ↓reduceIte, psh_some, psh_none, cln_i, cln_r, cln_n, cln_l, cln_d, cln_f, Option.bind_some, Option.bind_none, if_true, if_false, nI_add, pk_mul, nbo_0, nbo_1, nI_leI, nI_ltI, nI_eq, Nat.reduceAdd, Nat.reduceMul, Nat.add_zero, Nat.mul_zero, up_at, up_up, up_vI, vI_at, am_n hv, hn, e]) (a 1) 0 a (by omega) ⟨hW, rfl⟩
  obtain ⟨m1, m2, m3⟩ := main
  rw [hA]
  refine m1.trans ?_
  show EE 115 20 [some (.ref v), some (.int (nI (frm a))), some (.int (nI (too a))), some (.int (nI (a 1)))] [] (210, up I v (vI (wkA a)), R) = _
  have e3 : wkA a 1 ≤ a 1 := by rw [k1.2 1 (by omega)]; exact Nat.le_refl _
  have e4 : a 1 < 2 ^ 31 := by omega
  have hB : EE 115 57 [some (.ref v), some (.int (nI (frm a))), some (.int (nI (too a))), some (.int (nI (a 1)))] [] (210, up I v (vI (wkA a)), R) = EE 115 68 [some (.ref v), some (.int (nI (frm a))), some (.int (nI (too a))), some (.int (nI (a 1)))] [] (210, up I v (vI (hands (frm a) (too a) (a (26 + a 0 % 12)) (wkA a))), R) := by
    unfold hands
    by_cases e : frm a = too a
    · have e2 : too a = frm a := e.symm
      rw [if_pos e, s115_57]
      simp (disch := first | omega | (show List.length _ ≤ 4; exact Nat.le_of_ble_eq_true rfl) | assumption | exact nbo_0 | exact nbo_1 | exact b2_b) only [s115_0, s115_1, s115_2, s115_3, s115_4, s115_7, s115_8, s115_9, s115_10, s115_11, s115_12, s115_13, s115_14, s115_17, s115_18, s115_19, s115_21, s115_22, s115_23, s115_24, s115_27, s115_28, s115_30, s115_31, s115_32, s115_33, s115_34, s115_37, s115_38, s115_39, s115_40, s115_43, s115_44, s115_45, s115_46, s115_48, s115_51, s115_54, s115_58, s115_59, s115_62, s115_63, s115_64, s115_65, s115_69, s115_70, s115_71, s115_72, s115_73, s115_74, s115_75, s115_76, s115_77, s115_80, s115_81, s115_82, s115_85, ↓reduceIte, psh_some, psh_none, cln_i, cln_r, cln_n, cln_l, cln_d, cln_f, Option.bind_some, Option.bind_none, if_true, if_false, nI_add, pk_mul, nbo_0, nbo_1, nI_leI, nI_ltI, nI_eq, Nat.reduceAdd, Nat.reduceMul, Nat.add_zero, Nat.mul_zero, e2]
    · have e2 : ¬ too a = frm a := fun h => e h.symm
      have w0 : wkA a 0 = a 0 := k1.2 0 (by omega)
      have w26 : wkA a (26 + a 0 % 12) = a (26 + a 0 % 12) := k1.2 _ (by omega)
      have g := f116 (I := up I v (vI (wkA a))) (R := R) hv (up_at I v _) k1.1 (by rw [w0]; exact h0) hf ht e
      rw [w0, w26, up_up] at g
      rw [if_neg e, s115_57]
      simp (disch := first | omega | (show List.length _ ≤ 4; exact Nat.le_of_ble_eq_true rfl) | assumption | exact nbo_0 | exact nbo_1 | exact b2_b) only [s115_0, s115_1, s115_2, s115_3, s115_4, s115_7, s115_8, s115_9, s115_10, s115_11, s115_12, s115_13, s115_14, s115_17, s115_18, s115_19, s115_21, s115_22, s115_23, s115_24, s115_27, s115_28, s115_30, s115_31, s115_32, s115_33, s115_34, s115_37, s115_38, s115_39, s115_40, s115_43, s115_44, s115_45, s115_46, s115_48, s115_51, s115_54, s115_58, s115_59, s115_62, s115_63, s115_64, s115_65, s115_69, s115_70, s115_71, s115_72, s115_73, s115_74, s115_75, s115_76, s115_77, s115_80, s115_81, s115_82, s115_85, ↓reduceIte, psh_some, psh_none, cln_i, cln_r, cln_n, cln_l, cln_d, cln_f, Option.bind_some, Option.bind_none, if_true, if_false, nI_add, pk_mul, nbo_0, nbo_1, nI_leI, nI_ltI, nI_eq, Nat.reduceAdd, Nat.reduceMul, Nat.add_zero, Nat.mul_zero, e2, g]
  have c0 := hc (k := 0) (by omega)
  have g1 := f119 (I := up I v (vI (shN (hands (frm a) (too a) (a (26 + a 0 % 12)) (wkA a))))) (R := R) hv (up_at I v _) k3 ht
  rw [up_up] at g1
  have g2 := f120 (I := up I v (vI (dcA (too a) (shN (hands (frm a) (too a) (a (26 + a 0 % 12)) (wkA a)))))) (R := R) hv (up_at I v _) k4.1 ht
  rw [up_up, e1] at g2
  have hC : EE 115 68 [some (.ref v), some (.int (nI (frm a))), some (.int (nI (too a))), some (.int (nI (a 1)))] [] (210, up I v (vI (hands (frm a) (too a) (a (26 + a 0 % 12)) (wkA a))), R) = EE 115 75 [some (.ref v), some (.int (nI (frm a))), some (.int (nI (too a))), some (.int (nI (a 1)))] [] (210, up I v (vI (shN (hands (frm a) (too a) (a (26 + a 0 % 12)) (wkA a)))), R) := by
    rw [s115_68]
    simp (disch := first | omega | (show List.length _ ≤ 4; exact Nat.le_of_ble_eq_true rfl) | assumption | exact nbo_0 | exact nbo_1 | exact b2_b) only [s115_0, s115_1, s115_2, s115_3, s115_4, s115_7, s115_8, s115_9, s115_10, s115_11, s115_12, s115_13, s115_14, s115_17, s115_18, s115_19, s115_21, s115_22, s115_23, s115_24, s115_27, s115_28, s115_30, s115_31, s115_32, s115_33, s115_34, s115_37, s115_38, s115_39, s115_40, s115_43, s115_44, s115_45, s115_46, s115_48, s115_51, s115_54, s115_58, s115_59, s115_62, s115_63, s115_64, s115_65, s115_69, s115_70, s115_71, s115_72, s115_73, s115_74, s115_76, s115_77, s115_80, s115_81, s115_82, s115_85, ↓reduceIte, psh_some, psh_none, cln_i, cln_r, cln_n, cln_l, cln_d, cln_f, Option.bind_some, Option.bind_none, if_true, if_false, nI_add, pk_mul, nbo_0, nbo_1, nI_leI, nI_ltI, nI_eq, Nat.reduceAdd, Nat.reduceMul, Nat.add_zero, Nat.mul_zero, up_at, up_up, up_vI, vI_at, am_n hv, hw]
    rfl
  have hD : EE 115 20 [some (.ref v), some (.int (nI (frm a))), some (.int (nI (too a))), some (.int (nI (a 1)))] [] (210, up I v (vI (wkA a)), R) = EE 115 57 [some (.ref v), some (.int (nI (frm a))), some (.int (nI (too a))), some (.int (nI (a 1)))] [] (210, up I v (vI (wkA a)), R) := by
    have e5 : wkA a 1 = a 1 := k1.2 1 (by omega)
    have e6 : a 1 ≤ a 1 := Nat.le_refl _
    rw [s115_20]
    simp (disch := first | omega | (show List.length _ ≤ 4; exact Nat.le_of_ble_eq_true rfl) | assumption | exact nbo_0 | exact nbo_1 | exact b2_b) only [s115_0, s115_1, s115_2, s115_3, s115_4, s115_7, s115_8, s115_9, s115_10, s115_11, s115_12, s115_13, s115_14, s115_17, s115_18, s115_19, s115_21, s115_22, s115_23, s115_24, s115_27, s115_28, s115_30, s115_31, s115_32, s115_33, s115_34, s115_37, s115_38, s115_39, s115_40, s115_43, s115_44, s115_45, s115_46, s115_48, s115_51, s115_54, s115_58, s115_59, s115_62, s115_63, s115_64, s115_65, s115_69, s115_70, s115_71, s115_72, s115_73, s115_74, s115_76, s115_77, s115_80, s115_81, s115_82, s115_85, ↓reduceIte, psh_some, psh_none, cln_i, cln_r, cln_n, cln_l, cln_d, cln_f, Option.bind_some, Option.bind_none, if_true, if_false, nI_add, pk_mul, nbo_0, nbo_1, nI_leI, nI_ltI, nI_eq, Nat.reduceAdd, Nat.reduceMul, Nat.add_zero, Nat.mul_zero, up_at, up_up, up_vI, vI_at, am_n hv, e5, e6]
  rw [hD, hB, hC, s115_75]
  simp (disch := first | omega | (show List.length _ ≤ 4; exact Nat.le_of_ble_eq_true rfl) | assumption | exact nbo_0 | exact nbo_1 | exact b2_b) only [s115_0, s115_1, s115_2, s115_3, s115_4, s115_7, s115_8, s115_9, s115_10, s115_11, s115_12, s115_13, s115_14, s115_17, s115_18, s115_19, s115_21, s115_22, s115_23, s115_24, s115_27, s115_28, s115_30, s115_31, s115_32, s115_33, s115_34, s115_37, s115_38, s115_39, s115_40, s115_43, s115_44, s115_45, s115_46, s115_48, s115_51, s115_54, s115_58, s115_59, s115_62, s115_63, s115_64, s115_65, s115_69, s115_70, s115_71, s115_72, s115_73, s115_74, s115_76, s115_77, s115_80, s115_81, s115_82, s115_85, ↓reduceIte, psh_some, psh_none, cln_i, cln_r, cln_n, cln_l, cln_d, cln_f, Option.bind_some, Option.bind_none, if_true, if_false, nI_add, pk_mul, nbo_0, nbo_1, nI_leI, nI_ltI, nI_eq, Nat.reduceAdd, Nat.reduceMul, Nat.add_zero, Nat.mul_zero, g1, g2]
  rfl
end M4
