/-! ===== the model's counterparts ===== -/
section M1
variable {M : Mm} {I : Nat → Nat → Int32} {R : Nat → Nat → Option Nat} {v : Nat} {a : Nat → Nat}
theorem f107 {w t : Nat} : FF 107 [.int (nI w), .int (nI t)] M = some (some (.int (nI (58 + 10 * w + t))), M) := by
  simp (disch := first | omega | (show List.length _ ≤ 4; exact Nat.le_of_ble_eq_true rfl) | assumption | exact nbo_0 | exact nbo_1 | exact b2_b) only [FE107, s107_0, s107_2, s107_4, s107_5, s107_6, s107_7, s107_8, s107_9, ↓reduceIte, psh_some, psh_none, cln_i, cln_r, cln_n, cln_l, cln_d, cln_f, Option.bind_some, Option.bind_none, if_true, if_false, nI_add, pk_mul, nbo_0, nbo_1, nI_leI, nI_ltI, nI_eq, Nat.reduceAdd, Nat.reduceMul, Nat.add_zero, Nat.mul_zero]
theorem f111 {x : Nat} (hv : v = 225 ∨ v = 226) (hI : I v = vI a) (hx : x < 2 ^ 31) : FF 111 [.ref v, .int (nI x)] (210, I, R) = some (some (.int (nI (a (14 + x % 12)))), 210, I, R) := by
  have h := Nat.mod_lt x (show 12 > 0 by decide)
  simp (disch := first | omega | (show List.length _ ≤ 4; exact Nat.le_of_ble_eq_true rfl) | assumption | exact nbo_0 | exact nbo_1 | exact b2_b) only [FE111, s111_0, s111_1, s111_3, s111_4, s111_6, s111_7, s111_8, s111_9, ↓reduceIte, psh_some, psh_none, cln_i, cln_r, cln_n, cln_l, cln_d, cln_f, Option.bind_some, Option.bind_none, if_true, if_false, nI_add, pk_mul, nbo_0, nbo_1, nI_leI, nI_ltI, nI_eq, Nat.reduceAdd, Nat.reduceMul, Nat.add_zero, Nat.mul_zero, am_n hv, hI, vI_at]
theorem f118 {w t : Nat} (hv : v = 225 ∨ v = 226) (hI : I v = vI a) (hW : WO a) (hw : w < 6) (ht : t < 10) : FF 118 [.ref v, .int (nI w), .int (nI t)] (210, I, R) = some (some (.int (b2 (a 2 ≤ a (58 + 10 * w + t)))), 210, I, R) := by
  have h1 := hW.lv w t hw ht
  have h2 := hW.kn
  simp (disch := first | omega | (show List.length _ ≤ 4; exact Nat.le_of_ble_eq_true rfl) | assumption | exact nbo_0 | exact nbo_1 | exact b2_b) only [FE118, s118_0, s118_1, s118_2, s118_3, s118_6, s118_7, s118_8, s118_9, s118_10, s118_13, s118_14, s118_17, s118_18, ↓reduceIte, psh_some, psh_none, cln_i, cln_r, cln_n, cln_l, cln_d, cln_f, Option.bind_some, Option.bind_none, if_true, if_false, nI_add, pk_mul, nbo_0, nbo_1, nI_leI, nI_ltI, nI_eq, Nat.reduceAdd, Nat.reduceMul, Nat.add_zero, Nat.mul_zero, am_n hv, hI, vI_at, f107]
  by_cases e : a 2 ≤ a (58 + 10 * w + t)
  · rw [if_neg (by omega), b2_t e]
  · rw [if_pos (by omega), b2_f e]
theorem f108 {k x y : Nat} (hv : v = 225 ∨ v = 226) (hI : I v = vI a) (hk : k < 148) (h1 : a k + x < 2 ^ 31) (hy : y < 2 ^ 31) : FF 108 [.ref v, .int (nI k), .int (nI x), .int (nI y)] (210, I, R) = some (none, 210, up I v (vI (up a k (min y (a k + x)))), R) := by
  have hc := cm_n hv hk
  have hw : ∀ {z : Int32}, wI I v (nI k).toNatClampNeg z = up I v (up (I v) k z) := fun {z} => wm_n hv (by omega)
  by_cases e : a k + x ≤ y
  · rw [Nat.min_eq_right e]
    simp (disch := first | omega | (show List.length _ ≤ 4; exact Nat.le_of_ble_eq_true rfl) | assumption | exact nbo_0 | exact nbo_1 | exact b2_b) only [FE108, s108_0, s108_1, s108_2, s108_3, s108_4, s108_5, s108_6, s108_7, s108_8, s108_11, s108_12, s108_15, s108_16, s108_17, s108_18, s108_19, s108_20, s108_21, ↓reduceIte, psh_some, psh_none, cln_i, cln_r, cln_n, cln_l, cln_d, cln_f, Option.bind_some, Option.bind_none, if_true, if_false, nI_add, pk_mul, nbo_0, nbo_1, nI_leI, nI_ltI, nI_eq, Nat.reduceAdd, Nat.reduceMul, Nat.add_zero, Nat.mul_zero, am_n hv, hI, vI_at, up_vI, hw, e]
  · rw [Nat.min_eq_left (by omega)]
    simp (disch := first | omega | (show List.length _ ≤ 4; exact Nat.le_of_ble_eq_true rfl) | assumption | exact nbo_0 | exact nbo_1 | exact b2_b) only [FE108, s108_0, s108_1, s108_2, s108_3, s108_4, s108_5, s108_6, s108_7, s108_8, s108_11, s108_12, s108_15, s108_16, s108_17, s108_18, s108_19, s108_20, s108_21, ↓reduceIte, psh_some, psh_none, cln_i, cln_r, cln_n, cln_l, cln_d, cln_f, Option.bind_some, Option.bind_none, if_true, if_false, nI_add, pk_mul, nbo_0, nbo_1, nI_leI, nI_ltI, nI_eq, Nat.reduceAdd, Nat.reduceMul, Nat.add_zero, Nat.mul_zero, am_n hv, hI, vI_at, up_vI, hw, e]
theorem p117b {f t : Nat} (hv : v = 225 ∨ v = 226) (hI : I v = vI a) (hW : WO a) (hf : f < 6) (ht : t < 6) : ∀ d i (s : Option Nat × Nat) (l6 : Option Value), i + d = a 1 → s.2 ≤ 100 → EE 117 75 [some (.ref v), some (.int (nI f)), some (.int (nI t)), some (.int (oN (-1) s.1)), some (.int (nI s.2)), some (.int (nI i)), l6] [] (210, I, R) = some (some (.int (oN (-1) (fd (wdF a f t) d i s).1)), 210, I, R) := by
  have hT := hW.tp
  intro d
  induction d with
  | zero =>
    intro i s l6 h _
    have hn : a 1 ≤ i := by omega
    rw [s117_75]
    simp (disch := first | omega | (show List.length _ ≤ 4; exact Nat.le_of_ble_eq_true rfl) | assumption | exact nbo_0 | exact nbo_1 | exact b2_b) only [s117_0, s117_1, s117_2, s117_3, s117_4, s117_6, s117_7, s117_10, s117_11, s117_13, s117_14, s117_15, s117_16, s117_18, s117_19, s117_21, s117_23, s117_24, s117_25, s117_26, s117_29, s117_30, s117_31, s117_33, s117_36, s117_39, s117_40, s117_41, s117_43, s117_46, s117_47, s117_48, s117_49, s117_51, s117_54, s117_55, s117_58, s117_60, s117_61, s117_64, s117_67, s117_68, s117_69, s117_70, s117_72, s117_73, s117_77, s117_78, s117_79, s117_80, s117_83, s117_84, s117_85, s117_87, s117_90, s117_91, s117_92, s117_93, s117_95, s117_98, s117_99, s117_100, s117_102, s117_103, s117_105, s117_107, s117_108, s117_109, s117_110, s117_113, s117_115, s117_117, s117_120, s117_122, s117_123, s117_125, s117_127, s117_130, s117_133, s117_134, ↓reduceIte, psh_some, psh_none, cln_i, cln_r, cln_n, cln_l, cln_d, cln_f, Option.bind_some, Option.bind_none, if_true, if_false, nI_add, pk_mul, nbo_0, nbo_1, nI_leI, nI_ltI, nI_eq, Nat.reduceAdd, Nat.reduceMul, Nat.add_zero, Nat.mul_zero, am_n hv, hI, vI_at, hn]
    rfl
  | succ d ih =>
    intro i s l6 h hs
    have l1 := hW.lv f i hf (by omega)
    have l2 := hW.lv t i ht (by omega)
    have l3 := hW.op i (by omega)
    have hn : ¬ a 1 ≤ i := by omega
    have hle := nI_ltsub _ l1 _ l2 _ hs
    have hs2 : (wdF a f t i s).2 ≤ 100 := by
      unfold wdF
      by_cases e : a (38 + i) = 1 ∧ s.2 + a (58 + 10 * t + i) < a (58 + 10 * f + i)
      · rw [if_pos e]; show a (58 + 10 * f + i) - a (58 + 10 * t + i) ≤ 100; omega
      · rw [if_neg e]; exact hs
    show _ = some (some (Value.int (oN (-1) (fd (wdF a f t) d (i + 1) (wdF a f t i s)).1)), 210, I, R)
    rw [← ih (i + 1) (wdF a f t i s) (some (.int (nI (a (58 + 10 * f + i)) - nI (a (58 + 10 * t + i))))) (by omega) hs2, s117_75]
    unfold wdF
    by_cases e : a (38 + i) = 1
    · by_cases e2 : s.2 + a (58 + 10 * t + i) < a (58 + 10 * f + i)
      · have e3 : ¬ a (58 + 10 * f + i) ≤ s.2 + a (58 + 10 * t + i) := by omega
        have e4 := nI_sub (x := a (58 + 10 * f + i)) (y := a (58 + 10 * t + i)) (by omega)
        rw [if_pos ⟨e, e2⟩]
        simp (disch := first | omega | (show List.length _ ≤ 4; exact Nat.le_of_ble_eq_true rfl) | assumption | exact nbo_0 | exact nbo_1 | exact b2_b) only [s117_0, s117_1, s117_2, s117_3, s117_4, s117_6, s117_7, s117_10, s117_11, s117_13, s117_14, s117_15, s117_16, s117_18, s117_19, s117_21, s117_23, s117_24, s117_25, s117_26, s117_29, s117_30, s117_31, s117_33, s117_36, s117_39, s117_40, s117_41, s117_43, s117_46, s117_47, s117_48, s117_49, s117_51, s117_54, s117_55, s117_58, s117_60, s117_61, s117_64, s117_67, s117_68, s117_69, s117_70, s117_72, s117_73, s117_77, s117_78, s117_79, s117_80, s117_83, s117_84, s117_85, s117_87, s117_90, s117_91, s117_92, s117_93, s117_95, s117_98, s117_99, s117_100, s117_102, s117_103, s117_105, s117_107, s117_108, s117_109, s117_110, s117_113, s117_115, s117_117, s117_120, s117_122, s117_123, s117_125, s117_127, s117_130, s117_133, s117_134, ↓reduceIte, psh_some, psh_none, cln_i, cln_r, cln_n, cln_l, cln_d, cln_f, Option.bind_some, Option.bind_none, if_true, if_false, nI_add, pk_mul, nbo_0, nbo_1, nI_leI, nI_ltI, nI_eq, Nat.reduceAdd, Nat.reduceMul, Nat.add_zero, Nat.mul_zero, am_n hv, hI, vI_at, f107, hn, e, hle, e3]
        rw [e4]
        rfl
      · have e3 : a (58 + 10 * f + i) ≤ s.2 + a (58 + 10 * t + i) := by omega
        rw [if_neg (fun h => e2 h.2)]
        simp (disch := first | omega | (show List.length _ ≤ 4; exact Nat.le_of_ble_eq_true rfl) | assumption | exact nbo_0 | exact nbo_1 | exact b2_b) only [s117_0, s117_1, s117_2, s117_3, s117_4, s117_6, s117_7, s117_10, s117_11, s117_13, s117_14, s117_15, s117_16, s117_18, s117_19, s117_21, s117_23, s117_24, s117_25, s117_26, s117_29, s117_30, s117_31, s117_33, s117_36, s117_39, s117_40, s117_41, s117_43, s117_46, s117_47, s117_48, s117_49, s117_51, s117_54, s117_55, s117_58, s117_60, s117_61, s117_64, s117_67, s117_68, s117_69, s117_70, s117_72, s117_73, s117_77, s117_78, s117_79, s117_80, s117_83, s117_84, s117_85, s117_87, s117_90, s117_91, s117_92, s117_93, s117_95, s117_98, s117_99, s117_100, s117_102, s117_103, s117_105, s117_107, s117_108, s117_109, s117_110, s117_113, s117_115, s117_117, s117_120, s117_122, s117_123, s117_125, s117_127, s117_130, s117_133, s117_134, ↓reduceIte, psh_some, psh_none, cln_i, cln_r, cln_n, cln_l, cln_d, cln_f, Option.bind_some, Option.bind_none, if_true, if_false, nI_add, pk_mul, nbo_0, nbo_1, nI_leI, nI_ltI, nI_eq, Nat.reduceAdd, Nat.reduceMul, Nat.add_zero, Nat.mul_zero, am_n hv, hI, vI_at, f107, hn, e, hle, e3]
    · rw [if_neg (fun h => e h.1)]
      simp (disch := first | omega | (show List.length _ ≤ 4; exact Nat.le_of_ble_eq_true rfl) | assumption | exact nbo_0 | exact nbo_1 | exact b2_b) only [s117_0, s117_1, s117_2, s117_3, s117_4, s117_6, s117_7, s117_10, s117_11, s117_13, s117_14, s117_15, s117_16, s117_18, s117_19, s117_21, s117_23, s117_24, s117_25, s117_26, s117_29, s117_30, s117_31, s117_33, s117_36, s117_39, s117_40, s117_41, s117_43, s117_46, s117_47, s117_48, s117_49, s117_51, s117_54, s117_55, s117_58, s117_60, s117_61, s117_64, s117_67, s117_68, s117_69, s117_70, s117_72, s117_73, s117_77, s117_78, s117_79, s117_80, s117_83, s117_84, s117_85, s117_87, s117_90, s117_91, s117_92, s117_93, s117_95, s117_98, s117_99, s117_100, s117_102, s117_103, s117_105, s117_107, s117_108, s117_109, s117_110, s117_113, s117_115, s117_117, s117_120, s117_122, s117_123, s117_125, s117_127, s117_130, s117_133, s117_134, ↓reduceIte, psh_some, psh_none, cln_i, cln_r, cln_n, cln_l, cln_d, cln_f, Option.bind_some, Option.bind_none, if_true, if_false, nI_add, pk_mul, nbo_0, nbo_1, nI_leI, nI_ltI, nI_eq, Nat.reduceAdd, Nat.reduceMul, Nat.add_zero, Nat.mul_zero, am_n hv, hI, vI_at, f107, hn, e]
theorem p117a {f t : Nat} (hv : v = 225 ∨ v = 226) (hI : I v = vI a) (hW : WO a) (hf : f < 6) (ht : t < 6) : ∀ d k (l4 : Option Value), k + d = a 13 → EE 117 2 [some (.ref v), some (.int (nI f)), some (.int (nI t)), some (.int (nI k)), l4, none, none] [] (210, I, R) = some (some (.int (oN (-1) (match fnd a f t d k with | some x => some x | none => (wd a f t).1))), 210, I, R) := by
  have hT := hW.tp
  have hL := hW.li
  intro d
  induction d with
  | zero =>
    intro k l4 h
    have hn : a 13 ≤ k := by omega
    have hb := p117b (R := R) hv hI hW hf ht (a 1) 0 (none, 0) none (by omega) (by decide)
    refine Eq.trans ?_ hb
    rw [s117_2]
    simp (disch := first | omega | (show List.length _ ≤ 4; exact Nat.le_of_ble_eq_true rfl) | assumption | exact nbo_0 | exact nbo_1 | exact b2_b) only [s117_0, s117_1, s117_3, s117_4, s117_6, s117_7, s117_10, s117_11, s117_13, s117_14, s117_15, s117_16, s117_18, s117_19, s117_21, s117_23, s117_24, s117_25, s117_26, s117_29, s117_30, s117_31, s117_33, s117_36, s117_39, s117_40, s117_41, s117_43, s117_46, s117_47, s117_48, s117_49, s117_51, s117_54, s117_55, s117_58, s117_60, s117_61, s117_64, s117_67, s117_68, s117_69, s117_70, s117_72, s117_73, s117_77, s117_78, s117_79, s117_80, s117_83, s117_84, s117_85, s117_87, s117_90, s117_91, s117_92, s117_93, s117_95, s117_98, s117_99, s117_100, s117_102, s117_103, s117_105, s117_107, s117_108, s117_109, s117_110, s117_113, s117_115, s117_117, s117_120, s117_122, s117_123, s117_125, s117_127, s117_130, s117_133, s117_134, ↓reduceIte, psh_some, psh_none, cln_i, cln_r, cln_n, cln_l, cln_d, cln_f, Option.bind_some, Option.bind_none, if_true, if_false, nI_add, pk_mul, nbo_0, nbo_1, nI_leI, nI_ltI, nI_eq, Nat.reduceAdd, Nat.reduceMul, Nat.add_zero, Nat.mul_zero, am_n hv, hI, vI_at, hn]
    rfl
  | succ d ih =>
    intro k l4 h
    have hx := hW.le k (by omega)
    have hn : ¬ a 13 ≤ k := by omega
    have l1 := hW.lv f (a (48 + k)) hf (by omega)
    have l2 := hW.lv t (a (48 + k)) ht (by omega)
    have l3 := hW.op (a (48 + k)) (by omega)
    have h8 := f118 (R := R) (w := t) (t := a (48 + k)) hv hI hW ht (by omega)
    unfold fnd
    rw [s117_2]
    by_cases e : a (38 + a (48 + k)) = 1
    · by_cases e2 : a 2 ≤ a (58 + 10 * t + a (48 + k))
      · rw [if_neg (fun h => by have := h.2.1; omega)]
        simp (disch := first | omega | (show List.length _ ≤ 4; exact Nat.le_of_ble_eq_true rfl) | assumption | exact nbo_0 | exact nbo_1 | exact b2_b) only [s117_0, s117_1, s117_3, s117_4, s117_6, s117_7, s117_10, s117_11, s117_13, s117_14, s117_15, s117_16, s117_18, s117_19, s117_21, s117_23, s117_24, s117_25, s117_26, s117_29, s117_30, s117_31, s117_33, s117_36, s117_39, s117_40, s117_41, s117_43, s117_46, s117_47, s117_48, s117_49, s117_51, s117_54, s117_55, s117_58, s117_60, s117_61, s117_64, s117_67, s117_68, s117_69, s117_70, s117_72, s117_73, s117_77, s117_78, s117_79, s117_80, s117_83, s117_84, s117_85, s117_87, s117_90, s117_91, s117_92, s117_93, s117_95, s117_98, s117_99, s117_100, s117_102, s117_103, s117_105, s117_107, s117_108, s117_109, s117_110, s117_113, s117_115, s117_117, s117_120, s117_122, s117_123, s117_125, s117_127, s117_130, s117_133, s117_134, ↓reduceIte, psh_some, psh_none, cln_i, cln_r, cln_n, cln_l, cln_d, cln_f, Option.bind_some, Option.bind_none, if_true, if_false, nI_add, pk_mul, nbo_0, nbo_1, nI_leI, nI_ltI, nI_eq, Nat.reduceAdd, Nat.reduceMul, Nat.add_zero, Nat.mul_zero, am_n hv, hI, vI_at, f107, h8, b2_if, hn, e, e2]
        exact ih (k + 1) _ (by omega)
      · by_cases e3 : a (58 + 10 * t + a (48 + k)) < a (58 + 10 * f + a (48 + k))
        · have e4 : ¬ a (58 + 10 * f + a (48 + k)) ≤ a (58 + 10 * t + a (48 + k)) := by omega
          rw [if_pos ⟨e, by omega, e3⟩]
          simp (disch := first | omega | (show List.length _ ≤ 4; exact Nat.le_of_ble_eq_true rfl) | assumption | exact nbo_0 | exact nbo_1 | exact b2_b) only [s117_0, s117_1, s117_3, s117_4, s117_6, s117_7, s117_10, s117_11, s117_13, s117_14, s117_15, s117_16, s117_18, s117_19, s117_21, s117_23, s117_24, s117_25, s117_26, s117_29, s117_30, s117_31, s117_33, s117_36, s117_39, s117_40, s117_41, s117_43, s117_46, s117_47, s117_48, s117_49, s117_51, s117_54, s117_55, s117_58, s117_60, s117_61, s117_64, s117_67, s117_68, s117_69, s117_70, s117_72, s117_73, s117_77, s117_78, s117_79, s117_80, s117_83, s117_84, s117_85, s117_87, s117_90, s117_91, s117_92, s117_93, s117_95, s117_98, s117_99, s117_100, s117_102, s117_103, s117_105, s117_107, s117_108, s117_109, s117_110, s117_113, s117_115, s117_117, s117_120, s117_122, s117_123, s117_125, s117_127, s117_130, s117_133, s117_134, ↓reduceIte, psh_some, psh_none, cln_i, cln_r, cln_n, cln_l, cln_d, cln_f, Option.bind_some, Option.bind_none, if_true, if_false, nI_add, pk_mul, nbo_0, nbo_1, nI_leI, nI_ltI, nI_eq, Nat.reduceAdd, Nat.reduceMul, Nat.add_zero, Nat.mul_zero, am_n hv, hI, vI_at, f107, h8, b2_if, hn, e, e2, e4]
          rfl
        · have e4 : a (58 + 10 * f + a (48 + k)) ≤ a (58 + 10 * t + a (48 + k)) := by omega
          rw [if_neg (fun h => e3 h.2.2)]
          simp (disch := first | omega | (show List.length _ ≤ 4; exact Nat.le_of_ble_eq_true rfl) | assumption | exact nbo_0 | exact nbo_1 | exact b2_b) only [s117_0, s117_1, s117_3, s117_4, s117_6, s117_7, s117_10, s117_11, s117_13, s117_14, s117_15, s117_16, s117_18, s117_19, s117_21, s117_23, s117_24, s117_25, s117_26, s117_29, s117_30, s117_31, s117_33, s117_36, s117_39, s117_40, s117_41, s117_43, s117_46, s117_47, s117_48, s117_49, s117_51, s117_54, s117_55, s117_58, s117_60, s117_61, s117_64, s117_67, s117_68, s117_69, s117_70, s117_72, s117_73, s117_77, s117_78, s117_79, s117_80, s117_83, s117_84, s117_85, s117_87, s117_90, s117_91, s117_92, s117_93, s117_95, s117_98, s117_99, s117_100, s117_102, s117_103, s117_105, s117_107, s117_108, s117_109, s117_110, s117_113, s117_115, s117_117, s117_120, s117_122, s117_123, s117_125, s117_127, s117_130, s117_133, s117_134, ↓reduceIte, psh_some, psh_none, cln_i, cln_r, cln_n, cln_l, cln_d, cln_f, Option.bind_some, Option.bind_none, if_true, if_false, nI_add, pk_mul, nbo_0, nbo_1, nI_leI, nI_ltI, nI_eq, Nat.reduceAdd, Nat.reduceMul, Nat.add_zero, Nat.mul_zero, am_n hv, hI, vI_at, f107, h8, b2_if, hn, e, e2, e4]
          exact ih (k + 1) _ (by omega)
    · rw [if_neg (fun h => e h.1)]
      simp (disch := first | omega | (show List.length _ ≤ 4; exact Nat.le_of_ble_eq_true rfl) | assumption | exact nbo_0 | exact nbo_1 | exact b2_b) only [s117_0, s117_1, s117_3, s117_4, s117_6, s117_7, s117_10, s117_11, s117_13, s117_14, s117_15, s117_16, s117_18, s117_19, s117_21, s117_23, s117_24, s117_25, s117_26, s117_29, s117_30, s117_31, s117_33, s117_36, s117_39, s117_40, s117_41, s117_43, s117_46, s117_47, s117_48, s117_49, s117_51, s117_54, s117_55, s117_58, s117_60, s117_61, s117_64, s117_67, s117_68, s117_69, s117_70, s117_72, s117_73, s117_77, s117_78, s117_79, s117_80, s117_83, s117_84, s117_85, s117_87, s117_90, s117_91, s117_92, s117_93, s117_95, s117_98, s117_99, s117_100, s117_102, s117_103, s117_105, s117_107, s117_108, s117_109, s117_110, s117_113, s117_115, s117_117, s117_120, s117_122, s117_123, s117_125, s117_127, s117_130, s117_133, s117_134, ↓reduceIte, psh_some, psh_none, cln_i, cln_r, cln_n, cln_l, cln_d, cln_f, Option.bind_some, Option.bind_none, if_true, if_false, nI_add, pk_mul, nbo_0, nbo_1, nI_leI, nI_ltI, nI_eq, Nat.reduceAdd, Nat.reduceMul, Nat.add_zero, Nat.mul_zero, am_n hv, hI, vI_at, hn, e]
      exact ih (k + 1) _ (by omega)
theorem f117 {f t : Nat} (hv : v = 225 ∨ v = 226) (hI : I v = vI a) (hW : WO a) (hf : f < 6) (ht : t < 6) : FF 117 [.ref v, .int (nI f), .int (nI t)] (210, I, R) = some (some (.int (oN (-1) (picks a f t))), 210, I, R) := by
  refine Eq.trans ?_ (p117a (R := R) hv hI hW hf ht (a 13) 0 none (by omega))
  simp (disch := first | omega | (show List.length _ ≤ 4; exact Nat.le_of_ble_eq_true rfl) | assumption | exact nbo_0 | exact nbo_1 | exact b2_b) only [FE117, s117_0, s117_1, ↓reduceIte, psh_some, psh_none, cln_i, cln_r, cln_n, cln_l, cln_d, cln_f, Option.bind_some, Option.bind_none, if_true, if_false, nI_add, pk_mul, nbo_0, nbo_1, nI_leI, nI_ltI, nI_eq, Nat.reduceAdd, Nat.reduceMul, Nat.add_zero, Nat.mul_zero]
end M1
