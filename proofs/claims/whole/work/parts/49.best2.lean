/-! ===== bestSplit, 2 ===== -/
section BS2
variable {I : Nat → Nat → Int32} {R : Nat → Nat → Option Nat} {nw bf u n N : Nat} {h hd q : Nat → Nat} {p sl : Nat → Nat → Nat} {a : Nat → Nat}
theorem p135b {J : Nat → Nat → Int32} {x0 : Int32} {t A : Nat} (hR : RM R) (hJ : J 225 = vI a) (hW : WN N a) (hN : N < 2 ^ 28) (ht : t ≤ 40) (hA : A ≤ t) : ∀ d B (s : S3) (e : Nat → Nat) (l8 : Option Value), B + d = t - A + 1 → s.1 ≤ 31 → s.2.1 ≤ 40 → s.2.2 ≤ 40 → Zz e → ∃ e' l8', Zz e' ∧ EE 135 43 [some (.ref 224), some (.int (nI t)), some (.int x0), some (.int (oM s.1)), some (.int (nI s.2.1)), some (.int (nI s.2.2)), some (.int (nI A)), some (.int (nI B)), l8] [] (210, up J 226 (vI e), R) = EE 135 98 [some (.ref 224), some (.int (nI t)), some (.int x0), some (.int (oM (fd (inn a t A) d B s).1)), some (.int (nI (fd (inn a t A) d B s).2.1)), some (.int (nI (fd (inn a t A) d B s).2.2)), some (.int (nI A)), some (.int (nI (t - A + 1))), l8'] [] (210, up J 226 (vI e'), R) := by
  have ho := om
  intro d
  induction d with
  | zero =>
    intro B s e l8 hBd h0 h1 h2 he
    have e0 : B = t - A + 1 := by omega
    subst e0
    have e1 : t < A + (t - A + 1) := by omega
    refine ⟨e, l8, he, ?_⟩
    rw [s135_43]
    simp (disch := first | omega | (show List.length _ ≤ 4; exact Nat.le_of_ble_eq_true rfl) | assumption | exact nbo_0 | exact nbo_1 | exact b2_b) only [s135_45, s135_47, s135_48, s135_49, ↓reduceIte, psh_some, psh_none, cln_i, cln_r, cln_n, cln_l, cln_d, cln_f, Option.bind_some, Option.bind_none, if_true, if_false, nI_add, pk_mul, nbo_0, nbo_1, nI_leI, nI_ltI, nI_eq, Nat.reduceAdd, Nat.reduceMul, Nat.add_zero, Nat.mul_zero, e1]
    rfl
  | succ d ih =>
    intro B s e l8 hBd h0 h1 h2 he
    have e1 : ¬ t < A + B := by omega
    obtain ⟨e', he', g⟩ := f136 (J := J) (R := R) (e := e) (A := A) (B := B) (C := t - A - B) hR hJ hW hN he (by omega) (by omega) (by omega)
    have k := inn_lt (t := t) (A := A) (B := B) (s := s) hW (by omega) (by omega) h1 h2
    obtain ⟨e2, l82, he2, g2⟩ := ih (B + 1) (inn a t A B s) e' (some (.int (nI (ms3 a A B (t - A - B))))) (by omega) (by omega) k.2.1 k.2.2 he'
    refine ⟨e2, l82, he2, ?_⟩
    refine Eq.trans ?_ g2
    clear g2 ih
    have l := ms3_le (A := A) (B := B) (C := t - A - B) hW
    unfold inn
    generalize ms3 a A B (t - A - B) = m at *
    have m31 : oM m = nI m := if_neg (by omega)
    rw [s135_43]
    by_cases c : s.1 = 31
    · have c2 : m < s.1 := by omega
      have c3 : oM s.1 = -6 := if_pos c
      rw [if_pos c2, m31, c3]
      simp (disch := first | omega | (show List.length _ ≤ 4; exact Nat.le_of_ble_eq_true rfl) | assumption | exact nbo_0 | exact nbo_1 | exact b2_b) only [s135_0, s135_1, s135_2, s135_4, s135_7, s135_10, s135_11, s135_12, s135_13, s135_16, s135_19, s135_21, s135_22, s135_24, s135_25, s135_26, s135_28, s135_29, s135_31, s135_32, s135_36, s135_37, s135_40, s135_41, s135_45, s135_47, s135_48, s135_49, s135_52, s135_53, s135_55, s135_57, s135_58, s135_60, s135_61, s135_63, s135_64, s135_67, s135_69, s135_70, s135_72, s135_75, s135_77, s135_78, s135_81, s135_83, s135_84, s135_86, s135_88, s135_90, s135_92, s135_95, s135_101, s135_105, s135_108, s135_109, s135_112, s135_113, s135_114, s135_117, s135_119, s135_122, s135_123, s135_124, s135_127, s135_129, s135_132, s135_133, s135_135, s135_136, s135_138, s135_139, ↓reduceIte, psh_some, psh_none, cln_i, cln_r, cln_n, cln_l, cln_d, cln_f, Option.bind_some, Option.bind_none, if_true, if_false, nI_add, pk_mul, nbo_0, nbo_1, nI_leI, nI_ltI, nI_eq, Nat.reduceAdd, Nat.reduceMul, Nat.add_zero, Nat.mul_zero, nI_sub, e1, g]
    · have c3 : oM s.1 = nI s.1 := if_neg c
      have c4 := nI_m6 (k := s.1) (by omega)
      by_cases c2 : m < s.1
      · have c5 : ¬ s.1 ≤ m := by omega
        rw [if_pos c2, m31, c3]
        simp (disch := first | omega | (show List.length _ ≤ 4; exact Nat.le_of_ble_eq_true rfl) | assumption | exact nbo_0 | exact nbo_1 | exact b2_b) only [s135_0, s135_1, s135_2, s135_4, s135_7, s135_10, s135_11, s135_12, s135_13, s135_16, s135_19, s135_21, s135_22, s135_24, s135_25, s135_26, s135_28, s135_29, s135_31, s135_32, s135_36, s135_37, s135_40, s135_41, s135_45, s135_47, s135_48, s135_49, s135_52, s135_53, s135_55, s135_57, s135_58, s135_60, s135_61, s135_63, s135_64, s135_67, s135_69, s135_70, s135_72, s135_75, s135_77, s135_78, s135_81, s135_83, s135_84, s135_86, s135_88, s135_90, s135_92, s135_95, s135_101, s135_105, s135_108, s135_109, s135_112, s135_113, s135_114, s135_117, s135_119, s135_122, s135_123, s135_124, s135_127, s135_129, s135_132, s135_133, s135_135, s135_136, s135_138, s135_139, ↓reduceIte, psh_some, psh_none, cln_i, cln_r, cln_n, cln_l, cln_d, cln_f, Option.bind_some, Option.bind_none, if_true, if_false, nI_add, pk_mul, nbo_0, nbo_1, nI_leI, nI_ltI, nI_eq, Nat.reduceAdd, Nat.reduceMul, Nat.add_zero, Nat.mul_zero, nI_sub, e1, g, c4, c5]
      · have c5 : s.1 ≤ m := by omega
        rw [if_neg c2, c3]
        simp (disch := first | omega | (show List.length _ ≤ 4; exact Nat.le_of_ble_eq_true rfl) | assumption | exact nbo_0 | exact nbo_1 | exact b2_b) only [s135_0, s135_1, s135_2, s135_4, s135_7, s135_10, s135_11, s135_12, s135_13, s135_16, s135_19, s135_21, s135_22, s135_24, s135_25, s135_26, s135_28, s135_29, s135_31, s135_32, s135_36, s135_37, s135_40, s135_41, s135_45, s135_47, s135_48, s135_49, s135_52, s135_53, s135_55, s135_57, s135_58, s135_60, s135_61, s135_63, s135_64, s135_67, s135_69, s135_70, s135_72, s135_75, s135_77, s135_78, s135_81, s135_83, s135_84, s135_86, s135_88, s135_90, s135_92, s135_95, s135_101, s135_105, s135_108, s135_109, s135_112, s135_113, s135_114, s135_117, s135_119, s135_122, s135_123, s135_124, s135_127, s135_129, s135_132, s135_133, s135_135, s135_136, s135_138, s135_139, ↓reduceIte, psh_some, psh_none, cln_i, cln_r, cln_n, cln_l, cln_d, cln_f, Option.bind_some, Option.bind_none, if_true, if_false, nI_add, pk_mul, nbo_0, nbo_1, nI_leI, nI_ltI, nI_eq, Nat.reduceAdd, Nat.reduceMul, Nat.add_zero, Nat.mul_zero, nI_sub, e1, g, c4, c5]
theorem p135a {J : Nat → Nat → Int32} {x0 : Int32} {t : Nat} (hR : RM R) (hJ : J 225 = vI a) (hW : WN N a) (hN : N < 2 ^ 28) (ht : t ≤ 40) : ∀ d A (s : S3) (e : Nat → Nat) (l7 l8 : Option Value), A + d = t + 1 → s.1 ≤ 31 → s.2.1 ≤ 40 → s.2.2 ≤ 40 → Zz e → ∃ e' l7' l8', Zz e' ∧ EE 135 34 [some (.ref 224), some (.int (nI t)), some (.int x0), some (.int (oM s.1)), some (.int (nI s.2.1)), some (.int (nI s.2.2)), some (.int (nI A)), l7, l8] [] (210, up J 226 (vI e), R) = EE 135 104 [some (.ref 224), some (.int (nI t)), some (.int x0), some (.int (oM (fd (out a t) d A s).1)), some (.int (nI (fd (out a t) d A s).2.1)), some (.int (nI (fd (out a t) d A s).2.2)), some (.int (nI (t + 1))), l7', l8'] [] (210, up J 226 (vI e'), R) := by
  intro d
  induction d with
  | zero =>
    intro A s e l7 l8 hA h0 h1 h2 he
    have e1 : A = t + 1 := by omega
    subst e1
    have e2 : t < t + 1 := Nat.lt_succ_self _
    refine ⟨e, l7, l8, he, ?_⟩
    rw [s135_34]
    simp (disch := first | omega | (show List.length _ ≤ 4; exact Nat.le_of_ble_eq_true rfl) | assumption | exact nbo_0 | exact nbo_1 | exact b2_b) only [s135_36, s135_37, ↓reduceIte, psh_some, psh_none, cln_i, cln_r, cln_n, cln_l, cln_d, cln_f, Option.bind_some, Option.bind_none, if_true, if_false, nI_add, pk_mul, nbo_0, nbo_1, nI_leI, nI_ltI, nI_eq, Nat.reduceAdd, Nat.reduceMul, Nat.add_zero, Nat.mul_zero, e2]
    rfl
  | succ d ih =>
    intro A s e l7 l8 hA h0 h1 h2 he
    have e2 : ¬ t < A := by omega
    obtain ⟨e', l8', he', g3⟩ := p135b (J := J) (R := R) (x0 := x0) (t := t) (A := A) hR hJ hW hN ht (by omega) (t - A + 1) 0 s e l8 (by omega) h0 h1 h2 he
    have k := inns_lt (t := t) (A := A) hW (by omega) (t - A + 1) 0 s (by omega) h0 h1 h2
    obtain ⟨e2', l72, l82, he2, g4⟩ := ih (A + 1) (out a t A s) e' (some (.int (nI (t - A + 1)))) l8' (by omega) k.1 k.2.1 k.2.2.1 he'
    refine ⟨e2', l72, l82, he2, ?_⟩
    refine Eq.trans ?_ g4
    clear g4 ih
    have g5 : EE 135 34 [some (.ref 224), some (.int (nI t)), some (.int x0), some (.int (oM s.1)), some (.int (nI s.2.1)), some (.int (nI s.2.2)), some (.int (nI A)), l7, l8] [] (210, up J 226 (vI e), R) = EE 135 43 [some (.ref 224), some (.int (nI t)), some (.int x0), some (.int (oM s.1)), some (.int (nI s.2.1)), some (.int (nI s.2.2)), some (.int (nI A)), some (.int (nI 0)), l8] [] (210, up J 226 (vI e), R) := by
      rw [s135_34]
      simp (disch := first | omega | (show List.length _ ≤ 4; exact Nat.le_of_ble_eq_true rfl) | assumption | exact nbo_0 | exact nbo_1 | exact b2_b) only [s135_36, s135_37, s135_40, s135_41, ↓reduceIte, psh_some, psh_none, cln_i, cln_r, cln_n, cln_l, cln_d, cln_f, Option.bind_some, Option.bind_none, if_true, if_false, nI_add, pk_mul, nbo_0, nbo_1, nI_leI, nI_ltI, nI_eq, Nat.reduceAdd, Nat.reduceMul, Nat.add_zero, Nat.mul_zero, e2]
    rw [g5, g3]
    clear g5 g3
    simp (disch := first | omega | (show List.length _ ≤ 4; exact Nat.le_of_ble_eq_true rfl) | assumption | exact nbo_0 | exact nbo_1 | exact b2_b) only [s135_98, s135_101, ↓reduceIte, psh_some, psh_none, cln_i, cln_r, cln_n, cln_l, cln_d, cln_f, Option.bind_some, Option.bind_none, if_true, if_false, nI_add, pk_mul, nbo_0, nbo_1, nI_leI, nI_ltI, nI_eq, Nat.reduceAdd, Nat.reduceMul, Nat.add_zero, Nat.mul_zero]
    rfl
theorem pr_best_e (hB : BR R) (hG : GL N a u p sl hd n q) (hC : CL I nw bf h a u p sl hd n q) (hM : ML I a u p sl hd n q) (x y : Int32) (e : ¬ (iT x 41 ∧ iT y 4)) : PR R I (QR R nw bf h) N 70 [.ref 208, .int x, .int y] 135 [.ref 224, .int x, .int y] := by
  have g1 := f84n (M := (210, I, QR R nw bf h)) (x := x) (m := 40) (by decide)
  have g2 := f84n (M := (210, I, QR R nw bf h)) (x := y) (m := 3) (by decide)
  refine view (r := .int (-2)) hG hC hM ?_ ?_
  · by_cases x0 : x < 0
    · simp (disch := first | omega | (show List.length _ ≤ 4; exact Nat.le_of_ble_eq_true rfl) | assumption | exact nbo_0 | exact nbo_1 | exact b2_b) only [FE70, s70_0, s70_1, s70_19, s70_21, ↓reduceIte, psh_some, psh_none, cln_i, cln_r, cln_n, cln_l, cln_d, cln_f, Option.bind_some, Option.bind_none, if_true, if_false, nI_add, pk_mul, nbo_0, nbo_1, nI_leI, nI_ltI, nI_eq, Nat.reduceAdd, Nat.reduceMul, Nat.add_zero, Nat.mul_zero, x0]
    · by_cases x1 : nI 40 < x
      · simp (disch := first | omega | (show List.length _ ≤ 4; exact Nat.le_of_ble_eq_true rfl) | assumption | exact nbo_0 | exact nbo_1 | exact b2_b) only [FE70, s70_0, s70_1, s70_4, s70_5, s70_7, s70_19, s70_21, ↓reduceIte, psh_some, psh_none, cln_i, cln_r, cln_n, cln_l, cln_d, cln_f, Option.bind_some, Option.bind_none, if_true, if_false, nI_add, pk_mul, nbo_0, nbo_1, nI_leI, nI_ltI, nI_eq, Nat.reduceAdd, Nat.reduceMul, Nat.add_zero, Nat.mul_zero, x0, x1]
      · by_cases y0 : y < 0
        · simp (disch := first | omega | (show List.length _ ≤ 4; exact Nat.le_of_ble_eq_true rfl) | assumption | exact nbo_0 | exact nbo_1 | exact b2_b) only [FE70, s70_0, s70_1, s70_4, s70_5, s70_7, s70_10, s70_11, s70_19, s70_21, ↓reduceIte, psh_some, psh_none, cln_i, cln_r, cln_n, cln_l, cln_d, cln_f, Option.bind_some, Option.bind_none, if_true, if_false, nI_add, pk_mul, nbo_0, nbo_1, nI_leI, nI_ltI, nI_eq, Nat.reduceAdd, Nat.reduceMul, Nat.add_zero, Nat.mul_zero, x0, x1, y0]
        · have hx : iT x 41 := ⟨x0, fun hc => x1 ((lt_le (m := 40) (by decide)).mpr hc)⟩
          have y1 : ¬ y ≤ nI 3 := fun hc => e ⟨hx, y0, fun h4 => Int32.not_lt.mpr hc ((lt_le (m := 3) (by decide)).mpr h4)⟩
          simp (disch := first | omega | (show List.length _ ≤ 4; exact Nat.le_of_ble_eq_true rfl) | assumption | exact nbo_0 | exact nbo_1 | exact b2_b) only [FE70, s70_0, s70_1, s70_4, s70_5, s70_7, s70_10, s70_11, s70_14, s70_15, s70_16, s70_19, s70_21, ↓reduceIte, psh_some, psh_none, cln_i, cln_r, cln_n, cln_l, cln_d, cln_f, Option.bind_some, Option.bind_none, if_true, if_false, nI_add, pk_mul, nbo_0, nbo_1, nI_leI, nI_ltI, nI_eq, Nat.reduceAdd, Nat.reduceMul, Nat.add_zero, Nat.mul_zero, x0, x1, y0, y1]
  · by_cases e1 : iT x 41
    · rw [b2_t e1] at g1
      have e2 : ¬ iT y 4 := fun hc => e ⟨e1, hc⟩
      rw [b2_f e2] at g2
      simp (disch := first | omega | (show List.length _ ≤ 4; exact Nat.le_of_ble_eq_true rfl) | assumption | exact nbo_0 | exact nbo_1 | exact b2_b) only [FE135, s135_0, s135_1, s135_2, s135_4, s135_7, s135_10, s135_11, s135_12, s135_13, s135_16, s135_19, s135_21, ↓reduceIte, psh_some, psh_none, cln_i, cln_r, cln_n, cln_l, cln_d, cln_f, Option.bind_some, Option.bind_none, if_true, if_false, nI_add, pk_mul, nbo_0, nbo_1, nI_leI, nI_ltI, nI_eq, Nat.reduceAdd, Nat.reduceMul, Nat.add_zero, Nat.mul_zero, g1, g2, z0, z1]
    · rw [b2_f e1] at g1
      simp (disch := first | omega | (show List.length _ ≤ 4; exact Nat.le_of_ble_eq_true rfl) | assumption | exact nbo_0 | exact nbo_1 | exact b2_b) only [FE135, s135_0, s135_1, s135_2, s135_4, s135_7, s135_19, s135_21, ↓reduceIte, psh_some, psh_none, cln_i, cln_r, cln_n, cln_l, cln_d, cln_f, Option.bind_some, Option.bind_none, if_true, if_false, nI_add, pk_mul, nbo_0, nbo_1, nI_leI, nI_ltI, nI_eq, Nat.reduceAdd, Nat.reduceMul, Nat.add_zero, Nat.mul_zero, g1, z0, z1]
theorem pr_best (hB : BR R) (hG : GL N a u p sl hd n q) (hC : CL I nw bf h a u p sl hd n q) (hM : ML I a u p sl hd n q) (hN : N < 2 ^ 28) (x y : Int32) : PR R I (QR R nw bf h) N 70 [.ref 208, .int x, .int y] 135 [.ref 224, .int x, .int y] := by
  by_cases e : iT x 41 ∧ iT y 4
  · obtain ⟨e1, e2⟩ := e
    have g84a : ∀ M : Mm, FF 84 [.int x, .int (nI 0), .int (nI 40)] M = some (some (.int (nI 1)), M) := fun M => by rw [f84n (by decide), b2_t e1]
    have g84b : ∀ M : Mm, FF 84 [.int y, .int (nI 0), .int (nI 3)] M = some (some (.int (nI 1)), M) := fun M => by rw [f84n (by decide), b2_t e2]
    obtain ⟨t, ht, rfl⟩ := iT_nI (by decide) e1
    obtain ⟨w, hw, rfl⟩ := iT_nI (by decide) e2
    have k := outs_lt (t := t) hG.1 (by omega) (t + 1) 0 (31, 0, 0) (by omega) (Nat.le_refl _) (by decide) (by decide)
    obtain ⟨k1, k2, k3, k4⟩ := k
    have k4 := k4 (Or.inl (by omega))
    have n0 : ¬ nI t < 0 := nI_pos (by omega)
    have n1 : ¬ nI w < 0 := nI_pos (by omega)
    have c1 : ¬ 40 < t := by omega
    have c2 : w ≤ 3 := by omega
    have z2 : (nI 2 = (0 : Int32)) = False := eq_false (by decide)
    have z3 : (nI 3 = (0 : Int32)) = False := eq_false (by decide)
    refine view2 (r := .int (if w = 0 then nI (bst3 a t).1 else if w = 1 then nI (bst3 a t).2.1 else if w = 2 then nI (bst3 a t).2.2 else nI t - nI (bst3 a t).2.1 - nI (bst3 a t).2.2)) hG hC hM ?_ (fun J hJ hJ2 => ?_)
    · obtain ⟨c10, h10, zz10⟩ := hC.2.2.2.2.2.2.2 10 (by decide) (by decide)
      obtain ⟨c11, h11, zz11⟩ := hC.2.2.2.2.2.2.2 11 (by decide) (by decide)
      obtain ⟨c12, h12, zz12⟩ := hC.2.2.2.2.2.2.2 12 (by decide) (by decide)
      have eI : T3 I c10 c11 c12 = I := by unfold T3; rw [up_eq h10, up_eq h11, up_eq h12]
      obtain ⟨e', x', y', l7, l8, l9, he, hx, hy, g⟩ := p70a (x0 := nI w) (t := t) hB hG hC hN (by omega) (t + 1) 0 (31, 0, 0) c10 c11 c12 none none none (by omega) (Nat.le_refl _) (by decide) (by decide) zz10 zz11 zz12
      rw [eI] at g
      refine ⟨T3 I e' x' y', ?_, fun v hv => T3_ne hv, fun v h1 h2 => ?_⟩
      · have st : FF 70 [.ref 208, .int (nI t), .int (nI w)] (210, I, QR R nw bf h) = EE 70 34 [some (.ref 208), some (.int (nI t)), some (.int (nI w)), some (.int (nI 31)), some (.int (nI 0)), some (.int (nI 0)), some (.int (nI 0)), none, none, none] [] (210, I, QR R nw bf h) := by
          simp (disch := first | omega | (show List.length _ ≤ 4; exact Nat.le_of_ble_eq_true rfl) | assumption | exact nbo_0 | exact nbo_1 | exact b2_b) only [FE70, s70_0, s70_1, s70_4, s70_5, s70_7, s70_10, s70_11, s70_14, s70_15, s70_16, s70_22, s70_24, s70_25, s70_26, s70_28, s70_29, s70_31, s70_32, ↓reduceIte, psh_some, psh_none, cln_i, cln_r, cln_n, cln_l, cln_d, cln_f, Option.bind_some, Option.bind_none, if_true, if_false, nI_add, pk_mul, nbo_0, nbo_1, nI_leI, nI_ltI, nI_eq, Nat.reduceAdd, Nat.reduceMul, Nat.add_zero, Nat.mul_zero, n0, n1, c1, c2]
        refine st.trans (g.trans ?_)
        clear g st
        unfold bst3
        generalize fd (out a t) (t + 1) 0 (31, 0, 0) = s at *
        rcases (show w = 0 ∨ w = 1 ∨ w = 2 ∨ w = 3 by omega) with rfl | rfl | rfl | rfl
        · simp (disch := first | omega | (show List.length _ ≤ 4; exact Nat.le_of_ble_eq_true rfl) | assumption | exact nbo_0 | exact nbo_1 | exact b2_b) only [s70_125, s70_126_0, s70_152, s70_153, ↓reduceIte, psh_some, psh_none, cln_i, cln_r, cln_n, cln_l, cln_d, cln_f, Option.bind_some, Option.bind_none, if_true, if_false, nI_add, pk_mul, nbo_0, nbo_1, nI_leI, nI_ltI, nI_eq, Nat.reduceAdd, Nat.reduceMul, Nat.add_zero, Nat.mul_zero]
        · simp (disch := first | omega | (show List.length _ ≤ 4; exact Nat.le_of_ble_eq_true rfl) | assumption | exact nbo_0 | exact nbo_1 | exact b2_b) only [s70_125, s70_126_1, s70_154, s70_156, ↓reduceIte, psh_some, psh_none, cln_i, cln_r, cln_n, cln_l, cln_d, cln_f, Option.bind_some, Option.bind_none, if_true, if_false, nI_add, pk_mul, nbo_0, nbo_1, nI_leI, nI_ltI, nI_eq, Nat.reduceAdd, Nat.reduceMul, Nat.add_zero, Nat.mul_zero, Nat.reduceEqDiff]
        · simp (disch := first | omega | (show List.length _ ≤ 4; exact Nat.le_of_ble_eq_true rfl) | assumption | exact nbo_0 | exact nbo_1 | exact b2_b) only [s70_125, s70_126_2, s70_157, s70_159, ↓reduceIte, psh_some, psh_none, cln_i, cln_r, cln_n, cln_l, cln_d, cln_f, Option.bind_some, Option.bind_none, if_true, if_false, nI_add, pk_mul, nbo_0, nbo_1, nI_leI, nI_ltI, nI_eq, Nat.reduceAdd, Nat.reduceMul, Nat.add_zero, Nat.mul_zero, Nat.reduceEqDiff]
        · have hd3 : (nI 3).toInt < 0 ∨ 2 < (nI 3).toInt := by decide
          have g14 := fun (M : Mm) (st : List Value) (l0 l1 l2 l3 l4 l5 l6 l7 l8 l9 : Option Value) => s70_126_d (M := M) (st := st) (l0 := l0) (l1 := l1) (l2 := l2) (l3 := l3) (l4 := l4) (l5 := l5) (l6 := l6) (l7 := l7) (l8 := l8) (l9 := l9) hd3
          simp (disch := first | omega | (show List.length _ ≤ 4; exact Nat.le_of_ble_eq_true rfl) | assumption | exact nbo_0 | exact nbo_1 | exact b2_b) only [s70_125, g14, s70_160, s70_161, s70_163, s70_164, s70_166, s70_167, ↓reduceIte, psh_some, psh_none, cln_i, cln_r, cln_n, cln_l, cln_d, cln_f, Option.bind_some, Option.bind_none, if_true, if_false, nI_add, pk_mul, nbo_0, nbo_1, nI_leI, nI_ltI, nI_eq, Nat.reduceAdd, Nat.reduceMul, Nat.add_zero, Nat.mul_zero, Nat.reduceEqDiff]
      · rcases (show v = 10 ∨ v = 11 ∨ v = 12 by omega) with rfl | rfl | rfl
        · exact ⟨_, T3_10, he⟩
        · exact ⟨_, T3_11, hx⟩
        · exact ⟨_, T3_12, hy⟩
    · obtain ⟨e, he, hz⟩ := hJ2
      obtain ⟨e', l7, l8, he', g⟩ := p135a (J := J) (R := QR R nw bf h) (x0 := nI w) (t := t) (QR_RM (nw := nw) (bf := bf) (h := h) hB.2.2.2.2) hJ hG.1 hN (by omega) (t + 1) 0 (31, 0, 0) e none none (by omega) (Nat.le_refl _) (by decide) (by decide) hz
      rw [up_eq he] at g
      refine ⟨_, ?_, TM.up1 he'⟩
      have st : FF 135 [.ref 224, .int (nI t), .int (nI w)] (210, J, QR R nw bf h) = EE 135 34 [some (.ref 224), some (.int (nI t)), some (.int (nI w)), some (.int (oM 31)), some (.int (nI 0)), some (.int (nI 0)), some (.int (nI 0)), none, none] [] (210, J, QR R nw bf h) := by
        have q1 : oM 31 = -6 := rfl
        rw [q1]
        have g1 := g84a (210, J, QR R nw bf h)
        have g2 := g84b (210, J, QR R nw bf h)
        simp (disch := first | omega | (show List.length _ ≤ 4; exact Nat.le_of_ble_eq_true rfl) | assumption | exact nbo_0 | exact nbo_1 | exact b2_b) only [FE135, s135_0, s135_1, s135_2, s135_4, s135_7, s135_10, s135_11, s135_12, s135_13, s135_16, s135_22, s135_24, s135_25, s135_26, s135_28, s135_29, s135_31, s135_32, ↓reduceIte, psh_some, psh_none, cln_i, cln_r, cln_n, cln_l, cln_d, cln_f, Option.bind_some, Option.bind_none, if_true, if_false, nI_add, pk_mul, nbo_0, nbo_1, nI_leI, nI_ltI, nI_eq, Nat.reduceAdd, Nat.reduceMul, Nat.add_zero, Nat.mul_zero, g1, g2, z1]
      refine st.trans (g.trans ?_)
      clear g st
      unfold bst3
      generalize fd (out a t) (t + 1) 0 (31, 0, 0) = s at *
      have q2 : oM s.1 = nI s.1 := if_neg (by omega)
      rw [q2]
      rcases (show w = 0 ∨ w = 1 ∨ w = 2 ∨ w = 3 by omega) with rfl | rfl | rfl | rfl
      · simp (disch := first | omega | (show List.length _ ≤ 4; exact Nat.le_of_ble_eq_true rfl) | assumption | exact nbo_0 | exact nbo_1 | exact b2_b) only [s135_104, s135_105, s135_108, s135_109, s135_139, ↓reduceIte, psh_some, psh_none, cln_i, cln_r, cln_n, cln_l, cln_d, cln_f, Option.bind_some, Option.bind_none, if_true, if_false, nI_add, pk_mul, nbo_0, nbo_1, nI_leI, nI_ltI, nI_eq, Nat.reduceAdd, Nat.reduceMul, Nat.add_zero, Nat.mul_zero, z0]
      · simp (disch := first | omega | (show List.length _ ≤ 4; exact Nat.le_of_ble_eq_true rfl) | assumption | exact nbo_0 | exact nbo_1 | exact b2_b) only [s135_104, s135_105, s135_112, s135_113, s135_114, s135_117, s135_119, s135_139, ↓reduceIte, psh_some, psh_none, cln_i, cln_r, cln_n, cln_l, cln_d, cln_f, Option.bind_some, Option.bind_none, if_true, if_false, nI_add, pk_mul, nbo_0, nbo_1, nI_leI, nI_ltI, nI_eq, Nat.reduceAdd, Nat.reduceMul, Nat.add_zero, Nat.mul_zero, z1, Nat.reduceEqDiff]
      · simp (disch := first | omega | (show List.length _ ≤ 4; exact Nat.le_of_ble_eq_true rfl) | assumption | exact nbo_0 | exact nbo_1 | exact b2_b) only [s135_104, s135_105, s135_112, s135_113, s135_114, s135_122, s135_123, s135_124, s135_127, s135_129, s135_139, ↓reduceIte, psh_some, psh_none, cln_i, cln_r, cln_n, cln_l, cln_d, cln_f, Option.bind_some, Option.bind_none, if_true, if_false, nI_add, pk_mul, nbo_0, nbo_1, nI_leI, nI_ltI, nI_eq, Nat.reduceAdd, Nat.reduceMul, Nat.add_zero, Nat.mul_zero, z2, Nat.reduceEqDiff]
      · simp (disch := first | omega | (show List.length _ ≤ 4; exact Nat.le_of_ble_eq_true rfl) | assumption | exact nbo_0 | exact nbo_1 | exact b2_b) only [s135_104, s135_105, s135_112, s135_113, s135_114, s135_122, s135_123, s135_124, s135_132, s135_133, s135_135, s135_136, s135_138, s135_139, ↓reduceIte, psh_some, psh_none, cln_i, cln_r, cln_n, cln_l, cln_d, cln_f, Option.bind_some, Option.bind_none, if_true, if_false, nI_add, pk_mul, nbo_0, nbo_1, nI_leI, nI_ltI, nI_eq, Nat.reduceAdd, Nat.reduceMul, Nat.add_zero, Nat.mul_zero, z3, Nat.reduceEqDiff]
  · exact pr_best_e hB hG hC hM x y e
end BS2
