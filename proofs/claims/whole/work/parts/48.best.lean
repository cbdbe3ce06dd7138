/-! ===== bestSplit ===== -/
theorem lt_sub {x f m : Nat} (hx : x < 2 ^ 20) (hf : f < 2 ^ 20) (hm : m < 2 ^ 20) : (nI x < nI f - nI m) ↔ x + m < f := by
  have e : (nI f - nI m).toInt = (f : Int) - m := by
    rw [Int32.toInt_sub, nI_toInt (by omega), nI_toInt (by omega)]
    exact Int.bmod_eq_of_le (by omega) (by omega)
  rw [Int32.lt_iff_toInt_lt, e, nI_toInt (by omega)]
  omega
theorem nI_m6 {k : Nat} (hk : k < 2 ^ 20) : ¬ nI k = (-6 : Int32) := by
  intro h
  have h2 := congrArg Int32.toInt h
  rw [nI_toInt (by omega)] at h2
  have h3 : (-6 : Int32).toInt = -6 := by decide
  omega
/-- the misses of three ends -/
def ms3 (a : Nat → Nat) (A B C : Nat) : Nat := (endP A a).2 + (endP B (tot (endP A a))).2 + (endP C (tot (endP B (tot (endP A a))))).2
abbrev S3 : Type := Nat × Nat × Nat
def inn (a : Nat → Nat) (t A B : Nat) (s : S3) : S3 := if ms3 a A B (t - A - B) < s.1 then (ms3 a A B (t - A - B), A, B) else s
def out (a : Nat → Nat) (t A : Nat) (s : S3) : S3 := fd (inn a t A) (t - A + 1) 0 s
def bst3 (a : Nat → Nat) (t : Nat) : S3 := fd (out a t) (t + 1) 0 (31, 0, 0)
/-- the least of the model: none yet, where the class has 31 -/
def oM (k : Nat) : Int32 := if k = 31 then -6 else nI k
def T3 (I : Nat → Nat → Int32) (e x y : Nat → Nat) : Nat → Nat → Int32 := up (up (up I 10 (vI e)) 11 (vI x)) 12 (vI y)
section T3s
variable {I : Nat → Nat → Int32} {a e x y e' : Nat → Nat} {N : Nat}
theorem T3_10 : T3 I e x y 10 = vI e := by unfold T3; rw [up_ne (by decide), up_ne (by decide), up_at]
theorem T3_11 : T3 I e x y 11 = vI x := by unfold T3; rw [up_ne (by decide), up_at]
theorem T3_12 : T3 I e x y 12 = vI y := by unfold T3; rw [up_at]
theorem T3_ne {v : Nat} (hv : ¬ (10 ≤ v ∧ v < 13)) : T3 I e x y v = I v := by unfold T3; rw [up_ne (by omega), up_ne (by omega), up_ne (by omega)]
theorem T3_u10 : up (T3 I e x y) 10 (vI e') = T3 I e' x y := by
  unfold T3
  rw [up_comm (v := 12) (w := 10) (by decide), up_comm (v := 11) (w := 10) (by decide), up_up]
theorem T3_u11 : up (T3 I e x y) 11 (vI e') = T3 I e e' y := by
  unfold T3
  rw [up_comm (v := 12) (w := 11) (by decide), up_up]
theorem T3_u12 : up (T3 I e x y) 12 (vI e') = T3 I e x e' := by
  unfold T3
  rw [up_up]
theorem ms3_le {A B C : Nat} (h : WN N a) : ms3 a A B C ≤ 30 := by
  have h1 := endP_le (m := A) h.1
  have w1 := endP_ok (n := A) h
  have h2 := endP_le (m := B) w1.1
  have w2 := endP_ok (n := B) w1
  have h3 := endP_le (m := C) w2.1
  unfold ms3
  omega
theorem inn_lt {t A B : Nat} {s : S3} (h : WN N a) (hA : A ≤ 40) (hB : B ≤ 40) (h1 : s.2.1 ≤ 40) (h2 : s.2.2 ≤ 40) : (inn a t A B s).1 ≤ 30 ∧ (inn a t A B s).2.1 ≤ 40 ∧ (inn a t A B s).2.2 ≤ 40 := by
  have h3 := ms3_le (A := A) (B := B) (C := t - A - B) h
  unfold inn
  by_cases e : ms3 a A B (t - A - B) < s.1
  · rw [if_pos e]; exact ⟨h3, hA, hB⟩
  · rw [if_neg e]; exact ⟨by omega, h1, h2⟩
theorem inns_lt {t A : Nat} (h : WN N a) (hA : A ≤ 40) : ∀ d B (s : S3), B + d ≤ 41 → s.1 ≤ 31 → s.2.1 ≤ 40 → s.2.2 ≤ 40 → (fd (inn a t A) d B s).1 ≤ 31 ∧ (fd (inn a t A) d B s).2.1 ≤ 40 ∧ (fd (inn a t A) d B s).2.2 ≤ 40 ∧ (0 < d ∨ s.1 ≤ 30 → (fd (inn a t A) d B s).1 ≤ 30) := by
  intro d
  induction d with
  | zero => intro B s _ h0 h1 h2; exact ⟨h0, h1, h2, fun h => by show s.1 ≤ 30; omega⟩
  | succ d ih =>
    intro B s hB h0 h1 h2
    have k := inn_lt (t := t) (A := A) (B := B) (s := s) h hA (by omega) h1 h2
    have g := ih (B + 1) (inn a t A B s) (by omega) (by omega) k.2.1 k.2.2
    exact ⟨g.1, g.2.1, g.2.2.1, fun _ => g.2.2.2 (Or.inr k.1)⟩
theorem outs_lt {t : Nat} (h : WN N a) (ht : t ≤ 40) : ∀ d A (s : S3), A + d = t + 1 → s.1 ≤ 31 → s.2.1 ≤ 40 → s.2.2 ≤ 40 → (fd (out a t) d A s).1 ≤ 31 ∧ (fd (out a t) d A s).2.1 ≤ 40 ∧ (fd (out a t) d A s).2.2 ≤ 40 ∧ (0 < d ∨ s.1 ≤ 30 → (fd (out a t) d A s).1 ≤ 30) := by
  intro d
  induction d with
  | zero => intro A s _ h0 h1 h2; exact ⟨h0, h1, h2, fun h => by show s.1 ≤ 30; omega⟩
  | succ d ih =>
    intro A s hA h0 h1 h2
    have k := inns_lt (t := t) (A := A) h (by omega) (t - A + 1) 0 s (by omega) h0 h1 h2
    have g := ih (A + 1) (out a t A s) (by omega) k.1 k.2.1 k.2.2.1
    exact ⟨g.1, g.2.1, g.2.2.1, fun _ => g.2.2.2 (Or.inr (k.2.2.2 (Or.inl (by omega))))⟩
end T3s
section BS
variable {I : Nat → Nat → Int32} {R : Nat → Nat → Option Nat} {nw bf u n N : Nat} {h hd q : Nat → Nat} {p sl : Nat → Nat → Nat} {a : Nat → Nat}
theorem f71 {e x y : Nat → Nat} {B C F m : Nat} (hB : BR R) (he : WN N e) (hN : N < 2 ^ 29) (hx : Zz x) (hy : Zz y) (hB2 : B ≤ 60) (hC2 : C ≤ 60) (hF : F ≤ 31) (hm : m ≤ 10) : ∃ x' y', Zz x' ∧ Zz y' ∧ FF 71 [.ref 208, .int (nI B), .int (nI C), .int (nI F - nI m)] (210, T3 I e x y, QR R nw bf h) = some (some (.int (nI (if (endP B e).2 + m < F then (endP B e).2 + (endP C (tot (endP B e))).2 else (endP B e).2))), 210, T3 I e x' y', QR R nw bf h) := by
  have ho := od
  have ho1 : isO "HandoverDesk$State" 210 176 = true := os (b := 11) (by decide)
  have ho2 : isO "HandoverDesk$State" 210 192 = true := os (b := 12) (by decide)
  have hRS : RS (QR R nw bf h) := QR_RS hB.2.2.2.1
  have h0 : e 0 < 2 ^ 30 := Nat.lt_of_le_of_lt he.2.1 (by omega)
  have w1 := endP_ok (n := B) he
  have h01 : tot (endP B e) 0 < 2 ^ 30 := Nat.lt_of_le_of_lt w1.2.1 (by omega)
  have w2 := endP_ok (n := C) w1
  have l1 := endP_le (m := B) he.1
  have l2 := endP_le (m := C) w1.1
  have g1 : FF 12 [.ref 176, .ref 160] (210, T3 I e x y, QR R nw bf h) = some (none, 210, T3 I e e y, QR R nw bf h) := by
    have g := f12 (I := T3 I e x y) (R := QR R nw bf h) (b := 10) (d := 11) (a := e) (e := x) (by decide) (by decide) (by decide) hRS T3_10 he.1 T3_11 hx
    rw [T3_u11] at g
    exact g
  have g2 : FF 29 [.ref 176, .int (nI B)] (210, T3 I e e y, QR R nw bf h) = some (some (.int (nI (endP B e).2)), 210, T3 I e (tot (endP B e)) y, QR R nw bf h) := by
    have g := f29 (I := T3 I e e y) (R := QR R nw bf h) (b := 11) (a := e) (n := B) (by decide) hRS T3_11 he.1 h0 (by omega)
    rw [T3_u11] at g
    exact g
  have c := lt_sub (x := (endP B e).2) (f := F) (m := m) (by omega) (by omega) (by omega)
  by_cases e1 : (endP B e).2 + m < F
  · rw [if_pos e1]
    have c2 := c.mpr e1
    have g3 : FF 12 [.ref 192, .ref 176] (210, T3 I e (tot (endP B e)) y, QR R nw bf h) = some (none, 210, T3 I e (tot (endP B e)) (tot (endP B e)), QR R nw bf h) := by
      have g := f12 (I := T3 I e (tot (endP B e)) y) (R := QR R nw bf h) (b := 11) (d := 12) (a := tot (endP B e)) (e := y) (by decide) (by decide) (by decide) hRS T3_11 w1.1 T3_12 hy
      rw [T3_u12] at g
      exact g
    have g4 : FF 29 [.ref 192, .int (nI C)] (210, T3 I e (tot (endP B e)) (tot (endP B e)), QR R nw bf h) = some (some (.int (nI (endP C (tot (endP B e))).2)), 210, T3 I e (tot (endP B e)) (tot (endP C (tot (endP B e)))), QR R nw bf h) := by
      have g := f29 (I := T3 I e (tot (endP B e)) (tot (endP B e))) (R := QR R nw bf h) (b := 12) (a := tot (endP B e)) (n := C) (by decide) hRS T3_12 w1.1 h01 (by omega)
      rw [T3_u12] at g
      exact g
    refine ⟨_, _, w1.1.zz, w2.1.zz, ?_⟩
    simp (disch := first | omega | (show List.length _ ≤ 4; exact Nat.le_of_ble_eq_true rfl) | assumption | exact nbo_0 | exact nbo_1 | exact b2_b) only [FE71, s71_0, s71_1, s71_4, s71_5, s71_8, s71_11, s71_12, s71_15, s71_16, s71_19, s71_21, s71_23, s71_24, s71_27, s71_29, s71_30, s71_31, s71_34, s71_35, s71_38, s71_41, s71_43, s71_44, s71_47, s71_48, s71_51, s71_52, ↓reduceIte, psh_some, psh_none, cln_i, cln_r, cln_n, cln_l, cln_d, cln_f, Option.bind_some, Option.bind_none, if_true, if_false, nI_add, pk_mul, nbo_0, nbo_1, nI_leI, nI_ltI, nI_eq, Nat.reduceAdd, Nat.reduceMul, Nat.add_zero, Nat.mul_zero, gd_7 hB, gd_8 hB, gd_9 hB, g1, g2, g3, g4, c2]
  · rw [if_neg e1]
    have c2 : ¬ nI (endP B e).2 < nI F - nI m := fun hc => e1 (c.mp hc)
    refine ⟨_, _, w1.1.zz, hy, ?_⟩
    simp (disch := first | omega | (show List.length _ ≤ 4; exact Nat.le_of_ble_eq_true rfl) | assumption | exact nbo_0 | exact nbo_1 | exact b2_b) only [FE71, s71_0, s71_1, s71_4, s71_5, s71_8, s71_11, s71_12, s71_15, s71_16, s71_19, s71_21, s71_23, s71_24, s71_27, s71_29, ↓reduceIte, psh_some, psh_none, cln_i, cln_r, cln_n, cln_l, cln_d, cln_f, Option.bind_some, Option.bind_none, if_true, if_false, nI_add, pk_mul, nbo_0, nbo_1, nI_leI, nI_ltI, nI_eq, Nat.reduceAdd, Nat.reduceMul, Nat.add_zero, Nat.mul_zero, gd_7 hB, gd_8 hB, g1, g2, c2]
theorem p70b {x0 : Int32} {t A : Nat} (hB : BR R) (ha : WN N a) (hN : N < 2 ^ 28) (ht : t ≤ 40) (hA : A ≤ t) : ∀ d B (s : S3) (x y : Nat → Nat) (l9 : Option Value), B + d = t - A + 1 → s.1 ≤ 31 → s.2.1 ≤ 40 → s.2.2 ≤ 40 → Zz x → Zz y → ∃ x' y' l9', Zz x' ∧ Zz y' ∧ EE 70 65 [some (.ref 208), some (.int (nI t)), some (.int x0), some (.int (nI s.1)), some (.int (nI s.2.1)), some (.int (nI s.2.2)), some (.int (nI A)), some (.int (nI (endP A a).2)), some (.int (nI B)), l9] [] (210, T3 I (tot (endP A a)) x y, QR R nw bf h) = EE 70 119 [some (.ref 208), some (.int (nI t)), some (.int x0), some (.int (nI (fd (inn a t A) d B s).1)), some (.int (nI (fd (inn a t A) d B s).2.1)), some (.int (nI (fd (inn a t A) d B s).2.2)), some (.int (nI A)), some (.int (nI (endP A a).2)), some (.int (nI (t - A + 1))), l9'] [] (210, T3 I (tot (endP A a)) x' y', QR R nw bf h) := by
  have ho := od
  have w1 := endP_ok (n := A) ha
  have l0 := endP_le (m := A) ha.1
  intro d
  induction d with
  | zero =>
    intro B s x y l9 hBd h0 h1 h2 hx hy
    have e : B = t - A + 1 := by omega
    subst e
    have e1 : t - A < t - A + 1 := Nat.lt_succ_self _
    refine ⟨x, y, l9, hx, hy, ?_⟩
    rw [s70_65]
    simp (disch := first | omega | (show List.length _ ≤ 4; exact Nat.le_of_ble_eq_true rfl) | assumption | exact nbo_0 | exact nbo_1 | exact b2_b) only [s70_67, s70_68, s70_70, s70_71, ↓reduceIte, psh_some, psh_none, cln_i, cln_r, cln_n, cln_l, cln_d, cln_f, Option.bind_some, Option.bind_none, if_true, if_false, nI_add, pk_mul, nbo_0, nbo_1, nI_leI, nI_ltI, nI_eq, Nat.reduceAdd, Nat.reduceMul, Nat.add_zero, Nat.mul_zero, nI_sub, e1]
    rfl
  | succ d ih =>
    intro B s x y l9 hBd h0 h1 h2 hx hy
    have e1 : ¬ t - A < B := by omega
    have hB41 : B ≤ 40 := by omega
    obtain ⟨x', y', hx', hy', g⟩ := f71 (I := I) (R := R) (nw := nw) (bf := bf) (h := h) (N := N + 1) (e := tot (endP A a)) (x := x) (y := y) (B := B) (C := t - A - B) (F := s.1) (m := (endP A a).2) hB w1 (by omega) hx hy (by omega) (by omega) h0 l0
    have k := inn_lt (t := t) (A := A) (B := B) (s := s) ha (by omega) hB41 h1 h2
    obtain ⟨x2, y2, l92, hx2, hy2, g2⟩ := ih (B + 1) (inn a t A B s) x' y' (some (.int (nI ((endP A a).2 + (if (endP B (tot (endP A a))).2 + (endP A a).2 < s.1 then (endP B (tot (endP A a))).2 + (endP (t - A - B) (tot (endP B (tot (endP A a))))).2 else (endP B (tot (endP A a))).2))))) (by omega) (by omega) k.2.1 k.2.2 hx' hy'
    refine ⟨x2, y2, l92, hx2, hy2, ?_⟩
    refine Eq.trans ?_ g2
    clear g2 ih
    have l1 := endP_le (m := B) w1.1
    have l2 := endP_le (m := t - A - B) (endP_ok (n := B) w1).1
    unfold inn ms3
    generalize (endP A a).2 = m1 at *
    generalize (endP B (tot (endP A a))).2 = m2 at *
    generalize (endP (t - A - B) (tot (endP B (tot (endP A a))))).2 = m3 at *
    rw [s70_65]
    by_cases c : m2 + m1 < s.1
    · rw [if_pos c, nI_sub (show m1 ≤ s.1 by omega)] at g
      rw [if_pos c]
      by_cases c2 : m1 + m2 + m3 < s.1
      · rw [if_pos c2]
        have c3 : ¬ s.1 ≤ m1 + (m2 + m3) := by omega
        rw [← Nat.add_assoc] at c3 ⊢
        simp (disch := first | omega | (show List.length _ ≤ 4; exact Nat.le_of_ble_eq_true rfl) | assumption | exact nbo_0 | exact nbo_1 | exact b2_b) only [s70_0, s70_1, s70_4, s70_5, s70_7, s70_10, s70_11, s70_14, s70_15, s70_16, s70_19, s70_21, s70_22, s70_24, s70_25, s70_26, s70_28, s70_29, s70_31, s70_32, s70_36, s70_37, s70_40, s70_41, s70_44, s70_45, s70_48, s70_51, s70_52, s70_55, s70_57, s70_60, s70_62, s70_63, s70_67, s70_68, s70_70, s70_71, s70_74, s70_76, s70_77, s70_79, s70_80, s70_82, s70_83, s70_85, s70_86, s70_87, s70_89, s70_90, s70_93, s70_94, s70_96, s70_98, s70_99, s70_102, s70_104, s70_105, s70_107, s70_109, s70_111, s70_113, s70_116, s70_122, s70_126_0, s70_126_1, s70_126_2, s70_126_d, s70_152, s70_153, s70_154, s70_156, s70_157, s70_159, s70_160, s70_161, s70_163, s70_164, s70_166, s70_167, ↓reduceIte, psh_some, psh_none, cln_i, cln_r, cln_n, cln_l, cln_d, cln_f, Option.bind_some, Option.bind_none, if_true, if_false, nI_add, pk_mul, nbo_0, nbo_1, nI_leI, nI_ltI, nI_eq, Nat.reduceAdd, Nat.reduceMul, Nat.add_zero, Nat.mul_zero, nI_sub, e1, g, ← Nat.add_assoc, c3]
      · rw [if_neg c2]
        have c3 : s.1 ≤ m1 + m2 + m3 := by omega
        rw [← Nat.add_assoc]
        simp (disch := first | omega | (show List.length _ ≤ 4; exact Nat.le_of_ble_eq_true rfl) | assumption | exact nbo_0 | exact nbo_1 | exact b2_b) only [s70_0, s70_1, s70_4, s70_5, s70_7, s70_10, s70_11, s70_14, s70_15, s70_16, s70_19, s70_21, s70_22, s70_24, s70_25, s70_26, s70_28, s70_29, s70_31, s70_32, s70_36, s70_37, s70_40, s70_41, s70_44, s70_45, s70_48, s70_51, s70_52, s70_55, s70_57, s70_60, s70_62, s70_63, s70_67, s70_68, s70_70, s70_71, s70_74, s70_76, s70_77, s70_79, s70_80, s70_82, s70_83, s70_85, s70_86, s70_87, s70_89, s70_90, s70_93, s70_94, s70_96, s70_98, s70_99, s70_102, s70_104, s70_105, s70_107, s70_109, s70_111, s70_113, s70_116, s70_122, s70_126_0, s70_126_1, s70_126_2, s70_126_d, s70_152, s70_153, s70_154, s70_156, s70_157, s70_159, s70_160, s70_161, s70_163, s70_164, s70_166, s70_167, ↓reduceIte, psh_some, psh_none, cln_i, cln_r, cln_n, cln_l, cln_d, cln_f, Option.bind_some, Option.bind_none, if_true, if_false, nI_add, pk_mul, nbo_0, nbo_1, nI_leI, nI_ltI, nI_eq, Nat.reduceAdd, Nat.reduceMul, Nat.add_zero, Nat.mul_zero, nI_sub, e1, g, ← Nat.add_assoc, c3]
    · rw [if_neg c] at g ⊢
      have c2 : ¬ m1 + m2 + m3 < s.1 := by omega
      have c3 : s.1 ≤ m1 + m2 := by omega
      rw [if_neg c2]
      simp (disch := first | omega | (show List.length _ ≤ 4; exact Nat.le_of_ble_eq_true rfl) | assumption | exact nbo_0 | exact nbo_1 | exact b2_b) only [s70_0, s70_1, s70_4, s70_5, s70_7, s70_10, s70_11, s70_14, s70_15, s70_16, s70_19, s70_21, s70_22, s70_24, s70_25, s70_26, s70_28, s70_29, s70_31, s70_32, s70_36, s70_37, s70_40, s70_41, s70_44, s70_45, s70_48, s70_51, s70_52, s70_55, s70_57, s70_60, s70_62, s70_63, s70_67, s70_68, s70_70, s70_71, s70_74, s70_76, s70_77, s70_79, s70_80, s70_82, s70_83, s70_85, s70_86, s70_87, s70_89, s70_90, s70_93, s70_94, s70_96, s70_98, s70_99, s70_102, s70_104, s70_105, s70_107, s70_109, s70_111, s70_113, s70_116, s70_122, s70_126_0, s70_126_1, s70_126_2, s70_126_d, s70_152, s70_153, s70_154, s70_156, s70_157, s70_159, s70_160, s70_161, s70_163, s70_164, s70_166, s70_167, ↓reduceIte, psh_some, psh_none, cln_i, cln_r, cln_n, cln_l, cln_d, cln_f, Option.bind_some, Option.bind_none, if_true, if_false, nI_add, pk_mul, nbo_0, nbo_1, nI_leI, nI_ltI, nI_eq, Nat.reduceAdd, Nat.reduceMul, Nat.add_zero, Nat.mul_zero, nI_sub, e1, g, c3]
theorem p70a {x0 : Int32} {t : Nat} (hB : BR R) (hG : GL N a u p sl hd n q) (hC : CL I nw bf h a u p sl hd n q) (hN : N < 2 ^ 28) (ht : t ≤ 40) : ∀ d A (s : S3) (e x y : Nat → Nat) (l7 l8 l9 : Option Value), A + d = t + 1 → s.1 ≤ 31 → s.2.1 ≤ 40 → s.2.2 ≤ 40 → Zz e → Zz x → Zz y → ∃ e' x' y' l7' l8' l9', Zz e' ∧ Zz x' ∧ Zz y' ∧ EE 70 34 [some (.ref 208), some (.int (nI t)), some (.int x0), some (.int (nI s.1)), some (.int (nI s.2.1)), some (.int (nI s.2.2)), some (.int (nI A)), l7, l8, l9] [] (210, T3 I e x y, QR R nw bf h) = EE 70 125 [some (.ref 208), some (.int (nI t)), some (.int x0), some (.int (nI (fd (out a t) d A s).1)), some (.int (nI (fd (out a t) d A s).2.1)), some (.int (nI (fd (out a t) d A s).2.2)), some (.int (nI (t + 1))), l7', l8', l9'] [] (210, T3 I e' x' y', QR R nw bf h) := by
  have ho := od
  have ho1 : isO "HandoverDesk$State" 210 160 = true := os (b := 10) (by decide)
  have hRS : RS (QR R nw bf h) := QR_RS hB.2.2.2.1
  have q1 := hC.1.1
  have h0 : a 0 < 2 ^ 30 := Nat.lt_of_le_of_lt hG.1.2.1 (by omega)
  intro d
  induction d with
  | zero =>
    intro A s e x y l7 l8 l9 hA h0 h1 h2 he hx hy
    have e1 : A = t + 1 := by omega
    subst e1
    have e2 : t < t + 1 := Nat.lt_succ_self _
    refine ⟨e, x, y, l7, l8, l9, he, hx, hy, ?_⟩
    rw [s70_34]
    simp (disch := first | omega | (show List.length _ ≤ 4; exact Nat.le_of_ble_eq_true rfl) | assumption | exact nbo_0 | exact nbo_1 | exact b2_b) only [s70_36, s70_37, ↓reduceIte, psh_some, psh_none, cln_i, cln_r, cln_n, cln_l, cln_d, cln_f, Option.bind_some, Option.bind_none, if_true, if_false, nI_add, pk_mul, nbo_0, nbo_1, nI_leI, nI_ltI, nI_eq, Nat.reduceAdd, Nat.reduceMul, Nat.add_zero, Nat.mul_zero, e2]
    rfl
  | succ d ih =>
    intro A s e x y l7 l8 l9 hA h0' h1 h2 he hx hy
    have e2 : ¬ t < A := by omega
    have g1 : FF 12 [.ref 160, .ref (16 * nw)] (210, T3 I e x y, QR R nw bf h) = some (none, 210, T3 I a x y, QR R nw bf h) := by
      have g := f12 (I := T3 I e x y) (R := QR R nw bf h) (b := nw) (d := 10) (a := a) (e := e) (by omega) (by decide) (by omega) hRS (by rw [T3_ne (by omega)]; exact hC.2.1) hG.1.1 T3_10 he
      rw [T3_u10] at g
      exact g
    have g2 : FF 29 [.ref 160, .int (nI A)] (210, T3 I a x y, QR R nw bf h) = some (some (.int (nI (endP A a).2)), 210, T3 I (tot (endP A a)) x y, QR R nw bf h) := by
      have g := f29 (I := T3 I a x y) (R := QR R nw bf h) (b := 10) (a := a) (n := A) (by decide) hRS T3_10 hG.1.1 h0 (by omega)
      rw [T3_u10] at g
      exact g
    obtain ⟨x', y', l9', hx', hy', g3⟩ := p70b (I := I) (R := R) (nw := nw) (bf := bf) (h := h) (x0 := x0) (t := t) (A := A) hB hG.1 hN ht (by omega) (t - A + 1) 0 s x y l9 (by omega) h0' h1 h2 hx hy
    have k := inns_lt (t := t) (A := A) hG.1 (by omega) (t - A + 1) 0 s (by omega) h0' h1 h2
    obtain ⟨e', x2, y2, l72, l82, l92, he2, hx2, hy2, g4⟩ := ih (A + 1) (out a t A s) (tot (endP A a)) x' y' (some (.int (nI (endP A a).2))) (some (.int (nI (t - A + 1)))) l9' (by omega) k.1 k.2.1 k.2.2.1 (endP_ok (n := A) hG.1).1.zz hx' hy'
    refine ⟨e', x2, y2, l72, l82, l92, he2, hx2, hy2, ?_⟩
    refine Eq.trans ?_ g4
    clear g4 ih
    have g5 : EE 70 34 [some (.ref 208), some (.int (nI t)), some (.int x0), some (.int (nI s.1)), some (.int (nI s.2.1)), some (.int (nI s.2.2)), some (.int (nI A)), l7, l8, l9] [] (210, T3 I e x y, QR R nw bf h) = EE 70 65 [some (.ref 208), some (.int (nI t)), some (.int x0), some (.int (nI s.1)), some (.int (nI s.2.1)), some (.int (nI s.2.2)), some (.int (nI A)), some (.int (nI (endP A a).2)), some (.int (nI 0)), l9] [] (210, T3 I (tot (endP A a)) x y, QR R nw bf h) := by
      rw [s70_34]
      simp (disch := first | omega | (show List.length _ ≤ 4; exact Nat.le_of_ble_eq_true rfl) | assumption | exact nbo_0 | exact nbo_1 | exact b2_b) only [s70_36, s70_37, s70_40, s70_41, s70_44, s70_45, s70_48, s70_51, s70_52, s70_55, s70_57, s70_60, s70_62, s70_63, ↓reduceIte, psh_some, psh_none, cln_i, cln_r, cln_n, cln_l, cln_d, cln_f, Option.bind_some, Option.bind_none, if_true, if_false, nI_add, pk_mul, nbo_0, nbo_1, nI_leI, nI_ltI, nI_eq, Nat.reduceAdd, Nat.reduceMul, Nat.add_zero, Nat.mul_zero, gd_7 hB, gd_0, e2, g1, g2]
    rw [g5, g3]
    clear g5 g3
    simp (disch := first | omega | (show List.length _ ≤ 4; exact Nat.le_of_ble_eq_true rfl) | assumption | exact nbo_0 | exact nbo_1 | exact b2_b) only [s70_119, s70_122, ↓reduceIte, psh_some, psh_none, cln_i, cln_r, cln_n, cln_l, cln_d, cln_f, Option.bind_some, Option.bind_none, if_true, if_false, nI_add, pk_mul, nbo_0, nbo_1, nI_leI, nI_ltI, nI_eq, Nat.reduceAdd, Nat.reduceMul, Nat.add_zero, Nat.mul_zero]
    rfl
theorem f136 {J : Nat → Nat → Int32} {e : Nat → Nat} {A B C : Nat} (hR : RM R) (hJ : J 225 = vI a) (hW : WN N a) (hN : N < 2 ^ 28) (he : Zz e) (hA : A ≤ 60) (hB : B ≤ 60) (hC : C ≤ 60) : ∃ e', Zz e' ∧ FF 136 [.ref 224, .int (nI A), .int (nI B), .int (nI C)] (210, up J 226 (vI e), R) = some (some (.int (nI (ms3 a A B C))), 210, up J 226 (vI e'), R) := by
  have ho := om
  have hv : (226 : Nat) = 225 ∨ (226 : Nat) = 226 := Or.inr rfl
  have h0' : a 0 < 2 ^ 29 := Nat.lt_of_le_of_lt hW.2.1 (by omega)
  have h0 : a 0 < 2 ^ 30 := by omega
  have p0 : a 0 % 12 < 12 := Nat.mod_lt _ (by decide)
  have p1 : (a 0 + 1) % 12 < 12 := Nat.mod_lt _ (by decide)
  have p2 : (a 0 + 2) % 12 < 12 := Nat.mod_lt _ (by decide)
  have ne1 : a 0 % 12 ≠ (a 0 + 1) % 12 := by omega
  have ne2 : a 0 % 12 ≠ (a 0 + 2) % 12 := by omega
  have ne3 : (a 0 + 1) % 12 ≠ (a 0 + 2) % 12 := by omega
  have g0 := f133 (R := R) (J := J) (e := e) hR hJ hW.1.zz he
  have z1' : up a (26 + a 0 % 12) A 0 = a 0 := up_ne (by omega)
  have z2' : up (up a (26 + a 0 % 12) A) (26 + (a 0 + 1) % 12) B 0 = a 0 := by rw [up_ne (by omega), z1']
  have c1 := cm_n (a := 226) (k := 26 + a 0 % 12) hv (by omega)
  have c2 := cm_n (a := 226) (k := 26 + (a 0 + 1) % 12) hv (by omega)
  have c3 := cm_n (a := 226) (k := 26 + (a 0 + 2) % 12) hv (by omega)
  have hW3 : WO (up (up (up a (26 + a 0 % 12) A) (26 + (a 0 + 1) % 12) B) (26 + (a 0 + 2) % 12) C) := ((hW.1.mi1 p0 hA).mi1 p1 hB).mi1 p2 hC
  have hq3 : EQ (up (up (up a (26 + a 0 % 12) A) (26 + (a 0 + 1) % 12) B) (26 + (a 0 + 2) % 12) C) a := ((up_EQ (by omega)).trans (up_EQ (by omega))).trans (up_EQ (by omega))
  have v0 : up (up (up a (26 + a 0 % 12) A) (26 + (a 0 + 1) % 12) B) (26 + (a 0 + 2) % 12) C 0 = a 0 := hq3 0 (by omega)
  have v1 : up (up (up a (26 + a 0 % 12) A) (26 + (a 0 + 1) % 12) B) (26 + (a 0 + 2) % 12) C (26 + a 0 % 12) = A := by rw [up_ne (by omega), up_ne (by omega), up_at]
  have v2 : up (up (up a (26 + a 0 % 12) A) (26 + (a 0 + 1) % 12) B) (26 + (a 0 + 2) % 12) C (26 + (a 0 + 1) % 12) = B := by rw [up_ne (by omega), up_at]
  have v3 : up (up (up a (26 + a 0 % 12) A) (26 + (a 0 + 1) % 12) B) (26 + (a 0 + 2) % 12) C (26 + (a 0 + 2) % 12) = C := up_at _ _ _
  have hN3 : WN N (up (up (up a (26 + a 0 % 12) A) (26 + (a 0 + 1) % 12) B) (26 + (a 0 + 2) % 12) C) := hW.of_same hW3 v0 (fun k h1 h2 => hq3 k (by omega))
  have start : FF 136 [.ref 224, .int (nI A), .int (nI B), .int (nI C)] (210, up J 226 (vI e), R) = EE 136 62 [some (.ref 224), some (.int (nI A)), some (.int (nI B)), some (.int (nI C))] [] (210, up J 226 (vI (up (up (up a (26 + a 0 % 12) A) (26 + (a 0 + 1) % 12) B) (26 + (a 0 + 2) % 12) C)), R) := by
    simp (disch := first | omega | (show List.length _ ≤ 4; exact Nat.le_of_ble_eq_true rfl) | assumption | exact nbo_0 | exact nbo_1 | exact b2_b) only [FE136, s136_0, s136_1, s136_4, s136_5, s136_8, s136_10, s136_11, s136_14, s136_15, s136_16, s136_18, s136_19, s136_20, s136_21, s136_22, s136_23, s136_26, s136_28, s136_29, s136_32, s136_33, s136_34, s136_35, s136_36, s136_38, s136_39, s136_40, s136_41, s136_42, s136_43, s136_46, s136_48, s136_49, s136_52, s136_53, s136_54, s136_55, s136_56, s136_58, s136_59, s136_60, s136_61, ↓reduceIte, psh_some, psh_none, cln_i, cln_r, cln_n, cln_l, cln_d, cln_f, Option.bind_some, Option.bind_none, if_true, if_false, nI_add, pk_mul, nbo_0, nbo_1, nI_leI, nI_ltI, nI_eq, Nat.reduceAdd, Nat.reduceMul, Nat.add_zero, Nat.mul_zero, up_at, up_up, up_vI, vI_at, gm_1 hR, am_n hv, wm_n hv, g0, z1', z2']
  rw [start]
  clear start g0 z1' z2' c1 c2 c3
  generalize up (up (up a (26 + a 0 % 12) A) (26 + (a 0 + 1) % 12) B) (26 + (a 0 + 2) % 12) C = b at *
  have e1 := endP_q (n := A) hq3
  have t1 := tot_q (n := A) hq3
  have k1 := endP_keep (n := A) hW3
  have w1 := endP_ok (n := A) hN3
  have g1 : FF 115 [.ref 226] (210, up J 226 (vI b), R) = some (some (.int (nI (endP A a).2)), 210, up J 226 (vI (tot (endP A b))), R) := by
    have g := f115 (I := up J 226 (vI b)) (R := R) hv (up_at _ _ _) hW3 (by rw [v0]; exact h0)
    rw [v0, v1, up_up, e1.2] at g
    exact g
  have m1 : tot (endP A b) 0 = a 0 + 1 := by rw [k1.1, v0]
  have m2 : tot (endP A b) (26 + (a 0 + 1) % 12) = B := by rw [k1.2 _ (by omega) (by omega), v2]
  have m3 : tot (endP A b) (26 + (a 0 + 2) % 12) = C := by rw [k1.2 _ (by omega) (by omega), v3]
  have e2 := endP_q (n := B) t1
  have t2 := tot_q (n := B) t1
  have k2 := endP_keep (n := B) w1.1
  have w2 := endP_ok (n := B) w1
  have g2 : FF 115 [.ref 226] (210, up J 226 (vI (tot (endP A b))), R) = some (some (.int (nI (endP B (tot (endP A a))).2)), 210, up J 226 (vI (tot (endP B (tot (endP A b))))), R) := by
    have g := f115 (I := up J 226 (vI (tot (endP A b)))) (R := R) hv (up_at _ _ _) w1.1 (by rw [m1]; omega)
    rw [m1, m2, up_up, e2.2] at g
    exact g
  have n1 : tot (endP B (tot (endP A b))) 0 = a 0 + 2 := by rw [k2.1, m1]
  have n3 : tot (endP B (tot (endP A b))) (26 + (a 0 + 2) % 12) = C := by rw [k2.2 _ (by omega) (by omega), m3]
  have e3 := endP_q (n := C) t2
  have w3 := endP_ok (n := C) w2
  have g3 : FF 115 [.ref 226] (210, up J 226 (vI (tot (endP B (tot (endP A b))))), R) = some (some (.int (nI (endP C (tot (endP B (tot (endP A a))))).2)), 210, up J 226 (vI (tot (endP C (tot (endP B (tot (endP A b))))))), R) := by
    have g := f115 (I := up J 226 (vI (tot (endP B (tot (endP A b)))))) (R := R) hv (up_at _ _ _) w2.1 (by rw [n1]; omega)
    rw [n1, n3, up_up, e3.2] at g
    exact g
  refine ⟨_, w3.1.zz, ?_⟩
  unfold ms3
  simp (disch := first | omega | (show List.length _ ≤ 4; exact Nat.le_of_ble_eq_true rfl) | assumption | exact nbo_0 | exact nbo_1 | exact b2_b) only [s136_62, s136_63, s136_66, s136_69, s136_70, s136_73, s136_76, s136_77, s136_78, s136_81, s136_84, s136_85, ↓reduceIte, psh_some, psh_none, cln_i, cln_r, cln_n, cln_l, cln_d, cln_f, Option.bind_some, Option.bind_none, if_true, if_false, nI_add, pk_mul, nbo_0, nbo_1, nI_leI, nI_ltI, nI_eq, Nat.reduceAdd, Nat.reduceMul, Nat.add_zero, Nat.mul_zero, gm_1 hR, g1, g2, g3]
end BS
