/-! ===== the model reads an order ===== -/
theorem isL_iff : ∀ c, c < 128 → (isL c = true ↔ c = 111 ∨ c = 120 ∨ c = 107 ∨ c = 99 ∨ c = 108 ∨ c = 114 ∨ c = 109 ∨ c = 101) := by decide +kernel
theorem nI_c4 (o : Nat) : nI 4 * nI o = nI (4 * o) := pk_mul 4 o
section IO
variable {J : Nat → Nat → Int32} {R : Nat → Nat → Option Nat} {n o s : Nat} {q : Nat → Nat} {U W : Nat → Int32}
theorem oU_5 {y : Option (Nat × Nat)} (h : U 5 = nI o) : oU U y 5 = nI o := by
  cases y with
  | none => exact h
  | some y => show up U 4 _ 5 = _; rw [up_ne (by decide)]; exact h
/-- no letter -/
theorem p143_o {c : Nat} (hc : c < 128) (hl : isL c = false) (M : Mm) (l0 l1 : Option Value) : EE 143 38 [l0, l1] [.int (nI c)] M = some (some (.int (nI 0)), M) := by
  have hn : ¬ (c = 111 ∨ c = 120 ∨ c = 107 ∨ c = 99 ∨ c = 108 ∨ c = 114 ∨ c = 109 ∨ c = 101) := fun h => by
    have := (isL_iff c hc).mpr h
    rw [hl] at this
    cases this
  by_cases e : c < 99 ∨ 120 < c
  · have hx : (nI c).toInt < 99 ∨ 120 < (nI c).toInt := by rw [nI_toInt (by omega)]; omega
    have g := s143_38_d (M := M) (st := []) (l0 := l0) (l1 := l1) hx
    simp (disch := first | omega | (show List.length _ ≤ 4; exact Nat.le_of_ble_eq_true rfl) | assumption | exact nbo_0 | exact nbo_1 | exact b2_b) only [g, s143_316, s143_317, ↓reduceIte, psh_some, psh_none, cln_i, cln_r, cln_n, cln_l, cln_d, cln_f, Option.bind_some, Option.bind_none, if_true, if_false, nI_add, pk_mul, nbo_0, nbo_1, nI_leI, nI_ltI, nI_eq, Nat.reduceAdd, Nat.reduceMul, Nat.add_zero, Nat.mul_zero]
  · rcases (show c = 100 ∨ c = 102 ∨ c = 103 ∨ c = 104 ∨ c = 105 ∨ c = 106 ∨ c = 110 ∨ c = 112 ∨ c = 113 ∨ c = 115 ∨ c = 116 ∨ c = 117 ∨ c = 118 ∨ c = 119 by omega) with rfl | rfl | rfl | rfl | rfl | rfl | rfl | rfl | rfl | rfl | rfl | rfl | rfl | rfl <;> (simp (disch := first | omega | (show List.length _ ≤ 4; exact Nat.le_of_ble_eq_true rfl) | assumption | exact nbo_0 | exact nbo_1 | exact b2_b) only [s143_38_99, s143_38_100, s143_38_101, s143_38_102, s143_38_103, s143_38_104, s143_38_105, s143_38_106, s143_38_107, s143_38_108, s143_38_109, s143_38_110, s143_38_111, s143_38_112, s143_38_113, s143_38_114, s143_38_115, s143_38_116, s143_38_117, s143_38_118, s143_38_119, s143_38_120, s143_38_d, s143_140, s143_141i, s143_141r, s143_142, s143_145, s143_146, s143_147, s143_150, s143_151, s143_152, s143_153i, s143_153r, s143_154, s143_157, s143_158, s143_159, s143_162, s143_163, s143_164, s143_166, s143_169, s143_170, s143_171i, s143_171r, s143_172, s143_175, s143_176, s143_177, s143_180, s143_181, s143_182, s143_184, s143_187, s143_190, s143_191, s143_193, s143_196, s143_199, s143_200, s143_201, s143_203, s143_206, s143_209, s143_210, s143_212, s143_215, s143_218, s143_219, s143_220, s143_223, s143_226, s143_227, s143_230, s143_231, s143_232, s143_233i, s143_233r, s143_234, s143_237, s143_238, s143_239, s143_242, s143_243, s143_244, s143_247, s143_250, s143_251, s143_253, s143_256, s143_259, s143_260, s143_261, s143_263, s143_266, s143_269, s143_270, s143_273, s143_274, s143_275, s143_276i, s143_276r, s143_277, s143_280, s143_281, s143_282, s143_285, s143_286, s143_287, s143_290, s143_293, s143_294, s143_296, s143_299, s143_302, s143_303, s143_304, s143_307, s143_310, s143_311, s143_314, s143_315, s143_316, s143_317, ↓reduceIte, psh_some, psh_none, cln_i, cln_r, cln_n, cln_l, cln_d, cln_f, Option.bind_some, Option.bind_none, if_true, if_false, nI_add, pk_mul, nbo_0, nbo_1, nI_leI, nI_ltI, nI_eq, Nat.reduceAdd, Nat.reduceMul, Nat.add_zero, Nat.mul_zero])
/-- what reading an order leaves in the model -/
def MXT (n : Nat) (q : Nat → Nat) (s o : Nat) (U U' W W' : Nat → Int32) : Prop := U' 4 = nI (og n q s).2.1 ∧ (∀ k, k ≠ 4 → U' k = U k) ∧ (∀ k, ¬ (4 * o ≤ k ∧ k < 4 * o + 4) → W' k = W k) ∧ ((og n q s).1 = true → W' (4 * o) = nI (q s) ∧ ∀ j, j < (spL (shp (q s))).length → j % 2 = 0 → W' (4 * o + 1 + j / 2) = nI ((og n q s).2.2.getD j 0))
theorem pK_t {p : Nat} : pK n q 116 p = pD n q 57 p := rfl
theorem pK_w {p : Nat} : pK n q 119 p = pD n q 53 p := rfl
theorem pK_n {p : Nat} : pK n q 110 p = pN n q p := rfl
theorem pK_46 {p : Nat} : pK n q 46 p = pS n q 46 p := rfl
theorem pK_43 {p : Nat} : pK n q 43 p = pS n q 43 p := rfl
theorem pK_61 {p : Nat} : pK n q 61 p = pS n q 61 p := rfl
theorem rp_nil {p : Nat} : rp n q [] p = (true, p, []) := rfl
theorem up_4 {k x : Nat} {V : Nat → Int32} : ∀ k, k ≠ 4 → up V 4 (nI x) k = V k := fun _ hk => up_ne hk
/-- an order of one digit -/
theorem f143_1 {M' : Mm} (hR : RM R) (hP : PS U n q) (hs : s < n) (hU5 : U 5 = nI o) (ho40 : o ≤ 40) (hW : W (4 * o) = nI (q s)) (hsp : spL (shp (q s)) = [116]) (ho : og n q s = rp n q [116] (s + 1)) (l1 : Option Value) : ∃ U' W', EE 143 162 [some (.ref 224), l1] [] (210, m2 J (up U 4 (nI (s + 1))) W, R) = some (some (.int (nI (bN (og n q s).1))), 210, m2 J U' W', R) ∧ MXT n q s o U U' W W' := by
  have hom := om
  have b0 := nbo_0
  have b1 := nbo_1
  have g1 := f144 (J := J) (W := W) (k := 1) (m := 57) (p := s + 1) hR (hP.up (k := 4) (x := nI (s + 1)) (by omega)) hs (up_at _ _ _) (by rw [up_ne (by decide)]; exact hU5) (by decide) (by decide) ho40
  unfold MXT
  rw [ho, hsp]
  cases e1 : pD n q 57 (s + 1) with
  | none =>
    rw [e1] at g1
    rw [rp_none (pK_t.trans e1)]
    refine ⟨up U 4 (nI (s + 1)), W, ?_, up_at _ _ _, fun k hk => up_ne hk, fun k _ => rfl, fun hc => by cases hc⟩
    have g1 : FF 144 [.ref 224, .int (nI 1), .int (nI 57)] (210, m2 J (up U 4 (nI (s + 1))) W, R) = some (some (.int (nI 0)), 210, m2 J (up U 4 (nI (s + 1))) W, R) := g1
    simp (disch := first | omega | (show List.length _ ≤ 4; exact Nat.le_of_ble_eq_true rfl) | assumption | exact nbo_0 | exact nbo_1 | exact b2_b) only [s143_162, s143_163, s143_164, s143_166, s143_169, ↓reduceIte, psh_some, psh_none, cln_i, cln_r, cln_n, cln_l, cln_d, cln_f, Option.bind_some, Option.bind_none, if_true, if_false, nI_add, pk_mul, nbo_0, nbo_1, nI_leI, nI_ltI, nI_eq, Nat.reduceAdd, Nat.reduceMul, Nat.add_zero, Nat.mul_zero, g1]
    rfl
  | some y1 =>
    rw [e1] at g1
    rw [rp_some (pK_t.trans e1), rp_nil]
    refine ⟨up U 4 (nI y1.2), up W (4 * o + 1) (nI y1.1), ?_, up_at _ _ _, fun k hk => up_ne hk, fun k hk => up_ne (by omega), fun _ => ⟨by rw [up_ne (by omega)]; exact hW, fun j hj hj2 => ?_⟩⟩
    · have g1 : FF 144 [.ref 224, .int (nI 1), .int (nI 57)] (210, m2 J (up U 4 (nI (s + 1))) W, R) = some (some (.int (nI 1)), 210, m2 J (up (up U 4 (nI (s + 1))) 4 (nI y1.2)) (up W (4 * o + 1) (nI y1.1)), R) := g1
      rw [up_up] at g1
      simp (disch := first | omega | (show List.length _ ≤ 4; exact Nat.le_of_ble_eq_true rfl) | assumption | exact nbo_0 | exact nbo_1 | exact b2_b) only [s143_162, s143_163, s143_164, s143_166, s143_169, ↓reduceIte, psh_some, psh_none, cln_i, cln_r, cln_n, cln_l, cln_d, cln_f, Option.bind_some, Option.bind_none, if_true, if_false, nI_add, pk_mul, nbo_0, nbo_1, nI_leI, nI_ltI, nI_eq, Nat.reduceAdd, Nat.reduceMul, Nat.add_zero, Nat.mul_zero, g1]
      rfl
    · have hj : j < 1 := hj
      have : j = 0 := by omega
      subst this
      exact up_at _ _ _
/-- an order of number, mark, digit -/
theorem f143_3 (hR : RM R) (hP : PS U n q) (hs : s < n) (hU5 : U 5 = nI o) (ho40 : o ≤ 40) (hW : W (4 * o) = nI (q s)) (hsp : spL (shp (q s)) = [110, 61, 119]) (ho : og n q s = rp n q [110, 61, 119] (s + 1)) (l1 : Option Value) : ∃ U' W', EE 143 242 [some (.ref 224), l1] [] (210, m2 J (up U 4 (nI (s + 1))) W, R) = some (some (.int (nI (bN (og n q s).1))), 210, m2 J U' W', R) ∧ MXT n q s o U U' W W' := by
  have hom := om
  have b0 := nbo_0
  have b1 := nbo_1
  have g1 := f147 (J := J) (W := W) (k := 1) (p := s + 1) hR (hP.up (k := 4) (x := nI (s + 1)) (by omega)) hs (up_at _ _ _) (by rw [up_ne (by decide)]; exact hU5) (by decide) ho40
  unfold MXT
  rw [ho, hsp]
  cases e1 : pN n q (s + 1) with
  | none =>
    rw [e1] at g1
    have g1 : FF 147 [.ref 224, .int (nI 1)] (210, m2 J (up U 4 (nI (s + 1))) W, R) = some (some (.int (nI 0)), 210, m2 J (up U 4 (nI (s + 1))) W, R) := g1
    rw [rp_none (pK_n.trans e1)]
    refine ⟨up U 4 (nI (s + 1)), W, ?_, up_at _ _ _, fun k hk => up_ne hk, fun k _ => rfl, fun hc => by cases hc⟩
    simp (disch := first | omega | (show List.length _ ≤ 4; exact Nat.le_of_ble_eq_true rfl) | assumption | exact nbo_0 | exact nbo_1 | exact b2_b) only [s143_242, s143_243, s143_244, s143_247, s143_273, s143_274, ↓reduceIte, psh_some, psh_none, cln_i, cln_r, cln_n, cln_l, cln_d, cln_f, Option.bind_some, Option.bind_none, if_true, if_false, nI_add, pk_mul, nbo_0, nbo_1, nI_leI, nI_ltI, nI_eq, Nat.reduceAdd, Nat.reduceMul, Nat.add_zero, Nat.mul_zero, g1, z0]
    rfl
  | some y1 =>
    rw [e1] at g1
    have g1 : FF 147 [.ref 224, .int (nI 1)] (210, m2 J (up U 4 (nI (s + 1))) W, R) = some (some (.int (nI 1)), 210, m2 J (up (up U 4 (nI (s + 1))) 4 (nI y1.2)) (up W (4 * o + 1) (nI y1.1)), R) := g1
    rw [up_up] at g1
    have h1 := pK_some hs (pK_n.trans e1)
    have g2 := f146 (J := J) (W := up W (4 * o + 1) (nI y1.1)) (c := 61) (p := y1.2) hR (hP.up (k := 4) (x := nI y1.2) (by omega)) h1.2.1 (up_at _ _ _) (by decide)
    rw [rp_some (pK_n.trans e1)]
    cases e2 : pS n q 61 y1.2 with
    | none =>
      rw [e2] at g2
      have g2 : FF 146 [.ref 224, .int (nI 61)] (210, m2 J (up U 4 (nI y1.2)) (up W (4 * o + 1) (nI y1.1)), R) = some (some (.int (nI 0)), 210, m2 J (up U 4 (nI y1.2)) (up W (4 * o + 1) (nI y1.1)), R) := g2
      rw [rp_none (pK_61.trans e2)]
      refine ⟨up U 4 (nI y1.2), up W (4 * o + 1) (nI y1.1), ?_, up_at _ _ _, fun k hk => up_ne hk, fun k hk => up_ne (by omega), fun hc => by cases hc⟩
      simp (disch := first | omega | (show List.length _ ≤ 4; exact Nat.le_of_ble_eq_true rfl) | assumption | exact nbo_0 | exact nbo_1 | exact b2_b) only [s143_242, s143_243, s143_244, s143_247, s143_250, s143_251, s143_253, s143_256, s143_273, s143_274, ↓reduceIte, psh_some, psh_none, cln_i, cln_r, cln_n, cln_l, cln_d, cln_f, Option.bind_some, Option.bind_none, if_true, if_false, nI_add, pk_mul, nbo_0, nbo_1, nI_leI, nI_ltI, nI_eq, Nat.reduceAdd, Nat.reduceMul, Nat.add_zero, Nat.mul_zero, g1, g2, z0, z1]
      rfl
    | some y2 =>
      rw [e2] at g2
      have g2 : FF 146 [.ref 224, .int (nI 61)] (210, m2 J (up U 4 (nI y1.2)) (up W (4 * o + 1) (nI y1.1)), R) = some (some (.int (nI 1)), 210, m2 J (up (up U 4 (nI y1.2)) 4 (nI y2.2)) (up W (4 * o + 1) (nI y1.1)), R) := g2
      rw [up_up] at g2
      have h2 := pK_some h1.2.1 (pK_61.trans e2)
      have g3 := f144 (J := J) (W := up W (4 * o + 1) (nI y1.1)) (k := 2) (m := 53) (p := y2.2) hR (hP.up (k := 4) (x := nI y2.2) (by omega)) h2.2.1 (up_at _ _ _) (by rw [up_ne (by decide)]; exact hU5) (by decide) (by decide) ho40
      rw [rp_some (pK_61.trans e2)]
      cases e3 : pD n q 53 y2.2 with
      | none =>
        rw [e3] at g3
        have g3 : FF 144 [.ref 224, .int (nI 2), .int (nI 53)] (210, m2 J (up U 4 (nI y2.2)) (up W (4 * o + 1) (nI y1.1)), R) = some (some (.int (nI 0)), 210, m2 J (up U 4 (nI y2.2)) (up W (4 * o + 1) (nI y1.1)), R) := g3
        rw [rp_none (pK_w.trans e3)]
        refine ⟨up U 4 (nI y2.2), up W (4 * o + 1) (nI y1.1), ?_, up_at _ _ _, fun k hk => up_ne hk, fun k hk => up_ne (by omega), fun hc => by cases hc⟩
        simp (disch := first | omega | (show List.length _ ≤ 4; exact Nat.le_of_ble_eq_true rfl) | assumption | exact nbo_0 | exact nbo_1 | exact b2_b) only [s143_242, s143_243, s143_244, s143_247, s143_250, s143_251, s143_253, s143_256, s143_259, s143_260, s143_261, s143_263, s143_266, s143_273, s143_274, ↓reduceIte, psh_some, psh_none, cln_i, cln_r, cln_n, cln_l, cln_d, cln_f, Option.bind_some, Option.bind_none, if_true, if_false, nI_add, pk_mul, nbo_0, nbo_1, nI_leI, nI_ltI, nI_eq, Nat.reduceAdd, Nat.reduceMul, Nat.add_zero, Nat.mul_zero, g1, g2, g3, z0, z1]
        rfl
      | some y3 =>
        rw [e3] at g3
        have g3 : FF 144 [.ref 224, .int (nI 2), .int (nI 53)] (210, m2 J (up U 4 (nI y2.2)) (up W (4 * o + 1) (nI y1.1)), R) = some (some (.int (nI 1)), 210, m2 J (up (up U 4 (nI y2.2)) 4 (nI y3.2)) (up (up W (4 * o + 1) (nI y1.1)) (4 * o + 2) (nI y3.1)), R) := g3
        rw [up_up] at g3
        rw [rp_some (pK_w.trans e3), rp_nil]
        refine ⟨up U 4 (nI y3.2), up (up W (4 * o + 1) (nI y1.1)) (4 * o + 2) (nI y3.1), ?_, up_at _ _ _, fun k hk => up_ne hk, fun k hk => by rw [up_ne (by omega), up_ne (by omega)], fun _ => ⟨by rw [up_ne (by omega), up_ne (by omega)]; exact hW, fun j hj hj2 => ?_⟩⟩
        · simp (disch := first | omega | (show List.length _ ≤ 4; exact Nat.le_of_ble_eq_true rfl) | assumption | exact nbo_0 | exact nbo_1 | exact b2_b) only [s143_242, s143_243, s143_244, s143_247, s143_250, s143_251, s143_253, s143_256, s143_259, s143_260, s143_261, s143_263, s143_266, s143_269, s143_270, s143_274, ↓reduceIte, psh_some, psh_none, cln_i, cln_r, cln_n, cln_l, cln_d, cln_f, Option.bind_some, Option.bind_none, if_true, if_false, nI_add, pk_mul, nbo_0, nbo_1, nI_leI, nI_ltI, nI_eq, Nat.reduceAdd, Nat.reduceMul, Nat.add_zero, Nat.mul_zero, g1, g2, g3, z0, z1]
          rfl
        · have hj : j < 3 := hj
          rcases (show j = 0 ∨ j = 2 by omega) with rfl | rfl
          · show up _ (4 * o + 2) _ (4 * o + 1 + 0) = _
            rw [up_ne (by omega)]
            exact up_at _ _ _
          · exact up_at _ _ _
/-- an order of number, mark, number -/
theorem f143_4 (hR : RM R) (hP : PS U n q) (hs : s < n) (hU5 : U 5 = nI o) (ho40 : o ≤ 40) (hW : W (4 * o) = nI (q s)) (hsp : spL (shp (q s)) = [110, 61, 110]) (ho : og n q s = rp n q [110, 61, 110] (s + 1)) (l1 : Option Value) : ∃ U' W', EE 143 285 [some (.ref 224), l1] [] (210, m2 J (up U 4 (nI (s + 1))) W, R) = some (some (.int (nI (bN (og n q s).1))), 210, m2 J U' W', R) ∧ MXT n q s o U U' W W' := by
  have hom := om
  have b0 := nbo_0
  have b1 := nbo_1
  have g1 := f147 (J := J) (W := W) (k := 1) (p := s + 1) hR (hP.up (k := 4) (x := nI (s + 1)) (by omega)) hs (up_at _ _ _) (by rw [up_ne (by decide)]; exact hU5) (by decide) ho40
  unfold MXT
  rw [ho, hsp]
  cases e1 : pN n q (s + 1) with
  | none =>
    rw [e1] at g1
    have g1 : FF 147 [.ref 224, .int (nI 1)] (210, m2 J (up U 4 (nI (s + 1))) W, R) = some (some (.int (nI 0)), 210, m2 J (up U 4 (nI (s + 1))) W, R) := g1
    rw [rp_none (pK_n.trans e1)]
    refine ⟨up U 4 (nI (s + 1)), W, ?_, up_at _ _ _, fun k hk => up_ne hk, fun k _ => rfl, fun hc => by cases hc⟩
    simp (disch := first | omega | (show List.length _ ≤ 4; exact Nat.le_of_ble_eq_true rfl) | assumption | exact nbo_0 | exact nbo_1 | exact b2_b) only [s143_285, s143_286, s143_287, s143_290, s143_314, s143_315, ↓reduceIte, psh_some, psh_none, cln_i, cln_r, cln_n, cln_l, cln_d, cln_f, Option.bind_some, Option.bind_none, if_true, if_false, nI_add, pk_mul, nbo_0, nbo_1, nI_leI, nI_ltI, nI_eq, Nat.reduceAdd, Nat.reduceMul, Nat.add_zero, Nat.mul_zero, g1, z0]
    rfl
  | some y1 =>
    rw [e1] at g1
    have g1 : FF 147 [.ref 224, .int (nI 1)] (210, m2 J (up U 4 (nI (s + 1))) W, R) = some (some (.int (nI 1)), 210, m2 J (up (up U 4 (nI (s + 1))) 4 (nI y1.2)) (up W (4 * o + 1) (nI y1.1)), R) := g1
    rw [up_up] at g1
    have h1 := pK_some hs (pK_n.trans e1)
    have g2 := f146 (J := J) (W := up W (4 * o + 1) (nI y1.1)) (c := 61) (p := y1.2) hR (hP.up (k := 4) (x := nI y1.2) (by omega)) h1.2.1 (up_at _ _ _) (by decide)
    rw [rp_some (pK_n.trans e1)]
    cases e2 : pS n q 61 y1.2 with
    | none =>
      rw [e2] at g2
      have g2 : FF 146 [.ref 224, .int (nI 61)] (210, m2 J (up U 4 (nI y1.2)) (up W (4 * o + 1) (nI y1.1)), R) = some (some (.int (nI 0)), 210, m2 J (up U 4 (nI y1.2)) (up W (4 * o + 1) (nI y1.1)), R) := g2
      rw [rp_none (pK_61.trans e2)]
      refine ⟨up U 4 (nI y1.2), up W (4 * o + 1) (nI y1.1), ?_, up_at _ _ _, fun k hk => up_ne hk, fun k hk => up_ne (by omega), fun hc => by cases hc⟩
      simp (disch := first | omega | (show List.length _ ≤ 4; exact Nat.le_of_ble_eq_true rfl) | assumption | exact nbo_0 | exact nbo_1 | exact b2_b) only [s143_285, s143_286, s143_287, s143_290, s143_293, s143_294, s143_296, s143_299, s143_314, s143_315, ↓reduceIte, psh_some, psh_none, cln_i, cln_r, cln_n, cln_l, cln_d, cln_f, Option.bind_some, Option.bind_none, if_true, if_false, nI_add, pk_mul, nbo_0, nbo_1, nI_leI, nI_ltI, nI_eq, Nat.reduceAdd, Nat.reduceMul, Nat.add_zero, Nat.mul_zero, g1, g2, z0, z1]
      rfl
    | some y2 =>
      rw [e2] at g2
      have g2 : FF 146 [.ref 224, .int (nI 61)] (210, m2 J (up U 4 (nI y1.2)) (up W (4 * o + 1) (nI y1.1)), R) = some (some (.int (nI 1)), 210, m2 J (up (up U 4 (nI y1.2)) 4 (nI y2.2)) (up W (4 * o + 1) (nI y1.1)), R) := g2
      rw [up_up] at g2
      have h2 := pK_some h1.2.1 (pK_61.trans e2)
      have g3 := f147 (J := J) (W := up W (4 * o + 1) (nI y1.1)) (k := 2) (p := y2.2) hR (hP.up (k := 4) (x := nI y2.2) (by omega)) h2.2.1 (up_at _ _ _) (by rw [up_ne (by decide)]; exact hU5) (by decide) ho40
      rw [rp_some (pK_61.trans e2)]
      cases e3 : pN n q y2.2 with
      | none =>
        rw [e3] at g3
        have g3 : FF 147 [.ref 224, .int (nI 2)] (210, m2 J (up U 4 (nI y2.2)) (up W (4 * o + 1) (nI y1.1)), R) = some (some (.int (nI 0)), 210, m2 J (up U 4 (nI y2.2)) (up W (4 * o + 1) (nI y1.1)), R) := g3
        rw [rp_none (pK_n.trans e3)]
        refine ⟨up U 4 (nI y2.2), up W (4 * o + 1) (nI y1.1), ?_, up_at _ _ _, fun k hk => up_ne hk, fun k hk => up_ne (by omega), fun hc => by cases hc⟩
        simp (disch := first | omega | (show List.length _ ≤ 4; exact Nat.le_of_ble_eq_true rfl) | assumption | exact nbo_0 | exact nbo_1 | exact b2_b) only [s143_285, s143_286, s143_287, s143_290, s143_293, s143_294, s143_296, s143_299, s143_302, s143_303, s143_304, s143_307, s143_314, s143_315, ↓reduceIte, psh_some, psh_none, cln_i, cln_r, cln_n, cln_l, cln_d, cln_f, Option.bind_some, Option.bind_none, if_true, if_false, nI_add, pk_mul, nbo_0, nbo_1, nI_leI, nI_ltI, nI_eq, Nat.reduceAdd, Nat.reduceMul, Nat.add_zero, Nat.mul_zero, g1, g2, g3, z0, z1]
        rfl
      | some y3 =>
        rw [e3] at g3
        have g3 : FF 147 [.ref 224, .int (nI 2)] (210, m2 J (up U 4 (nI y2.2)) (up W (4 * o + 1) (nI y1.1)), R) = some (some (.int (nI 1)), 210, m2 J (up (up U 4 (nI y2.2)) 4 (nI y3.2)) (up (up W (4 * o + 1) (nI y1.1)) (4 * o + 2) (nI y3.1)), R) := g3
        rw [up_up] at g3
        rw [rp_some (pK_n.trans e3), rp_nil]
        refine ⟨up U 4 (nI y3.2), up (up W (4 * o + 1) (nI y1.1)) (4 * o + 2) (nI y3.1), ?_, up_at _ _ _, fun k hk => up_ne hk, fun k hk => by rw [up_ne (by omega), up_ne (by omega)], fun _ => ⟨by rw [up_ne (by omega), up_ne (by omega)]; exact hW, fun j hj hj2 => ?_⟩⟩
        · simp (disch := first | omega | (show List.length _ ≤ 4; exact Nat.le_of_ble_eq_true rfl) | assumption | exact nbo_0 | exact nbo_1 | exact b2_b) only [s143_285, s143_286, s143_287, s143_290, s143_293, s143_294, s143_296, s143_299, s143_302, s143_303, s143_304, s143_307, s143_310, s143_311, s143_315, ↓reduceIte, psh_some, psh_none, cln_i, cln_r, cln_n, cln_l, cln_d, cln_f, Option.bind_some, Option.bind_none, if_true, if_false, nI_add, pk_mul, nbo_0, nbo_1, nI_leI, nI_ltI, nI_eq, Nat.reduceAdd, Nat.reduceMul, Nat.add_zero, Nat.mul_zero, g1, g2, g3, z0, z1]
          rfl
        · have hj : j < 3 := hj
          rcases (show j = 0 ∨ j = 2 by omega) with rfl | rfl
          · show up _ (4 * o + 2) _ (4 * o + 1 + 0) = _
            rw [up_ne (by omega)]
            exact up_at _ _ _
          · exact up_at _ _ _
end IO
