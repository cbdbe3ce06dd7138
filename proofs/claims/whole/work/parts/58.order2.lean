/-! ===== the model reads an order, 2 ===== -/
section IO2
variable {J : Nat → Nat → Int32} {R : Nat → Nat → Option Nat} {n o s : Nat} {q : Nat → Nat} {U W : Nat → Int32}
theorem f143_2 (hR : RM R) (hP : PS U n q) (hs : s < n) (hU5 : U 5 = nI o) (ho40 : o ≤ 40) (hW : W (4 * o) = nI (q s)) (hsp : spL (shp (q s)) = [119, 46, 116, 43, 110]) (ho : og n q s = rp n q [119, 46, 116, 43, 110] (s + 1)) (l1 : Option Value) : ∃ U' W', EE 143 180 [some (.ref 224), l1] [] (210, m2 J (up U 4 (nI (s + 1))) W, R) = some (some (.int (nI (bN (og n q s).1))), 210, m2 J U' W', R) ∧ MXT n q s o U U' W W' := by
  have hom := om
  have b0 := nbo_0
  have b1 := nbo_1
  unfold MXT
  rw [ho, hsp]
  have g1 := f144 (J := J) (W := W) (k := 1) (m := 53) (p := (s + 1)) hR (hP.up (k := 4) (x := nI (s + 1)) (by omega)) hs (up_at _ _ _) (by rw [up_ne (by decide)]; exact hU5) (by decide) (by decide) ho40
  cases e1 : pD n q 53 (s + 1) with
  | none =>
    rw [e1] at g1
    have g1 : FF 144 [.ref 224, .int (nI 1), .int (nI 53)] (210, m2 J (up U 4 (nI (s + 1))) W, R) = some (some (.int (nI 0)), 210, m2 J (up U 4 (nI (s + 1))) W, R) := g1
    rw [rp_none (pK_w.trans e1)]
    refine ⟨up U 4 (nI (s + 1)), W, ?_, up_at _ _ _, fun k hk => up_ne hk, fun k _ => rfl, fun hc => by cases hc⟩
    simp (disch := first | omega | (show List.length _ ≤ 4; exact Nat.le_of_ble_eq_true rfl) | assumption | exact nbo_0 | exact nbo_1 | exact b2_b) only [s143_180, s143_181, s143_182, s143_184, s143_187, s143_230, s143_231, ↓reduceIte, psh_some, psh_none, cln_i, cln_r, cln_n, cln_l, cln_d, cln_f, Option.bind_some, Option.bind_none, if_true, if_false, nI_add, pk_mul, nbo_0, nbo_1, nI_leI, nI_ltI, nI_eq, Nat.reduceAdd, Nat.reduceMul, Nat.add_zero, Nat.mul_zero, g1, z0, z1]
    rfl
  | some y1 =>
    rw [e1] at g1
    have g1 : FF 144 [.ref 224, .int (nI 1), .int (nI 53)] (210, m2 J (up U 4 (nI (s + 1))) W, R) = some (some (.int (nI 1)), 210, m2 J (up (up U 4 (nI (s + 1))) 4 (nI y1.2)) (up W (4 * o + 1) (nI y1.1)), R) := g1
    rw [up_up] at g1
    have h1 := pK_some hs (pK_w.trans e1)
    rw [rp_some (pK_w.trans e1)]
    have g2 := f146 (J := J) (W := (up W (4 * o + 1) (nI y1.1))) (c := 46) (p := y1.2) hR (hP.up (k := 4) (x := nI y1.2) (by omega)) h1.2.1 (up_at _ _ _) (by decide)
    cases e2 : pS n q 46 y1.2 with
    | none =>
      rw [e2] at g2
      have g2 : FF 146 [.ref 224, .int (nI 46)] (210, m2 J (up U 4 (nI y1.2)) (up W (4 * o + 1) (nI y1.1)), R) = some (some (.int (nI 0)), 210, m2 J (up U 4 (nI y1.2)) (up W (4 * o + 1) (nI y1.1)), R) := g2
      rw [rp_none (pK_46.trans e2)]
      refine ⟨up U 4 (nI y1.2), up W (4 * o + 1) (nI y1.1), ?_, up_at _ _ _, fun k hk => up_ne hk, fun k hk => by rw [up_ne (by omega)], fun hc => by cases hc⟩
      simp (disch := first | omega | (show List.length _ ≤ 4; exact Nat.le_of_ble_eq_true rfl) | assumption | exact nbo_0 | exact nbo_1 | exact b2_b) only [s143_180, s143_181, s143_182, s143_184, s143_187, s143_190, s143_191, s143_193, s143_196, s143_230, s143_231, ↓reduceIte, psh_some, psh_none, cln_i, cln_r, cln_n, cln_l, cln_d, cln_f, Option.bind_some, Option.bind_none, if_true, if_false, nI_add, pk_mul, nbo_0, nbo_1, nI_leI, nI_ltI, nI_eq, Nat.reduceAdd, Nat.reduceMul, Nat.add_zero, Nat.mul_zero, g1, g2, z0, z1]
      rfl
    | some y2 =>
      rw [e2] at g2
      have g2 : FF 146 [.ref 224, .int (nI 46)] (210, m2 J (up U 4 (nI y1.2)) (up W (4 * o + 1) (nI y1.1)), R) = some (some (.int (nI 1)), 210, m2 J (up (up U 4 (nI y1.2)) 4 (nI y2.2)) (up W (4 * o + 1) (nI y1.1)), R) := g2
      rw [up_up] at g2
      have h2 := pK_some h1.2.1 (pK_46.trans e2)
      rw [rp_some (pK_46.trans e2)]
      have g3 := f144 (J := J) (W := (up W (4 * o + 1) (nI y1.1))) (k := 2) (m := 57) (p := y2.2) hR (hP.up (k := 4) (x := nI y2.2) (by omega)) h2.2.1 (up_at _ _ _) (by rw [up_ne (by decide)]; exact hU5) (by decide) (by decide) ho40
      cases e3 : pD n q 57 y2.2 with
      | none =>
        rw [e3] at g3
        have g3 : FF 144 [.ref 224, .int (nI 2), .int (nI 57)] (210, m2 J (up U 4 (nI y2.2)) (up W (4 * o + 1) (nI y1.1)), R) = some (some (.int (nI 0)), 210, m2 J (up U 4 (nI y2.2)) (up W (4 * o + 1) (nI y1.1)), R) := g3
        rw [rp_none (pK_t.trans e3)]
        refine ⟨up U 4 (nI y2.2), up W (4 * o + 1) (nI y1.1), ?_, up_at _ _ _, fun k hk => up_ne hk, fun k hk => by rw [up_ne (by omega)], fun hc => by cases hc⟩
        simp (disch := first | omega | (show List.length _ ≤ 4; exact Nat.le_of_ble_eq_true rfl) | assumption | exact nbo_0 | exact nbo_1 | exact b2_b) only [s143_180, s143_181, s143_182, s143_184, s143_187, s143_190, s143_191, s143_193, s143_196, s143_199, s143_200, s143_201, s143_203, s143_206, s143_230, s143_231, ↓reduceIte, psh_some, psh_none, cln_i, cln_r, cln_n, cln_l, cln_d, cln_f, Option.bind_some, Option.bind_none, if_true, if_false, nI_add, pk_mul, nbo_0, nbo_1, nI_leI, nI_ltI, nI_eq, Nat.reduceAdd, Nat.reduceMul, Nat.add_zero, Nat.mul_zero, g1, g2, g3, z0, z1]
        rfl
      | some y3 =>
        rw [e3] at g3
        have g3 : FF 144 [.ref 224, .int (nI 2), .int (nI 57)] (210, m2 J (up U 4 (nI y2.2)) (up W (4 * o + 1) (nI y1.1)), R) = some (some (.int (nI 1)), 210, m2 J (up (up U 4 (nI y2.2)) 4 (nI y3.2)) (up (up W (4 * o + 1) (nI y1.1)) (4 * o + 2) (nI y3.1)), R) := g3
        rw [up_up] at g3
        have h3 := pK_some h2.2.1 (pK_t.trans e3)
        rw [rp_some (pK_t.trans e3)]
        have g4 := f146 (J := J) (W := (up (up W (4 * o + 1) (nI y1.1)) (4 * o + 2) (nI y3.1))) (c := 43) (p := y3.2) hR (hP.up (k := 4) (x := nI y3.2) (by omega)) h3.2.1 (up_at _ _ _) (by decide)
        cases e4 : pS n q 43 y3.2 with
        | none =>
          rw [e4] at g4
          have g4 : FF 146 [.ref 224, .int (nI 43)] (210, m2 J (up U 4 (nI y3.2)) (up (up W (4 * o + 1) (nI y1.1)) (4 * o + 2) (nI y3.1)), R) = some (some (.int (nI 0)), 210, m2 J (up U 4 (nI y3.2)) (up (up W (4 * o + 1) (nI y1.1)) (4 * o + 2) (nI y3.1)), R) := g4
          rw [rp_none (pK_43.trans e4)]
          refine ⟨up U 4 (nI y3.2), up (up W (4 * o + 1) (nI y1.1)) (4 * o + 2) (nI y3.1), ?_, up_at _ _ _, fun k hk => up_ne hk, fun k hk => by rw [up_ne (by omega), up_ne (by omega)], fun hc => by cases hc⟩
          simp (disch := first | omega | (show List.length _ ≤ 4; exact Nat.le_of_ble_eq_true rfl) | assumption | exact nbo_0 | exact nbo_1 | exact b2_b) only [s143_180, s143_181, s143_182, s143_184, s143_187, s143_190, s143_191, s143_193, s143_196, s143_199, s143_200, s143_201, s143_203, s143_206, s143_209, s143_210, s143_212, s143_215, s143_230, s143_231, ↓reduceIte, psh_some, psh_none, cln_i, cln_r, cln_n, cln_l, cln_d, cln_f, Option.bind_some, Option.bind_none, if_true, if_false, nI_add, pk_mul, nbo_0, nbo_1, nI_leI, nI_ltI, nI_eq, Nat.reduceAdd, Nat.reduceMul, Nat.add_zero, Nat.mul_zero, g1, g2, g3, g4, z0, z1]
          rfl
        | some y4 =>
          rw [e4] at g4
          have g4 : FF 146 [.ref 224, .int (nI 43)] (210, m2 J (up U 4 (nI y3.2)) (up (up W (4 * o + 1) (nI y1.1)) (4 * o + 2) (nI y3.1)), R) = some (some (.int (nI 1)), 210, m2 J (up (up U 4 (nI y3.2)) 4 (nI y4.2)) (up (up W (4 * o + 1) (nI y1.1)) (4 * o + 2) (nI y3.1)), R) := g4
          rw [up_up] at g4
          have h4 := pK_some h3.2.1 (pK_43.trans e4)
          rw [rp_some (pK_43.trans e4)]
          have g5 := f147 (J := J) (W := (up (up W (4 * o + 1) (nI y1.1)) (4 * o + 2) (nI y3.1))) (k := 3) (p := y4.2) hR (hP.up (k := 4) (x := nI y4.2) (by omega)) h4.2.1 (up_at _ _ _) (by rw [up_ne (by decide)]; exact hU5) (by decide) ho40
          cases e5 : pN n q y4.2 with
          | none =>
            rw [e5] at g5
            have g5 : FF 147 [.ref 224, .int (nI 3)] (210, m2 J (up U 4 (nI y4.2)) (up (up W (4 * o + 1) (nI y1.1)) (4 * o + 2) (nI y3.1)), R) = some (some (.int (nI 0)), 210, m2 J (up U 4 (nI y4.2)) (up (up W (4 * o + 1) (nI y1.1)) (4 * o + 2) (nI y3.1)), R) := g5
            rw [rp_none (pK_n.trans e5)]
            refine ⟨up U 4 (nI y4.2), up (up W (4 * o + 1) (nI y1.1)) (4 * o + 2) (nI y3.1), ?_, up_at _ _ _, fun k hk => up_ne hk, fun k hk => by rw [up_ne (by omega), up_ne (by omega)], fun hc => by cases hc⟩
            simp (disch := first | omega | (show List.length _ ≤ 4; exact Nat.le_of_ble_eq_true rfl) | assumption | exact nbo_0 | exact nbo_1 | exact b2_b) only [s143_180, s143_181, s143_182, s143_184, s143_187, s143_190, s143_191, s143_193, s143_196, s143_199, s143_200, s143_201, s143_203, s143_206, s143_209, s143_210, s143_212, s143_215, s143_218, s143_219, s143_220, s143_223, s143_230, s143_231, ↓reduceIte, psh_some, psh_none, cln_i, cln_r, cln_n, cln_l, cln_d, cln_f, Option.bind_some, Option.bind_none, if_true, if_false, nI_add, pk_mul, nbo_0, nbo_1, nI_leI, nI_ltI, nI_eq, Nat.reduceAdd, Nat.reduceMul, Nat.add_zero, Nat.mul_zero, g1, g2, g3, g4, g5, z0, z1]
            rfl
          | some y5 =>
            rw [e5] at g5
            have g5 : FF 147 [.ref 224, .int (nI 3)] (210, m2 J (up U 4 (nI y4.2)) (up (up W (4 * o + 1) (nI y1.1)) (4 * o + 2) (nI y3.1)), R) = some (some (.int (nI 1)), 210, m2 J (up (up U 4 (nI y4.2)) 4 (nI y5.2)) (up (up (up W (4 * o + 1) (nI y1.1)) (4 * o + 2) (nI y3.1)) (4 * o + 3) (nI y5.1)), R) := g5
            rw [up_up] at g5
            have h5 := pK_some h4.2.1 (pK_n.trans e5)
            rw [rp_some (pK_n.trans e5)]
            rw [rp_nil]
            refine ⟨up U 4 (nI y5.2), up (up (up W (4 * o + 1) (nI y1.1)) (4 * o + 2) (nI y3.1)) (4 * o + 3) (nI y5.1), ?_, up_at _ _ _, fun k hk => up_ne hk, fun k hk => by rw [up_ne (by omega), up_ne (by omega), up_ne (by omega)], fun _ => ⟨by rw [up_ne (by omega), up_ne (by omega), up_ne (by omega)]; exact hW, fun j hj hj2 => ?_⟩⟩
            · simp (disch := first | omega | (show List.length _ ≤ 4; exact Nat.le_of_ble_eq_true rfl) | assumption | exact nbo_0 | exact nbo_1 | exact b2_b) only [s143_180, s143_181, s143_182, s143_184, s143_187, s143_190, s143_191, s143_193, s143_196, s143_199, s143_200, s143_201, s143_203, s143_206, s143_209, s143_210, s143_212, s143_215, s143_218, s143_219, s143_220, s143_223, s143_226, s143_227, s143_231, ↓reduceIte, psh_some, psh_none, cln_i, cln_r, cln_n, cln_l, cln_d, cln_f, Option.bind_some, Option.bind_none, if_true, if_false, nI_add, pk_mul, nbo_0, nbo_1, nI_leI, nI_ltI, nI_eq, Nat.reduceAdd, Nat.reduceMul, Nat.add_zero, Nat.mul_zero, g1, g2, g3, g4, g5, z1]
              rfl
            · have hj : j < 5 := hj
              rcases (show j = 0 ∨ j = 2 ∨ j = 4 by omega) with rfl | rfl | rfl
              · show up (up (up W (4 * o + 1) _) (4 * o + 2) _) (4 * o + 3) _ (4 * o + 1 + 0) = _
                rw [up_ne (by omega), up_ne (by omega)]
                exact up_at _ _ _
              · show up (up (up W (4 * o + 1) _) (4 * o + 2) _) (4 * o + 3) _ (4 * o + 1 + 1) = _
                rw [up_ne (by omega)]
                exact up_at _ _ _
              · exact up_at _ _ _
theorem f143 (hR : RM R) (hP : PS U n q) (hs : s ≤ n) (hU : U 4 = nI s) (hU5 : U 5 = nI o) (ho40 : o ≤ 40) : ∃ U' W', FF 143 [.ref 224] (210, m2 J U W, R) = some (some (.int (nI (bN (og n q s).1))), 210, m2 J U' W', R) ∧ MXT n q s o U U' W W' := by
  have hom := om
  have b0 := nbo_0
  have b1 := nbo_1
  have h3 := hP.1
  have hn := hP.2.2.1
  have cs := cm_o (k := 4 * o) (by omega)
  by_cases e1 : s < n
  · have e1' : ¬ n ≤ s := by omega
    have hs1 := hP.2.1 s e1
    have hq := hP.2.2.2 s e1
    have st : FF 143 [.ref 224] (210, m2 J U W, R) = EE 143 38 [some (.ref 224), some (.int (nI (q s)))] [.int (nI (q s))] (210, m2 J U (up W (4 * o) (nI (q s))), R) := by
      simp (disch := first | omega | (show List.length _ ≤ 4; exact Nat.le_of_ble_eq_true rfl) | assumption | exact nbo_0 | exact nbo_1 | exact b2_b) only [FE143, s143_0, s143_1, s143_4, s143_5, s143_8, s143_11, s143_12, s143_15, s143_16, s143_19, s143_20, s143_24, s143_25, s143_26, s143_29, s143_30, s143_31, s143_34, s143_35, s143_36, s143_37, ↓reduceIte, psh_some, psh_none, cln_i, cln_r, cln_n, cln_l, cln_d, cln_f, Option.bind_some, Option.bind_none, if_true, if_false, nI_add, pk_mul, nbo_0, nbo_1, nI_leI, nI_ltI, nI_eq, Nat.reduceAdd, Nat.reduceMul, Nat.add_zero, Nat.mul_zero, m2_a, m2_b, m2_d, gm_6 hR, gm_7, gm_8, gm_9 hR, gm_10, am_d, wm_o, h3, hU, hU5, hs1, e1']
    have lift' : ∀ {U' W' : Nat → Int32}, MXT n q s o U U' (up W (4 * o) (nI (q s))) W' → MXT n q s o U U' W W' := fun h => ⟨h.1, h.2.1, fun k hk => by rw [h.2.2.1 k hk, up_ne (by omega)], h.2.2.2⟩
    have hW0 : up W (4 * o) (nI (q s)) (4 * o) = nI (q s) := up_at _ _ _
    cases eL : isL (q s) with
    | false =>
      have eo : og n q s = (false, s, []) := by unfold og; rw [if_neg (fun hc => by rw [eL] at hc; exact absurd hc.2 (by decide))]
      rw [st, p143_o (by omega) eL]
      refine ⟨U, up W (4 * o) (nI (q s)), by rw [eo]; rfl, by rw [eo]; exact hU, fun k _ => rfl, fun k hk => up_ne (by omega), fun hc => by rw [eo] at hc; cases hc⟩
    | true =>
      have eo : og n q s = rp n q (spL (shp (q s))) (s + 1) := by unfold og; rw [if_pos ⟨e1, eL⟩]
      have hl := (isL_iff (q s) (by omega)).mp eL
      by_cases c1 : q s = 111 ∨ q s = 101
      · have hsp : spL (shp (q s)) = [] := by rcases c1 with c | c <;> rw [c] <;> rfl
        rw [hsp, rp_nil] at eo
        refine ⟨up U 4 (nI (s + 1)), up W (4 * o) (nI (q s)), ?_, by rw [eo]; exact up_at _ _ _, fun k hk => up_ne hk, fun k hk => up_ne (by omega), fun _ => ⟨up_at _ _ _, fun j hj => by rw [hsp] at hj; exact absurd hj (by simp)⟩⟩
        rw [st, eo]
        rcases c1 with c | c
        · rw [c]
          simp (disch := first | omega | (show List.length _ ≤ 4; exact Nat.le_of_ble_eq_true rfl) | assumption | exact nbo_0 | exact nbo_1 | exact b2_b) only [s143_38_111, s143_140, s143_141r, s143_142, s143_145, s143_146, s143_147, s143_150, s143_151, ↓reduceIte, psh_some, psh_none, cln_i, cln_r, cln_n, cln_l, cln_d, cln_f, Option.bind_some, Option.bind_none, if_true, if_false, nI_add, pk_mul, nbo_0, nbo_1, nI_leI, nI_ltI, nI_eq, Nat.reduceAdd, Nat.reduceMul, Nat.add_zero, Nat.mul_zero, m2_a, m2_c, gm_8, pm_8, hU]
          rfl
        · rw [c]
          simp (disch := first | omega | (show List.length _ ≤ 4; exact Nat.le_of_ble_eq_true rfl) | assumption | exact nbo_0 | exact nbo_1 | exact b2_b) only [s143_38_101, s143_140, s143_141r, s143_142, s143_145, s143_146, s143_147, s143_150, s143_151, ↓reduceIte, psh_some, psh_none, cln_i, cln_r, cln_n, cln_l, cln_d, cln_f, Option.bind_some, Option.bind_none, if_true, if_false, nI_add, pk_mul, nbo_0, nbo_1, nI_leI, nI_ltI, nI_eq, Nat.reduceAdd, Nat.reduceMul, Nat.add_zero, Nat.mul_zero, m2_a, m2_c, gm_8, pm_8, hU]
          rfl
      · by_cases c2 : q s = 120 ∨ q s = 107 ∨ q s = 99
        · have hsp : spL (shp (q s)) = [116] := by rcases c2 with c | c | c <;> rw [c] <;> rfl
          rw [hsp] at eo
          obtain ⟨U', W', k1, k2⟩ := f143_1 (J := J) (M' := (210, J, R)) hR hP e1 hU5 ho40 hW0 hsp eo (some (.int (nI (q s))))
          refine ⟨U', W', ?_, lift' k2⟩
          rw [st, ← k1]
          clear k1 k2 lift' hl hsp eo eL st hs1 hq hW0
          rcases c2 with c | c | c
          · rw [c]
            simp (disch := first | omega | (show List.length _ ≤ 4; exact Nat.le_of_ble_eq_true rfl) | assumption | exact nbo_0 | exact nbo_1 | exact b2_b) only [s143_38_120, s143_152, s143_153r, s143_154, s143_157, s143_158, s143_159, ↓reduceIte, psh_some, psh_none, cln_i, cln_r, cln_n, cln_l, cln_d, cln_f, Option.bind_some, Option.bind_none, if_true, if_false, nI_add, pk_mul, nbo_0, nbo_1, nI_leI, nI_ltI, nI_eq, Nat.reduceAdd, Nat.reduceMul, Nat.add_zero, Nat.mul_zero, m2_a, m2_c, gm_8, pm_8, hU]
          · rw [c]
            simp (disch := first | omega | (show List.length _ ≤ 4; exact Nat.le_of_ble_eq_true rfl) | assumption | exact nbo_0 | exact nbo_1 | exact b2_b) only [s143_38_107, s143_152, s143_153r, s143_154, s143_157, s143_158, s143_159, ↓reduceIte, psh_some, psh_none, cln_i, cln_r, cln_n, cln_l, cln_d, cln_f, Option.bind_some, Option.bind_none, if_true, if_false, nI_add, pk_mul, nbo_0, nbo_1, nI_leI, nI_ltI, nI_eq, Nat.reduceAdd, Nat.reduceMul, Nat.add_zero, Nat.mul_zero, m2_a, m2_c, gm_8, pm_8, hU]
          · rw [c]
            simp (disch := first | omega | (show List.length _ ≤ 4; exact Nat.le_of_ble_eq_true rfl) | assumption | exact nbo_0 | exact nbo_1 | exact b2_b) only [s143_38_99, s143_152, s143_153r, s143_154, s143_157, s143_158, s143_159, ↓reduceIte, psh_some, psh_none, cln_i, cln_r, cln_n, cln_l, cln_d, cln_f, Option.bind_some, Option.bind_none, if_true, if_false, nI_add, pk_mul, nbo_0, nbo_1, nI_leI, nI_ltI, nI_eq, Nat.reduceAdd, Nat.reduceMul, Nat.add_zero, Nat.mul_zero, m2_a, m2_c, gm_8, pm_8, hU]
        · by_cases c3 : q s = 108
          · have hsp : spL (shp (q s)) = [119, 46, 116, 43, 110] := by rw [c3]; rfl
            rw [hsp] at eo
            obtain ⟨U', W', k1, k2⟩ := f143_2 (J := J) hR hP e1 hU5 ho40 hW0 hsp eo (some (.int (nI (q s))))
            refine ⟨U', W', ?_, lift' k2⟩
            rw [st, ← k1]
            clear k1 k2 lift' hl hsp eo eL st hs1 hq hW0
            rw [c3]
            simp (disch := first | omega | (show List.length _ ≤ 4; exact Nat.le_of_ble_eq_true rfl) | assumption | exact nbo_0 | exact nbo_1 | exact b2_b) only [s143_38_108, s143_170, s143_171r, s143_172, s143_175, s143_176, s143_177, ↓reduceIte, psh_some, psh_none, cln_i, cln_r, cln_n, cln_l, cln_d, cln_f, Option.bind_some, Option.bind_none, if_true, if_false, nI_add, pk_mul, nbo_0, nbo_1, nI_leI, nI_ltI, nI_eq, Nat.reduceAdd, Nat.reduceMul, Nat.add_zero, Nat.mul_zero, m2_a, m2_c, gm_8, pm_8, hU]
          · by_cases c4 : q s = 114
            · have hsp : spL (shp (q s)) = [110, 61, 119] := by rw [c4]; rfl
              rw [hsp] at eo
              obtain ⟨U', W', k1, k2⟩ := f143_3 (J := J) hR hP e1 hU5 ho40 hW0 hsp eo (some (.int (nI (q s))))
              refine ⟨U', W', ?_, lift' k2⟩
              rw [st, ← k1]
              clear k1 k2 lift' hl hsp eo eL st hs1 hq hW0
              rw [c4]
              simp (disch := first | omega | (show List.length _ ≤ 4; exact Nat.le_of_ble_eq_true rfl) | assumption | exact nbo_0 | exact nbo_1 | exact b2_b) only [s143_38_114, s143_232, s143_233r, s143_234, s143_237, s143_238, s143_239, ↓reduceIte, psh_some, psh_none, cln_i, cln_r, cln_n, cln_l, cln_d, cln_f, Option.bind_some, Option.bind_none, if_true, if_false, nI_add, pk_mul, nbo_0, nbo_1, nI_leI, nI_ltI, nI_eq, Nat.reduceAdd, Nat.reduceMul, Nat.add_zero, Nat.mul_zero, m2_a, m2_c, gm_8, pm_8, hU]
            · have c5 : q s = 109 := by omega
              have hsp : spL (shp (q s)) = [110, 61, 110] := by rw [c5]; rfl
              rw [hsp] at eo
              obtain ⟨U', W', k1, k2⟩ := f143_4 (J := J) hR hP e1 hU5 ho40 hW0 hsp eo (some (.int (nI (q s))))
              refine ⟨U', W', ?_, lift' k2⟩
              rw [st, ← k1]
              clear k1 k2 lift' hl hsp eo eL st hs1 hq hW0
              rw [c5]
              simp (disch := first | omega | (show List.length _ ≤ 4; exact Nat.le_of_ble_eq_true rfl) | assumption | exact nbo_0 | exact nbo_1 | exact b2_b) only [s143_38_109, s143_275, s143_276r, s143_277, s143_280, s143_281, s143_282, ↓reduceIte, psh_some, psh_none, cln_i, cln_r, cln_n, cln_l, cln_d, cln_f, Option.bind_some, Option.bind_none, if_true, if_false, nI_add, pk_mul, nbo_0, nbo_1, nI_leI, nI_ltI, nI_eq, Nat.reduceAdd, Nat.reduceMul, Nat.add_zero, Nat.mul_zero, m2_a, m2_c, gm_8, pm_8, hU]
  · have e1' : n ≤ s := by omega
    have eo : og n q s = (false, s, []) := by unfold og; rw [if_neg (fun hc => e1 hc.1)]
    have d := p143_o (c := 0) (by decide) (by decide +kernel) (210, m2 J U (up W (4 * o) (nI 0)), R) (some (.ref 224)) (some (.int (nI 0)))
    refine ⟨U, up W (4 * o) (nI 0), ?_, by rw [eo]; exact hU, fun k _ => rfl, fun k hk => up_ne (by omega), fun hc => by rw [eo] at hc; cases hc⟩
    rw [eo]
    refine Eq.trans ?_ d
    simp (disch := first | omega | (show List.length _ ≤ 4; exact Nat.le_of_ble_eq_true rfl) | assumption | exact nbo_0 | exact nbo_1 | exact b2_b) only [FE143, s143_0, s143_1, s143_4, s143_5, s143_8, s143_23, s143_24, s143_25, s143_26, s143_29, s143_30, s143_31, s143_34, s143_35, s143_36, s143_37, ↓reduceIte, psh_some, psh_none, cln_i, cln_r, cln_n, cln_l, cln_d, cln_f, Option.bind_some, Option.bind_none, if_true, if_false, nI_add, pk_mul, nbo_0, nbo_1, nI_leI, nI_ltI, nI_eq, Nat.reduceAdd, Nat.reduceMul, Nat.add_zero, Nat.mul_zero, m2_a, m2_b, m2_d, gm_7, gm_8, gm_9 hR, gm_10, wm_o, h3, hU, hU5, e1']
end IO2
