/-! ===== the model reads the text; fault ===== -/
/-- rows of the model's orders, from row k on: those that begin at ss -/
def ORW (n : Nat) (q : Nat → Nat) (W : Nat → Int32) (k : Nat) (ss : List Nat) : Prop := ∀ i, i < ss.length → W (4 * (k + i)) = nI (q (ss.getD i 0)) ∧ ∀ j, j < (spL (shp (q (ss.getD i 0)))).length → j % 2 = 0 → W (4 * (k + i) + 1 + j / 2) = nI ((og n q (ss.getD i 0)).2.2.getD j 0)
section TX
variable {J : Nat → Nat → Int32} {R : Nat → Nat → Option Nat} {n : Nat} {q : Nat → Nat}
theorem spl_5 : ∀ s, s < 6 → (spL s).length ≤ 5 := by decide
theorem p142 (hR : RM R) : ∀ d o s (U W : Nat → Int32) (l1 : Option Value), n < s + d → 2 * o ≤ s → s ≤ n → PS U n q → U 4 = nI s → U 5 = nI o → ∃ U' W', EE 142 16 [some (.ref 224), l1] [] (210, m2 J U W, R) = some (some (.int (nI (bN (tx n q d s).1))), 210, m2 J U' W', R) ∧ U' 4 = nI (tx n q d s).2 ∧ (∀ k, k ≠ 4 → k ≠ 5 → U' k = U k) ∧ (∀ k, k < 4 * o → W' k = W k) ∧ ((tx n q d s).1 = true → U' 5 = nI (o + (sls n q d s).length) ∧ ORW n q W' o (sls n q d s)) := by
  have hom := om
  have b0 := nbo_0
  have b1 := nbo_1
  intro d
  induction d with
  | zero => intro o s U W l1 h1 h2 h3; omega
  | succ d ih =>
    intro o s U W l1 h1 h2 h3 hP hU hU5
    have hn := hP.2.2.1
    obtain ⟨U1, W1, k1, x1, x2, x3, x4⟩ := f143 (J := J) (W := W) hR hP h3 hU hU5 (by omega)
    have hle := og_le (q := q) h3
    unfold tx
    by_cases e1 : (og n q s).1 = true
    · have eb : bN (og n q s).1 = 1 := by rw [e1]; rfl
      rw [eb] at k1
      rw [if_pos e1]
      have hlt := hle.2.2 e1
      obtain ⟨y1, y2⟩ := x4 e1
      have hP2 : PS (up U1 5 (nI (o + 1))) n q := (hP.same (fun k hk => x2 k (by omega))).up (by omega)
      have u15 : U1 5 = nI o := by rw [x2 5 (by decide)]; exact hU5
      have u14 : up U1 5 (nI (o + 1)) 4 = nI (og n q s).2.1 := by rw [up_ne (by decide)]; exact x1
      have g := f146 (J := J) (W := W1) (c := 59) hR hP2 hle.2.1 u14 (by decide)
      have row : ∀ W' : Nat → Int32, (∀ k, k < 4 * (o + 1) → W' k = W1 k) → W' (4 * (o + 0)) = nI (q s) ∧ ∀ j, j < (spL (shp (q s))).length → j % 2 = 0 → W' (4 * (o + 0) + 1 + j / 2) = nI ((og n q s).2.2.getD j 0) := fun W' hW' => by
        have l5 := spl_5 (shp (q s)) shp_ok.2
        refine ⟨by rw [Nat.add_zero, hW' _ (by omega)]; exact y1, fun j hj hj2 => ?_⟩
        rw [Nat.add_zero, hW' _ (by omega)]
        exact y2 j hj hj2
      by_cases e2 : (og n q s).2.1 < n ∧ q (og n q s).2.1 = 59
      · have es : pS n q 59 (og n q s).2.1 = some (0, (og n q s).2.1 + 1) := by unfold pS; rw [if_pos e2]
        rw [es] at g
        have g : FF 146 [.ref 224, .int (nI 59)] (210, m2 J (up U1 5 (nI (o + 1))) W1, R) = some (some (.int (nI 1)), 210, m2 J (up (up U1 5 (nI (o + 1))) 4 (nI ((og n q s).2.1 + 1))) W1, R) := g
        rw [if_pos e2]
        have esl : sls n q (d + 1) s = s :: sls n q d ((og n q s).2.1 + 1) := by
          show s :: (if _ then _ else _) = _
          rw [if_pos e2]
        obtain ⟨U', W', m1, m2', m3, m4, m5⟩ := ih (o + 1) ((og n q s).2.1 + 1) (up (up U1 5 (nI (o + 1))) 4 (nI ((og n q s).2.1 + 1))) W1 (some (.int (nI 1))) (by omega) (by omega) e2.1 (hP2.up (by omega)) (up_at _ _ _) (by rw [up_ne (by decide), up_at])
        refine ⟨U', W', ?_, m2', fun k g1 g2 => by rw [m3 k g1 g2, up_ne g1, up_ne g2, x2 k g1], fun k hk => by rw [m4 k (by omega), x3 k (by omega)], fun hok => ?_⟩
        · rw [← m1]
          simp (disch := first | omega | (show List.length _ ≤ 4; exact Nat.le_of_ble_eq_true rfl) | assumption | exact nbo_0 | exact nbo_1 | exact b2_b) only [s142_12, s142_13, s142_17, s142_20, s142_23, s142_24, s142_25, s142_26i, s142_26r, s142_27, s142_30, s142_31, s142_32, s142_35, s142_36, s142_38, s142_41, s142_42, s142_46, s142_49, s142_50, s142_53, s142_56, s142_57, s142_60, s142_61, ↓reduceIte, psh_some, psh_none, cln_i, cln_r, cln_n, cln_l, cln_d, cln_f, Option.bind_some, Option.bind_none, if_true, if_false, nI_add, pk_mul, nbo_0, nbo_1, nI_leI, nI_ltI, nI_eq, Nat.reduceAdd, Nat.reduceMul, Nat.add_zero, Nat.mul_zero, m2_a, m2_c, gm_10, pm_10, u15, k1, g, z1, s142_16]
        · obtain ⟨r1, r2⟩ := m5 hok
          rw [esl]
          refine ⟨by rw [r1, List.length_cons]; congr 1; omega, fun i hi => ?_⟩
          cases i with
          | zero => exact row W' m4
          | succ i =>
            have := r2 i (by simpa using hi)
            rw [show o + (i + 1) = o + 1 + i by omega, List.getD_cons_succ]
            exact this
      · have es : pS n q 59 (og n q s).2.1 = none := by unfold pS; rw [if_neg e2]
        rw [es] at g
        have g : FF 146 [.ref 224, .int (nI 59)] (210, m2 J (up U1 5 (nI (o + 1))) W1, R) = some (some (.int (nI 0)), 210, m2 J (up U1 5 (nI (o + 1))) W1, R) := g
        rw [if_neg e2]
        have esl : sls n q (d + 1) s = [s] := by
          show s :: (if _ then _ else _) = _
          rw [if_neg e2]
        have h23 : up U1 5 (nI (o + 1)) 3 = nI n := hP2.1
        refine ⟨up U1 5 (nI (o + 1)), W1, ?_, u14, fun k g1 g2 => by rw [up_ne g2, x2 k g1], fun k hk => x3 k (by omega), fun _ => ?_⟩
        · by_cases e3 : (og n q s).2.1 = n
          · have eb2 : bN (decide ((og n q s).2.1 = n)) = 1 := by rw [decide_eq_true e3]; rfl
            rw [eb2]
            rw [e3] at u14
            simp (disch := first | omega | (show List.length _ ≤ 4; exact Nat.le_of_ble_eq_true rfl) | assumption | exact nbo_0 | exact nbo_1 | exact b2_b) only [s142_16, s142_12, s142_13, s142_17, s142_20, s142_23, s142_24, s142_25, s142_26i, s142_26r, s142_27, s142_30, s142_31, s142_32, s142_35, s142_36, s142_38, s142_41, s142_42, s142_45, s142_46, s142_49, s142_50, s142_53, s142_56, s142_57, s142_60, s142_61, ↓reduceIte, psh_some, psh_none, cln_i, cln_r, cln_n, cln_l, cln_d, cln_f, Option.bind_some, Option.bind_none, if_true, if_false, nI_add, pk_mul, nbo_0, nbo_1, nI_leI, nI_ltI, nI_eq, Nat.reduceAdd, Nat.reduceMul, Nat.add_zero, Nat.mul_zero, m2_a, m2_c, gm_7, gm_8, gm_10, pm_10, u14, h23, u15, k1, g, z0, z1]
          · have eb2 : bN (decide ((og n q s).2.1 = n)) = 0 := by rw [decide_eq_false e3]; rfl
            rw [eb2]
            simp (disch := first | omega | (show List.length _ ≤ 4; exact Nat.le_of_ble_eq_true rfl) | assumption | exact nbo_0 | exact nbo_1 | exact b2_b) only [s142_16, s142_12, s142_13, s142_17, s142_20, s142_23, s142_24, s142_25, s142_26i, s142_26r, s142_27, s142_30, s142_31, s142_32, s142_35, s142_36, s142_38, s142_41, s142_42, s142_45, s142_46, s142_49, s142_50, s142_53, s142_56, s142_57, s142_60, s142_61, ↓reduceIte, psh_some, psh_none, cln_i, cln_r, cln_n, cln_l, cln_d, cln_f, Option.bind_some, Option.bind_none, if_true, if_false, nI_add, pk_mul, nbo_0, nbo_1, nI_leI, nI_ltI, nI_eq, Nat.reduceAdd, Nat.reduceMul, Nat.add_zero, Nat.mul_zero, m2_a, m2_c, gm_7, gm_8, gm_10, pm_10, u14, h23, u15, k1, g, z0, z1, e3]
        · rw [esl]
          refine ⟨up_at _ _ _, fun i hi => ?_⟩
          have hi : i < 1 := hi
          have : i = 0 := by omega
          subst this
          exact row W1 (fun k _ => rfl)
    · have eb : bN (og n q s).1 = 0 := by unfold bN; rw [if_neg e1]
      rw [eb] at k1
      rw [if_neg e1]
      refine ⟨U1, W1, ?_, x1, fun k g1 _ => x2 k g1, fun k hk => x3 k (by omega), fun hc => by cases hc⟩
      simp (disch := first | omega | (show List.length _ ≤ 4; exact Nat.le_of_ble_eq_true rfl) | assumption | exact nbo_0 | exact nbo_1 | exact b2_b) only [s142_16, s142_17, s142_20, s142_23, s142_24, ↓reduceIte, psh_some, psh_none, cln_i, cln_r, cln_n, cln_l, cln_d, cln_f, Option.bind_some, Option.bind_none, if_true, if_false, nI_add, pk_mul, nbo_0, nbo_1, nI_leI, nI_ltI, nI_eq, Nat.reduceAdd, Nat.reduceMul, Nat.add_zero, Nat.mul_zero, k1, z0]
      rfl
theorem f142 {U W : Nat → Int32} (hR : RM R) (hP : PS U n q) : ∃ U' W', FF 142 [.ref 224] (210, m2 J U W, R) = some (some (.int (nI (bN (tx n q (n + 1) 0).1))), 210, m2 J U' W', R) ∧ U' 4 = nI (tx n q (n + 1) 0).2 ∧ (∀ k, k ≠ 4 → k ≠ 5 → U' k = U k) ∧ ((tx n q (n + 1) 0).1 = true → U' 5 = nI (sls n q (n + 1) 0).length ∧ ORW n q W' 0 (sls n q (n + 1) 0)) := by
  obtain ⟨U', W', m1, m2', m3, m4, m5⟩ := p142 (J := J) (n := n) (q := q) hR (n + 1) 0 0 (up (up U 4 (nI 0)) 5 (nI 0)) W (some (.int (nI 1))) (by omega) (by omega) (by omega) ((hP.up (by omega)).up (by omega)) (by rw [up_ne (by decide), up_at]) (up_at _ _ _)
  rw [Nat.zero_add] at m5
  refine ⟨U', W', ?_, m2', fun k g1 g2 => by rw [m3 k g1 g2, up_ne g2, up_ne g1], m5⟩
  rw [← m1]
  simp (disch := first | omega | (show List.length _ ≤ 4; exact Nat.le_of_ble_eq_true rfl) | assumption | exact nbo_0 | exact nbo_1 | exact b2_b) only [FE142, s142_0, s142_1, s142_2, s142_5, s142_6, s142_7, s142_10, s142_11, s142_12, s142_13, ↓reduceIte, psh_some, psh_none, cln_i, cln_r, cln_n, cln_l, cln_d, cln_f, Option.bind_some, Option.bind_none, if_true, if_false, nI_add, pk_mul, nbo_0, nbo_1, nI_leI, nI_ltI, nI_eq, Nat.reduceAdd, Nat.reduceMul, Nat.add_zero, Nat.mul_zero, m2_a, m2_c, pm_8, pm_10, z1]
end TX
section PF
variable {I : Nat → Nat → Int32} {R : Nat → Nat → Option Nat} {nw bf u n N : Nat} {h hd q : Nat → Nat} {p sl : Nat → Nat → Nat} {a : Nat → Nat}
theorem psC (hG : GL N a u p sl hd n q) (hC : CL I nw bf h a u p sl hd n q) : PS (I 20) n q := ⟨hC.2.2.2.2.2.1, hC.2.2.2.2.2.2.1, hG.2.2.2.1, hG.2.2.2.2⟩
theorem psM (hG : GL N a u p sl hd n q) (hM : ML I a u p sl hd n q) : PS (I 32) n q := ⟨hM.2.2.2.1, hM.2.2.2.2.1, hG.2.2.2.1, hG.2.2.2.2⟩
theorem m2_self {J : Nat → Nat → Int32} : m2 J (J 32) (J 33) = J := by unfold m2; rw [up_self, up_self]
theorem pr_fault (hB : BR R) (hG : GL N a u p sl hd n q) (hC : CL I nw bf h a u p sl hd n q) (hM : ML I a u p sl hd n q) : PR R I (QR R nw bf h) N 74 [.ref 208] 141 [.ref 224] := by
  have ho := od
  have ho2 := opd
  have ho3 := om
  have hRM : RM (QR R nw bf h) := QR_RM hB.2.2.2.2
  have hP := psC hG hC
  obtain ⟨V', k1, k2⟩ := f3 (I := I) (R := R) (nw := nw) (bf := bf) (h := h) hB hP
  rw [up_self] at k1
  have hP2 : PS (up I 20 V' 32) n q := by rw [up_ne (by decide)]; exact psM hG hM
  obtain ⟨U', W', m1, x2, x3, -⟩ := f142 (J := up I 20 V') (U := up I 20 V' 32) (W := up I 20 V' 33) hRM hP2
  rw [m2_self] at m1
  have e0 : U' 4 = nI (tx n q (n + 1) 0).2 := x2
  refine ⟨.int (oF (tx n q (n + 1) 0)), up I 20 V', QR R nw bf h, m2 (up I 20 V') U' W', ?_, ?_, ⟨nw, bf, h, a, u, p, sl, hd, n, q, rfl, hG, hC.pad (fun v hv => ?_) (fun j hj => ?_) ?_ (fun k hk => ?_), hM.pad (fun v h1 h2 h3 => ?_) (fun j hj => ?_) ?_ (fun k hk => ?_)⟩, ?_, ?_, ?_, ?_⟩
  · simp (disch := first | omega | (show List.length _ ≤ 4; exact Nat.le_of_ble_eq_true rfl) | assumption | exact nbo_0 | exact nbo_1 | exact b2_b) only [FE74, s74_0, s74_1, s74_4, s74_7, ↓reduceIte, psh_some, psh_none, cln_i, cln_r, cln_n, cln_l, cln_d, cln_f, Option.bind_some, Option.bind_none, if_true, if_false, nI_add, pk_mul, nbo_0, nbo_1, nI_leI, nI_ltI, nI_eq, Nat.reduceAdd, Nat.reduceMul, Nat.add_zero, Nat.mul_zero, gd_6 hB, k1]
  · unfold oF
    cases e : (tx n q (n + 1) 0).1 with
    | true =>
      rw [e] at m1
      have m1 : FF 142 [.ref 224] (210, up I 20 V', QR R nw bf h) = some (some (.int (nI 1)), 210, m2 (up I 20 V') U' W', QR R nw bf h) := m1
      rw [if_pos rfl]
      simp (disch := first | omega | (show List.length _ ≤ 4; exact Nat.le_of_ble_eq_true rfl) | assumption | exact nbo_0 | exact nbo_1 | exact b2_b) only [FE141, s141_0, s141_1, s141_4, s141_7, s141_9, s141_12, s141_13, s141_16, ↓reduceIte, psh_some, psh_none, cln_i, cln_r, cln_n, cln_l, cln_d, cln_f, Option.bind_some, Option.bind_none, if_true, if_false, nI_add, pk_mul, nbo_0, nbo_1, nI_leI, nI_ltI, nI_eq, Nat.reduceAdd, Nat.reduceMul, Nat.add_zero, Nat.mul_zero, m1, z1]
    | false =>
      rw [e] at m1
      have m1 : FF 142 [.ref 224] (210, up I 20 V', QR R nw bf h) = some (some (.int (nI 0)), 210, m2 (up I 20 V') U' W', QR R nw bf h) := m1
      rw [if_neg (by decide)]
      simp (disch := first | omega | (show List.length _ ≤ 4; exact Nat.le_of_ble_eq_true rfl) | assumption | exact nbo_0 | exact nbo_1 | exact b2_b) only [FE141, s141_0, s141_1, s141_4, s141_7, s141_9, s141_12, s141_13, s141_16, ↓reduceIte, psh_some, psh_none, cln_i, cln_r, cln_n, cln_l, cln_d, cln_f, Option.bind_some, Option.bind_none, if_true, if_false, nI_add, pk_mul, nbo_0, nbo_1, nI_leI, nI_ltI, nI_eq, Nat.reduceAdd, Nat.reduceMul, Nat.add_zero, Nat.mul_zero, m1, z0, gm_8, m2_a, e0]
  · rw [m2_ne (by omega), up_ne (by omega)]
  · rw [m2_ne (by omega), up_at, k2 j (by omega)]
  · rw [m2_ne (by omega), up_at, k2 3 (by omega)]; exact hC.2.2.2.2.2.1
  · rw [m2_ne (by omega), up_at, k2 _ (by omega)]; exact hC.2.2.2.2.2.2.1 k hk
  · rw [m2_ne (by omega), up_ne (by omega)]
  · rw [m2_a, x3 j (by omega) (by omega), up_ne (by omega)]
  · rw [m2_a, x3 3 (by omega) (by omega), up_ne (by omega)]; exact hM.2.2.2.1
  · rw [m2_a, x3 _ (by omega) (by omega), up_ne (by omega)]; exact hM.2.2.2.2.1 k hk
  · rw [m2_ne (by omega), up_ne (by omega)]
  · rw [m2_ne (by omega), up_ne (by omega)]
  · rw [up_ne (by omega)]
  · rw [up_ne (by omega)]
end PF
