/-! ===== the class finds the fault ===== -/
/-- the text from an order's start on: whether it is one, and where its reading stops -/
def tx (n : Nat) (q : Nat → Nat) : Nat → Nat → Bool × Nat
  | 0, s => (false, s)
  | d + 1, s => if (og n q s).1 = true then (if (og n q s).2.1 < n ∧ q (og n q s).2.1 = 59 then tx n q d ((og n q s).2.1 + 1) else (decide ((og n q s).2.1 = n), (og n q s).2.1)) else (false, (og n q s).2.1)
def oF (r : Bool × Nat) : Int32 := if r.1 = true then -6 else nI r.2
section FT
variable {I : Nat → Nat → Int32} {R : Nat → Nat → Option Nat} {nw bf n : Nat} {h q : Nat → Nat}
/-- behind a reading, where the loop goes on or ends -/
theorem p3b {s j d : Nat} {V V1 : Nat → Int32} (hB : BR R) (hP : PS V n q) (hs : s ≤ n) (hX : NXT n q s V V1) (hj : j ≤ 80) (ih : ∀ e (V : Nat → Int32), s < e → e < n → PS V n q → V 5 = nI e → ∃ V', EE 3 6 [some (.ref 212), some (.int (nI (j + 1)))] [] (210, up I 20 V, QR R nw bf h) = some (some (.int (if q e = 59 then oF (tx n q d (e + 1)) else nI e)), 210, up I 20 V', QR R nw bf h) ∧ ∀ k, ¬ (4 ≤ k ∧ k < 9) → V' k = V k) : ∃ V', EE 3 18 [some (.ref 212), some (.int (nI j))] [.int (nI (bN (og n q s).1))] (210, up I 20 V1, QR R nw bf h) = some (some (.int (oF (tx n q (d + 1) s))), 210, up I 20 V', QR R nw bf h) ∧ ∀ k, ¬ (4 ≤ k ∧ k < 9) → V' k = V k := by
  have ho := opd
  have hn := hP.2.2.1
  obtain ⟨x1, x2, x3⟩ := hX
  have hP1 := hP.same x2
  have h3 := hP1.1
  have hle := og_le (q := q) hs
  unfold tx
  by_cases e1 : (og n q s).1 = true
  · have eb : bN (og n q s).1 = 1 := by rw [e1]; rfl
    rw [if_pos e1, eb]
    by_cases e2 : (og n q s).2.1 = n
    · rw [e2] at x1
      rw [if_neg (by omega)]
      refine ⟨V1, ?_, x2⟩
      have r : oF (decide ((og n q s).2.1 = n), (og n q s).2.1) = -6 := by
        unfold oF
        rw [if_pos (decide_eq_true e2)]
      rw [r]
      simp (disch := first | omega | (show List.length _ ≤ 4; exact Nat.le_of_ble_eq_true rfl) | assumption | exact nbo_0 | exact nbo_1 | exact b2_b) only [s3_18, s3_21, s3_22, s3_25, s3_26, s3_29, s3_32, s3_34, ↓reduceIte, psh_some, psh_none, cln_i, cln_r, cln_n, cln_l, cln_d, cln_f, Option.bind_some, Option.bind_none, if_true, if_false, nI_add, pk_mul, nbo_0, nbo_1, nI_leI, nI_ltI, nI_eq, Nat.reduceAdd, Nat.reduceMul, Nat.add_zero, Nat.mul_zero, up_at, up_up, up_vI, vI_at, gp_2, gp_4, x1, h3, z1]
    · have hlt := hle.2.2 e1
      obtain ⟨V', k1, k2⟩ := ih (og n q s).2.1 V1 hlt (by omega) hP1 x1
      refine ⟨V', ?_, fun k hk => by rw [k2 k hk, x2 k hk]⟩
      have r : oF (if (og n q s).2.1 < n ∧ q (og n q s).2.1 = 59 then tx n q d ((og n q s).2.1 + 1) else (decide ((og n q s).2.1 = n), (og n q s).2.1)) = if q (og n q s).2.1 = 59 then oF (tx n q d ((og n q s).2.1 + 1)) else nI (og n q s).2.1 := by
        by_cases e3 : q (og n q s).2.1 = 59
        · rw [if_pos e3, if_pos ⟨by omega, e3⟩]
        · rw [if_neg e3, if_neg (fun hc => e3 hc.2)]
          unfold oF
          rw [if_neg (by simp [e2])]
      rw [r, ← k1]
      simp (disch := first | omega | (show List.length _ ≤ 4; exact Nat.le_of_ble_eq_true rfl) | assumption | exact nbo_0 | exact nbo_1 | exact b2_b) only [s3_18, s3_21, s3_22, s3_25, s3_26, s3_29, s3_35, s3_38, ↓reduceIte, psh_some, psh_none, cln_i, cln_r, cln_n, cln_l, cln_d, cln_f, Option.bind_some, Option.bind_none, if_true, if_false, nI_add, pk_mul, nbo_0, nbo_1, nI_leI, nI_ltI, nI_eq, Nat.reduceAdd, Nat.reduceMul, Nat.add_zero, Nat.mul_zero, up_at, up_up, up_vI, vI_at, gp_2, gp_4, x1, h3, z1, e2]
  · have eb : bN (og n q s).1 = 0 := by unfold bN; rw [if_neg e1]
    rw [if_neg e1, eb]
    refine ⟨V1, ?_, x2⟩
    have r : oF (false, (og n q s).2.1) = nI (og n q s).2.1 := rfl
    rw [r]
    simp (disch := first | omega | (show List.length _ ≤ 4; exact Nat.le_of_ble_eq_true rfl) | assumption | exact nbo_0 | exact nbo_1 | exact b2_b) only [s3_18, s3_41, s3_42, s3_45, ↓reduceIte, psh_some, psh_none, cln_i, cln_r, cln_n, cln_l, cln_d, cln_f, Option.bind_some, Option.bind_none, if_true, if_false, nI_add, pk_mul, nbo_0, nbo_1, nI_leI, nI_ltI, nI_eq, Nat.reduceAdd, Nat.reduceMul, Nat.add_zero, Nat.mul_zero, up_at, up_up, up_vI, vI_at, gp_4, x1, z0]
theorem p3n (hB : BR R) : ∀ d j e (V : Nat → Int32), e < n → 0 < e → j ≤ e → n < e + d → PS V n q → V 5 = nI e → ∃ V', EE 3 6 [some (.ref 212), some (.int (nI j))] [] (210, up I 20 V, QR R nw bf h) = some (some (.int (if q e = 59 then oF (tx n q d (e + 1)) else nI e)), 210, up I 20 V', QR R nw bf h) ∧ ∀ k, ¬ (4 ≤ k ∧ k < 9) → V' k = V k := by
  have ho := opd
  intro d
  induction d with
  | zero => intro j e V h1 h2 h3 h4; omega
  | succ d ih =>
    intro j e V h1 h2 h3 h4 hP hV
    have hn := hP.2.2.1
    have hl := hP.1
    have e1 : ¬ n < j := by omega
    by_cases e3 : q e = 59
    · obtain ⟨V1, k1, k2⟩ := f5_s (I := I) (R := R) (nw := nw) (bf := bf) (h := h) hB hP h2 hV h1 e3
      obtain ⟨V', m1, m2⟩ := p3b (I := I) (R := R) (nw := nw) (bf := bf) (h := h) (j := j) (d := d) hB hP h1 k2 (by omega) (fun e' V' g1 g2 g3 g4 => ih (j + 1) e' V' g2 (by omega) (by omega) (by omega) g3 g4)
      rw [if_pos e3]
      refine ⟨V', ?_, m2⟩
      rw [← m1, s3_6]
      simp (disch := first | omega | (show List.length _ ≤ 4; exact Nat.le_of_ble_eq_true rfl) | assumption | exact nbo_0 | exact nbo_1 | exact b2_b) only [s3_7, s3_8, s3_11, s3_14, s3_15, ↓reduceIte, psh_some, psh_none, cln_i, cln_r, cln_n, cln_l, cln_d, cln_f, Option.bind_some, Option.bind_none, if_true, if_false, nI_add, pk_mul, nbo_0, nbo_1, nI_leI, nI_ltI, nI_eq, Nat.reduceAdd, Nat.reduceMul, Nat.add_zero, Nat.mul_zero, up_at, up_up, up_vI, vI_at, gp_2, hl, e1, k1]
    · have g := f5_n (I := I) (R := R) (nw := nw) (bf := bf) (h := h) hB hP (Nat.le_of_lt h1) h2 hV (fun hc => e3 hc.2)
      rw [if_neg e3]
      refine ⟨V, ?_, fun k _ => rfl⟩
      rw [s3_6]
      simp (disch := first | omega | (show List.length _ ≤ 4; exact Nat.le_of_ble_eq_true rfl) | assumption | exact nbo_0 | exact nbo_1 | exact b2_b) only [s3_7, s3_8, s3_11, s3_14, s3_15, s3_18, s3_41, s3_42, s3_45, ↓reduceIte, psh_some, psh_none, cln_i, cln_r, cln_n, cln_l, cln_d, cln_f, Option.bind_some, Option.bind_none, if_true, if_false, nI_add, pk_mul, nbo_0, nbo_1, nI_leI, nI_ltI, nI_eq, Nat.reduceAdd, Nat.reduceMul, Nat.add_zero, Nat.mul_zero, up_at, up_up, up_vI, vI_at, gp_2, gp_4, hl, hV, e1, g, z0]
theorem f3 {V : Nat → Int32} (hB : BR R) (hP : PS V n q) : ∃ V', FF 3 [.ref 212] (210, up I 20 V, QR R nw bf h) = some (some (.int (oF (tx n q (n + 1) 0))), 210, up I 20 V', QR R nw bf h) ∧ ∀ k, ¬ (4 ≤ k ∧ k < 9) → V' k = V k := by
  have ho := opd
  have hP1 : PS (up V 5 (nI 0)) n q := hP.up (by omega)
  have hn := hP.2.2.1
  have hl := hP1.1
  obtain ⟨V1, k1, k2⟩ := f5_0 (I := I) (R := R) (nw := nw) (bf := bf) (h := h) hB hP1 (up_at _ _ _)
  obtain ⟨V', m1, m2⟩ := p3b (I := I) (R := R) (nw := nw) (bf := bf) (h := h) (j := 0) (d := n) hB hP1 (Nat.zero_le n) k2 (by omega) (fun e' V' g1 g2 g3 g4 => p3n hB n 1 e' V' g2 g1 g1 (by omega) g3 g4)
  refine ⟨V', ?_, fun k hk => by rw [m2 k hk, up_ne (by omega)]⟩
  have e1 : ¬ n < 0 := by omega
  have f4 : FF 4 [.ref 212] (210, up I 20 V, QR R nw bf h) = some (none, 210, up I 20 (up V 5 (nI 0)), QR R nw bf h) := by
    simp (disch := first | omega | (show List.length _ ≤ 4; exact Nat.le_of_ble_eq_true rfl) | assumption | exact nbo_0 | exact nbo_1 | exact b2_b) only [FE4, s4_0, s4_1, s4_2, s4_5, ↓reduceIte, psh_some, psh_none, cln_i, cln_r, cln_n, cln_l, cln_d, cln_f, Option.bind_some, Option.bind_none, if_true, if_false, nI_add, pk_mul, nbo_0, nbo_1, nI_leI, nI_ltI, nI_eq, Nat.reduceAdd, Nat.reduceMul, Nat.add_zero, Nat.mul_zero, up_at, up_up, up_vI, vI_at, pp_4]
  rw [← m1]
  simp (disch := first | omega | (show List.length _ ≤ 4; exact Nat.le_of_ble_eq_true rfl) | assumption | exact nbo_0 | exact nbo_1 | exact b2_b) only [FE3, s3_0, s3_1, s3_4, s3_5, s3_6, s3_7, s3_8, s3_11, s3_14, s3_15, ↓reduceIte, psh_some, psh_none, cln_i, cln_r, cln_n, cln_l, cln_d, cln_f, Option.bind_some, Option.bind_none, if_true, if_false, nI_add, pk_mul, nbo_0, nbo_1, nI_leI, nI_ltI, nI_eq, Nat.reduceAdd, Nat.reduceMul, Nat.add_zero, Nat.mul_zero, up_at, up_up, up_vI, vI_at, gp_2, hl, e1, f4, k1]
/-- the starts of the orders, if the text is one -/
def sls (n : Nat) (q : Nat → Nat) : Nat → Nat → List Nat
  | 0, _ => []
  | d + 1, s => s :: (if (og n q s).2.1 < n ∧ q (og n q s).2.1 = 59 then sls n q d ((og n q s).2.1 + 1) else [])
end FT
