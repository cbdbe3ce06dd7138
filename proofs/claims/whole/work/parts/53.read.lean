/-! ===== the class reads ===== -/
/-- a text of n signs q stands in cells 10.., its length in cell 3 -/
def PS (V : Nat → Int32) (n : Nat) (q : Nat → Nat) : Prop := V 3 = nI n ∧ (∀ k, k < n → V (10 + k) = nI (q k)) ∧ n ≤ 80 ∧ ∀ k, k < n → 33 ≤ q k ∧ q k ≤ 126
def pD (n : Nat) (q : Nat → Nat) (m p : Nat) : Option (Nat × Nat) := if p < n ∧ 48 ≤ q p ∧ q p ≤ m then some (q p - 48, p + 1) else none
def pS (n : Nat) (q : Nat → Nat) (c p : Nat) : Option (Nat × Nat) := if p < n ∧ q p = c then some (0, p + 1) else none
/-- a number, of which x stands already; up to d signs more -/
def pM (n : Nat) (q : Nat → Nat) : Nat → Nat → Nat → Nat × Nat
  | 0, x, p => (x, p)
  | d + 1, x, p => match pD n q 57 p with
    | none => (x, p)
    | some y => pM n q d (x * 10 + y.1) y.2
def pN (n : Nat) (q : Nat → Nat) (p : Nat) : Option (Nat × Nat) := match pD n q 57 p with
  | none => none
  | some y => if y.1 = 0 then some y else some (pM n q 2 y.1 y.2)
def pK (n : Nat) (q : Nat → Nat) (k p : Nat) : Option (Nat × Nat) := if k = 116 then pD n q 57 p else if k = 119 then pD n q 53 p else if k = 110 then pN n q p else pS n q k p
def oV (o : Option (Nat × Nat)) : Int32 := match o with
  | none => -6
  | some y => nI y.1
def oW (V : Nat → Int32) (o : Option (Nat × Nat)) : Nat → Int32 := match o with
  | none => V
  | some y => up V 5 (nI y.2)
section RD
variable {I : Nat → Nat → Int32} {R : Nat → Nat → Option Nat} {nw bf n : Nat} {h q : Nat → Nat} {V : Nat → Int32}
theorem PS.up (hP : PS V n q) {k : Nat} {x : Int32} (hk : 4 ≤ k ∧ k < 9) : PS (up V k x) n q :=
  ⟨by rw [up_ne (by omega)]; exact hP.1, fun j hj => by rw [up_ne (by omega)]; exact hP.2.1 j hj, hP.2.2⟩
theorem pD_some {m p : Nat} {y : Nat × Nat} (hh : pD n q m p = some y) : p < n ∧ 48 ≤ q p ∧ q p ≤ m ∧ y = (q p - 48, p + 1) := by
  unfold pD at hh
  by_cases e : p < n ∧ 48 ≤ q p ∧ q p ≤ m
  · rw [if_pos e] at hh; exact ⟨e.1, e.2.1, e.2.2, (Option.some.inj hh).symm⟩
  · rw [if_neg e] at hh; cases hh
theorem pS_some {c p : Nat} {y : Nat × Nat} (hh : pS n q c p = some y) : p < n ∧ q p = c ∧ y = (0, p + 1) := by
  unfold pS at hh
  by_cases e : p < n ∧ q p = c
  · rw [if_pos e] at hh; exact ⟨e.1, e.2, (Option.some.inj hh).symm⟩
  · rw [if_neg e] at hh; cases hh
theorem pM_le : ∀ d x p, p ≤ n → p ≤ (pM n q d x p).2 ∧ (pM n q d x p).2 ≤ n ∧ (pM n q d x p).1 + 1 ≤ (x + 1) * 10 ^ d
  | 0, x, p, hp => ⟨Nat.le_refl _, hp, by show x + 1 ≤ (x + 1) * 10 ^ 0; omega⟩
  | d + 1, x, p, hp => by
    unfold pM
    cases e : pD n q 57 p with
    | none =>
      refine ⟨Nat.le_refl _, hp, ?_⟩
      have : 0 < 10 ^ (d + 1) := Nat.pow_pos (by decide)
      exact Nat.le_mul_of_pos_right _ this
    | some y =>
      obtain ⟨h1, h2, h3, rfl⟩ := pD_some e
      have g := pM_le d (x * 10 + (q p - 48)) (p + 1) (by omega)
      refine ⟨Nat.le_trans (Nat.le_succ p) g.1, g.2.1, Nat.le_trans g.2.2 ?_⟩
      have h4 : x * 10 + (q p - 48) + 1 ≤ (x + 1) * 10 := by omega
      refine Nat.le_trans (Nat.mul_le_mul_right _ h4) ?_
      rw [Nat.pow_succ, Nat.mul_comm (10 ^ d) 10, Nat.mul_assoc]
      exact Nat.le_refl _
theorem f9 {m p : Nat} (hB : BR R) (hP : PS V n q) (hp : p ≤ n) (hV : V 5 = nI p) (hm : m < 128) : FF 9 [.ref 212, .int (nI m)] (210, up I 20 V, QR R nw bf h) = some (some (.int (oV (pD n q m p))), 210, up I 20 (oW V (pD n q m p)), QR R nw bf h) := by
  have h3 := hP.1
  have hn := hP.2.2.1
  unfold pD
  by_cases e1 : p < n
  · have e1' : ¬ n ≤ p := by omega
    have hs := hP.2.1 p e1
    have hq := hP.2.2.2 p e1
    by_cases e2 : 48 ≤ q p
    · have e2' : ¬ q p < 48 := by omega
      by_cases e3 : q p ≤ m
      · rw [if_pos ⟨e1, e2, e3⟩]
        simp (disch := first | omega | (show List.length _ ≤ 4; exact Nat.le_of_ble_eq_true rfl) | assumption | exact nbo_0 | exact nbo_1 | exact b2_b) only [FE9, s9_0, s9_1, s9_4, s9_5, s9_8, s9_11, s9_12, s9_15, s9_16, s9_19, s9_20, s9_22, s9_25, s9_26, s9_29, s9_30, s9_33, s9_34, s9_35, s9_38, s9_40, s9_41, s9_42, s9_45, s9_46, s9_49, s9_50, s9_52, s9_53, s9_54, s9_55i, s9_55r, s9_56, s9_59, s9_60, s9_61, s9_64, s9_65, ↓reduceIte, psh_some, psh_none, cln_i, cln_r, cln_n, cln_l, cln_d, cln_f, Option.bind_some, Option.bind_none, if_true, if_false, nI_add, pk_mul, nbo_0, nbo_1, nI_leI, nI_ltI, nI_eq, Nat.reduceAdd, Nat.reduceMul, Nat.add_zero, Nat.mul_zero, up_at, up_up, up_vI, vI_at, gp_0 hB, gp_2, gp_4, pp_4, ap_s, h3, hV, hs, e1', e2', e3, nI_sub]
        rfl
      · rw [if_neg (fun hc => e3 hc.2.2)]
        simp (disch := first | omega | (show List.length _ ≤ 4; exact Nat.le_of_ble_eq_true rfl) | assumption | exact nbo_0 | exact nbo_1 | exact b2_b) only [FE9, s9_0, s9_1, s9_4, s9_5, s9_8, s9_11, s9_12, s9_15, s9_16, s9_19, s9_20, s9_22, s9_25, s9_26, s9_29, s9_30, s9_33, s9_34, s9_35, s9_38, s9_40, s9_41, s9_42, s9_45, s9_46, s9_49, s9_50, s9_52, s9_53, s9_54, s9_55i, s9_55r, s9_56, s9_59, s9_60, s9_61, s9_64, s9_65, ↓reduceIte, psh_some, psh_none, cln_i, cln_r, cln_n, cln_l, cln_d, cln_f, Option.bind_some, Option.bind_none, if_true, if_false, nI_add, pk_mul, nbo_0, nbo_1, nI_leI, nI_ltI, nI_eq, Nat.reduceAdd, Nat.reduceMul, Nat.add_zero, Nat.mul_zero, up_at, up_up, up_vI, vI_at, gp_0 hB, gp_2, gp_4, ap_s, h3, hV, hs, e1', e2', e3]
        rfl
    · have e2' : q p < 48 := by omega
      rw [if_neg (fun hc => e2 hc.2.1)]
      simp (disch := first | omega | (show List.length _ ≤ 4; exact Nat.le_of_ble_eq_true rfl) | assumption | exact nbo_0 | exact nbo_1 | exact b2_b) only [FE9, s9_0, s9_1, s9_4, s9_5, s9_8, s9_11, s9_12, s9_15, s9_16, s9_19, s9_20, s9_22, s9_25, s9_26, s9_29, s9_30, s9_33, s9_34, s9_35, s9_38, s9_40, s9_41, s9_42, s9_45, s9_46, s9_49, s9_50, s9_52, s9_53, s9_54, s9_55i, s9_55r, s9_56, s9_59, s9_60, s9_61, s9_64, s9_65, ↓reduceIte, psh_some, psh_none, cln_i, cln_r, cln_n, cln_l, cln_d, cln_f, Option.bind_some, Option.bind_none, if_true, if_false, nI_add, pk_mul, nbo_0, nbo_1, nI_leI, nI_ltI, nI_eq, Nat.reduceAdd, Nat.reduceMul, Nat.add_zero, Nat.mul_zero, up_at, up_up, up_vI, vI_at, gp_0 hB, gp_2, gp_4, ap_s, h3, hV, hs, e1', e2']
      rfl
  · have e1' : n ≤ p := by omega
    rw [if_neg (fun hc => e1 hc.1)]
    simp (disch := first | omega | (show List.length _ ≤ 4; exact Nat.le_of_ble_eq_true rfl) | assumption | exact nbo_0 | exact nbo_1 | exact b2_b) only [FE9, s9_0, s9_1, s9_4, s9_5, s9_8, s9_11, s9_12, s9_15, s9_16, s9_19, s9_20, s9_22, s9_25, s9_26, s9_29, s9_30, s9_33, s9_34, s9_35, s9_38, s9_40, s9_41, s9_42, s9_45, s9_46, s9_49, s9_50, s9_52, s9_53, s9_54, s9_55i, s9_55r, s9_56, s9_59, s9_60, s9_61, s9_64, s9_65, ↓reduceIte, psh_some, psh_none, cln_i, cln_r, cln_n, cln_l, cln_d, cln_f, Option.bind_some, Option.bind_none, if_true, if_false, nI_add, pk_mul, nbo_0, nbo_1, nI_leI, nI_ltI, nI_eq, Nat.reduceAdd, Nat.reduceMul, Nat.add_zero, Nat.mul_zero, up_at, up_up, up_vI, vI_at, gp_2, gp_4, h3, hV, e1']
    rfl
theorem f6 {c p : Nat} (hB : BR R) (hP : PS V n q) (hp : p ≤ n) (hV : V 5 = nI p) (hc : c < 128) : FF 6 [.ref 212, .int (nI c)] (210, up I 20 V, QR R nw bf h) = some (some (.int (oV (pS n q c p))), 210, up I 20 (oW V (pS n q c p)), QR R nw bf h) := by
  have h3 := hP.1
  have hn := hP.2.2.1
  unfold pS
  by_cases e1 : p < n
  · have e1' : ¬ n ≤ p := by omega
    have hs := hP.2.1 p e1
    have hq := hP.2.2.2 p e1
    by_cases e2 : q p = c
    · rw [if_pos ⟨e1, e2⟩]
      rw [e2] at hs
      simp (disch := first | omega | (show List.length _ ≤ 4; exact Nat.le_of_ble_eq_true rfl) | assumption | exact nbo_0 | exact nbo_1 | exact b2_b) only [FE6, s6_0, s6_1, s6_4, s6_5, s6_8, s6_11, s6_12, s6_15, s6_16, s6_19, s6_20, s6_21, s6_24, s6_26, s6_27, s6_28i, s6_28r, s6_29, s6_32, s6_33, s6_34, s6_37, s6_38, ↓reduceIte, psh_some, psh_none, cln_i, cln_r, cln_n, cln_l, cln_d, cln_f, Option.bind_some, Option.bind_none, if_true, if_false, nI_add, pk_mul, nbo_0, nbo_1, nI_leI, nI_ltI, nI_eq, Nat.reduceAdd, Nat.reduceMul, Nat.add_zero, Nat.mul_zero, up_at, up_up, up_vI, vI_at, gp_0 hB, gp_2, gp_4, pp_4, ap_s, h3, hV, hs, e1']
      rfl
    · rw [if_neg (fun hc => e2 hc.2)]
      simp (disch := first | omega | (show List.length _ ≤ 4; exact Nat.le_of_ble_eq_true rfl) | assumption | exact nbo_0 | exact nbo_1 | exact b2_b) only [FE6, s6_0, s6_1, s6_4, s6_5, s6_8, s6_11, s6_12, s6_15, s6_16, s6_19, s6_20, s6_21, s6_24, s6_26, s6_27, s6_28i, s6_28r, s6_29, s6_32, s6_33, s6_34, s6_37, s6_38, ↓reduceIte, psh_some, psh_none, cln_i, cln_r, cln_n, cln_l, cln_d, cln_f, Option.bind_some, Option.bind_none, if_true, if_false, nI_add, pk_mul, nbo_0, nbo_1, nI_leI, nI_ltI, nI_eq, Nat.reduceAdd, Nat.reduceMul, Nat.add_zero, Nat.mul_zero, up_at, up_up, up_vI, vI_at, gp_0 hB, gp_2, gp_4, ap_s, h3, hV, hs, e1', e2]
      rfl
  · have e1' : n ≤ p := by omega
    rw [if_neg (fun hc => e1 hc.1)]
    simp (disch := first | omega | (show List.length _ ≤ 4; exact Nat.le_of_ble_eq_true rfl) | assumption | exact nbo_0 | exact nbo_1 | exact b2_b) only [FE6, s6_0, s6_1, s6_4, s6_5, s6_8, s6_11, s6_12, s6_15, s6_16, s6_19, s6_20, s6_21, s6_24, s6_26, s6_27, s6_28i, s6_28r, s6_29, s6_32, s6_33, s6_34, s6_37, s6_38, ↓reduceIte, psh_some, psh_none, cln_i, cln_r, cln_n, cln_l, cln_d, cln_f, Option.bind_some, Option.bind_none, if_true, if_false, nI_add, pk_mul, nbo_0, nbo_1, nI_leI, nI_ltI, nI_eq, Nat.reduceAdd, Nat.reduceMul, Nat.add_zero, Nat.mul_zero, up_at, up_up, up_vI, vI_at, gp_2, gp_4, h3, hV, e1']
    rfl
theorem n6lt : ¬ (0 < (-6 : Int32)) := by decide
theorem n6ge : ¬ (0 ≤ (-6 : Int32)) := by decide
theorem nI_ge0 {k : Nat} (hk : k < 2 ^ 31) : 0 ≤ nI k := Int32.not_lt.mp (nI_pos hk)
theorem nI_gt0 {k : Nat} (h0 : 0 < k) (hk : k < 2 ^ 31) : 0 < nI k := by
  have : nI 0 < nI k := (nI_ltI (by decide) hk).mpr h0
  exact this
theorem p10 {x0 : Option Value} (hB : BR R) : ∀ d i x p (V : Nat → Int32) (l3 : Option Value), i + d = 2 → ((i = 0 → x < 10) ∧ (i = 1 → x < 100) ∧ x < 1000) → PS V n q → p ≤ n → V 5 = nI p → EE 10 15 [some (.ref 212), some (.int (nI x)), some (.int (nI i)), l3] [] (210, up I 20 V, QR R nw bf h) = some (some (.int (nI (pM n q d x p).1)), 210, up I 20 (up V 5 (nI (pM n q d x p).2)), QR R nw bf h) := by
  have ho := opd
  intro d
  induction d with
  | zero =>
    intro i x p V l3 hi hx hP hp hV
    have e : 2 ≤ i := by omega
    rw [s10_15]
    simp (disch := first | omega | (show List.length _ ≤ 4; exact Nat.le_of_ble_eq_true rfl) | assumption | exact nbo_0 | exact nbo_1 | exact b2_b) only [s10_16, s10_17, s10_46, s10_47, ↓reduceIte, psh_some, psh_none, cln_i, cln_r, cln_n, cln_l, cln_d, cln_f, Option.bind_some, Option.bind_none, if_true, if_false, nI_add, pk_mul, nbo_0, nbo_1, nI_leI, nI_ltI, nI_eq, Nat.reduceAdd, Nat.reduceMul, Nat.add_zero, Nat.mul_zero, e]
    show _ = some (some (Value.int (nI x)), 210, up I 20 (up V 5 (nI p)), QR R nw bf h)
    rw [up_eq hV]
  | succ d ih =>
    intro i x p V l3 hi hx hP hp hV
    have e : ¬ 2 ≤ i := by omega
    have g := f9 (I := I) (nw := nw) (bf := bf) (h := h) (m := 57) hB hP hp hV (by decide)
    unfold pM
    cases ed : pD n q 57 p with
    | none =>
      rw [ed] at g
      have g : FF 9 [.ref 212, .int (nI 57)] (210, up I 20 V, QR R nw bf h) = some (some (.int (-6)), 210, up I 20 V, QR R nw bf h) := g
      have n6 := n6ge
      rw [s10_15]
      simp (disch := first | omega | (show List.length _ ≤ 4; exact Nat.le_of_ble_eq_true rfl) | assumption | exact nbo_0 | exact nbo_1 | exact b2_b) only [s10_16, s10_17, s10_20, s10_21, s10_23, s10_26, s10_27, s10_28, s10_31, s10_32, ↓reduceIte, psh_some, psh_none, cln_i, cln_r, cln_n, cln_l, cln_d, cln_f, Option.bind_some, Option.bind_none, if_true, if_false, nI_add, pk_mul, nbo_0, nbo_1, nI_leI, nI_ltI, nI_eq, Nat.reduceAdd, Nat.reduceMul, Nat.add_zero, Nat.mul_zero, e, g, n6]
      show _ = some (some (Value.int (nI x)), 210, up I 20 (up V 5 (nI p)), QR R nw bf h)
      rw [up_eq hV]
    | some y =>
      obtain ⟨h1, h2, h3, rfl⟩ := pD_some ed
      rw [ed] at g
      have g : FF 9 [.ref 212, .int (nI 57)] (210, up I 20 V, QR R nw bf h) = some (some (.int (nI (q p - 48))), 210, up I 20 (up V 5 (nI (p + 1))), QR R nw bf h) := g
      have k := ih (i + 1) (x * 10 + (q p - 48)) (p + 1) (up V 5 (nI (p + 1))) (some (.int (nI (q p - 48)))) (by omega) (by omega) (hP.up (by omega)) (by omega) (up_at _ _ _)
      rw [up_up] at k
      have n0 := nI_ge0 (k := q p - 48) (by omega)
      show _ = some (some (Value.int (nI (pM n q d (x * 10 + (q p - 48)) (p + 1)).1)), 210, up I 20 (up V 5 (nI (pM n q d (x * 10 + (q p - 48)) (p + 1)).2)), QR R nw bf h)
      rw [← k, s10_15]
      simp (disch := first | omega | (show List.length _ ≤ 4; exact Nat.le_of_ble_eq_true rfl) | assumption | exact nbo_0 | exact nbo_1 | exact b2_b) only [s10_0, s10_1, s10_3, s10_6, s10_7, s10_8, s10_11, s10_12, s10_13, s10_14, s10_16, s10_17, s10_20, s10_21, s10_23, s10_26, s10_27, s10_28, s10_31, s10_32, s10_33, s10_34, s10_36, s10_37, s10_38, s10_39, s10_40, s10_43, s10_46, s10_47, ↓reduceIte, psh_some, psh_none, cln_i, cln_r, cln_n, cln_l, cln_d, cln_f, Option.bind_some, Option.bind_none, if_true, if_false, nI_add, pk_mul, nbo_0, nbo_1, nI_leI, nI_ltI, nI_eq, Nat.reduceAdd, Nat.reduceMul, Nat.add_zero, Nat.mul_zero, e, g, n0]
theorem f10 {p : Nat} (hB : BR R) (hP : PS V n q) (hp : p ≤ n) (hV : V 5 = nI p) : FF 10 [.ref 212] (210, up I 20 V, QR R nw bf h) = some (some (.int (oV (pN n q p))), 210, up I 20 (oW V (pN n q p)), QR R nw bf h) := by
  have ho := opd
  have g := f9 (I := I) (nw := nw) (bf := bf) (h := h) (m := 57) hB hP hp hV (by decide)
  cases ed : pD n q 57 p with
  | none =>
    have hN : pN n q p = none := by unfold pN; rw [ed]
    rw [hN]
    rw [ed] at g
    have g : FF 9 [.ref 212, .int (nI 57)] (210, up I 20 V, QR R nw bf h) = some (some (.int (-6)), 210, up I 20 V, QR R nw bf h) := g
    have n6 := n6lt
    simp (disch := first | omega | (show List.length _ ≤ 4; exact Nat.le_of_ble_eq_true rfl) | assumption | exact nbo_0 | exact nbo_1 | exact b2_b) only [FE10, s10_0, s10_1, s10_3, s10_6, s10_7, s10_8, s10_11, s10_12, ↓reduceIte, psh_some, psh_none, cln_i, cln_r, cln_n, cln_l, cln_d, cln_f, Option.bind_some, Option.bind_none, if_true, if_false, nI_add, pk_mul, nbo_0, nbo_1, nI_leI, nI_ltI, nI_eq, Nat.reduceAdd, Nat.reduceMul, Nat.add_zero, Nat.mul_zero, g, n6]
    rfl
  | some y =>
    obtain ⟨h1, h2, h3, rfl⟩ := pD_some ed
    rw [ed] at g
    have g : FF 9 [.ref 212, .int (nI 57)] (210, up I 20 V, QR R nw bf h) = some (some (.int (nI (q p - 48))), 210, up I 20 (up V 5 (nI (p + 1))), QR R nw bf h) := g
    have hN : pN n q p = if q p - 48 = 0 then some (q p - 48, p + 1) else some (pM n q 2 (q p - 48) (p + 1)) := by unfold pN; rw [ed]
    rw [hN]
    by_cases e0 : q p - 48 = 0
    · have z : ¬ (0 : Int32) < nI 0 := by decide
      rw [if_pos e0]
      show _ = some (some (Value.int (nI (q p - 48))), 210, up I 20 (up V 5 (nI (p + 1))), QR R nw bf h)
      rw [e0] at g ⊢
      simp (disch := first | omega | (show List.length _ ≤ 4; exact Nat.le_of_ble_eq_true rfl) | assumption | exact nbo_0 | exact nbo_1 | exact b2_b) only [FE10, s10_0, s10_1, s10_3, s10_6, s10_7, s10_8, s10_11, s10_12, ↓reduceIte, psh_some, psh_none, cln_i, cln_r, cln_n, cln_l, cln_d, cln_f, Option.bind_some, Option.bind_none, if_true, if_false, nI_add, pk_mul, nbo_0, nbo_1, nI_leI, nI_ltI, nI_eq, Nat.reduceAdd, Nat.reduceMul, Nat.add_zero, Nat.mul_zero, g, z]
    · have z := nI_gt0 (k := q p - 48) (by omega) (by omega)
      have k := p10 (I := I) (R := R) (nw := nw) (bf := bf) (h := h) (x0 := none) (n := n) (q := q) hB 2 0 (q p - 48) (p + 1) (up V 5 (nI (p + 1))) none (by decide) (by omega) (hP.up (by omega)) (by omega) (up_at _ _ _)
      rw [up_up] at k
      rw [if_neg e0]
      refine Eq.trans ?_ k
      simp (disch := first | omega | (show List.length _ ≤ 4; exact Nat.le_of_ble_eq_true rfl) | assumption | exact nbo_0 | exact nbo_1 | exact b2_b) only [FE10, s10_0, s10_1, s10_3, s10_6, s10_7, s10_8, s10_13, s10_14, ↓reduceIte, psh_some, psh_none, cln_i, cln_r, cln_n, cln_l, cln_d, cln_f, Option.bind_some, Option.bind_none, if_true, if_false, nI_add, pk_mul, nbo_0, nbo_1, nI_leI, nI_ltI, nI_eq, Nat.reduceAdd, Nat.reduceMul, Nat.add_zero, Nat.mul_zero, g, z]
theorem f8 {c p : Nat} (hB : BR R) (hP : PS V n q) (hp : p ≤ n) (hV : V 5 = nI p) (hc : c < 128) : FF 8 [.ref 212, .int (nI c)] (210, up I 20 V, QR R nw bf h) = some (some (.int (oV (pK n q c p))), 210, up I 20 (oW V (pK n q c p)), QR R nw bf h) := by
  have ho := opd
  unfold pK
  by_cases e1 : c = 116
  · subst e1
    have g := f9 (I := I) (nw := nw) (bf := bf) (h := h) (m := 57) hB hP hp hV (by decide)
    rw [if_pos rfl]
    simp (disch := first | omega | (show List.length _ ≤ 4; exact Nat.le_of_ble_eq_true rfl) | assumption | exact nbo_0 | exact nbo_1 | exact b2_b) only [FE8, s8_0, s8_1_110, s8_1_116, s8_1_119, s8_1_d, s8_36, s8_37, s8_39, s8_42, s8_43, s8_44, s8_46, s8_49, s8_50, s8_51, s8_54, s8_55, s8_56, s8_57, s8_60, ↓reduceIte, psh_some, psh_none, cln_i, cln_r, cln_n, cln_l, cln_d, cln_f, Option.bind_some, Option.bind_none, if_true, if_false, nI_add, pk_mul, nbo_0, nbo_1, nI_leI, nI_ltI, nI_eq, Nat.reduceAdd, Nat.reduceMul, Nat.add_zero, Nat.mul_zero, g]
  · rw [if_neg e1]
    by_cases e2 : c = 119
    · subst e2
      have g := f9 (I := I) (nw := nw) (bf := bf) (h := h) (m := 53) hB hP hp hV (by decide)
      rw [if_pos rfl]
      simp (disch := first | omega | (show List.length _ ≤ 4; exact Nat.le_of_ble_eq_true rfl) | assumption | exact nbo_0 | exact nbo_1 | exact b2_b) only [FE8, s8_0, s8_1_110, s8_1_116, s8_1_119, s8_1_d, s8_36, s8_37, s8_39, s8_42, s8_43, s8_44, s8_46, s8_49, s8_50, s8_51, s8_54, s8_55, s8_56, s8_57, s8_60, ↓reduceIte, psh_some, psh_none, cln_i, cln_r, cln_n, cln_l, cln_d, cln_f, Option.bind_some, Option.bind_none, if_true, if_false, nI_add, pk_mul, nbo_0, nbo_1, nI_leI, nI_ltI, nI_eq, Nat.reduceAdd, Nat.reduceMul, Nat.add_zero, Nat.mul_zero, g]
    · rw [if_neg e2]
      by_cases e3 : c = 110
      · subst e3
        have g := f10 (I := I) (nw := nw) (bf := bf) (h := h) hB hP hp hV
        rw [if_pos rfl]
        simp (disch := first | omega | (show List.length _ ≤ 4; exact Nat.le_of_ble_eq_true rfl) | assumption | exact nbo_0 | exact nbo_1 | exact b2_b) only [FE8, s8_0, s8_1_110, s8_1_116, s8_1_119, s8_1_d, s8_36, s8_37, s8_39, s8_42, s8_43, s8_44, s8_46, s8_49, s8_50, s8_51, s8_54, s8_55, s8_56, s8_57, s8_60, ↓reduceIte, psh_some, psh_none, cln_i, cln_r, cln_n, cln_l, cln_d, cln_f, Option.bind_some, Option.bind_none, if_true, if_false, nI_add, pk_mul, nbo_0, nbo_1, nI_leI, nI_ltI, nI_eq, Nat.reduceAdd, Nat.reduceMul, Nat.add_zero, Nat.mul_zero, g]
      · rw [if_neg e3]
        have g := f6 (I := I) (nw := nw) (bf := bf) (h := h) hB hP hp hV hc
        have e := nI_toInt (n := c) (by omega)
        have gd := fun (M : Mm) (st : List Value) (l0 l1 : Option Value) => s8_1_d (M := M) (st := st) (l0 := l0) (l1 := l1) (x := nI c) (by omega) (by omega) (by omega)
        simp (disch := first | omega | (show List.length _ ≤ 4; exact Nat.le_of_ble_eq_true rfl) | assumption | exact nbo_0 | exact nbo_1 | exact b2_b) only [FE8, s8_0, gd, s8_55, s8_56, s8_57, s8_60, ↓reduceIte, psh_some, psh_none, cln_i, cln_r, cln_n, cln_l, cln_d, cln_f, Option.bind_some, Option.bind_none, if_true, if_false, nI_add, pk_mul, nbo_0, nbo_1, nI_leI, nI_ltI, nI_eq, Nat.reduceAdd, Nat.reduceMul, Nat.add_zero, Nat.mul_zero, g]
/-- what a part leaves: where it stands, and how great the value is -/
theorem pK_some {c p : Nat} {y : Nat × Nat} (hp : p ≤ n) (hh : pK n q c p = some y) : p < y.2 ∧ y.2 ≤ n ∧ y.1 < 1000 := by
  have hd : ∀ m, m ≤ 57 → pD n q m p = some y → p < y.2 ∧ y.2 ≤ n ∧ y.1 < 1000 := by
    intro m hm e
    obtain ⟨h1, h2, h3, rfl⟩ := pD_some e
    exact ⟨Nat.lt_succ_self p, h1, by show q p - 48 < 1000; omega⟩
  unfold pK at hh
  by_cases e1 : c = 116
  · rw [if_pos e1] at hh; exact hd 57 (by decide) hh
  · rw [if_neg e1] at hh
    by_cases e2 : c = 119
    · rw [if_pos e2] at hh; exact hd 53 (by decide) hh
    · rw [if_neg e2] at hh
      by_cases e3 : c = 110
      · rw [if_pos e3] at hh
        unfold pN at hh
        cases ed : pD n q 57 p with
        | none => rw [ed] at hh; cases hh
        | some z =>
          obtain ⟨h1, h2, h3, rfl⟩ := pD_some ed
          rw [ed] at hh
          have hh : (if q p - 48 = 0 then some (q p - 48, p + 1) else some (pM n q 2 (q p - 48) (p + 1))) = some y := hh
          by_cases e0 : q p - 48 = 0
          · rw [if_pos e0] at hh
            have := Option.some.inj hh
            subst this
            exact ⟨Nat.lt_succ_self p, h1, by show q p - 48 < 1000; omega⟩
          · rw [if_neg e0] at hh
            have := Option.some.inj hh
            subst this
            have g := pM_le (n := n) (q := q) 2 (q p - 48) (p + 1) h1
            exact ⟨by omega, g.2.1, by omega⟩
      · rw [if_neg e3] at hh
        obtain ⟨h1, h2, rfl⟩ := pS_some hh
        exact ⟨Nat.lt_succ_self p, h1, by show 0 < 1000; decide⟩
end RD
