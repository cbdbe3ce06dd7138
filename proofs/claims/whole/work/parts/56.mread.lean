/-! ===== the model reads ===== -/
def m2 (J : Nat → Nat → Int32) (U W : Nat → Int32) : Nat → Nat → Int32 := up (up J 32 U) 33 W
def oB (o : Option (Nat × Nat)) : Nat := match o with
  | none => 0
  | some _ => 1
def oU (U : Nat → Int32) (o : Option (Nat × Nat)) : Nat → Int32 := match o with
  | none => U
  | some y => up U 4 (nI y.2)
def oO (W : Nat → Int32) (c : Nat) (o : Option (Nat × Nat)) : Nat → Int32 := match o with
  | none => W
  | some y => up W c (nI y.1)
section MR
variable {J : Nat → Nat → Int32} {R : Nat → Nat → Option Nat} {n o p : Nat} {q : Nat → Nat} {U W X : Nat → Int32}
theorem m2_a : m2 J U W 32 = U := by unfold m2; rw [up_ne (by decide), up_at]
theorem m2_b : m2 J U W 33 = W := up_at _ _ _
theorem m2_c : up (m2 J U W) 32 X = m2 J X W := by
  unfold m2
  rw [up_comm (v := 33) (w := 32) (by decide), up_up]
theorem m2_d : up (m2 J U W) 33 X = m2 J U X := by
  unfold m2
  rw [up_up]
theorem m2_ne {v : Nat} (hv : v ≠ 32 ∧ v ≠ 33) : m2 J U W v = J v := by unfold m2; rw [up_ne hv.2, up_ne hv.1]
theorem f145 {lo hi : Nat} (hR : RM R) (hP : PS U n q) (hp : p ≤ n) (hU : U 4 = nI p) (hlo : lo < 128) (hhi : hi < 128) : FF 145 [.ref 224, .int (nI lo), .int (nI hi)] (210, m2 J U W, R) = some (some (.int (b2 (p < n ∧ lo ≤ q p ∧ q p ≤ hi))), 210, m2 J U W, R) := by
  have ho := om
  have h3 := hP.1
  have hn := hP.2.2.1
  by_cases e1 : p < n
  · have e1' : ¬ n ≤ p := by omega
    have hs := hP.2.1 p e1
    have hq := hP.2.2.2 p e1
    have g84 := f84 (M := (210, m2 J U W, R)) (x := nI (q p)) (y := nI lo) (z := nI hi)
    by_cases e2 : lo ≤ q p ∧ q p ≤ hi
    · rw [b2_t (show ¬ nI (q p) < nI lo ∧ ¬ nI hi < nI (q p) by rw [nI_ltI (by omega) (by omega), nI_ltI (by omega) (by omega)]; omega)] at g84
      rw [b2_t ⟨e1, e2⟩]
      simp (disch := first | omega | (show List.length _ ≤ 4; exact Nat.le_of_ble_eq_true rfl) | assumption | exact nbo_0 | exact nbo_1 | exact b2_b) only [FE145, s145_0, s145_1, s145_4, s145_5, s145_8, s145_11, s145_12, s145_15, s145_16, s145_19, s145_20, s145_21, s145_22, s145_25, s145_28, s145_29, s145_32, s145_33, ↓reduceIte, psh_some, psh_none, cln_i, cln_r, cln_n, cln_l, cln_d, cln_f, Option.bind_some, Option.bind_none, if_true, if_false, nI_add, pk_mul, nbo_0, nbo_1, nI_leI, nI_ltI, nI_eq, Nat.reduceAdd, Nat.reduceMul, Nat.add_zero, Nat.mul_zero, m2_a, gm_6 hR, gm_7, gm_8, am_d, h3, hU, hs, e1', g84, z1]
    · rw [b2_f (show ¬ (¬ nI (q p) < nI lo ∧ ¬ nI hi < nI (q p)) by rw [nI_ltI (by omega) (by omega), nI_ltI (by omega) (by omega)]; omega)] at g84
      rw [b2_f (fun hc => e2 hc.2)]
      simp (disch := first | omega | (show List.length _ ≤ 4; exact Nat.le_of_ble_eq_true rfl) | assumption | exact nbo_0 | exact nbo_1 | exact b2_b) only [FE145, s145_0, s145_1, s145_4, s145_5, s145_8, s145_11, s145_12, s145_15, s145_16, s145_19, s145_20, s145_21, s145_22, s145_25, s145_28, s145_29, s145_32, s145_33, ↓reduceIte, psh_some, psh_none, cln_i, cln_r, cln_n, cln_l, cln_d, cln_f, Option.bind_some, Option.bind_none, if_true, if_false, nI_add, pk_mul, nbo_0, nbo_1, nI_leI, nI_ltI, nI_eq, Nat.reduceAdd, Nat.reduceMul, Nat.add_zero, Nat.mul_zero, m2_a, gm_6 hR, gm_7, gm_8, am_d, h3, hU, hs, e1', g84, z0]
  · have e1' : n ≤ p := by omega
    rw [b2_f (fun hc => e1 hc.1)]
    simp (disch := first | omega | (show List.length _ ≤ 4; exact Nat.le_of_ble_eq_true rfl) | assumption | exact nbo_0 | exact nbo_1 | exact b2_b) only [FE145, s145_0, s145_1, s145_4, s145_5, s145_8, s145_11, s145_12, s145_15, s145_16, s145_19, s145_20, s145_21, s145_22, s145_25, s145_28, s145_29, s145_32, s145_33, ↓reduceIte, psh_some, psh_none, cln_i, cln_r, cln_n, cln_l, cln_d, cln_f, Option.bind_some, Option.bind_none, if_true, if_false, nI_add, pk_mul, nbo_0, nbo_1, nI_leI, nI_ltI, nI_eq, Nat.reduceAdd, Nat.reduceMul, Nat.add_zero, Nat.mul_zero, m2_a, gm_7, gm_8, h3, hU, e1']
theorem f146 {c : Nat} (hR : RM R) (hP : PS U n q) (hp : p ≤ n) (hU : U 4 = nI p) (hc : c < 128) : FF 146 [.ref 224, .int (nI c)] (210, m2 J U W, R) = some (some (.int (nI (oB (pS n q c p)))), 210, m2 J (oU U (pS n q c p)) W, R) := by
  have ho := om
  have hn := hP.2.2.1
  have g := f145 (J := J) (W := W) hR hP hp hU hc hc
  have hu : up U 4 (nI p) = U := up_eq hU
  unfold pS
  by_cases e : p < n ∧ q p = c
  · rw [b2_t (show p < n ∧ c ≤ q p ∧ q p ≤ c by omega)] at g
    rw [if_pos e]
    simp (disch := first | omega | (show List.length _ ≤ 4; exact Nat.le_of_ble_eq_true rfl) | assumption | exact nbo_0 | exact nbo_1 | exact b2_b) only [FE146, s146_0, s146_1, s146_2, s146_3, s146_6, s146_7, s146_8i, s146_8r, s146_9, s146_12, s146_13, s146_16, s146_17, s146_20, s146_21, s146_22, s146_25, s146_26, ↓reduceIte, psh_some, psh_none, cln_i, cln_r, cln_n, cln_l, cln_d, cln_f, Option.bind_some, Option.bind_none, if_true, if_false, nI_add, pk_mul, nbo_0, nbo_1, nI_leI, nI_ltI, nI_eq, Nat.reduceAdd, Nat.reduceMul, Nat.add_zero, Nat.mul_zero, m2_a, m2_c, gm_8, pm_8, hU, g, z1]
    rfl
  · rw [b2_f (show ¬ (p < n ∧ c ≤ q p ∧ q p ≤ c) by omega)] at g
    rw [if_neg e]
    simp (disch := first | omega | (show List.length _ ≤ 4; exact Nat.le_of_ble_eq_true rfl) | assumption | exact nbo_0 | exact nbo_1 | exact b2_b) only [FE146, s146_0, s146_1, s146_2, s146_3, s146_6, s146_7, s146_8i, s146_8r, s146_9, s146_12, s146_13, s146_16, s146_17, s146_20, s146_21, s146_22, s146_25, s146_26, ↓reduceIte, psh_some, psh_none, cln_i, cln_r, cln_n, cln_l, cln_d, cln_f, Option.bind_some, Option.bind_none, if_true, if_false, nI_add, pk_mul, nbo_0, nbo_1, nI_leI, nI_ltI, nI_eq, Nat.reduceAdd, Nat.reduceMul, Nat.add_zero, Nat.mul_zero, m2_a, m2_c, gm_8, pm_8, hU, g, z0, hu]
    rfl
theorem f144 {k m : Nat} (hR : RM R) (hP : PS U n q) (hp : p ≤ n) (hU : U 4 = nI p) (hU5 : U 5 = nI o) (hm : m < 128) (hk : k < 4) (ho40 : o ≤ 40) : FF 144 [.ref 224, .int (nI k), .int (nI m)] (210, m2 J U W, R) = some (some (.int (nI (oB (pD n q m p)))), 210, m2 J (oU U (pD n q m p)) (oO W (4 * o + k) (pD n q m p)), R) := by
  have ho := om
  have hn := hP.2.2.1
  have g := f145 (J := J) (W := W) (lo := 48) hR hP hp hU (by decide) hm
  unfold pD
  by_cases e : p < n ∧ 48 ≤ q p ∧ q p ≤ m
  · rw [b2_t e] at g
    rw [if_pos e]
    have hs := hP.2.1 p e.1
    have cs := cm_o (k := 4 * o + k) (by omega)
    simp (disch := first | omega | (show List.length _ ≤ 4; exact Nat.le_of_ble_eq_true rfl) | assumption | exact nbo_0 | exact nbo_1 | exact b2_b) only [FE144, s144_0, s144_1, s144_3, s144_4, s144_7, s144_8, s144_9, s144_12, s144_13, s144_16, s144_17, s144_18, s144_21, s144_22, s144_23, s144_24, s144_25, s144_28, s144_29, s144_32, s144_33, s144_35, s144_36, s144_37, s144_38i, s144_38r, s144_39, s144_42, s144_43, s144_44, s144_47, s144_48, ↓reduceIte, psh_some, psh_none, cln_i, cln_r, cln_n, cln_l, cln_d, cln_f, Option.bind_some, Option.bind_none, if_true, if_false, nI_add, pk_mul, nbo_0, nbo_1, nI_leI, nI_ltI, nI_eq, Nat.reduceAdd, Nat.reduceMul, Nat.add_zero, Nat.mul_zero, m2_a, m2_b, m2_c, m2_d, gm_6 hR, gm_8, gm_9 hR, gm_10, pm_8, am_d, wm_o, hU, hU5, hs, g, z1, nI_sub]
    rfl
  · rw [b2_f e] at g
    rw [if_neg e]
    simp (disch := first | omega | (show List.length _ ≤ 4; exact Nat.le_of_ble_eq_true rfl) | assumption | exact nbo_0 | exact nbo_1 | exact b2_b) only [FE144, s144_0, s144_1, s144_3, s144_4, s144_7, s144_8, s144_9, s144_12, s144_13, s144_16, s144_17, s144_18, s144_21, s144_22, s144_23, s144_24, s144_25, s144_28, s144_29, s144_32, s144_33, s144_35, s144_36, s144_37, s144_38i, s144_38r, s144_39, s144_42, s144_43, s144_44, s144_47, s144_48, ↓reduceIte, psh_some, psh_none, cln_i, cln_r, cln_n, cln_l, cln_d, cln_f, Option.bind_some, Option.bind_none, if_true, if_false, nI_add, pk_mul, nbo_0, nbo_1, nI_leI, nI_ltI, nI_eq, Nat.reduceAdd, Nat.reduceMul, Nat.add_zero, Nat.mul_zero, g, z0]
    rfl
theorem p147 {k0 : Int32} (hR : RM R) : ∀ d x p (U : Nat → Int32), (d = 2 → 1 ≤ x ∧ x < 10) → (d = 1 → 10 ≤ x ∧ x < 100) → (d = 0 → 100 ≤ x) → d ≤ 2 → x < 1000 → PS U n q → p ≤ n → U 4 = nI p → EE 147 36 [some (.ref 224), some (.int k0), some (.int (nI x))] [] (210, m2 J U W, R) = EE 147 88 [some (.ref 224), some (.int k0), some (.int (nI (pM n q d x p).1))] [] (210, m2 J (up U 4 (nI (pM n q d x p).2)) W, R) := by
  have ho := om
  intro d
  induction d with
  | zero =>
    intro x p U h2 h1 h0 hd hx hP hp hU
    have e0 : ¬ (nI x ≤ (0 : Int32)) := nI_nle (by have := h0 rfl; omega) (by omega)
    have e1 : 100 ≤ x := h0 rfl
    rw [s147_36]
    simp (disch := first | omega | (show List.length _ ≤ 4; exact Nat.le_of_ble_eq_true rfl) | assumption | exact nbo_0 | exact nbo_1 | exact b2_b) only [s147_37, s147_40, s147_41, s147_43, ↓reduceIte, psh_some, psh_none, cln_i, cln_r, cln_n, cln_l, cln_d, cln_f, Option.bind_some, Option.bind_none, if_true, if_false, nI_add, pk_mul, nbo_0, nbo_1, nI_leI, nI_ltI, nI_eq, Nat.reduceAdd, Nat.reduceMul, Nat.add_zero, Nat.mul_zero, e0, e1]
    show EE 147 88 _ _ (210, m2 J U W, R) = EE 147 88 _ _ (210, m2 J (up U 4 (nI p)) W, R)
    rw [up_eq hU]
    rfl
  | succ d ih =>
    intro x p U h2 h1 h0 hd hx hP hp hU
    have e0 : ¬ (nI x ≤ (0 : Int32)) := by
      refine nI_nle ?_ (by omega)
      rcases (show d = 0 ∨ d = 1 by omega) with rfl | rfl
      · have := h1 rfl; omega
      · have := h2 rfl; omega
    have e1 : ¬ 100 ≤ x := by
      rcases (show d = 0 ∨ d = 1 by omega) with rfl | rfl
      · have := h1 rfl; omega
      · have := h2 rfl; omega
    have g := f145 (J := J) (W := W) (lo := 48) (hi := 57) hR hP hp hU (by decide) (by decide)
    unfold pM
    cases ed : pD n q 57 p with
    | none =>
      have e : ¬ (p < n ∧ 48 ≤ q p ∧ q p ≤ 57) := by
        intro hc
        unfold pD at ed
        rw [if_pos hc] at ed
        cases ed
      rw [b2_f e] at g
      rw [s147_36]
      simp (disch := first | omega | (show List.length _ ≤ 4; exact Nat.le_of_ble_eq_true rfl) | assumption | exact nbo_0 | exact nbo_1 | exact b2_b) only [s147_37, s147_40, s147_41, s147_43, s147_46, s147_47, s147_49, s147_51, s147_54, ↓reduceIte, psh_some, psh_none, cln_i, cln_r, cln_n, cln_l, cln_d, cln_f, Option.bind_some, Option.bind_none, if_true, if_false, nI_add, pk_mul, nbo_0, nbo_1, nI_leI, nI_ltI, nI_eq, Nat.reduceAdd, Nat.reduceMul, Nat.add_zero, Nat.mul_zero, e0, e1, g, z0]
      rw [up_eq hU]
    | some y =>
      obtain ⟨c1, c2, c3, rfl⟩ := pD_some ed
      rw [b2_t ⟨c1, c2, c3⟩] at g
      have hs := hP.2.1 p c1
      have hn := hP.2.2.1
      have e2 : 10 * x + q p - 48 = x * 10 + (q p - 48) := by omega
      have k := ih (x * 10 + (q p - 48)) (p + 1) (up U 4 (nI (p + 1))) (by omega) (fun hh => by have := h2 (by omega); omega) (fun hh => by have := h1 (by omega); omega) (by omega) (by omega) (hP.up (by omega)) c1 (up_at _ _ _)
      rw [up_up] at k
      refine Eq.trans ?_ k
      rw [s147_36]
      simp (disch := first | omega | (show List.length _ ≤ 4; exact Nat.le_of_ble_eq_true rfl) | assumption | exact nbo_0 | exact nbo_1 | exact b2_b) only [s147_37, s147_40, s147_41, s147_43, s147_46, s147_47, s147_49, s147_51, s147_54, s147_57, s147_59, s147_60, s147_61, s147_62, s147_65, s147_66, s147_69, s147_70, s147_71, s147_73, s147_74, s147_75, s147_76r, s147_77, s147_80, s147_81, s147_82, s147_85, ↓reduceIte, psh_some, psh_none, cln_i, cln_r, cln_n, cln_l, cln_d, cln_f, Option.bind_some, Option.bind_none, if_true, if_false, nI_add, pk_mul, nbo_0, nbo_1, nI_leI, nI_ltI, nI_eq, Nat.reduceAdd, Nat.reduceMul, Nat.add_zero, Nat.mul_zero, m2_a, m2_c, gm_6 hR, gm_8, pm_8, am_d, hU, hs, e0, e1, e2, g, z1, nI_sub]
theorem f147 {k : Nat} (hR : RM R) (hP : PS U n q) (hp : p ≤ n) (hU : U 4 = nI p) (hU5 : U 5 = nI o) (hk : k < 4) (ho40 : o ≤ 40) : FF 147 [.ref 224, .int (nI k)] (210, m2 J U W, R) = some (some (.int (nI (oB (pN n q p)))), 210, m2 J (oU U (pN n q p)) (oO W (4 * o + k) (pN n q p)), R) := by
  have ho := om
  have hn := hP.2.2.1
  have g := f145 (J := J) (W := W) (lo := 48) (hi := 57) hR hP hp hU (by decide) (by decide)
  cases ed : pD n q 57 p with
  | none =>
    have e : ¬ (p < n ∧ 48 ≤ q p ∧ q p ≤ 57) := by
      intro hc
      unfold pD at ed
      rw [if_pos hc] at ed
      cases ed
    have hN : pN n q p = none := by unfold pN; rw [ed]
    rw [b2_f e] at g
    rw [hN]
    simp (disch := first | omega | (show List.length _ ≤ 4; exact Nat.le_of_ble_eq_true rfl) | assumption | exact nbo_0 | exact nbo_1 | exact b2_b) only [FE147, s147_0, s147_1, s147_3, s147_5, s147_8, s147_11, s147_12, ↓reduceIte, psh_some, psh_none, cln_i, cln_r, cln_n, cln_l, cln_d, cln_f, Option.bind_some, Option.bind_none, if_true, if_false, nI_add, pk_mul, nbo_0, nbo_1, nI_leI, nI_ltI, nI_eq, Nat.reduceAdd, Nat.reduceMul, Nat.add_zero, Nat.mul_zero, g, z0]
    rfl
  | some y =>
    obtain ⟨c1, c2, c3, rfl⟩ := pD_some ed
    have hN : pN n q p = if q p - 48 = 0 then some (q p - 48, p + 1) else some (pM n q 2 (q p - 48) (p + 1)) := by unfold pN; rw [ed]
    rw [b2_t ⟨c1, c2, c3⟩] at g
    have hs := hP.2.1 p c1
    have cs := cm_o (k := 4 * o + k) (by omega)
    have st : FF 147 [.ref 224, .int (nI k)] (210, m2 J U W, R) = EE 147 36 [some (.ref 224), some (.int (nI k)), some (.int (nI (q p - 48)))] [] (210, m2 J (up U 4 (nI (p + 1))) W, R) := by
      simp (disch := first | omega | (show List.length _ ≤ 4; exact Nat.le_of_ble_eq_true rfl) | assumption | exact nbo_0 | exact nbo_1 | exact b2_b) only [FE147, s147_0, s147_1, s147_3, s147_5, s147_8, s147_13, s147_14, s147_17, s147_18, s147_21, s147_22, s147_24, s147_25, s147_26, s147_27r, s147_28, s147_31, s147_32, s147_33, ↓reduceIte, psh_some, psh_none, cln_i, cln_r, cln_n, cln_l, cln_d, cln_f, Option.bind_some, Option.bind_none, if_true, if_false, nI_add, pk_mul, nbo_0, nbo_1, nI_leI, nI_ltI, nI_eq, Nat.reduceAdd, Nat.reduceMul, Nat.add_zero, Nat.mul_zero, m2_a, m2_c, gm_6 hR, gm_8, pm_8, am_d, hU, hs, g, z1, nI_sub]
    have fin : ∀ (x p' : Nat) (U' : Nat → Int32), U' 5 = nI o → EE 147 88 [some (.ref 224), some (.int (nI k)), some (.int (nI x))] [] (210, m2 J U' W, R) = some (some (.int (nI 1)), 210, m2 J U' (up W (4 * o + k) (nI x)), R) := by
      intro x p' U' h5
      simp (disch := first | omega | (show List.length _ ≤ 4; exact Nat.le_of_ble_eq_true rfl) | assumption | exact nbo_0 | exact nbo_1 | exact b2_b) only [s147_88, s147_89, s147_92, s147_93, s147_94, s147_97, s147_98, s147_99, s147_100, s147_101, s147_102, s147_103, ↓reduceIte, psh_some, psh_none, cln_i, cln_r, cln_n, cln_l, cln_d, cln_f, Option.bind_some, Option.bind_none, if_true, if_false, nI_add, pk_mul, nbo_0, nbo_1, nI_leI, nI_ltI, nI_eq, Nat.reduceAdd, Nat.reduceMul, Nat.add_zero, Nat.mul_zero, m2_a, m2_b, m2_d, gm_9 hR, gm_10, wm_o, h5]
    rw [hN]
    by_cases e0 : q p - 48 = 0
    · rw [if_pos e0, st, e0]
      have z : (nI 0 ≤ (0 : Int32)) = True := eq_true (by decide)
      have fi := fin 0 (p + 1) (up U 4 (nI (p + 1))) (by rw [up_ne (by omega)]; exact hU5)
      rw [s147_36]
      simp (disch := first | omega | (show List.length _ ≤ 4; exact Nat.le_of_ble_eq_true rfl) | assumption | exact nbo_0 | exact nbo_1 | exact b2_b) only [s147_37, ↓reduceIte, psh_some, psh_none, cln_i, cln_r, cln_n, cln_l, cln_d, cln_f, Option.bind_some, Option.bind_none, if_true, if_false, nI_add, pk_mul, nbo_0, nbo_1, nI_leI, nI_ltI, nI_eq, Nat.reduceAdd, Nat.reduceMul, Nat.add_zero, Nat.mul_zero, z, fi]
      rfl
    · rw [if_neg e0, st, p147 (J := J) (W := W) (k0 := nI k) hR 2 (q p - 48) (p + 1) (up U 4 (nI (p + 1))) (by omega) (by omega) (by omega) (by omega) (by omega) (hP.up (by omega)) c1 (up_at _ _ _), up_up, fin _ 0 _ (by rw [up_ne (by omega)]; exact hU5)]
      rfl
end MR
