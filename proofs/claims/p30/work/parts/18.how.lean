/-! ===== known, away, lost; the greatest; the place in the list ===== -/
def gF (a : Nat → Nat) (t w g : Nat) : Nat := if g = 0 then (if a 2 ≤ a (58 + 10 * w + t) then 1 else 0) else 1
def howN (a : Nat → Nat) (t : Nat) : Nat := if a 2 ≤ a (58 + 10 * frm a + t) then 0 else if fd (gF a t) 6 0 0 = 0 then 2 else 1
def otF (a : Nat → Nat) (h i : Nat) (S : Int32) : Int32 := if a (38 + i) = 1 ∧ howN a i = h then S ||| (nI 1 <<< (nI i &&& 31)) else S
def ot (a : Nat → Nat) (h : Nat) : Int32 := fd (otF a h) (a 1) 0 (nI 0)
def bsF (a : Nat → Nat) (t w g : Nat) : Nat := if a (58 + 10 * g + t) < a (58 + 10 * w + t) then w else g
def bst (a : Nat → Nat) (t : Nat) : Nat := fd (bsF a t) 5 1 0
def plc (a : Nat → Nat) (t : Nat) : Nat → Nat → Option Nat
  | 0, _ => none
  | d + 1, k => if a (48 + k) = t then some k else plc a t d (k + 1)
section PH
variable {a : Nat → Nat} {t : Nat}
theorem gF_one : ∀ d w, fd (gF a t) d w 1 = 1
  | 0, _ => rfl
  | d + 1, w => gF_one d (w + 1)
theorem howN_lt : howN a t < 3 := by
  unfold howN
  by_cases e : a 2 ≤ a (58 + 10 * frm a + t)
  · rw [if_pos e]; decide
  · rw [if_neg e]
    by_cases e2 : fd (gF a t) 6 0 0 = 0
    · rw [if_pos e2]; decide
    · rw [if_neg e2]; decide
theorem bsF_lt : ∀ d w g, w + d ≤ 6 → g < 6 → fd (bsF a t) d w g < 6
  | 0, _, _, _, h => h
  | d + 1, w, g, h, hg => by
    refine bsF_lt d (w + 1) (bsF a t w g) (by omega) ?_
    unfold bsF
    by_cases e : a (58 + 10 * g + t) < a (58 + 10 * w + t)
    · rw [if_pos e]; omega
    · rw [if_neg e]; exact hg
theorem bst_lt : bst a t < 6 := bsF_lt 5 1 0 (by decide) (by decide)
theorem plc_some : ∀ d k p, plc a t d k = some p → k ≤ p ∧ p < k + d ∧ a (48 + p) = t
  | 0, _, _, h => by cases h
  | d + 1, k, p, h => by
    unfold plc at h
    by_cases e : a (48 + k) = t
    · rw [if_pos e] at h
      cases h
      exact ⟨Nat.le_refl _, by omega, e⟩
    · rw [if_neg e] at h
      have := plc_some d (k + 1) p h
      exact ⟨by omega, by omega, this.2.2⟩
theorem plc_none : ∀ d k, plc a t d k = none → ∀ p, k ≤ p → p < k + d → a (48 + p) ≠ t
  | 0, _, _, p, h1, h2 => by omega
  | d + 1, k, h, p, h1, h2 => by
    unfold plc at h
    by_cases e : a (48 + k) = t
    · rw [if_pos e] at h
      cases h
    · rw [if_neg e] at h
      by_cases e2 : p = k
      · subst e2; exact e
      · exact plc_none d (k + 1) h p (by omega) (by omega)
end PH
section S7
variable {I : Nat → Nat → Int32} {R : Nat → Nat → Option Nat} {b : Nat} {a : Nat → Nat}
theorem p37 {t : Nat} (hb : b < 13) (hR : RS R) (hI : I b = vI a) (hW : WO a) (ht : t < 10) : ∀ d w, w + d = 6 → EE 37 16 [some (.ref (16 * b)), some (.int (nI t)), some (.int (nI w))] [] (202, I, R) = some (some (.int (nI (if fd (gF a t) d w 0 = 0 then 2 else 1))), 202, I, R) := by
  have ho := os hb
  intro d
  induction d with
  | zero =>
    intro w h
    have hn : 6 ≤ w := by omega
    rw [s37_16]
    simp (disch := first | omega | (show List.length _ ≤ 4; exact Nat.le_of_ble_eq_true rfl) | assumption | exact nbo_0 | exact nbo_1 | exact b2_b) only [s37_0, s37_1, s37_2, s37_5, s37_6, s37_9, s37_12, s37_13, s37_14, s37_15, s37_17, s37_19, s37_22, s37_23, s37_24, s37_25, s37_28, s37_31, s37_32, s37_33, s37_36, s37_39, s37_40, ↓reduceIte, psh_some, psh_none, cln_i, cln_r, cln_n, cln_l, cln_d, cln_f, Option.bind_some, Option.bind_none, if_true, if_false, nI_add, pk_mul, nbo_0, nbo_1, nI_leI, nI_ltI, nI_eq, Nat.reduceAdd, Nat.reduceMul, Nat.add_zero, Nat.mul_zero, hn]
    rfl
  | succ d ih =>
    intro w h
    have hn : ¬ 6 ≤ w := by omega
    have h38 := f38 (R := R) (w := w) (t := t) hb hR hI hW (by omega) ht
    show _ = some (some (Value.int (nI (if fd (gF a t) d (w + 1) (gF a t w 0) = 0 then 2 else 1))), 202, I, R)
    by_cases e : a 2 ≤ a (58 + 10 * w + t)
    · have e2 : gF a t w 0 = 1 := by unfold gF; rw [if_pos rfl, if_pos e]
      rw [e2, gF_one, s37_16]
      simp (disch := first | omega | (show List.length _ ≤ 4; exact Nat.le_of_ble_eq_true rfl) | assumption | exact nbo_0 | exact nbo_1 | exact b2_b) only [s37_0, s37_1, s37_2, s37_5, s37_6, s37_9, s37_12, s37_13, s37_14, s37_15, s37_17, s37_19, s37_22, s37_23, s37_24, s37_25, s37_28, s37_31, s37_32, s37_33, s37_36, s37_39, s37_40, ↓reduceIte, psh_some, psh_none, cln_i, cln_r, cln_n, cln_l, cln_d, cln_f, Option.bind_some, Option.bind_none, if_true, if_false, nI_add, pk_mul, nbo_0, nbo_1, nI_leI, nI_ltI, nI_eq, Nat.reduceAdd, Nat.reduceMul, Nat.add_zero, Nat.mul_zero, hn, h38, b2_if, e]
      rfl
    · have e2 : gF a t w 0 = 0 := by unfold gF; rw [if_pos rfl, if_neg e]
      rw [e2, ← ih (w + 1) (by omega), s37_16]
      simp (disch := first | omega | (show List.length _ ≤ 4; exact Nat.le_of_ble_eq_true rfl) | assumption | exact nbo_0 | exact nbo_1 | exact b2_b) only [s37_0, s37_1, s37_2, s37_5, s37_6, s37_9, s37_12, s37_13, s37_14, s37_15, s37_17, s37_19, s37_22, s37_23, s37_24, s37_25, s37_28, s37_31, s37_32, s37_33, s37_36, s37_39, s37_40, ↓reduceIte, psh_some, psh_none, cln_i, cln_r, cln_n, cln_l, cln_d, cln_f, Option.bind_some, Option.bind_none, if_true, if_false, nI_add, pk_mul, nbo_0, nbo_1, nI_leI, nI_ltI, nI_eq, Nat.reduceAdd, Nat.reduceMul, Nat.add_zero, Nat.mul_zero, hn, h38, b2_if, e]
theorem f37 {t : Nat} (hb : b < 13) (hR : RS R) (hI : I b = vI a) (hW : WO a) (h0 : a 0 < 2 ^ 30) (ht : t < 10) : FF 37 [.ref (16 * b), .int (nI t)] (202, I, R) = some (some (.int (nI (howN a t))), 202, I, R) := by
  have ho := os hb
  have hf : frm a < 6 := hW.ro _ (Nat.mod_lt _ (by decide))
  have h26 := f26 hb hR hI h0
  rw [show a (14 + a 0 % 12) = frm a from rfl] at h26
  have h38 := f38 (R := R) (w := frm a) (t := t) hb hR hI hW hf ht
  have hp := p37 (R := R) (t := t) hb hR hI hW ht 6 0 (by decide)
  unfold howN
  by_cases e : a 2 ≤ a (58 + 10 * frm a + t)
  · rw [if_pos e]
    simp (disch := first | omega | (show List.length _ ≤ 4; exact Nat.le_of_ble_eq_true rfl) | assumption | exact nbo_0 | exact nbo_1 | exact b2_b) only [FE37, s37_0, s37_1, s37_2, s37_5, s37_6, s37_9, s37_12, s37_13, s37_14, s37_15, s37_17, s37_19, s37_22, s37_23, s37_24, s37_25, s37_28, s37_31, s37_32, s37_33, s37_36, s37_39, s37_40, ↓reduceIte, psh_some, psh_none, cln_i, cln_r, cln_n, cln_l, cln_d, cln_f, Option.bind_some, Option.bind_none, if_true, if_false, nI_add, pk_mul, nbo_0, nbo_1, nI_leI, nI_ltI, nI_eq, Nat.reduceAdd, Nat.reduceMul, Nat.add_zero, Nat.mul_zero, h26, h38, b2_if, e]
  · rw [if_neg e]
    simp (disch := first | omega | (show List.length _ ≤ 4; exact Nat.le_of_ble_eq_true rfl) | assumption | exact nbo_0 | exact nbo_1 | exact b2_b) only [FE37, s37_0, s37_1, s37_2, s37_5, s37_6, s37_9, s37_12, s37_13, s37_14, s37_15, s37_17, s37_19, s37_22, s37_23, s37_24, s37_25, s37_28, s37_31, s37_32, s37_33, s37_36, s37_39, s37_40, ↓reduceIte, psh_some, psh_none, cln_i, cln_r, cln_n, cln_l, cln_d, cln_f, Option.bind_some, Option.bind_none, if_true, if_false, nI_add, pk_mul, nbo_0, nbo_1, nI_leI, nI_ltI, nI_eq, Nat.reduceAdd, Nat.reduceMul, Nat.add_zero, Nat.mul_zero, h26, h38, b2_if, e, hp]
theorem f40 {h : Nat} (hb : b < 13) (hR : RS R) (hI : I b = vI a) (hW : WO a) (h0 : a 0 < 2 ^ 30) (hh : h < 3) : FF 40 [.ref (16 * b), .int (nI h)] (202, I, R) = some (some (.int (ot a h)), 202, I, R) := by
  have ho := os hb
  have hT := hW.tp
  have main := fd_loop (E := fun i (S : Int32) => EE 40 4 [some (.ref (16 * b)), some (.int (nI h)), some (.int S), some (.int (nI i))] [] (202, I, R)) (f := otF a h) (Inv := fun _ _ => True) (a 1) (by
    intro i S hi _
    refine ⟨?_, trivial⟩
    have hn : ¬ a 1 ≤ i := by omega
    have h37 := f37 (R := R) (t := i) hb hR hI hW h0 (by omega)
    have h19 := f19 (R := R) (t := i) hb hI hW (by omega)
    have hl := howN_lt (a := a) (t := i)
    show EE 40 4 _ _ _ = EE 40 4 _ _ _
    rw [s40_4]
    unfold otF
    by_cases e : a (38 + i) = 1
    · by_cases e2 : howN a i = h
      · rw [if_pos ⟨e, e2⟩]
        simp (disch := first | omega | (show List.length _ ≤ 4; exact Nat.le_of_ble_eq_true rfl) | assumption | exact nbo_0 | exact nbo_1 | exact b2_b) only [s40_0, s40_1, s40_2, s40_3, s40_5, s40_6, s40_9, s40_12, s40_13, s40_14, s40_17, s40_20, s40_21, s40_22, s40_25, s40_26, s40_29, s40_30, s40_31, s40_32, s40_33, s40_34, s40_35, s40_38, s40_41, s40_42, ↓reduceIte, psh_some, psh_none, cln_i, cln_r, cln_n, cln_l, cln_d, cln_f, Option.bind_some, Option.bind_none, if_true, if_false, nI_add, pk_mul, nbo_0, nbo_1, nI_leI, nI_ltI, nI_eq, Nat.reduceAdd, Nat.reduceMul, Nat.add_zero, Nat.mul_zero, gs_8 hb, hI, vI_at, h19, h37, b2_if, hn, e, e2]
      · rw [if_neg (fun h => e2 h.2)]
        simp (disch := first | omega | (show List.length _ ≤ 4; exact Nat.le_of_ble_eq_true rfl) | assumption | exact nbo_0 | exact nbo_1 | exact b2_b) only [s40_0, s40_1, s40_2, s40_3, s40_5, s40_6, s40_9, s40_12, s40_13, s40_14, s40_17, s40_20, s40_21, s40_22, s40_25, s40_26, s40_29, s40_30, s40_31, s40_32, s40_33, s40_34, s40_35, s40_38, s40_41, s40_42, ↓reduceIte, psh_some, psh_none, cln_i, cln_r, cln_n, cln_l, cln_d, cln_f, Option.bind_some, Option.bind_none, if_true, if_false, nI_add, pk_mul, nbo_0, nbo_1, nI_leI, nI_ltI, nI_eq, Nat.reduceAdd, Nat.reduceMul, Nat.add_zero, Nat.mul_zero, gs_8 hb, hI, vI_at, h19, h37, b2_if, hn, e, e2]
    · rw [if_neg (fun h => e h.1)]
      simp (disch := first | omega | (show List.length _ ≤ 4; exact Nat.le_of_ble_eq_true rfl) | assumption | exact nbo_0 | exact nbo_1 | exact b2_b) only [s40_0, s40_1, s40_2, s40_3, s40_5, s40_6, s40_9, s40_12, s40_13, s40_14, s40_17, s40_20, s40_21, s40_22, s40_25, s40_26, s40_29, s40_30, s40_31, s40_32, s40_33, s40_34, s40_35, s40_38, s40_41, s40_42, ↓reduceIte, psh_some, psh_none, cln_i, cln_r, cln_n, cln_l, cln_d, cln_f, Option.bind_some, Option.bind_none, if_true, if_false, nI_add, pk_mul, nbo_0, nbo_1, nI_leI, nI_ltI, nI_eq, Nat.reduceAdd, Nat.reduceMul, Nat.add_zero, Nat.mul_zero, gs_8 hb, hI, vI_at, h19, b2_if, hn, e]) (a 1) 0 (nI 0) (by omega) trivial
  obtain ⟨m1, _⟩ := main
  have hq : FF 40 [.ref (16 * b), .int (nI h)] (202, I, R) = EE 40 4 [some (.ref (16 * b)), some (.int (nI h)), some (.int (nI 0)), some (.int (nI 0))] [] (202, I, R) := by
    simp (disch := first | omega | (show List.length _ ≤ 4; exact Nat.le_of_ble_eq_true rfl) | assumption | exact nbo_0 | exact nbo_1 | exact b2_b) only [FE40, s40_0, s40_1, s40_2, s40_3, ↓reduceIte, psh_some, psh_none, cln_i, cln_r, cln_n, cln_l, cln_d, cln_f, Option.bind_some, Option.bind_none, if_true, if_false, nI_add, pk_mul, nbo_0, nbo_1, nI_leI, nI_ltI, nI_eq, Nat.reduceAdd, Nat.reduceMul, Nat.add_zero, Nat.mul_zero]
  rw [hq]
  refine m1.trans ?_
  show EE 40 4 _ _ _ = _
  have e6 : a 1 ≤ a 1 := Nat.le_refl _
  rw [s40_4]
  simp (disch := first | omega | (show List.length _ ≤ 4; exact Nat.le_of_ble_eq_true rfl) | assumption | exact nbo_0 | exact nbo_1 | exact b2_b) only [s40_0, s40_1, s40_2, s40_3, s40_5, s40_6, s40_9, s40_12, s40_13, s40_14, s40_17, s40_20, s40_21, s40_22, s40_25, s40_26, s40_29, s40_30, s40_31, s40_32, s40_33, s40_34, s40_35, s40_38, s40_41, s40_42, ↓reduceIte, psh_some, psh_none, cln_i, cln_r, cln_n, cln_l, cln_d, cln_f, Option.bind_some, Option.bind_none, if_true, if_false, nI_add, pk_mul, nbo_0, nbo_1, nI_leI, nI_ltI, nI_eq, Nat.reduceAdd, Nat.reduceMul, Nat.add_zero, Nat.mul_zero, gs_8 hb, hI, vI_at, e6]
  rfl
theorem f27 {t : Nat} (hb : b < 13) (hR : RS R) (hI : I b = vI a) (hW : WO a) (ht : t < 10) : FF 27 [.ref (16 * b), .int (nI t)] (202, I, R) = some (some (.int (nI (bst a t))), 202, I, R) := by
  have ho := os hb
  have main := fd_loop (E := fun i g => EE 27 4 [some (.ref (16 * b)), some (.int (nI t)), some (.int (nI g)), some (.int (nI i))] [] (202, I, R)) (f := bsF a t) (Inv := fun _ g => g < 6) 6 (by
    intro i g hi hg
    have hn : ¬ 6 ≤ i := by omega
    have l1 := hW.lv i t hi ht
    have l2 := hW.lv g t hg ht
    show EE 27 4 _ _ _ = EE 27 4 _ _ _ ∧ _
    rw [s27_4]
    unfold bsF
    by_cases e : a (58 + 10 * g + t) < a (58 + 10 * i + t)
    · have e2 : ¬ a (58 + 10 * i + t) ≤ a (58 + 10 * g + t) := by omega
      rw [if_pos e]
      refine ⟨?_, hi⟩
      simp (disch := first | omega | (show List.length _ ≤ 4; exact Nat.le_of_ble_eq_true rfl) | assumption | exact nbo_0 | exact nbo_1 | exact b2_b) only [s27_0, s27_1, s27_2, s27_3, s27_5, s27_7, s27_10, s27_11, s27_12, s27_13, s27_16, s27_17, s27_18, s27_19, s27_22, s27_25, s27_26, s27_27, s27_30, s27_33, s27_34, ↓reduceIte, psh_some, psh_none, cln_i, cln_r, cln_n, cln_l, cln_d, cln_f, Option.bind_some, Option.bind_none, if_true, if_false, nI_add, pk_mul, nbo_0, nbo_1, nI_leI, nI_ltI, nI_eq, Nat.reduceAdd, Nat.reduceMul, Nat.add_zero, Nat.mul_zero, f23 hb hR hI hW hi ht, f23 hb hR hI hW hg ht, hn, e2]
    · have e2 : a (58 + 10 * i + t) ≤ a (58 + 10 * g + t) := by omega
      rw [if_neg e]
      refine ⟨?_, hg⟩
      simp (disch := first | omega | (show List.length _ ≤ 4; exact Nat.le_of_ble_eq_true rfl) | assumption | exact nbo_0 | exact nbo_1 | exact b2_b) only [s27_0, s27_1, s27_2, s27_3, s27_5, s27_7, s27_10, s27_11, s27_12, s27_13, s27_16, s27_17, s27_18, s27_19, s27_22, s27_25, s27_26, s27_27, s27_30, s27_33, s27_34, ↓reduceIte, psh_some, psh_none, cln_i, cln_r, cln_n, cln_l, cln_d, cln_f, Option.bind_some, Option.bind_none, if_true, if_false, nI_add, pk_mul, nbo_0, nbo_1, nI_leI, nI_ltI, nI_eq, Nat.reduceAdd, Nat.reduceMul, Nat.add_zero, Nat.mul_zero, f23 hb hR hI hW hi ht, f23 hb hR hI hW hg ht, hn, e2]) 5 1 0 (by decide) (by decide)
  obtain ⟨m1, _⟩ := main
  have hq : FF 27 [.ref (16 * b), .int (nI t)] (202, I, R) = EE 27 4 [some (.ref (16 * b)), some (.int (nI t)), some (.int (nI 0)), some (.int (nI 1))] [] (202, I, R) := by
    simp (disch := first | omega | (show List.length _ ≤ 4; exact Nat.le_of_ble_eq_true rfl) | assumption | exact nbo_0 | exact nbo_1 | exact b2_b) only [FE27, s27_0, s27_1, s27_2, s27_3, ↓reduceIte, psh_some, psh_none, cln_i, cln_r, cln_n, cln_l, cln_d, cln_f, Option.bind_some, Option.bind_none, if_true, if_false, nI_add, pk_mul, nbo_0, nbo_1, nI_leI, nI_ltI, nI_eq, Nat.reduceAdd, Nat.reduceMul, Nat.add_zero, Nat.mul_zero]
  rw [hq]
  refine m1.trans ?_
  show EE 27 4 _ _ _ = _
  have e6 : 6 ≤ 6 := Nat.le_refl _
  rw [s27_4]
  simp (disch := first | omega | (show List.length _ ≤ 4; exact Nat.le_of_ble_eq_true rfl) | assumption | exact nbo_0 | exact nbo_1 | exact b2_b) only [s27_0, s27_1, s27_2, s27_3, s27_5, s27_7, s27_10, s27_11, s27_12, s27_13, s27_16, s27_17, s27_18, s27_19, s27_22, s27_25, s27_26, s27_27, s27_30, s27_33, s27_34, ↓reduceIte, psh_some, psh_none, cln_i, cln_r, cln_n, cln_l, cln_d, cln_f, Option.bind_some, Option.bind_none, if_true, if_false, nI_add, pk_mul, nbo_0, nbo_1, nI_leI, nI_ltI, nI_eq, Nat.reduceAdd, Nat.reduceMul, Nat.add_zero, Nat.mul_zero, e6]
  rfl
theorem p21 {t : Nat} (hb : b < 13) (hR : RS R) (hI : I b = vI a) (hW : WO a) (ht : t < 2 ^ 31) : ∀ d k, k + d = a 13 → EE 21 2 [some (.ref (16 * b)), some (.int (nI t)), some (.int (nI k))] [] (202, I, R) = some (some (.int (oN (-6) (plc a t d k))), 202, I, R) := by
  have ho := os hb
  have hL := hW.li
  have hT := hW.tp
  intro d
  induction d with
  | zero =>
    intro k h
    have hn : a 13 ≤ k := by omega
    rw [s21_2]
    simp (disch := first | omega | (show List.length _ ≤ 4; exact Nat.le_of_ble_eq_true rfl) | assumption | exact nbo_0 | exact nbo_1 | exact b2_b) only [s21_0, s21_1, s21_3, s21_4, s21_7, s21_10, s21_11, s21_14, s21_15, s21_16, s21_17, s21_20, s21_21, s21_22, s21_25, s21_28, s21_30, ↓reduceIte, psh_some, psh_none, cln_i, cln_r, cln_n, cln_l, cln_d, cln_f, Option.bind_some, Option.bind_none, if_true, if_false, nI_add, pk_mul, nbo_0, nbo_1, nI_leI, nI_ltI, nI_eq, Nat.reduceAdd, Nat.reduceMul, Nat.add_zero, Nat.mul_zero, gs_10 hb, hI, vI_at, hn]
    rfl
  | succ d ih =>
    intro k h
    have hn : ¬ a 13 ≤ k := by omega
    have hx := hW.le k (by omega)
    unfold plc
    rw [s21_2]
    by_cases e : a (48 + k) = t
    · rw [if_pos e]
      simp (disch := first | omega | (show List.length _ ≤ 4; exact Nat.le_of_ble_eq_true rfl) | assumption | exact nbo_0 | exact nbo_1 | exact b2_b) only [s21_0, s21_1, s21_3, s21_4, s21_7, s21_10, s21_11, s21_14, s21_15, s21_16, s21_17, s21_20, s21_21, s21_22, s21_25, s21_28, s21_30, ↓reduceIte, psh_some, psh_none, cln_i, cln_r, cln_n, cln_l, cln_d, cln_f, Option.bind_some, Option.bind_none, if_true, if_false, nI_add, pk_mul, nbo_0, nbo_1, nI_leI, nI_ltI, nI_eq, Nat.reduceAdd, Nat.reduceMul, Nat.add_zero, Nat.mul_zero, gs_10 hb, gs_4 hb hR, as_11 hb, hI, vI_at, hn, e]
      rfl
    · rw [if_neg e, ← ih (k + 1) (by omega)]
      simp (disch := first | omega | (show List.length _ ≤ 4; exact Nat.le_of_ble_eq_true rfl) | assumption | exact nbo_0 | exact nbo_1 | exact b2_b) only [s21_0, s21_1, s21_3, s21_4, s21_7, s21_10, s21_11, s21_14, s21_15, s21_16, s21_17, s21_20, s21_21, s21_22, s21_25, s21_28, s21_30, ↓reduceIte, psh_some, psh_none, cln_i, cln_r, cln_n, cln_l, cln_d, cln_f, Option.bind_some, Option.bind_none, if_true, if_false, nI_add, pk_mul, nbo_0, nbo_1, nI_leI, nI_ltI, nI_eq, Nat.reduceAdd, Nat.reduceMul, Nat.add_zero, Nat.mul_zero, gs_10 hb, gs_4 hb hR, as_11 hb, hI, vI_at, hn, e]
theorem f21 {t : Nat} (hb : b < 13) (hR : RS R) (hI : I b = vI a) (hW : WO a) (ht : t < 2 ^ 31) : FF 21 [.ref (16 * b), .int (nI t)] (202, I, R) = some (some (.int (oN (-6) (plc a t (a 13) 0))), 202, I, R) := by
  refine Eq.trans ?_ (p21 (R := R) hb hR hI hW ht (a 13) 0 (by omega))
  simp (disch := first | omega | (show List.length _ ≤ 4; exact Nat.le_of_ble_eq_true rfl) | assumption | exact nbo_0 | exact nbo_1 | exact b2_b) only [FE21, s21_0, s21_1, ↓reduceIte, psh_some, psh_none, cln_i, cln_r, cln_n, cln_l, cln_d, cln_f, Option.bind_some, Option.bind_none, if_true, if_false, nI_add, pk_mul, nbo_0, nbo_1, nI_leI, nI_ltI, nI_eq, Nat.reduceAdd, Nat.reduceMul, Nat.add_zero, Nat.mul_zero]
end S7
