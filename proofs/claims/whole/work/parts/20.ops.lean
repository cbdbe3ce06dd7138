/-! ===== the changes, piece by piece ===== -/
/-- a number in a range from 0 -/
abbrev iT (x : Int32) (n : Nat) : Prop := ¬ x < 0 ∧ ¬ nI n ≤ x
theorem iT_nI {x : Int32} {n : Nat} (hn : n < 2 ^ 31) (h : iT x n) : ∃ k, k < n ∧ x = nI k := by
  obtain ⟨j, hj, rfl⟩ := nI_of h.1
  exact ⟨j, Nat.lt_of_not_le (fun hc => h.2 (nI_le hc hj)), rfl⟩
theorem nI_iT {k n : Nat} (hk : k < n) (hn : n < 2 ^ 31) : iT (nI k) n := ⟨nI_pos (by omega), nI_ge hk hn⟩
theorem lt_le1 {x : Int32} {m : Nat} (hm : m < 2 ^ 30) : (nI m - nI 1 < x) ↔ nI m ≤ x := by
  have e : (nI m - nI 1).toInt = (m : Int) - 1 := by
    rw [Int32.toInt_sub, nI_toInt (by omega), nI_toInt (by omega)]
    exact Int.bmod_eq_of_le (by omega) (by omega)
  rw [Int32.lt_iff_toInt_lt, Int32.le_iff_toInt_le, e, nI_toInt (by omega)]
  omega
theorem lt_le {x : Int32} {m : Nat} (hm : m < 2 ^ 30) : (nI m < x) ↔ nI (m + 1) ≤ x := by
  rw [Int32.lt_iff_toInt_lt, Int32.le_iff_toInt_le, nI_toInt (by omega), nI_toInt (by omega)]
  omega
section P1
variable {M : Mm} {I : Nat → Nat → Int32} {R : Nat → Nat → Option Nat} {a : Nat → Nat}
theorem f84n {x : Int32} {m : Nat} (hm : m < 2 ^ 30) : FF 84 [.int x, .int (nI 0), .int (nI m)] M = some (some (.int (b2 (iT x (m + 1)))), M) := by
  rw [f84]
  exact congrArg (fun z => some (some (Value.int z), M)) (b2_c ⟨fun h => ⟨h.1, fun h2 => h.2 ((lt_le hm).mpr h2)⟩, fun h => ⟨h.1, fun h2 => h.2 ((lt_le hm).mp h2)⟩⟩)
theorem f91 {x : Int32} : FF 91 [.int x] M = some (some (.int (b2 (iT x 6))), M) := by
  simp (disch := first | omega | (show List.length _ ≤ 4; exact Nat.le_of_ble_eq_true rfl) | assumption | exact nbo_0 | exact nbo_1 | exact b2_b) only [FE91, s91_0, s91_1, s91_2, s91_3, s91_6, ↓reduceIte, psh_some, psh_none, cln_i, cln_r, cln_n, cln_l, cln_d, cln_f, Option.bind_some, Option.bind_none, if_true, if_false, nI_add, pk_mul, nbo_0, nbo_1, nI_leI, nI_ltI, nI_eq, Nat.reduceAdd, Nat.reduceMul, Nat.add_zero, Nat.mul_zero, f84n]
theorem f92 {x : Int32} : FF 92 [.int x] M = some (some (.int (b2 (iT x 12))), M) := by
  simp (disch := first | omega | (show List.length _ ≤ 4; exact Nat.le_of_ble_eq_true rfl) | assumption | exact nbo_0 | exact nbo_1 | exact b2_b) only [FE92, s92_0, s92_1, s92_2, s92_4, s92_7, ↓reduceIte, psh_some, psh_none, cln_i, cln_r, cln_n, cln_l, cln_d, cln_f, Option.bind_some, Option.bind_none, if_true, if_false, nI_add, pk_mul, nbo_0, nbo_1, nI_leI, nI_ltI, nI_eq, Nat.reduceAdd, Nat.reduceMul, Nat.add_zero, Nat.mul_zero, f84n]
theorem f99 {x : Int32} (hR : RM R) (hI : I 225 = vI a) (hW : WO a) : FF 99 [.ref 224, .int x] (210, I, R) = some (some (.int (b2 (iT x (a 1)))), 210, I, R) := by
  have hv : (225 : Nat) = 225 ∨ (225 : Nat) = 226 := Or.inl rfl
  have hT := hW.tp
  have h : FF 84 [.int x, .int (nI 0), .int (nI (a 1) - nI 1)] (210, I, R) = some (some (.int (b2 (iT x (a 1)))), 210, I, R) := by
    rw [f84]
    exact congrArg (fun z => some (some (Value.int z), 210, I, R)) (b2_c ⟨fun h => ⟨h.1, fun h2 => h.2 ((lt_le1 (by omega)).mpr h2)⟩, fun h => ⟨h.1, fun h2 => h.2 ((lt_le1 (by omega)).mp h2)⟩⟩)
  simp (disch := first | omega | (show List.length _ ≤ 4; exact Nat.le_of_ble_eq_true rfl) | assumption | exact nbo_0 | exact nbo_1 | exact b2_b) only [FE99, s99_0, s99_1, s99_2, s99_3, s99_6, s99_7, s99_8, s99_9, s99_10, s99_13, ↓reduceIte, psh_some, psh_none, cln_i, cln_r, cln_n, cln_l, cln_d, cln_f, Option.bind_some, Option.bind_none, if_true, if_false, nI_add, pk_mul, nbo_0, nbo_1, nI_leI, nI_ltI, nI_eq, Nat.reduceAdd, Nat.reduceMul, Nat.add_zero, Nat.mul_zero, gm_0 hR, am_n hv, hI, vI_at, h]
theorem f90 {x y : Int32} : FF 90 [.int x, .int y] M = some (some (.int (if iT y 6 then (if iT x 12 then nI 0 else -2) else -1)), M) := by
  by_cases h : iT y 6
  · by_cases h2 : iT x 12
    · rw [if_pos h, if_pos h2]
      simp (disch := first | omega | (show List.length _ ≤ 4; exact Nat.le_of_ble_eq_true rfl) | assumption | exact nbo_0 | exact nbo_1 | exact b2_b) only [FE90, s90_0, s90_1, s90_4, s90_7, s90_8, s90_11, s90_12, s90_15, s90_18, s90_19, s90_22, s90_24, ↓reduceIte, psh_some, psh_none, cln_i, cln_r, cln_n, cln_l, cln_d, cln_f, Option.bind_some, Option.bind_none, if_true, if_false, nI_add, pk_mul, nbo_0, nbo_1, nI_leI, nI_ltI, nI_eq, Nat.reduceAdd, Nat.reduceMul, Nat.add_zero, Nat.mul_zero, f91, f92, b2_t h, b2_t h2, show (nI 1 = (0 : Int32)) = False from eq_false (by decide)]
    · rw [if_pos h, if_neg h2]
      simp (disch := first | omega | (show List.length _ ≤ 4; exact Nat.le_of_ble_eq_true rfl) | assumption | exact nbo_0 | exact nbo_1 | exact b2_b) only [FE90, s90_0, s90_1, s90_4, s90_7, s90_8, s90_11, s90_12, s90_15, s90_18, s90_19, s90_22, s90_24, ↓reduceIte, psh_some, psh_none, cln_i, cln_r, cln_n, cln_l, cln_d, cln_f, Option.bind_some, Option.bind_none, if_true, if_false, nI_add, pk_mul, nbo_0, nbo_1, nI_leI, nI_ltI, nI_eq, Nat.reduceAdd, Nat.reduceMul, Nat.add_zero, Nat.mul_zero, f91, f92, b2_t h, b2_f h2, show (nI 1 = (0 : Int32)) = False from eq_false (by decide), show (nI 0 = (0 : Int32)) = True from eq_true (by decide)]
  · rw [if_neg h]
    simp (disch := first | omega | (show List.length _ ≤ 4; exact Nat.le_of_ble_eq_true rfl) | assumption | exact nbo_0 | exact nbo_1 | exact b2_b) only [FE90, s90_0, s90_1, s90_4, s90_7, s90_8, s90_11, s90_12, s90_15, s90_18, s90_19, s90_22, s90_24, ↓reduceIte, psh_some, psh_none, cln_i, cln_r, cln_n, cln_l, cln_d, cln_f, Option.bind_some, Option.bind_none, if_true, if_false, nI_add, pk_mul, nbo_0, nbo_1, nI_leI, nI_ltI, nI_eq, Nat.reduceAdd, Nat.reduceMul, Nat.add_zero, Nat.mul_zero, f91, f92, b2_f h, show (nI 0 = (0 : Int32)) = True from eq_true (by decide)]
theorem f95 {x y : Int32} : FF 95 [.int x, .int y] M = some (some (.int (if iT x 12 ∧ iT y 61 then nI 0 else -2)), M) := by
  by_cases h : iT x 12
  · by_cases h2 : iT y 61
    · rw [if_pos ⟨h, h2⟩]
      simp (disch := first | omega | (show List.length _ ≤ 4; exact Nat.le_of_ble_eq_true rfl) | assumption | exact nbo_0 | exact nbo_1 | exact b2_b) only [FE95, s95_0, s95_1, s95_4, s95_7, s95_8, s95_9, s95_11, s95_14, s95_17, s95_18, s95_21, s95_23, ↓reduceIte, psh_some, psh_none, cln_i, cln_r, cln_n, cln_l, cln_d, cln_f, Option.bind_some, Option.bind_none, if_true, if_false, nI_add, pk_mul, nbo_0, nbo_1, nI_leI, nI_ltI, nI_eq, Nat.reduceAdd, Nat.reduceMul, Nat.add_zero, Nat.mul_zero, f92, f84n, b2_t h, b2_t h2, show (nI 1 = (0 : Int32)) = False from eq_false (by decide)]
    · rw [if_neg (fun h => h2 h.2)]
      simp (disch := first | omega | (show List.length _ ≤ 4; exact Nat.le_of_ble_eq_true rfl) | assumption | exact nbo_0 | exact nbo_1 | exact b2_b) only [FE95, s95_0, s95_1, s95_4, s95_7, s95_8, s95_9, s95_11, s95_14, s95_17, s95_18, s95_21, s95_23, ↓reduceIte, psh_some, psh_none, cln_i, cln_r, cln_n, cln_l, cln_d, cln_f, Option.bind_some, Option.bind_none, if_true, if_false, nI_add, pk_mul, nbo_0, nbo_1, nI_leI, nI_ltI, nI_eq, Nat.reduceAdd, Nat.reduceMul, Nat.add_zero, Nat.mul_zero, f92, f84n, b2_t h, b2_f h2, show (nI 1 = (0 : Int32)) = False from eq_false (by decide), show (nI 0 = (0 : Int32)) = True from eq_true (by decide)]
  · rw [if_neg (fun h2 => h h2.1)]
    simp (disch := first | omega | (show List.length _ ≤ 4; exact Nat.le_of_ble_eq_true rfl) | assumption | exact nbo_0 | exact nbo_1 | exact b2_b) only [FE95, s95_0, s95_1, s95_4, s95_7, s95_8, s95_9, s95_11, s95_14, s95_17, s95_18, s95_21, s95_23, ↓reduceIte, psh_some, psh_none, cln_i, cln_r, cln_n, cln_l, cln_d, cln_f, Option.bind_some, Option.bind_none, if_true, if_false, nI_add, pk_mul, nbo_0, nbo_1, nI_leI, nI_ltI, nI_eq, Nat.reduceAdd, Nat.reduceMul, Nat.add_zero, Nat.mul_zero, f92, b2_f h, show (nI 0 = (0 : Int32)) = True from eq_true (by decide)]
theorem f105 {x y z : Int32} (hR : RM R) (hI : I 225 = vI a) (hW : WO a) : FF 105 [.ref 224, .int x, .int y, .int z] (210, I, R) = some (some (.int (if iT x 6 ∧ iT y (a 1) then (if ¬ z < nI 1 ∧ ¬ nI 100 < z then nI 0 else -2) else -1)), 210, I, R) := by
  have ho := om
  have e0 : (nI 0 = (0 : Int32)) = True := eq_true (by decide)
  have e1 : (nI 1 = (0 : Int32)) = False := eq_false (by decide)
  by_cases h : iT x 6
  · by_cases h2 : iT y (a 1)
    · rw [if_pos ⟨h, h2⟩]
      by_cases h3 : ¬ z < nI 1 ∧ ¬ nI 100 < z
      · rw [if_pos h3]
        simp (disch := first | omega | (show List.length _ ≤ 4; exact Nat.le_of_ble_eq_true rfl) | assumption | exact nbo_0 | exact nbo_1 | exact b2_b) only [FE105, s105_0, s105_1, s105_4, s105_7, s105_8, s105_9, s105_12, s105_15, s105_16, s105_19, s105_20, s105_21, s105_23, s105_26, s105_29, s105_30, s105_33, s105_35, ↓reduceIte, psh_some, psh_none, cln_i, cln_r, cln_n, cln_l, cln_d, cln_f, Option.bind_some, Option.bind_none, if_true, if_false, nI_add, pk_mul, nbo_0, nbo_1, nI_leI, nI_ltI, nI_eq, Nat.reduceAdd, Nat.reduceMul, Nat.add_zero, Nat.mul_zero, f91, f99 hR hI hW, f84, b2_t h, b2_t h2, b2_t h3, e0, e1]
      · rw [if_neg h3]
        simp (disch := first | omega | (show List.length _ ≤ 4; exact Nat.le_of_ble_eq_true rfl) | assumption | exact nbo_0 | exact nbo_1 | exact b2_b) only [FE105, s105_0, s105_1, s105_4, s105_7, s105_8, s105_9, s105_12, s105_15, s105_16, s105_19, s105_20, s105_21, s105_23, s105_26, s105_29, s105_30, s105_33, s105_35, ↓reduceIte, psh_some, psh_none, cln_i, cln_r, cln_n, cln_l, cln_d, cln_f, Option.bind_some, Option.bind_none, if_true, if_false, nI_add, pk_mul, nbo_0, nbo_1, nI_leI, nI_ltI, nI_eq, Nat.reduceAdd, Nat.reduceMul, Nat.add_zero, Nat.mul_zero, f91, f99 hR hI hW, f84, b2_t h, b2_t h2, b2_f h3, e0, e1]
    · rw [if_neg (fun h => h2 h.2)]
      simp (disch := first | omega | (show List.length _ ≤ 4; exact Nat.le_of_ble_eq_true rfl) | assumption | exact nbo_0 | exact nbo_1 | exact b2_b) only [FE105, s105_0, s105_1, s105_4, s105_7, s105_8, s105_9, s105_12, s105_15, s105_16, s105_19, s105_20, s105_21, s105_23, s105_26, s105_29, s105_30, s105_33, s105_35, ↓reduceIte, psh_some, psh_none, cln_i, cln_r, cln_n, cln_l, cln_d, cln_f, Option.bind_some, Option.bind_none, if_true, if_false, nI_add, pk_mul, nbo_0, nbo_1, nI_leI, nI_ltI, nI_eq, Nat.reduceAdd, Nat.reduceMul, Nat.add_zero, Nat.mul_zero, f91, f99 hR hI hW, b2_t h, b2_f h2, e0, e1]
  · rw [if_neg (fun h2 => h h2.1)]
    simp (disch := first | omega | (show List.length _ ≤ 4; exact Nat.le_of_ble_eq_true rfl) | assumption | exact nbo_0 | exact nbo_1 | exact b2_b) only [FE105, s105_0, s105_1, s105_4, s105_7, s105_8, s105_9, s105_12, s105_15, s105_16, s105_19, s105_20, s105_21, s105_23, s105_26, s105_29, s105_30, s105_33, s105_35, ↓reduceIte, psh_some, psh_none, cln_i, cln_r, cln_n, cln_l, cln_d, cln_f, Option.bind_some, Option.bind_none, if_true, if_false, nI_add, pk_mul, nbo_0, nbo_1, nI_leI, nI_ltI, nI_eq, Nat.reduceAdd, Nat.reduceMul, Nat.add_zero, Nat.mul_zero, f91, b2_f h, e0, e1]
theorem f93 {k x : Nat} (hR : RM R) (hI : I 225 = vI a) (hk : k < 148) : FF 93 [.ref 224, .int (nI k), .int (nI x)] (210, I, R) = some (some (.int (nI (a k))), 210, up I 225 (vI (up a k x)), R) := by
  have hv : (225 : Nat) = 225 ∨ (225 : Nat) = 226 := Or.inl rfl
  have hw : ∀ {J : Nat → Nat → Int32} {k : Nat} {z : Int32}, k < 148 → wI J 225 (nI k).toNatClampNeg z = up J 225 (up (J 225) k z) := fun {J k z} h => wm_n hv (by omega)
  have c := cm_n (a := 225) hv hk
  simp (disch := first | omega | (show List.length _ ≤ 4; exact Nat.le_of_ble_eq_true rfl) | assumption | exact nbo_0 | exact nbo_1 | exact b2_b) only [FE93, s93_0, s93_1, s93_4, s93_5, s93_6, s93_7, s93_8, s93_11, s93_12, s93_13, s93_14, s93_15, ↓reduceIte, psh_some, psh_none, cln_i, cln_r, cln_n, cln_l, cln_d, cln_f, Option.bind_some, Option.bind_none, if_true, if_false, nI_add, pk_mul, nbo_0, nbo_1, nI_leI, nI_ltI, nI_eq, Nat.reduceAdd, Nat.reduceMul, Nat.add_zero, Nat.mul_zero, gm_0 hR, am_n hv, hI, hw, vI_at, up_vI]
theorem f97 (hR : RM R) (hI : I 225 = vI a) (hW : WO a) (h10 : a 1 < 10) : FF 97 [.ref 224] (210, I, R) = some (none, 210, up I 225 (vI (up (up a (38 + a 1) 1) 1 (a 1 + 1))), R) := by
  have hv : (225 : Nat) = 225 ∨ (225 : Nat) = 226 := Or.inl rfl
  have hw : ∀ {J : Nat → Nat → Int32} {k : Nat} {z : Int32}, k < 148 → wI J 225 (nI k).toNatClampNeg z = up J 225 (up (J 225) k z) := fun {J k z} h => wm_n hv (by omega)
  have c := cm_n (a := 225) (k := 38 + a 1) hv (by omega)
  have c1 := cm_n (a := 225) (k := 1) hv (by omega)
  have n1 : ∀ x, up a (38 + a 1) x 1 = a 1 := fun x => up_ne (by omega)
  simp (disch := first | omega | (show List.length _ ≤ 4; exact Nat.le_of_ble_eq_true rfl) | assumption | exact nbo_0 | exact nbo_1 | exact b2_b) only [FE97, s97_0, s97_1, s97_4, s97_6, s97_7, s97_10, s97_11, s97_12, s97_13, s97_14, s97_15, s97_16, s97_19, s97_20, s97_21, s97_22, s97_23, s97_24, s97_25, ↓reduceIte, psh_some, psh_none, cln_i, cln_r, cln_n, cln_l, cln_d, cln_f, Option.bind_some, Option.bind_none, if_true, if_false, nI_add, pk_mul, nbo_0, nbo_1, nI_leI, nI_ltI, nI_eq, Nat.reduceAdd, Nat.reduceMul, Nat.add_zero, Nat.mul_zero, up_at, up_up, up_vI, vI_at, gm_0 hR, am_n hv, hI, hw, n1]
theorem f100 {t : Nat} (hR : RM R) (hI : I 225 = vI a) (hW : WO a) (ht : t < 10) : FF 100 [.ref 224, .int (nI t)] (210, I, R) = some (some (.int (nI (1 - a (38 + t)))), 210, up I 225 (vI (up a (38 + t) (1 - a (38 + t)))), R) := by
  have hv : (225 : Nat) = 225 ∨ (225 : Nat) = 226 := Or.inl rfl
  have hw : ∀ {J : Nat → Nat → Int32} {k : Nat} {z : Int32}, k < 148 → wI J 225 (nI k).toNatClampNeg z = up J 225 (up (J 225) k z) := fun {J k z} h => wm_n hv (by omega)
  have c := cm_n (a := 225) (k := 38 + t) hv (by omega)
  have hs := nI_sub (hW.op t ht)
  simp (disch := first | omega | (show List.length _ ≤ 4; exact Nat.le_of_ble_eq_true rfl) | assumption | exact nbo_0 | exact nbo_1 | exact b2_b) only [FE100, s100_0, s100_1, s100_4, s100_6, s100_7, s100_8, s100_9, s100_10, s100_13, s100_15, s100_16, s100_17, s100_18, s100_19, s100_20, s100_21, s100_24, s100_26, s100_27, s100_28, s100_29, ↓reduceIte, psh_some, psh_none, cln_i, cln_r, cln_n, cln_l, cln_d, cln_f, Option.bind_some, Option.bind_none, if_true, if_false, nI_add, pk_mul, nbo_0, nbo_1, nI_leI, nI_ltI, nI_eq, Nat.reduceAdd, Nat.reduceMul, Nat.add_zero, Nat.mul_zero, up_at, up_up, up_vI, vI_at, gm_0 hR, am_n hv, hI, hw, hs]
theorem f106 {w t x : Nat} (hR : RM R) (hI : I 225 = vI a) (hW : WO a) (hw6 : w < 6) (ht : t < 10) (hx : x ≤ 100) : FF 106 [.ref 224, .int (nI w), .int (nI t), .int (nI x)] (210, I, R) = some (some (.int (nI (min 100 (a (58 + 10 * w + t) + x)))), 210, up I 225 (vI (up a (58 + 10 * w + t) (min 100 (a (58 + 10 * w + t) + x)))), R) := by
  have hv : (225 : Nat) = 225 ∨ (225 : Nat) = 226 := Or.inl rfl
  have hl := hW.lv w t hw6 ht
  have h8 := f108 (R := R) (k := 58 + 10 * w + t) (x := x) (y := 100) hv hI (by omega) (by omega) (by omega)
  simp (disch := first | omega | (show List.length _ ≤ 4; exact Nat.le_of_ble_eq_true rfl) | assumption | exact nbo_0 | exact nbo_1 | exact b2_b) only [FE106, s106_0, s106_1, s106_4, s106_5, s106_6, s106_9, s106_10, s106_12, s106_15, s106_16, s106_19, s106_20, s106_21, s106_24, s106_25, ↓reduceIte, psh_some, psh_none, cln_i, cln_r, cln_n, cln_l, cln_d, cln_f, Option.bind_some, Option.bind_none, if_true, if_false, nI_add, pk_mul, nbo_0, nbo_1, nI_leI, nI_ltI, nI_eq, Nat.reduceAdd, Nat.reduceMul, Nat.add_zero, Nat.mul_zero, up_at, up_up, up_vI, vI_at, gm_0 hR, am_n hv, f107, h8]
theorem f110 {x : Int32} (hR : RM R) (hI : I 225 = vI a) (hW : WO a) (h0 : a 0 < 2 ^ 30) : FF 110 [.ref 224, .int x] (210, I, R) = some (some (.int (if iT x (a 1) then (if a (38 + x.toNatClampNeg) = 1 ∧ a (58 + 10 * frm a + x.toNatClampNeg) < a (58 + 10 * bst a x.toNatClampNeg + x.toNatClampNeg) then nI 0 else -5) else -1)), 210, I, R) := by
  have hv : (225 : Nat) = 225 ∨ (225 : Nat) = 226 := Or.inl rfl
  have ho := om
  have hT := hW.tp
  have e0 : (nI 0 = (0 : Int32)) = True := eq_true (by decide)
  have e1 : (nI 1 = (0 : Int32)) = False := eq_false (by decide)
  by_cases h : iT x (a 1)
  · rw [if_pos h]
    obtain ⟨t, ht, rfl⟩ := iT_nI (by omega) h
    rw [nI_clamp (by omega)]
    have hf : frm a < 6 := hW.ro _ (Nat.mod_lt _ (by decide))
    have hb := bst_lt (a := a) (t := t)
    have l1 := hW.lv (frm a) t hf (by omega)
    have l2 := hW.lv (bst a t) t hb (by omega)
    have l3 := hW.op t (by omega)
    have g1 := f111 (R := R) (x := a 0) hv hI (by omega)
    rw [show a (14 + a 0 % 12) = frm a from rfl] at g1
    have g2 := f112 (R := R) (t := t) hR hI hW (by omega)
    have g3 := f99 (x := nI t) hR hI hW
    rw [b2_t h] at g3
    by_cases e : a (38 + t) = 1
    · by_cases e2 : a (58 + 10 * frm a + t) < a (58 + 10 * bst a t + t)
      · have e3 : ¬ a (58 + 10 * bst a t + t) ≤ a (58 + 10 * frm a + t) := by omega
        rw [if_pos ⟨e, e2⟩]
        simp (disch := first | omega | (show List.length _ ≤ 4; exact Nat.le_of_ble_eq_true rfl) | assumption | exact nbo_0 | exact nbo_1 | exact b2_b) only [FE110, s110_0, s110_1, s110_2, s110_5, s110_8, s110_9, s110_10, s110_11, s110_14, s110_15, s110_18, s110_19, s110_20, s110_23, s110_24, s110_25, s110_28, s110_30, s110_31, s110_32, s110_33, s110_34, s110_37, s110_38, s110_41, s110_42, s110_43, s110_46, s110_47, s110_50, s110_51, s110_52, s110_55, s110_56, s110_57, s110_60, s110_61, s110_64, s110_65, s110_68, s110_70, ↓reduceIte, psh_some, psh_none, cln_i, cln_r, cln_n, cln_l, cln_d, cln_f, Option.bind_some, Option.bind_none, if_true, if_false, nI_add, pk_mul, nbo_0, nbo_1, nI_leI, nI_ltI, nI_eq, Nat.reduceAdd, Nat.reduceMul, Nat.add_zero, Nat.mul_zero, up_at, up_up, up_vI, vI_at, gm_0 hR, am_n hv, hI, g1, g2, g3, f107, e, e3, e0, e1]
      · have e3 : a (58 + 10 * bst a t + t) ≤ a (58 + 10 * frm a + t) := by omega
        rw [if_neg (fun h => e2 h.2)]
        simp (disch := first | omega | (show List.length _ ≤ 4; exact Nat.le_of_ble_eq_true rfl) | assumption | exact nbo_0 | exact nbo_1 | exact b2_b) only [FE110, s110_0, s110_1, s110_2, s110_5, s110_8, s110_9, s110_10, s110_11, s110_14, s110_15, s110_18, s110_19, s110_20, s110_23, s110_24, s110_25, s110_28, s110_30, s110_31, s110_32, s110_33, s110_34, s110_37, s110_38, s110_41, s110_42, s110_43, s110_46, s110_47, s110_50, s110_51, s110_52, s110_55, s110_56, s110_57, s110_60, s110_61, s110_64, s110_65, s110_68, s110_70, ↓reduceIte, psh_some, psh_none, cln_i, cln_r, cln_n, cln_l, cln_d, cln_f, Option.bind_some, Option.bind_none, if_true, if_false, nI_add, pk_mul, nbo_0, nbo_1, nI_leI, nI_ltI, nI_eq, Nat.reduceAdd, Nat.reduceMul, Nat.add_zero, Nat.mul_zero, up_at, up_up, up_vI, vI_at, gm_0 hR, am_n hv, hI, g1, g2, g3, f107, e, e3, e0, e1]
    · rw [if_neg (fun h => e h.1)]
      simp (disch := first | omega | (show List.length _ ≤ 4; exact Nat.le_of_ble_eq_true rfl) | assumption | exact nbo_0 | exact nbo_1 | exact b2_b) only [FE110, s110_0, s110_1, s110_2, s110_5, s110_8, s110_9, s110_10, s110_11, s110_14, s110_15, s110_18, s110_19, s110_20, s110_23, s110_24, s110_25, s110_28, s110_30, s110_31, s110_32, s110_33, s110_34, s110_37, s110_38, s110_41, s110_42, s110_43, s110_46, s110_47, s110_50, s110_51, s110_52, s110_55, s110_56, s110_57, s110_60, s110_61, s110_64, s110_65, s110_68, s110_70, ↓reduceIte, psh_some, psh_none, cln_i, cln_r, cln_n, cln_l, cln_d, cln_f, Option.bind_some, Option.bind_none, if_true, if_false, nI_add, pk_mul, nbo_0, nbo_1, nI_leI, nI_ltI, nI_eq, Nat.reduceAdd, Nat.reduceMul, Nat.add_zero, Nat.mul_zero, up_at, up_up, up_vI, vI_at, gm_0 hR, am_n hv, hI, g1, g3, e, e0, e1]
  · have g3 := f99 (x := x) hR hI hW
    rw [b2_f h] at g3
    rw [if_neg h]
    simp (disch := first | omega | (show List.length _ ≤ 4; exact Nat.le_of_ble_eq_true rfl) | assumption | exact nbo_0 | exact nbo_1 | exact b2_b) only [FE110, s110_0, s110_1, s110_2, s110_5, s110_8, s110_9, s110_10, s110_11, s110_14, s110_15, s110_18, s110_19, s110_20, s110_23, s110_24, s110_25, s110_28, s110_30, s110_31, s110_32, s110_33, s110_34, s110_37, s110_38, s110_41, s110_42, s110_43, s110_46, s110_47, s110_50, s110_51, s110_52, s110_55, s110_56, s110_57, s110_60, s110_61, s110_64, s110_65, s110_68, s110_70, ↓reduceIte, psh_some, psh_none, cln_i, cln_r, cln_n, cln_l, cln_d, cln_f, Option.bind_some, Option.bind_none, if_true, if_false, nI_add, pk_mul, nbo_0, nbo_1, nI_leI, nI_ltI, nI_eq, Nat.reduceAdd, Nat.reduceMul, Nat.add_zero, Nat.mul_zero, g3, e0]
/-- the mean of a call -/
def mnC (a : Nat → Nat) (t : Nat) : Nat := (a (58 + 10 * frm a + t) + a (58 + 10 * bst a t + t) + 1) / 2
theorem f113 {t : Nat} (hR : RM R) (hI : I 225 = vI a) (hW : WO a) (h0 : a 0 < 2 ^ 30) (ht : t < 10) : FF 113 [.ref 224, .int (nI t)] (210, I, R) = some (some (.int (nI (mnC a t))), 210, up I 225 (vI (up (up a (58 + 10 * frm a + t) (mnC a t)) 12 (a 12 + a 7))), R) := by
  have hv : (225 : Nat) = 225 ∨ (225 : Nat) = 226 := Or.inl rfl
  have ho := om
  have hf : frm a < 6 := hW.ro _ (Nat.mod_lt _ (by decide))
  have hb := bst_lt (a := a) (t := t)
  have l1 := hW.lv (frm a) t hf ht
  have l2 := hW.lv (bst a t) t hb ht
  have g1 := f111 (R := R) (x := a 0) hv hI (by omega)
  rw [show a (14 + a 0 % 12) = frm a from rfl] at g1
  have g2 := f112 (R := R) (t := t) hR hI hW ht
  have hw : ∀ {J : Nat → Nat → Int32} {k : Nat} {z : Int32}, k < 148 → wI J 225 (nI k).toNatClampNeg z = up J 225 (up (J 225) k z) := fun {J k z} h => wm_n hv (by omega)
  have c := cm_n (a := 225) (k := 58 + 10 * frm a + t) hv (by omega)
  have c1 := cm_n (a := 225) (k := 12) hv (by omega)
  have n1 : ∀ x, up a (58 + 10 * frm a + t) x 12 = a 12 := fun x => up_ne (by omega)
  have n2 : ∀ x, up a (58 + 10 * frm a + t) x 7 = a 7 := fun x => up_ne (by omega)
  have n3 : ∀ x y, up (up a (58 + 10 * frm a + t) x) 12 y (58 + 10 * frm a + t) = x := fun x y => by rw [up_ne (by omega), up_at]
  have em : (a (58 + 10 * frm a + t) + a (58 + 10 * bst a t + t) + 1) / 2 = mnC a t := rfl
  simp (disch := first | omega | (show List.length _ ≤ 4; exact Nat.le_of_ble_eq_true rfl) | assumption | exact nbo_0 | exact nbo_1 | exact b2_b) only [FE113, s113_0, s113_1, s113_4, s113_5, s113_8, s113_9, s113_10, s113_13, s113_14, s113_17, s113_18, s113_19, s113_22, s113_23, s113_24, s113_27, s113_28, s113_29, s113_30, s113_33, s113_34, s113_35, s113_38, s113_39, s113_42, s113_43, s113_44, s113_45, s113_46, s113_47, s113_48, s113_49, s113_50, s113_53, s113_55, s113_56, s113_57, s113_58, s113_61, s113_63, s113_64, s113_65, s113_66, s113_67, s113_70, s113_71, s113_72, ↓reduceIte, psh_some, psh_none, cln_i, cln_r, cln_n, cln_l, cln_d, cln_f, Option.bind_some, Option.bind_none, if_true, if_false, nI_add, pk_mul, nbo_0, nbo_1, nI_leI, nI_ltI, nI_eq, Nat.reduceAdd, Nat.reduceMul, Nat.add_zero, Nat.mul_zero, up_at, up_up, up_vI, vI_at, gm_0 hR, am_n hv, hI, hw, g1, g2, f107, em, n1, n2, n3]
end P1
