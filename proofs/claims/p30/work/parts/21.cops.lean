/-! ===== what a change leaves well formed ===== -/
theorem WO.up1 {a : Nat → Nat} (h : WO a) {k x : Nat} (hk : (2 ≤ k ∧ k < 8) ∨ (14 ≤ k ∧ k < 48)) (c2 : k = 2 → 1 ≤ x ∧ x ≤ 100) (c3 : k = 3 → 1 ≤ x ∧ x ≤ 20) (c4 : k = 4 → x ≤ 50) (c5 : k = 5 → x ≤ 20) (c6 : k = 6 → x ≤ 99) (c7 : k = 7 → x ≤ 999) (c14 : 14 ≤ k → k < 26 → x < 6) (c26 : 26 ≤ k → k < 38 → x ≤ 60) (c38 : 38 ≤ k → x ≤ 1 ∧ k < 38 + a 1) : WO (up a k x) := by
  have u : ∀ j, up a k x j = if j = k then x else a j := fun j => rfl
  have hT := h.tp
  have hL := h.li
  refine ⟨?_, ?_, ?_, ?_, ?_, ?_, ?_, ?_, ?_, ?_, ?_, ?_, ?_, ?_, ?_, ?_, ?_⟩
  · rw [u, if_neg (by omega)]; exact h.tp
  · rw [u]
    by_cases e : 2 = k
    · rw [if_pos e]; exact c2 e.symm
    · rw [if_neg e]; exact h.kn
  · rw [u]
    by_cases e : 3 = k
    · rw [if_pos e]; exact c3 e.symm
    · rw [if_neg e]; exact h.ps
  · rw [u]
    by_cases e : 4 = k
    · rw [if_pos e]; exact c4 e.symm
    · rw [if_neg e]; exact h.dc
  · rw [u]
    by_cases e : 5 = k
    · rw [if_pos e]; exact c5 e.symm
    · rw [if_neg e]; exact h.wk
  · rw [u]
    by_cases e : 6 = k
    · rw [if_pos e]; exact c6 e.symm
    · rw [if_neg e]; exact h.co
  · rw [u]
    by_cases e : 7 = k
    · rw [if_pos e]; exact c7 e.symm
    · rw [if_neg e]; exact h.ca
  · rw [u, if_neg (by omega)]; exact h.li
  · intro p hp
    rw [u]
    by_cases e : 14 + p = k
    · rw [if_pos e]; exact c14 (by omega) (by omega)
    · rw [if_neg e]; exact h.ro p hp
  · intro p hp
    rw [u]
    by_cases e : 26 + p = k
    · rw [if_pos e]; exact c26 (by omega) (by omega)
    · rw [if_neg e]; exact h.mi p hp
  · intro p hp
    rw [u]
    by_cases e : 38 + p = k
    · rw [if_pos e]; exact (c38 (by omega)).1
    · rw [if_neg e]; exact h.op p hp
  · intro p hp
    rw [u 1, if_neg (by omega), u]
    intro hz
    by_cases e : 38 + p = k
    · have := (c38 (by omega)).2; omega
    · rw [if_neg e]; exact h.oz p hp hz
  · intro j hj
    rw [u 13, if_neg (by omega)] at hj
    rw [u 1, if_neg (by omega), u, if_neg (by omega)]
    exact h.le j hj
  · intro i j hi hj
    rw [u 13, if_neg (by omega)] at hj
    rw [u, if_neg (by omega), u, if_neg (by omega)]
    exact h.nd i j hi hj
  · intro w t hw ht
    rw [u, if_neg (by omega)]
    exact h.lv w t hw ht
  · intro w t hw ht
    rw [u 1, if_neg (by omega), u, if_neg (by omega)]
    exact h.lz w t hw ht
  · intro j hj
    rw [u, if_neg (by omega)]
    exact h.zz j hj
theorem WO.turned {a : Nat → Nat} (h : WO a) {t : Nat} (ht : t < a 1) : WO (up a (38 + t) (1 - a (38 + t))) := by
  have := h.tp
  exact h.up1 (by omega) (by omega) (by omega) (by omega) (by omega) (by omega) (by omega) (by omega) (by omega) (by omega)
theorem WO.come {a : Nat → Nat} (h : WO a) (ht : a 1 < 10) : WO (up (up a (38 + a 1) 1) 1 (a 1 + 1)) := by
  have u : ∀ j, j ≠ 1 → j ≠ 38 + a 1 → up (up a (38 + a 1) 1) 1 (a 1 + 1) j = a j := fun j h1 h2 => by rw [up_ne h1, up_ne h2]
  have u1 : up (up a (38 + a 1) 1) 1 (a 1 + 1) 1 = a 1 + 1 := up_at _ _ _
  have u2 : up (up a (38 + a 1) 1) 1 (a 1 + 1) (38 + a 1) = 1 := by rw [up_ne (by omega), up_at]
  have hL := h.li
  refine ⟨?_, ?_, ?_, ?_, ?_, ?_, ?_, ?_, ?_, ?_, ?_, ?_, ?_, ?_, ?_, ?_, ?_⟩
  · rw [u1]; omega
  · rw [u 2 (by omega) (by omega)]; exact h.kn
  · rw [u 3 (by omega) (by omega)]; exact h.ps
  · rw [u 4 (by omega) (by omega)]; exact h.dc
  · rw [u 5 (by omega) (by omega)]; exact h.wk
  · rw [u 6 (by omega) (by omega)]; exact h.co
  · rw [u 7 (by omega) (by omega)]; exact h.ca
  · rw [u 13 (by omega) (by omega)]; exact h.li
  · intro p hp; rw [u _ (by omega) (by omega)]; exact h.ro p hp
  · intro p hp; rw [u _ (by omega) (by omega)]; exact h.mi p hp
  · intro p hp
    by_cases e : p = a 1
    · rw [e, u2]; decide
    · rw [u _ (by omega) (by omega)]; exact h.op p hp
  · intro p hp
    rw [u1]
    intro hz
    rw [u _ (by omega) (by omega)]
    exact h.oz p hp (by omega)
  · intro j hj
    rw [u 13 (by omega) (by omega)] at hj
    have := h.le j hj
    rw [u1, u _ (by omega) (by omega)]
    omega
  · intro i j hi hj
    rw [u 13 (by omega) (by omega)] at hj
    rw [u _ (by omega) (by omega), u _ (by omega) (by omega)]
    exact h.nd i j hi hj
  · intro w t hw ht
    rw [u _ (by omega) (by omega)]
    exact h.lv w t hw ht
  · intro w t hw ht2
    rw [u1]
    intro hz
    rw [u _ (by omega) (by omega)]
    exact h.lz w t hw ht2 (by omega)
  · intro j hj
    rw [u _ (by omega) (by omega)]
    exact h.zz j hj
/-! ===== the changes, the class's ===== -/
section C1
variable {I : Nat → Nat → Int32} {R : Nat → Nat → Option Nat} {b : Nat} {a : Nat → Nat}
theorem f49t {M : Mm} {x : Int32} : FF 49 [.int x] M = some (some (.int (b2 (iT x 6))), M) := f49
theorem f50t {M : Mm} {x : Int32} : FF 50 [.int x] M = some (some (.int (b2 (iT x 12))), M) := f50
theorem f45t {M : Mm} {x : Int32} : FF 45 [.int x] M = some (some (.int (b2 (iT x 6))), M) := f45
theorem f18t {x : Int32} (hb : b < 13) (hI : I b = vI a) : FF 18 [.ref (16 * b), .int x] (202, I, R) = some (some (.int (b2 (iT x (a 1)))), 202, I, R) := f18x hb hI
theorem z0 : (nI 0 = (0 : Int32)) = True := eq_true (by decide)
theorem z1 : (nI 1 = (0 : Int32)) = False := eq_false (by decide)
theorem cs_ard {I : Nat → Nat → Int32} {r k : Nat} (hr : 1001 ≤ r ∧ r < 1004) (hk : k < 6) : ardI 5 202 I r (nI k) = some (csI r k) := by
  unfold ardI
  rw [if_neg (by omega), if_neg (by omega), if_pos hr.2, if_pos ⟨rfl, nI_inb hk (by decide)⟩, nI_clamp (by omega)]
/-- a setting's range -/
abbrev sOk (k : Nat) (y : Int32) : Prop := ¬ y < csI 1002 k ∧ ¬ csI 1003 k < y
theorem f13e {x y : Int32} (hb : b < 13) (h : ¬ (iT x 6 ∧ sOk x.toNatClampNeg y)) : FF 13 [.ref (16 * b), .int x, .int y] (202, I, R) = some (some (.int (-2)), 202, I, R) := by
  have ho := os hb
  by_cases e : iT x 6
  · obtain ⟨k, hk, rfl⟩ := iT_nI (by decide) e
    rw [nI_clamp (by omega)] at h
    have h1 := cs_ard (I := I) (r := 1002) (by decide) hk
    have h2 := cs_ard (I := I) (r := 1003) (by decide) hk
    have h45 := f45t (M := (202, I, R)) (x := nI k)
    rw [b2_t e] at h45
    by_cases e2 : y < csI 1002 k
    · simp (disch := first | omega | (show List.length _ ≤ 4; exact Nat.le_of_ble_eq_true rfl) | assumption | exact nbo_0 | exact nbo_1 | exact b2_b) only [FE13, s13_0, s13_1, s13_4, s13_7, s13_8, s13_11, s13_12, s13_13, s13_16, s13_17, s13_20, s13_21, s13_22, s13_25, s13_27, s13_28, s13_29, s13_32, s13_33, s13_34, s13_35, s13_36, s13_39, s13_40, s13_41, s13_42, s13_43, ↓reduceIte, psh_some, psh_none, cln_i, cln_r, cln_n, cln_l, cln_d, cln_f, Option.bind_some, Option.bind_none, if_true, if_false, nI_add, pk_mul, nbo_0, nbo_1, nI_leI, nI_ltI, nI_eq, Nat.reduceAdd, Nat.reduceMul, Nat.add_zero, Nat.mul_zero, h45, z1, h1, h2, e2]
    · have e3 : csI 1003 k < y := by
        by_cases e4 : csI 1003 k < y
        · exact e4
        · exact absurd ⟨e, e2, e4⟩ h
      have e4 : ¬ y ≤ csI 1003 k := Int32.not_le.mpr e3
      simp (disch := first | omega | (show List.length _ ≤ 4; exact Nat.le_of_ble_eq_true rfl) | assumption | exact nbo_0 | exact nbo_1 | exact b2_b) only [FE13, s13_0, s13_1, s13_4, s13_7, s13_8, s13_11, s13_12, s13_13, s13_16, s13_17, s13_20, s13_21, s13_22, s13_25, s13_27, s13_28, s13_29, s13_32, s13_33, s13_34, s13_35, s13_36, s13_39, s13_40, s13_41, s13_42, s13_43, ↓reduceIte, psh_some, psh_none, cln_i, cln_r, cln_n, cln_l, cln_d, cln_f, Option.bind_some, Option.bind_none, if_true, if_false, nI_add, pk_mul, nbo_0, nbo_1, nI_leI, nI_ltI, nI_eq, Nat.reduceAdd, Nat.reduceMul, Nat.add_zero, Nat.mul_zero, h45, z1, h1, h2, e2, e4]
  · have h45 := f45t (M := (202, I, R)) (x := x)
    rw [b2_f e] at h45
    simp (disch := first | omega | (show List.length _ ≤ 4; exact Nat.le_of_ble_eq_true rfl) | assumption | exact nbo_0 | exact nbo_1 | exact b2_b) only [FE13, s13_0, s13_1, s13_4, s13_7, s13_8, s13_11, s13_12, s13_13, s13_16, s13_17, s13_20, s13_21, s13_22, s13_25, s13_27, s13_28, s13_29, s13_32, s13_33, s13_34, s13_35, s13_36, s13_39, s13_40, s13_41, s13_42, s13_43, ↓reduceIte, psh_some, psh_none, cln_i, cln_r, cln_n, cln_l, cln_d, cln_f, Option.bind_some, Option.bind_none, if_true, if_false, nI_add, pk_mul, nbo_0, nbo_1, nI_leI, nI_ltI, nI_eq, Nat.reduceAdd, Nat.reduceMul, Nat.add_zero, Nat.mul_zero, h45, z0]
theorem f13 {k y : Nat} (hb : b < 13) (hR : RS R) (hI : I b = vI a) (hk : k < 6) (h : sOk k (nI y)) : FF 13 [.ref (16 * b), .int (nI k), .int (nI y)] (202, I, R) = some (some (.int (nI (a (2 + k)))), 202, up I b (vI (up a (2 + k) y)), R) := by
  have ho := os hb
  have h1 := cs_ard (I := I) (r := 1002) (by decide) hk
  have h2 := cs_ard (I := I) (r := 1003) (by decide) hk
  have h45 := f45t (M := (202, I, R)) (x := nI k)
  rw [b2_t (nI_iT hk (by decide))] at h45
  have e4 : nI y ≤ csI 1003 k := Int32.not_lt.mp h.2
  have e2 := h.1
  have c := cs_1 (k := k) hb hk
  simp (disch := first | omega | (show List.length _ ≤ 4; exact Nat.le_of_ble_eq_true rfl) | assumption | exact nbo_0 | exact nbo_1 | exact b2_b) only [FE13, s13_0, s13_1, s13_4, s13_7, s13_8, s13_11, s13_12, s13_13, s13_16, s13_17, s13_20, s13_21, s13_22, s13_25, s13_27, s13_28, s13_29, s13_32, s13_33, s13_34, s13_35, s13_36, s13_39, s13_40, s13_41, s13_42, s13_43, ↓reduceIte, psh_some, psh_none, cln_i, cln_r, cln_n, cln_l, cln_d, cln_f, Option.bind_some, Option.bind_none, if_true, if_false, nI_add, pk_mul, nbo_0, nbo_1, nI_leI, nI_ltI, nI_eq, Nat.reduceAdd, Nat.reduceMul, Nat.add_zero, Nat.mul_zero, up_at, up_up, up_vI, vI_at, h45, z1, h1, h2, e2, e4, gs_0 hb hR, as_1 hb, ws_1 hb, hI]
theorem f14e {x y : Int32} (hb : b < 13) (h : ¬ (iT y 6 ∧ iT x 12)) : FF 14 [.ref (16 * b), .int x, .int y] (202, I, R) = some (some (.int (if iT y 6 then -2 else -1)), 202, I, R) := by
  have ho := os hb
  by_cases e : iT y 6
  · have h50 := f50t (M := (202, I, R)) (x := x)
    rw [b2_f (fun h2 => h ⟨e, h2⟩)] at h50
    rw [if_pos e]
    simp (disch := first | omega | (show List.length _ ≤ 4; exact Nat.le_of_ble_eq_true rfl) | assumption | exact nbo_0 | exact nbo_1 | exact b2_b) only [FE14, s14_0, s14_1, s14_4, s14_7, s14_8, s14_9, s14_10, s14_13, s14_16, s14_18, s14_19, s14_20, s14_23, s14_24, s14_25, s14_26, s14_27, s14_30, s14_31, s14_32, s14_33, s14_34, ↓reduceIte, psh_some, psh_none, cln_i, cln_r, cln_n, cln_l, cln_d, cln_f, Option.bind_some, Option.bind_none, if_true, if_false, nI_add, pk_mul, nbo_0, nbo_1, nI_leI, nI_ltI, nI_eq, Nat.reduceAdd, Nat.reduceMul, Nat.add_zero, Nat.mul_zero, f49t, b2_t e, h50, z0, z1]
  · rw [if_neg e]
    simp (disch := first | omega | (show List.length _ ≤ 4; exact Nat.le_of_ble_eq_true rfl) | assumption | exact nbo_0 | exact nbo_1 | exact b2_b) only [FE14, s14_0, s14_1, s14_4, s14_7, s14_8, s14_9, s14_10, s14_13, s14_16, s14_18, s14_19, s14_20, s14_23, s14_24, s14_25, s14_26, s14_27, s14_30, s14_31, s14_32, s14_33, s14_34, ↓reduceIte, psh_some, psh_none, cln_i, cln_r, cln_n, cln_l, cln_d, cln_f, Option.bind_some, Option.bind_none, if_true, if_false, nI_add, pk_mul, nbo_0, nbo_1, nI_leI, nI_ltI, nI_eq, Nat.reduceAdd, Nat.reduceMul, Nat.add_zero, Nat.mul_zero, f49t, b2_f e, z0, z1]
theorem f14 {x y : Nat} (hb : b < 13) (hR : RS R) (hI : I b = vI a) (hy : y < 6) (hx : x < 12) : FF 14 [.ref (16 * b), .int (nI x), .int (nI y)] (202, I, R) = some (some (.int (nI (a (14 + x)))), 202, up I b (vI (up a (14 + x) y)), R) := by
  have ho := os hb
  have c := cs_2 (k := x) hb hx
  have e1 := b2_t (nI_iT hy (by decide))
  have e2 := b2_t (nI_iT hx (by decide))
  simp (disch := first | omega | (show List.length _ ≤ 4; exact Nat.le_of_ble_eq_true rfl) | assumption | exact nbo_0 | exact nbo_1 | exact b2_b) only [FE14, s14_0, s14_1, s14_4, s14_7, s14_8, s14_9, s14_10, s14_13, s14_16, s14_18, s14_19, s14_20, s14_23, s14_24, s14_25, s14_26, s14_27, s14_30, s14_31, s14_32, s14_33, s14_34, ↓reduceIte, psh_some, psh_none, cln_i, cln_r, cln_n, cln_l, cln_d, cln_f, Option.bind_some, Option.bind_none, if_true, if_false, nI_add, pk_mul, nbo_0, nbo_1, nI_leI, nI_ltI, nI_eq, Nat.reduceAdd, Nat.reduceMul, Nat.add_zero, Nat.mul_zero, up_at, up_up, up_vI, vI_at, f49t, f50t, e1, e2, z0, z1, gs_1 hb hR, as_2 hb, ws_2 hb, hI]
theorem f15e {x y : Int32} (hb : b < 13) (h : ¬ (iT x 12 ∧ iT y 61)) : FF 15 [.ref (16 * b), .int x, .int y] (202, I, R) = some (some (.int (-2)), 202, I, R) := by
  have ho := os hb
  by_cases e : iT x 12
  · by_cases e2 : y < 0
    · simp (disch := first | omega | (show List.length _ ≤ 4; exact Nat.le_of_ble_eq_true rfl) | assumption | exact nbo_0 | exact nbo_1 | exact b2_b) only [FE15, s15_0, s15_1, s15_4, s15_7, s15_8, s15_11, s15_12, s15_14, s15_17, s15_19, s15_20, s15_21, s15_24, s15_25, s15_26, s15_27, s15_28, s15_31, s15_32, s15_33, s15_34, s15_35, ↓reduceIte, psh_some, psh_none, cln_i, cln_r, cln_n, cln_l, cln_d, cln_f, Option.bind_some, Option.bind_none, if_true, if_false, nI_add, pk_mul, nbo_0, nbo_1, nI_leI, nI_ltI, nI_eq, Nat.reduceAdd, Nat.reduceMul, Nat.add_zero, Nat.mul_zero, f50t, b2_t e, z0, z1, e2]
    · have e3 : nI 61 ≤ y := by
        by_cases e4 : nI 61 ≤ y
        · exact e4
        · exact absurd ⟨e, e2, e4⟩ h
      have e4 : ¬ y ≤ nI 60 := Int32.not_le.mpr ((lt_le (m := 60) (by decide)).mpr e3)
      simp (disch := first | omega | (show List.length _ ≤ 4; exact Nat.le_of_ble_eq_true rfl) | assumption | exact nbo_0 | exact nbo_1 | exact b2_b) only [FE15, s15_0, s15_1, s15_4, s15_7, s15_8, s15_11, s15_12, s15_14, s15_17, s15_19, s15_20, s15_21, s15_24, s15_25, s15_26, s15_27, s15_28, s15_31, s15_32, s15_33, s15_34, s15_35, ↓reduceIte, psh_some, psh_none, cln_i, cln_r, cln_n, cln_l, cln_d, cln_f, Option.bind_some, Option.bind_none, if_true, if_false, nI_add, pk_mul, nbo_0, nbo_1, nI_leI, nI_ltI, nI_eq, Nat.reduceAdd, Nat.reduceMul, Nat.add_zero, Nat.mul_zero, f50t, b2_t e, z0, z1, e2, e4]
  · simp (disch := first | omega | (show List.length _ ≤ 4; exact Nat.le_of_ble_eq_true rfl) | assumption | exact nbo_0 | exact nbo_1 | exact b2_b) only [FE15, s15_0, s15_1, s15_4, s15_7, s15_8, s15_11, s15_12, s15_14, s15_17, s15_19, s15_20, s15_21, s15_24, s15_25, s15_26, s15_27, s15_28, s15_31, s15_32, s15_33, s15_34, s15_35, ↓reduceIte, psh_some, psh_none, cln_i, cln_r, cln_n, cln_l, cln_d, cln_f, Option.bind_some, Option.bind_none, if_true, if_false, nI_add, pk_mul, nbo_0, nbo_1, nI_leI, nI_ltI, nI_eq, Nat.reduceAdd, Nat.reduceMul, Nat.add_zero, Nat.mul_zero, f50t, b2_f e, z0, z1]
theorem f15 {x y : Nat} (hb : b < 13) (hR : RS R) (hI : I b = vI a) (hx : x < 12) (hy : y < 61) : FF 15 [.ref (16 * b), .int (nI x), .int (nI y)] (202, I, R) = some (some (.int (nI (a (26 + x)))), 202, up I b (vI (up a (26 + x) y)), R) := by
  have ho := os hb
  have c := cs_3 (k := x) hb hx
  have e2 := b2_t (nI_iT hx (by decide))
  have e3 : ¬ nI y < 0 := nI_pos (by omega)
  have e4 : y ≤ 60 := by omega
  simp (disch := first | omega | (show List.length _ ≤ 4; exact Nat.le_of_ble_eq_true rfl) | assumption | exact nbo_0 | exact nbo_1 | exact b2_b) only [FE15, s15_0, s15_1, s15_4, s15_7, s15_8, s15_11, s15_12, s15_14, s15_17, s15_19, s15_20, s15_21, s15_24, s15_25, s15_26, s15_27, s15_28, s15_31, s15_32, s15_33, s15_34, s15_35, ↓reduceIte, psh_some, psh_none, cln_i, cln_r, cln_n, cln_l, cln_d, cln_f, Option.bind_some, Option.bind_none, if_true, if_false, nI_add, pk_mul, nbo_0, nbo_1, nI_leI, nI_ltI, nI_eq, Nat.reduceAdd, Nat.reduceMul, Nat.add_zero, Nat.mul_zero, up_at, up_up, up_vI, vI_at, f50t, e2, e3, e4, z0, z1, gs_2 hb hR, as_3 hb, ws_3 hb, hI]
theorem f16e (hb : b < 13) (hI : I b = vI a) (h : a 1 = 10) : FF 16 [.ref (16 * b)] (202, I, R) = some (some (.int (-4)), 202, I, R) := by
  have h2 : ¬ 10 < 10 := by decide
  simp (disch := first | omega | (show List.length _ ≤ 4; exact Nat.le_of_ble_eq_true rfl) | assumption | exact nbo_0 | exact nbo_1 | exact b2_b) only [FE16, s16_0, s16_1, s16_4, s16_6, s16_9, s16_11, s16_12, s16_13, s16_16, s16_17, s16_18i, s16_18r, s16_19, s16_22, s16_23, s16_24, s16_25, s16_26, s16_29, s16_30i, s16_30r, s16_31, s16_34, s16_35, s16_36, s16_39, s16_40, ↓reduceIte, psh_some, psh_none, cln_i, cln_r, cln_n, cln_l, cln_d, cln_f, Option.bind_some, Option.bind_none, if_true, if_false, nI_add, pk_mul, nbo_0, nbo_1, nI_leI, nI_ltI, nI_eq, Nat.reduceAdd, Nat.reduceMul, Nat.add_zero, Nat.mul_zero, gs_8 hb, hI, vI_at, h, h2]
theorem f16 (hb : b < 13) (hI : I b = vI a) (hW : WO a) (h : a 1 < 10) : FF 16 [.ref (16 * b)] (202, I, R) = some (some (.int (nI (a 1))), 202, up I b (vI (up (up a (38 + a 1) 1) 1 (a 1 + 1))), R) := by
  have h2 := pk_or hW.op h (hW.oz _ h (Nat.le_refl _))
  have h3 := fun {x : Nat} (hm : x < 1024) => ps_9 (I := I) (R := R) (b := b) (m := x) hb hm
  have h4 := pkN_lt (op_up hW.op (t := a 1) (x := 1) (by decide))
  have h5 := unpk_v (a := a) (a' := up a (38 + a 1) 1) (op_up hW.op (by decide)) (fun k hk => up_ne (by omega))
  have n1 : ∀ x, up a (38 + a 1) x 1 = a 1 := fun x => up_ne (by omega)
  simp (disch := first | omega | (show List.length _ ≤ 4; exact Nat.le_of_ble_eq_true rfl) | assumption | exact nbo_0 | exact nbo_1 | exact b2_b) only [FE16, s16_0, s16_1, s16_4, s16_6, s16_9, s16_11, s16_12, s16_13, s16_16, s16_17, s16_18i, s16_18r, s16_19, s16_22, s16_23, s16_24, s16_25, s16_26, s16_29, s16_30i, s16_30r, s16_31, s16_34, s16_35, s16_36, s16_39, s16_40, ↓reduceIte, psh_some, psh_none, cln_i, cln_r, cln_n, cln_l, cln_d, cln_f, Option.bind_some, Option.bind_none, if_true, if_false, nI_add, pk_mul, nbo_0, nbo_1, nI_leI, nI_ltI, nI_eq, Nat.reduceAdd, Nat.reduceMul, Nat.add_zero, Nat.mul_zero, up_at, up_up, up_vI, vI_at, gs_8 hb, gs_9 hb, ps_8 hb, hI, h, h2, ps_9 hb, h5, n1]
theorem f17e {x : Int32} (hb : b < 13) (hI : I b = vI a) (h : ¬ iT x (a 1)) : FF 17 [.ref (16 * b), .int x] (202, I, R) = some (some (.int (-1)), 202, I, R) := by
  have ho := os hb
  simp (disch := first | omega | (show List.length _ ≤ 4; exact Nat.le_of_ble_eq_true rfl) | assumption | exact nbo_0 | exact nbo_1 | exact b2_b) only [FE17, s17_0, s17_1, s17_2, s17_5, s17_8, s17_9, s17_10, s17_11i, s17_11r, s17_12, s17_15, s17_16, s17_17, s17_18, s17_19, s17_22, s17_23, s17_24, s17_27, s17_30, s17_31, s17_34, s17_35, ↓reduceIte, psh_some, psh_none, cln_i, cln_r, cln_n, cln_l, cln_d, cln_f, Option.bind_some, Option.bind_none, if_true, if_false, nI_add, pk_mul, nbo_0, nbo_1, nI_leI, nI_ltI, nI_eq, Nat.reduceAdd, Nat.reduceMul, Nat.add_zero, Nat.mul_zero, f18t hb hI, b2_f h, z0]
theorem f17 {t : Nat} (hb : b < 13) (hI : I b = vI a) (hW : WO a) (ht : t < a 1) : FF 17 [.ref (16 * b), .int (nI t)] (202, I, R) = some (some (.int (nI (1 - a (38 + t)))), 202, up I b (vI (up a (38 + t) (1 - a (38 + t)))), R) := by
  have ho := os hb
  have hT := hW.tp
  have hop := hW.op t (by omega)
  have h2 := pk_xor hW.op (t := t) (by omega)
  have h4 := pkN_lt (op_up hW.op (t := t) (x := 1 - a (38 + t)) (by omega))
  have h5 := unpk_v (a := a) (a' := up a (38 + t) (1 - a (38 + t))) (op_up hW.op (by omega)) (fun k hk => up_ne (by omega))
  have h6 := hW.turned ht
  have h7 := f19 (I := up I b (vI (up a (38 + t) (1 - a (38 + t))))) (R := R) (t := t) hb (up_at I b _) h6 (by omega)
  rw [up_at] at h7
  have e1 := b2_t (nI_iT ht (by omega))
  rcases (show a (38 + t) = 0 ∨ a (38 + t) = 1 by omega) with e | e
  · have h8 : (1 - a (38 + t) = 1) = True := eq_true (by omega)
    simp (disch := first | omega | (show List.length _ ≤ 4; exact Nat.le_of_ble_eq_true rfl) | assumption | exact nbo_0 | exact nbo_1 | exact b2_b) only [FE17, s17_0, s17_1, s17_2, s17_5, s17_8, s17_9, s17_10, s17_11i, s17_11r, s17_12, s17_15, s17_16, s17_17, s17_18, s17_19, s17_22, s17_23, s17_24, s17_27, s17_30, s17_31, s17_34, s17_35, ↓reduceIte, psh_some, psh_none, cln_i, cln_r, cln_n, cln_l, cln_d, cln_f, Option.bind_some, Option.bind_none, if_true, if_false, nI_add, pk_mul, nbo_0, nbo_1, nI_leI, nI_ltI, nI_eq, Nat.reduceAdd, Nat.reduceMul, Nat.add_zero, Nat.mul_zero, f18t hb hI, e1, z0, z1, gs_9 hb, ps_9 hb, hI, h2, h5, h7, b2_if, h8]
    rw [e]
  · have h8 : (1 - a (38 + t) = 1) = False := eq_false (by omega)
    simp (disch := first | omega | (show List.length _ ≤ 4; exact Nat.le_of_ble_eq_true rfl) | assumption | exact nbo_0 | exact nbo_1 | exact b2_b) only [FE17, s17_0, s17_1, s17_2, s17_5, s17_8, s17_9, s17_10, s17_11i, s17_11r, s17_12, s17_15, s17_16, s17_17, s17_18, s17_19, s17_22, s17_23, s17_24, s17_27, s17_30, s17_31, s17_34, s17_35, ↓reduceIte, psh_some, psh_none, cln_i, cln_r, cln_n, cln_l, cln_d, cln_f, Option.bind_some, Option.bind_none, if_true, if_false, nI_add, pk_mul, nbo_0, nbo_1, nI_leI, nI_ltI, nI_eq, Nat.reduceAdd, Nat.reduceMul, Nat.add_zero, Nat.mul_zero, f18t hb hI, e1, z0, z1, gs_9 hb, ps_9 hb, hI, h2, h5, h7, b2_if, h8]
    rw [e]
theorem f22e {x y z : Int32} (hb : b < 13) (hI : I b = vI a) (h : ¬ ((iT x 6 ∧ iT y (a 1)) ∧ ¬ z < nI 1 ∧ ¬ nI 100 < z)) : FF 22 [.ref (16 * b), .int x, .int y, .int z] (202, I, R) = some (some (.int (if iT x 6 ∧ iT y (a 1) then -2 else -1)), 202, I, R) := by
  have ho := os hb
  by_cases e : iT x 6
  · by_cases e2 : iT y (a 1)
    · rw [if_pos ⟨e, e2⟩]
      by_cases e3 : z < nI 1
      · simp (disch := first | omega | (show List.length _ ≤ 4; exact Nat.le_of_ble_eq_true rfl) | assumption | exact nbo_0 | exact nbo_1 | exact b2_b) only [FE22, s22_0, s22_1, s22_4, s22_7, s22_8, s22_9, s22_12, s22_15, s22_16, s22_17, s22_18, s22_19, s22_22, s22_23, s22_25, s22_28, s22_30, s22_31, s22_33, s22_34, s22_35, s22_36, s22_39, s22_40, s22_41, s22_44, s22_46, s22_47, s22_48, s22_49, s22_51, s22_54, s22_56, ↓reduceIte, psh_some, psh_none, cln_i, cln_r, cln_n, cln_l, cln_d, cln_f, Option.bind_some, Option.bind_none, if_true, if_false, nI_add, pk_mul, nbo_0, nbo_1, nI_leI, nI_ltI, nI_eq, Nat.reduceAdd, Nat.reduceMul, Nat.add_zero, Nat.mul_zero, f49t, f18t hb hI, b2_t e, b2_t e2, e3, z0, z1]
      · have e4 : nI 100 < z := by
          by_cases e5 : nI 100 < z
          · exact e5
          · exact absurd ⟨⟨e, e2⟩, e3, e5⟩ h
        have e5 : ¬ z ≤ nI 100 := Int32.not_le.mpr e4
        simp (disch := first | omega | (show List.length _ ≤ 4; exact Nat.le_of_ble_eq_true rfl) | assumption | exact nbo_0 | exact nbo_1 | exact b2_b) only [FE22, s22_0, s22_1, s22_4, s22_7, s22_8, s22_9, s22_12, s22_15, s22_16, s22_17, s22_18, s22_19, s22_22, s22_23, s22_25, s22_28, s22_30, s22_31, s22_33, s22_34, s22_35, s22_36, s22_39, s22_40, s22_41, s22_44, s22_46, s22_47, s22_48, s22_49, s22_51, s22_54, s22_56, ↓reduceIte, psh_some, psh_none, cln_i, cln_r, cln_n, cln_l, cln_d, cln_f, Option.bind_some, Option.bind_none, if_true, if_false, nI_add, pk_mul, nbo_0, nbo_1, nI_leI, nI_ltI, nI_eq, Nat.reduceAdd, Nat.reduceMul, Nat.add_zero, Nat.mul_zero, f49t, f18t hb hI, b2_t e, b2_t e2, e3, e5, z0, z1]
    · rw [if_neg (fun h => e2 h.2)]
      simp (disch := first | omega | (show List.length _ ≤ 4; exact Nat.le_of_ble_eq_true rfl) | assumption | exact nbo_0 | exact nbo_1 | exact b2_b) only [FE22, s22_0, s22_1, s22_4, s22_7, s22_8, s22_9, s22_12, s22_15, s22_16, s22_17, s22_18, s22_19, s22_22, s22_23, s22_25, s22_28, s22_30, s22_31, s22_33, s22_34, s22_35, s22_36, s22_39, s22_40, s22_41, s22_44, s22_46, s22_47, s22_48, s22_49, s22_51, s22_54, s22_56, ↓reduceIte, psh_some, psh_none, cln_i, cln_r, cln_n, cln_l, cln_d, cln_f, Option.bind_some, Option.bind_none, if_true, if_false, nI_add, pk_mul, nbo_0, nbo_1, nI_leI, nI_ltI, nI_eq, Nat.reduceAdd, Nat.reduceMul, Nat.add_zero, Nat.mul_zero, f49t, f18t hb hI, b2_t e, b2_f e2, z0, z1]
  · rw [if_neg (fun h => e h.1)]
    simp (disch := first | omega | (show List.length _ ≤ 4; exact Nat.le_of_ble_eq_true rfl) | assumption | exact nbo_0 | exact nbo_1 | exact b2_b) only [FE22, s22_0, s22_1, s22_4, s22_7, s22_8, s22_9, s22_12, s22_15, s22_16, s22_17, s22_18, s22_19, s22_22, s22_23, s22_25, s22_28, s22_30, s22_31, s22_33, s22_34, s22_35, s22_36, s22_39, s22_40, s22_41, s22_44, s22_46, s22_47, s22_48, s22_49, s22_51, s22_54, s22_56, ↓reduceIte, psh_some, psh_none, cln_i, cln_r, cln_n, cln_l, cln_d, cln_f, Option.bind_some, Option.bind_none, if_true, if_false, nI_add, pk_mul, nbo_0, nbo_1, nI_leI, nI_ltI, nI_eq, Nat.reduceAdd, Nat.reduceMul, Nat.add_zero, Nat.mul_zero, f49t, b2_f e, z0, z1]
theorem f22 {w t x : Nat} (hb : b < 13) (hR : RS R) (hI : I b = vI a) (hW : WO a) (hw : w < 6) (ht : t < a 1) (hx : 1 ≤ x ∧ x ≤ 100) : FF 22 [.ref (16 * b), .int (nI w), .int (nI t), .int (nI x)] (202, I, R) = some (some (.int (nI (min 100 (a (58 + 10 * w + t) + x)))), 202, up I b (vI (up a (58 + 10 * w + t) (min 100 (a (58 + 10 * w + t) + x)))), R) := by
  have ho := os hb
  have hT := hW.tp
  have e1 := b2_t (nI_iT hw (by decide))
  have e2 := b2_t (nI_iT ht (by omega))
  have l1 := hW.lv w t hw (by omega)
  have e3 : ¬ x < 1 := by omega
  have e4 : x ≤ 100 := hx.2
  have g1 := f23 (R := R) (t := t) hb hR hI hW hw (by omega)
  have g2 := f24 (R := R) (t := t) (x := min 100 (a (58 + 10 * w + t) + x)) hb hR hI hW hw ht
  simp (disch := first | omega | (show List.length _ ≤ 4; exact Nat.le_of_ble_eq_true rfl) | assumption | exact nbo_0 | exact nbo_1 | exact b2_b) only [FE22, s22_0, s22_1, s22_4, s22_7, s22_8, s22_9, s22_12, s22_15, s22_16, s22_17, s22_18, s22_19, s22_22, s22_23, s22_25, s22_28, s22_30, s22_31, s22_33, s22_34, s22_35, s22_36, s22_39, s22_40, s22_41, s22_44, s22_46, s22_47, s22_48, s22_49, s22_51, s22_54, s22_56, ↓reduceIte, psh_some, psh_none, cln_i, cln_r, cln_n, cln_l, cln_d, cln_f, Option.bind_some, Option.bind_none, if_true, if_false, nI_add, pk_mul, nbo_0, nbo_1, nI_leI, nI_ltI, nI_eq, Nat.reduceAdd, Nat.reduceMul, Nat.add_zero, Nat.mul_zero, f49t, f18t hb hI, e1, e2, e3, e4, z0, z1, g1, g2, f151]
theorem f25e {x : Int32} (hb : b < 13) (hR : RS R) (hI : I b = vI a) (hW : WO a) (h0 : a 0 < 2 ^ 30) (h : ¬ (iT x (a 1) ∧ a (38 + x.toNatClampNeg) = 1 ∧ a (58 + 10 * frm a + x.toNatClampNeg) < a (58 + 10 * bst a x.toNatClampNeg + x.toNatClampNeg))) : FF 25 [.ref (16 * b), .int x] (202, I, R) = some (some (.int (if iT x (a 1) then -5 else -1)), 202, I, R) := by
  have ho := os hb
  have hT := hW.tp
  by_cases e : iT x (a 1)
  · obtain ⟨t, ht, rfl⟩ := iT_nI (by omega) e
    rw [nI_clamp (by omega)] at h
    rw [if_pos e]
    have hf : frm a < 6 := hW.ro _ (Nat.mod_lt _ (by decide))
    have hbt := bst_lt (a := a) (t := t)
    have l1 := hW.lv (frm a) t hf (by omega)
    have l2 := hW.lv (bst a t) t hbt (by omega)
    have g1 := f26 hb hR hI h0
    rw [show a (14 + a 0 % 12) = frm a from rfl] at g1
    have g2 := f27 (R := R) (t := t) hb hR hI hW (by omega)
    have g3 := f23 (R := R) (t := t) hb hR hI hW hf (by omega)
    have g4 := f23 (R := R) (t := t) hb hR hI hW hbt (by omega)
    have g5 := f19 (R := R) (t := t) hb hI hW (by omega)
    by_cases e2 : a (38 + t) = 1
    · have e3 : ¬ a (58 + 10 * frm a + t) < a (58 + 10 * bst a t + t) := fun h2 => h ⟨e, e2, h2⟩
      simp (disch := first | omega | (show List.length _ ≤ 4; exact Nat.le_of_ble_eq_true rfl) | assumption | exact nbo_0 | exact nbo_1 | exact b2_b) only [FE25, s25_0, s25_1, s25_2, s25_5, s25_8, s25_9, s25_10, s25_11, s25_14, s25_15, s25_16, s25_17, s25_18, s25_21, s25_22, s25_23, s25_24, s25_25, s25_28, s25_29, s25_32, s25_34, s25_35, s25_36, s25_39, s25_42, s25_44, s25_45, s25_48, s25_50, s25_51, s25_52, s25_54, s25_55, s25_56, s25_57, s25_58, s25_59, s25_61, s25_62, s25_63, s25_64, s25_66, s25_69, s25_70i, s25_70r, s25_71, s25_74, s25_75, s25_78, s25_79, s25_80, s25_81, s25_84, s25_86, ↓reduceIte, psh_some, psh_none, cln_i, cln_r, cln_n, cln_l, cln_d, cln_f, Option.bind_some, Option.bind_none, if_true, if_false, nI_add, pk_mul, nbo_0, nbo_1, nI_leI, nI_ltI, nI_eq, Nat.reduceAdd, Nat.reduceMul, Nat.add_zero, Nat.mul_zero, f18t hb hI, b2_t e, z0, z1, g1, g2, g3, g4, g5, b2_if, e2, e3]
    · simp (disch := first | omega | (show List.length _ ≤ 4; exact Nat.le_of_ble_eq_true rfl) | assumption | exact nbo_0 | exact nbo_1 | exact b2_b) only [FE25, s25_0, s25_1, s25_2, s25_5, s25_8, s25_9, s25_10, s25_11, s25_14, s25_15, s25_16, s25_17, s25_18, s25_21, s25_22, s25_23, s25_24, s25_25, s25_28, s25_29, s25_32, s25_34, s25_35, s25_36, s25_39, s25_42, s25_44, s25_45, s25_48, s25_50, s25_51, s25_52, s25_54, s25_55, s25_56, s25_57, s25_58, s25_59, s25_61, s25_62, s25_63, s25_64, s25_66, s25_69, s25_70i, s25_70r, s25_71, s25_74, s25_75, s25_78, s25_79, s25_80, s25_81, s25_84, s25_86, ↓reduceIte, psh_some, psh_none, cln_i, cln_r, cln_n, cln_l, cln_d, cln_f, Option.bind_some, Option.bind_none, if_true, if_false, nI_add, pk_mul, nbo_0, nbo_1, nI_leI, nI_ltI, nI_eq, Nat.reduceAdd, Nat.reduceMul, Nat.add_zero, Nat.mul_zero, f18t hb hI, b2_t e, z0, z1, g1, g2, g3, g4, g5, b2_if, e2]
  · rw [if_neg e]
    simp (disch := first | omega | (show List.length _ ≤ 4; exact Nat.le_of_ble_eq_true rfl) | assumption | exact nbo_0 | exact nbo_1 | exact b2_b) only [FE25, s25_0, s25_1, s25_2, s25_5, s25_8, s25_9, s25_10, s25_11, s25_14, s25_15, s25_16, s25_17, s25_18, s25_21, s25_22, s25_23, s25_24, s25_25, s25_28, s25_29, s25_32, s25_34, s25_35, s25_36, s25_39, s25_42, s25_44, s25_45, s25_48, s25_50, s25_51, s25_52, s25_54, s25_55, s25_56, s25_57, s25_58, s25_59, s25_61, s25_62, s25_63, s25_64, s25_66, s25_69, s25_70i, s25_70r, s25_71, s25_74, s25_75, s25_78, s25_79, s25_80, s25_81, s25_84, s25_86, ↓reduceIte, psh_some, psh_none, cln_i, cln_r, cln_n, cln_l, cln_d, cln_f, Option.bind_some, Option.bind_none, if_true, if_false, nI_add, pk_mul, nbo_0, nbo_1, nI_leI, nI_ltI, nI_eq, Nat.reduceAdd, Nat.reduceMul, Nat.add_zero, Nat.mul_zero, f18t hb hI, b2_f e, z0, z1]
theorem f25 {t : Nat} (hb : b < 13) (hR : RS R) (hI : I b = vI a) (hW : WO a) (h0 : a 0 < 2 ^ 30) (ht : t < a 1) (h1 : a (38 + t) = 1) (h2 : a (58 + 10 * frm a + t) < a (58 + 10 * bst a t + t)) : FF 25 [.ref (16 * b), .int (nI t)] (202, I, R) = some (some (.int (nI (mnC a t))), 202, up I b (vI (up (up a (58 + 10 * frm a + t) (mnC a t)) 12 (a 12 + a 7))), R) := by
  have ho := os hb
  have hT := hW.tp
  have e := b2_t (nI_iT ht (by omega))
  have hf : frm a < 6 := hW.ro _ (Nat.mod_lt _ (by decide))
  have hbt := bst_lt (a := a) (t := t)
  have l1 := hW.lv (frm a) t hf (by omega)
  have l2 := hW.lv (bst a t) t hbt (by omega)
  have g1 := f26 hb hR hI h0
  rw [show a (14 + a 0 % 12) = frm a from rfl] at g1
  have g2 := f27 (R := R) (t := t) hb hR hI hW (by omega)
  have g3 := f23 (R := R) (t := t) hb hR hI hW hf (by omega)
  have g4 := f23 (R := R) (t := t) hb hR hI hW hbt (by omega)
  have g5 := f19 (R := R) (t := t) hb hI hW (by omega)
  have em : (a (58 + 10 * frm a + t) + a (58 + 10 * bst a t + t) + 1) / 2 = mnC a t := rfl
  have g6 := f24 (R := R) (t := t) (x := mnC a t) hb hR hI hW hf ht
  have n1 : ∀ x, up a (58 + 10 * frm a + t) x 12 = a 12 := fun x => up_ne (by omega)
  have n2 : ∀ x, up a (58 + 10 * frm a + t) x 7 = a 7 := fun x => up_ne (by omega)
  simp (disch := first | omega | (show List.length _ ≤ 4; exact Nat.le_of_ble_eq_true rfl) | assumption | exact nbo_0 | exact nbo_1 | exact b2_b) only [FE25, s25_0, s25_1, s25_2, s25_5, s25_8, s25_9, s25_10, s25_11, s25_14, s25_15, s25_16, s25_17, s25_18, s25_21, s25_22, s25_23, s25_24, s25_25, s25_28, s25_29, s25_32, s25_34, s25_35, s25_36, s25_39, s25_42, s25_44, s25_45, s25_48, s25_50, s25_51, s25_52, s25_54, s25_55, s25_56, s25_57, s25_58, s25_59, s25_61, s25_62, s25_63, s25_64, s25_66, s25_69, s25_70i, s25_70r, s25_71, s25_74, s25_75, s25_78, s25_79, s25_80, s25_81, s25_84, s25_86, ↓reduceIte, psh_some, psh_none, cln_i, cln_r, cln_n, cln_l, cln_d, cln_f, Option.bind_some, Option.bind_none, if_true, if_false, nI_add, pk_mul, nbo_0, nbo_1, nI_leI, nI_ltI, nI_eq, Nat.reduceAdd, Nat.reduceMul, Nat.add_zero, Nat.mul_zero, up_at, up_up, up_vI, vI_at, f18t hb hI, e, z0, z1, g1, g2, g3, g4, g5, b2_if, h1, h2, em, g6, gs_16 hb, ps_16 hb, gs_0 hb hR, as_1 hb, n1, n2]
end C1
