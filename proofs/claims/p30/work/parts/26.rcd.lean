/-! ===== the class records ===== -/
/-- the references: now, before, the history; all else as at the start -/
def QR (R : Nat → Nat → Option Nat) (nw bf : Nat) (h : Nat → Nat) : Nat → Nat → Option Nat := fun x k => if x = 208 then (if k = 0 then some (16 * nw) else if k = 1 then some (16 * bf) else R 208 k) else if x = 209 then (if k < 6 then some (16 * h k) else R 209 k) else R x k
/-- the other references of the desk -/
def BR (R : Nat → Nat → Option Nat) : Prop := (R 208 2 = some 209 ∧ R 208 4 = some 210 ∧ R 208 5 = some 211 ∧ R 208 6 = some 212 ∧ R 208 7 = some 160 ∧ R 208 8 = some 176 ∧ R 208 9 = some 192) ∧ (∀ i, i < 2 → R 210 i = some (16 * (8 + i))) ∧ (R 212 0 = some 213 ∧ R 212 1 = some 214) ∧ RS R ∧ RM R
def PP (nw bf : Nat) (h : Nat → Nat) : Prop := nw < 8 ∧ bf < 8 ∧ nw ≠ bf ∧ (∀ i, i < 6 → h i < 8 ∧ h i ≠ nw ∧ h i ≠ bf) ∧ ∀ i j, i < j → j < 6 → h i ≠ h j
section QQ
variable {I : Nat → Nat → Int32} {R : Nat → Nat → Option Nat} {nw bf : Nat} {h : Nat → Nat}
theorem QR_RS (hR : RS R) : RS (QR R nw bf h) := by
  intro b hb
  have e : ∀ x k, x ≠ 208 → x ≠ 209 → QR R nw bf h x k = R x k := fun x k h1 h2 => by unfold QR; rw [if_neg h1, if_neg h2]
  refine ⟨?_, ?_⟩
  · rw [e _ _ (by omega) (by omega), e _ _ (by omega) (by omega), e _ _ (by omega) (by omega), e _ _ (by omega) (by omega), e _ _ (by omega) (by omega), e _ _ (by omega) (by omega), e _ _ (by omega) (by omega), e _ _ (by omega) (by omega)]
    exact (hR b hb).1
  · intro w hw
    rw [e _ _ (by omega) (by omega)]
    exact (hR b hb).2 w hw
theorem QR_RM (hR : RM R) : RM (QR R nw bf h) := hR
theorem wq_h {k x : Nat} (hk : k < 6) : wR (QR R nw bf h) 209 k (some (16 * x)) = QR R nw bf (up h k x) := by
  funext y j
  unfold wR up
  show (if y = 209 then (fun j => if j = k then some (16 * x) else QR R nw bf h 209 j) else QR R nw bf h y) j = _
  by_cases hy : y = 209
  · subst hy
    rw [if_pos rfl]
    show (if j = k then some (16 * x) else (if j < 6 then some (16 * h j) else R 209 j)) = (if j < 6 then some (16 * (if j = k then x else h j)) else R 209 j)
    by_cases hj : j = k
    · rw [if_pos hj, if_pos (by omega), if_pos hj]
    · rw [if_neg hj]
      by_cases h6 : j < 6
      · rw [if_pos h6, if_pos h6, if_neg hj]
      · rw [if_neg h6, if_neg h6]
  · rw [if_neg hy]
    unfold QR
    by_cases h8 : y = 208
    · rw [if_pos h8, if_pos h8]
    · rw [if_neg h8, if_neg h8, if_neg hy, if_neg hy]
theorem wq_b {x : Nat} : wR (QR R nw bf h) 208 1 (some (16 * x)) = QR R nw x h := by
  funext y j
  unfold wR up
  show (if y = 208 then (fun j => if j = 1 then some (16 * x) else QR R nw bf h 208 j) else QR R nw bf h y) j = _
  by_cases hy : y = 208
  · subst hy
    rw [if_pos rfl]
    show (if j = 1 then some (16 * x) else QR R nw bf h 208 j) = QR R nw x h 208 j
    unfold QR
    rw [if_pos rfl, if_pos rfl]
    by_cases hj : j = 1
    · rw [if_pos hj, if_neg (by omega), if_pos hj]
    · rw [if_neg hj]
      by_cases h0 : j = 0
      · rw [if_pos h0, if_pos h0]
      · rw [if_neg h0, if_neg h0, if_neg hj, if_neg hj]
  · rw [if_neg hy]
    unfold QR
    rw [if_neg hy, if_neg hy]
theorem wq_n {x : Nat} : wR (QR R nw bf h) 208 0 (some (16 * x)) = QR R x bf h := by
  funext y j
  unfold wR up
  show (if y = 208 then (fun j => if j = 0 then some (16 * x) else QR R nw bf h 208 j) else QR R nw bf h y) j = _
  by_cases hy : y = 208
  · subst hy
    rw [if_pos rfl]
    show (if j = 0 then some (16 * x) else QR R nw bf h 208 j) = QR R x bf h 208 j
    unfold QR
    rw [if_pos rfl, if_pos rfl]
    by_cases hj : j = 0
    · rw [if_pos hj, if_pos hj]
    · rw [if_neg hj, if_neg hj, if_neg hj]
  · rw [if_neg hy]
    unfold QR
    rw [if_neg hy, if_neg hy]
theorem gd_r {k a : Nat} (hk : k < 10) (h0 : fk 3 k = 0) (hh : R 208 k = some a) : gfI 202 I R 2 k 208 = some (.ref a) := by
  unfold gfI
  rw [if_neg (by decide), if_pos ⟨by decide, by decide, by decide, hk⟩]
  unfold fv
  rw [show kd 208 = 3 from rfl, h0]
  show some (va_rf (R 208 k)) = _
  rw [hh]
  rfl
theorem gd_0 : gfI 202 I (QR R nw bf h) 2 0 208 = some (.ref (16 * nw)) := gd_r (by decide) rfl rfl
theorem gd_1 : gfI 202 I (QR R nw bf h) 2 1 208 = some (.ref (16 * bf)) := gd_r (by decide) rfl rfl
theorem gd_2 (hB : BR R) : gfI 202 I (QR R nw bf h) 2 2 208 = some (.ref 209) := gd_r (by decide) rfl hB.1.1
theorem gd_3 : gfI 202 I R 2 3 208 = some (.int (I 20 0)) := rfl
theorem gd_4 (hB : BR R) : gfI 202 I (QR R nw bf h) 2 4 208 = some (.ref 210) := gd_r (by decide) rfl hB.1.2.1
theorem gd_5 (hB : BR R) : gfI 202 I (QR R nw bf h) 2 5 208 = some (.ref 211) := gd_r (by decide) rfl hB.1.2.2.1
theorem gd_6 (hB : BR R) : gfI 202 I (QR R nw bf h) 2 6 208 = some (.ref 212) := gd_r (by decide) rfl hB.1.2.2.2.1
theorem gd_7 (hB : BR R) : gfI 202 I (QR R nw bf h) 2 7 208 = some (.ref (16 * 10)) := gd_r (by decide) rfl hB.1.2.2.2.2.1
theorem gd_8 (hB : BR R) : gfI 202 I (QR R nw bf h) 2 8 208 = some (.ref (16 * 11)) := gd_r (by decide) rfl hB.1.2.2.2.2.2.1
theorem gd_9 (hB : BR R) : gfI 202 I (QR R nw bf h) 2 9 208 = some (.ref (16 * 12)) := gd_r (by decide) rfl hB.1.2.2.2.2.2.2
theorem pd_3 {x : Int32} : pfI 202 I R 2 3 208 (.int x) = some (up I 20 (up (I 20) 0 x), R) := rfl
theorem pd_1 {x : Nat} (hx : x < 13) : pfI 202 I (QR R nw bf h) 2 1 208 (.ref (16 * x)) = some (I, QR R nw x h) := by
  obtain ⟨h1, h2, h3, h4, -⟩ := st_is hx
  unfold pfI
  rw [if_pos ⟨by decide, by decide, by decide, by decide, by decide⟩]
  show (if 16 * x < 1000 ∧ pos (16 * x) < 202 then some (I, wR (QR R nw bf h) 208 1 (some (16 * x))) else none) = _
  rw [if_pos ⟨h3, h4⟩, wq_b]
theorem pd_0 {x : Nat} (hx : x < 13) : pfI 202 I (QR R nw bf h) 2 0 208 (.ref (16 * x)) = some (I, QR R x bf h) := by
  obtain ⟨h1, h2, h3, h4, -⟩ := st_is hx
  unfold pfI
  rw [if_pos ⟨by decide, by decide, by decide, by decide, by decide⟩]
  show (if 16 * x < 1000 ∧ pos (16 * x) < 202 then some (I, wR (QR R nw bf h) 208 0 (some (16 * x))) else none) = _
  rw [if_pos ⟨h3, h4⟩, wq_n]
theorem od : isO "HandoverDesk" 202 208 = true := by decide +kernel
theorem hi_c {k : Nat} (hk : k < 6) : 8 ≤ kd 209 ∧ 209 < 1000 ∧ pos 209 < 202 ∧ inb (nI k) (ln 209) := ⟨by decide, by decide, by decide, nI_inb hk (by decide)⟩
theorem hi_v {k : Nat} (hk : k < 6) : va_rf (QR R nw bf h 209 (nI k).toNatClampNeg) = .ref (16 * h k) := by
  rw [nI_clamp (by omega)]
  show va_rf (if k < 6 then some (16 * h k) else R 209 k) = _
  rw [if_pos hk]
  rfl
theorem hi_w {k x : Nat} (hk : k < 6) (hx : x < 13) : kd 209 = 8 ∧ 209 < 1000 ∧ pos 209 < 202 ∧ inb (nI k) (ln 209) ∧ kd (16 * x) = 2 ∧ 16 * x < 1000 ∧ pos (16 * x) < 202 := by
  obtain ⟨h1, h2, h3, h4, -⟩ := st_is hx
  exact ⟨by decide, by decide, by decide, nI_inb hk (by decide), h1, h3, h4⟩
theorem hi_s {k x : Nat} (hk : k < 6) : wR (QR R nw bf h) 209 (nI k).toNatClampNeg (some (16 * x)) = QR R nw bf (up h k x) := by
  rw [nI_clamp (by omega), wq_h hk]
theorem f46e {x : Int32} (hx : x < 0) {M : Mm} : FF 46 [.ref 208, .int x] M = some (some (.int x), M) := by
  have h1 : ¬ 0 ≤ x := Int32.not_le.mpr hx
  simp (disch := first | omega | (show List.length _ ≤ 4; exact Nat.le_of_ble_eq_true rfl) | assumption | exact nbo_0 | exact nbo_1 | exact b2_b) only [FE46, s46_0, s46_1, s46_4, s46_5, ↓reduceIte, psh_some, psh_none, cln_i, cln_r, cln_n, cln_l, cln_d, cln_f, Option.bind_some, Option.bind_none, if_true, if_false, nI_add, pk_mul, nbo_0, nbo_1, nI_leI, nI_ltI, nI_eq, Nat.reduceAdd, Nat.reduceMul, Nat.add_zero, Nat.mul_zero, h1]
theorem p46 {r : Int32} {u : Nat} (hB : BR R) (hP : PP nw bf h) (hu : u < 6) (hI : I 20 0 = nI u) {l2 : Option Value} : EE 46 19 [some (.ref 208), some (.int r), l2] [] (202, I, QR R nw bf h) = some (some (.int r), 202, up I 20 (up (I 20) 0 (nI (u + 1))), QR R nw (h u) (up h u bf)) := by
  have ho := od
  have hb := hP.2.1
  have hh := (hP.2.2.2.1 u hu).1
  have c1 := hi_c hu
  have c2 := hi_v (R := R) (nw := nw) (bf := bf) (h := h) hu
  have c3 := hi_w (x := bf) hu (by omega)
  have c4 := hi_s (R := R) (nw := nw) (bf := bf) (h := h) (x := bf) hu
  have p1 := fun h' bf' => pd_1 (I := I) (R := R) (nw := nw) (bf := bf') (h := h') (x := h u) (by omega)
  simp (disch := first | omega | (show List.length _ ≤ 4; exact Nat.le_of_ble_eq_true rfl) | assumption | exact nbo_0 | exact nbo_1 | exact b2_b) only [s46_19, s46_20, s46_23, s46_24, s46_27, s46_28, s46_29, s46_30, s46_33, s46_34, s46_37, s46_38, s46_41, s46_42, s46_43, s46_44, s46_47, s46_48i, s46_48r, s46_49, s46_52, s46_53, s46_54, s46_57, s46_58, ↓reduceIte, psh_some, psh_none, cln_i, cln_r, cln_n, cln_l, cln_d, cln_f, Option.bind_some, Option.bind_none, if_true, if_false, nI_add, pk_mul, nbo_0, nbo_1, nI_leI, nI_ltI, nI_eq, Nat.reduceAdd, Nat.reduceMul, Nat.add_zero, Nat.mul_zero, gd_1, gd_2 hB, gd_3, pd_3, hI, c1, c2, c3, c4, p1]
end QQ
