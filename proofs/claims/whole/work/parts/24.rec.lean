/-! ===== the model records ===== -/
def Zz (e : Nat → Nat) : Prop := ∀ k, 148 ≤ k → e k = 0
theorem f82 {I : Nat → Nat → Int32} {R : Nat → Nat → Option Nat} {a e : Nat → Nat} {src dst sAt dAt vs vd : Nat} (hne : vs ≠ vd) (hs1 : sAt < 2 ^ 20) (hd1 : dAt < 2 ^ 20) (hr : ∀ (J : Nat → Nat → Int32) k, k < 148 → ardI 5 210 J src (nI (sAt + k)) = some (J vs k)) (hw : ∀ (J : Nat → Nat → Int32) k x, k < 148 → wI J dst (nI (dAt + k)).toNatClampNeg x = up J vd (up (J vd) k x)) (hc : ∀ k, k < 148 → acI 5 210 dst (nI (dAt + k))) (hS : I vs = vI a) (hD : I vd = vI e) (ha : Zz a) (he : Zz e) : FF 82 [.ref src, .int (nI sAt), .ref dst, .int (nI dAt)] (210, I, R) = some (none, 210, up I vd (vI a), R) := by
  have main := fd_loop (E := fun i s => EE 82 3 [some (.ref src), some (.int (nI sAt)), some (.ref dst), some (.int (nI dAt)), some (.int (nI i))] [] (210, up I vd (vI s), R)) (f := fun i s => mx a s i 1) (Inv := fun _ _ => True) 148 (by
    intro i s hi _
    refine ⟨?_, trivial⟩
    have hn : ¬ 148 ≤ i := by omega
    have h1 := hr (up I vd (vI s)) i hi
    rw [up_ne hne, hS] at h1
    have h2 := hw (up I vd (vI s)) i (nI (a i)) hi
    have h3 := hc i hi
    have h4 := mx_1 (a := a) (e := s) (o := i)
    show EE 82 3 _ _ _ = EE 82 3 _ _ _
    rw [s82_3]
    simp (disch := first | omega | (show List.length _ ≤ 4; exact Nat.le_of_ble_eq_true rfl) | assumption | exact nbo_0 | exact nbo_1 | exact b2_b) only [s82_0, s82_1, s82_5, s82_8, s82_11, s82_12, s82_13, s82_15, s82_16, s82_17, s82_18, s82_20, s82_21, s82_22, s82_23, s82_26, s82_29, ↓reduceIte, psh_some, psh_none, cln_i, cln_r, cln_n, cln_l, cln_d, cln_f, Option.bind_some, Option.bind_none, if_true, if_false, nI_add, pk_mul, nbo_0, nbo_1, nI_leI, nI_ltI, nI_eq, Nat.reduceAdd, Nat.reduceMul, Nat.add_zero, Nat.mul_zero, up_at, up_up, up_vI, vI_at, hn, h1, h2, h4]) 148 0 e (by decide) trivial
  obtain ⟨m1, _⟩ := main
  have key : ∀ d i (s : Nat → Nat) k, fd (fun i s => mx a s i 1) d i s k = if i ≤ k ∧ k < i + d then a k else s k := by
    intro d
    induction d with
    | zero => intro i s k; rw [if_neg (by omega)]; rfl
    | succ d ih =>
      intro i s k
      show fd (fun i s => mx a s i 1) d (i + 1) (mx a s i 1) k = _
      rw [ih]
      unfold mx
      by_cases h1 : i + 1 ≤ k ∧ k < i + 1 + d
      · rw [if_pos h1, if_pos (by omega)]
      · rw [if_neg h1]
        by_cases h2 : i ≤ k ∧ k < i + 1
        · rw [if_pos h2, if_pos (by omega)]
        · rw [if_neg h2, if_neg (by omega)]
  have hfin : fd (fun i s => mx a s i 1) 148 0 e = a := by
    funext k
    rw [key]
    by_cases h1 : 0 ≤ k ∧ k < 0 + 148
    · rw [if_pos h1]
    · rw [if_neg h1, he k (by omega), ha k (by omega)]
  rw [hfin] at m1
  have e0 : I = up I vd (vI e) := (up_eq hD).symm
  conv => lhs; rw [e0]
  have hq : FF 82 [.ref src, .int (nI sAt), .ref dst, .int (nI dAt)] (210, up I vd (vI e), R) = EE 82 3 [some (.ref src), some (.int (nI sAt)), some (.ref dst), some (.int (nI dAt)), some (.int (nI 0))] [] (210, up I vd (vI e), R) := by
    simp (disch := first | omega | (show List.length _ ≤ 4; exact Nat.le_of_ble_eq_true rfl) | assumption | exact nbo_0 | exact nbo_1 | exact b2_b) only [FE82, s82_0, s82_1, ↓reduceIte, psh_some, psh_none, cln_i, cln_r, cln_n, cln_l, cln_d, cln_f, Option.bind_some, Option.bind_none, if_true, if_false, nI_add, pk_mul, nbo_0, nbo_1, nI_leI, nI_ltI, nI_eq, Nat.reduceAdd, Nat.reduceMul, Nat.add_zero, Nat.mul_zero]
  rw [hq]
  refine m1.trans ?_
  show EE 82 3 _ _ _ = _
  have h9 : (148 : Nat) ≤ 148 := Nat.le_refl _
  rw [s82_3]
  simp (disch := first | omega | (show List.length _ ≤ 4; exact Nat.le_of_ble_eq_true rfl) | assumption | exact nbo_0 | exact nbo_1 | exact b2_b) only [s82_0, s82_1, s82_5, s82_8, s82_11, s82_12, s82_13, s82_15, s82_16, s82_17, s82_18, s82_20, s82_21, s82_22, s82_23, s82_26, s82_29, ↓reduceIte, psh_some, psh_none, cln_i, cln_r, cln_n, cln_l, cln_d, cln_f, Option.bind_some, Option.bind_none, if_true, if_false, nI_add, pk_mul, nbo_0, nbo_1, nI_leI, nI_ltI, nI_eq, Nat.reduceAdd, Nat.reduceMul, Nat.add_zero, Nat.mul_zero, h9]
section RC
variable {I : Nat → Nat → Int32} {R : Nat → Nat → Option Nat} {a e : Nat → Nat}
/-- lays between the model's arrays -/
theorem lay_np {u : Nat} (hu : u < 6) (hS : I 225 = vI a) (hD : I (40 + u) = vI e) (ha : Zz a) (he : Zz e) : FF 82 [.ref 225, .int (nI 0), .ref 227, .int (nI (148 * u))] (210, I, R) = some (none, 210, up I (40 + u) (vI a), R) := by
  refine f82 (src := 225) (dst := 227) (vs := 225) (by omega) (by omega) (by omega) ?_ ?_ ?_ hS hD ha he
  · intro J k hk
    rw [Nat.zero_add]
    exact am_n (Or.inl rfl) hk
  · intro J k x hk
    rw [wm_p (by omega), show (148 * u + k) / 148 = u by omega, show (148 * u + k) % 148 = k by omega]
  · intro k hk
    exact cm_p (by omega)
theorem lay_pn {u : Nat} (hu : u < 6) (hS : I (40 + u) = vI a) (hD : I 225 = vI e) (ha : Zz a) (he : Zz e) : FF 82 [.ref 227, .int (nI (148 * u)), .ref 225, .int (nI 0)] (210, I, R) = some (none, 210, up I 225 (vI a), R) := by
  refine f82 (src := 227) (dst := 225) (vs := 40 + u) (by omega) (by omega) (by omega) ?_ ?_ ?_ hS hD ha he
  · intro J k hk
    rw [am_p (by omega), show (148 * u + k) / 148 = u by omega, show (148 * u + k) % 148 = k by omega]
  · intro J k x hk
    rw [Nat.zero_add]
    exact wm_n (Or.inl rfl) (by omega)
  · intro k hk
    rw [Nat.zero_add]
    exact cm_n (Or.inl rfl) hk
theorem lay_ns {u : Nat} (hu : u < 2) (hS : I 225 = vI a) (hD : I (50 + u) = vI e) (ha : Zz a) (he : Zz e) : FF 82 [.ref 225, .int (nI 0), .ref 228, .int (nI (148 * u))] (210, I, R) = some (none, 210, up I (50 + u) (vI a), R) := by
  refine f82 (src := 225) (dst := 228) (vs := 225) (by omega) (by omega) (by omega) ?_ ?_ ?_ hS hD ha he
  · intro J k hk
    rw [Nat.zero_add]
    exact am_n (Or.inl rfl) hk
  · intro J k x hk
    rw [wm_s (by omega), show (148 * u + k) / 148 = u by omega, show (148 * u + k) % 148 = k by omega]
  · intro k hk
    exact cm_s (by omega)
theorem lay_sn {u : Nat} (hu : u < 2) (hS : I (50 + u) = vI a) (hD : I 225 = vI e) (ha : Zz a) (he : Zz e) : FF 82 [.ref 228, .int (nI (148 * u)), .ref 225, .int (nI 0)] (210, I, R) = some (none, 210, up I 225 (vI a), R) := by
  refine f82 (src := 228) (dst := 225) (vs := 50 + u) (by omega) (by omega) (by omega) ?_ ?_ ?_ hS hD ha he
  · intro J k hk
    rw [am_s (by omega), show (148 * u + k) / 148 = u by omega, show (148 * u + k) % 148 = k by omega]
  · intro J k x hk
    rw [Nat.zero_add]
    exact wm_n (Or.inl rfl) (by omega)
  · intro k hk
    rw [Nat.zero_add]
    exact cm_n (Or.inl rfl) hk
theorem lay_nt (hS : I 225 = vI a) (hD : I 226 = vI e) (ha : Zz a) (he : Zz e) : FF 82 [.ref 225, .int (nI 0), .ref 226, .int (nI 0)] (210, I, R) = some (none, 210, up I 226 (vI a), R) := by
  refine f82 (src := 225) (dst := 226) (vs := 225) (by omega) (by omega) (by omega) ?_ ?_ ?_ hS hD ha he
  · intro J k hk
    rw [Nat.zero_add]
    exact am_n (Or.inl rfl) hk
  · intro J k x hk
    rw [Nat.zero_add]
    exact wm_n (Or.inr rfl) (by omega)
  · intro k hk
    rw [Nat.zero_add]
    exact cm_n (Or.inr rfl) hk
/-- the past, pushed on by k numbers -/
def shI (I : Nat → Nat → Int32) (k : Nat) : Nat → Nat → Int32 := fun v j => if 40 ≤ v ∧ v < 45 ∧ j < 148 ∧ 148 * (v - 40) + j < k then I (v + 1) j else I v j
theorem shI_s {k : Nat} (hk : k < 740) : up (shI I k) (40 + k / 148) (up (shI I k (40 + k / 148)) (k % 148) (I (40 + (k / 148 + 1)) (k % 148))) = shI I (k + 1) := by
  funext v j
  unfold up
  show (if v = 40 + k / 148 then (fun j => if j = k % 148 then I (40 + (k / 148 + 1)) (k % 148) else shI I k (40 + k / 148) j) else shI I k v) j = shI I (k + 1) v j
  by_cases hv : v = 40 + k / 148
  · subst hv
    rw [if_pos rfl]
    show (if j = k % 148 then I (40 + (k / 148 + 1)) (k % 148) else shI I k (40 + k / 148) j) = _
    by_cases hj : j = k % 148
    · subst hj
      rw [if_pos rfl]
      unfold shI
      rw [if_pos (by omega)]
      rfl
    · rw [if_neg hj]
      unfold shI
      by_cases h1 : 40 ≤ 40 + k / 148 ∧ 40 + k / 148 < 45 ∧ j < 148 ∧ 148 * (40 + k / 148 - 40) + j < k
      · rw [if_pos h1, if_pos (by omega)]
      · rw [if_neg h1, if_neg (by omega)]
  · rw [if_neg hv]
    unfold shI
    by_cases h1 : 40 ≤ v ∧ v < 45 ∧ j < 148 ∧ 148 * (v - 40) + j < k
    · rw [if_pos h1, if_pos (by omega)]
    · rw [if_neg h1, if_neg (by omega)]
end RC
