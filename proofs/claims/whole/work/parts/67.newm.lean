/-! ===== the model is made ===== -/
section NM
variable {I : Nat → Nat → Int32} {R : Nat → Nat → Option Nat} {n k : Nat}
theorem pmr {x : Nat} (hn : 202 < n) (hk : k < 11) (h0 : fk 4 k = 0) (h1 : x < 1000) (h2 : pos x < n) : pfI n I R 3 k 224 (.ref x) = some (I, wR R 224 k (some x)) := by
  unfold pfI
  rw [if_pos ⟨rfl, by decide, by show 202 < n; exact hn, hk, by decide⟩, h0]
  show (if x < 1000 ∧ pos x < n then _ else _) = _
  rw [if_pos ⟨h1, h2⟩]
def nmR (R : Nat → Nat → Option Nat) (a k : Nat) : Nat → Nat → Option Nat := wR (bnR R a) 224 k (some a)
theorem nmR_at {a : Nat} (ha : 224 < a) : nmR R a k 224 = up (R 224) k (some a) := by
  unfold nmR wR bnR
  rw [up_at, up_ne (show 224 ≠ a by omega)]
theorem nmR_ne {a x : Nat} (h1 : x ≠ 224) (h2 : x ≠ a) : nmR R a k x = R x := by
  unfold nmR wR bnR
  rw [up_ne h1, up_ne h2]
theorem bnI_227 (hz : ∀ v, 40 ≤ v → v < 46 → ∀ x, I v x = 0) : bnI I 227 = I := by
  unfold bnI
  rw [if_neg (by decide), if_pos (by decide)]
  funext v x
  simp only [if_true]
  split
  · rename_i e
    rw [hz v e.1 e.2.1 x]
  · rfl
theorem bnI_228 (hz : ∀ v, 50 ≤ v → v < 52 → ∀ x, I v x = 0) : bnI I 228 = I := by
  unfold bnI
  rw [if_neg (by decide), if_pos (by decide)]
  funext v x
  simp only [show ¬ (228 : Nat) = 227 by decide, if_false, if_true]
  split
  · rename_i e
    rw [hz v e.1 e.2.1 x]
  · rfl
theorem cpV_eq (V : Nat → Int32) : up (up (up (up (up (up V 2 (nI 50)) 3 (nI 5)) 4 (nI 10)) 5 (nI 8)) 6 (nI 3)) 7 (nI 40) = cpV V := by
  funext k
  unfold cpV
  by_cases h1 : 2 ≤ k ∧ k < 8
  · rcases (show k = 2 ∨ k = 3 ∨ k = 4 ∨ k = 5 ∨ k = 6 ∨ k = 7 by omega) with rfl | rfl | rfl | rfl | rfl | rfl <;> rfl
  · rw [if_neg (by omega), up_ne (by omega), up_ne (by omega), up_ne (by omega), up_ne (by omega), up_ne (by omega), up_ne (by omega)]
theorem f80 (h225 : ∀ x, I 225 x = 0) (h226 : ∀ x, I 226 x = 0) (h32 : ∀ x, I 32 x = 0) (h33 : ∀ x, I 33 x = 0) (h40 : ∀ v, 40 ≤ v → v < 46 → ∀ x, I v x = 0) (h50 : ∀ v, 50 ≤ v → v < 52 → ∀ x, I v x = 0) : ∃ R', FF 80 [.ref 224] (203, I, R) = some (none, 210, up I 225 (vI st0), R') ∧ RM R' ∧ ∀ x, x < 224 → R' x = R x := by
  have b225 : ∀ R, bn (203, I, R) = (204, I, bnR R 225) := fun R => by
    show (204, bnI I 225, bnR R 225) = _
    rw [bnI_0arr (by decide) (by decide) (by decide) (by decide) (fun x _ _ => h225 x)]
  have b226 : ∀ R, bn (204, I, R) = (205, I, bnR R 226) := fun R => by
    show (205, bnI I 226, bnR R 226) = _
    rw [bnI_0arr (by decide) (by decide) (by decide) (by decide) (fun x _ _ => h226 x)]
  have b227 : ∀ R, bn (205, I, R) = (206, I, bnR R 227) := fun R => by
    show (206, bnI I 227, bnR R 227) = _
    rw [bnI_227 h40]
  have b228 : ∀ R, bn (206, I, R) = (207, I, bnR R 228) := fun R => by
    show (207, bnI I 228, bnR R 228) = _
    rw [bnI_228 h50]
  have b229 : ∀ R, bn (207, I, R) = (208, I, bnR R 229) := fun R => by
    show (208, bnI I 229, bnR R 229) = _
    rw [bnI_0arr (by decide) (by decide) (by decide) (by decide) (fun x _ _ => h32 x)]
  have b230 : ∀ R, bn (208, I, R) = (209, I, bnR R 230) := fun R => by
    show (209, bnI I 230, bnR R 230) = _
    rw [bnI_0arr (by decide) (by decide) (by decide) (by decide) (fun x _ _ => h32 x)]
  have b231 : ∀ R, bn (209, I, R) = (210, I, bnR R 231) := fun R => by
    show (210, bnI I 231, bnR R 231) = _
    rw [bnI_0arr (by decide) (by decide) (by decide) (by decide) (fun x _ _ => h33 x)]
  have n1 : (203 : Nat) < 210 ∧ kd (adr 203) = 5 ∧ ¬ nI 148 < 0 ∧ (nI 148).toNatClampNeg = ln (adr 203) := by decide +kernel
  have n2 : (204 : Nat) < 210 ∧ kd (adr 204) = 5 ∧ ¬ nI 148 < 0 ∧ (nI 148).toNatClampNeg = ln (adr 204) := by decide +kernel
  have n3 : (205 : Nat) < 210 ∧ kd (adr 205) = 5 ∧ ¬ nI 888 < 0 ∧ (nI 888).toNatClampNeg = ln (adr 205) := by decide +kernel
  have n4 : (206 : Nat) < 210 ∧ kd (adr 206) = 5 ∧ ¬ nI 296 < 0 ∧ (nI 296).toNatClampNeg = ln (adr 206) := by decide +kernel
  have n5 : (207 : Nat) < 210 ∧ kd (adr 207) = 7 ∧ ¬ nI 2 < 0 ∧ (nI 2).toNatClampNeg = ln (adr 207) := by decide +kernel
  have n6 : (208 : Nat) < 210 ∧ kd (adr 208) = 5 ∧ ¬ nI 80 < 0 ∧ (nI 80).toNatClampNeg = ln (adr 208) := by decide +kernel
  have n7 : (209 : Nat) < 210 ∧ kd (adr 209) = 5 ∧ ¬ nI 164 < 0 ∧ (nI 164).toNatClampNeg = ln (adr 209) := by decide +kernel
  have a1 : adr 203 = 225 := rfl
  have a2 : adr 204 = 226 := rfl
  have a3 : adr 205 = 227 := rfl
  have a4 : adr 206 = 228 := rfl
  have a5 : adr 207 = 229 := rfl
  have a6 : adr 208 = 230 := rfl
  have a7 : adr 209 = 231 := rfl
  have p1 := fun R => pmr (I := I) (R := R) (n := 204) (k := 0) (x := 225) (by decide) (by decide) rfl (by decide) (by decide)
  have p2 := fun R => pmr (I := I) (R := R) (n := 205) (k := 1) (x := 226) (by decide) (by decide) rfl (by decide) (by decide)
  have p3 := fun R => pmr (I := I) (R := R) (n := 206) (k := 2) (x := 227) (by decide) (by decide) rfl (by decide) (by decide)
  have p4 := fun R => pmr (I := I) (R := R) (n := 207) (k := 4) (x := 228) (by decide) (by decide) rfl (by decide) (by decide)
  have p5 := fun R => pmr (I := I) (R := R) (n := 208) (k := 5) (x := 229) (by decide) (by decide) rfl (by decide) (by decide)
  have p6 := fun R => pmr (I := I) (R := R) (n := 209) (k := 6) (x := 230) (by decide) (by decide) rfl (by decide) (by decide)
  have p7 := fun R => pmr (I := I) (R := R) (n := 210) (k := 9) (x := 231) (by decide) (by decide) rfl (by decide) (by decide)
  have sA : FF 80 [.ref 224] (203, I, R) = EE 80 64 [some (.ref 224), none] [] (210, I, nmR (nmR (nmR (nmR (nmR (nmR (nmR R 225 0) 226 1) 227 2) 228 4) 229 5) 230 6) 231 9) := by
    simp (disch := first | omega | (show List.length _ ≤ 4; exact Nat.le_of_ble_eq_true rfl) | assumption | exact nbo_0 | exact nbo_1 | exact b2_b) only [FE80, s80_0, s80_1, s80_4, s80_5, s80_8, s80_10, s80_13, s80_14, s80_17, s80_19, s80_22, s80_23, s80_26, s80_28, s80_31, s80_32, s80_35, s80_37, s80_40, s80_41, s80_42, s80_44, s80_47, s80_48, s80_50, s80_52, s80_55, s80_56, s80_59, s80_61, ↓reduceIte, psh_some, psh_none, cln_i, cln_r, cln_n, cln_l, cln_d, cln_f, Option.bind_some, Option.bind_none, if_true, if_false, nI_add, pk_mul, nbo_0, nbo_1, nI_leI, nI_ltI, nI_eq, Nat.reduceAdd, Nat.reduceMul, Nat.add_zero, Nat.mul_zero, b225, b226, b227, b228, b229, b230, b231, a1, a2, a3, a4, a5, a6, a7, p1, p2, p3, p4, p5, p6, p7]
    rfl
  have row : nmR (nmR (nmR (nmR (nmR (nmR (nmR R 225 0) 226 1) 227 2) 228 4) 229 5) 230 6) 231 9 224 = up (up (up (up (up (up (up (R 224) 0 (some 225)) 1 (some 226)) 2 (some 227)) 4 (some 228)) 5 (some 229)) 6 (some 230)) 9 (some 231) := by
    rw [nmR_at (by decide), nmR_at (by decide), nmR_at (by decide), nmR_at (by decide), nmR_at (by decide), nmR_at (by decide), nmR_at (by decide)]
  have hRM : RM (nmR (nmR (nmR (nmR (nmR (nmR (nmR R 225 0) 226 1) 227 2) 228 4) 229 5) 230 6) 231 9) := by
    unfold RM
    rw [row]
    exact ⟨rfl, rfl, rfl, rfl, rfl, rfl, rfl⟩
  have fr : ∀ x, x < 224 → nmR (nmR (nmR (nmR (nmR (nmR (nmR R 225 0) 226 1) 227 2) 228 4) 229 5) 230 6) 231 9 x = R x := fun x hx => by
    rw [nmR_ne (by omega) (by omega), nmR_ne (by omega) (by omega), nmR_ne (by omega) (by omega), nmR_ne (by omega) (by omega), nmR_ne (by omega) (by omega), nmR_ne (by omega) (by omega), nmR_ne (by omega) (by omega)]
  generalize nmR (nmR (nmR (nmR (nmR (nmR (nmR R 225 0) 226 1) 227 2) 228 4) 229 5) 230 6) 231 9 = RR at *
  refine ⟨RR, ?_, hRM, fr⟩
  have hv : (225 : Nat) = 225 ∨ (225 : Nat) = 226 := Or.inl rfl
  have c2 := cm_n (a := 225) (k := 2) hv (by decide)
  have c3 := cm_n (a := 225) (k := 3) hv (by decide)
  have c4 := cm_n (a := 225) (k := 4) hv (by decide)
  have c5 := cm_n (a := 225) (k := 5) hv (by decide)
  have c6 := cm_n (a := 225) (k := 6) hv (by decide)
  have c7 := cm_n (a := 225) (k := 7) hv (by decide)
  have sB : EE 80 64 [some (.ref 224), none] [] (210, I, RR) = EE 80 114 [some (.ref 224), some (.int (nI 0))] [] (210, up I 225 (cpV (I 225)), RR) := by
    rw [← cpV_eq]
    simp (disch := first | omega | (show List.length _ ≤ 4; exact Nat.le_of_ble_eq_true rfl) | assumption | exact nbo_0 | exact nbo_1 | exact b2_b) only [s80_64, s80_65, s80_68, s80_69, s80_71, s80_72, s80_73, s80_76, s80_77, s80_78, s80_79, s80_80, s80_83, s80_84, s80_86, s80_87, s80_88, s80_91, s80_92, s80_94, s80_95, s80_96, s80_99, s80_101, s80_102, s80_103, s80_104, s80_107, s80_109, s80_111, s80_112, s80_113, ↓reduceIte, psh_some, psh_none, cln_i, cln_r, cln_n, cln_l, cln_d, cln_f, Option.bind_some, Option.bind_none, if_true, if_false, nI_add, pk_mul, nbo_0, nbo_1, nI_leI, nI_ltI, nI_eq, Nat.reduceAdd, Nat.reduceMul, Nat.add_zero, Nat.mul_zero, up_at, up_up, gm_0 hRM, wm_n hv]
  have sC := fd_loop (E := fun i V => EE 80 114 [some (.ref 224), some (.int (nI i))] [] (210, up I 225 V, RR)) (f := rsF) (Inv := fun _ _ => True) 12 (by
    intro i V hi _
    refine ⟨?_, trivial⟩
    have e : ¬ 12 ≤ i := by omega
    have d1 := cm_n (a := 225) (k := 14 + i) hv (by omega)
    have d2 := cm_n (a := 225) (k := 26 + i) hv (by omega)
    show EE 80 114 _ _ _ = EE 80 114 _ _ _
    rw [s80_114]
    simp (disch := first | omega | (show List.length _ ≤ 4; exact Nat.le_of_ble_eq_true rfl) | assumption | exact nbo_0 | exact nbo_1 | exact b2_b) only [s80_115, s80_117, s80_120, s80_121, s80_124, s80_126, s80_127, s80_128, s80_129, s80_130, s80_131, s80_132, s80_133, s80_136, s80_138, s80_139, s80_140, s80_142, s80_143, s80_146, ↓reduceIte, psh_some, psh_none, cln_i, cln_r, cln_n, cln_l, cln_d, cln_f, Option.bind_some, Option.bind_none, if_true, if_false, nI_add, pk_mul, nbo_0, nbo_1, nI_leI, nI_ltI, nI_eq, Nat.reduceAdd, Nat.reduceMul, Nat.add_zero, Nat.mul_zero, up_at, up_up, gm_0 hRM, wm_n hv, e]
    rfl) 12 0 (cpV (I 225)) (by decide) trivial
  rw [st0_eq h225] at sC
  rw [sA, sB]
  refine sC.1.trans ?_
  show EE 80 114 [some (.ref 224), some (.int (nI 12))] [] (210, up I 225 (vI st0), RR) = _
  rw [s80_114]
  simp (disch := first | omega | (show List.length _ ≤ 4; exact Nat.le_of_ble_eq_true rfl) | assumption | exact nbo_0 | exact nbo_1 | exact b2_b) only [s80_115, s80_117, s80_149, ↓reduceIte, psh_some, psh_none, cln_i, cln_r, cln_n, cln_l, cln_d, cln_f, Option.bind_some, Option.bind_none, if_true, if_false, nI_add, pk_mul, nbo_0, nbo_1, nI_leI, nI_ltI, nI_eq, Nat.reduceAdd, Nat.reduceMul, Nat.add_zero, Nat.mul_zero, Nat.le_refl]
end NM
