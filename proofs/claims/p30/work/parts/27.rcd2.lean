/-! ===== the class records, 2 ===== -/
def dhF (i : Nat) (g : Nat → Nat) : Nat → Nat := up g (i - 1) (g i)
def dh (h : Nat → Nat) : Nat → Nat := fun i => if i < 5 then h (i + 1) else if i = 5 then h 0 else h i
theorem dh_eq (h : Nat → Nat) : up (fd dhF 5 1 h) 5 (h 0) = dh h := by
  funext i
  by_cases hi : i < 6
  · rcases (show i = 0 ∨ i = 1 ∨ i = 2 ∨ i = 3 ∨ i = 4 ∨ i = 5 by omega) with rfl | rfl | rfl | rfl | rfl | rfl <;> rfl
  · unfold dh
    rw [if_neg (by omega), if_neg (by omega), up_ne (by omega)]
    show up (up (up (up (up h 0 _) 1 _) 2 _) 3 _) 4 _ i = h i
    rw [up_ne (by omega), up_ne (by omega), up_ne (by omega), up_ne (by omega), up_ne (by omega)]
/-- the desk's past -/
def CD (I : Nat → Nat → Int32) (bf : Nat) (h : Nat → Nat) (u : Nat) (p : Nat → Nat → Nat) : Prop := I 20 0 = nI u ∧ u ≤ 6 ∧ (∀ i, i < u → I (h i) = vI (p i)) ∧ (∃ e, I bf = vI e ∧ Zz e) ∧ ∀ i, i < 6 → ∃ e, I (h i) = vI e ∧ Zz e
section QS
variable {I : Nat → Nat → Int32} {R : Nat → Nat → Option Nat} {nw bf u : Nat} {h : Nat → Nat} {p : Nat → Nat → Nat} {a : Nat → Nat}
theorem f47 (hB : BR R) (hP : PP nw bf h) : FF 47 [.ref 208] (202, I, QR R nw bf h) = some (none, 202, up I 20 (up (I 20) 0 (nI 5)), QR R nw bf (dh h)) := by
  have ho := od
  have h0 := hP.2.2.2.1
  have main := fd_loop (E := fun i g => EE 47 9 [some (.ref 208), some (.ref (16 * h 0)), some (.int (nI i))] [] (202, I, QR R nw bf g)) (f := dhF) (Inv := fun i g => 1 ≤ i ∧ ∀ j, i ≤ j → g j = h j) 6 (by
    intro i g hi ⟨hi0, hg⟩
    have hn : ¬ 6 ≤ i := by omega
    · have hs : nI i - nI 1 = nI (i - 1) := nI_sub (by omega)
      have e := hg i (Nat.le_refl i)
      have hlt := (h0 i hi).1
      rw [← e] at hlt
      have c1 := hi_c hi
      have c2 := hi_v (R := R) (nw := nw) (bf := bf) (h := g) hi
      have c3 := hi_w (x := g i) (k := i - 1) (by omega) (by omega)
      have c4 := hi_s (R := R) (nw := nw) (bf := bf) (h := g) (k := i - 1) (x := g i) (by omega)
      refine ⟨?_, by omega, fun j hj => by unfold dhF; rw [up_ne (by omega)]; exact hg j (by omega)⟩
      show EE 47 9 _ _ _ = EE 47 9 _ _ _
      rw [s47_9]
      unfold dhF
      simp (disch := first | omega | (show List.length _ ≤ 4; exact Nat.le_of_ble_eq_true rfl) | assumption | exact nbo_0 | exact nbo_1 | exact b2_b) only [s47_0, s47_1, s47_4, s47_5, s47_6, s47_7, s47_8, s47_10, s47_12, s47_15, s47_16, s47_19, s47_20, s47_21, s47_22, s47_23, s47_26, s47_27, s47_28, s47_29, s47_32, s47_35, s47_36, s47_39, s47_40, s47_41, s47_42, s47_43, s47_44, s47_47, ↓reduceIte, psh_some, psh_none, cln_i, cln_r, cln_n, cln_l, cln_d, cln_f, Option.bind_some, Option.bind_none, if_true, if_false, nI_add, pk_mul, nbo_0, nbo_1, nI_leI, nI_ltI, nI_eq, Nat.reduceAdd, Nat.reduceMul, Nat.add_zero, Nat.mul_zero, hn, gd_2 hB, hs, c1, c2, c3, c4]) 5 1 h (by decide) ⟨by decide, fun j _ => rfl⟩
  obtain ⟨m1, _⟩ := main
  have c1 := hi_c (k := 0) (by decide)
  have c2 := hi_v (R := R) (nw := nw) (bf := bf) (h := h) (k := 0) (by decide)
  have hq : FF 47 [.ref 208] (202, I, QR R nw bf h) = EE 47 9 [some (.ref 208), some (.ref (16 * h 0)), some (.int (nI 1))] [] (202, I, QR R nw bf h) := by
    simp (disch := first | omega | (show List.length _ ≤ 4; exact Nat.le_of_ble_eq_true rfl) | assumption | exact nbo_0 | exact nbo_1 | exact b2_b) only [FE47, s47_0, s47_1, s47_4, s47_5, s47_6, s47_7, s47_8, s47_10, s47_12, s47_15, s47_16, s47_19, s47_20, s47_21, s47_22, s47_23, s47_26, s47_27, s47_28, s47_29, s47_32, s47_35, s47_36, s47_39, s47_40, s47_41, s47_42, s47_43, s47_44, s47_47, ↓reduceIte, psh_some, psh_none, cln_i, cln_r, cln_n, cln_l, cln_d, cln_f, Option.bind_some, Option.bind_none, if_true, if_false, nI_add, pk_mul, nbo_0, nbo_1, nI_leI, nI_ltI, nI_eq, Nat.reduceAdd, Nat.reduceMul, Nat.add_zero, Nat.mul_zero, gd_2 hB, c1, c2]
  rw [hq]
  refine m1.trans ?_
  show EE 47 9 _ _ _ = _
  have h9 : (6 : Nat) ≤ 6 := Nat.le_refl _
  have hlt := (h0 0 (by decide)).1
  have c3 := hi_w (x := h 0) (k := 5) (by decide) (by omega)
  have c4 := hi_s (R := R) (nw := nw) (bf := bf) (h := fd dhF 5 1 h) (k := 5) (x := h 0) (by decide)
  rw [dh_eq] at c4
  rw [s47_9]
  simp (disch := first | omega | (show List.length _ ≤ 4; exact Nat.le_of_ble_eq_true rfl) | assumption | exact nbo_0 | exact nbo_1 | exact b2_b) only [s47_0, s47_1, s47_4, s47_5, s47_6, s47_7, s47_8, s47_10, s47_12, s47_15, s47_16, s47_19, s47_20, s47_21, s47_22, s47_23, s47_26, s47_27, s47_28, s47_29, s47_32, s47_35, s47_36, s47_39, s47_40, s47_41, s47_42, s47_43, s47_44, s47_47, ↓reduceIte, psh_some, psh_none, cln_i, cln_r, cln_n, cln_l, cln_d, cln_f, Option.bind_some, Option.bind_none, if_true, if_false, nI_add, pk_mul, nbo_0, nbo_1, nI_leI, nI_ltI, nI_eq, Nat.reduceAdd, Nat.reduceMul, Nat.add_zero, Nat.mul_zero, h9, gd_2 hB, pd_3, c3, c4]
theorem dh_m {i : Nat} (hi : i < 6) : dh h i = h ((i + 1) % 6) := by
  rcases (show i = 0 ∨ i = 1 ∨ i = 2 ∨ i = 3 ∨ i = 4 ∨ i = 5 by omega) with rfl | rfl | rfl | rfl | rfl | rfl <;> rfl
theorem inj6 (q : ∀ i j, i < j → j < 6 → h i ≠ h j) {i j : Nat} (hi : i < 6) (hj : j < 6) (hn : i ≠ j) : h i ≠ h j := by
  rcases Nat.lt_or_ge i j with h1 | h1
  · exact q i j h1 hj
  · exact fun hc => q j i (by omega) hi hc.symm
theorem f46 {r : Int32} (hB : BR R) (hP : PP nw bf h) (hC : CD I bf h u p) (hb : I bf = vI a) (ha : Zz a) (hr : ¬ r < 0) : ∃ bf' h', FF 46 [.ref 208, .int r] (202, I, QR R nw bf h) = some (some (.int r), 202, up I 20 (up (I 20) 0 (nI (pushU u))), QR R nw bf' h') ∧ PP nw bf' h' ∧ CD (up I 20 (up (I 20) 0 (nI (pushU u)))) bf' h' (pushU u) (pushP u p a) := by
  obtain ⟨c1, c2, c3, c4, c5⟩ := hC
  obtain ⟨q1, q2, q3, q4, q5⟩ := hP
  have ho := od
  have hr2 : 0 ≤ r := Int32.not_lt.mp hr
  have hP : PP nw bf h := ⟨q1, q2, q3, q4, q5⟩
  by_cases hu : u < 6
  · have e1 : pushU u = u + 1 := if_pos hu
    have e2 : pushP u p a = up p u a := if_pos hu
    refine ⟨h u, up h u bf, ?_, ⟨q1, (q4 u hu).1, fun hc => (q4 u hu).2.1 hc.symm, ?_, ?_⟩, ?_, ?_, ?_, ?_, ?_⟩
    · rw [e1, ← p46 (l2 := none) hB hP hu c1]
      have h1 : u < 6 := hu
      simp (disch := first | omega | (show List.length _ ≤ 4; exact Nat.le_of_ble_eq_true rfl) | assumption | exact nbo_0 | exact nbo_1 | exact b2_b) only [FE46, s46_0, s46_1, s46_6, s46_7, s46_10, s46_12, ↓reduceIte, psh_some, psh_none, cln_i, cln_r, cln_n, cln_l, cln_d, cln_f, Option.bind_some, Option.bind_none, if_true, if_false, nI_add, pk_mul, nbo_0, nbo_1, nI_leI, nI_ltI, nI_eq, Nat.reduceAdd, Nat.reduceMul, Nat.add_zero, Nat.mul_zero, hr2, gd_3, c1, h1]
    · intro i hi
      by_cases e : i = u
      · rw [e, up_at]
        exact ⟨q2, fun hc => q3 hc.symm, fun hc => (q4 u hu).2.2 hc.symm⟩
      · rw [up_ne e]
        refine ⟨(q4 i hi).1, (q4 i hi).2.1, ?_⟩
        rcases Nat.lt_or_ge i u with h1 | h1
        · exact q5 i u h1 hu
        · exact fun hc => q5 u i (by omega) hi hc.symm
    · intro i j hij hj
      by_cases e : i = u
      · rw [e, up_at, up_ne (by omega)]
        exact fun hc => (q4 j hj).2.2 hc.symm
      · rw [up_ne e]
        by_cases e3 : j = u
        · rw [e3, up_at]
          exact (q4 i (by omega)).2.2
        · rw [up_ne e3]
          exact q5 i j hij hj
    · rw [up_at, up_at]
    · rw [e1]; omega
    · intro i hi
      rw [e1] at hi
      rw [e2]
      by_cases e : i = u
      · rw [e, up_at, up_at, up_ne (by omega)]; exact hb
      · have := (q4 i (by omega)).1
        rw [up_ne e, up_ne e, up_ne (by omega)]; exact c3 i (by omega)
    · have := (q4 u hu).1
      rw [up_ne (by omega)]
      exact c5 u hu
    · intro i hi
      by_cases e : i = u
      · rw [e, up_at, up_ne (by omega)]; exact c4
      · have := (q4 i hi).1
        rw [up_ne e, up_ne (by omega)]; exact c5 i hi
  · have h6 : u = 6 := by omega
    subst h6
    have hP2 : PP nw bf (dh h) := ⟨q1, q2, q3, fun i hi => by rw [dh_m hi]; exact q4 _ (Nat.mod_lt _ (by decide)), fun i j hij hj => by
      rw [dh_m (by omega), dh_m hj]
      exact inj6 q5 (Nat.mod_lt _ (by decide)) (Nat.mod_lt _ (by decide)) (by omega)⟩
    have h5 : dh h 5 = h 0 := rfl
    have hk := p46 (I := up I 20 (up (I 20) 0 (nI 5))) (r := r) (u := 5) (l2 := none) hB hP2 (by decide) (by rw [up_at, up_at])
    rw [up_at, up_up, up_up, h5] at hk
    have hd := f47 (I := I) hB hP
    have e2 : ∀ i, pushP 6 p a i = if i < 5 then p (i + 1) else a := fun i => rfl
    have e3 : ∀ i, i < 5 → up (dh h) 5 bf i = h (i + 1) := fun i hi => by
      rw [up_ne (by omega)]
      exact if_pos hi
    refine ⟨h 0, up (dh h) 5 bf, ?_, ⟨q1, (q4 0 (by decide)).1, fun hc => (q4 0 (by decide)).2.1 hc.symm, ?_, ?_⟩, ?_, ?_, ?_, ?_, ?_⟩
    · show _ = some (some (Value.int r), 202, up I 20 (up (I 20) 0 (nI (5 + 1))), QR R nw (h 0) (up (dh h) 5 bf))
      rw [← hk]
      have h1 : ¬ 6 < 6 := by decide
      simp (disch := first | omega | (show List.length _ ≤ 4; exact Nat.le_of_ble_eq_true rfl) | assumption | exact nbo_0 | exact nbo_1 | exact b2_b) only [FE46, s46_0, s46_1, s46_6, s46_7, s46_10, s46_12, s46_15, s46_16, ↓reduceIte, psh_some, psh_none, cln_i, cln_r, cln_n, cln_l, cln_d, cln_f, Option.bind_some, Option.bind_none, if_true, if_false, nI_add, pk_mul, nbo_0, nbo_1, nI_leI, nI_ltI, nI_eq, Nat.reduceAdd, Nat.reduceMul, Nat.add_zero, Nat.mul_zero, hr2, gd_3, c1, h1, hd]
    · intro i hi
      by_cases e : i = 5
      · rw [e, up_at]
        exact ⟨q2, fun hc => q3 hc.symm, fun hc => (q4 0 (by decide)).2.2 hc.symm⟩
      · rw [e3 i (by omega)]
        exact ⟨(q4 (i + 1) (by omega)).1, (q4 (i + 1) (by omega)).2.1, inj6 q5 (by omega) (by decide) (by omega)⟩
    · intro i j hij hj
      rw [e3 i (by omega)]
      by_cases e : j = 5
      · rw [e, up_at]
        exact (q4 (i + 1) (by omega)).2.2
      · rw [e3 j (by omega)]
        exact q5 (i + 1) (j + 1) (by omega) (by omega)
    · rw [up_at, up_at]
    · exact Nat.le_refl 6
    · intro i hi
      have hi : i < 6 := hi
      rw [e2]
      by_cases e : i = 5
      · rw [e, up_at, up_ne (by omega), if_neg (by decide)]; exact hb
      · have := (q4 (i + 1) (by omega)).1
        rw [e3 i (by omega), up_ne (by omega), if_pos (by omega)]
        exact c3 (i + 1) (by omega)
    · have := (q4 0 (by decide)).1
      rw [up_ne (by omega)]
      exact c5 0 (by decide)
    · intro i hi
      by_cases e : i = 5
      · rw [e, up_at, up_ne (by omega)]; exact c4
      · have := (q4 (i + 1) (by omega)).1
        rw [e3 i (by omega), up_ne (by omega)]; exact c5 (i + 1) (by omega)
end QS
