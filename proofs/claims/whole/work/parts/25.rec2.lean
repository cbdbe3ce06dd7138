/-! ===== the model records, 2 ===== -/
def pushU (u : Nat) : Nat := if u < 6 then u + 1 else 6
def pushP (u : Nat) (p : Nat → Nat → Nat) (a : Nat → Nat) : Nat → Nat → Nat := if u < 6 then up p u a else fun i => if i < 5 then p (i + 1) else a
/-- the model's past -/
def MD (I : Nat → Nat → Int32) (a : Nat → Nat) (u : Nat) (p : Nat → Nat → Nat) : Prop := I 225 = vI a ∧ I 32 2 = nI u ∧ u ≤ 6 ∧ (∀ i, i < u → I (40 + i) = vI (p i)) ∧ ∀ i, i < 6 → ∃ e, I (40 + i) = vI e ∧ Zz e
/-- what recording leaves alone -/
def MK (I I' : Nat → Nat → Int32) : Prop := (∀ v, ¬ (40 ≤ v ∧ v < 46) → v ≠ 32 → I' v = I v) ∧ ∀ j, j ≠ 2 → I' 32 j = I 32 j
section RD
variable {I : Nat → Nat → Int32} {R : Nat → Nat → Option Nat} {a : Nat → Nat} {u : Nat} {p : Nat → Nat → Nat}
theorem shI_0 : shI I 0 = I := by
  funext v j
  unfold shI
  rw [if_neg (by omega)]
theorem p86 (hR : RM R) (hu : u < 6) (hI : I 225 = vI a) (hk : I 32 2 = nI u) (ha : Zz a) (hz : ∃ e, I (40 + u) = vI e ∧ Zz e) : EE 86 50 [some (.ref 224), none] [] (210, I, R) = some (none, 210, up (up I (40 + u) (vI a)) 32 (up (I 32) 2 (nI (u + 1))), R) ∧ ∀ l1, EE 86 50 [some (.ref 224), l1] [] (210, I, R) = some (none, 210, up (up I (40 + u) (vI a)) 32 (up (I 32) 2 (nI (u + 1))), R) := by
  obtain ⟨e, he, hz2⟩ := hz
  have ho := om
  have g := lay_np (I := I) (R := R) hu hI he ha hz2
  have n1 : ∀ V, up I (40 + u) V 32 = I 32 := fun V => up_ne (by omega)
  have key : ∀ l1, EE 86 50 [some (.ref 224), l1] [] (210, I, R) = some (none, 210, up (up I (40 + u) (vI a)) 32 (up (I 32) 2 (nI (u + 1))), R) := by
    intro l1
    simp (disch := first | omega | (show List.length _ ≤ 4; exact Nat.le_of_ble_eq_true rfl) | assumption | exact nbo_0 | exact nbo_1 | exact b2_b) only [s86_0, s86_1, s86_4, s86_6, s86_9, s86_10, s86_12, s86_15, s86_18, s86_19, s86_22, s86_23, s86_24, s86_27, s86_28, s86_31, s86_32, s86_33, s86_34, s86_37, s86_40, s86_41i, s86_41r, s86_42, s86_45, s86_46, s86_47, s86_50, s86_51, s86_54, s86_55, s86_56, s86_59, s86_62, s86_63, s86_66, s86_67, s86_70, s86_71i, s86_71r, s86_72, s86_75, s86_76, s86_77, s86_80, ↓reduceIte, psh_some, psh_none, cln_i, cln_r, cln_n, cln_l, cln_d, cln_f, Option.bind_some, Option.bind_none, if_true, if_false, nI_add, pk_mul, nbo_0, nbo_1, nI_leI, nI_ltI, nI_eq, Nat.reduceAdd, Nat.reduceMul, Nat.add_zero, Nat.mul_zero, gm_0 hR, gm_2 hR, gm_3, pm_3, hk, g, n1]
  exact ⟨key none, key⟩
theorem f86 (hR : RM R) (h : MD I a u p) (ha : Zz a) : ∃ I', FF 86 [.ref 224] (210, I, R) = some (none, 210, I', R) ∧ MD I' a (pushU u) (pushP u p a) ∧ MK I I' := by
  obtain ⟨h1, h2, h3, h4, h5⟩ := h
  have ho := om
  by_cases hu : u < 6
  · refine ⟨up (up I (40 + u) (vI a)) 32 (up (I 32) 2 (nI (u + 1))), ?_, ⟨?_, ?_, ?_, ?_, ?_⟩, ?_, ?_⟩
    · have hk := (p86 hR hu h1 h2 ha (h5 u hu)).2
      have hn : ¬ u = 6 := by omega
      rw [FE86]
      simp (disch := first | omega | (show List.length _ ≤ 4; exact Nat.le_of_ble_eq_true rfl) | assumption | exact nbo_0 | exact nbo_1 | exact b2_b) only [s86_0, s86_1, s86_4, s86_6, ↓reduceIte, psh_some, psh_none, cln_i, cln_r, cln_n, cln_l, cln_d, cln_f, Option.bind_some, Option.bind_none, if_true, if_false, nI_add, pk_mul, nbo_0, nbo_1, nI_leI, nI_ltI, nI_eq, Nat.reduceAdd, Nat.reduceMul, Nat.add_zero, Nat.mul_zero, gm_3, h2, hn, hk]
    · rw [up_ne (by omega), up_ne (by omega)]; exact h1
    · rw [up_at, up_at]; unfold pushU; rw [if_pos hu]
    · unfold pushU; rw [if_pos hu]; omega
    · intro i hi
      unfold pushU at hi
      rw [if_pos hu] at hi
      unfold pushP
      rw [if_pos hu, up_ne (by omega)]
      by_cases e : i = u
      · rw [e, up_at, up_at]
      · rw [up_ne (by omega), up_ne e]; exact h4 i (by omega)
    · intro i hi
      rw [up_ne (by omega)]
      by_cases e : i = u
      · rw [e, up_at]; exact ⟨a, rfl, ha⟩
      · rw [up_ne (by omega)]; exact h5 i hi
    · intro v hv1 hv2
      rw [up_ne (by omega), up_ne (by omega)]
    · intro j hj
      rw [up_at, up_ne hj]
  · have h6 : u = 6 := by omega
    subst h6
    have main := fd_loop (E := fun i (_ : Unit) => EE 86 11 [some (.ref 224), some (.int (nI i))] [] (210, shI I i, R)) (f := fun _ s => s) (Inv := fun _ _ => True) 740 (by
      intro i s hi _
      refine ⟨?_, trivial⟩
      have hn : ¬ 740 ≤ i := by omega
      have r1 : shI I i (40 + (i + 148) / 148) ((i + 148) % 148) = I (40 + (i / 148 + 1)) (i % 148) := by
        rw [show (i + 148) / 148 = i / 148 + 1 by omega, show (i + 148) % 148 = i % 148 by omega]
        unfold shI
        rw [if_neg (by omega)]
      have r2 := shI_s (I := I) hi
      have c := cm_p (k := i) (by omega)
      show EE 86 11 _ _ _ = EE 86 11 _ _ _
      rw [s86_11]
      simp (disch := first | omega | (show List.length _ ≤ 4; exact Nat.le_of_ble_eq_true rfl) | assumption | exact nbo_0 | exact nbo_1 | exact b2_b) only [s86_0, s86_1, s86_4, s86_6, s86_9, s86_10, s86_12, s86_15, s86_18, s86_19, s86_22, s86_23, s86_24, s86_27, s86_28, s86_31, s86_32, s86_33, s86_34, s86_37, s86_40, s86_41i, s86_41r, s86_42, s86_45, s86_46, s86_47, s86_50, s86_51, s86_54, s86_55, s86_56, s86_59, s86_62, s86_63, s86_66, s86_67, s86_70, s86_71i, s86_71r, s86_72, s86_75, s86_76, s86_77, s86_80, ↓reduceIte, psh_some, psh_none, cln_i, cln_r, cln_n, cln_l, cln_d, cln_f, Option.bind_some, Option.bind_none, if_true, if_false, nI_add, pk_mul, nbo_0, nbo_1, nI_leI, nI_ltI, nI_eq, Nat.reduceAdd, Nat.reduceMul, Nat.add_zero, Nat.mul_zero, hn, gm_2 hR, am_p, wm_p, r1, r2]) 740 0 () (by decide) trivial
    obtain ⟨m1, _⟩ := main
    rw [shI_0] at m1
    have s1 : ∀ v, ¬ (40 ≤ v ∧ v < 45) → shI I 740 v = I v := by
      intro v hv
      funext j
      unfold shI
      rw [if_neg (by omega)]
    have s2 : ∀ i, i < 5 → shI I 740 (40 + i) = I (40 + (i + 1)) := by
      intro i hi
      funext j
      unfold shI
      by_cases hj : j < 148
      · rw [if_pos (by omega)]; rfl
      · rw [if_neg (by omega)]
        obtain ⟨e1, q1, q2⟩ := h5 i (by omega)
        obtain ⟨e2, q3, q4⟩ := h5 (i + 1) (by omega)
        rw [q1, q3]
        show nI (e1 j) = nI (e2 j)
        rw [q2 j (by omega), q4 j (by omega)]
    have k1 : up (shI I 740) 32 (up (shI I 740 32) 2 (nI 5)) 225 = vI a := by rw [up_ne (by decide), s1 225 (by omega)]; exact h1
    have k2 : up (shI I 740) 32 (up (shI I 740 32) 2 (nI 5)) 32 2 = nI 5 := by rw [up_at, up_at]
    have hk := (p86 (I := up (shI I 740) 32 (up (shI I 740 32) 2 (nI 5))) hR (u := 5) (by decide) k1 k2 ha (by rw [up_ne (by decide), s1 45 (by omega)]; exact h5 5 (by decide))).2 (some (.int (nI 740)))
    refine ⟨up (up (up (shI I 740) 32 (up (shI I 740 32) 2 (nI 5))) (40 + 5) (vI a)) 32 (up (up (shI I 740) 32 (up (shI I 740 32) 2 (nI 5)) 32) 2 (nI (5 + 1))), ?_, ⟨?_, ?_, ?_, ?_, ?_⟩, ?_, ?_⟩
    · have hq : FF 86 [.ref 224] (210, I, R) = EE 86 11 [some (.ref 224), some (.int (nI 0))] [] (210, I, R) := by
        rw [FE86]
        simp (disch := first | omega | (show List.length _ ≤ 4; exact Nat.le_of_ble_eq_true rfl) | assumption | exact nbo_0 | exact nbo_1 | exact b2_b) only [s86_0, s86_1, s86_4, s86_6, s86_9, s86_10, ↓reduceIte, psh_some, psh_none, cln_i, cln_r, cln_n, cln_l, cln_d, cln_f, Option.bind_some, Option.bind_none, if_true, if_false, nI_add, pk_mul, nbo_0, nbo_1, nI_leI, nI_ltI, nI_eq, Nat.reduceAdd, Nat.reduceMul, Nat.add_zero, Nat.mul_zero, gm_3, h2]
      rw [hq]
      refine m1.trans ?_
      show EE 86 11 [some (.ref 224), some (.int (nI 740))] [] (210, shI I 740, R) = _
      rw [← hk]
      have h9 : (740 : Nat) ≤ 740 := Nat.le_refl _
      have hs : nI 6 - nI 1 = nI 5 := nI_sub (x := 6) (y := 1) (by decide)
      have k3 : shI I 740 32 2 = nI 6 := by rw [s1 32 (by omega)]; exact h2
      rw [s86_11]
      simp (disch := first | omega | (show List.length _ ≤ 4; exact Nat.le_of_ble_eq_true rfl) | assumption | exact nbo_0 | exact nbo_1 | exact b2_b) only [s86_12, s86_15, s86_40, s86_41i, s86_41r, s86_42, s86_45, s86_46, s86_47, ↓reduceIte, psh_some, psh_none, cln_i, cln_r, cln_n, cln_l, cln_d, cln_f, Option.bind_some, Option.bind_none, if_true, if_false, nI_add, pk_mul, nbo_0, nbo_1, nI_leI, nI_ltI, nI_eq, Nat.reduceAdd, Nat.reduceMul, Nat.add_zero, Nat.mul_zero, h9, gm_3, pm_3, k3, hs]
    · rw [up_ne (by decide), up_ne (by decide)]; exact k1
    · rw [up_at, up_at]; rfl
    · exact Nat.le_refl 6
    · intro i hi
      have hi : i < 6 := hi
      show _ = vI (if i < 5 then p (i + 1) else a)
      rw [up_ne (by omega)]
      by_cases e : i = 5
      · subst e
        rw [up_at, if_neg (by decide)]
      · rw [up_ne (by omega), up_ne (by omega), s2 i (by omega), if_pos (by omega)]
        exact h4 (i + 1) (by omega)
    · intro i hi
      rw [up_ne (by omega)]
      by_cases e : i = 5
      · subst e
        rw [up_at]; exact ⟨a, rfl, ha⟩
      · rw [up_ne (by omega), up_ne (by omega), s2 i (by omega)]
        exact h5 (i + 1) (by omega)
    · intro v hv1 hv2
      rw [up_ne (by omega), up_ne (by omega), up_ne (by omega), s1 v (by omega)]
    · intro j hj
      rw [up_at, up_ne hj, up_at, up_ne hj, s1 32 (by omega)]
end RD
