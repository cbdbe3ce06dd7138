/-! ===== the law's start ===== -/
theorem st0_z {k : Nat} (hk : 38 ≤ k) : st0 k = 0 := by
  unfold st0
  rw [if_neg (by omega), if_neg (by omega), if_neg (by omega), if_neg (by omega), if_neg (by omega), if_neg (by omega), if_neg (by omega), if_neg (by omega)]
theorem st0_WN : WN 0 st0 := by
  have c13 : st0 13 = 0 := by decide
  refine ⟨⟨by decide, by decide, by decide, by decide, by decide, by decide, by decide, by decide, by decide, by decide, fun t ht => by rw [st0_z (by omega)]; decide, fun t ht _ => st0_z (by omega), fun k hk => by rw [c13] at hk; omega, fun i j _ hj => by rw [c13] at hj; omega, fun w t _ _ => by rw [st0_z (by omega)]; decide, fun w t _ _ _ => st0_z (by omega), fun k hk => st0_z (by omega)⟩, by decide, fun t ht => by rw [st0_z (by omega)]; decide, fun t ht => by rw [st0_z (by omega)]; exact Nat.zero_le _⟩
theorem st0_WX : WX 0 st0 :=
  ⟨st0_WN, fun t ht => by rw [st0_z (by omega), st0_z (by omega)]; exact Nat.zero_le _, by decide, fun t ht _ => st0_z (by omega), by decide, by decide⟩
section SR
variable {R : Nat → Nat → Option Nat} {I : Nat → Nat → Int32} {L : Nat} {xs : Nat → Int32}
theorem start_B (hD : DK 13 10 6 2 true R) : BR R := by
  obtain ⟨d1, d2, d3, d4, d5⟩ := hD
  exact ⟨⟨d2 2 (by decide) (by decide), d2 4 (by decide) (by decide), d2 5 (by decide) (by decide), d2 6 (by decide) (by decide), d2 7 (by decide) (by decide), d2 8 (by decide) (by decide), d2 9 (by decide) (by decide)⟩, d4, d5 rfl, fun b hb => d1 b hb, trivial⟩
theorem start_Q (hD : DK 13 10 6 2 true R) : R = QR R 0 1 (fun i => 2 + i) := by
  obtain ⟨d1, d2, d3, d4, d5⟩ := hD
  funext x k
  unfold QR
  by_cases e : x = 208
  · subst e
    rw [if_pos rfl]
    by_cases k0 : k = 0
    · subst k0; rw [if_pos rfl]; exact d2 0 (by decide) (by decide)
    · rw [if_neg k0]
      by_cases k1 : k = 1
      · subst k1; rw [if_pos rfl]; exact d2 1 (by decide) (by decide)
      · rw [if_neg k1]
  · rw [if_neg e]
    by_cases e2 : x = 209
    · subst e2
      rw [if_pos rfl]
      by_cases k6 : k < 6
      · rw [if_pos k6]; exact d3 k k6
      · rw [if_neg k6]
    · rw [if_neg e2]
theorem start_C (h13 : ∀ v, v < 13 → I v = vI st0) (h20 : I 20 = fun _ => 0) : CL I 0 1 (fun i => 2 + i) st0 0 (fun _ => st0) := by
  have s0 : Zz st0 := fun k hk => st0_z (by omega)
  exact ⟨⟨by decide, by decide, by decide, fun i hi => ⟨(show 2 + i < 8 by omega), (show 2 + i ≠ 0 by omega), (show 2 + i ≠ 1 by omega)⟩, fun i j h1 h2 => (show 2 + i ≠ 2 + j by omega)⟩, h13 0 (by decide), ⟨by rw [h20]; rfl, by decide, fun i hi => by omega, ⟨st0, h13 1 (by decide), s0⟩, fun i hi => ⟨st0, h13 (2 + i) (by omega), s0⟩⟩, ⟨st0, h13 10 (by decide), s0⟩⟩
theorem I0_z {L v : Nat} {xs : Nat → Int32} (h1 : v ≠ 60) (h2 : v ≠ 61) : I0 L xs v = fun _ => 0 := by
  unfold I0
  rw [if_neg h1, if_neg h2]
theorem law_ok : LAWF := by
  intro L xs hL
  have z : ∀ v, v ≠ 60 → v ≠ 61 → ∀ x, I0 L xs v x = 0 := fun v h1 h2 x => by rw [I0_z h1 h2]
  have bA : bn (0, I0 L xs, fun _ _ => none) = (1, I0 L xs, bnR (fun _ _ => none) 208) := by
    show (1, bnI (I0 L xs) 208, bnR (fun _ _ => none) 208) = _
    rw [bnI_obj (by decide) (fun x => z 20 (by decide) (by decide) x)]
  obtain ⟨R1, f1, D1⟩ := f43 (I := I0 L xs) (R := bnR (fun _ _ => none) 208) (fun v hv x => z v (by omega) (by omega) x) (fun x => z 20 (by decide) (by decide) x)
  have hB := start_B D1
  have hC := start_C (I := IS (I0 L xs) 13) (fun v hv => by unfold IS; rw [if_pos hv]) (by rw [IS_ge (by decide), I0_z (by decide) (by decide)])
  have h61 : IS (I0 L xs) 13 61 = fun _ => nI L := by rw [IS_ge (by decide)]; rfl
  have hG : GL 0 st0 0 (fun _ => st0) := ⟨st0_WX, fun i hi => by omega⟩
  have g := alL (I := IS (I0 L xs) 13) h61 hL
  have hq : L / 4 < 2 ^ 31 := by omega
  have st : FF 171 [.ref 1000] (M0 L xs) = EE 171 7 [some (.ref 1000), none, none, none, none, none, none, none, none, none, none, none, none, none, none, none] [.ref 208] (202, IS (I0 L xs) 13, R1) := by
    rw [FE171]
    show EE 171 0 [some (.ref 1000), none, none, none, none, none, none, none, none, none, none, none, none, none, none, none] [] (0, I0 L xs, fun _ _ => none) = _
    rw [s171_0 ⟨(by show (0 : Nat) < 202; decide), (by show kd (adr 0) = 3; decide)⟩, s171_3r]
    show EE 171 4 _ [.ref 208, .ref 208] (bn (0, I0 L xs, fun _ _ => none)) = _
    rw [bA, s171_4 (by decide) f1]
  have fin : ∀ T, T ≤ 30 → FF 171 [.ref 1000] (M0 L xs) = EE 171 32 [some (.ref 1000), some (.ref 208), some (.int (nI 1)), some (.int (nI T)), some (.int (nI 0)), none, none, none, none, none, none, none, none, none, none, none] [] (202, IS (I0 L xs) 13, R1) → ∃ M' : Mm, M'.1 = 202 ∧ FF 171 [.ref 1000] (M0 L xs) = some (some (.int (nI 1)), M') := by
    intro T hT e
    rw [start_Q D1] at e
    obtain ⟨M', q1, q2⟩ := p171 (T := T) hB hL hT T 0 (IS (I0 L xs) 13) 0 1 (fun i => 2 + i) st0 0 (fun _ => st0) none none none none none none none none none none none (by omega) hC hG h61
    exact ⟨M', q1, e.trans q2⟩
  by_cases e : L / 4 ≤ 30
  · refine fin (L / 4) e ?_
    rw [st]
    simp (disch := first | omega | (show List.length _ ≤ 4; exact Nat.le_of_ble_eq_true rfl) | assumption | exact nbo_0 | exact nbo_1 | exact b2_b) only [s171_7, s171_8, s171_9, s171_10, s171_11, s171_12, s171_13, s171_14, s171_16, s171_24, s171_25, s171_26, s171_27, s171_28, s171_29, s171_30, ↓reduceIte, psh_some, psh_none, cln_i, cln_r, cln_n, cln_l, cln_d, cln_f, Option.bind_some, Option.bind_none, if_true, if_false, nI_add, pk_mul, nbo_0, nbo_1, nI_leI, nI_ltI, nI_eq, Nat.reduceAdd, Nat.reduceMul, Nat.add_zero, Nat.mul_zero, g, e]
  · refine fin 30 (Nat.le_refl _) ?_
    rw [st]
    simp (disch := first | omega | (show List.length _ ≤ 4; exact Nat.le_of_ble_eq_true rfl) | assumption | exact nbo_0 | exact nbo_1 | exact b2_b) only [s171_7, s171_8, s171_9, s171_10, s171_11, s171_12, s171_13, s171_14, s171_16, s171_19, s171_21, s171_28, s171_29, s171_30, ↓reduceIte, psh_some, psh_none, cln_i, cln_r, cln_n, cln_l, cln_d, cln_f, Option.bind_some, Option.bind_none, if_true, if_false, nI_add, pk_mul, nbo_0, nbo_1, nI_leI, nI_ltI, nI_eq, Nat.reduceAdd, Nat.reduceMul, Nat.add_zero, Nat.mul_zero, g, e]
end SR
