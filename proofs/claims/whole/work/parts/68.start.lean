/-! ===== what a method answers is of its kind ===== -/
section KI
variable {F : Orc} {K : Nat} {c : Cf} {r : Rz} {M M' : Mm} {st : List Value} {i : Instr} {v : Value} {as' : List Value}
theorem stp_inr (h : stp F K c = some (.inr r)) : ∃ i, stR K i c.2.2.1 c.2.2.2 = some r := by
  unfold stp at h
  split at h
  · cases h
  · rename_i i len hd
    split at h
    · cases h
    · split at h
      · rename_i r' hr
        cases h
        exact ⟨i, hr⟩
      · repeat (split at h; · cases h)
        cases h
theorem stR_int (ht : rtt K = some .int) (h : stR K i st M = some r) : ∃ x, r.1 = some (.int x) := by
  unfold stR at h
  split at h
  · rw [ht] at h
    simp only at h
    split at h
    · cases h; exact ⟨_, rfl⟩
    · cases h
  · rw [if_neg (by rw [ht]; intro hc; cases hc)] at h; cases h
  · rw [if_neg (by rw [ht]; intro hc; cases hc)] at h; cases h
  · rw [if_neg (by rw [ht]; intro hc; cases hc)] at h; cases h
  · cases h
theorem stR_long (ht : rtt K = some .long) (h : stR K i st M = some r) : (∃ x, r.1 = some (.long x)) ∨ ∃ x, r.1 = some (.int x) := by
  unfold stR at h
  split at h
  · split at h
    · split at h
      · cases h; exact Or.inr ⟨_, rfl⟩
      · cases h
    · cases h
  · rw [if_pos ht] at h; cases h; exact Or.inl ⟨_, rfl⟩
  · rw [if_neg (by rw [ht]; intro hc; cases hc)] at h; cases h
  · rw [if_neg (by rw [ht]; intro hc; cases hc)] at h; cases h
  · cases h
theorem run_end (P : Rz → Prop) (hP : ∀ i st M r, stR K i st M = some r → P r) : ∀ n c r, run F K n c = some r → P r := by
  intro n
  induction n with
  | zero => intro c r h; cases h
  | succ n ih =>
    intro c r h
    rw [run] at h
    cases hs : stp F K c with
    | none => rw [hs] at h; cases h
    | some x =>
      rw [hs] at h
      cases x with
      | inl c' => exact ih c' r h
      | inr z =>
        have h : some z = some r := h
        cases h
        obtain ⟨i, hi⟩ := stp_inr hs
        exact hP i _ _ _ hi
theorem FF_int (ht : rtt K = some .int) (h : FF K as' M = some (some v, M')) : ∃ x, v = .int x := by
  obtain ⟨-, h2⟩ := FF_some h
  obtain ⟨n, hn⟩ := EV_run h2
  obtain ⟨x, hx⟩ := run_end (fun r => ∃ x, r.1 = some (.int x)) (fun i st M r h => stR_int ht h) n _ _ hn
  exact ⟨x, Option.some.inj hx⟩
end KI
/-! ===== how both stand at first ===== -/
theorem st0_z {k : Nat} (hk : 38 ≤ k) : st0 k = 0 := by
  unfold st0
  rw [if_neg (by omega), if_neg (by omega), if_neg (by omega), if_neg (by omega), if_neg (by omega), if_neg (by omega), if_neg (by omega), if_neg (by omega)]
theorem st0_WN : WN 0 st0 := by
  have c13 : st0 13 = 0 := by decide
  refine ⟨⟨by decide, by decide, by decide, by decide, by decide, by decide, by decide, by decide, by decide, by decide, fun t ht => by rw [st0_z (by omega)]; decide, fun t ht _ => st0_z (by omega), fun k hk => by rw [c13] at hk; omega, fun i j _ hj => by rw [c13] at hj; omega, fun w t _ _ => by rw [st0_z (by omega)]; decide, fun w t _ _ _ => st0_z (by omega), fun k hk => st0_z (by omega)⟩, by decide, fun t ht => by rw [st0_z (by omega)]; decide, fun t ht => by rw [st0_z (by omega)]; exact Nat.zero_le _⟩
section SR
variable {R0 R : Nat → Nat → Option Nat} {I : Nat → Nat → Int32} {N N' : Nat}
theorem RL.mono (h : RL R0 N I R) (hn : N ≤ N') : RL R0 N' I R := by
  obtain ⟨nw, bf, h', a, u, p, sl, hd, n, q, e, hG, hC, hM⟩ := h
  exact ⟨nw, bf, h', a, u, p, sl, hd, n, q, e, hG.mono hn, hC, hM⟩
theorem start_B (hD : DK 13 10 6 2 true R) (hRM : RM R) : BR R := by
  obtain ⟨d1, d2, d3, d4, d5⟩ := hD
  exact ⟨⟨d2 2 (by decide) (by decide), d2 4 (by decide) (by decide), d2 5 (by decide) (by decide), d2 6 (by decide) (by decide), d2 7 (by decide) (by decide), d2 8 (by decide) (by decide), d2 9 (by decide) (by decide)⟩, d4, d5 rfl, fun b hb => d1 b hb, hRM⟩
theorem start_RL (hD : DK 13 10 6 2 true R) (h13 : ∀ v, v < 13 → I v = vI st0) (h225 : I 225 = vI st0) (hz : ∀ v, (v = 20 ∨ v = 32 ∨ v = 226 ∨ 40 ≤ v ∧ v < 46 ∨ 50 ≤ v ∧ v < 52) → I v = fun _ => 0) : RL R 0 I R := by
  obtain ⟨d1, d2, d3, d4, d5⟩ := hD
  have z0 : (fun _ : Nat => (0 : Int32)) = vI (fun _ => 0) := rfl
  have zz0 : Zz (fun _ => 0) := fun k _ => rfl
  have s0 : Zz st0 := fun k hk => st0_z (by omega)
  refine ⟨0, 1, fun i => 2 + i, st0, 0, fun _ => st0, fun _ => st0, fun _ => 0, 0, fun _ => 0, ?_, ⟨st0_WN, fun i hi => by omega, fun i hi => ⟨Nat.zero_le _, fun h => absurd (show (0 : Nat) = 1 from h) (by decide)⟩, by decide, fun k hk => by omega⟩, ⟨⟨by decide, by decide, by decide, fun i hi => ⟨(show 2 + i < 8 by omega), (show 2 + i ≠ 0 by omega), (show 2 + i ≠ 1 by omega)⟩, fun i j h1 h2 => (show 2 + i ≠ 2 + j by omega)⟩, h13 0 (by decide), ⟨by rw [hz 20 (by omega)]; rfl, by decide, fun i hi => by omega, ⟨st0, h13 1 (by decide), s0⟩, fun i hi => ⟨st0, h13 (2 + i) (by omega), s0⟩⟩, ⟨fun i hi h => absurd (show (0 : Nat) = 1 from h) (by decide), fun i hi => ⟨st0, h13 _ (by omega), s0⟩⟩, fun i hi => by rw [hz 20 (by omega)]; rfl, by rw [hz 20 (by omega)]; rfl, fun k hk => by omega, fun v h1 h2 => ⟨st0, h13 v h2, s0⟩⟩, ⟨⟨h225, by rw [hz 32 (by omega)]; rfl, by decide, fun i hi => by omega, fun i hi => ⟨fun _ => 0, (hz _ (by omega)).trans z0, zz0⟩⟩, ⟨fun i hi h => absurd (show (0 : Nat) = 1 from h) (by decide), fun i hi => ⟨fun _ => 0, (hz _ (by omega)).trans z0, zz0⟩⟩, fun i hi => by rw [hz 32 (by omega)]; rfl, by rw [hz 32 (by omega)]; rfl, fun k hk => by omega, ⟨fun _ => 0, (hz 226 (by omega)).trans z0, zz0⟩⟩⟩
  funext x k
  unfold QR
  by_cases e : x = 208
  · subst e
    rw [if_pos rfl]
    by_cases k0 : k = 0
    · subst k0; rw [if_pos rfl]; exact d2 0 (by decide) (by decide)
    · rw [if_neg k0]
      by_cases k1 : k = 1
      · subst k1; rw [if_pos rfl]; exact d2 1 (by decide) (by decide)
      · rw [if_neg k1]
  · rw [if_neg e]
    by_cases e2 : x = 209
    · subst e2
      rw [if_pos rfl]
      by_cases k6 : k < 6
      · rw [if_pos k6]; exact d3 k k6
      · rw [if_neg k6]
    · rw [if_neg e2]
end SR
