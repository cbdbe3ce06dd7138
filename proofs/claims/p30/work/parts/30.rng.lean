/-! ===== ranges ===== -/
theorem rng {y : Int32} {lo hi : Nat} (hl : lo < 2 ^ 30) (hh : hi < 2 ^ 30) (h1 : ¬ y < nI lo) (h2 : ¬ nI hi < y) : ∃ j, lo ≤ j ∧ j ≤ hi ∧ y = nI j := by
  rw [Int32.lt_iff_toInt_lt, nI_toInt (by omega)] at h1 h2
  have h0 : ¬ y < 0 := by
    rw [Int32.lt_iff_toInt_lt]
    show ¬ y.toInt < 0
    omega
  obtain ⟨j, hj, rfl⟩ := nI_of h0
  rw [nI_toInt hj] at h1 h2
  exact ⟨j, by omega, by omega, rfl⟩
theorem sOk_n {k : Nat} {y : Int32} (hk : k < 6) (h : sOk k y) : ∃ j, y = nI j ∧ j ≤ 999 ∧ (k = 0 → 1 ≤ j ∧ j ≤ 100) ∧ (k = 1 → 1 ≤ j ∧ j ≤ 20) ∧ (k = 2 → j ≤ 50) ∧ (k = 3 → j ≤ 20) ∧ (k = 4 → j ≤ 99) := by
  rcases (show k = 0 ∨ k = 1 ∨ k = 2 ∨ k = 3 ∨ k = 4 ∨ k = 5 by omega) with rfl | rfl | rfl | rfl | rfl | rfl
  · obtain ⟨j, g1, g2, g3⟩ := rng (lo := 1) (hi := 100) (by decide) (by decide) h.1 h.2
    exact ⟨j, g3, by omega, by omega, by omega, by omega, by omega, by omega⟩
  · obtain ⟨j, g1, g2, g3⟩ := rng (lo := 1) (hi := 20) (by decide) (by decide) h.1 h.2
    exact ⟨j, g3, by omega, by omega, by omega, by omega, by omega, by omega⟩
  · obtain ⟨j, g1, g2, g3⟩ := rng (lo := 0) (hi := 50) (by decide) (by decide) h.1 h.2
    exact ⟨j, g3, by omega, by omega, by omega, by omega, by omega, by omega⟩
  · obtain ⟨j, g1, g2, g3⟩ := rng (lo := 0) (hi := 20) (by decide) (by decide) h.1 h.2
    exact ⟨j, g3, by omega, by omega, by omega, by omega, by omega, by omega⟩
  · obtain ⟨j, g1, g2, g3⟩ := rng (lo := 0) (hi := 99) (by decide) (by decide) h.1 h.2
    exact ⟨j, g3, by omega, by omega, by omega, by omega, by omega, by omega⟩
  · obtain ⟨j, g1, g2, g3⟩ := rng (lo := 0) (hi := 999) (by decide) (by decide) h.1 h.2
    exact ⟨j, g3, by omega, by omega, by omega, by omega, by omega, by omega⟩
