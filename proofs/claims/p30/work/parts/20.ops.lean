/-! ===== the changes, piece by piece ===== -/
/-- a number in a range from 0 -/
abbrev iT (x : Int32) (n : Nat) : Prop := ¬ x < 0 ∧ ¬ nI n ≤ x
theorem iT_nI {x : Int32} {n : Nat} (hn : n < 2 ^ 31) (h : iT x n) : ∃ k, k < n ∧ x = nI k := by
  obtain ⟨j, hj, rfl⟩ := nI_of h.1
  exact ⟨j, Nat.lt_of_not_le (fun hc => h.2 (nI_le hc hj)), rfl⟩
theorem nI_iT {k n : Nat} (hk : k < n) (hn : n < 2 ^ 31) : iT (nI k) n := ⟨nI_pos (by omega), nI_ge hk hn⟩
theorem lt_le1 {x : Int32} {m : Nat} (hm : m < 2 ^ 30) : (nI m - nI 1 < x) ↔ nI m ≤ x := by
  have e : (nI m - nI 1).toInt = (m : Int) - 1 := by
    rw [Int32.toInt_sub, nI_toInt (by omega), nI_toInt (by omega)]
    exact Int.bmod_eq_of_le (by omega) (by omega)
  rw [Int32.lt_iff_toInt_lt, Int32.le_iff_toInt_le, e, nI_toInt (by omega)]
  omega
theorem lt_le {x : Int32} {m : Nat} (hm : m < 2 ^ 30) : (nI m < x) ↔ nI (m + 1) ≤ x := by
  rw [Int32.lt_iff_toInt_lt, Int32.le_iff_toInt_le, nI_toInt (by omega), nI_toInt (by omega)]
  omega
section P1
variable {M : Mm} {I : Nat → Nat → Int32} {R : Nat → Nat → Option Nat} {a : Nat → Nat}
/-- the mean of a call -/
def mnC (a : Nat → Nat) (t : Nat) : Nat := (a (58 + 10 * frm a + t) + a (58 + 10 * bst a t + t) + 1) / 2
end P1
