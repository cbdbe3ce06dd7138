/-! ===== how many misses ===== -/
section MSL
variable {a : Nat → Nat}
theorem ms_le {w : Nat} : ∀ d k (s : (Nat → Nat) × Nat), (fd (msF w) d k s).2 ≤ s.2 + d
  | 0, k, s => Nat.le_refl _
  | d + 1, k, s => by
    have h := ms_le (w := w) d (k + 1) (msF w k s)
    have h2 : (msF w k s).2 ≤ s.2 + 1 := by
      unfold msF
      by_cases e : s.1 (38 + s.1 (48 + k)) = 1 ∧ s.1 (58 + 10 * w + s.1 (48 + k)) < s.1 2
      · rw [if_pos e]; exact Nat.le_refl _
      · rw [if_neg e]; exact Nat.le_succ _
    show (fd (msF w) d (k + 1) (msF w k s)).2 ≤ _
    omega
theorem endP_le {m : Nat} (hW : WO a) : (endP m a).2 ≤ 10 := by
  have hf : frm a < 6 := hW.ro _ (Nat.mod_lt _ (by decide))
  have ht : too a < 6 := hW.ro _ (Nat.mod_lt _ (by decide))
  have k1 := wkA_ok hW
  have k2 := hands_ok (n := m) hf ht k1.1
  have k3 : WO (shN (hands (frm a) (too a) m (wkA a))) := k2.1.up_ct (by omega)
  have k4 := dcA_ok (t := too a) k3
  have k5 := bgA_ok (t := too a) (n := a 1) k4.1 hW.tp
  have h := ms_le (w := too a) ((fd (bgF (too a)) (a 1) 0 (dcA (too a) (shN (hands (frm a) (too a) m (wkA a))))) 13) 0 (fd (bgF (too a)) (a 1) 0 (dcA (too a) (shN (hands (frm a) (too a) m (wkA a)))), 0)
  have hl := k5.1.li
  have : (endP m a).2 ≤ 0 + (fd (bgF (too a)) (a 1) 0 (dcA (too a) (shN (hands (frm a) (too a) m (wkA a))))) 13 := h
  omega
end MSL
