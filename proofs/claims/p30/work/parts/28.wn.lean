/-! ===== what each change leaves well formed, counts too ===== -/
section WN1
variable {a : Nat → Nat} {N : Nat}
theorem WN.of_same {a' : Nat → Nat} (h : WN N a) (hw : WO a') (h0 : a' 0 = a 0) (h1 : ∀ k, 128 ≤ k → k < 148 → a' k = a k) : WN N a' :=
  ⟨hw, by rw [h0]; exact h.2.1, fun t ht => by rw [h0, h1 _ (by omega) (by omega)]; exact h.2.2.1 t ht, fun t ht => by rw [h1 _ (by omega) (by omega), h1 _ (by omega) (by omega)]; exact h.2.2.2 t ht⟩
theorem endP_ok {n : Nat} (h : WN N a) : WN (N + 1) (tot (endP n a)) := by
  obtain ⟨hW, hN, hb, hg⟩ := h
  have hf : frm a < 6 := hW.ro _ (Nat.mod_lt _ (by decide))
  have ht : too a < 6 := hW.ro _ (Nat.mod_lt _ (by decide))
  have hT := hW.tp
  have k1 := wkA_ok hW
  have k2 := hands_ok (n := n) hf ht k1.1
  have k3 : WO (shN (hands (frm a) (too a) n (wkA a))) := k2.1.up_ct (by omega)
  have k3' : ∀ k, 1 ≤ k → shN (hands (frm a) (too a) n (wkA a)) k = hands (frm a) (too a) n (wkA a) k := fun k hk => up_ne (by omega)
  have k4 := dcA_ok (t := too a) k3
  have k5 := bgA_ok (t := too a) (n := a 1) k4.1 hT
  have k6 := msE_ok (t := too a) k5.1
  have e0 : dcA (too a) (shN (hands (frm a) (too a) n (wkA a))) 0 = a 0 + 1 := by
    rw [k4.2 0 (by omega)]
    show up _ 0 _ 0 = _
    rw [up_at, k2.2 0 (by omega) (by omega), k1.2 0 (by omega)]
  have e1 : ∀ k, 128 ≤ k → k < 148 → dcA (too a) (shN (hands (frm a) (too a) n (wkA a))) k = a k := fun k g1 g2 => by
    rw [k4.2 k (by omega), k3' k (by omega), k2.2 k (by omega) (by omega), k1.2 k (by omega)]
  have key := (fd_loop (τ := Unit) (E := fun _ _ => ()) (f := bgF (too a)) (Inv := fun i (s : Nat → Nat) => ∀ t, t < 10 → s (128 + t) ≤ (if t < i then a 0 + 1 else a 0) ∧ s (138 + t) ≤ s (128 + t)) (a 1) (by
    intro i s hi hs
    refine ⟨rfl, fun t ht10 => ?_⟩
    have hi10 := hs i (by omega)
    rw [if_neg (Nat.lt_irrefl i)] at hi10
    have hst := hs t ht10
    unfold bgF
    by_cases e : t = i
    · subst e
      have hc1 : (if t < t + 1 then a 0 + 1 else a 0) = a 0 + 1 := if_pos (Nat.lt_succ_self t)
      rw [hc1]
      by_cases g1 : s (38 + t) = 1
      · rw [if_pos g1]
        by_cases g2 : s 2 ≤ s (58 + 10 * too a + t)
        · rw [if_pos g2, up_at, up_ne (by omega), up_at]; omega
        · rw [if_neg g2, up_at, up_ne (by omega)]; omega
      · rw [if_neg g1]; omega
    · have hc : (if t < i + 1 then a 0 + 1 else a 0) = (if t < i then a 0 + 1 else a 0) := by
        by_cases g : t < i
        · rw [if_pos g, if_pos (by omega)]
        · rw [if_neg g, if_neg (by omega)]
      rw [hc]
      by_cases g1 : s (38 + i) = 1
      · rw [if_pos g1]
        by_cases g2 : s 2 ≤ s (58 + 10 * too a + i)
        · rw [if_pos g2, up_ne (by omega), up_ne (by omega), up_ne (by omega), up_ne (by omega)]; exact hst
        · rw [if_neg g2, up_ne (by omega), up_ne (by omega)]; exact hst
      · rw [if_neg g1]; exact hst) (a 1) 0 _ (by omega) (show ∀ t, t < 10 → dcA (too a) (shN (hands (frm a) (too a) n (wkA a))) (128 + t) ≤ (if t < 0 then a 0 + 1 else a 0) ∧ dcA (too a) (shN (hands (frm a) (too a) n (wkA a))) (138 + t) ≤ dcA (too a) (shN (hands (frm a) (too a) n (wkA a))) (128 + t) from fun t ht10 => by
      rw [e1 _ (by omega) (by omega), e1 _ (by omega) (by omega), if_neg (by omega)]
      exact ⟨hb t ht10, hg t ht10⟩)).2
  have f0 : tot (endP n a) 0 = a 0 + 1 := by
    show up _ 8 _ 0 = _
    rw [up_ne (by decide)]
    show (msE _ _).1 0 = _
    rw [k6.2 0 (by omega), k5.2 0 (by omega), e0]
  have f1 : ∀ k, 128 ≤ k → k < 148 → tot (endP n a) k = fd (bgF (too a)) (a 1) 0 (dcA (too a) (shN (hands (frm a) (too a) n (wkA a)))) k := fun k g1 g2 => by
    show up _ 8 _ k = _
    rw [up_ne (by omega)]
    show (msE _ _).1 k = _
    rw [k6.2 k (by omega)]
  refine ⟨k6.1.up_ct (by omega), by rw [f0]; omega, fun t ht10 => ?_, fun t ht10 => ?_⟩
  · have := (key t ht10).1
    rw [f0, f1 _ (by omega) (by omega)]
    by_cases g : t < a 1
    · rw [if_pos g] at this; exact this
    · rw [if_neg g] at this; omega
  · rw [f1 _ (by omega) (by omega), f1 _ (by omega) (by omega)]
    exact (key t ht10).2
end WN1
