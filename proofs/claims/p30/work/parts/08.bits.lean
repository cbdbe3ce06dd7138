/-! ===== the open topics as bits ===== -/
theorem sh_bit : ∀ m, m < 1024 → ∀ t, t < 10 → (nI m >>> (nI t &&& 31)) &&& nI 1 = nI (m / 2 ^ t % 2) := by decide +kernel
theorem or_bit : ∀ m, m < 1024 → ∀ t, t < 10 → m / 2 ^ t % 2 = 0 → nI m ||| (nI 1 <<< (nI t &&& 31)) = nI (m + 2 ^ t) := by decide +kernel
theorem xo_bit : ∀ m, m < 1024 → ∀ t, t < 10 → nI m ^^^ (nI 1 <<< (nI t &&& 31)) = nI (if m / 2 ^ t % 2 = 0 then m + 2 ^ t else m - 2 ^ t) := by decide +kernel
def bitsOf (m : Nat) : Nat := m % 2 + m / 2 % 2 + m / 4 % 2 + m / 8 % 2 + m / 16 % 2 + m / 32 % 2 + m / 64 % 2 + m / 128 % 2 + m / 256 % 2 + m / 512 % 2
def bsum (a : Nat → Nat) : Nat := a 38 + a 39 + a 40 + a 41 + a 42 + a 43 + a 44 + a 45 + a 46 + a 47
section BT
variable {a : Nat → Nat}
theorem bt1_v {t : Nat} (h : a (38 + t) ≤ 1) : bt1 (vI a) t = a (38 + t) := by
  unfold bt1
  show (if nI (a (38 + t)) = 1 then 1 else 0) = _
  rcases (show a (38 + t) = 0 ∨ a (38 + t) = 1 by omega) with h | h <;> rw [h] <;> decide
theorem pkN_v (h : ∀ t, t < 10 → a (38 + t) ≤ 1) : pkN (vI a) = a 38 + 2 * a 39 + 4 * a 40 + 8 * a 41 + 16 * a 42 + 32 * a 43 + 64 * a 44 + 128 * a 45 + 256 * a 46 + 512 * a 47 := by
  unfold pkN
  rw [bt1_v (h 0 (by decide)), bt1_v (h 1 (by decide)), bt1_v (h 2 (by decide)), bt1_v (h 3 (by decide)), bt1_v (h 4 (by decide)), bt1_v (h 5 (by decide)), bt1_v (h 6 (by decide)), bt1_v (h 7 (by decide)), bt1_v (h 8 (by decide)), bt1_v (h 9 (by decide))]
theorem op_all (h : ∀ t, t < 10 → a (38 + t) ≤ 1) : a 38 ≤ 1 ∧ a 39 ≤ 1 ∧ a 40 ≤ 1 ∧ a 41 ≤ 1 ∧ a 42 ≤ 1 ∧ a 43 ≤ 1 ∧ a 44 ≤ 1 ∧ a 45 ≤ 1 ∧ a 46 ≤ 1 ∧ a 47 ≤ 1 := ⟨h 0 (by decide), h 1 (by decide), h 2 (by decide), h 3 (by decide), h 4 (by decide), h 5 (by decide), h 6 (by decide), h 7 (by decide), h 8 (by decide), h 9 (by decide)⟩
theorem pkN_lt (h : ∀ t, t < 10 → a (38 + t) ≤ 1) : pkN (vI a) < 1024 := by
  have := op_all h
  rw [pkN_v h]
  omega
theorem pkN_bit (h : ∀ t, t < 10 → a (38 + t) ≤ 1) {t : Nat} (ht : t < 10) : pkN (vI a) / 2 ^ t % 2 = a (38 + t) := by
  have := op_all h
  rw [pkN_v h]
  rcases (show t = 0 ∨ t = 1 ∨ t = 2 ∨ t = 3 ∨ t = 4 ∨ t = 5 ∨ t = 6 ∨ t = 7 ∨ t = 8 ∨ t = 9 by omega) with rfl | rfl | rfl | rfl | rfl | rfl | rfl | rfl | rfl | rfl <;> (simp only [Nat.reducePow, Nat.reduceAdd]; omega)
theorem pk_at (h : ∀ t, t < 10 → a (38 + t) ≤ 1) {t : Nat} (ht : t < 10) : (pk (vI a) >>> (nI t &&& 31)) &&& nI 1 = nI (a (38 + t)) := by
  unfold pk
  rw [sh_bit _ (pkN_lt h) t ht, pkN_bit h ht]
theorem unpk_v {a' : Nat → Nat} (h : ∀ t, t < 10 → a' (38 + t) ≤ 1) (he : ∀ k, ¬ (38 ≤ k ∧ k < 48) → a' k = a k) : unpk (vI a) (pkN (vI a')) = vI a' := by
  funext k
  unfold unpk
  by_cases hk : 38 ≤ k ∧ k < 48
  · rw [if_pos hk]
    obtain ⟨t, rfl⟩ : ∃ t, k = 38 + t := ⟨k - 38, by omega⟩
    rw [Nat.add_sub_cancel_left, pkN_bit h (by omega)]
    rfl
  · rw [if_neg hk]
    show nI (a k) = nI (a' k)
    rw [he k hk]
theorem op_up (h : ∀ t, t < 10 → a (38 + t) ≤ 1) {t x : Nat} (hx : x ≤ 1) : ∀ t', t' < 10 → up a (38 + t) x (38 + t') ≤ 1 := by
  intro t' ht'
  by_cases e : 38 + t' = 38 + t
  · rw [e, up_at]; exact hx
  · rw [up_ne e]; exact h t' ht'
theorem pkN_up {a : Nat → Nat} (h : ∀ t, t < 10 → a (38 + t) ≤ 1) {t x : Nat} (ht : t < 10) (hx : x ≤ 1) : pkN (vI (up a (38 + t) x)) = pkN (vI a) + 2 ^ t * x - 2 ^ t * a (38 + t) := by
  have := op_all h
  have h2 := op_up h (t := t) hx
  rw [pkN_v h2, pkN_v h]
  unfold up
  rcases (show t = 0 ∨ t = 1 ∨ t = 2 ∨ t = 3 ∨ t = 4 ∨ t = 5 ∨ t = 6 ∨ t = 7 ∨ t = 8 ∨ t = 9 by omega) with rfl | rfl | rfl | rfl | rfl | rfl | rfl | rfl | rfl | rfl <;> (simp (disch := omega) only [Nat.reducePow, Nat.reduceAdd, Nat.reduceEqDiff, if_true, if_false]; omega)
theorem pk_or (h : ∀ t, t < 10 → a (38 + t) ≤ 1) {t : Nat} (ht : t < 10) (h0 : a (38 + t) = 0) : pk (vI a) ||| (nI 1 <<< (nI t &&& 31)) = nI (pkN (vI (up a (38 + t) 1))) := by
  unfold pk
  rw [or_bit _ (pkN_lt h) t ht (by rw [pkN_bit h ht, h0]), pkN_up h ht (by decide), h0]
  congr 1
  omega
theorem pk_xor (h : ∀ t, t < 10 → a (38 + t) ≤ 1) {t : Nat} (ht : t < 10) : pk (vI a) ^^^ (nI 1 <<< (nI t &&& 31)) = nI (pkN (vI (up a (38 + t) (1 - a (38 + t))))) := by
  unfold pk
  rw [xo_bit _ (pkN_lt h) t ht, pkN_up h ht (by omega), pkN_bit h ht]
  have := h t ht
  rcases (show a (38 + t) = 0 ∨ a (38 + t) = 1 by omega) with e | e
  · rw [e]; congr 1; rw [if_pos rfl]; omega
  · rw [e]; congr 1; rw [if_neg (by decide)]; omega
end BT
section BC
variable {M : Mm}
theorem f154 {m : Nat} (hm : m < 1024) : FF 154 [.int (nI m)] M = some (some (.int (nI (bitsOf m))), M) := by
  simp (disch := first | omega | (show List.length _ ≤ 4; exact Nat.le_of_ble_eq_true rfl) | assumption | exact nbo_0 | exact nbo_1 | exact b2_b) only [FE154, s154_0, s154_1, s154_2, s154_3, s154_4, s154_7, s154_8, s154_9, s154_10, s154_11, s154_14, s154_15, s154_16, s154_17, s154_18, s154_21, s154_22, s154_23, s154_24, s154_25, s154_26, s154_27, s154_28, s154_29, s154_32, s154_33, s154_34, s154_35, s154_36, s154_38, s154_39, s154_40, s154_41, s154_42, s154_43, s154_45, s154_46, s154_47, s154_48, s154_49, s154_51, s154_52, ↓reduceIte, psh_some, psh_none, cln_i, cln_r, cln_n, cln_l, cln_d, cln_f, Option.bind_some, Option.bind_none, if_true, if_false, nI_add, pk_mul, nbo_0, nbo_1, nI_leI, nI_ltI, nI_eq, Nat.reduceAdd, Nat.reduceMul, Nat.add_zero, Nat.mul_zero]
  refine congrArg (fun z => some (some (Value.int z), M)) ?_
  revert m
  decide +kernel
end BC
