/-! ===== what is passed on ===== -/
def wd (a : Nat → Nat) (f t : Nat) : Option Nat × Nat := fd (wdF a f t) (a 1) 0 (none, 0)
abbrev needs (a : Nat → Nat) (f t k : Nat) : Prop := a (38 + a (48 + k)) = 1 ∧ a (58 + 10 * t + a (48 + k)) < a 2 ∧ a (58 + 10 * t + a (48 + k)) < a (58 + 10 * f + a (48 + k))
def fnd (a : Nat → Nat) (f t : Nat) : Nat → Nat → Option Nat
  | 0, _ => none
  | d + 1, k => if needs a f t k then some (a (48 + k)) else fnd a f t d (k + 1)
def picks (a : Nat → Nat) (f t : Nat) : Option Nat := match fnd a f t (a 13) 0 with
  | some x => some x
  | none => (wd a f t).1
def lift (a : Nat → Nat) (f t x : Nat) : Nat → Nat := up a (58 + 10 * t + x) (min (a (58 + 10 * f + x)) (a (58 + 10 * t + x) + a 3))
def hand (f t : Nat) : Nat → (Nat → Nat) → (Nat → Nat)
  | 0, a => a
  | n + 1, a => match picks a f t with
    | some x => hand f t n (lift a f t x)
    | none => a
def idle (f t : Nat) : Nat → (Nat → Nat) → Nat
  | 0, _ => 0
  | n + 1, a => match picks a f t with
    | some x => idle f t n (lift a f t x)
    | none => n + 1
section PP
variable {a : Nat → Nat} {f t : Nat}
theorem wd_some (hW : WO a) (hf : f < 6) (ht : t < 6) : (wd a f t).2 ≤ 100 ∧ ∀ x, (wd a f t).1 = some x → x < a 1 ∧ a (38 + x) = 1 ∧ a (58 + 10 * t + x) < a (58 + 10 * f + x) := by
  have hT := hW.tp
  refine fd_inv (P := fun p => p.2 ≤ 100 ∧ ∀ x, p.1 = some x → x < a 1 ∧ a (38 + x) = 1 ∧ a (58 + 10 * t + x) < a (58 + 10 * f + x)) (n := a 1) ?_ (a 1) 0 (none, 0) (by omega) ⟨by decide, fun x h => by cases h⟩
  intro i s hi hs
  unfold wdF
  by_cases e : a (38 + i) = 1 ∧ s.2 + a (58 + 10 * t + i) < a (58 + 10 * f + i)
  · rw [if_pos e]
    refine ⟨?_, fun x h => ?_⟩
    · have := hW.lv f i hf (by omega)
      show a (58 + 10 * f + i) - a (58 + 10 * t + i) ≤ 100
      omega
    · cases h
      exact ⟨hi, e.1, by omega⟩
  · rw [if_neg e]
    exact hs
theorem fnd_some : ∀ d k x, fnd a f t d k = some x → ∃ j, k ≤ j ∧ j < k + d ∧ needs a f t j ∧ x = a (48 + j)
  | 0, k, x, h => by cases h
  | d + 1, k, x, h => by
    unfold fnd at h
    by_cases e : needs a f t k
    · rw [if_pos e] at h
      cases h
      exact ⟨k, Nat.le_refl k, by omega, e, rfl⟩
    · rw [if_neg e] at h
      obtain ⟨j, h1, h2, h3, h4⟩ := fnd_some d (k + 1) x h
      exact ⟨j, by omega, by omega, h3, h4⟩
theorem fnd_at : ∀ d k p, k + d = a 13 → k ≤ p → p < a 13 → (∀ j, j < p → ¬ needs a f t j) → needs a f t p → fnd a f t d k = some (a (48 + p))
  | 0, k, p, h1, h2, h3, _, _ => by omega
  | d + 1, k, p, h1, h2, h3, h4, h5 => by
    unfold fnd
    by_cases e : k = p
    · subst e
      rw [if_pos h5]
    · rw [if_neg (h4 k (by omega))]
      exact fnd_at d (k + 1) p (by omega) (by omega) h3 h4 h5
theorem fnd_none : ∀ d k, k + d = a 13 → (∀ j, j < a 13 → ¬ needs a f t j) → fnd a f t d k = none
  | 0, _, _, _ => rfl
  | d + 1, k, h1, h4 => by
    unfold fnd
    rw [if_neg (h4 k (by omega))]
    exact fnd_none d (k + 1) (by omega) h4
theorem picks_at {p : Nat} (h3 : p < a 13) (h4 : ∀ j, j < p → ¬ needs a f t j) (h5 : needs a f t p) : picks a f t = some (a (48 + p)) := by
  unfold picks
  rw [fnd_at (a 13) 0 p (by omega) (by omega) h3 h4 h5]
theorem picks_wd (h4 : ∀ j, j < a 13 → ¬ needs a f t j) : picks a f t = (wd a f t).1 := by
  unfold picks
  rw [fnd_none (a 13) 0 (by omega) h4]
theorem picks_some (hW : WO a) (hf : f < 6) (ht : t < 6) {x : Nat} (h : picks a f t = some x) : x < a 1 ∧ a (38 + x) = 1 ∧ a (58 + 10 * t + x) < a (58 + 10 * f + x) := by
  unfold picks at h
  cases e : fnd a f t (a 13) 0 with
  | none => rw [e] at h; exact (wd_some hW hf ht).2 x h
  | some y =>
    rw [e] at h
    cases h
    obtain ⟨j, _, h2, h3, h4⟩ := fnd_some _ _ _ e
    subst h4
    exact ⟨hW.le j (by omega), h3.1, h3.2.2⟩
theorem lift_ok (hW : WO a) (hf : f < 6) (ht : t < 6) {x : Nat} (hx : x < a 1) : WO (lift a f t x) ∧ ∀ k, k ≠ 58 + 10 * t + x → lift a f t x k = a k := by
  have := hW.tp
  have := hW.lv f x hf (by omega)
  unfold lift
  exact ⟨hW.up_lv ht hx (by omega), fun k hk => up_ne hk⟩
theorem needs_lift (hW : WO a) (hf : f < 6) (ht : t < 6) (hn : f ≠ t) {x j : Nat} (hx : x < a 1) (hl : a (58 + 10 * t + x) < a (58 + 10 * f + x)) (hj : j < a 13) (h : ¬ needs a f t j) : ¬ needs (lift a f t x) f t j := by
  intro h2
  have hT := hW.tp
  have hL := hW.li
  have hy := hW.le j hj
  have hk := (lift_ok hW hf ht hx).2
  unfold needs at h2
  rw [hk (48 + j) (by omega), hk (38 + _) (by omega), hk 2 (by omega), hk (58 + 10 * f + _) (by omega)] at h2
  apply h
  refine ⟨h2.1, ?_, ?_⟩
  · by_cases e : a (48 + j) = x
    · rw [e]
      have := h2.2.1
      unfold lift at this
      rw [e, up_at] at this
      omega
    · rw [hk _ (by omega)] at h2
      exact h2.2.1
  · by_cases e : a (48 + j) = x
    · rw [e]
      exact hl
    · rw [hk _ (by omega)] at h2
      exact h2.2.2
end PP
section S4
variable {I : Nat → Nat → Int32} {R : Nat → Nat → Option Nat} {b : Nat} {a : Nat → Nat}
theorem f33 {f t : Nat} (hb : b < 13) (hR : RS R) (hI : I b = vI a) (hW : WO a) (hf : f < 6) (ht : t < 6) : FF 33 [.ref (16 * b), .ref (16 * b + (5 + f)), .ref (16 * b + (5 + t))] (202, I, R) = some (some (.int (oN (-6) (wd a f t).1)), 202, I, R) := by
  have ho := os hb
  have hT := hW.tp
  have main := fd_loop (E := fun i (s : Option Nat × Nat) => EE 33 9 [some (.ref (16 * b)), some (.ref (16 * b + (5 + f))), some (.ref (16 * b + (5 + t))), some (.int (oN (-6) s.1)), some (.int (nI s.2)), some (.int (nI i))] [] (202, I, R)) (f := wdF a f t) (Inv := fun i s => s.2 ≤ 100) (a 1) (by
    intro i s hi hs
    have l1 := hW.lv f i hf (by omega)
    have l2 := hW.lv t i ht (by omega)
    have hn : ¬ a 1 ≤ i := by omega
    have hle := nI_ltsub _ l1 _ l2 _ hs
    show EE 33 9 _ _ _ = EE 33 9 _ _ _ ∧ _
    rw [s33_9]
    unfold wdF
    by_cases e : a (38 + i) = 1
    · by_cases e2 : s.2 + a (58 + 10 * t + i) < a (58 + 10 * f + i)
      · have e3 : ¬ a (58 + 10 * f + i) ≤ s.2 + a (58 + 10 * t + i) := by omega
        have e4 := nI_sub (x := a (58 + 10 * f + i)) (y := a (58 + 10 * t + i)) (by omega)
        rw [if_pos ⟨e, e2⟩]
        refine ⟨?_, by show a (58 + 10 * f + i) - a (58 + 10 * t + i) ≤ 100; omega⟩
        simp (disch := first | omega | (show List.length _ ≤ 4; exact Nat.le_of_ble_eq_true rfl) | assumption | exact nbo_0 | exact nbo_1 | exact b2_b) only [s33_0, s33_2, s33_3, s33_4, s33_6, s33_7, s33_11, s33_12, s33_15, s33_18, s33_19, s33_21, s33_24, s33_27, s33_28, s33_30, s33_31, s33_32, s33_34, s33_35, s33_36, s33_38, s33_41, s33_43, s33_44, s33_45, s33_47, s33_48, s33_49, s33_51, s33_52, s33_53, s33_55, s33_58, s33_61, s33_62, ↓reduceIte, psh_some, psh_none, cln_i, cln_r, cln_n, cln_l, cln_d, cln_f, Option.bind_some, Option.bind_none, if_true, if_false, nI_add, pk_mul, nbo_0, nbo_1, nI_leI, nI_ltI, nI_eq, Nat.reduceAdd, Nat.reduceMul, Nat.add_zero, Nat.mul_zero, hI, vI_at, gs_8 hb, f19 hb hI hW, b2_if, as_5 hb hf, as_5 hb ht, hn, e, hle, e3]
        rw [e4]
        rfl
      · have e3 : a (58 + 10 * f + i) ≤ s.2 + a (58 + 10 * t + i) := by omega
        rw [if_neg (fun h => e2 h.2)]
        refine ⟨?_, hs⟩
        simp (disch := first | omega | (show List.length _ ≤ 4; exact Nat.le_of_ble_eq_true rfl) | assumption | exact nbo_0 | exact nbo_1 | exact b2_b) only [s33_0, s33_2, s33_3, s33_4, s33_6, s33_7, s33_11, s33_12, s33_15, s33_18, s33_19, s33_21, s33_24, s33_27, s33_28, s33_30, s33_31, s33_32, s33_34, s33_35, s33_36, s33_38, s33_41, s33_43, s33_44, s33_45, s33_47, s33_48, s33_49, s33_51, s33_52, s33_53, s33_55, s33_58, s33_61, s33_62, ↓reduceIte, psh_some, psh_none, cln_i, cln_r, cln_n, cln_l, cln_d, cln_f, Option.bind_some, Option.bind_none, if_true, if_false, nI_add, pk_mul, nbo_0, nbo_1, nI_leI, nI_ltI, nI_eq, Nat.reduceAdd, Nat.reduceMul, Nat.add_zero, Nat.mul_zero, hI, vI_at, gs_8 hb, f19 hb hI hW, b2_if, as_5 hb hf, as_5 hb ht, hn, e, hle, e3]
    · rw [if_neg (fun h => e h.1)]
      refine ⟨?_, hs⟩
      simp (disch := first | omega | (show List.length _ ≤ 4; exact Nat.le_of_ble_eq_true rfl) | assumption | exact nbo_0 | exact nbo_1 | exact b2_b) only [s33_0, s33_2, s33_3, s33_4, s33_6, s33_7, s33_11, s33_12, s33_15, s33_18, s33_19, s33_21, s33_24, s33_27, s33_28, s33_30, s33_31, s33_32, s33_34, s33_35, s33_36, s33_38, s33_41, s33_43, s33_44, s33_45, s33_47, s33_48, s33_49, s33_51, s33_52, s33_53, s33_55, s33_58, s33_61, s33_62, ↓reduceIte, psh_some, psh_none, cln_i, cln_r, cln_n, cln_l, cln_d, cln_f, Option.bind_some, Option.bind_none, if_true, if_false, nI_add, pk_mul, nbo_0, nbo_1, nI_leI, nI_ltI, nI_eq, Nat.reduceAdd, Nat.reduceMul, Nat.add_zero, Nat.mul_zero, hI, vI_at, gs_8 hb, f19 hb hI hW, b2_if, hn, e]) (a 1) 0 (none, 0) (by omega) (by decide)
  obtain ⟨m1, m2⟩ := main
  have h0 : FF 33 [.ref (16 * b), .ref (16 * b + (5 + f)), .ref (16 * b + (5 + t))] (202, I, R) = EE 33 9 [some (.ref (16 * b)), some (.ref (16 * b + (5 + f))), some (.ref (16 * b + (5 + t))), some (.int (oN (-6) none)), some (.int (nI 0)), some (.int (nI 0))] [] (202, I, R) := by
    simp (disch := first | omega | (show List.length _ ≤ 4; exact Nat.le_of_ble_eq_true rfl) | assumption | exact nbo_0 | exact nbo_1 | exact b2_b) only [FE33, s33_0, s33_2, s33_3, s33_4, s33_6, s33_7, s33_11, s33_12, s33_15, s33_18, s33_19, s33_21, s33_24, s33_27, s33_28, s33_30, s33_31, s33_32, s33_34, s33_35, s33_36, s33_38, s33_41, s33_43, s33_44, s33_45, s33_47, s33_48, s33_49, s33_51, s33_52, s33_53, s33_55, s33_58, s33_61, s33_62, ↓reduceIte, psh_some, psh_none, cln_i, cln_r, cln_n, cln_l, cln_d, cln_f, Option.bind_some, Option.bind_none, if_true, if_false, nI_add, pk_mul, nbo_0, nbo_1, nI_leI, nI_ltI, nI_eq, Nat.reduceAdd, Nat.reduceMul, Nat.add_zero, Nat.mul_zero]
    rfl
  refine h0.trans (m1.trans ?_)
  show EE 33 9 _ _ _ = _
  rw [s33_9]
  simp (disch := first | omega | (show List.length _ ≤ 4; exact Nat.le_of_ble_eq_true rfl) | assumption | exact nbo_0 | exact nbo_1 | exact b2_b) only [s33_0, s33_2, s33_3, s33_4, s33_6, s33_7, s33_11, s33_12, s33_15, s33_18, s33_19, s33_21, s33_24, s33_27, s33_28, s33_30, s33_31, s33_32, s33_34, s33_35, s33_36, s33_38, s33_41, s33_43, s33_44, s33_45, s33_47, s33_48, s33_49, s33_51, s33_52, s33_53, s33_55, s33_58, s33_61, s33_62, ↓reduceIte, psh_some, psh_none, cln_i, cln_r, cln_n, cln_l, cln_d, cln_f, Option.bind_some, Option.bind_none, if_true, if_false, nI_add, pk_mul, nbo_0, nbo_1, nI_leI, nI_ltI, nI_eq, Nat.reduceAdd, Nat.reduceMul, Nat.add_zero, Nat.mul_zero, hI, vI_at, gs_8 hb, Nat.le_refl]
  rfl
end S4
