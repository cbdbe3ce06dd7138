/-! ===== numbers, truth values, loops ===== -/
def b2 (P : Prop) [Decidable P] : Int32 := if P then nI 1 else nI 0
theorem b2_if {α : Type} {P : Prop} [Decidable P] (x y : α) : (if b2 P = 0 then x else y) = if P then y else x := by
  unfold b2
  by_cases h : P
  · rw [if_pos h, if_pos h, if_neg (by decide)]
  · rw [if_neg h, if_neg h, if_pos (by decide)]
theorem b2_if1 {α : Type} {P : Prop} [Decidable P] (x y : α) : (if b2 P = nI 1 then x else y) = if P then x else y := by
  unfold b2
  by_cases h : P
  · rw [if_pos h, if_pos h, if_pos rfl]
  · rw [if_neg h, if_neg h, if_neg (by decide)]
theorem b2_t {P : Prop} [Decidable P] (h : P) : b2 P = nI 1 := if_pos h
theorem b2_f {P : Prop} [Decidable P] (h : ¬ P) : b2 P = nI 0 := if_neg h
theorem b2_c {P Q : Prop} [Decidable P] [Decidable Q] (h : P ↔ Q) : b2 P = b2 Q := by
  by_cases hp : P
  · rw [b2_t hp, b2_t (h.mp hp)]
  · rw [b2_f hp, b2_f (fun hq => hp (h.mpr hq))]
theorem b2_b {P : Prop} [Decidable P] : narrow .boolean (.int (b2 P)) = .int (b2 P) := by
  by_cases h : P
  · rw [b2_t h]; exact nbo_1
  · rw [b2_f h]; exact nbo_0
theorem ite_b2 {P : Prop} [Decidable P] {M : Mm} : (if P then some (some (Value.int (nI 1)), M) else some (some (Value.int (nI 0)), M)) = some (some (Value.int (b2 P)), M) := by
  by_cases h : P
  · rw [if_pos h, b2_t h]
  · rw [if_neg h, b2_f h]
/-- a counted loop -/
theorem for_loop {σ τ : Type} {E : Nat → σ → τ} {f : Nat → σ → σ} {Inv : Nat → σ → Prop} (n : Nat) (hs : ∀ i s, i < n → Inv i s → E i s = E (i + 1) (f i s) ∧ Inv (i + 1) (f i s)) : ∀ d i s, i + d = n → Inv i s → ∃ s', s' = Nat.rec (motive := fun _ => Nat → σ → σ) (fun _ s => s) (fun _ r i s => r (i + 1) (f i s)) d i s ∧ E i s = E n s' ∧ Inv n s'
  | 0, i, s, h, hi => ⟨s, rfl, by rw [← h]; rfl, by rw [← h]; exact hi⟩
  | d + 1, i, s, h, hi => by
    obtain ⟨h1, h2⟩ := hs i s (by omega) hi
    obtain ⟨s', h3, h4, h5⟩ := for_loop n hs d (i + 1) (f i s) (by omega) h2
    exact ⟨s', h3, h1.trans h4, h5⟩
/-- f at i, i+1, .. (d of them) -/
def fd {σ : Type} (f : Nat → σ → σ) : Nat → Nat → σ → σ
  | 0, _, s => s
  | d + 1, i, s => fd f d (i + 1) (f i s)
theorem fd_loop {σ τ : Type} {E : Nat → σ → τ} {f : Nat → σ → σ} {Inv : Nat → σ → Prop} (n : Nat) (hs : ∀ i s, i < n → Inv i s → E i s = E (i + 1) (f i s) ∧ Inv (i + 1) (f i s)) : ∀ d i s, i + d = n → Inv i s → E i s = E n (fd f d i s) ∧ Inv n (fd f d i s)
  | 0, i, s, h, hi => ⟨by rw [← h]; rfl, by rw [← h]; exact hi⟩
  | d + 1, i, s, h, hi => by
    obtain ⟨h1, h2⟩ := hs i s (by omega) hi
    obtain ⟨h4, h5⟩ := fd_loop n hs d (i + 1) (f i s) (by omega) h2
    exact ⟨h1.trans h4, h5⟩
theorem fd_inv {σ : Type} {f : Nat → σ → σ} {P : σ → Prop} {n : Nat} (hs : ∀ i s, i < n → P s → P (f i s)) : ∀ d i s, i + d ≤ n → P s → P (fd f d i s)
  | 0, _, _, _, h => h
  | d + 1, i, s, hd, h => fd_inv hs d (i + 1) (f i s) (by omega) (hs i s (by omega) h)
theorem fd_id {σ : Type} {f : Nat → σ → σ} {P : σ → Prop} {n : Nat} (hs : ∀ i s, n ≤ i → P s → f i s = s) : ∀ d i s, n ≤ i → P s → fd f d i s = s
  | 0, _, _, _, _ => rfl
  | d + 1, i, s, hi, h => by
    show fd f d (i + 1) (f i s) = s
    rw [hs i s hi h]
    exact fd_id hs d (i + 1) s (by omega) h
theorem fd_app {σ : Type} {f : Nat → σ → σ} : ∀ d e i s, fd f (d + e) i s = fd f e (i + d) (fd f d i s)
  | 0, e, i, s => by rw [Nat.zero_add]; rfl
  | d + 1, e, i, s => by
    rw [show d + 1 + e = (d + e) + 1 by omega]
    show fd f (d + e) (i + 1) (f i s) = _
    rw [fd_app d e (i + 1) (f i s), show i + 1 + d = i + (d + 1) by omega]
    rfl
theorem fd_last {σ : Type} {f : Nat → σ → σ} (d i : Nat) (s : σ) : fd f (d + 1) i s = f (i + d) (fd f d i s) := by rw [fd_app d 1 i s]; rfl
theorem fd_c {σ : Type} {f g : Nat → σ → σ} {P : σ → Prop} {n : Nat} (hs : ∀ i s, i < n → P s → f i s = g i s ∧ P (g i s)) : ∀ d i s, i + d ≤ n → P s → fd f d i s = fd g d i s
  | 0, _, _, _, _ => rfl
  | d + 1, i, s, hd, h => by
    obtain ⟨h1, h2⟩ := hs i s (by omega) h
    show fd f d (i + 1) (f i s) = fd g d (i + 1) (g i s)
    rw [h1]
    exact fd_c hs d (i + 1) (g i s) (by omega) h2
/-! ===== a state's numbers ===== -/
/-- what a change may count on: all but the shift's own counts -/
def WO (a : Nat → Nat) : Prop := a 1 ≤ 10 ∧ (1 ≤ a 2 ∧ a 2 ≤ 100) ∧ (1 ≤ a 3 ∧ a 3 ≤ 20) ∧ a 4 ≤ 50 ∧ a 5 ≤ 20 ∧ a 6 ≤ 99 ∧ a 7 ≤ 999 ∧ a 13 ≤ 10
  ∧ (∀ p, p < 12 → a (14 + p) < 6) ∧ (∀ p, p < 12 → a (26 + p) ≤ 60) ∧ (∀ t, t < 10 → a (38 + t) ≤ 1) ∧ (∀ t, t < 10 → a 1 ≤ t → a (38 + t) = 0)
  ∧ (∀ k, k < a 13 → a (48 + k) < a 1) ∧ (∀ i j, i < j → j < a 13 → a (48 + i) ≠ a (48 + j))
  ∧ (∀ w t, w < 6 → t < 10 → a (58 + 10 * w + t) ≤ 100) ∧ (∀ w t, w < 6 → t < 10 → a 1 ≤ t → a (58 + 10 * w + t) = 0) ∧ ∀ k, 148 ≤ k → a k = 0
def WN (N : Nat) (a : Nat → Nat) : Prop := WO a ∧ a 0 ≤ N ∧ (∀ t, t < 10 → a (128 + t) ≤ a 0) ∧ ∀ t, t < 10 → a (138 + t) ≤ a (128 + t)
section WOs
variable {a : Nat → Nat}
theorem WO.tp (h : WO a) : a 1 ≤ 10 := h.1
theorem WO.kn (h : WO a) : 1 ≤ a 2 ∧ a 2 ≤ 100 := h.2.1
theorem WO.ps (h : WO a) : 1 ≤ a 3 ∧ a 3 ≤ 20 := h.2.2.1
theorem WO.dc (h : WO a) : a 4 ≤ 50 := h.2.2.2.1
theorem WO.wk (h : WO a) : a 5 ≤ 20 := h.2.2.2.2.1
theorem WO.co (h : WO a) : a 6 ≤ 99 := h.2.2.2.2.2.1
theorem WO.ca (h : WO a) : a 7 ≤ 999 := h.2.2.2.2.2.2.1
theorem WO.li (h : WO a) : a 13 ≤ 10 := h.2.2.2.2.2.2.2.1
theorem WO.ro (h : WO a) : ∀ p, p < 12 → a (14 + p) < 6 := h.2.2.2.2.2.2.2.2.1
theorem WO.mi (h : WO a) : ∀ p, p < 12 → a (26 + p) ≤ 60 := h.2.2.2.2.2.2.2.2.2.1
theorem WO.op (h : WO a) : ∀ t, t < 10 → a (38 + t) ≤ 1 := h.2.2.2.2.2.2.2.2.2.2.1
theorem WO.oz (h : WO a) : ∀ t, t < 10 → a 1 ≤ t → a (38 + t) = 0 := h.2.2.2.2.2.2.2.2.2.2.2.1
theorem WO.le (h : WO a) : ∀ k, k < a 13 → a (48 + k) < a 1 := h.2.2.2.2.2.2.2.2.2.2.2.2.1
theorem WO.nd (h : WO a) : ∀ i j, i < j → j < a 13 → a (48 + i) ≠ a (48 + j) := h.2.2.2.2.2.2.2.2.2.2.2.2.2.1
theorem WO.lv (h : WO a) : ∀ w t, w < 6 → t < 10 → a (58 + 10 * w + t) ≤ 100 := h.2.2.2.2.2.2.2.2.2.2.2.2.2.2.1
theorem WO.lz (h : WO a) : ∀ w t, w < 6 → t < 10 → a 1 ≤ t → a (58 + 10 * w + t) = 0 := h.2.2.2.2.2.2.2.2.2.2.2.2.2.2.2.1
theorem WO.zz (h : WO a) : ∀ k, 148 ≤ k → a k = 0 := h.2.2.2.2.2.2.2.2.2.2.2.2.2.2.2.2
/-- a level changes -/
theorem WO.up_lv (h : WO a) {w t x : Nat} (hw : w < 6) (ht : t < a 1) (hx : x ≤ 100) : WO (up a (58 + 10 * w + t) x) := by
  have h1 := h.tp
  have e : ∀ k, k < 58 → up a (58 + 10 * w + t) x k = a k := fun k hk => if_neg (by omega)
  refine ⟨?_, ?_, ?_, ?_, ?_, ?_, ?_, ?_, ?_, ?_, ?_, ?_, ?_, ?_, ?_, ?_, ?_⟩
  · rw [e 1 (by omega)]; exact h.tp
  · rw [e 2 (by omega)]; exact h.kn
  · rw [e 3 (by omega)]; exact h.ps
  · rw [e 4 (by omega)]; exact h.dc
  · rw [e 5 (by omega)]; exact h.wk
  · rw [e 6 (by omega)]; exact h.co
  · rw [e 7 (by omega)]; exact h.ca
  · rw [e 13 (by omega)]; exact h.li
  · intro p hp; rw [e _ (by omega)]; exact h.ro p hp
  · intro p hp; rw [e _ (by omega)]; exact h.mi p hp
  · intro p hp; rw [e _ (by omega)]; exact h.op p hp
  · intro p hp; rw [e _ (by omega), e _ (by omega)]; exact h.oz p hp
  · have := h.li; intro k hk; rw [e 13 (by omega)] at hk; rw [e _ (by omega), e _ (by omega)]; exact h.le k hk
  · have := h.li; intro i j hi hj; rw [e 13 (by omega)] at hj; rw [e _ (by omega), e _ (by omega)]; exact h.nd i j hi hj
  · intro w' t' hw' ht'
    by_cases he : 58 + 10 * w' + t' = 58 + 10 * w + t
    · rw [he, up_at]; exact hx
    · rw [up_ne he]; exact h.lv w' t' hw' ht'
  · intro w' t' hw' ht'
    rw [e 1 (by omega)]
    intro hz
    rw [up_ne (by omega)]
    exact h.lz w' t' hw' ht' hz
  · intro k hk
    rw [up_ne (by omega)]
    exact h.zz k hk
/-- a count changes -/
theorem WO.up_ct (h : WO a) {k x : Nat} (hk : k = 0 ∨ 8 ≤ k ∧ k < 13 ∨ 118 ≤ k ∧ k < 148) : WO (up a k x) := by
  have h1 := h.tp
  have e : ∀ j, 1 ≤ j → j < 8 → up a k x j = a j := fun j h1 h2 => if_neg (by omega)
  have e2 : ∀ j, 13 ≤ j → j < 118 → up a k x j = a j := fun j h1 h2 => if_neg (by omega)
  refine ⟨?_, ?_, ?_, ?_, ?_, ?_, ?_, ?_, ?_, ?_, ?_, ?_, ?_, ?_, ?_, ?_, ?_⟩
  · rw [e 1 (by omega) (by omega)]; exact h.tp
  · rw [e 2 (by omega) (by omega)]; exact h.kn
  · rw [e 3 (by omega) (by omega)]; exact h.ps
  · rw [e 4 (by omega) (by omega)]; exact h.dc
  · rw [e 5 (by omega) (by omega)]; exact h.wk
  · rw [e 6 (by omega) (by omega)]; exact h.co
  · rw [e 7 (by omega) (by omega)]; exact h.ca
  · rw [e2 13 (by omega) (by omega)]; exact h.li
  · intro p hp; rw [e2 _ (by omega) (by omega)]; exact h.ro p hp
  · intro p hp; rw [e2 _ (by omega) (by omega)]; exact h.mi p hp
  · intro p hp; rw [e2 _ (by omega) (by omega)]; exact h.op p hp
  · intro p hp; rw [e 1 (by omega) (by omega), e2 _ (by omega) (by omega)]; exact h.oz p hp
  · have := h.li; intro k hk; rw [e2 13 (by omega) (by omega)] at hk; rw [e2 _ (by omega) (by omega), e 1 (by omega) (by omega)]; exact h.le k hk
  · have := h.li; intro i j hi hj; rw [e2 13 (by omega) (by omega)] at hj; rw [e2 _ (by omega) (by omega), e2 _ (by omega) (by omega)]; exact h.nd i j hi hj
  · intro w' t' hw' ht'; rw [e2 _ (by omega) (by omega)]; exact h.lv w' t' hw' ht'
  · intro w' t' hw' ht'; rw [e 1 (by omega) (by omega), e2 _ (by omega) (by omega)]; exact h.lz w' t' hw' ht'
  · intro k hk
    rw [up_ne (by omega)]
    exact h.zz k hk
theorem WN.mono {N N' : Nat} (h : WN N a) (hn : N ≤ N') : WN N' a := ⟨h.1, Nat.le_trans h.2.1 hn, h.2.2⟩
end WOs
/-! ===== the small ones ===== -/
section SM
variable {M : Mm}
theorem f151 {x y : Nat} (hx : x < 2 ^ 31) (hy : y < 2 ^ 31) : FF 151 [.int (nI x), .int (nI y)] M = some (some (.int (nI (min x y))), M) := by
  simp (disch := first | omega | (show List.length _ ≤ 4; exact Nat.le_of_ble_eq_true rfl) | assumption | exact nbo_0 | exact nbo_1 | exact b2_b) only [FE151, s151_0, s151_1, s151_2, s151_5, s151_6, s151_9, s151_10, ↓reduceIte, psh_some, psh_none, cln_i, cln_r, cln_n, cln_l, cln_d, cln_f, Option.bind_some, Option.bind_none, if_true, if_false, nI_add, pk_mul, nbo_0, nbo_1, nI_leI, nI_ltI, nI_eq, Nat.reduceAdd, Nat.reduceMul, Nat.add_zero, Nat.mul_zero, nI_ltI]
  by_cases h : y < x
  · rw [if_pos h, Nat.min_eq_right (by omega)]
  · rw [if_neg h, Nat.min_eq_left (by omega)]
theorem f49 {x : Int32} : FF 49 [.int x] M = some (some (.int (b2 (¬ x < 0 ∧ ¬ nI 6 ≤ x))), M) := by
  simp (disch := first | omega | (show List.length _ ≤ 4; exact Nat.le_of_ble_eq_true rfl) | assumption | exact nbo_0 | exact nbo_1 | exact b2_b) only [FE49, s49_0, s49_1, s49_4, s49_5, s49_7, s49_10, s49_11, s49_14, s49_15, ↓reduceIte, psh_some, psh_none, cln_i, cln_r, cln_n, cln_l, cln_d, cln_f, Option.bind_some, Option.bind_none, if_true, if_false, nI_add, pk_mul, nbo_0, nbo_1, nI_leI, nI_ltI, nI_eq, Nat.reduceAdd, Nat.reduceMul, Nat.add_zero, Nat.mul_zero]
  by_cases h : x < 0
  · rw [if_pos h, b2_f (fun h2 => h2.1 h)]
  · rw [if_neg h]
    by_cases h2 : nI 6 ≤ x
    · rw [if_pos h2, b2_f (fun h3 => h3.2 h2)]
    · rw [if_neg h2, b2_t ⟨h, h2⟩]
theorem f45 {x : Int32} : FF 45 [.int x] M = some (some (.int (b2 (¬ x < 0 ∧ ¬ nI 6 ≤ x))), M) := by
  simp (disch := first | omega | (show List.length _ ≤ 4; exact Nat.le_of_ble_eq_true rfl) | assumption | exact nbo_0 | exact nbo_1 | exact b2_b) only [FE45, s45_0, s45_1, s45_4, s45_5, s45_7, s45_10, s45_11, s45_14, s45_15, ↓reduceIte, psh_some, psh_none, cln_i, cln_r, cln_n, cln_l, cln_d, cln_f, Option.bind_some, Option.bind_none, if_true, if_false, nI_add, pk_mul, nbo_0, nbo_1, nI_leI, nI_ltI, nI_eq, Nat.reduceAdd, Nat.reduceMul, Nat.add_zero, Nat.mul_zero]
  by_cases h : x < 0
  · rw [if_pos h, b2_f (fun h2 => h2.1 h)]
  · rw [if_neg h]
    by_cases h2 : nI 6 ≤ x
    · rw [if_pos h2, b2_f (fun h3 => h3.2 h2)]
    · rw [if_neg h2, b2_t ⟨h, h2⟩]
theorem f50 {x : Int32} : FF 50 [.int x] M = some (some (.int (b2 (¬ x < 0 ∧ ¬ nI 12 ≤ x))), M) := by
  simp (disch := first | omega | (show List.length _ ≤ 4; exact Nat.le_of_ble_eq_true rfl) | assumption | exact nbo_0 | exact nbo_1 | exact b2_b) only [FE50, s50_0, s50_1, s50_4, s50_5, s50_7, s50_10, s50_11, s50_14, s50_15, ↓reduceIte, psh_some, psh_none, cln_i, cln_r, cln_n, cln_l, cln_d, cln_f, Option.bind_some, Option.bind_none, if_true, if_false, nI_add, pk_mul, nbo_0, nbo_1, nI_leI, nI_ltI, nI_eq, Nat.reduceAdd, Nat.reduceMul, Nat.add_zero, Nat.mul_zero]
  by_cases h : x < 0
  · rw [if_pos h, b2_f (fun h2 => h2.1 h)]
  · rw [if_neg h]
    by_cases h2 : nI 12 ≤ x
    · rw [if_pos h2, b2_f (fun h3 => h3.2 h2)]
    · rw [if_neg h2, b2_t ⟨h, h2⟩]
end SM
/-! ===== the State's small ones ===== -/
section S1
variable {I : Nat → Nat → Int32} {R : Nat → Nat → Option Nat} {b : Nat} {a : Nat → Nat}
theorem f18x {x : Int32} (hb : b < 13) (hI : I b = vI a) : FF 18 [.ref (16 * b), .int x] (202, I, R) = some (some (.int (b2 (¬ x < 0 ∧ ¬ nI (a 1) ≤ x))), 202, I, R) := by
  simp (disch := first | omega | (show List.length _ ≤ 4; exact Nat.le_of_ble_eq_true rfl) | assumption | exact nbo_0 | exact nbo_1 | exact b2_b) only [FE18, s18_0, s18_1, s18_4, s18_5, s18_6, s18_9, s18_12, s18_13, s18_16, s18_17, ↓reduceIte, psh_some, psh_none, cln_i, cln_r, cln_n, cln_l, cln_d, cln_f, Option.bind_some, Option.bind_none, if_true, if_false, nI_add, pk_mul, nbo_0, nbo_1, nI_leI, nI_ltI, nI_eq, Nat.reduceAdd, Nat.reduceMul, Nat.add_zero, Nat.mul_zero, gs_8 hb, hI, vI_at]
  by_cases h : x < 0
  · rw [if_pos h, b2_f (fun h2 => h2.1 h)]
  · rw [if_neg h]
    by_cases h2 : nI (a 1) ≤ x
    · rw [if_pos h2, b2_f (fun h3 => h3.2 h2)]
    · rw [if_neg h2, b2_t ⟨h, h2⟩]
theorem f18 {t : Nat} (hb : b < 13) (hI : I b = vI a) (hw : WO a) (ht : t < 2 ^ 31) : FF 18 [.ref (16 * b), .int (nI t)] (202, I, R) = some (some (.int (b2 (t < a 1))), 202, I, R) := by
  have h1 := hw.tp
  rw [f18x hb hI]
  exact congrArg (fun z => some (some (Value.int z), 202, I, R)) (b2_c ⟨fun h => Nat.lt_of_not_le (fun hn => h.2 (nI_le hn ht)), fun h => ⟨nI_pos ht, nI_ge h (by omega)⟩⟩)
end S1
