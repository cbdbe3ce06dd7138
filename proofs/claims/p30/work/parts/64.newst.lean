/-! ===== a State is made ===== -/
/-- where the b-th State stands -/
def sb (b : Nat) : Nat := sbL.getD b 9999
theorem sb_le : ∀ b, b < 13 → sb b + 15 ≤ 202 := by decide
theorem adr_s : ∀ b, b < 13 → ∀ c, c < 15 → adr (sb b + c) = 16 * b + c := by decide +kernel
theorem pos_s {b c : Nat} (hb : b < 13) (hc : c < 15) : pos (16 * b + c) = sb b + c := by
  unfold pos sb
  rw [if_pos (by omega), if_neg (by omega), show (16 * b + c) / 16 = b by omega, show (16 * b + c) % 16 = c by omega]
theorem kd_s {b c : Nat} (hb : b < 13) (hc : c < 16) : kd (16 * b + c) = (dsS.getD c (0, 0, 0)).1 := by unfold kd; rw [ds_st hb hc]
theorem ln_s {b c : Nat} (hb : b < 13) (hc : c < 16) : ln (16 * b + c) = (dsS.getD c (0, 0, 0)).2.1 := by unfold ln; rw [ds_st hb hc]
theorem off_s {b c : Nat} (hb : b < 13) (hc : c < 16) : off (16 * b + c) = (dsS.getD c (0, 0, 0)).2.2 := by unfold off; rw [ds_st hb hc]
section BI
variable {I : Nat → Nat → Int32} {R : Nat → Nat → Option Nat} {a b n : Nat}
theorem bnI_0arr (h1 : ¬ kd a ≤ 4) (h2 : kd a ≤ 7) (h3 : a ≠ 227) (h4 : a ≠ 228) (hz : ∀ x, off a ≤ x → x < off a + ln a → I (vec a) x = 0) : bnI I a = I := by
  unfold bnI
  rw [if_neg h1, if_pos h2]
  funext v x
  simp only [if_neg h3, if_neg h4]
  by_cases e : v = vec a ∧ off a ≤ x ∧ x < off a + ln a
  · rw [if_pos e, e.1, hz x e.2.1 e.2.2]
  · rw [if_neg e]
theorem bnI_ref (h : ¬ kd a ≤ 7) : bnI I a = I := by
  unfold bnI
  rw [if_neg (by omega), if_neg h]
theorem bnI_obj (h : kd a ≤ 4) (hz : ∀ x, I (vec a) x = 0) : bnI I a = I := by
  unfold bnI
  rw [if_pos h]
  funext v x
  split
  · rename_i e
    rw [e.1, hz x]
  · rfl
/-- a State's array is made where its numbers are 0 -/
theorem bn_s {c w o : Nat} (hb : b < 13) (hc : c < 15) (hd : dsS.getD c (0, 0, 0) = (5, w, o)) (hz : ∀ x, o ≤ x → x < o + w → I b x = 0) : bn (sb b + c, I, R) = (sb b + (c + 1), I, bnR R (16 * b + c)) := by
  show (sb b + c + 1, bnI I (adr (sb b + c)), bnR R (adr (sb b + c))) = _
  rw [adr_s b hb c hc, bnI_0arr (by rw [kd_s hb (by omega), hd]; show ¬ 5 ≤ 4; decide) (by rw [kd_s hb (by omega), hd]; show 5 ≤ 7; decide) (by omega) (by omega) (by rw [off_s hb (by omega), ln_s hb (by omega), vec_st hb (by omega), hd]; exact hz)]
  rfl
theorem na_s {c w o : Nat} (hb : b < 13) (hc : c < 15) (hd : dsS.getD c (0, 0, 0) = (5, w, o)) (hw : w < 2 ^ 31) : (sb b + c < 202 ∧ kd (adr (sb b + c)) = 5 ∧ ¬ nI w < 0 ∧ (nI w).toNatClampNeg = ln (adr (sb b + c))) := by
  have := sb_le b hb
  rw [adr_s b hb c hc, kd_s hb (by omega), ln_s hb (by omega), hd, nI_clamp hw]
  exact ⟨by omega, rfl, nI_pos hw, rfl⟩
theorem pfr {k c : Nat} (hb : b < 13) (hk : k < 17) (h0 : fk 2 k = 0) (hc : c < 15) (hn : sb b + c < n) : pfI n I R 1 k (16 * b) (.ref (16 * b + c)) = some (I, wR R (16 * b) k (some (16 * b + c))) := by
  have p0 := pos_s (c := 0) hb (by decide)
  have p1 := pos_s hb hc
  obtain ⟨h1, h2, h3, h4, h5⟩ := st_is hb
  rw [Nat.add_zero, Nat.add_zero] at p0
  unfold pfI
  rw [if_pos ⟨h1, h3, by rw [p0]; omega, by rw [h2]; exact hk, by decide⟩, h0]
  show (if 16 * b + c < 1000 ∧ pos (16 * b + c) < n then _ else _) = _
  rw [if_pos ⟨by omega, by rw [p1]; exact hn⟩]
theorem gfr {k x : Nat} (hb : b < 13) (hk : k < 17) (h0 : fk 2 k = 0) (hn : sb b < n) (h : R (16 * b) k = some x) : gfI n I R 1 k (16 * b) = some (.ref x) := by
  have p0 := pos_s (c := 0) hb (by decide)
  obtain ⟨h1, h2, h3, h4, h5⟩ := st_is hb
  rw [Nat.add_zero, Nat.add_zero] at p0
  unfold gfI
  rw [if_neg (by decide), if_pos ⟨h1, h3, by rw [p0]; omega, by rw [h2]; exact hk⟩]
  unfold fv
  rw [h1, h0]
  show some (va_rf (R (16 * b) k)) = _
  rw [h]
  rfl
theorem acr {c k w o : Nat} (hb : b < 13) (hc : c < 15) (hd : dsS.getD c (0, 0, 0) = (5, w, o)) (hk : k < w) (hw : w < 2 ^ 31) (hn : sb b + c < n) : acI 5 n (16 * b + c) (nI k) :=
  ⟨by rw [kd_s hb (by omega), hd], by omega, by rw [pos_s hb hc]; exact hn, by rw [ln_s hb (by omega), hd]; exact nI_inb hk hw⟩
/-- a new array in a field -/
def nwR (R : Nat → Nat → Option Nat) (b c k : Nat) : Nat → Nat → Option Nat := wR (bnR R (16 * b + c)) (16 * b) k (some (16 * b + c))
theorem nwR_at {c k : Nat} (hc : 0 < c) : nwR R b c k (16 * b) = up (R (16 * b)) k (some (16 * b + c)) := by
  unfold nwR wR bnR
  rw [up_at, up_ne (show 16 * b ≠ 16 * b + c by omega)]
theorem nwR_ne {c k x : Nat} (h1 : x ≠ 16 * b) (h2 : x ≠ 16 * b + c) : nwR R b c k x = R x := by
  unfold nwR wR bnR
  rw [up_ne h1, up_ne h2]
def mnR (R : Nat → Nat → Option Nat) (b : Nat) : Nat → Nat → Option Nat := up (bnR (bnR (bnR (bnR (bnR (bnR (bnR R (16 * b + 4)) (16 * b + 5)) (16 * b + 6)) (16 * b + 7)) (16 * b + 8)) (16 * b + 9)) (16 * b + 10)) (16 * b + 4) (fun j => if j < 6 then some (16 * b + 4 + 1 + j) else none)
theorem mnR_at : mnR R b (16 * b + 4) = fun j => if j < 6 then some (16 * b + 4 + 1 + j) else none := up_at _ _ _
theorem mnR_ne {x : Nat} (h : ¬ (16 * b + 4 ≤ x ∧ x < 16 * b + 11)) : mnR R b x = R x := by
  unfold mnR bnR
  rw [up_ne (by omega), up_ne (by omega), up_ne (by omega), up_ne (by omega), up_ne (by omega), up_ne (by omega), up_ne (by omega), up_ne (by omega)]
theorem mn_s (hb : b < 13) (hz : ∀ x, 58 ≤ x → x < 118 → I b x = 0) : mnM (sb b + 4, I, R) = (sb b + 11, I, mnR R b) := by
  have e4 : bn (sb b + 4, I, R) = (sb b + 5, I, bnR R (16 * b + 4)) := by
    show (sb b + 4 + 1, bnI I (adr (sb b + 4)), bnR R (adr (sb b + 4))) = _
    rw [adr_s b hb 4 (by decide), bnI_ref (by rw [kd_s hb (by decide)]; decide)]
  have e5 : ∀ R, bn (sb b + 5, I, R) = (sb b + 6, I, bnR R (16 * b + 5)) := fun R => bn_s hb (by decide) rfl (fun x h1 h2 => hz x (by omega) (by omega))
  have e6 : ∀ R, bn (sb b + 6, I, R) = (sb b + 7, I, bnR R (16 * b + 6)) := fun R => bn_s hb (by decide) rfl (fun x h1 h2 => hz x (by omega) (by omega))
  have e7 : ∀ R, bn (sb b + 7, I, R) = (sb b + 8, I, bnR R (16 * b + 7)) := fun R => bn_s hb (by decide) rfl (fun x h1 h2 => hz x (by omega) (by omega))
  have e8 : ∀ R, bn (sb b + 8, I, R) = (sb b + 9, I, bnR R (16 * b + 8)) := fun R => bn_s hb (by decide) rfl (fun x h1 h2 => hz x (by omega) (by omega))
  have e9 : ∀ R, bn (sb b + 9, I, R) = (sb b + 10, I, bnR R (16 * b + 9)) := fun R => bn_s hb (by decide) rfl (fun x h1 h2 => hz x (by omega) (by omega))
  have e10 : ∀ R, bn (sb b + 10, I, R) = (sb b + 11, I, bnR R (16 * b + 10)) := fun R => bn_s hb (by decide) rfl (fun x h1 h2 => hz x (by omega) (by omega))
  unfold mnM
  rw [e4, e5, e6, e7, e8, e9, e10]
  show (sb b + 4 + 7, I, up _ (adr (sb b + 4)) (fun j => if j < 6 then some (adr (sb b + 4) + 1 + j) else none)) = _
  rw [adr_s b hb 4 (by decide)]
  rfl
theorem mn_ok (hb : b < 13) : sb b + 4 + 7 ≤ 202 ∧ kd (adr (sb b + 4)) = 9 ∧ adr (sb b + 4) + 6 < 208 ∧ (List.range 6).all (fun j => adr (sb b + 4 + 1 + j) == adr (sb b + 4) + 1 + j) = true := by
  revert b
  decide +kernel
end BI
/-- a new State's numbers -/
def st0 (k : Nat) : Nat := if k = 2 then 50 else if k = 3 then 5 else if k = 4 then 10 else if k = 5 then 8 else if k = 6 then 3 else if k = 7 then 40 else if 14 ≤ k ∧ k < 26 then (k - 14) % 3 else if 26 ≤ k ∧ k < 38 then 10 else 0
def rsF (i : Nat) (V : Nat → Int32) : Nat → Int32 := up (up V (14 + i) (nI (i % 3))) (26 + i) (nI 10)
theorem rs_at : ∀ d i (V : Nat → Int32) k, i + d ≤ 12 → fd rsF d i V k = if 14 + i ≤ k ∧ k < 14 + i + d then nI ((k - 14) % 3) else if 26 + i ≤ k ∧ k < 26 + i + d then nI 10 else V k
  | 0, i, V, k, _ => by rw [if_neg (by omega), if_neg (by omega)]; rfl
  | d + 1, i, V, k, h => by
    show fd rsF d (i + 1) (rsF i V) k = _
    rw [rs_at d (i + 1) _ k (by omega)]
    unfold rsF
    by_cases h1 : 14 + (i + 1) ≤ k ∧ k < 14 + (i + 1) + d
    · rw [if_pos h1, if_pos (by omega)]
    · rw [if_neg h1]
      by_cases h2 : 26 + (i + 1) ≤ k ∧ k < 26 + (i + 1) + d
      · rw [if_pos h2, if_neg (by omega), if_pos (by omega)]
      · rw [if_neg h2]
        by_cases h3 : k = 26 + i
        · subst h3; rw [up_at, if_neg (by omega), if_pos (by omega)]
        · rw [up_ne h3]
          by_cases h4 : k = 14 + i
          · subst h4; rw [up_at, if_pos (by omega), show 14 + i - 14 = i by omega]
          · rw [up_ne h4, if_neg (by omega), if_neg (by omega)]
def cpV (V : Nat → Int32) : Nat → Int32 := fun x => if 2 ≤ x ∧ x < 2 + 6 then csI 1001 (x - 2) else V x
theorem st0_eq {V : Nat → Int32} (hz : ∀ x, V x = 0) : fd rsF 12 0 (cpV V) = vI st0 := by
  funext k
  rw [rs_at 12 0 _ k (by decide)]
  show _ = nI (st0 k)
  unfold cpV st0
  by_cases h1 : 2 ≤ k ∧ k < 8
  · rcases (show k = 2 ∨ k = 3 ∨ k = 4 ∨ k = 5 ∨ k = 6 ∨ k = 7 by omega) with rfl | rfl | rfl | rfl | rfl | rfl <;> rfl
  · by_cases h2 : 14 ≤ k ∧ k < 26
    · rw [if_pos (by omega), if_neg (by omega), if_neg (by omega), if_neg (by omega), if_neg (by omega), if_neg (by omega), if_neg (by omega), if_pos h2]
    · by_cases h3 : 26 ≤ k ∧ k < 38
      · rw [if_neg (by omega), if_pos (by omega), if_neg (by omega), if_neg (by omega), if_neg (by omega), if_neg (by omega), if_neg (by omega), if_neg (by omega), if_neg h2, if_pos h3]
      · rw [if_neg (by omega), if_neg (by omega), if_neg (by omega), if_neg (by omega), if_neg (by omega), if_neg (by omega), if_neg (by omega), if_neg (by omega), if_neg (by omega), if_neg h2, if_neg h3, hz k]
        rfl
/-- a State's rows of references -/
def SOK (b : Nat) (R : Nat → Nat → Option Nat) : Prop := (R (16 * b) 0 = some (16 * b + 1) ∧ R (16 * b) 1 = some (16 * b + 2) ∧ R (16 * b) 2 = some (16 * b + 3) ∧ R (16 * b) 3 = some (16 * b + 4) ∧ R (16 * b) 4 = some (16 * b + 11) ∧ R (16 * b) 5 = some (16 * b + 12) ∧ R (16 * b) 6 = some (16 * b + 13) ∧ R (16 * b) 7 = some (16 * b + 14)) ∧ ∀ w, w < 6 → R (16 * b + 4) w = some (16 * b + (5 + w))
section NS
variable {I : Nat → Nat → Int32} {R : Nat → Nat → Option Nat} {b : Nat}
theorem cpy_s (hb : b < 13) {n : Nat} (hn : sb b + 1 < n) : cpI n I 1001 (nI 0) (16 * b + 1) (nI 0) (nI 6) = some (up I b (cpV (I b))) := by
  have h1 := kd_s (c := 1) hb (by decide)
  have h2 := ln_s (c := 1) hb (by decide)
  have h3 := off_s (c := 1) hb (by decide)
  have h4 := vec_st (c := 1) hb (by decide)
  have h5 := pos_s (c := 1) hb (by decide)
  have h6 : (nI 6).toNatClampNeg = 6 := nI_clamp (by decide)
  unfold cpI
  rw [if_pos ⟨Or.inr rfl, by omega, by rw [h1]; rfl, by rw [h5]; exact hn, by omega, by omega, rfl, rfl, by decide, by rw [h6, if_pos rfl]; decide, by rw [h6, h2]; decide⟩, h4, h6, h3]
  rfl
theorem f11 (hb : b < 13) (hz : ∀ x, I b x = 0) : ∃ R', FF 11 [.ref (16 * b)] (sb b + 1, I, R) = some (none, sb b + 15, up I b (vI st0), R') ∧ SOK b R' ∧ ∀ x, ¬ (16 * b ≤ x ∧ x < 16 * b + 16) → R' x = R x := by
  have hsb := sb_le b hb
  have ad1 := adr_s b hb 1 (by decide)
  have ad2 := adr_s b hb 2 (by decide)
  have ad3 := adr_s b hb 3 (by decide)
  have ad4 := adr_s b hb 4 (by decide)
  have ad11 := adr_s b hb 11 (by decide)
  have ad12 := adr_s b hb 12 (by decide)
  have ad13 := adr_s b hb 13 (by decide)
  have ad14 := adr_s b hb 14 (by decide)
  have n1 := na_s (b := b) (c := 1) (w := 6) (o := 2) hb (by decide) rfl (by decide)
  have n2 := na_s (b := b) (c := 2) (w := 12) (o := 14) hb (by decide) rfl (by decide)
  have n3 := na_s (b := b) (c := 3) (w := 12) (o := 26) hb (by decide) rfl (by decide)
  have n11 := na_s (b := b) (c := 11) (w := 10) (o := 48) hb (by decide) rfl (by decide)
  have n12 := na_s (b := b) (c := 12) (w := 10) (o := 118) hb (by decide) rfl (by decide)
  have n13 := na_s (b := b) (c := 13) (w := 10) (o := 128) hb (by decide) rfl (by decide)
  have n14 := na_s (b := b) (c := 14) (w := 10) (o := 138) hb (by decide) rfl (by decide)
  have n4 := mn_ok (b := b) hb
  have q : ∀ (I : Nat → Nat → Int32) (R : Nat → Nat → Option Nat) n k c, k < 8 → c < 15 → sb b + c < n → pfI n I R 1 k (16 * b) (.ref (16 * b + c)) = some (I, wR R (16 * b) k (some (16 * b + c))) := fun I R n k c hk hc hn => pfr hb (by omega) (by rcases (show k = 0 ∨ k = 1 ∨ k = 2 ∨ k = 3 ∨ k = 4 ∨ k = 5 ∨ k = 6 ∨ k = 7 by omega) with rfl | rfl | rfl | rfl | rfl | rfl | rfl | rfl <;> rfl) hc hn
  have b1 : bn (sb b + 1, I, R) = (sb b + 2, I, bnR R (16 * b + 1)) := bn_s hb (by decide) rfl (fun x _ _ => hz x)
  have sA : FF 11 [.ref (16 * b)] (sb b + 1, I, R) = EE 11 26 [some (.ref (16 * b)), none] [] (sb b + 2, up I b (cpV (I b)), nwR R b 1 0) := by
    have g := gfr (I := I) (R := nwR R b 1 0) (n := sb b + 2) (k := 0) (x := 16 * b + 1) hb (by decide) rfl (by omega) (by rw [nwR_at (by decide), up_at])
    have cp := cpy_s (I := I) (n := sb b + 2) hb (by omega)
    simp (disch := first | omega | (show List.length _ ≤ 4; exact Nat.le_of_ble_eq_true rfl) | assumption | exact nbo_0 | exact nbo_1 | exact b2_b) only [FE11, s11_0, s11_1, s11_4, s11_5, s11_7, s11_9, s11_12, s11_15, s11_16, s11_17, s11_20, s11_21, s11_23, ↓reduceIte, psh_some, psh_none, cln_i, cln_r, cln_n, cln_l, cln_d, cln_f, Option.bind_some, Option.bind_none, if_true, if_false, nI_add, pk_mul, nbo_0, nbo_1, nI_leI, nI_ltI, nI_eq, Nat.reduceAdd, Nat.reduceMul, Nat.add_zero, Nat.mul_zero, b1, ad1, q]
    show (gfI (sb b + 2) I (nwR R b 1 0) 1 0 (16 * b)).bind _ = _
    rw [g]
    simp (disch := first | omega | (show List.length _ ≤ 4; exact Nat.le_of_ble_eq_true rfl) | assumption | exact nbo_0 | exact nbo_1 | exact b2_b) only [s11_20, s11_21, s11_23, ↓reduceIte, psh_some, psh_none, cln_i, cln_r, cln_n, cln_l, cln_d, cln_f, Option.bind_some, Option.bind_none, if_true, if_false, nI_add, pk_mul, nbo_0, nbo_1, nI_leI, nI_ltI, nI_eq, Nat.reduceAdd, Nat.reduceMul, Nat.add_zero, Nat.mul_zero, cp]
    rfl
  have V6 : ∀ x, 8 ≤ x → up I b (cpV (I b)) b x = 0 := fun x hx => by
    rw [up_at]
    unfold cpV
    rw [if_neg (by omega)]
    exact hz x
  have b2 : ∀ R, bn (sb b + 2, up I b (cpV (I b)), R) = (sb b + 3, up I b (cpV (I b)), bnR R (16 * b + 2)) := fun R => bn_s hb (by decide) rfl (fun x h1 _ => V6 x (by omega))
  have b3 : ∀ R, bn (sb b + 3, up I b (cpV (I b)), R) = (sb b + 4, up I b (cpV (I b)), bnR R (16 * b + 3)) := fun R => bn_s hb (by decide) rfl (fun x h1 _ => V6 x (by omega))
  have sB : EE 11 26 [some (.ref (16 * b)), none] [] (sb b + 2, up I b (cpV (I b)), nwR R b 1 0) = EE 11 44 [some (.ref (16 * b)), some (.int (nI 0))] [] (sb b + 4, up I b (cpV (I b)), nwR (nwR (nwR R b 1 0) b 2 1) b 3 2) := by
    simp (disch := first | omega | (show List.length _ ≤ 4; exact Nat.le_of_ble_eq_true rfl) | assumption | exact nbo_0 | exact nbo_1 | exact b2_b) only [s11_26, s11_27, s11_29, s11_31, s11_34, s11_35, s11_37, s11_39, s11_42, s11_43, ↓reduceIte, psh_some, psh_none, cln_i, cln_r, cln_n, cln_l, cln_d, cln_f, Option.bind_some, Option.bind_none, if_true, if_false, nI_add, pk_mul, nbo_0, nbo_1, nI_leI, nI_ltI, nI_eq, Nat.reduceAdd, Nat.reduceMul, Nat.add_zero, Nat.mul_zero, b2, b3, ad2, ad3, q]
    rfl
  have r1 : nwR (nwR (nwR R b 1 0) b 2 1) b 3 2 (16 * b) 1 = some (16 * b + 2) := by rw [nwR_at (by decide), up_ne (by decide), nwR_at (by decide), up_at]
  have r2 : nwR (nwR (nwR R b 1 0) b 2 1) b 3 2 (16 * b) 2 = some (16 * b + 3) := by rw [nwR_at (by decide), up_at]
  have sC := fd_loop (E := fun i V => EE 11 44 [some (.ref (16 * b)), some (.int (nI i))] [] (sb b + 4, up I b V, nwR (nwR (nwR R b 1 0) b 2 1) b 3 2)) (f := rsF) (Inv := fun _ _ => True) 12 (by
    intro i V hi _
    refine ⟨?_, trivial⟩
    have e : ¬ 12 ≤ i := by omega
    have g1 := fun J => gfr (I := J) (n := sb b + 4) (k := 1) (x := 16 * b + 2) hb (by decide) rfl (by omega) r1
    have g2 := fun J => gfr (I := J) (n := sb b + 4) (k := 2) (x := 16 * b + 3) hb (by decide) rfl (by omega) r2
    have c1 := acr (b := b) (n := sb b + 4) (c := 2) (k := i) (w := 12) (o := 14) hb (by decide) rfl hi (by decide) (by omega)
    have c2 := acr (b := b) (n := sb b + 4) (c := 3) (k := i) (w := 12) (o := 26) hb (by decide) rfl hi (by decide) (by omega)
    show EE 11 44 _ _ _ = EE 11 44 _ _ _
    generalize nwR (nwR (nwR R b 1 0) b 2 1) b 3 2 = RR at *
    rw [s11_44]
    simp (disch := first | omega | (show List.length _ ≤ 4; exact Nat.le_of_ble_eq_true rfl) | assumption | exact nbo_0 | exact nbo_1 | exact b2_b) only [s11_45, s11_47, s11_50, s11_51, s11_54, s11_55, s11_56, s11_57, s11_58, s11_59, s11_60, s11_63, s11_64, s11_66, s11_67, s11_70, ↓reduceIte, psh_some, psh_none, cln_i, cln_r, cln_n, cln_l, cln_d, cln_f, Option.bind_some, Option.bind_none, if_true, if_false, nI_add, pk_mul, nbo_0, nbo_1, nI_leI, nI_ltI, nI_eq, Nat.reduceAdd, Nat.reduceMul, Nat.add_zero, Nat.mul_zero, up_at, up_up, up_vI, vI_at, g1, g2, ws_2 hb, ws_3 hb, e]
    rfl) 12 0 (cpV (I b)) (by decide) trivial
  rw [st0_eq hz] at sC
  have sC1 : EE 11 44 [some (.ref (16 * b)), some (.int (nI 0))] [] (sb b + 4, up I b (cpV (I b)), nwR (nwR (nwR R b 1 0) b 2 1) b 3 2) = EE 11 44 [some (.ref (16 * b)), some (.int (nI 12))] [] (sb b + 4, up I b (vI st0), nwR (nwR (nwR R b 1 0) b 2 1) b 3 2) := sC.1
  have V0 : ∀ x, 38 ≤ x → up I b (vI st0) b x = 0 := fun x hx => by
    rw [up_at]
    show nI (st0 x) = 0
    unfold st0
    rw [if_neg (by omega), if_neg (by omega), if_neg (by omega), if_neg (by omega), if_neg (by omega), if_neg (by omega), if_neg (by omega), if_neg (by omega)]
    rfl
  have b4 : ∀ R, mnM (sb b + 4, up I b (vI st0), R) = (sb b + 11, up I b (vI st0), mnR R b) := fun R => mn_s hb (fun x h1 _ => V0 x (by omega))
  have b11 : ∀ R, bn (sb b + 11, up I b (vI st0), R) = (sb b + 12, up I b (vI st0), bnR R (16 * b + 11)) := fun R => bn_s hb (by decide) rfl (fun x h1 _ => V0 x (by omega))
  have b12 : ∀ R, bn (sb b + 12, up I b (vI st0), R) = (sb b + 13, up I b (vI st0), bnR R (16 * b + 12)) := fun R => bn_s hb (by decide) rfl (fun x h1 _ => V0 x (by omega))
  have b13 : ∀ R, bn (sb b + 13, up I b (vI st0), R) = (sb b + 14, up I b (vI st0), bnR R (16 * b + 13)) := fun R => bn_s hb (by decide) rfl (fun x h1 _ => V0 x (by omega))
  have b14 : ∀ R, bn (sb b + 14, up I b (vI st0), R) = (sb b + 15, up I b (vI st0), bnR R (16 * b + 14)) := fun R => bn_s hb (by decide) rfl (fun x h1 _ => V0 x (by omega))
  have sD : ∀ R, EE 11 44 [some (.ref (16 * b)), some (.int (nI 12))] [] (sb b + 4, up I b (vI st0), R) = some (none, sb b + 15, up I b (vI st0), nwR (nwR (nwR (nwR (wR (mnR R b) (16 * b) 3 (some (16 * b + 4))) b 11 4) b 12 5) b 13 6) b 14 7) := fun R => by
    rw [s11_44]
    simp (disch := first | omega | (show List.length _ ≤ 4; exact Nat.le_of_ble_eq_true rfl) | assumption | exact nbo_0 | exact nbo_1 | exact b2_b) only [s11_45, s11_47, s11_73, s11_74, s11_76, s11_78, s11_82, s11_85, s11_86, s11_88, s11_90, s11_93, s11_94, s11_96, s11_98, s11_101, s11_102, s11_104, s11_106, s11_109, s11_110, s11_112, s11_114, s11_117, ↓reduceIte, psh_some, psh_none, cln_i, cln_r, cln_n, cln_l, cln_d, cln_f, Option.bind_some, Option.bind_none, if_true, if_false, nI_add, pk_mul, nbo_0, nbo_1, nI_leI, nI_ltI, nI_eq, Nat.reduceAdd, Nat.reduceMul, Nat.add_zero, Nat.mul_zero, Nat.le_refl, b4, b11, b12, b13, b14, ad4, ad11, ad12, ad13, ad14, q]
    rfl
  refine ⟨_, (sA.trans (sB.trans (sC1.trans (sD _)))), ?_, fun x hx => ?_⟩
  · have row : nwR (nwR (nwR (nwR (wR (mnR (nwR (nwR (nwR R b 1 0) b 2 1) b 3 2) b) (16 * b) 3 (some (16 * b + 4))) b 11 4) b 12 5) b 13 6) b 14 7 (16 * b) = up (up (up (up (up (up (up (up (R (16 * b)) 0 (some (16 * b + 1))) 1 (some (16 * b + 2))) 2 (some (16 * b + 3))) 3 (some (16 * b + 4))) 4 (some (16 * b + 11))) 5 (some (16 * b + 12))) 6 (some (16 * b + 13))) 7 (some (16 * b + 14)) := by
      rw [nwR_at (by decide), nwR_at (by decide), nwR_at (by decide), nwR_at (by decide)]
      unfold wR
      rw [up_at, mnR_ne (by omega), nwR_at (by decide), nwR_at (by decide), nwR_at (by decide)]
    unfold SOK
    rw [row]
    refine ⟨⟨?_, ?_, ?_, ?_, ?_, ?_, ?_, ?_⟩, fun w hw => ?_⟩
    · repeat rw [up_ne (by decide)]
      exact up_at _ _ _
    · repeat rw [up_ne (by decide)]
      exact up_at _ _ _
    · repeat rw [up_ne (by decide)]
      exact up_at _ _ _
    · repeat rw [up_ne (by decide)]
      exact up_at _ _ _
    · repeat rw [up_ne (by decide)]
      exact up_at _ _ _
    · repeat rw [up_ne (by decide)]
      exact up_at _ _ _
    · repeat rw [up_ne (by decide)]
      exact up_at _ _ _
    · exact up_at _ _ _
    · rw [nwR_ne (by omega) (by omega), nwR_ne (by omega) (by omega), nwR_ne (by omega) (by omega), nwR_ne (by omega) (by omega)]
      unfold wR
      rw [up_ne (by omega), mnR_at]
      show (if w < 6 then _ else _) = _
      rw [if_pos hw]
      exact congrArg some (by omega)
  · rw [nwR_ne (by omega) (by omega), nwR_ne (by omega) (by omega), nwR_ne (by omega) (by omega), nwR_ne (by omega) (by omega)]
    unfold wR
    rw [up_ne (by omega), mnR_ne (by omega), nwR_ne (by omega) (by omega), nwR_ne (by omega) (by omega), nwR_ne (by omega) (by omega)]
end NS
