/-! ===== the desk is made ===== -/
def IS (I : Nat → Nat → Int32) (m : Nat) : Nat → Nat → Int32 := fun v => if v < m then vI st0 else I v
def d8 (f : Nat) : Nat := ([0, 16, 209, 0, 210, 211, 212, 160, 176, 192] : List Nat).getD f 0
def DK (m k i6 i2 : Nat) (pp : Bool) (R : Nat → Nat → Option Nat) : Prop := (∀ b, b < m → SOK b R) ∧ (∀ f, f < k → f ≠ 3 → R 208 f = some (d8 f)) ∧ (∀ j, j < i6 → R 209 j = some (16 * (2 + j))) ∧ (∀ j, j < i2 → R 210 j = some (16 * (8 + j))) ∧ (pp = true → R 212 0 = some 213 ∧ R 212 1 = some 214)
theorem SOK.congr {b : Nat} {R R' : Nat → Nat → Option Nat} (h : SOK b R) (e : ∀ x, 16 * b ≤ x → x < 16 * b + 16 → R' x = R x) : SOK b R' := by
  unfold SOK at h ⊢
  rw [e (16 * b) (by omega) (by omega), e (16 * b + 4) (by omega) (by omega)]
  exact h
section DKs
variable {R R' : Nat → Nat → Option Nat} {m k i6 i2 : Nat} {pp : Bool}
theorem DK.st (h : DK m k i6 i2 pp R) (hm : m < 13) (hs : SOK m R') (hf : ∀ x, ¬ (16 * m ≤ x ∧ x < 16 * m + 16) → R' x = R x) : DK (m + 1) k i6 i2 pp R' := by
  refine ⟨fun b hb => ?_, fun f h1 h2 => ?_, fun j hj => ?_, fun j hj => ?_, fun hp => ?_⟩
  · by_cases e : b = m
    · rw [e]; exact hs
    · exact (h.1 b (by omega)).congr (fun x h1 h2 => hf x (by omega))
  · rw [hf 208 (by omega)]; exact h.2.1 f h1 h2
  · rw [hf 209 (by omega)]; exact h.2.2.1 j hj
  · rw [hf 210 (by omega)]; exact h.2.2.2.1 j hj
  · rw [hf 212 (by omega)]; exact h.2.2.2.2 hp
theorem DK.fld (h : DK m k i6 i2 pp R) (hm : m ≤ 13) {x : Nat} (hx : x = d8 k) : DK m (k + 1) i6 i2 pp (wR R 208 k (some x)) := by
  unfold wR
  refine ⟨fun b hb => (h.1 b hb).congr (fun x h1 h2 => up_ne (by omega)), fun f h1 h2 => ?_, fun j hj => ?_, fun j hj => ?_, fun hp => ?_⟩
  · rw [up_at]
    by_cases e : f = k
    · rw [e, up_at, hx]
    · rw [up_ne e]; exact h.2.1 f (by omega) h2
  · rw [up_ne (by decide)]; exact h.2.2.1 j hj
  · rw [up_ne (by decide)]; exact h.2.2.2.1 j hj
  · rw [up_ne (by decide)]; exact h.2.2.2.2 hp
theorem DK.k4 (h : DK m 3 i6 i2 pp R) : DK m 4 i6 i2 pp R := ⟨h.1, fun f h1 h2 => h.2.1 f (by omega) h2, h.2.2⟩
theorem DK.bn (h : DK m k i6 i2 pp R) (hm : m ≤ 13) {a : Nat} (ha : 208 < a) (h9 : a = 209 → i6 = 0) (h0 : a = 210 → i2 = 0) (hp : a = 212 → pp = false) : DK m k i6 i2 pp (bnR R a) := by
  unfold bnR
  refine ⟨fun b hb => (h.1 b hb).congr (fun x h1 h2 => up_ne (by omega)), fun f h1 h2 => ?_, fun j hj => ?_, fun j hj => ?_, fun hpp => ?_⟩
  · rw [up_ne (by omega)]; exact h.2.1 f h1 h2
  · by_cases e : a = 209
    · have := h9 e; omega
    · rw [up_ne (fun hc => e hc.symm)]; exact h.2.2.1 j hj
  · by_cases e : a = 210
    · have := h0 e; omega
    · rw [up_ne (fun hc => e hc.symm)]; exact h.2.2.2.1 j hj
  · by_cases e : a = 212
    · rw [hp e] at hpp; cases hpp
    · rw [up_ne (fun hc => e hc.symm)]; exact h.2.2.2.2 hpp
theorem DK.a6 (h : DK m k i6 i2 pp R) (hm : m ≤ 13) {x : Nat} (hx : x = 16 * (2 + i6)) : DK m k (i6 + 1) i2 pp (wR R 209 i6 (some x)) := by
  unfold wR
  refine ⟨fun b hb => (h.1 b hb).congr (fun x h1 h2 => up_ne (by omega)), fun f h1 h2 => ?_, fun j hj => ?_, fun j hj => ?_, fun hp => ?_⟩
  · rw [up_ne (by decide)]; exact h.2.1 f h1 h2
  · rw [up_at]
    by_cases e : j = i6
    · rw [e, up_at, hx]
    · rw [up_ne e]; exact h.2.2.1 j (by omega)
  · rw [up_ne (by decide)]; exact h.2.2.2.1 j hj
  · rw [up_ne (by decide)]; exact h.2.2.2.2 hp
theorem DK.a2 (h : DK m k i6 i2 pp R) (hm : m ≤ 13) {x : Nat} (hx : x = 16 * (8 + i2)) : DK m k i6 (i2 + 1) pp (wR R 210 i2 (some x)) := by
  unfold wR
  refine ⟨fun b hb => (h.1 b hb).congr (fun x h1 h2 => up_ne (by omega)), fun f h1 h2 => ?_, fun j hj => ?_, fun j hj => ?_, fun hp => ?_⟩
  · rw [up_ne (by decide)]; exact h.2.1 f h1 h2
  · rw [up_ne (by decide)]; exact h.2.2.1 j hj
  · rw [up_at]
    by_cases e : j = i2
    · rw [e, up_at, hx]
    · rw [up_ne e]; exact h.2.2.2.1 j (by omega)
  · rw [up_ne (by decide)]; exact h.2.2.2.2 hp
theorem DK.pad (h : DK m k i6 i2 false R) (hm : m ≤ 13) : DK m k i6 i2 true (wR (bnR (wR (bnR R 213) 212 0 (some 213)) 214) 212 1 (some 214)) := by
  have e : ∀ x, x ≠ 212 → x ≠ 213 → x ≠ 214 → wR (bnR (wR (bnR R 213) 212 0 (some 213)) 214) 212 1 (some 214) x = R x := fun x h1 h2 h3 => by
    unfold wR bnR
    rw [up_ne h1, up_ne h3, up_ne h1, up_ne h2]
  refine ⟨fun b hb => (h.1 b hb).congr (fun x h1 h2 => e x (by omega) (by omega) (by omega)), fun f h1 h2 => ?_, fun j hj => ?_, fun j hj => ?_, fun _ => ⟨?_, ?_⟩⟩
  · rw [e 208 (by decide) (by decide) (by decide)]; exact h.2.1 f h1 h2
  · rw [e 209 (by decide) (by decide) (by decide)]; exact h.2.2.1 j hj
  · rw [e 210 (by decide) (by decide) (by decide)]; exact h.2.2.2.1 j hj
  · unfold wR bnR
    rw [up_at, up_ne (by decide), up_ne (by decide), up_at, up_at]
  · unfold wR bnR
    rw [up_at, up_at]
end DKs
section ND
variable {I : Nat → Nat → Int32} {R : Nat → Nat → Option Nat} {n b m k i6 i2 : Nat} {pp : Bool}
theorem IS_up (hb : b < 13) : up (IS I b) b (vI st0) = IS I (b + 1) := by
  funext v
  unfold up IS
  by_cases e : v = b
  · rw [if_pos e, if_pos (by omega)]
  · rw [if_neg e]
    by_cases e2 : v < b
    · rw [if_pos e2, if_pos (by omega)]
    · rw [if_neg e2, if_neg (by omega)]
theorem IS_0 : IS I 0 = I := by
  funext v
  unfold IS
  rw [if_neg (by omega)]
theorem IS_ge {v : Nat} (h : m ≤ v) : IS I m v = I v := by
  unfold IS
  rw [if_neg (by omega)]
/-- one more State -/
theorem newS (hb : b < 13) (hz : ∀ v, v < 13 → ∀ x, I v x = 0) (hD : DK b k i6 i2 pp R) : ∃ R', (sb b < 202 ∧ kd (adr (sb b)) = 2) ∧ adr (sb b) = 16 * b ∧ FF 11 [.ref (16 * b)] (bn (sb b, IS I b, R)) = some (none, sb b + 15, IS I (b + 1), R') ∧ DK (b + 1) k i6 i2 pp R' := by
  have hsb := sb_le b hb
  have ad := adr_s b hb 0 (by decide)
  obtain ⟨h1, h2, h3, h4, h5⟩ := st_is hb
  rw [Nat.add_zero, Nat.add_zero] at ad
  have hz2 : ∀ x, IS I b b x = 0 := fun x => by rw [IS_ge (Nat.le_refl b)]; exact hz b hb x
  have eb : bn (sb b, IS I b, R) = (sb b + 1, IS I b, bnR R (16 * b)) := by
    show (sb b + 1, bnI (IS I b) (adr (sb b)), bnR R (adr (sb b))) = _
    rw [ad, bnI_obj (by rw [h1]; decide) (by rw [h5]; exact hz2)]
  obtain ⟨R', g1, g2, g3⟩ := f11 (I := IS I b) (R := bnR R (16 * b)) hb hz2
  rw [IS_up hb, ← eb] at g1
  refine ⟨R', ⟨by omega, by rw [ad]; exact h1⟩, ad, g1, ?_⟩
  exact hD.st hb g2 (fun x hx => by rw [g3 x hx]; unfold bnR; rw [up_ne (by omega)])
theorem gdr {x : Nat} (hn : 0 < n) (hk : k < 10) (h0 : fk 3 k = 0) (h : R 208 k = some x) : gfI n I R 2 k 208 = some (.ref x) := by
  unfold gfI
  rw [if_neg (by decide), if_pos ⟨rfl, by decide, by show 0 < n; exact hn, hk⟩]
  unfold fv
  rw [show kd 208 = 3 from rfl, h0]
  show some (va_rf (R 208 k)) = _
  rw [h]
  rfl
theorem pdr {x : Nat} (hn : 0 < n) (hk : k < 10) (h0 : fk 3 k = 0) (h1 : x < 1000) (h2 : pos x < n) : pfI n I R 2 k 208 (.ref x) = some (I, wR R 208 k (some x)) := by
  unfold pfI
  rw [if_pos ⟨rfl, by decide, by show 0 < n; exact hn, hk, by decide⟩, h0]
  show (if x < 1000 ∧ pos x < n then _ else _) = _
  rw [if_pos ⟨h1, h2⟩]
theorem sb_2 : ∀ i, i < 6 → sb (2 + i) = 32 + 15 * i := by decide
theorem sb_8 : ∀ i, i < 2 → sb (8 + i) = 123 + 15 * i := by decide
theorem pos_b (hb : b < 13) : pos (16 * b) = sb b := by
  have := pos_s (c := 0) hb (by decide)
  rw [Nat.add_zero, Nat.add_zero] at this
  exact this
theorem p43a (hz : ∀ v, v < 13 → ∀ x, I v x = 0) : ∀ d i (R : Nat → Nat → Option Nat), i + d = 6 → DK (2 + i) 3 i 0 false R → ∃ R', EE 43 37 [some (.ref 208), some (.int (nI i))] [] (32 + 15 * i, IS I (2 + i), R) = EE 43 62 [some (.ref 208), some (.int (nI 6))] [] (122, IS I 8, R') ∧ DK 8 3 6 0 false R' := by
  intro d
  induction d with
  | zero =>
    intro i R hi hD
    have e : i = 6 := by omega
    subst e
    refine ⟨R, ?_, hD⟩
    rw [s43_37]
    simp (disch := first | omega | (show List.length _ ≤ 4; exact Nat.le_of_ble_eq_true rfl) | assumption | exact nbo_0 | exact nbo_1 | exact b2_b) only [s43_38, s43_40, ↓reduceIte, psh_some, psh_none, cln_i, cln_r, cln_n, cln_l, cln_d, cln_f, Option.bind_some, Option.bind_none, if_true, if_false, nI_add, pk_mul, nbo_0, nbo_1, nI_leI, nI_ltI, nI_eq, Nat.reduceAdd, Nat.reduceMul, Nat.add_zero, Nat.mul_zero, Nat.le_refl]
  | succ d ih =>
    intro i R hi hD
    have e : ¬ 6 ≤ i := by omega
    have hb : 2 + i < 13 := by omega
    have es := sb_2 i (by omega)
    obtain ⟨R1, h1, h2, h3, h4⟩ := newS hb hz hD
    rw [es] at h1 h2 h3
    have g := gdr (I := IS I (2 + i)) (n := 32 + 15 * i) (k := 2) (x := 209) (by omega) (by decide) rfl (hD.2.1 2 (by decide) (by decide))
    have kd2 := (st_is hb).1
    have pb := pos_b hb
    rw [es] at pb
    obtain ⟨R', k1, k2⟩ := ih (i + 1) (wR R1 209 i (some (16 * (2 + i)))) (by omega) (h4.a6 (by omega) rfl)
    refine ⟨R', ?_, k2⟩
    rw [← k1, s43_37]
    have st : EE 43 43 [some (.ref 208), some (.int (nI i))] [] (32 + 15 * i, IS I (2 + i), R) = EE 43 48 [some (.ref 208), some (.int (nI i))] [.int (nI i), .ref 209] (32 + 15 * i, IS I (2 + i), R) := by
      simp (disch := first | omega | (show List.length _ ≤ 4; exact Nat.le_of_ble_eq_true rfl) | assumption | exact nbo_0 | exact nbo_1 | exact b2_b) only [s43_43, s43_44, s43_47, ↓reduceIte, psh_some, psh_none, cln_i, cln_r, cln_n, cln_l, cln_d, cln_f, Option.bind_some, Option.bind_none, if_true, if_false, nI_add, pk_mul, nbo_0, nbo_1, nI_leI, nI_ltI, nI_eq, Nat.reduceAdd, Nat.reduceMul, Nat.add_zero, Nat.mul_zero, g]
    simp (disch := first | omega | (show List.length _ ≤ 4; exact Nat.le_of_ble_eq_true rfl) | assumption | exact nbo_0 | exact nbo_1 | exact b2_b) only [s43_38, s43_40, ↓reduceIte, psh_some, psh_none, cln_i, cln_r, cln_n, cln_l, cln_d, cln_f, Option.bind_some, Option.bind_none, if_true, if_false, nI_add, pk_mul, nbo_0, nbo_1, nI_leI, nI_ltI, nI_eq, Nat.reduceAdd, Nat.reduceMul, Nat.add_zero, Nat.mul_zero, e]
    rw [st, s43_48 h1, s43_51r]
    show EE 43 52 _ [.ref (adr (32 + 15 * i)), .ref (adr (32 + 15 * i)), .int (nI i), .ref 209] _ = _
    rw [h2, s43_52 (by show 3 ≤ 4; decide) h3]
    have aa : kd 209 = 8 ∧ 209 < 1000 ∧ pos 209 < 32 + 15 * i + 15 ∧ inb (nI i) (ln 209) ∧ kd (16 * (2 + i)) = 2 ∧ 16 * (2 + i) < 1000 ∧ pos (16 * (2 + i)) < 32 + 15 * i + 15 := ⟨rfl, by decide, by show 31 < _; omega, nI_inb (show i < 6 by omega) (by decide), kd2, by omega, by rw [pb]; omega⟩
    rw [s43_55 aa, nI_clamp (by omega)]
    simp (disch := first | omega | (show List.length _ ≤ 4; exact Nat.le_of_ble_eq_true rfl) | assumption | exact nbo_0 | exact nbo_1 | exact b2_b) only [s43_56, s43_59, ↓reduceIte, psh_some, psh_none, cln_i, cln_r, cln_n, cln_l, cln_d, cln_f, Option.bind_some, Option.bind_none, if_true, if_false, nI_add, pk_mul, nbo_0, nbo_1, nI_leI, nI_ltI, nI_eq, Nat.reduceAdd, Nat.reduceMul, Nat.add_zero, Nat.mul_zero]
    rw [show 32 + 15 * i + 15 = 32 + 15 * (i + 1) by omega, show 2 + i + 1 = 2 + (i + 1) by omega]
theorem p43b (hz : ∀ v, v < 13 → ∀ x, I v x = 0) : ∀ d i (R : Nat → Nat → Option Nat), i + d = 2 → DK (8 + i) 5 6 i false R → ∃ R', EE 43 72 [some (.ref 208), some (.int (nI i))] [] (123 + 15 * i, IS I (8 + i), R) = EE 43 96 [some (.ref 208), some (.int (nI 2))] [] (153, IS I 10, R') ∧ DK 10 5 6 2 false R' := by
  intro d
  induction d with
  | zero =>
    intro i R hi hD
    have e : i = 2 := by omega
    subst e
    refine ⟨R, ?_, hD⟩
    rw [s43_72]
    simp (disch := first | omega | (show List.length _ ≤ 4; exact Nat.le_of_ble_eq_true rfl) | assumption | exact nbo_0 | exact nbo_1 | exact b2_b) only [s43_73, s43_74, ↓reduceIte, psh_some, psh_none, cln_i, cln_r, cln_n, cln_l, cln_d, cln_f, Option.bind_some, Option.bind_none, if_true, if_false, nI_add, pk_mul, nbo_0, nbo_1, nI_leI, nI_ltI, nI_eq, Nat.reduceAdd, Nat.reduceMul, Nat.add_zero, Nat.mul_zero, Nat.le_refl]
  | succ d ih =>
    intro i R hi hD
    have e : ¬ 2 ≤ i := by omega
    have hb : 8 + i < 13 := by omega
    have es := sb_8 i (by omega)
    obtain ⟨R1, h1, h2, h3, h4⟩ := newS hb hz hD
    rw [es] at h1 h2 h3
    have g := gdr (I := IS I (8 + i)) (n := 123 + 15 * i) (k := 4) (x := 210) (by omega) (by decide) rfl (hD.2.1 4 (by decide) (by decide))
    have kd2 := (st_is hb).1
    have pb := pos_b hb
    rw [es] at pb
    obtain ⟨R', k1, k2⟩ := ih (i + 1) (wR R1 210 i (some (16 * (8 + i)))) (by omega) (h4.a2 (by omega) rfl)
    refine ⟨R', ?_, k2⟩
    rw [← k1, s43_72]
    have st : EE 43 77 [some (.ref 208), some (.int (nI i))] [] (123 + 15 * i, IS I (8 + i), R) = EE 43 82 [some (.ref 208), some (.int (nI i))] [.int (nI i), .ref 210] (123 + 15 * i, IS I (8 + i), R) := by
      simp (disch := first | omega | (show List.length _ ≤ 4; exact Nat.le_of_ble_eq_true rfl) | assumption | exact nbo_0 | exact nbo_1 | exact b2_b) only [s43_77, s43_78, s43_81, ↓reduceIte, psh_some, psh_none, cln_i, cln_r, cln_n, cln_l, cln_d, cln_f, Option.bind_some, Option.bind_none, if_true, if_false, nI_add, pk_mul, nbo_0, nbo_1, nI_leI, nI_ltI, nI_eq, Nat.reduceAdd, Nat.reduceMul, Nat.add_zero, Nat.mul_zero, g]
    simp (disch := first | omega | (show List.length _ ≤ 4; exact Nat.le_of_ble_eq_true rfl) | assumption | exact nbo_0 | exact nbo_1 | exact b2_b) only [s43_73, s43_74, ↓reduceIte, psh_some, psh_none, cln_i, cln_r, cln_n, cln_l, cln_d, cln_f, Option.bind_some, Option.bind_none, if_true, if_false, nI_add, pk_mul, nbo_0, nbo_1, nI_leI, nI_ltI, nI_eq, Nat.reduceAdd, Nat.reduceMul, Nat.add_zero, Nat.mul_zero, e]
    rw [st, s43_82 h1, s43_85r]
    show EE 43 86 _ [.ref (adr (123 + 15 * i)), .ref (adr (123 + 15 * i)), .int (nI i), .ref 210] _ = _
    rw [h2, s43_86 (by show 3 ≤ 4; decide) h3]
    have aa : kd 210 = 8 ∧ 210 < 1000 ∧ pos 210 < 123 + 15 * i + 15 ∧ inb (nI i) (ln 210) ∧ kd (16 * (8 + i)) = 2 ∧ 16 * (8 + i) < 1000 ∧ pos (16 * (8 + i)) < 123 + 15 * i + 15 := ⟨rfl, by decide, by show 122 < _; omega, nI_inb (show i < 2 by omega) (by decide), kd2, by omega, by rw [pb]; omega⟩
    rw [s43_89 aa, nI_clamp (by omega)]
    simp (disch := first | omega | (show List.length _ ≤ 4; exact Nat.le_of_ble_eq_true rfl) | assumption | exact nbo_0 | exact nbo_1 | exact b2_b) only [s43_90, s43_93, ↓reduceIte, psh_some, psh_none, cln_i, cln_r, cln_n, cln_l, cln_d, cln_f, Option.bind_some, Option.bind_none, if_true, if_false, nI_add, pk_mul, nbo_0, nbo_1, nI_leI, nI_ltI, nI_eq, Nat.reduceAdd, Nat.reduceMul, Nat.add_zero, Nat.mul_zero]
    rw [show 123 + 15 * i + 15 = 123 + 15 * (i + 1) by omega, show 8 + i + 1 = 8 + (i + 1) by omega]
theorem f0 (hz : ∀ x, I 20 x = 0) : FF 0 [.ref 212] (155, I, R) = some (none, 157, I, wR (bnR (wR (bnR R 213) 212 0 (some 213)) 214) 212 1 (some 214)) := by
  have e1 : ∀ R, bn (155, I, R) = (156, I, bnR R 213) := fun R => by
    show (156, bnI I 213, bnR R 213) = _
    rw [bnI_0arr (by decide) (by decide) (by decide) (by decide) (fun x _ _ => hz x)]
  have e2 : ∀ R, bn (156, I, R) = (157, I, bnR R 214) := fun R => by
    show (157, bnI I 214, bnR R 214) = _
    rw [bnI_0arr (by decide) (by decide) (by decide) (by decide) (fun x _ _ => hz x)]
  have n1 : (155 : Nat) < 202 ∧ kd (adr 155) = 6 ∧ ¬ nI 80 < 0 ∧ (nI 80).toNatClampNeg = ln (adr 155) := by decide +kernel
  have n2 : (156 : Nat) < 202 ∧ kd (adr 156) = 5 ∧ ¬ nI 3 < 0 ∧ (nI 3).toNatClampNeg = ln (adr 156) := by decide +kernel
  have a1 : adr 155 = 213 := rfl
  have a2 : adr 156 = 214 := rfl
  have q1 : ∀ R, pfI 156 I R 0 0 212 (.ref 213) = some (I, wR R 212 0 (some 213)) := fun R => rfl
  have q2 : ∀ R, pfI 157 I R 0 1 212 (.ref 214) = some (I, wR R 212 1 (some 214)) := fun R => rfl
  simp (disch := first | omega | (show List.length _ ≤ 4; exact Nat.le_of_ble_eq_true rfl) | assumption | exact nbo_0 | exact nbo_1 | exact b2_b) only [FE0, s0_0, s0_1, s0_4, s0_5, s0_7, s0_9, s0_12, s0_13, s0_14, s0_16, s0_19, ↓reduceIte, psh_some, psh_none, cln_i, cln_r, cln_n, cln_l, cln_d, cln_f, Option.bind_some, Option.bind_none, if_true, if_false, nI_add, pk_mul, nbo_0, nbo_1, nI_leI, nI_ltI, nI_eq, Nat.reduceAdd, Nat.reduceMul, Nat.add_zero, Nat.mul_zero, e1, e2, a1, a2, q1, q2]
end ND
