/-! ===== what the property counts on ===== -/
def mS (a : Nat → Nat) : Nat := a 118 + a 119 + a 120 + a 121 + a 122 + a 123 + a 124 + a 125 + a 126 + a 127
/-- misses and begun-with-known ones are among those begun with; the misses are the topics' ones; idle minutes are had -/
def PX (a : Nat → Nat) : Prop := (∀ t, t < 10 → a (118 + t) + a (138 + t) ≤ a (128 + t)) ∧ a 8 = mS a ∧ (∀ t, t < 10 → a 1 ≤ t → a (118 + t) = 0) ∧ a 10 ≤ a 9 ∧ a 9 ≤ 60 * a 0
def WX (N : Nat) (a : Nat → Nat) : Prop := WN N a ∧ PX a
theorem mS_eq {a a' : Nat → Nat} (h : ∀ k, 118 ≤ k → k < 128 → a' k = a k) : mS a' = mS a := by
  unfold mS
  rw [h 118 (by decide) (by decide), h 119 (by decide) (by decide), h 120 (by decide) (by decide), h 121 (by decide) (by decide), h 122 (by decide) (by decide), h 123 (by decide) (by decide), h 124 (by decide) (by decide), h 125 (by decide) (by decide), h 126 (by decide) (by decide), h 127 (by decide) (by decide)]
theorem mS_up {a : Nat → Nat} {x : Nat} (hx : x < 10) : mS (up a (118 + x) (a (118 + x) + 1)) = mS a + 1 := by
  rcases (show x = 0 ∨ x = 1 ∨ x = 2 ∨ x = 3 ∨ x = 4 ∨ x = 5 ∨ x = 6 ∨ x = 7 ∨ x = 8 ∨ x = 9 by omega) with rfl | rfl | rfl | rfl | rfl | rfl | rfl | rfl | rfl | rfl <;> (unfold mS up; simp only [Nat.reduceAdd, Nat.reduceEqDiff, if_true, if_false]; omega)
section PXs
variable {a a' s : Nat → Nat} {N n w f t : Nat}
theorem WX.mono {N' : Nat} (h : WX N a) (hn : N ≤ N') : WX N' a := ⟨h.1.mono hn, h.2⟩
theorem KP.wx (k : KP a a') (h : WX N a) : WX N a' := by
  obtain ⟨k1, k2, k3, k4, k5⟩ := k
  obtain ⟨h1, p1, p2, p3, p4, p5⟩ := h
  refine ⟨h1.of_same k1 k3 (fun j g1 g2 => k5 j (by omega) g2), fun t ht => ?_, ?_, fun t ht g => ?_, ?_, ?_⟩
  · rw [k5 _ (by omega) (by omega), k5 _ (by omega) (by omega), k5 _ (by omega) (by omega)]; exact p1 t ht
  · rw [k4 8 (by decide) (by decide), mS_eq (fun j g1 g2 => k5 j g1 (by omega))]; exact p2
  · rw [k5 _ (by omega) (by omega)]; exact p3 t ht (by omega)
  · rw [k4 9 (by decide) (by decide), k4 10 (by decide) (by decide)]; exact p4
  · rw [k4 9 (by decide) (by decide), k3]; exact p5
/-- begun with, and begun with known -/
theorem bg_at (hw : w < 6) : ∀ n, n ≤ 10 → (∀ t, t < 10 → fd (bgF w) n 0 s (128 + t) = s (128 + t) + (if t < n ∧ s (38 + t) = 1 then 1 else 0)) ∧ (∀ t, t < 10 → fd (bgF w) n 0 s (138 + t) = s (138 + t) + (if t < n ∧ s (38 + t) = 1 ∧ s 2 ≤ s (58 + 10 * w + t) then 1 else 0)) ∧ ∀ k, ¬ (128 ≤ k ∧ k < 148) → fd (bgF w) n 0 s k = s k := by
  intro n
  induction n with
  | zero =>
    intro _
    refine ⟨fun t ht => ?_, fun t ht => ?_, fun k hk => rfl⟩
    · rw [if_neg (by omega)]; rfl
    · rw [if_neg (by omega)]; rfl
  | succ n ih =>
    intro hn
    obtain ⟨i1, i2, i3⟩ := ih (by omega)
    rw [fd_last, Nat.zero_add]
    generalize fd (bgF w) n 0 s = r at *
    have r1 := i3 (38 + n) (by omega)
    have r2 := i3 2 (by omega)
    have r3 := i3 (58 + 10 * w + n) (by omega)
    unfold bgF
    rw [r1, r2, r3]
    by_cases e1 : s (38 + n) = 1
    · rw [if_pos e1]
      by_cases e2 : s 2 ≤ s (58 + 10 * w + n)
      · rw [if_pos e2]
        refine ⟨fun t ht => ?_, fun t ht => ?_, fun k hk => by rw [up_ne (by omega), up_ne (by omega)]; exact i3 k hk⟩
        · rw [up_ne (by omega)]
          by_cases e : t = n
          · subst e
            rw [up_at, i1 t ht, if_neg (by omega), if_pos ⟨by omega, e1⟩]
          · rw [up_ne (by omega), i1 t ht]
            by_cases e3 : t < n ∧ s (38 + t) = 1
            · rw [if_pos e3, if_pos ⟨by omega, e3.2⟩]
            · rw [if_neg e3, if_neg (fun h => e3 ⟨by omega, h.2⟩)]
        · by_cases e : t = n
          · subst e
            rw [up_at, i2 t ht, if_neg (by omega), if_pos ⟨by omega, e1, e2⟩]
          · rw [up_ne (by omega), up_ne (by omega), i2 t ht]
            by_cases e3 : t < n ∧ s (38 + t) = 1 ∧ s 2 ≤ s (58 + 10 * w + t)
            · rw [if_pos e3, if_pos ⟨by omega, e3.2⟩]
            · rw [if_neg e3, if_neg (fun h => e3 ⟨by omega, h.2⟩)]
      · rw [if_neg e2]
        refine ⟨fun t ht => ?_, fun t ht => ?_, fun k hk => by rw [up_ne (by omega)]; exact i3 k hk⟩
        · by_cases e : t = n
          · subst e
            rw [up_at, i1 t ht, if_neg (by omega), if_pos ⟨by omega, e1⟩]
          · rw [up_ne (by omega), i1 t ht]
            by_cases e3 : t < n ∧ s (38 + t) = 1
            · rw [if_pos e3, if_pos ⟨by omega, e3.2⟩]
            · rw [if_neg e3, if_neg (fun h => e3 ⟨by omega, h.2⟩)]
        · rw [up_ne (by omega), i2 t ht]
          by_cases e3 : t < n ∧ s (38 + t) = 1 ∧ s 2 ≤ s (58 + 10 * w + t)
          · rw [if_pos e3, if_pos ⟨by omega, e3.2⟩]
          · rw [if_neg e3, if_neg (fun h => by
              by_cases e : t = n
              · subst e; exact e2 h.2.2
              · exact e3 ⟨by omega, h.2⟩)]
    · rw [if_neg e1]
      refine ⟨fun t ht => ?_, fun t ht => ?_, i3⟩
      · rw [i1 t ht]
        by_cases e3 : t < n ∧ s (38 + t) = 1
        · rw [if_pos e3, if_pos ⟨by omega, e3.2⟩]
        · rw [if_neg e3, if_neg (fun h => by
            by_cases e : t = n
            · subst e; exact e1 h.2
            · exact e3 ⟨by omega, h.2⟩)]
      · rw [i2 t ht]
        by_cases e3 : t < n ∧ s (38 + t) = 1 ∧ s 2 ≤ s (58 + 10 * w + t)
        · rw [if_pos e3, if_pos ⟨by omega, e3.2⟩]
        · rw [if_neg e3, if_neg (fun h => by
            by_cases e : t = n
            · subst e; exact e1 h.2.1
            · exact e3 ⟨by omega, h.2⟩)]
/-- the misses, topic by topic -/
theorem ms_at (hW : WO s) (hw : w < 6) : ∀ k, k ≤ s 13 → (∀ t, t < 10 → (fd (msF w) k 0 (s, 0)).1 (118 + t) = s (118 + t) ∨ ((fd (msF w) k 0 (s, 0)).1 (118 + t) = s (118 + t) + 1 ∧ (∃ j, j < k ∧ s (48 + j) = t) ∧ s (38 + t) = 1 ∧ s (58 + 10 * w + t) < s 2)) ∧ mS (fd (msF w) k 0 (s, 0)).1 = mS s + (fd (msF w) k 0 (s, 0)).2 ∧ ∀ k', ¬ (118 ≤ k' ∧ k' < 128) → (fd (msF w) k 0 (s, 0)).1 k' = s k' := by
  intro k
  have hT := hW.tp
  have hL := hW.li
  induction k with
  | zero => intro _; exact ⟨fun t ht => Or.inl rfl, rfl, fun k' _ => rfl⟩
  | succ k ih =>
    intro hk
    obtain ⟨i1, i2, i3⟩ := ih (by omega)
    rw [fd_last, Nat.zero_add]
    generalize fd (msF w) k 0 (s, 0) = q at *
    have hx := hW.le k (by omega)
    have r0 := i3 (48 + k) (by omega)
    have r1 := i3 (38 + s (48 + k)) (by omega)
    have r2 := i3 2 (by omega)
    have r3 := i3 (58 + 10 * w + s (48 + k)) (by omega)
    unfold msF
    rw [r0, r1, r2, r3]
    by_cases e : s (38 + s (48 + k)) = 1 ∧ s (58 + 10 * w + s (48 + k)) < s 2
    · rw [if_pos e]
      have hold : q.1 (118 + s (48 + k)) = s (118 + s (48 + k)) := by
        rcases i1 (s (48 + k)) (by omega) with h | ⟨-, ⟨j, j1, j2⟩, -⟩
        · exact h
        · exact absurd j2 (hW.nd j k j1 (by omega))
      refine ⟨fun t ht => ?_, ?_, fun k' hk' => ?_⟩
      · by_cases e2 : t = s (48 + k)
        · rw [e2]
          right
          refine ⟨?_, ⟨k, Nat.lt_succ_self k, rfl⟩, e.1, e.2⟩
          show up q.1 (118 + s (48 + k)) (q.1 (118 + s (48 + k)) + 1) (118 + s (48 + k)) = _
          rw [up_at, hold]
        · have e3 : up q.1 (118 + s (48 + k)) (q.1 (118 + s (48 + k)) + 1) (118 + t) = q.1 (118 + t) := up_ne (by omega)
          rcases i1 t ht with h | ⟨h1, ⟨j, j1, j2⟩, h3⟩
          · exact Or.inl (e3.trans h)
          · exact Or.inr ⟨e3.trans h1, ⟨j, by omega, j2⟩, h3⟩
      · show mS (up q.1 (118 + s (48 + k)) (q.1 (118 + s (48 + k)) + 1)) = mS s + (q.2 + 1)
        rw [mS_up (by omega), i2, Nat.add_assoc]
      · show up q.1 (118 + s (48 + k)) (q.1 (118 + s (48 + k)) + 1) k' = s k'
        rw [up_ne (by omega)]
        exact i3 k' hk'
    · rw [if_neg e]
      refine ⟨fun t ht => ?_, i2, i3⟩
      rcases i1 t ht with h | ⟨h1, ⟨j, j1, j2⟩, h3⟩
      · exact Or.inl h
      · exact Or.inr ⟨h1, ⟨j, by omega, j2⟩, h3⟩
/-- the accounts of minutes -/
theorem hands_ct (hf : f < 6) (ht : t < 6) (hW : WO s) : hands f t n s 9 = s 9 + (if f = t then 0 else n) ∧ hands f t n s 10 ≤ s 10 + (if f = t then 0 else n) ∧ hands f t n s 11 = s 11 + (if f = t then 0 else n * s 6) := by
  unfold hands
  by_cases e : f = t
  · rw [if_pos e, if_pos e, if_pos e]
    exact ⟨rfl, Nat.le_refl _, rfl⟩
  · rw [if_neg e, if_neg e, if_neg e]
    have hk := (hand_ok hf ht e n s hW).2
    have hi := idle_le (f := f) (t := t) n s
    unfold hipF
    refine ⟨?_, ?_, ?_⟩
    · rw [up_ne (by decide), up_at, hk 9 (by decide)]
    · rw [up_ne (by decide), up_ne (by decide), up_at, hk 10 (by decide)]; omega
    · rw [up_at, hk 11 (by decide), hk 6 (by decide)]
/-- a shift's end -/
theorem endP_px (h : WX N a) (hn : n ≤ 60) : WX (N + 1) (tot (endP n a)) ∧ tot (endP n a) 0 = a 0 + 1 ∧ tot (endP n a) 6 = a 6 ∧ tot (endP n a) 8 = a 8 + (endP n a).2 ∧ tot (endP n a) 9 = a 9 + (if frm a = too a then 0 else n) ∧ tot (endP n a) 11 = a 11 + (if frm a = too a then 0 else n * a 6) := by
  obtain ⟨hWN, p1, p2, p3, p4, p5⟩ := h
  have hW := hWN.1
  have hf : frm a < 6 := hW.ro _ (Nat.mod_lt _ (by decide))
  have ht : too a < 6 := hW.ro _ (Nat.mod_lt _ (by decide))
  have hT := hW.tp
  have k1 := wkA_ok hW
  have k2 := hands_ok (n := n) hf ht k1.1
  have k2c := hands_ct (n := n) hf ht k1.1
  rw [k1.2 9 (by decide), k1.2 10 (by decide), k1.2 11 (by decide), k1.2 6 (by decide)] at k2c
  have k3 : WO (shN (hands (frm a) (too a) n (wkA a))) := k2.1.up_ct (by omega)
  have k3' : ∀ k, 1 ≤ k → shN (hands (frm a) (too a) n (wkA a)) k = hands (frm a) (too a) n (wkA a) k := fun k hk => up_ne (by omega)
  have k4 := dcA_ok (t := too a) k3
  have k5 := bg_at (s := dcA (too a) (shN (hands (frm a) (too a) n (wkA a)))) ht (a 1) hT
  have k5' := bgA_ok (t := too a) (n := a 1) k4.1 hT
  have k6 := ms_at k5'.1 ht _ (Nat.le_refl _)
  have z : ∀ k, 1 ≤ k → ¬ (9 ≤ k ∧ k < 12) → ¬ (58 ≤ k ∧ k < 118) → dcA (too a) (shN (hands (frm a) (too a) n (wkA a))) k = a k := fun k h1 h2 h3 => by
    rw [k4.2 k h3, k3' k h1, k2.2 k h3 h2, k1.2 k h3]
  have z0 : dcA (too a) (shN (hands (frm a) (too a) n (wkA a))) 0 = a 0 + 1 := by
    rw [k4.2 0 (by omega)]
    show up _ 0 _ 0 = _
    rw [up_at, k2.2 0 (by omega) (by omega), k1.2 0 (by omega)]
  have z9 : ∀ k, 9 ≤ k → k < 12 → dcA (too a) (shN (hands (frm a) (too a) n (wkA a))) k = hands (frm a) (too a) n (wkA a) k := fun k h1 h2 => by
    rw [k4.2 k (by omega), k3' k (by omega)]
  have he : endP n a = fd (msF (too a)) (fd (bgF (too a)) (a 1) 0 (dcA (too a) (shN (hands (frm a) (too a) n (wkA a)))) 13) 0 (fd (bgF (too a)) (a 1) 0 (dcA (too a) (shN (hands (frm a) (too a) n (wkA a)))), 0) := rfl
  rw [← he] at k6
  have hok := endP_ok (n := n) hWN
  generalize dcA (too a) (shN (hands (frm a) (too a) n (wkA a))) = s1 at *
  generalize fd (bgF (too a)) (a 1) 0 s1 = s2 at *
  obtain ⟨b1, b2, b3⟩ := k5
  obtain ⟨m1, m2, m3⟩ := k6
  generalize endP n a = q at *
  have t8 : tot q 8 = a 8 + q.2 := by
    show up q.1 8 (q.1 8 + q.2) 8 = _
    rw [up_at, m3 8 (by decide), b3 8 (by decide), z 8 (by decide) (by decide) (by decide)]
  have tk : ∀ k, k ≠ 8 → tot q k = q.1 k := fun k hk => up_ne hk
  have t0 : tot q 0 = a 0 + 1 := by rw [tk 0 (by decide), m3 0 (by decide), b3 0 (by decide), z0]
  have t9 : tot q 9 = a 9 + (if frm a = too a then 0 else n) := by rw [tk 9 (by decide), m3 9 (by decide), b3 9 (by decide), z9 9 (by decide) (by decide)]; exact k2c.1
  have t10 : tot q 10 ≤ a 10 + (if frm a = too a then 0 else n) := by rw [tk 10 (by decide), m3 10 (by decide), b3 10 (by decide), z9 10 (by decide) (by decide)]; exact k2c.2.1
  have t11 : tot q 11 = a 11 + (if frm a = too a then 0 else n * a 6) := by rw [tk 11 (by decide), m3 11 (by decide), b3 11 (by decide), z9 11 (by decide) (by decide)]; exact k2c.2.2
  have t6 : tot q 6 = a 6 := by rw [tk 6 (by decide), m3 6 (by decide), b3 6 (by decide), z 6 (by decide) (by decide) (by decide)]
  refine ⟨⟨hok, fun t ht10 => ?_, ?_, fun t ht10 g => ?_, ?_, ?_⟩, t0, t6, t8, t9, t11⟩
  · rw [tk _ (by omega), tk _ (by omega), tk _ (by omega), m3 (138 + t) (by omega), m3 (128 + t) (by omega), b1 t ht10, b2 t ht10, z (128 + t) (by omega) (by omega) (by omega), z (138 + t) (by omega) (by omega) (by omega), z 2 (by decide) (by decide) (by decide), z (38 + t) (by omega) (by omega) (by omega)]
    have p := p1 t ht10
    have e118 : s2 (118 + t) = a (118 + t) := by rw [b3 _ (by omega), z _ (by omega) (by omega) (by omega)]
    rcases m1 t ht10 with h | ⟨h1, ⟨j, j1, j2⟩, h3, h4⟩
    · rw [h, e118]
      by_cases c1 : t < a 1 ∧ a (38 + t) = 1 ∧ a 2 ≤ s1 (58 + 10 * too a + t)
      · rw [if_pos c1, if_pos ⟨c1.1, c1.2.1⟩]; omega
      · rw [if_neg c1]; omega
    · rw [h1, e118]
      rw [b3 (38 + t) (by omega), z (38 + t) (by omega) (by omega) (by omega)] at h3
      rw [b3 _ (by omega), b3 2 (by omega), z 2 (by decide) (by decide) (by decide)] at h4
      have ht1 : t < a 1 := by
        have h5 := k5'.1.le j j1
        rw [j2, b3 1 (by omega), z 1 (by decide) (by decide) (by decide)] at h5
        exact h5
      rw [if_neg (fun c => by have := c.2.2; omega), if_pos ⟨ht1, h3⟩]
      omega
  · rw [t8, mS_eq (a := q.1) (fun k g1 g2 => tk k (by omega)), m2, p2, mS_eq (a := a) (a' := s2) (fun k g1 g2 => by rw [b3 k (by omega), z k (by omega) (by omega) (by omega)])]
  · rw [tk 1 (by decide), m3 1 (by decide), b3 1 (by decide), z 1 (by decide) (by decide) (by decide)] at g
    rw [tk _ (by omega)]
    rcases m1 t ht10 with h | ⟨h1, ⟨j, j1, j2⟩, -⟩
    · rw [h, b3 _ (by omega), z _ (by omega) (by omega) (by omega)]; exact p3 t ht10 g
    · have h5 := k5'.1.le j j1
      rw [j2, b3 1 (by omega), z 1 (by decide) (by decide) (by decide)] at h5
      omega
  · rw [t9]; omega
  · rw [t9, t0]
    have : (if frm a = too a then 0 else n) ≤ 60 := by
      by_cases e : frm a = too a
      · rw [if_pos e]; omega
      · rw [if_neg e]; exact hn
    omega
end PXs
