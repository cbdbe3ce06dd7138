/-! ===== the desk and the model, told alike ===== -/
def SL (I : Nat → Nat → Int32) (o : Nat) (sl : Nat → Nat → Nat) (hd : Nat → Nat) : Prop := (∀ i, i < 2 → hd i = 1 → I (o + i) = vI (sl i)) ∧ ∀ i, i < 2 → ∃ e, I (o + i) = vI e ∧ Zz e
/-- the desk tells: now a, u past ones p, slots sl (held where hd is 1), n signs q -/
def CL (I : Nat → Nat → Int32) (nw bf : Nat) (h : Nat → Nat) (a : Nat → Nat) (u : Nat) (p sl : Nat → Nat → Nat) (hd : Nat → Nat) (n : Nat) (q : Nat → Nat) : Prop := PP nw bf h ∧ I nw = vI a ∧ CD I bf h u p ∧ SL I 8 sl hd ∧ (∀ i, i < 2 → I 20 (1 + i) = nI (hd i)) ∧ I 20 3 = nI n ∧ (∀ k, k < n → I 20 (10 + k) = nI (q k)) ∧ ∀ v, 10 ≤ v → v < 13 → ∃ e, I v = vI e ∧ Zz e
/-- the model tells -/
def ML (I : Nat → Nat → Int32) (a : Nat → Nat) (u : Nat) (p sl : Nat → Nat → Nat) (hd : Nat → Nat) (n : Nat) (q : Nat → Nat) : Prop := MD I a u p ∧ SL I 50 sl hd ∧ (∀ i, i < 2 → I 32 i = nI (hd i)) ∧ I 32 3 = nI n ∧ (∀ k, k < n → I 32 (10 + k) = nI (q k)) ∧ ∃ e, I 226 = vI e ∧ Zz e
def GL (N : Nat) (a : Nat → Nat) (u : Nat) (p sl : Nat → Nat → Nat) (hd : Nat → Nat) (n : Nat) (q : Nat → Nat) : Prop := WN N a ∧ (∀ i, i < u → WN N (p i)) ∧ (∀ i, i < 2 → hd i ≤ 1 ∧ (hd i = 1 → WN N (sl i))) ∧ n ≤ 80 ∧ ∀ k, k < n → 33 ≤ q k ∧ q k ≤ 126
section RE
variable {I I' : Nat → Nat → Int32} {R : Nat → Nat → Option Nat} {nw bf u n N : Nat} {h hd q : Nat → Nat} {p sl : Nat → Nat → Nat} {a a' : Nat → Nat}
theorem CL.congr (hC : CL I nw bf h a u p sl hd n q) (e : ∀ v, v < 21 → I' v = I v) : CL I' nw bf h a u p sl hd n q := by
  obtain ⟨c1, c2, ⟨d1, d2, d3, d4, d5⟩, ⟨s1, s2⟩, c5, c6, c7, c8⟩ := hC
  have b1 := c1.1
  have b2' := c1.2.1
  refine ⟨c1, by rw [e nw (by omega)]; exact c2, ⟨by rw [e 20 (by omega)]; exact d1, d2, fun i hi => ?_, by rw [e bf (by omega)]; exact d4, fun i hi => ?_⟩, ⟨fun i hi => by rw [e _ (by omega)]; exact s1 i hi, fun i hi => by rw [e _ (by omega)]; exact s2 i hi⟩, fun i hi => by rw [e 20 (by omega)]; exact c5 i hi, by rw [e 20 (by omega)]; exact c6, fun k hk => by rw [e 20 (by omega)]; exact c7 k hk, fun v h1 h2 => by rw [e v (by omega)]; exact c8 v h1 h2⟩
  · have := (c1.2.2.2.1 i (by omega)).1
    rw [e _ (by omega)]; exact d3 i hi
  · have := (c1.2.2.2.1 i hi).1
    rw [e _ (by omega)]; exact d5 i hi
theorem ML.congr (hC : ML I a u p sl hd n q) (e : ∀ v, 32 ≤ v → v ≠ 60 → v ≠ 61 → I' v = I v) : ML I' a u p sl hd n q := by
  obtain ⟨⟨d1, d2, d3, d4, d5⟩, ⟨s1, s2⟩, c5, c6, c7, c8⟩ := hC
  refine ⟨⟨by rw [e 225 (by omega) (by omega) (by omega)]; exact d1, by rw [e 32 (by omega) (by omega) (by omega)]; exact d2, d3, fun i hi => by rw [e _ (by omega) (by omega) (by omega)]; exact d4 i hi, fun i hi => by rw [e _ (by omega) (by omega) (by omega)]; exact d5 i hi⟩, ⟨fun i hi => by rw [e _ (by omega) (by omega) (by omega)]; exact s1 i hi, fun i hi => by rw [e _ (by omega) (by omega) (by omega)]; exact s2 i hi⟩, fun i hi => by rw [e 32 (by omega) (by omega) (by omega)]; exact c5 i hi, by rw [e 32 (by omega) (by omega) (by omega)]; exact c6, fun k hk => by rw [e 32 (by omega) (by omega) (by omega)]; exact c7 k hk, by rw [e 226 (by omega) (by omega) (by omega)]; exact c8⟩
theorem pushP_WN {P : (Nat → Nat) → Prop} (hp : ∀ i, i < u → P (p i)) (ha : P a) (hu : u ≤ 6) : ∀ i, i < pushU u → P (pushP u p a i) := by
  intro i hi
  unfold pushU at hi
  unfold pushP
  by_cases e : u < 6
  · rw [if_pos e] at hi ⊢
    by_cases e2 : i = u
    · rw [e2, up_at]; exact ha
    · rw [up_ne e2]; exact hp i (by omega)
  · rw [if_neg e] at hi ⊢
    show P (if i < 5 then p (i + 1) else a)
    by_cases e2 : i < 5
    · rw [if_pos e2]; exact hp _ (by omega)
    · rw [if_neg e2]; exact ha
/-- after the copy to before: all stands as it stood -/
theorem CL.before (hC : CL I nw bf h a u p sl hd n q) (ha : Zz a) : CL (up I bf (vI a)) nw bf h a u p sl hd n q := by
  obtain ⟨c1, c2, ⟨d1, d2, d3, d4, d5⟩, ⟨s1, s2⟩, c5, c6, c7, c8⟩ := hC
  obtain ⟨q1, q2, q3, q4, q5⟩ := c1
  have c1 : PP nw bf h := ⟨q1, q2, q3, q4, q5⟩
  refine ⟨c1, by rw [up_ne q3]; exact c2, ⟨by rw [up_ne (by omega)]; exact d1, d2, fun i hi => by rw [up_ne (q4 i (by omega)).2.2]; exact d3 i hi, by rw [up_at]; exact ⟨a, rfl, ha⟩, fun i hi => by rw [up_ne (q4 i hi).2.2]; exact d5 i hi⟩, ⟨fun i hi => by rw [up_ne (by omega)]; exact s1 i hi, fun i hi => by rw [up_ne (by omega)]; exact s2 i hi⟩, fun i hi => by rw [up_ne (by omega)]; exact c5 i hi, by rw [up_ne (by omega)]; exact c6, fun k hk => by rw [up_ne (by omega)]; exact c7 k hk, fun v h1 h2 => by rw [up_ne (by omega)]; exact c8 v h1 h2⟩
theorem rec_c {r : Int32} (hB : BR R) (hC : CL I nw bf h a u p sl hd n q) (ha : Zz a) (hr : ¬ r < 0) : ∃ I' bf' h', FF 46 [.ref 208, .int r] (210, up (up I bf (vI a)) nw (vI a'), QR R nw bf h) = some (some (.int r), 210, I', QR R nw bf' h') ∧ CL I' nw bf' h' a' (pushU u) (pushP u p a) sl hd n q ∧ ∀ v, 21 ≤ v → I' v = I v := by
  obtain ⟨c1, c2, ⟨d1, d2, d3, d4, d5⟩, ⟨s1, s2⟩, c5, c6, c7, c8⟩ := hC
  obtain ⟨q1, q2, q3, q4, q5⟩ := c1
  have c1 : PP nw bf h := ⟨q1, q2, q3, q4, q5⟩
  have e : ∀ v, v ≠ nw → v ≠ bf → up (up I bf (vI a)) nw (vI a') v = I v := fun v h1 h2 => by rw [up_ne h1, up_ne h2]
  have eb : up (up I bf (vI a)) nw (vI a') bf = vI a := by rw [up_ne (fun hc => q3 hc.symm), up_at]
  have hD : CD (up (up I bf (vI a)) nw (vI a')) bf h u p := ⟨by rw [e 20 (by omega) (by omega)]; exact d1, d2, fun i hi => by rw [e _ (q4 i (by omega)).2.1 (q4 i (by omega)).2.2]; exact d3 i hi, ⟨a, eb, ha⟩, fun i hi => by rw [e _ (q4 i hi).2.1 (q4 i hi).2.2]; exact d5 i hi⟩
  obtain ⟨bf', h', g1, g2, g3⟩ := f46 (r := r) hB c1 hD eb ha hr
  have e20 : ∀ v, v ≠ 20 → up (up (up I bf (vI a)) nw (vI a')) 20 (up ((up (up I bf (vI a)) nw (vI a')) 20) 0 (nI (pushU u))) v = up (up I bf (vI a)) nw (vI a') v := fun v hv => up_ne hv
  have e2 : ∀ j, j ≠ 0 → up (up (up I bf (vI a)) nw (vI a')) 20 (up ((up (up I bf (vI a)) nw (vI a')) 20) 0 (nI (pushU u))) 20 j = I 20 j := fun j hj => by rw [up_at, up_ne hj, e 20 (by omega) (by omega)]
  refine ⟨_, bf', h', g1, ⟨g2, ?_, g3, ⟨fun i hi => ?_, fun i hi => ?_⟩, fun i hi => ?_, ?_, fun k hk => ?_, fun v h1 h2 => ?_⟩, fun v hv => ?_⟩
  · rw [e20 nw (by omega), up_at]
  · rw [e20 _ (by omega), e _ (by omega) (by omega)]; exact s1 i hi
  · rw [e20 _ (by omega), e _ (by omega) (by omega)]; exact s2 i hi
  · rw [e2 _ (by omega)]; exact c5 i hi
  · rw [e2 _ (by omega)]; exact c6
  · rw [e2 _ (by omega)]; exact c7 k hk
  · rw [e20 _ (by omega), e _ (by omega) (by omega)]; exact c8 v h1 h2
  · rw [e20 _ (by omega), e _ (by omega) (by omega)]
theorem rec_m (hR : RM R) (hM : ML I a u p sl hd n q) (ha : Zz a) : ∃ I', FF 86 [.ref 224] (210, I, R) = some (none, 210, I', R) ∧ (∀ a', ML (up I' 225 (vI a')) a' (pushU u) (pushP u p a) sl hd n q) ∧ ML I' a (pushU u) (pushP u p a) sl hd n q ∧ I' 225 = vI a ∧ ∀ v, v < 32 ∨ v = 60 ∨ v = 61 → I' v = I v := by
  obtain ⟨d, ⟨s1, s2⟩, c5, c6, c7, c8⟩ := hM
  obtain ⟨I', g1, ⟨k1, k2, k3, k4, k5⟩, m1, m2⟩ := f86 hR d ha
  refine ⟨I', g1, fun a' => ⟨⟨up_at _ _ _, by rw [up_ne (by omega)]; exact k2, k3, fun i hi => by rw [up_ne (by omega)]; exact k4 i hi, fun i hi => by rw [up_ne (by omega)]; exact k5 i hi⟩, ⟨fun i hi => by rw [up_ne (by omega), m1 _ (by omega) (by omega)]; exact s1 i hi, fun i hi => by rw [up_ne (by omega), m1 _ (by omega) (by omega)]; exact s2 i hi⟩, fun i hi => by rw [up_ne (by omega), m2 _ (by omega)]; exact c5 i hi, by rw [up_ne (by omega), m2 _ (by omega)]; exact c6, fun k hk => by rw [up_ne (by omega), m2 _ (by omega)]; exact c7 k hk, by rw [up_ne (by omega), m1 _ (by omega) (by omega)]; exact c8⟩, ⟨⟨k1, k2, k3, k4, k5⟩, ⟨fun i hi => by rw [m1 _ (by omega) (by omega)]; exact s1 i hi, fun i hi => by rw [m1 _ (by omega) (by omega)]; exact s2 i hi⟩, fun i hi => by rw [m2 _ (by omega)]; exact c5 i hi, by rw [m2 _ (by omega)]; exact c6, fun k hk => by rw [m2 _ (by omega)]; exact c7 k hk, by rw [m1 _ (by omega) (by omega)]; exact c8⟩, k1, fun v hv => m1 v (by omega) (by omega)⟩
end RE
