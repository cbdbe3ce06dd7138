/-! ===== the desk told by pictures ===== -/
/-- now a, u past ones p, and a trial's numbers -/
def CL (I : Nat → Nat → Int32) (nw bf : Nat) (h : Nat → Nat) (a : Nat → Nat) (u : Nat) (p : Nat → Nat → Nat) : Prop := PP nw bf h ∧ I nw = vI a ∧ CD I bf h u p ∧ ∃ e, I 10 = vI e ∧ Zz e
/-- a call answers r; behind it now is a', the past u' ones p' -/
def ST (R : Nat → Nat → Option Nat) (I : Nat → Nat → Int32) (nw bf : Nat) (h : Nat → Nat) (K : Nat) (as1 : List Value) (r : Int32) (a' : Nat → Nat) (u' : Nat) (p' : Nat → Nat → Nat) : Prop := ∃ I' nw' bf' h', FF K as1 (202, I, QR R nw bf h) = some (some (.int r), 202, I', QR R nw' bf' h') ∧ CL I' nw' bf' h' a' u' p' ∧ I' 60 = I 60 ∧ I' 61 = I 61
section RE
variable {I I' : Nat → Nat → Int32} {R : Nat → Nat → Option Nat} {nw bf u : Nat} {h : Nat → Nat} {p : Nat → Nat → Nat} {a a' : Nat → Nat}
theorem bnw (hC : CL I nw bf h a u p) : up I bf (vI a) nw = vI a := by rw [up_ne hC.1.2.2.1]; exact hC.2.1
theorem CL.congr (hC : CL I nw bf h a u p) (e : ∀ v, v < 21 → v ≠ 10 → I' v = I v) (e10 : ∃ e, I' 10 = vI e ∧ Zz e) : CL I' nw bf h a u p := by
  obtain ⟨c1, c2, ⟨d1, d2, d3, d4, d5⟩, -⟩ := hC
  have b1 := c1.1
  have b2' := c1.2.1
  refine ⟨c1, by rw [e nw (by omega) (by omega)]; exact c2, ⟨by rw [e 20 (by omega) (by omega)]; exact d1, d2, fun i hi => ?_, by rw [e bf (by omega) (by omega)]; exact d4, fun i hi => ?_⟩, e10⟩
  · have := (c1.2.2.2.1 i (by omega)).1
    rw [e _ (by omega) (by omega)]; exact d3 i hi
  · have := (c1.2.2.2.1 i hi).1
    rw [e _ (by omega) (by omega)]; exact d5 i hi
/-- after the copy to before: all stands as it stood -/
theorem CL.before (hC : CL I nw bf h a u p) (ha : Zz a) : CL (up I bf (vI a)) nw bf h a u p := by
  obtain ⟨c1, c2, ⟨d1, d2, d3, d4, d5⟩, c8⟩ := hC
  obtain ⟨q1, q2, q3, q4, q5⟩ := c1
  exact ⟨⟨q1, q2, q3, q4, q5⟩, by rw [up_ne q3]; exact c2, ⟨by rw [up_ne (by omega)]; exact d1, d2, fun i hi => by rw [up_ne (q4 i (by omega)).2.2]; exact d3 i hi, by rw [up_at]; exact ⟨a, rfl, ha⟩, fun i hi => by rw [up_ne (q4 i hi).2.2]; exact d5 i hi⟩, by rw [up_ne (by omega)]; exact c8⟩
theorem pushP_P {P : (Nat → Nat) → Prop} (hp : ∀ i, i < u → P (p i)) (ha : P a) (hu : u ≤ 6) : ∀ i, i < pushU u → P (pushP u p a i) := by
  intro i hi
  unfold pushU at hi
  unfold pushP
  by_cases e : u < 6
  · rw [if_pos e] at hi ⊢
    by_cases e2 : i = u
    · rw [e2, up_at]; exact ha
    · rw [up_ne e2]; exact hp i (by omega)
  · rw [if_neg e] at hi ⊢
    show P (if i < 5 then p (i + 1) else a)
    by_cases e2 : i < 5
    · rw [if_pos e2]; exact hp _ (by omega)
    · rw [if_neg e2]; exact ha
/-- a change that is recorded -/
theorem chg {K1 : Nat} {as1 : List Value} {r : Int32} (hB : BR R) (hC : CL I nw bf h a u p) (ha : Zz a) (hr : ¬ r < 0) (h1 : ∀ I' R', FF 46 [.ref 208, .int r] (202, up (up I bf (vI a)) nw (vI a'), QR R nw bf h) = some (some (.int r), 202, I', R') → FF K1 as1 (202, I, QR R nw bf h) = some (some (.int r), 202, I', R')) : ST R I nw bf h K1 as1 r a' (pushU u) (pushP u p a) := by
  obtain ⟨c1, c2, ⟨d1, d2, d3, d4, d5⟩, c8⟩ := hC
  obtain ⟨q1, q2, q3, q4, q5⟩ := c1
  have c1 : PP nw bf h := ⟨q1, q2, q3, q4, q5⟩
  have e : ∀ v, v ≠ nw → v ≠ bf → up (up I bf (vI a)) nw (vI a') v = I v := fun v h1 h2 => by rw [up_ne h1, up_ne h2]
  have eb : up (up I bf (vI a)) nw (vI a') bf = vI a := by rw [up_ne (fun hc => q3 hc.symm), up_at]
  have hD : CD (up (up I bf (vI a)) nw (vI a')) bf h u p := ⟨by rw [e 20 (by omega) (by omega)]; exact d1, d2, fun i hi => by rw [e _ (q4 i (by omega)).2.1 (q4 i (by omega)).2.2]; exact d3 i hi, ⟨a, eb, ha⟩, fun i hi => by rw [e _ (q4 i hi).2.1 (q4 i hi).2.2]; exact d5 i hi⟩
  obtain ⟨bf', h', g1, g2, g3⟩ := f46 (r := r) hB c1 hD eb ha hr
  have e20 : ∀ v, v ≠ 20 → up (up (up I bf (vI a)) nw (vI a')) 20 (up ((up (up I bf (vI a)) nw (vI a')) 20) 0 (nI (pushU u))) v = up (up I bf (vI a)) nw (vI a') v := fun v hv => up_ne hv
  refine ⟨_, nw, bf', h', h1 _ _ g1, ⟨g2, ?_, g3, ?_⟩, ?_, ?_⟩
  · rw [e20 nw (by omega), up_at]
  · rw [e20 _ (by omega), e _ (by omega) (by omega)]; exact c8
  · rw [e20 _ (by omega), e _ (by omega) (by omega)]
  · rw [e20 _ (by omega), e _ (by omega) (by omega)]
/-- a change that is refused -/
theorem chg_e {K1 : Nat} {as1 : List Value} {r : Int32} (hC : CL I nw bf h a u p) (ha : Zz a) (h1 : FF K1 as1 (202, I, QR R nw bf h) = some (some (.int r), 202, up I bf (vI a), QR R nw bf h)) : ST R I nw bf h K1 as1 r a u p := by
  have hb := hC.1.2.1
  exact ⟨up I bf (vI a), nw, bf, h, h1, hC.before ha, up_ne (by omega), up_ne (by omega)⟩
/-- the copy to before -/
theorem bef (hB : BR R) (hC : CL I nw bf h a u p) (hW : WO a) : FF 12 [.ref (16 * bf), .ref (16 * nw)] (202, I, QR R nw bf h) = some (none, 202, up I bf (vI a), QR R nw bf h) := by
  obtain ⟨e, he, hz⟩ := hC.2.2.1.2.2.2.1
  have h1 := hC.1.1
  have h2 := hC.1.2.1
  exact f12 (by omega) (by omega) hC.1.2.2.1 (QR_RS hB.2.2.2.1) hC.2.1 hW he hz
end RE
