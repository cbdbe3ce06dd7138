/-! ===== an end doesn't read the roster's minutes ===== -/
def EQ (s s' : Nat → Nat) : Prop := ∀ k, ¬ (26 ≤ k ∧ k < 38) → s k = s' k
theorem EQ.up {s s' : Nat → Nat} (h : EQ s s') {k k' v v' : Nat} (hk : k = k') (hv : v = v') : EQ (up s k v) (up s' k' v') := by
  subst hk hv
  intro j hj
  by_cases e : j = k
  · subst e; rw [up_at, up_at]
  · rw [up_ne e, up_ne e]; exact h j hj
theorem fd_q {σ τ : Type} {Q : σ → τ → Prop} {f : Nat → σ → σ} {g : Nat → τ → τ} (h : ∀ i s t, Q s t → Q (f i s) (g i t)) : ∀ d i s t, Q s t → Q (fd f d i s) (fd g d i t)
  | 0, _, _, _, hq => hq
  | d + 1, i, s, t, hq => fd_q h d (i + 1) (f i s) (g i t) (h i s t hq)
theorem fd_f {σ : Type} {f g : Nat → σ → σ} (h : ∀ i s, f i s = g i s) (d i : Nat) (s : σ) : fd f d i s = fd g d i s := fd_q (Q := fun s t => s = t) (fun i s t e => by rw [e]; exact h i t) d i s s rfl
section EQs
variable {s s' a a' : Nat → Nat} {f t w i : Nat}
theorem wkF_q (h : EQ s s') : EQ (wkF w i s) (wkF w i s') := by
  unfold wkF
  rw [h (38 + i) (by omega), h (58 + 10 * w + i) (by omega), h 5 (by omega)]
  by_cases e : s' (38 + i) = 1
  · rw [if_pos e, if_pos e]; exact h.up rfl rfl
  · rw [if_neg e, if_neg e]; exact h
theorem dcF_q (h : EQ s s') : EQ (dcF w i s) (dcF w i s') := by
  unfold dcF
  rw [h (58 + 10 * w + i) (by omega), h 4 (by omega)]
  exact h.up rfl rfl
theorem bgF_q (h : EQ s s') : EQ (bgF w i s) (bgF w i s') := by
  unfold bgF
  rw [h (38 + i) (by omega), h (58 + 10 * w + i) (by omega), h 2 (by omega), h (128 + i) (by omega), h (138 + i) (by omega)]
  by_cases e : s' (38 + i) = 1
  · rw [if_pos e, if_pos e]
    by_cases e2 : s' 2 ≤ s' (58 + 10 * w + i)
    · rw [if_pos e2, if_pos e2]; exact (h.up rfl rfl).up rfl rfl
    · rw [if_neg e2, if_neg e2]; exact h.up rfl rfl
  · rw [if_neg e, if_neg e]; exact h
theorem msF_q {p p' : (Nat → Nat) × Nat} (h : EQ p.1 p'.1 ∧ p.2 = p'.2) : EQ (msF w i p).1 (msF w i p').1 ∧ (msF w i p).2 = (msF w i p').2 := by
  obtain ⟨h1, h2⟩ := h
  unfold msF
  rw [h1 (48 + i) (by omega), h1 (38 + p'.1 (48 + i)) (by omega), h1 (58 + 10 * w + p'.1 (48 + i)) (by omega), h1 2 (by omega), h1 (118 + p'.1 (48 + i)) (by omega), h2]
  by_cases e : p'.1 (38 + p'.1 (48 + i)) = 1 ∧ p'.1 (58 + 10 * w + p'.1 (48 + i)) < p'.1 2
  · rw [if_pos e, if_pos e]; exact ⟨h1.up rfl rfl, rfl⟩
  · rw [if_neg e, if_neg e]; exact ⟨h1, h2⟩
theorem wd_q (h : EQ a a') : wd a f t = wd a' f t := by
  unfold wd
  rw [h 1 (by omega)]
  refine fd_f (fun i s => ?_) _ _ _
  unfold wdF
  rw [h (38 + i) (by omega), h (58 + 10 * t + i) (by omega), h (58 + 10 * f + i) (by omega)]
theorem fnd_q (h : EQ a a') : ∀ d k, fnd a f t d k = fnd a' f t d k
  | 0, _ => rfl
  | d + 1, k => by
    unfold fnd
    rw [fnd_q h d (k + 1)]
    unfold needs
    rw [h (48 + k) (by omega), h (38 + a' (48 + k)) (by omega), h (58 + 10 * t + a' (48 + k)) (by omega), h (58 + 10 * f + a' (48 + k)) (by omega), h 2 (by omega)]
theorem picks_q (h : EQ a a') : picks a f t = picks a' f t := by
  unfold picks
  rw [h 13 (by omega), fnd_q h, wd_q h]
theorem lift_q {x : Nat} (h : EQ a a') : EQ (lift a f t x) (lift a' f t x) := by
  unfold lift
  exact h.up rfl (by rw [h (58 + 10 * f + x) (by omega), h (58 + 10 * t + x) (by omega), h 3 (by omega)])
theorem hand_q : ∀ n (a a' : Nat → Nat), EQ a a' → EQ (hand f t n a) (hand f t n a') ∧ idle f t n a = idle f t n a'
  | 0, a, a', h => ⟨h, rfl⟩
  | n + 1, a, a', h => by
    have e := picks_q (f := f) (t := t) h
    cases hp : picks a' f t with
    | none =>
      have hp2 := e.trans hp
      rw [(hand_none (n := n + 1) hp).1, (hand_none (n := n + 1) hp).2, (hand_none (n := n + 1) hp2).1, (hand_none (n := n + 1) hp2).2]
      exact ⟨h, rfl⟩
    | some x =>
      have hp2 := e.trans hp
      rw [(hand_some hp).1, (hand_some hp).2, (hand_some hp2).1, (hand_some hp2).2]
      exact hand_q n _ _ (lift_q h)
theorem hands_q {n : Nat} (h : EQ a a') : EQ (hands f t n a) (hands f t n a') := by
  unfold hands
  by_cases e : f = t
  · rw [if_pos e, if_pos e]; exact h
  · rw [if_neg e, if_neg e]
    have hk := hand_q (f := f) (t := t) n a a' h
    unfold hipF
    exact ((hk.1.up rfl (by rw [hk.1 10 (by omega), hk.2])).up rfl (by rw [hk.1 9 (by omega)])).up rfl (by rw [hk.1 11 (by omega), hk.1 6 (by omega)])
theorem endP_q {n : Nat} (h : EQ a a') : EQ (endP n a).1 (endP n a').1 ∧ (endP n a).2 = (endP n a').2 := by
  have e0 := h 0 (by omega)
  have ef : frm a = frm a' := by unfold frm; rw [e0]; exact h _ (by omega)
  have et : too a = too a' := by unfold too; rw [e0]; exact h _ (by omega)
  have h1 : EQ (wkA a) (wkA a') := by
    unfold wkA
    rw [ef, h 1 (by omega)]
    exact fd_q (Q := EQ) (f := wkF (frm a')) (g := wkF (frm a')) (fun i s t h => wkF_q h) _ _ _ _ h
  have h2 := hands_q (f := frm a') (t := too a') (n := n) h1
  have h3 : EQ (shN (hands (frm a') (too a') n (wkA a))) (shN (hands (frm a') (too a') n (wkA a'))) := by
    unfold shN
    exact h2.up rfl (by rw [h2 0 (by omega)])
  have h4 : EQ (dcA (too a') (shN (hands (frm a') (too a') n (wkA a)))) (dcA (too a') (shN (hands (frm a') (too a') n (wkA a')))) := by
    unfold dcA
    refine fd_q (Q := EQ) (fun w s t h => ?_) _ _ _ _ h3
    by_cases e : w = too a'
    · rw [if_pos e, if_pos e]; exact h
    · rw [if_neg e, if_neg e]; exact fd_q (Q := EQ) (f := dcF w) (g := dcF w) (fun i s t h => dcF_q h) _ _ _ _ h
  have h5 := fd_q (Q := EQ) (f := bgF (too a')) (g := bgF (too a')) (fun i s t h => bgF_q h) (a' 1) 0 _ _ h4
  unfold endP msE
  rw [ef, et, h 1 (by omega), h5 13 (by omega)]
  exact fd_q (Q := fun (p p' : (Nat → Nat) × Nat) => EQ p.1 p'.1 ∧ p.2 = p'.2) (f := msF (too a')) (g := msF (too a')) (fun i s t h => msF_q h) _ _ _ _ ⟨h5, rfl⟩
theorem tot_q {n : Nat} (h : EQ a a') : EQ (tot (endP n a)) (tot (endP n a')) := by
  have h1 := endP_q (n := n) h
  unfold tot
  exact h1.1.up rfl (by rw [h1.1 8 (by omega), h1.2])
/-- what an end leaves alone -/
theorem endP_keep {n : Nat} (hW : WO a) : tot (endP n a) 0 = a 0 + 1 ∧ ∀ k, 13 ≤ k → k < 58 → tot (endP n a) k = a k := by
  have hf : frm a < 6 := hW.ro _ (Nat.mod_lt _ (by decide))
  have ht : too a < 6 := hW.ro _ (Nat.mod_lt _ (by decide))
  have hT := hW.tp
  have k1 := wkA_ok hW
  have k2 := hands_ok (n := n) hf ht k1.1
  have k3 : WO (shN (hands (frm a) (too a) n (wkA a))) := k2.1.up_ct (by omega)
  have k3' : ∀ k, 1 ≤ k → shN (hands (frm a) (too a) n (wkA a)) k = hands (frm a) (too a) n (wkA a) k := fun k hk => up_ne (by omega)
  have k4 := dcA_ok (t := too a) k3
  have k5 := bgA_ok (t := too a) (n := a 1) k4.1 hT
  have k6 := msE_ok (t := too a) k5.1
  refine ⟨?_, fun k h1 h2 => ?_⟩
  · show up _ 8 _ 0 = _
    rw [up_ne (by decide)]
    show (msE _ _).1 0 = _
    rw [k6.2 0 (by omega), k5.2 0 (by omega), k4.2 0 (by omega)]
    show up _ 0 _ 0 = _
    rw [up_at, k2.2 0 (by omega) (by omega), k1.2 0 (by omega)]
  · show up _ 8 _ k = _
    rw [up_ne (by omega)]
    show (msE _ _).1 k = _
    rw [k6.2 k (by omega), k5.2 k (by omega), k4.2 k (by omega), k3' k (by omega), k2.2 k (by omega) (by omega), k1.2 k (by omega)]
theorem up_EQ {k v : Nat} (hk : 26 ≤ k ∧ k < 38) : EQ (up a k v) a := by
  intro j hj
  rw [up_ne (by omega)]
theorem EQ.trans (h : EQ a a') {b : Nat → Nat} (h2 : EQ a' b) : EQ a b := fun k hk => (h k hk).trans (h2 k hk)
theorem WO.mi1 (h : WO a) {p x : Nat} (hp : p < 12) (hx : x ≤ 60) : WO (up a (26 + p) x) :=
  h.up1 (by omega) (by omega) (by omega) (by omega) (by omega) (by omega) (by omega) (by omega) (by omega) (by omega)
end EQs
