/-! ===== the model ends a shift ===== -/
theorem up_sw {a : Nat → Nat} {j k x y : Nat} (h : j ≠ k) : up (up a j x) k y = up (up a k y) j x := up_comm h
section PF
variable {a : Nat → Nat} {f t : Nat}
theorem wd_up {k x : Nat} (hT : a 1 ≤ 10) (h : 9 ≤ k ∧ k < 12) (hf : f < 6) (ht : t < 6) : wd (up a k x) f t = wd a f t := by
  unfold wd
  rw [up_ne (by omega)]
  refine fd_c (P := fun _ => True) (n := a 1) (fun i s hi _ => ⟨?_, trivial⟩) (a 1) 0 (none, 0) (by omega) trivial
  unfold wdF
  rw [up_ne (by omega), up_ne (by omega), up_ne (by omega)]
theorem fnd_up {k x : Nat} (h : 9 ≤ k ∧ k < 12) : ∀ d j, fnd (up a k x) f t d j = fnd a f t d j
  | 0, _ => rfl
  | d + 1, j => by
    unfold fnd
    rw [fnd_up h d (j + 1)]
    have e : needs (up a k x) f t j ↔ needs a f t j := by
      unfold needs
      rw [up_ne (by omega), up_ne (by omega), up_ne (by omega), up_ne (by omega), up_ne (by omega)]
    by_cases e2 : needs a f t j
    · rw [if_pos e2, if_pos (e.mpr e2), up_ne (by omega)]
    · rw [if_neg e2, if_neg (fun h => e2 (e.mp h))]
theorem picks_up {k x : Nat} (hT : a 1 ≤ 10) (h : 9 ≤ k ∧ k < 12) (hf : f < 6) (ht : t < 6) : picks (up a k x) f t = picks a f t := by
  unfold picks
  rw [fnd_up h, wd_up hT h hf ht, up_ne (by omega)]
theorem lift_up {k x y : Nat} (h : 9 ≤ k ∧ k < 12) : lift (up a k x) f t y = up (lift a f t y) k x := by
  unfold lift
  rw [up_ne (by omega), up_ne (by omega), up_ne (by omega), up_comm (by omega)]
theorem hand_up {k x : Nat} (h : 9 ≤ k ∧ k < 12) (hf : f < 6) (ht : t < 6) : ∀ n (a : Nat → Nat), WO a → hand f t n (up a k x) = up (hand f t n a) k x ∧ idle f t n (up a k x) = idle f t n a
  | 0, a, _ => ⟨rfl, rfl⟩
  | n + 1, a, hW => by
    have hp := picks_up (a := a) (x := x) hW.tp h hf ht
    cases e : picks a f t with
    | none =>
      rw [e] at hp
      rw [(hand_none e).1, (hand_none e).2, (hand_none hp).1, (hand_none hp).2]
      exact ⟨rfl, rfl⟩
    | some y =>
      rw [e] at hp
      have hk := lift_ok hW hf ht (picks_some hW hf ht e).1
      have ih := hand_up (x := x) h hf ht n (lift a f t y) hk.1
      rw [(hand_some e).1, (hand_some e).2, (hand_some hp).1, (hand_some hp).2, lift_up h]
      exact ih
/-- a minute, as the model does it -/
def mnF (f t : Nat) (s : Nat → Nat) : Nat → Nat := match picks s f t with
  | some x => lift (up (up s 9 (s 9 + 1)) 11 (s 11 + s 6)) f t x
  | none => up (up (up s 9 (s 9 + 1)) 11 (s 11 + s 6)) 10 (s 10 + 1)
theorem mnF_none {s : Nat → Nat} (e : picks s f t = none) : mnF f t s = up (up (up s 9 (s 9 + 1)) 11 (s 11 + s 6)) 10 (s 10 + 1) := by unfold mnF; rw [e]
theorem mnF_some {s : Nat → Nat} {x : Nat} (e : picks s f t = some x) : mnF f t s = lift (up (up s 9 (s 9 + 1)) 11 (s 11 + s 6)) f t x := by unfold mnF; rw [e]
theorem mnF_ok {s : Nat → Nat} (hf : f < 6) (ht : t < 6) (h : WO s) : WO (mnF f t s) := by
  cases e : picks s f t with
  | none => rw [mnF_none e]; exact ((h.up_ct (by omega)).up_ct (by omega)).up_ct (by omega)
  | some x =>
    rw [mnF_some e]
    exact (lift_ok ((h.up_ct (by omega)).up_ct (by omega)) hf ht (by rw [up_ne (by omega), up_ne (by omega)]; exact (picks_some h hf ht e).1)).1
theorem hip_mn {s : Nat → Nat} (hf : f < 6) (ht : t < 6) (hn : f ≠ t) (h : WO s) (d : Nat) : hipF d (idle f t d (mnF f t s)) (hand f t d (mnF f t s)) = hipF (d + 1) (idle f t (d + 1) s) (hand f t (d + 1) s) := by
  have e6 : ∀ (u : Nat → Nat), WO u → ∀ k, 6 ≤ k → k < 12 → hand f t d u k = u k := fun u hu k h1 h2 => (hand_ok hf ht hn d u hu).2 k (by omega)
  cases e : picks s f t with
  | none =>
    have hp : picks (mnF f t s) f t = none := by
      rw [mnF_none e, picks_up (by rw [up_ne (by omega), up_ne (by omega)]; exact h.tp) (by omega) hf ht, picks_up (by rw [up_ne (by omega)]; exact h.tp) (by omega) hf ht, picks_up h.tp (by omega) hf ht, e]
    rw [(hand_none hp).1, (hand_none hp).2, (hand_none e).1, (hand_none e).2, mnF_none e]
    unfold hipF
    funext k
    unfold up
    by_cases k9 : k = 9
    · subst k9; simp only [if_true, if_false, Nat.reduceEqDiff]; omega
    · by_cases k10 : k = 10
      · subst k10; simp only [if_true, if_false, Nat.reduceEqDiff]; omega
      · by_cases k11 : k = 11
        · subst k11; simp only [if_true, if_false, Nat.reduceEqDiff, Nat.add_mul, Nat.one_mul]; omega
        · simp only [if_false, k9, k10, k11]
  | some x =>
    have hx := (picks_some h hf ht e).1
    have hk := lift_ok h hf ht hx
    have hT := h.tp
    have w9 := hk.1.up_ct (k := 9) (x := s 9 + 1) (by omega)
    rw [(hand_some e).1, (hand_some e).2, mnF_some e, lift_up (by omega), lift_up (by omega), (hand_up (by omega) hf ht d _ w9).1, (hand_up (by omega) hf ht d _ w9).2, (hand_up (by omega) hf ht d _ hk.1).1, (hand_up (by omega) hf ht d _ hk.1).2]
    have g6 := e6 _ hk.1 6 (by omega) (by omega)
    have g9 := e6 _ hk.1 9 (by omega) (by omega)
    have g10 := e6 _ hk.1 10 (by omega) (by omega)
    have g11 := e6 _ hk.1 11 (by omega) (by omega)
    rw [hk.2 6 (by omega)] at g6
    rw [hk.2 9 (by omega)] at g9
    rw [hk.2 10 (by omega)] at g10
    rw [hk.2 11 (by omega)] at g11
    unfold hipF
    funext k
    unfold up
    by_cases k9 : k = 9
    · subst k9; simp only [if_true, if_false, Nat.reduceEqDiff, g6, g9, g10, g11]; omega
    · by_cases k10 : k = 10
      · subst k10; simp only [if_true, if_false, Nat.reduceEqDiff, g6, g9, g10, g11]
      · by_cases k11 : k = 11
        · subst k11; simp only [if_true, if_false, Nat.reduceEqDiff, g6, g9, g10, g11, Nat.add_mul, Nat.one_mul]; omega
        · simp only [if_false, k9, k10, k11]
end PF
section M2
variable {M : Mm} {I : Nat → Nat → Int32} {R : Nat → Nat → Option Nat} {v : Nat} {a : Nat → Nat}
theorem p116 {f t n : Nat} (hv : v = 225 ∨ v = 226) (hf : f < 6) (ht : t < 6) (hn : f ≠ t) (hn2 : n < 2 ^ 20) : ∀ d i (s : Nat → Nat) (l5 : Option Value), i + d = n → WO s → EE 116 15 [some (.ref v), some (.int (nI f)), some (.int (nI t)), some (.int (nI n)), some (.int (nI i)), l5] [] (210, up I v (vI s), R) = some (none, 210, up I v (vI (hipF d (idle f t d s) (hand f t d s))), R) := by
  intro d
  have hw : ∀ {J : Nat → Nat → Int32} {k : Nat} {z : Int32}, k < 148 → wI J v (nI k).toNatClampNeg z = up J v (up (J v) k z) := fun {J k z} h => wm_n hv (by omega)
  have hc : ∀ {k : Nat}, k < 148 → acI 5 210 v (nI k) := fun {k} h => cm_n hv h
  have c9 := hc (k := 9) (by omega)
  have c10 := hc (k := 10) (by omega)
  have c11 := hc (k := 11) (by omega)
  induction d with
  | zero =>
    intro i s l5 h hW
    have hin : n ≤ i := by omega
    have e0 : hipF 0 (idle f t 0 s) (hand f t 0 s) = s := by
      unfold hipF
      show up (up (up s 10 (s 10 + 0)) 9 (s 9 + 0)) 11 (s 11 + 0 * s 6) = s
      rw [Nat.zero_mul, Nat.add_zero, Nat.add_zero, Nat.add_zero, up_self, up_self, up_self]
    rw [e0, s116_15]
    simp (disch := first | omega | (show List.length _ ≤ 4; exact Nat.le_of_ble_eq_true rfl) | assumption | exact nbo_0 | exact nbo_1 | exact b2_b) only [s116_0, s116_1, s116_3, s116_4, s116_5, s116_6, s116_8, s116_9, s116_10, s116_11, s116_12, s116_13, s116_17, s116_18, s116_21, s116_22, s116_23, s116_24, s116_27, s116_29, s116_30, s116_32, s116_33, s116_34, s116_35, s116_36, s116_37, s116_38, s116_40, s116_41, s116_42, s116_43, s116_45, s116_46, s116_47, s116_48, s116_50, s116_53, s116_54, s116_56, s116_57, s116_58, s116_59, s116_60, s116_61, s116_64, s116_65, s116_66, s116_68, s116_71, s116_72, s116_73, s116_74, s116_75, s116_76, s116_78, s116_81, s116_82, s116_85, s116_88, s116_91, ↓reduceIte, psh_some, psh_none, cln_i, cln_r, cln_n, cln_l, cln_d, cln_f, Option.bind_some, Option.bind_none, if_true, if_false, nI_add, pk_mul, nbo_0, nbo_1, nI_leI, nI_ltI, nI_eq, Nat.reduceAdd, Nat.reduceMul, Nat.add_zero, Nat.mul_zero, hin]
  | succ d ih =>
    intro i s l5 h hW
    have hin : ¬ n ≤ i := by omega
    rw [← hip_mn hf ht hn hW d, s116_15]
    have hT := hW.tp
    have h17 := f117 (R := R) hv (up_at I v (vI s)) hW hf ht
    have n1 : ∀ x, up s 9 x 11 = s 11 := fun x => up_ne (by decide)
    have n2 : ∀ x, up s 9 x 6 = s 6 := fun x => up_ne (by decide)
    have n3 : ∀ x y, up (up s 9 x) 11 y 10 = s 10 := fun x y => by rw [up_ne (by decide), up_ne (by decide)]
    have n4 : ∀ x y, up (up s 9 x) 11 y 3 = s 3 := fun x y => by rw [up_ne (by decide), up_ne (by decide)]
    cases e : picks s f t with
    | none =>
      rw [e] at h17
      have h0 : oN (-1) none = -1 := rfl
      have h1 : ¬ (0 : Int32) ≤ -1 := by decide
      rw [h0] at h17
      have hi := ih (i + 1) (mnF f t s) (some (.int (-1))) (by omega) (mnF_ok hf ht hW)
      rw [← hi, mnF_none e]
      simp (disch := first | omega | (show List.length _ ≤ 4; exact Nat.le_of_ble_eq_true rfl) | assumption | exact nbo_0 | exact nbo_1 | exact b2_b) only [s116_0, s116_1, s116_3, s116_4, s116_5, s116_6, s116_8, s116_9, s116_10, s116_11, s116_12, s116_13, s116_17, s116_18, s116_21, s116_22, s116_23, s116_24, s116_27, s116_29, s116_30, s116_32, s116_33, s116_34, s116_35, s116_36, s116_37, s116_38, s116_40, s116_41, s116_42, s116_43, s116_45, s116_46, s116_47, s116_48, s116_50, s116_53, s116_54, s116_56, s116_57, s116_58, s116_59, s116_60, s116_61, s116_64, s116_65, s116_66, s116_68, s116_71, s116_72, s116_73, s116_74, s116_75, s116_76, s116_78, s116_81, s116_82, s116_85, s116_88, s116_91, ↓reduceIte, psh_some, psh_none, cln_i, cln_r, cln_n, cln_l, cln_d, cln_f, Option.bind_some, Option.bind_none, if_true, if_false, nI_add, pk_mul, nbo_0, nbo_1, nI_leI, nI_ltI, nI_eq, Nat.reduceAdd, Nat.reduceMul, Nat.add_zero, Nat.mul_zero, up_at, up_up, up_vI, vI_at, hin, h17, h1, am_n hv, hw, n1, n2, n3]
    | some x =>
      rw [e] at h17
      have h0 : oN (-1) (some x) = nI x := rfl
      have hx := (picks_some hW hf ht e).1
      have h1 : (0 : Int32) ≤ nI x := nI_pos' (by omega)
      rw [h0] at h17
      have l1 := hW.lv f x hf (by omega)
      have l2 := hW.lv t x ht (by omega)
      have hs := hW.ps
      have hi := ih (i + 1) (mnF f t s) (some (.int (nI x))) (by omega) (mnF_ok hf ht hW)
      have n5 : ∀ x' y, up (up s 9 x') 11 y (58 + 10 * f + x) = s (58 + 10 * f + x) := fun x y => by rw [up_ne (by omega), up_ne (by omega)]
      have n6 : ∀ x' y, up (up s 9 x') 11 y (58 + 10 * t + x) = s (58 + 10 * t + x) := fun x y => by rw [up_ne (by omega), up_ne (by omega)]
      rw [← hi, mnF_some e]
      have h8 := fun x' y => f108 (I := up I v (vI (up (up s 9 x') 11 y))) (R := R) (k := 58 + 10 * t + x) (x := s 3) (y := s (58 + 10 * f + x)) hv (up_at I v _) (by omega) (by rw [n6]; omega) (by omega)
      unfold lift
      simp (disch := first | omega | (show List.length _ ≤ 4; exact Nat.le_of_ble_eq_true rfl) | assumption | exact nbo_0 | exact nbo_1 | exact b2_b) only [s116_0, s116_1, s116_3, s116_4, s116_5, s116_6, s116_8, s116_9, s116_10, s116_11, s116_12, s116_13, s116_17, s116_18, s116_21, s116_22, s116_23, s116_24, s116_27, s116_29, s116_30, s116_32, s116_33, s116_34, s116_35, s116_36, s116_37, s116_38, s116_40, s116_41, s116_42, s116_43, s116_45, s116_46, s116_47, s116_48, s116_50, s116_53, s116_54, s116_56, s116_57, s116_58, s116_59, s116_60, s116_61, s116_64, s116_65, s116_66, s116_68, s116_71, s116_72, s116_73, s116_74, s116_75, s116_76, s116_78, s116_81, s116_82, s116_85, s116_88, s116_91, ↓reduceIte, psh_some, psh_none, cln_i, cln_r, cln_n, cln_l, cln_d, cln_f, Option.bind_some, Option.bind_none, if_true, if_false, nI_add, pk_mul, nbo_0, nbo_1, nI_leI, nI_ltI, nI_eq, Nat.reduceAdd, Nat.reduceMul, Nat.add_zero, Nat.mul_zero, up_at, up_up, up_vI, vI_at, hin, h17, h1, am_n hv, hw, n1, n2, n3, n4, n5, n6, f107, h8]
theorem f116 {f t : Nat} (hv : v = 225 ∨ v = 226) (hI : I v = vI a) (hW : WO a) (h0 : a 0 < 2 ^ 30) (hf : f < 6) (ht : t < 6) (hn : f ≠ t) : FF 116 [.ref v, .int (nI f), .int (nI t)] (210, I, R) = some (none, 210, up I v (vI (hipF (a (26 + a 0 % 12)) (idle f t (a (26 + a 0 % 12)) a) (hand f t (a (26 + a 0 % 12)) a))), R) := by
  have hm := Nat.mod_lt (a 0) (show 12 > 0 by decide)
  have h60 := hW.mi _ hm
  have h := p116 (I := I) (R := R) (n := a (26 + a 0 % 12)) hv hf ht hn (by omega) (a (26 + a 0 % 12)) 0 a none (by omega) hW
  rw [up_eq hI] at h
  refine Eq.trans ?_ h
  simp (disch := first | omega | (show List.length _ ≤ 4; exact Nat.le_of_ble_eq_true rfl) | assumption | exact nbo_0 | exact nbo_1 | exact b2_b) only [FE116, s116_0, s116_1, s116_3, s116_4, s116_5, s116_6, s116_8, s116_9, s116_10, s116_11, s116_12, s116_13, s116_17, s116_18, s116_21, s116_22, s116_23, s116_24, s116_27, s116_29, s116_30, s116_32, s116_33, s116_34, s116_35, s116_36, s116_37, s116_38, s116_40, s116_41, s116_42, s116_43, s116_45, s116_46, s116_47, s116_48, s116_50, s116_53, s116_54, s116_56, s116_57, s116_58, s116_59, s116_60, s116_61, s116_64, s116_65, s116_66, s116_68, s116_71, s116_72, s116_73, s116_74, s116_75, s116_76, s116_78, s116_81, s116_82, s116_85, s116_88, s116_91, ↓reduceIte, psh_some, psh_none, cln_i, cln_r, cln_n, cln_l, cln_d, cln_f, Option.bind_some, Option.bind_none, if_true, if_false, nI_add, pk_mul, nbo_0, nbo_1, nI_leI, nI_ltI, nI_eq, Nat.reduceAdd, Nat.reduceMul, Nat.add_zero, Nat.mul_zero, am_n hv, hI, vI_at]
end M2
