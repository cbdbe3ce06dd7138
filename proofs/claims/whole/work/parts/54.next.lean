/-! ===== the class reads an order ===== -/
/-- the parts of an order, one after the other: whether all stand there, where it stops, the values -/
def rp (n : Nat) (q : Nat → Nat) : List Nat → Nat → Bool × Nat × List Nat
  | [], p => (true, p, [])
  | k :: ks, p => match pK n q k p with
    | none => (false, p, [])
    | some y => ((rp n q ks y.2).1, (rp n q ks y.2).2.1, y.1 :: (rp n q ks y.2).2.2)
def isL (c : Nat) : Bool := (lix c 8 0).isSome
/-- an order that begins at s -/
def og (n : Nat) (q : Nat → Nat) (s : Nat) : Bool × Nat × List Nat := if s < n ∧ isL (q s) = true then rp n q (spL (shp (q s))) (s + 1) else (false, s, [])
theorem rp_none {n : Nat} {q : Nat → Nat} {k p : Nat} {ks : List Nat} (h : pK n q k p = none) : rp n q (k :: ks) p = (false, p, []) := by
  unfold rp; rw [h]
theorem rp_some {n : Nat} {q : Nat → Nat} {k p : Nat} {ks : List Nat} {y : Nat × Nat} (h : pK n q k p = some y) : rp n q (k :: ks) p = ((rp n q ks y.2).1, (rp n q ks y.2).2.1, y.1 :: (rp n q ks y.2).2.2) := by
  rw [rp, h]
theorem rp_le {n : Nat} {q : Nat → Nat} : ∀ ks p, p ≤ n → p ≤ (rp n q ks p).2.1 ∧ (rp n q ks p).2.1 ≤ n
  | [], p, hp => ⟨Nat.le_refl _, hp⟩
  | k :: ks, p, hp => by
    cases e : pK n q k p with
    | none => rw [rp_none e]; exact ⟨Nat.le_refl _, hp⟩
    | some y =>
      have h := pK_some hp e
      have g := rp_le (n := n) (q := q) ks y.2 h.2.1
      rw [rp_some e]
      exact ⟨by show p ≤ (rp n q ks y.2).2.1; omega, g.2⟩
theorem og_le {n : Nat} {q : Nat → Nat} {s : Nat} (hs : s ≤ n) : s ≤ (og n q s).2.1 ∧ (og n q s).2.1 ≤ n ∧ ((og n q s).1 = true → s < (og n q s).2.1) := by
  unfold og
  by_cases e : s < n ∧ isL (q s) = true
  · rw [if_pos e]
    have g := rp_le (n := n) (q := q) (spL (shp (q s))) (s + 1) e.1
    exact ⟨by omega, g.2, fun _ => by omega⟩
  · rw [if_neg e]
    exact ⟨Nat.le_refl _, hs, fun h => by cases h⟩
def bN (b : Bool) : Nat := if b = true then 1 else 0
theorem PS.same {V V' : Nat → Int32} {n : Nat} {q : Nat → Nat} (hP : PS V n q) (hh : ∀ k, ¬ (4 ≤ k ∧ k < 9) → V' k = V k) : PS V' n q :=
  ⟨by rw [hh 3 (by omega)]; exact hP.1, fun j hj => by rw [hh _ (by omega)]; exact hP.2.1 j hj, hP.2.2⟩
section NX
variable {I : Nat → Nat → Int32} {R : Nat → Nat → Option Nat} {nw bf n : Nat} {h q : Nat → Nat}
theorem pp_3 {x : Int32} (hx : ∃ c, c < 128 ∧ x = nI c) : pfI 210 I R 0 3 212 (.int x) = some (up I 20 (up (I 20) 4 x), R) := by
  obtain ⟨c, hc, rfl⟩ := hx
  have k : ∀ c, c < 128 → narrow .char (.int (nI c)) = .int (nI c) ∧ fits .char (.int (nI c)) = true := by decide +kernel
  unfold pfI
  rw [if_pos ⟨by decide, by decide, by decide, by decide, by decide⟩]
  show (if narrow .char (.int (nI c)) = .int (nI c) ∧ fits .char (.int (nI c)) = true then _ else _) = _
  rw [if_pos (k c hc)]
  rfl
theorem p5 {s L : Nat} (hB : BR R) (hs1 : 1 ≤ s) (hs : s < 6) (hL : stN.getD s 0 = L) (hL5 : L ≤ 5) (hn : n ≤ 80) : ∀ (ks : List Nat) i p (V : Nat → Int32) (l3 : Option Value), PS V n q → p ≤ n → V 5 = nI p → i + ks.length = L → (∀ j, j < ks.length → (spL s).getD (i + j) 0 = ks.getD j 0) → ∃ V', EE 5 81 [some (.ref 212), some (.ref (1010 + s)), some (.int (nI i)), l3] [] (210, up I 20 V, QR R nw bf h) = some (some (.int (nI (bN (rp n q ks p).1))), 210, up I 20 V', QR R nw bf h) ∧ V' 5 = nI (rp n q ks p).2.1 ∧ (∀ k, ¬ (5 ≤ k ∧ k < 9) → V' k = V k) ∧ (∀ j, j < i → j % 2 = 0 → V' (6 + j / 2) = V (6 + j / 2)) ∧ ((rp n q ks p).1 = true → ∀ j, j < ks.length → (i + j) % 2 = 0 → V' (6 + (i + j) / 2) = nI ((rp n q ks p).2.2.getD j 0)) := by
  have ho := opd
  have ho2 := oS hs
  have g58 := fun (J : Nat → Nat → Int32) => f158 (I := J) (R := QR R nw bf h) hs (by omega)
  rw [hL] at g58
  have hlen := spL_len s hs hs1
  rw [hL] at hlen
  intro ks
  induction ks with
  | nil =>
    intro i p V l3 hP hp hV hi hk
    have e : i = L := by simpa using hi
    refine ⟨V, ?_, hV, fun k _ => rfl, fun j _ _ => rfl, fun _ j hj => absurd hj (by simp)⟩
    subst e
    have e2 : i ≤ i := Nat.le_refl i
    generalize 1010 + s = a at *
    rw [s5_81]
    simp (disch := first | omega | (show List.length _ ≤ 4; exact Nat.le_of_ble_eq_true rfl) | assumption | exact nbo_0 | exact nbo_1 | exact b2_b) only [s5_82, s5_83, s5_86, s5_126, s5_127, ↓reduceIte, psh_some, psh_none, cln_i, cln_r, cln_n, cln_l, cln_d, cln_f, Option.bind_some, Option.bind_none, if_true, if_false, nI_add, pk_mul, nbo_0, nbo_1, nI_leI, nI_ltI, nI_eq, Nat.reduceAdd, Nat.reduceMul, Nat.add_zero, Nat.mul_zero, g58, e2]
    rfl
  | cons k ks ih =>
    intro i p V l3 hP hp hV hi hk
    have hi2 : i + (ks.length + 1) = L := by simpa using hi
    have e : ¬ L ≤ i := by omega
    have hk0 := hk 0 (by simp)
    rw [Nat.add_zero, List.getD_cons_zero] at hk0
    have hat := spL_at s hs hs1 i (by omega)
    rw [hk0] at hat
    have g60 := fun (J : Nat → Nat → Int32) => f160 (I := J) (R := QR R nw bf h) hs (by omega) (by omega) hat.1 hat.2
    have g8 := f8 (I := I) (nw := nw) (bf := bf) (h := h) hB hP hp hV hat.2
    have hz1 : i % 2 < 2 := Nat.mod_lt _ (by decide)
    cases ek : pK n q k p with
    | none =>
      rw [ek] at g8
      have g8 : FF 8 [.ref 212, .int (nI k)] (210, up I 20 V, QR R nw bf h) = some (some (.int (-6)), 210, up I 20 V, QR R nw bf h) := g8
      have n6 := n6ge
      rw [rp_none ek]
      refine ⟨V, ?_, hV, fun k _ => rfl, fun j _ _ => rfl, fun hc => by cases hc⟩
      generalize 1010 + s = a at *
      rw [s5_81]
      simp (disch := first | omega | (show List.length _ ≤ 4; exact Nat.le_of_ble_eq_true rfl) | assumption | exact nbo_0 | exact nbo_1 | exact b2_b) only [s5_82, s5_83, s5_86, s5_89, s5_90, s5_91, s5_92, s5_95, s5_98, s5_99, s5_100, s5_103, s5_104, ↓reduceIte, psh_some, psh_none, cln_i, cln_r, cln_n, cln_l, cln_d, cln_f, Option.bind_some, Option.bind_none, if_true, if_false, nI_add, pk_mul, nbo_0, nbo_1, nI_leI, nI_ltI, nI_eq, Nat.reduceAdd, Nat.reduceMul, Nat.add_zero, Nat.mul_zero, g58, g60, g8, e, n6]
      rfl
    | some y =>
      rw [ek] at g8
      have g8 : FF 8 [.ref 212, .int (nI k)] (210, up I 20 V, QR R nw bf h) = some (some (.int (nI y.1)), 210, up I 20 (up V 5 (nI y.2)), QR R nw bf h) := g8
      have hy := pK_some hp ek
      have n0 := nI_ge0 (k := y.1) (by omega)
      rw [rp_some ek]
      have hk2 : ∀ j, j < ks.length → (spL s).getD (i + 1 + j) 0 = ks.getD j 0 := fun j hj => by
        have := hk (j + 1) (by simpa using hj)
        rw [show i + 1 + j = i + (j + 1) by omega, this, List.getD_cons_succ]
      by_cases e2 : i % 2 = 0
      · have z : nI (i % 2) = (0 : Int32) := by rw [e2]; rfl
        obtain ⟨V', k1, k2, k3, k4, k5⟩ := ih (i + 1) y.2 (up (up V 5 (nI y.2)) (6 + i / 2) (nI y.1)) (some (.int (nI y.1))) ((hP.up (by omega)).up (by omega)) hy.2.1 (by rw [up_ne (by omega)]; exact up_at _ _ _) (by omega) hk2
        refine ⟨V', ?_, k2, fun k hk => by rw [k3 k hk, up_ne (by omega), up_ne (by omega)], fun j hj hj2 => by rw [k4 j (by omega) hj2, up_ne (by omega), up_ne (by omega)], fun hok j hj hj2 => ?_⟩
        · refine Eq.trans ?_ k1
          have cs := cp_v (k := i / 2) (by omega)
          have i31 : i < 2 ^ 31 := by omega
          clear k1 k2 k3 k4 k5 ih hk hk2
          generalize 1010 + s = a at *
          rw [s5_81]
          simp (disch := first | omega | (show List.length _ ≤ 4; exact Nat.le_of_ble_eq_true rfl) | assumption | exact nbo_0 | exact nbo_1 | exact b2_b) only [s5_82, s5_83, s5_86, s5_89, s5_90, s5_91, s5_92, s5_95, s5_98, s5_99, s5_100, s5_105, s5_106, s5_107, s5_108, s5_111, s5_112, s5_115, s5_116, s5_117, s5_118, s5_119, s5_120, s5_123, ↓reduceIte, psh_some, psh_none, cln_i, cln_r, cln_n, cln_l, cln_d, cln_f, Option.bind_some, Option.bind_none, if_true, if_false, nI_add, pk_mul, nbo_0, nbo_1, nI_leI, nI_ltI, nI_eq, Nat.reduceAdd, Nat.reduceMul, Nat.add_zero, Nat.mul_zero, up_at, up_up, up_vI, vI_at, g58, g60, g8, e, n0, z, gp_1 hB, wp_v]
        · cases j with
          | zero =>
            rw [Nat.add_zero, k4 i (by omega) e2, up_at]
            rfl
          | succ j =>
            have := k5 hok j (by simpa using hj) (by omega)
            rw [show i + (j + 1) = i + 1 + j by omega, this]
            rfl
      · have z : ¬ nI (i % 2) = (0 : Int32) := by rw [show i % 2 = 1 by omega]; decide
        obtain ⟨V', k1, k2, k3, k4, k5⟩ := ih (i + 1) y.2 (up V 5 (nI y.2)) (some (.int (nI y.1))) (hP.up (by omega)) hy.2.1 (up_at _ _ _) (by omega) hk2
        refine ⟨V', ?_, k2, fun k hk => by rw [k3 k hk, up_ne (by omega)], fun j hj hj2 => by rw [k4 j (by omega) hj2, up_ne (by omega)], fun hok j hj hj2 => ?_⟩
        · refine Eq.trans ?_ k1
          have i31 : i < 2 ^ 31 := by omega
          clear k1 k2 k3 k4 k5 ih hk hk2
          generalize 1010 + s = a at *
          rw [s5_81]
          simp (disch := first | omega | (show List.length _ ≤ 4; exact Nat.le_of_ble_eq_true rfl) | assumption | exact nbo_0 | exact nbo_1 | exact b2_b) only [s5_82, s5_83, s5_86, s5_89, s5_90, s5_91, s5_92, s5_95, s5_98, s5_99, s5_100, s5_105, s5_106, s5_107, s5_108, s5_120, s5_123, ↓reduceIte, psh_some, psh_none, cln_i, cln_r, cln_n, cln_l, cln_d, cln_f, Option.bind_some, Option.bind_none, if_true, if_false, nI_add, pk_mul, nbo_0, nbo_1, nI_leI, nI_ltI, nI_eq, Nat.reduceAdd, Nat.reduceMul, Nat.add_zero, Nat.mul_zero, up_at, up_up, up_vI, vI_at, g58, g60, g8, e, n0, z]
        · cases j with
          | zero => exact absurd hj2 (by rw [Nat.add_zero]; exact e2)
          | succ j =>
            have := k5 hok j (by simpa using hj) (by omega)
            rw [show i + (j + 1) = i + 1 + j by omega, this]
            rfl
theorem shp_len5 : ∀ s, s < 6 → stN.getD s 0 ≤ 5 ∨ s = 0 := by decide
/-- what reading an order leaves -/
def NXT (n : Nat) (q : Nat → Nat) (s : Nat) (V V' : Nat → Int32) : Prop := V' 5 = nI (og n q s).2.1 ∧ (∀ k, ¬ (4 ≤ k ∧ k < 9) → V' k = V k) ∧ ((og n q s).1 = true → V' 4 = nI (q s) ∧ ∀ j, j < (spL (shp (q s))).length → j % 2 = 0 → V' (6 + j / 2) = nI ((og n q s).2.2.getD j 0))
theorem p5s {s : Nat} {V : Nat → Int32} {l1 l2 l3 : Option Value} (hB : BR R) (hP : PS V n q) (hs : s ≤ n) (hV : V 5 = nI s) : ∃ V', EE 5 18 [some (.ref 212), l1, l2, l3] [] (210, up I 20 V, QR R nw bf h) = some (some (.int (nI (bN (og n q s).1))), 210, up I 20 V', QR R nw bf h) ∧ NXT n q s V V' := by
  have ho := opd
  have h3 := hP.1
  have hn := hP.2.2.1
  unfold NXT
  by_cases e1 : s < n
  · have e1' : ¬ n ≤ s := by omega
    have hs1 := hP.2.1 s e1
    have hq := hP.2.2.2 s e1
    have g155 := fun (J : Nat → Nat → Int32) => f155 (I := J) (R := QR R nw bf h) (c := q s) (by omega)
    have ho1 : isO "java/lang/String" 210 1010 = true := oS (s := 0) (by decide)
    cases e2 : lix (q s) 8 0 with
    | none =>
      have eL : isL (q s) = false := by unfold isL; rw [e2]; rfl
      have eo : og n q s = (false, s, []) := by
        unfold og
        rw [if_neg (fun hc => by rw [eL] at hc; exact absurd hc.2 (by decide))]
      simp only [e2] at g155
      have g155 : ∀ J : Nat → Nat → Int32, FF 155 [.ref 1010, .int (nI (q s))] (210, J, QR R nw bf h) = some (some (.int (-1)), 210, J, QR R nw bf h) := g155
      have n1 : ¬ (0 ≤ (-1 : Int32)) := by decide
      rw [eo]
      refine ⟨V, ?_, hV, fun k _ => rfl, fun hc => by cases hc⟩
      rw [s5_18]
      simp (disch := first | omega | (show List.length _ ≤ 4; exact Nat.le_of_ble_eq_true rfl) | assumption | exact nbo_0 | exact nbo_1 | exact b2_b) only [s5_19, s5_22, s5_23, s5_26, s5_29, s5_31, s5_32, s5_35, s5_36, s5_39, s5_40, s5_43, s5_46, s5_47, ↓reduceIte, psh_some, psh_none, cln_i, cln_r, cln_n, cln_l, cln_d, cln_f, Option.bind_some, Option.bind_none, if_true, if_false, nI_add, pk_mul, nbo_0, nbo_1, nI_leI, nI_ltI, nI_eq, Nat.reduceAdd, Nat.reduceMul, Nat.add_zero, Nat.mul_zero, up_at, up_up, up_vI, vI_at, gp_0 hB, gp_2, gp_4, ap_s, h3, hV, hs1, e1', g155, n1]
      rfl
    | some z =>
      have eL : isL (q s) = true := by unfold isL; rw [e2]; rfl
      have eo : og n q s = rp n q (spL (shp (q s))) (s + 1) := by
        unfold og
        rw [if_pos ⟨e1, eL⟩]
      have z8 : z < 8 := by
        have key : ∀ d k, k + d = 8 → ∀ z, lix (q s) d k = some z → z < 8 := by
          intro d
          induction d with
          | zero => intro k _ z hz; cases hz
          | succ d ih =>
            intro k hk z hz
            unfold lix at hz
            by_cases ee : ltr k = q s
            · rw [if_pos ee] at hz; have := Option.some.inj hz; omega
            · rw [if_neg ee] at hz; exact ih (k + 1) (by omega) z hz
        exact key 8 0 (by decide) z e2
      simp only [e2] at g155
      have g155 : ∀ J : Nat → Nat → Int32, FF 155 [.ref 1010, .int (nI (q s))] (210, J, QR R nw bf h) = some (some (.int (nI z)), 210, J, QR R nw bf h) := g155
      have n1 := nI_ge0 (k := z) (by omega)
      have hsp := shp_ok (c := q s)
      have g7 := fun M : Mm => f7 (M := M) (c := q s) (by omega)
      have hl5 := shp_len5 (shp (q s)) hsp.2
      have hlen := spL_len (shp (q s)) hsp.2 hsp.1
      have p3' : ∀ J : Nat → Nat → Int32, pfI 210 J (QR R nw bf h) 0 3 212 (.int (nI (q s))) = some (up J 20 (up (J 20) 4 (nI (q s))), QR R nw bf h) := fun J => pp_3 ⟨q s, by omega, rfl⟩
      obtain ⟨V', k1, k2, k3, k4, k5⟩ := p5 (I := I) (R := R) (nw := nw) (bf := bf) (h := h) (n := n) (q := q) (s := shp (q s)) hB hsp.1 hsp.2 rfl (by omega) hn (spL (shp (q s))) 0 (s + 1) (up (up V 4 (nI (q s))) 5 (nI (s + 1))) l3 ((hP.up (by omega)).up (by omega)) e1 (up_at _ _ _) (by rw [Nat.zero_add]; exact hlen.symm) (fun j _ => by rw [Nat.zero_add])
      rw [eo]
      refine ⟨V', ?_, k2, fun k hk => by rw [k3 k (by omega), up_ne (by omega), up_ne (by omega)], fun hok => ⟨by rw [k3 4 (by omega), up_ne (by omega), up_at], fun j hj hj2 => ?_⟩⟩
      · refine Eq.trans ?_ k1
        clear k1 k2 k3 k4 k5
        have hsI : V 5 = nI s := hV
        have s4 : up V 4 (nI (q s)) 5 = nI s := by rw [up_ne (by omega)]; exact hV
        generalize 1010 + shp (q s) = a at *
        rw [s5_18]
        simp (disch := first | omega | (show List.length _ ≤ 4; exact Nat.le_of_ble_eq_true rfl) | assumption | exact nbo_0 | exact nbo_1 | exact b2_b) only [s5_19, s5_22, s5_23, s5_26, s5_29, s5_31, s5_32, s5_35, s5_36, s5_39, s5_40, s5_43, s5_48, s5_49, s5_50, s5_53, s5_54, s5_57, s5_58, s5_61, s5_62r, s5_63, s5_66, s5_67, s5_68, s5_71, s5_72, s5_75, s5_78, s5_79, s5_80, ↓reduceIte, psh_some, psh_none, cln_i, cln_r, cln_n, cln_l, cln_d, cln_f, Option.bind_some, Option.bind_none, if_true, if_false, nI_add, pk_mul, nbo_0, nbo_1, nI_leI, nI_ltI, nI_eq, Nat.reduceAdd, Nat.reduceMul, Nat.add_zero, Nat.mul_zero, up_at, up_up, up_vI, vI_at, gp_0 hB, gp_2, gp_3, gp_4, pp_4, p3', ap_s, h3, hV, s4, hs1, e1', g155, g7, n1, up_ne (show (4 : Nat) ≠ 5 by decide)]
      · have := k5 hok j hj (by omega)
        rw [Nat.zero_add] at this
        exact this
  · have e1' : n ≤ s := by omega
    have eo : og n q s = (false, s, []) := by
      unfold og
      rw [if_neg (fun hc => e1 hc.1)]
    rw [eo]
    refine ⟨V, ?_, hV, fun k _ => rfl, fun hc => by cases hc⟩
    rw [s5_18]
    simp (disch := first | omega | (show List.length _ ≤ 4; exact Nat.le_of_ble_eq_true rfl) | assumption | exact nbo_0 | exact nbo_1 | exact b2_b) only [s5_19, s5_22, s5_23, s5_26, s5_46, s5_47, ↓reduceIte, psh_some, psh_none, cln_i, cln_r, cln_n, cln_l, cln_d, cln_f, Option.bind_some, Option.bind_none, if_true, if_false, nI_add, pk_mul, nbo_0, nbo_1, nI_leI, nI_ltI, nI_eq, Nat.reduceAdd, Nat.reduceMul, Nat.add_zero, Nat.mul_zero, up_at, up_up, up_vI, vI_at, gp_2, gp_4, h3, hV, e1']
    rfl
theorem f5_0 {V : Nat → Int32} (hB : BR R) (hP : PS V n q) (hV : V 5 = nI 0) : ∃ V', FF 5 [.ref 212] (210, up I 20 V, QR R nw bf h) = some (some (.int (nI (bN (og n q 0).1))), 210, up I 20 V', QR R nw bf h) ∧ NXT n q 0 V V' := by
  obtain ⟨V', k1, k2⟩ := p5s (I := I) (R := R) (nw := nw) (bf := bf) (h := h) (l1 := none) (l2 := none) (l3 := none) hB hP (Nat.zero_le n) hV
  have z : (nI 0 ≤ (0 : Int32)) = True := eq_true (by decide)
  refine ⟨V', ?_, k2⟩
  rw [← k1]
  simp (disch := first | omega | (show List.length _ ≤ 4; exact Nat.le_of_ble_eq_true rfl) | assumption | exact nbo_0 | exact nbo_1 | exact b2_b) only [FE5, s5_0, s5_1, s5_4, ↓reduceIte, psh_some, psh_none, cln_i, cln_r, cln_n, cln_l, cln_d, cln_f, Option.bind_some, Option.bind_none, if_true, if_false, nI_add, pk_mul, nbo_0, nbo_1, nI_leI, nI_ltI, nI_eq, Nat.reduceAdd, Nat.reduceMul, Nat.add_zero, Nat.mul_zero, up_at, up_up, up_vI, vI_at, gp_4, hV, z]
/-- after an order, at p: the mark first -/
theorem f5_n {V : Nat → Int32} {p : Nat} (hB : BR R) (hP : PS V n q) (hp : p ≤ n) (h0 : 0 < p) (hV : V 5 = nI p) (e : ¬ (p < n ∧ q p = 59)) : FF 5 [.ref 212] (210, up I 20 V, QR R nw bf h) = some (some (.int (nI 0)), 210, up I 20 V, QR R nw bf h) := by
  have ho := opd
  have hn := hP.2.2.1
  have g := f6 (I := I) (nw := nw) (bf := bf) (h := h) (c := 59) hB hP hp hV (by decide)
  have es : pS n q 59 p = none := by unfold pS; rw [if_neg e]
  rw [es] at g
  have g : FF 6 [.ref 212, .int (nI 59)] (210, up I 20 V, QR R nw bf h) = some (some (.int (-6)), 210, up I 20 V, QR R nw bf h) := g
  have z : ¬ (nI p ≤ (0 : Int32)) := nI_nle (by omega) (by omega)
  have n6 := n6ge
  simp (disch := first | omega | (show List.length _ ≤ 4; exact Nat.le_of_ble_eq_true rfl) | assumption | exact nbo_0 | exact nbo_1 | exact b2_b) only [FE5, s5_0, s5_1, s5_4, s5_7, s5_8, s5_10, s5_13, s5_16, s5_17, ↓reduceIte, psh_some, psh_none, cln_i, cln_r, cln_n, cln_l, cln_d, cln_f, Option.bind_some, Option.bind_none, if_true, if_false, nI_add, pk_mul, nbo_0, nbo_1, nI_leI, nI_ltI, nI_eq, Nat.reduceAdd, Nat.reduceMul, Nat.add_zero, Nat.mul_zero, up_at, up_up, up_vI, vI_at, gp_4, hV, z, g, n6]
theorem f5_s {V : Nat → Int32} {p : Nat} (hB : BR R) (hP : PS V n q) (h0 : 0 < p) (hV : V 5 = nI p) (hp : p < n) (hq : q p = 59) : ∃ V', FF 5 [.ref 212] (210, up I 20 V, QR R nw bf h) = some (some (.int (nI (bN (og n q (p + 1)).1))), 210, up I 20 V', QR R nw bf h) ∧ NXT n q (p + 1) V V' := by
  have ho := opd
  have hn := hP.2.2.1
  have g := f6 (I := I) (nw := nw) (bf := bf) (h := h) (c := 59) hB hP (Nat.le_of_lt hp) hV (by decide)
  have es : pS n q 59 p = some (0, p + 1) := by unfold pS; rw [if_pos ⟨hp, hq⟩]
  rw [es] at g
  have g : FF 6 [.ref 212, .int (nI 59)] (210, up I 20 V, QR R nw bf h) = some (some (.int (nI 0)), 210, up I 20 (up V 5 (nI (p + 1))), QR R nw bf h) := g
  have z : ¬ (nI p ≤ (0 : Int32)) := nI_nle (by omega) (by omega)
  have z2 : (0 : Int32) ≤ nI 0 := by decide
  obtain ⟨V', k1, k2, k3, k4⟩ := p5s (I := I) (R := R) (nw := nw) (bf := bf) (h := h) (l1 := none) (l2 := none) (l3 := none) hB (hP.up (k := 5) (x := nI (p + 1)) (by omega)) hp (up_at _ _ _)
  refine ⟨V', ?_, k2, fun k hk => by rw [k3 k hk, up_ne (by omega)], k4⟩
  rw [← k1]
  simp (disch := first | omega | (show List.length _ ≤ 4; exact Nat.le_of_ble_eq_true rfl) | assumption | exact nbo_0 | exact nbo_1 | exact b2_b) only [FE5, s5_0, s5_1, s5_4, s5_7, s5_8, s5_10, s5_13, ↓reduceIte, psh_some, psh_none, cln_i, cln_r, cln_n, cln_l, cln_d, cln_f, Option.bind_some, Option.bind_none, if_true, if_false, nI_add, pk_mul, nbo_0, nbo_1, nI_leI, nI_ltI, nI_eq, Nat.reduceAdd, Nat.reduceMul, Nat.add_zero, Nat.mul_zero, up_at, up_up, up_vI, vI_at, gp_4, hV, z, g, z2]
end NX
