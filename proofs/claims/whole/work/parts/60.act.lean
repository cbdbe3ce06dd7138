/-! ===== an order is carried out ===== -/
def act (c v0 v1 v2 : Nat) (a : Nat → Nat) : Option (Nat → Nat) :=
  if c = 111 then (if a 1 < 10 then some (up (up a (38 + a 1) 1) 1 (a 1 + 1)) else none)
  else if c = 120 then (if v0 < a 1 then some (up a (38 + v0) (1 - a (38 + v0))) else none)
  else if c = 107 then (if v0 < a 1 then some (chk a v0) else none)
  else if c = 99 then (if v0 < a 1 ∧ a (38 + v0) = 1 ∧ a (58 + 10 * frm a + v0) < a (58 + 10 * bst a v0 + v0) then some (up (up a (58 + 10 * frm a + v0) (mnC a v0)) 12 (a 12 + a 7)) else none)
  else if c = 108 then (if (v0 < 6 ∧ v1 < a 1) ∧ 1 ≤ v2 ∧ v2 ≤ 100 then some (up a (58 + 10 * v0 + v1) (min 100 (a (58 + 10 * v0 + v1) + v2))) else none)
  else if c = 114 then (if v1 < 6 ∧ v0 < 12 then some (up a (14 + v0) v1) else none)
  else if c = 109 then (if v0 < 12 ∧ v1 < 61 then some (up a (26 + v0) v1) else none)
  else some (tot (endP (a (26 + a 0 % 12)) a))
def actL (c : Nat) (vs : List Nat) (a : Nat → Nat) : Option (Nat → Nat) := act c (vs.getD 0 0) (vs.getD 2 0) (vs.getD 4 0) a
/-- the values of an order stand from cell k on -/
def AV (X : Nat → Int32) (k c : Nat) (vs : List Nat) : Prop := ∀ j, j < (spL (shp c)).length → j % 2 = 0 → X (k + j / 2) = nI (vs.getD j 0)
theorem iT_lt {v m : Nat} (hv : v < 2 ^ 20) (hm : m < 2 ^ 20) : iT (nI v) m ↔ v < m := by
  constructor
  · intro h
    exact Nat.lt_of_not_le (fun hc => h.2 (nI_le hc (by omega)))
  · intro h
    exact nI_iT h (by omega)
theorem rp_lt {n : Nat} {q : Nat → Nat} : ∀ ks p, p ≤ n → ∀ j, (rp n q ks p).2.2.getD j 0 < 1000
  | [], p, _, j => by show ([] : List Nat).getD j 0 < 1000; simp
  | k :: ks, p, hp, j => by
    cases e : pK n q k p with
    | none => rw [rp_none e]; show ([] : List Nat).getD j 0 < 1000; simp
    | some y =>
      have h := pK_some hp e
      rw [rp_some e]
      cases j with
      | zero => exact h.2.2
      | succ j =>
        show (y.1 :: _).getD (j + 1) 0 < 1000
        rw [List.getD_cons_succ]
        exact rp_lt ks y.2 h.2.1 j
theorem og_lt {n : Nat} {q : Nat → Nat} {s : Nat} (j : Nat) : (og n q s).2.2.getD j 0 < 1000 := by
  unfold og
  by_cases e : s < n ∧ isL (q s) = true
  · rw [if_pos e]; exact rp_lt _ _ e.1 j
  · rw [if_neg e]; show ([] : List Nat).getD j 0 < 1000; simp
section AC
variable {I : Nat → Nat → Int32} {R : Nat → Nat → Option Nat} {b k c N : Nat} {a a' : Nat → Nat} {vs : List Nat}
theorem act_ok (h : WN N a) (hv : ∀ j, vs.getD j 0 < 1000) (e : actL c vs a = some a') : WN (N + 1) a' := by
  have hW := h.1
  have hT := hW.tp
  have h1 := h.mono (Nat.le_succ N)
  unfold actL act at e
  by_cases c1 : c = 111
  · rw [if_pos c1] at e
    by_cases d : a 1 < 10
    · rw [if_pos d] at e; cases e
      exact h1.of_same (hW.come d) (by rw [up_ne (by omega), up_ne (by omega)]) (fun k' g1 g2 => by rw [up_ne (by omega), up_ne (by omega)])
    · rw [if_neg d] at e; cases e
  rw [if_neg c1] at e
  by_cases c2 : c = 120
  · rw [if_pos c2] at e
    by_cases d : vs.getD 0 0 < a 1
    · rw [if_pos d] at e; cases e
      exact h1.of_same (hW.turned d) (up_ne (by omega)) (fun k' g1 g2 => up_ne (by omega))
    · rw [if_neg d] at e; cases e
  rw [if_neg c2] at e
  by_cases c3 : c = 107
  · rw [if_pos c3] at e
    by_cases d : vs.getD 0 0 < a 1
    · rw [if_pos d] at e; cases e
      have hk := chk_ok hW d
      exact h1.of_same hk.1 (hk.2 0 (by omega) (by omega)) (fun k' g1 g2 => hk.2 k' (by omega) (by omega))
    · rw [if_neg d] at e; cases e
  rw [if_neg c3] at e
  by_cases c4 : c = 99
  · rw [if_pos c4] at e
    by_cases d : vs.getD 0 0 < a 1 ∧ a (38 + vs.getD 0 0) = 1 ∧ a (58 + 10 * frm a + vs.getD 0 0) < a (58 + 10 * bst a (vs.getD 0 0) + vs.getD 0 0)
    · rw [if_pos d] at e; cases e
      have hf : frm a < 6 := hW.ro _ (Nat.mod_lt _ (by decide))
      have hbt := bst_lt (a := a) (t := vs.getD 0 0)
      have l1 := hW.lv (frm a) (vs.getD 0 0) hf (by omega)
      have l2 := hW.lv (bst a (vs.getD 0 0)) (vs.getD 0 0) hbt (by omega)
      have hm : mnC a (vs.getD 0 0) ≤ 100 := by unfold mnC; omega
      exact h1.of_same ((hW.up_lv hf d.1 hm).up_ct (by omega)) (by rw [up_ne (by omega), up_ne (by omega)]) (fun k' g1 g2 => by rw [up_ne (by omega), up_ne (by omega)])
    · rw [if_neg d] at e; cases e
  rw [if_neg c4] at e
  by_cases c5 : c = 108
  · rw [if_pos c5] at e
    by_cases d : (vs.getD 0 0 < 6 ∧ vs.getD 2 0 < a 1) ∧ 1 ≤ vs.getD 4 0 ∧ vs.getD 4 0 ≤ 100
    · rw [if_pos d] at e; cases e
      exact h1.of_same (hW.up_lv d.1.1 d.1.2 (Nat.min_le_left _ _)) (up_ne (by omega)) (fun k' g1 g2 => up_ne (by omega))
    · rw [if_neg d] at e; cases e
  rw [if_neg c5] at e
  by_cases c6 : c = 114
  · rw [if_pos c6] at e
    by_cases d : vs.getD 2 0 < 6 ∧ vs.getD 0 0 < 12
    · rw [if_pos d] at e; cases e
      exact h1.of_same (hW.up1 (by omega) (by omega) (by omega) (by omega) (by omega) (by omega) (by omega) (by omega) (by omega) (by omega)) (up_ne (by omega)) (fun k' g1 g2 => up_ne (by omega))
    · rw [if_neg d] at e; cases e
  rw [if_neg c6] at e
  by_cases c7 : c = 109
  · rw [if_pos c7] at e
    by_cases d : vs.getD 0 0 < 12 ∧ vs.getD 2 0 < 61
    · rw [if_pos d] at e; cases e
      exact h1.of_same (hW.up1 (by omega) (by omega) (by omega) (by omega) (by omega) (by omega) (by omega) (by omega) (by omega) (by omega)) (up_ne (by omega)) (fun k' g1 g2 => up_ne (by omega))
    · rw [if_neg d] at e; cases e
  rw [if_neg c7] at e
  cases e
  exact endP_ok h
theorem zm4 : ((-4 : Int32) = 0) = False := eq_false (by decide)
/-- what an order answers: the state after it, or none where it fails; the class's side -/
theorem f42 (hb : b < 13) (hRS : RS R) (hI : I b = vI a) (hW : WO a) (h0 : a 0 < 2 ^ 30) (hl : isL c = true) (hc : c < 128) (hA : AV (I 20) 6 c vs) (hv : ∀ j, vs.getD j 0 < 1000) : (∀ a', actL c vs a = some a' → ∃ r, ¬ r < 0 ∧ FF 42 [.ref (16 * b), .int (nI c), .ref 214] (210, I, R) = some (some (.int r), 210, up I b (vI a'), R)) ∧ (actL c vs a = none → ∃ r, r < 0 ∧ FF 42 [.ref (16 * b), .int (nI c), .ref 214] (210, I, R) = some (some (.int r), 210, I, R)) := by
  have ho := os hb
  have hT := hW.tp
  have v0 := hv 0
  have v2 := hv 2
  have v4 := hv 4
  have hls := (isL_iff c hc).mp hl
  unfold actL act
  generalize hx0 : vs.getD 0 0 = x0 at *
  generalize hx2 : vs.getD 2 0 = x2 at *
  generalize hx4 : vs.getD 4 0 = x4 at *
  have i0 := fun m (hm : m < 2 ^ 20) => iT_lt (v := x0) (m := m) (by omega) hm
  have i2 := fun m (hm : m < 2 ^ 20) => iT_lt (v := x2) (m := m) (by omega) hm
  rcases hls with rfl | rfl | rfl | rfl | rfl | rfl | rfl | rfl
  · rw [if_pos rfl]
    by_cases d : a 1 < 10
    · rw [if_pos d]
      refine ⟨fun a' e => ⟨nI (a 1), nI_pos (by omega), ?_⟩, fun e => by cases e⟩
      cases e
      have g := f16 (R := R) hb hI hW d
      simp (disch := first | omega | (show List.length _ ≤ 4; exact Nat.le_of_ble_eq_true rfl) | assumption | exact nbo_0 | exact nbo_1 | exact b2_b) only [FE42, s42_0, s42_1_111, s42_104, s42_105, s42_108, ↓reduceIte, psh_some, psh_none, cln_i, cln_r, cln_n, cln_l, cln_d, cln_f, Option.bind_some, Option.bind_none, if_true, if_false, nI_add, pk_mul, nbo_0, nbo_1, nI_leI, nI_ltI, nI_eq, Nat.reduceAdd, Nat.reduceMul, Nat.add_zero, Nat.mul_zero, g]
    · rw [if_neg d]
      refine ⟨fun a' e => (by cases e), fun _ => ⟨-4, by decide, ?_⟩⟩
      have g := f16e (I := I) (R := R) (a := a) hb hI (by omega)
      simp (disch := first | omega | (show List.length _ ≤ 4; exact Nat.le_of_ble_eq_true rfl) | assumption | exact nbo_0 | exact nbo_1 | exact b2_b) only [FE42, s42_0, s42_1_111, s42_104, s42_105, s42_108, ↓reduceIte, psh_some, psh_none, cln_i, cln_r, cln_n, cln_l, cln_d, cln_f, Option.bind_some, Option.bind_none, if_true, if_false, nI_add, pk_mul, nbo_0, nbo_1, nI_leI, nI_ltI, nI_eq, Nat.reduceAdd, Nat.reduceMul, Nat.add_zero, Nat.mul_zero, g]
  · have w0 : I 20 6 = nI x0 := by have := hA 0 (by decide) (by decide); rw [hx0] at this; exact this
    rw [if_neg (by decide), if_pos rfl]
    by_cases d : x0 < a 1
    · rw [if_pos d]
      refine ⟨fun a' e => ⟨nI (1 - a (38 + x0)), nI_pos (by omega), ?_⟩, fun e => by cases e⟩
      cases e
      have g := f17 (R := R) hb hI hW d
      simp (disch := first | omega | (show List.length _ ≤ 4; exact Nat.le_of_ble_eq_true rfl) | assumption | exact nbo_0 | exact nbo_1 | exact b2_b) only [FE42, s42_0, s42_1_120, s42_109, s42_110, s42_111, s42_112, s42_113, s42_116, ↓reduceIte, psh_some, psh_none, cln_i, cln_r, cln_n, cln_l, cln_d, cln_f, Option.bind_some, Option.bind_none, if_true, if_false, nI_add, pk_mul, nbo_0, nbo_1, nI_leI, nI_ltI, nI_eq, Nat.reduceAdd, Nat.reduceMul, Nat.add_zero, Nat.mul_zero, ap_v, w0, g]
    · rw [if_neg d]
      refine ⟨fun a' e => (by cases e), fun _ => ⟨-1, by decide, ?_⟩⟩
      have g := f17e (I := I) (R := R) (a := a) (x := nI x0) hb hI (fun hh => d ((i0 (a 1) (by omega)).mp hh))
      simp (disch := first | omega | (show List.length _ ≤ 4; exact Nat.le_of_ble_eq_true rfl) | assumption | exact nbo_0 | exact nbo_1 | exact b2_b) only [FE42, s42_0, s42_1_120, s42_109, s42_110, s42_111, s42_112, s42_113, s42_116, ↓reduceIte, psh_some, psh_none, cln_i, cln_r, cln_n, cln_l, cln_d, cln_f, Option.bind_some, Option.bind_none, if_true, if_false, nI_add, pk_mul, nbo_0, nbo_1, nI_leI, nI_ltI, nI_eq, Nat.reduceAdd, Nat.reduceMul, Nat.add_zero, Nat.mul_zero, ap_v, w0, g]
  · have w0 : I 20 6 = nI x0 := by have := hA 0 (by decide) (by decide); rw [hx0] at this; exact this
    rw [if_neg (by decide), if_neg (by decide), if_pos rfl]
    by_cases d : x0 < a 1
    · rw [if_pos d]
      have hl := (chk_ok hW d).1.li
      refine ⟨fun a' e => ⟨nI (chk a x0 13), nI_pos (by omega), ?_⟩, fun e => by cases e⟩
      cases e
      have g := f20 (I := I) (R := R) hb hRS hI hW d
      simp (disch := first | omega | (show List.length _ ≤ 4; exact Nat.le_of_ble_eq_true rfl) | assumption | exact nbo_0 | exact nbo_1 | exact b2_b) only [FE42, s42_0, s42_1_107, s42_117, s42_118, s42_119, s42_120, s42_121, s42_124, ↓reduceIte, psh_some, psh_none, cln_i, cln_r, cln_n, cln_l, cln_d, cln_f, Option.bind_some, Option.bind_none, if_true, if_false, nI_add, pk_mul, nbo_0, nbo_1, nI_leI, nI_ltI, nI_eq, Nat.reduceAdd, Nat.reduceMul, Nat.add_zero, Nat.mul_zero, ap_v, w0, g]
    · rw [if_neg d]
      refine ⟨fun a' e => (by cases e), fun _ => ⟨-1, by decide, ?_⟩⟩
      have g := f20e (I := I) (R := R) (a := a) (x := nI x0) hb hI (fun hh => d ((i0 (a 1) (by omega)).mp hh))
      simp (disch := first | omega | (show List.length _ ≤ 4; exact Nat.le_of_ble_eq_true rfl) | assumption | exact nbo_0 | exact nbo_1 | exact b2_b) only [FE42, s42_0, s42_1_107, s42_117, s42_118, s42_119, s42_120, s42_121, s42_124, ↓reduceIte, psh_some, psh_none, cln_i, cln_r, cln_n, cln_l, cln_d, cln_f, Option.bind_some, Option.bind_none, if_true, if_false, nI_add, pk_mul, nbo_0, nbo_1, nI_leI, nI_ltI, nI_eq, Nat.reduceAdd, Nat.reduceMul, Nat.add_zero, Nat.mul_zero, ap_v, w0, g]
  · have w0 : I 20 6 = nI x0 := by have := hA 0 (by decide) (by decide); rw [hx0] at this; exact this
    rw [if_neg (by decide), if_neg (by decide), if_neg (by decide), if_pos rfl]
    by_cases d : x0 < a 1 ∧ a (38 + x0) = 1 ∧ a (58 + 10 * frm a + x0) < a (58 + 10 * bst a x0 + x0)
    · rw [if_pos d]
      have hf : frm a < 6 := hW.ro _ (Nat.mod_lt _ (by decide))
      have hbt := bst_lt (a := a) (t := x0)
      have l1 := hW.lv (frm a) x0 hf (by omega)
      have l2 := hW.lv (bst a x0) x0 hbt (by omega)
      have hm : mnC a x0 ≤ 100 := by unfold mnC; omega
      refine ⟨fun a' e => ⟨nI (mnC a x0), nI_pos (by omega), ?_⟩, fun e => by cases e⟩
      cases e
      have g := f25 (I := I) (R := R) hb hRS hI hW h0 d.1 d.2.1 d.2.2
      simp (disch := first | omega | (show List.length _ ≤ 4; exact Nat.le_of_ble_eq_true rfl) | assumption | exact nbo_0 | exact nbo_1 | exact b2_b) only [FE42, s42_0, s42_1_99, s42_125, s42_126, s42_127, s42_128, s42_129, s42_132, ↓reduceIte, psh_some, psh_none, cln_i, cln_r, cln_n, cln_l, cln_d, cln_f, Option.bind_some, Option.bind_none, if_true, if_false, nI_add, pk_mul, nbo_0, nbo_1, nI_leI, nI_ltI, nI_eq, Nat.reduceAdd, Nat.reduceMul, Nat.add_zero, Nat.mul_zero, ap_v, w0, g]
    · rw [if_neg d]
      have g := f25e (I := I) (R := R) (a := a) (x := nI x0) hb hRS hI hW h0 (by
        rw [nI_clamp (by omega)]
        intro hh
        exact d ⟨(i0 (a 1) (by omega)).mp hh.1, hh.2⟩)
      refine ⟨fun a' e => (by cases e), fun _ => ⟨(if iT (nI x0) (a 1) then -5 else -1), ?_, ?_⟩⟩
      · split <;> decide
      · simp (disch := first | omega | (show List.length _ ≤ 4; exact Nat.le_of_ble_eq_true rfl) | assumption | exact nbo_0 | exact nbo_1 | exact b2_b) only [FE42, s42_0, s42_1_99, s42_125, s42_126, s42_127, s42_128, s42_129, s42_132, ↓reduceIte, psh_some, psh_none, cln_i, cln_r, cln_n, cln_l, cln_d, cln_f, Option.bind_some, Option.bind_none, if_true, if_false, nI_add, pk_mul, nbo_0, nbo_1, nI_leI, nI_ltI, nI_eq, Nat.reduceAdd, Nat.reduceMul, Nat.add_zero, Nat.mul_zero, ap_v, w0, g]
  · have w0 : I 20 6 = nI x0 := by have := hA 0 (by decide) (by decide); rw [hx0] at this; exact this
    have w1 : I 20 7 = nI x2 := by have := hA 2 (by decide) (by decide); rw [hx2] at this; exact this
    have w2 : I 20 8 = nI x4 := by have := hA 4 (by decide) (by decide); rw [hx4] at this; exact this
    rw [if_neg (by decide), if_neg (by decide), if_neg (by decide), if_neg (by decide), if_pos rfl]
    by_cases d : (x0 < 6 ∧ x2 < a 1) ∧ 1 ≤ x4 ∧ x4 ≤ 100
    · rw [if_pos d]
      refine ⟨fun a' e => ⟨nI (min 100 (a (58 + 10 * x0 + x2) + x4)), nI_pos (by omega), ?_⟩, fun e => by cases e⟩
      cases e
      have g := f22 (I := I) (R := R) hb hRS hI hW d.1.1 d.1.2 d.2
      simp (disch := first | omega | (show List.length _ ≤ 4; exact Nat.le_of_ble_eq_true rfl) | assumption | exact nbo_0 | exact nbo_1 | exact b2_b) only [FE42, s42_0, s42_1_108, s42_133, s42_134, s42_135, s42_136, s42_137, s42_138, s42_139, s42_140, s42_141, s42_142, s42_143, s42_146, ↓reduceIte, psh_some, psh_none, cln_i, cln_r, cln_n, cln_l, cln_d, cln_f, Option.bind_some, Option.bind_none, if_true, if_false, nI_add, pk_mul, nbo_0, nbo_1, nI_leI, nI_ltI, nI_eq, Nat.reduceAdd, Nat.reduceMul, Nat.add_zero, Nat.mul_zero, ap_v, w0, w1, w2, g]
    · rw [if_neg d]
      have g := f22e (I := I) (R := R) (a := a) (x := nI x0) (y := nI x2) (z := nI x4) hb hI (by
        rw [i0 6 (by decide), i2 (a 1) (by omega), nI_ltI (by omega) (by decide), nI_ltI (by decide) (by omega)]
        omega)
      refine ⟨fun a' e => (by cases e), fun _ => ⟨(if iT (nI x0) 6 ∧ iT (nI x2) (a 1) then -2 else -1), ?_, ?_⟩⟩
      · split <;> decide
      · simp (disch := first | omega | (show List.length _ ≤ 4; exact Nat.le_of_ble_eq_true rfl) | assumption | exact nbo_0 | exact nbo_1 | exact b2_b) only [FE42, s42_0, s42_1_108, s42_133, s42_134, s42_135, s42_136, s42_137, s42_138, s42_139, s42_140, s42_141, s42_142, s42_143, s42_146, ↓reduceIte, psh_some, psh_none, cln_i, cln_r, cln_n, cln_l, cln_d, cln_f, Option.bind_some, Option.bind_none, if_true, if_false, nI_add, pk_mul, nbo_0, nbo_1, nI_leI, nI_ltI, nI_eq, Nat.reduceAdd, Nat.reduceMul, Nat.add_zero, Nat.mul_zero, ap_v, w0, w1, w2, g]
  · have w0 : I 20 6 = nI x0 := by have := hA 0 (by decide) (by decide); rw [hx0] at this; exact this
    have w1 : I 20 7 = nI x2 := by have := hA 2 (by decide) (by decide); rw [hx2] at this; exact this
    rw [if_neg (by decide), if_neg (by decide), if_neg (by decide), if_neg (by decide), if_neg (by decide), if_pos rfl]
    by_cases d : x2 < 6 ∧ x0 < 12
    · rw [if_pos d]
      have w := hW.ro x0 d.2
      refine ⟨fun a' e => ⟨nI (a (14 + x0)), nI_pos (by omega), ?_⟩, fun e => by cases e⟩
      cases e
      have g := f14 (I := I) (R := R) (a := a) hb hRS hI d.1 d.2
      simp (disch := first | omega | (show List.length _ ≤ 4; exact Nat.le_of_ble_eq_true rfl) | assumption | exact nbo_0 | exact nbo_1 | exact b2_b) only [FE42, s42_0, s42_1_114, s42_147, s42_148, s42_149, s42_150, s42_151, s42_152, s42_153, s42_154, s42_157, ↓reduceIte, psh_some, psh_none, cln_i, cln_r, cln_n, cln_l, cln_d, cln_f, Option.bind_some, Option.bind_none, if_true, if_false, nI_add, pk_mul, nbo_0, nbo_1, nI_leI, nI_ltI, nI_eq, Nat.reduceAdd, Nat.reduceMul, Nat.add_zero, Nat.mul_zero, ap_v, w0, w1, g]
    · rw [if_neg d]
      have g := f14e (I := I) (R := R) (x := nI x0) (y := nI x2) hb (by
        rw [i2 6 (by decide), i0 12 (by decide)]
        omega)
      refine ⟨fun a' e => (by cases e), fun _ => ⟨(if iT (nI x2) 6 then -2 else -1), ?_, ?_⟩⟩
      · split <;> decide
      · simp (disch := first | omega | (show List.length _ ≤ 4; exact Nat.le_of_ble_eq_true rfl) | assumption | exact nbo_0 | exact nbo_1 | exact b2_b) only [FE42, s42_0, s42_1_114, s42_147, s42_148, s42_149, s42_150, s42_151, s42_152, s42_153, s42_154, s42_157, ↓reduceIte, psh_some, psh_none, cln_i, cln_r, cln_n, cln_l, cln_d, cln_f, Option.bind_some, Option.bind_none, if_true, if_false, nI_add, pk_mul, nbo_0, nbo_1, nI_leI, nI_ltI, nI_eq, Nat.reduceAdd, Nat.reduceMul, Nat.add_zero, Nat.mul_zero, ap_v, w0, w1, g]
  · have w0 : I 20 6 = nI x0 := by have := hA 0 (by decide) (by decide); rw [hx0] at this; exact this
    have w1 : I 20 7 = nI x2 := by have := hA 2 (by decide) (by decide); rw [hx2] at this; exact this
    rw [if_neg (by decide), if_neg (by decide), if_neg (by decide), if_neg (by decide), if_neg (by decide), if_neg (by decide), if_pos rfl]
    by_cases d : x0 < 12 ∧ x2 < 61
    · rw [if_pos d]
      have w := hW.mi x0 d.1
      refine ⟨fun a' e => ⟨nI (a (26 + x0)), nI_pos (by omega), ?_⟩, fun e => by cases e⟩
      cases e
      have g := f15 (I := I) (R := R) (a := a) hb hRS hI d.1 d.2
      simp (disch := first | omega | (show List.length _ ≤ 4; exact Nat.le_of_ble_eq_true rfl) | assumption | exact nbo_0 | exact nbo_1 | exact b2_b) only [FE42, s42_0, s42_1_109, s42_158, s42_159, s42_160, s42_161, s42_162, s42_163, s42_164, s42_165, s42_168, ↓reduceIte, psh_some, psh_none, cln_i, cln_r, cln_n, cln_l, cln_d, cln_f, Option.bind_some, Option.bind_none, if_true, if_false, nI_add, pk_mul, nbo_0, nbo_1, nI_leI, nI_ltI, nI_eq, Nat.reduceAdd, Nat.reduceMul, Nat.add_zero, Nat.mul_zero, ap_v, w0, w1, g]
    · rw [if_neg d]
      have g := f15e (I := I) (R := R) (x := nI x0) (y := nI x2) hb (by
        rw [i0 12 (by decide), i2 61 (by decide)]
        omega)
      refine ⟨fun a' e => (by cases e), fun _ => ⟨-2, by decide, ?_⟩⟩
      simp (disch := first | omega | (show List.length _ ≤ 4; exact Nat.le_of_ble_eq_true rfl) | assumption | exact nbo_0 | exact nbo_1 | exact b2_b) only [FE42, s42_0, s42_1_109, s42_158, s42_159, s42_160, s42_161, s42_162, s42_163, s42_164, s42_165, s42_168, ↓reduceIte, psh_some, psh_none, cln_i, cln_r, cln_n, cln_l, cln_d, cln_f, Option.bind_some, Option.bind_none, if_true, if_false, nI_add, pk_mul, nbo_0, nbo_1, nI_leI, nI_ltI, nI_eq, Nat.reduceAdd, Nat.reduceMul, Nat.add_zero, Nat.mul_zero, ap_v, w0, w1, g]
  · rw [if_neg (by decide), if_neg (by decide), if_neg (by decide), if_neg (by decide), if_neg (by decide), if_neg (by decide), if_neg (by decide)]
    have hmi := hW.mi (a 0 % 12) (Nat.mod_lt _ (by decide))
    have hle := endP_le (m := a (26 + a 0 % 12)) hW
    refine ⟨fun a' e => ⟨nI (endP (a (26 + a 0 % 12)) a).2, nI_pos (by omega), ?_⟩, fun e => by cases e⟩
    cases e
    have g2 := f28 (I := I) (R := R) (a := a) hb hRS hI h0
    have g3 := f29 (I := I) (R := R) (a := a) (n := a (26 + a 0 % 12)) hb hRS hI hW h0 (by omega)
    simp (disch := first | omega | (show List.length _ ≤ 4; exact Nat.le_of_ble_eq_true rfl) | assumption | exact nbo_0 | exact nbo_1 | exact b2_b) only [FE42, s42_0, s42_1_101, s42_169, s42_170, s42_171, s42_174, s42_177, ↓reduceIte, psh_some, psh_none, cln_i, cln_r, cln_n, cln_l, cln_d, cln_f, Option.bind_some, Option.bind_none, if_true, if_false, nI_add, pk_mul, nbo_0, nbo_1, nI_leI, nI_ltI, nI_eq, Nat.reduceAdd, Nat.reduceMul, Nat.add_zero, Nat.mul_zero, g2, g3]
end AC
