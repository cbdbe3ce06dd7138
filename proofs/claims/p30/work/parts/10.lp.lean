/-! ===== the State's loops ===== -/
theorem nI_sub {x y : Nat} (h : y ≤ x) : nI x - nI y = nI (x - y) := by
  obtain ⟨d, rfl⟩ : ∃ d, x = y + d := ⟨x - y, by omega⟩
  rw [← nI_add, Nat.add_sub_cancel_left, Int32.add_comm, Int32.add_sub_cancel]
theorem nI_ltsub : ∀ x, x ≤ 100 → ∀ y, y ≤ 100 → ∀ g, g ≤ 100 → (nI x - nI y ≤ nI g ↔ x ≤ g + y) := by
  intro x hx y hy g hg
  have e : (nI x - nI y).toInt = (x : Int) - y := by
    rw [Int32.toInt_sub, nI_toInt (by omega), nI_toInt (by omega)]
    exact Int.bmod_eq_of_le (by omega) (by omega)
  rw [Int32.le_iff_toInt_le, e, nI_toInt (by omega)]
  omega
theorem dc_le {x d : Nat} (hx : x ≤ 100) (hd : d ≤ 50) : (x * d + 99) / 100 ≤ x := by
  rcases Nat.eq_zero_or_pos x with h | h
  · rw [h, Nat.zero_mul]; decide
  · have := Nat.mul_le_mul_left x hd
    omega
def wkF (w i : Nat) (s : Nat → Nat) : Nat → Nat := if s (38 + i) = 1 then up s (58 + 10 * w + i) (min 100 (s (58 + 10 * w + i) + s 5)) else s
def dcF (w i : Nat) (s : Nat → Nat) : Nat → Nat := up s (58 + 10 * w + i) (s (58 + 10 * w + i) - (s (58 + 10 * w + i) * s 4 + 99) / 100)
def bgF (w i : Nat) (s : Nat → Nat) : Nat → Nat := if s (38 + i) = 1 then (if s 2 ≤ s (58 + 10 * w + i) then up (up s (128 + i) (s (128 + i) + 1)) (138 + i) (s (138 + i) + 1) else up s (128 + i) (s (128 + i) + 1)) else s
def msF (w k : Nat) (p : (Nat → Nat) × Nat) : (Nat → Nat) × Nat := if p.1 (38 + p.1 (48 + k)) = 1 ∧ p.1 (58 + 10 * w + p.1 (48 + k)) < p.1 2 then (up p.1 (118 + p.1 (48 + k)) (p.1 (118 + p.1 (48 + k)) + 1), p.2 + 1) else p
def wdF (a : Nat → Nat) (f t i : Nat) (s : Option Nat × Nat) : Option Nat × Nat := if a (38 + i) = 1 ∧ s.2 + a (58 + 10 * t + i) < a (58 + 10 * f + i) then (some i, a (58 + 10 * f + i) - a (58 + 10 * t + i)) else s
def oN (d : Int32) (o : Option Nat) : Int32 := match o with
  | some t => nI t
  | none => d
section S3
variable {I : Nat → Nat → Int32} {R : Nat → Nat → Option Nat} {b : Nat} {a : Nat → Nat}
theorem wkF_ok {w i : Nat} {s : Nat → Nat} (hw : w < 6) (h : WO s) (hi : i < s 1) : WO (wkF w i s) ∧ ∀ k, ¬ (58 ≤ k ∧ k < 118) → wkF w i s k = s k := by
  have := h.tp
  unfold wkF
  by_cases e : s (38 + i) = 1
  · rw [if_pos e]
    exact ⟨h.up_lv hw hi (Nat.min_le_left _ _), fun k hk => up_ne (by omega)⟩
  · rw [if_neg e]
    exact ⟨h, fun k _ => rfl⟩
theorem f31 {w : Nat} (hb : b < 13) (hR : RS R) (hI : I b = vI a) (hW : WO a) (hw : w < 6) : FF 31 [.ref (16 * b), .ref (16 * b + (5 + w))] (202, I, R) = some (none, 202, up I b (vI (fd (wkF w) (a 1) 0 a)), R) := by
  have ho := os hb
  have main := fd_loop (E := fun i s => EE 31 2 [some (.ref (16 * b)), some (.ref (16 * b + (5 + w))), some (.int (nI i))] [] (202, up I b (vI s), R)) (f := wkF w) (Inv := fun i s => WO s ∧ s 1 = a 1) (a 1) (by
    intro i s hi ⟨h1, h2⟩
    have hT := hW.tp
    have hk := wkF_ok (w := w) (i := i) hw h1 (by omega)
    refine ⟨?_, hk.1, by rw [hk.2 1 (by omega)]; exact h2⟩
    have hn : ¬ s 1 ≤ i := by omega
    have h5 := h1.wk
    have hl := h1.lv w i hw (by omega)
    have hc := cs_5 (k := i) hb hw (by omega)
    show EE 31 2 _ _ _ = EE 31 2 _ _ _
    rw [s31_2]
    unfold wkF
    by_cases e : s (38 + i) = 1
    · simp (disch := first | omega | (show List.length _ ≤ 4; exact Nat.le_of_ble_eq_true rfl) | assumption | exact nbo_0 | exact nbo_1 | exact b2_b) only [s31_0, s31_1, s31_3, s31_4, s31_7, s31_10, s31_11, s31_12, s31_15, s31_18, s31_19, s31_20, s31_22, s31_23, s31_24, s31_25, s31_26, s31_29, s31_30, s31_31, s31_32, s31_35, s31_36, s31_39, s31_42, ↓reduceIte, psh_some, psh_none, cln_i, cln_r, cln_n, cln_l, cln_d, cln_f, Option.bind_some, Option.bind_none, if_true, if_false, nI_add, pk_mul, nbo_0, nbo_1, nI_leI, nI_ltI, nI_eq, Nat.reduceAdd, Nat.reduceMul, Nat.add_zero, Nat.mul_zero, up_at, up_up, up_vI, vI_at, gs_8 hb, gs_0 hb hR, f19 hb (up_at I b (vI s)) h1, b2_if, as_5 hb hw, as_1 hb, ws_5 hb hw, f151, hn, e]
    · simp (disch := first | omega | (show List.length _ ≤ 4; exact Nat.le_of_ble_eq_true rfl) | assumption | exact nbo_0 | exact nbo_1 | exact b2_b) only [s31_0, s31_1, s31_3, s31_4, s31_7, s31_10, s31_11, s31_12, s31_15, s31_18, s31_19, s31_20, s31_22, s31_23, s31_24, s31_25, s31_26, s31_29, s31_30, s31_31, s31_32, s31_35, s31_36, s31_39, s31_42, ↓reduceIte, psh_some, psh_none, cln_i, cln_r, cln_n, cln_l, cln_d, cln_f, Option.bind_some, Option.bind_none, if_true, if_false, nI_add, pk_mul, nbo_0, nbo_1, nI_leI, nI_ltI, nI_eq, Nat.reduceAdd, Nat.reduceMul, Nat.add_zero, Nat.mul_zero, up_at, up_up, up_vI, vI_at, gs_8 hb, f19 hb (up_at I b (vI s)) h1, b2_if, hn, e]) (a 1) 0 a (by omega) ⟨hW, rfl⟩
  obtain ⟨m1, m2, m3⟩ := main
  have hT := hW.tp
  have e0 : I = up I b (vI a) := (up_eq hI).symm
  rw [FE31, s31_0, s31_1, e0, cln_r]
  refine m1.trans ?_
  rw [s31_2]
  simp (disch := first | omega | (show List.length _ ≤ 4; exact Nat.le_of_ble_eq_true rfl) | assumption | exact nbo_0 | exact nbo_1 | exact b2_b) only [s31_0, s31_1, s31_3, s31_4, s31_7, s31_10, s31_11, s31_12, s31_15, s31_18, s31_19, s31_20, s31_22, s31_23, s31_24, s31_25, s31_26, s31_29, s31_30, s31_31, s31_32, s31_35, s31_36, s31_39, s31_42, ↓reduceIte, psh_some, psh_none, cln_i, cln_r, cln_n, cln_l, cln_d, cln_f, Option.bind_some, Option.bind_none, if_true, if_false, nI_add, pk_mul, nbo_0, nbo_1, nI_leI, nI_ltI, nI_eq, Nat.reduceAdd, Nat.reduceMul, Nat.add_zero, Nat.mul_zero, up_at, up_up, up_vI, vI_at, gs_8 hb, m3, Nat.le_refl]
theorem dcF_ok {w i : Nat} {s : Nat → Nat} (hw : w < 6) (h : WO s) (hi : i < 10) : WO (dcF w i s) ∧ ∀ k, ¬ (58 ≤ k ∧ k < 118) → dcF w i s k = s k := by
  have := h.tp
  unfold dcF
  have hl := h.lv w i hw hi
  by_cases e : i < s 1
  · exact ⟨h.up_lv hw e (by omega), fun k hk => up_ne (by omega)⟩
  · rw [h.lz w i hw hi (by omega), Nat.zero_sub, ← h.lz w i hw hi (by omega), up_self]
    exact ⟨h, fun k _ => rfl⟩
theorem f34 {w : Nat} (hb : b < 13) (hR : RS R) (hI : I b = vI a) (hW : WO a) (hw : w < 6) : FF 34 [.ref (16 * b), .ref (16 * b + (5 + w))] (202, I, R) = some (none, 202, up I b (vI (fd (dcF w) 10 0 a)), R) := by
  have ho := os hb
  have main := fd_loop (E := fun i s => EE 34 2 [some (.ref (16 * b)), some (.ref (16 * b + (5 + w))), some (.int (nI i))] [] (202, up I b (vI s), R)) (f := dcF w) (Inv := fun i s => WO s) 10 (by
    intro i s hi h1
    have hk := dcF_ok (w := w) (i := i) hw h1 (by omega)
    refine ⟨?_, hk.1⟩
    have hn : ¬ 10 ≤ i := by omega
    have h5 := h1.dc
    have hl := h1.lv w i hw (by omega)
    have hm := Nat.mul_le_mul hl h5
    have hs := nI_sub (dc_le hl h5)
    have hc := cs_5 (k := i) hb hw (by omega)
    show EE 34 2 _ _ _ = EE 34 2 _ _ _
    rw [s34_2]
    unfold dcF
    simp (disch := first | omega | (show List.length _ ≤ 4; exact Nat.le_of_ble_eq_true rfl) | assumption | exact nbo_0 | exact nbo_1 | exact b2_b) only [s34_0, s34_1, s34_3, s34_5, s34_8, s34_9, s34_10, s34_11, s34_12, s34_13, s34_14, s34_15, s34_16, s34_19, s34_20, s34_21, s34_22, s34_24, s34_25, s34_27, s34_28, s34_29, s34_30, s34_33, s34_36, ↓reduceIte, psh_some, psh_none, cln_i, cln_r, cln_n, cln_l, cln_d, cln_f, Option.bind_some, Option.bind_none, if_true, if_false, nI_add, pk_mul, nbo_0, nbo_1, nI_leI, nI_ltI, nI_eq, Nat.reduceAdd, Nat.reduceMul, Nat.add_zero, Nat.mul_zero, up_at, up_up, up_vI, vI_at, gs_0 hb hR, as_5 hb hw, as_1 hb, ws_5 hb hw, hs, hn]) 10 0 a (by omega) hW
  obtain ⟨m1, m2⟩ := main
  have e0 : I = up I b (vI a) := (up_eq hI).symm
  rw [FE34, s34_0, s34_1, e0, cln_r]
  refine m1.trans ?_
  rw [s34_2]
  simp (disch := first | omega | (show List.length _ ≤ 4; exact Nat.le_of_ble_eq_true rfl) | assumption | exact nbo_0 | exact nbo_1 | exact b2_b) only [s34_0, s34_1, s34_3, s34_5, s34_8, s34_9, s34_10, s34_11, s34_12, s34_13, s34_14, s34_15, s34_16, s34_19, s34_20, s34_21, s34_22, s34_24, s34_25, s34_27, s34_28, s34_29, s34_30, s34_33, s34_36, ↓reduceIte, psh_some, psh_none, cln_i, cln_r, cln_n, cln_l, cln_d, cln_f, Option.bind_some, Option.bind_none, if_true, if_false, nI_add, pk_mul, nbo_0, nbo_1, nI_leI, nI_ltI, nI_eq, Nat.reduceAdd, Nat.reduceMul, Nat.add_zero, Nat.mul_zero, up_at, up_up, up_vI, vI_at, Nat.le_refl]
theorem bgF_ok {w i : Nat} {s : Nat → Nat} (h : WO s) (hi : i < 10) : WO (bgF w i s) ∧ ∀ k, ¬ (128 ≤ k ∧ k < 148) → bgF w i s k = s k := by
  unfold bgF
  by_cases e : s (38 + i) = 1
  · rw [if_pos e]
    by_cases e2 : s 2 ≤ s (58 + 10 * w + i)
    · rw [if_pos e2]
      exact ⟨(h.up_ct (by omega)).up_ct (by omega), fun k hk => by rw [up_ne (by omega), up_ne (by omega)]⟩
    · rw [if_neg e2]
      exact ⟨h.up_ct (by omega), fun k hk => up_ne (by omega)⟩
  · rw [if_neg e]
    exact ⟨h, fun k _ => rfl⟩
theorem f35 {w : Nat} (hb : b < 13) (hR : RS R) (hI : I b = vI a) (hW : WO a) (hw : w < 6) : FF 35 [.ref (16 * b), .ref (16 * b + (5 + w))] (202, I, R) = some (none, 202, up I b (vI (fd (bgF w) (a 1) 0 a)), R) := by
  have ho := os hb
  have main := fd_loop (E := fun i s => EE 35 2 [some (.ref (16 * b)), some (.ref (16 * b + (5 + w))), some (.int (nI i))] [] (202, up I b (vI s), R)) (f := bgF w) (Inv := fun i s => WO s ∧ s 1 = a 1) (a 1) (by
    intro i s hi ⟨h1, h2⟩
    have hT := hW.tp
    have hk := bgF_ok (w := w) (i := i) h1 (by omega)
    refine ⟨?_, hk.1, by rw [hk.2 1 (by omega)]; exact h2⟩
    have hn : ¬ s 1 ≤ i := by omega
    have h5 := h1.kn
    have hl := h1.lv w i hw (by omega)
    have hc := cs_13 (k := i) hb (by omega)
    have hd := cs_14 (k := i) hb (by omega)
    have n1 : ∀ x, up s (128 + i) x (58 + 10 * w + i) = s (58 + 10 * w + i) := fun x => up_ne (by omega)
    have n2 : ∀ x, up s (128 + i) x 2 = s 2 := fun x => up_ne (by omega)
    have n3 : ∀ x, up s (128 + i) x (138 + i) = s (138 + i) := fun x => up_ne (by omega)
    show EE 35 2 _ _ _ = EE 35 2 _ _ _
    rw [s35_2]
    unfold bgF
    by_cases e : s (38 + i) = 1
    · by_cases e2 : s 2 ≤ s (58 + 10 * w + i)
      · have e3 : ¬ s (58 + 10 * w + i) < s 2 := by omega
        simp (disch := first | omega | (show List.length _ ≤ 4; exact Nat.le_of_ble_eq_true rfl) | assumption | exact nbo_0 | exact nbo_1 | exact b2_b) only [s35_0, s35_1, s35_3, s35_4, s35_7, s35_10, s35_11, s35_12, s35_15, s35_18, s35_19, s35_22, s35_23, s35_24, s35_25, s35_26, s35_27, s35_28, s35_29, s35_30, s35_31, s35_32, s35_35, s35_36, s35_37, s35_40, s35_41, s35_44, s35_45, s35_46, s35_47, s35_48, s35_49, s35_50, s35_53, s35_56, ↓reduceIte, psh_some, psh_none, cln_i, cln_r, cln_n, cln_l, cln_d, cln_f, Option.bind_some, Option.bind_none, if_true, if_false, nI_add, pk_mul, nbo_0, nbo_1, nI_leI, nI_ltI, nI_eq, Nat.reduceAdd, Nat.reduceMul, Nat.add_zero, Nat.mul_zero, up_at, up_up, up_vI, vI_at, gs_8 hb, gs_0 hb hR, gs_6 hb hR, gs_7 hb hR, f19 hb (up_at I b (vI s)) h1, b2_if, as_5 hb hw, as_1 hb, as_13 hb, as_14 hb, ws_13 hb, ws_14 hb, hn, e, e2, e3, n1, n2, n3]
      · have e3 : s (58 + 10 * w + i) < s 2 := by omega
        simp (disch := first | omega | (show List.length _ ≤ 4; exact Nat.le_of_ble_eq_true rfl) | assumption | exact nbo_0 | exact nbo_1 | exact b2_b) only [s35_0, s35_1, s35_3, s35_4, s35_7, s35_10, s35_11, s35_12, s35_15, s35_18, s35_19, s35_22, s35_23, s35_24, s35_25, s35_26, s35_27, s35_28, s35_29, s35_30, s35_31, s35_32, s35_35, s35_36, s35_37, s35_40, s35_41, s35_44, s35_45, s35_46, s35_47, s35_48, s35_49, s35_50, s35_53, s35_56, ↓reduceIte, psh_some, psh_none, cln_i, cln_r, cln_n, cln_l, cln_d, cln_f, Option.bind_some, Option.bind_none, if_true, if_false, nI_add, pk_mul, nbo_0, nbo_1, nI_leI, nI_ltI, nI_eq, Nat.reduceAdd, Nat.reduceMul, Nat.add_zero, Nat.mul_zero, up_at, up_up, up_vI, vI_at, gs_8 hb, gs_0 hb hR, gs_6 hb hR, gs_7 hb hR, f19 hb (up_at I b (vI s)) h1, b2_if, as_5 hb hw, as_1 hb, as_13 hb, as_14 hb, ws_13 hb, ws_14 hb, hn, e, e2, e3, n1, n2, n3]
    · simp (disch := first | omega | (show List.length _ ≤ 4; exact Nat.le_of_ble_eq_true rfl) | assumption | exact nbo_0 | exact nbo_1 | exact b2_b) only [s35_0, s35_1, s35_3, s35_4, s35_7, s35_10, s35_11, s35_12, s35_15, s35_18, s35_19, s35_22, s35_23, s35_24, s35_25, s35_26, s35_27, s35_28, s35_29, s35_30, s35_31, s35_32, s35_35, s35_36, s35_37, s35_40, s35_41, s35_44, s35_45, s35_46, s35_47, s35_48, s35_49, s35_50, s35_53, s35_56, ↓reduceIte, psh_some, psh_none, cln_i, cln_r, cln_n, cln_l, cln_d, cln_f, Option.bind_some, Option.bind_none, if_true, if_false, nI_add, pk_mul, nbo_0, nbo_1, nI_leI, nI_ltI, nI_eq, Nat.reduceAdd, Nat.reduceMul, Nat.add_zero, Nat.mul_zero, up_at, up_up, up_vI, vI_at, gs_8 hb, f19 hb (up_at I b (vI s)) h1, b2_if, hn, e]) (a 1) 0 a (by omega) ⟨hW, rfl⟩
  obtain ⟨m1, m2, m3⟩ := main
  have hT := hW.tp
  have e0 : I = up I b (vI a) := (up_eq hI).symm
  rw [FE35, s35_0, s35_1, e0, cln_r]
  refine m1.trans ?_
  rw [s35_2]
  simp (disch := first | omega | (show List.length _ ≤ 4; exact Nat.le_of_ble_eq_true rfl) | assumption | exact nbo_0 | exact nbo_1 | exact b2_b) only [s35_0, s35_1, s35_3, s35_4, s35_7, s35_10, s35_11, s35_12, s35_15, s35_18, s35_19, s35_22, s35_23, s35_24, s35_25, s35_26, s35_27, s35_28, s35_29, s35_30, s35_31, s35_32, s35_35, s35_36, s35_37, s35_40, s35_41, s35_44, s35_45, s35_46, s35_47, s35_48, s35_49, s35_50, s35_53, s35_56, ↓reduceIte, psh_some, psh_none, cln_i, cln_r, cln_n, cln_l, cln_d, cln_f, Option.bind_some, Option.bind_none, if_true, if_false, nI_add, pk_mul, nbo_0, nbo_1, nI_leI, nI_ltI, nI_eq, Nat.reduceAdd, Nat.reduceMul, Nat.add_zero, Nat.mul_zero, up_at, up_up, up_vI, vI_at, gs_8 hb, m3, Nat.le_refl]
end S3
