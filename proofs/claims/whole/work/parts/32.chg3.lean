/-! ===== learn, call, the shift's end ===== -/
section CK2
variable {I : Nat → Nat → Int32} {R : Nat → Nat → Option Nat} {nw bf u n N : Nat} {h hd q : Nat → Nat} {p sl : Nat → Nat → Nat} {a : Nat → Nat}
theorem pr_learn (hB : BR R) (hG : GL N a u p sl hd n q) (hC : CL I nw bf h a u p sl hd n q) (hM : ML I a u p sl hd n q) (x y z : Int32) : PR R I (QR R nw bf h) N 55 [.ref 208, .int x, .int y, .int z] 104 [.ref 224, .int x, .int y, .int z] := by
  have h1 := hC.1.1
  have h2 := hC.1.2.1
  have hRS : RS (QR R nw bf h) := QR_RS hB.2.2.2.1
  have hbe := bef hB hG hC
  have ho := od
  have ho1 := os (b := bf) (by omega)
  have ho2 := os (b := nw) (by omega)
  have ho3 := om
  have hW := hG.1.1
  have hT := hW.tp
  have hRM : RM (QR R nw bf h) := QR_RM hB.2.2.2.2
  by_cases e : (iT x 6 ∧ iT y (a 1)) ∧ ¬ z < nI 1 ∧ ¬ nI 100 < z
  · obtain ⟨⟨e1, e2⟩, e3⟩ := e
    obtain ⟨w, hw, rfl⟩ := iT_nI (by decide) e1
    obtain ⟨t, ht, rfl⟩ := iT_nI (by omega) e2
    obtain ⟨j, j1, j2, rfl⟩ := rng (lo := 1) (hi := 100) (by decide) (by decide) e3.1 e3.2
    have hl := hW.lv w t hw (by omega)
    refine chg (r := nI (min 100 (a (58 + 10 * w + t) + j))) (a' := up a (58 + 10 * w + t) (min 100 (a (58 + 10 * w + t) + j))) hB hG hC hM (nI_pos (by omega)) (Nat.le_refl N) (hG.1.of_same (hW.up_lv hw ht (Nat.min_le_left _ _)) (up_ne (by omega)) (fun k' g1 g2 => up_ne (by omega))) (fun I' R' g => ?_) (fun J J' R' r1 r2 r3 r4 => ?_)
    · have g3 := f22 (I := up I bf (vI a)) (R := QR R nw bf h) (b := nw) (a := a) (by omega) hRS (bnw hC) hW hw ht ⟨j1, j2⟩
      simp (disch := first | omega | (show List.length _ ≤ 4; exact Nat.le_of_ble_eq_true rfl) | assumption | exact nbo_0 | exact nbo_1 | exact b2_b) only [FE55, s55_0, s55_1, s55_4, s55_5, s55_8, s55_11, s55_12, s55_13, s55_16, s55_17, s55_18, s55_19, s55_22, s55_25, ↓reduceIte, psh_some, psh_none, cln_i, cln_r, cln_n, cln_l, cln_d, cln_f, Option.bind_some, Option.bind_none, if_true, if_false, nI_add, pk_mul, nbo_0, nbo_1, nI_leI, nI_ltI, nI_eq, Nat.reduceAdd, Nat.reduceMul, Nat.add_zero, Nat.mul_zero, gd_0, gd_1, hbe, g3, g]
    · have g4 := f105 (I := J) (R := R') (x := nI w) (y := nI t) (z := nI j) r1 r2 hW
      rw [if_pos ⟨e1, e2⟩, if_pos e3] at g4
      have g5 := f106 (I := J') (R := R') (w := w) (t := t) (x := j) r1 r3 hW hw (by omega) j2
      simp (disch := first | omega | (show List.length _ ≤ 4; exact Nat.le_of_ble_eq_true rfl) | assumption | exact nbo_0 | exact nbo_1 | exact b2_b) only [FE104, s104_0, s104_1, s104_2, s104_3, s104_4, s104_7, s104_9, s104_11, s104_14, s104_16, s104_17, s104_18, s104_21, s104_22, s104_23, s104_24, s104_25, s104_28, ↓reduceIte, psh_some, psh_none, cln_i, cln_r, cln_n, cln_l, cln_d, cln_f, Option.bind_some, Option.bind_none, if_true, if_false, nI_add, pk_mul, nbo_0, nbo_1, nI_leI, nI_ltI, nI_eq, Nat.reduceAdd, Nat.reduceMul, Nat.add_zero, Nat.mul_zero, g4, g5, z0, z1, r4]
  · have g := f22e (I := up I bf (vI a)) (R := QR R nw bf h) (b := nw) (a := a) (x := x) (y := y) (z := z) (by omega) (bnw hC) e
    by_cases e1 : iT x 6 ∧ iT y (a 1)
    · have e2 : ¬ (¬ z < nI 1 ∧ ¬ nI 100 < z) := fun h => e ⟨e1, h⟩
      rw [if_pos e1] at g
      have hn : (-2 : Int32) < 0 := by decide
      refine chg_e (e := -2) hG hC hM ?_ (fun J hJ => ?_)
      · have g2 := f46e hn (M := (210, up I bf (vI a), QR R nw bf h))
        simp (disch := first | omega | (show List.length _ ≤ 4; exact Nat.le_of_ble_eq_true rfl) | assumption | exact nbo_0 | exact nbo_1 | exact b2_b) only [FE55, s55_0, s55_1, s55_4, s55_5, s55_8, s55_11, s55_12, s55_13, s55_16, s55_17, s55_18, s55_19, s55_22, s55_25, ↓reduceIte, psh_some, psh_none, cln_i, cln_r, cln_n, cln_l, cln_d, cln_f, Option.bind_some, Option.bind_none, if_true, if_false, nI_add, pk_mul, nbo_0, nbo_1, nI_leI, nI_ltI, nI_eq, Nat.reduceAdd, Nat.reduceMul, Nat.add_zero, Nat.mul_zero, gd_0, gd_1, hbe, g, g2]
      · have g4 := f105 (I := J) (R := QR R nw bf h) (x := x) (y := y) (z := z) hRM hJ hW
        rw [if_pos e1, if_neg e2] at g4
        simp (disch := first | omega | (show List.length _ ≤ 4; exact Nat.le_of_ble_eq_true rfl) | assumption | exact nbo_0 | exact nbo_1 | exact b2_b) only [FE104, s104_0, s104_1, s104_2, s104_3, s104_4, s104_7, s104_9, s104_11, s104_14, s104_16, s104_17, s104_18, s104_21, s104_22, s104_23, s104_24, s104_25, s104_28, ↓reduceIte, psh_some, psh_none, cln_i, cln_r, cln_n, cln_l, cln_d, cln_f, Option.bind_some, Option.bind_none, if_true, if_false, nI_add, pk_mul, nbo_0, nbo_1, nI_leI, nI_ltI, nI_eq, Nat.reduceAdd, Nat.reduceMul, Nat.add_zero, Nat.mul_zero, g4, zm2]
    · rw [if_neg e1] at g
      have hn : (-1 : Int32) < 0 := by decide
      refine chg_e (e := -1) hG hC hM ?_ (fun J hJ => ?_)
      · have g2 := f46e hn (M := (210, up I bf (vI a), QR R nw bf h))
        simp (disch := first | omega | (show List.length _ ≤ 4; exact Nat.le_of_ble_eq_true rfl) | assumption | exact nbo_0 | exact nbo_1 | exact b2_b) only [FE55, s55_0, s55_1, s55_4, s55_5, s55_8, s55_11, s55_12, s55_13, s55_16, s55_17, s55_18, s55_19, s55_22, s55_25, ↓reduceIte, psh_some, psh_none, cln_i, cln_r, cln_n, cln_l, cln_d, cln_f, Option.bind_some, Option.bind_none, if_true, if_false, nI_add, pk_mul, nbo_0, nbo_1, nI_leI, nI_ltI, nI_eq, Nat.reduceAdd, Nat.reduceMul, Nat.add_zero, Nat.mul_zero, gd_0, gd_1, hbe, g, g2]
      · have g4 := f105 (I := J) (R := QR R nw bf h) (x := x) (y := y) (z := z) hRM hJ hW
        rw [if_neg e1] at g4
        simp (disch := first | omega | (show List.length _ ≤ 4; exact Nat.le_of_ble_eq_true rfl) | assumption | exact nbo_0 | exact nbo_1 | exact b2_b) only [FE104, s104_0, s104_1, s104_2, s104_3, s104_4, s104_7, s104_9, s104_11, s104_14, s104_16, s104_17, s104_18, s104_21, s104_22, s104_23, s104_24, s104_25, s104_28, ↓reduceIte, psh_some, psh_none, cln_i, cln_r, cln_n, cln_l, cln_d, cln_f, Option.bind_some, Option.bind_none, if_true, if_false, nI_add, pk_mul, nbo_0, nbo_1, nI_leI, nI_ltI, nI_eq, Nat.reduceAdd, Nat.reduceMul, Nat.add_zero, Nat.mul_zero, g4, zm1]
theorem pr_call (hB : BR R) (hG : GL N a u p sl hd n q) (hC : CL I nw bf h a u p sl hd n q) (hM : ML I a u p sl hd n q) (hN : N < 2 ^ 30) (x : Int32) : PR R I (QR R nw bf h) N 56 [.ref 208, .int x] 109 [.ref 224, .int x] := by
  have h1 := hC.1.1
  have h2 := hC.1.2.1
  have hRS : RS (QR R nw bf h) := QR_RS hB.2.2.2.1
  have hbe := bef hB hG hC
  have ho := od
  have ho1 := os (b := bf) (by omega)
  have ho2 := os (b := nw) (by omega)
  have ho3 := om
  have hW := hG.1.1
  have hT := hW.tp
  have h0 : a 0 < 2 ^ 30 := Nat.lt_of_le_of_lt hG.1.2.1 hN
  have hRM : RM (QR R nw bf h) := QR_RM hB.2.2.2.2
  by_cases e : iT x (a 1) ∧ a (38 + x.toNatClampNeg) = 1 ∧ a (58 + 10 * frm a + x.toNatClampNeg) < a (58 + 10 * bst a x.toNatClampNeg + x.toNatClampNeg)
  · obtain ⟨e1, e2⟩ := e
    obtain ⟨t, ht, rfl⟩ := iT_nI (by omega) e1
    rw [nI_clamp (by omega)] at e2
    have hf : frm a < 6 := hW.ro _ (Nat.mod_lt _ (by decide))
    have hbt := bst_lt (a := a) (t := t)
    have l1 := hW.lv (frm a) t hf (by omega)
    have l2 := hW.lv (bst a t) t hbt (by omega)
    have hm : mnC a t ≤ 100 := by unfold mnC; omega
    refine chg (r := nI (mnC a t)) (a' := up (up a (58 + 10 * frm a + t) (mnC a t)) 12 (a 12 + a 7)) hB hG hC hM (nI_pos (by omega)) (Nat.le_refl N) (hG.1.of_same ((hW.up_lv hf ht hm).up_ct (by omega)) (by rw [up_ne (by omega), up_ne (by omega)]) (fun k' g1 g2 => by rw [up_ne (by omega), up_ne (by omega)])) (fun I' R' g => ?_) (fun J J' R' r1 r2 r3 r4 => ?_)
    · have g3 := f25 (I := up I bf (vI a)) (R := QR R nw bf h) (b := nw) (a := a) (by omega) hRS (bnw hC) hW h0 ht e2.1 e2.2
      simp (disch := first | omega | (show List.length _ ≤ 4; exact Nat.le_of_ble_eq_true rfl) | assumption | exact nbo_0 | exact nbo_1 | exact b2_b) only [FE56, s56_0, s56_1, s56_4, s56_5, s56_8, s56_11, s56_12, s56_13, s56_16, s56_17, s56_20, s56_23, ↓reduceIte, psh_some, psh_none, cln_i, cln_r, cln_n, cln_l, cln_d, cln_f, Option.bind_some, Option.bind_none, if_true, if_false, nI_add, pk_mul, nbo_0, nbo_1, nI_leI, nI_ltI, nI_eq, Nat.reduceAdd, Nat.reduceMul, Nat.add_zero, Nat.mul_zero, gd_0, gd_1, hbe, g3, g]
    · have g4 := f110 (I := J) (R := R') (x := nI t) r1 r2 hW h0
      rw [nI_clamp (by omega), if_pos e1, if_pos e2] at g4
      have g5 := f113 (I := J') (R := R') (t := t) r1 r3 hW h0 (by omega)
      simp (disch := first | omega | (show List.length _ ≤ 4; exact Nat.le_of_ble_eq_true rfl) | assumption | exact nbo_0 | exact nbo_1 | exact b2_b) only [FE109, s109_0, s109_1, s109_2, s109_5, s109_6, s109_7, s109_10, s109_11, s109_12, s109_13, s109_16, s109_17, s109_18, s109_21, ↓reduceIte, psh_some, psh_none, cln_i, cln_r, cln_n, cln_l, cln_d, cln_f, Option.bind_some, Option.bind_none, if_true, if_false, nI_add, pk_mul, nbo_0, nbo_1, nI_leI, nI_ltI, nI_eq, Nat.reduceAdd, Nat.reduceMul, Nat.add_zero, Nat.mul_zero, g4, g5, z0, z1, r4]
  · have g := f25e (I := up I bf (vI a)) (R := QR R nw bf h) (b := nw) (a := a) (x := x) (by omega) hRS (bnw hC) hW h0 e
    by_cases e1 : iT x (a 1)
    · rw [if_pos e1] at g
      have hn : (-5 : Int32) < 0 := by decide
      refine chg_e (e := -5) hG hC hM ?_ (fun J hJ => ?_)
      · have g2 := f46e hn (M := (210, up I bf (vI a), QR R nw bf h))
        simp (disch := first | omega | (show List.length _ ≤ 4; exact Nat.le_of_ble_eq_true rfl) | assumption | exact nbo_0 | exact nbo_1 | exact b2_b) only [FE56, s56_0, s56_1, s56_4, s56_5, s56_8, s56_11, s56_12, s56_13, s56_16, s56_17, s56_20, s56_23, ↓reduceIte, psh_some, psh_none, cln_i, cln_r, cln_n, cln_l, cln_d, cln_f, Option.bind_some, Option.bind_none, if_true, if_false, nI_add, pk_mul, nbo_0, nbo_1, nI_leI, nI_ltI, nI_eq, Nat.reduceAdd, Nat.reduceMul, Nat.add_zero, Nat.mul_zero, gd_0, gd_1, hbe, g, g2]
      · have g4 := f110 (I := J) (R := QR R nw bf h) (x := x) hRM hJ hW h0
        rw [if_pos e1, if_neg (fun h => e ⟨e1, h⟩)] at g4
        simp (disch := first | omega | (show List.length _ ≤ 4; exact Nat.le_of_ble_eq_true rfl) | assumption | exact nbo_0 | exact nbo_1 | exact b2_b) only [FE109, s109_0, s109_1, s109_2, s109_5, s109_6, s109_7, s109_10, s109_11, s109_12, s109_13, s109_16, s109_17, s109_18, s109_21, ↓reduceIte, psh_some, psh_none, cln_i, cln_r, cln_n, cln_l, cln_d, cln_f, Option.bind_some, Option.bind_none, if_true, if_false, nI_add, pk_mul, nbo_0, nbo_1, nI_leI, nI_ltI, nI_eq, Nat.reduceAdd, Nat.reduceMul, Nat.add_zero, Nat.mul_zero, g4, zm5]
    · rw [if_neg e1] at g
      have hn : (-1 : Int32) < 0 := by decide
      refine chg_e (e := -1) hG hC hM ?_ (fun J hJ => ?_)
      · have g2 := f46e hn (M := (210, up I bf (vI a), QR R nw bf h))
        simp (disch := first | omega | (show List.length _ ≤ 4; exact Nat.le_of_ble_eq_true rfl) | assumption | exact nbo_0 | exact nbo_1 | exact b2_b) only [FE56, s56_0, s56_1, s56_4, s56_5, s56_8, s56_11, s56_12, s56_13, s56_16, s56_17, s56_20, s56_23, ↓reduceIte, psh_some, psh_none, cln_i, cln_r, cln_n, cln_l, cln_d, cln_f, Option.bind_some, Option.bind_none, if_true, if_false, nI_add, pk_mul, nbo_0, nbo_1, nI_leI, nI_ltI, nI_eq, Nat.reduceAdd, Nat.reduceMul, Nat.add_zero, Nat.mul_zero, gd_0, gd_1, hbe, g, g2]
      · have g4 := f110 (I := J) (R := QR R nw bf h) (x := x) hRM hJ hW h0
        rw [if_neg e1] at g4
        simp (disch := first | omega | (show List.length _ ≤ 4; exact Nat.le_of_ble_eq_true rfl) | assumption | exact nbo_0 | exact nbo_1 | exact b2_b) only [FE109, s109_0, s109_1, s109_2, s109_5, s109_6, s109_7, s109_10, s109_11, s109_12, s109_13, s109_16, s109_17, s109_18, s109_21, ↓reduceIte, psh_some, psh_none, cln_i, cln_r, cln_n, cln_l, cln_d, cln_f, Option.bind_some, Option.bind_none, if_true, if_false, nI_add, pk_mul, nbo_0, nbo_1, nI_leI, nI_ltI, nI_eq, Nat.reduceAdd, Nat.reduceMul, Nat.add_zero, Nat.mul_zero, g4, zm1]
theorem ms_le {w : Nat} : ∀ d k (s : (Nat → Nat) × Nat), (fd (msF w) d k s).2 ≤ s.2 + d
  | 0, k, s => Nat.le_refl _
  | d + 1, k, s => by
    have h := ms_le (w := w) d (k + 1) (msF w k s)
    have h2 : (msF w k s).2 ≤ s.2 + 1 := by
      unfold msF
      by_cases e : s.1 (38 + s.1 (48 + k)) = 1 ∧ s.1 (58 + 10 * w + s.1 (48 + k)) < s.1 2
      · rw [if_pos e]; exact Nat.le_refl _
      · rw [if_neg e]; exact Nat.le_succ _
    show (fd (msF w) d (k + 1) (msF w k s)).2 ≤ _
    omega
theorem endP_le {m : Nat} (hW : WO a) : (endP m a).2 ≤ 10 := by
  have hf : frm a < 6 := hW.ro _ (Nat.mod_lt _ (by decide))
  have ht : too a < 6 := hW.ro _ (Nat.mod_lt _ (by decide))
  have k1 := wkA_ok hW
  have k2 := hands_ok (n := m) hf ht k1.1
  have k3 : WO (shN (hands (frm a) (too a) m (wkA a))) := k2.1.up_ct (by omega)
  have k4 := dcA_ok (t := too a) k3
  have k5 := bgA_ok (t := too a) (n := a 1) k4.1 hW.tp
  have h := ms_le (w := too a) ((fd (bgF (too a)) (a 1) 0 (dcA (too a) (shN (hands (frm a) (too a) m (wkA a))))) 13) 0 (fd (bgF (too a)) (a 1) 0 (dcA (too a) (shN (hands (frm a) (too a) m (wkA a)))), 0)
  have hl := k5.1.li
  have : (endP m a).2 ≤ 0 + (fd (bgF (too a)) (a 1) 0 (dcA (too a) (shN (hands (frm a) (too a) m (wkA a))))) 13 := h
  omega
theorem pr_end (hB : BR R) (hG : GL N a u p sl hd n q) (hC : CL I nw bf h a u p sl hd n q) (hM : ML I a u p sl hd n q) (hN : N < 2 ^ 30) : PR R I (QR R nw bf h) (N + 1) 57 [.ref 208] 114 [.ref 224] := by
  have h1 := hC.1.1
  have h2 := hC.1.2.1
  have hRS : RS (QR R nw bf h) := QR_RS hB.2.2.2.1
  have hbe := bef hB hG hC
  have ho := od
  have ho1 := os (b := bf) (by omega)
  have ho2 := os (b := nw) (by omega)
  have ho3 := om
  have hW := hG.1.1
  have h0 : a 0 < 2 ^ 30 := Nat.lt_of_le_of_lt hG.1.2.1 hN
  have hmi := hW.mi (a 0 % 12) (Nat.mod_lt _ (by decide))
  have hle := endP_le (m := a (26 + a 0 % 12)) hW
  refine chg (r := nI (endP (a (26 + a 0 % 12)) a).2) (a' := tot (endP (a (26 + a 0 % 12)) a)) hB hG hC hM (nI_pos (by omega)) (Nat.le_succ N) (endP_ok hG.1) (fun I' R' g => ?_) (fun J J' R' r1 r2 r3 r4 => ?_)
  · have g2 := f28 (I := up I bf (vI a)) (R := QR R nw bf h) (b := nw) (a := a) (by omega) hRS (bnw hC) h0
    have g3 := f29 (I := up I bf (vI a)) (R := QR R nw bf h) (b := nw) (a := a) (n := a (26 + a 0 % 12)) (by omega) hRS (bnw hC) hW h0 (by omega)
    simp (disch := first | omega | (show List.length _ ≤ 4; exact Nat.le_of_ble_eq_true rfl) | assumption | exact nbo_0 | exact nbo_1 | exact b2_b) only [FE57, s57_0, s57_1, s57_4, s57_5, s57_8, s57_11, s57_12, s57_13, s57_16, s57_17, s57_20, s57_23, s57_26, s57_29, ↓reduceIte, psh_some, psh_none, cln_i, cln_r, cln_n, cln_l, cln_d, cln_f, Option.bind_some, Option.bind_none, if_true, if_false, nI_add, pk_mul, nbo_0, nbo_1, nI_leI, nI_ltI, nI_eq, Nat.reduceAdd, Nat.reduceMul, Nat.add_zero, Nat.mul_zero, gd_0, gd_1, hbe, g2, g3, g]
  · have g5 := f115 (v := 225) (I := J') (R := R') (Or.inl rfl) r3 hW h0
    simp (disch := first | omega | (show List.length _ ≤ 4; exact Nat.le_of_ble_eq_true rfl) | assumption | exact nbo_0 | exact nbo_1 | exact b2_b) only [FE114, s114_0, s114_1, s114_4, s114_5, s114_8, s114_11, ↓reduceIte, psh_some, psh_none, cln_i, cln_r, cln_n, cln_l, cln_d, cln_f, Option.bind_some, Option.bind_none, if_true, if_false, nI_add, pk_mul, nbo_0, nbo_1, nI_leI, nI_ltI, nI_eq, Nat.reduceAdd, Nat.reduceMul, Nat.add_zero, Nat.mul_zero, gm_0 r1, r4, g5]
end CK2
