/-! ===== the other changes ===== -/
section CJ
variable {I : Nat → Nat → Int32} {R : Nat → Nat → Option Nat} {nw bf u n N : Nat} {h hd q : Nat → Nat} {p sl : Nat → Nat → Nat} {a : Nat → Nat}
theorem bnw (hC : CL I nw bf h a u p sl hd n q) : up I bf (vI a) nw = vI a := by rw [up_ne hC.1.2.2.1]; exact hC.2.1
theorem zm1 : ((-1 : Int32) = 0) = False := eq_false (by decide)
theorem zm2 : ((-2 : Int32) = 0) = False := eq_false (by decide)
theorem zm5 : ((-5 : Int32) = 0) = False := eq_false (by decide)
theorem pr_roster (hB : BR R) (hG : GL N a u p sl hd n q) (hC : CL I nw bf h a u p sl hd n q) (hM : ML I a u p sl hd n q) (x y : Int32) : PR R I (QR R nw bf h) N 48 [.ref 208, .int x, .int y] 89 [.ref 224, .int x, .int y] := by
  have h1 := hC.1.1
  have h2 := hC.1.2.1
  have hRS : RS (QR R nw bf h) := QR_RS hB.2.2.2.1
  have hbe := bef hB hG hC
  have ho := od
  have ho1 := os (b := bf) (by omega)
  have ho2 := os (b := nw) (by omega)
  have ho3 := om
  have hW := hG.1.1
  by_cases e : iT y 6 ∧ iT x 12
  · obtain ⟨e1, e2⟩ := e
    obtain ⟨j, hj, rfl⟩ := iT_nI (by decide) e1
    obtain ⟨k, hk, rfl⟩ := iT_nI (by decide) e2
    have w := hW.ro k hk
    refine chg (r := nI (a (14 + k))) (a' := up a (14 + k) j) hB hG hC hM (nI_pos (by omega)) (Nat.le_refl N) (hG.1.of_same (hW.up1 (by omega) (by omega) (by omega) (by omega) (by omega) (by omega) (by omega) (by omega) (by omega) (by omega)) (up_ne (by omega)) (fun k' g1 g2 => up_ne (by omega))) (fun I' R' g => ?_) (fun J J' R' r1 r2 r3 r4 => ?_)
    · have g3 := f14 (I := up I bf (vI a)) (R := QR R nw bf h) (b := nw) (a := a) (by omega) hRS (bnw hC) hj hk
      simp (disch := first | omega | (show List.length _ ≤ 4; exact Nat.le_of_ble_eq_true rfl) | assumption | exact nbo_0 | exact nbo_1 | exact b2_b) only [FE48, s48_0, s48_1, s48_4, s48_5, s48_8, s48_11, s48_12, s48_13, s48_16, s48_17, s48_18, s48_21, s48_24, ↓reduceIte, psh_some, psh_none, cln_i, cln_r, cln_n, cln_l, cln_d, cln_f, Option.bind_some, Option.bind_none, if_true, if_false, nI_add, pk_mul, nbo_0, nbo_1, nI_leI, nI_ltI, nI_eq, Nat.reduceAdd, Nat.reduceMul, Nat.add_zero, Nat.mul_zero, gd_0, gd_1, hbe, g3, g]
    · have g4 := f90 (M := (210, J, R')) (x := nI k) (y := nI j)
      rw [if_pos e1, if_pos e2] at g4
      have g5 := f93 (I := J') (R := R') (k := 14 + k) (x := j) r1 r3 (by omega)
      simp (disch := first | omega | (show List.length _ ≤ 4; exact Nat.le_of_ble_eq_true rfl) | assumption | exact nbo_0 | exact nbo_1 | exact b2_b) only [FE89, s89_0, s89_1, s89_2, s89_5, s89_6, s89_7, s89_10, s89_11, s89_12, s89_13, s89_16, s89_17, s89_19, s89_20, s89_21, s89_22, s89_25, ↓reduceIte, psh_some, psh_none, cln_i, cln_r, cln_n, cln_l, cln_d, cln_f, Option.bind_some, Option.bind_none, if_true, if_false, nI_add, pk_mul, nbo_0, nbo_1, nI_leI, nI_ltI, nI_eq, Nat.reduceAdd, Nat.reduceMul, Nat.add_zero, Nat.mul_zero, g4, g5, z0, z1, r4]
  · have g := f14e (I := up I bf (vI a)) (R := QR R nw bf h) (b := nw) (x := x) (y := y) (by omega) e
    by_cases e1 : iT y 6
    · have e2 : ¬ iT x 12 := fun h => e ⟨e1, h⟩
      rw [if_pos e1] at g
      have hn : (-2 : Int32) < 0 := by decide
      refine chg_e (e := -2) hG hC hM ?_ (fun J hJ => ?_)
      · have g2 := f46e hn (M := (210, up I bf (vI a), QR R nw bf h))
        simp (disch := first | omega | (show List.length _ ≤ 4; exact Nat.le_of_ble_eq_true rfl) | assumption | exact nbo_0 | exact nbo_1 | exact b2_b) only [FE48, s48_0, s48_1, s48_4, s48_5, s48_8, s48_11, s48_12, s48_13, s48_16, s48_17, s48_18, s48_21, s48_24, ↓reduceIte, psh_some, psh_none, cln_i, cln_r, cln_n, cln_l, cln_d, cln_f, Option.bind_some, Option.bind_none, if_true, if_false, nI_add, pk_mul, nbo_0, nbo_1, nI_leI, nI_ltI, nI_eq, Nat.reduceAdd, Nat.reduceMul, Nat.add_zero, Nat.mul_zero, gd_0, gd_1, hbe, g, g2]
      · have g4 := f90 (M := (210, J, QR R nw bf h)) (x := x) (y := y)
        rw [if_pos e1, if_neg e2] at g4
        simp (disch := first | omega | (show List.length _ ≤ 4; exact Nat.le_of_ble_eq_true rfl) | assumption | exact nbo_0 | exact nbo_1 | exact b2_b) only [FE89, s89_0, s89_1, s89_2, s89_5, s89_6, s89_7, s89_10, s89_11, s89_12, s89_13, s89_16, s89_17, s89_19, s89_20, s89_21, s89_22, s89_25, ↓reduceIte, psh_some, psh_none, cln_i, cln_r, cln_n, cln_l, cln_d, cln_f, Option.bind_some, Option.bind_none, if_true, if_false, nI_add, pk_mul, nbo_0, nbo_1, nI_leI, nI_ltI, nI_eq, Nat.reduceAdd, Nat.reduceMul, Nat.add_zero, Nat.mul_zero, g4, zm2]
    · rw [if_neg e1] at g
      have hn : (-1 : Int32) < 0 := by decide
      refine chg_e (e := -1) hG hC hM ?_ (fun J hJ => ?_)
      · have g2 := f46e hn (M := (210, up I bf (vI a), QR R nw bf h))
        simp (disch := first | omega | (show List.length _ ≤ 4; exact Nat.le_of_ble_eq_true rfl) | assumption | exact nbo_0 | exact nbo_1 | exact b2_b) only [FE48, s48_0, s48_1, s48_4, s48_5, s48_8, s48_11, s48_12, s48_13, s48_16, s48_17, s48_18, s48_21, s48_24, ↓reduceIte, psh_some, psh_none, cln_i, cln_r, cln_n, cln_l, cln_d, cln_f, Option.bind_some, Option.bind_none, if_true, if_false, nI_add, pk_mul, nbo_0, nbo_1, nI_leI, nI_ltI, nI_eq, Nat.reduceAdd, Nat.reduceMul, Nat.add_zero, Nat.mul_zero, gd_0, gd_1, hbe, g, g2]
      · have g4 := f90 (M := (210, J, QR R nw bf h)) (x := x) (y := y)
        rw [if_neg e1] at g4
        simp (disch := first | omega | (show List.length _ ≤ 4; exact Nat.le_of_ble_eq_true rfl) | assumption | exact nbo_0 | exact nbo_1 | exact b2_b) only [FE89, s89_0, s89_1, s89_2, s89_5, s89_6, s89_7, s89_10, s89_11, s89_12, s89_13, s89_16, s89_17, s89_19, s89_20, s89_21, s89_22, s89_25, ↓reduceIte, psh_some, psh_none, cln_i, cln_r, cln_n, cln_l, cln_d, cln_f, Option.bind_some, Option.bind_none, if_true, if_false, nI_add, pk_mul, nbo_0, nbo_1, nI_leI, nI_ltI, nI_eq, Nat.reduceAdd, Nat.reduceMul, Nat.add_zero, Nat.mul_zero, g4, zm1]
theorem pr_minutes (hB : BR R) (hG : GL N a u p sl hd n q) (hC : CL I nw bf h a u p sl hd n q) (hM : ML I a u p sl hd n q) (x y : Int32) : PR R I (QR R nw bf h) N 51 [.ref 208, .int x, .int y] 94 [.ref 224, .int x, .int y] := by
  have h1 := hC.1.1
  have h2 := hC.1.2.1
  have hRS : RS (QR R nw bf h) := QR_RS hB.2.2.2.1
  have hbe := bef hB hG hC
  have ho := od
  have ho1 := os (b := bf) (by omega)
  have ho2 := os (b := nw) (by omega)
  have ho3 := om
  have hW := hG.1.1
  by_cases e : iT x 12 ∧ iT y 61
  · obtain ⟨e1, e2⟩ := e
    obtain ⟨k, hk, rfl⟩ := iT_nI (by decide) e1
    obtain ⟨j, hj, rfl⟩ := iT_nI (by decide) e2
    have w := hW.mi k hk
    refine chg (r := nI (a (26 + k))) (a' := up a (26 + k) j) hB hG hC hM (nI_pos (by omega)) (Nat.le_refl N) (hG.1.of_same (hW.up1 (by omega) (by omega) (by omega) (by omega) (by omega) (by omega) (by omega) (by omega) (by omega) (by omega)) (up_ne (by omega)) (fun k' g1 g2 => up_ne (by omega))) (fun I' R' g => ?_) (fun J J' R' r1 r2 r3 r4 => ?_)
    · have g3 := f15 (I := up I bf (vI a)) (R := QR R nw bf h) (b := nw) (a := a) (by omega) hRS (bnw hC) hk hj
      simp (disch := first | omega | (show List.length _ ≤ 4; exact Nat.le_of_ble_eq_true rfl) | assumption | exact nbo_0 | exact nbo_1 | exact b2_b) only [FE51, s51_0, s51_1, s51_4, s51_5, s51_8, s51_11, s51_12, s51_13, s51_16, s51_17, s51_18, s51_21, s51_24, ↓reduceIte, psh_some, psh_none, cln_i, cln_r, cln_n, cln_l, cln_d, cln_f, Option.bind_some, Option.bind_none, if_true, if_false, nI_add, pk_mul, nbo_0, nbo_1, nI_leI, nI_ltI, nI_eq, Nat.reduceAdd, Nat.reduceMul, Nat.add_zero, Nat.mul_zero, gd_0, gd_1, hbe, g3, g]
    · have g4 := f95 (M := (210, J, R')) (x := nI k) (y := nI j)
      rw [if_pos ⟨e1, e2⟩] at g4
      have g5 := f93 (I := J') (R := R') (k := 26 + k) (x := j) r1 r3 (by omega)
      simp (disch := first | omega | (show List.length _ ≤ 4; exact Nat.le_of_ble_eq_true rfl) | assumption | exact nbo_0 | exact nbo_1 | exact b2_b) only [FE94, s94_0, s94_1, s94_2, s94_5, s94_6, s94_7, s94_10, s94_11, s94_12, s94_13, s94_16, s94_17, s94_19, s94_20, s94_21, s94_22, s94_25, ↓reduceIte, psh_some, psh_none, cln_i, cln_r, cln_n, cln_l, cln_d, cln_f, Option.bind_some, Option.bind_none, if_true, if_false, nI_add, pk_mul, nbo_0, nbo_1, nI_leI, nI_ltI, nI_eq, Nat.reduceAdd, Nat.reduceMul, Nat.add_zero, Nat.mul_zero, g4, g5, z0, z1, r4]
  · have g := f15e (I := up I bf (vI a)) (R := QR R nw bf h) (b := nw) (x := x) (y := y) (by omega) e
    have hn : (-2 : Int32) < 0 := by decide
    refine chg_e (e := -2) hG hC hM ?_ (fun J hJ => ?_)
    · have g2 := f46e hn (M := (210, up I bf (vI a), QR R nw bf h))
      simp (disch := first | omega | (show List.length _ ≤ 4; exact Nat.le_of_ble_eq_true rfl) | assumption | exact nbo_0 | exact nbo_1 | exact b2_b) only [FE51, s51_0, s51_1, s51_4, s51_5, s51_8, s51_11, s51_12, s51_13, s51_16, s51_17, s51_18, s51_21, s51_24, ↓reduceIte, psh_some, psh_none, cln_i, cln_r, cln_n, cln_l, cln_d, cln_f, Option.bind_some, Option.bind_none, if_true, if_false, nI_add, pk_mul, nbo_0, nbo_1, nI_leI, nI_ltI, nI_eq, Nat.reduceAdd, Nat.reduceMul, Nat.add_zero, Nat.mul_zero, gd_0, gd_1, hbe, g, g2]
    · have g4 := f95 (M := (210, J, QR R nw bf h)) (x := x) (y := y)
      rw [if_neg e] at g4
      simp (disch := first | omega | (show List.length _ ≤ 4; exact Nat.le_of_ble_eq_true rfl) | assumption | exact nbo_0 | exact nbo_1 | exact b2_b) only [FE94, s94_0, s94_1, s94_2, s94_5, s94_6, s94_7, s94_10, s94_11, s94_12, s94_13, s94_16, s94_17, s94_19, s94_20, s94_21, s94_22, s94_25, ↓reduceIte, psh_some, psh_none, cln_i, cln_r, cln_n, cln_l, cln_d, cln_f, Option.bind_some, Option.bind_none, if_true, if_false, nI_add, pk_mul, nbo_0, nbo_1, nI_leI, nI_ltI, nI_eq, Nat.reduceAdd, Nat.reduceMul, Nat.add_zero, Nat.mul_zero, g4, zm2]
theorem pr_open (hB : BR R) (hG : GL N a u p sl hd n q) (hC : CL I nw bf h a u p sl hd n q) (hM : ML I a u p sl hd n q) : PR R I (QR R nw bf h) N 52 [.ref 208] 96 [.ref 224] := by
  have h1 := hC.1.1
  have h2 := hC.1.2.1
  have hRS : RS (QR R nw bf h) := QR_RS hB.2.2.2.1
  have hbe := bef hB hG hC
  have ho := od
  have ho1 := os (b := bf) (by omega)
  have ho2 := os (b := nw) (by omega)
  have ho3 := om
  have hW := hG.1.1
  have hT := hW.tp
  have hv : (225 : Nat) = 225 ∨ (225 : Nat) = 226 := Or.inl rfl
  by_cases e : a 1 < 10
  · refine chg (r := nI (a 1)) (a' := up (up a (38 + a 1) 1) 1 (a 1 + 1)) hB hG hC hM (nI_pos (by omega)) (Nat.le_refl N) (hG.1.of_same (hW.come e) (by rw [up_ne (by omega), up_ne (by omega)]) (fun k' g1 g2 => by rw [up_ne (by omega), up_ne (by omega)])) (fun I' R' g => ?_) (fun J J' R' r1 r2 r3 r4 => ?_)
    · have g3 := f16 (I := up I bf (vI a)) (R := QR R nw bf h) (b := nw) (a := a) (by omega) (bnw hC) hW e
      simp (disch := first | omega | (show List.length _ ≤ 4; exact Nat.le_of_ble_eq_true rfl) | assumption | exact nbo_0 | exact nbo_1 | exact b2_b) only [FE52, s52_0, s52_1, s52_4, s52_5, s52_8, s52_11, s52_12, s52_13, s52_16, s52_19, s52_22, ↓reduceIte, psh_some, psh_none, cln_i, cln_r, cln_n, cln_l, cln_d, cln_f, Option.bind_some, Option.bind_none, if_true, if_false, nI_add, pk_mul, nbo_0, nbo_1, nI_leI, nI_ltI, nI_eq, Nat.reduceAdd, Nat.reduceMul, Nat.add_zero, Nat.mul_zero, gd_0, gd_1, hbe, g3, g]
    · have g5 := f97 (I := J') (R := R') r1 r3 hW e
      have en : ¬ a 1 = 10 := by omega
      have hs : nI (a 1 + 1) - nI 1 = nI (a 1) := by rw [nI_sub (by omega)]; rfl
      simp (disch := first | omega | (show List.length _ ≤ 4; exact Nat.le_of_ble_eq_true rfl) | assumption | exact nbo_0 | exact nbo_1 | exact b2_b) only [FE96, s96_0, s96_1, s96_4, s96_5, s96_6, s96_8, s96_11, s96_13, s96_14, s96_15, s96_18, s96_19, s96_22, s96_23, s96_26, s96_27, s96_28, s96_29, s96_30, ↓reduceIte, psh_some, psh_none, cln_i, cln_r, cln_n, cln_l, cln_d, cln_f, Option.bind_some, Option.bind_none, if_true, if_false, nI_add, pk_mul, nbo_0, nbo_1, nI_leI, nI_ltI, nI_eq, Nat.reduceAdd, Nat.reduceMul, Nat.add_zero, Nat.mul_zero, up_at, up_up, up_vI, vI_at, gm_0 r1, am_n hv, r2, g5, r4, en, hs]
  · have e10 : a 1 = 10 := by omega
    have g := f16e (I := up I bf (vI a)) (R := QR R nw bf h) (b := nw) (a := a) (by omega) (bnw hC) e10
    have hn : (-4 : Int32) < 0 := by decide
    refine chg_e (e := -4) hG hC hM ?_ (fun J hJ => ?_)
    · have g2 := f46e hn (M := (210, up I bf (vI a), QR R nw bf h))
      simp (disch := first | omega | (show List.length _ ≤ 4; exact Nat.le_of_ble_eq_true rfl) | assumption | exact nbo_0 | exact nbo_1 | exact b2_b) only [FE52, s52_0, s52_1, s52_4, s52_5, s52_8, s52_11, s52_12, s52_13, s52_16, s52_19, s52_22, ↓reduceIte, psh_some, psh_none, cln_i, cln_r, cln_n, cln_l, cln_d, cln_f, Option.bind_some, Option.bind_none, if_true, if_false, nI_add, pk_mul, nbo_0, nbo_1, nI_leI, nI_ltI, nI_eq, Nat.reduceAdd, Nat.reduceMul, Nat.add_zero, Nat.mul_zero, gd_0, gd_1, hbe, g, g2]
    · have hRM : RM (QR R nw bf h) := QR_RM hB.2.2.2.2
      simp (disch := first | omega | (show List.length _ ≤ 4; exact Nat.le_of_ble_eq_true rfl) | assumption | exact nbo_0 | exact nbo_1 | exact b2_b) only [FE96, s96_0, s96_1, s96_4, s96_5, s96_6, s96_8, s96_11, s96_13, s96_14, s96_15, s96_18, s96_19, s96_22, s96_23, s96_26, s96_27, s96_28, s96_29, s96_30, ↓reduceIte, psh_some, psh_none, cln_i, cln_r, cln_n, cln_l, cln_d, cln_f, Option.bind_some, Option.bind_none, if_true, if_false, nI_add, pk_mul, nbo_0, nbo_1, nI_leI, nI_ltI, nI_eq, Nat.reduceAdd, Nat.reduceMul, Nat.add_zero, Nat.mul_zero, gm_0 hRM, am_n hv, hJ, vI_at, e10]
theorem pr_turn (hB : BR R) (hG : GL N a u p sl hd n q) (hC : CL I nw bf h a u p sl hd n q) (hM : ML I a u p sl hd n q) (x : Int32) : PR R I (QR R nw bf h) N 53 [.ref 208, .int x] 98 [.ref 224, .int x] := by
  have h1 := hC.1.1
  have h2 := hC.1.2.1
  have hRS : RS (QR R nw bf h) := QR_RS hB.2.2.2.1
  have hbe := bef hB hG hC
  have ho := od
  have ho1 := os (b := bf) (by omega)
  have ho2 := os (b := nw) (by omega)
  have ho3 := om
  have hW := hG.1.1
  have hT := hW.tp
  by_cases e : iT x (a 1)
  · obtain ⟨t, ht, rfl⟩ := iT_nI (by omega) e
    refine chg (r := nI (1 - a (38 + t))) (a' := up a (38 + t) (1 - a (38 + t))) hB hG hC hM (nI_pos (by omega)) (Nat.le_refl N) (hG.1.of_same (hW.turned ht) (up_ne (by omega)) (fun k' g1 g2 => up_ne (by omega))) (fun I' R' g => ?_) (fun J J' R' r1 r2 r3 r4 => ?_)
    · have g3 := f17 (I := up I bf (vI a)) (R := QR R nw bf h) (b := nw) (a := a) (by omega) (bnw hC) hW ht
      simp (disch := first | omega | (show List.length _ ≤ 4; exact Nat.le_of_ble_eq_true rfl) | assumption | exact nbo_0 | exact nbo_1 | exact b2_b) only [FE53, s53_0, s53_1, s53_4, s53_5, s53_8, s53_11, s53_12, s53_13, s53_16, s53_17, s53_20, s53_23, ↓reduceIte, psh_some, psh_none, cln_i, cln_r, cln_n, cln_l, cln_d, cln_f, Option.bind_some, Option.bind_none, if_true, if_false, nI_add, pk_mul, nbo_0, nbo_1, nI_leI, nI_ltI, nI_eq, Nat.reduceAdd, Nat.reduceMul, Nat.add_zero, Nat.mul_zero, gd_0, gd_1, hbe, g3, g]
    · have g4 := f99 (I := J) (R := R') (x := nI t) r1 r2 hW
      rw [b2_t e] at g4
      have g5 := f100 (I := J') (R := R') (t := t) r1 r3 hW (by omega)
      simp (disch := first | omega | (show List.length _ ≤ 4; exact Nat.le_of_ble_eq_true rfl) | assumption | exact nbo_0 | exact nbo_1 | exact b2_b) only [FE98, s98_0, s98_1, s98_2, s98_5, s98_8, s98_9, s98_10, s98_11, s98_14, s98_15, s98_16, s98_19, ↓reduceIte, psh_some, psh_none, cln_i, cln_r, cln_n, cln_l, cln_d, cln_f, Option.bind_some, Option.bind_none, if_true, if_false, nI_add, pk_mul, nbo_0, nbo_1, nI_leI, nI_ltI, nI_eq, Nat.reduceAdd, Nat.reduceMul, Nat.add_zero, Nat.mul_zero, g4, g5, z0, z1, r4]
  · have g := f17e (I := up I bf (vI a)) (R := QR R nw bf h) (b := nw) (a := a) (x := x) (by omega) (bnw hC) e
    have hn : (-1 : Int32) < 0 := by decide
    refine chg_e (e := -1) hG hC hM ?_ (fun J hJ => ?_)
    · have g2 := f46e hn (M := (210, up I bf (vI a), QR R nw bf h))
      simp (disch := first | omega | (show List.length _ ≤ 4; exact Nat.le_of_ble_eq_true rfl) | assumption | exact nbo_0 | exact nbo_1 | exact b2_b) only [FE53, s53_0, s53_1, s53_4, s53_5, s53_8, s53_11, s53_12, s53_13, s53_16, s53_17, s53_20, s53_23, ↓reduceIte, psh_some, psh_none, cln_i, cln_r, cln_n, cln_l, cln_d, cln_f, Option.bind_some, Option.bind_none, if_true, if_false, nI_add, pk_mul, nbo_0, nbo_1, nI_leI, nI_ltI, nI_eq, Nat.reduceAdd, Nat.reduceMul, Nat.add_zero, Nat.mul_zero, gd_0, gd_1, hbe, g, g2]
    · have g4 := f99 (I := J) (R := QR R nw bf h) (x := x) (QR_RM hB.2.2.2.2) hJ hW
      rw [b2_f e] at g4
      simp (disch := first | omega | (show List.length _ ≤ 4; exact Nat.le_of_ble_eq_true rfl) | assumption | exact nbo_0 | exact nbo_1 | exact b2_b) only [FE98, s98_0, s98_1, s98_2, s98_5, s98_8, s98_9, s98_10, s98_11, s98_14, s98_15, s98_16, s98_19, ↓reduceIte, psh_some, psh_none, cln_i, cln_r, cln_n, cln_l, cln_d, cln_f, Option.bind_some, Option.bind_none, if_true, if_false, nI_add, pk_mul, nbo_0, nbo_1, nI_leI, nI_ltI, nI_eq, Nat.reduceAdd, Nat.reduceMul, Nat.add_zero, Nat.mul_zero, g4, z0]
theorem pr_check (hB : BR R) (hG : GL N a u p sl hd n q) (hC : CL I nw bf h a u p sl hd n q) (hM : ML I a u p sl hd n q) (x : Int32) : PR R I (QR R nw bf h) N 54 [.ref 208, .int x] 101 [.ref 224, .int x] := by
  have h1 := hC.1.1
  have h2 := hC.1.2.1
  have hRS : RS (QR R nw bf h) := QR_RS hB.2.2.2.1
  have hbe := bef hB hG hC
  have ho := od
  have ho1 := os (b := bf) (by omega)
  have ho2 := os (b := nw) (by omega)
  have ho3 := om
  have hW := hG.1.1
  have hT := hW.tp
  by_cases e : iT x (a 1)
  · obtain ⟨t, ht, rfl⟩ := iT_nI (by omega) e
    have hk := chk_ok hW ht
    have hl := hk.1.li
    refine chg (r := nI (chk a t 13)) (a' := chk a t) hB hG hC hM (nI_pos (by omega)) (Nat.le_refl N) (hG.1.of_same hk.1 (hk.2 0 (by omega) (by omega)) (fun k' g1 g2 => hk.2 k' (by omega) (by omega))) (fun I' R' g => ?_) (fun J J' R' r1 r2 r3 r4 => ?_)
    · have g3 := f20 (I := up I bf (vI a)) (R := QR R nw bf h) (b := nw) (a := a) (by omega) hRS (bnw hC) hW ht
      simp (disch := first | omega | (show List.length _ ≤ 4; exact Nat.le_of_ble_eq_true rfl) | assumption | exact nbo_0 | exact nbo_1 | exact b2_b) only [FE54, s54_0, s54_1, s54_4, s54_5, s54_8, s54_11, s54_12, s54_13, s54_16, s54_17, s54_20, s54_23, ↓reduceIte, psh_some, psh_none, cln_i, cln_r, cln_n, cln_l, cln_d, cln_f, Option.bind_some, Option.bind_none, if_true, if_false, nI_add, pk_mul, nbo_0, nbo_1, nI_leI, nI_ltI, nI_eq, Nat.reduceAdd, Nat.reduceMul, Nat.add_zero, Nat.mul_zero, gd_0, gd_1, hbe, g3, g]
    · have g4 := f99 (I := J) (R := R') (x := nI t) r1 r2 hW
      rw [b2_t e] at g4
      have g5 := f102 (I := J') (R := R') (t := t) r1 r3 hW ht
      simp (disch := first | omega | (show List.length _ ≤ 4; exact Nat.le_of_ble_eq_true rfl) | assumption | exact nbo_0 | exact nbo_1 | exact b2_b) only [FE101, s101_0, s101_1, s101_2, s101_5, s101_8, s101_9, s101_10, s101_11, s101_14, s101_15, s101_16, s101_19, ↓reduceIte, psh_some, psh_none, cln_i, cln_r, cln_n, cln_l, cln_d, cln_f, Option.bind_some, Option.bind_none, if_true, if_false, nI_add, pk_mul, nbo_0, nbo_1, nI_leI, nI_ltI, nI_eq, Nat.reduceAdd, Nat.reduceMul, Nat.add_zero, Nat.mul_zero, g4, g5, z0, z1, r4]
  · have g := f20e (I := up I bf (vI a)) (R := QR R nw bf h) (b := nw) (a := a) (x := x) (by omega) (bnw hC) e
    have hn : (-1 : Int32) < 0 := by decide
    refine chg_e (e := -1) hG hC hM ?_ (fun J hJ => ?_)
    · have g2 := f46e hn (M := (210, up I bf (vI a), QR R nw bf h))
      simp (disch := first | omega | (show List.length _ ≤ 4; exact Nat.le_of_ble_eq_true rfl) | assumption | exact nbo_0 | exact nbo_1 | exact b2_b) only [FE54, s54_0, s54_1, s54_4, s54_5, s54_8, s54_11, s54_12, s54_13, s54_16, s54_17, s54_20, s54_23, ↓reduceIte, psh_some, psh_none, cln_i, cln_r, cln_n, cln_l, cln_d, cln_f, Option.bind_some, Option.bind_none, if_true, if_false, nI_add, pk_mul, nbo_0, nbo_1, nI_leI, nI_ltI, nI_eq, Nat.reduceAdd, Nat.reduceMul, Nat.add_zero, Nat.mul_zero, gd_0, gd_1, hbe, g, g2]
    · have g4 := f99 (I := J) (R := QR R nw bf h) (x := x) (QR_RM hB.2.2.2.2) hJ hW
      rw [b2_f e] at g4
      simp (disch := first | omega | (show List.length _ ≤ 4; exact Nat.le_of_ble_eq_true rfl) | assumption | exact nbo_0 | exact nbo_1 | exact b2_b) only [FE101, s101_0, s101_1, s101_2, s101_5, s101_8, s101_9, s101_10, s101_11, s101_14, s101_15, s101_16, s101_19, ↓reduceIte, psh_some, psh_none, cln_i, cln_r, cln_n, cln_l, cln_d, cln_f, Option.bind_some, Option.bind_none, if_true, if_false, nI_add, pk_mul, nbo_0, nbo_1, nI_leI, nI_ltI, nI_eq, Nat.reduceAdd, Nat.reduceMul, Nat.add_zero, Nat.mul_zero, g4, z0]
end CJ
