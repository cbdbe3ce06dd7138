/-! ===== a call of both ===== -/
theorem rng {y : Int32} {lo hi : Nat} (hl : lo < 2 ^ 30) (hh : hi < 2 ^ 30) (h1 : ¬ y < nI lo) (h2 : ¬ nI hi < y) : ∃ j, lo ≤ j ∧ j ≤ hi ∧ y = nI j := by
  rw [Int32.lt_iff_toInt_lt, nI_toInt (by omega)] at h1 h2
  have h0 : ¬ y < 0 := by
    rw [Int32.lt_iff_toInt_lt]
    show ¬ y.toInt < 0
    omega
  obtain ⟨j, hj, rfl⟩ := nI_of h0
  rw [nI_toInt hj] at h1 h2
  exact ⟨j, by omega, by omega, rfl⟩
theorem sOk_n {k : Nat} {y : Int32} (hk : k < 6) (h : sOk k y) : ∃ j, y = nI j ∧ j ≤ 999 ∧ (k = 0 → 1 ≤ j ∧ j ≤ 100) ∧ (k = 1 → 1 ≤ j ∧ j ≤ 20) ∧ (k = 2 → j ≤ 50) ∧ (k = 3 → j ≤ 20) ∧ (k = 4 → j ≤ 99) := by
  rcases (show k = 0 ∨ k = 1 ∨ k = 2 ∨ k = 3 ∨ k = 4 ∨ k = 5 by omega) with rfl | rfl | rfl | rfl | rfl | rfl
  · obtain ⟨j, g1, g2, g3⟩ := rng (lo := 1) (hi := 100) (by decide) (by decide) h.1 h.2
    exact ⟨j, g3, by omega, by omega, by omega, by omega, by omega, by omega⟩
  · obtain ⟨j, g1, g2, g3⟩ := rng (lo := 1) (hi := 20) (by decide) (by decide) h.1 h.2
    exact ⟨j, g3, by omega, by omega, by omega, by omega, by omega, by omega⟩
  · obtain ⟨j, g1, g2, g3⟩ := rng (lo := 0) (hi := 50) (by decide) (by decide) h.1 h.2
    exact ⟨j, g3, by omega, by omega, by omega, by omega, by omega, by omega⟩
  · obtain ⟨j, g1, g2, g3⟩ := rng (lo := 0) (hi := 20) (by decide) (by decide) h.1 h.2
    exact ⟨j, g3, by omega, by omega, by omega, by omega, by omega, by omega⟩
  · obtain ⟨j, g1, g2, g3⟩ := rng (lo := 0) (hi := 99) (by decide) (by decide) h.1 h.2
    exact ⟨j, g3, by omega, by omega, by omega, by omega, by omega, by omega⟩
  · obtain ⟨j, g1, g2, g3⟩ := rng (lo := 0) (hi := 999) (by decide) (by decide) h.1 h.2
    exact ⟨j, g3, by omega, by omega, by omega, by omega, by omega, by omega⟩
def RL (R0 : Nat → Nat → Option Nat) (N : Nat) (I : Nat → Nat → Int32) (R : Nat → Nat → Option Nat) : Prop := ∃ (nw bf : Nat) (h : Nat → Nat) (a : Nat → Nat) (u : Nat) (p sl : Nat → Nat → Nat) (hd : Nat → Nat) (n : Nat) (q : Nat → Nat), R = QR R0 nw bf h ∧ GL N a u p sl hd n q ∧ CL I nw bf h a u p sl hd n q ∧ ML I a u p sl hd n q
/-- both answer alike, and stand alike after it -/
def PR (R0 : Nat → Nat → Option Nat) (I : Nat → Nat → Int32) (R : Nat → Nat → Option Nat) (N K1 : Nat) (as1 : List Value) (K2 : Nat) (as2 : List Value) : Prop := ∃ r I1 R1 I2, FF K1 as1 (210, I, R) = some (some r, 210, I1, R1) ∧ FF K2 as2 (210, I1, R1) = some (some r, 210, I2, R1) ∧ RL R0 N I2 R1 ∧ I2 60 = I 60 ∧ I2 61 = I 61 ∧ I1 60 = I 60 ∧ I1 61 = I 61
section CH
variable {I : Nat → Nat → Int32} {R : Nat → Nat → Option Nat} {nw bf u n N N' : Nat} {h hd q : Nat → Nat} {p sl : Nat → Nat → Nat} {a a' : Nat → Nat}
theorem GL.mono (hG : GL N a u p sl hd n q) (hn : N ≤ N') : GL N' a u p sl hd n q :=
  ⟨hG.1.mono hn, fun i hi => (hG.2.1 i hi).mono hn, fun i hi => ⟨(hG.2.2.1 i hi).1, fun h => ((hG.2.2.1 i hi).2 h).mono hn⟩, hG.2.2.2⟩
theorem chg_e {K1 K2 : Nat} {as1 as2 : List Value} {e : Int32} (hG : GL N a u p sl hd n q) (hC : CL I nw bf h a u p sl hd n q) (hM : ML I a u p sl hd n q) (h1 : FF K1 as1 (210, I, QR R nw bf h) = some (some (.int e), 210, up I bf (vI a), QR R nw bf h)) (h2 : ∀ J, J 225 = vI a → FF K2 as2 (210, J, QR R nw bf h) = some (some (.int e), 210, J, QR R nw bf h)) : PR R I (QR R nw bf h) N K1 as1 K2 as2 := by
  have hb := hC.1.2.1
  refine ⟨.int e, up I bf (vI a), QR R nw bf h, up I bf (vI a), h1, h2 _ (by rw [up_ne (by omega)]; exact hM.1.1), ⟨nw, bf, h, a, u, p, sl, hd, n, q, rfl, hG, hC.before hG.1.1.zz, hM.congr (fun v h1 _ _ => up_ne (by omega))⟩, up_ne (by omega), up_ne (by omega), up_ne (by omega), up_ne (by omega)⟩
theorem chg {K1 K2 : Nat} {as1 as2 : List Value} {r : Int32} (hB : BR R) (hG : GL N a u p sl hd n q) (hC : CL I nw bf h a u p sl hd n q) (hM : ML I a u p sl hd n q) (hr : ¬ r < 0) (hN : N ≤ N') (hW : WN N' a') (h1 : ∀ I' R', FF 46 [.ref 208, .int r] (210, up (up I bf (vI a)) nw (vI a'), QR R nw bf h) = some (some (.int r), 210, I', R') → FF K1 as1 (210, I, QR R nw bf h) = some (some (.int r), 210, I', R')) (h2 : ∀ J J' R', RM R' → J 225 = vI a → J' 225 = vI a → FF 86 [.ref 224] (210, J, R') = some (none, 210, J', R') → FF K2 as2 (210, J, R') = some (some (.int r), 210, up J' 225 (vI a'), R')) : PR R I (QR R nw bf h) N' K1 as1 K2 as2 := by
  have hz := hG.1.1.zz
  obtain ⟨I1, bf', h', g1, g2, g3⟩ := rec_c (a' := a') hB hC hz hr
  have hM1 := hM.congr (I' := I1) (fun v h1 _ _ => g3 v (by omega))
  have hRM : RM (QR R nw bf' h') := QR_RM hB.2.2.2.2
  obtain ⟨I2, k1, k2, k3, k4, k5⟩ := rec_m hRM hM1 hz
  refine ⟨.int r, I1, QR R nw bf' h', up I2 225 (vI a'), h1 _ _ g1, h2 I1 I2 _ hRM hM1.1.1 k4 k1, ⟨nw, bf', h', a', pushU u, pushP u p a, sl, hd, n, q, rfl, ⟨hW, pushP_WN (P := WN N') (fun i hi => (hG.2.1 i hi).mono hN) (hG.1.mono hN) hC.2.2.1.2.1, fun i hi => ⟨(hG.2.2.1 i hi).1, fun g => ((hG.2.2.1 i hi).2 g).mono hN⟩, hG.2.2.2⟩, g2.congr (fun v hv => by rw [up_ne (by omega), k5 v (by omega)]), k2 a'⟩, by rw [up_ne (by omega), k5 60 (by omega), g3 60 (by omega)], by rw [up_ne (by omega), k5 61 (by omega), g3 61 (by omega)], g3 60 (by omega), g3 61 (by omega)⟩
/-- the copy to before -/
theorem bef (hB : BR R) (hG : GL N a u p sl hd n q) (hC : CL I nw bf h a u p sl hd n q) : FF 12 [.ref (16 * bf), .ref (16 * nw)] (210, I, QR R nw bf h) = some (none, 210, up I bf (vI a), QR R nw bf h) := by
  obtain ⟨e, he, hz⟩ := hC.2.2.1.2.2.2.1
  have h1 := hC.1.1
  have h2 := hC.1.2.1
  exact f12 (by omega) (by omega) hC.1.2.2.1 (QR_RS hB.2.2.2.1) hC.2.1 hG.1.1 he hz
/-- set -/
theorem pr_set (hB : BR R) (hG : GL N a u p sl hd n q) (hC : CL I nw bf h a u p sl hd n q) (hM : ML I a u p sl hd n q) (x y : Int32) : PR R I (QR R nw bf h) N 44 [.ref 208, .int x, .int y] 87 [.ref 224, .int x, .int y] := by
  have h1 := hC.1.1
  have h2 := hC.1.2.1
  have hRS : RS (QR R nw bf h) := QR_RS hB.2.2.2.1
  have hbe := bef hB hG hC
  have ho := od
  have ho1 := os (b := bf) (by omega)
  have ho2 := os (b := nw) (by omega)
  have ho3 := om
  have hv : (225 : Nat) = 225 ∨ (225 : Nat) = 226 := Or.inl rfl
  have hInw : up I bf (vI a) nw = vI a := by rw [up_ne hC.1.2.2.1]; exact hC.2.1
  have h88 : ∀ (M : Mm) k, k < 6 → FF 88 [.int (nI k), .int y] M = some (some (.int (b2 (sOk k y))), M) := by
    intro M k hk
    have e1 : ((1 : Nat) = 0) = False := eq_false (by decide)
    rcases (show k = 0 ∨ k = 1 ∨ k = 2 ∨ k = 3 ∨ k = 4 ∨ k = 5 by omega) with rfl | rfl | rfl | rfl | rfl | rfl <;> (simp (disch := first | omega | (show List.length _ ≤ 4; exact Nat.le_of_ble_eq_true rfl) | assumption | exact nbo_0 | exact nbo_1 | exact b2_b) only [FE88, s88_0, s88_1, s88_4, s88_5, s88_6, s88_8, s88_11, s88_14, s88_15, s88_16, s88_19, s88_20, s88_21, s88_23, s88_26, s88_29, s88_30, s88_31, s88_34, s88_35, s88_36, s88_38, s88_41, s88_44, s88_45, s88_46, s88_49, s88_50, s88_51, s88_53, s88_56, s88_59, s88_60, s88_61, s88_64, s88_65, s88_66, s88_68, s88_71, s88_74, s88_75, s88_76, s88_79, s88_82, ↓reduceIte, psh_some, psh_none, cln_i, cln_r, cln_n, cln_l, cln_d, cln_f, Option.bind_some, Option.bind_none, if_true, if_false, nI_add, pk_mul, nbo_0, nbo_1, nI_leI, nI_ltI, nI_eq, Nat.reduceAdd, Nat.reduceMul, Nat.add_zero, Nat.mul_zero, f84, z0, z1, show (nI 2 = (0 : Int32)) = False from eq_false (by decide), show (nI 3 = (0 : Int32)) = False from eq_false (by decide), show (nI 4 = (0 : Int32)) = False from eq_false (by decide), show (nI 5 = (0 : Int32)) = False from eq_false (by decide), Nat.reduceEqDiff]; rfl)
  by_cases e : iT x 6 ∧ sOk x.toNatClampNeg y
  · obtain ⟨e1, e2⟩ := e
    obtain ⟨k, hk, rfl⟩ := iT_nI (by decide) e1
    rw [nI_clamp (by omega)] at e2
    obtain ⟨j, rfl, j0, j1, j2, j3, j4, j5⟩ := sOk_n hk e2
    have hW := hG.1.1
    have b999 : a (2 + k) < 2 ^ 31 := by
      have w1 := hW.kn
      have w2 := hW.ps
      have w3 := hW.dc
      have w4 := hW.wk
      have w5 := hW.co
      have w6 := hW.ca
      rcases (show k = 0 ∨ k = 1 ∨ k = 2 ∨ k = 3 ∨ k = 4 ∨ k = 5 by omega) with rfl | rfl | rfl | rfl | rfl | rfl <;> (simp only [Nat.reduceAdd]; omega)
    refine chg (r := nI (a (2 + k))) (a' := up a (2 + k) j) hB hG hC hM (nI_pos b999) (Nat.le_refl N) (hG.1.of_same (hW.up1 (by omega) (by omega) (by omega) (by omega) (by omega) (by omega) (by omega) (by omega) (by omega) (by omega)) (up_ne (by omega)) (fun k' g1 g2 => up_ne (by omega))) (fun I' R' g => ?_) (fun J J' R' r1 r2 r3 r4 => ?_)
    · have g3 := f13 (I := up I bf (vI a)) (R := QR R nw bf h) (b := nw) (a := a) (by omega) hRS hInw hk e2
      simp (disch := first | omega | (show List.length _ ≤ 4; exact Nat.le_of_ble_eq_true rfl) | assumption | exact nbo_0 | exact nbo_1 | exact b2_b) only [FE44, s44_0, s44_1, s44_4, s44_5, s44_8, s44_11, s44_12, s44_13, s44_16, s44_17, s44_18, s44_21, s44_24, ↓reduceIte, psh_some, psh_none, cln_i, cln_r, cln_n, cln_l, cln_d, cln_f, Option.bind_some, Option.bind_none, if_true, if_false, nI_add, pk_mul, nbo_0, nbo_1, nI_leI, nI_ltI, nI_eq, Nat.reduceAdd, Nat.reduceMul, Nat.add_zero, Nat.mul_zero, gd_0, gd_1, hbe, g3, g]
    · have g4 := h88 (210, J, R') k hk
      rw [b2_t e2] at g4
      have g5 := f84n (M := (210, J, R')) (x := nI k) (m := 5) (by decide)
      rw [b2_t e1] at g5
      have c := cm_n (a := 225) (k := 2 + k) hv (by omega)
      simp (disch := first | omega | (show List.length _ ≤ 4; exact Nat.le_of_ble_eq_true rfl) | assumption | exact nbo_0 | exact nbo_1 | exact b2_b) only [FE87, s87_0, s87_1, s87_2, s87_3, s87_6, s87_9, s87_10, s87_11, s87_14, s87_17, s87_19, s87_20, s87_21, s87_24, s87_25, s87_28, s87_29, s87_30, s87_31, s87_32, s87_33, s87_34, s87_37, s87_38, s87_39, s87_40, s87_41, s87_42, s87_43, ↓reduceIte, psh_some, psh_none, cln_i, cln_r, cln_n, cln_l, cln_d, cln_f, Option.bind_some, Option.bind_none, if_true, if_false, nI_add, pk_mul, nbo_0, nbo_1, nI_leI, nI_ltI, nI_eq, Nat.reduceAdd, Nat.reduceMul, Nat.add_zero, Nat.mul_zero, up_at, up_up, up_vI, vI_at, g4, g5, z0, z1, r4, gm_0 r1, am_n hv, wm_n hv, r3]
  · have g := f13e (I := up I bf (vI a)) (R := QR R nw bf h) (b := nw) (x := x) (y := y) (by omega) e
    refine chg_e (e := -2) hG hC hM ?_ (fun J hJ => ?_)
    · have hn : (-2 : Int32) < 0 := by decide
      have g2 := f46e hn (M := (210, up I bf (vI a), QR R nw bf h))
      simp (disch := first | omega | (show List.length _ ≤ 4; exact Nat.le_of_ble_eq_true rfl) | assumption | exact nbo_0 | exact nbo_1 | exact b2_b) only [FE44, s44_0, s44_1, s44_4, s44_5, s44_8, s44_11, s44_12, s44_13, s44_16, s44_17, s44_18, s44_21, s44_24, ↓reduceIte, psh_some, psh_none, cln_i, cln_r, cln_n, cln_l, cln_d, cln_f, Option.bind_some, Option.bind_none, if_true, if_false, nI_add, pk_mul, nbo_0, nbo_1, nI_leI, nI_ltI, nI_eq, Nat.reduceAdd, Nat.reduceMul, Nat.add_zero, Nat.mul_zero, gd_0, gd_1, hbe, g, g2]
    · by_cases e2 : iT x 6
      · obtain ⟨k, hk, rfl⟩ := iT_nI (by decide) e2
        have g4 := h88 (210, J, QR R nw bf h) k hk
        rw [b2_f (fun h => e ⟨e2, by rw [nI_clamp (by omega)]; exact h⟩)] at g4
        have g5 := f84n (M := (210, J, QR R nw bf h)) (x := nI k) (m := 5) (by decide)
        rw [b2_t e2] at g5
        simp (disch := first | omega | (show List.length _ ≤ 4; exact Nat.le_of_ble_eq_true rfl) | assumption | exact nbo_0 | exact nbo_1 | exact b2_b) only [FE87, s87_0, s87_1, s87_2, s87_3, s87_6, s87_9, s87_10, s87_11, s87_14, s87_17, s87_19, s87_20, s87_21, s87_24, s87_25, s87_28, s87_29, s87_30, s87_31, s87_32, s87_33, s87_34, s87_37, s87_38, s87_39, s87_40, s87_41, s87_42, s87_43, ↓reduceIte, psh_some, psh_none, cln_i, cln_r, cln_n, cln_l, cln_d, cln_f, Option.bind_some, Option.bind_none, if_true, if_false, nI_add, pk_mul, nbo_0, nbo_1, nI_leI, nI_ltI, nI_eq, Nat.reduceAdd, Nat.reduceMul, Nat.add_zero, Nat.mul_zero, g4, g5, z0, z1]
      · have g5 := f84n (M := (210, J, QR R nw bf h)) (x := x) (m := 5) (by decide)
        rw [b2_f e2] at g5
        simp (disch := first | omega | (show List.length _ ≤ 4; exact Nat.le_of_ble_eq_true rfl) | assumption | exact nbo_0 | exact nbo_1 | exact b2_b) only [FE87, s87_0, s87_1, s87_2, s87_3, s87_6, s87_9, s87_10, s87_11, s87_14, s87_17, s87_19, s87_20, s87_21, s87_24, s87_25, s87_28, s87_29, s87_30, s87_31, s87_32, s87_33, s87_34, s87_37, s87_38, s87_39, s87_40, s87_41, s87_42, s87_43, ↓reduceIte, psh_some, psh_none, cln_i, cln_r, cln_n, cln_l, cln_d, cln_f, Option.bind_some, Option.bind_none, if_true, if_false, nI_add, pk_mul, nbo_0, nbo_1, nI_leI, nI_ltI, nI_eq, Nat.reduceAdd, Nat.reduceMul, Nat.add_zero, Nat.mul_zero, g5, z0, z1]
end CH
