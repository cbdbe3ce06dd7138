/-! ===== carryOut ===== -/
theorem tx_le {n : Nat} {q : Nat → Nat} : ∀ d s, s ≤ n → (tx n q d s).2 ≤ n
  | 0, s, h => h
  | d + 1, s, h => by
    have hle := og_le (q := q) h
    show (if (og n q s).1 = true then (if (og n q s).2.1 < n ∧ q (og n q s).2.1 = 59 then tx n q d ((og n q s).2.1 + 1) else (decide ((og n q s).2.1 = n), (og n q s).2.1)) else (false, (og n q s).2.1)).2 ≤ n
    by_cases e : (og n q s).1 = true
    · rw [if_pos e]
      by_cases e2 : (og n q s).2.1 < n ∧ q (og n q s).2.1 = 59
      · rw [if_pos e2]; exact tx_le d _ e2.1
      · rw [if_neg e2]; exact hle.2.1
    · rw [if_neg e]; exact hle.2.1
section CO
variable {I : Nat → Nat → Int32} {R : Nat → Nat → Option Nat} {nw bf u n N : Nat} {h hd q : Nat → Nat} {p sl : Nat → Nat → Nat} {a : Nat → Nat}
theorem pr_carry (hB : BR R) (hG : GL N a u p sl hd n q) (hC : CL I nw bf h a u p sl hd n q) (hM : ML I a u p sl hd n q) (hN : N < 2 ^ 27) : PR R I (QR R nw bf h) (N + 80) 75 [.ref 208] 148 [.ref 224] := by
  have ho := od
  have ho2 := opd
  have ho3 := om
  have b1 := hC.1.1
  have b2' := hC.1.2.1
  have b3 := hC.1.2.2.1
  have hRM : RM (QR R nw bf h) := QR_RM hB.2.2.2.2
  have hP := psC hG hC
  have hz := hG.1.1.zz
  obtain ⟨V', k1, k2⟩ := f3 (I := I) (R := R) (nw := nw) (bf := bf) (h := h) hB hP
  rw [up_self] at k1
  have hC1 : CL (up I 20 V') nw bf h a u p sl hd n q := hC.pad (fun v hv => up_ne (by omega)) (fun j hj => by rw [up_at, k2 j (by omega)]) (by rw [up_at, k2 3 (by omega)]; exact hC.2.2.2.2.2.1) (fun k hk => by rw [up_at, k2 _ (by omega)]; exact hC.2.2.2.2.2.2.1 k hk)
  have hle := tx_le (n := n) (q := q) (n + 1) 0 (Nat.zero_le n)
  have hn80 := hG.2.2.2.1
  cases ok : (tx n q (n + 1) 0).1 with
  | false =>
    have eo : oF (tx n q (n + 1) 0) = nI (tx n q (n + 1) 0).2 := by unfold oF; rw [if_neg (by rw [ok]; decide)]
    rw [eo] at k1
    have m6 := nI_m6 (k := (tx n q (n + 1) 0).2) (by omega)
    have hP2 : PS (up I 20 V' 32) n q := by rw [up_ne (by decide)]; exact psM hG hM
    obtain ⟨U', W', m1, x2, x3, -⟩ := f142 (J := up I 20 V') (U := up I 20 V' 32) (W := up I 20 V' 33) hRM hP2
    rw [m2_self, ok] at m1
    have m1 : FF 142 [.ref 224] (210, up I 20 V', QR R nw bf h) = some (some (.int (nI 0)), 210, m2 (up I 20 V') U' W', QR R nw bf h) := m1
    refine ⟨.int (-3), up I 20 V', QR R nw bf h, m2 (up I 20 V') U' W', ?_, ?_, ⟨nw, bf, h, a, u, p, sl, hd, n, q, rfl, hG.mono (by omega), hC1.congr (fun v hv => m2_ne (by omega)), hM.pad (fun v h1 h2 h3 => ?_) (fun j hj => ?_) ?_ (fun k hk => ?_)⟩, ?_, ?_, ?_, ?_⟩
    · simp (disch := first | omega | (show List.length _ ≤ 4; exact Nat.le_of_ble_eq_true rfl) | assumption | exact nbo_0 | exact nbo_1 | exact b2_b) only [FE75, s75_0, s75_1, s75_4, s75_7, s75_9, s75_12, s75_14, ↓reduceIte, psh_some, psh_none, cln_i, cln_r, cln_n, cln_l, cln_d, cln_f, Option.bind_some, Option.bind_none, if_true, if_false, nI_add, pk_mul, nbo_0, nbo_1, nI_leI, nI_ltI, nI_eq, Nat.reduceAdd, Nat.reduceMul, Nat.add_zero, Nat.mul_zero, gd_6 hB, k1, m6]
    · simp (disch := first | omega | (show List.length _ ≤ 4; exact Nat.le_of_ble_eq_true rfl) | assumption | exact nbo_0 | exact nbo_1 | exact b2_b) only [FE148, s148_0, s148_1, s148_4, s148_7, s148_9, ↓reduceIte, psh_some, psh_none, cln_i, cln_r, cln_n, cln_l, cln_d, cln_f, Option.bind_some, Option.bind_none, if_true, if_false, nI_add, pk_mul, nbo_0, nbo_1, nI_leI, nI_ltI, nI_eq, Nat.reduceAdd, Nat.reduceMul, Nat.add_zero, Nat.mul_zero, m1, z0]
    · rw [m2_ne (by omega), up_ne (by omega)]
    · rw [m2_a, x3 j (by omega) (by omega), up_ne (by omega)]
    · rw [m2_a, x3 3 (by omega) (by omega), up_ne (by omega)]; exact hM.2.2.2.1
    · rw [m2_a, x3 _ (by omega) (by omega), up_ne (by omega)]; exact hM.2.2.2.2.1 k hk
    · rw [m2_ne (by omega), up_ne (by omega)]
    · rw [m2_ne (by omega), up_ne (by omega)]
    · rw [up_ne (by omega)]
    · rw [up_ne (by omega)]
  | true =>
    have eo : oF (tx n q (n + 1) 0) = -6 := by unfold oF; rw [if_pos ok]
    rw [eo] at k1
    have hsl := sls_ok (n + 1) 0 ok (Nat.zero_le n)
    have hlen : (sls n q (n + 1) 0).length ≤ 41 := by omega
    have hex := ex_ok (n := n) (q := q) (sls n q (n + 1) 0) 0 N a hG.1
    have hbe := bef hB hG hC1
    have e20 : up (up I 20 V') bf (vI a) 20 = V' := by rw [up_ne (by omega), up_at]
    have enw : up (up I 20 V') bf (vI a) nw = vI a := by rw [up_ne b3, up_ne (by omega)]; exact hC.2.1
    have g4 : FF 4 [.ref 212] (210, up (up I 20 V') bf (vI a), QR R nw bf h) = some (none, 210, mC (up (up I 20 V') bf (vI a)) nw a (up V' 5 (nI 0)), QR R nw bf h) := by
      unfold mC
      rw [up_eq enw]
      simp (disch := first | omega | (show List.length _ ≤ 4; exact Nat.le_of_ble_eq_true rfl) | assumption | exact nbo_0 | exact nbo_1 | exact b2_b) only [FE4, s4_0, s4_1, s4_2, s4_5, ↓reduceIte, psh_some, psh_none, cln_i, cln_r, cln_n, cln_l, cln_d, cln_f, Option.bind_some, Option.bind_none, if_true, if_false, nI_add, pk_mul, nbo_0, nbo_1, nI_leI, nI_ltI, nI_eq, Nat.reduceAdd, Nat.reduceMul, Nat.add_zero, Nat.mul_zero, pp_4, e20]
    have hP4 : PS (up V' 5 (nI 0)) n q := (hP.same k2).up (by omega)
    obtain ⟨V2, l1, l2⟩ := p75 (J := up (up I 20 V') bf (vI a)) (R := R) (nw := nw) (bf := bf) (h := h) (n := n) (q := q) (a := a) (N := N) hB b1 hP4 hG.1 (by omega) (up_at _ _ _) ok
    generalize hes : ex n q (sls n q (n + 1) 0) 0 a = E at *
    have hK := hex.2
    have hWE := hex.1.mono (show N + (sls n q (n + 1) 0).length ≤ N + 80 by omega)
    have hV2 : ∀ k, ¬ (4 ≤ k ∧ k < 9) → V2 k = I 20 k := fun k hk => by rw [l2 k hk, up_ne (by omega), k2 k hk]
    have hC3 : CL (up I 20 (up V2 3 (nI 0))) nw bf h a u p sl hd 0 q := hC.pad (fun v hv => up_ne (by omega)) (fun j hj => by rw [up_at, up_ne (by omega), hV2 j (by omega)]) (by rw [up_at, up_at]) (fun k hk => by omega)
    have eM : mC (up (up I 20 V') bf (vI a)) nw E.2 (up V2 3 (nI 0)) = up (up (up I 20 (up V2 3 (nI 0))) bf (vI a)) nw (vI E.2) := by
      unfold mC
      rw [up_comm (v := nw) (w := 20) (by omega), up_comm (v := bf) (w := 20) (by omega), up_up]
    obtain ⟨I1, bf', h', r1, r2, r3⟩ := rec_c (a' := E.2) (r := nI E.1) hB hC3 hz (nI_pos (by omega))
    have F75 : FF 75 [.ref 208] (210, I, QR R nw bf h) = some (some (.int (nI E.1)), 210, I1, QR R nw bf' h') := by
      have st : FF 75 [.ref 208] (210, I, QR R nw bf h) = EE 75 35 [some (.ref 208), some (.int (nI 0))] [] (210, mC (up (up I 20 V') bf (vI a)) nw a (up V' 5 (nI 0)), QR R nw bf h) := by
        have ho4 := os (b := bf) (by omega)
        simp (disch := first | omega | (show List.length _ ≤ 4; exact Nat.le_of_ble_eq_true rfl) | assumption | exact nbo_0 | exact nbo_1 | exact b2_b) only [FE75, s75_0, s75_1, s75_4, s75_7, s75_9, s75_15, s75_16, s75_19, s75_20, s75_23, s75_26, s75_27, s75_30, s75_33, s75_34, ↓reduceIte, psh_some, psh_none, cln_i, cln_r, cln_n, cln_l, cln_d, cln_f, Option.bind_some, Option.bind_none, if_true, if_false, nI_add, pk_mul, nbo_0, nbo_1, nI_leI, nI_ltI, nI_eq, Nat.reduceAdd, Nat.reduceMul, Nat.add_zero, Nat.mul_zero, gd_6 hB, gd_0, gd_1, k1, hbe, g4]
      rw [st, l1]
      have g46 := r1
      rw [← eM] at g46
      have eb : mC (up (up I 20 V') bf (vI a)) nw E.2 V2 20 = V2 := mC_b
      have ec := mC_d (J := up (up I 20 V') bf (vI a)) (nw := nw) (a := E.2) (V := V2) (X := up V2 3 (nI 0))
      simp (disch := first | omega | (show List.length _ ≤ 4; exact Nat.le_of_ble_eq_true rfl) | assumption | exact nbo_0 | exact nbo_1 | exact b2_b) only [s75_81, s75_82, s75_85, s75_86, s75_89, s75_90, s75_91, s75_94, ↓reduceIte, psh_some, psh_none, cln_i, cln_r, cln_n, cln_l, cln_d, cln_f, Option.bind_some, Option.bind_none, if_true, if_false, nI_add, pk_mul, nbo_0, nbo_1, nI_leI, nI_ltI, nI_eq, Nat.reduceAdd, Nat.reduceMul, Nat.add_zero, Nat.mul_zero, gd_6 hB, pp_2, eb, ec, g46]
    have hRM' : RM (QR R nw bf' h') := QR_RM hB.2.2.2.2
    have hI1 : ∀ v, 21 ≤ v → I1 v = I v := fun v hv => by rw [r3 v hv, up_ne (by omega)]
    have hP2 : PS (I1 32) n q := by rw [hI1 32 (by decide)]; exact psM hG hM
    obtain ⟨U', W', m1, x2, x3, x4⟩ := f142 (J := I1) (U := I1 32) (W := I1 33) hRM' hP2
    rw [m2_self, ok] at m1
    have m1 : FF 142 [.ref 224] (210, I1, QR R nw bf' h') = some (some (.int (nI 1)), 210, m2 I1 U' W', QR R nw bf' h') := m1
    obtain ⟨x5, x6⟩ := x4 ok
    have hM1 : ML (m2 I1 U' W') a u p sl hd n q := hM.pad (fun v h1 h2 h3 => by rw [m2_ne (by omega), hI1 v (by omega)]) (fun j hj => by rw [m2_a, x3 j (by omega) (by omega), hI1 32 (by decide)]) (by rw [m2_a, x3 3 (by omega) (by omega), hI1 32 (by decide)]; exact hM.2.2.2.1) (fun k hk => by rw [m2_a, x3 _ (by omega) (by omega), hI1 32 (by decide)]; exact hM.2.2.2.2.1 k hk)
    obtain ⟨I2, y1, y2, y3, y4, y5⟩ := rec_m hRM' hM1 hz
    obtain ⟨I2', w1, w2, w3, w4⟩ := f86 hRM' hM1.1 hz
    have e2 : I2' = I2 := by
      have := y1.symm.trans w1
      have := Option.some.inj this
      have := congrArg (fun (z : Rz) => z.2.2.1) this
      exact this.symm
    subst e2
    have i5 : up I2' 32 (up (I2' 32) 3 (nI 0)) 32 5 = nI (sls n q (n + 1) 0).length := by rw [up_at, up_ne (by decide), w4 5 (by decide), m2_a]; exact x5
    have i33 : up I2' 32 (up (I2' 32) 3 (nI 0)) 33 = W' := by rw [up_ne (by decide), w3 33 (by decide) (by decide), m2_b]
    have i225 : up I2' 32 (up (I2' 32) 3 (nI 0)) 225 = vI a := by rw [up_ne (by decide)]; exact y4
    have g := p148 (J := up I2' 32 (up (I2' 32) 3 (nI 0))) (R := QR R nw bf' h') (n := n) (q := q) hRM' (fun k hk => by have := hG.2.2.2.2 k hk; omega) i5 i33 hlen (sls n q (n + 1) 0) 0 N a (by omega) x6 hsl.1 hG.1 (by omega)
    rw [up_eq i225, hes] at g
    have F148 : FF 148 [.ref 224] (210, I1, QR R nw bf' h') = some (some (.int (nI E.1)), 210, up (up I2' 32 (up (I2' 32) 3 (nI 0))) 225 (vI E.2), QR R nw bf' h') := by
      rw [← g]
      simp (disch := first | omega | (show List.length _ ≤ 4; exact Nat.le_of_ble_eq_true rfl) | assumption | exact nbo_0 | exact nbo_1 | exact b2_b) only [FE148, s148_0, s148_1, s148_4, s148_10, s148_11, s148_14, s148_15, s148_16, s148_19, s148_20, ↓reduceIte, psh_some, psh_none, cln_i, cln_r, cln_n, cln_l, cln_d, cln_f, Option.bind_some, Option.bind_none, if_true, if_false, nI_add, pk_mul, nbo_0, nbo_1, nI_leI, nI_ltI, nI_eq, Nat.reduceAdd, Nat.reduceMul, Nat.add_zero, Nat.mul_zero, m1, w1, pm_7, z1]
    have hv : ∀ v, v ≠ 32 → v ≠ 33 → v ≠ 225 → ¬ (40 ≤ v ∧ v < 46) → up (up I2' 32 (up (I2' 32) 3 (nI 0))) 225 (vI E.2) v = I1 v := fun v h1 h2 h3 h4 => by
      rw [up_ne h3, up_ne h1, w3 v h4 h1, m2_ne ⟨h1, h2⟩]
    refine ⟨.int (nI E.1), I1, QR R nw bf' h', _, F75, F148, ⟨nw, bf', h', E.2, pushU u, pushP u p a, sl, hd, 0, q, rfl, ⟨hWE, pushP_WN (P := WN (N + 80)) (fun i hi => (hG.2.1 i hi).mono (by omega)) (hG.1.mono (by omega)) hC.2.2.1.2.1, fun i hi => ⟨(hG.2.2.1 i hi).1, fun g => ((hG.2.2.1 i hi).2 g).mono (by omega)⟩, by decide, fun k hk => by omega⟩, r2.congr (fun v hv' => hv v (by omega) (by omega) (by omega) (by omega)), (y2 E.2).pad (fun v h1 h2 h3 => ?_) (fun j hj => ?_) ?_ (fun k hk => by omega)⟩, ?_, ?_, hI1 60 (by decide), hI1 61 (by decide)⟩
    · by_cases e : v = 225
      · rw [e, up_at, up_at]
      · rw [up_ne e, up_ne (by omega), up_ne e]
    · rw [up_ne (by decide), up_at, up_ne (by omega), up_ne (by decide)]
    · rw [up_ne (by decide), up_at, up_at]
    · rw [hv 60 (by decide) (by decide) (by decide) (by decide), hI1 60 (by decide)]
    · rw [hv 61 (by decide) (by decide) (by decide) (by decide), hI1 61 (by decide)]
end CO
