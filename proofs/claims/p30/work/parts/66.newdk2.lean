/-! ===== the desk is made, 2 ===== -/
section NE
variable {I : Nat → Nat → Int32} {R : Nat → Nat → Option Nat} {n b k i6 i2 : Nat} {pp : Bool}
theorem nS5 {l1 : Option Value} (hb : b < 13) (hz : ∀ v, v < 13 → ∀ x, I v x = 0) (hD : DK b k i6 i2 pp R) : ∃ R', EE 43 5 [some (.ref 208), l1] [.ref 208] (sb b, IS I b, R) = EE 43 12 [some (.ref 208), l1] [.ref (16 * b), .ref 208] (sb b + 15, IS I (b + 1), R') ∧ DK (b + 1) k i6 i2 pp R' := by
  obtain ⟨R', h1, h2, h3, h4⟩ := newS hb hz hD
  refine ⟨R', ?_, h4⟩
  rw [s43_5 h1, s43_8r]
  show EE 43 9 _ [.ref (adr (sb b)), .ref (adr (sb b)), .ref 208] _ = _
  rw [h2, s43_9 (by show 2 ≤ 4; decide) h3]
theorem nS16 {l1 : Option Value} (hb : b < 13) (hz : ∀ v, v < 13 → ∀ x, I v x = 0) (hD : DK b k i6 i2 pp R) : ∃ R', EE 43 16 [some (.ref 208), l1] [.ref 208] (sb b, IS I b, R) = EE 43 23 [some (.ref 208), l1] [.ref (16 * b), .ref 208] (sb b + 15, IS I (b + 1), R') ∧ DK (b + 1) k i6 i2 pp R' := by
  obtain ⟨R', h1, h2, h3, h4⟩ := newS hb hz hD
  refine ⟨R', ?_, h4⟩
  rw [s43_16 h1, s43_19r]
  show EE 43 20 _ [.ref (adr (sb b)), .ref (adr (sb b)), .ref 208] _ = _
  rw [h2, s43_20 (by show 2 ≤ 4; decide) h3]
theorem nS115 {l1 : Option Value} (hb : b < 13) (hz : ∀ v, v < 13 → ∀ x, I v x = 0) (hD : DK b k i6 i2 pp R) : ∃ R', EE 43 115 [some (.ref 208), l1] [.ref 208] (sb b, IS I b, R) = EE 43 122 [some (.ref 208), l1] [.ref (16 * b), .ref 208] (sb b + 15, IS I (b + 1), R') ∧ DK (b + 1) k i6 i2 pp R' := by
  obtain ⟨R', h1, h2, h3, h4⟩ := newS hb hz hD
  refine ⟨R', ?_, h4⟩
  rw [s43_115 h1, s43_118r]
  show EE 43 119 _ [.ref (adr (sb b)), .ref (adr (sb b)), .ref 208] _ = _
  rw [h2, s43_119 (by show 2 ≤ 4; decide) h3]
theorem nS126 {l1 : Option Value} (hb : b < 13) (hz : ∀ v, v < 13 → ∀ x, I v x = 0) (hD : DK b k i6 i2 pp R) : ∃ R', EE 43 126 [some (.ref 208), l1] [.ref 208] (sb b, IS I b, R) = EE 43 133 [some (.ref 208), l1] [.ref (16 * b), .ref 208] (sb b + 15, IS I (b + 1), R') ∧ DK (b + 1) k i6 i2 pp R' := by
  obtain ⟨R', h1, h2, h3, h4⟩ := newS hb hz hD
  refine ⟨R', ?_, h4⟩
  rw [s43_126 h1, s43_129r]
  show EE 43 130 _ [.ref (adr (sb b)), .ref (adr (sb b)), .ref 208] _ = _
  rw [h2, s43_130 (by show 2 ≤ 4; decide) h3]
theorem nS137 {l1 : Option Value} (hb : b < 13) (hz : ∀ v, v < 13 → ∀ x, I v x = 0) (hD : DK b k i6 i2 pp R) : ∃ R', EE 43 137 [some (.ref 208), l1] [.ref 208] (sb b, IS I b, R) = EE 43 144 [some (.ref 208), l1] [.ref (16 * b), .ref 208] (sb b + 15, IS I (b + 1), R') ∧ DK (b + 1) k i6 i2 pp R' := by
  obtain ⟨R', h1, h2, h3, h4⟩ := newS hb hz hD
  refine ⟨R', ?_, h4⟩
  rw [s43_137 h1, s43_140r]
  show EE 43 141 _ [.ref (adr (sb b)), .ref (adr (sb b)), .ref 208] _ = _
  rw [h2, s43_141 (by show 2 ≤ 4; decide) h3]
theorem f43 (hz : ∀ v, v < 13 → ∀ x, I v x = 0) (hz20 : ∀ x, I 20 x = 0) : ∃ R', FF 43 [.ref 208] (1, I, R) = some (none, 202, IS I 13, R') ∧ DK 13 10 6 2 true R' := by
  have hD0 : DK 0 0 0 0 false R := ⟨fun b hb => by omega, fun f h1 => by omega, fun j hj => by omega, fun j hj => by omega, fun h => by cases h⟩
  have q0 : FF 43 [.ref 208] (1, I, R) = EE 43 5 [some (.ref 208), none] [.ref 208] (1, IS I 0, R) := by
    rw [IS_0]
    simp (disch := first | omega | (show List.length _ ≤ 4; exact Nat.le_of_ble_eq_true rfl) | assumption | exact nbo_0 | exact nbo_1 | exact b2_b) only [FE43, s43_0, s43_1, s43_4, ↓reduceIte, psh_some, psh_none, cln_i, cln_r, cln_n, cln_l, cln_d, cln_f, Option.bind_some, Option.bind_none, if_true, if_false, nI_add, pk_mul, nbo_0, nbo_1, nI_leI, nI_ltI, nI_eq, Nat.reduceAdd, Nat.reduceMul, Nat.add_zero, Nat.mul_zero]
  obtain ⟨R1, e1, D1⟩ := nS5 (l1 := none) (b := 0) (by decide) hz hD0
  have e1 : EE 43 5 [some (.ref 208), none] [.ref 208] (1, IS I 0, R) = EE 43 12 [some (.ref 208), none] [.ref 0, .ref 208] (16, IS I 1, R1) := e1
  have q1 : EE 43 12 [some (.ref 208), none] [.ref 0, .ref 208] (16, IS I 1, R1) = EE 43 16 [some (.ref 208), none] [.ref 208] (16, IS I 1, wR R1 208 0 (some 0)) := by
    have g := pdr (I := IS I 1) (R := R1) (n := 16) (k := 0) (x := 0) (by decide) (by decide) rfl (by decide) (by decide)
    simp (disch := first | omega | (show List.length _ ≤ 4; exact Nat.le_of_ble_eq_true rfl) | assumption | exact nbo_0 | exact nbo_1 | exact b2_b) only [s43_12, s43_15, ↓reduceIte, psh_some, psh_none, cln_i, cln_r, cln_n, cln_l, cln_d, cln_f, Option.bind_some, Option.bind_none, if_true, if_false, nI_add, pk_mul, nbo_0, nbo_1, nI_leI, nI_ltI, nI_eq, Nat.reduceAdd, Nat.reduceMul, Nat.add_zero, Nat.mul_zero, g]
  obtain ⟨R2, e2, D2⟩ := nS16 (l1 := none) (b := 1) (by decide) hz (D1.fld (by decide) (x := 0) rfl)
  have e2 : EE 43 16 [some (.ref 208), none] [.ref 208] (16, IS I 1, wR R1 208 0 (some 0)) = EE 43 23 [some (.ref 208), none] [.ref 16, .ref 208] (31, IS I 2, R2) := e2
  have D3 := (((D2.fld (by decide) (x := 16) rfl).bn (a := 209) (by decide) (by decide) (fun _ => rfl) (fun h => by cases h) (fun h => by cases h)).fld (by decide) (x := 209) rfl)
  have q2 : EE 43 23 [some (.ref 208), none] [.ref 16, .ref 208] (31, IS I 2, R2) = EE 43 37 [some (.ref 208), some (.int (nI 0))] [] (32, IS I 2, wR (bnR (wR R2 208 1 (some 16)) 209) 208 2 (some 209)) := by
    have g := pdr (I := IS I 2) (R := R2) (n := 31) (k := 1) (x := 16) (by decide) (by decide) rfl (by decide) (by decide)
    have g2 := fun R => pdr (I := IS I 2) (R := R) (n := 32) (k := 2) (x := 209) (by decide) (by decide) rfl (by decide) (by decide)
    have n1 : (31 : Nat) < 202 ∧ kd (adr 31) = 8 ∧ ¬ nI 6 < 0 ∧ (nI 6).toNatClampNeg = ln (adr 31) := by decide +kernel
    have a1 : adr 31 = 209 := rfl
    have b1 : ∀ R, bn (31, IS I 2, R) = (32, IS I 2, bnR R 209) := fun R => by
      show (32, bnI (IS I 2) 209, bnR R 209) = _
      rw [bnI_ref (by decide)]
    simp (disch := first | omega | (show List.length _ ≤ 4; exact Nat.le_of_ble_eq_true rfl) | assumption | exact nbo_0 | exact nbo_1 | exact b2_b) only [s43_23, s43_26, s43_27, s43_29, s43_32, s43_35, s43_36, ↓reduceIte, psh_some, psh_none, cln_i, cln_r, cln_n, cln_l, cln_d, cln_f, Option.bind_some, Option.bind_none, if_true, if_false, nI_add, pk_mul, nbo_0, nbo_1, nI_leI, nI_ltI, nI_eq, Nat.reduceAdd, Nat.reduceMul, Nat.add_zero, Nat.mul_zero, g, g2, a1, b1]
  obtain ⟨R4, e3, D4⟩ := p43a hz 6 0 _ (by decide) D3
  have e3 : EE 43 37 [some (.ref 208), some (.int (nI 0))] [] (32, IS I 2, wR (bnR (wR R2 208 1 (some 16)) 209) 208 2 (some 209)) = EE 43 62 [some (.ref 208), some (.int (nI 6))] [] (122, IS I 8, R4) := e3
  have D5 := ((D4.bn (a := 210) (by decide) (by decide) (fun h => by cases h) (fun _ => rfl) (fun h => by cases h)).k4).fld (by decide) (x := 210) rfl
  have q3 : EE 43 62 [some (.ref 208), some (.int (nI 6))] [] (122, IS I 8, R4) = EE 43 72 [some (.ref 208), some (.int (nI 0))] [] (123, IS I 8, wR (bnR R4 210) 208 4 (some 210)) := by
    have g2 := fun R => pdr (I := IS I 8) (R := R) (n := 123) (k := 4) (x := 210) (by decide) (by decide) rfl (by decide) (by decide)
    have n1 : (122 : Nat) < 202 ∧ kd (adr 122) = 8 ∧ ¬ nI 2 < 0 ∧ (nI 2).toNatClampNeg = ln (adr 122) := by decide +kernel
    have a1 : adr 122 = 210 := rfl
    have b1 : ∀ R, bn (122, IS I 8, R) = (123, IS I 8, bnR R 210) := fun R => by
      show (123, bnI (IS I 8) 210, bnR R 210) = _
      rw [bnI_ref (by decide)]
    simp (disch := first | omega | (show List.length _ ≤ 4; exact Nat.le_of_ble_eq_true rfl) | assumption | exact nbo_0 | exact nbo_1 | exact b2_b) only [s43_62, s43_63, s43_64, s43_67, s43_70, s43_71, ↓reduceIte, psh_some, psh_none, cln_i, cln_r, cln_n, cln_l, cln_d, cln_f, Option.bind_some, Option.bind_none, if_true, if_false, nI_add, pk_mul, nbo_0, nbo_1, nI_leI, nI_ltI, nI_eq, Nat.reduceAdd, Nat.reduceMul, Nat.add_zero, Nat.mul_zero, g2, a1, b1]
  obtain ⟨R6, e4, D6⟩ := p43b hz 2 0 _ (by decide) D5
  have e4 : EE 43 72 [some (.ref 208), some (.int (nI 0))] [] (123, IS I 8, wR (bnR R4 210) 208 4 (some 210)) = EE 43 96 [some (.ref 208), some (.int (nI 2))] [] (153, IS I 10, R6) := e4
  have D7 := (((D6.bn (a := 211) (by decide) (by decide) (fun h => by cases h) (fun h => by cases h) (fun h => by cases h)).fld (by decide) (x := 211) rfl).bn (a := 212) (by decide) (by decide) (fun h => by cases h) (fun h => by cases h) (fun _ => rfl)).pad (by decide)
  have D8 := D7.fld (by decide) (x := 212) rfl
  have i20 : ∀ x, IS I 10 20 x = 0 := fun x => by rw [IS_ge (by decide)]; exact hz20 x
  have q4 : EE 43 96 [some (.ref 208), some (.int (nI 2))] [] (153, IS I 10, R6) = EE 43 115 [some (.ref 208), some (.int (nI 2))] [.ref 208] (157, IS I 10, wR (wR (bnR (wR (bnR (bnR (wR (bnR R6 211) 208 5 (some 211)) 212) 213) 212 0 (some 213)) 214) 212 1 (some 214)) 208 6 (some 212)) := by
    have g1 := fun R => pdr (I := IS I 10) (R := R) (n := 154) (k := 5) (x := 211) (by decide) (by decide) rfl (by decide) (by decide)
    have g2 := fun R => pdr (I := IS I 10) (R := R) (n := 157) (k := 6) (x := 212) (by decide) (by decide) rfl (by decide) (by decide)
    have n1 : (153 : Nat) < 202 ∧ kd (adr 153) = 7 ∧ ¬ nI 2 < 0 ∧ (nI 2).toNatClampNeg = ln (adr 153) := by decide +kernel
    have n2 : (154 : Nat) < 202 ∧ kd (adr 154) = 1 := by decide +kernel
    have a1 : adr 153 = 211 := rfl
    have a2 : adr 154 = 212 := rfl
    have b1 : ∀ R, bn (153, IS I 10, R) = (154, IS I 10, bnR R 211) := fun R => by
      show (154, bnI (IS I 10) 211, bnR R 211) = _
      rw [bnI_0arr (by decide) (by decide) (by decide) (by decide) (fun x _ _ => i20 x)]
    have b2 : ∀ R, bn (154, IS I 10, R) = (155, IS I 10, bnR R 212) := fun R => by
      show (155, bnI (IS I 10) 212, bnR R 212) = _
      rw [bnI_obj (by decide) (fun x => i20 x)]
    have st : EE 43 96 [some (.ref 208), some (.int (nI 2))] [] (153, IS I 10, R6) = EE 43 108 [some (.ref 208), some (.int (nI 2))] [.ref 212, .ref 212, .ref 208] (155, IS I 10, bnR (wR (bnR R6 211) 208 5 (some 211)) 212) := by
      simp (disch := first | omega | (show List.length _ ≤ 4; exact Nat.le_of_ble_eq_true rfl) | assumption | exact nbo_0 | exact nbo_1 | exact b2_b) only [s43_96, s43_97, s43_98, s43_100, s43_103, s43_104, s43_107r, ↓reduceIte, psh_some, psh_none, cln_i, cln_r, cln_n, cln_l, cln_d, cln_f, Option.bind_some, Option.bind_none, if_true, if_false, nI_add, pk_mul, nbo_0, nbo_1, nI_leI, nI_ltI, nI_eq, Nat.reduceAdd, Nat.reduceMul, Nat.add_zero, Nat.mul_zero, g1, a1, a2, b1, b2]
    rw [st, s43_108 (by decide) (f0 i20)]
    simp (disch := first | omega | (show List.length _ ≤ 4; exact Nat.le_of_ble_eq_true rfl) | assumption | exact nbo_0 | exact nbo_1 | exact b2_b) only [s43_111, s43_114, ↓reduceIte, psh_some, psh_none, cln_i, cln_r, cln_n, cln_l, cln_d, cln_f, Option.bind_some, Option.bind_none, if_true, if_false, nI_add, pk_mul, nbo_0, nbo_1, nI_leI, nI_ltI, nI_eq, Nat.reduceAdd, Nat.reduceMul, Nat.add_zero, Nat.mul_zero, g2]
  obtain ⟨R9, e5, D9⟩ := nS115 (l1 := some (.int (nI 2))) (b := 10) (by decide) hz D8
  have e5 : EE 43 115 [some (.ref 208), some (.int (nI 2))] [.ref 208] (157, IS I 10, wR (wR (bnR (wR (bnR (bnR (wR (bnR R6 211) 208 5 (some 211)) 212) 213) 212 0 (some 213)) 214) 212 1 (some 214)) 208 6 (some 212)) = EE 43 122 [some (.ref 208), some (.int (nI 2))] [.ref 160, .ref 208] (172, IS I 11, R9) := e5
  have q5 : EE 43 122 [some (.ref 208), some (.int (nI 2))] [.ref 160, .ref 208] (172, IS I 11, R9) = EE 43 126 [some (.ref 208), some (.int (nI 2))] [.ref 208] (172, IS I 11, wR R9 208 7 (some 160)) := by
    have g := pdr (I := IS I 11) (R := R9) (n := 172) (k := 7) (x := 160) (by decide) (by decide) rfl (by decide) (by decide)
    simp (disch := first | omega | (show List.length _ ≤ 4; exact Nat.le_of_ble_eq_true rfl) | assumption | exact nbo_0 | exact nbo_1 | exact b2_b) only [s43_122, s43_125, ↓reduceIte, psh_some, psh_none, cln_i, cln_r, cln_n, cln_l, cln_d, cln_f, Option.bind_some, Option.bind_none, if_true, if_false, nI_add, pk_mul, nbo_0, nbo_1, nI_leI, nI_ltI, nI_eq, Nat.reduceAdd, Nat.reduceMul, Nat.add_zero, Nat.mul_zero, g]
  obtain ⟨R10, e6, D10⟩ := nS126 (l1 := some (.int (nI 2))) (b := 11) (by decide) hz (D9.fld (by decide) (x := 160) rfl)
  have e6 : EE 43 126 [some (.ref 208), some (.int (nI 2))] [.ref 208] (172, IS I 11, wR R9 208 7 (some 160)) = EE 43 133 [some (.ref 208), some (.int (nI 2))] [.ref 176, .ref 208] (187, IS I 12, R10) := e6
  have q6 : EE 43 133 [some (.ref 208), some (.int (nI 2))] [.ref 176, .ref 208] (187, IS I 12, R10) = EE 43 137 [some (.ref 208), some (.int (nI 2))] [.ref 208] (187, IS I 12, wR R10 208 8 (some 176)) := by
    have g := pdr (I := IS I 12) (R := R10) (n := 187) (k := 8) (x := 176) (by decide) (by decide) rfl (by decide) (by decide)
    simp (disch := first | omega | (show List.length _ ≤ 4; exact Nat.le_of_ble_eq_true rfl) | assumption | exact nbo_0 | exact nbo_1 | exact b2_b) only [s43_133, s43_136, ↓reduceIte, psh_some, psh_none, cln_i, cln_r, cln_n, cln_l, cln_d, cln_f, Option.bind_some, Option.bind_none, if_true, if_false, nI_add, pk_mul, nbo_0, nbo_1, nI_leI, nI_ltI, nI_eq, Nat.reduceAdd, Nat.reduceMul, Nat.add_zero, Nat.mul_zero, g]
  obtain ⟨R11, e7, D11⟩ := nS137 (l1 := some (.int (nI 2))) (b := 12) (by decide) hz (D10.fld (by decide) (x := 176) rfl)
  have e7 : EE 43 137 [some (.ref 208), some (.int (nI 2))] [.ref 208] (187, IS I 12, wR R10 208 8 (some 176)) = EE 43 144 [some (.ref 208), some (.int (nI 2))] [.ref 192, .ref 208] (202, IS I 13, R11) := e7
  have q7 : EE 43 144 [some (.ref 208), some (.int (nI 2))] [.ref 192, .ref 208] (202, IS I 13, R11) = some (none, 202, IS I 13, wR R11 208 9 (some 192)) := by
    have g := pdr (I := IS I 13) (R := R11) (n := 202) (k := 9) (x := 192) (by decide) (by decide) rfl (by decide) (by decide)
    simp (disch := first | omega | (show List.length _ ≤ 4; exact Nat.le_of_ble_eq_true rfl) | assumption | exact nbo_0 | exact nbo_1 | exact b2_b) only [s43_144, s43_147, ↓reduceIte, psh_some, psh_none, cln_i, cln_r, cln_n, cln_l, cln_d, cln_f, Option.bind_some, Option.bind_none, if_true, if_false, nI_add, pk_mul, nbo_0, nbo_1, nI_leI, nI_ltI, nI_eq, Nat.reduceAdd, Nat.reduceMul, Nat.add_zero, Nat.mul_zero, g]
  exact ⟨_, q0.trans (e1.trans (q1.trans (e2.trans (q2.trans (e3.trans (q3.trans (e4.trans (q4.trans (e5.trans (q5.trans (e6.trans (q6.trans (e7.trans q7))))))))))))), D11.fld (by decide) (x := 192) rfl⟩
end NE
