/-! ===== the law ===== -/
section LL
variable {R0 R : Nat → Nat → Option Nat} {I : Nat → Nat → Int32} {N L i c : Nat} {xs : Nat → Int32}
theorem and31 (x : Int32) : ∃ c, c < 32 ∧ x &&& nI 31 = nI c := by
  refine ⟨x.toBitVec.toNat % 32, Nat.mod_lt _ (by decide), ?_⟩
  apply Int32.toBitVec_inj.mp
  rw [Int32.toBitVec_and]
  show x.toBitVec &&& BitVec.ofNat 32 31 = BitVec.ofNat 32 (x.toBitVec.toNat % 32)
  apply BitVec.eq_of_toNat_eq
  rw [BitVec.toNat_and, BitVec.toNat_ofNat, BitVec.toNat_ofNat]
  show x.toBitVec.toNat &&& (2 ^ 5 - 1) = _
  rw [Nat.and_two_pow_sub_one_eq_mod]
  have := Nat.mod_lt x.toBitVec.toNat (show 0 < 2 ^ 5 by decide)
  exact (Nat.mod_eq_of_lt (by omega)).symm
theorem subL {L i : Nat} (hL : L < 2 ^ 20) (hi : i < 2 ^ 20) : (nI L - nI 4 < nI i) ↔ L < i + 4 := by
  have e : (nI L - nI 4).toInt = (L : Int) - 4 := by
    rw [Int32.toInt_sub, nI_toInt (by omega), nI_toInt (by omega)]
    exact Int.bmod_eq_of_le (by omega) (by omega)
  rw [Int32.lt_iff_toInt_lt, e, nI_toInt (by omega)]
  omega
theorem alL (h61 : I 61 = fun _ => nI L) (hL : L ≤ 2048) : aln 210 I 1000 = some (nI L) := by
  unfold aln
  rw [if_neg (by decide), if_pos rfl, h61, nI_clamp (by omega)]
theorem sw (hc : c < 32) (hB : BR R0) (hL : RL R0 N I R) (hN : N < 2 ^ 17) (h60 : I 60 = xs) (h61 : I 61 = fun _ => nI L) (hi : i + 4 ≤ L) (hLL : L ≤ 2048) : ∃ I2 R1, EE 171 32 [some (.ref 1000), some (.ref 208), some (.ref 224), some (.int (nI i))] [.int (nI c)] (210, I, R) = EE 171 818 [some (.ref 1000), some (.ref 208), some (.ref 224), some (.int (nI i))] [] (210, I2, R1) ∧ RL R0 (N + 80) I2 R1 ∧ I2 60 = xs ∧ I2 61 = fun _ => nI L := by
  rcases (show c = 0 ∨ c = 1 ∨ c = 2 ∨ c = 3 ∨ c = 4 ∨ c = 5 ∨ c = 6 ∨ c = 7 ∨ c = 8 ∨ c = 9 ∨ c = 10 ∨ c = 11 ∨ c = 12 ∨ c = 13 ∨ c = 14 ∨ c = 15 ∨ c = 16 ∨ c = 17 ∨ c = 18 ∨ c = 19 ∨ c = 20 ∨ c = 21 ∨ c = 22 ∨ c = 23 ∨ c = 24 ∨ c = 25 ∨ c = 26 ∨ c = 27 ∨ c = 28 ∨ c = 29 ∨ c = 30 ∨ c = 31 by omega) with rfl | rfl | rfl | rfl | rfl | rfl | rfl | rfl | rfl | rfl | rfl | rfl | rfl | rfl | rfl | rfl | rfl | rfl | rfl | rfl | rfl | rfl | rfl | rfl | rfl | rfl | rfl | rfl | rfl | rfl | rfl | rfl
  · rw [s171_32_0]; exact lw_0 hB hL hN h60 h61 hi hLL
  · rw [s171_32_1]; exact lw_1 hB hL hN h60 h61 hi hLL
  · rw [s171_32_2]; exact lw_2 hB hL hN h60 h61 hi hLL
  · rw [s171_32_3]; exact lw_3 hB hL hN h60 h61 hi hLL
  · rw [s171_32_4]; exact lw_4 hB hL hN h60 h61 hi hLL
  · rw [s171_32_5]; exact lw_5 hB hL hN h60 h61 hi hLL
  · rw [s171_32_6]; exact lw_6 hB hL hN h60 h61 hi hLL
  · rw [s171_32_7]; exact lw_7 hB hL hN h60 h61 hi hLL
  · rw [s171_32_8]; exact lw_8 hB hL hN h60 h61 hi hLL
  · rw [s171_32_9]; exact lw_9 hB hL hN h60 h61 hi hLL
  · rw [s171_32_10]; exact lw_10 hB hL hN h60 h61 hi hLL
  · rw [s171_32_11]; exact lw_11 hB hL hN h60 h61 hi hLL
  · rw [s171_32_12]; exact lw_12 hB hL hN h60 h61 hi hLL
  · rw [s171_32_13]; exact lw_13 hB hL hN h60 h61 hi hLL
  · rw [s171_32_14]; exact lw_14 hB hL hN h60 h61 hi hLL
  · rw [s171_32_15]; exact lw_15 hB hL hN h60 h61 hi hLL
  · rw [s171_32_16]; exact lw_16 hB hL hN h60 h61 hi hLL
  · rw [s171_32_17]; exact lw_17 hB hL hN h60 h61 hi hLL
  · rw [s171_32_18]; exact lw_18 hB hL hN h60 h61 hi hLL
  · rw [s171_32_19]; exact lw_19 hB hL hN h60 h61 hi hLL
  · rw [s171_32_20]; exact lw_20 hB hL hN h60 h61 hi hLL
  · rw [s171_32_21]; exact lw_21 hB hL hN h60 h61 hi hLL
  · rw [s171_32_22]; exact lw_22 hB hL hN h60 h61 hi hLL
  · rw [s171_32_23]; exact lw_23 hB hL hN h60 h61 hi hLL
  · rw [s171_32_24]; exact lw_24 hB hL hN h60 h61 hi hLL
  · rw [s171_32_25]; exact lw_25 hB hL hN h60 h61 hi hLL
  · rw [s171_32_26]; exact lw_26 hB hL hN h60 h61 hi hLL
  · exact ⟨I, R, s171_32_d (by decide), hL.mono (by omega), h60, h61⟩
  · exact ⟨I, R, s171_32_d (by decide), hL.mono (by omega), h60, h61⟩
  · exact ⟨I, R, s171_32_d (by decide), hL.mono (by omega), h60, h61⟩
  · exact ⟨I, R, s171_32_d (by decide), hL.mono (by omega), h60, h61⟩
  · exact ⟨I, R, s171_32_d (by decide), hL.mono (by omega), h60, h61⟩
theorem p171 (hB : BR R0) (hLL : L ≤ 2048) : ∀ d i N (I : Nat → Nat → Int32) (R : Nat → Nat → Option Nat), (L - i) / 4 = d → i ≤ L → N = 20 * i → RL R0 N I R → I 60 = xs → (I 61 = fun _ => nI L) → ∃ M' : Mm, M'.1 = 210 ∧ EE 171 18 [some (.ref 1000), some (.ref 208), some (.ref 224), some (.int (nI i))] [] (210, I, R) = some (some (.int (nI 1)), M') := by
  have b1 := nbo_1
  intro d
  induction d with
  | zero =>
    intro i N I R hd hiL hN hL h60 h61
    have e := (subL (L := L) (i := i) (by omega) (by omega)).mpr (by omega)
    have g := alL h61 hLL
    refine ⟨(210, I, R), rfl, ?_⟩
    rw [s171_18]
    simp (disch := first | omega | (show List.length _ ≤ 4; exact Nat.le_of_ble_eq_true rfl) | assumption | exact nbo_0 | exact nbo_1 | exact b2_b) only [s171_19, s171_20, s171_21, s171_22, s171_23, s171_824, s171_825, ↓reduceIte, psh_some, psh_none, cln_i, cln_r, cln_n, cln_l, cln_d, cln_f, Option.bind_some, Option.bind_none, if_true, if_false, nI_add, pk_mul, nbo_0, nbo_1, nI_leI, nI_ltI, nI_eq, Nat.reduceAdd, Nat.reduceMul, Nat.add_zero, Nat.mul_zero, g, e]
  | succ d ih =>
    intro i N I R hd hiL hN hL h60 h61
    have hi : i + 4 ≤ L := by omega
    have e : ¬ (nI L - nI 4 < nI i) := fun h => by have := (subL (L := L) (i := i) (by omega) (by omega)).mp h; omega
    have g := alL h61 hLL
    have g0 := rd_x (J := I) (i := i) (k := 0) h60 h61 (by omega) hLL
    rw [Nat.add_zero] at g0
    obtain ⟨c, hc, ec⟩ := and31 (xs i)
    obtain ⟨I2, R1, s1, s2, s3, s4⟩ := sw hc hB hL (by omega) h60 h61 hi hLL
    obtain ⟨M', m1, m2⟩ := ih (i + 4) (N + 80) I2 R1 (by omega) hi (by omega) s2 s3 s4
    refine ⟨M', m1, ?_⟩
    rw [← m2, s171_18]
    simp (disch := first | omega | (show List.length _ ≤ 4; exact Nat.le_of_ble_eq_true rfl) | assumption | exact nbo_0 | exact nbo_1 | exact b2_b) only [s171_19, s171_20, s171_21, s171_22, s171_23, s171_26, s171_27, s171_28, s171_29, s171_31, ↓reduceIte, psh_some, psh_none, cln_i, cln_r, cln_n, cln_l, cln_d, cln_f, Option.bind_some, Option.bind_none, if_true, if_false, nI_add, pk_mul, nbo_0, nbo_1, nI_leI, nI_ltI, nI_eq, Nat.reduceAdd, Nat.reduceMul, Nat.add_zero, Nat.mul_zero, g, g0, e, ec]
    rw [s1]
    simp (disch := first | omega | (show List.length _ ≤ 4; exact Nat.le_of_ble_eq_true rfl) | assumption | exact nbo_0 | exact nbo_1 | exact b2_b) only [s171_818, s171_821, ↓reduceIte, psh_some, psh_none, cln_i, cln_r, cln_n, cln_l, cln_d, cln_f, Option.bind_some, Option.bind_none, if_true, if_false, nI_add, pk_mul, nbo_0, nbo_1, nI_leI, nI_ltI, nI_eq, Nat.reduceAdd, Nat.reduceMul, Nat.add_zero, Nat.mul_zero]
end LL
theorem DK.congr {m k i6 i2 : Nat} {pp : Bool} {R R' : Nat → Nat → Option Nat} (h : DK m k i6 i2 pp R) (hm : m ≤ 13) (e : ∀ x, x < 224 → R' x = R x) : DK m k i6 i2 pp R' := by
  refine ⟨fun b hb => (h.1 b hb).congr (fun x h1 h2 => e x (by omega)), fun f h1 h2 => ?_, fun j hj => ?_, fun j hj => ?_, fun hp => ?_⟩
  · rw [e 208 (by decide)]; exact h.2.1 f h1 h2
  · rw [e 209 (by decide)]; exact h.2.2.1 j hj
  · rw [e 210 (by decide)]; exact h.2.2.2.1 j hj
  · rw [e 212 (by decide)]; exact h.2.2.2.2 hp
theorem I0_z {L v : Nat} {xs : Nat → Int32} (h1 : v ≠ 60) (h2 : v ≠ 61) : I0 L xs v = fun _ => 0 := by
  unfold I0
  rw [if_neg h1, if_neg h2]
theorem law_ok : LAWF := by
  intro L xs hL
  have z : ∀ v, v ≠ 60 → v ≠ 61 → ∀ x, I0 L xs v x = 0 := fun v h1 h2 x => by rw [I0_z h1 h2]
  have bA : bn (0, I0 L xs, fun _ _ => none) = (1, I0 L xs, bnR (fun _ _ => none) 208) := by
    show (1, bnI (I0 L xs) 208, bnR (fun _ _ => none) 208) = _
    rw [bnI_obj (by decide) (fun x => z 20 (by decide) (by decide) x)]
  obtain ⟨R1, f1, D1⟩ := f43 (I := I0 L xs) (R := bnR (fun _ _ => none) 208) (fun v hv x => z v (by omega) (by omega) x) (fun x => z 20 (by decide) (by decide) x)
  have zi : ∀ v, 13 ≤ v → v ≠ 60 → v ≠ 61 → ∀ x, IS (I0 L xs) 13 v x = 0 := fun v h0 h1 h2 x => by rw [IS_ge h0]; exact z v h1 h2 x
  have bB : bn (202, IS (I0 L xs) 13, R1) = (203, IS (I0 L xs) 13, bnR R1 224) := by
    show (203, bnI (IS (I0 L xs) 13) 224, bnR R1 224) = _
    rw [bnI_obj (by decide) (fun x => zi 32 (by decide) (by decide) (by decide) x)]
  obtain ⟨R2, f2', hRM, fr⟩ := f80 (I := IS (I0 L xs) 13) (R := bnR R1 224) (fun x => zi 225 (by decide) (by decide) (by decide) x) (fun x => zi 226 (by decide) (by decide) (by decide) x) (fun x => zi 32 (by decide) (by decide) (by decide) x) (fun x => zi 33 (by decide) (by decide) (by decide) x) (fun v h1 h2 x => zi v (by omega) (by omega) (by omega) x) (fun v h1 h2 x => zi v (by omega) (by omega) (by omega) x)
  have D2 : DK 13 10 6 2 true R2 := D1.congr (by decide) (fun x hx => by rw [fr x hx]; unfold bnR; rw [up_ne (by omega)])
  have st : FF 171 [.ref 1000] (M0 L xs) = EE 171 18 [some (.ref 1000), some (.ref 208), some (.ref 224), some (.int (nI 0))] [] (210, up (IS (I0 L xs) 13) 225 (vI st0), R2) := by
    rw [FE171]
    show EE 171 0 [some (.ref 1000), none, none, none] [] (0, I0 L xs, fun _ _ => none) = _
    rw [s171_0 ⟨(by show (0 : Nat) < 210; decide), (by show kd (adr 0) = 3; decide)⟩, s171_3r]
    show EE 171 4 _ [.ref 208, .ref 208] (bn (0, I0 L xs, fun _ _ => none)) = _
    rw [bA, s171_4 (by decide) f1, s171_7, s171_8 ⟨(by show (202 : Nat) < 210; decide), (by show kd (adr 202) = 4; decide)⟩, s171_11r]
    show EE 171 12 _ [.ref 224, .ref 224] (bn (202, IS (I0 L xs) 13, R1)) = _
    rw [bB, s171_12 (by decide) f2']
    simp (disch := first | omega | (show List.length _ ≤ 4; exact Nat.le_of_ble_eq_true rfl) | assumption | exact nbo_0 | exact nbo_1 | exact b2_b) only [s171_15, s171_16, s171_17, ↓reduceIte, psh_some, psh_none, cln_i, cln_r, cln_n, cln_l, cln_d, cln_f, Option.bind_some, Option.bind_none, if_true, if_false, nI_add, pk_mul, nbo_0, nbo_1, nI_leI, nI_ltI, nI_eq, Nat.reduceAdd, Nat.reduceMul, Nat.add_zero, Nat.mul_zero]
  have zf : ∀ v, 13 ≤ v → v ≠ 60 → v ≠ 61 → v ≠ 225 → up (IS (I0 L xs) 13) 225 (vI st0) v = fun _ => 0 := fun v h0 h1 h2 h3 => by rw [up_ne h3, IS_ge h0, I0_z h1 h2]
  have hRL := start_RL (I := up (IS (I0 L xs) 13) 225 (vI st0)) D2 (fun v hv => by
    rw [up_ne (by omega)]
    unfold IS
    rw [if_pos hv]) (up_at _ _ _) (fun v hv => zf v (by omega) (by omega) (by omega) (by omega))
  obtain ⟨M', m1, m2⟩ := p171 (xs := xs) (start_B D2 hRM) hL ((L - 0) / 4) 0 0 _ R2 rfl (Nat.zero_le L) rfl hRL (by rw [up_ne (by decide), IS_ge (by decide)]; rfl) (by rw [up_ne (by decide), IS_ge (by decide)]; rfl)
  refine ⟨M', m1, ?_⟩
  rw [st, m2]
  rfl
