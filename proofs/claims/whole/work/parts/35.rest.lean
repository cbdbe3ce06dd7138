/-! ===== restore ===== -/
section RS2
variable {I : Nat → Nat → Int32} {R : Nat → Nat → Option Nat} {nw bf u n N : Nat} {h hd q : Nat → Nat} {p sl : Nat → Nat → Nat} {a : Nat → Nat}
theorem pr_restore (hB : BR R) (hG : GL N a u p sl hd n q) (hC : CL I nw bf h a u p sl hd n q) (hM : ML I a u p sl hd n q) (hN : N < 2 ^ 30) (x : Int32) : PR R I (QR R nw bf h) N 79 [.ref 208, .int x] 85 [.ref 224, .int x] := by
  have ho := od
  have ho3 := om
  have hRM : RM (QR R nw bf h) := QR_RM hB.2.2.2.2
  have hRS : RS (QR R nw bf h) := QR_RS hB.2.2.2.1
  have hv : (225 : Nat) = 225 ∨ (225 : Nat) = 226 := Or.inl rfl
  have hz := hG.1.1.zz
  by_cases e : iT x 2
  · obtain ⟨i, hi, rfl⟩ := iT_nI (by decide) e
    have g78 := f78t (M := (210, I, QR R nw bf h)) (x := nI i)
    rw [b2_t e] at g78
    have g5 := hC.2.2.2.2.1 i hi
    have g6 := hM.2.2.1 i hi
    have hd1 := (hG.2.2.1 i hi).1
    by_cases hh : hd i = 1
    · have hW2 := (hG.2.2.1 i hi).2 hh
      have hs1 := hC.2.2.2.1.1 i hi hh
      have q1 := hC.1.1
      have q2 := hC.1.2.1
      have q3 := hC.1.2.2.1
      have h0 := hW2.2.1
      rw [hh] at g5 g6
      obtain ⟨I1, bf', h', k1, k2, k3⟩ := rec_c (a' := sl i) (r := nI (sl i 0)) hB hC hz (nI_pos (by omega))
      have hM1 := hM.congr (I' := I1) (fun v h1 _ _ => k3 v (by omega))
      have hRM2 : RM (QR R nw bf' h') := QR_RM hB.2.2.2.2
      obtain ⟨I2, l1, l2, l3, l4, l5⟩ := rec_m hRM2 hM1 hz
      have ht := l3.2.1.1 i hi hh
      have hlay := lay_sn (I := I2) (R := QR R nw bf' h') (u := i) (a := sl i) (e := a) hi ht l4 hW2.1.zz hz
      have ho1 := os (b := bf) (by omega)
      have ho2 := os (b := nw) (by omega)
      have hbe := bef hB hG hC
      have g12 := f12 (I := up I bf (vI a)) (R := QR R nw bf h) (b := 8 + i) (d := nw) (by omega) (by omega) (by omega) hRS (by rw [up_ne (by omega)]; exact hs1) hW2.1 (bnw hC) hz
      have c1 := si_c hi
      have c2 := si_v (nw := nw) (bf := bf) (h := h) hB hi
      have g6' : I1 32 i = nI 1 := by rw [k3 32 (by omega)]; exact g6
      refine ⟨.int (nI (sl i 0)), I1, QR R nw bf' h', up I2 225 (vI (sl i)), ?_, ?_, ⟨nw, bf', h', sl i, pushU u, pushP u p a, sl, hd, n, q, rfl, ⟨hW2, pushP_WN (P := WN N) hG.2.1 hG.1 hC.2.2.1.2.1, hG.2.2⟩, k2.congr (fun v hv => by rw [up_ne (by omega), l5 v (by omega)]), l2 (sl i)⟩, by rw [up_ne (by omega), l5 60 (by omega), k3 60 (by omega)], by rw [up_ne (by omega), l5 61 (by omega), k3 61 (by omega)], k3 60 (by omega), k3 61 (by omega)⟩
      · simp (disch := first | omega | (show List.length _ ≤ 4; exact Nat.le_of_ble_eq_true rfl) | assumption | exact nbo_0 | exact nbo_1 | exact b2_b) only [FE79, s79_0, s79_1, s79_4, s79_7, s79_9, s79_10, s79_11, s79_14, s79_15, s79_16, s79_19, s79_21, s79_22, s79_23, s79_26, s79_27, s79_30, s79_33, s79_34, s79_37, s79_38, s79_41, s79_42, s79_43, s79_46, s79_47, s79_48, s79_51, s79_54, s79_57, ↓reduceIte, psh_some, psh_none, cln_i, cln_r, cln_n, cln_l, cln_d, cln_f, Option.bind_some, Option.bind_none, if_true, if_false, nI_add, pk_mul, nbo_0, nbo_1, nI_leI, nI_ltI, nI_eq, Nat.reduceAdd, Nat.reduceMul, Nat.add_zero, Nat.mul_zero, g78, z1, gd_0, gd_1, gd_4 hB, gd_5 hB, ra_sv, g5, hbe, c1, c2, g12, gs_11, up_at, vI_at, k1]
      · have g84 := f84n (M := (210, I1, QR R nw bf' h')) (x := nI i) (m := 1) (by decide)
        rw [b2_t e] at g84
        simp (disch := first | omega | (show List.length _ ≤ 4; exact Nat.le_of_ble_eq_true rfl) | assumption | exact nbo_0 | exact nbo_1 | exact b2_b) only [FE85, s85_0, s85_1, s85_2, s85_3, s85_6, s85_9, s85_11, s85_12, s85_13, s85_16, s85_17, s85_18, s85_21, s85_23, s85_24, s85_25, s85_28, s85_29, s85_32, s85_35, s85_36, s85_37, s85_38, s85_41, s85_42, s85_45, s85_46, s85_49, s85_50, s85_51, ↓reduceIte, psh_some, psh_none, cln_i, cln_r, cln_n, cln_l, cln_d, cln_f, Option.bind_some, Option.bind_none, if_true, if_false, nI_add, pk_mul, nbo_0, nbo_1, nI_leI, nI_ltI, nI_eq, Nat.reduceAdd, Nat.reduceMul, Nat.add_zero, Nat.mul_zero, g84, z1, gm_0 hRM2, gm_4 hRM2, gm_5 hRM2, am_h, g6', l1, hlay, am_n hv, up_at, vI_at]
    · have hh0 : hd i = 0 := by omega
      rw [hh0] at g5 g6
      refine ⟨.int (-5), I, QR R nw bf h, I, ?_, ?_, ⟨nw, bf, h, a, u, p, sl, hd, n, q, rfl, hG, hC, hM⟩, rfl, rfl, rfl, rfl⟩
      · simp (disch := first | omega | (show List.length _ ≤ 4; exact Nat.le_of_ble_eq_true rfl) | assumption | exact nbo_0 | exact nbo_1 | exact b2_b) only [FE79, s79_0, s79_1, s79_4, s79_7, s79_9, s79_10, s79_11, s79_14, s79_15, s79_16, s79_19, s79_21, s79_22, s79_23, s79_26, s79_27, s79_30, s79_33, s79_34, s79_37, s79_38, s79_41, s79_42, s79_43, s79_46, s79_47, s79_48, s79_51, s79_54, s79_57, ↓reduceIte, psh_some, psh_none, cln_i, cln_r, cln_n, cln_l, cln_d, cln_f, Option.bind_some, Option.bind_none, if_true, if_false, nI_add, pk_mul, nbo_0, nbo_1, nI_leI, nI_ltI, nI_eq, Nat.reduceAdd, Nat.reduceMul, Nat.add_zero, Nat.mul_zero, g78, z0, z1, gd_5 hB, ra_sv, g5]
      · have g84 := f84n (M := (210, I, QR R nw bf h)) (x := nI i) (m := 1) (by decide)
        rw [b2_t e] at g84
        simp (disch := first | omega | (show List.length _ ≤ 4; exact Nat.le_of_ble_eq_true rfl) | assumption | exact nbo_0 | exact nbo_1 | exact b2_b) only [FE85, s85_0, s85_1, s85_2, s85_3, s85_6, s85_9, s85_11, s85_12, s85_13, s85_16, s85_17, s85_18, s85_21, s85_23, s85_24, s85_25, s85_28, s85_29, s85_32, s85_35, s85_36, s85_37, s85_38, s85_41, s85_42, s85_45, s85_46, s85_49, s85_50, s85_51, ↓reduceIte, psh_some, psh_none, cln_i, cln_r, cln_n, cln_l, cln_d, cln_f, Option.bind_some, Option.bind_none, if_true, if_false, nI_add, pk_mul, nbo_0, nbo_1, nI_leI, nI_ltI, nI_eq, Nat.reduceAdd, Nat.reduceMul, Nat.add_zero, Nat.mul_zero, g84, z0, z1, gm_5 hRM, am_h, g6]
  · refine ⟨.int (-2), I, QR R nw bf h, I, ?_, ?_, ⟨nw, bf, h, a, u, p, sl, hd, n, q, rfl, hG, hC, hM⟩, rfl, rfl, rfl, rfl⟩
    · simp (disch := first | omega | (show List.length _ ≤ 4; exact Nat.le_of_ble_eq_true rfl) | assumption | exact nbo_0 | exact nbo_1 | exact b2_b) only [FE79, s79_0, s79_1, s79_4, s79_7, s79_9, ↓reduceIte, psh_some, psh_none, cln_i, cln_r, cln_n, cln_l, cln_d, cln_f, Option.bind_some, Option.bind_none, if_true, if_false, nI_add, pk_mul, nbo_0, nbo_1, nI_leI, nI_ltI, nI_eq, Nat.reduceAdd, Nat.reduceMul, Nat.add_zero, Nat.mul_zero, f78t, b2_f e, z0]
    · have g84 := f84n (M := (210, I, QR R nw bf h)) (x := x) (m := 1) (by decide)
      rw [b2_f e] at g84
      simp (disch := first | omega | (show List.length _ ≤ 4; exact Nat.le_of_ble_eq_true rfl) | assumption | exact nbo_0 | exact nbo_1 | exact b2_b) only [FE85, s85_0, s85_1, s85_2, s85_3, s85_6, s85_9, s85_11, ↓reduceIte, psh_some, psh_none, cln_i, cln_r, cln_n, cln_l, cln_d, cln_f, Option.bind_some, Option.bind_none, if_true, if_false, nI_add, pk_mul, nbo_0, nbo_1, nI_leI, nI_ltI, nI_eq, Nat.reduceAdd, Nat.reduceMul, Nat.add_zero, Nat.mul_zero, g84, z0]
end RS2
