/-! ===== save ===== -/
section SV
variable {I : Nat → Nat → Int32} {R : Nat → Nat → Option Nat} {nw bf u n N : Nat} {h hd q : Nat → Nat} {p sl : Nat → Nat → Nat} {a : Nat → Nat}
theorem f78t {M : Mm} {x : Int32} : FF 78 [.int x] M = some (some (.int (b2 (iT x 2))), M) := f78
theorem si_c {k : Nat} (hk : k < 2) : 8 ≤ kd 210 ∧ 210 < 1000 ∧ pos 210 < 210 ∧ inb (nI k) (ln 210) := ⟨by decide, by decide, by decide, nI_inb hk (by decide)⟩
theorem si_v {k : Nat} (hB : BR R) (hk : k < 2) : va_rf (QR R nw bf h 210 (nI k).toNatClampNeg) = .ref (16 * (8 + k)) := by
  rw [nI_clamp (by omega)]
  show va_rf (R 210 k) = _
  rw [hB.2.1 k hk]
  rfl
theorem ca_sv {k : Nat} (hk : k < 2) : acI 7 210 211 (nI k) := ac_of (w := 2) (by decide) rfl (by decide) rfl (by decide) hk
theorem wa_sv {k : Nat} {x : Int32} (hk : k < 2) : wI I 211 (nI k).toNatClampNeg x = up I 20 (up (I 20) (1 + k) x) := by
  rw [nI_clamp (by omega)]; rfl
theorem ra_sv {k : Nat} (hk : k < 2) : ardI 7 210 I 211 (nI k) = some (I 20 (1 + k)) := ard_of (t := 7) (a := 211) (w := 2) (by decide) rfl (by decide) rfl (by decide) hk
theorem vb1 : vp_nar .boolean (nI 1) = nI 1 := by decide +kernel
theorem pr_save (hB : BR R) (hG : GL N a u p sl hd n q) (hC : CL I nw bf h a u p sl hd n q) (hM : ML I a u p sl hd n q) (x : Int32) : PR R I (QR R nw bf h) N 77 [.ref 208, .int x] 83 [.ref 224, .int x] := by
  have ho := od
  have ho3 := om
  have hRM : RM (QR R nw bf h) := QR_RM hB.2.2.2.2
  have hRS : RS (QR R nw bf h) := QR_RS hB.2.2.2.1
  obtain ⟨c1, c2, ⟨d1, d2, d3, d4, d5⟩, ⟨s1, s2⟩, c5, c6, c7, c8⟩ := id hC
  obtain ⟨q1, q2, q3, q4, q5⟩ := id c1
  obtain ⟨⟨m1, m2, m3, m4, m5⟩, ⟨t1, t2⟩, n3, n4, n5, n6⟩ := id hM
  have hv : (225 : Nat) = 225 ∨ (225 : Nat) = 226 := Or.inl rfl
  have hz := hG.1.1.zz
  by_cases e : iT x 2
  · obtain ⟨i, hi, rfl⟩ := iT_nI (by decide) e
    have g78 := f78t (M := (210, I, QR R nw bf h)) (x := nI i)
    rw [b2_t e] at g78
    obtain ⟨e1, he1, hz1⟩ := s2 i hi
    obtain ⟨e2, he2, hz2⟩ := t2 i hi
    have g12 := f12 (I := I) (R := QR R nw bf h) (b := nw) (d := 8 + i) (by omega) (by omega) (by omega) hRS c2 hG.1.1 he1 hz1
    have ho4 := os (b := 8 + i) (by omega)
    have k1 := si_c hi
    have k2 := si_v (nw := nw) (bf := bf) (h := h) hB hi
    have k3 := ca_sv hi
    have n20 : up I (8 + i) (vI a) 20 = I 20 := up_ne (by omega)
    have nnw : up (up I (8 + i) (vI a)) 20 (up (I 20) (1 + i) (nI 1)) nw = vI a := by rw [up_ne (by omega), up_ne (by omega)]; exact c2
    have g84 := f84n (M := (210, up (up I (8 + i) (vI a)) 20 (up (I 20) (1 + i) (nI 1)), QR R nw bf h)) (x := nI i) (m := 1) (by decide)
    rw [b2_t e] at g84
    have hlay := lay_ns (I := up (up I (8 + i) (vI a)) 20 (up (I 20) (1 + i) (nI 1))) (R := QR R nw bf h) (u := i) (a := a) (e := e2) hi (by rw [up_ne (by omega), up_ne (by omega)]; exact m1) (by rw [up_ne (by omega), up_ne (by omega)]; exact he2) hz hz2
    have k5 := cm_h (k := i) hi
    have n32 : up (up (up I (8 + i) (vI a)) 20 (up (I 20) (1 + i) (nI 1))) (50 + i) (vI a) 32 = I 32 := by rw [up_ne (by omega), up_ne (by omega), up_ne (by omega)]
    have n225 : up (up (up (up I (8 + i) (vI a)) 20 (up (I 20) (1 + i) (nI 1))) (50 + i) (vI a)) 32 (up (I 32) i (nI 1)) 225 = vI a := by rw [up_ne (by omega), up_ne (by omega), up_ne (by omega), up_ne (by omega)]; exact m1
    refine ⟨.int (nI (a 0)), up (up I (8 + i) (vI a)) 20 (up (I 20) (1 + i) (nI 1)), QR R nw bf h, up (up (up (up I (8 + i) (vI a)) 20 (up (I 20) (1 + i) (nI 1))) (50 + i) (vI a)) 32 (up (I 32) i (nI 1)), ?_, ?_, ⟨nw, bf, h, a, u, p, up sl i a, up hd i 1, n, q, rfl, ⟨hG.1, hG.2.1, ?_, hG.2.2.2⟩, ⟨c1, ?_, ⟨?_, d2, ?_, ?_, ?_⟩, ⟨?_, ?_⟩, ?_, ?_, ?_, ?_⟩, ⟨⟨?_, ?_, m3, ?_, ?_⟩, ⟨?_, ?_⟩, ?_, ?_, ?_, ?_⟩⟩, ?_, ?_, ?_, ?_⟩
    · simp (disch := first | omega | (show List.length _ ≤ 4; exact Nat.le_of_ble_eq_true rfl) | assumption | exact nbo_0 | exact nbo_1 | exact b2_b) only [FE77, s77_0, s77_1, s77_4, s77_7, s77_9, s77_10, s77_11, s77_14, s77_15, s77_16, s77_17, s77_20, s77_23, s77_24, s77_27, s77_28, s77_29, s77_30, s77_31, s77_34, s77_37, ↓reduceIte, psh_some, psh_none, cln_i, cln_r, cln_n, cln_l, cln_d, cln_f, Option.bind_some, Option.bind_none, if_true, if_false, nI_add, pk_mul, nbo_0, nbo_1, nI_leI, nI_ltI, nI_eq, Nat.reduceAdd, Nat.reduceMul, Nat.add_zero, Nat.mul_zero, g78, z1, gd_0, gd_4 hB, gd_5 hB, k1, k2, k3, g12, wa_sv, vb1, n20, gs_11, nnw, vI_at]
    · simp (disch := first | omega | (show List.length _ ≤ 4; exact Nat.le_of_ble_eq_true rfl) | assumption | exact nbo_0 | exact nbo_1 | exact b2_b) only [FE83, s83_0, s83_1, s83_2, s83_3, s83_6, s83_9, s83_11, s83_12, s83_13, s83_16, s83_17, s83_18, s83_21, s83_24, s83_25, s83_26, s83_29, s83_30, s83_33, s83_34, s83_35, s83_36, s83_37, s83_40, s83_41, s83_42, ↓reduceIte, psh_some, psh_none, cln_i, cln_r, cln_n, cln_l, cln_d, cln_f, Option.bind_some, Option.bind_none, if_true, if_false, nI_add, pk_mul, nbo_0, nbo_1, nI_leI, nI_ltI, nI_eq, Nat.reduceAdd, Nat.reduceMul, Nat.add_zero, Nat.mul_zero, g84, z1, gm_0 hRM, gm_4 hRM, gm_5 hRM, hlay, k5, wm_h, vb1, n32, am_n hv, n225, vI_at]
    · intro j hj
      by_cases ej : j = i
      · rw [ej, up_at, up_at]; exact ⟨Nat.le_refl 1, fun _ => hG.1⟩
      · rw [up_ne ej, up_ne ej]; exact hG.2.2.1 j hj
    · rw [up_ne (by omega), up_ne (by omega), up_ne (by omega), up_ne (by omega)]; exact c2
    · rw [up_ne (by omega), up_ne (by omega), up_at, up_ne (by omega)]; exact d1
    · intro j hj
      have := (q4 j (by omega)).1
      rw [up_ne (by omega), up_ne (by omega), up_ne (by omega), up_ne (by omega)]; exact d3 j hj
    · rw [up_ne (by omega), up_ne (by omega), up_ne (by omega), up_ne (by omega)]; exact d4
    · intro j hj
      have := (q4 j hj).1
      rw [up_ne (by omega), up_ne (by omega), up_ne (by omega), up_ne (by omega)]; exact d5 j hj
    · intro j hj
      rw [up_ne (show 8 + j ≠ 32 by omega), up_ne (show 8 + j ≠ 50 + i by omega), up_ne (show 8 + j ≠ 20 by omega)]
      by_cases ej : j = i
      · rw [ej, up_at, up_at]; intro _; rw [up_at]
      · rw [up_ne ej, up_ne (show 8 + j ≠ 8 + i by omega), up_ne ej]; exact s1 j hj
    · intro j hj
      rw [up_ne (show 8 + j ≠ 32 by omega), up_ne (show 8 + j ≠ 50 + i by omega), up_ne (show 8 + j ≠ 20 by omega)]
      by_cases ej : j = i
      · rw [ej, up_at]; exact ⟨a, rfl, hz⟩
      · rw [up_ne (show 8 + j ≠ 8 + i by omega)]; exact s2 j hj
    · intro j hj
      rw [up_ne (by omega), up_ne (by omega), up_at]
      by_cases ej : j = i
      · rw [ej, up_at, up_at]
      · rw [up_ne (show 1 + j ≠ 1 + i by omega), up_ne ej]; exact c5 j hj
    · rw [up_ne (by omega), up_ne (by omega), up_at, up_ne (by omega)]; exact c6
    · intro k hk; rw [up_ne (by omega), up_ne (by omega), up_at, up_ne (by omega)]; exact c7 k hk
    · intro v h1 h2; rw [up_ne (by omega), up_ne (by omega), up_ne (by omega), up_ne (by omega)]; exact c8 v h1 h2
    · rw [up_ne (by omega), up_ne (by omega), up_ne (by omega), up_ne (by omega)]; exact m1
    · rw [up_at, up_ne (by omega)]; exact m2
    · intro j hj; rw [up_ne (by omega), up_ne (by omega), up_ne (by omega), up_ne (by omega)]; exact m4 j hj
    · intro j hj; rw [up_ne (by omega), up_ne (by omega), up_ne (by omega), up_ne (by omega)]; exact m5 j hj
    · intro j hj
      rw [up_ne (show 50 + j ≠ 32 by omega)]
      by_cases ej : j = i
      · rw [ej, up_at, up_at]; intro _; rw [up_at]
      · rw [up_ne ej, up_ne (show 50 + j ≠ 50 + i by omega), up_ne ej, up_ne (show 50 + j ≠ 20 by omega), up_ne (show 50 + j ≠ 8 + i by omega)]; exact t1 j hj
    · intro j hj
      rw [up_ne (show 50 + j ≠ 32 by omega)]
      by_cases ej : j = i
      · rw [ej, up_at]; exact ⟨a, rfl, hz⟩
      · rw [up_ne (show 50 + j ≠ 50 + i by omega), up_ne (show 50 + j ≠ 20 by omega), up_ne (show 50 + j ≠ 8 + i by omega)]; exact t2 j hj
    · intro j hj
      rw [up_at]
      by_cases ej : j = i
      · rw [ej, up_at, up_at]
      · rw [up_ne ej, up_ne ej]; exact n3 j hj
    · rw [up_at, up_ne (by omega)]; exact n4
    · intro k hk; rw [up_at, up_ne (by omega)]; exact n5 k hk
    · rw [up_ne (by omega), up_ne (by omega), up_ne (by omega), up_ne (by omega)]; exact n6
    · rw [up_ne (by omega), up_ne (by omega), up_ne (by omega), up_ne (by omega)]
    · rw [up_ne (by omega), up_ne (by omega), up_ne (by omega), up_ne (by omega)]
    · rw [up_ne (by omega), up_ne (by omega)]
    · rw [up_ne (by omega), up_ne (by omega)]
  · refine ⟨.int (-2), I, QR R nw bf h, I, ?_, ?_, ⟨nw, bf, h, a, u, p, sl, hd, n, q, rfl, hG, hC, hM⟩, rfl, rfl, rfl, rfl⟩
    · simp (disch := first | omega | (show List.length _ ≤ 4; exact Nat.le_of_ble_eq_true rfl) | assumption | exact nbo_0 | exact nbo_1 | exact b2_b) only [FE77, s77_0, s77_1, s77_4, s77_7, s77_9, ↓reduceIte, psh_some, psh_none, cln_i, cln_r, cln_n, cln_l, cln_d, cln_f, Option.bind_some, Option.bind_none, if_true, if_false, nI_add, pk_mul, nbo_0, nbo_1, nI_leI, nI_ltI, nI_eq, Nat.reduceAdd, Nat.reduceMul, Nat.add_zero, Nat.mul_zero, f78t, b2_f e, z0]
    · have g84 := f84n (M := (210, I, QR R nw bf h)) (x := x) (m := 1) (by decide)
      rw [b2_f e] at g84
      simp (disch := first | omega | (show List.length _ ≤ 4; exact Nat.le_of_ble_eq_true rfl) | assumption | exact nbo_0 | exact nbo_1 | exact b2_b) only [FE83, s83_0, s83_1, s83_2, s83_3, s83_6, s83_9, s83_11, ↓reduceIte, psh_some, psh_none, cln_i, cln_r, cln_n, cln_l, cln_d, cln_f, Option.bind_some, Option.bind_none, if_true, if_false, nI_add, pk_mul, nbo_0, nbo_1, nI_leI, nI_ltI, nI_eq, Nat.reduceAdd, Nat.reduceMul, Nat.add_zero, Nat.mul_zero, g84, z0]
end SV
