/-! ===== undo ===== -/
section UN
variable {I : Nat → Nat → Int32} {R : Nat → Nat → Option Nat} {nw bf u n N : Nat} {h hd q : Nat → Nat} {p sl : Nat → Nat → Nat} {a : Nat → Nat}
theorem pr_undo (hB : BR R) (hG : GL N a u p sl hd n q) (hC : CL I nw bf h a u p sl hd n q) (hM : ML I a u p sl hd n q) : PR R I (QR R nw bf h) N 76 [.ref 208] 81 [.ref 224] := by
  have ho := od
  have ho3 := om
  have hRM : RM (QR R nw bf h) := QR_RM hB.2.2.2.2
  obtain ⟨c1, c2, ⟨d1, d2, d3, d4, d5⟩, ⟨s1, s2⟩, c5, c6, c7, c8⟩ := id hC
  obtain ⟨q1, q2, q3, q4, q5⟩ := id c1
  obtain ⟨⟨m1, m2, m3, m4, m5⟩, ⟨t1, t2⟩, n3, n4, n5, n6⟩ := id hM
  by_cases hu : u = 0
  · subst hu
    have e0 : ¬ (0 : Int32) < nI 0 := by decide
    refine ⟨.int (-5), I, QR R nw bf h, I, ?_, ?_, ⟨nw, bf, h, a, 0, p, sl, hd, n, q, rfl, hG, hC, hM⟩, rfl, rfl, rfl, rfl⟩
    · simp (disch := first | omega | (show List.length _ ≤ 4; exact Nat.le_of_ble_eq_true rfl) | assumption | exact nbo_0 | exact nbo_1 | exact b2_b) only [FE76, s76_0, s76_1, s76_4, s76_7, s76_9, ↓reduceIte, psh_some, psh_none, cln_i, cln_r, cln_n, cln_l, cln_d, cln_f, Option.bind_some, Option.bind_none, if_true, if_false, nI_add, pk_mul, nbo_0, nbo_1, nI_leI, nI_ltI, nI_eq, Nat.reduceAdd, Nat.reduceMul, Nat.add_zero, Nat.mul_zero, gd_3, d1, e0]
    · simp (disch := first | omega | (show List.length _ ≤ 4; exact Nat.le_of_ble_eq_true rfl) | assumption | exact nbo_0 | exact nbo_1 | exact b2_b) only [FE81, s81_0, s81_1, s81_4, s81_7, s81_9, ↓reduceIte, psh_some, psh_none, cln_i, cln_r, cln_n, cln_l, cln_d, cln_f, Option.bind_some, Option.bind_none, if_true, if_false, nI_add, pk_mul, nbo_0, nbo_1, nI_leI, nI_ltI, nI_eq, Nat.reduceAdd, Nat.reduceMul, Nat.add_zero, Nat.mul_zero, gm_3, m2, z0]
  · obtain ⟨w, rfl⟩ : ∃ w, u = w + 1 := ⟨u - 1, by omega⟩
    have hw : w < 6 := by omega
    have e1 : (0 : Int32) < nI (w + 1) := by
      rw [← nI_0]
      exact nI_lt (by omega) (by omega)
    have e2 : (nI (w + 1) = (0 : Int32)) = False := eq_false (nI_ne0 (by omega) (by omega))
    have hs : nI (w + 1) - nI 1 = nI w := nI_sub (by omega)
    have hh := q4 w hw
    have k1 := hi_c hw
    have k2 := hi_v (R := R) (nw := nw) (bf := bf) (h := h) hw
    have k3 := hi_w (x := nw) hw (by omega)
    have k4 := hi_s (R := R) (nw := h w) (bf := bf) (h := h) (x := nw) hw
    have k5 := fun J => pd_0 (I := J) (R := R) (nw := nw) (bf := bf) (h := h) (x := h w) (by omega)
    have hL := lay_pn (I := up (up I 20 (up (I 20) 0 (nI w))) 32 (up (I 32) 2 (nI w))) (R := QR R (h w) bf (up h w nw)) (u := w) (a := p w) (e := a) hw (by rw [up_ne (by omega), up_ne (by omega)]; exact m4 w (by omega)) (by rw [up_ne (by omega), up_ne (by omega)]; exact m1) (hG.2.1 w (by omega)).1.zz hG.1.1.zz
    have hRM2 : RM (QR R (h w) bf (up h w nw)) := QR_RM hB.2.2.2.2
    refine ⟨.int (nI w), up I 20 (up (I 20) 0 (nI w)), QR R (h w) bf (up h w nw), up (up (up I 20 (up (I 20) 0 (nI w))) 32 (up (I 32) 2 (nI w))) 225 (vI (p w)), ?_, ?_, ⟨h w, bf, up h w nw, p w, w, p, sl, hd, n, q, rfl, ⟨hG.2.1 w (by omega), fun i hi => hG.2.1 i (by omega), hG.2.2⟩, ⟨⟨hh.1, q2, hh.2.2, ?_, ?_⟩, ?_, ⟨?_, by omega, ?_, ?_, ?_⟩, ⟨?_, ?_⟩, ?_, ?_, ?_, ?_⟩, ⟨⟨?_, ?_, by omega, ?_, ?_⟩, ⟨?_, ?_⟩, ?_, ?_, ?_, ?_⟩⟩, ?_, ?_, ?_, ?_⟩
    · simp (disch := first | omega | (show List.length _ ≤ 4; exact Nat.le_of_ble_eq_true rfl) | assumption | exact nbo_0 | exact nbo_1 | exact b2_b) only [FE76, s76_0, s76_1, s76_4, s76_7, s76_9, s76_10, s76_11i, s76_11r, s76_12, s76_15, s76_16, s76_17, s76_20, s76_21, s76_24, s76_25, s76_26, s76_27, s76_30, s76_31, s76_34, s76_35, s76_38, s76_39, s76_42, s76_43, s76_46, s76_47, s76_48, s76_49, s76_52, ↓reduceIte, psh_some, psh_none, cln_i, cln_r, cln_n, cln_l, cln_d, cln_f, Option.bind_some, Option.bind_none, if_true, if_false, nI_add, pk_mul, nbo_0, nbo_1, nI_leI, nI_ltI, nI_eq, Nat.reduceAdd, Nat.reduceMul, Nat.add_zero, Nat.mul_zero, up_at, up_up, up_vI, vI_at, gd_0, gd_2 hB, gd_3, pd_3, d1, e1, hs, k1, k2, k3, k4, k5]
    · have n32 : up I 20 (up (I 20) 0 (nI w)) 32 = I 32 := up_ne (by omega)
      have n2 : up (up (up I 20 (up (I 20) 0 (nI w))) 32 (up (I 32) 2 (nI w))) 225 (vI (p w)) 32 = up (I 32) 2 (nI w) := by rw [up_ne (by omega), up_at]
      simp (disch := first | omega | (show List.length _ ≤ 4; exact Nat.le_of_ble_eq_true rfl) | assumption | exact nbo_0 | exact nbo_1 | exact b2_b) only [FE81, s81_0, s81_1, s81_4, s81_7, s81_9, s81_10, s81_11i, s81_11r, s81_12, s81_15, s81_16, s81_17, s81_20, s81_21, s81_24, s81_27, s81_28, s81_31, s81_32, s81_33, s81_36, s81_37, s81_40, s81_41, s81_44, ↓reduceIte, psh_some, psh_none, cln_i, cln_r, cln_n, cln_l, cln_d, cln_f, Option.bind_some, Option.bind_none, if_true, if_false, nI_add, pk_mul, nbo_0, nbo_1, nI_leI, nI_ltI, nI_eq, Nat.reduceAdd, Nat.reduceMul, Nat.add_zero, Nat.mul_zero, up_at, gm_0 hRM2, gm_2 hRM2, gm_3, pm_3, n32, n2, m2, e2, hs, hL]
    · intro i hi
      by_cases e : i = w
      · rw [e, up_at]; exact ⟨q1, fun hc => hh.2.1 hc.symm, q3⟩
      · rw [up_ne e]
        exact ⟨(q4 i hi).1, inj6 q5 hi hw e, (q4 i hi).2.2⟩
    · intro i j hij hj
      by_cases e : i = w
      · rw [e, up_at, up_ne (by omega)]; exact fun hc => (q4 j hj).2.1 hc.symm
      · rw [up_ne e]
        by_cases e3 : j = w
        · rw [e3, up_at]; exact (q4 i (by omega)).2.1
        · rw [up_ne e3]; exact q5 i j hij hj
    · rw [up_ne (by omega), up_ne (by omega), up_ne (by omega)]; exact d3 w (by omega)
    · rw [up_ne (by omega), up_ne (by omega), up_at, up_at]
    · intro i hi
      have := (q4 i (by omega)).1
      rw [up_ne (show i ≠ w by omega), up_ne (by omega), up_ne (by omega), up_ne (by omega)]; exact d3 i (by omega)
    · rw [up_ne (by omega), up_ne (by omega), up_ne (by omega)]; exact d4
    · intro i hi
      rw [up_ne (by by_cases e : i = w; rw [e, up_at]; omega; rw [up_ne e]; have := (q4 i hi).1; omega), up_ne (by by_cases e : i = w; rw [e, up_at]; omega; rw [up_ne e]; have := (q4 i hi).1; omega), up_ne (by by_cases e : i = w; rw [e, up_at]; omega; rw [up_ne e]; have := (q4 i hi).1; omega)]
      by_cases e : i = w
      · rw [e, up_at, c2]; exact ⟨a, rfl, hG.1.1.zz⟩
      · rw [up_ne e]; exact d5 i hi
    · intro i hi; rw [up_ne (by omega), up_ne (by omega), up_ne (by omega)]; exact s1 i hi
    · intro i hi; rw [up_ne (by omega), up_ne (by omega), up_ne (by omega)]; exact s2 i hi
    · intro i hi; rw [up_ne (by omega), up_ne (by omega), up_at, up_ne (by omega)]; exact c5 i hi
    · rw [up_ne (by omega), up_ne (by omega), up_at, up_ne (by omega)]; exact c6
    · intro k hk; rw [up_ne (by omega), up_ne (by omega), up_at, up_ne (by omega)]; exact c7 k hk
    · intro v h1 h2; rw [up_ne (by omega), up_ne (by omega), up_ne (by omega)]; exact c8 v h1 h2
    · rw [up_at]
    · rw [up_ne (by omega), up_at, up_at]
    · intro i hi; rw [up_ne (by omega), up_ne (by omega), up_ne (by omega)]; exact m4 i (by omega)
    · intro i hi; rw [up_ne (by omega), up_ne (by omega), up_ne (by omega)]; exact m5 i hi
    · intro i hi; rw [up_ne (by omega), up_ne (by omega), up_ne (by omega)]; exact t1 i hi
    · intro i hi; rw [up_ne (by omega), up_ne (by omega), up_ne (by omega)]; exact t2 i hi
    · intro i hi; rw [up_ne (by omega), up_at, up_ne (by omega)]; exact n3 i hi
    · rw [up_ne (by omega), up_at, up_ne (by omega)]; exact n4
    · intro k hk; rw [up_ne (by omega), up_at, up_ne (by omega)]; exact n5 k hk
    · rw [up_ne (by omega), up_ne (by omega), up_ne (by omega)]; exact n6
    · rw [up_ne (by omega), up_ne (by omega), up_ne (by omega)]
    · rw [up_ne (by omega), up_ne (by omega), up_ne (by omega)]
    · rw [up_ne (by omega)]
    · rw [up_ne (by omega)]
end UN
