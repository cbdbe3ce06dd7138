/-! ===== wipe, inOrder ===== -/
section WI
variable {I : Nat → Nat → Int32} {R : Nat → Nat → Option Nat} {nw bf u n N : Nat} {h hd q : Nat → Nat} {p sl : Nat → Nat → Nat} {a : Nat → Nat}
theorem gp_2 : gfI 210 I R 0 2 212 = some (.int (I 20 3)) := rfl
theorem pp_2 {x : Int32} : pfI 210 I R 0 2 212 (.int x) = some (up I 20 (up (I 20) 3 x), R) := rfl
/-- another text on the pad: n' signs q' -/
theorem CL.pad {I' : Nat → Nat → Int32} {n' : Nat} {q' : Nat → Nat} (hC : CL I nw bf h a u p sl hd n q) (e : ∀ v, v < 20 → I' v = I v) (e0 : ∀ j, j < 3 → I' 20 j = I 20 j) (e3 : I' 20 3 = nI n') (eq : ∀ k, k < n' → I' 20 (10 + k) = nI (q' k)) : CL I' nw bf h a u p sl hd n' q' := by
  obtain ⟨c1, c2, ⟨d1, d2, d3, d4, d5⟩, ⟨s1, s2⟩, c5, c6, c7, c8⟩ := hC
  have b1 := c1.1
  have b2' := c1.2.1
  refine ⟨c1, by rw [e nw (by omega)]; exact c2, ⟨by rw [e0 0 (by omega)]; exact d1, d2, fun i hi => ?_, by rw [e bf (by omega)]; exact d4, fun i hi => ?_⟩, ⟨fun i hi => by rw [e _ (by omega)]; exact s1 i hi, fun i hi => by rw [e _ (by omega)]; exact s2 i hi⟩, fun i hi => by rw [e0 _ (by omega)]; exact c5 i hi, e3, eq, fun v h1 h2 => by rw [e v (by omega)]; exact c8 v h1 h2⟩
  · have := (c1.2.2.2.1 i (by omega)).1
    rw [e _ (by omega)]; exact d3 i hi
  · have := (c1.2.2.2.1 i hi).1
    rw [e _ (by omega)]; exact d5 i hi
theorem ML.pad {I' : Nat → Nat → Int32} {n' : Nat} {q' : Nat → Nat} (hC : ML I a u p sl hd n q) (e : ∀ v, 40 ≤ v → v ≠ 60 → v ≠ 61 → I' v = I v) (e0 : ∀ j, j < 3 → I' 32 j = I 32 j) (e3 : I' 32 3 = nI n') (eq : ∀ k, k < n' → I' 32 (10 + k) = nI (q' k)) : ML I' a u p sl hd n' q' := by
  obtain ⟨⟨d1, d2, d3, d4, d5⟩, ⟨s1, s2⟩, c5, c6, c7, c8⟩ := hC
  exact ⟨⟨by rw [e 225 (by omega) (by omega) (by omega)]; exact d1, by rw [e0 2 (by omega)]; exact d2, d3, fun i hi => by rw [e _ (by omega) (by omega) (by omega)]; exact d4 i hi, fun i hi => by rw [e _ (by omega) (by omega) (by omega)]; exact d5 i hi⟩, ⟨fun i hi => by rw [e _ (by omega) (by omega) (by omega)]; exact s1 i hi, fun i hi => by rw [e _ (by omega) (by omega) (by omega)]; exact s2 i hi⟩, fun i hi => by rw [e0 i (by omega)]; exact c5 i hi, e3, eq, by rw [e 226 (by omega) (by omega) (by omega)]; exact c8⟩
theorem pr_wipe (hB : BR R) (hG : GL N a u p sl hd n q) (hC : CL I nw bf h a u p sl hd n q) (hM : ML I a u p sl hd n q) : PR R I (QR R nw bf h) N 73 [.ref 208] 140 [.ref 224] := by
  have g1 := hC.2.2.2.2.2.1
  have g2 := hM.2.2.2.1
  have n32 : up I 20 (up (I 20) 3 (nI 0)) 32 = I 32 := up_ne (by omega)
  refine ⟨.int (nI n), up I 20 (up (I 20) 3 (nI 0)), QR R nw bf h, up (up I 20 (up (I 20) 3 (nI 0))) 32 (up (I 32) 3 (nI 0)), ?_, ?_, ⟨nw, bf, h, a, u, p, sl, hd, 0, q, rfl, ⟨hG.1, hG.2.1, hG.2.2.1, by decide, fun k hk => by omega⟩, hC.pad (fun v hv => by rw [up_ne (by omega), up_ne (by omega)]) (fun j hj => by rw [up_ne (by omega), up_at, up_ne (by omega)]) (by rw [up_ne (by omega), up_at, up_at]) (fun k hk => by omega), hM.pad (fun v h1 h2 h3 => by rw [up_ne (by omega), up_ne (by omega)]) (fun j hj => by rw [up_at, up_ne (by omega)]) (by rw [up_at, up_at]) (fun k hk => by omega)⟩, by rw [up_ne (by omega), up_ne (by omega)], by rw [up_ne (by omega), up_ne (by omega)], by rw [up_ne (by omega)], by rw [up_ne (by omega)]⟩
  · simp (disch := first | omega | (show List.length _ ≤ 4; exact Nat.le_of_ble_eq_true rfl) | assumption | exact nbo_0 | exact nbo_1 | exact b2_b) only [FE73, s73_0, s73_1, s73_4, s73_7, s73_8, s73_9, s73_12, s73_13, s73_16, s73_17, ↓reduceIte, psh_some, psh_none, cln_i, cln_r, cln_n, cln_l, cln_d, cln_f, Option.bind_some, Option.bind_none, if_true, if_false, nI_add, pk_mul, nbo_0, nbo_1, nI_leI, nI_ltI, nI_eq, Nat.reduceAdd, Nat.reduceMul, Nat.add_zero, Nat.mul_zero, gd_6 hB, gp_2, pp_2, g1]
  · simp (disch := first | omega | (show List.length _ ≤ 4; exact Nat.le_of_ble_eq_true rfl) | assumption | exact nbo_0 | exact nbo_1 | exact b2_b) only [FE140, s140_0, s140_1, s140_4, s140_5, s140_6, s140_7, s140_10, s140_11, ↓reduceIte, psh_some, psh_none, cln_i, cln_r, cln_n, cln_l, cln_d, cln_f, Option.bind_some, Option.bind_none, if_true, if_false, nI_add, pk_mul, nbo_0, nbo_1, nI_leI, nI_ltI, nI_eq, Nat.reduceAdd, Nat.reduceMul, Nat.add_zero, Nat.mul_zero, gm_7, pm_7, n32, g2]
end WI
