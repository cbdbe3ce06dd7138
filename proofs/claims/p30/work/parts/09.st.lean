/-! ===== the State's methods ===== -/
theorem xo12 {x : Nat} (hx : x < 2 ^ 31) : 0 ≤ nI x ^^^ nI 12 := by
  have h : nI x ^^^ nI 12 = nI (x ^^^ 12) := by
    apply Int32.toBitVec_inj.mp
    apply BitVec.eq_of_toNat_eq
    show (BitVec.ofNat 32 x ^^^ BitVec.ofNat 32 12).toNat = (BitVec.ofNat 32 (x ^^^ 12)).toNat
    rw [BitVec.toNat_xor, BitVec.toNat_ofNat, BitVec.toNat_ofNat, BitVec.toNat_ofNat, Nat.xor_mod_two_pow]
  rw [h]
  exact nI_pos' (Nat.xor_lt_two_pow hx (by decide))
section S2
variable {M : Mm}
theorem f152 {x : Nat} (hx : x < 2 ^ 31) : FF 152 [.int (nI x), .int (nI 12)] M = some (some (.int (nI (x % 12))), M) := by
  have h := xo12 hx
  simp (disch := first | omega | (show List.length _ ≤ 4; exact Nat.le_of_ble_eq_true rfl) | assumption | exact nbo_0 | exact nbo_1 | exact b2_b) only [FE152, s152_0, s152_1, s152_2, s152_3, s152_4, s152_5, s152_6, s152_7, s152_10, s152_11, s152_14, s152_15, s152_16, s152_17, s152_18, s152_19, ↓reduceIte, psh_some, psh_none, cln_i, cln_r, cln_n, cln_l, cln_d, cln_f, Option.bind_some, Option.bind_none, if_true, if_false, nI_add, pk_mul, nbo_0, nbo_1, nI_leI, nI_ltI, nI_eq, Nat.reduceAdd, Nat.reduceMul, Nat.add_zero, Nat.mul_zero, h]
variable {I : Nat → Nat → Int32} {R : Nat → Nat → Option Nat} {b : Nat} {a : Nat → Nat}
theorem f26 (hb : b < 13) (hR : RS R) (hI : I b = vI a) (h0 : a 0 < 2 ^ 30) : FF 26 [.ref (16 * b)] (202, I, R) = some (some (.int (nI (a (14 + a 0 % 12)))), 202, I, R) := by
  have h := Nat.mod_lt (a 0) (show 12 > 0 by decide)
  simp (disch := first | omega | (show List.length _ ≤ 4; exact Nat.le_of_ble_eq_true rfl) | assumption | exact nbo_0 | exact nbo_1 | exact b2_b) only [FE26, s26_0, s26_1, s26_4, s26_5, s26_8, s26_10, s26_13, s26_14, ↓reduceIte, psh_some, psh_none, cln_i, cln_r, cln_n, cln_l, cln_d, cln_f, Option.bind_some, Option.bind_none, if_true, if_false, nI_add, pk_mul, nbo_0, nbo_1, nI_leI, nI_ltI, nI_eq, Nat.reduceAdd, Nat.reduceMul, Nat.add_zero, Nat.mul_zero, gs_1 hb hR, gs_11 hb, hI, vI_at, f152, as_2 hb]
theorem f28 (hb : b < 13) (hR : RS R) (hI : I b = vI a) (h0 : a 0 < 2 ^ 30) : FF 28 [.ref (16 * b)] (202, I, R) = some (some (.int (nI (a (26 + a 0 % 12)))), 202, I, R) := by
  have h := Nat.mod_lt (a 0) (show 12 > 0 by decide)
  simp (disch := first | omega | (show List.length _ ≤ 4; exact Nat.le_of_ble_eq_true rfl) | assumption | exact nbo_0 | exact nbo_1 | exact b2_b) only [FE28, s28_0, s28_1, s28_4, s28_5, s28_8, s28_10, s28_13, s28_14, ↓reduceIte, psh_some, psh_none, cln_i, cln_r, cln_n, cln_l, cln_d, cln_f, Option.bind_some, Option.bind_none, if_true, if_false, nI_add, pk_mul, nbo_0, nbo_1, nI_leI, nI_ltI, nI_eq, Nat.reduceAdd, Nat.reduceMul, Nat.add_zero, Nat.mul_zero, gs_2 hb hR, gs_11 hb, hI, vI_at, f152, as_3 hb]
theorem f30 (hb : b < 13) (hR : RS R) (hI : I b = vI a) (h0 : a 0 < 2 ^ 30) : FF 30 [.ref (16 * b)] (202, I, R) = some (some (.int (nI (a (14 + (a 0 + 1) % 12)))), 202, I, R) := by
  have h := Nat.mod_lt (a 0 + 1) (show 12 > 0 by decide)
  simp (disch := first | omega | (show List.length _ ≤ 4; exact Nat.le_of_ble_eq_true rfl) | assumption | exact nbo_0 | exact nbo_1 | exact b2_b) only [FE30, s30_0, s30_1, s30_4, s30_5, s30_8, s30_9, s30_10, s30_12, s30_15, s30_16, ↓reduceIte, psh_some, psh_none, cln_i, cln_r, cln_n, cln_l, cln_d, cln_f, Option.bind_some, Option.bind_none, if_true, if_false, nI_add, pk_mul, nbo_0, nbo_1, nI_leI, nI_ltI, nI_eq, Nat.reduceAdd, Nat.reduceMul, Nat.add_zero, Nat.mul_zero, gs_1 hb hR, gs_11 hb, hI, vI_at, f152, as_2 hb]
theorem f19 {t : Nat} (hb : b < 13) (hI : I b = vI a) (hw : WO a) (ht : t < 10) : FF 19 [.ref (16 * b), .int (nI t)] (202, I, R) = some (some (.int (b2 (a (38 + t) = 1))), 202, I, R) := by
  have h := hw.op t ht
  have h2 := pk_at hw.op ht
  have h3 := nI_pos (n := t) (by omega)
  have h4 := nI_ge (a := t) (b := 10) ht (by decide)
  simp (disch := first | omega | (show List.length _ ≤ 4; exact Nat.le_of_ble_eq_true rfl) | assumption | exact nbo_0 | exact nbo_1 | exact b2_b) only [FE19, s19_0, s19_1, s19_4, s19_5, s19_7, s19_10, s19_11, s19_14, s19_15, s19_16, s19_17, s19_18, s19_19, s19_22, s19_23, s19_26, s19_27, ↓reduceIte, psh_some, psh_none, cln_i, cln_r, cln_n, cln_l, cln_d, cln_f, Option.bind_some, Option.bind_none, if_true, if_false, nI_add, pk_mul, nbo_0, nbo_1, nI_leI, nI_ltI, nI_eq, Nat.reduceAdd, Nat.reduceMul, Nat.add_zero, Nat.mul_zero, gs_9 hb, hI, h2, h3, h4]
  by_cases e : a (38 + t) = 1
  · rw [if_pos e, b2_t e]
  · rw [if_neg e, b2_f e]
theorem f23 {w t : Nat} (hb : b < 13) (hR : RS R) (hI : I b = vI a) (hw : WO a) (hw6 : w < 6) (ht : t < 10) : FF 23 [.ref (16 * b), .int (nI w), .int (nI t)] (202, I, R) = some (some (.int (nI (a (58 + 10 * w + t)))), 202, I, R) := by
  have ho := os hb
  have h1 := nI_pos (n := w) (by omega)
  have h2 := nI_ge (a := w) (b := 6) hw6 (by decide)
  have h3 := lv_c hb hw6
  have h4 := lv_v hb hw6 hR
  have h5 : FF 49 [.int (nI w)] (202, I, R) = some (some (.int (nI 1)), 202, I, R) := by rw [f49, b2_t ⟨h1, h2⟩]
  have h6 : ¬ nI 1 = 0 := by decide
  by_cases e : t < a 1
  · simp (disch := first | omega | (show List.length _ ≤ 4; exact Nat.le_of_ble_eq_true rfl) | assumption | exact nbo_0 | exact nbo_1 | exact b2_b) only [FE23, s23_0, s23_1, s23_4, s23_7, s23_8, s23_9, s23_12, s23_15, s23_16, s23_19, s23_20, s23_21, s23_22, s23_23, s23_26, s23_27, ↓reduceIte, psh_some, psh_none, cln_i, cln_r, cln_n, cln_l, cln_d, cln_f, Option.bind_some, Option.bind_none, if_true, if_false, nI_add, pk_mul, nbo_0, nbo_1, nI_leI, nI_ltI, nI_eq, Nat.reduceAdd, Nat.reduceMul, Nat.add_zero, Nat.mul_zero, gs_3 hb hR, hI, vI_at, h5, f18 hb hI hw, ho, as_5 hb hw6, b2_if, h3, h4, h6, e]
  · simp (disch := first | omega | (show List.length _ ≤ 4; exact Nat.le_of_ble_eq_true rfl) | assumption | exact nbo_0 | exact nbo_1 | exact b2_b) only [FE23, s23_0, s23_1, s23_4, s23_7, s23_8, s23_9, s23_12, s23_15, s23_16, s23_19, s23_20, s23_21, s23_22, s23_23, s23_26, s23_27, ↓reduceIte, psh_some, psh_none, cln_i, cln_r, cln_n, cln_l, cln_d, cln_f, Option.bind_some, Option.bind_none, if_true, if_false, nI_add, pk_mul, nbo_0, nbo_1, nI_leI, nI_ltI, nI_eq, Nat.reduceAdd, Nat.reduceMul, Nat.add_zero, Nat.mul_zero, gs_3 hb hR, hI, vI_at, h5, f18 hb hI hw, ho, as_5 hb hw6, b2_if, h3, h4, h6, e, hw.lz w t hw6 ht (by omega)]
theorem f24 {w t x : Nat} (hb : b < 13) (hR : RS R) (hI : I b = vI a) (hw : WO a) (hw6 : w < 6) (ht : t < a 1) : FF 24 [.ref (16 * b), .int (nI w), .int (nI t), .int (nI x)] (202, I, R) = some (none, 202, up I b (vI (up a (58 + 10 * w + t) x)), R) := by
  have ho := os hb
  have h1 := nI_pos (n := w) (by omega)
  have h2 := nI_ge (a := w) (b := 6) hw6 (by decide)
  have h3 := lv_c hb hw6
  have h4 := lv_v hb hw6 hR
  have h5 : FF 49 [.int (nI w)] (202, I, R) = some (some (.int (nI 1)), 202, I, R) := by rw [f49, b2_t ⟨h1, h2⟩]
  have h6 : ¬ nI 1 = 0 := by decide
  have h7 := hw.tp
  have h8 := cs_5 (k := t) hb hw6 (by omega)
  simp (disch := first | omega | (show List.length _ ≤ 4; exact Nat.le_of_ble_eq_true rfl) | assumption | exact nbo_0 | exact nbo_1 | exact b2_b) only [FE24, s24_0, s24_1, s24_4, s24_7, s24_8, s24_9, s24_12, s24_15, s24_16, s24_19, s24_20, s24_21, s24_22, s24_23, s24_24, ↓reduceIte, psh_some, psh_none, cln_i, cln_r, cln_n, cln_l, cln_d, cln_f, Option.bind_some, Option.bind_none, if_true, if_false, nI_add, pk_mul, nbo_0, nbo_1, nI_leI, nI_ltI, nI_eq, Nat.reduceAdd, Nat.reduceMul, Nat.add_zero, Nat.mul_zero, gs_3 hb hR, hI, vI_at, h5, f18 hb hI hw, ho, ws_5 hb hw6, b2_if, h3, h4, h6, ht, up_vI]
theorem f38 {w t : Nat} (hb : b < 13) (hR : RS R) (hI : I b = vI a) (hw : WO a) (hw6 : w < 6) (ht : t < 10) : FF 38 [.ref (16 * b), .int (nI w), .int (nI t)] (202, I, R) = some (some (.int (b2 (a 2 ≤ a (58 + 10 * w + t)))), 202, I, R) := by
  have ho := os hb
  have h1 := hw.lv w t hw6 ht
  have h2 := hw.kn
  simp (disch := first | omega | (show List.length _ ≤ 4; exact Nat.le_of_ble_eq_true rfl) | assumption | exact nbo_0 | exact nbo_1 | exact b2_b) only [FE38, s38_0, s38_1, s38_2, s38_3, s38_6, s38_7, s38_10, s38_11, s38_12, s38_15, s38_16, s38_19, s38_20, ↓reduceIte, psh_some, psh_none, cln_i, cln_r, cln_n, cln_l, cln_d, cln_f, Option.bind_some, Option.bind_none, if_true, if_false, nI_add, pk_mul, nbo_0, nbo_1, nI_leI, nI_ltI, nI_eq, Nat.reduceAdd, Nat.reduceMul, Nat.add_zero, Nat.mul_zero, gs_0 hb hR, hI, vI_at, ho, f23 hb hR hI hw hw6, as_1 hb]
  by_cases e : a 2 ≤ a (58 + 10 * w + t)
  · rw [if_neg (by omega), b2_t e]
  · rw [if_pos (by omega), b2_f e]
theorem f39 (hb : b < 13) (hI : I b = vI a) (hw : WO a) : FF 39 [.ref (16 * b)] (202, I, R) = some (some (.int (nI (bsum a))), 202, I, R) := by
  have h := pkN_lt hw.op
  have h2 : bitsOf (pkN (vI a)) = bsum a := by
    have h3 := fun t ht => pkN_bit hw.op (t := t) ht
    have h30 := h3 0 (by decide)
    have h31 := h3 1 (by decide)
    have h32 := h3 2 (by decide)
    have h33 := h3 3 (by decide)
    have h34 := h3 4 (by decide)
    have h35 := h3 5 (by decide)
    have h36 := h3 6 (by decide)
    have h37 := h3 7 (by decide)
    have h38 := h3 8 (by decide)
    have h39 := h3 9 (by decide)
    simp only [Nat.reducePow, Nat.reduceAdd, Nat.div_one] at h30 h31 h32 h33 h34 h35 h36 h37 h38 h39
    unfold bitsOf bsum
    omega
  unfold pk at *
  simp (disch := first | omega | (show List.length _ ≤ 4; exact Nat.le_of_ble_eq_true rfl) | assumption | exact nbo_0 | exact nbo_1 | exact b2_b) only [FE39, s39_0, s39_1, s39_4, s39_7, ↓reduceIte, psh_some, psh_none, cln_i, cln_r, cln_n, cln_l, cln_d, cln_f, Option.bind_some, Option.bind_none, if_true, if_false, nI_add, pk_mul, nbo_0, nbo_1, nI_leI, nI_ltI, nI_eq, Nat.reduceAdd, Nat.reduceMul, Nat.add_zero, Nat.mul_zero, gs_9 hb, hI, pk, f154, h2]
end S2
