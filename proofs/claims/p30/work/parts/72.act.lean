/-! ===== the law reads its script and acts ===== -/
theorem and_low (x : Int32) : ∃ c, c < 2 ^ 31 ∧ x &&& 2147483647 = nI c := by
  refine ⟨x.toBitVec.toNat % 2 ^ 31, Nat.mod_lt _ (by decide), ?_⟩
  apply Int32.toBitVec_inj.mp
  rw [Int32.toBitVec_and]
  show x.toBitVec &&& BitVec.ofNat 32 2147483647 = BitVec.ofNat 32 (x.toBitVec.toNat % 2 ^ 31)
  apply BitVec.eq_of_toNat_eq
  rw [BitVec.toNat_and, BitVec.toNat_ofNat, BitVec.toNat_ofNat]
  show x.toBitVec.toNat &&& (2 ^ 31 - 1) = _
  rw [Nat.and_two_pow_sub_one_eq_mod]
  have := Nat.mod_lt x.toBitVec.toNat (show 0 < 2 ^ 31 by decide)
  exact (Nat.mod_eq_of_lt (by omega)).symm
section LA
variable {I : Nat → Nat → Int32} {R : Nat → Nat → Option Nat} {L : Nat}
theorem f80 (x : Int32) {n : Nat} (h0 : 0 < n) (hn : n < 2 ^ 31) : ∃ m, m < n ∧ ∀ M, FF 80 [.int x, .int (nI n)] M = some (some (.int (nI m)), M) := by
  obtain ⟨c, hc, e⟩ := and_low x
  refine ⟨c % n, Nat.mod_lt _ h0, fun M => ?_⟩
  simp (disch := first | omega | (show List.length _ ≤ 4; exact Nat.le_of_ble_eq_true rfl) | assumption | exact nbo_0 | exact nbo_1 | exact b2_b) only [FE80, s80_0, s80_1, s80_3, s80_4, s80_5, s80_6, ↓reduceIte, psh_some, psh_none, cln_i, cln_r, cln_n, cln_l, cln_d, cln_f, Option.bind_some, Option.bind_none, if_true, if_false, nI_add, pk_mul, nbo_0, nbo_1, nI_leI, nI_ltI, nI_eq, Nat.reduceAdd, Nat.reduceMul, Nat.add_zero, Nat.mul_zero, e]
theorem alL (h61 : I 61 = fun _ => nI L) (hL : L ≤ 260) : aln 202 I 1000 = some (nI L) := by
  unfold aln
  rw [if_neg (by decide), if_pos rfl, h61, nI_clamp (by omega)]
theorem rdx {j : Nat} (h61 : I 61 = fun _ => nI L) (hL : L ≤ 260) (hj : j < L) : ardI 5 202 I 1000 (nI j) = some (I 60 j) := by
  unfold ardI
  rw [if_neg (by decide), if_pos rfl, h61, if_pos ⟨rfl, by rw [nI_clamp (show L < 2 ^ 31 by omega)]; exact nI_inb hj (by omega)⟩, nI_clamp (by omega)]
theorem f81 {j : Nat} (h61 : I 61 = fun _ => nI L) (hL : L ≤ 260) (hj : j < 2 ^ 20) : ∃ x, ∀ R, FF 81 [.ref 1000, .int (nI j)] (202, I, R) = some (some (.int x), 202, I, R) := by
  have g := alL h61 hL
  by_cases e : j < L
  · have e2 : ¬ L ≤ j := by omega
    have g2 := rdx h61 hL e
    refine ⟨I 60 j, fun R => ?_⟩
    simp (disch := first | omega | (show List.length _ ≤ 4; exact Nat.le_of_ble_eq_true rfl) | assumption | exact nbo_0 | exact nbo_1 | exact b2_b) only [FE81, s81_0, s81_1, s81_2, s81_3, s81_6, s81_7, s81_8, s81_9, s81_12, s81_14, s81_15, s81_16, s81_19, s81_20, ↓reduceIte, psh_some, psh_none, cln_i, cln_r, cln_n, cln_l, cln_d, cln_f, Option.bind_some, Option.bind_none, if_true, if_false, nI_add, pk_mul, nbo_0, nbo_1, nI_leI, nI_ltI, nI_eq, Nat.reduceAdd, Nat.reduceMul, Nat.add_zero, Nat.mul_zero, g, g2, e2]
  · have e2 : L ≤ j := by omega
    refine ⟨40503 * nI j + nI 977, fun R => ?_⟩
    simp (disch := first | omega | (show List.length _ ≤ 4; exact Nat.le_of_ble_eq_true rfl) | assumption | exact nbo_0 | exact nbo_1 | exact b2_b) only [FE81, s81_0, s81_1, s81_2, s81_3, s81_6, s81_7, s81_8, s81_9, s81_12, s81_14, s81_15, s81_16, s81_19, s81_20, ↓reduceIte, psh_some, psh_none, cln_i, cln_r, cln_n, cln_l, cln_d, cln_f, Option.bind_some, Option.bind_none, if_true, if_false, nI_add, pk_mul, nbo_0, nbo_1, nI_leI, nI_ltI, nI_eq, Nat.reduceAdd, Nat.reduceMul, Nat.add_zero, Nat.mul_zero, g, e2]
end LA
/-- the desk stands well: now and all past ones -/
def GL (N : Nat) (a : Nat → Nat) (u : Nat) (p : Nat → Nat → Nat) : Prop := WX N a ∧ ∀ i, i < u → WX N (p i)
section LB
variable {I : Nat → Nat → Int32} {R : Nat → Nat → Option Nat} {nw bf u N L : Nat} {h : Nat → Nat} {p : Nat → Nat → Nat} {a a' : Nat → Nat} {K K2 : Nat} {as1 as2 : List Value} {r : Int32} {u' : Nat} {p' : Nat → Nat → Nat}
theorem GL.mono {N' : Nat} (hG : GL N a u p) (hn : N ≤ N') : GL N' a u p := ⟨hG.1.mono hn, fun i hi => (hG.2 i hi).mono hn⟩
theorem ST.lift (hS : ST R I nw bf h K as1 r a' u' p') (q : ∀ M', FF K as1 (202, I, QR R nw bf h) = some (some (.int r), M') → FF K2 as2 (202, I, QR R nw bf h) = some (some (.int r), M')) : ST R I nw bf h K2 as2 r a' u' p' := by
  obtain ⟨I', nw', bf', h', g, hr⟩ := hS
  exact ⟨I', nw', bf', h', q _ g, hr⟩
/-- what an act does: nothing where a shift is to end; refused; or done -/
def AR (R : Nat → Nat → Option Nat) (I : Nat → Nat → Int32) (nw bf : Nat) (h : Nat → Nat) (N : Nat) (a : Nat → Nat) (u : Nat) (p : Nat → Nat → Nat) (K : Nat) (as1 : List Value) : Prop := FF K as1 (202, I, QR R nw bf h) = some (some (.int (-20)), 202, I, QR R nw bf h) ∨ (∃ r, r < 0 ∧ ¬ r = -20 ∧ ST R I nw bf h K as1 r a u p) ∨ ∃ r a' u' p', ¬ r < 0 ∧ GL N a' u' p' ∧ ST R I nw bf h K as1 r a' u' p'
theorem CR.ar (hR : CR R I nw bf h a u p K as1 (KP a)) (hG : GL N a u p) (hu : u ≤ 6) (q : ∀ r M', FF K as1 (202, I, QR R nw bf h) = some (some (.int r), M') → FF K2 as2 (202, I, QR R nw bf h) = some (some (.int r), M')) : AR R I nw bf h N a u p K2 as2 := by
  rcases hR with ⟨r, h1, h2, h3⟩ | ⟨r, a', h1, h2, h3⟩
  · exact Or.inr (Or.inl ⟨r, h1, h2, h3.lift (q r)⟩)
  · exact Or.inr (Or.inr ⟨r, a', _, _, h1, ⟨h2.wx hG.1, pushP_P hG.2 hG.1 hu⟩, h3.lift (q r)⟩)
theorem f84 (hB : BR R) (hC : CL I nw bf h a u p) (hG : GL N a u p) (hN : N < 2 ^ 30) (h61 : I 61 = fun _ => nI L) (hL : L ≤ 260) {j : Nat} (hj : j < 2 ^ 19) : AR R I nw bf h N a u p 84 [.ref 208, .ref 1000, .int (nI j)] := by
  have ho := od
  have hW := hG.1.1.1
  have h0 : a 0 < 2 ^ 30 := Nat.lt_of_le_of_lt hG.1.1.2.1 hN
  have hu := hC.2.2.1.2.1
  obtain ⟨x0, c0⟩ := f81 (j := j) h61 hL (by omega)
  obtain ⟨x1, c1⟩ := f81 (j := j + 1) h61 hL (by omega)
  obtain ⟨x2, c2⟩ := f81 (j := j + 2) h61 hL (by omega)
  obtain ⟨x3, c3⟩ := f81 (j := j + 3) h61 hL (by omega)
  obtain ⟨c, hc, d0⟩ := f80 x0 (n := 14) (by decide) (by decide)
  obtain ⟨t, ht, d1⟩ := f80 x1 (n := 11) (by decide) (by decide)
  obtain ⟨w, hw, d2⟩ := f80 x2 (n := 7) (by decide) (by decide)
  obtain ⟨m103, g103, d103⟩ := f80 x3 (n := 103) (by decide) (by decide)
  obtain ⟨m3, g3, d3⟩ := f80 x3 (n := 3) (by decide) (by decide)
  obtain ⟨m62, g62, d62⟩ := f80 x3 (n := 62) (by decide) (by decide)
  obtain ⟨m20, g20, d20⟩ := f80 x3 (n := 20) (by decide) (by decide)
  obtain ⟨m6, g6, d6⟩ := f80 x1 (n := 6) (by decide) (by decide)
  have st : FF 84 [.ref 208, .ref 1000, .int (nI j)] (202, I, QR R nw bf h) = EE 84 46 [some (.ref 208), some (.ref 1000), some (.int (nI j)), some (.int (nI t)), some (.int (nI w)), some (.int x3)] [.int (nI c)] (202, I, QR R nw bf h) := by
    simp (disch := first | omega | (show List.length _ ≤ 4; exact Nat.le_of_ble_eq_true rfl) | assumption | exact nbo_0 | exact nbo_1 | exact b2_b) only [FE84, s84_0, s84_1, s84_2, s84_3, s84_4, s84_7, s84_9, s84_12, s84_13, s84_14, s84_15, s84_16, s84_17, s84_20, s84_22, s84_25, s84_27, s84_28, s84_29, s84_30, s84_31, s84_34, s84_36, s84_37, s84_38, s84_41, s84_43, ↓reduceIte, psh_some, psh_none, cln_i, cln_r, cln_n, cln_l, cln_d, cln_f, Option.bind_some, Option.bind_none, if_true, if_false, nI_add, pk_mul, nbo_0, nbo_1, nI_leI, nI_ltI, nI_eq, Nat.reduceAdd, Nat.reduceMul, Nat.add_zero, Nat.mul_zero, c0, c1, c2, c3, d0, d1, d2]
  have mv : ∀ {K : Nat} {as1 : List Value}, CR R I nw bf h a u p K as1 (KP a) → (∀ r M', FF K as1 (202, I, QR R nw bf h) = some (some (.int r), M') → EE 84 46 [some (.ref 208), some (.ref 1000), some (.int (nI j)), some (.int (nI t)), some (.int (nI w)), some (.int x3)] [.int (nI c)] (202, I, QR R nw bf h) = some (some (.int r), M')) → AR R I nw bf h N a u p 84 [.ref 208, .ref 1000, .int (nI j)] := fun hR q => hR.ar hG hu (fun r M' g => st.trans (q r M' g))
  have eopen : ∀ r M', FF 52 [.ref 208] (202, I, QR R nw bf h) = some (some (.int r), M') → EE 84 108 [some (.ref 208), some (.ref 1000), some (.int (nI j)), some (.int (nI t)), some (.int (nI w)), some (.int x3)] [] (202, I, QR R nw bf h) = some (some (.int r), M') := fun r M' g => by
    simp (disch := first | omega | (show List.length _ ≤ 4; exact Nat.le_of_ble_eq_true rfl) | assumption | exact nbo_0 | exact nbo_1 | exact b2_b) only [s84_108, s84_109, s84_112, ↓reduceIte, psh_some, psh_none, cln_i, cln_r, cln_n, cln_l, cln_d, cln_f, Option.bind_some, Option.bind_none, if_true, if_false, nI_add, pk_mul, nbo_0, nbo_1, nI_leI, nI_ltI, nI_eq, Nat.reduceAdd, Nat.reduceMul, Nat.add_zero, Nat.mul_zero, g]
  have echk : ∀ r M', FF 54 [.ref 208, .int (nI t)] (202, I, QR R nw bf h) = some (some (.int r), M') → EE 84 119 [some (.ref 208), some (.ref 1000), some (.int (nI j)), some (.int (nI t)), some (.int (nI w)), some (.int x3)] [] (202, I, QR R nw bf h) = some (some (.int r), M') := fun r M' g => by
    simp (disch := first | omega | (show List.length _ ≤ 4; exact Nat.le_of_ble_eq_true rfl) | assumption | exact nbo_0 | exact nbo_1 | exact b2_b) only [s84_119, s84_120, s84_121, s84_124, ↓reduceIte, psh_some, psh_none, cln_i, cln_r, cln_n, cln_l, cln_d, cln_f, Option.bind_some, Option.bind_none, if_true, if_false, nI_add, pk_mul, nbo_0, nbo_1, nI_leI, nI_ltI, nI_eq, Nat.reduceAdd, Nat.reduceMul, Nat.add_zero, Nat.mul_zero, g]
  have elrn : ∀ r M', FF 55 [.ref 208, .int (nI w), .int (nI t), .int (nI m103)] (202, I, QR R nw bf h) = some (some (.int r), M') → EE 84 125 [some (.ref 208), some (.ref 1000), some (.int (nI j)), some (.int (nI t)), some (.int (nI w)), some (.int x3)] [] (202, I, QR R nw bf h) = some (some (.int r), M') := fun r M' g => by
    simp (disch := first | omega | (show List.length _ ≤ 4; exact Nat.le_of_ble_eq_true rfl) | assumption | exact nbo_0 | exact nbo_1 | exact b2_b) only [s84_125, s84_126, s84_128, s84_129, s84_131, s84_133, s84_136, s84_139, ↓reduceIte, psh_some, psh_none, cln_i, cln_r, cln_n, cln_l, cln_d, cln_f, Option.bind_some, Option.bind_none, if_true, if_false, nI_add, pk_mul, nbo_0, nbo_1, nI_leI, nI_ltI, nI_eq, Nat.reduceAdd, Nat.reduceMul, Nat.add_zero, Nat.mul_zero, d103, g]
  rcases (show c = 0 ∨ c = 1 ∨ c = 2 ∨ c = 3 ∨ c = 4 ∨ c = 5 ∨ c = 6 ∨ c = 7 ∨ c = 8 ∨ c = 9 ∨ c = 10 ∨ c = 11 ∨ c = 12 ∨ c = 13 by omega) with rfl | rfl | rfl | rfl | rfl | rfl | rfl | rfl | rfl | rfl | rfl | rfl | rfl | rfl
  · exact mv (c_open hB hC hW) (fun r M' g => by rw [s84_46_0]; exact eopen r M' g)
  · exact mv (c_open hB hC hW) (fun r M' g => by rw [s84_46_1]; exact eopen r M' g)
  · exact mv (c_turn hB hC hW (nI t)) (fun r M' g => by
      simp (disch := first | omega | (show List.length _ ≤ 4; exact Nat.le_of_ble_eq_true rfl) | assumption | exact nbo_0 | exact nbo_1 | exact b2_b) only [s84_46_2, s84_113, s84_114, s84_115, s84_118, ↓reduceIte, psh_some, psh_none, cln_i, cln_r, cln_n, cln_l, cln_d, cln_f, Option.bind_some, Option.bind_none, if_true, if_false, nI_add, pk_mul, nbo_0, nbo_1, nI_leI, nI_ltI, nI_eq, Nat.reduceAdd, Nat.reduceMul, Nat.add_zero, Nat.mul_zero, g])
  · exact mv (c_check hB hC hW (nI t)) (fun r M' g => by rw [s84_46_3]; exact echk r M' g)
  · exact mv (c_check hB hC hW (nI t)) (fun r M' g => by rw [s84_46_4]; exact echk r M' g)
  · exact mv (c_learn hB hC hW (nI w) (nI t) (nI m103)) (fun r M' g => by rw [s84_46_5]; exact elrn r M' g)
  · exact mv (c_learn hB hC hW (nI w) (nI t) (nI m103)) (fun r M' g => by rw [s84_46_6]; exact elrn r M' g)
  · exact mv (c_call hB hC hW h0 (nI t)) (fun r M' g => by
      simp (disch := first | omega | (show List.length _ ≤ 4; exact Nat.le_of_ble_eq_true rfl) | assumption | exact nbo_0 | exact nbo_1 | exact b2_b) only [s84_46_7, s84_140, s84_141, s84_142, s84_145, ↓reduceIte, psh_some, psh_none, cln_i, cln_r, cln_n, cln_l, cln_d, cln_f, Option.bind_some, Option.bind_none, if_true, if_false, nI_add, pk_mul, nbo_0, nbo_1, nI_leI, nI_ltI, nI_eq, Nat.reduceAdd, Nat.reduceMul, Nat.add_zero, Nat.mul_zero, g])
  · exact mv (c_roster hB hC hW (nI (t + m3)) (nI w)) (fun r M' g => by
      simp (disch := first | omega | (show List.length _ ≤ 4; exact Nat.le_of_ble_eq_true rfl) | assumption | exact nbo_0 | exact nbo_1 | exact b2_b) only [s84_46_8, s84_146, s84_147, s84_148, s84_150, s84_151, s84_154, s84_155, s84_157, s84_160, ↓reduceIte, psh_some, psh_none, cln_i, cln_r, cln_n, cln_l, cln_d, cln_f, Option.bind_some, Option.bind_none, if_true, if_false, nI_add, pk_mul, nbo_0, nbo_1, nI_leI, nI_ltI, nI_eq, Nat.reduceAdd, Nat.reduceMul, Nat.add_zero, Nat.mul_zero, d3, g])
  · exact mv (c_minutes hB hC hW (nI t) (nI m62)) (fun r M' g => by
      simp (disch := first | omega | (show List.length _ ≤ 4; exact Nat.le_of_ble_eq_true rfl) | assumption | exact nbo_0 | exact nbo_1 | exact b2_b) only [s84_46_9, s84_161, s84_162, s84_163, s84_165, s84_167, s84_170, s84_173, ↓reduceIte, psh_some, psh_none, cln_i, cln_r, cln_n, cln_l, cln_d, cln_f, Option.bind_some, Option.bind_none, if_true, if_false, nI_add, pk_mul, nbo_0, nbo_1, nI_leI, nI_ltI, nI_eq, Nat.reduceAdd, Nat.reduceMul, Nat.add_zero, Nat.mul_zero, d62, g])
  · exact mv (c_set hB hC hW (nI m6) (nI (1 + m20))) (fun r M' g => by
      simp (disch := first | omega | (show List.length _ ≤ 4; exact Nat.le_of_ble_eq_true rfl) | assumption | exact nbo_0 | exact nbo_1 | exact b2_b) only [s84_46_10, s84_174, s84_175, s84_176, s84_177, s84_178, s84_179, s84_182, s84_184, s84_187, s84_188, s84_190, s84_192, s84_195, s84_196, s84_199, ↓reduceIte, psh_some, psh_none, cln_i, cln_r, cln_n, cln_l, cln_d, cln_f, Option.bind_some, Option.bind_none, if_true, if_false, nI_add, pk_mul, nbo_0, nbo_1, nI_leI, nI_ltI, nI_eq, Nat.reduceAdd, Nat.reduceMul, Nat.add_zero, Nat.mul_zero, c1, d6, d20, g])
  · have q : ∀ r M', FF 76 [.ref 208] (202, I, QR R nw bf h) = some (some (.int r), M') → FF 84 [.ref 208, .ref 1000, .int (nI j)] (202, I, QR R nw bf h) = some (some (.int r), M') := fun r M' g => by
      rw [st]
      simp (disch := first | omega | (show List.length _ ≤ 4; exact Nat.le_of_ble_eq_true rfl) | assumption | exact nbo_0 | exact nbo_1 | exact b2_b) only [s84_46_11, s84_200, s84_201, s84_204, ↓reduceIte, psh_some, psh_none, cln_i, cln_r, cln_n, cln_l, cln_d, cln_f, Option.bind_some, Option.bind_none, if_true, if_false, nI_add, pk_mul, nbo_0, nbo_1, nI_leI, nI_ltI, nI_eq, Nat.reduceAdd, Nat.reduceMul, Nat.add_zero, Nat.mul_zero, g]
    rcases c_undo hB hC hW with ⟨-, hS⟩ | ⟨v, rfl, hS⟩
    · exact Or.inr (Or.inl ⟨-5, by decide, by decide, hS.lift (q _)⟩)
    · exact Or.inr (Or.inr ⟨nI v, p v, v, p, nI_pos (by omega), ⟨hG.2 v (by omega), fun i hi => hG.2 i (by omega)⟩, hS.lift (q _)⟩)
  · refine Or.inl ?_
    rw [st, s84_46_d (by decide)]
    simp (disch := first | omega | (show List.length _ ≤ 4; exact Nat.le_of_ble_eq_true rfl) | assumption | exact nbo_0 | exact nbo_1 | exact b2_b) only [s84_205, s84_207]
  · refine Or.inl ?_
    rw [st, s84_46_d (by decide)]
    simp (disch := first | omega | (show List.length _ ≤ 4; exact Nat.le_of_ble_eq_true rfl) | assumption | exact nbo_0 | exact nbo_1 | exact b2_b) only [s84_205, s84_207]
end LB
