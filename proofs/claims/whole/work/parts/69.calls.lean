/-! ===== each kind of call ===== -/
section LW
variable {R0 R : Nat → Nat → Option Nat} {I J : Nat → Nat → Int32} {N L i : Nat} {xs : Nat → Int32}
theorem rd_x {k : Nat} (h60 : J 60 = xs) (h61 : J 61 = fun _ => nI L) (hk : i + k < L) (hL : L ≤ 2048) : ardI 5 210 J 1000 (nI (i + k)) = some (xs (i + k)) := by
  unfold ardI
  rw [if_neg (by decide), if_pos rfl, h60, h61, if_pos ⟨rfl, by rw [nI_clamp (show L < 2 ^ 31 by omega)]; exact nI_inb hk (by omega)⟩, nI_clamp (by omega)]
theorem lg_self (x : Int64) : lg_cmp x x = 0 := by
  unfold lg_cmp
  rw [if_neg (fun h => Int64.lt_irrefl h), if_pos rfl]

theorem lw_0 (hB : BR R0) (hL : RL R0 N I R) (hN : N < 2 ^ 17) (h60 : I 60 = xs) (h61 : I 61 = fun _ => nI L) (hi : i + 4 ≤ L) (hLL : L ≤ 2048) : ∃ I2 R1, EE 171 156 [some (.ref 1000), some (.ref 208), some (.ref 224), some (.int (nI i))] [] (210, I, R) = EE 171 818 [some (.ref 1000), some (.ref 208), some (.ref 224), some (.int (nI i))] [] (210, I2, R1) ∧ RL R0 (N + 80) I2 R1 ∧ I2 60 = xs ∧ I2 61 = fun _ => nI L := by
  obtain ⟨nw, bf, h, a, u, p, sl, hd, n, q, rfl, hG, hC, hM⟩ := hL
  have ho := od
  have ho2 := om
  obtain ⟨r, I1, R1, I2, e1, e2, hR, s1, s2, s3, s4⟩ := pr_set hB hG hC hM (xs (i + 1)) (xs (i + 2))
  have y1 := rd_x (J := I) (i := i) (k := 1) h60 h61 (by omega) hLL
  have z1' := rd_x (J := I1) (i := i) (k := 1) (s3.trans h60) (s4.trans h61) (by omega) hLL
  have y2 := rd_x (J := I) (i := i) (k := 2) h60 h61 (by omega) hLL
  have z2' := rd_x (J := I1) (i := i) (k := 2) (s3.trans h60) (s4.trans h61) (by omega) hLL
  obtain ⟨v, rfl⟩ := FF_int rfl e1
  refine ⟨I2, R1, ?_, hR.mono (by omega), s1.trans h60, s2.trans h61⟩
  simp (disch := first | omega | (show List.length _ ≤ 4; exact Nat.le_of_ble_eq_true rfl) | assumption | exact nbo_0 | exact nbo_1 | exact b2_b) only [s171_156, s171_157, s171_158, s171_159, s171_160, s171_161, s171_162, s171_163, s171_164, s171_165, s171_166, s171_167, s171_170, s171_171, s171_172, s171_173, s171_174, s171_175, s171_176, s171_177, s171_178, s171_179, s171_180, s171_181, s171_184, ↓reduceIte, psh_some, psh_none, cln_i, cln_r, cln_n, cln_l, cln_d, cln_f, Option.bind_some, Option.bind_none, if_true, if_false, nI_add, pk_mul, nbo_0, nbo_1, nI_leI, nI_ltI, nI_eq, Nat.reduceAdd, Nat.reduceMul, Nat.add_zero, Nat.mul_zero, y1, z1', y2, z2',  e1, e2, eq_self]
theorem lw_1 (hB : BR R0) (hL : RL R0 N I R) (hN : N < 2 ^ 17) (h60 : I 60 = xs) (h61 : I 61 = fun _ => nI L) (hi : i + 4 ≤ L) (hLL : L ≤ 2048) : ∃ I2 R1, EE 171 189 [some (.ref 1000), some (.ref 208), some (.ref 224), some (.int (nI i))] [] (210, I, R) = EE 171 818 [some (.ref 1000), some (.ref 208), some (.ref 224), some (.int (nI i))] [] (210, I2, R1) ∧ RL R0 (N + 80) I2 R1 ∧ I2 60 = xs ∧ I2 61 = fun _ => nI L := by
  obtain ⟨nw, bf, h, a, u, p, sl, hd, n, q, rfl, hG, hC, hM⟩ := hL
  have ho := od
  have ho2 := om
  obtain ⟨r, I1, R1, I2, e1, e2, hR, s1, s2, s3, s4⟩ := pr_roster hB hG hC hM (xs (i + 1)) (xs (i + 2))
  have y1 := rd_x (J := I) (i := i) (k := 1) h60 h61 (by omega) hLL
  have z1' := rd_x (J := I1) (i := i) (k := 1) (s3.trans h60) (s4.trans h61) (by omega) hLL
  have y2 := rd_x (J := I) (i := i) (k := 2) h60 h61 (by omega) hLL
  have z2' := rd_x (J := I1) (i := i) (k := 2) (s3.trans h60) (s4.trans h61) (by omega) hLL
  obtain ⟨v, rfl⟩ := FF_int rfl e1
  refine ⟨I2, R1, ?_, hR.mono (by omega), s1.trans h60, s2.trans h61⟩
  simp (disch := first | omega | (show List.length _ ≤ 4; exact Nat.le_of_ble_eq_true rfl) | assumption | exact nbo_0 | exact nbo_1 | exact b2_b) only [s171_189, s171_190, s171_191, s171_192, s171_193, s171_194, s171_195, s171_196, s171_197, s171_198, s171_199, s171_200, s171_203, s171_204, s171_205, s171_206, s171_207, s171_208, s171_209, s171_210, s171_211, s171_212, s171_213, s171_214, s171_217, ↓reduceIte, psh_some, psh_none, cln_i, cln_r, cln_n, cln_l, cln_d, cln_f, Option.bind_some, Option.bind_none, if_true, if_false, nI_add, pk_mul, nbo_0, nbo_1, nI_leI, nI_ltI, nI_eq, Nat.reduceAdd, Nat.reduceMul, Nat.add_zero, Nat.mul_zero, y1, z1', y2, z2',  e1, e2, eq_self]
theorem lw_2 (hB : BR R0) (hL : RL R0 N I R) (hN : N < 2 ^ 17) (h60 : I 60 = xs) (h61 : I 61 = fun _ => nI L) (hi : i + 4 ≤ L) (hLL : L ≤ 2048) : ∃ I2 R1, EE 171 222 [some (.ref 1000), some (.ref 208), some (.ref 224), some (.int (nI i))] [] (210, I, R) = EE 171 818 [some (.ref 1000), some (.ref 208), some (.ref 224), some (.int (nI i))] [] (210, I2, R1) ∧ RL R0 (N + 80) I2 R1 ∧ I2 60 = xs ∧ I2 61 = fun _ => nI L := by
  obtain ⟨nw, bf, h, a, u, p, sl, hd, n, q, rfl, hG, hC, hM⟩ := hL
  have ho := od
  have ho2 := om
  obtain ⟨r, I1, R1, I2, e1, e2, hR, s1, s2, s3, s4⟩ := pr_minutes hB hG hC hM (xs (i + 1)) (xs (i + 2))
  have y1 := rd_x (J := I) (i := i) (k := 1) h60 h61 (by omega) hLL
  have z1' := rd_x (J := I1) (i := i) (k := 1) (s3.trans h60) (s4.trans h61) (by omega) hLL
  have y2 := rd_x (J := I) (i := i) (k := 2) h60 h61 (by omega) hLL
  have z2' := rd_x (J := I1) (i := i) (k := 2) (s3.trans h60) (s4.trans h61) (by omega) hLL
  obtain ⟨v, rfl⟩ := FF_int rfl e1
  refine ⟨I2, R1, ?_, hR.mono (by omega), s1.trans h60, s2.trans h61⟩
  simp (disch := first | omega | (show List.length _ ≤ 4; exact Nat.le_of_ble_eq_true rfl) | assumption | exact nbo_0 | exact nbo_1 | exact b2_b) only [s171_222, s171_223, s171_224, s171_225, s171_226, s171_227, s171_228, s171_229, s171_230, s171_231, s171_232, s171_233, s171_236, s171_237, s171_238, s171_239, s171_240, s171_241, s171_242, s171_243, s171_244, s171_245, s171_246, s171_247, s171_250, ↓reduceIte, psh_some, psh_none, cln_i, cln_r, cln_n, cln_l, cln_d, cln_f, Option.bind_some, Option.bind_none, if_true, if_false, nI_add, pk_mul, nbo_0, nbo_1, nI_leI, nI_ltI, nI_eq, Nat.reduceAdd, Nat.reduceMul, Nat.add_zero, Nat.mul_zero, y1, z1', y2, z2',  e1, e2, eq_self]
theorem lw_3 (hB : BR R0) (hL : RL R0 N I R) (hN : N < 2 ^ 17) (h60 : I 60 = xs) (h61 : I 61 = fun _ => nI L) (hi : i + 4 ≤ L) (hLL : L ≤ 2048) : ∃ I2 R1, EE 171 255 [some (.ref 1000), some (.ref 208), some (.ref 224), some (.int (nI i))] [] (210, I, R) = EE 171 818 [some (.ref 1000), some (.ref 208), some (.ref 224), some (.int (nI i))] [] (210, I2, R1) ∧ RL R0 (N + 80) I2 R1 ∧ I2 60 = xs ∧ I2 61 = fun _ => nI L := by
  obtain ⟨nw, bf, h, a, u, p, sl, hd, n, q, rfl, hG, hC, hM⟩ := hL
  have ho := od
  have ho2 := om
  obtain ⟨r, I1, R1, I2, e1, e2, hR, s1, s2, s3, s4⟩ := pr_open hB hG hC hM 
  obtain ⟨v, rfl⟩ := FF_int rfl e1
  refine ⟨I2, R1, ?_, hR.mono (by omega), s1.trans h60, s2.trans h61⟩
  simp (disch := first | omega | (show List.length _ ≤ 4; exact Nat.le_of_ble_eq_true rfl) | assumption | exact nbo_0 | exact nbo_1 | exact b2_b) only [s171_255, s171_256, s171_259, s171_260, s171_263, ↓reduceIte, psh_some, psh_none, cln_i, cln_r, cln_n, cln_l, cln_d, cln_f, Option.bind_some, Option.bind_none, if_true, if_false, nI_add, pk_mul, nbo_0, nbo_1, nI_leI, nI_ltI, nI_eq, Nat.reduceAdd, Nat.reduceMul, Nat.add_zero, Nat.mul_zero,  e1, e2, eq_self]
theorem lw_4 (hB : BR R0) (hL : RL R0 N I R) (hN : N < 2 ^ 17) (h60 : I 60 = xs) (h61 : I 61 = fun _ => nI L) (hi : i + 4 ≤ L) (hLL : L ≤ 2048) : ∃ I2 R1, EE 171 268 [some (.ref 1000), some (.ref 208), some (.ref 224), some (.int (nI i))] [] (210, I, R) = EE 171 818 [some (.ref 1000), some (.ref 208), some (.ref 224), some (.int (nI i))] [] (210, I2, R1) ∧ RL R0 (N + 80) I2 R1 ∧ I2 60 = xs ∧ I2 61 = fun _ => nI L := by
  obtain ⟨nw, bf, h, a, u, p, sl, hd, n, q, rfl, hG, hC, hM⟩ := hL
  have ho := od
  have ho2 := om
  obtain ⟨r, I1, R1, I2, e1, e2, hR, s1, s2, s3, s4⟩ := pr_turn hB hG hC hM (xs (i + 1))
  have y1 := rd_x (J := I) (i := i) (k := 1) h60 h61 (by omega) hLL
  have z1' := rd_x (J := I1) (i := i) (k := 1) (s3.trans h60) (s4.trans h61) (by omega) hLL
  obtain ⟨v, rfl⟩ := FF_int rfl e1
  refine ⟨I2, R1, ?_, hR.mono (by omega), s1.trans h60, s2.trans h61⟩
  simp (disch := first | omega | (show List.length _ ≤ 4; exact Nat.le_of_ble_eq_true rfl) | assumption | exact nbo_0 | exact nbo_1 | exact b2_b) only [s171_268, s171_269, s171_270, s171_271, s171_272, s171_273, s171_274, s171_277, s171_278, s171_279, s171_280, s171_281, s171_282, s171_283, s171_286, ↓reduceIte, psh_some, psh_none, cln_i, cln_r, cln_n, cln_l, cln_d, cln_f, Option.bind_some, Option.bind_none, if_true, if_false, nI_add, pk_mul, nbo_0, nbo_1, nI_leI, nI_ltI, nI_eq, Nat.reduceAdd, Nat.reduceMul, Nat.add_zero, Nat.mul_zero, y1, z1',  e1, e2, eq_self]
theorem lw_5 (hB : BR R0) (hL : RL R0 N I R) (hN : N < 2 ^ 17) (h60 : I 60 = xs) (h61 : I 61 = fun _ => nI L) (hi : i + 4 ≤ L) (hLL : L ≤ 2048) : ∃ I2 R1, EE 171 291 [some (.ref 1000), some (.ref 208), some (.ref 224), some (.int (nI i))] [] (210, I, R) = EE 171 818 [some (.ref 1000), some (.ref 208), some (.ref 224), some (.int (nI i))] [] (210, I2, R1) ∧ RL R0 (N + 80) I2 R1 ∧ I2 60 = xs ∧ I2 61 = fun _ => nI L := by
  obtain ⟨nw, bf, h, a, u, p, sl, hd, n, q, rfl, hG, hC, hM⟩ := hL
  have ho := od
  have ho2 := om
  obtain ⟨r, I1, R1, I2, e1, e2, hR, s1, s2, s3, s4⟩ := pr_check hB hG hC hM (xs (i + 1))
  have y1 := rd_x (J := I) (i := i) (k := 1) h60 h61 (by omega) hLL
  have z1' := rd_x (J := I1) (i := i) (k := 1) (s3.trans h60) (s4.trans h61) (by omega) hLL
  obtain ⟨v, rfl⟩ := FF_int rfl e1
  refine ⟨I2, R1, ?_, hR.mono (by omega), s1.trans h60, s2.trans h61⟩
  simp (disch := first | omega | (show List.length _ ≤ 4; exact Nat.le_of_ble_eq_true rfl) | assumption | exact nbo_0 | exact nbo_1 | exact b2_b) only [s171_291, s171_292, s171_293, s171_294, s171_295, s171_296, s171_297, s171_300, s171_301, s171_302, s171_303, s171_304, s171_305, s171_306, s171_309, ↓reduceIte, psh_some, psh_none, cln_i, cln_r, cln_n, cln_l, cln_d, cln_f, Option.bind_some, Option.bind_none, if_true, if_false, nI_add, pk_mul, nbo_0, nbo_1, nI_leI, nI_ltI, nI_eq, Nat.reduceAdd, Nat.reduceMul, Nat.add_zero, Nat.mul_zero, y1, z1',  e1, e2, eq_self]
theorem lw_6 (hB : BR R0) (hL : RL R0 N I R) (hN : N < 2 ^ 17) (h60 : I 60 = xs) (h61 : I 61 = fun _ => nI L) (hi : i + 4 ≤ L) (hLL : L ≤ 2048) : ∃ I2 R1, EE 171 314 [some (.ref 1000), some (.ref 208), some (.ref 224), some (.int (nI i))] [] (210, I, R) = EE 171 818 [some (.ref 1000), some (.ref 208), some (.ref 224), some (.int (nI i))] [] (210, I2, R1) ∧ RL R0 (N + 80) I2 R1 ∧ I2 60 = xs ∧ I2 61 = fun _ => nI L := by
  obtain ⟨nw, bf, h, a, u, p, sl, hd, n, q, rfl, hG, hC, hM⟩ := hL
  have ho := od
  have ho2 := om
  obtain ⟨r, I1, R1, I2, e1, e2, hR, s1, s2, s3, s4⟩ := pr_learn hB hG hC hM (xs (i + 1)) (xs (i + 2)) (xs (i + 3))
  have y1 := rd_x (J := I) (i := i) (k := 1) h60 h61 (by omega) hLL
  have z1' := rd_x (J := I1) (i := i) (k := 1) (s3.trans h60) (s4.trans h61) (by omega) hLL
  have y2 := rd_x (J := I) (i := i) (k := 2) h60 h61 (by omega) hLL
  have z2' := rd_x (J := I1) (i := i) (k := 2) (s3.trans h60) (s4.trans h61) (by omega) hLL
  have y3 := rd_x (J := I) (i := i) (k := 3) h60 h61 (by omega) hLL
  have z3' := rd_x (J := I1) (i := i) (k := 3) (s3.trans h60) (s4.trans h61) (by omega) hLL
  obtain ⟨v, rfl⟩ := FF_int rfl e1
  refine ⟨I2, R1, ?_, hR.mono (by omega), s1.trans h60, s2.trans h61⟩
  simp (disch := first | omega | (show List.length _ ≤ 4; exact Nat.le_of_ble_eq_true rfl) | assumption | exact nbo_0 | exact nbo_1 | exact b2_b) only [s171_314, s171_315, s171_316, s171_317, s171_318, s171_319, s171_320, s171_321, s171_322, s171_323, s171_324, s171_325, s171_326, s171_327, s171_328, s171_329, s171_330, s171_333, s171_334, s171_335, s171_336, s171_337, s171_338, s171_339, s171_340, s171_341, s171_342, s171_343, s171_344, s171_345, s171_346, s171_347, s171_348, s171_349, s171_352, ↓reduceIte, psh_some, psh_none, cln_i, cln_r, cln_n, cln_l, cln_d, cln_f, Option.bind_some, Option.bind_none, if_true, if_false, nI_add, pk_mul, nbo_0, nbo_1, nI_leI, nI_ltI, nI_eq, Nat.reduceAdd, Nat.reduceMul, Nat.add_zero, Nat.mul_zero, y1, z1', y2, z2', y3, z3',  e1, e2, eq_self]
theorem lw_7 (hB : BR R0) (hL : RL R0 N I R) (hN : N < 2 ^ 17) (h60 : I 60 = xs) (h61 : I 61 = fun _ => nI L) (hi : i + 4 ≤ L) (hLL : L ≤ 2048) : ∃ I2 R1, EE 171 357 [some (.ref 1000), some (.ref 208), some (.ref 224), some (.int (nI i))] [] (210, I, R) = EE 171 818 [some (.ref 1000), some (.ref 208), some (.ref 224), some (.int (nI i))] [] (210, I2, R1) ∧ RL R0 (N + 80) I2 R1 ∧ I2 60 = xs ∧ I2 61 = fun _ => nI L := by
  obtain ⟨nw, bf, h, a, u, p, sl, hd, n, q, rfl, hG, hC, hM⟩ := hL
  have ho := od
  have ho2 := om
  obtain ⟨r, I1, R1, I2, e1, e2, hR, s1, s2, s3, s4⟩ := pr_call hB hG hC hM (by omega) (xs (i + 1))
  have y1 := rd_x (J := I) (i := i) (k := 1) h60 h61 (by omega) hLL
  have z1' := rd_x (J := I1) (i := i) (k := 1) (s3.trans h60) (s4.trans h61) (by omega) hLL
  obtain ⟨v, rfl⟩ := FF_int rfl e1
  refine ⟨I2, R1, ?_, hR.mono (by omega), s1.trans h60, s2.trans h61⟩
  simp (disch := first | omega | (show List.length _ ≤ 4; exact Nat.le_of_ble_eq_true rfl) | assumption | exact nbo_0 | exact nbo_1 | exact b2_b) only [s171_357, s171_358, s171_359, s171_360, s171_361, s171_362, s171_363, s171_366, s171_367, s171_368, s171_369, s171_370, s171_371, s171_372, s171_375, ↓reduceIte, psh_some, psh_none, cln_i, cln_r, cln_n, cln_l, cln_d, cln_f, Option.bind_some, Option.bind_none, if_true, if_false, nI_add, pk_mul, nbo_0, nbo_1, nI_leI, nI_ltI, nI_eq, Nat.reduceAdd, Nat.reduceMul, Nat.add_zero, Nat.mul_zero, y1, z1',  e1, e2, eq_self]
theorem lw_8 (hB : BR R0) (hL : RL R0 N I R) (hN : N < 2 ^ 17) (h60 : I 60 = xs) (h61 : I 61 = fun _ => nI L) (hi : i + 4 ≤ L) (hLL : L ≤ 2048) : ∃ I2 R1, EE 171 380 [some (.ref 1000), some (.ref 208), some (.ref 224), some (.int (nI i))] [] (210, I, R) = EE 171 818 [some (.ref 1000), some (.ref 208), some (.ref 224), some (.int (nI i))] [] (210, I2, R1) ∧ RL R0 (N + 80) I2 R1 ∧ I2 60 = xs ∧ I2 61 = fun _ => nI L := by
  obtain ⟨nw, bf, h, a, u, p, sl, hd, n, q, rfl, hG, hC, hM⟩ := hL
  have ho := od
  have ho2 := om
  obtain ⟨r, I1, R1, I2, e1, e2, hR, s1, s2, s3, s4⟩ := pr_end hB hG hC hM (by omega) 
  obtain ⟨v, rfl⟩ := FF_int rfl e1
  refine ⟨I2, R1, ?_, hR.mono (by omega), s1.trans h60, s2.trans h61⟩
  simp (disch := first | omega | (show List.length _ ≤ 4; exact Nat.le_of_ble_eq_true rfl) | assumption | exact nbo_0 | exact nbo_1 | exact b2_b) only [s171_380, s171_381, s171_384, s171_385, s171_388, ↓reduceIte, psh_some, psh_none, cln_i, cln_r, cln_n, cln_l, cln_d, cln_f, Option.bind_some, Option.bind_none, if_true, if_false, nI_add, pk_mul, nbo_0, nbo_1, nI_leI, nI_ltI, nI_eq, Nat.reduceAdd, Nat.reduceMul, Nat.add_zero, Nat.mul_zero,  e1, e2, eq_self]
theorem lw_9 (hB : BR R0) (hL : RL R0 N I R) (hN : N < 2 ^ 17) (h60 : I 60 = xs) (h61 : I 61 = fun _ => nI L) (hi : i + 4 ≤ L) (hLL : L ≤ 2048) : ∃ I2 R1, EE 171 393 [some (.ref 1000), some (.ref 208), some (.ref 224), some (.int (nI i))] [] (210, I, R) = EE 171 818 [some (.ref 1000), some (.ref 208), some (.ref 224), some (.int (nI i))] [] (210, I2, R1) ∧ RL R0 (N + 80) I2 R1 ∧ I2 60 = xs ∧ I2 61 = fun _ => nI L := by
  obtain ⟨nw, bf, h, a, u, p, sl, hd, n, q, rfl, hG, hC, hM⟩ := hL
  have ho := od
  have ho2 := om
  obtain ⟨r, I1, R1, I2, e1, e2, hR, s1, s2, s3, s4⟩ := pr_level hB hG hC hM (xs (i + 1)) (xs (i + 2))
  have y1 := rd_x (J := I) (i := i) (k := 1) h60 h61 (by omega) hLL
  have z1' := rd_x (J := I1) (i := i) (k := 1) (s3.trans h60) (s4.trans h61) (by omega) hLL
  have y2 := rd_x (J := I) (i := i) (k := 2) h60 h61 (by omega) hLL
  have z2' := rd_x (J := I1) (i := i) (k := 2) (s3.trans h60) (s4.trans h61) (by omega) hLL
  obtain ⟨v, rfl⟩ := FF_int rfl e1
  refine ⟨I2, R1, ?_, hR.mono (by omega), s1.trans h60, s2.trans h61⟩
  simp (disch := first | omega | (show List.length _ ≤ 4; exact Nat.le_of_ble_eq_true rfl) | assumption | exact nbo_0 | exact nbo_1 | exact b2_b) only [s171_393, s171_394, s171_395, s171_396, s171_397, s171_398, s171_399, s171_400, s171_401, s171_402, s171_403, s171_404, s171_407, s171_408, s171_409, s171_410, s171_411, s171_412, s171_413, s171_414, s171_415, s171_416, s171_417, s171_418, s171_421, ↓reduceIte, psh_some, psh_none, cln_i, cln_r, cln_n, cln_l, cln_d, cln_f, Option.bind_some, Option.bind_none, if_true, if_false, nI_add, pk_mul, nbo_0, nbo_1, nI_leI, nI_ltI, nI_eq, Nat.reduceAdd, Nat.reduceMul, Nat.add_zero, Nat.mul_zero, y1, z1', y2, z2',  e1, e2, eq_self]
theorem lw_10 (hB : BR R0) (hL : RL R0 N I R) (hN : N < 2 ^ 17) (h60 : I 60 = xs) (h61 : I 61 = fun _ => nI L) (hi : i + 4 ≤ L) (hLL : L ≤ 2048) : ∃ I2 R1, EE 171 426 [some (.ref 1000), some (.ref 208), some (.ref 224), some (.int (nI i))] [] (210, I, R) = EE 171 818 [some (.ref 1000), some (.ref 208), some (.ref 224), some (.int (nI i))] [] (210, I2, R1) ∧ RL R0 (N + 80) I2 R1 ∧ I2 60 = xs ∧ I2 61 = fun _ => nI L := by
  obtain ⟨nw, bf, h, a, u, p, sl, hd, n, q, rfl, hG, hC, hM⟩ := hL
  have ho := od
  have ho2 := om
  obtain ⟨r, I1, R1, I2, e1, e2, hR, s1, s2, s3, s4⟩ := pr_oft hB hG hC hM (by omega) (xs (i + 1)) (xs (i + 2))
  have y1 := rd_x (J := I) (i := i) (k := 1) h60 h61 (by omega) hLL
  have z1' := rd_x (J := I1) (i := i) (k := 1) (s3.trans h60) (s4.trans h61) (by omega) hLL
  have y2 := rd_x (J := I) (i := i) (k := 2) h60 h61 (by omega) hLL
  have z2' := rd_x (J := I1) (i := i) (k := 2) (s3.trans h60) (s4.trans h61) (by omega) hLL
  obtain ⟨v, rfl⟩ := FF_int rfl e1
  refine ⟨I2, R1, ?_, hR.mono (by omega), s1.trans h60, s2.trans h61⟩
  simp (disch := first | omega | (show List.length _ ≤ 4; exact Nat.le_of_ble_eq_true rfl) | assumption | exact nbo_0 | exact nbo_1 | exact b2_b) only [s171_426, s171_427, s171_428, s171_429, s171_430, s171_431, s171_432, s171_433, s171_434, s171_435, s171_436, s171_437, s171_440, s171_441, s171_442, s171_443, s171_444, s171_445, s171_446, s171_447, s171_448, s171_449, s171_450, s171_451, s171_454, ↓reduceIte, psh_some, psh_none, cln_i, cln_r, cln_n, cln_l, cln_d, cln_f, Option.bind_some, Option.bind_none, if_true, if_false, nI_add, pk_mul, nbo_0, nbo_1, nI_leI, nI_ltI, nI_eq, Nat.reduceAdd, Nat.reduceMul, Nat.add_zero, Nat.mul_zero, y1, z1', y2, z2',  e1, e2, eq_self]
theorem lw_11 (hB : BR R0) (hL : RL R0 N I R) (hN : N < 2 ^ 17) (h60 : I 60 = xs) (h61 : I 61 = fun _ => nI L) (hi : i + 4 ≤ L) (hLL : L ≤ 2048) : ∃ I2 R1, EE 171 459 [some (.ref 1000), some (.ref 208), some (.ref 224), some (.int (nI i))] [] (210, I, R) = EE 171 818 [some (.ref 1000), some (.ref 208), some (.ref 224), some (.int (nI i))] [] (210, I2, R1) ∧ RL R0 (N + 80) I2 R1 ∧ I2 60 = xs ∧ I2 61 = fun _ => nI L := by
  obtain ⟨nw, bf, h, a, u, p, sl, hd, n, q, rfl, hG, hC, hM⟩ := hL
  have ho := od
  have ho2 := om
  obtain ⟨r, I1, R1, I2, e1, e2, hR, s1, s2, s3, s4⟩ := pr_checklist hB hG hC hM (xs (i + 1))
  have y1 := rd_x (J := I) (i := i) (k := 1) h60 h61 (by omega) hLL
  have z1' := rd_x (J := I1) (i := i) (k := 1) (s3.trans h60) (s4.trans h61) (by omega) hLL
  obtain ⟨v, rfl⟩ := FF_int rfl e1
  refine ⟨I2, R1, ?_, hR.mono (by omega), s1.trans h60, s2.trans h61⟩
  simp (disch := first | omega | (show List.length _ ≤ 4; exact Nat.le_of_ble_eq_true rfl) | assumption | exact nbo_0 | exact nbo_1 | exact b2_b) only [s171_459, s171_460, s171_461, s171_462, s171_463, s171_464, s171_465, s171_468, s171_469, s171_470, s171_471, s171_472, s171_473, s171_474, s171_477, ↓reduceIte, psh_some, psh_none, cln_i, cln_r, cln_n, cln_l, cln_d, cln_f, Option.bind_some, Option.bind_none, if_true, if_false, nI_add, pk_mul, nbo_0, nbo_1, nI_leI, nI_ltI, nI_eq, Nat.reduceAdd, Nat.reduceMul, Nat.add_zero, Nat.mul_zero, y1, z1',  e1, e2, eq_self]
theorem lw_12 (hB : BR R0) (hL : RL R0 N I R) (hN : N < 2 ^ 17) (h60 : I 60 = xs) (h61 : I 61 = fun _ => nI L) (hi : i + 4 ≤ L) (hLL : L ≤ 2048) : ∃ I2 R1, EE 171 482 [some (.ref 1000), some (.ref 208), some (.ref 224), some (.int (nI i))] [] (210, I, R) = EE 171 818 [some (.ref 1000), some (.ref 208), some (.ref 224), some (.int (nI i))] [] (210, I2, R1) ∧ RL R0 (N + 80) I2 R1 ∧ I2 60 = xs ∧ I2 61 = fun _ => nI L := by
  obtain ⟨nw, bf, h, a, u, p, sl, hd, n, q, rfl, hG, hC, hM⟩ := hL
  have ho := od
  have ho2 := om
  obtain ⟨r, I1, R1, I2, e1, e2, hR, s1, s2, s3, s4⟩ := pr_count hB hG hC hM (by omega) (xs (i + 1))
  have y1 := rd_x (J := I) (i := i) (k := 1) h60 h61 (by omega) hLL
  have z1' := rd_x (J := I1) (i := i) (k := 1) (s3.trans h60) (s4.trans h61) (by omega) hLL
  obtain ⟨v, rfl⟩ := FF_int rfl e1
  refine ⟨I2, R1, ?_, hR.mono (by omega), s1.trans h60, s2.trans h61⟩
  simp (disch := first | omega | (show List.length _ ≤ 4; exact Nat.le_of_ble_eq_true rfl) | assumption | exact nbo_0 | exact nbo_1 | exact b2_b) only [s171_482, s171_483, s171_484, s171_485, s171_486, s171_487, s171_488, s171_491, s171_492, s171_493, s171_494, s171_495, s171_496, s171_497, s171_500, ↓reduceIte, psh_some, psh_none, cln_i, cln_r, cln_n, cln_l, cln_d, cln_f, Option.bind_some, Option.bind_none, if_true, if_false, nI_add, pk_mul, nbo_0, nbo_1, nI_leI, nI_ltI, nI_eq, Nat.reduceAdd, Nat.reduceMul, Nat.add_zero, Nat.mul_zero, y1, z1',  e1, e2, eq_self]
theorem lw_13 (hB : BR R0) (hL : RL R0 N I R) (hN : N < 2 ^ 17) (h60 : I 60 = xs) (h61 : I 61 = fun _ => nI L) (hi : i + 4 ≤ L) (hLL : L ≤ 2048) : ∃ I2 R1, EE 171 505 [some (.ref 1000), some (.ref 208), some (.ref 224), some (.int (nI i))] [] (210, I, R) = EE 171 818 [some (.ref 1000), some (.ref 208), some (.ref 224), some (.int (nI i))] [] (210, I2, R1) ∧ RL R0 (N + 80) I2 R1 ∧ I2 60 = xs ∧ I2 61 = fun _ => nI L := by
  obtain ⟨nw, bf, h, a, u, p, sl, hd, n, q, rfl, hG, hC, hM⟩ := hL
  have ho := od
  have ho2 := om
  obtain ⟨r, I1, R1, I2, e1, e2, hR, s1, s2, s3, s4⟩ := pr_place hB hG hC hM (xs (i + 1)) (xs (i + 2))
  have y1 := rd_x (J := I) (i := i) (k := 1) h60 h61 (by omega) hLL
  have z1' := rd_x (J := I1) (i := i) (k := 1) (s3.trans h60) (s4.trans h61) (by omega) hLL
  have y2 := rd_x (J := I) (i := i) (k := 2) h60 h61 (by omega) hLL
  have z2' := rd_x (J := I1) (i := i) (k := 2) (s3.trans h60) (s4.trans h61) (by omega) hLL
  obtain ⟨v, rfl⟩ := FF_int rfl e1
  refine ⟨I2, R1, ?_, hR.mono (by omega), s1.trans h60, s2.trans h61⟩
  simp (disch := first | omega | (show List.length _ ≤ 4; exact Nat.le_of_ble_eq_true rfl) | assumption | exact nbo_0 | exact nbo_1 | exact b2_b) only [s171_505, s171_506, s171_507, s171_508, s171_509, s171_510, s171_511, s171_512, s171_513, s171_514, s171_515, s171_516, s171_519, s171_520, s171_521, s171_522, s171_523, s171_524, s171_525, s171_526, s171_527, s171_528, s171_529, s171_530, s171_533, ↓reduceIte, psh_some, psh_none, cln_i, cln_r, cln_n, cln_l, cln_d, cln_f, Option.bind_some, Option.bind_none, if_true, if_false, nI_add, pk_mul, nbo_0, nbo_1, nI_leI, nI_ltI, nI_eq, Nat.reduceAdd, Nat.reduceMul, Nat.add_zero, Nat.mul_zero, y1, z1', y2, z2',  e1, e2, eq_self]
theorem lw_14 (hB : BR R0) (hL : RL R0 N I R) (hN : N < 2 ^ 17) (h60 : I 60 = xs) (h61 : I 61 = fun _ => nI L) (hi : i + 4 ≤ L) (hLL : L ≤ 2048) : ∃ I2 R1, EE 171 538 [some (.ref 1000), some (.ref 208), some (.ref 224), some (.int (nI i))] [] (210, I, R) = EE 171 818 [some (.ref 1000), some (.ref 208), some (.ref 224), some (.int (nI i))] [] (210, I2, R1) ∧ RL R0 (N + 80) I2 R1 ∧ I2 60 = xs ∧ I2 61 = fun _ => nI L := by
  obtain ⟨nw, bf, h, a, u, p, sl, hd, n, q, rfl, hG, hC, hM⟩ := hL
  have ho := od
  have ho2 := om
  obtain ⟨r, I1, R1, I2, e1, e2, hR, s1, s2, s3, s4⟩ := pr_order hB hG hC hM (by omega) 
  obtain ⟨v, rfl⟩ := FF_int rfl e1
  refine ⟨I2, R1, ?_, hR.mono (by omega), s1.trans h60, s2.trans h61⟩
  simp (disch := first | omega | (show List.length _ ≤ 4; exact Nat.le_of_ble_eq_true rfl) | assumption | exact nbo_0 | exact nbo_1 | exact b2_b) only [s171_538, s171_539, s171_542, s171_543, s171_546, ↓reduceIte, psh_some, psh_none, cln_i, cln_r, cln_n, cln_l, cln_d, cln_f, Option.bind_some, Option.bind_none, if_true, if_false, nI_add, pk_mul, nbo_0, nbo_1, nI_leI, nI_ltI, nI_eq, Nat.reduceAdd, Nat.reduceMul, Nat.add_zero, Nat.mul_zero,  e1, e2, eq_self]
theorem lw_15 (hB : BR R0) (hL : RL R0 N I R) (hN : N < 2 ^ 17) (h60 : I 60 = xs) (h61 : I 61 = fun _ => nI L) (hi : i + 4 ≤ L) (hLL : L ≤ 2048) : ∃ I2 R1, EE 171 551 [some (.ref 1000), some (.ref 208), some (.ref 224), some (.int (nI i))] [] (210, I, R) = EE 171 818 [some (.ref 1000), some (.ref 208), some (.ref 224), some (.int (nI i))] [] (210, I2, R1) ∧ RL R0 (N + 80) I2 R1 ∧ I2 60 = xs ∧ I2 61 = fun _ => nI L := by
  obtain ⟨nw, bf, h, a, u, p, sl, hd, n, q, rfl, hG, hC, hM⟩ := hL
  have ho := od
  have ho2 := om
  obtain ⟨r, I1, R1, I2, e1, e2, hR, s1, s2, s3, s4⟩ := pr_share hB hG hC hM (by omega) (xs (i + 1))
  have y1 := rd_x (J := I) (i := i) (k := 1) h60 h61 (by omega) hLL
  have z1' := rd_x (J := I1) (i := i) (k := 1) (s3.trans h60) (s4.trans h61) (by omega) hLL
  obtain ⟨v, rfl⟩ := FF_int rfl e1
  refine ⟨I2, R1, ?_, hR.mono (by omega), s1.trans h60, s2.trans h61⟩
  simp (disch := first | omega | (show List.length _ ≤ 4; exact Nat.le_of_ble_eq_true rfl) | assumption | exact nbo_0 | exact nbo_1 | exact b2_b) only [s171_551, s171_552, s171_553, s171_554, s171_555, s171_556, s171_557, s171_560, s171_561, s171_562, s171_563, s171_564, s171_565, s171_566, s171_569, ↓reduceIte, psh_some, psh_none, cln_i, cln_r, cln_n, cln_l, cln_d, cln_f, Option.bind_some, Option.bind_none, if_true, if_false, nI_add, pk_mul, nbo_0, nbo_1, nI_leI, nI_ltI, nI_eq, Nat.reduceAdd, Nat.reduceMul, Nat.add_zero, Nat.mul_zero, y1, z1',  e1, e2, eq_self]
theorem lw_16 (hB : BR R0) (hL : RL R0 N I R) (hN : N < 2 ^ 17) (h60 : I 60 = xs) (h61 : I 61 = fun _ => nI L) (hi : i + 4 ≤ L) (hLL : L ≤ 2048) : ∃ I2 R1, EE 171 574 [some (.ref 1000), some (.ref 208), some (.ref 224), some (.int (nI i))] [] (210, I, R) = EE 171 818 [some (.ref 1000), some (.ref 208), some (.ref 224), some (.int (nI i))] [] (210, I2, R1) ∧ RL R0 (N + 80) I2 R1 ∧ I2 60 = xs ∧ I2 61 = fun _ => nI L := by
  obtain ⟨nw, bf, h, a, u, p, sl, hd, n, q, rfl, hG, hC, hM⟩ := hL
  have ho := od
  have ho2 := om
  obtain ⟨v, I1, R1, I2, e1, e2, hR, s1, s2, s3, s4⟩ := pr_mean hB hG hC hM (xs (i + 1))
  have y1 := rd_x (J := I) (i := i) (k := 1) h60 h61 (by omega) hLL
  have z1' := rd_x (J := I1) (i := i) (k := 1) (s3.trans h60) (s4.trans h61) (by omega) hLL
  refine ⟨I2, R1, ?_, hR.mono (by omega), s1.trans h60, s2.trans h61⟩
  simp (disch := first | omega | (show List.length _ ≤ 4; exact Nat.le_of_ble_eq_true rfl) | assumption | exact nbo_0 | exact nbo_1 | exact b2_b) only [s171_574, s171_575, s171_576, s171_577, s171_578, s171_579, s171_580, s171_583, s171_584, s171_585, s171_586, s171_587, s171_588, s171_589, s171_592, s171_593, ↓reduceIte, psh_some, psh_none, cln_i, cln_r, cln_n, cln_l, cln_d, cln_f, Option.bind_some, Option.bind_none, if_true, if_false, nI_add, pk_mul, nbo_0, nbo_1, nI_leI, nI_ltI, nI_eq, Nat.reduceAdd, Nat.reduceMul, Nat.add_zero, Nat.mul_zero, y1, z1', e1, e2, lg_self, i0_0]
theorem lw_17 (hB : BR R0) (hL : RL R0 N I R) (hN : N < 2 ^ 17) (h60 : I 60 = xs) (h61 : I 61 = fun _ => nI L) (hi : i + 4 ≤ L) (hLL : L ≤ 2048) : ∃ I2 R1, EE 171 598 [some (.ref 1000), some (.ref 208), some (.ref 224), some (.int (nI i))] [] (210, I, R) = EE 171 818 [some (.ref 1000), some (.ref 208), some (.ref 224), some (.int (nI i))] [] (210, I2, R1) ∧ RL R0 (N + 80) I2 R1 ∧ I2 60 = xs ∧ I2 61 = fun _ => nI L := by
  obtain ⟨nw, bf, h, a, u, p, sl, hd, n, q, rfl, hG, hC, hM⟩ := hL
  have ho := od
  have ho2 := om
  obtain ⟨r, I1, R1, I2, e1, e2, hR, s1, s2, s3, s4⟩ := pr_least hB hG hC hM (by omega) 
  obtain ⟨v, rfl⟩ := FF_int rfl e1
  refine ⟨I2, R1, ?_, hR.mono (by omega), s1.trans h60, s2.trans h61⟩
  simp (disch := first | omega | (show List.length _ ≤ 4; exact Nat.le_of_ble_eq_true rfl) | assumption | exact nbo_0 | exact nbo_1 | exact b2_b) only [s171_598, s171_599, s171_602, s171_603, s171_606, ↓reduceIte, psh_some, psh_none, cln_i, cln_r, cln_n, cln_l, cln_d, cln_f, Option.bind_some, Option.bind_none, if_true, if_false, nI_add, pk_mul, nbo_0, nbo_1, nI_leI, nI_ltI, nI_eq, Nat.reduceAdd, Nat.reduceMul, Nat.add_zero, Nat.mul_zero,  e1, e2, eq_self]
theorem lw_18 (hB : BR R0) (hL : RL R0 N I R) (hN : N < 2 ^ 17) (h60 : I 60 = xs) (h61 : I 61 = fun _ => nI L) (hi : i + 4 ≤ L) (hLL : L ≤ 2048) : ∃ I2 R1, EE 171 611 [some (.ref 1000), some (.ref 208), some (.ref 224), some (.int (nI i))] [] (210, I, R) = EE 171 818 [some (.ref 1000), some (.ref 208), some (.ref 224), some (.int (nI i))] [] (210, I2, R1) ∧ RL R0 (N + 80) I2 R1 ∧ I2 60 = xs ∧ I2 61 = fun _ => nI L := by
  obtain ⟨nw, bf, h, a, u, p, sl, hd, n, q, rfl, hG, hC, hM⟩ := hL
  have ho := od
  have ho2 := om
  obtain ⟨r, I1, R1, I2, e1, e2, hR, s1, s2, s3, s4⟩ := pr_lost hB hG hC hM (by omega) (xs (i + 1))
  have y1 := rd_x (J := I) (i := i) (k := 1) h60 h61 (by omega) hLL
  have z1' := rd_x (J := I1) (i := i) (k := 1) (s3.trans h60) (s4.trans h61) (by omega) hLL
  obtain ⟨v, rfl⟩ := FF_int rfl e1
  refine ⟨I2, R1, ?_, hR.mono (by omega), s1.trans h60, s2.trans h61⟩
  simp (disch := first | omega | (show List.length _ ≤ 4; exact Nat.le_of_ble_eq_true rfl) | assumption | exact nbo_0 | exact nbo_1 | exact b2_b) only [s171_611, s171_612, s171_613, s171_614, s171_615, s171_616, s171_617, s171_620, s171_621, s171_622, s171_623, s171_624, s171_625, s171_626, s171_629, ↓reduceIte, psh_some, psh_none, cln_i, cln_r, cln_n, cln_l, cln_d, cln_f, Option.bind_some, Option.bind_none, if_true, if_false, nI_add, pk_mul, nbo_0, nbo_1, nI_leI, nI_ltI, nI_eq, Nat.reduceAdd, Nat.reduceMul, Nat.add_zero, Nat.mul_zero, y1, z1',  e1, e2, eq_self]
theorem lw_19 (hB : BR R0) (hL : RL R0 N I R) (hN : N < 2 ^ 17) (h60 : I 60 = xs) (h61 : I 61 = fun _ => nI L) (hi : i + 4 ≤ L) (hLL : L ≤ 2048) : ∃ I2 R1, EE 171 634 [some (.ref 1000), some (.ref 208), some (.ref 224), some (.int (nI i))] [] (210, I, R) = EE 171 818 [some (.ref 1000), some (.ref 208), some (.ref 224), some (.int (nI i))] [] (210, I2, R1) ∧ RL R0 (N + 80) I2 R1 ∧ I2 60 = xs ∧ I2 61 = fun _ => nI L := by
  obtain ⟨nw, bf, h, a, u, p, sl, hd, n, q, rfl, hG, hC, hM⟩ := hL
  have ho := od
  have ho2 := om
  obtain ⟨r, I1, R1, I2, e1, e2, hR, s1, s2, s3, s4⟩ := pr_best hB hG hC hM (by omega) (xs (i + 1)) (xs (i + 2))
  have y1 := rd_x (J := I) (i := i) (k := 1) h60 h61 (by omega) hLL
  have z1' := rd_x (J := I1) (i := i) (k := 1) (s3.trans h60) (s4.trans h61) (by omega) hLL
  have y2 := rd_x (J := I) (i := i) (k := 2) h60 h61 (by omega) hLL
  have z2' := rd_x (J := I1) (i := i) (k := 2) (s3.trans h60) (s4.trans h61) (by omega) hLL
  obtain ⟨v, rfl⟩ := FF_int rfl e1
  refine ⟨I2, R1, ?_, hR.mono (by omega), s1.trans h60, s2.trans h61⟩
  simp (disch := first | omega | (show List.length _ ≤ 4; exact Nat.le_of_ble_eq_true rfl) | assumption | exact nbo_0 | exact nbo_1 | exact b2_b) only [s171_634, s171_635, s171_636, s171_637, s171_638, s171_639, s171_640, s171_641, s171_642, s171_643, s171_644, s171_645, s171_648, s171_649, s171_650, s171_651, s171_652, s171_653, s171_654, s171_655, s171_656, s171_657, s171_658, s171_659, s171_662, ↓reduceIte, psh_some, psh_none, cln_i, cln_r, cln_n, cln_l, cln_d, cln_f, Option.bind_some, Option.bind_none, if_true, if_false, nI_add, pk_mul, nbo_0, nbo_1, nI_leI, nI_ltI, nI_eq, Nat.reduceAdd, Nat.reduceMul, Nat.add_zero, Nat.mul_zero, y1, z1', y2, z2',  e1, e2, eq_self]
theorem lw_20 (hB : BR R0) (hL : RL R0 N I R) (hN : N < 2 ^ 17) (h60 : I 60 = xs) (h61 : I 61 = fun _ => nI L) (hi : i + 4 ≤ L) (hLL : L ≤ 2048) : ∃ I2 R1, EE 171 667 [some (.ref 1000), some (.ref 208), some (.ref 224), some (.int (nI i))] [] (210, I, R) = EE 171 818 [some (.ref 1000), some (.ref 208), some (.ref 224), some (.int (nI i))] [] (210, I2, R1) ∧ RL R0 (N + 80) I2 R1 ∧ I2 60 = xs ∧ I2 61 = fun _ => nI L := by
  obtain ⟨nw, bf, h, a, u, p, sl, hd, n, q, rfl, hG, hC, hM⟩ := hL
  have ho := od
  have ho2 := om
  obtain ⟨r, I1, R1, I2, e1, e2, hR, s1, s2, s3, s4⟩ := pr_put hB hG hC hM (((xs (i + 1)).toInt64 <<< ((nI 32).toInt64 &&& 63)) ||| ((xs (i + 2)).toInt64 &&& 4294967295))
  have y1 := rd_x (J := I) (i := i) (k := 1) h60 h61 (by omega) hLL
  have z1' := rd_x (J := I1) (i := i) (k := 1) (s3.trans h60) (s4.trans h61) (by omega) hLL
  have y2 := rd_x (J := I) (i := i) (k := 2) h60 h61 (by omega) hLL
  have z2' := rd_x (J := I1) (i := i) (k := 2) (s3.trans h60) (s4.trans h61) (by omega) hLL
  obtain ⟨v, rfl⟩ := FF_int rfl e1
  refine ⟨I2, R1, ?_, hR.mono (by omega), s1.trans h60, s2.trans h61⟩
  simp (disch := first | omega | (show List.length _ ≤ 4; exact Nat.le_of_ble_eq_true rfl) | assumption | exact nbo_0 | exact nbo_1 | exact b2_b) only [s171_667, s171_668, s171_669, s171_670, s171_671, s171_672, s171_673, s171_674, s171_676, s171_677, s171_678, s171_679, s171_680, s171_681, s171_682, s171_683, s171_686, s171_687, s171_688, s171_691, s171_692, s171_693, s171_694, s171_695, s171_696, s171_697, s171_698, s171_700, s171_701, s171_702, s171_703, s171_704, s171_705, s171_706, s171_707, s171_710, s171_711, s171_712, s171_715, ↓reduceIte, psh_some, psh_none, cln_i, cln_r, cln_n, cln_l, cln_d, cln_f, Option.bind_some, Option.bind_none, if_true, if_false, nI_add, pk_mul, nbo_0, nbo_1, nI_leI, nI_ltI, nI_eq, Nat.reduceAdd, Nat.reduceMul, Nat.add_zero, Nat.mul_zero, y1, z1', y2, z2',  e1, e2, eq_self]
theorem lw_21 (hB : BR R0) (hL : RL R0 N I R) (hN : N < 2 ^ 17) (h60 : I 60 = xs) (h61 : I 61 = fun _ => nI L) (hi : i + 4 ≤ L) (hLL : L ≤ 2048) : ∃ I2 R1, EE 171 720 [some (.ref 1000), some (.ref 208), some (.ref 224), some (.int (nI i))] [] (210, I, R) = EE 171 818 [some (.ref 1000), some (.ref 208), some (.ref 224), some (.int (nI i))] [] (210, I2, R1) ∧ RL R0 (N + 80) I2 R1 ∧ I2 60 = xs ∧ I2 61 = fun _ => nI L := by
  obtain ⟨nw, bf, h, a, u, p, sl, hd, n, q, rfl, hG, hC, hM⟩ := hL
  have ho := od
  have ho2 := om
  obtain ⟨r, I1, R1, I2, e1, e2, hR, s1, s2, s3, s4⟩ := pr_wipe hB hG hC hM 
  obtain ⟨v, rfl⟩ := FF_int rfl e1
  refine ⟨I2, R1, ?_, hR.mono (by omega), s1.trans h60, s2.trans h61⟩
  simp (disch := first | omega | (show List.length _ ≤ 4; exact Nat.le_of_ble_eq_true rfl) | assumption | exact nbo_0 | exact nbo_1 | exact b2_b) only [s171_720, s171_721, s171_724, s171_725, s171_728, ↓reduceIte, psh_some, psh_none, cln_i, cln_r, cln_n, cln_l, cln_d, cln_f, Option.bind_some, Option.bind_none, if_true, if_false, nI_add, pk_mul, nbo_0, nbo_1, nI_leI, nI_ltI, nI_eq, Nat.reduceAdd, Nat.reduceMul, Nat.add_zero, Nat.mul_zero,  e1, e2, eq_self]
theorem lw_22 (hB : BR R0) (hL : RL R0 N I R) (hN : N < 2 ^ 17) (h60 : I 60 = xs) (h61 : I 61 = fun _ => nI L) (hi : i + 4 ≤ L) (hLL : L ≤ 2048) : ∃ I2 R1, EE 171 733 [some (.ref 1000), some (.ref 208), some (.ref 224), some (.int (nI i))] [] (210, I, R) = EE 171 818 [some (.ref 1000), some (.ref 208), some (.ref 224), some (.int (nI i))] [] (210, I2, R1) ∧ RL R0 (N + 80) I2 R1 ∧ I2 60 = xs ∧ I2 61 = fun _ => nI L := by
  obtain ⟨nw, bf, h, a, u, p, sl, hd, n, q, rfl, hG, hC, hM⟩ := hL
  have ho := od
  have ho2 := om
  obtain ⟨r, I1, R1, I2, e1, e2, hR, s1, s2, s3, s4⟩ := pr_fault hB hG hC hM 
  obtain ⟨v, rfl⟩ := FF_int rfl e1
  refine ⟨I2, R1, ?_, hR.mono (by omega), s1.trans h60, s2.trans h61⟩
  simp (disch := first | omega | (show List.length _ ≤ 4; exact Nat.le_of_ble_eq_true rfl) | assumption | exact nbo_0 | exact nbo_1 | exact b2_b) only [s171_733, s171_734, s171_737, s171_738, s171_741, ↓reduceIte, psh_some, psh_none, cln_i, cln_r, cln_n, cln_l, cln_d, cln_f, Option.bind_some, Option.bind_none, if_true, if_false, nI_add, pk_mul, nbo_0, nbo_1, nI_leI, nI_ltI, nI_eq, Nat.reduceAdd, Nat.reduceMul, Nat.add_zero, Nat.mul_zero,  e1, e2, eq_self]
theorem lw_23 (hB : BR R0) (hL : RL R0 N I R) (hN : N < 2 ^ 17) (h60 : I 60 = xs) (h61 : I 61 = fun _ => nI L) (hi : i + 4 ≤ L) (hLL : L ≤ 2048) : ∃ I2 R1, EE 171 746 [some (.ref 1000), some (.ref 208), some (.ref 224), some (.int (nI i))] [] (210, I, R) = EE 171 818 [some (.ref 1000), some (.ref 208), some (.ref 224), some (.int (nI i))] [] (210, I2, R1) ∧ RL R0 (N + 80) I2 R1 ∧ I2 60 = xs ∧ I2 61 = fun _ => nI L := by
  obtain ⟨nw, bf, h, a, u, p, sl, hd, n, q, rfl, hG, hC, hM⟩ := hL
  have ho := od
  have ho2 := om
  obtain ⟨r, I1, R1, I2, e1, e2, hR, s1, s2, s3, s4⟩ := pr_carry hB hG hC hM (by omega) 
  obtain ⟨v, rfl⟩ := FF_int rfl e1
  refine ⟨I2, R1, ?_, hR.mono (by omega), s1.trans h60, s2.trans h61⟩
  simp (disch := first | omega | (show List.length _ ≤ 4; exact Nat.le_of_ble_eq_true rfl) | assumption | exact nbo_0 | exact nbo_1 | exact b2_b) only [s171_746, s171_747, s171_750, s171_751, s171_754, ↓reduceIte, psh_some, psh_none, cln_i, cln_r, cln_n, cln_l, cln_d, cln_f, Option.bind_some, Option.bind_none, if_true, if_false, nI_add, pk_mul, nbo_0, nbo_1, nI_leI, nI_ltI, nI_eq, Nat.reduceAdd, Nat.reduceMul, Nat.add_zero, Nat.mul_zero,  e1, e2, eq_self]
theorem lw_24 (hB : BR R0) (hL : RL R0 N I R) (hN : N < 2 ^ 17) (h60 : I 60 = xs) (h61 : I 61 = fun _ => nI L) (hi : i + 4 ≤ L) (hLL : L ≤ 2048) : ∃ I2 R1, EE 171 759 [some (.ref 1000), some (.ref 208), some (.ref 224), some (.int (nI i))] [] (210, I, R) = EE 171 818 [some (.ref 1000), some (.ref 208), some (.ref 224), some (.int (nI i))] [] (210, I2, R1) ∧ RL R0 (N + 80) I2 R1 ∧ I2 60 = xs ∧ I2 61 = fun _ => nI L := by
  obtain ⟨nw, bf, h, a, u, p, sl, hd, n, q, rfl, hG, hC, hM⟩ := hL
  have ho := od
  have ho2 := om
  obtain ⟨r, I1, R1, I2, e1, e2, hR, s1, s2, s3, s4⟩ := pr_undo hB hG hC hM 
  obtain ⟨v, rfl⟩ := FF_int rfl e1
  refine ⟨I2, R1, ?_, hR.mono (by omega), s1.trans h60, s2.trans h61⟩
  simp (disch := first | omega | (show List.length _ ≤ 4; exact Nat.le_of_ble_eq_true rfl) | assumption | exact nbo_0 | exact nbo_1 | exact b2_b) only [s171_759, s171_760, s171_763, s171_764, s171_767, ↓reduceIte, psh_some, psh_none, cln_i, cln_r, cln_n, cln_l, cln_d, cln_f, Option.bind_some, Option.bind_none, if_true, if_false, nI_add, pk_mul, nbo_0, nbo_1, nI_leI, nI_ltI, nI_eq, Nat.reduceAdd, Nat.reduceMul, Nat.add_zero, Nat.mul_zero,  e1, e2, eq_self]
theorem lw_25 (hB : BR R0) (hL : RL R0 N I R) (hN : N < 2 ^ 17) (h60 : I 60 = xs) (h61 : I 61 = fun _ => nI L) (hi : i + 4 ≤ L) (hLL : L ≤ 2048) : ∃ I2 R1, EE 171 772 [some (.ref 1000), some (.ref 208), some (.ref 224), some (.int (nI i))] [] (210, I, R) = EE 171 818 [some (.ref 1000), some (.ref 208), some (.ref 224), some (.int (nI i))] [] (210, I2, R1) ∧ RL R0 (N + 80) I2 R1 ∧ I2 60 = xs ∧ I2 61 = fun _ => nI L := by
  obtain ⟨nw, bf, h, a, u, p, sl, hd, n, q, rfl, hG, hC, hM⟩ := hL
  have ho := od
  have ho2 := om
  obtain ⟨r, I1, R1, I2, e1, e2, hR, s1, s2, s3, s4⟩ := pr_save hB hG hC hM (xs (i + 1))
  have y1 := rd_x (J := I) (i := i) (k := 1) h60 h61 (by omega) hLL
  have z1' := rd_x (J := I1) (i := i) (k := 1) (s3.trans h60) (s4.trans h61) (by omega) hLL
  obtain ⟨v, rfl⟩ := FF_int rfl e1
  refine ⟨I2, R1, ?_, hR.mono (by omega), s1.trans h60, s2.trans h61⟩
  simp (disch := first | omega | (show List.length _ ≤ 4; exact Nat.le_of_ble_eq_true rfl) | assumption | exact nbo_0 | exact nbo_1 | exact b2_b) only [s171_772, s171_773, s171_774, s171_775, s171_776, s171_777, s171_778, s171_781, s171_782, s171_783, s171_784, s171_785, s171_786, s171_787, s171_790, ↓reduceIte, psh_some, psh_none, cln_i, cln_r, cln_n, cln_l, cln_d, cln_f, Option.bind_some, Option.bind_none, if_true, if_false, nI_add, pk_mul, nbo_0, nbo_1, nI_leI, nI_ltI, nI_eq, Nat.reduceAdd, Nat.reduceMul, Nat.add_zero, Nat.mul_zero, y1, z1',  e1, e2, eq_self]
theorem lw_26 (hB : BR R0) (hL : RL R0 N I R) (hN : N < 2 ^ 17) (h60 : I 60 = xs) (h61 : I 61 = fun _ => nI L) (hi : i + 4 ≤ L) (hLL : L ≤ 2048) : ∃ I2 R1, EE 171 795 [some (.ref 1000), some (.ref 208), some (.ref 224), some (.int (nI i))] [] (210, I, R) = EE 171 818 [some (.ref 1000), some (.ref 208), some (.ref 224), some (.int (nI i))] [] (210, I2, R1) ∧ RL R0 (N + 80) I2 R1 ∧ I2 60 = xs ∧ I2 61 = fun _ => nI L := by
  obtain ⟨nw, bf, h, a, u, p, sl, hd, n, q, rfl, hG, hC, hM⟩ := hL
  have ho := od
  have ho2 := om
  obtain ⟨r, I1, R1, I2, e1, e2, hR, s1, s2, s3, s4⟩ := pr_restore hB hG hC hM (by omega) (xs (i + 1))
  have y1 := rd_x (J := I) (i := i) (k := 1) h60 h61 (by omega) hLL
  have z1' := rd_x (J := I1) (i := i) (k := 1) (s3.trans h60) (s4.trans h61) (by omega) hLL
  obtain ⟨v, rfl⟩ := FF_int rfl e1
  refine ⟨I2, R1, ?_, hR.mono (by omega), s1.trans h60, s2.trans h61⟩
  simp (disch := first | omega | (show List.length _ ≤ 4; exact Nat.le_of_ble_eq_true rfl) | assumption | exact nbo_0 | exact nbo_1 | exact b2_b) only [s171_795, s171_796, s171_797, s171_798, s171_799, s171_800, s171_801, s171_804, s171_805, s171_806, s171_807, s171_808, s171_809, s171_810, s171_813, ↓reduceIte, psh_some, psh_none, cln_i, cln_r, cln_n, cln_l, cln_d, cln_f, Option.bind_some, Option.bind_none, if_true, if_false, nI_add, pk_mul, nbo_0, nbo_1, nI_leI, nI_ltI, nI_eq, Nat.reduceAdd, Nat.reduceMul, Nat.add_zero, Nat.mul_zero, y1, z1',  e1, e2, eq_self]
end LW
