/-! ===== the law looks at a topic ===== -/
def onF (a : Nat → Nat) (h i m : Nat) : Nat := if a (38 + i) = 1 ∧ howN a i = h then m + 2 ^ i else m
theorem bit_add {m t i : Nat} (h : t < i) : (m + 2 ^ i) / 2 ^ t % 2 = m / 2 ^ t % 2 := by
  have e : 2 ^ i = 2 ^ t * (2 * 2 ^ (i - t - 1)) := by
    rw [← Nat.pow_succ', ← Nat.pow_add]
    congr 1
    omega
  rw [e, Nat.add_mul_div_left _ _ (Nat.two_pow_pos t)]
  omega
theorem bit_self {m i : Nat} (h : m < 2 ^ i) : (m + 2 ^ i) / 2 ^ i % 2 = 1 := by
  rw [Nat.add_div_right _ (Nat.two_pow_pos i), Nat.div_eq_of_lt h]
section TB
variable {a : Nat → Nat} {h : Nat}
theorem on_at : ∀ n, n ≤ 10 → fd (otF a h) n 0 (nI 0) = nI (fd (onF a h) n 0 0) ∧ fd (onF a h) n 0 0 < 2 ^ n ∧ ∀ t, t < n → fd (onF a h) n 0 0 / 2 ^ t % 2 = if a (38 + t) = 1 ∧ howN a t = h then 1 else 0 := by
  intro n
  induction n with
  | zero => intro _; exact ⟨rfl, (show 0 < 2 ^ 0 by decide), fun t ht => by omega⟩
  | succ n ih =>
    intro hn
    obtain ⟨i1, i2, i3⟩ := ih (by omega)
    rw [fd_last, fd_last, Nat.zero_add, i1]
    generalize fd (onF a h) n 0 0 = m at *
    have h10 : m < 1024 := Nat.lt_of_lt_of_le i2 (Nat.pow_le_pow_right (by decide) (show n ≤ 10 by omega))
    have z : m / 2 ^ n % 2 = 0 := by rw [Nat.div_eq_of_lt i2]
    have hs : 2 ^ (n + 1) = 2 ^ n + 2 ^ n := by rw [Nat.pow_succ]; omega
    unfold otF onF
    by_cases e : a (38 + n) = 1 ∧ howN a n = h
    · rw [if_pos e, if_pos e]
      refine ⟨or_bit m h10 n (by omega) z, by omega, fun t ht => ?_⟩
      by_cases e2 : t = n
      · subst e2
        rw [bit_self i2, if_pos e]
      · rw [bit_add (by omega)]
        exact i3 t (by omega)
    · rw [if_neg e, if_neg e]
      refine ⟨rfl, by omega, fun t ht => ?_⟩
      by_cases e2 : t = n
      · subst e2
        rw [z, if_neg e]
      · exact i3 t (by omega)
theorem ot_bit (hW : WO a) {t : Nat} (ht : t < a 1) : (ot a h >>> (nI t &&& 31)) &&& nI 1 = nI (if a (38 + t) = 1 ∧ howN a t = h then 1 else 0) := by
  have hT := hW.tp
  obtain ⟨i1, i2, i3⟩ := on_at (a := a) (h := h) (a 1) hT
  unfold ot
  rw [i1, sh_bit _ (Nat.lt_of_lt_of_le i2 (Nat.pow_le_pow_right (by decide) hT)) t (by omega), i3 t ht]
/-- the law's own look for the greatest, and for one who knows -/
def tpF (a : Nat → Nat) (t w : Nat) (s : Nat × Nat) : Nat × Nat := (bsF a t w s.1, gF a t w s.2)
theorem tp_at {t : Nat} : ∀ d i (s : Nat × Nat), fd (tpF a t) d i s = (fd (bsF a t) d i s.1, fd (gF a t) d i s.2)
  | 0, _, _ => rfl
  | d + 1, i, s => by
    show fd (tpF a t) d (i + 1) (tpF a t i s) = _
    rw [tp_at d (i + 1)]
    rfl
theorem tp_all {t : Nat} : fd (tpF a t) 6 0 (0, 0) = (bst a t, fd (gF a t) 6 0 0) := by
  rw [tp_at]
  have e : bsF a t 0 0 = 0 := by unfold bsF; rw [if_neg (Nat.lt_irrefl _)]
  show (fd (bsF a t) 5 1 (bsF a t 0 0), _) = _
  rw [e]
  rfl
theorem gF_le {t w s : Nat} (h : s ≤ 1) : gF a t w s ≤ 1 := by
  unfold gF
  by_cases e : s = 0
  · rw [if_pos e]
    by_cases e2 : a 2 ≤ a (58 + 10 * w + t)
    · rw [if_pos e2]; decide
    · rw [if_neg e2]; decide
  · rw [if_neg e]; decide
end TB
section TP
variable {I : Nat → Nat → Int32} {R : Nat → Nat → Option Nat} {nw bf u N : Nat} {h : Nat → Nat} {p : Nat → Nat → Nat} {a : Nat → Nat}
theorem f82 (hB : BR R) (hC : CL I nw bf h a u p) (hX : WX N a) (hN : N < 2 ^ 17) {t : Nat} (ht : t < a 1) : FF 82 [.ref 208, .int (nI t)] (202, I, QR R nw bf h) = some (some (.int (nI 1)), 202, I, QR R nw bf h) := by
  have ho := od
  have hWN := hX.1
  have hW := hWN.1
  have hT := hW.tp
  have hL := hW.li
  have h0 : a 0 < 2 ^ 30 := Nat.lt_of_le_of_lt hWN.2.1 (by omega)
  have a0N := hWN.2.1
  have hkn := hW.kn
  have hf : frm a < 6 := hW.ro _ (Nat.mod_lt _ (by decide))
  have l1 := hW.lv (frm a) t hf (by omega)
  have v0 := v_t0 hB hC hW ht
  have v1 := v_t1 hB hC hW h0 ht
  have v2 := v_t2 hB hC hW ht
  have v3 := v_t3 hB hC hW ht
  have v4 := v_t4 hB hC hW ht
  have v5 := v_t5 hB hC hW ht
  have v6 := v_t6 hB hC hW ht
  have w0 := v_c0 hB hC hW h0
  have w1 := v_c1 hB hC hW h0
  have w9 := v_c9 hB hC hW h0
  have w10 := v_c10 hB hC hW h0
  have w11 := v_c11 hB hC hW h0
  have vl := fun (w : Nat) (hw : w < 6) => v_level hB hC hW hw ht
  have vf : FF 58 [.ref 208, .int (nI (a (14 + a 0 % 12))), .int (nI t)] (202, I, QR R nw bf h) = some (some (.int (nI (a (58 + 10 * frm a + t)))), 202, I, QR R nw bf h) := vl (frm a) hf
  have b1 := nbo_1
  -- the workers
  have main := fd_loop (E := fun i (s : Nat × Nat) => EE 82 10 [some (.ref 208), some (.int (nI t)), some (.int (nI s.1)), some (.int (nI s.2)), some (.int (nI 1)), some (.int (nI i)), none, none] [] (202, I, QR R nw bf h)) (f := tpF a t) (Inv := fun _ s => s.1 < 6 ∧ s.2 ≤ 1) 6 (by
    intro i s hi ⟨hs1, hs2⟩
    obtain ⟨g, k⟩ := s
    have hs1 : g < 6 := hs1
    have hs2 : k ≤ 1 := hs2
    refine ⟨?_, ?_, gF_le hs2⟩
    · have n6 : ¬ 6 ≤ i := by omega
      have li := hW.lv i t hi (by omega)
      have lg := hW.lv g t hs1 (by omega)
      have vi := vl i hi
      have vg := vl g hs1
      have m1 : ¬ nI (a (58 + 10 * i + t)) < 0 := nI_pos (by omega)
      have m2 : ¬ 100 < a (58 + 10 * i + t) := by omega
      show EE 82 10 _ _ _ = EE 82 10 _ _ _
      rw [s82_10]
      unfold tpF bsF gF
      by_cases e1 : a (58 + 10 * g + t) < a (58 + 10 * i + t)
      · have e1' : ¬ a (58 + 10 * i + t) ≤ a (58 + 10 * g + t) := by omega
        rcases (show k = 0 ∨ k = 1 by omega) with rfl | rfl
        · by_cases e2 : a 2 ≤ a (58 + 10 * i + t)
          · have e2' : ¬ a (58 + 10 * i + t) < a 2 := by omega
            simp (disch := first | omega | (show List.length _ ≤ 4; exact Nat.le_of_ble_eq_true rfl) | assumption | exact nbo_0 | exact nbo_1 | exact b2_b) only [s82_0, s82_1, s82_2, s82_3, s82_4, s82_5, s82_7, s82_8, s82_12, s82_14, s82_17, s82_19, s82_22, s82_23, s82_25, s82_26, s82_29, s82_32, s82_33, s82_35, s82_36, s82_39, s82_41, s82_44, s82_45, s82_48, s82_49, s82_51, s82_52, s82_54, s82_55, s82_58, s82_59, s82_60, s82_61, s82_64, s82_67, s82_69, s82_72, s82_73, s82_74, s82_75, s82_78, s82_79, s82_81, s82_82, s82_85, s82_86, s82_88, s82_91, s82_94, s82_95, s82_98, s82_99, s82_100, s82_103, s82_106, s82_107, s82_108, s82_109, s82_112, s82_113, s82_116, s82_117, s82_120, s82_121, s82_123, s82_125, s82_128, s82_130, s82_133, s82_134, s82_135, s82_136, s82_139, s82_140, s82_143, s82_144, s82_146, s82_149, s82_152, s82_153, s82_156, s82_157, s82_160, s82_161, s82_164, s82_165, s82_167, s82_169, s82_172, s82_173, s82_174, s82_175, s82_178, s82_180, s82_183, s82_184, s82_185, s82_186, s82_189, s82_190, s82_193, s82_194, s82_196, s82_199, s82_200, s82_201, s82_202, s82_203, s82_205, s82_206, s82_209, s82_210, s82_213, s82_214, s82_217, s82_218, s82_220, s82_223, s82_224, s82_225, s82_226, s82_227, s82_229, s82_230, s82_233, s82_234, s82_237, s82_238, s82_241, s82_242, s82_245, s82_246, s82_248, s82_249, s82_250, s82_251, s82_254, s82_256, s82_258, s82_261, s82_263, s82_265, s82_268, s82_269, s82_271, s82_274, s82_275, s82_278, s82_279, s82_280, s82_282, s82_285, s82_286, s82_287, s82_288, s82_291, s82_294, s82_295, s82_296, s82_297, s82_300, s82_301, s82_302, s82_304, s82_307, s82_308, s82_309, s82_310, s82_311, s82_314, s82_317, s82_318, s82_321, s82_322, s82_324, s82_326, s82_329, s82_330, s82_331, s82_332, s82_335, s82_336, s82_337, s82_340, s82_343, s82_344, s82_345, s82_348, s82_350, s82_353, s82_354, s82_357, s82_358, s82_359, s82_360, s82_361, s82_364, s82_367, s82_368, s82_371, s82_372, s82_375, s82_376, s82_379, s82_380, ↓reduceIte, psh_some, psh_none, cln_i, cln_r, cln_n, cln_l, cln_d, cln_f, Option.bind_some, Option.bind_none, if_true, if_false, nI_add, pk_mul, nbo_0, nbo_1, nI_leI, nI_ltI, nI_eq, Nat.reduceAdd, Nat.reduceMul, Nat.add_zero, Nat.mul_zero, z0, z1, n6, m1, m2, vi, vg, w11, e1, e1', e2, e2']
          · have e2' : a (58 + 10 * i + t) < a 2 := by omega
            simp (disch := first | omega | (show List.length _ ≤ 4; exact Nat.le_of_ble_eq_true rfl) | assumption | exact nbo_0 | exact nbo_1 | exact b2_b) only [s82_0, s82_1, s82_2, s82_3, s82_4, s82_5, s82_7, s82_8, s82_12, s82_14, s82_17, s82_19, s82_22, s82_23, s82_25, s82_26, s82_29, s82_32, s82_33, s82_35, s82_36, s82_39, s82_41, s82_44, s82_45, s82_48, s82_49, s82_51, s82_52, s82_54, s82_55, s82_58, s82_59, s82_60, s82_61, s82_64, s82_67, s82_69, s82_72, s82_73, s82_74, s82_75, s82_78, s82_79, s82_81, s82_82, s82_85, s82_86, s82_88, s82_91, s82_94, s82_95, s82_98, s82_99, s82_100, s82_103, s82_106, s82_107, s82_108, s82_109, s82_112, s82_113, s82_116, s82_117, s82_120, s82_121, s82_123, s82_125, s82_128, s82_130, s82_133, s82_134, s82_135, s82_136, s82_139, s82_140, s82_143, s82_144, s82_146, s82_149, s82_152, s82_153, s82_156, s82_157, s82_160, s82_161, s82_164, s82_165, s82_167, s82_169, s82_172, s82_173, s82_174, s82_175, s82_178, s82_180, s82_183, s82_184, s82_185, s82_186, s82_189, s82_190, s82_193, s82_194, s82_196, s82_199, s82_200, s82_201, s82_202, s82_203, s82_205, s82_206, s82_209, s82_210, s82_213, s82_214, s82_217, s82_218, s82_220, s82_223, s82_224, s82_225, s82_226, s82_227, s82_229, s82_230, s82_233, s82_234, s82_237, s82_238, s82_241, s82_242, s82_245, s82_246, s82_248, s82_249, s82_250, s82_251, s82_254, s82_256, s82_258, s82_261, s82_263, s82_265, s82_268, s82_269, s82_271, s82_274, s82_275, s82_278, s82_279, s82_280, s82_282, s82_285, s82_286, s82_287, s82_288, s82_291, s82_294, s82_295, s82_296, s82_297, s82_300, s82_301, s82_302, s82_304, s82_307, s82_308, s82_309, s82_310, s82_311, s82_314, s82_317, s82_318, s82_321, s82_322, s82_324, s82_326, s82_329, s82_330, s82_331, s82_332, s82_335, s82_336, s82_337, s82_340, s82_343, s82_344, s82_345, s82_348, s82_350, s82_353, s82_354, s82_357, s82_358, s82_359, s82_360, s82_361, s82_364, s82_367, s82_368, s82_371, s82_372, s82_375, s82_376, s82_379, s82_380, ↓reduceIte, psh_some, psh_none, cln_i, cln_r, cln_n, cln_l, cln_d, cln_f, Option.bind_some, Option.bind_none, if_true, if_false, nI_add, pk_mul, nbo_0, nbo_1, nI_leI, nI_ltI, nI_eq, Nat.reduceAdd, Nat.reduceMul, Nat.add_zero, Nat.mul_zero, z0, z1, n6, m1, m2, vi, vg, w11, e1, e1', e2, e2']
        · simp (disch := first | omega | (show List.length _ ≤ 4; exact Nat.le_of_ble_eq_true rfl) | assumption | exact nbo_0 | exact nbo_1 | exact b2_b) only [s82_0, s82_1, s82_2, s82_3, s82_4, s82_5, s82_7, s82_8, s82_12, s82_14, s82_17, s82_19, s82_22, s82_23, s82_25, s82_26, s82_29, s82_32, s82_33, s82_35, s82_36, s82_39, s82_41, s82_44, s82_45, s82_48, s82_49, s82_51, s82_52, s82_54, s82_55, s82_58, s82_59, s82_60, s82_61, s82_64, s82_67, s82_69, s82_72, s82_73, s82_74, s82_75, s82_78, s82_79, s82_81, s82_82, s82_85, s82_86, s82_88, s82_91, s82_94, s82_95, s82_98, s82_99, s82_100, s82_103, s82_106, s82_107, s82_108, s82_109, s82_112, s82_113, s82_116, s82_117, s82_120, s82_121, s82_123, s82_125, s82_128, s82_130, s82_133, s82_134, s82_135, s82_136, s82_139, s82_140, s82_143, s82_144, s82_146, s82_149, s82_152, s82_153, s82_156, s82_157, s82_160, s82_161, s82_164, s82_165, s82_167, s82_169, s82_172, s82_173, s82_174, s82_175, s82_178, s82_180, s82_183, s82_184, s82_185, s82_186, s82_189, s82_190, s82_193, s82_194, s82_196, s82_199, s82_200, s82_201, s82_202, s82_203, s82_205, s82_206, s82_209, s82_210, s82_213, s82_214, s82_217, s82_218, s82_220, s82_223, s82_224, s82_225, s82_226, s82_227, s82_229, s82_230, s82_233, s82_234, s82_237, s82_238, s82_241, s82_242, s82_245, s82_246, s82_248, s82_249, s82_250, s82_251, s82_254, s82_256, s82_258, s82_261, s82_263, s82_265, s82_268, s82_269, s82_271, s82_274, s82_275, s82_278, s82_279, s82_280, s82_282, s82_285, s82_286, s82_287, s82_288, s82_291, s82_294, s82_295, s82_296, s82_297, s82_300, s82_301, s82_302, s82_304, s82_307, s82_308, s82_309, s82_310, s82_311, s82_314, s82_317, s82_318, s82_321, s82_322, s82_324, s82_326, s82_329, s82_330, s82_331, s82_332, s82_335, s82_336, s82_337, s82_340, s82_343, s82_344, s82_345, s82_348, s82_350, s82_353, s82_354, s82_357, s82_358, s82_359, s82_360, s82_361, s82_364, s82_367, s82_368, s82_371, s82_372, s82_375, s82_376, s82_379, s82_380, ↓reduceIte, psh_some, psh_none, cln_i, cln_r, cln_n, cln_l, cln_d, cln_f, Option.bind_some, Option.bind_none, if_true, if_false, nI_add, pk_mul, nbo_0, nbo_1, nI_leI, nI_ltI, nI_eq, Nat.reduceAdd, Nat.reduceMul, Nat.add_zero, Nat.mul_zero, z0, z1, n6, m1, m2, vi, vg, e1, e1', Nat.reduceEqDiff]
      · have e1' : a (58 + 10 * i + t) ≤ a (58 + 10 * g + t) := by omega
        rcases (show k = 0 ∨ k = 1 by omega) with rfl | rfl
        · by_cases e2 : a 2 ≤ a (58 + 10 * i + t)
          · have e2' : ¬ a (58 + 10 * i + t) < a 2 := by omega
            simp (disch := first | omega | (show List.length _ ≤ 4; exact Nat.le_of_ble_eq_true rfl) | assumption | exact nbo_0 | exact nbo_1 | exact b2_b) only [s82_0, s82_1, s82_2, s82_3, s82_4, s82_5, s82_7, s82_8, s82_12, s82_14, s82_17, s82_19, s82_22, s82_23, s82_25, s82_26, s82_29, s82_32, s82_33, s82_35, s82_36, s82_39, s82_41, s82_44, s82_45, s82_48, s82_49, s82_51, s82_52, s82_54, s82_55, s82_58, s82_59, s82_60, s82_61, s82_64, s82_67, s82_69, s82_72, s82_73, s82_74, s82_75, s82_78, s82_79, s82_81, s82_82, s82_85, s82_86, s82_88, s82_91, s82_94, s82_95, s82_98, s82_99, s82_100, s82_103, s82_106, s82_107, s82_108, s82_109, s82_112, s82_113, s82_116, s82_117, s82_120, s82_121, s82_123, s82_125, s82_128, s82_130, s82_133, s82_134, s82_135, s82_136, s82_139, s82_140, s82_143, s82_144, s82_146, s82_149, s82_152, s82_153, s82_156, s82_157, s82_160, s82_161, s82_164, s82_165, s82_167, s82_169, s82_172, s82_173, s82_174, s82_175, s82_178, s82_180, s82_183, s82_184, s82_185, s82_186, s82_189, s82_190, s82_193, s82_194, s82_196, s82_199, s82_200, s82_201, s82_202, s82_203, s82_205, s82_206, s82_209, s82_210, s82_213, s82_214, s82_217, s82_218, s82_220, s82_223, s82_224, s82_225, s82_226, s82_227, s82_229, s82_230, s82_233, s82_234, s82_237, s82_238, s82_241, s82_242, s82_245, s82_246, s82_248, s82_249, s82_250, s82_251, s82_254, s82_256, s82_258, s82_261, s82_263, s82_265, s82_268, s82_269, s82_271, s82_274, s82_275, s82_278, s82_279, s82_280, s82_282, s82_285, s82_286, s82_287, s82_288, s82_291, s82_294, s82_295, s82_296, s82_297, s82_300, s82_301, s82_302, s82_304, s82_307, s82_308, s82_309, s82_310, s82_311, s82_314, s82_317, s82_318, s82_321, s82_322, s82_324, s82_326, s82_329, s82_330, s82_331, s82_332, s82_335, s82_336, s82_337, s82_340, s82_343, s82_344, s82_345, s82_348, s82_350, s82_353, s82_354, s82_357, s82_358, s82_359, s82_360, s82_361, s82_364, s82_367, s82_368, s82_371, s82_372, s82_375, s82_376, s82_379, s82_380, ↓reduceIte, psh_some, psh_none, cln_i, cln_r, cln_n, cln_l, cln_d, cln_f, Option.bind_some, Option.bind_none, if_true, if_false, nI_add, pk_mul, nbo_0, nbo_1, nI_leI, nI_ltI, nI_eq, Nat.reduceAdd, Nat.reduceMul, Nat.add_zero, Nat.mul_zero, z0, z1, n6, m1, m2, vi, vg, w11, e1, e1', e2, e2']
          · have e2' : a (58 + 10 * i + t) < a 2 := by omega
            simp (disch := first | omega | (show List.length _ ≤ 4; exact Nat.le_of_ble_eq_true rfl) | assumption | exact nbo_0 | exact nbo_1 | exact b2_b) only [s82_0, s82_1, s82_2, s82_3, s82_4, s82_5, s82_7, s82_8, s82_12, s82_14, s82_17, s82_19, s82_22, s82_23, s82_25, s82_26, s82_29, s82_32, s82_33, s82_35, s82_36, s82_39, s82_41, s82_44, s82_45, s82_48, s82_49, s82_51, s82_52, s82_54, s82_55, s82_58, s82_59, s82_60, s82_61, s82_64, s82_67, s82_69, s82_72, s82_73, s82_74, s82_75, s82_78, s82_79, s82_81, s82_82, s82_85, s82_86, s82_88, s82_91, s82_94, s82_95, s82_98, s82_99, s82_100, s82_103, s82_106, s82_107, s82_108, s82_109, s82_112, s82_113, s82_116, s82_117, s82_120, s82_121, s82_123, s82_125, s82_128, s82_130, s82_133, s82_134, s82_135, s82_136, s82_139, s82_140, s82_143, s82_144, s82_146, s82_149, s82_152, s82_153, s82_156, s82_157, s82_160, s82_161, s82_164, s82_165, s82_167, s82_169, s82_172, s82_173, s82_174, s82_175, s82_178, s82_180, s82_183, s82_184, s82_185, s82_186, s82_189, s82_190, s82_193, s82_194, s82_196, s82_199, s82_200, s82_201, s82_202, s82_203, s82_205, s82_206, s82_209, s82_210, s82_213, s82_214, s82_217, s82_218, s82_220, s82_223, s82_224, s82_225, s82_226, s82_227, s82_229, s82_230, s82_233, s82_234, s82_237, s82_238, s82_241, s82_242, s82_245, s82_246, s82_248, s82_249, s82_250, s82_251, s82_254, s82_256, s82_258, s82_261, s82_263, s82_265, s82_268, s82_269, s82_271, s82_274, s82_275, s82_278, s82_279, s82_280, s82_282, s82_285, s82_286, s82_287, s82_288, s82_291, s82_294, s82_295, s82_296, s82_297, s82_300, s82_301, s82_302, s82_304, s82_307, s82_308, s82_309, s82_310, s82_311, s82_314, s82_317, s82_318, s82_321, s82_322, s82_324, s82_326, s82_329, s82_330, s82_331, s82_332, s82_335, s82_336, s82_337, s82_340, s82_343, s82_344, s82_345, s82_348, s82_350, s82_353, s82_354, s82_357, s82_358, s82_359, s82_360, s82_361, s82_364, s82_367, s82_368, s82_371, s82_372, s82_375, s82_376, s82_379, s82_380, ↓reduceIte, psh_some, psh_none, cln_i, cln_r, cln_n, cln_l, cln_d, cln_f, Option.bind_some, Option.bind_none, if_true, if_false, nI_add, pk_mul, nbo_0, nbo_1, nI_leI, nI_ltI, nI_eq, Nat.reduceAdd, Nat.reduceMul, Nat.add_zero, Nat.mul_zero, z0, z1, n6, m1, m2, vi, vg, w11, e1, e1', e2, e2']
        · simp (disch := first | omega | (show List.length _ ≤ 4; exact Nat.le_of_ble_eq_true rfl) | assumption | exact nbo_0 | exact nbo_1 | exact b2_b) only [s82_0, s82_1, s82_2, s82_3, s82_4, s82_5, s82_7, s82_8, s82_12, s82_14, s82_17, s82_19, s82_22, s82_23, s82_25, s82_26, s82_29, s82_32, s82_33, s82_35, s82_36, s82_39, s82_41, s82_44, s82_45, s82_48, s82_49, s82_51, s82_52, s82_54, s82_55, s82_58, s82_59, s82_60, s82_61, s82_64, s82_67, s82_69, s82_72, s82_73, s82_74, s82_75, s82_78, s82_79, s82_81, s82_82, s82_85, s82_86, s82_88, s82_91, s82_94, s82_95, s82_98, s82_99, s82_100, s82_103, s82_106, s82_107, s82_108, s82_109, s82_112, s82_113, s82_116, s82_117, s82_120, s82_121, s82_123, s82_125, s82_128, s82_130, s82_133, s82_134, s82_135, s82_136, s82_139, s82_140, s82_143, s82_144, s82_146, s82_149, s82_152, s82_153, s82_156, s82_157, s82_160, s82_161, s82_164, s82_165, s82_167, s82_169, s82_172, s82_173, s82_174, s82_175, s82_178, s82_180, s82_183, s82_184, s82_185, s82_186, s82_189, s82_190, s82_193, s82_194, s82_196, s82_199, s82_200, s82_201, s82_202, s82_203, s82_205, s82_206, s82_209, s82_210, s82_213, s82_214, s82_217, s82_218, s82_220, s82_223, s82_224, s82_225, s82_226, s82_227, s82_229, s82_230, s82_233, s82_234, s82_237, s82_238, s82_241, s82_242, s82_245, s82_246, s82_248, s82_249, s82_250, s82_251, s82_254, s82_256, s82_258, s82_261, s82_263, s82_265, s82_268, s82_269, s82_271, s82_274, s82_275, s82_278, s82_279, s82_280, s82_282, s82_285, s82_286, s82_287, s82_288, s82_291, s82_294, s82_295, s82_296, s82_297, s82_300, s82_301, s82_302, s82_304, s82_307, s82_308, s82_309, s82_310, s82_311, s82_314, s82_317, s82_318, s82_321, s82_322, s82_324, s82_326, s82_329, s82_330, s82_331, s82_332, s82_335, s82_336, s82_337, s82_340, s82_343, s82_344, s82_345, s82_348, s82_350, s82_353, s82_354, s82_357, s82_358, s82_359, s82_360, s82_361, s82_364, s82_367, s82_368, s82_371, s82_372, s82_375, s82_376, s82_379, s82_380, ↓reduceIte, psh_some, psh_none, cln_i, cln_r, cln_n, cln_l, cln_d, cln_f, Option.bind_some, Option.bind_none, if_true, if_false, nI_add, pk_mul, nbo_0, nbo_1, nI_leI, nI_ltI, nI_eq, Nat.reduceAdd, Nat.reduceMul, Nat.add_zero, Nat.mul_zero, z0, z1, n6, m1, m2, vi, vg, e1, e1', Nat.reduceEqDiff]
    · show bsF a t i g < 6
      unfold bsF
      by_cases e : a (58 + 10 * g + t) < a (58 + 10 * i + t)
      · rw [if_pos e]; exact hi
      · rw [if_neg e]; exact hs1) 6 0 (0, 0) (by decide) ⟨by decide, by decide⟩
  obtain ⟨m1, m2⟩ := main
  rw [tp_all] at m1 m2
  have m3 : fd (gF a t) 6 0 0 ≤ 1 := m2.2
  have bstl : bst a t < 6 := bst_lt
  have hA : FF 82 [.ref 208, .int (nI t)] (202, I, QR R nw bf h) = EE 82 106 [some (.ref 208), some (.int (nI t)), some (.int (nI (bst a t))), some (.int (nI (fd (gF a t) 6 0 0))), some (.int (nI 1)), some (.int (nI 6)), none, none] [] (202, I, QR R nw bf h) := by
    have q : FF 82 [.ref 208, .int (nI t)] (202, I, QR R nw bf h) = EE 82 10 [some (.ref 208), some (.int (nI t)), some (.int (nI 0)), some (.int (nI 0)), some (.int (nI 1)), some (.int (nI 0)), none, none] [] (202, I, QR R nw bf h) := by
      simp (disch := first | omega | (show List.length _ ≤ 4; exact Nat.le_of_ble_eq_true rfl) | assumption | exact nbo_0 | exact nbo_1 | exact b2_b) only [FE82, s82_0, s82_1, s82_2, s82_3, s82_4, s82_5, s82_7, s82_8, ↓reduceIte, psh_some, psh_none, cln_i, cln_r, cln_n, cln_l, cln_d, cln_f, Option.bind_some, Option.bind_none, if_true, if_false, nI_add, pk_mul, nbo_0, nbo_1, nI_leI, nI_ltI, nI_eq, Nat.reduceAdd, Nat.reduceMul, Nat.add_zero, Nat.mul_zero]
    refine q.trans (m1.trans ?_)
    show EE 82 10 [some (.ref 208), some (.int (nI t)), some (.int (nI (bst a t))), some (.int (nI (fd (gF a t) 6 0 0))), some (.int (nI 1)), some (.int (nI 6)), none, none] [] (202, I, QR R nw bf h) = _
    have n6 : 6 ≤ 6 := Nat.le_refl _
    rw [s82_10]
    simp (disch := first | omega | (show List.length _ ≤ 4; exact Nat.le_of_ble_eq_true rfl) | assumption | exact nbo_0 | exact nbo_1 | exact b2_b) only [s82_12, s82_14, ↓reduceIte, psh_some, psh_none, cln_i, cln_r, cln_n, cln_l, cln_d, cln_f, Option.bind_some, Option.bind_none, if_true, if_false, nI_add, pk_mul, nbo_0, nbo_1, nI_leI, nI_ltI, nI_eq, Nat.reduceAdd, Nat.reduceMul, Nat.add_zero, Nat.mul_zero, n6]
  have hhow : ∀ x, howN a t = x → x = if a 2 ≤ a (58 + 10 * frm a + t) then 0 else if fd (gF a t) 6 0 0 = 0 then 2 else 1 := fun x hx => hx.symm.trans rfl
  have ob9 := ot_bit (a := a) (h := 2) hW ht
  have ob10 := ot_bit (a := a) (h := 1) hW ht
  generalize fd (gF a t) 6 0 0 = G at *
  -- how it is, and the four looks behind it
  have hop := hW.op t (by omega)
  have q6 : ((-6 : Int32) = nI 2) = False := eq_false (by decide)
  have q7 : ((-6 : Int32) = nI 1) = False := eq_false (by decide)
  have hD : ∃ l5 l6, EE 82 106 [some (.ref 208), some (.int (nI t)), some (.int (nI (bst a t))), some (.int (nI G)), some (.int (nI 1)), some (.int (nI 6)), none, none] [] (202, I, QR R nw bf h) = EE 82 246 [some (.ref 208), some (.int (nI t)), some (.int (nI (bst a t))), some (.int (nI G)), some (.int (nI 1)), some (.int l5), some (.int l6), none] [.int (nI 1)] (202, I, QR R nw bf h) := by
    by_cases e : a (38 + t) = 1
    · rw [if_pos e] at v1
      rw [e] at v0
      by_cases e1 : a 2 ≤ a (58 + 10 * frm a + t)
      · have e1' : ¬ a (58 + 10 * frm a + t) < a 2 := by omega
        have hh := hhow _ rfl
        rw [if_pos e1] at hh
        rw [hh] at v1
        rw [if_neg (by rw [hh]; omega)] at ob9 ob10
        refine ⟨nI 1, nI 0, ?_⟩
        simp (disch := first | omega | (show List.length _ ≤ 4; exact Nat.le_of_ble_eq_true rfl) | assumption | exact nbo_0 | exact nbo_1 | exact b2_b) only [s82_0, s82_1, s82_2, s82_3, s82_4, s82_5, s82_7, s82_8, s82_12, s82_14, s82_17, s82_19, s82_22, s82_23, s82_25, s82_26, s82_29, s82_32, s82_33, s82_35, s82_36, s82_39, s82_41, s82_44, s82_45, s82_48, s82_49, s82_51, s82_52, s82_54, s82_55, s82_58, s82_59, s82_60, s82_61, s82_64, s82_67, s82_69, s82_72, s82_73, s82_74, s82_75, s82_78, s82_79, s82_81, s82_82, s82_85, s82_86, s82_88, s82_91, s82_94, s82_95, s82_98, s82_99, s82_100, s82_103, s82_106, s82_107, s82_108, s82_109, s82_112, s82_113, s82_116, s82_117, s82_120, s82_121, s82_123, s82_125, s82_128, s82_130, s82_133, s82_134, s82_135, s82_136, s82_139, s82_140, s82_143, s82_144, s82_146, s82_149, s82_152, s82_153, s82_156, s82_157, s82_160, s82_161, s82_164, s82_165, s82_167, s82_169, s82_172, s82_173, s82_174, s82_175, s82_178, s82_180, s82_183, s82_184, s82_185, s82_186, s82_189, s82_190, s82_193, s82_194, s82_196, s82_199, s82_200, s82_201, s82_202, s82_203, s82_205, s82_206, s82_209, s82_210, s82_213, s82_214, s82_217, s82_218, s82_220, s82_223, s82_224, s82_225, s82_226, s82_227, s82_229, s82_230, s82_233, s82_234, s82_237, s82_238, s82_241, s82_242, s82_245, s82_248, s82_249, s82_250, s82_251, s82_254, s82_256, s82_258, s82_261, s82_263, s82_265, s82_268, s82_269, s82_271, s82_274, s82_275, s82_278, s82_279, s82_280, s82_282, s82_285, s82_286, s82_287, s82_288, s82_291, s82_294, s82_295, s82_296, s82_297, s82_300, s82_301, s82_302, s82_304, s82_307, s82_308, s82_309, s82_310, s82_311, s82_314, s82_317, s82_318, s82_321, s82_322, s82_324, s82_326, s82_329, s82_330, s82_331, s82_332, s82_335, s82_336, s82_337, s82_340, s82_343, s82_344, s82_345, s82_348, s82_350, s82_353, s82_354, s82_357, s82_358, s82_359, s82_360, s82_361, s82_364, s82_367, s82_368, s82_371, s82_372, s82_375, s82_376, s82_379, s82_380, ↓reduceIte, psh_some, psh_none, cln_i, cln_r, cln_n, cln_l, cln_d, cln_f, Option.bind_some, Option.bind_none, if_true, if_false, nI_add, pk_mul, nbo_0, nbo_1, nI_leI, nI_ltI, nI_eq, Nat.reduceAdd, Nat.reduceMul, Nat.add_zero, Nat.mul_zero, eq_self, z0, z1, v0, v1, v3, w1, w9, w10, w11, vf, e1', ob9, ob10, Nat.reduceEqDiff]
      · have e1' : a (58 + 10 * frm a + t) < a 2 := by omega
        have hh := hhow _ rfl
        rw [if_neg e1] at hh
        rcases (show G = 0 ∨ G = 1 by omega) with rfl | rfl
        · rw [if_pos rfl] at hh
          rw [hh] at v1
          rw [if_pos ⟨e, hh⟩] at ob9
          rw [if_neg (by rw [hh]; omega)] at ob10
          refine ⟨nI 1, nI 2, ?_⟩
          simp (disch := first | omega | (show List.length _ ≤ 4; exact Nat.le_of_ble_eq_true rfl) | assumption | exact nbo_0 | exact nbo_1 | exact b2_b) only [s82_0, s82_1, s82_2, s82_3, s82_4, s82_5, s82_7, s82_8, s82_12, s82_14, s82_17, s82_19, s82_22, s82_23, s82_25, s82_26, s82_29, s82_32, s82_33, s82_35, s82_36, s82_39, s82_41, s82_44, s82_45, s82_48, s82_49, s82_51, s82_52, s82_54, s82_55, s82_58, s82_59, s82_60, s82_61, s82_64, s82_67, s82_69, s82_72, s82_73, s82_74, s82_75, s82_78, s82_79, s82_81, s82_82, s82_85, s82_86, s82_88, s82_91, s82_94, s82_95, s82_98, s82_99, s82_100, s82_103, s82_106, s82_107, s82_108, s82_109, s82_112, s82_113, s82_116, s82_117, s82_120, s82_121, s82_123, s82_125, s82_128, s82_130, s82_133, s82_134, s82_135, s82_136, s82_139, s82_140, s82_143, s82_144, s82_146, s82_149, s82_152, s82_153, s82_156, s82_157, s82_160, s82_161, s82_164, s82_165, s82_167, s82_169, s82_172, s82_173, s82_174, s82_175, s82_178, s82_180, s82_183, s82_184, s82_185, s82_186, s82_189, s82_190, s82_193, s82_194, s82_196, s82_199, s82_200, s82_201, s82_202, s82_203, s82_205, s82_206, s82_209, s82_210, s82_213, s82_214, s82_217, s82_218, s82_220, s82_223, s82_224, s82_225, s82_226, s82_227, s82_229, s82_230, s82_233, s82_234, s82_237, s82_238, s82_241, s82_242, s82_245, s82_248, s82_249, s82_250, s82_251, s82_254, s82_256, s82_258, s82_261, s82_263, s82_265, s82_268, s82_269, s82_271, s82_274, s82_275, s82_278, s82_279, s82_280, s82_282, s82_285, s82_286, s82_287, s82_288, s82_291, s82_294, s82_295, s82_296, s82_297, s82_300, s82_301, s82_302, s82_304, s82_307, s82_308, s82_309, s82_310, s82_311, s82_314, s82_317, s82_318, s82_321, s82_322, s82_324, s82_326, s82_329, s82_330, s82_331, s82_332, s82_335, s82_336, s82_337, s82_340, s82_343, s82_344, s82_345, s82_348, s82_350, s82_353, s82_354, s82_357, s82_358, s82_359, s82_360, s82_361, s82_364, s82_367, s82_368, s82_371, s82_372, s82_375, s82_376, s82_379, s82_380, ↓reduceIte, psh_some, psh_none, cln_i, cln_r, cln_n, cln_l, cln_d, cln_f, Option.bind_some, Option.bind_none, if_true, if_false, nI_add, pk_mul, nbo_0, nbo_1, nI_leI, nI_ltI, nI_eq, Nat.reduceAdd, Nat.reduceMul, Nat.add_zero, Nat.mul_zero, eq_self, z0, z1, v0, v1, v3, w1, w9, w10, w11, vf, e1', ob9, ob10, Nat.reduceEqDiff]
        · rw [if_neg (by decide)] at hh
          rw [hh] at v1
          rw [if_neg (by rw [hh]; omega)] at ob9
          rw [if_pos ⟨e, hh⟩] at ob10
          refine ⟨nI 1, nI 1, ?_⟩
          simp (disch := first | omega | (show List.length _ ≤ 4; exact Nat.le_of_ble_eq_true rfl) | assumption | exact nbo_0 | exact nbo_1 | exact b2_b) only [s82_0, s82_1, s82_2, s82_3, s82_4, s82_5, s82_7, s82_8, s82_12, s82_14, s82_17, s82_19, s82_22, s82_23, s82_25, s82_26, s82_29, s82_32, s82_33, s82_35, s82_36, s82_39, s82_41, s82_44, s82_45, s82_48, s82_49, s82_51, s82_52, s82_54, s82_55, s82_58, s82_59, s82_60, s82_61, s82_64, s82_67, s82_69, s82_72, s82_73, s82_74, s82_75, s82_78, s82_79, s82_81, s82_82, s82_85, s82_86, s82_88, s82_91, s82_94, s82_95, s82_98, s82_99, s82_100, s82_103, s82_106, s82_107, s82_108, s82_109, s82_112, s82_113, s82_116, s82_117, s82_120, s82_121, s82_123, s82_125, s82_128, s82_130, s82_133, s82_134, s82_135, s82_136, s82_139, s82_140, s82_143, s82_144, s82_146, s82_149, s82_152, s82_153, s82_156, s82_157, s82_160, s82_161, s82_164, s82_165, s82_167, s82_169, s82_172, s82_173, s82_174, s82_175, s82_178, s82_180, s82_183, s82_184, s82_185, s82_186, s82_189, s82_190, s82_193, s82_194, s82_196, s82_199, s82_200, s82_201, s82_202, s82_203, s82_205, s82_206, s82_209, s82_210, s82_213, s82_214, s82_217, s82_218, s82_220, s82_223, s82_224, s82_225, s82_226, s82_227, s82_229, s82_230, s82_233, s82_234, s82_237, s82_238, s82_241, s82_242, s82_245, s82_248, s82_249, s82_250, s82_251, s82_254, s82_256, s82_258, s82_261, s82_263, s82_265, s82_268, s82_269, s82_271, s82_274, s82_275, s82_278, s82_279, s82_280, s82_282, s82_285, s82_286, s82_287, s82_288, s82_291, s82_294, s82_295, s82_296, s82_297, s82_300, s82_301, s82_302, s82_304, s82_307, s82_308, s82_309, s82_310, s82_311, s82_314, s82_317, s82_318, s82_321, s82_322, s82_324, s82_326, s82_329, s82_330, s82_331, s82_332, s82_335, s82_336, s82_337, s82_340, s82_343, s82_344, s82_345, s82_348, s82_350, s82_353, s82_354, s82_357, s82_358, s82_359, s82_360, s82_361, s82_364, s82_367, s82_368, s82_371, s82_372, s82_375, s82_376, s82_379, s82_380, ↓reduceIte, psh_some, psh_none, cln_i, cln_r, cln_n, cln_l, cln_d, cln_f, Option.bind_some, Option.bind_none, if_true, if_false, nI_add, pk_mul, nbo_0, nbo_1, nI_leI, nI_ltI, nI_eq, Nat.reduceAdd, Nat.reduceMul, Nat.add_zero, Nat.mul_zero, eq_self, z0, z1, v0, v1, v3, w1, w9, w10, w11, vf, e1', ob9, ob10, Nat.reduceEqDiff]
    · rw [if_neg e] at v1
      rw [if_neg (fun hc => e hc.1)] at ob9 ob10
      have e0 : a (38 + t) = 0 := by omega
      rw [e0] at v0
      refine ⟨nI 0, -6, ?_⟩
      simp (disch := first | omega | (show List.length _ ≤ 4; exact Nat.le_of_ble_eq_true rfl) | assumption | exact nbo_0 | exact nbo_1 | exact b2_b) only [s82_0, s82_1, s82_2, s82_3, s82_4, s82_5, s82_7, s82_8, s82_12, s82_14, s82_17, s82_19, s82_22, s82_23, s82_25, s82_26, s82_29, s82_32, s82_33, s82_35, s82_36, s82_39, s82_41, s82_44, s82_45, s82_48, s82_49, s82_51, s82_52, s82_54, s82_55, s82_58, s82_59, s82_60, s82_61, s82_64, s82_67, s82_69, s82_72, s82_73, s82_74, s82_75, s82_78, s82_79, s82_81, s82_82, s82_85, s82_86, s82_88, s82_91, s82_94, s82_95, s82_98, s82_99, s82_100, s82_103, s82_106, s82_107, s82_108, s82_109, s82_112, s82_113, s82_116, s82_117, s82_120, s82_121, s82_123, s82_125, s82_128, s82_130, s82_133, s82_134, s82_135, s82_136, s82_139, s82_140, s82_143, s82_144, s82_146, s82_149, s82_152, s82_153, s82_156, s82_157, s82_160, s82_161, s82_164, s82_165, s82_167, s82_169, s82_172, s82_173, s82_174, s82_175, s82_178, s82_180, s82_183, s82_184, s82_185, s82_186, s82_189, s82_190, s82_193, s82_194, s82_196, s82_199, s82_200, s82_201, s82_202, s82_203, s82_205, s82_206, s82_209, s82_210, s82_213, s82_214, s82_217, s82_218, s82_220, s82_223, s82_224, s82_225, s82_226, s82_227, s82_229, s82_230, s82_233, s82_234, s82_237, s82_238, s82_241, s82_242, s82_245, s82_248, s82_249, s82_250, s82_251, s82_254, s82_256, s82_258, s82_261, s82_263, s82_265, s82_268, s82_269, s82_271, s82_274, s82_275, s82_278, s82_279, s82_280, s82_282, s82_285, s82_286, s82_287, s82_288, s82_291, s82_294, s82_295, s82_296, s82_297, s82_300, s82_301, s82_302, s82_304, s82_307, s82_308, s82_309, s82_310, s82_311, s82_314, s82_317, s82_318, s82_321, s82_322, s82_324, s82_326, s82_329, s82_330, s82_331, s82_332, s82_335, s82_336, s82_337, s82_340, s82_343, s82_344, s82_345, s82_348, s82_350, s82_353, s82_354, s82_357, s82_358, s82_359, s82_360, s82_361, s82_364, s82_367, s82_368, s82_371, s82_372, s82_375, s82_376, s82_379, s82_380, ↓reduceIte, psh_some, psh_none, cln_i, cln_r, cln_n, cln_l, cln_d, cln_f, Option.bind_some, Option.bind_none, if_true, if_false, nI_add, pk_mul, nbo_0, nbo_1, nI_leI, nI_ltI, nI_eq, Nat.reduceAdd, Nat.reduceMul, Nat.add_zero, Nat.mul_zero, eq_self, z0, z1, v0, v1, v3, w9, w10, ob9, ob10, q6, q7, Nat.reduceEqDiff]
  obtain ⟨l5, l6, hD⟩ := hD
  -- its place, its counts
  have n2 := hWN.2.2.1 t (by omega)
  have n3 := hWN.2.2.2 t (by omega)
  have px := hX.2.1 t (by omega)
  have n3' : ¬ a (128 + t) < a (138 + t) := by omega
  have px' : ¬ a (128 + t) < a (118 + t) + a (138 + t) := by omega
  have hE : ∃ l7, EE 82 246 [some (.ref 208), some (.int (nI t)), some (.int (nI (bst a t))), some (.int (nI G)), some (.int (nI 1)), some (.int l5), some (.int l6), none] [.int (nI 1)] (202, I, QR R nw bf h) = EE 82 322 [some (.ref 208), some (.int (nI t)), some (.int (nI (bst a t))), some (.int (nI G)), some (.int (nI 1)), some (.int l5), some (.int l6), some (.int l7)] [.int (nI 1)] (202, I, QR R nw bf h) := by
    refine ⟨oN (-6) (plc a t (a 13) 0), ?_⟩
    cases e : plc a t (a 13) 0 with
    | none =>
      rw [e] at v2
      have o1 : oN (-6) none = -6 := rfl
      rw [o1] at v2 ⊢
      simp (disch := first | omega | (show List.length _ ≤ 4; exact Nat.le_of_ble_eq_true rfl) | assumption | exact nbo_0 | exact nbo_1 | exact b2_b) only [s82_0, s82_1, s82_2, s82_3, s82_4, s82_5, s82_7, s82_8, s82_12, s82_14, s82_17, s82_19, s82_22, s82_23, s82_25, s82_26, s82_29, s82_32, s82_33, s82_35, s82_36, s82_39, s82_41, s82_44, s82_45, s82_48, s82_49, s82_51, s82_52, s82_54, s82_55, s82_58, s82_59, s82_60, s82_61, s82_64, s82_67, s82_69, s82_72, s82_73, s82_74, s82_75, s82_78, s82_79, s82_81, s82_82, s82_85, s82_86, s82_88, s82_91, s82_94, s82_95, s82_98, s82_99, s82_100, s82_103, s82_106, s82_107, s82_108, s82_109, s82_112, s82_113, s82_116, s82_117, s82_120, s82_121, s82_123, s82_125, s82_128, s82_130, s82_133, s82_134, s82_135, s82_136, s82_139, s82_140, s82_143, s82_144, s82_146, s82_149, s82_152, s82_153, s82_156, s82_157, s82_160, s82_161, s82_164, s82_165, s82_167, s82_169, s82_172, s82_173, s82_174, s82_175, s82_178, s82_180, s82_183, s82_184, s82_185, s82_186, s82_189, s82_190, s82_193, s82_194, s82_196, s82_199, s82_200, s82_201, s82_202, s82_203, s82_205, s82_206, s82_209, s82_210, s82_213, s82_214, s82_217, s82_218, s82_220, s82_223, s82_224, s82_225, s82_226, s82_227, s82_229, s82_230, s82_233, s82_234, s82_237, s82_238, s82_241, s82_242, s82_245, s82_246, s82_248, s82_249, s82_250, s82_251, s82_254, s82_256, s82_258, s82_261, s82_263, s82_265, s82_268, s82_269, s82_271, s82_274, s82_275, s82_278, s82_279, s82_280, s82_282, s82_285, s82_286, s82_287, s82_288, s82_291, s82_294, s82_295, s82_296, s82_297, s82_300, s82_301, s82_302, s82_304, s82_307, s82_308, s82_309, s82_310, s82_311, s82_314, s82_317, s82_318, s82_321, s82_324, s82_326, s82_329, s82_330, s82_331, s82_332, s82_335, s82_336, s82_337, s82_340, s82_343, s82_344, s82_345, s82_348, s82_350, s82_353, s82_354, s82_357, s82_358, s82_359, s82_360, s82_361, s82_364, s82_367, s82_368, s82_371, s82_372, s82_375, s82_376, s82_379, s82_380, ↓reduceIte, psh_some, psh_none, cln_i, cln_r, cln_n, cln_l, cln_d, cln_f, Option.bind_some, Option.bind_none, if_true, if_false, nI_add, pk_mul, nbo_0, nbo_1, nI_leI, nI_ltI, nI_eq, Nat.reduceAdd, Nat.reduceMul, Nat.add_zero, Nat.mul_zero, eq_self, z0, z1, v2, v4, v5, v6, n3', px']
    | some k =>
      rw [e] at v2
      obtain ⟨-, k2, k3⟩ := plc_some _ _ _ e
      have o1 : oN (-6) (some k) = nI k := rfl
      rw [o1] at v2 ⊢
      have k6 : (nI k = (-6 : Int32)) = False := eq_false (fun hc => nI_pos (n := k) (by omega) (by rw [hc]; decide))
      have vk := v_list hB hC hW (k := k) (by omega)
      rw [k3] at vk
      simp (disch := first | omega | (show List.length _ ≤ 4; exact Nat.le_of_ble_eq_true rfl) | assumption | exact nbo_0 | exact nbo_1 | exact b2_b) only [s82_0, s82_1, s82_2, s82_3, s82_4, s82_5, s82_7, s82_8, s82_12, s82_14, s82_17, s82_19, s82_22, s82_23, s82_25, s82_26, s82_29, s82_32, s82_33, s82_35, s82_36, s82_39, s82_41, s82_44, s82_45, s82_48, s82_49, s82_51, s82_52, s82_54, s82_55, s82_58, s82_59, s82_60, s82_61, s82_64, s82_67, s82_69, s82_72, s82_73, s82_74, s82_75, s82_78, s82_79, s82_81, s82_82, s82_85, s82_86, s82_88, s82_91, s82_94, s82_95, s82_98, s82_99, s82_100, s82_103, s82_106, s82_107, s82_108, s82_109, s82_112, s82_113, s82_116, s82_117, s82_120, s82_121, s82_123, s82_125, s82_128, s82_130, s82_133, s82_134, s82_135, s82_136, s82_139, s82_140, s82_143, s82_144, s82_146, s82_149, s82_152, s82_153, s82_156, s82_157, s82_160, s82_161, s82_164, s82_165, s82_167, s82_169, s82_172, s82_173, s82_174, s82_175, s82_178, s82_180, s82_183, s82_184, s82_185, s82_186, s82_189, s82_190, s82_193, s82_194, s82_196, s82_199, s82_200, s82_201, s82_202, s82_203, s82_205, s82_206, s82_209, s82_210, s82_213, s82_214, s82_217, s82_218, s82_220, s82_223, s82_224, s82_225, s82_226, s82_227, s82_229, s82_230, s82_233, s82_234, s82_237, s82_238, s82_241, s82_242, s82_245, s82_246, s82_248, s82_249, s82_250, s82_251, s82_254, s82_256, s82_258, s82_261, s82_263, s82_265, s82_268, s82_269, s82_271, s82_274, s82_275, s82_278, s82_279, s82_280, s82_282, s82_285, s82_286, s82_287, s82_288, s82_291, s82_294, s82_295, s82_296, s82_297, s82_300, s82_301, s82_302, s82_304, s82_307, s82_308, s82_309, s82_310, s82_311, s82_314, s82_317, s82_318, s82_321, s82_324, s82_326, s82_329, s82_330, s82_331, s82_332, s82_335, s82_336, s82_337, s82_340, s82_343, s82_344, s82_345, s82_348, s82_350, s82_353, s82_354, s82_357, s82_358, s82_359, s82_360, s82_361, s82_364, s82_367, s82_368, s82_371, s82_372, s82_375, s82_376, s82_379, s82_380, ↓reduceIte, psh_some, psh_none, cln_i, cln_r, cln_n, cln_l, cln_d, cln_f, Option.bind_some, Option.bind_none, if_true, if_false, nI_add, pk_mul, nbo_0, nbo_1, nI_leI, nI_ltI, nI_eq, Nat.reduceAdd, Nat.reduceMul, Nat.add_zero, Nat.mul_zero, eq_self, z0, z1, v2, v4, v5, v6, n3', px', k6, vk]
  obtain ⟨l7, hE⟩ := hE
  obtain ⟨r, hr, hr6⟩ := v_share hB hC hWN hN ht
  have n0 : ¬ a 0 < a (128 + t) := by omega
  rw [hA, hD, hE]
  by_cases e : a (128 + t) = 0
  · have e6 := hr6.mpr e
    subst e6
    rw [e] at v5 n0
    simp (disch := first | omega | (show List.length _ ≤ 4; exact Nat.le_of_ble_eq_true rfl) | assumption | exact nbo_0 | exact nbo_1 | exact b2_b) only [s82_0, s82_1, s82_2, s82_3, s82_4, s82_5, s82_7, s82_8, s82_12, s82_14, s82_17, s82_19, s82_22, s82_23, s82_25, s82_26, s82_29, s82_32, s82_33, s82_35, s82_36, s82_39, s82_41, s82_44, s82_45, s82_48, s82_49, s82_51, s82_52, s82_54, s82_55, s82_58, s82_59, s82_60, s82_61, s82_64, s82_67, s82_69, s82_72, s82_73, s82_74, s82_75, s82_78, s82_79, s82_81, s82_82, s82_85, s82_86, s82_88, s82_91, s82_94, s82_95, s82_98, s82_99, s82_100, s82_103, s82_106, s82_107, s82_108, s82_109, s82_112, s82_113, s82_116, s82_117, s82_120, s82_121, s82_123, s82_125, s82_128, s82_130, s82_133, s82_134, s82_135, s82_136, s82_139, s82_140, s82_143, s82_144, s82_146, s82_149, s82_152, s82_153, s82_156, s82_157, s82_160, s82_161, s82_164, s82_165, s82_167, s82_169, s82_172, s82_173, s82_174, s82_175, s82_178, s82_180, s82_183, s82_184, s82_185, s82_186, s82_189, s82_190, s82_193, s82_194, s82_196, s82_199, s82_200, s82_201, s82_202, s82_203, s82_205, s82_206, s82_209, s82_210, s82_213, s82_214, s82_217, s82_218, s82_220, s82_223, s82_224, s82_225, s82_226, s82_227, s82_229, s82_230, s82_233, s82_234, s82_237, s82_238, s82_241, s82_242, s82_245, s82_246, s82_248, s82_249, s82_250, s82_251, s82_254, s82_256, s82_258, s82_261, s82_263, s82_265, s82_268, s82_269, s82_271, s82_274, s82_275, s82_278, s82_279, s82_280, s82_282, s82_285, s82_286, s82_287, s82_288, s82_291, s82_294, s82_295, s82_296, s82_297, s82_300, s82_301, s82_302, s82_304, s82_307, s82_308, s82_309, s82_310, s82_311, s82_314, s82_317, s82_318, s82_321, s82_322, s82_324, s82_326, s82_329, s82_330, s82_331, s82_332, s82_335, s82_336, s82_337, s82_340, s82_343, s82_344, s82_345, s82_348, s82_350, s82_353, s82_354, s82_357, s82_358, s82_359, s82_360, s82_361, s82_364, s82_367, s82_368, s82_371, s82_372, s82_375, s82_376, s82_379, s82_380, ↓reduceIte, psh_some, psh_none, cln_i, cln_r, cln_n, cln_l, cln_d, cln_f, Option.bind_some, Option.bind_none, if_true, if_false, nI_add, pk_mul, nbo_0, nbo_1, nI_leI, nI_ltI, nI_eq, Nat.reduceAdd, Nat.reduceMul, Nat.add_zero, Nat.mul_zero, eq_self, z0, z1, v5, w0, n0, hr]
  · have e6 : (r = -6) = False := eq_false (fun hc => e (hr6.mp hc))
    have e0 : (nI (a (128 + t)) = (0 : Int32)) = False := eq_false (nI_ne0 (by omega) (by omega))
    simp (disch := first | omega | (show List.length _ ≤ 4; exact Nat.le_of_ble_eq_true rfl) | assumption | exact nbo_0 | exact nbo_1 | exact b2_b) only [s82_0, s82_1, s82_2, s82_3, s82_4, s82_5, s82_7, s82_8, s82_12, s82_14, s82_17, s82_19, s82_22, s82_23, s82_25, s82_26, s82_29, s82_32, s82_33, s82_35, s82_36, s82_39, s82_41, s82_44, s82_45, s82_48, s82_49, s82_51, s82_52, s82_54, s82_55, s82_58, s82_59, s82_60, s82_61, s82_64, s82_67, s82_69, s82_72, s82_73, s82_74, s82_75, s82_78, s82_79, s82_81, s82_82, s82_85, s82_86, s82_88, s82_91, s82_94, s82_95, s82_98, s82_99, s82_100, s82_103, s82_106, s82_107, s82_108, s82_109, s82_112, s82_113, s82_116, s82_117, s82_120, s82_121, s82_123, s82_125, s82_128, s82_130, s82_133, s82_134, s82_135, s82_136, s82_139, s82_140, s82_143, s82_144, s82_146, s82_149, s82_152, s82_153, s82_156, s82_157, s82_160, s82_161, s82_164, s82_165, s82_167, s82_169, s82_172, s82_173, s82_174, s82_175, s82_178, s82_180, s82_183, s82_184, s82_185, s82_186, s82_189, s82_190, s82_193, s82_194, s82_196, s82_199, s82_200, s82_201, s82_202, s82_203, s82_205, s82_206, s82_209, s82_210, s82_213, s82_214, s82_217, s82_218, s82_220, s82_223, s82_224, s82_225, s82_226, s82_227, s82_229, s82_230, s82_233, s82_234, s82_237, s82_238, s82_241, s82_242, s82_245, s82_246, s82_248, s82_249, s82_250, s82_251, s82_254, s82_256, s82_258, s82_261, s82_263, s82_265, s82_268, s82_269, s82_271, s82_274, s82_275, s82_278, s82_279, s82_280, s82_282, s82_285, s82_286, s82_287, s82_288, s82_291, s82_294, s82_295, s82_296, s82_297, s82_300, s82_301, s82_302, s82_304, s82_307, s82_308, s82_309, s82_310, s82_311, s82_314, s82_317, s82_318, s82_321, s82_322, s82_324, s82_326, s82_329, s82_330, s82_331, s82_332, s82_335, s82_336, s82_337, s82_340, s82_343, s82_344, s82_345, s82_348, s82_350, s82_353, s82_354, s82_357, s82_358, s82_359, s82_360, s82_361, s82_364, s82_367, s82_368, s82_371, s82_372, s82_375, s82_376, s82_379, s82_380, ↓reduceIte, psh_some, psh_none, cln_i, cln_r, cln_n, cln_l, cln_d, cln_f, Option.bind_some, Option.bind_none, if_true, if_false, nI_add, pk_mul, nbo_0, nbo_1, nI_leI, nI_ltI, nI_eq, Nat.reduceAdd, Nat.reduceMul, Nat.add_zero, Nat.mul_zero, eq_self, z0, z1, v5, w0, n0, hr, e6, e0]
end TP
