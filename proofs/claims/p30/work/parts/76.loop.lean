/-! ===== the law's loop ===== -/
section LL
variable {R : Nat → Nat → Option Nat} {L T : Nat} {xs : Nat → Int32}
/-- behind an act: the desk's look, and the next turn -/
theorem p171n {I : Nat → Nat → Int32} {nw bf u N k : Nat} {h : Nat → Nat} {p : Nat → Nat → Nat} {a : Nat → Nat} {l5 l6 l7 l8 l9 l10 l11 : Int32} {l12 l13 l14 l15 : Option Value} (hB : BR R) (hC : CL I nw bf h a u p) (hX : WX N a) (hN : N < 2 ^ 17) (hk : k < 2 ^ 20) : EE 171 288 [some (.ref 1000), some (.ref 208), some (.int (nI 1)), some (.int (nI T)), some (.int (nI k)), some (.int l5), some (.int l6), some (.int l7), some (.int l8), some (.int l9), some (.int l10), some (.int l11), l12, l13, l14, l15] [] (202, I, QR R nw bf h) = EE 171 32 [some (.ref 1000), some (.ref 208), some (.int (nI 1)), some (.int (nI T)), some (.int (nI (k + 1))), some (.int l5), some (.int l6), some (.int l7), some (.int l8), some (.int l9), some (.int l10), some (.int l11), l12, l13, l14, l15] [] (202, I, QR R nw bf h) := by
  have g := f83 hB hC hX hN
  simp (disch := first | omega | (show List.length _ ≤ 4; exact Nat.le_of_ble_eq_true rfl) | assumption | exact nbo_0 | exact nbo_1 | exact b2_b) only [s171_288, s171_289, s171_292, s171_293, s171_296, s171_299, s171_300, s171_304, s171_305, s171_308, ↓reduceIte, psh_some, psh_none, cln_i, cln_r, cln_n, cln_l, cln_d, cln_f, Option.bind_some, Option.bind_none, if_true, if_false, nI_add, pk_mul, nbo_0, nbo_1, nI_leI, nI_ltI, nI_eq, Nat.reduceAdd, Nat.reduceMul, Nat.add_zero, Nat.mul_zero, z0, z1, g]
theorem p171 (hB : BR R) (hL : L ≤ 260) (hT : T ≤ 30) : ∀ d k (I : Nat → Nat → Int32) (nw bf : Nat) (h : Nat → Nat) (a : Nat → Nat) (u : Nat) (p : Nat → Nat → Nat) (l5 l6 l7 l8 l9 l10 l11 l12 l13 l14 l15 : Option Value), k + d = T → CL I nw bf h a u p → GL k a u p → I 61 = (fun _ => nI L) → ∃ M' : Mm, M'.1 = 202 ∧ EE 171 32 [some (.ref 1000), some (.ref 208), some (.int (nI 1)), some (.int (nI T)), some (.int (nI k)), l5, l6, l7, l8, l9, l10, l11, l12, l13, l14, l15] [] (202, I, QR R nw bf h) = some (some (.int (nI 1)), M') := by
  have b1 := nbo_1
  have ho := od
  intro d
  induction d with
  | zero =>
    intro k I nw bf h a u p l5 l6 l7 l8 l9 l10 l11 l12 l13 l14 l15 hk hC hG h61
    have e : T ≤ k := by omega
    refine ⟨(202, I, QR R nw bf h), rfl, ?_⟩
    rw [s171_32]
    simp (disch := first | omega | (show List.length _ ≤ 4; exact Nat.le_of_ble_eq_true rfl) | assumption | exact nbo_0 | exact nbo_1 | exact b2_b) only [s171_34, s171_35, s171_311, s171_312, ↓reduceIte, psh_some, psh_none, cln_i, cln_r, cln_n, cln_l, cln_d, cln_f, Option.bind_some, Option.bind_none, if_true, if_false, nI_add, pk_mul, nbo_0, nbo_1, nI_leI, nI_ltI, nI_eq, Nat.reduceAdd, Nat.reduceMul, Nat.add_zero, Nat.mul_zero, e]
  | succ d ih =>
    intro k I nw bf h a u p l5 l6 l7 l8 l9 l10 l11 l12 l13 l14 l15 hk hC hG h61
    have e : ¬ T ≤ k := by omega
    have hW := hG.1.1.1
    have a0N := hG.1.1.2.1
    have h0 : a 0 < 2 ^ 30 := Nat.lt_of_le_of_lt a0N (by omega)
    have w0 := v_c0 hB hC hW h0
    have w4 := v_c4 hB hC hW h0
    have w5 := v_c5 hB hC hW h0
    have w7 := v_c7 hB hC hW h0
    have w8 := v_c8 hB hC hW h0
    have w18 := v_c18 hB hC hW h0
    have hact := f84 (j := 4 * k) hB hC hG (by omega) h61 hL (by omega)
    -- the counts ahead of the act
    have hA : EE 171 32 [some (.ref 1000), some (.ref 208), some (.int (nI 1)), some (.int (nI T)), some (.int (nI k)), l5, l6, l7, l8, l9, l10, l11, l12, l13, l14, l15] [] (202, I, QR R nw bf h) = EE 171 93 [some (.ref 1000), some (.ref 208), some (.int (nI 1)), some (.int (nI T)), some (.int (nI k)), some (.int (nI u)), some (.int (nI (a 8))), some (.int (nI (a 9))), some (.int (nI (a 11))), some (.int (nI (a 0))), some (.int (nI (a 12))), l11, l12, l13, l14, l15] [.int (nI (4 * k)), .ref 1000, .ref 208] (202, I, QR R nw bf h) := by
      rw [s171_32]
      simp (disch := first | omega | (show List.length _ ≤ 4; exact Nat.le_of_ble_eq_true rfl) | assumption | exact nbo_0 | exact nbo_1 | exact b2_b) only [s171_34, s171_35, s171_38, s171_39, s171_42, s171_43, s171_45, s171_48, s171_50, s171_51, s171_52, s171_55, s171_57, s171_58, s171_59, s171_62, s171_64, s171_65, s171_67, s171_70, s171_72, s171_73, s171_74, s171_77, s171_79, s171_80, s171_82, s171_85, s171_87, s171_88, s171_89, s171_90, s171_92, ↓reduceIte, psh_some, psh_none, cln_i, cln_r, cln_n, cln_l, cln_d, cln_f, Option.bind_some, Option.bind_none, if_true, if_false, nI_add, pk_mul, nbo_0, nbo_1, nI_leI, nI_ltI, nI_eq, Nat.reduceAdd, Nat.reduceMul, Nat.add_zero, Nat.mul_zero, z0, z1, w0, w4, w5, w7, w8, w18, e]
    -- an act that is none of these: the shift ends
    rcases hact with hact | hact | hact
    · have w1 := v_c1 hB hC hW h0
      have m1 := Nat.mod_lt (a 0) (show 12 > 0 by decide)
      have m2 := Nat.mod_lt (a 0 + 1) (show 12 > 0 by decide)
      have vp0 := v_place0 hB hC (k := (a 0 + 1) % 12) m2
      have vp1 := v_place1 hB hC (k := a 0 % 12) m1
      have r1 := hW.ro _ m1
      have r2 := hW.ro _ m2
      have hmi := hW.mi _ m1
      obtain ⟨J, vL, hCJ, j60, j61⟩ := v_lost hB hC hG.1.1 (by omega)
      have hpx := endP_px (n := a (26 + a 0 % 12)) hG.1 hmi
      obtain ⟨I', nw', bf', h', gE, hC', i60, i61⟩ := c_end hB hCJ hW h0
      have hle := endP_le (m := a (26 + a 0 % 12)) hW
      have hG' : GL (k + 1) (tot (endP (a (26 + a 0 % 12)) a)) (pushU u) (pushP u p a) := ⟨hpx.1, pushP_P (fun i hi => (hG.2 i hi).mono (Nat.le_succ k)) (hG.1.mono (Nat.le_succ k)) hC.2.2.1.2.1⟩
      obtain ⟨-, t0, t6, t8, t9, t11⟩ := hpx
      generalize (endP (a (26 + a 0 % 12)) a).2 = ms at *
      generalize tot (endP (a (26 + a 0 % 12)) a) = a' at *
      have hW' := hG'.1.1.1
      have h0' : a' 0 < 2 ^ 30 := Nat.lt_of_le_of_lt hG'.1.1.2.1 (by omega)
      have x0 := v_c0 hB hC' hW' h0'
      have x4 := v_c4 hB hC' hW' h0'
      have x5 := v_c5 hB hC' hW' h0'
      have x7 := v_c7 hB hC' hW' h0'
      have x9 := v_c9 hB hC' hW' h0'
      have x15 := v_c15 hB hC' hW' h0'
      rw [t0] at x0
      rw [t8] at x4
      rw [t9] at x5
      rw [t11] at x7
      rw [t6] at x15
      have c20 : ((-20 : Int32) = -20) = True := eq_self _
      by_cases ef : frm a = too a
      · rw [if_pos ef] at x5 x7
        have ef' : a (14 + a 0 % 12) = a (14 + (a 0 + 1) % 12) := ef
        rw [ef'] at w1
        have hB1 : EE 171 93 [some (.ref 1000), some (.ref 208), some (.int (nI 1)), some (.int (nI T)), some (.int (nI k)), some (.int (nI u)), some (.int (nI (a 8))), some (.int (nI (a 9))), some (.int (nI (a 11))), some (.int (nI (a 0))), some (.int (nI (a 12))), l11, l12, l13, l14, l15] [.int (nI (4 * k)), .ref 1000, .ref 208] (202, I, QR R nw bf h) = EE 171 288 [some (.ref 1000), some (.ref 208), some (.int (nI 1)), some (.int (nI T)), some (.int (nI k)), some (.int (nI u)), some (.int (nI (a 8))), some (.int (nI (a 9))), some (.int (nI (a 11))), some (.int (nI (a 0))), some (.int (nI (a 12))), some (.int (-20)), some (.int (nI 1)), some (.int (nI 0)), some (.int (ot a' 2)), some (.int (nI ms))] [] (202, I', QR R nw' bf' h') := by
          simp (disch := first | omega | (show List.length _ ≤ 4; exact Nat.le_of_ble_eq_true rfl) | assumption | exact nbo_0 | exact nbo_1 | exact b2_b) only [s171_7, s171_8, s171_9, s171_10, s171_11, s171_12, s171_13, s171_14, s171_16, s171_19, s171_21, s171_24, s171_25, s171_26, s171_27, s171_28, s171_29, s171_30, s171_34, s171_35, s171_38, s171_39, s171_42, s171_43, s171_45, s171_48, s171_50, s171_51, s171_52, s171_55, s171_57, s171_58, s171_59, s171_62, s171_64, s171_65, s171_67, s171_70, s171_72, s171_73, s171_74, s171_77, s171_79, s171_80, s171_82, s171_85, s171_87, s171_88, s171_89, s171_90, s171_92, s171_93, s171_96, s171_98, s171_100, s171_102, s171_105, s171_106, s171_107, s171_110, s171_111, s171_113, s171_114, s171_115, s171_117, s171_118, s171_119, s171_122, s171_125, s171_126, s171_129, s171_130, s171_132, s171_134, s171_137, s171_138, s171_141, s171_142, s171_144, s171_146, s171_147, s171_148, s171_151, s171_153, s171_154, s171_155, s171_158, s171_160, s171_161, s171_164, s171_166, s171_167, s171_168, s171_171, s171_173, s171_175, s171_176, s171_179, s171_180, s171_181, s171_184, s171_186, s171_188, s171_189, s171_192, s171_193, s171_195, s171_198, s171_200, s171_202, s171_203, s171_205, s171_208, s171_209, s171_210, s171_213, s171_214, s171_215, s171_218, s171_220, s171_221, s171_222, s171_225, s171_226, s171_228, s171_231, s171_233, s171_236, s171_237, s171_240, s171_241, s171_242, s171_245, s171_247, s171_250, s171_251, s171_253, s171_256, s171_258, s171_261, s171_262, s171_263, s171_266, s171_268, s171_271, s171_272, s171_274, s171_277, s171_279, s171_282, s171_283, s171_286, s171_287, s171_289, s171_292, s171_293, s171_296, s171_299, s171_300, s171_303, s171_304, s171_305, s171_308, s171_311, s171_312, ↓reduceIte, psh_some, psh_none, cln_i, cln_r, cln_n, cln_l, cln_d, cln_f, Option.bind_some, Option.bind_none, if_true, if_false, nI_add, pk_mul, nbo_0, nbo_1, nI_leI, nI_ltI, nI_eq, Nat.reduceAdd, Nat.reduceMul, Nat.add_zero, Nat.mul_zero, eq_self, z0, z1, hact, c20, w1, vp0, vL, gE, x0, x4, x5, x7, x9, x15, Nat.zero_mul]
        obtain ⟨M', q1, q2⟩ := ih (k + 1) I' nw' bf' h' a' _ _ (some (.int (nI u))) (some (.int (nI (a 8)))) (some (.int (nI (a 9)))) (some (.int (nI (a 11)))) (some (.int (nI (a 0)))) (some (.int (nI (a 12)))) (some (.int (-20))) (some (.int (nI 1))) (some (.int (nI 0))) (some (.int (ot a' 2))) (some (.int (nI ms))) (by omega) hC' hG' (by rw [i61, j61]; exact h61)
        exact ⟨M', q1, hA.trans (hB1.trans ((p171n hB hC' hG'.1 (by omega) (by omega)).trans q2))⟩
      · rw [if_neg ef] at x5 x7
        have ef' : ¬ a (14 + a 0 % 12) = a (14 + (a 0 + 1) % 12) := ef
        have hB1 : EE 171 93 [some (.ref 1000), some (.ref 208), some (.int (nI 1)), some (.int (nI T)), some (.int (nI k)), some (.int (nI u)), some (.int (nI (a 8))), some (.int (nI (a 9))), some (.int (nI (a 11))), some (.int (nI (a 0))), some (.int (nI (a 12))), l11, l12, l13, l14, l15] [.int (nI (4 * k)), .ref 1000, .ref 208] (202, I, QR R nw bf h) = EE 171 288 [some (.ref 1000), some (.ref 208), some (.int (nI 1)), some (.int (nI T)), some (.int (nI k)), some (.int (nI u)), some (.int (nI (a 8))), some (.int (nI (a 9))), some (.int (nI (a 11))), some (.int (nI (a 0))), some (.int (nI (a 12))), some (.int (-20)), some (.int (nI 0)), some (.int (nI (a (26 + a 0 % 12)))), some (.int (ot a' 2)), some (.int (nI ms))] [] (202, I', QR R nw' bf' h') := by
          simp (disch := first | omega | (show List.length _ ≤ 4; exact Nat.le_of_ble_eq_true rfl) | assumption | exact nbo_0 | exact nbo_1 | exact b2_b) only [s171_7, s171_8, s171_9, s171_10, s171_11, s171_12, s171_13, s171_14, s171_16, s171_19, s171_21, s171_24, s171_25, s171_26, s171_27, s171_28, s171_29, s171_30, s171_34, s171_35, s171_38, s171_39, s171_42, s171_43, s171_45, s171_48, s171_50, s171_51, s171_52, s171_55, s171_57, s171_58, s171_59, s171_62, s171_64, s171_65, s171_67, s171_70, s171_72, s171_73, s171_74, s171_77, s171_79, s171_80, s171_82, s171_85, s171_87, s171_88, s171_89, s171_90, s171_92, s171_93, s171_96, s171_98, s171_100, s171_102, s171_105, s171_106, s171_107, s171_110, s171_111, s171_113, s171_114, s171_115, s171_117, s171_118, s171_119, s171_122, s171_125, s171_126, s171_129, s171_130, s171_132, s171_134, s171_137, s171_138, s171_141, s171_142, s171_144, s171_146, s171_147, s171_148, s171_151, s171_153, s171_154, s171_155, s171_158, s171_160, s171_161, s171_164, s171_166, s171_167, s171_168, s171_171, s171_173, s171_175, s171_176, s171_179, s171_180, s171_181, s171_184, s171_186, s171_188, s171_189, s171_192, s171_193, s171_195, s171_198, s171_200, s171_202, s171_203, s171_205, s171_208, s171_209, s171_210, s171_213, s171_214, s171_215, s171_218, s171_220, s171_221, s171_222, s171_225, s171_226, s171_228, s171_231, s171_233, s171_236, s171_237, s171_240, s171_241, s171_242, s171_245, s171_247, s171_250, s171_251, s171_253, s171_256, s171_258, s171_261, s171_262, s171_263, s171_266, s171_268, s171_271, s171_272, s171_274, s171_277, s171_279, s171_282, s171_283, s171_286, s171_287, s171_289, s171_292, s171_293, s171_296, s171_299, s171_300, s171_303, s171_304, s171_305, s171_308, s171_311, s171_312, ↓reduceIte, psh_some, psh_none, cln_i, cln_r, cln_n, cln_l, cln_d, cln_f, Option.bind_some, Option.bind_none, if_true, if_false, nI_add, pk_mul, nbo_0, nbo_1, nI_leI, nI_ltI, nI_eq, Nat.reduceAdd, Nat.reduceMul, Nat.add_zero, Nat.mul_zero, eq_self, z0, z1, hact, c20, w1, vp0, vp1, ef', vL, gE, x0, x4, x5, x7, x9, x15]
        obtain ⟨M', q1, q2⟩ := ih (k + 1) I' nw' bf' h' a' _ _ (some (.int (nI u))) (some (.int (nI (a 8)))) (some (.int (nI (a 9)))) (some (.int (nI (a 11)))) (some (.int (nI (a 0)))) (some (.int (nI (a 12)))) (some (.int (-20))) (some (.int (nI 0))) (some (.int (nI (a (26 + a 0 % 12))))) (some (.int (ot a' 2))) (some (.int (nI ms))) (by omega) hC' hG' (by rw [i61, j61]; exact h61)
        exact ⟨M', q1, hA.trans (hB1.trans ((p171n hB hC' hG'.1 (by omega) (by omega)).trans q2))⟩
    -- an act that is refused: nothing has changed
    · obtain ⟨r, hr1, hr2, I', nw', bf', h', g, hC', i60, i61⟩ := hact
      have y4 := v_c4 hB hC' hW h0
      have y8 := v_c8 hB hC' hW h0
      have y18 := v_c18 hB hC' hW h0
      have n1 : ¬ 0 ≤ r := Int32.not_le.mpr hr1
      have hB1 : EE 171 93 [some (.ref 1000), some (.ref 208), some (.int (nI 1)), some (.int (nI T)), some (.int (nI k)), some (.int (nI u)), some (.int (nI (a 8))), some (.int (nI (a 9))), some (.int (nI (a 11))), some (.int (nI (a 0))), some (.int (nI (a 12))), l11, l12, l13, l14, l15] [.int (nI (4 * k)), .ref 1000, .ref 208] (202, I, QR R nw bf h) = EE 171 288 [some (.ref 1000), some (.ref 208), some (.int (nI 1)), some (.int (nI T)), some (.int (nI k)), some (.int (nI u)), some (.int (nI (a 8))), some (.int (nI (a 9))), some (.int (nI (a 11))), some (.int (nI (a 0))), some (.int (nI (a 12))), some (.int r), l12, l13, l14, l15] [] (202, I', QR R nw' bf' h') := by
        simp (disch := first | omega | (show List.length _ ≤ 4; exact Nat.le_of_ble_eq_true rfl) | assumption | exact nbo_0 | exact nbo_1 | exact b2_b) only [s171_7, s171_8, s171_9, s171_10, s171_11, s171_12, s171_13, s171_14, s171_16, s171_19, s171_21, s171_24, s171_25, s171_26, s171_27, s171_28, s171_29, s171_30, s171_34, s171_35, s171_38, s171_39, s171_42, s171_43, s171_45, s171_48, s171_50, s171_51, s171_52, s171_55, s171_57, s171_58, s171_59, s171_62, s171_64, s171_65, s171_67, s171_70, s171_72, s171_73, s171_74, s171_77, s171_79, s171_80, s171_82, s171_85, s171_87, s171_88, s171_89, s171_90, s171_92, s171_93, s171_96, s171_98, s171_100, s171_102, s171_105, s171_106, s171_107, s171_110, s171_111, s171_113, s171_114, s171_115, s171_117, s171_118, s171_119, s171_122, s171_125, s171_126, s171_129, s171_130, s171_132, s171_134, s171_137, s171_138, s171_141, s171_142, s171_144, s171_146, s171_147, s171_148, s171_151, s171_153, s171_154, s171_155, s171_158, s171_160, s171_161, s171_164, s171_166, s171_167, s171_168, s171_171, s171_173, s171_175, s171_176, s171_179, s171_180, s171_181, s171_184, s171_186, s171_188, s171_189, s171_192, s171_193, s171_195, s171_198, s171_200, s171_202, s171_203, s171_205, s171_208, s171_209, s171_210, s171_213, s171_214, s171_215, s171_218, s171_220, s171_221, s171_222, s171_225, s171_226, s171_228, s171_231, s171_233, s171_236, s171_237, s171_240, s171_241, s171_242, s171_245, s171_247, s171_250, s171_251, s171_253, s171_256, s171_258, s171_261, s171_262, s171_263, s171_266, s171_268, s171_271, s171_272, s171_274, s171_277, s171_279, s171_282, s171_283, s171_286, s171_287, s171_289, s171_292, s171_293, s171_296, s171_299, s171_300, s171_303, s171_304, s171_305, s171_308, s171_311, s171_312, ↓reduceIte, psh_some, psh_none, cln_i, cln_r, cln_n, cln_l, cln_d, cln_f, Option.bind_some, Option.bind_none, if_true, if_false, nI_add, pk_mul, nbo_0, nbo_1, nI_leI, nI_ltI, nI_eq, Nat.reduceAdd, Nat.reduceMul, Nat.add_zero, Nat.mul_zero, eq_self, z0, z1, g, hr2, n1, y4, y8, y18]
      obtain ⟨M', q1, q2⟩ := ih (k + 1) I' nw' bf' h' a u p (some (.int (nI u))) (some (.int (nI (a 8)))) (some (.int (nI (a 9)))) (some (.int (nI (a 11)))) (some (.int (nI (a 0)))) (some (.int (nI (a 12)))) (some (.int r)) l12 l13 l14 l15 (by omega) hC' (hG.mono (Nat.le_succ k)) (by rw [i61]; exact h61)
      exact ⟨M', q1, hA.trans (hB1.trans ((p171n hB hC' hG.1 (by omega) (by omega)).trans q2))⟩
    -- an act that is done
    · obtain ⟨r, a', u', p', hr1, hG', I', nw', bf', h', g, hC', i60, i61⟩ := hact
      have n1 : 0 ≤ r := Int32.not_lt.mp hr1
      have n2 : ¬ r = -20 := fun hc => hr1 (by rw [hc]; decide)
      have hB1 : EE 171 93 [some (.ref 1000), some (.ref 208), some (.int (nI 1)), some (.int (nI T)), some (.int (nI k)), some (.int (nI u)), some (.int (nI (a 8))), some (.int (nI (a 9))), some (.int (nI (a 11))), some (.int (nI (a 0))), some (.int (nI (a 12))), l11, l12, l13, l14, l15] [.int (nI (4 * k)), .ref 1000, .ref 208] (202, I, QR R nw bf h) = EE 171 288 [some (.ref 1000), some (.ref 208), some (.int (nI 1)), some (.int (nI T)), some (.int (nI k)), some (.int (nI u)), some (.int (nI (a 8))), some (.int (nI (a 9))), some (.int (nI (a 11))), some (.int (nI (a 0))), some (.int (nI (a 12))), some (.int r), l12, l13, l14, l15] [] (202, I', QR R nw' bf' h') := by
        simp (disch := first | omega | (show List.length _ ≤ 4; exact Nat.le_of_ble_eq_true rfl) | assumption | exact nbo_0 | exact nbo_1 | exact b2_b) only [s171_7, s171_8, s171_9, s171_10, s171_11, s171_12, s171_13, s171_14, s171_16, s171_19, s171_21, s171_24, s171_25, s171_26, s171_27, s171_28, s171_29, s171_30, s171_34, s171_35, s171_38, s171_39, s171_42, s171_43, s171_45, s171_48, s171_50, s171_51, s171_52, s171_55, s171_57, s171_58, s171_59, s171_62, s171_64, s171_65, s171_67, s171_70, s171_72, s171_73, s171_74, s171_77, s171_79, s171_80, s171_82, s171_85, s171_87, s171_88, s171_89, s171_90, s171_92, s171_93, s171_96, s171_98, s171_100, s171_102, s171_105, s171_106, s171_107, s171_110, s171_111, s171_113, s171_114, s171_115, s171_117, s171_118, s171_119, s171_122, s171_125, s171_126, s171_129, s171_130, s171_132, s171_134, s171_137, s171_138, s171_141, s171_142, s171_144, s171_146, s171_147, s171_148, s171_151, s171_153, s171_154, s171_155, s171_158, s171_160, s171_161, s171_164, s171_166, s171_167, s171_168, s171_171, s171_173, s171_175, s171_176, s171_179, s171_180, s171_181, s171_184, s171_186, s171_188, s171_189, s171_192, s171_193, s171_195, s171_198, s171_200, s171_202, s171_203, s171_205, s171_208, s171_209, s171_210, s171_213, s171_214, s171_215, s171_218, s171_220, s171_221, s171_222, s171_225, s171_226, s171_228, s171_231, s171_233, s171_236, s171_237, s171_240, s171_241, s171_242, s171_245, s171_247, s171_250, s171_251, s171_253, s171_256, s171_258, s171_261, s171_262, s171_263, s171_266, s171_268, s171_271, s171_272, s171_274, s171_277, s171_279, s171_282, s171_283, s171_286, s171_287, s171_289, s171_292, s171_293, s171_296, s171_299, s171_300, s171_303, s171_304, s171_305, s171_308, s171_311, s171_312, ↓reduceIte, psh_some, psh_none, cln_i, cln_r, cln_n, cln_l, cln_d, cln_f, Option.bind_some, Option.bind_none, if_true, if_false, nI_add, pk_mul, nbo_0, nbo_1, nI_leI, nI_ltI, nI_eq, Nat.reduceAdd, Nat.reduceMul, Nat.add_zero, Nat.mul_zero, z0, z1, g, n1, n2]
      obtain ⟨M', q1, q2⟩ := ih (k + 1) I' nw' bf' h' a' u' p' (some (.int (nI u))) (some (.int (nI (a 8)))) (some (.int (nI (a 9)))) (some (.int (nI (a 11)))) (some (.int (nI (a 0)))) (some (.int (nI (a 12)))) (some (.int r)) l12 l13 l14 l15 (by omega) hC' (hG'.mono (Nat.le_succ k)) (by rw [i61]; exact h61)
      exact ⟨M', q1, hA.trans (hB1.trans ((p171n hB hC' hG'.1 (by omega) (by omega)).trans q2))⟩
end LL
