/-! ===== the law looks at the desk ===== -/
def sm (a : Nat → Nat) (b : Nat) : Nat → Nat
  | 0 => 0
  | t + 1 => sm a b t + a (b + t)
/-- are all topics so far known, or closed -/
def alr (a : Nat → Nat) : Nat → Nat
  | 0 => 1
  | t + 1 => if alr a t = 1 ∧ (a (38 + t) = 1 → howN a t = 0) then 1 else 0
def odr (a : Nat → Nat) : Nat → Nat
  | 0 => 0
  | t + 1 => odr a t + (if alr a (t + 1) = 1 ∧ a (38 + t) = 1 then 1 else 0)
section DA
variable {a : Nat → Nat}
theorem sm_end {b n : Nat} (hz : ∀ t, t < 10 → n ≤ t → a (b + t) = 0) : ∀ d, n + d ≤ 10 → sm a b (n + d) = sm a b n := by
  intro d
  induction d with
  | zero => intro _; rfl
  | succ d ih =>
    intro hd
    show sm a b (n + d) + a (b + (n + d)) = _
    rw [ih (by omega), hz (n + d) (by omega) (by omega)]
    rfl
theorem sm_open (hW : WO a) : sm a 38 (a 1) = bsum a := by
  have hT := hW.tp
  have h := sm_end (a := a) (b := 38) (n := a 1) (fun t h1 h2 => hW.oz t h1 h2) (10 - a 1) (by omega)
  rw [show a 1 + (10 - a 1) = 10 by omega] at h
  rw [← h]
  show 0 + a 38 + a 39 + a 40 + a 41 + a 42 + a 43 + a 44 + a 45 + a 46 + a 47 = bsum a
  unfold bsum
  omega
theorem sm_miss (hT : a 1 ≤ 10) (hX : PX a) : sm a 118 (a 1) = mS a := by
  have h := sm_end (a := a) (b := 118) (n := a 1) (fun t h1 h2 => hX.2.2.1 t h1 h2) (10 - a 1) (by omega)
  rw [show a 1 + (10 - a 1) = 10 by omega] at h
  rw [← h]
  show 0 + a 118 + a 119 + a 120 + a 121 + a 122 + a 123 + a 124 + a 125 + a 126 + a 127 = mS a
  unfold mS
  omega
theorem alr_le : ∀ t, alr a t ≤ 1
  | 0 => Nat.le_refl 1
  | t + 1 => by
    unfold alr
    by_cases e : alr a t = 1 ∧ (a (38 + t) = 1 → howN a t = 0)
    · rw [if_pos e]; exact Nat.le_refl 1
    · rw [if_neg e]; decide
theorem alr_0 {i : Nat} (h : alr a i = 0) : ∀ d, alr a (i + d) = 0 ∧ odr a (i + d) = odr a i := by
  intro d
  induction d with
  | zero => exact ⟨h, rfl⟩
  | succ d ih =>
    have e : alr a (i + d + 1) = 0 := by
      show (if alr a (i + d) = 1 ∧ _ then 1 else 0) = 0
      rw [if_neg (fun hc => by have := hc.1; omega)]
    refine ⟨e, ?_⟩
    show odr a (i + d) + (if alr a (i + d + 1) = 1 ∧ a (38 + (i + d)) = 1 then 1 else 0) = _
    rw [if_neg (fun hc => by have := hc.1; omega), ih.2]
    rfl
theorem ord_odr {n : Nat} : ∀ d i, i + d = n → alr a i = 1 → ord a d i (odr a i) = odr a n := by
  intro d
  induction d with
  | zero =>
    intro i hi _
    have e : i = n := by omega
    subst e
    rfl
  | succ d ih =>
    intro i hi h1
    unfold ord
    by_cases e : a (38 + i) = 1
    · rw [if_pos e]
      by_cases e2 : howN a i = 0
      · rw [if_pos e2]
        have g : alr a (i + 1) = 1 := if_pos ⟨h1, fun _ => e2⟩
        have g2 : odr a (i + 1) = odr a i + 1 := by
          show odr a i + (if alr a (i + 1) = 1 ∧ a (38 + i) = 1 then 1 else 0) = _
          rw [if_pos ⟨g, e⟩]
        rw [← g2]
        exact ih (i + 1) (by omega) g
      · rw [if_neg e2]
        have g : alr a (i + 1) = 0 := if_neg (fun hc => e2 (hc.2 e))
        have g2 : odr a (i + 1) = odr a i := by
          show odr a i + (if alr a (i + 1) = 1 ∧ a (38 + i) = 1 then 1 else 0) = _
          rw [if_neg (fun hc => by have := hc.1; omega)]
          rfl
        have g3 := (alr_0 g d).2
        rw [show i + 1 + d = n by omega, g2] at g3
        exact g3.symm
    · rw [if_neg e]
      have g : alr a (i + 1) = 1 := if_pos ⟨h1, fun hc => absurd hc e⟩
      have g2 : odr a (i + 1) = odr a i := by
        show odr a i + (if alr a (i + 1) = 1 ∧ a (38 + i) = 1 then 1 else 0) = _
        rw [if_neg (fun hc => e hc.2)]
        rfl
      rw [← g2]
      exact ih (i + 1) (by omega) g
theorem odr_le : ∀ t, odr a t ≤ t
  | 0 => Nat.le_refl 0
  | t + 1 => by
    have := odr_le t
    show odr a t + (if alr a (t + 1) = 1 ∧ a (38 + t) = 1 then 1 else 0) ≤ t + 1
    by_cases e : alr a (t + 1) = 1 ∧ a (38 + t) = 1
    · rw [if_pos e]; omega
    · rw [if_neg e]; omega
/-- a topic's place is where it stands -/
theorem plc_self (hW : WO a) {k : Nat} (hk : k < a 13) : plc a (a (48 + k)) (a 13) 0 = some k := by
  cases e : plc a (a (48 + k)) (a 13) 0 with
  | none => exact absurd rfl (plc_none _ _ e k (Nat.zero_le k) (by omega))
  | some j =>
    obtain ⟨-, j2, j3⟩ := plc_some _ _ _ e
    have : j = k := by
      rcases Nat.lt_trichotomy j k with h1 | h1 | h1
      · exact absurd j3 (hW.nd j k h1 hk)
      · exact h1
      · exact absurd j3.symm (hW.nd k j h1 (by omega))
    rw [this]
end DA
section DB
variable {I : Nat → Nat → Int32} {R : Nat → Nat → Option Nat} {nw bf u N : Nat} {h : Nat → Nat} {p : Nat → Nat → Nat} {a : Nat → Nat}
theorem p83a (hB : BR R) (hC : CL I nw bf h a u p) (hX : WX N a) (hN : N < 2 ^ 17) : ∀ d t, t + d = a 1 → EE 83 53 [some (.ref 208), some (.int (nI (a 1))), some (.int (nI (sm a 38 t))), some (.int (nI (sm a 118 t))), some (.int (nI (odr a t))), some (.int (nI (alr a t))), some (.int (nI 1)), some (.int (nI t))] [] (202, I, QR R nw bf h) = EE 83 145 [some (.ref 208), some (.int (nI (a 1))), some (.int (nI (sm a 38 (a 1)))), some (.int (nI (sm a 118 (a 1)))), some (.int (nI (odr a (a 1)))), some (.int (nI (alr a (a 1)))), some (.int (nI 1)), some (.int (nI (a 1)))] [] (202, I, QR R nw bf h) := by
  have ho := od
  have hW := hX.1.1
  have hT := hW.tp
  have h0 : a 0 < 2 ^ 30 := Nat.lt_of_le_of_lt hX.1.2.1 (by omega)
  intro d
  induction d with
  | zero =>
    intro t ht
    have e : t = a 1 := by omega
    subst e
    have e2 : a 1 ≤ a 1 := Nat.le_refl _
    rw [s83_53]
    simp (disch := first | omega | (show List.length _ ≤ 4; exact Nat.le_of_ble_eq_true rfl) | assumption | exact nbo_0 | exact nbo_1 | exact b2_b) only [s83_55, s83_56, ↓reduceIte, psh_some, psh_none, cln_i, cln_r, cln_n, cln_l, cln_d, cln_f, Option.bind_some, Option.bind_none, if_true, if_false, nI_add, pk_mul, nbo_0, nbo_1, nI_leI, nI_ltI, nI_eq, Nat.reduceAdd, Nat.reduceMul, Nat.add_zero, Nat.mul_zero, e2]
  | succ d ih =>
    intro t ht
    have hlt : t < a 1 := by omega
    have e : ¬ a 1 ≤ t := by omega
    have g82 := f82 hB hC hX hN hlt
    have v0 := v_t0 hB hC hW hlt
    have v1 := v_t1 hB hC hW h0 hlt
    have v4 := v_t4 hB hC hW hlt
    have hop := hW.op t (by omega)
    have hl := howN_lt (a := a) (t := t)
    have al1 := alr_le (a := a) t
    have e3 : sm a 38 (t + 1) = sm a 38 t + a (38 + t) := rfl
    have e4 : sm a 118 (t + 1) = sm a 118 t + a (118 + t) := rfl
    have e5 : odr a (t + 1) = odr a t + (if alr a (t + 1) = 1 ∧ a (38 + t) = 1 then 1 else 0) := rfl
    have e6 : alr a (t + 1) = if alr a t = 1 ∧ (a (38 + t) = 1 → howN a t = 0) then 1 else 0 := rfl
    have q1 : (0 < (-6 : Int32)) = False := eq_false (by decide)
    have q2 : ((-6 : Int32) = 0) = False := eq_false (by decide)
    have q3 : ((0 : Int32) < nI 0) = False := eq_false (by decide)
    refine Eq.trans ?_ (ih (t + 1) (by omega))
    rw [s83_53, e3, e4, e5]
    generalize alr a (t + 1) = A' at *
    subst e6
    rcases (show alr a t = 0 ∨ alr a t = 1 by omega) with ea | ea
    · rw [ea, if_neg (show ¬ ((0 : Nat) = 1 ∧ (a (38 + t) = 1 → howN a t = 0)) from fun hc => absurd hc.1 (by decide)), if_neg (show ¬ ((0 : Nat) = 1 ∧ a (38 + t) = 1) from fun hc => absurd hc.1 (by decide))]
      simp (disch := first | omega | (show List.length _ ≤ 4; exact Nat.le_of_ble_eq_true rfl) | assumption | exact nbo_0 | exact nbo_1 | exact b2_b) only [s83_0, s83_1, s83_2, s83_5, s83_6, s83_7, s83_8, s83_9, s83_10, s83_11, s83_13, s83_14, s83_16, s83_17, s83_19, s83_22, s83_23, s83_24, s83_27, s83_28, s83_29, s83_30, s83_33, s83_35, s83_36, s83_37, s83_40, s83_43, s83_44, s83_47, s83_48, s83_50, s83_51, s83_55, s83_56, s83_59, s83_61, s83_64, s83_65, s83_67, s83_70, s83_72, s83_73, s83_74, s83_76, s83_77, s83_80, s83_81, s83_82, s83_83, s83_84, s83_86, s83_87, s83_90, s83_91, s83_92, s83_94, s83_97, s83_98, s83_100, s83_101, s83_104, s83_107, s83_108, s83_111, s83_112, s83_114, s83_116, s83_118, s83_121, s83_122, s83_124, s83_125, s83_128, s83_131, s83_132, s83_135, s83_136, s83_137, s83_139, s83_142, s83_147, s83_150, s83_151, s83_152, s83_155, s83_156, s83_159, s83_160, s83_161, s83_164, s83_165, s83_168, s83_169, s83_171, s83_174, s83_175, s83_176, s83_179, s83_182, s83_183, s83_186, s83_188, s83_191, s83_192, s83_195, s83_196, s83_198, s83_199, s83_202, s83_204, s83_207, s83_210, s83_212, s83_215, s83_216, s83_217, s83_219, s83_222, s83_223, s83_226, s83_228, s83_231, s83_232, s83_235, s83_236, s83_238, s83_241, s83_244, s83_246, s83_249, s83_251, s83_252, s83_255, s83_256, s83_259, s83_260, s83_261, s83_264, s83_265, s83_266, s83_269, s83_270, s83_273, s83_274, ↓reduceIte, psh_some, psh_none, cln_i, cln_r, cln_n, cln_l, cln_d, cln_f, Option.bind_some, Option.bind_none, if_true, if_false, nI_add, pk_mul, nbo_0, nbo_1, nI_leI, nI_ltI, nI_eq, Nat.reduceAdd, Nat.reduceMul, Nat.add_zero, Nat.mul_zero, z0, z1, e, g82, v0, v4]
    · rw [ea]
      by_cases e1 : a (38 + t) = 1
      · rw [if_pos e1] at v1
        by_cases e2 : howN a t = 0
        · rw [if_pos (show (1 : Nat) = 1 ∧ (a (38 + t) = 1 → howN a t = 0) from ⟨rfl, fun _ => e2⟩), if_pos (show (1 : Nat) = 1 ∧ a (38 + t) = 1 from ⟨rfl, e1⟩)]
          rw [e2] at v1
          simp (disch := first | omega | (show List.length _ ≤ 4; exact Nat.le_of_ble_eq_true rfl) | assumption | exact nbo_0 | exact nbo_1 | exact b2_b) only [s83_0, s83_1, s83_2, s83_5, s83_6, s83_7, s83_8, s83_9, s83_10, s83_11, s83_13, s83_14, s83_16, s83_17, s83_19, s83_22, s83_23, s83_24, s83_27, s83_28, s83_29, s83_30, s83_33, s83_35, s83_36, s83_37, s83_40, s83_43, s83_44, s83_47, s83_48, s83_50, s83_51, s83_55, s83_56, s83_59, s83_61, s83_64, s83_65, s83_67, s83_70, s83_72, s83_73, s83_74, s83_76, s83_77, s83_80, s83_81, s83_82, s83_83, s83_84, s83_86, s83_87, s83_90, s83_91, s83_92, s83_94, s83_97, s83_98, s83_100, s83_101, s83_104, s83_107, s83_108, s83_111, s83_112, s83_114, s83_116, s83_118, s83_121, s83_122, s83_124, s83_125, s83_128, s83_131, s83_132, s83_135, s83_136, s83_137, s83_139, s83_142, s83_147, s83_150, s83_151, s83_152, s83_155, s83_156, s83_159, s83_160, s83_161, s83_164, s83_165, s83_168, s83_169, s83_171, s83_174, s83_175, s83_176, s83_179, s83_182, s83_183, s83_186, s83_188, s83_191, s83_192, s83_195, s83_196, s83_198, s83_199, s83_202, s83_204, s83_207, s83_210, s83_212, s83_215, s83_216, s83_217, s83_219, s83_222, s83_223, s83_226, s83_228, s83_231, s83_232, s83_235, s83_236, s83_238, s83_241, s83_244, s83_246, s83_249, s83_251, s83_252, s83_255, s83_256, s83_259, s83_260, s83_261, s83_264, s83_265, s83_266, s83_269, s83_270, s83_273, s83_274, ↓reduceIte, psh_some, psh_none, cln_i, cln_r, cln_n, cln_l, cln_d, cln_f, Option.bind_some, Option.bind_none, if_true, if_false, nI_add, pk_mul, nbo_0, nbo_1, nI_leI, nI_ltI, nI_eq, Nat.reduceAdd, Nat.reduceMul, Nat.add_zero, Nat.mul_zero, z0, z1, e, g82, v0, v1, v4, q3]
        · have e7 : ((0 : Int32) < nI (howN a t)) = True := eq_true (by rw [← nI_0]; exact nI_lt (by omega) (by omega))
          rw [if_neg (show ¬ ((1 : Nat) = 1 ∧ (a (38 + t) = 1 → howN a t = 0)) from fun hc => e2 (hc.2 e1)), if_neg (show ¬ ((0 : Nat) = 1 ∧ a (38 + t) = 1) from fun hc => absurd hc.1 (by decide))]
          simp (disch := first | omega | (show List.length _ ≤ 4; exact Nat.le_of_ble_eq_true rfl) | assumption | exact nbo_0 | exact nbo_1 | exact b2_b) only [s83_0, s83_1, s83_2, s83_5, s83_6, s83_7, s83_8, s83_9, s83_10, s83_11, s83_13, s83_14, s83_16, s83_17, s83_19, s83_22, s83_23, s83_24, s83_27, s83_28, s83_29, s83_30, s83_33, s83_35, s83_36, s83_37, s83_40, s83_43, s83_44, s83_47, s83_48, s83_50, s83_51, s83_55, s83_56, s83_59, s83_61, s83_64, s83_65, s83_67, s83_70, s83_72, s83_73, s83_74, s83_76, s83_77, s83_80, s83_81, s83_82, s83_83, s83_84, s83_86, s83_87, s83_90, s83_91, s83_92, s83_94, s83_97, s83_98, s83_100, s83_101, s83_104, s83_107, s83_108, s83_111, s83_112, s83_114, s83_116, s83_118, s83_121, s83_122, s83_124, s83_125, s83_128, s83_131, s83_132, s83_135, s83_136, s83_137, s83_139, s83_142, s83_147, s83_150, s83_151, s83_152, s83_155, s83_156, s83_159, s83_160, s83_161, s83_164, s83_165, s83_168, s83_169, s83_171, s83_174, s83_175, s83_176, s83_179, s83_182, s83_183, s83_186, s83_188, s83_191, s83_192, s83_195, s83_196, s83_198, s83_199, s83_202, s83_204, s83_207, s83_210, s83_212, s83_215, s83_216, s83_217, s83_219, s83_222, s83_223, s83_226, s83_228, s83_231, s83_232, s83_235, s83_236, s83_238, s83_241, s83_244, s83_246, s83_249, s83_251, s83_252, s83_255, s83_256, s83_259, s83_260, s83_261, s83_264, s83_265, s83_266, s83_269, s83_270, s83_273, s83_274, ↓reduceIte, psh_some, psh_none, cln_i, cln_r, cln_n, cln_l, cln_d, cln_f, Option.bind_some, Option.bind_none, if_true, if_false, nI_add, pk_mul, nbo_0, nbo_1, nI_leI, nI_ltI, nI_eq, Nat.reduceAdd, Nat.reduceMul, Nat.add_zero, Nat.mul_zero, z0, z1, e, g82, v0, v1, v4, e7]
      · rw [if_neg e1] at v1
        rw [if_pos (show (1 : Nat) = 1 ∧ (a (38 + t) = 1 → howN a t = 0) from ⟨rfl, fun hc => absurd hc e1⟩), if_neg (show ¬ ((1 : Nat) = 1 ∧ a (38 + t) = 1) from fun hc => e1 hc.2)]
        simp (disch := first | omega | (show List.length _ ≤ 4; exact Nat.le_of_ble_eq_true rfl) | assumption | exact nbo_0 | exact nbo_1 | exact b2_b) only [s83_0, s83_1, s83_2, s83_5, s83_6, s83_7, s83_8, s83_9, s83_10, s83_11, s83_13, s83_14, s83_16, s83_17, s83_19, s83_22, s83_23, s83_24, s83_27, s83_28, s83_29, s83_30, s83_33, s83_35, s83_36, s83_37, s83_40, s83_43, s83_44, s83_47, s83_48, s83_50, s83_51, s83_55, s83_56, s83_59, s83_61, s83_64, s83_65, s83_67, s83_70, s83_72, s83_73, s83_74, s83_76, s83_77, s83_80, s83_81, s83_82, s83_83, s83_84, s83_86, s83_87, s83_90, s83_91, s83_92, s83_94, s83_97, s83_98, s83_100, s83_101, s83_104, s83_107, s83_108, s83_111, s83_112, s83_114, s83_116, s83_118, s83_121, s83_122, s83_124, s83_125, s83_128, s83_131, s83_132, s83_135, s83_136, s83_137, s83_139, s83_142, s83_147, s83_150, s83_151, s83_152, s83_155, s83_156, s83_159, s83_160, s83_161, s83_164, s83_165, s83_168, s83_169, s83_171, s83_174, s83_175, s83_176, s83_179, s83_182, s83_183, s83_186, s83_188, s83_191, s83_192, s83_195, s83_196, s83_198, s83_199, s83_202, s83_204, s83_207, s83_210, s83_212, s83_215, s83_216, s83_217, s83_219, s83_222, s83_223, s83_226, s83_228, s83_231, s83_232, s83_235, s83_236, s83_238, s83_241, s83_244, s83_246, s83_249, s83_251, s83_252, s83_255, s83_256, s83_259, s83_260, s83_261, s83_264, s83_265, s83_266, s83_269, s83_270, s83_273, s83_274, ↓reduceIte, psh_some, psh_none, cln_i, cln_r, cln_n, cln_l, cln_d, cln_f, Option.bind_some, Option.bind_none, if_true, if_false, nI_add, pk_mul, nbo_0, nbo_1, nI_leI, nI_ltI, nI_eq, Nat.reduceAdd, Nat.reduceMul, Nat.add_zero, Nat.mul_zero, z0, z1, e, g82, v0, v1, v4, q1, q2]
theorem p83b (hB : BR R) (hC : CL I nw bf h a u p) (hW : WO a) {x3 x4 : Int32} : ∀ d k (l5 : Int32), k + d = a 13 → EE 83 201 [some (.ref 208), some (.int (nI (a 1))), some (.int (nI (bsum a))), some (.int x3), some (.int x4), some (.int l5), some (.int (nI 1)), some (.int (nI k))] [] (202, I, QR R nw bf h) = some (some (.int (nI 1)), 202, I, QR R nw bf h) := by
  have ho := od
  have hT := hW.tp
  have hL := hW.li
  have hop := op_all hW.op
  have hb10 : bsum a ≤ 10 := by unfold bsum; omega
  have hph : a 13 ≤ a 1 := php (a 1) (a 13) (fun k => a (48 + k)) (fun k hk => hW.le k hk) (fun i j hij hj => hW.nd i j hij hj)
  have b1 := nbo_1
  intro d
  induction d with
  | zero =>
    intro k l5 hk
    have e : k = a 13 := by omega
    subst e
    have ve := v_list_e (R := R) hC hW
    have q1 : ((-1 : Int32) < 0) = True := eq_true (by decide)
    have n1 : ¬ a 1 < a 13 := by omega
    have lg0 : lg_cmp 0 0 = nI 0 := by decide
    rw [s83_201]
    by_cases e0 : bsum a = 0
    · have vm := v_mean hB hC hW e0
      have q3 : ((0 : Int32) < nI 0) = False := eq_false (by decide)
      rw [e0]
      simp (disch := first | omega | (show List.length _ ≤ 4; exact Nat.le_of_ble_eq_true rfl) | assumption | exact nbo_0 | exact nbo_1 | exact b2_b) only [s83_0, s83_1, s83_2, s83_5, s83_6, s83_7, s83_8, s83_9, s83_10, s83_11, s83_13, s83_14, s83_16, s83_17, s83_19, s83_22, s83_23, s83_24, s83_27, s83_28, s83_29, s83_30, s83_33, s83_35, s83_36, s83_37, s83_40, s83_43, s83_44, s83_47, s83_48, s83_50, s83_51, s83_55, s83_56, s83_59, s83_61, s83_64, s83_65, s83_67, s83_70, s83_72, s83_73, s83_74, s83_76, s83_77, s83_80, s83_81, s83_82, s83_83, s83_84, s83_86, s83_87, s83_90, s83_91, s83_92, s83_94, s83_97, s83_98, s83_100, s83_101, s83_104, s83_107, s83_108, s83_111, s83_112, s83_114, s83_116, s83_118, s83_121, s83_122, s83_124, s83_125, s83_128, s83_131, s83_132, s83_135, s83_136, s83_137, s83_139, s83_142, s83_147, s83_150, s83_151, s83_152, s83_155, s83_156, s83_159, s83_160, s83_161, s83_164, s83_165, s83_168, s83_169, s83_171, s83_174, s83_175, s83_176, s83_179, s83_182, s83_183, s83_186, s83_188, s83_191, s83_192, s83_195, s83_196, s83_198, s83_199, s83_202, s83_204, s83_207, s83_210, s83_212, s83_215, s83_216, s83_217, s83_219, s83_222, s83_223, s83_226, s83_228, s83_231, s83_232, s83_235, s83_236, s83_238, s83_241, s83_244, s83_246, s83_249, s83_251, s83_252, s83_255, s83_256, s83_259, s83_260, s83_261, s83_264, s83_265, s83_266, s83_269, s83_270, s83_273, s83_274, ↓reduceIte, psh_some, psh_none, cln_i, cln_r, cln_n, cln_l, cln_d, cln_f, Option.bind_some, Option.bind_none, if_true, if_false, nI_add, pk_mul, nbo_0, nbo_1, nI_leI, nI_ltI, nI_eq, Nat.reduceAdd, Nat.reduceMul, Nat.add_zero, Nat.mul_zero, z0, z1, ve, q1, n1, vm, q3, lg0]
    · have q3 : ((0 : Int32) < nI (bsum a)) = True := eq_true (by rw [← nI_0]; exact nI_lt (by omega) (by omega))
      simp (disch := first | omega | (show List.length _ ≤ 4; exact Nat.le_of_ble_eq_true rfl) | assumption | exact nbo_0 | exact nbo_1 | exact b2_b) only [s83_0, s83_1, s83_2, s83_5, s83_6, s83_7, s83_8, s83_9, s83_10, s83_11, s83_13, s83_14, s83_16, s83_17, s83_19, s83_22, s83_23, s83_24, s83_27, s83_28, s83_29, s83_30, s83_33, s83_35, s83_36, s83_37, s83_40, s83_43, s83_44, s83_47, s83_48, s83_50, s83_51, s83_55, s83_56, s83_59, s83_61, s83_64, s83_65, s83_67, s83_70, s83_72, s83_73, s83_74, s83_76, s83_77, s83_80, s83_81, s83_82, s83_83, s83_84, s83_86, s83_87, s83_90, s83_91, s83_92, s83_94, s83_97, s83_98, s83_100, s83_101, s83_104, s83_107, s83_108, s83_111, s83_112, s83_114, s83_116, s83_118, s83_121, s83_122, s83_124, s83_125, s83_128, s83_131, s83_132, s83_135, s83_136, s83_137, s83_139, s83_142, s83_147, s83_150, s83_151, s83_152, s83_155, s83_156, s83_159, s83_160, s83_161, s83_164, s83_165, s83_168, s83_169, s83_171, s83_174, s83_175, s83_176, s83_179, s83_182, s83_183, s83_186, s83_188, s83_191, s83_192, s83_195, s83_196, s83_198, s83_199, s83_202, s83_204, s83_207, s83_210, s83_212, s83_215, s83_216, s83_217, s83_219, s83_222, s83_223, s83_226, s83_228, s83_231, s83_232, s83_235, s83_236, s83_238, s83_241, s83_244, s83_246, s83_249, s83_251, s83_252, s83_255, s83_256, s83_259, s83_260, s83_261, s83_264, s83_265, s83_266, s83_269, s83_270, s83_273, s83_274, ↓reduceIte, psh_some, psh_none, cln_i, cln_r, cln_n, cln_l, cln_d, cln_f, Option.bind_some, Option.bind_none, if_true, if_false, nI_add, pk_mul, nbo_0, nbo_1, nI_leI, nI_ltI, nI_eq, Nat.reduceAdd, Nat.reduceMul, Nat.add_zero, Nat.mul_zero, z0, z1, ve, q1, n1, q3]
  | succ d ih =>
    intro k l5 hk
    have hlt : k < a 13 := by omega
    have hx := hW.le k hlt
    have vk := v_list hB hC hW hlt
    have v2 := v_t2 hB hC hW hx
    rw [plc_self hW hlt] at v2
    have o1 : oN (-6) (some k) = nI k := rfl
    rw [o1] at v2
    have n0 : ¬ nI (a (48 + k)) < 0 := nI_pos (by omega)
    refine Eq.trans ?_ (ih (k + 1) l5 (by omega))
    rw [s83_201]
    simp (disch := first | omega | (show List.length _ ≤ 4; exact Nat.le_of_ble_eq_true rfl) | assumption | exact nbo_0 | exact nbo_1 | exact b2_b) only [s83_0, s83_1, s83_2, s83_5, s83_6, s83_7, s83_8, s83_9, s83_10, s83_11, s83_13, s83_14, s83_16, s83_17, s83_19, s83_22, s83_23, s83_24, s83_27, s83_28, s83_29, s83_30, s83_33, s83_35, s83_36, s83_37, s83_40, s83_43, s83_44, s83_47, s83_48, s83_50, s83_51, s83_55, s83_56, s83_59, s83_61, s83_64, s83_65, s83_67, s83_70, s83_72, s83_73, s83_74, s83_76, s83_77, s83_80, s83_81, s83_82, s83_83, s83_84, s83_86, s83_87, s83_90, s83_91, s83_92, s83_94, s83_97, s83_98, s83_100, s83_101, s83_104, s83_107, s83_108, s83_111, s83_112, s83_114, s83_116, s83_118, s83_121, s83_122, s83_124, s83_125, s83_128, s83_131, s83_132, s83_135, s83_136, s83_137, s83_139, s83_142, s83_147, s83_150, s83_151, s83_152, s83_155, s83_156, s83_159, s83_160, s83_161, s83_164, s83_165, s83_168, s83_169, s83_171, s83_174, s83_175, s83_176, s83_179, s83_182, s83_183, s83_186, s83_188, s83_191, s83_192, s83_195, s83_196, s83_198, s83_199, s83_202, s83_204, s83_207, s83_210, s83_212, s83_215, s83_216, s83_217, s83_219, s83_222, s83_223, s83_226, s83_228, s83_231, s83_232, s83_235, s83_236, s83_238, s83_241, s83_244, s83_246, s83_249, s83_251, s83_252, s83_255, s83_256, s83_259, s83_260, s83_261, s83_264, s83_265, s83_266, s83_269, s83_270, s83_273, s83_274, ↓reduceIte, psh_some, psh_none, cln_i, cln_r, cln_n, cln_l, cln_d, cln_f, Option.bind_some, Option.bind_none, if_true, if_false, nI_add, pk_mul, nbo_0, nbo_1, nI_leI, nI_ltI, nI_eq, Nat.reduceAdd, Nat.reduceMul, Nat.add_zero, Nat.mul_zero, eq_self, z0, z1, vk, v2, n0]
theorem f83 (hB : BR R) (hC : CL I nw bf h a u p) (hX : WX N a) (hN : N < 2 ^ 17) : FF 83 [.ref 208] (202, I, QR R nw bf h) = some (some (.int (nI 1)), 202, I, QR R nw bf h) := by
  have ho := od
  have hW := hX.1.1
  have hT := hW.tp
  have a0N := hX.1.2.1
  have h0 : a 0 < 2 ^ 30 := Nat.lt_of_le_of_lt a0N (by omega)
  have hm := Nat.mod_lt (a 0) (show 12 > 0 by decide)
  have w0 := v_c0 hB hC hW h0
  have w1 := v_c1 hB hC hW h0
  have w2 := v_c2 hB hC hW h0
  have w3 := v_c3 hB hC hW h0
  have w4 := v_c4 hB hC hW h0
  have w5 := v_c5 hB hC hW h0
  have w6 := v_c6 hB hC hW h0
  have vo := v_order hB hC hW h0
  have vp := v_place0 hB hC (k := a 0 % 12) hm
  have e1 : sm a 38 (a 1) = bsum a := sm_open hW
  have e2 : sm a 118 (a 1) = a 8 := (sm_miss hT hX.2).trans hX.2.2.1.symm
  have e3 : odr a (a 1) = ord a (a 1) 0 0 := (ord_odr (a := a) (n := a 1) (a 1) 0 (by omega) rfl).symm
  have px4 := hX.2.2.2.2.1
  have px5 := hX.2.2.2.2.2
  have n10 : ¬ 10 < a 1 := by omega
  have n56 : ¬ a 9 < a 10 := by omega
  have hA : FF 83 [.ref 208] (202, I, QR R nw bf h) = EE 83 53 [some (.ref 208), some (.int (nI (a 1))), some (.int (nI (sm a 38 0))), some (.int (nI (sm a 118 0))), some (.int (nI (odr a 0))), some (.int (nI (alr a 0))), some (.int (nI 1)), some (.int (nI 0))] [] (202, I, QR R nw bf h) := by
    show _ = EE 83 53 [some (.ref 208), some (.int (nI (a 1))), some (.int (nI 0)), some (.int (nI 0)), some (.int (nI 0)), some (.int (nI 1)), some (.int (nI 1)), some (.int (nI 0))] [] (202, I, QR R nw bf h)
    simp (disch := first | omega | (show List.length _ ≤ 4; exact Nat.le_of_ble_eq_true rfl) | assumption | exact nbo_0 | exact nbo_1 | exact b2_b) only [FE83, s83_0, s83_1, s83_2, s83_5, s83_6, s83_7, s83_8, s83_9, s83_10, s83_11, s83_13, s83_14, s83_16, s83_17, s83_19, s83_22, s83_23, s83_24, s83_27, s83_28, s83_29, s83_30, s83_33, s83_35, s83_36, s83_37, s83_40, s83_43, s83_44, s83_47, s83_48, s83_50, s83_51, s83_55, s83_56, s83_59, s83_61, s83_64, s83_65, s83_67, s83_70, s83_72, s83_73, s83_74, s83_76, s83_77, s83_80, s83_81, s83_82, s83_83, s83_84, s83_86, s83_87, s83_90, s83_91, s83_92, s83_94, s83_97, s83_98, s83_100, s83_101, s83_104, s83_107, s83_108, s83_111, s83_112, s83_114, s83_116, s83_118, s83_121, s83_122, s83_124, s83_125, s83_128, s83_131, s83_132, s83_135, s83_136, s83_137, s83_139, s83_142, s83_147, s83_150, s83_151, s83_152, s83_155, s83_156, s83_159, s83_160, s83_161, s83_164, s83_165, s83_168, s83_169, s83_171, s83_174, s83_175, s83_176, s83_179, s83_182, s83_183, s83_186, s83_188, s83_191, s83_192, s83_195, s83_196, s83_198, s83_199, s83_202, s83_204, s83_207, s83_210, s83_212, s83_215, s83_216, s83_217, s83_219, s83_222, s83_223, s83_226, s83_228, s83_231, s83_232, s83_235, s83_236, s83_238, s83_241, s83_244, s83_246, s83_249, s83_251, s83_252, s83_255, s83_256, s83_259, s83_260, s83_261, s83_264, s83_265, s83_266, s83_269, s83_270, s83_273, s83_274, ↓reduceIte, psh_some, psh_none, cln_i, cln_r, cln_n, cln_l, cln_d, cln_f, Option.bind_some, Option.bind_none, if_true, if_false, nI_add, pk_mul, nbo_0, nbo_1, nI_leI, nI_ltI, nI_eq, Nat.reduceAdd, Nat.reduceMul, Nat.add_zero, Nat.mul_zero, eq_self, z0, z1, w0, w1, w2, vp, n10]
  rw [hA, p83a hB hC hX hN (a 1) 0 (by omega), e1, e2, e3]
  have hop := op_all hW.op
  have hb10 : bsum a ≤ 10 := by unfold bsum; omega
  have hq : EE 83 145 [some (.ref 208), some (.int (nI (a 1))), some (.int (nI (bsum a))), some (.int (nI (a 8))), some (.int (nI (ord a (a 1) 0 0))), some (.int (nI (alr a (a 1)))), some (.int (nI 1)), some (.int (nI (a 1)))] [] (202, I, QR R nw bf h) = EE 83 201 [some (.ref 208), some (.int (nI (a 1))), some (.int (nI (bsum a))), some (.int (nI (a 8))), some (.int (nI (ord a (a 1) 0 0))), some (.int (nI (alr a (a 1)))), some (.int (nI 1)), some (.int (nI 0))] [] (202, I, QR R nw bf h) := by
    rw [s83_145]
    simp (disch := first | omega | (show List.length _ ≤ 4; exact Nat.le_of_ble_eq_true rfl) | assumption | exact nbo_0 | exact nbo_1 | exact b2_b) only [s83_0, s83_1, s83_2, s83_5, s83_6, s83_7, s83_8, s83_9, s83_10, s83_11, s83_13, s83_14, s83_16, s83_17, s83_19, s83_22, s83_23, s83_24, s83_27, s83_28, s83_29, s83_30, s83_33, s83_35, s83_36, s83_37, s83_40, s83_43, s83_44, s83_47, s83_48, s83_50, s83_51, s83_55, s83_56, s83_59, s83_61, s83_64, s83_65, s83_67, s83_70, s83_72, s83_73, s83_74, s83_76, s83_77, s83_80, s83_81, s83_82, s83_83, s83_84, s83_86, s83_87, s83_90, s83_91, s83_92, s83_94, s83_97, s83_98, s83_100, s83_101, s83_104, s83_107, s83_108, s83_111, s83_112, s83_114, s83_116, s83_118, s83_121, s83_122, s83_124, s83_125, s83_128, s83_131, s83_132, s83_135, s83_136, s83_137, s83_139, s83_142, s83_147, s83_150, s83_151, s83_152, s83_155, s83_156, s83_159, s83_160, s83_161, s83_164, s83_165, s83_168, s83_169, s83_171, s83_174, s83_175, s83_176, s83_179, s83_182, s83_183, s83_186, s83_188, s83_191, s83_192, s83_195, s83_196, s83_198, s83_199, s83_202, s83_204, s83_207, s83_210, s83_212, s83_215, s83_216, s83_217, s83_219, s83_222, s83_223, s83_226, s83_228, s83_231, s83_232, s83_235, s83_236, s83_238, s83_241, s83_244, s83_246, s83_249, s83_251, s83_252, s83_255, s83_256, s83_259, s83_260, s83_261, s83_264, s83_265, s83_266, s83_269, s83_270, s83_273, s83_274, ↓reduceIte, psh_some, psh_none, cln_i, cln_r, cln_n, cln_l, cln_d, cln_f, Option.bind_some, Option.bind_none, if_true, if_false, nI_add, pk_mul, nbo_0, nbo_1, nI_leI, nI_ltI, nI_eq, Nat.reduceAdd, Nat.reduceMul, Nat.add_zero, Nat.mul_zero, eq_self, z0, z1, w3, w4, w5, w6, vo, n56]
  rw [hq]
  exact p83b hB hC hW (a 13) 0 _ (by omega)
end DB
