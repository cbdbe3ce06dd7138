/-! ===== an order is carried out by the model ===== -/
section AM
variable {I : Nat → Nat → Int32} {R : Nat → Nat → Option Nat} {k c N : Nat} {a a' : Nat → Nat} {vs : List Nat}
theorem f149 (hRM : RM R) (hI : I 225 = vI a) (hW : WO a) (h0 : a 0 < 2 ^ 30) (hl : isL c = true) (hc : c < 128) (hk : k ≤ 40) (hc0 : I 33 (4 * k) = nI c) (hA : AV (I 33) (4 * k + 1) c vs) (hv' : ∀ j, vs.getD j 0 < 1000) : (∀ a', actL c vs a = some a' → FF 149 [.ref 224, .int (nI k)] (210, I, R) = some (some (.int (nI 1)), 210, up I 225 (vI a'), R)) ∧ (actL c vs a = none → FF 149 [.ref 224, .int (nI k)] (210, I, R) = some (some (.int (nI 0)), 210, I, R)) := by
  have ho := om
  have b0 := nbo_0
  have b1 := nbo_1
  have hv : (225 : Nat) = 225 ∨ (225 : Nat) = 226 := Or.inl rfl
  have hT := hW.tp
  have v0 := hv' 0
  have v2 := hv' 2
  have v4 := hv' 4
  have hls := (isL_iff c hc).mp hl
  unfold actL act
  generalize hx0 : vs.getD 0 0 = x0 at *
  generalize hx2 : vs.getD 2 0 = x2 at *
  generalize hx4 : vs.getD 4 0 = x4 at *
  have i0 := fun m (hm : m < 2 ^ 20) => iT_lt (v := x0) (m := m) (by omega) hm
  have i2 := fun m (hm : m < 2 ^ 20) => iT_lt (v := x2) (m := m) (by omega) hm
  rcases hls with rfl | rfl | rfl | rfl | rfl | rfl | rfl | rfl
  · rw [if_pos rfl]
    by_cases d : a 1 < 10
    · rw [if_pos d]
      refine ⟨fun a' e => ?_, fun e => (by cases e)⟩
      cases e
      have g := f97 (R := R) hRM hI hW d
      have en : ¬ a 1 = 10 := by omega
      simp (disch := first | omega | (show List.length _ ≤ 4; exact Nat.le_of_ble_eq_true rfl) | assumption | exact nbo_0 | exact nbo_1 | exact b2_b) only [FE149, s149_0, s149_1, s149_4, s149_5, s149_6, s149_7, s149_8, s149_9, s149_10, s149_13, s149_14, s149_15, s149_16, s149_17, s149_18, s149_19, s149_20, s149_21, s149_24, s149_25, s149_26, s149_27, s149_28, s149_29, s149_30, s149_32, s149_33, s149_36, s149_37, s149_38, s149_39, s149_40, s149_41, s149_42, s149_44, s149_45, s149_46, s149_47, s149_49, s149_51, s149_54, s149_60_111, s149_164, s149_165, s149_168, s149_59, s149_247, s149_248, FE150, s150_0, s150_1_111, s150_104, s150_105, s150_108, s150_109, s150_110, s150_112, s150_115, s150_117, s150_120, s150_121, ↓reduceIte, psh_some, psh_none, cln_i, cln_r, cln_n, cln_l, cln_d, cln_f, Option.bind_some, Option.bind_none, if_true, if_false, nI_add, pk_mul, nbo_0, nbo_1, nI_leI, nI_ltI, nI_eq, Nat.reduceAdd, Nat.reduceMul, Nat.add_zero, Nat.mul_zero, gm_0 hRM, gm_9 hRM, am_o, hc0, am_n hv, hI, vI_at, en, g, z0]
    · rw [if_neg d]
      refine ⟨fun a' e => (by cases e), fun _ => ?_⟩
      have e10 : a 1 = 10 := by omega
      simp (disch := first | omega | (show List.length _ ≤ 4; exact Nat.le_of_ble_eq_true rfl) | assumption | exact nbo_0 | exact nbo_1 | exact b2_b) only [FE149, s149_0, s149_1, s149_4, s149_5, s149_6, s149_7, s149_8, s149_9, s149_10, s149_13, s149_14, s149_15, s149_16, s149_17, s149_18, s149_19, s149_20, s149_21, s149_24, s149_25, s149_26, s149_27, s149_28, s149_29, s149_30, s149_32, s149_33, s149_36, s149_37, s149_38, s149_39, s149_40, s149_41, s149_42, s149_44, s149_45, s149_46, s149_47, s149_49, s149_51, s149_54, s149_57, s149_58, FE150, s150_0, s150_1_111, s150_104, s150_105, s150_108, s150_109, s150_110, s150_112, s150_115, s150_117, s150_120, s150_121, ↓reduceIte, psh_some, psh_none, cln_i, cln_r, cln_n, cln_l, cln_d, cln_f, Option.bind_some, Option.bind_none, if_true, if_false, nI_add, pk_mul, nbo_0, nbo_1, nI_leI, nI_ltI, nI_eq, Nat.reduceAdd, Nat.reduceMul, Nat.add_zero, Nat.mul_zero, gm_0 hRM, gm_9 hRM, am_o, hc0, am_n hv, hI, vI_at, e10, zm4]
  · have w0 : I 33 (4 * k + 1) = nI x0 := by have := hA 0 (by decide) (by decide); rw [hx0] at this; exact this
    rw [if_neg (by decide), if_pos rfl]
    by_cases d : x0 < a 1
    · rw [if_pos d]
      refine ⟨fun a' e => ?_, fun e => (by cases e)⟩
      cases e
      have g9 := f99 (R := R) (x := nI x0) hRM hI hW
      rw [b2_t ((i0 (a 1) (by omega)).mpr d)] at g9
      have g := f100 (R := R) hRM hI hW (show x0 < 10 by omega)
      simp (disch := first | omega | (show List.length _ ≤ 4; exact Nat.le_of_ble_eq_true rfl) | assumption | exact nbo_0 | exact nbo_1 | exact b2_b) only [FE149, s149_0, s149_1, s149_4, s149_5, s149_6, s149_7, s149_8, s149_9, s149_10, s149_13, s149_14, s149_15, s149_16, s149_17, s149_18, s149_19, s149_20, s149_21, s149_24, s149_25, s149_26, s149_27, s149_28, s149_29, s149_30, s149_32, s149_33, s149_36, s149_37, s149_38, s149_39, s149_40, s149_41, s149_42, s149_44, s149_45, s149_46, s149_47, s149_49, s149_51, s149_54, s149_60_120, s149_171, s149_172, s149_173, s149_176i, s149_177, s149_59, s149_247, s149_248, FE150, s150_0, s150_1_120, s150_122, s150_123, s150_124, s150_127, s150_130, s150_131, s150_134, s150_135, ↓reduceIte, psh_some, psh_none, cln_i, cln_r, cln_n, cln_l, cln_d, cln_f, Option.bind_some, Option.bind_none, if_true, if_false, nI_add, pk_mul, nbo_0, nbo_1, nI_leI, nI_ltI, nI_eq, Nat.reduceAdd, Nat.reduceMul, Nat.add_zero, Nat.mul_zero, gm_0 hRM, gm_9 hRM, am_o, hc0, w0, g9, g, z0, z1]
    · rw [if_neg d]
      refine ⟨fun a' e => (by cases e), fun _ => ?_⟩
      have g9 := f99 (R := R) (x := nI x0) hRM hI hW
      rw [b2_f (fun hh => d ((i0 (a 1) (by omega)).mp hh))] at g9
      simp (disch := first | omega | (show List.length _ ≤ 4; exact Nat.le_of_ble_eq_true rfl) | assumption | exact nbo_0 | exact nbo_1 | exact b2_b) only [FE149, s149_0, s149_1, s149_4, s149_5, s149_6, s149_7, s149_8, s149_9, s149_10, s149_13, s149_14, s149_15, s149_16, s149_17, s149_18, s149_19, s149_20, s149_21, s149_24, s149_25, s149_26, s149_27, s149_28, s149_29, s149_30, s149_32, s149_33, s149_36, s149_37, s149_38, s149_39, s149_40, s149_41, s149_42, s149_44, s149_45, s149_46, s149_47, s149_49, s149_51, s149_54, s149_57, s149_58, FE150, s150_0, s150_1_120, s150_122, s150_123, s150_124, s150_127, s150_130, s150_131, s150_134, s150_135, ↓reduceIte, psh_some, psh_none, cln_i, cln_r, cln_n, cln_l, cln_d, cln_f, Option.bind_some, Option.bind_none, if_true, if_false, nI_add, pk_mul, nbo_0, nbo_1, nI_leI, nI_ltI, nI_eq, Nat.reduceAdd, Nat.reduceMul, Nat.add_zero, Nat.mul_zero, gm_0 hRM, gm_9 hRM, am_o, hc0, w0, g9, z0, zm1]
  · have w0 : I 33 (4 * k + 1) = nI x0 := by have := hA 0 (by decide) (by decide); rw [hx0] at this; exact this
    rw [if_neg (by decide), if_neg (by decide), if_pos rfl]
    by_cases d : x0 < a 1
    · rw [if_pos d]
      refine ⟨fun a' e => ?_, fun e => (by cases e)⟩
      cases e
      have g9 := f99 (R := R) (x := nI x0) hRM hI hW
      rw [b2_t ((i0 (a 1) (by omega)).mpr d)] at g9
      have g := f102 (R := R) hRM hI hW d
      simp (disch := first | omega | (show List.length _ ≤ 4; exact Nat.le_of_ble_eq_true rfl) | assumption | exact nbo_0 | exact nbo_1 | exact b2_b) only [FE149, s149_0, s149_1, s149_4, s149_5, s149_6, s149_7, s149_8, s149_9, s149_10, s149_13, s149_14, s149_15, s149_16, s149_17, s149_18, s149_19, s149_20, s149_21, s149_24, s149_25, s149_26, s149_27, s149_28, s149_29, s149_30, s149_32, s149_33, s149_36, s149_37, s149_38, s149_39, s149_40, s149_41, s149_42, s149_44, s149_45, s149_46, s149_47, s149_49, s149_51, s149_54, s149_60_107, s149_180, s149_181, s149_182, s149_185i, s149_186, s149_59, s149_247, s149_248, FE150, s150_0, s150_1_107, s150_122, s150_123, s150_124, s150_127, s150_130, s150_131, s150_134, s150_135, ↓reduceIte, psh_some, psh_none, cln_i, cln_r, cln_n, cln_l, cln_d, cln_f, Option.bind_some, Option.bind_none, if_true, if_false, nI_add, pk_mul, nbo_0, nbo_1, nI_leI, nI_ltI, nI_eq, Nat.reduceAdd, Nat.reduceMul, Nat.add_zero, Nat.mul_zero, gm_0 hRM, gm_9 hRM, am_o, hc0, w0, g9, g, z0, z1]
    · rw [if_neg d]
      refine ⟨fun a' e => (by cases e), fun _ => ?_⟩
      have g9 := f99 (R := R) (x := nI x0) hRM hI hW
      rw [b2_f (fun hh => d ((i0 (a 1) (by omega)).mp hh))] at g9
      simp (disch := first | omega | (show List.length _ ≤ 4; exact Nat.le_of_ble_eq_true rfl) | assumption | exact nbo_0 | exact nbo_1 | exact b2_b) only [FE149, s149_0, s149_1, s149_4, s149_5, s149_6, s149_7, s149_8, s149_9, s149_10, s149_13, s149_14, s149_15, s149_16, s149_17, s149_18, s149_19, s149_20, s149_21, s149_24, s149_25, s149_26, s149_27, s149_28, s149_29, s149_30, s149_32, s149_33, s149_36, s149_37, s149_38, s149_39, s149_40, s149_41, s149_42, s149_44, s149_45, s149_46, s149_47, s149_49, s149_51, s149_54, s149_57, s149_58, FE150, s150_0, s150_1_107, s150_122, s150_123, s150_124, s150_127, s150_130, s150_131, s150_134, s150_135, ↓reduceIte, psh_some, psh_none, cln_i, cln_r, cln_n, cln_l, cln_d, cln_f, Option.bind_some, Option.bind_none, if_true, if_false, nI_add, pk_mul, nbo_0, nbo_1, nI_leI, nI_ltI, nI_eq, Nat.reduceAdd, Nat.reduceMul, Nat.add_zero, Nat.mul_zero, gm_0 hRM, gm_9 hRM, am_o, hc0, w0, g9, z0, zm1]
  · have w0 : I 33 (4 * k + 1) = nI x0 := by have := hA 0 (by decide) (by decide); rw [hx0] at this; exact this
    rw [if_neg (by decide), if_neg (by decide), if_neg (by decide), if_pos rfl]
    by_cases d : x0 < a 1 ∧ a (38 + x0) = 1 ∧ a (58 + 10 * frm a + x0) < a (58 + 10 * bst a x0 + x0)
    · rw [if_pos d]
      refine ⟨fun a' e => ?_, fun e => (by cases e)⟩
      cases e
      have g9 := f110 (R := R) (x := nI x0) hRM hI hW h0
      rw [nI_clamp (by omega), if_pos ((i0 (a 1) (by omega)).mpr d.1), if_pos d.2] at g9
      have g := f113 (R := R) (t := x0) hRM hI hW h0 (by omega)
      simp (disch := first | omega | (show List.length _ ≤ 4; exact Nat.le_of_ble_eq_true rfl) | assumption | exact nbo_0 | exact nbo_1 | exact b2_b) only [FE149, s149_0, s149_1, s149_4, s149_5, s149_6, s149_7, s149_8, s149_9, s149_10, s149_13, s149_14, s149_15, s149_16, s149_17, s149_18, s149_19, s149_20, s149_21, s149_24, s149_25, s149_26, s149_27, s149_28, s149_29, s149_30, s149_32, s149_33, s149_36, s149_37, s149_38, s149_39, s149_40, s149_41, s149_42, s149_44, s149_45, s149_46, s149_47, s149_49, s149_51, s149_54, s149_60_99, s149_189, s149_190, s149_191, s149_194i, s149_195, s149_59, s149_247, s149_248, FE150, s150_0, s150_1_99, s150_136, s150_137, s150_138, s150_141, ↓reduceIte, psh_some, psh_none, cln_i, cln_r, cln_n, cln_l, cln_d, cln_f, Option.bind_some, Option.bind_none, if_true, if_false, nI_add, pk_mul, nbo_0, nbo_1, nI_leI, nI_ltI, nI_eq, Nat.reduceAdd, Nat.reduceMul, Nat.add_zero, Nat.mul_zero, gm_0 hRM, gm_9 hRM, am_o, hc0, w0, g9, g, z0]
    · rw [if_neg d]
      refine ⟨fun a' e => (by cases e), fun _ => ?_⟩
      have g9 := f110 (R := R) (x := nI x0) hRM hI hW h0
      have g10 : FF 110 [.ref 224, .int (nI x0)] (210, I, R) = some (some (.int (if x0 < a 1 then -5 else -1)), 210, I, R) := by
        by_cases d2 : x0 < a 1
        · rw [nI_clamp (by omega), if_pos ((i0 (a 1) (by omega)).mpr d2), if_neg (fun hh => d ⟨d2, hh⟩)] at g9
          rw [if_pos d2]; exact g9
        · rw [if_neg (fun hh => d2 ((i0 (a 1) (by omega)).mp hh))] at g9
          rw [if_neg d2]; exact g9
      have zz : ¬ (if x0 < a 1 then (-5 : Int32) else -1) = 0 := by split <;> decide
      simp (disch := first | omega | (show List.length _ ≤ 4; exact Nat.le_of_ble_eq_true rfl) | assumption | exact nbo_0 | exact nbo_1 | exact b2_b) only [FE149, s149_0, s149_1, s149_4, s149_5, s149_6, s149_7, s149_8, s149_9, s149_10, s149_13, s149_14, s149_15, s149_16, s149_17, s149_18, s149_19, s149_20, s149_21, s149_24, s149_25, s149_26, s149_27, s149_28, s149_29, s149_30, s149_32, s149_33, s149_36, s149_37, s149_38, s149_39, s149_40, s149_41, s149_42, s149_44, s149_45, s149_46, s149_47, s149_49, s149_51, s149_54, s149_57, s149_58, FE150, s150_0, s150_1_99, s150_136, s150_137, s150_138, s150_141, ↓reduceIte, psh_some, psh_none, cln_i, cln_r, cln_n, cln_l, cln_d, cln_f, Option.bind_some, Option.bind_none, if_true, if_false, nI_add, pk_mul, nbo_0, nbo_1, nI_leI, nI_ltI, nI_eq, Nat.reduceAdd, Nat.reduceMul, Nat.add_zero, Nat.mul_zero, gm_0 hRM, gm_9 hRM, am_o, hc0, w0, g10, zz]
  · have w0 : I 33 (4 * k + 1) = nI x0 := by have := hA 0 (by decide) (by decide); rw [hx0] at this; exact this
    have w1 : I 33 (4 * k + 2) = nI x2 := by have := hA 2 (by decide) (by decide); rw [hx2] at this; exact this
    have w2 : I 33 (4 * k + 3) = nI x4 := by have := hA 4 (by decide) (by decide); rw [hx4] at this; exact this
    rw [if_neg (by decide), if_neg (by decide), if_neg (by decide), if_neg (by decide), if_pos rfl]
    by_cases d : (x0 < 6 ∧ x2 < a 1) ∧ 1 ≤ x4 ∧ x4 ≤ 100
    · rw [if_pos d]
      refine ⟨fun a' e => ?_, fun e => (by cases e)⟩
      cases e
      have g9 := f105 (R := R) (x := nI x0) (y := nI x2) (z := nI x4) hRM hI hW
      rw [if_pos ⟨(i0 6 (by decide)).mpr d.1.1, (i2 (a 1) (by omega)).mpr d.1.2⟩, if_pos (by rw [nI_ltI (by omega) (by decide), nI_ltI (by decide) (by omega)]; omega)] at g9
      have g := f106 (R := R) (w := x0) (t := x2) (x := x4) hRM hI hW d.1.1 (by omega) d.2.2
      simp (disch := first | omega | (show List.length _ ≤ 4; exact Nat.le_of_ble_eq_true rfl) | assumption | exact nbo_0 | exact nbo_1 | exact b2_b) only [FE149, s149_0, s149_1, s149_4, s149_5, s149_6, s149_7, s149_8, s149_9, s149_10, s149_13, s149_14, s149_15, s149_16, s149_17, s149_18, s149_19, s149_20, s149_21, s149_24, s149_25, s149_26, s149_27, s149_28, s149_29, s149_30, s149_32, s149_33, s149_36, s149_37, s149_38, s149_39, s149_40, s149_41, s149_42, s149_44, s149_45, s149_46, s149_47, s149_49, s149_51, s149_54, s149_60_108, s149_198, s149_199, s149_200, s149_202, s149_204, s149_207i, s149_208, s149_59, s149_247, s149_248, FE150, s150_0, s150_1_108, s150_142, s150_143, s150_144, s150_145, s150_147, s150_150, ↓reduceIte, psh_some, psh_none, cln_i, cln_r, cln_n, cln_l, cln_d, cln_f, Option.bind_some, Option.bind_none, if_true, if_false, nI_add, pk_mul, nbo_0, nbo_1, nI_leI, nI_ltI, nI_eq, Nat.reduceAdd, Nat.reduceMul, Nat.add_zero, Nat.mul_zero, gm_0 hRM, gm_9 hRM, am_o, hc0, w0, w1, w2, g9, g, z0]
    · rw [if_neg d]
      refine ⟨fun a' e => (by cases e), fun _ => ?_⟩
      have g9 := f105 (R := R) (x := nI x0) (y := nI x2) (z := nI x4) hRM hI hW
      have g10 : FF 105 [.ref 224, .int (nI x0), .int (nI x2), .int (nI x4)] (210, I, R) = some (some (.int (if x0 < 6 ∧ x2 < a 1 then -2 else -1)), 210, I, R) := by
        by_cases d2 : x0 < 6 ∧ x2 < a 1
        · rw [if_pos ⟨(i0 6 (by decide)).mpr d2.1, (i2 (a 1) (by omega)).mpr d2.2⟩, if_neg (by rw [nI_ltI (by omega) (by decide), nI_ltI (by decide) (by omega)]; omega)] at g9
          rw [if_pos d2]; exact g9
        · rw [if_neg (fun hh => d2 ⟨(i0 6 (by decide)).mp hh.1, (i2 (a 1) (by omega)).mp hh.2⟩)] at g9
          rw [if_neg d2]; exact g9
      have zz : ¬ (if x0 < 6 ∧ x2 < a 1 then (-2 : Int32) else -1) = 0 := by split <;> decide
      simp (disch := first | omega | (show List.length _ ≤ 4; exact Nat.le_of_ble_eq_true rfl) | assumption | exact nbo_0 | exact nbo_1 | exact b2_b) only [FE149, s149_0, s149_1, s149_4, s149_5, s149_6, s149_7, s149_8, s149_9, s149_10, s149_13, s149_14, s149_15, s149_16, s149_17, s149_18, s149_19, s149_20, s149_21, s149_24, s149_25, s149_26, s149_27, s149_28, s149_29, s149_30, s149_32, s149_33, s149_36, s149_37, s149_38, s149_39, s149_40, s149_41, s149_42, s149_44, s149_45, s149_46, s149_47, s149_49, s149_51, s149_54, s149_57, s149_58, FE150, s150_0, s150_1_108, s150_142, s150_143, s150_144, s150_145, s150_147, s150_150, ↓reduceIte, psh_some, psh_none, cln_i, cln_r, cln_n, cln_l, cln_d, cln_f, Option.bind_some, Option.bind_none, if_true, if_false, nI_add, pk_mul, nbo_0, nbo_1, nI_leI, nI_ltI, nI_eq, Nat.reduceAdd, Nat.reduceMul, Nat.add_zero, Nat.mul_zero, gm_0 hRM, gm_9 hRM, am_o, hc0, w0, w1, w2, g10, zz]
  · have w0 : I 33 (4 * k + 1) = nI x0 := by have := hA 0 (by decide) (by decide); rw [hx0] at this; exact this
    have w1 : I 33 (4 * k + 2) = nI x2 := by have := hA 2 (by decide) (by decide); rw [hx2] at this; exact this
    rw [if_neg (by decide), if_neg (by decide), if_neg (by decide), if_neg (by decide), if_neg (by decide), if_pos rfl]
    by_cases d : x2 < 6 ∧ x0 < 12
    · rw [if_pos d]
      refine ⟨fun a' e => ?_, fun e => (by cases e)⟩
      cases e
      have g9 := fun M : Mm => f90 (M := M) (x := nI x0) (y := nI x2)
      simp only [if_pos ((i2 6 (by decide)).mpr d.1), if_pos ((i0 12 (by decide)).mpr d.2)] at g9
      have g := f93 (R := R) (k := 14 + x0) (x := x2) hRM hI (by omega)
      simp (disch := first | omega | (show List.length _ ≤ 4; exact Nat.le_of_ble_eq_true rfl) | assumption | exact nbo_0 | exact nbo_1 | exact b2_b) only [FE149, s149_0, s149_1, s149_4, s149_5, s149_6, s149_7, s149_8, s149_9, s149_10, s149_13, s149_14, s149_15, s149_16, s149_17, s149_18, s149_19, s149_20, s149_21, s149_24, s149_25, s149_26, s149_27, s149_28, s149_29, s149_30, s149_32, s149_33, s149_36, s149_37, s149_38, s149_39, s149_40, s149_41, s149_42, s149_44, s149_45, s149_46, s149_47, s149_49, s149_51, s149_54, s149_60_114, s149_211, s149_212, s149_214, s149_215, s149_216, s149_218, s149_221i, s149_222, s149_59, s149_247, s149_248, FE150, s150_0, s150_1_114, s150_151, s150_152, s150_153, s150_156, ↓reduceIte, psh_some, psh_none, cln_i, cln_r, cln_n, cln_l, cln_d, cln_f, Option.bind_some, Option.bind_none, if_true, if_false, nI_add, pk_mul, nbo_0, nbo_1, nI_leI, nI_ltI, nI_eq, Nat.reduceAdd, Nat.reduceMul, Nat.add_zero, Nat.mul_zero, gm_0 hRM, gm_9 hRM, am_o, hc0, w0, w1, g9, g, z0]
    · rw [if_neg d]
      refine ⟨fun a' e => (by cases e), fun _ => ?_⟩
      have g10 : ∀ M : Mm, FF 90 [.int (nI x0), .int (nI x2)] M = some (some (.int (if x2 < 6 then -2 else -1)), M) := fun M => by
        have g9 := f90 (M := M) (x := nI x0) (y := nI x2)
        by_cases d2 : x2 < 6
        · rw [if_pos ((i2 6 (by decide)).mpr d2), if_neg (fun hh => d ⟨d2, (i0 12 (by decide)).mp hh⟩)] at g9
          rw [if_pos d2]; exact g9
        · rw [if_neg (fun hh => d2 ((i2 6 (by decide)).mp hh))] at g9
          rw [if_neg d2]; exact g9
      have zz : ¬ (if x2 < 6 then (-2 : Int32) else -1) = 0 := by split <;> decide
      simp (disch := first | omega | (show List.length _ ≤ 4; exact Nat.le_of_ble_eq_true rfl) | assumption | exact nbo_0 | exact nbo_1 | exact b2_b) only [FE149, s149_0, s149_1, s149_4, s149_5, s149_6, s149_7, s149_8, s149_9, s149_10, s149_13, s149_14, s149_15, s149_16, s149_17, s149_18, s149_19, s149_20, s149_21, s149_24, s149_25, s149_26, s149_27, s149_28, s149_29, s149_30, s149_32, s149_33, s149_36, s149_37, s149_38, s149_39, s149_40, s149_41, s149_42, s149_44, s149_45, s149_46, s149_47, s149_49, s149_51, s149_54, s149_57, s149_58, FE150, s150_0, s150_1_114, s150_151, s150_152, s150_153, s150_156, ↓reduceIte, psh_some, psh_none, cln_i, cln_r, cln_n, cln_l, cln_d, cln_f, Option.bind_some, Option.bind_none, if_true, if_false, nI_add, pk_mul, nbo_0, nbo_1, nI_leI, nI_ltI, nI_eq, Nat.reduceAdd, Nat.reduceMul, Nat.add_zero, Nat.mul_zero, gm_0 hRM, gm_9 hRM, am_o, hc0, w0, w1, g10, zz]
  · have w0 : I 33 (4 * k + 1) = nI x0 := by have := hA 0 (by decide) (by decide); rw [hx0] at this; exact this
    have w1 : I 33 (4 * k + 2) = nI x2 := by have := hA 2 (by decide) (by decide); rw [hx2] at this; exact this
    rw [if_neg (by decide), if_neg (by decide), if_neg (by decide), if_neg (by decide), if_neg (by decide), if_neg (by decide), if_pos rfl]
    by_cases d : x0 < 12 ∧ x2 < 61
    · rw [if_pos d]
      refine ⟨fun a' e => ?_, fun e => (by cases e)⟩
      cases e
      have g9 := fun M : Mm => f95 (M := M) (x := nI x0) (y := nI x2)
      simp only [if_pos (show iT (nI x0) 12 ∧ iT (nI x2) 61 from ⟨(i0 12 (by decide)).mpr d.1, (i2 61 (by decide)).mpr d.2⟩)] at g9
      have g := f93 (R := R) (k := 26 + x0) (x := x2) hRM hI (by omega)
      simp (disch := first | omega | (show List.length _ ≤ 4; exact Nat.le_of_ble_eq_true rfl) | assumption | exact nbo_0 | exact nbo_1 | exact b2_b) only [FE149, s149_0, s149_1, s149_4, s149_5, s149_6, s149_7, s149_8, s149_9, s149_10, s149_13, s149_14, s149_15, s149_16, s149_17, s149_18, s149_19, s149_20, s149_21, s149_24, s149_25, s149_26, s149_27, s149_28, s149_29, s149_30, s149_32, s149_33, s149_36, s149_37, s149_38, s149_39, s149_40, s149_41, s149_42, s149_44, s149_45, s149_46, s149_47, s149_49, s149_51, s149_54, s149_60_109, s149_225, s149_226, s149_228, s149_229, s149_230, s149_232, s149_235i, s149_236, s149_59, s149_247, s149_248, FE150, s150_0, s150_1_109, s150_157, s150_158, s150_159, s150_162, ↓reduceIte, psh_some, psh_none, cln_i, cln_r, cln_n, cln_l, cln_d, cln_f, Option.bind_some, Option.bind_none, if_true, if_false, nI_add, pk_mul, nbo_0, nbo_1, nI_leI, nI_ltI, nI_eq, Nat.reduceAdd, Nat.reduceMul, Nat.add_zero, Nat.mul_zero, gm_0 hRM, gm_9 hRM, am_o, hc0, w0, w1, g9, g, z0]
    · rw [if_neg d]
      refine ⟨fun a' e => (by cases e), fun _ => ?_⟩
      have g9 := fun M : Mm => f95 (M := M) (x := nI x0) (y := nI x2)
      simp only [if_neg (show ¬ (iT (nI x0) 12 ∧ iT (nI x2) 61) from fun hh => d ⟨(i0 12 (by decide)).mp hh.1, (i2 61 (by decide)).mp hh.2⟩)] at g9
      simp (disch := first | omega | (show List.length _ ≤ 4; exact Nat.le_of_ble_eq_true rfl) | assumption | exact nbo_0 | exact nbo_1 | exact b2_b) only [FE149, s149_0, s149_1, s149_4, s149_5, s149_6, s149_7, s149_8, s149_9, s149_10, s149_13, s149_14, s149_15, s149_16, s149_17, s149_18, s149_19, s149_20, s149_21, s149_24, s149_25, s149_26, s149_27, s149_28, s149_29, s149_30, s149_32, s149_33, s149_36, s149_37, s149_38, s149_39, s149_40, s149_41, s149_42, s149_44, s149_45, s149_46, s149_47, s149_49, s149_51, s149_54, s149_57, s149_58, FE150, s150_0, s150_1_109, s150_157, s150_158, s150_159, s150_162, ↓reduceIte, psh_some, psh_none, cln_i, cln_r, cln_n, cln_l, cln_d, cln_f, Option.bind_some, Option.bind_none, if_true, if_false, nI_add, pk_mul, nbo_0, nbo_1, nI_leI, nI_ltI, nI_eq, Nat.reduceAdd, Nat.reduceMul, Nat.add_zero, Nat.mul_zero, gm_0 hRM, gm_9 hRM, am_o, hc0, w0, w1, g9, zm2]
  · rw [if_neg (by decide), if_neg (by decide), if_neg (by decide), if_neg (by decide), if_neg (by decide), if_neg (by decide), if_neg (by decide)]
    refine ⟨fun a' e => ?_, fun e => (by cases e)⟩
    cases e
    have g := f115 (R := R) hv hI hW h0
    simp (disch := first | omega | (show List.length _ ≤ 4; exact Nat.le_of_ble_eq_true rfl) | assumption | exact nbo_0 | exact nbo_1 | exact b2_b) only [FE149, s149_0, s149_1, s149_4, s149_5, s149_6, s149_7, s149_8, s149_9, s149_10, s149_13, s149_14, s149_15, s149_16, s149_17, s149_18, s149_19, s149_20, s149_21, s149_24, s149_25, s149_26, s149_27, s149_28, s149_29, s149_30, s149_32, s149_33, s149_36, s149_37, s149_38, s149_39, s149_40, s149_41, s149_42, s149_44, s149_45, s149_46, s149_47, s149_49, s149_51, s149_54, s149_60_101, s149_239, s149_240, s149_243, s149_246i, s149_59, s149_247, s149_248, FE150, s150_0, s150_1_101, s150_163, s150_164, ↓reduceIte, psh_some, psh_none, cln_i, cln_r, cln_n, cln_l, cln_d, cln_f, Option.bind_some, Option.bind_none, if_true, if_false, nI_add, pk_mul, nbo_0, nbo_1, nI_leI, nI_ltI, nI_eq, Nat.reduceAdd, Nat.reduceMul, Nat.add_zero, Nat.mul_zero, gm_0 hRM, gm_9 hRM, am_o, hc0, g, z0]
end AM
