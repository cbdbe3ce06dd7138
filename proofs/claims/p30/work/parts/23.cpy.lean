/-! ===== a State is copied ===== -/
def mx (a e : Nat → Nat) (o w : Nat) : Nat → Nat := fun k => if o ≤ k ∧ k < o + w then a k else e k
theorem mx_cov {a e : Nat → Nat} {o w k : Nat} (h : ¬ (o ≤ k ∧ k < o + w) → e k = a k) : mx a e o w k = a k := by
  unfold mx
  by_cases e1 : o ≤ k ∧ k < o + w
  · rw [if_pos e1]
  · rw [if_neg e1, h e1]
theorem mx_1 {a e : Nat → Nat} {o : Nat} : up e o (a o) = mx a e o 1 := by
  funext k
  unfold up mx
  by_cases h : k = o
  · rw [if_pos h, if_pos (by omega), h]
  · rw [if_neg h, if_neg (by omega)]
theorem mx_pk {a e : Nat → Nat} (h : ∀ t, t < 10 → a (38 + t) ≤ 1) : unpk (vI e) (pkN (vI a)) = vI (mx a e 38 10) := by
  have hm : ∀ t, t < 10 → mx a e 38 10 (38 + t) = a (38 + t) := fun t ht => if_pos (by omega)
  have h1 : ∀ t, t < 10 → mx a e 38 10 (38 + t) ≤ 1 := fun t ht => by rw [hm t ht]; exact h t ht
  have h2 : pkN (vI (mx a e 38 10)) = pkN (vI a) := by
    rw [pkN_v h1, pkN_v h, hm 0 (by decide), hm 1 (by decide), hm 2 (by decide), hm 3 (by decide), hm 4 (by decide), hm 5 (by decide), hm 6 (by decide), hm 7 (by decide), hm 8 (by decide), hm 9 (by decide)]
  rw [← h2]
  exact unpk_v h1 (fun k hk => if_neg (by omega))
section CP
variable {I : Nat → Nat → Int32} {R : Nat → Nat → Option Nat} {b d : Nat} {a e : Nat → Nat}
theorem kd_st {b c : Nat} (hb : b < 13) (hc : c < 16) : kd (16 * b + c) = (dsS.getD c (0, 0, 0)).1 := by unfold kd; rw [ds_st hb hc]
theorem ln_st {b c : Nat} (hb : b < 13) (hc : c < 16) : ln (16 * b + c) = (dsS.getD c (0, 0, 0)).2.1 := by unfold ln; rw [ds_st hb hc]
theorem off_st {b c : Nat} (hb : b < 13) (hc : c < 16) : off (16 * b + c) = (dsS.getD c (0, 0, 0)).2.2 := by unfold off; rw [ds_st hb hc]
theorem cp_st {c w o : Nat} (hb : b < 13) (hd : d < 13) (hn : b ≠ d) (hI : I b = vI a) (hc : c < 15) (hds : dsS.getD c (0, 0, 0) = (5, w, o)) (hw : w < 2 ^ 20) : cpI 202 (up I d (vI e)) (16 * b + c) (nI 0) (16 * d + c) (nI 0) (nI w) = some (up I d (vI (mx a e o w))) := by
  have k1 := kd_st (b := b) hb (show c < 16 by omega)
  have k2 := kd_st (b := d) hd (show c < 16 by omega)
  have l1 := ln_st (b := b) hb (show c < 16 by omega)
  have l2 := ln_st (b := d) hd (show c < 16 by omega)
  have o1 := off_st (b := b) hb (show c < 16 by omega)
  have o2 := off_st (b := d) hd (show c < 16 by omega)
  have p1 := pos_st hb hc
  have p2 := pos_st hd hc
  rw [hds] at k1 k2 l1 l2 o1 o2
  unfold cpI
  rw [if_pos ⟨Or.inl ⟨by omega, k1, p1, by omega, by omega⟩, by omega, k2, p2, by omega, by omega, nI_0, nI_0, nI_pos (by omega), by rw [nI_clamp (by omega), if_neg (by omega), l1]; exact Nat.le_refl _, by rw [nI_clamp (by omega), l2]; exact Nat.le_refl _⟩]
  rw [vec_st hd (by omega), vec_st hb (by omega), up_up, nI_clamp (by omega), o1, o2]
  congr 1
  congr 1
  funext x
  show (if o ≤ x ∧ x < o + w then (if 16 * b + c = 1001 then csI 1001 (x - o) else up I d (vI e) b (o + (x - o))) else up I d (vI e) d x) = nI (mx a e o w x)
  unfold mx
  by_cases h : o ≤ x ∧ x < o + w
  · rw [if_pos h, if_pos h, if_neg (by omega), up_ne hn, hI, show o + (x - o) = x by omega]
    rfl
  · rw [if_neg h, if_neg h, up_at]
    rfl
theorem f12 (hb : b < 13) (hd : d < 13) (hn : b ≠ d) (hR : RS R) (hI : I b = vI a) (hW : WO a) (hJ : I d = vI e) (hz : ∀ k, 148 ≤ k → e k = 0) : FF 12 [.ref (16 * d), .ref (16 * b)] (202, I, R) = some (none, 202, up I d (vI a), R) := by
  have hmod : ∀ (e : Nat → Nat), up I d (vI e) b = vI a := fun e => by rw [up_ne hn, hI]
  have c0 := fun e => cp_st (e := e) (c := 1) (w := 6) (o := 2) hb hd hn hI (by decide) rfl (by decide)
  have c1 := fun e => cp_st (e := e) (c := 2) (w := 12) (o := 14) hb hd hn hI (by decide) rfl (by decide)
  have c2 := fun e => cp_st (e := e) (c := 3) (w := 12) (o := 26) hb hd hn hI (by decide) rfl (by decide)
  have c4 := fun e => cp_st (e := e) (c := 11) (w := 10) (o := 48) hb hd hn hI (by decide) rfl (by decide)
  have c5 := fun e => cp_st (e := e) (c := 12) (w := 10) (o := 118) hb hd hn hI (by decide) rfl (by decide)
  have c6 := fun e => cp_st (e := e) (c := 13) (w := 10) (o := 128) hb hd hn hI (by decide) rfl (by decide)
  have c7 := fun e => cp_st (e := e) (c := 14) (w := 10) (o := 138) hb hd hn hI (by decide) rfl (by decide)
  have cw : ∀ e w, w < 6 → cpI 202 (up I d (vI e)) (16 * b + (5 + w)) (nI 0) (16 * d + (5 + w)) (nI 0) (nI 10) = some (up I d (vI (mx a e (58 + 10 * w) 10))) := by
    intro e w hw
    rcases (show w = 0 ∨ w = 1 ∨ w = 2 ∨ w = 3 ∨ w = 4 ∨ w = 5 by omega) with rfl | rfl | rfl | rfl | rfl | rfl <;> exact cp_st (by omega) (by omega) hn hI (by decide) rfl (by decide)
  have hA : FF 12 [.ref (16 * d), .ref (16 * b)] (202, I, R) = EE 12 47 [some (.ref (16 * d)), some (.ref (16 * b)), some (.int (nI 0))] [] (202, up I d (vI (mx a (mx a (mx a e 2 6) 14 12) 26 12)), R) := by
    have e0 : I = up I d (vI e) := (up_eq hJ).symm
    conv => lhs; rw [e0]
    simp (disch := first | omega | (show List.length _ ≤ 4; exact Nat.le_of_ble_eq_true rfl) | assumption | exact nbo_0 | exact nbo_1 | exact b2_b) only [FE12, s12_0, s12_1, s12_4, s12_5, s12_6, s12_9, s12_10, s12_12, s12_15, s12_16, s12_19, s12_20, s12_21, s12_24, s12_25, s12_27, s12_30, s12_31, s12_34, s12_35, s12_36, s12_39, s12_40, s12_42, s12_45, s12_46, s12_48, s12_50, s12_53, s12_54, s12_57, s12_58, s12_59, s12_60, s12_61, s12_64, s12_65, s12_66, s12_67, s12_69, s12_72, s12_75, s12_78, s12_79, s12_82, s12_83, s12_84, s12_87, s12_88, s12_90, s12_93, s12_94, s12_97, s12_98, s12_99, s12_102, s12_103, s12_105, s12_108, s12_109, s12_112, s12_113, s12_114, s12_117, s12_118, s12_120, s12_123, s12_124, s12_127, s12_128, s12_129, s12_132, s12_133, s12_135, s12_138, s12_139, s12_140, s12_143, s12_146, s12_147, s12_148, s12_151, s12_154, s12_155, s12_156, s12_159, s12_162, s12_163, s12_164, s12_167, s12_170, s12_171, s12_172, s12_175, s12_178, s12_179, s12_180, s12_183, s12_186, s12_187, s12_188, s12_191, s12_194, s12_195, s12_196, s12_199, s12_202, s12_203, s12_204, s12_207, s12_210, ↓reduceIte, psh_some, psh_none, cln_i, cln_r, cln_n, cln_l, cln_d, cln_f, Option.bind_some, Option.bind_none, if_true, if_false, nI_add, pk_mul, nbo_0, nbo_1, nI_leI, nI_ltI, nI_eq, Nat.reduceAdd, Nat.reduceMul, Nat.add_zero, Nat.mul_zero, gs_0 hb hR, gs_0 hd hR, gs_1 hb hR, gs_1 hd hR, gs_2 hb hR, gs_2 hd hR, c0, c1, c2]
  have main := fd_loop (E := fun i s => EE 12 47 [some (.ref (16 * d)), some (.ref (16 * b)), some (.int (nI i))] [] (202, up I d (vI s), R)) (f := fun w s => mx a s (58 + 10 * w) 10) (Inv := fun _ _ => True) 6 (by
    intro i s hi _
    refine ⟨?_, trivial⟩
    have hn6 : ¬ 6 ≤ i := by omega
    have h1 := lv_c hb hi
    have h2 := lv_v hb hi hR
    have h3 := lv_c hd hi
    have h4 := lv_v hd hi hR
    show EE 12 47 _ _ _ = EE 12 47 _ _ _
    rw [s12_47]
    simp (disch := first | omega | (show List.length _ ≤ 4; exact Nat.le_of_ble_eq_true rfl) | assumption | exact nbo_0 | exact nbo_1 | exact b2_b) only [s12_0, s12_1, s12_4, s12_5, s12_6, s12_9, s12_10, s12_12, s12_15, s12_16, s12_19, s12_20, s12_21, s12_24, s12_25, s12_27, s12_30, s12_31, s12_34, s12_35, s12_36, s12_39, s12_40, s12_42, s12_45, s12_46, s12_48, s12_50, s12_53, s12_54, s12_57, s12_58, s12_59, s12_60, s12_61, s12_64, s12_65, s12_66, s12_67, s12_69, s12_72, s12_75, s12_78, s12_79, s12_82, s12_83, s12_84, s12_87, s12_88, s12_90, s12_93, s12_94, s12_97, s12_98, s12_99, s12_102, s12_103, s12_105, s12_108, s12_109, s12_112, s12_113, s12_114, s12_117, s12_118, s12_120, s12_123, s12_124, s12_127, s12_128, s12_129, s12_132, s12_133, s12_135, s12_138, s12_139, s12_140, s12_143, s12_146, s12_147, s12_148, s12_151, s12_154, s12_155, s12_156, s12_159, s12_162, s12_163, s12_164, s12_167, s12_170, s12_171, s12_172, s12_175, s12_178, s12_179, s12_180, s12_183, s12_186, s12_187, s12_188, s12_191, s12_194, s12_195, s12_196, s12_199, s12_202, s12_203, s12_204, s12_207, s12_210, ↓reduceIte, psh_some, psh_none, cln_i, cln_r, cln_n, cln_l, cln_d, cln_f, Option.bind_some, Option.bind_none, if_true, if_false, nI_add, pk_mul, nbo_0, nbo_1, nI_leI, nI_ltI, nI_eq, Nat.reduceAdd, Nat.reduceMul, Nat.add_zero, Nat.mul_zero, gs_3 hb hR, gs_3 hd hR, h1, h2, h3, h4, hn6, cw _ _ hi]) 6 0 (mx a (mx a (mx a e 2 6) 14 12) 26 12) (by decide) trivial
  obtain ⟨m1, _⟩ := main
  rw [hA]
  refine m1.trans ?_
  show EE 12 47 [some (.ref (16 * d)), some (.ref (16 * b)), some (.int (nI 6))] [] (202, up I d (vI (mx a (mx a (mx a (mx a (mx a (mx a (mx a (mx a (mx a e 2 6) 14 12) 26 12) 58 10) 68 10) 78 10) 88 10) 98 10) 108 10)), R) = _
  have h9 : (6 : Nat) ≤ 6 := Nat.le_refl _
  have hpk := pkN_lt hW.op
  have hmp := fun e => mx_pk (e := e) hW.op
  have hm1 := fun e o => mx_1 (a := a) (e := e) (o := o)
  rw [s12_47]
  unfold pk at *
  simp (disch := first | omega | (show List.length _ ≤ 4; exact Nat.le_of_ble_eq_true rfl) | assumption | exact nbo_0 | exact nbo_1 | exact b2_b) only [s12_0, s12_1, s12_4, s12_5, s12_6, s12_9, s12_10, s12_12, s12_15, s12_16, s12_19, s12_20, s12_21, s12_24, s12_25, s12_27, s12_30, s12_31, s12_34, s12_35, s12_36, s12_39, s12_40, s12_42, s12_45, s12_46, s12_48, s12_50, s12_53, s12_54, s12_57, s12_58, s12_59, s12_60, s12_61, s12_64, s12_65, s12_66, s12_67, s12_69, s12_72, s12_75, s12_78, s12_79, s12_82, s12_83, s12_84, s12_87, s12_88, s12_90, s12_93, s12_94, s12_97, s12_98, s12_99, s12_102, s12_103, s12_105, s12_108, s12_109, s12_112, s12_113, s12_114, s12_117, s12_118, s12_120, s12_123, s12_124, s12_127, s12_128, s12_129, s12_132, s12_133, s12_135, s12_138, s12_139, s12_140, s12_143, s12_146, s12_147, s12_148, s12_151, s12_154, s12_155, s12_156, s12_159, s12_162, s12_163, s12_164, s12_167, s12_170, s12_171, s12_172, s12_175, s12_178, s12_179, s12_180, s12_183, s12_186, s12_187, s12_188, s12_191, s12_194, s12_195, s12_196, s12_199, s12_202, s12_203, s12_204, s12_207, s12_210, ↓reduceIte, psh_some, psh_none, cln_i, cln_r, cln_n, cln_l, cln_d, cln_f, Option.bind_some, Option.bind_none, if_true, if_false, nI_add, pk_mul, nbo_0, nbo_1, nI_leI, nI_ltI, nI_eq, Nat.reduceAdd, Nat.reduceMul, Nat.add_zero, Nat.mul_zero, up_at, up_up, up_vI, vI_at, hmod, pk, h9, gs_4 hb hR, gs_4 hd hR, gs_5 hb hR, gs_5 hd hR, gs_6 hb hR, gs_6 hd hR, gs_7 hb hR, gs_7 hd hR, c4, c5, c6, c7, gs_8 hb, gs_9 hb, gs_10 hb, gs_11 hb, gs_12 hb, gs_13 hb, gs_14 hb, gs_15 hb, gs_16 hb, ps_8 hd, ps_9 hd, ps_10 hd, ps_11 hd, ps_12 hd, ps_13 hd, ps_14 hd, ps_15 hd, ps_16 hd, hmp, hm1]
  refine congrArg (fun z => some (none, 202, up I d (vI z), R)) ?_
  funext k
  exact mx_cov fun h1 => mx_cov fun h2 => mx_cov fun h3 => mx_cov fun h4 => mx_cov fun h5 => mx_cov fun h6 => mx_cov fun h7 => mx_cov fun h8 => mx_cov fun h9 => mx_cov fun h10 => mx_cov fun h11 => mx_cov fun h12 => mx_cov fun h13 => mx_cov fun h14 => mx_cov fun h15 => mx_cov fun h16 => mx_cov fun h17 => mx_cov fun h18 => mx_cov fun h19 => mx_cov fun h20 => mx_cov fun h21 => mx_cov fun h22 => by
    rw [hz k (by omega), hW.zz k (by omega)]
end CP
