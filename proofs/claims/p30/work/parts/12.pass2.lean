/-! ===== the class passes on ===== -/
theorem b2_ifn {α : Type} {P : Prop} [Decidable P] (x y : α) : (if b2 P = nI 0 then x else y) = if P then y else x := b2_if x y
theorem nI_m1 (n : Nat) : nI (n + 1) + -1 = nI n := by
  rw [← nI_add, Int32.add_assoc, show nI 1 + -1 = 0 by decide, Int32.add_zero]
section S5
variable {I : Nat → Nat → Int32} {R : Nat → Nat → Option Nat} {b : Nat} {a : Nat → Nat}
theorem hand_none {f t n : Nat} (h : picks a f t = none) : hand f t n a = a ∧ idle f t n a = n := by
  cases n with
  | zero => exact ⟨rfl, rfl⟩
  | succ n =>
    unfold hand idle
    rw [h]
    exact ⟨rfl, rfl⟩
theorem hand_some {f t n x : Nat} (h : picks a f t = some x) : hand f t (n + 1) a = hand f t n (lift a f t x) ∧ idle f t (n + 1) a = idle f t n (lift a f t x) := by
  constructor
  · show (match picks a f t with | some x => hand f t n (lift a f t x) | none => a) = _
    rw [h]
  · show (match picks a f t with | some x => idle f t n (lift a f t x) | none => n + 1) = _
    rw [h]
theorem p32b {f t : Nat} (hb : b < 13) (hR : RS R) (hf : f < 6) (ht : t < 6) (hn : f ≠ t) {q : Int32} {l6 : Option Value} : ∀ n (s : Nat → Nat), n < 2 ^ 20 → WO s → (∀ j, j < s 13 → ¬ needs s f t j) → EE 32 100 [some (.ref (16 * b)), some (.ref (16 * b + (5 + f))), some (.ref (16 * b + (5 + t))), some (.int q), some (.int (nI n)), some (.int (oN (-6) (wd s f t).1)), l6] [] (202, up I b (vI s), R) = some (some (.int (nI (idle f t n s))), 202, up I b (vI (hand f t n s)), R) := by
  intro n
  have ho := os hb
  induction n with
  | zero =>
    intro s _ _ _
    rw [s32_100]
    simp (disch := first | omega | (show List.length _ ≤ 4; exact Nat.le_of_ble_eq_true rfl) | assumption | exact nbo_0 | exact nbo_1 | exact b2_b) only [s32_0, s32_1, s32_3, s32_4, s32_6, s32_8, s32_9, s32_12, s32_15, s32_16, s32_19, s32_21, s32_22, s32_24, s32_26, s32_29, s32_30, s32_32, s32_35, s32_38, s32_39, s32_41, s32_42, s32_43, s32_46, s32_47, s32_48, s32_49, s32_51, s32_52, s32_55, s32_58, s32_59, s32_61, s32_62, s32_64, s32_65, s32_66, s32_68, s32_69, s32_70, s32_73, s32_74, s32_75, s32_76, s32_79, s32_80, s32_83, s32_86, s32_89, s32_92, s32_93, s32_94, s32_95, s32_98, s32_102, s32_105, s32_107, s32_110, s32_111, s32_113, s32_114, s32_116, s32_117, s32_118, s32_120, s32_121, s32_122, s32_125, s32_126, s32_127, s32_128, s32_131, s32_132, s32_135, s32_136, s32_137, s32_138, s32_141, s32_143, s32_146, s32_148, ↓reduceIte, psh_some, psh_none, cln_i, cln_r, cln_n, cln_l, cln_d, cln_f, Option.bind_some, Option.bind_none, if_true, if_false, nI_add, pk_mul, nbo_0, nbo_1, nI_leI, nI_ltI, nI_eq, Nat.reduceAdd, Nat.reduceMul, Nat.add_zero, Nat.mul_zero, Nat.le_refl, ← nI_0]
    rfl
  | succ n ih =>
    intro s hn2 hW h4
    have hp := picks_wd h4
    cases e : (wd s f t).1 with
    | none =>
      rw [e] at hp
      rw [(hand_none hp).1, (hand_none hp).2, s32_100]
      have h0 : oN (-6) none = -6 := rfl
      have h1 : (-6 : Int32) < nI 0 := by decide
      have h2 : ¬ n + 1 ≤ 0 := by omega
      simp (disch := first | omega | (show List.length _ ≤ 4; exact Nat.le_of_ble_eq_true rfl) | assumption | exact nbo_0 | exact nbo_1 | exact b2_b) only [s32_0, s32_1, s32_3, s32_4, s32_6, s32_8, s32_9, s32_12, s32_15, s32_16, s32_19, s32_21, s32_22, s32_24, s32_26, s32_29, s32_30, s32_32, s32_35, s32_38, s32_39, s32_41, s32_42, s32_43, s32_46, s32_47, s32_48, s32_49, s32_51, s32_52, s32_55, s32_58, s32_59, s32_61, s32_62, s32_64, s32_65, s32_66, s32_68, s32_69, s32_70, s32_73, s32_74, s32_75, s32_76, s32_79, s32_80, s32_83, s32_86, s32_89, s32_92, s32_93, s32_94, s32_95, s32_98, s32_102, s32_105, s32_107, s32_110, s32_111, s32_113, s32_114, s32_116, s32_117, s32_118, s32_120, s32_121, s32_122, s32_125, s32_126, s32_127, s32_128, s32_131, s32_132, s32_135, s32_136, s32_137, s32_138, s32_141, s32_143, s32_146, s32_148, ↓reduceIte, psh_some, psh_none, cln_i, cln_r, cln_n, cln_l, cln_d, cln_f, Option.bind_some, Option.bind_none, if_true, if_false, nI_add, pk_mul, nbo_0, nbo_1, nI_leI, nI_ltI, nI_eq, Nat.reduceAdd, Nat.reduceMul, Nat.add_zero, Nat.mul_zero, h0, h1, h2, ← nI_0]
    | some x =>
      rw [e] at hp
      obtain ⟨x1, x2, x3⟩ := (wd_some hW hf ht).2 x e
      have hT := hW.tp
      have hk := lift_ok hW hf ht x1
      have h0 : oN (-6) (some x) = nI x := rfl
      have h1 : ¬ x < 0 := by omega
      have h2 : ¬ n + 1 ≤ 0 := by omega
      have l1 := hW.lv f x hf (by omega)
      have l2 := hW.lv t x ht (by omega)
      have hs := hW.ps
      have hc := cs_5 (k := x) hb ht (by omega)
      have hlf : up s (58 + 10 * t + x) (min (s (58 + 10 * f + x)) (s (58 + 10 * t + x) + s 3)) = lift s f t x := rfl
      rw [(hand_some hp).1, (hand_some hp).2, s32_100]
      rw [← ih (lift s f t x) (by omega) hk.1 (fun j hj => needs_lift hW hf ht hn x1 x3 (by rw [hk.2 13 (by omega)] at hj; exact hj) (h4 j (by rw [hk.2 13 (by omega)] at hj; exact hj)))]
      simp (disch := first | omega | (show List.length _ ≤ 4; exact Nat.le_of_ble_eq_true rfl) | assumption | exact nbo_0 | exact nbo_1 | exact b2_b) only [s32_0, s32_1, s32_3, s32_4, s32_6, s32_8, s32_9, s32_12, s32_15, s32_16, s32_19, s32_21, s32_22, s32_24, s32_26, s32_29, s32_30, s32_32, s32_35, s32_38, s32_39, s32_41, s32_42, s32_43, s32_46, s32_47, s32_48, s32_49, s32_51, s32_52, s32_55, s32_58, s32_59, s32_61, s32_62, s32_64, s32_65, s32_66, s32_68, s32_69, s32_70, s32_73, s32_74, s32_75, s32_76, s32_79, s32_80, s32_83, s32_86, s32_89, s32_92, s32_93, s32_94, s32_95, s32_98, s32_102, s32_105, s32_107, s32_110, s32_111, s32_113, s32_114, s32_116, s32_117, s32_118, s32_120, s32_121, s32_122, s32_125, s32_126, s32_127, s32_128, s32_131, s32_132, s32_135, s32_136, s32_137, s32_138, s32_141, s32_143, s32_146, s32_148, ↓reduceIte, psh_some, psh_none, cln_i, cln_r, cln_n, cln_l, cln_d, cln_f, Option.bind_some, Option.bind_none, if_true, if_false, nI_add, pk_mul, nbo_0, nbo_1, nI_leI, nI_ltI, nI_eq, Nat.reduceAdd, Nat.reduceMul, Nat.add_zero, Nat.mul_zero, up_at, up_up, up_vI, vI_at, h0, h1, h2, ← nI_0, gs_0 hb hR, as_5 hb hf, as_5 hb ht, as_1 hb, ws_5 hb ht, f151, hlf, f33 hb hR (up_at I b (vI (lift s f t x))) hk.1 hf ht, nI_m1]
theorem p32a {f t : Nat} (hb : b < 13) (hR : RS R) (hf : f < 6) (ht : t < 6) (hn : f ≠ t) {q : Int32} : ∀ m n p (s : Nat → Nat) (l6 : Option Value), n + (s 13 - p) = m → n < 2 ^ 20 → p ≤ s 13 → WO s → (n = 0 ∨ ∀ j, j < p → ¬ needs s f t j) → EE 32 6 [some (.ref (16 * b)), some (.ref (16 * b + (5 + f))), some (.ref (16 * b + (5 + t))), some (.int q), some (.int (nI n)), some (.int (nI p)), l6] [] (202, up I b (vI s), R) = some (some (.int (nI (idle f t n s))), 202, up I b (vI (hand f t n s)), R) := by
  intro m
  have ho := os hb
  induction m using Nat.strongRecOn with
  | ind m ih =>
    intro n p s l6 hm hn2 hp hW h4
    have hT := hW.tp
    have hL := hW.li
    by_cases e : s 13 ≤ p
    · have hpe : p = s 13 := by omega
      subst hpe
      rw [s32_6]
      have h9 := f33 hb hR (up_at I b (vI s)) hW hf ht
      have e0 : s 13 ≤ s 13 := Nat.le_refl _
      simp (disch := first | omega | (show List.length _ ≤ 4; exact Nat.le_of_ble_eq_true rfl) | assumption | exact nbo_0 | exact nbo_1 | exact b2_b) only [s32_0, s32_1, s32_3, s32_4, s32_8, s32_9, s32_12, s32_15, s32_16, s32_19, s32_21, s32_22, s32_24, s32_26, s32_29, s32_30, s32_32, s32_35, s32_38, s32_39, s32_41, s32_42, s32_43, s32_46, s32_47, s32_48, s32_49, s32_51, s32_52, s32_55, s32_58, s32_59, s32_61, s32_62, s32_64, s32_65, s32_66, s32_68, s32_69, s32_70, s32_73, s32_74, s32_75, s32_76, s32_79, s32_80, s32_83, s32_86, s32_89, s32_92, s32_93, s32_94, s32_95, s32_98, s32_102, s32_105, s32_107, s32_110, s32_111, s32_113, s32_114, s32_116, s32_117, s32_118, s32_120, s32_121, s32_122, s32_125, s32_126, s32_127, s32_128, s32_131, s32_132, s32_135, s32_136, s32_137, s32_138, s32_141, s32_143, s32_146, s32_148, ↓reduceIte, psh_some, psh_none, cln_i, cln_r, cln_n, cln_l, cln_d, cln_f, Option.bind_some, Option.bind_none, if_true, if_false, nI_add, pk_mul, nbo_0, nbo_1, nI_leI, nI_ltI, nI_eq, Nat.reduceAdd, Nat.reduceMul, Nat.add_zero, Nat.mul_zero, up_at, up_up, up_vI, vI_at, gs_10 hb, e0, h9]
      rcases h4 with h4 | h4
      · subst h4
        rw [s32_100]
        simp (disch := first | omega | (show List.length _ ≤ 4; exact Nat.le_of_ble_eq_true rfl) | assumption | exact nbo_0 | exact nbo_1 | exact b2_b) only [s32_0, s32_1, s32_3, s32_4, s32_6, s32_8, s32_9, s32_12, s32_15, s32_16, s32_19, s32_21, s32_22, s32_24, s32_26, s32_29, s32_30, s32_32, s32_35, s32_38, s32_39, s32_41, s32_42, s32_43, s32_46, s32_47, s32_48, s32_49, s32_51, s32_52, s32_55, s32_58, s32_59, s32_61, s32_62, s32_64, s32_65, s32_66, s32_68, s32_69, s32_70, s32_73, s32_74, s32_75, s32_76, s32_79, s32_80, s32_83, s32_86, s32_89, s32_92, s32_93, s32_94, s32_95, s32_98, s32_102, s32_105, s32_107, s32_110, s32_111, s32_113, s32_114, s32_116, s32_117, s32_118, s32_120, s32_121, s32_122, s32_125, s32_126, s32_127, s32_128, s32_131, s32_132, s32_135, s32_136, s32_137, s32_138, s32_141, s32_143, s32_146, s32_148, ↓reduceIte, psh_some, psh_none, cln_i, cln_r, cln_n, cln_l, cln_d, cln_f, Option.bind_some, Option.bind_none, if_true, if_false, nI_add, pk_mul, nbo_0, nbo_1, nI_leI, nI_ltI, nI_eq, Nat.reduceAdd, Nat.reduceMul, Nat.add_zero, Nat.mul_zero, Nat.le_refl, ← nI_0]
        rfl
      · exact p32b hb hR hf ht hn n s hn2 hW h4
    · have hx := hW.le p (by omega)
      have l1 := hW.lv f (s (48 + p)) hf (by omega)
      have l2 := hW.lv t (s (48 + p)) ht (by omega)
      have hs := hW.ps
      have hkn := hW.kn
      have hc := cs_5 (k := s (48 + p)) hb ht (by omega)
      have f19s := f19 (R := R) (t := s (48 + p)) hb (up_at I b (vI s)) hW (by omega)
      by_cases e2 : 0 < n ∧ needs s f t p
      · obtain ⟨e3, e4⟩ := e2
        obtain ⟨n', rfl⟩ : ∃ n', n = n' + 1 := ⟨n - 1, by omega⟩
        have h4' : ∀ j, j < p → ¬ needs s f t j := by rcases h4 with h4 | h4; omega; exact h4
        have hk := lift_ok hW hf ht hx
        have h13 : lift s f t (s (48 + p)) 13 = s 13 := hk.2 13 (by omega)
        have h48 : lift s f t (s (48 + p)) (48 + p) = s (48 + p) := hk.2 _ (by omega)
        have i1 := ih (n' + (s 13 - p)) (by omega) n' p (lift s f t (s (48 + p))) l6 (by rw [h13]) (by omega) (by rw [h13]; omega) hk.1 (Or.inr (fun j hj => needs_lift hW hf ht hn hx e4.2.2 (by omega) (h4' j hj)))
        have hpk := picks_at (by omega) h4' e4
        rw [(hand_some hpk).1, (hand_some hpk).2, ← i1, s32_6, s32_6]
        have hlf : up s (58 + 10 * t + s (48 + p)) (min (s (58 + 10 * f + s (48 + p))) (s (58 + 10 * t + s (48 + p)) + s 3)) = lift s f t (s (48 + p)) := rfl
        have h1 : ¬ n' + 1 ≤ 0 := by omega
        have h2 := e4.1
        have h3 : ¬ min (s 2) (s (58 + 10 * f + s (48 + p))) ≤ s (58 + 10 * t + s (48 + p)) := by have := e4.2; omega
        simp (disch := first | omega | (show List.length _ ≤ 4; exact Nat.le_of_ble_eq_true rfl) | assumption | exact nbo_0 | exact nbo_1 | exact b2_b) only [s32_0, s32_1, s32_3, s32_4, s32_6, s32_8, s32_9, s32_12, s32_15, s32_16, s32_19, s32_21, s32_22, s32_26, s32_29, s32_30, s32_32, s32_35, s32_38, s32_39, s32_41, s32_42, s32_43, s32_46, s32_47, s32_48, s32_49, s32_51, s32_52, s32_55, s32_58, s32_59, s32_61, s32_62, s32_64, s32_65, s32_66, s32_68, s32_69, s32_70, s32_73, s32_74, s32_75, s32_76, s32_79, s32_80, s32_83, s32_86, s32_89, s32_92, s32_93, s32_94, s32_95, s32_98, s32_100, s32_102, s32_105, s32_107, s32_110, s32_111, s32_113, s32_114, s32_116, s32_117, s32_118, s32_120, s32_121, s32_122, s32_125, s32_126, s32_127, s32_128, s32_131, s32_132, s32_135, s32_136, s32_137, s32_138, s32_141, s32_143, s32_146, s32_148, ↓reduceIte, psh_some, psh_none, cln_i, cln_r, cln_n, cln_l, cln_d, cln_f, Option.bind_some, Option.bind_none, if_true, if_false, nI_add, pk_mul, nbo_0, nbo_1, nI_leI, nI_ltI, nI_eq, Nat.reduceAdd, Nat.reduceMul, Nat.add_zero, Nat.mul_zero, up_at, up_up, up_vI, vI_at, gs_10 hb, gs_4 hb hR, as_11 hb, e, h13, h48]
        conv => lhs; rw [s32_24]
        simp (disch := first | omega | (show List.length _ ≤ 4; exact Nat.le_of_ble_eq_true rfl) | assumption | exact nbo_0 | exact nbo_1 | exact b2_b) only [s32_0, s32_1, s32_3, s32_4, s32_6, s32_8, s32_9, s32_12, s32_15, s32_16, s32_19, s32_21, s32_22, s32_26, s32_29, s32_30, s32_32, s32_35, s32_38, s32_39, s32_41, s32_42, s32_43, s32_46, s32_47, s32_48, s32_49, s32_51, s32_52, s32_55, s32_58, s32_59, s32_61, s32_62, s32_64, s32_65, s32_66, s32_68, s32_69, s32_70, s32_73, s32_74, s32_75, s32_76, s32_79, s32_80, s32_83, s32_86, s32_89, s32_92, s32_93, s32_94, s32_95, s32_98, s32_100, s32_102, s32_105, s32_107, s32_110, s32_111, s32_113, s32_114, s32_116, s32_117, s32_118, s32_120, s32_121, s32_122, s32_125, s32_126, s32_127, s32_128, s32_131, s32_132, s32_135, s32_136, s32_137, s32_138, s32_141, s32_143, s32_146, s32_148, ↓reduceIte, psh_some, psh_none, cln_i, cln_r, cln_n, cln_l, cln_d, cln_f, Option.bind_some, Option.bind_none, if_true, if_false, nI_add, pk_mul, nbo_0, nbo_1, nI_leI, nI_ltI, nI_eq, Nat.reduceAdd, Nat.reduceMul, Nat.add_zero, Nat.mul_zero, up_at, up_up, up_vI, vI_at, gs_0 hb hR, as_5 hb hf, as_5 hb ht, as_1 hb, ws_5 hb ht, f151, f19s, b2_if, b2_ifn, hlf, nI_m1, ← nI_0, h1, h2, h3]
      · have i1 := ih (n + (s 13 - (p + 1))) (by omega) n (p + 1) s (some (.int (nI (s (48 + p))))) rfl hn2 (by omega) hW (by
          by_cases e3 : n = 0
          · exact Or.inl e3
          · refine Or.inr (fun j hj => ?_)
            rcases h4 with h4 | h4
            · omega
            · by_cases e5 : j = p
              · subst e5
                exact fun h => e2 ⟨by omega, h⟩
              · exact h4 j (by omega))
        rw [← i1, s32_6]
        by_cases e3 : n ≤ 0
        · simp (disch := first | omega | (show List.length _ ≤ 4; exact Nat.le_of_ble_eq_true rfl) | assumption | exact nbo_0 | exact nbo_1 | exact b2_b) only [s32_0, s32_1, s32_3, s32_4, s32_8, s32_9, s32_12, s32_15, s32_16, s32_19, s32_21, s32_22, s32_24, s32_26, s32_29, s32_30, s32_32, s32_35, s32_38, s32_39, s32_41, s32_42, s32_43, s32_46, s32_47, s32_48, s32_49, s32_51, s32_52, s32_55, s32_58, s32_59, s32_61, s32_62, s32_64, s32_65, s32_66, s32_68, s32_69, s32_70, s32_73, s32_74, s32_75, s32_76, s32_79, s32_80, s32_83, s32_86, s32_89, s32_92, s32_93, s32_94, s32_95, s32_98, s32_100, s32_102, s32_105, s32_107, s32_110, s32_111, s32_113, s32_114, s32_116, s32_117, s32_118, s32_120, s32_121, s32_122, s32_125, s32_126, s32_127, s32_128, s32_131, s32_132, s32_135, s32_136, s32_137, s32_138, s32_141, s32_143, s32_146, s32_148, ↓reduceIte, psh_some, psh_none, cln_i, cln_r, cln_n, cln_l, cln_d, cln_f, Option.bind_some, Option.bind_none, if_true, if_false, nI_add, pk_mul, nbo_0, nbo_1, nI_leI, nI_ltI, nI_eq, Nat.reduceAdd, Nat.reduceMul, Nat.add_zero, Nat.mul_zero, up_at, up_up, up_vI, vI_at, gs_10 hb, gs_4 hb hR, as_11 hb, e, e3, ← nI_0]
        · by_cases e4 : s (38 + s (48 + p)) = 1
          · have h3 : min (s 2) (s (58 + 10 * f + s (48 + p))) ≤ s (58 + 10 * t + s (48 + p)) := by
              by_cases e5 : min (s 2) (s (58 + 10 * f + s (48 + p))) ≤ s (58 + 10 * t + s (48 + p))
              · exact e5
              · exact absurd ⟨by omega, e4, by omega, by omega⟩ e2
            simp (disch := first | omega | (show List.length _ ≤ 4; exact Nat.le_of_ble_eq_true rfl) | assumption | exact nbo_0 | exact nbo_1 | exact b2_b) only [s32_0, s32_1, s32_3, s32_4, s32_8, s32_9, s32_12, s32_15, s32_16, s32_19, s32_21, s32_22, s32_24, s32_26, s32_29, s32_30, s32_32, s32_35, s32_38, s32_39, s32_41, s32_42, s32_43, s32_46, s32_47, s32_48, s32_49, s32_51, s32_52, s32_55, s32_58, s32_59, s32_61, s32_62, s32_64, s32_65, s32_66, s32_68, s32_69, s32_70, s32_73, s32_74, s32_75, s32_76, s32_79, s32_80, s32_83, s32_86, s32_89, s32_92, s32_93, s32_94, s32_95, s32_98, s32_100, s32_102, s32_105, s32_107, s32_110, s32_111, s32_113, s32_114, s32_116, s32_117, s32_118, s32_120, s32_121, s32_122, s32_125, s32_126, s32_127, s32_128, s32_131, s32_132, s32_135, s32_136, s32_137, s32_138, s32_141, s32_143, s32_146, s32_148, ↓reduceIte, psh_some, psh_none, cln_i, cln_r, cln_n, cln_l, cln_d, cln_f, Option.bind_some, Option.bind_none, if_true, if_false, nI_add, pk_mul, nbo_0, nbo_1, nI_leI, nI_ltI, nI_eq, Nat.reduceAdd, Nat.reduceMul, Nat.add_zero, Nat.mul_zero, up_at, up_up, up_vI, vI_at, gs_10 hb, gs_4 hb hR, gs_0 hb hR, as_5 hb hf, as_5 hb ht, as_1 hb, as_11 hb, f151, e, e3, e4, f19s, b2_if, b2_ifn, h3, ← nI_0]
          · simp (disch := first | omega | (show List.length _ ≤ 4; exact Nat.le_of_ble_eq_true rfl) | assumption | exact nbo_0 | exact nbo_1 | exact b2_b) only [s32_0, s32_1, s32_3, s32_4, s32_8, s32_9, s32_12, s32_15, s32_16, s32_19, s32_21, s32_22, s32_24, s32_26, s32_29, s32_30, s32_32, s32_35, s32_38, s32_39, s32_41, s32_42, s32_43, s32_46, s32_47, s32_48, s32_49, s32_51, s32_52, s32_55, s32_58, s32_59, s32_61, s32_62, s32_64, s32_65, s32_66, s32_68, s32_69, s32_70, s32_73, s32_74, s32_75, s32_76, s32_79, s32_80, s32_83, s32_86, s32_89, s32_92, s32_93, s32_94, s32_95, s32_98, s32_100, s32_102, s32_105, s32_107, s32_110, s32_111, s32_113, s32_114, s32_116, s32_117, s32_118, s32_120, s32_121, s32_122, s32_125, s32_126, s32_127, s32_128, s32_131, s32_132, s32_135, s32_136, s32_137, s32_138, s32_141, s32_143, s32_146, s32_148, ↓reduceIte, psh_some, psh_none, cln_i, cln_r, cln_n, cln_l, cln_d, cln_f, Option.bind_some, Option.bind_none, if_true, if_false, nI_add, pk_mul, nbo_0, nbo_1, nI_leI, nI_ltI, nI_eq, Nat.reduceAdd, Nat.reduceMul, Nat.add_zero, Nat.mul_zero, up_at, up_up, up_vI, vI_at, gs_10 hb, gs_4 hb hR, as_11 hb, e, e3, e4, f19s, b2_if, b2_ifn, ← nI_0]
theorem f32 {f t n : Nat} (hb : b < 13) (hR : RS R) (hI : I b = vI a) (hW : WO a) (hf : f < 6) (ht : t < 6) (hn : f ≠ t) (hn2 : n < 2 ^ 20) : FF 32 [.ref (16 * b), .ref (16 * b + (5 + f)), .ref (16 * b + (5 + t)), .int (nI n)] (202, I, R) = some (some (.int (nI (idle f t n a))), 202, up I b (vI (hand f t n a)), R) := by
  have h := p32a (I := I) (R := R) hb hR hf ht hn (q := nI n) (n + (a 13 - 0)) n 0 a none rfl hn2 (Nat.zero_le _) hW (Or.inr (fun j hj => by omega))
  rw [up_eq hI] at h
  rw [← h]
  simp (disch := first | omega | (show List.length _ ≤ 4; exact Nat.le_of_ble_eq_true rfl) | assumption | exact nbo_0 | exact nbo_1 | exact b2_b) only [FE32, s32_0, s32_1, s32_3, s32_4, ↓reduceIte, psh_some, psh_none, cln_i, cln_r, cln_n, cln_l, cln_d, cln_f, Option.bind_some, Option.bind_none, if_true, if_false, nI_add, pk_mul, nbo_0, nbo_1, nI_leI, nI_ltI, nI_eq, Nat.reduceAdd, Nat.reduceMul, Nat.add_zero, Nat.mul_zero]
end S5
