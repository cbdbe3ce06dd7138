/-! ===== the model ends a shift, 2 ===== -/
section PG
variable {a : Nat → Nat}
theorem dc_short {w : Nat} (hw : w < 6) {s : Nat → Nat} (h : WO s) : fd (dcF w) 10 0 s = fd (dcF w) (s 1) 0 s := by
  have hT := h.tp
  rw [show (10 : Nat) = s 1 + (10 - s 1) by omega, fd_app, Nat.zero_add]
  have hP : WO (fd (dcF w) (s 1) 0 s) ∧ (fd (dcF w) (s 1) 0 s) 1 = s 1 := by
    refine fd_inv (P := fun s' => WO s' ∧ s' 1 = s 1) (n := s 1) ?_ (s 1) 0 s (by omega) ⟨h, rfl⟩
    intro i s' hi ⟨h1, h2⟩
    have hk := dcF_ok (w := w) (i := i) hw h1 (by omega)
    exact ⟨hk.1, by rw [hk.2 1 (by omega)]; exact h2⟩
  have key : ∀ d i (u : Nat → Nat), s 1 ≤ i → i + d ≤ 10 → WO u → u 1 = s 1 → fd (dcF w) d i u = u := by
    intro d
    induction d with
    | zero => intros; rfl
    | succ d ih =>
      intro i u h1 h2 h3 h4
      have e : dcF w i u = u := by
        unfold dcF
        rw [h3.lz w i hw (by omega) (by omega), Nat.zero_sub, ← h3.lz w i hw (by omega) (by omega), up_self]
      show fd (dcF w) d (i + 1) (dcF w i u) = u
      rw [e]
      exact ih (i + 1) u (by omega) (by omega) h3 h4
  exact key _ _ _ (Nat.le_refl _) (by omega) hP.1 hP.2
theorem ms_eq {w k q x : Nat} {u s : Nat → Nat} (hw : w < 6) (hk : k < 10) (hx : x = s (48 + k)) (hx2 : x < 10) (ha : ∀ j, j < 128 → u j = s j) : msF w k (u, q) = if s (38 + x) = 1 ∧ s (58 + 10 * w + x) < s 2 then (up u (118 + x) (s (118 + x) + 1), q + 1) else (u, q) := by
  have e0 : u (48 + k) = x := by rw [ha (48 + k) (by omega), hx]
  unfold msF
  simp only [e0, ha (38 + x) (by omega), ha (58 + 10 * w + x) (by omega), ha 2 (by omega), ha (118 + x) (by omega)]
theorem bg_eq {w i : Nat} {u s : Nat → Nat} (hw : w < 6) (hi : i < 10) (ha : ∀ j, ¬ (118 ≤ j ∧ j < 128) → u j = s j) : bgF w i u = if s (38 + i) = 1 then (if s 2 ≤ s (58 + 10 * w + i) then up (up u (128 + i) (s (128 + i) + 1)) (138 + i) (s (138 + i) + 1) else up u (128 + i) (s (128 + i) + 1)) else u := by
  unfold bgF
  rw [ha (38 + i) (by omega), ha 2 (by omega), ha (58 + 10 * w + i) (by omega), ha (128 + i) (by omega), ha (138 + i) (by omega)]
theorem msbg1 {w i k q : Nat} {s : Nat → Nat} (h : WO s) (hw : w < 6) (hi : i < 10) (hk : k < s 13) : msF w k (bgF w i s, q) = (bgF w i (msF w k (s, q)).1, (msF w k (s, q)).2) := by
  have hx := h.le k hk
  have hT := h.tp
  have hL := h.li
  have b1 := (bgF_ok (w := w) h hi).2
  have m1 := (msF_ok (w := w) (i := k) (p := (s, q)) h hk).2
  rw [bg_eq hw hi (u := (msF w k (s, q)).1) (s := s) (fun j hj => m1 j hj), ms_eq (u := bgF w i s) (s := s) hw (by omega) rfl (by omega) (fun j hj => b1 j (by omega)), ms_eq (u := s) (s := s) hw (by omega) rfl (by omega) (fun j _ => rfl), bg_eq (u := s) (s := s) hw hi (fun j _ => rfl)]
  by_cases e : s (38 + s (48 + k)) = 1 ∧ s (58 + 10 * w + s (48 + k)) < s 2
  · rw [if_pos e, if_pos e]
    dsimp only
    congr 1
    by_cases e2 : s (38 + i) = 1
    · rw [if_pos e2, if_pos e2]
      by_cases e3 : s 2 ≤ s (58 + 10 * w + i)
      · rw [if_pos e3, if_pos e3, up_comm (v := 138 + i) (by omega), up_comm (v := 128 + i) (by omega)]
      · rw [if_neg e3, if_neg e3, up_comm (by omega)]
    · rw [if_neg e2, if_neg e2]
  · rw [if_neg e, if_neg e]
theorem msbg2 {w k q : Nat} (hw : w < 6) : ∀ d i (s : Nat → Nat), WO s → i + d ≤ 10 → k < s 13 → msF w k (fd (bgF w) d i s, q) = (fd (bgF w) d i (msF w k (s, q)).1, (msF w k (s, q)).2)
  | 0, i, s, _, _, _ => rfl
  | d + 1, i, s, h, hi, hk => by
    have b1 := bgF_ok (w := w) (i := i) h (by omega)
    show msF w k (fd (bgF w) d (i + 1) (bgF w i s), q) = (fd (bgF w) d (i + 1) (bgF w i (msF w k (s, q)).1), (msF w k (s, q)).2)
    rw [msbg2 hw d (i + 1) (bgF w i s) b1.1 (by omega) (by rw [b1.2 13 (by omega)]; exact hk), msbg1 h hw (by omega) hk]
theorem msbg {w n : Nat} (hw : w < 6) (hn : n ≤ 10) : ∀ d k q (s : Nat → Nat), WO s → k + d ≤ s 13 → fd (msF w) d k (fd (bgF w) n 0 s, q) = (fd (bgF w) n 0 (fd (msF w) d k (s, q)).1, (fd (msF w) d k (s, q)).2)
  | 0, k, q, s, _, _ => rfl
  | d + 1, k, q, s, h, hk => by
    have m1 := msF_ok (w := w) (i := k) (p := (s, q)) h (by show k < s 13; omega)
    show fd (msF w) d (k + 1) (msF w k (fd (bgF w) n 0 s, q)) = _
    rw [msbg2 hw n 0 s h (by omega) (by omega)]
    exact msbg hw hn d (k + 1) (msF w k (s, q)).2 (msF w k (s, q)).1 m1.1 (by rw [m1.2 13 (by omega)]; show k + 1 + d ≤ s 13; omega)
end PG
section M3
variable {M : Mm} {I : Nat → Nat → Int32} {R : Nat → Nat → Option Nat} {v : Nat} {a : Nat → Nat}
theorem f119 {t : Nat} (hv : v = 225 ∨ v = 226) (hI : I v = vI a) (hW : WO a) (ht : t < 6) : FF 119 [.ref v, .int (nI t)] (210, I, R) = some (none, 210, up I v (vI (dcA t a)), R) := by
  have hw : ∀ {J : Nat → Nat → Int32} {k : Nat} {z : Int32}, k < 148 → wI J v (nI k).toNatClampNeg z = up J v (up (J v) k z) := fun {J k z} h => wm_n hv (by omega)
  have main : ∀ d w (s : Nat → Nat) (l3 : Option Value), w + d = 6 → WO s → EE 119 2 [some (.ref v), some (.int (nI t)), some (.int (nI w)), l3] [] (210, up I v (vI s), R) = some (none, 210, up I v (vI (fd (fun w s => if w = t then s else fd (dcF w) 10 0 s) d w s)), R) := by
    intro d
    induction d with
    | zero =>
      intro w s l3 h hs
      have hn : 6 ≤ w := by omega
      rw [s119_2]
      simp (disch := first | omega | (show List.length _ ≤ 4; exact Nat.le_of_ble_eq_true rfl) | assumption | exact nbo_0 | exact nbo_1 | exact b2_b) only [s119_0, s119_1, s119_3, s119_5, s119_8, s119_9, s119_11, s119_12, s119_13, s119_14, s119_17, s119_18, s119_19, s119_22, s119_23, s119_24, s119_25, s119_28, s119_29, s119_30, s119_31, s119_32, s119_33, s119_36, s119_37, s119_38, s119_39, s119_40, s119_41, s119_43, s119_44, s119_46, s119_47, s119_48, s119_49, s119_52, s119_55, s119_58, s119_61, ↓reduceIte, psh_some, psh_none, cln_i, cln_r, cln_n, cln_l, cln_d, cln_f, Option.bind_some, Option.bind_none, if_true, if_false, nI_add, pk_mul, nbo_0, nbo_1, nI_leI, nI_ltI, nI_eq, Nat.reduceAdd, Nat.reduceMul, Nat.add_zero, Nat.mul_zero, hn]
      rfl
    | succ d ih =>
      intro w s l3 h hs
      have hw6 : w < 6 := by omega
      have hn : ¬ 6 ≤ w := by omega
      have hT := hs.tp
      have h1 : EE 119 2 [some (.ref v), some (.int (nI t)), some (.int (nI w)), l3] [] (210, up I v (vI s), R) = EE 119 10 [some (.ref v), some (.int (nI t)), some (.int (nI w)), some (.int (nI 0))] [] (210, up I v (vI s), R) := by
        rw [s119_2]
        simp (disch := first | omega | (show List.length _ ≤ 4; exact Nat.le_of_ble_eq_true rfl) | assumption | exact nbo_0 | exact nbo_1 | exact b2_b) only [s119_0, s119_1, s119_3, s119_5, s119_8, s119_9, s119_11, s119_12, s119_13, s119_14, s119_17, s119_18, s119_19, s119_22, s119_23, s119_24, s119_25, s119_28, s119_29, s119_30, s119_31, s119_32, s119_33, s119_36, s119_37, s119_38, s119_39, s119_40, s119_41, s119_43, s119_44, s119_46, s119_47, s119_48, s119_49, s119_52, s119_55, s119_58, s119_61, ↓reduceIte, psh_some, psh_none, cln_i, cln_r, cln_n, cln_l, cln_d, cln_f, Option.bind_some, Option.bind_none, if_true, if_false, nI_add, pk_mul, nbo_0, nbo_1, nI_leI, nI_ltI, nI_eq, Nat.reduceAdd, Nat.reduceMul, Nat.add_zero, Nat.mul_zero, hn]
      rw [h1]
      show _ = some (none, 210, up I v (vI (fd (fun w s => if w = t then s else fd (dcF w) 10 0 s) d (w + 1) (if w = t then s else fd (dcF w) 10 0 s))), R)
      by_cases e : w = t
      · rw [if_pos e, s119_10, ← ih (w + 1) s (some (.int (nI 0))) (by omega) hs]
        by_cases e2 : s 1 ≤ 0
        · simp (disch := first | omega | (show List.length _ ≤ 4; exact Nat.le_of_ble_eq_true rfl) | assumption | exact nbo_0 | exact nbo_1 | exact b2_b) only [s119_0, s119_1, s119_3, s119_5, s119_8, s119_9, s119_11, s119_12, s119_13, s119_14, s119_17, s119_18, s119_19, s119_22, s119_23, s119_24, s119_25, s119_28, s119_29, s119_30, s119_31, s119_32, s119_33, s119_36, s119_37, s119_38, s119_39, s119_40, s119_41, s119_43, s119_44, s119_46, s119_47, s119_48, s119_49, s119_52, s119_55, s119_58, s119_61, ↓reduceIte, psh_some, psh_none, cln_i, cln_r, cln_n, cln_l, cln_d, cln_f, Option.bind_some, Option.bind_none, if_true, if_false, nI_add, pk_mul, nbo_0, nbo_1, nI_leI, nI_ltI, nI_eq, Nat.reduceAdd, Nat.reduceMul, Nat.add_zero, Nat.mul_zero, up_at, up_up, up_vI, vI_at, am_n hv, e2]
        · simp (disch := first | omega | (show List.length _ ≤ 4; exact Nat.le_of_ble_eq_true rfl) | assumption | exact nbo_0 | exact nbo_1 | exact b2_b) only [s119_0, s119_1, s119_3, s119_5, s119_8, s119_9, s119_11, s119_12, s119_13, s119_14, s119_17, s119_18, s119_19, s119_22, s119_23, s119_24, s119_25, s119_28, s119_29, s119_30, s119_31, s119_32, s119_33, s119_36, s119_37, s119_38, s119_39, s119_40, s119_41, s119_43, s119_44, s119_46, s119_47, s119_48, s119_49, s119_52, s119_55, s119_58, s119_61, ↓reduceIte, psh_some, psh_none, cln_i, cln_r, cln_n, cln_l, cln_d, cln_f, Option.bind_some, Option.bind_none, if_true, if_false, nI_add, pk_mul, nbo_0, nbo_1, nI_leI, nI_ltI, nI_eq, Nat.reduceAdd, Nat.reduceMul, Nat.add_zero, Nat.mul_zero, up_at, up_up, up_vI, vI_at, am_n hv, e2, e]
      · rw [if_neg e, dc_short hw6 hs]
        have lp := fd_loop (E := fun i s => EE 119 10 [some (.ref v), some (.int (nI t)), some (.int (nI w)), some (.int (nI i))] [] (210, up I v (vI s), R)) (f := dcF w) (Inv := fun i u => WO u ∧ u 1 = s 1) (s 1) (by
          intro i u hi ⟨g1, g2⟩
          have hk := dcF_ok (w := w) (i := i) hw6 g1 (by omega)
          refine ⟨?_, hk.1, by rw [hk.2 1 (by omega)]; exact g2⟩
          have gn : ¬ u 1 ≤ i := by omega
          have h5 := g1.dc
          have hl := g1.lv w i hw6 (by omega)
          have hm := Nat.mul_le_mul hl h5
          have hsu := nI_sub (dc_le hl h5)
          have hc := cm_n (k := 58 + 10 * w + i) hv (by omega)
          show EE 119 10 _ _ _ = EE 119 10 _ _ _
          rw [s119_10]
          unfold dcF
          simp (disch := first | omega | (show List.length _ ≤ 4; exact Nat.le_of_ble_eq_true rfl) | assumption | exact nbo_0 | exact nbo_1 | exact b2_b) only [s119_0, s119_1, s119_3, s119_5, s119_8, s119_9, s119_11, s119_12, s119_13, s119_14, s119_17, s119_18, s119_19, s119_22, s119_23, s119_24, s119_25, s119_28, s119_29, s119_30, s119_31, s119_32, s119_33, s119_36, s119_37, s119_38, s119_39, s119_40, s119_41, s119_43, s119_44, s119_46, s119_47, s119_48, s119_49, s119_52, s119_55, s119_58, s119_61, ↓reduceIte, psh_some, psh_none, cln_i, cln_r, cln_n, cln_l, cln_d, cln_f, Option.bind_some, Option.bind_none, if_true, if_false, nI_add, pk_mul, nbo_0, nbo_1, nI_leI, nI_ltI, nI_eq, Nat.reduceAdd, Nat.reduceMul, Nat.add_zero, Nat.mul_zero, up_at, up_up, up_vI, vI_at, am_n hv, f107, hw, hsu, gn, e]) (s 1) 0 s (by omega) ⟨hs, rfl⟩
        obtain ⟨p1, p2, p3⟩ := lp
        refine p1.trans ?_
        show EE 119 10 _ _ _ = _
        rw [s119_10, ← ih (w + 1) _ (some (.int (nI (s 1)))) (by omega) p2]
        have e3 : s 1 ≤ s 1 := Nat.le_refl _
        simp (disch := first | omega | (show List.length _ ≤ 4; exact Nat.le_of_ble_eq_true rfl) | assumption | exact nbo_0 | exact nbo_1 | exact b2_b) only [s119_0, s119_1, s119_3, s119_5, s119_8, s119_9, s119_11, s119_12, s119_13, s119_14, s119_17, s119_18, s119_19, s119_22, s119_23, s119_24, s119_25, s119_28, s119_29, s119_30, s119_31, s119_32, s119_33, s119_36, s119_37, s119_38, s119_39, s119_40, s119_41, s119_43, s119_44, s119_46, s119_47, s119_48, s119_49, s119_52, s119_55, s119_58, s119_61, ↓reduceIte, psh_some, psh_none, cln_i, cln_r, cln_n, cln_l, cln_d, cln_f, Option.bind_some, Option.bind_none, if_true, if_false, nI_add, pk_mul, nbo_0, nbo_1, nI_leI, nI_ltI, nI_eq, Nat.reduceAdd, Nat.reduceMul, Nat.add_zero, Nat.mul_zero, up_at, up_up, up_vI, vI_at, am_n hv, p3, e3]
  have h := main 6 0 a none (by omega) hW
  rw [up_eq hI] at h
  refine Eq.trans ?_ h
  simp (disch := first | omega | (show List.length _ ≤ 4; exact Nat.le_of_ble_eq_true rfl) | assumption | exact nbo_0 | exact nbo_1 | exact b2_b) only [FE119, s119_0, s119_1, ↓reduceIte, psh_some, psh_none, cln_i, cln_r, cln_n, cln_l, cln_d, cln_f, Option.bind_some, Option.bind_none, if_true, if_false, nI_add, pk_mul, nbo_0, nbo_1, nI_leI, nI_ltI, nI_eq, Nat.reduceAdd, Nat.reduceMul, Nat.add_zero, Nat.mul_zero]
end M3
