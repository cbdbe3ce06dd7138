/-! ===== the checklist ===== -/
theorem php : ∀ (m n : Nat) (f : Nat → Nat), (∀ k, k < n → f k < m) → (∀ i j, i < j → j < n → f i ≠ f j) → n ≤ m
  | 0, n, f, h, _ => by
    by_cases e : n = 0
    · omega
    · have := h 0 (by omega); omega
  | m + 1, n, f, h, hd => by
    by_cases e : ∃ i, i < n ∧ f i = m
    · obtain ⟨i, hi, hm⟩ := e
      obtain ⟨n', rfl⟩ : ∃ n', n = n' + 1 := ⟨n - 1, by omega⟩
      have hne : ∀ j, j < n' + 1 → j ≠ i → f j ≠ m := by
        intro j hj hji hc
        rcases Nat.lt_or_ge j i with h1 | h1
        · exact hd j i h1 hi (by rw [hc, hm])
        · exact hd i j (by omega) hj (by rw [hc, hm])
      have := php m n' (fun k => if k = i then f n' else f k) (by
        intro k hk
        show (if k = i then f n' else f k) < m
        by_cases e : k = i
        · rw [if_pos e]
          have h1 := h n' (by omega)
          have h2 := hne n' (by omega) (by omega)
          omega
        · rw [if_neg e]
          have h1 := h k (by omega)
          have h2 := hne k (by omega) e
          omega) (by
        intro j k hjk hk
        show (if j = i then f n' else f j) ≠ (if k = i then f n' else f k)
        by_cases e1 : j = i
        · rw [if_pos e1, if_neg (by omega)]
          exact fun h => hd k n' (by omega) (by omega) h.symm
        · rw [if_neg e1]
          by_cases e2 : k = i
          · rw [if_pos e2]
            exact hd j n' (by omega) (by omega)
          · rw [if_neg e2]
            exact hd j k hjk (by omega))
      omega
    · have := php m n f (fun k hk => by
        have h1 := h k hk
        have h2 : f k ≠ m := fun hc => e ⟨k, hk, hc⟩
        omega) hd
      omega
def chF (i : Nat) (s : Nat → Nat) : Nat → Nat := up s (48 + i) (s (48 + (i + 1)))
def rmv (a : Nat → Nat) (p : Nat) : Nat → Nat := fd chF (a 13 - 1 - p) p (up a 13 (a 13 - 1))
def adl (a : Nat → Nat) (t : Nat) : Nat → Nat := up (up a (48 + a 13) t) 13 (a 13 + 1)
def chk (a : Nat → Nat) (t : Nat) : Nat → Nat := match plc a t (a 13) 0 with
  | some p => rmv a p
  | none => adl a t
section CK
variable {a : Nat → Nat} {t p : Nat}
theorem chF_at : ∀ d i (s : Nat → Nat) k, fd chF d i s k = if 48 + i ≤ k ∧ k < 48 + i + d then s (k + 1) else s k
  | 0, i, s, k => by rw [if_neg (by omega)]; rfl
  | d + 1, i, s, k => by
    show fd chF d (i + 1) (chF i s) k = _
    rw [chF_at d (i + 1) (chF i s) k]
    unfold chF
    by_cases e : 48 + (i + 1) ≤ k ∧ k < 48 + (i + 1) + d
    · rw [if_pos e, if_pos (by omega), up_ne (by omega)]
    · rw [if_neg e]
      by_cases e2 : k = 48 + i
      · subst e2
        rw [up_at, if_pos (by omega)]
        rfl
      · rw [up_ne e2, if_neg (by omega)]
theorem rmv_at (h : a 13 ≤ 10) (hp : p < a 13) (k : Nat) : rmv a p k = if k = 13 then a 13 - 1 else if 48 + p ≤ k ∧ k < 48 + (a 13 - 1) then a (k + 1) else a k := by
  unfold rmv
  rw [chF_at]
  by_cases e : 48 + p ≤ k ∧ k < 48 + p + (a 13 - 1 - p)
  · rw [if_pos e, if_neg (by omega), if_pos (by omega), up_ne (by omega)]
  · rw [if_neg e]
    by_cases e2 : k = 13
    · rw [if_pos e2, e2, up_at]
    · rw [if_neg e2, if_neg (by omega), up_ne e2]
theorem rmv_ok (h : WO a) (hp : p < a 13) : WO (rmv a p) := by
  have hL := h.li
  have hT := h.tp
  have u := rmv_at hL hp
  have u2 : ∀ k, k ≠ 13 → ¬ (48 ≤ k ∧ k < 58) → rmv a p k = a k := fun k h1 h2 => by rw [u, if_neg h1, if_neg (by omega)]
  have u13 : rmv a p 13 = a 13 - 1 := by rw [u, if_pos rfl]
  have ul : ∀ j, j < a 13 - 1 → rmv a p (48 + j) = a (48 + (if p ≤ j then j + 1 else j)) := by
    intro j hj
    rw [u, if_neg (by omega)]
    by_cases e : p ≤ j
    · rw [if_pos (by omega), if_pos e]; rfl
    · rw [if_neg (by omega), if_neg e]
  refine ⟨?_, ?_, ?_, ?_, ?_, ?_, ?_, ?_, ?_, ?_, ?_, ?_, ?_, ?_, ?_, ?_, ?_⟩
  · rw [u2 1 (by omega) (by omega)]; exact h.tp
  · rw [u2 2 (by omega) (by omega)]; exact h.kn
  · rw [u2 3 (by omega) (by omega)]; exact h.ps
  · rw [u2 4 (by omega) (by omega)]; exact h.dc
  · rw [u2 5 (by omega) (by omega)]; exact h.wk
  · rw [u2 6 (by omega) (by omega)]; exact h.co
  · rw [u2 7 (by omega) (by omega)]; exact h.ca
  · rw [u13]; omega
  · intro q hq; rw [u2 _ (by omega) (by omega)]; exact h.ro q hq
  · intro q hq; rw [u2 _ (by omega) (by omega)]; exact h.mi q hq
  · intro q hq; rw [u2 _ (by omega) (by omega)]; exact h.op q hq
  · intro q hq; rw [u2 1 (by omega) (by omega), u2 _ (by omega) (by omega)]; exact h.oz q hq
  · intro j hj
    rw [u13] at hj
    rw [ul j hj, u2 1 (by omega) (by omega)]
    by_cases e : p ≤ j
    · rw [if_pos e]; exact h.le (j + 1) (by omega)
    · rw [if_neg e]; exact h.le j (by omega)
  · intro i j hi hj
    rw [u13] at hj
    rw [ul i (by omega), ul j hj]
    by_cases e : p ≤ i
    · rw [if_pos e, if_pos (by omega)]; exact h.nd (i + 1) (j + 1) (by omega) (by omega)
    · rw [if_neg e]
      by_cases e2 : p ≤ j
      · rw [if_pos e2]; exact h.nd i (j + 1) (by omega) (by omega)
      · rw [if_neg e2]; exact h.nd i j hi (by omega)
  · intro w q hw hq; rw [u2 _ (by omega) (by omega)]; exact h.lv w q hw hq
  · intro w q hw hq; rw [u2 1 (by omega) (by omega), u2 _ (by omega) (by omega)]; exact h.lz w q hw hq
  · intro j hj; rw [u2 _ (by omega) (by omega)]; exact h.zz j hj
theorem adl_lt (h : WO a) (ht : t < a 1) (hn : ∀ k, k < a 13 → a (48 + k) ≠ t) : a 13 < 10 := by
  have hT := h.tp
  have := php (a 1) (a 13 + 1) (fun k => if k < a 13 then a (48 + k) else t) (by
    intro k hk
    show (if k < a 13 then a (48 + k) else t) < a 1
    by_cases e : k < a 13
    · rw [if_pos e]; exact h.le k e
    · rw [if_neg e]; exact ht) (by
    intro i j hij hj
    show (if i < a 13 then a (48 + i) else t) ≠ (if j < a 13 then a (48 + j) else t)
    rw [if_pos (by omega)]
    by_cases e : j < a 13
    · rw [if_pos e]; exact h.nd i j hij e
    · rw [if_neg e]; exact hn i (by omega))
  omega
theorem adl_ok (h : WO a) (ht : t < a 1) (hn : ∀ k, k < a 13 → a (48 + k) ≠ t) : WO (adl a t) := by
  have hL := adl_lt h ht hn
  have hT := h.tp
  have u2 : ∀ k, k ≠ 13 → k ≠ 48 + a 13 → adl a t k = a k := fun k h1 h2 => by unfold adl; rw [up_ne h1, up_ne h2]
  have u13 : adl a t 13 = a 13 + 1 := by unfold adl; rw [up_at]
  have ul : adl a t (48 + a 13) = t := by unfold adl; rw [up_ne (by omega), up_at]
  refine ⟨?_, ?_, ?_, ?_, ?_, ?_, ?_, ?_, ?_, ?_, ?_, ?_, ?_, ?_, ?_, ?_, ?_⟩
  · rw [u2 1 (by omega) (by omega)]; exact h.tp
  · rw [u2 2 (by omega) (by omega)]; exact h.kn
  · rw [u2 3 (by omega) (by omega)]; exact h.ps
  · rw [u2 4 (by omega) (by omega)]; exact h.dc
  · rw [u2 5 (by omega) (by omega)]; exact h.wk
  · rw [u2 6 (by omega) (by omega)]; exact h.co
  · rw [u2 7 (by omega) (by omega)]; exact h.ca
  · rw [u13]; omega
  · intro q hq; rw [u2 _ (by omega) (by omega)]; exact h.ro q hq
  · intro q hq; rw [u2 _ (by omega) (by omega)]; exact h.mi q hq
  · intro q hq; rw [u2 _ (by omega) (by omega)]; exact h.op q hq
  · intro q hq; rw [u2 1 (by omega) (by omega), u2 _ (by omega) (by omega)]; exact h.oz q hq
  · intro j hj
    rw [u13] at hj
    rw [u2 1 (by omega) (by omega)]
    by_cases e : j = a 13
    · rw [e, ul]; exact ht
    · rw [u2 _ (by omega) (by omega)]; exact h.le j (by omega)
  · intro i j hi hj
    rw [u13] at hj
    rw [u2 (48 + i) (by omega) (by omega)]
    by_cases e : j = a 13
    · rw [e, ul]; exact hn i (by omega)
    · rw [u2 _ (by omega) (by omega)]; exact h.nd i j hi (by omega)
  · intro w q hw hq; rw [u2 _ (by omega) (by omega)]; exact h.lv w q hw hq
  · intro w q hw hq; rw [u2 1 (by omega) (by omega), u2 _ (by omega) (by omega)]; exact h.lz w q hw hq
  · intro j hj; rw [u2 _ (by omega) (by omega)]; exact h.zz j hj
theorem chk_ok (h : WO a) (ht : t < a 1) : WO (chk a t) ∧ ∀ k, k ≠ 13 → ¬ (48 ≤ k ∧ k < 58) → chk a t k = a k := by
  have hL := h.li
  unfold chk
  cases e : plc a t (a 13) 0 with
  | some p =>
    have hp := (plc_some _ _ _ e).2.1
    exact ⟨rmv_ok h (by omega), fun k h1 h2 => by show rmv a p k = _; rw [rmv_at hL (by omega), if_neg h1, if_neg (by omega)]⟩
  | none =>
    have hn : ∀ k, k < a 13 → a (48 + k) ≠ t := fun k hk => plc_none _ _ e k (Nat.zero_le k) (by omega)
    have := adl_lt h ht hn
    exact ⟨adl_ok h ht hn, fun k h1 h2 => by show adl a t k = _; unfold adl; rw [up_ne h1, up_ne (by omega)]⟩
end CK
section C2
variable {I : Nat → Nat → Int32} {R : Nat → Nat → Option Nat} {b : Nat} {a : Nat → Nat}
theorem f20e {x : Int32} (hb : b < 13) (hI : I b = vI a) (h : ¬ iT x (a 1)) : FF 20 [.ref (16 * b), .int x] (202, I, R) = some (some (.int (-1)), 202, I, R) := by
  have ho := os hb
  simp (disch := first | omega | (show List.length _ ≤ 4; exact Nat.le_of_ble_eq_true rfl) | assumption | exact nbo_0 | exact nbo_1 | exact b2_b) only [FE20, s20_0, s20_1, s20_2, s20_5, s20_8, s20_9, s20_10, s20_11, s20_12, s20_15, s20_16, s20_17, s20_20, s20_21i, s20_21r, s20_22, s20_25, s20_26, s20_27, s20_30, s20_31, s20_33, s20_34, s20_37, s20_40, s20_41, s20_44, s20_45, s20_46, s20_49, s20_50, s20_51, s20_52, s20_53, s20_54, s20_57, s20_60, s20_63, s20_64, s20_67, s20_69, s20_72, s20_73, s20_76, s20_77, s20_80, s20_81, s20_82, s20_83i, s20_83r, s20_84, s20_87, s20_88, s20_89, s20_92, s20_93, s20_96, ↓reduceIte, psh_some, psh_none, cln_i, cln_r, cln_n, cln_l, cln_d, cln_f, Option.bind_some, Option.bind_none, if_true, if_false, nI_add, pk_mul, nbo_0, nbo_1, nI_leI, nI_ltI, nI_eq, Nat.reduceAdd, Nat.reduceMul, Nat.add_zero, Nat.mul_zero, f18t hb hI, b2_f h, z0]
theorem f20 {t : Nat} (hb : b < 13) (hR : RS R) (hI : I b = vI a) (hW : WO a) (ht : t < a 1) : FF 20 [.ref (16 * b), .int (nI t)] (202, I, R) = some (some (.int (nI (chk a t 13))), 202, up I b (vI (chk a t)), R) := by
  have ho := os hb
  have hT := hW.tp
  have hL := hW.li
  have e1 := b2_t (nI_iT ht (by omega))
  have g := f21 (R := R) (t := t) hb hR hI hW (by omega)
  have hz : ¬ (-6 : Int32) < 0 → False := fun h => h (by decide)
  unfold chk
  cases e : plc a t (a 13) 0 with
  | none =>
    rw [e] at g
    have h6 : ((-6 : Int32) < 0) = True := eq_true (by decide)
    have hn : ∀ k, k < a 13 → a (48 + k) ≠ t := fun k hk => plc_none _ _ e k (Nat.zero_le k) (by omega)
    have hlt := adl_lt hW ht hn
    have h7 : ¬ 10 ≤ a 13 := by omega
    have c := cs_11 (k := a 13) hb hlt
    have n1 : ∀ x, up a (48 + a 13) x 13 = a 13 := fun x => up_ne (by omega)
    have o1 : oN (-6) none = -6 := rfl
    rw [o1] at g
    simp (disch := first | omega | (show List.length _ ≤ 4; exact Nat.le_of_ble_eq_true rfl) | assumption | exact nbo_0 | exact nbo_1 | exact b2_b) only [FE20, s20_0, s20_1, s20_2, s20_5, s20_8, s20_9, s20_10, s20_11, s20_12, s20_15, s20_16, s20_17, s20_20, s20_21i, s20_21r, s20_22, s20_25, s20_26, s20_27, s20_30, s20_31, s20_33, s20_34, s20_37, s20_40, s20_41, s20_44, s20_45, s20_46, s20_49, s20_50, s20_51, s20_52, s20_53, s20_54, s20_57, s20_60, s20_63, s20_64, s20_67, s20_69, s20_72, s20_73, s20_76, s20_77, s20_80, s20_81, s20_82, s20_83i, s20_83r, s20_84, s20_87, s20_88, s20_89, s20_92, s20_93, s20_96, ↓reduceIte, psh_some, psh_none, cln_i, cln_r, cln_n, cln_l, cln_d, cln_f, Option.bind_some, Option.bind_none, if_true, if_false, nI_add, pk_mul, nbo_0, nbo_1, nI_leI, nI_ltI, nI_eq, Nat.reduceAdd, Nat.reduceMul, Nat.add_zero, Nat.mul_zero, up_at, up_up, up_vI, vI_at, f18t hb hI, e1, z1, g, h6, h7, gs_10 hb, ps_10 hb, gs_4 hb hR, ws_11 hb, hI, n1]
    rfl
  | some p =>
    rw [e] at g
    have hp := (plc_some _ _ _ e).2.1
    have o1 : oN (-6) (some p) = nI p := rfl
    rw [o1] at g
    have h6 : ¬ nI p < 0 := nI_pos (by omega)
    have hs := nI_sub (x := a 13) (y := 1) (by omega)
    have main := fd_loop (E := fun i s => EE 20 32 [some (.ref (16 * b)), some (.int (nI t)), some (.int (nI p)), some (.int (nI i))] [] (202, up I b (vI s), R)) (f := chF) (Inv := fun i s => s 13 = a 13 - 1) (a 13 - 1) (by
      intro i s hi h1
      refine ⟨?_, by unfold chF; rw [up_ne (by omega)]; exact h1⟩
      have hn : ¬ a 13 - 1 ≤ i := by omega
      have c := cs_11 (k := i) hb (by omega)
      show EE 20 32 _ _ _ = EE 20 32 _ _ _
      rw [s20_32]
      unfold chF
      simp (disch := first | omega | (show List.length _ ≤ 4; exact Nat.le_of_ble_eq_true rfl) | assumption | exact nbo_0 | exact nbo_1 | exact b2_b) only [s20_0, s20_1, s20_2, s20_5, s20_8, s20_9, s20_10, s20_11, s20_12, s20_15, s20_16, s20_17, s20_20, s20_21i, s20_21r, s20_22, s20_25, s20_26, s20_27, s20_30, s20_31, s20_33, s20_34, s20_37, s20_40, s20_41, s20_44, s20_45, s20_46, s20_49, s20_50, s20_51, s20_52, s20_53, s20_54, s20_57, s20_60, s20_63, s20_64, s20_67, s20_69, s20_72, s20_73, s20_76, s20_77, s20_80, s20_81, s20_82, s20_83i, s20_83r, s20_84, s20_87, s20_88, s20_89, s20_92, s20_93, s20_96, ↓reduceIte, psh_some, psh_none, cln_i, cln_r, cln_n, cln_l, cln_d, cln_f, Option.bind_some, Option.bind_none, if_true, if_false, nI_add, pk_mul, nbo_0, nbo_1, nI_leI, nI_ltI, nI_eq, Nat.reduceAdd, Nat.reduceMul, Nat.add_zero, Nat.mul_zero, up_at, up_up, up_vI, vI_at, gs_10 hb, gs_4 hb hR, as_11 hb, ws_11 hb, h1, hn]) (a 13 - 1 - p) p (up a 13 (a 13 - 1)) (by omega) (up_at _ _ _)
    obtain ⟨m1, m2⟩ := main
    have hq : FF 20 [.ref (16 * b), .int (nI t)] (202, I, R) = EE 20 32 [some (.ref (16 * b)), some (.int (nI t)), some (.int (nI p)), some (.int (nI p))] [] (202, up I b (vI (up a 13 (a 13 - 1))), R) := by
      simp (disch := first | omega | (show List.length _ ≤ 4; exact Nat.le_of_ble_eq_true rfl) | assumption | exact nbo_0 | exact nbo_1 | exact b2_b) only [FE20, s20_0, s20_1, s20_2, s20_5, s20_8, s20_9, s20_10, s20_11, s20_12, s20_15, s20_16, s20_17, s20_20, s20_21i, s20_21r, s20_22, s20_25, s20_26, s20_27, s20_30, s20_31, s20_33, s20_34, s20_37, s20_40, s20_41, s20_44, s20_45, s20_46, s20_49, s20_50, s20_51, s20_52, s20_53, s20_54, s20_57, s20_60, s20_63, s20_64, s20_67, s20_69, s20_72, s20_73, s20_76, s20_77, s20_80, s20_81, s20_82, s20_83i, s20_83r, s20_84, s20_87, s20_88, s20_89, s20_92, s20_93, s20_96, ↓reduceIte, psh_some, psh_none, cln_i, cln_r, cln_n, cln_l, cln_d, cln_f, Option.bind_some, Option.bind_none, if_true, if_false, nI_add, pk_mul, nbo_0, nbo_1, nI_leI, nI_ltI, nI_eq, Nat.reduceAdd, Nat.reduceMul, Nat.add_zero, Nat.mul_zero, up_at, up_up, up_vI, vI_at, f18t hb hI, e1, z1, g, h6, hs, gs_10 hb, ps_10 hb, hI]
    rw [hq]
    refine m1.trans ?_
    show EE 20 32 [some (.ref (16 * b)), some (.int (nI t)), some (.int (nI p)), some (.int (nI (a 13 - 1)))] [] (202, up I b (vI (rmv a p)), R) = _
    have h13 : rmv a p 13 = a 13 - 1 := by rw [rmv_at hL (by omega), if_pos rfl]
    have e6 : a 13 - 1 ≤ a 13 - 1 := Nat.le_refl _
    rw [s20_32]
    simp (disch := first | omega | (show List.length _ ≤ 4; exact Nat.le_of_ble_eq_true rfl) | assumption | exact nbo_0 | exact nbo_1 | exact b2_b) only [s20_0, s20_1, s20_2, s20_5, s20_8, s20_9, s20_10, s20_11, s20_12, s20_15, s20_16, s20_17, s20_20, s20_21i, s20_21r, s20_22, s20_25, s20_26, s20_27, s20_30, s20_31, s20_33, s20_34, s20_37, s20_40, s20_41, s20_44, s20_45, s20_46, s20_49, s20_50, s20_51, s20_52, s20_53, s20_54, s20_57, s20_60, s20_63, s20_64, s20_67, s20_69, s20_72, s20_73, s20_76, s20_77, s20_80, s20_81, s20_82, s20_83i, s20_83r, s20_84, s20_87, s20_88, s20_89, s20_92, s20_93, s20_96, ↓reduceIte, psh_some, psh_none, cln_i, cln_r, cln_n, cln_l, cln_d, cln_f, Option.bind_some, Option.bind_none, if_true, if_false, nI_add, pk_mul, nbo_0, nbo_1, nI_leI, nI_ltI, nI_eq, Nat.reduceAdd, Nat.reduceMul, Nat.add_zero, Nat.mul_zero, up_at, up_up, up_vI, vI_at, gs_10 hb, h13, e6]
end C2
