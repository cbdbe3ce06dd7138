/-! ===== the changes: answered, and what stands then ===== -/
section CH
variable {I : Nat → Nat → Int32} {R : Nat → Nat → Option Nat} {nw bf u : Nat} {h : Nat → Nat} {p : Nat → Nat → Nat} {a : Nat → Nat}
/-- what may become of a desk by a change: refused, or recorded with a' -/
def CR (R : Nat → Nat → Option Nat) (I : Nat → Nat → Int32) (nw bf : Nat) (h : Nat → Nat) (a : Nat → Nat) (u : Nat) (p : Nat → Nat → Nat) (K : Nat) (as1 : List Value) (P : (Nat → Nat) → Prop) : Prop := (∃ r, r < 0 ∧ ¬ r = -20 ∧ ST R I nw bf h K as1 r a u p) ∨ ∃ r a', ¬ r < 0 ∧ P a' ∧ ST R I nw bf h K as1 r a' (pushU u) (pushP u p a)
/-- what the nine changes but the shift's end leave -/
def KP (a a' : Nat → Nat) : Prop := WO a' ∧ a 1 ≤ a' 1 ∧ a' 0 = a 0 ∧ (∀ k, 8 ≤ k → k < 12 → a' k = a k) ∧ ∀ k, 118 ≤ k → k < 148 → a' k = a k
theorem KP.up1 (hW : WO a) {k x : Nat} (h1 : WO (up a k x)) (hk : 2 ≤ k ∧ k < 8 ∨ 12 ≤ k ∧ k < 118) : KP a (up a k x) :=
  ⟨h1, by rw [up_ne (show 1 ≠ k by omega)]; exact Nat.le_refl _, up_ne (by omega), fun j h1 h2 => up_ne (by omega), fun j h1 h2 => up_ne (by omega)⟩
theorem c_set (hB : BR R) (hC : CL I nw bf h a u p) (hW : WO a) (x y : Int32) : CR R I nw bf h a u p 44 [.ref 208, .int x, .int y] (KP a) := by
  have h1 := hC.1.1
  have h2 := hC.1.2.1
  have hRS : RS (QR R nw bf h) := QR_RS hB.2.2.2.1
  have hbe := bef hB hC hW
  have ho := od
  have ho1 := os (b := bf) (by omega)
  have ho2 := os (b := nw) (by omega)
  by_cases e : iT x 6 ∧ sOk x.toNatClampNeg y
  · obtain ⟨e1, e2⟩ := e
    obtain ⟨k, hk, rfl⟩ := iT_nI (by decide) e1
    rw [nI_clamp (by omega)] at e2
    obtain ⟨j, rfl, j0, j1, j2, j3, j4, j5⟩ := sOk_n hk e2
    have b999 : a (2 + k) < 2 ^ 31 := by
      have w1 := hW.kn
      have w2 := hW.ps
      have w3 := hW.dc
      have w4 := hW.wk
      have w5 := hW.co
      have w6 := hW.ca
      rcases (show k = 0 ∨ k = 1 ∨ k = 2 ∨ k = 3 ∨ k = 4 ∨ k = 5 by omega) with rfl | rfl | rfl | rfl | rfl | rfl <;> (simp only [Nat.reduceAdd]; omega)
    refine Or.inr ⟨nI (a (2 + k)), up a (2 + k) j, nI_pos b999, KP.up1 hW (hW.up1 (by omega) (by omega) (by omega) (by omega) (by omega) (by omega) (by omega) (by omega) (by omega) (by omega)) (by omega), chg hB hC hW.zz (nI_pos b999) (fun I' R' g => ?_)⟩
    have g3 := f13 (I := up I bf (vI a)) (R := QR R nw bf h) (b := nw) (a := a) (by omega) hRS (bnw hC) hk e2
    simp (disch := first | omega | (show List.length _ ≤ 4; exact Nat.le_of_ble_eq_true rfl) | assumption | exact nbo_0 | exact nbo_1 | exact b2_b) only [FE44, s44_0, s44_1, s44_4, s44_5, s44_8, s44_11, s44_12, s44_13, s44_16, s44_17, s44_18, s44_21, s44_24, ↓reduceIte, psh_some, psh_none, cln_i, cln_r, cln_n, cln_l, cln_d, cln_f, Option.bind_some, Option.bind_none, if_true, if_false, nI_add, pk_mul, nbo_0, nbo_1, nI_leI, nI_ltI, nI_eq, Nat.reduceAdd, Nat.reduceMul, Nat.add_zero, Nat.mul_zero, gd_0, gd_1, hbe, g3, g]
  · have g := f13e (I := up I bf (vI a)) (R := QR R nw bf h) (b := nw) (x := x) (y := y) (by omega) e
    refine Or.inl ⟨-2, by decide, by decide, chg_e hC hW.zz ?_⟩
    have hn : (-2 : Int32) < 0 := by decide
    have g2 := f46e hn (M := (202, up I bf (vI a), QR R nw bf h))
    simp (disch := first | omega | (show List.length _ ≤ 4; exact Nat.le_of_ble_eq_true rfl) | assumption | exact nbo_0 | exact nbo_1 | exact b2_b) only [FE44, s44_0, s44_1, s44_4, s44_5, s44_8, s44_11, s44_12, s44_13, s44_16, s44_17, s44_18, s44_21, s44_24, ↓reduceIte, psh_some, psh_none, cln_i, cln_r, cln_n, cln_l, cln_d, cln_f, Option.bind_some, Option.bind_none, if_true, if_false, nI_add, pk_mul, nbo_0, nbo_1, nI_leI, nI_ltI, nI_eq, Nat.reduceAdd, Nat.reduceMul, Nat.add_zero, Nat.mul_zero, gd_0, gd_1, hbe, g, g2]
theorem c_roster (hB : BR R) (hC : CL I nw bf h a u p) (hW : WO a) (x y : Int32) : CR R I nw bf h a u p 48 [.ref 208, .int x, .int y] (KP a) := by
  have h1 := hC.1.1
  have h2 := hC.1.2.1
  have hRS : RS (QR R nw bf h) := QR_RS hB.2.2.2.1
  have hbe := bef hB hC hW
  have ho := od
  have ho1 := os (b := bf) (by omega)
  have ho2 := os (b := nw) (by omega)
  by_cases e : iT y 6 ∧ iT x 12
  · obtain ⟨e1, e2⟩ := e
    obtain ⟨j, hj, rfl⟩ := iT_nI (by decide) e1
    obtain ⟨k, hk, rfl⟩ := iT_nI (by decide) e2
    have w := hW.ro k hk
    refine Or.inr ⟨nI (a (14 + k)), up a (14 + k) j, nI_pos (by omega), KP.up1 hW (hW.up1 (by omega) (by omega) (by omega) (by omega) (by omega) (by omega) (by omega) (by omega) (by omega) (by omega)) (by omega), chg hB hC hW.zz (nI_pos (by omega)) (fun I' R' g => ?_)⟩
    have g3 := f14 (I := up I bf (vI a)) (R := QR R nw bf h) (b := nw) (a := a) (by omega) hRS (bnw hC) hj hk
    simp (disch := first | omega | (show List.length _ ≤ 4; exact Nat.le_of_ble_eq_true rfl) | assumption | exact nbo_0 | exact nbo_1 | exact b2_b) only [FE48, s48_0, s48_1, s48_4, s48_5, s48_8, s48_11, s48_12, s48_13, s48_16, s48_17, s48_18, s48_21, s48_24, ↓reduceIte, psh_some, psh_none, cln_i, cln_r, cln_n, cln_l, cln_d, cln_f, Option.bind_some, Option.bind_none, if_true, if_false, nI_add, pk_mul, nbo_0, nbo_1, nI_leI, nI_ltI, nI_eq, Nat.reduceAdd, Nat.reduceMul, Nat.add_zero, Nat.mul_zero, gd_0, gd_1, hbe, g3, g]
  · have g := f14e (I := up I bf (vI a)) (R := QR R nw bf h) (b := nw) (x := x) (y := y) (by omega) e
    by_cases e1 : iT y 6
    · rw [if_pos e1] at g
      refine Or.inl ⟨-2, by decide, by decide, chg_e hC hW.zz ?_⟩
      have hn : (-2 : Int32) < 0 := by decide
      have g2 := f46e hn (M := (202, up I bf (vI a), QR R nw bf h))
      simp (disch := first | omega | (show List.length _ ≤ 4; exact Nat.le_of_ble_eq_true rfl) | assumption | exact nbo_0 | exact nbo_1 | exact b2_b) only [FE48, s48_0, s48_1, s48_4, s48_5, s48_8, s48_11, s48_12, s48_13, s48_16, s48_17, s48_18, s48_21, s48_24, ↓reduceIte, psh_some, psh_none, cln_i, cln_r, cln_n, cln_l, cln_d, cln_f, Option.bind_some, Option.bind_none, if_true, if_false, nI_add, pk_mul, nbo_0, nbo_1, nI_leI, nI_ltI, nI_eq, Nat.reduceAdd, Nat.reduceMul, Nat.add_zero, Nat.mul_zero, gd_0, gd_1, hbe, g, g2]
    · rw [if_neg e1] at g
      refine Or.inl ⟨-1, by decide, by decide, chg_e hC hW.zz ?_⟩
      have hn : (-1 : Int32) < 0 := by decide
      have g2 := f46e hn (M := (202, up I bf (vI a), QR R nw bf h))
      simp (disch := first | omega | (show List.length _ ≤ 4; exact Nat.le_of_ble_eq_true rfl) | assumption | exact nbo_0 | exact nbo_1 | exact b2_b) only [FE48, s48_0, s48_1, s48_4, s48_5, s48_8, s48_11, s48_12, s48_13, s48_16, s48_17, s48_18, s48_21, s48_24, ↓reduceIte, psh_some, psh_none, cln_i, cln_r, cln_n, cln_l, cln_d, cln_f, Option.bind_some, Option.bind_none, if_true, if_false, nI_add, pk_mul, nbo_0, nbo_1, nI_leI, nI_ltI, nI_eq, Nat.reduceAdd, Nat.reduceMul, Nat.add_zero, Nat.mul_zero, gd_0, gd_1, hbe, g, g2]
theorem c_minutes (hB : BR R) (hC : CL I nw bf h a u p) (hW : WO a) (x y : Int32) : CR R I nw bf h a u p 51 [.ref 208, .int x, .int y] (KP a) := by
  have h1 := hC.1.1
  have h2 := hC.1.2.1
  have hRS : RS (QR R nw bf h) := QR_RS hB.2.2.2.1
  have hbe := bef hB hC hW
  have ho := od
  have ho1 := os (b := bf) (by omega)
  have ho2 := os (b := nw) (by omega)
  by_cases e : iT x 12 ∧ iT y 61
  · obtain ⟨e1, e2⟩ := e
    obtain ⟨k, hk, rfl⟩ := iT_nI (by decide) e1
    obtain ⟨j, hj, rfl⟩ := iT_nI (by decide) e2
    have w := hW.mi k hk
    refine Or.inr ⟨nI (a (26 + k)), up a (26 + k) j, nI_pos (by omega), KP.up1 hW (hW.up1 (by omega) (by omega) (by omega) (by omega) (by omega) (by omega) (by omega) (by omega) (by omega) (by omega)) (by omega), chg hB hC hW.zz (nI_pos (by omega)) (fun I' R' g => ?_)⟩
    have g3 := f15 (I := up I bf (vI a)) (R := QR R nw bf h) (b := nw) (a := a) (by omega) hRS (bnw hC) hk hj
    simp (disch := first | omega | (show List.length _ ≤ 4; exact Nat.le_of_ble_eq_true rfl) | assumption | exact nbo_0 | exact nbo_1 | exact b2_b) only [FE51, s51_0, s51_1, s51_4, s51_5, s51_8, s51_11, s51_12, s51_13, s51_16, s51_17, s51_18, s51_21, s51_24, ↓reduceIte, psh_some, psh_none, cln_i, cln_r, cln_n, cln_l, cln_d, cln_f, Option.bind_some, Option.bind_none, if_true, if_false, nI_add, pk_mul, nbo_0, nbo_1, nI_leI, nI_ltI, nI_eq, Nat.reduceAdd, Nat.reduceMul, Nat.add_zero, Nat.mul_zero, gd_0, gd_1, hbe, g3, g]
  · have g := f15e (I := up I bf (vI a)) (R := QR R nw bf h) (b := nw) (x := x) (y := y) (by omega) e
    refine Or.inl ⟨-2, by decide, by decide, chg_e hC hW.zz ?_⟩
    have hn : (-2 : Int32) < 0 := by decide
    have g2 := f46e hn (M := (202, up I bf (vI a), QR R nw bf h))
    simp (disch := first | omega | (show List.length _ ≤ 4; exact Nat.le_of_ble_eq_true rfl) | assumption | exact nbo_0 | exact nbo_1 | exact b2_b) only [FE51, s51_0, s51_1, s51_4, s51_5, s51_8, s51_11, s51_12, s51_13, s51_16, s51_17, s51_18, s51_21, s51_24, ↓reduceIte, psh_some, psh_none, cln_i, cln_r, cln_n, cln_l, cln_d, cln_f, Option.bind_some, Option.bind_none, if_true, if_false, nI_add, pk_mul, nbo_0, nbo_1, nI_leI, nI_ltI, nI_eq, Nat.reduceAdd, Nat.reduceMul, Nat.add_zero, Nat.mul_zero, gd_0, gd_1, hbe, g, g2]
theorem c_open (hB : BR R) (hC : CL I nw bf h a u p) (hW : WO a) : CR R I nw bf h a u p 52 [.ref 208] (KP a) := by
  have h1 := hC.1.1
  have h2 := hC.1.2.1
  have hRS : RS (QR R nw bf h) := QR_RS hB.2.2.2.1
  have hbe := bef hB hC hW
  have ho := od
  have ho1 := os (b := bf) (by omega)
  have ho2 := os (b := nw) (by omega)
  have hT := hW.tp
  by_cases e : a 1 < 10
  · refine Or.inr ⟨nI (a 1), up (up a (38 + a 1) 1) 1 (a 1 + 1), nI_pos (by omega), ⟨hW.come e, by rw [up_at]; omega, by rw [up_ne (by omega), up_ne (by omega)], fun j h1 h2 => by rw [up_ne (by omega), up_ne (by omega)], fun j h1 h2 => by rw [up_ne (by omega), up_ne (by omega)]⟩, chg hB hC hW.zz (nI_pos (by omega)) (fun I' R' g => ?_)⟩
    have g3 := f16 (I := up I bf (vI a)) (R := QR R nw bf h) (b := nw) (a := a) (by omega) (bnw hC) hW e
    simp (disch := first | omega | (show List.length _ ≤ 4; exact Nat.le_of_ble_eq_true rfl) | assumption | exact nbo_0 | exact nbo_1 | exact b2_b) only [FE52, s52_0, s52_1, s52_4, s52_5, s52_8, s52_11, s52_12, s52_13, s52_16, s52_19, s52_22, ↓reduceIte, psh_some, psh_none, cln_i, cln_r, cln_n, cln_l, cln_d, cln_f, Option.bind_some, Option.bind_none, if_true, if_false, nI_add, pk_mul, nbo_0, nbo_1, nI_leI, nI_ltI, nI_eq, Nat.reduceAdd, Nat.reduceMul, Nat.add_zero, Nat.mul_zero, gd_0, gd_1, hbe, g3, g]
  · have e10 : a 1 = 10 := by omega
    have g := f16e (I := up I bf (vI a)) (R := QR R nw bf h) (b := nw) (a := a) (by omega) (bnw hC) e10
    refine Or.inl ⟨-4, by decide, by decide, chg_e hC hW.zz ?_⟩
    have hn : (-4 : Int32) < 0 := by decide
    have g2 := f46e hn (M := (202, up I bf (vI a), QR R nw bf h))
    simp (disch := first | omega | (show List.length _ ≤ 4; exact Nat.le_of_ble_eq_true rfl) | assumption | exact nbo_0 | exact nbo_1 | exact b2_b) only [FE52, s52_0, s52_1, s52_4, s52_5, s52_8, s52_11, s52_12, s52_13, s52_16, s52_19, s52_22, ↓reduceIte, psh_some, psh_none, cln_i, cln_r, cln_n, cln_l, cln_d, cln_f, Option.bind_some, Option.bind_none, if_true, if_false, nI_add, pk_mul, nbo_0, nbo_1, nI_leI, nI_ltI, nI_eq, Nat.reduceAdd, Nat.reduceMul, Nat.add_zero, Nat.mul_zero, gd_0, gd_1, hbe, g, g2]
theorem c_turn (hB : BR R) (hC : CL I nw bf h a u p) (hW : WO a) (x : Int32) : CR R I nw bf h a u p 53 [.ref 208, .int x] (KP a) := by
  have h1 := hC.1.1
  have h2 := hC.1.2.1
  have hRS : RS (QR R nw bf h) := QR_RS hB.2.2.2.1
  have hbe := bef hB hC hW
  have ho := od
  have ho1 := os (b := bf) (by omega)
  have ho2 := os (b := nw) (by omega)
  have hT := hW.tp
  by_cases e : iT x (a 1)
  · obtain ⟨t, ht, rfl⟩ := iT_nI (by omega) e
    refine Or.inr ⟨nI (1 - a (38 + t)), up a (38 + t) (1 - a (38 + t)), nI_pos (by omega), KP.up1 hW (hW.turned ht) (by omega), chg hB hC hW.zz (nI_pos (by omega)) (fun I' R' g => ?_)⟩
    have g3 := f17 (I := up I bf (vI a)) (R := QR R nw bf h) (b := nw) (a := a) (by omega) (bnw hC) hW ht
    simp (disch := first | omega | (show List.length _ ≤ 4; exact Nat.le_of_ble_eq_true rfl) | assumption | exact nbo_0 | exact nbo_1 | exact b2_b) only [FE53, s53_0, s53_1, s53_4, s53_5, s53_8, s53_11, s53_12, s53_13, s53_16, s53_17, s53_20, s53_23, ↓reduceIte, psh_some, psh_none, cln_i, cln_r, cln_n, cln_l, cln_d, cln_f, Option.bind_some, Option.bind_none, if_true, if_false, nI_add, pk_mul, nbo_0, nbo_1, nI_leI, nI_ltI, nI_eq, Nat.reduceAdd, Nat.reduceMul, Nat.add_zero, Nat.mul_zero, gd_0, gd_1, hbe, g3, g]
  · have g := f17e (I := up I bf (vI a)) (R := QR R nw bf h) (b := nw) (a := a) (x := x) (by omega) (bnw hC) e
    refine Or.inl ⟨-1, by decide, by decide, chg_e hC hW.zz ?_⟩
    have hn : (-1 : Int32) < 0 := by decide
    have g2 := f46e hn (M := (202, up I bf (vI a), QR R nw bf h))
    simp (disch := first | omega | (show List.length _ ≤ 4; exact Nat.le_of_ble_eq_true rfl) | assumption | exact nbo_0 | exact nbo_1 | exact b2_b) only [FE53, s53_0, s53_1, s53_4, s53_5, s53_8, s53_11, s53_12, s53_13, s53_16, s53_17, s53_20, s53_23, ↓reduceIte, psh_some, psh_none, cln_i, cln_r, cln_n, cln_l, cln_d, cln_f, Option.bind_some, Option.bind_none, if_true, if_false, nI_add, pk_mul, nbo_0, nbo_1, nI_leI, nI_ltI, nI_eq, Nat.reduceAdd, Nat.reduceMul, Nat.add_zero, Nat.mul_zero, gd_0, gd_1, hbe, g, g2]
theorem c_check (hB : BR R) (hC : CL I nw bf h a u p) (hW : WO a) (x : Int32) : CR R I nw bf h a u p 54 [.ref 208, .int x] (KP a) := by
  have h1 := hC.1.1
  have h2 := hC.1.2.1
  have hRS : RS (QR R nw bf h) := QR_RS hB.2.2.2.1
  have hbe := bef hB hC hW
  have ho := od
  have ho1 := os (b := bf) (by omega)
  have ho2 := os (b := nw) (by omega)
  have hT := hW.tp
  by_cases e : iT x (a 1)
  · obtain ⟨t, ht, rfl⟩ := iT_nI (by omega) e
    have hk := chk_ok hW ht
    have hl := hk.1.li
    refine Or.inr ⟨nI (chk a t 13), chk a t, nI_pos (by omega), ⟨hk.1, by rw [hk.2 1 (by omega) (by omega)]; exact Nat.le_refl _, hk.2 0 (by omega) (by omega), fun j h1 h2 => hk.2 j (by omega) (by omega), fun j h1 h2 => hk.2 j (by omega) (by omega)⟩, chg hB hC hW.zz (nI_pos (by omega)) (fun I' R' g => ?_)⟩
    have g3 := f20 (I := up I bf (vI a)) (R := QR R nw bf h) (b := nw) (a := a) (by omega) hRS (bnw hC) hW ht
    simp (disch := first | omega | (show List.length _ ≤ 4; exact Nat.le_of_ble_eq_true rfl) | assumption | exact nbo_0 | exact nbo_1 | exact b2_b) only [FE54, s54_0, s54_1, s54_4, s54_5, s54_8, s54_11, s54_12, s54_13, s54_16, s54_17, s54_20, s54_23, ↓reduceIte, psh_some, psh_none, cln_i, cln_r, cln_n, cln_l, cln_d, cln_f, Option.bind_some, Option.bind_none, if_true, if_false, nI_add, pk_mul, nbo_0, nbo_1, nI_leI, nI_ltI, nI_eq, Nat.reduceAdd, Nat.reduceMul, Nat.add_zero, Nat.mul_zero, gd_0, gd_1, hbe, g3, g]
  · have g := f20e (I := up I bf (vI a)) (R := QR R nw bf h) (b := nw) (a := a) (x := x) (by omega) (bnw hC) e
    refine Or.inl ⟨-1, by decide, by decide, chg_e hC hW.zz ?_⟩
    have hn : (-1 : Int32) < 0 := by decide
    have g2 := f46e hn (M := (202, up I bf (vI a), QR R nw bf h))
    simp (disch := first | omega | (show List.length _ ≤ 4; exact Nat.le_of_ble_eq_true rfl) | assumption | exact nbo_0 | exact nbo_1 | exact b2_b) only [FE54, s54_0, s54_1, s54_4, s54_5, s54_8, s54_11, s54_12, s54_13, s54_16, s54_17, s54_20, s54_23, ↓reduceIte, psh_some, psh_none, cln_i, cln_r, cln_n, cln_l, cln_d, cln_f, Option.bind_some, Option.bind_none, if_true, if_false, nI_add, pk_mul, nbo_0, nbo_1, nI_leI, nI_ltI, nI_eq, Nat.reduceAdd, Nat.reduceMul, Nat.add_zero, Nat.mul_zero, gd_0, gd_1, hbe, g, g2]
theorem c_learn (hB : BR R) (hC : CL I nw bf h a u p) (hW : WO a) (x y z : Int32) : CR R I nw bf h a u p 55 [.ref 208, .int x, .int y, .int z] (KP a) := by
  have h1 := hC.1.1
  have h2 := hC.1.2.1
  have hRS : RS (QR R nw bf h) := QR_RS hB.2.2.2.1
  have hbe := bef hB hC hW
  have ho := od
  have ho1 := os (b := bf) (by omega)
  have ho2 := os (b := nw) (by omega)
  have hT := hW.tp
  by_cases e : (iT x 6 ∧ iT y (a 1)) ∧ ¬ z < nI 1 ∧ ¬ nI 100 < z
  · obtain ⟨⟨e1, e2⟩, e3⟩ := e
    obtain ⟨w, hw, rfl⟩ := iT_nI (by decide) e1
    obtain ⟨t, ht, rfl⟩ := iT_nI (by omega) e2
    obtain ⟨j, j1, j2, rfl⟩ := rng (lo := 1) (hi := 100) (by decide) (by decide) e3.1 e3.2
    have hl := hW.lv w t hw (by omega)
    refine Or.inr ⟨nI (min 100 (a (58 + 10 * w + t) + j)), up a (58 + 10 * w + t) (min 100 (a (58 + 10 * w + t) + j)), nI_pos (by omega), KP.up1 hW (hW.up_lv hw ht (Nat.min_le_left _ _)) (by omega), chg hB hC hW.zz (nI_pos (by omega)) (fun I' R' g => ?_)⟩
    have g3 := f22 (I := up I bf (vI a)) (R := QR R nw bf h) (b := nw) (a := a) (by omega) hRS (bnw hC) hW hw ht ⟨j1, j2⟩
    simp (disch := first | omega | (show List.length _ ≤ 4; exact Nat.le_of_ble_eq_true rfl) | assumption | exact nbo_0 | exact nbo_1 | exact b2_b) only [FE55, s55_0, s55_1, s55_4, s55_5, s55_8, s55_11, s55_12, s55_13, s55_16, s55_17, s55_18, s55_19, s55_22, s55_25, ↓reduceIte, psh_some, psh_none, cln_i, cln_r, cln_n, cln_l, cln_d, cln_f, Option.bind_some, Option.bind_none, if_true, if_false, nI_add, pk_mul, nbo_0, nbo_1, nI_leI, nI_ltI, nI_eq, Nat.reduceAdd, Nat.reduceMul, Nat.add_zero, Nat.mul_zero, gd_0, gd_1, hbe, g3, g]
  · have g := f22e (I := up I bf (vI a)) (R := QR R nw bf h) (b := nw) (a := a) (x := x) (y := y) (z := z) (by omega) (bnw hC) e
    by_cases e1 : iT x 6 ∧ iT y (a 1)
    · rw [if_pos e1] at g
      refine Or.inl ⟨-2, by decide, by decide, chg_e hC hW.zz ?_⟩
      have hn : (-2 : Int32) < 0 := by decide
      have g2 := f46e hn (M := (202, up I bf (vI a), QR R nw bf h))
      simp (disch := first | omega | (show List.length _ ≤ 4; exact Nat.le_of_ble_eq_true rfl) | assumption | exact nbo_0 | exact nbo_1 | exact b2_b) only [FE55, s55_0, s55_1, s55_4, s55_5, s55_8, s55_11, s55_12, s55_13, s55_16, s55_17, s55_18, s55_19, s55_22, s55_25, ↓reduceIte, psh_some, psh_none, cln_i, cln_r, cln_n, cln_l, cln_d, cln_f, Option.bind_some, Option.bind_none, if_true, if_false, nI_add, pk_mul, nbo_0, nbo_1, nI_leI, nI_ltI, nI_eq, Nat.reduceAdd, Nat.reduceMul, Nat.add_zero, Nat.mul_zero, gd_0, gd_1, hbe, g, g2]
    · rw [if_neg e1] at g
      refine Or.inl ⟨-1, by decide, by decide, chg_e hC hW.zz ?_⟩
      have hn : (-1 : Int32) < 0 := by decide
      have g2 := f46e hn (M := (202, up I bf (vI a), QR R nw bf h))
      simp (disch := first | omega | (show List.length _ ≤ 4; exact Nat.le_of_ble_eq_true rfl) | assumption | exact nbo_0 | exact nbo_1 | exact b2_b) only [FE55, s55_0, s55_1, s55_4, s55_5, s55_8, s55_11, s55_12, s55_13, s55_16, s55_17, s55_18, s55_19, s55_22, s55_25, ↓reduceIte, psh_some, psh_none, cln_i, cln_r, cln_n, cln_l, cln_d, cln_f, Option.bind_some, Option.bind_none, if_true, if_false, nI_add, pk_mul, nbo_0, nbo_1, nI_leI, nI_ltI, nI_eq, Nat.reduceAdd, Nat.reduceMul, Nat.add_zero, Nat.mul_zero, gd_0, gd_1, hbe, g, g2]
theorem c_call (hB : BR R) (hC : CL I nw bf h a u p) (hW : WO a) (h0 : a 0 < 2 ^ 30) (x : Int32) : CR R I nw bf h a u p 56 [.ref 208, .int x] (KP a) := by
  have h1 := hC.1.1
  have h2 := hC.1.2.1
  have hRS : RS (QR R nw bf h) := QR_RS hB.2.2.2.1
  have hbe := bef hB hC hW
  have ho := od
  have ho1 := os (b := bf) (by omega)
  have ho2 := os (b := nw) (by omega)
  have hT := hW.tp
  by_cases e : iT x (a 1) ∧ a (38 + x.toNatClampNeg) = 1 ∧ a (58 + 10 * frm a + x.toNatClampNeg) < a (58 + 10 * bst a x.toNatClampNeg + x.toNatClampNeg)
  · obtain ⟨e1, e2⟩ := e
    obtain ⟨t, ht, rfl⟩ := iT_nI (by omega) e1
    rw [nI_clamp (by omega)] at e2
    have hf : frm a < 6 := hW.ro _ (Nat.mod_lt _ (by decide))
    have hbt := bst_lt (a := a) (t := t)
    have l1 := hW.lv (frm a) t hf (by omega)
    have l2 := hW.lv (bst a t) t hbt (by omega)
    have hm : mnC a t ≤ 100 := by unfold mnC; omega
    refine Or.inr ⟨nI (mnC a t), up (up a (58 + 10 * frm a + t) (mnC a t)) 12 (a 12 + a 7), nI_pos (by omega), ⟨(hW.up_lv hf ht hm).up_ct (by omega), by rw [up_ne (by omega), up_ne (by omega)]; exact Nat.le_refl _, by rw [up_ne (by omega), up_ne (by omega)], fun j h1 h2 => by rw [up_ne (by omega), up_ne (by omega)], fun j h1 h2 => by rw [up_ne (by omega), up_ne (by omega)]⟩, chg hB hC hW.zz (nI_pos (by omega)) (fun I' R' g => ?_)⟩
    have g3 := f25 (I := up I bf (vI a)) (R := QR R nw bf h) (b := nw) (a := a) (by omega) hRS (bnw hC) hW h0 ht e2.1 e2.2
    simp (disch := first | omega | (show List.length _ ≤ 4; exact Nat.le_of_ble_eq_true rfl) | assumption | exact nbo_0 | exact nbo_1 | exact b2_b) only [FE56, s56_0, s56_1, s56_4, s56_5, s56_8, s56_11, s56_12, s56_13, s56_16, s56_17, s56_20, s56_23, ↓reduceIte, psh_some, psh_none, cln_i, cln_r, cln_n, cln_l, cln_d, cln_f, Option.bind_some, Option.bind_none, if_true, if_false, nI_add, pk_mul, nbo_0, nbo_1, nI_leI, nI_ltI, nI_eq, Nat.reduceAdd, Nat.reduceMul, Nat.add_zero, Nat.mul_zero, gd_0, gd_1, hbe, g3, g]
  · have g := f25e (I := up I bf (vI a)) (R := QR R nw bf h) (b := nw) (a := a) (x := x) (by omega) hRS (bnw hC) hW h0 e
    by_cases e1 : iT x (a 1)
    · rw [if_pos e1] at g
      refine Or.inl ⟨-5, by decide, by decide, chg_e hC hW.zz ?_⟩
      have hn : (-5 : Int32) < 0 := by decide
      have g2 := f46e hn (M := (202, up I bf (vI a), QR R nw bf h))
      simp (disch := first | omega | (show List.length _ ≤ 4; exact Nat.le_of_ble_eq_true rfl) | assumption | exact nbo_0 | exact nbo_1 | exact b2_b) only [FE56, s56_0, s56_1, s56_4, s56_5, s56_8, s56_11, s56_12, s56_13, s56_16, s56_17, s56_20, s56_23, ↓reduceIte, psh_some, psh_none, cln_i, cln_r, cln_n, cln_l, cln_d, cln_f, Option.bind_some, Option.bind_none, if_true, if_false, nI_add, pk_mul, nbo_0, nbo_1, nI_leI, nI_ltI, nI_eq, Nat.reduceAdd, Nat.reduceMul, Nat.add_zero, Nat.mul_zero, gd_0, gd_1, hbe, g, g2]
    · rw [if_neg e1] at g
      refine Or.inl ⟨-1, by decide, by decide, chg_e hC hW.zz ?_⟩
      have hn : (-1 : Int32) < 0 := by decide
      have g2 := f46e hn (M := (202, up I bf (vI a), QR R nw bf h))
      simp (disch := first | omega | (show List.length _ ≤ 4; exact Nat.le_of_ble_eq_true rfl) | assumption | exact nbo_0 | exact nbo_1 | exact b2_b) only [FE56, s56_0, s56_1, s56_4, s56_5, s56_8, s56_11, s56_12, s56_13, s56_16, s56_17, s56_20, s56_23, ↓reduceIte, psh_some, psh_none, cln_i, cln_r, cln_n, cln_l, cln_d, cln_f, Option.bind_some, Option.bind_none, if_true, if_false, nI_add, pk_mul, nbo_0, nbo_1, nI_leI, nI_ltI, nI_eq, Nat.reduceAdd, Nat.reduceMul, Nat.add_zero, Nat.mul_zero, gd_0, gd_1, hbe, g, g2]
/-- the shift's end -/
theorem c_end (hB : BR R) (hC : CL I nw bf h a u p) (hW : WO a) (h0 : a 0 < 2 ^ 30) : ST R I nw bf h 57 [.ref 208] (nI (endP (a (26 + a 0 % 12)) a).2) (tot (endP (a (26 + a 0 % 12)) a)) (pushU u) (pushP u p a) := by
  have h1 := hC.1.1
  have h2 := hC.1.2.1
  have hRS : RS (QR R nw bf h) := QR_RS hB.2.2.2.1
  have hbe := bef hB hC hW
  have ho := od
  have ho1 := os (b := bf) (by omega)
  have ho2 := os (b := nw) (by omega)
  have hmi := hW.mi (a 0 % 12) (Nat.mod_lt _ (by decide))
  have hle := endP_le (m := a (26 + a 0 % 12)) hW
  refine chg hB hC hW.zz (nI_pos (by omega)) (fun I' R' g => ?_)
  have g2 := f28 (I := up I bf (vI a)) (R := QR R nw bf h) (b := nw) (a := a) (by omega) hRS (bnw hC) h0
  have g3 := f29 (I := up I bf (vI a)) (R := QR R nw bf h) (b := nw) (a := a) (n := a (26 + a 0 % 12)) (by omega) hRS (bnw hC) hW h0 (by omega)
  simp (disch := first | omega | (show List.length _ ≤ 4; exact Nat.le_of_ble_eq_true rfl) | assumption | exact nbo_0 | exact nbo_1 | exact b2_b) only [FE57, s57_0, s57_1, s57_4, s57_5, s57_8, s57_11, s57_12, s57_13, s57_16, s57_17, s57_20, s57_23, s57_26, s57_29, ↓reduceIte, psh_some, psh_none, cln_i, cln_r, cln_n, cln_l, cln_d, cln_f, Option.bind_some, Option.bind_none, if_true, if_false, nI_add, pk_mul, nbo_0, nbo_1, nI_leI, nI_ltI, nI_eq, Nat.reduceAdd, Nat.reduceMul, Nat.add_zero, Nat.mul_zero, gd_0, gd_1, hbe, g2, g3, g]
/-- undo -/
theorem c_undo (hB : BR R) (hC : CL I nw bf h a u p) (hW : WO a) : (u = 0 ∧ ST R I nw bf h 76 [.ref 208] (-5) a u p) ∨ ∃ w, u = w + 1 ∧ ST R I nw bf h 76 [.ref 208] (nI w) (p w) w p := by
  have ho := od
  obtain ⟨c1, c2, ⟨d1, d2, d3, d4, d5⟩, c8⟩ := id hC
  obtain ⟨q1, q2, q3, q4, q5⟩ := id c1
  by_cases hu : u = 0
  · subst hu
    have e0 : ¬ (0 : Int32) < nI 0 := by decide
    refine Or.inl ⟨rfl, I, nw, bf, h, ?_, hC, rfl, rfl⟩
    simp (disch := first | omega | (show List.length _ ≤ 4; exact Nat.le_of_ble_eq_true rfl) | assumption | exact nbo_0 | exact nbo_1 | exact b2_b) only [FE76, s76_0, s76_1, s76_4, s76_7, s76_9, ↓reduceIte, psh_some, psh_none, cln_i, cln_r, cln_n, cln_l, cln_d, cln_f, Option.bind_some, Option.bind_none, if_true, if_false, nI_add, pk_mul, nbo_0, nbo_1, nI_leI, nI_ltI, nI_eq, Nat.reduceAdd, Nat.reduceMul, Nat.add_zero, Nat.mul_zero, gd_3, d1, e0]
  · obtain ⟨w, rfl⟩ : ∃ w, u = w + 1 := ⟨u - 1, by omega⟩
    have hw : w < 6 := by omega
    have e1 : (0 : Int32) < nI (w + 1) := by
      rw [← nI_0]
      exact nI_lt (by omega) (by omega)
    have hs : nI (w + 1) - nI 1 = nI w := nI_sub (by omega)
    have hh := q4 w hw
    have k1 := hi_c hw
    have k2 := hi_v (R := R) (nw := nw) (bf := bf) (h := h) hw
    have k3 := hi_w (x := nw) hw (by omega)
    have k4 := hi_s (R := R) (nw := h w) (bf := bf) (h := h) (x := nw) hw
    have k5 := fun J => pd_0 (I := J) (R := R) (nw := nw) (bf := bf) (h := h) (x := h w) (by omega)
    refine Or.inr ⟨w, rfl, up I 20 (up (I 20) 0 (nI w)), h w, bf, up h w nw, ?_, ⟨⟨hh.1, q2, hh.2.2, ?_, ?_⟩, ?_, ⟨?_, by omega, ?_, ?_, ?_⟩, ?_⟩, ?_, ?_⟩
    · simp (disch := first | omega | (show List.length _ ≤ 4; exact Nat.le_of_ble_eq_true rfl) | assumption | exact nbo_0 | exact nbo_1 | exact b2_b) only [FE76, s76_0, s76_1, s76_4, s76_7, s76_9, s76_10, s76_11i, s76_11r, s76_12, s76_15, s76_16, s76_17, s76_20, s76_21, s76_24, s76_25, s76_26, s76_27, s76_30, s76_31, s76_34, s76_35, s76_38, s76_39, s76_42, s76_43, s76_46, s76_47, s76_48, s76_49, s76_52, ↓reduceIte, psh_some, psh_none, cln_i, cln_r, cln_n, cln_l, cln_d, cln_f, Option.bind_some, Option.bind_none, if_true, if_false, nI_add, pk_mul, nbo_0, nbo_1, nI_leI, nI_ltI, nI_eq, Nat.reduceAdd, Nat.reduceMul, Nat.add_zero, Nat.mul_zero, up_at, up_up, up_vI, vI_at, gd_0, gd_2 hB, gd_3, pd_3, d1, e1, hs, k1, k2, k3, k4, k5]
    · intro i hi
      by_cases e : i = w
      · rw [e, up_at]; exact ⟨q1, fun hc => hh.2.1 hc.symm, q3⟩
      · rw [up_ne e]
        exact ⟨(q4 i hi).1, inj6 q5 hi hw e, (q4 i hi).2.2⟩
    · intro i j hij hj
      by_cases e : i = w
      · rw [e, up_at, up_ne (by omega)]; exact fun hc => (q4 j hj).2.1 hc.symm
      · rw [up_ne e]
        by_cases e3 : j = w
        · rw [e3, up_at]; exact (q4 i (by omega)).2.1
        · rw [up_ne e3]; exact q5 i j hij hj
    · rw [up_ne (by omega)]; exact d3 w (by omega)
    · rw [up_at, up_at]
    · intro i hi
      have := (q4 i (by omega)).1
      rw [up_ne (show i ≠ w by omega), up_ne (by omega)]; exact d3 i (by omega)
    · rw [up_ne (by omega)]; exact d4
    · intro i hi
      rw [up_ne (by by_cases e : i = w; rw [e, up_at]; omega; rw [up_ne e]; have := (q4 i hi).1; omega)]
      by_cases e : i = w
      · rw [e, up_at, c2]; exact ⟨a, rfl, hW.zz⟩
      · rw [up_ne e]; exact d5 i hi
    · rw [up_ne (by omega)]; exact c8
    · rw [up_ne (by omega)]
    · rw [up_ne (by omega)]
end CH
