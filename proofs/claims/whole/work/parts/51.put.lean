/-! ===== the pad's cells ===== -/
section PD
variable {I : Nat → Nat → Int32} {R : Nat → Nat → Option Nat} {nw bf u n N : Nat} {h hd q : Nat → Nat} {p sl : Nat → Nat → Nat} {a : Nat → Nat}
theorem opd : isO "HandoverDesk$Pad" 210 212 = true := by decide +kernel
theorem gp_r {k a : Nat} (hk : k < 5) (h0 : fk 1 k = 0) (hh : R 212 k = some a) : gfI 210 I R 0 k 212 = some (.ref a) := by
  unfold gfI
  rw [if_neg (by decide), if_pos ⟨by decide, by decide, by decide, hk⟩]
  unfold fv
  rw [show kd 212 = 1 from rfl, h0]
  show some (va_rf (R 212 k)) = _
  rw [hh]
  rfl
theorem gp_0 (hB : BR R) : gfI 210 I (QR R nw bf h) 0 0 212 = some (.ref 213) := gp_r (by decide) rfl hB.2.2.1.1
theorem gp_1 (hB : BR R) : gfI 210 I (QR R nw bf h) 0 1 212 = some (.ref 214) := gp_r (by decide) rfl hB.2.2.1.2
theorem gp_3 : gfI 210 I R 0 3 212 = some (.int (I 20 4)) := rfl
theorem gp_4 : gfI 210 I R 0 4 212 = some (.int (I 20 5)) := rfl
theorem pp_4 {x : Int32} : pfI 210 I R 0 4 212 (.int x) = some (up I 20 (up (I 20) 5 x), R) := rfl
theorem ap_s {k : Nat} (hk : k < 80) : ardI 6 210 I 213 (nI k) = some (I 20 (10 + k)) := ard_of (by decide) rfl (by decide) rfl (by decide) hk
theorem cp_s {k : Nat} (hk : k < 80) : acI 6 210 213 (nI k) := ac_of (by decide) rfl (by decide) rfl (by decide) hk
theorem wp_s {k : Nat} {x : Int32} (hk : k < 2 ^ 31) : wI I 213 (nI k).toNatClampNeg x = up I 20 (up (I 20) (10 + k) x) := by rw [nI_clamp hk]; rfl
theorem ap_v {k : Nat} (hk : k < 3) : ardI 5 210 I 214 (nI k) = some (I 20 (6 + k)) := ard_of (by decide) rfl (by decide) rfl (by decide) hk
theorem cp_v {k : Nat} (hk : k < 3) : acI 5 210 214 (nI k) := ac_of (by decide) rfl (by decide) rfl (by decide) hk
theorem wp_v {k : Nat} {x : Int32} (hk : k < 2 ^ 31) : wI I 214 (nI k).toNatClampNeg x = up I 20 (up (I 20) (6 + k) x) := by rw [nI_clamp hk]; rfl
/-! put -/
def wC (w c n : Nat) : Nat → (Nat → Int32) → Nat → Int32
  | 0, V => V
  | d + 1, V => wC w c n d (up V (10 + (n + d)) (nI (byk w (c - (d + 1)))))
theorem wC_at {w c n : Nat} : ∀ d (V : Nat → Int32) k, wC w c n d V k = if 10 + n ≤ k ∧ k < 10 + n + d then nI (byk w (c - (k - (10 + n) + 1))) else V k
  | 0, V, k => by rw [if_neg (by omega)]; rfl
  | d + 1, V, k => by
    unfold wC
    rw [wC_at d]
    by_cases h1 : 10 + n ≤ k ∧ k < 10 + n + d
    · rw [if_pos h1, if_pos (by omega)]
    · rw [if_neg h1]
      by_cases h2 : k = 10 + (n + d)
      · subst h2
        rw [up_at, if_pos (by omega), show 10 + (n + d) - (10 + n) + 1 = d + 1 by omega]
      · rw [up_ne h2, if_neg (by omega)]
def wM (w c n : Nat) : Nat → (Nat → Int32) → Nat → Int32
  | 0, V => V
  | d + 1, V => wM w c n d (up (up V (10 + (n + c - (d + 1))) (nI (byk w d))) 3 (nI (n + c - d)))
theorem wM_at {w c n : Nat} : ∀ d (V : Nat → Int32) k, d ≤ c → wM w c n d V k = if 10 + (n + c - d) ≤ k ∧ k < 10 + (n + c) then nI (byk w (n + c - 1 - (k - 10))) else if k = 3 ∧ 0 < d then nI (n + c) else V k
  | 0, V, k, _ => by rw [if_neg (by omega), if_neg (by omega)]; rfl
  | d + 1, V, k, hd => by
    unfold wM
    rw [wM_at d _ k (by omega)]
    by_cases h1 : 10 + (n + c - d) ≤ k ∧ k < 10 + (n + c)
    · rw [if_pos h1, if_pos (by omega)]
    · rw [if_neg h1]
      by_cases h2 : k = 10 + (n + c - (d + 1))
      · have e1 : ¬ (k = 3 ∧ 0 < d) := by omega
        rw [if_neg e1, if_pos (by omega), up_ne (show k ≠ 3 by omega), h2, up_at, show n + c - 1 - (10 + (n + c - (d + 1)) - 10) = d by omega]
      · by_cases h3 : k = 3
        · rw [h3]
          by_cases h4 : 0 < d
          · rw [if_pos ⟨rfl, h4⟩, if_neg (by omega), if_pos ⟨rfl, by omega⟩]
          · rw [if_neg (fun hc => h4 hc.2), if_neg (by omega), if_pos ⟨rfl, by omega⟩, up_at, show n + c - d = n + c by omega]
        · rw [if_neg (fun hc => h3 hc.1), if_neg (by omega), if_neg (fun hc => h3 hc.1), up_ne h3, up_ne h2]
theorem p1 {w c n : Nat} (hB : BR R) (hw : w < 2 ^ 64) (hnc : n + c ≤ 80) (hc : c ≤ 8) : ∀ d j (V : Nat → Int32), j + d = c → V 3 = nI n → EE 1 39 [some (.ref 212), some (.long (lN w)), none, some (.int (nI c)), some (.long (lN (w / 2 ^ (8 * j)))), none, some (.int (nI (n + d) + -1))] [] (210, up I 20 V, QR R nw bf h) = EE 1 76 [some (.ref 212), some (.long (lN w)), none, some (.int (nI c)), some (.long (lN (w / 2 ^ (8 * c)))), none, some (.int (nI n + -1))] [] (210, up I 20 (wC w c n d V), QR R nw bf h) := by
  have ho := opd
  intro d
  induction d with
  | zero =>
    intro j V hj hV
    have e : j = c := by omega
    have c1 : (nI n + -1 < nI n) = True := by
      refine eq_true ?_
      rw [Int32.lt_iff_toInt_lt, Int32.toInt_add, nI_toInt (by omega), show (-1 : Int32).toInt = -1 from rfl, Int.bmod_eq_of_le (by omega) (by omega)]
      omega
    subst e
    rw [s1_39, Nat.add_zero]
    simp (disch := first | omega | (show List.length _ ≤ 4; exact Nat.le_of_ble_eq_true rfl) | assumption | exact nbo_0 | exact nbo_1 | exact b2_b) only [s1_41, s1_42, s1_45, ↓reduceIte, psh_some, psh_none, cln_i, cln_r, cln_n, cln_l, cln_d, cln_f, Option.bind_some, Option.bind_none, if_true, if_false, nI_add, pk_mul, nbo_0, nbo_1, nI_leI, nI_ltI, nI_eq, Nat.reduceAdd, Nat.reduceMul, Nat.add_zero, Nat.mul_zero, up_at, up_up, up_vI, vI_at, gp_2, hV, c1]
    rfl
  | succ d ih =>
    intro j V hj hV
    have lt : w / 2 ^ (8 * j) < 2 ^ 64 := Nat.lt_of_le_of_lt (Nat.div_le_self _ _) hw
    have a := and255 lt
    have hb : w / 2 ^ (8 * j) % 256 = byk w j := rfl
    rw [hb] at a
    have bl := byk_lt w j
    have sh : ((lN (w / 2 ^ (8 * j))).toUInt64 >>> ((nI 8).toInt64.toUInt64 &&& Int64.toUInt64 63)).toInt64 = lN (w / 2 ^ (8 * (j + 1))) := by
      rw [wb_shr lt (by decide), Nat.div_div_eq_div_mul, ← Nat.pow_add, show 8 * j + 8 = 8 * (j + 1) by omega]
    have k : nI (n + (d + 1)) + -1 = nI (n + d) := nI_m1 (n + d)
    have e1 : ¬ n + d < n := by omega
    have i1 := lN_i (byk w j)
    have i2 := nI_i2c _ bl
    have i3 := nI_nar _ bl
    have cs := cp_s (k := n + d) (by omega)
    have ej : c - (d + 1) = j := by omega
    have hV2 : up V (10 + (n + d)) (nI (byk w (c - (d + 1)))) 3 = nI n := by rw [up_ne (by omega)]; exact hV
    refine Eq.trans ?_ (ih (j + 1) (up V (10 + (n + d)) (nI (byk w (c - (d + 1))))) (by omega) hV2)
    rw [k, ej, s1_39]
    simp (disch := first | omega | (show List.length _ ≤ 4; exact Nat.le_of_ble_eq_true rfl) | assumption | exact nbo_0 | exact nbo_1 | exact b2_b) only [s1_0, s1_1, s1_4, s1_5, s1_6, s1_9, s1_11, s1_12, s1_13, s1_16, s1_17, s1_18, s1_20, s1_23, s1_25, s1_26, s1_27, s1_29, s1_30, s1_33, s1_34, s1_35, s1_36, s1_37, s1_41, s1_42, s1_45, s1_48, s1_49, s1_52, s1_54, s1_56, s1_59, s1_60, s1_61, s1_62, s1_63, s1_65, s1_67, s1_68, s1_70, s1_73, s1_76, s1_77i, s1_77r, s1_78, s1_81, s1_82, s1_83, s1_86, s1_87, s1_90, ↓reduceIte, psh_some, psh_none, cln_i, cln_r, cln_n, cln_l, cln_d, cln_f, Option.bind_some, Option.bind_none, if_true, if_false, nI_add, pk_mul, nbo_0, nbo_1, nI_leI, nI_ltI, nI_eq, Nat.reduceAdd, Nat.reduceMul, Nat.add_zero, Nat.mul_zero, up_at, up_up, up_vI, vI_at, gp_2, gp_0 hB, hV, e1, a, i1, i2, i3, sh, wp_s]
theorem p137 {w c n : Nat} (hR : RM R) (hw : w < 2 ^ 64) (hnc : n + c ≤ 80) (hc : c ≤ 8) : ∀ d (V : Nat → Int32), d ≤ c → V 3 = nI (n + c - d) → EE 137 30 [some (.ref 224), some (.long (lN w)), none, some (.int (nI c)), some (.int (nI d + -1))] [] (210, up I 32 V, R) = EE 137 66 [some (.ref 224), some (.long (lN w)), none, some (.int (nI c)), some (.int (-1))] [] (210, up I 32 (wM w c n d V), R) := by
  have ho := om
  intro d
  induction d with
  | zero =>
    intro V hd hV
    have e1 : nI 0 + -1 = (-1 : Int32) := by decide
    have e2 : ((-1 : Int32) < 0) = True := eq_true (by decide)
    rw [e1, s137_30]
    simp (disch := first | omega | (show List.length _ ≤ 4; exact Nat.le_of_ble_eq_true rfl) | assumption | exact nbo_0 | exact nbo_1 | exact b2_b) only [s137_32, ↓reduceIte, psh_some, psh_none, cln_i, cln_r, cln_n, cln_l, cln_d, cln_f, Option.bind_some, Option.bind_none, if_true, if_false, nI_add, pk_mul, nbo_0, nbo_1, nI_leI, nI_ltI, nI_eq, Nat.reduceAdd, Nat.reduceMul, Nat.add_zero, Nat.mul_zero, e2]
    rfl
  | succ d ih =>
    intro V hd hV
    have k : nI (d + 1) + -1 = nI d := nI_m1 d
    have e1 : ¬ nI d < 0 := nI_pos (by omega)
    have g := fun M : Mm => f139 (M := M) (w := w) (k := d) (by omega)
    have cs := cm_d (k := n + c - (d + 1)) (by omega)
    have e2 : n + c - (d + 1) + 1 = n + c - d := by omega
    have hV2 : up (up V (10 + (n + c - (d + 1))) (nI (byk w d))) 3 (nI (n + c - d)) 3 = nI (n + c - d) := up_at _ _ _
    have hV3 : up V (10 + (n + c - (d + 1))) (nI (byk w d)) 3 = nI (n + c - (d + 1)) := by rw [up_ne (by omega)]; exact hV
    refine Eq.trans ?_ (ih _ (by omega) hV2)
    rw [k, s137_30]
    simp (disch := first | omega | (show List.length _ ≤ 4; exact Nat.le_of_ble_eq_true rfl) | assumption | exact nbo_0 | exact nbo_1 | exact b2_b) only [s137_0, s137_1, s137_4, s137_5, s137_6, s137_9, s137_10, s137_11, s137_12, s137_15, s137_16, s137_17, s137_19, s137_22, s137_24, s137_25, s137_26, s137_27, s137_28, s137_32, s137_35, s137_36, s137_39, s137_40, s137_43, s137_44, s137_46, s137_49, s137_50, s137_51i, s137_51r, s137_52, s137_55, s137_56, s137_57, s137_60, s137_63, s137_66, s137_67, s137_70, ↓reduceIte, psh_some, psh_none, cln_i, cln_r, cln_n, cln_l, cln_d, cln_f, Option.bind_some, Option.bind_none, if_true, if_false, nI_add, pk_mul, nbo_0, nbo_1, nI_leI, nI_ltI, nI_eq, Nat.reduceAdd, Nat.reduceMul, Nat.add_zero, Nat.mul_zero, up_at, up_up, up_vI, vI_at, gm_6 hR, gm_7, pm_7, hV, hV3, e1, e2, g, wm_d]
theorem pr_put (hB : BR R) (hG : GL N a u p sl hd n q) (hC : CL I nw bf h a u p sl hd n q) (hM : ML I a u p sl hd n q) (x : Int64) : PR R I (QR R nw bf h) N 72 [.ref 208, .long x] 137 [.ref 224, .long x] := by
  have ho := od
  have ho2 := opd
  have ho3 := om
  have hRM : RM (QR R nw bf h) := QR_RM hB.2.2.2.2
  obtain ⟨w, hw, rfl⟩ := wb_of x
  have g2 := fun M : Mm => f2 (M := M) hw
  have g138 := fun M : Mm => f138 (M := M) hw
  have pk := pcs_ok w 8 0 (fun j hj => by omega)
  generalize pcs w 8 0 = c at *
  have c20 := hC.2.2.2.2.2.1
  have m32 := hM.2.2.2.1
  have hn := hG.2.2.2.1
  by_cases e0 : c = 0
  · subst e0
    have e1 : (0 ≤ (-2 : Int32)) = False := eq_false (by decide)
    refine view (r := .int (-2)) hG hC hM ?_ ?_
    · simp (disch := first | omega | (show List.length _ ≤ 4; exact Nat.le_of_ble_eq_true rfl) | assumption | exact nbo_0 | exact nbo_1 | exact b2_b) only [FE72, s72_0, s72_1, s72_4, s72_5, s72_8, ↓reduceIte, psh_some, psh_none, cln_i, cln_r, cln_n, cln_l, cln_d, cln_f, Option.bind_some, Option.bind_none, if_true, if_false, nI_add, pk_mul, nbo_0, nbo_1, nI_leI, nI_ltI, nI_eq, Nat.reduceAdd, Nat.reduceMul, Nat.add_zero, Nat.mul_zero, gd_6 hB, FE1, s1_0, s1_1, s1_4, s1_5, s1_6, s1_9, s1_11, g2, z0]
    · simp (disch := first | omega | (show List.length _ ≤ 4; exact Nat.le_of_ble_eq_true rfl) | assumption | exact nbo_0 | exact nbo_1 | exact b2_b) only [FE137, s137_0, s137_1, s137_4, s137_5, s137_6, s137_9, s137_10, ↓reduceIte, psh_some, psh_none, cln_i, cln_r, cln_n, cln_l, cln_d, cln_f, Option.bind_some, Option.bind_none, if_true, if_false, nI_add, pk_mul, nbo_0, nbo_1, nI_leI, nI_ltI, nI_eq, Nat.reduceAdd, Nat.reduceMul, Nat.add_zero, Nat.mul_zero, g138, e1]
  · have e1 : (nI c = (0 : Int32)) = False := eq_false (nI_ne0 (by omega) (by omega))
    have e2 : (0 ≤ nI c) = True := eq_true (by have := nI_pos (n := c) (by omega); exact Int32.not_lt.mp this)
    simp only [if_neg e0] at g138
    by_cases e3 : n + c ≤ 80
    · have b1 : nI (n + c) - nI 1 = nI (n + c) + -1 := by
        rw [show n + c = (n + c - 1) + 1 by omega, nI_m1, nI_sub (by omega), Nat.add_sub_cancel]
      have b2 : nI c - nI 1 = nI c + -1 := by
        rw [show c = (c - 1) + 1 by omega, nI_m1, nI_sub (by omega), Nat.add_sub_cancel]
      have hc8 : c ≤ 8 := by omega
      have k1 := p1 (I := I) (R := R) (nw := nw) (bf := bf) (h := h) (w := w) (c := c) (n := n) hB hw e3 hc8 c 0 (I 20) (by omega) c20
      rw [up_eq rfl, show w / 2 ^ (8 * 0) = w by simp] at k1
      have w3 : wC w c n c (I 20) 3 = nI n := by rw [wC_at, if_neg (by omega)]; exact c20
      have r1 : FF 72 [.ref 208, .long (lN w)] (210, I, QR R nw bf h) = some (some (.int (nI (n + c))), 210, up I 20 (up (wC w c n c (I 20)) 3 (nI (n + c))), QR R nw bf h) := by
        have st : FF 1 [.ref 212, .long (lN w)] (210, I, QR R nw bf h) = EE 1 39 [some (.ref 212), some (.long (lN w)), none, some (.int (nI c)), some (.long (lN w)), none, some (.int (nI (n + c) + -1))] [] (210, I, QR R nw bf h) := by
          simp (disch := first | omega | (show List.length _ ≤ 4; exact Nat.le_of_ble_eq_true rfl) | assumption | exact nbo_0 | exact nbo_1 | exact b2_b) only [FE1, s1_0, s1_1, s1_4, s1_5, s1_6, s1_12, s1_13, s1_16, s1_17, s1_18, s1_20, s1_26, s1_27, s1_29, s1_30, s1_33, s1_34, s1_35, s1_36, s1_37, ↓reduceIte, psh_some, psh_none, cln_i, cln_r, cln_n, cln_l, cln_d, cln_f, Option.bind_some, Option.bind_none, if_true, if_false, nI_add, pk_mul, nbo_0, nbo_1, nI_leI, nI_ltI, nI_eq, Nat.reduceAdd, Nat.reduceMul, Nat.add_zero, Nat.mul_zero, g2, e1, gp_2, c20, e3, b1]
        have st2 : FF 1 [.ref 212, .long (lN w)] (210, I, QR R nw bf h) = some (some (.int (nI (n + c))), 210, up I 20 (up (wC w c n c (I 20)) 3 (nI (n + c))), QR R nw bf h) := by
          rw [st, k1]
          simp (disch := first | omega | (show List.length _ ≤ 4; exact Nat.le_of_ble_eq_true rfl) | assumption | exact nbo_0 | exact nbo_1 | exact b2_b) only [s1_76, s1_77r, s1_78, s1_81, s1_82, s1_83, s1_86, s1_87, s1_90, ↓reduceIte, psh_some, psh_none, cln_i, cln_r, cln_n, cln_l, cln_d, cln_f, Option.bind_some, Option.bind_none, if_true, if_false, nI_add, pk_mul, nbo_0, nbo_1, nI_leI, nI_ltI, nI_eq, Nat.reduceAdd, Nat.reduceMul, Nat.add_zero, Nat.mul_zero, up_at, up_up, up_vI, vI_at, gp_2, pp_2, w3]
        simp (disch := first | omega | (show List.length _ ≤ 4; exact Nat.le_of_ble_eq_true rfl) | assumption | exact nbo_0 | exact nbo_1 | exact b2_b) only [FE72, s72_0, s72_1, s72_4, s72_5, s72_8, ↓reduceIte, psh_some, psh_none, cln_i, cln_r, cln_n, cln_l, cln_d, cln_f, Option.bind_some, Option.bind_none, if_true, if_false, nI_add, pk_mul, nbo_0, nbo_1, nI_leI, nI_ltI, nI_eq, Nat.reduceAdd, Nat.reduceMul, Nat.add_zero, Nat.mul_zero, gd_6 hB, st2]
      have hM2 := hM.congr (I' := up I 20 (up (wC w c n c (I 20)) 3 (nI (n + c)))) (fun v h1 _ _ => up_ne (by omega))
      have k2 := p137 (I := up I 20 (up (wC w c n c (I 20)) 3 (nI (n + c)))) (R := QR R nw bf h) (w := w) (c := c) (n := n) hRM hw e3 hc8 c (I 32) (Nat.le_refl c) (by rw [Nat.add_sub_cancel]; exact m32)
      have e32 : up I 20 (up (wC w c n c (I 20)) 3 (nI (n + c))) 32 = I 32 := up_ne (by decide)
      rw [up_eq e32] at k2
      have w4 : wM w c n c (I 32) 3 = nI (n + c) := by rw [wM_at c _ _ (Nat.le_refl c), if_neg (by omega), if_pos ⟨rfl, by omega⟩]
      have r2 : FF 137 [.ref 224, .long (lN w)] (210, up I 20 (up (wC w c n c (I 20)) 3 (nI (n + c))), QR R nw bf h) = some (some (.int (nI (n + c))), 210, up (up I 20 (up (wC w c n c (I 20)) 3 (nI (n + c)))) 32 (wM w c n c (I 32)), QR R nw bf h) := by
        have st : FF 137 [.ref 224, .long (lN w)] (210, up I 20 (up (wC w c n c (I 20)) 3 (nI (n + c))), QR R nw bf h) = EE 137 30 [some (.ref 224), some (.long (lN w)), none, some (.int (nI c)), some (.int (nI c + -1))] [] (210, up I 20 (up (wC w c n c (I 20)) 3 (nI (n + c))), QR R nw bf h) := by
          simp (disch := first | omega | (show List.length _ ≤ 4; exact Nat.le_of_ble_eq_true rfl) | assumption | exact nbo_0 | exact nbo_1 | exact b2_b) only [FE137, s137_0, s137_1, s137_4, s137_5, s137_6, s137_11, s137_12, s137_15, s137_16, s137_17, s137_19, s137_25, s137_26, s137_27, s137_28, ↓reduceIte, psh_some, psh_none, cln_i, cln_r, cln_n, cln_l, cln_d, cln_f, Option.bind_some, Option.bind_none, if_true, if_false, nI_add, pk_mul, nbo_0, nbo_1, nI_leI, nI_ltI, nI_eq, Nat.reduceAdd, Nat.reduceMul, Nat.add_zero, Nat.mul_zero, g138, e2, gm_7, e32, m32, e3, b2]
        rw [st, k2]
        simp (disch := first | omega | (show List.length _ ≤ 4; exact Nat.le_of_ble_eq_true rfl) | assumption | exact nbo_0 | exact nbo_1 | exact b2_b) only [s137_66, s137_67, s137_70, ↓reduceIte, psh_some, psh_none, cln_i, cln_r, cln_n, cln_l, cln_d, cln_f, Option.bind_some, Option.bind_none, if_true, if_false, nI_add, pk_mul, nbo_0, nbo_1, nI_leI, nI_ltI, nI_eq, Nat.reduceAdd, Nat.reduceMul, Nat.add_zero, Nat.mul_zero, up_at, up_up, up_vI, vI_at, gm_7, w4]
      refine ⟨.int (nI (n + c)), _, _, _, r1, r2, ⟨nw, bf, h, a, u, p, sl, hd, n + c, (fun i => if n ≤ i then byk w (n + c - 1 - i) else q i), rfl, ⟨hG.1, hG.2.1, hG.2.2.1, e3, fun k hk => ?_⟩, hC.pad (fun v hv => by rw [up_ne (by omega), up_ne (by omega)]) (fun j hj => ?_) ?_ (fun k hk => ?_), hM.pad (fun v h1 h2 h3 => by rw [up_ne (by omega), up_ne (by omega)]) (fun j hj => ?_) ?_ (fun k hk => ?_)⟩, by rw [up_ne (by omega), up_ne (by omega)], by rw [up_ne (by omega), up_ne (by omega)], by rw [up_ne (by omega)], by rw [up_ne (by omega)]⟩
      · show 33 ≤ (if n ≤ k then byk w (n + c - 1 - k) else q k) ∧ (if n ≤ k then byk w (n + c - 1 - k) else q k) ≤ 126
        by_cases h1 : n ≤ k
        · rw [if_pos h1]; exact pk.2 _ (by omega)
        · rw [if_neg h1]; exact hG.2.2.2.2 k (by omega)
      · rw [up_ne (by omega), up_at, up_ne (by omega), wC_at, if_neg (by omega)]
      · rw [up_ne (by omega), up_at, up_at]
      · show up (up I 20 _) 32 _ 20 (10 + k) = nI (if n ≤ k then byk w (n + c - 1 - k) else q k)
        rw [up_ne (by omega), up_at, up_ne (by omega), wC_at]
        by_cases h1 : n ≤ k
        · rw [if_pos (by omega), if_pos h1, show c - (10 + k - (10 + n) + 1) = n + c - 1 - k by omega]
        · rw [if_neg (by omega), if_neg h1]; exact hC.2.2.2.2.2.2.1 k (by omega)
      · rw [up_at, wM_at c _ _ (Nat.le_refl c), if_neg (by omega), if_neg (by omega)]
      · rw [up_at]; exact w4
      · show up (up I 20 _) 32 _ 32 (10 + k) = nI (if n ≤ k then byk w (n + c - 1 - k) else q k)
        rw [up_at, wM_at c _ _ (Nat.le_refl c)]
        by_cases h1 : n ≤ k
        · rw [if_pos (by omega), if_pos h1, show 10 + k - 10 = k by omega]
        · rw [if_neg (by omega), if_neg (by omega), if_neg h1]; exact hM.2.2.2.2.1 k (by omega)
    · refine view (r := .int (-4)) hG hC hM ?_ ?_
      · simp (disch := first | omega | (show List.length _ ≤ 4; exact Nat.le_of_ble_eq_true rfl) | assumption | exact nbo_0 | exact nbo_1 | exact b2_b) only [FE72, s72_0, s72_1, s72_4, s72_5, s72_8, ↓reduceIte, psh_some, psh_none, cln_i, cln_r, cln_n, cln_l, cln_d, cln_f, Option.bind_some, Option.bind_none, if_true, if_false, nI_add, pk_mul, nbo_0, nbo_1, nI_leI, nI_ltI, nI_eq, Nat.reduceAdd, Nat.reduceMul, Nat.add_zero, Nat.mul_zero, gd_6 hB, FE1, s1_0, s1_1, s1_4, s1_5, s1_6, s1_12, s1_13, s1_16, s1_17, s1_18, s1_20, s1_23, s1_25, g2, e1, gp_2, c20, e3]
      · simp (disch := first | omega | (show List.length _ ≤ 4; exact Nat.le_of_ble_eq_true rfl) | assumption | exact nbo_0 | exact nbo_1 | exact b2_b) only [FE137, s137_0, s137_1, s137_4, s137_5, s137_6, s137_11, s137_12, s137_15, s137_16, s137_17, s137_19, s137_22, s137_24, ↓reduceIte, psh_some, psh_none, cln_i, cln_r, cln_n, cln_l, cln_d, cln_f, Option.bind_some, Option.bind_none, if_true, if_false, nI_add, pk_mul, nbo_0, nbo_1, nI_leI, nI_ltI, nI_eq, Nat.reduceAdd, Nat.reduceMul, Nat.add_zero, Nat.mul_zero, g138, e2, gm_7, m32, e3]
end PD
