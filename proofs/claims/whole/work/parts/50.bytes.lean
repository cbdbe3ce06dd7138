/-! ===== long numbers (rows of the kit's BITS) ===== -/
theorem wb_tb (n : Nat) : (lN n).toBitVec = BitVec.ofNat 64 n := rfl
theorem wb_inj {a b : Int64} (h : a.toBitVec = b.toBitVec) : a = b := Int64.toBitVec_inj.mp h
theorem wb_tn {n : Nat} (h : n < 2 ^ 64) : (lN n).toBitVec.toNat = n := by rw [wb_tb, BitVec.toNat_ofNat, Nat.mod_eq_of_lt h]
theorem wb_of (x : Int64) : ∃ n, n < 2 ^ 64 ∧ x = lN n := ⟨x.toBitVec.toNat, x.toBitVec.isLt, wb_inj (by rw [wb_tb]; simp)⟩
theorem wb_of32 (x : Int32) : ∃ n, n < 2 ^ 32 ∧ x = nI n := ⟨x.toBitVec.toNat, x.toBitVec.isLt, Int32.toBitVec_inj.mp (by show _ = BitVec.ofNat 32 _; simp)⟩
theorem wb_c : ∀ k, k < 64 → ((nI k).toInt64 &&& 63) = lN k := by decide +kernel
theorem wb_cu : ∀ k, k < 64 → ((nI k).toInt64.toUInt64 &&& Int64.toUInt64 63) = UInt64.ofNat k := by decide +kernel
theorem wb_sm : ∀ k, k < 64 → (BitVec.ofNat 64 k).smod 64 = BitVec.ofNat 64 k := by decide +kernel
theorem wb_pw {a b : Nat} (h : a ≤ b) : 2 ^ b = 2 ^ a * 2 ^ (b - a) := by rw [← Nat.pow_add]; congr 1; omega
theorem wb_lt2 {a b : Nat} (h : a < b) : 2 ^ a < 2 ^ b := Nat.pow_lt_pow_right (by decide) h
theorem wb_mod (n : Nat) : lN n = lN (n % 2 ^ 64) := wb_inj (by rw [wb_tb, wb_tb]; apply BitVec.eq_of_toNat_eq; rw [BitVec.toNat_ofNat, BitVec.toNat_ofNat, Nat.mod_mod])
theorem wb_shr {n k : Nat} (hn : n < 2 ^ 64) (hk : k < 64) : ((lN n).toUInt64 >>> ((nI k).toInt64.toUInt64 &&& Int64.toUInt64 63)).toInt64 = lN (n / 2 ^ k) := by
  rw [wb_cu k hk]
  apply wb_inj
  apply BitVec.eq_of_toNat_eq
  show ((lN n).toUInt64 >>> UInt64.ofNat k).toNat = (BitVec.ofNat 64 _).toNat
  have h1 : (UInt64.ofNat k).toNat = k := by
    show (BitVec.ofNat 64 k).toNat = k
    rw [BitVec.toNat_ofNat, Nat.mod_eq_of_lt (by omega)]
  have h2 : (lN n).toUInt64.toNat = n := wb_tn hn
  rw [UInt64.toNat_shiftRight, h1, h2, Nat.mod_eq_of_lt hk, Nat.shiftRight_eq_div_pow, BitVec.toNat_ofNat, Nat.mod_eq_of_lt (Nat.lt_of_le_of_lt (Nat.div_le_self _ _) hn)]
theorem wb_shl (n : Nat) {k : Nat} (hk : k < 64) : lN n <<< ((nI k).toInt64 &&& 63) = lN (n * 2 ^ k) := by
  rw [wb_c k hk]
  apply wb_inj
  rw [Int64.toBitVec_shiftLeft, wb_tb, wb_tb, wb_tb, wb_sm k hk]
  apply BitVec.eq_of_toNat_eq
  rw [BitVec.shiftLeft_eq', BitVec.toNat_shiftLeft, BitVec.toNat_ofNat, BitVec.toNat_ofNat, BitVec.toNat_ofNat, Nat.mod_eq_of_lt (show k < 2 ^ 64 by omega), Nat.shiftLeft_eq, Nat.mul_mod, Nat.mod_mod, ← Nat.mul_mod]
theorem wb_and {a b : Nat} (ha : a < 2 ^ 64) (hb : b < 2 ^ 64) : lN a &&& lN b = lN (a &&& b) := by
  apply wb_inj
  rw [Int64.toBitVec_and, wb_tb, wb_tb, wb_tb]
  apply BitVec.eq_of_toNat_eq
  rw [BitVec.toNat_and, BitVec.toNat_ofNat, BitVec.toNat_ofNat, BitVec.toNat_ofNat, Nat.mod_eq_of_lt ha, Nat.mod_eq_of_lt hb, Nat.mod_eq_of_lt (Nat.and_lt_two_pow _ hb)]
theorem wb_mask {n k : Nat} (hn : n < 2 ^ 64) (hk : k < 64) : lN n &&& lN (2 ^ k - 1) = lN (n % 2 ^ k) := by
  rw [wb_and hn (by have := wb_lt2 hk; omega), Nat.and_two_pow_sub_one_eq_mod]
/-! ===== the bytes of a number ===== -/
theorem sar_by {n k : Nat} (hk : k < 8) : ((lN n >>> ((nI (8 * k)).toInt64 &&& 63)) &&& 255) = lN (n / 2 ^ (8 * k) % 256) := by
  have h255 : ∀ i, i < 64 → (BitVec.ofNat 64 255).getLsbD i = decide (i < 8) := by decide +kernel
  rw [wb_c (8 * k) (by omega)]
  apply wb_inj
  rw [Int64.toBitVec_and, Int64.toBitVec_shiftRight, wb_tb, wb_tb, wb_tb, wb_sm (8 * k) (by omega), BitVec.sshiftRight_eq', BitVec.toNat_ofNat, Nat.mod_eq_of_lt (show 8 * k < 2 ^ 64 by omega), show (255 : Int64).toBitVec = BitVec.ofNat 64 255 from rfl]
  apply BitVec.eq_of_getLsbD_eq
  intro i hi
  rw [BitVec.getLsbD_and, BitVec.getLsbD_sshiftRight, h255 i hi, BitVec.getLsbD_ofNat, BitVec.getLsbD_ofNat, show (256 : Nat) = 2 ^ 8 from rfl, Nat.testBit_mod_two_pow, Nat.testBit_div_two_pow]
  by_cases h8 : i < 8
  · rw [if_pos (by omega), Nat.add_comm (8 * k) i]
    simp [hi, h8, show i + 8 * k < 64 by omega, show ¬ 64 ≤ i by omega]
  · simp [h8]
theorem lN_0 : ∀ m, m < 256 → (lg_cmp (lN m) 0 = 0 ↔ m = 0) := by decide +kernel
theorem lN_33 : ∀ m, m < 256 → (lg_cmp (lN m) 33 < 0 ↔ m < 33) := by decide +kernel
theorem lN_126 : ∀ m, m < 256 → (lg_cmp (lN m) 126 ≤ 0 ↔ m ≤ 126) := by decide +kernel
theorem nI_i2c : ∀ m, m < 256 → ((nI m).toUInt32 % 65536).toInt32 = nI m := by decide +kernel
theorem nI_nar : ∀ m, m < 256 → vp_nar .char (nI m) = nI m := by decide +kernel
theorem lN_z {w : Nat} (hw : w < 2 ^ 64) : lg_cmp (lN w) 0 = 0 ↔ w = 0 := by
  constructor
  · intro h
    by_cases e : lN w = 0
    · have e2 : lN w = lN 0 := e
      have e3 := congrArg (fun x => x.toBitVec.toNat) e2
      simp only [wb_tn hw, wb_tn (show 0 < 2 ^ 64 by decide)] at e3
      exact e3
    · exfalso
      unfold lg_cmp at h
      by_cases e2 : lN w > 0
      · rw [if_pos e2] at h; exact absurd h (by decide)
      · rw [if_neg e2, if_neg e] at h; exact absurd h (by decide)
  · rintro rfl
    decide
theorem and255 {w : Nat} (hw : w < 2 ^ 64) : lN w &&& 255 = lN (w % 256) := wb_mask (k := 8) hw (by decide)
def byk (w k : Nat) : Nat := w / 2 ^ (8 * k) % 256
theorem byk_lt (w k : Nat) : byk w k < 256 := Nat.mod_lt _ (by decide)
theorem byk_s (w k : Nat) : w / 2 ^ (8 * k) = 256 * (w / 2 ^ (8 * (k + 1))) + byk w k := by
  unfold byk
  rw [show 8 * (k + 1) = 8 * k + 8 by omega, Nat.pow_add, ← Nat.div_div_eq_div_mul]
  omega
/-- how many signs a number holds, 0 if it is not well made -/
def pcs (w : Nat) : Nat → Nat → Nat
  | 0, k => if w / 2 ^ (8 * k) = 0 then k else 0
  | d + 1, k => if byk w k = 0 then (if w / 2 ^ (8 * k) = 0 then k else 0) else if 33 ≤ byk w k ∧ byk w k ≤ 126 then pcs w d (k + 1) else 0
theorem pcs_ok (w : Nat) : ∀ d k, (∀ j, j < k → 33 ≤ byk w j ∧ byk w j ≤ 126) → pcs w d k ≤ k + d ∧ ∀ j, j < pcs w d k → 33 ≤ byk w j ∧ byk w j ≤ 126
  | 0, k, h => by
    unfold pcs
    by_cases e : w / 2 ^ (8 * k) = 0
    · rw [if_pos e]; exact ⟨by omega, h⟩
    · rw [if_neg e]; exact ⟨by omega, fun j hj => by omega⟩
  | d + 1, k, h => by
    unfold pcs
    by_cases e0 : byk w k = 0
    · rw [if_pos e0]
      by_cases e : w / 2 ^ (8 * k) = 0
      · rw [if_pos e]; exact ⟨by omega, h⟩
      · rw [if_neg e]; exact ⟨by omega, fun j hj => by omega⟩
    · rw [if_neg e0]
      by_cases e1 : 33 ≤ byk w k ∧ byk w k ≤ 126
      · rw [if_pos e1]
        have g := pcs_ok w d (k + 1) (fun j hj => by
          by_cases ej : j = k
          · rw [ej]; exact e1
          · exact h j (by omega))
        exact ⟨by omega, g.2⟩
      · rw [if_neg e1]; exact ⟨by omega, fun j hj => by omega⟩
section PB
variable {M : Mm}
theorem p2 {w : Nat} {l0 : Option Value} (hw : w < 2 ^ 64) : ∀ d k (l5 : Option Value), k + d = 8 → EE 2 5 [l0, none, some (.long (lN (w / 2 ^ (8 * k)))), none, some (.int (nI k)), l5, none] [] M = some (some (.int (nI (pcs w d k))), M) := by
  intro d
  have lt : ∀ k, w / 2 ^ (8 * k) < 2 ^ 64 := fun k => Nat.lt_of_le_of_lt (Nat.div_le_self _ _) hw
  induction d with
  | zero =>
    intro k l5 hk
    have e : 8 ≤ k := by omega
    have z := lN_z (lt k)
    unfold pcs
    rw [s2_5]
    by_cases e1 : w / 2 ^ (8 * k) = 0
    · have z1 := z.mpr e1
      rw [if_pos e1]
      rw [e1] at z1
      simp (disch := first | omega | (show List.length _ ≤ 4; exact Nat.le_of_ble_eq_true rfl) | assumption | exact nbo_0 | exact nbo_1 | exact b2_b) only [s2_7, s2_9, s2_60, s2_61, s2_62, s2_63, s2_66, s2_68, s2_72, ↓reduceIte, psh_some, psh_none, cln_i, cln_r, cln_n, cln_l, cln_d, cln_f, Option.bind_some, Option.bind_none, if_true, if_false, nI_add, pk_mul, nbo_0, nbo_1, nI_leI, nI_ltI, nI_eq, Nat.reduceAdd, Nat.reduceMul, Nat.add_zero, Nat.mul_zero, e, z1, e1]
    · have z1 : ¬ lg_cmp (lN (w / 2 ^ (8 * k))) 0 = 0 := fun hc => e1 (z.mp hc)
      rw [if_neg e1]
      simp (disch := first | omega | (show List.length _ ≤ 4; exact Nat.le_of_ble_eq_true rfl) | assumption | exact nbo_0 | exact nbo_1 | exact b2_b) only [s2_7, s2_9, s2_60, s2_61, s2_62, s2_63, s2_71, s2_72, ↓reduceIte, psh_some, psh_none, cln_i, cln_r, cln_n, cln_l, cln_d, cln_f, Option.bind_some, Option.bind_none, if_true, if_false, nI_add, pk_mul, nbo_0, nbo_1, nI_leI, nI_ltI, nI_eq, Nat.reduceAdd, Nat.reduceMul, Nat.add_zero, Nat.mul_zero, e, z1]
  | succ d ih =>
    intro k l5 hk
    have e : ¬ 8 ≤ k := by omega
    have a := and255 (lt k)
    have hb : w / 2 ^ (8 * k) % 256 = byk w k := rfl
    rw [hb] at a
    have bl := byk_lt w k
    have sh : ((lN (w / 2 ^ (8 * k))).toUInt64 >>> ((nI 8).toInt64.toUInt64 &&& Int64.toUInt64 63)).toInt64 = lN (w / 2 ^ (8 * (k + 1))) := by
      rw [wb_shr (lt k) (by decide), Nat.div_div_eq_div_mul, ← Nat.pow_add, show 8 * k + 8 = 8 * (k + 1) by omega]
    unfold pcs
    rw [s2_5]
    by_cases e0 : byk w k = 0
    · have c0 := (lN_0 _ bl).mpr e0
      rw [if_pos e0]
      have z := lN_z (lt k)
      by_cases e1 : w / 2 ^ (8 * k) = 0
      · have z1 := z.mpr e1
        rw [if_pos e1]
        simp (disch := first | omega | (show List.length _ ≤ 4; exact Nat.le_of_ble_eq_true rfl) | assumption | exact nbo_0 | exact nbo_1 | exact b2_b) only [s2_7, s2_9, s2_12, s2_13, s2_16, s2_17, s2_18, s2_19, s2_60, s2_61, s2_62, s2_63, s2_66, s2_68, s2_72, ↓reduceIte, psh_some, psh_none, cln_i, cln_r, cln_n, cln_l, cln_d, cln_f, Option.bind_some, Option.bind_none, if_true, if_false, nI_add, pk_mul, nbo_0, nbo_1, nI_leI, nI_ltI, nI_eq, Nat.reduceAdd, Nat.reduceMul, Nat.add_zero, Nat.mul_zero, e, a, c0, z1]
      · have z1 : ¬ lg_cmp (lN (w / 2 ^ (8 * k))) 0 = 0 := fun hc => e1 (z.mp hc)
        rw [if_neg e1]
        simp (disch := first | omega | (show List.length _ ≤ 4; exact Nat.le_of_ble_eq_true rfl) | assumption | exact nbo_0 | exact nbo_1 | exact b2_b) only [s2_7, s2_9, s2_12, s2_13, s2_16, s2_17, s2_18, s2_19, s2_60, s2_61, s2_62, s2_63, s2_71, s2_72, ↓reduceIte, psh_some, psh_none, cln_i, cln_r, cln_n, cln_l, cln_d, cln_f, Option.bind_some, Option.bind_none, if_true, if_false, nI_add, pk_mul, nbo_0, nbo_1, nI_leI, nI_ltI, nI_eq, Nat.reduceAdd, Nat.reduceMul, Nat.add_zero, Nat.mul_zero, e, a, c0, z1]
    · have c0 : ¬ lg_cmp (lN (byk w k)) 0 = 0 := fun hc => e0 ((lN_0 _ bl).mp hc)
      rw [if_neg e0]
      by_cases e1 : 33 ≤ byk w k
      · have c1 : ¬ lg_cmp (lN (byk w k)) 33 < 0 := fun hc => by have := (lN_33 _ bl).mp hc; omega
        by_cases e2 : byk w k ≤ 126
        · have c2 := (lN_126 _ bl).mpr e2
          rw [if_pos ⟨e1, e2⟩, ← ih (k + 1) (some (.long (lN (byk w k)))) (by omega)]
          simp (disch := first | omega | (show List.length _ ≤ 4; exact Nat.le_of_ble_eq_true rfl) | assumption | exact nbo_0 | exact nbo_1 | exact b2_b) only [s2_0, s2_1, s2_2, s2_3, s2_7, s2_9, s2_12, s2_13, s2_16, s2_17, s2_18, s2_19, s2_22, s2_23, s2_26, s2_27, s2_29, s2_31, s2_34, s2_35, s2_38, s2_40, s2_43, s2_44, s2_47, s2_48, s2_49, s2_52, s2_53, s2_55, s2_56, s2_57, s2_60, s2_61, s2_62, s2_63, s2_66, s2_68, s2_71, s2_72, ↓reduceIte, psh_some, psh_none, cln_i, cln_r, cln_n, cln_l, cln_d, cln_f, Option.bind_some, Option.bind_none, if_true, if_false, nI_add, pk_mul, nbo_0, nbo_1, nI_leI, nI_ltI, nI_eq, Nat.reduceAdd, Nat.reduceMul, Nat.add_zero, Nat.mul_zero, e, a, c0, c1, c2, sh]
        · have c2 : ¬ lg_cmp (lN (byk w k)) 126 ≤ 0 := fun hc => e2 ((lN_126 _ bl).mp hc)
          rw [if_neg (fun hc => e2 hc.2)]
          simp (disch := first | omega | (show List.length _ ≤ 4; exact Nat.le_of_ble_eq_true rfl) | assumption | exact nbo_0 | exact nbo_1 | exact b2_b) only [s2_7, s2_9, s2_12, s2_13, s2_16, s2_17, s2_18, s2_19, s2_22, s2_23, s2_26, s2_27, s2_29, s2_31, s2_34, s2_35, s2_38, s2_40, s2_43, s2_44, s2_47, s2_48, ↓reduceIte, psh_some, psh_none, cln_i, cln_r, cln_n, cln_l, cln_d, cln_f, Option.bind_some, Option.bind_none, if_true, if_false, nI_add, pk_mul, nbo_0, nbo_1, nI_leI, nI_ltI, nI_eq, Nat.reduceAdd, Nat.reduceMul, Nat.add_zero, Nat.mul_zero, e, a, c0, c1, c2]
      · have c1 := (lN_33 _ bl).mpr (by omega)
        rw [if_neg (fun hc => e1 hc.1)]
        simp (disch := first | omega | (show List.length _ ≤ 4; exact Nat.le_of_ble_eq_true rfl) | assumption | exact nbo_0 | exact nbo_1 | exact b2_b) only [s2_7, s2_9, s2_12, s2_13, s2_16, s2_17, s2_18, s2_19, s2_22, s2_23, s2_26, s2_27, s2_29, s2_31, s2_34, s2_35, s2_47, s2_48, ↓reduceIte, psh_some, psh_none, cln_i, cln_r, cln_n, cln_l, cln_d, cln_f, Option.bind_some, Option.bind_none, if_true, if_false, nI_add, pk_mul, nbo_0, nbo_1, nI_leI, nI_ltI, nI_eq, Nat.reduceAdd, Nat.reduceMul, Nat.add_zero, Nat.mul_zero, e, a, c0, c1]
theorem f2 {w : Nat} (hw : w < 2 ^ 64) : FF 2 [.long (lN w)] M = some (some (.int (nI (pcs w 8 0))), M) := by
  have h := p2 (M := M) (l0 := some (.long (lN w))) hw 8 0 none (by decide)
  rw [show w / 2 ^ (8 * 0) = w by simp] at h
  refine Eq.trans ?_ h
  simp (disch := first | omega | (show List.length _ ≤ 4; exact Nat.le_of_ble_eq_true rfl) | assumption | exact nbo_0 | exact nbo_1 | exact b2_b) only [FE2, s2_0, s2_1, s2_2, s2_3, ↓reduceIte, psh_some, psh_none, cln_i, cln_r, cln_n, cln_l, cln_d, cln_f, Option.bind_some, Option.bind_none, if_true, if_false, nI_add, pk_mul, nbo_0, nbo_1, nI_leI, nI_ltI, nI_eq, Nat.reduceAdd, Nat.reduceMul, Nat.add_zero, Nat.mul_zero]
theorem f139 {w k : Nat} (hk : k < 8) : FF 139 [.long (lN w), .int (nI k)] M = some (some (.int (nI (byk w k))), M) := by
  have h := sar_by (n := w) hk
  have h2 := lN_i (byk w k)
  have h3 : w / 2 ^ (8 * k) % 256 = byk w k := rfl
  rw [h3] at h
  simp (disch := first | omega | (show List.length _ ≤ 4; exact Nat.le_of_ble_eq_true rfl) | assumption | exact nbo_0 | exact nbo_1 | exact b2_b) only [FE139, s139_0, s139_1, s139_3, s139_4, s139_5, s139_6, s139_9, s139_10, s139_11, ↓reduceIte, psh_some, psh_none, cln_i, cln_r, cln_n, cln_l, cln_d, cln_f, Option.bind_some, Option.bind_none, if_true, if_false, nI_add, pk_mul, nbo_0, nbo_1, nI_leI, nI_ltI, nI_eq, Nat.reduceAdd, Nat.reduceMul, Nat.add_zero, Nat.mul_zero, h, h2]
theorem p138b {w n : Nat} (hw : w < 2 ^ 64) : ∀ d k, k + d = 8 → EE 138 42 [some (.long (lN w)), none, some (.int (nI n)), some (.int (nI k))] [] M = if w / 2 ^ (8 * k) = 0 then EE 138 65 [some (.long (lN w)), none, some (.int (nI n)), some (.int (nI 8))] [] M else some (some (.int (-2)), M) := by
  intro d
  induction d with
  | zero =>
    intro k hk
    have e : k = 8 := by omega
    subst e
    rw [if_pos (by rw [Nat.div_eq_zero_iff]; exact Or.inr hw), s138_42]
    simp (disch := first | omega | (show List.length _ ≤ 4; exact Nat.le_of_ble_eq_true rfl) | assumption | exact nbo_0 | exact nbo_1 | exact b2_b) only [s138_43, s138_45, ↓reduceIte, psh_some, psh_none, cln_i, cln_r, cln_n, cln_l, cln_d, cln_f, Option.bind_some, Option.bind_none, if_true, if_false, nI_add, pk_mul, nbo_0, nbo_1, nI_leI, nI_ltI, nI_eq, Nat.reduceAdd, Nat.reduceMul, Nat.add_zero, Nat.mul_zero, Nat.le_refl]
  | succ d ih =>
    intro k hk
    have e : ¬ 8 ≤ k := by omega
    have g := f139 (M := M) (w := w) (k := k) (by omega)
    have s := byk_s w k
    have bl := byk_lt w k
    rw [s138_42]
    by_cases e0 : byk w k = 0
    · rw [e0] at g s
      have g2 := ih (k + 1) (by omega)
      by_cases hz : w / 2 ^ (8 * (k + 1)) = 0
      · rw [if_pos hz] at g2
        rw [if_pos (by omega), ← g2]
        simp (disch := first | omega | (show List.length _ ≤ 4; exact Nat.le_of_ble_eq_true rfl) | assumption | exact nbo_0 | exact nbo_1 | exact b2_b) only [s138_43, s138_45, s138_48, s138_49, s138_50, s138_53, s138_59, s138_62, ↓reduceIte, psh_some, psh_none, cln_i, cln_r, cln_n, cln_l, cln_d, cln_f, Option.bind_some, Option.bind_none, if_true, if_false, nI_add, pk_mul, nbo_0, nbo_1, nI_leI, nI_ltI, nI_eq, Nat.reduceAdd, Nat.reduceMul, Nat.add_zero, Nat.mul_zero, e, g, z0]
      · rw [if_neg hz] at g2
        rw [if_neg (by omega), ← g2]
        simp (disch := first | omega | (show List.length _ ≤ 4; exact Nat.le_of_ble_eq_true rfl) | assumption | exact nbo_0 | exact nbo_1 | exact b2_b) only [s138_43, s138_45, s138_48, s138_49, s138_50, s138_53, s138_59, s138_62, ↓reduceIte, psh_some, psh_none, cln_i, cln_r, cln_n, cln_l, cln_d, cln_f, Option.bind_some, Option.bind_none, if_true, if_false, nI_add, pk_mul, nbo_0, nbo_1, nI_leI, nI_ltI, nI_eq, Nat.reduceAdd, Nat.reduceMul, Nat.add_zero, Nat.mul_zero, e, g, z0]
    · have c : (nI (byk w k) = (0 : Int32)) = False := eq_false (nI_ne0 (by omega) (by omega))
      rw [if_neg (by omega)]
      simp (disch := first | omega | (show List.length _ ≤ 4; exact Nat.le_of_ble_eq_true rfl) | assumption | exact nbo_0 | exact nbo_1 | exact b2_b) only [s138_43, s138_45, s138_48, s138_49, s138_50, s138_53, s138_56, s138_58, ↓reduceIte, psh_some, psh_none, cln_i, cln_r, cln_n, cln_l, cln_d, cln_f, Option.bind_some, Option.bind_none, if_true, if_false, nI_add, pk_mul, nbo_0, nbo_1, nI_leI, nI_ltI, nI_eq, Nat.reduceAdd, Nat.reduceMul, Nat.add_zero, Nat.mul_zero, e, g, c]
theorem p138 {w : Nat} (hw : w < 2 ^ 64) : ∀ d k (l3 : Option Value), k + d = 8 → EE 138 2 [some (.long (lN w)), none, some (.int (nI k)), l3] [] M = some (some (.int (if pcs w d k = 0 then -2 else nI (pcs w d k))), M) := by
  intro d
  have fin : ∀ k l3, k ≤ 8 → EE 138 40 [some (.long (lN w)), none, some (.int (nI k)), l3] [] M = some (some (.int (if (if w / 2 ^ (8 * k) = 0 then k else 0) = 0 then -2 else nI (if w / 2 ^ (8 * k) = 0 then k else 0))), M) := by
    intro k l3 hk
    have g := p138b (M := M) (w := w) (n := k) hw (8 - k) k (by omega)
    rw [s138_40]
    by_cases e1 : w / 2 ^ (8 * k) = 0
    · rw [if_pos e1] at g
      rw [if_pos e1]
      by_cases e2 : k = 0
      · rw [if_pos e2]
        rw [e2] at g ⊢
        simp (disch := first | omega | (show List.length _ ≤ 4; exact Nat.le_of_ble_eq_true rfl) | assumption | exact nbo_0 | exact nbo_1 | exact b2_b) only [s138_41, g, s138_65, s138_66, s138_69, s138_71, s138_75, ↓reduceIte, psh_some, psh_none, cln_i, cln_r, cln_n, cln_l, cln_d, cln_f, Option.bind_some, Option.bind_none, if_true, if_false, nI_add, pk_mul, nbo_0, nbo_1, nI_leI, nI_ltI, nI_eq, Nat.reduceAdd, Nat.reduceMul, Nat.add_zero, Nat.mul_zero, z0]
      · have c : (nI k = (0 : Int32)) = False := eq_false (nI_ne0 (by omega) (by omega))
        rw [if_neg e2]
        simp (disch := first | omega | (show List.length _ ≤ 4; exact Nat.le_of_ble_eq_true rfl) | assumption | exact nbo_0 | exact nbo_1 | exact b2_b) only [s138_41, g, s138_65, s138_66, s138_74, s138_75, ↓reduceIte, psh_some, psh_none, cln_i, cln_r, cln_n, cln_l, cln_d, cln_f, Option.bind_some, Option.bind_none, if_true, if_false, nI_add, pk_mul, nbo_0, nbo_1, nI_leI, nI_ltI, nI_eq, Nat.reduceAdd, Nat.reduceMul, Nat.add_zero, Nat.mul_zero, c]
    · rw [if_neg e1] at g
      rw [if_neg e1, if_pos rfl]
      simp (disch := first | omega | (show List.length _ ≤ 4; exact Nat.le_of_ble_eq_true rfl) | assumption | exact nbo_0 | exact nbo_1 | exact b2_b) only [s138_41, g, ↓reduceIte, psh_some, psh_none, cln_i, cln_r, cln_n, cln_l, cln_d, cln_f, Option.bind_some, Option.bind_none, if_true, if_false, nI_add, pk_mul, nbo_0, nbo_1, nI_leI, nI_ltI, nI_eq, Nat.reduceAdd, Nat.reduceMul, Nat.add_zero, Nat.mul_zero]
  induction d with
  | zero =>
    intro k l3 hk
    have e : 8 ≤ k := by omega
    unfold pcs
    rw [← fin k l3 (by omega), s138_2]
    simp (disch := first | omega | (show List.length _ ≤ 4; exact Nat.le_of_ble_eq_true rfl) | assumption | exact nbo_0 | exact nbo_1 | exact b2_b) only [s138_3, s138_5, ↓reduceIte, psh_some, psh_none, cln_i, cln_r, cln_n, cln_l, cln_d, cln_f, Option.bind_some, Option.bind_none, if_true, if_false, nI_add, pk_mul, nbo_0, nbo_1, nI_leI, nI_ltI, nI_eq, Nat.reduceAdd, Nat.reduceMul, Nat.add_zero, Nat.mul_zero, e]
  | succ d ih =>
    intro k l3 hk
    have e : ¬ 8 ≤ k := by omega
    have g := f139 (M := M) (w := w) (k := k) (by omega)
    have bl := byk_lt w k
    unfold pcs
    rw [s138_2]
    by_cases e0 : byk w k = 0
    · rw [e0] at g
      rw [if_pos e0, ← fin k l3 (by omega)]
      simp (disch := first | omega | (show List.length _ ≤ 4; exact Nat.le_of_ble_eq_true rfl) | assumption | exact nbo_0 | exact nbo_1 | exact b2_b) only [s138_3, s138_5, s138_8, s138_9, s138_10, s138_13, ↓reduceIte, psh_some, psh_none, cln_i, cln_r, cln_n, cln_l, cln_d, cln_f, Option.bind_some, Option.bind_none, if_true, if_false, nI_add, pk_mul, nbo_0, nbo_1, nI_leI, nI_ltI, nI_eq, Nat.reduceAdd, Nat.reduceMul, Nat.add_zero, Nat.mul_zero, e, g, z0]
    · have c : (nI (byk w k) = (0 : Int32)) = False := eq_false (nI_ne0 (by omega) (by omega))
      have g84 := f84 (M := M) (x := nI (byk w k)) (y := nI 33) (z := nI 126)
      rw [if_neg e0]
      by_cases e1 : 33 ≤ byk w k ∧ byk w k ≤ 126
      · have e2 : ¬ nI (byk w k) < nI 33 ∧ ¬ nI 126 < nI (byk w k) := by
          rw [nI_ltI (by omega) (by decide), nI_ltI (by decide) (by omega)]
          omega
        rw [b2_t e2] at g84
        rw [if_pos e1, ← ih (k + 1) l3 (by omega)]
        simp (disch := first | omega | (show List.length _ ≤ 4; exact Nat.le_of_ble_eq_true rfl) | assumption | exact nbo_0 | exact nbo_1 | exact b2_b) only [s138_3, s138_5, s138_8, s138_9, s138_10, s138_13, s138_16, s138_17, s138_18, s138_21, s138_23, s138_25, s138_28, s138_34, s138_37, ↓reduceIte, psh_some, psh_none, cln_i, cln_r, cln_n, cln_l, cln_d, cln_f, Option.bind_some, Option.bind_none, if_true, if_false, nI_add, pk_mul, nbo_0, nbo_1, nI_leI, nI_ltI, nI_eq, Nat.reduceAdd, Nat.reduceMul, Nat.add_zero, Nat.mul_zero, e, g, c, g84, z1]
      · have e2 : ¬ (¬ nI (byk w k) < nI 33 ∧ ¬ nI 126 < nI (byk w k)) := by
          rw [nI_ltI (by omega) (by decide), nI_ltI (by decide) (by omega)]
          omega
        rw [b2_f e2] at g84
        rw [if_neg e1, if_pos rfl]
        simp (disch := first | omega | (show List.length _ ≤ 4; exact Nat.le_of_ble_eq_true rfl) | assumption | exact nbo_0 | exact nbo_1 | exact b2_b) only [s138_3, s138_5, s138_8, s138_9, s138_10, s138_13, s138_16, s138_17, s138_18, s138_21, s138_23, s138_25, s138_28, s138_31, s138_33, ↓reduceIte, psh_some, psh_none, cln_i, cln_r, cln_n, cln_l, cln_d, cln_f, Option.bind_some, Option.bind_none, if_true, if_false, nI_add, pk_mul, nbo_0, nbo_1, nI_leI, nI_ltI, nI_eq, Nat.reduceAdd, Nat.reduceMul, Nat.add_zero, Nat.mul_zero, e, g, c, g84, z0]
theorem f138 {w : Nat} (hw : w < 2 ^ 64) : FF 138 [.long (lN w)] M = some (some (.int (if pcs w 8 0 = 0 then -2 else nI (pcs w 8 0))), M) := by
  refine Eq.trans ?_ (p138 (M := M) hw 8 0 none (by decide))
  simp (disch := first | omega | (show List.length _ ≤ 4; exact Nat.le_of_ble_eq_true rfl) | assumption | exact nbo_0 | exact nbo_1 | exact b2_b) only [FE138, s138_0, s138_1, ↓reduceIte, psh_some, psh_none, cln_i, cln_r, cln_n, cln_l, cln_d, cln_f, Option.bind_some, Option.bind_none, if_true, if_false, nI_add, pk_mul, nbo_0, nbo_1, nI_leI, nI_ltI, nI_eq, Nat.reduceAdd, Nat.reduceMul, Nat.add_zero, Nat.mul_zero]
end PB
