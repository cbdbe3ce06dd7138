
/-! ===== 32 bits ===== -/
def F32 (K T : Nat) : UInt32 := UInt32.ofNat (K * 2 ^ 23 + T)
theorem F32_nat {K T : Nat} (hK : K < 255) (hT : T < 2 ^ 23) : (F32 K T).toNat = K * 2 ^ 23 + T := by
  unfold F32
  rw [UInt32.toNat_ofNat']
  omega
theorem F32_of {x : UInt32} (h : x.toNat < 255 * 2 ^ 23) : x = F32 (x.toNat / 2 ^ 23) (x.toNat % 2 ^ 23) := by
  apply UInt32.toNat_inj.mp
  rw [F32_nat (by omega) (by omega)]
  omega
theorem F32_val {K T : Nat} (h1 : 1 ≤ K) (hK : K < 255) (hT : T < 2 ^ 23) : FP.Core.val32 (F32 K T) = .fin false (2 ^ 23 + T) ((K : Int) - 150) := by
  have ht : FP.Core.b32.tails = 2 ^ 23 := FP.Core.tails_b32
  have he : FP.Core.b32.exps - 1 = 255 := FP.Core.exps_b32
  have e : FP.Core.assemble FP.Core.b32 false K T = K * 2 ^ 23 + T := by
    unfold FP.Core.assemble
    rw [ht]
    show (0 * _ + K) * _ + T = _
    rw [Nat.zero_mul, Nat.zero_add]
  unfold FP.Core.val32
  rw [F32_nat hK hT, ← e, FP.Core.decode_assemble FP.Core.b32 false K T (by omega) (by omega), he, if_neg (by omega), if_neg (by omega), ht, FP.Core.qmin_b32]
  congr 1
  omega
theorem F32_fits {K T : Nat} (h1 : 1 ≤ K) (hK : K < 255) (hT : T < 2 ^ 23) : FP.Core.fits FP.Core.b32 (.fin false (2 ^ 23 + T) ((K : Int) - 150)) := by
  have h := FP.Core.val32_fits (F32 K T)
  rw [F32_val h1 hK hT] at h
  exact h
theorem F32_nan {K T : Nat} (h1 : 1 ≤ K) (hK : K < 255) (hT : T < 2 ^ 23) : FP.Core.val32 (F32 K T) ≠ .nan := by
  rw [F32_val h1 hK hT]
  exact FP.Core.Datum.noConfusion
theorem F32_nn {K T : Nat} (hK : K < 255) (hT : T < 2 ^ 23) : F32 K T &&& 0x7fffffff ≤ 0x7f800000 := by
  rw [UInt32.le_iff_toNat_le, UInt32.toNat_and, F32_nat hK hT]
  have h1 : (0x7fffffff : UInt32).toNat = 2 ^ 31 - 1 := by decide
  have h2 : (0x7f800000 : UInt32).toNat = 255 * 2 ^ 23 := by decide
  rw [h1, h2, Nat.and_two_pow_sub_one_eq_mod]
  omega
theorem F32_mul {K T j : Nat} (h1 : 1 ≤ K) (hK : K + j < 255) (hj : j < 127) (hT : T < 2 ^ 23) : FP.fmul (F32 K T) (F32 (127 + j) 0) = F32 (K + j) T := by
  have e : FP.Core.val32 (FP.fmul (F32 K T) (F32 (127 + j) 0)) = .fin false (2 ^ 23 + T) (((K + j : Nat) : Int) - 150) := by
    rw [FP.Core.val32_fmul, F32_val h1 (by omega) hT, F32_val (by omega) (by omega) (by decide)]
    refine FP.Core.roundRatio_exact FP.Core.good_b32 (by decide) (F32_fits (by omega) hK hT) ?_
    rw [show ((K : Int) - 150 + (((127 + j : Nat) : Int) - 150) - (((K + j : Nat) : Int) - 150)).toNat = 0 by omega, show (((K + j : Nat) : Int) - 150 - ((K : Int) - 150 + (((127 + j : Nat) : Int) - 150))).toNat = 23 by omega]
    simp only [Nat.add_zero, Nat.mul_one, Nat.pow_zero]
  refine FP.Core.val32_inj ?_ ?_
  · rw [e]; exact FP.Core.Datum.noConfusion
  · rw [e, F32_val (by omega) hK hT]
theorem F32_lt {K T L : Nat} (h1 : 1 ≤ K) (hK : K < L) (hL : L < 255) (hT : T < 2 ^ 23) (o : ClassFile.CmpOp) : Op.cmpValue (FP.fcmp (F32 K T) (F32 L 0)) o = -1 := by
  have hn := F32_nat (K := K) (T := T) (by omega) hT
  have h1' := F32_nat (K := L) (T := 0) hL (by decide)
  have h := (FP.Core.mono_bits32 (a := F32 K T) (b := F32 L 0) (F32_nan h1 (by omega) hT) (F32_nan (by omega) hL (by decide)) (by rw [hn]; omega) (by rw [h1']; omega)).1.mpr (by rw [hn, h1']; omega)
  show Op.cmpValue (FP.Core.fcmp _ _) o = -1
  rw [h]
  rfl
theorem F32_ge {K T L : Nat} (h1 : 1 ≤ L) (hK0 : L ≤ K) (hK : K < 255) (hT : T < 2 ^ 23) (o : ClassFile.CmpOp) : 0 ≤ Op.cmpValue (FP.fcmp (F32 K T) (F32 L 0)) o := by
  have hn := F32_nat (K := K) (T := T) (by omega) hT
  have h1' := F32_nat (K := L) (T := 0) (by omega) (by decide)
  have h := FP.Core.mono_bits32 (a := F32 K T) (b := F32 L 0) (F32_nan (by omega) (by omega) hT) (F32_nan h1 (by omega) (by decide)) (by rw [hn]; omega) (by rw [h1']; omega)
  show 0 ≤ Op.cmpValue (FP.Core.fcmp _ _) o
  by_cases e : K * 2 ^ 23 + T = L * 2 ^ 23 + 0
  · rw [h.2.1.mpr (by rw [hn, h1', e])]
    show (0 : Int32) ≤ 0
    decide
  · rw [h.2.2.mpr (by rw [hn, h1']; omega)]
    show (0 : Int32) ≤ 1
    decide
theorem F32_gt {K T : Nat} (h1 : 1 ≤ K) (hK : K < 255) (hT : T < 2 ^ 23) (o : ClassFile.CmpOp) : Op.cmpValue (FP.fcmp (F32 K T) FP.fconst0) o = 1 := by
  have hn := F32_nat (K := K) (T := T) (by omega) hT
  have h1' : (FP.fconst0).toNat = 0 := by decide
  have h := (FP.Core.mono_bits32 (a := F32 K T) (b := FP.fconst0) (F32_nan h1 (by omega) hT) (by decide +kernel) (by rw [hn]; omega) (by rw [h1']; decide)).2.2.mpr (by rw [hn, h1']; omega)
  show Op.cmpValue (FP.Core.fcmp _ _) o = 1
  rw [h]
  rfl
theorem F32_self {K T : Nat} (h1 : 1 ≤ K) (hK : K < 255) (hT : T < 2 ^ 23) (o : ClassFile.CmpOp) : Op.cmpValue (FP.fcmp (F32 K T) (F32 K T)) o = 0 := by
  show Op.cmpValue (FP.Core.fcmp _ _) o = 0
  rw [FP.Core.fcmp_self (F32_nan h1 hK hT)]
  rfl
theorem F32_int {K T : Nat} : (F32 K T).toInt32 = Int32.ofNat (K * 2 ^ 23 + T) := rfl
theorem F32_one : FP.fconst1 = F32 127 0 := by decide +kernel

/-! ===== 64 bits ===== -/
def F64 (K T : Nat) : UInt64 := UInt64.ofNat (K * 2 ^ 52 + T)
theorem F64_nat {K T : Nat} (hK : K < 2047) (hT : T < 2 ^ 52) : (F64 K T).toNat = K * 2 ^ 52 + T := by
  unfold F64
  rw [UInt64.toNat_ofNat']
  omega
theorem F64_of {x : UInt64} (h : x.toNat < 2047 * 2 ^ 52) : x = F64 (x.toNat / 2 ^ 52) (x.toNat % 2 ^ 52) := by
  apply UInt64.toNat_inj.mp
  rw [F64_nat (by omega) (by omega)]
  omega
theorem F64_val {K T : Nat} (h1 : 1 ≤ K) (hK : K < 2047) (hT : T < 2 ^ 52) : FP.Core.val64 (F64 K T) = .fin false (2 ^ 52 + T) ((K : Int) - 1075) := by
  have ht : FP.Core.b64.tails = 2 ^ 52 := FP.Core.tails_b64
  have he : FP.Core.b64.exps - 1 = 2047 := FP.Core.exps_b64
  have e : FP.Core.assemble FP.Core.b64 false K T = K * 2 ^ 52 + T := by
    unfold FP.Core.assemble
    rw [ht]
    show (0 * _ + K) * _ + T = _
    rw [Nat.zero_mul, Nat.zero_add]
  unfold FP.Core.val64
  rw [F64_nat hK hT, ← e, FP.Core.decode_assemble FP.Core.b64 false K T (by omega) (by omega), he, if_neg (by omega), if_neg (by omega), ht, FP.Core.qmin_b64]
  congr 1
  omega
theorem F64_fits {K T : Nat} (h1 : 1 ≤ K) (hK : K < 2047) (hT : T < 2 ^ 52) : FP.Core.fits FP.Core.b64 (.fin false (2 ^ 52 + T) ((K : Int) - 1075)) := by
  have h := FP.Core.val64_fits (F64 K T)
  rw [F64_val h1 hK hT] at h
  exact h
theorem F64_nan {K T : Nat} (h1 : 1 ≤ K) (hK : K < 2047) (hT : T < 2 ^ 52) : FP.Core.val64 (F64 K T) ≠ .nan := by
  rw [F64_val h1 hK hT]
  exact FP.Core.Datum.noConfusion
theorem F64_nn {K T : Nat} (hK : K < 2047) (hT : T < 2 ^ 52) : F64 K T &&& 0x7fffffffffffffff ≤ 0x7ff0000000000000 := by
  rw [UInt64.le_iff_toNat_le, UInt64.toNat_and, F64_nat hK hT]
  have h1 : (0x7fffffffffffffff : UInt64).toNat = 2 ^ 63 - 1 := by decide
  have h2 : (0x7ff0000000000000 : UInt64).toNat = 2047 * 2 ^ 52 := by decide
  rw [h1, h2, Nat.and_two_pow_sub_one_eq_mod]
  omega
theorem F64_mul {K T j : Nat} (h1 : 1 ≤ K) (hK : K + j < 2047) (hj : j < 1023) (hT : T < 2 ^ 52) : FP.dmul (F64 K T) (F64 (1023 + j) 0) = F64 (K + j) T := by
  have e : FP.Core.val64 (FP.dmul (F64 K T) (F64 (1023 + j) 0)) = .fin false (2 ^ 52 + T) (((K + j : Nat) : Int) - 1075) := by
    rw [FP.Core.val64_dmul, F64_val h1 (by omega) hT, F64_val (by omega) (by omega) (by decide)]
    refine FP.Core.roundRatio_exact FP.Core.good_b64 (by decide) (F64_fits (by omega) hK hT) ?_
    rw [show ((K : Int) - 1075 + (((1023 + j : Nat) : Int) - 1075) - (((K + j : Nat) : Int) - 1075)).toNat = 0 by omega, show (((K + j : Nat) : Int) - 1075 - ((K : Int) - 1075 + (((1023 + j : Nat) : Int) - 1075))).toNat = 52 by omega]
    simp only [Nat.add_zero, Nat.mul_one, Nat.pow_zero]
  refine FP.Core.val64_inj ?_ ?_
  · rw [e]; exact FP.Core.Datum.noConfusion
  · rw [e, F64_val (by omega) hK hT]
theorem F64_lt {K T L : Nat} (h1 : 1 ≤ K) (hK : K < L) (hL : L < 2047) (hT : T < 2 ^ 52) (o : ClassFile.CmpOp) : Op.cmpValue (FP.dcmp (F64 K T) (F64 L 0)) o = -1 := by
  have hn := F64_nat (K := K) (T := T) (by omega) hT
  have h1' := F64_nat (K := L) (T := 0) hL (by decide)
  have h := (FP.Core.mono_bits (a := F64 K T) (b := F64 L 0) (F64_nan h1 (by omega) hT) (F64_nan (by omega) hL (by decide)) (by rw [hn]; omega) (by rw [h1']; omega)).1.mpr (by rw [hn, h1']; omega)
  show Op.cmpValue (FP.Core.dcmp _ _) o = -1
  rw [h]
  rfl
theorem F64_ge {K T L : Nat} (h1 : 1 ≤ L) (hK0 : L ≤ K) (hK : K < 2047) (hT : T < 2 ^ 52) (o : ClassFile.CmpOp) : 0 ≤ Op.cmpValue (FP.dcmp (F64 K T) (F64 L 0)) o := by
  have hn := F64_nat (K := K) (T := T) (by omega) hT
  have h1' := F64_nat (K := L) (T := 0) (by omega) (by decide)
  have h := FP.Core.mono_bits (a := F64 K T) (b := F64 L 0) (F64_nan (by omega) (by omega) hT) (F64_nan h1 (by omega) (by decide)) (by rw [hn]; omega) (by rw [h1']; omega)
  show 0 ≤ Op.cmpValue (FP.Core.dcmp _ _) o
  by_cases e : K * 2 ^ 52 + T = L * 2 ^ 52 + 0
  · rw [h.2.1.mpr (by rw [hn, h1', e])]
    show (0 : Int32) ≤ 0
    decide
  · rw [h.2.2.mpr (by rw [hn, h1']; omega)]
    show (0 : Int32) ≤ 1
    decide
theorem F64_gt {K T : Nat} (h1 : 1 ≤ K) (hK : K < 2047) (hT : T < 2 ^ 52) (o : ClassFile.CmpOp) : Op.cmpValue (FP.dcmp (F64 K T) FP.dconst0) o = 1 := by
  have hn := F64_nat (K := K) (T := T) (by omega) hT
  have h1' : (FP.dconst0).toNat = 0 := by decide
  have h := (FP.Core.mono_bits (a := F64 K T) (b := FP.dconst0) (F64_nan h1 (by omega) hT) (by decide +kernel) (by rw [hn]; omega) (by rw [h1']; decide)).2.2.mpr (by rw [hn, h1']; omega)
  show Op.cmpValue (FP.Core.dcmp _ _) o = 1
  rw [h]
  rfl
theorem F64_self {K T : Nat} (h1 : 1 ≤ K) (hK : K < 2047) (hT : T < 2 ^ 52) (o : ClassFile.CmpOp) : Op.cmpValue (FP.dcmp (F64 K T) (F64 K T)) o = 0 := by
  show Op.cmpValue (FP.Core.dcmp _ _) o = 0
  rw [FP.Core.dcmp_self (F64_nan h1 hK hT)]
  rfl
theorem F64_int {K T : Nat} : (F64 K T).toInt64 = Int64.ofNat (K * 2 ^ 52 + T) := rfl
theorem F64_one : FP.dconst1 = F64 1023 0 := by decide +kernel

theorem F32_f2i {T : Nat} (hT : T < 2 ^ 23) : FP.f2i (F32 150 T) = nI (2 ^ 23 + T) := by
  refine FP.Core.f2i_int ?_
  unfold FP.Core.FInt
  rw [F32_val (by decide) (by decide) hT, nI_toInt (by omega)]
  show FP.Core.signed false ((2 ^ 23 + T) * 2 ^ _) = _ * ((2 ^ _ : Nat) : Int)
  show (((2 ^ 23 + T) * 2 ^ 0 : Nat) : Int) = ((2 ^ 23 + T : Nat) : Int) * ((2 ^ 0 : Nat) : Int)
  omega
theorem F64_d2l {T : Nat} (hT : T < 2 ^ 52) : FP.d2l (F64 1075 T) = Int64.ofNat (2 ^ 52 + T) := by
  refine FP.Core.d2l_int ?_
  unfold FP.Core.DInt
  rw [F64_val (by decide) (by decide) hT, Int64.toInt_ofNat_of_lt (by omega)]
  show (((2 ^ 52 + T) * 2 ^ 0 : Nat) : Int) = ((2 ^ 52 + T : Nat) : Int) * ((2 ^ 0 : Nat) : Int)
  omega
theorem F64_half {K T : Nat} (h1 : 1 ≤ K) (hK : K + 1 < 2047) (hT : T < 2 ^ 52) : FP.ddiv (F64 (K + 1) T) (F64 1024 0) = F64 K T := by
  have e : FP.Core.val64 (FP.ddiv (F64 (K + 1) T) (F64 1024 0)) = .fin false (2 ^ 52 + T) ((K : Int) - 1075) := by
    rw [FP.Core.val64_ddiv, F64_val (by omega) (by omega) hT, F64_val (by decide) (by decide) (by decide)]
    unfold FP.Core.quotient
    show (if 2 ^ 52 + 0 = 0 then _ else FP.Core.roundRatio FP.Core.b64 false (2 ^ 52 + T) (2 ^ 52 + 0) _) = _
    rw [if_neg (by decide)]
    refine FP.Core.roundRatio_exact FP.Core.good_b64 (by decide) (F64_fits h1 (by omega) hT) ?_
    rw [show (((K + 1 : Nat) : Int) - 1075 - (((1024 : Nat) : Int) - 1075) - ((K : Int) - 1075)).toNat = 52 by omega, show ((K : Int) - 1075 - (((K + 1 : Nat) : Int) - 1075 - (((1024 : Nat) : Int) - 1075))).toNat = 0 by omega]
    simp only [Nat.add_zero, Nat.mul_one, Nat.pow_zero]
  refine FP.Core.val64_inj ?_ ?_
  · rw [e]; exact FP.Core.Datum.noConfusion
  · rw [e, F64_val h1 (by omega) hT]
/-! ===== whole numbers and their quotients ===== -/
abbrev sft (v L : Nat) : Nat := v * 2 ^ (52 - L)
theorem i2d_val {v : Nat} (h1 : 1 ≤ v) (h2 : v < 2 ^ 31) : ∃ L, L ≤ 31 ∧ FP.Core.val64 (FP.i2d (nI v)) = .fin false (sft v L) ((L : Int) - 52) := by
  have l1 : 2 ^ v.log2 ≤ v := Nat.log2_self_le (by omega)
  have l2 : v < 2 ^ (v.log2 + 1) := Nat.lt_log2_self
  have l3 : v.log2 < 31 := (Nat.pow_lt_pow_iff_right (by decide : 1 < 2)).mp (Nat.lt_of_le_of_lt l1 h2)
  generalize v.log2 = L at l1 l2 l3
  have c1 : sft v L < 2 ^ 53 := by
    calc v * 2 ^ (52 - L) < 2 ^ (L + 1) * 2 ^ (52 - L) := Nat.mul_lt_mul_of_pos_right l2 (Nat.two_pow_pos _)
      _ = 2 ^ 53 := by rw [← Nat.pow_add]; congr 1; omega
  have c2 : 2 ^ 52 ≤ sft v L := by
    calc 2 ^ 52 = 2 ^ L * 2 ^ (52 - L) := by rw [← Nat.pow_add]; congr 1; omega
      _ ≤ v * 2 ^ (52 - L) := Nat.mul_le_mul_right _ l1
  refine ⟨L, by omega, ?_⟩
  rw [FP.Core.val64_i2d, nI_toInt h2]
  unfold FP.Core.ofInt FP.Core.round
  rw [show decide ((v : Int) < 0) = false from decide_eq_false (by omega), Int.natAbs_natCast]
  refine FP.Core.roundRatio_exact FP.Core.good_b64 (by decide) ⟨c1, ?_, ?_, Or.inr c2⟩ ?_
  · rw [FP.Core.qmin_b64]; omega
  · rw [show FP.Core.b64.qmax = 971 by decide]; omega
  · rw [show (0 - ((L : Int) - 52)).toNat = 52 - L by omega, show ((L : Int) - 52 - 0).toNat = 0 by omega]
    rw [Nat.pow_zero, Nat.mul_one, Nat.mul_one]
theorem ddiv_val {g b : Nat} (g1 : 1 ≤ g) (g2 : g < 2 ^ 31) (b1 : 1 ≤ b) (b2 : b < 2 ^ 31) : FP.Core.val64 (FP.ddiv (FP.i2d (nI g)) (FP.i2d (nI b))) = FP.Core.roundRatio FP.Core.b64 false g b 0 := by
  obtain ⟨L, hL, eL⟩ := i2d_val g1 g2
  obtain ⟨J, hJ, eJ⟩ := i2d_val b1 b2
  rw [FP.Core.val64_ddiv, eL, eJ]
  unfold FP.Core.quotient
  have p1 := Nat.two_pow_pos (52 - L)
  have p2 := Nat.two_pow_pos (52 - J)
  have p3 : 0 < sft b J := Nat.mul_pos b1 p2
  show (if sft b J = 0 then _ else FP.Core.roundRatio FP.Core.b64 false (sft g L) (sft b J) ((L : Int) - 52 - ((J : Int) - 52))) = _
  rw [if_neg (by omega)]
  refine FP.Core.roundRatio_congr p3 b1 ?_
  unfold sft
  by_cases h : L ≤ J
  · rw [show ((L : Int) - 52 - ((J : Int) - 52) - 0).toNat = 0 by omega, show (0 - ((L : Int) - 52 - ((J : Int) - 52))).toNat = J - L by omega, show 52 - L = (52 - J) + (J - L) by omega, Nat.pow_add, Nat.pow_zero, Nat.mul_one]
    ac_rfl
  · rw [show ((L : Int) - 52 - ((J : Int) - 52) - 0).toNat = L - J by omega, show (0 - ((L : Int) - 52 - ((J : Int) - 52))).toNat = 0 by omega, show 52 - J = (52 - L) + (L - J) by omega, Nat.pow_add, Nat.pow_zero, Nat.mul_one]
    ac_rfl
theorem ddiv_int {g b u w : Nat} (g1 : 1 ≤ g) (g2 : g < 2 ^ 31) (b1 : 1 ≤ b) (b2 : b < 2 ^ 31) (hu : u ≤ 900) (hw : w ≤ 900) (h1 : g ≤ 2 ^ u * b) (h2 : b ≤ 2 ^ w * g) : ∃ K T, FP.ddiv (FP.i2d (nI g)) (FP.i2d (nI b)) = F64 K T ∧ 1023 - w ≤ K ∧ K * 2 ^ 52 + T ≤ (1023 + u) * 2 ^ 52 ∧ T < 2 ^ 52 := by
  have hv := ddiv_val g1 g2 b1 b2
  generalize FP.ddiv (FP.i2d (nI g)) (FP.i2d (nI b)) = x at hv
  have hn : FP.Core.val64 x ≠ .nan := by rw [hv]; exact FP.Core.roundRatio_ne_nan _ _ _ _ _
  have hs := FP.Core.sgn_bits hn
  rw [hv, FP.Core.sgn_roundRatio] at hs
  have hs2 : x.toNat < 2 ^ 63 := by
    have := of_decide_eq_false hs.symm
    omega
  have hv' : FP.Core.decode FP.Core.b64 x.toNat = FP.Core.roundRatio FP.Core.b64 false g b 0 := hv
  have st : ∀ K, 1 ≤ K → FP.Core.unitsOf FP.Core.b64 (K * 2 ^ 52) = 2 ^ 52 * 2 ^ (K - 1) := fun K hK => by
    have h := FP.Core.unitsOf_start (f := FP.Core.b64) hK
    rw [FP.Core.tails_b64] at h
    exact h
  have iu : FP.Core.inUnits g 0 FP.Core.b64.qmin = g * 2 ^ 1074 := by
    unfold FP.Core.inUnits
    rw [FP.Core.qmin_b64]
    rfl
  have up := FP.Core.mag_le (m := (1023 + u) * 2 ^ 52) (e0 := FP.Core.b64.qmin) FP.Core.good_b64 hv' b1 (Int.le_refl _) (by rw [FP.Core.qmin_b64]; decide) (by
    rw [iu, st _ (by omega), Int.sub_self, ← Nat.pow_add, show 52 + (1023 + u - 1) = 1074 + u by omega, Nat.pow_add]
    show g * 2 ^ 1074 ≤ 2 ^ 1074 * 2 ^ u * 1 * b
    rw [Nat.mul_one, Nat.mul_comm g, Nat.mul_assoc]
    exact Nat.mul_le_mul_left _ h1)
  have lo := FP.Core.mag_ge (m := (1023 - w) * 2 ^ 52) (e0 := FP.Core.b64.qmin) FP.Core.good_b64 hv' b1 (Int.le_refl _) (by rw [FP.Core.qmin_b64]; decide) (by
      rw [FP.Core.infBits_b64]
      omega) (by
    rw [iu, st _ (by omega), Int.sub_self, ← Nat.pow_add, show 52 + (1023 - w - 1) = 1074 - w by omega]
    show 2 ^ (1074 - w) * 1 * b ≤ g * 2 ^ 1074
    have hp : (2 : Nat) ^ 1074 = 2 ^ (1074 - w) * 2 ^ w := by rw [← Nat.pow_add, show 1074 - w + w = 1074 by omega]
    rw [Nat.mul_one, hp, Nat.mul_comm g, Nat.mul_assoc]
    exact Nat.mul_le_mul_left _ h2)
  rw [FP.Core.mag_toNat64, Nat.mod_eq_of_lt hs2] at up lo
  clear iu st hv' hv h1 h2
  exact ⟨x.toNat / 2 ^ 52, x.toNat % 2 ^ 52, F64_of (by omega), by omega, by rw [Nat.div_add_mod']; exact up, Nat.mod_lt _ (by decide)⟩
theorem d2f_int {K T w : Nat} (hw : w ≤ 100) (h1 : 1023 - w ≤ K) (h2 : K * 2 ^ 52 + T ≤ 1023 * 2 ^ 52) (hT : T < 2 ^ 52) : ∃ K' T', FP.d2f (F64 K T) = F32 K' T' ∧ 127 - w ≤ K' ∧ K' ≤ 127 ∧ T' < 2 ^ 23 := by
  have e0 := F64_val (K := K) (T := T) (by omega) (by omega) hT
  have nn : FP.dIsNaN (F64 K T) = false := (FP.Core.notNaN_iff _).mpr (F64_nan (by omega) (by omega) hT)
  rw [FP.d2f_core nn]
  have hv : FP.Core.val32 (FP.Core.d2f (F64 K T)) = FP.Core.roundRatio FP.Core.b32 false (2 ^ 52 + T) 1 ((K : Int) - 1075) := by
    rw [FP.Core.val32_d2f, e0]
    rfl
  generalize FP.Core.d2f (F64 K T) = x at hv
  have hn : FP.Core.val32 x ≠ .nan := by rw [hv]; exact FP.Core.roundRatio_ne_nan _ _ _ _ _
  have hs := FP.Core.sgn_bits32 hn
  rw [hv, FP.Core.sgn_roundRatio] at hs
  have hs2 : x.toNat < 2 ^ 31 := by
    have := of_decide_eq_false hs.symm
    omega
  have hv' : FP.Core.decode FP.Core.b32 x.toNat = FP.Core.roundRatio FP.Core.b32 false (2 ^ 52 + T) 1 ((K : Int) - 1075) := hv
  have st : ∀ K, 1 ≤ K → FP.Core.unitsOf FP.Core.b32 (K * 2 ^ 23) = 2 ^ 23 * 2 ^ (K - 1) := fun K hK => by
    have h := FP.Core.unitsOf_start (f := FP.Core.b32) hK
    rw [FP.Core.tails_b32] at h
    exact h
  have iu : FP.Core.inUnits (2 ^ 52 + T) ((K : Int) - 1075) (-1075) = (2 ^ 52 + T) * 2 ^ K := by
    unfold FP.Core.inUnits
    rw [show ((K : Int) - 1075 - -1075).toNat = K by omega]
  have q926 : (FP.Core.b32.qmin - -1075).toNat = 926 := by rw [FP.Core.qmin_b32]; rfl
  have up := FP.Core.mag_le (m := 127 * 2 ^ 23) (e0 := -1075) FP.Core.good_b32 hv' (by decide) (by rw [FP.Core.qmin_b32]; decide) (by omega) (by
    rw [iu, st _ (by decide), q926, Nat.mul_one, ← Nat.pow_add, ← Nat.pow_add]
    by_cases hk : K = 1023
    · have hT0 : T = 0 := by omega
      subst hk hT0
      rw [Nat.add_zero, ← Nat.pow_add]
      exact Nat.pow_le_pow_right (by decide) (by decide)
    · have h3 : 2 ^ 52 + T ≤ 2 ^ 53 := by omega
      refine Nat.le_trans (Nat.mul_le_mul_right _ h3) ?_
      rw [← Nat.pow_add]
      exact Nat.pow_le_pow_right (by decide) (by omega))
  have lo := FP.Core.mag_ge (m := (127 - w) * 2 ^ 23) (e0 := -1075) FP.Core.good_b32 hv' (by decide) (by rw [FP.Core.qmin_b32]; decide) (by omega) (by
      rw [FP.Core.infBits_b32]
      clear iu st up hv' hv h1 h2
      omega) (by
    rw [iu, st _ (by omega), q926, Nat.mul_one, ← Nat.pow_add, ← Nat.pow_add]
    refine Nat.le_trans ?_ (Nat.mul_le_mul_right _ (Nat.le_add_right (2 ^ 52) T))
    rw [← Nat.pow_add]
    exact Nat.pow_le_pow_right (by decide) (by omega))
  rw [FP.Core.mag_toNat32, Nat.mod_eq_of_lt hs2] at up lo
  clear iu st hv' hv
  exact ⟨x.toNat / 2 ^ 23, x.toNat % 2 ^ 23, F32_of (by omega), by omega, by omega, Nat.mod_lt _ (by decide)⟩
theorem ddiv_zero {b : Nat} (b1 : 1 ≤ b) (b2 : b < 2 ^ 31) : FP.ddiv (FP.i2d (nI 0)) (FP.i2d (nI b)) = 0 := by
  obtain ⟨J, hJ, eJ⟩ := i2d_val b1 b2
  have p3 : 0 < sft b J := Nat.mul_pos b1 (Nat.two_pow_pos _)
  have e0 : FP.Core.val64 (FP.i2d (nI 0)) = .fin false 0 FP.Core.b64.qmin := by decide +kernel
  have z0 : FP.Core.val64 0 = .fin false 0 FP.Core.b64.qmin := by decide +kernel
  have e : FP.Core.val64 (FP.ddiv (FP.i2d (nI 0)) (FP.i2d (nI b))) = .fin false 0 FP.Core.b64.qmin := by
    rw [FP.Core.val64_ddiv, e0, eJ]
    unfold FP.Core.quotient
    show (if sft b J = 0 then _ else FP.Core.roundRatio FP.Core.b64 false 0 (sft b J) _) = _
    rw [if_neg (by omega)]
    unfold FP.Core.roundRatio
    rw [if_pos rfl]
  refine FP.Core.val64_inj ?_ ?_
  · rw [e]; exact FP.Core.Datum.noConfusion
  · rw [e, z0]
theorem nn64_0 : (0 : UInt64) &&& 0x7fffffffffffffff ≤ 0x7ff0000000000000 := by decide
theorem nn32_0 : (0 : UInt32) &&& 0x7fffffff ≤ 0x7f800000 := by decide
theorem d2f_0 : FP.d2f 0 = 0 := by decide +kernel
