/-! ===== the String constants ===== -/
theorem nar_0 : narrow .byte (.int 0) = .int 0 := by decide +kernel
theorem nI_255 : ∀ m, m < 128 → nI m &&& nI 255 = nI m := by decide +kernel
theorem nI_chr : ∀ m, m < 128 → narrow .char (.int (nI m)) = .int (nI m) := by decide +kernel
theorem nI_i2b : ∀ m, m < 128 → (nI m).toInt8.toInt32 = nI m := by decide +kernel
theorem nI_sr0 : ∀ m, m < 128 → nI m >>> ((0 : Int32) &&& 31) = nI m := by decide +kernel
theorem i1_0 : ((1 : Int32) = 0) = False := eq_false (by decide)
theorem i0_0 : ((0 : Int32) = 0) = True := eq_true rfl
section ST
variable {M : Mm} {I : Nat → Nat → Int32} {R : Nat → Nat → Option Nat}
theorem oS {s : Nat} (hs : s < 6) : isO "java/lang/String" 210 (1010 + s) = true := by
  unfold isO
  rw [if_neg (by omega)]
  exact decide_eq_true ⟨by omega, by omega, rfl⟩
theorem gS_0 {s : Nat} (hs : s < 6) : gfI 210 I R 100 0 (1010 + s) = some (.ref (1020 + s)) := by
  unfold gfI
  rw [if_pos rfl, if_pos ⟨by omega, by omega⟩, if_pos rfl, show 1010 + s + 10 = 1020 + s by omega]
theorem gS_1 {s : Nat} (hs : s < 6) : gfI 210 I R 100 1 (1010 + s) = some (.int 0) := by
  unfold gfI
  rw [if_pos rfl, if_pos ⟨by omega, by omega⟩, if_neg (by decide)]
theorem alS {s : Nat} (hs : s < 6) : aln 210 I (1020 + s) = some (nI (stN.getD s 0)) := by
  unfold aln
  rw [if_neg (by omega), if_neg (by omega), if_pos ⟨by omega, by omega⟩, Nat.add_sub_cancel_left]
theorem arS {s i : Nat} (hs : s < 6) (hi : i < stN.getD s 0) (hl : stN.getD s 0 < 128) : ardI 7 210 I (1020 + s) (nI i) = some ((stB.getD s []).getD i 0) := by
  unfold ardI
  rw [if_neg (by omega), if_neg (by omega), if_neg (by omega), if_pos ⟨by omega, by omega⟩, Nat.add_sub_cancel_left, if_pos ⟨rfl, nI_inb hi (by omega)⟩, nI_clamp (by omega)]
theorem f158 {s : Nat} (hs : s < 6) (hl : stN.getD s 0 < 128) : FF 158 [.ref (1010 + s)] (210, I, R) = some (some (.int (nI (stN.getD s 0))), 210, I, R) := by
  have ho := oS hs
  have g0 := gS_0 (I := I) (R := R) hs
  have g1 := gS_1 (I := I) (R := R) hs
  have g2 := alS (I := I) hs
  have g3 := nI_sr0 _ hl
  have n0 := nar_0
  generalize 1010 + s = a at *
  generalize 1020 + s = b at *
  simp (disch := first | omega | (show List.length _ ≤ 4; exact Nat.le_of_ble_eq_true rfl) | assumption | exact nbo_0 | exact nbo_1 | exact b2_b) only [FE158, s158_0, s158_1, s158_4, s158_5, s158_6, s158_9, s158_10, FE159, s159_0, s159_3, s159_6, s159_7, s159_10, s159_13, s159_14, ↓reduceIte, psh_some, psh_none, cln_i, cln_r, cln_n, cln_l, cln_d, cln_f, Option.bind_some, Option.bind_none, if_true, if_false, nI_add, pk_mul, nbo_0, nbo_1, nI_leI, nI_ltI, nI_eq, Nat.reduceAdd, Nat.reduceMul, Nat.add_zero, Nat.mul_zero, g0, g1, g2, g3, i1_0]
theorem f157 {s : Nat} (hs : s < 6) : FF 157 [.ref (1010 + s)] (210, I, R) = some (some (.int (nI 1)), 210, I, R) := by
  have g1 := gS_1 (I := I) (R := R) hs
  generalize 1010 + s = a at *
  simp (disch := first | omega | (show List.length _ ≤ 4; exact Nat.le_of_ble_eq_true rfl) | assumption | exact nbo_0 | exact nbo_1 | exact b2_b) only [FE157, s157_0, s157_3, s157_6, s157_7, s157_10, s157_13, s157_14, s157_17, s157_18, ↓reduceIte, psh_some, psh_none, cln_i, cln_r, cln_n, cln_l, cln_d, cln_f, Option.bind_some, Option.bind_none, if_true, if_false, nI_add, pk_mul, nbo_0, nbo_1, nI_leI, nI_ltI, nI_eq, Nat.reduceAdd, Nat.reduceMul, Nat.add_zero, Nat.mul_zero, g1, i1_0, i0_0]
theorem f160 {s i x : Nat} (hs : s < 6) (hi : i < stN.getD s 0) (hl : stN.getD s 0 < 128) (hx : (stB.getD s []).getD i 0 = nI x) (hx2 : x < 128) : FF 160 [.ref (1010 + s), .int (nI i)] (210, I, R) = some (some (.int (nI x)), 210, I, R) := by
  have ho := oS hs
  have g0 := gS_0 (I := I) (R := R) hs
  have g1 := f157 (I := I) (R := R) hs
  have g2 := alS (I := I) hs
  have g3 := arS (I := I) hs hi hl
  rw [hx] at g3
  have g4 := nI_255 x hx2
  have g5 := nI_i2c x (by omega)
  have n0 := nI_chr x hx2
  have e1 : ¬ nI i < 0 := nI_pos (by omega)
  have i31 : i < 2 ^ 31 := by omega
  have l31 : stN.getD s 0 < 2 ^ 31 := by omega
  generalize 1010 + s = a at *
  generalize 1020 + s = b at *
  generalize stN.getD s 0 = L at *
  simp (disch := first | omega | (show List.length _ ≤ 4; exact Nat.le_of_ble_eq_true rfl) | assumption | exact nbo_0 | exact nbo_1 | exact b2_b) only [FE160, s160_0, s160_1, s160_4, s160_7, s160_8, s160_11, s160_12, s160_15, s160_16, s160_17, s160_20, s160_24, FE165, s165_0, s165_1, s165_2, s165_3, s165_6, s165_7, s165_8, s165_9, s165_12, s165_13, s165_14, FE161, s161_0, s161_1, s161_2, s161_5, s161_8i, s161_8r, s161_9, FE166, s166_0, s166_1, s166_4, s166_5, s166_6, s166_9, s166_10, s166_11, s166_16, s166_17, ↓reduceIte, psh_some, psh_none, cln_i, cln_r, cln_n, cln_l, cln_d, cln_f, Option.bind_some, Option.bind_none, if_true, if_false, nI_add, pk_mul, nbo_0, nbo_1, nI_leI, nI_ltI, nI_eq, Nat.reduceAdd, Nat.reduceMul, Nat.add_zero, Nat.mul_zero, g0, g1, g2, g3, g4, g5, z1, e1, hi]
/-! which letters there are -/
def ltr (k : Nat) : Nat := ([111, 120, 107, 99, 108, 114, 109, 101] : List Nat).getD k 0
def lix (c : Nat) : Nat → Nat → Option Nat
  | 0, _ => none
  | d + 1, k => if ltr k = c then some k else lix c d (k + 1)
theorem ltr_b : ∀ k, k < 8 → (stB.getD 0 []).getD k 0 = nI (ltr k) := by decide +kernel
theorem ltr_lt : ∀ k, k < 8 → ltr k < 128 := by decide
theorem p164 {c : Nat} (hc : c < 128) : ∀ d k, k + d = 8 → EE 164 7 [some (.ref 1020), some (.int (nI c)), some (.int (nI 0)), some (.int (nI 8)), some (.int (nI c)), some (.int (nI k))] [] (210, I, R) = some (some (.int (oN (-1) (lix c d k))), 210, I, R) := by
  intro d
  induction d with
  | zero =>
    intro k hk
    have e : 8 ≤ k := by omega
    rw [s164_7]
    simp (disch := first | omega | (show List.length _ ≤ 4; exact Nat.le_of_ble_eq_true rfl) | assumption | exact nbo_0 | exact nbo_1 | exact b2_b) only [s164_9, s164_10, s164_31, s164_32, ↓reduceIte, psh_some, psh_none, cln_i, cln_r, cln_n, cln_l, cln_d, cln_f, Option.bind_some, Option.bind_none, if_true, if_false, nI_add, pk_mul, nbo_0, nbo_1, nI_leI, nI_ltI, nI_eq, Nat.reduceAdd, Nat.reduceMul, Nat.add_zero, Nat.mul_zero, e]
    rfl
  | succ d ih =>
    intro k hk
    have e : ¬ 8 ≤ k := by omega
    have g := arS (I := I) (s := 0) (i := k) (by decide) (by show k < 8; omega) (by decide)
    rw [ltr_b k (by omega)] at g
    have g : ardI 7 210 I 1020 (nI k) = some (nI (ltr k)) := g
    have lk := ltr_lt k (by omega)
    unfold lix
    rw [s164_7]
    by_cases e1 : ltr k = c
    · rw [if_pos e1]
      simp (disch := first | omega | (show List.length _ ≤ 4; exact Nat.le_of_ble_eq_true rfl) | assumption | exact nbo_0 | exact nbo_1 | exact b2_b) only [s164_9, s164_10, s164_13, s164_14, s164_16, s164_17, s164_19, s164_22, s164_24, ↓reduceIte, psh_some, psh_none, cln_i, cln_r, cln_n, cln_l, cln_d, cln_f, Option.bind_some, Option.bind_none, if_true, if_false, nI_add, pk_mul, nbo_0, nbo_1, nI_leI, nI_ltI, nI_eq, Nat.reduceAdd, Nat.reduceMul, Nat.add_zero, Nat.mul_zero, e, g, e1]
      rfl
    · rw [if_neg e1, ← ih (k + 1) (by omega)]
      simp (disch := first | omega | (show List.length _ ≤ 4; exact Nat.le_of_ble_eq_true rfl) | assumption | exact nbo_0 | exact nbo_1 | exact b2_b) only [s164_9, s164_10, s164_13, s164_14, s164_16, s164_17, s164_19, s164_25, s164_28, ↓reduceIte, psh_some, psh_none, cln_i, cln_r, cln_n, cln_l, cln_d, cln_f, Option.bind_some, Option.bind_none, if_true, if_false, nI_add, pk_mul, nbo_0, nbo_1, nI_leI, nI_ltI, nI_eq, Nat.reduceAdd, Nat.reduceMul, Nat.add_zero, Nat.mul_zero, e, g, e1]
theorem f155 {c : Nat} (hc : c < 128) : FF 155 [.ref 1010, .int (nI c)] (210, I, R) = some (some (.int (oN (-1) (lix c 8 0))), 210, I, R) := by
  have h := p164 (I := I) (R := R) hc 8 0 (by decide)
  have ho : isO "java/lang/String" 210 1010 = true := oS (s := 0) (by decide)
  have g0 : gfI 210 I R 100 0 1010 = some (.ref 1020) := gS_0 (s := 0) (by decide)
  have g1 : FF 157 [.ref 1010] (210, I, R) = some (some (.int (nI 1)), 210, I, R) := f157 (s := 0) (by decide)
  have g2 : FF 158 [.ref 1010] (210, I, R) = some (some (.int (nI 8)), 210, I, R) := f158 (s := 0) (by decide) (by decide)
  have g3 : aln 210 I 1020 = some (nI 8) := alS (s := 0) (by decide)
  have g4 := nI_i2b c hc
  have e1 : ¬ nI c < 0 := nI_pos (by omega)
  have e2 : ¬ 255 < c := by omega
  have g153 : ∀ M : Mm, FF 153 [.int (nI 0), .int (nI 0)] M = some (some (.int (nI 0)), M) := fun M => by
    simp (disch := first | omega | (show List.length _ ≤ 4; exact Nat.le_of_ble_eq_true rfl) | assumption | exact nbo_0 | exact nbo_1 | exact b2_b) only [FE153, s153_0, s153_1, s153_2, s153_5, s153_6, s153_9, s153_10, ↓reduceIte, psh_some, psh_none, cln_i, cln_r, cln_n, cln_l, cln_d, cln_f, Option.bind_some, Option.bind_none, if_true, if_false, nI_add, pk_mul, nbo_0, nbo_1, nI_leI, nI_ltI, nI_eq, Nat.reduceAdd, Nat.reduceMul, Nat.add_zero, Nat.mul_zero, Nat.lt_irrefl]
  have g151 := fun M : Mm => f151 (M := M) (x := 8) (y := 8) (by decide) (by decide)
  have e3 : (0 : Nat) < 8 := by decide
  have e4 : min 8 8 = 8 := rfl
  have g164 : FF 164 [.ref 1020, .int (nI c), .int (nI 0), .int (nI 8)] (210, I, R) = some (some (.int (oN (-1) (lix c 8 0))), 210, I, R) := by
    rw [← h]
    simp (disch := first | omega | (show List.length _ ≤ 4; exact Nat.le_of_ble_eq_true rfl) | assumption | exact nbo_0 | exact nbo_1 | exact b2_b) only [FE164, s164_0, s164_1, s164_2, s164_4, s164_5, ↓reduceIte, psh_some, psh_none, cln_i, cln_r, cln_n, cln_l, cln_d, cln_f, Option.bind_some, Option.bind_none, if_true, if_false, nI_add, pk_mul, nbo_0, nbo_1, nI_leI, nI_ltI, nI_eq, Nat.reduceAdd, Nat.reduceMul, Nat.add_zero, Nat.mul_zero, g4]
  simp (disch := first | omega | (show List.length _ ≤ 4; exact Nat.le_of_ble_eq_true rfl) | assumption | exact nbo_0 | exact nbo_1 | exact b2_b) only [FE155, s155_0, s155_1, s155_2, s155_3, s155_6, FE156, s156_0, s156_1, s156_4, s156_7, s156_8, s156_11, s156_12, s156_13, s156_14, s156_17, s156_20, s156_36, FE162, s162_0, s162_1, s162_4, s162_7, s162_8, s162_9, s162_10, s162_11, s162_14, s162_15, s162_16, s162_17, s162_18, s162_21, s162_22, s162_23, s162_24, s162_27, s162_28, s162_29, s162_30, s162_31, s162_32, s162_33, s162_36, FE163, s163_0, s163_1, s163_4, s163_5, s163_8, s163_11, s163_12, s163_15, s163_16, ↓reduceIte, psh_some, psh_none, cln_i, cln_r, cln_n, cln_l, cln_d, cln_f, Option.bind_some, Option.bind_none, if_true, if_false, nI_add, pk_mul, nbo_0, nbo_1, nI_leI, nI_ltI, nI_eq, Nat.reduceAdd, Nat.reduceMul, Nat.add_zero, Nat.mul_zero, g0, g1, g2, g3, g151, g153, e1, e2, e3, e4, z1, g164]
/-! the shapes -/
def shp (c : Nat) : Nat := if c = 120 ∨ c = 107 ∨ c = 99 then 1 else if c = 108 then 2 else if c = 114 then 3 else if c = 109 then 4 else 5
def spL (s : Nat) : List Nat := ([[], [116], [119, 46, 116, 43, 110], [110, 61, 119], [110, 61, 110], []] : List (List Nat)).getD s []
theorem spL_len : ∀ s, s < 6 → 1 ≤ s → stN.getD s 0 = (spL s).length := by decide
theorem spL_at : ∀ s, s < 6 → 1 ≤ s → ∀ i, i < (spL s).length → (stB.getD s []).getD i 0 = nI ((spL s).getD i 0) ∧ (spL s).getD i 0 < 128 := by decide +kernel
theorem shp_ok {c : Nat} : 1 ≤ shp c ∧ shp c < 6 := by
  unfold shp
  split
  · omega
  · split
    · omega
    · split
      · omega
      · split <;> omega
theorem f7 {c : Nat} (hc : c < 128) : FF 7 [.int (nI c)] M = some (some (.ref (1010 + shp c)), M) := by
  by_cases h1 : c = 120
  · subst h1; simp (disch := first | omega | (show List.length _ ≤ 4; exact Nat.le_of_ble_eq_true rfl) | assumption | exact nbo_0 | exact nbo_1 | exact b2_b) only [FE7, s7_0, s7_1_99, s7_1_107, s7_1_108, s7_1_109, s7_1_114, s7_1_120, s7_1_d, s7_60, s7_62, s7_63, s7_65, s7_66, s7_68, s7_69, s7_71, s7_72, s7_74, ↓reduceIte, psh_some, psh_none, cln_i, cln_r, cln_n, cln_l, cln_d, cln_f, Option.bind_some, Option.bind_none, if_true, if_false, nI_add, pk_mul, nbo_0, nbo_1, nI_leI, nI_ltI, nI_eq, Nat.reduceAdd, Nat.reduceMul, Nat.add_zero, Nat.mul_zero]; rfl
  · by_cases h2 : c = 107
    · subst h2; simp (disch := first | omega | (show List.length _ ≤ 4; exact Nat.le_of_ble_eq_true rfl) | assumption | exact nbo_0 | exact nbo_1 | exact b2_b) only [FE7, s7_0, s7_1_99, s7_1_107, s7_1_108, s7_1_109, s7_1_114, s7_1_120, s7_1_d, s7_60, s7_62, s7_63, s7_65, s7_66, s7_68, s7_69, s7_71, s7_72, s7_74, ↓reduceIte, psh_some, psh_none, cln_i, cln_r, cln_n, cln_l, cln_d, cln_f, Option.bind_some, Option.bind_none, if_true, if_false, nI_add, pk_mul, nbo_0, nbo_1, nI_leI, nI_ltI, nI_eq, Nat.reduceAdd, Nat.reduceMul, Nat.add_zero, Nat.mul_zero]; rfl
    · by_cases h3 : c = 99
      · subst h3; simp (disch := first | omega | (show List.length _ ≤ 4; exact Nat.le_of_ble_eq_true rfl) | assumption | exact nbo_0 | exact nbo_1 | exact b2_b) only [FE7, s7_0, s7_1_99, s7_1_107, s7_1_108, s7_1_109, s7_1_114, s7_1_120, s7_1_d, s7_60, s7_62, s7_63, s7_65, s7_66, s7_68, s7_69, s7_71, s7_72, s7_74, ↓reduceIte, psh_some, psh_none, cln_i, cln_r, cln_n, cln_l, cln_d, cln_f, Option.bind_some, Option.bind_none, if_true, if_false, nI_add, pk_mul, nbo_0, nbo_1, nI_leI, nI_ltI, nI_eq, Nat.reduceAdd, Nat.reduceMul, Nat.add_zero, Nat.mul_zero]; rfl
      · by_cases h4 : c = 108
        · subst h4; simp (disch := first | omega | (show List.length _ ≤ 4; exact Nat.le_of_ble_eq_true rfl) | assumption | exact nbo_0 | exact nbo_1 | exact b2_b) only [FE7, s7_0, s7_1_99, s7_1_107, s7_1_108, s7_1_109, s7_1_114, s7_1_120, s7_1_d, s7_60, s7_62, s7_63, s7_65, s7_66, s7_68, s7_69, s7_71, s7_72, s7_74, ↓reduceIte, psh_some, psh_none, cln_i, cln_r, cln_n, cln_l, cln_d, cln_f, Option.bind_some, Option.bind_none, if_true, if_false, nI_add, pk_mul, nbo_0, nbo_1, nI_leI, nI_ltI, nI_eq, Nat.reduceAdd, Nat.reduceMul, Nat.add_zero, Nat.mul_zero]; rfl
        · by_cases h5 : c = 114
          · subst h5; simp (disch := first | omega | (show List.length _ ≤ 4; exact Nat.le_of_ble_eq_true rfl) | assumption | exact nbo_0 | exact nbo_1 | exact b2_b) only [FE7, s7_0, s7_1_99, s7_1_107, s7_1_108, s7_1_109, s7_1_114, s7_1_120, s7_1_d, s7_60, s7_62, s7_63, s7_65, s7_66, s7_68, s7_69, s7_71, s7_72, s7_74, ↓reduceIte, psh_some, psh_none, cln_i, cln_r, cln_n, cln_l, cln_d, cln_f, Option.bind_some, Option.bind_none, if_true, if_false, nI_add, pk_mul, nbo_0, nbo_1, nI_leI, nI_ltI, nI_eq, Nat.reduceAdd, Nat.reduceMul, Nat.add_zero, Nat.mul_zero]; rfl
          · by_cases h6 : c = 109
            · subst h6; simp (disch := first | omega | (show List.length _ ≤ 4; exact Nat.le_of_ble_eq_true rfl) | assumption | exact nbo_0 | exact nbo_1 | exact b2_b) only [FE7, s7_0, s7_1_99, s7_1_107, s7_1_108, s7_1_109, s7_1_114, s7_1_120, s7_1_d, s7_60, s7_62, s7_63, s7_65, s7_66, s7_68, s7_69, s7_71, s7_72, s7_74, ↓reduceIte, psh_some, psh_none, cln_i, cln_r, cln_n, cln_l, cln_d, cln_f, Option.bind_some, Option.bind_none, if_true, if_false, nI_add, pk_mul, nbo_0, nbo_1, nI_leI, nI_ltI, nI_eq, Nat.reduceAdd, Nat.reduceMul, Nat.add_zero, Nat.mul_zero]; rfl
            · have e := nI_toInt (n := c) (by omega)
              have g := fun (M : Mm) (st : List Value) (l0 : Option Value) => s7_1_d (M := M) (st := st) (l0 := l0) (x := nI c) (by omega) (by omega) (by omega) (by omega) (by omega) (by omega)
              have es : shp c = 5 := by
                unfold shp
                rw [if_neg (by omega), if_neg h4, if_neg h5, if_neg h6]
              rw [es]
              simp (disch := first | omega | (show List.length _ ≤ 4; exact Nat.le_of_ble_eq_true rfl) | assumption | exact nbo_0 | exact nbo_1 | exact b2_b) only [FE7, s7_0, g, s7_72, s7_74, ↓reduceIte, psh_some, psh_none, cln_i, cln_r, cln_n, cln_l, cln_d, cln_f, Option.bind_some, Option.bind_none, if_true, if_false, nI_add, pk_mul, nbo_0, nbo_1, nI_leI, nI_ltI, nI_eq, Nat.reduceAdd, Nat.reduceMul, Nat.add_zero, Nat.mul_zero]
end ST
