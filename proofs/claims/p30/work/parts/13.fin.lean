/-! ===== the class ends a shift ===== -/
def msE (w : Nat) (a : Nat → Nat) : (Nat → Nat) × Nat := fd (msF w) (a 13) 0 (a, 0)
def tot (p : (Nat → Nat) × Nat) : Nat → Nat := up p.1 8 (p.1 8 + p.2)
def hipF (n i : Nat) (s : Nat → Nat) : Nat → Nat := up (up (up s 10 (s 10 + i)) 9 (s 9 + n)) 11 (s 11 + n * s 6)
def hands (f t n : Nat) (s : Nat → Nat) : Nat → Nat := if f = t then s else hipF n (idle f t n s) (hand f t n s)
def dcA (t : Nat) (s : Nat → Nat) : Nat → Nat := fd (fun w s => if w = t then s else fd (dcF w) 10 0 s) 6 0 s
def frm (a : Nat → Nat) : Nat := a (14 + a 0 % 12)
def too (a : Nat → Nat) : Nat := a (14 + (a 0 + 1) % 12)
def wkA (a : Nat → Nat) : Nat → Nat := fd (wkF (frm a)) (a 1) 0 a
def shN (s : Nat → Nat) : Nat → Nat := up s 0 (s 0 + 1)
/-- a shift's end with n minutes, as the class does it; the misses too -/
def endP (n : Nat) (a : Nat → Nat) : (Nat → Nat) × Nat := msE (too a) (fd (bgF (too a)) (a 1) 0 (dcA (too a) (shN (hands (frm a) (too a) n (wkA a)))))
section S6
variable {I : Nat → Nat → Int32} {R : Nat → Nat → Option Nat} {b : Nat} {a : Nat → Nat}
theorem msF_ok {w i : Nat} {p : (Nat → Nat) × Nat} (h : WO p.1) (hi : i < p.1 13) : WO (msF w i p).1 ∧ ∀ k, ¬ (118 ≤ k ∧ k < 128) → (msF w i p).1 k = p.1 k := by
  have h1 := h.le i hi
  have h2 := h.tp
  unfold msF
  by_cases e : p.1 (38 + p.1 (48 + i)) = 1 ∧ p.1 (58 + 10 * w + p.1 (48 + i)) < p.1 2
  · rw [if_pos e]
    exact ⟨h.up_ct (by omega), fun k hk => up_ne (by omega)⟩
  · rw [if_neg e]
    exact ⟨h, fun k _ => rfl⟩
theorem p36 {w : Nat} (hb : b < 13) (hR : RS R) (hw : w < 6) : ∀ d k (p : (Nat → Nat) × Nat) (l4 : Option Value), k + d = p.1 13 → WO p.1 → EE 36 4 [some (.ref (16 * b)), some (.ref (16 * b + (5 + w))), some (.int (nI p.2)), some (.int (nI k)), l4] [] (202, up I b (vI p.1), R) = some (some (.int (nI (fd (msF w) d k p).2)), 202, up I b (vI (tot (fd (msF w) d k p))), R) := by
  have ho := os hb
  intro d
  induction d with
  | zero =>
    intro k p l4 hk hW
    have hL := hW.li
    have hkn : p.1 13 ≤ k := by omega
    rw [s36_4]
    simp (disch := first | omega | (show List.length _ ≤ 4; exact Nat.le_of_ble_eq_true rfl) | assumption | exact nbo_0 | exact nbo_1 | exact b2_b) only [s36_0, s36_1, s36_2, s36_3, s36_5, s36_6, s36_9, s36_12, s36_13, s36_16, s36_17, s36_18, s36_20, s36_21, s36_23, s36_26, s36_29, s36_30, s36_32, s36_33, s36_34, s36_37, s36_38, s36_39, s36_42, s36_43, s36_46, s36_48, s36_49, s36_50, s36_51, s36_52, s36_53, s36_56, s36_59, s36_62, s36_63i, s36_63r, s36_64, s36_67, s36_68, s36_69, s36_72, s36_73, ↓reduceIte, psh_some, psh_none, cln_i, cln_r, cln_n, cln_l, cln_d, cln_f, Option.bind_some, Option.bind_none, if_true, if_false, nI_add, pk_mul, nbo_0, nbo_1, nI_leI, nI_ltI, nI_eq, Nat.reduceAdd, Nat.reduceMul, Nat.add_zero, Nat.mul_zero, up_at, up_up, up_vI, vI_at, gs_10 hb, gs_12 hb, ps_12 hb, hkn]
    rfl
  | succ d ih =>
    intro k p l4 hk hW
    have hx := hW.le k (by omega)
    have hT := hW.tp
    have hL := hW.li
    have hn : ¬ p.1 13 ≤ k := by omega
    have hm := msF_ok (w := w) (i := k) hW (by omega)
    have hkn := hW.kn
    have l2 := hW.lv w (p.1 (48 + k)) hw (by omega)
    have hc := cs_12 (k := p.1 (48 + k)) hb (by omega)
    have f19s := f19 (R := R) (t := p.1 (48 + k)) hb (up_at I b (vI p.1)) hW (by omega)
    show _ = some (some (Value.int (nI (fd (msF w) d (k + 1) (msF w k p)).2)), 202, up I b (vI (tot (fd (msF w) d (k + 1) (msF w k p)))), R)
    rw [← ih (k + 1) (msF w k p) (some (.int (nI (p.1 (48 + k))))) (by rw [hm.2 13 (by omega)]; omega) hm.1, s36_4]
    unfold msF
    by_cases e : p.1 (38 + p.1 (48 + k)) = 1
    · by_cases e2 : p.1 (58 + 10 * w + p.1 (48 + k)) < p.1 2
      · have e3 : ¬ p.1 2 ≤ p.1 (58 + 10 * w + p.1 (48 + k)) := by omega
        rw [if_pos ⟨e, e2⟩]
        simp (disch := first | omega | (show List.length _ ≤ 4; exact Nat.le_of_ble_eq_true rfl) | assumption | exact nbo_0 | exact nbo_1 | exact b2_b) only [s36_0, s36_1, s36_2, s36_3, s36_5, s36_6, s36_9, s36_12, s36_13, s36_16, s36_17, s36_18, s36_20, s36_21, s36_23, s36_26, s36_29, s36_30, s36_32, s36_33, s36_34, s36_37, s36_38, s36_39, s36_42, s36_43, s36_46, s36_48, s36_49, s36_50, s36_51, s36_52, s36_53, s36_56, s36_59, s36_62, s36_63i, s36_63r, s36_64, s36_67, s36_68, s36_69, s36_72, s36_73, ↓reduceIte, psh_some, psh_none, cln_i, cln_r, cln_n, cln_l, cln_d, cln_f, Option.bind_some, Option.bind_none, if_true, if_false, nI_add, pk_mul, nbo_0, nbo_1, nI_leI, nI_ltI, nI_eq, Nat.reduceAdd, Nat.reduceMul, Nat.add_zero, Nat.mul_zero, up_at, up_up, up_vI, vI_at, gs_10 hb, gs_4 hb hR, gs_0 hb hR, gs_5 hb hR, as_1 hb, as_11 hb, as_12 hb, ws_12 hb, as_5 hb hw, f19s, b2_if, hn, e, e3]
      · have e3 : p.1 2 ≤ p.1 (58 + 10 * w + p.1 (48 + k)) := by omega
        rw [if_neg (fun h => e2 h.2)]
        simp (disch := first | omega | (show List.length _ ≤ 4; exact Nat.le_of_ble_eq_true rfl) | assumption | exact nbo_0 | exact nbo_1 | exact b2_b) only [s36_0, s36_1, s36_2, s36_3, s36_5, s36_6, s36_9, s36_12, s36_13, s36_16, s36_17, s36_18, s36_20, s36_21, s36_23, s36_26, s36_29, s36_30, s36_32, s36_33, s36_34, s36_37, s36_38, s36_39, s36_42, s36_43, s36_46, s36_48, s36_49, s36_50, s36_51, s36_52, s36_53, s36_56, s36_59, s36_62, s36_63i, s36_63r, s36_64, s36_67, s36_68, s36_69, s36_72, s36_73, ↓reduceIte, psh_some, psh_none, cln_i, cln_r, cln_n, cln_l, cln_d, cln_f, Option.bind_some, Option.bind_none, if_true, if_false, nI_add, pk_mul, nbo_0, nbo_1, nI_leI, nI_ltI, nI_eq, Nat.reduceAdd, Nat.reduceMul, Nat.add_zero, Nat.mul_zero, up_at, up_up, up_vI, vI_at, gs_10 hb, gs_4 hb hR, gs_0 hb hR, as_1 hb, as_11 hb, as_5 hb hw, f19s, b2_if, hn, e, e3]
    · rw [if_neg (fun h => e h.1)]
      simp (disch := first | omega | (show List.length _ ≤ 4; exact Nat.le_of_ble_eq_true rfl) | assumption | exact nbo_0 | exact nbo_1 | exact b2_b) only [s36_0, s36_1, s36_2, s36_3, s36_5, s36_6, s36_9, s36_12, s36_13, s36_16, s36_17, s36_18, s36_20, s36_21, s36_23, s36_26, s36_29, s36_30, s36_32, s36_33, s36_34, s36_37, s36_38, s36_39, s36_42, s36_43, s36_46, s36_48, s36_49, s36_50, s36_51, s36_52, s36_53, s36_56, s36_59, s36_62, s36_63i, s36_63r, s36_64, s36_67, s36_68, s36_69, s36_72, s36_73, ↓reduceIte, psh_some, psh_none, cln_i, cln_r, cln_n, cln_l, cln_d, cln_f, Option.bind_some, Option.bind_none, if_true, if_false, nI_add, pk_mul, nbo_0, nbo_1, nI_leI, nI_ltI, nI_eq, Nat.reduceAdd, Nat.reduceMul, Nat.add_zero, Nat.mul_zero, up_at, up_up, up_vI, vI_at, gs_10 hb, gs_4 hb hR, as_11 hb, f19s, b2_if, hn, e]
theorem f36 {w : Nat} (hb : b < 13) (hR : RS R) (hI : I b = vI a) (hW : WO a) (hw : w < 6) : FF 36 [.ref (16 * b), .ref (16 * b + (5 + w))] (202, I, R) = some (some (.int (nI (msE w a).2)), 202, up I b (vI (tot (msE w a))), R) := by
  have h := p36 (I := I) (R := R) hb hR hw (a 13) 0 (a, 0) none (by show 0 + a 13 = a 13; omega) hW
  rw [up_eq hI] at h
  refine Eq.trans ?_ h
  simp (disch := first | omega | (show List.length _ ≤ 4; exact Nat.le_of_ble_eq_true rfl) | assumption | exact nbo_0 | exact nbo_1 | exact b2_b) only [FE36, s36_0, s36_1, s36_2, s36_3, ↓reduceIte, psh_some, psh_none, cln_i, cln_r, cln_n, cln_l, cln_d, cln_f, Option.bind_some, Option.bind_none, if_true, if_false, nI_add, pk_mul, nbo_0, nbo_1, nI_leI, nI_ltI, nI_eq, Nat.reduceAdd, Nat.reduceMul, Nat.add_zero, Nat.mul_zero]
/-! what the pieces leave alone -/
theorem hand_ok {f t : Nat} (hf : f < 6) (ht : t < 6) (hn : f ≠ t) : ∀ n (s : Nat → Nat), WO s → WO (hand f t n s) ∧ ∀ k, ¬ (58 ≤ k ∧ k < 118) → hand f t n s k = s k
  | 0, s, h => ⟨h, fun _ _ => rfl⟩
  | n + 1, s, h => by
    cases e : picks s f t with
    | none => rw [(hand_none e).1]; exact ⟨h, fun _ _ => rfl⟩
    | some x =>
      rw [(hand_some e).1]
      have hx := (picks_some h hf ht e).1
      have hk := lift_ok h hf ht hx
      have hT := h.tp
      have ih := hand_ok hf ht hn n (lift s f t x) hk.1
      exact ⟨ih.1, fun k hk2 => by rw [ih.2 k hk2, hk.2 k (by omega)]⟩
theorem idle_le {f t : Nat} : ∀ n (s : Nat → Nat), idle f t n s ≤ n
  | 0, _ => Nat.le_refl _
  | n + 1, s => by
    cases e : picks s f t with
    | none => rw [(hand_none e).2]; exact Nat.le_refl _
    | some x => rw [(hand_some e).2]; exact Nat.le_trans (idle_le n _) (Nat.le_succ n)
theorem hands_ok {f t n : Nat} (hf : f < 6) (ht : t < 6) {s : Nat → Nat} (h : WO s) : WO (hands f t n s) ∧ ∀ k, ¬ (58 ≤ k ∧ k < 118) → ¬ (9 ≤ k ∧ k < 12) → hands f t n s k = s k := by
  unfold hands
  by_cases e : f = t
  · rw [if_pos e]; exact ⟨h, fun _ _ _ => rfl⟩
  · rw [if_neg e]
    have hk := hand_ok hf ht e n s h
    unfold hipF
    exact ⟨((hk.1.up_ct (by omega)).up_ct (by omega)).up_ct (by omega), fun k h1 h2 => by rw [up_ne (by omega), up_ne (by omega), up_ne (by omega), hk.2 k h1]⟩
theorem wkA_ok (hW : WO a) : WO (wkA a) ∧ ∀ k, ¬ (58 ≤ k ∧ k < 118) → wkA a k = a k := by
  have hf : frm a < 6 := hW.ro _ (Nat.mod_lt _ (by decide))
  refine fd_inv (P := fun s => WO s ∧ ∀ k, ¬ (58 ≤ k ∧ k < 118) → s k = a k) (n := a 1) ?_ (a 1) 0 a (by omega) ⟨hW, fun _ _ => rfl⟩
  intro i s hi ⟨h1, h2⟩
  have hk := wkF_ok (w := frm a) hf h1 (by rw [h2 1 (by omega)]; exact hi)
  exact ⟨hk.1, fun k h => by rw [hk.2 k h, h2 k h]⟩
theorem dcW_ok {w : Nat} (hw : w < 6) {s : Nat → Nat} (h : WO s) : WO (fd (dcF w) 10 0 s) ∧ ∀ k, ¬ (58 ≤ k ∧ k < 118) → fd (dcF w) 10 0 s k = s k := by
  refine fd_inv (P := fun s' => WO s' ∧ ∀ k, ¬ (58 ≤ k ∧ k < 118) → s' k = s k) (n := 10) ?_ 10 0 s (by omega) ⟨h, fun _ _ => rfl⟩
  intro i s' hi ⟨h1, h2⟩
  have hk := dcF_ok (w := w) hw h1 hi
  exact ⟨hk.1, fun k h => by rw [hk.2 k h, h2 k h]⟩
theorem dcA_ok {t : Nat} {s : Nat → Nat} (h : WO s) : WO (dcA t s) ∧ ∀ k, ¬ (58 ≤ k ∧ k < 118) → dcA t s k = s k := by
  refine fd_inv (P := fun s' => WO s' ∧ ∀ k, ¬ (58 ≤ k ∧ k < 118) → s' k = s k) (n := 6) ?_ 6 0 s (by omega) ⟨h, fun _ _ => rfl⟩
  intro i s' hi ⟨h1, h2⟩
  by_cases e : i = t
  · rw [if_pos e]; exact ⟨h1, h2⟩
  · rw [if_neg e]
    have hk := dcW_ok hi h1
    exact ⟨hk.1, fun k h => by rw [hk.2 k h, h2 k h]⟩
theorem bgA_ok {t n : Nat} {s : Nat → Nat} (h : WO s) (hn : n ≤ 10) : WO (fd (bgF t) n 0 s) ∧ ∀ k, ¬ (128 ≤ k ∧ k < 148) → fd (bgF t) n 0 s k = s k := by
  refine fd_inv (P := fun s' => WO s' ∧ ∀ k, ¬ (128 ≤ k ∧ k < 148) → s' k = s k) (n := 10) ?_ n 0 s (by omega) ⟨h, fun _ _ => rfl⟩
  intro i s' hi ⟨h1, h2⟩
  have hk := bgF_ok (w := t) h1 hi
  exact ⟨hk.1, fun k h => by rw [hk.2 k h, h2 k h]⟩
theorem msE_ok {t : Nat} {s : Nat → Nat} (h : WO s) : WO (msE t s).1 ∧ ∀ k, ¬ (118 ≤ k ∧ k < 128) → (msE t s).1 k = s k := by
  refine fd_inv (P := fun (p : (Nat → Nat) × Nat) => WO p.1 ∧ ∀ k, ¬ (118 ≤ k ∧ k < 128) → p.1 k = s k) (n := s 13) ?_ (s 13) 0 (s, 0) (by omega) ⟨h, fun _ _ => rfl⟩
  intro i s' hi ⟨h1, h2⟩
  have hk := msF_ok (w := t) (i := i) h1 (by rw [h2 13 (by omega)]; exact hi)
  exact ⟨hk.1, fun k h => by rw [hk.2 k h, h2 k h]⟩
theorem f29 {n : Nat} (hb : b < 13) (hR : RS R) (hI : I b = vI a) (hW : WO a) (h0 : a 0 < 2 ^ 30) (hn : n < 2 ^ 20) : FF 29 [.ref (16 * b), .int (nI n)] (202, I, R) = some (some (.int (nI (endP n a).2)), 202, up I b (vI (tot (endP n a))), R) := by
  have ho := os hb
  have hf : frm a < 6 := hW.ro _ (Nat.mod_lt _ (by decide))
  have ht : too a < 6 := hW.ro _ (Nat.mod_lt _ (by decide))
  have k1 := wkA_ok hW
  have k2 := hands_ok (n := n) hf ht k1.1
  have k3 : WO (shN (hands (frm a) (too a) n (wkA a))) := k2.1.up_ct (by omega)
  have k3' : ∀ k, 1 ≤ k → shN (hands (frm a) (too a) n (wkA a)) k = hands (frm a) (too a) n (wkA a) k := fun k hk => up_ne (by omega)
  have k4 := dcA_ok (t := too a) k3
  have hT := hW.tp
  have k5 := bgA_ok (t := too a) (n := a 1) k4.1 hT
  have e1 : dcA (too a) (shN (hands (frm a) (too a) n (wkA a))) 1 = a 1 := by rw [k4.2 1 (by omega), k3' 1 (by omega), k2.2 1 (by omega) (by omega), k1.2 1 (by omega)]
  have hA : FF 29 [.ref (16 * b), .int (nI n)] (202, I, R) = EE 29 36 [some (.ref (16 * b)), some (.int (nI n)), some (.int (nI (frm a))), some (.int (nI (too a))), none] [] (202, up I b (vI (wkA a)), R) := by
    have h1 := nI_pos (n := frm a) (by omega)
    have h2 := nI_ge (a := frm a) (b := 6) hf (by decide)
    have h3 := nI_pos (n := too a) (by omega)
    have h4 := nI_ge (a := too a) (b := 6) ht (by decide)
    have h5 : FF 49 [.int (nI (frm a))] (202, I, R) = some (some (.int (nI 1)), 202, I, R) := by rw [f49, b2_t ⟨h1, h2⟩]
    have h6 : FF 49 [.int (nI (too a))] (202, I, R) = some (some (.int (nI 1)), 202, I, R) := by rw [f49, b2_t ⟨h3, h4⟩]
    have h7 := lv_c hb hf
    have h8 := lv_v hb hf hR
    have h9 : ¬ nI 1 = 0 := by decide
    have h10 := f26 hb hR hI h0
    have h11 := f30 hb hR hI h0
    rw [show a (14 + a 0 % 12) = frm a from rfl] at h10
    rw [show a (14 + (a 0 + 1) % 12) = too a from rfl] at h11
    simp (disch := first | omega | (show List.length _ ≤ 4; exact Nat.le_of_ble_eq_true rfl) | assumption | exact nbo_0 | exact nbo_1 | exact b2_b) only [FE29, s29_0, s29_1, s29_4, s29_5, s29_6, s29_9, s29_10, s29_11, s29_14, s29_17, s29_18, s29_21, s29_24, s29_25, s29_26, s29_27, s29_28, s29_31, s29_32, s29_33, s29_37, s29_38, s29_41, s29_42i, s29_42r, s29_43, s29_46, s29_47, s29_48, s29_51, s29_52, s29_53, s29_54, s29_57, s29_58, s29_59, s29_60, s29_63, s29_64, s29_67, s29_68i, s29_68r, s29_69, s29_72, s29_73, s29_74, s29_77, s29_78i, s29_78r, s29_79, s29_82, s29_83, s29_84, s29_87, s29_88, s29_89, s29_90, s29_91, s29_94, s29_95i, s29_95r, s29_96, s29_99, s29_100, s29_101, s29_104, s29_105, s29_107, s29_109, s29_111, s29_114, s29_116, s29_117, s29_120, s29_121, s29_122, s29_125, s29_127, s29_128, s29_131, s29_134, s29_137, s29_138, s29_139, s29_142, s29_143, s29_144, s29_147, s29_148, s29_149, s29_152, s29_153, s29_154, s29_157, ↓reduceIte, psh_some, psh_none, cln_i, cln_r, cln_n, cln_l, cln_d, cln_f, Option.bind_some, Option.bind_none, if_true, if_false, nI_add, pk_mul, nbo_0, nbo_1, nI_leI, nI_ltI, nI_eq, Nat.reduceAdd, Nat.reduceMul, Nat.add_zero, Nat.mul_zero, h10, h11, h5, h6, h9, gs_3 hb hR, h7, h8, f31 hb hR hI hW hf]
    rfl
  have hB : EE 29 36 [some (.ref (16 * b)), some (.int (nI n)), some (.int (nI (frm a))), some (.int (nI (too a))), none] [] (202, up I b (vI (wkA a)), R) = EE 29 94 [some (.ref (16 * b)), some (.int (nI n)), some (.int (nI (frm a))), some (.int (nI (too a))), none] [] (202, up I b (vI (hands (frm a) (too a) n (wkA a))), R) := by
    have h7 := lv_c hb hf
    have h8 := lv_v hb hf hR
    have h7' := lv_c hb ht
    have h8' := lv_v hb ht hR
    unfold hands
    by_cases e : frm a = too a
    · have e2 : too a = frm a := e.symm
      rw [if_pos e, s29_36]
      simp (disch := first | omega | (show List.length _ ≤ 4; exact Nat.le_of_ble_eq_true rfl) | assumption | exact nbo_0 | exact nbo_1 | exact b2_b) only [s29_0, s29_1, s29_4, s29_5, s29_6, s29_9, s29_10, s29_11, s29_14, s29_17, s29_18, s29_21, s29_24, s29_25, s29_26, s29_27, s29_28, s29_31, s29_32, s29_33, s29_37, s29_38, s29_41, s29_42i, s29_42r, s29_43, s29_46, s29_47, s29_48, s29_51, s29_52, s29_53, s29_54, s29_57, s29_58, s29_59, s29_60, s29_63, s29_64, s29_67, s29_68i, s29_68r, s29_69, s29_72, s29_73, s29_74, s29_77, s29_78i, s29_78r, s29_79, s29_82, s29_83, s29_84, s29_87, s29_88, s29_89, s29_90, s29_91, s29_95i, s29_95r, s29_96, s29_99, s29_100, s29_101, s29_104, s29_105, s29_107, s29_109, s29_111, s29_114, s29_116, s29_117, s29_120, s29_121, s29_122, s29_125, s29_127, s29_128, s29_131, s29_134, s29_137, s29_138, s29_139, s29_142, s29_143, s29_144, s29_147, s29_148, s29_149, s29_152, s29_153, s29_154, s29_157, ↓reduceIte, psh_some, psh_none, cln_i, cln_r, cln_n, cln_l, cln_d, cln_f, Option.bind_some, Option.bind_none, if_true, if_false, nI_add, pk_mul, nbo_0, nbo_1, nI_leI, nI_ltI, nI_eq, Nat.reduceAdd, Nat.reduceMul, Nat.add_zero, Nat.mul_zero, up_at, up_up, up_vI, vI_at, e2]
    · have e2 : ¬ too a = frm a := fun h => e h.symm
      have hk := hand_ok hf ht e n _ k1.1
      have hi := hk.2 10 (by omega)
      rw [if_neg e, s29_36]
      simp (disch := first | omega | (show List.length _ ≤ 4; exact Nat.le_of_ble_eq_true rfl) | assumption | exact nbo_0 | exact nbo_1 | exact b2_b) only [s29_0, s29_1, s29_4, s29_5, s29_6, s29_9, s29_10, s29_11, s29_14, s29_17, s29_18, s29_21, s29_24, s29_25, s29_26, s29_27, s29_28, s29_31, s29_32, s29_33, s29_37, s29_38, s29_41, s29_42i, s29_42r, s29_43, s29_46, s29_47, s29_48, s29_51, s29_52, s29_53, s29_54, s29_57, s29_58, s29_59, s29_60, s29_63, s29_64, s29_67, s29_68i, s29_68r, s29_69, s29_72, s29_73, s29_74, s29_77, s29_78i, s29_78r, s29_79, s29_82, s29_83, s29_84, s29_87, s29_88, s29_89, s29_90, s29_91, s29_95i, s29_95r, s29_96, s29_99, s29_100, s29_101, s29_104, s29_105, s29_107, s29_109, s29_111, s29_114, s29_116, s29_117, s29_120, s29_121, s29_122, s29_125, s29_127, s29_128, s29_131, s29_134, s29_137, s29_138, s29_139, s29_142, s29_143, s29_144, s29_147, s29_148, s29_149, s29_152, s29_153, s29_154, s29_157, ↓reduceIte, psh_some, psh_none, cln_i, cln_r, cln_n, cln_l, cln_d, cln_f, Option.bind_some, Option.bind_none, if_true, if_false, nI_add, pk_mul, nbo_0, nbo_1, nI_leI, nI_ltI, nI_eq, Nat.reduceAdd, Nat.reduceMul, Nat.add_zero, Nat.mul_zero, up_at, up_up, up_vI, vI_at, e2, gs_3 hb hR, gs_14 hb, gs_13 hb, gs_15 hb, gs_0 hb hR, ps_13 hb, ps_14 hb, ps_15 hb, as_1 hb, h7, h8, h7', h8', f32 hb hR (up_at I b (vI (wkA a))) k1.1 hf ht e]
      unfold hipF
      rw [← hi]
      rfl
  have hC : EE 29 94 [some (.ref (16 * b)), some (.int (nI n)), some (.int (nI (frm a))), some (.int (nI (too a))), none] [] (202, up I b (vI (hands (frm a) (too a) n (wkA a))), R) = EE 29 107 [some (.ref (16 * b)), some (.int (nI n)), some (.int (nI (frm a))), some (.int (nI (too a))), some (.int (nI 0))] [] (202, up I b (vI (shN (hands (frm a) (too a) n (wkA a)))), R) := by
    simp (disch := first | omega | (show List.length _ ≤ 4; exact Nat.le_of_ble_eq_true rfl) | assumption | exact nbo_0 | exact nbo_1 | exact b2_b) only [s29_0, s29_1, s29_4, s29_5, s29_6, s29_9, s29_10, s29_11, s29_14, s29_17, s29_18, s29_21, s29_24, s29_25, s29_26, s29_27, s29_28, s29_31, s29_32, s29_33, s29_36, s29_37, s29_38, s29_41, s29_42i, s29_42r, s29_43, s29_46, s29_47, s29_48, s29_51, s29_52, s29_53, s29_54, s29_57, s29_58, s29_59, s29_60, s29_63, s29_64, s29_67, s29_68i, s29_68r, s29_69, s29_72, s29_73, s29_74, s29_77, s29_78i, s29_78r, s29_79, s29_82, s29_83, s29_84, s29_87, s29_88, s29_89, s29_90, s29_91, s29_94, s29_95i, s29_95r, s29_96, s29_99, s29_100, s29_101, s29_104, s29_105, s29_109, s29_111, s29_114, s29_116, s29_117, s29_120, s29_121, s29_122, s29_125, s29_127, s29_128, s29_131, s29_134, s29_137, s29_138, s29_139, s29_142, s29_143, s29_144, s29_147, s29_148, s29_149, s29_152, s29_153, s29_154, s29_157, ↓reduceIte, psh_some, psh_none, cln_i, cln_r, cln_n, cln_l, cln_d, cln_f, Option.bind_some, Option.bind_none, if_true, if_false, nI_add, pk_mul, nbo_0, nbo_1, nI_leI, nI_ltI, nI_eq, Nat.reduceAdd, Nat.reduceMul, Nat.add_zero, Nat.mul_zero, up_at, up_up, up_vI, vI_at, gs_11 hb, ps_11 hb]
    rfl
  have hD := fd_loop (E := fun i s => EE 29 107 [some (.ref (16 * b)), some (.int (nI n)), some (.int (nI (frm a))), some (.int (nI (too a))), some (.int (nI i))] [] (202, up I b (vI s), R)) (f := fun w s => if w = too a then s else fd (dcF w) 10 0 s) (Inv := fun i s => WO s) 6 (by
    intro i s hi hs
    have hn : ¬ 6 ≤ i := by omega
    have h7 := lv_c hb hi
    have h8 := lv_v hb hi hR
    show EE 29 107 _ _ _ = EE 29 107 _ _ _ ∧ _
    rw [s29_107]
    by_cases e : i = too a
    · rw [if_pos e]
      refine ⟨?_, hs⟩
      have hn' : ¬ 6 ≤ too a := by omega
      simp (disch := first | omega | (show List.length _ ≤ 4; exact Nat.le_of_ble_eq_true rfl) | assumption | exact nbo_0 | exact nbo_1 | exact b2_b) only [s29_0, s29_1, s29_4, s29_5, s29_6, s29_9, s29_10, s29_11, s29_14, s29_17, s29_18, s29_21, s29_24, s29_25, s29_26, s29_27, s29_28, s29_31, s29_32, s29_33, s29_36, s29_37, s29_38, s29_41, s29_42i, s29_42r, s29_43, s29_46, s29_47, s29_48, s29_51, s29_52, s29_53, s29_54, s29_57, s29_58, s29_59, s29_60, s29_63, s29_64, s29_67, s29_68i, s29_68r, s29_69, s29_72, s29_73, s29_74, s29_77, s29_78i, s29_78r, s29_79, s29_82, s29_83, s29_84, s29_87, s29_88, s29_89, s29_90, s29_91, s29_94, s29_95i, s29_95r, s29_96, s29_99, s29_100, s29_101, s29_104, s29_105, s29_109, s29_111, s29_114, s29_116, s29_117, s29_120, s29_121, s29_122, s29_125, s29_127, s29_128, s29_131, s29_134, s29_137, s29_138, s29_139, s29_142, s29_143, s29_144, s29_147, s29_148, s29_149, s29_152, s29_153, s29_154, s29_157, ↓reduceIte, psh_some, psh_none, cln_i, cln_r, cln_n, cln_l, cln_d, cln_f, Option.bind_some, Option.bind_none, if_true, if_false, nI_add, pk_mul, nbo_0, nbo_1, nI_leI, nI_ltI, nI_eq, Nat.reduceAdd, Nat.reduceMul, Nat.add_zero, Nat.mul_zero, up_at, up_up, up_vI, vI_at, hn, hn', e]
    · rw [if_neg e]
      refine ⟨?_, (dcW_ok hi hs).1⟩
      simp (disch := first | omega | (show List.length _ ≤ 4; exact Nat.le_of_ble_eq_true rfl) | assumption | exact nbo_0 | exact nbo_1 | exact b2_b) only [s29_0, s29_1, s29_4, s29_5, s29_6, s29_9, s29_10, s29_11, s29_14, s29_17, s29_18, s29_21, s29_24, s29_25, s29_26, s29_27, s29_28, s29_31, s29_32, s29_33, s29_36, s29_37, s29_38, s29_41, s29_42i, s29_42r, s29_43, s29_46, s29_47, s29_48, s29_51, s29_52, s29_53, s29_54, s29_57, s29_58, s29_59, s29_60, s29_63, s29_64, s29_67, s29_68i, s29_68r, s29_69, s29_72, s29_73, s29_74, s29_77, s29_78i, s29_78r, s29_79, s29_82, s29_83, s29_84, s29_87, s29_88, s29_89, s29_90, s29_91, s29_94, s29_95i, s29_95r, s29_96, s29_99, s29_100, s29_101, s29_104, s29_105, s29_109, s29_111, s29_114, s29_116, s29_117, s29_120, s29_121, s29_122, s29_125, s29_127, s29_128, s29_131, s29_134, s29_137, s29_138, s29_139, s29_142, s29_143, s29_144, s29_147, s29_148, s29_149, s29_152, s29_153, s29_154, s29_157, ↓reduceIte, psh_some, psh_none, cln_i, cln_r, cln_n, cln_l, cln_d, cln_f, Option.bind_some, Option.bind_none, if_true, if_false, nI_add, pk_mul, nbo_0, nbo_1, nI_leI, nI_ltI, nI_eq, Nat.reduceAdd, Nat.reduceMul, Nat.add_zero, Nat.mul_zero, up_at, up_up, up_vI, vI_at, hn, e, gs_3 hb hR, h7, h8, f34 hb hR (up_at I b (vI s)) hs hi]) 6 0 _ (by omega) k3
  obtain ⟨d1, d2⟩ := hD
  rw [hA, hB, hC]
  refine d1.trans ?_
  show EE 29 107 [some (.ref (16 * b)), some (.int (nI n)), some (.int (nI (frm a))), some (.int (nI (too a))), some (.int (nI 6))] [] (202, up I b (vI (dcA (too a) (shN (hands (frm a) (too a) n (wkA a))))), R) = _
  have h7 := lv_c hb ht
  have h8 := lv_v hb ht hR
  have h9 : (6 : Nat) ≤ 6 := Nat.le_refl 6
  have h10 := f35 (I := up I b (vI (dcA (too a) (shN (hands (frm a) (too a) n (wkA a)))))) hb hR (up_at I b _) k4.1 ht
  rw [e1, up_up] at h10
  have h11 := f36 (I := up I b (vI (fd (bgF (too a)) (a 1) 0 (dcA (too a) (shN (hands (frm a) (too a) n (wkA a))))))) hb hR (up_at I b _) k5.1 ht
  rw [up_up] at h11
  rw [s29_107]
  simp (disch := first | omega | (show List.length _ ≤ 4; exact Nat.le_of_ble_eq_true rfl) | assumption | exact nbo_0 | exact nbo_1 | exact b2_b) only [s29_0, s29_1, s29_4, s29_5, s29_6, s29_9, s29_10, s29_11, s29_14, s29_17, s29_18, s29_21, s29_24, s29_25, s29_26, s29_27, s29_28, s29_31, s29_32, s29_33, s29_36, s29_37, s29_38, s29_41, s29_42i, s29_42r, s29_43, s29_46, s29_47, s29_48, s29_51, s29_52, s29_53, s29_54, s29_57, s29_58, s29_59, s29_60, s29_63, s29_64, s29_67, s29_68i, s29_68r, s29_69, s29_72, s29_73, s29_74, s29_77, s29_78i, s29_78r, s29_79, s29_82, s29_83, s29_84, s29_87, s29_88, s29_89, s29_90, s29_91, s29_94, s29_95i, s29_95r, s29_96, s29_99, s29_100, s29_101, s29_104, s29_105, s29_109, s29_111, s29_114, s29_116, s29_117, s29_120, s29_121, s29_122, s29_125, s29_127, s29_128, s29_131, s29_134, s29_137, s29_138, s29_139, s29_142, s29_143, s29_144, s29_147, s29_148, s29_149, s29_152, s29_153, s29_154, s29_157, ↓reduceIte, psh_some, psh_none, cln_i, cln_r, cln_n, cln_l, cln_d, cln_f, Option.bind_some, Option.bind_none, if_true, if_false, nI_add, pk_mul, nbo_0, nbo_1, nI_leI, nI_ltI, nI_eq, Nat.reduceAdd, Nat.reduceMul, Nat.add_zero, Nat.mul_zero, gs_3 hb hR, h7, h8, h9, h10, h11]
  rfl
end S6
