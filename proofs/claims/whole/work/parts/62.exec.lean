/-! ===== all orders of a text ===== -/
def ex (n : Nat) (q : Nat → Nat) : List Nat → Nat → (Nat → Nat) → Nat × (Nat → Nat)
  | [], k, a => (k, a)
  | s :: ss, k, a => match actL (q s) (og n q s).2.2 a with
    | none => (k, a)
    | some a' => ex n q ss (k + 1) a'
theorem ex_none {n k s : Nat} {q : Nat → Nat} {ss : List Nat} {a : Nat → Nat} (h : actL (q s) (og n q s).2.2 a = none) : ex n q (s :: ss) k a = (k, a) := by
  unfold ex; rw [h]
theorem ex_some {n k s : Nat} {q : Nat → Nat} {ss : List Nat} {a a' : Nat → Nat} (h : actL (q s) (og n q s).2.2 a = some a') : ex n q (s :: ss) k a = ex n q ss (k + 1) a' := by
  rw [ex, h]
theorem ex_ok {n : Nat} {q : Nat → Nat} : ∀ (ss : List Nat) k N (a : Nat → Nat), WN N a → WN (N + ss.length) (ex n q ss k a).2 ∧ (ex n q ss k a).1 ≤ k + ss.length
  | [], k, N, a, h => ⟨h, Nat.le_refl _⟩
  | s :: ss, k, N, a, h => by
    cases e : actL (q s) (og n q s).2.2 a with
    | none => rw [ex_none e]; exact ⟨h.mono (Nat.le_add_right _ _), Nat.le_add_right _ _⟩
    | some a' =>
      rw [ex_some e]
      have g := ex_ok (n := n) (q := q) ss (k + 1) (N + 1) a' (act_ok h og_lt e)
      rw [List.length_cons]
      exact ⟨by rw [show N + (ss.length + 1) = N + 1 + ss.length by omega]; exact g.1, by omega⟩
/-- behind an order that ended at e: what is left, and whether it is well -/
def rem (n : Nat) (q : Nat → Nat) (d e : Nat) : List Nat := if e < n ∧ q e = 59 then sls n q d (e + 1) else []
def txr (n : Nat) (q : Nat → Nat) (d e : Nat) : Bool × Nat := if e < n ∧ q e = 59 then tx n q d (e + 1) else (decide (e = n), e)
theorem tx_s {n d s : Nat} {q : Nat → Nat} (h : (tx n q (d + 1) s).1 = true) : (og n q s).1 = true ∧ txr n q d (og n q s).2.1 = tx n q (d + 1) s := by
  by_cases e : (og n q s).1 = true
  · refine ⟨e, ?_⟩
    show _ = (if (og n q s).1 = true then (if (og n q s).2.1 < n ∧ q (og n q s).2.1 = 59 then tx n q d ((og n q s).2.1 + 1) else (decide ((og n q s).2.1 = n), (og n q s).2.1)) else (false, (og n q s).2.1))
    rw [if_pos e]
    rfl
  · unfold tx at h
    rw [if_neg e] at h
    cases h
theorem sls_s {n d s : Nat} {q : Nat → Nat} : sls n q (d + 1) s = s :: rem n q d (og n q s).2.1 := rfl
theorem og_isL {n s : Nat} {q : Nat → Nat} (h : (og n q s).1 = true) : s < n ∧ isL (q s) = true := by
  unfold og at h
  by_cases e : s < n ∧ isL (q s) = true
  · exact e
  · rw [if_neg e] at h; cases h
theorem sls_ok {n : Nat} {q : Nat → Nat} : ∀ d s, (tx n q d s).1 = true → s ≤ n → (∀ x, x ∈ sls n q d s → (og n q x).1 = true) ∧ 2 * (sls n q d s).length ≤ n - s + 2
  | 0, s, h, _ => by cases h
  | d + 1, s, h, hs => by
    obtain ⟨h1, h2⟩ := tx_s h
    have hle := og_le (q := q) hs
    have hlt := hle.2.2 h1
    rw [sls_s]
    rw [← h2] at h
    unfold rem
    unfold txr at h
    by_cases e : (og n q s).2.1 < n ∧ q (og n q s).2.1 = 59
    · rw [if_pos e] at h ⊢
      have g := sls_ok d _ h e.1
      refine ⟨fun x hx => ?_, by rw [List.length_cons]; omega⟩
      rcases List.mem_cons.mp hx with rfl | hx
      · exact h1
      · exact g.1 x hx
    · rw [if_neg e]
      refine ⟨fun x hx => ?_, by show 2 * 1 ≤ _; omega⟩
      rcases List.mem_cons.mp hx with rfl | hx
      · exact h1
      · cases hx
def mC (J : Nat → Nat → Int32) (nw : Nat) (a : Nat → Nat) (V : Nat → Int32) : Nat → Nat → Int32 := up (up J nw (vI a)) 20 V
section EX
variable {J : Nat → Nat → Int32} {R : Nat → Nat → Option Nat} {nw bf n : Nat} {h q : Nat → Nat} {a a' : Nat → Nat} {V X : Nat → Int32}
theorem mC_a (hn : nw < 8) : mC J nw a V nw = vI a := by unfold mC; rw [up_ne (by omega), up_at]
theorem mC_b : mC J nw a V 20 = V := up_at _ _ _
theorem mC_c (hn : nw < 8) : up (mC J nw a V) nw (vI a') = mC J nw a' V := by
  unfold mC
  rw [up_comm (v := 20) (w := nw) (by omega), up_up]
theorem mC_d : up (mC J nw a V) 20 X = mC J nw a X := by
  unfold mC
  rw [up_up]
/-- behind a reading: the order is carried out -/
theorem p75b {s k d N : Nat} {V V1 : Nat → Int32} (hB : BR R) (hn : nw < 8) (hP : PS V n q) (hs : s ≤ n) (hX : NXT n q s V V1) (hok : (og n q s).1 = true) (hW : WN N a) (hN : N < 2 ^ 29) (hk : k < 80)
    (ih : ∀ (a' : Nat → Nat), WN (N + 1) a' → ∃ V', EE 75 35 [some (.ref 208), some (.int (nI (k + 1)))] [] (210, mC J nw a' V1, QR R nw bf h) = EE 75 81 [some (.ref 208), some (.int (nI (ex n q (rem n q d (og n q s).2.1) (k + 1) a').1))] [] (210, mC J nw (ex n q (rem n q d (og n q s).2.1) (k + 1) a').2 V', QR R nw bf h) ∧ ∀ k, ¬ (4 ≤ k ∧ k < 9) → V' k = V1 k) :
    ∃ V', EE 75 48 [some (.ref 208), some (.int (nI k))] [.int (nI 1)] (210, mC J nw a V1, QR R nw bf h) = EE 75 81 [some (.ref 208), some (.int (nI (ex n q (s :: rem n q d (og n q s).2.1) k a).1))] [] (210, mC J nw (ex n q (s :: rem n q d (og n q s).2.1) k a).2 V', QR R nw bf h) ∧ ∀ k, ¬ (4 ≤ k ∧ k < 9) → V' k = V k := by
  have ho := od
  have ho2 := os (b := nw) (by omega)
  have hRS : RS (QR R nw bf h) := QR_RS hB.2.2.2.1
  obtain ⟨x1, x2, x3⟩ := hX
  obtain ⟨y1, y2⟩ := x3 hok
  obtain ⟨l1, l2⟩ := og_isL hok
  have hq := hP.2.2.2 s l1
  have h0 : a 0 < 2 ^ 30 := Nat.lt_of_le_of_lt hW.2.1 (by omega)
  have hA : AV (mC J nw a V1 20) 6 (q s) (og n q s).2.2 := by rw [mC_b]; exact y2
  have g := f42 (I := mC J nw a V1) (R := QR R nw bf h) (b := nw) (c := q s) (vs := (og n q s).2.2) (by omega) hRS (mC_a hn) hW.1 h0 l2 (by omega) hA og_lt
  have hb20 : mC J nw a V1 20 = V1 := mC_b
  have y4 : V1 4 = nI (q s) := y1
  cases e : actL (q s) (og n q s).2.2 a with
  | none =>
    obtain ⟨r, hr, gr⟩ := g.2 e
    rw [ex_none e]
    refine ⟨V1, ?_, x2⟩
    simp (disch := first | omega | (show List.length _ ≤ 4; exact Nat.le_of_ble_eq_true rfl) | assumption | exact nbo_0 | exact nbo_1 | exact b2_b) only [s75_48, s75_51, s75_52, s75_55, s75_56, s75_59, s75_62, s75_63, s75_66, s75_69, s75_72, ↓reduceIte, psh_some, psh_none, cln_i, cln_r, cln_n, cln_l, cln_d, cln_f, Option.bind_some, Option.bind_none, if_true, if_false, nI_add, pk_mul, nbo_0, nbo_1, nI_leI, nI_ltI, nI_eq, Nat.reduceAdd, Nat.reduceMul, Nat.add_zero, Nat.mul_zero, gd_0, gd_6 hB, gp_1 hB, gp_3, hb20, y4, gr, hr, z1]
  | some a2 =>
    obtain ⟨r, hr, gr⟩ := g.1 a2 e
    rw [mC_c hn] at gr
    obtain ⟨V', k1, k2⟩ := ih a2 (act_ok hW og_lt e)
    rw [ex_some e]
    refine ⟨V', ?_, fun j hj => by rw [k2 j hj, x2 j hj]⟩
    rw [← k1]
    simp (disch := first | omega | (show List.length _ ≤ 4; exact Nat.le_of_ble_eq_true rfl) | assumption | exact nbo_0 | exact nbo_1 | exact b2_b) only [s75_48, s75_51, s75_52, s75_55, s75_56, s75_59, s75_62, s75_63, s75_66, s75_69, s75_72, s75_75, s75_78, ↓reduceIte, psh_some, psh_none, cln_i, cln_r, cln_n, cln_l, cln_d, cln_f, Option.bind_some, Option.bind_none, if_true, if_false, nI_add, pk_mul, nbo_0, nbo_1, nI_leI, nI_ltI, nI_eq, Nat.reduceAdd, Nat.reduceMul, Nat.add_zero, Nat.mul_zero, gd_0, gd_6 hB, gp_1 hB, gp_3, hb20, y4, gr, hr, z1]
theorem p75n (hB : BR R) (hn : nw < 8) : ∀ d e k N (a : Nat → Nat) (V : Nat → Int32), 0 < e → e ≤ n → n < e + d → 2 * k ≤ e + 1 → WN N a → N + d < 2 ^ 29 → PS V n q → V 5 = nI e → (txr n q d e).1 = true → ∃ V', EE 75 35 [some (.ref 208), some (.int (nI k))] [] (210, mC J nw a V, QR R nw bf h) = EE 75 81 [some (.ref 208), some (.int (nI (ex n q (rem n q d e) k a).1))] [] (210, mC J nw (ex n q (rem n q d e) k a).2 V', QR R nw bf h) ∧ ∀ k, ¬ (4 ≤ k ∧ k < 9) → V' k = V k := by
  have ho := od
  have ho2 := opd
  intro d
  induction d with
  | zero => intro e k N a V h1 h2 h3; omega
  | succ d ih =>
    intro e k N a V h1 h2 h3 hk hW hN hP hV hok
    have hn80 := hP.2.2.1
    have hk80 : ¬ 80 ≤ k := by omega
    by_cases e3 : e < n ∧ q e = 59
    · have er : rem n q (d + 1) e = sls n q (d + 1) (e + 1) := if_pos e3
      have et : txr n q (d + 1) e = tx n q (d + 1) (e + 1) := if_pos e3
      rw [et] at hok
      obtain ⟨o1, o2⟩ := tx_s hok
      have hle := og_le (q := q) (s := e + 1) e3.1
      have hlt := hle.2.2 o1
      obtain ⟨V1, k1, k2⟩ := f5_s (I := up J nw (vI a)) (R := R) (nw := nw) (bf := bf) (h := h) hB hP h1 hV e3.1 e3.2
      have eb : bN (og n q (e + 1)).1 = 1 := by rw [o1]; rfl
      rw [eb] at k1
      have k1 : FF 5 [.ref 212] (210, mC J nw a V, QR R nw bf h) = some (some (.int (nI 1)), 210, mC J nw a V1, QR R nw bf h) := k1
      obtain ⟨V', m1, m2⟩ := p75b (J := J) (nw := nw) (bf := bf) (h := h) (k := k) (d := d) hB hn hP e3.1 k2 o1 hW (by omega) (by omega) (fun a' hW' => ih (og n q (e + 1)).2.1 (k + 1) (N + 1) a' V1 (by omega) hle.2.1 (by omega) (by omega) hW' (by omega) (hP.same k2.2.1) k2.1 (by rw [o2]; exact hok))
      rw [er, sls_s]
      refine ⟨V', ?_, m2⟩
      rw [← m1, s75_35]
      simp (disch := first | omega | (show List.length _ ≤ 4; exact Nat.le_of_ble_eq_true rfl) | assumption | exact nbo_0 | exact nbo_1 | exact b2_b) only [s75_36, s75_38, s75_41, s75_42, s75_45, ↓reduceIte, psh_some, psh_none, cln_i, cln_r, cln_n, cln_l, cln_d, cln_f, Option.bind_some, Option.bind_none, if_true, if_false, nI_add, pk_mul, nbo_0, nbo_1, nI_leI, nI_ltI, nI_eq, Nat.reduceAdd, Nat.reduceMul, Nat.add_zero, Nat.mul_zero, gd_6 hB, hk80, k1]
    · have er : rem n q (d + 1) e = [] := if_neg e3
      have g := f5_n (I := up J nw (vI a)) (R := R) (nw := nw) (bf := bf) (h := h) hB hP h2 h1 hV e3
      have g : FF 5 [.ref 212] (210, mC J nw a V, QR R nw bf h) = some (some (.int (nI 0)), 210, mC J nw a V, QR R nw bf h) := g
      rw [er]
      refine ⟨V, ?_, fun j _ => rfl⟩
      rw [s75_35]
      simp (disch := first | omega | (show List.length _ ≤ 4; exact Nat.le_of_ble_eq_true rfl) | assumption | exact nbo_0 | exact nbo_1 | exact b2_b) only [s75_36, s75_38, s75_41, s75_42, s75_45, s75_48, ↓reduceIte, psh_some, psh_none, cln_i, cln_r, cln_n, cln_l, cln_d, cln_f, Option.bind_some, Option.bind_none, if_true, if_false, nI_add, pk_mul, nbo_0, nbo_1, nI_leI, nI_ltI, nI_eq, Nat.reduceAdd, Nat.reduceMul, Nat.add_zero, Nat.mul_zero, gd_6 hB, hk80, g, z0]
      rfl
theorem p75 {N : Nat} (hB : BR R) (hn : nw < 8) (hP : PS V n q) (hW : WN N a) (hN : N < 2 ^ 28) (hV : V 5 = nI 0) (hok : (tx n q (n + 1) 0).1 = true) : ∃ V', EE 75 35 [some (.ref 208), some (.int (nI 0))] [] (210, mC J nw a V, QR R nw bf h) = EE 75 81 [some (.ref 208), some (.int (nI (ex n q (sls n q (n + 1) 0) 0 a).1))] [] (210, mC J nw (ex n q (sls n q (n + 1) 0) 0 a).2 V', QR R nw bf h) ∧ ∀ k, ¬ (4 ≤ k ∧ k < 9) → V' k = V k := by
  have ho := od
  have ho2 := opd
  have hn80 := hP.2.2.1
  have hk80 : ¬ 80 ≤ 0 := by decide
  obtain ⟨o1, o2⟩ := tx_s hok
  have hle := og_le (q := q) (Nat.zero_le n)
  have hlt := hle.2.2 o1
  obtain ⟨V1, k1, k2⟩ := f5_0 (I := up J nw (vI a)) (R := R) (nw := nw) (bf := bf) (h := h) hB hP hV
  have eb : bN (og n q 0).1 = 1 := by rw [o1]; rfl
  rw [eb] at k1
  have k1 : FF 5 [.ref 212] (210, mC J nw a V, QR R nw bf h) = some (some (.int (nI 1)), 210, mC J nw a V1, QR R nw bf h) := k1
  obtain ⟨V', m1, m2⟩ := p75b (J := J) (nw := nw) (bf := bf) (h := h) (k := 0) (d := n) hB hn hP (Nat.zero_le n) k2 o1 hW (by omega) (by decide) (fun a' hW' => p75n hB hn n (og n q 0).2.1 1 (N + 1) a' V1 hlt hle.2.1 (by omega) (by omega) hW' (by omega) (hP.same k2.2.1) k2.1 (by rw [o2]; exact hok))
  rw [sls_s]
  refine ⟨V', ?_, m2⟩
  rw [← m1, s75_35]
  simp (disch := first | omega | (show List.length _ ≤ 4; exact Nat.le_of_ble_eq_true rfl) | assumption | exact nbo_0 | exact nbo_1 | exact b2_b) only [s75_36, s75_38, s75_41, s75_42, s75_45, ↓reduceIte, psh_some, psh_none, cln_i, cln_r, cln_n, cln_l, cln_d, cln_f, Option.bind_some, Option.bind_none, if_true, if_false, nI_add, pk_mul, nbo_0, nbo_1, nI_leI, nI_ltI, nI_eq, Nat.reduceAdd, Nat.reduceMul, Nat.add_zero, Nat.mul_zero, gd_6 hB, hk80, k1]
/-- the model -/
theorem p148 {m : Nat} {W : Nat → Int32} (hRM : RM R) (hq : ∀ k, k < n → q k < 128) (hJ5 : J 32 5 = nI m) (hJ33 : J 33 = W) (hm : m ≤ 41) : ∀ (ss : List Nat) k N (a : Nat → Nat), k + ss.length = m → ORW n q W k ss → (∀ x, x ∈ ss → (og n q x).1 = true) → WN N a → N + ss.length < 2 ^ 29 → EE 148 21 [some (.ref 224), some (.int (nI k))] [] (210, up J 225 (vI a), R) = some (some (.int (nI (ex n q ss k a).1)), 210, up J 225 (vI (ex n q ss k a).2), R) := by
  have ho := om
  have n32 : ∀ a : Nat → Nat, up J 225 (vI a) 32 = J 32 := fun a => up_ne (by decide)
  have n33 : ∀ a : Nat → Nat, up J 225 (vI a) 33 = W := fun a => by rw [up_ne (by decide)]; exact hJ33
  intro ss
  induction ss with
  | nil =>
    intro k N a hk hO hx hW hN
    have e : m ≤ k := by simp at hk; omega
    rw [s148_21]
    simp (disch := first | omega | (show List.length _ ≤ 4; exact Nat.le_of_ble_eq_true rfl) | assumption | exact nbo_0 | exact nbo_1 | exact b2_b) only [s148_22, s148_23, s148_26, s148_43, s148_44, ↓reduceIte, psh_some, psh_none, cln_i, cln_r, cln_n, cln_l, cln_d, cln_f, Option.bind_some, Option.bind_none, if_true, if_false, nI_add, pk_mul, nbo_0, nbo_1, nI_leI, nI_ltI, nI_eq, Nat.reduceAdd, Nat.reduceMul, Nat.add_zero, Nat.mul_zero, gm_10, n32, hJ5, e]
    rfl
  | cons s ss ih =>
    intro k N a hk hO hx hW hN
    rw [List.length_cons] at hk hN
    have e : ¬ m ≤ k := by omega
    have hog := hx s (List.mem_cons_self ..)
    obtain ⟨l1, l2⟩ := og_isL hog
    have h0 : a 0 < 2 ^ 30 := Nat.lt_of_le_of_lt hW.2.1 (by omega)
    have hO0 := hO 0 (by simp)
    rw [Nat.add_zero, List.getD_cons_zero] at hO0
    have g := f149 (I := up J 225 (vI a)) (R := R) (k := k) (c := q s) (vs := (og n q s).2.2) hRM (up_at _ _ _) hW.1 h0 l2 (hq s l1) (by omega) (by rw [n33]; exact hO0.1) (by rw [n33]; exact hO0.2) og_lt
    cases ea : actL (q s) (og n q s).2.2 a with
    | none =>
      have g2 := g.2 ea
      rw [ex_none ea, s148_21]
      simp (disch := first | omega | (show List.length _ ≤ 4; exact Nat.le_of_ble_eq_true rfl) | assumption | exact nbo_0 | exact nbo_1 | exact b2_b) only [s148_22, s148_23, s148_26, s148_29, s148_30, s148_31, s148_34, s148_43, s148_44, ↓reduceIte, psh_some, psh_none, cln_i, cln_r, cln_n, cln_l, cln_d, cln_f, Option.bind_some, Option.bind_none, if_true, if_false, nI_add, pk_mul, nbo_0, nbo_1, nI_leI, nI_ltI, nI_eq, Nat.reduceAdd, Nat.reduceMul, Nat.add_zero, Nat.mul_zero, gm_10, n32, hJ5, e, g2, z0]
    | some a2 =>
      have g2 := g.1 a2 ea
      rw [up_up] at g2
      rw [ex_some ea, ← ih (k + 1) (N + 1) a2 (by omega) (fun i hi => by
        have := hO (i + 1) (by simpa using hi)
        rw [List.getD_cons_succ, show k + (i + 1) = k + 1 + i by omega] at this
        exact this) (fun x hx' => hx x (List.mem_cons_of_mem _ hx')) (act_ok hW og_lt ea) (by omega), s148_21]
      simp (disch := first | omega | (show List.length _ ≤ 4; exact Nat.le_of_ble_eq_true rfl) | assumption | exact nbo_0 | exact nbo_1 | exact b2_b) only [s148_22, s148_23, s148_26, s148_29, s148_30, s148_31, s148_34, s148_37, s148_40, ↓reduceIte, psh_some, psh_none, cln_i, cln_r, cln_n, cln_l, cln_d, cln_f, Option.bind_some, Option.bind_none, if_true, if_false, nI_add, pk_mul, nbo_0, nbo_1, nI_leI, nI_ltI, nI_eq, Nat.reduceAdd, Nat.reduceMul, Nat.add_zero, Nat.mul_zero, gm_10, n32, hJ5, e, g2, z1]
end EX
