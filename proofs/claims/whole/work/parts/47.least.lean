/-! ===== what-ifs: on the trials ===== -/
/-- a memory that differs in the class's trials alone -/
def TR (I J : Nat → Nat → Int32) : Prop := (∀ v, ¬ (10 ≤ v ∧ v < 13) → J v = I v) ∧ ∀ v, 10 ≤ v → v < 13 → ∃ e, J v = vI e ∧ Zz e
def TM (I J : Nat → Nat → Int32) : Prop := (∀ v, v ≠ 226 → J v = I v) ∧ ∃ e, J 226 = vI e ∧ Zz e
/-- the fewest minutes without a miss -/
def lsM (a : Nat → Nat) : Nat → Nat → Option Nat
  | 0, _ => none
  | d + 1, i => if (endP i a).2 = 0 then some i else lsM a d (i + 1)
/-- ends one after the other -/
def itE : Nat → (Nat → Nat) → (Nat → Nat)
  | 0, a => a
  | d + 1, a => itE d (tot (endP (a (26 + a 0 % 12)) a))
section WI1
variable {I : Nat → Nat → Int32} {R : Nat → Nat → Option Nat} {nw bf u n N : Nat} {h hd q : Nat → Nat} {p sl : Nat → Nat → Nat} {a : Nat → Nat}
theorem view2 {K1 K2 : Nat} {as1 as2 : List Value} {r : Value} (hG : GL N a u p sl hd n q) (hC : CL I nw bf h a u p sl hd n q) (hM : ML I a u p sl hd n q) (h1 : ∃ J, FF K1 as1 (210, I, QR R nw bf h) = some (some r, 210, J, QR R nw bf h) ∧ TR I J) (h2 : ∀ J, J 225 = vI a → (∃ e, J 226 = vI e ∧ Zz e) → ∃ J', FF K2 as2 (210, J, QR R nw bf h) = some (some r, 210, J', QR R nw bf h) ∧ TM J J') : PR R I (QR R nw bf h) N K1 as1 K2 as2 := by
  obtain ⟨J, e1, t1, t2⟩ := h1
  have hM2 := hM.congr (I' := J) (fun v h1 _ _ => t1 v (by omega))
  obtain ⟨J', e2, s1, s2⟩ := h2 J hM2.1.1 hM2.2.2.2.2.2
  obtain ⟨c1, c2, ⟨d1, d2, d3, d4, d5⟩, ⟨x1, x2⟩, c5, c6, c7, c8⟩ := hC
  obtain ⟨q1, q2, q3, q4, q5⟩ := c1
  obtain ⟨⟨b1, b2, b3, b4, b5⟩, ⟨y1, y2⟩, m5, m6, m7, m8⟩ := hM2
  have e : ∀ v, v < 10 ∨ 13 ≤ v ∧ v < 21 → J' v = I v := fun v hv => by rw [s1 v (by omega), t1 v (by omega)]
  refine ⟨r, J, QR R nw bf h, J', e1, e2, ⟨nw, bf, h, a, u, p, sl, hd, n, q, rfl, hG, ⟨⟨q1, q2, q3, q4, q5⟩, by rw [e nw (by omega)]; exact c2, ⟨by rw [e 20 (by omega)]; exact d1, d2, fun i hi => ?_, by rw [e bf (by omega)]; exact d4, fun i hi => ?_⟩, ⟨fun i hi => by rw [e _ (by omega)]; exact x1 i hi, fun i hi => by rw [e _ (by omega)]; exact x2 i hi⟩, fun i hi => by rw [e 20 (by omega)]; exact c5 i hi, by rw [e 20 (by omega)]; exact c6, fun k hk => by rw [e 20 (by omega)]; exact c7 k hk, fun v h1 h2 => by rw [s1 v (by omega)]; exact t2 v h1 h2⟩, ⟨⟨by rw [s1 225 (by omega)]; exact b1, by rw [s1 32 (by omega)]; exact b2, b3, fun i hi => by rw [s1 _ (by omega)]; exact b4 i hi, fun i hi => by rw [s1 _ (by omega)]; exact b5 i hi⟩, ⟨fun i hi => by rw [s1 _ (by omega)]; exact y1 i hi, fun i hi => by rw [s1 _ (by omega)]; exact y2 i hi⟩, fun i hi => by rw [s1 32 (by omega)]; exact m5 i hi, by rw [s1 32 (by omega)]; exact m6, fun k hk => by rw [s1 32 (by omega)]; exact m7 k hk, s2⟩⟩, by rw [s1 60 (by omega), t1 60 (by omega)], by rw [s1 61 (by omega), t1 61 (by omega)], t1 60 (by omega), t1 61 (by omega)⟩
  · have := (q4 i (by omega)).1
    rw [e _ (by omega)]; exact d3 i hi
  · have := (q4 i hi).1
    rw [e _ (by omega)]; exact d5 i hi
/-- what stands in a trial -/
theorem TR.up1 {e : Nat → Nat} (hC : CL I nw bf h a u p sl hd n q) (he : Zz e) : TR I (up I 10 (vI e)) := by
  have c8 := hC.2.2.2.2.2.2.2
  refine ⟨fun v hv => up_ne (by omega), fun v h1 h2 => ?_⟩
  by_cases e0 : v = 10
  · subst e0; exact ⟨e, up_at _ _ _, he⟩
  · rw [up_ne e0]; exact c8 v h1 h2
/-- the copy into the trial -/
theorem cp10 {e : Nat → Nat} (hB : BR R) (hG : GL N a u p sl hd n q) (hC : CL I nw bf h a u p sl hd n q) (he : Zz e) : FF 12 [.ref 160, .ref (16 * nw)] (210, up I 10 (vI e), QR R nw bf h) = some (none, 210, up I 10 (vI a), QR R nw bf h) := by
  have q1 := hC.1.1
  have h1 := f12 (I := up I 10 (vI e)) (R := QR R nw bf h) (b := nw) (d := 10) (a := a) (e := e) (by omega) (by decide) (by omega) (QR_RS hB.2.2.2.1) (by rw [up_ne (by omega)]; exact hC.2.1) hG.1.1 (up_at _ _ _) he
  rw [up_up] at h1
  exact h1
theorem p68 (hB : BR R) (hG : GL N a u p sl hd n q) (hC : CL I nw bf h a u p sl hd n q) (hN : N < 2 ^ 29) : ∀ d i (e : Nat → Nat), i + d = 61 → Zz e → ∃ e', Zz e' ∧ EE 68 2 [some (.ref 208), some (.int (nI i))] [] (210, up I 10 (vI e), QR R nw bf h) = some (some (.int (oN (-6) (lsM a d i))), 210, up I 10 (vI e'), QR R nw bf h) := by
  have ho := od
  have ho1 : isO "HandoverDesk$State" 210 160 = true := os (b := 10) (by decide)
  have hRS : RS (QR R nw bf h) := QR_RS hB.2.2.2.1
  have hW := hG.1.1
  have h0 : a 0 < 2 ^ 30 := Nat.lt_of_le_of_lt hG.1.2.1 (by omega)
  have hz := hW.zz
  intro d
  induction d with
  | zero =>
    intro i e hi he
    have e1 : i = 61 := by omega
    subst e1
    refine ⟨e, he, ?_⟩
    rw [s68_2]
    simp (disch := first | omega | (show List.length _ ≤ 4; exact Nat.le_of_ble_eq_true rfl) | assumption | exact nbo_0 | exact nbo_1 | exact b2_b) only [s68_0, s68_1, s68_3, s68_5, s68_8, s68_9, s68_12, s68_13, s68_16, s68_19, s68_20, s68_23, s68_24, s68_27, s68_30, s68_31, s68_32, s68_35, s68_38, s68_40, ↓reduceIte, psh_some, psh_none, cln_i, cln_r, cln_n, cln_l, cln_d, cln_f, Option.bind_some, Option.bind_none, if_true, if_false, nI_add, pk_mul, nbo_0, nbo_1, nI_leI, nI_ltI, nI_eq, Nat.reduceAdd, Nat.reduceMul, Nat.add_zero, Nat.mul_zero]
    rfl
  | succ d ih =>
    intro i e hi he
    have e1 : ¬ 60 < i := by omega
    have g1 := cp10 hB hG hC he
    have g2 : FF 29 [.ref 160, .int (nI i)] (210, up I 10 (vI a), QR R nw bf h) = some (some (.int (nI (endP i a).2)), 210, up I 10 (vI (tot (endP i a))), QR R nw bf h) := by
      have g := f29 (I := up I 10 (vI a)) (R := QR R nw bf h) (b := 10) (a := a) (n := i) (by decide) hRS (up_at _ _ _) hW h0 (by omega)
      rw [up_up] at g
      exact g
    have hz2 := (endP_ok (n := i) hG.1).1.zz
    have hle := endP_le (m := i) hW
    unfold lsM
    by_cases e2 : (endP i a).2 = 0
    · rw [if_pos e2]
      rw [e2] at g2
      refine ⟨tot (endP i a), hz2, ?_⟩
      rw [s68_2]
      simp (disch := first | omega | (show List.length _ ≤ 4; exact Nat.le_of_ble_eq_true rfl) | assumption | exact nbo_0 | exact nbo_1 | exact b2_b) only [s68_0, s68_1, s68_3, s68_5, s68_8, s68_9, s68_12, s68_13, s68_16, s68_19, s68_20, s68_23, s68_24, s68_27, s68_30, s68_31, s68_32, s68_35, s68_38, s68_40, ↓reduceIte, psh_some, psh_none, cln_i, cln_r, cln_n, cln_l, cln_d, cln_f, Option.bind_some, Option.bind_none, if_true, if_false, nI_add, pk_mul, nbo_0, nbo_1, nI_leI, nI_ltI, nI_eq, Nat.reduceAdd, Nat.reduceMul, Nat.add_zero, Nat.mul_zero, e1, gd_7 hB, gd_0, g1, g2, z0]
      rfl
    · rw [if_neg e2]
      obtain ⟨e', k1, k2⟩ := ih (i + 1) (tot (endP i a)) (by omega) hz2
      have e3 : (nI (endP i a).2 = (0 : Int32)) = False := eq_false (nI_ne0 (by omega) (by omega))
      refine ⟨e', k1, ?_⟩
      rw [← k2, s68_2]
      simp (disch := first | omega | (show List.length _ ≤ 4; exact Nat.le_of_ble_eq_true rfl) | assumption | exact nbo_0 | exact nbo_1 | exact b2_b) only [s68_0, s68_1, s68_3, s68_5, s68_8, s68_9, s68_12, s68_13, s68_16, s68_19, s68_20, s68_23, s68_24, s68_27, s68_30, s68_31, s68_32, s68_35, s68_38, s68_40, ↓reduceIte, psh_some, psh_none, cln_i, cln_r, cln_n, cln_l, cln_d, cln_f, Option.bind_some, Option.bind_none, if_true, if_false, nI_add, pk_mul, nbo_0, nbo_1, nI_leI, nI_ltI, nI_eq, Nat.reduceAdd, Nat.reduceMul, Nat.add_zero, Nat.mul_zero, e1, gd_7 hB, gd_0, g1, g2, e3]
theorem f133 {J : Nat → Nat → Int32} {e : Nat → Nat} (hR : RM R) (hJ : J 225 = vI a) (ha : Zz a) (he : Zz e) : FF 133 [.ref 224] (210, up J 226 (vI e), R) = some (none, 210, up J 226 (vI a), R) := by
  have g := f82 (I := up J 226 (vI e)) (R := R) (src := 225) (dst := 226) (vs := 225) (vd := 226) (sAt := 0) (dAt := 0) (by decide) (by decide) (by decide) (fun J k hk => by rw [Nat.zero_add]; exact am_n (Or.inl rfl) hk) (fun J k x hk => by rw [Nat.zero_add]; exact wm_n (Or.inr rfl) (by omega)) (fun k hk => by rw [Nat.zero_add]; exact cm_n (Or.inr rfl) hk) (by rw [up_ne (by decide)]; exact hJ) (up_at _ _ _) ha he
  rw [up_up] at g
  simp (disch := first | omega | (show List.length _ ≤ 4; exact Nat.le_of_ble_eq_true rfl) | assumption | exact nbo_0 | exact nbo_1 | exact b2_b) only [FE133, s133_0, s133_1, s133_4, s133_5, s133_6, s133_9, s133_10, s133_13, ↓reduceIte, psh_some, psh_none, cln_i, cln_r, cln_n, cln_l, cln_d, cln_f, Option.bind_some, Option.bind_none, if_true, if_false, nI_add, pk_mul, nbo_0, nbo_1, nI_leI, nI_ltI, nI_eq, Nat.reduceAdd, Nat.reduceMul, Nat.add_zero, Nat.mul_zero, gm_0 hR, gm_1 hR, g]
theorem p132 {J : Nat → Nat → Int32} (hR : RM R) (hJ : J 225 = vI a) (hW : WN N a) (hN : N < 2 ^ 29) : ∀ d i (e : Nat → Nat), i + d = 61 → Zz e → ∃ e', Zz e' ∧ EE 132 2 [some (.ref 224), some (.int (nI i))] [] (210, up J 226 (vI e), R) = some (some (.int (oN (-6) (lsM a d i))), 210, up J 226 (vI e'), R) := by
  have ho := om
  have hv : (226 : Nat) = 225 ∨ (226 : Nat) = 226 := Or.inr rfl
  have h0 : a 0 < 2 ^ 30 := Nat.lt_of_le_of_lt hW.2.1 (by omega)
  have hp : a 0 % 12 < 12 := Nat.mod_lt _ (by decide)
  intro d
  induction d with
  | zero =>
    intro i e hi he
    have e1 : i = 61 := by omega
    subst e1
    refine ⟨e, he, ?_⟩
    rw [s132_2]
    simp (disch := first | omega | (show List.length _ ≤ 4; exact Nat.le_of_ble_eq_true rfl) | assumption | exact nbo_0 | exact nbo_1 | exact b2_b) only [s132_0, s132_1, s132_3, s132_5, s132_8, s132_9, s132_12, s132_13, s132_16, s132_18, s132_19, s132_22, s132_23, s132_24, s132_26, s132_27, s132_28, s132_29, s132_30, s132_31, s132_34, s132_37, s132_40, s132_41, s132_42, s132_45, s132_48, s132_50, ↓reduceIte, psh_some, psh_none, cln_i, cln_r, cln_n, cln_l, cln_d, cln_f, Option.bind_some, Option.bind_none, if_true, if_false, nI_add, pk_mul, nbo_0, nbo_1, nI_leI, nI_ltI, nI_eq, Nat.reduceAdd, Nat.reduceMul, Nat.add_zero, Nat.mul_zero]
    rfl
  | succ d ih =>
    intro i e hi he
    have e1 : ¬ 60 < i := by omega
    have g1 := f133 (R := R) hR hJ hW.1.zz he
    have hW2 : WO (up a (26 + a 0 % 12) i) := hW.1.mi1 hp (by omega)
    have hWN2 : WN N (up a (26 + a 0 % 12) i) := hW.of_same hW2 (up_ne (by omega)) (fun k h1 h2 => up_ne (by omega))
    have z1' : up a (26 + a 0 % 12) i 0 = a 0 := up_ne (by omega)
    have hq := endP_q (n := i) (up_EQ (a := a) (k := 26 + a 0 % 12) (v := i) (by omega))
    have g2 : FF 115 [.ref 226] (210, up J 226 (vI (up a (26 + a 0 % 12) i)), R) = some (some (.int (nI (endP i a).2)), 210, up J 226 (vI (tot (endP i (up a (26 + a 0 % 12) i)))), R) := by
      have g := f115 (I := up J 226 (vI (up a (26 + a 0 % 12) i))) (R := R) hv (up_at _ _ _) hW2 (by rw [z1']; exact h0)
      rw [z1', up_at, up_up, hq.2] at g
      exact g
    have hz2 := (endP_ok (n := i) hWN2).1.zz
    have hle := endP_le (m := i) hW.1
    have cm := cm_n (a := 226) (k := 26 + a 0 % 12) hv (by omega)
    unfold lsM
    by_cases e2 : (endP i a).2 = 0
    · rw [if_pos e2]
      rw [e2] at g2
      refine ⟨_, hz2, ?_⟩
      rw [s132_2]
      simp (disch := first | omega | (show List.length _ ≤ 4; exact Nat.le_of_ble_eq_true rfl) | assumption | exact nbo_0 | exact nbo_1 | exact b2_b) only [s132_0, s132_1, s132_3, s132_5, s132_8, s132_9, s132_12, s132_13, s132_16, s132_18, s132_19, s132_22, s132_23, s132_24, s132_26, s132_27, s132_28, s132_29, s132_30, s132_31, s132_34, s132_37, s132_40, s132_41, s132_42, s132_45, s132_48, s132_50, ↓reduceIte, psh_some, psh_none, cln_i, cln_r, cln_n, cln_l, cln_d, cln_f, Option.bind_some, Option.bind_none, if_true, if_false, nI_add, pk_mul, nbo_0, nbo_1, nI_leI, nI_ltI, nI_eq, Nat.reduceAdd, Nat.reduceMul, Nat.add_zero, Nat.mul_zero, up_at, up_up, up_vI, vI_at, e1, gm_1 hR, am_n hv, wm_n hv, g1, g2, z0]
      rfl
    · rw [if_neg e2]
      obtain ⟨e', k1, k2⟩ := ih (i + 1) _ (by omega) hz2
      have e3 : (nI (endP i a).2 = (0 : Int32)) = False := eq_false (nI_ne0 (by omega) (by omega))
      refine ⟨e', k1, ?_⟩
      rw [← k2, s132_2]
      simp (disch := first | omega | (show List.length _ ≤ 4; exact Nat.le_of_ble_eq_true rfl) | assumption | exact nbo_0 | exact nbo_1 | exact b2_b) only [s132_0, s132_1, s132_3, s132_5, s132_8, s132_9, s132_12, s132_13, s132_16, s132_18, s132_19, s132_22, s132_23, s132_24, s132_26, s132_27, s132_28, s132_29, s132_30, s132_31, s132_34, s132_37, s132_40, s132_41, s132_42, s132_45, s132_48, s132_50, ↓reduceIte, psh_some, psh_none, cln_i, cln_r, cln_n, cln_l, cln_d, cln_f, Option.bind_some, Option.bind_none, if_true, if_false, nI_add, pk_mul, nbo_0, nbo_1, nI_leI, nI_ltI, nI_eq, Nat.reduceAdd, Nat.reduceMul, Nat.add_zero, Nat.mul_zero, up_at, up_up, up_vI, vI_at, e1, gm_1 hR, am_n hv, wm_n hv, g1, g2, e3]
theorem TM.up1 {J : Nat → Nat → Int32} {e : Nat → Nat} (he : Zz e) : TM J (up J 226 (vI e)) := ⟨fun v hv => up_ne hv, e, up_at _ _ _, he⟩
theorem pr_least (hB : BR R) (hG : GL N a u p sl hd n q) (hC : CL I nw bf h a u p sl hd n q) (hM : ML I a u p sl hd n q) (hN : N < 2 ^ 29) : PR R I (QR R nw bf h) N 68 [.ref 208] 132 [.ref 224] := by
  refine view2 (r := .int (oN (-6) (lsM a 61 0))) hG hC hM ?_ (fun J hJ hJ2 => ?_)
  · obtain ⟨e, he, hz⟩ := hC.2.2.2.2.2.2.2 10 (by decide) (by decide)
    obtain ⟨e', k1, k2⟩ := p68 hB hG hC hN 61 0 e (by decide) hz
    rw [up_eq he] at k2
    refine ⟨_, ?_, TR.up1 hC k1⟩
    rw [← k2]
    simp (disch := first | omega | (show List.length _ ≤ 4; exact Nat.le_of_ble_eq_true rfl) | assumption | exact nbo_0 | exact nbo_1 | exact b2_b) only [FE68, s68_0, s68_1, ↓reduceIte, psh_some, psh_none, cln_i, cln_r, cln_n, cln_l, cln_d, cln_f, Option.bind_some, Option.bind_none, if_true, if_false, nI_add, pk_mul, nbo_0, nbo_1, nI_leI, nI_ltI, nI_eq, Nat.reduceAdd, Nat.reduceMul, Nat.add_zero, Nat.mul_zero]
  · obtain ⟨e, he, hz⟩ := hJ2
    obtain ⟨e', k1, k2⟩ := p132 (J := J) (QR_RM (nw := nw) (bf := bf) (h := h) hB.2.2.2.2) hJ hG.1 hN 61 0 e (by decide) hz
    rw [up_eq he] at k2
    refine ⟨_, ?_, TM.up1 k1⟩
    rw [← k2]
    simp (disch := first | omega | (show List.length _ ≤ 4; exact Nat.le_of_ble_eq_true rfl) | assumption | exact nbo_0 | exact nbo_1 | exact b2_b) only [FE132, s132_0, s132_1, ↓reduceIte, psh_some, psh_none, cln_i, cln_r, cln_n, cln_l, cln_d, cln_f, Option.bind_some, Option.bind_none, if_true, if_false, nI_add, pk_mul, nbo_0, nbo_1, nI_leI, nI_ltI, nI_eq, Nat.reduceAdd, Nat.reduceMul, Nat.add_zero, Nat.mul_zero]
/-! lostIn -/
theorem itE_ok : ∀ d N (a : Nat → Nat), WN N a → WN (N + d) (itE d a)
  | 0, N, a, h => h
  | d + 1, N, a, h => by
    have h2 := itE_ok d (N + 1) _ (endP_ok (n := a (26 + a 0 % 12)) h)
    rw [show N + 1 + d = N + (d + 1) by omega] at h2
    exact h2
theorem p69 {k : Nat} (hB : BR R) (hk : k ≤ 50) : ∀ d i N (e : Nat → Nat), i + d = k → WN N e → N + d < 2 ^ 29 → EE 69 27 [some (.ref 208), some (.int (nI k)), some (.int (nI i))] [] (210, up I 10 (vI e), QR R nw bf h) = EE 69 27 [some (.ref 208), some (.int (nI k)), some (.int (nI k))] [] (210, up I 10 (vI (itE d e)), QR R nw bf h) := by
  have ho := od
  have ho1 : isO "HandoverDesk$State" 210 160 = true := os (b := 10) (by decide)
  have hRS : RS (QR R nw bf h) := QR_RS hB.2.2.2.1
  intro d
  induction d with
  | zero =>
    intro i N e hi he hN
    have e1 : i = k := by omega
    subst e1
    rfl
  | succ d ih =>
    intro i N e hi he hN
    have e1 : ¬ k ≤ i := by omega
    have hW := he.1
    have h0 : e 0 < 2 ^ 30 := Nat.lt_of_le_of_lt he.2.1 (by omega)
    have hmi := hW.mi (e 0 % 12) (Nat.mod_lt _ (by decide))
    have g1 : FF 28 [.ref 160] (210, up I 10 (vI e), QR R nw bf h) = some (some (.int (nI (e (26 + e 0 % 12)))), 210, up I 10 (vI e), QR R nw bf h) := f28 (I := up I 10 (vI e)) (R := QR R nw bf h) (b := 10) (a := e) (by decide) hRS (up_at _ _ _) h0
    have g2 : FF 29 [.ref 160, .int (nI (e (26 + e 0 % 12)))] (210, up I 10 (vI e), QR R nw bf h) = some (some (.int (nI (endP (e (26 + e 0 % 12)) e).2)), 210, up I 10 (vI (tot (endP (e (26 + e 0 % 12)) e))), QR R nw bf h) := by
      have g := f29 (I := up I 10 (vI e)) (R := QR R nw bf h) (b := 10) (a := e) (n := e (26 + e 0 % 12)) (by decide) hRS (up_at _ _ _) hW h0 (by omega)
      rw [up_up] at g
      exact g
    refine Eq.trans ?_ (ih (i + 1) (N + 1) (tot (endP (e (26 + e 0 % 12)) e)) (by omega) (endP_ok he) (by omega))
    rw [s69_27]
    simp (disch := first | omega | (show List.length _ ≤ 4; exact Nat.le_of_ble_eq_true rfl) | assumption | exact nbo_0 | exact nbo_1 | exact b2_b) only [s69_0, s69_1, s69_2, s69_5, s69_6, s69_8, s69_11, s69_13, s69_14, s69_15, s69_18, s69_19, s69_22, s69_25, s69_26, s69_28, s69_29, s69_32, s69_33, s69_36, s69_37, s69_40, s69_43, s69_46i, s69_46r, s69_47, s69_50, s69_53, s69_54, s69_57, s69_58, s69_61, ↓reduceIte, psh_some, psh_none, cln_i, cln_r, cln_n, cln_l, cln_d, cln_f, Option.bind_some, Option.bind_none, if_true, if_false, nI_add, pk_mul, nbo_0, nbo_1, nI_leI, nI_ltI, nI_eq, Nat.reduceAdd, Nat.reduceMul, Nat.add_zero, Nat.mul_zero, e1, gd_7 hB, g1, g2]
theorem p134 {J : Nat → Nat → Int32} {k : Nat} (hR : RM R) (hk : k ≤ 50) : ∀ d i N (e : Nat → Nat), i + d = k → WN N e → N + d < 2 ^ 29 → EE 134 19 [some (.ref 224), some (.int (nI k)), some (.int (nI i))] [] (210, up J 226 (vI e), R) = EE 134 19 [some (.ref 224), some (.int (nI k)), some (.int (nI k))] [] (210, up J 226 (vI (itE d e)), R) := by
  have ho := om
  have hv : (226 : Nat) = 225 ∨ (226 : Nat) = 226 := Or.inr rfl
  intro d
  induction d with
  | zero =>
    intro i N e hi he hN
    have e1 : i = k := by omega
    subst e1
    rfl
  | succ d ih =>
    intro i N e hi he hN
    have e1 : ¬ k ≤ i := by omega
    have hW := he.1
    have h0 : e 0 < 2 ^ 30 := Nat.lt_of_le_of_lt he.2.1 (by omega)
    have g2 := f115 (I := up J 226 (vI e)) (R := R) hv (up_at _ _ _) hW h0
    rw [up_up] at g2
    refine Eq.trans ?_ (ih (i + 1) (N + 1) (tot (endP (e (26 + e 0 % 12)) e)) (by omega) (endP_ok he) (by omega))
    rw [s134_19]
    simp (disch := first | omega | (show List.length _ ≤ 4; exact Nat.le_of_ble_eq_true rfl) | assumption | exact nbo_0 | exact nbo_1 | exact b2_b) only [s134_0, s134_1, s134_2, s134_4, s134_7, s134_10, s134_12, s134_13, s134_14, s134_17, s134_18, s134_20, s134_21, s134_24, s134_25, s134_28, s134_31i, s134_31r, s134_32, s134_35, s134_38, s134_39, s134_42, s134_43, s134_46, ↓reduceIte, psh_some, psh_none, cln_i, cln_r, cln_n, cln_l, cln_d, cln_f, Option.bind_some, Option.bind_none, if_true, if_false, nI_add, pk_mul, nbo_0, nbo_1, nI_leI, nI_ltI, nI_eq, Nat.reduceAdd, Nat.reduceMul, Nat.add_zero, Nat.mul_zero, e1, gm_1 hR, g2]
theorem pr_lost (hB : BR R) (hG : GL N a u p sl hd n q) (hC : CL I nw bf h a u p sl hd n q) (hM : ML I a u p sl hd n q) (hN : N < 2 ^ 28) (x : Int32) : PR R I (QR R nw bf h) N 69 [.ref 208, .int x] 134 [.ref 224, .int x] := by
  have ho := od
  have ho3 := om
  have ho1 : isO "HandoverDesk$State" 210 160 = true := os (b := 10) (by decide)
  have hRS : RS (QR R nw bf h) := QR_RS hB.2.2.2.1
  have hRM : RM (QR R nw bf h) := QR_RM hB.2.2.2.2
  have hv : (226 : Nat) = 225 ∨ (226 : Nat) = 226 := Or.inr rfl
  by_cases e : x < nI 1
  · refine view (r := .int (-2)) hG hC hM ?_ ?_
    · simp (disch := first | omega | (show List.length _ ≤ 4; exact Nat.le_of_ble_eq_true rfl) | assumption | exact nbo_0 | exact nbo_1 | exact b2_b) only [FE69, s69_0, s69_1, s69_2, s69_11, s69_13, ↓reduceIte, psh_some, psh_none, cln_i, cln_r, cln_n, cln_l, cln_d, cln_f, Option.bind_some, Option.bind_none, if_true, if_false, nI_add, pk_mul, nbo_0, nbo_1, nI_leI, nI_ltI, nI_eq, Nat.reduceAdd, Nat.reduceMul, Nat.add_zero, Nat.mul_zero, e]
    · simp (disch := first | omega | (show List.length _ ≤ 4; exact Nat.le_of_ble_eq_true rfl) | assumption | exact nbo_0 | exact nbo_1 | exact b2_b) only [FE134, s134_0, s134_1, s134_2, s134_4, s134_7, s134_10, s134_12, ↓reduceIte, psh_some, psh_none, cln_i, cln_r, cln_n, cln_l, cln_d, cln_f, Option.bind_some, Option.bind_none, if_true, if_false, nI_add, pk_mul, nbo_0, nbo_1, nI_leI, nI_ltI, nI_eq, Nat.reduceAdd, Nat.reduceMul, Nat.add_zero, Nat.mul_zero, f84, b2_f (show ¬ (¬ x < nI 1 ∧ ¬ nI 50 < x) from fun hc => hc.1 e), z0]
  · by_cases e2 : nI 50 < x
    · have e3 : ¬ x ≤ nI 50 := Int32.not_le.mpr e2
      refine view (r := .int (-2)) hG hC hM ?_ ?_
      · simp (disch := first | omega | (show List.length _ ≤ 4; exact Nat.le_of_ble_eq_true rfl) | assumption | exact nbo_0 | exact nbo_1 | exact b2_b) only [FE69, s69_0, s69_1, s69_2, s69_5, s69_6, s69_8, s69_11, s69_13, ↓reduceIte, psh_some, psh_none, cln_i, cln_r, cln_n, cln_l, cln_d, cln_f, Option.bind_some, Option.bind_none, if_true, if_false, nI_add, pk_mul, nbo_0, nbo_1, nI_leI, nI_ltI, nI_eq, Nat.reduceAdd, Nat.reduceMul, Nat.add_zero, Nat.mul_zero, e, e3]
      · simp (disch := first | omega | (show List.length _ ≤ 4; exact Nat.le_of_ble_eq_true rfl) | assumption | exact nbo_0 | exact nbo_1 | exact b2_b) only [FE134, s134_0, s134_1, s134_2, s134_4, s134_7, s134_10, s134_12, ↓reduceIte, psh_some, psh_none, cln_i, cln_r, cln_n, cln_l, cln_d, cln_f, Option.bind_some, Option.bind_none, if_true, if_false, nI_add, pk_mul, nbo_0, nbo_1, nI_leI, nI_ltI, nI_eq, Nat.reduceAdd, Nat.reduceMul, Nat.add_zero, Nat.mul_zero, f84, b2_f (show ¬ (¬ x < nI 1 ∧ ¬ nI 50 < x) from fun hc => hc.2 e2), z0]
    · obtain ⟨k, k1, k2, rfl⟩ := rng (by decide) (by decide) e e2
      have hit := itE_ok k N a hG.1
      have h0 : itE k a 0 < 2 ^ 30 := Nat.lt_of_le_of_lt hit.2.1 (by omega)
      have e4 : k ≤ 50 := k2
      have e5 : ¬ k < 1 := by omega
      refine view2 (r := .int (ot (itE k a) 2)) hG hC hM ?_ (fun J hJ hJ2 => ?_)
      · obtain ⟨e, he, hz⟩ := hC.2.2.2.2.2.2.2 10 (by decide) (by decide)
        have g1 := cp10 hB hG hC hz
        rw [up_eq he] at g1
        have g2 := p69 (I := I) (nw := nw) (bf := bf) (h := h) hB k2 k 0 N a (by omega) hG.1 (by omega)
        have g3 : FF 40 [.ref 160, .int (nI 2)] (210, up I 10 (vI (itE k a)), QR R nw bf h) = some (some (.int (ot (itE k a) 2)), 210, up I 10 (vI (itE k a)), QR R nw bf h) := f40 (I := up I 10 (vI (itE k a))) (R := QR R nw bf h) (b := 10) (a := itE k a) (h := 2) (by decide) hRS (up_at _ _ _) hit.1 h0 (by decide)
        refine ⟨_, ?_, TR.up1 hC hit.1.zz⟩
        have g4 : FF 69 [.ref 208, .int (nI k)] (210, I, QR R nw bf h) = EE 69 27 [some (.ref 208), some (.int (nI k)), some (.int (nI 0))] [] (210, up I 10 (vI a), QR R nw bf h) := by
          simp (disch := first | omega | (show List.length _ ≤ 4; exact Nat.le_of_ble_eq_true rfl) | assumption | exact nbo_0 | exact nbo_1 | exact b2_b) only [FE69, s69_0, s69_1, s69_2, s69_5, s69_6, s69_8, s69_11, s69_13, s69_14, s69_15, s69_18, s69_19, s69_22, s69_25, s69_26, s69_28, s69_29, s69_32, s69_33, s69_36, s69_37, s69_40, s69_43, s69_46i, s69_46r, s69_47, s69_50, s69_53, s69_54, s69_57, s69_58, s69_61, ↓reduceIte, psh_some, psh_none, cln_i, cln_r, cln_n, cln_l, cln_d, cln_f, Option.bind_some, Option.bind_none, if_true, if_false, nI_add, pk_mul, nbo_0, nbo_1, nI_leI, nI_ltI, nI_eq, Nat.reduceAdd, Nat.reduceMul, Nat.add_zero, Nat.mul_zero, e4, e5, gd_7 hB, gd_0, g1]
        rw [g4, g2, s69_27]
        simp (disch := first | omega | (show List.length _ ≤ 4; exact Nat.le_of_ble_eq_true rfl) | assumption | exact nbo_0 | exact nbo_1 | exact b2_b) only [s69_0, s69_1, s69_2, s69_5, s69_6, s69_8, s69_11, s69_13, s69_14, s69_15, s69_18, s69_19, s69_22, s69_25, s69_26, s69_28, s69_29, s69_32, s69_33, s69_36, s69_37, s69_40, s69_43, s69_46i, s69_46r, s69_47, s69_50, s69_53, s69_54, s69_57, s69_58, s69_61, ↓reduceIte, psh_some, psh_none, cln_i, cln_r, cln_n, cln_l, cln_d, cln_f, Option.bind_some, Option.bind_none, if_true, if_false, nI_add, pk_mul, nbo_0, nbo_1, nI_leI, nI_ltI, nI_eq, Nat.reduceAdd, Nat.reduceMul, Nat.add_zero, Nat.mul_zero, Nat.le_refl, gd_7 hB, g3]
      · obtain ⟨e, he, hz⟩ := hJ2
        have g1 := f133 (R := QR R nw bf h) (e := e) hRM hJ hG.1.1.zz hz
        rw [up_eq he] at g1
        have g2 := p134 (J := J) (R := QR R nw bf h) hRM k2 k 0 N a (by omega) hG.1 (by omega)
        have g3 := f127 (v := 226) (I := up J 226 (vI (itE k a))) (R := QR R nw bf h) (a := itE k a) (h := 2) hv (up_at _ _ _) hit.1 h0 (by decide)
        refine ⟨_, ?_, TM.up1 hit.1.zz⟩
        have g84 := b2_t (P := ¬ nI k < nI 1 ∧ ¬ nI 50 < nI k) ⟨‹¬ nI k < nI 1›, ‹¬ nI 50 < nI k›⟩
        have g4 : FF 134 [.ref 224, .int (nI k)] (210, J, QR R nw bf h) = EE 134 19 [some (.ref 224), some (.int (nI k)), some (.int (nI 0))] [] (210, up J 226 (vI a), QR R nw bf h) := by
          have g5 := f84 (M := (210, J, QR R nw bf h)) (x := nI k) (y := nI 1) (z := nI 50)
          rw [g84] at g5
          simp (disch := first | omega | (show List.length _ ≤ 4; exact Nat.le_of_ble_eq_true rfl) | assumption | exact nbo_0 | exact nbo_1 | exact b2_b) only [FE134, s134_0, s134_1, s134_2, s134_4, s134_7, s134_10, s134_12, s134_13, s134_14, s134_17, s134_18, s134_20, s134_21, s134_24, s134_25, s134_28, s134_31i, s134_31r, s134_32, s134_35, s134_38, s134_39, s134_42, s134_43, s134_46, ↓reduceIte, psh_some, psh_none, cln_i, cln_r, cln_n, cln_l, cln_d, cln_f, Option.bind_some, Option.bind_none, if_true, if_false, nI_add, pk_mul, nbo_0, nbo_1, nI_leI, nI_ltI, nI_eq, Nat.reduceAdd, Nat.reduceMul, Nat.add_zero, Nat.mul_zero, g5, z1, g1]
        rw [g4, g2, s134_19]
        simp (disch := first | omega | (show List.length _ ≤ 4; exact Nat.le_of_ble_eq_true rfl) | assumption | exact nbo_0 | exact nbo_1 | exact b2_b) only [s134_0, s134_1, s134_2, s134_4, s134_7, s134_10, s134_12, s134_13, s134_14, s134_17, s134_18, s134_20, s134_21, s134_24, s134_25, s134_28, s134_31i, s134_31r, s134_32, s134_35, s134_38, s134_39, s134_42, s134_43, s134_46, ↓reduceIte, psh_some, psh_none, cln_i, cln_r, cln_n, cln_l, cln_d, cln_f, Option.bind_some, Option.bind_none, if_true, if_false, nI_add, pk_mul, nbo_0, nbo_1, nI_leI, nI_ltI, nI_eq, Nat.reduceAdd, Nat.reduceMul, Nat.add_zero, Nat.mul_zero, Nat.le_refl, gm_1 hRM, g3]
end WI1
