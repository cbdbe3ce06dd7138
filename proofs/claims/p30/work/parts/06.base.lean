theorem cln_i (x : Int32) : cln (some (.int x)) = some (.int x) := rfl
theorem cln_r (x : Nat) : cln (some (.ref x)) = some (.ref x) := rfl
theorem cln_f (x : UInt32) : cln (some (.float x)) = some (.float x) := rfl
theorem cln_l (x : Int64) : cln (some (.long x)) = none := rfl
theorem cln_d (x : UInt64) : cln (some (.double x)) = none := rfl
theorem cln_n : cln none = none := rfl
theorem nbo_0 : narrow .boolean (.int (nI 0)) = .int (nI 0) := by decide +kernel
theorem nbo_1 : narrow .boolean (.int (nI 1)) = .int (nI 1) := by decide +kernel
/-- a vector of natural numbers -/
def vI (a : Nat → Nat) : Nat → Int32 := fun k => nI (a k)
theorem vI_at (a : Nat → Nat) (k : Nat) : vI a k = nI (a k) := rfl
theorem up_at {α : Type} (I : Nat → α) (v : Nat) (V : α) : up I v V v = V := if_pos rfl
theorem up_ne {α : Type} {I : Nat → α} {v w : Nat} {V : α} (h : w ≠ v) : up I v V w = I w := if_neg h
theorem up_up {α : Type} (I : Nat → α) (v : Nat) (V W : α) : up (up I v V) v W = up I v W := by
  funext w
  unfold up
  by_cases h : w = v
  · rw [if_pos h, if_pos h]
  · rw [if_neg h, if_neg h, if_neg h]
theorem up_self {α : Type} (I : Nat → α) (v : Nat) : up I v (I v) = I := by
  funext w
  unfold up
  by_cases h : w = v
  · rw [if_pos h, h]
  · rw [if_neg h]
theorem up_eq {α : Type} {I : Nat → α} {v : Nat} {V : α} (h : I v = V) : up I v V = I := by
  subst h
  exact up_self I v
theorem up_comm {α : Type} {I : Nat → α} {v w : Nat} {V W : α} (h : v ≠ w) : up (up I v V) w W = up (up I w W) v V := by
  funext u
  unfold up
  by_cases h1 : u = w
  · by_cases h2 : u = v
    · omega
    · rw [if_pos h1, if_neg h2, if_pos h1]
  · rw [if_neg h1]
    by_cases h2 : u = v
    · rw [if_pos h2, if_pos h2]
    · rw [if_neg h2, if_neg h2, if_neg h1]
theorem up_vI (a : Nat → Nat) (k y : Nat) : up (vI a) k (nI y) = vI (up a k y) := by
  funext j
  show (if j = k then nI y else nI (a j)) = nI (if j = k then y else a j)
  by_cases h : j = k
  · rw [if_pos h, if_pos h]
  · rw [if_neg h, if_neg h]
/-! ===== the model's cells ===== -/
def RM (_ : Nat → Nat → Option Nat) : Prop := True
section BM
variable {I : Nat → Nat → Int32} {R : Nat → Nat → Option Nat}
theorem nI_inb {k n : Nat} (hk : k < n) (hn : n < 2 ^ 31) : inb (nI k) n := nI_in hk hn
/-- an array's element, by its cell -/
theorem ard_of {t a k w : Nat} (ha : a < 1000) (hkd : kd a = t) (hp : pos a < 202) (hl : ln a = w) (hw : w < 2 ^ 31) (hk : k < w) : ardI t 202 I a (nI k) = some (I (vx a k) (ix a k)) := by
  unfold ardI
  rw [if_pos ha, if_pos ⟨hkd, hp, by rw [hl]; exact nI_inb hk hw⟩, nI_clamp (Nat.lt_trans hk hw)]
theorem ac_of {t a k w : Nat} (ha : a < 1000) (hkd : kd a = t) (hp : pos a < 202) (hl : ln a = w) (hw : w < 2 ^ 31) (hk : k < w) : acI t 202 a (nI k) := ⟨hkd, ha, hp, by rw [hl]; exact nI_inb hk hw⟩
/-! ===== a State's cells ===== -/
theorem ds_st {b c : Nat} (hb : b < 13) (hc : c < 16) : ds (16 * b + c) = dsS.getD c (0, 0, 0) := by
  unfold ds
  rw [if_pos (by omega), show (16 * b + c) % 16 = c by omega]
theorem vec_st {b c : Nat} (hb : b < 13) (hc : c < 16) : vec (16 * b + c) = b := by
  unfold vec
  rw [if_pos (by omega)]
  omega
theorem pos_st {b c : Nat} (hb : b < 13) (hc : c < 15) : pos (16 * b + c) < 202 := by
  unfold pos
  rw [if_pos (by omega), if_neg (by omega), show (16 * b + c) / 16 = b by omega, show (16 * b + c) % 16 = c by omega]
  rcases (show b = 0 ∨ b = 1 ∨ b = 2 ∨ b = 3 ∨ b = 4 ∨ b = 5 ∨ b = 6 ∨ b = 7 ∨ b = 8 ∨ b = 9 ∨ b = 10 ∨ b = 11 ∨ b = 12 by omega) with rfl | rfl | rfl | rfl | rfl | rfl | rfl | rfl | rfl | rfl | rfl | rfl | rfl <;> (show _ + c < 202; simp only [sbL, List.getD_cons_zero, List.getD_cons_succ]; omega)
theorem vx_st {b c j : Nat} (hb : b < 13) (hc : c < 16) : vx (16 * b + c) j = b := by
  unfold vx
  rw [if_neg (by omega), if_neg (by omega), vec_st hb hc]
theorem ix_st {b c j : Nat} (hb : b < 13) (hc : c < 16) : ix (16 * b + c) j = (dsS.getD c (0, 0, 0)).2.2 + j := by
  unfold ix
  rw [if_neg (by omega), if_neg (by omega)]
  unfold off
  rw [ds_st hb hc]
theorem as_of {b c k w o : Nat} (hb : b < 13) (hc : c < 15) (hd : dsS.getD c (0, 0, 0) = (5, w, o)) (hk : k < w) (hw : w < 2 ^ 31) : ardI 5 202 I (16 * b + c) (nI k) = some (I b (o + k)) := by
  rw [ard_of (by omega) (by unfold kd; rw [ds_st hb (by omega), hd]) (pos_st hb hc) (by unfold ln; rw [ds_st hb (by omega), hd]) hw hk, vx_st hb (by omega), ix_st hb (by omega), hd]
theorem cs_of {b c k w o : Nat} (hb : b < 13) (hc : c < 15) (hd : dsS.getD c (0, 0, 0) = (5, w, o)) (hk : k < w) (hw : w < 2 ^ 31) : acI 5 202 (16 * b + c) (nI k) :=
  ac_of (by omega) (by unfold kd; rw [ds_st hb (by omega), hd]) (pos_st hb hc) (by unfold ln; rw [ds_st hb (by omega), hd]) hw hk
theorem ws_of {b c k w o : Nat} {x : Int32} (hb : b < 13) (hc : c < 15) (hd : dsS.getD c (0, 0, 0) = (5, w, o)) (hk : k < 2 ^ 31) : wI I (16 * b + c) (nI k).toNatClampNeg x = up I b (up (I b) (o + k) x) := by
  rw [nI_clamp hk]
  unfold wI
  rw [vx_st hb (by omega), ix_st hb (by omega), hd]
theorem as_1 {b k : Nat} (hb : b < 13) (hk : k < 6) : ardI 5 202 I (16 * b + 1) (nI k) = some (I b (2 + k)) := as_of hb (by decide) rfl hk (by decide)
theorem as_2 {b k : Nat} (hb : b < 13) (hk : k < 12) : ardI 5 202 I (16 * b + 2) (nI k) = some (I b (14 + k)) := as_of hb (by decide) rfl hk (by decide)
theorem as_3 {b k : Nat} (hb : b < 13) (hk : k < 12) : ardI 5 202 I (16 * b + 3) (nI k) = some (I b (26 + k)) := as_of hb (by decide) rfl hk (by decide)
theorem as_5 {b w k : Nat} (hb : b < 13) (hw : w < 6) (hk : k < 10) : ardI 5 202 I (16 * b + (5 + w)) (nI k) = some (I b (58 + 10 * w + k)) := by
  rcases (show w = 0 ∨ w = 1 ∨ w = 2 ∨ w = 3 ∨ w = 4 ∨ w = 5 by omega) with rfl | rfl | rfl | rfl | rfl | rfl <;> exact as_of hb (by decide) rfl hk (by decide)
theorem as_11 {b k : Nat} (hb : b < 13) (hk : k < 10) : ardI 5 202 I (16 * b + 11) (nI k) = some (I b (48 + k)) := as_of hb (by decide) rfl hk (by decide)
theorem as_12 {b k : Nat} (hb : b < 13) (hk : k < 10) : ardI 5 202 I (16 * b + 12) (nI k) = some (I b (118 + k)) := as_of hb (by decide) rfl hk (by decide)
theorem as_13 {b k : Nat} (hb : b < 13) (hk : k < 10) : ardI 5 202 I (16 * b + 13) (nI k) = some (I b (128 + k)) := as_of hb (by decide) rfl hk (by decide)
theorem as_14 {b k : Nat} (hb : b < 13) (hk : k < 10) : ardI 5 202 I (16 * b + 14) (nI k) = some (I b (138 + k)) := as_of hb (by decide) rfl hk (by decide)
theorem cs_1 {b k : Nat} (hb : b < 13) (hk : k < 6) : acI 5 202 (16 * b + 1) (nI k) := cs_of (w := 6) (o := 2) hb (by decide) rfl hk (by decide)
theorem cs_2 {b k : Nat} (hb : b < 13) (hk : k < 12) : acI 5 202 (16 * b + 2) (nI k) := cs_of (w := 12) (o := 14) hb (by decide) rfl hk (by decide)
theorem cs_3 {b k : Nat} (hb : b < 13) (hk : k < 12) : acI 5 202 (16 * b + 3) (nI k) := cs_of (w := 12) (o := 26) hb (by decide) rfl hk (by decide)
theorem cs_5 {b w k : Nat} (hb : b < 13) (hw : w < 6) (hk : k < 10) : acI 5 202 (16 * b + (5 + w)) (nI k) := by
  rcases (show w = 0 ∨ w = 1 ∨ w = 2 ∨ w = 3 ∨ w = 4 ∨ w = 5 by omega) with rfl | rfl | rfl | rfl | rfl | rfl
  · exact cs_of (w := 10) (o := 58) hb (by decide) rfl hk (by decide)
  · exact cs_of (w := 10) (o := 68) hb (by decide) rfl hk (by decide)
  · exact cs_of (w := 10) (o := 78) hb (by decide) rfl hk (by decide)
  · exact cs_of (w := 10) (o := 88) hb (by decide) rfl hk (by decide)
  · exact cs_of (w := 10) (o := 98) hb (by decide) rfl hk (by decide)
  · exact cs_of (w := 10) (o := 108) hb (by decide) rfl hk (by decide)
theorem cs_11 {b k : Nat} (hb : b < 13) (hk : k < 10) : acI 5 202 (16 * b + 11) (nI k) := cs_of (w := 10) (o := 48) hb (by decide) rfl hk (by decide)
theorem cs_12 {b k : Nat} (hb : b < 13) (hk : k < 10) : acI 5 202 (16 * b + 12) (nI k) := cs_of (w := 10) (o := 118) hb (by decide) rfl hk (by decide)
theorem cs_13 {b k : Nat} (hb : b < 13) (hk : k < 10) : acI 5 202 (16 * b + 13) (nI k) := cs_of (w := 10) (o := 128) hb (by decide) rfl hk (by decide)
theorem cs_14 {b k : Nat} (hb : b < 13) (hk : k < 10) : acI 5 202 (16 * b + 14) (nI k) := cs_of (w := 10) (o := 138) hb (by decide) rfl hk (by decide)
theorem ws_1 {b k : Nat} {x : Int32} (hb : b < 13) (hk : k < 2 ^ 31) : wI I (16 * b + 1) (nI k).toNatClampNeg x = up I b (up (I b) (2 + k) x) := ws_of (w := 6) hb (by decide) rfl hk
theorem ws_2 {b k : Nat} {x : Int32} (hb : b < 13) (hk : k < 2 ^ 31) : wI I (16 * b + 2) (nI k).toNatClampNeg x = up I b (up (I b) (14 + k) x) := ws_of (w := 12) hb (by decide) rfl hk
theorem ws_3 {b k : Nat} {x : Int32} (hb : b < 13) (hk : k < 2 ^ 31) : wI I (16 * b + 3) (nI k).toNatClampNeg x = up I b (up (I b) (26 + k) x) := ws_of (w := 12) hb (by decide) rfl hk
theorem ws_5 {b w k : Nat} {x : Int32} (hb : b < 13) (hw : w < 6) (hk : k < 2 ^ 31) : wI I (16 * b + (5 + w)) (nI k).toNatClampNeg x = up I b (up (I b) (58 + 10 * w + k) x) := by
  rcases (show w = 0 ∨ w = 1 ∨ w = 2 ∨ w = 3 ∨ w = 4 ∨ w = 5 by omega) with rfl | rfl | rfl | rfl | rfl | rfl <;> exact ws_of (w := 10) hb (by decide) rfl hk
theorem ws_11 {b k : Nat} {x : Int32} (hb : b < 13) (hk : k < 2 ^ 31) : wI I (16 * b + 11) (nI k).toNatClampNeg x = up I b (up (I b) (48 + k) x) := ws_of (w := 10) hb (by decide) rfl hk
theorem ws_12 {b k : Nat} {x : Int32} (hb : b < 13) (hk : k < 2 ^ 31) : wI I (16 * b + 12) (nI k).toNatClampNeg x = up I b (up (I b) (118 + k) x) := ws_of (w := 10) hb (by decide) rfl hk
theorem ws_13 {b k : Nat} {x : Int32} (hb : b < 13) (hk : k < 2 ^ 31) : wI I (16 * b + 13) (nI k).toNatClampNeg x = up I b (up (I b) (128 + k) x) := ws_of (w := 10) hb (by decide) rfl hk
theorem ws_14 {b k : Nat} {x : Int32} (hb : b < 13) (hk : k < 2 ^ 31) : wI I (16 * b + 14) (nI k).toNatClampNeg x = up I b (up (I b) (138 + k) x) := ws_of (w := 10) hb (by decide) rfl hk
/-- the States' rows of references -/
def RS (R : Nat → Nat → Option Nat) : Prop := ∀ b, b < 13 → (R (16 * b) 0 = some (16 * b + 1) ∧ R (16 * b) 1 = some (16 * b + 2) ∧ R (16 * b) 2 = some (16 * b + 3) ∧ R (16 * b) 3 = some (16 * b + 4) ∧ R (16 * b) 4 = some (16 * b + 11) ∧ R (16 * b) 5 = some (16 * b + 12) ∧ R (16 * b) 6 = some (16 * b + 13) ∧ R (16 * b) 7 = some (16 * b + 14)) ∧ ∀ w, w < 6 → R (16 * b + 4) w = some (16 * b + (5 + w))
theorem st_is {b : Nat} (hb : b < 13) : kd (16 * b) = 2 ∧ ln (16 * b) = 17 ∧ 16 * b < 1000 ∧ pos (16 * b) < 202 ∧ vec (16 * b) = b := by
  have h1 := ds_st (b := b) (c := 0) hb (by decide)
  have h2 := pos_st (b := b) (c := 0) hb (by decide)
  have h3 := vec_st (b := b) (c := 0) hb (by decide)
  rw [Nat.add_zero] at h1 h2 h3
  exact ⟨by unfold kd; rw [h1]; rfl, by unfold ln; rw [h1]; rfl, by omega, h2, h3⟩
theorem os {b : Nat} (hb : b < 13) : isO "HandoverDesk$State" 202 (16 * b) = true := by
  obtain ⟨h1, h2, h3, h4, -⟩ := st_is hb
  unfold isO
  rw [if_pos h3, h1]
  exact decide_eq_true ⟨by decide, by decide, h4, rfl⟩
theorem gs_r {b k a : Nat} (hb : b < 13) (hk : k < 17) (h0 : fk 2 k = 0) (h : R (16 * b) k = some a) : gfI 202 I R 1 k (16 * b) = some (.ref a) := by
  obtain ⟨h1, h2, h3, h4, h5⟩ := st_is hb
  unfold gfI
  rw [if_neg (by decide), if_pos ⟨h1, h3, h4, by rw [h2]; exact hk⟩]
  unfold fv
  rw [h1, h0]
  show some (va_rf (R (16 * b) k)) = _
  rw [h]
  rfl
theorem gs_0 {b : Nat} (hb : b < 13) (h : RS R) : gfI 202 I R 1 0 (16 * b) = some (.ref (16 * b + 1)) := gs_r hb (by decide) rfl (h b hb).1.1
theorem gs_1 {b : Nat} (hb : b < 13) (h : RS R) : gfI 202 I R 1 1 (16 * b) = some (.ref (16 * b + 2)) := gs_r hb (by decide) rfl (h b hb).1.2.1
theorem gs_2 {b : Nat} (hb : b < 13) (h : RS R) : gfI 202 I R 1 2 (16 * b) = some (.ref (16 * b + 3)) := gs_r hb (by decide) rfl (h b hb).1.2.2.1
theorem gs_3 {b : Nat} (hb : b < 13) (h : RS R) : gfI 202 I R 1 3 (16 * b) = some (.ref (16 * b + 4)) := gs_r hb (by decide) rfl (h b hb).1.2.2.2.1
theorem gs_4 {b : Nat} (hb : b < 13) (h : RS R) : gfI 202 I R 1 4 (16 * b) = some (.ref (16 * b + 11)) := gs_r hb (by decide) rfl (h b hb).1.2.2.2.2.1
theorem gs_5 {b : Nat} (hb : b < 13) (h : RS R) : gfI 202 I R 1 5 (16 * b) = some (.ref (16 * b + 12)) := gs_r hb (by decide) rfl (h b hb).1.2.2.2.2.2.1
theorem gs_6 {b : Nat} (hb : b < 13) (h : RS R) : gfI 202 I R 1 6 (16 * b) = some (.ref (16 * b + 13)) := gs_r hb (by decide) rfl (h b hb).1.2.2.2.2.2.2.1
theorem gs_7 {b : Nat} (hb : b < 13) (h : RS R) : gfI 202 I R 1 7 (16 * b) = some (.ref (16 * b + 14)) := gs_r hb (by decide) rfl (h b hb).1.2.2.2.2.2.2.2
theorem gs_i {b k o : Nat} (hb : b < 13) (hk : k < 17) (h0 : fk 2 k = 1) (ho : fo 2 k = o) : gfI 202 I R 1 k (16 * b) = some (.int (I b o)) := by
  obtain ⟨h1, h2, h3, h4, h5⟩ := st_is hb
  unfold gfI
  rw [if_neg (by decide), if_pos ⟨h1, h3, h4, by rw [h2]; exact hk⟩]
  unfold fv
  rw [h1, h0]
  show some (Value.int (I (vec (16 * b)) (fo 2 k))) = _
  rw [h5, ho]
theorem gs_8 {b : Nat} (hb : b < 13) : gfI 202 I R 1 8 (16 * b) = some (.int (I b 1)) := gs_i hb (by decide) rfl rfl
theorem gs_10 {b : Nat} (hb : b < 13) : gfI 202 I R 1 10 (16 * b) = some (.int (I b 13)) := gs_i hb (by decide) rfl rfl
theorem gs_11 {b : Nat} (hb : b < 13) : gfI 202 I R 1 11 (16 * b) = some (.int (I b 0)) := gs_i hb (by decide) rfl rfl
theorem gs_12 {b : Nat} (hb : b < 13) : gfI 202 I R 1 12 (16 * b) = some (.int (I b 8)) := gs_i hb (by decide) rfl rfl
theorem gs_13 {b : Nat} (hb : b < 13) : gfI 202 I R 1 13 (16 * b) = some (.int (I b 9)) := gs_i hb (by decide) rfl rfl
theorem gs_14 {b : Nat} (hb : b < 13) : gfI 202 I R 1 14 (16 * b) = some (.int (I b 10)) := gs_i hb (by decide) rfl rfl
theorem gs_15 {b : Nat} (hb : b < 13) : gfI 202 I R 1 15 (16 * b) = some (.int (I b 11)) := gs_i hb (by decide) rfl rfl
theorem gs_16 {b : Nat} (hb : b < 13) : gfI 202 I R 1 16 (16 * b) = some (.int (I b 12)) := gs_i hb (by decide) rfl rfl
theorem gs_9 {b : Nat} (hb : b < 13) : gfI 202 I R 1 9 (16 * b) = some (.int (pk (I b))) := by
  obtain ⟨h1, h2, h3, h4, h5⟩ := st_is hb
  unfold gfI
  rw [if_neg (by decide), if_pos ⟨h1, h3, h4, by rw [h2]; decide⟩]
  unfold fv
  rw [h1]
  show some (Value.int (pk (I (vec (16 * b))))) = _
  rw [h5]
theorem ps_i {b k o : Nat} {x : Int32} (hb : b < 13) (hk : k < 17) (h0 : fk 2 k = 1) (ho : fo 2 k = o) : pfI 202 I R 1 k (16 * b) (.int x) = some (up I b (up (I b) o x), R) := by
  obtain ⟨h1, h2, h3, h4, h5⟩ := st_is hb
  unfold pfI
  rw [if_pos ⟨h1, h3, h4, by rw [h2]; exact hk, by decide⟩, h0, h5, ho]
  rfl
theorem ps_8 {b : Nat} {x : Int32} (hb : b < 13) : pfI 202 I R 1 8 (16 * b) (.int x) = some (up I b (up (I b) 1 x), R) := ps_i hb (by decide) rfl rfl
theorem ps_10 {b : Nat} {x : Int32} (hb : b < 13) : pfI 202 I R 1 10 (16 * b) (.int x) = some (up I b (up (I b) 13 x), R) := ps_i hb (by decide) rfl rfl
theorem ps_11 {b : Nat} {x : Int32} (hb : b < 13) : pfI 202 I R 1 11 (16 * b) (.int x) = some (up I b (up (I b) 0 x), R) := ps_i hb (by decide) rfl rfl
theorem ps_12 {b : Nat} {x : Int32} (hb : b < 13) : pfI 202 I R 1 12 (16 * b) (.int x) = some (up I b (up (I b) 8 x), R) := ps_i hb (by decide) rfl rfl
theorem ps_13 {b : Nat} {x : Int32} (hb : b < 13) : pfI 202 I R 1 13 (16 * b) (.int x) = some (up I b (up (I b) 9 x), R) := ps_i hb (by decide) rfl rfl
theorem ps_14 {b : Nat} {x : Int32} (hb : b < 13) : pfI 202 I R 1 14 (16 * b) (.int x) = some (up I b (up (I b) 10 x), R) := ps_i hb (by decide) rfl rfl
theorem ps_15 {b : Nat} {x : Int32} (hb : b < 13) : pfI 202 I R 1 15 (16 * b) (.int x) = some (up I b (up (I b) 11 x), R) := ps_i hb (by decide) rfl rfl
theorem ps_16 {b : Nat} {x : Int32} (hb : b < 13) : pfI 202 I R 1 16 (16 * b) (.int x) = some (up I b (up (I b) 12 x), R) := ps_i hb (by decide) rfl rfl
theorem ps_9 {b m : Nat} (hb : b < 13) (hm : m < 1024) : pfI 202 I R 1 9 (16 * b) (.int (nI m)) = some (up I b (unpk (I b) m), R) := by
  obtain ⟨h1, h2, h3, h4, h5⟩ := st_is hb
  unfold pfI
  rw [if_pos ⟨h1, h3, h4, by rw [h2]; decide, by decide⟩, h5]
  show (if ¬ nI m < 0 ∧ (nI m).toNatClampNeg < 1024 then some (up I b (unpk (I b) (nI m).toNatClampNeg), R) else none) = _
  rw [nI_clamp (by omega), if_pos ⟨nI_pos (by omega), hm⟩]
/-- a row of levels -/
theorem lv_c {b w : Nat} (hb : b < 13) (hw : w < 6) : 8 ≤ kd (16 * b + 4) ∧ 16 * b + 4 < 1000 ∧ pos (16 * b + 4) < 202 ∧ inb (nI w) (ln (16 * b + 4)) := by
  have h1 := ds_st (b := b) (c := 4) hb (by decide)
  refine ⟨?_, by omega, pos_st hb (by decide), ?_⟩
  · unfold kd; rw [h1]; decide
  · unfold ln; rw [h1]; exact nI_inb hw (by decide)
theorem lv_v {b w : Nat} (hb : b < 13) (hw : w < 6) (h : RS R) : va_rf (R (16 * b + 4) (nI w).toNatClampNeg) = .ref (16 * b + (5 + w)) := by
  rw [nI_clamp (by omega), (h b hb).2 w hw]
  rfl
end BM
