theorem bnI_ne {I : Nat → Nat → Int32} {a v x : Nat} (h : Mad 202 a) (ho : (ow2 v x).1 ≠ a) : bnI I a v x = I v x := by
  unfold bnI
  split
  · rename_i h4
    show (if _ then _ else _) = _
    rw [if_neg]
    rintro ⟨rfl, hx⟩
    rw [Bool.or_eq_true] at hx
    rcases hx with hx | hx
    · obtain ⟨k, hk, hx⟩ := List.any_eq_true.mp hx
      simp only [Bool.and_eq_true, Bool.or_eq_true, beq_iff_eq] at hx
      obtain ⟨hf, rfl⟩ := hx
      exact ho (by rw [own_obj h h4 (List.mem_range.mp hk) (by omega) (by omega)])
    · simp only [Bool.and_eq_true, beq_iff_eq, decide_eq_true_eq] at hx
      obtain ⟨h2, hx⟩ := hx
      have hl := (adr_ok h.2).2.2.2.2
      rw [adr_pos h.1 h.2] at hl
      have hl2 := (hl h4).2
      rw [h2] at hl2
      have h9 := own_pk (k := 9) (t := x - 38) h h4 (by rw [hl2]; decide) (by rw [h2]; rfl) (by omega)
      rw [show 38 + (x - 38) = x by omega] at h9
      exact ho (by rw [h9.1])
  · rename_i h4
    split
    · rename_i h7
      show (if _ then _ else _) = _
      rw [if_neg]
      intro hx
      by_cases e1 : a = 227
      · subst e1
        rw [if_pos rfl] at hx
        refine ho ?_
        unfold ow2
        rw [if_neg (by omega), if_neg (by omega), if_neg (by omega), if_neg (by omega), if_pos ⟨hx.1, hx.2.1⟩]
      · rw [if_neg e1] at hx
        by_cases e2 : a = 228
        · subst e2
          rw [if_pos rfl] at hx
          refine ho ?_
          unfold ow2
          rw [if_neg (by omega), if_neg (by omega), if_neg (by omega), if_neg (by omega), if_neg (by omega), if_pos ⟨hx.1, hx.2.1⟩]
        · rw [if_neg e2] at hx
          have h9 := own_arr (j := x - off a) h (by omega) h7 (by omega)
          unfold vx ix at h9
          rw [if_neg e1, if_neg e2, if_neg e1, if_neg e2, ← hx.1, show off a + (x - off a) = x by omega] at h9
          exact ho (by rw [h9])
    · rfl
theorem bnI_arr {I : Nat → Nat → Int32} {a j : Nat} (h5 : 5 ≤ kd a) (h7 : kd a ≤ 7) (hj : j < ln a) : bnI I a (vx a j) (ix a j) = 0 := by
  unfold bnI
  rw [if_neg (by omega), if_pos h7]
  refine if_pos ?_
  by_cases e1 : a = 227
  · subst e1
    rw [if_pos rfl]
    have hj2 : j < 888 := hj
    show 40 ≤ 40 + j / 148 ∧ 40 + j / 148 < 46 ∧ j % 148 < 148
    omega
  · rw [if_neg e1]
    by_cases e2 : a = 228
    · subst e2
      rw [if_pos rfl]
      have hj2 : j < 296 := hj
      show 50 ≤ 50 + j / 148 ∧ 50 + j / 148 < 52 ∧ j % 148 < 148
      omega
    · rw [if_neg e2]
      unfold vx ix
      rw [if_neg e1, if_neg e2, if_neg e1, if_neg e2]
      omega
theorem bnI_fld {I : Nat → Nat → Int32} {a k : Nat} (h4 : kd a ≤ 4) (hk : k < ln a) (h : fk (kd a) k = 1 ∨ fk (kd a) k = 3) : bnI I a (vec a) (fo (kd a) k) = 0 := by
  unfold bnI
  rw [if_pos h4]
  refine if_pos ⟨rfl, ?_⟩
  rw [Bool.or_eq_true]
  left
  refine List.any_eq_true.mpr ⟨k, List.mem_range.mpr hk, ?_⟩
  simp only [Bool.and_eq_true, Bool.or_eq_true, beq_iff_eq]
  exact ⟨h, trivial⟩
theorem bnI_set {I : Nat → Nat → Int32} {a t : Nat} (h2 : kd a = 2) (ht : t < 10) : bnI I a (vec a) (38 + t) = 0 := by
  unfold bnI
  rw [if_pos (by omega)]
  refine if_pos ⟨rfl, ?_⟩
  rw [Bool.or_eq_true]
  right
  simp only [Bool.and_eq_true, beq_iff_eq, decide_eq_true_eq]
  exact ⟨h2, by omega, by omega⟩
theorem bn_fk {a k : Nat} (h : Mad 202 a) (h4 : kd a ≤ 4) (hk : k < ln a) : fk (kd a) k = 0 ∨ fk (kd a) k = 1 ∨ fk (kd a) k = 3 ∨ (fk (kd a) k = 2 ∧ kd a = 2) := by
  have h1 := adr_ok h.2
  rw [adr_pos h.1 h.2] at h1
  have hl := (h1.2.2.2.2 h4).2
  have hk1 := h1.2.2.1
  rw [hl] at hk
  generalize kd a = c at h4 hk hk1
  have key : (List.range 5).all (fun c => (List.range (([0, 5, 17, 10, 11] : List Nat).getD c 0)).all (fun k => decide (fk c k = 0 ∨ fk c k = 1 ∨ fk c k = 3 ∨ (fk c k = 2 ∧ c = 2)))) = true := by decide +kernel
  exact of_decide_eq_true (List.all_eq_true.mp (List.all_eq_true.mp key c (List.mem_range.mpr (by omega))) k (List.mem_range.mpr hk))
theorem bn_fv {I : Nat → Nat → Int32} {R : Nat → Nat → Option Nat} {a k : Nat} (h : Mad 202 a) (h4 : kd a ≤ 4) (hk : k < ln a) : fv (bnI I a) (bnR R a) a k = if fk (kd a) k = 0 then .null else .int 0 := by
  unfold fv
  rcases bn_fk h h4 hk with q | q | q | ⟨q, q2⟩
  · rw [q, if_pos rfl]
    show va_rf (bnR R a a k) = _
    unfold bnR up
    rw [if_pos rfl]
    rfl
  · rw [if_neg (by rw [q]; decide)]
    have e := bnI_fld (I := I) h4 hk (Or.inl q)
    rw [q]
    show Value.int (bnI I a (vec a) _) = _
    rw [e]
  · rw [if_neg (by rw [q]; decide)]
    have e := bnI_fld (I := I) h4 hk (Or.inr q)
    rw [q]
    show Value.int (bnI I a (vec a) _) = _
    rw [e]
  · rw [if_neg (by rw [q]; decide), q]
    show Value.int (pk (bnI I a (vec a))) = _
    have e : pk (bnI I a (vec a)) = pk (fun _ => 0) := pk_congr (fun t ht => bnI_set q2 ht)
    rw [e]
    rfl
theorem HV_push {g : Gl} {M : Mm} {I' : Nat → Nat → Int32} {R' : Nat → Nat → Option Nat} {H H1 : Heap} (hH : HV g M H) (hn : M.1 < 202) (hz : H1.size = H.size + 1) (o1 : ∀ q : Nat, q < H.size → H1[q]? = H[q]?) (hI : ∀ v x, (ow2 v x).1 ≠ adr M.1 → I' v x = M.2.1 v x) (hR : ∀ b k, b ≠ adr M.1 → R' b k = M.2.2 b k) (e1 : va_at g.2.2.1 vwCl (g.1 + M.1, ent g I' R' (adr M.1)) H1) : HV g (M.1 + 1, I', R') H1 := by
  obtain ⟨-, hs, hP, h60, h61⟩ := hH
  have hA := adr_ok hn
  have hMad : Mad 202 (adr M.1) := ⟨hA.1, by rw [hA.2.1]; exact hn⟩
  have hne : ∀ y, y = 60 ∨ y = 61 → ∀ t, (ow2 y t).1 ≠ adr M.1 := by
    intro y hy t e9
    refine Mad_ne hMad ?_
    rw [← e9]
    rcases hy with rfl | rfl <;> rfl
  refine ⟨hn, by show H1.size = g.1 + (M.1 + 1); omega, ?_, (funext fun t => hI _ _ (hne 60 (Or.inl rfl) t)).trans h60, (hI _ _ (hne 61 (Or.inr rfl) 0)).trans h61⟩
  intro k q hk
  by_cases hlt : k < M.1
  · rw [wl_get (M := (M.1 + 1, I', R')) (Nat.lt_succ_of_lt hlt)] at hk
    cases hk
    have h9 := hP k _ (wl_get (g := g) (M := M) hlt)
    have hB := adr_ok (Nat.lt_trans hlt hn)
    have hneq : adr k ≠ adr M.1 := fun q => by have := congrArg pos q; rw [hB.2.1, hA.2.1] at this; omega
    have hent : ent g I' R' (adr k) = ent g M.2.1 M.2.2 (adr k) := ent_congr ⟨hB.1, by rw [hB.2.1]; omega⟩ (fun v x q => hI v x (fun z => hneq (q ▸ z))) (fun j => hR _ j hneq)
    show va_at _ _ (g.1 + k, ent g I' R' (adr k)) H1
    rw [hent]
    exact h9.kept (o1 _ (by show g.1 + k < H.size; omega))
  · by_cases e : k = M.1
    · subst e
      rw [wl_get (M := (M.1 + 1, I', R')) (Nat.lt_succ_self _)] at hk
      cases hk
      exact e1
    · rw [List.getElem?_eq_none (by rw [wl_len]; show M.1 + 1 ≤ k; omega)] at hk
      cases hk
theorem vaS_push {A : Nat → Prop} {H0 H H1 : Heap} {locs : List Loc} (h : va_S A H0 H locs) (hz : H.size ≤ H1.size) (o1 : ∀ q : Nat, q < H.size → H1[q]? = H[q]?) : va_S A H0 H1 locs :=
  ⟨Nat.le_trans h.1 hz, fun q h1 h2 => (o1 q (Nat.lt_of_lt_of_le h1 h.1)).trans (h.2.1 q h1 h2), h.2.2⟩
theorem arf_zero {I : Nat → Nat → Int32} {a : Nat} (h5 : 5 ≤ kd a) (h7 : kd a ≤ 7) : arf (bnI I a) a = fun _ => 0 := by
  funext j
  show (if j < ln a then bnI I a (vx a j) (ix a j) else 0) = 0
  by_cases hj : j < ln a
  · rw [if_pos hj, bnI_arr h5 h7 hj]
  · rw [if_neg hj]
theorem sl_adr (n : Nat) : sl (n + 1) = sl n + ln (adr n) := rfl
theorem sl_mono {n m : Nat} (h : n ≤ m) : sl n ≤ sl m := by
  induction h with
  | refl => exact Nat.le_refl _
  | step _ ih => exact Nat.le_trans ih (Nat.le_add_right _ _)
section SND5
variable {p : Program} {l : Launch} {e : Env} {R : Room} {s : State} {m : MethodId} {args : Array Value} {below : List Frame} {meth : Method} {c : Code} {Q : State → Prop} {g : Gl} {K n0 : Nat}
variable {i : Instr} {len pc : Nat} {L : Lo} {st : List Value} {M : Mm} {H : Heap} {locs : List Loc}
theorem good_of {w : Cond} (h : (w.onTables && w.keeps) = true ∨ ∃ ty, w = .arrayClass ty) : goodWord w = true := by
  rcases h with q | ⟨t, rfl⟩
  · cases w <;> first | exact q | rfl
  · rfl
theorem snd_new (hX : FXD p R s m args meth c g K n0) (hH : HV g M H) (hS : va_S (fun q => g.1 ≤ q) s.heap H locs) (hnM : n0 ≤ M.1) (hrc : M.1 + 1 - n0 ≤ R.cells) (hrs : sl (M.1 + 1) - sl n0 ≤ R.slots) {x : Nat} {y : Nat × Nat × Nat} (d : decode (cod K) pc = .ok (.new x, 3)) (hf : nwc (ow K) x = some y) (hn : M.1 < 202) (hk : kd (adr M.1) = y.2.2 + 1)
    (k : ∀ (H1 : Heap), HV g (bn M) H1 → va_S (fun q => g.1 ≤ q) s.heap H1 locs → WW p l e R s m args below meth c Q g K n0 H1 locs (pc + 3, L, .ref (adr M.1) :: st, bn M)) : WW p l e R s m args below meth c Q g K n0 H locs (pc, L, st, M) := by
  intro hl ls hls
  obtain ⟨hx, hb, hml, hown, hts, hin, ⟨hK, hE⟩, hsz, hfr, hlo⟩ := hX
  have hm := List.mem_of_find?_eq_some hf
  have hp := List.find?_some hf
  simp only [Bool.and_eq_true, beq_iff_eq] at hp
  have hA := adr_ok hn
  have hMad : Mad 202 (adr M.1) := ⟨hA.1, by rw [hA.2.1]; exact hn⟩
  have hci : y.2.2 < 3 ∧ ∃ C N, (cn y.2.2 = C) ∧ (Cond.classLink (cn y.1) y.2.1 C).before args s = true ∧ (Cond.instantiable C N).before args s = true ∧ (Cond.initialized C).before args s = true ∧ N = ([5, 17, 10, 11] : List Nat).getD y.2.2 0 := by
    simp only [nwcL, List.mem_cons, List.not_mem_nil, or_false] at hm
    rcases hm with rfl | rfl | rfl
    · exact ⟨by decide, RX1, 17, rfl, hts _ wn_2_9.1 wn_2_9.2, hts _ wi_1.1 wi_1.2, hts _ wz_1.1 wz_1.2, rfl⟩
    · exact ⟨by decide, RX0, 5, rfl, hts _ wn_2_30.1 wn_2_30.2, hts _ wi_0.1 wi_0.2, hts _ wz_0.1 wz_0.2, rfl⟩
    · exact ⟨by decide, RX2, 10, rfl, hts _ wn_4_10.1 wn_4_10.2, hts _ wi_2.1 wi_2.2, hts _ wz_2.1 wz_2.2, rfl⟩
  obtain ⟨hy4, C, N, hC, hclink, hins, hini, hN⟩ := hci
  have h4 : kd (adr M.1) ≤ 4 := by omega
  obtain ⟨q, hq, hqn, hqc⟩ := vw_at hMad h4
  have hNl : N = ln (adr M.1) := by
    rw [hN, (hA.2.2.2.2 h4).2, hk]
    generalize y.2.2 = z at hy4
    rcases (show z = 0 ∨ z = 1 ∨ z = 2 by omega) with rfl | rfl | rfl <;> rfl
  obtain ⟨hG, ⟨ty, hty⟩, hnm⟩ := vw_ok hq
  obtain ⟨C', T, N'⟩ := q
  have hqc : C' = cn (kd (adr M.1) - 1) := hqc
  have hqn : N' = ln (adr M.1) := hqn
  have hCC : C' = C := by rw [hqc, show kd (adr M.1) - 1 = y.2.2 by omega, hC]
  subst hCC
  have hKn := hK.1 _ _ hq
  rw [hp.1, hp.2] at hclink
  show W p l e R s m args below meth c H locs (M.1 - n0) (sl M.1 - sl n0) Q (F0 m pc ls (st.map (cv g)))
  refine W.newcK hx hb hown hclink hins hini rfl d (by omega) (by rw [sl_adr] at hrs; have := sl_mono hnM; omega) hKn.2.1 rfl fun H1 kC hkC e1 z1 o1 => ?_
  have hts2 : ∀ w ∈ u_ws C' T N', w.before args s = true := fun w h => hts w (hG w h).1 (good_of (hG w h).2)
  have hborn := u_born ty hts2 (fun _ h => h) hKn hkC e1 hty
  have hHV : HV g (bn M) H1 := by
    refine HV_push hH hn z1 o1 (fun v x ho => bnI_ne hMad ho) (fun b j hb => by show bnR M.2.2 (adr M.1) b j = _; unfold bnR up; rw [if_neg hb]) ?_
    rw [ent_ob h4]
    refine ⟨_, hq, ?_⟩
    show t_OB (g.1 + M.1) _ N' _ H1 _
    rw [← hH.2.1]
    refine hborn.to (fun j hj => ?_)
    have hjl : j < ln (adr M.1) := by rw [← hqn]; exact hj
    show defaultValue (ty j) = vp_V (obf g (bnI M.2.1 (adr M.1)) (bnR M.2.2 (adr M.1)) (adr M.1)) j
    unfold vp_V obf
    rw [List.getD_eq_getElem?_getD, List.getElem?_map, List.getElem?_range hjl]
    show defaultValue (ty j) = cv g (fv _ _ _ j)
    rw [bn_fv hMad h4 hjl]
    have h1 := List.all_eq_true.mp chkT_ok (kd (adr M.1) - 1) (List.mem_range.mpr (by omega))
    unfold chkT at h1
    rw [hq] at h1
    have h2 := List.all_eq_true.mp h1 j (List.mem_range.mpr hj)
    rw [hty j hj, show kd (adr M.1) - 1 + 1 = kd (adr M.1) by omega] at h2
    rcases bn_fk hMad h4 hjl with q | q | q | ⟨q, -⟩
    · rw [q] at h2
      rw [if_pos q]
      have h3 : (ty j).isReference = true := h2
      generalize ty j = z at h3
      cases z <;> first | (cases h3; done) | rfl
    · rw [q] at h2
      rw [if_neg (by rw [q]; decide)]
      have h3 : ty j = .int := of_decide_eq_true h2
      rw [h3]; rfl
    · rw [q] at h2
      rw [if_neg (by rw [q]; decide)]
      have h3 : ty j = .char := of_decide_eq_true h2
      rw [h3]; rfl
    · rw [q] at h2
      rw [if_neg (by rw [q]; decide)]
      have h3 : ty j = .int := of_decide_eq_true h2
      rw [h3]; rfl
  have k1 := k H1 hHV (vaS_push hS (by omega) o1) hl ls hls
  have e2 : cv g (.ref (adr M.1)) = .ref H.size := by show Value.ref (ad g (adr M.1)) = _; rw [ad_own hA.1, hA.2.1, hH.2.1]
  have e3 : (bn M).1 - n0 = M.1 - n0 + 1 := by show M.1 + 1 - n0 = _; omega
  have e4 : sl (bn M).1 - sl n0 = sl M.1 - sl n0 + N := by show sl (M.1 + 1) - sl n0 = _; rw [sl_adr, hNl]; have := sl_mono hnM; omega
  have k2 : W p l e R s m args below meth c H1 locs ((bn M).1 - n0) (sl (bn M).1 - sl n0) Q (F0 m (pc + 3) ls (cv g (.ref (adr M.1)) :: st.map (cv g))) := k1
  rw [e2, e3, e4] at k2
  exact k2
theorem snd_newa (hX : FXD p R s m args meth c g K n0) (hH : HV g M H) (hS : va_S (fun q => g.1 ≤ q) s.heap H locs) (hnM : n0 ≤ M.1) (hrc : M.1 + 1 - n0 ≤ R.cells) (hrs : sl (M.1 + 1) - sl n0 ≤ R.slots) {t : ArrayType} {w : Int32} (d : decode (cod K) pc = .ok (.newarray t, 2)) (hn : M.1 < 202) (hk : kd (adr M.1) = (if newarray.typeOf t = .int then 5 else if newarray.typeOf t = .char then 6 else if newarray.typeOf t = .boolean then 7 else 99)) (hw : ¬ w < 0) (hwl : w.toNatClampNeg = ln (adr M.1))
    (k : ∀ (H1 : Heap), HV g (bn M) H1 → va_S (fun q => g.1 ≤ q) s.heap H1 locs → WW p l e R s m args below meth c Q g K n0 H1 locs (pc + 2, L, .ref (adr M.1) :: st, bn M)) : WW p l e R s m args below meth c Q g K n0 H locs (pc, L, .int w :: st, M) := by
  intro hl ls hls
  obtain ⟨hx, hb, hml, hown, hts, hin, ⟨hK, hE⟩, hsz, hfr, hlo⟩ := hX
  have hA := adr_ok hn
  have hMad : Mad 202 (adr M.1) := ⟨hA.1, by rw [hA.2.1]; exact hn⟩
  have h9 := hA.2.2.2.1
  have htt : (newarray.typeOf t = .int ∧ kd (adr M.1) = 5) ∨ (newarray.typeOf t = .char ∧ kd (adr M.1) = 6) ∨ (newarray.typeOf t = .boolean ∧ kd (adr M.1) = 7) := by
    by_cases e1 : newarray.typeOf t = .int
    · rw [if_pos e1] at hk; exact Or.inl ⟨e1, hk⟩
    · rw [if_neg e1] at hk
      by_cases e2 : newarray.typeOf t = .char
      · rw [if_pos e2] at hk; exact Or.inr (Or.inl ⟨e2, hk⟩)
      · rw [if_neg e2] at hk
        by_cases e3 : newarray.typeOf t = .boolean
        · rw [if_pos e3] at hk; exact Or.inr (Or.inr ⟨e3, hk⟩)
        · rw [if_neg e3] at hk; omega
  have h5 : 5 ≤ kd (adr M.1) := by rcases htt with ⟨-, q⟩ | ⟨-, q⟩ | ⟨-, q⟩ <;> omega
  have h7 : kd (adr M.1) ≤ 7 := by rcases htt with ⟨-, q⟩ | ⟨-, q⟩ | ⟨-, q⟩ <;> omega
  have harT : arT (kd (adr M.1)) = newarray.typeOf t := by rcases htt with ⟨e1, q⟩ | ⟨e1, q⟩ | ⟨e1, q⟩ <;> rw [e1, q] <;> rfl
  have hac : (Cond.arrayClass (newarray.typeOf t)).before args s = true := by
    rcases htt with ⟨e1, -⟩ | ⟨e1, -⟩ | ⟨e1, -⟩ <;> rw [e1]
    · exact hts _ wy_int.1 wy_int.2
    · exact hts _ wy_char.1 wy_char.2
    · exact hts _ wy_boolean.1 wy_boolean.2
  have hln : ln (adr M.1) ≤ 888 := by
    have key : (List.range 202).all (fun i => decide (ln (adr i) ≤ 888)) = true := by decide +kernel
    exact of_decide_eq_true (List.all_eq_true.mp key M.1 (List.mem_range.mpr hn))
  have hby : ln (adr M.1) * componentBytes (newarray.typeOf t) ≤ 536870912 := by
    have : componentBytes (newarray.typeOf t) ≤ 4 := by rcases htt with ⟨e1, -⟩ | ⟨e1, -⟩ | ⟨e1, -⟩ <;> rw [e1] <;> decide
    calc ln (adr M.1) * componentBytes (newarray.typeOf t) ≤ 888 * 4 := Nat.mul_le_mul hln this
      _ ≤ 536870912 := by decide
  show W p l e R s m args below meth c H locs (M.1 - n0) (sl M.1 - sl n0) Q (F0 m pc ls (.int w :: st.map (cv g)))
  refine va_newaK hx hb hac rfl d rfl hw hwl hby (by omega) (by rw [sl_adr] at hrs; have := sl_mono hnM; omega) rfl fun H1 cA e1 z1 o1 hAr hNm => ?_
  have hty := tys_at (g := g) h5 h9
  rw [harT] at hty
  have hcA : cA = g.2.2.2.1 (kd (adr M.1)) := by
    have h1 := (hK.2 _ _ hty).2
    rcases htt with ⟨q, -⟩ | ⟨q, -⟩ | ⟨q, -⟩ <;>
    · rw [q] at h1 hNm
      have h2 : s.vm.findClass ("[" ++ _) = some (g.2.2.2.1 (kd (adr M.1))) := h1
      exact Option.some.inj (hNm.symm.trans h2)
  have hHV : HV g (bn M) H1 := by
    refine HV_push hH hn z1 o1 (fun v x ho => bnI_ne hMad ho) (fun b j hb => by show bnR M.2.2 (adr M.1) b j = _; unfold bnR up; rw [if_neg hb]) ?_
    rw [ent_ar h5 h7, arf_zero h5 h7]
    show H1[g.1 + M.1]? = some (vp_cell _ _)
    rw [← hH.2.1, e1, vp_cell_i, hcA]
    have : defaultValue (newarray.typeOf t) = .int 0 := by rcases htt with ⟨q, -⟩ | ⟨q, -⟩ | ⟨q, -⟩ <;> rw [q] <;> rfl
    rw [this]
  have k1 := k H1 hHV (vaS_push hS (by omega) o1) hl ls hls
  have e2 : cv g (.ref (adr M.1)) = .ref H.size := by show Value.ref (ad g (adr M.1)) = _; rw [ad_own hA.1, hA.2.1, hH.2.1]
  have e3 : (bn M).1 - n0 = M.1 - n0 + 1 := by show M.1 + 1 - n0 = _; omega
  have e4 : sl (bn M).1 - sl n0 = sl M.1 - sl n0 + ln (adr M.1) := by show sl (M.1 + 1) - sl n0 = _; rw [sl_adr]; have := sl_mono hnM; omega
  have k2 : W p l e R s m args below meth c H1 locs ((bn M).1 - n0) (sl (bn M).1 - sl n0) Q (F0 m (pc + 2) ls (cv g (.ref (adr M.1)) :: st.map (cv g))) := k1
  rw [e2, e3, e4] at k2
  exact k2
theorem rrf_none {R0 : Nat → Nat → Option Nat} {a : Nat} : rrf g (bnR R0 a) a = fun _ => none := by
  funext j
  show (if j < ln a then (bnR R0 a a j).map (ad g) else none) = none
  unfold bnR up
  rw [if_pos rfl]
  split <;> rfl
theorem snd_anew (hX : FXD p R s m args meth c g K n0) (hH : HV g M H) (hS : va_S (fun q => g.1 ≤ q) s.heap H locs) (hnM : n0 ≤ M.1) (hrc : M.1 + 1 - n0 ≤ R.cells) (hrs : sl (M.1 + 1) - sl n0 ≤ R.slots) {x : Nat} {w : Int32} (d : decode (cod K) pc = .ok (.anewarray x, 3)) (hx1 : anw (ow K) x = true) (hn : M.1 < 202) (hk : kd (adr M.1) = 8) (hw : ¬ w < 0) (hwl : w.toNatClampNeg = ln (adr M.1))
    (k : ∀ (H1 : Heap), HV g (bn M) H1 → va_S (fun q => g.1 ≤ q) s.heap H1 locs → WW p l e R s m args below meth c Q g K n0 H1 locs (pc + 3, L, .ref (adr M.1) :: st, bn M)) : WW p l e R s m args below meth c Q g K n0 H locs (pc, L, .int w :: st, M) := by
  intro hl ls hls
  obtain ⟨hx, hb, hml, hown, hts, hin, ⟨hK, hE⟩, hsz, hfr, hlo⟩ := hX
  have hA := adr_ok hn
  have hMad : Mad 202 (adr M.1) := ⟨hA.1, by rw [hA.2.1]; exact hn⟩
  unfold anw at hx1
  simp only [Bool.and_eq_true, beq_iff_eq] at hx1
  obtain ⟨ho, rfl⟩ := hx1
  rw [ho] at hown
  have hln : ln (adr M.1) ≤ 888 := by
    have key : (List.range 202).all (fun i => decide (ln (adr i) ≤ 888)) = true := by decide +kernel
    exact of_decide_eq_true (List.all_eq_true.mp key M.1 (List.mem_range.mpr hn))
  show W p l e R s m args below meth c H locs (M.1 - n0) (sl M.1 - sl n0) Q (F0 m pc ls (.int w :: st.map (cv g)))
  refine W.anew (C := RX1) hx hb hown (hts _ wq_link.1 wq_link.2) (va_AO.use hE.2.2.2.2.2.2.2.2.1) rfl d rfl hw (by rw [hwl]; omega) (by omega) (by rw [hwl]; rw [sl_adr] at hrs; have := sl_mono hnM; omega) fun cA kA comp f1 f2 f3 f4 => ?_
  generalize hH1 : H.push ({ cls := cA, slots := Array.replicate w.toNatClampNeg .null, vm := .none } : Cell) = H1
  have z1 : H1.size = H.size + 1 := by rw [← hH1, Array.size_push]
  have e1 : H1[H.size]? = some (arrV cA w.toNatClampNeg (fun _ => .null)) := by rw [← hH1, Array.getElem?_push_size, ← arrV_new]
  have o1 : ∀ q : Nat, q < H.size → H1[q]? = H[q]? := fun q hq => by rw [← hH1, Array.getElem?_push, if_neg (Nat.ne_of_lt hq)]
  have hty := tys_at (g := g) (a := adr M.1) (by omega) (by omega)
  rw [show arT (kd (adr M.1)) = .object RX1 by rw [hk]; rfl] at hty
  have hcA : cA = g.2.2.2.1 (kd (adr M.1)) := by
    obtain ⟨_, _, -, -, -, h4⟩ := (hK.2 _ _ hty).2
    exact Option.some.inj (f1.symm.trans h4)
  have hHV : HV g (bn M) H1 := by
    refine HV_push hH hn z1 o1 (fun v x ho => bnI_ne hMad ho) (fun b j hb => by show bnR M.2.2 (adr M.1) b j = _; unfold bnR up; rw [if_neg hb]) ?_
    rw [ent_rr (by omega), rrf_none]
    show H1[g.1 + M.1]? = some (vp_cell _ _)
    rw [← hH.2.1, e1, vp_cell_q, hcA, hwl]
    rfl
  have k1 := k H1 hHV (vaS_push hS (by omega) o1) hl ls hls
  have e2 : cv g (.ref (adr M.1)) = .ref H.size := by show Value.ref (ad g (adr M.1)) = _; rw [ad_own hA.1, hA.2.1, hH.2.1]
  have e3 : (bn M).1 - n0 = M.1 - n0 + 1 := by show M.1 + 1 - n0 = _; omega
  have e4 : sl (bn M).1 - sl n0 = sl M.1 - sl n0 + w.toNatClampNeg := by show sl (M.1 + 1) - sl n0 = _; rw [sl_adr, hwl]; have := sl_mono hnM; omega
  have k2 : W p l e R s m args below meth c H1 locs ((bn M).1 - n0) (sl (bn M).1 - sl n0) Q (F0 m (pc + 3) ls (cv g (.ref (adr M.1)) :: st.map (cv g))) := k1
  rw [e2, e3, e4] at k2
  exact k2
theorem snd_gets (hX : FXD p R s m args meth c g K n0) (hS : va_S (fun q => g.1 ≤ q) s.heap H locs) {x : Nat} {y : Nat × Nat × Nat × Nat} (d : decode (cod K) pc = .ok (.getstatic x, 3)) (hf : gst (ow K) x = some y)
    (k : WW p l e R s m args below meth c Q g K n0 H locs (pc + 3, L, gsv y.2.2.1 :: st, M)) : WW p l e R s m args below meth c Q g K n0 H locs (pc, L, st, M) := by
  intro hl ls hls
  have k1 := k hl ls hls
  obtain ⟨hx, hb, hml, hown, hts, hin, ⟨hK, hE⟩, hsz, hfr, hlo⟩ := hX
  have hm := List.mem_of_find?_eq_some hf
  have hp := List.find?_some hf
  simp only [Bool.and_eq_true, beq_iff_eq] at hp
  obtain ⟨hp1, hp2⟩ := hp
  subst hp2
  rw [← hp1] at hown
  simp only [gstL, List.mem_cons, List.not_mem_nil, or_false] at hm
  have hZ := hE.2.2.2.1
  have hN := hE.2.2.2.2.2.2.2.1
  rcases hm with rfl | rfl | rfl
  · exact va_getsN hx hb hZ.1 hS hown (va_Nw.use rfl hN.2.2.2.1) (fun _ q => q) d k1
  · exact va_getsN hx hb hZ.2.1 hS hown (va_Nw.use rfl hN.2.2.2.2.1) (fun _ q => q) d k1
  · exact va_getsN hx hb hZ.2.2 hS hown (va_Nw.use rfl hN.2.2.2.2.2) (fun _ q => q) d k1
theorem snd_ldc (hX : FXD p R s m args meth c g K n0) {x : Nat} {y : Nat × Nat × Value} (d : decode (cod K) pc = .ok (.ldc x, 2)) (hf : kon (ow K) x = some y)
    (k : WW p l e R s m args below meth c Q g K n0 H locs (pc + 2, L, y.2.2 :: st, M)) : WW p l e R s m args below meth c Q g K n0 H locs (pc, L, st, M) := by
  intro hl ls hls
  have k1 := k hl ls hls
  obtain ⟨hx, hb, hml, hown, hts, hin, ⟨hK, hE⟩, hsz, hfr, hlo⟩ := hX
  have hm := List.mem_of_find?_eq_some hf
  have hp := List.find?_some hf
  simp only [Bool.and_eq_true, beq_iff_eq] at hp
  obtain ⟨hp1, hp2⟩ := hp
  subst hp2
  rw [← hp1] at hown
  simp only [konL, List.mem_cons, List.not_mem_nil, or_false] at hm
  rcases hm with rfl | rfl | rfl | rfl | rfl | rfl | rfl
  · exact lv_ldc hx hb hown (hts _ wk_4_7.1 wk_4_7.2) d k1
  · exact lv_ldcf hx hb hown (hts _ wk_2_224.1 wk_2_224.2) d k1
  · exact lv_ldc hx hb hown (hts _ wk_2_225.1 wk_2_225.2) d k1
  · exact lv_ldc hx hb hown (hts _ wk_4_8.1 wk_4_8.2) d k1
  · exact lv_ldc hx hb hown (hts _ wk_6_265.1 wk_6_265.2) d k1
  · exact lv_ldc hx hb hown (hts _ wk_6_266.1 wk_6_266.2) d k1
  · exact lv_ldc hx hb hown (hts _ wk_6_267.1 wk_6_267.2) d k1
theorem snd_ldcw (hX : FXD p R s m args meth c g K n0) {x o1 i1 : Nat} {v : Int32} (d : decode (cod K) pc = .ok (.ldc_w x, 3)) (hf : kon (ow K) x = some (o1, i1, .int v))
    (k : WW p l e R s m args below meth c Q g K n0 H locs (pc + 3, L, .int v :: st, M)) : WW p l e R s m args below meth c Q g K n0 H locs (pc, L, st, M) := by
  intro hl ls hls
  have k1 := k hl ls hls
  obtain ⟨hx, hb, hml, hown, hts, hin, ⟨hK, hE⟩, hsz, hfr, hlo⟩ := hX
  have hm := List.mem_of_find?_eq_some hf
  have hp := List.find?_some hf
  simp only [Bool.and_eq_true, beq_iff_eq] at hp
  obtain ⟨hp1, hp2⟩ := hp
  subst hp2
  rw [← hp1] at hown
  simp only [konL, List.mem_cons, List.not_mem_nil, or_false, Prod.mk.injEq, Value.int.injEq, reduceCtorEq, and_false, false_or] at hm
  rcases hm with ⟨rfl, rfl, rfl⟩ | ⟨rfl, rfl, rfl⟩ | ⟨rfl, rfl, rfl⟩ | ⟨rfl, rfl, rfl⟩ | ⟨rfl, rfl, rfl⟩ | ⟨rfl, rfl, rfl⟩
  · exact lv_ldcw hx hb hown (hts _ wk_4_7.1 wk_4_7.2) d k1
  · exact lv_ldcw hx hb hown (hts _ wk_2_225.1 wk_2_225.2) d k1
  · exact lv_ldcw hx hb hown (hts _ wk_4_8.1 wk_4_8.2) d k1
  · exact lv_ldcw hx hb hown (hts _ wk_6_265.1 wk_6_265.2) d k1
  · exact lv_ldcw hx hb hown (hts _ wk_6_266.1 wk_6_266.2) d k1
  · exact lv_ldcw hx hb hown (hts _ wk_6_267.1 wk_6_267.2) d k1
theorem snd_ldc2 (hX : FXD p R s m args meth c g K n0) {x : Nat} {y : Nat × Nat × Value} (d : decode (cod K) pc = .ok (.ldc2_w x, 3)) (hf : ko2 (ow K) x = some y)
    (k : WW p l e R s m args below meth c Q g K n0 H locs (pc + 3, L, y.2.2 :: st, M)) : WW p l e R s m args below meth c Q g K n0 H locs (pc, L, st, M) := by
  intro hl ls hls
  have k1 := k hl ls hls
  obtain ⟨hx, hb, hml, hown, hts, hin, ⟨hK, hE⟩, hsz, hfr, hlo⟩ := hX
  have hm := List.mem_of_find?_eq_some hf
  have hp := List.find?_some hf
  simp only [Bool.and_eq_true, beq_iff_eq] at hp
  obtain ⟨hp1, hp2⟩ := hp
  subst hp2
  rw [← hp1] at hown
  simp only [ko2L, List.mem_cons, List.not_mem_nil, or_false] at hm
  rcases hm with rfl | rfl | rfl | rfl
  · exact lv_ldc2 hx hb hown (hts _ wk_2_181.1 wk_2_181.2) d k1
  · exact lv_ldc2d hx hb hown (hts _ wk_2_226.1 wk_2_226.2) d k1
  · exact lv_ldc2d hx hb hown (hts _ wk_2_228.1 wk_2_228.2) d k1
  · exact lv_ldc2 hx hb hown (hts _ wk_2_230.1 wk_2_230.2) d k1
end SND5
