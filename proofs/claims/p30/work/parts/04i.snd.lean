section SND8
variable {p : Program} {l : Launch} {e : Env} {R : Room} {s : State} {m : MethodId} {args : Array Value} {below : List Frame} {meth : Method} {c : Code} {Q : State → Prop} {g : Gl} {K n0 : Nat}
variable {i : Instr} {len pc : Nat} {L : Lo} {st : List Value} {M M' : Mm} {H : Heap} {locs : List Loc}
theorem bnR_ne {R0 : Nat → Nat → Option Nat} {a b k : Nat} (h : b ≠ a) : bnR R0 a b k = R0 b k := by
  unfold bnR up
  rw [if_neg h]
theorem bnI_9 {I : Nat → Nat → Int32} {a : Nat} (h : 8 ≤ kd a) : bnI I a = I := by
  unfold bnI
  rw [if_neg (by omega), if_neg (by omega)]
theorem snd_mna (hX : FXD p R s m args meth c g K n0) (hH : HV g M H) (hS : va_S (fun q => g.1 ≤ q) s.heap H locs) (hnM : n0 ≤ M.1) (hrc : M.1 + 7 - n0 ≤ R.cells) (hrs : sl (M.1 + 7) - sl n0 ≤ R.slots) {x : Nat} (d : decode (cod K) pc = .ok (.multianewarray x 2, 4)) (hx1 : mna (ow K) x = true) (hn : M.1 + 7 ≤ 202) (hk : kd (adr M.1) = 9) (h208 : adr M.1 + 6 < 208) (hadr : (List.range 6).all (fun j => adr (M.1 + 1 + j) == adr M.1 + 1 + j) = true) {I' : Nat → Nat → Int32} {R' : Nat → Nat → Option Nat} (hI' : I' = (bn (bn (bn (bn (bn (bn (bn M))))))).2.1) (hR' : R' = up (bn (bn (bn (bn (bn (bn (bn M))))))).2.2 (adr M.1) (fun j => if j < 6 then some (adr M.1 + 1 + j) else none))
    (k : ∀ (H1 : Heap), HV g (M.1 + 7, I', R') H1 → va_S (fun q => g.1 ≤ q) s.heap H1 locs → WW p l e R s m args below meth c Q g K n0 H1 locs (pc + 4, L, .ref (adr M.1) :: st, (M.1 + 7, I', R'))) : WW p l e R s m args below meth c Q g K n0 H locs (pc, L, .int 10 :: .int 6 :: st, M) := by
  intro hl ls hls
  obtain ⟨hx, hb, hml, hown, hts, hin, ⟨hK, hE⟩, hsz, hfr, hlo⟩ := hX
  have hA := adr_ok (i := M.1) (by omega)
  have hMad : Mad 202 (adr M.1) := ⟨hA.1, by rw [hA.2.1]; omega⟩
  have had : ∀ j, j < 6 → adr (M.1 + 1 + j) = adr M.1 + 1 + j := fun j hj => by
    have := List.all_eq_true.mp hadr j (List.mem_range.mpr hj)
    simpa using this
  have hkin : ∀ j, j < 6 → kd (adr (M.1 + 1 + j)) = 5 ∧ ln (adr (M.1 + 1 + j)) = 10 := by
    have key : (List.range 196).all (fun n => (List.range 6).all (fun j => decide (kd (adr n) = 9 ∧ adr (n + 1 + j) = adr n + 1 + j → kd (adr (n + 1 + j)) = 5 ∧ ln (adr (n + 1 + j)) = 10))) = true := by decide +kernel
    exact fun j hj => of_decide_eq_true (List.all_eq_true.mp (List.all_eq_true.mp key M.1 (List.mem_range.mpr (by omega))) j (List.mem_range.mpr hj)) ⟨hk, had j hj⟩
  have hl6 : ln (adr M.1) = 6 := by
    have key : (List.range 202).all (fun n => decide (kd (adr n) = 9 → ln (adr n) = 6)) = true := by decide +kernel
    exact of_decide_eq_true (List.all_eq_true.mp key M.1 (List.mem_range.mpr (by omega))) hk
  unfold mna at hx1
  simp only [Bool.and_eq_true, beq_iff_eq] at hx1
  obtain ⟨ho, rfl⟩ := hx1
  rw [ho] at hown
  have hsl7 : sl (M.1 + 7) = sl M.1 + 66 := by
    rw [show M.1 + 7 = M.1 + 6 + 1 by omega, sl_adr, sl_adr, sl_adr, sl_adr, sl_adr, sl_adr, sl_adr, hl6]
    have e0 := (hkin 0 (by omega)).2
    have e1 := (hkin 1 (by omega)).2
    have e2 := (hkin 2 (by omega)).2
    have e3 := (hkin 3 (by omega)).2
    have e4 := (hkin 4 (by omega)).2
    have e5 := (hkin 5 (by omega)).2
    rw [show M.1 + 6 = M.1 + 1 + 5 by omega, e5, show M.1 + 5 = M.1 + 1 + 4 by omega, e4, show M.1 + 4 = M.1 + 1 + 3 by omega, e3, show M.1 + 3 = M.1 + 1 + 2 by omega, e2, show M.1 + 2 = M.1 + 1 + 1 by omega, e1, show M.1 + 1 = M.1 + 1 + 0 by omega, e0]
  have hsm := sl_mono hnM
  show W p l e R s m args below meth c H locs (M.1 - n0) (sl M.1 - sl n0) Q (F0 m pc ls (.int 10 :: .int 6 :: st.map (cv g)))
  intro T hT Xs
  obtain ⟨vm₁, cA, comp, -, fA, fC, hO, hInn, X', step⟩ := Stand.multianewarray2F Xs (ty := .int) hx hown (hts _ wm_link.1 wm_link.2) (aoa_use hE.2.2.2.2.2.2.2.2.2) (hts _ wy_int.1 wy_int.2) (g := F0 m pc ls (.int 10 :: .int 6 :: st.map (cv g))) rfl (by rw [hb]; exact d) rfl (n := 6) (k := 10) (by decide) (by decide) (by decide) (by decide) (by decide) rfl rfl (by show _ + (1 + 6) ≤ _; omega) (by show _ + (6 + 6 * 10) ≤ _; omega)
  have hty9 := tys_at (g := g) (a := adr M.1) (by omega) (by omega)
  rw [hk] at hty9
  have hcA : cA = g.2.2.2.1 9 := by
    have h1 : s.vm.findClass ("[" ++ (FieldType.array .int).toString) = some (g.2.2.2.1 9) := (hK.2 _ _ hty9).2
    exact Option.some.inj (fA.symm.trans h1)
  have hcC : comp = g.2.2.2.1 5 := by
    have h1 : s.vm.findClass ("[" ++ FieldType.int.toString) = some (g.2.2.2.1 5) := (hK.2 0 _ rfl).2
    have h2 : s.vm.findClass (FieldType.array .int).toString = some comp := fC
    exact Option.some.inj (h2.symm.trans h1)
  subst hcA
  subst hcC
  generalize hF : Jvm.Free.Multi.fill (T.setVm vm₁) (g.2.2.2.1 9) (g.2.2.2.1 5) (6 : Int32).toNatClampNeg (10 : Int32).toNatClampNeg (defaultValue .int) (6 : Int32).toNatClampNeg = F at X' step
  have hTh : (T.setVm vm₁).heap = H := hT
  obtain ⟨f1, f2, -, -⟩ := Jvm.Free.Multi.fill_facts (T.setVm vm₁) (g.2.2.2.1 9) (g.2.2.2.1 5) (6 : Int32).toNatClampNeg (10 : Int32).toNatClampNeg (defaultValue .int) (6 : Int32).toNatClampNeg
  rw [hF, hTh] at f1 f2
  have hold : ∀ x : Nat, x < H.size → F.heap[x]? = H[x]? := fun x hx => by
    have := Jvm.Free.Multi.fill_old (T.setVm vm₁) (g.2.2.2.1 9) (g.2.2.2.1 5) (6 : Int32).toNatClampNeg (10 : Int32).toNatClampNeg (defaultValue .int) (a := x) (by rw [hTh]; exact hx) (6 : Int32).toNatClampNeg
    rw [hF, hTh] at this
    exact this
  have hrow : ∀ j : Nat, j < 6 → F.heap[H.size + 1 + j]? = some (arrV (g.2.2.2.1 5) 10 (fun _ => .int 0)) := fun j hj => by
    have := Jvm.Free.Multi.fill_inner (T.setVm vm₁) (g.2.2.2.1 9) (g.2.2.2.1 5) (6 : Int32).toNatClampNeg (10 : Int32).toNatClampNeg (defaultValue .int) (6 : Int32).toNatClampNeg j hj
    rw [hF, hTh] at this
    rw [this, ← arrV_new]
    rfl
  have hsz1 : F.heap.size = H.size + 7 := by rw [f1]; show H.size + 1 + 6 = _; omega
  have houter : Jvm.Free.Multi.outerC (g.2.2.2.1 9) 6 H.size 6 = arrV (g.2.2.2.1 9) 6 (fun j => va_rf (if j < 6 then some (H.size + 1 + j) else none)) := by
    have key : ∀ i : Nat, Jvm.Free.Multi.outerC (g.2.2.2.1 9) 6 H.size i = arrV (g.2.2.2.1 9) 6 (fun j => va_rf (if j < i then some (H.size + 1 + j) else none)) := by
      intro i
      induction i with
      | zero =>
        show ({ cls := g.2.2.2.1 9, slots := Array.replicate 6 .null, vm := .none } : Cell) = _
        rw [arrV_new]
        refine congrArg (arrV _ 6) (funext fun j => ?_)
        simp [va_rf]
      | succ i ih =>
        show (Jvm.Free.Multi.outerC (g.2.2.2.1 9) 6 H.size i).setSlot i (.ref (H.size + 1 + i)) = _
        rw [ih, arrV_store]
        refine congrArg (arrV _ 6) (funext fun j => ?_)
        by_cases e : j = i
        · subst e
          simp [updV, va_rf]
        · by_cases h : j < i
          · simp [updV, e, h, Nat.lt_succ_of_lt h]
          · simp [updV, e, h, show ¬ j < i + 1 by omega]
    exact key 6
  -- the numbers and references of the seven cells
  have hne : ∀ j, j < 6 → ∀ j', j' < 6 → j ≠ j' → adr (M.1 + 1 + j) ≠ adr (M.1 + 1 + j') := fun j hj j' hj' h => by rw [had j hj, had j' hj']; omega
  have hMj : ∀ j, j < 6 → Mad 202 (adr (M.1 + 1 + j)) := fun j hj => by
    have := adr_ok (i := M.1 + 1 + j) (by omega)
    exact ⟨this.1, by rw [this.2.1]; omega⟩
  have hI7 : I' = bnI (bnI (bnI (bnI (bnI (bnI (bnI M.2.1 (adr M.1)) (adr (M.1 + 1 + 0))) (adr (M.1 + 1 + 1))) (adr (M.1 + 1 + 2))) (adr (M.1 + 1 + 3))) (adr (M.1 + 1 + 4))) (adr (M.1 + 1 + 5)) := hI'
  have hIout : ∀ v y, (∀ j, j < 6 → (ow2 v y).1 ≠ adr (M.1 + 1 + j)) → (ow2 v y).1 ≠ adr M.1 → I' v y = M.2.1 v y := by
    intro v y h1 h2
    rw [hI7, bnI_ne (hMj 5 (by omega)) (h1 5 (by omega)), bnI_ne (hMj 4 (by omega)) (h1 4 (by omega)), bnI_ne (hMj 3 (by omega)) (h1 3 (by omega)), bnI_ne (hMj 2 (by omega)) (h1 2 (by omega)), bnI_ne (hMj 1 (by omega)) (h1 1 (by omega)), bnI_ne (hMj 0 (by omega)) (h1 0 (by omega)), bnI_ne hMad h2]
  have hIin : ∀ j, j < 6 → ∀ t, t < 10 → I' (vx (adr (M.1 + 1 + j)) t) (ix (adr (M.1 + 1 + j)) t) = 0 := by
    intro j hj t ht
    have hkj := hkin j hj
    have ho := own_arr (hMj j hj) (j := t) (by omega) (by omega) (by omega)
    have z : ∀ I0 : Nat → Nat → Int32, bnI I0 (adr (M.1 + 1 + j)) (vx (adr (M.1 + 1 + j)) t) (ix (adr (M.1 + 1 + j)) t) = 0 := fun I0 => bnI_arr (by omega) (by omega) (by omega)
    have nx : ∀ (I0 : Nat → Nat → Int32) (j' : Nat), j' < 6 → j' ≠ j → bnI I0 (adr (M.1 + 1 + j')) (vx (adr (M.1 + 1 + j)) t) (ix (adr (M.1 + 1 + j)) t) = I0 (vx (adr (M.1 + 1 + j)) t) (ix (adr (M.1 + 1 + j)) t) := fun I0 j' hj' hjj => bnI_ne (hMj j' hj') (by rw [ho]; exact hne j hj j' hj' (Ne.symm hjj))
    rw [hI7]
    rcases (show j = 0 ∨ j = 1 ∨ j = 2 ∨ j = 3 ∨ j = 4 ∨ j = 5 by omega) with rfl | rfl | rfl | rfl | rfl | rfl
    · rw [nx _ 5 (by omega) (by omega), nx _ 4 (by omega) (by omega), nx _ 3 (by omega) (by omega), nx _ 2 (by omega) (by omega), nx _ 1 (by omega) (by omega), z]
    · rw [nx _ 5 (by omega) (by omega), nx _ 4 (by omega) (by omega), nx _ 3 (by omega) (by omega), nx _ 2 (by omega) (by omega), z]
    · rw [nx _ 5 (by omega) (by omega), nx _ 4 (by omega) (by omega), nx _ 3 (by omega) (by omega), z]
    · rw [nx _ 5 (by omega) (by omega), nx _ 4 (by omega) (by omega), z]
    · rw [nx _ 5 (by omega) (by omega), z]
    · rw [z]
  have hRout : ∀ b t, b ≠ adr M.1 → (∀ j, j < 6 → b ≠ adr (M.1 + 1 + j)) → R' b t = M.2.2 b t := by
    intro b t h1 h2
    rw [hR']
    unfold up
    rw [if_neg h1]
    show bnR (bnR (bnR (bnR (bnR (bnR (bnR M.2.2 (adr M.1)) (adr (M.1 + 1 + 0))) (adr (M.1 + 1 + 1))) (adr (M.1 + 1 + 2))) (adr (M.1 + 1 + 3))) (adr (M.1 + 1 + 4))) (adr (M.1 + 1 + 5)) b t = _
    rw [bnR_ne (h2 5 (by omega)), bnR_ne (h2 4 (by omega)), bnR_ne (h2 3 (by omega)), bnR_ne (h2 2 (by omega)), bnR_ne (h2 1 (by omega)), bnR_ne (h2 0 (by omega)), bnR_ne h1]
  have hne9 : ∀ y, y = 60 ∨ y = 61 → ∀ t, I' y t = M.2.1 y t := by
    intro y hy t
    have h9 : (ow2 y t).1 = 999 := by rcases hy with rfl | rfl <;> rfl
    exact hIout y t (fun j hj => by rw [h9]; exact (Mad_ne (hMj j hj)).symm) (by rw [h9]; exact (Mad_ne hMad).symm)
  have hHV : HV g (M.1 + 7, I', R') F.heap := by
    refine ⟨hn, by show F.heap.size = g.1 + (M.1 + 7); rw [hsz1, hH.2.1]; omega, ?_, (funext fun t => hne9 60 (Or.inl rfl) t).trans hH.2.2.2.1, (hne9 61 (Or.inr rfl) 0).trans hH.2.2.2.2⟩
    intro k9 q hk9
    by_cases hlt : k9 < M.1
    · rw [wl_get (M := (M.1 + 7, I', R')) (show k9 < M.1 + 7 by omega)] at hk9
      cases hk9
      have h9 := hH.2.2.1 k9 _ (wl_get (g := g) (M := M) hlt)
      have hB := adr_ok (i := k9) (by omega)
      have hneq : adr k9 ≠ adr M.1 := fun q => by have := congrArg pos q; rw [hB.2.1, hA.2.1] at this; omega
      have hneqj : ∀ j, j < 6 → adr k9 ≠ adr (M.1 + 1 + j) := fun j hj q => by
        have := congrArg pos q
        rw [hB.2.1, (adr_ok (i := M.1 + 1 + j) (by omega)).2.1] at this
        omega
      have hent : ent g I' R' (adr k9) = ent g M.2.1 M.2.2 (adr k9) := ent_congr ⟨hB.1, by rw [hB.2.1]; omega⟩ (fun v x q => hIout v x (fun j hj z => hneqj j hj (q ▸ z)) (fun z => hneq (q ▸ z))) (fun j => hRout _ j hneq hneqj)
      show va_at _ _ (g.1 + k9, ent g I' R' (adr k9)) F.heap
      rw [hent]
      exact h9.kept (hold _ (by show g.1 + k9 < H.size; rw [hH.2.1]; omega))
    · by_cases e : k9 = M.1
      · subst e
        rw [wl_get (M := (M.1 + 7, I', R')) (show M.1 < M.1 + 7 by omega)] at hk9
        cases hk9
        show va_at _ _ (g.1 + M.1, ent g I' R' (adr M.1)) F.heap
        rw [ent_rr (by omega), hk]
        show F.heap[g.1 + M.1]? = some (vp_cell _ _)
        rw [← hH.2.1, f2, vp_cell_q, hl6]
        refine congrArg some (houter.trans (congrArg (arrV _ 6) (funext fun j => ?_)))
        show va_rf _ = va_rf (if j < ln (adr M.1) then (R' (adr M.1) j).map (ad g) else none)
        rw [hl6, hR']
        unfold up
        rw [if_pos rfl]
        by_cases hj : j < 6
        · rw [if_pos hj, if_pos hj, if_pos hj]
          show Value.ref _ = Value.ref (ad g (adr M.1 + 1 + j))
          rw [← had j hj]
          have h9 := adr_ok (i := M.1 + 1 + j) (by omega)
          rw [ad_own h9.1, h9.2.1]
          have hs9 := hH.2.1
          exact congrArg Value.ref (by show H.size + 1 + j = g.1 + (M.1 + 1 + j); omega)
        · rw [if_neg hj, if_neg hj]
      · by_cases h7 : k9 < M.1 + 7
        · obtain ⟨j, rfl⟩ : ∃ j, k9 = M.1 + 1 + j := ⟨k9 - M.1 - 1, by omega⟩
          have hj : j < 6 := by omega
          rw [wl_get (M := (M.1 + 7, I', R')) h7] at hk9
          cases hk9
          have hkj := hkin j hj
          show va_at _ _ (g.1 + (M.1 + 1 + j), ent g I' R' (adr (M.1 + 1 + j))) F.heap
          rw [ent_ar (by omega) (by omega), hkj.1, hkj.2]
          show F.heap[g.1 + (M.1 + 1 + j)]? = some (vp_cell _ _)
          rw [show g.1 + (M.1 + 1 + j) = H.size + 1 + j by rw [hH.2.1]; omega, hrow j hj, vp_cell_i]
          refine congrArg some (congrArg (arrV _ 10) (funext fun t => ?_))
          show Value.int 0 = Value.int (if t < ln (adr (M.1 + 1 + j)) then I' (vx (adr (M.1 + 1 + j)) t) (ix (adr (M.1 + 1 + j)) t) else 0)
          rw [hkj.2]
          by_cases ht : t < 10
          · rw [if_pos ht, hIin j hj t ht]
          · rw [if_neg ht]
        · rw [List.getElem?_eq_none (by rw [wl_len]; show M.1 + 7 ≤ k9; omega)] at hk9
          cases hk9
  have k1 := k F.heap hHV (vaS_push hS (by omega) hold) hl ls hls
  have e2 : cv g (.ref (adr M.1)) = .ref H.size := by show Value.ref (ad g (adr M.1)) = _; rw [ad_own hA.1, hA.2.1, hH.2.1]
  have e3 : M.1 + 7 - n0 = M.1 - n0 + 1 + 6 := by omega
  have e4 : sl (M.1 + 7) - sl n0 = sl M.1 - sl n0 + 6 + 6 * 10 := by omega
  have k2 : W p l e R s m args below meth c F.heap locs (M.1 + 7 - n0) (sl (M.1 + 7) - sl n0) Q (F0 m (pc + 4) ls (cv g (.ref (adr M.1)) :: st.map (cv g))) := k1
  rw [e2, e3, e4] at k2
  obtain ⟨t, a1, b1⟩ := k2 F rfl X'
  refine ⟨t, step t ?_, b1⟩
  have e9 : T.heap.size = H.size := by rw [hT]
  rw [e9]
  exact a1
end SND8
