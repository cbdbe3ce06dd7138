theorem plain_all : (List.range 171).all (fun y => plainFor (nm y)) = true := by decide +kernel
theorem ina_args {g : Gl} : ∀ (av : List Value) (i k : Nat) (v : Value), (ina av)[k]? = some (some v) → (i + k, cv g v) ∈ lv_args i (av.map (cv g))
  | [], i, k, v, h => by simp [ina] at h
  | w :: av, i, k, v, h => by
    rw [List.map_cons, lv_args, cv_cat]
    rw [ina] at h
    by_cases hc : w.category = 2
    · rw [if_pos hc] at h ⊢
      match k, h with
      | 0, h =>
        simp at h
        subst h
        exact List.mem_cons_self
      | 1, h => simp at h
      | k + 2, h =>
        have h2 : (ina av)[k]? = some (some v) := by simpa using h
        have := ina_args (g := g) av (i + 2) k v h2
        rw [show i + 2 + k = i + (k + 2) by omega] at this
        exact List.mem_cons_of_mem _ this
    · rw [if_neg hc] at h ⊢
      match k, h with
      | 0, h =>
        simp at h
        subst h
        exact List.mem_cons_self
      | k + 1, h =>
        have h2 : (ina av)[k]? = some (some v) := by simpa using h
        have := ina_args (g := g) av (i + 1) k v h2
        rw [show i + 1 + k = i + (k + 1) by omega] at this
        exact List.mem_cons_of_mem _ this
theorem ina_len {g : Gl} : ∀ av : List Value, (lg_sl (av.map (cv g))).length = (ina av).length
  | [] => rfl
  | w :: av => by
    have ih := ina_len (g := g) av
    rw [List.map_cons, ina]
    unfold lg_sl at ih ⊢
    rw [List.flatMap_cons, List.length_append, ih, cv_cat]
    by_cases hc : w.category = 2
    · rw [if_pos hc, if_pos hc]
      simp
      omega
    · rw [if_neg hc, if_neg hc]
      simp
      omega
theorem ini_at {y k : Nat} {av : List Value} {v : Value} (h : (ini y av)[k]? = some (some v)) : (ina av)[k]? = some (some v) := by
  unfold ini at h
  by_cases hk : k < (ina av).length
  · rw [List.getElem?_append_left hk] at h
    exact h
  · rw [List.getElem?_append_right (by omega)] at h
    by_cases h2 : k - (ina av).length < mxl y - (ina av).length
    · rw [List.getElem?_replicate, if_pos h2] at h
      cases h
    · rw [List.getElem?_replicate, if_neg h2] at h
      cases h
theorem ini_len {y : Nat} {av : List Value} (h : (ina av).length ≤ mxl y) : (ini y av).length = mxl y := by
  unfold ini
  rw [List.length_append, List.length_replicate]
  omega
/-- a method's locals at its entry -/
theorem entry_lo {g : Gl} {y : Nat} {av : List Value} (h : (ina av).length ≤ mxl y) : lv_has ((lg_sl (av.map (cv g)) ++ List.replicate (mxl y - (lg_sl (av.map (cv g))).length) Slot.unset).toArray) (mxl y) (asc g 0 (ini y av)) := by
  have h1 := lv_entry (av.map (cv g)) (n := mxl y) (by rw [ina_len]; exact h)
  exact lo_sub h1 (fun k v hk => by
    have := ina_args (g := g) av 0 k v (ini_at hk)
    rw [Nat.zero_add] at this
    exact this)
theorem met_of_run {l : Launch} {g : Gl} {F : Orc} {y f : Nat} {av : List Value} {M M' : Mm} {v : Option Value} (hy : y < 171) (hF : ORC l g F (rk y)) (h : run F y f (0, ini y av, [], M) = some (v, M')) (hlen : (ina av).length ≤ mxl y) : MetK l g y av M v M' := by
  refine va_MetF (cc := cod y) (maxL := mxl y) (ret := rtt y) (List.all_eq_true.mp plain_all y (List.mem_range.mpr hy)) rfl ?_
  intro p e s m args below meth c s₁ B hml hv
  obtain ⟨rfl, hH, hE⟩ := hv
  have hts := atoms_spec (ws := wsK y) B.pre
  have hown : s.vm.findClass (nm y).cls = some m.cls := findClass_of_methodNamed B.named
  have hlocks := B.notSynchronized
  have hr := B.returns
  have hX : FXD p (rmK y M M') s m (av.map (cv g)).toArray meth c g y M.1 := ⟨B.exec, B.bytes, hml, hown, fun w h1 h2 => hts w (List.mem_cons_of_mem _ (List.mem_filter.mpr ⟨h1, h2⟩)), fun q => by rw [(name_of_methodNamed B.named B.method).1]; exact q, hE, hH.2.1, Nat.le_refl _, Nat.le_refl _⟩
  have hfin : ∀ (H : Heap) (locs : List Loc) (o : Option Value), HV g M' H → va_S (fun q => g.1 ≤ q) s.heap H locs → ∀ t : State, t.heap = H → QB g v M' (av.map (cv g)).toArray s (.returned (v.map (cv g))) t := by
    intro H locs o h1 h2 t ht
    refine ⟨rfl, by rw [ht]; exact h1, by rw [ht]; exact h2.1, fun q hq => by rw [ht]; exact h2.2.1 q (by rw [hH.2.1]; omega) (by omega)⟩
  have key := run_sound (l := l) (e := e) (below := below) (Q := MQ below (QB g v M') (av.map (cv g)).toArray s (M'.1 - M.1) (sl M'.1 - sl M.1) (fun q => g.1 ≤ q)) hX hF (v := v) (M' := M') (Nat.le_refl _) (Nat.le_refl _) (fun pc st H locs i len ls d hk hst h1 h2 => by
    have hq := hfin H locs none h1 h2
    unfold stR at hst
    split at hst
    · have q : len = 1 := by simpa [lok] using hk
      subst q
      split at hst
      · rename_i ty hty
        split at hst
        · rename_i hn
          cases hst
          exact W.zret B.exec B.bytes (hr.trans hty) hn (fun t ht _ => hq t ht) (fun q hq => h2.2.2 q hq) d hlocks
        · cases hst
      · cases hst
    · have q : len = 1 := by simpa [lok] using hk
      subst q
      split at hst
      · rename_i hty
        cases hst
        exact W.lret B.exec B.bytes (hr.trans hty) (fun t ht _ => hq t ht) (fun q hq => h2.2.2 q hq) d hlocks
      · cases hst
    · have q : len = 1 := by simpa [lok] using hk
      subst q
      split at hst
      · rename_i hty
        cases hst
        exact W.vret B.exec B.bytes (hr.trans hty) (fun t ht _ => hq t ht) (fun q hq => h2.2.2 q hq) d hlocks
      · cases hst
    · cases hst) f (0, ini y av, [], M) s.heap [] h (Nat.le_refl _) hH va_S.rf
  have k1 := key (ini_len hlen) _ (entry_lo hlen)
  rw [lg_entry_eq]
  have e1 : M.1 - M.1 = 0 := Nat.sub_self _
  have e2 : sl M.1 - sl M.1 = 0 := Nat.sub_self _
  have k2 : W p l e (rmK y M M') s m (av.map (cv g)).toArray below meth c s.heap [] (M.1 - M.1) (sl M.1 - sl M.1) _ (F0 m 0 _ []) := k1
  rw [e1, e2] at k2
  exact k2
theorem G_sound (l : Launch) (g : Gl) : ∀ r : Nat, ORC l g (G r) r := by
  intro r
  induction r with
  | zero => intro y av M v M' _ h; omega
  | succ r ih =>
    intro y av M v M' hy hr h
    rw [G] at h
    have h1 : (if rk y = r ∧ (ina av).length ≤ mxl y then EV (G r) y (0, ini y av, [], M) else G r y av M) = some (v, M') := h
    by_cases hc : rk y = r ∧ (ina av).length ≤ mxl y
    · rw [if_pos hc] at h1
      obtain ⟨f, hf⟩ := EV_run h1
      have hF : ORC l g (G r) (rk y) := by rw [hc.1]; exact ih
      exact ⟨run_mono1 hF f _ v M' hf, met_of_run hy hF hf hc.2⟩
    · rw [if_neg hc] at h1
      by_cases e : rk y < r
      · exact ih y av M v M' hy e h1
      · rw [G_none av M (by omega)] at h1
        cases h1
