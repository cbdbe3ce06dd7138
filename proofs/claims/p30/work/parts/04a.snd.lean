section SND
variable {p : Program} {l : Launch} {e : Env} {R : Room} {s : State} {m : MethodId} {args : Array Value} {below : List Frame} {meth : Method} {c : Code} {Q : State → Prop} {g : Gl} {K n0 : Nat}
/-- the machine at a place of the picture's run -/
def WW (p : Program) (l : Launch) (e : Env) (R : Room) (s : State) (m : MethodId) (args : Array Value) (below : List Frame) (meth : Method) (c : Code) (Q : State → Prop) (g : Gl) (K n0 : Nat) (H : Heap) (locs : List Loc) (x : Cf) : Prop :=
  x.2.1.length = mxl K → ∀ ls : Array Slot, lv_has ls (mxl K) (asc g 0 x.2.1) → W p l e R s m args below meth c H locs (x.2.2.2.1 - n0) (sl x.2.2.2.1 - sl n0) Q (F0 m x.1 ls (x.2.2.1.map (cv g)))
/-- what is fixed in a method's body -/
def FXD (p : Program) (R : Room) (s : State) (m : MethodId) (args : Array Value) (meth : Method) (c : Code) (g : Gl) (K n0 : Nat) : Prop :=
  p.tables.exec = Jvm.exec ∧ c.code = cod K ∧ c.maxLocals = mxl K ∧ s.vm.findClass (cn (ow K)) = some m.cls ∧ (∀ w, w ∈ lw_tbl → goodWord w = true → w.before args s = true) ∧
  ((nm K).name = "<init>" → meth.name = "<init>") ∧ ENV g s ∧ s.heap.size = g.1 + n0 ∧ rk K ≤ R.frames ∧ 37 * rk K ≤ R.locals
theorem snd_psh (hX : FXD p R s m args meth c g K n0) {i : Instr} {len pc n : Nat} {v : Value} {L : Lo} {st : List Value} {M : Mm} {H : Heap} {locs : List Loc} (d : decode (cod K) pc = .ok (i, len)) (hk : lok i len = true) (h : pshI i = some (v, n))
    (k : WW p l e R s m args below meth c Q g K n0 H locs (pc + n, L, v :: st, M)) : WW p l e R s m args below meth c Q g K n0 H locs (pc, L, st, M) := by
  intro hl ls hls
  have k1 := k hl ls hls
  obtain ⟨hx, hb, -⟩ := hX
  unfold pshI at h
  split at h
  · rename_i z; have q : len = 1 := by simpa [lok] using hk
    subst q; cases h; exact lv_iconst hx hb d rfl k1
  · rename_i z; have q : len = 2 := by simpa [lok] using hk
    subst q; cases h; exact lv_bipush hx hb d rfl k1
  · rename_i z; have q : len = 3 := by simpa [lok] using hk
    subst q; cases h; exact lv_sipush hx hb d rfl k1
  · rename_i z; have q : len = 1 := by simpa [lok] using hk
    subst q; cases h; exact lv_lconst hx hb d rfl k1
  · have q : len = 1 := by simpa [lok] using hk
    subst q; cases h; exact lv_fconst0 hx hb d k1
  · have q : len = 1 := by simpa [lok] using hk
    subst q; cases h; exact lv_fconst1 hx hb d k1
  · have q : len = 1 := by simpa [lok] using hk
    subst q; cases h; exact lv_fconst2 hx hb d k1
  · have q : len = 1 := by simpa [lok] using hk
    subst q; cases h; exact lv_dconst0 hx hb d k1
  · have q : len = 1 := by simpa [lok] using hk
    subst q; cases h; exact lv_dconst1 hx hb d k1
  · cases h
theorem snd_ld (hX : FXD p R s m args meth c g K n0) {i : Instr} {len pc n t k0 : Nat} {v : Value} {L : Lo} {st : List Value} {M : Mm} {H : Heap} {locs : List Loc} (d : decode (cod K) pc = .ok (i, len)) (hk : lok i len = true) (h : ldI i = some (t, k0, n)) (hL : L[k0]? = some (some v)) (hv : vkn v = t)
    (k : WW p l e R s m args below meth c Q g K n0 H locs (pc + n, L, v :: st, M)) : WW p l e R s m args below meth c Q g K n0 H locs (pc, L, st, M) := by
  intro hl ls hls
  have k1 := k hl ls hls
  have hat := lo_at hls hL
  obtain ⟨hx, hb, -⟩ := hX
  subst hv
  unfold ldI at h
  split at h
  · have q : len = 1 := by simpa [lok] using hk
    subst q
    simp only [Option.some.injEq, Prod.mk.injEq] at h
    obtain ⟨h1, rfl, rfl⟩ := h
    cases v <;> first | (cases h1; done) | exact lv_iload_n hx hb d rfl hat k1
  · have q : len = 1 := by simpa [lok] using hk
    subst q
    simp only [Option.some.injEq, Prod.mk.injEq] at h
    obtain ⟨h1, rfl, rfl⟩ := h
    cases v <;> first | (cases h1; done) | exact lv_lload_n hx hb d rfl hat k1
  · have q : len = 1 := by simpa [lok] using hk
    subst q
    simp only [Option.some.injEq, Prod.mk.injEq] at h
    obtain ⟨h1, rfl, rfl⟩ := h
    cases v <;> first | (cases h1; done) | exact lv_fload_n hx hb d rfl hat k1
  · have q : len = 1 := by simpa [lok] using hk
    subst q
    simp only [Option.some.injEq, Prod.mk.injEq] at h
    obtain ⟨h1, rfl, rfl⟩ := h
    cases v <;> first | (cases h1; done) | exact lv_dload_n hx hb d rfl hat k1
  · have q : len = 1 := by simpa [lok] using hk
    subst q
    simp only [Option.some.injEq, Prod.mk.injEq] at h
    obtain ⟨h1, rfl, rfl⟩ := h
    cases v <;> first | (cases h1; done) | exact lv_aload_n hx hb d rfl hat k1
  · have q : len = 2 := by simpa [lok] using hk
    subst q
    simp only [Option.some.injEq, Prod.mk.injEq] at h
    obtain ⟨h1, rfl, rfl⟩ := h
    cases v <;> first | (cases h1; done) | exact lv_iload hx hb d hat k1
  · have q : len = 2 := by simpa [lok] using hk
    subst q
    simp only [Option.some.injEq, Prod.mk.injEq] at h
    obtain ⟨h1, rfl, rfl⟩ := h
    cases v <;> first | (cases h1; done) | exact lv_lload hx hb d hat k1
  · have q : len = 2 := by simpa [lok] using hk
    subst q
    simp only [Option.some.injEq, Prod.mk.injEq] at h
    obtain ⟨h1, rfl, rfl⟩ := h
    cases v <;> first | (cases h1; done) | exact lv_fload hx hb d hat k1
  · have q : len = 2 := by simpa [lok] using hk
    subst q
    simp only [Option.some.injEq, Prod.mk.injEq] at h
    obtain ⟨h1, rfl, rfl⟩ := h
    cases v <;> first | (cases h1; done) | exact lv_dload hx hb d hat k1
  · have q : len = 2 := by simpa [lok] using hk
    subst q
    simp only [Option.some.injEq, Prod.mk.injEq] at h
    obtain ⟨h1, rfl, rfl⟩ := h
    cases v <;> first | (cases h1; done) | exact lv_aload hx hb d hat k1
  · cases h
theorem snd_st (hX : FXD p R s m args meth c g K n0) {i : Instr} {len pc n t k0 : Nat} {v : Value} {L : Lo} {st : List Value} {M : Mm} {H : Heap} {locs : List Loc} (d : decode (cod K) pc = .ok (i, len)) (hk : lok i len = true) (h : stoI i = some (t, k0, n)) (hv : vkn v = t)
    (k1 : ¬ v.category = 2 → k0 < L.length → WW p l e R s m args below meth c Q g K n0 H locs (pc + n, sto1 L k0 v, st, M)) (k2 : v.category = 2 → k0 + 1 < L.length → WW p l e R s m args below meth c Q g K n0 H locs (pc + n, sto2 L k0 v, st, M)) (hw : if v.category = 2 then k0 + 1 < L.length else k0 < L.length) : WW p l e R s m args below meth c Q g K n0 H locs (pc, L, v :: st, M) := by
  intro hl ls hls
  obtain ⟨hx, hb, -⟩ := hX
  subst hv
  unfold stoI at h
  split at h
  · have q : len = 1 := by simpa [lok] using hk
    subst q
    simp only [Option.some.injEq, Prod.mk.injEq] at h
    obtain ⟨h1, rfl, rfl⟩ := h
    cases v <;> first | (cases h1; done) | skip
    have hw1 : _ < L.length := hw
    exact lv_istore_n hx hb d rfl hls (by rw [← hl]; exact hw1) rfl (fun ls' hls' => k1 (fun q => by cases q) hw1 (by rw [← hl]; exact sto1_len _ _ _) ls' (lo_st1 hls'))
  · have q : len = 1 := by simpa [lok] using hk
    subst q
    simp only [Option.some.injEq, Prod.mk.injEq] at h
    obtain ⟨h1, rfl, rfl⟩ := h
    cases v <;> first | (cases h1; done) | skip
    have hw1 : _ + 1 < L.length := hw
    exact lv_lstore_n hx hb d rfl hls (by rw [← hl]; exact hw1) rfl (fun ls' hls' => k2 rfl hw1 (by rw [← hl]; exact sto2_len _ _ _ hw1) ls' (lo_st2 hw1 hls'))
  · have q : len = 1 := by simpa [lok] using hk
    subst q
    simp only [Option.some.injEq, Prod.mk.injEq] at h
    obtain ⟨h1, rfl, rfl⟩ := h
    cases v <;> first | (cases h1; done) | skip
    have hw1 : _ < L.length := hw
    exact lv_fstore_n hx hb d rfl hls (by rw [← hl]; exact hw1) rfl (fun ls' hls' => k1 (fun q => by cases q) hw1 (by rw [← hl]; exact sto1_len _ _ _) ls' (lo_st1 hls'))
  · have q : len = 1 := by simpa [lok] using hk
    subst q
    simp only [Option.some.injEq, Prod.mk.injEq] at h
    obtain ⟨h1, rfl, rfl⟩ := h
    cases v <;> first | (cases h1; done) | skip
    have hw1 : _ + 1 < L.length := hw
    exact lv_dstore_n hx hb d rfl hls (by rw [← hl]; exact hw1) rfl (fun ls' hls' => k2 rfl hw1 (by rw [← hl]; exact sto2_len _ _ _ hw1) ls' (lo_st2 hw1 hls'))
  · have q : len = 1 := by simpa [lok] using hk
    subst q
    simp only [Option.some.injEq, Prod.mk.injEq] at h
    obtain ⟨h1, rfl, rfl⟩ := h
    cases v <;> first | (cases h1; done) | skip
    have hw1 : _ < L.length := hw
    exact lv_astore_n hx hb d rfl hls (by rw [← hl]; exact hw1) rfl (fun ls' hls' => k1 (fun q => by cases q) hw1 (by rw [← hl]; exact sto1_len _ _ _) ls' (lo_st1 hls'))
  · have q : len = 2 := by simpa [lok] using hk
    subst q
    simp only [Option.some.injEq, Prod.mk.injEq] at h
    obtain ⟨h1, rfl, rfl⟩ := h
    cases v <;> first | (cases h1; done) | skip
    have hw1 : _ < L.length := hw
    exact lv_istore hx hb d hls (by rw [← hl]; exact hw1) rfl (fun ls' hls' => k1 (fun q => by cases q) hw1 (by rw [← hl]; exact sto1_len _ _ _) ls' (lo_st1 hls'))
  · have q : len = 2 := by simpa [lok] using hk
    subst q
    simp only [Option.some.injEq, Prod.mk.injEq] at h
    obtain ⟨h1, rfl, rfl⟩ := h
    cases v <;> first | (cases h1; done) | skip
    have hw1 : _ + 1 < L.length := hw
    exact lv_lstore hx hb d hls (by rw [← hl]; exact hw1) rfl (fun ls' hls' => k2 rfl hw1 (by rw [← hl]; exact sto2_len _ _ _ hw1) ls' (lo_st2 hw1 hls'))
  · have q : len = 2 := by simpa [lok] using hk
    subst q
    simp only [Option.some.injEq, Prod.mk.injEq] at h
    obtain ⟨h1, rfl, rfl⟩ := h
    cases v <;> first | (cases h1; done) | skip
    have hw1 : _ < L.length := hw
    exact lv_fstore hx hb d hls (by rw [← hl]; exact hw1) rfl (fun ls' hls' => k1 (fun q => by cases q) hw1 (by rw [← hl]; exact sto1_len _ _ _) ls' (lo_st1 hls'))
  · have q : len = 2 := by simpa [lok] using hk
    subst q
    simp only [Option.some.injEq, Prod.mk.injEq] at h
    obtain ⟨h1, rfl, rfl⟩ := h
    cases v <;> first | (cases h1; done) | skip
    have hw1 : _ + 1 < L.length := hw
    exact lv_dstore hx hb d hls (by rw [← hl]; exact hw1) rfl (fun ls' hls' => k2 rfl hw1 (by rw [← hl]; exact sto2_len _ _ _ hw1) ls' (lo_st2 hw1 hls'))
  · have q : len = 2 := by simpa [lok] using hk
    subst q
    simp only [Option.some.injEq, Prod.mk.injEq] at h
    obtain ⟨h1, rfl, rfl⟩ := h
    cases v <;> first | (cases h1; done) | skip
    have hw1 : _ < L.length := hw
    exact lv_astore hx hb d hls (by rw [← hl]; exact hw1) rfl (fun ls' hls' => k1 (fun q => by cases q) hw1 (by rw [← hl]; exact sto1_len _ _ _) ls' (lo_st1 hls'))
  · cases h
theorem snd_A (hX : FXD p R s m args meth c g K n0) {i : Instr} {len pc : Nat} {L : Lo} {st : List Value} {M : Mm} {x : Cf} {H : Heap} {locs : List Loc} (d : decode (cod K) pc = .ok (i, len)) (hk : lok i len = true) (h : stA i pc L st M = some x)
    (k : WW p l e R s m args below meth c Q g K n0 H locs x) : WW p l e R s m args below meth c Q g K n0 H locs (pc, L, st, M) ∧ x.2.2.2 = M := by
  unfold stA at h
  cases hp : pshI i with
  | some q =>
    rw [hp] at h
    cases h
    exact ⟨snd_psh hX d hk hp k, rfl⟩
  | none =>
    rw [hp] at h
    cases hq : ldI i with
    | some q =>
      obtain ⟨t, k0, n⟩ := q
      rw [hq] at h
      have h1 : (match L[k0]? with | some (some v) => if vkn v = t then some (pc + n, L, v :: st, M) else none | _ => none) = some x := h
      cases hL : L[k0]? with
      | none => rw [hL] at h1; cases h1
      | some y =>
        cases y with
        | none => rw [hL] at h1; cases h1
        | some v =>
          rw [hL] at h1
          have h2 : (if vkn v = t then some (pc + n, L, v :: st, M) else none) = some x := h1
          by_cases hv : vkn v = t
          · rw [if_pos hv] at h2
            cases h2
            exact ⟨snd_ld hX d hk hq hL hv k, rfl⟩
          · rw [if_neg hv] at h2; cases h2
    | none =>
      rw [hq] at h
      cases hw : stoI i with
      | none => rw [hw] at h; cases h
      | some q =>
        obtain ⟨t, k0, n⟩ := q
        rw [hw] at h
        cases st with
        | nil => cases h
        | cons v r =>
          have h2 : (if vkn v = t then (if v.category = 2 then (if k0 + 1 < L.length then some (pc + n, sto2 L k0 v, r, M) else none) else (if k0 < L.length then some (pc + n, sto1 L k0 v, r, M) else none)) else none) = some x := h
          by_cases hv : vkn v = t
          · rw [if_pos hv] at h2
            by_cases hc : v.category = 2
            · rw [if_pos hc] at h2
              by_cases hl : k0 + 1 < L.length
              · rw [if_pos hl] at h2
                cases h2
                exact ⟨snd_st hX d hk hw hv (fun q => absurd hc q) (fun _ _ => k) (by rw [if_pos hc]; exact hl), rfl⟩
              · rw [if_neg hl] at h2; cases h2
            · rw [if_neg hc] at h2
              by_cases hl : k0 < L.length
              · rw [if_pos hl] at h2
                cases h2
                exact ⟨snd_st hX d hk hw hv (fun _ _ => k) (fun q => absurd q hc) (by rw [if_neg hc]; exact hl), rfl⟩
              · rw [if_neg hl] at h2; cases h2
          · rw [if_neg hv] at h2; cases h2
end SND
