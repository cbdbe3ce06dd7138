section SND2
variable {p : Program} {l : Launch} {e : Env} {R : Room} {s : State} {m : MethodId} {args : Array Value} {below : List Frame} {meth : Method} {c : Code} {Q : State → Prop} {g : Gl} {K n0 : Nat}
variable {i : Instr} {len pc : Nat} {L : Lo} {st : List Value} {M : Mm} {H : Heap} {locs : List Loc}
theorem snd_bI (hX : FXD p R s m args meth c g K n0) {a b z : Int32} (d : decode (cod K) pc = .ok (i, len)) (hk : lok i len = true) (h : binI i a b = some z) (k : WW p l e R s m args below meth c Q g K n0 H locs (pc + 1, L, .int z :: st, M)) : WW p l e R s m args below meth c Q g K n0 H locs (pc, L, .int b :: .int a :: st, M) := by
  intro hl ls hls
  have k1 := k hl ls hls
  obtain ⟨hx, hb, -⟩ := hX
  unfold binI at h
  split at h
  · have q : len = 1 := by simpa [lok] using hk
    subst q
    cases h
    exact lv_iadd hx hb d k1
  · have q : len = 1 := by simpa [lok] using hk
    subst q
    cases h
    exact lv_isub hx hb d k1
  · have q : len = 1 := by simpa [lok] using hk
    subst q
    cases h
    exact lv_imul hx hb d k1
  · have q : len = 1 := by simpa [lok] using hk
    subst q
    cases h
    exact lv_iand hx hb d k1
  · have q : len = 1 := by simpa [lok] using hk
    subst q
    cases h
    exact lv_ior hx hb d k1
  · have q : len = 1 := by simpa [lok] using hk
    subst q
    cases h
    exact lv_ixor hx hb d k1
  · have q : len = 1 := by simpa [lok] using hk
    subst q
    cases h
    exact lv_ishl hx hb d k1
  · have q : len = 1 := by simpa [lok] using hk
    subst q
    cases h
    exact lv_ishr hx hb d k1
  · have q : len = 1 := by simpa [lok] using hk
    subst q
    cases h
    exact lv_iushr hx hb d rfl k1
  · have q : len = 1 := by simpa [lok] using hk
    subst q
    by_cases hz : b = 0
    · rw [if_pos hz] at h; cases h
    · rw [if_neg hz] at h
      cases h
      exact lv_idiv hx hb d hz k1
  · have q : len = 1 := by simpa [lok] using hk
    subst q
    by_cases hz : b = 0
    · rw [if_pos hz] at h; cases h
    · rw [if_neg hz] at h
      cases h
      exact lv_irem hx hb d hz k1
  · cases h
theorem snd_bL (hX : FXD p R s m args meth c g K n0) {a b z : Int64} (d : decode (cod K) pc = .ok (i, len)) (hk : lok i len = true) (h : binL i a b = some z) (k : WW p l e R s m args below meth c Q g K n0 H locs (pc + 1, L, .long z :: st, M)) : WW p l e R s m args below meth c Q g K n0 H locs (pc, L, .long b :: .long a :: st, M) := by
  intro hl ls hls
  have k1 := k hl ls hls
  obtain ⟨hx, hb, -⟩ := hX
  unfold binL at h
  split at h
  · have q : len = 1 := by simpa [lok] using hk
    subst q
    cases h
    exact lv_ladd hx hb d k1
  · have q : len = 1 := by simpa [lok] using hk
    subst q
    cases h
    exact lv_lsub hx hb d k1
  · have q : len = 1 := by simpa [lok] using hk
    subst q
    cases h
    exact lv_land hx hb d k1
  · have q : len = 1 := by simpa [lok] using hk
    subst q
    cases h
    exact lv_lor hx hb d k1
  · cases h
theorem snd_sL (hX : FXD p R s m args meth c g K n0) {a z : Int64} {b : Int32} (d : decode (cod K) pc = .ok (i, len)) (hk : lok i len = true) (h : shL i a b = some z) (k : WW p l e R s m args below meth c Q g K n0 H locs (pc + 1, L, .long z :: st, M)) : WW p l e R s m args below meth c Q g K n0 H locs (pc, L, .int b :: .long a :: st, M) := by
  intro hl ls hls
  have k1 := k hl ls hls
  obtain ⟨hx, hb, -⟩ := hX
  unfold shL at h
  split at h
  · have q : len = 1 := by simpa [lok] using hk
    subst q
    cases h
    exact lv_lshl hx hb d rfl k1
  · have q : len = 1 := by simpa [lok] using hk
    subst q
    cases h
    exact lv_lshr hx hb d rfl k1
  · have q : len = 1 := by simpa [lok] using hk
    subst q
    cases h
    exact lv_lushr hx hb d rfl k1
  · cases h
theorem snd_bF (hX : FXD p R s m args meth c g K n0) {a b z : Value} (d : decode (cod K) pc = .ok (i, len)) (hk : lok i len = true) (h : binF i a b = some z) (k : WW p l e R s m args below meth c Q g K n0 H locs (pc + 1, L, z :: st, M)) : WW p l e R s m args below meth c Q g K n0 H locs (pc, L, b :: a :: st, M) := by
  intro hl ls hls
  have k1 := k hl ls hls
  obtain ⟨hx, hb, -⟩ := hX
  unfold binF at h
  split at h
  · have q : len = 1 := by simpa [lok] using hk
    subst q
    cases h
    exact W.lcmp hx hb d k1
  · have q : len = 1 := by simpa [lok] using hk
    subst q
    split at h
    · rename_i hn
      cases h
      exact lv_fmul hx hb d hn k1
    · cases h
  · have q : len = 1 := by simpa [lok] using hk
    subst q
    split at h
    · rename_i hn
      cases h
      exact lv_dmul hx hb d hn k1
    · cases h
  · have q : len = 1 := by simpa [lok] using hk
    subst q
    split at h
    · rename_i hn
      cases h
      exact lv_ddiv hx hb d hn k1
    · cases h
  · have q : len = 1 := by simpa [lok] using hk
    subst q
    cases h
    exact lv_fcmp hx hb d k1
  · have q : len = 1 := by simpa [lok] using hk
    subst q
    cases h
    exact lv_dcmp hx hb d k1
  · cases h
theorem snd_uI (hX : FXD p R s m args meth c g K n0) {a z : Value} (d : decode (cod K) pc = .ok (i, len)) (hk : lok i len = true) (h : unI i a = some z) (k : WW p l e R s m args below meth c Q g K n0 H locs (pc + 1, L, z :: st, M)) : WW p l e R s m args below meth c Q g K n0 H locs (pc, L, a :: st, M) := by
  intro hl ls hls
  have k1 := k hl ls hls
  obtain ⟨hx, hb, -⟩ := hX
  unfold unI at h
  split at h
  · have q : len = 1 := by simpa [lok] using hk
    subst q
    cases h
    exact lv_i2l hx hb d rfl k1
  · have q : len = 1 := by simpa [lok] using hk
    subst q
    cases h
    exact lv_l2i hx hb d rfl k1
  · have q : len = 1 := by simpa [lok] using hk
    subst q
    cases h
    exact lv_i2b hx hb d rfl k1
  · have q : len = 1 := by simpa [lok] using hk
    subst q
    cases h
    exact lv_i2c hx hb d rfl k1
  · have q : len = 1 := by simpa [lok] using hk
    subst q
    cases h
    exact lv_i2d hx hb d k1
  · have q : len = 1 := by simpa [lok] using hk
    subst q
    cases h
    exact lv_d2l hx hb d k1
  · have q : len = 1 := by simpa [lok] using hk
    subst q
    cases h
    exact lv_f2i hx hb d k1
  · have q : len = 1 := by simpa [lok] using hk
    subst q
    split at h
    · rename_i hn
      cases h
      exact lv_d2f hx hb d hn k1
    · cases h
  · cases h
theorem snd_Bn (hX : FXD p R s m args meth c g K n0) {x : Cf} (d : decode (cod K) pc = .ok (i, len)) (hk : lok i len = true) (h : stBn i pc L st M = some x) (k : WW p l e R s m args below meth c Q g K n0 H locs x) : WW p l e R s m args below meth c Q g K n0 H locs (pc, L, st, M) ∧ x.2.2.2 = M := by
  unfold stBn at h
  split at h
  · obtain ⟨z, hz, rfl⟩ := Option.map_eq_some_iff.mp h
    exact ⟨snd_bI hX d hk hz k, rfl⟩
  · split at h
    · rename_i z hz
      cases h
      exact ⟨snd_bL hX d hk hz k, rfl⟩
    · obtain ⟨z, hz, rfl⟩ := Option.map_eq_some_iff.mp h
      exact ⟨snd_bF hX d hk hz k, rfl⟩
  · obtain ⟨z, hz, rfl⟩ := Option.map_eq_some_iff.mp h
    exact ⟨snd_sL hX d hk hz k, rfl⟩
  · obtain ⟨z, hz, rfl⟩ := Option.map_eq_some_iff.mp h
    exact ⟨snd_bF hX d hk hz k, rfl⟩
  · obtain ⟨z, hz, rfl⟩ := Option.map_eq_some_iff.mp h
    exact ⟨snd_bF hX d hk hz k, rfl⟩
  · cases h
theorem snd_Un (hX : FXD p R s m args meth c g K n0) {x : Cf} (d : decode (cod K) pc = .ok (i, len)) (hk : lok i len = true) (h : stUn i pc L st M = some x) (k : WW p l e R s m args below meth c Q g K n0 H locs x) : WW p l e R s m args below meth c Q g K n0 H locs (pc, L, st, M) ∧ x.2.2.2 = M := by
  unfold stUn at h
  split at h
  · obtain ⟨z, hz, rfl⟩ := Option.map_eq_some_iff.mp h
    exact ⟨snd_uI hX d hk hz k, rfl⟩
  · cases h
theorem tgt_eq {pc : Nat} {o : Int} (h : 0 ≤ (pc : Int) + o) : (pc : Int) + o = (tgt pc o : Int) := (Int.toNat_of_nonneg h).symm
theorem snd_if (hX : FXD p R s m args meth c g K n0) {cc : ClassFile.Cond} {o : Int} {a : Int32} (d : decode (cod K) pc = .ok (.ifCond cc o, 3)) (ho : 0 ≤ (pc : Int) + o) (k : WW p l e R s m args below meth c Q g K n0 H locs (if cnd cc a 0 = true then tgt pc o else pc + 3, L, st, M)) : WW p l e R s m args below meth c Q g K n0 H locs (pc, L, .int a :: st, M) := by
  intro hl ls hls
  have k1 := k hl ls hls
  obtain ⟨hx, hb, -⟩ := hX
  have hT := tgt_eq ho
  have kt : cnd cc a 0 = true → W p l e R s m args below meth c H locs (M.1 - n0) (sl M.1 - sl n0) Q (F0 m (tgt pc o) ls (st.map (cv g))) := fun q => by have k2 := k1; simp only [q, if_true] at k2; exact k2
  have kf : ¬ cnd cc a 0 = true → W p l e R s m args below meth c H locs (M.1 - n0) (sl M.1 - sl n0) Q (F0 m (pc + 3) ls (st.map (cv g))) := fun q => by have k2 := k1; simp only [q, if_false] at k2; exact k2
  cases cc
  · exact lv_if_eq hx hb d hT (fun q => kt (decide_eq_true q)) (fun q => kf (fun z => q (of_decide_eq_true z)))
  · exact lv_if_ne hx hb d hT (fun q => kt (decide_eq_true q)) (fun q => kf (fun z => (of_decide_eq_true z) q))
  · exact lv_if_lt hx hb d hT (fun q => kt (decide_eq_true q)) (fun q => kf (fun z => q (of_decide_eq_true z)))
  · exact lv_if_ge hx hb d hT (fun q => kt (decide_eq_true q)) (fun q => kf (fun z => q (of_decide_eq_true z)))
  · exact lv_if_gt hx hb d hT (fun q => kt (decide_eq_true q)) (fun q => kf (fun z => q (of_decide_eq_true z)))
  · exact lv_if_le hx hb d hT (fun q => kt (decide_eq_true q)) (fun q => kf (fun z => q (of_decide_eq_true z)))
theorem snd_cmp (hX : FXD p R s m args meth c g K n0) {cc : ClassFile.Cond} {o : Int} {a b : Int32} (d : decode (cod K) pc = .ok (.if_icmp cc o, 3)) (ho : 0 ≤ (pc : Int) + o) (k : WW p l e R s m args below meth c Q g K n0 H locs (if cnd cc a b = true then tgt pc o else pc + 3, L, st, M)) : WW p l e R s m args below meth c Q g K n0 H locs (pc, L, .int b :: .int a :: st, M) := by
  intro hl ls hls
  have k1 := k hl ls hls
  obtain ⟨hx, hb, -⟩ := hX
  have hT := tgt_eq ho
  have kt : cnd cc a b = true → W p l e R s m args below meth c H locs (M.1 - n0) (sl M.1 - sl n0) Q (F0 m (tgt pc o) ls (st.map (cv g))) := fun q => by have k2 := k1; simp only [q, if_true] at k2; exact k2
  have kf : ¬ cnd cc a b = true → W p l e R s m args below meth c H locs (M.1 - n0) (sl M.1 - sl n0) Q (F0 m (pc + 3) ls (st.map (cv g))) := fun q => by have k2 := k1; simp only [q, if_false] at k2; exact k2
  cases cc
  · exact lv_icmp_eq hx hb d hT (fun q => kt (decide_eq_true q)) (fun q => kf (fun z => q (of_decide_eq_true z)))
  · exact lv_icmp_ne hx hb d hT (fun q => kt (decide_eq_true q)) (fun q => kf (fun z => (of_decide_eq_true z) q))
  · exact lv_icmp_lt hx hb d hT (fun q => kt (decide_eq_true q)) (fun q => kf (fun z => q (of_decide_eq_true z)))
  · exact lv_icmp_ge hx hb d hT (fun q => kt (decide_eq_true q)) (fun q => kf (fun z => q (of_decide_eq_true z)))
  · exact lv_icmp_gt hx hb d hT (fun q => kt (decide_eq_true q)) (fun q => kf (fun z => q (of_decide_eq_true z)))
  · exact lv_icmp_le hx hb d hT (fun q => kt (decide_eq_true q)) (fun q => kf (fun z => q (of_decide_eq_true z)))
theorem snd_J (hX : FXD p R s m args meth c g K n0) {x : Cf} (d : decode (cod K) pc = .ok (i, len)) (hk : lok i len = true) (h : stJ i len pc L st M = some x) (k : WW p l e R s m args below meth c Q g K n0 H locs x) : WW p l e R s m args below meth c Q g K n0 H locs (pc, L, st, M) ∧ x.2.2.2 = M := by
  unfold stJ at h
  split at h
  · -- goto
    split at h
    · rename_i o hc
      cases h
      obtain ⟨rfl, ho⟩ := hc
      refine ⟨fun hl ls hls => ?_, rfl⟩
      exact lv_goto hX.1 hX.2.1 d (tgt_eq ho) (k hl ls hls)
    · cases h
  · -- iinc
    split at h
    · rename_i hL
      split at h
      · rename_i h3
        subst h3
        cases h
        refine ⟨fun hl ls hls => ?_, rfl⟩
        have hlt := (List.getElem?_eq_some_iff.mp hL).1
        have hmem := (asc_mem (g := g) L 0 _).mpr ⟨_, _, hL, rfl⟩
        rw [Nat.zero_add] at hmem
        obtain ⟨kx, hkx⟩ := List.getElem?_of_mem hmem
        exact lv_iinc hX.1 hX.2.1 d hls hkx rfl (by rw [← hl]; exact hlt) rfl (fun ls' hls' => k (by show (sto1 L _ _).length = _; rw [sto1_len]; exact hl) ls' (lo_st1 (v := .int _) hls'))
      · cases h
    · cases h
  · -- if
    split at h
    · split at h
      · rename_i hc
        cases h
        obtain ⟨rfl, ho⟩ := hc
        exact ⟨snd_if hX d ho k, rfl⟩
      · cases h
    · cases h
  · split at h
    · split at h
      · rename_i hc
        cases h
        obtain ⟨rfl, ho⟩ := hc
        exact ⟨snd_cmp hX d ho k, rfl⟩
      · cases h
    · cases h
  · -- tableswitch
    split at h
    · rename_i dd lo hi os _ x0 r
      split at h
      · rename_i hout
        split at h
        · rename_i ho
          cases h
          exact ⟨fun hl ls hls => lv_tableOut hX.1 hX.2.1 d hout (tgt_eq ho) (k hl ls hls), rfl⟩
        · cases h
      · rename_i hin
        split at h
        · rename_i o hos
          split at h
          · rename_i ho
            cases h
            exact ⟨fun hl ls hls => lv_tableIn hX.1 hX.2.1 d (fun q => hin (Or.inl q)) (fun q => hin (Or.inr q)) hos (tgt_eq ho) (k hl ls hls), rfl⟩
          · cases h
        · cases h
    · cases h
  · -- lookupswitch
    split at h
    · split at h
      · rename_i hc
        cases h
        exact ⟨fun hl ls hls => lv_lookup hX.1 hX.2.1 d hc.1 rfl (tgt_eq hc.2) (k hl ls hls), rfl⟩
      · cases h
    · cases h
  · split at h
    · split at h
      · rename_i hc
        have q : len = 1 := by simpa [lok] using hk
        subst q
        cases h
        exact ⟨fun hl ls hls => lv_dup hX.1 hX.2.1 d (by rw [cv_cat]; exact hc) (k hl ls hls), rfl⟩
      · cases h
    · cases h
  · split at h
    · split at h
      · rename_i hc
        have q : len = 1 := by simpa [lok] using hk
        subst q
        cases h
        exact ⟨fun hl ls hls => lv_pop hX.1 hX.2.1 d (by rw [cv_cat]; exact hc) (k hl ls hls), rfl⟩
      · cases h
    · cases h
  · split at h
    · split at h
      · rename_i hc
        have q : len = 1 := by simpa [lok] using hk
        subst q
        cases h
        exact ⟨fun hl ls hls => lv_dup2_11 hX.1 hX.2.1 d (by rw [cv_cat]; exact hc.1) (by rw [cv_cat]; exact hc.2) (k hl ls hls), rfl⟩
      · cases h
    · cases h
  · cases h
end SND2
