section SND9
variable {p : Program} {l : Launch} {e : Env} {R : Room} {s : State} {m : MethodId} {args : Array Value} {below : List Frame} {meth : Method} {c : Code} {Q : State → Prop} {g : Gl} {K n0 : Nat}
variable {i : Instr} {len pc : Nat} {L : Lo} {st : List Value} {M : Mm} {H : Heap} {locs : List Loc} {F : Orc}
theorem mono_M {x : Cf} (h : stM K i pc L st M = some x) : M.1 ≤ x.2.2.2.1 := by
  unfold stM at h
  split at h
  case h_1 | h_2 | h_3 | h_5 => obtain ⟨z, -, rfl⟩ := Option.map_eq_some_iff.mp h; exact Nat.le_refl _
  case h_17 | h_18 | h_19 =>
    obtain ⟨-, hh⟩ := Option.ite_none_right_eq_some.mp h
    have hh := Option.some.inj hh
    subst hh
    first | exact Nat.le_succ _ | exact Nat.le_add_right _ _
  case h_4 | h_6 | h_7 | h_8 | h_9 | h_16 =>
    first
    | (split at h
       · first
         | (cases h; first | exact Nat.le_refl _ | exact Nat.le_succ _ | exact Nat.le_add_right _ _)
         | (split at h
            · cases h; first | exact Nat.le_refl _ | exact Nat.le_succ _ | exact Nat.le_add_right _ _
            · cases h)
       · cases h)
  case h_10 =>
    split at h
    · obtain ⟨z, -, rfl⟩ := Option.map_eq_some_iff.mp h; exact Nat.le_refl _
    · cases h
  case h_11 =>
    split at h
    · split at h
      · obtain ⟨z, -, rfl⟩ := Option.map_eq_some_iff.mp h; exact Nat.le_refl _
      · cases h
    · cases h
  case h_12 | h_13 | h_14 | h_15 =>
    split at h
    · cases h; exact Nat.le_refl _
    · cases h
  case h_20 => cases h
theorem snd_M (hX : FXD p R s m args meth c g K n0) (hH : HV g M H) (hS : va_S (fun q => g.1 ≤ q) s.heap H locs) (hnM : n0 ≤ M.1) {x : Cf} (d : decode (cod K) pc = .ok (i, len)) (hk : lok i len = true) (h : stM K i pc L st M = some x) (hrc : x.2.2.2.1 - n0 ≤ R.cells) (hrs : sl x.2.2.2.1 - sl n0 ≤ R.slots)
    (k : ∀ (H1 : Heap) (locs1 : List Loc), HV g x.2.2.2 H1 → va_S (fun q => g.1 ≤ q) s.heap H1 locs1 → WW p l e R s m args below meth c Q g K n0 H1 locs1 x) : WW p l e R s m args below meth c Q g K n0 H locs (pc, L, st, M) := by
  unfold stM at h
  split at h
  · have q : len = 1 := by simpa [lok] using hk
    subst q
    obtain ⟨z, hz, rfl⟩ := Option.map_eq_some_iff.mp h
    exact snd_ard hX hH hS (Or.inl ⟨rfl, rfl⟩) d hz (k H locs hH hS)
  · have q : len = 1 := by simpa [lok] using hk
    subst q
    obtain ⟨z, hz, rfl⟩ := Option.map_eq_some_iff.mp h
    exact snd_ard hX hH hS (Or.inr (Or.inl ⟨rfl, rfl⟩)) d hz (k H locs hH hS)
  · have q : len = 1 := by simpa [lok] using hk
    subst q
    obtain ⟨z, hz, rfl⟩ := Option.map_eq_some_iff.mp h
    exact snd_ard hX hH hS (Or.inr (Or.inr ⟨rfl, rfl⟩)) d hz (k H locs hH hS)
  · have q : len = 1 := by simpa [lok] using hk
    subst q
    split at h
    · rename_i hc
      cases h
      exact snd_aald hX hH d hc.1 ⟨hc.2.1, hc.2.2.1⟩ hc.2.2.2 (k H locs hH hS)
    · cases h
  · have q : len = 1 := by simpa [lok] using hk
    subst q
    obtain ⟨z, hz, rfl⟩ := Option.map_eq_some_iff.mp h
    exact snd_alen hX hH hS d hz (k H locs hH hS)
  · have q : len = 1 := by simpa [lok] using hk
    subst q
    split at h
    · rename_i hc
      cases h
      exact snd_ast hX hH hS (Or.inl ⟨rfl, rfl, rfl⟩) d hc.1 ⟨hc.2.1, hc.2.2.1⟩ hc.2.2.2 k
    · cases h
  · have q : len = 1 := by simpa [lok] using hk
    subst q
    split at h
    · rename_i hc
      cases h
      exact snd_ast hX hH hS (Or.inr (Or.inl ⟨rfl, rfl, rfl⟩)) d hc.1 ⟨hc.2.1, hc.2.2.1⟩ hc.2.2.2 k
    · cases h
  · have q : len = 1 := by simpa [lok] using hk
    subst q
    split at h
    · rename_i hc
      cases h
      exact snd_ast hX hH hS (Or.inr (Or.inr ⟨rfl, rfl, rfl⟩)) d hc.1 ⟨hc.2.1, hc.2.2.1⟩ hc.2.2.2 k
    · cases h
  · have q : len = 1 := by simpa [lok] using hk
    subst q
    split at h
    · rename_i hc
      cases h
      exact snd_aast hX hH hS d hc.1 ⟨hc.2.1, hc.2.2.1⟩ hc.2.2.2.1 hc.2.2.2.2.1 ⟨hc.2.2.2.2.2.1, hc.2.2.2.2.2.2⟩ k
    · cases h
  · have q : len = 3 := by simpa [lok] using hk
    subst q
    split at h
    · rename_i y hy
      obtain ⟨z, hz, rfl⟩ := Option.map_eq_some_iff.mp h
      exact snd_getf hX hH hS d hy hz (k H locs hH hS)
    · cases h
  · have q : len = 3 := by simpa [lok] using hk
    subst q
    split at h
    · rename_i y hy
      split at h
      · rename_i hw
        obtain ⟨z, hz, rfl⟩ := Option.map_eq_some_iff.mp h
        exact snd_putf hX hH hS d hy hw hz k
      · cases h
    · cases h
  · have q : len = 3 := by simpa [lok] using hk
    subst q
    split at h
    · rename_i y hy
      cases h
      exact snd_gets hX hS d hy (k H locs hH hS)
    · cases h
  · have q : len = 2 := by simpa [lok] using hk
    subst q
    split at h
    · rename_i y hy
      cases h
      exact snd_ldc hX d hy (k H locs hH hS)
    · cases h
  · have q : len = 3 := by simpa [lok] using hk
    subst q
    split at h
    · rename_i o1 i1 v hy
      cases h
      exact snd_ldcw hX d hy (k H locs hH hS)
    · cases h
  · have q : len = 3 := by simpa [lok] using hk
    subst q
    split at h
    · rename_i y hy
      cases h
      exact snd_ldc2 hX d hy (k H locs hH hS)
    · cases h
  · have q : len = 3 := by simpa [lok] using hk
    subst q
    split at h
    · rename_i y hy
      split at h
      · rename_i hc
        cases h
        exact snd_new hX hH hS hnM hrc hrs d hy hc.1 hc.2 (fun H1 h1 h2 => k H1 locs h1 h2)
      · cases h
    · cases h
  · have q : len = 2 := by simpa [lok] using hk
    subst q
    obtain ⟨hc, hh⟩ := Option.ite_none_right_eq_some.mp h
    cases hh
    exact snd_newa hX hH hS hnM hrc hrs d hc.1 hc.2.1 hc.2.2.1 hc.2.2.2 (fun H1 h1 h2 => k H1 locs h1 h2)
  · have q : len = 3 := by simpa [lok] using hk
    subst q
    obtain ⟨hc, hh⟩ := Option.ite_none_right_eq_some.mp h
    cases hh
    exact snd_anew hX hH hS hnM hrc hrs d hc.1 hc.2.1 hc.2.2.1 hc.2.2.2.1 hc.2.2.2.2 (fun H1 h1 h2 => k H1 locs h1 h2)
  · have q : len = 4 := by simpa [lok] using hk
    subst q
    obtain ⟨hc, hh⟩ := Option.ite_none_right_eq_some.mp h
    have hh := Option.some.inj hh
    obtain ⟨c1, rfl, c3, c4, rfl, rfl, c7, c8⟩ := hc
    subst hh
    exact snd_mna hX hH hS hnM hrc hrs d c1 c3 c4 c7 c8 rfl rfl (fun H1 h1 h2 => k H1 locs h1 h2)
  · cases h
/-- what is asked of the calls -/
def ORC (l : Launch) (g : Gl) (F : Orc) (r : Nat) : Prop := ∀ (y : Nat) (av : List Value) (M : Mm) (v : Option Value) (M' : Mm), y < 171 → rk y < r → F y av M = some (v, M') → M.1 ≤ M'.1 ∧ MetK l g y av M v M'
theorem mono_C {x : Cf} (hF : ORC l g F (rk K)) (h : stC F K i pc L st M = some x) : M.1 ≤ x.2.2.2.1 := by
  unfold stC at h
  split at h
  · split at h
    · rename_i y hy
      split at h
      · rename_i hc
        obtain ⟨z, hz, rfl⟩ := Option.map_eq_some_iff.mp h
        exact (hF _ _ _ z.1 z.2 (nm_ok hy).1 hc.2.2.2.1 hz).1
      · cases h
    · split at h
      · split at h
        · obtain ⟨z, hz, rfl⟩ := Option.map_eq_some_iff.mp h
          exact Nat.le_refl _
        · cases h
      · cases h
  · split at h
    · rename_i y hy
      split at h
      · split at h
        · rename_i hc
          obtain ⟨z, hz, rfl⟩ := Option.map_eq_some_iff.mp h
          exact (hF _ _ _ z.1 z.2 (nm_ok hy).1 hc.2.2.2.1 hz).1
        · cases h
      · cases h
    · cases h
  · split at h
    · rename_i y hy
      split at h
      · split at h
        · rename_i hc
          split at h
          · rename_i M' hz
            cases h
            exact (hF _ _ _ none M' (nm_ok hy).1 hc.2.2.2.1 hz).1
          · cases h
        · cases h
      · cases h
    · split at h
      · split at h
        · cases h; exact Nat.le_refl _
        · cases h
      · cases h
  · cases h
theorem snd_C (hX : FXD p R s m args meth c g K n0) (hF : ORC l g F (rk K)) (hH : HV g M H) (hS : va_S (fun q => g.1 ≤ q) s.heap H locs) (hnM : n0 ≤ M.1) {x : Cf} (d : decode (cod K) pc = .ok (i, len)) (hk : lok i len = true) (h : stC F K i pc L st M = some x) (hrc : x.2.2.2.1 - n0 ≤ R.cells) (hrs : sl x.2.2.2.1 - sl n0 ≤ R.slots)
    (k : ∀ (H1 : Heap) (locs1 : List Loc), HV g x.2.2.2 H1 → va_S (fun q => g.1 ≤ q) s.heap H1 locs1 → WW p l e R s m args below meth c Q g K n0 H1 locs1 x) : WW p l e R s m args below meth c Q g K n0 H locs (pc, L, st, M) := by
  unfold stC at h
  split at h
  · have q : len = 3 := by simpa [lok] using hk
    subst q
    split at h
    · rename_i y hy
      split at h
      · rename_i hc
        obtain ⟨z, hz, rfl⟩ := Option.map_eq_some_iff.mp h
        obtain ⟨c1, c2, c3, c4, c5⟩ := hc
        obtain ⟨m1, m2⟩ := hF _ _ _ z.1 z.2 (nm_ok hy).1 c4 hz
        have hst : st = (st.take y.2.2.2.2.2.2.2.2).reverse.reverse ++ st.drop y.2.2.2.2.2.2.2.2 := by rw [List.reverse_reverse, List.take_append_drop]
        have hl : (st.drop y.2.2.2.2.2.2.2.2).length ≤ 4 := by rw [List.length_drop]; omega
        have ha : ((st.take y.2.2.2.2.2.2.2.2).reverse).length = y.2.2.2.2.2.2.2.2 := by rw [List.length_reverse, List.length_take]; omega
        generalize hav : (st.take y.2.2.2.2.2.2.2.2).reverse = av at hst m2 ha
        generalize hrs9 : st.drop y.2.2.2.2.2.2.2.2 = rst at hst hl k
        rw [hst]
        exact snd_calls hX hH hS hnM m1 hrc hrs d hy c1 c4 c5 ha hl m2 k
      · cases h
    · split at h
      · rename_i hn
        split at h
        · rename_i hc
          obtain ⟨z, hz, rfl⟩ := Option.map_eq_some_iff.mp h
          exact snd_cpy hX hH hS d hn hc.1 hc.2 hz k
        · cases h
      · cases h
  · have q : len = 3 := by simpa [lok] using hk
    subst q
    split at h
    · rename_i y hy
      split at h
      · rename_i a r hdr
        split at h
        · rename_i hc
          obtain ⟨z, hz, rfl⟩ := Option.map_eq_some_iff.mp h
          obtain ⟨c1, c2, c3, c4, c5, c6⟩ := hc
          obtain ⟨m1, m2⟩ := hF _ _ _ z.1 z.2 (nm_ok hy).1 c4 hz
          have hst : st = (st.take y.2.2.2.2.2.2.2.2).reverse.reverse ++ .ref a :: r := by rw [List.reverse_reverse, ← hdr, List.take_append_drop]
          have ha : ((st.take y.2.2.2.2.2.2.2.2).reverse).length = y.2.2.2.2.2.2.2.2 := by rw [List.length_reverse, List.length_take]; omega
          generalize hav : (st.take y.2.2.2.2.2.2.2.2).reverse = av at hst m2 ha
          rw [hst]
          exact snd_callv hX hH hS hnM m1 hrc hrs d hy c1 c4 c5 ha c3 c6 m2 k
        · cases h
      · cases h
    · cases h
  · have q : len = 3 := by simpa [lok] using hk
    subst q
    split at h
    · rename_i y hy
      split at h
      · rename_i a r hdr
        split at h
        · rename_i hc
          split at h
          · rename_i M' hz
            cases h
            obtain ⟨c1, c2, c3, c4, c5⟩ := hc
            obtain ⟨m1, m2⟩ := hF _ _ _ none M' (nm_ok hy).1 c4 hz
            have hst : st = (st.take y.2.2.2.2.2.2.2.2).reverse.reverse ++ .ref a :: r := by rw [List.reverse_reverse, ← hdr, List.take_append_drop]
            have ha : ((st.take y.2.2.2.2.2.2.2.2).reverse).length = y.2.2.2.2.2.2.2.2 := by rw [List.length_reverse, List.length_take]; omega
            generalize hav : (st.take y.2.2.2.2.2.2.2.2).reverse = av at hst m2 ha
            rw [hst]
            exact snd_calli hX hH hS hnM m1 hrc hrs d hy c1 c4 c5 ha c3 m2 k
          · cases h
        · cases h
      · cases h
    · split at h
      · rename_i hn
        split at h
        · rename_i hc
          cases h
          exact snd_oin hX d hn hc.1 hc.2 (k H locs hH hS)
        · cases h
      · cases h
  · cases h
theorem stp_cases {x : Cf} {z : Cf ⊕ Rz} (h : stp F K x = some z) : ∃ (i : Instr) (len : Nat), decode (cod K) x.1 = .ok (i, len) ∧ lok i len = true ∧
    ((∃ r, z = .inr r ∧ stR K i x.2.2.1 x.2.2.2 = some r) ∨ (∃ y, z = .inl y ∧ (stA i x.1 x.2.1 x.2.2.1 x.2.2.2 = some y ∨ stBn i x.1 x.2.1 x.2.2.1 x.2.2.2 = some y ∨ stUn i x.1 x.2.1 x.2.2.1 x.2.2.2 = some y ∨ stJ i len x.1 x.2.1 x.2.2.1 x.2.2.2 = some y ∨ stM K i x.1 x.2.1 x.2.2.1 x.2.2.2 = some y ∨ stC F K i x.1 x.2.1 x.2.2.1 x.2.2.2 = some y))) := by
  unfold stp at h
  split at h
  · cases h
  · rename_i i len d
    split at h
    · cases h
    · rename_i hk
      refine ⟨i, len, d, by simpa using hk, ?_⟩
      split at h
      · rename_i r hr
        cases h
        exact Or.inl ⟨r, rfl, hr⟩
      · right
        split at h
        · rename_i y hy
          cases h
          exact ⟨y, rfl, Or.inl hy⟩
        · split at h
          · rename_i y hy
            cases h
            exact ⟨y, rfl, Or.inr (Or.inl hy)⟩
          · split at h
            · rename_i y hy
              cases h
              exact ⟨y, rfl, Or.inr (Or.inr (Or.inl hy))⟩
            · split at h
              · rename_i y hy
                cases h
                exact ⟨y, rfl, Or.inr (Or.inr (Or.inr (Or.inl hy)))⟩
              · split at h
                · rename_i y hy
                  cases h
                  exact ⟨y, rfl, Or.inr (Or.inr (Or.inr (Or.inr (Or.inl hy))))⟩
                · split at h
                  · rename_i y hy
                    cases h
                    exact ⟨y, rfl, Or.inr (Or.inr (Or.inr (Or.inr (Or.inr hy))))⟩
                  · cases h
theorem stR_mem {r : Rz} (h : stR K i st M = some r) : r.2 = M := by
  unfold stR at h
  split at h
  · split at h
    · split at h
      · cases h; rfl
      · cases h
    · cases h
  · split at h
    · cases h; rfl
    · cases h
  · split at h
    · cases h; rfl
    · cases h
  · cases h
theorem same_A {y : Cf} (h : stA i pc L st M = some y) : y.2.2.2 = M := by
  unfold stA at h
  split at h
  · cases h; rfl
  · split at h
    · split at h
      · split at h
        · cases h; rfl
        · cases h
      · cases h
    · split at h
      · split at h
        · split at h
          · split at h
            · split at h
              · cases h; rfl
              · cases h
            · split at h
              · cases h; rfl
              · cases h
          · cases h
        · cases h
      · cases h
theorem same_B {y : Cf} (h : stBn i pc L st M = some y) : y.2.2.2 = M := by
  unfold stBn at h
  split at h
  · obtain ⟨z, hz, rfl⟩ := Option.map_eq_some_iff.mp h; rfl
  · split at h
    · cases h; rfl
    · obtain ⟨z, hz, rfl⟩ := Option.map_eq_some_iff.mp h; rfl
  · obtain ⟨z, hz, rfl⟩ := Option.map_eq_some_iff.mp h; rfl
  · obtain ⟨z, hz, rfl⟩ := Option.map_eq_some_iff.mp h; rfl
  · obtain ⟨z, hz, rfl⟩ := Option.map_eq_some_iff.mp h; rfl
  · cases h
theorem same_U {y : Cf} (h : stUn i pc L st M = some y) : y.2.2.2 = M := by
  unfold stUn at h
  split at h
  · obtain ⟨z, hz, rfl⟩ := Option.map_eq_some_iff.mp h; rfl
  · cases h
theorem same_J {y : Cf} (h : stJ i len pc L st M = some y) : y.2.2.2 = M := by
  unfold stJ at h
  split at h
  · split at h
    · cases h; rfl
    · cases h
  · split at h
    · split at h
      · cases h; rfl
      · cases h
    · cases h
  · split at h
    · split at h
      · cases h; rfl
      · cases h
    · cases h
  · split at h
    · split at h
      · cases h; rfl
      · cases h
    · cases h
  · split at h
    · split at h
      · split at h
        · cases h; rfl
        · cases h
      · split at h
        · split at h
          · cases h; rfl
          · cases h
        · cases h
    · cases h
  · split at h
    · split at h
      · cases h; rfl
      · cases h
    · cases h
  · split at h
    · split at h
      · cases h; rfl
      · cases h
    · cases h
  · split at h
    · split at h
      · cases h; rfl
      · cases h
    · cases h
  · split at h
    · split at h
      · cases h; rfl
      · cases h
    · cases h
  · cases h
theorem run_mono1 (hF : ORC l g F (rk K)) : ∀ (f : Nat) (x : Cf) (v : Option Value) (M' : Mm), run F K f x = some (v, M') → x.2.2.2.1 ≤ M'.1 := by
  intro f
  induction f with
  | zero => intro x v M' h; cases h
  | succ f ih =>
    intro x v M' h
    rw [run] at h
    cases hs : stp F K x with
    | none => rw [hs] at h; cases h
    | some z =>
      rw [hs] at h
      obtain ⟨i, len, d, hk, hcase⟩ := stp_cases hs
      rcases hcase with ⟨r, rfl, hr⟩ | ⟨y, rfl, hy⟩
      · have h2 := Option.some.inj h
        have := stR_mem hr
        rw [h2] at this
        rw [← this]
        exact Nat.le_refl _
      · have h2 := ih y v M' h
        have h3 : x.2.2.2.1 ≤ y.2.2.2.1 := by
          rcases hy with h | h | h | h | h | h
          · rw [same_A h]; exact Nat.le_refl _
          · rw [same_B h]; exact Nat.le_refl _
          · rw [same_U h]; exact Nat.le_refl _
          · rw [same_J h]; exact Nat.le_refl _
          · exact mono_M h
          · exact mono_C hF h
        exact Nat.le_trans h3 h2
/-- a picture's run is a run of the machine -/
theorem run_sound (hX : FXD p R s m args meth c g K n0) (hF : ORC l g F (rk K)) {v : Option Value} {M' : Mm} (hrc : M'.1 - n0 ≤ R.cells) (hrs : sl M'.1 - sl n0 ≤ R.slots)
    (END : ∀ (pc : Nat) (st : List Value) (H : Heap) (locs : List Loc) (i : Instr) (len : Nat) (ls : Array Slot), decode (cod K) pc = .ok (i, len) → lok i len = true → stR K i st M' = some (v, M') → HV g M' H → va_S (fun q => g.1 ≤ q) s.heap H locs → W p l e R s m args below meth c H locs (M'.1 - n0) (sl M'.1 - sl n0) Q (F0 m pc ls (st.map (cv g)))) :
    ∀ (f : Nat) (x : Cf) (H : Heap) (locs : List Loc), run F K f x = some (v, M') → n0 ≤ x.2.2.2.1 → HV g x.2.2.2 H → va_S (fun q => g.1 ≤ q) s.heap H locs → WW p l e R s m args below meth c Q g K n0 H locs x := by
  intro f
  induction f with
  | zero => intro x H locs h; cases h
  | succ f ih =>
    intro x H locs h hn hH hS
    have hm := run_mono1 hF (f + 1) x v M' h
    rw [run] at h
    cases hs : stp F K x with
    | none => rw [hs] at h; cases h
    | some z =>
      rw [hs] at h
      obtain ⟨i, len, d, hk, hcase⟩ := stp_cases hs
      rcases hcase with ⟨r, rfl, hr⟩ | ⟨y, rfl, hy⟩
      · have h2 : r = (v, M') := Option.some.inj h
        subst h2
        have h3 := stR_mem hr
        obtain ⟨pc, L, st, M⟩ := x
        have h4 : M' = M := h3
        subst h4
        exact fun _ ls _ => END pc st H locs i len ls d hk hr hH hS
      · have h2 : run F K f y = some (v, M') := h
        have h3 := run_mono1 hF f y v M' h2
        have h4 := sl_mono h3
        obtain ⟨pc, L, st, M⟩ := x
        rcases hy with h | h | h | h | h | h
        · have e9 : y.2.2.2 = M := same_A h
          exact (snd_A hX d hk h (ih y H locs h2 (by rw [e9]; exact hn) (by rw [e9]; exact hH) hS)).1
        · have e9 : y.2.2.2 = M := same_B h
          exact (snd_Bn hX d hk h (ih y H locs h2 (by rw [e9]; exact hn) (by rw [e9]; exact hH) hS)).1
        · have e9 : y.2.2.2 = M := same_U h
          exact (snd_Un hX d hk h (ih y H locs h2 (by rw [e9]; exact hn) (by rw [e9]; exact hH) hS)).1
        · have e9 : y.2.2.2 = M := same_J h
          exact (snd_J hX d hk h (ih y H locs h2 (by rw [e9]; exact hn) (by rw [e9]; exact hH) hS)).1
        · have h5 : M.1 ≤ y.2.2.2.1 := mono_M h
          exact snd_M hX hH hS hn d hk h (by omega) (by omega) (fun H1 locs1 k1 k2 => ih y H1 locs1 h2 (Nat.le_trans hn h5) k1 k2)
        · have h5 : M.1 ≤ y.2.2.2.1 := mono_C hF h
          exact snd_C hX hF hH hS hn d hk h (by omega) (by omega) (fun H1 locs1 k1 k2 => ih y H1 locs1 h2 (Nat.le_trans hn h5) k1 k2)
end SND9
