/-! THE CLAIM OUT OF ONE WALK OF THE LAW'S BODY. Your part is whole_start (and what it stands on); all else here is the same for every law, but numbers. -/
def lw_P (b : Addr) (xs : List Int32) (args : Array Value) (s : State) : Prop := args = #[.ref b] ∧ s.IntsAt b xs ∧ xs.length ≤ 260 ∧ (Jvm.Cond.and given_1 narrow_1).before args s = true
/-- what a walk over the start with the record d0 says of its end, said of the start itself -/
theorem lw_closed {s t : State} {o : Outcome} {d0 : Drawn} {L : List Loc} {k n : Nat} (hd0 : s.drawn.sameBut d0 lw_cs) (hv : ∃ v, o = .returned v) (hW : (s.setDrawn d0).WarmedH t.vm) (hs : (s.setDrawn d0).sameButNew ({ t with vm := s.vm } : State) L k n) : State.butDraws s t lw_cs (fun t1 => Framed s o t1 L k n) := by
  have h2 : t.drawn = d0 := congrArg State.drawn hs.1
  refine ⟨⟨hv, hW, State.sameButNew.setDrawn hs s.drawn⟩, ?_, by decide⟩
  rw [h2]
  exact hd0
def lw_Q (_ : Array Value) (s : State) (o : Outcome) (t : State) : Prop := o = .returned (some (.int 1)) ∧ State.butDraws s t lw_cs (fun t1 => Framed s o t1 [] 600000 7302249)
def lw_Z (below : List Frame) (a : Array Value) (s : State) : State → Prop := fun t => ∃ o, t.status = .running ∧ Ended t below o ∧ lw_Q a s o t
/-- the law's own end, with 1 on the stack, nothing written that was there before, its room as the claim has it; d0: the record of draws at this point (at the entry s.drawn: begin with 'refine W.base ?_' and 'have hd0 := Drawn.sameBut.refl s.drawn lw_cs') -/
theorem lw_ret {p : Program} {l : Launch} {e : Env} {s : State} {m : MethodId} {below : List Frame} {meth : Method} {c : Code} {b : Nat} {d0 : Drawn} (hd0 : s.drawn.sameBut d0 lw_cs) (hx : p.tables.exec = Jvm.exec) (hb : c.code = code) (hr : meth.sig.returnType = ret) (hlocks : meth.locks = false) {pc : Nat} {H : Heap} {ls : Array Slot} (hdg : decode code pc = .ok (.ireturn, 1)) : W p l e room_1 (s.setDrawn d0) m #[Value.ref b] below meth c H [] 600000 7302249 (lw_Z below #[Value.ref b] s) (F0 m pc ls [.int 1]) := by
  intro T hT X
  obtain ⟨fs, hret, hrun, hended, hW, hframe⟩ := X.leave (v := some (.int 1)) (hlocks := hlocks) (fun h => by rw [hr] at h; cases h)
  have hmeth' : T.vm.method? m = some meth := X.method'
  refine ⟨T.setFrames fs, ?_, .returned (some (.int 1)), hrun, hended, rfl, lw_closed hd0 ⟨_, rfl⟩ hW hframe⟩
  jvm_step X.here [X.here.top, hx, hb, hdg, hmeth', hr, ret, narrow_b1]
  (try refine ⟨rfl, ?_⟩); (try refine ⟨rfl, ?_⟩)
  first | (intro acts; rw [hret _ acts rfl rfl rfl]) | rw [hret _ _ rfl rfl rfl]
  exact Steps.refl _
/-- what holds at the law's entry: the machine, the code, the tables' words (any of lw_tbl by 'hts w (by decide +kernel)'), the script of L ints xs at the cell b, what the Statement gives of the start (any of its parts by flat_of_before) -/
def lw_At (p : Program) (s : State) (m : MethodId) (meth : Method) (c : Code) (b L : Nat) (xs : Nat → Int32) : Prop :=
  p.tables.exec = Jvm.exec ∧ c.code = code ∧ meth.sig.returnType = ret ∧ c.maxLocals = 16 ∧ s.vm.findClass R_law = some m.cls ∧ (∀ w ∈ lw_tbl, w.before #[Value.ref b] s = true) ∧ va_X b L xs s s.heap ∧ b < s.heap.size ∧ meth.locks = false ∧ (Jvm.Cond.and given_1 narrow_1).before #[Value.ref b] s = true
/-! THE LAW'S START, and the claim out of the picture machine's answer for the law -/
theorem arrT_of {s : State} {c : ClassId} {ty : FieldType} {k : Class} {comp : ClassId} (h1 : s.vm.classes[c]? = some k) (h2 : k.kind = .array comp ty) : ArrOfT s c ty := fun N z => ⟨(fun q h => by cases h), k, h1, comp, h2⟩
/-- the pictures' first memory: the script alone -/
def I0 (L : Nat) (xs : Nat → Int32) : Nat → Nat → Int32 := fun v => if v = 60 then xs else if v = 61 then (fun _ => nI L) else fun _ => 0
def M0 (L : Nat) (xs : Nat → Int32) : Mm := (0, I0 L xs, fun _ _ => none)
theorem env_at {p : Program} {s : State} {m : MethodId} {meth : Method} {c : Code} {b L : Nat} {xs : Nat → Int32} (hL : L ≤ 260) (C0 : lw_At p s m meth c b L xs) : ∃ g : Gl, ENV g s ∧ g.1 = s.heap.size ∧ g.2.1 1000 = b ∧ HV g (M0 L xs) s.heap := by
  obtain ⟨hx, hb, hr, hml, hown, hts, hX, hbl, hlocks, hgv⟩ := C0
  have hs := flat_of_before _ hgv
  have hA : ∀ a : Nat, a < s.heap.size → ¬ (fun q : Nat => s.heap.size ≤ q) a := fun a h => Nat.not_le.mpr h
  have hA' : ∀ a : Nat, a < s.heap.size → ¬ (s.heap.size ≤ a) := fun a h => Nat.not_le.mpr h
  -- the classes
  obtain ⟨c0, i0, k0⟩ := u_known (C := RX0) (T := TX0) (N := 5) (n := 5) hts (fun w h => (gT_0 w h).1) (hts _ wi_0.1)
  obtain ⟨c1, i1, k1⟩ := u_known (C := RX1) (T := TX1) (N := 17) (n := 17) hts (fun w h => (gT_1 w h).1) (hts _ wi_1.1)
  obtain ⟨c2, i2, k2⟩ := u_known (C := RX2) (T := TX2) (N := 10) (n := 10) hts (fun w h => (gT_2 w h).1) (hts _ wi_2.1)
  obtain ⟨a5, y5, z5, f5, g5, e5⟩ := Cond.arrayClass_spec (hts _ wy_int.1)
  obtain ⟨a6, y6, z6, f6, g6, e6⟩ := Cond.arrayClass_spec (hts _ wy_char.1)
  obtain ⟨a7, y7, z7, f7, g7, e7⟩ := Cond.arrayClass_spec (hts _ wy_boolean.1)
  have hAO : va_AO "HandoverDesk$State" s := va_AO.of (hts _ wao_s)
  have hAA : aoa s := hts _ wao_i
  obtain ⟨z8, a8, y8, f8, n8, g8, e8, h8⟩ := Cond.arrayOver_spec (va_AO.use (A := #[]) hAO)
  obtain ⟨z9, a9, y9, f9, n9, g9, e9, h9⟩ := aoa_spec hAA
  -- what stands from before
  obtain ⟨t1, v1, T1⟩ := va_Tof (N := 6) (ty := .int) (tm := .static "HandoverDesk" "FIRST_SETTING" "[I") (f := fun j => .int (csI 1001 j)) (by decide) (hs _ (by decide +kernel)) (va_eqt (hs (.eq (.length (.static "HandoverDesk" "FIRST_SETTING" "[I")) (.int 6)) (by decide +kernel))) (fun j hj => by
    rcases (show j = 0 ∨ j = 1 ∨ j = 2 ∨ j = 3 ∨ j = 4 ∨ j = 5 by omega) with rfl | rfl | rfl | rfl | rfl | rfl
    · exact va_eqt (hs (.eq (.elem (.static "HandoverDesk" "FIRST_SETTING" "[I") (.int 0)) (.int 50)) (by decide +kernel))
    · exact va_eqt (hs (.eq (.elem (.static "HandoverDesk" "FIRST_SETTING" "[I") (.int 1)) (.int 5)) (by decide +kernel))
    · exact va_eqt (hs (.eq (.elem (.static "HandoverDesk" "FIRST_SETTING" "[I") (.int 2)) (.int 10)) (by decide +kernel))
    · exact va_eqt (hs (.eq (.elem (.static "HandoverDesk" "FIRST_SETTING" "[I") (.int 3)) (.int 8)) (by decide +kernel))
    · exact va_eqt (hs (.eq (.elem (.static "HandoverDesk" "FIRST_SETTING" "[I") (.int 4)) (.int 3)) (by decide +kernel))
    · exact va_eqt (hs (.eq (.elem (.static "HandoverDesk" "FIRST_SETTING" "[I") (.int 5)) (.int 40)) (by decide +kernel))) hA
  obtain ⟨t2, v2, T2⟩ := va_Tof (N := 6) (ty := .int) (tm := .static "HandoverDesk" "LEAST_SETTING" "[I") (f := fun j => .int (csI 1002 j)) (by decide) (hs _ (by decide +kernel)) (va_eqt (hs (.eq (.length (.static "HandoverDesk" "LEAST_SETTING" "[I")) (.int 6)) (by decide +kernel))) (fun j hj => by
    rcases (show j = 0 ∨ j = 1 ∨ j = 2 ∨ j = 3 ∨ j = 4 ∨ j = 5 by omega) with rfl | rfl | rfl | rfl | rfl | rfl
    · exact va_eqt (hs (.eq (.elem (.static "HandoverDesk" "LEAST_SETTING" "[I") (.int 0)) (.int 1)) (by decide +kernel))
    · exact va_eqt (hs (.eq (.elem (.static "HandoverDesk" "LEAST_SETTING" "[I") (.int 1)) (.int 1)) (by decide +kernel))
    · exact va_eqt (hs (.eq (.elem (.static "HandoverDesk" "LEAST_SETTING" "[I") (.int 2)) (.int 0)) (by decide +kernel))
    · exact va_eqt (hs (.eq (.elem (.static "HandoverDesk" "LEAST_SETTING" "[I") (.int 3)) (.int 0)) (by decide +kernel))
    · exact va_eqt (hs (.eq (.elem (.static "HandoverDesk" "LEAST_SETTING" "[I") (.int 4)) (.int 0)) (by decide +kernel))
    · exact va_eqt (hs (.eq (.elem (.static "HandoverDesk" "LEAST_SETTING" "[I") (.int 5)) (.int 0)) (by decide +kernel))) hA
  obtain ⟨t3, v3, T3⟩ := va_Tof (N := 6) (ty := .int) (tm := .static "HandoverDesk" "MOST_SETTING" "[I") (f := fun j => .int (csI 1003 j)) (by decide) (hs _ (by decide +kernel)) (va_eqt (hs (.eq (.length (.static "HandoverDesk" "MOST_SETTING" "[I")) (.int 6)) (by decide +kernel))) (fun j hj => by
    rcases (show j = 0 ∨ j = 1 ∨ j = 2 ∨ j = 3 ∨ j = 4 ∨ j = 5 by omega) with rfl | rfl | rfl | rfl | rfl | rfl
    · exact va_eqt (hs (.eq (.elem (.static "HandoverDesk" "MOST_SETTING" "[I") (.int 0)) (.int 100)) (by decide +kernel))
    · exact va_eqt (hs (.eq (.elem (.static "HandoverDesk" "MOST_SETTING" "[I") (.int 1)) (.int 20)) (by decide +kernel))
    · exact va_eqt (hs (.eq (.elem (.static "HandoverDesk" "MOST_SETTING" "[I") (.int 2)) (.int 50)) (by decide +kernel))
    · exact va_eqt (hs (.eq (.elem (.static "HandoverDesk" "MOST_SETTING" "[I") (.int 3)) (.int 20)) (by decide +kernel))
    · exact va_eqt (hs (.eq (.elem (.static "HandoverDesk" "MOST_SETTING" "[I") (.int 4)) (.int 99)) (by decide +kernel))
    · exact va_eqt (hs (.eq (.elem (.static "HandoverDesk" "MOST_SETTING" "[I") (.int 5)) (.int 999)) (by decide +kernel))) hA
  refine ⟨(s.heap.size, (fun a => if a = 1000 then b else if a = 1001 then t1 else if a = 1002 then t2 else t3), ((fun k => if k = 0 then c0 else if k = 1 then c1 else c2), (fun k => if k = 0 then i0 else if k = 1 then i1 else i2)), (fun k => if k = 5 then a5 else if k = 6 then a6 else if k = 7 then a7 else if k = 8 then a8 else a9), xs, nI L), ⟨⟨?_, ?_⟩, ?_⟩, rfl, rfl, ?_⟩
  · intro k q hq
    match k, hq with
    | 0, hq => cases hq; exact k0
    | 1, hq => cases hq; exact k1
    | 2, hq => cases hq; exact k2
    | k + 3, hq => simp [vwCl] at hq
  · intro k q hq
    match k, hq with
    | 0, hq => cases hq; exact ⟨arrT_of g5 e5, f5⟩
    | 1, hq => cases hq; exact ⟨arrT_of g6 e6, f6⟩
    | 2, hq => cases hq; exact ⟨arrT_of g7 e7, f7⟩
    | 3, hq => cases hq; exact ⟨arrT_of g8 e8, y8, z8, g8, e8, f8, h8⟩
    | 4, hq => cases hq; exact ⟨arrT_of g9 e9, h9⟩
    | k + 5, hq => simp [tysG] at hq
  · refine ⟨?_, hbl, hbl, ⟨va_Zref (hts _ wl_FIRST_SETTING) (hts _ wzz_desk.1) v1 hA, va_Zref (hts _ wl_LEAST_SETTING) (hts _ wzz_desk.1) v2 hA, va_Zref (hts _ wl_MOST_SETTING) (hts _ wzz_desk.1) v3 hA⟩, ?_, trivial, trivial, ?_, hAO, hAA⟩
    · show va_X b (nI L).toNatClampNeg xs s s.heap
      rw [nI_clamp (by omega)]
      exact hX
    · intro a ha hb4
      rcases (show a = 1001 ∨ a = 1002 ∨ a = 1003 by omega) with rfl | rfl | rfl
      · exact T1
      · exact T2
      · exact T3
    · exact ⟨va_Nw.of rfl (hts _ wnm_0), va_Nw.of rfl (hts _ wnm_1), va_Nw.of rfl (hts _ wnm_2), va_Nw.of rfl (hts _ wnf_0), va_Nw.of rfl (hts _ wnf_1), va_Nw.of rfl (hts _ wnf_2)⟩
  · refine ⟨Nat.zero_le _, rfl, fun k q h => ?_, rfl, rfl⟩
    rw [List.getElem?_eq_none (by rw [wl_len]; exact Nat.zero_le _)] at h
    cases h
/-- what is wanted of the pictures: the law answers 1 on every script -/
def LAWF : Prop := ∀ (L : Nat) (xs : Nat → Int32), L ≤ 260 → ∃ M' : Mm, M'.1 = 202 ∧ FF 171 [.ref 1000] (M0 L xs) = some (some (.int 1), M')
theorem start_of (hlaw : LAWF) {p : Program} {e : Env} {s : State} {m : MethodId} {below : List Frame} {meth : Method} {c : Code} (l : Launch) {b L : Nat} {xs : Nat → Int32} (hL : L ≤ 260) (C0 : lw_At p s m meth c b L xs) : W p l e room_1 s m #[Value.ref b] below meth c s.heap [] 0 0 (lw_Z below #[Value.ref b] s) (entryFrame m ([Value.ref b] : List Value).toArray 16) := by
  obtain ⟨g, hE, hg1, hgb, hH⟩ := env_at hL C0
  obtain ⟨hx, hb, hr, hml, hown, hts, hX, hbl, hlocks, hgv⟩ := C0
  have hd0 := Drawn.sameBut.refl s.drawn lw_cs
  refine W.base ?_
  obtain ⟨M', hM', hF⟩ := hlaw L xs hL
  obtain ⟨hlen, hEV⟩ := FF_some hF
  obtain ⟨f, hf⟩ := EV_run hEV
  have hE2 : ENV g (s.setDrawn s.drawn) := ENV_next (H := s.heap) (locs := []) hE (State.WarmedH.refl s) rfl va_S.rf
  have hXX : FXD p room_1 (s.setDrawn s.drawn) m #[Value.ref b] meth c g 171 0 := ⟨hx, hb, hml, hown, fun w h1 _ => dr_words hts _ w h1, fun q => absurd q (by decide +kernel), hE2, by show s.heap.size = g.1 + 0; rw [hg1]; rfl, by decide +kernel, by decide +kernel⟩
  have key := run_sound (l := l) (e := e) (below := below) (Q := lw_Z below #[Value.ref b] s) hXX (G_sound l g (rk 171)) (v := some (.int 1)) (M' := M') (by rw [hM']; decide +kernel) (by rw [hM']; decide +kernel) (fun pc st H locs i len ls d hk hst h1 h2 => by
    unfold stR at hst
    split at hst
    · have q : len = 1 := by simpa [lok] using hk
      subst q
      split at hst
      · split at hst
        · have h9 := Option.some.inj hst
          have h8 : Value.int _ = Value.int 1 := Option.some.inj (congrArg Prod.fst h9)
          have h7 := Value.int.inj h8
          subst h7
          refine va_forget (fun q hq => by have := h2.2.2 q hq; show s.heap.size ≤ q.base; rw [← hg1]; exact this) ?_
          refine W.widen (k := 600000) (n := 7302249) (by rw [hM']; decide +kernel) (by rw [hM']; decide +kernel) ?_
          exact lw_ret hd0 hx hb hr hlocks d
        · cases hst
      · cases hst
    · split at hst
      · cases hst
      · cases hst
    · split at hst
      · cases hst
      · cases hst
    · cases hst) f (0, ini 171 [.ref 1000], [], M0 L xs) s.heap [] hf (Nat.le_refl _) hH va_S.rf
  have k1 := key (ini_len hlen) _ (entry_lo hlen)
  have e5 : cv g (.ref 1000) = .ref b := by show Value.ref (ad g 1000) = _; rw [ad_ext (by decide), hgb]
  rw [lg_entry_eq]
  have k2 : W p l e room_1 (s.setDrawn s.drawn) m #[Value.ref b] below meth c s.heap [] 0 (sl 0 - sl 0) (lw_Z below #[Value.ref b] s) (F0 m 0 (lg_sl ([cv g (.ref 1000)]) ++ List.replicate (16 - (lg_sl ([cv g (.ref 1000)])).length) Slot.unset).toArray []) := k1
  rw [e5] at k2
  exact k2
