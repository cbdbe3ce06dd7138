theorem ENV_next {g : Gl} {s U : State} {H : Heap} {locs : List Loc} (hE : ENV g s) (hW : s.WarmedH U.vm) (hU : U.heap = H) (hS : va_S (fun q => g.1 ≤ q) s.heap H locs) : ENV g U := by
  obtain ⟨hK, hX, h1, h2, ⟨z1, z2, z3⟩, hT, -, -, ⟨w1, w2, w3, w4, w5, w6⟩, hA, hB⟩ := hE
  have hvm := hW.alike
  have hq : ∀ a : Nat, a < s.heap.size → ¬ (g.1 ≤ a) → H[a]? = s.heap[a]? := hS.2.1
  subst hU
  refine ⟨va_K.moved hvm hK, va_X.moved hvm (hX.kept (hq _ h1 (by omega))), Nat.lt_of_lt_of_le h1 hS.1, h2, ⟨va_Z.moved hvm (z1.kept hq), va_Z.moved hvm (z2.kept hq), va_Z.moved hvm (z3.kept hq)⟩, fun a ha hb => va_T.moved hvm ((hT a ha hb).kept hq), trivial, trivial, ⟨va_Nw.warmM hW w1, va_Nw.warmM hW w2, va_Nw.warmM hW w3, va_Nw.warmF hW w4, va_Nw.warmF hW w5, va_Nw.warmF hW w6⟩, va_AO.moved hvm hA, aoa_moved hvm hB⟩
/-- a method's start: the heap as the picture says -/
def PB (g : Gl) (M : Mm) : State → Prop := fun U => HV g M U.heap ∧ ENV g U
def QB (g : Gl) (v : Option Value) (M : Mm) : Array Value → State → Outcome → State → Prop := fun _ st o t => o = .returned (v.map (cv g)) ∧ HV g M t.heap ∧ st.heap.size ≤ t.heap.size ∧ ∀ q : Nat, q < g.1 → t.heap[q]? = st.heap[q]?
theorem PB_blind {g : Gl} {M : Mm} {av : List Value} : FrameBlind (va_Pc av (PB g M)) := by
  intro a U f mk h
  exact ⟨h.1, h.2.1, ENV_next (H := U.heap) (locs := []) h.2.2 (State.WarmedH.refl U) rfl va_S.rf⟩
def wsK (y : Nat) : List Cond := cwd y :: wsU
def rmK (y : Nat) (M M' : Mm) : Room := { frames := rk y, cells := M'.1 - M.1, slots := sl M'.1 - sl M.1, locals := 37 * rk y }
theorem wsU_in {w : Cond} (h : w ∈ wsU) : w ∈ lw_tbl ∧ goodWord w = true := by
  unfold wsU at h
  exact List.mem_filter.mp h
theorem wsK_good {y : Nat} (hy : y < 171) : GoodIn wsU (wsK y) := by
  intro w hw
  rcases List.mem_cons.mp hw with rfl | h
  · exact ⟨List.mem_filter.mpr ⟨cwd_in y hy, cwd_good y hy⟩, good_of_word (cwd_good y hy)⟩
  · exact ⟨h, good_of_word (wsU_in h).2⟩
/-- what a picture's call means on the machine -/
def MetK (l : Launch) (g : Gl) (y : Nat) (av : List Value) (M : Mm) (v : Option Value) (M' : Mm) : Prop :=
  Met l (nm y) (wsK y) (rmK y M M') (va_Pc (av.map (cv g)) (PB g M)) (QB g v M') (M'.1 - M.1) (sl M'.1 - sl M.1) (fun q => g.1 ≤ q)
section SND7
variable {p : Program} {l : Launch} {e : Env} {R : Room} {s : State} {m : MethodId} {args : Array Value} {below : List Frame} {meth : Method} {c : Code} {Q : State → Prop} {g : Gl} {K n0 : Nat}
variable {i : Instr} {len pc : Nat} {L : Lo} {st : List Value} {M M' : Mm} {H : Heap} {locs : List Loc}
theorem call_go {ls : Array Slot} {st0 rest : List Value} {v : Option Value} {a : Array Value} {mc ms cells slots : Nat} (hr : va_Run p l e R s m args below meth c H locs cells slots mc ms (F0 m pc ls st0) rest (QB g v M' a) (fun q => g.1 ≤ q)) (hS : va_S (fun q => g.1 ≤ q) s.heap H locs)
    (kk : ∀ (H1 : Heap) (locs1 : List Loc), HV g M' H1 → va_S (fun q => g.1 ≤ q) s.heap H1 locs1 → W p l e R s m args below meth c H1 locs1 (cells + mc) (slots + ms) Q (F0 m (pc + 3) ls ((v.map (cv g)).toList ++ rest))) : W p l e R s m args below meth c H locs cells slots Q (F0 m pc ls st0) := by
  intro T hT X
  obtain ⟨w, st₀, t, T', L, h0, X', hL, e1, e2, ⟨hq1, hq2, hq3, hq4⟩, go⟩ := hr T hT X
  have hw := Outcome.returned.inj hq1
  subst hw
  obtain ⟨t2, a1, b1⟩ := kk t.heap (locs ++ L) hq2 ⟨Nat.le_trans hS.1 (by rw [← h0]; exact hq3), fun q g1 g2 => by
      rw [hq4 q (Nat.not_le.mp g2), h0]
      exact hS.2.1 q g1 g2, fun q hq => by
      rcases List.mem_append.mp hq with h | h
      · exact hS.2.2 q h
      · exact hL q h⟩ T' e1 X'
  exact ⟨t2, go t2 a1, b1⟩
theorem room_go {y : Nat} (h1 : rk y < rk K) (h2 : mxl y ≤ 18) (hfr : rk K ≤ R.frames) (hlo : 37 * rk K ≤ R.locals) : (rmK y M M').frames + 1 ≤ R.frames ∧ 8 + (mxl y + 11) + (rmK y M M').locals ≤ R.locals := by
  show rk y + 1 ≤ R.frames ∧ 8 + (mxl y + 11) + 37 * rk y ≤ R.locals
  omega
theorem nm_ok {o i : Nat} {y : Ci} (h : cal o i = some y) : y.2.2.2.1 < 171 ∧ (parseMethodDescriptor (nm y.2.2.2.1).desc).map (fun d => d.parameters.length) = some y.2.2.2.2.2.2.2.2 ∧ ((nm y.2.2.2.1).cls ≠ "java/lang/invoke/MethodHandle" ∧ (nm y.2.2.2.1).cls ≠ "java/lang/invoke/VarHandle") ∧ gw y.2.2.2.2.2.2.2.1 (.initialized (nm y.2.2.2.1).cls) = true := by
  obtain ⟨hok, -⟩ := cal_ok h
  unfold okc at hok
  simp only [Bool.and_eq_true, decide_eq_true_eq] at hok
  exact ⟨hok.2.1.1.1.2, hok.2.1.1.2, hok.2.1.2, hok.2.1.1.1.1⟩
theorem snd_calls (hX : FXD p R s m args meth c g K n0) (hH : HV g M H) (hS : va_S (fun q => g.1 ≤ q) s.heap H locs) (hnM : n0 ≤ M.1) (hMM : M.1 ≤ M'.1) (hrc : M'.1 - n0 ≤ R.cells) (hrs : sl M'.1 - sl n0 ≤ R.slots) {x : Nat} {y : Ci} {v : Option Value} {av : List Value} (d : decode (cod K) pc = .ok (.invokestatic x, 3)) (hc : cal (ow K) x = some y) (hmo : y.2.2.1 = 1 ∨ y.2.2.1 = 4) (hr : rk y.2.2.2.1 < rk K) (h18 : mxl y.2.2.2.1 ≤ 18) (hal : av.length = y.2.2.2.2.2.2.2.2) (hst : st.length ≤ 4) (hM : MetK l g y.2.2.2.1 av M v M')
    (k : ∀ (H1 : Heap) (locs1 : List Loc), HV g M' H1 → va_S (fun q => g.1 ≤ q) s.heap H1 locs1 → WW p l e R s m args below meth c Q g K n0 H1 locs1 (pc + 3, L, v.toList ++ st, M')) : WW p l e R s m args below meth c Q g K n0 H locs (pc, L, av.reverse ++ st, M) := by
  intro hl ls hls
  obtain ⟨hx, hb, hml, hown, hts, hin, hE, hsz, hfr, hlo⟩ := hX
  obtain ⟨hy, hpd, hmh, hini⟩ := nm_ok hc
  obtain ⟨hok, hix⟩ := cal_ok hc
  have htU : ∀ w ∈ wsU, w.before args s = true := fun w h => hts w (wsU_in h).1 (wsU_in h).2
  have hrm := room_go (R := R) (M := M) (M' := M') hr h18 hfr hlo
  have hsm := sl_mono hnM
  have hsm2 := sl_mono hMM
  have hp : PreS s H (va_Pc (av.map (cv g)) (PB g M)) (av.map (cv g)) := ⟨PB_blind, fun U hU hW => ⟨rfl, by rw [hU]; exact hH, ENV_next hE hW hU hS⟩⟩
  have hini2 := gw_of hini
  have key : va_Run p l e R s m args below meth c H locs (M.1 - n0) (sl M.1 - sl n0) (M'.1 - M.1) (sl M'.1 - sl M.1) (F0 m pc ls ((av.reverse ++ st).map (cv g))) (st.map (cv g)) (QB g v M' (av.map (cv g)).toArray) (fun q => g.1 ≤ q) := by
    have hstack : (F0 m pc ls ((av.reverse ++ st).map (cv g))).stack = (av.map (cv g)).reverse ++ st.map (cv g) := by
      show (av.reverse ++ st).map (cv g) = _
      rw [List.map_append, List.map_reverse]
    have hWd : 2 * (F0 m pc ls ((av.reverse ++ st).map (cv g))).monitorRoom + ((st.map (cv g)).map fun v => v.category).sum ≤ 8 := by
      have h1 := cats_le (g := g) hst
      have h2 : 2 * (F0 m pc ls ((av.reverse ++ st).map (cv g))).monitorRoom = 0 := rfl
      omega
    unfold okc at hok
    rw [Bool.and_eq_true, Bool.and_eq_true] at hok
    rcases hmo with hm1 | hm4
    · rw [hm1] at hok
      have hok3 : (gw y.2.2.2.2.1 (.methodLink (cn (ow K)) y.2.1 (nm y.2.2.2.1)) && gw y.2.2.2.2.2.1 (.static (nm y.2.2.2.1))) = true := hok.2.2
      rw [Bool.and_eq_true] at hok3
      obtain ⟨g1, g2⟩ := gw_of hok3.1
      obtain ⟨g3, g4⟩ := gw_of hok3.2
      rw [hix] at g1 g2
      have hcb : CallB R s args (cn (ow K)) x (nm y.2.2.2.1) (cod y.2.2.2.1) (mxl y.2.2.2.1) (rtt y.2.2.2.1) (wsK y.2.2.2.1) (rmK y.2.2.2.1 M M') (M'.1 - M.1) (sl M'.1 - sl M.1) y.2.2.2.2.2.2.2.2 :=
        callB_of _ htU (wsK_good hy) rfl rfl rfl (hts _ hini2.1 hini2.2) (hts _ g1 g2) ⟨hmh.1, hmh.2, hpd⟩ hrm
      exact va_runS ⟨hx, hb, hml, hown, htU⟩ hM ⟨hcb, hts _ g3 g4⟩ hp rfl (by rw [List.length_map]; exact hal) hls.1 hstack hWd d ⟨by omega, by omega⟩
    · rw [hm4] at hok
      have hok3 : (gw y.2.2.2.2.2.1 (.static (nm y.2.2.2.1)) && decide ((ow K, y.2.1, y.2.2.2.1) ∈ nstL)) = true := hok.2.2
      rw [Bool.and_eq_true] at hok3
      obtain ⟨g3, g4⟩ := gw_of hok3.1
      have g5 := of_decide_eq_true hok3.2
      rw [hix] at g5
      have hN := hE.2.2.2.2.2.2.2.2.1
      have hlink : va_Nw (.methodLinkNest (cn (ow K)) x (nm y.2.2.2.1) "HandoverDesk") s := by
        simp only [nstL, List.mem_cons, List.not_mem_nil, or_false, Prod.mk.injEq] at g5
        rcases g5 with ⟨e1, e2, e3⟩ | ⟨e1, e2, e3⟩ | ⟨e1, e2, e3⟩ <;> rw [e1, e2, e3]
        · exact hN.1
        · first | exact hN.2.1 | exact hN.2.2.1
        · first | exact hN.2.2.1 | exact hN.2.1
      have hcb := va_cnB (R := R) (own := cn (ow K)) (host := "HandoverDesk") (index := x) (mc := M'.1 - M.1) (ms := sl M'.1 - sl M.1) (y := nm y.2.2.2.1) (bytes := cod y.2.2.2.1) (maxL := mxl y.2.2.2.1) (ret := rtt y.2.2.2.1) (rm := rmK y.2.2.2.1 M M') y.2.2.2.2.2.2.2.2 htU (wsK_good hy) rfl rfl rfl hlink (hts _ hini2.1 hini2.2) ⟨hmh.1, hmh.2, hpd⟩ hrm
      exact va_runSN ⟨hx, hb, hml, hown, htU⟩ hM ⟨hcb, hts _ g3 g4, trivial⟩ hp rfl (by rw [List.length_map]; exact hal) hls.1 hstack hWd d ⟨by omega, by omega⟩
  refine call_go key hS (fun H1 locs1 h1 h2 => ?_)
  have k1 := k H1 locs1 h1 h2 hl ls hls
  have e1 : M.1 - n0 + (M'.1 - M.1) = M'.1 - n0 := by omega
  have e2 : sl M.1 - sl n0 + (sl M'.1 - sl M.1) = sl M'.1 - sl n0 := by omega
  rw [e1, e2]
  have e3 : (v.map (cv g)).toList ++ st.map (cv g) = (v.toList ++ st).map (cv g) := by cases v <;> rfl
  rw [e3]
  exact k1
theorem snd_recv (hX : FXD p R s m args meth c g K n0) (hH : HV g M H) (hS : va_S (fun q => g.1 ≤ q) s.heap H locs) {C : String} {a : Nat} (ho : isO C M.1 a = true) : ∃ cellB : Cell, H[ad g a]? = some cellB ∧ cellB.vm.isStatics = false ∧ s.vm.findClass C = some cellB.cls := by
  obtain ⟨hx, hb, hml, hown, hts, hin, ⟨hK, hE⟩, hsz, hfr, hlo⟩ := hX
  have hn := hH.1
  unfold isO at ho
  by_cases ha : a < 1000
  · rw [if_pos ha] at ho
    obtain ⟨h1, h4, hp, hC⟩ := of_decide_eq_true ho
    have hM : Mad M.1 a := ⟨ha, hp⟩
    obtain ⟨q, hq, hqn, hqc⟩ := vw_at (hM.w hn) h4
    have hat := wl_at (g := g) hn hM
    rw [ent_ob h4] at hat
    have := va_recv hK hH.2.2.1 hq hat
    rw [hqc, hC] at this
    exact this
  · rw [if_neg ha] at ho
    cases ho
theorem snd_callv (hX : FXD p R s m args meth c g K n0) (hH : HV g M H) (hS : va_S (fun q => g.1 ≤ q) s.heap H locs) (hnM : n0 ≤ M.1) (hMM : M.1 ≤ M'.1) (hrc : M'.1 - n0 ≤ R.cells) (hrs : sl M'.1 - sl n0 ≤ R.slots) {x a : Nat} {y : Ci} {v : Option Value} {av : List Value} (d : decode (cod K) pc = .ok (.invokevirtual x, 3)) (hc : cal (ow K) x = some y) (hmo : y.2.2.1 = 0) (hr : rk y.2.2.2.1 < rk K) (h18 : mxl y.2.2.2.1 ≤ 18) (hal : av.length = y.2.2.2.2.2.2.2.2) (hst : st.length ≤ 4) (ho : isO (nm y.2.2.2.1).cls M.1 a = true) (hM : MetK l g y.2.2.2.1 (.ref a :: av) M v M')
    (k : ∀ (H1 : Heap) (locs1 : List Loc), HV g M' H1 → va_S (fun q => g.1 ≤ q) s.heap H1 locs1 → WW p l e R s m args below meth c Q g K n0 H1 locs1 (pc + 3, L, v.toList ++ st, M')) : WW p l e R s m args below meth c Q g K n0 H locs (pc, L, av.reverse ++ .ref a :: st, M) := by
  intro hl ls hls
  have hrecv := snd_recv hX hH hS ho
  obtain ⟨hx, hb, hml, hown, hts, hin, hE, hsz, hfr, hlo⟩ := hX
  obtain ⟨hy, hpd, hmh, hini⟩ := nm_ok hc
  obtain ⟨hok, hix⟩ := cal_ok hc
  have htU : ∀ w ∈ wsU, w.before args s = true := fun w h => hts w (wsU_in h).1 (wsU_in h).2
  have hrm := room_go (R := R) (M := M) (M' := M') hr h18 hfr hlo
  have hsm := sl_mono hnM
  have hsm2 := sl_mono hMM
  have hini2 := gw_of hini
  have hp : PreV s H (nm y.2.2.2.1).cls (ad g a) (va_Pc ((Value.ref a :: av).map (cv g)) (PB g M)) (av.map (cv g)) := ⟨PB_blind, hrecv, fun U hU hW => ⟨rfl, by rw [hU]; exact hH, ENV_next hE hW hU hS⟩⟩
  have key : va_Run p l e R s m args below meth c H locs (M.1 - n0) (sl M.1 - sl n0) (M'.1 - M.1) (sl M'.1 - sl M.1) (F0 m pc ls ((av.reverse ++ .ref a :: st).map (cv g))) (st.map (cv g)) (QB g v M' (Value.ref (ad g a) :: av.map (cv g)).toArray) (fun q => g.1 ≤ q) := by
    have hstack : (F0 m pc ls ((av.reverse ++ .ref a :: st).map (cv g))).stack = (av.map (cv g)).reverse ++ .ref (ad g a) :: st.map (cv g) := by
      show (av.reverse ++ .ref a :: st).map (cv g) = _
      rw [List.map_append, List.map_reverse]
      rfl
    have hWd : 2 * (F0 m pc ls ((av.reverse ++ .ref a :: st).map (cv g))).monitorRoom + ((st.map (cv g)).map fun v => v.category).sum ≤ 8 := by
      have h1 := cats_le (g := g) hst
      have h2 : 2 * (F0 m pc ls ((av.reverse ++ .ref a :: st).map (cv g))).monitorRoom = 0 := rfl
      omega
    unfold okc at hok
    rw [Bool.and_eq_true, Bool.and_eq_true, hmo] at hok
    have hok3 : (gw y.2.2.2.2.1 (.methodLink (cn (ow K)) y.2.1 (nm y.2.2.2.1)) && gw y.2.2.2.2.2.1 (.instanceMethod (nm y.2.2.2.1)) && gw y.2.2.2.2.2.2.1 (.selects (nm y.2.2.2.1).cls (nm y.2.2.2.1) (nm y.2.2.2.1))) = true := hok.2.2
    rw [Bool.and_eq_true, Bool.and_eq_true] at hok3
    obtain ⟨g1, g2⟩ := gw_of hok3.1.1
    obtain ⟨g3, g4⟩ := gw_of hok3.1.2
    obtain ⟨g5, g6⟩ := gw_of hok3.2
    rw [hix] at g1 g2
    have hcb : CallB R s args (cn (ow K)) x (nm y.2.2.2.1) (cod y.2.2.2.1) (mxl y.2.2.2.1) (rtt y.2.2.2.1) (wsK y.2.2.2.1) (rmK y.2.2.2.1 M M') (M'.1 - M.1) (sl M'.1 - sl M.1) y.2.2.2.2.2.2.2.2 :=
      callB_of _ htU (wsK_good hy) rfl rfl rfl (hts _ hini2.1 hini2.2) (hts _ g1 g2) ⟨hmh.1, hmh.2, hpd⟩ hrm
    exact va_runV ⟨hx, hb, hml, hown, htU⟩ hM ⟨hcb, hts _ g3 g4, hts _ g5 g6⟩ hp rfl (by rw [List.length_map]; exact hal) hls.1 hstack hWd d ⟨by omega, by omega⟩
  refine call_go key hS (fun H1 locs1 h1 h2 => ?_)
  have k1 := k H1 locs1 h1 h2 hl ls hls
  have e1 : M.1 - n0 + (M'.1 - M.1) = M'.1 - n0 := by omega
  have e2 : sl M.1 - sl n0 + (sl M'.1 - sl M.1) = sl M'.1 - sl n0 := by omega
  rw [e1, e2]
  have e3 : (v.map (cv g)).toList ++ st.map (cv g) = (v.toList ++ st).map (cv g) := by cases v <;> rfl
  rw [e3]
  exact k1
theorem snd_calli (hX : FXD p R s m args meth c g K n0) (hH : HV g M H) (hS : va_S (fun q => g.1 ≤ q) s.heap H locs) (hnM : n0 ≤ M.1) (hMM : M.1 ≤ M'.1) (hrc : M'.1 - n0 ≤ R.cells) (hrs : sl M'.1 - sl n0 ≤ R.slots) {x a : Nat} {y : Ci} {av : List Value} (d : decode (cod K) pc = .ok (.invokespecial x, 3)) (hc : cal (ow K) x = some y) (hmo : y.2.2.1 = 2) (hr : rk y.2.2.2.1 < rk K) (h18 : mxl y.2.2.2.1 ≤ 18) (hal : av.length = y.2.2.2.2.2.2.2.2) (hst : st.length ≤ 4) (hM : MetK l g y.2.2.2.1 (.ref a :: av) M none M')
    (k : ∀ (H1 : Heap) (locs1 : List Loc), HV g M' H1 → va_S (fun q => g.1 ≤ q) s.heap H1 locs1 → WW p l e R s m args below meth c Q g K n0 H1 locs1 (pc + 3, L, st, M')) : WW p l e R s m args below meth c Q g K n0 H locs (pc, L, av.reverse ++ .ref a :: st, M) := by
  intro hl ls hls
  obtain ⟨hx, hb, hml, hown, hts, hin, hE, hsz, hfr, hlo⟩ := hX
  obtain ⟨hy, hpd, hmh, hini⟩ := nm_ok hc
  obtain ⟨hok, hix⟩ := cal_ok hc
  have htU : ∀ w ∈ wsU, w.before args s = true := fun w h => hts w (wsU_in h).1 (wsU_in h).2
  have hrm := room_go (R := R) (M := M) (M' := M') hr h18 hfr hlo
  have hsm := sl_mono hnM
  have hsm2 := sl_mono hMM
  have hini2 := gw_of hini
  have hp : PreS s H (va_Pc ((Value.ref a :: av).map (cv g)) (PB g M)) (.ref (ad g a) :: av.map (cv g)) := ⟨PB_blind, fun U hU hW => ⟨rfl, by rw [hU]; exact hH, ENV_next hE hW hU hS⟩⟩
  have key : va_Run p l e R s m args below meth c H locs (M.1 - n0) (sl M.1 - sl n0) (M'.1 - M.1) (sl M'.1 - sl M.1) (F0 m pc ls ((av.reverse ++ .ref a :: st).map (cv g))) (st.map (cv g)) (QB g none M' (Value.ref (ad g a) :: av.map (cv g)).toArray) (fun q => g.1 ≤ q) := by
    have hstack : (F0 m pc ls ((av.reverse ++ .ref a :: st).map (cv g))).stack = (av.map (cv g)).reverse ++ .ref (ad g a) :: st.map (cv g) := by
      show (av.reverse ++ .ref a :: st).map (cv g) = _
      rw [List.map_append, List.map_reverse]
      rfl
    have hWd : 2 * (F0 m pc ls ((av.reverse ++ .ref a :: st).map (cv g))).monitorRoom + ((st.map (cv g)).map fun v => v.category).sum ≤ 8 := by
      have h1 := cats_le (g := g) hst
      have h2 : 2 * (F0 m pc ls ((av.reverse ++ .ref a :: st).map (cv g))).monitorRoom = 0 := rfl
      omega
    unfold okc at hok
    rw [Bool.and_eq_true, Bool.and_eq_true, hmo] at hok
    have hok3 : (gw y.2.2.2.2.1 (.methodLink (cn (ow K)) y.2.1 (nm y.2.2.2.1)) && gw y.2.2.2.2.2.1 (.instanceMethod (nm y.2.2.2.1)) && decide ((nm y.2.2.2.1).name = "<init>") && decide (rtt y.2.2.2.1 = none)) = true := hok.2.2
    rw [Bool.and_eq_true, Bool.and_eq_true, Bool.and_eq_true] at hok3
    obtain ⟨g1, g2⟩ := gw_of hok3.1.1.1
    obtain ⟨g3, g4⟩ := gw_of hok3.1.1.2
    have g5 := of_decide_eq_true hok3.1.2
    have g6 := of_decide_eq_true hok3.2
    rw [hix] at g1 g2
    have hcb : CallB R s args (cn (ow K)) x (nm y.2.2.2.1) (cod y.2.2.2.1) (mxl y.2.2.2.1) none (wsK y.2.2.2.1) (rmK y.2.2.2.1 M M') (M'.1 - M.1) (sl M'.1 - sl M.1) y.2.2.2.2.2.2.2.2 :=
      callB_of _ htU (wsK_good hy) (by unfold wsK cwd; rw [g6]) rfl rfl (hts _ hini2.1 hini2.2) (hts _ g1 g2) ⟨hmh.1, hmh.2, hpd⟩ hrm
    exact va_runI ⟨hx, hb, hml, hown, htU⟩ hM ⟨hcb, g5, hts _ g3 g4⟩ hp rfl (by rw [List.length_map]; exact hal) hls.1 hstack hWd d ⟨by omega, by omega⟩
  refine call_go key hS (fun H1 locs1 h1 h2 => ?_)
  have k1 := k H1 locs1 h1 h2 hl ls hls
  have e1 : M.1 - n0 + (M'.1 - M.1) = M'.1 - n0 := by omega
  have e2 : sl M.1 - sl n0 + (sl M'.1 - sl M.1) = sl M'.1 - sl n0 := by omega
  rw [e1, e2]
  exact k1
end SND7
