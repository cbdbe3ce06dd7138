section SND6
variable {p : Program} {l : Launch} {e : Env} {R : Room} {s : State} {m : MethodId} {args : Array Value} {below : List Frame} {meth : Method} {c : Code} {Q : State → Prop} {g : Gl} {K n0 : Nat}
variable {i : Instr} {len pc : Nat} {L : Lo} {st : List Value} {M : Mm} {H : Heap} {locs : List Loc}
theorem copy_core {cc : ByteArray} {cells slots a : Nat} {ls : Array Slot} {rest : List Value} {A : Nat → Prop} (hexec : p.tables.exec = Jvm.exec) (hb : c.code = cc) (hml : c.maxLocals = ls.size) {own : String} {index : Nat} (hown : s.vm.findClass own = some m.cls) (hlink : (Cond.methodLink own index arraycopyName).before args s = true) (hnat : (Cond.native arraycopyName).before args s = true) (hstat : (Cond.static arraycopyName).before args s = true) (hini : (Cond.initialized "java/lang/System").before args s = true)
    (hS : va_S A s.heap H locs) {b0 nn0 : Nat} {f : Nat → Int32} {scr : Cell} (hc0 : H[b0]? = some scr) (hs2 : s.isArrayOf scr .int) (hs3 : scr.vm ≠ .unknown) (hs4 : nn0 ≤ scr.slots.size) (hs5 : ∀ j, j < nn0 → scr.slots[j]? = some (.int (f j))) {c1 : ClassId} {n1 : Nat} {gg : Nat → Int32} (hc1 : H[a]? = some (vp_cell c1 (n1, .inl gg))) (ht1 : ArrOfT s c1 .int) (hA : A a)
    {sp dp n : Int32} (h1 : ¬ sp < 0) (h2 : ¬ dp < 0) (h3 : ¬ n < 0) (h4 : sp.toNatClampNeg + n.toNatClampNeg ≤ nn0) (h5 : dp.toNatClampNeg + n.toNatClampNeg ≤ n1)
    (hframes : 1 ≤ R.frames) (hlocals : (rest.map fun v => v.category).sum + (nativeFrameWords "java/lang/System" "arraycopy" 5 + 11) ≤ R.locals) (hdg : decode cc pc = .ok (.invokestatic index, 3))
    (kk : ∀ (H1 : Heap) (locs1 : List Loc), H1[a]? = some (vp_cell c1 (n1, .inl (va_cpy f gg sp.toNatClampNeg dp.toNatClampNeg n.toNatClampNeg))) → H1.size = H.size → (∀ q : Nat, q ≠ a → H1[q]? = H[q]?) → va_S A s.heap H1 locs1 → W p l e R s m args below meth c H1 locs1 cells slots Q (F0 m (pc + 3) ls rest)) : W p l e R s m args below meth c H locs cells slots Q (F0 m pc ls (.int n :: .int dp :: .ref a :: .int sp :: .ref b0 :: rest)) := by
  have nn : ∀ z : Int32, ¬ z < 0 → z.toInt = (z.toNatClampNeg : Int) := by
    intro z hz
    have hz0 : (0 : Int) ≤ z.toInt := by
      have := Int32.not_lt.mp hz
      simpa using Int32.le_iff_toInt_le.mp this
    show z.toInt = ((z.toInt.toNat : Nat) : Int)
    omega
  intro T hT X
  obtain ⟨hs6, k0, hk0, cm0, hkk0⟩ := hs2
  obtain ⟨-, k1, hk1, cm1, hkk1⟩ := ht1 n1 (fun j => .int (gg j))
  obtain ⟨vm', X', step⟩ := X.arraycopy hexec hown hlink hnat hstat hini (src := b0) (dst := a) (cs := scr) (cd := vp_cell c1 (n1, .inl gg)) (srcPos := sp) (destPos := dp) (n := n) (by rw [hT]; exact hc0) (by rw [hT]; exact hc1)
    hs6 (fun _ h => by cases h) hs3 (fun h => by cases h) hk0 hk1 hkk0 hkk1 (by simp [refKind]) h1 h2 h3
    (by rw [nn sp h1, nn n h3]; omega)
    (by rw [nn dp h2, nn n h3]; show ¬ _ > ((arrV c1 n1 (fun j => .int (gg j))).slots.size : Int); rw [arrV_size]; omega)
    (fun vm₁ _ i hi => by
      have e : scr.slots.getD (sp.toNatClampNeg + i) .null = .int (f (sp.toNatClampNeg + i)) := by
        rw [Array.getD_eq_getD_getElem?, hs5 _ (by omega)]
        rfl
      refine ⟨?_, ?_⟩
      · rw [e]
        rfl
      · rw [e]
        exact trivial)
    (g := F0 m pc ls (.int n :: .int dp :: .ref a :: .int sp :: .ref b0 :: rest)) rfl (by rw [hml]) (rest := rest) rfl (by rw [hb]; exact hdg) hframes (by show 2 * 0 + _ + _ ≤ _; omega)
  have e1 : copied scr (vp_cell c1 (n1, .inl gg)) sp dp n = vp_cell c1 (n1, .inl (va_cpy f gg sp.toNatClampNeg dp.toNatClampNeg n.toNatClampNeg)) := va_copiedX (fun z => .int z) scr c1 f gg hs5 h4
  rw [e1] at X' step
  have hl : a < H.size := (Array.getElem?_eq_some_iff.mp hc1).1
  have hheap : ((T.setVm vm').setCell a (vp_cell c1 (n1, .inl (va_cpy f gg sp.toNatClampNeg dp.toNatClampNeg n.toNatClampNeg)))).heap = H.setIfInBounds a (vp_cell c1 (n1, .inl (va_cpy f gg sp.toNatClampNeg dp.toNatClampNeg n.toNatClampNeg))) := by rw [← hT]; rfl
  have oq : ∀ q : Nat, q ≠ a → (H.setIfInBounds a (vp_cell c1 (n1, .inl (va_cpy f gg sp.toNatClampNeg dp.toNatClampNeg n.toNatClampNeg))))[q]? = H[q]? := fun q hq => by simp [Array.getElem?_setIfInBounds, Ne.symm hq]
  obtain ⟨t, a1, b1⟩ := kk _ _ (show (H.setIfInBounds a _)[a]? = some _ by simp [Array.getElem?_setIfInBounds, hl]) (by simp) oq ⟨by simp; exact hS.1, fun q g1 g2 => by
      rw [oq q (fun e => g2 (by rw [e]; exact hA))]
      exact hS.2.1 q g1 g2, fun q hq => by
      rcases List.mem_append.mp hq with h | h
      · exact hS.2.2 q h
      · obtain ⟨z, -, hz⟩ := List.mem_map.mp h
        rw [← hz]
        exact hA⟩ _ hheap X'
  exact ⟨t, step t a1, b1⟩
theorem cats_le {v : List Value} (h : v.length ≤ 4) : ((v.map (cv g)).map fun v => v.category).sum ≤ 8 := by
  have key : ∀ v : List Value, ((v.map (cv g)).map fun v => v.category).sum ≤ 2 * v.length := by
    intro v
    induction v with
    | nil => exact Nat.le_refl _
    | cons x v ih =>
      show (cv g x).category + ((v.map (cv g)).map fun v => v.category).sum ≤ 2 * (v.length + 1)
      have : (cv g x).category ≤ 2 := by rw [cv_cat]; rcases lv_cat x with q | q <;> omega
      omega
  have := key v
  omega
theorem snd_cpy (hX : FXD p R s m args meth c g K n0) (hH : HV g M H) (hS : va_S (fun q => g.1 ≤ q) s.heap H locs) {x a0 a1 : Nat} {sp dp w : Int32} {z : Nat → Nat → Int32} (d : decode (cod K) pc = .ok (.invokestatic x, 3)) (hn : nat (ow K) x = some 1) (hst : st.length ≤ 4) (hr : 1 ≤ rk K) (h : cpI M.1 M.2.1 a0 sp a1 dp w = some z)
    (k : ∀ (H1 : Heap) (locs1 : List Loc), HV g (M.1, z, M.2.2) H1 → va_S (fun q => g.1 ≤ q) s.heap H1 locs1 → WW p l e R s m args below meth c Q g K n0 H1 locs1 (pc + 3, L, st, (M.1, z, M.2.2))) : WW p l e R s m args below meth c Q g K n0 H locs (pc, L, .int w :: .int dp :: .ref a1 :: .int sp :: .ref a0 :: st, M) := by
  intro hl ls hls
  obtain ⟨hx, hb, hml, hown, hts, hin, ⟨hK, hE⟩, hsz, hfr, hlo⟩ := hX
  have hnn := hH.1
  have hP := hH.2.2.1
  have hxo : ow K = 1 ∧ x = 18 := by
    unfold nat at hn
    obtain ⟨y, hy, h1⟩ := Option.map_eq_some_iff.mp hn
    have hm := List.mem_of_find?_eq_some hy
    have hp := List.find?_some hy
    simp only [Bool.and_eq_true, beq_iff_eq] at hp
    simp only [natL, List.mem_cons, List.not_mem_nil, or_false] at hm
    rcases hm with rfl | rfl | rfl | rfl <;> first | (cases h1; done) | exact ⟨hp.1.symm, hp.2.symm⟩
  obtain ⟨ho, rfl⟩ := hxo
  rw [ho] at hown
  unfold cpI at h
  obtain ⟨hc, hh⟩ := Option.ite_none_right_eq_some.mp h
  clear h
  · obtain ⟨hsrc, ha1, hk1, hp1, h27, h28, rfl, rfl, hw, hw0, hw1⟩ := hc
    have h := Option.some.inj hh
    have hM1 : Mad M.1 a1 := ⟨ha1, hp1⟩
    have hM12 := hM1.w hnn
    have hat := wl_at (g := g) hnn hM1
    rw [ent_ar (by omega) (by omega)] at hat
    have hty := tys_at (g := g) (a := a1) (by omega) (by omega)
    rw [show arT (kd a1) = .int by rw [hk1]; rfl] at hty
    have hS0 : ∃ (f : Nat → Int32) (scr : Cell), H[ad g a0]? = some scr ∧ s.isArrayOf scr .int ∧ scr.vm ≠ .unknown ∧ (if a0 = 1001 then 6 else ln a0) ≤ scr.slots.size ∧ (∀ j, j < (if a0 = 1001 then 6 else ln a0) → scr.slots[j]? = some (.int (f j))) ∧ ∀ j, j < (if a0 = 1001 then 6 else ln a0) → f j = (if a0 = 1001 then csI 1001 j else M.2.1 (vec a0) (off a0 + j)) := by
      rcases hsrc with ⟨ha0, hk0, hp0, h7, h8⟩ | rfl
      · have hM0 : Mad M.1 a0 := ⟨ha0, hp0⟩
        have hat0 := wl_at (g := g) hnn hM0
        rw [ent_ar (by omega) (by omega)] at hat0
        have hty0 := tys_at (g := g) (a := a0) (by omega) (by omega)
        rw [show arT (kd a0) = .int by rw [hk0]; rfl] at hty0
        have hne : a0 ≠ 1001 := by omega
        refine ⟨arf M.2.1 a0, _, hP _ _ hat0, (hK.2 _ _ hty0).1 _ _, (fun q => by cases q), ?_, fun j hj => ?_, fun j hj => ?_⟩
        · rw [if_neg hne]; show _ ≤ (arrV _ _ _).slots.size; rw [arrV_size]; exact Nat.le_refl _
        · rw [if_neg hne] at hj; show (arrV _ _ _).slots[j]? = _; rw [arrV_read _ _ hj]
        · rw [if_neg hne] at hj
          rw [if_neg hne]
          show (if j < ln a0 then M.2.1 (vx a0 j) (ix a0 j) else 0) = _
          rw [if_pos hj]
          unfold vx ix
          rw [if_neg h7, if_neg h8, if_neg h7, if_neg h8]
      · obtain ⟨scr, hs1, hs2, hs3, hs4, -, hs5, hs7⟩ := hE.2.2.2.2.1 1001 (by decide) (by decide)
        refine ⟨fun j => csI 1001 j, scr, ?_, hs2, hs3, ?_, fun j hj => ?_, fun j _ => ?_⟩
        · rw [ad_ext (by decide), hS.2.1 _ (Array.getElem?_eq_some_iff.mp hs1).1 hs7]; exact hs1
        · rw [if_pos rfl]; exact hs4
        · rw [if_pos rfl] at hj; exact hs5 j hj
        · rw [if_pos rfl]
    obtain ⟨f, scr, c0, c1, c2, c3, c4, c5⟩ := hS0
    have hz0 : (0 : Int32).toNatClampNeg = 0 := rfl
    refine copy_core (cc := cod K) (nn0 := if a0 = 1001 then 6 else ln a0) hx hb (by rw [hml]; exact hls.1.symm) hown (hts _ wa_link.1 wa_link.2) (hts _ wa_nat.1 wa_nat.2) (hts _ wa_sta.1 wa_sta.2) (hts _ wa_ini.1 wa_ini.2) hS c0 c1 c2 c3 c4 (hP _ _ hat) (hK.2 _ _ hty).1 (ad_ge ha1) (by decide) (by decide) hw (by rw [hz0, Nat.zero_add]; exact hw0) (by rw [hz0, Nat.zero_add]; exact hw1) (by omega) ?_ d (fun H1 locs1 e1 z1 oq hS1 => ?_)
    · have := cats_le (g := g) hst
      have hnw : nativeFrameWords "java/lang/System" "arraycopy" 5 ≤ 12 := by decide +kernel
      omega
    · have hin9 : ∀ y, off a1 ≤ y → y < off a1 + w.toNatClampNeg → ow2 (vec a1) y = (a1, y - off a1) := by
        intro y h8 h9
        have := own_arr (j := y - off a1) hM12 (by omega) (by omega) (by omega)
        unfold vx ix at this
        rw [if_neg h27, if_neg h28, if_neg h27, if_neg h28, show off a1 + (y - off a1) = y by omega] at this
        exact this
      have hI : ∀ v y, (ow2 v y).1 ≠ a1 → z v y = M.2.1 v y := by
        intro v y ho
        rw [← h]
        unfold up
        by_cases hv : v = vec a1
        · subst hv
          rw [if_pos rfl, if_neg]
          rintro ⟨h8, h9⟩
          exact ho (by rw [hin9 y h8 h9])
        · rw [if_neg hv]
      have hne : ∀ y, y = 60 ∨ y = 61 → ∀ t, (ow2 y t).1 ≠ a1 := by
        intro y hy t e9
        refine Mad_ne hM12 ?_
        rw [← e9]
        rcases hy with rfl | rfl <;> rfl
      refine k H1 locs1 (HV_put (I := M.2.1) (R0 := M.2.2) hH hM1 hI (fun _ _ _ => rfl) (funext fun t => hI _ _ (hne 60 (Or.inl rfl) t)) (hI _ _ (hne 61 (Or.inr rfl) 0)) ?_ z1 oq) hS1 hl ls hls
      rw [ent_ar (by omega) (by omega)]
      show H1[ad g a1]? = some (vp_cell _ _)
      rw [e1]
      refine congrArg some ?_
      show arrV _ _ (fun j => Value.int (va_cpy f (arf M.2.1 a1) (0 : Int32).toNatClampNeg (0 : Int32).toNatClampNeg w.toNatClampNeg j)) = arrV _ _ (fun j => Value.int (arf z a1 j))
      have hfun : ∀ j, j < ln a1 → va_cpy f (arf M.2.1 a1) (0 : Int32).toNatClampNeg (0 : Int32).toNatClampNeg w.toNatClampNeg j = arf z a1 j := by
        intro j hj
        rw [hz0]
        show (if 0 ≤ j ∧ j < 0 + w.toNatClampNeg then f (0 + (j - 0)) else arf M.2.1 a1 j) = (if j < ln a1 then z (vx a1 j) (ix a1 j) else 0)
        rw [if_pos hj, ← h]
        unfold vx ix up
        rw [if_neg h27, if_neg h28, if_neg h27, if_neg h28, if_pos rfl]
        by_cases hj2 : j < w.toNatClampNeg
        · rw [if_pos ⟨Nat.zero_le _, by omega⟩, if_pos ⟨by omega, by omega⟩, c5 _ (by omega)]
          rw [show 0 + (j - 0) = j by omega, show off a1 + j - off a1 = j by omega]
        · rw [if_neg (by omega), if_neg (by omega)]
          show (if j < ln a1 then M.2.1 (vx a1 j) (ix a1 j) else 0) = _
          rw [if_pos hj]
          unfold vx ix
          rw [if_neg h27, if_neg h28, if_neg h27, if_neg h28]
      unfold arrV
      congr 1
      refine congrArg Array.ofFn (funext fun j => ?_)
      exact congrArg Value.int (hfun j.val j.isLt)
theorem nat_at {o x t : Nat} (h : nat o x = some t) : (o, x, t) ∈ natL := by
  unfold nat at h
  obtain ⟨y, hy, h1⟩ := Option.map_eq_some_iff.mp h
  have hm := List.mem_of_find?_eq_some hy
  have hp := List.find?_some hy
  simp only [Bool.and_eq_true, beq_iff_eq] at hp
  rw [← hp.1, ← hp.2, ← h1]
  exact hm
theorem snd_oin (hX : FXD p R s m args meth c g K n0) {x a : Nat} (d : decode (cod K) pc = .ok (.invokespecial x, 3)) (hn : nat (ow K) x = some 4) (hst : st.length ≤ 4) (hr : 1 ≤ rk K)
    (k : WW p l e R s m args below meth c Q g K n0 H locs (pc + 3, L, st, M)) : WW p l e R s m args below meth c Q g K n0 H locs (pc, L, .ref a :: st, M) := by
  intro hl ls hls
  have k1 := k hl ls hls
  obtain ⟨hx, hb, hml, hown, hts, hin, ⟨hK, hE⟩, hsz, hfr, hlo⟩ := hX
  have hm := nat_at hn
  have hsz2 : ls.size = c.maxLocals := by rw [hml]; exact hls.1
  have hr2 : 1 ≤ R.frames := by omega
  have hr3 : 2 * (F0 m pc ls (.ref (ad g a) :: st.map (cv g))).monitorRoom + (((st.map (cv g))).map fun v => v.category).sum + 12 ≤ R.locals := by
    have h1 := cats_le (g := g) hst
    have h2 : 2 * (F0 m pc ls (.ref (ad g a) :: st.map (cv g))).monitorRoom = 0 := rfl
    omega
  have hlink : (Cond.methodLink (cn (ow K)) x objectInit).before args s = true := by
    simp only [natL, List.mem_cons, List.not_mem_nil, or_false, Prod.mk.injEq] at hm
    have h9 : (ow K = 0 ∧ x = 3) ∨ (ow K = 1 ∧ x = 3) ∨ (ow K = 2 ∧ x = 3) := by omega
    rcases h9 with ⟨ho, rfl⟩ | ⟨ho, rfl⟩ | ⟨ho, rfl⟩ <;> rw [ho]
    · exact hts _ wo_0.1 wo_0.2
    · exact hts _ wo_1.1 wo_1.2
    · exact hts _ wo_2.1 wo_2.2
  exact W.objInit hx hb hown hlink (hts _ wo_inst.1 wo_inst.2) (hts _ wo_code.1 wo_code.2) rfl hsz2 rfl d hr2 hr3 k1
end SND6
