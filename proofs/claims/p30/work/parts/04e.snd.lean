theorem pk_bit {m t : Nat} : bt1 (fun k => if 38 ≤ k ∧ k < 48 then nI (m / 2 ^ (k - 38) % 2) else 0) t = if t < 10 then m / 2 ^ t % 2 else 0 := by
  unfold bt1
  show (if (if 38 ≤ 38 + t ∧ 38 + t < 48 then nI (m / 2 ^ (38 + t - 38) % 2) else 0) = 1 then 1 else 0) = _
  by_cases ht : t < 10
  · rw [if_pos (show 38 ≤ 38 + t ∧ 38 + t < 48 by omega), if_pos ht, Nat.add_sub_cancel_left]
    rcases Nat.mod_two_eq_zero_or_one (m / 2 ^ t) with q | q <;> rw [q] <;> decide
  · rw [if_neg (show ¬ (38 ≤ 38 + t ∧ 38 + t < 48) by omega), if_neg ht]
    decide
theorem pk_unpk {V : Nat → Int32} {m : Nat} (hm : m < 1024) : pk (unpk V m) = nI m := by
  have e : pk (unpk V m) = pk (fun k => if 38 ≤ k ∧ k < 48 then nI (m / 2 ^ (k - 38) % 2) else 0) := by
    refine pk_congr (fun t ht => ?_)
    show (if _ then _ else _) = (if _ then _ else _)
    rw [if_pos (show 38 ≤ 38 + t ∧ 38 + t < 48 by omega), if_pos (show 38 ≤ 38 + t ∧ 38 + t < 48 by omega)]
  rw [e]
  unfold pk
  congr 1
  unfold pkN
  simp only [pk_bit]
  simp only [if_pos (show (0 : Nat) < 10 by decide), if_pos (show (1 : Nat) < 10 by decide), if_pos (show (2 : Nat) < 10 by decide), if_pos (show (3 : Nat) < 10 by decide), if_pos (show (4 : Nat) < 10 by decide), if_pos (show (5 : Nat) < 10 by decide), if_pos (show (6 : Nat) < 10 by decide), if_pos (show (7 : Nat) < 10 by decide), if_pos (show (8 : Nat) < 10 by decide), if_pos (show (9 : Nat) < 10 by decide)]
  omega
theorem nI_of_nn {x : Int32} (h : ¬ x < 0) : x = nI x.toNatClampNeg := by
  obtain ⟨j, hj, rfl⟩ := nI_of h
  rw [nI_clamp hj]
/-- the numbers change at one field's place alone -/
theorem obf_set {g : Gl} {I I' : Nat → Nat → Int32} {R R' : Nat → Nat → Option Nat} {a k : Nat} {v : Value} (h : Mad 202 a) (h4 : kd a ≤ 4) (hk : k < ln a) (hI : ∀ w x, ow2 w x ≠ (a, k) → I' w x = I w x) (hR : ∀ j, j ≠ k → R' a j = R a j) (hv : fv I' R' a k = v) : obf g I' R' a = (obf g I R a).set k (cv g v) := by
  apply List.ext_getElem?
  intro j
  have hlen : (obf g I R a).length = ln a := by simp [obf]
  by_cases hj : j < ln a
  · by_cases e : j = k
    · subst e
      rw [List.getElem?_set_self (by rw [hlen]; exact hj)]
      unfold obf
      rw [List.getElem?_map, List.getElem?_range hj, ← hv]
      rfl
    · rw [List.getElem?_set_ne (Ne.symm e)]
      unfold obf
      rw [List.getElem?_map, List.getElem?_map, List.getElem?_range hj]
      show some (cv g (fv I' R' a j)) = some (cv g (fv I R a j))
      rw [fv_congr h h4 hj (fun w x q1 q2 => hI w x (fun z => e (by rw [← q2, z]))) (hR j e)]
  · rw [List.getElem?_eq_none (by simp [obf]; omega), List.getElem?_eq_none (by rw [List.length_set, hlen]; omega)]
theorem vw_at {a : Nat} (h : Mad 202 a) (h4 : kd a ≤ 4) : ∃ q : vw_C, vwCl[kd a - 1]? = some q ∧ q.2.2 = ln a ∧ q.1 = cn (kd a - 1) := by
  have h1 := adr_ok h.2
  rw [adr_pos h.1 h.2] at h1
  have h2 := h1.2.2.2.2 h4
  rw [h2.2]
  have h3 := h1.2.2.1
  have h5 := h2.1
  generalize kd a = k at h4 h3 h5
  rcases (show k = 1 ∨ k = 2 ∨ k = 3 by omega) with rfl | rfl | rfl
  · exact ⟨_, rfl, rfl, rfl⟩
  · exact ⟨_, rfl, rfl, rfl⟩
  · exact ⟨_, rfl, rfl, rfl⟩
/-- a class of the table: its words, its fields' types, its names apart -/
theorem vw_ok {ci : Nat} {q : vw_C} (h : vwCl[ci]? = some q) : GoodIn lw_tbl (u_ws q.1 q.2.1 q.2.2) ∧ (∃ ty : Nat → FieldType, ∀ k, k < q.2.2 → parseFieldDescriptor (q.2.1 k).2.2.1 = some (ty k)) ∧ (∀ a, a < q.2.2 → ∀ b, b < q.2.2 → a ≠ b → (q.2.1 a).2.1 ≠ (q.2.1 b).2.1) := by
  match ci, h with
  | 0, h => cases h; exact ⟨gT_0, ⟨_, tyX0_ok⟩, nmX0⟩
  | 1, h => cases h; exact ⟨gT_1, ⟨_, tyX1_ok⟩, nmX1⟩
  | 2, h => cases h; exact ⟨gT_2, ⟨_, tyX2_ok⟩, nmX2⟩
  | k + 3, h => simp [vwCl] at h
/-- what a field of each kind may hold -/
def fty (ci k : Nat) (v : Value) : Prop := ∃ (q : vw_C) (ty : FieldType), vwCl[ci]? = some q ∧ parseFieldDescriptor (q.2.1 k).2.2.1 = some ty ∧ narrow ty v = v ∧ fits ty v = true
def chkT (ci : Nat) : Bool := match vwCl[ci]? with
  | some q => (List.range q.2.2).all (fun k => match parseFieldDescriptor (q.2.1 k).2.2.1 with
    | some ty => (match fk (ci + 1) k with
      | 0 => ty.isReference
      | 3 => decide (ty = .char)
      | _ => decide (ty = .int))
    | none => false)
  | none => false
theorem chkT_ok : (List.range 3).all chkT = true := by decide +kernel
theorem fty_of {ci k : Nat} {q : vw_C} {v : Value} (hq : vwCl[ci]? = some q) (hc : ci < 3) (hk : k < q.2.2) (hv : (fk (ci + 1) k = 0 ∧ ∃ a, v = .ref a) ∨ (fk (ci + 1) k = 3 ∧ narrow .char v = v ∧ fits .char v = true) ∨ (fk (ci + 1) k ≠ 0 ∧ fk (ci + 1) k ≠ 3 ∧ ∃ x, v = .int x)) : fty ci k v := by
  have h1 := List.all_eq_true.mp chkT_ok ci (List.mem_range.mpr hc)
  unfold chkT at h1
  rw [hq] at h1
  have h2 := List.all_eq_true.mp h1 k (List.mem_range.mpr hk)
  cases hp : parseFieldDescriptor (q.2.1 k).2.2.1 with
  | none => rw [hp] at h2; cases h2
  | some ty =>
    rw [hp] at h2
    refine ⟨q, ty, hq, hp, ?_⟩
    rcases hv with ⟨h0, a, rfl⟩ | ⟨h3, hn, hf⟩ | ⟨h0, h3, x, rfl⟩
    · rw [h0] at h2
      have h3 : ty.isReference = true := h2
      cases ty <;> first | (cases h3; done) | exact ⟨rfl, rfl⟩
    · rw [h3] at h2
      have h4 : ty = .char := of_decide_eq_true h2
      subst h4
      exact ⟨hn, hf⟩
    · have h4 : ty = .int := by
        revert h2
        generalize fk (ci + 1) k = z at h0 h3 ⊢
        intro h2
        match z, h0, h3, h2 with
        | 0, h0, _, _ => exact absurd rfl h0
        | 3, _, h3, _ => exact absurd rfl h3
        | 1, _, _, h2 => exact of_decide_eq_true h2
        | 2, _, _, h2 => exact of_decide_eq_true h2
        | z + 4, _, _, h2 => exact of_decide_eq_true h2
      subst h4
      exact ⟨rfl, rfl⟩
section SND4
variable {p : Program} {l : Launch} {e : Env} {R : Room} {s : State} {m : MethodId} {args : Array Value} {below : List Frame} {meth : Method} {c : Code} {Q : State → Prop} {g : Gl} {K n0 : Nat}
variable {i : Instr} {len pc : Nat} {L : Lo} {st : List Value} {M : Mm} {H : Heap} {locs : List Loc}
/-- a field is written: the cell as it is then, the heap's size, all else as it was -/
theorem put_core {cc : ByteArray} {D : va_G} {cl : List vw_C} {tys : List (ClassId × FieldType)} {ws : va_W} {a : Nat} {ls : Array Slot} {rest : List Value} {cells slots : Nat} (hexec : p.tables.exec = Jvm.exec) (hb : c.code = cc) {own ref C : String} {T : u_T} {N ci index : Nat} {Ts : List Cond} (hts : ∀ w ∈ Ts, w.before args s = true) (hin : ∀ w ∈ u_ws C T N, w ∈ Ts) (ty0 : Nat → FieldType) (hty : ∀ k, k < N → parseFieldDescriptor (T k).2.2.1 = some (ty0 k)) (hnm : ∀ a, a < N → ∀ b, b < N → a ≠ b → (T a).2.1 ≠ (T b).2.1) (hown : s.vm.findClass own = some m.cls) (hK : va_K D cl tys s) (hP : va_P D cl ws H) (q0 : Nat) {fs : List Value} (he : ws[q0]? = some (a, .inr (ci, fs))) (hc : cl[ci]? = some (C, T, N)) (k : Nat) (hk : k < N) (hlink : (Cond.fieldLink own index ref (T k).2.1 (T k).2.2.1).before args s = true) (hsame : ∀ x, s.fieldFound? (T k).1 (T k).2.1 (T k).2.2.1 = some x → s.fieldFound? ref (T k).2.1 (T k).2.2.1 = some x) (hfin : (T k).2.2.2 = false ∨ (meth.name = "<init>" ∧ (T k).1 = own)) {ty : FieldType} {v : Value} (hd : parseFieldDescriptor (T k).2.2.1 = some ty) (hn : narrow ty v = v) (hfit : fits ty v = true) (hl : k < fs.length)
    (hdg : decode cc pc = .ok (.putfield index, 3)) (kk : ∀ (H1 : Heap) (q1 : Nat), va_at D cl (a, .inr (ci, fs.set k v)) H1 → H1.size = H.size → (∀ q : Nat, q ≠ a → H1[q]? = H[q]?) → W p l e R s m args below meth c H1 (locs ++ [⟨a, q1⟩]) cells slots Q (F0 m (pc + 3) ls rest)) : W p l e R s m args below meth c H locs cells slots Q (F0 m pc ls (v :: .ref a :: rest)) := by
  have hap := va_apart (own := own) hts hin ty0 hty hnm hK hc
  obtain ⟨r, h1, cell, q1, q2, q3, q4⟩ := hP q0 _ he
  have hr : r = (C, T, N) := Option.some.inj (h1.symm.trans hc)
  subst hr
  obtain ⟨hS, hfc, kC, hkC, hkind⟩ := hK.1 ci _ hc
  obtain ⟨cf, kf, fi, f, hi, hsl⟩ := hS k hk
  have hlay := hts _ (hin _ (u_in_lay hk))
  unfold u_lay at hlay
  have hst := (u_facts hfc hkC (u_lays hts hin hk) hi).1
  by_cases hf : (T k).2.2.2 = true
  · rw [if_pos hf] at hlay
    obtain ⟨hin2, hdecl⟩ : meth.name = "<init>" ∧ (T k).1 = own := by
      rcases hfin with q | q
      · rw [q] at hf; cases hf
      · exact q
    have hcf : m.cls = cf := by
      obtain ⟨_, _, c', _, _, _, -, -, hf', -, -, -, hown2, -⟩ := Cond.laysFinal_spec hlay
      have e1 : c' = cf := by have := hi.symm.trans hf'; simp at this; exact this.1.symm
      rw [hdecl] at hown2
      rw [← e1]; exact Option.some.inj (hown.symm.trans hown2)
    have h6 := u_fits hfc hkC hkind (Or.inr hlay) hi hd hn hfit
    refine W.putFinK hexec hb hown hlink (hsame _ hi) hst hcf hin2 (by rw [q2]; exact h6) q1 q3 (by rw [hsl]; exact k2_hasslot (q4 k hk)) rfl rfl hdg fun H' e1 e2 e3 => ?_
    rw [hsl] at e1 ⊢
    exact kk H' _ ⟨_, hc, t_OB.to (V := updV (vp_V fs) k v) ⟨_, e1, q2, q3, t_set q4 hap hk v⟩ (fun j _ => vp_updV_set hl v j)⟩ e2 e3
  · rw [if_neg hf] at hlay
    have h6 := u_store hfc hkC hkind hlay hi hd hn hfit
    refine W.putK hexec hb (f := f) ⟨hown, hlink, ⟨_, _, _, hsame _ hi⟩, hst⟩ (by rw [q2]; exact h6) q1 q3 (by rw [hsl]; exact k2_hasslot (q4 k hk)) rfl rfl hdg fun H' e1 e2 e3 => ?_
    rw [hsl] at e1 ⊢
    exact kk H' _ ⟨_, hc, t_OB.to (V := updV (vp_V fs) k v) ⟨_, e1, q2, q3, t_set q4 hap hk v⟩ (fun j _ => vp_updV_set hl v j)⟩ e2 e3
theorem snd_getf (hX : FXD p R s m args meth c g K n0) (hH : HV g M H) (hS : va_S (fun q => g.1 ≤ q) s.heap H locs) {x a : Nat} {z : Value} {f : Fi} (d : decode (cod K) pc = .ok (.getfield x, 3)) (hf : fld (ow K) x = some f) (h : gfI M.1 M.2.1 M.2.2 f.2.2.1 f.2.2.2.1 a = some z)
    (k : WW p l e R s m args below meth c Q g K n0 H locs (pc + 3, L, z :: st, M)) : WW p l e R s m args below meth c Q g K n0 H locs (pc, L, .ref a :: st, M) := by
  intro hl ls hls
  have k1 := k hl ls hls
  obtain ⟨hx, hb, hml, hown, hts, hin, ⟨hK, hE⟩, hsz, hfr, hlo⟩ := hX
  obtain ⟨hn, hHs, hP, h60, h61⟩ := hH
  obtain ⟨hok, hix⟩ := fld_ok hf
  unfold okf at hok
  rw [Bool.and_eq_true] at hok
  have hok := hok.2
  unfold gfI at h
  by_cases h100 : f.2.2.1 = 100
  · rw [if_pos h100] at h
    cases h
  · rw [if_neg h100] at hok h
    split at h
    · rename_i hc
      obtain ⟨hkd, ha, hp, hk⟩ := hc
      cases h
      have hM : Mad M.1 a := ⟨ha, hp⟩
      have hM2 := hM.w hn
      have h4 : kd a ≤ 4 := by
        cases hq : vwCl[f.2.2.1]? with
        | none => rw [hq] at hok; cases hok
        | some q =>
          have : f.2.2.1 < 3 := (List.getElem?_eq_some_iff.mp hq).1
          omega
      obtain ⟨q, hq, hqn, hqc⟩ := vw_at hM2 h4
      rw [show f.2.2.1 = kd a - 1 by omega, hq] at hok
      simp only [Bool.and_eq_true, decide_eq_true_eq] at hok
      obtain ⟨⟨⟨hgw, hfin⟩, hkn⟩, hdc⟩ := hok
      obtain ⟨hw, hg⟩ := gw_of hgw
      have hlink := hts _ hw hg
      rw [hix] at hlink
      obtain ⟨hG, ⟨ty, hty⟩, hnm⟩ := vw_ok hq
      have hat := wl_at (g := g) hn hM
      rw [ent_ob h4] at hat
      obtain ⟨C, T, N⟩ := q
      exact va_get hx hb (Ts := u_ws C T N) (fun w h => hts w (hG w h).1 (by
        rcases (hG w h).2 with q | ⟨t, rfl⟩
        · cases w <;> first | exact q | rfl
        · rfl)) (fun _ h => h) hown hK hP _ hat hq _ hkn hlink (fun _ q => q) (v := cv g (fv M.2.1 M.2.2 a f.2.2.2.1)) (by unfold obf; rw [List.getElem?_map, List.getElem?_range hk]; rfl) d k1
    · cases h
theorem snd_putf (hX : FXD p R s m args meth c g K n0) (hH : HV g M H) (hS : va_S (fun q => g.1 ≤ q) s.heap H locs) {x a : Nat} {v : Value} {z : (Nat → Nat → Int32) × (Nat → Nat → Option Nat)} {f : Fi} (d : decode (cod K) pc = .ok (.putfield x, 3)) (hf : fld (ow K) x = some f) (hfi : f.2.2.1 = ow K ∧ ((nm K).name = "<init>" ∨ f.2.2.2.2.2 = false) ∨ f.2.2.2.2.2 = false) (h : pfI M.1 M.2.1 M.2.2 f.2.2.1 f.2.2.2.1 a v = some z)
    (k : ∀ (H1 : Heap) (locs1 : List Loc), HV g (M.1, z.1, z.2) H1 → va_S (fun q => g.1 ≤ q) s.heap H1 locs1 → WW p l e R s m args below meth c Q g K n0 H1 locs1 (pc + 3, L, st, (M.1, z.1, z.2))) : WW p l e R s m args below meth c Q g K n0 H locs (pc, L, v :: .ref a :: st, M) := by
  intro hl ls hls
  obtain ⟨hx, hb, hml, hown, hts, hin, ⟨hK, hE⟩, hsz, hfr, hlo⟩ := hX
  have hn := hH.1
  have hP := hH.2.2.1
  obtain ⟨hok, hix⟩ := fld_ok hf
  unfold okf at hok
  rw [Bool.and_eq_true] at hok
  have hok := hok.2
  unfold pfI at h
  split at h
  · rename_i hc
    obtain ⟨hkd, ha, hp, hk, h3⟩ := hc
    rw [if_neg (by omega)] at hok
    have hM : Mad M.1 a := ⟨ha, hp⟩
    have hM2 := hM.w hn
    have h4 : kd a ≤ 4 := by omega
    obtain ⟨q, hq, hqn, hqc⟩ := vw_at hM2 h4
    have hci : f.2.2.1 = kd a - 1 := by omega
    rw [hci, hq] at hok
    simp only [Bool.and_eq_true, decide_eq_true_eq] at hok
    obtain ⟨⟨⟨hgw, hfin⟩, hkn⟩, hdc⟩ := hok
    obtain ⟨hw, hg⟩ := gw_of hgw
    have hlink := hts _ hw hg
    rw [hix] at hlink
    obtain ⟨hG, ⟨ty0, hty⟩, hnm⟩ := vw_ok hq
    have hat := wl_at (g := g) hn hM
    rw [ent_ob h4] at hat
    obtain ⟨C, T, N⟩ := q
    have hlen : f.2.2.2.1 < (obf g M.2.1 M.2.2 a).length := by simp [obf]; exact hk
    have go : ∀ (hft : fty (kd a - 1) f.2.2.2.1 (cv g v)) (hI : ∀ w y, ow2 w y ≠ (a, f.2.2.2.1) → z.1 w y = M.2.1 w y) (hR : ∀ b j, ¬ (b = a ∧ j = f.2.2.2.1) → z.2 b j = M.2.2 b j) (hv : fv z.1 z.2 a f.2.2.2.1 = v), W p l e R s m args below meth c H locs (M.1 - n0) (sl M.1 - sl n0) Q (F0 m pc ls (cv g v :: cv g (.ref a) :: st.map (cv g))) := by
      intro hft hI hR hv
      obtain ⟨q', ty, hq', hd', hnr, hfit⟩ := hft
      cases hq.symm.trans hq'
      refine put_core hx hb (Ts := u_ws C T N) (fun w h => hts w (hG w h).1 (by
        rcases (hG w h).2 with q | ⟨t, rfl⟩
        · cases w <;> first | exact q | rfl
        · rfl)) (fun _ h => h) ty0 hty hnm hown hK hP _ hat hq f.2.2.2.1 hkn hlink (fun _ q => q) ?_ hd' hnr hfit hlen d (fun H1 q1 e1 z1 oq => ?_)
      · rcases hfi with ⟨h1, h2 | h2⟩ | h2
        · by_cases hb2 : (T f.2.2.2.1).2.2.2 = false
          · exact Or.inl hb2
          · refine Or.inr ⟨hin h2, ?_⟩
            show (T f.2.2.2.1).1 = cn (ow K)
            rw [hdc, ← hci, h1]
        · exact Or.inl (by rw [← h2]; exact hfin.symm)
        · exact Or.inl (by rw [← h2]; exact hfin.symm)
      · have hne : ∀ y, y = 60 ∨ y = 61 → ∀ t, ow2 y t ≠ (a, f.2.2.2.1) := by
          intro y hy t e9
          have h9 : a = 999 := by rcases hy with rfl | rfl <;> exact (congrArg Prod.fst e9).symm
          exact Mad_ne hM2 h9
        refine k H1 _ (HV_put (I := M.2.1) (R0 := M.2.2) hH hM (fun w y ho => hI w y (fun e9 => ho (by rw [e9]))) (fun b j hb => hR b j (fun e9 => hb e9.1)) (funext fun t => hI _ _ (hne 60 (Or.inl rfl) t)) (hI _ _ (hne 61 (Or.inr rfl) 0)) ?_ z1 oq) (hS.put z1 oq (ad_ge ha)) hl ls hls
        rw [ent_ob h4, obf_set hM2 h4 hk hI (fun j hj => hR a j (fun e9 => hj e9.2)) hv]
        exact e1
    have hkl : kd a - 1 < 3 := (List.getElem?_eq_some_iff.mp hq).1
    have hup : ∀ {x0 : Int32} (h0 : fk (kd a) f.2.2.2.1 ≠ 0) (h2 : fk (kd a) f.2.2.2.1 ≠ 2) (w y : Nat), ow2 w y ≠ (a, f.2.2.2.1) → up M.2.1 (vec a) (up (M.2.1 (vec a)) (fo (kd a) f.2.2.2.1) x0) w y = M.2.1 w y := by
      intro x0 h0 h2 w y ho
      unfold up
      by_cases hw : w = vec a
      · subst hw
        rw [if_pos rfl]
        by_cases hy : y = fo (kd a) f.2.2.2.1
        · subst hy
          exact absurd (own_obj hM2 h4 hk h0 h2) ho
        · rw [if_neg hy]
      · rw [if_neg hw]
    rw [show f.2.2.1 + 1 = kd a by omega] at h
    split at h
    · rename_i b h0
      split at h
      · rename_i hb2
        cases h
        refine go (fty_of hq (by omega) hkn (Or.inl ⟨by rw [show kd a - 1 + 1 = kd a by omega]; exact h0, ad g b, rfl⟩)) (fun _ _ _ => rfl) (fun b' j hbj => ?_) ?_
        · unfold wR up
          dsimp only
          by_cases e1 : b' = a
          · subst e1
            rw [if_pos rfl, if_neg (fun q => hbj ⟨rfl, q⟩)]
          · rw [if_neg e1]
        · unfold fv
          rw [h0]
          show va_rf (wR M.2.2 a f.2.2.2.1 (some b) a f.2.2.2.1) = _
          unfold wR up
          rw [if_pos rfl, if_pos rfl]
          rfl
      · cases h
    · rename_i x0 h0
      cases h
      refine go (fty_of hq (by omega) hkn (Or.inr (Or.inr ⟨by rw [show kd a - 1 + 1 = kd a by omega, h0]; decide, by rw [show kd a - 1 + 1 = kd a by omega, h0]; decide, x0, rfl⟩))) (hup (by rw [h0]; decide) (by rw [h0]; decide)) (fun _ _ _ => rfl) ?_
      unfold fv
      rw [h0]
      show Value.int (up M.2.1 (vec a) _ (vec a) _) = _
      unfold up
      rw [if_pos rfl, if_pos rfl]
    · rename_i x0 h0
      split at h
      · rename_i hnc
        cases h
        refine go (fty_of hq (by omega) hkn (Or.inr (Or.inl ⟨by rw [show kd a - 1 + 1 = kd a by omega]; exact h0, hnc.1, hnc.2⟩))) (hup (by rw [h0]; decide) (by rw [h0]; decide)) (fun _ _ _ => rfl) ?_
        unfold fv
        rw [h0]
        show Value.int (up M.2.1 (vec a) _ (vec a) _) = _
        unfold up
        rw [if_pos rfl, if_pos rfl]
      · cases h
    · rename_i x0 h0
      split at h
      · rename_i hx0
        cases h
        have h9 := own_pk hM2 h4 hk h0 (t := 0) (by omega)
        refine go (fty_of hq (by omega) hkn (Or.inr (Or.inr ⟨by rw [show kd a - 1 + 1 = kd a by omega, h0]; decide, by rw [show kd a - 1 + 1 = kd a by omega, h0]; decide, x0, rfl⟩))) (fun w y ho => ?_) (fun _ _ _ => rfl) ?_
        · unfold up
          dsimp only
          by_cases hw : w = vec a
          · subst hw
            rw [if_pos rfl]
            show (if 38 ≤ y ∧ y < 48 then _ else _) = _
            by_cases hy : 38 ≤ y ∧ y < 48
            · have h10 := own_pk hM2 h4 hk h0 (t := y - 38) (by omega)
              rw [show 38 + (y - 38) = y by omega, ← h10.2] at h10
              exact absurd h10.1 ho
            · rw [if_neg hy]
          · rw [if_neg hw]
        · unfold fv
          rw [h0]
          show Value.int (pk (up M.2.1 (vec a) _ (vec a))) = _
          unfold up
          rw [if_pos rfl, pk_unpk hx0.2, ← nI_of_nn hx0.1]
      · cases h
    · cases h
  · cases h
end SND4
