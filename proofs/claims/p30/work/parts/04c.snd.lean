theorem Mad.w {n m a : Nat} (h : Mad n a) (hn : n ≤ m) : Mad m a := ⟨h.1, Nat.lt_of_lt_of_le h.2 hn⟩
theorem Mad_ne {a : Nat} (h : Mad 202 a) : a ≠ 999 := by
  rintro rfl
  exact absurd h.2 (by decide)
theorem vx_ne {a j v : Nat} (h : Mad 202 a) (h5 : 5 ≤ kd a) (h7 : kd a ≤ 7) (hj : j < ln a) (hv : v = 60 ∨ v = 61) : v ≠ vx a j := by
  intro e
  have h1 := own_arr h h5 h7 hj
  rw [← e] at h1
  have h2 : a = 999 := by
    rcases hv with rfl | rfl <;> · have := congrArg Prod.fst h1; exact this.symm
  exact Mad_ne h h2
theorem ent_ob {g : Gl} {I : Nat → Nat → Int32} {R : Nat → Nat → Option Nat} {a : Nat} (h : kd a ≤ 4) : ent g I R a = .inr (kd a - 1, obf g I R a) := if_pos h
theorem ent_ar {g : Gl} {I : Nat → Nat → Int32} {R : Nat → Nat → Option Nat} {a : Nat} (h5 : 5 ≤ kd a) (h7 : kd a ≤ 7) : ent g I R a = .inl (g.2.2.2.1 (kd a), ln a, .inl (arf I a)) := by
  unfold ent
  rw [if_neg (by omega), if_pos h7]
theorem ent_rr {g : Gl} {I : Nat → Nat → Int32} {R : Nat → Nat → Option Nat} {a : Nat} (h8 : 8 ≤ kd a) : ent g I R a = .inl (g.2.2.2.1 (kd a), ln a, .inr (.inr (.inr (.inr (rrf g R a))))) := by
  unfold ent
  rw [if_neg (by omega), if_neg (by omega)]
theorem kd_le {a : Nat} (h : Mad 202 a) : kd a ≤ 9 ∧ 1 ≤ kd a := by
  have h1 := adr_ok h.2
  rw [adr_pos h.1 h.2] at h1
  exact ⟨h1.2.2.2.1, h1.2.2.1⟩
theorem tys_at {g : Gl} {a : Nat} (h5 : 5 ≤ kd a) (h9 : kd a ≤ 9) : (tysG g)[kd a - 5]? = some (g.2.2.2.1 (kd a), arT (kd a)) := by
  generalize kd a = k at h5 h9 ⊢
  rcases (show k = 5 ∨ k = 6 ∨ k = 7 ∨ k = 8 ∨ k = 9 by omega) with rfl | rfl | rfl | rfl | rfl <;> rfl
theorem cv_rf (g : Gl) (r : Option Nat) : cv g (va_rf r) = va_rf (r.map (ad g)) := by cases r <;> rfl
theorem inb_lt {j : Int32} {n : Nat} (h : inb j n) : j.toNatClampNeg < n := Nat.not_le.mp fun q => h (Or.inr q)
theorem ad_own {g : Gl} {a : Nat} (h : a < 1000) : ad g a = g.1 + pos a := if_pos h
theorem ad_ext {g : Gl} {a : Nat} (h : 1000 ≤ a) : ad g a = g.2.1 a := if_neg (by omega)
section SND3
variable {p : Program} {l : Launch} {e : Env} {R : Room} {s : State} {m : MethodId} {args : Array Value} {below : List Frame} {meth : Method} {c : Code} {Q : State → Prop} {g : Gl} {K n0 : Nat}
variable {i : Instr} {len pc : Nat} {L : Lo} {st : List Value} {M : Mm} {H : Heap} {locs : List Loc}
theorem snd_ard (hX : FXD p R s m args meth c g K n0) (hH : HV g M H) (hS : va_S (fun q => g.1 ≤ q) s.heap H locs) {k0 a : Nat} {j z : Int32} (hi : i = .iaload ∧ k0 = 5 ∨ i = .caload ∧ k0 = 6 ∨ i = .baload ∧ k0 = 7) (d : decode (cod K) pc = .ok (i, 1)) (h : ardI k0 M.1 M.2.1 a j = some z)
    (k : WW p l e R s m args below meth c Q g K n0 H locs (pc + 1, L, .int z :: st, M)) : WW p l e R s m args below meth c Q g K n0 H locs (pc, L, .int j :: .ref a :: st, M) := by
  intro hl ls hls
  have k1 := k hl ls hls
  obtain ⟨hx, hb, hml, hown, hts, hin, ⟨hK, hE⟩, hsz, hfr, hlo⟩ := hX
  obtain ⟨hn, hHs, hP, h60, h61⟩ := hH
  unfold ardI at h
  split at h
  · rename_i ha
    split at h
    · rename_i hc
      obtain ⟨hkd, hp, hj⟩ := hc
      cases h
      have hM : Mad M.1 a := ⟨ha, hp⟩
      have hat := wl_at (g := g) hn hM
      have h5 : 5 ≤ kd a := by rcases hi with ⟨-, q⟩ | ⟨-, q⟩ | ⟨-, q⟩ <;> omega
      have h7 : kd a ≤ 7 := by rcases hi with ⟨-, q⟩ | ⟨-, q⟩ | ⟨-, q⟩ <;> omega
      rw [ent_ar h5 h7] at hat
      have hty := tys_at (g := g) h5 (by omega)
      have hv : arf M.2.1 a j.toNatClampNeg = M.2.1 (vx a j.toNatClampNeg) (ix a j.toNatClampNeg) := if_pos (inb_lt hj)
      rcases hi with ⟨rfl, q⟩ | ⟨rfl, q⟩ | ⟨rfl, q⟩
      · rw [show arT (kd a) = .int by rw [hkd, q]; rfl] at hty
        exact va_iald hx hb hK hP _ _ hat hty hj d (by rw [hv]; exact k1)
      · rw [show arT (kd a) = .char by rw [hkd, q]; rfl] at hty
        exact va_cald hx hb hK hP _ _ hat hty hj d (by rw [hv]; exact k1)
      · rw [show arT (kd a) = .boolean by rw [hkd, q]; rfl] at hty
        exact va_zald hx hb hK hP _ _ hat hty hj d (by rw [hv]; exact k1)
    · cases h
  · rename_i ha
    have hae : cv g (.ref a) = .ref (g.2.1 a) := by show Value.ref (ad g a) = _; rw [ad_ext (by omega)]
    split at h
    · rename_i h1000
      split at h
      · rename_i hc
        obtain ⟨h5, hj⟩ := hc
        cases h
        subst h1000
        rcases hi with ⟨rfl, q⟩ | ⟨rfl, q⟩ | ⟨rfl, q⟩
        · show W p l e R s m args below meth c H locs _ _ Q (F0 m pc ls (.int j :: cv g (.ref 1000) :: st.map (cv g)))
          rw [hae]
          rw [h61] at hj
          refine va_sld hx hb hE.1 hE.2.1 (Nat.not_le.mpr hE.2.2.1) hS hj d ?_
          rw [← h60]
          exact k1
        · omega
        · omega
      · cases h
    · split at h
      · rename_i h4
        split at h
        · rename_i hc
          obtain ⟨h5, hj⟩ := hc
          cases h
          rcases hi with ⟨rfl, q⟩ | ⟨rfl, q⟩ | ⟨rfl, q⟩
          · show W p l e R s m args below meth c H locs _ _ Q (F0 m pc ls (.int j :: cv g (.ref a) :: st.map (cv g)))
            rw [hae]
            exact va_ti hx hb (hE.2.2.2.2.1 a (by omega) h4) hS hj rfl d k1
          · omega
          · omega
        · cases h
      · cases h
theorem snd_aald (hX : FXD p R s m args meth c g K n0) (hH : HV g M H) {a : Nat} {j : Int32} (d : decode (cod K) pc = .ok (.aaload, 1)) (h8 : 8 ≤ kd a) (hM : Mad M.1 a) (hj : inb j (ln a))
    (k : WW p l e R s m args below meth c Q g K n0 H locs (pc + 1, L, va_rf (M.2.2 a j.toNatClampNeg) :: st, M)) : WW p l e R s m args below meth c Q g K n0 H locs (pc, L, .int j :: .ref a :: st, M) := by
  intro hl ls hls
  have k1 := k hl ls hls
  obtain ⟨hx, hb, hml, hown, hts, hin, ⟨hK, hE⟩, hsz, hfr, hlo⟩ := hX
  obtain ⟨hn, hHs, hP, h60, h61⟩ := hH
  have hat := wl_at (g := g) hn hM
  rw [ent_rr h8] at hat
  have h9 := (kd_le (hM.w hn)).1
  have hty := tys_at (g := g) (by omega) h9
  have hv : va_rf (rrf g M.2.2 a j.toNatClampNeg) = cv g (va_rf (M.2.2 a j.toNatClampNeg)) := by
    rw [cv_rf]
    show va_rf (if _ then _ else _) = _
    rw [if_pos (inb_lt hj)]
  have href : (arT (kd a)).isReference = true := by
    rcases (show kd a = 8 ∨ kd a = 9 by omega) with q | q <;> rw [q] <;> rfl
  refine W.aald (v := va_rf (rrf g M.2.2 a j.toNatClampNeg)) (ty := arT (kd a)) hx hb (hP _ _ hat) ((hK.2 _ _ hty).1 (ln a) (fun j => va_rf (rrf g M.2.2 a j))) href (fun q => by cases q) (by show ¬ (j < 0 ∨ (arrV _ _ _).slots.size ≤ _); rw [arrV_size]; exact hj) (by show (arrV _ _ _).slots[_]? = _; rw [arrV_read _ _ (inb_lt hj)]) rfl rfl d ?_
  rw [hv]
  exact k1
theorem snd_alen (hX : FXD p R s m args meth c g K n0) (hH : HV g M H) (hS : va_S (fun q => g.1 ≤ q) s.heap H locs) {a : Nat} {z : Int32} (d : decode (cod K) pc = .ok (.arraylength, 1)) (h : aln M.1 M.2.1 a = some z)
    (k : WW p l e R s m args below meth c Q g K n0 H locs (pc + 1, L, .int z :: st, M)) : WW p l e R s m args below meth c Q g K n0 H locs (pc, L, .ref a :: st, M) := by
  intro hl ls hls
  have k1 := k hl ls hls
  obtain ⟨hx, hb, hml, hown, hts, hin, ⟨hK, hE⟩, hsz, hfr, hlo⟩ := hX
  obtain ⟨hn, hHs, hP, h60, h61⟩ := hH
  unfold aln at h
  split at h
  · rename_i ha
    split at h
    · rename_i hc
      cases h
      have hM : Mad M.1 a := ⟨ha, hc.2⟩
      have hat := wl_at (g := g) hn hM
      have h9 := (kd_le (hM.w hn)).1
      have hty := tys_at (g := g) hc.1 h9
      by_cases h7 : kd a ≤ 7
      · rw [ent_ar hc.1 h7] at hat
        exact va_alen hx hb hK hP _ _ hat hty rfl d k1
      · rw [ent_rr (by omega)] at hat
        exact va_alen hx hb hK hP _ _ hat hty rfl d k1
    · cases h
  · rename_i ha
    have hae : cv g (.ref a) = .ref (g.2.1 a) := by show Value.ref (ad g a) = _; rw [ad_ext (by omega)]
    show W p l e R s m args below meth c H locs _ _ Q (F0 m pc ls (cv g (.ref a) :: st.map (cv g)))
    rw [hae]
    split at h
    · rename_i h1000
      subst h1000
      cases h
      refine va_slen hx hb hE.1 hE.2.1 (Nat.not_le.mpr hE.2.2.1) hS d ?_
      rw [← h61]
      exact k1
    · cases h
/-- one cell is written -/
theorem HV_put {n : Nat} {I I' : Nat → Nat → Int32} {R0 R' : Nat → Nat → Option Nat} {a : Nat} {H1 : Heap} (hH : HV g (n, I, R0) H) (ha : Mad n a) (hI : ∀ v x, (ow2 v x).1 ≠ a → I' v x = I v x) (hR : ∀ b k, b ≠ a → R' b k = R0 b k) (h60 : I' 60 = I 60) (h61 : I' 61 0 = I 61 0)
    (e1 : va_at g.2.2.1 vwCl (ad g a, ent g I' R' a) H1) (z : H1.size = H.size) (oq : ∀ q : Nat, q ≠ ad g a → H1[q]? = H[q]?) : HV g (n, I', R') H1 := by
  obtain ⟨hn, hs, hP, h1, h2⟩ := hH
  refine ⟨hn, z.trans hs, ?_, h60.trans h1, h61.trans h2⟩
  rw [wl_set hn ha hI hR]
  exact hP.set wl_D (wl_at (M := (n, I, R0)) hn ha) e1 oq
theorem ad_ge {a : Nat} (h : a < 1000) : g.1 ≤ ad g a := by rw [ad_own h]; exact Nat.le_add_right _ _
theorem cell_i {k n j : Nat} {f : Nat → Int32} {x : Int32} {cA : ClassId} : (arrV cA n (fun j => .int (f j))).setSlot j (.int x) = vp_cell cA (n, .inl (upd f j x)) := by
  rw [vp_cell_i, arrV_store]
  congr 1
  funext q
  by_cases hq : q = j
  · subst hq
    simp [updV, upd]
  · simp [updV, upd, hq]
theorem snd_ast (hX : FXD p R s m args meth c g K n0) (hH : HV g M H) (hS : va_S (fun q => g.1 ≤ q) s.heap H locs) {k0 a : Nat} {j x y : Int32} (hi : i = .iastore ∧ k0 = 5 ∧ y = x ∨ i = .castore ∧ k0 = 6 ∧ y = vp_nar .char x ∨ i = .bastore ∧ k0 = 7 ∧ y = vp_nar .boolean x) (d : decode (cod K) pc = .ok (i, 1)) (hkd : kd a = k0) (hM : Mad M.1 a) (hj : inb j (ln a))
    (k : ∀ (H1 : Heap) (locs1 : List Loc), HV g (M.1, wI M.2.1 a j.toNatClampNeg y, M.2.2) H1 → va_S (fun q => g.1 ≤ q) s.heap H1 locs1 → WW p l e R s m args below meth c Q g K n0 H1 locs1 (pc + 1, L, st, (M.1, wI M.2.1 a j.toNatClampNeg y, M.2.2))) : WW p l e R s m args below meth c Q g K n0 H locs (pc, L, .int x :: .int j :: .ref a :: st, M) := by
  intro hl ls hls
  obtain ⟨hx, hb, hml, hown, hts, hin, ⟨hK, hE⟩, hsz, hfr, hlo⟩ := hX
  have hn := hH.1
  have hP := hH.2.2.1
  have hat := wl_at (g := g) hn hM
  have hM2 := hM.w hn
  have h5 : 5 ≤ kd a := by rcases hi with ⟨-, q, -⟩ | ⟨-, q, -⟩ | ⟨-, q, -⟩ <;> omega
  have h7 : kd a ≤ 7 := by rcases hi with ⟨-, q, -⟩ | ⟨-, q, -⟩ | ⟨-, q, -⟩ <;> omega
  rw [ent_ar h5 h7] at hat
  have hty := tys_at (g := g) h5 (by omega)
  have hcell : H[ad g a]? = some (vp_cell (g.2.2.2.1 (kd a)) (ln a, .inl (arf M.2.1 a))) := hP _ _ hat
  have hlt := inb_lt hj
  have done : ∀ (H1 : Heap) (q0 : Nat), H1[ad g a]? = some ((arrV (g.2.2.2.1 (kd a)) (ln a) (fun j => .int (arf M.2.1 a j))).setSlot j.toNatClampNeg (.int y)) → H1.size = H.size → (∀ q : Nat, q ≠ ad g a → H1[q]? = H[q]?) → W p l e R s m args below meth c H1 (locs ++ [⟨ad g a, q0⟩]) (M.1 - n0) (sl M.1 - sl n0) Q (F0 m (pc + 1) ls (st.map (cv g))) := by
    intro H1 q0 e1 z oq
    refine k H1 _ (HV_put (I := M.2.1) (R0 := M.2.2) hH hM (fun v x0 ho => wI_ne hM2 h5 h7 hlt ho) (fun _ _ _ => rfl) ?_ ?_ ?_ z oq) (hS.put z oq (ad_ge hM.1)) hl ls hls
    · exact if_neg (vx_ne hM2 h5 h7 hlt (Or.inl rfl))
    · show wI M.2.1 a j.toNatClampNeg y 61 0 = M.2.1 61 0
      unfold wI
      show up M.2.1 (vx a j.toNatClampNeg) _ 61 0 = _
      unfold up
      rw [if_neg (vx_ne hM2 h5 h7 hlt (Or.inr rfl))]
    · rw [ent_ar h5 h7, arf_wI hM2 h5 h7 hlt]
      show H1[ad g a]? = some (vp_cell _ _)
      rw [e1, cell_i (k := 0)]
  have hin2 : ¬ (j < 0 ∨ (arrV (g.2.2.2.1 (kd a)) (ln a) (fun j => .int (arf M.2.1 a j))).slots.size ≤ j.toNatClampNeg) := by rw [arrV_size]; exact hj
  rcases hi with ⟨rfl, q, rfl⟩ | ⟨rfl, q, rfl⟩ | ⟨rfl, q, rfl⟩
  · rw [show arT (kd a) = .int by rw [hkd, q]; rfl] at hty
    exact W.iast hx hb hcell ((hK.2 _ _ hty).1 (ln a) (fun j => .int (arf M.2.1 a j))) (fun q => by cases q) hin2 rfl rfl d (fun H1 e1 z oq => done H1 _ e1 z oq)
  · rw [show arT (kd a) = .char by rw [hkd, q]; rfl] at hty
    exact W.cast hx hb hcell ((hK.2 _ _ hty).1 (ln a) (fun j => .int (arf M.2.1 a j))) (fun q => by cases q) hin2 rfl rfl d (fun H1 e1 z oq => done H1 _ e1 z oq)
  · rw [show arT (kd a) = .boolean by rw [hkd, q]; rfl] at hty
    exact W.zast hx hb hcell ((hK.2 _ _ hty).1 (ln a) (fun j => .int (arf M.2.1 a j))) (fun q => by cases q) hin2 rfl rfl d (fun H1 e1 z oq => done H1 _ e1 z oq)
theorem wR_ne {R0 : Nat → Nat → Option Nat} {a k b j : Nat} {v : Option Nat} (h : b ≠ a) : wR R0 a k v b j = R0 b j := by
  unfold wR up
  rw [if_neg h]
theorem rrf_wR {R0 : Nat → Nat → Option Nat} {a j : Nat} {v : Option Nat} (hj : j < ln a) : rrf g (wR R0 a j v) a = va_up (rrf g R0 a) j (v.map (ad g)) := by
  funext q
  show (if q < ln a then (wR R0 a j v a q).map (ad g) else none) = (if q = j then v.map (ad g) else if q < ln a then (R0 a q).map (ad g) else none)
  unfold wR up
  rw [if_pos rfl]
  by_cases e : q = j
  · subst e
    rw [if_pos hj, if_pos rfl, if_pos rfl]
  · rw [if_neg e, if_neg e]
theorem snd_aast (hX : FXD p R s m args meth c g K n0) (hH : HV g M H) (hS : va_S (fun q => g.1 ≤ q) s.heap H locs) {a b : Nat} {j : Int32} (d : decode (cod K) pc = .ok (.aastore, 1)) (hkd : kd a = 8) (hM : Mad M.1 a) (hj : inb j (ln a)) (hkb : kd b = 2) (hMb : Mad M.1 b)
    (k : ∀ (H1 : Heap) (locs1 : List Loc), HV g (M.1, M.2.1, wR M.2.2 a j.toNatClampNeg (some b)) H1 → va_S (fun q => g.1 ≤ q) s.heap H1 locs1 → WW p l e R s m args below meth c Q g K n0 H1 locs1 (pc + 1, L, st, (M.1, M.2.1, wR M.2.2 a j.toNatClampNeg (some b)))) : WW p l e R s m args below meth c Q g K n0 H locs (pc, L, .ref b :: .int j :: .ref a :: st, M) := by
  intro hl ls hls
  obtain ⟨hx, hb, hml, hown, hts, hin, ⟨hK, hE⟩, hsz, hfr, hlo⟩ := hX
  have hn := hH.1
  have hP := hH.2.2.1
  have hat := wl_at (g := g) hn hM
  rw [ent_rr (by omega)] at hat
  have hbt := wl_at (g := g) hn hMb
  rw [ent_ob (by omega), hkb] at hbt
  have hty := tys_at (g := g) (a := a) (by omega) (by omega)
  rw [show arT (kd a) = .object RX1 by rw [hkd]; rfl] at hty
  have hcl : vwCl[2 - 1]? = some (RX1, TX1, 17) := rfl
  have hlt := inb_lt hj
  obtain ⟨r', hr', cellV, g1, g2, g3, -⟩ := hP _ _ hbt
  have hcls := (hK.1 _ _ hcl).2
  obtain ⟨kA, comp, k1, k2, k3, -⟩ := (hK.2 _ _ hty).2
  have hcomp : comp = g.2.2.1.1 (2 - 1) := Option.some.inj (k3.symm.trans hcls.1)
  subst hcomp
  obtain ⟨kC, hkC, -⟩ := hcls.2
  refine W.aast hx hb (hP _ _ hat) (fun q h => by cases h) (fun h => by cases h) k1 k2 rfl hkC ⟨fun q => hj (Or.inl q), by show _ < (arrV _ _ _).slots.size; rw [arrV_size]; exact hlt⟩ g1 (fun q h => by rw [g3] at h; cases h) (by rw [g2]; exact hkC) (by rw [g2]; exact va_assign hcls) rfl rfl d fun H1 e1 z oq => ?_
  refine k H1 _ (HV_put (I := M.2.1) (R0 := M.2.2) hH hM (fun _ _ _ => rfl) (fun _ _ h => wR_ne h) rfl rfl ?_ z oq) (hS.put z oq (ad_ge hM.1)) hl ls hls
  rw [ent_rr (by omega), rrf_wR hlt]
  show H1[ad g a]? = some (vp_cell _ _)
  rw [e1]
  rw [vp_cell_q, vp_cell_q, arrV_store]
  congr 2
  funext q
  by_cases hq : q = j.toNatClampNeg
  · subst hq
    simp [updV, va_up, va_rf]
  · simp [updV, va_up, hq]
end SND3
