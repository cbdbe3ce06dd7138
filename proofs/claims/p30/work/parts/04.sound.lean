/-! WHAT THE PICTURE MACHINE DOES, THE JVM DOES: first the picture itself -/
/-- where the made cells begin; where those from 1000 on stand; the tables' slots; the arrays' classes; the script's numbers and its length -/
abbrev Gl : Type := Nat × (Nat → Nat) × va_G × (Nat → ClassId) × (Nat → Int32) × Int32
def ad (g : Gl) (a : Nat) : Nat := if a < 1000 then g.1 + pos a else g.2.1 a
def cv (g : Gl) (v : Value) : Value := match v with
  | .ref a => .ref (ad g a)
  | v => v
theorem cv_cat (g : Gl) (v : Value) : (cv g v).category = v.category := by
  cases v <;> rfl
def arT (k : Nat) : FieldType := match k with
  | 5 => .int
  | 6 => .char
  | 7 => .boolean
  | 8 => .object RX1
  | _ => .array .int
def tysG (g : Gl) : List (ClassId × FieldType) := [(g.2.2.2.1 5, .int), (g.2.2.2.1 6, .char), (g.2.2.2.1 7, .boolean), (g.2.2.2.1 8, .object RX1), (g.2.2.2.1 9, .array .int)]
def arf (I : Nat → Nat → Int32) (a : Nat) : Nat → Int32 := fun j => if j < ln a then I (vx a j) (ix a j) else 0
def rrf (g : Gl) (R : Nat → Nat → Option Nat) (a : Nat) : Nat → Option Nat := fun j => if j < ln a then (R a j).map (ad g) else none
def obf (g : Gl) (I : Nat → Nat → Int32) (R : Nat → Nat → Option Nat) (a : Nat) : List Value := (List.range (ln a)).map (fun k => cv g (fv I R a k))
def ent (g : Gl) (I : Nat → Nat → Int32) (R : Nat → Nat → Option Nat) (a : Nat) : va_E :=
  if kd a ≤ 4 then .inr (kd a - 1, obf g I R a)
  else if kd a ≤ 7 then .inl (g.2.2.2.1 (kd a), ln a, .inl (arf I a))
  else .inl (g.2.2.2.1 (kd a), ln a, .inr (.inr (.inr (.inr (rrf g R a)))))
def wl (g : Gl) (M : Mm) : va_W := (List.range M.1).map (fun i => (g.1 + i, ent g M.2.1 M.2.2 (adr i)))
/-- which cell and place a number belongs to -/
def ow2 (v x : Nat) : Nat × Nat :=
  if v < 13 then
    (if x = 0 then (16 * v, 11) else if x = 1 then (16 * v, 8) else if x < 8 then (16 * v + 1, x - 2) else if x < 13 then (16 * v, x + 4) else if x = 13 then (16 * v, 10)
     else if x < 26 then (16 * v + 2, x - 14) else if x < 38 then (16 * v + 3, x - 26) else if x < 48 then (16 * v, 9) else if x < 58 then (16 * v + 11, x - 48)
     else if x < 118 then (16 * v + 5 + (x - 58) / 10, (x - 58) % 10) else if x < 128 then (16 * v + 12, x - 118) else if x < 138 then (16 * v + 13, x - 128) else if x < 148 then (16 * v + 14, x - 138) else (999, 0))
  else if v = 20 then (if x = 0 then (208, 3) else if x < 3 then (211, x - 1) else if x < 6 then (212, x - 1) else if x < 9 then (214, x - 6) else if x < 10 then (999, 0) else (213, x - 10))
  else if v = 32 then (if x < 2 then (229, x) else if x = 2 then (224, 3) else if x = 3 then (224, 7) else if x = 4 then (224, 8) else if x = 5 then (224, 10) else if x < 10 then (999, 0) else (230, x - 10))
  else if v = 33 then (231, x)
  else if 40 ≤ v ∧ v < 46 then (227, 148 * (v - 40) + x)
  else if 50 ≤ v ∧ v < 52 then (228, 148 * (v - 50) + x)
  else if v = 225 ∨ v = 226 then (v, x) else (999, 0)
def chkA (i : Nat) : Bool := decide (adr i < 1000) && decide (pos (adr i) = i) && decide (1 ≤ kd (adr i)) && decide (kd (adr i) ≤ 9) &&
  decide (kd (adr i) ≤ 4 → kd (adr i) ≤ 3 ∧ ln (adr i) = ([0, 5, 17, 10, 11] : List Nat).getD (kd (adr i)) 0)
theorem chkA_ok : (List.range 202).all chkA = true := by decide +kernel
theorem adr_ok {i : Nat} (h : i < 202) : adr i < 1000 ∧ pos (adr i) = i ∧ 1 ≤ kd (adr i) ∧ kd (adr i) ≤ 9 ∧ (kd (adr i) ≤ 4 → kd (adr i) ≤ 3 ∧ ln (adr i) = ([0, 5, 17, 10, 11] : List Nat).getD (kd (adr i)) 0) := by
  have h1 := List.all_eq_true.mp chkA_ok i (List.mem_range.mpr h)
  simp only [chkA, Bool.and_eq_true, decide_eq_true_eq] at h1
  exact ⟨h1.1.1.1.1, h1.1.1.1.2, h1.1.1.2, h1.1.2, h1.2⟩
def chkB (a : Nat) : Bool := decide (pos a < 202 → adr (pos a) = a)
theorem chkB_ok : (List.range 1000).all chkB = true := by decide +kernel
theorem adr_pos {a : Nat} (h : a < 1000) (hp : pos a < 202) : adr (pos a) = a := by
  have h1 := List.all_eq_true.mp chkB_ok a (List.mem_range.mpr h)
  simp only [chkB, decide_eq_true_eq] at h1
  exact h1 hp
def chkC (i : Nat) : Bool := (List.range (ln (adr i))).all (fun j =>
  if kd (adr i) ≤ 4 then (match fk (kd (adr i)) j with
    | 0 => true
    | 2 => (List.range 10).all (fun t => decide (ow2 (vec (adr i)) (38 + t) = (adr i, 9))) && decide (j = 9)
    | _ => decide (ow2 (vec (adr i)) (fo (kd (adr i)) j) = (adr i, j)))
  else if kd (adr i) ≤ 7 then decide (ow2 (vx (adr i) j) (ix (adr i) j) = (adr i, j)) else true)
theorem chkC1 : ((List.range 202).take 70).all chkC = true := by decide +kernel
theorem chkC2 : (((List.range 202).drop 70).take 70).all chkC = true := by decide +kernel
theorem chkC3 : ((List.range 202).drop 140).all chkC = true := by decide +kernel
theorem chkC_ok : (List.range 202).all chkC = true := by
  have h : List.range 202 = (List.range 202).take 70 ++ (((List.range 202).drop 70).take 70 ++ (List.range 202).drop 140) := by decide +kernel
  rw [h, List.all_append, List.all_append, chkC1, chkC2, chkC3]
  rfl
/-- the name of a made cell -/
def Mad (n a : Nat) : Prop := a < 1000 ∧ pos a < n
theorem own_arr {a j : Nat} (h : Mad 202 a) (h5 : 5 ≤ kd a) (h7 : kd a ≤ 7) (hj : j < ln a) : ow2 (vx a j) (ix a j) = (a, j) := by
  have h1 := List.all_eq_true.mp chkC_ok (pos a) (List.mem_range.mpr h.2)
  have e := adr_pos h.1 h.2
  unfold chkC at h1
  rw [e] at h1
  have h2 := List.all_eq_true.mp h1 j (List.mem_range.mpr hj)
  rw [if_neg (by omega), if_pos h7] at h2
  exact of_decide_eq_true h2
theorem own_obj {a k : Nat} (h : Mad 202 a) (h4 : kd a ≤ 4) (hk : k < ln a) (h0 : fk (kd a) k ≠ 0) (h2 : fk (kd a) k ≠ 2) : ow2 (vec a) (fo (kd a) k) = (a, k) := by
  have h1 := List.all_eq_true.mp chkC_ok (pos a) (List.mem_range.mpr h.2)
  have e := adr_pos h.1 h.2
  unfold chkC at h1
  rw [e] at h1
  have h3 := List.all_eq_true.mp h1 k (List.mem_range.mpr hk)
  rw [if_pos h4] at h3
  split at h3
  · rename_i q; exact absurd q h0
  · rename_i q; exact absurd q h2
  · exact of_decide_eq_true h3
theorem own_pk {a k t : Nat} (h : Mad 202 a) (h4 : kd a ≤ 4) (hk : k < ln a) (h2 : fk (kd a) k = 2) (ht : t < 10) : ow2 (vec a) (38 + t) = (a, 9) ∧ k = 9 := by
  have h1 := List.all_eq_true.mp chkC_ok (pos a) (List.mem_range.mpr h.2)
  have e := adr_pos h.1 h.2
  unfold chkC at h1
  rw [e] at h1
  have h3 := List.all_eq_true.mp h1 k (List.mem_range.mpr hk)
  rw [if_pos h4, h2] at h3
  have h5 : ((List.range 10).all (fun t => decide (ow2 (vec a) (38 + t) = (a, 9))) && decide (k = 9)) = true := h3
  rw [Bool.and_eq_true] at h5
  exact ⟨of_decide_eq_true (List.all_eq_true.mp h5.1 t (List.mem_range.mpr ht)), of_decide_eq_true h5.2⟩
theorem pk_congr {V W : Nat → Int32} (h : ∀ t, t < 10 → V (38 + t) = W (38 + t)) : pk V = pk W := by
  unfold pk pkN bt1
  rw [h 0 (by omega), h 1 (by omega), h 2 (by omega), h 3 (by omega), h 4 (by omega), h 5 (by omega), h 6 (by omega), h 7 (by omega), h 8 (by omega), h 9 (by omega)]
theorem fv_congr {I I' : Nat → Nat → Int32} {R R' : Nat → Nat → Option Nat} {a k : Nat} (h : Mad 202 a) (h4 : kd a ≤ 4) (hk : k < ln a) (hI : ∀ v x, (ow2 v x).1 = a → (ow2 v x).2 = k → I v x = I' v x) (hR : R a k = R' a k) : fv I R a k = fv I' R' a k := by
  unfold fv
  split
  · rw [hR]
  · rename_i q
    have hp : ∀ t, t < 10 → ow2 (vec a) (38 + t) = (a, 9) ∧ k = 9 := fun t ht => own_pk h h4 hk q ht
    rw [pk_congr (fun t ht => hI _ _ (by rw [(hp t ht).1]) (by rw [(hp t ht).1, (hp t ht).2]))]
  · rename_i q0 q2
    have ho := own_obj h h4 hk q0 q2
    rw [hI _ _ (by rw [ho]) (by rw [ho])]
theorem ent_congr {g : Gl} {I I' : Nat → Nat → Int32} {R R' : Nat → Nat → Option Nat} {a : Nat} (h : Mad 202 a) (hI : ∀ v x, (ow2 v x).1 = a → I v x = I' v x) (hR : ∀ k, R a k = R' a k) : ent g I R a = ent g I' R' a := by
  unfold ent
  split
  · rename_i h4
    have : obf g I R a = obf g I' R' a := by
      unfold obf
      apply List.map_congr_left
      intro k hk
      rw [fv_congr h h4 (List.mem_range.mp hk) (fun v x q _ => hI v x q) (hR k)]
    rw [this]
  · rename_i h4
    split
    · rename_i h7
      have : arf I a = arf I' a := by
        funext j
        unfold arf
        split
        · rename_i hj
          have ho := own_arr h (by omega) h7 hj
          exact hI _ _ (by rw [ho])
        · rfl
      rw [this]
    · have : rrf g R a = rrf g R' a := by
        funext j
        unfold rrf
        rw [hR j]
      rw [this]
theorem wl_get {g : Gl} {M : Mm} {i : Nat} (h : i < M.1) : (wl g M)[i]? = some (g.1 + i, ent g M.2.1 M.2.2 (adr i)) := by
  unfold wl
  rw [List.getElem?_map, List.getElem?_range h]
  rfl
theorem wl_at {g : Gl} {M : Mm} {a : Nat} (hn : M.1 ≤ 202) (h : Mad M.1 a) : (wl g M)[pos a]? = some (ad g a, ent g M.2.1 M.2.2 a) := by
  rw [wl_get h.2, adr_pos h.1 (Nat.lt_of_lt_of_le h.2 hn)]
  unfold ad
  rw [if_pos h.1]
theorem wl_len {g : Gl} {M : Mm} : (wl g M).length = M.1 := by simp [wl]
/-- one cell changes -/
theorem wl_set {g : Gl} {n : Nat} {I I' : Nat → Nat → Int32} {R R' : Nat → Nat → Option Nat} {a : Nat} (hn : n ≤ 202) (h : Mad n a) (hI : ∀ v x, (ow2 v x).1 ≠ a → I' v x = I v x) (hR : ∀ b k, b ≠ a → R' b k = R b k) : wl g (n, I', R') = (wl g (n, I, R)).set (pos a) (ad g a, ent g I' R' a) := by
  apply List.ext_getElem?
  intro i
  by_cases hi : i < n
  · rw [wl_get (M := (n, I', R')) hi]
    by_cases e : i = pos a
    · subst e
      rw [List.getElem?_set_self (by rw [wl_len]; exact hi), adr_pos h.1 (Nat.lt_of_lt_of_le h.2 hn)]
      unfold ad
      rw [if_pos h.1]
    · rw [List.getElem?_set_ne (Ne.symm e), wl_get (M := (n, I, R)) hi]
      have h1 := adr_ok (Nat.lt_of_lt_of_le hi hn)
      have hne : adr i ≠ a := fun q => e (by rw [← q]; exact h1.2.1.symm)
      rw [ent_congr (I := I') (I' := I) (R := R') (R' := R) ⟨h1.1, by rw [h1.2.1]; exact Nat.lt_of_lt_of_le hi hn⟩ (fun v x q => hI v x (fun z => hne (q ▸ z))) (fun k => hR _ k hne)]
  · rw [List.getElem?_eq_none (by rw [wl_len]; exact Nat.not_lt.mp hi), List.getElem?_eq_none (by rw [List.length_set, wl_len]; exact Nat.not_lt.mp hi)]
theorem wl_D {g : Gl} {M : Mm} : va_D (fun q => g.1 ≤ q) (wl g M) := by
  have key : ∀ (k : Nat) (q : Nat × va_E), (wl g M)[k]? = some q → q.1 = g.1 + k := by
    intro k q hk
    by_cases h : k < M.1
    · rw [wl_get h] at hk
      cases hk
      rfl
    · rw [List.getElem?_eq_none (by rw [wl_len]; exact Nat.not_lt.mp h)] at hk
      cases hk
  refine ⟨fun i j p q hi hj hpq => ?_, fun k q hk => ?_⟩
  · have := key i p hi
    have := key j q hj
    omega
  · have := key k q hk
    show g.1 ≤ q.1
    omega
/-- writing into an array of numbers -/
theorem wI_own {I : Nat → Nat → Int32} {a j : Nat} {x : Int32} (h : Mad 202 a) (h5 : 5 ≤ kd a) (h7 : kd a ≤ 7) (hj : j < ln a) (v y : Nat) : wI I a j x v y = if v = vx a j ∧ y = ix a j then x else I v y := by
  unfold wI up
  by_cases hv : v = vx a j
  · subst hv
    rw [if_pos rfl]
    by_cases hy : y = ix a j
    · rw [if_pos hy, if_pos ⟨rfl, hy⟩]
    · rw [if_neg hy, if_neg (fun q => hy q.2)]
  · rw [if_neg hv, if_neg (fun q => hv q.1)]
theorem wI_ne {I : Nat → Nat → Int32} {a j : Nat} {x : Int32} (h : Mad 202 a) (h5 : 5 ≤ kd a) (h7 : kd a ≤ 7) (hj : j < ln a) {v y : Nat} (ho : (ow2 v y).1 ≠ a) : wI I a j x v y = I v y := by
  rw [wI_own h h5 h7 hj, if_neg]
  rintro ⟨rfl, rfl⟩
  exact ho (by rw [own_arr h h5 h7 hj])
theorem arf_wI {I : Nat → Nat → Int32} {a j : Nat} {x : Int32} (h : Mad 202 a) (h5 : 5 ≤ kd a) (h7 : kd a ≤ 7) (hj : j < ln a) : arf (wI I a j x) a = upd (arf I a) j x := by
  funext k
  show (if k < ln a then wI I a j x (vx a k) (ix a k) else 0) = (if k = j then x else if k < ln a then I (vx a k) (ix a k) else 0)
  by_cases hk : k < ln a
  · rw [if_pos hk, if_pos hk, wI_own h h5 h7 hj]
    by_cases e : k = j
    · subst e
      rw [if_pos ⟨rfl, rfl⟩, if_pos rfl]
    · rw [if_neg e, if_neg]
      rintro ⟨q1, q2⟩
      have o1 := own_arr h h5 h7 hk
      have o2 := own_arr h h5 h7 hj
      rw [q1, q2, o2] at o1
      exact e (congrArg Prod.snd o1).symm
  · rw [if_neg hk, if_neg hk]
    by_cases e : k = j
    · exact absurd (e ▸ hj) hk
    · rw [if_neg e]

/-! the machine's rows behind the picture's steps -/
def wsU : List Cond := lw_tbl.filter goodWord
/-- arrays of rows of ints have their class -/
def aoa (U : State) : Prop := (Cond.arrayOver (.array .int)).before #[] U = true
theorem aoa_use {A : Array Value} {U : State} (h : aoa U) : (Cond.arrayOver (.array .int)).before A U = true := h
theorem aoa_spec {u : State} (h : aoa u) : ∃ (comp : ClassId) (c : Nat) (k : Class), u.vm.findClass (FieldType.array .int).toString = some comp ∧ (u.vm.classes.findIdx? fun x => match x.kind with | .array component _ => component == comp | _ => false) = some c ∧ u.vm.classes[c]? = some k ∧ k.kind = .array comp (.array .int) ∧ u.vm.findClass ("[" ++ (FieldType.array .int).toString) = some c := by
  have h1 : (Cond.arrayOver (.array .int)).holds #[] u none u [] = true := h
  simp only [Cond.holds, Cond.value, beq_iff_eq] at h1
  cases hc : u.vm.findClass (FieldType.array .int).toString with
  | none => simp [hc] at h1
  | some comp =>
    simp only [hc, Option.bind_some, Option.bind_eq_some_iff, Option.map_eq_some_iff] at h1
    obtain ⟨c, hi, k, hk, hb⟩ := h1
    obtain ⟨hlt, hp, -⟩ := Array.findIdx?_eq_some_iff_getElem.mp hi
    have hkk : u.vm.classes[c] = k := (Array.getElem?_eq_some_iff.mp hk).2
    rw [hkk] at hp
    cases hkind : k.kind with
    | array component ty =>
      rw [hkind] at hb hp
      simp at hb hp
      exact ⟨comp, c, k, rfl, hi, hk, by rw [hkind, hp, hb.1], hb.2⟩
    | _ => rw [hkind] at hb; simp at hb
theorem aoa_moved {u U : State} (hvm : u.vm.Alike U.vm) (h : aoa u) : aoa U := by
  obtain ⟨comp, c, k, h1, h2, h3, h4, h5⟩ := aoa_spec h
  obtain ⟨k', hk', he⟩ := hvm.2.2 _ _ h3
  have hi : (U.vm.classes.findIdx? fun (x : Class) => match x.kind with | .array component _ => component == comp | _ => false) = some c := by
    have e1 := va_idx_bare U.vm comp
    have e2 := va_idx_bare u.vm comp
    have e3 : U.vm.bare = u.vm.bare := by first | exact hvm.bare_eq | exact hvm.bare_eq.symm
    rw [e3] at e1
    exact (e1.symm.trans e2).trans h2
  have hkind : k'.kind = .array comp (.array .int) := by rw [he]; exact h4
  have f1 : U.vm.findClass (FieldType.array .int).toString = some comp := by rw [hvm.findClass]; exact h1
  have f2 : U.vm.findClass ("[" ++ (FieldType.array .int).toString) = some c := by rw [hvm.findClass]; exact h5
  unfold aoa Cond.before Cond.holds
  simp only [Cond.value]
  rw [f1, Option.bind_some]
  refine (congrArg (fun o : Option Nat => (o.bind (fun c => (U.vm.classes[c]?).map fun (k : Class) => match k.kind with | .array _ ty => decide (ty = FieldType.array .int) && decide (U.vm.findClass ("[" ++ (FieldType.array .int).toString) = some c) | _ => false) == some true)) hi).trans ?_
  simp [hk', hkind, f2]
/-- what stands from before: never written -/
def EXT (g : Gl) (s : State) : Prop :=
  va_X (g.2.1 1000) g.2.2.2.2.2.toNatClampNeg g.2.2.2.2.1 s s.heap ∧ g.2.1 1000 < s.heap.size ∧ g.2.1 1000 < g.1 ∧
  (va_Z "HandoverDesk" "FIRST_SETTING" "[I" (.ref (g.2.1 1001)) (fun q => g.1 ≤ q) s s.heap ∧ va_Z "HandoverDesk" "LEAST_SETTING" "[I" (.ref (g.2.1 1002)) (fun q => g.1 ≤ q) s s.heap ∧ va_Z "HandoverDesk" "MOST_SETTING" "[I" (.ref (g.2.1 1003)) (fun q => g.1 ≤ q) s s.heap) ∧
  (∀ a, 1001 ≤ a → a < 1004 → va_T .int (g.2.1 a) 6 (fun j => .int (csI a j)) (fun q => g.1 ≤ q) s s.heap) ∧
  True ∧
  True ∧
  (va_Nw (.methodLinkNest "HandoverDesk$State" 111 ⟨"HandoverDesk", "isSetting", "(I)Z"⟩ "HandoverDesk") s ∧ va_Nw (.methodLinkNest "HandoverDesk$State" 81 ⟨"HandoverDesk", "isWorker", "(I)Z"⟩ "HandoverDesk") s ∧ va_Nw (.methodLinkNest "HandoverDesk$State" 120 ⟨"HandoverDesk", "isPlace", "(I)Z"⟩ "HandoverDesk") s ∧
    va_Nw (.fieldLinkNest "HandoverDesk$State" 15 "HandoverDesk" "FIRST_SETTING" "[I" "HandoverDesk") s ∧ va_Nw (.fieldLinkNest "HandoverDesk$State" 114 "HandoverDesk" "LEAST_SETTING" "[I" "HandoverDesk") s ∧ va_Nw (.fieldLinkNest "HandoverDesk$State" 117 "HandoverDesk" "MOST_SETTING" "[I" "HandoverDesk") s) ∧
  va_AO "HandoverDesk$State" s ∧ aoa s
def ENV (g : Gl) (s : State) : Prop := va_K g.2.2.1 vwCl (tysG g) s ∧ EXT g s
/-- the heap as the picture says -/
def HV (g : Gl) (M : Mm) (H : Heap) : Prop := M.1 ≤ 202 ∧ H.size = g.1 + M.1 ∧ va_P g.2.2.1 vwCl (wl g M) H ∧ M.2.1 60 = g.2.2.2.2.1 ∧ M.2.1 61 0 = g.2.2.2.2.2
def asc (g : Gl) : Nat → Lo → List (Nat × Value)
  | _, [] => []
  | i, some v :: l => (i, cv g v) :: asc g (i + 1) l
  | i, none :: l => asc g (i + 1) l
theorem asc_mem {g : Gl} : ∀ (l : Lo) (i : Nat) (q : Nat × Value), q ∈ asc g i l ↔ ∃ (k : Nat) (v : Value), l[k]? = some (some v) ∧ q = (i + k, cv g v)
  | [], i, q => by
    constructor
    · intro h; cases h
    · rintro ⟨k, v, h, -⟩; simp at h
  | some w :: l, i, q => by
    rw [asc, List.mem_cons, asc_mem l (i + 1) q]
    constructor
    · rintro (rfl | ⟨k, v, h, rfl⟩)
      · exact ⟨0, w, rfl, rfl⟩
      · exact ⟨k + 1, v, h, by rw [show i + 1 + k = i + (k + 1) by omega]⟩
    · rintro ⟨k, v, h, rfl⟩
      cases k with
      | zero =>
        left
        rw [List.getElem?_cons_zero] at h
        cases h
        rfl
      | succ k =>
        right
        rw [List.getElem?_cons_succ] at h
        exact ⟨k, v, h, by rw [show i + 1 + k = i + (k + 1) by omega]⟩
  | none :: l, i, q => by
    rw [asc, asc_mem l (i + 1) q]
    constructor
    · rintro ⟨k, v, h, rfl⟩
      exact ⟨k + 1, v, h, by rw [show i + 1 + k = i + (k + 1) by omega]⟩
    · rintro ⟨k, v, h, rfl⟩
      cases k with
      | zero => rw [List.getElem?_cons_zero] at h; cases h
      | succ k =>
        rw [List.getElem?_cons_succ] at h
        exact ⟨k, v, h, by rw [show i + 1 + k = i + (k + 1) by omega]⟩
theorem lo_at {g : Gl} {ls : Array Slot} {n : Nat} {l : Lo} (h : lv_has ls n (asc g 0 l)) {k : Nat} {v : Value} (hk : l[k]? = some (some v)) : ls[k]? = some (.val (cv g v)) :=
  h.2.2 (k, cv g v) ((asc_mem l 0 _).mpr ⟨k, v, hk, by rw [Nat.zero_add]⟩)
theorem lo_sub {g : Gl} {ls : Array Slot} {n : Nat} {l : Lo} {lv : List (Nat × Value)} (h : lv_has ls n lv) (hs : ∀ (k : Nat) (v : Value), l[k]? = some (some v) → (k, cv g v) ∈ lv) : lv_has ls n (asc g 0 l) := by
  refine ⟨h.1, h.2.1, fun q hq => ?_⟩
  obtain ⟨k, v, hk, rfl⟩ := (asc_mem l 0 q).mp hq
  rw [Nat.zero_add]
  exact h.2.2 _ (hs k v hk)
theorem sto1_len : ∀ (l : Lo) (i : Nat) (v : Value), (sto1 l i v).length = l.length
  | [], i, _ => by cases i <;> rfl
  | _ :: l, 0, _ => rfl
  | _ :: l, 1, v => by rw [sto1, List.length_cons, List.length_cons, sto1_len l 0 v]
  | _ :: l, i + 2, v => by rw [sto1, List.length_cons, List.length_cons, sto1_len l (i + 1) v]
theorem sto1_at : ∀ (l : Lo) (i : Nat) (v : Value) (k : Nat) (w : Value), (sto1 l i v)[k]? = some (some w) → (k = i ∧ w = v) ∨ (k ≠ i ∧ l[k]? = some (some w) ∧ ¬ (k + 1 = i ∧ w.category = 2))
  | [], i, v, k, w, h => by cases i <;> simp [sto1] at h
  | x :: l, 0, v, k, w, h => by
    cases k with
    | zero => left; simp [sto1] at h; exact ⟨rfl, h.symm⟩
    | succ k => right; simp [sto1] at h; exact ⟨by omega, by simpa using h, by omega⟩
  | x :: l, 1, v, k, w, h => by
    cases k with
    | zero =>
      right
      rw [sto1, List.getElem?_cons_zero] at h
      have h1 : cln x = some w := by simpa using h
      cases x with
      | none => cases h1
      | some y =>
        unfold cln at h1
        by_cases hc : y.category = 2
        · simp [hc] at h1
        · simp [hc] at h1
          subst h1
          exact ⟨by omega, rfl, fun q => hc q.2⟩
    | succ k =>
      rw [sto1, List.getElem?_cons_succ] at h
      rcases sto1_at l 0 v k w h with ⟨rfl, rfl⟩ | ⟨h1, h2, h3⟩
      · exact Or.inl ⟨rfl, rfl⟩
      · exact Or.inr ⟨by omega, by rw [List.getElem?_cons_succ]; exact h2, by omega⟩
  | x :: l, i + 2, v, k, w, h => by
    cases k with
    | zero =>
      right
      rw [sto1, List.getElem?_cons_zero] at h
      exact ⟨by omega, by rw [List.getElem?_cons_zero]; exact h, by omega⟩
    | succ k =>
      rw [sto1, List.getElem?_cons_succ] at h
      rcases sto1_at l (i + 1) v k w h with ⟨rfl, rfl⟩ | ⟨h1, h2, h3⟩
      · exact Or.inl ⟨rfl, rfl⟩
      · exact Or.inr ⟨by omega, by rw [List.getElem?_cons_succ]; exact h2, fun q => h3 ⟨by omega, q.2⟩⟩
theorem sto2_len : ∀ (l : Lo) (i : Nat) (v : Value), i + 1 < l.length → (sto2 l i v).length = l.length
  | [], i, _, h => by simp at h
  | [x], 0, _, h => by simp at h
  | _ :: _ :: l, 0, _, _ => rfl
  | [x], 1, v, h => by simp at h
  | x :: y :: l, 1, v, h => by rw [sto2, List.length_cons, List.length_cons, sto2_len (y :: l) 0 v (by simpa using h)]
  | x :: l, i + 2, v, h => by rw [sto2, List.length_cons, List.length_cons, sto2_len l (i + 1) v (by simpa using h)]
theorem sto2_at : ∀ (l : Lo) (i : Nat) (v : Value) (k : Nat) (w : Value), i + 1 < l.length → (sto2 l i v)[k]? = some (some w) → (k = i ∧ w = v) ∨ (k ≠ i ∧ k ≠ i + 1 ∧ l[k]? = some (some w) ∧ ¬ (k + 1 = i ∧ w.category = 2))
  | [], i, v, k, w, hl, h => by simp at hl
  | [x], 0, v, k, w, hl, h => by simp at hl
  | x :: y :: l, 0, v, k, w, hl, h => by
    match k, h with
    | 0, h => left; simp [sto2] at h; exact ⟨rfl, h.symm⟩
    | 1, h => simp [sto2] at h
    | k + 2, h => right; simp [sto2] at h; exact ⟨by omega, by omega, by simpa using h, by omega⟩
  | [x], 1, v, k, w, hl, h => by simp at hl
  | x :: y :: l, 1, v, k, w, hl, h => by
    cases k with
    | zero =>
      right
      rw [sto2, List.getElem?_cons_zero] at h
      have h1 : cln x = some w := by simpa using h
      cases x with
      | none => cases h1
      | some z =>
        unfold cln at h1
        by_cases hc : z.category = 2
        · simp [hc] at h1
        · simp [hc] at h1
          subst h1
          exact ⟨by omega, by omega, rfl, fun q => hc q.2⟩
    | succ k =>
      rw [sto2, List.getElem?_cons_succ] at h
      rcases sto2_at (y :: l) 0 v k w (by simpa using hl) h with ⟨rfl, rfl⟩ | ⟨h1, h2, h3, h4⟩
      · exact Or.inl ⟨rfl, rfl⟩
      · exact Or.inr ⟨by omega, by omega, by rw [List.getElem?_cons_succ]; exact h3, by omega⟩
  | x :: l, i + 2, v, k, w, hl, h => by
    cases k with
    | zero =>
      right
      rw [sto2, List.getElem?_cons_zero] at h
      exact ⟨by omega, by omega, by rw [List.getElem?_cons_zero]; exact h, by omega⟩
    | succ k =>
      rw [sto2, List.getElem?_cons_succ] at h
      rcases sto2_at l (i + 1) v k w (by simpa using hl) h with ⟨rfl, rfl⟩ | ⟨h1, h2, h3, h4⟩
      · exact Or.inl ⟨rfl, rfl⟩
      · exact Or.inr ⟨by omega, by omega, by rw [List.getElem?_cons_succ]; exact h3, fun q => h4 ⟨by omega, q.2⟩⟩
theorem lo_st1 {g : Gl} {ls' : Array Slot} {n i : Nat} {l : Lo} {v : Value} (h : lv_has ls' n ((i, cv g v) :: (asc g 0 l).filter (fun q => !(q.1 == i) && !(q.1 + 1 == i && q.2.category == 2)))) : lv_has ls' n (asc g 0 (sto1 l i v)) := by
  refine lo_sub h (fun k w hk => ?_)
  rcases sto1_at l i v k w hk with ⟨rfl, rfl⟩ | ⟨h1, h2, h3⟩
  · exact List.mem_cons_self
  · refine List.mem_cons_of_mem _ (List.mem_filter.mpr ⟨(asc_mem l 0 _).mpr ⟨k, w, h2, by rw [Nat.zero_add]⟩, ?_⟩)
    simp only [Bool.and_eq_true, Bool.not_eq_true', beq_eq_false_iff_ne, ne_eq, Bool.and_eq_false_iff, cv_cat]
    exact ⟨h1, by by_cases q : k + 1 = i
                  · exact Or.inr (fun z => h3 ⟨q, z⟩)
                  · exact Or.inl q⟩
theorem lo_st2 {g : Gl} {ls' : Array Slot} {n i : Nat} {l : Lo} {v : Value} (hl : i + 1 < l.length) (h : lv_has ls' n ((i, cv g v) :: (asc g 0 l).filter (fun q => !(q.1 == i) && (!(q.1 == i + 1) && !(q.1 + 1 == i && q.2.category == 2))))) : lv_has ls' n (asc g 0 (sto2 l i v)) := by
  refine lo_sub h (fun k w hk => ?_)
  rcases sto2_at l i v k w hl hk with ⟨rfl, rfl⟩ | ⟨h1, h1', h2, h3⟩
  · exact List.mem_cons_self
  · refine List.mem_cons_of_mem _ (List.mem_filter.mpr ⟨(asc_mem l 0 _).mpr ⟨k, w, h2, by rw [Nat.zero_add]⟩, ?_⟩)
    simp only [Bool.and_eq_true, Bool.not_eq_true', beq_eq_false_iff_ne, ne_eq, Bool.and_eq_false_iff, cv_cat]
    exact ⟨h1, h1', by by_cases q : k + 1 = i
                       · exact Or.inr (fun z => h3 ⟨q, z⟩)
                       · exact Or.inl q⟩

