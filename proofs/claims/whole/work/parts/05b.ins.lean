theorem d0_0 : decode (cod 0) 0 = .ok (.aload_n 0, 1) := by decide +kernel
theorem s0_0 {M : Mm} {st : List Value} {x : Nat} : EE 0 0 [some (.ref x)] st M = EE 0 1 [some (.ref x)] (.ref x :: st) M := e_ld d0_0 rfl rfl rfl rfl rfl rfl
theorem d0_1 : decode (cod 0) 1 = .ok (.invokespecial 3, 3) := by decide +kernel
theorem s0_1 {M : Mm} {l0 : Option Value} {a : Nat} {st : List Value} (hl : st.length ≤ 4) : EE 0 1 [l0] (.ref a :: st) M = EE 0 4 [l0] st M := e_oin d0_1 t0_3 t0_3n (by decide) hl
theorem d0_4 : decode (cod 0) 4 = .ok (.aload_n 0, 1) := by decide +kernel
theorem s0_4 {M : Mm} {st : List Value} {x : Nat} : EE 0 4 [some (.ref x)] st M = EE 0 5 [some (.ref x)] (.ref x :: st) M := e_ld d0_4 rfl rfl rfl rfl rfl rfl
theorem d0_5 : decode (cod 0) 5 = .ok (.bipush 80, 2) := by decide +kernel
theorem s0_5 {M : Mm} {st : List Value} {l0 : Option Value} : EE 0 5 [l0] st M = EE 0 7 [l0] (.int (nI 80) :: st) M := e_bip d0_5 k_bip_80
theorem d0_7 : decode (cod 0) 7 = .ok (.newarray .char, 2) := by decide +kernel
theorem s0_7 {st : List Value} {l0 : Option Value} {w : Int32} {M : Mm} (h : M.1 < 210 ∧ kd (adr M.1) = 6 ∧ ¬ w < 0 ∧ w.toNatClampNeg = ln (adr M.1)) : EE 0 7 [l0] (.int w :: st) M = EE 0 9 [l0] (.ref (adr M.1) :: st) (bn M) := e_newa d0_7 h
theorem d0_9 : decode (cod 0) 9 = .ok (.putfield 9, 3) := by decide +kernel
theorem s0_9 {n : Nat} {I : Nat → Nat → Int32} {R : Nat → Nat → Option Nat} {st : List Value} {l0 : Option Value} {a : Nat} {v : Value} : EE 0 9 [l0] (v :: .ref a :: st) (n, I, R) = (pfI n I R 0 0 a v).bind (fun z => EE 0 12 [l0] st (n, z.1, z.2)) := e_putf d0_9 f0_9 rfl rfl (Or.inl ⟨rfl, Or.inl rfl⟩)
theorem d0_12 : decode (cod 0) 12 = .ok (.aload_n 0, 1) := by decide +kernel
theorem s0_12 {M : Mm} {st : List Value} {x : Nat} : EE 0 12 [some (.ref x)] st M = EE 0 13 [some (.ref x)] (.ref x :: st) M := e_ld d0_12 rfl rfl rfl rfl rfl rfl
theorem d0_13 : decode (cod 0) 13 = .ok (.iconst 3, 1) := by decide +kernel
theorem s0_13 {M : Mm} {st : List Value} {l0 : Option Value} : EE 0 13 [l0] st M = EE 0 14 [l0] (.int (nI 3) :: st) M := e_con d0_13 k_con_3
theorem d0_14 : decode (cod 0) 14 = .ok (.newarray .int, 2) := by decide +kernel
theorem s0_14 {st : List Value} {l0 : Option Value} {w : Int32} {M : Mm} (h : M.1 < 210 ∧ kd (adr M.1) = 5 ∧ ¬ w < 0 ∧ w.toNatClampNeg = ln (adr M.1)) : EE 0 14 [l0] (.int w :: st) M = EE 0 16 [l0] (.ref (adr M.1) :: st) (bn M) := e_newa d0_14 h
theorem d0_16 : decode (cod 0) 16 = .ok (.putfield 15, 3) := by decide +kernel
theorem s0_16 {n : Nat} {I : Nat → Nat → Int32} {R : Nat → Nat → Option Nat} {st : List Value} {l0 : Option Value} {a : Nat} {v : Value} : EE 0 16 [l0] (v :: .ref a :: st) (n, I, R) = (pfI n I R 0 1 a v).bind (fun z => EE 0 19 [l0] st (n, z.1, z.2)) := e_putf d0_16 f0_15 rfl rfl (Or.inl ⟨rfl, Or.inl rfl⟩)
theorem d0_19 : decode (cod 0) 19 = .ok (.return_, 1) := by decide +kernel
theorem s0_19 {M : Mm} {l0 : Option Value} : EE 0 19 [l0] [] M = some (none, M) := e_vret d0_19 rfl
theorem FE0 {a : Nat} {M : Mm} : FF 0 [.ref a] M = EE 0 0 [some (.ref a)] [] M := FF_eq 0 _ _ (Nat.le_of_ble_eq_true rfl)
theorem d1_0 : decode (cod 1) 0 = .ok (.lload_n 1, 1) := by decide +kernel
theorem s1_0 {M : Mm} {st : List Value} {l0 l2 l3 l4 l5 l6 : Option Value} {x : Int64} : EE 1 0 [l0, some (.long x), l2, l3, l4, l5, l6] st M = EE 1 1 [l0, some (.long x), l2, l3, l4, l5, l6] (.long x :: st) M := e_ld d1_0 rfl rfl rfl rfl rfl rfl
theorem d1_1 : decode (cod 1) 1 = .ok (.invokestatic 25, 3) := by decide +kernel
theorem s1_1 {M : Mm} {l0 l1 l2 l3 l4 l5 l6 : Option Value} {b0 : Int64} {st : List Value} (hl : st.length ≤ 4) : EE 1 1 [l0, l1, l2, l3, l4, l5, l6] (.long b0 :: st) M = (FF 2 [.long b0] M).bind (fun z => EE 1 4 [l0, l1, l2, l3, l4, l5, l6] (psh z.1 st) z.2) := e_cals (av := [.long b0]) d1_1 c0_25 (Or.inl rfl) rfl rfl r1_2 rfl hl
theorem d1_4 : decode (cod 1) 4 = .ok (.istore_n 3, 1) := by decide +kernel
theorem s1_4 {M : Mm} {st : List Value} {l0 l1 l2 l3 l4 l5 l6 : Option Value} {x : Int32} : EE 1 4 [l0, l1, l2, l3, l4, l5, l6] (.int x :: st) M = EE 1 5 [l0, l1, cln l2, some (.int x), l4, l5, l6] st M := e_st1 d1_4 rfl rfl rfl rfl rfl rfl rfl (Nat.le_of_ble_eq_true rfl) rfl
theorem d1_5 : decode (cod 1) 5 = .ok (.iload_n 3, 1) := by decide +kernel
theorem s1_5 {M : Mm} {st : List Value} {l0 l1 l2 l4 l5 l6 : Option Value} {x : Int32} : EE 1 5 [l0, l1, l2, some (.int x), l4, l5, l6] st M = EE 1 6 [l0, l1, l2, some (.int x), l4, l5, l6] (.int x :: st) M := e_ld d1_5 rfl rfl rfl rfl rfl rfl
theorem d1_6 : decode (cod 1) 6 = .ok (.ifCond .ne 6, 3) := by decide +kernel
theorem s1_6 {M : Mm} {st : List Value} {l0 l1 l2 l3 l4 l5 l6 : Option Value} {x : Int32} : EE 1 6 [l0, l1, l2, l3, l4, l5, l6] (.int x :: st) M = if x = 0 then EE 1 9 [l0, l1, l2, l3, l4, l5, l6] st M else EE 1 12 [l0, l1, l2, l3, l4, l5, l6] st M := e_ne0 d1_6 (by decide)
theorem d1_9 : decode (cod 1) 9 = .ok (.bipush (-2), 2) := by decide +kernel
theorem s1_9 {M : Mm} {st : List Value} {l0 l1 l2 l3 l4 l5 l6 : Option Value} : EE 1 9 [l0, l1, l2, l3, l4, l5, l6] st M = EE 1 11 [l0, l1, l2, l3, l4, l5, l6] (.int ((-2)) :: st) M := e_bip d1_9 k_bip_m2
theorem d1_11 : decode (cod 1) 11 = .ok (.ireturn, 1) := by decide +kernel
theorem s1_11 {M : Mm} {l0 l1 l2 l3 l4 l5 l6 : Option Value} {v : Int32} : EE 1 11 [l0, l1, l2, l3, l4, l5, l6] [.int v] M = some (some (.int v), M) := e_iret d1_11 rfl rfl
theorem d1_12 : decode (cod 1) 12 = .ok (.aload_n 0, 1) := by decide +kernel
theorem s1_12 {M : Mm} {st : List Value} {l1 l2 l3 l4 l5 l6 : Option Value} {x : Nat} : EE 1 12 [some (.ref x), l1, l2, l3, l4, l5, l6] st M = EE 1 13 [some (.ref x), l1, l2, l3, l4, l5, l6] (.ref x :: st) M := e_ld d1_12 rfl rfl rfl rfl rfl rfl
theorem d1_13 : decode (cod 1) 13 = .ok (.getfield 29, 3) := by decide +kernel
theorem s1_13 {n : Nat} {I : Nat → Nat → Int32} {R : Nat → Nat → Option Nat} {st : List Value} {l0 l1 l2 l3 l4 l5 l6 : Option Value} {a : Nat} : EE 1 13 [l0, l1, l2, l3, l4, l5, l6] (.ref a :: st) (n, I, R) = (gfI n I R 0 2 a).bind (fun z => EE 1 16 [l0, l1, l2, l3, l4, l5, l6] (z :: st) (n, I, R)) := e_getf d1_13 f0_29 rfl rfl
theorem d1_16 : decode (cod 1) 16 = .ok (.iload_n 3, 1) := by decide +kernel
theorem s1_16 {M : Mm} {st : List Value} {l0 l1 l2 l4 l5 l6 : Option Value} {x : Int32} : EE 1 16 [l0, l1, l2, some (.int x), l4, l5, l6] st M = EE 1 17 [l0, l1, l2, some (.int x), l4, l5, l6] (.int x :: st) M := e_ld d1_16 rfl rfl rfl rfl rfl rfl
theorem d1_17 : decode (cod 1) 17 = .ok (.iadd, 1) := by decide +kernel
theorem s1_17 {M : Mm} {st : List Value} {l0 l1 l2 l3 l4 l5 l6 : Option Value} {x y : Int32} : EE 1 17 [l0, l1, l2, l3, l4, l5, l6] (.int y :: .int x :: st) M = EE 1 18 [l0, l1, l2, l3, l4, l5, l6] (.int (x + y) :: st) M := e_II d1_17 rfl rfl rfl rfl rfl rfl
theorem d1_18 : decode (cod 1) 18 = .ok (.bipush 80, 2) := by decide +kernel
theorem s1_18 {M : Mm} {st : List Value} {l0 l1 l2 l3 l4 l5 l6 : Option Value} : EE 1 18 [l0, l1, l2, l3, l4, l5, l6] st M = EE 1 20 [l0, l1, l2, l3, l4, l5, l6] (.int (nI 80) :: st) M := e_bip d1_18 k_bip_80
theorem d1_20 : decode (cod 1) 20 = .ok (.if_icmp .le 6, 3) := by decide +kernel
theorem s1_20 {M : Mm} {st : List Value} {l0 l1 l2 l3 l4 l5 l6 : Option Value} {x y : Int32} : EE 1 20 [l0, l1, l2, l3, l4, l5, l6] (.int y :: .int x :: st) M = if x ≤ y then EE 1 26 [l0, l1, l2, l3, l4, l5, l6] st M else EE 1 23 [l0, l1, l2, l3, l4, l5, l6] st M := e_cle d1_20 (by decide)
theorem d1_23 : decode (cod 1) 23 = .ok (.bipush (-4), 2) := by decide +kernel
theorem s1_23 {M : Mm} {st : List Value} {l0 l1 l2 l3 l4 l5 l6 : Option Value} : EE 1 23 [l0, l1, l2, l3, l4, l5, l6] st M = EE 1 25 [l0, l1, l2, l3, l4, l5, l6] (.int ((-4)) :: st) M := e_bip d1_23 k_bip_m4
theorem d1_25 : decode (cod 1) 25 = .ok (.ireturn, 1) := by decide +kernel
theorem s1_25 {M : Mm} {l0 l1 l2 l3 l4 l5 l6 : Option Value} {v : Int32} : EE 1 25 [l0, l1, l2, l3, l4, l5, l6] [.int v] M = some (some (.int v), M) := e_iret d1_25 rfl rfl
theorem d1_26 : decode (cod 1) 26 = .ok (.lload_n 1, 1) := by decide +kernel
theorem s1_26 {M : Mm} {st : List Value} {l0 l2 l3 l4 l5 l6 : Option Value} {x : Int64} : EE 1 26 [l0, some (.long x), l2, l3, l4, l5, l6] st M = EE 1 27 [l0, some (.long x), l2, l3, l4, l5, l6] (.long x :: st) M := e_ld d1_26 rfl rfl rfl rfl rfl rfl
theorem d1_27 : decode (cod 1) 27 = .ok (.lstore 4, 2) := by decide +kernel
theorem s1_27 {M : Mm} {st : List Value} {l0 l1 l2 l3 l4 l5 l6 : Option Value} {x : Int64} : EE 1 27 [l0, l1, l2, l3, l4, l5, l6] (.long x :: st) M = EE 1 29 [l0, l1, l2, cln l3, some (.long x), none, l6] st M := e_st2 d1_27 rfl rfl rfl rfl rfl rfl rfl (Nat.le_of_ble_eq_true rfl) rfl
theorem d1_29 : decode (cod 1) 29 = .ok (.aload_n 0, 1) := by decide +kernel
theorem s1_29 {M : Mm} {st : List Value} {l1 l2 l3 l4 l5 l6 : Option Value} {x : Nat} : EE 1 29 [some (.ref x), l1, l2, l3, l4, l5, l6] st M = EE 1 30 [some (.ref x), l1, l2, l3, l4, l5, l6] (.ref x :: st) M := e_ld d1_29 rfl rfl rfl rfl rfl rfl
theorem d1_30 : decode (cod 1) 30 = .ok (.getfield 29, 3) := by decide +kernel
theorem s1_30 {n : Nat} {I : Nat → Nat → Int32} {R : Nat → Nat → Option Nat} {st : List Value} {l0 l1 l2 l3 l4 l5 l6 : Option Value} {a : Nat} : EE 1 30 [l0, l1, l2, l3, l4, l5, l6] (.ref a :: st) (n, I, R) = (gfI n I R 0 2 a).bind (fun z => EE 1 33 [l0, l1, l2, l3, l4, l5, l6] (z :: st) (n, I, R)) := e_getf d1_30 f0_29 rfl rfl
theorem d1_33 : decode (cod 1) 33 = .ok (.iload_n 3, 1) := by decide +kernel
theorem s1_33 {M : Mm} {st : List Value} {l0 l1 l2 l4 l5 l6 : Option Value} {x : Int32} : EE 1 33 [l0, l1, l2, some (.int x), l4, l5, l6] st M = EE 1 34 [l0, l1, l2, some (.int x), l4, l5, l6] (.int x :: st) M := e_ld d1_33 rfl rfl rfl rfl rfl rfl
theorem d1_34 : decode (cod 1) 34 = .ok (.iadd, 1) := by decide +kernel
theorem s1_34 {M : Mm} {st : List Value} {l0 l1 l2 l3 l4 l5 l6 : Option Value} {x y : Int32} : EE 1 34 [l0, l1, l2, l3, l4, l5, l6] (.int y :: .int x :: st) M = EE 1 35 [l0, l1, l2, l3, l4, l5, l6] (.int (x + y) :: st) M := e_II d1_34 rfl rfl rfl rfl rfl rfl
theorem d1_35 : decode (cod 1) 35 = .ok (.iconst 1, 1) := by decide +kernel
theorem s1_35 {M : Mm} {st : List Value} {l0 l1 l2 l3 l4 l5 l6 : Option Value} : EE 1 35 [l0, l1, l2, l3, l4, l5, l6] st M = EE 1 36 [l0, l1, l2, l3, l4, l5, l6] (.int (nI 1) :: st) M := e_con d1_35 k_con_1
theorem d1_36 : decode (cod 1) 36 = .ok (.isub, 1) := by decide +kernel
theorem s1_36 {M : Mm} {st : List Value} {l0 l1 l2 l3 l4 l5 l6 : Option Value} {x y : Int32} : EE 1 36 [l0, l1, l2, l3, l4, l5, l6] (.int y :: .int x :: st) M = EE 1 37 [l0, l1, l2, l3, l4, l5, l6] (.int (x - y) :: st) M := e_II d1_36 rfl rfl rfl rfl rfl rfl
theorem d1_37 : decode (cod 1) 37 = .ok (.istore 6, 2) := by decide +kernel
theorem s1_37 {M : Mm} {st : List Value} {l0 l1 l2 l3 l4 l5 l6 : Option Value} {x : Int32} : EE 1 37 [l0, l1, l2, l3, l4, l5, l6] (.int x :: st) M = EE 1 39 [l0, l1, l2, l3, l4, cln l5, some (.int x)] st M := e_st1 d1_37 rfl rfl rfl rfl rfl rfl rfl (Nat.le_of_ble_eq_true rfl) rfl
theorem d1_39 : decode (cod 1) 39 = .ok (.iload 6, 2) := by decide +kernel
theorem s1_39 {M : Mm} {st : List Value} {l0 l1 l2 l3 l4 l5 : Option Value} {x : Int32} : EE 1 39 [l0, l1, l2, l3, l4, l5, some (.int x)] st M = EE 1 41 [l0, l1, l2, l3, l4, l5, some (.int x)] (.int x :: st) M := e_ld d1_39 rfl rfl rfl rfl rfl rfl
theorem d1_41 : decode (cod 1) 41 = .ok (.aload_n 0, 1) := by decide +kernel
theorem s1_41 {M : Mm} {st : List Value} {l1 l2 l3 l4 l5 l6 : Option Value} {x : Nat} : EE 1 41 [some (.ref x), l1, l2, l3, l4, l5, l6] st M = EE 1 42 [some (.ref x), l1, l2, l3, l4, l5, l6] (.ref x :: st) M := e_ld d1_41 rfl rfl rfl rfl rfl rfl
theorem d1_42 : decode (cod 1) 42 = .ok (.getfield 29, 3) := by decide +kernel
theorem s1_42 {n : Nat} {I : Nat → Nat → Int32} {R : Nat → Nat → Option Nat} {st : List Value} {l0 l1 l2 l3 l4 l5 l6 : Option Value} {a : Nat} : EE 1 42 [l0, l1, l2, l3, l4, l5, l6] (.ref a :: st) (n, I, R) = (gfI n I R 0 2 a).bind (fun z => EE 1 45 [l0, l1, l2, l3, l4, l5, l6] (z :: st) (n, I, R)) := e_getf d1_42 f0_29 rfl rfl
theorem d1_45 : decode (cod 1) 45 = .ok (.if_icmp .lt 31, 3) := by decide +kernel
theorem s1_45 {M : Mm} {st : List Value} {l0 l1 l2 l3 l4 l5 l6 : Option Value} {x y : Int32} : EE 1 45 [l0, l1, l2, l3, l4, l5, l6] (.int y :: .int x :: st) M = if x < y then EE 1 76 [l0, l1, l2, l3, l4, l5, l6] st M else EE 1 48 [l0, l1, l2, l3, l4, l5, l6] st M := e_clt d1_45 (by decide)
theorem d1_48 : decode (cod 1) 48 = .ok (.aload_n 0, 1) := by decide +kernel
theorem s1_48 {M : Mm} {st : List Value} {l1 l2 l3 l4 l5 l6 : Option Value} {x : Nat} : EE 1 48 [some (.ref x), l1, l2, l3, l4, l5, l6] st M = EE 1 49 [some (.ref x), l1, l2, l3, l4, l5, l6] (.ref x :: st) M := e_ld d1_48 rfl rfl rfl rfl rfl rfl
theorem d1_49 : decode (cod 1) 49 = .ok (.getfield 9, 3) := by decide +kernel
theorem s1_49 {n : Nat} {I : Nat → Nat → Int32} {R : Nat → Nat → Option Nat} {st : List Value} {l0 l1 l2 l3 l4 l5 l6 : Option Value} {a : Nat} : EE 1 49 [l0, l1, l2, l3, l4, l5, l6] (.ref a :: st) (n, I, R) = (gfI n I R 0 0 a).bind (fun z => EE 1 52 [l0, l1, l2, l3, l4, l5, l6] (z :: st) (n, I, R)) := e_getf d1_49 f0_9 rfl rfl
theorem d1_52 : decode (cod 1) 52 = .ok (.iload 6, 2) := by decide +kernel
theorem s1_52 {M : Mm} {st : List Value} {l0 l1 l2 l3 l4 l5 : Option Value} {x : Int32} : EE 1 52 [l0, l1, l2, l3, l4, l5, some (.int x)] st M = EE 1 54 [l0, l1, l2, l3, l4, l5, some (.int x)] (.int x :: st) M := e_ld d1_52 rfl rfl rfl rfl rfl rfl
theorem d1_54 : decode (cod 1) 54 = .ok (.lload 4, 2) := by decide +kernel
theorem s1_54 {M : Mm} {st : List Value} {l0 l1 l2 l3 l5 l6 : Option Value} {x : Int64} : EE 1 54 [l0, l1, l2, l3, some (.long x), l5, l6] st M = EE 1 56 [l0, l1, l2, l3, some (.long x), l5, l6] (.long x :: st) M := e_ld d1_54 rfl rfl rfl rfl rfl rfl
theorem d1_56 : decode (cod 1) 56 = .ok (.ldc2_w 19, 3) := by decide +kernel
theorem s1_56 {M : Mm} {st : List Value} {l0 l1 l2 l3 l4 l5 l6 : Option Value} : EE 1 56 [l0, l1, l2, l3, l4, l5, l6] st M = EE 1 59 [l0, l1, l2, l3, l4, l5, l6] (.long (255) :: st) M := e_ldc2 d1_56 q0_19
theorem d1_59 : decode (cod 1) 59 = .ok (.land, 1) := by decide +kernel
theorem s1_59 {M : Mm} {st : List Value} {l0 l1 l2 l3 l4 l5 l6 : Option Value} {x y : Int64} : EE 1 59 [l0, l1, l2, l3, l4, l5, l6] (.long y :: .long x :: st) M = EE 1 60 [l0, l1, l2, l3, l4, l5, l6] (.long (x &&& y) :: st) M := e_LL d1_59 rfl rfl rfl rfl rfl rfl
theorem d1_60 : decode (cod 1) 60 = .ok (.l2i, 1) := by decide +kernel
theorem s1_60 {M : Mm} {st : List Value} {l0 l1 l2 l3 l4 l5 l6 : Option Value} {x : Int64} : EE 1 60 [l0, l1, l2, l3, l4, l5, l6] (.long x :: st) M = EE 1 61 [l0, l1, l2, l3, l4, l5, l6] (.int x.toInt32 :: st) M := e_U d1_60 rfl rfl rfl rfl rfl (bn_l2i x) rfl
theorem d1_61 : decode (cod 1) 61 = .ok (.i2c, 1) := by decide +kernel
theorem s1_61 {M : Mm} {st : List Value} {l0 l1 l2 l3 l4 l5 l6 : Option Value} {x : Int32} : EE 1 61 [l0, l1, l2, l3, l4, l5, l6] (.int x :: st) M = EE 1 62 [l0, l1, l2, l3, l4, l5, l6] (.int (x.toUInt32 % 65536).toInt32 :: st) M := e_U d1_61 rfl rfl rfl rfl rfl (bn_i2c x) rfl
theorem d1_62 : decode (cod 1) 62 = .ok (.castore, 1) := by decide +kernel
theorem s1_62 {n : Nat} {I : Nat → Nat → Int32} {R : Nat → Nat → Option Nat} {st : List Value} {l0 l1 l2 l3 l4 l5 l6 : Option Value} {j x : Int32} {a : Nat} (h : acI 6 n a j) : EE 1 62 [l0, l1, l2, l3, l4, l5, l6] (.int x :: .int j :: .ref a :: st) (n, I, R) = EE 1 63 [l0, l1, l2, l3, l4, l5, l6] st (n, wI I a j.toNatClampNeg (vp_nar .char x), R) := e_cast d1_62 h
theorem d1_63 : decode (cod 1) 63 = .ok (.lload 4, 2) := by decide +kernel
theorem s1_63 {M : Mm} {st : List Value} {l0 l1 l2 l3 l5 l6 : Option Value} {x : Int64} : EE 1 63 [l0, l1, l2, l3, some (.long x), l5, l6] st M = EE 1 65 [l0, l1, l2, l3, some (.long x), l5, l6] (.long x :: st) M := e_ld d1_63 rfl rfl rfl rfl rfl rfl
theorem d1_65 : decode (cod 1) 65 = .ok (.bipush 8, 2) := by decide +kernel
theorem s1_65 {M : Mm} {st : List Value} {l0 l1 l2 l3 l4 l5 l6 : Option Value} : EE 1 65 [l0, l1, l2, l3, l4, l5, l6] st M = EE 1 67 [l0, l1, l2, l3, l4, l5, l6] (.int (nI 8) :: st) M := e_bip d1_65 k_bip_8
theorem d1_67 : decode (cod 1) 67 = .ok (.lushr, 1) := by decide +kernel
theorem s1_67 {M : Mm} {st : List Value} {l0 l1 l2 l3 l4 l5 l6 : Option Value} {x : Int64} {y : Int32} : EE 1 67 [l0, l1, l2, l3, l4, l5, l6] (.int y :: .long x :: st) M = EE 1 68 [l0, l1, l2, l3, l4, l5, l6] (.long ((x.toUInt64 >>> (y.toInt64.toUInt64 &&& Int64.toUInt64 63)).toInt64) :: st) M := e_sh d1_67 rfl rfl rfl rfl rfl rfl
theorem d1_68 : decode (cod 1) 68 = .ok (.lstore 4, 2) := by decide +kernel
theorem s1_68 {M : Mm} {st : List Value} {l0 l1 l2 l3 l4 l5 l6 : Option Value} {x : Int64} : EE 1 68 [l0, l1, l2, l3, l4, l5, l6] (.long x :: st) M = EE 1 70 [l0, l1, l2, cln l3, some (.long x), none, l6] st M := e_st2 d1_68 rfl rfl rfl rfl rfl rfl rfl (Nat.le_of_ble_eq_true rfl) rfl
theorem d1_70 : decode (cod 1) 70 = .ok (.iinc 6 (-1), 3) := by decide +kernel
theorem s1_70 {M : Mm} {st : List Value} {l0 l1 l2 l3 l4 l5 : Option Value} {x : Int32} : EE 1 70 [l0, l1, l2, l3, l4, l5, some (.int x)] st M = EE 1 73 [l0, l1, l2, l3, l4, cln l5, some (.int (x + (-1)))] st M := e_iinc d1_70 rfl (congrArg (fun z => x + z) k_inc_m1) rfl
theorem d1_73 : decode (cod 1) 73 = .ok (.goto (-34), 3) := by decide +kernel
theorem s1_73 {M : Mm} {st : List Value} {l0 l1 l2 l3 l4 l5 l6 : Option Value} : EE 1 73 [l0, l1, l2, l3, l4, l5, l6] st M = EE 1 39 [l0, l1, l2, l3, l4, l5, l6] st M := e_goto d1_73 (by decide)
theorem d1_76 : decode (cod 1) 76 = .ok (.aload_n 0, 1) := by decide +kernel
theorem s1_76 {M : Mm} {st : List Value} {l1 l2 l3 l4 l5 l6 : Option Value} {x : Nat} : EE 1 76 [some (.ref x), l1, l2, l3, l4, l5, l6] st M = EE 1 77 [some (.ref x), l1, l2, l3, l4, l5, l6] (.ref x :: st) M := e_ld d1_76 rfl rfl rfl rfl rfl rfl
theorem d1_77 : decode (cod 1) 77 = .ok (.dup, 1) := by decide +kernel
theorem s1_77i {M : Mm} {st : List Value} {l0 l1 l2 l3 l4 l5 l6 : Option Value} {x : Int32} : EE 1 77 [l0, l1, l2, l3, l4, l5, l6] (.int x :: st) M = EE 1 78 [l0, l1, l2, l3, l4, l5, l6] (.int x :: .int x :: st) M := e_dup d1_77 rfl
theorem s1_77r {M : Mm} {st : List Value} {l0 l1 l2 l3 l4 l5 l6 : Option Value} {x : Nat} : EE 1 77 [l0, l1, l2, l3, l4, l5, l6] (.ref x :: st) M = EE 1 78 [l0, l1, l2, l3, l4, l5, l6] (.ref x :: .ref x :: st) M := e_dup d1_77 rfl
theorem d1_78 : decode (cod 1) 78 = .ok (.getfield 29, 3) := by decide +kernel
theorem s1_78 {n : Nat} {I : Nat → Nat → Int32} {R : Nat → Nat → Option Nat} {st : List Value} {l0 l1 l2 l3 l4 l5 l6 : Option Value} {a : Nat} : EE 1 78 [l0, l1, l2, l3, l4, l5, l6] (.ref a :: st) (n, I, R) = (gfI n I R 0 2 a).bind (fun z => EE 1 81 [l0, l1, l2, l3, l4, l5, l6] (z :: st) (n, I, R)) := e_getf d1_78 f0_29 rfl rfl
theorem d1_81 : decode (cod 1) 81 = .ok (.iload_n 3, 1) := by decide +kernel
theorem s1_81 {M : Mm} {st : List Value} {l0 l1 l2 l4 l5 l6 : Option Value} {x : Int32} : EE 1 81 [l0, l1, l2, some (.int x), l4, l5, l6] st M = EE 1 82 [l0, l1, l2, some (.int x), l4, l5, l6] (.int x :: st) M := e_ld d1_81 rfl rfl rfl rfl rfl rfl
theorem d1_82 : decode (cod 1) 82 = .ok (.iadd, 1) := by decide +kernel
theorem s1_82 {M : Mm} {st : List Value} {l0 l1 l2 l3 l4 l5 l6 : Option Value} {x y : Int32} : EE 1 82 [l0, l1, l2, l3, l4, l5, l6] (.int y :: .int x :: st) M = EE 1 83 [l0, l1, l2, l3, l4, l5, l6] (.int (x + y) :: st) M := e_II d1_82 rfl rfl rfl rfl rfl rfl
theorem d1_83 : decode (cod 1) 83 = .ok (.putfield 29, 3) := by decide +kernel
theorem s1_83 {n : Nat} {I : Nat → Nat → Int32} {R : Nat → Nat → Option Nat} {st : List Value} {l0 l1 l2 l3 l4 l5 l6 : Option Value} {a : Nat} {v : Value} : EE 1 83 [l0, l1, l2, l3, l4, l5, l6] (v :: .ref a :: st) (n, I, R) = (pfI n I R 0 2 a v).bind (fun z => EE 1 86 [l0, l1, l2, l3, l4, l5, l6] st (n, z.1, z.2)) := e_putf d1_83 f0_29 rfl rfl (Or.inr rfl)
theorem d1_86 : decode (cod 1) 86 = .ok (.aload_n 0, 1) := by decide +kernel
theorem s1_86 {M : Mm} {st : List Value} {l1 l2 l3 l4 l5 l6 : Option Value} {x : Nat} : EE 1 86 [some (.ref x), l1, l2, l3, l4, l5, l6] st M = EE 1 87 [some (.ref x), l1, l2, l3, l4, l5, l6] (.ref x :: st) M := e_ld d1_86 rfl rfl rfl rfl rfl rfl
theorem d1_87 : decode (cod 1) 87 = .ok (.getfield 29, 3) := by decide +kernel
theorem s1_87 {n : Nat} {I : Nat → Nat → Int32} {R : Nat → Nat → Option Nat} {st : List Value} {l0 l1 l2 l3 l4 l5 l6 : Option Value} {a : Nat} : EE 1 87 [l0, l1, l2, l3, l4, l5, l6] (.ref a :: st) (n, I, R) = (gfI n I R 0 2 a).bind (fun z => EE 1 90 [l0, l1, l2, l3, l4, l5, l6] (z :: st) (n, I, R)) := e_getf d1_87 f0_29 rfl rfl
theorem d1_90 : decode (cod 1) 90 = .ok (.ireturn, 1) := by decide +kernel
theorem s1_90 {M : Mm} {l0 l1 l2 l3 l4 l5 l6 : Option Value} {v : Int32} : EE 1 90 [l0, l1, l2, l3, l4, l5, l6] [.int v] M = some (some (.int v), M) := e_iret d1_90 rfl rfl
theorem FE1 {a : Nat} {b0 : Int64} {M : Mm} : FF 1 [.ref a, .long b0] M = EE 1 0 [some (.ref a), some (.long b0), none, none, none, none, none] [] M := FF_eq 1 _ _ (Nat.le_of_ble_eq_true rfl)
theorem d2_0 : decode (cod 2) 0 = .ok (.lload_n 0, 1) := by decide +kernel
theorem s2_0 {M : Mm} {st : List Value} {l1 l2 l3 l4 l5 l6 : Option Value} {x : Int64} : EE 2 0 [some (.long x), l1, l2, l3, l4, l5, l6] st M = EE 2 1 [some (.long x), l1, l2, l3, l4, l5, l6] (.long x :: st) M := e_ld d2_0 rfl rfl rfl rfl rfl rfl
theorem d2_1 : decode (cod 2) 1 = .ok (.lstore_n 2, 1) := by decide +kernel
theorem s2_1 {M : Mm} {st : List Value} {l0 l1 l2 l3 l4 l5 l6 : Option Value} {x : Int64} : EE 2 1 [l0, l1, l2, l3, l4, l5, l6] (.long x :: st) M = EE 2 2 [l0, cln l1, some (.long x), none, l4, l5, l6] st M := e_st2 d2_1 rfl rfl rfl rfl rfl rfl rfl (Nat.le_of_ble_eq_true rfl) rfl
theorem d2_2 : decode (cod 2) 2 = .ok (.iconst 0, 1) := by decide +kernel
theorem s2_2 {M : Mm} {st : List Value} {l0 l1 l2 l3 l4 l5 l6 : Option Value} : EE 2 2 [l0, l1, l2, l3, l4, l5, l6] st M = EE 2 3 [l0, l1, l2, l3, l4, l5, l6] (.int (nI 0) :: st) M := e_con d2_2 k_con_0
theorem d2_3 : decode (cod 2) 3 = .ok (.istore 4, 2) := by decide +kernel
theorem s2_3 {M : Mm} {st : List Value} {l0 l1 l2 l3 l4 l5 l6 : Option Value} {x : Int32} : EE 2 3 [l0, l1, l2, l3, l4, l5, l6] (.int x :: st) M = EE 2 5 [l0, l1, l2, cln l3, some (.int x), l5, l6] st M := e_st1 d2_3 rfl rfl rfl rfl rfl rfl rfl (Nat.le_of_ble_eq_true rfl) rfl
theorem d2_5 : decode (cod 2) 5 = .ok (.iload 4, 2) := by decide +kernel
theorem s2_5 {M : Mm} {st : List Value} {l0 l1 l2 l3 l5 l6 : Option Value} {x : Int32} : EE 2 5 [l0, l1, l2, l3, some (.int x), l5, l6] st M = EE 2 7 [l0, l1, l2, l3, some (.int x), l5, l6] (.int x :: st) M := e_ld d2_5 rfl rfl rfl rfl rfl rfl
theorem d2_7 : decode (cod 2) 7 = .ok (.bipush 8, 2) := by decide +kernel
theorem s2_7 {M : Mm} {st : List Value} {l0 l1 l2 l3 l4 l5 l6 : Option Value} : EE 2 7 [l0, l1, l2, l3, l4, l5, l6] st M = EE 2 9 [l0, l1, l2, l3, l4, l5, l6] (.int (nI 8) :: st) M := e_bip d2_7 k_bip_8
theorem d2_9 : decode (cod 2) 9 = .ok (.if_icmp .ge 51, 3) := by decide +kernel
theorem s2_9 {M : Mm} {st : List Value} {l0 l1 l2 l3 l4 l5 l6 : Option Value} {x y : Int32} : EE 2 9 [l0, l1, l2, l3, l4, l5, l6] (.int y :: .int x :: st) M = if y ≤ x then EE 2 60 [l0, l1, l2, l3, l4, l5, l6] st M else EE 2 12 [l0, l1, l2, l3, l4, l5, l6] st M := e_cge d2_9 (by decide)
theorem d2_12 : decode (cod 2) 12 = .ok (.lload_n 2, 1) := by decide +kernel
theorem s2_12 {M : Mm} {st : List Value} {l0 l1 l3 l4 l5 l6 : Option Value} {x : Int64} : EE 2 12 [l0, l1, some (.long x), l3, l4, l5, l6] st M = EE 2 13 [l0, l1, some (.long x), l3, l4, l5, l6] (.long x :: st) M := e_ld d2_12 rfl rfl rfl rfl rfl rfl
theorem d2_13 : decode (cod 2) 13 = .ok (.ldc2_w 19, 3) := by decide +kernel
theorem s2_13 {M : Mm} {st : List Value} {l0 l1 l2 l3 l4 l5 l6 : Option Value} : EE 2 13 [l0, l1, l2, l3, l4, l5, l6] st M = EE 2 16 [l0, l1, l2, l3, l4, l5, l6] (.long (255) :: st) M := e_ldc2 d2_13 q0_19
theorem d2_16 : decode (cod 2) 16 = .ok (.land, 1) := by decide +kernel
theorem s2_16 {M : Mm} {st : List Value} {l0 l1 l2 l3 l4 l5 l6 : Option Value} {x y : Int64} : EE 2 16 [l0, l1, l2, l3, l4, l5, l6] (.long y :: .long x :: st) M = EE 2 17 [l0, l1, l2, l3, l4, l5, l6] (.long (x &&& y) :: st) M := e_LL d2_16 rfl rfl rfl rfl rfl rfl
theorem d2_17 : decode (cod 2) 17 = .ok (.lconst 0, 1) := by decide +kernel
theorem s2_17 {M : Mm} {st : List Value} {l0 l1 l2 l3 l4 l5 l6 : Option Value} : EE 2 17 [l0, l1, l2, l3, l4, l5, l6] st M = EE 2 18 [l0, l1, l2, l3, l4, l5, l6] (.long 0 :: st) M := e_psh d2_17 rfl rfl rfl
theorem d2_18 : decode (cod 2) 18 = .ok (.lcmp, 1) := by decide +kernel
theorem s2_18 {M : Mm} {st : List Value} {l0 l1 l2 l3 l4 l5 l6 : Option Value} {x y : Int64} : EE 2 18 [l0, l1, l2, l3, l4, l5, l6] (.long y :: .long x :: st) M = EE 2 19 [l0, l1, l2, l3, l4, l5, l6] (.int (lg_cmp x y) :: st) M := e_lcmp d2_18
theorem d2_19 : decode (cod 2) 19 = .ok (.ifCond .eq 41, 3) := by decide +kernel
theorem s2_19 {M : Mm} {st : List Value} {l0 l1 l2 l3 l4 l5 l6 : Option Value} {x : Int32} : EE 2 19 [l0, l1, l2, l3, l4, l5, l6] (.int x :: st) M = if x = 0 then EE 2 60 [l0, l1, l2, l3, l4, l5, l6] st M else EE 2 22 [l0, l1, l2, l3, l4, l5, l6] st M := e_eq0 d2_19 (by decide)
theorem d2_22 : decode (cod 2) 22 = .ok (.lload_n 2, 1) := by decide +kernel
theorem s2_22 {M : Mm} {st : List Value} {l0 l1 l3 l4 l5 l6 : Option Value} {x : Int64} : EE 2 22 [l0, l1, some (.long x), l3, l4, l5, l6] st M = EE 2 23 [l0, l1, some (.long x), l3, l4, l5, l6] (.long x :: st) M := e_ld d2_22 rfl rfl rfl rfl rfl rfl
theorem d2_23 : decode (cod 2) 23 = .ok (.ldc2_w 19, 3) := by decide +kernel
theorem s2_23 {M : Mm} {st : List Value} {l0 l1 l2 l3 l4 l5 l6 : Option Value} : EE 2 23 [l0, l1, l2, l3, l4, l5, l6] st M = EE 2 26 [l0, l1, l2, l3, l4, l5, l6] (.long (255) :: st) M := e_ldc2 d2_23 q0_19
theorem d2_26 : decode (cod 2) 26 = .ok (.land, 1) := by decide +kernel
theorem s2_26 {M : Mm} {st : List Value} {l0 l1 l2 l3 l4 l5 l6 : Option Value} {x y : Int64} : EE 2 26 [l0, l1, l2, l3, l4, l5, l6] (.long y :: .long x :: st) M = EE 2 27 [l0, l1, l2, l3, l4, l5, l6] (.long (x &&& y) :: st) M := e_LL d2_26 rfl rfl rfl rfl rfl rfl
theorem d2_27 : decode (cod 2) 27 = .ok (.lstore 5, 2) := by decide +kernel
theorem s2_27 {M : Mm} {st : List Value} {l0 l1 l2 l3 l4 l5 l6 : Option Value} {x : Int64} : EE 2 27 [l0, l1, l2, l3, l4, l5, l6] (.long x :: st) M = EE 2 29 [l0, l1, l2, l3, cln l4, some (.long x), none] st M := e_st2 d2_27 rfl rfl rfl rfl rfl rfl rfl (Nat.le_of_ble_eq_true rfl) rfl
theorem d2_29 : decode (cod 2) 29 = .ok (.lload 5, 2) := by decide +kernel
theorem s2_29 {M : Mm} {st : List Value} {l0 l1 l2 l3 l4 l6 : Option Value} {x : Int64} : EE 2 29 [l0, l1, l2, l3, l4, some (.long x), l6] st M = EE 2 31 [l0, l1, l2, l3, l4, some (.long x), l6] (.long x :: st) M := e_ld d2_29 rfl rfl rfl rfl rfl rfl
theorem d2_31 : decode (cod 2) 31 = .ok (.ldc2_w 21, 3) := by decide +kernel
theorem s2_31 {M : Mm} {st : List Value} {l0 l1 l2 l3 l4 l5 l6 : Option Value} : EE 2 31 [l0, l1, l2, l3, l4, l5, l6] st M = EE 2 34 [l0, l1, l2, l3, l4, l5, l6] (.long (33) :: st) M := e_ldc2 d2_31 q0_21
theorem d2_34 : decode (cod 2) 34 = .ok (.lcmp, 1) := by decide +kernel
theorem s2_34 {M : Mm} {st : List Value} {l0 l1 l2 l3 l4 l5 l6 : Option Value} {x y : Int64} : EE 2 34 [l0, l1, l2, l3, l4, l5, l6] (.long y :: .long x :: st) M = EE 2 35 [l0, l1, l2, l3, l4, l5, l6] (.int (lg_cmp x y) :: st) M := e_lcmp d2_34
theorem d2_35 : decode (cod 2) 35 = .ok (.ifCond .lt 12, 3) := by decide +kernel
theorem s2_35 {M : Mm} {st : List Value} {l0 l1 l2 l3 l4 l5 l6 : Option Value} {x : Int32} : EE 2 35 [l0, l1, l2, l3, l4, l5, l6] (.int x :: st) M = if x < 0 then EE 2 47 [l0, l1, l2, l3, l4, l5, l6] st M else EE 2 38 [l0, l1, l2, l3, l4, l5, l6] st M := e_lt0 d2_35 (by decide)
theorem d2_38 : decode (cod 2) 38 = .ok (.lload 5, 2) := by decide +kernel
theorem s2_38 {M : Mm} {st : List Value} {l0 l1 l2 l3 l4 l6 : Option Value} {x : Int64} : EE 2 38 [l0, l1, l2, l3, l4, some (.long x), l6] st M = EE 2 40 [l0, l1, l2, l3, l4, some (.long x), l6] (.long x :: st) M := e_ld d2_38 rfl rfl rfl rfl rfl rfl
theorem d2_40 : decode (cod 2) 40 = .ok (.ldc2_w 23, 3) := by decide +kernel
theorem s2_40 {M : Mm} {st : List Value} {l0 l1 l2 l3 l4 l5 l6 : Option Value} : EE 2 40 [l0, l1, l2, l3, l4, l5, l6] st M = EE 2 43 [l0, l1, l2, l3, l4, l5, l6] (.long (126) :: st) M := e_ldc2 d2_40 q0_23
theorem d2_43 : decode (cod 2) 43 = .ok (.lcmp, 1) := by decide +kernel
theorem s2_43 {M : Mm} {st : List Value} {l0 l1 l2 l3 l4 l5 l6 : Option Value} {x y : Int64} : EE 2 43 [l0, l1, l2, l3, l4, l5, l6] (.long y :: .long x :: st) M = EE 2 44 [l0, l1, l2, l3, l4, l5, l6] (.int (lg_cmp x y) :: st) M := e_lcmp d2_43
theorem d2_44 : decode (cod 2) 44 = .ok (.ifCond .le 5, 3) := by decide +kernel
theorem s2_44 {M : Mm} {st : List Value} {l0 l1 l2 l3 l4 l5 l6 : Option Value} {x : Int32} : EE 2 44 [l0, l1, l2, l3, l4, l5, l6] (.int x :: st) M = if x ≤ 0 then EE 2 49 [l0, l1, l2, l3, l4, l5, l6] st M else EE 2 47 [l0, l1, l2, l3, l4, l5, l6] st M := e_le0 d2_44 (by decide)
theorem d2_47 : decode (cod 2) 47 = .ok (.iconst 0, 1) := by decide +kernel
theorem s2_47 {M : Mm} {st : List Value} {l0 l1 l2 l3 l4 l5 l6 : Option Value} : EE 2 47 [l0, l1, l2, l3, l4, l5, l6] st M = EE 2 48 [l0, l1, l2, l3, l4, l5, l6] (.int (nI 0) :: st) M := e_con d2_47 k_con_0
theorem d2_48 : decode (cod 2) 48 = .ok (.ireturn, 1) := by decide +kernel
theorem s2_48 {M : Mm} {l0 l1 l2 l3 l4 l5 l6 : Option Value} {v : Int32} : EE 2 48 [l0, l1, l2, l3, l4, l5, l6] [.int v] M = some (some (.int v), M) := e_iret d2_48 rfl rfl
theorem d2_49 : decode (cod 2) 49 = .ok (.iinc 4 1, 3) := by decide +kernel
theorem s2_49 {M : Mm} {st : List Value} {l0 l1 l2 l3 l5 l6 : Option Value} {x : Int32} : EE 2 49 [l0, l1, l2, l3, some (.int x), l5, l6] st M = EE 2 52 [l0, l1, l2, cln l3, some (.int (x + nI 1)), l5, l6] st M := e_iinc d2_49 rfl (congrArg (fun z => x + z) k_inc_1) rfl
theorem d2_52 : decode (cod 2) 52 = .ok (.lload_n 2, 1) := by decide +kernel
theorem s2_52 {M : Mm} {st : List Value} {l0 l1 l3 l4 l5 l6 : Option Value} {x : Int64} : EE 2 52 [l0, l1, some (.long x), l3, l4, l5, l6] st M = EE 2 53 [l0, l1, some (.long x), l3, l4, l5, l6] (.long x :: st) M := e_ld d2_52 rfl rfl rfl rfl rfl rfl
theorem d2_53 : decode (cod 2) 53 = .ok (.bipush 8, 2) := by decide +kernel
theorem s2_53 {M : Mm} {st : List Value} {l0 l1 l2 l3 l4 l5 l6 : Option Value} : EE 2 53 [l0, l1, l2, l3, l4, l5, l6] st M = EE 2 55 [l0, l1, l2, l3, l4, l5, l6] (.int (nI 8) :: st) M := e_bip d2_53 k_bip_8
theorem d2_55 : decode (cod 2) 55 = .ok (.lushr, 1) := by decide +kernel
theorem s2_55 {M : Mm} {st : List Value} {l0 l1 l2 l3 l4 l5 l6 : Option Value} {x : Int64} {y : Int32} : EE 2 55 [l0, l1, l2, l3, l4, l5, l6] (.int y :: .long x :: st) M = EE 2 56 [l0, l1, l2, l3, l4, l5, l6] (.long ((x.toUInt64 >>> (y.toInt64.toUInt64 &&& Int64.toUInt64 63)).toInt64) :: st) M := e_sh d2_55 rfl rfl rfl rfl rfl rfl
theorem d2_56 : decode (cod 2) 56 = .ok (.lstore_n 2, 1) := by decide +kernel
theorem s2_56 {M : Mm} {st : List Value} {l0 l1 l2 l3 l4 l5 l6 : Option Value} {x : Int64} : EE 2 56 [l0, l1, l2, l3, l4, l5, l6] (.long x :: st) M = EE 2 57 [l0, cln l1, some (.long x), none, l4, l5, l6] st M := e_st2 d2_56 rfl rfl rfl rfl rfl rfl rfl (Nat.le_of_ble_eq_true rfl) rfl
theorem d2_57 : decode (cod 2) 57 = .ok (.goto (-52), 3) := by decide +kernel
theorem s2_57 {M : Mm} {st : List Value} {l0 l1 l2 l3 l4 l5 l6 : Option Value} : EE 2 57 [l0, l1, l2, l3, l4, l5, l6] st M = EE 2 5 [l0, l1, l2, l3, l4, l5, l6] st M := e_goto d2_57 (by decide)
theorem d2_60 : decode (cod 2) 60 = .ok (.lload_n 2, 1) := by decide +kernel
theorem s2_60 {M : Mm} {st : List Value} {l0 l1 l3 l4 l5 l6 : Option Value} {x : Int64} : EE 2 60 [l0, l1, some (.long x), l3, l4, l5, l6] st M = EE 2 61 [l0, l1, some (.long x), l3, l4, l5, l6] (.long x :: st) M := e_ld d2_60 rfl rfl rfl rfl rfl rfl
theorem d2_61 : decode (cod 2) 61 = .ok (.lconst 0, 1) := by decide +kernel
theorem s2_61 {M : Mm} {st : List Value} {l0 l1 l2 l3 l4 l5 l6 : Option Value} : EE 2 61 [l0, l1, l2, l3, l4, l5, l6] st M = EE 2 62 [l0, l1, l2, l3, l4, l5, l6] (.long 0 :: st) M := e_psh d2_61 rfl rfl rfl
theorem d2_62 : decode (cod 2) 62 = .ok (.lcmp, 1) := by decide +kernel
theorem s2_62 {M : Mm} {st : List Value} {l0 l1 l2 l3 l4 l5 l6 : Option Value} {x y : Int64} : EE 2 62 [l0, l1, l2, l3, l4, l5, l6] (.long y :: .long x :: st) M = EE 2 63 [l0, l1, l2, l3, l4, l5, l6] (.int (lg_cmp x y) :: st) M := e_lcmp d2_62
theorem d2_63 : decode (cod 2) 63 = .ok (.ifCond .ne 8, 3) := by decide +kernel
theorem s2_63 {M : Mm} {st : List Value} {l0 l1 l2 l3 l4 l5 l6 : Option Value} {x : Int32} : EE 2 63 [l0, l1, l2, l3, l4, l5, l6] (.int x :: st) M = if x = 0 then EE 2 66 [l0, l1, l2, l3, l4, l5, l6] st M else EE 2 71 [l0, l1, l2, l3, l4, l5, l6] st M := e_ne0 d2_63 (by decide)
theorem d2_66 : decode (cod 2) 66 = .ok (.iload 4, 2) := by decide +kernel
theorem s2_66 {M : Mm} {st : List Value} {l0 l1 l2 l3 l5 l6 : Option Value} {x : Int32} : EE 2 66 [l0, l1, l2, l3, some (.int x), l5, l6] st M = EE 2 68 [l0, l1, l2, l3, some (.int x), l5, l6] (.int x :: st) M := e_ld d2_66 rfl rfl rfl rfl rfl rfl
theorem d2_68 : decode (cod 2) 68 = .ok (.goto 4, 3) := by decide +kernel
theorem s2_68 {M : Mm} {st : List Value} {l0 l1 l2 l3 l4 l5 l6 : Option Value} : EE 2 68 [l0, l1, l2, l3, l4, l5, l6] st M = EE 2 72 [l0, l1, l2, l3, l4, l5, l6] st M := e_goto d2_68 (by decide)
theorem d2_71 : decode (cod 2) 71 = .ok (.iconst 0, 1) := by decide +kernel
theorem s2_71 {M : Mm} {st : List Value} {l0 l1 l2 l3 l4 l5 l6 : Option Value} : EE 2 71 [l0, l1, l2, l3, l4, l5, l6] st M = EE 2 72 [l0, l1, l2, l3, l4, l5, l6] (.int (nI 0) :: st) M := e_con d2_71 k_con_0
theorem d2_72 : decode (cod 2) 72 = .ok (.ireturn, 1) := by decide +kernel
theorem s2_72 {M : Mm} {l0 l1 l2 l3 l4 l5 l6 : Option Value} {v : Int32} : EE 2 72 [l0, l1, l2, l3, l4, l5, l6] [.int v] M = some (some (.int v), M) := e_iret d2_72 rfl rfl
theorem FE2 {b0 : Int64} {M : Mm} : FF 2 [.long b0] M = EE 2 0 [some (.long b0), none, none, none, none, none, none] [] M := FF_eq 2 _ _ (Nat.le_of_ble_eq_true rfl)
theorem d3_0 : decode (cod 3) 0 = .ok (.aload_n 0, 1) := by decide +kernel
theorem s3_0 {M : Mm} {st : List Value} {l1 : Option Value} {x : Nat} : EE 3 0 [some (.ref x), l1] st M = EE 3 1 [some (.ref x), l1] (.ref x :: st) M := e_ld d3_0 rfl rfl rfl rfl rfl rfl
theorem d3_1 : decode (cod 3) 1 = .ok (.invokevirtual 36, 3) := by decide +kernel
theorem s3_1 {l0 l1 : Option Value} {a : Nat} {M : Mm} {st : List Value} (hl : st.length ≤ 4) (ho : isO "HandoverDesk$Pad" M.1 a = true) : EE 3 1 [l0, l1] (.ref a :: st) M = (FF 4 (.ref a :: []) M).bind (fun z => EE 3 4 [l0, l1] (psh z.1 st) z.2) := e_calv (av := []) d3_1 c0_36 rfl rfl rfl r3_4 rfl hl ho
theorem d3_4 : decode (cod 3) 4 = .ok (.iconst 0, 1) := by decide +kernel
theorem s3_4 {M : Mm} {st : List Value} {l0 l1 : Option Value} : EE 3 4 [l0, l1] st M = EE 3 5 [l0, l1] (.int (nI 0) :: st) M := e_con d3_4 k_con_0
theorem d3_5 : decode (cod 3) 5 = .ok (.istore_n 1, 1) := by decide +kernel
theorem s3_5 {M : Mm} {st : List Value} {l0 l1 : Option Value} {x : Int32} : EE 3 5 [l0, l1] (.int x :: st) M = EE 3 6 [cln l0, some (.int x)] st M := e_st1 d3_5 rfl rfl rfl rfl rfl rfl rfl (Nat.le_of_ble_eq_true rfl) rfl
theorem d3_6 : decode (cod 3) 6 = .ok (.iload_n 1, 1) := by decide +kernel
theorem s3_6 {M : Mm} {st : List Value} {l0 : Option Value} {x : Int32} : EE 3 6 [l0, some (.int x)] st M = EE 3 7 [l0, some (.int x)] (.int x :: st) M := e_ld d3_6 rfl rfl rfl rfl rfl rfl
theorem d3_7 : decode (cod 3) 7 = .ok (.aload_n 0, 1) := by decide +kernel
theorem s3_7 {M : Mm} {st : List Value} {l1 : Option Value} {x : Nat} : EE 3 7 [some (.ref x), l1] st M = EE 3 8 [some (.ref x), l1] (.ref x :: st) M := e_ld d3_7 rfl rfl rfl rfl rfl rfl
theorem d3_8 : decode (cod 3) 8 = .ok (.getfield 29, 3) := by decide +kernel
theorem s3_8 {n : Nat} {I : Nat → Nat → Int32} {R : Nat → Nat → Option Nat} {st : List Value} {l0 l1 : Option Value} {a : Nat} : EE 3 8 [l0, l1] (.ref a :: st) (n, I, R) = (gfI n I R 0 2 a).bind (fun z => EE 3 11 [l0, l1] (z :: st) (n, I, R)) := e_getf d3_8 f0_29 rfl rfl
theorem d3_11 : decode (cod 3) 11 = .ok (.if_icmp .gt 30, 3) := by decide +kernel
theorem s3_11 {M : Mm} {st : List Value} {l0 l1 : Option Value} {x y : Int32} : EE 3 11 [l0, l1] (.int y :: .int x :: st) M = if y < x then EE 3 41 [l0, l1] st M else EE 3 14 [l0, l1] st M := e_cgt d3_11 (by decide)
theorem d3_14 : decode (cod 3) 14 = .ok (.aload_n 0, 1) := by decide +kernel
theorem s3_14 {M : Mm} {st : List Value} {l1 : Option Value} {x : Nat} : EE 3 14 [some (.ref x), l1] st M = EE 3 15 [some (.ref x), l1] (.ref x :: st) M := e_ld d3_14 rfl rfl rfl rfl rfl rfl
theorem d3_15 : decode (cod 3) 15 = .ok (.invokevirtual 39, 3) := by decide +kernel
theorem s3_15 {l0 l1 : Option Value} {a : Nat} {M : Mm} {st : List Value} (hl : st.length ≤ 4) (ho : isO "HandoverDesk$Pad" M.1 a = true) : EE 3 15 [l0, l1] (.ref a :: st) M = (FF 5 (.ref a :: []) M).bind (fun z => EE 3 18 [l0, l1] (psh z.1 st) z.2) := e_calv (av := []) d3_15 c0_39 rfl rfl rfl r3_5 rfl hl ho
theorem d3_18 : decode (cod 3) 18 = .ok (.ifCond .eq 23, 3) := by decide +kernel
theorem s3_18 {M : Mm} {st : List Value} {l0 l1 : Option Value} {x : Int32} : EE 3 18 [l0, l1] (.int x :: st) M = if x = 0 then EE 3 41 [l0, l1] st M else EE 3 21 [l0, l1] st M := e_eq0 d3_18 (by decide)
theorem d3_21 : decode (cod 3) 21 = .ok (.aload_n 0, 1) := by decide +kernel
theorem s3_21 {M : Mm} {st : List Value} {l1 : Option Value} {x : Nat} : EE 3 21 [some (.ref x), l1] st M = EE 3 22 [some (.ref x), l1] (.ref x :: st) M := e_ld d3_21 rfl rfl rfl rfl rfl rfl
theorem d3_22 : decode (cod 3) 22 = .ok (.getfield 33, 3) := by decide +kernel
theorem s3_22 {n : Nat} {I : Nat → Nat → Int32} {R : Nat → Nat → Option Nat} {st : List Value} {l0 l1 : Option Value} {a : Nat} : EE 3 22 [l0, l1] (.ref a :: st) (n, I, R) = (gfI n I R 0 4 a).bind (fun z => EE 3 25 [l0, l1] (z :: st) (n, I, R)) := e_getf d3_22 f0_33 rfl rfl
theorem d3_25 : decode (cod 3) 25 = .ok (.aload_n 0, 1) := by decide +kernel
theorem s3_25 {M : Mm} {st : List Value} {l1 : Option Value} {x : Nat} : EE 3 25 [some (.ref x), l1] st M = EE 3 26 [some (.ref x), l1] (.ref x :: st) M := e_ld d3_25 rfl rfl rfl rfl rfl rfl
theorem d3_26 : decode (cod 3) 26 = .ok (.getfield 29, 3) := by decide +kernel
theorem s3_26 {n : Nat} {I : Nat → Nat → Int32} {R : Nat → Nat → Option Nat} {st : List Value} {l0 l1 : Option Value} {a : Nat} : EE 3 26 [l0, l1] (.ref a :: st) (n, I, R) = (gfI n I R 0 2 a).bind (fun z => EE 3 29 [l0, l1] (z :: st) (n, I, R)) := e_getf d3_26 f0_29 rfl rfl
theorem d3_29 : decode (cod 3) 29 = .ok (.if_icmp .ne 6, 3) := by decide +kernel
theorem s3_29 {M : Mm} {st : List Value} {l0 l1 : Option Value} {x y : Int32} : EE 3 29 [l0, l1] (.int y :: .int x :: st) M = if x = y then EE 3 32 [l0, l1] st M else EE 3 35 [l0, l1] st M := e_cne d3_29 (by decide)
theorem d3_32 : decode (cod 3) 32 = .ok (.bipush (-6), 2) := by decide +kernel
theorem s3_32 {M : Mm} {st : List Value} {l0 l1 : Option Value} : EE 3 32 [l0, l1] st M = EE 3 34 [l0, l1] (.int ((-6)) :: st) M := e_bip d3_32 k_bip_m6
theorem d3_34 : decode (cod 3) 34 = .ok (.ireturn, 1) := by decide +kernel
theorem s3_34 {M : Mm} {l0 l1 : Option Value} {v : Int32} : EE 3 34 [l0, l1] [.int v] M = some (some (.int v), M) := e_iret d3_34 rfl rfl
theorem d3_35 : decode (cod 3) 35 = .ok (.iinc 1 1, 3) := by decide +kernel
theorem s3_35 {M : Mm} {st : List Value} {l0 : Option Value} {x : Int32} : EE 3 35 [l0, some (.int x)] st M = EE 3 38 [cln l0, some (.int (x + nI 1))] st M := e_iinc d3_35 rfl (congrArg (fun z => x + z) k_inc_1) rfl
theorem d3_38 : decode (cod 3) 38 = .ok (.goto (-32), 3) := by decide +kernel
theorem s3_38 {M : Mm} {st : List Value} {l0 l1 : Option Value} : EE 3 38 [l0, l1] st M = EE 3 6 [l0, l1] st M := e_goto d3_38 (by decide)
theorem d3_41 : decode (cod 3) 41 = .ok (.aload_n 0, 1) := by decide +kernel
theorem s3_41 {M : Mm} {st : List Value} {l1 : Option Value} {x : Nat} : EE 3 41 [some (.ref x), l1] st M = EE 3 42 [some (.ref x), l1] (.ref x :: st) M := e_ld d3_41 rfl rfl rfl rfl rfl rfl
theorem d3_42 : decode (cod 3) 42 = .ok (.getfield 33, 3) := by decide +kernel
theorem s3_42 {n : Nat} {I : Nat → Nat → Int32} {R : Nat → Nat → Option Nat} {st : List Value} {l0 l1 : Option Value} {a : Nat} : EE 3 42 [l0, l1] (.ref a :: st) (n, I, R) = (gfI n I R 0 4 a).bind (fun z => EE 3 45 [l0, l1] (z :: st) (n, I, R)) := e_getf d3_42 f0_33 rfl rfl
theorem d3_45 : decode (cod 3) 45 = .ok (.ireturn, 1) := by decide +kernel
theorem s3_45 {M : Mm} {l0 l1 : Option Value} {v : Int32} : EE 3 45 [l0, l1] [.int v] M = some (some (.int v), M) := e_iret d3_45 rfl rfl
theorem FE3 {a : Nat} {M : Mm} : FF 3 [.ref a] M = EE 3 0 [some (.ref a), none] [] M := FF_eq 3 _ _ (Nat.le_of_ble_eq_true rfl)
theorem d4_0 : decode (cod 4) 0 = .ok (.aload_n 0, 1) := by decide +kernel
theorem s4_0 {M : Mm} {st : List Value} {x : Nat} : EE 4 0 [some (.ref x)] st M = EE 4 1 [some (.ref x)] (.ref x :: st) M := e_ld d4_0 rfl rfl rfl rfl rfl rfl
theorem d4_1 : decode (cod 4) 1 = .ok (.iconst 0, 1) := by decide +kernel
theorem s4_1 {M : Mm} {st : List Value} {l0 : Option Value} : EE 4 1 [l0] st M = EE 4 2 [l0] (.int (nI 0) :: st) M := e_con d4_1 k_con_0
theorem d4_2 : decode (cod 4) 2 = .ok (.putfield 33, 3) := by decide +kernel
theorem s4_2 {n : Nat} {I : Nat → Nat → Int32} {R : Nat → Nat → Option Nat} {st : List Value} {l0 : Option Value} {a : Nat} {v : Value} : EE 4 2 [l0] (v :: .ref a :: st) (n, I, R) = (pfI n I R 0 4 a v).bind (fun z => EE 4 5 [l0] st (n, z.1, z.2)) := e_putf d4_2 f0_33 rfl rfl (Or.inr rfl)
theorem d4_5 : decode (cod 4) 5 = .ok (.return_, 1) := by decide +kernel
theorem s4_5 {M : Mm} {l0 : Option Value} : EE 4 5 [l0] [] M = some (none, M) := e_vret d4_5 rfl
theorem FE4 {a : Nat} {M : Mm} : FF 4 [.ref a] M = EE 4 0 [some (.ref a)] [] M := FF_eq 4 _ _ (Nat.le_of_ble_eq_true rfl)
theorem d5_0 : decode (cod 5) 0 = .ok (.aload_n 0, 1) := by decide +kernel
theorem s5_0 {M : Mm} {st : List Value} {l1 l2 l3 : Option Value} {x : Nat} : EE 5 0 [some (.ref x), l1, l2, l3] st M = EE 5 1 [some (.ref x), l1, l2, l3] (.ref x :: st) M := e_ld d5_0 rfl rfl rfl rfl rfl rfl
theorem d5_1 : decode (cod 5) 1 = .ok (.getfield 33, 3) := by decide +kernel
theorem s5_1 {n : Nat} {I : Nat → Nat → Int32} {R : Nat → Nat → Option Nat} {st : List Value} {l0 l1 l2 l3 : Option Value} {a : Nat} : EE 5 1 [l0, l1, l2, l3] (.ref a :: st) (n, I, R) = (gfI n I R 0 4 a).bind (fun z => EE 5 4 [l0, l1, l2, l3] (z :: st) (n, I, R)) := e_getf d5_1 f0_33 rfl rfl
theorem d5_4 : decode (cod 5) 4 = .ok (.ifCond .le 14, 3) := by decide +kernel
theorem s5_4 {M : Mm} {st : List Value} {l0 l1 l2 l3 : Option Value} {x : Int32} : EE 5 4 [l0, l1, l2, l3] (.int x :: st) M = if x ≤ 0 then EE 5 18 [l0, l1, l2, l3] st M else EE 5 7 [l0, l1, l2, l3] st M := e_le0 d5_4 (by decide)
theorem d5_7 : decode (cod 5) 7 = .ok (.aload_n 0, 1) := by decide +kernel
theorem s5_7 {M : Mm} {st : List Value} {l1 l2 l3 : Option Value} {x : Nat} : EE 5 7 [some (.ref x), l1, l2, l3] st M = EE 5 8 [some (.ref x), l1, l2, l3] (.ref x :: st) M := e_ld d5_7 rfl rfl rfl rfl rfl rfl
theorem d5_8 : decode (cod 5) 8 = .ok (.bipush 59, 2) := by decide +kernel
theorem s5_8 {M : Mm} {st : List Value} {l0 l1 l2 l3 : Option Value} : EE 5 8 [l0, l1, l2, l3] st M = EE 5 10 [l0, l1, l2, l3] (.int (nI 59) :: st) M := e_bip d5_8 k_bip_59
theorem d5_10 : decode (cod 5) 10 = .ok (.invokevirtual 43, 3) := by decide +kernel
theorem s5_10 {l0 l1 l2 l3 : Option Value} {a : Nat} {M : Mm} {b0 : Int32} {st : List Value} (hl : st.length ≤ 4) (ho : isO "HandoverDesk$Pad" M.1 a = true) : EE 5 10 [l0, l1, l2, l3] (.int b0 :: .ref a :: st) M = (FF 6 (.ref a :: [.int b0]) M).bind (fun z => EE 5 13 [l0, l1, l2, l3] (psh z.1 st) z.2) := e_calv (av := [.int b0]) d5_10 c0_43 rfl rfl rfl r5_6 rfl hl ho
theorem d5_13 : decode (cod 5) 13 = .ok (.ifCond .ge 5, 3) := by decide +kernel
theorem s5_13 {M : Mm} {st : List Value} {l0 l1 l2 l3 : Option Value} {x : Int32} : EE 5 13 [l0, l1, l2, l3] (.int x :: st) M = if 0 ≤ x then EE 5 18 [l0, l1, l2, l3] st M else EE 5 16 [l0, l1, l2, l3] st M := e_ge0 d5_13 (by decide)
theorem d5_16 : decode (cod 5) 16 = .ok (.iconst 0, 1) := by decide +kernel
theorem s5_16 {M : Mm} {st : List Value} {l0 l1 l2 l3 : Option Value} : EE 5 16 [l0, l1, l2, l3] st M = EE 5 17 [l0, l1, l2, l3] (.int (nI 0) :: st) M := e_con d5_16 k_con_0
theorem d5_17 : decode (cod 5) 17 = .ok (.ireturn, 1) := by decide +kernel
theorem s5_17 {M : Mm} {l0 l1 l2 l3 : Option Value} {v : Int32} (h : narrow .boolean (.int v) = .int v) : EE 5 17 [l0, l1, l2, l3] [.int v] M = some (some (.int v), M) := e_iret d5_17 rfl h
theorem d5_18 : decode (cod 5) 18 = .ok (.aload_n 0, 1) := by decide +kernel
theorem s5_18 {M : Mm} {st : List Value} {l1 l2 l3 : Option Value} {x : Nat} : EE 5 18 [some (.ref x), l1, l2, l3] st M = EE 5 19 [some (.ref x), l1, l2, l3] (.ref x :: st) M := e_ld d5_18 rfl rfl rfl rfl rfl rfl
theorem d5_19 : decode (cod 5) 19 = .ok (.getfield 33, 3) := by decide +kernel
theorem s5_19 {n : Nat} {I : Nat → Nat → Int32} {R : Nat → Nat → Option Nat} {st : List Value} {l0 l1 l2 l3 : Option Value} {a : Nat} : EE 5 19 [l0, l1, l2, l3] (.ref a :: st) (n, I, R) = (gfI n I R 0 4 a).bind (fun z => EE 5 22 [l0, l1, l2, l3] (z :: st) (n, I, R)) := e_getf d5_19 f0_33 rfl rfl
theorem d5_22 : decode (cod 5) 22 = .ok (.aload_n 0, 1) := by decide +kernel
theorem s5_22 {M : Mm} {st : List Value} {l1 l2 l3 : Option Value} {x : Nat} : EE 5 22 [some (.ref x), l1, l2, l3] st M = EE 5 23 [some (.ref x), l1, l2, l3] (.ref x :: st) M := e_ld d5_22 rfl rfl rfl rfl rfl rfl
theorem d5_23 : decode (cod 5) 23 = .ok (.getfield 29, 3) := by decide +kernel
theorem s5_23 {n : Nat} {I : Nat → Nat → Int32} {R : Nat → Nat → Option Nat} {st : List Value} {l0 l1 l2 l3 : Option Value} {a : Nat} : EE 5 23 [l0, l1, l2, l3] (.ref a :: st) (n, I, R) = (gfI n I R 0 2 a).bind (fun z => EE 5 26 [l0, l1, l2, l3] (z :: st) (n, I, R)) := e_getf d5_23 f0_29 rfl rfl
theorem d5_26 : decode (cod 5) 26 = .ok (.if_icmp .ge 20, 3) := by decide +kernel
theorem s5_26 {M : Mm} {st : List Value} {l0 l1 l2 l3 : Option Value} {x y : Int32} : EE 5 26 [l0, l1, l2, l3] (.int y :: .int x :: st) M = if y ≤ x then EE 5 46 [l0, l1, l2, l3] st M else EE 5 29 [l0, l1, l2, l3] st M := e_cge d5_26 (by decide)
theorem d5_29 : decode (cod 5) 29 = .ok (.ldc 47, 2) := by decide +kernel
theorem s5_29 {M : Mm} {st : List Value} {l0 l1 l2 l3 : Option Value} : EE 5 29 [l0, l1, l2, l3] st M = EE 5 31 [l0, l1, l2, l3] (.ref 1010 :: st) M := e_ldc d5_29 k0_47
theorem d5_31 : decode (cod 5) 31 = .ok (.aload_n 0, 1) := by decide +kernel
theorem s5_31 {M : Mm} {st : List Value} {l1 l2 l3 : Option Value} {x : Nat} : EE 5 31 [some (.ref x), l1, l2, l3] st M = EE 5 32 [some (.ref x), l1, l2, l3] (.ref x :: st) M := e_ld d5_31 rfl rfl rfl rfl rfl rfl
theorem d5_32 : decode (cod 5) 32 = .ok (.getfield 9, 3) := by decide +kernel
theorem s5_32 {n : Nat} {I : Nat → Nat → Int32} {R : Nat → Nat → Option Nat} {st : List Value} {l0 l1 l2 l3 : Option Value} {a : Nat} : EE 5 32 [l0, l1, l2, l3] (.ref a :: st) (n, I, R) = (gfI n I R 0 0 a).bind (fun z => EE 5 35 [l0, l1, l2, l3] (z :: st) (n, I, R)) := e_getf d5_32 f0_9 rfl rfl
theorem d5_35 : decode (cod 5) 35 = .ok (.aload_n 0, 1) := by decide +kernel
theorem s5_35 {M : Mm} {st : List Value} {l1 l2 l3 : Option Value} {x : Nat} : EE 5 35 [some (.ref x), l1, l2, l3] st M = EE 5 36 [some (.ref x), l1, l2, l3] (.ref x :: st) M := e_ld d5_35 rfl rfl rfl rfl rfl rfl
theorem d5_36 : decode (cod 5) 36 = .ok (.getfield 33, 3) := by decide +kernel
theorem s5_36 {n : Nat} {I : Nat → Nat → Int32} {R : Nat → Nat → Option Nat} {st : List Value} {l0 l1 l2 l3 : Option Value} {a : Nat} : EE 5 36 [l0, l1, l2, l3] (.ref a :: st) (n, I, R) = (gfI n I R 0 4 a).bind (fun z => EE 5 39 [l0, l1, l2, l3] (z :: st) (n, I, R)) := e_getf d5_36 f0_33 rfl rfl
theorem d5_39 : decode (cod 5) 39 = .ok (.caload, 1) := by decide +kernel
theorem s5_39 {n : Nat} {I : Nat → Nat → Int32} {R : Nat → Nat → Option Nat} {st : List Value} {l0 l1 l2 l3 : Option Value} {j : Int32} {a : Nat} : EE 5 39 [l0, l1, l2, l3] (.int j :: .ref a :: st) (n, I, R) = (ardI 6 n I a j).bind (fun z => EE 5 40 [l0, l1, l2, l3] (.int z :: st) (n, I, R)) := e_cald d5_39
theorem d5_40 : decode (cod 5) 40 = .ok (.invokevirtual 49, 3) := by decide +kernel
theorem s5_40 {l0 l1 l2 l3 : Option Value} {a : Nat} {M : Mm} {b0 : Int32} {st : List Value} (hl : st.length ≤ 4) (ho : isO "java/lang/String" M.1 a = true) : EE 5 40 [l0, l1, l2, l3] (.int b0 :: .ref a :: st) M = (FF 155 (.ref a :: [.int b0]) M).bind (fun z => EE 5 43 [l0, l1, l2, l3] (psh z.1 st) z.2) := e_calv (av := [.int b0]) d5_40 c0_49 rfl rfl rfl r5_155 rfl hl ho
theorem d5_43 : decode (cod 5) 43 = .ok (.ifCond .ge 5, 3) := by decide +kernel
theorem s5_43 {M : Mm} {st : List Value} {l0 l1 l2 l3 : Option Value} {x : Int32} : EE 5 43 [l0, l1, l2, l3] (.int x :: st) M = if 0 ≤ x then EE 5 48 [l0, l1, l2, l3] st M else EE 5 46 [l0, l1, l2, l3] st M := e_ge0 d5_43 (by decide)
theorem d5_46 : decode (cod 5) 46 = .ok (.iconst 0, 1) := by decide +kernel
theorem s5_46 {M : Mm} {st : List Value} {l0 l1 l2 l3 : Option Value} : EE 5 46 [l0, l1, l2, l3] st M = EE 5 47 [l0, l1, l2, l3] (.int (nI 0) :: st) M := e_con d5_46 k_con_0
theorem d5_47 : decode (cod 5) 47 = .ok (.ireturn, 1) := by decide +kernel
theorem s5_47 {M : Mm} {l0 l1 l2 l3 : Option Value} {v : Int32} (h : narrow .boolean (.int v) = .int v) : EE 5 47 [l0, l1, l2, l3] [.int v] M = some (some (.int v), M) := e_iret d5_47 rfl h
theorem d5_48 : decode (cod 5) 48 = .ok (.aload_n 0, 1) := by decide +kernel
theorem s5_48 {M : Mm} {st : List Value} {l1 l2 l3 : Option Value} {x : Nat} : EE 5 48 [some (.ref x), l1, l2, l3] st M = EE 5 49 [some (.ref x), l1, l2, l3] (.ref x :: st) M := e_ld d5_48 rfl rfl rfl rfl rfl rfl
theorem d5_49 : decode (cod 5) 49 = .ok (.aload_n 0, 1) := by decide +kernel
theorem s5_49 {M : Mm} {st : List Value} {l1 l2 l3 : Option Value} {x : Nat} : EE 5 49 [some (.ref x), l1, l2, l3] st M = EE 5 50 [some (.ref x), l1, l2, l3] (.ref x :: st) M := e_ld d5_49 rfl rfl rfl rfl rfl rfl
theorem d5_50 : decode (cod 5) 50 = .ok (.getfield 9, 3) := by decide +kernel
theorem s5_50 {n : Nat} {I : Nat → Nat → Int32} {R : Nat → Nat → Option Nat} {st : List Value} {l0 l1 l2 l3 : Option Value} {a : Nat} : EE 5 50 [l0, l1, l2, l3] (.ref a :: st) (n, I, R) = (gfI n I R 0 0 a).bind (fun z => EE 5 53 [l0, l1, l2, l3] (z :: st) (n, I, R)) := e_getf d5_50 f0_9 rfl rfl
theorem d5_53 : decode (cod 5) 53 = .ok (.aload_n 0, 1) := by decide +kernel
theorem s5_53 {M : Mm} {st : List Value} {l1 l2 l3 : Option Value} {x : Nat} : EE 5 53 [some (.ref x), l1, l2, l3] st M = EE 5 54 [some (.ref x), l1, l2, l3] (.ref x :: st) M := e_ld d5_53 rfl rfl rfl rfl rfl rfl
theorem d5_54 : decode (cod 5) 54 = .ok (.getfield 33, 3) := by decide +kernel
theorem s5_54 {n : Nat} {I : Nat → Nat → Int32} {R : Nat → Nat → Option Nat} {st : List Value} {l0 l1 l2 l3 : Option Value} {a : Nat} : EE 5 54 [l0, l1, l2, l3] (.ref a :: st) (n, I, R) = (gfI n I R 0 4 a).bind (fun z => EE 5 57 [l0, l1, l2, l3] (z :: st) (n, I, R)) := e_getf d5_54 f0_33 rfl rfl
theorem d5_57 : decode (cod 5) 57 = .ok (.caload, 1) := by decide +kernel
theorem s5_57 {n : Nat} {I : Nat → Nat → Int32} {R : Nat → Nat → Option Nat} {st : List Value} {l0 l1 l2 l3 : Option Value} {j : Int32} {a : Nat} : EE 5 57 [l0, l1, l2, l3] (.int j :: .ref a :: st) (n, I, R) = (ardI 6 n I a j).bind (fun z => EE 5 58 [l0, l1, l2, l3] (.int z :: st) (n, I, R)) := e_cald d5_57
theorem d5_58 : decode (cod 5) 58 = .ok (.putfield 55, 3) := by decide +kernel
theorem s5_58 {n : Nat} {I : Nat → Nat → Int32} {R : Nat → Nat → Option Nat} {st : List Value} {l0 l1 l2 l3 : Option Value} {a : Nat} {v : Value} : EE 5 58 [l0, l1, l2, l3] (v :: .ref a :: st) (n, I, R) = (pfI n I R 0 3 a v).bind (fun z => EE 5 61 [l0, l1, l2, l3] st (n, z.1, z.2)) := e_putf d5_58 f0_55 rfl rfl (Or.inr rfl)
theorem d5_61 : decode (cod 5) 61 = .ok (.aload_n 0, 1) := by decide +kernel
theorem s5_61 {M : Mm} {st : List Value} {l1 l2 l3 : Option Value} {x : Nat} : EE 5 61 [some (.ref x), l1, l2, l3] st M = EE 5 62 [some (.ref x), l1, l2, l3] (.ref x :: st) M := e_ld d5_61 rfl rfl rfl rfl rfl rfl
theorem d5_62 : decode (cod 5) 62 = .ok (.dup, 1) := by decide +kernel
theorem s5_62i {M : Mm} {st : List Value} {l0 l1 l2 l3 : Option Value} {x : Int32} : EE 5 62 [l0, l1, l2, l3] (.int x :: st) M = EE 5 63 [l0, l1, l2, l3] (.int x :: .int x :: st) M := e_dup d5_62 rfl
theorem s5_62r {M : Mm} {st : List Value} {l0 l1 l2 l3 : Option Value} {x : Nat} : EE 5 62 [l0, l1, l2, l3] (.ref x :: st) M = EE 5 63 [l0, l1, l2, l3] (.ref x :: .ref x :: st) M := e_dup d5_62 rfl
theorem d5_63 : decode (cod 5) 63 = .ok (.getfield 33, 3) := by decide +kernel
theorem s5_63 {n : Nat} {I : Nat → Nat → Int32} {R : Nat → Nat → Option Nat} {st : List Value} {l0 l1 l2 l3 : Option Value} {a : Nat} : EE 5 63 [l0, l1, l2, l3] (.ref a :: st) (n, I, R) = (gfI n I R 0 4 a).bind (fun z => EE 5 66 [l0, l1, l2, l3] (z :: st) (n, I, R)) := e_getf d5_63 f0_33 rfl rfl
theorem d5_66 : decode (cod 5) 66 = .ok (.iconst 1, 1) := by decide +kernel
theorem s5_66 {M : Mm} {st : List Value} {l0 l1 l2 l3 : Option Value} : EE 5 66 [l0, l1, l2, l3] st M = EE 5 67 [l0, l1, l2, l3] (.int (nI 1) :: st) M := e_con d5_66 k_con_1
theorem d5_67 : decode (cod 5) 67 = .ok (.iadd, 1) := by decide +kernel
theorem s5_67 {M : Mm} {st : List Value} {l0 l1 l2 l3 : Option Value} {x y : Int32} : EE 5 67 [l0, l1, l2, l3] (.int y :: .int x :: st) M = EE 5 68 [l0, l1, l2, l3] (.int (x + y) :: st) M := e_II d5_67 rfl rfl rfl rfl rfl rfl
theorem d5_68 : decode (cod 5) 68 = .ok (.putfield 33, 3) := by decide +kernel
theorem s5_68 {n : Nat} {I : Nat → Nat → Int32} {R : Nat → Nat → Option Nat} {st : List Value} {l0 l1 l2 l3 : Option Value} {a : Nat} {v : Value} : EE 5 68 [l0, l1, l2, l3] (v :: .ref a :: st) (n, I, R) = (pfI n I R 0 4 a v).bind (fun z => EE 5 71 [l0, l1, l2, l3] st (n, z.1, z.2)) := e_putf d5_68 f0_33 rfl rfl (Or.inr rfl)
theorem d5_71 : decode (cod 5) 71 = .ok (.aload_n 0, 1) := by decide +kernel
theorem s5_71 {M : Mm} {st : List Value} {l1 l2 l3 : Option Value} {x : Nat} : EE 5 71 [some (.ref x), l1, l2, l3] st M = EE 5 72 [some (.ref x), l1, l2, l3] (.ref x :: st) M := e_ld d5_71 rfl rfl rfl rfl rfl rfl
theorem d5_72 : decode (cod 5) 72 = .ok (.getfield 55, 3) := by decide +kernel
theorem s5_72 {n : Nat} {I : Nat → Nat → Int32} {R : Nat → Nat → Option Nat} {st : List Value} {l0 l1 l2 l3 : Option Value} {a : Nat} : EE 5 72 [l0, l1, l2, l3] (.ref a :: st) (n, I, R) = (gfI n I R 0 3 a).bind (fun z => EE 5 75 [l0, l1, l2, l3] (z :: st) (n, I, R)) := e_getf d5_72 f0_55 rfl rfl
theorem d5_75 : decode (cod 5) 75 = .ok (.invokestatic 59, 3) := by decide +kernel
theorem s5_75 {M : Mm} {l0 l1 l2 l3 : Option Value} {b0 : Int32} {st : List Value} (hl : st.length ≤ 4) : EE 5 75 [l0, l1, l2, l3] (.int b0 :: st) M = (FF 7 [.int b0] M).bind (fun z => EE 5 78 [l0, l1, l2, l3] (psh z.1 st) z.2) := e_cals (av := [.int b0]) d5_75 c0_59 (Or.inl rfl) rfl rfl r5_7 rfl hl
theorem d5_78 : decode (cod 5) 78 = .ok (.astore_n 1, 1) := by decide +kernel
theorem s5_78 {M : Mm} {st : List Value} {l0 l1 l2 l3 : Option Value} {x : Nat} : EE 5 78 [l0, l1, l2, l3] (.ref x :: st) M = EE 5 79 [cln l0, some (.ref x), l2, l3] st M := e_st1 d5_78 rfl rfl rfl rfl rfl rfl rfl (Nat.le_of_ble_eq_true rfl) rfl
theorem d5_79 : decode (cod 5) 79 = .ok (.iconst 0, 1) := by decide +kernel
theorem s5_79 {M : Mm} {st : List Value} {l0 l1 l2 l3 : Option Value} : EE 5 79 [l0, l1, l2, l3] st M = EE 5 80 [l0, l1, l2, l3] (.int (nI 0) :: st) M := e_con d5_79 k_con_0
theorem d5_80 : decode (cod 5) 80 = .ok (.istore_n 2, 1) := by decide +kernel
theorem s5_80 {M : Mm} {st : List Value} {l0 l1 l2 l3 : Option Value} {x : Int32} : EE 5 80 [l0, l1, l2, l3] (.int x :: st) M = EE 5 81 [l0, cln l1, some (.int x), l3] st M := e_st1 d5_80 rfl rfl rfl rfl rfl rfl rfl (Nat.le_of_ble_eq_true rfl) rfl
theorem d5_81 : decode (cod 5) 81 = .ok (.iload_n 2, 1) := by decide +kernel
theorem s5_81 {M : Mm} {st : List Value} {l0 l1 l3 : Option Value} {x : Int32} : EE 5 81 [l0, l1, some (.int x), l3] st M = EE 5 82 [l0, l1, some (.int x), l3] (.int x :: st) M := e_ld d5_81 rfl rfl rfl rfl rfl rfl
theorem d5_82 : decode (cod 5) 82 = .ok (.aload_n 1, 1) := by decide +kernel
theorem s5_82 {M : Mm} {st : List Value} {l0 l2 l3 : Option Value} {x : Nat} : EE 5 82 [l0, some (.ref x), l2, l3] st M = EE 5 83 [l0, some (.ref x), l2, l3] (.ref x :: st) M := e_ld d5_82 rfl rfl rfl rfl rfl rfl
theorem d5_83 : decode (cod 5) 83 = .ok (.invokevirtual 63, 3) := by decide +kernel
theorem s5_83 {l0 l1 l2 l3 : Option Value} {a : Nat} {M : Mm} {st : List Value} (hl : st.length ≤ 4) (ho : isO "java/lang/String" M.1 a = true) : EE 5 83 [l0, l1, l2, l3] (.ref a :: st) M = (FF 158 (.ref a :: []) M).bind (fun z => EE 5 86 [l0, l1, l2, l3] (psh z.1 st) z.2) := e_calv (av := []) d5_83 c0_63 rfl rfl rfl r5_158 rfl hl ho
theorem d5_86 : decode (cod 5) 86 = .ok (.if_icmp .ge 40, 3) := by decide +kernel
theorem s5_86 {M : Mm} {st : List Value} {l0 l1 l2 l3 : Option Value} {x y : Int32} : EE 5 86 [l0, l1, l2, l3] (.int y :: .int x :: st) M = if y ≤ x then EE 5 126 [l0, l1, l2, l3] st M else EE 5 89 [l0, l1, l2, l3] st M := e_cge d5_86 (by decide)
theorem d5_89 : decode (cod 5) 89 = .ok (.aload_n 0, 1) := by decide +kernel
theorem s5_89 {M : Mm} {st : List Value} {l1 l2 l3 : Option Value} {x : Nat} : EE 5 89 [some (.ref x), l1, l2, l3] st M = EE 5 90 [some (.ref x), l1, l2, l3] (.ref x :: st) M := e_ld d5_89 rfl rfl rfl rfl rfl rfl
theorem d5_90 : decode (cod 5) 90 = .ok (.aload_n 1, 1) := by decide +kernel
theorem s5_90 {M : Mm} {st : List Value} {l0 l2 l3 : Option Value} {x : Nat} : EE 5 90 [l0, some (.ref x), l2, l3] st M = EE 5 91 [l0, some (.ref x), l2, l3] (.ref x :: st) M := e_ld d5_90 rfl rfl rfl rfl rfl rfl
theorem d5_91 : decode (cod 5) 91 = .ok (.iload_n 2, 1) := by decide +kernel
theorem s5_91 {M : Mm} {st : List Value} {l0 l1 l3 : Option Value} {x : Int32} : EE 5 91 [l0, l1, some (.int x), l3] st M = EE 5 92 [l0, l1, some (.int x), l3] (.int x :: st) M := e_ld d5_91 rfl rfl rfl rfl rfl rfl
theorem d5_92 : decode (cod 5) 92 = .ok (.invokevirtual 66, 3) := by decide +kernel
theorem s5_92 {l0 l1 l2 l3 : Option Value} {a : Nat} {M : Mm} {b0 : Int32} {st : List Value} (hl : st.length ≤ 4) (ho : isO "java/lang/String" M.1 a = true) : EE 5 92 [l0, l1, l2, l3] (.int b0 :: .ref a :: st) M = (FF 160 (.ref a :: [.int b0]) M).bind (fun z => EE 5 95 [l0, l1, l2, l3] (psh z.1 st) z.2) := e_calv (av := [.int b0]) d5_92 c0_66 rfl rfl rfl r5_160 rfl hl ho
theorem d5_95 : decode (cod 5) 95 = .ok (.invokevirtual 70, 3) := by decide +kernel
theorem s5_95 {l0 l1 l2 l3 : Option Value} {a : Nat} {M : Mm} {b0 : Int32} {st : List Value} (hl : st.length ≤ 4) (ho : isO "HandoverDesk$Pad" M.1 a = true) : EE 5 95 [l0, l1, l2, l3] (.int b0 :: .ref a :: st) M = (FF 8 (.ref a :: [.int b0]) M).bind (fun z => EE 5 98 [l0, l1, l2, l3] (psh z.1 st) z.2) := e_calv (av := [.int b0]) d5_95 c0_70 rfl rfl rfl r5_8 rfl hl ho
theorem d5_98 : decode (cod 5) 98 = .ok (.istore_n 3, 1) := by decide +kernel
theorem s5_98 {M : Mm} {st : List Value} {l0 l1 l2 l3 : Option Value} {x : Int32} : EE 5 98 [l0, l1, l2, l3] (.int x :: st) M = EE 5 99 [l0, l1, cln l2, some (.int x)] st M := e_st1 d5_98 rfl rfl rfl rfl rfl rfl rfl (Nat.le_of_ble_eq_true rfl) rfl
theorem d5_99 : decode (cod 5) 99 = .ok (.iload_n 3, 1) := by decide +kernel
theorem s5_99 {M : Mm} {st : List Value} {l0 l1 l2 : Option Value} {x : Int32} : EE 5 99 [l0, l1, l2, some (.int x)] st M = EE 5 100 [l0, l1, l2, some (.int x)] (.int x :: st) M := e_ld d5_99 rfl rfl rfl rfl rfl rfl
theorem d5_100 : decode (cod 5) 100 = .ok (.ifCond .ge 5, 3) := by decide +kernel
theorem s5_100 {M : Mm} {st : List Value} {l0 l1 l2 l3 : Option Value} {x : Int32} : EE 5 100 [l0, l1, l2, l3] (.int x :: st) M = if 0 ≤ x then EE 5 105 [l0, l1, l2, l3] st M else EE 5 103 [l0, l1, l2, l3] st M := e_ge0 d5_100 (by decide)
theorem d5_103 : decode (cod 5) 103 = .ok (.iconst 0, 1) := by decide +kernel
theorem s5_103 {M : Mm} {st : List Value} {l0 l1 l2 l3 : Option Value} : EE 5 103 [l0, l1, l2, l3] st M = EE 5 104 [l0, l1, l2, l3] (.int (nI 0) :: st) M := e_con d5_103 k_con_0
theorem d5_104 : decode (cod 5) 104 = .ok (.ireturn, 1) := by decide +kernel
theorem s5_104 {M : Mm} {l0 l1 l2 l3 : Option Value} {v : Int32} (h : narrow .boolean (.int v) = .int v) : EE 5 104 [l0, l1, l2, l3] [.int v] M = some (some (.int v), M) := e_iret d5_104 rfl h
theorem d5_105 : decode (cod 5) 105 = .ok (.iload_n 2, 1) := by decide +kernel
theorem s5_105 {M : Mm} {st : List Value} {l0 l1 l3 : Option Value} {x : Int32} : EE 5 105 [l0, l1, some (.int x), l3] st M = EE 5 106 [l0, l1, some (.int x), l3] (.int x :: st) M := e_ld d5_105 rfl rfl rfl rfl rfl rfl
theorem d5_106 : decode (cod 5) 106 = .ok (.iconst 2, 1) := by decide +kernel
theorem s5_106 {M : Mm} {st : List Value} {l0 l1 l2 l3 : Option Value} : EE 5 106 [l0, l1, l2, l3] st M = EE 5 107 [l0, l1, l2, l3] (.int (nI 2) :: st) M := e_con d5_106 k_con_2
theorem d5_107 : decode (cod 5) 107 = .ok (.irem, 1) := by decide +kernel
theorem s5_107 {M : Mm} {st : List Value} {l0 l1 l2 l3 : Option Value} {x y : Nat} (h1 : x < 2 ^ 31) (h2 : 0 < y) (h3 : y < 2 ^ 31) : EE 5 107 [l0, l1, l2, l3] (.int (nI y) :: .int (nI x) :: st) M = EE 5 108 [l0, l1, l2, l3] (.int (nI (x % y)) :: st) M := e_remN d5_107 h1 h2 h3
theorem d5_108 : decode (cod 5) 108 = .ok (.ifCond .ne 12, 3) := by decide +kernel
theorem s5_108 {M : Mm} {st : List Value} {l0 l1 l2 l3 : Option Value} {x : Int32} : EE 5 108 [l0, l1, l2, l3] (.int x :: st) M = if x = 0 then EE 5 111 [l0, l1, l2, l3] st M else EE 5 120 [l0, l1, l2, l3] st M := e_ne0 d5_108 (by decide)
theorem d5_111 : decode (cod 5) 111 = .ok (.aload_n 0, 1) := by decide +kernel
theorem s5_111 {M : Mm} {st : List Value} {l1 l2 l3 : Option Value} {x : Nat} : EE 5 111 [some (.ref x), l1, l2, l3] st M = EE 5 112 [some (.ref x), l1, l2, l3] (.ref x :: st) M := e_ld d5_111 rfl rfl rfl rfl rfl rfl
theorem d5_112 : decode (cod 5) 112 = .ok (.getfield 15, 3) := by decide +kernel
theorem s5_112 {n : Nat} {I : Nat → Nat → Int32} {R : Nat → Nat → Option Nat} {st : List Value} {l0 l1 l2 l3 : Option Value} {a : Nat} : EE 5 112 [l0, l1, l2, l3] (.ref a :: st) (n, I, R) = (gfI n I R 0 1 a).bind (fun z => EE 5 115 [l0, l1, l2, l3] (z :: st) (n, I, R)) := e_getf d5_112 f0_15 rfl rfl
theorem d5_115 : decode (cod 5) 115 = .ok (.iload_n 2, 1) := by decide +kernel
theorem s5_115 {M : Mm} {st : List Value} {l0 l1 l3 : Option Value} {x : Int32} : EE 5 115 [l0, l1, some (.int x), l3] st M = EE 5 116 [l0, l1, some (.int x), l3] (.int x :: st) M := e_ld d5_115 rfl rfl rfl rfl rfl rfl
theorem d5_116 : decode (cod 5) 116 = .ok (.iconst 2, 1) := by decide +kernel
theorem s5_116 {M : Mm} {st : List Value} {l0 l1 l2 l3 : Option Value} : EE 5 116 [l0, l1, l2, l3] st M = EE 5 117 [l0, l1, l2, l3] (.int (nI 2) :: st) M := e_con d5_116 k_con_2
theorem d5_117 : decode (cod 5) 117 = .ok (.idiv, 1) := by decide +kernel
theorem s5_117 {M : Mm} {st : List Value} {l0 l1 l2 l3 : Option Value} {x y : Nat} (h1 : x < 2 ^ 31) (h2 : 0 < y) (h3 : y < 2 ^ 31) : EE 5 117 [l0, l1, l2, l3] (.int (nI y) :: .int (nI x) :: st) M = EE 5 118 [l0, l1, l2, l3] (.int (nI (x / y)) :: st) M := e_divN d5_117 h1 h2 h3
theorem d5_118 : decode (cod 5) 118 = .ok (.iload_n 3, 1) := by decide +kernel
theorem s5_118 {M : Mm} {st : List Value} {l0 l1 l2 : Option Value} {x : Int32} : EE 5 118 [l0, l1, l2, some (.int x)] st M = EE 5 119 [l0, l1, l2, some (.int x)] (.int x :: st) M := e_ld d5_118 rfl rfl rfl rfl rfl rfl
theorem d5_119 : decode (cod 5) 119 = .ok (.iastore, 1) := by decide +kernel
theorem s5_119 {n : Nat} {I : Nat → Nat → Int32} {R : Nat → Nat → Option Nat} {st : List Value} {l0 l1 l2 l3 : Option Value} {j x : Int32} {a : Nat} (h : acI 5 n a j) : EE 5 119 [l0, l1, l2, l3] (.int x :: .int j :: .ref a :: st) (n, I, R) = EE 5 120 [l0, l1, l2, l3] st (n, wI I a j.toNatClampNeg x, R) := e_iast d5_119 h
theorem d5_120 : decode (cod 5) 120 = .ok (.iinc 2 1, 3) := by decide +kernel
theorem s5_120 {M : Mm} {st : List Value} {l0 l1 l3 : Option Value} {x : Int32} : EE 5 120 [l0, l1, some (.int x), l3] st M = EE 5 123 [l0, cln l1, some (.int (x + nI 1)), l3] st M := e_iinc d5_120 rfl (congrArg (fun z => x + z) k_inc_1) rfl
theorem d5_123 : decode (cod 5) 123 = .ok (.goto (-42), 3) := by decide +kernel
theorem s5_123 {M : Mm} {st : List Value} {l0 l1 l2 l3 : Option Value} : EE 5 123 [l0, l1, l2, l3] st M = EE 5 81 [l0, l1, l2, l3] st M := e_goto d5_123 (by decide)
theorem d5_126 : decode (cod 5) 126 = .ok (.iconst 1, 1) := by decide +kernel
theorem s5_126 {M : Mm} {st : List Value} {l0 l1 l2 l3 : Option Value} : EE 5 126 [l0, l1, l2, l3] st M = EE 5 127 [l0, l1, l2, l3] (.int (nI 1) :: st) M := e_con d5_126 k_con_1
theorem d5_127 : decode (cod 5) 127 = .ok (.ireturn, 1) := by decide +kernel
theorem s5_127 {M : Mm} {l0 l1 l2 l3 : Option Value} {v : Int32} (h : narrow .boolean (.int v) = .int v) : EE 5 127 [l0, l1, l2, l3] [.int v] M = some (some (.int v), M) := e_iret d5_127 rfl h
theorem FE5 {a : Nat} {M : Mm} : FF 5 [.ref a] M = EE 5 0 [some (.ref a), none, none, none] [] M := FF_eq 5 _ _ (Nat.le_of_ble_eq_true rfl)
theorem d6_0 : decode (cod 6) 0 = .ok (.aload_n 0, 1) := by decide +kernel
theorem s6_0 {M : Mm} {st : List Value} {l1 : Option Value} {x : Nat} : EE 6 0 [some (.ref x), l1] st M = EE 6 1 [some (.ref x), l1] (.ref x :: st) M := e_ld d6_0 rfl rfl rfl rfl rfl rfl
theorem d6_1 : decode (cod 6) 1 = .ok (.getfield 33, 3) := by decide +kernel
theorem s6_1 {n : Nat} {I : Nat → Nat → Int32} {R : Nat → Nat → Option Nat} {st : List Value} {l0 l1 : Option Value} {a : Nat} : EE 6 1 [l0, l1] (.ref a :: st) (n, I, R) = (gfI n I R 0 4 a).bind (fun z => EE 6 4 [l0, l1] (z :: st) (n, I, R)) := e_getf d6_1 f0_33 rfl rfl
theorem d6_4 : decode (cod 6) 4 = .ok (.aload_n 0, 1) := by decide +kernel
theorem s6_4 {M : Mm} {st : List Value} {l1 : Option Value} {x : Nat} : EE 6 4 [some (.ref x), l1] st M = EE 6 5 [some (.ref x), l1] (.ref x :: st) M := e_ld d6_4 rfl rfl rfl rfl rfl rfl
theorem d6_5 : decode (cod 6) 5 = .ok (.getfield 29, 3) := by decide +kernel
theorem s6_5 {n : Nat} {I : Nat → Nat → Int32} {R : Nat → Nat → Option Nat} {st : List Value} {l0 l1 : Option Value} {a : Nat} : EE 6 5 [l0, l1] (.ref a :: st) (n, I, R) = (gfI n I R 0 2 a).bind (fun z => EE 6 8 [l0, l1] (z :: st) (n, I, R)) := e_getf d6_5 f0_29 rfl rfl
theorem d6_8 : decode (cod 6) 8 = .ok (.if_icmp .ge 16, 3) := by decide +kernel
theorem s6_8 {M : Mm} {st : List Value} {l0 l1 : Option Value} {x y : Int32} : EE 6 8 [l0, l1] (.int y :: .int x :: st) M = if y ≤ x then EE 6 24 [l0, l1] st M else EE 6 11 [l0, l1] st M := e_cge d6_8 (by decide)
theorem d6_11 : decode (cod 6) 11 = .ok (.aload_n 0, 1) := by decide +kernel
theorem s6_11 {M : Mm} {st : List Value} {l1 : Option Value} {x : Nat} : EE 6 11 [some (.ref x), l1] st M = EE 6 12 [some (.ref x), l1] (.ref x :: st) M := e_ld d6_11 rfl rfl rfl rfl rfl rfl
theorem d6_12 : decode (cod 6) 12 = .ok (.getfield 9, 3) := by decide +kernel
theorem s6_12 {n : Nat} {I : Nat → Nat → Int32} {R : Nat → Nat → Option Nat} {st : List Value} {l0 l1 : Option Value} {a : Nat} : EE 6 12 [l0, l1] (.ref a :: st) (n, I, R) = (gfI n I R 0 0 a).bind (fun z => EE 6 15 [l0, l1] (z :: st) (n, I, R)) := e_getf d6_12 f0_9 rfl rfl
theorem d6_15 : decode (cod 6) 15 = .ok (.aload_n 0, 1) := by decide +kernel
theorem s6_15 {M : Mm} {st : List Value} {l1 : Option Value} {x : Nat} : EE 6 15 [some (.ref x), l1] st M = EE 6 16 [some (.ref x), l1] (.ref x :: st) M := e_ld d6_15 rfl rfl rfl rfl rfl rfl
theorem d6_16 : decode (cod 6) 16 = .ok (.getfield 33, 3) := by decide +kernel
theorem s6_16 {n : Nat} {I : Nat → Nat → Int32} {R : Nat → Nat → Option Nat} {st : List Value} {l0 l1 : Option Value} {a : Nat} : EE 6 16 [l0, l1] (.ref a :: st) (n, I, R) = (gfI n I R 0 4 a).bind (fun z => EE 6 19 [l0, l1] (z :: st) (n, I, R)) := e_getf d6_16 f0_33 rfl rfl
theorem d6_19 : decode (cod 6) 19 = .ok (.caload, 1) := by decide +kernel
theorem s6_19 {n : Nat} {I : Nat → Nat → Int32} {R : Nat → Nat → Option Nat} {st : List Value} {l0 l1 : Option Value} {j : Int32} {a : Nat} : EE 6 19 [l0, l1] (.int j :: .ref a :: st) (n, I, R) = (ardI 6 n I a j).bind (fun z => EE 6 20 [l0, l1] (.int z :: st) (n, I, R)) := e_cald d6_19
theorem d6_20 : decode (cod 6) 20 = .ok (.iload_n 1, 1) := by decide +kernel
theorem s6_20 {M : Mm} {st : List Value} {l0 : Option Value} {x : Int32} : EE 6 20 [l0, some (.int x)] st M = EE 6 21 [l0, some (.int x)] (.int x :: st) M := e_ld d6_20 rfl rfl rfl rfl rfl rfl
theorem d6_21 : decode (cod 6) 21 = .ok (.if_icmp .eq 6, 3) := by decide +kernel
theorem s6_21 {M : Mm} {st : List Value} {l0 l1 : Option Value} {x y : Int32} : EE 6 21 [l0, l1] (.int y :: .int x :: st) M = if x = y then EE 6 27 [l0, l1] st M else EE 6 24 [l0, l1] st M := e_ceq d6_21 (by decide)
theorem d6_24 : decode (cod 6) 24 = .ok (.bipush (-6), 2) := by decide +kernel
theorem s6_24 {M : Mm} {st : List Value} {l0 l1 : Option Value} : EE 6 24 [l0, l1] st M = EE 6 26 [l0, l1] (.int ((-6)) :: st) M := e_bip d6_24 k_bip_m6
theorem d6_26 : decode (cod 6) 26 = .ok (.ireturn, 1) := by decide +kernel
theorem s6_26 {M : Mm} {l0 l1 : Option Value} {v : Int32} : EE 6 26 [l0, l1] [.int v] M = some (some (.int v), M) := e_iret d6_26 rfl rfl
theorem d6_27 : decode (cod 6) 27 = .ok (.aload_n 0, 1) := by decide +kernel
theorem s6_27 {M : Mm} {st : List Value} {l1 : Option Value} {x : Nat} : EE 6 27 [some (.ref x), l1] st M = EE 6 28 [some (.ref x), l1] (.ref x :: st) M := e_ld d6_27 rfl rfl rfl rfl rfl rfl
theorem d6_28 : decode (cod 6) 28 = .ok (.dup, 1) := by decide +kernel
theorem s6_28i {M : Mm} {st : List Value} {l0 l1 : Option Value} {x : Int32} : EE 6 28 [l0, l1] (.int x :: st) M = EE 6 29 [l0, l1] (.int x :: .int x :: st) M := e_dup d6_28 rfl
theorem s6_28r {M : Mm} {st : List Value} {l0 l1 : Option Value} {x : Nat} : EE 6 28 [l0, l1] (.ref x :: st) M = EE 6 29 [l0, l1] (.ref x :: .ref x :: st) M := e_dup d6_28 rfl
theorem d6_29 : decode (cod 6) 29 = .ok (.getfield 33, 3) := by decide +kernel
theorem s6_29 {n : Nat} {I : Nat → Nat → Int32} {R : Nat → Nat → Option Nat} {st : List Value} {l0 l1 : Option Value} {a : Nat} : EE 6 29 [l0, l1] (.ref a :: st) (n, I, R) = (gfI n I R 0 4 a).bind (fun z => EE 6 32 [l0, l1] (z :: st) (n, I, R)) := e_getf d6_29 f0_33 rfl rfl
theorem d6_32 : decode (cod 6) 32 = .ok (.iconst 1, 1) := by decide +kernel
theorem s6_32 {M : Mm} {st : List Value} {l0 l1 : Option Value} : EE 6 32 [l0, l1] st M = EE 6 33 [l0, l1] (.int (nI 1) :: st) M := e_con d6_32 k_con_1
theorem d6_33 : decode (cod 6) 33 = .ok (.iadd, 1) := by decide +kernel
theorem s6_33 {M : Mm} {st : List Value} {l0 l1 : Option Value} {x y : Int32} : EE 6 33 [l0, l1] (.int y :: .int x :: st) M = EE 6 34 [l0, l1] (.int (x + y) :: st) M := e_II d6_33 rfl rfl rfl rfl rfl rfl
theorem d6_34 : decode (cod 6) 34 = .ok (.putfield 33, 3) := by decide +kernel
theorem s6_34 {n : Nat} {I : Nat → Nat → Int32} {R : Nat → Nat → Option Nat} {st : List Value} {l0 l1 : Option Value} {a : Nat} {v : Value} : EE 6 34 [l0, l1] (v :: .ref a :: st) (n, I, R) = (pfI n I R 0 4 a v).bind (fun z => EE 6 37 [l0, l1] st (n, z.1, z.2)) := e_putf d6_34 f0_33 rfl rfl (Or.inr rfl)
theorem d6_37 : decode (cod 6) 37 = .ok (.iconst 0, 1) := by decide +kernel
theorem s6_37 {M : Mm} {st : List Value} {l0 l1 : Option Value} : EE 6 37 [l0, l1] st M = EE 6 38 [l0, l1] (.int (nI 0) :: st) M := e_con d6_37 k_con_0
theorem d6_38 : decode (cod 6) 38 = .ok (.ireturn, 1) := by decide +kernel
theorem s6_38 {M : Mm} {l0 l1 : Option Value} {v : Int32} : EE 6 38 [l0, l1] [.int v] M = some (some (.int v), M) := e_iret d6_38 rfl rfl
theorem FE6 {a : Nat} {b0 : Int32} {M : Mm} : FF 6 [.ref a, .int b0] M = EE 6 0 [some (.ref a), some (.int b0)] [] M := FF_eq 6 _ _ (Nat.le_of_ble_eq_true rfl)
theorem d7_0 : decode (cod 7) 0 = .ok (.iload_n 0, 1) := by decide +kernel
theorem s7_0 {M : Mm} {st : List Value} {x : Int32} : EE 7 0 [some (.int x)] st M = EE 7 1 [some (.int x)] (.int x :: st) M := e_ld d7_0 rfl rfl rfl rfl rfl rfl
theorem d7_1 : decode (cod 7) 1 = .ok (.lookupswitch 71 #[(99, 59), (107, 59), (108, 62), (109, 68), (114, 65), (120, 59)], 59) := by decide +kernel
theorem s7_1_99 {M : Mm} {st : List Value} {l0 : Option Value} : EE 7 1 [l0] (.int (nI 99) :: st) M = EE 7 60 [l0] st M := e_look d7_1 (by decide +kernel) (by decide +kernel)
theorem s7_1_107 {M : Mm} {st : List Value} {l0 : Option Value} : EE 7 1 [l0] (.int (nI 107) :: st) M = EE 7 60 [l0] st M := e_look d7_1 (by decide +kernel) (by decide +kernel)
theorem s7_1_108 {M : Mm} {st : List Value} {l0 : Option Value} : EE 7 1 [l0] (.int (nI 108) :: st) M = EE 7 63 [l0] st M := e_look d7_1 (by decide +kernel) (by decide +kernel)
theorem s7_1_109 {M : Mm} {st : List Value} {l0 : Option Value} : EE 7 1 [l0] (.int (nI 109) :: st) M = EE 7 69 [l0] st M := e_look d7_1 (by decide +kernel) (by decide +kernel)
theorem s7_1_114 {M : Mm} {st : List Value} {l0 : Option Value} : EE 7 1 [l0] (.int (nI 114) :: st) M = EE 7 66 [l0] st M := e_look d7_1 (by decide +kernel) (by decide +kernel)
theorem s7_1_120 {M : Mm} {st : List Value} {l0 : Option Value} : EE 7 1 [l0] (.int (nI 120) :: st) M = EE 7 60 [l0] st M := e_look d7_1 (by decide +kernel) (by decide +kernel)
theorem s7_1_d {M : Mm} {st : List Value} {l0 : Option Value} {x : Int32} (h99 : ¬ x.toInt = 99) (h107 : ¬ x.toInt = 107) (h108 : ¬ x.toInt = 108) (h109 : ¬ x.toInt = 109) (h114 : ¬ x.toInt = 114) (h120 : ¬ x.toInt = 120) : EE 7 1 [l0] (.int x :: st) M = EE 7 72 [l0] st M := e_look d7_1 (by decide +kernel) (by simp [Op.lookupswitch.offset, Ne.symm h99, h99, Ne.symm h107, h107, Ne.symm h108, h108, Ne.symm h109, h109, Ne.symm h114, h114, Ne.symm h120, h120])
theorem d7_60 : decode (cod 7) 60 = .ok (.ldc 73, 2) := by decide +kernel
theorem s7_60 {M : Mm} {st : List Value} {l0 : Option Value} : EE 7 60 [l0] st M = EE 7 62 [l0] (.ref 1011 :: st) M := e_ldc d7_60 k0_73
theorem d7_62 : decode (cod 7) 62 = .ok (.areturn, 1) := by decide +kernel
theorem s7_62 {M : Mm} {l0 : Option Value} {a : Nat} : EE 7 62 [l0] [.ref a] M = some (some (.ref a), M) := e_aret d7_62 rfl
theorem d7_63 : decode (cod 7) 63 = .ok (.ldc 75, 2) := by decide +kernel
theorem s7_63 {M : Mm} {st : List Value} {l0 : Option Value} : EE 7 63 [l0] st M = EE 7 65 [l0] (.ref 1012 :: st) M := e_ldc d7_63 k0_75
theorem d7_65 : decode (cod 7) 65 = .ok (.areturn, 1) := by decide +kernel
theorem s7_65 {M : Mm} {l0 : Option Value} {a : Nat} : EE 7 65 [l0] [.ref a] M = some (some (.ref a), M) := e_aret d7_65 rfl
theorem d7_66 : decode (cod 7) 66 = .ok (.ldc 77, 2) := by decide +kernel
theorem s7_66 {M : Mm} {st : List Value} {l0 : Option Value} : EE 7 66 [l0] st M = EE 7 68 [l0] (.ref 1013 :: st) M := e_ldc d7_66 k0_77
theorem d7_68 : decode (cod 7) 68 = .ok (.areturn, 1) := by decide +kernel
theorem s7_68 {M : Mm} {l0 : Option Value} {a : Nat} : EE 7 68 [l0] [.ref a] M = some (some (.ref a), M) := e_aret d7_68 rfl
theorem d7_69 : decode (cod 7) 69 = .ok (.ldc 79, 2) := by decide +kernel
theorem s7_69 {M : Mm} {st : List Value} {l0 : Option Value} : EE 7 69 [l0] st M = EE 7 71 [l0] (.ref 1014 :: st) M := e_ldc d7_69 k0_79
theorem d7_71 : decode (cod 7) 71 = .ok (.areturn, 1) := by decide +kernel
theorem s7_71 {M : Mm} {l0 : Option Value} {a : Nat} : EE 7 71 [l0] [.ref a] M = some (some (.ref a), M) := e_aret d7_71 rfl
theorem d7_72 : decode (cod 7) 72 = .ok (.ldc 81, 2) := by decide +kernel
theorem s7_72 {M : Mm} {st : List Value} {l0 : Option Value} : EE 7 72 [l0] st M = EE 7 74 [l0] (.ref 1015 :: st) M := e_ldc d7_72 k0_81
theorem d7_74 : decode (cod 7) 74 = .ok (.areturn, 1) := by decide +kernel
theorem s7_74 {M : Mm} {l0 : Option Value} {a : Nat} : EE 7 74 [l0] [.ref a] M = some (some (.ref a), M) := e_aret d7_74 rfl
theorem FE7 {b0 : Int32} {M : Mm} : FF 7 [.int b0] M = EE 7 0 [some (.int b0)] [] M := FF_eq 7 _ _ (Nat.le_of_ble_eq_true rfl)
theorem d8_0 : decode (cod 8) 0 = .ok (.iload_n 1, 1) := by decide +kernel
theorem s8_0 {M : Mm} {st : List Value} {l0 : Option Value} {x : Int32} : EE 8 0 [l0, some (.int x)] st M = EE 8 1 [l0, some (.int x)] (.int x :: st) M := e_ld d8_0 rfl rfl rfl rfl rfl rfl
theorem d8_1 : decode (cod 8) 1 = .ok (.lookupswitch 54 #[(110, 49), (116, 35), (119, 42)], 35) := by decide +kernel
theorem s8_1_110 {M : Mm} {st : List Value} {l0 l1 : Option Value} : EE 8 1 [l0, l1] (.int (nI 110) :: st) M = EE 8 50 [l0, l1] st M := e_look d8_1 (by decide +kernel) (by decide +kernel)
theorem s8_1_116 {M : Mm} {st : List Value} {l0 l1 : Option Value} : EE 8 1 [l0, l1] (.int (nI 116) :: st) M = EE 8 36 [l0, l1] st M := e_look d8_1 (by decide +kernel) (by decide +kernel)
theorem s8_1_119 {M : Mm} {st : List Value} {l0 l1 : Option Value} : EE 8 1 [l0, l1] (.int (nI 119) :: st) M = EE 8 43 [l0, l1] st M := e_look d8_1 (by decide +kernel) (by decide +kernel)
theorem s8_1_d {M : Mm} {st : List Value} {l0 l1 : Option Value} {x : Int32} (h110 : ¬ x.toInt = 110) (h116 : ¬ x.toInt = 116) (h119 : ¬ x.toInt = 119) : EE 8 1 [l0, l1] (.int x :: st) M = EE 8 55 [l0, l1] st M := e_look d8_1 (by decide +kernel) (by simp [Op.lookupswitch.offset, Ne.symm h110, h110, Ne.symm h116, h116, Ne.symm h119, h119])
theorem d8_36 : decode (cod 8) 36 = .ok (.aload_n 0, 1) := by decide +kernel
theorem s8_36 {M : Mm} {st : List Value} {l1 : Option Value} {x : Nat} : EE 8 36 [some (.ref x), l1] st M = EE 8 37 [some (.ref x), l1] (.ref x :: st) M := e_ld d8_36 rfl rfl rfl rfl rfl rfl
theorem d8_37 : decode (cod 8) 37 = .ok (.bipush 57, 2) := by decide +kernel
theorem s8_37 {M : Mm} {st : List Value} {l0 l1 : Option Value} : EE 8 37 [l0, l1] st M = EE 8 39 [l0, l1] (.int (nI 57) :: st) M := e_bip d8_37 k_bip_57
theorem d8_39 : decode (cod 8) 39 = .ok (.invokevirtual 83, 3) := by decide +kernel
theorem s8_39 {l0 l1 : Option Value} {a : Nat} {M : Mm} {b0 : Int32} {st : List Value} (hl : st.length ≤ 4) (ho : isO "HandoverDesk$Pad" M.1 a = true) : EE 8 39 [l0, l1] (.int b0 :: .ref a :: st) M = (FF 9 (.ref a :: [.int b0]) M).bind (fun z => EE 8 42 [l0, l1] (psh z.1 st) z.2) := e_calv (av := [.int b0]) d8_39 c0_83 rfl rfl rfl r8_9 rfl hl ho
theorem d8_42 : decode (cod 8) 42 = .ok (.ireturn, 1) := by decide +kernel
theorem s8_42 {M : Mm} {l0 l1 : Option Value} {v : Int32} : EE 8 42 [l0, l1] [.int v] M = some (some (.int v), M) := e_iret d8_42 rfl rfl
theorem d8_43 : decode (cod 8) 43 = .ok (.aload_n 0, 1) := by decide +kernel
theorem s8_43 {M : Mm} {st : List Value} {l1 : Option Value} {x : Nat} : EE 8 43 [some (.ref x), l1] st M = EE 8 44 [some (.ref x), l1] (.ref x :: st) M := e_ld d8_43 rfl rfl rfl rfl rfl rfl
theorem d8_44 : decode (cod 8) 44 = .ok (.bipush 53, 2) := by decide +kernel
theorem s8_44 {M : Mm} {st : List Value} {l0 l1 : Option Value} : EE 8 44 [l0, l1] st M = EE 8 46 [l0, l1] (.int (nI 53) :: st) M := e_bip d8_44 k_bip_53
theorem d8_46 : decode (cod 8) 46 = .ok (.invokevirtual 83, 3) := by decide +kernel
theorem s8_46 {l0 l1 : Option Value} {a : Nat} {M : Mm} {b0 : Int32} {st : List Value} (hl : st.length ≤ 4) (ho : isO "HandoverDesk$Pad" M.1 a = true) : EE 8 46 [l0, l1] (.int b0 :: .ref a :: st) M = (FF 9 (.ref a :: [.int b0]) M).bind (fun z => EE 8 49 [l0, l1] (psh z.1 st) z.2) := e_calv (av := [.int b0]) d8_46 c0_83 rfl rfl rfl r8_9 rfl hl ho
theorem d8_49 : decode (cod 8) 49 = .ok (.ireturn, 1) := by decide +kernel
theorem s8_49 {M : Mm} {l0 l1 : Option Value} {v : Int32} : EE 8 49 [l0, l1] [.int v] M = some (some (.int v), M) := e_iret d8_49 rfl rfl
theorem d8_50 : decode (cod 8) 50 = .ok (.aload_n 0, 1) := by decide +kernel
theorem s8_50 {M : Mm} {st : List Value} {l1 : Option Value} {x : Nat} : EE 8 50 [some (.ref x), l1] st M = EE 8 51 [some (.ref x), l1] (.ref x :: st) M := e_ld d8_50 rfl rfl rfl rfl rfl rfl
theorem d8_51 : decode (cod 8) 51 = .ok (.invokevirtual 86, 3) := by decide +kernel
theorem s8_51 {l0 l1 : Option Value} {a : Nat} {M : Mm} {st : List Value} (hl : st.length ≤ 4) (ho : isO "HandoverDesk$Pad" M.1 a = true) : EE 8 51 [l0, l1] (.ref a :: st) M = (FF 10 (.ref a :: []) M).bind (fun z => EE 8 54 [l0, l1] (psh z.1 st) z.2) := e_calv (av := []) d8_51 c0_86 rfl rfl rfl r8_10 rfl hl ho
theorem d8_54 : decode (cod 8) 54 = .ok (.ireturn, 1) := by decide +kernel
theorem s8_54 {M : Mm} {l0 l1 : Option Value} {v : Int32} : EE 8 54 [l0, l1] [.int v] M = some (some (.int v), M) := e_iret d8_54 rfl rfl
theorem d8_55 : decode (cod 8) 55 = .ok (.aload_n 0, 1) := by decide +kernel
theorem s8_55 {M : Mm} {st : List Value} {l1 : Option Value} {x : Nat} : EE 8 55 [some (.ref x), l1] st M = EE 8 56 [some (.ref x), l1] (.ref x :: st) M := e_ld d8_55 rfl rfl rfl rfl rfl rfl
theorem d8_56 : decode (cod 8) 56 = .ok (.iload_n 1, 1) := by decide +kernel
theorem s8_56 {M : Mm} {st : List Value} {l0 : Option Value} {x : Int32} : EE 8 56 [l0, some (.int x)] st M = EE 8 57 [l0, some (.int x)] (.int x :: st) M := e_ld d8_56 rfl rfl rfl rfl rfl rfl
theorem d8_57 : decode (cod 8) 57 = .ok (.invokevirtual 43, 3) := by decide +kernel
theorem s8_57 {l0 l1 : Option Value} {a : Nat} {M : Mm} {b0 : Int32} {st : List Value} (hl : st.length ≤ 4) (ho : isO "HandoverDesk$Pad" M.1 a = true) : EE 8 57 [l0, l1] (.int b0 :: .ref a :: st) M = (FF 6 (.ref a :: [.int b0]) M).bind (fun z => EE 8 60 [l0, l1] (psh z.1 st) z.2) := e_calv (av := [.int b0]) d8_57 c0_43 rfl rfl rfl r8_6 rfl hl ho
theorem d8_60 : decode (cod 8) 60 = .ok (.ireturn, 1) := by decide +kernel
theorem s8_60 {M : Mm} {l0 l1 : Option Value} {v : Int32} : EE 8 60 [l0, l1] [.int v] M = some (some (.int v), M) := e_iret d8_60 rfl rfl
theorem FE8 {a : Nat} {b0 : Int32} {M : Mm} : FF 8 [.ref a, .int b0] M = EE 8 0 [some (.ref a), some (.int b0)] [] M := FF_eq 8 _ _ (Nat.le_of_ble_eq_true rfl)
theorem d9_0 : decode (cod 9) 0 = .ok (.aload_n 0, 1) := by decide +kernel
theorem s9_0 {M : Mm} {st : List Value} {l1 l2 : Option Value} {x : Nat} : EE 9 0 [some (.ref x), l1, l2] st M = EE 9 1 [some (.ref x), l1, l2] (.ref x :: st) M := e_ld d9_0 rfl rfl rfl rfl rfl rfl
theorem d9_1 : decode (cod 9) 1 = .ok (.getfield 33, 3) := by decide +kernel
theorem s9_1 {n : Nat} {I : Nat → Nat → Int32} {R : Nat → Nat → Option Nat} {st : List Value} {l0 l1 l2 : Option Value} {a : Nat} : EE 9 1 [l0, l1, l2] (.ref a :: st) (n, I, R) = (gfI n I R 0 4 a).bind (fun z => EE 9 4 [l0, l1, l2] (z :: st) (n, I, R)) := e_getf d9_1 f0_33 rfl rfl
theorem d9_4 : decode (cod 9) 4 = .ok (.aload_n 0, 1) := by decide +kernel
theorem s9_4 {M : Mm} {st : List Value} {l1 l2 : Option Value} {x : Nat} : EE 9 4 [some (.ref x), l1, l2] st M = EE 9 5 [some (.ref x), l1, l2] (.ref x :: st) M := e_ld d9_4 rfl rfl rfl rfl rfl rfl
theorem d9_5 : decode (cod 9) 5 = .ok (.getfield 29, 3) := by decide +kernel
theorem s9_5 {n : Nat} {I : Nat → Nat → Int32} {R : Nat → Nat → Option Nat} {st : List Value} {l0 l1 l2 : Option Value} {a : Nat} : EE 9 5 [l0, l1, l2] (.ref a :: st) (n, I, R) = (gfI n I R 0 2 a).bind (fun z => EE 9 8 [l0, l1, l2] (z :: st) (n, I, R)) := e_getf d9_5 f0_29 rfl rfl
theorem d9_8 : decode (cod 9) 8 = .ok (.if_icmp .ge 30, 3) := by decide +kernel
theorem s9_8 {M : Mm} {st : List Value} {l0 l1 l2 : Option Value} {x y : Int32} : EE 9 8 [l0, l1, l2] (.int y :: .int x :: st) M = if y ≤ x then EE 9 38 [l0, l1, l2] st M else EE 9 11 [l0, l1, l2] st M := e_cge d9_8 (by decide)
theorem d9_11 : decode (cod 9) 11 = .ok (.aload_n 0, 1) := by decide +kernel
theorem s9_11 {M : Mm} {st : List Value} {l1 l2 : Option Value} {x : Nat} : EE 9 11 [some (.ref x), l1, l2] st M = EE 9 12 [some (.ref x), l1, l2] (.ref x :: st) M := e_ld d9_11 rfl rfl rfl rfl rfl rfl
theorem d9_12 : decode (cod 9) 12 = .ok (.getfield 9, 3) := by decide +kernel
theorem s9_12 {n : Nat} {I : Nat → Nat → Int32} {R : Nat → Nat → Option Nat} {st : List Value} {l0 l1 l2 : Option Value} {a : Nat} : EE 9 12 [l0, l1, l2] (.ref a :: st) (n, I, R) = (gfI n I R 0 0 a).bind (fun z => EE 9 15 [l0, l1, l2] (z :: st) (n, I, R)) := e_getf d9_12 f0_9 rfl rfl
theorem d9_15 : decode (cod 9) 15 = .ok (.aload_n 0, 1) := by decide +kernel
theorem s9_15 {M : Mm} {st : List Value} {l1 l2 : Option Value} {x : Nat} : EE 9 15 [some (.ref x), l1, l2] st M = EE 9 16 [some (.ref x), l1, l2] (.ref x :: st) M := e_ld d9_15 rfl rfl rfl rfl rfl rfl
theorem d9_16 : decode (cod 9) 16 = .ok (.getfield 33, 3) := by decide +kernel
theorem s9_16 {n : Nat} {I : Nat → Nat → Int32} {R : Nat → Nat → Option Nat} {st : List Value} {l0 l1 l2 : Option Value} {a : Nat} : EE 9 16 [l0, l1, l2] (.ref a :: st) (n, I, R) = (gfI n I R 0 4 a).bind (fun z => EE 9 19 [l0, l1, l2] (z :: st) (n, I, R)) := e_getf d9_16 f0_33 rfl rfl
theorem d9_19 : decode (cod 9) 19 = .ok (.caload, 1) := by decide +kernel
theorem s9_19 {n : Nat} {I : Nat → Nat → Int32} {R : Nat → Nat → Option Nat} {st : List Value} {l0 l1 l2 : Option Value} {j : Int32} {a : Nat} : EE 9 19 [l0, l1, l2] (.int j :: .ref a :: st) (n, I, R) = (ardI 6 n I a j).bind (fun z => EE 9 20 [l0, l1, l2] (.int z :: st) (n, I, R)) := e_cald d9_19
theorem d9_20 : decode (cod 9) 20 = .ok (.bipush 48, 2) := by decide +kernel
theorem s9_20 {M : Mm} {st : List Value} {l0 l1 l2 : Option Value} : EE 9 20 [l0, l1, l2] st M = EE 9 22 [l0, l1, l2] (.int (nI 48) :: st) M := e_bip d9_20 k_bip_48
theorem d9_22 : decode (cod 9) 22 = .ok (.if_icmp .lt 16, 3) := by decide +kernel
theorem s9_22 {M : Mm} {st : List Value} {l0 l1 l2 : Option Value} {x y : Int32} : EE 9 22 [l0, l1, l2] (.int y :: .int x :: st) M = if x < y then EE 9 38 [l0, l1, l2] st M else EE 9 25 [l0, l1, l2] st M := e_clt d9_22 (by decide)
theorem d9_25 : decode (cod 9) 25 = .ok (.aload_n 0, 1) := by decide +kernel
theorem s9_25 {M : Mm} {st : List Value} {l1 l2 : Option Value} {x : Nat} : EE 9 25 [some (.ref x), l1, l2] st M = EE 9 26 [some (.ref x), l1, l2] (.ref x :: st) M := e_ld d9_25 rfl rfl rfl rfl rfl rfl
theorem d9_26 : decode (cod 9) 26 = .ok (.getfield 9, 3) := by decide +kernel
theorem s9_26 {n : Nat} {I : Nat → Nat → Int32} {R : Nat → Nat → Option Nat} {st : List Value} {l0 l1 l2 : Option Value} {a : Nat} : EE 9 26 [l0, l1, l2] (.ref a :: st) (n, I, R) = (gfI n I R 0 0 a).bind (fun z => EE 9 29 [l0, l1, l2] (z :: st) (n, I, R)) := e_getf d9_26 f0_9 rfl rfl
theorem d9_29 : decode (cod 9) 29 = .ok (.aload_n 0, 1) := by decide +kernel
theorem s9_29 {M : Mm} {st : List Value} {l1 l2 : Option Value} {x : Nat} : EE 9 29 [some (.ref x), l1, l2] st M = EE 9 30 [some (.ref x), l1, l2] (.ref x :: st) M := e_ld d9_29 rfl rfl rfl rfl rfl rfl
theorem d9_30 : decode (cod 9) 30 = .ok (.getfield 33, 3) := by decide +kernel
theorem s9_30 {n : Nat} {I : Nat → Nat → Int32} {R : Nat → Nat → Option Nat} {st : List Value} {l0 l1 l2 : Option Value} {a : Nat} : EE 9 30 [l0, l1, l2] (.ref a :: st) (n, I, R) = (gfI n I R 0 4 a).bind (fun z => EE 9 33 [l0, l1, l2] (z :: st) (n, I, R)) := e_getf d9_30 f0_33 rfl rfl
theorem d9_33 : decode (cod 9) 33 = .ok (.caload, 1) := by decide +kernel
theorem s9_33 {n : Nat} {I : Nat → Nat → Int32} {R : Nat → Nat → Option Nat} {st : List Value} {l0 l1 l2 : Option Value} {j : Int32} {a : Nat} : EE 9 33 [l0, l1, l2] (.int j :: .ref a :: st) (n, I, R) = (ardI 6 n I a j).bind (fun z => EE 9 34 [l0, l1, l2] (.int z :: st) (n, I, R)) := e_cald d9_33
theorem d9_34 : decode (cod 9) 34 = .ok (.iload_n 1, 1) := by decide +kernel
theorem s9_34 {M : Mm} {st : List Value} {l0 l2 : Option Value} {x : Int32} : EE 9 34 [l0, some (.int x), l2] st M = EE 9 35 [l0, some (.int x), l2] (.int x :: st) M := e_ld d9_34 rfl rfl rfl rfl rfl rfl
theorem d9_35 : decode (cod 9) 35 = .ok (.if_icmp .le 6, 3) := by decide +kernel
theorem s9_35 {M : Mm} {st : List Value} {l0 l1 l2 : Option Value} {x y : Int32} : EE 9 35 [l0, l1, l2] (.int y :: .int x :: st) M = if x ≤ y then EE 9 41 [l0, l1, l2] st M else EE 9 38 [l0, l1, l2] st M := e_cle d9_35 (by decide)
theorem d9_38 : decode (cod 9) 38 = .ok (.bipush (-6), 2) := by decide +kernel
theorem s9_38 {M : Mm} {st : List Value} {l0 l1 l2 : Option Value} : EE 9 38 [l0, l1, l2] st M = EE 9 40 [l0, l1, l2] (.int ((-6)) :: st) M := e_bip d9_38 k_bip_m6
theorem d9_40 : decode (cod 9) 40 = .ok (.ireturn, 1) := by decide +kernel
theorem s9_40 {M : Mm} {l0 l1 l2 : Option Value} {v : Int32} : EE 9 40 [l0, l1, l2] [.int v] M = some (some (.int v), M) := e_iret d9_40 rfl rfl
theorem d9_41 : decode (cod 9) 41 = .ok (.aload_n 0, 1) := by decide +kernel
theorem s9_41 {M : Mm} {st : List Value} {l1 l2 : Option Value} {x : Nat} : EE 9 41 [some (.ref x), l1, l2] st M = EE 9 42 [some (.ref x), l1, l2] (.ref x :: st) M := e_ld d9_41 rfl rfl rfl rfl rfl rfl
theorem d9_42 : decode (cod 9) 42 = .ok (.getfield 9, 3) := by decide +kernel
theorem s9_42 {n : Nat} {I : Nat → Nat → Int32} {R : Nat → Nat → Option Nat} {st : List Value} {l0 l1 l2 : Option Value} {a : Nat} : EE 9 42 [l0, l1, l2] (.ref a :: st) (n, I, R) = (gfI n I R 0 0 a).bind (fun z => EE 9 45 [l0, l1, l2] (z :: st) (n, I, R)) := e_getf d9_42 f0_9 rfl rfl
theorem d9_45 : decode (cod 9) 45 = .ok (.aload_n 0, 1) := by decide +kernel
theorem s9_45 {M : Mm} {st : List Value} {l1 l2 : Option Value} {x : Nat} : EE 9 45 [some (.ref x), l1, l2] st M = EE 9 46 [some (.ref x), l1, l2] (.ref x :: st) M := e_ld d9_45 rfl rfl rfl rfl rfl rfl
theorem d9_46 : decode (cod 9) 46 = .ok (.getfield 33, 3) := by decide +kernel
theorem s9_46 {n : Nat} {I : Nat → Nat → Int32} {R : Nat → Nat → Option Nat} {st : List Value} {l0 l1 l2 : Option Value} {a : Nat} : EE 9 46 [l0, l1, l2] (.ref a :: st) (n, I, R) = (gfI n I R 0 4 a).bind (fun z => EE 9 49 [l0, l1, l2] (z :: st) (n, I, R)) := e_getf d9_46 f0_33 rfl rfl
theorem d9_49 : decode (cod 9) 49 = .ok (.caload, 1) := by decide +kernel
theorem s9_49 {n : Nat} {I : Nat → Nat → Int32} {R : Nat → Nat → Option Nat} {st : List Value} {l0 l1 l2 : Option Value} {j : Int32} {a : Nat} : EE 9 49 [l0, l1, l2] (.int j :: .ref a :: st) (n, I, R) = (ardI 6 n I a j).bind (fun z => EE 9 50 [l0, l1, l2] (.int z :: st) (n, I, R)) := e_cald d9_49
theorem d9_50 : decode (cod 9) 50 = .ok (.bipush 48, 2) := by decide +kernel
theorem s9_50 {M : Mm} {st : List Value} {l0 l1 l2 : Option Value} : EE 9 50 [l0, l1, l2] st M = EE 9 52 [l0, l1, l2] (.int (nI 48) :: st) M := e_bip d9_50 k_bip_48
theorem d9_52 : decode (cod 9) 52 = .ok (.isub, 1) := by decide +kernel
theorem s9_52 {M : Mm} {st : List Value} {l0 l1 l2 : Option Value} {x y : Int32} : EE 9 52 [l0, l1, l2] (.int y :: .int x :: st) M = EE 9 53 [l0, l1, l2] (.int (x - y) :: st) M := e_II d9_52 rfl rfl rfl rfl rfl rfl
theorem d9_53 : decode (cod 9) 53 = .ok (.istore_n 2, 1) := by decide +kernel
theorem s9_53 {M : Mm} {st : List Value} {l0 l1 l2 : Option Value} {x : Int32} : EE 9 53 [l0, l1, l2] (.int x :: st) M = EE 9 54 [l0, cln l1, some (.int x)] st M := e_st1 d9_53 rfl rfl rfl rfl rfl rfl rfl (Nat.le_of_ble_eq_true rfl) rfl
theorem d9_54 : decode (cod 9) 54 = .ok (.aload_n 0, 1) := by decide +kernel
theorem s9_54 {M : Mm} {st : List Value} {l1 l2 : Option Value} {x : Nat} : EE 9 54 [some (.ref x), l1, l2] st M = EE 9 55 [some (.ref x), l1, l2] (.ref x :: st) M := e_ld d9_54 rfl rfl rfl rfl rfl rfl
theorem d9_55 : decode (cod 9) 55 = .ok (.dup, 1) := by decide +kernel
theorem s9_55i {M : Mm} {st : List Value} {l0 l1 l2 : Option Value} {x : Int32} : EE 9 55 [l0, l1, l2] (.int x :: st) M = EE 9 56 [l0, l1, l2] (.int x :: .int x :: st) M := e_dup d9_55 rfl
theorem s9_55r {M : Mm} {st : List Value} {l0 l1 l2 : Option Value} {x : Nat} : EE 9 55 [l0, l1, l2] (.ref x :: st) M = EE 9 56 [l0, l1, l2] (.ref x :: .ref x :: st) M := e_dup d9_55 rfl
theorem d9_56 : decode (cod 9) 56 = .ok (.getfield 33, 3) := by decide +kernel
theorem s9_56 {n : Nat} {I : Nat → Nat → Int32} {R : Nat → Nat → Option Nat} {st : List Value} {l0 l1 l2 : Option Value} {a : Nat} : EE 9 56 [l0, l1, l2] (.ref a :: st) (n, I, R) = (gfI n I R 0 4 a).bind (fun z => EE 9 59 [l0, l1, l2] (z :: st) (n, I, R)) := e_getf d9_56 f0_33 rfl rfl
theorem d9_59 : decode (cod 9) 59 = .ok (.iconst 1, 1) := by decide +kernel
theorem s9_59 {M : Mm} {st : List Value} {l0 l1 l2 : Option Value} : EE 9 59 [l0, l1, l2] st M = EE 9 60 [l0, l1, l2] (.int (nI 1) :: st) M := e_con d9_59 k_con_1
theorem d9_60 : decode (cod 9) 60 = .ok (.iadd, 1) := by decide +kernel
theorem s9_60 {M : Mm} {st : List Value} {l0 l1 l2 : Option Value} {x y : Int32} : EE 9 60 [l0, l1, l2] (.int y :: .int x :: st) M = EE 9 61 [l0, l1, l2] (.int (x + y) :: st) M := e_II d9_60 rfl rfl rfl rfl rfl rfl
theorem d9_61 : decode (cod 9) 61 = .ok (.putfield 33, 3) := by decide +kernel
theorem s9_61 {n : Nat} {I : Nat → Nat → Int32} {R : Nat → Nat → Option Nat} {st : List Value} {l0 l1 l2 : Option Value} {a : Nat} {v : Value} : EE 9 61 [l0, l1, l2] (v :: .ref a :: st) (n, I, R) = (pfI n I R 0 4 a v).bind (fun z => EE 9 64 [l0, l1, l2] st (n, z.1, z.2)) := e_putf d9_61 f0_33 rfl rfl (Or.inr rfl)
theorem d9_64 : decode (cod 9) 64 = .ok (.iload_n 2, 1) := by decide +kernel
theorem s9_64 {M : Mm} {st : List Value} {l0 l1 : Option Value} {x : Int32} : EE 9 64 [l0, l1, some (.int x)] st M = EE 9 65 [l0, l1, some (.int x)] (.int x :: st) M := e_ld d9_64 rfl rfl rfl rfl rfl rfl
theorem d9_65 : decode (cod 9) 65 = .ok (.ireturn, 1) := by decide +kernel
theorem s9_65 {M : Mm} {l0 l1 l2 : Option Value} {v : Int32} : EE 9 65 [l0, l1, l2] [.int v] M = some (some (.int v), M) := e_iret d9_65 rfl rfl
theorem FE9 {a : Nat} {b0 : Int32} {M : Mm} : FF 9 [.ref a, .int b0] M = EE 9 0 [some (.ref a), some (.int b0), none] [] M := FF_eq 9 _ _ (Nat.le_of_ble_eq_true rfl)
theorem d10_0 : decode (cod 10) 0 = .ok (.aload_n 0, 1) := by decide +kernel
theorem s10_0 {M : Mm} {st : List Value} {l1 l2 l3 : Option Value} {x : Nat} : EE 10 0 [some (.ref x), l1, l2, l3] st M = EE 10 1 [some (.ref x), l1, l2, l3] (.ref x :: st) M := e_ld d10_0 rfl rfl rfl rfl rfl rfl
theorem d10_1 : decode (cod 10) 1 = .ok (.bipush 57, 2) := by decide +kernel
theorem s10_1 {M : Mm} {st : List Value} {l0 l1 l2 l3 : Option Value} : EE 10 1 [l0, l1, l2, l3] st M = EE 10 3 [l0, l1, l2, l3] (.int (nI 57) :: st) M := e_bip d10_1 k_bip_57
theorem d10_3 : decode (cod 10) 3 = .ok (.invokevirtual 83, 3) := by decide +kernel
theorem s10_3 {l0 l1 l2 l3 : Option Value} {a : Nat} {M : Mm} {b0 : Int32} {st : List Value} (hl : st.length ≤ 4) (ho : isO "HandoverDesk$Pad" M.1 a = true) : EE 10 3 [l0, l1, l2, l3] (.int b0 :: .ref a :: st) M = (FF 9 (.ref a :: [.int b0]) M).bind (fun z => EE 10 6 [l0, l1, l2, l3] (psh z.1 st) z.2) := e_calv (av := [.int b0]) d10_3 c0_83 rfl rfl rfl r10_9 rfl hl ho
theorem d10_6 : decode (cod 10) 6 = .ok (.istore_n 1, 1) := by decide +kernel
theorem s10_6 {M : Mm} {st : List Value} {l0 l1 l2 l3 : Option Value} {x : Int32} : EE 10 6 [l0, l1, l2, l3] (.int x :: st) M = EE 10 7 [cln l0, some (.int x), l2, l3] st M := e_st1 d10_6 rfl rfl rfl rfl rfl rfl rfl (Nat.le_of_ble_eq_true rfl) rfl
theorem d10_7 : decode (cod 10) 7 = .ok (.iload_n 1, 1) := by decide +kernel
theorem s10_7 {M : Mm} {st : List Value} {l0 l2 l3 : Option Value} {x : Int32} : EE 10 7 [l0, some (.int x), l2, l3] st M = EE 10 8 [l0, some (.int x), l2, l3] (.int x :: st) M := e_ld d10_7 rfl rfl rfl rfl rfl rfl
theorem d10_8 : decode (cod 10) 8 = .ok (.ifCond .gt 5, 3) := by decide +kernel
theorem s10_8 {M : Mm} {st : List Value} {l0 l1 l2 l3 : Option Value} {x : Int32} : EE 10 8 [l0, l1, l2, l3] (.int x :: st) M = if 0 < x then EE 10 13 [l0, l1, l2, l3] st M else EE 10 11 [l0, l1, l2, l3] st M := e_gt0 d10_8 (by decide)
theorem d10_11 : decode (cod 10) 11 = .ok (.iload_n 1, 1) := by decide +kernel
theorem s10_11 {M : Mm} {st : List Value} {l0 l2 l3 : Option Value} {x : Int32} : EE 10 11 [l0, some (.int x), l2, l3] st M = EE 10 12 [l0, some (.int x), l2, l3] (.int x :: st) M := e_ld d10_11 rfl rfl rfl rfl rfl rfl
theorem d10_12 : decode (cod 10) 12 = .ok (.ireturn, 1) := by decide +kernel
theorem s10_12 {M : Mm} {l0 l1 l2 l3 : Option Value} {v : Int32} : EE 10 12 [l0, l1, l2, l3] [.int v] M = some (some (.int v), M) := e_iret d10_12 rfl rfl
theorem d10_13 : decode (cod 10) 13 = .ok (.iconst 0, 1) := by decide +kernel
theorem s10_13 {M : Mm} {st : List Value} {l0 l1 l2 l3 : Option Value} : EE 10 13 [l0, l1, l2, l3] st M = EE 10 14 [l0, l1, l2, l3] (.int (nI 0) :: st) M := e_con d10_13 k_con_0
theorem d10_14 : decode (cod 10) 14 = .ok (.istore_n 2, 1) := by decide +kernel
theorem s10_14 {M : Mm} {st : List Value} {l0 l1 l2 l3 : Option Value} {x : Int32} : EE 10 14 [l0, l1, l2, l3] (.int x :: st) M = EE 10 15 [l0, cln l1, some (.int x), l3] st M := e_st1 d10_14 rfl rfl rfl rfl rfl rfl rfl (Nat.le_of_ble_eq_true rfl) rfl
theorem d10_15 : decode (cod 10) 15 = .ok (.iload_n 2, 1) := by decide +kernel
theorem s10_15 {M : Mm} {st : List Value} {l0 l1 l3 : Option Value} {x : Int32} : EE 10 15 [l0, l1, some (.int x), l3] st M = EE 10 16 [l0, l1, some (.int x), l3] (.int x :: st) M := e_ld d10_15 rfl rfl rfl rfl rfl rfl
theorem d10_16 : decode (cod 10) 16 = .ok (.iconst 2, 1) := by decide +kernel
theorem s10_16 {M : Mm} {st : List Value} {l0 l1 l2 l3 : Option Value} : EE 10 16 [l0, l1, l2, l3] st M = EE 10 17 [l0, l1, l2, l3] (.int (nI 2) :: st) M := e_con d10_16 k_con_2
theorem d10_17 : decode (cod 10) 17 = .ok (.if_icmp .ge 29, 3) := by decide +kernel
theorem s10_17 {M : Mm} {st : List Value} {l0 l1 l2 l3 : Option Value} {x y : Int32} : EE 10 17 [l0, l1, l2, l3] (.int y :: .int x :: st) M = if y ≤ x then EE 10 46 [l0, l1, l2, l3] st M else EE 10 20 [l0, l1, l2, l3] st M := e_cge d10_17 (by decide)
theorem d10_20 : decode (cod 10) 20 = .ok (.aload_n 0, 1) := by decide +kernel
theorem s10_20 {M : Mm} {st : List Value} {l1 l2 l3 : Option Value} {x : Nat} : EE 10 20 [some (.ref x), l1, l2, l3] st M = EE 10 21 [some (.ref x), l1, l2, l3] (.ref x :: st) M := e_ld d10_20 rfl rfl rfl rfl rfl rfl
theorem d10_21 : decode (cod 10) 21 = .ok (.bipush 57, 2) := by decide +kernel
theorem s10_21 {M : Mm} {st : List Value} {l0 l1 l2 l3 : Option Value} : EE 10 21 [l0, l1, l2, l3] st M = EE 10 23 [l0, l1, l2, l3] (.int (nI 57) :: st) M := e_bip d10_21 k_bip_57
theorem d10_23 : decode (cod 10) 23 = .ok (.invokevirtual 83, 3) := by decide +kernel
theorem s10_23 {l0 l1 l2 l3 : Option Value} {a : Nat} {M : Mm} {b0 : Int32} {st : List Value} (hl : st.length ≤ 4) (ho : isO "HandoverDesk$Pad" M.1 a = true) : EE 10 23 [l0, l1, l2, l3] (.int b0 :: .ref a :: st) M = (FF 9 (.ref a :: [.int b0]) M).bind (fun z => EE 10 26 [l0, l1, l2, l3] (psh z.1 st) z.2) := e_calv (av := [.int b0]) d10_23 c0_83 rfl rfl rfl r10_9 rfl hl ho
theorem d10_26 : decode (cod 10) 26 = .ok (.istore_n 3, 1) := by decide +kernel
theorem s10_26 {M : Mm} {st : List Value} {l0 l1 l2 l3 : Option Value} {x : Int32} : EE 10 26 [l0, l1, l2, l3] (.int x :: st) M = EE 10 27 [l0, l1, cln l2, some (.int x)] st M := e_st1 d10_26 rfl rfl rfl rfl rfl rfl rfl (Nat.le_of_ble_eq_true rfl) rfl
theorem d10_27 : decode (cod 10) 27 = .ok (.iload_n 3, 1) := by decide +kernel
theorem s10_27 {M : Mm} {st : List Value} {l0 l1 l2 : Option Value} {x : Int32} : EE 10 27 [l0, l1, l2, some (.int x)] st M = EE 10 28 [l0, l1, l2, some (.int x)] (.int x :: st) M := e_ld d10_27 rfl rfl rfl rfl rfl rfl
theorem d10_28 : decode (cod 10) 28 = .ok (.ifCond .ge 5, 3) := by decide +kernel
theorem s10_28 {M : Mm} {st : List Value} {l0 l1 l2 l3 : Option Value} {x : Int32} : EE 10 28 [l0, l1, l2, l3] (.int x :: st) M = if 0 ≤ x then EE 10 33 [l0, l1, l2, l3] st M else EE 10 31 [l0, l1, l2, l3] st M := e_ge0 d10_28 (by decide)
theorem d10_31 : decode (cod 10) 31 = .ok (.iload_n 1, 1) := by decide +kernel
theorem s10_31 {M : Mm} {st : List Value} {l0 l2 l3 : Option Value} {x : Int32} : EE 10 31 [l0, some (.int x), l2, l3] st M = EE 10 32 [l0, some (.int x), l2, l3] (.int x :: st) M := e_ld d10_31 rfl rfl rfl rfl rfl rfl
theorem d10_32 : decode (cod 10) 32 = .ok (.ireturn, 1) := by decide +kernel
theorem s10_32 {M : Mm} {l0 l1 l2 l3 : Option Value} {v : Int32} : EE 10 32 [l0, l1, l2, l3] [.int v] M = some (some (.int v), M) := e_iret d10_32 rfl rfl
theorem d10_33 : decode (cod 10) 33 = .ok (.iload_n 1, 1) := by decide +kernel
theorem s10_33 {M : Mm} {st : List Value} {l0 l2 l3 : Option Value} {x : Int32} : EE 10 33 [l0, some (.int x), l2, l3] st M = EE 10 34 [l0, some (.int x), l2, l3] (.int x :: st) M := e_ld d10_33 rfl rfl rfl rfl rfl rfl
theorem d10_34 : decode (cod 10) 34 = .ok (.bipush 10, 2) := by decide +kernel
theorem s10_34 {M : Mm} {st : List Value} {l0 l1 l2 l3 : Option Value} : EE 10 34 [l0, l1, l2, l3] st M = EE 10 36 [l0, l1, l2, l3] (.int (nI 10) :: st) M := e_bip d10_34 k_bip_10
theorem d10_36 : decode (cod 10) 36 = .ok (.imul, 1) := by decide +kernel
theorem s10_36 {M : Mm} {st : List Value} {l0 l1 l2 l3 : Option Value} {x y : Int32} : EE 10 36 [l0, l1, l2, l3] (.int y :: .int x :: st) M = EE 10 37 [l0, l1, l2, l3] (.int (x * y) :: st) M := e_II d10_36 rfl rfl rfl rfl rfl rfl
theorem d10_37 : decode (cod 10) 37 = .ok (.iload_n 3, 1) := by decide +kernel
theorem s10_37 {M : Mm} {st : List Value} {l0 l1 l2 : Option Value} {x : Int32} : EE 10 37 [l0, l1, l2, some (.int x)] st M = EE 10 38 [l0, l1, l2, some (.int x)] (.int x :: st) M := e_ld d10_37 rfl rfl rfl rfl rfl rfl
theorem d10_38 : decode (cod 10) 38 = .ok (.iadd, 1) := by decide +kernel
theorem s10_38 {M : Mm} {st : List Value} {l0 l1 l2 l3 : Option Value} {x y : Int32} : EE 10 38 [l0, l1, l2, l3] (.int y :: .int x :: st) M = EE 10 39 [l0, l1, l2, l3] (.int (x + y) :: st) M := e_II d10_38 rfl rfl rfl rfl rfl rfl
theorem d10_39 : decode (cod 10) 39 = .ok (.istore_n 1, 1) := by decide +kernel
theorem s10_39 {M : Mm} {st : List Value} {l0 l1 l2 l3 : Option Value} {x : Int32} : EE 10 39 [l0, l1, l2, l3] (.int x :: st) M = EE 10 40 [cln l0, some (.int x), l2, l3] st M := e_st1 d10_39 rfl rfl rfl rfl rfl rfl rfl (Nat.le_of_ble_eq_true rfl) rfl
theorem d10_40 : decode (cod 10) 40 = .ok (.iinc 2 1, 3) := by decide +kernel
theorem s10_40 {M : Mm} {st : List Value} {l0 l1 l3 : Option Value} {x : Int32} : EE 10 40 [l0, l1, some (.int x), l3] st M = EE 10 43 [l0, cln l1, some (.int (x + nI 1)), l3] st M := e_iinc d10_40 rfl (congrArg (fun z => x + z) k_inc_1) rfl
theorem d10_43 : decode (cod 10) 43 = .ok (.goto (-28), 3) := by decide +kernel
theorem s10_43 {M : Mm} {st : List Value} {l0 l1 l2 l3 : Option Value} : EE 10 43 [l0, l1, l2, l3] st M = EE 10 15 [l0, l1, l2, l3] st M := e_goto d10_43 (by decide)
theorem d10_46 : decode (cod 10) 46 = .ok (.iload_n 1, 1) := by decide +kernel
theorem s10_46 {M : Mm} {st : List Value} {l0 l2 l3 : Option Value} {x : Int32} : EE 10 46 [l0, some (.int x), l2, l3] st M = EE 10 47 [l0, some (.int x), l2, l3] (.int x :: st) M := e_ld d10_46 rfl rfl rfl rfl rfl rfl
theorem d10_47 : decode (cod 10) 47 = .ok (.ireturn, 1) := by decide +kernel
theorem s10_47 {M : Mm} {l0 l1 l2 l3 : Option Value} {v : Int32} : EE 10 47 [l0, l1, l2, l3] [.int v] M = some (some (.int v), M) := e_iret d10_47 rfl rfl
theorem FE10 {a : Nat} {M : Mm} : FF 10 [.ref a] M = EE 10 0 [some (.ref a), none, none, none] [] M := FF_eq 10 _ _ (Nat.le_of_ble_eq_true rfl)
theorem d11_0 : decode (cod 11) 0 = .ok (.aload_n 0, 1) := by decide +kernel
theorem s11_0 {M : Mm} {st : List Value} {l1 : Option Value} {x : Nat} : EE 11 0 [some (.ref x), l1] st M = EE 11 1 [some (.ref x), l1] (.ref x :: st) M := e_ld d11_0 rfl rfl rfl rfl rfl rfl
theorem d11_1 : decode (cod 11) 1 = .ok (.invokespecial 3, 3) := by decide +kernel
theorem s11_1 {M : Mm} {l0 l1 : Option Value} {a : Nat} {st : List Value} (hl : st.length ≤ 4) : EE 11 1 [l0, l1] (.ref a :: st) M = EE 11 4 [l0, l1] st M := e_oin d11_1 t1_3 t1_3n (by decide) hl
theorem d11_4 : decode (cod 11) 4 = .ok (.aload_n 0, 1) := by decide +kernel
theorem s11_4 {M : Mm} {st : List Value} {l1 : Option Value} {x : Nat} : EE 11 4 [some (.ref x), l1] st M = EE 11 5 [some (.ref x), l1] (.ref x :: st) M := e_ld d11_4 rfl rfl rfl rfl rfl rfl
theorem d11_5 : decode (cod 11) 5 = .ok (.bipush 6, 2) := by decide +kernel
theorem s11_5 {M : Mm} {st : List Value} {l0 l1 : Option Value} : EE 11 5 [l0, l1] st M = EE 11 7 [l0, l1] (.int (nI 6) :: st) M := e_bip d11_5 k_bip_6
theorem d11_7 : decode (cod 11) 7 = .ok (.newarray .int, 2) := by decide +kernel
theorem s11_7 {st : List Value} {l0 l1 : Option Value} {w : Int32} {M : Mm} (h : M.1 < 210 ∧ kd (adr M.1) = 5 ∧ ¬ w < 0 ∧ w.toNatClampNeg = ln (adr M.1)) : EE 11 7 [l0, l1] (.int w :: st) M = EE 11 9 [l0, l1] (.ref (adr M.1) :: st) (bn M) := e_newa d11_7 h
theorem d11_9 : decode (cod 11) 9 = .ok (.putfield 9, 3) := by decide +kernel
theorem s11_9 {n : Nat} {I : Nat → Nat → Int32} {R : Nat → Nat → Option Nat} {st : List Value} {l0 l1 : Option Value} {a : Nat} {v : Value} : EE 11 9 [l0, l1] (v :: .ref a :: st) (n, I, R) = (pfI n I R 1 0 a v).bind (fun z => EE 11 12 [l0, l1] st (n, z.1, z.2)) := e_putf d11_9 f1_9 rfl rfl (Or.inl ⟨rfl, Or.inl rfl⟩)
theorem d11_12 : decode (cod 11) 12 = .ok (.getstatic 15, 3) := by decide +kernel
theorem s11_12 {M : Mm} {st : List Value} {l0 l1 : Option Value} : EE 11 12 [l0, l1] st M = EE 11 15 [l0, l1] (.ref 1001 :: st) M := e_gets d11_12 g1_15 (by decide)
theorem d11_15 : decode (cod 11) 15 = .ok (.iconst 0, 1) := by decide +kernel
theorem s11_15 {M : Mm} {st : List Value} {l0 l1 : Option Value} : EE 11 15 [l0, l1] st M = EE 11 16 [l0, l1] (.int (nI 0) :: st) M := e_con d11_15 k_con_0
theorem d11_16 : decode (cod 11) 16 = .ok (.aload_n 0, 1) := by decide +kernel
theorem s11_16 {M : Mm} {st : List Value} {l1 : Option Value} {x : Nat} : EE 11 16 [some (.ref x), l1] st M = EE 11 17 [some (.ref x), l1] (.ref x :: st) M := e_ld d11_16 rfl rfl rfl rfl rfl rfl
theorem d11_17 : decode (cod 11) 17 = .ok (.getfield 9, 3) := by decide +kernel
theorem s11_17 {n : Nat} {I : Nat → Nat → Int32} {R : Nat → Nat → Option Nat} {st : List Value} {l0 l1 : Option Value} {a : Nat} : EE 11 17 [l0, l1] (.ref a :: st) (n, I, R) = (gfI n I R 1 0 a).bind (fun z => EE 11 20 [l0, l1] (z :: st) (n, I, R)) := e_getf d11_17 f1_9 rfl rfl
theorem d11_20 : decode (cod 11) 20 = .ok (.iconst 0, 1) := by decide +kernel
theorem s11_20 {M : Mm} {st : List Value} {l0 l1 : Option Value} : EE 11 20 [l0, l1] st M = EE 11 21 [l0, l1] (.int (nI 0) :: st) M := e_con d11_20 k_con_0
theorem d11_21 : decode (cod 11) 21 = .ok (.bipush 6, 2) := by decide +kernel
theorem s11_21 {M : Mm} {st : List Value} {l0 l1 : Option Value} : EE 11 21 [l0, l1] st M = EE 11 23 [l0, l1] (.int (nI 6) :: st) M := e_bip d11_21 k_bip_6
theorem d11_23 : decode (cod 11) 23 = .ok (.invokestatic 18, 3) := by decide +kernel
theorem s11_23 {n : Nat} {I : Nat → Nat → Int32} {R : Nat → Nat → Option Nat} {l0 l1 : Option Value} {a0 a1 : Nat} {sp dp w : Int32} {st : List Value} (hl : st.length ≤ 4) : EE 11 23 [l0, l1] (.int w :: .int dp :: .ref a1 :: .int sp :: .ref a0 :: st) (n, I, R) = (cpI n I a0 sp a1 dp w).bind (fun z => EE 11 26 [l0, l1] st (n, z, R)) := e_cpy d11_23 t1_18 t1_18n (by decide) hl
theorem d11_26 : decode (cod 11) 26 = .ok (.aload_n 0, 1) := by decide +kernel
theorem s11_26 {M : Mm} {st : List Value} {l1 : Option Value} {x : Nat} : EE 11 26 [some (.ref x), l1] st M = EE 11 27 [some (.ref x), l1] (.ref x :: st) M := e_ld d11_26 rfl rfl rfl rfl rfl rfl
theorem d11_27 : decode (cod 11) 27 = .ok (.bipush 12, 2) := by decide +kernel
theorem s11_27 {M : Mm} {st : List Value} {l0 l1 : Option Value} : EE 11 27 [l0, l1] st M = EE 11 29 [l0, l1] (.int (nI 12) :: st) M := e_bip d11_27 k_bip_12
theorem d11_29 : decode (cod 11) 29 = .ok (.newarray .int, 2) := by decide +kernel
theorem s11_29 {st : List Value} {l0 l1 : Option Value} {w : Int32} {M : Mm} (h : M.1 < 210 ∧ kd (adr M.1) = 5 ∧ ¬ w < 0 ∧ w.toNatClampNeg = ln (adr M.1)) : EE 11 29 [l0, l1] (.int w :: st) M = EE 11 31 [l0, l1] (.ref (adr M.1) :: st) (bn M) := e_newa d11_29 h
theorem d11_31 : decode (cod 11) 31 = .ok (.putfield 24, 3) := by decide +kernel
theorem s11_31 {n : Nat} {I : Nat → Nat → Int32} {R : Nat → Nat → Option Nat} {st : List Value} {l0 l1 : Option Value} {a : Nat} {v : Value} : EE 11 31 [l0, l1] (v :: .ref a :: st) (n, I, R) = (pfI n I R 1 1 a v).bind (fun z => EE 11 34 [l0, l1] st (n, z.1, z.2)) := e_putf d11_31 f1_24 rfl rfl (Or.inl ⟨rfl, Or.inl rfl⟩)
theorem d11_34 : decode (cod 11) 34 = .ok (.aload_n 0, 1) := by decide +kernel
theorem s11_34 {M : Mm} {st : List Value} {l1 : Option Value} {x : Nat} : EE 11 34 [some (.ref x), l1] st M = EE 11 35 [some (.ref x), l1] (.ref x :: st) M := e_ld d11_34 rfl rfl rfl rfl rfl rfl
theorem d11_35 : decode (cod 11) 35 = .ok (.bipush 12, 2) := by decide +kernel
theorem s11_35 {M : Mm} {st : List Value} {l0 l1 : Option Value} : EE 11 35 [l0, l1] st M = EE 11 37 [l0, l1] (.int (nI 12) :: st) M := e_bip d11_35 k_bip_12
theorem d11_37 : decode (cod 11) 37 = .ok (.newarray .int, 2) := by decide +kernel
theorem s11_37 {st : List Value} {l0 l1 : Option Value} {w : Int32} {M : Mm} (h : M.1 < 210 ∧ kd (adr M.1) = 5 ∧ ¬ w < 0 ∧ w.toNatClampNeg = ln (adr M.1)) : EE 11 37 [l0, l1] (.int w :: st) M = EE 11 39 [l0, l1] (.ref (adr M.1) :: st) (bn M) := e_newa d11_37 h
theorem d11_39 : decode (cod 11) 39 = .ok (.putfield 27, 3) := by decide +kernel
theorem s11_39 {n : Nat} {I : Nat → Nat → Int32} {R : Nat → Nat → Option Nat} {st : List Value} {l0 l1 : Option Value} {a : Nat} {v : Value} : EE 11 39 [l0, l1] (v :: .ref a :: st) (n, I, R) = (pfI n I R 1 2 a v).bind (fun z => EE 11 42 [l0, l1] st (n, z.1, z.2)) := e_putf d11_39 f1_27 rfl rfl (Or.inl ⟨rfl, Or.inl rfl⟩)
theorem d11_42 : decode (cod 11) 42 = .ok (.iconst 0, 1) := by decide +kernel
theorem s11_42 {M : Mm} {st : List Value} {l0 l1 : Option Value} : EE 11 42 [l0, l1] st M = EE 11 43 [l0, l1] (.int (nI 0) :: st) M := e_con d11_42 k_con_0
theorem d11_43 : decode (cod 11) 43 = .ok (.istore_n 1, 1) := by decide +kernel
theorem s11_43 {M : Mm} {st : List Value} {l0 l1 : Option Value} {x : Int32} : EE 11 43 [l0, l1] (.int x :: st) M = EE 11 44 [cln l0, some (.int x)] st M := e_st1 d11_43 rfl rfl rfl rfl rfl rfl rfl (Nat.le_of_ble_eq_true rfl) rfl
theorem d11_44 : decode (cod 11) 44 = .ok (.iload_n 1, 1) := by decide +kernel
theorem s11_44 {M : Mm} {st : List Value} {l0 : Option Value} {x : Int32} : EE 11 44 [l0, some (.int x)] st M = EE 11 45 [l0, some (.int x)] (.int x :: st) M := e_ld d11_44 rfl rfl rfl rfl rfl rfl
theorem d11_45 : decode (cod 11) 45 = .ok (.bipush 12, 2) := by decide +kernel
theorem s11_45 {M : Mm} {st : List Value} {l0 l1 : Option Value} : EE 11 45 [l0, l1] st M = EE 11 47 [l0, l1] (.int (nI 12) :: st) M := e_bip d11_45 k_bip_12
theorem d11_47 : decode (cod 11) 47 = .ok (.if_icmp .ge 26, 3) := by decide +kernel
theorem s11_47 {M : Mm} {st : List Value} {l0 l1 : Option Value} {x y : Int32} : EE 11 47 [l0, l1] (.int y :: .int x :: st) M = if y ≤ x then EE 11 73 [l0, l1] st M else EE 11 50 [l0, l1] st M := e_cge d11_47 (by decide)
theorem d11_50 : decode (cod 11) 50 = .ok (.aload_n 0, 1) := by decide +kernel
theorem s11_50 {M : Mm} {st : List Value} {l1 : Option Value} {x : Nat} : EE 11 50 [some (.ref x), l1] st M = EE 11 51 [some (.ref x), l1] (.ref x :: st) M := e_ld d11_50 rfl rfl rfl rfl rfl rfl
theorem d11_51 : decode (cod 11) 51 = .ok (.getfield 24, 3) := by decide +kernel
theorem s11_51 {n : Nat} {I : Nat → Nat → Int32} {R : Nat → Nat → Option Nat} {st : List Value} {l0 l1 : Option Value} {a : Nat} : EE 11 51 [l0, l1] (.ref a :: st) (n, I, R) = (gfI n I R 1 1 a).bind (fun z => EE 11 54 [l0, l1] (z :: st) (n, I, R)) := e_getf d11_51 f1_24 rfl rfl
theorem d11_54 : decode (cod 11) 54 = .ok (.iload_n 1, 1) := by decide +kernel
theorem s11_54 {M : Mm} {st : List Value} {l0 : Option Value} {x : Int32} : EE 11 54 [l0, some (.int x)] st M = EE 11 55 [l0, some (.int x)] (.int x :: st) M := e_ld d11_54 rfl rfl rfl rfl rfl rfl
theorem d11_55 : decode (cod 11) 55 = .ok (.iload_n 1, 1) := by decide +kernel
theorem s11_55 {M : Mm} {st : List Value} {l0 : Option Value} {x : Int32} : EE 11 55 [l0, some (.int x)] st M = EE 11 56 [l0, some (.int x)] (.int x :: st) M := e_ld d11_55 rfl rfl rfl rfl rfl rfl
theorem d11_56 : decode (cod 11) 56 = .ok (.iconst 3, 1) := by decide +kernel
theorem s11_56 {M : Mm} {st : List Value} {l0 l1 : Option Value} : EE 11 56 [l0, l1] st M = EE 11 57 [l0, l1] (.int (nI 3) :: st) M := e_con d11_56 k_con_3
theorem d11_57 : decode (cod 11) 57 = .ok (.irem, 1) := by decide +kernel
theorem s11_57 {M : Mm} {st : List Value} {l0 l1 : Option Value} {x y : Nat} (h1 : x < 2 ^ 31) (h2 : 0 < y) (h3 : y < 2 ^ 31) : EE 11 57 [l0, l1] (.int (nI y) :: .int (nI x) :: st) M = EE 11 58 [l0, l1] (.int (nI (x % y)) :: st) M := e_remN d11_57 h1 h2 h3
theorem d11_58 : decode (cod 11) 58 = .ok (.iastore, 1) := by decide +kernel
theorem s11_58 {n : Nat} {I : Nat → Nat → Int32} {R : Nat → Nat → Option Nat} {st : List Value} {l0 l1 : Option Value} {j x : Int32} {a : Nat} (h : acI 5 n a j) : EE 11 58 [l0, l1] (.int x :: .int j :: .ref a :: st) (n, I, R) = EE 11 59 [l0, l1] st (n, wI I a j.toNatClampNeg x, R) := e_iast d11_58 h
theorem d11_59 : decode (cod 11) 59 = .ok (.aload_n 0, 1) := by decide +kernel
theorem s11_59 {M : Mm} {st : List Value} {l1 : Option Value} {x : Nat} : EE 11 59 [some (.ref x), l1] st M = EE 11 60 [some (.ref x), l1] (.ref x :: st) M := e_ld d11_59 rfl rfl rfl rfl rfl rfl
theorem d11_60 : decode (cod 11) 60 = .ok (.getfield 27, 3) := by decide +kernel
theorem s11_60 {n : Nat} {I : Nat → Nat → Int32} {R : Nat → Nat → Option Nat} {st : List Value} {l0 l1 : Option Value} {a : Nat} : EE 11 60 [l0, l1] (.ref a :: st) (n, I, R) = (gfI n I R 1 2 a).bind (fun z => EE 11 63 [l0, l1] (z :: st) (n, I, R)) := e_getf d11_60 f1_27 rfl rfl
theorem d11_63 : decode (cod 11) 63 = .ok (.iload_n 1, 1) := by decide +kernel
theorem s11_63 {M : Mm} {st : List Value} {l0 : Option Value} {x : Int32} : EE 11 63 [l0, some (.int x)] st M = EE 11 64 [l0, some (.int x)] (.int x :: st) M := e_ld d11_63 rfl rfl rfl rfl rfl rfl
theorem d11_64 : decode (cod 11) 64 = .ok (.bipush 10, 2) := by decide +kernel
theorem s11_64 {M : Mm} {st : List Value} {l0 l1 : Option Value} : EE 11 64 [l0, l1] st M = EE 11 66 [l0, l1] (.int (nI 10) :: st) M := e_bip d11_64 k_bip_10
theorem d11_66 : decode (cod 11) 66 = .ok (.iastore, 1) := by decide +kernel
theorem s11_66 {n : Nat} {I : Nat → Nat → Int32} {R : Nat → Nat → Option Nat} {st : List Value} {l0 l1 : Option Value} {j x : Int32} {a : Nat} (h : acI 5 n a j) : EE 11 66 [l0, l1] (.int x :: .int j :: .ref a :: st) (n, I, R) = EE 11 67 [l0, l1] st (n, wI I a j.toNatClampNeg x, R) := e_iast d11_66 h
theorem d11_67 : decode (cod 11) 67 = .ok (.iinc 1 1, 3) := by decide +kernel
theorem s11_67 {M : Mm} {st : List Value} {l0 : Option Value} {x : Int32} : EE 11 67 [l0, some (.int x)] st M = EE 11 70 [cln l0, some (.int (x + nI 1))] st M := e_iinc d11_67 rfl (congrArg (fun z => x + z) k_inc_1) rfl
theorem d11_70 : decode (cod 11) 70 = .ok (.goto (-26), 3) := by decide +kernel
theorem s11_70 {M : Mm} {st : List Value} {l0 l1 : Option Value} : EE 11 70 [l0, l1] st M = EE 11 44 [l0, l1] st M := e_goto d11_70 (by decide)
theorem d11_73 : decode (cod 11) 73 = .ok (.aload_n 0, 1) := by decide +kernel
theorem s11_73 {M : Mm} {st : List Value} {l1 : Option Value} {x : Nat} : EE 11 73 [some (.ref x), l1] st M = EE 11 74 [some (.ref x), l1] (.ref x :: st) M := e_ld d11_73 rfl rfl rfl rfl rfl rfl
theorem d11_74 : decode (cod 11) 74 = .ok (.bipush 6, 2) := by decide +kernel
theorem s11_74 {M : Mm} {st : List Value} {l0 l1 : Option Value} : EE 11 74 [l0, l1] st M = EE 11 76 [l0, l1] (.int (nI 6) :: st) M := e_bip d11_74 k_bip_6
theorem d11_76 : decode (cod 11) 76 = .ok (.bipush 10, 2) := by decide +kernel
theorem s11_76 {M : Mm} {st : List Value} {l0 l1 : Option Value} : EE 11 76 [l0, l1] st M = EE 11 78 [l0, l1] (.int (nI 10) :: st) M := e_bip d11_76 k_bip_10
theorem d11_78 : decode (cod 11) 78 = .ok (.multianewarray 30 2, 4) := by decide +kernel
theorem s11_78 {st : List Value} {l0 l1 : Option Value} {M : Mm} (h : M.1 + 7 ≤ 210 ∧ kd (adr M.1) = 9 ∧ adr M.1 + 6 < 208 ∧ (List.range 6).all (fun j => adr (M.1 + 1 + j) == adr M.1 + 1 + j) = true) : EE 11 78 [l0, l1] (.int (nI 10) :: .int (nI 6) :: st) M = EE 11 82 [l0, l1] (.ref (adr M.1) :: st) (mnM M) := e_mna d11_78 rfl h
theorem d11_82 : decode (cod 11) 82 = .ok (.putfield 32, 3) := by decide +kernel
theorem s11_82 {n : Nat} {I : Nat → Nat → Int32} {R : Nat → Nat → Option Nat} {st : List Value} {l0 l1 : Option Value} {a : Nat} {v : Value} : EE 11 82 [l0, l1] (v :: .ref a :: st) (n, I, R) = (pfI n I R 1 3 a v).bind (fun z => EE 11 85 [l0, l1] st (n, z.1, z.2)) := e_putf d11_82 f1_32 rfl rfl (Or.inl ⟨rfl, Or.inl rfl⟩)
theorem d11_85 : decode (cod 11) 85 = .ok (.aload_n 0, 1) := by decide +kernel
theorem s11_85 {M : Mm} {st : List Value} {l1 : Option Value} {x : Nat} : EE 11 85 [some (.ref x), l1] st M = EE 11 86 [some (.ref x), l1] (.ref x :: st) M := e_ld d11_85 rfl rfl rfl rfl rfl rfl
theorem d11_86 : decode (cod 11) 86 = .ok (.bipush 10, 2) := by decide +kernel
theorem s11_86 {M : Mm} {st : List Value} {l0 l1 : Option Value} : EE 11 86 [l0, l1] st M = EE 11 88 [l0, l1] (.int (nI 10) :: st) M := e_bip d11_86 k_bip_10
theorem d11_88 : decode (cod 11) 88 = .ok (.newarray .int, 2) := by decide +kernel
theorem s11_88 {st : List Value} {l0 l1 : Option Value} {w : Int32} {M : Mm} (h : M.1 < 210 ∧ kd (adr M.1) = 5 ∧ ¬ w < 0 ∧ w.toNatClampNeg = ln (adr M.1)) : EE 11 88 [l0, l1] (.int w :: st) M = EE 11 90 [l0, l1] (.ref (adr M.1) :: st) (bn M) := e_newa d11_88 h
theorem d11_90 : decode (cod 11) 90 = .ok (.putfield 35, 3) := by decide +kernel
theorem s11_90 {n : Nat} {I : Nat → Nat → Int32} {R : Nat → Nat → Option Nat} {st : List Value} {l0 l1 : Option Value} {a : Nat} {v : Value} : EE 11 90 [l0, l1] (v :: .ref a :: st) (n, I, R) = (pfI n I R 1 4 a v).bind (fun z => EE 11 93 [l0, l1] st (n, z.1, z.2)) := e_putf d11_90 f1_35 rfl rfl (Or.inl ⟨rfl, Or.inl rfl⟩)
theorem d11_93 : decode (cod 11) 93 = .ok (.aload_n 0, 1) := by decide +kernel
theorem s11_93 {M : Mm} {st : List Value} {l1 : Option Value} {x : Nat} : EE 11 93 [some (.ref x), l1] st M = EE 11 94 [some (.ref x), l1] (.ref x :: st) M := e_ld d11_93 rfl rfl rfl rfl rfl rfl
theorem d11_94 : decode (cod 11) 94 = .ok (.bipush 10, 2) := by decide +kernel
theorem s11_94 {M : Mm} {st : List Value} {l0 l1 : Option Value} : EE 11 94 [l0, l1] st M = EE 11 96 [l0, l1] (.int (nI 10) :: st) M := e_bip d11_94 k_bip_10
theorem d11_96 : decode (cod 11) 96 = .ok (.newarray .int, 2) := by decide +kernel
theorem s11_96 {st : List Value} {l0 l1 : Option Value} {w : Int32} {M : Mm} (h : M.1 < 210 ∧ kd (adr M.1) = 5 ∧ ¬ w < 0 ∧ w.toNatClampNeg = ln (adr M.1)) : EE 11 96 [l0, l1] (.int w :: st) M = EE 11 98 [l0, l1] (.ref (adr M.1) :: st) (bn M) := e_newa d11_96 h
theorem d11_98 : decode (cod 11) 98 = .ok (.putfield 38, 3) := by decide +kernel
theorem s11_98 {n : Nat} {I : Nat → Nat → Int32} {R : Nat → Nat → Option Nat} {st : List Value} {l0 l1 : Option Value} {a : Nat} {v : Value} : EE 11 98 [l0, l1] (v :: .ref a :: st) (n, I, R) = (pfI n I R 1 5 a v).bind (fun z => EE 11 101 [l0, l1] st (n, z.1, z.2)) := e_putf d11_98 f1_38 rfl rfl (Or.inl ⟨rfl, Or.inl rfl⟩)
theorem d11_101 : decode (cod 11) 101 = .ok (.aload_n 0, 1) := by decide +kernel
theorem s11_101 {M : Mm} {st : List Value} {l1 : Option Value} {x : Nat} : EE 11 101 [some (.ref x), l1] st M = EE 11 102 [some (.ref x), l1] (.ref x :: st) M := e_ld d11_101 rfl rfl rfl rfl rfl rfl
theorem d11_102 : decode (cod 11) 102 = .ok (.bipush 10, 2) := by decide +kernel
theorem s11_102 {M : Mm} {st : List Value} {l0 l1 : Option Value} : EE 11 102 [l0, l1] st M = EE 11 104 [l0, l1] (.int (nI 10) :: st) M := e_bip d11_102 k_bip_10
theorem d11_104 : decode (cod 11) 104 = .ok (.newarray .int, 2) := by decide +kernel
theorem s11_104 {st : List Value} {l0 l1 : Option Value} {w : Int32} {M : Mm} (h : M.1 < 210 ∧ kd (adr M.1) = 5 ∧ ¬ w < 0 ∧ w.toNatClampNeg = ln (adr M.1)) : EE 11 104 [l0, l1] (.int w :: st) M = EE 11 106 [l0, l1] (.ref (adr M.1) :: st) (bn M) := e_newa d11_104 h
theorem d11_106 : decode (cod 11) 106 = .ok (.putfield 41, 3) := by decide +kernel
theorem s11_106 {n : Nat} {I : Nat → Nat → Int32} {R : Nat → Nat → Option Nat} {st : List Value} {l0 l1 : Option Value} {a : Nat} {v : Value} : EE 11 106 [l0, l1] (v :: .ref a :: st) (n, I, R) = (pfI n I R 1 6 a v).bind (fun z => EE 11 109 [l0, l1] st (n, z.1, z.2)) := e_putf d11_106 f1_41 rfl rfl (Or.inl ⟨rfl, Or.inl rfl⟩)
theorem d11_109 : decode (cod 11) 109 = .ok (.aload_n 0, 1) := by decide +kernel
theorem s11_109 {M : Mm} {st : List Value} {l1 : Option Value} {x : Nat} : EE 11 109 [some (.ref x), l1] st M = EE 11 110 [some (.ref x), l1] (.ref x :: st) M := e_ld d11_109 rfl rfl rfl rfl rfl rfl
theorem d11_110 : decode (cod 11) 110 = .ok (.bipush 10, 2) := by decide +kernel
theorem s11_110 {M : Mm} {st : List Value} {l0 l1 : Option Value} : EE 11 110 [l0, l1] st M = EE 11 112 [l0, l1] (.int (nI 10) :: st) M := e_bip d11_110 k_bip_10
theorem d11_112 : decode (cod 11) 112 = .ok (.newarray .int, 2) := by decide +kernel
theorem s11_112 {st : List Value} {l0 l1 : Option Value} {w : Int32} {M : Mm} (h : M.1 < 210 ∧ kd (adr M.1) = 5 ∧ ¬ w < 0 ∧ w.toNatClampNeg = ln (adr M.1)) : EE 11 112 [l0, l1] (.int w :: st) M = EE 11 114 [l0, l1] (.ref (adr M.1) :: st) (bn M) := e_newa d11_112 h
theorem d11_114 : decode (cod 11) 114 = .ok (.putfield 44, 3) := by decide +kernel
theorem s11_114 {n : Nat} {I : Nat → Nat → Int32} {R : Nat → Nat → Option Nat} {st : List Value} {l0 l1 : Option Value} {a : Nat} {v : Value} : EE 11 114 [l0, l1] (v :: .ref a :: st) (n, I, R) = (pfI n I R 1 7 a v).bind (fun z => EE 11 117 [l0, l1] st (n, z.1, z.2)) := e_putf d11_114 f1_44 rfl rfl (Or.inl ⟨rfl, Or.inl rfl⟩)
theorem d11_117 : decode (cod 11) 117 = .ok (.return_, 1) := by decide +kernel
theorem s11_117 {M : Mm} {l0 l1 : Option Value} : EE 11 117 [l0, l1] [] M = some (none, M) := e_vret d11_117 rfl
theorem FE11 {a : Nat} {M : Mm} : FF 11 [.ref a] M = EE 11 0 [some (.ref a), none] [] M := FF_eq 11 _ _ (Nat.le_of_ble_eq_true rfl)
theorem d12_0 : decode (cod 12) 0 = .ok (.aload_n 1, 1) := by decide +kernel
theorem s12_0 {M : Mm} {st : List Value} {l0 l2 : Option Value} {x : Nat} : EE 12 0 [l0, some (.ref x), l2] st M = EE 12 1 [l0, some (.ref x), l2] (.ref x :: st) M := e_ld d12_0 rfl rfl rfl rfl rfl rfl
theorem d12_1 : decode (cod 12) 1 = .ok (.getfield 9, 3) := by decide +kernel
theorem s12_1 {n : Nat} {I : Nat → Nat → Int32} {R : Nat → Nat → Option Nat} {st : List Value} {l0 l1 l2 : Option Value} {a : Nat} : EE 12 1 [l0, l1, l2] (.ref a :: st) (n, I, R) = (gfI n I R 1 0 a).bind (fun z => EE 12 4 [l0, l1, l2] (z :: st) (n, I, R)) := e_getf d12_1 f1_9 rfl rfl
theorem d12_4 : decode (cod 12) 4 = .ok (.iconst 0, 1) := by decide +kernel
theorem s12_4 {M : Mm} {st : List Value} {l0 l1 l2 : Option Value} : EE 12 4 [l0, l1, l2] st M = EE 12 5 [l0, l1, l2] (.int (nI 0) :: st) M := e_con d12_4 k_con_0
theorem d12_5 : decode (cod 12) 5 = .ok (.aload_n 0, 1) := by decide +kernel
theorem s12_5 {M : Mm} {st : List Value} {l1 l2 : Option Value} {x : Nat} : EE 12 5 [some (.ref x), l1, l2] st M = EE 12 6 [some (.ref x), l1, l2] (.ref x :: st) M := e_ld d12_5 rfl rfl rfl rfl rfl rfl
theorem d12_6 : decode (cod 12) 6 = .ok (.getfield 9, 3) := by decide +kernel
theorem s12_6 {n : Nat} {I : Nat → Nat → Int32} {R : Nat → Nat → Option Nat} {st : List Value} {l0 l1 l2 : Option Value} {a : Nat} : EE 12 6 [l0, l1, l2] (.ref a :: st) (n, I, R) = (gfI n I R 1 0 a).bind (fun z => EE 12 9 [l0, l1, l2] (z :: st) (n, I, R)) := e_getf d12_6 f1_9 rfl rfl
theorem d12_9 : decode (cod 12) 9 = .ok (.iconst 0, 1) := by decide +kernel
theorem s12_9 {M : Mm} {st : List Value} {l0 l1 l2 : Option Value} : EE 12 9 [l0, l1, l2] st M = EE 12 10 [l0, l1, l2] (.int (nI 0) :: st) M := e_con d12_9 k_con_0
theorem d12_10 : decode (cod 12) 10 = .ok (.bipush 6, 2) := by decide +kernel
theorem s12_10 {M : Mm} {st : List Value} {l0 l1 l2 : Option Value} : EE 12 10 [l0, l1, l2] st M = EE 12 12 [l0, l1, l2] (.int (nI 6) :: st) M := e_bip d12_10 k_bip_6
theorem d12_12 : decode (cod 12) 12 = .ok (.invokestatic 18, 3) := by decide +kernel
theorem s12_12 {n : Nat} {I : Nat → Nat → Int32} {R : Nat → Nat → Option Nat} {l0 l1 l2 : Option Value} {a0 a1 : Nat} {sp dp w : Int32} {st : List Value} (hl : st.length ≤ 4) : EE 12 12 [l0, l1, l2] (.int w :: .int dp :: .ref a1 :: .int sp :: .ref a0 :: st) (n, I, R) = (cpI n I a0 sp a1 dp w).bind (fun z => EE 12 15 [l0, l1, l2] st (n, z, R)) := e_cpy d12_12 t1_18 t1_18n (by decide) hl
theorem d12_15 : decode (cod 12) 15 = .ok (.aload_n 1, 1) := by decide +kernel
theorem s12_15 {M : Mm} {st : List Value} {l0 l2 : Option Value} {x : Nat} : EE 12 15 [l0, some (.ref x), l2] st M = EE 12 16 [l0, some (.ref x), l2] (.ref x :: st) M := e_ld d12_15 rfl rfl rfl rfl rfl rfl
theorem d12_16 : decode (cod 12) 16 = .ok (.getfield 24, 3) := by decide +kernel
theorem s12_16 {n : Nat} {I : Nat → Nat → Int32} {R : Nat → Nat → Option Nat} {st : List Value} {l0 l1 l2 : Option Value} {a : Nat} : EE 12 16 [l0, l1, l2] (.ref a :: st) (n, I, R) = (gfI n I R 1 1 a).bind (fun z => EE 12 19 [l0, l1, l2] (z :: st) (n, I, R)) := e_getf d12_16 f1_24 rfl rfl
theorem d12_19 : decode (cod 12) 19 = .ok (.iconst 0, 1) := by decide +kernel
theorem s12_19 {M : Mm} {st : List Value} {l0 l1 l2 : Option Value} : EE 12 19 [l0, l1, l2] st M = EE 12 20 [l0, l1, l2] (.int (nI 0) :: st) M := e_con d12_19 k_con_0
theorem d12_20 : decode (cod 12) 20 = .ok (.aload_n 0, 1) := by decide +kernel
theorem s12_20 {M : Mm} {st : List Value} {l1 l2 : Option Value} {x : Nat} : EE 12 20 [some (.ref x), l1, l2] st M = EE 12 21 [some (.ref x), l1, l2] (.ref x :: st) M := e_ld d12_20 rfl rfl rfl rfl rfl rfl
theorem d12_21 : decode (cod 12) 21 = .ok (.getfield 24, 3) := by decide +kernel
theorem s12_21 {n : Nat} {I : Nat → Nat → Int32} {R : Nat → Nat → Option Nat} {st : List Value} {l0 l1 l2 : Option Value} {a : Nat} : EE 12 21 [l0, l1, l2] (.ref a :: st) (n, I, R) = (gfI n I R 1 1 a).bind (fun z => EE 12 24 [l0, l1, l2] (z :: st) (n, I, R)) := e_getf d12_21 f1_24 rfl rfl
theorem d12_24 : decode (cod 12) 24 = .ok (.iconst 0, 1) := by decide +kernel
theorem s12_24 {M : Mm} {st : List Value} {l0 l1 l2 : Option Value} : EE 12 24 [l0, l1, l2] st M = EE 12 25 [l0, l1, l2] (.int (nI 0) :: st) M := e_con d12_24 k_con_0
theorem d12_25 : decode (cod 12) 25 = .ok (.bipush 12, 2) := by decide +kernel
theorem s12_25 {M : Mm} {st : List Value} {l0 l1 l2 : Option Value} : EE 12 25 [l0, l1, l2] st M = EE 12 27 [l0, l1, l2] (.int (nI 12) :: st) M := e_bip d12_25 k_bip_12
theorem d12_27 : decode (cod 12) 27 = .ok (.invokestatic 18, 3) := by decide +kernel
theorem s12_27 {n : Nat} {I : Nat → Nat → Int32} {R : Nat → Nat → Option Nat} {l0 l1 l2 : Option Value} {a0 a1 : Nat} {sp dp w : Int32} {st : List Value} (hl : st.length ≤ 4) : EE 12 27 [l0, l1, l2] (.int w :: .int dp :: .ref a1 :: .int sp :: .ref a0 :: st) (n, I, R) = (cpI n I a0 sp a1 dp w).bind (fun z => EE 12 30 [l0, l1, l2] st (n, z, R)) := e_cpy d12_27 t1_18 t1_18n (by decide) hl
theorem d12_30 : decode (cod 12) 30 = .ok (.aload_n 1, 1) := by decide +kernel
theorem s12_30 {M : Mm} {st : List Value} {l0 l2 : Option Value} {x : Nat} : EE 12 30 [l0, some (.ref x), l2] st M = EE 12 31 [l0, some (.ref x), l2] (.ref x :: st) M := e_ld d12_30 rfl rfl rfl rfl rfl rfl
theorem d12_31 : decode (cod 12) 31 = .ok (.getfield 27, 3) := by decide +kernel
theorem s12_31 {n : Nat} {I : Nat → Nat → Int32} {R : Nat → Nat → Option Nat} {st : List Value} {l0 l1 l2 : Option Value} {a : Nat} : EE 12 31 [l0, l1, l2] (.ref a :: st) (n, I, R) = (gfI n I R 1 2 a).bind (fun z => EE 12 34 [l0, l1, l2] (z :: st) (n, I, R)) := e_getf d12_31 f1_27 rfl rfl
theorem d12_34 : decode (cod 12) 34 = .ok (.iconst 0, 1) := by decide +kernel
theorem s12_34 {M : Mm} {st : List Value} {l0 l1 l2 : Option Value} : EE 12 34 [l0, l1, l2] st M = EE 12 35 [l0, l1, l2] (.int (nI 0) :: st) M := e_con d12_34 k_con_0
theorem d12_35 : decode (cod 12) 35 = .ok (.aload_n 0, 1) := by decide +kernel
theorem s12_35 {M : Mm} {st : List Value} {l1 l2 : Option Value} {x : Nat} : EE 12 35 [some (.ref x), l1, l2] st M = EE 12 36 [some (.ref x), l1, l2] (.ref x :: st) M := e_ld d12_35 rfl rfl rfl rfl rfl rfl
theorem d12_36 : decode (cod 12) 36 = .ok (.getfield 27, 3) := by decide +kernel
theorem s12_36 {n : Nat} {I : Nat → Nat → Int32} {R : Nat → Nat → Option Nat} {st : List Value} {l0 l1 l2 : Option Value} {a : Nat} : EE 12 36 [l0, l1, l2] (.ref a :: st) (n, I, R) = (gfI n I R 1 2 a).bind (fun z => EE 12 39 [l0, l1, l2] (z :: st) (n, I, R)) := e_getf d12_36 f1_27 rfl rfl
theorem d12_39 : decode (cod 12) 39 = .ok (.iconst 0, 1) := by decide +kernel
theorem s12_39 {M : Mm} {st : List Value} {l0 l1 l2 : Option Value} : EE 12 39 [l0, l1, l2] st M = EE 12 40 [l0, l1, l2] (.int (nI 0) :: st) M := e_con d12_39 k_con_0
theorem d12_40 : decode (cod 12) 40 = .ok (.bipush 12, 2) := by decide +kernel
theorem s12_40 {M : Mm} {st : List Value} {l0 l1 l2 : Option Value} : EE 12 40 [l0, l1, l2] st M = EE 12 42 [l0, l1, l2] (.int (nI 12) :: st) M := e_bip d12_40 k_bip_12
theorem d12_42 : decode (cod 12) 42 = .ok (.invokestatic 18, 3) := by decide +kernel
theorem s12_42 {n : Nat} {I : Nat → Nat → Int32} {R : Nat → Nat → Option Nat} {l0 l1 l2 : Option Value} {a0 a1 : Nat} {sp dp w : Int32} {st : List Value} (hl : st.length ≤ 4) : EE 12 42 [l0, l1, l2] (.int w :: .int dp :: .ref a1 :: .int sp :: .ref a0 :: st) (n, I, R) = (cpI n I a0 sp a1 dp w).bind (fun z => EE 12 45 [l0, l1, l2] st (n, z, R)) := e_cpy d12_42 t1_18 t1_18n (by decide) hl
theorem d12_45 : decode (cod 12) 45 = .ok (.iconst 0, 1) := by decide +kernel
theorem s12_45 {M : Mm} {st : List Value} {l0 l1 l2 : Option Value} : EE 12 45 [l0, l1, l2] st M = EE 12 46 [l0, l1, l2] (.int (nI 0) :: st) M := e_con d12_45 k_con_0
theorem d12_46 : decode (cod 12) 46 = .ok (.istore_n 2, 1) := by decide +kernel
theorem s12_46 {M : Mm} {st : List Value} {l0 l1 l2 : Option Value} {x : Int32} : EE 12 46 [l0, l1, l2] (.int x :: st) M = EE 12 47 [l0, cln l1, some (.int x)] st M := e_st1 d12_46 rfl rfl rfl rfl rfl rfl rfl (Nat.le_of_ble_eq_true rfl) rfl
theorem d12_47 : decode (cod 12) 47 = .ok (.iload_n 2, 1) := by decide +kernel
theorem s12_47 {M : Mm} {st : List Value} {l0 l1 : Option Value} {x : Int32} : EE 12 47 [l0, l1, some (.int x)] st M = EE 12 48 [l0, l1, some (.int x)] (.int x :: st) M := e_ld d12_47 rfl rfl rfl rfl rfl rfl
theorem d12_48 : decode (cod 12) 48 = .ok (.bipush 6, 2) := by decide +kernel
theorem s12_48 {M : Mm} {st : List Value} {l0 l1 l2 : Option Value} : EE 12 48 [l0, l1, l2] st M = EE 12 50 [l0, l1, l2] (.int (nI 6) :: st) M := e_bip d12_48 k_bip_6
theorem d12_50 : decode (cod 12) 50 = .ok (.if_icmp .ge 28, 3) := by decide +kernel
theorem s12_50 {M : Mm} {st : List Value} {l0 l1 l2 : Option Value} {x y : Int32} : EE 12 50 [l0, l1, l2] (.int y :: .int x :: st) M = if y ≤ x then EE 12 78 [l0, l1, l2] st M else EE 12 53 [l0, l1, l2] st M := e_cge d12_50 (by decide)
theorem d12_53 : decode (cod 12) 53 = .ok (.aload_n 1, 1) := by decide +kernel
theorem s12_53 {M : Mm} {st : List Value} {l0 l2 : Option Value} {x : Nat} : EE 12 53 [l0, some (.ref x), l2] st M = EE 12 54 [l0, some (.ref x), l2] (.ref x :: st) M := e_ld d12_53 rfl rfl rfl rfl rfl rfl
theorem d12_54 : decode (cod 12) 54 = .ok (.getfield 32, 3) := by decide +kernel
theorem s12_54 {n : Nat} {I : Nat → Nat → Int32} {R : Nat → Nat → Option Nat} {st : List Value} {l0 l1 l2 : Option Value} {a : Nat} : EE 12 54 [l0, l1, l2] (.ref a :: st) (n, I, R) = (gfI n I R 1 3 a).bind (fun z => EE 12 57 [l0, l1, l2] (z :: st) (n, I, R)) := e_getf d12_54 f1_32 rfl rfl
theorem d12_57 : decode (cod 12) 57 = .ok (.iload_n 2, 1) := by decide +kernel
theorem s12_57 {M : Mm} {st : List Value} {l0 l1 : Option Value} {x : Int32} : EE 12 57 [l0, l1, some (.int x)] st M = EE 12 58 [l0, l1, some (.int x)] (.int x :: st) M := e_ld d12_57 rfl rfl rfl rfl rfl rfl
theorem d12_58 : decode (cod 12) 58 = .ok (.aaload, 1) := by decide +kernel
theorem s12_58 {n : Nat} {I : Nat → Nat → Int32} {R : Nat → Nat → Option Nat} {st : List Value} {l0 l1 l2 : Option Value} {j : Int32} {a : Nat} (h : 8 ≤ kd a ∧ a < 1000 ∧ pos a < n ∧ inb j (ln a)) : EE 12 58 [l0, l1, l2] (.int j :: .ref a :: st) (n, I, R) = EE 12 59 [l0, l1, l2] (va_rf (R a j.toNatClampNeg) :: st) (n, I, R) := e_aald d12_58 h
theorem d12_59 : decode (cod 12) 59 = .ok (.iconst 0, 1) := by decide +kernel
theorem s12_59 {M : Mm} {st : List Value} {l0 l1 l2 : Option Value} : EE 12 59 [l0, l1, l2] st M = EE 12 60 [l0, l1, l2] (.int (nI 0) :: st) M := e_con d12_59 k_con_0
theorem d12_60 : decode (cod 12) 60 = .ok (.aload_n 0, 1) := by decide +kernel
theorem s12_60 {M : Mm} {st : List Value} {l1 l2 : Option Value} {x : Nat} : EE 12 60 [some (.ref x), l1, l2] st M = EE 12 61 [some (.ref x), l1, l2] (.ref x :: st) M := e_ld d12_60 rfl rfl rfl rfl rfl rfl
theorem d12_61 : decode (cod 12) 61 = .ok (.getfield 32, 3) := by decide +kernel
theorem s12_61 {n : Nat} {I : Nat → Nat → Int32} {R : Nat → Nat → Option Nat} {st : List Value} {l0 l1 l2 : Option Value} {a : Nat} : EE 12 61 [l0, l1, l2] (.ref a :: st) (n, I, R) = (gfI n I R 1 3 a).bind (fun z => EE 12 64 [l0, l1, l2] (z :: st) (n, I, R)) := e_getf d12_61 f1_32 rfl rfl
theorem d12_64 : decode (cod 12) 64 = .ok (.iload_n 2, 1) := by decide +kernel
theorem s12_64 {M : Mm} {st : List Value} {l0 l1 : Option Value} {x : Int32} : EE 12 64 [l0, l1, some (.int x)] st M = EE 12 65 [l0, l1, some (.int x)] (.int x :: st) M := e_ld d12_64 rfl rfl rfl rfl rfl rfl
theorem d12_65 : decode (cod 12) 65 = .ok (.aaload, 1) := by decide +kernel
theorem s12_65 {n : Nat} {I : Nat → Nat → Int32} {R : Nat → Nat → Option Nat} {st : List Value} {l0 l1 l2 : Option Value} {j : Int32} {a : Nat} (h : 8 ≤ kd a ∧ a < 1000 ∧ pos a < n ∧ inb j (ln a)) : EE 12 65 [l0, l1, l2] (.int j :: .ref a :: st) (n, I, R) = EE 12 66 [l0, l1, l2] (va_rf (R a j.toNatClampNeg) :: st) (n, I, R) := e_aald d12_65 h
theorem d12_66 : decode (cod 12) 66 = .ok (.iconst 0, 1) := by decide +kernel
theorem s12_66 {M : Mm} {st : List Value} {l0 l1 l2 : Option Value} : EE 12 66 [l0, l1, l2] st M = EE 12 67 [l0, l1, l2] (.int (nI 0) :: st) M := e_con d12_66 k_con_0
theorem d12_67 : decode (cod 12) 67 = .ok (.bipush 10, 2) := by decide +kernel
theorem s12_67 {M : Mm} {st : List Value} {l0 l1 l2 : Option Value} : EE 12 67 [l0, l1, l2] st M = EE 12 69 [l0, l1, l2] (.int (nI 10) :: st) M := e_bip d12_67 k_bip_10
theorem d12_69 : decode (cod 12) 69 = .ok (.invokestatic 18, 3) := by decide +kernel
theorem s12_69 {n : Nat} {I : Nat → Nat → Int32} {R : Nat → Nat → Option Nat} {l0 l1 l2 : Option Value} {a0 a1 : Nat} {sp dp w : Int32} {st : List Value} (hl : st.length ≤ 4) : EE 12 69 [l0, l1, l2] (.int w :: .int dp :: .ref a1 :: .int sp :: .ref a0 :: st) (n, I, R) = (cpI n I a0 sp a1 dp w).bind (fun z => EE 12 72 [l0, l1, l2] st (n, z, R)) := e_cpy d12_69 t1_18 t1_18n (by decide) hl
theorem d12_72 : decode (cod 12) 72 = .ok (.iinc 2 1, 3) := by decide +kernel
theorem s12_72 {M : Mm} {st : List Value} {l0 l1 : Option Value} {x : Int32} : EE 12 72 [l0, l1, some (.int x)] st M = EE 12 75 [l0, cln l1, some (.int (x + nI 1))] st M := e_iinc d12_72 rfl (congrArg (fun z => x + z) k_inc_1) rfl
theorem d12_75 : decode (cod 12) 75 = .ok (.goto (-28), 3) := by decide +kernel
theorem s12_75 {M : Mm} {st : List Value} {l0 l1 l2 : Option Value} : EE 12 75 [l0, l1, l2] st M = EE 12 47 [l0, l1, l2] st M := e_goto d12_75 (by decide)
theorem d12_78 : decode (cod 12) 78 = .ok (.aload_n 1, 1) := by decide +kernel
theorem s12_78 {M : Mm} {st : List Value} {l0 l2 : Option Value} {x : Nat} : EE 12 78 [l0, some (.ref x), l2] st M = EE 12 79 [l0, some (.ref x), l2] (.ref x :: st) M := e_ld d12_78 rfl rfl rfl rfl rfl rfl
theorem d12_79 : decode (cod 12) 79 = .ok (.getfield 35, 3) := by decide +kernel
theorem s12_79 {n : Nat} {I : Nat → Nat → Int32} {R : Nat → Nat → Option Nat} {st : List Value} {l0 l1 l2 : Option Value} {a : Nat} : EE 12 79 [l0, l1, l2] (.ref a :: st) (n, I, R) = (gfI n I R 1 4 a).bind (fun z => EE 12 82 [l0, l1, l2] (z :: st) (n, I, R)) := e_getf d12_79 f1_35 rfl rfl
theorem d12_82 : decode (cod 12) 82 = .ok (.iconst 0, 1) := by decide +kernel
theorem s12_82 {M : Mm} {st : List Value} {l0 l1 l2 : Option Value} : EE 12 82 [l0, l1, l2] st M = EE 12 83 [l0, l1, l2] (.int (nI 0) :: st) M := e_con d12_82 k_con_0
theorem d12_83 : decode (cod 12) 83 = .ok (.aload_n 0, 1) := by decide +kernel
theorem s12_83 {M : Mm} {st : List Value} {l1 l2 : Option Value} {x : Nat} : EE 12 83 [some (.ref x), l1, l2] st M = EE 12 84 [some (.ref x), l1, l2] (.ref x :: st) M := e_ld d12_83 rfl rfl rfl rfl rfl rfl
theorem d12_84 : decode (cod 12) 84 = .ok (.getfield 35, 3) := by decide +kernel
theorem s12_84 {n : Nat} {I : Nat → Nat → Int32} {R : Nat → Nat → Option Nat} {st : List Value} {l0 l1 l2 : Option Value} {a : Nat} : EE 12 84 [l0, l1, l2] (.ref a :: st) (n, I, R) = (gfI n I R 1 4 a).bind (fun z => EE 12 87 [l0, l1, l2] (z :: st) (n, I, R)) := e_getf d12_84 f1_35 rfl rfl
theorem d12_87 : decode (cod 12) 87 = .ok (.iconst 0, 1) := by decide +kernel
theorem s12_87 {M : Mm} {st : List Value} {l0 l1 l2 : Option Value} : EE 12 87 [l0, l1, l2] st M = EE 12 88 [l0, l1, l2] (.int (nI 0) :: st) M := e_con d12_87 k_con_0
theorem d12_88 : decode (cod 12) 88 = .ok (.bipush 10, 2) := by decide +kernel
theorem s12_88 {M : Mm} {st : List Value} {l0 l1 l2 : Option Value} : EE 12 88 [l0, l1, l2] st M = EE 12 90 [l0, l1, l2] (.int (nI 10) :: st) M := e_bip d12_88 k_bip_10
theorem d12_90 : decode (cod 12) 90 = .ok (.invokestatic 18, 3) := by decide +kernel
theorem s12_90 {n : Nat} {I : Nat → Nat → Int32} {R : Nat → Nat → Option Nat} {l0 l1 l2 : Option Value} {a0 a1 : Nat} {sp dp w : Int32} {st : List Value} (hl : st.length ≤ 4) : EE 12 90 [l0, l1, l2] (.int w :: .int dp :: .ref a1 :: .int sp :: .ref a0 :: st) (n, I, R) = (cpI n I a0 sp a1 dp w).bind (fun z => EE 12 93 [l0, l1, l2] st (n, z, R)) := e_cpy d12_90 t1_18 t1_18n (by decide) hl
theorem d12_93 : decode (cod 12) 93 = .ok (.aload_n 1, 1) := by decide +kernel
theorem s12_93 {M : Mm} {st : List Value} {l0 l2 : Option Value} {x : Nat} : EE 12 93 [l0, some (.ref x), l2] st M = EE 12 94 [l0, some (.ref x), l2] (.ref x :: st) M := e_ld d12_93 rfl rfl rfl rfl rfl rfl
theorem d12_94 : decode (cod 12) 94 = .ok (.getfield 38, 3) := by decide +kernel
theorem s12_94 {n : Nat} {I : Nat → Nat → Int32} {R : Nat → Nat → Option Nat} {st : List Value} {l0 l1 l2 : Option Value} {a : Nat} : EE 12 94 [l0, l1, l2] (.ref a :: st) (n, I, R) = (gfI n I R 1 5 a).bind (fun z => EE 12 97 [l0, l1, l2] (z :: st) (n, I, R)) := e_getf d12_94 f1_38 rfl rfl
theorem d12_97 : decode (cod 12) 97 = .ok (.iconst 0, 1) := by decide +kernel
theorem s12_97 {M : Mm} {st : List Value} {l0 l1 l2 : Option Value} : EE 12 97 [l0, l1, l2] st M = EE 12 98 [l0, l1, l2] (.int (nI 0) :: st) M := e_con d12_97 k_con_0
theorem d12_98 : decode (cod 12) 98 = .ok (.aload_n 0, 1) := by decide +kernel
theorem s12_98 {M : Mm} {st : List Value} {l1 l2 : Option Value} {x : Nat} : EE 12 98 [some (.ref x), l1, l2] st M = EE 12 99 [some (.ref x), l1, l2] (.ref x :: st) M := e_ld d12_98 rfl rfl rfl rfl rfl rfl
theorem d12_99 : decode (cod 12) 99 = .ok (.getfield 38, 3) := by decide +kernel
theorem s12_99 {n : Nat} {I : Nat → Nat → Int32} {R : Nat → Nat → Option Nat} {st : List Value} {l0 l1 l2 : Option Value} {a : Nat} : EE 12 99 [l0, l1, l2] (.ref a :: st) (n, I, R) = (gfI n I R 1 5 a).bind (fun z => EE 12 102 [l0, l1, l2] (z :: st) (n, I, R)) := e_getf d12_99 f1_38 rfl rfl
theorem d12_102 : decode (cod 12) 102 = .ok (.iconst 0, 1) := by decide +kernel
theorem s12_102 {M : Mm} {st : List Value} {l0 l1 l2 : Option Value} : EE 12 102 [l0, l1, l2] st M = EE 12 103 [l0, l1, l2] (.int (nI 0) :: st) M := e_con d12_102 k_con_0
theorem d12_103 : decode (cod 12) 103 = .ok (.bipush 10, 2) := by decide +kernel
theorem s12_103 {M : Mm} {st : List Value} {l0 l1 l2 : Option Value} : EE 12 103 [l0, l1, l2] st M = EE 12 105 [l0, l1, l2] (.int (nI 10) :: st) M := e_bip d12_103 k_bip_10
theorem d12_105 : decode (cod 12) 105 = .ok (.invokestatic 18, 3) := by decide +kernel
theorem s12_105 {n : Nat} {I : Nat → Nat → Int32} {R : Nat → Nat → Option Nat} {l0 l1 l2 : Option Value} {a0 a1 : Nat} {sp dp w : Int32} {st : List Value} (hl : st.length ≤ 4) : EE 12 105 [l0, l1, l2] (.int w :: .int dp :: .ref a1 :: .int sp :: .ref a0 :: st) (n, I, R) = (cpI n I a0 sp a1 dp w).bind (fun z => EE 12 108 [l0, l1, l2] st (n, z, R)) := e_cpy d12_105 t1_18 t1_18n (by decide) hl
theorem d12_108 : decode (cod 12) 108 = .ok (.aload_n 1, 1) := by decide +kernel
theorem s12_108 {M : Mm} {st : List Value} {l0 l2 : Option Value} {x : Nat} : EE 12 108 [l0, some (.ref x), l2] st M = EE 12 109 [l0, some (.ref x), l2] (.ref x :: st) M := e_ld d12_108 rfl rfl rfl rfl rfl rfl
theorem d12_109 : decode (cod 12) 109 = .ok (.getfield 41, 3) := by decide +kernel
theorem s12_109 {n : Nat} {I : Nat → Nat → Int32} {R : Nat → Nat → Option Nat} {st : List Value} {l0 l1 l2 : Option Value} {a : Nat} : EE 12 109 [l0, l1, l2] (.ref a :: st) (n, I, R) = (gfI n I R 1 6 a).bind (fun z => EE 12 112 [l0, l1, l2] (z :: st) (n, I, R)) := e_getf d12_109 f1_41 rfl rfl
theorem d12_112 : decode (cod 12) 112 = .ok (.iconst 0, 1) := by decide +kernel
theorem s12_112 {M : Mm} {st : List Value} {l0 l1 l2 : Option Value} : EE 12 112 [l0, l1, l2] st M = EE 12 113 [l0, l1, l2] (.int (nI 0) :: st) M := e_con d12_112 k_con_0
theorem d12_113 : decode (cod 12) 113 = .ok (.aload_n 0, 1) := by decide +kernel
theorem s12_113 {M : Mm} {st : List Value} {l1 l2 : Option Value} {x : Nat} : EE 12 113 [some (.ref x), l1, l2] st M = EE 12 114 [some (.ref x), l1, l2] (.ref x :: st) M := e_ld d12_113 rfl rfl rfl rfl rfl rfl
theorem d12_114 : decode (cod 12) 114 = .ok (.getfield 41, 3) := by decide +kernel
theorem s12_114 {n : Nat} {I : Nat → Nat → Int32} {R : Nat → Nat → Option Nat} {st : List Value} {l0 l1 l2 : Option Value} {a : Nat} : EE 12 114 [l0, l1, l2] (.ref a :: st) (n, I, R) = (gfI n I R 1 6 a).bind (fun z => EE 12 117 [l0, l1, l2] (z :: st) (n, I, R)) := e_getf d12_114 f1_41 rfl rfl
theorem d12_117 : decode (cod 12) 117 = .ok (.iconst 0, 1) := by decide +kernel
theorem s12_117 {M : Mm} {st : List Value} {l0 l1 l2 : Option Value} : EE 12 117 [l0, l1, l2] st M = EE 12 118 [l0, l1, l2] (.int (nI 0) :: st) M := e_con d12_117 k_con_0
theorem d12_118 : decode (cod 12) 118 = .ok (.bipush 10, 2) := by decide +kernel
theorem s12_118 {M : Mm} {st : List Value} {l0 l1 l2 : Option Value} : EE 12 118 [l0, l1, l2] st M = EE 12 120 [l0, l1, l2] (.int (nI 10) :: st) M := e_bip d12_118 k_bip_10
theorem d12_120 : decode (cod 12) 120 = .ok (.invokestatic 18, 3) := by decide +kernel
theorem s12_120 {n : Nat} {I : Nat → Nat → Int32} {R : Nat → Nat → Option Nat} {l0 l1 l2 : Option Value} {a0 a1 : Nat} {sp dp w : Int32} {st : List Value} (hl : st.length ≤ 4) : EE 12 120 [l0, l1, l2] (.int w :: .int dp :: .ref a1 :: .int sp :: .ref a0 :: st) (n, I, R) = (cpI n I a0 sp a1 dp w).bind (fun z => EE 12 123 [l0, l1, l2] st (n, z, R)) := e_cpy d12_120 t1_18 t1_18n (by decide) hl
theorem d12_123 : decode (cod 12) 123 = .ok (.aload_n 1, 1) := by decide +kernel
theorem s12_123 {M : Mm} {st : List Value} {l0 l2 : Option Value} {x : Nat} : EE 12 123 [l0, some (.ref x), l2] st M = EE 12 124 [l0, some (.ref x), l2] (.ref x :: st) M := e_ld d12_123 rfl rfl rfl rfl rfl rfl
theorem d12_124 : decode (cod 12) 124 = .ok (.getfield 44, 3) := by decide +kernel
theorem s12_124 {n : Nat} {I : Nat → Nat → Int32} {R : Nat → Nat → Option Nat} {st : List Value} {l0 l1 l2 : Option Value} {a : Nat} : EE 12 124 [l0, l1, l2] (.ref a :: st) (n, I, R) = (gfI n I R 1 7 a).bind (fun z => EE 12 127 [l0, l1, l2] (z :: st) (n, I, R)) := e_getf d12_124 f1_44 rfl rfl
theorem d12_127 : decode (cod 12) 127 = .ok (.iconst 0, 1) := by decide +kernel
theorem s12_127 {M : Mm} {st : List Value} {l0 l1 l2 : Option Value} : EE 12 127 [l0, l1, l2] st M = EE 12 128 [l0, l1, l2] (.int (nI 0) :: st) M := e_con d12_127 k_con_0
theorem d12_128 : decode (cod 12) 128 = .ok (.aload_n 0, 1) := by decide +kernel
theorem s12_128 {M : Mm} {st : List Value} {l1 l2 : Option Value} {x : Nat} : EE 12 128 [some (.ref x), l1, l2] st M = EE 12 129 [some (.ref x), l1, l2] (.ref x :: st) M := e_ld d12_128 rfl rfl rfl rfl rfl rfl
theorem d12_129 : decode (cod 12) 129 = .ok (.getfield 44, 3) := by decide +kernel
theorem s12_129 {n : Nat} {I : Nat → Nat → Int32} {R : Nat → Nat → Option Nat} {st : List Value} {l0 l1 l2 : Option Value} {a : Nat} : EE 12 129 [l0, l1, l2] (.ref a :: st) (n, I, R) = (gfI n I R 1 7 a).bind (fun z => EE 12 132 [l0, l1, l2] (z :: st) (n, I, R)) := e_getf d12_129 f1_44 rfl rfl
theorem d12_132 : decode (cod 12) 132 = .ok (.iconst 0, 1) := by decide +kernel
theorem s12_132 {M : Mm} {st : List Value} {l0 l1 l2 : Option Value} : EE 12 132 [l0, l1, l2] st M = EE 12 133 [l0, l1, l2] (.int (nI 0) :: st) M := e_con d12_132 k_con_0
theorem d12_133 : decode (cod 12) 133 = .ok (.bipush 10, 2) := by decide +kernel
theorem s12_133 {M : Mm} {st : List Value} {l0 l1 l2 : Option Value} : EE 12 133 [l0, l1, l2] st M = EE 12 135 [l0, l1, l2] (.int (nI 10) :: st) M := e_bip d12_133 k_bip_10
theorem d12_135 : decode (cod 12) 135 = .ok (.invokestatic 18, 3) := by decide +kernel
theorem s12_135 {n : Nat} {I : Nat → Nat → Int32} {R : Nat → Nat → Option Nat} {l0 l1 l2 : Option Value} {a0 a1 : Nat} {sp dp w : Int32} {st : List Value} (hl : st.length ≤ 4) : EE 12 135 [l0, l1, l2] (.int w :: .int dp :: .ref a1 :: .int sp :: .ref a0 :: st) (n, I, R) = (cpI n I a0 sp a1 dp w).bind (fun z => EE 12 138 [l0, l1, l2] st (n, z, R)) := e_cpy d12_135 t1_18 t1_18n (by decide) hl
theorem d12_138 : decode (cod 12) 138 = .ok (.aload_n 0, 1) := by decide +kernel
theorem s12_138 {M : Mm} {st : List Value} {l1 l2 : Option Value} {x : Nat} : EE 12 138 [some (.ref x), l1, l2] st M = EE 12 139 [some (.ref x), l1, l2] (.ref x :: st) M := e_ld d12_138 rfl rfl rfl rfl rfl rfl
theorem d12_139 : decode (cod 12) 139 = .ok (.aload_n 1, 1) := by decide +kernel
theorem s12_139 {M : Mm} {st : List Value} {l0 l2 : Option Value} {x : Nat} : EE 12 139 [l0, some (.ref x), l2] st M = EE 12 140 [l0, some (.ref x), l2] (.ref x :: st) M := e_ld d12_139 rfl rfl rfl rfl rfl rfl
theorem d12_140 : decode (cod 12) 140 = .ok (.getfield 47, 3) := by decide +kernel
theorem s12_140 {n : Nat} {I : Nat → Nat → Int32} {R : Nat → Nat → Option Nat} {st : List Value} {l0 l1 l2 : Option Value} {a : Nat} : EE 12 140 [l0, l1, l2] (.ref a :: st) (n, I, R) = (gfI n I R 1 8 a).bind (fun z => EE 12 143 [l0, l1, l2] (z :: st) (n, I, R)) := e_getf d12_140 f1_47 rfl rfl
theorem d12_143 : decode (cod 12) 143 = .ok (.putfield 47, 3) := by decide +kernel
theorem s12_143 {n : Nat} {I : Nat → Nat → Int32} {R : Nat → Nat → Option Nat} {st : List Value} {l0 l1 l2 : Option Value} {a : Nat} {v : Value} : EE 12 143 [l0, l1, l2] (v :: .ref a :: st) (n, I, R) = (pfI n I R 1 8 a v).bind (fun z => EE 12 146 [l0, l1, l2] st (n, z.1, z.2)) := e_putf d12_143 f1_47 rfl rfl (Or.inr rfl)
theorem d12_146 : decode (cod 12) 146 = .ok (.aload_n 0, 1) := by decide +kernel
theorem s12_146 {M : Mm} {st : List Value} {l1 l2 : Option Value} {x : Nat} : EE 12 146 [some (.ref x), l1, l2] st M = EE 12 147 [some (.ref x), l1, l2] (.ref x :: st) M := e_ld d12_146 rfl rfl rfl rfl rfl rfl
theorem d12_147 : decode (cod 12) 147 = .ok (.aload_n 1, 1) := by decide +kernel
theorem s12_147 {M : Mm} {st : List Value} {l0 l2 : Option Value} {x : Nat} : EE 12 147 [l0, some (.ref x), l2] st M = EE 12 148 [l0, some (.ref x), l2] (.ref x :: st) M := e_ld d12_147 rfl rfl rfl rfl rfl rfl
theorem d12_148 : decode (cod 12) 148 = .ok (.getfield 51, 3) := by decide +kernel
theorem s12_148 {n : Nat} {I : Nat → Nat → Int32} {R : Nat → Nat → Option Nat} {st : List Value} {l0 l1 l2 : Option Value} {a : Nat} : EE 12 148 [l0, l1, l2] (.ref a :: st) (n, I, R) = (gfI n I R 1 9 a).bind (fun z => EE 12 151 [l0, l1, l2] (z :: st) (n, I, R)) := e_getf d12_148 f1_51 rfl rfl
theorem d12_151 : decode (cod 12) 151 = .ok (.putfield 51, 3) := by decide +kernel
theorem s12_151 {n : Nat} {I : Nat → Nat → Int32} {R : Nat → Nat → Option Nat} {st : List Value} {l0 l1 l2 : Option Value} {a : Nat} {v : Value} : EE 12 151 [l0, l1, l2] (v :: .ref a :: st) (n, I, R) = (pfI n I R 1 9 a v).bind (fun z => EE 12 154 [l0, l1, l2] st (n, z.1, z.2)) := e_putf d12_151 f1_51 rfl rfl (Or.inr rfl)
theorem d12_154 : decode (cod 12) 154 = .ok (.aload_n 0, 1) := by decide +kernel
theorem s12_154 {M : Mm} {st : List Value} {l1 l2 : Option Value} {x : Nat} : EE 12 154 [some (.ref x), l1, l2] st M = EE 12 155 [some (.ref x), l1, l2] (.ref x :: st) M := e_ld d12_154 rfl rfl rfl rfl rfl rfl
theorem d12_155 : decode (cod 12) 155 = .ok (.aload_n 1, 1) := by decide +kernel
theorem s12_155 {M : Mm} {st : List Value} {l0 l2 : Option Value} {x : Nat} : EE 12 155 [l0, some (.ref x), l2] st M = EE 12 156 [l0, some (.ref x), l2] (.ref x :: st) M := e_ld d12_155 rfl rfl rfl rfl rfl rfl
theorem d12_156 : decode (cod 12) 156 = .ok (.getfield 54, 3) := by decide +kernel
theorem s12_156 {n : Nat} {I : Nat → Nat → Int32} {R : Nat → Nat → Option Nat} {st : List Value} {l0 l1 l2 : Option Value} {a : Nat} : EE 12 156 [l0, l1, l2] (.ref a :: st) (n, I, R) = (gfI n I R 1 10 a).bind (fun z => EE 12 159 [l0, l1, l2] (z :: st) (n, I, R)) := e_getf d12_156 f1_54 rfl rfl
theorem d12_159 : decode (cod 12) 159 = .ok (.putfield 54, 3) := by decide +kernel
theorem s12_159 {n : Nat} {I : Nat → Nat → Int32} {R : Nat → Nat → Option Nat} {st : List Value} {l0 l1 l2 : Option Value} {a : Nat} {v : Value} : EE 12 159 [l0, l1, l2] (v :: .ref a :: st) (n, I, R) = (pfI n I R 1 10 a v).bind (fun z => EE 12 162 [l0, l1, l2] st (n, z.1, z.2)) := e_putf d12_159 f1_54 rfl rfl (Or.inr rfl)
theorem d12_162 : decode (cod 12) 162 = .ok (.aload_n 0, 1) := by decide +kernel
theorem s12_162 {M : Mm} {st : List Value} {l1 l2 : Option Value} {x : Nat} : EE 12 162 [some (.ref x), l1, l2] st M = EE 12 163 [some (.ref x), l1, l2] (.ref x :: st) M := e_ld d12_162 rfl rfl rfl rfl rfl rfl
theorem d12_163 : decode (cod 12) 163 = .ok (.aload_n 1, 1) := by decide +kernel
theorem s12_163 {M : Mm} {st : List Value} {l0 l2 : Option Value} {x : Nat} : EE 12 163 [l0, some (.ref x), l2] st M = EE 12 164 [l0, some (.ref x), l2] (.ref x :: st) M := e_ld d12_163 rfl rfl rfl rfl rfl rfl
theorem d12_164 : decode (cod 12) 164 = .ok (.getfield 57, 3) := by decide +kernel
theorem s12_164 {n : Nat} {I : Nat → Nat → Int32} {R : Nat → Nat → Option Nat} {st : List Value} {l0 l1 l2 : Option Value} {a : Nat} : EE 12 164 [l0, l1, l2] (.ref a :: st) (n, I, R) = (gfI n I R 1 11 a).bind (fun z => EE 12 167 [l0, l1, l2] (z :: st) (n, I, R)) := e_getf d12_164 f1_57 rfl rfl
theorem d12_167 : decode (cod 12) 167 = .ok (.putfield 57, 3) := by decide +kernel
theorem s12_167 {n : Nat} {I : Nat → Nat → Int32} {R : Nat → Nat → Option Nat} {st : List Value} {l0 l1 l2 : Option Value} {a : Nat} {v : Value} : EE 12 167 [l0, l1, l2] (v :: .ref a :: st) (n, I, R) = (pfI n I R 1 11 a v).bind (fun z => EE 12 170 [l0, l1, l2] st (n, z.1, z.2)) := e_putf d12_167 f1_57 rfl rfl (Or.inr rfl)
theorem d12_170 : decode (cod 12) 170 = .ok (.aload_n 0, 1) := by decide +kernel
theorem s12_170 {M : Mm} {st : List Value} {l1 l2 : Option Value} {x : Nat} : EE 12 170 [some (.ref x), l1, l2] st M = EE 12 171 [some (.ref x), l1, l2] (.ref x :: st) M := e_ld d12_170 rfl rfl rfl rfl rfl rfl
theorem d12_171 : decode (cod 12) 171 = .ok (.aload_n 1, 1) := by decide +kernel
theorem s12_171 {M : Mm} {st : List Value} {l0 l2 : Option Value} {x : Nat} : EE 12 171 [l0, some (.ref x), l2] st M = EE 12 172 [l0, some (.ref x), l2] (.ref x :: st) M := e_ld d12_171 rfl rfl rfl rfl rfl rfl
theorem d12_172 : decode (cod 12) 172 = .ok (.getfield 60, 3) := by decide +kernel
theorem s12_172 {n : Nat} {I : Nat → Nat → Int32} {R : Nat → Nat → Option Nat} {st : List Value} {l0 l1 l2 : Option Value} {a : Nat} : EE 12 172 [l0, l1, l2] (.ref a :: st) (n, I, R) = (gfI n I R 1 12 a).bind (fun z => EE 12 175 [l0, l1, l2] (z :: st) (n, I, R)) := e_getf d12_172 f1_60 rfl rfl
theorem d12_175 : decode (cod 12) 175 = .ok (.putfield 60, 3) := by decide +kernel
theorem s12_175 {n : Nat} {I : Nat → Nat → Int32} {R : Nat → Nat → Option Nat} {st : List Value} {l0 l1 l2 : Option Value} {a : Nat} {v : Value} : EE 12 175 [l0, l1, l2] (v :: .ref a :: st) (n, I, R) = (pfI n I R 1 12 a v).bind (fun z => EE 12 178 [l0, l1, l2] st (n, z.1, z.2)) := e_putf d12_175 f1_60 rfl rfl (Or.inr rfl)
theorem d12_178 : decode (cod 12) 178 = .ok (.aload_n 0, 1) := by decide +kernel
theorem s12_178 {M : Mm} {st : List Value} {l1 l2 : Option Value} {x : Nat} : EE 12 178 [some (.ref x), l1, l2] st M = EE 12 179 [some (.ref x), l1, l2] (.ref x :: st) M := e_ld d12_178 rfl rfl rfl rfl rfl rfl
theorem d12_179 : decode (cod 12) 179 = .ok (.aload_n 1, 1) := by decide +kernel
theorem s12_179 {M : Mm} {st : List Value} {l0 l2 : Option Value} {x : Nat} : EE 12 179 [l0, some (.ref x), l2] st M = EE 12 180 [l0, some (.ref x), l2] (.ref x :: st) M := e_ld d12_179 rfl rfl rfl rfl rfl rfl
theorem d12_180 : decode (cod 12) 180 = .ok (.getfield 63, 3) := by decide +kernel
theorem s12_180 {n : Nat} {I : Nat → Nat → Int32} {R : Nat → Nat → Option Nat} {st : List Value} {l0 l1 l2 : Option Value} {a : Nat} : EE 12 180 [l0, l1, l2] (.ref a :: st) (n, I, R) = (gfI n I R 1 13 a).bind (fun z => EE 12 183 [l0, l1, l2] (z :: st) (n, I, R)) := e_getf d12_180 f1_63 rfl rfl
theorem d12_183 : decode (cod 12) 183 = .ok (.putfield 63, 3) := by decide +kernel
theorem s12_183 {n : Nat} {I : Nat → Nat → Int32} {R : Nat → Nat → Option Nat} {st : List Value} {l0 l1 l2 : Option Value} {a : Nat} {v : Value} : EE 12 183 [l0, l1, l2] (v :: .ref a :: st) (n, I, R) = (pfI n I R 1 13 a v).bind (fun z => EE 12 186 [l0, l1, l2] st (n, z.1, z.2)) := e_putf d12_183 f1_63 rfl rfl (Or.inr rfl)
theorem d12_186 : decode (cod 12) 186 = .ok (.aload_n 0, 1) := by decide +kernel
theorem s12_186 {M : Mm} {st : List Value} {l1 l2 : Option Value} {x : Nat} : EE 12 186 [some (.ref x), l1, l2] st M = EE 12 187 [some (.ref x), l1, l2] (.ref x :: st) M := e_ld d12_186 rfl rfl rfl rfl rfl rfl
theorem d12_187 : decode (cod 12) 187 = .ok (.aload_n 1, 1) := by decide +kernel
theorem s12_187 {M : Mm} {st : List Value} {l0 l2 : Option Value} {x : Nat} : EE 12 187 [l0, some (.ref x), l2] st M = EE 12 188 [l0, some (.ref x), l2] (.ref x :: st) M := e_ld d12_187 rfl rfl rfl rfl rfl rfl
theorem d12_188 : decode (cod 12) 188 = .ok (.getfield 66, 3) := by decide +kernel
theorem s12_188 {n : Nat} {I : Nat → Nat → Int32} {R : Nat → Nat → Option Nat} {st : List Value} {l0 l1 l2 : Option Value} {a : Nat} : EE 12 188 [l0, l1, l2] (.ref a :: st) (n, I, R) = (gfI n I R 1 14 a).bind (fun z => EE 12 191 [l0, l1, l2] (z :: st) (n, I, R)) := e_getf d12_188 f1_66 rfl rfl
theorem d12_191 : decode (cod 12) 191 = .ok (.putfield 66, 3) := by decide +kernel
theorem s12_191 {n : Nat} {I : Nat → Nat → Int32} {R : Nat → Nat → Option Nat} {st : List Value} {l0 l1 l2 : Option Value} {a : Nat} {v : Value} : EE 12 191 [l0, l1, l2] (v :: .ref a :: st) (n, I, R) = (pfI n I R 1 14 a v).bind (fun z => EE 12 194 [l0, l1, l2] st (n, z.1, z.2)) := e_putf d12_191 f1_66 rfl rfl (Or.inr rfl)
theorem d12_194 : decode (cod 12) 194 = .ok (.aload_n 0, 1) := by decide +kernel
theorem s12_194 {M : Mm} {st : List Value} {l1 l2 : Option Value} {x : Nat} : EE 12 194 [some (.ref x), l1, l2] st M = EE 12 195 [some (.ref x), l1, l2] (.ref x :: st) M := e_ld d12_194 rfl rfl rfl rfl rfl rfl
theorem d12_195 : decode (cod 12) 195 = .ok (.aload_n 1, 1) := by decide +kernel
theorem s12_195 {M : Mm} {st : List Value} {l0 l2 : Option Value} {x : Nat} : EE 12 195 [l0, some (.ref x), l2] st M = EE 12 196 [l0, some (.ref x), l2] (.ref x :: st) M := e_ld d12_195 rfl rfl rfl rfl rfl rfl
theorem d12_196 : decode (cod 12) 196 = .ok (.getfield 69, 3) := by decide +kernel
theorem s12_196 {n : Nat} {I : Nat → Nat → Int32} {R : Nat → Nat → Option Nat} {st : List Value} {l0 l1 l2 : Option Value} {a : Nat} : EE 12 196 [l0, l1, l2] (.ref a :: st) (n, I, R) = (gfI n I R 1 15 a).bind (fun z => EE 12 199 [l0, l1, l2] (z :: st) (n, I, R)) := e_getf d12_196 f1_69 rfl rfl
theorem d12_199 : decode (cod 12) 199 = .ok (.putfield 69, 3) := by decide +kernel
theorem s12_199 {n : Nat} {I : Nat → Nat → Int32} {R : Nat → Nat → Option Nat} {st : List Value} {l0 l1 l2 : Option Value} {a : Nat} {v : Value} : EE 12 199 [l0, l1, l2] (v :: .ref a :: st) (n, I, R) = (pfI n I R 1 15 a v).bind (fun z => EE 12 202 [l0, l1, l2] st (n, z.1, z.2)) := e_putf d12_199 f1_69 rfl rfl (Or.inr rfl)
theorem d12_202 : decode (cod 12) 202 = .ok (.aload_n 0, 1) := by decide +kernel
theorem s12_202 {M : Mm} {st : List Value} {l1 l2 : Option Value} {x : Nat} : EE 12 202 [some (.ref x), l1, l2] st M = EE 12 203 [some (.ref x), l1, l2] (.ref x :: st) M := e_ld d12_202 rfl rfl rfl rfl rfl rfl
theorem d12_203 : decode (cod 12) 203 = .ok (.aload_n 1, 1) := by decide +kernel
theorem s12_203 {M : Mm} {st : List Value} {l0 l2 : Option Value} {x : Nat} : EE 12 203 [l0, some (.ref x), l2] st M = EE 12 204 [l0, some (.ref x), l2] (.ref x :: st) M := e_ld d12_203 rfl rfl rfl rfl rfl rfl
theorem d12_204 : decode (cod 12) 204 = .ok (.getfield 72, 3) := by decide +kernel
theorem s12_204 {n : Nat} {I : Nat → Nat → Int32} {R : Nat → Nat → Option Nat} {st : List Value} {l0 l1 l2 : Option Value} {a : Nat} : EE 12 204 [l0, l1, l2] (.ref a :: st) (n, I, R) = (gfI n I R 1 16 a).bind (fun z => EE 12 207 [l0, l1, l2] (z :: st) (n, I, R)) := e_getf d12_204 f1_72 rfl rfl
theorem d12_207 : decode (cod 12) 207 = .ok (.putfield 72, 3) := by decide +kernel
theorem s12_207 {n : Nat} {I : Nat → Nat → Int32} {R : Nat → Nat → Option Nat} {st : List Value} {l0 l1 l2 : Option Value} {a : Nat} {v : Value} : EE 12 207 [l0, l1, l2] (v :: .ref a :: st) (n, I, R) = (pfI n I R 1 16 a v).bind (fun z => EE 12 210 [l0, l1, l2] st (n, z.1, z.2)) := e_putf d12_207 f1_72 rfl rfl (Or.inr rfl)
theorem d12_210 : decode (cod 12) 210 = .ok (.return_, 1) := by decide +kernel
theorem s12_210 {M : Mm} {l0 l1 l2 : Option Value} : EE 12 210 [l0, l1, l2] [] M = some (none, M) := e_vret d12_210 rfl
theorem FE12 {a : Nat} {b0 : Nat} {M : Mm} : FF 12 [.ref a, .ref b0] M = EE 12 0 [some (.ref a), some (.ref b0), none] [] M := FF_eq 12 _ _ (Nat.le_of_ble_eq_true rfl)
theorem d13_0 : decode (cod 13) 0 = .ok (.iload_n 1, 1) := by decide +kernel
theorem s13_0 {M : Mm} {st : List Value} {l0 l2 l3 : Option Value} {x : Int32} : EE 13 0 [l0, some (.int x), l2, l3] st M = EE 13 1 [l0, some (.int x), l2, l3] (.int x :: st) M := e_ld d13_0 rfl rfl rfl rfl rfl rfl
theorem d13_1 : decode (cod 13) 1 = .ok (.invokestatic 111, 3) := by decide +kernel
theorem s13_1 {M : Mm} {l0 l1 l2 l3 : Option Value} {b0 : Int32} {st : List Value} (hl : st.length ≤ 4) : EE 13 1 [l0, l1, l2, l3] (.int b0 :: st) M = (FF 45 [.int b0] M).bind (fun z => EE 13 4 [l0, l1, l2, l3] (psh z.1 st) z.2) := e_cals (av := [.int b0]) d13_1 c1_111 (Or.inr rfl) rfl rfl r13_45 rfl hl
theorem d13_4 : decode (cod 13) 4 = .ok (.ifCond .eq 21, 3) := by decide +kernel
theorem s13_4 {M : Mm} {st : List Value} {l0 l1 l2 l3 : Option Value} {x : Int32} : EE 13 4 [l0, l1, l2, l3] (.int x :: st) M = if x = 0 then EE 13 25 [l0, l1, l2, l3] st M else EE 13 7 [l0, l1, l2, l3] st M := e_eq0 d13_4 (by decide)
theorem d13_7 : decode (cod 13) 7 = .ok (.iload_n 2, 1) := by decide +kernel
theorem s13_7 {M : Mm} {st : List Value} {l0 l1 l3 : Option Value} {x : Int32} : EE 13 7 [l0, l1, some (.int x), l3] st M = EE 13 8 [l0, l1, some (.int x), l3] (.int x :: st) M := e_ld d13_7 rfl rfl rfl rfl rfl rfl
theorem d13_8 : decode (cod 13) 8 = .ok (.getstatic 114, 3) := by decide +kernel
theorem s13_8 {M : Mm} {st : List Value} {l0 l1 l2 l3 : Option Value} : EE 13 8 [l0, l1, l2, l3] st M = EE 13 11 [l0, l1, l2, l3] (.ref 1002 :: st) M := e_gets d13_8 g1_114 (by decide)
theorem d13_11 : decode (cod 13) 11 = .ok (.iload_n 1, 1) := by decide +kernel
theorem s13_11 {M : Mm} {st : List Value} {l0 l2 l3 : Option Value} {x : Int32} : EE 13 11 [l0, some (.int x), l2, l3] st M = EE 13 12 [l0, some (.int x), l2, l3] (.int x :: st) M := e_ld d13_11 rfl rfl rfl rfl rfl rfl
theorem d13_12 : decode (cod 13) 12 = .ok (.iaload, 1) := by decide +kernel
theorem s13_12 {n : Nat} {I : Nat → Nat → Int32} {R : Nat → Nat → Option Nat} {st : List Value} {l0 l1 l2 l3 : Option Value} {j : Int32} {a : Nat} : EE 13 12 [l0, l1, l2, l3] (.int j :: .ref a :: st) (n, I, R) = (ardI 5 n I a j).bind (fun z => EE 13 13 [l0, l1, l2, l3] (.int z :: st) (n, I, R)) := e_iald d13_12
theorem d13_13 : decode (cod 13) 13 = .ok (.if_icmp .lt 12, 3) := by decide +kernel
theorem s13_13 {M : Mm} {st : List Value} {l0 l1 l2 l3 : Option Value} {x y : Int32} : EE 13 13 [l0, l1, l2, l3] (.int y :: .int x :: st) M = if x < y then EE 13 25 [l0, l1, l2, l3] st M else EE 13 16 [l0, l1, l2, l3] st M := e_clt d13_13 (by decide)
theorem d13_16 : decode (cod 13) 16 = .ok (.iload_n 2, 1) := by decide +kernel
theorem s13_16 {M : Mm} {st : List Value} {l0 l1 l3 : Option Value} {x : Int32} : EE 13 16 [l0, l1, some (.int x), l3] st M = EE 13 17 [l0, l1, some (.int x), l3] (.int x :: st) M := e_ld d13_16 rfl rfl rfl rfl rfl rfl
theorem d13_17 : decode (cod 13) 17 = .ok (.getstatic 117, 3) := by decide +kernel
theorem s13_17 {M : Mm} {st : List Value} {l0 l1 l2 l3 : Option Value} : EE 13 17 [l0, l1, l2, l3] st M = EE 13 20 [l0, l1, l2, l3] (.ref 1003 :: st) M := e_gets d13_17 g1_117 (by decide)
theorem d13_20 : decode (cod 13) 20 = .ok (.iload_n 1, 1) := by decide +kernel
theorem s13_20 {M : Mm} {st : List Value} {l0 l2 l3 : Option Value} {x : Int32} : EE 13 20 [l0, some (.int x), l2, l3] st M = EE 13 21 [l0, some (.int x), l2, l3] (.int x :: st) M := e_ld d13_20 rfl rfl rfl rfl rfl rfl
theorem d13_21 : decode (cod 13) 21 = .ok (.iaload, 1) := by decide +kernel
theorem s13_21 {n : Nat} {I : Nat → Nat → Int32} {R : Nat → Nat → Option Nat} {st : List Value} {l0 l1 l2 l3 : Option Value} {j : Int32} {a : Nat} : EE 13 21 [l0, l1, l2, l3] (.int j :: .ref a :: st) (n, I, R) = (ardI 5 n I a j).bind (fun z => EE 13 22 [l0, l1, l2, l3] (.int z :: st) (n, I, R)) := e_iald d13_21
theorem d13_22 : decode (cod 13) 22 = .ok (.if_icmp .le 6, 3) := by decide +kernel
theorem s13_22 {M : Mm} {st : List Value} {l0 l1 l2 l3 : Option Value} {x y : Int32} : EE 13 22 [l0, l1, l2, l3] (.int y :: .int x :: st) M = if x ≤ y then EE 13 28 [l0, l1, l2, l3] st M else EE 13 25 [l0, l1, l2, l3] st M := e_cle d13_22 (by decide)
theorem d13_25 : decode (cod 13) 25 = .ok (.bipush (-2), 2) := by decide +kernel
theorem s13_25 {M : Mm} {st : List Value} {l0 l1 l2 l3 : Option Value} : EE 13 25 [l0, l1, l2, l3] st M = EE 13 27 [l0, l1, l2, l3] (.int ((-2)) :: st) M := e_bip d13_25 k_bip_m2
theorem d13_27 : decode (cod 13) 27 = .ok (.ireturn, 1) := by decide +kernel
theorem s13_27 {M : Mm} {l0 l1 l2 l3 : Option Value} {v : Int32} : EE 13 27 [l0, l1, l2, l3] [.int v] M = some (some (.int v), M) := e_iret d13_27 rfl rfl
theorem d13_28 : decode (cod 13) 28 = .ok (.aload_n 0, 1) := by decide +kernel
theorem s13_28 {M : Mm} {st : List Value} {l1 l2 l3 : Option Value} {x : Nat} : EE 13 28 [some (.ref x), l1, l2, l3] st M = EE 13 29 [some (.ref x), l1, l2, l3] (.ref x :: st) M := e_ld d13_28 rfl rfl rfl rfl rfl rfl
theorem d13_29 : decode (cod 13) 29 = .ok (.getfield 9, 3) := by decide +kernel
theorem s13_29 {n : Nat} {I : Nat → Nat → Int32} {R : Nat → Nat → Option Nat} {st : List Value} {l0 l1 l2 l3 : Option Value} {a : Nat} : EE 13 29 [l0, l1, l2, l3] (.ref a :: st) (n, I, R) = (gfI n I R 1 0 a).bind (fun z => EE 13 32 [l0, l1, l2, l3] (z :: st) (n, I, R)) := e_getf d13_29 f1_9 rfl rfl
theorem d13_32 : decode (cod 13) 32 = .ok (.iload_n 1, 1) := by decide +kernel
theorem s13_32 {M : Mm} {st : List Value} {l0 l2 l3 : Option Value} {x : Int32} : EE 13 32 [l0, some (.int x), l2, l3] st M = EE 13 33 [l0, some (.int x), l2, l3] (.int x :: st) M := e_ld d13_32 rfl rfl rfl rfl rfl rfl
theorem d13_33 : decode (cod 13) 33 = .ok (.iaload, 1) := by decide +kernel
theorem s13_33 {n : Nat} {I : Nat → Nat → Int32} {R : Nat → Nat → Option Nat} {st : List Value} {l0 l1 l2 l3 : Option Value} {j : Int32} {a : Nat} : EE 13 33 [l0, l1, l2, l3] (.int j :: .ref a :: st) (n, I, R) = (ardI 5 n I a j).bind (fun z => EE 13 34 [l0, l1, l2, l3] (.int z :: st) (n, I, R)) := e_iald d13_33
theorem d13_34 : decode (cod 13) 34 = .ok (.istore_n 3, 1) := by decide +kernel
theorem s13_34 {M : Mm} {st : List Value} {l0 l1 l2 l3 : Option Value} {x : Int32} : EE 13 34 [l0, l1, l2, l3] (.int x :: st) M = EE 13 35 [l0, l1, cln l2, some (.int x)] st M := e_st1 d13_34 rfl rfl rfl rfl rfl rfl rfl (Nat.le_of_ble_eq_true rfl) rfl
theorem d13_35 : decode (cod 13) 35 = .ok (.aload_n 0, 1) := by decide +kernel
theorem s13_35 {M : Mm} {st : List Value} {l1 l2 l3 : Option Value} {x : Nat} : EE 13 35 [some (.ref x), l1, l2, l3] st M = EE 13 36 [some (.ref x), l1, l2, l3] (.ref x :: st) M := e_ld d13_35 rfl rfl rfl rfl rfl rfl
theorem d13_36 : decode (cod 13) 36 = .ok (.getfield 9, 3) := by decide +kernel
theorem s13_36 {n : Nat} {I : Nat → Nat → Int32} {R : Nat → Nat → Option Nat} {st : List Value} {l0 l1 l2 l3 : Option Value} {a : Nat} : EE 13 36 [l0, l1, l2, l3] (.ref a :: st) (n, I, R) = (gfI n I R 1 0 a).bind (fun z => EE 13 39 [l0, l1, l2, l3] (z :: st) (n, I, R)) := e_getf d13_36 f1_9 rfl rfl
theorem d13_39 : decode (cod 13) 39 = .ok (.iload_n 1, 1) := by decide +kernel
theorem s13_39 {M : Mm} {st : List Value} {l0 l2 l3 : Option Value} {x : Int32} : EE 13 39 [l0, some (.int x), l2, l3] st M = EE 13 40 [l0, some (.int x), l2, l3] (.int x :: st) M := e_ld d13_39 rfl rfl rfl rfl rfl rfl
theorem d13_40 : decode (cod 13) 40 = .ok (.iload_n 2, 1) := by decide +kernel
theorem s13_40 {M : Mm} {st : List Value} {l0 l1 l3 : Option Value} {x : Int32} : EE 13 40 [l0, l1, some (.int x), l3] st M = EE 13 41 [l0, l1, some (.int x), l3] (.int x :: st) M := e_ld d13_40 rfl rfl rfl rfl rfl rfl
theorem d13_41 : decode (cod 13) 41 = .ok (.iastore, 1) := by decide +kernel
theorem s13_41 {n : Nat} {I : Nat → Nat → Int32} {R : Nat → Nat → Option Nat} {st : List Value} {l0 l1 l2 l3 : Option Value} {j x : Int32} {a : Nat} (h : acI 5 n a j) : EE 13 41 [l0, l1, l2, l3] (.int x :: .int j :: .ref a :: st) (n, I, R) = EE 13 42 [l0, l1, l2, l3] st (n, wI I a j.toNatClampNeg x, R) := e_iast d13_41 h
theorem d13_42 : decode (cod 13) 42 = .ok (.iload_n 3, 1) := by decide +kernel
theorem s13_42 {M : Mm} {st : List Value} {l0 l1 l2 : Option Value} {x : Int32} : EE 13 42 [l0, l1, l2, some (.int x)] st M = EE 13 43 [l0, l1, l2, some (.int x)] (.int x :: st) M := e_ld d13_42 rfl rfl rfl rfl rfl rfl
theorem d13_43 : decode (cod 13) 43 = .ok (.ireturn, 1) := by decide +kernel
theorem s13_43 {M : Mm} {l0 l1 l2 l3 : Option Value} {v : Int32} : EE 13 43 [l0, l1, l2, l3] [.int v] M = some (some (.int v), M) := e_iret d13_43 rfl rfl
theorem FE13 {a : Nat} {b0 : Int32} {b1 : Int32} {M : Mm} : FF 13 [.ref a, .int b0, .int b1] M = EE 13 0 [some (.ref a), some (.int b0), some (.int b1), none] [] M := FF_eq 13 _ _ (Nat.le_of_ble_eq_true rfl)
theorem d14_0 : decode (cod 14) 0 = .ok (.iload_n 2, 1) := by decide +kernel
theorem s14_0 {M : Mm} {st : List Value} {l0 l1 l3 : Option Value} {x : Int32} : EE 14 0 [l0, l1, some (.int x), l3] st M = EE 14 1 [l0, l1, some (.int x), l3] (.int x :: st) M := e_ld d14_0 rfl rfl rfl rfl rfl rfl
theorem d14_1 : decode (cod 14) 1 = .ok (.invokestatic 81, 3) := by decide +kernel
theorem s14_1 {M : Mm} {l0 l1 l2 l3 : Option Value} {b0 : Int32} {st : List Value} (hl : st.length ≤ 4) : EE 14 1 [l0, l1, l2, l3] (.int b0 :: st) M = (FF 49 [.int b0] M).bind (fun z => EE 14 4 [l0, l1, l2, l3] (psh z.1 st) z.2) := e_cals (av := [.int b0]) d14_1 c1_81 (Or.inr rfl) rfl rfl r14_49 rfl hl
theorem d14_4 : decode (cod 14) 4 = .ok (.ifCond .ne 5, 3) := by decide +kernel
theorem s14_4 {M : Mm} {st : List Value} {l0 l1 l2 l3 : Option Value} {x : Int32} : EE 14 4 [l0, l1, l2, l3] (.int x :: st) M = if x = 0 then EE 14 7 [l0, l1, l2, l3] st M else EE 14 9 [l0, l1, l2, l3] st M := e_ne0 d14_4 (by decide)
theorem d14_7 : decode (cod 14) 7 = .ok (.iconst (-1), 1) := by decide +kernel
theorem s14_7 {M : Mm} {st : List Value} {l0 l1 l2 l3 : Option Value} : EE 14 7 [l0, l1, l2, l3] st M = EE 14 8 [l0, l1, l2, l3] (.int ((-1)) :: st) M := e_con d14_7 k_con_m1
theorem d14_8 : decode (cod 14) 8 = .ok (.ireturn, 1) := by decide +kernel
theorem s14_8 {M : Mm} {l0 l1 l2 l3 : Option Value} {v : Int32} : EE 14 8 [l0, l1, l2, l3] [.int v] M = some (some (.int v), M) := e_iret d14_8 rfl rfl
theorem d14_9 : decode (cod 14) 9 = .ok (.iload_n 1, 1) := by decide +kernel
theorem s14_9 {M : Mm} {st : List Value} {l0 l2 l3 : Option Value} {x : Int32} : EE 14 9 [l0, some (.int x), l2, l3] st M = EE 14 10 [l0, some (.int x), l2, l3] (.int x :: st) M := e_ld d14_9 rfl rfl rfl rfl rfl rfl
theorem d14_10 : decode (cod 14) 10 = .ok (.invokestatic 120, 3) := by decide +kernel
theorem s14_10 {M : Mm} {l0 l1 l2 l3 : Option Value} {b0 : Int32} {st : List Value} (hl : st.length ≤ 4) : EE 14 10 [l0, l1, l2, l3] (.int b0 :: st) M = (FF 50 [.int b0] M).bind (fun z => EE 14 13 [l0, l1, l2, l3] (psh z.1 st) z.2) := e_cals (av := [.int b0]) d14_10 c1_120 (Or.inr rfl) rfl rfl r14_50 rfl hl
theorem d14_13 : decode (cod 14) 13 = .ok (.ifCond .ne 6, 3) := by decide +kernel
theorem s14_13 {M : Mm} {st : List Value} {l0 l1 l2 l3 : Option Value} {x : Int32} : EE 14 13 [l0, l1, l2, l3] (.int x :: st) M = if x = 0 then EE 14 16 [l0, l1, l2, l3] st M else EE 14 19 [l0, l1, l2, l3] st M := e_ne0 d14_13 (by decide)
theorem d14_16 : decode (cod 14) 16 = .ok (.bipush (-2), 2) := by decide +kernel
theorem s14_16 {M : Mm} {st : List Value} {l0 l1 l2 l3 : Option Value} : EE 14 16 [l0, l1, l2, l3] st M = EE 14 18 [l0, l1, l2, l3] (.int ((-2)) :: st) M := e_bip d14_16 k_bip_m2
theorem d14_18 : decode (cod 14) 18 = .ok (.ireturn, 1) := by decide +kernel
theorem s14_18 {M : Mm} {l0 l1 l2 l3 : Option Value} {v : Int32} : EE 14 18 [l0, l1, l2, l3] [.int v] M = some (some (.int v), M) := e_iret d14_18 rfl rfl
theorem d14_19 : decode (cod 14) 19 = .ok (.aload_n 0, 1) := by decide +kernel
theorem s14_19 {M : Mm} {st : List Value} {l1 l2 l3 : Option Value} {x : Nat} : EE 14 19 [some (.ref x), l1, l2, l3] st M = EE 14 20 [some (.ref x), l1, l2, l3] (.ref x :: st) M := e_ld d14_19 rfl rfl rfl rfl rfl rfl
theorem d14_20 : decode (cod 14) 20 = .ok (.getfield 24, 3) := by decide +kernel
theorem s14_20 {n : Nat} {I : Nat → Nat → Int32} {R : Nat → Nat → Option Nat} {st : List Value} {l0 l1 l2 l3 : Option Value} {a : Nat} : EE 14 20 [l0, l1, l2, l3] (.ref a :: st) (n, I, R) = (gfI n I R 1 1 a).bind (fun z => EE 14 23 [l0, l1, l2, l3] (z :: st) (n, I, R)) := e_getf d14_20 f1_24 rfl rfl
theorem d14_23 : decode (cod 14) 23 = .ok (.iload_n 1, 1) := by decide +kernel
theorem s14_23 {M : Mm} {st : List Value} {l0 l2 l3 : Option Value} {x : Int32} : EE 14 23 [l0, some (.int x), l2, l3] st M = EE 14 24 [l0, some (.int x), l2, l3] (.int x :: st) M := e_ld d14_23 rfl rfl rfl rfl rfl rfl
theorem d14_24 : decode (cod 14) 24 = .ok (.iaload, 1) := by decide +kernel
theorem s14_24 {n : Nat} {I : Nat → Nat → Int32} {R : Nat → Nat → Option Nat} {st : List Value} {l0 l1 l2 l3 : Option Value} {j : Int32} {a : Nat} : EE 14 24 [l0, l1, l2, l3] (.int j :: .ref a :: st) (n, I, R) = (ardI 5 n I a j).bind (fun z => EE 14 25 [l0, l1, l2, l3] (.int z :: st) (n, I, R)) := e_iald d14_24
theorem d14_25 : decode (cod 14) 25 = .ok (.istore_n 3, 1) := by decide +kernel
theorem s14_25 {M : Mm} {st : List Value} {l0 l1 l2 l3 : Option Value} {x : Int32} : EE 14 25 [l0, l1, l2, l3] (.int x :: st) M = EE 14 26 [l0, l1, cln l2, some (.int x)] st M := e_st1 d14_25 rfl rfl rfl rfl rfl rfl rfl (Nat.le_of_ble_eq_true rfl) rfl
theorem d14_26 : decode (cod 14) 26 = .ok (.aload_n 0, 1) := by decide +kernel
theorem s14_26 {M : Mm} {st : List Value} {l1 l2 l3 : Option Value} {x : Nat} : EE 14 26 [some (.ref x), l1, l2, l3] st M = EE 14 27 [some (.ref x), l1, l2, l3] (.ref x :: st) M := e_ld d14_26 rfl rfl rfl rfl rfl rfl
theorem d14_27 : decode (cod 14) 27 = .ok (.getfield 24, 3) := by decide +kernel
theorem s14_27 {n : Nat} {I : Nat → Nat → Int32} {R : Nat → Nat → Option Nat} {st : List Value} {l0 l1 l2 l3 : Option Value} {a : Nat} : EE 14 27 [l0, l1, l2, l3] (.ref a :: st) (n, I, R) = (gfI n I R 1 1 a).bind (fun z => EE 14 30 [l0, l1, l2, l3] (z :: st) (n, I, R)) := e_getf d14_27 f1_24 rfl rfl
theorem d14_30 : decode (cod 14) 30 = .ok (.iload_n 1, 1) := by decide +kernel
theorem s14_30 {M : Mm} {st : List Value} {l0 l2 l3 : Option Value} {x : Int32} : EE 14 30 [l0, some (.int x), l2, l3] st M = EE 14 31 [l0, some (.int x), l2, l3] (.int x :: st) M := e_ld d14_30 rfl rfl rfl rfl rfl rfl
theorem d14_31 : decode (cod 14) 31 = .ok (.iload_n 2, 1) := by decide +kernel
theorem s14_31 {M : Mm} {st : List Value} {l0 l1 l3 : Option Value} {x : Int32} : EE 14 31 [l0, l1, some (.int x), l3] st M = EE 14 32 [l0, l1, some (.int x), l3] (.int x :: st) M := e_ld d14_31 rfl rfl rfl rfl rfl rfl
theorem d14_32 : decode (cod 14) 32 = .ok (.iastore, 1) := by decide +kernel
theorem s14_32 {n : Nat} {I : Nat → Nat → Int32} {R : Nat → Nat → Option Nat} {st : List Value} {l0 l1 l2 l3 : Option Value} {j x : Int32} {a : Nat} (h : acI 5 n a j) : EE 14 32 [l0, l1, l2, l3] (.int x :: .int j :: .ref a :: st) (n, I, R) = EE 14 33 [l0, l1, l2, l3] st (n, wI I a j.toNatClampNeg x, R) := e_iast d14_32 h
theorem d14_33 : decode (cod 14) 33 = .ok (.iload_n 3, 1) := by decide +kernel
theorem s14_33 {M : Mm} {st : List Value} {l0 l1 l2 : Option Value} {x : Int32} : EE 14 33 [l0, l1, l2, some (.int x)] st M = EE 14 34 [l0, l1, l2, some (.int x)] (.int x :: st) M := e_ld d14_33 rfl rfl rfl rfl rfl rfl
theorem d14_34 : decode (cod 14) 34 = .ok (.ireturn, 1) := by decide +kernel
theorem s14_34 {M : Mm} {l0 l1 l2 l3 : Option Value} {v : Int32} : EE 14 34 [l0, l1, l2, l3] [.int v] M = some (some (.int v), M) := e_iret d14_34 rfl rfl
theorem FE14 {a : Nat} {b0 : Int32} {b1 : Int32} {M : Mm} : FF 14 [.ref a, .int b0, .int b1] M = EE 14 0 [some (.ref a), some (.int b0), some (.int b1), none] [] M := FF_eq 14 _ _ (Nat.le_of_ble_eq_true rfl)
theorem d15_0 : decode (cod 15) 0 = .ok (.iload_n 1, 1) := by decide +kernel
theorem s15_0 {M : Mm} {st : List Value} {l0 l2 l3 : Option Value} {x : Int32} : EE 15 0 [l0, some (.int x), l2, l3] st M = EE 15 1 [l0, some (.int x), l2, l3] (.int x :: st) M := e_ld d15_0 rfl rfl rfl rfl rfl rfl
theorem d15_1 : decode (cod 15) 1 = .ok (.invokestatic 120, 3) := by decide +kernel
theorem s15_1 {M : Mm} {l0 l1 l2 l3 : Option Value} {b0 : Int32} {st : List Value} (hl : st.length ≤ 4) : EE 15 1 [l0, l1, l2, l3] (.int b0 :: st) M = (FF 50 [.int b0] M).bind (fun z => EE 15 4 [l0, l1, l2, l3] (psh z.1 st) z.2) := e_cals (av := [.int b0]) d15_1 c1_120 (Or.inr rfl) rfl rfl r15_50 rfl hl
theorem d15_4 : decode (cod 15) 4 = .ok (.ifCond .eq 13, 3) := by decide +kernel
theorem s15_4 {M : Mm} {st : List Value} {l0 l1 l2 l3 : Option Value} {x : Int32} : EE 15 4 [l0, l1, l2, l3] (.int x :: st) M = if x = 0 then EE 15 17 [l0, l1, l2, l3] st M else EE 15 7 [l0, l1, l2, l3] st M := e_eq0 d15_4 (by decide)
theorem d15_7 : decode (cod 15) 7 = .ok (.iload_n 2, 1) := by decide +kernel
theorem s15_7 {M : Mm} {st : List Value} {l0 l1 l3 : Option Value} {x : Int32} : EE 15 7 [l0, l1, some (.int x), l3] st M = EE 15 8 [l0, l1, some (.int x), l3] (.int x :: st) M := e_ld d15_7 rfl rfl rfl rfl rfl rfl
theorem d15_8 : decode (cod 15) 8 = .ok (.ifCond .lt 9, 3) := by decide +kernel
theorem s15_8 {M : Mm} {st : List Value} {l0 l1 l2 l3 : Option Value} {x : Int32} : EE 15 8 [l0, l1, l2, l3] (.int x :: st) M = if x < 0 then EE 15 17 [l0, l1, l2, l3] st M else EE 15 11 [l0, l1, l2, l3] st M := e_lt0 d15_8 (by decide)
theorem d15_11 : decode (cod 15) 11 = .ok (.iload_n 2, 1) := by decide +kernel
theorem s15_11 {M : Mm} {st : List Value} {l0 l1 l3 : Option Value} {x : Int32} : EE 15 11 [l0, l1, some (.int x), l3] st M = EE 15 12 [l0, l1, some (.int x), l3] (.int x :: st) M := e_ld d15_11 rfl rfl rfl rfl rfl rfl
theorem d15_12 : decode (cod 15) 12 = .ok (.bipush 60, 2) := by decide +kernel
theorem s15_12 {M : Mm} {st : List Value} {l0 l1 l2 l3 : Option Value} : EE 15 12 [l0, l1, l2, l3] st M = EE 15 14 [l0, l1, l2, l3] (.int (nI 60) :: st) M := e_bip d15_12 k_bip_60
theorem d15_14 : decode (cod 15) 14 = .ok (.if_icmp .le 6, 3) := by decide +kernel
theorem s15_14 {M : Mm} {st : List Value} {l0 l1 l2 l3 : Option Value} {x y : Int32} : EE 15 14 [l0, l1, l2, l3] (.int y :: .int x :: st) M = if x ≤ y then EE 15 20 [l0, l1, l2, l3] st M else EE 15 17 [l0, l1, l2, l3] st M := e_cle d15_14 (by decide)
theorem d15_17 : decode (cod 15) 17 = .ok (.bipush (-2), 2) := by decide +kernel
theorem s15_17 {M : Mm} {st : List Value} {l0 l1 l2 l3 : Option Value} : EE 15 17 [l0, l1, l2, l3] st M = EE 15 19 [l0, l1, l2, l3] (.int ((-2)) :: st) M := e_bip d15_17 k_bip_m2
theorem d15_19 : decode (cod 15) 19 = .ok (.ireturn, 1) := by decide +kernel
theorem s15_19 {M : Mm} {l0 l1 l2 l3 : Option Value} {v : Int32} : EE 15 19 [l0, l1, l2, l3] [.int v] M = some (some (.int v), M) := e_iret d15_19 rfl rfl
theorem d15_20 : decode (cod 15) 20 = .ok (.aload_n 0, 1) := by decide +kernel
theorem s15_20 {M : Mm} {st : List Value} {l1 l2 l3 : Option Value} {x : Nat} : EE 15 20 [some (.ref x), l1, l2, l3] st M = EE 15 21 [some (.ref x), l1, l2, l3] (.ref x :: st) M := e_ld d15_20 rfl rfl rfl rfl rfl rfl
theorem d15_21 : decode (cod 15) 21 = .ok (.getfield 27, 3) := by decide +kernel
theorem s15_21 {n : Nat} {I : Nat → Nat → Int32} {R : Nat → Nat → Option Nat} {st : List Value} {l0 l1 l2 l3 : Option Value} {a : Nat} : EE 15 21 [l0, l1, l2, l3] (.ref a :: st) (n, I, R) = (gfI n I R 1 2 a).bind (fun z => EE 15 24 [l0, l1, l2, l3] (z :: st) (n, I, R)) := e_getf d15_21 f1_27 rfl rfl
theorem d15_24 : decode (cod 15) 24 = .ok (.iload_n 1, 1) := by decide +kernel
theorem s15_24 {M : Mm} {st : List Value} {l0 l2 l3 : Option Value} {x : Int32} : EE 15 24 [l0, some (.int x), l2, l3] st M = EE 15 25 [l0, some (.int x), l2, l3] (.int x :: st) M := e_ld d15_24 rfl rfl rfl rfl rfl rfl
theorem d15_25 : decode (cod 15) 25 = .ok (.iaload, 1) := by decide +kernel
theorem s15_25 {n : Nat} {I : Nat → Nat → Int32} {R : Nat → Nat → Option Nat} {st : List Value} {l0 l1 l2 l3 : Option Value} {j : Int32} {a : Nat} : EE 15 25 [l0, l1, l2, l3] (.int j :: .ref a :: st) (n, I, R) = (ardI 5 n I a j).bind (fun z => EE 15 26 [l0, l1, l2, l3] (.int z :: st) (n, I, R)) := e_iald d15_25
theorem d15_26 : decode (cod 15) 26 = .ok (.istore_n 3, 1) := by decide +kernel
theorem s15_26 {M : Mm} {st : List Value} {l0 l1 l2 l3 : Option Value} {x : Int32} : EE 15 26 [l0, l1, l2, l3] (.int x :: st) M = EE 15 27 [l0, l1, cln l2, some (.int x)] st M := e_st1 d15_26 rfl rfl rfl rfl rfl rfl rfl (Nat.le_of_ble_eq_true rfl) rfl
theorem d15_27 : decode (cod 15) 27 = .ok (.aload_n 0, 1) := by decide +kernel
theorem s15_27 {M : Mm} {st : List Value} {l1 l2 l3 : Option Value} {x : Nat} : EE 15 27 [some (.ref x), l1, l2, l3] st M = EE 15 28 [some (.ref x), l1, l2, l3] (.ref x :: st) M := e_ld d15_27 rfl rfl rfl rfl rfl rfl
theorem d15_28 : decode (cod 15) 28 = .ok (.getfield 27, 3) := by decide +kernel
theorem s15_28 {n : Nat} {I : Nat → Nat → Int32} {R : Nat → Nat → Option Nat} {st : List Value} {l0 l1 l2 l3 : Option Value} {a : Nat} : EE 15 28 [l0, l1, l2, l3] (.ref a :: st) (n, I, R) = (gfI n I R 1 2 a).bind (fun z => EE 15 31 [l0, l1, l2, l3] (z :: st) (n, I, R)) := e_getf d15_28 f1_27 rfl rfl
theorem d15_31 : decode (cod 15) 31 = .ok (.iload_n 1, 1) := by decide +kernel
theorem s15_31 {M : Mm} {st : List Value} {l0 l2 l3 : Option Value} {x : Int32} : EE 15 31 [l0, some (.int x), l2, l3] st M = EE 15 32 [l0, some (.int x), l2, l3] (.int x :: st) M := e_ld d15_31 rfl rfl rfl rfl rfl rfl
theorem d15_32 : decode (cod 15) 32 = .ok (.iload_n 2, 1) := by decide +kernel
theorem s15_32 {M : Mm} {st : List Value} {l0 l1 l3 : Option Value} {x : Int32} : EE 15 32 [l0, l1, some (.int x), l3] st M = EE 15 33 [l0, l1, some (.int x), l3] (.int x :: st) M := e_ld d15_32 rfl rfl rfl rfl rfl rfl
theorem d15_33 : decode (cod 15) 33 = .ok (.iastore, 1) := by decide +kernel
theorem s15_33 {n : Nat} {I : Nat → Nat → Int32} {R : Nat → Nat → Option Nat} {st : List Value} {l0 l1 l2 l3 : Option Value} {j x : Int32} {a : Nat} (h : acI 5 n a j) : EE 15 33 [l0, l1, l2, l3] (.int x :: .int j :: .ref a :: st) (n, I, R) = EE 15 34 [l0, l1, l2, l3] st (n, wI I a j.toNatClampNeg x, R) := e_iast d15_33 h
theorem d15_34 : decode (cod 15) 34 = .ok (.iload_n 3, 1) := by decide +kernel
theorem s15_34 {M : Mm} {st : List Value} {l0 l1 l2 : Option Value} {x : Int32} : EE 15 34 [l0, l1, l2, some (.int x)] st M = EE 15 35 [l0, l1, l2, some (.int x)] (.int x :: st) M := e_ld d15_34 rfl rfl rfl rfl rfl rfl
theorem d15_35 : decode (cod 15) 35 = .ok (.ireturn, 1) := by decide +kernel
theorem s15_35 {M : Mm} {l0 l1 l2 l3 : Option Value} {v : Int32} : EE 15 35 [l0, l1, l2, l3] [.int v] M = some (some (.int v), M) := e_iret d15_35 rfl rfl
theorem FE15 {a : Nat} {b0 : Int32} {b1 : Int32} {M : Mm} : FF 15 [.ref a, .int b0, .int b1] M = EE 15 0 [some (.ref a), some (.int b0), some (.int b1), none] [] M := FF_eq 15 _ _ (Nat.le_of_ble_eq_true rfl)
theorem d16_0 : decode (cod 16) 0 = .ok (.aload_n 0, 1) := by decide +kernel
theorem s16_0 {M : Mm} {st : List Value} {l1 : Option Value} {x : Nat} : EE 16 0 [some (.ref x), l1] st M = EE 16 1 [some (.ref x), l1] (.ref x :: st) M := e_ld d16_0 rfl rfl rfl rfl rfl rfl
theorem d16_1 : decode (cod 16) 1 = .ok (.getfield 47, 3) := by decide +kernel
theorem s16_1 {n : Nat} {I : Nat → Nat → Int32} {R : Nat → Nat → Option Nat} {st : List Value} {l0 l1 : Option Value} {a : Nat} : EE 16 1 [l0, l1] (.ref a :: st) (n, I, R) = (gfI n I R 1 8 a).bind (fun z => EE 16 4 [l0, l1] (z :: st) (n, I, R)) := e_getf d16_1 f1_47 rfl rfl
theorem d16_4 : decode (cod 16) 4 = .ok (.bipush 10, 2) := by decide +kernel
theorem s16_4 {M : Mm} {st : List Value} {l0 l1 : Option Value} : EE 16 4 [l0, l1] st M = EE 16 6 [l0, l1] (.int (nI 10) :: st) M := e_bip d16_4 k_bip_10
theorem d16_6 : decode (cod 16) 6 = .ok (.if_icmp .lt 6, 3) := by decide +kernel
theorem s16_6 {M : Mm} {st : List Value} {l0 l1 : Option Value} {x y : Int32} : EE 16 6 [l0, l1] (.int y :: .int x :: st) M = if x < y then EE 16 12 [l0, l1] st M else EE 16 9 [l0, l1] st M := e_clt d16_6 (by decide)
theorem d16_9 : decode (cod 16) 9 = .ok (.bipush (-4), 2) := by decide +kernel
theorem s16_9 {M : Mm} {st : List Value} {l0 l1 : Option Value} : EE 16 9 [l0, l1] st M = EE 16 11 [l0, l1] (.int ((-4)) :: st) M := e_bip d16_9 k_bip_m4
theorem d16_11 : decode (cod 16) 11 = .ok (.ireturn, 1) := by decide +kernel
theorem s16_11 {M : Mm} {l0 l1 : Option Value} {v : Int32} : EE 16 11 [l0, l1] [.int v] M = some (some (.int v), M) := e_iret d16_11 rfl rfl
theorem d16_12 : decode (cod 16) 12 = .ok (.aload_n 0, 1) := by decide +kernel
theorem s16_12 {M : Mm} {st : List Value} {l1 : Option Value} {x : Nat} : EE 16 12 [some (.ref x), l1] st M = EE 16 13 [some (.ref x), l1] (.ref x :: st) M := e_ld d16_12 rfl rfl rfl rfl rfl rfl
theorem d16_13 : decode (cod 16) 13 = .ok (.getfield 47, 3) := by decide +kernel
theorem s16_13 {n : Nat} {I : Nat → Nat → Int32} {R : Nat → Nat → Option Nat} {st : List Value} {l0 l1 : Option Value} {a : Nat} : EE 16 13 [l0, l1] (.ref a :: st) (n, I, R) = (gfI n I R 1 8 a).bind (fun z => EE 16 16 [l0, l1] (z :: st) (n, I, R)) := e_getf d16_13 f1_47 rfl rfl
theorem d16_16 : decode (cod 16) 16 = .ok (.istore_n 1, 1) := by decide +kernel
theorem s16_16 {M : Mm} {st : List Value} {l0 l1 : Option Value} {x : Int32} : EE 16 16 [l0, l1] (.int x :: st) M = EE 16 17 [cln l0, some (.int x)] st M := e_st1 d16_16 rfl rfl rfl rfl rfl rfl rfl (Nat.le_of_ble_eq_true rfl) rfl
theorem d16_17 : decode (cod 16) 17 = .ok (.aload_n 0, 1) := by decide +kernel
theorem s16_17 {M : Mm} {st : List Value} {l1 : Option Value} {x : Nat} : EE 16 17 [some (.ref x), l1] st M = EE 16 18 [some (.ref x), l1] (.ref x :: st) M := e_ld d16_17 rfl rfl rfl rfl rfl rfl
theorem d16_18 : decode (cod 16) 18 = .ok (.dup, 1) := by decide +kernel
theorem s16_18i {M : Mm} {st : List Value} {l0 l1 : Option Value} {x : Int32} : EE 16 18 [l0, l1] (.int x :: st) M = EE 16 19 [l0, l1] (.int x :: .int x :: st) M := e_dup d16_18 rfl
theorem s16_18r {M : Mm} {st : List Value} {l0 l1 : Option Value} {x : Nat} : EE 16 18 [l0, l1] (.ref x :: st) M = EE 16 19 [l0, l1] (.ref x :: .ref x :: st) M := e_dup d16_18 rfl
theorem d16_19 : decode (cod 16) 19 = .ok (.getfield 51, 3) := by decide +kernel
theorem s16_19 {n : Nat} {I : Nat → Nat → Int32} {R : Nat → Nat → Option Nat} {st : List Value} {l0 l1 : Option Value} {a : Nat} : EE 16 19 [l0, l1] (.ref a :: st) (n, I, R) = (gfI n I R 1 9 a).bind (fun z => EE 16 22 [l0, l1] (z :: st) (n, I, R)) := e_getf d16_19 f1_51 rfl rfl
theorem d16_22 : decode (cod 16) 22 = .ok (.iconst 1, 1) := by decide +kernel
theorem s16_22 {M : Mm} {st : List Value} {l0 l1 : Option Value} : EE 16 22 [l0, l1] st M = EE 16 23 [l0, l1] (.int (nI 1) :: st) M := e_con d16_22 k_con_1
theorem d16_23 : decode (cod 16) 23 = .ok (.iload_n 1, 1) := by decide +kernel
theorem s16_23 {M : Mm} {st : List Value} {l0 : Option Value} {x : Int32} : EE 16 23 [l0, some (.int x)] st M = EE 16 24 [l0, some (.int x)] (.int x :: st) M := e_ld d16_23 rfl rfl rfl rfl rfl rfl
theorem d16_24 : decode (cod 16) 24 = .ok (.ishl, 1) := by decide +kernel
theorem s16_24 {M : Mm} {st : List Value} {l0 l1 : Option Value} {x y : Int32} : EE 16 24 [l0, l1] (.int y :: .int x :: st) M = EE 16 25 [l0, l1] (.int (x <<< (y &&& 31)) :: st) M := e_II d16_24 rfl rfl rfl rfl rfl rfl
theorem d16_25 : decode (cod 16) 25 = .ok (.ior, 1) := by decide +kernel
theorem s16_25 {M : Mm} {st : List Value} {l0 l1 : Option Value} {x y : Int32} : EE 16 25 [l0, l1] (.int y :: .int x :: st) M = EE 16 26 [l0, l1] (.int (x ||| y) :: st) M := e_II d16_25 rfl rfl rfl rfl rfl rfl
theorem d16_26 : decode (cod 16) 26 = .ok (.putfield 51, 3) := by decide +kernel
theorem s16_26 {n : Nat} {I : Nat → Nat → Int32} {R : Nat → Nat → Option Nat} {st : List Value} {l0 l1 : Option Value} {a : Nat} {v : Value} : EE 16 26 [l0, l1] (v :: .ref a :: st) (n, I, R) = (pfI n I R 1 9 a v).bind (fun z => EE 16 29 [l0, l1] st (n, z.1, z.2)) := e_putf d16_26 f1_51 rfl rfl (Or.inr rfl)
theorem d16_29 : decode (cod 16) 29 = .ok (.aload_n 0, 1) := by decide +kernel
theorem s16_29 {M : Mm} {st : List Value} {l1 : Option Value} {x : Nat} : EE 16 29 [some (.ref x), l1] st M = EE 16 30 [some (.ref x), l1] (.ref x :: st) M := e_ld d16_29 rfl rfl rfl rfl rfl rfl
theorem d16_30 : decode (cod 16) 30 = .ok (.dup, 1) := by decide +kernel
theorem s16_30i {M : Mm} {st : List Value} {l0 l1 : Option Value} {x : Int32} : EE 16 30 [l0, l1] (.int x :: st) M = EE 16 31 [l0, l1] (.int x :: .int x :: st) M := e_dup d16_30 rfl
theorem s16_30r {M : Mm} {st : List Value} {l0 l1 : Option Value} {x : Nat} : EE 16 30 [l0, l1] (.ref x :: st) M = EE 16 31 [l0, l1] (.ref x :: .ref x :: st) M := e_dup d16_30 rfl
theorem d16_31 : decode (cod 16) 31 = .ok (.getfield 47, 3) := by decide +kernel
theorem s16_31 {n : Nat} {I : Nat → Nat → Int32} {R : Nat → Nat → Option Nat} {st : List Value} {l0 l1 : Option Value} {a : Nat} : EE 16 31 [l0, l1] (.ref a :: st) (n, I, R) = (gfI n I R 1 8 a).bind (fun z => EE 16 34 [l0, l1] (z :: st) (n, I, R)) := e_getf d16_31 f1_47 rfl rfl
theorem d16_34 : decode (cod 16) 34 = .ok (.iconst 1, 1) := by decide +kernel
theorem s16_34 {M : Mm} {st : List Value} {l0 l1 : Option Value} : EE 16 34 [l0, l1] st M = EE 16 35 [l0, l1] (.int (nI 1) :: st) M := e_con d16_34 k_con_1
theorem d16_35 : decode (cod 16) 35 = .ok (.iadd, 1) := by decide +kernel
theorem s16_35 {M : Mm} {st : List Value} {l0 l1 : Option Value} {x y : Int32} : EE 16 35 [l0, l1] (.int y :: .int x :: st) M = EE 16 36 [l0, l1] (.int (x + y) :: st) M := e_II d16_35 rfl rfl rfl rfl rfl rfl
theorem d16_36 : decode (cod 16) 36 = .ok (.putfield 47, 3) := by decide +kernel
theorem s16_36 {n : Nat} {I : Nat → Nat → Int32} {R : Nat → Nat → Option Nat} {st : List Value} {l0 l1 : Option Value} {a : Nat} {v : Value} : EE 16 36 [l0, l1] (v :: .ref a :: st) (n, I, R) = (pfI n I R 1 8 a v).bind (fun z => EE 16 39 [l0, l1] st (n, z.1, z.2)) := e_putf d16_36 f1_47 rfl rfl (Or.inr rfl)
theorem d16_39 : decode (cod 16) 39 = .ok (.iload_n 1, 1) := by decide +kernel
theorem s16_39 {M : Mm} {st : List Value} {l0 : Option Value} {x : Int32} : EE 16 39 [l0, some (.int x)] st M = EE 16 40 [l0, some (.int x)] (.int x :: st) M := e_ld d16_39 rfl rfl rfl rfl rfl rfl
theorem d16_40 : decode (cod 16) 40 = .ok (.ireturn, 1) := by decide +kernel
theorem s16_40 {M : Mm} {l0 l1 : Option Value} {v : Int32} : EE 16 40 [l0, l1] [.int v] M = some (some (.int v), M) := e_iret d16_40 rfl rfl
theorem FE16 {a : Nat} {M : Mm} : FF 16 [.ref a] M = EE 16 0 [some (.ref a), none] [] M := FF_eq 16 _ _ (Nat.le_of_ble_eq_true rfl)
theorem d17_0 : decode (cod 17) 0 = .ok (.aload_n 0, 1) := by decide +kernel
theorem s17_0 {M : Mm} {st : List Value} {l1 : Option Value} {x : Nat} : EE 17 0 [some (.ref x), l1] st M = EE 17 1 [some (.ref x), l1] (.ref x :: st) M := e_ld d17_0 rfl rfl rfl rfl rfl rfl
theorem d17_1 : decode (cod 17) 1 = .ok (.iload_n 1, 1) := by decide +kernel
theorem s17_1 {M : Mm} {st : List Value} {l0 : Option Value} {x : Int32} : EE 17 1 [l0, some (.int x)] st M = EE 17 2 [l0, some (.int x)] (.int x :: st) M := e_ld d17_1 rfl rfl rfl rfl rfl rfl
theorem d17_2 : decode (cod 17) 2 = .ok (.invokevirtual 85, 3) := by decide +kernel
theorem s17_2 {l0 l1 : Option Value} {a : Nat} {M : Mm} {b0 : Int32} {st : List Value} (hl : st.length ≤ 4) (ho : isO "HandoverDesk$State" M.1 a = true) : EE 17 2 [l0, l1] (.int b0 :: .ref a :: st) M = (FF 18 (.ref a :: [.int b0]) M).bind (fun z => EE 17 5 [l0, l1] (psh z.1 st) z.2) := e_calv (av := [.int b0]) d17_2 c1_85 rfl rfl rfl r17_18 rfl hl ho
theorem d17_5 : decode (cod 17) 5 = .ok (.ifCond .ne 5, 3) := by decide +kernel
theorem s17_5 {M : Mm} {st : List Value} {l0 l1 : Option Value} {x : Int32} : EE 17 5 [l0, l1] (.int x :: st) M = if x = 0 then EE 17 8 [l0, l1] st M else EE 17 10 [l0, l1] st M := e_ne0 d17_5 (by decide)
theorem d17_8 : decode (cod 17) 8 = .ok (.iconst (-1), 1) := by decide +kernel
theorem s17_8 {M : Mm} {st : List Value} {l0 l1 : Option Value} : EE 17 8 [l0, l1] st M = EE 17 9 [l0, l1] (.int ((-1)) :: st) M := e_con d17_8 k_con_m1
theorem d17_9 : decode (cod 17) 9 = .ok (.ireturn, 1) := by decide +kernel
theorem s17_9 {M : Mm} {l0 l1 : Option Value} {v : Int32} : EE 17 9 [l0, l1] [.int v] M = some (some (.int v), M) := e_iret d17_9 rfl rfl
theorem d17_10 : decode (cod 17) 10 = .ok (.aload_n 0, 1) := by decide +kernel
theorem s17_10 {M : Mm} {st : List Value} {l1 : Option Value} {x : Nat} : EE 17 10 [some (.ref x), l1] st M = EE 17 11 [some (.ref x), l1] (.ref x :: st) M := e_ld d17_10 rfl rfl rfl rfl rfl rfl
theorem d17_11 : decode (cod 17) 11 = .ok (.dup, 1) := by decide +kernel
theorem s17_11i {M : Mm} {st : List Value} {l0 l1 : Option Value} {x : Int32} : EE 17 11 [l0, l1] (.int x :: st) M = EE 17 12 [l0, l1] (.int x :: .int x :: st) M := e_dup d17_11 rfl
theorem s17_11r {M : Mm} {st : List Value} {l0 l1 : Option Value} {x : Nat} : EE 17 11 [l0, l1] (.ref x :: st) M = EE 17 12 [l0, l1] (.ref x :: .ref x :: st) M := e_dup d17_11 rfl
theorem d17_12 : decode (cod 17) 12 = .ok (.getfield 51, 3) := by decide +kernel
theorem s17_12 {n : Nat} {I : Nat → Nat → Int32} {R : Nat → Nat → Option Nat} {st : List Value} {l0 l1 : Option Value} {a : Nat} : EE 17 12 [l0, l1] (.ref a :: st) (n, I, R) = (gfI n I R 1 9 a).bind (fun z => EE 17 15 [l0, l1] (z :: st) (n, I, R)) := e_getf d17_12 f1_51 rfl rfl
theorem d17_15 : decode (cod 17) 15 = .ok (.iconst 1, 1) := by decide +kernel
theorem s17_15 {M : Mm} {st : List Value} {l0 l1 : Option Value} : EE 17 15 [l0, l1] st M = EE 17 16 [l0, l1] (.int (nI 1) :: st) M := e_con d17_15 k_con_1
theorem d17_16 : decode (cod 17) 16 = .ok (.iload_n 1, 1) := by decide +kernel
theorem s17_16 {M : Mm} {st : List Value} {l0 : Option Value} {x : Int32} : EE 17 16 [l0, some (.int x)] st M = EE 17 17 [l0, some (.int x)] (.int x :: st) M := e_ld d17_16 rfl rfl rfl rfl rfl rfl
theorem d17_17 : decode (cod 17) 17 = .ok (.ishl, 1) := by decide +kernel
theorem s17_17 {M : Mm} {st : List Value} {l0 l1 : Option Value} {x y : Int32} : EE 17 17 [l0, l1] (.int y :: .int x :: st) M = EE 17 18 [l0, l1] (.int (x <<< (y &&& 31)) :: st) M := e_II d17_17 rfl rfl rfl rfl rfl rfl
theorem d17_18 : decode (cod 17) 18 = .ok (.ixor, 1) := by decide +kernel
theorem s17_18 {M : Mm} {st : List Value} {l0 l1 : Option Value} {x y : Int32} : EE 17 18 [l0, l1] (.int y :: .int x :: st) M = EE 17 19 [l0, l1] (.int (x ^^^ y) :: st) M := e_II d17_18 rfl rfl rfl rfl rfl rfl
theorem d17_19 : decode (cod 17) 19 = .ok (.putfield 51, 3) := by decide +kernel
theorem s17_19 {n : Nat} {I : Nat → Nat → Int32} {R : Nat → Nat → Option Nat} {st : List Value} {l0 l1 : Option Value} {a : Nat} {v : Value} : EE 17 19 [l0, l1] (v :: .ref a :: st) (n, I, R) = (pfI n I R 1 9 a v).bind (fun z => EE 17 22 [l0, l1] st (n, z.1, z.2)) := e_putf d17_19 f1_51 rfl rfl (Or.inr rfl)
theorem d17_22 : decode (cod 17) 22 = .ok (.aload_n 0, 1) := by decide +kernel
theorem s17_22 {M : Mm} {st : List Value} {l1 : Option Value} {x : Nat} : EE 17 22 [some (.ref x), l1] st M = EE 17 23 [some (.ref x), l1] (.ref x :: st) M := e_ld d17_22 rfl rfl rfl rfl rfl rfl
theorem d17_23 : decode (cod 17) 23 = .ok (.iload_n 1, 1) := by decide +kernel
theorem s17_23 {M : Mm} {st : List Value} {l0 : Option Value} {x : Int32} : EE 17 23 [l0, some (.int x)] st M = EE 17 24 [l0, some (.int x)] (.int x :: st) M := e_ld d17_23 rfl rfl rfl rfl rfl rfl
theorem d17_24 : decode (cod 17) 24 = .ok (.invokevirtual 99, 3) := by decide +kernel
theorem s17_24 {l0 l1 : Option Value} {a : Nat} {M : Mm} {b0 : Int32} {st : List Value} (hl : st.length ≤ 4) (ho : isO "HandoverDesk$State" M.1 a = true) : EE 17 24 [l0, l1] (.int b0 :: .ref a :: st) M = (FF 19 (.ref a :: [.int b0]) M).bind (fun z => EE 17 27 [l0, l1] (psh z.1 st) z.2) := e_calv (av := [.int b0]) d17_24 c1_99 rfl rfl rfl r17_19 rfl hl ho
theorem d17_27 : decode (cod 17) 27 = .ok (.ifCond .eq 7, 3) := by decide +kernel
theorem s17_27 {M : Mm} {st : List Value} {l0 l1 : Option Value} {x : Int32} : EE 17 27 [l0, l1] (.int x :: st) M = if x = 0 then EE 17 34 [l0, l1] st M else EE 17 30 [l0, l1] st M := e_eq0 d17_27 (by decide)
theorem d17_30 : decode (cod 17) 30 = .ok (.iconst 1, 1) := by decide +kernel
theorem s17_30 {M : Mm} {st : List Value} {l0 l1 : Option Value} : EE 17 30 [l0, l1] st M = EE 17 31 [l0, l1] (.int (nI 1) :: st) M := e_con d17_30 k_con_1
theorem d17_31 : decode (cod 17) 31 = .ok (.goto 4, 3) := by decide +kernel
theorem s17_31 {M : Mm} {st : List Value} {l0 l1 : Option Value} : EE 17 31 [l0, l1] st M = EE 17 35 [l0, l1] st M := e_goto d17_31 (by decide)
theorem d17_34 : decode (cod 17) 34 = .ok (.iconst 0, 1) := by decide +kernel
theorem s17_34 {M : Mm} {st : List Value} {l0 l1 : Option Value} : EE 17 34 [l0, l1] st M = EE 17 35 [l0, l1] (.int (nI 0) :: st) M := e_con d17_34 k_con_0
theorem d17_35 : decode (cod 17) 35 = .ok (.ireturn, 1) := by decide +kernel
theorem s17_35 {M : Mm} {l0 l1 : Option Value} {v : Int32} : EE 17 35 [l0, l1] [.int v] M = some (some (.int v), M) := e_iret d17_35 rfl rfl
theorem FE17 {a : Nat} {b0 : Int32} {M : Mm} : FF 17 [.ref a, .int b0] M = EE 17 0 [some (.ref a), some (.int b0)] [] M := FF_eq 17 _ _ (Nat.le_of_ble_eq_true rfl)
theorem d18_0 : decode (cod 18) 0 = .ok (.iload_n 1, 1) := by decide +kernel
theorem s18_0 {M : Mm} {st : List Value} {l0 : Option Value} {x : Int32} : EE 18 0 [l0, some (.int x)] st M = EE 18 1 [l0, some (.int x)] (.int x :: st) M := e_ld d18_0 rfl rfl rfl rfl rfl rfl
theorem d18_1 : decode (cod 18) 1 = .ok (.ifCond .lt 15, 3) := by decide +kernel
theorem s18_1 {M : Mm} {st : List Value} {l0 l1 : Option Value} {x : Int32} : EE 18 1 [l0, l1] (.int x :: st) M = if x < 0 then EE 18 16 [l0, l1] st M else EE 18 4 [l0, l1] st M := e_lt0 d18_1 (by decide)
theorem d18_4 : decode (cod 18) 4 = .ok (.iload_n 1, 1) := by decide +kernel
theorem s18_4 {M : Mm} {st : List Value} {l0 : Option Value} {x : Int32} : EE 18 4 [l0, some (.int x)] st M = EE 18 5 [l0, some (.int x)] (.int x :: st) M := e_ld d18_4 rfl rfl rfl rfl rfl rfl
theorem d18_5 : decode (cod 18) 5 = .ok (.aload_n 0, 1) := by decide +kernel
theorem s18_5 {M : Mm} {st : List Value} {l1 : Option Value} {x : Nat} : EE 18 5 [some (.ref x), l1] st M = EE 18 6 [some (.ref x), l1] (.ref x :: st) M := e_ld d18_5 rfl rfl rfl rfl rfl rfl
theorem d18_6 : decode (cod 18) 6 = .ok (.getfield 47, 3) := by decide +kernel
theorem s18_6 {n : Nat} {I : Nat → Nat → Int32} {R : Nat → Nat → Option Nat} {st : List Value} {l0 l1 : Option Value} {a : Nat} : EE 18 6 [l0, l1] (.ref a :: st) (n, I, R) = (gfI n I R 1 8 a).bind (fun z => EE 18 9 [l0, l1] (z :: st) (n, I, R)) := e_getf d18_6 f1_47 rfl rfl
theorem d18_9 : decode (cod 18) 9 = .ok (.if_icmp .ge 7, 3) := by decide +kernel
theorem s18_9 {M : Mm} {st : List Value} {l0 l1 : Option Value} {x y : Int32} : EE 18 9 [l0, l1] (.int y :: .int x :: st) M = if y ≤ x then EE 18 16 [l0, l1] st M else EE 18 12 [l0, l1] st M := e_cge d18_9 (by decide)
theorem d18_12 : decode (cod 18) 12 = .ok (.iconst 1, 1) := by decide +kernel
theorem s18_12 {M : Mm} {st : List Value} {l0 l1 : Option Value} : EE 18 12 [l0, l1] st M = EE 18 13 [l0, l1] (.int (nI 1) :: st) M := e_con d18_12 k_con_1
theorem d18_13 : decode (cod 18) 13 = .ok (.goto 4, 3) := by decide +kernel
theorem s18_13 {M : Mm} {st : List Value} {l0 l1 : Option Value} : EE 18 13 [l0, l1] st M = EE 18 17 [l0, l1] st M := e_goto d18_13 (by decide)
theorem d18_16 : decode (cod 18) 16 = .ok (.iconst 0, 1) := by decide +kernel
theorem s18_16 {M : Mm} {st : List Value} {l0 l1 : Option Value} : EE 18 16 [l0, l1] st M = EE 18 17 [l0, l1] (.int (nI 0) :: st) M := e_con d18_16 k_con_0
theorem d18_17 : decode (cod 18) 17 = .ok (.ireturn, 1) := by decide +kernel
theorem s18_17 {M : Mm} {l0 l1 : Option Value} {v : Int32} (h : narrow .boolean (.int v) = .int v) : EE 18 17 [l0, l1] [.int v] M = some (some (.int v), M) := e_iret d18_17 rfl h
theorem FE18 {a : Nat} {b0 : Int32} {M : Mm} : FF 18 [.ref a, .int b0] M = EE 18 0 [some (.ref a), some (.int b0)] [] M := FF_eq 18 _ _ (Nat.le_of_ble_eq_true rfl)
theorem d19_0 : decode (cod 19) 0 = .ok (.iload_n 1, 1) := by decide +kernel
theorem s19_0 {M : Mm} {st : List Value} {l0 : Option Value} {x : Int32} : EE 19 0 [l0, some (.int x)] st M = EE 19 1 [l0, some (.int x)] (.int x :: st) M := e_ld d19_0 rfl rfl rfl rfl rfl rfl
theorem d19_1 : decode (cod 19) 1 = .ok (.ifCond .lt 25, 3) := by decide +kernel
theorem s19_1 {M : Mm} {st : List Value} {l0 l1 : Option Value} {x : Int32} : EE 19 1 [l0, l1] (.int x :: st) M = if x < 0 then EE 19 26 [l0, l1] st M else EE 19 4 [l0, l1] st M := e_lt0 d19_1 (by decide)
theorem d19_4 : decode (cod 19) 4 = .ok (.iload_n 1, 1) := by decide +kernel
theorem s19_4 {M : Mm} {st : List Value} {l0 : Option Value} {x : Int32} : EE 19 4 [l0, some (.int x)] st M = EE 19 5 [l0, some (.int x)] (.int x :: st) M := e_ld d19_4 rfl rfl rfl rfl rfl rfl
theorem d19_5 : decode (cod 19) 5 = .ok (.bipush 10, 2) := by decide +kernel
theorem s19_5 {M : Mm} {st : List Value} {l0 l1 : Option Value} : EE 19 5 [l0, l1] st M = EE 19 7 [l0, l1] (.int (nI 10) :: st) M := e_bip d19_5 k_bip_10
theorem d19_7 : decode (cod 19) 7 = .ok (.if_icmp .ge 19, 3) := by decide +kernel
theorem s19_7 {M : Mm} {st : List Value} {l0 l1 : Option Value} {x y : Int32} : EE 19 7 [l0, l1] (.int y :: .int x :: st) M = if y ≤ x then EE 19 26 [l0, l1] st M else EE 19 10 [l0, l1] st M := e_cge d19_7 (by decide)
theorem d19_10 : decode (cod 19) 10 = .ok (.aload_n 0, 1) := by decide +kernel
theorem s19_10 {M : Mm} {st : List Value} {l1 : Option Value} {x : Nat} : EE 19 10 [some (.ref x), l1] st M = EE 19 11 [some (.ref x), l1] (.ref x :: st) M := e_ld d19_10 rfl rfl rfl rfl rfl rfl
theorem d19_11 : decode (cod 19) 11 = .ok (.getfield 51, 3) := by decide +kernel
theorem s19_11 {n : Nat} {I : Nat → Nat → Int32} {R : Nat → Nat → Option Nat} {st : List Value} {l0 l1 : Option Value} {a : Nat} : EE 19 11 [l0, l1] (.ref a :: st) (n, I, R) = (gfI n I R 1 9 a).bind (fun z => EE 19 14 [l0, l1] (z :: st) (n, I, R)) := e_getf d19_11 f1_51 rfl rfl
theorem d19_14 : decode (cod 19) 14 = .ok (.iload_n 1, 1) := by decide +kernel
theorem s19_14 {M : Mm} {st : List Value} {l0 : Option Value} {x : Int32} : EE 19 14 [l0, some (.int x)] st M = EE 19 15 [l0, some (.int x)] (.int x :: st) M := e_ld d19_14 rfl rfl rfl rfl rfl rfl
theorem d19_15 : decode (cod 19) 15 = .ok (.ishr, 1) := by decide +kernel
theorem s19_15 {M : Mm} {st : List Value} {l0 l1 : Option Value} {x y : Int32} : EE 19 15 [l0, l1] (.int y :: .int x :: st) M = EE 19 16 [l0, l1] (.int (x >>> (y &&& 31)) :: st) M := e_II d19_15 rfl rfl rfl rfl rfl rfl
theorem d19_16 : decode (cod 19) 16 = .ok (.iconst 1, 1) := by decide +kernel
theorem s19_16 {M : Mm} {st : List Value} {l0 l1 : Option Value} : EE 19 16 [l0, l1] st M = EE 19 17 [l0, l1] (.int (nI 1) :: st) M := e_con d19_16 k_con_1
theorem d19_17 : decode (cod 19) 17 = .ok (.iand, 1) := by decide +kernel
theorem s19_17 {M : Mm} {st : List Value} {l0 l1 : Option Value} {x y : Int32} : EE 19 17 [l0, l1] (.int y :: .int x :: st) M = EE 19 18 [l0, l1] (.int (x &&& y) :: st) M := e_II d19_17 rfl rfl rfl rfl rfl rfl
theorem d19_18 : decode (cod 19) 18 = .ok (.iconst 1, 1) := by decide +kernel
theorem s19_18 {M : Mm} {st : List Value} {l0 l1 : Option Value} : EE 19 18 [l0, l1] st M = EE 19 19 [l0, l1] (.int (nI 1) :: st) M := e_con d19_18 k_con_1
theorem d19_19 : decode (cod 19) 19 = .ok (.if_icmp .ne 7, 3) := by decide +kernel
theorem s19_19 {M : Mm} {st : List Value} {l0 l1 : Option Value} {x y : Int32} : EE 19 19 [l0, l1] (.int y :: .int x :: st) M = if x = y then EE 19 22 [l0, l1] st M else EE 19 26 [l0, l1] st M := e_cne d19_19 (by decide)
theorem d19_22 : decode (cod 19) 22 = .ok (.iconst 1, 1) := by decide +kernel
theorem s19_22 {M : Mm} {st : List Value} {l0 l1 : Option Value} : EE 19 22 [l0, l1] st M = EE 19 23 [l0, l1] (.int (nI 1) :: st) M := e_con d19_22 k_con_1
theorem d19_23 : decode (cod 19) 23 = .ok (.goto 4, 3) := by decide +kernel
theorem s19_23 {M : Mm} {st : List Value} {l0 l1 : Option Value} : EE 19 23 [l0, l1] st M = EE 19 27 [l0, l1] st M := e_goto d19_23 (by decide)
theorem d19_26 : decode (cod 19) 26 = .ok (.iconst 0, 1) := by decide +kernel
theorem s19_26 {M : Mm} {st : List Value} {l0 l1 : Option Value} : EE 19 26 [l0, l1] st M = EE 19 27 [l0, l1] (.int (nI 0) :: st) M := e_con d19_26 k_con_0
theorem d19_27 : decode (cod 19) 27 = .ok (.ireturn, 1) := by decide +kernel
theorem s19_27 {M : Mm} {l0 l1 : Option Value} {v : Int32} (h : narrow .boolean (.int v) = .int v) : EE 19 27 [l0, l1] [.int v] M = some (some (.int v), M) := e_iret d19_27 rfl h
theorem FE19 {a : Nat} {b0 : Int32} {M : Mm} : FF 19 [.ref a, .int b0] M = EE 19 0 [some (.ref a), some (.int b0)] [] M := FF_eq 19 _ _ (Nat.le_of_ble_eq_true rfl)
