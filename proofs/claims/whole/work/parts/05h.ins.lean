theorem d133_0 : decode (cod 133) 0 = .ok (.aload_n 0, 1) := by decide +kernel
theorem s133_0 {M : Mm} {st : List Value} {x : Nat} : EE 133 0 [some (.ref x)] st M = EE 133 1 [some (.ref x)] (.ref x :: st) M := e_ld d133_0 rfl rfl rfl rfl rfl rfl
theorem d133_1 : decode (cod 133) 1 = .ok (.getfield 7, 3) := by decide +kernel
theorem s133_1 {n : Nat} {I : Nat → Nat → Int32} {R : Nat → Nat → Option Nat} {st : List Value} {l0 : Option Value} {a : Nat} : EE 133 1 [l0] (.ref a :: st) (n, I, R) = (gfI n I R 3 0 a).bind (fun z => EE 133 4 [l0] (z :: st) (n, I, R)) := e_getf d133_1 f3_7 rfl rfl
theorem d133_4 : decode (cod 133) 4 = .ok (.iconst 0, 1) := by decide +kernel
theorem s133_4 {M : Mm} {st : List Value} {l0 : Option Value} : EE 133 4 [l0] st M = EE 133 5 [l0] (.int (nI 0) :: st) M := e_con d133_4 k_con_0
theorem d133_5 : decode (cod 133) 5 = .ok (.aload_n 0, 1) := by decide +kernel
theorem s133_5 {M : Mm} {st : List Value} {x : Nat} : EE 133 5 [some (.ref x)] st M = EE 133 6 [some (.ref x)] (.ref x :: st) M := e_ld d133_5 rfl rfl rfl rfl rfl rfl
theorem d133_6 : decode (cod 133) 6 = .ok (.getfield 13, 3) := by decide +kernel
theorem s133_6 {n : Nat} {I : Nat → Nat → Int32} {R : Nat → Nat → Option Nat} {st : List Value} {l0 : Option Value} {a : Nat} : EE 133 6 [l0] (.ref a :: st) (n, I, R) = (gfI n I R 3 1 a).bind (fun z => EE 133 9 [l0] (z :: st) (n, I, R)) := e_getf d133_6 f3_13 rfl rfl
theorem d133_9 : decode (cod 133) 9 = .ok (.iconst 0, 1) := by decide +kernel
theorem s133_9 {M : Mm} {st : List Value} {l0 : Option Value} : EE 133 9 [l0] st M = EE 133 10 [l0] (.int (nI 0) :: st) M := e_con d133_9 k_con_0
theorem d133_10 : decode (cod 133) 10 = .ok (.invokestatic 40, 3) := by decide +kernel
theorem s133_10 {M : Mm} {l0 : Option Value} {b0 : Nat} {b1 : Int32} {b2 : Nat} {b3 : Int32} {st : List Value} (hl : st.length ≤ 4) : EE 133 10 [l0] (.int b3 :: .ref b2 :: .int b1 :: .ref b0 :: st) M = (FF 82 [.ref b0, .int b1, .ref b2, .int b3] M).bind (fun z => EE 133 13 [l0] (psh z.1 st) z.2) := e_cals (av := [.ref b0, .int b1, .ref b2, .int b3]) d133_10 c3_40 (Or.inl rfl) rfl rfl r133_82 rfl hl
theorem d133_13 : decode (cod 133) 13 = .ok (.return_, 1) := by decide +kernel
theorem s133_13 {M : Mm} {l0 : Option Value} : EE 133 13 [l0] [] M = some (none, M) := e_vret d133_13 rfl
theorem FE133 {a : Nat} {M : Mm} : FF 133 [.ref a] M = EE 133 0 [some (.ref a)] [] M := FF_eq 133 _ _ (Nat.le_of_ble_eq_true rfl)
theorem d134_0 : decode (cod 134) 0 = .ok (.iload_n 1, 1) := by decide +kernel
theorem s134_0 {M : Mm} {st : List Value} {l0 l2 : Option Value} {x : Int32} : EE 134 0 [l0, some (.int x), l2] st M = EE 134 1 [l0, some (.int x), l2] (.int x :: st) M := e_ld d134_0 rfl rfl rfl rfl rfl rfl
theorem d134_1 : decode (cod 134) 1 = .ok (.iconst 1, 1) := by decide +kernel
theorem s134_1 {M : Mm} {st : List Value} {l0 l1 l2 : Option Value} : EE 134 1 [l0, l1, l2] st M = EE 134 2 [l0, l1, l2] (.int (nI 1) :: st) M := e_con d134_1 k_con_1
theorem d134_2 : decode (cod 134) 2 = .ok (.bipush 50, 2) := by decide +kernel
theorem s134_2 {M : Mm} {st : List Value} {l0 l1 l2 : Option Value} : EE 134 2 [l0, l1, l2] st M = EE 134 4 [l0, l1, l2] (.int (nI 50) :: st) M := e_bip d134_2 k_bip_50
theorem d134_4 : decode (cod 134) 4 = .ok (.invokestatic 32, 3) := by decide +kernel
theorem s134_4 {M : Mm} {l0 l1 l2 : Option Value} {b0 : Int32} {b1 : Int32} {b2 : Int32} {st : List Value} (hl : st.length ≤ 4) : EE 134 4 [l0, l1, l2] (.int b2 :: .int b1 :: .int b0 :: st) M = (FF 84 [.int b0, .int b1, .int b2] M).bind (fun z => EE 134 7 [l0, l1, l2] (psh z.1 st) z.2) := e_cals (av := [.int b0, .int b1, .int b2]) d134_4 c3_32 (Or.inl rfl) rfl rfl r134_84 rfl hl
theorem d134_7 : decode (cod 134) 7 = .ok (.ifCond .ne 6, 3) := by decide +kernel
theorem s134_7 {M : Mm} {st : List Value} {l0 l1 l2 : Option Value} {x : Int32} : EE 134 7 [l0, l1, l2] (.int x :: st) M = if x = 0 then EE 134 10 [l0, l1, l2] st M else EE 134 13 [l0, l1, l2] st M := e_ne0 d134_7 (by decide)
theorem d134_10 : decode (cod 134) 10 = .ok (.bipush (-2), 2) := by decide +kernel
theorem s134_10 {M : Mm} {st : List Value} {l0 l1 l2 : Option Value} : EE 134 10 [l0, l1, l2] st M = EE 134 12 [l0, l1, l2] (.int ((-2)) :: st) M := e_bip d134_10 k_bip_m2
theorem d134_12 : decode (cod 134) 12 = .ok (.ireturn, 1) := by decide +kernel
theorem s134_12 {M : Mm} {l0 l1 l2 : Option Value} {v : Int32} : EE 134 12 [l0, l1, l2] [.int v] M = some (some (.int v), M) := e_iret d134_12 rfl rfl
theorem d134_13 : decode (cod 134) 13 = .ok (.aload_n 0, 1) := by decide +kernel
theorem s134_13 {M : Mm} {st : List Value} {l1 l2 : Option Value} {x : Nat} : EE 134 13 [some (.ref x), l1, l2] st M = EE 134 14 [some (.ref x), l1, l2] (.ref x :: st) M := e_ld d134_13 rfl rfl rfl rfl rfl rfl
theorem d134_14 : decode (cod 134) 14 = .ok (.invokevirtual 161, 3) := by decide +kernel
theorem s134_14 {l0 l1 l2 : Option Value} {a : Nat} {M : Mm} {st : List Value} (hl : st.length ≤ 4) (ho : isO "HandoverDeskModel" M.1 a = true) : EE 134 14 [l0, l1, l2] (.ref a :: st) M = (FF 133 (.ref a :: []) M).bind (fun z => EE 134 17 [l0, l1, l2] (psh z.1 st) z.2) := e_calv (av := []) d134_14 c3_161 rfl rfl rfl r134_133 rfl hl ho
theorem d134_17 : decode (cod 134) 17 = .ok (.iconst 0, 1) := by decide +kernel
theorem s134_17 {M : Mm} {st : List Value} {l0 l1 l2 : Option Value} : EE 134 17 [l0, l1, l2] st M = EE 134 18 [l0, l1, l2] (.int (nI 0) :: st) M := e_con d134_17 k_con_0
theorem d134_18 : decode (cod 134) 18 = .ok (.istore_n 2, 1) := by decide +kernel
theorem s134_18 {M : Mm} {st : List Value} {l0 l1 l2 : Option Value} {x : Int32} : EE 134 18 [l0, l1, l2] (.int x :: st) M = EE 134 19 [l0, cln l1, some (.int x)] st M := e_st1 d134_18 rfl rfl rfl rfl rfl rfl rfl (Nat.le_of_ble_eq_true rfl) rfl
theorem d134_19 : decode (cod 134) 19 = .ok (.iload_n 2, 1) := by decide +kernel
theorem s134_19 {M : Mm} {st : List Value} {l0 l1 : Option Value} {x : Int32} : EE 134 19 [l0, l1, some (.int x)] st M = EE 134 20 [l0, l1, some (.int x)] (.int x :: st) M := e_ld d134_19 rfl rfl rfl rfl rfl rfl
theorem d134_20 : decode (cod 134) 20 = .ok (.iload_n 1, 1) := by decide +kernel
theorem s134_20 {M : Mm} {st : List Value} {l0 l2 : Option Value} {x : Int32} : EE 134 20 [l0, some (.int x), l2] st M = EE 134 21 [l0, some (.int x), l2] (.int x :: st) M := e_ld d134_20 rfl rfl rfl rfl rfl rfl
theorem d134_21 : decode (cod 134) 21 = .ok (.if_icmp .ge 17, 3) := by decide +kernel
theorem s134_21 {M : Mm} {st : List Value} {l0 l1 l2 : Option Value} {x y : Int32} : EE 134 21 [l0, l1, l2] (.int y :: .int x :: st) M = if y ≤ x then EE 134 38 [l0, l1, l2] st M else EE 134 24 [l0, l1, l2] st M := e_cge d134_21 (by decide)
theorem d134_24 : decode (cod 134) 24 = .ok (.aload_n 0, 1) := by decide +kernel
theorem s134_24 {M : Mm} {st : List Value} {l1 l2 : Option Value} {x : Nat} : EE 134 24 [some (.ref x), l1, l2] st M = EE 134 25 [some (.ref x), l1, l2] (.ref x :: st) M := e_ld d134_24 rfl rfl rfl rfl rfl rfl
theorem d134_25 : decode (cod 134) 25 = .ok (.getfield 13, 3) := by decide +kernel
theorem s134_25 {n : Nat} {I : Nat → Nat → Int32} {R : Nat → Nat → Option Nat} {st : List Value} {l0 l1 l2 : Option Value} {a : Nat} : EE 134 25 [l0, l1, l2] (.ref a :: st) (n, I, R) = (gfI n I R 3 1 a).bind (fun z => EE 134 28 [l0, l1, l2] (z :: st) (n, I, R)) := e_getf d134_25 f3_13 rfl rfl
theorem d134_28 : decode (cod 134) 28 = .ok (.invokestatic 133, 3) := by decide +kernel
theorem s134_28 {M : Mm} {l0 l1 l2 : Option Value} {b0 : Nat} {st : List Value} (hl : st.length ≤ 4) : EE 134 28 [l0, l1, l2] (.ref b0 :: st) M = (FF 115 [.ref b0] M).bind (fun z => EE 134 31 [l0, l1, l2] (psh z.1 st) z.2) := e_cals (av := [.ref b0]) d134_28 c3_133 (Or.inl rfl) rfl rfl r134_115 rfl hl
theorem d134_31 : decode (cod 134) 31 = .ok (.pop, 1) := by decide +kernel
theorem s134_31i {M : Mm} {st : List Value} {l0 l1 l2 : Option Value} {x : Int32} : EE 134 31 [l0, l1, l2] (.int x :: st) M = EE 134 32 [l0, l1, l2] st M := e_pop d134_31 rfl
theorem s134_31r {M : Mm} {st : List Value} {l0 l1 l2 : Option Value} {x : Nat} : EE 134 31 [l0, l1, l2] (.ref x :: st) M = EE 134 32 [l0, l1, l2] st M := e_pop d134_31 rfl
theorem d134_32 : decode (cod 134) 32 = .ok (.iinc 2 1, 3) := by decide +kernel
theorem s134_32 {M : Mm} {st : List Value} {l0 l1 : Option Value} {x : Int32} : EE 134 32 [l0, l1, some (.int x)] st M = EE 134 35 [l0, cln l1, some (.int (x + nI 1))] st M := e_iinc d134_32 rfl (congrArg (fun z => x + z) k_inc_1) rfl
theorem d134_35 : decode (cod 134) 35 = .ok (.goto (-16), 3) := by decide +kernel
theorem s134_35 {M : Mm} {st : List Value} {l0 l1 l2 : Option Value} : EE 134 35 [l0, l1, l2] st M = EE 134 19 [l0, l1, l2] st M := e_goto d134_35 (by decide)
theorem d134_38 : decode (cod 134) 38 = .ok (.aload_n 0, 1) := by decide +kernel
theorem s134_38 {M : Mm} {st : List Value} {l1 l2 : Option Value} {x : Nat} : EE 134 38 [some (.ref x), l1, l2] st M = EE 134 39 [some (.ref x), l1, l2] (.ref x :: st) M := e_ld d134_38 rfl rfl rfl rfl rfl rfl
theorem d134_39 : decode (cod 134) 39 = .ok (.getfield 13, 3) := by decide +kernel
theorem s134_39 {n : Nat} {I : Nat → Nat → Int32} {R : Nat → Nat → Option Nat} {st : List Value} {l0 l1 l2 : Option Value} {a : Nat} : EE 134 39 [l0, l1, l2] (.ref a :: st) (n, I, R) = (gfI n I R 3 1 a).bind (fun z => EE 134 42 [l0, l1, l2] (z :: st) (n, I, R)) := e_getf d134_39 f3_13 rfl rfl
theorem d134_42 : decode (cod 134) 42 = .ok (.iconst 2, 1) := by decide +kernel
theorem s134_42 {M : Mm} {st : List Value} {l0 l1 l2 : Option Value} : EE 134 42 [l0, l1, l2] st M = EE 134 43 [l0, l1, l2] (.int (nI 2) :: st) M := e_con d134_42 k_con_2
theorem d134_43 : decode (cod 134) 43 = .ok (.invokestatic 141, 3) := by decide +kernel
theorem s134_43 {M : Mm} {l0 l1 l2 : Option Value} {b0 : Nat} {b1 : Int32} {st : List Value} (hl : st.length ≤ 4) : EE 134 43 [l0, l1, l2] (.int b1 :: .ref b0 :: st) M = (FF 127 [.ref b0, .int b1] M).bind (fun z => EE 134 46 [l0, l1, l2] (psh z.1 st) z.2) := e_cals (av := [.ref b0, .int b1]) d134_43 c3_141 (Or.inl rfl) rfl rfl r134_127 rfl hl
theorem d134_46 : decode (cod 134) 46 = .ok (.ireturn, 1) := by decide +kernel
theorem s134_46 {M : Mm} {l0 l1 l2 : Option Value} {v : Int32} : EE 134 46 [l0, l1, l2] [.int v] M = some (some (.int v), M) := e_iret d134_46 rfl rfl
theorem FE134 {a : Nat} {b0 : Int32} {M : Mm} : FF 134 [.ref a, .int b0] M = EE 134 0 [some (.ref a), some (.int b0), none] [] M := FF_eq 134 _ _ (Nat.le_of_ble_eq_true rfl)
theorem d135_0 : decode (cod 135) 0 = .ok (.iload_n 1, 1) := by decide +kernel
theorem s135_0 {M : Mm} {st : List Value} {l0 l2 l3 l4 l5 l6 l7 l8 : Option Value} {x : Int32} : EE 135 0 [l0, some (.int x), l2, l3, l4, l5, l6, l7, l8] st M = EE 135 1 [l0, some (.int x), l2, l3, l4, l5, l6, l7, l8] (.int x :: st) M := e_ld d135_0 rfl rfl rfl rfl rfl rfl
theorem d135_1 : decode (cod 135) 1 = .ok (.iconst 0, 1) := by decide +kernel
theorem s135_1 {M : Mm} {st : List Value} {l0 l1 l2 l3 l4 l5 l6 l7 l8 : Option Value} : EE 135 1 [l0, l1, l2, l3, l4, l5, l6, l7, l8] st M = EE 135 2 [l0, l1, l2, l3, l4, l5, l6, l7, l8] (.int (nI 0) :: st) M := e_con d135_1 k_con_0
theorem d135_2 : decode (cod 135) 2 = .ok (.bipush 40, 2) := by decide +kernel
theorem s135_2 {M : Mm} {st : List Value} {l0 l1 l2 l3 l4 l5 l6 l7 l8 : Option Value} : EE 135 2 [l0, l1, l2, l3, l4, l5, l6, l7, l8] st M = EE 135 4 [l0, l1, l2, l3, l4, l5, l6, l7, l8] (.int (nI 40) :: st) M := e_bip d135_2 k_bip_40
theorem d135_4 : decode (cod 135) 4 = .ok (.invokestatic 32, 3) := by decide +kernel
theorem s135_4 {M : Mm} {l0 l1 l2 l3 l4 l5 l6 l7 l8 : Option Value} {b0 : Int32} {b1 : Int32} {b2 : Int32} {st : List Value} (hl : st.length ≤ 4) : EE 135 4 [l0, l1, l2, l3, l4, l5, l6, l7, l8] (.int b2 :: .int b1 :: .int b0 :: st) M = (FF 84 [.int b0, .int b1, .int b2] M).bind (fun z => EE 135 7 [l0, l1, l2, l3, l4, l5, l6, l7, l8] (psh z.1 st) z.2) := e_cals (av := [.int b0, .int b1, .int b2]) d135_4 c3_32 (Or.inl rfl) rfl rfl r135_84 rfl hl
theorem d135_7 : decode (cod 135) 7 = .ok (.ifCond .eq 12, 3) := by decide +kernel
theorem s135_7 {M : Mm} {st : List Value} {l0 l1 l2 l3 l4 l5 l6 l7 l8 : Option Value} {x : Int32} : EE 135 7 [l0, l1, l2, l3, l4, l5, l6, l7, l8] (.int x :: st) M = if x = 0 then EE 135 19 [l0, l1, l2, l3, l4, l5, l6, l7, l8] st M else EE 135 10 [l0, l1, l2, l3, l4, l5, l6, l7, l8] st M := e_eq0 d135_7 (by decide)
theorem d135_10 : decode (cod 135) 10 = .ok (.iload_n 2, 1) := by decide +kernel
theorem s135_10 {M : Mm} {st : List Value} {l0 l1 l3 l4 l5 l6 l7 l8 : Option Value} {x : Int32} : EE 135 10 [l0, l1, some (.int x), l3, l4, l5, l6, l7, l8] st M = EE 135 11 [l0, l1, some (.int x), l3, l4, l5, l6, l7, l8] (.int x :: st) M := e_ld d135_10 rfl rfl rfl rfl rfl rfl
theorem d135_11 : decode (cod 135) 11 = .ok (.iconst 0, 1) := by decide +kernel
theorem s135_11 {M : Mm} {st : List Value} {l0 l1 l2 l3 l4 l5 l6 l7 l8 : Option Value} : EE 135 11 [l0, l1, l2, l3, l4, l5, l6, l7, l8] st M = EE 135 12 [l0, l1, l2, l3, l4, l5, l6, l7, l8] (.int (nI 0) :: st) M := e_con d135_11 k_con_0
theorem d135_12 : decode (cod 135) 12 = .ok (.iconst 3, 1) := by decide +kernel
theorem s135_12 {M : Mm} {st : List Value} {l0 l1 l2 l3 l4 l5 l6 l7 l8 : Option Value} : EE 135 12 [l0, l1, l2, l3, l4, l5, l6, l7, l8] st M = EE 135 13 [l0, l1, l2, l3, l4, l5, l6, l7, l8] (.int (nI 3) :: st) M := e_con d135_12 k_con_3
theorem d135_13 : decode (cod 135) 13 = .ok (.invokestatic 32, 3) := by decide +kernel
theorem s135_13 {M : Mm} {l0 l1 l2 l3 l4 l5 l6 l7 l8 : Option Value} {b0 : Int32} {b1 : Int32} {b2 : Int32} {st : List Value} (hl : st.length ≤ 4) : EE 135 13 [l0, l1, l2, l3, l4, l5, l6, l7, l8] (.int b2 :: .int b1 :: .int b0 :: st) M = (FF 84 [.int b0, .int b1, .int b2] M).bind (fun z => EE 135 16 [l0, l1, l2, l3, l4, l5, l6, l7, l8] (psh z.1 st) z.2) := e_cals (av := [.int b0, .int b1, .int b2]) d135_13 c3_32 (Or.inl rfl) rfl rfl r135_84 rfl hl
theorem d135_16 : decode (cod 135) 16 = .ok (.ifCond .ne 6, 3) := by decide +kernel
theorem s135_16 {M : Mm} {st : List Value} {l0 l1 l2 l3 l4 l5 l6 l7 l8 : Option Value} {x : Int32} : EE 135 16 [l0, l1, l2, l3, l4, l5, l6, l7, l8] (.int x :: st) M = if x = 0 then EE 135 19 [l0, l1, l2, l3, l4, l5, l6, l7, l8] st M else EE 135 22 [l0, l1, l2, l3, l4, l5, l6, l7, l8] st M := e_ne0 d135_16 (by decide)
theorem d135_19 : decode (cod 135) 19 = .ok (.bipush (-2), 2) := by decide +kernel
theorem s135_19 {M : Mm} {st : List Value} {l0 l1 l2 l3 l4 l5 l6 l7 l8 : Option Value} : EE 135 19 [l0, l1, l2, l3, l4, l5, l6, l7, l8] st M = EE 135 21 [l0, l1, l2, l3, l4, l5, l6, l7, l8] (.int ((-2)) :: st) M := e_bip d135_19 k_bip_m2
theorem d135_21 : decode (cod 135) 21 = .ok (.ireturn, 1) := by decide +kernel
theorem s135_21 {M : Mm} {l0 l1 l2 l3 l4 l5 l6 l7 l8 : Option Value} {v : Int32} : EE 135 21 [l0, l1, l2, l3, l4, l5, l6, l7, l8] [.int v] M = some (some (.int v), M) := e_iret d135_21 rfl rfl
theorem d135_22 : decode (cod 135) 22 = .ok (.bipush (-6), 2) := by decide +kernel
theorem s135_22 {M : Mm} {st : List Value} {l0 l1 l2 l3 l4 l5 l6 l7 l8 : Option Value} : EE 135 22 [l0, l1, l2, l3, l4, l5, l6, l7, l8] st M = EE 135 24 [l0, l1, l2, l3, l4, l5, l6, l7, l8] (.int ((-6)) :: st) M := e_bip d135_22 k_bip_m6
theorem d135_24 : decode (cod 135) 24 = .ok (.istore_n 3, 1) := by decide +kernel
theorem s135_24 {M : Mm} {st : List Value} {l0 l1 l2 l3 l4 l5 l6 l7 l8 : Option Value} {x : Int32} : EE 135 24 [l0, l1, l2, l3, l4, l5, l6, l7, l8] (.int x :: st) M = EE 135 25 [l0, l1, cln l2, some (.int x), l4, l5, l6, l7, l8] st M := e_st1 d135_24 rfl rfl rfl rfl rfl rfl rfl (Nat.le_of_ble_eq_true rfl) rfl
theorem d135_25 : decode (cod 135) 25 = .ok (.iconst 0, 1) := by decide +kernel
theorem s135_25 {M : Mm} {st : List Value} {l0 l1 l2 l3 l4 l5 l6 l7 l8 : Option Value} : EE 135 25 [l0, l1, l2, l3, l4, l5, l6, l7, l8] st M = EE 135 26 [l0, l1, l2, l3, l4, l5, l6, l7, l8] (.int (nI 0) :: st) M := e_con d135_25 k_con_0
theorem d135_26 : decode (cod 135) 26 = .ok (.istore 4, 2) := by decide +kernel
theorem s135_26 {M : Mm} {st : List Value} {l0 l1 l2 l3 l4 l5 l6 l7 l8 : Option Value} {x : Int32} : EE 135 26 [l0, l1, l2, l3, l4, l5, l6, l7, l8] (.int x :: st) M = EE 135 28 [l0, l1, l2, cln l3, some (.int x), l5, l6, l7, l8] st M := e_st1 d135_26 rfl rfl rfl rfl rfl rfl rfl (Nat.le_of_ble_eq_true rfl) rfl
theorem d135_28 : decode (cod 135) 28 = .ok (.iconst 0, 1) := by decide +kernel
theorem s135_28 {M : Mm} {st : List Value} {l0 l1 l2 l3 l4 l5 l6 l7 l8 : Option Value} : EE 135 28 [l0, l1, l2, l3, l4, l5, l6, l7, l8] st M = EE 135 29 [l0, l1, l2, l3, l4, l5, l6, l7, l8] (.int (nI 0) :: st) M := e_con d135_28 k_con_0
theorem d135_29 : decode (cod 135) 29 = .ok (.istore 5, 2) := by decide +kernel
theorem s135_29 {M : Mm} {st : List Value} {l0 l1 l2 l3 l4 l5 l6 l7 l8 : Option Value} {x : Int32} : EE 135 29 [l0, l1, l2, l3, l4, l5, l6, l7, l8] (.int x :: st) M = EE 135 31 [l0, l1, l2, l3, cln l4, some (.int x), l6, l7, l8] st M := e_st1 d135_29 rfl rfl rfl rfl rfl rfl rfl (Nat.le_of_ble_eq_true rfl) rfl
theorem d135_31 : decode (cod 135) 31 = .ok (.iconst 0, 1) := by decide +kernel
theorem s135_31 {M : Mm} {st : List Value} {l0 l1 l2 l3 l4 l5 l6 l7 l8 : Option Value} : EE 135 31 [l0, l1, l2, l3, l4, l5, l6, l7, l8] st M = EE 135 32 [l0, l1, l2, l3, l4, l5, l6, l7, l8] (.int (nI 0) :: st) M := e_con d135_31 k_con_0
theorem d135_32 : decode (cod 135) 32 = .ok (.istore 6, 2) := by decide +kernel
theorem s135_32 {M : Mm} {st : List Value} {l0 l1 l2 l3 l4 l5 l6 l7 l8 : Option Value} {x : Int32} : EE 135 32 [l0, l1, l2, l3, l4, l5, l6, l7, l8] (.int x :: st) M = EE 135 34 [l0, l1, l2, l3, l4, cln l5, some (.int x), l7, l8] st M := e_st1 d135_32 rfl rfl rfl rfl rfl rfl rfl (Nat.le_of_ble_eq_true rfl) rfl
theorem d135_34 : decode (cod 135) 34 = .ok (.iload 6, 2) := by decide +kernel
theorem s135_34 {M : Mm} {st : List Value} {l0 l1 l2 l3 l4 l5 l7 l8 : Option Value} {x : Int32} : EE 135 34 [l0, l1, l2, l3, l4, l5, some (.int x), l7, l8] st M = EE 135 36 [l0, l1, l2, l3, l4, l5, some (.int x), l7, l8] (.int x :: st) M := e_ld d135_34 rfl rfl rfl rfl rfl rfl
theorem d135_36 : decode (cod 135) 36 = .ok (.iload_n 1, 1) := by decide +kernel
theorem s135_36 {M : Mm} {st : List Value} {l0 l2 l3 l4 l5 l6 l7 l8 : Option Value} {x : Int32} : EE 135 36 [l0, some (.int x), l2, l3, l4, l5, l6, l7, l8] st M = EE 135 37 [l0, some (.int x), l2, l3, l4, l5, l6, l7, l8] (.int x :: st) M := e_ld d135_36 rfl rfl rfl rfl rfl rfl
theorem d135_37 : decode (cod 135) 37 = .ok (.if_icmp .gt 67, 3) := by decide +kernel
theorem s135_37 {M : Mm} {st : List Value} {l0 l1 l2 l3 l4 l5 l6 l7 l8 : Option Value} {x y : Int32} : EE 135 37 [l0, l1, l2, l3, l4, l5, l6, l7, l8] (.int y :: .int x :: st) M = if y < x then EE 135 104 [l0, l1, l2, l3, l4, l5, l6, l7, l8] st M else EE 135 40 [l0, l1, l2, l3, l4, l5, l6, l7, l8] st M := e_cgt d135_37 (by decide)
theorem d135_40 : decode (cod 135) 40 = .ok (.iconst 0, 1) := by decide +kernel
theorem s135_40 {M : Mm} {st : List Value} {l0 l1 l2 l3 l4 l5 l6 l7 l8 : Option Value} : EE 135 40 [l0, l1, l2, l3, l4, l5, l6, l7, l8] st M = EE 135 41 [l0, l1, l2, l3, l4, l5, l6, l7, l8] (.int (nI 0) :: st) M := e_con d135_40 k_con_0
theorem d135_41 : decode (cod 135) 41 = .ok (.istore 7, 2) := by decide +kernel
theorem s135_41 {M : Mm} {st : List Value} {l0 l1 l2 l3 l4 l5 l6 l7 l8 : Option Value} {x : Int32} : EE 135 41 [l0, l1, l2, l3, l4, l5, l6, l7, l8] (.int x :: st) M = EE 135 43 [l0, l1, l2, l3, l4, l5, cln l6, some (.int x), l8] st M := e_st1 d135_41 rfl rfl rfl rfl rfl rfl rfl (Nat.le_of_ble_eq_true rfl) rfl
theorem d135_43 : decode (cod 135) 43 = .ok (.iload 6, 2) := by decide +kernel
theorem s135_43 {M : Mm} {st : List Value} {l0 l1 l2 l3 l4 l5 l7 l8 : Option Value} {x : Int32} : EE 135 43 [l0, l1, l2, l3, l4, l5, some (.int x), l7, l8] st M = EE 135 45 [l0, l1, l2, l3, l4, l5, some (.int x), l7, l8] (.int x :: st) M := e_ld d135_43 rfl rfl rfl rfl rfl rfl
theorem d135_45 : decode (cod 135) 45 = .ok (.iload 7, 2) := by decide +kernel
theorem s135_45 {M : Mm} {st : List Value} {l0 l1 l2 l3 l4 l5 l6 l8 : Option Value} {x : Int32} : EE 135 45 [l0, l1, l2, l3, l4, l5, l6, some (.int x), l8] st M = EE 135 47 [l0, l1, l2, l3, l4, l5, l6, some (.int x), l8] (.int x :: st) M := e_ld d135_45 rfl rfl rfl rfl rfl rfl
theorem d135_47 : decode (cod 135) 47 = .ok (.iadd, 1) := by decide +kernel
theorem s135_47 {M : Mm} {st : List Value} {l0 l1 l2 l3 l4 l5 l6 l7 l8 : Option Value} {x y : Int32} : EE 135 47 [l0, l1, l2, l3, l4, l5, l6, l7, l8] (.int y :: .int x :: st) M = EE 135 48 [l0, l1, l2, l3, l4, l5, l6, l7, l8] (.int (x + y) :: st) M := e_II d135_47 rfl rfl rfl rfl rfl rfl
theorem d135_48 : decode (cod 135) 48 = .ok (.iload_n 1, 1) := by decide +kernel
theorem s135_48 {M : Mm} {st : List Value} {l0 l2 l3 l4 l5 l6 l7 l8 : Option Value} {x : Int32} : EE 135 48 [l0, some (.int x), l2, l3, l4, l5, l6, l7, l8] st M = EE 135 49 [l0, some (.int x), l2, l3, l4, l5, l6, l7, l8] (.int x :: st) M := e_ld d135_48 rfl rfl rfl rfl rfl rfl
theorem d135_49 : decode (cod 135) 49 = .ok (.if_icmp .gt 49, 3) := by decide +kernel
theorem s135_49 {M : Mm} {st : List Value} {l0 l1 l2 l3 l4 l5 l6 l7 l8 : Option Value} {x y : Int32} : EE 135 49 [l0, l1, l2, l3, l4, l5, l6, l7, l8] (.int y :: .int x :: st) M = if y < x then EE 135 98 [l0, l1, l2, l3, l4, l5, l6, l7, l8] st M else EE 135 52 [l0, l1, l2, l3, l4, l5, l6, l7, l8] st M := e_cgt d135_49 (by decide)
theorem d135_52 : decode (cod 135) 52 = .ok (.aload_n 0, 1) := by decide +kernel
theorem s135_52 {M : Mm} {st : List Value} {l1 l2 l3 l4 l5 l6 l7 l8 : Option Value} {x : Nat} : EE 135 52 [some (.ref x), l1, l2, l3, l4, l5, l6, l7, l8] st M = EE 135 53 [some (.ref x), l1, l2, l3, l4, l5, l6, l7, l8] (.ref x :: st) M := e_ld d135_52 rfl rfl rfl rfl rfl rfl
theorem d135_53 : decode (cod 135) 53 = .ok (.iload 6, 2) := by decide +kernel
theorem s135_53 {M : Mm} {st : List Value} {l0 l1 l2 l3 l4 l5 l7 l8 : Option Value} {x : Int32} : EE 135 53 [l0, l1, l2, l3, l4, l5, some (.int x), l7, l8] st M = EE 135 55 [l0, l1, l2, l3, l4, l5, some (.int x), l7, l8] (.int x :: st) M := e_ld d135_53 rfl rfl rfl rfl rfl rfl
theorem d135_55 : decode (cod 135) 55 = .ok (.iload 7, 2) := by decide +kernel
theorem s135_55 {M : Mm} {st : List Value} {l0 l1 l2 l3 l4 l5 l6 l8 : Option Value} {x : Int32} : EE 135 55 [l0, l1, l2, l3, l4, l5, l6, some (.int x), l8] st M = EE 135 57 [l0, l1, l2, l3, l4, l5, l6, some (.int x), l8] (.int x :: st) M := e_ld d135_55 rfl rfl rfl rfl rfl rfl
theorem d135_57 : decode (cod 135) 57 = .ok (.iload_n 1, 1) := by decide +kernel
theorem s135_57 {M : Mm} {st : List Value} {l0 l2 l3 l4 l5 l6 l7 l8 : Option Value} {x : Int32} : EE 135 57 [l0, some (.int x), l2, l3, l4, l5, l6, l7, l8] st M = EE 135 58 [l0, some (.int x), l2, l3, l4, l5, l6, l7, l8] (.int x :: st) M := e_ld d135_57 rfl rfl rfl rfl rfl rfl
theorem d135_58 : decode (cod 135) 58 = .ok (.iload 6, 2) := by decide +kernel
theorem s135_58 {M : Mm} {st : List Value} {l0 l1 l2 l3 l4 l5 l7 l8 : Option Value} {x : Int32} : EE 135 58 [l0, l1, l2, l3, l4, l5, some (.int x), l7, l8] st M = EE 135 60 [l0, l1, l2, l3, l4, l5, some (.int x), l7, l8] (.int x :: st) M := e_ld d135_58 rfl rfl rfl rfl rfl rfl
theorem d135_60 : decode (cod 135) 60 = .ok (.isub, 1) := by decide +kernel
theorem s135_60 {M : Mm} {st : List Value} {l0 l1 l2 l3 l4 l5 l6 l7 l8 : Option Value} {x y : Int32} : EE 135 60 [l0, l1, l2, l3, l4, l5, l6, l7, l8] (.int y :: .int x :: st) M = EE 135 61 [l0, l1, l2, l3, l4, l5, l6, l7, l8] (.int (x - y) :: st) M := e_II d135_60 rfl rfl rfl rfl rfl rfl
theorem d135_61 : decode (cod 135) 61 = .ok (.iload 7, 2) := by decide +kernel
theorem s135_61 {M : Mm} {st : List Value} {l0 l1 l2 l3 l4 l5 l6 l8 : Option Value} {x : Int32} : EE 135 61 [l0, l1, l2, l3, l4, l5, l6, some (.int x), l8] st M = EE 135 63 [l0, l1, l2, l3, l4, l5, l6, some (.int x), l8] (.int x :: st) M := e_ld d135_61 rfl rfl rfl rfl rfl rfl
theorem d135_63 : decode (cod 135) 63 = .ok (.isub, 1) := by decide +kernel
theorem s135_63 {M : Mm} {st : List Value} {l0 l1 l2 l3 l4 l5 l6 l7 l8 : Option Value} {x y : Int32} : EE 135 63 [l0, l1, l2, l3, l4, l5, l6, l7, l8] (.int y :: .int x :: st) M = EE 135 64 [l0, l1, l2, l3, l4, l5, l6, l7, l8] (.int (x - y) :: st) M := e_II d135_63 rfl rfl rfl rfl rfl rfl
theorem d135_64 : decode (cod 135) 64 = .ok (.invokevirtual 164, 3) := by decide +kernel
theorem s135_64 {l0 l1 l2 l3 l4 l5 l6 l7 l8 : Option Value} {a : Nat} {M : Mm} {b0 : Int32} {b1 : Int32} {b2 : Int32} {st : List Value} (hl : st.length ≤ 4) (ho : isO "HandoverDeskModel" M.1 a = true) : EE 135 64 [l0, l1, l2, l3, l4, l5, l6, l7, l8] (.int b2 :: .int b1 :: .int b0 :: .ref a :: st) M = (FF 136 (.ref a :: [.int b0, .int b1, .int b2]) M).bind (fun z => EE 135 67 [l0, l1, l2, l3, l4, l5, l6, l7, l8] (psh z.1 st) z.2) := e_calv (av := [.int b0, .int b1, .int b2]) d135_64 c3_164 rfl rfl rfl r135_136 rfl hl ho
theorem d135_67 : decode (cod 135) 67 = .ok (.istore 8, 2) := by decide +kernel
theorem s135_67 {M : Mm} {st : List Value} {l0 l1 l2 l3 l4 l5 l6 l7 l8 : Option Value} {x : Int32} : EE 135 67 [l0, l1, l2, l3, l4, l5, l6, l7, l8] (.int x :: st) M = EE 135 69 [l0, l1, l2, l3, l4, l5, l6, cln l7, some (.int x)] st M := e_st1 d135_67 rfl rfl rfl rfl rfl rfl rfl (Nat.le_of_ble_eq_true rfl) rfl
theorem d135_69 : decode (cod 135) 69 = .ok (.iload_n 3, 1) := by decide +kernel
theorem s135_69 {M : Mm} {st : List Value} {l0 l1 l2 l4 l5 l6 l7 l8 : Option Value} {x : Int32} : EE 135 69 [l0, l1, l2, some (.int x), l4, l5, l6, l7, l8] st M = EE 135 70 [l0, l1, l2, some (.int x), l4, l5, l6, l7, l8] (.int x :: st) M := e_ld d135_69 rfl rfl rfl rfl rfl rfl
theorem d135_70 : decode (cod 135) 70 = .ok (.bipush (-6), 2) := by decide +kernel
theorem s135_70 {M : Mm} {st : List Value} {l0 l1 l2 l3 l4 l5 l6 l7 l8 : Option Value} : EE 135 70 [l0, l1, l2, l3, l4, l5, l6, l7, l8] st M = EE 135 72 [l0, l1, l2, l3, l4, l5, l6, l7, l8] (.int ((-6)) :: st) M := e_bip d135_70 k_bip_m6
theorem d135_72 : decode (cod 135) 72 = .ok (.if_icmp .eq 9, 3) := by decide +kernel
theorem s135_72 {M : Mm} {st : List Value} {l0 l1 l2 l3 l4 l5 l6 l7 l8 : Option Value} {x y : Int32} : EE 135 72 [l0, l1, l2, l3, l4, l5, l6, l7, l8] (.int y :: .int x :: st) M = if x = y then EE 135 81 [l0, l1, l2, l3, l4, l5, l6, l7, l8] st M else EE 135 75 [l0, l1, l2, l3, l4, l5, l6, l7, l8] st M := e_ceq d135_72 (by decide)
theorem d135_75 : decode (cod 135) 75 = .ok (.iload 8, 2) := by decide +kernel
theorem s135_75 {M : Mm} {st : List Value} {l0 l1 l2 l3 l4 l5 l6 l7 : Option Value} {x : Int32} : EE 135 75 [l0, l1, l2, l3, l4, l5, l6, l7, some (.int x)] st M = EE 135 77 [l0, l1, l2, l3, l4, l5, l6, l7, some (.int x)] (.int x :: st) M := e_ld d135_75 rfl rfl rfl rfl rfl rfl
theorem d135_77 : decode (cod 135) 77 = .ok (.iload_n 3, 1) := by decide +kernel
theorem s135_77 {M : Mm} {st : List Value} {l0 l1 l2 l4 l5 l6 l7 l8 : Option Value} {x : Int32} : EE 135 77 [l0, l1, l2, some (.int x), l4, l5, l6, l7, l8] st M = EE 135 78 [l0, l1, l2, some (.int x), l4, l5, l6, l7, l8] (.int x :: st) M := e_ld d135_77 rfl rfl rfl rfl rfl rfl
theorem d135_78 : decode (cod 135) 78 = .ok (.if_icmp .ge 14, 3) := by decide +kernel
theorem s135_78 {M : Mm} {st : List Value} {l0 l1 l2 l3 l4 l5 l6 l7 l8 : Option Value} {x y : Int32} : EE 135 78 [l0, l1, l2, l3, l4, l5, l6, l7, l8] (.int y :: .int x :: st) M = if y ≤ x then EE 135 92 [l0, l1, l2, l3, l4, l5, l6, l7, l8] st M else EE 135 81 [l0, l1, l2, l3, l4, l5, l6, l7, l8] st M := e_cge d135_78 (by decide)
theorem d135_81 : decode (cod 135) 81 = .ok (.iload 8, 2) := by decide +kernel
theorem s135_81 {M : Mm} {st : List Value} {l0 l1 l2 l3 l4 l5 l6 l7 : Option Value} {x : Int32} : EE 135 81 [l0, l1, l2, l3, l4, l5, l6, l7, some (.int x)] st M = EE 135 83 [l0, l1, l2, l3, l4, l5, l6, l7, some (.int x)] (.int x :: st) M := e_ld d135_81 rfl rfl rfl rfl rfl rfl
theorem d135_83 : decode (cod 135) 83 = .ok (.istore_n 3, 1) := by decide +kernel
theorem s135_83 {M : Mm} {st : List Value} {l0 l1 l2 l3 l4 l5 l6 l7 l8 : Option Value} {x : Int32} : EE 135 83 [l0, l1, l2, l3, l4, l5, l6, l7, l8] (.int x :: st) M = EE 135 84 [l0, l1, cln l2, some (.int x), l4, l5, l6, l7, l8] st M := e_st1 d135_83 rfl rfl rfl rfl rfl rfl rfl (Nat.le_of_ble_eq_true rfl) rfl
theorem d135_84 : decode (cod 135) 84 = .ok (.iload 6, 2) := by decide +kernel
theorem s135_84 {M : Mm} {st : List Value} {l0 l1 l2 l3 l4 l5 l7 l8 : Option Value} {x : Int32} : EE 135 84 [l0, l1, l2, l3, l4, l5, some (.int x), l7, l8] st M = EE 135 86 [l0, l1, l2, l3, l4, l5, some (.int x), l7, l8] (.int x :: st) M := e_ld d135_84 rfl rfl rfl rfl rfl rfl
theorem d135_86 : decode (cod 135) 86 = .ok (.istore 4, 2) := by decide +kernel
theorem s135_86 {M : Mm} {st : List Value} {l0 l1 l2 l3 l4 l5 l6 l7 l8 : Option Value} {x : Int32} : EE 135 86 [l0, l1, l2, l3, l4, l5, l6, l7, l8] (.int x :: st) M = EE 135 88 [l0, l1, l2, cln l3, some (.int x), l5, l6, l7, l8] st M := e_st1 d135_86 rfl rfl rfl rfl rfl rfl rfl (Nat.le_of_ble_eq_true rfl) rfl
theorem d135_88 : decode (cod 135) 88 = .ok (.iload 7, 2) := by decide +kernel
theorem s135_88 {M : Mm} {st : List Value} {l0 l1 l2 l3 l4 l5 l6 l8 : Option Value} {x : Int32} : EE 135 88 [l0, l1, l2, l3, l4, l5, l6, some (.int x), l8] st M = EE 135 90 [l0, l1, l2, l3, l4, l5, l6, some (.int x), l8] (.int x :: st) M := e_ld d135_88 rfl rfl rfl rfl rfl rfl
theorem d135_90 : decode (cod 135) 90 = .ok (.istore 5, 2) := by decide +kernel
theorem s135_90 {M : Mm} {st : List Value} {l0 l1 l2 l3 l4 l5 l6 l7 l8 : Option Value} {x : Int32} : EE 135 90 [l0, l1, l2, l3, l4, l5, l6, l7, l8] (.int x :: st) M = EE 135 92 [l0, l1, l2, l3, cln l4, some (.int x), l6, l7, l8] st M := e_st1 d135_90 rfl rfl rfl rfl rfl rfl rfl (Nat.le_of_ble_eq_true rfl) rfl
theorem d135_92 : decode (cod 135) 92 = .ok (.iinc 7 1, 3) := by decide +kernel
theorem s135_92 {M : Mm} {st : List Value} {l0 l1 l2 l3 l4 l5 l6 l8 : Option Value} {x : Int32} : EE 135 92 [l0, l1, l2, l3, l4, l5, l6, some (.int x), l8] st M = EE 135 95 [l0, l1, l2, l3, l4, l5, cln l6, some (.int (x + nI 1)), l8] st M := e_iinc d135_92 rfl (congrArg (fun z => x + z) k_inc_1) rfl
theorem d135_95 : decode (cod 135) 95 = .ok (.goto (-52), 3) := by decide +kernel
theorem s135_95 {M : Mm} {st : List Value} {l0 l1 l2 l3 l4 l5 l6 l7 l8 : Option Value} : EE 135 95 [l0, l1, l2, l3, l4, l5, l6, l7, l8] st M = EE 135 43 [l0, l1, l2, l3, l4, l5, l6, l7, l8] st M := e_goto d135_95 (by decide)
theorem d135_98 : decode (cod 135) 98 = .ok (.iinc 6 1, 3) := by decide +kernel
theorem s135_98 {M : Mm} {st : List Value} {l0 l1 l2 l3 l4 l5 l7 l8 : Option Value} {x : Int32} : EE 135 98 [l0, l1, l2, l3, l4, l5, some (.int x), l7, l8] st M = EE 135 101 [l0, l1, l2, l3, l4, cln l5, some (.int (x + nI 1)), l7, l8] st M := e_iinc d135_98 rfl (congrArg (fun z => x + z) k_inc_1) rfl
theorem d135_101 : decode (cod 135) 101 = .ok (.goto (-67), 3) := by decide +kernel
theorem s135_101 {M : Mm} {st : List Value} {l0 l1 l2 l3 l4 l5 l6 l7 l8 : Option Value} : EE 135 101 [l0, l1, l2, l3, l4, l5, l6, l7, l8] st M = EE 135 34 [l0, l1, l2, l3, l4, l5, l6, l7, l8] st M := e_goto d135_101 (by decide)
theorem d135_104 : decode (cod 135) 104 = .ok (.iload_n 2, 1) := by decide +kernel
theorem s135_104 {M : Mm} {st : List Value} {l0 l1 l3 l4 l5 l6 l7 l8 : Option Value} {x : Int32} : EE 135 104 [l0, l1, some (.int x), l3, l4, l5, l6, l7, l8] st M = EE 135 105 [l0, l1, some (.int x), l3, l4, l5, l6, l7, l8] (.int x :: st) M := e_ld d135_104 rfl rfl rfl rfl rfl rfl
theorem d135_105 : decode (cod 135) 105 = .ok (.ifCond .ne 7, 3) := by decide +kernel
theorem s135_105 {M : Mm} {st : List Value} {l0 l1 l2 l3 l4 l5 l6 l7 l8 : Option Value} {x : Int32} : EE 135 105 [l0, l1, l2, l3, l4, l5, l6, l7, l8] (.int x :: st) M = if x = 0 then EE 135 108 [l0, l1, l2, l3, l4, l5, l6, l7, l8] st M else EE 135 112 [l0, l1, l2, l3, l4, l5, l6, l7, l8] st M := e_ne0 d135_105 (by decide)
theorem d135_108 : decode (cod 135) 108 = .ok (.iload_n 3, 1) := by decide +kernel
theorem s135_108 {M : Mm} {st : List Value} {l0 l1 l2 l4 l5 l6 l7 l8 : Option Value} {x : Int32} : EE 135 108 [l0, l1, l2, some (.int x), l4, l5, l6, l7, l8] st M = EE 135 109 [l0, l1, l2, some (.int x), l4, l5, l6, l7, l8] (.int x :: st) M := e_ld d135_108 rfl rfl rfl rfl rfl rfl
theorem d135_109 : decode (cod 135) 109 = .ok (.goto 30, 3) := by decide +kernel
theorem s135_109 {M : Mm} {st : List Value} {l0 l1 l2 l3 l4 l5 l6 l7 l8 : Option Value} : EE 135 109 [l0, l1, l2, l3, l4, l5, l6, l7, l8] st M = EE 135 139 [l0, l1, l2, l3, l4, l5, l6, l7, l8] st M := e_goto d135_109 (by decide)
theorem d135_112 : decode (cod 135) 112 = .ok (.iload_n 2, 1) := by decide +kernel
theorem s135_112 {M : Mm} {st : List Value} {l0 l1 l3 l4 l5 l6 l7 l8 : Option Value} {x : Int32} : EE 135 112 [l0, l1, some (.int x), l3, l4, l5, l6, l7, l8] st M = EE 135 113 [l0, l1, some (.int x), l3, l4, l5, l6, l7, l8] (.int x :: st) M := e_ld d135_112 rfl rfl rfl rfl rfl rfl
theorem d135_113 : decode (cod 135) 113 = .ok (.iconst 1, 1) := by decide +kernel
theorem s135_113 {M : Mm} {st : List Value} {l0 l1 l2 l3 l4 l5 l6 l7 l8 : Option Value} : EE 135 113 [l0, l1, l2, l3, l4, l5, l6, l7, l8] st M = EE 135 114 [l0, l1, l2, l3, l4, l5, l6, l7, l8] (.int (nI 1) :: st) M := e_con d135_113 k_con_1
theorem d135_114 : decode (cod 135) 114 = .ok (.if_icmp .ne 8, 3) := by decide +kernel
theorem s135_114 {M : Mm} {st : List Value} {l0 l1 l2 l3 l4 l5 l6 l7 l8 : Option Value} {x y : Int32} : EE 135 114 [l0, l1, l2, l3, l4, l5, l6, l7, l8] (.int y :: .int x :: st) M = if x = y then EE 135 117 [l0, l1, l2, l3, l4, l5, l6, l7, l8] st M else EE 135 122 [l0, l1, l2, l3, l4, l5, l6, l7, l8] st M := e_cne d135_114 (by decide)
theorem d135_117 : decode (cod 135) 117 = .ok (.iload 4, 2) := by decide +kernel
theorem s135_117 {M : Mm} {st : List Value} {l0 l1 l2 l3 l5 l6 l7 l8 : Option Value} {x : Int32} : EE 135 117 [l0, l1, l2, l3, some (.int x), l5, l6, l7, l8] st M = EE 135 119 [l0, l1, l2, l3, some (.int x), l5, l6, l7, l8] (.int x :: st) M := e_ld d135_117 rfl rfl rfl rfl rfl rfl
theorem d135_119 : decode (cod 135) 119 = .ok (.goto 20, 3) := by decide +kernel
theorem s135_119 {M : Mm} {st : List Value} {l0 l1 l2 l3 l4 l5 l6 l7 l8 : Option Value} : EE 135 119 [l0, l1, l2, l3, l4, l5, l6, l7, l8] st M = EE 135 139 [l0, l1, l2, l3, l4, l5, l6, l7, l8] st M := e_goto d135_119 (by decide)
theorem d135_122 : decode (cod 135) 122 = .ok (.iload_n 2, 1) := by decide +kernel
theorem s135_122 {M : Mm} {st : List Value} {l0 l1 l3 l4 l5 l6 l7 l8 : Option Value} {x : Int32} : EE 135 122 [l0, l1, some (.int x), l3, l4, l5, l6, l7, l8] st M = EE 135 123 [l0, l1, some (.int x), l3, l4, l5, l6, l7, l8] (.int x :: st) M := e_ld d135_122 rfl rfl rfl rfl rfl rfl
theorem d135_123 : decode (cod 135) 123 = .ok (.iconst 2, 1) := by decide +kernel
theorem s135_123 {M : Mm} {st : List Value} {l0 l1 l2 l3 l4 l5 l6 l7 l8 : Option Value} : EE 135 123 [l0, l1, l2, l3, l4, l5, l6, l7, l8] st M = EE 135 124 [l0, l1, l2, l3, l4, l5, l6, l7, l8] (.int (nI 2) :: st) M := e_con d135_123 k_con_2
theorem d135_124 : decode (cod 135) 124 = .ok (.if_icmp .ne 8, 3) := by decide +kernel
theorem s135_124 {M : Mm} {st : List Value} {l0 l1 l2 l3 l4 l5 l6 l7 l8 : Option Value} {x y : Int32} : EE 135 124 [l0, l1, l2, l3, l4, l5, l6, l7, l8] (.int y :: .int x :: st) M = if x = y then EE 135 127 [l0, l1, l2, l3, l4, l5, l6, l7, l8] st M else EE 135 132 [l0, l1, l2, l3, l4, l5, l6, l7, l8] st M := e_cne d135_124 (by decide)
theorem d135_127 : decode (cod 135) 127 = .ok (.iload 5, 2) := by decide +kernel
theorem s135_127 {M : Mm} {st : List Value} {l0 l1 l2 l3 l4 l6 l7 l8 : Option Value} {x : Int32} : EE 135 127 [l0, l1, l2, l3, l4, some (.int x), l6, l7, l8] st M = EE 135 129 [l0, l1, l2, l3, l4, some (.int x), l6, l7, l8] (.int x :: st) M := e_ld d135_127 rfl rfl rfl rfl rfl rfl
theorem d135_129 : decode (cod 135) 129 = .ok (.goto 10, 3) := by decide +kernel
theorem s135_129 {M : Mm} {st : List Value} {l0 l1 l2 l3 l4 l5 l6 l7 l8 : Option Value} : EE 135 129 [l0, l1, l2, l3, l4, l5, l6, l7, l8] st M = EE 135 139 [l0, l1, l2, l3, l4, l5, l6, l7, l8] st M := e_goto d135_129 (by decide)
theorem d135_132 : decode (cod 135) 132 = .ok (.iload_n 1, 1) := by decide +kernel
theorem s135_132 {M : Mm} {st : List Value} {l0 l2 l3 l4 l5 l6 l7 l8 : Option Value} {x : Int32} : EE 135 132 [l0, some (.int x), l2, l3, l4, l5, l6, l7, l8] st M = EE 135 133 [l0, some (.int x), l2, l3, l4, l5, l6, l7, l8] (.int x :: st) M := e_ld d135_132 rfl rfl rfl rfl rfl rfl
theorem d135_133 : decode (cod 135) 133 = .ok (.iload 4, 2) := by decide +kernel
theorem s135_133 {M : Mm} {st : List Value} {l0 l1 l2 l3 l5 l6 l7 l8 : Option Value} {x : Int32} : EE 135 133 [l0, l1, l2, l3, some (.int x), l5, l6, l7, l8] st M = EE 135 135 [l0, l1, l2, l3, some (.int x), l5, l6, l7, l8] (.int x :: st) M := e_ld d135_133 rfl rfl rfl rfl rfl rfl
theorem d135_135 : decode (cod 135) 135 = .ok (.isub, 1) := by decide +kernel
theorem s135_135 {M : Mm} {st : List Value} {l0 l1 l2 l3 l4 l5 l6 l7 l8 : Option Value} {x y : Int32} : EE 135 135 [l0, l1, l2, l3, l4, l5, l6, l7, l8] (.int y :: .int x :: st) M = EE 135 136 [l0, l1, l2, l3, l4, l5, l6, l7, l8] (.int (x - y) :: st) M := e_II d135_135 rfl rfl rfl rfl rfl rfl
theorem d135_136 : decode (cod 135) 136 = .ok (.iload 5, 2) := by decide +kernel
theorem s135_136 {M : Mm} {st : List Value} {l0 l1 l2 l3 l4 l6 l7 l8 : Option Value} {x : Int32} : EE 135 136 [l0, l1, l2, l3, l4, some (.int x), l6, l7, l8] st M = EE 135 138 [l0, l1, l2, l3, l4, some (.int x), l6, l7, l8] (.int x :: st) M := e_ld d135_136 rfl rfl rfl rfl rfl rfl
theorem d135_138 : decode (cod 135) 138 = .ok (.isub, 1) := by decide +kernel
theorem s135_138 {M : Mm} {st : List Value} {l0 l1 l2 l3 l4 l5 l6 l7 l8 : Option Value} {x y : Int32} : EE 135 138 [l0, l1, l2, l3, l4, l5, l6, l7, l8] (.int y :: .int x :: st) M = EE 135 139 [l0, l1, l2, l3, l4, l5, l6, l7, l8] (.int (x - y) :: st) M := e_II d135_138 rfl rfl rfl rfl rfl rfl
theorem d135_139 : decode (cod 135) 139 = .ok (.ireturn, 1) := by decide +kernel
theorem s135_139 {M : Mm} {l0 l1 l2 l3 l4 l5 l6 l7 l8 : Option Value} {v : Int32} : EE 135 139 [l0, l1, l2, l3, l4, l5, l6, l7, l8] [.int v] M = some (some (.int v), M) := e_iret d135_139 rfl rfl
theorem FE135 {a : Nat} {b0 : Int32} {b1 : Int32} {M : Mm} : FF 135 [.ref a, .int b0, .int b1] M = EE 135 0 [some (.ref a), some (.int b0), some (.int b1), none, none, none, none, none, none] [] M := FF_eq 135 _ _ (Nat.le_of_ble_eq_true rfl)
theorem d136_0 : decode (cod 136) 0 = .ok (.aload_n 0, 1) := by decide +kernel
theorem s136_0 {M : Mm} {st : List Value} {l1 l2 l3 : Option Value} {x : Nat} : EE 136 0 [some (.ref x), l1, l2, l3] st M = EE 136 1 [some (.ref x), l1, l2, l3] (.ref x :: st) M := e_ld d136_0 rfl rfl rfl rfl rfl rfl
theorem d136_1 : decode (cod 136) 1 = .ok (.invokevirtual 161, 3) := by decide +kernel
theorem s136_1 {l0 l1 l2 l3 : Option Value} {a : Nat} {M : Mm} {st : List Value} (hl : st.length ≤ 4) (ho : isO "HandoverDeskModel" M.1 a = true) : EE 136 1 [l0, l1, l2, l3] (.ref a :: st) M = (FF 133 (.ref a :: []) M).bind (fun z => EE 136 4 [l0, l1, l2, l3] (psh z.1 st) z.2) := e_calv (av := []) d136_1 c3_161 rfl rfl rfl r136_133 rfl hl ho
theorem d136_4 : decode (cod 136) 4 = .ok (.aload_n 0, 1) := by decide +kernel
theorem s136_4 {M : Mm} {st : List Value} {l1 l2 l3 : Option Value} {x : Nat} : EE 136 4 [some (.ref x), l1, l2, l3] st M = EE 136 5 [some (.ref x), l1, l2, l3] (.ref x :: st) M := e_ld d136_4 rfl rfl rfl rfl rfl rfl
theorem d136_5 : decode (cod 136) 5 = .ok (.getfield 13, 3) := by decide +kernel
theorem s136_5 {n : Nat} {I : Nat → Nat → Int32} {R : Nat → Nat → Option Nat} {st : List Value} {l0 l1 l2 l3 : Option Value} {a : Nat} : EE 136 5 [l0, l1, l2, l3] (.ref a :: st) (n, I, R) = (gfI n I R 3 1 a).bind (fun z => EE 136 8 [l0, l1, l2, l3] (z :: st) (n, I, R)) := e_getf d136_5 f3_13 rfl rfl
theorem d136_8 : decode (cod 136) 8 = .ok (.bipush 26, 2) := by decide +kernel
theorem s136_8 {M : Mm} {st : List Value} {l0 l1 l2 l3 : Option Value} : EE 136 8 [l0, l1, l2, l3] st M = EE 136 10 [l0, l1, l2, l3] (.int (nI 26) :: st) M := e_bip d136_8 k_bip_26
theorem d136_10 : decode (cod 136) 10 = .ok (.aload_n 0, 1) := by decide +kernel
theorem s136_10 {M : Mm} {st : List Value} {l1 l2 l3 : Option Value} {x : Nat} : EE 136 10 [some (.ref x), l1, l2, l3] st M = EE 136 11 [some (.ref x), l1, l2, l3] (.ref x :: st) M := e_ld d136_10 rfl rfl rfl rfl rfl rfl
theorem d136_11 : decode (cod 136) 11 = .ok (.getfield 13, 3) := by decide +kernel
theorem s136_11 {n : Nat} {I : Nat → Nat → Int32} {R : Nat → Nat → Option Nat} {st : List Value} {l0 l1 l2 l3 : Option Value} {a : Nat} : EE 136 11 [l0, l1, l2, l3] (.ref a :: st) (n, I, R) = (gfI n I R 3 1 a).bind (fun z => EE 136 14 [l0, l1, l2, l3] (z :: st) (n, I, R)) := e_getf d136_11 f3_13 rfl rfl
theorem d136_14 : decode (cod 136) 14 = .ok (.iconst 0, 1) := by decide +kernel
theorem s136_14 {M : Mm} {st : List Value} {l0 l1 l2 l3 : Option Value} : EE 136 14 [l0, l1, l2, l3] st M = EE 136 15 [l0, l1, l2, l3] (.int (nI 0) :: st) M := e_con d136_14 k_con_0
theorem d136_15 : decode (cod 136) 15 = .ok (.iaload, 1) := by decide +kernel
theorem s136_15 {n : Nat} {I : Nat → Nat → Int32} {R : Nat → Nat → Option Nat} {st : List Value} {l0 l1 l2 l3 : Option Value} {j : Int32} {a : Nat} : EE 136 15 [l0, l1, l2, l3] (.int j :: .ref a :: st) (n, I, R) = (ardI 5 n I a j).bind (fun z => EE 136 16 [l0, l1, l2, l3] (.int z :: st) (n, I, R)) := e_iald d136_15
theorem d136_16 : decode (cod 136) 16 = .ok (.bipush 12, 2) := by decide +kernel
theorem s136_16 {M : Mm} {st : List Value} {l0 l1 l2 l3 : Option Value} : EE 136 16 [l0, l1, l2, l3] st M = EE 136 18 [l0, l1, l2, l3] (.int (nI 12) :: st) M := e_bip d136_16 k_bip_12
theorem d136_18 : decode (cod 136) 18 = .ok (.irem, 1) := by decide +kernel
theorem s136_18 {M : Mm} {st : List Value} {l0 l1 l2 l3 : Option Value} {x y : Nat} (h1 : x < 2 ^ 31) (h2 : 0 < y) (h3 : y < 2 ^ 31) : EE 136 18 [l0, l1, l2, l3] (.int (nI y) :: .int (nI x) :: st) M = EE 136 19 [l0, l1, l2, l3] (.int (nI (x % y)) :: st) M := e_remN d136_18 h1 h2 h3
theorem d136_19 : decode (cod 136) 19 = .ok (.iadd, 1) := by decide +kernel
theorem s136_19 {M : Mm} {st : List Value} {l0 l1 l2 l3 : Option Value} {x y : Int32} : EE 136 19 [l0, l1, l2, l3] (.int y :: .int x :: st) M = EE 136 20 [l0, l1, l2, l3] (.int (x + y) :: st) M := e_II d136_19 rfl rfl rfl rfl rfl rfl
theorem d136_20 : decode (cod 136) 20 = .ok (.iload_n 1, 1) := by decide +kernel
theorem s136_20 {M : Mm} {st : List Value} {l0 l2 l3 : Option Value} {x : Int32} : EE 136 20 [l0, some (.int x), l2, l3] st M = EE 136 21 [l0, some (.int x), l2, l3] (.int x :: st) M := e_ld d136_20 rfl rfl rfl rfl rfl rfl
theorem d136_21 : decode (cod 136) 21 = .ok (.iastore, 1) := by decide +kernel
theorem s136_21 {n : Nat} {I : Nat → Nat → Int32} {R : Nat → Nat → Option Nat} {st : List Value} {l0 l1 l2 l3 : Option Value} {j x : Int32} {a : Nat} (h : acI 5 n a j) : EE 136 21 [l0, l1, l2, l3] (.int x :: .int j :: .ref a :: st) (n, I, R) = EE 136 22 [l0, l1, l2, l3] st (n, wI I a j.toNatClampNeg x, R) := e_iast d136_21 h
theorem d136_22 : decode (cod 136) 22 = .ok (.aload_n 0, 1) := by decide +kernel
theorem s136_22 {M : Mm} {st : List Value} {l1 l2 l3 : Option Value} {x : Nat} : EE 136 22 [some (.ref x), l1, l2, l3] st M = EE 136 23 [some (.ref x), l1, l2, l3] (.ref x :: st) M := e_ld d136_22 rfl rfl rfl rfl rfl rfl
theorem d136_23 : decode (cod 136) 23 = .ok (.getfield 13, 3) := by decide +kernel
theorem s136_23 {n : Nat} {I : Nat → Nat → Int32} {R : Nat → Nat → Option Nat} {st : List Value} {l0 l1 l2 l3 : Option Value} {a : Nat} : EE 136 23 [l0, l1, l2, l3] (.ref a :: st) (n, I, R) = (gfI n I R 3 1 a).bind (fun z => EE 136 26 [l0, l1, l2, l3] (z :: st) (n, I, R)) := e_getf d136_23 f3_13 rfl rfl
theorem d136_26 : decode (cod 136) 26 = .ok (.bipush 26, 2) := by decide +kernel
theorem s136_26 {M : Mm} {st : List Value} {l0 l1 l2 l3 : Option Value} : EE 136 26 [l0, l1, l2, l3] st M = EE 136 28 [l0, l1, l2, l3] (.int (nI 26) :: st) M := e_bip d136_26 k_bip_26
theorem d136_28 : decode (cod 136) 28 = .ok (.aload_n 0, 1) := by decide +kernel
theorem s136_28 {M : Mm} {st : List Value} {l1 l2 l3 : Option Value} {x : Nat} : EE 136 28 [some (.ref x), l1, l2, l3] st M = EE 136 29 [some (.ref x), l1, l2, l3] (.ref x :: st) M := e_ld d136_28 rfl rfl rfl rfl rfl rfl
theorem d136_29 : decode (cod 136) 29 = .ok (.getfield 13, 3) := by decide +kernel
theorem s136_29 {n : Nat} {I : Nat → Nat → Int32} {R : Nat → Nat → Option Nat} {st : List Value} {l0 l1 l2 l3 : Option Value} {a : Nat} : EE 136 29 [l0, l1, l2, l3] (.ref a :: st) (n, I, R) = (gfI n I R 3 1 a).bind (fun z => EE 136 32 [l0, l1, l2, l3] (z :: st) (n, I, R)) := e_getf d136_29 f3_13 rfl rfl
theorem d136_32 : decode (cod 136) 32 = .ok (.iconst 0, 1) := by decide +kernel
theorem s136_32 {M : Mm} {st : List Value} {l0 l1 l2 l3 : Option Value} : EE 136 32 [l0, l1, l2, l3] st M = EE 136 33 [l0, l1, l2, l3] (.int (nI 0) :: st) M := e_con d136_32 k_con_0
theorem d136_33 : decode (cod 136) 33 = .ok (.iaload, 1) := by decide +kernel
theorem s136_33 {n : Nat} {I : Nat → Nat → Int32} {R : Nat → Nat → Option Nat} {st : List Value} {l0 l1 l2 l3 : Option Value} {j : Int32} {a : Nat} : EE 136 33 [l0, l1, l2, l3] (.int j :: .ref a :: st) (n, I, R) = (ardI 5 n I a j).bind (fun z => EE 136 34 [l0, l1, l2, l3] (.int z :: st) (n, I, R)) := e_iald d136_33
theorem d136_34 : decode (cod 136) 34 = .ok (.iconst 1, 1) := by decide +kernel
theorem s136_34 {M : Mm} {st : List Value} {l0 l1 l2 l3 : Option Value} : EE 136 34 [l0, l1, l2, l3] st M = EE 136 35 [l0, l1, l2, l3] (.int (nI 1) :: st) M := e_con d136_34 k_con_1
theorem d136_35 : decode (cod 136) 35 = .ok (.iadd, 1) := by decide +kernel
theorem s136_35 {M : Mm} {st : List Value} {l0 l1 l2 l3 : Option Value} {x y : Int32} : EE 136 35 [l0, l1, l2, l3] (.int y :: .int x :: st) M = EE 136 36 [l0, l1, l2, l3] (.int (x + y) :: st) M := e_II d136_35 rfl rfl rfl rfl rfl rfl
theorem d136_36 : decode (cod 136) 36 = .ok (.bipush 12, 2) := by decide +kernel
theorem s136_36 {M : Mm} {st : List Value} {l0 l1 l2 l3 : Option Value} : EE 136 36 [l0, l1, l2, l3] st M = EE 136 38 [l0, l1, l2, l3] (.int (nI 12) :: st) M := e_bip d136_36 k_bip_12
theorem d136_38 : decode (cod 136) 38 = .ok (.irem, 1) := by decide +kernel
theorem s136_38 {M : Mm} {st : List Value} {l0 l1 l2 l3 : Option Value} {x y : Nat} (h1 : x < 2 ^ 31) (h2 : 0 < y) (h3 : y < 2 ^ 31) : EE 136 38 [l0, l1, l2, l3] (.int (nI y) :: .int (nI x) :: st) M = EE 136 39 [l0, l1, l2, l3] (.int (nI (x % y)) :: st) M := e_remN d136_38 h1 h2 h3
theorem d136_39 : decode (cod 136) 39 = .ok (.iadd, 1) := by decide +kernel
theorem s136_39 {M : Mm} {st : List Value} {l0 l1 l2 l3 : Option Value} {x y : Int32} : EE 136 39 [l0, l1, l2, l3] (.int y :: .int x :: st) M = EE 136 40 [l0, l1, l2, l3] (.int (x + y) :: st) M := e_II d136_39 rfl rfl rfl rfl rfl rfl
theorem d136_40 : decode (cod 136) 40 = .ok (.iload_n 2, 1) := by decide +kernel
theorem s136_40 {M : Mm} {st : List Value} {l0 l1 l3 : Option Value} {x : Int32} : EE 136 40 [l0, l1, some (.int x), l3] st M = EE 136 41 [l0, l1, some (.int x), l3] (.int x :: st) M := e_ld d136_40 rfl rfl rfl rfl rfl rfl
theorem d136_41 : decode (cod 136) 41 = .ok (.iastore, 1) := by decide +kernel
theorem s136_41 {n : Nat} {I : Nat → Nat → Int32} {R : Nat → Nat → Option Nat} {st : List Value} {l0 l1 l2 l3 : Option Value} {j x : Int32} {a : Nat} (h : acI 5 n a j) : EE 136 41 [l0, l1, l2, l3] (.int x :: .int j :: .ref a :: st) (n, I, R) = EE 136 42 [l0, l1, l2, l3] st (n, wI I a j.toNatClampNeg x, R) := e_iast d136_41 h
theorem d136_42 : decode (cod 136) 42 = .ok (.aload_n 0, 1) := by decide +kernel
theorem s136_42 {M : Mm} {st : List Value} {l1 l2 l3 : Option Value} {x : Nat} : EE 136 42 [some (.ref x), l1, l2, l3] st M = EE 136 43 [some (.ref x), l1, l2, l3] (.ref x :: st) M := e_ld d136_42 rfl rfl rfl rfl rfl rfl
theorem d136_43 : decode (cod 136) 43 = .ok (.getfield 13, 3) := by decide +kernel
theorem s136_43 {n : Nat} {I : Nat → Nat → Int32} {R : Nat → Nat → Option Nat} {st : List Value} {l0 l1 l2 l3 : Option Value} {a : Nat} : EE 136 43 [l0, l1, l2, l3] (.ref a :: st) (n, I, R) = (gfI n I R 3 1 a).bind (fun z => EE 136 46 [l0, l1, l2, l3] (z :: st) (n, I, R)) := e_getf d136_43 f3_13 rfl rfl
theorem d136_46 : decode (cod 136) 46 = .ok (.bipush 26, 2) := by decide +kernel
theorem s136_46 {M : Mm} {st : List Value} {l0 l1 l2 l3 : Option Value} : EE 136 46 [l0, l1, l2, l3] st M = EE 136 48 [l0, l1, l2, l3] (.int (nI 26) :: st) M := e_bip d136_46 k_bip_26
theorem d136_48 : decode (cod 136) 48 = .ok (.aload_n 0, 1) := by decide +kernel
theorem s136_48 {M : Mm} {st : List Value} {l1 l2 l3 : Option Value} {x : Nat} : EE 136 48 [some (.ref x), l1, l2, l3] st M = EE 136 49 [some (.ref x), l1, l2, l3] (.ref x :: st) M := e_ld d136_48 rfl rfl rfl rfl rfl rfl
theorem d136_49 : decode (cod 136) 49 = .ok (.getfield 13, 3) := by decide +kernel
theorem s136_49 {n : Nat} {I : Nat → Nat → Int32} {R : Nat → Nat → Option Nat} {st : List Value} {l0 l1 l2 l3 : Option Value} {a : Nat} : EE 136 49 [l0, l1, l2, l3] (.ref a :: st) (n, I, R) = (gfI n I R 3 1 a).bind (fun z => EE 136 52 [l0, l1, l2, l3] (z :: st) (n, I, R)) := e_getf d136_49 f3_13 rfl rfl
theorem d136_52 : decode (cod 136) 52 = .ok (.iconst 0, 1) := by decide +kernel
theorem s136_52 {M : Mm} {st : List Value} {l0 l1 l2 l3 : Option Value} : EE 136 52 [l0, l1, l2, l3] st M = EE 136 53 [l0, l1, l2, l3] (.int (nI 0) :: st) M := e_con d136_52 k_con_0
theorem d136_53 : decode (cod 136) 53 = .ok (.iaload, 1) := by decide +kernel
theorem s136_53 {n : Nat} {I : Nat → Nat → Int32} {R : Nat → Nat → Option Nat} {st : List Value} {l0 l1 l2 l3 : Option Value} {j : Int32} {a : Nat} : EE 136 53 [l0, l1, l2, l3] (.int j :: .ref a :: st) (n, I, R) = (ardI 5 n I a j).bind (fun z => EE 136 54 [l0, l1, l2, l3] (.int z :: st) (n, I, R)) := e_iald d136_53
theorem d136_54 : decode (cod 136) 54 = .ok (.iconst 2, 1) := by decide +kernel
theorem s136_54 {M : Mm} {st : List Value} {l0 l1 l2 l3 : Option Value} : EE 136 54 [l0, l1, l2, l3] st M = EE 136 55 [l0, l1, l2, l3] (.int (nI 2) :: st) M := e_con d136_54 k_con_2
theorem d136_55 : decode (cod 136) 55 = .ok (.iadd, 1) := by decide +kernel
theorem s136_55 {M : Mm} {st : List Value} {l0 l1 l2 l3 : Option Value} {x y : Int32} : EE 136 55 [l0, l1, l2, l3] (.int y :: .int x :: st) M = EE 136 56 [l0, l1, l2, l3] (.int (x + y) :: st) M := e_II d136_55 rfl rfl rfl rfl rfl rfl
theorem d136_56 : decode (cod 136) 56 = .ok (.bipush 12, 2) := by decide +kernel
theorem s136_56 {M : Mm} {st : List Value} {l0 l1 l2 l3 : Option Value} : EE 136 56 [l0, l1, l2, l3] st M = EE 136 58 [l0, l1, l2, l3] (.int (nI 12) :: st) M := e_bip d136_56 k_bip_12
theorem d136_58 : decode (cod 136) 58 = .ok (.irem, 1) := by decide +kernel
theorem s136_58 {M : Mm} {st : List Value} {l0 l1 l2 l3 : Option Value} {x y : Nat} (h1 : x < 2 ^ 31) (h2 : 0 < y) (h3 : y < 2 ^ 31) : EE 136 58 [l0, l1, l2, l3] (.int (nI y) :: .int (nI x) :: st) M = EE 136 59 [l0, l1, l2, l3] (.int (nI (x % y)) :: st) M := e_remN d136_58 h1 h2 h3
theorem d136_59 : decode (cod 136) 59 = .ok (.iadd, 1) := by decide +kernel
theorem s136_59 {M : Mm} {st : List Value} {l0 l1 l2 l3 : Option Value} {x y : Int32} : EE 136 59 [l0, l1, l2, l3] (.int y :: .int x :: st) M = EE 136 60 [l0, l1, l2, l3] (.int (x + y) :: st) M := e_II d136_59 rfl rfl rfl rfl rfl rfl
theorem d136_60 : decode (cod 136) 60 = .ok (.iload_n 3, 1) := by decide +kernel
theorem s136_60 {M : Mm} {st : List Value} {l0 l1 l2 : Option Value} {x : Int32} : EE 136 60 [l0, l1, l2, some (.int x)] st M = EE 136 61 [l0, l1, l2, some (.int x)] (.int x :: st) M := e_ld d136_60 rfl rfl rfl rfl rfl rfl
theorem d136_61 : decode (cod 136) 61 = .ok (.iastore, 1) := by decide +kernel
theorem s136_61 {n : Nat} {I : Nat → Nat → Int32} {R : Nat → Nat → Option Nat} {st : List Value} {l0 l1 l2 l3 : Option Value} {j x : Int32} {a : Nat} (h : acI 5 n a j) : EE 136 61 [l0, l1, l2, l3] (.int x :: .int j :: .ref a :: st) (n, I, R) = EE 136 62 [l0, l1, l2, l3] st (n, wI I a j.toNatClampNeg x, R) := e_iast d136_61 h
theorem d136_62 : decode (cod 136) 62 = .ok (.aload_n 0, 1) := by decide +kernel
theorem s136_62 {M : Mm} {st : List Value} {l1 l2 l3 : Option Value} {x : Nat} : EE 136 62 [some (.ref x), l1, l2, l3] st M = EE 136 63 [some (.ref x), l1, l2, l3] (.ref x :: st) M := e_ld d136_62 rfl rfl rfl rfl rfl rfl
theorem d136_63 : decode (cod 136) 63 = .ok (.getfield 13, 3) := by decide +kernel
theorem s136_63 {n : Nat} {I : Nat → Nat → Int32} {R : Nat → Nat → Option Nat} {st : List Value} {l0 l1 l2 l3 : Option Value} {a : Nat} : EE 136 63 [l0, l1, l2, l3] (.ref a :: st) (n, I, R) = (gfI n I R 3 1 a).bind (fun z => EE 136 66 [l0, l1, l2, l3] (z :: st) (n, I, R)) := e_getf d136_63 f3_13 rfl rfl
theorem d136_66 : decode (cod 136) 66 = .ok (.invokestatic 133, 3) := by decide +kernel
theorem s136_66 {M : Mm} {l0 l1 l2 l3 : Option Value} {b0 : Nat} {st : List Value} (hl : st.length ≤ 4) : EE 136 66 [l0, l1, l2, l3] (.ref b0 :: st) M = (FF 115 [.ref b0] M).bind (fun z => EE 136 69 [l0, l1, l2, l3] (psh z.1 st) z.2) := e_cals (av := [.ref b0]) d136_66 c3_133 (Or.inl rfl) rfl rfl r136_115 rfl hl
theorem d136_69 : decode (cod 136) 69 = .ok (.aload_n 0, 1) := by decide +kernel
theorem s136_69 {M : Mm} {st : List Value} {l1 l2 l3 : Option Value} {x : Nat} : EE 136 69 [some (.ref x), l1, l2, l3] st M = EE 136 70 [some (.ref x), l1, l2, l3] (.ref x :: st) M := e_ld d136_69 rfl rfl rfl rfl rfl rfl
theorem d136_70 : decode (cod 136) 70 = .ok (.getfield 13, 3) := by decide +kernel
theorem s136_70 {n : Nat} {I : Nat → Nat → Int32} {R : Nat → Nat → Option Nat} {st : List Value} {l0 l1 l2 l3 : Option Value} {a : Nat} : EE 136 70 [l0, l1, l2, l3] (.ref a :: st) (n, I, R) = (gfI n I R 3 1 a).bind (fun z => EE 136 73 [l0, l1, l2, l3] (z :: st) (n, I, R)) := e_getf d136_70 f3_13 rfl rfl
theorem d136_73 : decode (cod 136) 73 = .ok (.invokestatic 133, 3) := by decide +kernel
theorem s136_73 {M : Mm} {l0 l1 l2 l3 : Option Value} {b0 : Nat} {st : List Value} (hl : st.length ≤ 4) : EE 136 73 [l0, l1, l2, l3] (.ref b0 :: st) M = (FF 115 [.ref b0] M).bind (fun z => EE 136 76 [l0, l1, l2, l3] (psh z.1 st) z.2) := e_cals (av := [.ref b0]) d136_73 c3_133 (Or.inl rfl) rfl rfl r136_115 rfl hl
theorem d136_76 : decode (cod 136) 76 = .ok (.iadd, 1) := by decide +kernel
theorem s136_76 {M : Mm} {st : List Value} {l0 l1 l2 l3 : Option Value} {x y : Int32} : EE 136 76 [l0, l1, l2, l3] (.int y :: .int x :: st) M = EE 136 77 [l0, l1, l2, l3] (.int (x + y) :: st) M := e_II d136_76 rfl rfl rfl rfl rfl rfl
theorem d136_77 : decode (cod 136) 77 = .ok (.aload_n 0, 1) := by decide +kernel
theorem s136_77 {M : Mm} {st : List Value} {l1 l2 l3 : Option Value} {x : Nat} : EE 136 77 [some (.ref x), l1, l2, l3] st M = EE 136 78 [some (.ref x), l1, l2, l3] (.ref x :: st) M := e_ld d136_77 rfl rfl rfl rfl rfl rfl
theorem d136_78 : decode (cod 136) 78 = .ok (.getfield 13, 3) := by decide +kernel
theorem s136_78 {n : Nat} {I : Nat → Nat → Int32} {R : Nat → Nat → Option Nat} {st : List Value} {l0 l1 l2 l3 : Option Value} {a : Nat} : EE 136 78 [l0, l1, l2, l3] (.ref a :: st) (n, I, R) = (gfI n I R 3 1 a).bind (fun z => EE 136 81 [l0, l1, l2, l3] (z :: st) (n, I, R)) := e_getf d136_78 f3_13 rfl rfl
theorem d136_81 : decode (cod 136) 81 = .ok (.invokestatic 133, 3) := by decide +kernel
theorem s136_81 {M : Mm} {l0 l1 l2 l3 : Option Value} {b0 : Nat} {st : List Value} (hl : st.length ≤ 4) : EE 136 81 [l0, l1, l2, l3] (.ref b0 :: st) M = (FF 115 [.ref b0] M).bind (fun z => EE 136 84 [l0, l1, l2, l3] (psh z.1 st) z.2) := e_cals (av := [.ref b0]) d136_81 c3_133 (Or.inl rfl) rfl rfl r136_115 rfl hl
theorem d136_84 : decode (cod 136) 84 = .ok (.iadd, 1) := by decide +kernel
theorem s136_84 {M : Mm} {st : List Value} {l0 l1 l2 l3 : Option Value} {x y : Int32} : EE 136 84 [l0, l1, l2, l3] (.int y :: .int x :: st) M = EE 136 85 [l0, l1, l2, l3] (.int (x + y) :: st) M := e_II d136_84 rfl rfl rfl rfl rfl rfl
theorem d136_85 : decode (cod 136) 85 = .ok (.ireturn, 1) := by decide +kernel
theorem s136_85 {M : Mm} {l0 l1 l2 l3 : Option Value} {v : Int32} : EE 136 85 [l0, l1, l2, l3] [.int v] M = some (some (.int v), M) := e_iret d136_85 rfl rfl
theorem FE136 {a : Nat} {b0 : Int32} {b1 : Int32} {b2 : Int32} {M : Mm} : FF 136 [.ref a, .int b0, .int b1, .int b2] M = EE 136 0 [some (.ref a), some (.int b0), some (.int b1), some (.int b2)] [] M := FF_eq 136 _ _ (Nat.le_of_ble_eq_true rfl)
theorem d137_0 : decode (cod 137) 0 = .ok (.lload_n 1, 1) := by decide +kernel
theorem s137_0 {M : Mm} {st : List Value} {l0 l2 l3 l4 : Option Value} {x : Int64} : EE 137 0 [l0, some (.long x), l2, l3, l4] st M = EE 137 1 [l0, some (.long x), l2, l3, l4] (.long x :: st) M := e_ld d137_0 rfl rfl rfl rfl rfl rfl
theorem d137_1 : decode (cod 137) 1 = .ok (.invokestatic 173, 3) := by decide +kernel
theorem s137_1 {M : Mm} {l0 l1 l2 l3 l4 : Option Value} {b0 : Int64} {st : List Value} (hl : st.length ≤ 4) : EE 137 1 [l0, l1, l2, l3, l4] (.long b0 :: st) M = (FF 138 [.long b0] M).bind (fun z => EE 137 4 [l0, l1, l2, l3, l4] (psh z.1 st) z.2) := e_cals (av := [.long b0]) d137_1 c3_173 (Or.inl rfl) rfl rfl r137_138 rfl hl
theorem d137_4 : decode (cod 137) 4 = .ok (.istore_n 3, 1) := by decide +kernel
theorem s137_4 {M : Mm} {st : List Value} {l0 l1 l2 l3 l4 : Option Value} {x : Int32} : EE 137 4 [l0, l1, l2, l3, l4] (.int x :: st) M = EE 137 5 [l0, l1, cln l2, some (.int x), l4] st M := e_st1 d137_4 rfl rfl rfl rfl rfl rfl rfl (Nat.le_of_ble_eq_true rfl) rfl
theorem d137_5 : decode (cod 137) 5 = .ok (.iload_n 3, 1) := by decide +kernel
theorem s137_5 {M : Mm} {st : List Value} {l0 l1 l2 l4 : Option Value} {x : Int32} : EE 137 5 [l0, l1, l2, some (.int x), l4] st M = EE 137 6 [l0, l1, l2, some (.int x), l4] (.int x :: st) M := e_ld d137_5 rfl rfl rfl rfl rfl rfl
theorem d137_6 : decode (cod 137) 6 = .ok (.ifCond .ge 5, 3) := by decide +kernel
theorem s137_6 {M : Mm} {st : List Value} {l0 l1 l2 l3 l4 : Option Value} {x : Int32} : EE 137 6 [l0, l1, l2, l3, l4] (.int x :: st) M = if 0 ≤ x then EE 137 11 [l0, l1, l2, l3, l4] st M else EE 137 9 [l0, l1, l2, l3, l4] st M := e_ge0 d137_6 (by decide)
theorem d137_9 : decode (cod 137) 9 = .ok (.iload_n 3, 1) := by decide +kernel
theorem s137_9 {M : Mm} {st : List Value} {l0 l1 l2 l4 : Option Value} {x : Int32} : EE 137 9 [l0, l1, l2, some (.int x), l4] st M = EE 137 10 [l0, l1, l2, some (.int x), l4] (.int x :: st) M := e_ld d137_9 rfl rfl rfl rfl rfl rfl
theorem d137_10 : decode (cod 137) 10 = .ok (.ireturn, 1) := by decide +kernel
theorem s137_10 {M : Mm} {l0 l1 l2 l3 l4 : Option Value} {v : Int32} : EE 137 10 [l0, l1, l2, l3, l4] [.int v] M = some (some (.int v), M) := e_iret d137_10 rfl rfl
theorem d137_11 : decode (cod 137) 11 = .ok (.aload_n 0, 1) := by decide +kernel
theorem s137_11 {M : Mm} {st : List Value} {l1 l2 l3 l4 : Option Value} {x : Nat} : EE 137 11 [some (.ref x), l1, l2, l3, l4] st M = EE 137 12 [some (.ref x), l1, l2, l3, l4] (.ref x :: st) M := e_ld d137_11 rfl rfl rfl rfl rfl rfl
theorem d137_12 : decode (cod 137) 12 = .ok (.getfield 144, 3) := by decide +kernel
theorem s137_12 {n : Nat} {I : Nat → Nat → Int32} {R : Nat → Nat → Option Nat} {st : List Value} {l0 l1 l2 l3 l4 : Option Value} {a : Nat} : EE 137 12 [l0, l1, l2, l3, l4] (.ref a :: st) (n, I, R) = (gfI n I R 3 7 a).bind (fun z => EE 137 15 [l0, l1, l2, l3, l4] (z :: st) (n, I, R)) := e_getf d137_12 f3_144 rfl rfl
theorem d137_15 : decode (cod 137) 15 = .ok (.iload_n 3, 1) := by decide +kernel
theorem s137_15 {M : Mm} {st : List Value} {l0 l1 l2 l4 : Option Value} {x : Int32} : EE 137 15 [l0, l1, l2, some (.int x), l4] st M = EE 137 16 [l0, l1, l2, some (.int x), l4] (.int x :: st) M := e_ld d137_15 rfl rfl rfl rfl rfl rfl
theorem d137_16 : decode (cod 137) 16 = .ok (.iadd, 1) := by decide +kernel
theorem s137_16 {M : Mm} {st : List Value} {l0 l1 l2 l3 l4 : Option Value} {x y : Int32} : EE 137 16 [l0, l1, l2, l3, l4] (.int y :: .int x :: st) M = EE 137 17 [l0, l1, l2, l3, l4] (.int (x + y) :: st) M := e_II d137_16 rfl rfl rfl rfl rfl rfl
theorem d137_17 : decode (cod 137) 17 = .ok (.bipush 80, 2) := by decide +kernel
theorem s137_17 {M : Mm} {st : List Value} {l0 l1 l2 l3 l4 : Option Value} : EE 137 17 [l0, l1, l2, l3, l4] st M = EE 137 19 [l0, l1, l2, l3, l4] (.int (nI 80) :: st) M := e_bip d137_17 k_bip_80
theorem d137_19 : decode (cod 137) 19 = .ok (.if_icmp .le 6, 3) := by decide +kernel
theorem s137_19 {M : Mm} {st : List Value} {l0 l1 l2 l3 l4 : Option Value} {x y : Int32} : EE 137 19 [l0, l1, l2, l3, l4] (.int y :: .int x :: st) M = if x ≤ y then EE 137 25 [l0, l1, l2, l3, l4] st M else EE 137 22 [l0, l1, l2, l3, l4] st M := e_cle d137_19 (by decide)
theorem d137_22 : decode (cod 137) 22 = .ok (.bipush (-4), 2) := by decide +kernel
theorem s137_22 {M : Mm} {st : List Value} {l0 l1 l2 l3 l4 : Option Value} : EE 137 22 [l0, l1, l2, l3, l4] st M = EE 137 24 [l0, l1, l2, l3, l4] (.int ((-4)) :: st) M := e_bip d137_22 k_bip_m4
theorem d137_24 : decode (cod 137) 24 = .ok (.ireturn, 1) := by decide +kernel
theorem s137_24 {M : Mm} {l0 l1 l2 l3 l4 : Option Value} {v : Int32} : EE 137 24 [l0, l1, l2, l3, l4] [.int v] M = some (some (.int v), M) := e_iret d137_24 rfl rfl
theorem d137_25 : decode (cod 137) 25 = .ok (.iload_n 3, 1) := by decide +kernel
theorem s137_25 {M : Mm} {st : List Value} {l0 l1 l2 l4 : Option Value} {x : Int32} : EE 137 25 [l0, l1, l2, some (.int x), l4] st M = EE 137 26 [l0, l1, l2, some (.int x), l4] (.int x :: st) M := e_ld d137_25 rfl rfl rfl rfl rfl rfl
theorem d137_26 : decode (cod 137) 26 = .ok (.iconst 1, 1) := by decide +kernel
theorem s137_26 {M : Mm} {st : List Value} {l0 l1 l2 l3 l4 : Option Value} : EE 137 26 [l0, l1, l2, l3, l4] st M = EE 137 27 [l0, l1, l2, l3, l4] (.int (nI 1) :: st) M := e_con d137_26 k_con_1
theorem d137_27 : decode (cod 137) 27 = .ok (.isub, 1) := by decide +kernel
theorem s137_27 {M : Mm} {st : List Value} {l0 l1 l2 l3 l4 : Option Value} {x y : Int32} : EE 137 27 [l0, l1, l2, l3, l4] (.int y :: .int x :: st) M = EE 137 28 [l0, l1, l2, l3, l4] (.int (x - y) :: st) M := e_II d137_27 rfl rfl rfl rfl rfl rfl
theorem d137_28 : decode (cod 137) 28 = .ok (.istore 4, 2) := by decide +kernel
theorem s137_28 {M : Mm} {st : List Value} {l0 l1 l2 l3 l4 : Option Value} {x : Int32} : EE 137 28 [l0, l1, l2, l3, l4] (.int x :: st) M = EE 137 30 [l0, l1, l2, cln l3, some (.int x)] st M := e_st1 d137_28 rfl rfl rfl rfl rfl rfl rfl (Nat.le_of_ble_eq_true rfl) rfl
theorem d137_30 : decode (cod 137) 30 = .ok (.iload 4, 2) := by decide +kernel
theorem s137_30 {M : Mm} {st : List Value} {l0 l1 l2 l3 : Option Value} {x : Int32} : EE 137 30 [l0, l1, l2, l3, some (.int x)] st M = EE 137 32 [l0, l1, l2, l3, some (.int x)] (.int x :: st) M := e_ld d137_30 rfl rfl rfl rfl rfl rfl
theorem d137_32 : decode (cod 137) 32 = .ok (.ifCond .lt 34, 3) := by decide +kernel
theorem s137_32 {M : Mm} {st : List Value} {l0 l1 l2 l3 l4 : Option Value} {x : Int32} : EE 137 32 [l0, l1, l2, l3, l4] (.int x :: st) M = if x < 0 then EE 137 66 [l0, l1, l2, l3, l4] st M else EE 137 35 [l0, l1, l2, l3, l4] st M := e_lt0 d137_32 (by decide)
theorem d137_35 : decode (cod 137) 35 = .ok (.aload_n 0, 1) := by decide +kernel
theorem s137_35 {M : Mm} {st : List Value} {l1 l2 l3 l4 : Option Value} {x : Nat} : EE 137 35 [some (.ref x), l1, l2, l3, l4] st M = EE 137 36 [some (.ref x), l1, l2, l3, l4] (.ref x :: st) M := e_ld d137_35 rfl rfl rfl rfl rfl rfl
theorem d137_36 : decode (cod 137) 36 = .ok (.getfield 26, 3) := by decide +kernel
theorem s137_36 {n : Nat} {I : Nat → Nat → Int32} {R : Nat → Nat → Option Nat} {st : List Value} {l0 l1 l2 l3 l4 : Option Value} {a : Nat} : EE 137 36 [l0, l1, l2, l3, l4] (.ref a :: st) (n, I, R) = (gfI n I R 3 6 a).bind (fun z => EE 137 39 [l0, l1, l2, l3, l4] (z :: st) (n, I, R)) := e_getf d137_36 f3_26 rfl rfl
theorem d137_39 : decode (cod 137) 39 = .ok (.aload_n 0, 1) := by decide +kernel
theorem s137_39 {M : Mm} {st : List Value} {l1 l2 l3 l4 : Option Value} {x : Nat} : EE 137 39 [some (.ref x), l1, l2, l3, l4] st M = EE 137 40 [some (.ref x), l1, l2, l3, l4] (.ref x :: st) M := e_ld d137_39 rfl rfl rfl rfl rfl rfl
theorem d137_40 : decode (cod 137) 40 = .ok (.getfield 144, 3) := by decide +kernel
theorem s137_40 {n : Nat} {I : Nat → Nat → Int32} {R : Nat → Nat → Option Nat} {st : List Value} {l0 l1 l2 l3 l4 : Option Value} {a : Nat} : EE 137 40 [l0, l1, l2, l3, l4] (.ref a :: st) (n, I, R) = (gfI n I R 3 7 a).bind (fun z => EE 137 43 [l0, l1, l2, l3, l4] (z :: st) (n, I, R)) := e_getf d137_40 f3_144 rfl rfl
theorem d137_43 : decode (cod 137) 43 = .ok (.lload_n 1, 1) := by decide +kernel
theorem s137_43 {M : Mm} {st : List Value} {l0 l2 l3 l4 : Option Value} {x : Int64} : EE 137 43 [l0, some (.long x), l2, l3, l4] st M = EE 137 44 [l0, some (.long x), l2, l3, l4] (.long x :: st) M := e_ld d137_43 rfl rfl rfl rfl rfl rfl
theorem d137_44 : decode (cod 137) 44 = .ok (.iload 4, 2) := by decide +kernel
theorem s137_44 {M : Mm} {st : List Value} {l0 l1 l2 l3 : Option Value} {x : Int32} : EE 137 44 [l0, l1, l2, l3, some (.int x)] st M = EE 137 46 [l0, l1, l2, l3, some (.int x)] (.int x :: st) M := e_ld d137_44 rfl rfl rfl rfl rfl rfl
theorem d137_46 : decode (cod 137) 46 = .ok (.invokestatic 169, 3) := by decide +kernel
theorem s137_46 {M : Mm} {l0 l1 l2 l3 l4 : Option Value} {b0 : Int64} {b1 : Int32} {st : List Value} (hl : st.length ≤ 4) : EE 137 46 [l0, l1, l2, l3, l4] (.int b1 :: .long b0 :: st) M = (FF 139 [.long b0, .int b1] M).bind (fun z => EE 137 49 [l0, l1, l2, l3, l4] (psh z.1 st) z.2) := e_cals (av := [.long b0, .int b1]) d137_46 c3_169 (Or.inl rfl) rfl rfl r137_139 rfl hl
theorem d137_49 : decode (cod 137) 49 = .ok (.iastore, 1) := by decide +kernel
theorem s137_49 {n : Nat} {I : Nat → Nat → Int32} {R : Nat → Nat → Option Nat} {st : List Value} {l0 l1 l2 l3 l4 : Option Value} {j x : Int32} {a : Nat} (h : acI 5 n a j) : EE 137 49 [l0, l1, l2, l3, l4] (.int x :: .int j :: .ref a :: st) (n, I, R) = EE 137 50 [l0, l1, l2, l3, l4] st (n, wI I a j.toNatClampNeg x, R) := e_iast d137_49 h
theorem d137_50 : decode (cod 137) 50 = .ok (.aload_n 0, 1) := by decide +kernel
theorem s137_50 {M : Mm} {st : List Value} {l1 l2 l3 l4 : Option Value} {x : Nat} : EE 137 50 [some (.ref x), l1, l2, l3, l4] st M = EE 137 51 [some (.ref x), l1, l2, l3, l4] (.ref x :: st) M := e_ld d137_50 rfl rfl rfl rfl rfl rfl
theorem d137_51 : decode (cod 137) 51 = .ok (.dup, 1) := by decide +kernel
theorem s137_51i {M : Mm} {st : List Value} {l0 l1 l2 l3 l4 : Option Value} {x : Int32} : EE 137 51 [l0, l1, l2, l3, l4] (.int x :: st) M = EE 137 52 [l0, l1, l2, l3, l4] (.int x :: .int x :: st) M := e_dup d137_51 rfl
theorem s137_51r {M : Mm} {st : List Value} {l0 l1 l2 l3 l4 : Option Value} {x : Nat} : EE 137 51 [l0, l1, l2, l3, l4] (.ref x :: st) M = EE 137 52 [l0, l1, l2, l3, l4] (.ref x :: .ref x :: st) M := e_dup d137_51 rfl
theorem d137_52 : decode (cod 137) 52 = .ok (.getfield 144, 3) := by decide +kernel
theorem s137_52 {n : Nat} {I : Nat → Nat → Int32} {R : Nat → Nat → Option Nat} {st : List Value} {l0 l1 l2 l3 l4 : Option Value} {a : Nat} : EE 137 52 [l0, l1, l2, l3, l4] (.ref a :: st) (n, I, R) = (gfI n I R 3 7 a).bind (fun z => EE 137 55 [l0, l1, l2, l3, l4] (z :: st) (n, I, R)) := e_getf d137_52 f3_144 rfl rfl
theorem d137_55 : decode (cod 137) 55 = .ok (.iconst 1, 1) := by decide +kernel
theorem s137_55 {M : Mm} {st : List Value} {l0 l1 l2 l3 l4 : Option Value} : EE 137 55 [l0, l1, l2, l3, l4] st M = EE 137 56 [l0, l1, l2, l3, l4] (.int (nI 1) :: st) M := e_con d137_55 k_con_1
theorem d137_56 : decode (cod 137) 56 = .ok (.iadd, 1) := by decide +kernel
theorem s137_56 {M : Mm} {st : List Value} {l0 l1 l2 l3 l4 : Option Value} {x y : Int32} : EE 137 56 [l0, l1, l2, l3, l4] (.int y :: .int x :: st) M = EE 137 57 [l0, l1, l2, l3, l4] (.int (x + y) :: st) M := e_II d137_56 rfl rfl rfl rfl rfl rfl
theorem d137_57 : decode (cod 137) 57 = .ok (.putfield 144, 3) := by decide +kernel
theorem s137_57 {n : Nat} {I : Nat → Nat → Int32} {R : Nat → Nat → Option Nat} {st : List Value} {l0 l1 l2 l3 l4 : Option Value} {a : Nat} {v : Value} : EE 137 57 [l0, l1, l2, l3, l4] (v :: .ref a :: st) (n, I, R) = (pfI n I R 3 7 a v).bind (fun z => EE 137 60 [l0, l1, l2, l3, l4] st (n, z.1, z.2)) := e_putf d137_57 f3_144 rfl rfl (Or.inr rfl)
theorem d137_60 : decode (cod 137) 60 = .ok (.iinc 4 (-1), 3) := by decide +kernel
theorem s137_60 {M : Mm} {st : List Value} {l0 l1 l2 l3 : Option Value} {x : Int32} : EE 137 60 [l0, l1, l2, l3, some (.int x)] st M = EE 137 63 [l0, l1, l2, cln l3, some (.int (x + (-1)))] st M := e_iinc d137_60 rfl (congrArg (fun z => x + z) k_inc_m1) rfl
theorem d137_63 : decode (cod 137) 63 = .ok (.goto (-33), 3) := by decide +kernel
theorem s137_63 {M : Mm} {st : List Value} {l0 l1 l2 l3 l4 : Option Value} : EE 137 63 [l0, l1, l2, l3, l4] st M = EE 137 30 [l0, l1, l2, l3, l4] st M := e_goto d137_63 (by decide)
theorem d137_66 : decode (cod 137) 66 = .ok (.aload_n 0, 1) := by decide +kernel
theorem s137_66 {M : Mm} {st : List Value} {l1 l2 l3 l4 : Option Value} {x : Nat} : EE 137 66 [some (.ref x), l1, l2, l3, l4] st M = EE 137 67 [some (.ref x), l1, l2, l3, l4] (.ref x :: st) M := e_ld d137_66 rfl rfl rfl rfl rfl rfl
theorem d137_67 : decode (cod 137) 67 = .ok (.getfield 144, 3) := by decide +kernel
theorem s137_67 {n : Nat} {I : Nat → Nat → Int32} {R : Nat → Nat → Option Nat} {st : List Value} {l0 l1 l2 l3 l4 : Option Value} {a : Nat} : EE 137 67 [l0, l1, l2, l3, l4] (.ref a :: st) (n, I, R) = (gfI n I R 3 7 a).bind (fun z => EE 137 70 [l0, l1, l2, l3, l4] (z :: st) (n, I, R)) := e_getf d137_67 f3_144 rfl rfl
theorem d137_70 : decode (cod 137) 70 = .ok (.ireturn, 1) := by decide +kernel
theorem s137_70 {M : Mm} {l0 l1 l2 l3 l4 : Option Value} {v : Int32} : EE 137 70 [l0, l1, l2, l3, l4] [.int v] M = some (some (.int v), M) := e_iret d137_70 rfl rfl
theorem FE137 {a : Nat} {b0 : Int64} {M : Mm} : FF 137 [.ref a, .long b0] M = EE 137 0 [some (.ref a), some (.long b0), none, none, none] [] M := FF_eq 137 _ _ (Nat.le_of_ble_eq_true rfl)
theorem d138_0 : decode (cod 138) 0 = .ok (.iconst 0, 1) := by decide +kernel
theorem s138_0 {M : Mm} {st : List Value} {l0 l1 l2 l3 : Option Value} : EE 138 0 [l0, l1, l2, l3] st M = EE 138 1 [l0, l1, l2, l3] (.int (nI 0) :: st) M := e_con d138_0 k_con_0
theorem d138_1 : decode (cod 138) 1 = .ok (.istore_n 2, 1) := by decide +kernel
theorem s138_1 {M : Mm} {st : List Value} {l0 l1 l2 l3 : Option Value} {x : Int32} : EE 138 1 [l0, l1, l2, l3] (.int x :: st) M = EE 138 2 [l0, cln l1, some (.int x), l3] st M := e_st1 d138_1 rfl rfl rfl rfl rfl rfl rfl (Nat.le_of_ble_eq_true rfl) rfl
theorem d138_2 : decode (cod 138) 2 = .ok (.iload_n 2, 1) := by decide +kernel
theorem s138_2 {M : Mm} {st : List Value} {l0 l1 l3 : Option Value} {x : Int32} : EE 138 2 [l0, l1, some (.int x), l3] st M = EE 138 3 [l0, l1, some (.int x), l3] (.int x :: st) M := e_ld d138_2 rfl rfl rfl rfl rfl rfl
theorem d138_3 : decode (cod 138) 3 = .ok (.bipush 8, 2) := by decide +kernel
theorem s138_3 {M : Mm} {st : List Value} {l0 l1 l2 l3 : Option Value} : EE 138 3 [l0, l1, l2, l3] st M = EE 138 5 [l0, l1, l2, l3] (.int (nI 8) :: st) M := e_bip d138_3 k_bip_8
theorem d138_5 : decode (cod 138) 5 = .ok (.if_icmp .ge 35, 3) := by decide +kernel
theorem s138_5 {M : Mm} {st : List Value} {l0 l1 l2 l3 : Option Value} {x y : Int32} : EE 138 5 [l0, l1, l2, l3] (.int y :: .int x :: st) M = if y ≤ x then EE 138 40 [l0, l1, l2, l3] st M else EE 138 8 [l0, l1, l2, l3] st M := e_cge d138_5 (by decide)
theorem d138_8 : decode (cod 138) 8 = .ok (.lload_n 0, 1) := by decide +kernel
theorem s138_8 {M : Mm} {st : List Value} {l1 l2 l3 : Option Value} {x : Int64} : EE 138 8 [some (.long x), l1, l2, l3] st M = EE 138 9 [some (.long x), l1, l2, l3] (.long x :: st) M := e_ld d138_8 rfl rfl rfl rfl rfl rfl
theorem d138_9 : decode (cod 138) 9 = .ok (.iload_n 2, 1) := by decide +kernel
theorem s138_9 {M : Mm} {st : List Value} {l0 l1 l3 : Option Value} {x : Int32} : EE 138 9 [l0, l1, some (.int x), l3] st M = EE 138 10 [l0, l1, some (.int x), l3] (.int x :: st) M := e_ld d138_9 rfl rfl rfl rfl rfl rfl
theorem d138_10 : decode (cod 138) 10 = .ok (.invokestatic 169, 3) := by decide +kernel
theorem s138_10 {M : Mm} {l0 l1 l2 l3 : Option Value} {b0 : Int64} {b1 : Int32} {st : List Value} (hl : st.length ≤ 4) : EE 138 10 [l0, l1, l2, l3] (.int b1 :: .long b0 :: st) M = (FF 139 [.long b0, .int b1] M).bind (fun z => EE 138 13 [l0, l1, l2, l3] (psh z.1 st) z.2) := e_cals (av := [.long b0, .int b1]) d138_10 c3_169 (Or.inl rfl) rfl rfl r138_139 rfl hl
theorem d138_13 : decode (cod 138) 13 = .ok (.ifCond .eq 27, 3) := by decide +kernel
theorem s138_13 {M : Mm} {st : List Value} {l0 l1 l2 l3 : Option Value} {x : Int32} : EE 138 13 [l0, l1, l2, l3] (.int x :: st) M = if x = 0 then EE 138 40 [l0, l1, l2, l3] st M else EE 138 16 [l0, l1, l2, l3] st M := e_eq0 d138_13 (by decide)
theorem d138_16 : decode (cod 138) 16 = .ok (.lload_n 0, 1) := by decide +kernel
theorem s138_16 {M : Mm} {st : List Value} {l1 l2 l3 : Option Value} {x : Int64} : EE 138 16 [some (.long x), l1, l2, l3] st M = EE 138 17 [some (.long x), l1, l2, l3] (.long x :: st) M := e_ld d138_16 rfl rfl rfl rfl rfl rfl
theorem d138_17 : decode (cod 138) 17 = .ok (.iload_n 2, 1) := by decide +kernel
theorem s138_17 {M : Mm} {st : List Value} {l0 l1 l3 : Option Value} {x : Int32} : EE 138 17 [l0, l1, some (.int x), l3] st M = EE 138 18 [l0, l1, some (.int x), l3] (.int x :: st) M := e_ld d138_17 rfl rfl rfl rfl rfl rfl
theorem d138_18 : decode (cod 138) 18 = .ok (.invokestatic 169, 3) := by decide +kernel
theorem s138_18 {M : Mm} {l0 l1 l2 l3 : Option Value} {b0 : Int64} {b1 : Int32} {st : List Value} (hl : st.length ≤ 4) : EE 138 18 [l0, l1, l2, l3] (.int b1 :: .long b0 :: st) M = (FF 139 [.long b0, .int b1] M).bind (fun z => EE 138 21 [l0, l1, l2, l3] (psh z.1 st) z.2) := e_cals (av := [.long b0, .int b1]) d138_18 c3_169 (Or.inl rfl) rfl rfl r138_139 rfl hl
theorem d138_21 : decode (cod 138) 21 = .ok (.bipush 33, 2) := by decide +kernel
theorem s138_21 {M : Mm} {st : List Value} {l0 l1 l2 l3 : Option Value} : EE 138 21 [l0, l1, l2, l3] st M = EE 138 23 [l0, l1, l2, l3] (.int (nI 33) :: st) M := e_bip d138_21 k_bip_33
theorem d138_23 : decode (cod 138) 23 = .ok (.bipush 126, 2) := by decide +kernel
theorem s138_23 {M : Mm} {st : List Value} {l0 l1 l2 l3 : Option Value} : EE 138 23 [l0, l1, l2, l3] st M = EE 138 25 [l0, l1, l2, l3] (.int (nI 126) :: st) M := e_bip d138_23 k_bip_126
theorem d138_25 : decode (cod 138) 25 = .ok (.invokestatic 32, 3) := by decide +kernel
theorem s138_25 {M : Mm} {l0 l1 l2 l3 : Option Value} {b0 : Int32} {b1 : Int32} {b2 : Int32} {st : List Value} (hl : st.length ≤ 4) : EE 138 25 [l0, l1, l2, l3] (.int b2 :: .int b1 :: .int b0 :: st) M = (FF 84 [.int b0, .int b1, .int b2] M).bind (fun z => EE 138 28 [l0, l1, l2, l3] (psh z.1 st) z.2) := e_cals (av := [.int b0, .int b1, .int b2]) d138_25 c3_32 (Or.inl rfl) rfl rfl r138_84 rfl hl
theorem d138_28 : decode (cod 138) 28 = .ok (.ifCond .ne 6, 3) := by decide +kernel
theorem s138_28 {M : Mm} {st : List Value} {l0 l1 l2 l3 : Option Value} {x : Int32} : EE 138 28 [l0, l1, l2, l3] (.int x :: st) M = if x = 0 then EE 138 31 [l0, l1, l2, l3] st M else EE 138 34 [l0, l1, l2, l3] st M := e_ne0 d138_28 (by decide)
theorem d138_31 : decode (cod 138) 31 = .ok (.bipush (-2), 2) := by decide +kernel
theorem s138_31 {M : Mm} {st : List Value} {l0 l1 l2 l3 : Option Value} : EE 138 31 [l0, l1, l2, l3] st M = EE 138 33 [l0, l1, l2, l3] (.int ((-2)) :: st) M := e_bip d138_31 k_bip_m2
theorem d138_33 : decode (cod 138) 33 = .ok (.ireturn, 1) := by decide +kernel
theorem s138_33 {M : Mm} {l0 l1 l2 l3 : Option Value} {v : Int32} : EE 138 33 [l0, l1, l2, l3] [.int v] M = some (some (.int v), M) := e_iret d138_33 rfl rfl
theorem d138_34 : decode (cod 138) 34 = .ok (.iinc 2 1, 3) := by decide +kernel
theorem s138_34 {M : Mm} {st : List Value} {l0 l1 l3 : Option Value} {x : Int32} : EE 138 34 [l0, l1, some (.int x), l3] st M = EE 138 37 [l0, cln l1, some (.int (x + nI 1)), l3] st M := e_iinc d138_34 rfl (congrArg (fun z => x + z) k_inc_1) rfl
theorem d138_37 : decode (cod 138) 37 = .ok (.goto (-35), 3) := by decide +kernel
theorem s138_37 {M : Mm} {st : List Value} {l0 l1 l2 l3 : Option Value} : EE 138 37 [l0, l1, l2, l3] st M = EE 138 2 [l0, l1, l2, l3] st M := e_goto d138_37 (by decide)
theorem d138_40 : decode (cod 138) 40 = .ok (.iload_n 2, 1) := by decide +kernel
theorem s138_40 {M : Mm} {st : List Value} {l0 l1 l3 : Option Value} {x : Int32} : EE 138 40 [l0, l1, some (.int x), l3] st M = EE 138 41 [l0, l1, some (.int x), l3] (.int x :: st) M := e_ld d138_40 rfl rfl rfl rfl rfl rfl
theorem d138_41 : decode (cod 138) 41 = .ok (.istore_n 3, 1) := by decide +kernel
theorem s138_41 {M : Mm} {st : List Value} {l0 l1 l2 l3 : Option Value} {x : Int32} : EE 138 41 [l0, l1, l2, l3] (.int x :: st) M = EE 138 42 [l0, l1, cln l2, some (.int x)] st M := e_st1 d138_41 rfl rfl rfl rfl rfl rfl rfl (Nat.le_of_ble_eq_true rfl) rfl
theorem d138_42 : decode (cod 138) 42 = .ok (.iload_n 3, 1) := by decide +kernel
theorem s138_42 {M : Mm} {st : List Value} {l0 l1 l2 : Option Value} {x : Int32} : EE 138 42 [l0, l1, l2, some (.int x)] st M = EE 138 43 [l0, l1, l2, some (.int x)] (.int x :: st) M := e_ld d138_42 rfl rfl rfl rfl rfl rfl
theorem d138_43 : decode (cod 138) 43 = .ok (.bipush 8, 2) := by decide +kernel
theorem s138_43 {M : Mm} {st : List Value} {l0 l1 l2 l3 : Option Value} : EE 138 43 [l0, l1, l2, l3] st M = EE 138 45 [l0, l1, l2, l3] (.int (nI 8) :: st) M := e_bip d138_43 k_bip_8
theorem d138_45 : decode (cod 138) 45 = .ok (.if_icmp .ge 20, 3) := by decide +kernel
theorem s138_45 {M : Mm} {st : List Value} {l0 l1 l2 l3 : Option Value} {x y : Int32} : EE 138 45 [l0, l1, l2, l3] (.int y :: .int x :: st) M = if y ≤ x then EE 138 65 [l0, l1, l2, l3] st M else EE 138 48 [l0, l1, l2, l3] st M := e_cge d138_45 (by decide)
theorem d138_48 : decode (cod 138) 48 = .ok (.lload_n 0, 1) := by decide +kernel
theorem s138_48 {M : Mm} {st : List Value} {l1 l2 l3 : Option Value} {x : Int64} : EE 138 48 [some (.long x), l1, l2, l3] st M = EE 138 49 [some (.long x), l1, l2, l3] (.long x :: st) M := e_ld d138_48 rfl rfl rfl rfl rfl rfl
theorem d138_49 : decode (cod 138) 49 = .ok (.iload_n 3, 1) := by decide +kernel
theorem s138_49 {M : Mm} {st : List Value} {l0 l1 l2 : Option Value} {x : Int32} : EE 138 49 [l0, l1, l2, some (.int x)] st M = EE 138 50 [l0, l1, l2, some (.int x)] (.int x :: st) M := e_ld d138_49 rfl rfl rfl rfl rfl rfl
theorem d138_50 : decode (cod 138) 50 = .ok (.invokestatic 169, 3) := by decide +kernel
theorem s138_50 {M : Mm} {l0 l1 l2 l3 : Option Value} {b0 : Int64} {b1 : Int32} {st : List Value} (hl : st.length ≤ 4) : EE 138 50 [l0, l1, l2, l3] (.int b1 :: .long b0 :: st) M = (FF 139 [.long b0, .int b1] M).bind (fun z => EE 138 53 [l0, l1, l2, l3] (psh z.1 st) z.2) := e_cals (av := [.long b0, .int b1]) d138_50 c3_169 (Or.inl rfl) rfl rfl r138_139 rfl hl
theorem d138_53 : decode (cod 138) 53 = .ok (.ifCond .eq 6, 3) := by decide +kernel
theorem s138_53 {M : Mm} {st : List Value} {l0 l1 l2 l3 : Option Value} {x : Int32} : EE 138 53 [l0, l1, l2, l3] (.int x :: st) M = if x = 0 then EE 138 59 [l0, l1, l2, l3] st M else EE 138 56 [l0, l1, l2, l3] st M := e_eq0 d138_53 (by decide)
theorem d138_56 : decode (cod 138) 56 = .ok (.bipush (-2), 2) := by decide +kernel
theorem s138_56 {M : Mm} {st : List Value} {l0 l1 l2 l3 : Option Value} : EE 138 56 [l0, l1, l2, l3] st M = EE 138 58 [l0, l1, l2, l3] (.int ((-2)) :: st) M := e_bip d138_56 k_bip_m2
theorem d138_58 : decode (cod 138) 58 = .ok (.ireturn, 1) := by decide +kernel
theorem s138_58 {M : Mm} {l0 l1 l2 l3 : Option Value} {v : Int32} : EE 138 58 [l0, l1, l2, l3] [.int v] M = some (some (.int v), M) := e_iret d138_58 rfl rfl
theorem d138_59 : decode (cod 138) 59 = .ok (.iinc 3 1, 3) := by decide +kernel
theorem s138_59 {M : Mm} {st : List Value} {l0 l1 l2 : Option Value} {x : Int32} : EE 138 59 [l0, l1, l2, some (.int x)] st M = EE 138 62 [l0, l1, cln l2, some (.int (x + nI 1))] st M := e_iinc d138_59 rfl (congrArg (fun z => x + z) k_inc_1) rfl
theorem d138_62 : decode (cod 138) 62 = .ok (.goto (-20), 3) := by decide +kernel
theorem s138_62 {M : Mm} {st : List Value} {l0 l1 l2 l3 : Option Value} : EE 138 62 [l0, l1, l2, l3] st M = EE 138 42 [l0, l1, l2, l3] st M := e_goto d138_62 (by decide)
theorem d138_65 : decode (cod 138) 65 = .ok (.iload_n 2, 1) := by decide +kernel
theorem s138_65 {M : Mm} {st : List Value} {l0 l1 l3 : Option Value} {x : Int32} : EE 138 65 [l0, l1, some (.int x), l3] st M = EE 138 66 [l0, l1, some (.int x), l3] (.int x :: st) M := e_ld d138_65 rfl rfl rfl rfl rfl rfl
theorem d138_66 : decode (cod 138) 66 = .ok (.ifCond .ne 8, 3) := by decide +kernel
theorem s138_66 {M : Mm} {st : List Value} {l0 l1 l2 l3 : Option Value} {x : Int32} : EE 138 66 [l0, l1, l2, l3] (.int x :: st) M = if x = 0 then EE 138 69 [l0, l1, l2, l3] st M else EE 138 74 [l0, l1, l2, l3] st M := e_ne0 d138_66 (by decide)
theorem d138_69 : decode (cod 138) 69 = .ok (.bipush (-2), 2) := by decide +kernel
theorem s138_69 {M : Mm} {st : List Value} {l0 l1 l2 l3 : Option Value} : EE 138 69 [l0, l1, l2, l3] st M = EE 138 71 [l0, l1, l2, l3] (.int ((-2)) :: st) M := e_bip d138_69 k_bip_m2
theorem d138_71 : decode (cod 138) 71 = .ok (.goto 4, 3) := by decide +kernel
theorem s138_71 {M : Mm} {st : List Value} {l0 l1 l2 l3 : Option Value} : EE 138 71 [l0, l1, l2, l3] st M = EE 138 75 [l0, l1, l2, l3] st M := e_goto d138_71 (by decide)
theorem d138_74 : decode (cod 138) 74 = .ok (.iload_n 2, 1) := by decide +kernel
theorem s138_74 {M : Mm} {st : List Value} {l0 l1 l3 : Option Value} {x : Int32} : EE 138 74 [l0, l1, some (.int x), l3] st M = EE 138 75 [l0, l1, some (.int x), l3] (.int x :: st) M := e_ld d138_74 rfl rfl rfl rfl rfl rfl
theorem d138_75 : decode (cod 138) 75 = .ok (.ireturn, 1) := by decide +kernel
theorem s138_75 {M : Mm} {l0 l1 l2 l3 : Option Value} {v : Int32} : EE 138 75 [l0, l1, l2, l3] [.int v] M = some (some (.int v), M) := e_iret d138_75 rfl rfl
theorem FE138 {b0 : Int64} {M : Mm} : FF 138 [.long b0] M = EE 138 0 [some (.long b0), none, none, none] [] M := FF_eq 138 _ _ (Nat.le_of_ble_eq_true rfl)
theorem d139_0 : decode (cod 139) 0 = .ok (.lload_n 0, 1) := by decide +kernel
theorem s139_0 {M : Mm} {st : List Value} {l1 l2 : Option Value} {x : Int64} : EE 139 0 [some (.long x), l1, l2] st M = EE 139 1 [some (.long x), l1, l2] (.long x :: st) M := e_ld d139_0 rfl rfl rfl rfl rfl rfl
theorem d139_1 : decode (cod 139) 1 = .ok (.bipush 8, 2) := by decide +kernel
theorem s139_1 {M : Mm} {st : List Value} {l0 l1 l2 : Option Value} : EE 139 1 [l0, l1, l2] st M = EE 139 3 [l0, l1, l2] (.int (nI 8) :: st) M := e_bip d139_1 k_bip_8
theorem d139_3 : decode (cod 139) 3 = .ok (.iload_n 2, 1) := by decide +kernel
theorem s139_3 {M : Mm} {st : List Value} {l0 l1 : Option Value} {x : Int32} : EE 139 3 [l0, l1, some (.int x)] st M = EE 139 4 [l0, l1, some (.int x)] (.int x :: st) M := e_ld d139_3 rfl rfl rfl rfl rfl rfl
theorem d139_4 : decode (cod 139) 4 = .ok (.imul, 1) := by decide +kernel
theorem s139_4 {M : Mm} {st : List Value} {l0 l1 l2 : Option Value} {x y : Int32} : EE 139 4 [l0, l1, l2] (.int y :: .int x :: st) M = EE 139 5 [l0, l1, l2] (.int (x * y) :: st) M := e_II d139_4 rfl rfl rfl rfl rfl rfl
theorem d139_5 : decode (cod 139) 5 = .ok (.lshr, 1) := by decide +kernel
theorem s139_5 {M : Mm} {st : List Value} {l0 l1 l2 : Option Value} {x : Int64} {y : Int32} : EE 139 5 [l0, l1, l2] (.int y :: .long x :: st) M = EE 139 6 [l0, l1, l2] (.long (x >>> (y.toInt64 &&& 63)) :: st) M := e_sh d139_5 rfl rfl rfl rfl rfl rfl
theorem d139_6 : decode (cod 139) 6 = .ok (.ldc2_w 167, 3) := by decide +kernel
theorem s139_6 {M : Mm} {st : List Value} {l0 l1 l2 : Option Value} : EE 139 6 [l0, l1, l2] st M = EE 139 9 [l0, l1, l2] (.long (255) :: st) M := e_ldc2 d139_6 q3_167
theorem d139_9 : decode (cod 139) 9 = .ok (.land, 1) := by decide +kernel
theorem s139_9 {M : Mm} {st : List Value} {l0 l1 l2 : Option Value} {x y : Int64} : EE 139 9 [l0, l1, l2] (.long y :: .long x :: st) M = EE 139 10 [l0, l1, l2] (.long (x &&& y) :: st) M := e_LL d139_9 rfl rfl rfl rfl rfl rfl
theorem d139_10 : decode (cod 139) 10 = .ok (.l2i, 1) := by decide +kernel
theorem s139_10 {M : Mm} {st : List Value} {l0 l1 l2 : Option Value} {x : Int64} : EE 139 10 [l0, l1, l2] (.long x :: st) M = EE 139 11 [l0, l1, l2] (.int x.toInt32 :: st) M := e_U d139_10 rfl rfl rfl rfl rfl (bn_l2i x) rfl
theorem d139_11 : decode (cod 139) 11 = .ok (.ireturn, 1) := by decide +kernel
theorem s139_11 {M : Mm} {l0 l1 l2 : Option Value} {v : Int32} : EE 139 11 [l0, l1, l2] [.int v] M = some (some (.int v), M) := e_iret d139_11 rfl rfl
theorem FE139 {b0 : Int64} {b1 : Int32} {M : Mm} : FF 139 [.long b0, .int b1] M = EE 139 0 [some (.long b0), none, some (.int b1)] [] M := FF_eq 139 _ _ (Nat.le_of_ble_eq_true rfl)
theorem d140_0 : decode (cod 140) 0 = .ok (.aload_n 0, 1) := by decide +kernel
theorem s140_0 {M : Mm} {st : List Value} {l1 : Option Value} {x : Nat} : EE 140 0 [some (.ref x), l1] st M = EE 140 1 [some (.ref x), l1] (.ref x :: st) M := e_ld d140_0 rfl rfl rfl rfl rfl rfl
theorem d140_1 : decode (cod 140) 1 = .ok (.getfield 144, 3) := by decide +kernel
theorem s140_1 {n : Nat} {I : Nat → Nat → Int32} {R : Nat → Nat → Option Nat} {st : List Value} {l0 l1 : Option Value} {a : Nat} : EE 140 1 [l0, l1] (.ref a :: st) (n, I, R) = (gfI n I R 3 7 a).bind (fun z => EE 140 4 [l0, l1] (z :: st) (n, I, R)) := e_getf d140_1 f3_144 rfl rfl
theorem d140_4 : decode (cod 140) 4 = .ok (.istore_n 1, 1) := by decide +kernel
theorem s140_4 {M : Mm} {st : List Value} {l0 l1 : Option Value} {x : Int32} : EE 140 4 [l0, l1] (.int x :: st) M = EE 140 5 [cln l0, some (.int x)] st M := e_st1 d140_4 rfl rfl rfl rfl rfl rfl rfl (Nat.le_of_ble_eq_true rfl) rfl
theorem d140_5 : decode (cod 140) 5 = .ok (.aload_n 0, 1) := by decide +kernel
theorem s140_5 {M : Mm} {st : List Value} {l1 : Option Value} {x : Nat} : EE 140 5 [some (.ref x), l1] st M = EE 140 6 [some (.ref x), l1] (.ref x :: st) M := e_ld d140_5 rfl rfl rfl rfl rfl rfl
theorem d140_6 : decode (cod 140) 6 = .ok (.iconst 0, 1) := by decide +kernel
theorem s140_6 {M : Mm} {st : List Value} {l0 l1 : Option Value} : EE 140 6 [l0, l1] st M = EE 140 7 [l0, l1] (.int (nI 0) :: st) M := e_con d140_6 k_con_0
theorem d140_7 : decode (cod 140) 7 = .ok (.putfield 144, 3) := by decide +kernel
theorem s140_7 {n : Nat} {I : Nat → Nat → Int32} {R : Nat → Nat → Option Nat} {st : List Value} {l0 l1 : Option Value} {a : Nat} {v : Value} : EE 140 7 [l0, l1] (v :: .ref a :: st) (n, I, R) = (pfI n I R 3 7 a v).bind (fun z => EE 140 10 [l0, l1] st (n, z.1, z.2)) := e_putf d140_7 f3_144 rfl rfl (Or.inr rfl)
theorem d140_10 : decode (cod 140) 10 = .ok (.iload_n 1, 1) := by decide +kernel
theorem s140_10 {M : Mm} {st : List Value} {l0 : Option Value} {x : Int32} : EE 140 10 [l0, some (.int x)] st M = EE 140 11 [l0, some (.int x)] (.int x :: st) M := e_ld d140_10 rfl rfl rfl rfl rfl rfl
theorem d140_11 : decode (cod 140) 11 = .ok (.ireturn, 1) := by decide +kernel
theorem s140_11 {M : Mm} {l0 l1 : Option Value} {v : Int32} : EE 140 11 [l0, l1] [.int v] M = some (some (.int v), M) := e_iret d140_11 rfl rfl
theorem FE140 {a : Nat} {M : Mm} : FF 140 [.ref a] M = EE 140 0 [some (.ref a), none] [] M := FF_eq 140 _ _ (Nat.le_of_ble_eq_true rfl)
theorem d141_0 : decode (cod 141) 0 = .ok (.aload_n 0, 1) := by decide +kernel
theorem s141_0 {M : Mm} {st : List Value} {x : Nat} : EE 141 0 [some (.ref x)] st M = EE 141 1 [some (.ref x)] (.ref x :: st) M := e_ld d141_0 rfl rfl rfl rfl rfl rfl
theorem d141_1 : decode (cod 141) 1 = .ok (.invokevirtual 198, 3) := by decide +kernel
theorem s141_1 {l0 : Option Value} {a : Nat} {M : Mm} {st : List Value} (hl : st.length ≤ 4) (ho : isO "HandoverDeskModel" M.1 a = true) : EE 141 1 [l0] (.ref a :: st) M = (FF 142 (.ref a :: []) M).bind (fun z => EE 141 4 [l0] (psh z.1 st) z.2) := e_calv (av := []) d141_1 c3_198 rfl rfl rfl r141_142 rfl hl ho
theorem d141_4 : decode (cod 141) 4 = .ok (.ifCond .eq 8, 3) := by decide +kernel
theorem s141_4 {M : Mm} {st : List Value} {l0 : Option Value} {x : Int32} : EE 141 4 [l0] (.int x :: st) M = if x = 0 then EE 141 12 [l0] st M else EE 141 7 [l0] st M := e_eq0 d141_4 (by decide)
theorem d141_7 : decode (cod 141) 7 = .ok (.bipush (-6), 2) := by decide +kernel
theorem s141_7 {M : Mm} {st : List Value} {l0 : Option Value} : EE 141 7 [l0] st M = EE 141 9 [l0] (.int ((-6)) :: st) M := e_bip d141_7 k_bip_m6
theorem d141_9 : decode (cod 141) 9 = .ok (.goto 7, 3) := by decide +kernel
theorem s141_9 {M : Mm} {st : List Value} {l0 : Option Value} : EE 141 9 [l0] st M = EE 141 16 [l0] st M := e_goto d141_9 (by decide)
theorem d141_12 : decode (cod 141) 12 = .ok (.aload_n 0, 1) := by decide +kernel
theorem s141_12 {M : Mm} {st : List Value} {x : Nat} : EE 141 12 [some (.ref x)] st M = EE 141 13 [some (.ref x)] (.ref x :: st) M := e_ld d141_12 rfl rfl rfl rfl rfl rfl
theorem d141_13 : decode (cod 141) 13 = .ok (.getfield 177, 3) := by decide +kernel
theorem s141_13 {n : Nat} {I : Nat → Nat → Int32} {R : Nat → Nat → Option Nat} {st : List Value} {l0 : Option Value} {a : Nat} : EE 141 13 [l0] (.ref a :: st) (n, I, R) = (gfI n I R 3 8 a).bind (fun z => EE 141 16 [l0] (z :: st) (n, I, R)) := e_getf d141_13 f3_177 rfl rfl
theorem d141_16 : decode (cod 141) 16 = .ok (.ireturn, 1) := by decide +kernel
theorem s141_16 {M : Mm} {l0 : Option Value} {v : Int32} : EE 141 16 [l0] [.int v] M = some (some (.int v), M) := e_iret d141_16 rfl rfl
theorem FE141 {a : Nat} {M : Mm} : FF 141 [.ref a] M = EE 141 0 [some (.ref a)] [] M := FF_eq 141 _ _ (Nat.le_of_ble_eq_true rfl)
theorem d142_0 : decode (cod 142) 0 = .ok (.aload_n 0, 1) := by decide +kernel
theorem s142_0 {M : Mm} {st : List Value} {l1 : Option Value} {x : Nat} : EE 142 0 [some (.ref x), l1] st M = EE 142 1 [some (.ref x), l1] (.ref x :: st) M := e_ld d142_0 rfl rfl rfl rfl rfl rfl
theorem d142_1 : decode (cod 142) 1 = .ok (.iconst 0, 1) := by decide +kernel
theorem s142_1 {M : Mm} {st : List Value} {l0 l1 : Option Value} : EE 142 1 [l0, l1] st M = EE 142 2 [l0, l1] (.int (nI 0) :: st) M := e_con d142_1 k_con_0
theorem d142_2 : decode (cod 142) 2 = .ok (.putfield 177, 3) := by decide +kernel
theorem s142_2 {n : Nat} {I : Nat → Nat → Int32} {R : Nat → Nat → Option Nat} {st : List Value} {l0 l1 : Option Value} {a : Nat} {v : Value} : EE 142 2 [l0, l1] (v :: .ref a :: st) (n, I, R) = (pfI n I R 3 8 a v).bind (fun z => EE 142 5 [l0, l1] st (n, z.1, z.2)) := e_putf d142_2 f3_177 rfl rfl (Or.inr rfl)
theorem d142_5 : decode (cod 142) 5 = .ok (.aload_n 0, 1) := by decide +kernel
theorem s142_5 {M : Mm} {st : List Value} {l1 : Option Value} {x : Nat} : EE 142 5 [some (.ref x), l1] st M = EE 142 6 [some (.ref x), l1] (.ref x :: st) M := e_ld d142_5 rfl rfl rfl rfl rfl rfl
theorem d142_6 : decode (cod 142) 6 = .ok (.iconst 0, 1) := by decide +kernel
theorem s142_6 {M : Mm} {st : List Value} {l0 l1 : Option Value} : EE 142 6 [l0, l1] st M = EE 142 7 [l0, l1] (.int (nI 0) :: st) M := e_con d142_6 k_con_0
theorem d142_7 : decode (cod 142) 7 = .ok (.putfield 182, 3) := by decide +kernel
theorem s142_7 {n : Nat} {I : Nat → Nat → Int32} {R : Nat → Nat → Option Nat} {st : List Value} {l0 l1 : Option Value} {a : Nat} {v : Value} : EE 142 7 [l0, l1] (v :: .ref a :: st) (n, I, R) = (pfI n I R 3 10 a v).bind (fun z => EE 142 10 [l0, l1] st (n, z.1, z.2)) := e_putf d142_7 f3_182 rfl rfl (Or.inr rfl)
theorem d142_10 : decode (cod 142) 10 = .ok (.iconst 1, 1) := by decide +kernel
theorem s142_10 {M : Mm} {st : List Value} {l0 l1 : Option Value} : EE 142 10 [l0, l1] st M = EE 142 11 [l0, l1] (.int (nI 1) :: st) M := e_con d142_10 k_con_1
theorem d142_11 : decode (cod 142) 11 = .ok (.istore_n 1, 1) := by decide +kernel
theorem s142_11 {M : Mm} {st : List Value} {l0 l1 : Option Value} {x : Int32} : EE 142 11 [l0, l1] (.int x :: st) M = EE 142 12 [cln l0, some (.int x)] st M := e_st1 d142_11 rfl rfl rfl rfl rfl rfl rfl (Nat.le_of_ble_eq_true rfl) rfl
theorem d142_12 : decode (cod 142) 12 = .ok (.iload_n 1, 1) := by decide +kernel
theorem s142_12 {M : Mm} {st : List Value} {l0 : Option Value} {x : Int32} : EE 142 12 [l0, some (.int x)] st M = EE 142 13 [l0, some (.int x)] (.int x :: st) M := e_ld d142_12 rfl rfl rfl rfl rfl rfl
theorem d142_13 : decode (cod 142) 13 = .ok (.ifCond .eq 32, 3) := by decide +kernel
theorem s142_13 {M : Mm} {st : List Value} {l0 l1 : Option Value} {x : Int32} : EE 142 13 [l0, l1] (.int x :: st) M = if x = 0 then EE 142 45 [l0, l1] st M else EE 142 16 [l0, l1] st M := e_eq0 d142_13 (by decide)
theorem d142_16 : decode (cod 142) 16 = .ok (.aload_n 0, 1) := by decide +kernel
theorem s142_16 {M : Mm} {st : List Value} {l1 : Option Value} {x : Nat} : EE 142 16 [some (.ref x), l1] st M = EE 142 17 [some (.ref x), l1] (.ref x :: st) M := e_ld d142_16 rfl rfl rfl rfl rfl rfl
theorem d142_17 : decode (cod 142) 17 = .ok (.invokevirtual 194, 3) := by decide +kernel
theorem s142_17 {l0 l1 : Option Value} {a : Nat} {M : Mm} {st : List Value} (hl : st.length ≤ 4) (ho : isO "HandoverDeskModel" M.1 a = true) : EE 142 17 [l0, l1] (.ref a :: st) M = (FF 143 (.ref a :: []) M).bind (fun z => EE 142 20 [l0, l1] (psh z.1 st) z.2) := e_calv (av := []) d142_17 c3_194 rfl rfl rfl r142_143 rfl hl ho
theorem d142_20 : decode (cod 142) 20 = .ok (.ifCond .ne 5, 3) := by decide +kernel
theorem s142_20 {M : Mm} {st : List Value} {l0 l1 : Option Value} {x : Int32} : EE 142 20 [l0, l1] (.int x :: st) M = if x = 0 then EE 142 23 [l0, l1] st M else EE 142 25 [l0, l1] st M := e_ne0 d142_20 (by decide)
theorem d142_23 : decode (cod 142) 23 = .ok (.iconst 0, 1) := by decide +kernel
theorem s142_23 {M : Mm} {st : List Value} {l0 l1 : Option Value} : EE 142 23 [l0, l1] st M = EE 142 24 [l0, l1] (.int (nI 0) :: st) M := e_con d142_23 k_con_0
theorem d142_24 : decode (cod 142) 24 = .ok (.ireturn, 1) := by decide +kernel
theorem s142_24 {M : Mm} {l0 l1 : Option Value} {v : Int32} (h : narrow .boolean (.int v) = .int v) : EE 142 24 [l0, l1] [.int v] M = some (some (.int v), M) := e_iret d142_24 rfl h
theorem d142_25 : decode (cod 142) 25 = .ok (.aload_n 0, 1) := by decide +kernel
theorem s142_25 {M : Mm} {st : List Value} {l1 : Option Value} {x : Nat} : EE 142 25 [some (.ref x), l1] st M = EE 142 26 [some (.ref x), l1] (.ref x :: st) M := e_ld d142_25 rfl rfl rfl rfl rfl rfl
theorem d142_26 : decode (cod 142) 26 = .ok (.dup, 1) := by decide +kernel
theorem s142_26i {M : Mm} {st : List Value} {l0 l1 : Option Value} {x : Int32} : EE 142 26 [l0, l1] (.int x :: st) M = EE 142 27 [l0, l1] (.int x :: .int x :: st) M := e_dup d142_26 rfl
theorem s142_26r {M : Mm} {st : List Value} {l0 l1 : Option Value} {x : Nat} : EE 142 26 [l0, l1] (.ref x :: st) M = EE 142 27 [l0, l1] (.ref x :: .ref x :: st) M := e_dup d142_26 rfl
theorem d142_27 : decode (cod 142) 27 = .ok (.getfield 182, 3) := by decide +kernel
theorem s142_27 {n : Nat} {I : Nat → Nat → Int32} {R : Nat → Nat → Option Nat} {st : List Value} {l0 l1 : Option Value} {a : Nat} : EE 142 27 [l0, l1] (.ref a :: st) (n, I, R) = (gfI n I R 3 10 a).bind (fun z => EE 142 30 [l0, l1] (z :: st) (n, I, R)) := e_getf d142_27 f3_182 rfl rfl
theorem d142_30 : decode (cod 142) 30 = .ok (.iconst 1, 1) := by decide +kernel
theorem s142_30 {M : Mm} {st : List Value} {l0 l1 : Option Value} : EE 142 30 [l0, l1] st M = EE 142 31 [l0, l1] (.int (nI 1) :: st) M := e_con d142_30 k_con_1
theorem d142_31 : decode (cod 142) 31 = .ok (.iadd, 1) := by decide +kernel
theorem s142_31 {M : Mm} {st : List Value} {l0 l1 : Option Value} {x y : Int32} : EE 142 31 [l0, l1] (.int y :: .int x :: st) M = EE 142 32 [l0, l1] (.int (x + y) :: st) M := e_II d142_31 rfl rfl rfl rfl rfl rfl
theorem d142_32 : decode (cod 142) 32 = .ok (.putfield 182, 3) := by decide +kernel
theorem s142_32 {n : Nat} {I : Nat → Nat → Int32} {R : Nat → Nat → Option Nat} {st : List Value} {l0 l1 : Option Value} {a : Nat} {v : Value} : EE 142 32 [l0, l1] (v :: .ref a :: st) (n, I, R) = (pfI n I R 3 10 a v).bind (fun z => EE 142 35 [l0, l1] st (n, z.1, z.2)) := e_putf d142_32 f3_182 rfl rfl (Or.inr rfl)
theorem d142_35 : decode (cod 142) 35 = .ok (.aload_n 0, 1) := by decide +kernel
theorem s142_35 {M : Mm} {st : List Value} {l1 : Option Value} {x : Nat} : EE 142 35 [some (.ref x), l1] st M = EE 142 36 [some (.ref x), l1] (.ref x :: st) M := e_ld d142_35 rfl rfl rfl rfl rfl rfl
theorem d142_36 : decode (cod 142) 36 = .ok (.bipush 59, 2) := by decide +kernel
theorem s142_36 {M : Mm} {st : List Value} {l0 l1 : Option Value} : EE 142 36 [l0, l1] st M = EE 142 38 [l0, l1] (.int (nI 59) :: st) M := e_bip d142_36 k_bip_59
theorem d142_38 : decode (cod 142) 38 = .ok (.invokevirtual 188, 3) := by decide +kernel
theorem s142_38 {l0 l1 : Option Value} {a : Nat} {M : Mm} {b0 : Int32} {st : List Value} (hl : st.length ≤ 4) (ho : isO "HandoverDeskModel" M.1 a = true) : EE 142 38 [l0, l1] (.int b0 :: .ref a :: st) M = (FF 146 (.ref a :: [.int b0]) M).bind (fun z => EE 142 41 [l0, l1] (psh z.1 st) z.2) := e_calv (av := [.int b0]) d142_38 c3_188 rfl rfl rfl r142_146 rfl hl ho
theorem d142_41 : decode (cod 142) 41 = .ok (.istore_n 1, 1) := by decide +kernel
theorem s142_41 {M : Mm} {st : List Value} {l0 l1 : Option Value} {x : Int32} : EE 142 41 [l0, l1] (.int x :: st) M = EE 142 42 [cln l0, some (.int x)] st M := e_st1 d142_41 rfl rfl rfl rfl rfl rfl rfl (Nat.le_of_ble_eq_true rfl) rfl
theorem d142_42 : decode (cod 142) 42 = .ok (.goto (-30), 3) := by decide +kernel
theorem s142_42 {M : Mm} {st : List Value} {l0 l1 : Option Value} : EE 142 42 [l0, l1] st M = EE 142 12 [l0, l1] st M := e_goto d142_42 (by decide)
theorem d142_45 : decode (cod 142) 45 = .ok (.aload_n 0, 1) := by decide +kernel
theorem s142_45 {M : Mm} {st : List Value} {l1 : Option Value} {x : Nat} : EE 142 45 [some (.ref x), l1] st M = EE 142 46 [some (.ref x), l1] (.ref x :: st) M := e_ld d142_45 rfl rfl rfl rfl rfl rfl
theorem d142_46 : decode (cod 142) 46 = .ok (.getfield 177, 3) := by decide +kernel
theorem s142_46 {n : Nat} {I : Nat → Nat → Int32} {R : Nat → Nat → Option Nat} {st : List Value} {l0 l1 : Option Value} {a : Nat} : EE 142 46 [l0, l1] (.ref a :: st) (n, I, R) = (gfI n I R 3 8 a).bind (fun z => EE 142 49 [l0, l1] (z :: st) (n, I, R)) := e_getf d142_46 f3_177 rfl rfl
theorem d142_49 : decode (cod 142) 49 = .ok (.aload_n 0, 1) := by decide +kernel
theorem s142_49 {M : Mm} {st : List Value} {l1 : Option Value} {x : Nat} : EE 142 49 [some (.ref x), l1] st M = EE 142 50 [some (.ref x), l1] (.ref x :: st) M := e_ld d142_49 rfl rfl rfl rfl rfl rfl
theorem d142_50 : decode (cod 142) 50 = .ok (.getfield 144, 3) := by decide +kernel
theorem s142_50 {n : Nat} {I : Nat → Nat → Int32} {R : Nat → Nat → Option Nat} {st : List Value} {l0 l1 : Option Value} {a : Nat} : EE 142 50 [l0, l1] (.ref a :: st) (n, I, R) = (gfI n I R 3 7 a).bind (fun z => EE 142 53 [l0, l1] (z :: st) (n, I, R)) := e_getf d142_50 f3_144 rfl rfl
theorem d142_53 : decode (cod 142) 53 = .ok (.if_icmp .ne 7, 3) := by decide +kernel
theorem s142_53 {M : Mm} {st : List Value} {l0 l1 : Option Value} {x y : Int32} : EE 142 53 [l0, l1] (.int y :: .int x :: st) M = if x = y then EE 142 56 [l0, l1] st M else EE 142 60 [l0, l1] st M := e_cne d142_53 (by decide)
theorem d142_56 : decode (cod 142) 56 = .ok (.iconst 1, 1) := by decide +kernel
theorem s142_56 {M : Mm} {st : List Value} {l0 l1 : Option Value} : EE 142 56 [l0, l1] st M = EE 142 57 [l0, l1] (.int (nI 1) :: st) M := e_con d142_56 k_con_1
theorem d142_57 : decode (cod 142) 57 = .ok (.goto 4, 3) := by decide +kernel
theorem s142_57 {M : Mm} {st : List Value} {l0 l1 : Option Value} : EE 142 57 [l0, l1] st M = EE 142 61 [l0, l1] st M := e_goto d142_57 (by decide)
theorem d142_60 : decode (cod 142) 60 = .ok (.iconst 0, 1) := by decide +kernel
theorem s142_60 {M : Mm} {st : List Value} {l0 l1 : Option Value} : EE 142 60 [l0, l1] st M = EE 142 61 [l0, l1] (.int (nI 0) :: st) M := e_con d142_60 k_con_0
theorem d142_61 : decode (cod 142) 61 = .ok (.ireturn, 1) := by decide +kernel
theorem s142_61 {M : Mm} {l0 l1 : Option Value} {v : Int32} (h : narrow .boolean (.int v) = .int v) : EE 142 61 [l0, l1] [.int v] M = some (some (.int v), M) := e_iret d142_61 rfl h
theorem FE142 {a : Nat} {M : Mm} : FF 142 [.ref a] M = EE 142 0 [some (.ref a), none] [] M := FF_eq 142 _ _ (Nat.le_of_ble_eq_true rfl)
theorem d143_0 : decode (cod 143) 0 = .ok (.aload_n 0, 1) := by decide +kernel
theorem s143_0 {M : Mm} {st : List Value} {l1 : Option Value} {x : Nat} : EE 143 0 [some (.ref x), l1] st M = EE 143 1 [some (.ref x), l1] (.ref x :: st) M := e_ld d143_0 rfl rfl rfl rfl rfl rfl
theorem d143_1 : decode (cod 143) 1 = .ok (.getfield 177, 3) := by decide +kernel
theorem s143_1 {n : Nat} {I : Nat → Nat → Int32} {R : Nat → Nat → Option Nat} {st : List Value} {l0 l1 : Option Value} {a : Nat} : EE 143 1 [l0, l1] (.ref a :: st) (n, I, R) = (gfI n I R 3 8 a).bind (fun z => EE 143 4 [l0, l1] (z :: st) (n, I, R)) := e_getf d143_1 f3_177 rfl rfl
theorem d143_4 : decode (cod 143) 4 = .ok (.aload_n 0, 1) := by decide +kernel
theorem s143_4 {M : Mm} {st : List Value} {l1 : Option Value} {x : Nat} : EE 143 4 [some (.ref x), l1] st M = EE 143 5 [some (.ref x), l1] (.ref x :: st) M := e_ld d143_4 rfl rfl rfl rfl rfl rfl
theorem d143_5 : decode (cod 143) 5 = .ok (.getfield 144, 3) := by decide +kernel
theorem s143_5 {n : Nat} {I : Nat → Nat → Int32} {R : Nat → Nat → Option Nat} {st : List Value} {l0 l1 : Option Value} {a : Nat} : EE 143 5 [l0, l1] (.ref a :: st) (n, I, R) = (gfI n I R 3 7 a).bind (fun z => EE 143 8 [l0, l1] (z :: st) (n, I, R)) := e_getf d143_5 f3_144 rfl rfl
theorem d143_8 : decode (cod 143) 8 = .ok (.if_icmp .ge 15, 3) := by decide +kernel
theorem s143_8 {M : Mm} {st : List Value} {l0 l1 : Option Value} {x y : Int32} : EE 143 8 [l0, l1] (.int y :: .int x :: st) M = if y ≤ x then EE 143 23 [l0, l1] st M else EE 143 11 [l0, l1] st M := e_cge d143_8 (by decide)
theorem d143_11 : decode (cod 143) 11 = .ok (.aload_n 0, 1) := by decide +kernel
theorem s143_11 {M : Mm} {st : List Value} {l1 : Option Value} {x : Nat} : EE 143 11 [some (.ref x), l1] st M = EE 143 12 [some (.ref x), l1] (.ref x :: st) M := e_ld d143_11 rfl rfl rfl rfl rfl rfl
theorem d143_12 : decode (cod 143) 12 = .ok (.getfield 26, 3) := by decide +kernel
theorem s143_12 {n : Nat} {I : Nat → Nat → Int32} {R : Nat → Nat → Option Nat} {st : List Value} {l0 l1 : Option Value} {a : Nat} : EE 143 12 [l0, l1] (.ref a :: st) (n, I, R) = (gfI n I R 3 6 a).bind (fun z => EE 143 15 [l0, l1] (z :: st) (n, I, R)) := e_getf d143_12 f3_26 rfl rfl
theorem d143_15 : decode (cod 143) 15 = .ok (.aload_n 0, 1) := by decide +kernel
theorem s143_15 {M : Mm} {st : List Value} {l1 : Option Value} {x : Nat} : EE 143 15 [some (.ref x), l1] st M = EE 143 16 [some (.ref x), l1] (.ref x :: st) M := e_ld d143_15 rfl rfl rfl rfl rfl rfl
theorem d143_16 : decode (cod 143) 16 = .ok (.getfield 177, 3) := by decide +kernel
theorem s143_16 {n : Nat} {I : Nat → Nat → Int32} {R : Nat → Nat → Option Nat} {st : List Value} {l0 l1 : Option Value} {a : Nat} : EE 143 16 [l0, l1] (.ref a :: st) (n, I, R) = (gfI n I R 3 8 a).bind (fun z => EE 143 19 [l0, l1] (z :: st) (n, I, R)) := e_getf d143_16 f3_177 rfl rfl
theorem d143_19 : decode (cod 143) 19 = .ok (.iaload, 1) := by decide +kernel
theorem s143_19 {n : Nat} {I : Nat → Nat → Int32} {R : Nat → Nat → Option Nat} {st : List Value} {l0 l1 : Option Value} {j : Int32} {a : Nat} : EE 143 19 [l0, l1] (.int j :: .ref a :: st) (n, I, R) = (ardI 5 n I a j).bind (fun z => EE 143 20 [l0, l1] (.int z :: st) (n, I, R)) := e_iald d143_19
theorem d143_20 : decode (cod 143) 20 = .ok (.goto 4, 3) := by decide +kernel
theorem s143_20 {M : Mm} {st : List Value} {l0 l1 : Option Value} : EE 143 20 [l0, l1] st M = EE 143 24 [l0, l1] st M := e_goto d143_20 (by decide)
theorem d143_23 : decode (cod 143) 23 = .ok (.iconst 0, 1) := by decide +kernel
theorem s143_23 {M : Mm} {st : List Value} {l0 l1 : Option Value} : EE 143 23 [l0, l1] st M = EE 143 24 [l0, l1] (.int (nI 0) :: st) M := e_con d143_23 k_con_0
theorem d143_24 : decode (cod 143) 24 = .ok (.istore_n 1, 1) := by decide +kernel
theorem s143_24 {M : Mm} {st : List Value} {l0 l1 : Option Value} {x : Int32} : EE 143 24 [l0, l1] (.int x :: st) M = EE 143 25 [cln l0, some (.int x)] st M := e_st1 d143_24 rfl rfl rfl rfl rfl rfl rfl (Nat.le_of_ble_eq_true rfl) rfl
theorem d143_25 : decode (cod 143) 25 = .ok (.aload_n 0, 1) := by decide +kernel
theorem s143_25 {M : Mm} {st : List Value} {l1 : Option Value} {x : Nat} : EE 143 25 [some (.ref x), l1] st M = EE 143 26 [some (.ref x), l1] (.ref x :: st) M := e_ld d143_25 rfl rfl rfl rfl rfl rfl
theorem d143_26 : decode (cod 143) 26 = .ok (.getfield 29, 3) := by decide +kernel
theorem s143_26 {n : Nat} {I : Nat → Nat → Int32} {R : Nat → Nat → Option Nat} {st : List Value} {l0 l1 : Option Value} {a : Nat} : EE 143 26 [l0, l1] (.ref a :: st) (n, I, R) = (gfI n I R 3 9 a).bind (fun z => EE 143 29 [l0, l1] (z :: st) (n, I, R)) := e_getf d143_26 f3_29 rfl rfl
theorem d143_29 : decode (cod 143) 29 = .ok (.iconst 4, 1) := by decide +kernel
theorem s143_29 {M : Mm} {st : List Value} {l0 l1 : Option Value} : EE 143 29 [l0, l1] st M = EE 143 30 [l0, l1] (.int (nI 4) :: st) M := e_con d143_29 k_con_4
theorem d143_30 : decode (cod 143) 30 = .ok (.aload_n 0, 1) := by decide +kernel
theorem s143_30 {M : Mm} {st : List Value} {l1 : Option Value} {x : Nat} : EE 143 30 [some (.ref x), l1] st M = EE 143 31 [some (.ref x), l1] (.ref x :: st) M := e_ld d143_30 rfl rfl rfl rfl rfl rfl
theorem d143_31 : decode (cod 143) 31 = .ok (.getfield 182, 3) := by decide +kernel
theorem s143_31 {n : Nat} {I : Nat → Nat → Int32} {R : Nat → Nat → Option Nat} {st : List Value} {l0 l1 : Option Value} {a : Nat} : EE 143 31 [l0, l1] (.ref a :: st) (n, I, R) = (gfI n I R 3 10 a).bind (fun z => EE 143 34 [l0, l1] (z :: st) (n, I, R)) := e_getf d143_31 f3_182 rfl rfl
theorem d143_34 : decode (cod 143) 34 = .ok (.imul, 1) := by decide +kernel
theorem s143_34 {M : Mm} {st : List Value} {l0 l1 : Option Value} {x y : Int32} : EE 143 34 [l0, l1] (.int y :: .int x :: st) M = EE 143 35 [l0, l1] (.int (x * y) :: st) M := e_II d143_34 rfl rfl rfl rfl rfl rfl
theorem d143_35 : decode (cod 143) 35 = .ok (.iload_n 1, 1) := by decide +kernel
theorem s143_35 {M : Mm} {st : List Value} {l0 : Option Value} {x : Int32} : EE 143 35 [l0, some (.int x)] st M = EE 143 36 [l0, some (.int x)] (.int x :: st) M := e_ld d143_35 rfl rfl rfl rfl rfl rfl
theorem d143_36 : decode (cod 143) 36 = .ok (.iastore, 1) := by decide +kernel
theorem s143_36 {n : Nat} {I : Nat → Nat → Int32} {R : Nat → Nat → Option Nat} {st : List Value} {l0 l1 : Option Value} {j x : Int32} {a : Nat} (h : acI 5 n a j) : EE 143 36 [l0, l1] (.int x :: .int j :: .ref a :: st) (n, I, R) = EE 143 37 [l0, l1] st (n, wI I a j.toNatClampNeg x, R) := e_iast d143_36 h
theorem d143_37 : decode (cod 143) 37 = .ok (.iload_n 1, 1) := by decide +kernel
theorem s143_37 {M : Mm} {st : List Value} {l0 : Option Value} {x : Int32} : EE 143 37 [l0, some (.int x)] st M = EE 143 38 [l0, some (.int x)] (.int x :: st) M := e_ld d143_37 rfl rfl rfl rfl rfl rfl
theorem d143_38 : decode (cod 143) 38 = .ok (.tableswitch 278 99 120 #[114, 278, 102, 278, 278, 278, 278, 278, 114, 132, 237, 278, 102, 278, 278, 194, 278, 278, 278, 278, 278, 114], 102) := by decide +kernel
theorem s143_38_99 {M : Mm} {st : List Value} {l0 l1 : Option Value} : EE 143 38 [l0, l1] (.int (nI 99) :: st) M = EE 143 152 [l0, l1] st M := e_tab d143_38 (by decide +kernel)
theorem s143_38_100 {M : Mm} {st : List Value} {l0 l1 : Option Value} : EE 143 38 [l0, l1] (.int (nI 100) :: st) M = EE 143 316 [l0, l1] st M := e_tab d143_38 (by decide +kernel)
theorem s143_38_101 {M : Mm} {st : List Value} {l0 l1 : Option Value} : EE 143 38 [l0, l1] (.int (nI 101) :: st) M = EE 143 140 [l0, l1] st M := e_tab d143_38 (by decide +kernel)
theorem s143_38_102 {M : Mm} {st : List Value} {l0 l1 : Option Value} : EE 143 38 [l0, l1] (.int (nI 102) :: st) M = EE 143 316 [l0, l1] st M := e_tab d143_38 (by decide +kernel)
theorem s143_38_103 {M : Mm} {st : List Value} {l0 l1 : Option Value} : EE 143 38 [l0, l1] (.int (nI 103) :: st) M = EE 143 316 [l0, l1] st M := e_tab d143_38 (by decide +kernel)
theorem s143_38_104 {M : Mm} {st : List Value} {l0 l1 : Option Value} : EE 143 38 [l0, l1] (.int (nI 104) :: st) M = EE 143 316 [l0, l1] st M := e_tab d143_38 (by decide +kernel)
theorem s143_38_105 {M : Mm} {st : List Value} {l0 l1 : Option Value} : EE 143 38 [l0, l1] (.int (nI 105) :: st) M = EE 143 316 [l0, l1] st M := e_tab d143_38 (by decide +kernel)
theorem s143_38_106 {M : Mm} {st : List Value} {l0 l1 : Option Value} : EE 143 38 [l0, l1] (.int (nI 106) :: st) M = EE 143 316 [l0, l1] st M := e_tab d143_38 (by decide +kernel)
theorem s143_38_107 {M : Mm} {st : List Value} {l0 l1 : Option Value} : EE 143 38 [l0, l1] (.int (nI 107) :: st) M = EE 143 152 [l0, l1] st M := e_tab d143_38 (by decide +kernel)
theorem s143_38_108 {M : Mm} {st : List Value} {l0 l1 : Option Value} : EE 143 38 [l0, l1] (.int (nI 108) :: st) M = EE 143 170 [l0, l1] st M := e_tab d143_38 (by decide +kernel)
theorem s143_38_109 {M : Mm} {st : List Value} {l0 l1 : Option Value} : EE 143 38 [l0, l1] (.int (nI 109) :: st) M = EE 143 275 [l0, l1] st M := e_tab d143_38 (by decide +kernel)
theorem s143_38_110 {M : Mm} {st : List Value} {l0 l1 : Option Value} : EE 143 38 [l0, l1] (.int (nI 110) :: st) M = EE 143 316 [l0, l1] st M := e_tab d143_38 (by decide +kernel)
theorem s143_38_111 {M : Mm} {st : List Value} {l0 l1 : Option Value} : EE 143 38 [l0, l1] (.int (nI 111) :: st) M = EE 143 140 [l0, l1] st M := e_tab d143_38 (by decide +kernel)
theorem s143_38_112 {M : Mm} {st : List Value} {l0 l1 : Option Value} : EE 143 38 [l0, l1] (.int (nI 112) :: st) M = EE 143 316 [l0, l1] st M := e_tab d143_38 (by decide +kernel)
theorem s143_38_113 {M : Mm} {st : List Value} {l0 l1 : Option Value} : EE 143 38 [l0, l1] (.int (nI 113) :: st) M = EE 143 316 [l0, l1] st M := e_tab d143_38 (by decide +kernel)
theorem s143_38_114 {M : Mm} {st : List Value} {l0 l1 : Option Value} : EE 143 38 [l0, l1] (.int (nI 114) :: st) M = EE 143 232 [l0, l1] st M := e_tab d143_38 (by decide +kernel)
theorem s143_38_115 {M : Mm} {st : List Value} {l0 l1 : Option Value} : EE 143 38 [l0, l1] (.int (nI 115) :: st) M = EE 143 316 [l0, l1] st M := e_tab d143_38 (by decide +kernel)
theorem s143_38_116 {M : Mm} {st : List Value} {l0 l1 : Option Value} : EE 143 38 [l0, l1] (.int (nI 116) :: st) M = EE 143 316 [l0, l1] st M := e_tab d143_38 (by decide +kernel)
theorem s143_38_117 {M : Mm} {st : List Value} {l0 l1 : Option Value} : EE 143 38 [l0, l1] (.int (nI 117) :: st) M = EE 143 316 [l0, l1] st M := e_tab d143_38 (by decide +kernel)
theorem s143_38_118 {M : Mm} {st : List Value} {l0 l1 : Option Value} : EE 143 38 [l0, l1] (.int (nI 118) :: st) M = EE 143 316 [l0, l1] st M := e_tab d143_38 (by decide +kernel)
theorem s143_38_119 {M : Mm} {st : List Value} {l0 l1 : Option Value} : EE 143 38 [l0, l1] (.int (nI 119) :: st) M = EE 143 316 [l0, l1] st M := e_tab d143_38 (by decide +kernel)
theorem s143_38_120 {M : Mm} {st : List Value} {l0 l1 : Option Value} : EE 143 38 [l0, l1] (.int (nI 120) :: st) M = EE 143 152 [l0, l1] st M := e_tab d143_38 (by decide +kernel)
theorem s143_38_d {M : Mm} {st : List Value} {l0 l1 : Option Value} {x : Int32} (h : x.toInt < 99 ∨ 120 < x.toInt) : EE 143 38 [l0, l1] (.int x :: st) M = EE 143 316 [l0, l1] st M := e_tab d143_38 (by rw [if_pos h]; decide +kernel)
theorem d143_140 : decode (cod 143) 140 = .ok (.aload_n 0, 1) := by decide +kernel
theorem s143_140 {M : Mm} {st : List Value} {l1 : Option Value} {x : Nat} : EE 143 140 [some (.ref x), l1] st M = EE 143 141 [some (.ref x), l1] (.ref x :: st) M := e_ld d143_140 rfl rfl rfl rfl rfl rfl
theorem d143_141 : decode (cod 143) 141 = .ok (.dup, 1) := by decide +kernel
theorem s143_141i {M : Mm} {st : List Value} {l0 l1 : Option Value} {x : Int32} : EE 143 141 [l0, l1] (.int x :: st) M = EE 143 142 [l0, l1] (.int x :: .int x :: st) M := e_dup d143_141 rfl
theorem s143_141r {M : Mm} {st : List Value} {l0 l1 : Option Value} {x : Nat} : EE 143 141 [l0, l1] (.ref x :: st) M = EE 143 142 [l0, l1] (.ref x :: .ref x :: st) M := e_dup d143_141 rfl
theorem d143_142 : decode (cod 143) 142 = .ok (.getfield 177, 3) := by decide +kernel
theorem s143_142 {n : Nat} {I : Nat → Nat → Int32} {R : Nat → Nat → Option Nat} {st : List Value} {l0 l1 : Option Value} {a : Nat} : EE 143 142 [l0, l1] (.ref a :: st) (n, I, R) = (gfI n I R 3 8 a).bind (fun z => EE 143 145 [l0, l1] (z :: st) (n, I, R)) := e_getf d143_142 f3_177 rfl rfl
theorem d143_145 : decode (cod 143) 145 = .ok (.iconst 1, 1) := by decide +kernel
theorem s143_145 {M : Mm} {st : List Value} {l0 l1 : Option Value} : EE 143 145 [l0, l1] st M = EE 143 146 [l0, l1] (.int (nI 1) :: st) M := e_con d143_145 k_con_1
theorem d143_146 : decode (cod 143) 146 = .ok (.iadd, 1) := by decide +kernel
theorem s143_146 {M : Mm} {st : List Value} {l0 l1 : Option Value} {x y : Int32} : EE 143 146 [l0, l1] (.int y :: .int x :: st) M = EE 143 147 [l0, l1] (.int (x + y) :: st) M := e_II d143_146 rfl rfl rfl rfl rfl rfl
theorem d143_147 : decode (cod 143) 147 = .ok (.putfield 177, 3) := by decide +kernel
theorem s143_147 {n : Nat} {I : Nat → Nat → Int32} {R : Nat → Nat → Option Nat} {st : List Value} {l0 l1 : Option Value} {a : Nat} {v : Value} : EE 143 147 [l0, l1] (v :: .ref a :: st) (n, I, R) = (pfI n I R 3 8 a v).bind (fun z => EE 143 150 [l0, l1] st (n, z.1, z.2)) := e_putf d143_147 f3_177 rfl rfl (Or.inr rfl)
theorem d143_150 : decode (cod 143) 150 = .ok (.iconst 1, 1) := by decide +kernel
theorem s143_150 {M : Mm} {st : List Value} {l0 l1 : Option Value} : EE 143 150 [l0, l1] st M = EE 143 151 [l0, l1] (.int (nI 1) :: st) M := e_con d143_150 k_con_1
theorem d143_151 : decode (cod 143) 151 = .ok (.ireturn, 1) := by decide +kernel
theorem s143_151 {M : Mm} {l0 l1 : Option Value} {v : Int32} (h : narrow .boolean (.int v) = .int v) : EE 143 151 [l0, l1] [.int v] M = some (some (.int v), M) := e_iret d143_151 rfl h
theorem d143_152 : decode (cod 143) 152 = .ok (.aload_n 0, 1) := by decide +kernel
theorem s143_152 {M : Mm} {st : List Value} {l1 : Option Value} {x : Nat} : EE 143 152 [some (.ref x), l1] st M = EE 143 153 [some (.ref x), l1] (.ref x :: st) M := e_ld d143_152 rfl rfl rfl rfl rfl rfl
theorem d143_153 : decode (cod 143) 153 = .ok (.dup, 1) := by decide +kernel
theorem s143_153i {M : Mm} {st : List Value} {l0 l1 : Option Value} {x : Int32} : EE 143 153 [l0, l1] (.int x :: st) M = EE 143 154 [l0, l1] (.int x :: .int x :: st) M := e_dup d143_153 rfl
theorem s143_153r {M : Mm} {st : List Value} {l0 l1 : Option Value} {x : Nat} : EE 143 153 [l0, l1] (.ref x :: st) M = EE 143 154 [l0, l1] (.ref x :: .ref x :: st) M := e_dup d143_153 rfl
theorem d143_154 : decode (cod 143) 154 = .ok (.getfield 177, 3) := by decide +kernel
theorem s143_154 {n : Nat} {I : Nat → Nat → Int32} {R : Nat → Nat → Option Nat} {st : List Value} {l0 l1 : Option Value} {a : Nat} : EE 143 154 [l0, l1] (.ref a :: st) (n, I, R) = (gfI n I R 3 8 a).bind (fun z => EE 143 157 [l0, l1] (z :: st) (n, I, R)) := e_getf d143_154 f3_177 rfl rfl
theorem d143_157 : decode (cod 143) 157 = .ok (.iconst 1, 1) := by decide +kernel
theorem s143_157 {M : Mm} {st : List Value} {l0 l1 : Option Value} : EE 143 157 [l0, l1] st M = EE 143 158 [l0, l1] (.int (nI 1) :: st) M := e_con d143_157 k_con_1
theorem d143_158 : decode (cod 143) 158 = .ok (.iadd, 1) := by decide +kernel
theorem s143_158 {M : Mm} {st : List Value} {l0 l1 : Option Value} {x y : Int32} : EE 143 158 [l0, l1] (.int y :: .int x :: st) M = EE 143 159 [l0, l1] (.int (x + y) :: st) M := e_II d143_158 rfl rfl rfl rfl rfl rfl
theorem d143_159 : decode (cod 143) 159 = .ok (.putfield 177, 3) := by decide +kernel
theorem s143_159 {n : Nat} {I : Nat → Nat → Int32} {R : Nat → Nat → Option Nat} {st : List Value} {l0 l1 : Option Value} {a : Nat} {v : Value} : EE 143 159 [l0, l1] (v :: .ref a :: st) (n, I, R) = (pfI n I R 3 8 a v).bind (fun z => EE 143 162 [l0, l1] st (n, z.1, z.2)) := e_putf d143_159 f3_177 rfl rfl (Or.inr rfl)
theorem d143_162 : decode (cod 143) 162 = .ok (.aload_n 0, 1) := by decide +kernel
theorem s143_162 {M : Mm} {st : List Value} {l1 : Option Value} {x : Nat} : EE 143 162 [some (.ref x), l1] st M = EE 143 163 [some (.ref x), l1] (.ref x :: st) M := e_ld d143_162 rfl rfl rfl rfl rfl rfl
theorem d143_163 : decode (cod 143) 163 = .ok (.iconst 1, 1) := by decide +kernel
theorem s143_163 {M : Mm} {st : List Value} {l0 l1 : Option Value} : EE 143 163 [l0, l1] st M = EE 143 164 [l0, l1] (.int (nI 1) :: st) M := e_con d143_163 k_con_1
theorem d143_164 : decode (cod 143) 164 = .ok (.bipush 57, 2) := by decide +kernel
theorem s143_164 {M : Mm} {st : List Value} {l0 l1 : Option Value} : EE 143 164 [l0, l1] st M = EE 143 166 [l0, l1] (.int (nI 57) :: st) M := e_bip d143_164 k_bip_57
theorem d143_166 : decode (cod 143) 166 = .ok (.invokevirtual 185, 3) := by decide +kernel
theorem s143_166 {l0 l1 : Option Value} {a : Nat} {M : Mm} {b0 : Int32} {b1 : Int32} {st : List Value} (hl : st.length ≤ 4) (ho : isO "HandoverDeskModel" M.1 a = true) : EE 143 166 [l0, l1] (.int b1 :: .int b0 :: .ref a :: st) M = (FF 144 (.ref a :: [.int b0, .int b1]) M).bind (fun z => EE 143 169 [l0, l1] (psh z.1 st) z.2) := e_calv (av := [.int b0, .int b1]) d143_166 c3_185 rfl rfl rfl r143_144 rfl hl ho
theorem d143_169 : decode (cod 143) 169 = .ok (.ireturn, 1) := by decide +kernel
theorem s143_169 {M : Mm} {l0 l1 : Option Value} {v : Int32} (h : narrow .boolean (.int v) = .int v) : EE 143 169 [l0, l1] [.int v] M = some (some (.int v), M) := e_iret d143_169 rfl h
theorem d143_170 : decode (cod 143) 170 = .ok (.aload_n 0, 1) := by decide +kernel
theorem s143_170 {M : Mm} {st : List Value} {l1 : Option Value} {x : Nat} : EE 143 170 [some (.ref x), l1] st M = EE 143 171 [some (.ref x), l1] (.ref x :: st) M := e_ld d143_170 rfl rfl rfl rfl rfl rfl
theorem d143_171 : decode (cod 143) 171 = .ok (.dup, 1) := by decide +kernel
theorem s143_171i {M : Mm} {st : List Value} {l0 l1 : Option Value} {x : Int32} : EE 143 171 [l0, l1] (.int x :: st) M = EE 143 172 [l0, l1] (.int x :: .int x :: st) M := e_dup d143_171 rfl
theorem s143_171r {M : Mm} {st : List Value} {l0 l1 : Option Value} {x : Nat} : EE 143 171 [l0, l1] (.ref x :: st) M = EE 143 172 [l0, l1] (.ref x :: .ref x :: st) M := e_dup d143_171 rfl
theorem d143_172 : decode (cod 143) 172 = .ok (.getfield 177, 3) := by decide +kernel
theorem s143_172 {n : Nat} {I : Nat → Nat → Int32} {R : Nat → Nat → Option Nat} {st : List Value} {l0 l1 : Option Value} {a : Nat} : EE 143 172 [l0, l1] (.ref a :: st) (n, I, R) = (gfI n I R 3 8 a).bind (fun z => EE 143 175 [l0, l1] (z :: st) (n, I, R)) := e_getf d143_172 f3_177 rfl rfl
theorem d143_175 : decode (cod 143) 175 = .ok (.iconst 1, 1) := by decide +kernel
theorem s143_175 {M : Mm} {st : List Value} {l0 l1 : Option Value} : EE 143 175 [l0, l1] st M = EE 143 176 [l0, l1] (.int (nI 1) :: st) M := e_con d143_175 k_con_1
theorem d143_176 : decode (cod 143) 176 = .ok (.iadd, 1) := by decide +kernel
theorem s143_176 {M : Mm} {st : List Value} {l0 l1 : Option Value} {x y : Int32} : EE 143 176 [l0, l1] (.int y :: .int x :: st) M = EE 143 177 [l0, l1] (.int (x + y) :: st) M := e_II d143_176 rfl rfl rfl rfl rfl rfl
theorem d143_177 : decode (cod 143) 177 = .ok (.putfield 177, 3) := by decide +kernel
theorem s143_177 {n : Nat} {I : Nat → Nat → Int32} {R : Nat → Nat → Option Nat} {st : List Value} {l0 l1 : Option Value} {a : Nat} {v : Value} : EE 143 177 [l0, l1] (v :: .ref a :: st) (n, I, R) = (pfI n I R 3 8 a v).bind (fun z => EE 143 180 [l0, l1] st (n, z.1, z.2)) := e_putf d143_177 f3_177 rfl rfl (Or.inr rfl)
theorem d143_180 : decode (cod 143) 180 = .ok (.aload_n 0, 1) := by decide +kernel
theorem s143_180 {M : Mm} {st : List Value} {l1 : Option Value} {x : Nat} : EE 143 180 [some (.ref x), l1] st M = EE 143 181 [some (.ref x), l1] (.ref x :: st) M := e_ld d143_180 rfl rfl rfl rfl rfl rfl
theorem d143_181 : decode (cod 143) 181 = .ok (.iconst 1, 1) := by decide +kernel
theorem s143_181 {M : Mm} {st : List Value} {l0 l1 : Option Value} : EE 143 181 [l0, l1] st M = EE 143 182 [l0, l1] (.int (nI 1) :: st) M := e_con d143_181 k_con_1
theorem d143_182 : decode (cod 143) 182 = .ok (.bipush 53, 2) := by decide +kernel
theorem s143_182 {M : Mm} {st : List Value} {l0 l1 : Option Value} : EE 143 182 [l0, l1] st M = EE 143 184 [l0, l1] (.int (nI 53) :: st) M := e_bip d143_182 k_bip_53
theorem d143_184 : decode (cod 143) 184 = .ok (.invokevirtual 185, 3) := by decide +kernel
theorem s143_184 {l0 l1 : Option Value} {a : Nat} {M : Mm} {b0 : Int32} {b1 : Int32} {st : List Value} (hl : st.length ≤ 4) (ho : isO "HandoverDeskModel" M.1 a = true) : EE 143 184 [l0, l1] (.int b1 :: .int b0 :: .ref a :: st) M = (FF 144 (.ref a :: [.int b0, .int b1]) M).bind (fun z => EE 143 187 [l0, l1] (psh z.1 st) z.2) := e_calv (av := [.int b0, .int b1]) d143_184 c3_185 rfl rfl rfl r143_144 rfl hl ho
theorem d143_187 : decode (cod 143) 187 = .ok (.ifCond .eq 43, 3) := by decide +kernel
theorem s143_187 {M : Mm} {st : List Value} {l0 l1 : Option Value} {x : Int32} : EE 143 187 [l0, l1] (.int x :: st) M = if x = 0 then EE 143 230 [l0, l1] st M else EE 143 190 [l0, l1] st M := e_eq0 d143_187 (by decide)
theorem d143_190 : decode (cod 143) 190 = .ok (.aload_n 0, 1) := by decide +kernel
theorem s143_190 {M : Mm} {st : List Value} {l1 : Option Value} {x : Nat} : EE 143 190 [some (.ref x), l1] st M = EE 143 191 [some (.ref x), l1] (.ref x :: st) M := e_ld d143_190 rfl rfl rfl rfl rfl rfl
theorem d143_191 : decode (cod 143) 191 = .ok (.bipush 46, 2) := by decide +kernel
theorem s143_191 {M : Mm} {st : List Value} {l0 l1 : Option Value} : EE 143 191 [l0, l1] st M = EE 143 193 [l0, l1] (.int (nI 46) :: st) M := e_bip d143_191 k_bip_46
theorem d143_193 : decode (cod 143) 193 = .ok (.invokevirtual 188, 3) := by decide +kernel
theorem s143_193 {l0 l1 : Option Value} {a : Nat} {M : Mm} {b0 : Int32} {st : List Value} (hl : st.length ≤ 4) (ho : isO "HandoverDeskModel" M.1 a = true) : EE 143 193 [l0, l1] (.int b0 :: .ref a :: st) M = (FF 146 (.ref a :: [.int b0]) M).bind (fun z => EE 143 196 [l0, l1] (psh z.1 st) z.2) := e_calv (av := [.int b0]) d143_193 c3_188 rfl rfl rfl r143_146 rfl hl ho
theorem d143_196 : decode (cod 143) 196 = .ok (.ifCond .eq 34, 3) := by decide +kernel
theorem s143_196 {M : Mm} {st : List Value} {l0 l1 : Option Value} {x : Int32} : EE 143 196 [l0, l1] (.int x :: st) M = if x = 0 then EE 143 230 [l0, l1] st M else EE 143 199 [l0, l1] st M := e_eq0 d143_196 (by decide)
theorem d143_199 : decode (cod 143) 199 = .ok (.aload_n 0, 1) := by decide +kernel
theorem s143_199 {M : Mm} {st : List Value} {l1 : Option Value} {x : Nat} : EE 143 199 [some (.ref x), l1] st M = EE 143 200 [some (.ref x), l1] (.ref x :: st) M := e_ld d143_199 rfl rfl rfl rfl rfl rfl
theorem d143_200 : decode (cod 143) 200 = .ok (.iconst 2, 1) := by decide +kernel
theorem s143_200 {M : Mm} {st : List Value} {l0 l1 : Option Value} : EE 143 200 [l0, l1] st M = EE 143 201 [l0, l1] (.int (nI 2) :: st) M := e_con d143_200 k_con_2
theorem d143_201 : decode (cod 143) 201 = .ok (.bipush 57, 2) := by decide +kernel
theorem s143_201 {M : Mm} {st : List Value} {l0 l1 : Option Value} : EE 143 201 [l0, l1] st M = EE 143 203 [l0, l1] (.int (nI 57) :: st) M := e_bip d143_201 k_bip_57
theorem d143_203 : decode (cod 143) 203 = .ok (.invokevirtual 185, 3) := by decide +kernel
theorem s143_203 {l0 l1 : Option Value} {a : Nat} {M : Mm} {b0 : Int32} {b1 : Int32} {st : List Value} (hl : st.length ≤ 4) (ho : isO "HandoverDeskModel" M.1 a = true) : EE 143 203 [l0, l1] (.int b1 :: .int b0 :: .ref a :: st) M = (FF 144 (.ref a :: [.int b0, .int b1]) M).bind (fun z => EE 143 206 [l0, l1] (psh z.1 st) z.2) := e_calv (av := [.int b0, .int b1]) d143_203 c3_185 rfl rfl rfl r143_144 rfl hl ho
theorem d143_206 : decode (cod 143) 206 = .ok (.ifCond .eq 24, 3) := by decide +kernel
theorem s143_206 {M : Mm} {st : List Value} {l0 l1 : Option Value} {x : Int32} : EE 143 206 [l0, l1] (.int x :: st) M = if x = 0 then EE 143 230 [l0, l1] st M else EE 143 209 [l0, l1] st M := e_eq0 d143_206 (by decide)
theorem d143_209 : decode (cod 143) 209 = .ok (.aload_n 0, 1) := by decide +kernel
theorem s143_209 {M : Mm} {st : List Value} {l1 : Option Value} {x : Nat} : EE 143 209 [some (.ref x), l1] st M = EE 143 210 [some (.ref x), l1] (.ref x :: st) M := e_ld d143_209 rfl rfl rfl rfl rfl rfl
theorem d143_210 : decode (cod 143) 210 = .ok (.bipush 43, 2) := by decide +kernel
theorem s143_210 {M : Mm} {st : List Value} {l0 l1 : Option Value} : EE 143 210 [l0, l1] st M = EE 143 212 [l0, l1] (.int (nI 43) :: st) M := e_bip d143_210 k_bip_43
theorem d143_212 : decode (cod 143) 212 = .ok (.invokevirtual 188, 3) := by decide +kernel
theorem s143_212 {l0 l1 : Option Value} {a : Nat} {M : Mm} {b0 : Int32} {st : List Value} (hl : st.length ≤ 4) (ho : isO "HandoverDeskModel" M.1 a = true) : EE 143 212 [l0, l1] (.int b0 :: .ref a :: st) M = (FF 146 (.ref a :: [.int b0]) M).bind (fun z => EE 143 215 [l0, l1] (psh z.1 st) z.2) := e_calv (av := [.int b0]) d143_212 c3_188 rfl rfl rfl r143_146 rfl hl ho
theorem d143_215 : decode (cod 143) 215 = .ok (.ifCond .eq 15, 3) := by decide +kernel
theorem s143_215 {M : Mm} {st : List Value} {l0 l1 : Option Value} {x : Int32} : EE 143 215 [l0, l1] (.int x :: st) M = if x = 0 then EE 143 230 [l0, l1] st M else EE 143 218 [l0, l1] st M := e_eq0 d143_215 (by decide)
theorem d143_218 : decode (cod 143) 218 = .ok (.aload_n 0, 1) := by decide +kernel
theorem s143_218 {M : Mm} {st : List Value} {l1 : Option Value} {x : Nat} : EE 143 218 [some (.ref x), l1] st M = EE 143 219 [some (.ref x), l1] (.ref x :: st) M := e_ld d143_218 rfl rfl rfl rfl rfl rfl
theorem d143_219 : decode (cod 143) 219 = .ok (.iconst 3, 1) := by decide +kernel
theorem s143_219 {M : Mm} {st : List Value} {l0 l1 : Option Value} : EE 143 219 [l0, l1] st M = EE 143 220 [l0, l1] (.int (nI 3) :: st) M := e_con d143_219 k_con_3
theorem d143_220 : decode (cod 143) 220 = .ok (.invokevirtual 191, 3) := by decide +kernel
theorem s143_220 {l0 l1 : Option Value} {a : Nat} {M : Mm} {b0 : Int32} {st : List Value} (hl : st.length ≤ 4) (ho : isO "HandoverDeskModel" M.1 a = true) : EE 143 220 [l0, l1] (.int b0 :: .ref a :: st) M = (FF 147 (.ref a :: [.int b0]) M).bind (fun z => EE 143 223 [l0, l1] (psh z.1 st) z.2) := e_calv (av := [.int b0]) d143_220 c3_191 rfl rfl rfl r143_147 rfl hl ho
theorem d143_223 : decode (cod 143) 223 = .ok (.ifCond .eq 7, 3) := by decide +kernel
theorem s143_223 {M : Mm} {st : List Value} {l0 l1 : Option Value} {x : Int32} : EE 143 223 [l0, l1] (.int x :: st) M = if x = 0 then EE 143 230 [l0, l1] st M else EE 143 226 [l0, l1] st M := e_eq0 d143_223 (by decide)
theorem d143_226 : decode (cod 143) 226 = .ok (.iconst 1, 1) := by decide +kernel
theorem s143_226 {M : Mm} {st : List Value} {l0 l1 : Option Value} : EE 143 226 [l0, l1] st M = EE 143 227 [l0, l1] (.int (nI 1) :: st) M := e_con d143_226 k_con_1
theorem d143_227 : decode (cod 143) 227 = .ok (.goto 4, 3) := by decide +kernel
theorem s143_227 {M : Mm} {st : List Value} {l0 l1 : Option Value} : EE 143 227 [l0, l1] st M = EE 143 231 [l0, l1] st M := e_goto d143_227 (by decide)
theorem d143_230 : decode (cod 143) 230 = .ok (.iconst 0, 1) := by decide +kernel
theorem s143_230 {M : Mm} {st : List Value} {l0 l1 : Option Value} : EE 143 230 [l0, l1] st M = EE 143 231 [l0, l1] (.int (nI 0) :: st) M := e_con d143_230 k_con_0
theorem d143_231 : decode (cod 143) 231 = .ok (.ireturn, 1) := by decide +kernel
theorem s143_231 {M : Mm} {l0 l1 : Option Value} {v : Int32} (h : narrow .boolean (.int v) = .int v) : EE 143 231 [l0, l1] [.int v] M = some (some (.int v), M) := e_iret d143_231 rfl h
theorem d143_232 : decode (cod 143) 232 = .ok (.aload_n 0, 1) := by decide +kernel
theorem s143_232 {M : Mm} {st : List Value} {l1 : Option Value} {x : Nat} : EE 143 232 [some (.ref x), l1] st M = EE 143 233 [some (.ref x), l1] (.ref x :: st) M := e_ld d143_232 rfl rfl rfl rfl rfl rfl
theorem d143_233 : decode (cod 143) 233 = .ok (.dup, 1) := by decide +kernel
theorem s143_233i {M : Mm} {st : List Value} {l0 l1 : Option Value} {x : Int32} : EE 143 233 [l0, l1] (.int x :: st) M = EE 143 234 [l0, l1] (.int x :: .int x :: st) M := e_dup d143_233 rfl
theorem s143_233r {M : Mm} {st : List Value} {l0 l1 : Option Value} {x : Nat} : EE 143 233 [l0, l1] (.ref x :: st) M = EE 143 234 [l0, l1] (.ref x :: .ref x :: st) M := e_dup d143_233 rfl
theorem d143_234 : decode (cod 143) 234 = .ok (.getfield 177, 3) := by decide +kernel
theorem s143_234 {n : Nat} {I : Nat → Nat → Int32} {R : Nat → Nat → Option Nat} {st : List Value} {l0 l1 : Option Value} {a : Nat} : EE 143 234 [l0, l1] (.ref a :: st) (n, I, R) = (gfI n I R 3 8 a).bind (fun z => EE 143 237 [l0, l1] (z :: st) (n, I, R)) := e_getf d143_234 f3_177 rfl rfl
theorem d143_237 : decode (cod 143) 237 = .ok (.iconst 1, 1) := by decide +kernel
theorem s143_237 {M : Mm} {st : List Value} {l0 l1 : Option Value} : EE 143 237 [l0, l1] st M = EE 143 238 [l0, l1] (.int (nI 1) :: st) M := e_con d143_237 k_con_1
theorem d143_238 : decode (cod 143) 238 = .ok (.iadd, 1) := by decide +kernel
theorem s143_238 {M : Mm} {st : List Value} {l0 l1 : Option Value} {x y : Int32} : EE 143 238 [l0, l1] (.int y :: .int x :: st) M = EE 143 239 [l0, l1] (.int (x + y) :: st) M := e_II d143_238 rfl rfl rfl rfl rfl rfl
theorem d143_239 : decode (cod 143) 239 = .ok (.putfield 177, 3) := by decide +kernel
theorem s143_239 {n : Nat} {I : Nat → Nat → Int32} {R : Nat → Nat → Option Nat} {st : List Value} {l0 l1 : Option Value} {a : Nat} {v : Value} : EE 143 239 [l0, l1] (v :: .ref a :: st) (n, I, R) = (pfI n I R 3 8 a v).bind (fun z => EE 143 242 [l0, l1] st (n, z.1, z.2)) := e_putf d143_239 f3_177 rfl rfl (Or.inr rfl)
theorem d143_242 : decode (cod 143) 242 = .ok (.aload_n 0, 1) := by decide +kernel
theorem s143_242 {M : Mm} {st : List Value} {l1 : Option Value} {x : Nat} : EE 143 242 [some (.ref x), l1] st M = EE 143 243 [some (.ref x), l1] (.ref x :: st) M := e_ld d143_242 rfl rfl rfl rfl rfl rfl
theorem d143_243 : decode (cod 143) 243 = .ok (.iconst 1, 1) := by decide +kernel
theorem s143_243 {M : Mm} {st : List Value} {l0 l1 : Option Value} : EE 143 243 [l0, l1] st M = EE 143 244 [l0, l1] (.int (nI 1) :: st) M := e_con d143_243 k_con_1
theorem d143_244 : decode (cod 143) 244 = .ok (.invokevirtual 191, 3) := by decide +kernel
theorem s143_244 {l0 l1 : Option Value} {a : Nat} {M : Mm} {b0 : Int32} {st : List Value} (hl : st.length ≤ 4) (ho : isO "HandoverDeskModel" M.1 a = true) : EE 143 244 [l0, l1] (.int b0 :: .ref a :: st) M = (FF 147 (.ref a :: [.int b0]) M).bind (fun z => EE 143 247 [l0, l1] (psh z.1 st) z.2) := e_calv (av := [.int b0]) d143_244 c3_191 rfl rfl rfl r143_147 rfl hl ho
theorem d143_247 : decode (cod 143) 247 = .ok (.ifCond .eq 26, 3) := by decide +kernel
theorem s143_247 {M : Mm} {st : List Value} {l0 l1 : Option Value} {x : Int32} : EE 143 247 [l0, l1] (.int x :: st) M = if x = 0 then EE 143 273 [l0, l1] st M else EE 143 250 [l0, l1] st M := e_eq0 d143_247 (by decide)
theorem d143_250 : decode (cod 143) 250 = .ok (.aload_n 0, 1) := by decide +kernel
theorem s143_250 {M : Mm} {st : List Value} {l1 : Option Value} {x : Nat} : EE 143 250 [some (.ref x), l1] st M = EE 143 251 [some (.ref x), l1] (.ref x :: st) M := e_ld d143_250 rfl rfl rfl rfl rfl rfl
theorem d143_251 : decode (cod 143) 251 = .ok (.bipush 61, 2) := by decide +kernel
theorem s143_251 {M : Mm} {st : List Value} {l0 l1 : Option Value} : EE 143 251 [l0, l1] st M = EE 143 253 [l0, l1] (.int (nI 61) :: st) M := e_bip d143_251 k_bip_61
theorem d143_253 : decode (cod 143) 253 = .ok (.invokevirtual 188, 3) := by decide +kernel
theorem s143_253 {l0 l1 : Option Value} {a : Nat} {M : Mm} {b0 : Int32} {st : List Value} (hl : st.length ≤ 4) (ho : isO "HandoverDeskModel" M.1 a = true) : EE 143 253 [l0, l1] (.int b0 :: .ref a :: st) M = (FF 146 (.ref a :: [.int b0]) M).bind (fun z => EE 143 256 [l0, l1] (psh z.1 st) z.2) := e_calv (av := [.int b0]) d143_253 c3_188 rfl rfl rfl r143_146 rfl hl ho
theorem d143_256 : decode (cod 143) 256 = .ok (.ifCond .eq 17, 3) := by decide +kernel
theorem s143_256 {M : Mm} {st : List Value} {l0 l1 : Option Value} {x : Int32} : EE 143 256 [l0, l1] (.int x :: st) M = if x = 0 then EE 143 273 [l0, l1] st M else EE 143 259 [l0, l1] st M := e_eq0 d143_256 (by decide)
theorem d143_259 : decode (cod 143) 259 = .ok (.aload_n 0, 1) := by decide +kernel
theorem s143_259 {M : Mm} {st : List Value} {l1 : Option Value} {x : Nat} : EE 143 259 [some (.ref x), l1] st M = EE 143 260 [some (.ref x), l1] (.ref x :: st) M := e_ld d143_259 rfl rfl rfl rfl rfl rfl
theorem d143_260 : decode (cod 143) 260 = .ok (.iconst 2, 1) := by decide +kernel
theorem s143_260 {M : Mm} {st : List Value} {l0 l1 : Option Value} : EE 143 260 [l0, l1] st M = EE 143 261 [l0, l1] (.int (nI 2) :: st) M := e_con d143_260 k_con_2
theorem d143_261 : decode (cod 143) 261 = .ok (.bipush 53, 2) := by decide +kernel
theorem s143_261 {M : Mm} {st : List Value} {l0 l1 : Option Value} : EE 143 261 [l0, l1] st M = EE 143 263 [l0, l1] (.int (nI 53) :: st) M := e_bip d143_261 k_bip_53
theorem d143_263 : decode (cod 143) 263 = .ok (.invokevirtual 185, 3) := by decide +kernel
theorem s143_263 {l0 l1 : Option Value} {a : Nat} {M : Mm} {b0 : Int32} {b1 : Int32} {st : List Value} (hl : st.length ≤ 4) (ho : isO "HandoverDeskModel" M.1 a = true) : EE 143 263 [l0, l1] (.int b1 :: .int b0 :: .ref a :: st) M = (FF 144 (.ref a :: [.int b0, .int b1]) M).bind (fun z => EE 143 266 [l0, l1] (psh z.1 st) z.2) := e_calv (av := [.int b0, .int b1]) d143_263 c3_185 rfl rfl rfl r143_144 rfl hl ho
theorem d143_266 : decode (cod 143) 266 = .ok (.ifCond .eq 7, 3) := by decide +kernel
theorem s143_266 {M : Mm} {st : List Value} {l0 l1 : Option Value} {x : Int32} : EE 143 266 [l0, l1] (.int x :: st) M = if x = 0 then EE 143 273 [l0, l1] st M else EE 143 269 [l0, l1] st M := e_eq0 d143_266 (by decide)
theorem d143_269 : decode (cod 143) 269 = .ok (.iconst 1, 1) := by decide +kernel
theorem s143_269 {M : Mm} {st : List Value} {l0 l1 : Option Value} : EE 143 269 [l0, l1] st M = EE 143 270 [l0, l1] (.int (nI 1) :: st) M := e_con d143_269 k_con_1
theorem d143_270 : decode (cod 143) 270 = .ok (.goto 4, 3) := by decide +kernel
theorem s143_270 {M : Mm} {st : List Value} {l0 l1 : Option Value} : EE 143 270 [l0, l1] st M = EE 143 274 [l0, l1] st M := e_goto d143_270 (by decide)
theorem d143_273 : decode (cod 143) 273 = .ok (.iconst 0, 1) := by decide +kernel
theorem s143_273 {M : Mm} {st : List Value} {l0 l1 : Option Value} : EE 143 273 [l0, l1] st M = EE 143 274 [l0, l1] (.int (nI 0) :: st) M := e_con d143_273 k_con_0
theorem d143_274 : decode (cod 143) 274 = .ok (.ireturn, 1) := by decide +kernel
theorem s143_274 {M : Mm} {l0 l1 : Option Value} {v : Int32} (h : narrow .boolean (.int v) = .int v) : EE 143 274 [l0, l1] [.int v] M = some (some (.int v), M) := e_iret d143_274 rfl h
theorem d143_275 : decode (cod 143) 275 = .ok (.aload_n 0, 1) := by decide +kernel
theorem s143_275 {M : Mm} {st : List Value} {l1 : Option Value} {x : Nat} : EE 143 275 [some (.ref x), l1] st M = EE 143 276 [some (.ref x), l1] (.ref x :: st) M := e_ld d143_275 rfl rfl rfl rfl rfl rfl
theorem d143_276 : decode (cod 143) 276 = .ok (.dup, 1) := by decide +kernel
theorem s143_276i {M : Mm} {st : List Value} {l0 l1 : Option Value} {x : Int32} : EE 143 276 [l0, l1] (.int x :: st) M = EE 143 277 [l0, l1] (.int x :: .int x :: st) M := e_dup d143_276 rfl
theorem s143_276r {M : Mm} {st : List Value} {l0 l1 : Option Value} {x : Nat} : EE 143 276 [l0, l1] (.ref x :: st) M = EE 143 277 [l0, l1] (.ref x :: .ref x :: st) M := e_dup d143_276 rfl
theorem d143_277 : decode (cod 143) 277 = .ok (.getfield 177, 3) := by decide +kernel
theorem s143_277 {n : Nat} {I : Nat → Nat → Int32} {R : Nat → Nat → Option Nat} {st : List Value} {l0 l1 : Option Value} {a : Nat} : EE 143 277 [l0, l1] (.ref a :: st) (n, I, R) = (gfI n I R 3 8 a).bind (fun z => EE 143 280 [l0, l1] (z :: st) (n, I, R)) := e_getf d143_277 f3_177 rfl rfl
theorem d143_280 : decode (cod 143) 280 = .ok (.iconst 1, 1) := by decide +kernel
theorem s143_280 {M : Mm} {st : List Value} {l0 l1 : Option Value} : EE 143 280 [l0, l1] st M = EE 143 281 [l0, l1] (.int (nI 1) :: st) M := e_con d143_280 k_con_1
theorem d143_281 : decode (cod 143) 281 = .ok (.iadd, 1) := by decide +kernel
theorem s143_281 {M : Mm} {st : List Value} {l0 l1 : Option Value} {x y : Int32} : EE 143 281 [l0, l1] (.int y :: .int x :: st) M = EE 143 282 [l0, l1] (.int (x + y) :: st) M := e_II d143_281 rfl rfl rfl rfl rfl rfl
theorem d143_282 : decode (cod 143) 282 = .ok (.putfield 177, 3) := by decide +kernel
theorem s143_282 {n : Nat} {I : Nat → Nat → Int32} {R : Nat → Nat → Option Nat} {st : List Value} {l0 l1 : Option Value} {a : Nat} {v : Value} : EE 143 282 [l0, l1] (v :: .ref a :: st) (n, I, R) = (pfI n I R 3 8 a v).bind (fun z => EE 143 285 [l0, l1] st (n, z.1, z.2)) := e_putf d143_282 f3_177 rfl rfl (Or.inr rfl)
theorem d143_285 : decode (cod 143) 285 = .ok (.aload_n 0, 1) := by decide +kernel
theorem s143_285 {M : Mm} {st : List Value} {l1 : Option Value} {x : Nat} : EE 143 285 [some (.ref x), l1] st M = EE 143 286 [some (.ref x), l1] (.ref x :: st) M := e_ld d143_285 rfl rfl rfl rfl rfl rfl
theorem d143_286 : decode (cod 143) 286 = .ok (.iconst 1, 1) := by decide +kernel
theorem s143_286 {M : Mm} {st : List Value} {l0 l1 : Option Value} : EE 143 286 [l0, l1] st M = EE 143 287 [l0, l1] (.int (nI 1) :: st) M := e_con d143_286 k_con_1
theorem d143_287 : decode (cod 143) 287 = .ok (.invokevirtual 191, 3) := by decide +kernel
theorem s143_287 {l0 l1 : Option Value} {a : Nat} {M : Mm} {b0 : Int32} {st : List Value} (hl : st.length ≤ 4) (ho : isO "HandoverDeskModel" M.1 a = true) : EE 143 287 [l0, l1] (.int b0 :: .ref a :: st) M = (FF 147 (.ref a :: [.int b0]) M).bind (fun z => EE 143 290 [l0, l1] (psh z.1 st) z.2) := e_calv (av := [.int b0]) d143_287 c3_191 rfl rfl rfl r143_147 rfl hl ho
theorem d143_290 : decode (cod 143) 290 = .ok (.ifCond .eq 24, 3) := by decide +kernel
theorem s143_290 {M : Mm} {st : List Value} {l0 l1 : Option Value} {x : Int32} : EE 143 290 [l0, l1] (.int x :: st) M = if x = 0 then EE 143 314 [l0, l1] st M else EE 143 293 [l0, l1] st M := e_eq0 d143_290 (by decide)
theorem d143_293 : decode (cod 143) 293 = .ok (.aload_n 0, 1) := by decide +kernel
theorem s143_293 {M : Mm} {st : List Value} {l1 : Option Value} {x : Nat} : EE 143 293 [some (.ref x), l1] st M = EE 143 294 [some (.ref x), l1] (.ref x :: st) M := e_ld d143_293 rfl rfl rfl rfl rfl rfl
theorem d143_294 : decode (cod 143) 294 = .ok (.bipush 61, 2) := by decide +kernel
theorem s143_294 {M : Mm} {st : List Value} {l0 l1 : Option Value} : EE 143 294 [l0, l1] st M = EE 143 296 [l0, l1] (.int (nI 61) :: st) M := e_bip d143_294 k_bip_61
theorem d143_296 : decode (cod 143) 296 = .ok (.invokevirtual 188, 3) := by decide +kernel
theorem s143_296 {l0 l1 : Option Value} {a : Nat} {M : Mm} {b0 : Int32} {st : List Value} (hl : st.length ≤ 4) (ho : isO "HandoverDeskModel" M.1 a = true) : EE 143 296 [l0, l1] (.int b0 :: .ref a :: st) M = (FF 146 (.ref a :: [.int b0]) M).bind (fun z => EE 143 299 [l0, l1] (psh z.1 st) z.2) := e_calv (av := [.int b0]) d143_296 c3_188 rfl rfl rfl r143_146 rfl hl ho
theorem d143_299 : decode (cod 143) 299 = .ok (.ifCond .eq 15, 3) := by decide +kernel
theorem s143_299 {M : Mm} {st : List Value} {l0 l1 : Option Value} {x : Int32} : EE 143 299 [l0, l1] (.int x :: st) M = if x = 0 then EE 143 314 [l0, l1] st M else EE 143 302 [l0, l1] st M := e_eq0 d143_299 (by decide)
theorem d143_302 : decode (cod 143) 302 = .ok (.aload_n 0, 1) := by decide +kernel
theorem s143_302 {M : Mm} {st : List Value} {l1 : Option Value} {x : Nat} : EE 143 302 [some (.ref x), l1] st M = EE 143 303 [some (.ref x), l1] (.ref x :: st) M := e_ld d143_302 rfl rfl rfl rfl rfl rfl
theorem d143_303 : decode (cod 143) 303 = .ok (.iconst 2, 1) := by decide +kernel
theorem s143_303 {M : Mm} {st : List Value} {l0 l1 : Option Value} : EE 143 303 [l0, l1] st M = EE 143 304 [l0, l1] (.int (nI 2) :: st) M := e_con d143_303 k_con_2
theorem d143_304 : decode (cod 143) 304 = .ok (.invokevirtual 191, 3) := by decide +kernel
theorem s143_304 {l0 l1 : Option Value} {a : Nat} {M : Mm} {b0 : Int32} {st : List Value} (hl : st.length ≤ 4) (ho : isO "HandoverDeskModel" M.1 a = true) : EE 143 304 [l0, l1] (.int b0 :: .ref a :: st) M = (FF 147 (.ref a :: [.int b0]) M).bind (fun z => EE 143 307 [l0, l1] (psh z.1 st) z.2) := e_calv (av := [.int b0]) d143_304 c3_191 rfl rfl rfl r143_147 rfl hl ho
theorem d143_307 : decode (cod 143) 307 = .ok (.ifCond .eq 7, 3) := by decide +kernel
theorem s143_307 {M : Mm} {st : List Value} {l0 l1 : Option Value} {x : Int32} : EE 143 307 [l0, l1] (.int x :: st) M = if x = 0 then EE 143 314 [l0, l1] st M else EE 143 310 [l0, l1] st M := e_eq0 d143_307 (by decide)
theorem d143_310 : decode (cod 143) 310 = .ok (.iconst 1, 1) := by decide +kernel
theorem s143_310 {M : Mm} {st : List Value} {l0 l1 : Option Value} : EE 143 310 [l0, l1] st M = EE 143 311 [l0, l1] (.int (nI 1) :: st) M := e_con d143_310 k_con_1
theorem d143_311 : decode (cod 143) 311 = .ok (.goto 4, 3) := by decide +kernel
theorem s143_311 {M : Mm} {st : List Value} {l0 l1 : Option Value} : EE 143 311 [l0, l1] st M = EE 143 315 [l0, l1] st M := e_goto d143_311 (by decide)
theorem d143_314 : decode (cod 143) 314 = .ok (.iconst 0, 1) := by decide +kernel
theorem s143_314 {M : Mm} {st : List Value} {l0 l1 : Option Value} : EE 143 314 [l0, l1] st M = EE 143 315 [l0, l1] (.int (nI 0) :: st) M := e_con d143_314 k_con_0
theorem d143_315 : decode (cod 143) 315 = .ok (.ireturn, 1) := by decide +kernel
theorem s143_315 {M : Mm} {l0 l1 : Option Value} {v : Int32} (h : narrow .boolean (.int v) = .int v) : EE 143 315 [l0, l1] [.int v] M = some (some (.int v), M) := e_iret d143_315 rfl h
theorem d143_316 : decode (cod 143) 316 = .ok (.iconst 0, 1) := by decide +kernel
theorem s143_316 {M : Mm} {st : List Value} {l0 l1 : Option Value} : EE 143 316 [l0, l1] st M = EE 143 317 [l0, l1] (.int (nI 0) :: st) M := e_con d143_316 k_con_0
theorem d143_317 : decode (cod 143) 317 = .ok (.ireturn, 1) := by decide +kernel
theorem s143_317 {M : Mm} {l0 l1 : Option Value} {v : Int32} (h : narrow .boolean (.int v) = .int v) : EE 143 317 [l0, l1] [.int v] M = some (some (.int v), M) := e_iret d143_317 rfl h
theorem FE143 {a : Nat} {M : Mm} : FF 143 [.ref a] M = EE 143 0 [some (.ref a), none] [] M := FF_eq 143 _ _ (Nat.le_of_ble_eq_true rfl)
theorem d144_0 : decode (cod 144) 0 = .ok (.aload_n 0, 1) := by decide +kernel
theorem s144_0 {M : Mm} {st : List Value} {l1 l2 l3 : Option Value} {x : Nat} : EE 144 0 [some (.ref x), l1, l2, l3] st M = EE 144 1 [some (.ref x), l1, l2, l3] (.ref x :: st) M := e_ld d144_0 rfl rfl rfl rfl rfl rfl
theorem d144_1 : decode (cod 144) 1 = .ok (.bipush 48, 2) := by decide +kernel
theorem s144_1 {M : Mm} {st : List Value} {l0 l1 l2 l3 : Option Value} : EE 144 1 [l0, l1, l2, l3] st M = EE 144 3 [l0, l1, l2, l3] (.int (nI 48) :: st) M := e_bip d144_1 k_bip_48
theorem d144_3 : decode (cod 144) 3 = .ok (.iload_n 2, 1) := by decide +kernel
theorem s144_3 {M : Mm} {st : List Value} {l0 l1 l3 : Option Value} {x : Int32} : EE 144 3 [l0, l1, some (.int x), l3] st M = EE 144 4 [l0, l1, some (.int x), l3] (.int x :: st) M := e_ld d144_3 rfl rfl rfl rfl rfl rfl
theorem d144_4 : decode (cod 144) 4 = .ok (.invokevirtual 179, 3) := by decide +kernel
theorem s144_4 {l0 l1 l2 l3 : Option Value} {a : Nat} {M : Mm} {b0 : Int32} {b1 : Int32} {st : List Value} (hl : st.length ≤ 4) (ho : isO "HandoverDeskModel" M.1 a = true) : EE 144 4 [l0, l1, l2, l3] (.int b1 :: .int b0 :: .ref a :: st) M = (FF 145 (.ref a :: [.int b0, .int b1]) M).bind (fun z => EE 144 7 [l0, l1, l2, l3] (psh z.1 st) z.2) := e_calv (av := [.int b0, .int b1]) d144_4 c3_179 rfl rfl rfl r144_145 rfl hl ho
theorem d144_7 : decode (cod 144) 7 = .ok (.istore_n 3, 1) := by decide +kernel
theorem s144_7 {M : Mm} {st : List Value} {l0 l1 l2 l3 : Option Value} {x : Int32} : EE 144 7 [l0, l1, l2, l3] (.int x :: st) M = EE 144 8 [l0, l1, cln l2, some (.int x)] st M := e_st1 d144_7 rfl rfl rfl rfl rfl rfl rfl (Nat.le_of_ble_eq_true rfl) rfl
theorem d144_8 : decode (cod 144) 8 = .ok (.iload_n 3, 1) := by decide +kernel
theorem s144_8 {M : Mm} {st : List Value} {l0 l1 l2 : Option Value} {x : Int32} : EE 144 8 [l0, l1, l2, some (.int x)] st M = EE 144 9 [l0, l1, l2, some (.int x)] (.int x :: st) M := e_ld d144_8 rfl rfl rfl rfl rfl rfl
theorem d144_9 : decode (cod 144) 9 = .ok (.ifCond .eq 38, 3) := by decide +kernel
theorem s144_9 {M : Mm} {st : List Value} {l0 l1 l2 l3 : Option Value} {x : Int32} : EE 144 9 [l0, l1, l2, l3] (.int x :: st) M = if x = 0 then EE 144 47 [l0, l1, l2, l3] st M else EE 144 12 [l0, l1, l2, l3] st M := e_eq0 d144_9 (by decide)
theorem d144_12 : decode (cod 144) 12 = .ok (.aload_n 0, 1) := by decide +kernel
theorem s144_12 {M : Mm} {st : List Value} {l1 l2 l3 : Option Value} {x : Nat} : EE 144 12 [some (.ref x), l1, l2, l3] st M = EE 144 13 [some (.ref x), l1, l2, l3] (.ref x :: st) M := e_ld d144_12 rfl rfl rfl rfl rfl rfl
theorem d144_13 : decode (cod 144) 13 = .ok (.getfield 29, 3) := by decide +kernel
theorem s144_13 {n : Nat} {I : Nat → Nat → Int32} {R : Nat → Nat → Option Nat} {st : List Value} {l0 l1 l2 l3 : Option Value} {a : Nat} : EE 144 13 [l0, l1, l2, l3] (.ref a :: st) (n, I, R) = (gfI n I R 3 9 a).bind (fun z => EE 144 16 [l0, l1, l2, l3] (z :: st) (n, I, R)) := e_getf d144_13 f3_29 rfl rfl
theorem d144_16 : decode (cod 144) 16 = .ok (.iconst 4, 1) := by decide +kernel
theorem s144_16 {M : Mm} {st : List Value} {l0 l1 l2 l3 : Option Value} : EE 144 16 [l0, l1, l2, l3] st M = EE 144 17 [l0, l1, l2, l3] (.int (nI 4) :: st) M := e_con d144_16 k_con_4
theorem d144_17 : decode (cod 144) 17 = .ok (.aload_n 0, 1) := by decide +kernel
theorem s144_17 {M : Mm} {st : List Value} {l1 l2 l3 : Option Value} {x : Nat} : EE 144 17 [some (.ref x), l1, l2, l3] st M = EE 144 18 [some (.ref x), l1, l2, l3] (.ref x :: st) M := e_ld d144_17 rfl rfl rfl rfl rfl rfl
theorem d144_18 : decode (cod 144) 18 = .ok (.getfield 182, 3) := by decide +kernel
theorem s144_18 {n : Nat} {I : Nat → Nat → Int32} {R : Nat → Nat → Option Nat} {st : List Value} {l0 l1 l2 l3 : Option Value} {a : Nat} : EE 144 18 [l0, l1, l2, l3] (.ref a :: st) (n, I, R) = (gfI n I R 3 10 a).bind (fun z => EE 144 21 [l0, l1, l2, l3] (z :: st) (n, I, R)) := e_getf d144_18 f3_182 rfl rfl
theorem d144_21 : decode (cod 144) 21 = .ok (.imul, 1) := by decide +kernel
theorem s144_21 {M : Mm} {st : List Value} {l0 l1 l2 l3 : Option Value} {x y : Int32} : EE 144 21 [l0, l1, l2, l3] (.int y :: .int x :: st) M = EE 144 22 [l0, l1, l2, l3] (.int (x * y) :: st) M := e_II d144_21 rfl rfl rfl rfl rfl rfl
theorem d144_22 : decode (cod 144) 22 = .ok (.iload_n 1, 1) := by decide +kernel
theorem s144_22 {M : Mm} {st : List Value} {l0 l2 l3 : Option Value} {x : Int32} : EE 144 22 [l0, some (.int x), l2, l3] st M = EE 144 23 [l0, some (.int x), l2, l3] (.int x :: st) M := e_ld d144_22 rfl rfl rfl rfl rfl rfl
theorem d144_23 : decode (cod 144) 23 = .ok (.iadd, 1) := by decide +kernel
theorem s144_23 {M : Mm} {st : List Value} {l0 l1 l2 l3 : Option Value} {x y : Int32} : EE 144 23 [l0, l1, l2, l3] (.int y :: .int x :: st) M = EE 144 24 [l0, l1, l2, l3] (.int (x + y) :: st) M := e_II d144_23 rfl rfl rfl rfl rfl rfl
theorem d144_24 : decode (cod 144) 24 = .ok (.aload_n 0, 1) := by decide +kernel
theorem s144_24 {M : Mm} {st : List Value} {l1 l2 l3 : Option Value} {x : Nat} : EE 144 24 [some (.ref x), l1, l2, l3] st M = EE 144 25 [some (.ref x), l1, l2, l3] (.ref x :: st) M := e_ld d144_24 rfl rfl rfl rfl rfl rfl
theorem d144_25 : decode (cod 144) 25 = .ok (.getfield 26, 3) := by decide +kernel
theorem s144_25 {n : Nat} {I : Nat → Nat → Int32} {R : Nat → Nat → Option Nat} {st : List Value} {l0 l1 l2 l3 : Option Value} {a : Nat} : EE 144 25 [l0, l1, l2, l3] (.ref a :: st) (n, I, R) = (gfI n I R 3 6 a).bind (fun z => EE 144 28 [l0, l1, l2, l3] (z :: st) (n, I, R)) := e_getf d144_25 f3_26 rfl rfl
theorem d144_28 : decode (cod 144) 28 = .ok (.aload_n 0, 1) := by decide +kernel
theorem s144_28 {M : Mm} {st : List Value} {l1 l2 l3 : Option Value} {x : Nat} : EE 144 28 [some (.ref x), l1, l2, l3] st M = EE 144 29 [some (.ref x), l1, l2, l3] (.ref x :: st) M := e_ld d144_28 rfl rfl rfl rfl rfl rfl
theorem d144_29 : decode (cod 144) 29 = .ok (.getfield 177, 3) := by decide +kernel
theorem s144_29 {n : Nat} {I : Nat → Nat → Int32} {R : Nat → Nat → Option Nat} {st : List Value} {l0 l1 l2 l3 : Option Value} {a : Nat} : EE 144 29 [l0, l1, l2, l3] (.ref a :: st) (n, I, R) = (gfI n I R 3 8 a).bind (fun z => EE 144 32 [l0, l1, l2, l3] (z :: st) (n, I, R)) := e_getf d144_29 f3_177 rfl rfl
theorem d144_32 : decode (cod 144) 32 = .ok (.iaload, 1) := by decide +kernel
theorem s144_32 {n : Nat} {I : Nat → Nat → Int32} {R : Nat → Nat → Option Nat} {st : List Value} {l0 l1 l2 l3 : Option Value} {j : Int32} {a : Nat} : EE 144 32 [l0, l1, l2, l3] (.int j :: .ref a :: st) (n, I, R) = (ardI 5 n I a j).bind (fun z => EE 144 33 [l0, l1, l2, l3] (.int z :: st) (n, I, R)) := e_iald d144_32
theorem d144_33 : decode (cod 144) 33 = .ok (.bipush 48, 2) := by decide +kernel
theorem s144_33 {M : Mm} {st : List Value} {l0 l1 l2 l3 : Option Value} : EE 144 33 [l0, l1, l2, l3] st M = EE 144 35 [l0, l1, l2, l3] (.int (nI 48) :: st) M := e_bip d144_33 k_bip_48
theorem d144_35 : decode (cod 144) 35 = .ok (.isub, 1) := by decide +kernel
theorem s144_35 {M : Mm} {st : List Value} {l0 l1 l2 l3 : Option Value} {x y : Int32} : EE 144 35 [l0, l1, l2, l3] (.int y :: .int x :: st) M = EE 144 36 [l0, l1, l2, l3] (.int (x - y) :: st) M := e_II d144_35 rfl rfl rfl rfl rfl rfl
theorem d144_36 : decode (cod 144) 36 = .ok (.iastore, 1) := by decide +kernel
theorem s144_36 {n : Nat} {I : Nat → Nat → Int32} {R : Nat → Nat → Option Nat} {st : List Value} {l0 l1 l2 l3 : Option Value} {j x : Int32} {a : Nat} (h : acI 5 n a j) : EE 144 36 [l0, l1, l2, l3] (.int x :: .int j :: .ref a :: st) (n, I, R) = EE 144 37 [l0, l1, l2, l3] st (n, wI I a j.toNatClampNeg x, R) := e_iast d144_36 h
theorem d144_37 : decode (cod 144) 37 = .ok (.aload_n 0, 1) := by decide +kernel
theorem s144_37 {M : Mm} {st : List Value} {l1 l2 l3 : Option Value} {x : Nat} : EE 144 37 [some (.ref x), l1, l2, l3] st M = EE 144 38 [some (.ref x), l1, l2, l3] (.ref x :: st) M := e_ld d144_37 rfl rfl rfl rfl rfl rfl
theorem d144_38 : decode (cod 144) 38 = .ok (.dup, 1) := by decide +kernel
theorem s144_38i {M : Mm} {st : List Value} {l0 l1 l2 l3 : Option Value} {x : Int32} : EE 144 38 [l0, l1, l2, l3] (.int x :: st) M = EE 144 39 [l0, l1, l2, l3] (.int x :: .int x :: st) M := e_dup d144_38 rfl
theorem s144_38r {M : Mm} {st : List Value} {l0 l1 l2 l3 : Option Value} {x : Nat} : EE 144 38 [l0, l1, l2, l3] (.ref x :: st) M = EE 144 39 [l0, l1, l2, l3] (.ref x :: .ref x :: st) M := e_dup d144_38 rfl
theorem d144_39 : decode (cod 144) 39 = .ok (.getfield 177, 3) := by decide +kernel
theorem s144_39 {n : Nat} {I : Nat → Nat → Int32} {R : Nat → Nat → Option Nat} {st : List Value} {l0 l1 l2 l3 : Option Value} {a : Nat} : EE 144 39 [l0, l1, l2, l3] (.ref a :: st) (n, I, R) = (gfI n I R 3 8 a).bind (fun z => EE 144 42 [l0, l1, l2, l3] (z :: st) (n, I, R)) := e_getf d144_39 f3_177 rfl rfl
theorem d144_42 : decode (cod 144) 42 = .ok (.iconst 1, 1) := by decide +kernel
theorem s144_42 {M : Mm} {st : List Value} {l0 l1 l2 l3 : Option Value} : EE 144 42 [l0, l1, l2, l3] st M = EE 144 43 [l0, l1, l2, l3] (.int (nI 1) :: st) M := e_con d144_42 k_con_1
theorem d144_43 : decode (cod 144) 43 = .ok (.iadd, 1) := by decide +kernel
theorem s144_43 {M : Mm} {st : List Value} {l0 l1 l2 l3 : Option Value} {x y : Int32} : EE 144 43 [l0, l1, l2, l3] (.int y :: .int x :: st) M = EE 144 44 [l0, l1, l2, l3] (.int (x + y) :: st) M := e_II d144_43 rfl rfl rfl rfl rfl rfl
theorem d144_44 : decode (cod 144) 44 = .ok (.putfield 177, 3) := by decide +kernel
theorem s144_44 {n : Nat} {I : Nat → Nat → Int32} {R : Nat → Nat → Option Nat} {st : List Value} {l0 l1 l2 l3 : Option Value} {a : Nat} {v : Value} : EE 144 44 [l0, l1, l2, l3] (v :: .ref a :: st) (n, I, R) = (pfI n I R 3 8 a v).bind (fun z => EE 144 47 [l0, l1, l2, l3] st (n, z.1, z.2)) := e_putf d144_44 f3_177 rfl rfl (Or.inr rfl)
theorem d144_47 : decode (cod 144) 47 = .ok (.iload_n 3, 1) := by decide +kernel
theorem s144_47 {M : Mm} {st : List Value} {l0 l1 l2 : Option Value} {x : Int32} : EE 144 47 [l0, l1, l2, some (.int x)] st M = EE 144 48 [l0, l1, l2, some (.int x)] (.int x :: st) M := e_ld d144_47 rfl rfl rfl rfl rfl rfl
theorem d144_48 : decode (cod 144) 48 = .ok (.ireturn, 1) := by decide +kernel
theorem s144_48 {M : Mm} {l0 l1 l2 l3 : Option Value} {v : Int32} (h : narrow .boolean (.int v) = .int v) : EE 144 48 [l0, l1, l2, l3] [.int v] M = some (some (.int v), M) := e_iret d144_48 rfl h
theorem FE144 {a : Nat} {b0 : Int32} {b1 : Int32} {M : Mm} : FF 144 [.ref a, .int b0, .int b1] M = EE 144 0 [some (.ref a), some (.int b0), some (.int b1), none] [] M := FF_eq 144 _ _ (Nat.le_of_ble_eq_true rfl)
theorem d145_0 : decode (cod 145) 0 = .ok (.aload_n 0, 1) := by decide +kernel
theorem s145_0 {M : Mm} {st : List Value} {l1 l2 : Option Value} {x : Nat} : EE 145 0 [some (.ref x), l1, l2] st M = EE 145 1 [some (.ref x), l1, l2] (.ref x :: st) M := e_ld d145_0 rfl rfl rfl rfl rfl rfl
theorem d145_1 : decode (cod 145) 1 = .ok (.getfield 177, 3) := by decide +kernel
theorem s145_1 {n : Nat} {I : Nat → Nat → Int32} {R : Nat → Nat → Option Nat} {st : List Value} {l0 l1 l2 : Option Value} {a : Nat} : EE 145 1 [l0, l1, l2] (.ref a :: st) (n, I, R) = (gfI n I R 3 8 a).bind (fun z => EE 145 4 [l0, l1, l2] (z :: st) (n, I, R)) := e_getf d145_1 f3_177 rfl rfl
theorem d145_4 : decode (cod 145) 4 = .ok (.aload_n 0, 1) := by decide +kernel
theorem s145_4 {M : Mm} {st : List Value} {l1 l2 : Option Value} {x : Nat} : EE 145 4 [some (.ref x), l1, l2] st M = EE 145 5 [some (.ref x), l1, l2] (.ref x :: st) M := e_ld d145_4 rfl rfl rfl rfl rfl rfl
theorem d145_5 : decode (cod 145) 5 = .ok (.getfield 144, 3) := by decide +kernel
theorem s145_5 {n : Nat} {I : Nat → Nat → Int32} {R : Nat → Nat → Option Nat} {st : List Value} {l0 l1 l2 : Option Value} {a : Nat} : EE 145 5 [l0, l1, l2] (.ref a :: st) (n, I, R) = (gfI n I R 3 7 a).bind (fun z => EE 145 8 [l0, l1, l2] (z :: st) (n, I, R)) := e_getf d145_5 f3_144 rfl rfl
theorem d145_8 : decode (cod 145) 8 = .ok (.if_icmp .ge 24, 3) := by decide +kernel
theorem s145_8 {M : Mm} {st : List Value} {l0 l1 l2 : Option Value} {x y : Int32} : EE 145 8 [l0, l1, l2] (.int y :: .int x :: st) M = if y ≤ x then EE 145 32 [l0, l1, l2] st M else EE 145 11 [l0, l1, l2] st M := e_cge d145_8 (by decide)
theorem d145_11 : decode (cod 145) 11 = .ok (.aload_n 0, 1) := by decide +kernel
theorem s145_11 {M : Mm} {st : List Value} {l1 l2 : Option Value} {x : Nat} : EE 145 11 [some (.ref x), l1, l2] st M = EE 145 12 [some (.ref x), l1, l2] (.ref x :: st) M := e_ld d145_11 rfl rfl rfl rfl rfl rfl
theorem d145_12 : decode (cod 145) 12 = .ok (.getfield 26, 3) := by decide +kernel
theorem s145_12 {n : Nat} {I : Nat → Nat → Int32} {R : Nat → Nat → Option Nat} {st : List Value} {l0 l1 l2 : Option Value} {a : Nat} : EE 145 12 [l0, l1, l2] (.ref a :: st) (n, I, R) = (gfI n I R 3 6 a).bind (fun z => EE 145 15 [l0, l1, l2] (z :: st) (n, I, R)) := e_getf d145_12 f3_26 rfl rfl
theorem d145_15 : decode (cod 145) 15 = .ok (.aload_n 0, 1) := by decide +kernel
theorem s145_15 {M : Mm} {st : List Value} {l1 l2 : Option Value} {x : Nat} : EE 145 15 [some (.ref x), l1, l2] st M = EE 145 16 [some (.ref x), l1, l2] (.ref x :: st) M := e_ld d145_15 rfl rfl rfl rfl rfl rfl
theorem d145_16 : decode (cod 145) 16 = .ok (.getfield 177, 3) := by decide +kernel
theorem s145_16 {n : Nat} {I : Nat → Nat → Int32} {R : Nat → Nat → Option Nat} {st : List Value} {l0 l1 l2 : Option Value} {a : Nat} : EE 145 16 [l0, l1, l2] (.ref a :: st) (n, I, R) = (gfI n I R 3 8 a).bind (fun z => EE 145 19 [l0, l1, l2] (z :: st) (n, I, R)) := e_getf d145_16 f3_177 rfl rfl
theorem d145_19 : decode (cod 145) 19 = .ok (.iaload, 1) := by decide +kernel
theorem s145_19 {n : Nat} {I : Nat → Nat → Int32} {R : Nat → Nat → Option Nat} {st : List Value} {l0 l1 l2 : Option Value} {j : Int32} {a : Nat} : EE 145 19 [l0, l1, l2] (.int j :: .ref a :: st) (n, I, R) = (ardI 5 n I a j).bind (fun z => EE 145 20 [l0, l1, l2] (.int z :: st) (n, I, R)) := e_iald d145_19
theorem d145_20 : decode (cod 145) 20 = .ok (.iload_n 1, 1) := by decide +kernel
theorem s145_20 {M : Mm} {st : List Value} {l0 l2 : Option Value} {x : Int32} : EE 145 20 [l0, some (.int x), l2] st M = EE 145 21 [l0, some (.int x), l2] (.int x :: st) M := e_ld d145_20 rfl rfl rfl rfl rfl rfl
theorem d145_21 : decode (cod 145) 21 = .ok (.iload_n 2, 1) := by decide +kernel
theorem s145_21 {M : Mm} {st : List Value} {l0 l1 : Option Value} {x : Int32} : EE 145 21 [l0, l1, some (.int x)] st M = EE 145 22 [l0, l1, some (.int x)] (.int x :: st) M := e_ld d145_21 rfl rfl rfl rfl rfl rfl
theorem d145_22 : decode (cod 145) 22 = .ok (.invokestatic 32, 3) := by decide +kernel
theorem s145_22 {M : Mm} {l0 l1 l2 : Option Value} {b0 : Int32} {b1 : Int32} {b2 : Int32} {st : List Value} (hl : st.length ≤ 4) : EE 145 22 [l0, l1, l2] (.int b2 :: .int b1 :: .int b0 :: st) M = (FF 84 [.int b0, .int b1, .int b2] M).bind (fun z => EE 145 25 [l0, l1, l2] (psh z.1 st) z.2) := e_cals (av := [.int b0, .int b1, .int b2]) d145_22 c3_32 (Or.inl rfl) rfl rfl r145_84 rfl hl
theorem d145_25 : decode (cod 145) 25 = .ok (.ifCond .eq 7, 3) := by decide +kernel
theorem s145_25 {M : Mm} {st : List Value} {l0 l1 l2 : Option Value} {x : Int32} : EE 145 25 [l0, l1, l2] (.int x :: st) M = if x = 0 then EE 145 32 [l0, l1, l2] st M else EE 145 28 [l0, l1, l2] st M := e_eq0 d145_25 (by decide)
theorem d145_28 : decode (cod 145) 28 = .ok (.iconst 1, 1) := by decide +kernel
theorem s145_28 {M : Mm} {st : List Value} {l0 l1 l2 : Option Value} : EE 145 28 [l0, l1, l2] st M = EE 145 29 [l0, l1, l2] (.int (nI 1) :: st) M := e_con d145_28 k_con_1
theorem d145_29 : decode (cod 145) 29 = .ok (.goto 4, 3) := by decide +kernel
theorem s145_29 {M : Mm} {st : List Value} {l0 l1 l2 : Option Value} : EE 145 29 [l0, l1, l2] st M = EE 145 33 [l0, l1, l2] st M := e_goto d145_29 (by decide)
theorem d145_32 : decode (cod 145) 32 = .ok (.iconst 0, 1) := by decide +kernel
theorem s145_32 {M : Mm} {st : List Value} {l0 l1 l2 : Option Value} : EE 145 32 [l0, l1, l2] st M = EE 145 33 [l0, l1, l2] (.int (nI 0) :: st) M := e_con d145_32 k_con_0
theorem d145_33 : decode (cod 145) 33 = .ok (.ireturn, 1) := by decide +kernel
theorem s145_33 {M : Mm} {l0 l1 l2 : Option Value} {v : Int32} (h : narrow .boolean (.int v) = .int v) : EE 145 33 [l0, l1, l2] [.int v] M = some (some (.int v), M) := e_iret d145_33 rfl h
theorem FE145 {a : Nat} {b0 : Int32} {b1 : Int32} {M : Mm} : FF 145 [.ref a, .int b0, .int b1] M = EE 145 0 [some (.ref a), some (.int b0), some (.int b1)] [] M := FF_eq 145 _ _ (Nat.le_of_ble_eq_true rfl)
theorem d146_0 : decode (cod 146) 0 = .ok (.aload_n 0, 1) := by decide +kernel
theorem s146_0 {M : Mm} {st : List Value} {l1 l2 : Option Value} {x : Nat} : EE 146 0 [some (.ref x), l1, l2] st M = EE 146 1 [some (.ref x), l1, l2] (.ref x :: st) M := e_ld d146_0 rfl rfl rfl rfl rfl rfl
theorem d146_1 : decode (cod 146) 1 = .ok (.iload_n 1, 1) := by decide +kernel
theorem s146_1 {M : Mm} {st : List Value} {l0 l2 : Option Value} {x : Int32} : EE 146 1 [l0, some (.int x), l2] st M = EE 146 2 [l0, some (.int x), l2] (.int x :: st) M := e_ld d146_1 rfl rfl rfl rfl rfl rfl
theorem d146_2 : decode (cod 146) 2 = .ok (.iload_n 1, 1) := by decide +kernel
theorem s146_2 {M : Mm} {st : List Value} {l0 l2 : Option Value} {x : Int32} : EE 146 2 [l0, some (.int x), l2] st M = EE 146 3 [l0, some (.int x), l2] (.int x :: st) M := e_ld d146_2 rfl rfl rfl rfl rfl rfl
theorem d146_3 : decode (cod 146) 3 = .ok (.invokevirtual 179, 3) := by decide +kernel
theorem s146_3 {l0 l1 l2 : Option Value} {a : Nat} {M : Mm} {b0 : Int32} {b1 : Int32} {st : List Value} (hl : st.length ≤ 4) (ho : isO "HandoverDeskModel" M.1 a = true) : EE 146 3 [l0, l1, l2] (.int b1 :: .int b0 :: .ref a :: st) M = (FF 145 (.ref a :: [.int b0, .int b1]) M).bind (fun z => EE 146 6 [l0, l1, l2] (psh z.1 st) z.2) := e_calv (av := [.int b0, .int b1]) d146_3 c3_179 rfl rfl rfl r146_145 rfl hl ho
theorem d146_6 : decode (cod 146) 6 = .ok (.istore_n 2, 1) := by decide +kernel
theorem s146_6 {M : Mm} {st : List Value} {l0 l1 l2 : Option Value} {x : Int32} : EE 146 6 [l0, l1, l2] (.int x :: st) M = EE 146 7 [l0, cln l1, some (.int x)] st M := e_st1 d146_6 rfl rfl rfl rfl rfl rfl rfl (Nat.le_of_ble_eq_true rfl) rfl
theorem d146_7 : decode (cod 146) 7 = .ok (.aload_n 0, 1) := by decide +kernel
theorem s146_7 {M : Mm} {st : List Value} {l1 l2 : Option Value} {x : Nat} : EE 146 7 [some (.ref x), l1, l2] st M = EE 146 8 [some (.ref x), l1, l2] (.ref x :: st) M := e_ld d146_7 rfl rfl rfl rfl rfl rfl
theorem d146_8 : decode (cod 146) 8 = .ok (.dup, 1) := by decide +kernel
theorem s146_8i {M : Mm} {st : List Value} {l0 l1 l2 : Option Value} {x : Int32} : EE 146 8 [l0, l1, l2] (.int x :: st) M = EE 146 9 [l0, l1, l2] (.int x :: .int x :: st) M := e_dup d146_8 rfl
theorem s146_8r {M : Mm} {st : List Value} {l0 l1 l2 : Option Value} {x : Nat} : EE 146 8 [l0, l1, l2] (.ref x :: st) M = EE 146 9 [l0, l1, l2] (.ref x :: .ref x :: st) M := e_dup d146_8 rfl
theorem d146_9 : decode (cod 146) 9 = .ok (.getfield 177, 3) := by decide +kernel
theorem s146_9 {n : Nat} {I : Nat → Nat → Int32} {R : Nat → Nat → Option Nat} {st : List Value} {l0 l1 l2 : Option Value} {a : Nat} : EE 146 9 [l0, l1, l2] (.ref a :: st) (n, I, R) = (gfI n I R 3 8 a).bind (fun z => EE 146 12 [l0, l1, l2] (z :: st) (n, I, R)) := e_getf d146_9 f3_177 rfl rfl
theorem d146_12 : decode (cod 146) 12 = .ok (.iload_n 2, 1) := by decide +kernel
theorem s146_12 {M : Mm} {st : List Value} {l0 l1 : Option Value} {x : Int32} : EE 146 12 [l0, l1, some (.int x)] st M = EE 146 13 [l0, l1, some (.int x)] (.int x :: st) M := e_ld d146_12 rfl rfl rfl rfl rfl rfl
theorem d146_13 : decode (cod 146) 13 = .ok (.ifCond .eq 7, 3) := by decide +kernel
theorem s146_13 {M : Mm} {st : List Value} {l0 l1 l2 : Option Value} {x : Int32} : EE 146 13 [l0, l1, l2] (.int x :: st) M = if x = 0 then EE 146 20 [l0, l1, l2] st M else EE 146 16 [l0, l1, l2] st M := e_eq0 d146_13 (by decide)
theorem d146_16 : decode (cod 146) 16 = .ok (.iconst 1, 1) := by decide +kernel
theorem s146_16 {M : Mm} {st : List Value} {l0 l1 l2 : Option Value} : EE 146 16 [l0, l1, l2] st M = EE 146 17 [l0, l1, l2] (.int (nI 1) :: st) M := e_con d146_16 k_con_1
theorem d146_17 : decode (cod 146) 17 = .ok (.goto 4, 3) := by decide +kernel
theorem s146_17 {M : Mm} {st : List Value} {l0 l1 l2 : Option Value} : EE 146 17 [l0, l1, l2] st M = EE 146 21 [l0, l1, l2] st M := e_goto d146_17 (by decide)
theorem d146_20 : decode (cod 146) 20 = .ok (.iconst 0, 1) := by decide +kernel
theorem s146_20 {M : Mm} {st : List Value} {l0 l1 l2 : Option Value} : EE 146 20 [l0, l1, l2] st M = EE 146 21 [l0, l1, l2] (.int (nI 0) :: st) M := e_con d146_20 k_con_0
theorem d146_21 : decode (cod 146) 21 = .ok (.iadd, 1) := by decide +kernel
theorem s146_21 {M : Mm} {st : List Value} {l0 l1 l2 : Option Value} {x y : Int32} : EE 146 21 [l0, l1, l2] (.int y :: .int x :: st) M = EE 146 22 [l0, l1, l2] (.int (x + y) :: st) M := e_II d146_21 rfl rfl rfl rfl rfl rfl
theorem d146_22 : decode (cod 146) 22 = .ok (.putfield 177, 3) := by decide +kernel
theorem s146_22 {n : Nat} {I : Nat → Nat → Int32} {R : Nat → Nat → Option Nat} {st : List Value} {l0 l1 l2 : Option Value} {a : Nat} {v : Value} : EE 146 22 [l0, l1, l2] (v :: .ref a :: st) (n, I, R) = (pfI n I R 3 8 a v).bind (fun z => EE 146 25 [l0, l1, l2] st (n, z.1, z.2)) := e_putf d146_22 f3_177 rfl rfl (Or.inr rfl)
theorem d146_25 : decode (cod 146) 25 = .ok (.iload_n 2, 1) := by decide +kernel
theorem s146_25 {M : Mm} {st : List Value} {l0 l1 : Option Value} {x : Int32} : EE 146 25 [l0, l1, some (.int x)] st M = EE 146 26 [l0, l1, some (.int x)] (.int x :: st) M := e_ld d146_25 rfl rfl rfl rfl rfl rfl
theorem d146_26 : decode (cod 146) 26 = .ok (.ireturn, 1) := by decide +kernel
theorem s146_26 {M : Mm} {l0 l1 l2 : Option Value} {v : Int32} (h : narrow .boolean (.int v) = .int v) : EE 146 26 [l0, l1, l2] [.int v] M = some (some (.int v), M) := e_iret d146_26 rfl h
theorem FE146 {a : Nat} {b0 : Int32} {M : Mm} : FF 146 [.ref a, .int b0] M = EE 146 0 [some (.ref a), some (.int b0), none] [] M := FF_eq 146 _ _ (Nat.le_of_ble_eq_true rfl)
theorem d147_0 : decode (cod 147) 0 = .ok (.aload_n 0, 1) := by decide +kernel
theorem s147_0 {M : Mm} {st : List Value} {l1 l2 : Option Value} {x : Nat} : EE 147 0 [some (.ref x), l1, l2] st M = EE 147 1 [some (.ref x), l1, l2] (.ref x :: st) M := e_ld d147_0 rfl rfl rfl rfl rfl rfl
theorem d147_1 : decode (cod 147) 1 = .ok (.bipush 48, 2) := by decide +kernel
theorem s147_1 {M : Mm} {st : List Value} {l0 l1 l2 : Option Value} : EE 147 1 [l0, l1, l2] st M = EE 147 3 [l0, l1, l2] (.int (nI 48) :: st) M := e_bip d147_1 k_bip_48
theorem d147_3 : decode (cod 147) 3 = .ok (.bipush 57, 2) := by decide +kernel
theorem s147_3 {M : Mm} {st : List Value} {l0 l1 l2 : Option Value} : EE 147 3 [l0, l1, l2] st M = EE 147 5 [l0, l1, l2] (.int (nI 57) :: st) M := e_bip d147_3 k_bip_57
theorem d147_5 : decode (cod 147) 5 = .ok (.invokevirtual 179, 3) := by decide +kernel
theorem s147_5 {l0 l1 l2 : Option Value} {a : Nat} {M : Mm} {b0 : Int32} {b1 : Int32} {st : List Value} (hl : st.length ≤ 4) (ho : isO "HandoverDeskModel" M.1 a = true) : EE 147 5 [l0, l1, l2] (.int b1 :: .int b0 :: .ref a :: st) M = (FF 145 (.ref a :: [.int b0, .int b1]) M).bind (fun z => EE 147 8 [l0, l1, l2] (psh z.1 st) z.2) := e_calv (av := [.int b0, .int b1]) d147_5 c3_179 rfl rfl rfl r147_145 rfl hl ho
theorem d147_8 : decode (cod 147) 8 = .ok (.ifCond .ne 5, 3) := by decide +kernel
theorem s147_8 {M : Mm} {st : List Value} {l0 l1 l2 : Option Value} {x : Int32} : EE 147 8 [l0, l1, l2] (.int x :: st) M = if x = 0 then EE 147 11 [l0, l1, l2] st M else EE 147 13 [l0, l1, l2] st M := e_ne0 d147_8 (by decide)
theorem d147_11 : decode (cod 147) 11 = .ok (.iconst 0, 1) := by decide +kernel
theorem s147_11 {M : Mm} {st : List Value} {l0 l1 l2 : Option Value} : EE 147 11 [l0, l1, l2] st M = EE 147 12 [l0, l1, l2] (.int (nI 0) :: st) M := e_con d147_11 k_con_0
theorem d147_12 : decode (cod 147) 12 = .ok (.ireturn, 1) := by decide +kernel
theorem s147_12 {M : Mm} {l0 l1 l2 : Option Value} {v : Int32} (h : narrow .boolean (.int v) = .int v) : EE 147 12 [l0, l1, l2] [.int v] M = some (some (.int v), M) := e_iret d147_12 rfl h
theorem d147_13 : decode (cod 147) 13 = .ok (.aload_n 0, 1) := by decide +kernel
theorem s147_13 {M : Mm} {st : List Value} {l1 l2 : Option Value} {x : Nat} : EE 147 13 [some (.ref x), l1, l2] st M = EE 147 14 [some (.ref x), l1, l2] (.ref x :: st) M := e_ld d147_13 rfl rfl rfl rfl rfl rfl
theorem d147_14 : decode (cod 147) 14 = .ok (.getfield 26, 3) := by decide +kernel
theorem s147_14 {n : Nat} {I : Nat → Nat → Int32} {R : Nat → Nat → Option Nat} {st : List Value} {l0 l1 l2 : Option Value} {a : Nat} : EE 147 14 [l0, l1, l2] (.ref a :: st) (n, I, R) = (gfI n I R 3 6 a).bind (fun z => EE 147 17 [l0, l1, l2] (z :: st) (n, I, R)) := e_getf d147_14 f3_26 rfl rfl
theorem d147_17 : decode (cod 147) 17 = .ok (.aload_n 0, 1) := by decide +kernel
theorem s147_17 {M : Mm} {st : List Value} {l1 l2 : Option Value} {x : Nat} : EE 147 17 [some (.ref x), l1, l2] st M = EE 147 18 [some (.ref x), l1, l2] (.ref x :: st) M := e_ld d147_17 rfl rfl rfl rfl rfl rfl
theorem d147_18 : decode (cod 147) 18 = .ok (.getfield 177, 3) := by decide +kernel
theorem s147_18 {n : Nat} {I : Nat → Nat → Int32} {R : Nat → Nat → Option Nat} {st : List Value} {l0 l1 l2 : Option Value} {a : Nat} : EE 147 18 [l0, l1, l2] (.ref a :: st) (n, I, R) = (gfI n I R 3 8 a).bind (fun z => EE 147 21 [l0, l1, l2] (z :: st) (n, I, R)) := e_getf d147_18 f3_177 rfl rfl
theorem d147_21 : decode (cod 147) 21 = .ok (.iaload, 1) := by decide +kernel
theorem s147_21 {n : Nat} {I : Nat → Nat → Int32} {R : Nat → Nat → Option Nat} {st : List Value} {l0 l1 l2 : Option Value} {j : Int32} {a : Nat} : EE 147 21 [l0, l1, l2] (.int j :: .ref a :: st) (n, I, R) = (ardI 5 n I a j).bind (fun z => EE 147 22 [l0, l1, l2] (.int z :: st) (n, I, R)) := e_iald d147_21
theorem d147_22 : decode (cod 147) 22 = .ok (.bipush 48, 2) := by decide +kernel
theorem s147_22 {M : Mm} {st : List Value} {l0 l1 l2 : Option Value} : EE 147 22 [l0, l1, l2] st M = EE 147 24 [l0, l1, l2] (.int (nI 48) :: st) M := e_bip d147_22 k_bip_48
theorem d147_24 : decode (cod 147) 24 = .ok (.isub, 1) := by decide +kernel
theorem s147_24 {M : Mm} {st : List Value} {l0 l1 l2 : Option Value} {x y : Int32} : EE 147 24 [l0, l1, l2] (.int y :: .int x :: st) M = EE 147 25 [l0, l1, l2] (.int (x - y) :: st) M := e_II d147_24 rfl rfl rfl rfl rfl rfl
theorem d147_25 : decode (cod 147) 25 = .ok (.istore_n 2, 1) := by decide +kernel
theorem s147_25 {M : Mm} {st : List Value} {l0 l1 l2 : Option Value} {x : Int32} : EE 147 25 [l0, l1, l2] (.int x :: st) M = EE 147 26 [l0, cln l1, some (.int x)] st M := e_st1 d147_25 rfl rfl rfl rfl rfl rfl rfl (Nat.le_of_ble_eq_true rfl) rfl
theorem d147_26 : decode (cod 147) 26 = .ok (.aload_n 0, 1) := by decide +kernel
theorem s147_26 {M : Mm} {st : List Value} {l1 l2 : Option Value} {x : Nat} : EE 147 26 [some (.ref x), l1, l2] st M = EE 147 27 [some (.ref x), l1, l2] (.ref x :: st) M := e_ld d147_26 rfl rfl rfl rfl rfl rfl
theorem d147_27 : decode (cod 147) 27 = .ok (.dup, 1) := by decide +kernel
theorem s147_27i {M : Mm} {st : List Value} {l0 l1 l2 : Option Value} {x : Int32} : EE 147 27 [l0, l1, l2] (.int x :: st) M = EE 147 28 [l0, l1, l2] (.int x :: .int x :: st) M := e_dup d147_27 rfl
theorem s147_27r {M : Mm} {st : List Value} {l0 l1 l2 : Option Value} {x : Nat} : EE 147 27 [l0, l1, l2] (.ref x :: st) M = EE 147 28 [l0, l1, l2] (.ref x :: .ref x :: st) M := e_dup d147_27 rfl
theorem d147_28 : decode (cod 147) 28 = .ok (.getfield 177, 3) := by decide +kernel
theorem s147_28 {n : Nat} {I : Nat → Nat → Int32} {R : Nat → Nat → Option Nat} {st : List Value} {l0 l1 l2 : Option Value} {a : Nat} : EE 147 28 [l0, l1, l2] (.ref a :: st) (n, I, R) = (gfI n I R 3 8 a).bind (fun z => EE 147 31 [l0, l1, l2] (z :: st) (n, I, R)) := e_getf d147_28 f3_177 rfl rfl
theorem d147_31 : decode (cod 147) 31 = .ok (.iconst 1, 1) := by decide +kernel
theorem s147_31 {M : Mm} {st : List Value} {l0 l1 l2 : Option Value} : EE 147 31 [l0, l1, l2] st M = EE 147 32 [l0, l1, l2] (.int (nI 1) :: st) M := e_con d147_31 k_con_1
theorem d147_32 : decode (cod 147) 32 = .ok (.iadd, 1) := by decide +kernel
theorem s147_32 {M : Mm} {st : List Value} {l0 l1 l2 : Option Value} {x y : Int32} : EE 147 32 [l0, l1, l2] (.int y :: .int x :: st) M = EE 147 33 [l0, l1, l2] (.int (x + y) :: st) M := e_II d147_32 rfl rfl rfl rfl rfl rfl
theorem d147_33 : decode (cod 147) 33 = .ok (.putfield 177, 3) := by decide +kernel
theorem s147_33 {n : Nat} {I : Nat → Nat → Int32} {R : Nat → Nat → Option Nat} {st : List Value} {l0 l1 l2 : Option Value} {a : Nat} {v : Value} : EE 147 33 [l0, l1, l2] (v :: .ref a :: st) (n, I, R) = (pfI n I R 3 8 a v).bind (fun z => EE 147 36 [l0, l1, l2] st (n, z.1, z.2)) := e_putf d147_33 f3_177 rfl rfl (Or.inr rfl)
theorem d147_36 : decode (cod 147) 36 = .ok (.iload_n 2, 1) := by decide +kernel
theorem s147_36 {M : Mm} {st : List Value} {l0 l1 : Option Value} {x : Int32} : EE 147 36 [l0, l1, some (.int x)] st M = EE 147 37 [l0, l1, some (.int x)] (.int x :: st) M := e_ld d147_36 rfl rfl rfl rfl rfl rfl
theorem d147_37 : decode (cod 147) 37 = .ok (.ifCond .le 51, 3) := by decide +kernel
theorem s147_37 {M : Mm} {st : List Value} {l0 l1 l2 : Option Value} {x : Int32} : EE 147 37 [l0, l1, l2] (.int x :: st) M = if x ≤ 0 then EE 147 88 [l0, l1, l2] st M else EE 147 40 [l0, l1, l2] st M := e_le0 d147_37 (by decide)
theorem d147_40 : decode (cod 147) 40 = .ok (.iload_n 2, 1) := by decide +kernel
theorem s147_40 {M : Mm} {st : List Value} {l0 l1 : Option Value} {x : Int32} : EE 147 40 [l0, l1, some (.int x)] st M = EE 147 41 [l0, l1, some (.int x)] (.int x :: st) M := e_ld d147_40 rfl rfl rfl rfl rfl rfl
theorem d147_41 : decode (cod 147) 41 = .ok (.bipush 100, 2) := by decide +kernel
theorem s147_41 {M : Mm} {st : List Value} {l0 l1 l2 : Option Value} : EE 147 41 [l0, l1, l2] st M = EE 147 43 [l0, l1, l2] (.int (nI 100) :: st) M := e_bip d147_41 k_bip_100
theorem d147_43 : decode (cod 147) 43 = .ok (.if_icmp .ge 45, 3) := by decide +kernel
theorem s147_43 {M : Mm} {st : List Value} {l0 l1 l2 : Option Value} {x y : Int32} : EE 147 43 [l0, l1, l2] (.int y :: .int x :: st) M = if y ≤ x then EE 147 88 [l0, l1, l2] st M else EE 147 46 [l0, l1, l2] st M := e_cge d147_43 (by decide)
theorem d147_46 : decode (cod 147) 46 = .ok (.aload_n 0, 1) := by decide +kernel
theorem s147_46 {M : Mm} {st : List Value} {l1 l2 : Option Value} {x : Nat} : EE 147 46 [some (.ref x), l1, l2] st M = EE 147 47 [some (.ref x), l1, l2] (.ref x :: st) M := e_ld d147_46 rfl rfl rfl rfl rfl rfl
theorem d147_47 : decode (cod 147) 47 = .ok (.bipush 48, 2) := by decide +kernel
theorem s147_47 {M : Mm} {st : List Value} {l0 l1 l2 : Option Value} : EE 147 47 [l0, l1, l2] st M = EE 147 49 [l0, l1, l2] (.int (nI 48) :: st) M := e_bip d147_47 k_bip_48
theorem d147_49 : decode (cod 147) 49 = .ok (.bipush 57, 2) := by decide +kernel
theorem s147_49 {M : Mm} {st : List Value} {l0 l1 l2 : Option Value} : EE 147 49 [l0, l1, l2] st M = EE 147 51 [l0, l1, l2] (.int (nI 57) :: st) M := e_bip d147_49 k_bip_57
theorem d147_51 : decode (cod 147) 51 = .ok (.invokevirtual 179, 3) := by decide +kernel
theorem s147_51 {l0 l1 l2 : Option Value} {a : Nat} {M : Mm} {b0 : Int32} {b1 : Int32} {st : List Value} (hl : st.length ≤ 4) (ho : isO "HandoverDeskModel" M.1 a = true) : EE 147 51 [l0, l1, l2] (.int b1 :: .int b0 :: .ref a :: st) M = (FF 145 (.ref a :: [.int b0, .int b1]) M).bind (fun z => EE 147 54 [l0, l1, l2] (psh z.1 st) z.2) := e_calv (av := [.int b0, .int b1]) d147_51 c3_179 rfl rfl rfl r147_145 rfl hl ho
theorem d147_54 : decode (cod 147) 54 = .ok (.ifCond .eq 34, 3) := by decide +kernel
theorem s147_54 {M : Mm} {st : List Value} {l0 l1 l2 : Option Value} {x : Int32} : EE 147 54 [l0, l1, l2] (.int x :: st) M = if x = 0 then EE 147 88 [l0, l1, l2] st M else EE 147 57 [l0, l1, l2] st M := e_eq0 d147_54 (by decide)
theorem d147_57 : decode (cod 147) 57 = .ok (.bipush 10, 2) := by decide +kernel
theorem s147_57 {M : Mm} {st : List Value} {l0 l1 l2 : Option Value} : EE 147 57 [l0, l1, l2] st M = EE 147 59 [l0, l1, l2] (.int (nI 10) :: st) M := e_bip d147_57 k_bip_10
theorem d147_59 : decode (cod 147) 59 = .ok (.iload_n 2, 1) := by decide +kernel
theorem s147_59 {M : Mm} {st : List Value} {l0 l1 : Option Value} {x : Int32} : EE 147 59 [l0, l1, some (.int x)] st M = EE 147 60 [l0, l1, some (.int x)] (.int x :: st) M := e_ld d147_59 rfl rfl rfl rfl rfl rfl
theorem d147_60 : decode (cod 147) 60 = .ok (.imul, 1) := by decide +kernel
theorem s147_60 {M : Mm} {st : List Value} {l0 l1 l2 : Option Value} {x y : Int32} : EE 147 60 [l0, l1, l2] (.int y :: .int x :: st) M = EE 147 61 [l0, l1, l2] (.int (x * y) :: st) M := e_II d147_60 rfl rfl rfl rfl rfl rfl
theorem d147_61 : decode (cod 147) 61 = .ok (.aload_n 0, 1) := by decide +kernel
theorem s147_61 {M : Mm} {st : List Value} {l1 l2 : Option Value} {x : Nat} : EE 147 61 [some (.ref x), l1, l2] st M = EE 147 62 [some (.ref x), l1, l2] (.ref x :: st) M := e_ld d147_61 rfl rfl rfl rfl rfl rfl
theorem d147_62 : decode (cod 147) 62 = .ok (.getfield 26, 3) := by decide +kernel
theorem s147_62 {n : Nat} {I : Nat → Nat → Int32} {R : Nat → Nat → Option Nat} {st : List Value} {l0 l1 l2 : Option Value} {a : Nat} : EE 147 62 [l0, l1, l2] (.ref a :: st) (n, I, R) = (gfI n I R 3 6 a).bind (fun z => EE 147 65 [l0, l1, l2] (z :: st) (n, I, R)) := e_getf d147_62 f3_26 rfl rfl
theorem d147_65 : decode (cod 147) 65 = .ok (.aload_n 0, 1) := by decide +kernel
theorem s147_65 {M : Mm} {st : List Value} {l1 l2 : Option Value} {x : Nat} : EE 147 65 [some (.ref x), l1, l2] st M = EE 147 66 [some (.ref x), l1, l2] (.ref x :: st) M := e_ld d147_65 rfl rfl rfl rfl rfl rfl
theorem d147_66 : decode (cod 147) 66 = .ok (.getfield 177, 3) := by decide +kernel
theorem s147_66 {n : Nat} {I : Nat → Nat → Int32} {R : Nat → Nat → Option Nat} {st : List Value} {l0 l1 l2 : Option Value} {a : Nat} : EE 147 66 [l0, l1, l2] (.ref a :: st) (n, I, R) = (gfI n I R 3 8 a).bind (fun z => EE 147 69 [l0, l1, l2] (z :: st) (n, I, R)) := e_getf d147_66 f3_177 rfl rfl
theorem d147_69 : decode (cod 147) 69 = .ok (.iaload, 1) := by decide +kernel
theorem s147_69 {n : Nat} {I : Nat → Nat → Int32} {R : Nat → Nat → Option Nat} {st : List Value} {l0 l1 l2 : Option Value} {j : Int32} {a : Nat} : EE 147 69 [l0, l1, l2] (.int j :: .ref a :: st) (n, I, R) = (ardI 5 n I a j).bind (fun z => EE 147 70 [l0, l1, l2] (.int z :: st) (n, I, R)) := e_iald d147_69
theorem d147_70 : decode (cod 147) 70 = .ok (.iadd, 1) := by decide +kernel
theorem s147_70 {M : Mm} {st : List Value} {l0 l1 l2 : Option Value} {x y : Int32} : EE 147 70 [l0, l1, l2] (.int y :: .int x :: st) M = EE 147 71 [l0, l1, l2] (.int (x + y) :: st) M := e_II d147_70 rfl rfl rfl rfl rfl rfl
theorem d147_71 : decode (cod 147) 71 = .ok (.bipush 48, 2) := by decide +kernel
theorem s147_71 {M : Mm} {st : List Value} {l0 l1 l2 : Option Value} : EE 147 71 [l0, l1, l2] st M = EE 147 73 [l0, l1, l2] (.int (nI 48) :: st) M := e_bip d147_71 k_bip_48
theorem d147_73 : decode (cod 147) 73 = .ok (.isub, 1) := by decide +kernel
theorem s147_73 {M : Mm} {st : List Value} {l0 l1 l2 : Option Value} {x y : Int32} : EE 147 73 [l0, l1, l2] (.int y :: .int x :: st) M = EE 147 74 [l0, l1, l2] (.int (x - y) :: st) M := e_II d147_73 rfl rfl rfl rfl rfl rfl
theorem d147_74 : decode (cod 147) 74 = .ok (.istore_n 2, 1) := by decide +kernel
theorem s147_74 {M : Mm} {st : List Value} {l0 l1 l2 : Option Value} {x : Int32} : EE 147 74 [l0, l1, l2] (.int x :: st) M = EE 147 75 [l0, cln l1, some (.int x)] st M := e_st1 d147_74 rfl rfl rfl rfl rfl rfl rfl (Nat.le_of_ble_eq_true rfl) rfl
theorem d147_75 : decode (cod 147) 75 = .ok (.aload_n 0, 1) := by decide +kernel
theorem s147_75 {M : Mm} {st : List Value} {l1 l2 : Option Value} {x : Nat} : EE 147 75 [some (.ref x), l1, l2] st M = EE 147 76 [some (.ref x), l1, l2] (.ref x :: st) M := e_ld d147_75 rfl rfl rfl rfl rfl rfl
theorem d147_76 : decode (cod 147) 76 = .ok (.dup, 1) := by decide +kernel
theorem s147_76i {M : Mm} {st : List Value} {l0 l1 l2 : Option Value} {x : Int32} : EE 147 76 [l0, l1, l2] (.int x :: st) M = EE 147 77 [l0, l1, l2] (.int x :: .int x :: st) M := e_dup d147_76 rfl
theorem s147_76r {M : Mm} {st : List Value} {l0 l1 l2 : Option Value} {x : Nat} : EE 147 76 [l0, l1, l2] (.ref x :: st) M = EE 147 77 [l0, l1, l2] (.ref x :: .ref x :: st) M := e_dup d147_76 rfl
theorem d147_77 : decode (cod 147) 77 = .ok (.getfield 177, 3) := by decide +kernel
theorem s147_77 {n : Nat} {I : Nat → Nat → Int32} {R : Nat → Nat → Option Nat} {st : List Value} {l0 l1 l2 : Option Value} {a : Nat} : EE 147 77 [l0, l1, l2] (.ref a :: st) (n, I, R) = (gfI n I R 3 8 a).bind (fun z => EE 147 80 [l0, l1, l2] (z :: st) (n, I, R)) := e_getf d147_77 f3_177 rfl rfl
theorem d147_80 : decode (cod 147) 80 = .ok (.iconst 1, 1) := by decide +kernel
theorem s147_80 {M : Mm} {st : List Value} {l0 l1 l2 : Option Value} : EE 147 80 [l0, l1, l2] st M = EE 147 81 [l0, l1, l2] (.int (nI 1) :: st) M := e_con d147_80 k_con_1
theorem d147_81 : decode (cod 147) 81 = .ok (.iadd, 1) := by decide +kernel
theorem s147_81 {M : Mm} {st : List Value} {l0 l1 l2 : Option Value} {x y : Int32} : EE 147 81 [l0, l1, l2] (.int y :: .int x :: st) M = EE 147 82 [l0, l1, l2] (.int (x + y) :: st) M := e_II d147_81 rfl rfl rfl rfl rfl rfl
theorem d147_82 : decode (cod 147) 82 = .ok (.putfield 177, 3) := by decide +kernel
theorem s147_82 {n : Nat} {I : Nat → Nat → Int32} {R : Nat → Nat → Option Nat} {st : List Value} {l0 l1 l2 : Option Value} {a : Nat} {v : Value} : EE 147 82 [l0, l1, l2] (v :: .ref a :: st) (n, I, R) = (pfI n I R 3 8 a v).bind (fun z => EE 147 85 [l0, l1, l2] st (n, z.1, z.2)) := e_putf d147_82 f3_177 rfl rfl (Or.inr rfl)
theorem d147_85 : decode (cod 147) 85 = .ok (.goto (-49), 3) := by decide +kernel
theorem s147_85 {M : Mm} {st : List Value} {l0 l1 l2 : Option Value} : EE 147 85 [l0, l1, l2] st M = EE 147 36 [l0, l1, l2] st M := e_goto d147_85 (by decide)
theorem d147_88 : decode (cod 147) 88 = .ok (.aload_n 0, 1) := by decide +kernel
theorem s147_88 {M : Mm} {st : List Value} {l1 l2 : Option Value} {x : Nat} : EE 147 88 [some (.ref x), l1, l2] st M = EE 147 89 [some (.ref x), l1, l2] (.ref x :: st) M := e_ld d147_88 rfl rfl rfl rfl rfl rfl
theorem d147_89 : decode (cod 147) 89 = .ok (.getfield 29, 3) := by decide +kernel
theorem s147_89 {n : Nat} {I : Nat → Nat → Int32} {R : Nat → Nat → Option Nat} {st : List Value} {l0 l1 l2 : Option Value} {a : Nat} : EE 147 89 [l0, l1, l2] (.ref a :: st) (n, I, R) = (gfI n I R 3 9 a).bind (fun z => EE 147 92 [l0, l1, l2] (z :: st) (n, I, R)) := e_getf d147_89 f3_29 rfl rfl
theorem d147_92 : decode (cod 147) 92 = .ok (.iconst 4, 1) := by decide +kernel
theorem s147_92 {M : Mm} {st : List Value} {l0 l1 l2 : Option Value} : EE 147 92 [l0, l1, l2] st M = EE 147 93 [l0, l1, l2] (.int (nI 4) :: st) M := e_con d147_92 k_con_4
theorem d147_93 : decode (cod 147) 93 = .ok (.aload_n 0, 1) := by decide +kernel
theorem s147_93 {M : Mm} {st : List Value} {l1 l2 : Option Value} {x : Nat} : EE 147 93 [some (.ref x), l1, l2] st M = EE 147 94 [some (.ref x), l1, l2] (.ref x :: st) M := e_ld d147_93 rfl rfl rfl rfl rfl rfl
theorem d147_94 : decode (cod 147) 94 = .ok (.getfield 182, 3) := by decide +kernel
theorem s147_94 {n : Nat} {I : Nat → Nat → Int32} {R : Nat → Nat → Option Nat} {st : List Value} {l0 l1 l2 : Option Value} {a : Nat} : EE 147 94 [l0, l1, l2] (.ref a :: st) (n, I, R) = (gfI n I R 3 10 a).bind (fun z => EE 147 97 [l0, l1, l2] (z :: st) (n, I, R)) := e_getf d147_94 f3_182 rfl rfl
theorem d147_97 : decode (cod 147) 97 = .ok (.imul, 1) := by decide +kernel
theorem s147_97 {M : Mm} {st : List Value} {l0 l1 l2 : Option Value} {x y : Int32} : EE 147 97 [l0, l1, l2] (.int y :: .int x :: st) M = EE 147 98 [l0, l1, l2] (.int (x * y) :: st) M := e_II d147_97 rfl rfl rfl rfl rfl rfl
theorem d147_98 : decode (cod 147) 98 = .ok (.iload_n 1, 1) := by decide +kernel
theorem s147_98 {M : Mm} {st : List Value} {l0 l2 : Option Value} {x : Int32} : EE 147 98 [l0, some (.int x), l2] st M = EE 147 99 [l0, some (.int x), l2] (.int x :: st) M := e_ld d147_98 rfl rfl rfl rfl rfl rfl
theorem d147_99 : decode (cod 147) 99 = .ok (.iadd, 1) := by decide +kernel
theorem s147_99 {M : Mm} {st : List Value} {l0 l1 l2 : Option Value} {x y : Int32} : EE 147 99 [l0, l1, l2] (.int y :: .int x :: st) M = EE 147 100 [l0, l1, l2] (.int (x + y) :: st) M := e_II d147_99 rfl rfl rfl rfl rfl rfl
theorem d147_100 : decode (cod 147) 100 = .ok (.iload_n 2, 1) := by decide +kernel
theorem s147_100 {M : Mm} {st : List Value} {l0 l1 : Option Value} {x : Int32} : EE 147 100 [l0, l1, some (.int x)] st M = EE 147 101 [l0, l1, some (.int x)] (.int x :: st) M := e_ld d147_100 rfl rfl rfl rfl rfl rfl
theorem d147_101 : decode (cod 147) 101 = .ok (.iastore, 1) := by decide +kernel
theorem s147_101 {n : Nat} {I : Nat → Nat → Int32} {R : Nat → Nat → Option Nat} {st : List Value} {l0 l1 l2 : Option Value} {j x : Int32} {a : Nat} (h : acI 5 n a j) : EE 147 101 [l0, l1, l2] (.int x :: .int j :: .ref a :: st) (n, I, R) = EE 147 102 [l0, l1, l2] st (n, wI I a j.toNatClampNeg x, R) := e_iast d147_101 h
theorem d147_102 : decode (cod 147) 102 = .ok (.iconst 1, 1) := by decide +kernel
theorem s147_102 {M : Mm} {st : List Value} {l0 l1 l2 : Option Value} : EE 147 102 [l0, l1, l2] st M = EE 147 103 [l0, l1, l2] (.int (nI 1) :: st) M := e_con d147_102 k_con_1
theorem d147_103 : decode (cod 147) 103 = .ok (.ireturn, 1) := by decide +kernel
theorem s147_103 {M : Mm} {l0 l1 l2 : Option Value} {v : Int32} (h : narrow .boolean (.int v) = .int v) : EE 147 103 [l0, l1, l2] [.int v] M = some (some (.int v), M) := e_iret d147_103 rfl h
theorem FE147 {a : Nat} {b0 : Int32} {M : Mm} : FF 147 [.ref a, .int b0] M = EE 147 0 [some (.ref a), some (.int b0), none] [] M := FF_eq 147 _ _ (Nat.le_of_ble_eq_true rfl)
theorem d148_0 : decode (cod 148) 0 = .ok (.aload_n 0, 1) := by decide +kernel
theorem s148_0 {M : Mm} {st : List Value} {l1 : Option Value} {x : Nat} : EE 148 0 [some (.ref x), l1] st M = EE 148 1 [some (.ref x), l1] (.ref x :: st) M := e_ld d148_0 rfl rfl rfl rfl rfl rfl
theorem d148_1 : decode (cod 148) 1 = .ok (.invokevirtual 198, 3) := by decide +kernel
theorem s148_1 {l0 l1 : Option Value} {a : Nat} {M : Mm} {st : List Value} (hl : st.length ≤ 4) (ho : isO "HandoverDeskModel" M.1 a = true) : EE 148 1 [l0, l1] (.ref a :: st) M = (FF 142 (.ref a :: []) M).bind (fun z => EE 148 4 [l0, l1] (psh z.1 st) z.2) := e_calv (av := []) d148_1 c3_198 rfl rfl rfl r148_142 rfl hl ho
theorem d148_4 : decode (cod 148) 4 = .ok (.ifCond .ne 6, 3) := by decide +kernel
theorem s148_4 {M : Mm} {st : List Value} {l0 l1 : Option Value} {x : Int32} : EE 148 4 [l0, l1] (.int x :: st) M = if x = 0 then EE 148 7 [l0, l1] st M else EE 148 10 [l0, l1] st M := e_ne0 d148_4 (by decide)
theorem d148_7 : decode (cod 148) 7 = .ok (.bipush (-3), 2) := by decide +kernel
theorem s148_7 {M : Mm} {st : List Value} {l0 l1 : Option Value} : EE 148 7 [l0, l1] st M = EE 148 9 [l0, l1] (.int ((-3)) :: st) M := e_bip d148_7 k_bip_m3
theorem d148_9 : decode (cod 148) 9 = .ok (.ireturn, 1) := by decide +kernel
theorem s148_9 {M : Mm} {l0 l1 : Option Value} {v : Int32} : EE 148 9 [l0, l1] [.int v] M = some (some (.int v), M) := e_iret d148_9 rfl rfl
theorem d148_10 : decode (cod 148) 10 = .ok (.aload_n 0, 1) := by decide +kernel
theorem s148_10 {M : Mm} {st : List Value} {l1 : Option Value} {x : Nat} : EE 148 10 [some (.ref x), l1] st M = EE 148 11 [some (.ref x), l1] (.ref x :: st) M := e_ld d148_10 rfl rfl rfl rfl rfl rfl
theorem d148_11 : decode (cod 148) 11 = .ok (.invokevirtual 44, 3) := by decide +kernel
theorem s148_11 {l0 l1 : Option Value} {a : Nat} {M : Mm} {st : List Value} (hl : st.length ≤ 4) (ho : isO "HandoverDeskModel" M.1 a = true) : EE 148 11 [l0, l1] (.ref a :: st) M = (FF 86 (.ref a :: []) M).bind (fun z => EE 148 14 [l0, l1] (psh z.1 st) z.2) := e_calv (av := []) d148_11 c3_44 rfl rfl rfl r148_86 rfl hl ho
theorem d148_14 : decode (cod 148) 14 = .ok (.aload_n 0, 1) := by decide +kernel
theorem s148_14 {M : Mm} {st : List Value} {l1 : Option Value} {x : Nat} : EE 148 14 [some (.ref x), l1] st M = EE 148 15 [some (.ref x), l1] (.ref x :: st) M := e_ld d148_14 rfl rfl rfl rfl rfl rfl
theorem d148_15 : decode (cod 148) 15 = .ok (.iconst 0, 1) := by decide +kernel
theorem s148_15 {M : Mm} {st : List Value} {l0 l1 : Option Value} : EE 148 15 [l0, l1] st M = EE 148 16 [l0, l1] (.int (nI 0) :: st) M := e_con d148_15 k_con_0
theorem d148_16 : decode (cod 148) 16 = .ok (.putfield 144, 3) := by decide +kernel
theorem s148_16 {n : Nat} {I : Nat → Nat → Int32} {R : Nat → Nat → Option Nat} {st : List Value} {l0 l1 : Option Value} {a : Nat} {v : Value} : EE 148 16 [l0, l1] (v :: .ref a :: st) (n, I, R) = (pfI n I R 3 7 a v).bind (fun z => EE 148 19 [l0, l1] st (n, z.1, z.2)) := e_putf d148_16 f3_144 rfl rfl (Or.inr rfl)
theorem d148_19 : decode (cod 148) 19 = .ok (.iconst 0, 1) := by decide +kernel
theorem s148_19 {M : Mm} {st : List Value} {l0 l1 : Option Value} : EE 148 19 [l0, l1] st M = EE 148 20 [l0, l1] (.int (nI 0) :: st) M := e_con d148_19 k_con_0
theorem d148_20 : decode (cod 148) 20 = .ok (.istore_n 1, 1) := by decide +kernel
theorem s148_20 {M : Mm} {st : List Value} {l0 l1 : Option Value} {x : Int32} : EE 148 20 [l0, l1] (.int x :: st) M = EE 148 21 [cln l0, some (.int x)] st M := e_st1 d148_20 rfl rfl rfl rfl rfl rfl rfl (Nat.le_of_ble_eq_true rfl) rfl
theorem d148_21 : decode (cod 148) 21 = .ok (.iload_n 1, 1) := by decide +kernel
theorem s148_21 {M : Mm} {st : List Value} {l0 : Option Value} {x : Int32} : EE 148 21 [l0, some (.int x)] st M = EE 148 22 [l0, some (.int x)] (.int x :: st) M := e_ld d148_21 rfl rfl rfl rfl rfl rfl
theorem d148_22 : decode (cod 148) 22 = .ok (.aload_n 0, 1) := by decide +kernel
theorem s148_22 {M : Mm} {st : List Value} {l1 : Option Value} {x : Nat} : EE 148 22 [some (.ref x), l1] st M = EE 148 23 [some (.ref x), l1] (.ref x :: st) M := e_ld d148_22 rfl rfl rfl rfl rfl rfl
theorem d148_23 : decode (cod 148) 23 = .ok (.getfield 182, 3) := by decide +kernel
theorem s148_23 {n : Nat} {I : Nat → Nat → Int32} {R : Nat → Nat → Option Nat} {st : List Value} {l0 l1 : Option Value} {a : Nat} : EE 148 23 [l0, l1] (.ref a :: st) (n, I, R) = (gfI n I R 3 10 a).bind (fun z => EE 148 26 [l0, l1] (z :: st) (n, I, R)) := e_getf d148_23 f3_182 rfl rfl
theorem d148_26 : decode (cod 148) 26 = .ok (.if_icmp .ge 17, 3) := by decide +kernel
theorem s148_26 {M : Mm} {st : List Value} {l0 l1 : Option Value} {x y : Int32} : EE 148 26 [l0, l1] (.int y :: .int x :: st) M = if y ≤ x then EE 148 43 [l0, l1] st M else EE 148 29 [l0, l1] st M := e_cge d148_26 (by decide)
theorem d148_29 : decode (cod 148) 29 = .ok (.aload_n 0, 1) := by decide +kernel
theorem s148_29 {M : Mm} {st : List Value} {l1 : Option Value} {x : Nat} : EE 148 29 [some (.ref x), l1] st M = EE 148 30 [some (.ref x), l1] (.ref x :: st) M := e_ld d148_29 rfl rfl rfl rfl rfl rfl
theorem d148_30 : decode (cod 148) 30 = .ok (.iload_n 1, 1) := by decide +kernel
theorem s148_30 {M : Mm} {st : List Value} {l0 : Option Value} {x : Int32} : EE 148 30 [l0, some (.int x)] st M = EE 148 31 [l0, some (.int x)] (.int x :: st) M := e_ld d148_30 rfl rfl rfl rfl rfl rfl
theorem d148_31 : decode (cod 148) 31 = .ok (.invokevirtual 205, 3) := by decide +kernel
theorem s148_31 {l0 l1 : Option Value} {a : Nat} {M : Mm} {b0 : Int32} {st : List Value} (hl : st.length ≤ 4) (ho : isO "HandoverDeskModel" M.1 a = true) : EE 148 31 [l0, l1] (.int b0 :: .ref a :: st) M = (FF 149 (.ref a :: [.int b0]) M).bind (fun z => EE 148 34 [l0, l1] (psh z.1 st) z.2) := e_calv (av := [.int b0]) d148_31 c3_205 rfl rfl rfl r148_149 rfl hl ho
theorem d148_34 : decode (cod 148) 34 = .ok (.ifCond .eq 9, 3) := by decide +kernel
theorem s148_34 {M : Mm} {st : List Value} {l0 l1 : Option Value} {x : Int32} : EE 148 34 [l0, l1] (.int x :: st) M = if x = 0 then EE 148 43 [l0, l1] st M else EE 148 37 [l0, l1] st M := e_eq0 d148_34 (by decide)
theorem d148_37 : decode (cod 148) 37 = .ok (.iinc 1 1, 3) := by decide +kernel
theorem s148_37 {M : Mm} {st : List Value} {l0 : Option Value} {x : Int32} : EE 148 37 [l0, some (.int x)] st M = EE 148 40 [cln l0, some (.int (x + nI 1))] st M := e_iinc d148_37 rfl (congrArg (fun z => x + z) k_inc_1) rfl
theorem d148_40 : decode (cod 148) 40 = .ok (.goto (-19), 3) := by decide +kernel
theorem s148_40 {M : Mm} {st : List Value} {l0 l1 : Option Value} : EE 148 40 [l0, l1] st M = EE 148 21 [l0, l1] st M := e_goto d148_40 (by decide)
theorem d148_43 : decode (cod 148) 43 = .ok (.iload_n 1, 1) := by decide +kernel
theorem s148_43 {M : Mm} {st : List Value} {l0 : Option Value} {x : Int32} : EE 148 43 [l0, some (.int x)] st M = EE 148 44 [l0, some (.int x)] (.int x :: st) M := e_ld d148_43 rfl rfl rfl rfl rfl rfl
theorem d148_44 : decode (cod 148) 44 = .ok (.ireturn, 1) := by decide +kernel
theorem s148_44 {M : Mm} {l0 l1 : Option Value} {v : Int32} : EE 148 44 [l0, l1] [.int v] M = some (some (.int v), M) := e_iret d148_44 rfl rfl
theorem FE148 {a : Nat} {M : Mm} : FF 148 [.ref a] M = EE 148 0 [some (.ref a), none] [] M := FF_eq 148 _ _ (Nat.le_of_ble_eq_true rfl)
theorem d149_0 : decode (cod 149) 0 = .ok (.aload_n 0, 1) := by decide +kernel
theorem s149_0 {M : Mm} {st : List Value} {l1 l2 l3 l4 l5 : Option Value} {x : Nat} : EE 149 0 [some (.ref x), l1, l2, l3, l4, l5] st M = EE 149 1 [some (.ref x), l1, l2, l3, l4, l5] (.ref x :: st) M := e_ld d149_0 rfl rfl rfl rfl rfl rfl
theorem d149_1 : decode (cod 149) 1 = .ok (.getfield 29, 3) := by decide +kernel
theorem s149_1 {n : Nat} {I : Nat → Nat → Int32} {R : Nat → Nat → Option Nat} {st : List Value} {l0 l1 l2 l3 l4 l5 : Option Value} {a : Nat} : EE 149 1 [l0, l1, l2, l3, l4, l5] (.ref a :: st) (n, I, R) = (gfI n I R 3 9 a).bind (fun z => EE 149 4 [l0, l1, l2, l3, l4, l5] (z :: st) (n, I, R)) := e_getf d149_1 f3_29 rfl rfl
theorem d149_4 : decode (cod 149) 4 = .ok (.iconst 4, 1) := by decide +kernel
theorem s149_4 {M : Mm} {st : List Value} {l0 l1 l2 l3 l4 l5 : Option Value} : EE 149 4 [l0, l1, l2, l3, l4, l5] st M = EE 149 5 [l0, l1, l2, l3, l4, l5] (.int (nI 4) :: st) M := e_con d149_4 k_con_4
theorem d149_5 : decode (cod 149) 5 = .ok (.iload_n 1, 1) := by decide +kernel
theorem s149_5 {M : Mm} {st : List Value} {l0 l2 l3 l4 l5 : Option Value} {x : Int32} : EE 149 5 [l0, some (.int x), l2, l3, l4, l5] st M = EE 149 6 [l0, some (.int x), l2, l3, l4, l5] (.int x :: st) M := e_ld d149_5 rfl rfl rfl rfl rfl rfl
theorem d149_6 : decode (cod 149) 6 = .ok (.imul, 1) := by decide +kernel
theorem s149_6 {M : Mm} {st : List Value} {l0 l1 l2 l3 l4 l5 : Option Value} {x y : Int32} : EE 149 6 [l0, l1, l2, l3, l4, l5] (.int y :: .int x :: st) M = EE 149 7 [l0, l1, l2, l3, l4, l5] (.int (x * y) :: st) M := e_II d149_6 rfl rfl rfl rfl rfl rfl
theorem d149_7 : decode (cod 149) 7 = .ok (.iaload, 1) := by decide +kernel
theorem s149_7 {n : Nat} {I : Nat → Nat → Int32} {R : Nat → Nat → Option Nat} {st : List Value} {l0 l1 l2 l3 l4 l5 : Option Value} {j : Int32} {a : Nat} : EE 149 7 [l0, l1, l2, l3, l4, l5] (.int j :: .ref a :: st) (n, I, R) = (ardI 5 n I a j).bind (fun z => EE 149 8 [l0, l1, l2, l3, l4, l5] (.int z :: st) (n, I, R)) := e_iald d149_7
theorem d149_8 : decode (cod 149) 8 = .ok (.istore_n 2, 1) := by decide +kernel
theorem s149_8 {M : Mm} {st : List Value} {l0 l1 l2 l3 l4 l5 : Option Value} {x : Int32} : EE 149 8 [l0, l1, l2, l3, l4, l5] (.int x :: st) M = EE 149 9 [l0, cln l1, some (.int x), l3, l4, l5] st M := e_st1 d149_8 rfl rfl rfl rfl rfl rfl rfl (Nat.le_of_ble_eq_true rfl) rfl
theorem d149_9 : decode (cod 149) 9 = .ok (.aload_n 0, 1) := by decide +kernel
theorem s149_9 {M : Mm} {st : List Value} {l1 l2 l3 l4 l5 : Option Value} {x : Nat} : EE 149 9 [some (.ref x), l1, l2, l3, l4, l5] st M = EE 149 10 [some (.ref x), l1, l2, l3, l4, l5] (.ref x :: st) M := e_ld d149_9 rfl rfl rfl rfl rfl rfl
theorem d149_10 : decode (cod 149) 10 = .ok (.getfield 29, 3) := by decide +kernel
theorem s149_10 {n : Nat} {I : Nat → Nat → Int32} {R : Nat → Nat → Option Nat} {st : List Value} {l0 l1 l2 l3 l4 l5 : Option Value} {a : Nat} : EE 149 10 [l0, l1, l2, l3, l4, l5] (.ref a :: st) (n, I, R) = (gfI n I R 3 9 a).bind (fun z => EE 149 13 [l0, l1, l2, l3, l4, l5] (z :: st) (n, I, R)) := e_getf d149_10 f3_29 rfl rfl
theorem d149_13 : decode (cod 149) 13 = .ok (.iconst 4, 1) := by decide +kernel
theorem s149_13 {M : Mm} {st : List Value} {l0 l1 l2 l3 l4 l5 : Option Value} : EE 149 13 [l0, l1, l2, l3, l4, l5] st M = EE 149 14 [l0, l1, l2, l3, l4, l5] (.int (nI 4) :: st) M := e_con d149_13 k_con_4
theorem d149_14 : decode (cod 149) 14 = .ok (.iload_n 1, 1) := by decide +kernel
theorem s149_14 {M : Mm} {st : List Value} {l0 l2 l3 l4 l5 : Option Value} {x : Int32} : EE 149 14 [l0, some (.int x), l2, l3, l4, l5] st M = EE 149 15 [l0, some (.int x), l2, l3, l4, l5] (.int x :: st) M := e_ld d149_14 rfl rfl rfl rfl rfl rfl
theorem d149_15 : decode (cod 149) 15 = .ok (.imul, 1) := by decide +kernel
theorem s149_15 {M : Mm} {st : List Value} {l0 l1 l2 l3 l4 l5 : Option Value} {x y : Int32} : EE 149 15 [l0, l1, l2, l3, l4, l5] (.int y :: .int x :: st) M = EE 149 16 [l0, l1, l2, l3, l4, l5] (.int (x * y) :: st) M := e_II d149_15 rfl rfl rfl rfl rfl rfl
theorem d149_16 : decode (cod 149) 16 = .ok (.iconst 1, 1) := by decide +kernel
theorem s149_16 {M : Mm} {st : List Value} {l0 l1 l2 l3 l4 l5 : Option Value} : EE 149 16 [l0, l1, l2, l3, l4, l5] st M = EE 149 17 [l0, l1, l2, l3, l4, l5] (.int (nI 1) :: st) M := e_con d149_16 k_con_1
theorem d149_17 : decode (cod 149) 17 = .ok (.iadd, 1) := by decide +kernel
theorem s149_17 {M : Mm} {st : List Value} {l0 l1 l2 l3 l4 l5 : Option Value} {x y : Int32} : EE 149 17 [l0, l1, l2, l3, l4, l5] (.int y :: .int x :: st) M = EE 149 18 [l0, l1, l2, l3, l4, l5] (.int (x + y) :: st) M := e_II d149_17 rfl rfl rfl rfl rfl rfl
theorem d149_18 : decode (cod 149) 18 = .ok (.iaload, 1) := by decide +kernel
theorem s149_18 {n : Nat} {I : Nat → Nat → Int32} {R : Nat → Nat → Option Nat} {st : List Value} {l0 l1 l2 l3 l4 l5 : Option Value} {j : Int32} {a : Nat} : EE 149 18 [l0, l1, l2, l3, l4, l5] (.int j :: .ref a :: st) (n, I, R) = (ardI 5 n I a j).bind (fun z => EE 149 19 [l0, l1, l2, l3, l4, l5] (.int z :: st) (n, I, R)) := e_iald d149_18
theorem d149_19 : decode (cod 149) 19 = .ok (.istore_n 3, 1) := by decide +kernel
theorem s149_19 {M : Mm} {st : List Value} {l0 l1 l2 l3 l4 l5 : Option Value} {x : Int32} : EE 149 19 [l0, l1, l2, l3, l4, l5] (.int x :: st) M = EE 149 20 [l0, l1, cln l2, some (.int x), l4, l5] st M := e_st1 d149_19 rfl rfl rfl rfl rfl rfl rfl (Nat.le_of_ble_eq_true rfl) rfl
theorem d149_20 : decode (cod 149) 20 = .ok (.aload_n 0, 1) := by decide +kernel
theorem s149_20 {M : Mm} {st : List Value} {l1 l2 l3 l4 l5 : Option Value} {x : Nat} : EE 149 20 [some (.ref x), l1, l2, l3, l4, l5] st M = EE 149 21 [some (.ref x), l1, l2, l3, l4, l5] (.ref x :: st) M := e_ld d149_20 rfl rfl rfl rfl rfl rfl
theorem d149_21 : decode (cod 149) 21 = .ok (.getfield 29, 3) := by decide +kernel
theorem s149_21 {n : Nat} {I : Nat → Nat → Int32} {R : Nat → Nat → Option Nat} {st : List Value} {l0 l1 l2 l3 l4 l5 : Option Value} {a : Nat} : EE 149 21 [l0, l1, l2, l3, l4, l5] (.ref a :: st) (n, I, R) = (gfI n I R 3 9 a).bind (fun z => EE 149 24 [l0, l1, l2, l3, l4, l5] (z :: st) (n, I, R)) := e_getf d149_21 f3_29 rfl rfl
theorem d149_24 : decode (cod 149) 24 = .ok (.iconst 4, 1) := by decide +kernel
theorem s149_24 {M : Mm} {st : List Value} {l0 l1 l2 l3 l4 l5 : Option Value} : EE 149 24 [l0, l1, l2, l3, l4, l5] st M = EE 149 25 [l0, l1, l2, l3, l4, l5] (.int (nI 4) :: st) M := e_con d149_24 k_con_4
theorem d149_25 : decode (cod 149) 25 = .ok (.iload_n 1, 1) := by decide +kernel
theorem s149_25 {M : Mm} {st : List Value} {l0 l2 l3 l4 l5 : Option Value} {x : Int32} : EE 149 25 [l0, some (.int x), l2, l3, l4, l5] st M = EE 149 26 [l0, some (.int x), l2, l3, l4, l5] (.int x :: st) M := e_ld d149_25 rfl rfl rfl rfl rfl rfl
theorem d149_26 : decode (cod 149) 26 = .ok (.imul, 1) := by decide +kernel
theorem s149_26 {M : Mm} {st : List Value} {l0 l1 l2 l3 l4 l5 : Option Value} {x y : Int32} : EE 149 26 [l0, l1, l2, l3, l4, l5] (.int y :: .int x :: st) M = EE 149 27 [l0, l1, l2, l3, l4, l5] (.int (x * y) :: st) M := e_II d149_26 rfl rfl rfl rfl rfl rfl
theorem d149_27 : decode (cod 149) 27 = .ok (.iconst 2, 1) := by decide +kernel
theorem s149_27 {M : Mm} {st : List Value} {l0 l1 l2 l3 l4 l5 : Option Value} : EE 149 27 [l0, l1, l2, l3, l4, l5] st M = EE 149 28 [l0, l1, l2, l3, l4, l5] (.int (nI 2) :: st) M := e_con d149_27 k_con_2
theorem d149_28 : decode (cod 149) 28 = .ok (.iadd, 1) := by decide +kernel
theorem s149_28 {M : Mm} {st : List Value} {l0 l1 l2 l3 l4 l5 : Option Value} {x y : Int32} : EE 149 28 [l0, l1, l2, l3, l4, l5] (.int y :: .int x :: st) M = EE 149 29 [l0, l1, l2, l3, l4, l5] (.int (x + y) :: st) M := e_II d149_28 rfl rfl rfl rfl rfl rfl
theorem d149_29 : decode (cod 149) 29 = .ok (.iaload, 1) := by decide +kernel
theorem s149_29 {n : Nat} {I : Nat → Nat → Int32} {R : Nat → Nat → Option Nat} {st : List Value} {l0 l1 l2 l3 l4 l5 : Option Value} {j : Int32} {a : Nat} : EE 149 29 [l0, l1, l2, l3, l4, l5] (.int j :: .ref a :: st) (n, I, R) = (ardI 5 n I a j).bind (fun z => EE 149 30 [l0, l1, l2, l3, l4, l5] (.int z :: st) (n, I, R)) := e_iald d149_29
theorem d149_30 : decode (cod 149) 30 = .ok (.istore 4, 2) := by decide +kernel
theorem s149_30 {M : Mm} {st : List Value} {l0 l1 l2 l3 l4 l5 : Option Value} {x : Int32} : EE 149 30 [l0, l1, l2, l3, l4, l5] (.int x :: st) M = EE 149 32 [l0, l1, l2, cln l3, some (.int x), l5] st M := e_st1 d149_30 rfl rfl rfl rfl rfl rfl rfl (Nat.le_of_ble_eq_true rfl) rfl
theorem d149_32 : decode (cod 149) 32 = .ok (.aload_n 0, 1) := by decide +kernel
theorem s149_32 {M : Mm} {st : List Value} {l1 l2 l3 l4 l5 : Option Value} {x : Nat} : EE 149 32 [some (.ref x), l1, l2, l3, l4, l5] st M = EE 149 33 [some (.ref x), l1, l2, l3, l4, l5] (.ref x :: st) M := e_ld d149_32 rfl rfl rfl rfl rfl rfl
theorem d149_33 : decode (cod 149) 33 = .ok (.getfield 29, 3) := by decide +kernel
theorem s149_33 {n : Nat} {I : Nat → Nat → Int32} {R : Nat → Nat → Option Nat} {st : List Value} {l0 l1 l2 l3 l4 l5 : Option Value} {a : Nat} : EE 149 33 [l0, l1, l2, l3, l4, l5] (.ref a :: st) (n, I, R) = (gfI n I R 3 9 a).bind (fun z => EE 149 36 [l0, l1, l2, l3, l4, l5] (z :: st) (n, I, R)) := e_getf d149_33 f3_29 rfl rfl
theorem d149_36 : decode (cod 149) 36 = .ok (.iconst 4, 1) := by decide +kernel
theorem s149_36 {M : Mm} {st : List Value} {l0 l1 l2 l3 l4 l5 : Option Value} : EE 149 36 [l0, l1, l2, l3, l4, l5] st M = EE 149 37 [l0, l1, l2, l3, l4, l5] (.int (nI 4) :: st) M := e_con d149_36 k_con_4
theorem d149_37 : decode (cod 149) 37 = .ok (.iload_n 1, 1) := by decide +kernel
theorem s149_37 {M : Mm} {st : List Value} {l0 l2 l3 l4 l5 : Option Value} {x : Int32} : EE 149 37 [l0, some (.int x), l2, l3, l4, l5] st M = EE 149 38 [l0, some (.int x), l2, l3, l4, l5] (.int x :: st) M := e_ld d149_37 rfl rfl rfl rfl rfl rfl
theorem d149_38 : decode (cod 149) 38 = .ok (.imul, 1) := by decide +kernel
theorem s149_38 {M : Mm} {st : List Value} {l0 l1 l2 l3 l4 l5 : Option Value} {x y : Int32} : EE 149 38 [l0, l1, l2, l3, l4, l5] (.int y :: .int x :: st) M = EE 149 39 [l0, l1, l2, l3, l4, l5] (.int (x * y) :: st) M := e_II d149_38 rfl rfl rfl rfl rfl rfl
theorem d149_39 : decode (cod 149) 39 = .ok (.iconst 3, 1) := by decide +kernel
theorem s149_39 {M : Mm} {st : List Value} {l0 l1 l2 l3 l4 l5 : Option Value} : EE 149 39 [l0, l1, l2, l3, l4, l5] st M = EE 149 40 [l0, l1, l2, l3, l4, l5] (.int (nI 3) :: st) M := e_con d149_39 k_con_3
theorem d149_40 : decode (cod 149) 40 = .ok (.iadd, 1) := by decide +kernel
theorem s149_40 {M : Mm} {st : List Value} {l0 l1 l2 l3 l4 l5 : Option Value} {x y : Int32} : EE 149 40 [l0, l1, l2, l3, l4, l5] (.int y :: .int x :: st) M = EE 149 41 [l0, l1, l2, l3, l4, l5] (.int (x + y) :: st) M := e_II d149_40 rfl rfl rfl rfl rfl rfl
theorem d149_41 : decode (cod 149) 41 = .ok (.iaload, 1) := by decide +kernel
theorem s149_41 {n : Nat} {I : Nat → Nat → Int32} {R : Nat → Nat → Option Nat} {st : List Value} {l0 l1 l2 l3 l4 l5 : Option Value} {j : Int32} {a : Nat} : EE 149 41 [l0, l1, l2, l3, l4, l5] (.int j :: .ref a :: st) (n, I, R) = (ardI 5 n I a j).bind (fun z => EE 149 42 [l0, l1, l2, l3, l4, l5] (.int z :: st) (n, I, R)) := e_iald d149_41
theorem d149_42 : decode (cod 149) 42 = .ok (.istore 5, 2) := by decide +kernel
theorem s149_42 {M : Mm} {st : List Value} {l0 l1 l2 l3 l4 l5 : Option Value} {x : Int32} : EE 149 42 [l0, l1, l2, l3, l4, l5] (.int x :: st) M = EE 149 44 [l0, l1, l2, l3, cln l4, some (.int x)] st M := e_st1 d149_42 rfl rfl rfl rfl rfl rfl rfl (Nat.le_of_ble_eq_true rfl) rfl
theorem d149_44 : decode (cod 149) 44 = .ok (.aload_n 0, 1) := by decide +kernel
theorem s149_44 {M : Mm} {st : List Value} {l1 l2 l3 l4 l5 : Option Value} {x : Nat} : EE 149 44 [some (.ref x), l1, l2, l3, l4, l5] st M = EE 149 45 [some (.ref x), l1, l2, l3, l4, l5] (.ref x :: st) M := e_ld d149_44 rfl rfl rfl rfl rfl rfl
theorem d149_45 : decode (cod 149) 45 = .ok (.iload_n 2, 1) := by decide +kernel
theorem s149_45 {M : Mm} {st : List Value} {l0 l1 l3 l4 l5 : Option Value} {x : Int32} : EE 149 45 [l0, l1, some (.int x), l3, l4, l5] st M = EE 149 46 [l0, l1, some (.int x), l3, l4, l5] (.int x :: st) M := e_ld d149_45 rfl rfl rfl rfl rfl rfl
theorem d149_46 : decode (cod 149) 46 = .ok (.iload_n 3, 1) := by decide +kernel
theorem s149_46 {M : Mm} {st : List Value} {l0 l1 l2 l4 l5 : Option Value} {x : Int32} : EE 149 46 [l0, l1, l2, some (.int x), l4, l5] st M = EE 149 47 [l0, l1, l2, some (.int x), l4, l5] (.int x :: st) M := e_ld d149_46 rfl rfl rfl rfl rfl rfl
theorem d149_47 : decode (cod 149) 47 = .ok (.iload 4, 2) := by decide +kernel
theorem s149_47 {M : Mm} {st : List Value} {l0 l1 l2 l3 l5 : Option Value} {x : Int32} : EE 149 47 [l0, l1, l2, l3, some (.int x), l5] st M = EE 149 49 [l0, l1, l2, l3, some (.int x), l5] (.int x :: st) M := e_ld d149_47 rfl rfl rfl rfl rfl rfl
theorem d149_49 : decode (cod 149) 49 = .ok (.iload 5, 2) := by decide +kernel
theorem s149_49 {M : Mm} {st : List Value} {l0 l1 l2 l3 l4 : Option Value} {x : Int32} : EE 149 49 [l0, l1, l2, l3, l4, some (.int x)] st M = EE 149 51 [l0, l1, l2, l3, l4, some (.int x)] (.int x :: st) M := e_ld d149_49 rfl rfl rfl rfl rfl rfl
theorem d149_51 : decode (cod 149) 51 = .ok (.invokevirtual 201, 3) := by decide +kernel
theorem s149_51 {l0 l1 l2 l3 l4 l5 : Option Value} {a : Nat} {M : Mm} {b0 : Int32} {b1 : Int32} {b2 : Int32} {b3 : Int32} {st : List Value} (hl : st.length ≤ 4) (ho : isO "HandoverDeskModel" M.1 a = true) : EE 149 51 [l0, l1, l2, l3, l4, l5] (.int b3 :: .int b2 :: .int b1 :: .int b0 :: .ref a :: st) M = (FF 150 (.ref a :: [.int b0, .int b1, .int b2, .int b3]) M).bind (fun z => EE 149 54 [l0, l1, l2, l3, l4, l5] (psh z.1 st) z.2) := e_calv (av := [.int b0, .int b1, .int b2, .int b3]) d149_51 c3_201 rfl rfl rfl r149_150 rfl hl ho
theorem d149_54 : decode (cod 149) 54 = .ok (.ifCond .eq 5, 3) := by decide +kernel
theorem s149_54 {M : Mm} {st : List Value} {l0 l1 l2 l3 l4 l5 : Option Value} {x : Int32} : EE 149 54 [l0, l1, l2, l3, l4, l5] (.int x :: st) M = if x = 0 then EE 149 59 [l0, l1, l2, l3, l4, l5] st M else EE 149 57 [l0, l1, l2, l3, l4, l5] st M := e_eq0 d149_54 (by decide)
theorem d149_57 : decode (cod 149) 57 = .ok (.iconst 0, 1) := by decide +kernel
theorem s149_57 {M : Mm} {st : List Value} {l0 l1 l2 l3 l4 l5 : Option Value} : EE 149 57 [l0, l1, l2, l3, l4, l5] st M = EE 149 58 [l0, l1, l2, l3, l4, l5] (.int (nI 0) :: st) M := e_con d149_57 k_con_0
theorem d149_58 : decode (cod 149) 58 = .ok (.ireturn, 1) := by decide +kernel
theorem s149_58 {M : Mm} {l0 l1 l2 l3 l4 l5 : Option Value} {v : Int32} (h : narrow .boolean (.int v) = .int v) : EE 149 58 [l0, l1, l2, l3, l4, l5] [.int v] M = some (some (.int v), M) := e_iret d149_58 rfl h
theorem d149_59 : decode (cod 149) 59 = .ok (.iload_n 2, 1) := by decide +kernel
theorem s149_59 {M : Mm} {st : List Value} {l0 l1 l3 l4 l5 : Option Value} {x : Int32} : EE 149 59 [l0, l1, some (.int x), l3, l4, l5] st M = EE 149 60 [l0, l1, some (.int x), l3, l4, l5] (.int x :: st) M := e_ld d149_59 rfl rfl rfl rfl rfl rfl
theorem d149_60 : decode (cod 149) 60 = .ok (.tableswitch 179 99 120 #[129, 179, 179, 179, 179, 179, 179, 179, 120, 138, 165, 179, 104, 179, 179, 151, 179, 179, 179, 179, 179, 111], 104) := by decide +kernel
theorem s149_60_99 {M : Mm} {st : List Value} {l0 l1 l2 l3 l4 l5 : Option Value} : EE 149 60 [l0, l1, l2, l3, l4, l5] (.int (nI 99) :: st) M = EE 149 189 [l0, l1, l2, l3, l4, l5] st M := e_tab d149_60 (by decide +kernel)
theorem s149_60_100 {M : Mm} {st : List Value} {l0 l1 l2 l3 l4 l5 : Option Value} : EE 149 60 [l0, l1, l2, l3, l4, l5] (.int (nI 100) :: st) M = EE 149 239 [l0, l1, l2, l3, l4, l5] st M := e_tab d149_60 (by decide +kernel)
theorem s149_60_101 {M : Mm} {st : List Value} {l0 l1 l2 l3 l4 l5 : Option Value} : EE 149 60 [l0, l1, l2, l3, l4, l5] (.int (nI 101) :: st) M = EE 149 239 [l0, l1, l2, l3, l4, l5] st M := e_tab d149_60 (by decide +kernel)
theorem s149_60_102 {M : Mm} {st : List Value} {l0 l1 l2 l3 l4 l5 : Option Value} : EE 149 60 [l0, l1, l2, l3, l4, l5] (.int (nI 102) :: st) M = EE 149 239 [l0, l1, l2, l3, l4, l5] st M := e_tab d149_60 (by decide +kernel)
theorem s149_60_103 {M : Mm} {st : List Value} {l0 l1 l2 l3 l4 l5 : Option Value} : EE 149 60 [l0, l1, l2, l3, l4, l5] (.int (nI 103) :: st) M = EE 149 239 [l0, l1, l2, l3, l4, l5] st M := e_tab d149_60 (by decide +kernel)
theorem s149_60_104 {M : Mm} {st : List Value} {l0 l1 l2 l3 l4 l5 : Option Value} : EE 149 60 [l0, l1, l2, l3, l4, l5] (.int (nI 104) :: st) M = EE 149 239 [l0, l1, l2, l3, l4, l5] st M := e_tab d149_60 (by decide +kernel)
theorem s149_60_105 {M : Mm} {st : List Value} {l0 l1 l2 l3 l4 l5 : Option Value} : EE 149 60 [l0, l1, l2, l3, l4, l5] (.int (nI 105) :: st) M = EE 149 239 [l0, l1, l2, l3, l4, l5] st M := e_tab d149_60 (by decide +kernel)
theorem s149_60_106 {M : Mm} {st : List Value} {l0 l1 l2 l3 l4 l5 : Option Value} : EE 149 60 [l0, l1, l2, l3, l4, l5] (.int (nI 106) :: st) M = EE 149 239 [l0, l1, l2, l3, l4, l5] st M := e_tab d149_60 (by decide +kernel)
theorem s149_60_107 {M : Mm} {st : List Value} {l0 l1 l2 l3 l4 l5 : Option Value} : EE 149 60 [l0, l1, l2, l3, l4, l5] (.int (nI 107) :: st) M = EE 149 180 [l0, l1, l2, l3, l4, l5] st M := e_tab d149_60 (by decide +kernel)
theorem s149_60_108 {M : Mm} {st : List Value} {l0 l1 l2 l3 l4 l5 : Option Value} : EE 149 60 [l0, l1, l2, l3, l4, l5] (.int (nI 108) :: st) M = EE 149 198 [l0, l1, l2, l3, l4, l5] st M := e_tab d149_60 (by decide +kernel)
theorem s149_60_109 {M : Mm} {st : List Value} {l0 l1 l2 l3 l4 l5 : Option Value} : EE 149 60 [l0, l1, l2, l3, l4, l5] (.int (nI 109) :: st) M = EE 149 225 [l0, l1, l2, l3, l4, l5] st M := e_tab d149_60 (by decide +kernel)
theorem s149_60_110 {M : Mm} {st : List Value} {l0 l1 l2 l3 l4 l5 : Option Value} : EE 149 60 [l0, l1, l2, l3, l4, l5] (.int (nI 110) :: st) M = EE 149 239 [l0, l1, l2, l3, l4, l5] st M := e_tab d149_60 (by decide +kernel)
theorem s149_60_111 {M : Mm} {st : List Value} {l0 l1 l2 l3 l4 l5 : Option Value} : EE 149 60 [l0, l1, l2, l3, l4, l5] (.int (nI 111) :: st) M = EE 149 164 [l0, l1, l2, l3, l4, l5] st M := e_tab d149_60 (by decide +kernel)
theorem s149_60_112 {M : Mm} {st : List Value} {l0 l1 l2 l3 l4 l5 : Option Value} : EE 149 60 [l0, l1, l2, l3, l4, l5] (.int (nI 112) :: st) M = EE 149 239 [l0, l1, l2, l3, l4, l5] st M := e_tab d149_60 (by decide +kernel)
theorem s149_60_113 {M : Mm} {st : List Value} {l0 l1 l2 l3 l4 l5 : Option Value} : EE 149 60 [l0, l1, l2, l3, l4, l5] (.int (nI 113) :: st) M = EE 149 239 [l0, l1, l2, l3, l4, l5] st M := e_tab d149_60 (by decide +kernel)
theorem s149_60_114 {M : Mm} {st : List Value} {l0 l1 l2 l3 l4 l5 : Option Value} : EE 149 60 [l0, l1, l2, l3, l4, l5] (.int (nI 114) :: st) M = EE 149 211 [l0, l1, l2, l3, l4, l5] st M := e_tab d149_60 (by decide +kernel)
theorem s149_60_115 {M : Mm} {st : List Value} {l0 l1 l2 l3 l4 l5 : Option Value} : EE 149 60 [l0, l1, l2, l3, l4, l5] (.int (nI 115) :: st) M = EE 149 239 [l0, l1, l2, l3, l4, l5] st M := e_tab d149_60 (by decide +kernel)
theorem s149_60_116 {M : Mm} {st : List Value} {l0 l1 l2 l3 l4 l5 : Option Value} : EE 149 60 [l0, l1, l2, l3, l4, l5] (.int (nI 116) :: st) M = EE 149 239 [l0, l1, l2, l3, l4, l5] st M := e_tab d149_60 (by decide +kernel)
theorem s149_60_117 {M : Mm} {st : List Value} {l0 l1 l2 l3 l4 l5 : Option Value} : EE 149 60 [l0, l1, l2, l3, l4, l5] (.int (nI 117) :: st) M = EE 149 239 [l0, l1, l2, l3, l4, l5] st M := e_tab d149_60 (by decide +kernel)
theorem s149_60_118 {M : Mm} {st : List Value} {l0 l1 l2 l3 l4 l5 : Option Value} : EE 149 60 [l0, l1, l2, l3, l4, l5] (.int (nI 118) :: st) M = EE 149 239 [l0, l1, l2, l3, l4, l5] st M := e_tab d149_60 (by decide +kernel)
theorem s149_60_119 {M : Mm} {st : List Value} {l0 l1 l2 l3 l4 l5 : Option Value} : EE 149 60 [l0, l1, l2, l3, l4, l5] (.int (nI 119) :: st) M = EE 149 239 [l0, l1, l2, l3, l4, l5] st M := e_tab d149_60 (by decide +kernel)
theorem s149_60_120 {M : Mm} {st : List Value} {l0 l1 l2 l3 l4 l5 : Option Value} : EE 149 60 [l0, l1, l2, l3, l4, l5] (.int (nI 120) :: st) M = EE 149 171 [l0, l1, l2, l3, l4, l5] st M := e_tab d149_60 (by decide +kernel)
theorem s149_60_d {M : Mm} {st : List Value} {l0 l1 l2 l3 l4 l5 : Option Value} {x : Int32} (h : x.toInt < 99 ∨ 120 < x.toInt) : EE 149 60 [l0, l1, l2, l3, l4, l5] (.int x :: st) M = EE 149 239 [l0, l1, l2, l3, l4, l5] st M := e_tab d149_60 (by rw [if_pos h]; decide +kernel)
theorem d149_164 : decode (cod 149) 164 = .ok (.aload_n 0, 1) := by decide +kernel
theorem s149_164 {M : Mm} {st : List Value} {l1 l2 l3 l4 l5 : Option Value} {x : Nat} : EE 149 164 [some (.ref x), l1, l2, l3, l4, l5] st M = EE 149 165 [some (.ref x), l1, l2, l3, l4, l5] (.ref x :: st) M := e_ld d149_164 rfl rfl rfl rfl rfl rfl
theorem d149_165 : decode (cod 149) 165 = .ok (.invokevirtual 101, 3) := by decide +kernel
theorem s149_165 {l0 l1 l2 l3 l4 l5 : Option Value} {a : Nat} {M : Mm} {st : List Value} (hl : st.length ≤ 4) (ho : isO "HandoverDeskModel" M.1 a = true) : EE 149 165 [l0, l1, l2, l3, l4, l5] (.ref a :: st) M = (FF 97 (.ref a :: []) M).bind (fun z => EE 149 168 [l0, l1, l2, l3, l4, l5] (psh z.1 st) z.2) := e_calv (av := []) d149_165 c3_101 rfl rfl rfl r149_97 rfl hl ho
theorem d149_168 : decode (cod 149) 168 = .ok (.goto 79, 3) := by decide +kernel
theorem s149_168 {M : Mm} {st : List Value} {l0 l1 l2 l3 l4 l5 : Option Value} : EE 149 168 [l0, l1, l2, l3, l4, l5] st M = EE 149 247 [l0, l1, l2, l3, l4, l5] st M := e_goto d149_168 (by decide)
theorem d149_171 : decode (cod 149) 171 = .ok (.aload_n 0, 1) := by decide +kernel
theorem s149_171 {M : Mm} {st : List Value} {l1 l2 l3 l4 l5 : Option Value} {x : Nat} : EE 149 171 [some (.ref x), l1, l2, l3, l4, l5] st M = EE 149 172 [some (.ref x), l1, l2, l3, l4, l5] (.ref x :: st) M := e_ld d149_171 rfl rfl rfl rfl rfl rfl
theorem d149_172 : decode (cod 149) 172 = .ok (.iload_n 3, 1) := by decide +kernel
theorem s149_172 {M : Mm} {st : List Value} {l0 l1 l2 l4 l5 : Option Value} {x : Int32} : EE 149 172 [l0, l1, l2, some (.int x), l4, l5] st M = EE 149 173 [l0, l1, l2, some (.int x), l4, l5] (.int x :: st) M := e_ld d149_172 rfl rfl rfl rfl rfl rfl
theorem d149_173 : decode (cod 149) 173 = .ok (.invokevirtual 107, 3) := by decide +kernel
theorem s149_173 {l0 l1 l2 l3 l4 l5 : Option Value} {a : Nat} {M : Mm} {b0 : Int32} {st : List Value} (hl : st.length ≤ 4) (ho : isO "HandoverDeskModel" M.1 a = true) : EE 149 173 [l0, l1, l2, l3, l4, l5] (.int b0 :: .ref a :: st) M = (FF 100 (.ref a :: [.int b0]) M).bind (fun z => EE 149 176 [l0, l1, l2, l3, l4, l5] (psh z.1 st) z.2) := e_calv (av := [.int b0]) d149_173 c3_107 rfl rfl rfl r149_100 rfl hl ho
theorem d149_176 : decode (cod 149) 176 = .ok (.pop, 1) := by decide +kernel
theorem s149_176i {M : Mm} {st : List Value} {l0 l1 l2 l3 l4 l5 : Option Value} {x : Int32} : EE 149 176 [l0, l1, l2, l3, l4, l5] (.int x :: st) M = EE 149 177 [l0, l1, l2, l3, l4, l5] st M := e_pop d149_176 rfl
theorem s149_176r {M : Mm} {st : List Value} {l0 l1 l2 l3 l4 l5 : Option Value} {x : Nat} : EE 149 176 [l0, l1, l2, l3, l4, l5] (.ref x :: st) M = EE 149 177 [l0, l1, l2, l3, l4, l5] st M := e_pop d149_176 rfl
theorem d149_177 : decode (cod 149) 177 = .ok (.goto 70, 3) := by decide +kernel
theorem s149_177 {M : Mm} {st : List Value} {l0 l1 l2 l3 l4 l5 : Option Value} : EE 149 177 [l0, l1, l2, l3, l4, l5] st M = EE 149 247 [l0, l1, l2, l3, l4, l5] st M := e_goto d149_177 (by decide)
theorem d149_180 : decode (cod 149) 180 = .ok (.aload_n 0, 1) := by decide +kernel
theorem s149_180 {M : Mm} {st : List Value} {l1 l2 l3 l4 l5 : Option Value} {x : Nat} : EE 149 180 [some (.ref x), l1, l2, l3, l4, l5] st M = EE 149 181 [some (.ref x), l1, l2, l3, l4, l5] (.ref x :: st) M := e_ld d149_180 rfl rfl rfl rfl rfl rfl
theorem d149_181 : decode (cod 149) 181 = .ok (.iload_n 3, 1) := by decide +kernel
theorem s149_181 {M : Mm} {st : List Value} {l0 l1 l2 l4 l5 : Option Value} {x : Int32} : EE 149 181 [l0, l1, l2, some (.int x), l4, l5] st M = EE 149 182 [l0, l1, l2, some (.int x), l4, l5] (.int x :: st) M := e_ld d149_181 rfl rfl rfl rfl rfl rfl
theorem d149_182 : decode (cod 149) 182 = .ok (.invokevirtual 114, 3) := by decide +kernel
theorem s149_182 {l0 l1 l2 l3 l4 l5 : Option Value} {a : Nat} {M : Mm} {b0 : Int32} {st : List Value} (hl : st.length ≤ 4) (ho : isO "HandoverDeskModel" M.1 a = true) : EE 149 182 [l0, l1, l2, l3, l4, l5] (.int b0 :: .ref a :: st) M = (FF 102 (.ref a :: [.int b0]) M).bind (fun z => EE 149 185 [l0, l1, l2, l3, l4, l5] (psh z.1 st) z.2) := e_calv (av := [.int b0]) d149_182 c3_114 rfl rfl rfl r149_102 rfl hl ho
theorem d149_185 : decode (cod 149) 185 = .ok (.pop, 1) := by decide +kernel
theorem s149_185i {M : Mm} {st : List Value} {l0 l1 l2 l3 l4 l5 : Option Value} {x : Int32} : EE 149 185 [l0, l1, l2, l3, l4, l5] (.int x :: st) M = EE 149 186 [l0, l1, l2, l3, l4, l5] st M := e_pop d149_185 rfl
theorem s149_185r {M : Mm} {st : List Value} {l0 l1 l2 l3 l4 l5 : Option Value} {x : Nat} : EE 149 185 [l0, l1, l2, l3, l4, l5] (.ref x :: st) M = EE 149 186 [l0, l1, l2, l3, l4, l5] st M := e_pop d149_185 rfl
theorem d149_186 : decode (cod 149) 186 = .ok (.goto 61, 3) := by decide +kernel
theorem s149_186 {M : Mm} {st : List Value} {l0 l1 l2 l3 l4 l5 : Option Value} : EE 149 186 [l0, l1, l2, l3, l4, l5] st M = EE 149 247 [l0, l1, l2, l3, l4, l5] st M := e_goto d149_186 (by decide)
theorem d149_189 : decode (cod 149) 189 = .ok (.aload_n 0, 1) := by decide +kernel
theorem s149_189 {M : Mm} {st : List Value} {l1 l2 l3 l4 l5 : Option Value} {x : Nat} : EE 149 189 [some (.ref x), l1, l2, l3, l4, l5] st M = EE 149 190 [some (.ref x), l1, l2, l3, l4, l5] (.ref x :: st) M := e_ld d149_189 rfl rfl rfl rfl rfl rfl
theorem d149_190 : decode (cod 149) 190 = .ok (.iload_n 3, 1) := by decide +kernel
theorem s149_190 {M : Mm} {st : List Value} {l0 l1 l2 l4 l5 : Option Value} {x : Int32} : EE 149 190 [l0, l1, l2, some (.int x), l4, l5] st M = EE 149 191 [l0, l1, l2, some (.int x), l4, l5] (.int x :: st) M := e_ld d149_190 rfl rfl rfl rfl rfl rfl
theorem d149_191 : decode (cod 149) 191 = .ok (.invokevirtual 130, 3) := by decide +kernel
theorem s149_191 {l0 l1 l2 l3 l4 l5 : Option Value} {a : Nat} {M : Mm} {b0 : Int32} {st : List Value} (hl : st.length ≤ 4) (ho : isO "HandoverDeskModel" M.1 a = true) : EE 149 191 [l0, l1, l2, l3, l4, l5] (.int b0 :: .ref a :: st) M = (FF 113 (.ref a :: [.int b0]) M).bind (fun z => EE 149 194 [l0, l1, l2, l3, l4, l5] (psh z.1 st) z.2) := e_calv (av := [.int b0]) d149_191 c3_130 rfl rfl rfl r149_113 rfl hl ho
theorem d149_194 : decode (cod 149) 194 = .ok (.pop, 1) := by decide +kernel
theorem s149_194i {M : Mm} {st : List Value} {l0 l1 l2 l3 l4 l5 : Option Value} {x : Int32} : EE 149 194 [l0, l1, l2, l3, l4, l5] (.int x :: st) M = EE 149 195 [l0, l1, l2, l3, l4, l5] st M := e_pop d149_194 rfl
theorem s149_194r {M : Mm} {st : List Value} {l0 l1 l2 l3 l4 l5 : Option Value} {x : Nat} : EE 149 194 [l0, l1, l2, l3, l4, l5] (.ref x :: st) M = EE 149 195 [l0, l1, l2, l3, l4, l5] st M := e_pop d149_194 rfl
theorem d149_195 : decode (cod 149) 195 = .ok (.goto 52, 3) := by decide +kernel
theorem s149_195 {M : Mm} {st : List Value} {l0 l1 l2 l3 l4 l5 : Option Value} : EE 149 195 [l0, l1, l2, l3, l4, l5] st M = EE 149 247 [l0, l1, l2, l3, l4, l5] st M := e_goto d149_195 (by decide)
theorem d149_198 : decode (cod 149) 198 = .ok (.aload_n 0, 1) := by decide +kernel
theorem s149_198 {M : Mm} {st : List Value} {l1 l2 l3 l4 l5 : Option Value} {x : Nat} : EE 149 198 [some (.ref x), l1, l2, l3, l4, l5] st M = EE 149 199 [some (.ref x), l1, l2, l3, l4, l5] (.ref x :: st) M := e_ld d149_198 rfl rfl rfl rfl rfl rfl
theorem d149_199 : decode (cod 149) 199 = .ok (.iload_n 3, 1) := by decide +kernel
theorem s149_199 {M : Mm} {st : List Value} {l0 l1 l2 l4 l5 : Option Value} {x : Int32} : EE 149 199 [l0, l1, l2, some (.int x), l4, l5] st M = EE 149 200 [l0, l1, l2, some (.int x), l4, l5] (.int x :: st) M := e_ld d149_199 rfl rfl rfl rfl rfl rfl
theorem d149_200 : decode (cod 149) 200 = .ok (.iload 4, 2) := by decide +kernel
theorem s149_200 {M : Mm} {st : List Value} {l0 l1 l2 l3 l5 : Option Value} {x : Int32} : EE 149 200 [l0, l1, l2, l3, some (.int x), l5] st M = EE 149 202 [l0, l1, l2, l3, some (.int x), l5] (.int x :: st) M := e_ld d149_200 rfl rfl rfl rfl rfl rfl
theorem d149_202 : decode (cod 149) 202 = .ok (.iload 5, 2) := by decide +kernel
theorem s149_202 {M : Mm} {st : List Value} {l0 l1 l2 l3 l4 : Option Value} {x : Int32} : EE 149 202 [l0, l1, l2, l3, l4, some (.int x)] st M = EE 149 204 [l0, l1, l2, l3, l4, some (.int x)] (.int x :: st) M := e_ld d149_202 rfl rfl rfl rfl rfl rfl
theorem d149_204 : decode (cod 149) 204 = .ok (.invokevirtual 121, 3) := by decide +kernel
theorem s149_204 {l0 l1 l2 l3 l4 l5 : Option Value} {a : Nat} {M : Mm} {b0 : Int32} {b1 : Int32} {b2 : Int32} {st : List Value} (hl : st.length ≤ 4) (ho : isO "HandoverDeskModel" M.1 a = true) : EE 149 204 [l0, l1, l2, l3, l4, l5] (.int b2 :: .int b1 :: .int b0 :: .ref a :: st) M = (FF 106 (.ref a :: [.int b0, .int b1, .int b2]) M).bind (fun z => EE 149 207 [l0, l1, l2, l3, l4, l5] (psh z.1 st) z.2) := e_calv (av := [.int b0, .int b1, .int b2]) d149_204 c3_121 rfl rfl rfl r149_106 rfl hl ho
theorem d149_207 : decode (cod 149) 207 = .ok (.pop, 1) := by decide +kernel
theorem s149_207i {M : Mm} {st : List Value} {l0 l1 l2 l3 l4 l5 : Option Value} {x : Int32} : EE 149 207 [l0, l1, l2, l3, l4, l5] (.int x :: st) M = EE 149 208 [l0, l1, l2, l3, l4, l5] st M := e_pop d149_207 rfl
theorem s149_207r {M : Mm} {st : List Value} {l0 l1 l2 l3 l4 l5 : Option Value} {x : Nat} : EE 149 207 [l0, l1, l2, l3, l4, l5] (.ref x :: st) M = EE 149 208 [l0, l1, l2, l3, l4, l5] st M := e_pop d149_207 rfl
theorem d149_208 : decode (cod 149) 208 = .ok (.goto 39, 3) := by decide +kernel
theorem s149_208 {M : Mm} {st : List Value} {l0 l1 l2 l3 l4 l5 : Option Value} : EE 149 208 [l0, l1, l2, l3, l4, l5] st M = EE 149 247 [l0, l1, l2, l3, l4, l5] st M := e_goto d149_208 (by decide)
theorem d149_211 : decode (cod 149) 211 = .ok (.aload_n 0, 1) := by decide +kernel
theorem s149_211 {M : Mm} {st : List Value} {l1 l2 l3 l4 l5 : Option Value} {x : Nat} : EE 149 211 [some (.ref x), l1, l2, l3, l4, l5] st M = EE 149 212 [some (.ref x), l1, l2, l3, l4, l5] (.ref x :: st) M := e_ld d149_211 rfl rfl rfl rfl rfl rfl
theorem d149_212 : decode (cod 149) 212 = .ok (.bipush 14, 2) := by decide +kernel
theorem s149_212 {M : Mm} {st : List Value} {l0 l1 l2 l3 l4 l5 : Option Value} : EE 149 212 [l0, l1, l2, l3, l4, l5] st M = EE 149 214 [l0, l1, l2, l3, l4, l5] (.int (nI 14) :: st) M := e_bip d149_212 k_bip_14
theorem d149_214 : decode (cod 149) 214 = .ok (.iload_n 3, 1) := by decide +kernel
theorem s149_214 {M : Mm} {st : List Value} {l0 l1 l2 l4 l5 : Option Value} {x : Int32} : EE 149 214 [l0, l1, l2, some (.int x), l4, l5] st M = EE 149 215 [l0, l1, l2, some (.int x), l4, l5] (.int x :: st) M := e_ld d149_214 rfl rfl rfl rfl rfl rfl
theorem d149_215 : decode (cod 149) 215 = .ok (.iadd, 1) := by decide +kernel
theorem s149_215 {M : Mm} {st : List Value} {l0 l1 l2 l3 l4 l5 : Option Value} {x y : Int32} : EE 149 215 [l0, l1, l2, l3, l4, l5] (.int y :: .int x :: st) M = EE 149 216 [l0, l1, l2, l3, l4, l5] (.int (x + y) :: st) M := e_II d149_215 rfl rfl rfl rfl rfl rfl
theorem d149_216 : decode (cod 149) 216 = .ok (.iload 4, 2) := by decide +kernel
theorem s149_216 {M : Mm} {st : List Value} {l0 l1 l2 l3 l5 : Option Value} {x : Int32} : EE 149 216 [l0, l1, l2, l3, some (.int x), l5] st M = EE 149 218 [l0, l1, l2, l3, some (.int x), l5] (.int x :: st) M := e_ld d149_216 rfl rfl rfl rfl rfl rfl
theorem d149_218 : decode (cod 149) 218 = .ok (.invokevirtual 95, 3) := by decide +kernel
theorem s149_218 {l0 l1 l2 l3 l4 l5 : Option Value} {a : Nat} {M : Mm} {b0 : Int32} {b1 : Int32} {st : List Value} (hl : st.length ≤ 4) (ho : isO "HandoverDeskModel" M.1 a = true) : EE 149 218 [l0, l1, l2, l3, l4, l5] (.int b1 :: .int b0 :: .ref a :: st) M = (FF 93 (.ref a :: [.int b0, .int b1]) M).bind (fun z => EE 149 221 [l0, l1, l2, l3, l4, l5] (psh z.1 st) z.2) := e_calv (av := [.int b0, .int b1]) d149_218 c3_95 rfl rfl rfl r149_93 rfl hl ho
theorem d149_221 : decode (cod 149) 221 = .ok (.pop, 1) := by decide +kernel
theorem s149_221i {M : Mm} {st : List Value} {l0 l1 l2 l3 l4 l5 : Option Value} {x : Int32} : EE 149 221 [l0, l1, l2, l3, l4, l5] (.int x :: st) M = EE 149 222 [l0, l1, l2, l3, l4, l5] st M := e_pop d149_221 rfl
theorem s149_221r {M : Mm} {st : List Value} {l0 l1 l2 l3 l4 l5 : Option Value} {x : Nat} : EE 149 221 [l0, l1, l2, l3, l4, l5] (.ref x :: st) M = EE 149 222 [l0, l1, l2, l3, l4, l5] st M := e_pop d149_221 rfl
theorem d149_222 : decode (cod 149) 222 = .ok (.goto 25, 3) := by decide +kernel
theorem s149_222 {M : Mm} {st : List Value} {l0 l1 l2 l3 l4 l5 : Option Value} : EE 149 222 [l0, l1, l2, l3, l4, l5] st M = EE 149 247 [l0, l1, l2, l3, l4, l5] st M := e_goto d149_222 (by decide)
theorem d149_225 : decode (cod 149) 225 = .ok (.aload_n 0, 1) := by decide +kernel
theorem s149_225 {M : Mm} {st : List Value} {l1 l2 l3 l4 l5 : Option Value} {x : Nat} : EE 149 225 [some (.ref x), l1, l2, l3, l4, l5] st M = EE 149 226 [some (.ref x), l1, l2, l3, l4, l5] (.ref x :: st) M := e_ld d149_225 rfl rfl rfl rfl rfl rfl
theorem d149_226 : decode (cod 149) 226 = .ok (.bipush 26, 2) := by decide +kernel
theorem s149_226 {M : Mm} {st : List Value} {l0 l1 l2 l3 l4 l5 : Option Value} : EE 149 226 [l0, l1, l2, l3, l4, l5] st M = EE 149 228 [l0, l1, l2, l3, l4, l5] (.int (nI 26) :: st) M := e_bip d149_226 k_bip_26
theorem d149_228 : decode (cod 149) 228 = .ok (.iload_n 3, 1) := by decide +kernel
theorem s149_228 {M : Mm} {st : List Value} {l0 l1 l2 l4 l5 : Option Value} {x : Int32} : EE 149 228 [l0, l1, l2, some (.int x), l4, l5] st M = EE 149 229 [l0, l1, l2, some (.int x), l4, l5] (.int x :: st) M := e_ld d149_228 rfl rfl rfl rfl rfl rfl
theorem d149_229 : decode (cod 149) 229 = .ok (.iadd, 1) := by decide +kernel
theorem s149_229 {M : Mm} {st : List Value} {l0 l1 l2 l3 l4 l5 : Option Value} {x y : Int32} : EE 149 229 [l0, l1, l2, l3, l4, l5] (.int y :: .int x :: st) M = EE 149 230 [l0, l1, l2, l3, l4, l5] (.int (x + y) :: st) M := e_II d149_229 rfl rfl rfl rfl rfl rfl
theorem d149_230 : decode (cod 149) 230 = .ok (.iload 4, 2) := by decide +kernel
theorem s149_230 {M : Mm} {st : List Value} {l0 l1 l2 l3 l5 : Option Value} {x : Int32} : EE 149 230 [l0, l1, l2, l3, some (.int x), l5] st M = EE 149 232 [l0, l1, l2, l3, some (.int x), l5] (.int x :: st) M := e_ld d149_230 rfl rfl rfl rfl rfl rfl
theorem d149_232 : decode (cod 149) 232 = .ok (.invokevirtual 95, 3) := by decide +kernel
theorem s149_232 {l0 l1 l2 l3 l4 l5 : Option Value} {a : Nat} {M : Mm} {b0 : Int32} {b1 : Int32} {st : List Value} (hl : st.length ≤ 4) (ho : isO "HandoverDeskModel" M.1 a = true) : EE 149 232 [l0, l1, l2, l3, l4, l5] (.int b1 :: .int b0 :: .ref a :: st) M = (FF 93 (.ref a :: [.int b0, .int b1]) M).bind (fun z => EE 149 235 [l0, l1, l2, l3, l4, l5] (psh z.1 st) z.2) := e_calv (av := [.int b0, .int b1]) d149_232 c3_95 rfl rfl rfl r149_93 rfl hl ho
theorem d149_235 : decode (cod 149) 235 = .ok (.pop, 1) := by decide +kernel
theorem s149_235i {M : Mm} {st : List Value} {l0 l1 l2 l3 l4 l5 : Option Value} {x : Int32} : EE 149 235 [l0, l1, l2, l3, l4, l5] (.int x :: st) M = EE 149 236 [l0, l1, l2, l3, l4, l5] st M := e_pop d149_235 rfl
theorem s149_235r {M : Mm} {st : List Value} {l0 l1 l2 l3 l4 l5 : Option Value} {x : Nat} : EE 149 235 [l0, l1, l2, l3, l4, l5] (.ref x :: st) M = EE 149 236 [l0, l1, l2, l3, l4, l5] st M := e_pop d149_235 rfl
theorem d149_236 : decode (cod 149) 236 = .ok (.goto 11, 3) := by decide +kernel
theorem s149_236 {M : Mm} {st : List Value} {l0 l1 l2 l3 l4 l5 : Option Value} : EE 149 236 [l0, l1, l2, l3, l4, l5] st M = EE 149 247 [l0, l1, l2, l3, l4, l5] st M := e_goto d149_236 (by decide)
theorem d149_239 : decode (cod 149) 239 = .ok (.aload_n 0, 1) := by decide +kernel
theorem s149_239 {M : Mm} {st : List Value} {l1 l2 l3 l4 l5 : Option Value} {x : Nat} : EE 149 239 [some (.ref x), l1, l2, l3, l4, l5] st M = EE 149 240 [some (.ref x), l1, l2, l3, l4, l5] (.ref x :: st) M := e_ld d149_239 rfl rfl rfl rfl rfl rfl
theorem d149_240 : decode (cod 149) 240 = .ok (.getfield 7, 3) := by decide +kernel
theorem s149_240 {n : Nat} {I : Nat → Nat → Int32} {R : Nat → Nat → Option Nat} {st : List Value} {l0 l1 l2 l3 l4 l5 : Option Value} {a : Nat} : EE 149 240 [l0, l1, l2, l3, l4, l5] (.ref a :: st) (n, I, R) = (gfI n I R 3 0 a).bind (fun z => EE 149 243 [l0, l1, l2, l3, l4, l5] (z :: st) (n, I, R)) := e_getf d149_240 f3_7 rfl rfl
theorem d149_243 : decode (cod 149) 243 = .ok (.invokestatic 133, 3) := by decide +kernel
theorem s149_243 {M : Mm} {l0 l1 l2 l3 l4 l5 : Option Value} {b0 : Nat} {st : List Value} (hl : st.length ≤ 4) : EE 149 243 [l0, l1, l2, l3, l4, l5] (.ref b0 :: st) M = (FF 115 [.ref b0] M).bind (fun z => EE 149 246 [l0, l1, l2, l3, l4, l5] (psh z.1 st) z.2) := e_cals (av := [.ref b0]) d149_243 c3_133 (Or.inl rfl) rfl rfl r149_115 rfl hl
theorem d149_246 : decode (cod 149) 246 = .ok (.pop, 1) := by decide +kernel
theorem s149_246i {M : Mm} {st : List Value} {l0 l1 l2 l3 l4 l5 : Option Value} {x : Int32} : EE 149 246 [l0, l1, l2, l3, l4, l5] (.int x :: st) M = EE 149 247 [l0, l1, l2, l3, l4, l5] st M := e_pop d149_246 rfl
theorem s149_246r {M : Mm} {st : List Value} {l0 l1 l2 l3 l4 l5 : Option Value} {x : Nat} : EE 149 246 [l0, l1, l2, l3, l4, l5] (.ref x :: st) M = EE 149 247 [l0, l1, l2, l3, l4, l5] st M := e_pop d149_246 rfl
theorem d149_247 : decode (cod 149) 247 = .ok (.iconst 1, 1) := by decide +kernel
theorem s149_247 {M : Mm} {st : List Value} {l0 l1 l2 l3 l4 l5 : Option Value} : EE 149 247 [l0, l1, l2, l3, l4, l5] st M = EE 149 248 [l0, l1, l2, l3, l4, l5] (.int (nI 1) :: st) M := e_con d149_247 k_con_1
theorem d149_248 : decode (cod 149) 248 = .ok (.ireturn, 1) := by decide +kernel
theorem s149_248 {M : Mm} {l0 l1 l2 l3 l4 l5 : Option Value} {v : Int32} (h : narrow .boolean (.int v) = .int v) : EE 149 248 [l0, l1, l2, l3, l4, l5] [.int v] M = some (some (.int v), M) := e_iret d149_248 rfl h
theorem FE149 {a : Nat} {b0 : Int32} {M : Mm} : FF 149 [.ref a, .int b0] M = EE 149 0 [some (.ref a), some (.int b0), none, none, none, none] [] M := FF_eq 149 _ _ (Nat.le_of_ble_eq_true rfl)
