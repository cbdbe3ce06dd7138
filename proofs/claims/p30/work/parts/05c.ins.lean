theorem d30_0 : decode (cod 30) 0 = .ok (.aload_n 0, 1) := by decide +kernel
theorem s30_0 {M : Mm} {st : List Value} {x : Nat} : EE 30 0 [some (.ref x)] st M = EE 30 1 [some (.ref x)] (.ref x :: st) M := e_ld d30_0 rfl rfl rfl rfl rfl rfl
theorem d30_1 : decode (cod 30) 1 = .ok (.getfield 24, 3) := by decide +kernel
theorem s30_1 {n : Nat} {I : Nat → Nat → Int32} {R : Nat → Nat → Option Nat} {st : List Value} {l0 : Option Value} {a : Nat} : EE 30 1 [l0] (.ref a :: st) (n, I, R) = (gfI n I R 1 1 a).bind (fun z => EE 30 4 [l0] (z :: st) (n, I, R)) := e_getf d30_1 f1_24 rfl rfl
theorem d30_4 : decode (cod 30) 4 = .ok (.aload_n 0, 1) := by decide +kernel
theorem s30_4 {M : Mm} {st : List Value} {x : Nat} : EE 30 4 [some (.ref x)] st M = EE 30 5 [some (.ref x)] (.ref x :: st) M := e_ld d30_4 rfl rfl rfl rfl rfl rfl
theorem d30_5 : decode (cod 30) 5 = .ok (.getfield 57, 3) := by decide +kernel
theorem s30_5 {n : Nat} {I : Nat → Nat → Int32} {R : Nat → Nat → Option Nat} {st : List Value} {l0 : Option Value} {a : Nat} : EE 30 5 [l0] (.ref a :: st) (n, I, R) = (gfI n I R 1 11 a).bind (fun z => EE 30 8 [l0] (z :: st) (n, I, R)) := e_getf d30_5 f1_57 rfl rfl
theorem d30_8 : decode (cod 30) 8 = .ok (.iconst 1, 1) := by decide +kernel
theorem s30_8 {M : Mm} {st : List Value} {l0 : Option Value} : EE 30 8 [l0] st M = EE 30 9 [l0] (.int (nI 1) :: st) M := e_con d30_8 k_con_1
theorem d30_9 : decode (cod 30) 9 = .ok (.iadd, 1) := by decide +kernel
theorem s30_9 {M : Mm} {st : List Value} {l0 : Option Value} {x y : Int32} : EE 30 9 [l0] (.int y :: .int x :: st) M = EE 30 10 [l0] (.int (x + y) :: st) M := e_II d30_9 rfl rfl rfl rfl rfl rfl
theorem d30_10 : decode (cod 30) 10 = .ok (.bipush 12, 2) := by decide +kernel
theorem s30_10 {M : Mm} {st : List Value} {l0 : Option Value} : EE 30 10 [l0] st M = EE 30 12 [l0] (.int (nI 12) :: st) M := e_bip d30_10 k_bip_12
theorem d30_12 : decode (cod 30) 12 = .ok (.invokestatic 75, 3) := by decide +kernel
theorem s30_12 {M : Mm} {l0 : Option Value} {b0 : Int32} {b1 : Int32} {st : List Value} (hl : st.length ≤ 4) : EE 30 12 [l0] (.int b1 :: .int b0 :: st) M = (FF 152 [.int b0, .int b1] M).bind (fun z => EE 30 15 [l0] (psh z.1 st) z.2) := e_cals (av := [.int b0, .int b1]) d30_12 c1_75 (Or.inl rfl) rfl rfl r30_152 rfl hl
theorem d30_15 : decode (cod 30) 15 = .ok (.iaload, 1) := by decide +kernel
theorem s30_15 {n : Nat} {I : Nat → Nat → Int32} {R : Nat → Nat → Option Nat} {st : List Value} {l0 : Option Value} {j : Int32} {a : Nat} : EE 30 15 [l0] (.int j :: .ref a :: st) (n, I, R) = (ardI 5 n I a j).bind (fun z => EE 30 16 [l0] (.int z :: st) (n, I, R)) := e_iald d30_15
theorem d30_16 : decode (cod 30) 16 = .ok (.ireturn, 1) := by decide +kernel
theorem s30_16 {M : Mm} {l0 : Option Value} {v : Int32} : EE 30 16 [l0] [.int v] M = some (some (.int v), M) := e_iret d30_16 rfl rfl
theorem FE30 {a : Nat} {M : Mm} : FF 30 [.ref a] M = EE 30 0 [some (.ref a)] [] M := FF_eq 30 _ _ (Nat.le_of_ble_eq_true rfl)
theorem d31_0 : decode (cod 31) 0 = .ok (.iconst 0, 1) := by decide +kernel
theorem s31_0 {M : Mm} {st : List Value} {l0 l1 l2 : Option Value} : EE 31 0 [l0, l1, l2] st M = EE 31 1 [l0, l1, l2] (.int (nI 0) :: st) M := e_con d31_0 k_con_0
theorem d31_1 : decode (cod 31) 1 = .ok (.istore_n 2, 1) := by decide +kernel
theorem s31_1 {M : Mm} {st : List Value} {l0 l1 l2 : Option Value} {x : Int32} : EE 31 1 [l0, l1, l2] (.int x :: st) M = EE 31 2 [l0, cln l1, some (.int x)] st M := e_st1 d31_1 rfl rfl rfl rfl rfl rfl rfl (Nat.le_of_ble_eq_true rfl) rfl
theorem d31_2 : decode (cod 31) 2 = .ok (.iload_n 2, 1) := by decide +kernel
theorem s31_2 {M : Mm} {st : List Value} {l0 l1 : Option Value} {x : Int32} : EE 31 2 [l0, l1, some (.int x)] st M = EE 31 3 [l0, l1, some (.int x)] (.int x :: st) M := e_ld d31_2 rfl rfl rfl rfl rfl rfl
theorem d31_3 : decode (cod 31) 3 = .ok (.aload_n 0, 1) := by decide +kernel
theorem s31_3 {M : Mm} {st : List Value} {l1 l2 : Option Value} {x : Nat} : EE 31 3 [some (.ref x), l1, l2] st M = EE 31 4 [some (.ref x), l1, l2] (.ref x :: st) M := e_ld d31_3 rfl rfl rfl rfl rfl rfl
theorem d31_4 : decode (cod 31) 4 = .ok (.getfield 47, 3) := by decide +kernel
theorem s31_4 {n : Nat} {I : Nat → Nat → Int32} {R : Nat → Nat → Option Nat} {st : List Value} {l0 l1 l2 : Option Value} {a : Nat} : EE 31 4 [l0, l1, l2] (.ref a :: st) (n, I, R) = (gfI n I R 1 8 a).bind (fun z => EE 31 7 [l0, l1, l2] (z :: st) (n, I, R)) := e_getf d31_4 f1_47 rfl rfl
theorem d31_7 : decode (cod 31) 7 = .ok (.if_icmp .ge 35, 3) := by decide +kernel
theorem s31_7 {M : Mm} {st : List Value} {l0 l1 l2 : Option Value} {x y : Int32} : EE 31 7 [l0, l1, l2] (.int y :: .int x :: st) M = if y ≤ x then EE 31 42 [l0, l1, l2] st M else EE 31 10 [l0, l1, l2] st M := e_cge d31_7 (by decide)
theorem d31_10 : decode (cod 31) 10 = .ok (.aload_n 0, 1) := by decide +kernel
theorem s31_10 {M : Mm} {st : List Value} {l1 l2 : Option Value} {x : Nat} : EE 31 10 [some (.ref x), l1, l2] st M = EE 31 11 [some (.ref x), l1, l2] (.ref x :: st) M := e_ld d31_10 rfl rfl rfl rfl rfl rfl
theorem d31_11 : decode (cod 31) 11 = .ok (.iload_n 2, 1) := by decide +kernel
theorem s31_11 {M : Mm} {st : List Value} {l0 l1 : Option Value} {x : Int32} : EE 31 11 [l0, l1, some (.int x)] st M = EE 31 12 [l0, l1, some (.int x)] (.int x :: st) M := e_ld d31_11 rfl rfl rfl rfl rfl rfl
theorem d31_12 : decode (cod 31) 12 = .ok (.invokevirtual 99, 3) := by decide +kernel
theorem s31_12 {l0 l1 l2 : Option Value} {a : Nat} {M : Mm} {b0 : Int32} {st : List Value} (hl : st.length ≤ 4) (ho : isO "HandoverDesk$State" M.1 a = true) : EE 31 12 [l0, l1, l2] (.int b0 :: .ref a :: st) M = (FF 19 (.ref a :: [.int b0]) M).bind (fun z => EE 31 15 [l0, l1, l2] (psh z.1 st) z.2) := e_calv (av := [.int b0]) d31_12 c1_99 rfl rfl rfl r31_19 rfl hl ho
theorem d31_15 : decode (cod 31) 15 = .ok (.ifCond .eq 21, 3) := by decide +kernel
theorem s31_15 {M : Mm} {st : List Value} {l0 l1 l2 : Option Value} {x : Int32} : EE 31 15 [l0, l1, l2] (.int x :: st) M = if x = 0 then EE 31 36 [l0, l1, l2] st M else EE 31 18 [l0, l1, l2] st M := e_eq0 d31_15 (by decide)
theorem d31_18 : decode (cod 31) 18 = .ok (.aload_n 1, 1) := by decide +kernel
theorem s31_18 {M : Mm} {st : List Value} {l0 l2 : Option Value} {x : Nat} : EE 31 18 [l0, some (.ref x), l2] st M = EE 31 19 [l0, some (.ref x), l2] (.ref x :: st) M := e_ld d31_18 rfl rfl rfl rfl rfl rfl
theorem d31_19 : decode (cod 31) 19 = .ok (.iload_n 2, 1) := by decide +kernel
theorem s31_19 {M : Mm} {st : List Value} {l0 l1 : Option Value} {x : Int32} : EE 31 19 [l0, l1, some (.int x)] st M = EE 31 20 [l0, l1, some (.int x)] (.int x :: st) M := e_ld d31_19 rfl rfl rfl rfl rfl rfl
theorem d31_20 : decode (cod 31) 20 = .ok (.bipush 100, 2) := by decide +kernel
theorem s31_20 {M : Mm} {st : List Value} {l0 l1 l2 : Option Value} : EE 31 20 [l0, l1, l2] st M = EE 31 22 [l0, l1, l2] (.int (nI 100) :: st) M := e_bip d31_20 k_bip_100
theorem d31_22 : decode (cod 31) 22 = .ok (.aload_n 1, 1) := by decide +kernel
theorem s31_22 {M : Mm} {st : List Value} {l0 l2 : Option Value} {x : Nat} : EE 31 22 [l0, some (.ref x), l2] st M = EE 31 23 [l0, some (.ref x), l2] (.ref x :: st) M := e_ld d31_22 rfl rfl rfl rfl rfl rfl
theorem d31_23 : decode (cod 31) 23 = .ok (.iload_n 2, 1) := by decide +kernel
theorem s31_23 {M : Mm} {st : List Value} {l0 l1 : Option Value} {x : Int32} : EE 31 23 [l0, l1, some (.int x)] st M = EE 31 24 [l0, l1, some (.int x)] (.int x :: st) M := e_ld d31_23 rfl rfl rfl rfl rfl rfl
theorem d31_24 : decode (cod 31) 24 = .ok (.iaload, 1) := by decide +kernel
theorem s31_24 {n : Nat} {I : Nat → Nat → Int32} {R : Nat → Nat → Option Nat} {st : List Value} {l0 l1 l2 : Option Value} {j : Int32} {a : Nat} : EE 31 24 [l0, l1, l2] (.int j :: .ref a :: st) (n, I, R) = (ardI 5 n I a j).bind (fun z => EE 31 25 [l0, l1, l2] (.int z :: st) (n, I, R)) := e_iald d31_24
theorem d31_25 : decode (cod 31) 25 = .ok (.aload_n 0, 1) := by decide +kernel
theorem s31_25 {M : Mm} {st : List Value} {l1 l2 : Option Value} {x : Nat} : EE 31 25 [some (.ref x), l1, l2] st M = EE 31 26 [some (.ref x), l1, l2] (.ref x :: st) M := e_ld d31_25 rfl rfl rfl rfl rfl rfl
theorem d31_26 : decode (cod 31) 26 = .ok (.getfield 9, 3) := by decide +kernel
theorem s31_26 {n : Nat} {I : Nat → Nat → Int32} {R : Nat → Nat → Option Nat} {st : List Value} {l0 l1 l2 : Option Value} {a : Nat} : EE 31 26 [l0, l1, l2] (.ref a :: st) (n, I, R) = (gfI n I R 1 0 a).bind (fun z => EE 31 29 [l0, l1, l2] (z :: st) (n, I, R)) := e_getf d31_26 f1_9 rfl rfl
theorem d31_29 : decode (cod 31) 29 = .ok (.iconst 3, 1) := by decide +kernel
theorem s31_29 {M : Mm} {st : List Value} {l0 l1 l2 : Option Value} : EE 31 29 [l0, l1, l2] st M = EE 31 30 [l0, l1, l2] (.int (nI 3) :: st) M := e_con d31_29 k_con_3
theorem d31_30 : decode (cod 31) 30 = .ok (.iaload, 1) := by decide +kernel
theorem s31_30 {n : Nat} {I : Nat → Nat → Int32} {R : Nat → Nat → Option Nat} {st : List Value} {l0 l1 l2 : Option Value} {j : Int32} {a : Nat} : EE 31 30 [l0, l1, l2] (.int j :: .ref a :: st) (n, I, R) = (ardI 5 n I a j).bind (fun z => EE 31 31 [l0, l1, l2] (.int z :: st) (n, I, R)) := e_iald d31_30
theorem d31_31 : decode (cod 31) 31 = .ok (.iadd, 1) := by decide +kernel
theorem s31_31 {M : Mm} {st : List Value} {l0 l1 l2 : Option Value} {x y : Int32} : EE 31 31 [l0, l1, l2] (.int y :: .int x :: st) M = EE 31 32 [l0, l1, l2] (.int (x + y) :: st) M := e_II d31_31 rfl rfl rfl rfl rfl rfl
theorem d31_32 : decode (cod 31) 32 = .ok (.invokestatic 126, 3) := by decide +kernel
theorem s31_32 {M : Mm} {l0 l1 l2 : Option Value} {b0 : Int32} {b1 : Int32} {st : List Value} (hl : st.length ≤ 4) : EE 31 32 [l0, l1, l2] (.int b1 :: .int b0 :: st) M = (FF 151 [.int b0, .int b1] M).bind (fun z => EE 31 35 [l0, l1, l2] (psh z.1 st) z.2) := e_cals (av := [.int b0, .int b1]) d31_32 c1_126 (Or.inl rfl) rfl rfl r31_151 rfl hl
theorem d31_35 : decode (cod 31) 35 = .ok (.iastore, 1) := by decide +kernel
theorem s31_35 {n : Nat} {I : Nat → Nat → Int32} {R : Nat → Nat → Option Nat} {st : List Value} {l0 l1 l2 : Option Value} {j x : Int32} {a : Nat} (h : acI 5 n a j) : EE 31 35 [l0, l1, l2] (.int x :: .int j :: .ref a :: st) (n, I, R) = EE 31 36 [l0, l1, l2] st (n, wI I a j.toNatClampNeg x, R) := e_iast d31_35 h
theorem d31_36 : decode (cod 31) 36 = .ok (.iinc 2 1, 3) := by decide +kernel
theorem s31_36 {M : Mm} {st : List Value} {l0 l1 : Option Value} {x : Int32} : EE 31 36 [l0, l1, some (.int x)] st M = EE 31 39 [l0, cln l1, some (.int (x + nI 1))] st M := e_iinc d31_36 rfl (congrArg (fun z => x + z) k_inc_1) rfl
theorem d31_39 : decode (cod 31) 39 = .ok (.goto (-37), 3) := by decide +kernel
theorem s31_39 {M : Mm} {st : List Value} {l0 l1 l2 : Option Value} : EE 31 39 [l0, l1, l2] st M = EE 31 2 [l0, l1, l2] st M := e_goto d31_39 (by decide)
theorem d31_42 : decode (cod 31) 42 = .ok (.return_, 1) := by decide +kernel
theorem s31_42 {M : Mm} {l0 l1 l2 : Option Value} : EE 31 42 [l0, l1, l2] [] M = some (none, M) := e_vret d31_42 rfl
theorem FE31 {a : Nat} {b0 : Nat} {M : Mm} : FF 31 [.ref a, .ref b0] M = EE 31 0 [some (.ref a), some (.ref b0), none] [] M := FF_eq 31 _ _ (Nat.le_of_ble_eq_true rfl)
theorem d32_0 : decode (cod 32) 0 = .ok (.iload_n 3, 1) := by decide +kernel
theorem s32_0 {M : Mm} {st : List Value} {l0 l1 l2 l4 l5 l6 : Option Value} {x : Int32} : EE 32 0 [l0, l1, l2, some (.int x), l4, l5, l6] st M = EE 32 1 [l0, l1, l2, some (.int x), l4, l5, l6] (.int x :: st) M := e_ld d32_0 rfl rfl rfl rfl rfl rfl
theorem d32_1 : decode (cod 32) 1 = .ok (.istore 4, 2) := by decide +kernel
theorem s32_1 {M : Mm} {st : List Value} {l0 l1 l2 l3 l4 l5 l6 : Option Value} {x : Int32} : EE 32 1 [l0, l1, l2, l3, l4, l5, l6] (.int x :: st) M = EE 32 3 [l0, l1, l2, cln l3, some (.int x), l5, l6] st M := e_st1 d32_1 rfl rfl rfl rfl rfl rfl rfl (Nat.le_of_ble_eq_true rfl) rfl
theorem d32_3 : decode (cod 32) 3 = .ok (.iconst 0, 1) := by decide +kernel
theorem s32_3 {M : Mm} {st : List Value} {l0 l1 l2 l3 l4 l5 l6 : Option Value} : EE 32 3 [l0, l1, l2, l3, l4, l5, l6] st M = EE 32 4 [l0, l1, l2, l3, l4, l5, l6] (.int (nI 0) :: st) M := e_con d32_3 k_con_0
theorem d32_4 : decode (cod 32) 4 = .ok (.istore 5, 2) := by decide +kernel
theorem s32_4 {M : Mm} {st : List Value} {l0 l1 l2 l3 l4 l5 l6 : Option Value} {x : Int32} : EE 32 4 [l0, l1, l2, l3, l4, l5, l6] (.int x :: st) M = EE 32 6 [l0, l1, l2, l3, cln l4, some (.int x), l6] st M := e_st1 d32_4 rfl rfl rfl rfl rfl rfl rfl (Nat.le_of_ble_eq_true rfl) rfl
theorem d32_6 : decode (cod 32) 6 = .ok (.iload 5, 2) := by decide +kernel
theorem s32_6 {M : Mm} {st : List Value} {l0 l1 l2 l3 l4 l6 : Option Value} {x : Int32} : EE 32 6 [l0, l1, l2, l3, l4, some (.int x), l6] st M = EE 32 8 [l0, l1, l2, l3, l4, some (.int x), l6] (.int x :: st) M := e_ld d32_6 rfl rfl rfl rfl rfl rfl
theorem d32_8 : decode (cod 32) 8 = .ok (.aload_n 0, 1) := by decide +kernel
theorem s32_8 {M : Mm} {st : List Value} {l1 l2 l3 l4 l5 l6 : Option Value} {x : Nat} : EE 32 8 [some (.ref x), l1, l2, l3, l4, l5, l6] st M = EE 32 9 [some (.ref x), l1, l2, l3, l4, l5, l6] (.ref x :: st) M := e_ld d32_8 rfl rfl rfl rfl rfl rfl
theorem d32_9 : decode (cod 32) 9 = .ok (.getfield 54, 3) := by decide +kernel
theorem s32_9 {n : Nat} {I : Nat → Nat → Int32} {R : Nat → Nat → Option Nat} {st : List Value} {l0 l1 l2 l3 l4 l5 l6 : Option Value} {a : Nat} : EE 32 9 [l0, l1, l2, l3, l4, l5, l6] (.ref a :: st) (n, I, R) = (gfI n I R 1 10 a).bind (fun z => EE 32 12 [l0, l1, l2, l3, l4, l5, l6] (z :: st) (n, I, R)) := e_getf d32_9 f1_54 rfl rfl
theorem d32_12 : decode (cod 32) 12 = .ok (.if_icmp .ge 80, 3) := by decide +kernel
theorem s32_12 {M : Mm} {st : List Value} {l0 l1 l2 l3 l4 l5 l6 : Option Value} {x y : Int32} : EE 32 12 [l0, l1, l2, l3, l4, l5, l6] (.int y :: .int x :: st) M = if y ≤ x then EE 32 92 [l0, l1, l2, l3, l4, l5, l6] st M else EE 32 15 [l0, l1, l2, l3, l4, l5, l6] st M := e_cge d32_12 (by decide)
theorem d32_15 : decode (cod 32) 15 = .ok (.aload_n 0, 1) := by decide +kernel
theorem s32_15 {M : Mm} {st : List Value} {l1 l2 l3 l4 l5 l6 : Option Value} {x : Nat} : EE 32 15 [some (.ref x), l1, l2, l3, l4, l5, l6] st M = EE 32 16 [some (.ref x), l1, l2, l3, l4, l5, l6] (.ref x :: st) M := e_ld d32_15 rfl rfl rfl rfl rfl rfl
theorem d32_16 : decode (cod 32) 16 = .ok (.getfield 35, 3) := by decide +kernel
theorem s32_16 {n : Nat} {I : Nat → Nat → Int32} {R : Nat → Nat → Option Nat} {st : List Value} {l0 l1 l2 l3 l4 l5 l6 : Option Value} {a : Nat} : EE 32 16 [l0, l1, l2, l3, l4, l5, l6] (.ref a :: st) (n, I, R) = (gfI n I R 1 4 a).bind (fun z => EE 32 19 [l0, l1, l2, l3, l4, l5, l6] (z :: st) (n, I, R)) := e_getf d32_16 f1_35 rfl rfl
theorem d32_19 : decode (cod 32) 19 = .ok (.iload 5, 2) := by decide +kernel
theorem s32_19 {M : Mm} {st : List Value} {l0 l1 l2 l3 l4 l6 : Option Value} {x : Int32} : EE 32 19 [l0, l1, l2, l3, l4, some (.int x), l6] st M = EE 32 21 [l0, l1, l2, l3, l4, some (.int x), l6] (.int x :: st) M := e_ld d32_19 rfl rfl rfl rfl rfl rfl
theorem d32_21 : decode (cod 32) 21 = .ok (.iaload, 1) := by decide +kernel
theorem s32_21 {n : Nat} {I : Nat → Nat → Int32} {R : Nat → Nat → Option Nat} {st : List Value} {l0 l1 l2 l3 l4 l5 l6 : Option Value} {j : Int32} {a : Nat} : EE 32 21 [l0, l1, l2, l3, l4, l5, l6] (.int j :: .ref a :: st) (n, I, R) = (ardI 5 n I a j).bind (fun z => EE 32 22 [l0, l1, l2, l3, l4, l5, l6] (.int z :: st) (n, I, R)) := e_iald d32_21
theorem d32_22 : decode (cod 32) 22 = .ok (.istore 6, 2) := by decide +kernel
theorem s32_22 {M : Mm} {st : List Value} {l0 l1 l2 l3 l4 l5 l6 : Option Value} {x : Int32} : EE 32 22 [l0, l1, l2, l3, l4, l5, l6] (.int x :: st) M = EE 32 24 [l0, l1, l2, l3, l4, cln l5, some (.int x)] st M := e_st1 d32_22 rfl rfl rfl rfl rfl rfl rfl (Nat.le_of_ble_eq_true rfl) rfl
theorem d32_24 : decode (cod 32) 24 = .ok (.iload 4, 2) := by decide +kernel
theorem s32_24 {M : Mm} {st : List Value} {l0 l1 l2 l3 l5 l6 : Option Value} {x : Int32} : EE 32 24 [l0, l1, l2, l3, some (.int x), l5, l6] st M = EE 32 26 [l0, l1, l2, l3, some (.int x), l5, l6] (.int x :: st) M := e_ld d32_24 rfl rfl rfl rfl rfl rfl
theorem d32_26 : decode (cod 32) 26 = .ok (.ifCond .le 60, 3) := by decide +kernel
theorem s32_26 {M : Mm} {st : List Value} {l0 l1 l2 l3 l4 l5 l6 : Option Value} {x : Int32} : EE 32 26 [l0, l1, l2, l3, l4, l5, l6] (.int x :: st) M = if x ≤ 0 then EE 32 86 [l0, l1, l2, l3, l4, l5, l6] st M else EE 32 29 [l0, l1, l2, l3, l4, l5, l6] st M := e_le0 d32_26 (by decide)
theorem d32_29 : decode (cod 32) 29 = .ok (.aload_n 0, 1) := by decide +kernel
theorem s32_29 {M : Mm} {st : List Value} {l1 l2 l3 l4 l5 l6 : Option Value} {x : Nat} : EE 32 29 [some (.ref x), l1, l2, l3, l4, l5, l6] st M = EE 32 30 [some (.ref x), l1, l2, l3, l4, l5, l6] (.ref x :: st) M := e_ld d32_29 rfl rfl rfl rfl rfl rfl
theorem d32_30 : decode (cod 32) 30 = .ok (.iload 6, 2) := by decide +kernel
theorem s32_30 {M : Mm} {st : List Value} {l0 l1 l2 l3 l4 l5 : Option Value} {x : Int32} : EE 32 30 [l0, l1, l2, l3, l4, l5, some (.int x)] st M = EE 32 32 [l0, l1, l2, l3, l4, l5, some (.int x)] (.int x :: st) M := e_ld d32_30 rfl rfl rfl rfl rfl rfl
theorem d32_32 : decode (cod 32) 32 = .ok (.invokevirtual 99, 3) := by decide +kernel
theorem s32_32 {l0 l1 l2 l3 l4 l5 l6 : Option Value} {a : Nat} {M : Mm} {b0 : Int32} {st : List Value} (hl : st.length ≤ 4) (ho : isO "HandoverDesk$State" M.1 a = true) : EE 32 32 [l0, l1, l2, l3, l4, l5, l6] (.int b0 :: .ref a :: st) M = (FF 19 (.ref a :: [.int b0]) M).bind (fun z => EE 32 35 [l0, l1, l2, l3, l4, l5, l6] (psh z.1 st) z.2) := e_calv (av := [.int b0]) d32_32 c1_99 rfl rfl rfl r32_19 rfl hl ho
theorem d32_35 : decode (cod 32) 35 = .ok (.ifCond .eq 51, 3) := by decide +kernel
theorem s32_35 {M : Mm} {st : List Value} {l0 l1 l2 l3 l4 l5 l6 : Option Value} {x : Int32} : EE 32 35 [l0, l1, l2, l3, l4, l5, l6] (.int x :: st) M = if x = 0 then EE 32 86 [l0, l1, l2, l3, l4, l5, l6] st M else EE 32 38 [l0, l1, l2, l3, l4, l5, l6] st M := e_eq0 d32_35 (by decide)
theorem d32_38 : decode (cod 32) 38 = .ok (.aload_n 2, 1) := by decide +kernel
theorem s32_38 {M : Mm} {st : List Value} {l0 l1 l3 l4 l5 l6 : Option Value} {x : Nat} : EE 32 38 [l0, l1, some (.ref x), l3, l4, l5, l6] st M = EE 32 39 [l0, l1, some (.ref x), l3, l4, l5, l6] (.ref x :: st) M := e_ld d32_38 rfl rfl rfl rfl rfl rfl
theorem d32_39 : decode (cod 32) 39 = .ok (.iload 6, 2) := by decide +kernel
theorem s32_39 {M : Mm} {st : List Value} {l0 l1 l2 l3 l4 l5 : Option Value} {x : Int32} : EE 32 39 [l0, l1, l2, l3, l4, l5, some (.int x)] st M = EE 32 41 [l0, l1, l2, l3, l4, l5, some (.int x)] (.int x :: st) M := e_ld d32_39 rfl rfl rfl rfl rfl rfl
theorem d32_41 : decode (cod 32) 41 = .ok (.iaload, 1) := by decide +kernel
theorem s32_41 {n : Nat} {I : Nat → Nat → Int32} {R : Nat → Nat → Option Nat} {st : List Value} {l0 l1 l2 l3 l4 l5 l6 : Option Value} {j : Int32} {a : Nat} : EE 32 41 [l0, l1, l2, l3, l4, l5, l6] (.int j :: .ref a :: st) (n, I, R) = (ardI 5 n I a j).bind (fun z => EE 32 42 [l0, l1, l2, l3, l4, l5, l6] (.int z :: st) (n, I, R)) := e_iald d32_41
theorem d32_42 : decode (cod 32) 42 = .ok (.aload_n 0, 1) := by decide +kernel
theorem s32_42 {M : Mm} {st : List Value} {l1 l2 l3 l4 l5 l6 : Option Value} {x : Nat} : EE 32 42 [some (.ref x), l1, l2, l3, l4, l5, l6] st M = EE 32 43 [some (.ref x), l1, l2, l3, l4, l5, l6] (.ref x :: st) M := e_ld d32_42 rfl rfl rfl rfl rfl rfl
theorem d32_43 : decode (cod 32) 43 = .ok (.getfield 9, 3) := by decide +kernel
theorem s32_43 {n : Nat} {I : Nat → Nat → Int32} {R : Nat → Nat → Option Nat} {st : List Value} {l0 l1 l2 l3 l4 l5 l6 : Option Value} {a : Nat} : EE 32 43 [l0, l1, l2, l3, l4, l5, l6] (.ref a :: st) (n, I, R) = (gfI n I R 1 0 a).bind (fun z => EE 32 46 [l0, l1, l2, l3, l4, l5, l6] (z :: st) (n, I, R)) := e_getf d32_43 f1_9 rfl rfl
theorem d32_46 : decode (cod 32) 46 = .ok (.iconst 0, 1) := by decide +kernel
theorem s32_46 {M : Mm} {st : List Value} {l0 l1 l2 l3 l4 l5 l6 : Option Value} : EE 32 46 [l0, l1, l2, l3, l4, l5, l6] st M = EE 32 47 [l0, l1, l2, l3, l4, l5, l6] (.int (nI 0) :: st) M := e_con d32_46 k_con_0
theorem d32_47 : decode (cod 32) 47 = .ok (.iaload, 1) := by decide +kernel
theorem s32_47 {n : Nat} {I : Nat → Nat → Int32} {R : Nat → Nat → Option Nat} {st : List Value} {l0 l1 l2 l3 l4 l5 l6 : Option Value} {j : Int32} {a : Nat} : EE 32 47 [l0, l1, l2, l3, l4, l5, l6] (.int j :: .ref a :: st) (n, I, R) = (ardI 5 n I a j).bind (fun z => EE 32 48 [l0, l1, l2, l3, l4, l5, l6] (.int z :: st) (n, I, R)) := e_iald d32_47
theorem d32_48 : decode (cod 32) 48 = .ok (.aload_n 1, 1) := by decide +kernel
theorem s32_48 {M : Mm} {st : List Value} {l0 l2 l3 l4 l5 l6 : Option Value} {x : Nat} : EE 32 48 [l0, some (.ref x), l2, l3, l4, l5, l6] st M = EE 32 49 [l0, some (.ref x), l2, l3, l4, l5, l6] (.ref x :: st) M := e_ld d32_48 rfl rfl rfl rfl rfl rfl
theorem d32_49 : decode (cod 32) 49 = .ok (.iload 6, 2) := by decide +kernel
theorem s32_49 {M : Mm} {st : List Value} {l0 l1 l2 l3 l4 l5 : Option Value} {x : Int32} : EE 32 49 [l0, l1, l2, l3, l4, l5, some (.int x)] st M = EE 32 51 [l0, l1, l2, l3, l4, l5, some (.int x)] (.int x :: st) M := e_ld d32_49 rfl rfl rfl rfl rfl rfl
theorem d32_51 : decode (cod 32) 51 = .ok (.iaload, 1) := by decide +kernel
theorem s32_51 {n : Nat} {I : Nat → Nat → Int32} {R : Nat → Nat → Option Nat} {st : List Value} {l0 l1 l2 l3 l4 l5 l6 : Option Value} {j : Int32} {a : Nat} : EE 32 51 [l0, l1, l2, l3, l4, l5, l6] (.int j :: .ref a :: st) (n, I, R) = (ardI 5 n I a j).bind (fun z => EE 32 52 [l0, l1, l2, l3, l4, l5, l6] (.int z :: st) (n, I, R)) := e_iald d32_51
theorem d32_52 : decode (cod 32) 52 = .ok (.invokestatic 126, 3) := by decide +kernel
theorem s32_52 {M : Mm} {l0 l1 l2 l3 l4 l5 l6 : Option Value} {b0 : Int32} {b1 : Int32} {st : List Value} (hl : st.length ≤ 4) : EE 32 52 [l0, l1, l2, l3, l4, l5, l6] (.int b1 :: .int b0 :: st) M = (FF 151 [.int b0, .int b1] M).bind (fun z => EE 32 55 [l0, l1, l2, l3, l4, l5, l6] (psh z.1 st) z.2) := e_cals (av := [.int b0, .int b1]) d32_52 c1_126 (Or.inl rfl) rfl rfl r32_151 rfl hl
theorem d32_55 : decode (cod 32) 55 = .ok (.if_icmp .ge 31, 3) := by decide +kernel
theorem s32_55 {M : Mm} {st : List Value} {l0 l1 l2 l3 l4 l5 l6 : Option Value} {x y : Int32} : EE 32 55 [l0, l1, l2, l3, l4, l5, l6] (.int y :: .int x :: st) M = if y ≤ x then EE 32 86 [l0, l1, l2, l3, l4, l5, l6] st M else EE 32 58 [l0, l1, l2, l3, l4, l5, l6] st M := e_cge d32_55 (by decide)
theorem d32_58 : decode (cod 32) 58 = .ok (.aload_n 2, 1) := by decide +kernel
theorem s32_58 {M : Mm} {st : List Value} {l0 l1 l3 l4 l5 l6 : Option Value} {x : Nat} : EE 32 58 [l0, l1, some (.ref x), l3, l4, l5, l6] st M = EE 32 59 [l0, l1, some (.ref x), l3, l4, l5, l6] (.ref x :: st) M := e_ld d32_58 rfl rfl rfl rfl rfl rfl
theorem d32_59 : decode (cod 32) 59 = .ok (.iload 6, 2) := by decide +kernel
theorem s32_59 {M : Mm} {st : List Value} {l0 l1 l2 l3 l4 l5 : Option Value} {x : Int32} : EE 32 59 [l0, l1, l2, l3, l4, l5, some (.int x)] st M = EE 32 61 [l0, l1, l2, l3, l4, l5, some (.int x)] (.int x :: st) M := e_ld d32_59 rfl rfl rfl rfl rfl rfl
theorem d32_61 : decode (cod 32) 61 = .ok (.aload_n 1, 1) := by decide +kernel
theorem s32_61 {M : Mm} {st : List Value} {l0 l2 l3 l4 l5 l6 : Option Value} {x : Nat} : EE 32 61 [l0, some (.ref x), l2, l3, l4, l5, l6] st M = EE 32 62 [l0, some (.ref x), l2, l3, l4, l5, l6] (.ref x :: st) M := e_ld d32_61 rfl rfl rfl rfl rfl rfl
theorem d32_62 : decode (cod 32) 62 = .ok (.iload 6, 2) := by decide +kernel
theorem s32_62 {M : Mm} {st : List Value} {l0 l1 l2 l3 l4 l5 : Option Value} {x : Int32} : EE 32 62 [l0, l1, l2, l3, l4, l5, some (.int x)] st M = EE 32 64 [l0, l1, l2, l3, l4, l5, some (.int x)] (.int x :: st) M := e_ld d32_62 rfl rfl rfl rfl rfl rfl
theorem d32_64 : decode (cod 32) 64 = .ok (.iaload, 1) := by decide +kernel
theorem s32_64 {n : Nat} {I : Nat → Nat → Int32} {R : Nat → Nat → Option Nat} {st : List Value} {l0 l1 l2 l3 l4 l5 l6 : Option Value} {j : Int32} {a : Nat} : EE 32 64 [l0, l1, l2, l3, l4, l5, l6] (.int j :: .ref a :: st) (n, I, R) = (ardI 5 n I a j).bind (fun z => EE 32 65 [l0, l1, l2, l3, l4, l5, l6] (.int z :: st) (n, I, R)) := e_iald d32_64
theorem d32_65 : decode (cod 32) 65 = .ok (.aload_n 2, 1) := by decide +kernel
theorem s32_65 {M : Mm} {st : List Value} {l0 l1 l3 l4 l5 l6 : Option Value} {x : Nat} : EE 32 65 [l0, l1, some (.ref x), l3, l4, l5, l6] st M = EE 32 66 [l0, l1, some (.ref x), l3, l4, l5, l6] (.ref x :: st) M := e_ld d32_65 rfl rfl rfl rfl rfl rfl
theorem d32_66 : decode (cod 32) 66 = .ok (.iload 6, 2) := by decide +kernel
theorem s32_66 {M : Mm} {st : List Value} {l0 l1 l2 l3 l4 l5 : Option Value} {x : Int32} : EE 32 66 [l0, l1, l2, l3, l4, l5, some (.int x)] st M = EE 32 68 [l0, l1, l2, l3, l4, l5, some (.int x)] (.int x :: st) M := e_ld d32_66 rfl rfl rfl rfl rfl rfl
theorem d32_68 : decode (cod 32) 68 = .ok (.iaload, 1) := by decide +kernel
theorem s32_68 {n : Nat} {I : Nat → Nat → Int32} {R : Nat → Nat → Option Nat} {st : List Value} {l0 l1 l2 l3 l4 l5 l6 : Option Value} {j : Int32} {a : Nat} : EE 32 68 [l0, l1, l2, l3, l4, l5, l6] (.int j :: .ref a :: st) (n, I, R) = (ardI 5 n I a j).bind (fun z => EE 32 69 [l0, l1, l2, l3, l4, l5, l6] (.int z :: st) (n, I, R)) := e_iald d32_68
theorem d32_69 : decode (cod 32) 69 = .ok (.aload_n 0, 1) := by decide +kernel
theorem s32_69 {M : Mm} {st : List Value} {l1 l2 l3 l4 l5 l6 : Option Value} {x : Nat} : EE 32 69 [some (.ref x), l1, l2, l3, l4, l5, l6] st M = EE 32 70 [some (.ref x), l1, l2, l3, l4, l5, l6] (.ref x :: st) M := e_ld d32_69 rfl rfl rfl rfl rfl rfl
theorem d32_70 : decode (cod 32) 70 = .ok (.getfield 9, 3) := by decide +kernel
theorem s32_70 {n : Nat} {I : Nat → Nat → Int32} {R : Nat → Nat → Option Nat} {st : List Value} {l0 l1 l2 l3 l4 l5 l6 : Option Value} {a : Nat} : EE 32 70 [l0, l1, l2, l3, l4, l5, l6] (.ref a :: st) (n, I, R) = (gfI n I R 1 0 a).bind (fun z => EE 32 73 [l0, l1, l2, l3, l4, l5, l6] (z :: st) (n, I, R)) := e_getf d32_70 f1_9 rfl rfl
theorem d32_73 : decode (cod 32) 73 = .ok (.iconst 1, 1) := by decide +kernel
theorem s32_73 {M : Mm} {st : List Value} {l0 l1 l2 l3 l4 l5 l6 : Option Value} : EE 32 73 [l0, l1, l2, l3, l4, l5, l6] st M = EE 32 74 [l0, l1, l2, l3, l4, l5, l6] (.int (nI 1) :: st) M := e_con d32_73 k_con_1
theorem d32_74 : decode (cod 32) 74 = .ok (.iaload, 1) := by decide +kernel
theorem s32_74 {n : Nat} {I : Nat → Nat → Int32} {R : Nat → Nat → Option Nat} {st : List Value} {l0 l1 l2 l3 l4 l5 l6 : Option Value} {j : Int32} {a : Nat} : EE 32 74 [l0, l1, l2, l3, l4, l5, l6] (.int j :: .ref a :: st) (n, I, R) = (ardI 5 n I a j).bind (fun z => EE 32 75 [l0, l1, l2, l3, l4, l5, l6] (.int z :: st) (n, I, R)) := e_iald d32_74
theorem d32_75 : decode (cod 32) 75 = .ok (.iadd, 1) := by decide +kernel
theorem s32_75 {M : Mm} {st : List Value} {l0 l1 l2 l3 l4 l5 l6 : Option Value} {x y : Int32} : EE 32 75 [l0, l1, l2, l3, l4, l5, l6] (.int y :: .int x :: st) M = EE 32 76 [l0, l1, l2, l3, l4, l5, l6] (.int (x + y) :: st) M := e_II d32_75 rfl rfl rfl rfl rfl rfl
theorem d32_76 : decode (cod 32) 76 = .ok (.invokestatic 126, 3) := by decide +kernel
theorem s32_76 {M : Mm} {l0 l1 l2 l3 l4 l5 l6 : Option Value} {b0 : Int32} {b1 : Int32} {st : List Value} (hl : st.length ≤ 4) : EE 32 76 [l0, l1, l2, l3, l4, l5, l6] (.int b1 :: .int b0 :: st) M = (FF 151 [.int b0, .int b1] M).bind (fun z => EE 32 79 [l0, l1, l2, l3, l4, l5, l6] (psh z.1 st) z.2) := e_cals (av := [.int b0, .int b1]) d32_76 c1_126 (Or.inl rfl) rfl rfl r32_151 rfl hl
theorem d32_79 : decode (cod 32) 79 = .ok (.iastore, 1) := by decide +kernel
theorem s32_79 {n : Nat} {I : Nat → Nat → Int32} {R : Nat → Nat → Option Nat} {st : List Value} {l0 l1 l2 l3 l4 l5 l6 : Option Value} {j x : Int32} {a : Nat} (h : acI 5 n a j) : EE 32 79 [l0, l1, l2, l3, l4, l5, l6] (.int x :: .int j :: .ref a :: st) (n, I, R) = EE 32 80 [l0, l1, l2, l3, l4, l5, l6] st (n, wI I a j.toNatClampNeg x, R) := e_iast d32_79 h
theorem d32_80 : decode (cod 32) 80 = .ok (.iinc 4 (-1), 3) := by decide +kernel
theorem s32_80 {M : Mm} {st : List Value} {l0 l1 l2 l3 l5 l6 : Option Value} {x : Int32} : EE 32 80 [l0, l1, l2, l3, some (.int x), l5, l6] st M = EE 32 83 [l0, l1, l2, cln l3, some (.int (x + (-1))), l5, l6] st M := e_iinc d32_80 rfl (congrArg (fun z => x + z) k_inc_m1) rfl
theorem d32_83 : decode (cod 32) 83 = .ok (.goto (-59), 3) := by decide +kernel
theorem s32_83 {M : Mm} {st : List Value} {l0 l1 l2 l3 l4 l5 l6 : Option Value} : EE 32 83 [l0, l1, l2, l3, l4, l5, l6] st M = EE 32 24 [l0, l1, l2, l3, l4, l5, l6] st M := e_goto d32_83 (by decide)
theorem d32_86 : decode (cod 32) 86 = .ok (.iinc 5 1, 3) := by decide +kernel
theorem s32_86 {M : Mm} {st : List Value} {l0 l1 l2 l3 l4 l6 : Option Value} {x : Int32} : EE 32 86 [l0, l1, l2, l3, l4, some (.int x), l6] st M = EE 32 89 [l0, l1, l2, l3, cln l4, some (.int (x + nI 1)), l6] st M := e_iinc d32_86 rfl (congrArg (fun z => x + z) k_inc_1) rfl
theorem d32_89 : decode (cod 32) 89 = .ok (.goto (-83), 3) := by decide +kernel
theorem s32_89 {M : Mm} {st : List Value} {l0 l1 l2 l3 l4 l5 l6 : Option Value} : EE 32 89 [l0, l1, l2, l3, l4, l5, l6] st M = EE 32 6 [l0, l1, l2, l3, l4, l5, l6] st M := e_goto d32_89 (by decide)
theorem d32_92 : decode (cod 32) 92 = .ok (.aload_n 0, 1) := by decide +kernel
theorem s32_92 {M : Mm} {st : List Value} {l1 l2 l3 l4 l5 l6 : Option Value} {x : Nat} : EE 32 92 [some (.ref x), l1, l2, l3, l4, l5, l6] st M = EE 32 93 [some (.ref x), l1, l2, l3, l4, l5, l6] (.ref x :: st) M := e_ld d32_92 rfl rfl rfl rfl rfl rfl
theorem d32_93 : decode (cod 32) 93 = .ok (.aload_n 1, 1) := by decide +kernel
theorem s32_93 {M : Mm} {st : List Value} {l0 l2 l3 l4 l5 l6 : Option Value} {x : Nat} : EE 32 93 [l0, some (.ref x), l2, l3, l4, l5, l6] st M = EE 32 94 [l0, some (.ref x), l2, l3, l4, l5, l6] (.ref x :: st) M := e_ld d32_93 rfl rfl rfl rfl rfl rfl
theorem d32_94 : decode (cod 32) 94 = .ok (.aload_n 2, 1) := by decide +kernel
theorem s32_94 {M : Mm} {st : List Value} {l0 l1 l3 l4 l5 l6 : Option Value} {x : Nat} : EE 32 94 [l0, l1, some (.ref x), l3, l4, l5, l6] st M = EE 32 95 [l0, l1, some (.ref x), l3, l4, l5, l6] (.ref x :: st) M := e_ld d32_94 rfl rfl rfl rfl rfl rfl
theorem d32_95 : decode (cod 32) 95 = .ok (.invokevirtual 157, 3) := by decide +kernel
theorem s32_95 {l0 l1 l2 l3 l4 l5 l6 : Option Value} {a : Nat} {M : Mm} {b0 : Nat} {b1 : Nat} {st : List Value} (hl : st.length ≤ 4) (ho : isO "HandoverDesk$State" M.1 a = true) : EE 32 95 [l0, l1, l2, l3, l4, l5, l6] (.ref b1 :: .ref b0 :: .ref a :: st) M = (FF 33 (.ref a :: [.ref b0, .ref b1]) M).bind (fun z => EE 32 98 [l0, l1, l2, l3, l4, l5, l6] (psh z.1 st) z.2) := e_calv (av := [.ref b0, .ref b1]) d32_95 c1_157 rfl rfl rfl r32_33 rfl hl ho
theorem d32_98 : decode (cod 32) 98 = .ok (.istore 5, 2) := by decide +kernel
theorem s32_98 {M : Mm} {st : List Value} {l0 l1 l2 l3 l4 l5 l6 : Option Value} {x : Int32} : EE 32 98 [l0, l1, l2, l3, l4, l5, l6] (.int x :: st) M = EE 32 100 [l0, l1, l2, l3, cln l4, some (.int x), l6] st M := e_st1 d32_98 rfl rfl rfl rfl rfl rfl rfl (Nat.le_of_ble_eq_true rfl) rfl
theorem d32_100 : decode (cod 32) 100 = .ok (.iload 4, 2) := by decide +kernel
theorem s32_100 {M : Mm} {st : List Value} {l0 l1 l2 l3 l5 l6 : Option Value} {x : Int32} : EE 32 100 [l0, l1, l2, l3, some (.int x), l5, l6] st M = EE 32 102 [l0, l1, l2, l3, some (.int x), l5, l6] (.int x :: st) M := e_ld d32_100 rfl rfl rfl rfl rfl rfl
theorem d32_102 : decode (cod 32) 102 = .ok (.ifCond .le 44, 3) := by decide +kernel
theorem s32_102 {M : Mm} {st : List Value} {l0 l1 l2 l3 l4 l5 l6 : Option Value} {x : Int32} : EE 32 102 [l0, l1, l2, l3, l4, l5, l6] (.int x :: st) M = if x ≤ 0 then EE 32 146 [l0, l1, l2, l3, l4, l5, l6] st M else EE 32 105 [l0, l1, l2, l3, l4, l5, l6] st M := e_le0 d32_102 (by decide)
theorem d32_105 : decode (cod 32) 105 = .ok (.iload 5, 2) := by decide +kernel
theorem s32_105 {M : Mm} {st : List Value} {l0 l1 l2 l3 l4 l6 : Option Value} {x : Int32} : EE 32 105 [l0, l1, l2, l3, l4, some (.int x), l6] st M = EE 32 107 [l0, l1, l2, l3, l4, some (.int x), l6] (.int x :: st) M := e_ld d32_105 rfl rfl rfl rfl rfl rfl
theorem d32_107 : decode (cod 32) 107 = .ok (.ifCond .lt 39, 3) := by decide +kernel
theorem s32_107 {M : Mm} {st : List Value} {l0 l1 l2 l3 l4 l5 l6 : Option Value} {x : Int32} : EE 32 107 [l0, l1, l2, l3, l4, l5, l6] (.int x :: st) M = if x < 0 then EE 32 146 [l0, l1, l2, l3, l4, l5, l6] st M else EE 32 110 [l0, l1, l2, l3, l4, l5, l6] st M := e_lt0 d32_107 (by decide)
theorem d32_110 : decode (cod 32) 110 = .ok (.aload_n 2, 1) := by decide +kernel
theorem s32_110 {M : Mm} {st : List Value} {l0 l1 l3 l4 l5 l6 : Option Value} {x : Nat} : EE 32 110 [l0, l1, some (.ref x), l3, l4, l5, l6] st M = EE 32 111 [l0, l1, some (.ref x), l3, l4, l5, l6] (.ref x :: st) M := e_ld d32_110 rfl rfl rfl rfl rfl rfl
theorem d32_111 : decode (cod 32) 111 = .ok (.iload 5, 2) := by decide +kernel
theorem s32_111 {M : Mm} {st : List Value} {l0 l1 l2 l3 l4 l6 : Option Value} {x : Int32} : EE 32 111 [l0, l1, l2, l3, l4, some (.int x), l6] st M = EE 32 113 [l0, l1, l2, l3, l4, some (.int x), l6] (.int x :: st) M := e_ld d32_111 rfl rfl rfl rfl rfl rfl
theorem d32_113 : decode (cod 32) 113 = .ok (.aload_n 1, 1) := by decide +kernel
theorem s32_113 {M : Mm} {st : List Value} {l0 l2 l3 l4 l5 l6 : Option Value} {x : Nat} : EE 32 113 [l0, some (.ref x), l2, l3, l4, l5, l6] st M = EE 32 114 [l0, some (.ref x), l2, l3, l4, l5, l6] (.ref x :: st) M := e_ld d32_113 rfl rfl rfl rfl rfl rfl
theorem d32_114 : decode (cod 32) 114 = .ok (.iload 5, 2) := by decide +kernel
theorem s32_114 {M : Mm} {st : List Value} {l0 l1 l2 l3 l4 l6 : Option Value} {x : Int32} : EE 32 114 [l0, l1, l2, l3, l4, some (.int x), l6] st M = EE 32 116 [l0, l1, l2, l3, l4, some (.int x), l6] (.int x :: st) M := e_ld d32_114 rfl rfl rfl rfl rfl rfl
theorem d32_116 : decode (cod 32) 116 = .ok (.iaload, 1) := by decide +kernel
theorem s32_116 {n : Nat} {I : Nat → Nat → Int32} {R : Nat → Nat → Option Nat} {st : List Value} {l0 l1 l2 l3 l4 l5 l6 : Option Value} {j : Int32} {a : Nat} : EE 32 116 [l0, l1, l2, l3, l4, l5, l6] (.int j :: .ref a :: st) (n, I, R) = (ardI 5 n I a j).bind (fun z => EE 32 117 [l0, l1, l2, l3, l4, l5, l6] (.int z :: st) (n, I, R)) := e_iald d32_116
theorem d32_117 : decode (cod 32) 117 = .ok (.aload_n 2, 1) := by decide +kernel
theorem s32_117 {M : Mm} {st : List Value} {l0 l1 l3 l4 l5 l6 : Option Value} {x : Nat} : EE 32 117 [l0, l1, some (.ref x), l3, l4, l5, l6] st M = EE 32 118 [l0, l1, some (.ref x), l3, l4, l5, l6] (.ref x :: st) M := e_ld d32_117 rfl rfl rfl rfl rfl rfl
theorem d32_118 : decode (cod 32) 118 = .ok (.iload 5, 2) := by decide +kernel
theorem s32_118 {M : Mm} {st : List Value} {l0 l1 l2 l3 l4 l6 : Option Value} {x : Int32} : EE 32 118 [l0, l1, l2, l3, l4, some (.int x), l6] st M = EE 32 120 [l0, l1, l2, l3, l4, some (.int x), l6] (.int x :: st) M := e_ld d32_118 rfl rfl rfl rfl rfl rfl
theorem d32_120 : decode (cod 32) 120 = .ok (.iaload, 1) := by decide +kernel
theorem s32_120 {n : Nat} {I : Nat → Nat → Int32} {R : Nat → Nat → Option Nat} {st : List Value} {l0 l1 l2 l3 l4 l5 l6 : Option Value} {j : Int32} {a : Nat} : EE 32 120 [l0, l1, l2, l3, l4, l5, l6] (.int j :: .ref a :: st) (n, I, R) = (ardI 5 n I a j).bind (fun z => EE 32 121 [l0, l1, l2, l3, l4, l5, l6] (.int z :: st) (n, I, R)) := e_iald d32_120
theorem d32_121 : decode (cod 32) 121 = .ok (.aload_n 0, 1) := by decide +kernel
theorem s32_121 {M : Mm} {st : List Value} {l1 l2 l3 l4 l5 l6 : Option Value} {x : Nat} : EE 32 121 [some (.ref x), l1, l2, l3, l4, l5, l6] st M = EE 32 122 [some (.ref x), l1, l2, l3, l4, l5, l6] (.ref x :: st) M := e_ld d32_121 rfl rfl rfl rfl rfl rfl
theorem d32_122 : decode (cod 32) 122 = .ok (.getfield 9, 3) := by decide +kernel
theorem s32_122 {n : Nat} {I : Nat → Nat → Int32} {R : Nat → Nat → Option Nat} {st : List Value} {l0 l1 l2 l3 l4 l5 l6 : Option Value} {a : Nat} : EE 32 122 [l0, l1, l2, l3, l4, l5, l6] (.ref a :: st) (n, I, R) = (gfI n I R 1 0 a).bind (fun z => EE 32 125 [l0, l1, l2, l3, l4, l5, l6] (z :: st) (n, I, R)) := e_getf d32_122 f1_9 rfl rfl
theorem d32_125 : decode (cod 32) 125 = .ok (.iconst 1, 1) := by decide +kernel
theorem s32_125 {M : Mm} {st : List Value} {l0 l1 l2 l3 l4 l5 l6 : Option Value} : EE 32 125 [l0, l1, l2, l3, l4, l5, l6] st M = EE 32 126 [l0, l1, l2, l3, l4, l5, l6] (.int (nI 1) :: st) M := e_con d32_125 k_con_1
theorem d32_126 : decode (cod 32) 126 = .ok (.iaload, 1) := by decide +kernel
theorem s32_126 {n : Nat} {I : Nat → Nat → Int32} {R : Nat → Nat → Option Nat} {st : List Value} {l0 l1 l2 l3 l4 l5 l6 : Option Value} {j : Int32} {a : Nat} : EE 32 126 [l0, l1, l2, l3, l4, l5, l6] (.int j :: .ref a :: st) (n, I, R) = (ardI 5 n I a j).bind (fun z => EE 32 127 [l0, l1, l2, l3, l4, l5, l6] (.int z :: st) (n, I, R)) := e_iald d32_126
theorem d32_127 : decode (cod 32) 127 = .ok (.iadd, 1) := by decide +kernel
theorem s32_127 {M : Mm} {st : List Value} {l0 l1 l2 l3 l4 l5 l6 : Option Value} {x y : Int32} : EE 32 127 [l0, l1, l2, l3, l4, l5, l6] (.int y :: .int x :: st) M = EE 32 128 [l0, l1, l2, l3, l4, l5, l6] (.int (x + y) :: st) M := e_II d32_127 rfl rfl rfl rfl rfl rfl
theorem d32_128 : decode (cod 32) 128 = .ok (.invokestatic 126, 3) := by decide +kernel
theorem s32_128 {M : Mm} {l0 l1 l2 l3 l4 l5 l6 : Option Value} {b0 : Int32} {b1 : Int32} {st : List Value} (hl : st.length ≤ 4) : EE 32 128 [l0, l1, l2, l3, l4, l5, l6] (.int b1 :: .int b0 :: st) M = (FF 151 [.int b0, .int b1] M).bind (fun z => EE 32 131 [l0, l1, l2, l3, l4, l5, l6] (psh z.1 st) z.2) := e_cals (av := [.int b0, .int b1]) d32_128 c1_126 (Or.inl rfl) rfl rfl r32_151 rfl hl
theorem d32_131 : decode (cod 32) 131 = .ok (.iastore, 1) := by decide +kernel
theorem s32_131 {n : Nat} {I : Nat → Nat → Int32} {R : Nat → Nat → Option Nat} {st : List Value} {l0 l1 l2 l3 l4 l5 l6 : Option Value} {j x : Int32} {a : Nat} (h : acI 5 n a j) : EE 32 131 [l0, l1, l2, l3, l4, l5, l6] (.int x :: .int j :: .ref a :: st) (n, I, R) = EE 32 132 [l0, l1, l2, l3, l4, l5, l6] st (n, wI I a j.toNatClampNeg x, R) := e_iast d32_131 h
theorem d32_132 : decode (cod 32) 132 = .ok (.iinc 4 (-1), 3) := by decide +kernel
theorem s32_132 {M : Mm} {st : List Value} {l0 l1 l2 l3 l5 l6 : Option Value} {x : Int32} : EE 32 132 [l0, l1, l2, l3, some (.int x), l5, l6] st M = EE 32 135 [l0, l1, l2, cln l3, some (.int (x + (-1))), l5, l6] st M := e_iinc d32_132 rfl (congrArg (fun z => x + z) k_inc_m1) rfl
theorem d32_135 : decode (cod 32) 135 = .ok (.aload_n 0, 1) := by decide +kernel
theorem s32_135 {M : Mm} {st : List Value} {l1 l2 l3 l4 l5 l6 : Option Value} {x : Nat} : EE 32 135 [some (.ref x), l1, l2, l3, l4, l5, l6] st M = EE 32 136 [some (.ref x), l1, l2, l3, l4, l5, l6] (.ref x :: st) M := e_ld d32_135 rfl rfl rfl rfl rfl rfl
theorem d32_136 : decode (cod 32) 136 = .ok (.aload_n 1, 1) := by decide +kernel
theorem s32_136 {M : Mm} {st : List Value} {l0 l2 l3 l4 l5 l6 : Option Value} {x : Nat} : EE 32 136 [l0, some (.ref x), l2, l3, l4, l5, l6] st M = EE 32 137 [l0, some (.ref x), l2, l3, l4, l5, l6] (.ref x :: st) M := e_ld d32_136 rfl rfl rfl rfl rfl rfl
theorem d32_137 : decode (cod 32) 137 = .ok (.aload_n 2, 1) := by decide +kernel
theorem s32_137 {M : Mm} {st : List Value} {l0 l1 l3 l4 l5 l6 : Option Value} {x : Nat} : EE 32 137 [l0, l1, some (.ref x), l3, l4, l5, l6] st M = EE 32 138 [l0, l1, some (.ref x), l3, l4, l5, l6] (.ref x :: st) M := e_ld d32_137 rfl rfl rfl rfl rfl rfl
theorem d32_138 : decode (cod 32) 138 = .ok (.invokevirtual 157, 3) := by decide +kernel
theorem s32_138 {l0 l1 l2 l3 l4 l5 l6 : Option Value} {a : Nat} {M : Mm} {b0 : Nat} {b1 : Nat} {st : List Value} (hl : st.length ≤ 4) (ho : isO "HandoverDesk$State" M.1 a = true) : EE 32 138 [l0, l1, l2, l3, l4, l5, l6] (.ref b1 :: .ref b0 :: .ref a :: st) M = (FF 33 (.ref a :: [.ref b0, .ref b1]) M).bind (fun z => EE 32 141 [l0, l1, l2, l3, l4, l5, l6] (psh z.1 st) z.2) := e_calv (av := [.ref b0, .ref b1]) d32_138 c1_157 rfl rfl rfl r32_33 rfl hl ho
theorem d32_141 : decode (cod 32) 141 = .ok (.istore 5, 2) := by decide +kernel
theorem s32_141 {M : Mm} {st : List Value} {l0 l1 l2 l3 l4 l5 l6 : Option Value} {x : Int32} : EE 32 141 [l0, l1, l2, l3, l4, l5, l6] (.int x :: st) M = EE 32 143 [l0, l1, l2, l3, cln l4, some (.int x), l6] st M := e_st1 d32_141 rfl rfl rfl rfl rfl rfl rfl (Nat.le_of_ble_eq_true rfl) rfl
theorem d32_143 : decode (cod 32) 143 = .ok (.goto (-43), 3) := by decide +kernel
theorem s32_143 {M : Mm} {st : List Value} {l0 l1 l2 l3 l4 l5 l6 : Option Value} : EE 32 143 [l0, l1, l2, l3, l4, l5, l6] st M = EE 32 100 [l0, l1, l2, l3, l4, l5, l6] st M := e_goto d32_143 (by decide)
theorem d32_146 : decode (cod 32) 146 = .ok (.iload 4, 2) := by decide +kernel
theorem s32_146 {M : Mm} {st : List Value} {l0 l1 l2 l3 l5 l6 : Option Value} {x : Int32} : EE 32 146 [l0, l1, l2, l3, some (.int x), l5, l6] st M = EE 32 148 [l0, l1, l2, l3, some (.int x), l5, l6] (.int x :: st) M := e_ld d32_146 rfl rfl rfl rfl rfl rfl
theorem d32_148 : decode (cod 32) 148 = .ok (.ireturn, 1) := by decide +kernel
theorem s32_148 {M : Mm} {l0 l1 l2 l3 l4 l5 l6 : Option Value} {v : Int32} : EE 32 148 [l0, l1, l2, l3, l4, l5, l6] [.int v] M = some (some (.int v), M) := e_iret d32_148 rfl rfl
theorem FE32 {a : Nat} {b0 : Nat} {b1 : Nat} {b2 : Int32} {M : Mm} : FF 32 [.ref a, .ref b0, .ref b1, .int b2] M = EE 32 0 [some (.ref a), some (.ref b0), some (.ref b1), some (.int b2), none, none, none] [] M := FF_eq 32 _ _ (Nat.le_of_ble_eq_true rfl)
theorem d33_0 : decode (cod 33) 0 = .ok (.bipush (-6), 2) := by decide +kernel
theorem s33_0 {M : Mm} {st : List Value} {l0 l1 l2 l3 l4 l5 : Option Value} : EE 33 0 [l0, l1, l2, l3, l4, l5] st M = EE 33 2 [l0, l1, l2, l3, l4, l5] (.int ((-6)) :: st) M := e_bip d33_0 k_bip_m6
theorem d33_2 : decode (cod 33) 2 = .ok (.istore_n 3, 1) := by decide +kernel
theorem s33_2 {M : Mm} {st : List Value} {l0 l1 l2 l3 l4 l5 : Option Value} {x : Int32} : EE 33 2 [l0, l1, l2, l3, l4, l5] (.int x :: st) M = EE 33 3 [l0, l1, cln l2, some (.int x), l4, l5] st M := e_st1 d33_2 rfl rfl rfl rfl rfl rfl rfl (Nat.le_of_ble_eq_true rfl) rfl
theorem d33_3 : decode (cod 33) 3 = .ok (.iconst 0, 1) := by decide +kernel
theorem s33_3 {M : Mm} {st : List Value} {l0 l1 l2 l3 l4 l5 : Option Value} : EE 33 3 [l0, l1, l2, l3, l4, l5] st M = EE 33 4 [l0, l1, l2, l3, l4, l5] (.int (nI 0) :: st) M := e_con d33_3 k_con_0
theorem d33_4 : decode (cod 33) 4 = .ok (.istore 4, 2) := by decide +kernel
theorem s33_4 {M : Mm} {st : List Value} {l0 l1 l2 l3 l4 l5 : Option Value} {x : Int32} : EE 33 4 [l0, l1, l2, l3, l4, l5] (.int x :: st) M = EE 33 6 [l0, l1, l2, cln l3, some (.int x), l5] st M := e_st1 d33_4 rfl rfl rfl rfl rfl rfl rfl (Nat.le_of_ble_eq_true rfl) rfl
theorem d33_6 : decode (cod 33) 6 = .ok (.iconst 0, 1) := by decide +kernel
theorem s33_6 {M : Mm} {st : List Value} {l0 l1 l2 l3 l4 l5 : Option Value} : EE 33 6 [l0, l1, l2, l3, l4, l5] st M = EE 33 7 [l0, l1, l2, l3, l4, l5] (.int (nI 0) :: st) M := e_con d33_6 k_con_0
theorem d33_7 : decode (cod 33) 7 = .ok (.istore 5, 2) := by decide +kernel
theorem s33_7 {M : Mm} {st : List Value} {l0 l1 l2 l3 l4 l5 : Option Value} {x : Int32} : EE 33 7 [l0, l1, l2, l3, l4, l5] (.int x :: st) M = EE 33 9 [l0, l1, l2, l3, cln l4, some (.int x)] st M := e_st1 d33_7 rfl rfl rfl rfl rfl rfl rfl (Nat.le_of_ble_eq_true rfl) rfl
theorem d33_9 : decode (cod 33) 9 = .ok (.iload 5, 2) := by decide +kernel
theorem s33_9 {M : Mm} {st : List Value} {l0 l1 l2 l3 l4 : Option Value} {x : Int32} : EE 33 9 [l0, l1, l2, l3, l4, some (.int x)] st M = EE 33 11 [l0, l1, l2, l3, l4, some (.int x)] (.int x :: st) M := e_ld d33_9 rfl rfl rfl rfl rfl rfl
theorem d33_11 : decode (cod 33) 11 = .ok (.aload_n 0, 1) := by decide +kernel
theorem s33_11 {M : Mm} {st : List Value} {l1 l2 l3 l4 l5 : Option Value} {x : Nat} : EE 33 11 [some (.ref x), l1, l2, l3, l4, l5] st M = EE 33 12 [some (.ref x), l1, l2, l3, l4, l5] (.ref x :: st) M := e_ld d33_11 rfl rfl rfl rfl rfl rfl
theorem d33_12 : decode (cod 33) 12 = .ok (.getfield 47, 3) := by decide +kernel
theorem s33_12 {n : Nat} {I : Nat → Nat → Int32} {R : Nat → Nat → Option Nat} {st : List Value} {l0 l1 l2 l3 l4 l5 : Option Value} {a : Nat} : EE 33 12 [l0, l1, l2, l3, l4, l5] (.ref a :: st) (n, I, R) = (gfI n I R 1 8 a).bind (fun z => EE 33 15 [l0, l1, l2, l3, l4, l5] (z :: st) (n, I, R)) := e_getf d33_12 f1_47 rfl rfl
theorem d33_15 : decode (cod 33) 15 = .ok (.if_icmp .ge 46, 3) := by decide +kernel
theorem s33_15 {M : Mm} {st : List Value} {l0 l1 l2 l3 l4 l5 : Option Value} {x y : Int32} : EE 33 15 [l0, l1, l2, l3, l4, l5] (.int y :: .int x :: st) M = if y ≤ x then EE 33 61 [l0, l1, l2, l3, l4, l5] st M else EE 33 18 [l0, l1, l2, l3, l4, l5] st M := e_cge d33_15 (by decide)
theorem d33_18 : decode (cod 33) 18 = .ok (.aload_n 0, 1) := by decide +kernel
theorem s33_18 {M : Mm} {st : List Value} {l1 l2 l3 l4 l5 : Option Value} {x : Nat} : EE 33 18 [some (.ref x), l1, l2, l3, l4, l5] st M = EE 33 19 [some (.ref x), l1, l2, l3, l4, l5] (.ref x :: st) M := e_ld d33_18 rfl rfl rfl rfl rfl rfl
theorem d33_19 : decode (cod 33) 19 = .ok (.iload 5, 2) := by decide +kernel
theorem s33_19 {M : Mm} {st : List Value} {l0 l1 l2 l3 l4 : Option Value} {x : Int32} : EE 33 19 [l0, l1, l2, l3, l4, some (.int x)] st M = EE 33 21 [l0, l1, l2, l3, l4, some (.int x)] (.int x :: st) M := e_ld d33_19 rfl rfl rfl rfl rfl rfl
theorem d33_21 : decode (cod 33) 21 = .ok (.invokevirtual 99, 3) := by decide +kernel
theorem s33_21 {l0 l1 l2 l3 l4 l5 : Option Value} {a : Nat} {M : Mm} {b0 : Int32} {st : List Value} (hl : st.length ≤ 4) (ho : isO "HandoverDesk$State" M.1 a = true) : EE 33 21 [l0, l1, l2, l3, l4, l5] (.int b0 :: .ref a :: st) M = (FF 19 (.ref a :: [.int b0]) M).bind (fun z => EE 33 24 [l0, l1, l2, l3, l4, l5] (psh z.1 st) z.2) := e_calv (av := [.int b0]) d33_21 c1_99 rfl rfl rfl r33_19 rfl hl ho
theorem d33_24 : decode (cod 33) 24 = .ok (.ifCond .eq 31, 3) := by decide +kernel
theorem s33_24 {M : Mm} {st : List Value} {l0 l1 l2 l3 l4 l5 : Option Value} {x : Int32} : EE 33 24 [l0, l1, l2, l3, l4, l5] (.int x :: st) M = if x = 0 then EE 33 55 [l0, l1, l2, l3, l4, l5] st M else EE 33 27 [l0, l1, l2, l3, l4, l5] st M := e_eq0 d33_24 (by decide)
theorem d33_27 : decode (cod 33) 27 = .ok (.aload_n 1, 1) := by decide +kernel
theorem s33_27 {M : Mm} {st : List Value} {l0 l2 l3 l4 l5 : Option Value} {x : Nat} : EE 33 27 [l0, some (.ref x), l2, l3, l4, l5] st M = EE 33 28 [l0, some (.ref x), l2, l3, l4, l5] (.ref x :: st) M := e_ld d33_27 rfl rfl rfl rfl rfl rfl
theorem d33_28 : decode (cod 33) 28 = .ok (.iload 5, 2) := by decide +kernel
theorem s33_28 {M : Mm} {st : List Value} {l0 l1 l2 l3 l4 : Option Value} {x : Int32} : EE 33 28 [l0, l1, l2, l3, l4, some (.int x)] st M = EE 33 30 [l0, l1, l2, l3, l4, some (.int x)] (.int x :: st) M := e_ld d33_28 rfl rfl rfl rfl rfl rfl
theorem d33_30 : decode (cod 33) 30 = .ok (.iaload, 1) := by decide +kernel
theorem s33_30 {n : Nat} {I : Nat → Nat → Int32} {R : Nat → Nat → Option Nat} {st : List Value} {l0 l1 l2 l3 l4 l5 : Option Value} {j : Int32} {a : Nat} : EE 33 30 [l0, l1, l2, l3, l4, l5] (.int j :: .ref a :: st) (n, I, R) = (ardI 5 n I a j).bind (fun z => EE 33 31 [l0, l1, l2, l3, l4, l5] (.int z :: st) (n, I, R)) := e_iald d33_30
theorem d33_31 : decode (cod 33) 31 = .ok (.aload_n 2, 1) := by decide +kernel
theorem s33_31 {M : Mm} {st : List Value} {l0 l1 l3 l4 l5 : Option Value} {x : Nat} : EE 33 31 [l0, l1, some (.ref x), l3, l4, l5] st M = EE 33 32 [l0, l1, some (.ref x), l3, l4, l5] (.ref x :: st) M := e_ld d33_31 rfl rfl rfl rfl rfl rfl
theorem d33_32 : decode (cod 33) 32 = .ok (.iload 5, 2) := by decide +kernel
theorem s33_32 {M : Mm} {st : List Value} {l0 l1 l2 l3 l4 : Option Value} {x : Int32} : EE 33 32 [l0, l1, l2, l3, l4, some (.int x)] st M = EE 33 34 [l0, l1, l2, l3, l4, some (.int x)] (.int x :: st) M := e_ld d33_32 rfl rfl rfl rfl rfl rfl
theorem d33_34 : decode (cod 33) 34 = .ok (.iaload, 1) := by decide +kernel
theorem s33_34 {n : Nat} {I : Nat → Nat → Int32} {R : Nat → Nat → Option Nat} {st : List Value} {l0 l1 l2 l3 l4 l5 : Option Value} {j : Int32} {a : Nat} : EE 33 34 [l0, l1, l2, l3, l4, l5] (.int j :: .ref a :: st) (n, I, R) = (ardI 5 n I a j).bind (fun z => EE 33 35 [l0, l1, l2, l3, l4, l5] (.int z :: st) (n, I, R)) := e_iald d33_34
theorem d33_35 : decode (cod 33) 35 = .ok (.isub, 1) := by decide +kernel
theorem s33_35 {M : Mm} {st : List Value} {l0 l1 l2 l3 l4 l5 : Option Value} {x y : Int32} : EE 33 35 [l0, l1, l2, l3, l4, l5] (.int y :: .int x :: st) M = EE 33 36 [l0, l1, l2, l3, l4, l5] (.int (x - y) :: st) M := e_II d33_35 rfl rfl rfl rfl rfl rfl
theorem d33_36 : decode (cod 33) 36 = .ok (.iload 4, 2) := by decide +kernel
theorem s33_36 {M : Mm} {st : List Value} {l0 l1 l2 l3 l5 : Option Value} {x : Int32} : EE 33 36 [l0, l1, l2, l3, some (.int x), l5] st M = EE 33 38 [l0, l1, l2, l3, some (.int x), l5] (.int x :: st) M := e_ld d33_36 rfl rfl rfl rfl rfl rfl
theorem d33_38 : decode (cod 33) 38 = .ok (.if_icmp .le 17, 3) := by decide +kernel
theorem s33_38 {M : Mm} {st : List Value} {l0 l1 l2 l3 l4 l5 : Option Value} {x y : Int32} : EE 33 38 [l0, l1, l2, l3, l4, l5] (.int y :: .int x :: st) M = if x ≤ y then EE 33 55 [l0, l1, l2, l3, l4, l5] st M else EE 33 41 [l0, l1, l2, l3, l4, l5] st M := e_cle d33_38 (by decide)
theorem d33_41 : decode (cod 33) 41 = .ok (.iload 5, 2) := by decide +kernel
theorem s33_41 {M : Mm} {st : List Value} {l0 l1 l2 l3 l4 : Option Value} {x : Int32} : EE 33 41 [l0, l1, l2, l3, l4, some (.int x)] st M = EE 33 43 [l0, l1, l2, l3, l4, some (.int x)] (.int x :: st) M := e_ld d33_41 rfl rfl rfl rfl rfl rfl
theorem d33_43 : decode (cod 33) 43 = .ok (.istore_n 3, 1) := by decide +kernel
theorem s33_43 {M : Mm} {st : List Value} {l0 l1 l2 l3 l4 l5 : Option Value} {x : Int32} : EE 33 43 [l0, l1, l2, l3, l4, l5] (.int x :: st) M = EE 33 44 [l0, l1, cln l2, some (.int x), l4, l5] st M := e_st1 d33_43 rfl rfl rfl rfl rfl rfl rfl (Nat.le_of_ble_eq_true rfl) rfl
theorem d33_44 : decode (cod 33) 44 = .ok (.aload_n 1, 1) := by decide +kernel
theorem s33_44 {M : Mm} {st : List Value} {l0 l2 l3 l4 l5 : Option Value} {x : Nat} : EE 33 44 [l0, some (.ref x), l2, l3, l4, l5] st M = EE 33 45 [l0, some (.ref x), l2, l3, l4, l5] (.ref x :: st) M := e_ld d33_44 rfl rfl rfl rfl rfl rfl
theorem d33_45 : decode (cod 33) 45 = .ok (.iload 5, 2) := by decide +kernel
theorem s33_45 {M : Mm} {st : List Value} {l0 l1 l2 l3 l4 : Option Value} {x : Int32} : EE 33 45 [l0, l1, l2, l3, l4, some (.int x)] st M = EE 33 47 [l0, l1, l2, l3, l4, some (.int x)] (.int x :: st) M := e_ld d33_45 rfl rfl rfl rfl rfl rfl
theorem d33_47 : decode (cod 33) 47 = .ok (.iaload, 1) := by decide +kernel
theorem s33_47 {n : Nat} {I : Nat → Nat → Int32} {R : Nat → Nat → Option Nat} {st : List Value} {l0 l1 l2 l3 l4 l5 : Option Value} {j : Int32} {a : Nat} : EE 33 47 [l0, l1, l2, l3, l4, l5] (.int j :: .ref a :: st) (n, I, R) = (ardI 5 n I a j).bind (fun z => EE 33 48 [l0, l1, l2, l3, l4, l5] (.int z :: st) (n, I, R)) := e_iald d33_47
theorem d33_48 : decode (cod 33) 48 = .ok (.aload_n 2, 1) := by decide +kernel
theorem s33_48 {M : Mm} {st : List Value} {l0 l1 l3 l4 l5 : Option Value} {x : Nat} : EE 33 48 [l0, l1, some (.ref x), l3, l4, l5] st M = EE 33 49 [l0, l1, some (.ref x), l3, l4, l5] (.ref x :: st) M := e_ld d33_48 rfl rfl rfl rfl rfl rfl
theorem d33_49 : decode (cod 33) 49 = .ok (.iload 5, 2) := by decide +kernel
theorem s33_49 {M : Mm} {st : List Value} {l0 l1 l2 l3 l4 : Option Value} {x : Int32} : EE 33 49 [l0, l1, l2, l3, l4, some (.int x)] st M = EE 33 51 [l0, l1, l2, l3, l4, some (.int x)] (.int x :: st) M := e_ld d33_49 rfl rfl rfl rfl rfl rfl
theorem d33_51 : decode (cod 33) 51 = .ok (.iaload, 1) := by decide +kernel
theorem s33_51 {n : Nat} {I : Nat → Nat → Int32} {R : Nat → Nat → Option Nat} {st : List Value} {l0 l1 l2 l3 l4 l5 : Option Value} {j : Int32} {a : Nat} : EE 33 51 [l0, l1, l2, l3, l4, l5] (.int j :: .ref a :: st) (n, I, R) = (ardI 5 n I a j).bind (fun z => EE 33 52 [l0, l1, l2, l3, l4, l5] (.int z :: st) (n, I, R)) := e_iald d33_51
theorem d33_52 : decode (cod 33) 52 = .ok (.isub, 1) := by decide +kernel
theorem s33_52 {M : Mm} {st : List Value} {l0 l1 l2 l3 l4 l5 : Option Value} {x y : Int32} : EE 33 52 [l0, l1, l2, l3, l4, l5] (.int y :: .int x :: st) M = EE 33 53 [l0, l1, l2, l3, l4, l5] (.int (x - y) :: st) M := e_II d33_52 rfl rfl rfl rfl rfl rfl
theorem d33_53 : decode (cod 33) 53 = .ok (.istore 4, 2) := by decide +kernel
theorem s33_53 {M : Mm} {st : List Value} {l0 l1 l2 l3 l4 l5 : Option Value} {x : Int32} : EE 33 53 [l0, l1, l2, l3, l4, l5] (.int x :: st) M = EE 33 55 [l0, l1, l2, cln l3, some (.int x), l5] st M := e_st1 d33_53 rfl rfl rfl rfl rfl rfl rfl (Nat.le_of_ble_eq_true rfl) rfl
theorem d33_55 : decode (cod 33) 55 = .ok (.iinc 5 1, 3) := by decide +kernel
theorem s33_55 {M : Mm} {st : List Value} {l0 l1 l2 l3 l4 : Option Value} {x : Int32} : EE 33 55 [l0, l1, l2, l3, l4, some (.int x)] st M = EE 33 58 [l0, l1, l2, l3, cln l4, some (.int (x + nI 1))] st M := e_iinc d33_55 rfl (congrArg (fun z => x + z) k_inc_1) rfl
theorem d33_58 : decode (cod 33) 58 = .ok (.goto (-49), 3) := by decide +kernel
theorem s33_58 {M : Mm} {st : List Value} {l0 l1 l2 l3 l4 l5 : Option Value} : EE 33 58 [l0, l1, l2, l3, l4, l5] st M = EE 33 9 [l0, l1, l2, l3, l4, l5] st M := e_goto d33_58 (by decide)
theorem d33_61 : decode (cod 33) 61 = .ok (.iload_n 3, 1) := by decide +kernel
theorem s33_61 {M : Mm} {st : List Value} {l0 l1 l2 l4 l5 : Option Value} {x : Int32} : EE 33 61 [l0, l1, l2, some (.int x), l4, l5] st M = EE 33 62 [l0, l1, l2, some (.int x), l4, l5] (.int x :: st) M := e_ld d33_61 rfl rfl rfl rfl rfl rfl
theorem d33_62 : decode (cod 33) 62 = .ok (.ireturn, 1) := by decide +kernel
theorem s33_62 {M : Mm} {l0 l1 l2 l3 l4 l5 : Option Value} {v : Int32} : EE 33 62 [l0, l1, l2, l3, l4, l5] [.int v] M = some (some (.int v), M) := e_iret d33_62 rfl rfl
theorem FE33 {a : Nat} {b0 : Nat} {b1 : Nat} {M : Mm} : FF 33 [.ref a, .ref b0, .ref b1] M = EE 33 0 [some (.ref a), some (.ref b0), some (.ref b1), none, none, none] [] M := FF_eq 33 _ _ (Nat.le_of_ble_eq_true rfl)
theorem d34_0 : decode (cod 34) 0 = .ok (.iconst 0, 1) := by decide +kernel
theorem s34_0 {M : Mm} {st : List Value} {l0 l1 l2 : Option Value} : EE 34 0 [l0, l1, l2] st M = EE 34 1 [l0, l1, l2] (.int (nI 0) :: st) M := e_con d34_0 k_con_0
theorem d34_1 : decode (cod 34) 1 = .ok (.istore_n 2, 1) := by decide +kernel
theorem s34_1 {M : Mm} {st : List Value} {l0 l1 l2 : Option Value} {x : Int32} : EE 34 1 [l0, l1, l2] (.int x :: st) M = EE 34 2 [l0, cln l1, some (.int x)] st M := e_st1 d34_1 rfl rfl rfl rfl rfl rfl rfl (Nat.le_of_ble_eq_true rfl) rfl
theorem d34_2 : decode (cod 34) 2 = .ok (.iload_n 2, 1) := by decide +kernel
theorem s34_2 {M : Mm} {st : List Value} {l0 l1 : Option Value} {x : Int32} : EE 34 2 [l0, l1, some (.int x)] st M = EE 34 3 [l0, l1, some (.int x)] (.int x :: st) M := e_ld d34_2 rfl rfl rfl rfl rfl rfl
theorem d34_3 : decode (cod 34) 3 = .ok (.bipush 10, 2) := by decide +kernel
theorem s34_3 {M : Mm} {st : List Value} {l0 l1 l2 : Option Value} : EE 34 3 [l0, l1, l2] st M = EE 34 5 [l0, l1, l2] (.int (nI 10) :: st) M := e_bip d34_3 k_bip_10
theorem d34_5 : decode (cod 34) 5 = .ok (.if_icmp .ge 31, 3) := by decide +kernel
theorem s34_5 {M : Mm} {st : List Value} {l0 l1 l2 : Option Value} {x y : Int32} : EE 34 5 [l0, l1, l2] (.int y :: .int x :: st) M = if y ≤ x then EE 34 36 [l0, l1, l2] st M else EE 34 8 [l0, l1, l2] st M := e_cge d34_5 (by decide)
theorem d34_8 : decode (cod 34) 8 = .ok (.aload_n 1, 1) := by decide +kernel
theorem s34_8 {M : Mm} {st : List Value} {l0 l2 : Option Value} {x : Nat} : EE 34 8 [l0, some (.ref x), l2] st M = EE 34 9 [l0, some (.ref x), l2] (.ref x :: st) M := e_ld d34_8 rfl rfl rfl rfl rfl rfl
theorem d34_9 : decode (cod 34) 9 = .ok (.iload_n 2, 1) := by decide +kernel
theorem s34_9 {M : Mm} {st : List Value} {l0 l1 : Option Value} {x : Int32} : EE 34 9 [l0, l1, some (.int x)] st M = EE 34 10 [l0, l1, some (.int x)] (.int x :: st) M := e_ld d34_9 rfl rfl rfl rfl rfl rfl
theorem d34_10 : decode (cod 34) 10 = .ok (.dup2, 1) := by decide +kernel
theorem s34_10 {M : Mm} {st : List Value} {l0 l1 l2 : Option Value} {x : Int32} {y : Nat} : EE 34 10 [l0, l1, l2] (.int x :: .ref y :: st) M = EE 34 11 [l0, l1, l2] (.int x :: .ref y :: .int x :: .ref y :: st) M := e_dup2 d34_10 rfl rfl
theorem d34_11 : decode (cod 34) 11 = .ok (.iaload, 1) := by decide +kernel
theorem s34_11 {n : Nat} {I : Nat → Nat → Int32} {R : Nat → Nat → Option Nat} {st : List Value} {l0 l1 l2 : Option Value} {j : Int32} {a : Nat} : EE 34 11 [l0, l1, l2] (.int j :: .ref a :: st) (n, I, R) = (ardI 5 n I a j).bind (fun z => EE 34 12 [l0, l1, l2] (.int z :: st) (n, I, R)) := e_iald d34_11
theorem d34_12 : decode (cod 34) 12 = .ok (.aload_n 1, 1) := by decide +kernel
theorem s34_12 {M : Mm} {st : List Value} {l0 l2 : Option Value} {x : Nat} : EE 34 12 [l0, some (.ref x), l2] st M = EE 34 13 [l0, some (.ref x), l2] (.ref x :: st) M := e_ld d34_12 rfl rfl rfl rfl rfl rfl
theorem d34_13 : decode (cod 34) 13 = .ok (.iload_n 2, 1) := by decide +kernel
theorem s34_13 {M : Mm} {st : List Value} {l0 l1 : Option Value} {x : Int32} : EE 34 13 [l0, l1, some (.int x)] st M = EE 34 14 [l0, l1, some (.int x)] (.int x :: st) M := e_ld d34_13 rfl rfl rfl rfl rfl rfl
theorem d34_14 : decode (cod 34) 14 = .ok (.iaload, 1) := by decide +kernel
theorem s34_14 {n : Nat} {I : Nat → Nat → Int32} {R : Nat → Nat → Option Nat} {st : List Value} {l0 l1 l2 : Option Value} {j : Int32} {a : Nat} : EE 34 14 [l0, l1, l2] (.int j :: .ref a :: st) (n, I, R) = (ardI 5 n I a j).bind (fun z => EE 34 15 [l0, l1, l2] (.int z :: st) (n, I, R)) := e_iald d34_14
theorem d34_15 : decode (cod 34) 15 = .ok (.aload_n 0, 1) := by decide +kernel
theorem s34_15 {M : Mm} {st : List Value} {l1 l2 : Option Value} {x : Nat} : EE 34 15 [some (.ref x), l1, l2] st M = EE 34 16 [some (.ref x), l1, l2] (.ref x :: st) M := e_ld d34_15 rfl rfl rfl rfl rfl rfl
theorem d34_16 : decode (cod 34) 16 = .ok (.getfield 9, 3) := by decide +kernel
theorem s34_16 {n : Nat} {I : Nat → Nat → Int32} {R : Nat → Nat → Option Nat} {st : List Value} {l0 l1 l2 : Option Value} {a : Nat} : EE 34 16 [l0, l1, l2] (.ref a :: st) (n, I, R) = (gfI n I R 1 0 a).bind (fun z => EE 34 19 [l0, l1, l2] (z :: st) (n, I, R)) := e_getf d34_16 f1_9 rfl rfl
theorem d34_19 : decode (cod 34) 19 = .ok (.iconst 2, 1) := by decide +kernel
theorem s34_19 {M : Mm} {st : List Value} {l0 l1 l2 : Option Value} : EE 34 19 [l0, l1, l2] st M = EE 34 20 [l0, l1, l2] (.int (nI 2) :: st) M := e_con d34_19 k_con_2
theorem d34_20 : decode (cod 34) 20 = .ok (.iaload, 1) := by decide +kernel
theorem s34_20 {n : Nat} {I : Nat → Nat → Int32} {R : Nat → Nat → Option Nat} {st : List Value} {l0 l1 l2 : Option Value} {j : Int32} {a : Nat} : EE 34 20 [l0, l1, l2] (.int j :: .ref a :: st) (n, I, R) = (ardI 5 n I a j).bind (fun z => EE 34 21 [l0, l1, l2] (.int z :: st) (n, I, R)) := e_iald d34_20
theorem d34_21 : decode (cod 34) 21 = .ok (.imul, 1) := by decide +kernel
theorem s34_21 {M : Mm} {st : List Value} {l0 l1 l2 : Option Value} {x y : Int32} : EE 34 21 [l0, l1, l2] (.int y :: .int x :: st) M = EE 34 22 [l0, l1, l2] (.int (x * y) :: st) M := e_II d34_21 rfl rfl rfl rfl rfl rfl
theorem d34_22 : decode (cod 34) 22 = .ok (.bipush 99, 2) := by decide +kernel
theorem s34_22 {M : Mm} {st : List Value} {l0 l1 l2 : Option Value} : EE 34 22 [l0, l1, l2] st M = EE 34 24 [l0, l1, l2] (.int (nI 99) :: st) M := e_bip d34_22 k_bip_99
theorem d34_24 : decode (cod 34) 24 = .ok (.iadd, 1) := by decide +kernel
theorem s34_24 {M : Mm} {st : List Value} {l0 l1 l2 : Option Value} {x y : Int32} : EE 34 24 [l0, l1, l2] (.int y :: .int x :: st) M = EE 34 25 [l0, l1, l2] (.int (x + y) :: st) M := e_II d34_24 rfl rfl rfl rfl rfl rfl
theorem d34_25 : decode (cod 34) 25 = .ok (.bipush 100, 2) := by decide +kernel
theorem s34_25 {M : Mm} {st : List Value} {l0 l1 l2 : Option Value} : EE 34 25 [l0, l1, l2] st M = EE 34 27 [l0, l1, l2] (.int (nI 100) :: st) M := e_bip d34_25 k_bip_100
theorem d34_27 : decode (cod 34) 27 = .ok (.idiv, 1) := by decide +kernel
theorem s34_27 {M : Mm} {st : List Value} {l0 l1 l2 : Option Value} {x y : Nat} (h1 : x < 2 ^ 31) (h2 : 0 < y) (h3 : y < 2 ^ 31) : EE 34 27 [l0, l1, l2] (.int (nI y) :: .int (nI x) :: st) M = EE 34 28 [l0, l1, l2] (.int (nI (x / y)) :: st) M := e_divN d34_27 h1 h2 h3
theorem d34_28 : decode (cod 34) 28 = .ok (.isub, 1) := by decide +kernel
theorem s34_28 {M : Mm} {st : List Value} {l0 l1 l2 : Option Value} {x y : Int32} : EE 34 28 [l0, l1, l2] (.int y :: .int x :: st) M = EE 34 29 [l0, l1, l2] (.int (x - y) :: st) M := e_II d34_28 rfl rfl rfl rfl rfl rfl
theorem d34_29 : decode (cod 34) 29 = .ok (.iastore, 1) := by decide +kernel
theorem s34_29 {n : Nat} {I : Nat → Nat → Int32} {R : Nat → Nat → Option Nat} {st : List Value} {l0 l1 l2 : Option Value} {j x : Int32} {a : Nat} (h : acI 5 n a j) : EE 34 29 [l0, l1, l2] (.int x :: .int j :: .ref a :: st) (n, I, R) = EE 34 30 [l0, l1, l2] st (n, wI I a j.toNatClampNeg x, R) := e_iast d34_29 h
theorem d34_30 : decode (cod 34) 30 = .ok (.iinc 2 1, 3) := by decide +kernel
theorem s34_30 {M : Mm} {st : List Value} {l0 l1 : Option Value} {x : Int32} : EE 34 30 [l0, l1, some (.int x)] st M = EE 34 33 [l0, cln l1, some (.int (x + nI 1))] st M := e_iinc d34_30 rfl (congrArg (fun z => x + z) k_inc_1) rfl
theorem d34_33 : decode (cod 34) 33 = .ok (.goto (-31), 3) := by decide +kernel
theorem s34_33 {M : Mm} {st : List Value} {l0 l1 l2 : Option Value} : EE 34 33 [l0, l1, l2] st M = EE 34 2 [l0, l1, l2] st M := e_goto d34_33 (by decide)
theorem d34_36 : decode (cod 34) 36 = .ok (.return_, 1) := by decide +kernel
theorem s34_36 {M : Mm} {l0 l1 l2 : Option Value} : EE 34 36 [l0, l1, l2] [] M = some (none, M) := e_vret d34_36 rfl
theorem FE34 {a : Nat} {b0 : Nat} {M : Mm} : FF 34 [.ref a, .ref b0] M = EE 34 0 [some (.ref a), some (.ref b0), none] [] M := FF_eq 34 _ _ (Nat.le_of_ble_eq_true rfl)
theorem d35_0 : decode (cod 35) 0 = .ok (.iconst 0, 1) := by decide +kernel
theorem s35_0 {M : Mm} {st : List Value} {l0 l1 l2 : Option Value} : EE 35 0 [l0, l1, l2] st M = EE 35 1 [l0, l1, l2] (.int (nI 0) :: st) M := e_con d35_0 k_con_0
theorem d35_1 : decode (cod 35) 1 = .ok (.istore_n 2, 1) := by decide +kernel
theorem s35_1 {M : Mm} {st : List Value} {l0 l1 l2 : Option Value} {x : Int32} : EE 35 1 [l0, l1, l2] (.int x :: st) M = EE 35 2 [l0, cln l1, some (.int x)] st M := e_st1 d35_1 rfl rfl rfl rfl rfl rfl rfl (Nat.le_of_ble_eq_true rfl) rfl
theorem d35_2 : decode (cod 35) 2 = .ok (.iload_n 2, 1) := by decide +kernel
theorem s35_2 {M : Mm} {st : List Value} {l0 l1 : Option Value} {x : Int32} : EE 35 2 [l0, l1, some (.int x)] st M = EE 35 3 [l0, l1, some (.int x)] (.int x :: st) M := e_ld d35_2 rfl rfl rfl rfl rfl rfl
theorem d35_3 : decode (cod 35) 3 = .ok (.aload_n 0, 1) := by decide +kernel
theorem s35_3 {M : Mm} {st : List Value} {l1 l2 : Option Value} {x : Nat} : EE 35 3 [some (.ref x), l1, l2] st M = EE 35 4 [some (.ref x), l1, l2] (.ref x :: st) M := e_ld d35_3 rfl rfl rfl rfl rfl rfl
theorem d35_4 : decode (cod 35) 4 = .ok (.getfield 47, 3) := by decide +kernel
theorem s35_4 {n : Nat} {I : Nat → Nat → Int32} {R : Nat → Nat → Option Nat} {st : List Value} {l0 l1 l2 : Option Value} {a : Nat} : EE 35 4 [l0, l1, l2] (.ref a :: st) (n, I, R) = (gfI n I R 1 8 a).bind (fun z => EE 35 7 [l0, l1, l2] (z :: st) (n, I, R)) := e_getf d35_4 f1_47 rfl rfl
theorem d35_7 : decode (cod 35) 7 = .ok (.if_icmp .ge 49, 3) := by decide +kernel
theorem s35_7 {M : Mm} {st : List Value} {l0 l1 l2 : Option Value} {x y : Int32} : EE 35 7 [l0, l1, l2] (.int y :: .int x :: st) M = if y ≤ x then EE 35 56 [l0, l1, l2] st M else EE 35 10 [l0, l1, l2] st M := e_cge d35_7 (by decide)
theorem d35_10 : decode (cod 35) 10 = .ok (.aload_n 0, 1) := by decide +kernel
theorem s35_10 {M : Mm} {st : List Value} {l1 l2 : Option Value} {x : Nat} : EE 35 10 [some (.ref x), l1, l2] st M = EE 35 11 [some (.ref x), l1, l2] (.ref x :: st) M := e_ld d35_10 rfl rfl rfl rfl rfl rfl
theorem d35_11 : decode (cod 35) 11 = .ok (.iload_n 2, 1) := by decide +kernel
theorem s35_11 {M : Mm} {st : List Value} {l0 l1 : Option Value} {x : Int32} : EE 35 11 [l0, l1, some (.int x)] st M = EE 35 12 [l0, l1, some (.int x)] (.int x :: st) M := e_ld d35_11 rfl rfl rfl rfl rfl rfl
theorem d35_12 : decode (cod 35) 12 = .ok (.invokevirtual 99, 3) := by decide +kernel
theorem s35_12 {l0 l1 l2 : Option Value} {a : Nat} {M : Mm} {b0 : Int32} {st : List Value} (hl : st.length ≤ 4) (ho : isO "HandoverDesk$State" M.1 a = true) : EE 35 12 [l0, l1, l2] (.int b0 :: .ref a :: st) M = (FF 19 (.ref a :: [.int b0]) M).bind (fun z => EE 35 15 [l0, l1, l2] (psh z.1 st) z.2) := e_calv (av := [.int b0]) d35_12 c1_99 rfl rfl rfl r35_19 rfl hl ho
theorem d35_15 : decode (cod 35) 15 = .ok (.ifCond .eq 35, 3) := by decide +kernel
theorem s35_15 {M : Mm} {st : List Value} {l0 l1 l2 : Option Value} {x : Int32} : EE 35 15 [l0, l1, l2] (.int x :: st) M = if x = 0 then EE 35 50 [l0, l1, l2] st M else EE 35 18 [l0, l1, l2] st M := e_eq0 d35_15 (by decide)
theorem d35_18 : decode (cod 35) 18 = .ok (.aload_n 0, 1) := by decide +kernel
theorem s35_18 {M : Mm} {st : List Value} {l1 l2 : Option Value} {x : Nat} : EE 35 18 [some (.ref x), l1, l2] st M = EE 35 19 [some (.ref x), l1, l2] (.ref x :: st) M := e_ld d35_18 rfl rfl rfl rfl rfl rfl
theorem d35_19 : decode (cod 35) 19 = .ok (.getfield 41, 3) := by decide +kernel
theorem s35_19 {n : Nat} {I : Nat → Nat → Int32} {R : Nat → Nat → Option Nat} {st : List Value} {l0 l1 l2 : Option Value} {a : Nat} : EE 35 19 [l0, l1, l2] (.ref a :: st) (n, I, R) = (gfI n I R 1 6 a).bind (fun z => EE 35 22 [l0, l1, l2] (z :: st) (n, I, R)) := e_getf d35_19 f1_41 rfl rfl
theorem d35_22 : decode (cod 35) 22 = .ok (.iload_n 2, 1) := by decide +kernel
theorem s35_22 {M : Mm} {st : List Value} {l0 l1 : Option Value} {x : Int32} : EE 35 22 [l0, l1, some (.int x)] st M = EE 35 23 [l0, l1, some (.int x)] (.int x :: st) M := e_ld d35_22 rfl rfl rfl rfl rfl rfl
theorem d35_23 : decode (cod 35) 23 = .ok (.dup2, 1) := by decide +kernel
theorem s35_23 {M : Mm} {st : List Value} {l0 l1 l2 : Option Value} {x : Int32} {y : Nat} : EE 35 23 [l0, l1, l2] (.int x :: .ref y :: st) M = EE 35 24 [l0, l1, l2] (.int x :: .ref y :: .int x :: .ref y :: st) M := e_dup2 d35_23 rfl rfl
theorem d35_24 : decode (cod 35) 24 = .ok (.iaload, 1) := by decide +kernel
theorem s35_24 {n : Nat} {I : Nat → Nat → Int32} {R : Nat → Nat → Option Nat} {st : List Value} {l0 l1 l2 : Option Value} {j : Int32} {a : Nat} : EE 35 24 [l0, l1, l2] (.int j :: .ref a :: st) (n, I, R) = (ardI 5 n I a j).bind (fun z => EE 35 25 [l0, l1, l2] (.int z :: st) (n, I, R)) := e_iald d35_24
theorem d35_25 : decode (cod 35) 25 = .ok (.iconst 1, 1) := by decide +kernel
theorem s35_25 {M : Mm} {st : List Value} {l0 l1 l2 : Option Value} : EE 35 25 [l0, l1, l2] st M = EE 35 26 [l0, l1, l2] (.int (nI 1) :: st) M := e_con d35_25 k_con_1
theorem d35_26 : decode (cod 35) 26 = .ok (.iadd, 1) := by decide +kernel
theorem s35_26 {M : Mm} {st : List Value} {l0 l1 l2 : Option Value} {x y : Int32} : EE 35 26 [l0, l1, l2] (.int y :: .int x :: st) M = EE 35 27 [l0, l1, l2] (.int (x + y) :: st) M := e_II d35_26 rfl rfl rfl rfl rfl rfl
theorem d35_27 : decode (cod 35) 27 = .ok (.iastore, 1) := by decide +kernel
theorem s35_27 {n : Nat} {I : Nat → Nat → Int32} {R : Nat → Nat → Option Nat} {st : List Value} {l0 l1 l2 : Option Value} {j x : Int32} {a : Nat} (h : acI 5 n a j) : EE 35 27 [l0, l1, l2] (.int x :: .int j :: .ref a :: st) (n, I, R) = EE 35 28 [l0, l1, l2] st (n, wI I a j.toNatClampNeg x, R) := e_iast d35_27 h
theorem d35_28 : decode (cod 35) 28 = .ok (.aload_n 1, 1) := by decide +kernel
theorem s35_28 {M : Mm} {st : List Value} {l0 l2 : Option Value} {x : Nat} : EE 35 28 [l0, some (.ref x), l2] st M = EE 35 29 [l0, some (.ref x), l2] (.ref x :: st) M := e_ld d35_28 rfl rfl rfl rfl rfl rfl
theorem d35_29 : decode (cod 35) 29 = .ok (.iload_n 2, 1) := by decide +kernel
theorem s35_29 {M : Mm} {st : List Value} {l0 l1 : Option Value} {x : Int32} : EE 35 29 [l0, l1, some (.int x)] st M = EE 35 30 [l0, l1, some (.int x)] (.int x :: st) M := e_ld d35_29 rfl rfl rfl rfl rfl rfl
theorem d35_30 : decode (cod 35) 30 = .ok (.iaload, 1) := by decide +kernel
theorem s35_30 {n : Nat} {I : Nat → Nat → Int32} {R : Nat → Nat → Option Nat} {st : List Value} {l0 l1 l2 : Option Value} {j : Int32} {a : Nat} : EE 35 30 [l0, l1, l2] (.int j :: .ref a :: st) (n, I, R) = (ardI 5 n I a j).bind (fun z => EE 35 31 [l0, l1, l2] (.int z :: st) (n, I, R)) := e_iald d35_30
theorem d35_31 : decode (cod 35) 31 = .ok (.aload_n 0, 1) := by decide +kernel
theorem s35_31 {M : Mm} {st : List Value} {l1 l2 : Option Value} {x : Nat} : EE 35 31 [some (.ref x), l1, l2] st M = EE 35 32 [some (.ref x), l1, l2] (.ref x :: st) M := e_ld d35_31 rfl rfl rfl rfl rfl rfl
theorem d35_32 : decode (cod 35) 32 = .ok (.getfield 9, 3) := by decide +kernel
theorem s35_32 {n : Nat} {I : Nat → Nat → Int32} {R : Nat → Nat → Option Nat} {st : List Value} {l0 l1 l2 : Option Value} {a : Nat} : EE 35 32 [l0, l1, l2] (.ref a :: st) (n, I, R) = (gfI n I R 1 0 a).bind (fun z => EE 35 35 [l0, l1, l2] (z :: st) (n, I, R)) := e_getf d35_32 f1_9 rfl rfl
theorem d35_35 : decode (cod 35) 35 = .ok (.iconst 0, 1) := by decide +kernel
theorem s35_35 {M : Mm} {st : List Value} {l0 l1 l2 : Option Value} : EE 35 35 [l0, l1, l2] st M = EE 35 36 [l0, l1, l2] (.int (nI 0) :: st) M := e_con d35_35 k_con_0
theorem d35_36 : decode (cod 35) 36 = .ok (.iaload, 1) := by decide +kernel
theorem s35_36 {n : Nat} {I : Nat → Nat → Int32} {R : Nat → Nat → Option Nat} {st : List Value} {l0 l1 l2 : Option Value} {j : Int32} {a : Nat} : EE 35 36 [l0, l1, l2] (.int j :: .ref a :: st) (n, I, R) = (ardI 5 n I a j).bind (fun z => EE 35 37 [l0, l1, l2] (.int z :: st) (n, I, R)) := e_iald d35_36
theorem d35_37 : decode (cod 35) 37 = .ok (.if_icmp .lt 13, 3) := by decide +kernel
theorem s35_37 {M : Mm} {st : List Value} {l0 l1 l2 : Option Value} {x y : Int32} : EE 35 37 [l0, l1, l2] (.int y :: .int x :: st) M = if x < y then EE 35 50 [l0, l1, l2] st M else EE 35 40 [l0, l1, l2] st M := e_clt d35_37 (by decide)
theorem d35_40 : decode (cod 35) 40 = .ok (.aload_n 0, 1) := by decide +kernel
theorem s35_40 {M : Mm} {st : List Value} {l1 l2 : Option Value} {x : Nat} : EE 35 40 [some (.ref x), l1, l2] st M = EE 35 41 [some (.ref x), l1, l2] (.ref x :: st) M := e_ld d35_40 rfl rfl rfl rfl rfl rfl
theorem d35_41 : decode (cod 35) 41 = .ok (.getfield 44, 3) := by decide +kernel
theorem s35_41 {n : Nat} {I : Nat → Nat → Int32} {R : Nat → Nat → Option Nat} {st : List Value} {l0 l1 l2 : Option Value} {a : Nat} : EE 35 41 [l0, l1, l2] (.ref a :: st) (n, I, R) = (gfI n I R 1 7 a).bind (fun z => EE 35 44 [l0, l1, l2] (z :: st) (n, I, R)) := e_getf d35_41 f1_44 rfl rfl
theorem d35_44 : decode (cod 35) 44 = .ok (.iload_n 2, 1) := by decide +kernel
theorem s35_44 {M : Mm} {st : List Value} {l0 l1 : Option Value} {x : Int32} : EE 35 44 [l0, l1, some (.int x)] st M = EE 35 45 [l0, l1, some (.int x)] (.int x :: st) M := e_ld d35_44 rfl rfl rfl rfl rfl rfl
theorem d35_45 : decode (cod 35) 45 = .ok (.dup2, 1) := by decide +kernel
theorem s35_45 {M : Mm} {st : List Value} {l0 l1 l2 : Option Value} {x : Int32} {y : Nat} : EE 35 45 [l0, l1, l2] (.int x :: .ref y :: st) M = EE 35 46 [l0, l1, l2] (.int x :: .ref y :: .int x :: .ref y :: st) M := e_dup2 d35_45 rfl rfl
theorem d35_46 : decode (cod 35) 46 = .ok (.iaload, 1) := by decide +kernel
theorem s35_46 {n : Nat} {I : Nat → Nat → Int32} {R : Nat → Nat → Option Nat} {st : List Value} {l0 l1 l2 : Option Value} {j : Int32} {a : Nat} : EE 35 46 [l0, l1, l2] (.int j :: .ref a :: st) (n, I, R) = (ardI 5 n I a j).bind (fun z => EE 35 47 [l0, l1, l2] (.int z :: st) (n, I, R)) := e_iald d35_46
theorem d35_47 : decode (cod 35) 47 = .ok (.iconst 1, 1) := by decide +kernel
theorem s35_47 {M : Mm} {st : List Value} {l0 l1 l2 : Option Value} : EE 35 47 [l0, l1, l2] st M = EE 35 48 [l0, l1, l2] (.int (nI 1) :: st) M := e_con d35_47 k_con_1
theorem d35_48 : decode (cod 35) 48 = .ok (.iadd, 1) := by decide +kernel
theorem s35_48 {M : Mm} {st : List Value} {l0 l1 l2 : Option Value} {x y : Int32} : EE 35 48 [l0, l1, l2] (.int y :: .int x :: st) M = EE 35 49 [l0, l1, l2] (.int (x + y) :: st) M := e_II d35_48 rfl rfl rfl rfl rfl rfl
theorem d35_49 : decode (cod 35) 49 = .ok (.iastore, 1) := by decide +kernel
theorem s35_49 {n : Nat} {I : Nat → Nat → Int32} {R : Nat → Nat → Option Nat} {st : List Value} {l0 l1 l2 : Option Value} {j x : Int32} {a : Nat} (h : acI 5 n a j) : EE 35 49 [l0, l1, l2] (.int x :: .int j :: .ref a :: st) (n, I, R) = EE 35 50 [l0, l1, l2] st (n, wI I a j.toNatClampNeg x, R) := e_iast d35_49 h
theorem d35_50 : decode (cod 35) 50 = .ok (.iinc 2 1, 3) := by decide +kernel
theorem s35_50 {M : Mm} {st : List Value} {l0 l1 : Option Value} {x : Int32} : EE 35 50 [l0, l1, some (.int x)] st M = EE 35 53 [l0, cln l1, some (.int (x + nI 1))] st M := e_iinc d35_50 rfl (congrArg (fun z => x + z) k_inc_1) rfl
theorem d35_53 : decode (cod 35) 53 = .ok (.goto (-51), 3) := by decide +kernel
theorem s35_53 {M : Mm} {st : List Value} {l0 l1 l2 : Option Value} : EE 35 53 [l0, l1, l2] st M = EE 35 2 [l0, l1, l2] st M := e_goto d35_53 (by decide)
theorem d35_56 : decode (cod 35) 56 = .ok (.return_, 1) := by decide +kernel
theorem s35_56 {M : Mm} {l0 l1 l2 : Option Value} : EE 35 56 [l0, l1, l2] [] M = some (none, M) := e_vret d35_56 rfl
theorem FE35 {a : Nat} {b0 : Nat} {M : Mm} : FF 35 [.ref a, .ref b0] M = EE 35 0 [some (.ref a), some (.ref b0), none] [] M := FF_eq 35 _ _ (Nat.le_of_ble_eq_true rfl)
theorem d36_0 : decode (cod 36) 0 = .ok (.iconst 0, 1) := by decide +kernel
theorem s36_0 {M : Mm} {st : List Value} {l0 l1 l2 l3 l4 : Option Value} : EE 36 0 [l0, l1, l2, l3, l4] st M = EE 36 1 [l0, l1, l2, l3, l4] (.int (nI 0) :: st) M := e_con d36_0 k_con_0
theorem d36_1 : decode (cod 36) 1 = .ok (.istore_n 2, 1) := by decide +kernel
theorem s36_1 {M : Mm} {st : List Value} {l0 l1 l2 l3 l4 : Option Value} {x : Int32} : EE 36 1 [l0, l1, l2, l3, l4] (.int x :: st) M = EE 36 2 [l0, cln l1, some (.int x), l3, l4] st M := e_st1 d36_1 rfl rfl rfl rfl rfl rfl rfl (Nat.le_of_ble_eq_true rfl) rfl
theorem d36_2 : decode (cod 36) 2 = .ok (.iconst 0, 1) := by decide +kernel
theorem s36_2 {M : Mm} {st : List Value} {l0 l1 l2 l3 l4 : Option Value} : EE 36 2 [l0, l1, l2, l3, l4] st M = EE 36 3 [l0, l1, l2, l3, l4] (.int (nI 0) :: st) M := e_con d36_2 k_con_0
theorem d36_3 : decode (cod 36) 3 = .ok (.istore_n 3, 1) := by decide +kernel
theorem s36_3 {M : Mm} {st : List Value} {l0 l1 l2 l3 l4 : Option Value} {x : Int32} : EE 36 3 [l0, l1, l2, l3, l4] (.int x :: st) M = EE 36 4 [l0, l1, cln l2, some (.int x), l4] st M := e_st1 d36_3 rfl rfl rfl rfl rfl rfl rfl (Nat.le_of_ble_eq_true rfl) rfl
theorem d36_4 : decode (cod 36) 4 = .ok (.iload_n 3, 1) := by decide +kernel
theorem s36_4 {M : Mm} {st : List Value} {l0 l1 l2 l4 : Option Value} {x : Int32} : EE 36 4 [l0, l1, l2, some (.int x), l4] st M = EE 36 5 [l0, l1, l2, some (.int x), l4] (.int x :: st) M := e_ld d36_4 rfl rfl rfl rfl rfl rfl
theorem d36_5 : decode (cod 36) 5 = .ok (.aload_n 0, 1) := by decide +kernel
theorem s36_5 {M : Mm} {st : List Value} {l1 l2 l3 l4 : Option Value} {x : Nat} : EE 36 5 [some (.ref x), l1, l2, l3, l4] st M = EE 36 6 [some (.ref x), l1, l2, l3, l4] (.ref x :: st) M := e_ld d36_5 rfl rfl rfl rfl rfl rfl
theorem d36_6 : decode (cod 36) 6 = .ok (.getfield 54, 3) := by decide +kernel
theorem s36_6 {n : Nat} {I : Nat → Nat → Int32} {R : Nat → Nat → Option Nat} {st : List Value} {l0 l1 l2 l3 l4 : Option Value} {a : Nat} : EE 36 6 [l0, l1, l2, l3, l4] (.ref a :: st) (n, I, R) = (gfI n I R 1 10 a).bind (fun z => EE 36 9 [l0, l1, l2, l3, l4] (z :: st) (n, I, R)) := e_getf d36_6 f1_54 rfl rfl
theorem d36_9 : decode (cod 36) 9 = .ok (.if_icmp .ge 53, 3) := by decide +kernel
theorem s36_9 {M : Mm} {st : List Value} {l0 l1 l2 l3 l4 : Option Value} {x y : Int32} : EE 36 9 [l0, l1, l2, l3, l4] (.int y :: .int x :: st) M = if y ≤ x then EE 36 62 [l0, l1, l2, l3, l4] st M else EE 36 12 [l0, l1, l2, l3, l4] st M := e_cge d36_9 (by decide)
theorem d36_12 : decode (cod 36) 12 = .ok (.aload_n 0, 1) := by decide +kernel
theorem s36_12 {M : Mm} {st : List Value} {l1 l2 l3 l4 : Option Value} {x : Nat} : EE 36 12 [some (.ref x), l1, l2, l3, l4] st M = EE 36 13 [some (.ref x), l1, l2, l3, l4] (.ref x :: st) M := e_ld d36_12 rfl rfl rfl rfl rfl rfl
theorem d36_13 : decode (cod 36) 13 = .ok (.getfield 35, 3) := by decide +kernel
theorem s36_13 {n : Nat} {I : Nat → Nat → Int32} {R : Nat → Nat → Option Nat} {st : List Value} {l0 l1 l2 l3 l4 : Option Value} {a : Nat} : EE 36 13 [l0, l1, l2, l3, l4] (.ref a :: st) (n, I, R) = (gfI n I R 1 4 a).bind (fun z => EE 36 16 [l0, l1, l2, l3, l4] (z :: st) (n, I, R)) := e_getf d36_13 f1_35 rfl rfl
theorem d36_16 : decode (cod 36) 16 = .ok (.iload_n 3, 1) := by decide +kernel
theorem s36_16 {M : Mm} {st : List Value} {l0 l1 l2 l4 : Option Value} {x : Int32} : EE 36 16 [l0, l1, l2, some (.int x), l4] st M = EE 36 17 [l0, l1, l2, some (.int x), l4] (.int x :: st) M := e_ld d36_16 rfl rfl rfl rfl rfl rfl
theorem d36_17 : decode (cod 36) 17 = .ok (.iaload, 1) := by decide +kernel
theorem s36_17 {n : Nat} {I : Nat → Nat → Int32} {R : Nat → Nat → Option Nat} {st : List Value} {l0 l1 l2 l3 l4 : Option Value} {j : Int32} {a : Nat} : EE 36 17 [l0, l1, l2, l3, l4] (.int j :: .ref a :: st) (n, I, R) = (ardI 5 n I a j).bind (fun z => EE 36 18 [l0, l1, l2, l3, l4] (.int z :: st) (n, I, R)) := e_iald d36_17
theorem d36_18 : decode (cod 36) 18 = .ok (.istore 4, 2) := by decide +kernel
theorem s36_18 {M : Mm} {st : List Value} {l0 l1 l2 l3 l4 : Option Value} {x : Int32} : EE 36 18 [l0, l1, l2, l3, l4] (.int x :: st) M = EE 36 20 [l0, l1, l2, cln l3, some (.int x)] st M := e_st1 d36_18 rfl rfl rfl rfl rfl rfl rfl (Nat.le_of_ble_eq_true rfl) rfl
theorem d36_20 : decode (cod 36) 20 = .ok (.aload_n 0, 1) := by decide +kernel
theorem s36_20 {M : Mm} {st : List Value} {l1 l2 l3 l4 : Option Value} {x : Nat} : EE 36 20 [some (.ref x), l1, l2, l3, l4] st M = EE 36 21 [some (.ref x), l1, l2, l3, l4] (.ref x :: st) M := e_ld d36_20 rfl rfl rfl rfl rfl rfl
theorem d36_21 : decode (cod 36) 21 = .ok (.iload 4, 2) := by decide +kernel
theorem s36_21 {M : Mm} {st : List Value} {l0 l1 l2 l3 : Option Value} {x : Int32} : EE 36 21 [l0, l1, l2, l3, some (.int x)] st M = EE 36 23 [l0, l1, l2, l3, some (.int x)] (.int x :: st) M := e_ld d36_21 rfl rfl rfl rfl rfl rfl
theorem d36_23 : decode (cod 36) 23 = .ok (.invokevirtual 99, 3) := by decide +kernel
theorem s36_23 {l0 l1 l2 l3 l4 : Option Value} {a : Nat} {M : Mm} {b0 : Int32} {st : List Value} (hl : st.length ≤ 4) (ho : isO "HandoverDesk$State" M.1 a = true) : EE 36 23 [l0, l1, l2, l3, l4] (.int b0 :: .ref a :: st) M = (FF 19 (.ref a :: [.int b0]) M).bind (fun z => EE 36 26 [l0, l1, l2, l3, l4] (psh z.1 st) z.2) := e_calv (av := [.int b0]) d36_23 c1_99 rfl rfl rfl r36_19 rfl hl ho
theorem d36_26 : decode (cod 36) 26 = .ok (.ifCond .eq 30, 3) := by decide +kernel
theorem s36_26 {M : Mm} {st : List Value} {l0 l1 l2 l3 l4 : Option Value} {x : Int32} : EE 36 26 [l0, l1, l2, l3, l4] (.int x :: st) M = if x = 0 then EE 36 56 [l0, l1, l2, l3, l4] st M else EE 36 29 [l0, l1, l2, l3, l4] st M := e_eq0 d36_26 (by decide)
theorem d36_29 : decode (cod 36) 29 = .ok (.aload_n 1, 1) := by decide +kernel
theorem s36_29 {M : Mm} {st : List Value} {l0 l2 l3 l4 : Option Value} {x : Nat} : EE 36 29 [l0, some (.ref x), l2, l3, l4] st M = EE 36 30 [l0, some (.ref x), l2, l3, l4] (.ref x :: st) M := e_ld d36_29 rfl rfl rfl rfl rfl rfl
theorem d36_30 : decode (cod 36) 30 = .ok (.iload 4, 2) := by decide +kernel
theorem s36_30 {M : Mm} {st : List Value} {l0 l1 l2 l3 : Option Value} {x : Int32} : EE 36 30 [l0, l1, l2, l3, some (.int x)] st M = EE 36 32 [l0, l1, l2, l3, some (.int x)] (.int x :: st) M := e_ld d36_30 rfl rfl rfl rfl rfl rfl
theorem d36_32 : decode (cod 36) 32 = .ok (.iaload, 1) := by decide +kernel
theorem s36_32 {n : Nat} {I : Nat → Nat → Int32} {R : Nat → Nat → Option Nat} {st : List Value} {l0 l1 l2 l3 l4 : Option Value} {j : Int32} {a : Nat} : EE 36 32 [l0, l1, l2, l3, l4] (.int j :: .ref a :: st) (n, I, R) = (ardI 5 n I a j).bind (fun z => EE 36 33 [l0, l1, l2, l3, l4] (.int z :: st) (n, I, R)) := e_iald d36_32
theorem d36_33 : decode (cod 36) 33 = .ok (.aload_n 0, 1) := by decide +kernel
theorem s36_33 {M : Mm} {st : List Value} {l1 l2 l3 l4 : Option Value} {x : Nat} : EE 36 33 [some (.ref x), l1, l2, l3, l4] st M = EE 36 34 [some (.ref x), l1, l2, l3, l4] (.ref x :: st) M := e_ld d36_33 rfl rfl rfl rfl rfl rfl
theorem d36_34 : decode (cod 36) 34 = .ok (.getfield 9, 3) := by decide +kernel
theorem s36_34 {n : Nat} {I : Nat → Nat → Int32} {R : Nat → Nat → Option Nat} {st : List Value} {l0 l1 l2 l3 l4 : Option Value} {a : Nat} : EE 36 34 [l0, l1, l2, l3, l4] (.ref a :: st) (n, I, R) = (gfI n I R 1 0 a).bind (fun z => EE 36 37 [l0, l1, l2, l3, l4] (z :: st) (n, I, R)) := e_getf d36_34 f1_9 rfl rfl
theorem d36_37 : decode (cod 36) 37 = .ok (.iconst 0, 1) := by decide +kernel
theorem s36_37 {M : Mm} {st : List Value} {l0 l1 l2 l3 l4 : Option Value} : EE 36 37 [l0, l1, l2, l3, l4] st M = EE 36 38 [l0, l1, l2, l3, l4] (.int (nI 0) :: st) M := e_con d36_37 k_con_0
theorem d36_38 : decode (cod 36) 38 = .ok (.iaload, 1) := by decide +kernel
theorem s36_38 {n : Nat} {I : Nat → Nat → Int32} {R : Nat → Nat → Option Nat} {st : List Value} {l0 l1 l2 l3 l4 : Option Value} {j : Int32} {a : Nat} : EE 36 38 [l0, l1, l2, l3, l4] (.int j :: .ref a :: st) (n, I, R) = (ardI 5 n I a j).bind (fun z => EE 36 39 [l0, l1, l2, l3, l4] (.int z :: st) (n, I, R)) := e_iald d36_38
theorem d36_39 : decode (cod 36) 39 = .ok (.if_icmp .ge 17, 3) := by decide +kernel
theorem s36_39 {M : Mm} {st : List Value} {l0 l1 l2 l3 l4 : Option Value} {x y : Int32} : EE 36 39 [l0, l1, l2, l3, l4] (.int y :: .int x :: st) M = if y ≤ x then EE 36 56 [l0, l1, l2, l3, l4] st M else EE 36 42 [l0, l1, l2, l3, l4] st M := e_cge d36_39 (by decide)
theorem d36_42 : decode (cod 36) 42 = .ok (.aload_n 0, 1) := by decide +kernel
theorem s36_42 {M : Mm} {st : List Value} {l1 l2 l3 l4 : Option Value} {x : Nat} : EE 36 42 [some (.ref x), l1, l2, l3, l4] st M = EE 36 43 [some (.ref x), l1, l2, l3, l4] (.ref x :: st) M := e_ld d36_42 rfl rfl rfl rfl rfl rfl
theorem d36_43 : decode (cod 36) 43 = .ok (.getfield 38, 3) := by decide +kernel
theorem s36_43 {n : Nat} {I : Nat → Nat → Int32} {R : Nat → Nat → Option Nat} {st : List Value} {l0 l1 l2 l3 l4 : Option Value} {a : Nat} : EE 36 43 [l0, l1, l2, l3, l4] (.ref a :: st) (n, I, R) = (gfI n I R 1 5 a).bind (fun z => EE 36 46 [l0, l1, l2, l3, l4] (z :: st) (n, I, R)) := e_getf d36_43 f1_38 rfl rfl
theorem d36_46 : decode (cod 36) 46 = .ok (.iload 4, 2) := by decide +kernel
theorem s36_46 {M : Mm} {st : List Value} {l0 l1 l2 l3 : Option Value} {x : Int32} : EE 36 46 [l0, l1, l2, l3, some (.int x)] st M = EE 36 48 [l0, l1, l2, l3, some (.int x)] (.int x :: st) M := e_ld d36_46 rfl rfl rfl rfl rfl rfl
theorem d36_48 : decode (cod 36) 48 = .ok (.dup2, 1) := by decide +kernel
theorem s36_48 {M : Mm} {st : List Value} {l0 l1 l2 l3 l4 : Option Value} {x : Int32} {y : Nat} : EE 36 48 [l0, l1, l2, l3, l4] (.int x :: .ref y :: st) M = EE 36 49 [l0, l1, l2, l3, l4] (.int x :: .ref y :: .int x :: .ref y :: st) M := e_dup2 d36_48 rfl rfl
theorem d36_49 : decode (cod 36) 49 = .ok (.iaload, 1) := by decide +kernel
theorem s36_49 {n : Nat} {I : Nat → Nat → Int32} {R : Nat → Nat → Option Nat} {st : List Value} {l0 l1 l2 l3 l4 : Option Value} {j : Int32} {a : Nat} : EE 36 49 [l0, l1, l2, l3, l4] (.int j :: .ref a :: st) (n, I, R) = (ardI 5 n I a j).bind (fun z => EE 36 50 [l0, l1, l2, l3, l4] (.int z :: st) (n, I, R)) := e_iald d36_49
theorem d36_50 : decode (cod 36) 50 = .ok (.iconst 1, 1) := by decide +kernel
theorem s36_50 {M : Mm} {st : List Value} {l0 l1 l2 l3 l4 : Option Value} : EE 36 50 [l0, l1, l2, l3, l4] st M = EE 36 51 [l0, l1, l2, l3, l4] (.int (nI 1) :: st) M := e_con d36_50 k_con_1
theorem d36_51 : decode (cod 36) 51 = .ok (.iadd, 1) := by decide +kernel
theorem s36_51 {M : Mm} {st : List Value} {l0 l1 l2 l3 l4 : Option Value} {x y : Int32} : EE 36 51 [l0, l1, l2, l3, l4] (.int y :: .int x :: st) M = EE 36 52 [l0, l1, l2, l3, l4] (.int (x + y) :: st) M := e_II d36_51 rfl rfl rfl rfl rfl rfl
theorem d36_52 : decode (cod 36) 52 = .ok (.iastore, 1) := by decide +kernel
theorem s36_52 {n : Nat} {I : Nat → Nat → Int32} {R : Nat → Nat → Option Nat} {st : List Value} {l0 l1 l2 l3 l4 : Option Value} {j x : Int32} {a : Nat} (h : acI 5 n a j) : EE 36 52 [l0, l1, l2, l3, l4] (.int x :: .int j :: .ref a :: st) (n, I, R) = EE 36 53 [l0, l1, l2, l3, l4] st (n, wI I a j.toNatClampNeg x, R) := e_iast d36_52 h
theorem d36_53 : decode (cod 36) 53 = .ok (.iinc 2 1, 3) := by decide +kernel
theorem s36_53 {M : Mm} {st : List Value} {l0 l1 l3 l4 : Option Value} {x : Int32} : EE 36 53 [l0, l1, some (.int x), l3, l4] st M = EE 36 56 [l0, cln l1, some (.int (x + nI 1)), l3, l4] st M := e_iinc d36_53 rfl (congrArg (fun z => x + z) k_inc_1) rfl
theorem d36_56 : decode (cod 36) 56 = .ok (.iinc 3 1, 3) := by decide +kernel
theorem s36_56 {M : Mm} {st : List Value} {l0 l1 l2 l4 : Option Value} {x : Int32} : EE 36 56 [l0, l1, l2, some (.int x), l4] st M = EE 36 59 [l0, l1, cln l2, some (.int (x + nI 1)), l4] st M := e_iinc d36_56 rfl (congrArg (fun z => x + z) k_inc_1) rfl
theorem d36_59 : decode (cod 36) 59 = .ok (.goto (-55), 3) := by decide +kernel
theorem s36_59 {M : Mm} {st : List Value} {l0 l1 l2 l3 l4 : Option Value} : EE 36 59 [l0, l1, l2, l3, l4] st M = EE 36 4 [l0, l1, l2, l3, l4] st M := e_goto d36_59 (by decide)
theorem d36_62 : decode (cod 36) 62 = .ok (.aload_n 0, 1) := by decide +kernel
theorem s36_62 {M : Mm} {st : List Value} {l1 l2 l3 l4 : Option Value} {x : Nat} : EE 36 62 [some (.ref x), l1, l2, l3, l4] st M = EE 36 63 [some (.ref x), l1, l2, l3, l4] (.ref x :: st) M := e_ld d36_62 rfl rfl rfl rfl rfl rfl
theorem d36_63 : decode (cod 36) 63 = .ok (.dup, 1) := by decide +kernel
theorem s36_63i {M : Mm} {st : List Value} {l0 l1 l2 l3 l4 : Option Value} {x : Int32} : EE 36 63 [l0, l1, l2, l3, l4] (.int x :: st) M = EE 36 64 [l0, l1, l2, l3, l4] (.int x :: .int x :: st) M := e_dup d36_63 rfl
theorem s36_63r {M : Mm} {st : List Value} {l0 l1 l2 l3 l4 : Option Value} {x : Nat} : EE 36 63 [l0, l1, l2, l3, l4] (.ref x :: st) M = EE 36 64 [l0, l1, l2, l3, l4] (.ref x :: .ref x :: st) M := e_dup d36_63 rfl
theorem d36_64 : decode (cod 36) 64 = .ok (.getfield 60, 3) := by decide +kernel
theorem s36_64 {n : Nat} {I : Nat → Nat → Int32} {R : Nat → Nat → Option Nat} {st : List Value} {l0 l1 l2 l3 l4 : Option Value} {a : Nat} : EE 36 64 [l0, l1, l2, l3, l4] (.ref a :: st) (n, I, R) = (gfI n I R 1 12 a).bind (fun z => EE 36 67 [l0, l1, l2, l3, l4] (z :: st) (n, I, R)) := e_getf d36_64 f1_60 rfl rfl
theorem d36_67 : decode (cod 36) 67 = .ok (.iload_n 2, 1) := by decide +kernel
theorem s36_67 {M : Mm} {st : List Value} {l0 l1 l3 l4 : Option Value} {x : Int32} : EE 36 67 [l0, l1, some (.int x), l3, l4] st M = EE 36 68 [l0, l1, some (.int x), l3, l4] (.int x :: st) M := e_ld d36_67 rfl rfl rfl rfl rfl rfl
theorem d36_68 : decode (cod 36) 68 = .ok (.iadd, 1) := by decide +kernel
theorem s36_68 {M : Mm} {st : List Value} {l0 l1 l2 l3 l4 : Option Value} {x y : Int32} : EE 36 68 [l0, l1, l2, l3, l4] (.int y :: .int x :: st) M = EE 36 69 [l0, l1, l2, l3, l4] (.int (x + y) :: st) M := e_II d36_68 rfl rfl rfl rfl rfl rfl
theorem d36_69 : decode (cod 36) 69 = .ok (.putfield 60, 3) := by decide +kernel
theorem s36_69 {n : Nat} {I : Nat → Nat → Int32} {R : Nat → Nat → Option Nat} {st : List Value} {l0 l1 l2 l3 l4 : Option Value} {a : Nat} {v : Value} : EE 36 69 [l0, l1, l2, l3, l4] (v :: .ref a :: st) (n, I, R) = (pfI n I R 1 12 a v).bind (fun z => EE 36 72 [l0, l1, l2, l3, l4] st (n, z.1, z.2)) := e_putf d36_69 f1_60 rfl rfl (Or.inr rfl)
theorem d36_72 : decode (cod 36) 72 = .ok (.iload_n 2, 1) := by decide +kernel
theorem s36_72 {M : Mm} {st : List Value} {l0 l1 l3 l4 : Option Value} {x : Int32} : EE 36 72 [l0, l1, some (.int x), l3, l4] st M = EE 36 73 [l0, l1, some (.int x), l3, l4] (.int x :: st) M := e_ld d36_72 rfl rfl rfl rfl rfl rfl
theorem d36_73 : decode (cod 36) 73 = .ok (.ireturn, 1) := by decide +kernel
theorem s36_73 {M : Mm} {l0 l1 l2 l3 l4 : Option Value} {v : Int32} : EE 36 73 [l0, l1, l2, l3, l4] [.int v] M = some (some (.int v), M) := e_iret d36_73 rfl rfl
theorem FE36 {a : Nat} {b0 : Nat} {M : Mm} : FF 36 [.ref a, .ref b0] M = EE 36 0 [some (.ref a), some (.ref b0), none, none, none] [] M := FF_eq 36 _ _ (Nat.le_of_ble_eq_true rfl)
theorem d37_0 : decode (cod 37) 0 = .ok (.aload_n 0, 1) := by decide +kernel
theorem s37_0 {M : Mm} {st : List Value} {l1 l2 : Option Value} {x : Nat} : EE 37 0 [some (.ref x), l1, l2] st M = EE 37 1 [some (.ref x), l1, l2] (.ref x :: st) M := e_ld d37_0 rfl rfl rfl rfl rfl rfl
theorem d37_1 : decode (cod 37) 1 = .ok (.aload_n 0, 1) := by decide +kernel
theorem s37_1 {M : Mm} {st : List Value} {l1 l2 : Option Value} {x : Nat} : EE 37 1 [some (.ref x), l1, l2] st M = EE 37 2 [some (.ref x), l1, l2] (.ref x :: st) M := e_ld d37_1 rfl rfl rfl rfl rfl rfl
theorem d37_2 : decode (cod 37) 2 = .ok (.invokevirtual 91, 3) := by decide +kernel
theorem s37_2 {l0 l1 l2 : Option Value} {a : Nat} {M : Mm} {st : List Value} (hl : st.length ≤ 4) (ho : isO "HandoverDesk$State" M.1 a = true) : EE 37 2 [l0, l1, l2] (.ref a :: st) M = (FF 26 (.ref a :: []) M).bind (fun z => EE 37 5 [l0, l1, l2] (psh z.1 st) z.2) := e_calv (av := []) d37_2 c1_91 rfl rfl rfl r37_26 rfl hl ho
theorem d37_5 : decode (cod 37) 5 = .ok (.iload_n 1, 1) := by decide +kernel
theorem s37_5 {M : Mm} {st : List Value} {l0 l2 : Option Value} {x : Int32} : EE 37 5 [l0, some (.int x), l2] st M = EE 37 6 [l0, some (.int x), l2] (.int x :: st) M := e_ld d37_5 rfl rfl rfl rfl rfl rfl
theorem d37_6 : decode (cod 37) 6 = .ok (.invokevirtual 95, 3) := by decide +kernel
theorem s37_6 {l0 l1 l2 : Option Value} {a : Nat} {M : Mm} {b0 : Int32} {b1 : Int32} {st : List Value} (hl : st.length ≤ 4) (ho : isO "HandoverDesk$State" M.1 a = true) : EE 37 6 [l0, l1, l2] (.int b1 :: .int b0 :: .ref a :: st) M = (FF 38 (.ref a :: [.int b0, .int b1]) M).bind (fun z => EE 37 9 [l0, l1, l2] (psh z.1 st) z.2) := e_calv (av := [.int b0, .int b1]) d37_6 c1_95 rfl rfl rfl r37_38 rfl hl ho
theorem d37_9 : decode (cod 37) 9 = .ok (.ifCond .eq 5, 3) := by decide +kernel
theorem s37_9 {M : Mm} {st : List Value} {l0 l1 l2 : Option Value} {x : Int32} : EE 37 9 [l0, l1, l2] (.int x :: st) M = if x = 0 then EE 37 14 [l0, l1, l2] st M else EE 37 12 [l0, l1, l2] st M := e_eq0 d37_9 (by decide)
theorem d37_12 : decode (cod 37) 12 = .ok (.iconst 0, 1) := by decide +kernel
theorem s37_12 {M : Mm} {st : List Value} {l0 l1 l2 : Option Value} : EE 37 12 [l0, l1, l2] st M = EE 37 13 [l0, l1, l2] (.int (nI 0) :: st) M := e_con d37_12 k_con_0
theorem d37_13 : decode (cod 37) 13 = .ok (.ireturn, 1) := by decide +kernel
theorem s37_13 {M : Mm} {l0 l1 l2 : Option Value} {v : Int32} : EE 37 13 [l0, l1, l2] [.int v] M = some (some (.int v), M) := e_iret d37_13 rfl rfl
theorem d37_14 : decode (cod 37) 14 = .ok (.iconst 0, 1) := by decide +kernel
theorem s37_14 {M : Mm} {st : List Value} {l0 l1 l2 : Option Value} : EE 37 14 [l0, l1, l2] st M = EE 37 15 [l0, l1, l2] (.int (nI 0) :: st) M := e_con d37_14 k_con_0
theorem d37_15 : decode (cod 37) 15 = .ok (.istore_n 2, 1) := by decide +kernel
theorem s37_15 {M : Mm} {st : List Value} {l0 l1 l2 : Option Value} {x : Int32} : EE 37 15 [l0, l1, l2] (.int x :: st) M = EE 37 16 [l0, cln l1, some (.int x)] st M := e_st1 d37_15 rfl rfl rfl rfl rfl rfl rfl (Nat.le_of_ble_eq_true rfl) rfl
theorem d37_16 : decode (cod 37) 16 = .ok (.iload_n 2, 1) := by decide +kernel
theorem s37_16 {M : Mm} {st : List Value} {l0 l1 : Option Value} {x : Int32} : EE 37 16 [l0, l1, some (.int x)] st M = EE 37 17 [l0, l1, some (.int x)] (.int x :: st) M := e_ld d37_16 rfl rfl rfl rfl rfl rfl
theorem d37_17 : decode (cod 37) 17 = .ok (.bipush 6, 2) := by decide +kernel
theorem s37_17 {M : Mm} {st : List Value} {l0 l1 l2 : Option Value} : EE 37 17 [l0, l1, l2] st M = EE 37 19 [l0, l1, l2] (.int (nI 6) :: st) M := e_bip d37_17 k_bip_6
theorem d37_19 : decode (cod 37) 19 = .ok (.if_icmp .ge 20, 3) := by decide +kernel
theorem s37_19 {M : Mm} {st : List Value} {l0 l1 l2 : Option Value} {x y : Int32} : EE 37 19 [l0, l1, l2] (.int y :: .int x :: st) M = if y ≤ x then EE 37 39 [l0, l1, l2] st M else EE 37 22 [l0, l1, l2] st M := e_cge d37_19 (by decide)
theorem d37_22 : decode (cod 37) 22 = .ok (.aload_n 0, 1) := by decide +kernel
theorem s37_22 {M : Mm} {st : List Value} {l1 l2 : Option Value} {x : Nat} : EE 37 22 [some (.ref x), l1, l2] st M = EE 37 23 [some (.ref x), l1, l2] (.ref x :: st) M := e_ld d37_22 rfl rfl rfl rfl rfl rfl
theorem d37_23 : decode (cod 37) 23 = .ok (.iload_n 2, 1) := by decide +kernel
theorem s37_23 {M : Mm} {st : List Value} {l0 l1 : Option Value} {x : Int32} : EE 37 23 [l0, l1, some (.int x)] st M = EE 37 24 [l0, l1, some (.int x)] (.int x :: st) M := e_ld d37_23 rfl rfl rfl rfl rfl rfl
theorem d37_24 : decode (cod 37) 24 = .ok (.iload_n 1, 1) := by decide +kernel
theorem s37_24 {M : Mm} {st : List Value} {l0 l2 : Option Value} {x : Int32} : EE 37 24 [l0, some (.int x), l2] st M = EE 37 25 [l0, some (.int x), l2] (.int x :: st) M := e_ld d37_24 rfl rfl rfl rfl rfl rfl
theorem d37_25 : decode (cod 37) 25 = .ok (.invokevirtual 95, 3) := by decide +kernel
theorem s37_25 {l0 l1 l2 : Option Value} {a : Nat} {M : Mm} {b0 : Int32} {b1 : Int32} {st : List Value} (hl : st.length ≤ 4) (ho : isO "HandoverDesk$State" M.1 a = true) : EE 37 25 [l0, l1, l2] (.int b1 :: .int b0 :: .ref a :: st) M = (FF 38 (.ref a :: [.int b0, .int b1]) M).bind (fun z => EE 37 28 [l0, l1, l2] (psh z.1 st) z.2) := e_calv (av := [.int b0, .int b1]) d37_25 c1_95 rfl rfl rfl r37_38 rfl hl ho
theorem d37_28 : decode (cod 37) 28 = .ok (.ifCond .eq 5, 3) := by decide +kernel
theorem s37_28 {M : Mm} {st : List Value} {l0 l1 l2 : Option Value} {x : Int32} : EE 37 28 [l0, l1, l2] (.int x :: st) M = if x = 0 then EE 37 33 [l0, l1, l2] st M else EE 37 31 [l0, l1, l2] st M := e_eq0 d37_28 (by decide)
theorem d37_31 : decode (cod 37) 31 = .ok (.iconst 1, 1) := by decide +kernel
theorem s37_31 {M : Mm} {st : List Value} {l0 l1 l2 : Option Value} : EE 37 31 [l0, l1, l2] st M = EE 37 32 [l0, l1, l2] (.int (nI 1) :: st) M := e_con d37_31 k_con_1
theorem d37_32 : decode (cod 37) 32 = .ok (.ireturn, 1) := by decide +kernel
theorem s37_32 {M : Mm} {l0 l1 l2 : Option Value} {v : Int32} : EE 37 32 [l0, l1, l2] [.int v] M = some (some (.int v), M) := e_iret d37_32 rfl rfl
theorem d37_33 : decode (cod 37) 33 = .ok (.iinc 2 1, 3) := by decide +kernel
theorem s37_33 {M : Mm} {st : List Value} {l0 l1 : Option Value} {x : Int32} : EE 37 33 [l0, l1, some (.int x)] st M = EE 37 36 [l0, cln l1, some (.int (x + nI 1))] st M := e_iinc d37_33 rfl (congrArg (fun z => x + z) k_inc_1) rfl
theorem d37_36 : decode (cod 37) 36 = .ok (.goto (-20), 3) := by decide +kernel
theorem s37_36 {M : Mm} {st : List Value} {l0 l1 l2 : Option Value} : EE 37 36 [l0, l1, l2] st M = EE 37 16 [l0, l1, l2] st M := e_goto d37_36 (by decide)
theorem d37_39 : decode (cod 37) 39 = .ok (.iconst 2, 1) := by decide +kernel
theorem s37_39 {M : Mm} {st : List Value} {l0 l1 l2 : Option Value} : EE 37 39 [l0, l1, l2] st M = EE 37 40 [l0, l1, l2] (.int (nI 2) :: st) M := e_con d37_39 k_con_2
theorem d37_40 : decode (cod 37) 40 = .ok (.ireturn, 1) := by decide +kernel
theorem s37_40 {M : Mm} {l0 l1 l2 : Option Value} {v : Int32} : EE 37 40 [l0, l1, l2] [.int v] M = some (some (.int v), M) := e_iret d37_40 rfl rfl
theorem FE37 {a : Nat} {b0 : Int32} {M : Mm} : FF 37 [.ref a, .int b0] M = EE 37 0 [some (.ref a), some (.int b0), none] [] M := FF_eq 37 _ _ (Nat.le_of_ble_eq_true rfl)
theorem d38_0 : decode (cod 38) 0 = .ok (.aload_n 0, 1) := by decide +kernel
theorem s38_0 {M : Mm} {st : List Value} {l1 l2 : Option Value} {x : Nat} : EE 38 0 [some (.ref x), l1, l2] st M = EE 38 1 [some (.ref x), l1, l2] (.ref x :: st) M := e_ld d38_0 rfl rfl rfl rfl rfl rfl
theorem d38_1 : decode (cod 38) 1 = .ok (.iload_n 1, 1) := by decide +kernel
theorem s38_1 {M : Mm} {st : List Value} {l0 l2 : Option Value} {x : Int32} : EE 38 1 [l0, some (.int x), l2] st M = EE 38 2 [l0, some (.int x), l2] (.int x :: st) M := e_ld d38_1 rfl rfl rfl rfl rfl rfl
theorem d38_2 : decode (cod 38) 2 = .ok (.iload_n 2, 1) := by decide +kernel
theorem s38_2 {M : Mm} {st : List Value} {l0 l1 : Option Value} {x : Int32} : EE 38 2 [l0, l1, some (.int x)] st M = EE 38 3 [l0, l1, some (.int x)] (.int x :: st) M := e_ld d38_2 rfl rfl rfl rfl rfl rfl
theorem d38_3 : decode (cod 38) 3 = .ok (.invokevirtual 88, 3) := by decide +kernel
theorem s38_3 {l0 l1 l2 : Option Value} {a : Nat} {M : Mm} {b0 : Int32} {b1 : Int32} {st : List Value} (hl : st.length ≤ 4) (ho : isO "HandoverDesk$State" M.1 a = true) : EE 38 3 [l0, l1, l2] (.int b1 :: .int b0 :: .ref a :: st) M = (FF 23 (.ref a :: [.int b0, .int b1]) M).bind (fun z => EE 38 6 [l0, l1, l2] (psh z.1 st) z.2) := e_calv (av := [.int b0, .int b1]) d38_3 c1_88 rfl rfl rfl r38_23 rfl hl ho
theorem d38_6 : decode (cod 38) 6 = .ok (.aload_n 0, 1) := by decide +kernel
theorem s38_6 {M : Mm} {st : List Value} {l1 l2 : Option Value} {x : Nat} : EE 38 6 [some (.ref x), l1, l2] st M = EE 38 7 [some (.ref x), l1, l2] (.ref x :: st) M := e_ld d38_6 rfl rfl rfl rfl rfl rfl
theorem d38_7 : decode (cod 38) 7 = .ok (.getfield 9, 3) := by decide +kernel
theorem s38_7 {n : Nat} {I : Nat → Nat → Int32} {R : Nat → Nat → Option Nat} {st : List Value} {l0 l1 l2 : Option Value} {a : Nat} : EE 38 7 [l0, l1, l2] (.ref a :: st) (n, I, R) = (gfI n I R 1 0 a).bind (fun z => EE 38 10 [l0, l1, l2] (z :: st) (n, I, R)) := e_getf d38_7 f1_9 rfl rfl
theorem d38_10 : decode (cod 38) 10 = .ok (.iconst 0, 1) := by decide +kernel
theorem s38_10 {M : Mm} {st : List Value} {l0 l1 l2 : Option Value} : EE 38 10 [l0, l1, l2] st M = EE 38 11 [l0, l1, l2] (.int (nI 0) :: st) M := e_con d38_10 k_con_0
theorem d38_11 : decode (cod 38) 11 = .ok (.iaload, 1) := by decide +kernel
theorem s38_11 {n : Nat} {I : Nat → Nat → Int32} {R : Nat → Nat → Option Nat} {st : List Value} {l0 l1 l2 : Option Value} {j : Int32} {a : Nat} : EE 38 11 [l0, l1, l2] (.int j :: .ref a :: st) (n, I, R) = (ardI 5 n I a j).bind (fun z => EE 38 12 [l0, l1, l2] (.int z :: st) (n, I, R)) := e_iald d38_11
theorem d38_12 : decode (cod 38) 12 = .ok (.if_icmp .lt 7, 3) := by decide +kernel
theorem s38_12 {M : Mm} {st : List Value} {l0 l1 l2 : Option Value} {x y : Int32} : EE 38 12 [l0, l1, l2] (.int y :: .int x :: st) M = if x < y then EE 38 19 [l0, l1, l2] st M else EE 38 15 [l0, l1, l2] st M := e_clt d38_12 (by decide)
theorem d38_15 : decode (cod 38) 15 = .ok (.iconst 1, 1) := by decide +kernel
theorem s38_15 {M : Mm} {st : List Value} {l0 l1 l2 : Option Value} : EE 38 15 [l0, l1, l2] st M = EE 38 16 [l0, l1, l2] (.int (nI 1) :: st) M := e_con d38_15 k_con_1
theorem d38_16 : decode (cod 38) 16 = .ok (.goto 4, 3) := by decide +kernel
theorem s38_16 {M : Mm} {st : List Value} {l0 l1 l2 : Option Value} : EE 38 16 [l0, l1, l2] st M = EE 38 20 [l0, l1, l2] st M := e_goto d38_16 (by decide)
theorem d38_19 : decode (cod 38) 19 = .ok (.iconst 0, 1) := by decide +kernel
theorem s38_19 {M : Mm} {st : List Value} {l0 l1 l2 : Option Value} : EE 38 19 [l0, l1, l2] st M = EE 38 20 [l0, l1, l2] (.int (nI 0) :: st) M := e_con d38_19 k_con_0
theorem d38_20 : decode (cod 38) 20 = .ok (.ireturn, 1) := by decide +kernel
theorem s38_20 {M : Mm} {l0 l1 l2 : Option Value} {v : Int32} (h : narrow .boolean (.int v) = .int v) : EE 38 20 [l0, l1, l2] [.int v] M = some (some (.int v), M) := e_iret d38_20 rfl h
theorem FE38 {a : Nat} {b0 : Int32} {b1 : Int32} {M : Mm} : FF 38 [.ref a, .int b0, .int b1] M = EE 38 0 [some (.ref a), some (.int b0), some (.int b1)] [] M := FF_eq 38 _ _ (Nat.le_of_ble_eq_true rfl)
theorem d39_0 : decode (cod 39) 0 = .ok (.aload_n 0, 1) := by decide +kernel
theorem s39_0 {M : Mm} {st : List Value} {x : Nat} : EE 39 0 [some (.ref x)] st M = EE 39 1 [some (.ref x)] (.ref x :: st) M := e_ld d39_0 rfl rfl rfl rfl rfl rfl
theorem d39_1 : decode (cod 39) 1 = .ok (.getfield 51, 3) := by decide +kernel
theorem s39_1 {n : Nat} {I : Nat → Nat → Int32} {R : Nat → Nat → Option Nat} {st : List Value} {l0 : Option Value} {a : Nat} : EE 39 1 [l0] (.ref a :: st) (n, I, R) = (gfI n I R 1 9 a).bind (fun z => EE 39 4 [l0] (z :: st) (n, I, R)) := e_getf d39_1 f1_51 rfl rfl
theorem d39_4 : decode (cod 39) 4 = .ok (.invokestatic 106, 3) := by decide +kernel
theorem s39_4 {M : Mm} {l0 : Option Value} {b0 : Int32} {st : List Value} (hl : st.length ≤ 4) : EE 39 4 [l0] (.int b0 :: st) M = (FF 154 [.int b0] M).bind (fun z => EE 39 7 [l0] (psh z.1 st) z.2) := e_cals (av := [.int b0]) d39_4 c1_106 (Or.inl rfl) rfl rfl r39_154 rfl hl
theorem d39_7 : decode (cod 39) 7 = .ok (.ireturn, 1) := by decide +kernel
theorem s39_7 {M : Mm} {l0 : Option Value} {v : Int32} : EE 39 7 [l0] [.int v] M = some (some (.int v), M) := e_iret d39_7 rfl rfl
theorem FE39 {a : Nat} {M : Mm} : FF 39 [.ref a] M = EE 39 0 [some (.ref a)] [] M := FF_eq 39 _ _ (Nat.le_of_ble_eq_true rfl)
theorem d40_0 : decode (cod 40) 0 = .ok (.iconst 0, 1) := by decide +kernel
theorem s40_0 {M : Mm} {st : List Value} {l0 l1 l2 l3 : Option Value} : EE 40 0 [l0, l1, l2, l3] st M = EE 40 1 [l0, l1, l2, l3] (.int (nI 0) :: st) M := e_con d40_0 k_con_0
theorem d40_1 : decode (cod 40) 1 = .ok (.istore_n 2, 1) := by decide +kernel
theorem s40_1 {M : Mm} {st : List Value} {l0 l1 l2 l3 : Option Value} {x : Int32} : EE 40 1 [l0, l1, l2, l3] (.int x :: st) M = EE 40 2 [l0, cln l1, some (.int x), l3] st M := e_st1 d40_1 rfl rfl rfl rfl rfl rfl rfl (Nat.le_of_ble_eq_true rfl) rfl
theorem d40_2 : decode (cod 40) 2 = .ok (.iconst 0, 1) := by decide +kernel
theorem s40_2 {M : Mm} {st : List Value} {l0 l1 l2 l3 : Option Value} : EE 40 2 [l0, l1, l2, l3] st M = EE 40 3 [l0, l1, l2, l3] (.int (nI 0) :: st) M := e_con d40_2 k_con_0
theorem d40_3 : decode (cod 40) 3 = .ok (.istore_n 3, 1) := by decide +kernel
theorem s40_3 {M : Mm} {st : List Value} {l0 l1 l2 l3 : Option Value} {x : Int32} : EE 40 3 [l0, l1, l2, l3] (.int x :: st) M = EE 40 4 [l0, l1, cln l2, some (.int x)] st M := e_st1 d40_3 rfl rfl rfl rfl rfl rfl rfl (Nat.le_of_ble_eq_true rfl) rfl
theorem d40_4 : decode (cod 40) 4 = .ok (.iload_n 3, 1) := by decide +kernel
theorem s40_4 {M : Mm} {st : List Value} {l0 l1 l2 : Option Value} {x : Int32} : EE 40 4 [l0, l1, l2, some (.int x)] st M = EE 40 5 [l0, l1, l2, some (.int x)] (.int x :: st) M := e_ld d40_4 rfl rfl rfl rfl rfl rfl
theorem d40_5 : decode (cod 40) 5 = .ok (.aload_n 0, 1) := by decide +kernel
theorem s40_5 {M : Mm} {st : List Value} {l1 l2 l3 : Option Value} {x : Nat} : EE 40 5 [some (.ref x), l1, l2, l3] st M = EE 40 6 [some (.ref x), l1, l2, l3] (.ref x :: st) M := e_ld d40_5 rfl rfl rfl rfl rfl rfl
theorem d40_6 : decode (cod 40) 6 = .ok (.getfield 47, 3) := by decide +kernel
theorem s40_6 {n : Nat} {I : Nat → Nat → Int32} {R : Nat → Nat → Option Nat} {st : List Value} {l0 l1 l2 l3 : Option Value} {a : Nat} : EE 40 6 [l0, l1, l2, l3] (.ref a :: st) (n, I, R) = (gfI n I R 1 8 a).bind (fun z => EE 40 9 [l0, l1, l2, l3] (z :: st) (n, I, R)) := e_getf d40_6 f1_47 rfl rfl
theorem d40_9 : decode (cod 40) 9 = .ok (.if_icmp .ge 32, 3) := by decide +kernel
theorem s40_9 {M : Mm} {st : List Value} {l0 l1 l2 l3 : Option Value} {x y : Int32} : EE 40 9 [l0, l1, l2, l3] (.int y :: .int x :: st) M = if y ≤ x then EE 40 41 [l0, l1, l2, l3] st M else EE 40 12 [l0, l1, l2, l3] st M := e_cge d40_9 (by decide)
theorem d40_12 : decode (cod 40) 12 = .ok (.aload_n 0, 1) := by decide +kernel
theorem s40_12 {M : Mm} {st : List Value} {l1 l2 l3 : Option Value} {x : Nat} : EE 40 12 [some (.ref x), l1, l2, l3] st M = EE 40 13 [some (.ref x), l1, l2, l3] (.ref x :: st) M := e_ld d40_12 rfl rfl rfl rfl rfl rfl
theorem d40_13 : decode (cod 40) 13 = .ok (.iload_n 3, 1) := by decide +kernel
theorem s40_13 {M : Mm} {st : List Value} {l0 l1 l2 : Option Value} {x : Int32} : EE 40 13 [l0, l1, l2, some (.int x)] st M = EE 40 14 [l0, l1, l2, some (.int x)] (.int x :: st) M := e_ld d40_13 rfl rfl rfl rfl rfl rfl
theorem d40_14 : decode (cod 40) 14 = .ok (.invokevirtual 99, 3) := by decide +kernel
theorem s40_14 {l0 l1 l2 l3 : Option Value} {a : Nat} {M : Mm} {b0 : Int32} {st : List Value} (hl : st.length ≤ 4) (ho : isO "HandoverDesk$State" M.1 a = true) : EE 40 14 [l0, l1, l2, l3] (.int b0 :: .ref a :: st) M = (FF 19 (.ref a :: [.int b0]) M).bind (fun z => EE 40 17 [l0, l1, l2, l3] (psh z.1 st) z.2) := e_calv (av := [.int b0]) d40_14 c1_99 rfl rfl rfl r40_19 rfl hl ho
theorem d40_17 : decode (cod 40) 17 = .ok (.ifCond .eq 18, 3) := by decide +kernel
theorem s40_17 {M : Mm} {st : List Value} {l0 l1 l2 l3 : Option Value} {x : Int32} : EE 40 17 [l0, l1, l2, l3] (.int x :: st) M = if x = 0 then EE 40 35 [l0, l1, l2, l3] st M else EE 40 20 [l0, l1, l2, l3] st M := e_eq0 d40_17 (by decide)
theorem d40_20 : decode (cod 40) 20 = .ok (.aload_n 0, 1) := by decide +kernel
theorem s40_20 {M : Mm} {st : List Value} {l1 l2 l3 : Option Value} {x : Nat} : EE 40 20 [some (.ref x), l1, l2, l3] st M = EE 40 21 [some (.ref x), l1, l2, l3] (.ref x :: st) M := e_ld d40_20 rfl rfl rfl rfl rfl rfl
theorem d40_21 : decode (cod 40) 21 = .ok (.iload_n 3, 1) := by decide +kernel
theorem s40_21 {M : Mm} {st : List Value} {l0 l1 l2 : Option Value} {x : Int32} : EE 40 21 [l0, l1, l2, some (.int x)] st M = EE 40 22 [l0, l1, l2, some (.int x)] (.int x :: st) M := e_ld d40_21 rfl rfl rfl rfl rfl rfl
theorem d40_22 : decode (cod 40) 22 = .ok (.invokevirtual 102, 3) := by decide +kernel
theorem s40_22 {l0 l1 l2 l3 : Option Value} {a : Nat} {M : Mm} {b0 : Int32} {st : List Value} (hl : st.length ≤ 4) (ho : isO "HandoverDesk$State" M.1 a = true) : EE 40 22 [l0, l1, l2, l3] (.int b0 :: .ref a :: st) M = (FF 37 (.ref a :: [.int b0]) M).bind (fun z => EE 40 25 [l0, l1, l2, l3] (psh z.1 st) z.2) := e_calv (av := [.int b0]) d40_22 c1_102 rfl rfl rfl r40_37 rfl hl ho
theorem d40_25 : decode (cod 40) 25 = .ok (.iload_n 1, 1) := by decide +kernel
theorem s40_25 {M : Mm} {st : List Value} {l0 l2 l3 : Option Value} {x : Int32} : EE 40 25 [l0, some (.int x), l2, l3] st M = EE 40 26 [l0, some (.int x), l2, l3] (.int x :: st) M := e_ld d40_25 rfl rfl rfl rfl rfl rfl
theorem d40_26 : decode (cod 40) 26 = .ok (.if_icmp .ne 9, 3) := by decide +kernel
theorem s40_26 {M : Mm} {st : List Value} {l0 l1 l2 l3 : Option Value} {x y : Int32} : EE 40 26 [l0, l1, l2, l3] (.int y :: .int x :: st) M = if x = y then EE 40 29 [l0, l1, l2, l3] st M else EE 40 35 [l0, l1, l2, l3] st M := e_cne d40_26 (by decide)
theorem d40_29 : decode (cod 40) 29 = .ok (.iload_n 2, 1) := by decide +kernel
theorem s40_29 {M : Mm} {st : List Value} {l0 l1 l3 : Option Value} {x : Int32} : EE 40 29 [l0, l1, some (.int x), l3] st M = EE 40 30 [l0, l1, some (.int x), l3] (.int x :: st) M := e_ld d40_29 rfl rfl rfl rfl rfl rfl
theorem d40_30 : decode (cod 40) 30 = .ok (.iconst 1, 1) := by decide +kernel
theorem s40_30 {M : Mm} {st : List Value} {l0 l1 l2 l3 : Option Value} : EE 40 30 [l0, l1, l2, l3] st M = EE 40 31 [l0, l1, l2, l3] (.int (nI 1) :: st) M := e_con d40_30 k_con_1
theorem d40_31 : decode (cod 40) 31 = .ok (.iload_n 3, 1) := by decide +kernel
theorem s40_31 {M : Mm} {st : List Value} {l0 l1 l2 : Option Value} {x : Int32} : EE 40 31 [l0, l1, l2, some (.int x)] st M = EE 40 32 [l0, l1, l2, some (.int x)] (.int x :: st) M := e_ld d40_31 rfl rfl rfl rfl rfl rfl
theorem d40_32 : decode (cod 40) 32 = .ok (.ishl, 1) := by decide +kernel
theorem s40_32 {M : Mm} {st : List Value} {l0 l1 l2 l3 : Option Value} {x y : Int32} : EE 40 32 [l0, l1, l2, l3] (.int y :: .int x :: st) M = EE 40 33 [l0, l1, l2, l3] (.int (x <<< (y &&& 31)) :: st) M := e_II d40_32 rfl rfl rfl rfl rfl rfl
theorem d40_33 : decode (cod 40) 33 = .ok (.ior, 1) := by decide +kernel
theorem s40_33 {M : Mm} {st : List Value} {l0 l1 l2 l3 : Option Value} {x y : Int32} : EE 40 33 [l0, l1, l2, l3] (.int y :: .int x :: st) M = EE 40 34 [l0, l1, l2, l3] (.int (x ||| y) :: st) M := e_II d40_33 rfl rfl rfl rfl rfl rfl
theorem d40_34 : decode (cod 40) 34 = .ok (.istore_n 2, 1) := by decide +kernel
theorem s40_34 {M : Mm} {st : List Value} {l0 l1 l2 l3 : Option Value} {x : Int32} : EE 40 34 [l0, l1, l2, l3] (.int x :: st) M = EE 40 35 [l0, cln l1, some (.int x), l3] st M := e_st1 d40_34 rfl rfl rfl rfl rfl rfl rfl (Nat.le_of_ble_eq_true rfl) rfl
theorem d40_35 : decode (cod 40) 35 = .ok (.iinc 3 1, 3) := by decide +kernel
theorem s40_35 {M : Mm} {st : List Value} {l0 l1 l2 : Option Value} {x : Int32} : EE 40 35 [l0, l1, l2, some (.int x)] st M = EE 40 38 [l0, l1, cln l2, some (.int (x + nI 1))] st M := e_iinc d40_35 rfl (congrArg (fun z => x + z) k_inc_1) rfl
theorem d40_38 : decode (cod 40) 38 = .ok (.goto (-34), 3) := by decide +kernel
theorem s40_38 {M : Mm} {st : List Value} {l0 l1 l2 l3 : Option Value} : EE 40 38 [l0, l1, l2, l3] st M = EE 40 4 [l0, l1, l2, l3] st M := e_goto d40_38 (by decide)
theorem d40_41 : decode (cod 40) 41 = .ok (.iload_n 2, 1) := by decide +kernel
theorem s40_41 {M : Mm} {st : List Value} {l0 l1 l3 : Option Value} {x : Int32} : EE 40 41 [l0, l1, some (.int x), l3] st M = EE 40 42 [l0, l1, some (.int x), l3] (.int x :: st) M := e_ld d40_41 rfl rfl rfl rfl rfl rfl
theorem d40_42 : decode (cod 40) 42 = .ok (.ireturn, 1) := by decide +kernel
theorem s40_42 {M : Mm} {l0 l1 l2 l3 : Option Value} {v : Int32} : EE 40 42 [l0, l1, l2, l3] [.int v] M = some (some (.int v), M) := e_iret d40_42 rfl rfl
theorem FE40 {a : Nat} {b0 : Int32} {M : Mm} : FF 40 [.ref a, .int b0] M = EE 40 0 [some (.ref a), some (.int b0), none, none] [] M := FF_eq 40 _ _ (Nat.le_of_ble_eq_true rfl)
theorem d41_0 : decode (cod 41) 0 = .ok (.iconst 0, 1) := by decide +kernel
theorem s41_0 {M : Mm} {st : List Value} {l0 l1 l2 l3 : Option Value} : EE 41 0 [l0, l1, l2, l3] st M = EE 41 1 [l0, l1, l2, l3] (.int (nI 0) :: st) M := e_con d41_0 k_con_0
theorem d41_1 : decode (cod 41) 1 = .ok (.istore_n 2, 1) := by decide +kernel
theorem s41_1 {M : Mm} {st : List Value} {l0 l1 l2 l3 : Option Value} {x : Int32} : EE 41 1 [l0, l1, l2, l3] (.int x :: st) M = EE 41 2 [l0, cln l1, some (.int x), l3] st M := e_st1 d41_1 rfl rfl rfl rfl rfl rfl rfl (Nat.le_of_ble_eq_true rfl) rfl
theorem d41_2 : decode (cod 41) 2 = .ok (.iconst 0, 1) := by decide +kernel
theorem s41_2 {M : Mm} {st : List Value} {l0 l1 l2 l3 : Option Value} : EE 41 2 [l0, l1, l2, l3] st M = EE 41 3 [l0, l1, l2, l3] (.int (nI 0) :: st) M := e_con d41_2 k_con_0
theorem d41_3 : decode (cod 41) 3 = .ok (.istore_n 3, 1) := by decide +kernel
theorem s41_3 {M : Mm} {st : List Value} {l0 l1 l2 l3 : Option Value} {x : Int32} : EE 41 3 [l0, l1, l2, l3] (.int x :: st) M = EE 41 4 [l0, l1, cln l2, some (.int x)] st M := e_st1 d41_3 rfl rfl rfl rfl rfl rfl rfl (Nat.le_of_ble_eq_true rfl) rfl
theorem d41_4 : decode (cod 41) 4 = .ok (.iload_n 3, 1) := by decide +kernel
theorem s41_4 {M : Mm} {st : List Value} {l0 l1 l2 : Option Value} {x : Int32} : EE 41 4 [l0, l1, l2, some (.int x)] st M = EE 41 5 [l0, l1, l2, some (.int x)] (.int x :: st) M := e_ld d41_4 rfl rfl rfl rfl rfl rfl
theorem d41_5 : decode (cod 41) 5 = .ok (.aload_n 0, 1) := by decide +kernel
theorem s41_5 {M : Mm} {st : List Value} {l1 l2 l3 : Option Value} {x : Nat} : EE 41 5 [some (.ref x), l1, l2, l3] st M = EE 41 6 [some (.ref x), l1, l2, l3] (.ref x :: st) M := e_ld d41_5 rfl rfl rfl rfl rfl rfl
theorem d41_6 : decode (cod 41) 6 = .ok (.getfield 47, 3) := by decide +kernel
theorem s41_6 {n : Nat} {I : Nat → Nat → Int32} {R : Nat → Nat → Option Nat} {st : List Value} {l0 l1 l2 l3 : Option Value} {a : Nat} : EE 41 6 [l0, l1, l2, l3] (.ref a :: st) (n, I, R) = (gfI n I R 1 8 a).bind (fun z => EE 41 9 [l0, l1, l2, l3] (z :: st) (n, I, R)) := e_getf d41_6 f1_47 rfl rfl
theorem d41_9 : decode (cod 41) 9 = .ok (.if_icmp .ge 26, 3) := by decide +kernel
theorem s41_9 {M : Mm} {st : List Value} {l0 l1 l2 l3 : Option Value} {x y : Int32} : EE 41 9 [l0, l1, l2, l3] (.int y :: .int x :: st) M = if y ≤ x then EE 41 35 [l0, l1, l2, l3] st M else EE 41 12 [l0, l1, l2, l3] st M := e_cge d41_9 (by decide)
theorem d41_12 : decode (cod 41) 12 = .ok (.aload_n 0, 1) := by decide +kernel
theorem s41_12 {M : Mm} {st : List Value} {l1 l2 l3 : Option Value} {x : Nat} : EE 41 12 [some (.ref x), l1, l2, l3] st M = EE 41 13 [some (.ref x), l1, l2, l3] (.ref x :: st) M := e_ld d41_12 rfl rfl rfl rfl rfl rfl
theorem d41_13 : decode (cod 41) 13 = .ok (.iload_n 3, 1) := by decide +kernel
theorem s41_13 {M : Mm} {st : List Value} {l0 l1 l2 : Option Value} {x : Int32} : EE 41 13 [l0, l1, l2, some (.int x)] st M = EE 41 14 [l0, l1, l2, some (.int x)] (.int x :: st) M := e_ld d41_13 rfl rfl rfl rfl rfl rfl
theorem d41_14 : decode (cod 41) 14 = .ok (.invokevirtual 99, 3) := by decide +kernel
theorem s41_14 {l0 l1 l2 l3 : Option Value} {a : Nat} {M : Mm} {b0 : Int32} {st : List Value} (hl : st.length ≤ 4) (ho : isO "HandoverDesk$State" M.1 a = true) : EE 41 14 [l0, l1, l2, l3] (.int b0 :: .ref a :: st) M = (FF 19 (.ref a :: [.int b0]) M).bind (fun z => EE 41 17 [l0, l1, l2, l3] (psh z.1 st) z.2) := e_calv (av := [.int b0]) d41_14 c1_99 rfl rfl rfl r41_19 rfl hl ho
theorem d41_17 : decode (cod 41) 17 = .ok (.ifCond .eq 12, 3) := by decide +kernel
theorem s41_17 {M : Mm} {st : List Value} {l0 l1 l2 l3 : Option Value} {x : Int32} : EE 41 17 [l0, l1, l2, l3] (.int x :: st) M = if x = 0 then EE 41 29 [l0, l1, l2, l3] st M else EE 41 20 [l0, l1, l2, l3] st M := e_eq0 d41_17 (by decide)
theorem d41_20 : decode (cod 41) 20 = .ok (.iload_n 2, 1) := by decide +kernel
theorem s41_20 {M : Mm} {st : List Value} {l0 l1 l3 : Option Value} {x : Int32} : EE 41 20 [l0, l1, some (.int x), l3] st M = EE 41 21 [l0, l1, some (.int x), l3] (.int x :: st) M := e_ld d41_20 rfl rfl rfl rfl rfl rfl
theorem d41_21 : decode (cod 41) 21 = .ok (.aload_n 0, 1) := by decide +kernel
theorem s41_21 {M : Mm} {st : List Value} {l1 l2 l3 : Option Value} {x : Nat} : EE 41 21 [some (.ref x), l1, l2, l3] st M = EE 41 22 [some (.ref x), l1, l2, l3] (.ref x :: st) M := e_ld d41_21 rfl rfl rfl rfl rfl rfl
theorem d41_22 : decode (cod 41) 22 = .ok (.iload_n 1, 1) := by decide +kernel
theorem s41_22 {M : Mm} {st : List Value} {l0 l2 l3 : Option Value} {x : Int32} : EE 41 22 [l0, some (.int x), l2, l3] st M = EE 41 23 [l0, some (.int x), l2, l3] (.int x :: st) M := e_ld d41_22 rfl rfl rfl rfl rfl rfl
theorem d41_23 : decode (cod 41) 23 = .ok (.iload_n 3, 1) := by decide +kernel
theorem s41_23 {M : Mm} {st : List Value} {l0 l1 l2 : Option Value} {x : Int32} : EE 41 23 [l0, l1, l2, some (.int x)] st M = EE 41 24 [l0, l1, l2, some (.int x)] (.int x :: st) M := e_ld d41_23 rfl rfl rfl rfl rfl rfl
theorem d41_24 : decode (cod 41) 24 = .ok (.invokevirtual 88, 3) := by decide +kernel
theorem s41_24 {l0 l1 l2 l3 : Option Value} {a : Nat} {M : Mm} {b0 : Int32} {b1 : Int32} {st : List Value} (hl : st.length ≤ 4) (ho : isO "HandoverDesk$State" M.1 a = true) : EE 41 24 [l0, l1, l2, l3] (.int b1 :: .int b0 :: .ref a :: st) M = (FF 23 (.ref a :: [.int b0, .int b1]) M).bind (fun z => EE 41 27 [l0, l1, l2, l3] (psh z.1 st) z.2) := e_calv (av := [.int b0, .int b1]) d41_24 c1_88 rfl rfl rfl r41_23 rfl hl ho
theorem d41_27 : decode (cod 41) 27 = .ok (.iadd, 1) := by decide +kernel
theorem s41_27 {M : Mm} {st : List Value} {l0 l1 l2 l3 : Option Value} {x y : Int32} : EE 41 27 [l0, l1, l2, l3] (.int y :: .int x :: st) M = EE 41 28 [l0, l1, l2, l3] (.int (x + y) :: st) M := e_II d41_27 rfl rfl rfl rfl rfl rfl
theorem d41_28 : decode (cod 41) 28 = .ok (.istore_n 2, 1) := by decide +kernel
theorem s41_28 {M : Mm} {st : List Value} {l0 l1 l2 l3 : Option Value} {x : Int32} : EE 41 28 [l0, l1, l2, l3] (.int x :: st) M = EE 41 29 [l0, cln l1, some (.int x), l3] st M := e_st1 d41_28 rfl rfl rfl rfl rfl rfl rfl (Nat.le_of_ble_eq_true rfl) rfl
theorem d41_29 : decode (cod 41) 29 = .ok (.iinc 3 1, 3) := by decide +kernel
theorem s41_29 {M : Mm} {st : List Value} {l0 l1 l2 : Option Value} {x : Int32} : EE 41 29 [l0, l1, l2, some (.int x)] st M = EE 41 32 [l0, l1, cln l2, some (.int (x + nI 1))] st M := e_iinc d41_29 rfl (congrArg (fun z => x + z) k_inc_1) rfl
theorem d41_32 : decode (cod 41) 32 = .ok (.goto (-28), 3) := by decide +kernel
theorem s41_32 {M : Mm} {st : List Value} {l0 l1 l2 l3 : Option Value} : EE 41 32 [l0, l1, l2, l3] st M = EE 41 4 [l0, l1, l2, l3] st M := e_goto d41_32 (by decide)
theorem d41_35 : decode (cod 41) 35 = .ok (.iload_n 2, 1) := by decide +kernel
theorem s41_35 {M : Mm} {st : List Value} {l0 l1 l3 : Option Value} {x : Int32} : EE 41 35 [l0, l1, some (.int x), l3] st M = EE 41 36 [l0, l1, some (.int x), l3] (.int x :: st) M := e_ld d41_35 rfl rfl rfl rfl rfl rfl
theorem d41_36 : decode (cod 41) 36 = .ok (.ireturn, 1) := by decide +kernel
theorem s41_36 {M : Mm} {l0 l1 l2 l3 : Option Value} {v : Int32} : EE 41 36 [l0, l1, l2, l3] [.int v] M = some (some (.int v), M) := e_iret d41_36 rfl rfl
theorem FE41 {a : Nat} {b0 : Int32} {M : Mm} : FF 41 [.ref a, .int b0] M = EE 41 0 [some (.ref a), some (.int b0), none, none] [] M := FF_eq 41 _ _ (Nat.le_of_ble_eq_true rfl)
theorem d43_0 : decode (cod 43) 0 = .ok (.aload_n 0, 1) := by decide +kernel
theorem s43_0 {M : Mm} {st : List Value} {l1 : Option Value} {x : Nat} : EE 43 0 [some (.ref x), l1] st M = EE 43 1 [some (.ref x), l1] (.ref x :: st) M := e_ld d43_0 rfl rfl rfl rfl rfl rfl
theorem d43_1 : decode (cod 43) 1 = .ok (.invokespecial 3, 3) := by decide +kernel
theorem s43_1 {M : Mm} {l0 l1 : Option Value} {a : Nat} {st : List Value} (hl : st.length ≤ 4) : EE 43 1 [l0, l1] (.ref a :: st) M = EE 43 4 [l0, l1] st M := e_oin d43_1 t2_3 t2_3n (by decide) hl
theorem d43_4 : decode (cod 43) 4 = .ok (.aload_n 0, 1) := by decide +kernel
theorem s43_4 {M : Mm} {st : List Value} {l1 : Option Value} {x : Nat} : EE 43 4 [some (.ref x), l1] st M = EE 43 5 [some (.ref x), l1] (.ref x :: st) M := e_ld d43_4 rfl rfl rfl rfl rfl rfl
theorem d43_5 : decode (cod 43) 5 = .ok (.new 9, 3) := by decide +kernel
theorem s43_5 {M : Mm} {st : List Value} {l0 l1 : Option Value} (h : M.1 < 202 ∧ kd (adr M.1) = 2) : EE 43 5 [l0, l1] st M = EE 43 8 [l0, l1] (.ref (adr M.1) :: st) (bn M) := e_new d43_5 n2_9 h
theorem d43_8 : decode (cod 43) 8 = .ok (.dup, 1) := by decide +kernel
theorem s43_8i {M : Mm} {st : List Value} {l0 l1 : Option Value} {x : Int32} : EE 43 8 [l0, l1] (.int x :: st) M = EE 43 9 [l0, l1] (.int x :: .int x :: st) M := e_dup d43_8 rfl
theorem s43_8r {M : Mm} {st : List Value} {l0 l1 : Option Value} {x : Nat} : EE 43 8 [l0, l1] (.ref x :: st) M = EE 43 9 [l0, l1] (.ref x :: .ref x :: st) M := e_dup d43_8 rfl
theorem d43_9 : decode (cod 43) 9 = .ok (.invokespecial 11, 3) := by decide +kernel
theorem s43_9 {l0 l1 : Option Value} {a : Nat} {M M' : Mm} {st : List Value} (hl : st.length ≤ 4) (hF : FF 11 [.ref a] M = some (none, M')) : EE 43 9 [l0, l1] (.ref a :: st) M = EE 43 12 [l0, l1] st M' := e_cali d43_9 c2_11 rfl rfl rfl r43_11 hl hF
theorem d43_12 : decode (cod 43) 12 = .ok (.putfield 12, 3) := by decide +kernel
theorem s43_12 {n : Nat} {I : Nat → Nat → Int32} {R : Nat → Nat → Option Nat} {st : List Value} {l0 l1 : Option Value} {a : Nat} {v : Value} : EE 43 12 [l0, l1] (v :: .ref a :: st) (n, I, R) = (pfI n I R 2 0 a v).bind (fun z => EE 43 15 [l0, l1] st (n, z.1, z.2)) := e_putf d43_12 f2_12 rfl rfl (Or.inr rfl)
theorem d43_15 : decode (cod 43) 15 = .ok (.aload_n 0, 1) := by decide +kernel
theorem s43_15 {M : Mm} {st : List Value} {l1 : Option Value} {x : Nat} : EE 43 15 [some (.ref x), l1] st M = EE 43 16 [some (.ref x), l1] (.ref x :: st) M := e_ld d43_15 rfl rfl rfl rfl rfl rfl
theorem d43_16 : decode (cod 43) 16 = .ok (.new 9, 3) := by decide +kernel
theorem s43_16 {M : Mm} {st : List Value} {l0 l1 : Option Value} (h : M.1 < 202 ∧ kd (adr M.1) = 2) : EE 43 16 [l0, l1] st M = EE 43 19 [l0, l1] (.ref (adr M.1) :: st) (bn M) := e_new d43_16 n2_9 h
theorem d43_19 : decode (cod 43) 19 = .ok (.dup, 1) := by decide +kernel
theorem s43_19i {M : Mm} {st : List Value} {l0 l1 : Option Value} {x : Int32} : EE 43 19 [l0, l1] (.int x :: st) M = EE 43 20 [l0, l1] (.int x :: .int x :: st) M := e_dup d43_19 rfl
theorem s43_19r {M : Mm} {st : List Value} {l0 l1 : Option Value} {x : Nat} : EE 43 19 [l0, l1] (.ref x :: st) M = EE 43 20 [l0, l1] (.ref x :: .ref x :: st) M := e_dup d43_19 rfl
theorem d43_20 : decode (cod 43) 20 = .ok (.invokespecial 11, 3) := by decide +kernel
theorem s43_20 {l0 l1 : Option Value} {a : Nat} {M M' : Mm} {st : List Value} (hl : st.length ≤ 4) (hF : FF 11 [.ref a] M = some (none, M')) : EE 43 20 [l0, l1] (.ref a :: st) M = EE 43 23 [l0, l1] st M' := e_cali d43_20 c2_11 rfl rfl rfl r43_11 hl hF
theorem d43_23 : decode (cod 43) 23 = .ok (.putfield 16, 3) := by decide +kernel
theorem s43_23 {n : Nat} {I : Nat → Nat → Int32} {R : Nat → Nat → Option Nat} {st : List Value} {l0 l1 : Option Value} {a : Nat} {v : Value} : EE 43 23 [l0, l1] (v :: .ref a :: st) (n, I, R) = (pfI n I R 2 1 a v).bind (fun z => EE 43 26 [l0, l1] st (n, z.1, z.2)) := e_putf d43_23 f2_16 rfl rfl (Or.inr rfl)
theorem d43_26 : decode (cod 43) 26 = .ok (.aload_n 0, 1) := by decide +kernel
theorem s43_26 {M : Mm} {st : List Value} {l1 : Option Value} {x : Nat} : EE 43 26 [some (.ref x), l1] st M = EE 43 27 [some (.ref x), l1] (.ref x :: st) M := e_ld d43_26 rfl rfl rfl rfl rfl rfl
theorem d43_27 : decode (cod 43) 27 = .ok (.bipush 6, 2) := by decide +kernel
theorem s43_27 {M : Mm} {st : List Value} {l0 l1 : Option Value} : EE 43 27 [l0, l1] st M = EE 43 29 [l0, l1] (.int (nI 6) :: st) M := e_bip d43_27 k_bip_6
theorem d43_29 : decode (cod 43) 29 = .ok (.anewarray 9, 3) := by decide +kernel
theorem s43_29 {st : List Value} {l0 l1 : Option Value} {w : Int32} {M : Mm} (h : M.1 < 202 ∧ kd (adr M.1) = 8 ∧ ¬ w < 0 ∧ w.toNatClampNeg = ln (adr M.1)) : EE 43 29 [l0, l1] (.int w :: st) M = EE 43 32 [l0, l1] (.ref (adr M.1) :: st) (bn M) := e_anew d43_29 ⟨rfl, h⟩
theorem d43_32 : decode (cod 43) 32 = .ok (.putfield 19, 3) := by decide +kernel
theorem s43_32 {n : Nat} {I : Nat → Nat → Int32} {R : Nat → Nat → Option Nat} {st : List Value} {l0 l1 : Option Value} {a : Nat} {v : Value} : EE 43 32 [l0, l1] (v :: .ref a :: st) (n, I, R) = (pfI n I R 2 2 a v).bind (fun z => EE 43 35 [l0, l1] st (n, z.1, z.2)) := e_putf d43_32 f2_19 rfl rfl (Or.inl ⟨rfl, Or.inl rfl⟩)
theorem d43_35 : decode (cod 43) 35 = .ok (.iconst 0, 1) := by decide +kernel
theorem s43_35 {M : Mm} {st : List Value} {l0 l1 : Option Value} : EE 43 35 [l0, l1] st M = EE 43 36 [l0, l1] (.int (nI 0) :: st) M := e_con d43_35 k_con_0
theorem d43_36 : decode (cod 43) 36 = .ok (.istore_n 1, 1) := by decide +kernel
theorem s43_36 {M : Mm} {st : List Value} {l0 l1 : Option Value} {x : Int32} : EE 43 36 [l0, l1] (.int x :: st) M = EE 43 37 [cln l0, some (.int x)] st M := e_st1 d43_36 rfl rfl rfl rfl rfl rfl rfl (Nat.le_of_ble_eq_true rfl) rfl
theorem d43_37 : decode (cod 43) 37 = .ok (.iload_n 1, 1) := by decide +kernel
theorem s43_37 {M : Mm} {st : List Value} {l0 : Option Value} {x : Int32} : EE 43 37 [l0, some (.int x)] st M = EE 43 38 [l0, some (.int x)] (.int x :: st) M := e_ld d43_37 rfl rfl rfl rfl rfl rfl
theorem d43_38 : decode (cod 43) 38 = .ok (.bipush 6, 2) := by decide +kernel
theorem s43_38 {M : Mm} {st : List Value} {l0 l1 : Option Value} : EE 43 38 [l0, l1] st M = EE 43 40 [l0, l1] (.int (nI 6) :: st) M := e_bip d43_38 k_bip_6
theorem d43_40 : decode (cod 43) 40 = .ok (.if_icmp .ge 22, 3) := by decide +kernel
theorem s43_40 {M : Mm} {st : List Value} {l0 l1 : Option Value} {x y : Int32} : EE 43 40 [l0, l1] (.int y :: .int x :: st) M = if y ≤ x then EE 43 62 [l0, l1] st M else EE 43 43 [l0, l1] st M := e_cge d43_40 (by decide)
theorem d43_43 : decode (cod 43) 43 = .ok (.aload_n 0, 1) := by decide +kernel
theorem s43_43 {M : Mm} {st : List Value} {l1 : Option Value} {x : Nat} : EE 43 43 [some (.ref x), l1] st M = EE 43 44 [some (.ref x), l1] (.ref x :: st) M := e_ld d43_43 rfl rfl rfl rfl rfl rfl
theorem d43_44 : decode (cod 43) 44 = .ok (.getfield 19, 3) := by decide +kernel
theorem s43_44 {n : Nat} {I : Nat → Nat → Int32} {R : Nat → Nat → Option Nat} {st : List Value} {l0 l1 : Option Value} {a : Nat} : EE 43 44 [l0, l1] (.ref a :: st) (n, I, R) = (gfI n I R 2 2 a).bind (fun z => EE 43 47 [l0, l1] (z :: st) (n, I, R)) := e_getf d43_44 f2_19 rfl rfl
theorem d43_47 : decode (cod 43) 47 = .ok (.iload_n 1, 1) := by decide +kernel
theorem s43_47 {M : Mm} {st : List Value} {l0 : Option Value} {x : Int32} : EE 43 47 [l0, some (.int x)] st M = EE 43 48 [l0, some (.int x)] (.int x :: st) M := e_ld d43_47 rfl rfl rfl rfl rfl rfl
theorem d43_48 : decode (cod 43) 48 = .ok (.new 9, 3) := by decide +kernel
theorem s43_48 {M : Mm} {st : List Value} {l0 l1 : Option Value} (h : M.1 < 202 ∧ kd (adr M.1) = 2) : EE 43 48 [l0, l1] st M = EE 43 51 [l0, l1] (.ref (adr M.1) :: st) (bn M) := e_new d43_48 n2_9 h
theorem d43_51 : decode (cod 43) 51 = .ok (.dup, 1) := by decide +kernel
theorem s43_51i {M : Mm} {st : List Value} {l0 l1 : Option Value} {x : Int32} : EE 43 51 [l0, l1] (.int x :: st) M = EE 43 52 [l0, l1] (.int x :: .int x :: st) M := e_dup d43_51 rfl
theorem s43_51r {M : Mm} {st : List Value} {l0 l1 : Option Value} {x : Nat} : EE 43 51 [l0, l1] (.ref x :: st) M = EE 43 52 [l0, l1] (.ref x :: .ref x :: st) M := e_dup d43_51 rfl
theorem d43_52 : decode (cod 43) 52 = .ok (.invokespecial 11, 3) := by decide +kernel
theorem s43_52 {l0 l1 : Option Value} {a : Nat} {M M' : Mm} {st : List Value} (hl : st.length ≤ 4) (hF : FF 11 [.ref a] M = some (none, M')) : EE 43 52 [l0, l1] (.ref a :: st) M = EE 43 55 [l0, l1] st M' := e_cali d43_52 c2_11 rfl rfl rfl r43_11 hl hF
theorem d43_55 : decode (cod 43) 55 = .ok (.aastore, 1) := by decide +kernel
theorem s43_55 {n : Nat} {I : Nat → Nat → Int32} {R : Nat → Nat → Option Nat} {st : List Value} {l0 l1 : Option Value} {j : Int32} {a b : Nat} (h : kd a = 8 ∧ a < 1000 ∧ pos a < n ∧ inb j (ln a) ∧ kd b = 2 ∧ b < 1000 ∧ pos b < n) : EE 43 55 [l0, l1] (.ref b :: .int j :: .ref a :: st) (n, I, R) = EE 43 56 [l0, l1] st (n, I, wR R a j.toNatClampNeg (some b)) := e_aast d43_55 h
theorem d43_56 : decode (cod 43) 56 = .ok (.iinc 1 1, 3) := by decide +kernel
theorem s43_56 {M : Mm} {st : List Value} {l0 : Option Value} {x : Int32} : EE 43 56 [l0, some (.int x)] st M = EE 43 59 [cln l0, some (.int (x + nI 1))] st M := e_iinc d43_56 rfl (congrArg (fun z => x + z) k_inc_1) rfl
theorem d43_59 : decode (cod 43) 59 = .ok (.goto (-22), 3) := by decide +kernel
theorem s43_59 {M : Mm} {st : List Value} {l0 l1 : Option Value} : EE 43 59 [l0, l1] st M = EE 43 37 [l0, l1] st M := e_goto d43_59 (by decide)
theorem d43_62 : decode (cod 43) 62 = .ok (.aload_n 0, 1) := by decide +kernel
theorem s43_62 {M : Mm} {st : List Value} {l1 : Option Value} {x : Nat} : EE 43 62 [some (.ref x), l1] st M = EE 43 63 [some (.ref x), l1] (.ref x :: st) M := e_ld d43_62 rfl rfl rfl rfl rfl rfl
theorem d43_63 : decode (cod 43) 63 = .ok (.iconst 2, 1) := by decide +kernel
theorem s43_63 {M : Mm} {st : List Value} {l0 l1 : Option Value} : EE 43 63 [l0, l1] st M = EE 43 64 [l0, l1] (.int (nI 2) :: st) M := e_con d43_63 k_con_2
theorem d43_64 : decode (cod 43) 64 = .ok (.anewarray 9, 3) := by decide +kernel
theorem s43_64 {st : List Value} {l0 l1 : Option Value} {w : Int32} {M : Mm} (h : M.1 < 202 ∧ kd (adr M.1) = 8 ∧ ¬ w < 0 ∧ w.toNatClampNeg = ln (adr M.1)) : EE 43 64 [l0, l1] (.int w :: st) M = EE 43 67 [l0, l1] (.ref (adr M.1) :: st) (bn M) := e_anew d43_64 ⟨rfl, h⟩
theorem d43_67 : decode (cod 43) 67 = .ok (.putfield 23, 3) := by decide +kernel
theorem s43_67 {n : Nat} {I : Nat → Nat → Int32} {R : Nat → Nat → Option Nat} {st : List Value} {l0 l1 : Option Value} {a : Nat} {v : Value} : EE 43 67 [l0, l1] (v :: .ref a :: st) (n, I, R) = (pfI n I R 2 4 a v).bind (fun z => EE 43 70 [l0, l1] st (n, z.1, z.2)) := e_putf d43_67 f2_23 rfl rfl (Or.inl ⟨rfl, Or.inl rfl⟩)
theorem d43_70 : decode (cod 43) 70 = .ok (.iconst 0, 1) := by decide +kernel
theorem s43_70 {M : Mm} {st : List Value} {l0 l1 : Option Value} : EE 43 70 [l0, l1] st M = EE 43 71 [l0, l1] (.int (nI 0) :: st) M := e_con d43_70 k_con_0
theorem d43_71 : decode (cod 43) 71 = .ok (.istore_n 1, 1) := by decide +kernel
theorem s43_71 {M : Mm} {st : List Value} {l0 l1 : Option Value} {x : Int32} : EE 43 71 [l0, l1] (.int x :: st) M = EE 43 72 [cln l0, some (.int x)] st M := e_st1 d43_71 rfl rfl rfl rfl rfl rfl rfl (Nat.le_of_ble_eq_true rfl) rfl
theorem d43_72 : decode (cod 43) 72 = .ok (.iload_n 1, 1) := by decide +kernel
theorem s43_72 {M : Mm} {st : List Value} {l0 : Option Value} {x : Int32} : EE 43 72 [l0, some (.int x)] st M = EE 43 73 [l0, some (.int x)] (.int x :: st) M := e_ld d43_72 rfl rfl rfl rfl rfl rfl
theorem d43_73 : decode (cod 43) 73 = .ok (.iconst 2, 1) := by decide +kernel
theorem s43_73 {M : Mm} {st : List Value} {l0 l1 : Option Value} : EE 43 73 [l0, l1] st M = EE 43 74 [l0, l1] (.int (nI 2) :: st) M := e_con d43_73 k_con_2
theorem d43_74 : decode (cod 43) 74 = .ok (.if_icmp .ge 22, 3) := by decide +kernel
theorem s43_74 {M : Mm} {st : List Value} {l0 l1 : Option Value} {x y : Int32} : EE 43 74 [l0, l1] (.int y :: .int x :: st) M = if y ≤ x then EE 43 96 [l0, l1] st M else EE 43 77 [l0, l1] st M := e_cge d43_74 (by decide)
theorem d43_77 : decode (cod 43) 77 = .ok (.aload_n 0, 1) := by decide +kernel
theorem s43_77 {M : Mm} {st : List Value} {l1 : Option Value} {x : Nat} : EE 43 77 [some (.ref x), l1] st M = EE 43 78 [some (.ref x), l1] (.ref x :: st) M := e_ld d43_77 rfl rfl rfl rfl rfl rfl
theorem d43_78 : decode (cod 43) 78 = .ok (.getfield 23, 3) := by decide +kernel
theorem s43_78 {n : Nat} {I : Nat → Nat → Int32} {R : Nat → Nat → Option Nat} {st : List Value} {l0 l1 : Option Value} {a : Nat} : EE 43 78 [l0, l1] (.ref a :: st) (n, I, R) = (gfI n I R 2 4 a).bind (fun z => EE 43 81 [l0, l1] (z :: st) (n, I, R)) := e_getf d43_78 f2_23 rfl rfl
theorem d43_81 : decode (cod 43) 81 = .ok (.iload_n 1, 1) := by decide +kernel
theorem s43_81 {M : Mm} {st : List Value} {l0 : Option Value} {x : Int32} : EE 43 81 [l0, some (.int x)] st M = EE 43 82 [l0, some (.int x)] (.int x :: st) M := e_ld d43_81 rfl rfl rfl rfl rfl rfl
theorem d43_82 : decode (cod 43) 82 = .ok (.new 9, 3) := by decide +kernel
theorem s43_82 {M : Mm} {st : List Value} {l0 l1 : Option Value} (h : M.1 < 202 ∧ kd (adr M.1) = 2) : EE 43 82 [l0, l1] st M = EE 43 85 [l0, l1] (.ref (adr M.1) :: st) (bn M) := e_new d43_82 n2_9 h
theorem d43_85 : decode (cod 43) 85 = .ok (.dup, 1) := by decide +kernel
theorem s43_85i {M : Mm} {st : List Value} {l0 l1 : Option Value} {x : Int32} : EE 43 85 [l0, l1] (.int x :: st) M = EE 43 86 [l0, l1] (.int x :: .int x :: st) M := e_dup d43_85 rfl
theorem s43_85r {M : Mm} {st : List Value} {l0 l1 : Option Value} {x : Nat} : EE 43 85 [l0, l1] (.ref x :: st) M = EE 43 86 [l0, l1] (.ref x :: .ref x :: st) M := e_dup d43_85 rfl
theorem d43_86 : decode (cod 43) 86 = .ok (.invokespecial 11, 3) := by decide +kernel
theorem s43_86 {l0 l1 : Option Value} {a : Nat} {M M' : Mm} {st : List Value} (hl : st.length ≤ 4) (hF : FF 11 [.ref a] M = some (none, M')) : EE 43 86 [l0, l1] (.ref a :: st) M = EE 43 89 [l0, l1] st M' := e_cali d43_86 c2_11 rfl rfl rfl r43_11 hl hF
theorem d43_89 : decode (cod 43) 89 = .ok (.aastore, 1) := by decide +kernel
theorem s43_89 {n : Nat} {I : Nat → Nat → Int32} {R : Nat → Nat → Option Nat} {st : List Value} {l0 l1 : Option Value} {j : Int32} {a b : Nat} (h : kd a = 8 ∧ a < 1000 ∧ pos a < n ∧ inb j (ln a) ∧ kd b = 2 ∧ b < 1000 ∧ pos b < n) : EE 43 89 [l0, l1] (.ref b :: .int j :: .ref a :: st) (n, I, R) = EE 43 90 [l0, l1] st (n, I, wR R a j.toNatClampNeg (some b)) := e_aast d43_89 h
theorem d43_90 : decode (cod 43) 90 = .ok (.iinc 1 1, 3) := by decide +kernel
theorem s43_90 {M : Mm} {st : List Value} {l0 : Option Value} {x : Int32} : EE 43 90 [l0, some (.int x)] st M = EE 43 93 [cln l0, some (.int (x + nI 1))] st M := e_iinc d43_90 rfl (congrArg (fun z => x + z) k_inc_1) rfl
theorem d43_93 : decode (cod 43) 93 = .ok (.goto (-21), 3) := by decide +kernel
theorem s43_93 {M : Mm} {st : List Value} {l0 l1 : Option Value} : EE 43 93 [l0, l1] st M = EE 43 72 [l0, l1] st M := e_goto d43_93 (by decide)
theorem d43_96 : decode (cod 43) 96 = .ok (.aload_n 0, 1) := by decide +kernel
theorem s43_96 {M : Mm} {st : List Value} {l1 : Option Value} {x : Nat} : EE 43 96 [some (.ref x), l1] st M = EE 43 97 [some (.ref x), l1] (.ref x :: st) M := e_ld d43_96 rfl rfl rfl rfl rfl rfl
theorem d43_97 : decode (cod 43) 97 = .ok (.iconst 2, 1) := by decide +kernel
theorem s43_97 {M : Mm} {st : List Value} {l0 l1 : Option Value} : EE 43 97 [l0, l1] st M = EE 43 98 [l0, l1] (.int (nI 2) :: st) M := e_con d43_97 k_con_2
theorem d43_98 : decode (cod 43) 98 = .ok (.newarray .boolean, 2) := by decide +kernel
theorem s43_98 {st : List Value} {l0 l1 : Option Value} {w : Int32} {M : Mm} (h : M.1 < 202 ∧ kd (adr M.1) = 7 ∧ ¬ w < 0 ∧ w.toNatClampNeg = ln (adr M.1)) : EE 43 98 [l0, l1] (.int w :: st) M = EE 43 100 [l0, l1] (.ref (adr M.1) :: st) (bn M) := e_newa d43_98 h
theorem d43_100 : decode (cod 43) 100 = .ok (.putfield 26, 3) := by decide +kernel
theorem s43_100 {n : Nat} {I : Nat → Nat → Int32} {R : Nat → Nat → Option Nat} {st : List Value} {l0 l1 : Option Value} {a : Nat} {v : Value} : EE 43 100 [l0, l1] (v :: .ref a :: st) (n, I, R) = (pfI n I R 2 5 a v).bind (fun z => EE 43 103 [l0, l1] st (n, z.1, z.2)) := e_putf d43_100 f2_26 rfl rfl (Or.inl ⟨rfl, Or.inl rfl⟩)
theorem d43_103 : decode (cod 43) 103 = .ok (.aload_n 0, 1) := by decide +kernel
theorem s43_103 {M : Mm} {st : List Value} {l1 : Option Value} {x : Nat} : EE 43 103 [some (.ref x), l1] st M = EE 43 104 [some (.ref x), l1] (.ref x :: st) M := e_ld d43_103 rfl rfl rfl rfl rfl rfl
theorem d43_104 : decode (cod 43) 104 = .ok (.new 30, 3) := by decide +kernel
theorem s43_104 {M : Mm} {st : List Value} {l0 l1 : Option Value} (h : M.1 < 202 ∧ kd (adr M.1) = 1) : EE 43 104 [l0, l1] st M = EE 43 107 [l0, l1] (.ref (adr M.1) :: st) (bn M) := e_new d43_104 n2_30 h
theorem d43_107 : decode (cod 43) 107 = .ok (.dup, 1) := by decide +kernel
theorem s43_107i {M : Mm} {st : List Value} {l0 l1 : Option Value} {x : Int32} : EE 43 107 [l0, l1] (.int x :: st) M = EE 43 108 [l0, l1] (.int x :: .int x :: st) M := e_dup d43_107 rfl
theorem s43_107r {M : Mm} {st : List Value} {l0 l1 : Option Value} {x : Nat} : EE 43 107 [l0, l1] (.ref x :: st) M = EE 43 108 [l0, l1] (.ref x :: .ref x :: st) M := e_dup d43_107 rfl
theorem d43_108 : decode (cod 43) 108 = .ok (.invokespecial 32, 3) := by decide +kernel
theorem s43_108 {l0 l1 : Option Value} {a : Nat} {M M' : Mm} {st : List Value} (hl : st.length ≤ 4) (hF : FF 0 [.ref a] M = some (none, M')) : EE 43 108 [l0, l1] (.ref a :: st) M = EE 43 111 [l0, l1] st M' := e_cali d43_108 c2_32 rfl rfl rfl r43_0 hl hF
theorem d43_111 : decode (cod 43) 111 = .ok (.putfield 33, 3) := by decide +kernel
theorem s43_111 {n : Nat} {I : Nat → Nat → Int32} {R : Nat → Nat → Option Nat} {st : List Value} {l0 l1 : Option Value} {a : Nat} {v : Value} : EE 43 111 [l0, l1] (v :: .ref a :: st) (n, I, R) = (pfI n I R 2 6 a v).bind (fun z => EE 43 114 [l0, l1] st (n, z.1, z.2)) := e_putf d43_111 f2_33 rfl rfl (Or.inl ⟨rfl, Or.inl rfl⟩)
theorem d43_114 : decode (cod 43) 114 = .ok (.aload_n 0, 1) := by decide +kernel
theorem s43_114 {M : Mm} {st : List Value} {l1 : Option Value} {x : Nat} : EE 43 114 [some (.ref x), l1] st M = EE 43 115 [some (.ref x), l1] (.ref x :: st) M := e_ld d43_114 rfl rfl rfl rfl rfl rfl
theorem d43_115 : decode (cod 43) 115 = .ok (.new 9, 3) := by decide +kernel
theorem s43_115 {M : Mm} {st : List Value} {l0 l1 : Option Value} (h : M.1 < 202 ∧ kd (adr M.1) = 2) : EE 43 115 [l0, l1] st M = EE 43 118 [l0, l1] (.ref (adr M.1) :: st) (bn M) := e_new d43_115 n2_9 h
theorem d43_118 : decode (cod 43) 118 = .ok (.dup, 1) := by decide +kernel
theorem s43_118i {M : Mm} {st : List Value} {l0 l1 : Option Value} {x : Int32} : EE 43 118 [l0, l1] (.int x :: st) M = EE 43 119 [l0, l1] (.int x :: .int x :: st) M := e_dup d43_118 rfl
theorem s43_118r {M : Mm} {st : List Value} {l0 l1 : Option Value} {x : Nat} : EE 43 118 [l0, l1] (.ref x :: st) M = EE 43 119 [l0, l1] (.ref x :: .ref x :: st) M := e_dup d43_118 rfl
theorem d43_119 : decode (cod 43) 119 = .ok (.invokespecial 11, 3) := by decide +kernel
theorem s43_119 {l0 l1 : Option Value} {a : Nat} {M M' : Mm} {st : List Value} (hl : st.length ≤ 4) (hF : FF 11 [.ref a] M = some (none, M')) : EE 43 119 [l0, l1] (.ref a :: st) M = EE 43 122 [l0, l1] st M' := e_cali d43_119 c2_11 rfl rfl rfl r43_11 hl hF
theorem d43_122 : decode (cod 43) 122 = .ok (.putfield 37, 3) := by decide +kernel
theorem s43_122 {n : Nat} {I : Nat → Nat → Int32} {R : Nat → Nat → Option Nat} {st : List Value} {l0 l1 : Option Value} {a : Nat} {v : Value} : EE 43 122 [l0, l1] (v :: .ref a :: st) (n, I, R) = (pfI n I R 2 7 a v).bind (fun z => EE 43 125 [l0, l1] st (n, z.1, z.2)) := e_putf d43_122 f2_37 rfl rfl (Or.inl ⟨rfl, Or.inl rfl⟩)
theorem d43_125 : decode (cod 43) 125 = .ok (.aload_n 0, 1) := by decide +kernel
theorem s43_125 {M : Mm} {st : List Value} {l1 : Option Value} {x : Nat} : EE 43 125 [some (.ref x), l1] st M = EE 43 126 [some (.ref x), l1] (.ref x :: st) M := e_ld d43_125 rfl rfl rfl rfl rfl rfl
theorem d43_126 : decode (cod 43) 126 = .ok (.new 9, 3) := by decide +kernel
theorem s43_126 {M : Mm} {st : List Value} {l0 l1 : Option Value} (h : M.1 < 202 ∧ kd (adr M.1) = 2) : EE 43 126 [l0, l1] st M = EE 43 129 [l0, l1] (.ref (adr M.1) :: st) (bn M) := e_new d43_126 n2_9 h
theorem d43_129 : decode (cod 43) 129 = .ok (.dup, 1) := by decide +kernel
theorem s43_129i {M : Mm} {st : List Value} {l0 l1 : Option Value} {x : Int32} : EE 43 129 [l0, l1] (.int x :: st) M = EE 43 130 [l0, l1] (.int x :: .int x :: st) M := e_dup d43_129 rfl
theorem s43_129r {M : Mm} {st : List Value} {l0 l1 : Option Value} {x : Nat} : EE 43 129 [l0, l1] (.ref x :: st) M = EE 43 130 [l0, l1] (.ref x :: .ref x :: st) M := e_dup d43_129 rfl
theorem d43_130 : decode (cod 43) 130 = .ok (.invokespecial 11, 3) := by decide +kernel
theorem s43_130 {l0 l1 : Option Value} {a : Nat} {M M' : Mm} {st : List Value} (hl : st.length ≤ 4) (hF : FF 11 [.ref a] M = some (none, M')) : EE 43 130 [l0, l1] (.ref a :: st) M = EE 43 133 [l0, l1] st M' := e_cali d43_130 c2_11 rfl rfl rfl r43_11 hl hF
theorem d43_133 : decode (cod 43) 133 = .ok (.putfield 40, 3) := by decide +kernel
theorem s43_133 {n : Nat} {I : Nat → Nat → Int32} {R : Nat → Nat → Option Nat} {st : List Value} {l0 l1 : Option Value} {a : Nat} {v : Value} : EE 43 133 [l0, l1] (v :: .ref a :: st) (n, I, R) = (pfI n I R 2 8 a v).bind (fun z => EE 43 136 [l0, l1] st (n, z.1, z.2)) := e_putf d43_133 f2_40 rfl rfl (Or.inl ⟨rfl, Or.inl rfl⟩)
theorem d43_136 : decode (cod 43) 136 = .ok (.aload_n 0, 1) := by decide +kernel
theorem s43_136 {M : Mm} {st : List Value} {l1 : Option Value} {x : Nat} : EE 43 136 [some (.ref x), l1] st M = EE 43 137 [some (.ref x), l1] (.ref x :: st) M := e_ld d43_136 rfl rfl rfl rfl rfl rfl
theorem d43_137 : decode (cod 43) 137 = .ok (.new 9, 3) := by decide +kernel
theorem s43_137 {M : Mm} {st : List Value} {l0 l1 : Option Value} (h : M.1 < 202 ∧ kd (adr M.1) = 2) : EE 43 137 [l0, l1] st M = EE 43 140 [l0, l1] (.ref (adr M.1) :: st) (bn M) := e_new d43_137 n2_9 h
theorem d43_140 : decode (cod 43) 140 = .ok (.dup, 1) := by decide +kernel
theorem s43_140i {M : Mm} {st : List Value} {l0 l1 : Option Value} {x : Int32} : EE 43 140 [l0, l1] (.int x :: st) M = EE 43 141 [l0, l1] (.int x :: .int x :: st) M := e_dup d43_140 rfl
theorem s43_140r {M : Mm} {st : List Value} {l0 l1 : Option Value} {x : Nat} : EE 43 140 [l0, l1] (.ref x :: st) M = EE 43 141 [l0, l1] (.ref x :: .ref x :: st) M := e_dup d43_140 rfl
theorem d43_141 : decode (cod 43) 141 = .ok (.invokespecial 11, 3) := by decide +kernel
theorem s43_141 {l0 l1 : Option Value} {a : Nat} {M M' : Mm} {st : List Value} (hl : st.length ≤ 4) (hF : FF 11 [.ref a] M = some (none, M')) : EE 43 141 [l0, l1] (.ref a :: st) M = EE 43 144 [l0, l1] st M' := e_cali d43_141 c2_11 rfl rfl rfl r43_11 hl hF
theorem d43_144 : decode (cod 43) 144 = .ok (.putfield 43, 3) := by decide +kernel
theorem s43_144 {n : Nat} {I : Nat → Nat → Int32} {R : Nat → Nat → Option Nat} {st : List Value} {l0 l1 : Option Value} {a : Nat} {v : Value} : EE 43 144 [l0, l1] (v :: .ref a :: st) (n, I, R) = (pfI n I R 2 9 a v).bind (fun z => EE 43 147 [l0, l1] st (n, z.1, z.2)) := e_putf d43_144 f2_43 rfl rfl (Or.inl ⟨rfl, Or.inl rfl⟩)
theorem d43_147 : decode (cod 43) 147 = .ok (.return_, 1) := by decide +kernel
theorem s43_147 {M : Mm} {l0 l1 : Option Value} : EE 43 147 [l0, l1] [] M = some (none, M) := e_vret d43_147 rfl
theorem FE43 {a : Nat} {M : Mm} : FF 43 [.ref a] M = EE 43 0 [some (.ref a), none] [] M := FF_eq 43 _ _ (Nat.le_of_ble_eq_true rfl)
theorem d44_0 : decode (cod 44) 0 = .ok (.aload_n 0, 1) := by decide +kernel
theorem s44_0 {M : Mm} {st : List Value} {l1 l2 : Option Value} {x : Nat} : EE 44 0 [some (.ref x), l1, l2] st M = EE 44 1 [some (.ref x), l1, l2] (.ref x :: st) M := e_ld d44_0 rfl rfl rfl rfl rfl rfl
theorem d44_1 : decode (cod 44) 1 = .ok (.getfield 16, 3) := by decide +kernel
theorem s44_1 {n : Nat} {I : Nat → Nat → Int32} {R : Nat → Nat → Option Nat} {st : List Value} {l0 l1 l2 : Option Value} {a : Nat} : EE 44 1 [l0, l1, l2] (.ref a :: st) (n, I, R) = (gfI n I R 2 1 a).bind (fun z => EE 44 4 [l0, l1, l2] (z :: st) (n, I, R)) := e_getf d44_1 f2_16 rfl rfl
theorem d44_4 : decode (cod 44) 4 = .ok (.aload_n 0, 1) := by decide +kernel
theorem s44_4 {M : Mm} {st : List Value} {l1 l2 : Option Value} {x : Nat} : EE 44 4 [some (.ref x), l1, l2] st M = EE 44 5 [some (.ref x), l1, l2] (.ref x :: st) M := e_ld d44_4 rfl rfl rfl rfl rfl rfl
theorem d44_5 : decode (cod 44) 5 = .ok (.getfield 12, 3) := by decide +kernel
theorem s44_5 {n : Nat} {I : Nat → Nat → Int32} {R : Nat → Nat → Option Nat} {st : List Value} {l0 l1 l2 : Option Value} {a : Nat} : EE 44 5 [l0, l1, l2] (.ref a :: st) (n, I, R) = (gfI n I R 2 0 a).bind (fun z => EE 44 8 [l0, l1, l2] (z :: st) (n, I, R)) := e_getf d44_5 f2_12 rfl rfl
theorem d44_8 : decode (cod 44) 8 = .ok (.invokevirtual 46, 3) := by decide +kernel
theorem s44_8 {l0 l1 l2 : Option Value} {a : Nat} {M : Mm} {b0 : Nat} {st : List Value} (hl : st.length ≤ 4) (ho : isO "HandoverDesk$State" M.1 a = true) : EE 44 8 [l0, l1, l2] (.ref b0 :: .ref a :: st) M = (FF 12 (.ref a :: [.ref b0]) M).bind (fun z => EE 44 11 [l0, l1, l2] (psh z.1 st) z.2) := e_calv (av := [.ref b0]) d44_8 c2_46 rfl rfl rfl r44_12 rfl hl ho
theorem d44_11 : decode (cod 44) 11 = .ok (.aload_n 0, 1) := by decide +kernel
theorem s44_11 {M : Mm} {st : List Value} {l1 l2 : Option Value} {x : Nat} : EE 44 11 [some (.ref x), l1, l2] st M = EE 44 12 [some (.ref x), l1, l2] (.ref x :: st) M := e_ld d44_11 rfl rfl rfl rfl rfl rfl
theorem d44_12 : decode (cod 44) 12 = .ok (.aload_n 0, 1) := by decide +kernel
theorem s44_12 {M : Mm} {st : List Value} {l1 l2 : Option Value} {x : Nat} : EE 44 12 [some (.ref x), l1, l2] st M = EE 44 13 [some (.ref x), l1, l2] (.ref x :: st) M := e_ld d44_12 rfl rfl rfl rfl rfl rfl
theorem d44_13 : decode (cod 44) 13 = .ok (.getfield 12, 3) := by decide +kernel
theorem s44_13 {n : Nat} {I : Nat → Nat → Int32} {R : Nat → Nat → Option Nat} {st : List Value} {l0 l1 l2 : Option Value} {a : Nat} : EE 44 13 [l0, l1, l2] (.ref a :: st) (n, I, R) = (gfI n I R 2 0 a).bind (fun z => EE 44 16 [l0, l1, l2] (z :: st) (n, I, R)) := e_getf d44_13 f2_12 rfl rfl
theorem d44_16 : decode (cod 44) 16 = .ok (.iload_n 1, 1) := by decide +kernel
theorem s44_16 {M : Mm} {st : List Value} {l0 l2 : Option Value} {x : Int32} : EE 44 16 [l0, some (.int x), l2] st M = EE 44 17 [l0, some (.int x), l2] (.int x :: st) M := e_ld d44_16 rfl rfl rfl rfl rfl rfl
theorem d44_17 : decode (cod 44) 17 = .ok (.iload_n 2, 1) := by decide +kernel
theorem s44_17 {M : Mm} {st : List Value} {l0 l1 : Option Value} {x : Int32} : EE 44 17 [l0, l1, some (.int x)] st M = EE 44 18 [l0, l1, some (.int x)] (.int x :: st) M := e_ld d44_17 rfl rfl rfl rfl rfl rfl
theorem d44_18 : decode (cod 44) 18 = .ok (.invokevirtual 50, 3) := by decide +kernel
theorem s44_18 {l0 l1 l2 : Option Value} {a : Nat} {M : Mm} {b0 : Int32} {b1 : Int32} {st : List Value} (hl : st.length ≤ 4) (ho : isO "HandoverDesk$State" M.1 a = true) : EE 44 18 [l0, l1, l2] (.int b1 :: .int b0 :: .ref a :: st) M = (FF 13 (.ref a :: [.int b0, .int b1]) M).bind (fun z => EE 44 21 [l0, l1, l2] (psh z.1 st) z.2) := e_calv (av := [.int b0, .int b1]) d44_18 c2_50 rfl rfl rfl r44_13 rfl hl ho
theorem d44_21 : decode (cod 44) 21 = .ok (.invokevirtual 54, 3) := by decide +kernel
theorem s44_21 {l0 l1 l2 : Option Value} {a : Nat} {M : Mm} {b0 : Int32} {st : List Value} (hl : st.length ≤ 4) (ho : isO "HandoverDesk" M.1 a = true) : EE 44 21 [l0, l1, l2] (.int b0 :: .ref a :: st) M = (FF 46 (.ref a :: [.int b0]) M).bind (fun z => EE 44 24 [l0, l1, l2] (psh z.1 st) z.2) := e_calv (av := [.int b0]) d44_21 c2_54 rfl rfl rfl r44_46 rfl hl ho
theorem d44_24 : decode (cod 44) 24 = .ok (.ireturn, 1) := by decide +kernel
theorem s44_24 {M : Mm} {l0 l1 l2 : Option Value} {v : Int32} : EE 44 24 [l0, l1, l2] [.int v] M = some (some (.int v), M) := e_iret d44_24 rfl rfl
theorem FE44 {a : Nat} {b0 : Int32} {b1 : Int32} {M : Mm} : FF 44 [.ref a, .int b0, .int b1] M = EE 44 0 [some (.ref a), some (.int b0), some (.int b1)] [] M := FF_eq 44 _ _ (Nat.le_of_ble_eq_true rfl)
theorem d45_0 : decode (cod 45) 0 = .ok (.iload_n 0, 1) := by decide +kernel
theorem s45_0 {M : Mm} {st : List Value} {x : Int32} : EE 45 0 [some (.int x)] st M = EE 45 1 [some (.int x)] (.int x :: st) M := e_ld d45_0 rfl rfl rfl rfl rfl rfl
theorem d45_1 : decode (cod 45) 1 = .ok (.ifCond .lt 13, 3) := by decide +kernel
theorem s45_1 {M : Mm} {st : List Value} {l0 : Option Value} {x : Int32} : EE 45 1 [l0] (.int x :: st) M = if x < 0 then EE 45 14 [l0] st M else EE 45 4 [l0] st M := e_lt0 d45_1 (by decide)
theorem d45_4 : decode (cod 45) 4 = .ok (.iload_n 0, 1) := by decide +kernel
theorem s45_4 {M : Mm} {st : List Value} {x : Int32} : EE 45 4 [some (.int x)] st M = EE 45 5 [some (.int x)] (.int x :: st) M := e_ld d45_4 rfl rfl rfl rfl rfl rfl
theorem d45_5 : decode (cod 45) 5 = .ok (.bipush 6, 2) := by decide +kernel
theorem s45_5 {M : Mm} {st : List Value} {l0 : Option Value} : EE 45 5 [l0] st M = EE 45 7 [l0] (.int (nI 6) :: st) M := e_bip d45_5 k_bip_6
theorem d45_7 : decode (cod 45) 7 = .ok (.if_icmp .ge 7, 3) := by decide +kernel
theorem s45_7 {M : Mm} {st : List Value} {l0 : Option Value} {x y : Int32} : EE 45 7 [l0] (.int y :: .int x :: st) M = if y ≤ x then EE 45 14 [l0] st M else EE 45 10 [l0] st M := e_cge d45_7 (by decide)
theorem d45_10 : decode (cod 45) 10 = .ok (.iconst 1, 1) := by decide +kernel
theorem s45_10 {M : Mm} {st : List Value} {l0 : Option Value} : EE 45 10 [l0] st M = EE 45 11 [l0] (.int (nI 1) :: st) M := e_con d45_10 k_con_1
theorem d45_11 : decode (cod 45) 11 = .ok (.goto 4, 3) := by decide +kernel
theorem s45_11 {M : Mm} {st : List Value} {l0 : Option Value} : EE 45 11 [l0] st M = EE 45 15 [l0] st M := e_goto d45_11 (by decide)
theorem d45_14 : decode (cod 45) 14 = .ok (.iconst 0, 1) := by decide +kernel
theorem s45_14 {M : Mm} {st : List Value} {l0 : Option Value} : EE 45 14 [l0] st M = EE 45 15 [l0] (.int (nI 0) :: st) M := e_con d45_14 k_con_0
theorem d45_15 : decode (cod 45) 15 = .ok (.ireturn, 1) := by decide +kernel
theorem s45_15 {M : Mm} {l0 : Option Value} {v : Int32} (h : narrow .boolean (.int v) = .int v) : EE 45 15 [l0] [.int v] M = some (some (.int v), M) := e_iret d45_15 rfl h
theorem FE45 {b0 : Int32} {M : Mm} : FF 45 [.int b0] M = EE 45 0 [some (.int b0)] [] M := FF_eq 45 _ _ (Nat.le_of_ble_eq_true rfl)
theorem d46_0 : decode (cod 46) 0 = .ok (.iload_n 1, 1) := by decide +kernel
theorem s46_0 {M : Mm} {st : List Value} {l0 l2 : Option Value} {x : Int32} : EE 46 0 [l0, some (.int x), l2] st M = EE 46 1 [l0, some (.int x), l2] (.int x :: st) M := e_ld d46_0 rfl rfl rfl rfl rfl rfl
theorem d46_1 : decode (cod 46) 1 = .ok (.ifCond .ge 5, 3) := by decide +kernel
theorem s46_1 {M : Mm} {st : List Value} {l0 l1 l2 : Option Value} {x : Int32} : EE 46 1 [l0, l1, l2] (.int x :: st) M = if 0 ≤ x then EE 46 6 [l0, l1, l2] st M else EE 46 4 [l0, l1, l2] st M := e_ge0 d46_1 (by decide)
theorem d46_4 : decode (cod 46) 4 = .ok (.iload_n 1, 1) := by decide +kernel
theorem s46_4 {M : Mm} {st : List Value} {l0 l2 : Option Value} {x : Int32} : EE 46 4 [l0, some (.int x), l2] st M = EE 46 5 [l0, some (.int x), l2] (.int x :: st) M := e_ld d46_4 rfl rfl rfl rfl rfl rfl
theorem d46_5 : decode (cod 46) 5 = .ok (.ireturn, 1) := by decide +kernel
theorem s46_5 {M : Mm} {l0 l1 l2 : Option Value} {v : Int32} : EE 46 5 [l0, l1, l2] [.int v] M = some (some (.int v), M) := e_iret d46_5 rfl rfl
theorem d46_6 : decode (cod 46) 6 = .ok (.aload_n 0, 1) := by decide +kernel
theorem s46_6 {M : Mm} {st : List Value} {l1 l2 : Option Value} {x : Nat} : EE 46 6 [some (.ref x), l1, l2] st M = EE 46 7 [some (.ref x), l1, l2] (.ref x :: st) M := e_ld d46_6 rfl rfl rfl rfl rfl rfl
theorem d46_7 : decode (cod 46) 7 = .ok (.getfield 165, 3) := by decide +kernel
theorem s46_7 {n : Nat} {I : Nat → Nat → Int32} {R : Nat → Nat → Option Nat} {st : List Value} {l0 l1 l2 : Option Value} {a : Nat} : EE 46 7 [l0, l1, l2] (.ref a :: st) (n, I, R) = (gfI n I R 2 3 a).bind (fun z => EE 46 10 [l0, l1, l2] (z :: st) (n, I, R)) := e_getf d46_7 f2_165 rfl rfl
theorem d46_10 : decode (cod 46) 10 = .ok (.bipush 6, 2) := by decide +kernel
theorem s46_10 {M : Mm} {st : List Value} {l0 l1 l2 : Option Value} : EE 46 10 [l0, l1, l2] st M = EE 46 12 [l0, l1, l2] (.int (nI 6) :: st) M := e_bip d46_10 k_bip_6
theorem d46_12 : decode (cod 46) 12 = .ok (.if_icmp .lt 7, 3) := by decide +kernel
theorem s46_12 {M : Mm} {st : List Value} {l0 l1 l2 : Option Value} {x y : Int32} : EE 46 12 [l0, l1, l2] (.int y :: .int x :: st) M = if x < y then EE 46 19 [l0, l1, l2] st M else EE 46 15 [l0, l1, l2] st M := e_clt d46_12 (by decide)
theorem d46_15 : decode (cod 46) 15 = .ok (.aload_n 0, 1) := by decide +kernel
theorem s46_15 {M : Mm} {st : List Value} {l1 l2 : Option Value} {x : Nat} : EE 46 15 [some (.ref x), l1, l2] st M = EE 46 16 [some (.ref x), l1, l2] (.ref x :: st) M := e_ld d46_15 rfl rfl rfl rfl rfl rfl
theorem d46_16 : decode (cod 46) 16 = .ok (.invokevirtual 221, 3) := by decide +kernel
theorem s46_16 {l0 l1 l2 : Option Value} {a : Nat} {M : Mm} {st : List Value} (hl : st.length ≤ 4) (ho : isO "HandoverDesk" M.1 a = true) : EE 46 16 [l0, l1, l2] (.ref a :: st) M = (FF 47 (.ref a :: []) M).bind (fun z => EE 46 19 [l0, l1, l2] (psh z.1 st) z.2) := e_calv (av := []) d46_16 c2_221 rfl rfl rfl r46_47 rfl hl ho
theorem d46_19 : decode (cod 46) 19 = .ok (.aload_n 0, 1) := by decide +kernel
theorem s46_19 {M : Mm} {st : List Value} {l1 l2 : Option Value} {x : Nat} : EE 46 19 [some (.ref x), l1, l2] st M = EE 46 20 [some (.ref x), l1, l2] (.ref x :: st) M := e_ld d46_19 rfl rfl rfl rfl rfl rfl
theorem d46_20 : decode (cod 46) 20 = .ok (.getfield 19, 3) := by decide +kernel
theorem s46_20 {n : Nat} {I : Nat → Nat → Int32} {R : Nat → Nat → Option Nat} {st : List Value} {l0 l1 l2 : Option Value} {a : Nat} : EE 46 20 [l0, l1, l2] (.ref a :: st) (n, I, R) = (gfI n I R 2 2 a).bind (fun z => EE 46 23 [l0, l1, l2] (z :: st) (n, I, R)) := e_getf d46_20 f2_19 rfl rfl
theorem d46_23 : decode (cod 46) 23 = .ok (.aload_n 0, 1) := by decide +kernel
theorem s46_23 {M : Mm} {st : List Value} {l1 l2 : Option Value} {x : Nat} : EE 46 23 [some (.ref x), l1, l2] st M = EE 46 24 [some (.ref x), l1, l2] (.ref x :: st) M := e_ld d46_23 rfl rfl rfl rfl rfl rfl
theorem d46_24 : decode (cod 46) 24 = .ok (.getfield 165, 3) := by decide +kernel
theorem s46_24 {n : Nat} {I : Nat → Nat → Int32} {R : Nat → Nat → Option Nat} {st : List Value} {l0 l1 l2 : Option Value} {a : Nat} : EE 46 24 [l0, l1, l2] (.ref a :: st) (n, I, R) = (gfI n I R 2 3 a).bind (fun z => EE 46 27 [l0, l1, l2] (z :: st) (n, I, R)) := e_getf d46_24 f2_165 rfl rfl
theorem d46_27 : decode (cod 46) 27 = .ok (.aaload, 1) := by decide +kernel
theorem s46_27 {n : Nat} {I : Nat → Nat → Int32} {R : Nat → Nat → Option Nat} {st : List Value} {l0 l1 l2 : Option Value} {j : Int32} {a : Nat} (h : 8 ≤ kd a ∧ a < 1000 ∧ pos a < n ∧ inb j (ln a)) : EE 46 27 [l0, l1, l2] (.int j :: .ref a :: st) (n, I, R) = EE 46 28 [l0, l1, l2] (va_rf (R a j.toNatClampNeg) :: st) (n, I, R) := e_aald d46_27 h
theorem d46_28 : decode (cod 46) 28 = .ok (.astore_n 2, 1) := by decide +kernel
theorem s46_28 {M : Mm} {st : List Value} {l0 l1 l2 : Option Value} {x : Nat} : EE 46 28 [l0, l1, l2] (.ref x :: st) M = EE 46 29 [l0, cln l1, some (.ref x)] st M := e_st1 d46_28 rfl rfl rfl rfl rfl rfl rfl (Nat.le_of_ble_eq_true rfl) rfl
theorem d46_29 : decode (cod 46) 29 = .ok (.aload_n 0, 1) := by decide +kernel
theorem s46_29 {M : Mm} {st : List Value} {l1 l2 : Option Value} {x : Nat} : EE 46 29 [some (.ref x), l1, l2] st M = EE 46 30 [some (.ref x), l1, l2] (.ref x :: st) M := e_ld d46_29 rfl rfl rfl rfl rfl rfl
theorem d46_30 : decode (cod 46) 30 = .ok (.getfield 19, 3) := by decide +kernel
theorem s46_30 {n : Nat} {I : Nat → Nat → Int32} {R : Nat → Nat → Option Nat} {st : List Value} {l0 l1 l2 : Option Value} {a : Nat} : EE 46 30 [l0, l1, l2] (.ref a :: st) (n, I, R) = (gfI n I R 2 2 a).bind (fun z => EE 46 33 [l0, l1, l2] (z :: st) (n, I, R)) := e_getf d46_30 f2_19 rfl rfl
theorem d46_33 : decode (cod 46) 33 = .ok (.aload_n 0, 1) := by decide +kernel
theorem s46_33 {M : Mm} {st : List Value} {l1 l2 : Option Value} {x : Nat} : EE 46 33 [some (.ref x), l1, l2] st M = EE 46 34 [some (.ref x), l1, l2] (.ref x :: st) M := e_ld d46_33 rfl rfl rfl rfl rfl rfl
theorem d46_34 : decode (cod 46) 34 = .ok (.getfield 165, 3) := by decide +kernel
theorem s46_34 {n : Nat} {I : Nat → Nat → Int32} {R : Nat → Nat → Option Nat} {st : List Value} {l0 l1 l2 : Option Value} {a : Nat} : EE 46 34 [l0, l1, l2] (.ref a :: st) (n, I, R) = (gfI n I R 2 3 a).bind (fun z => EE 46 37 [l0, l1, l2] (z :: st) (n, I, R)) := e_getf d46_34 f2_165 rfl rfl
theorem d46_37 : decode (cod 46) 37 = .ok (.aload_n 0, 1) := by decide +kernel
theorem s46_37 {M : Mm} {st : List Value} {l1 l2 : Option Value} {x : Nat} : EE 46 37 [some (.ref x), l1, l2] st M = EE 46 38 [some (.ref x), l1, l2] (.ref x :: st) M := e_ld d46_37 rfl rfl rfl rfl rfl rfl
theorem d46_38 : decode (cod 46) 38 = .ok (.getfield 16, 3) := by decide +kernel
theorem s46_38 {n : Nat} {I : Nat → Nat → Int32} {R : Nat → Nat → Option Nat} {st : List Value} {l0 l1 l2 : Option Value} {a : Nat} : EE 46 38 [l0, l1, l2] (.ref a :: st) (n, I, R) = (gfI n I R 2 1 a).bind (fun z => EE 46 41 [l0, l1, l2] (z :: st) (n, I, R)) := e_getf d46_38 f2_16 rfl rfl
theorem d46_41 : decode (cod 46) 41 = .ok (.aastore, 1) := by decide +kernel
theorem s46_41 {n : Nat} {I : Nat → Nat → Int32} {R : Nat → Nat → Option Nat} {st : List Value} {l0 l1 l2 : Option Value} {j : Int32} {a b : Nat} (h : kd a = 8 ∧ a < 1000 ∧ pos a < n ∧ inb j (ln a) ∧ kd b = 2 ∧ b < 1000 ∧ pos b < n) : EE 46 41 [l0, l1, l2] (.ref b :: .int j :: .ref a :: st) (n, I, R) = EE 46 42 [l0, l1, l2] st (n, I, wR R a j.toNatClampNeg (some b)) := e_aast d46_41 h
theorem d46_42 : decode (cod 46) 42 = .ok (.aload_n 0, 1) := by decide +kernel
theorem s46_42 {M : Mm} {st : List Value} {l1 l2 : Option Value} {x : Nat} : EE 46 42 [some (.ref x), l1, l2] st M = EE 46 43 [some (.ref x), l1, l2] (.ref x :: st) M := e_ld d46_42 rfl rfl rfl rfl rfl rfl
theorem d46_43 : decode (cod 46) 43 = .ok (.aload_n 2, 1) := by decide +kernel
theorem s46_43 {M : Mm} {st : List Value} {l0 l1 : Option Value} {x : Nat} : EE 46 43 [l0, l1, some (.ref x)] st M = EE 46 44 [l0, l1, some (.ref x)] (.ref x :: st) M := e_ld d46_43 rfl rfl rfl rfl rfl rfl
theorem d46_44 : decode (cod 46) 44 = .ok (.putfield 16, 3) := by decide +kernel
theorem s46_44 {n : Nat} {I : Nat → Nat → Int32} {R : Nat → Nat → Option Nat} {st : List Value} {l0 l1 l2 : Option Value} {a : Nat} {v : Value} : EE 46 44 [l0, l1, l2] (v :: .ref a :: st) (n, I, R) = (pfI n I R 2 1 a v).bind (fun z => EE 46 47 [l0, l1, l2] st (n, z.1, z.2)) := e_putf d46_44 f2_16 rfl rfl (Or.inr rfl)
theorem d46_47 : decode (cod 46) 47 = .ok (.aload_n 0, 1) := by decide +kernel
theorem s46_47 {M : Mm} {st : List Value} {l1 l2 : Option Value} {x : Nat} : EE 46 47 [some (.ref x), l1, l2] st M = EE 46 48 [some (.ref x), l1, l2] (.ref x :: st) M := e_ld d46_47 rfl rfl rfl rfl rfl rfl
theorem d46_48 : decode (cod 46) 48 = .ok (.dup, 1) := by decide +kernel
theorem s46_48i {M : Mm} {st : List Value} {l0 l1 l2 : Option Value} {x : Int32} : EE 46 48 [l0, l1, l2] (.int x :: st) M = EE 46 49 [l0, l1, l2] (.int x :: .int x :: st) M := e_dup d46_48 rfl
theorem s46_48r {M : Mm} {st : List Value} {l0 l1 l2 : Option Value} {x : Nat} : EE 46 48 [l0, l1, l2] (.ref x :: st) M = EE 46 49 [l0, l1, l2] (.ref x :: .ref x :: st) M := e_dup d46_48 rfl
theorem d46_49 : decode (cod 46) 49 = .ok (.getfield 165, 3) := by decide +kernel
theorem s46_49 {n : Nat} {I : Nat → Nat → Int32} {R : Nat → Nat → Option Nat} {st : List Value} {l0 l1 l2 : Option Value} {a : Nat} : EE 46 49 [l0, l1, l2] (.ref a :: st) (n, I, R) = (gfI n I R 2 3 a).bind (fun z => EE 46 52 [l0, l1, l2] (z :: st) (n, I, R)) := e_getf d46_49 f2_165 rfl rfl
theorem d46_52 : decode (cod 46) 52 = .ok (.iconst 1, 1) := by decide +kernel
theorem s46_52 {M : Mm} {st : List Value} {l0 l1 l2 : Option Value} : EE 46 52 [l0, l1, l2] st M = EE 46 53 [l0, l1, l2] (.int (nI 1) :: st) M := e_con d46_52 k_con_1
theorem d46_53 : decode (cod 46) 53 = .ok (.iadd, 1) := by decide +kernel
theorem s46_53 {M : Mm} {st : List Value} {l0 l1 l2 : Option Value} {x y : Int32} : EE 46 53 [l0, l1, l2] (.int y :: .int x :: st) M = EE 46 54 [l0, l1, l2] (.int (x + y) :: st) M := e_II d46_53 rfl rfl rfl rfl rfl rfl
theorem d46_54 : decode (cod 46) 54 = .ok (.putfield 165, 3) := by decide +kernel
theorem s46_54 {n : Nat} {I : Nat → Nat → Int32} {R : Nat → Nat → Option Nat} {st : List Value} {l0 l1 l2 : Option Value} {a : Nat} {v : Value} : EE 46 54 [l0, l1, l2] (v :: .ref a :: st) (n, I, R) = (pfI n I R 2 3 a v).bind (fun z => EE 46 57 [l0, l1, l2] st (n, z.1, z.2)) := e_putf d46_54 f2_165 rfl rfl (Or.inr rfl)
theorem d46_57 : decode (cod 46) 57 = .ok (.iload_n 1, 1) := by decide +kernel
theorem s46_57 {M : Mm} {st : List Value} {l0 l2 : Option Value} {x : Int32} : EE 46 57 [l0, some (.int x), l2] st M = EE 46 58 [l0, some (.int x), l2] (.int x :: st) M := e_ld d46_57 rfl rfl rfl rfl rfl rfl
theorem d46_58 : decode (cod 46) 58 = .ok (.ireturn, 1) := by decide +kernel
theorem s46_58 {M : Mm} {l0 l1 l2 : Option Value} {v : Int32} : EE 46 58 [l0, l1, l2] [.int v] M = some (some (.int v), M) := e_iret d46_58 rfl rfl
theorem FE46 {a : Nat} {b0 : Int32} {M : Mm} : FF 46 [.ref a, .int b0] M = EE 46 0 [some (.ref a), some (.int b0), none] [] M := FF_eq 46 _ _ (Nat.le_of_ble_eq_true rfl)
theorem d47_0 : decode (cod 47) 0 = .ok (.aload_n 0, 1) := by decide +kernel
theorem s47_0 {M : Mm} {st : List Value} {l1 l2 : Option Value} {x : Nat} : EE 47 0 [some (.ref x), l1, l2] st M = EE 47 1 [some (.ref x), l1, l2] (.ref x :: st) M := e_ld d47_0 rfl rfl rfl rfl rfl rfl
theorem d47_1 : decode (cod 47) 1 = .ok (.getfield 19, 3) := by decide +kernel
theorem s47_1 {n : Nat} {I : Nat → Nat → Int32} {R : Nat → Nat → Option Nat} {st : List Value} {l0 l1 l2 : Option Value} {a : Nat} : EE 47 1 [l0, l1, l2] (.ref a :: st) (n, I, R) = (gfI n I R 2 2 a).bind (fun z => EE 47 4 [l0, l1, l2] (z :: st) (n, I, R)) := e_getf d47_1 f2_19 rfl rfl
theorem d47_4 : decode (cod 47) 4 = .ok (.iconst 0, 1) := by decide +kernel
theorem s47_4 {M : Mm} {st : List Value} {l0 l1 l2 : Option Value} : EE 47 4 [l0, l1, l2] st M = EE 47 5 [l0, l1, l2] (.int (nI 0) :: st) M := e_con d47_4 k_con_0
theorem d47_5 : decode (cod 47) 5 = .ok (.aaload, 1) := by decide +kernel
theorem s47_5 {n : Nat} {I : Nat → Nat → Int32} {R : Nat → Nat → Option Nat} {st : List Value} {l0 l1 l2 : Option Value} {j : Int32} {a : Nat} (h : 8 ≤ kd a ∧ a < 1000 ∧ pos a < n ∧ inb j (ln a)) : EE 47 5 [l0, l1, l2] (.int j :: .ref a :: st) (n, I, R) = EE 47 6 [l0, l1, l2] (va_rf (R a j.toNatClampNeg) :: st) (n, I, R) := e_aald d47_5 h
theorem d47_6 : decode (cod 47) 6 = .ok (.astore_n 1, 1) := by decide +kernel
theorem s47_6 {M : Mm} {st : List Value} {l0 l1 l2 : Option Value} {x : Nat} : EE 47 6 [l0, l1, l2] (.ref x :: st) M = EE 47 7 [cln l0, some (.ref x), l2] st M := e_st1 d47_6 rfl rfl rfl rfl rfl rfl rfl (Nat.le_of_ble_eq_true rfl) rfl
theorem d47_7 : decode (cod 47) 7 = .ok (.iconst 1, 1) := by decide +kernel
theorem s47_7 {M : Mm} {st : List Value} {l0 l1 l2 : Option Value} : EE 47 7 [l0, l1, l2] st M = EE 47 8 [l0, l1, l2] (.int (nI 1) :: st) M := e_con d47_7 k_con_1
theorem d47_8 : decode (cod 47) 8 = .ok (.istore_n 2, 1) := by decide +kernel
theorem s47_8 {M : Mm} {st : List Value} {l0 l1 l2 : Option Value} {x : Int32} : EE 47 8 [l0, l1, l2] (.int x :: st) M = EE 47 9 [l0, cln l1, some (.int x)] st M := e_st1 d47_8 rfl rfl rfl rfl rfl rfl rfl (Nat.le_of_ble_eq_true rfl) rfl
theorem d47_9 : decode (cod 47) 9 = .ok (.iload_n 2, 1) := by decide +kernel
theorem s47_9 {M : Mm} {st : List Value} {l0 l1 : Option Value} {x : Int32} : EE 47 9 [l0, l1, some (.int x)] st M = EE 47 10 [l0, l1, some (.int x)] (.int x :: st) M := e_ld d47_9 rfl rfl rfl rfl rfl rfl
theorem d47_10 : decode (cod 47) 10 = .ok (.bipush 6, 2) := by decide +kernel
theorem s47_10 {M : Mm} {st : List Value} {l0 l1 l2 : Option Value} : EE 47 10 [l0, l1, l2] st M = EE 47 12 [l0, l1, l2] (.int (nI 6) :: st) M := e_bip d47_10 k_bip_6
theorem d47_12 : decode (cod 47) 12 = .ok (.if_icmp .ge 23, 3) := by decide +kernel
theorem s47_12 {M : Mm} {st : List Value} {l0 l1 l2 : Option Value} {x y : Int32} : EE 47 12 [l0, l1, l2] (.int y :: .int x :: st) M = if y ≤ x then EE 47 35 [l0, l1, l2] st M else EE 47 15 [l0, l1, l2] st M := e_cge d47_12 (by decide)
theorem d47_15 : decode (cod 47) 15 = .ok (.aload_n 0, 1) := by decide +kernel
theorem s47_15 {M : Mm} {st : List Value} {l1 l2 : Option Value} {x : Nat} : EE 47 15 [some (.ref x), l1, l2] st M = EE 47 16 [some (.ref x), l1, l2] (.ref x :: st) M := e_ld d47_15 rfl rfl rfl rfl rfl rfl
theorem d47_16 : decode (cod 47) 16 = .ok (.getfield 19, 3) := by decide +kernel
theorem s47_16 {n : Nat} {I : Nat → Nat → Int32} {R : Nat → Nat → Option Nat} {st : List Value} {l0 l1 l2 : Option Value} {a : Nat} : EE 47 16 [l0, l1, l2] (.ref a :: st) (n, I, R) = (gfI n I R 2 2 a).bind (fun z => EE 47 19 [l0, l1, l2] (z :: st) (n, I, R)) := e_getf d47_16 f2_19 rfl rfl
theorem d47_19 : decode (cod 47) 19 = .ok (.iload_n 2, 1) := by decide +kernel
theorem s47_19 {M : Mm} {st : List Value} {l0 l1 : Option Value} {x : Int32} : EE 47 19 [l0, l1, some (.int x)] st M = EE 47 20 [l0, l1, some (.int x)] (.int x :: st) M := e_ld d47_19 rfl rfl rfl rfl rfl rfl
theorem d47_20 : decode (cod 47) 20 = .ok (.iconst 1, 1) := by decide +kernel
theorem s47_20 {M : Mm} {st : List Value} {l0 l1 l2 : Option Value} : EE 47 20 [l0, l1, l2] st M = EE 47 21 [l0, l1, l2] (.int (nI 1) :: st) M := e_con d47_20 k_con_1
theorem d47_21 : decode (cod 47) 21 = .ok (.isub, 1) := by decide +kernel
theorem s47_21 {M : Mm} {st : List Value} {l0 l1 l2 : Option Value} {x y : Int32} : EE 47 21 [l0, l1, l2] (.int y :: .int x :: st) M = EE 47 22 [l0, l1, l2] (.int (x - y) :: st) M := e_II d47_21 rfl rfl rfl rfl rfl rfl
theorem d47_22 : decode (cod 47) 22 = .ok (.aload_n 0, 1) := by decide +kernel
theorem s47_22 {M : Mm} {st : List Value} {l1 l2 : Option Value} {x : Nat} : EE 47 22 [some (.ref x), l1, l2] st M = EE 47 23 [some (.ref x), l1, l2] (.ref x :: st) M := e_ld d47_22 rfl rfl rfl rfl rfl rfl
theorem d47_23 : decode (cod 47) 23 = .ok (.getfield 19, 3) := by decide +kernel
theorem s47_23 {n : Nat} {I : Nat → Nat → Int32} {R : Nat → Nat → Option Nat} {st : List Value} {l0 l1 l2 : Option Value} {a : Nat} : EE 47 23 [l0, l1, l2] (.ref a :: st) (n, I, R) = (gfI n I R 2 2 a).bind (fun z => EE 47 26 [l0, l1, l2] (z :: st) (n, I, R)) := e_getf d47_23 f2_19 rfl rfl
theorem d47_26 : decode (cod 47) 26 = .ok (.iload_n 2, 1) := by decide +kernel
theorem s47_26 {M : Mm} {st : List Value} {l0 l1 : Option Value} {x : Int32} : EE 47 26 [l0, l1, some (.int x)] st M = EE 47 27 [l0, l1, some (.int x)] (.int x :: st) M := e_ld d47_26 rfl rfl rfl rfl rfl rfl
theorem d47_27 : decode (cod 47) 27 = .ok (.aaload, 1) := by decide +kernel
theorem s47_27 {n : Nat} {I : Nat → Nat → Int32} {R : Nat → Nat → Option Nat} {st : List Value} {l0 l1 l2 : Option Value} {j : Int32} {a : Nat} (h : 8 ≤ kd a ∧ a < 1000 ∧ pos a < n ∧ inb j (ln a)) : EE 47 27 [l0, l1, l2] (.int j :: .ref a :: st) (n, I, R) = EE 47 28 [l0, l1, l2] (va_rf (R a j.toNatClampNeg) :: st) (n, I, R) := e_aald d47_27 h
theorem d47_28 : decode (cod 47) 28 = .ok (.aastore, 1) := by decide +kernel
theorem s47_28 {n : Nat} {I : Nat → Nat → Int32} {R : Nat → Nat → Option Nat} {st : List Value} {l0 l1 l2 : Option Value} {j : Int32} {a b : Nat} (h : kd a = 8 ∧ a < 1000 ∧ pos a < n ∧ inb j (ln a) ∧ kd b = 2 ∧ b < 1000 ∧ pos b < n) : EE 47 28 [l0, l1, l2] (.ref b :: .int j :: .ref a :: st) (n, I, R) = EE 47 29 [l0, l1, l2] st (n, I, wR R a j.toNatClampNeg (some b)) := e_aast d47_28 h
theorem d47_29 : decode (cod 47) 29 = .ok (.iinc 2 1, 3) := by decide +kernel
theorem s47_29 {M : Mm} {st : List Value} {l0 l1 : Option Value} {x : Int32} : EE 47 29 [l0, l1, some (.int x)] st M = EE 47 32 [l0, cln l1, some (.int (x + nI 1))] st M := e_iinc d47_29 rfl (congrArg (fun z => x + z) k_inc_1) rfl
theorem d47_32 : decode (cod 47) 32 = .ok (.goto (-23), 3) := by decide +kernel
theorem s47_32 {M : Mm} {st : List Value} {l0 l1 l2 : Option Value} : EE 47 32 [l0, l1, l2] st M = EE 47 9 [l0, l1, l2] st M := e_goto d47_32 (by decide)
theorem d47_35 : decode (cod 47) 35 = .ok (.aload_n 0, 1) := by decide +kernel
theorem s47_35 {M : Mm} {st : List Value} {l1 l2 : Option Value} {x : Nat} : EE 47 35 [some (.ref x), l1, l2] st M = EE 47 36 [some (.ref x), l1, l2] (.ref x :: st) M := e_ld d47_35 rfl rfl rfl rfl rfl rfl
theorem d47_36 : decode (cod 47) 36 = .ok (.getfield 19, 3) := by decide +kernel
theorem s47_36 {n : Nat} {I : Nat → Nat → Int32} {R : Nat → Nat → Option Nat} {st : List Value} {l0 l1 l2 : Option Value} {a : Nat} : EE 47 36 [l0, l1, l2] (.ref a :: st) (n, I, R) = (gfI n I R 2 2 a).bind (fun z => EE 47 39 [l0, l1, l2] (z :: st) (n, I, R)) := e_getf d47_36 f2_19 rfl rfl
theorem d47_39 : decode (cod 47) 39 = .ok (.iconst 5, 1) := by decide +kernel
theorem s47_39 {M : Mm} {st : List Value} {l0 l1 l2 : Option Value} : EE 47 39 [l0, l1, l2] st M = EE 47 40 [l0, l1, l2] (.int (nI 5) :: st) M := e_con d47_39 k_con_5
theorem d47_40 : decode (cod 47) 40 = .ok (.aload_n 1, 1) := by decide +kernel
theorem s47_40 {M : Mm} {st : List Value} {l0 l2 : Option Value} {x : Nat} : EE 47 40 [l0, some (.ref x), l2] st M = EE 47 41 [l0, some (.ref x), l2] (.ref x :: st) M := e_ld d47_40 rfl rfl rfl rfl rfl rfl
theorem d47_41 : decode (cod 47) 41 = .ok (.aastore, 1) := by decide +kernel
theorem s47_41 {n : Nat} {I : Nat → Nat → Int32} {R : Nat → Nat → Option Nat} {st : List Value} {l0 l1 l2 : Option Value} {j : Int32} {a b : Nat} (h : kd a = 8 ∧ a < 1000 ∧ pos a < n ∧ inb j (ln a) ∧ kd b = 2 ∧ b < 1000 ∧ pos b < n) : EE 47 41 [l0, l1, l2] (.ref b :: .int j :: .ref a :: st) (n, I, R) = EE 47 42 [l0, l1, l2] st (n, I, wR R a j.toNatClampNeg (some b)) := e_aast d47_41 h
theorem d47_42 : decode (cod 47) 42 = .ok (.aload_n 0, 1) := by decide +kernel
theorem s47_42 {M : Mm} {st : List Value} {l1 l2 : Option Value} {x : Nat} : EE 47 42 [some (.ref x), l1, l2] st M = EE 47 43 [some (.ref x), l1, l2] (.ref x :: st) M := e_ld d47_42 rfl rfl rfl rfl rfl rfl
theorem d47_43 : decode (cod 47) 43 = .ok (.iconst 5, 1) := by decide +kernel
theorem s47_43 {M : Mm} {st : List Value} {l0 l1 l2 : Option Value} : EE 47 43 [l0, l1, l2] st M = EE 47 44 [l0, l1, l2] (.int (nI 5) :: st) M := e_con d47_43 k_con_5
theorem d47_44 : decode (cod 47) 44 = .ok (.putfield 165, 3) := by decide +kernel
theorem s47_44 {n : Nat} {I : Nat → Nat → Int32} {R : Nat → Nat → Option Nat} {st : List Value} {l0 l1 l2 : Option Value} {a : Nat} {v : Value} : EE 47 44 [l0, l1, l2] (v :: .ref a :: st) (n, I, R) = (pfI n I R 2 3 a v).bind (fun z => EE 47 47 [l0, l1, l2] st (n, z.1, z.2)) := e_putf d47_44 f2_165 rfl rfl (Or.inr rfl)
theorem d47_47 : decode (cod 47) 47 = .ok (.return_, 1) := by decide +kernel
theorem s47_47 {M : Mm} {l0 l1 l2 : Option Value} : EE 47 47 [l0, l1, l2] [] M = some (none, M) := e_vret d47_47 rfl
theorem FE47 {a : Nat} {M : Mm} : FF 47 [.ref a] M = EE 47 0 [some (.ref a), none, none] [] M := FF_eq 47 _ _ (Nat.le_of_ble_eq_true rfl)
theorem d48_0 : decode (cod 48) 0 = .ok (.aload_n 0, 1) := by decide +kernel
theorem s48_0 {M : Mm} {st : List Value} {l1 l2 : Option Value} {x : Nat} : EE 48 0 [some (.ref x), l1, l2] st M = EE 48 1 [some (.ref x), l1, l2] (.ref x :: st) M := e_ld d48_0 rfl rfl rfl rfl rfl rfl
theorem d48_1 : decode (cod 48) 1 = .ok (.getfield 16, 3) := by decide +kernel
theorem s48_1 {n : Nat} {I : Nat → Nat → Int32} {R : Nat → Nat → Option Nat} {st : List Value} {l0 l1 l2 : Option Value} {a : Nat} : EE 48 1 [l0, l1, l2] (.ref a :: st) (n, I, R) = (gfI n I R 2 1 a).bind (fun z => EE 48 4 [l0, l1, l2] (z :: st) (n, I, R)) := e_getf d48_1 f2_16 rfl rfl
theorem d48_4 : decode (cod 48) 4 = .ok (.aload_n 0, 1) := by decide +kernel
theorem s48_4 {M : Mm} {st : List Value} {l1 l2 : Option Value} {x : Nat} : EE 48 4 [some (.ref x), l1, l2] st M = EE 48 5 [some (.ref x), l1, l2] (.ref x :: st) M := e_ld d48_4 rfl rfl rfl rfl rfl rfl
theorem d48_5 : decode (cod 48) 5 = .ok (.getfield 12, 3) := by decide +kernel
theorem s48_5 {n : Nat} {I : Nat → Nat → Int32} {R : Nat → Nat → Option Nat} {st : List Value} {l0 l1 l2 : Option Value} {a : Nat} : EE 48 5 [l0, l1, l2] (.ref a :: st) (n, I, R) = (gfI n I R 2 0 a).bind (fun z => EE 48 8 [l0, l1, l2] (z :: st) (n, I, R)) := e_getf d48_5 f2_12 rfl rfl
theorem d48_8 : decode (cod 48) 8 = .ok (.invokevirtual 46, 3) := by decide +kernel
theorem s48_8 {l0 l1 l2 : Option Value} {a : Nat} {M : Mm} {b0 : Nat} {st : List Value} (hl : st.length ≤ 4) (ho : isO "HandoverDesk$State" M.1 a = true) : EE 48 8 [l0, l1, l2] (.ref b0 :: .ref a :: st) M = (FF 12 (.ref a :: [.ref b0]) M).bind (fun z => EE 48 11 [l0, l1, l2] (psh z.1 st) z.2) := e_calv (av := [.ref b0]) d48_8 c2_46 rfl rfl rfl r48_12 rfl hl ho
theorem d48_11 : decode (cod 48) 11 = .ok (.aload_n 0, 1) := by decide +kernel
theorem s48_11 {M : Mm} {st : List Value} {l1 l2 : Option Value} {x : Nat} : EE 48 11 [some (.ref x), l1, l2] st M = EE 48 12 [some (.ref x), l1, l2] (.ref x :: st) M := e_ld d48_11 rfl rfl rfl rfl rfl rfl
theorem d48_12 : decode (cod 48) 12 = .ok (.aload_n 0, 1) := by decide +kernel
theorem s48_12 {M : Mm} {st : List Value} {l1 l2 : Option Value} {x : Nat} : EE 48 12 [some (.ref x), l1, l2] st M = EE 48 13 [some (.ref x), l1, l2] (.ref x :: st) M := e_ld d48_12 rfl rfl rfl rfl rfl rfl
theorem d48_13 : decode (cod 48) 13 = .ok (.getfield 12, 3) := by decide +kernel
theorem s48_13 {n : Nat} {I : Nat → Nat → Int32} {R : Nat → Nat → Option Nat} {st : List Value} {l0 l1 l2 : Option Value} {a : Nat} : EE 48 13 [l0, l1, l2] (.ref a :: st) (n, I, R) = (gfI n I R 2 0 a).bind (fun z => EE 48 16 [l0, l1, l2] (z :: st) (n, I, R)) := e_getf d48_13 f2_12 rfl rfl
theorem d48_16 : decode (cod 48) 16 = .ok (.iload_n 1, 1) := by decide +kernel
theorem s48_16 {M : Mm} {st : List Value} {l0 l2 : Option Value} {x : Int32} : EE 48 16 [l0, some (.int x), l2] st M = EE 48 17 [l0, some (.int x), l2] (.int x :: st) M := e_ld d48_16 rfl rfl rfl rfl rfl rfl
theorem d48_17 : decode (cod 48) 17 = .ok (.iload_n 2, 1) := by decide +kernel
theorem s48_17 {M : Mm} {st : List Value} {l0 l1 : Option Value} {x : Int32} : EE 48 17 [l0, l1, some (.int x)] st M = EE 48 18 [l0, l1, some (.int x)] (.int x :: st) M := e_ld d48_17 rfl rfl rfl rfl rfl rfl
theorem d48_18 : decode (cod 48) 18 = .ok (.invokevirtual 58, 3) := by decide +kernel
theorem s48_18 {l0 l1 l2 : Option Value} {a : Nat} {M : Mm} {b0 : Int32} {b1 : Int32} {st : List Value} (hl : st.length ≤ 4) (ho : isO "HandoverDesk$State" M.1 a = true) : EE 48 18 [l0, l1, l2] (.int b1 :: .int b0 :: .ref a :: st) M = (FF 14 (.ref a :: [.int b0, .int b1]) M).bind (fun z => EE 48 21 [l0, l1, l2] (psh z.1 st) z.2) := e_calv (av := [.int b0, .int b1]) d48_18 c2_58 rfl rfl rfl r48_14 rfl hl ho
theorem d48_21 : decode (cod 48) 21 = .ok (.invokevirtual 54, 3) := by decide +kernel
theorem s48_21 {l0 l1 l2 : Option Value} {a : Nat} {M : Mm} {b0 : Int32} {st : List Value} (hl : st.length ≤ 4) (ho : isO "HandoverDesk" M.1 a = true) : EE 48 21 [l0, l1, l2] (.int b0 :: .ref a :: st) M = (FF 46 (.ref a :: [.int b0]) M).bind (fun z => EE 48 24 [l0, l1, l2] (psh z.1 st) z.2) := e_calv (av := [.int b0]) d48_21 c2_54 rfl rfl rfl r48_46 rfl hl ho
theorem d48_24 : decode (cod 48) 24 = .ok (.ireturn, 1) := by decide +kernel
theorem s48_24 {M : Mm} {l0 l1 l2 : Option Value} {v : Int32} : EE 48 24 [l0, l1, l2] [.int v] M = some (some (.int v), M) := e_iret d48_24 rfl rfl
theorem FE48 {a : Nat} {b0 : Int32} {b1 : Int32} {M : Mm} : FF 48 [.ref a, .int b0, .int b1] M = EE 48 0 [some (.ref a), some (.int b0), some (.int b1)] [] M := FF_eq 48 _ _ (Nat.le_of_ble_eq_true rfl)
theorem d49_0 : decode (cod 49) 0 = .ok (.iload_n 0, 1) := by decide +kernel
theorem s49_0 {M : Mm} {st : List Value} {x : Int32} : EE 49 0 [some (.int x)] st M = EE 49 1 [some (.int x)] (.int x :: st) M := e_ld d49_0 rfl rfl rfl rfl rfl rfl
theorem d49_1 : decode (cod 49) 1 = .ok (.ifCond .lt 13, 3) := by decide +kernel
theorem s49_1 {M : Mm} {st : List Value} {l0 : Option Value} {x : Int32} : EE 49 1 [l0] (.int x :: st) M = if x < 0 then EE 49 14 [l0] st M else EE 49 4 [l0] st M := e_lt0 d49_1 (by decide)
theorem d49_4 : decode (cod 49) 4 = .ok (.iload_n 0, 1) := by decide +kernel
theorem s49_4 {M : Mm} {st : List Value} {x : Int32} : EE 49 4 [some (.int x)] st M = EE 49 5 [some (.int x)] (.int x :: st) M := e_ld d49_4 rfl rfl rfl rfl rfl rfl
theorem d49_5 : decode (cod 49) 5 = .ok (.bipush 6, 2) := by decide +kernel
theorem s49_5 {M : Mm} {st : List Value} {l0 : Option Value} : EE 49 5 [l0] st M = EE 49 7 [l0] (.int (nI 6) :: st) M := e_bip d49_5 k_bip_6
theorem d49_7 : decode (cod 49) 7 = .ok (.if_icmp .ge 7, 3) := by decide +kernel
theorem s49_7 {M : Mm} {st : List Value} {l0 : Option Value} {x y : Int32} : EE 49 7 [l0] (.int y :: .int x :: st) M = if y ≤ x then EE 49 14 [l0] st M else EE 49 10 [l0] st M := e_cge d49_7 (by decide)
theorem d49_10 : decode (cod 49) 10 = .ok (.iconst 1, 1) := by decide +kernel
theorem s49_10 {M : Mm} {st : List Value} {l0 : Option Value} : EE 49 10 [l0] st M = EE 49 11 [l0] (.int (nI 1) :: st) M := e_con d49_10 k_con_1
theorem d49_11 : decode (cod 49) 11 = .ok (.goto 4, 3) := by decide +kernel
theorem s49_11 {M : Mm} {st : List Value} {l0 : Option Value} : EE 49 11 [l0] st M = EE 49 15 [l0] st M := e_goto d49_11 (by decide)
theorem d49_14 : decode (cod 49) 14 = .ok (.iconst 0, 1) := by decide +kernel
theorem s49_14 {M : Mm} {st : List Value} {l0 : Option Value} : EE 49 14 [l0] st M = EE 49 15 [l0] (.int (nI 0) :: st) M := e_con d49_14 k_con_0
theorem d49_15 : decode (cod 49) 15 = .ok (.ireturn, 1) := by decide +kernel
theorem s49_15 {M : Mm} {l0 : Option Value} {v : Int32} (h : narrow .boolean (.int v) = .int v) : EE 49 15 [l0] [.int v] M = some (some (.int v), M) := e_iret d49_15 rfl h
theorem FE49 {b0 : Int32} {M : Mm} : FF 49 [.int b0] M = EE 49 0 [some (.int b0)] [] M := FF_eq 49 _ _ (Nat.le_of_ble_eq_true rfl)
theorem d50_0 : decode (cod 50) 0 = .ok (.iload_n 0, 1) := by decide +kernel
theorem s50_0 {M : Mm} {st : List Value} {x : Int32} : EE 50 0 [some (.int x)] st M = EE 50 1 [some (.int x)] (.int x :: st) M := e_ld d50_0 rfl rfl rfl rfl rfl rfl
theorem d50_1 : decode (cod 50) 1 = .ok (.ifCond .lt 13, 3) := by decide +kernel
theorem s50_1 {M : Mm} {st : List Value} {l0 : Option Value} {x : Int32} : EE 50 1 [l0] (.int x :: st) M = if x < 0 then EE 50 14 [l0] st M else EE 50 4 [l0] st M := e_lt0 d50_1 (by decide)
theorem d50_4 : decode (cod 50) 4 = .ok (.iload_n 0, 1) := by decide +kernel
theorem s50_4 {M : Mm} {st : List Value} {x : Int32} : EE 50 4 [some (.int x)] st M = EE 50 5 [some (.int x)] (.int x :: st) M := e_ld d50_4 rfl rfl rfl rfl rfl rfl
theorem d50_5 : decode (cod 50) 5 = .ok (.bipush 12, 2) := by decide +kernel
theorem s50_5 {M : Mm} {st : List Value} {l0 : Option Value} : EE 50 5 [l0] st M = EE 50 7 [l0] (.int (nI 12) :: st) M := e_bip d50_5 k_bip_12
theorem d50_7 : decode (cod 50) 7 = .ok (.if_icmp .ge 7, 3) := by decide +kernel
theorem s50_7 {M : Mm} {st : List Value} {l0 : Option Value} {x y : Int32} : EE 50 7 [l0] (.int y :: .int x :: st) M = if y ≤ x then EE 50 14 [l0] st M else EE 50 10 [l0] st M := e_cge d50_7 (by decide)
theorem d50_10 : decode (cod 50) 10 = .ok (.iconst 1, 1) := by decide +kernel
theorem s50_10 {M : Mm} {st : List Value} {l0 : Option Value} : EE 50 10 [l0] st M = EE 50 11 [l0] (.int (nI 1) :: st) M := e_con d50_10 k_con_1
theorem d50_11 : decode (cod 50) 11 = .ok (.goto 4, 3) := by decide +kernel
theorem s50_11 {M : Mm} {st : List Value} {l0 : Option Value} : EE 50 11 [l0] st M = EE 50 15 [l0] st M := e_goto d50_11 (by decide)
theorem d50_14 : decode (cod 50) 14 = .ok (.iconst 0, 1) := by decide +kernel
theorem s50_14 {M : Mm} {st : List Value} {l0 : Option Value} : EE 50 14 [l0] st M = EE 50 15 [l0] (.int (nI 0) :: st) M := e_con d50_14 k_con_0
theorem d50_15 : decode (cod 50) 15 = .ok (.ireturn, 1) := by decide +kernel
theorem s50_15 {M : Mm} {l0 : Option Value} {v : Int32} (h : narrow .boolean (.int v) = .int v) : EE 50 15 [l0] [.int v] M = some (some (.int v), M) := e_iret d50_15 rfl h
theorem FE50 {b0 : Int32} {M : Mm} : FF 50 [.int b0] M = EE 50 0 [some (.int b0)] [] M := FF_eq 50 _ _ (Nat.le_of_ble_eq_true rfl)
theorem d51_0 : decode (cod 51) 0 = .ok (.aload_n 0, 1) := by decide +kernel
theorem s51_0 {M : Mm} {st : List Value} {l1 l2 : Option Value} {x : Nat} : EE 51 0 [some (.ref x), l1, l2] st M = EE 51 1 [some (.ref x), l1, l2] (.ref x :: st) M := e_ld d51_0 rfl rfl rfl rfl rfl rfl
theorem d51_1 : decode (cod 51) 1 = .ok (.getfield 16, 3) := by decide +kernel
theorem s51_1 {n : Nat} {I : Nat → Nat → Int32} {R : Nat → Nat → Option Nat} {st : List Value} {l0 l1 l2 : Option Value} {a : Nat} : EE 51 1 [l0, l1, l2] (.ref a :: st) (n, I, R) = (gfI n I R 2 1 a).bind (fun z => EE 51 4 [l0, l1, l2] (z :: st) (n, I, R)) := e_getf d51_1 f2_16 rfl rfl
theorem d51_4 : decode (cod 51) 4 = .ok (.aload_n 0, 1) := by decide +kernel
theorem s51_4 {M : Mm} {st : List Value} {l1 l2 : Option Value} {x : Nat} : EE 51 4 [some (.ref x), l1, l2] st M = EE 51 5 [some (.ref x), l1, l2] (.ref x :: st) M := e_ld d51_4 rfl rfl rfl rfl rfl rfl
theorem d51_5 : decode (cod 51) 5 = .ok (.getfield 12, 3) := by decide +kernel
theorem s51_5 {n : Nat} {I : Nat → Nat → Int32} {R : Nat → Nat → Option Nat} {st : List Value} {l0 l1 l2 : Option Value} {a : Nat} : EE 51 5 [l0, l1, l2] (.ref a :: st) (n, I, R) = (gfI n I R 2 0 a).bind (fun z => EE 51 8 [l0, l1, l2] (z :: st) (n, I, R)) := e_getf d51_5 f2_12 rfl rfl
theorem d51_8 : decode (cod 51) 8 = .ok (.invokevirtual 46, 3) := by decide +kernel
theorem s51_8 {l0 l1 l2 : Option Value} {a : Nat} {M : Mm} {b0 : Nat} {st : List Value} (hl : st.length ≤ 4) (ho : isO "HandoverDesk$State" M.1 a = true) : EE 51 8 [l0, l1, l2] (.ref b0 :: .ref a :: st) M = (FF 12 (.ref a :: [.ref b0]) M).bind (fun z => EE 51 11 [l0, l1, l2] (psh z.1 st) z.2) := e_calv (av := [.ref b0]) d51_8 c2_46 rfl rfl rfl r51_12 rfl hl ho
theorem d51_11 : decode (cod 51) 11 = .ok (.aload_n 0, 1) := by decide +kernel
theorem s51_11 {M : Mm} {st : List Value} {l1 l2 : Option Value} {x : Nat} : EE 51 11 [some (.ref x), l1, l2] st M = EE 51 12 [some (.ref x), l1, l2] (.ref x :: st) M := e_ld d51_11 rfl rfl rfl rfl rfl rfl
theorem d51_12 : decode (cod 51) 12 = .ok (.aload_n 0, 1) := by decide +kernel
theorem s51_12 {M : Mm} {st : List Value} {l1 l2 : Option Value} {x : Nat} : EE 51 12 [some (.ref x), l1, l2] st M = EE 51 13 [some (.ref x), l1, l2] (.ref x :: st) M := e_ld d51_12 rfl rfl rfl rfl rfl rfl
theorem d51_13 : decode (cod 51) 13 = .ok (.getfield 12, 3) := by decide +kernel
theorem s51_13 {n : Nat} {I : Nat → Nat → Int32} {R : Nat → Nat → Option Nat} {st : List Value} {l0 l1 l2 : Option Value} {a : Nat} : EE 51 13 [l0, l1, l2] (.ref a :: st) (n, I, R) = (gfI n I R 2 0 a).bind (fun z => EE 51 16 [l0, l1, l2] (z :: st) (n, I, R)) := e_getf d51_13 f2_12 rfl rfl
theorem d51_16 : decode (cod 51) 16 = .ok (.iload_n 1, 1) := by decide +kernel
theorem s51_16 {M : Mm} {st : List Value} {l0 l2 : Option Value} {x : Int32} : EE 51 16 [l0, some (.int x), l2] st M = EE 51 17 [l0, some (.int x), l2] (.int x :: st) M := e_ld d51_16 rfl rfl rfl rfl rfl rfl
theorem d51_17 : decode (cod 51) 17 = .ok (.iload_n 2, 1) := by decide +kernel
theorem s51_17 {M : Mm} {st : List Value} {l0 l1 : Option Value} {x : Int32} : EE 51 17 [l0, l1, some (.int x)] st M = EE 51 18 [l0, l1, some (.int x)] (.int x :: st) M := e_ld d51_17 rfl rfl rfl rfl rfl rfl
theorem d51_18 : decode (cod 51) 18 = .ok (.invokevirtual 61, 3) := by decide +kernel
theorem s51_18 {l0 l1 l2 : Option Value} {a : Nat} {M : Mm} {b0 : Int32} {b1 : Int32} {st : List Value} (hl : st.length ≤ 4) (ho : isO "HandoverDesk$State" M.1 a = true) : EE 51 18 [l0, l1, l2] (.int b1 :: .int b0 :: .ref a :: st) M = (FF 15 (.ref a :: [.int b0, .int b1]) M).bind (fun z => EE 51 21 [l0, l1, l2] (psh z.1 st) z.2) := e_calv (av := [.int b0, .int b1]) d51_18 c2_61 rfl rfl rfl r51_15 rfl hl ho
theorem d51_21 : decode (cod 51) 21 = .ok (.invokevirtual 54, 3) := by decide +kernel
theorem s51_21 {l0 l1 l2 : Option Value} {a : Nat} {M : Mm} {b0 : Int32} {st : List Value} (hl : st.length ≤ 4) (ho : isO "HandoverDesk" M.1 a = true) : EE 51 21 [l0, l1, l2] (.int b0 :: .ref a :: st) M = (FF 46 (.ref a :: [.int b0]) M).bind (fun z => EE 51 24 [l0, l1, l2] (psh z.1 st) z.2) := e_calv (av := [.int b0]) d51_21 c2_54 rfl rfl rfl r51_46 rfl hl ho
theorem d51_24 : decode (cod 51) 24 = .ok (.ireturn, 1) := by decide +kernel
theorem s51_24 {M : Mm} {l0 l1 l2 : Option Value} {v : Int32} : EE 51 24 [l0, l1, l2] [.int v] M = some (some (.int v), M) := e_iret d51_24 rfl rfl
theorem FE51 {a : Nat} {b0 : Int32} {b1 : Int32} {M : Mm} : FF 51 [.ref a, .int b0, .int b1] M = EE 51 0 [some (.ref a), some (.int b0), some (.int b1)] [] M := FF_eq 51 _ _ (Nat.le_of_ble_eq_true rfl)
theorem d52_0 : decode (cod 52) 0 = .ok (.aload_n 0, 1) := by decide +kernel
theorem s52_0 {M : Mm} {st : List Value} {x : Nat} : EE 52 0 [some (.ref x)] st M = EE 52 1 [some (.ref x)] (.ref x :: st) M := e_ld d52_0 rfl rfl rfl rfl rfl rfl
theorem d52_1 : decode (cod 52) 1 = .ok (.getfield 16, 3) := by decide +kernel
theorem s52_1 {n : Nat} {I : Nat → Nat → Int32} {R : Nat → Nat → Option Nat} {st : List Value} {l0 : Option Value} {a : Nat} : EE 52 1 [l0] (.ref a :: st) (n, I, R) = (gfI n I R 2 1 a).bind (fun z => EE 52 4 [l0] (z :: st) (n, I, R)) := e_getf d52_1 f2_16 rfl rfl
theorem d52_4 : decode (cod 52) 4 = .ok (.aload_n 0, 1) := by decide +kernel
theorem s52_4 {M : Mm} {st : List Value} {x : Nat} : EE 52 4 [some (.ref x)] st M = EE 52 5 [some (.ref x)] (.ref x :: st) M := e_ld d52_4 rfl rfl rfl rfl rfl rfl
theorem d52_5 : decode (cod 52) 5 = .ok (.getfield 12, 3) := by decide +kernel
theorem s52_5 {n : Nat} {I : Nat → Nat → Int32} {R : Nat → Nat → Option Nat} {st : List Value} {l0 : Option Value} {a : Nat} : EE 52 5 [l0] (.ref a :: st) (n, I, R) = (gfI n I R 2 0 a).bind (fun z => EE 52 8 [l0] (z :: st) (n, I, R)) := e_getf d52_5 f2_12 rfl rfl
theorem d52_8 : decode (cod 52) 8 = .ok (.invokevirtual 46, 3) := by decide +kernel
theorem s52_8 {l0 : Option Value} {a : Nat} {M : Mm} {b0 : Nat} {st : List Value} (hl : st.length ≤ 4) (ho : isO "HandoverDesk$State" M.1 a = true) : EE 52 8 [l0] (.ref b0 :: .ref a :: st) M = (FF 12 (.ref a :: [.ref b0]) M).bind (fun z => EE 52 11 [l0] (psh z.1 st) z.2) := e_calv (av := [.ref b0]) d52_8 c2_46 rfl rfl rfl r52_12 rfl hl ho
theorem d52_11 : decode (cod 52) 11 = .ok (.aload_n 0, 1) := by decide +kernel
theorem s52_11 {M : Mm} {st : List Value} {x : Nat} : EE 52 11 [some (.ref x)] st M = EE 52 12 [some (.ref x)] (.ref x :: st) M := e_ld d52_11 rfl rfl rfl rfl rfl rfl
theorem d52_12 : decode (cod 52) 12 = .ok (.aload_n 0, 1) := by decide +kernel
theorem s52_12 {M : Mm} {st : List Value} {x : Nat} : EE 52 12 [some (.ref x)] st M = EE 52 13 [some (.ref x)] (.ref x :: st) M := e_ld d52_12 rfl rfl rfl rfl rfl rfl
theorem d52_13 : decode (cod 52) 13 = .ok (.getfield 12, 3) := by decide +kernel
theorem s52_13 {n : Nat} {I : Nat → Nat → Int32} {R : Nat → Nat → Option Nat} {st : List Value} {l0 : Option Value} {a : Nat} : EE 52 13 [l0] (.ref a :: st) (n, I, R) = (gfI n I R 2 0 a).bind (fun z => EE 52 16 [l0] (z :: st) (n, I, R)) := e_getf d52_13 f2_12 rfl rfl
theorem d52_16 : decode (cod 52) 16 = .ok (.invokevirtual 64, 3) := by decide +kernel
theorem s52_16 {l0 : Option Value} {a : Nat} {M : Mm} {st : List Value} (hl : st.length ≤ 4) (ho : isO "HandoverDesk$State" M.1 a = true) : EE 52 16 [l0] (.ref a :: st) M = (FF 16 (.ref a :: []) M).bind (fun z => EE 52 19 [l0] (psh z.1 st) z.2) := e_calv (av := []) d52_16 c2_64 rfl rfl rfl r52_16 rfl hl ho
theorem d52_19 : decode (cod 52) 19 = .ok (.invokevirtual 54, 3) := by decide +kernel
theorem s52_19 {l0 : Option Value} {a : Nat} {M : Mm} {b0 : Int32} {st : List Value} (hl : st.length ≤ 4) (ho : isO "HandoverDesk" M.1 a = true) : EE 52 19 [l0] (.int b0 :: .ref a :: st) M = (FF 46 (.ref a :: [.int b0]) M).bind (fun z => EE 52 22 [l0] (psh z.1 st) z.2) := e_calv (av := [.int b0]) d52_19 c2_54 rfl rfl rfl r52_46 rfl hl ho
theorem d52_22 : decode (cod 52) 22 = .ok (.ireturn, 1) := by decide +kernel
theorem s52_22 {M : Mm} {l0 : Option Value} {v : Int32} : EE 52 22 [l0] [.int v] M = some (some (.int v), M) := e_iret d52_22 rfl rfl
theorem FE52 {a : Nat} {M : Mm} : FF 52 [.ref a] M = EE 52 0 [some (.ref a)] [] M := FF_eq 52 _ _ (Nat.le_of_ble_eq_true rfl)
theorem d53_0 : decode (cod 53) 0 = .ok (.aload_n 0, 1) := by decide +kernel
theorem s53_0 {M : Mm} {st : List Value} {l1 : Option Value} {x : Nat} : EE 53 0 [some (.ref x), l1] st M = EE 53 1 [some (.ref x), l1] (.ref x :: st) M := e_ld d53_0 rfl rfl rfl rfl rfl rfl
theorem d53_1 : decode (cod 53) 1 = .ok (.getfield 16, 3) := by decide +kernel
theorem s53_1 {n : Nat} {I : Nat → Nat → Int32} {R : Nat → Nat → Option Nat} {st : List Value} {l0 l1 : Option Value} {a : Nat} : EE 53 1 [l0, l1] (.ref a :: st) (n, I, R) = (gfI n I R 2 1 a).bind (fun z => EE 53 4 [l0, l1] (z :: st) (n, I, R)) := e_getf d53_1 f2_16 rfl rfl
theorem d53_4 : decode (cod 53) 4 = .ok (.aload_n 0, 1) := by decide +kernel
theorem s53_4 {M : Mm} {st : List Value} {l1 : Option Value} {x : Nat} : EE 53 4 [some (.ref x), l1] st M = EE 53 5 [some (.ref x), l1] (.ref x :: st) M := e_ld d53_4 rfl rfl rfl rfl rfl rfl
theorem d53_5 : decode (cod 53) 5 = .ok (.getfield 12, 3) := by decide +kernel
theorem s53_5 {n : Nat} {I : Nat → Nat → Int32} {R : Nat → Nat → Option Nat} {st : List Value} {l0 l1 : Option Value} {a : Nat} : EE 53 5 [l0, l1] (.ref a :: st) (n, I, R) = (gfI n I R 2 0 a).bind (fun z => EE 53 8 [l0, l1] (z :: st) (n, I, R)) := e_getf d53_5 f2_12 rfl rfl
theorem d53_8 : decode (cod 53) 8 = .ok (.invokevirtual 46, 3) := by decide +kernel
theorem s53_8 {l0 l1 : Option Value} {a : Nat} {M : Mm} {b0 : Nat} {st : List Value} (hl : st.length ≤ 4) (ho : isO "HandoverDesk$State" M.1 a = true) : EE 53 8 [l0, l1] (.ref b0 :: .ref a :: st) M = (FF 12 (.ref a :: [.ref b0]) M).bind (fun z => EE 53 11 [l0, l1] (psh z.1 st) z.2) := e_calv (av := [.ref b0]) d53_8 c2_46 rfl rfl rfl r53_12 rfl hl ho
theorem d53_11 : decode (cod 53) 11 = .ok (.aload_n 0, 1) := by decide +kernel
theorem s53_11 {M : Mm} {st : List Value} {l1 : Option Value} {x : Nat} : EE 53 11 [some (.ref x), l1] st M = EE 53 12 [some (.ref x), l1] (.ref x :: st) M := e_ld d53_11 rfl rfl rfl rfl rfl rfl
theorem d53_12 : decode (cod 53) 12 = .ok (.aload_n 0, 1) := by decide +kernel
theorem s53_12 {M : Mm} {st : List Value} {l1 : Option Value} {x : Nat} : EE 53 12 [some (.ref x), l1] st M = EE 53 13 [some (.ref x), l1] (.ref x :: st) M := e_ld d53_12 rfl rfl rfl rfl rfl rfl
theorem d53_13 : decode (cod 53) 13 = .ok (.getfield 12, 3) := by decide +kernel
theorem s53_13 {n : Nat} {I : Nat → Nat → Int32} {R : Nat → Nat → Option Nat} {st : List Value} {l0 l1 : Option Value} {a : Nat} : EE 53 13 [l0, l1] (.ref a :: st) (n, I, R) = (gfI n I R 2 0 a).bind (fun z => EE 53 16 [l0, l1] (z :: st) (n, I, R)) := e_getf d53_13 f2_12 rfl rfl
theorem d53_16 : decode (cod 53) 16 = .ok (.iload_n 1, 1) := by decide +kernel
theorem s53_16 {M : Mm} {st : List Value} {l0 : Option Value} {x : Int32} : EE 53 16 [l0, some (.int x)] st M = EE 53 17 [l0, some (.int x)] (.int x :: st) M := e_ld d53_16 rfl rfl rfl rfl rfl rfl
theorem d53_17 : decode (cod 53) 17 = .ok (.invokevirtual 68, 3) := by decide +kernel
theorem s53_17 {l0 l1 : Option Value} {a : Nat} {M : Mm} {b0 : Int32} {st : List Value} (hl : st.length ≤ 4) (ho : isO "HandoverDesk$State" M.1 a = true) : EE 53 17 [l0, l1] (.int b0 :: .ref a :: st) M = (FF 17 (.ref a :: [.int b0]) M).bind (fun z => EE 53 20 [l0, l1] (psh z.1 st) z.2) := e_calv (av := [.int b0]) d53_17 c2_68 rfl rfl rfl r53_17 rfl hl ho
theorem d53_20 : decode (cod 53) 20 = .ok (.invokevirtual 54, 3) := by decide +kernel
theorem s53_20 {l0 l1 : Option Value} {a : Nat} {M : Mm} {b0 : Int32} {st : List Value} (hl : st.length ≤ 4) (ho : isO "HandoverDesk" M.1 a = true) : EE 53 20 [l0, l1] (.int b0 :: .ref a :: st) M = (FF 46 (.ref a :: [.int b0]) M).bind (fun z => EE 53 23 [l0, l1] (psh z.1 st) z.2) := e_calv (av := [.int b0]) d53_20 c2_54 rfl rfl rfl r53_46 rfl hl ho
theorem d53_23 : decode (cod 53) 23 = .ok (.ireturn, 1) := by decide +kernel
theorem s53_23 {M : Mm} {l0 l1 : Option Value} {v : Int32} : EE 53 23 [l0, l1] [.int v] M = some (some (.int v), M) := e_iret d53_23 rfl rfl
theorem FE53 {a : Nat} {b0 : Int32} {M : Mm} : FF 53 [.ref a, .int b0] M = EE 53 0 [some (.ref a), some (.int b0)] [] M := FF_eq 53 _ _ (Nat.le_of_ble_eq_true rfl)
theorem d54_0 : decode (cod 54) 0 = .ok (.aload_n 0, 1) := by decide +kernel
theorem s54_0 {M : Mm} {st : List Value} {l1 : Option Value} {x : Nat} : EE 54 0 [some (.ref x), l1] st M = EE 54 1 [some (.ref x), l1] (.ref x :: st) M := e_ld d54_0 rfl rfl rfl rfl rfl rfl
theorem d54_1 : decode (cod 54) 1 = .ok (.getfield 16, 3) := by decide +kernel
theorem s54_1 {n : Nat} {I : Nat → Nat → Int32} {R : Nat → Nat → Option Nat} {st : List Value} {l0 l1 : Option Value} {a : Nat} : EE 54 1 [l0, l1] (.ref a :: st) (n, I, R) = (gfI n I R 2 1 a).bind (fun z => EE 54 4 [l0, l1] (z :: st) (n, I, R)) := e_getf d54_1 f2_16 rfl rfl
theorem d54_4 : decode (cod 54) 4 = .ok (.aload_n 0, 1) := by decide +kernel
theorem s54_4 {M : Mm} {st : List Value} {l1 : Option Value} {x : Nat} : EE 54 4 [some (.ref x), l1] st M = EE 54 5 [some (.ref x), l1] (.ref x :: st) M := e_ld d54_4 rfl rfl rfl rfl rfl rfl
theorem d54_5 : decode (cod 54) 5 = .ok (.getfield 12, 3) := by decide +kernel
theorem s54_5 {n : Nat} {I : Nat → Nat → Int32} {R : Nat → Nat → Option Nat} {st : List Value} {l0 l1 : Option Value} {a : Nat} : EE 54 5 [l0, l1] (.ref a :: st) (n, I, R) = (gfI n I R 2 0 a).bind (fun z => EE 54 8 [l0, l1] (z :: st) (n, I, R)) := e_getf d54_5 f2_12 rfl rfl
theorem d54_8 : decode (cod 54) 8 = .ok (.invokevirtual 46, 3) := by decide +kernel
theorem s54_8 {l0 l1 : Option Value} {a : Nat} {M : Mm} {b0 : Nat} {st : List Value} (hl : st.length ≤ 4) (ho : isO "HandoverDesk$State" M.1 a = true) : EE 54 8 [l0, l1] (.ref b0 :: .ref a :: st) M = (FF 12 (.ref a :: [.ref b0]) M).bind (fun z => EE 54 11 [l0, l1] (psh z.1 st) z.2) := e_calv (av := [.ref b0]) d54_8 c2_46 rfl rfl rfl r54_12 rfl hl ho
theorem d54_11 : decode (cod 54) 11 = .ok (.aload_n 0, 1) := by decide +kernel
theorem s54_11 {M : Mm} {st : List Value} {l1 : Option Value} {x : Nat} : EE 54 11 [some (.ref x), l1] st M = EE 54 12 [some (.ref x), l1] (.ref x :: st) M := e_ld d54_11 rfl rfl rfl rfl rfl rfl
theorem d54_12 : decode (cod 54) 12 = .ok (.aload_n 0, 1) := by decide +kernel
theorem s54_12 {M : Mm} {st : List Value} {l1 : Option Value} {x : Nat} : EE 54 12 [some (.ref x), l1] st M = EE 54 13 [some (.ref x), l1] (.ref x :: st) M := e_ld d54_12 rfl rfl rfl rfl rfl rfl
theorem d54_13 : decode (cod 54) 13 = .ok (.getfield 12, 3) := by decide +kernel
theorem s54_13 {n : Nat} {I : Nat → Nat → Int32} {R : Nat → Nat → Option Nat} {st : List Value} {l0 l1 : Option Value} {a : Nat} : EE 54 13 [l0, l1] (.ref a :: st) (n, I, R) = (gfI n I R 2 0 a).bind (fun z => EE 54 16 [l0, l1] (z :: st) (n, I, R)) := e_getf d54_13 f2_12 rfl rfl
theorem d54_16 : decode (cod 54) 16 = .ok (.iload_n 1, 1) := by decide +kernel
theorem s54_16 {M : Mm} {st : List Value} {l0 : Option Value} {x : Int32} : EE 54 16 [l0, some (.int x)] st M = EE 54 17 [l0, some (.int x)] (.int x :: st) M := e_ld d54_16 rfl rfl rfl rfl rfl rfl
theorem d54_17 : decode (cod 54) 17 = .ok (.invokevirtual 71, 3) := by decide +kernel
theorem s54_17 {l0 l1 : Option Value} {a : Nat} {M : Mm} {b0 : Int32} {st : List Value} (hl : st.length ≤ 4) (ho : isO "HandoverDesk$State" M.1 a = true) : EE 54 17 [l0, l1] (.int b0 :: .ref a :: st) M = (FF 20 (.ref a :: [.int b0]) M).bind (fun z => EE 54 20 [l0, l1] (psh z.1 st) z.2) := e_calv (av := [.int b0]) d54_17 c2_71 rfl rfl rfl r54_20 rfl hl ho
theorem d54_20 : decode (cod 54) 20 = .ok (.invokevirtual 54, 3) := by decide +kernel
theorem s54_20 {l0 l1 : Option Value} {a : Nat} {M : Mm} {b0 : Int32} {st : List Value} (hl : st.length ≤ 4) (ho : isO "HandoverDesk" M.1 a = true) : EE 54 20 [l0, l1] (.int b0 :: .ref a :: st) M = (FF 46 (.ref a :: [.int b0]) M).bind (fun z => EE 54 23 [l0, l1] (psh z.1 st) z.2) := e_calv (av := [.int b0]) d54_20 c2_54 rfl rfl rfl r54_46 rfl hl ho
theorem d54_23 : decode (cod 54) 23 = .ok (.ireturn, 1) := by decide +kernel
theorem s54_23 {M : Mm} {l0 l1 : Option Value} {v : Int32} : EE 54 23 [l0, l1] [.int v] M = some (some (.int v), M) := e_iret d54_23 rfl rfl
theorem FE54 {a : Nat} {b0 : Int32} {M : Mm} : FF 54 [.ref a, .int b0] M = EE 54 0 [some (.ref a), some (.int b0)] [] M := FF_eq 54 _ _ (Nat.le_of_ble_eq_true rfl)
theorem d55_0 : decode (cod 55) 0 = .ok (.aload_n 0, 1) := by decide +kernel
theorem s55_0 {M : Mm} {st : List Value} {l1 l2 l3 : Option Value} {x : Nat} : EE 55 0 [some (.ref x), l1, l2, l3] st M = EE 55 1 [some (.ref x), l1, l2, l3] (.ref x :: st) M := e_ld d55_0 rfl rfl rfl rfl rfl rfl
theorem d55_1 : decode (cod 55) 1 = .ok (.getfield 16, 3) := by decide +kernel
theorem s55_1 {n : Nat} {I : Nat → Nat → Int32} {R : Nat → Nat → Option Nat} {st : List Value} {l0 l1 l2 l3 : Option Value} {a : Nat} : EE 55 1 [l0, l1, l2, l3] (.ref a :: st) (n, I, R) = (gfI n I R 2 1 a).bind (fun z => EE 55 4 [l0, l1, l2, l3] (z :: st) (n, I, R)) := e_getf d55_1 f2_16 rfl rfl
theorem d55_4 : decode (cod 55) 4 = .ok (.aload_n 0, 1) := by decide +kernel
theorem s55_4 {M : Mm} {st : List Value} {l1 l2 l3 : Option Value} {x : Nat} : EE 55 4 [some (.ref x), l1, l2, l3] st M = EE 55 5 [some (.ref x), l1, l2, l3] (.ref x :: st) M := e_ld d55_4 rfl rfl rfl rfl rfl rfl
theorem d55_5 : decode (cod 55) 5 = .ok (.getfield 12, 3) := by decide +kernel
theorem s55_5 {n : Nat} {I : Nat → Nat → Int32} {R : Nat → Nat → Option Nat} {st : List Value} {l0 l1 l2 l3 : Option Value} {a : Nat} : EE 55 5 [l0, l1, l2, l3] (.ref a :: st) (n, I, R) = (gfI n I R 2 0 a).bind (fun z => EE 55 8 [l0, l1, l2, l3] (z :: st) (n, I, R)) := e_getf d55_5 f2_12 rfl rfl
theorem d55_8 : decode (cod 55) 8 = .ok (.invokevirtual 46, 3) := by decide +kernel
theorem s55_8 {l0 l1 l2 l3 : Option Value} {a : Nat} {M : Mm} {b0 : Nat} {st : List Value} (hl : st.length ≤ 4) (ho : isO "HandoverDesk$State" M.1 a = true) : EE 55 8 [l0, l1, l2, l3] (.ref b0 :: .ref a :: st) M = (FF 12 (.ref a :: [.ref b0]) M).bind (fun z => EE 55 11 [l0, l1, l2, l3] (psh z.1 st) z.2) := e_calv (av := [.ref b0]) d55_8 c2_46 rfl rfl rfl r55_12 rfl hl ho
theorem d55_11 : decode (cod 55) 11 = .ok (.aload_n 0, 1) := by decide +kernel
theorem s55_11 {M : Mm} {st : List Value} {l1 l2 l3 : Option Value} {x : Nat} : EE 55 11 [some (.ref x), l1, l2, l3] st M = EE 55 12 [some (.ref x), l1, l2, l3] (.ref x :: st) M := e_ld d55_11 rfl rfl rfl rfl rfl rfl
theorem d55_12 : decode (cod 55) 12 = .ok (.aload_n 0, 1) := by decide +kernel
theorem s55_12 {M : Mm} {st : List Value} {l1 l2 l3 : Option Value} {x : Nat} : EE 55 12 [some (.ref x), l1, l2, l3] st M = EE 55 13 [some (.ref x), l1, l2, l3] (.ref x :: st) M := e_ld d55_12 rfl rfl rfl rfl rfl rfl
theorem d55_13 : decode (cod 55) 13 = .ok (.getfield 12, 3) := by decide +kernel
theorem s55_13 {n : Nat} {I : Nat → Nat → Int32} {R : Nat → Nat → Option Nat} {st : List Value} {l0 l1 l2 l3 : Option Value} {a : Nat} : EE 55 13 [l0, l1, l2, l3] (.ref a :: st) (n, I, R) = (gfI n I R 2 0 a).bind (fun z => EE 55 16 [l0, l1, l2, l3] (z :: st) (n, I, R)) := e_getf d55_13 f2_12 rfl rfl
theorem d55_16 : decode (cod 55) 16 = .ok (.iload_n 1, 1) := by decide +kernel
theorem s55_16 {M : Mm} {st : List Value} {l0 l2 l3 : Option Value} {x : Int32} : EE 55 16 [l0, some (.int x), l2, l3] st M = EE 55 17 [l0, some (.int x), l2, l3] (.int x :: st) M := e_ld d55_16 rfl rfl rfl rfl rfl rfl
theorem d55_17 : decode (cod 55) 17 = .ok (.iload_n 2, 1) := by decide +kernel
theorem s55_17 {M : Mm} {st : List Value} {l0 l1 l3 : Option Value} {x : Int32} : EE 55 17 [l0, l1, some (.int x), l3] st M = EE 55 18 [l0, l1, some (.int x), l3] (.int x :: st) M := e_ld d55_17 rfl rfl rfl rfl rfl rfl
theorem d55_18 : decode (cod 55) 18 = .ok (.iload_n 3, 1) := by decide +kernel
theorem s55_18 {M : Mm} {st : List Value} {l0 l1 l2 : Option Value} {x : Int32} : EE 55 18 [l0, l1, l2, some (.int x)] st M = EE 55 19 [l0, l1, l2, some (.int x)] (.int x :: st) M := e_ld d55_18 rfl rfl rfl rfl rfl rfl
theorem d55_19 : decode (cod 55) 19 = .ok (.invokevirtual 74, 3) := by decide +kernel
theorem s55_19 {l0 l1 l2 l3 : Option Value} {a : Nat} {M : Mm} {b0 : Int32} {b1 : Int32} {b2 : Int32} {st : List Value} (hl : st.length ≤ 4) (ho : isO "HandoverDesk$State" M.1 a = true) : EE 55 19 [l0, l1, l2, l3] (.int b2 :: .int b1 :: .int b0 :: .ref a :: st) M = (FF 22 (.ref a :: [.int b0, .int b1, .int b2]) M).bind (fun z => EE 55 22 [l0, l1, l2, l3] (psh z.1 st) z.2) := e_calv (av := [.int b0, .int b1, .int b2]) d55_19 c2_74 rfl rfl rfl r55_22 rfl hl ho
theorem d55_22 : decode (cod 55) 22 = .ok (.invokevirtual 54, 3) := by decide +kernel
theorem s55_22 {l0 l1 l2 l3 : Option Value} {a : Nat} {M : Mm} {b0 : Int32} {st : List Value} (hl : st.length ≤ 4) (ho : isO "HandoverDesk" M.1 a = true) : EE 55 22 [l0, l1, l2, l3] (.int b0 :: .ref a :: st) M = (FF 46 (.ref a :: [.int b0]) M).bind (fun z => EE 55 25 [l0, l1, l2, l3] (psh z.1 st) z.2) := e_calv (av := [.int b0]) d55_22 c2_54 rfl rfl rfl r55_46 rfl hl ho
theorem d55_25 : decode (cod 55) 25 = .ok (.ireturn, 1) := by decide +kernel
theorem s55_25 {M : Mm} {l0 l1 l2 l3 : Option Value} {v : Int32} : EE 55 25 [l0, l1, l2, l3] [.int v] M = some (some (.int v), M) := e_iret d55_25 rfl rfl
theorem FE55 {a : Nat} {b0 : Int32} {b1 : Int32} {b2 : Int32} {M : Mm} : FF 55 [.ref a, .int b0, .int b1, .int b2] M = EE 55 0 [some (.ref a), some (.int b0), some (.int b1), some (.int b2)] [] M := FF_eq 55 _ _ (Nat.le_of_ble_eq_true rfl)
theorem d56_0 : decode (cod 56) 0 = .ok (.aload_n 0, 1) := by decide +kernel
theorem s56_0 {M : Mm} {st : List Value} {l1 : Option Value} {x : Nat} : EE 56 0 [some (.ref x), l1] st M = EE 56 1 [some (.ref x), l1] (.ref x :: st) M := e_ld d56_0 rfl rfl rfl rfl rfl rfl
theorem d56_1 : decode (cod 56) 1 = .ok (.getfield 16, 3) := by decide +kernel
theorem s56_1 {n : Nat} {I : Nat → Nat → Int32} {R : Nat → Nat → Option Nat} {st : List Value} {l0 l1 : Option Value} {a : Nat} : EE 56 1 [l0, l1] (.ref a :: st) (n, I, R) = (gfI n I R 2 1 a).bind (fun z => EE 56 4 [l0, l1] (z :: st) (n, I, R)) := e_getf d56_1 f2_16 rfl rfl
theorem d56_4 : decode (cod 56) 4 = .ok (.aload_n 0, 1) := by decide +kernel
theorem s56_4 {M : Mm} {st : List Value} {l1 : Option Value} {x : Nat} : EE 56 4 [some (.ref x), l1] st M = EE 56 5 [some (.ref x), l1] (.ref x :: st) M := e_ld d56_4 rfl rfl rfl rfl rfl rfl
theorem d56_5 : decode (cod 56) 5 = .ok (.getfield 12, 3) := by decide +kernel
theorem s56_5 {n : Nat} {I : Nat → Nat → Int32} {R : Nat → Nat → Option Nat} {st : List Value} {l0 l1 : Option Value} {a : Nat} : EE 56 5 [l0, l1] (.ref a :: st) (n, I, R) = (gfI n I R 2 0 a).bind (fun z => EE 56 8 [l0, l1] (z :: st) (n, I, R)) := e_getf d56_5 f2_12 rfl rfl
theorem d56_8 : decode (cod 56) 8 = .ok (.invokevirtual 46, 3) := by decide +kernel
theorem s56_8 {l0 l1 : Option Value} {a : Nat} {M : Mm} {b0 : Nat} {st : List Value} (hl : st.length ≤ 4) (ho : isO "HandoverDesk$State" M.1 a = true) : EE 56 8 [l0, l1] (.ref b0 :: .ref a :: st) M = (FF 12 (.ref a :: [.ref b0]) M).bind (fun z => EE 56 11 [l0, l1] (psh z.1 st) z.2) := e_calv (av := [.ref b0]) d56_8 c2_46 rfl rfl rfl r56_12 rfl hl ho
theorem d56_11 : decode (cod 56) 11 = .ok (.aload_n 0, 1) := by decide +kernel
theorem s56_11 {M : Mm} {st : List Value} {l1 : Option Value} {x : Nat} : EE 56 11 [some (.ref x), l1] st M = EE 56 12 [some (.ref x), l1] (.ref x :: st) M := e_ld d56_11 rfl rfl rfl rfl rfl rfl
theorem d56_12 : decode (cod 56) 12 = .ok (.aload_n 0, 1) := by decide +kernel
theorem s56_12 {M : Mm} {st : List Value} {l1 : Option Value} {x : Nat} : EE 56 12 [some (.ref x), l1] st M = EE 56 13 [some (.ref x), l1] (.ref x :: st) M := e_ld d56_12 rfl rfl rfl rfl rfl rfl
theorem d56_13 : decode (cod 56) 13 = .ok (.getfield 12, 3) := by decide +kernel
theorem s56_13 {n : Nat} {I : Nat → Nat → Int32} {R : Nat → Nat → Option Nat} {st : List Value} {l0 l1 : Option Value} {a : Nat} : EE 56 13 [l0, l1] (.ref a :: st) (n, I, R) = (gfI n I R 2 0 a).bind (fun z => EE 56 16 [l0, l1] (z :: st) (n, I, R)) := e_getf d56_13 f2_12 rfl rfl
theorem d56_16 : decode (cod 56) 16 = .ok (.iload_n 1, 1) := by decide +kernel
theorem s56_16 {M : Mm} {st : List Value} {l0 : Option Value} {x : Int32} : EE 56 16 [l0, some (.int x)] st M = EE 56 17 [l0, some (.int x)] (.int x :: st) M := e_ld d56_16 rfl rfl rfl rfl rfl rfl
theorem d56_17 : decode (cod 56) 17 = .ok (.invokevirtual 78, 3) := by decide +kernel
theorem s56_17 {l0 l1 : Option Value} {a : Nat} {M : Mm} {b0 : Int32} {st : List Value} (hl : st.length ≤ 4) (ho : isO "HandoverDesk$State" M.1 a = true) : EE 56 17 [l0, l1] (.int b0 :: .ref a :: st) M = (FF 25 (.ref a :: [.int b0]) M).bind (fun z => EE 56 20 [l0, l1] (psh z.1 st) z.2) := e_calv (av := [.int b0]) d56_17 c2_78 rfl rfl rfl r56_25 rfl hl ho
theorem d56_20 : decode (cod 56) 20 = .ok (.invokevirtual 54, 3) := by decide +kernel
theorem s56_20 {l0 l1 : Option Value} {a : Nat} {M : Mm} {b0 : Int32} {st : List Value} (hl : st.length ≤ 4) (ho : isO "HandoverDesk" M.1 a = true) : EE 56 20 [l0, l1] (.int b0 :: .ref a :: st) M = (FF 46 (.ref a :: [.int b0]) M).bind (fun z => EE 56 23 [l0, l1] (psh z.1 st) z.2) := e_calv (av := [.int b0]) d56_20 c2_54 rfl rfl rfl r56_46 rfl hl ho
theorem d56_23 : decode (cod 56) 23 = .ok (.ireturn, 1) := by decide +kernel
theorem s56_23 {M : Mm} {l0 l1 : Option Value} {v : Int32} : EE 56 23 [l0, l1] [.int v] M = some (some (.int v), M) := e_iret d56_23 rfl rfl
theorem FE56 {a : Nat} {b0 : Int32} {M : Mm} : FF 56 [.ref a, .int b0] M = EE 56 0 [some (.ref a), some (.int b0)] [] M := FF_eq 56 _ _ (Nat.le_of_ble_eq_true rfl)
theorem d57_0 : decode (cod 57) 0 = .ok (.aload_n 0, 1) := by decide +kernel
theorem s57_0 {M : Mm} {st : List Value} {x : Nat} : EE 57 0 [some (.ref x)] st M = EE 57 1 [some (.ref x)] (.ref x :: st) M := e_ld d57_0 rfl rfl rfl rfl rfl rfl
theorem d57_1 : decode (cod 57) 1 = .ok (.getfield 16, 3) := by decide +kernel
theorem s57_1 {n : Nat} {I : Nat → Nat → Int32} {R : Nat → Nat → Option Nat} {st : List Value} {l0 : Option Value} {a : Nat} : EE 57 1 [l0] (.ref a :: st) (n, I, R) = (gfI n I R 2 1 a).bind (fun z => EE 57 4 [l0] (z :: st) (n, I, R)) := e_getf d57_1 f2_16 rfl rfl
theorem d57_4 : decode (cod 57) 4 = .ok (.aload_n 0, 1) := by decide +kernel
theorem s57_4 {M : Mm} {st : List Value} {x : Nat} : EE 57 4 [some (.ref x)] st M = EE 57 5 [some (.ref x)] (.ref x :: st) M := e_ld d57_4 rfl rfl rfl rfl rfl rfl
theorem d57_5 : decode (cod 57) 5 = .ok (.getfield 12, 3) := by decide +kernel
theorem s57_5 {n : Nat} {I : Nat → Nat → Int32} {R : Nat → Nat → Option Nat} {st : List Value} {l0 : Option Value} {a : Nat} : EE 57 5 [l0] (.ref a :: st) (n, I, R) = (gfI n I R 2 0 a).bind (fun z => EE 57 8 [l0] (z :: st) (n, I, R)) := e_getf d57_5 f2_12 rfl rfl
theorem d57_8 : decode (cod 57) 8 = .ok (.invokevirtual 46, 3) := by decide +kernel
theorem s57_8 {l0 : Option Value} {a : Nat} {M : Mm} {b0 : Nat} {st : List Value} (hl : st.length ≤ 4) (ho : isO "HandoverDesk$State" M.1 a = true) : EE 57 8 [l0] (.ref b0 :: .ref a :: st) M = (FF 12 (.ref a :: [.ref b0]) M).bind (fun z => EE 57 11 [l0] (psh z.1 st) z.2) := e_calv (av := [.ref b0]) d57_8 c2_46 rfl rfl rfl r57_12 rfl hl ho
theorem d57_11 : decode (cod 57) 11 = .ok (.aload_n 0, 1) := by decide +kernel
theorem s57_11 {M : Mm} {st : List Value} {x : Nat} : EE 57 11 [some (.ref x)] st M = EE 57 12 [some (.ref x)] (.ref x :: st) M := e_ld d57_11 rfl rfl rfl rfl rfl rfl
theorem d57_12 : decode (cod 57) 12 = .ok (.aload_n 0, 1) := by decide +kernel
theorem s57_12 {M : Mm} {st : List Value} {x : Nat} : EE 57 12 [some (.ref x)] st M = EE 57 13 [some (.ref x)] (.ref x :: st) M := e_ld d57_12 rfl rfl rfl rfl rfl rfl
theorem d57_13 : decode (cod 57) 13 = .ok (.getfield 12, 3) := by decide +kernel
theorem s57_13 {n : Nat} {I : Nat → Nat → Int32} {R : Nat → Nat → Option Nat} {st : List Value} {l0 : Option Value} {a : Nat} : EE 57 13 [l0] (.ref a :: st) (n, I, R) = (gfI n I R 2 0 a).bind (fun z => EE 57 16 [l0] (z :: st) (n, I, R)) := e_getf d57_13 f2_12 rfl rfl
theorem d57_16 : decode (cod 57) 16 = .ok (.aload_n 0, 1) := by decide +kernel
theorem s57_16 {M : Mm} {st : List Value} {x : Nat} : EE 57 16 [some (.ref x)] st M = EE 57 17 [some (.ref x)] (.ref x :: st) M := e_ld d57_16 rfl rfl rfl rfl rfl rfl
theorem d57_17 : decode (cod 57) 17 = .ok (.getfield 12, 3) := by decide +kernel
theorem s57_17 {n : Nat} {I : Nat → Nat → Int32} {R : Nat → Nat → Option Nat} {st : List Value} {l0 : Option Value} {a : Nat} : EE 57 17 [l0] (.ref a :: st) (n, I, R) = (gfI n I R 2 0 a).bind (fun z => EE 57 20 [l0] (z :: st) (n, I, R)) := e_getf d57_17 f2_12 rfl rfl
theorem d57_20 : decode (cod 57) 20 = .ok (.invokevirtual 81, 3) := by decide +kernel
theorem s57_20 {l0 : Option Value} {a : Nat} {M : Mm} {st : List Value} (hl : st.length ≤ 4) (ho : isO "HandoverDesk$State" M.1 a = true) : EE 57 20 [l0] (.ref a :: st) M = (FF 28 (.ref a :: []) M).bind (fun z => EE 57 23 [l0] (psh z.1 st) z.2) := e_calv (av := []) d57_20 c2_81 rfl rfl rfl r57_28 rfl hl ho
theorem d57_23 : decode (cod 57) 23 = .ok (.invokevirtual 84, 3) := by decide +kernel
theorem s57_23 {l0 : Option Value} {a : Nat} {M : Mm} {b0 : Int32} {st : List Value} (hl : st.length ≤ 4) (ho : isO "HandoverDesk$State" M.1 a = true) : EE 57 23 [l0] (.int b0 :: .ref a :: st) M = (FF 29 (.ref a :: [.int b0]) M).bind (fun z => EE 57 26 [l0] (psh z.1 st) z.2) := e_calv (av := [.int b0]) d57_23 c2_84 rfl rfl rfl r57_29 rfl hl ho
theorem d57_26 : decode (cod 57) 26 = .ok (.invokevirtual 54, 3) := by decide +kernel
theorem s57_26 {l0 : Option Value} {a : Nat} {M : Mm} {b0 : Int32} {st : List Value} (hl : st.length ≤ 4) (ho : isO "HandoverDesk" M.1 a = true) : EE 57 26 [l0] (.int b0 :: .ref a :: st) M = (FF 46 (.ref a :: [.int b0]) M).bind (fun z => EE 57 29 [l0] (psh z.1 st) z.2) := e_calv (av := [.int b0]) d57_26 c2_54 rfl rfl rfl r57_46 rfl hl ho
theorem d57_29 : decode (cod 57) 29 = .ok (.ireturn, 1) := by decide +kernel
theorem s57_29 {M : Mm} {l0 : Option Value} {v : Int32} : EE 57 29 [l0] [.int v] M = some (some (.int v), M) := e_iret d57_29 rfl rfl
theorem FE57 {a : Nat} {M : Mm} : FF 57 [.ref a] M = EE 57 0 [some (.ref a)] [] M := FF_eq 57 _ _ (Nat.le_of_ble_eq_true rfl)
