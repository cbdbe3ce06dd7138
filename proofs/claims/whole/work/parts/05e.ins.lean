theorem d66_0 : decode (cod 66) 0 = .ok (.iload_n 1, 1) := by decide +kernel
theorem s66_0 {M : Mm} {st : List Value} {l0 l2 : Option Value} {x : Int32} : EE 66 0 [l0, some (.int x), l2] st M = EE 66 1 [l0, some (.int x), l2] (.int x :: st) M := e_ld d66_0 rfl rfl rfl rfl rfl rfl
theorem d66_1 : decode (cod 66) 1 = .ok (.invokestatic 87, 3) := by decide +kernel
theorem s66_1 {M : Mm} {l0 l1 l2 : Option Value} {b0 : Int32} {st : List Value} (hl : st.length ≤ 4) : EE 66 1 [l0, l1, l2] (.int b0 :: st) M = (FF 49 [.int b0] M).bind (fun z => EE 66 4 [l0, l1, l2] (psh z.1 st) z.2) := e_cals (av := [.int b0]) d66_1 c2_87 (Or.inl rfl) rfl rfl r66_49 rfl hl
theorem d66_4 : decode (cod 66) 4 = .ok (.ifCond .ne 7, 3) := by decide +kernel
theorem s66_4 {M : Mm} {st : List Value} {l0 l1 l2 : Option Value} {x : Int32} : EE 66 4 [l0, l1, l2] (.int x :: st) M = if x = 0 then EE 66 7 [l0, l1, l2] st M else EE 66 11 [l0, l1, l2] st M := e_ne0 d66_4 (by decide)
theorem d66_7 : decode (cod 66) 7 = .ok (.ldc2_w 181, 3) := by decide +kernel
theorem s66_7 {M : Mm} {st : List Value} {l0 l1 l2 : Option Value} : EE 66 7 [l0, l1, l2] st M = EE 66 10 [l0, l1, l2] (.long (-1) :: st) M := e_ldc2 d66_7 q2_181
theorem d66_10 : decode (cod 66) 10 = .ok (.lreturn, 1) := by decide +kernel
theorem s66_10 {M : Mm} {l0 l1 l2 : Option Value} {v : Int64} : EE 66 10 [l0, l1, l2] [.long v] M = some (some (.long v), M) := e_lret d66_10 rfl
theorem d66_11 : decode (cod 66) 11 = .ok (.aload_n 0, 1) := by decide +kernel
theorem s66_11 {M : Mm} {st : List Value} {l1 l2 : Option Value} {x : Nat} : EE 66 11 [some (.ref x), l1, l2] st M = EE 66 12 [some (.ref x), l1, l2] (.ref x :: st) M := e_ld d66_11 rfl rfl rfl rfl rfl rfl
theorem d66_12 : decode (cod 66) 12 = .ok (.getfield 12, 3) := by decide +kernel
theorem s66_12 {n : Nat} {I : Nat → Nat → Int32} {R : Nat → Nat → Option Nat} {st : List Value} {l0 l1 l2 : Option Value} {a : Nat} : EE 66 12 [l0, l1, l2] (.ref a :: st) (n, I, R) = (gfI n I R 2 0 a).bind (fun z => EE 66 15 [l0, l1, l2] (z :: st) (n, I, R)) := e_getf d66_12 f2_12 rfl rfl
theorem d66_15 : decode (cod 66) 15 = .ok (.invokevirtual 141, 3) := by decide +kernel
theorem s66_15 {l0 l1 l2 : Option Value} {a : Nat} {M : Mm} {st : List Value} (hl : st.length ≤ 4) (ho : isO "HandoverDesk$State" M.1 a = true) : EE 66 15 [l0, l1, l2] (.ref a :: st) M = (FF 39 (.ref a :: []) M).bind (fun z => EE 66 18 [l0, l1, l2] (psh z.1 st) z.2) := e_calv (av := []) d66_15 c2_141 rfl rfl rfl r66_39 rfl hl ho
theorem d66_18 : decode (cod 66) 18 = .ok (.istore_n 2, 1) := by decide +kernel
theorem s66_18 {M : Mm} {st : List Value} {l0 l1 l2 : Option Value} {x : Int32} : EE 66 18 [l0, l1, l2] (.int x :: st) M = EE 66 19 [l0, cln l1, some (.int x)] st M := e_st1 d66_18 rfl rfl rfl rfl rfl rfl rfl (Nat.le_of_ble_eq_true rfl) rfl
theorem d66_19 : decode (cod 66) 19 = .ok (.iload_n 2, 1) := by decide +kernel
theorem s66_19 {M : Mm} {st : List Value} {l0 l1 : Option Value} {x : Int32} : EE 66 19 [l0, l1, some (.int x)] st M = EE 66 20 [l0, l1, some (.int x)] (.int x :: st) M := e_ld d66_19 rfl rfl rfl rfl rfl rfl
theorem d66_20 : decode (cod 66) 20 = .ok (.ifCond .le 21, 3) := by decide +kernel
theorem s66_20 {M : Mm} {st : List Value} {l0 l1 l2 : Option Value} {x : Int32} : EE 66 20 [l0, l1, l2] (.int x :: st) M = if x ≤ 0 then EE 66 41 [l0, l1, l2] st M else EE 66 23 [l0, l1, l2] st M := e_le0 d66_20 (by decide)
theorem d66_23 : decode (cod 66) 23 = .ok (.aload_n 0, 1) := by decide +kernel
theorem s66_23 {M : Mm} {st : List Value} {l1 l2 : Option Value} {x : Nat} : EE 66 23 [some (.ref x), l1, l2] st M = EE 66 24 [some (.ref x), l1, l2] (.ref x :: st) M := e_ld d66_23 rfl rfl rfl rfl rfl rfl
theorem d66_24 : decode (cod 66) 24 = .ok (.getfield 12, 3) := by decide +kernel
theorem s66_24 {n : Nat} {I : Nat → Nat → Int32} {R : Nat → Nat → Option Nat} {st : List Value} {l0 l1 l2 : Option Value} {a : Nat} : EE 66 24 [l0, l1, l2] (.ref a :: st) (n, I, R) = (gfI n I R 2 0 a).bind (fun z => EE 66 27 [l0, l1, l2] (z :: st) (n, I, R)) := e_getf d66_24 f2_12 rfl rfl
theorem d66_27 : decode (cod 66) 27 = .ok (.iload_n 1, 1) := by decide +kernel
theorem s66_27 {M : Mm} {st : List Value} {l0 l2 : Option Value} {x : Int32} : EE 66 27 [l0, some (.int x), l2] st M = EE 66 28 [l0, some (.int x), l2] (.int x :: st) M := e_ld d66_27 rfl rfl rfl rfl rfl rfl
theorem d66_28 : decode (cod 66) 28 = .ok (.invokevirtual 183, 3) := by decide +kernel
theorem s66_28 {l0 l1 l2 : Option Value} {a : Nat} {M : Mm} {b0 : Int32} {st : List Value} (hl : st.length ≤ 4) (ho : isO "HandoverDesk$State" M.1 a = true) : EE 66 28 [l0, l1, l2] (.int b0 :: .ref a :: st) M = (FF 41 (.ref a :: [.int b0]) M).bind (fun z => EE 66 31 [l0, l1, l2] (psh z.1 st) z.2) := e_calv (av := [.int b0]) d66_28 c2_183 rfl rfl rfl r66_41 rfl hl ho
theorem d66_31 : decode (cod 66) 31 = .ok (.i2d, 1) := by decide +kernel
theorem s66_31 {M : Mm} {st : List Value} {l0 l1 l2 : Option Value} {x : Int32} : EE 66 31 [l0, l1, l2] (.int x :: st) M = EE 66 32 [l0, l1, l2] (.double (FP.i2d x) :: st) M := e_U d66_31 rfl rfl rfl rfl rfl (bn_i2d x) rfl
theorem d66_32 : decode (cod 66) 32 = .ok (.iload_n 2, 1) := by decide +kernel
theorem s66_32 {M : Mm} {st : List Value} {l0 l1 : Option Value} {x : Int32} : EE 66 32 [l0, l1, some (.int x)] st M = EE 66 33 [l0, l1, some (.int x)] (.int x :: st) M := e_ld d66_32 rfl rfl rfl rfl rfl rfl
theorem d66_33 : decode (cod 66) 33 = .ok (.i2d, 1) := by decide +kernel
theorem s66_33 {M : Mm} {st : List Value} {l0 l1 l2 : Option Value} {x : Int32} : EE 66 33 [l0, l1, l2] (.int x :: st) M = EE 66 34 [l0, l1, l2] (.double (FP.i2d x) :: st) M := e_U d66_33 rfl rfl rfl rfl rfl (bn_i2d x) rfl
theorem d66_34 : decode (cod 66) 34 = .ok (.ddiv, 1) := by decide +kernel
theorem s66_34 {M : Mm} {st : List Value} {l0 l1 l2 : Option Value} {x y : UInt64} (h : FP.ddiv x y &&& 0x7fffffffffffffff ≤ 0x7ff0000000000000) : EE 66 34 [l0, l1, l2] (.double y :: .double x :: st) M = EE 66 35 [l0, l1, l2] (.double (FP.ddiv x y) :: st) M := e_ddiv d66_34 h
theorem d66_35 : decode (cod 66) 35 = .ok (.invokestatic 186, 3) := by decide +kernel
theorem s66_35 {M : Mm} {l0 l1 l2 : Option Value} {b0 : UInt64} {st : List Value} (hl : st.length ≤ 4) : EE 66 35 [l0, l1, l2] (.double b0 :: st) M = (FF 67 [.double b0] M).bind (fun z => EE 66 38 [l0, l1, l2] (psh z.1 st) z.2) := e_cals (av := [.double b0]) d66_35 c2_186 (Or.inl rfl) rfl rfl r66_67 rfl hl
theorem d66_38 : decode (cod 66) 38 = .ok (.goto 4, 3) := by decide +kernel
theorem s66_38 {M : Mm} {st : List Value} {l0 l1 l2 : Option Value} : EE 66 38 [l0, l1, l2] st M = EE 66 42 [l0, l1, l2] st M := e_goto d66_38 (by decide)
theorem d66_41 : decode (cod 66) 41 = .ok (.lconst 0, 1) := by decide +kernel
theorem s66_41 {M : Mm} {st : List Value} {l0 l1 l2 : Option Value} : EE 66 41 [l0, l1, l2] st M = EE 66 42 [l0, l1, l2] (.long 0 :: st) M := e_psh d66_41 rfl rfl rfl
theorem d66_42 : decode (cod 66) 42 = .ok (.lreturn, 1) := by decide +kernel
theorem s66_42 {M : Mm} {l0 l1 l2 : Option Value} {v : Int64} : EE 66 42 [l0, l1, l2] [.long v] M = some (some (.long v), M) := e_lret d66_42 rfl
theorem FE66 {a : Nat} {b0 : Int32} {M : Mm} : FF 66 [.ref a, .int b0] M = EE 66 0 [some (.ref a), some (.int b0), none] [] M := FF_eq 66 _ _ (Nat.le_of_ble_eq_true rfl)
theorem d67_0 : decode (cod 67) 0 = .ok (.dload_n 0, 1) := by decide +kernel
theorem s67_0 {M : Mm} {st : List Value} {l1 l2 l3 l4 : Option Value} {x : UInt64} : EE 67 0 [some (.double x), l1, l2, l3, l4] st M = EE 67 1 [some (.double x), l1, l2, l3, l4] (.double x :: st) M := e_ld d67_0 rfl rfl rfl rfl rfl rfl
theorem d67_1 : decode (cod 67) 1 = .ok (.dconst 0, 1) := by decide +kernel
theorem s67_1 {M : Mm} {st : List Value} {l0 l1 l2 l3 l4 : Option Value} : EE 67 1 [l0, l1, l2, l3, l4] st M = EE 67 2 [l0, l1, l2, l3, l4] (.double FP.dconst0 :: st) M := e_psh d67_1 rfl rfl rfl
theorem d67_2 : decode (cod 67) 2 = .ok (.dcmp .g, 1) := by decide +kernel
theorem s67_2 {M : Mm} {st : List Value} {l0 l1 l2 l3 l4 : Option Value} {x y : UInt64} : EE 67 2 [l0, l1, l2, l3, l4] (.double y :: .double x :: st) M = EE 67 3 [l0, l1, l2, l3, l4] (.int (Op.cmpValue (FP.dcmp x y) .g) :: st) M := e_dcmp d67_2
theorem d67_3 : decode (cod 67) 3 = .ok (.ifCond .gt 5, 3) := by decide +kernel
theorem s67_3 {M : Mm} {st : List Value} {l0 l1 l2 l3 l4 : Option Value} {x : Int32} : EE 67 3 [l0, l1, l2, l3, l4] (.int x :: st) M = if 0 < x then EE 67 8 [l0, l1, l2, l3, l4] st M else EE 67 6 [l0, l1, l2, l3, l4] st M := e_gt0 d67_3 (by decide)
theorem d67_6 : decode (cod 67) 6 = .ok (.lconst 0, 1) := by decide +kernel
theorem s67_6 {M : Mm} {st : List Value} {l0 l1 l2 l3 l4 : Option Value} : EE 67 6 [l0, l1, l2, l3, l4] st M = EE 67 7 [l0, l1, l2, l3, l4] (.long 0 :: st) M := e_psh d67_6 rfl rfl rfl
theorem d67_7 : decode (cod 67) 7 = .ok (.lreturn, 1) := by decide +kernel
theorem s67_7 {M : Mm} {l0 l1 l2 l3 l4 : Option Value} {v : Int64} : EE 67 7 [l0, l1, l2, l3, l4] [.long v] M = some (some (.long v), M) := e_lret d67_7 rfl
theorem d67_8 : decode (cod 67) 8 = .ok (.dload_n 0, 1) := by decide +kernel
theorem s67_8 {M : Mm} {st : List Value} {l1 l2 l3 l4 : Option Value} {x : UInt64} : EE 67 8 [some (.double x), l1, l2, l3, l4] st M = EE 67 9 [some (.double x), l1, l2, l3, l4] (.double x :: st) M := e_ld d67_8 rfl rfl rfl rfl rfl rfl
theorem d67_9 : decode (cod 67) 9 = .ok (.dstore_n 2, 1) := by decide +kernel
theorem s67_9 {M : Mm} {st : List Value} {l0 l1 l2 l3 l4 : Option Value} {x : UInt64} : EE 67 9 [l0, l1, l2, l3, l4] (.double x :: st) M = EE 67 10 [l0, cln l1, some (.double x), none, l4] st M := e_st2 d67_9 rfl rfl rfl rfl rfl rfl rfl (Nat.le_of_ble_eq_true rfl) rfl
theorem d67_10 : decode (cod 67) 10 = .ok (.sipush 1023, 3) := by decide +kernel
theorem s67_10 {M : Mm} {st : List Value} {l0 l1 l2 l3 l4 : Option Value} : EE 67 10 [l0, l1, l2, l3, l4] st M = EE 67 13 [l0, l1, l2, l3, l4] (.int (nI 1023) :: st) M := e_sip d67_10 k_sip_1023
theorem d67_13 : decode (cod 67) 13 = .ok (.istore 4, 2) := by decide +kernel
theorem s67_13 {M : Mm} {st : List Value} {l0 l1 l2 l3 l4 : Option Value} {x : Int32} : EE 67 13 [l0, l1, l2, l3, l4] (.int x :: st) M = EE 67 15 [l0, l1, l2, cln l3, some (.int x)] st M := e_st1 d67_13 rfl rfl rfl rfl rfl rfl rfl (Nat.le_of_ble_eq_true rfl) rfl
theorem d67_15 : decode (cod 67) 15 = .ok (.dload_n 2, 1) := by decide +kernel
theorem s67_15 {M : Mm} {st : List Value} {l0 l1 l3 l4 : Option Value} {x : UInt64} : EE 67 15 [l0, l1, some (.double x), l3, l4] st M = EE 67 16 [l0, l1, some (.double x), l3, l4] (.double x :: st) M := e_ld d67_15 rfl rfl rfl rfl rfl rfl
theorem d67_16 : decode (cod 67) 16 = .ok (.dconst 1, 1) := by decide +kernel
theorem s67_16 {M : Mm} {st : List Value} {l0 l1 l2 l3 l4 : Option Value} : EE 67 16 [l0, l1, l2, l3, l4] st M = EE 67 17 [l0, l1, l2, l3, l4] (.double FP.dconst1 :: st) M := e_psh d67_16 rfl rfl rfl
theorem d67_17 : decode (cod 67) 17 = .ok (.dcmp .g, 1) := by decide +kernel
theorem s67_17 {M : Mm} {st : List Value} {l0 l1 l2 l3 l4 : Option Value} {x y : UInt64} : EE 67 17 [l0, l1, l2, l3, l4] (.double y :: .double x :: st) M = EE 67 18 [l0, l1, l2, l3, l4] (.int (Op.cmpValue (FP.dcmp x y) .g) :: st) M := e_dcmp d67_17
theorem d67_18 : decode (cod 67) 18 = .ok (.ifCond .ge 21, 3) := by decide +kernel
theorem s67_18 {M : Mm} {st : List Value} {l0 l1 l2 l3 l4 : Option Value} {x : Int32} : EE 67 18 [l0, l1, l2, l3, l4] (.int x :: st) M = if 0 ≤ x then EE 67 39 [l0, l1, l2, l3, l4] st M else EE 67 21 [l0, l1, l2, l3, l4] st M := e_ge0 d67_18 (by decide)
theorem d67_21 : decode (cod 67) 21 = .ok (.iload 4, 2) := by decide +kernel
theorem s67_21 {M : Mm} {st : List Value} {l0 l1 l2 l3 : Option Value} {x : Int32} : EE 67 21 [l0, l1, l2, l3, some (.int x)] st M = EE 67 23 [l0, l1, l2, l3, some (.int x)] (.int x :: st) M := e_ld d67_21 rfl rfl rfl rfl rfl rfl
theorem d67_23 : decode (cod 67) 23 = .ok (.iconst 1, 1) := by decide +kernel
theorem s67_23 {M : Mm} {st : List Value} {l0 l1 l2 l3 l4 : Option Value} : EE 67 23 [l0, l1, l2, l3, l4] st M = EE 67 24 [l0, l1, l2, l3, l4] (.int (nI 1) :: st) M := e_con d67_23 k_con_1
theorem d67_24 : decode (cod 67) 24 = .ok (.if_icmp .le 15, 3) := by decide +kernel
theorem s67_24 {M : Mm} {st : List Value} {l0 l1 l2 l3 l4 : Option Value} {x y : Int32} : EE 67 24 [l0, l1, l2, l3, l4] (.int y :: .int x :: st) M = if x ≤ y then EE 67 39 [l0, l1, l2, l3, l4] st M else EE 67 27 [l0, l1, l2, l3, l4] st M := e_cle d67_24 (by decide)
theorem d67_27 : decode (cod 67) 27 = .ok (.dload_n 2, 1) := by decide +kernel
theorem s67_27 {M : Mm} {st : List Value} {l0 l1 l3 l4 : Option Value} {x : UInt64} : EE 67 27 [l0, l1, some (.double x), l3, l4] st M = EE 67 28 [l0, l1, some (.double x), l3, l4] (.double x :: st) M := e_ld d67_27 rfl rfl rfl rfl rfl rfl
theorem d67_28 : decode (cod 67) 28 = .ok (.ldc2_w 226, 3) := by decide +kernel
theorem s67_28 {M : Mm} {st : List Value} {l0 l1 l2 l3 l4 : Option Value} : EE 67 28 [l0, l1, l2, l3, l4] st M = EE 67 31 [l0, l1, l2, l3, l4] (.double 4611686018427387904 :: st) M := e_ldc2 d67_28 q2_226
theorem d67_31 : decode (cod 67) 31 = .ok (.dmul, 1) := by decide +kernel
theorem s67_31 {M : Mm} {st : List Value} {l0 l1 l2 l3 l4 : Option Value} {x y : UInt64} (h : FP.dmul x y &&& 0x7fffffffffffffff ≤ 0x7ff0000000000000) : EE 67 31 [l0, l1, l2, l3, l4] (.double y :: .double x :: st) M = EE 67 32 [l0, l1, l2, l3, l4] (.double (FP.dmul x y) :: st) M := e_dmul d67_31 h
theorem d67_32 : decode (cod 67) 32 = .ok (.dstore_n 2, 1) := by decide +kernel
theorem s67_32 {M : Mm} {st : List Value} {l0 l1 l2 l3 l4 : Option Value} {x : UInt64} : EE 67 32 [l0, l1, l2, l3, l4] (.double x :: st) M = EE 67 33 [l0, cln l1, some (.double x), none, l4] st M := e_st2 d67_32 rfl rfl rfl rfl rfl rfl rfl (Nat.le_of_ble_eq_true rfl) rfl
theorem d67_33 : decode (cod 67) 33 = .ok (.iinc 4 (-1), 3) := by decide +kernel
theorem s67_33 {M : Mm} {st : List Value} {l0 l1 l2 l3 : Option Value} {x : Int32} : EE 67 33 [l0, l1, l2, l3, some (.int x)] st M = EE 67 36 [l0, l1, l2, cln l3, some (.int (x + (-1)))] st M := e_iinc d67_33 rfl (congrArg (fun z => x + z) k_inc_m1) rfl
theorem d67_36 : decode (cod 67) 36 = .ok (.goto (-21), 3) := by decide +kernel
theorem s67_36 {M : Mm} {st : List Value} {l0 l1 l2 l3 l4 : Option Value} : EE 67 36 [l0, l1, l2, l3, l4] st M = EE 67 15 [l0, l1, l2, l3, l4] st M := e_goto d67_36 (by decide)
theorem d67_39 : decode (cod 67) 39 = .ok (.dload_n 2, 1) := by decide +kernel
theorem s67_39 {M : Mm} {st : List Value} {l0 l1 l3 l4 : Option Value} {x : UInt64} : EE 67 39 [l0, l1, some (.double x), l3, l4] st M = EE 67 40 [l0, l1, some (.double x), l3, l4] (.double x :: st) M := e_ld d67_39 rfl rfl rfl rfl rfl rfl
theorem d67_40 : decode (cod 67) 40 = .ok (.ldc2_w 226, 3) := by decide +kernel
theorem s67_40 {M : Mm} {st : List Value} {l0 l1 l2 l3 l4 : Option Value} : EE 67 40 [l0, l1, l2, l3, l4] st M = EE 67 43 [l0, l1, l2, l3, l4] (.double 4611686018427387904 :: st) M := e_ldc2 d67_40 q2_226
theorem d67_43 : decode (cod 67) 43 = .ok (.dcmp .l, 1) := by decide +kernel
theorem s67_43 {M : Mm} {st : List Value} {l0 l1 l2 l3 l4 : Option Value} {x y : UInt64} : EE 67 43 [l0, l1, l2, l3, l4] (.double y :: .double x :: st) M = EE 67 44 [l0, l1, l2, l3, l4] (.int (Op.cmpValue (FP.dcmp x y) .l) :: st) M := e_dcmp d67_43
theorem d67_44 : decode (cod 67) 44 = .ok (.ifCond .lt 23, 3) := by decide +kernel
theorem s67_44 {M : Mm} {st : List Value} {l0 l1 l2 l3 l4 : Option Value} {x : Int32} : EE 67 44 [l0, l1, l2, l3, l4] (.int x :: st) M = if x < 0 then EE 67 67 [l0, l1, l2, l3, l4] st M else EE 67 47 [l0, l1, l2, l3, l4] st M := e_lt0 d67_44 (by decide)
theorem d67_47 : decode (cod 67) 47 = .ok (.iload 4, 2) := by decide +kernel
theorem s67_47 {M : Mm} {st : List Value} {l0 l1 l2 l3 : Option Value} {x : Int32} : EE 67 47 [l0, l1, l2, l3, some (.int x)] st M = EE 67 49 [l0, l1, l2, l3, some (.int x)] (.int x :: st) M := e_ld d67_47 rfl rfl rfl rfl rfl rfl
theorem d67_49 : decode (cod 67) 49 = .ok (.sipush 2046, 3) := by decide +kernel
theorem s67_49 {M : Mm} {st : List Value} {l0 l1 l2 l3 l4 : Option Value} : EE 67 49 [l0, l1, l2, l3, l4] st M = EE 67 52 [l0, l1, l2, l3, l4] (.int (nI 2046) :: st) M := e_sip d67_49 k_sip_2046
theorem d67_52 : decode (cod 67) 52 = .ok (.if_icmp .ge 15, 3) := by decide +kernel
theorem s67_52 {M : Mm} {st : List Value} {l0 l1 l2 l3 l4 : Option Value} {x y : Int32} : EE 67 52 [l0, l1, l2, l3, l4] (.int y :: .int x :: st) M = if y ≤ x then EE 67 67 [l0, l1, l2, l3, l4] st M else EE 67 55 [l0, l1, l2, l3, l4] st M := e_cge d67_52 (by decide)
theorem d67_55 : decode (cod 67) 55 = .ok (.dload_n 2, 1) := by decide +kernel
theorem s67_55 {M : Mm} {st : List Value} {l0 l1 l3 l4 : Option Value} {x : UInt64} : EE 67 55 [l0, l1, some (.double x), l3, l4] st M = EE 67 56 [l0, l1, some (.double x), l3, l4] (.double x :: st) M := e_ld d67_55 rfl rfl rfl rfl rfl rfl
theorem d67_56 : decode (cod 67) 56 = .ok (.ldc2_w 226, 3) := by decide +kernel
theorem s67_56 {M : Mm} {st : List Value} {l0 l1 l2 l3 l4 : Option Value} : EE 67 56 [l0, l1, l2, l3, l4] st M = EE 67 59 [l0, l1, l2, l3, l4] (.double 4611686018427387904 :: st) M := e_ldc2 d67_56 q2_226
theorem d67_59 : decode (cod 67) 59 = .ok (.ddiv, 1) := by decide +kernel
theorem s67_59 {M : Mm} {st : List Value} {l0 l1 l2 l3 l4 : Option Value} {x y : UInt64} (h : FP.ddiv x y &&& 0x7fffffffffffffff ≤ 0x7ff0000000000000) : EE 67 59 [l0, l1, l2, l3, l4] (.double y :: .double x :: st) M = EE 67 60 [l0, l1, l2, l3, l4] (.double (FP.ddiv x y) :: st) M := e_ddiv d67_59 h
theorem d67_60 : decode (cod 67) 60 = .ok (.dstore_n 2, 1) := by decide +kernel
theorem s67_60 {M : Mm} {st : List Value} {l0 l1 l2 l3 l4 : Option Value} {x : UInt64} : EE 67 60 [l0, l1, l2, l3, l4] (.double x :: st) M = EE 67 61 [l0, cln l1, some (.double x), none, l4] st M := e_st2 d67_60 rfl rfl rfl rfl rfl rfl rfl (Nat.le_of_ble_eq_true rfl) rfl
theorem d67_61 : decode (cod 67) 61 = .ok (.iinc 4 1, 3) := by decide +kernel
theorem s67_61 {M : Mm} {st : List Value} {l0 l1 l2 l3 : Option Value} {x : Int32} : EE 67 61 [l0, l1, l2, l3, some (.int x)] st M = EE 67 64 [l0, l1, l2, cln l3, some (.int (x + nI 1))] st M := e_iinc d67_61 rfl (congrArg (fun z => x + z) k_inc_1) rfl
theorem d67_64 : decode (cod 67) 64 = .ok (.goto (-25), 3) := by decide +kernel
theorem s67_64 {M : Mm} {st : List Value} {l0 l1 l2 l3 l4 : Option Value} : EE 67 64 [l0, l1, l2, l3, l4] st M = EE 67 39 [l0, l1, l2, l3, l4] st M := e_goto d67_64 (by decide)
theorem d67_67 : decode (cod 67) 67 = .ok (.iload 4, 2) := by decide +kernel
theorem s67_67 {M : Mm} {st : List Value} {l0 l1 l2 l3 : Option Value} {x : Int32} : EE 67 67 [l0, l1, l2, l3, some (.int x)] st M = EE 67 69 [l0, l1, l2, l3, some (.int x)] (.int x :: st) M := e_ld d67_67 rfl rfl rfl rfl rfl rfl
theorem d67_69 : decode (cod 67) 69 = .ok (.i2l, 1) := by decide +kernel
theorem s67_69 {M : Mm} {st : List Value} {l0 l1 l2 l3 l4 : Option Value} {x : Int32} : EE 67 69 [l0, l1, l2, l3, l4] (.int x :: st) M = EE 67 70 [l0, l1, l2, l3, l4] (.long x.toInt64 :: st) M := e_U d67_69 rfl rfl rfl rfl rfl (bn_i2l x) rfl
theorem d67_70 : decode (cod 67) 70 = .ok (.bipush 52, 2) := by decide +kernel
theorem s67_70 {M : Mm} {st : List Value} {l0 l1 l2 l3 l4 : Option Value} : EE 67 70 [l0, l1, l2, l3, l4] st M = EE 67 72 [l0, l1, l2, l3, l4] (.int (nI 52) :: st) M := e_bip d67_70 k_bip_52
theorem d67_72 : decode (cod 67) 72 = .ok (.lshl, 1) := by decide +kernel
theorem s67_72 {M : Mm} {st : List Value} {l0 l1 l2 l3 l4 : Option Value} {x : Int64} {y : Int32} : EE 67 72 [l0, l1, l2, l3, l4] (.int y :: .long x :: st) M = EE 67 73 [l0, l1, l2, l3, l4] (.long (x <<< (y.toInt64 &&& 63)) :: st) M := e_sh d67_72 rfl rfl rfl rfl rfl rfl
theorem d67_73 : decode (cod 67) 73 = .ok (.dload_n 2, 1) := by decide +kernel
theorem s67_73 {M : Mm} {st : List Value} {l0 l1 l3 l4 : Option Value} {x : UInt64} : EE 67 73 [l0, l1, some (.double x), l3, l4] st M = EE 67 74 [l0, l1, some (.double x), l3, l4] (.double x :: st) M := e_ld d67_73 rfl rfl rfl rfl rfl rfl
theorem d67_74 : decode (cod 67) 74 = .ok (.ldc2_w 228, 3) := by decide +kernel
theorem s67_74 {M : Mm} {st : List Value} {l0 l1 l2 l3 l4 : Option Value} : EE 67 74 [l0, l1, l2, l3, l4] st M = EE 67 77 [l0, l1, l2, l3, l4] (.double 4841369599423283200 :: st) M := e_ldc2 d67_74 q2_228
theorem d67_77 : decode (cod 67) 77 = .ok (.dmul, 1) := by decide +kernel
theorem s67_77 {M : Mm} {st : List Value} {l0 l1 l2 l3 l4 : Option Value} {x y : UInt64} (h : FP.dmul x y &&& 0x7fffffffffffffff ≤ 0x7ff0000000000000) : EE 67 77 [l0, l1, l2, l3, l4] (.double y :: .double x :: st) M = EE 67 78 [l0, l1, l2, l3, l4] (.double (FP.dmul x y) :: st) M := e_dmul d67_77 h
theorem d67_78 : decode (cod 67) 78 = .ok (.d2l, 1) := by decide +kernel
theorem s67_78 {M : Mm} {st : List Value} {l0 l1 l2 l3 l4 : Option Value} {x : UInt64} : EE 67 78 [l0, l1, l2, l3, l4] (.double x :: st) M = EE 67 79 [l0, l1, l2, l3, l4] (.long (FP.d2l x) :: st) M := e_U d67_78 rfl rfl rfl rfl rfl (bn_d2l x) rfl
theorem d67_79 : decode (cod 67) 79 = .ok (.ldc2_w 230, 3) := by decide +kernel
theorem s67_79 {M : Mm} {st : List Value} {l0 l1 l2 l3 l4 : Option Value} : EE 67 79 [l0, l1, l2, l3, l4] st M = EE 67 82 [l0, l1, l2, l3, l4] (.long (4503599627370496) :: st) M := e_ldc2 d67_79 q2_230
theorem d67_82 : decode (cod 67) 82 = .ok (.lsub, 1) := by decide +kernel
theorem s67_82 {M : Mm} {st : List Value} {l0 l1 l2 l3 l4 : Option Value} {x y : Int64} : EE 67 82 [l0, l1, l2, l3, l4] (.long y :: .long x :: st) M = EE 67 83 [l0, l1, l2, l3, l4] (.long (x - y) :: st) M := e_LL d67_82 rfl rfl rfl rfl rfl rfl
theorem d67_83 : decode (cod 67) 83 = .ok (.ladd, 1) := by decide +kernel
theorem s67_83 {M : Mm} {st : List Value} {l0 l1 l2 l3 l4 : Option Value} {x y : Int64} : EE 67 83 [l0, l1, l2, l3, l4] (.long y :: .long x :: st) M = EE 67 84 [l0, l1, l2, l3, l4] (.long (x + y) :: st) M := e_LL d67_83 rfl rfl rfl rfl rfl rfl
theorem d67_84 : decode (cod 67) 84 = .ok (.lreturn, 1) := by decide +kernel
theorem s67_84 {M : Mm} {l0 l1 l2 l3 l4 : Option Value} {v : Int64} : EE 67 84 [l0, l1, l2, l3, l4] [.long v] M = some (some (.long v), M) := e_lret d67_84 rfl
theorem FE67 {b0 : UInt64} {M : Mm} : FF 67 [.double b0] M = EE 67 0 [some (.double b0), none, none, none, none] [] M := FF_eq 67 _ _ (Nat.le_of_ble_eq_true rfl)
theorem d68_0 : decode (cod 68) 0 = .ok (.iconst 0, 1) := by decide +kernel
theorem s68_0 {M : Mm} {st : List Value} {l0 l1 : Option Value} : EE 68 0 [l0, l1] st M = EE 68 1 [l0, l1] (.int (nI 0) :: st) M := e_con d68_0 k_con_0
theorem d68_1 : decode (cod 68) 1 = .ok (.istore_n 1, 1) := by decide +kernel
theorem s68_1 {M : Mm} {st : List Value} {l0 l1 : Option Value} {x : Int32} : EE 68 1 [l0, l1] (.int x :: st) M = EE 68 2 [cln l0, some (.int x)] st M := e_st1 d68_1 rfl rfl rfl rfl rfl rfl rfl (Nat.le_of_ble_eq_true rfl) rfl
theorem d68_2 : decode (cod 68) 2 = .ok (.iload_n 1, 1) := by decide +kernel
theorem s68_2 {M : Mm} {st : List Value} {l0 : Option Value} {x : Int32} : EE 68 2 [l0, some (.int x)] st M = EE 68 3 [l0, some (.int x)] (.int x :: st) M := e_ld d68_2 rfl rfl rfl rfl rfl rfl
theorem d68_3 : decode (cod 68) 3 = .ok (.bipush 60, 2) := by decide +kernel
theorem s68_3 {M : Mm} {st : List Value} {l0 l1 : Option Value} : EE 68 3 [l0, l1] st M = EE 68 5 [l0, l1] (.int (nI 60) :: st) M := e_bip d68_3 k_bip_60
theorem d68_5 : decode (cod 68) 5 = .ok (.if_icmp .gt 33, 3) := by decide +kernel
theorem s68_5 {M : Mm} {st : List Value} {l0 l1 : Option Value} {x y : Int32} : EE 68 5 [l0, l1] (.int y :: .int x :: st) M = if y < x then EE 68 38 [l0, l1] st M else EE 68 8 [l0, l1] st M := e_cgt d68_5 (by decide)
theorem d68_8 : decode (cod 68) 8 = .ok (.aload_n 0, 1) := by decide +kernel
theorem s68_8 {M : Mm} {st : List Value} {l1 : Option Value} {x : Nat} : EE 68 8 [some (.ref x), l1] st M = EE 68 9 [some (.ref x), l1] (.ref x :: st) M := e_ld d68_8 rfl rfl rfl rfl rfl rfl
theorem d68_9 : decode (cod 68) 9 = .ok (.getfield 37, 3) := by decide +kernel
theorem s68_9 {n : Nat} {I : Nat → Nat → Int32} {R : Nat → Nat → Option Nat} {st : List Value} {l0 l1 : Option Value} {a : Nat} : EE 68 9 [l0, l1] (.ref a :: st) (n, I, R) = (gfI n I R 2 7 a).bind (fun z => EE 68 12 [l0, l1] (z :: st) (n, I, R)) := e_getf d68_9 f2_37 rfl rfl
theorem d68_12 : decode (cod 68) 12 = .ok (.aload_n 0, 1) := by decide +kernel
theorem s68_12 {M : Mm} {st : List Value} {l1 : Option Value} {x : Nat} : EE 68 12 [some (.ref x), l1] st M = EE 68 13 [some (.ref x), l1] (.ref x :: st) M := e_ld d68_12 rfl rfl rfl rfl rfl rfl
theorem d68_13 : decode (cod 68) 13 = .ok (.getfield 12, 3) := by decide +kernel
theorem s68_13 {n : Nat} {I : Nat → Nat → Int32} {R : Nat → Nat → Option Nat} {st : List Value} {l0 l1 : Option Value} {a : Nat} : EE 68 13 [l0, l1] (.ref a :: st) (n, I, R) = (gfI n I R 2 0 a).bind (fun z => EE 68 16 [l0, l1] (z :: st) (n, I, R)) := e_getf d68_13 f2_12 rfl rfl
theorem d68_16 : decode (cod 68) 16 = .ok (.invokevirtual 46, 3) := by decide +kernel
theorem s68_16 {l0 l1 : Option Value} {a : Nat} {M : Mm} {b0 : Nat} {st : List Value} (hl : st.length ≤ 4) (ho : isO "HandoverDesk$State" M.1 a = true) : EE 68 16 [l0, l1] (.ref b0 :: .ref a :: st) M = (FF 12 (.ref a :: [.ref b0]) M).bind (fun z => EE 68 19 [l0, l1] (psh z.1 st) z.2) := e_calv (av := [.ref b0]) d68_16 c2_46 rfl rfl rfl r68_12 rfl hl ho
theorem d68_19 : decode (cod 68) 19 = .ok (.aload_n 0, 1) := by decide +kernel
theorem s68_19 {M : Mm} {st : List Value} {l1 : Option Value} {x : Nat} : EE 68 19 [some (.ref x), l1] st M = EE 68 20 [some (.ref x), l1] (.ref x :: st) M := e_ld d68_19 rfl rfl rfl rfl rfl rfl
theorem d68_20 : decode (cod 68) 20 = .ok (.getfield 37, 3) := by decide +kernel
theorem s68_20 {n : Nat} {I : Nat → Nat → Int32} {R : Nat → Nat → Option Nat} {st : List Value} {l0 l1 : Option Value} {a : Nat} : EE 68 20 [l0, l1] (.ref a :: st) (n, I, R) = (gfI n I R 2 7 a).bind (fun z => EE 68 23 [l0, l1] (z :: st) (n, I, R)) := e_getf d68_20 f2_37 rfl rfl
theorem d68_23 : decode (cod 68) 23 = .ok (.iload_n 1, 1) := by decide +kernel
theorem s68_23 {M : Mm} {st : List Value} {l0 : Option Value} {x : Int32} : EE 68 23 [l0, some (.int x)] st M = EE 68 24 [l0, some (.int x)] (.int x :: st) M := e_ld d68_23 rfl rfl rfl rfl rfl rfl
theorem d68_24 : decode (cod 68) 24 = .ok (.invokevirtual 84, 3) := by decide +kernel
theorem s68_24 {l0 l1 : Option Value} {a : Nat} {M : Mm} {b0 : Int32} {st : List Value} (hl : st.length ≤ 4) (ho : isO "HandoverDesk$State" M.1 a = true) : EE 68 24 [l0, l1] (.int b0 :: .ref a :: st) M = (FF 29 (.ref a :: [.int b0]) M).bind (fun z => EE 68 27 [l0, l1] (psh z.1 st) z.2) := e_calv (av := [.int b0]) d68_24 c2_84 rfl rfl rfl r68_29 rfl hl ho
theorem d68_27 : decode (cod 68) 27 = .ok (.ifCond .ne 5, 3) := by decide +kernel
theorem s68_27 {M : Mm} {st : List Value} {l0 l1 : Option Value} {x : Int32} : EE 68 27 [l0, l1] (.int x :: st) M = if x = 0 then EE 68 30 [l0, l1] st M else EE 68 32 [l0, l1] st M := e_ne0 d68_27 (by decide)
theorem d68_30 : decode (cod 68) 30 = .ok (.iload_n 1, 1) := by decide +kernel
theorem s68_30 {M : Mm} {st : List Value} {l0 : Option Value} {x : Int32} : EE 68 30 [l0, some (.int x)] st M = EE 68 31 [l0, some (.int x)] (.int x :: st) M := e_ld d68_30 rfl rfl rfl rfl rfl rfl
theorem d68_31 : decode (cod 68) 31 = .ok (.ireturn, 1) := by decide +kernel
theorem s68_31 {M : Mm} {l0 l1 : Option Value} {v : Int32} : EE 68 31 [l0, l1] [.int v] M = some (some (.int v), M) := e_iret d68_31 rfl rfl
theorem d68_32 : decode (cod 68) 32 = .ok (.iinc 1 1, 3) := by decide +kernel
theorem s68_32 {M : Mm} {st : List Value} {l0 : Option Value} {x : Int32} : EE 68 32 [l0, some (.int x)] st M = EE 68 35 [cln l0, some (.int (x + nI 1))] st M := e_iinc d68_32 rfl (congrArg (fun z => x + z) k_inc_1) rfl
theorem d68_35 : decode (cod 68) 35 = .ok (.goto (-33), 3) := by decide +kernel
theorem s68_35 {M : Mm} {st : List Value} {l0 l1 : Option Value} : EE 68 35 [l0, l1] st M = EE 68 2 [l0, l1] st M := e_goto d68_35 (by decide)
theorem d68_38 : decode (cod 68) 38 = .ok (.bipush (-6), 2) := by decide +kernel
theorem s68_38 {M : Mm} {st : List Value} {l0 l1 : Option Value} : EE 68 38 [l0, l1] st M = EE 68 40 [l0, l1] (.int ((-6)) :: st) M := e_bip d68_38 k_bip_m6
theorem d68_40 : decode (cod 68) 40 = .ok (.ireturn, 1) := by decide +kernel
theorem s68_40 {M : Mm} {l0 l1 : Option Value} {v : Int32} : EE 68 40 [l0, l1] [.int v] M = some (some (.int v), M) := e_iret d68_40 rfl rfl
theorem FE68 {a : Nat} {M : Mm} : FF 68 [.ref a] M = EE 68 0 [some (.ref a), none] [] M := FF_eq 68 _ _ (Nat.le_of_ble_eq_true rfl)
theorem d69_0 : decode (cod 69) 0 = .ok (.iload_n 1, 1) := by decide +kernel
theorem s69_0 {M : Mm} {st : List Value} {l0 l2 : Option Value} {x : Int32} : EE 69 0 [l0, some (.int x), l2] st M = EE 69 1 [l0, some (.int x), l2] (.int x :: st) M := e_ld d69_0 rfl rfl rfl rfl rfl rfl
theorem d69_1 : decode (cod 69) 1 = .ok (.iconst 1, 1) := by decide +kernel
theorem s69_1 {M : Mm} {st : List Value} {l0 l1 l2 : Option Value} : EE 69 1 [l0, l1, l2] st M = EE 69 2 [l0, l1, l2] (.int (nI 1) :: st) M := e_con d69_1 k_con_1
theorem d69_2 : decode (cod 69) 2 = .ok (.if_icmp .lt 9, 3) := by decide +kernel
theorem s69_2 {M : Mm} {st : List Value} {l0 l1 l2 : Option Value} {x y : Int32} : EE 69 2 [l0, l1, l2] (.int y :: .int x :: st) M = if x < y then EE 69 11 [l0, l1, l2] st M else EE 69 5 [l0, l1, l2] st M := e_clt d69_2 (by decide)
theorem d69_5 : decode (cod 69) 5 = .ok (.iload_n 1, 1) := by decide +kernel
theorem s69_5 {M : Mm} {st : List Value} {l0 l2 : Option Value} {x : Int32} : EE 69 5 [l0, some (.int x), l2] st M = EE 69 6 [l0, some (.int x), l2] (.int x :: st) M := e_ld d69_5 rfl rfl rfl rfl rfl rfl
theorem d69_6 : decode (cod 69) 6 = .ok (.bipush 50, 2) := by decide +kernel
theorem s69_6 {M : Mm} {st : List Value} {l0 l1 l2 : Option Value} : EE 69 6 [l0, l1, l2] st M = EE 69 8 [l0, l1, l2] (.int (nI 50) :: st) M := e_bip d69_6 k_bip_50
theorem d69_8 : decode (cod 69) 8 = .ok (.if_icmp .le 6, 3) := by decide +kernel
theorem s69_8 {M : Mm} {st : List Value} {l0 l1 l2 : Option Value} {x y : Int32} : EE 69 8 [l0, l1, l2] (.int y :: .int x :: st) M = if x ≤ y then EE 69 14 [l0, l1, l2] st M else EE 69 11 [l0, l1, l2] st M := e_cle d69_8 (by decide)
theorem d69_11 : decode (cod 69) 11 = .ok (.bipush (-2), 2) := by decide +kernel
theorem s69_11 {M : Mm} {st : List Value} {l0 l1 l2 : Option Value} : EE 69 11 [l0, l1, l2] st M = EE 69 13 [l0, l1, l2] (.int ((-2)) :: st) M := e_bip d69_11 k_bip_m2
theorem d69_13 : decode (cod 69) 13 = .ok (.ireturn, 1) := by decide +kernel
theorem s69_13 {M : Mm} {l0 l1 l2 : Option Value} {v : Int32} : EE 69 13 [l0, l1, l2] [.int v] M = some (some (.int v), M) := e_iret d69_13 rfl rfl
theorem d69_14 : decode (cod 69) 14 = .ok (.aload_n 0, 1) := by decide +kernel
theorem s69_14 {M : Mm} {st : List Value} {l1 l2 : Option Value} {x : Nat} : EE 69 14 [some (.ref x), l1, l2] st M = EE 69 15 [some (.ref x), l1, l2] (.ref x :: st) M := e_ld d69_14 rfl rfl rfl rfl rfl rfl
theorem d69_15 : decode (cod 69) 15 = .ok (.getfield 37, 3) := by decide +kernel
theorem s69_15 {n : Nat} {I : Nat → Nat → Int32} {R : Nat → Nat → Option Nat} {st : List Value} {l0 l1 l2 : Option Value} {a : Nat} : EE 69 15 [l0, l1, l2] (.ref a :: st) (n, I, R) = (gfI n I R 2 7 a).bind (fun z => EE 69 18 [l0, l1, l2] (z :: st) (n, I, R)) := e_getf d69_15 f2_37 rfl rfl
theorem d69_18 : decode (cod 69) 18 = .ok (.aload_n 0, 1) := by decide +kernel
theorem s69_18 {M : Mm} {st : List Value} {l1 l2 : Option Value} {x : Nat} : EE 69 18 [some (.ref x), l1, l2] st M = EE 69 19 [some (.ref x), l1, l2] (.ref x :: st) M := e_ld d69_18 rfl rfl rfl rfl rfl rfl
theorem d69_19 : decode (cod 69) 19 = .ok (.getfield 12, 3) := by decide +kernel
theorem s69_19 {n : Nat} {I : Nat → Nat → Int32} {R : Nat → Nat → Option Nat} {st : List Value} {l0 l1 l2 : Option Value} {a : Nat} : EE 69 19 [l0, l1, l2] (.ref a :: st) (n, I, R) = (gfI n I R 2 0 a).bind (fun z => EE 69 22 [l0, l1, l2] (z :: st) (n, I, R)) := e_getf d69_19 f2_12 rfl rfl
theorem d69_22 : decode (cod 69) 22 = .ok (.invokevirtual 46, 3) := by decide +kernel
theorem s69_22 {l0 l1 l2 : Option Value} {a : Nat} {M : Mm} {b0 : Nat} {st : List Value} (hl : st.length ≤ 4) (ho : isO "HandoverDesk$State" M.1 a = true) : EE 69 22 [l0, l1, l2] (.ref b0 :: .ref a :: st) M = (FF 12 (.ref a :: [.ref b0]) M).bind (fun z => EE 69 25 [l0, l1, l2] (psh z.1 st) z.2) := e_calv (av := [.ref b0]) d69_22 c2_46 rfl rfl rfl r69_12 rfl hl ho
theorem d69_25 : decode (cod 69) 25 = .ok (.iconst 0, 1) := by decide +kernel
theorem s69_25 {M : Mm} {st : List Value} {l0 l1 l2 : Option Value} : EE 69 25 [l0, l1, l2] st M = EE 69 26 [l0, l1, l2] (.int (nI 0) :: st) M := e_con d69_25 k_con_0
theorem d69_26 : decode (cod 69) 26 = .ok (.istore_n 2, 1) := by decide +kernel
theorem s69_26 {M : Mm} {st : List Value} {l0 l1 l2 : Option Value} {x : Int32} : EE 69 26 [l0, l1, l2] (.int x :: st) M = EE 69 27 [l0, cln l1, some (.int x)] st M := e_st1 d69_26 rfl rfl rfl rfl rfl rfl rfl (Nat.le_of_ble_eq_true rfl) rfl
theorem d69_27 : decode (cod 69) 27 = .ok (.iload_n 2, 1) := by decide +kernel
theorem s69_27 {M : Mm} {st : List Value} {l0 l1 : Option Value} {x : Int32} : EE 69 27 [l0, l1, some (.int x)] st M = EE 69 28 [l0, l1, some (.int x)] (.int x :: st) M := e_ld d69_27 rfl rfl rfl rfl rfl rfl
theorem d69_28 : decode (cod 69) 28 = .ok (.iload_n 1, 1) := by decide +kernel
theorem s69_28 {M : Mm} {st : List Value} {l0 l2 : Option Value} {x : Int32} : EE 69 28 [l0, some (.int x), l2] st M = EE 69 29 [l0, some (.int x), l2] (.int x :: st) M := e_ld d69_28 rfl rfl rfl rfl rfl rfl
theorem d69_29 : decode (cod 69) 29 = .ok (.if_icmp .ge 24, 3) := by decide +kernel
theorem s69_29 {M : Mm} {st : List Value} {l0 l1 l2 : Option Value} {x y : Int32} : EE 69 29 [l0, l1, l2] (.int y :: .int x :: st) M = if y ≤ x then EE 69 53 [l0, l1, l2] st M else EE 69 32 [l0, l1, l2] st M := e_cge d69_29 (by decide)
theorem d69_32 : decode (cod 69) 32 = .ok (.aload_n 0, 1) := by decide +kernel
theorem s69_32 {M : Mm} {st : List Value} {l1 l2 : Option Value} {x : Nat} : EE 69 32 [some (.ref x), l1, l2] st M = EE 69 33 [some (.ref x), l1, l2] (.ref x :: st) M := e_ld d69_32 rfl rfl rfl rfl rfl rfl
theorem d69_33 : decode (cod 69) 33 = .ok (.getfield 37, 3) := by decide +kernel
theorem s69_33 {n : Nat} {I : Nat → Nat → Int32} {R : Nat → Nat → Option Nat} {st : List Value} {l0 l1 l2 : Option Value} {a : Nat} : EE 69 33 [l0, l1, l2] (.ref a :: st) (n, I, R) = (gfI n I R 2 7 a).bind (fun z => EE 69 36 [l0, l1, l2] (z :: st) (n, I, R)) := e_getf d69_33 f2_37 rfl rfl
theorem d69_36 : decode (cod 69) 36 = .ok (.aload_n 0, 1) := by decide +kernel
theorem s69_36 {M : Mm} {st : List Value} {l1 l2 : Option Value} {x : Nat} : EE 69 36 [some (.ref x), l1, l2] st M = EE 69 37 [some (.ref x), l1, l2] (.ref x :: st) M := e_ld d69_36 rfl rfl rfl rfl rfl rfl
theorem d69_37 : decode (cod 69) 37 = .ok (.getfield 37, 3) := by decide +kernel
theorem s69_37 {n : Nat} {I : Nat → Nat → Int32} {R : Nat → Nat → Option Nat} {st : List Value} {l0 l1 l2 : Option Value} {a : Nat} : EE 69 37 [l0, l1, l2] (.ref a :: st) (n, I, R) = (gfI n I R 2 7 a).bind (fun z => EE 69 40 [l0, l1, l2] (z :: st) (n, I, R)) := e_getf d69_37 f2_37 rfl rfl
theorem d69_40 : decode (cod 69) 40 = .ok (.invokevirtual 81, 3) := by decide +kernel
theorem s69_40 {l0 l1 l2 : Option Value} {a : Nat} {M : Mm} {st : List Value} (hl : st.length ≤ 4) (ho : isO "HandoverDesk$State" M.1 a = true) : EE 69 40 [l0, l1, l2] (.ref a :: st) M = (FF 28 (.ref a :: []) M).bind (fun z => EE 69 43 [l0, l1, l2] (psh z.1 st) z.2) := e_calv (av := []) d69_40 c2_81 rfl rfl rfl r69_28 rfl hl ho
theorem d69_43 : decode (cod 69) 43 = .ok (.invokevirtual 84, 3) := by decide +kernel
theorem s69_43 {l0 l1 l2 : Option Value} {a : Nat} {M : Mm} {b0 : Int32} {st : List Value} (hl : st.length ≤ 4) (ho : isO "HandoverDesk$State" M.1 a = true) : EE 69 43 [l0, l1, l2] (.int b0 :: .ref a :: st) M = (FF 29 (.ref a :: [.int b0]) M).bind (fun z => EE 69 46 [l0, l1, l2] (psh z.1 st) z.2) := e_calv (av := [.int b0]) d69_43 c2_84 rfl rfl rfl r69_29 rfl hl ho
theorem d69_46 : decode (cod 69) 46 = .ok (.pop, 1) := by decide +kernel
theorem s69_46i {M : Mm} {st : List Value} {l0 l1 l2 : Option Value} {x : Int32} : EE 69 46 [l0, l1, l2] (.int x :: st) M = EE 69 47 [l0, l1, l2] st M := e_pop d69_46 rfl
theorem s69_46r {M : Mm} {st : List Value} {l0 l1 l2 : Option Value} {x : Nat} : EE 69 46 [l0, l1, l2] (.ref x :: st) M = EE 69 47 [l0, l1, l2] st M := e_pop d69_46 rfl
theorem d69_47 : decode (cod 69) 47 = .ok (.iinc 2 1, 3) := by decide +kernel
theorem s69_47 {M : Mm} {st : List Value} {l0 l1 : Option Value} {x : Int32} : EE 69 47 [l0, l1, some (.int x)] st M = EE 69 50 [l0, cln l1, some (.int (x + nI 1))] st M := e_iinc d69_47 rfl (congrArg (fun z => x + z) k_inc_1) rfl
theorem d69_50 : decode (cod 69) 50 = .ok (.goto (-23), 3) := by decide +kernel
theorem s69_50 {M : Mm} {st : List Value} {l0 l1 l2 : Option Value} : EE 69 50 [l0, l1, l2] st M = EE 69 27 [l0, l1, l2] st M := e_goto d69_50 (by decide)
theorem d69_53 : decode (cod 69) 53 = .ok (.aload_n 0, 1) := by decide +kernel
theorem s69_53 {M : Mm} {st : List Value} {l1 l2 : Option Value} {x : Nat} : EE 69 53 [some (.ref x), l1, l2] st M = EE 69 54 [some (.ref x), l1, l2] (.ref x :: st) M := e_ld d69_53 rfl rfl rfl rfl rfl rfl
theorem d69_54 : decode (cod 69) 54 = .ok (.getfield 37, 3) := by decide +kernel
theorem s69_54 {n : Nat} {I : Nat → Nat → Int32} {R : Nat → Nat → Option Nat} {st : List Value} {l0 l1 l2 : Option Value} {a : Nat} : EE 69 54 [l0, l1, l2] (.ref a :: st) (n, I, R) = (gfI n I R 2 7 a).bind (fun z => EE 69 57 [l0, l1, l2] (z :: st) (n, I, R)) := e_getf d69_54 f2_37 rfl rfl
theorem d69_57 : decode (cod 69) 57 = .ok (.iconst 2, 1) := by decide +kernel
theorem s69_57 {M : Mm} {st : List Value} {l0 l1 l2 : Option Value} : EE 69 57 [l0, l1, l2] st M = EE 69 58 [l0, l1, l2] (.int (nI 2) :: st) M := e_con d69_57 k_con_2
theorem d69_58 : decode (cod 69) 58 = .ok (.invokevirtual 159, 3) := by decide +kernel
theorem s69_58 {l0 l1 l2 : Option Value} {a : Nat} {M : Mm} {b0 : Int32} {st : List Value} (hl : st.length ≤ 4) (ho : isO "HandoverDesk$State" M.1 a = true) : EE 69 58 [l0, l1, l2] (.int b0 :: .ref a :: st) M = (FF 40 (.ref a :: [.int b0]) M).bind (fun z => EE 69 61 [l0, l1, l2] (psh z.1 st) z.2) := e_calv (av := [.int b0]) d69_58 c2_159 rfl rfl rfl r69_40 rfl hl ho
theorem d69_61 : decode (cod 69) 61 = .ok (.ireturn, 1) := by decide +kernel
theorem s69_61 {M : Mm} {l0 l1 l2 : Option Value} {v : Int32} : EE 69 61 [l0, l1, l2] [.int v] M = some (some (.int v), M) := e_iret d69_61 rfl rfl
theorem FE69 {a : Nat} {b0 : Int32} {M : Mm} : FF 69 [.ref a, .int b0] M = EE 69 0 [some (.ref a), some (.int b0), none] [] M := FF_eq 69 _ _ (Nat.le_of_ble_eq_true rfl)
theorem d70_0 : decode (cod 70) 0 = .ok (.iload_n 1, 1) := by decide +kernel
theorem s70_0 {M : Mm} {st : List Value} {l0 l2 l3 l4 l5 l6 l7 l8 l9 : Option Value} {x : Int32} : EE 70 0 [l0, some (.int x), l2, l3, l4, l5, l6, l7, l8, l9] st M = EE 70 1 [l0, some (.int x), l2, l3, l4, l5, l6, l7, l8, l9] (.int x :: st) M := e_ld d70_0 rfl rfl rfl rfl rfl rfl
theorem d70_1 : decode (cod 70) 1 = .ok (.ifCond .lt 18, 3) := by decide +kernel
theorem s70_1 {M : Mm} {st : List Value} {l0 l1 l2 l3 l4 l5 l6 l7 l8 l9 : Option Value} {x : Int32} : EE 70 1 [l0, l1, l2, l3, l4, l5, l6, l7, l8, l9] (.int x :: st) M = if x < 0 then EE 70 19 [l0, l1, l2, l3, l4, l5, l6, l7, l8, l9] st M else EE 70 4 [l0, l1, l2, l3, l4, l5, l6, l7, l8, l9] st M := e_lt0 d70_1 (by decide)
theorem d70_4 : decode (cod 70) 4 = .ok (.iload_n 1, 1) := by decide +kernel
theorem s70_4 {M : Mm} {st : List Value} {l0 l2 l3 l4 l5 l6 l7 l8 l9 : Option Value} {x : Int32} : EE 70 4 [l0, some (.int x), l2, l3, l4, l5, l6, l7, l8, l9] st M = EE 70 5 [l0, some (.int x), l2, l3, l4, l5, l6, l7, l8, l9] (.int x :: st) M := e_ld d70_4 rfl rfl rfl rfl rfl rfl
theorem d70_5 : decode (cod 70) 5 = .ok (.bipush 40, 2) := by decide +kernel
theorem s70_5 {M : Mm} {st : List Value} {l0 l1 l2 l3 l4 l5 l6 l7 l8 l9 : Option Value} : EE 70 5 [l0, l1, l2, l3, l4, l5, l6, l7, l8, l9] st M = EE 70 7 [l0, l1, l2, l3, l4, l5, l6, l7, l8, l9] (.int (nI 40) :: st) M := e_bip d70_5 k_bip_40
theorem d70_7 : decode (cod 70) 7 = .ok (.if_icmp .gt 12, 3) := by decide +kernel
theorem s70_7 {M : Mm} {st : List Value} {l0 l1 l2 l3 l4 l5 l6 l7 l8 l9 : Option Value} {x y : Int32} : EE 70 7 [l0, l1, l2, l3, l4, l5, l6, l7, l8, l9] (.int y :: .int x :: st) M = if y < x then EE 70 19 [l0, l1, l2, l3, l4, l5, l6, l7, l8, l9] st M else EE 70 10 [l0, l1, l2, l3, l4, l5, l6, l7, l8, l9] st M := e_cgt d70_7 (by decide)
theorem d70_10 : decode (cod 70) 10 = .ok (.iload_n 2, 1) := by decide +kernel
theorem s70_10 {M : Mm} {st : List Value} {l0 l1 l3 l4 l5 l6 l7 l8 l9 : Option Value} {x : Int32} : EE 70 10 [l0, l1, some (.int x), l3, l4, l5, l6, l7, l8, l9] st M = EE 70 11 [l0, l1, some (.int x), l3, l4, l5, l6, l7, l8, l9] (.int x :: st) M := e_ld d70_10 rfl rfl rfl rfl rfl rfl
theorem d70_11 : decode (cod 70) 11 = .ok (.ifCond .lt 8, 3) := by decide +kernel
theorem s70_11 {M : Mm} {st : List Value} {l0 l1 l2 l3 l4 l5 l6 l7 l8 l9 : Option Value} {x : Int32} : EE 70 11 [l0, l1, l2, l3, l4, l5, l6, l7, l8, l9] (.int x :: st) M = if x < 0 then EE 70 19 [l0, l1, l2, l3, l4, l5, l6, l7, l8, l9] st M else EE 70 14 [l0, l1, l2, l3, l4, l5, l6, l7, l8, l9] st M := e_lt0 d70_11 (by decide)
theorem d70_14 : decode (cod 70) 14 = .ok (.iload_n 2, 1) := by decide +kernel
theorem s70_14 {M : Mm} {st : List Value} {l0 l1 l3 l4 l5 l6 l7 l8 l9 : Option Value} {x : Int32} : EE 70 14 [l0, l1, some (.int x), l3, l4, l5, l6, l7, l8, l9] st M = EE 70 15 [l0, l1, some (.int x), l3, l4, l5, l6, l7, l8, l9] (.int x :: st) M := e_ld d70_14 rfl rfl rfl rfl rfl rfl
theorem d70_15 : decode (cod 70) 15 = .ok (.iconst 3, 1) := by decide +kernel
theorem s70_15 {M : Mm} {st : List Value} {l0 l1 l2 l3 l4 l5 l6 l7 l8 l9 : Option Value} : EE 70 15 [l0, l1, l2, l3, l4, l5, l6, l7, l8, l9] st M = EE 70 16 [l0, l1, l2, l3, l4, l5, l6, l7, l8, l9] (.int (nI 3) :: st) M := e_con d70_15 k_con_3
theorem d70_16 : decode (cod 70) 16 = .ok (.if_icmp .le 6, 3) := by decide +kernel
theorem s70_16 {M : Mm} {st : List Value} {l0 l1 l2 l3 l4 l5 l6 l7 l8 l9 : Option Value} {x y : Int32} : EE 70 16 [l0, l1, l2, l3, l4, l5, l6, l7, l8, l9] (.int y :: .int x :: st) M = if x ≤ y then EE 70 22 [l0, l1, l2, l3, l4, l5, l6, l7, l8, l9] st M else EE 70 19 [l0, l1, l2, l3, l4, l5, l6, l7, l8, l9] st M := e_cle d70_16 (by decide)
theorem d70_19 : decode (cod 70) 19 = .ok (.bipush (-2), 2) := by decide +kernel
theorem s70_19 {M : Mm} {st : List Value} {l0 l1 l2 l3 l4 l5 l6 l7 l8 l9 : Option Value} : EE 70 19 [l0, l1, l2, l3, l4, l5, l6, l7, l8, l9] st M = EE 70 21 [l0, l1, l2, l3, l4, l5, l6, l7, l8, l9] (.int ((-2)) :: st) M := e_bip d70_19 k_bip_m2
theorem d70_21 : decode (cod 70) 21 = .ok (.ireturn, 1) := by decide +kernel
theorem s70_21 {M : Mm} {l0 l1 l2 l3 l4 l5 l6 l7 l8 l9 : Option Value} {v : Int32} : EE 70 21 [l0, l1, l2, l3, l4, l5, l6, l7, l8, l9] [.int v] M = some (some (.int v), M) := e_iret d70_21 rfl rfl
theorem d70_22 : decode (cod 70) 22 = .ok (.bipush 31, 2) := by decide +kernel
theorem s70_22 {M : Mm} {st : List Value} {l0 l1 l2 l3 l4 l5 l6 l7 l8 l9 : Option Value} : EE 70 22 [l0, l1, l2, l3, l4, l5, l6, l7, l8, l9] st M = EE 70 24 [l0, l1, l2, l3, l4, l5, l6, l7, l8, l9] (.int (nI 31) :: st) M := e_bip d70_22 k_bip_31
theorem d70_24 : decode (cod 70) 24 = .ok (.istore_n 3, 1) := by decide +kernel
theorem s70_24 {M : Mm} {st : List Value} {l0 l1 l2 l3 l4 l5 l6 l7 l8 l9 : Option Value} {x : Int32} : EE 70 24 [l0, l1, l2, l3, l4, l5, l6, l7, l8, l9] (.int x :: st) M = EE 70 25 [l0, l1, cln l2, some (.int x), l4, l5, l6, l7, l8, l9] st M := e_st1 d70_24 rfl rfl rfl rfl rfl rfl rfl (Nat.le_of_ble_eq_true rfl) rfl
theorem d70_25 : decode (cod 70) 25 = .ok (.iconst 0, 1) := by decide +kernel
theorem s70_25 {M : Mm} {st : List Value} {l0 l1 l2 l3 l4 l5 l6 l7 l8 l9 : Option Value} : EE 70 25 [l0, l1, l2, l3, l4, l5, l6, l7, l8, l9] st M = EE 70 26 [l0, l1, l2, l3, l4, l5, l6, l7, l8, l9] (.int (nI 0) :: st) M := e_con d70_25 k_con_0
theorem d70_26 : decode (cod 70) 26 = .ok (.istore 4, 2) := by decide +kernel
theorem s70_26 {M : Mm} {st : List Value} {l0 l1 l2 l3 l4 l5 l6 l7 l8 l9 : Option Value} {x : Int32} : EE 70 26 [l0, l1, l2, l3, l4, l5, l6, l7, l8, l9] (.int x :: st) M = EE 70 28 [l0, l1, l2, cln l3, some (.int x), l5, l6, l7, l8, l9] st M := e_st1 d70_26 rfl rfl rfl rfl rfl rfl rfl (Nat.le_of_ble_eq_true rfl) rfl
theorem d70_28 : decode (cod 70) 28 = .ok (.iconst 0, 1) := by decide +kernel
theorem s70_28 {M : Mm} {st : List Value} {l0 l1 l2 l3 l4 l5 l6 l7 l8 l9 : Option Value} : EE 70 28 [l0, l1, l2, l3, l4, l5, l6, l7, l8, l9] st M = EE 70 29 [l0, l1, l2, l3, l4, l5, l6, l7, l8, l9] (.int (nI 0) :: st) M := e_con d70_28 k_con_0
theorem d70_29 : decode (cod 70) 29 = .ok (.istore 5, 2) := by decide +kernel
theorem s70_29 {M : Mm} {st : List Value} {l0 l1 l2 l3 l4 l5 l6 l7 l8 l9 : Option Value} {x : Int32} : EE 70 29 [l0, l1, l2, l3, l4, l5, l6, l7, l8, l9] (.int x :: st) M = EE 70 31 [l0, l1, l2, l3, cln l4, some (.int x), l6, l7, l8, l9] st M := e_st1 d70_29 rfl rfl rfl rfl rfl rfl rfl (Nat.le_of_ble_eq_true rfl) rfl
theorem d70_31 : decode (cod 70) 31 = .ok (.iconst 0, 1) := by decide +kernel
theorem s70_31 {M : Mm} {st : List Value} {l0 l1 l2 l3 l4 l5 l6 l7 l8 l9 : Option Value} : EE 70 31 [l0, l1, l2, l3, l4, l5, l6, l7, l8, l9] st M = EE 70 32 [l0, l1, l2, l3, l4, l5, l6, l7, l8, l9] (.int (nI 0) :: st) M := e_con d70_31 k_con_0
theorem d70_32 : decode (cod 70) 32 = .ok (.istore 6, 2) := by decide +kernel
theorem s70_32 {M : Mm} {st : List Value} {l0 l1 l2 l3 l4 l5 l6 l7 l8 l9 : Option Value} {x : Int32} : EE 70 32 [l0, l1, l2, l3, l4, l5, l6, l7, l8, l9] (.int x :: st) M = EE 70 34 [l0, l1, l2, l3, l4, cln l5, some (.int x), l7, l8, l9] st M := e_st1 d70_32 rfl rfl rfl rfl rfl rfl rfl (Nat.le_of_ble_eq_true rfl) rfl
theorem d70_34 : decode (cod 70) 34 = .ok (.iload 6, 2) := by decide +kernel
theorem s70_34 {M : Mm} {st : List Value} {l0 l1 l2 l3 l4 l5 l7 l8 l9 : Option Value} {x : Int32} : EE 70 34 [l0, l1, l2, l3, l4, l5, some (.int x), l7, l8, l9] st M = EE 70 36 [l0, l1, l2, l3, l4, l5, some (.int x), l7, l8, l9] (.int x :: st) M := e_ld d70_34 rfl rfl rfl rfl rfl rfl
theorem d70_36 : decode (cod 70) 36 = .ok (.iload_n 1, 1) := by decide +kernel
theorem s70_36 {M : Mm} {st : List Value} {l0 l2 l3 l4 l5 l6 l7 l8 l9 : Option Value} {x : Int32} : EE 70 36 [l0, some (.int x), l2, l3, l4, l5, l6, l7, l8, l9] st M = EE 70 37 [l0, some (.int x), l2, l3, l4, l5, l6, l7, l8, l9] (.int x :: st) M := e_ld d70_36 rfl rfl rfl rfl rfl rfl
theorem d70_37 : decode (cod 70) 37 = .ok (.if_icmp .gt 88, 3) := by decide +kernel
theorem s70_37 {M : Mm} {st : List Value} {l0 l1 l2 l3 l4 l5 l6 l7 l8 l9 : Option Value} {x y : Int32} : EE 70 37 [l0, l1, l2, l3, l4, l5, l6, l7, l8, l9] (.int y :: .int x :: st) M = if y < x then EE 70 125 [l0, l1, l2, l3, l4, l5, l6, l7, l8, l9] st M else EE 70 40 [l0, l1, l2, l3, l4, l5, l6, l7, l8, l9] st M := e_cgt d70_37 (by decide)
theorem d70_40 : decode (cod 70) 40 = .ok (.aload_n 0, 1) := by decide +kernel
theorem s70_40 {M : Mm} {st : List Value} {l1 l2 l3 l4 l5 l6 l7 l8 l9 : Option Value} {x : Nat} : EE 70 40 [some (.ref x), l1, l2, l3, l4, l5, l6, l7, l8, l9] st M = EE 70 41 [some (.ref x), l1, l2, l3, l4, l5, l6, l7, l8, l9] (.ref x :: st) M := e_ld d70_40 rfl rfl rfl rfl rfl rfl
theorem d70_41 : decode (cod 70) 41 = .ok (.getfield 37, 3) := by decide +kernel
theorem s70_41 {n : Nat} {I : Nat → Nat → Int32} {R : Nat → Nat → Option Nat} {st : List Value} {l0 l1 l2 l3 l4 l5 l6 l7 l8 l9 : Option Value} {a : Nat} : EE 70 41 [l0, l1, l2, l3, l4, l5, l6, l7, l8, l9] (.ref a :: st) (n, I, R) = (gfI n I R 2 7 a).bind (fun z => EE 70 44 [l0, l1, l2, l3, l4, l5, l6, l7, l8, l9] (z :: st) (n, I, R)) := e_getf d70_41 f2_37 rfl rfl
theorem d70_44 : decode (cod 70) 44 = .ok (.aload_n 0, 1) := by decide +kernel
theorem s70_44 {M : Mm} {st : List Value} {l1 l2 l3 l4 l5 l6 l7 l8 l9 : Option Value} {x : Nat} : EE 70 44 [some (.ref x), l1, l2, l3, l4, l5, l6, l7, l8, l9] st M = EE 70 45 [some (.ref x), l1, l2, l3, l4, l5, l6, l7, l8, l9] (.ref x :: st) M := e_ld d70_44 rfl rfl rfl rfl rfl rfl
theorem d70_45 : decode (cod 70) 45 = .ok (.getfield 12, 3) := by decide +kernel
theorem s70_45 {n : Nat} {I : Nat → Nat → Int32} {R : Nat → Nat → Option Nat} {st : List Value} {l0 l1 l2 l3 l4 l5 l6 l7 l8 l9 : Option Value} {a : Nat} : EE 70 45 [l0, l1, l2, l3, l4, l5, l6, l7, l8, l9] (.ref a :: st) (n, I, R) = (gfI n I R 2 0 a).bind (fun z => EE 70 48 [l0, l1, l2, l3, l4, l5, l6, l7, l8, l9] (z :: st) (n, I, R)) := e_getf d70_45 f2_12 rfl rfl
theorem d70_48 : decode (cod 70) 48 = .ok (.invokevirtual 46, 3) := by decide +kernel
theorem s70_48 {l0 l1 l2 l3 l4 l5 l6 l7 l8 l9 : Option Value} {a : Nat} {M : Mm} {b0 : Nat} {st : List Value} (hl : st.length ≤ 4) (ho : isO "HandoverDesk$State" M.1 a = true) : EE 70 48 [l0, l1, l2, l3, l4, l5, l6, l7, l8, l9] (.ref b0 :: .ref a :: st) M = (FF 12 (.ref a :: [.ref b0]) M).bind (fun z => EE 70 51 [l0, l1, l2, l3, l4, l5, l6, l7, l8, l9] (psh z.1 st) z.2) := e_calv (av := [.ref b0]) d70_48 c2_46 rfl rfl rfl r70_12 rfl hl ho
theorem d70_51 : decode (cod 70) 51 = .ok (.aload_n 0, 1) := by decide +kernel
theorem s70_51 {M : Mm} {st : List Value} {l1 l2 l3 l4 l5 l6 l7 l8 l9 : Option Value} {x : Nat} : EE 70 51 [some (.ref x), l1, l2, l3, l4, l5, l6, l7, l8, l9] st M = EE 70 52 [some (.ref x), l1, l2, l3, l4, l5, l6, l7, l8, l9] (.ref x :: st) M := e_ld d70_51 rfl rfl rfl rfl rfl rfl
theorem d70_52 : decode (cod 70) 52 = .ok (.getfield 37, 3) := by decide +kernel
theorem s70_52 {n : Nat} {I : Nat → Nat → Int32} {R : Nat → Nat → Option Nat} {st : List Value} {l0 l1 l2 l3 l4 l5 l6 l7 l8 l9 : Option Value} {a : Nat} : EE 70 52 [l0, l1, l2, l3, l4, l5, l6, l7, l8, l9] (.ref a :: st) (n, I, R) = (gfI n I R 2 7 a).bind (fun z => EE 70 55 [l0, l1, l2, l3, l4, l5, l6, l7, l8, l9] (z :: st) (n, I, R)) := e_getf d70_52 f2_37 rfl rfl
theorem d70_55 : decode (cod 70) 55 = .ok (.iload 6, 2) := by decide +kernel
theorem s70_55 {M : Mm} {st : List Value} {l0 l1 l2 l3 l4 l5 l7 l8 l9 : Option Value} {x : Int32} : EE 70 55 [l0, l1, l2, l3, l4, l5, some (.int x), l7, l8, l9] st M = EE 70 57 [l0, l1, l2, l3, l4, l5, some (.int x), l7, l8, l9] (.int x :: st) M := e_ld d70_55 rfl rfl rfl rfl rfl rfl
theorem d70_57 : decode (cod 70) 57 = .ok (.invokevirtual 84, 3) := by decide +kernel
theorem s70_57 {l0 l1 l2 l3 l4 l5 l6 l7 l8 l9 : Option Value} {a : Nat} {M : Mm} {b0 : Int32} {st : List Value} (hl : st.length ≤ 4) (ho : isO "HandoverDesk$State" M.1 a = true) : EE 70 57 [l0, l1, l2, l3, l4, l5, l6, l7, l8, l9] (.int b0 :: .ref a :: st) M = (FF 29 (.ref a :: [.int b0]) M).bind (fun z => EE 70 60 [l0, l1, l2, l3, l4, l5, l6, l7, l8, l9] (psh z.1 st) z.2) := e_calv (av := [.int b0]) d70_57 c2_84 rfl rfl rfl r70_29 rfl hl ho
theorem d70_60 : decode (cod 70) 60 = .ok (.istore 7, 2) := by decide +kernel
theorem s70_60 {M : Mm} {st : List Value} {l0 l1 l2 l3 l4 l5 l6 l7 l8 l9 : Option Value} {x : Int32} : EE 70 60 [l0, l1, l2, l3, l4, l5, l6, l7, l8, l9] (.int x :: st) M = EE 70 62 [l0, l1, l2, l3, l4, l5, cln l6, some (.int x), l8, l9] st M := e_st1 d70_60 rfl rfl rfl rfl rfl rfl rfl (Nat.le_of_ble_eq_true rfl) rfl
theorem d70_62 : decode (cod 70) 62 = .ok (.iconst 0, 1) := by decide +kernel
theorem s70_62 {M : Mm} {st : List Value} {l0 l1 l2 l3 l4 l5 l6 l7 l8 l9 : Option Value} : EE 70 62 [l0, l1, l2, l3, l4, l5, l6, l7, l8, l9] st M = EE 70 63 [l0, l1, l2, l3, l4, l5, l6, l7, l8, l9] (.int (nI 0) :: st) M := e_con d70_62 k_con_0
theorem d70_63 : decode (cod 70) 63 = .ok (.istore 8, 2) := by decide +kernel
theorem s70_63 {M : Mm} {st : List Value} {l0 l1 l2 l3 l4 l5 l6 l7 l8 l9 : Option Value} {x : Int32} : EE 70 63 [l0, l1, l2, l3, l4, l5, l6, l7, l8, l9] (.int x :: st) M = EE 70 65 [l0, l1, l2, l3, l4, l5, l6, cln l7, some (.int x), l9] st M := e_st1 d70_63 rfl rfl rfl rfl rfl rfl rfl (Nat.le_of_ble_eq_true rfl) rfl
theorem d70_65 : decode (cod 70) 65 = .ok (.iload 8, 2) := by decide +kernel
theorem s70_65 {M : Mm} {st : List Value} {l0 l1 l2 l3 l4 l5 l6 l7 l9 : Option Value} {x : Int32} : EE 70 65 [l0, l1, l2, l3, l4, l5, l6, l7, some (.int x), l9] st M = EE 70 67 [l0, l1, l2, l3, l4, l5, l6, l7, some (.int x), l9] (.int x :: st) M := e_ld d70_65 rfl rfl rfl rfl rfl rfl
theorem d70_67 : decode (cod 70) 67 = .ok (.iload_n 1, 1) := by decide +kernel
theorem s70_67 {M : Mm} {st : List Value} {l0 l2 l3 l4 l5 l6 l7 l8 l9 : Option Value} {x : Int32} : EE 70 67 [l0, some (.int x), l2, l3, l4, l5, l6, l7, l8, l9] st M = EE 70 68 [l0, some (.int x), l2, l3, l4, l5, l6, l7, l8, l9] (.int x :: st) M := e_ld d70_67 rfl rfl rfl rfl rfl rfl
theorem d70_68 : decode (cod 70) 68 = .ok (.iload 6, 2) := by decide +kernel
theorem s70_68 {M : Mm} {st : List Value} {l0 l1 l2 l3 l4 l5 l7 l8 l9 : Option Value} {x : Int32} : EE 70 68 [l0, l1, l2, l3, l4, l5, some (.int x), l7, l8, l9] st M = EE 70 70 [l0, l1, l2, l3, l4, l5, some (.int x), l7, l8, l9] (.int x :: st) M := e_ld d70_68 rfl rfl rfl rfl rfl rfl
theorem d70_70 : decode (cod 70) 70 = .ok (.isub, 1) := by decide +kernel
theorem s70_70 {M : Mm} {st : List Value} {l0 l1 l2 l3 l4 l5 l6 l7 l8 l9 : Option Value} {x y : Int32} : EE 70 70 [l0, l1, l2, l3, l4, l5, l6, l7, l8, l9] (.int y :: .int x :: st) M = EE 70 71 [l0, l1, l2, l3, l4, l5, l6, l7, l8, l9] (.int (x - y) :: st) M := e_II d70_70 rfl rfl rfl rfl rfl rfl
theorem d70_71 : decode (cod 70) 71 = .ok (.if_icmp .gt 48, 3) := by decide +kernel
theorem s70_71 {M : Mm} {st : List Value} {l0 l1 l2 l3 l4 l5 l6 l7 l8 l9 : Option Value} {x y : Int32} : EE 70 71 [l0, l1, l2, l3, l4, l5, l6, l7, l8, l9] (.int y :: .int x :: st) M = if y < x then EE 70 119 [l0, l1, l2, l3, l4, l5, l6, l7, l8, l9] st M else EE 70 74 [l0, l1, l2, l3, l4, l5, l6, l7, l8, l9] st M := e_cgt d70_71 (by decide)
theorem d70_74 : decode (cod 70) 74 = .ok (.iload 7, 2) := by decide +kernel
theorem s70_74 {M : Mm} {st : List Value} {l0 l1 l2 l3 l4 l5 l6 l8 l9 : Option Value} {x : Int32} : EE 70 74 [l0, l1, l2, l3, l4, l5, l6, some (.int x), l8, l9] st M = EE 70 76 [l0, l1, l2, l3, l4, l5, l6, some (.int x), l8, l9] (.int x :: st) M := e_ld d70_74 rfl rfl rfl rfl rfl rfl
theorem d70_76 : decode (cod 70) 76 = .ok (.aload_n 0, 1) := by decide +kernel
theorem s70_76 {M : Mm} {st : List Value} {l1 l2 l3 l4 l5 l6 l7 l8 l9 : Option Value} {x : Nat} : EE 70 76 [some (.ref x), l1, l2, l3, l4, l5, l6, l7, l8, l9] st M = EE 70 77 [some (.ref x), l1, l2, l3, l4, l5, l6, l7, l8, l9] (.ref x :: st) M := e_ld d70_76 rfl rfl rfl rfl rfl rfl
theorem d70_77 : decode (cod 70) 77 = .ok (.iload 8, 2) := by decide +kernel
theorem s70_77 {M : Mm} {st : List Value} {l0 l1 l2 l3 l4 l5 l6 l7 l9 : Option Value} {x : Int32} : EE 70 77 [l0, l1, l2, l3, l4, l5, l6, l7, some (.int x), l9] st M = EE 70 79 [l0, l1, l2, l3, l4, l5, l6, l7, some (.int x), l9] (.int x :: st) M := e_ld d70_77 rfl rfl rfl rfl rfl rfl
theorem d70_79 : decode (cod 70) 79 = .ok (.iload_n 1, 1) := by decide +kernel
theorem s70_79 {M : Mm} {st : List Value} {l0 l2 l3 l4 l5 l6 l7 l8 l9 : Option Value} {x : Int32} : EE 70 79 [l0, some (.int x), l2, l3, l4, l5, l6, l7, l8, l9] st M = EE 70 80 [l0, some (.int x), l2, l3, l4, l5, l6, l7, l8, l9] (.int x :: st) M := e_ld d70_79 rfl rfl rfl rfl rfl rfl
theorem d70_80 : decode (cod 70) 80 = .ok (.iload 6, 2) := by decide +kernel
theorem s70_80 {M : Mm} {st : List Value} {l0 l1 l2 l3 l4 l5 l7 l8 l9 : Option Value} {x : Int32} : EE 70 80 [l0, l1, l2, l3, l4, l5, some (.int x), l7, l8, l9] st M = EE 70 82 [l0, l1, l2, l3, l4, l5, some (.int x), l7, l8, l9] (.int x :: st) M := e_ld d70_80 rfl rfl rfl rfl rfl rfl
theorem d70_82 : decode (cod 70) 82 = .ok (.isub, 1) := by decide +kernel
theorem s70_82 {M : Mm} {st : List Value} {l0 l1 l2 l3 l4 l5 l6 l7 l8 l9 : Option Value} {x y : Int32} : EE 70 82 [l0, l1, l2, l3, l4, l5, l6, l7, l8, l9] (.int y :: .int x :: st) M = EE 70 83 [l0, l1, l2, l3, l4, l5, l6, l7, l8, l9] (.int (x - y) :: st) M := e_II d70_82 rfl rfl rfl rfl rfl rfl
theorem d70_83 : decode (cod 70) 83 = .ok (.iload 8, 2) := by decide +kernel
theorem s70_83 {M : Mm} {st : List Value} {l0 l1 l2 l3 l4 l5 l6 l7 l9 : Option Value} {x : Int32} : EE 70 83 [l0, l1, l2, l3, l4, l5, l6, l7, some (.int x), l9] st M = EE 70 85 [l0, l1, l2, l3, l4, l5, l6, l7, some (.int x), l9] (.int x :: st) M := e_ld d70_83 rfl rfl rfl rfl rfl rfl
theorem d70_85 : decode (cod 70) 85 = .ok (.isub, 1) := by decide +kernel
theorem s70_85 {M : Mm} {st : List Value} {l0 l1 l2 l3 l4 l5 l6 l7 l8 l9 : Option Value} {x y : Int32} : EE 70 85 [l0, l1, l2, l3, l4, l5, l6, l7, l8, l9] (.int y :: .int x :: st) M = EE 70 86 [l0, l1, l2, l3, l4, l5, l6, l7, l8, l9] (.int (x - y) :: st) M := e_II d70_85 rfl rfl rfl rfl rfl rfl
theorem d70_86 : decode (cod 70) 86 = .ok (.iload_n 3, 1) := by decide +kernel
theorem s70_86 {M : Mm} {st : List Value} {l0 l1 l2 l4 l5 l6 l7 l8 l9 : Option Value} {x : Int32} : EE 70 86 [l0, l1, l2, some (.int x), l4, l5, l6, l7, l8, l9] st M = EE 70 87 [l0, l1, l2, some (.int x), l4, l5, l6, l7, l8, l9] (.int x :: st) M := e_ld d70_86 rfl rfl rfl rfl rfl rfl
theorem d70_87 : decode (cod 70) 87 = .ok (.iload 7, 2) := by decide +kernel
theorem s70_87 {M : Mm} {st : List Value} {l0 l1 l2 l3 l4 l5 l6 l8 l9 : Option Value} {x : Int32} : EE 70 87 [l0, l1, l2, l3, l4, l5, l6, some (.int x), l8, l9] st M = EE 70 89 [l0, l1, l2, l3, l4, l5, l6, some (.int x), l8, l9] (.int x :: st) M := e_ld d70_87 rfl rfl rfl rfl rfl rfl
theorem d70_89 : decode (cod 70) 89 = .ok (.isub, 1) := by decide +kernel
theorem s70_89 {M : Mm} {st : List Value} {l0 l1 l2 l3 l4 l5 l6 l7 l8 l9 : Option Value} {x y : Int32} : EE 70 89 [l0, l1, l2, l3, l4, l5, l6, l7, l8, l9] (.int y :: .int x :: st) M = EE 70 90 [l0, l1, l2, l3, l4, l5, l6, l7, l8, l9] (.int (x - y) :: st) M := e_II d70_89 rfl rfl rfl rfl rfl rfl
theorem d70_90 : decode (cod 70) 90 = .ok (.invokevirtual 190, 3) := by decide +kernel
theorem s70_90 {l0 l1 l2 l3 l4 l5 l6 l7 l8 l9 : Option Value} {a : Nat} {M : Mm} {b0 : Int32} {b1 : Int32} {b2 : Int32} {st : List Value} (hl : st.length ≤ 4) (ho : isO "HandoverDesk" M.1 a = true) : EE 70 90 [l0, l1, l2, l3, l4, l5, l6, l7, l8, l9] (.int b2 :: .int b1 :: .int b0 :: .ref a :: st) M = (FF 71 (.ref a :: [.int b0, .int b1, .int b2]) M).bind (fun z => EE 70 93 [l0, l1, l2, l3, l4, l5, l6, l7, l8, l9] (psh z.1 st) z.2) := e_calv (av := [.int b0, .int b1, .int b2]) d70_90 c2_190 rfl rfl rfl r70_71 rfl hl ho
theorem d70_93 : decode (cod 70) 93 = .ok (.iadd, 1) := by decide +kernel
theorem s70_93 {M : Mm} {st : List Value} {l0 l1 l2 l3 l4 l5 l6 l7 l8 l9 : Option Value} {x y : Int32} : EE 70 93 [l0, l1, l2, l3, l4, l5, l6, l7, l8, l9] (.int y :: .int x :: st) M = EE 70 94 [l0, l1, l2, l3, l4, l5, l6, l7, l8, l9] (.int (x + y) :: st) M := e_II d70_93 rfl rfl rfl rfl rfl rfl
theorem d70_94 : decode (cod 70) 94 = .ok (.istore 9, 2) := by decide +kernel
theorem s70_94 {M : Mm} {st : List Value} {l0 l1 l2 l3 l4 l5 l6 l7 l8 l9 : Option Value} {x : Int32} : EE 70 94 [l0, l1, l2, l3, l4, l5, l6, l7, l8, l9] (.int x :: st) M = EE 70 96 [l0, l1, l2, l3, l4, l5, l6, l7, cln l8, some (.int x)] st M := e_st1 d70_94 rfl rfl rfl rfl rfl rfl rfl (Nat.le_of_ble_eq_true rfl) rfl
theorem d70_96 : decode (cod 70) 96 = .ok (.iload 9, 2) := by decide +kernel
theorem s70_96 {M : Mm} {st : List Value} {l0 l1 l2 l3 l4 l5 l6 l7 l8 : Option Value} {x : Int32} : EE 70 96 [l0, l1, l2, l3, l4, l5, l6, l7, l8, some (.int x)] st M = EE 70 98 [l0, l1, l2, l3, l4, l5, l6, l7, l8, some (.int x)] (.int x :: st) M := e_ld d70_96 rfl rfl rfl rfl rfl rfl
theorem d70_98 : decode (cod 70) 98 = .ok (.iload_n 3, 1) := by decide +kernel
theorem s70_98 {M : Mm} {st : List Value} {l0 l1 l2 l4 l5 l6 l7 l8 l9 : Option Value} {x : Int32} : EE 70 98 [l0, l1, l2, some (.int x), l4, l5, l6, l7, l8, l9] st M = EE 70 99 [l0, l1, l2, some (.int x), l4, l5, l6, l7, l8, l9] (.int x :: st) M := e_ld d70_98 rfl rfl rfl rfl rfl rfl
theorem d70_99 : decode (cod 70) 99 = .ok (.if_icmp .ge 14, 3) := by decide +kernel
theorem s70_99 {M : Mm} {st : List Value} {l0 l1 l2 l3 l4 l5 l6 l7 l8 l9 : Option Value} {x y : Int32} : EE 70 99 [l0, l1, l2, l3, l4, l5, l6, l7, l8, l9] (.int y :: .int x :: st) M = if y ≤ x then EE 70 113 [l0, l1, l2, l3, l4, l5, l6, l7, l8, l9] st M else EE 70 102 [l0, l1, l2, l3, l4, l5, l6, l7, l8, l9] st M := e_cge d70_99 (by decide)
theorem d70_102 : decode (cod 70) 102 = .ok (.iload 9, 2) := by decide +kernel
theorem s70_102 {M : Mm} {st : List Value} {l0 l1 l2 l3 l4 l5 l6 l7 l8 : Option Value} {x : Int32} : EE 70 102 [l0, l1, l2, l3, l4, l5, l6, l7, l8, some (.int x)] st M = EE 70 104 [l0, l1, l2, l3, l4, l5, l6, l7, l8, some (.int x)] (.int x :: st) M := e_ld d70_102 rfl rfl rfl rfl rfl rfl
theorem d70_104 : decode (cod 70) 104 = .ok (.istore_n 3, 1) := by decide +kernel
theorem s70_104 {M : Mm} {st : List Value} {l0 l1 l2 l3 l4 l5 l6 l7 l8 l9 : Option Value} {x : Int32} : EE 70 104 [l0, l1, l2, l3, l4, l5, l6, l7, l8, l9] (.int x :: st) M = EE 70 105 [l0, l1, cln l2, some (.int x), l4, l5, l6, l7, l8, l9] st M := e_st1 d70_104 rfl rfl rfl rfl rfl rfl rfl (Nat.le_of_ble_eq_true rfl) rfl
theorem d70_105 : decode (cod 70) 105 = .ok (.iload 6, 2) := by decide +kernel
theorem s70_105 {M : Mm} {st : List Value} {l0 l1 l2 l3 l4 l5 l7 l8 l9 : Option Value} {x : Int32} : EE 70 105 [l0, l1, l2, l3, l4, l5, some (.int x), l7, l8, l9] st M = EE 70 107 [l0, l1, l2, l3, l4, l5, some (.int x), l7, l8, l9] (.int x :: st) M := e_ld d70_105 rfl rfl rfl rfl rfl rfl
theorem d70_107 : decode (cod 70) 107 = .ok (.istore 4, 2) := by decide +kernel
theorem s70_107 {M : Mm} {st : List Value} {l0 l1 l2 l3 l4 l5 l6 l7 l8 l9 : Option Value} {x : Int32} : EE 70 107 [l0, l1, l2, l3, l4, l5, l6, l7, l8, l9] (.int x :: st) M = EE 70 109 [l0, l1, l2, cln l3, some (.int x), l5, l6, l7, l8, l9] st M := e_st1 d70_107 rfl rfl rfl rfl rfl rfl rfl (Nat.le_of_ble_eq_true rfl) rfl
theorem d70_109 : decode (cod 70) 109 = .ok (.iload 8, 2) := by decide +kernel
theorem s70_109 {M : Mm} {st : List Value} {l0 l1 l2 l3 l4 l5 l6 l7 l9 : Option Value} {x : Int32} : EE 70 109 [l0, l1, l2, l3, l4, l5, l6, l7, some (.int x), l9] st M = EE 70 111 [l0, l1, l2, l3, l4, l5, l6, l7, some (.int x), l9] (.int x :: st) M := e_ld d70_109 rfl rfl rfl rfl rfl rfl
theorem d70_111 : decode (cod 70) 111 = .ok (.istore 5, 2) := by decide +kernel
theorem s70_111 {M : Mm} {st : List Value} {l0 l1 l2 l3 l4 l5 l6 l7 l8 l9 : Option Value} {x : Int32} : EE 70 111 [l0, l1, l2, l3, l4, l5, l6, l7, l8, l9] (.int x :: st) M = EE 70 113 [l0, l1, l2, l3, cln l4, some (.int x), l6, l7, l8, l9] st M := e_st1 d70_111 rfl rfl rfl rfl rfl rfl rfl (Nat.le_of_ble_eq_true rfl) rfl
theorem d70_113 : decode (cod 70) 113 = .ok (.iinc 8 1, 3) := by decide +kernel
theorem s70_113 {M : Mm} {st : List Value} {l0 l1 l2 l3 l4 l5 l6 l7 l9 : Option Value} {x : Int32} : EE 70 113 [l0, l1, l2, l3, l4, l5, l6, l7, some (.int x), l9] st M = EE 70 116 [l0, l1, l2, l3, l4, l5, l6, cln l7, some (.int (x + nI 1)), l9] st M := e_iinc d70_113 rfl (congrArg (fun z => x + z) k_inc_1) rfl
theorem d70_116 : decode (cod 70) 116 = .ok (.goto (-51), 3) := by decide +kernel
theorem s70_116 {M : Mm} {st : List Value} {l0 l1 l2 l3 l4 l5 l6 l7 l8 l9 : Option Value} : EE 70 116 [l0, l1, l2, l3, l4, l5, l6, l7, l8, l9] st M = EE 70 65 [l0, l1, l2, l3, l4, l5, l6, l7, l8, l9] st M := e_goto d70_116 (by decide)
theorem d70_119 : decode (cod 70) 119 = .ok (.iinc 6 1, 3) := by decide +kernel
theorem s70_119 {M : Mm} {st : List Value} {l0 l1 l2 l3 l4 l5 l7 l8 l9 : Option Value} {x : Int32} : EE 70 119 [l0, l1, l2, l3, l4, l5, some (.int x), l7, l8, l9] st M = EE 70 122 [l0, l1, l2, l3, l4, cln l5, some (.int (x + nI 1)), l7, l8, l9] st M := e_iinc d70_119 rfl (congrArg (fun z => x + z) k_inc_1) rfl
theorem d70_122 : decode (cod 70) 122 = .ok (.goto (-88), 3) := by decide +kernel
theorem s70_122 {M : Mm} {st : List Value} {l0 l1 l2 l3 l4 l5 l6 l7 l8 l9 : Option Value} : EE 70 122 [l0, l1, l2, l3, l4, l5, l6, l7, l8, l9] st M = EE 70 34 [l0, l1, l2, l3, l4, l5, l6, l7, l8, l9] st M := e_goto d70_122 (by decide)
theorem d70_125 : decode (cod 70) 125 = .ok (.iload_n 2, 1) := by decide +kernel
theorem s70_125 {M : Mm} {st : List Value} {l0 l1 l3 l4 l5 l6 l7 l8 l9 : Option Value} {x : Int32} : EE 70 125 [l0, l1, some (.int x), l3, l4, l5, l6, l7, l8, l9] st M = EE 70 126 [l0, l1, some (.int x), l3, l4, l5, l6, l7, l8, l9] (.int x :: st) M := e_ld d70_125 rfl rfl rfl rfl rfl rfl
theorem d70_126 : decode (cod 70) 126 = .ok (.tableswitch 34 0 2 #[26, 28, 31], 26) := by decide +kernel
theorem s70_126_0 {M : Mm} {st : List Value} {l0 l1 l2 l3 l4 l5 l6 l7 l8 l9 : Option Value} : EE 70 126 [l0, l1, l2, l3, l4, l5, l6, l7, l8, l9] (.int (nI 0) :: st) M = EE 70 152 [l0, l1, l2, l3, l4, l5, l6, l7, l8, l9] st M := e_tab d70_126 (by decide +kernel)
theorem s70_126_1 {M : Mm} {st : List Value} {l0 l1 l2 l3 l4 l5 l6 l7 l8 l9 : Option Value} : EE 70 126 [l0, l1, l2, l3, l4, l5, l6, l7, l8, l9] (.int (nI 1) :: st) M = EE 70 154 [l0, l1, l2, l3, l4, l5, l6, l7, l8, l9] st M := e_tab d70_126 (by decide +kernel)
theorem s70_126_2 {M : Mm} {st : List Value} {l0 l1 l2 l3 l4 l5 l6 l7 l8 l9 : Option Value} : EE 70 126 [l0, l1, l2, l3, l4, l5, l6, l7, l8, l9] (.int (nI 2) :: st) M = EE 70 157 [l0, l1, l2, l3, l4, l5, l6, l7, l8, l9] st M := e_tab d70_126 (by decide +kernel)
theorem s70_126_d {M : Mm} {st : List Value} {l0 l1 l2 l3 l4 l5 l6 l7 l8 l9 : Option Value} {x : Int32} (h : x.toInt < 0 ∨ 2 < x.toInt) : EE 70 126 [l0, l1, l2, l3, l4, l5, l6, l7, l8, l9] (.int x :: st) M = EE 70 160 [l0, l1, l2, l3, l4, l5, l6, l7, l8, l9] st M := e_tab d70_126 (by rw [if_pos h]; decide +kernel)
theorem d70_152 : decode (cod 70) 152 = .ok (.iload_n 3, 1) := by decide +kernel
theorem s70_152 {M : Mm} {st : List Value} {l0 l1 l2 l4 l5 l6 l7 l8 l9 : Option Value} {x : Int32} : EE 70 152 [l0, l1, l2, some (.int x), l4, l5, l6, l7, l8, l9] st M = EE 70 153 [l0, l1, l2, some (.int x), l4, l5, l6, l7, l8, l9] (.int x :: st) M := e_ld d70_152 rfl rfl rfl rfl rfl rfl
theorem d70_153 : decode (cod 70) 153 = .ok (.ireturn, 1) := by decide +kernel
theorem s70_153 {M : Mm} {l0 l1 l2 l3 l4 l5 l6 l7 l8 l9 : Option Value} {v : Int32} : EE 70 153 [l0, l1, l2, l3, l4, l5, l6, l7, l8, l9] [.int v] M = some (some (.int v), M) := e_iret d70_153 rfl rfl
theorem d70_154 : decode (cod 70) 154 = .ok (.iload 4, 2) := by decide +kernel
theorem s70_154 {M : Mm} {st : List Value} {l0 l1 l2 l3 l5 l6 l7 l8 l9 : Option Value} {x : Int32} : EE 70 154 [l0, l1, l2, l3, some (.int x), l5, l6, l7, l8, l9] st M = EE 70 156 [l0, l1, l2, l3, some (.int x), l5, l6, l7, l8, l9] (.int x :: st) M := e_ld d70_154 rfl rfl rfl rfl rfl rfl
theorem d70_156 : decode (cod 70) 156 = .ok (.ireturn, 1) := by decide +kernel
theorem s70_156 {M : Mm} {l0 l1 l2 l3 l4 l5 l6 l7 l8 l9 : Option Value} {v : Int32} : EE 70 156 [l0, l1, l2, l3, l4, l5, l6, l7, l8, l9] [.int v] M = some (some (.int v), M) := e_iret d70_156 rfl rfl
theorem d70_157 : decode (cod 70) 157 = .ok (.iload 5, 2) := by decide +kernel
theorem s70_157 {M : Mm} {st : List Value} {l0 l1 l2 l3 l4 l6 l7 l8 l9 : Option Value} {x : Int32} : EE 70 157 [l0, l1, l2, l3, l4, some (.int x), l6, l7, l8, l9] st M = EE 70 159 [l0, l1, l2, l3, l4, some (.int x), l6, l7, l8, l9] (.int x :: st) M := e_ld d70_157 rfl rfl rfl rfl rfl rfl
theorem d70_159 : decode (cod 70) 159 = .ok (.ireturn, 1) := by decide +kernel
theorem s70_159 {M : Mm} {l0 l1 l2 l3 l4 l5 l6 l7 l8 l9 : Option Value} {v : Int32} : EE 70 159 [l0, l1, l2, l3, l4, l5, l6, l7, l8, l9] [.int v] M = some (some (.int v), M) := e_iret d70_159 rfl rfl
theorem d70_160 : decode (cod 70) 160 = .ok (.iload_n 1, 1) := by decide +kernel
theorem s70_160 {M : Mm} {st : List Value} {l0 l2 l3 l4 l5 l6 l7 l8 l9 : Option Value} {x : Int32} : EE 70 160 [l0, some (.int x), l2, l3, l4, l5, l6, l7, l8, l9] st M = EE 70 161 [l0, some (.int x), l2, l3, l4, l5, l6, l7, l8, l9] (.int x :: st) M := e_ld d70_160 rfl rfl rfl rfl rfl rfl
theorem d70_161 : decode (cod 70) 161 = .ok (.iload 4, 2) := by decide +kernel
theorem s70_161 {M : Mm} {st : List Value} {l0 l1 l2 l3 l5 l6 l7 l8 l9 : Option Value} {x : Int32} : EE 70 161 [l0, l1, l2, l3, some (.int x), l5, l6, l7, l8, l9] st M = EE 70 163 [l0, l1, l2, l3, some (.int x), l5, l6, l7, l8, l9] (.int x :: st) M := e_ld d70_161 rfl rfl rfl rfl rfl rfl
theorem d70_163 : decode (cod 70) 163 = .ok (.isub, 1) := by decide +kernel
theorem s70_163 {M : Mm} {st : List Value} {l0 l1 l2 l3 l4 l5 l6 l7 l8 l9 : Option Value} {x y : Int32} : EE 70 163 [l0, l1, l2, l3, l4, l5, l6, l7, l8, l9] (.int y :: .int x :: st) M = EE 70 164 [l0, l1, l2, l3, l4, l5, l6, l7, l8, l9] (.int (x - y) :: st) M := e_II d70_163 rfl rfl rfl rfl rfl rfl
theorem d70_164 : decode (cod 70) 164 = .ok (.iload 5, 2) := by decide +kernel
theorem s70_164 {M : Mm} {st : List Value} {l0 l1 l2 l3 l4 l6 l7 l8 l9 : Option Value} {x : Int32} : EE 70 164 [l0, l1, l2, l3, l4, some (.int x), l6, l7, l8, l9] st M = EE 70 166 [l0, l1, l2, l3, l4, some (.int x), l6, l7, l8, l9] (.int x :: st) M := e_ld d70_164 rfl rfl rfl rfl rfl rfl
theorem d70_166 : decode (cod 70) 166 = .ok (.isub, 1) := by decide +kernel
theorem s70_166 {M : Mm} {st : List Value} {l0 l1 l2 l3 l4 l5 l6 l7 l8 l9 : Option Value} {x y : Int32} : EE 70 166 [l0, l1, l2, l3, l4, l5, l6, l7, l8, l9] (.int y :: .int x :: st) M = EE 70 167 [l0, l1, l2, l3, l4, l5, l6, l7, l8, l9] (.int (x - y) :: st) M := e_II d70_166 rfl rfl rfl rfl rfl rfl
theorem d70_167 : decode (cod 70) 167 = .ok (.ireturn, 1) := by decide +kernel
theorem s70_167 {M : Mm} {l0 l1 l2 l3 l4 l5 l6 l7 l8 l9 : Option Value} {v : Int32} : EE 70 167 [l0, l1, l2, l3, l4, l5, l6, l7, l8, l9] [.int v] M = some (some (.int v), M) := e_iret d70_167 rfl rfl
theorem FE70 {a : Nat} {b0 : Int32} {b1 : Int32} {M : Mm} : FF 70 [.ref a, .int b0, .int b1] M = EE 70 0 [some (.ref a), some (.int b0), some (.int b1), none, none, none, none, none, none, none] [] M := FF_eq 70 _ _ (Nat.le_of_ble_eq_true rfl)
theorem d71_0 : decode (cod 71) 0 = .ok (.aload_n 0, 1) := by decide +kernel
theorem s71_0 {M : Mm} {st : List Value} {l1 l2 l3 l4 : Option Value} {x : Nat} : EE 71 0 [some (.ref x), l1, l2, l3, l4] st M = EE 71 1 [some (.ref x), l1, l2, l3, l4] (.ref x :: st) M := e_ld d71_0 rfl rfl rfl rfl rfl rfl
theorem d71_1 : decode (cod 71) 1 = .ok (.getfield 40, 3) := by decide +kernel
theorem s71_1 {n : Nat} {I : Nat → Nat → Int32} {R : Nat → Nat → Option Nat} {st : List Value} {l0 l1 l2 l3 l4 : Option Value} {a : Nat} : EE 71 1 [l0, l1, l2, l3, l4] (.ref a :: st) (n, I, R) = (gfI n I R 2 8 a).bind (fun z => EE 71 4 [l0, l1, l2, l3, l4] (z :: st) (n, I, R)) := e_getf d71_1 f2_40 rfl rfl
theorem d71_4 : decode (cod 71) 4 = .ok (.aload_n 0, 1) := by decide +kernel
theorem s71_4 {M : Mm} {st : List Value} {l1 l2 l3 l4 : Option Value} {x : Nat} : EE 71 4 [some (.ref x), l1, l2, l3, l4] st M = EE 71 5 [some (.ref x), l1, l2, l3, l4] (.ref x :: st) M := e_ld d71_4 rfl rfl rfl rfl rfl rfl
theorem d71_5 : decode (cod 71) 5 = .ok (.getfield 37, 3) := by decide +kernel
theorem s71_5 {n : Nat} {I : Nat → Nat → Int32} {R : Nat → Nat → Option Nat} {st : List Value} {l0 l1 l2 l3 l4 : Option Value} {a : Nat} : EE 71 5 [l0, l1, l2, l3, l4] (.ref a :: st) (n, I, R) = (gfI n I R 2 7 a).bind (fun z => EE 71 8 [l0, l1, l2, l3, l4] (z :: st) (n, I, R)) := e_getf d71_5 f2_37 rfl rfl
theorem d71_8 : decode (cod 71) 8 = .ok (.invokevirtual 46, 3) := by decide +kernel
theorem s71_8 {l0 l1 l2 l3 l4 : Option Value} {a : Nat} {M : Mm} {b0 : Nat} {st : List Value} (hl : st.length ≤ 4) (ho : isO "HandoverDesk$State" M.1 a = true) : EE 71 8 [l0, l1, l2, l3, l4] (.ref b0 :: .ref a :: st) M = (FF 12 (.ref a :: [.ref b0]) M).bind (fun z => EE 71 11 [l0, l1, l2, l3, l4] (psh z.1 st) z.2) := e_calv (av := [.ref b0]) d71_8 c2_46 rfl rfl rfl r71_12 rfl hl ho
theorem d71_11 : decode (cod 71) 11 = .ok (.aload_n 0, 1) := by decide +kernel
theorem s71_11 {M : Mm} {st : List Value} {l1 l2 l3 l4 : Option Value} {x : Nat} : EE 71 11 [some (.ref x), l1, l2, l3, l4] st M = EE 71 12 [some (.ref x), l1, l2, l3, l4] (.ref x :: st) M := e_ld d71_11 rfl rfl rfl rfl rfl rfl
theorem d71_12 : decode (cod 71) 12 = .ok (.getfield 40, 3) := by decide +kernel
theorem s71_12 {n : Nat} {I : Nat → Nat → Int32} {R : Nat → Nat → Option Nat} {st : List Value} {l0 l1 l2 l3 l4 : Option Value} {a : Nat} : EE 71 12 [l0, l1, l2, l3, l4] (.ref a :: st) (n, I, R) = (gfI n I R 2 8 a).bind (fun z => EE 71 15 [l0, l1, l2, l3, l4] (z :: st) (n, I, R)) := e_getf d71_12 f2_40 rfl rfl
theorem d71_15 : decode (cod 71) 15 = .ok (.iload_n 1, 1) := by decide +kernel
theorem s71_15 {M : Mm} {st : List Value} {l0 l2 l3 l4 : Option Value} {x : Int32} : EE 71 15 [l0, some (.int x), l2, l3, l4] st M = EE 71 16 [l0, some (.int x), l2, l3, l4] (.int x :: st) M := e_ld d71_15 rfl rfl rfl rfl rfl rfl
theorem d71_16 : decode (cod 71) 16 = .ok (.invokevirtual 84, 3) := by decide +kernel
theorem s71_16 {l0 l1 l2 l3 l4 : Option Value} {a : Nat} {M : Mm} {b0 : Int32} {st : List Value} (hl : st.length ≤ 4) (ho : isO "HandoverDesk$State" M.1 a = true) : EE 71 16 [l0, l1, l2, l3, l4] (.int b0 :: .ref a :: st) M = (FF 29 (.ref a :: [.int b0]) M).bind (fun z => EE 71 19 [l0, l1, l2, l3, l4] (psh z.1 st) z.2) := e_calv (av := [.int b0]) d71_16 c2_84 rfl rfl rfl r71_29 rfl hl ho
theorem d71_19 : decode (cod 71) 19 = .ok (.istore 4, 2) := by decide +kernel
theorem s71_19 {M : Mm} {st : List Value} {l0 l1 l2 l3 l4 : Option Value} {x : Int32} : EE 71 19 [l0, l1, l2, l3, l4] (.int x :: st) M = EE 71 21 [l0, l1, l2, cln l3, some (.int x)] st M := e_st1 d71_19 rfl rfl rfl rfl rfl rfl rfl (Nat.le_of_ble_eq_true rfl) rfl
theorem d71_21 : decode (cod 71) 21 = .ok (.iload 4, 2) := by decide +kernel
theorem s71_21 {M : Mm} {st : List Value} {l0 l1 l2 l3 : Option Value} {x : Int32} : EE 71 21 [l0, l1, l2, l3, some (.int x)] st M = EE 71 23 [l0, l1, l2, l3, some (.int x)] (.int x :: st) M := e_ld d71_21 rfl rfl rfl rfl rfl rfl
theorem d71_23 : decode (cod 71) 23 = .ok (.iload_n 3, 1) := by decide +kernel
theorem s71_23 {M : Mm} {st : List Value} {l0 l1 l2 l4 : Option Value} {x : Int32} : EE 71 23 [l0, l1, l2, some (.int x), l4] st M = EE 71 24 [l0, l1, l2, some (.int x), l4] (.int x :: st) M := e_ld d71_23 rfl rfl rfl rfl rfl rfl
theorem d71_24 : decode (cod 71) 24 = .ok (.if_icmp .lt 6, 3) := by decide +kernel
theorem s71_24 {M : Mm} {st : List Value} {l0 l1 l2 l3 l4 : Option Value} {x y : Int32} : EE 71 24 [l0, l1, l2, l3, l4] (.int y :: .int x :: st) M = if x < y then EE 71 30 [l0, l1, l2, l3, l4] st M else EE 71 27 [l0, l1, l2, l3, l4] st M := e_clt d71_24 (by decide)
theorem d71_27 : decode (cod 71) 27 = .ok (.iload 4, 2) := by decide +kernel
theorem s71_27 {M : Mm} {st : List Value} {l0 l1 l2 l3 : Option Value} {x : Int32} : EE 71 27 [l0, l1, l2, l3, some (.int x)] st M = EE 71 29 [l0, l1, l2, l3, some (.int x)] (.int x :: st) M := e_ld d71_27 rfl rfl rfl rfl rfl rfl
theorem d71_29 : decode (cod 71) 29 = .ok (.ireturn, 1) := by decide +kernel
theorem s71_29 {M : Mm} {l0 l1 l2 l3 l4 : Option Value} {v : Int32} : EE 71 29 [l0, l1, l2, l3, l4] [.int v] M = some (some (.int v), M) := e_iret d71_29 rfl rfl
theorem d71_30 : decode (cod 71) 30 = .ok (.aload_n 0, 1) := by decide +kernel
theorem s71_30 {M : Mm} {st : List Value} {l1 l2 l3 l4 : Option Value} {x : Nat} : EE 71 30 [some (.ref x), l1, l2, l3, l4] st M = EE 71 31 [some (.ref x), l1, l2, l3, l4] (.ref x :: st) M := e_ld d71_30 rfl rfl rfl rfl rfl rfl
theorem d71_31 : decode (cod 71) 31 = .ok (.getfield 43, 3) := by decide +kernel
theorem s71_31 {n : Nat} {I : Nat → Nat → Int32} {R : Nat → Nat → Option Nat} {st : List Value} {l0 l1 l2 l3 l4 : Option Value} {a : Nat} : EE 71 31 [l0, l1, l2, l3, l4] (.ref a :: st) (n, I, R) = (gfI n I R 2 9 a).bind (fun z => EE 71 34 [l0, l1, l2, l3, l4] (z :: st) (n, I, R)) := e_getf d71_31 f2_43 rfl rfl
theorem d71_34 : decode (cod 71) 34 = .ok (.aload_n 0, 1) := by decide +kernel
theorem s71_34 {M : Mm} {st : List Value} {l1 l2 l3 l4 : Option Value} {x : Nat} : EE 71 34 [some (.ref x), l1, l2, l3, l4] st M = EE 71 35 [some (.ref x), l1, l2, l3, l4] (.ref x :: st) M := e_ld d71_34 rfl rfl rfl rfl rfl rfl
theorem d71_35 : decode (cod 71) 35 = .ok (.getfield 40, 3) := by decide +kernel
theorem s71_35 {n : Nat} {I : Nat → Nat → Int32} {R : Nat → Nat → Option Nat} {st : List Value} {l0 l1 l2 l3 l4 : Option Value} {a : Nat} : EE 71 35 [l0, l1, l2, l3, l4] (.ref a :: st) (n, I, R) = (gfI n I R 2 8 a).bind (fun z => EE 71 38 [l0, l1, l2, l3, l4] (z :: st) (n, I, R)) := e_getf d71_35 f2_40 rfl rfl
theorem d71_38 : decode (cod 71) 38 = .ok (.invokevirtual 46, 3) := by decide +kernel
theorem s71_38 {l0 l1 l2 l3 l4 : Option Value} {a : Nat} {M : Mm} {b0 : Nat} {st : List Value} (hl : st.length ≤ 4) (ho : isO "HandoverDesk$State" M.1 a = true) : EE 71 38 [l0, l1, l2, l3, l4] (.ref b0 :: .ref a :: st) M = (FF 12 (.ref a :: [.ref b0]) M).bind (fun z => EE 71 41 [l0, l1, l2, l3, l4] (psh z.1 st) z.2) := e_calv (av := [.ref b0]) d71_38 c2_46 rfl rfl rfl r71_12 rfl hl ho
theorem d71_41 : decode (cod 71) 41 = .ok (.iload 4, 2) := by decide +kernel
theorem s71_41 {M : Mm} {st : List Value} {l0 l1 l2 l3 : Option Value} {x : Int32} : EE 71 41 [l0, l1, l2, l3, some (.int x)] st M = EE 71 43 [l0, l1, l2, l3, some (.int x)] (.int x :: st) M := e_ld d71_41 rfl rfl rfl rfl rfl rfl
theorem d71_43 : decode (cod 71) 43 = .ok (.aload_n 0, 1) := by decide +kernel
theorem s71_43 {M : Mm} {st : List Value} {l1 l2 l3 l4 : Option Value} {x : Nat} : EE 71 43 [some (.ref x), l1, l2, l3, l4] st M = EE 71 44 [some (.ref x), l1, l2, l3, l4] (.ref x :: st) M := e_ld d71_43 rfl rfl rfl rfl rfl rfl
theorem d71_44 : decode (cod 71) 44 = .ok (.getfield 43, 3) := by decide +kernel
theorem s71_44 {n : Nat} {I : Nat → Nat → Int32} {R : Nat → Nat → Option Nat} {st : List Value} {l0 l1 l2 l3 l4 : Option Value} {a : Nat} : EE 71 44 [l0, l1, l2, l3, l4] (.ref a :: st) (n, I, R) = (gfI n I R 2 9 a).bind (fun z => EE 71 47 [l0, l1, l2, l3, l4] (z :: st) (n, I, R)) := e_getf d71_44 f2_43 rfl rfl
theorem d71_47 : decode (cod 71) 47 = .ok (.iload_n 2, 1) := by decide +kernel
theorem s71_47 {M : Mm} {st : List Value} {l0 l1 l3 l4 : Option Value} {x : Int32} : EE 71 47 [l0, l1, some (.int x), l3, l4] st M = EE 71 48 [l0, l1, some (.int x), l3, l4] (.int x :: st) M := e_ld d71_47 rfl rfl rfl rfl rfl rfl
theorem d71_48 : decode (cod 71) 48 = .ok (.invokevirtual 84, 3) := by decide +kernel
theorem s71_48 {l0 l1 l2 l3 l4 : Option Value} {a : Nat} {M : Mm} {b0 : Int32} {st : List Value} (hl : st.length ≤ 4) (ho : isO "HandoverDesk$State" M.1 a = true) : EE 71 48 [l0, l1, l2, l3, l4] (.int b0 :: .ref a :: st) M = (FF 29 (.ref a :: [.int b0]) M).bind (fun z => EE 71 51 [l0, l1, l2, l3, l4] (psh z.1 st) z.2) := e_calv (av := [.int b0]) d71_48 c2_84 rfl rfl rfl r71_29 rfl hl ho
theorem d71_51 : decode (cod 71) 51 = .ok (.iadd, 1) := by decide +kernel
theorem s71_51 {M : Mm} {st : List Value} {l0 l1 l2 l3 l4 : Option Value} {x y : Int32} : EE 71 51 [l0, l1, l2, l3, l4] (.int y :: .int x :: st) M = EE 71 52 [l0, l1, l2, l3, l4] (.int (x + y) :: st) M := e_II d71_51 rfl rfl rfl rfl rfl rfl
theorem d71_52 : decode (cod 71) 52 = .ok (.ireturn, 1) := by decide +kernel
theorem s71_52 {M : Mm} {l0 l1 l2 l3 l4 : Option Value} {v : Int32} : EE 71 52 [l0, l1, l2, l3, l4] [.int v] M = some (some (.int v), M) := e_iret d71_52 rfl rfl
theorem FE71 {a : Nat} {b0 : Int32} {b1 : Int32} {b2 : Int32} {M : Mm} : FF 71 [.ref a, .int b0, .int b1, .int b2] M = EE 71 0 [some (.ref a), some (.int b0), some (.int b1), some (.int b2), none] [] M := FF_eq 71 _ _ (Nat.le_of_ble_eq_true rfl)
theorem d72_0 : decode (cod 72) 0 = .ok (.aload_n 0, 1) := by decide +kernel
theorem s72_0 {M : Mm} {st : List Value} {l1 l2 : Option Value} {x : Nat} : EE 72 0 [some (.ref x), l1, l2] st M = EE 72 1 [some (.ref x), l1, l2] (.ref x :: st) M := e_ld d72_0 rfl rfl rfl rfl rfl rfl
theorem d72_1 : decode (cod 72) 1 = .ok (.getfield 33, 3) := by decide +kernel
theorem s72_1 {n : Nat} {I : Nat → Nat → Int32} {R : Nat → Nat → Option Nat} {st : List Value} {l0 l1 l2 : Option Value} {a : Nat} : EE 72 1 [l0, l1, l2] (.ref a :: st) (n, I, R) = (gfI n I R 2 6 a).bind (fun z => EE 72 4 [l0, l1, l2] (z :: st) (n, I, R)) := e_getf d72_1 f2_33 rfl rfl
theorem d72_4 : decode (cod 72) 4 = .ok (.lload_n 1, 1) := by decide +kernel
theorem s72_4 {M : Mm} {st : List Value} {l0 l2 : Option Value} {x : Int64} : EE 72 4 [l0, some (.long x), l2] st M = EE 72 5 [l0, some (.long x), l2] (.long x :: st) M := e_ld d72_4 rfl rfl rfl rfl rfl rfl
theorem d72_5 : decode (cod 72) 5 = .ok (.invokevirtual 193, 3) := by decide +kernel
theorem s72_5 {l0 l1 l2 : Option Value} {a : Nat} {M : Mm} {b0 : Int64} {st : List Value} (hl : st.length ≤ 4) (ho : isO "HandoverDesk$Pad" M.1 a = true) : EE 72 5 [l0, l1, l2] (.long b0 :: .ref a :: st) M = (FF 1 (.ref a :: [.long b0]) M).bind (fun z => EE 72 8 [l0, l1, l2] (psh z.1 st) z.2) := e_calv (av := [.long b0]) d72_5 c2_193 rfl rfl rfl r72_1 rfl hl ho
theorem d72_8 : decode (cod 72) 8 = .ok (.ireturn, 1) := by decide +kernel
theorem s72_8 {M : Mm} {l0 l1 l2 : Option Value} {v : Int32} : EE 72 8 [l0, l1, l2] [.int v] M = some (some (.int v), M) := e_iret d72_8 rfl rfl
theorem FE72 {a : Nat} {b0 : Int64} {M : Mm} : FF 72 [.ref a, .long b0] M = EE 72 0 [some (.ref a), some (.long b0), none] [] M := FF_eq 72 _ _ (Nat.le_of_ble_eq_true rfl)
theorem d73_0 : decode (cod 73) 0 = .ok (.aload_n 0, 1) := by decide +kernel
theorem s73_0 {M : Mm} {st : List Value} {l1 : Option Value} {x : Nat} : EE 73 0 [some (.ref x), l1] st M = EE 73 1 [some (.ref x), l1] (.ref x :: st) M := e_ld d73_0 rfl rfl rfl rfl rfl rfl
theorem d73_1 : decode (cod 73) 1 = .ok (.getfield 33, 3) := by decide +kernel
theorem s73_1 {n : Nat} {I : Nat → Nat → Int32} {R : Nat → Nat → Option Nat} {st : List Value} {l0 l1 : Option Value} {a : Nat} : EE 73 1 [l0, l1] (.ref a :: st) (n, I, R) = (gfI n I R 2 6 a).bind (fun z => EE 73 4 [l0, l1] (z :: st) (n, I, R)) := e_getf d73_1 f2_33 rfl rfl
theorem d73_4 : decode (cod 73) 4 = .ok (.getfield 162, 3) := by decide +kernel
theorem s73_4 {n : Nat} {I : Nat → Nat → Int32} {R : Nat → Nat → Option Nat} {st : List Value} {l0 l1 : Option Value} {a : Nat} : EE 73 4 [l0, l1] (.ref a :: st) (n, I, R) = (gfI n I R 0 2 a).bind (fun z => EE 73 7 [l0, l1] (z :: st) (n, I, R)) := e_getf d73_4 f2_162 rfl rfl
theorem d73_7 : decode (cod 73) 7 = .ok (.istore_n 1, 1) := by decide +kernel
theorem s73_7 {M : Mm} {st : List Value} {l0 l1 : Option Value} {x : Int32} : EE 73 7 [l0, l1] (.int x :: st) M = EE 73 8 [cln l0, some (.int x)] st M := e_st1 d73_7 rfl rfl rfl rfl rfl rfl rfl (Nat.le_of_ble_eq_true rfl) rfl
theorem d73_8 : decode (cod 73) 8 = .ok (.aload_n 0, 1) := by decide +kernel
theorem s73_8 {M : Mm} {st : List Value} {l1 : Option Value} {x : Nat} : EE 73 8 [some (.ref x), l1] st M = EE 73 9 [some (.ref x), l1] (.ref x :: st) M := e_ld d73_8 rfl rfl rfl rfl rfl rfl
theorem d73_9 : decode (cod 73) 9 = .ok (.getfield 33, 3) := by decide +kernel
theorem s73_9 {n : Nat} {I : Nat → Nat → Int32} {R : Nat → Nat → Option Nat} {st : List Value} {l0 l1 : Option Value} {a : Nat} : EE 73 9 [l0, l1] (.ref a :: st) (n, I, R) = (gfI n I R 2 6 a).bind (fun z => EE 73 12 [l0, l1] (z :: st) (n, I, R)) := e_getf d73_9 f2_33 rfl rfl
theorem d73_12 : decode (cod 73) 12 = .ok (.iconst 0, 1) := by decide +kernel
theorem s73_12 {M : Mm} {st : List Value} {l0 l1 : Option Value} : EE 73 12 [l0, l1] st M = EE 73 13 [l0, l1] (.int (nI 0) :: st) M := e_con d73_12 k_con_0
theorem d73_13 : decode (cod 73) 13 = .ok (.putfield 162, 3) := by decide +kernel
theorem s73_13 {n : Nat} {I : Nat → Nat → Int32} {R : Nat → Nat → Option Nat} {st : List Value} {l0 l1 : Option Value} {a : Nat} {v : Value} : EE 73 13 [l0, l1] (v :: .ref a :: st) (n, I, R) = (pfI n I R 0 2 a v).bind (fun z => EE 73 16 [l0, l1] st (n, z.1, z.2)) := e_putf d73_13 f2_162 rfl rfl (Or.inr rfl)
theorem d73_16 : decode (cod 73) 16 = .ok (.iload_n 1, 1) := by decide +kernel
theorem s73_16 {M : Mm} {st : List Value} {l0 : Option Value} {x : Int32} : EE 73 16 [l0, some (.int x)] st M = EE 73 17 [l0, some (.int x)] (.int x :: st) M := e_ld d73_16 rfl rfl rfl rfl rfl rfl
theorem d73_17 : decode (cod 73) 17 = .ok (.ireturn, 1) := by decide +kernel
theorem s73_17 {M : Mm} {l0 l1 : Option Value} {v : Int32} : EE 73 17 [l0, l1] [.int v] M = some (some (.int v), M) := e_iret d73_17 rfl rfl
theorem FE73 {a : Nat} {M : Mm} : FF 73 [.ref a] M = EE 73 0 [some (.ref a), none] [] M := FF_eq 73 _ _ (Nat.le_of_ble_eq_true rfl)
theorem d74_0 : decode (cod 74) 0 = .ok (.aload_n 0, 1) := by decide +kernel
theorem s74_0 {M : Mm} {st : List Value} {x : Nat} : EE 74 0 [some (.ref x)] st M = EE 74 1 [some (.ref x)] (.ref x :: st) M := e_ld d74_0 rfl rfl rfl rfl rfl rfl
theorem d74_1 : decode (cod 74) 1 = .ok (.getfield 33, 3) := by decide +kernel
theorem s74_1 {n : Nat} {I : Nat → Nat → Int32} {R : Nat → Nat → Option Nat} {st : List Value} {l0 : Option Value} {a : Nat} : EE 74 1 [l0] (.ref a :: st) (n, I, R) = (gfI n I R 2 6 a).bind (fun z => EE 74 4 [l0] (z :: st) (n, I, R)) := e_getf d74_1 f2_33 rfl rfl
theorem d74_4 : decode (cod 74) 4 = .ok (.invokevirtual 197, 3) := by decide +kernel
theorem s74_4 {l0 : Option Value} {a : Nat} {M : Mm} {st : List Value} (hl : st.length ≤ 4) (ho : isO "HandoverDesk$Pad" M.1 a = true) : EE 74 4 [l0] (.ref a :: st) M = (FF 3 (.ref a :: []) M).bind (fun z => EE 74 7 [l0] (psh z.1 st) z.2) := e_calv (av := []) d74_4 c2_197 rfl rfl rfl r74_3 rfl hl ho
theorem d74_7 : decode (cod 74) 7 = .ok (.ireturn, 1) := by decide +kernel
theorem s74_7 {M : Mm} {l0 : Option Value} {v : Int32} : EE 74 7 [l0] [.int v] M = some (some (.int v), M) := e_iret d74_7 rfl rfl
theorem FE74 {a : Nat} {M : Mm} : FF 74 [.ref a] M = EE 74 0 [some (.ref a)] [] M := FF_eq 74 _ _ (Nat.le_of_ble_eq_true rfl)
theorem d75_0 : decode (cod 75) 0 = .ok (.aload_n 0, 1) := by decide +kernel
theorem s75_0 {M : Mm} {st : List Value} {l1 : Option Value} {x : Nat} : EE 75 0 [some (.ref x), l1] st M = EE 75 1 [some (.ref x), l1] (.ref x :: st) M := e_ld d75_0 rfl rfl rfl rfl rfl rfl
theorem d75_1 : decode (cod 75) 1 = .ok (.getfield 33, 3) := by decide +kernel
theorem s75_1 {n : Nat} {I : Nat → Nat → Int32} {R : Nat → Nat → Option Nat} {st : List Value} {l0 l1 : Option Value} {a : Nat} : EE 75 1 [l0, l1] (.ref a :: st) (n, I, R) = (gfI n I R 2 6 a).bind (fun z => EE 75 4 [l0, l1] (z :: st) (n, I, R)) := e_getf d75_1 f2_33 rfl rfl
theorem d75_4 : decode (cod 75) 4 = .ok (.invokevirtual 197, 3) := by decide +kernel
theorem s75_4 {l0 l1 : Option Value} {a : Nat} {M : Mm} {st : List Value} (hl : st.length ≤ 4) (ho : isO "HandoverDesk$Pad" M.1 a = true) : EE 75 4 [l0, l1] (.ref a :: st) M = (FF 3 (.ref a :: []) M).bind (fun z => EE 75 7 [l0, l1] (psh z.1 st) z.2) := e_calv (av := []) d75_4 c2_197 rfl rfl rfl r75_3 rfl hl ho
theorem d75_7 : decode (cod 75) 7 = .ok (.bipush (-6), 2) := by decide +kernel
theorem s75_7 {M : Mm} {st : List Value} {l0 l1 : Option Value} : EE 75 7 [l0, l1] st M = EE 75 9 [l0, l1] (.int ((-6)) :: st) M := e_bip d75_7 k_bip_m6
theorem d75_9 : decode (cod 75) 9 = .ok (.if_icmp .eq 6, 3) := by decide +kernel
theorem s75_9 {M : Mm} {st : List Value} {l0 l1 : Option Value} {x y : Int32} : EE 75 9 [l0, l1] (.int y :: .int x :: st) M = if x = y then EE 75 15 [l0, l1] st M else EE 75 12 [l0, l1] st M := e_ceq d75_9 (by decide)
theorem d75_12 : decode (cod 75) 12 = .ok (.bipush (-3), 2) := by decide +kernel
theorem s75_12 {M : Mm} {st : List Value} {l0 l1 : Option Value} : EE 75 12 [l0, l1] st M = EE 75 14 [l0, l1] (.int ((-3)) :: st) M := e_bip d75_12 k_bip_m3
theorem d75_14 : decode (cod 75) 14 = .ok (.ireturn, 1) := by decide +kernel
theorem s75_14 {M : Mm} {l0 l1 : Option Value} {v : Int32} : EE 75 14 [l0, l1] [.int v] M = some (some (.int v), M) := e_iret d75_14 rfl rfl
theorem d75_15 : decode (cod 75) 15 = .ok (.aload_n 0, 1) := by decide +kernel
theorem s75_15 {M : Mm} {st : List Value} {l1 : Option Value} {x : Nat} : EE 75 15 [some (.ref x), l1] st M = EE 75 16 [some (.ref x), l1] (.ref x :: st) M := e_ld d75_15 rfl rfl rfl rfl rfl rfl
theorem d75_16 : decode (cod 75) 16 = .ok (.getfield 16, 3) := by decide +kernel
theorem s75_16 {n : Nat} {I : Nat → Nat → Int32} {R : Nat → Nat → Option Nat} {st : List Value} {l0 l1 : Option Value} {a : Nat} : EE 75 16 [l0, l1] (.ref a :: st) (n, I, R) = (gfI n I R 2 1 a).bind (fun z => EE 75 19 [l0, l1] (z :: st) (n, I, R)) := e_getf d75_16 f2_16 rfl rfl
theorem d75_19 : decode (cod 75) 19 = .ok (.aload_n 0, 1) := by decide +kernel
theorem s75_19 {M : Mm} {st : List Value} {l1 : Option Value} {x : Nat} : EE 75 19 [some (.ref x), l1] st M = EE 75 20 [some (.ref x), l1] (.ref x :: st) M := e_ld d75_19 rfl rfl rfl rfl rfl rfl
theorem d75_20 : decode (cod 75) 20 = .ok (.getfield 12, 3) := by decide +kernel
theorem s75_20 {n : Nat} {I : Nat → Nat → Int32} {R : Nat → Nat → Option Nat} {st : List Value} {l0 l1 : Option Value} {a : Nat} : EE 75 20 [l0, l1] (.ref a :: st) (n, I, R) = (gfI n I R 2 0 a).bind (fun z => EE 75 23 [l0, l1] (z :: st) (n, I, R)) := e_getf d75_20 f2_12 rfl rfl
theorem d75_23 : decode (cod 75) 23 = .ok (.invokevirtual 46, 3) := by decide +kernel
theorem s75_23 {l0 l1 : Option Value} {a : Nat} {M : Mm} {b0 : Nat} {st : List Value} (hl : st.length ≤ 4) (ho : isO "HandoverDesk$State" M.1 a = true) : EE 75 23 [l0, l1] (.ref b0 :: .ref a :: st) M = (FF 12 (.ref a :: [.ref b0]) M).bind (fun z => EE 75 26 [l0, l1] (psh z.1 st) z.2) := e_calv (av := [.ref b0]) d75_23 c2_46 rfl rfl rfl r75_12 rfl hl ho
theorem d75_26 : decode (cod 75) 26 = .ok (.aload_n 0, 1) := by decide +kernel
theorem s75_26 {M : Mm} {st : List Value} {l1 : Option Value} {x : Nat} : EE 75 26 [some (.ref x), l1] st M = EE 75 27 [some (.ref x), l1] (.ref x :: st) M := e_ld d75_26 rfl rfl rfl rfl rfl rfl
theorem d75_27 : decode (cod 75) 27 = .ok (.getfield 33, 3) := by decide +kernel
theorem s75_27 {n : Nat} {I : Nat → Nat → Int32} {R : Nat → Nat → Option Nat} {st : List Value} {l0 l1 : Option Value} {a : Nat} : EE 75 27 [l0, l1] (.ref a :: st) (n, I, R) = (gfI n I R 2 6 a).bind (fun z => EE 75 30 [l0, l1] (z :: st) (n, I, R)) := e_getf d75_27 f2_33 rfl rfl
theorem d75_30 : decode (cod 75) 30 = .ok (.invokevirtual 200, 3) := by decide +kernel
theorem s75_30 {l0 l1 : Option Value} {a : Nat} {M : Mm} {st : List Value} (hl : st.length ≤ 4) (ho : isO "HandoverDesk$Pad" M.1 a = true) : EE 75 30 [l0, l1] (.ref a :: st) M = (FF 4 (.ref a :: []) M).bind (fun z => EE 75 33 [l0, l1] (psh z.1 st) z.2) := e_calv (av := []) d75_30 c2_200 rfl rfl rfl r75_4 rfl hl ho
theorem d75_33 : decode (cod 75) 33 = .ok (.iconst 0, 1) := by decide +kernel
theorem s75_33 {M : Mm} {st : List Value} {l0 l1 : Option Value} : EE 75 33 [l0, l1] st M = EE 75 34 [l0, l1] (.int (nI 0) :: st) M := e_con d75_33 k_con_0
theorem d75_34 : decode (cod 75) 34 = .ok (.istore_n 1, 1) := by decide +kernel
theorem s75_34 {M : Mm} {st : List Value} {l0 l1 : Option Value} {x : Int32} : EE 75 34 [l0, l1] (.int x :: st) M = EE 75 35 [cln l0, some (.int x)] st M := e_st1 d75_34 rfl rfl rfl rfl rfl rfl rfl (Nat.le_of_ble_eq_true rfl) rfl
theorem d75_35 : decode (cod 75) 35 = .ok (.iload_n 1, 1) := by decide +kernel
theorem s75_35 {M : Mm} {st : List Value} {l0 : Option Value} {x : Int32} : EE 75 35 [l0, some (.int x)] st M = EE 75 36 [l0, some (.int x)] (.int x :: st) M := e_ld d75_35 rfl rfl rfl rfl rfl rfl
theorem d75_36 : decode (cod 75) 36 = .ok (.bipush 80, 2) := by decide +kernel
theorem s75_36 {M : Mm} {st : List Value} {l0 l1 : Option Value} : EE 75 36 [l0, l1] st M = EE 75 38 [l0, l1] (.int (nI 80) :: st) M := e_bip d75_36 k_bip_80
theorem d75_38 : decode (cod 75) 38 = .ok (.if_icmp .ge 43, 3) := by decide +kernel
theorem s75_38 {M : Mm} {st : List Value} {l0 l1 : Option Value} {x y : Int32} : EE 75 38 [l0, l1] (.int y :: .int x :: st) M = if y ≤ x then EE 75 81 [l0, l1] st M else EE 75 41 [l0, l1] st M := e_cge d75_38 (by decide)
theorem d75_41 : decode (cod 75) 41 = .ok (.aload_n 0, 1) := by decide +kernel
theorem s75_41 {M : Mm} {st : List Value} {l1 : Option Value} {x : Nat} : EE 75 41 [some (.ref x), l1] st M = EE 75 42 [some (.ref x), l1] (.ref x :: st) M := e_ld d75_41 rfl rfl rfl rfl rfl rfl
theorem d75_42 : decode (cod 75) 42 = .ok (.getfield 33, 3) := by decide +kernel
theorem s75_42 {n : Nat} {I : Nat → Nat → Int32} {R : Nat → Nat → Option Nat} {st : List Value} {l0 l1 : Option Value} {a : Nat} : EE 75 42 [l0, l1] (.ref a :: st) (n, I, R) = (gfI n I R 2 6 a).bind (fun z => EE 75 45 [l0, l1] (z :: st) (n, I, R)) := e_getf d75_42 f2_33 rfl rfl
theorem d75_45 : decode (cod 75) 45 = .ok (.invokevirtual 203, 3) := by decide +kernel
theorem s75_45 {l0 l1 : Option Value} {a : Nat} {M : Mm} {st : List Value} (hl : st.length ≤ 4) (ho : isO "HandoverDesk$Pad" M.1 a = true) : EE 75 45 [l0, l1] (.ref a :: st) M = (FF 5 (.ref a :: []) M).bind (fun z => EE 75 48 [l0, l1] (psh z.1 st) z.2) := e_calv (av := []) d75_45 c2_203 rfl rfl rfl r75_5 rfl hl ho
theorem d75_48 : decode (cod 75) 48 = .ok (.ifCond .eq 33, 3) := by decide +kernel
theorem s75_48 {M : Mm} {st : List Value} {l0 l1 : Option Value} {x : Int32} : EE 75 48 [l0, l1] (.int x :: st) M = if x = 0 then EE 75 81 [l0, l1] st M else EE 75 51 [l0, l1] st M := e_eq0 d75_48 (by decide)
theorem d75_51 : decode (cod 75) 51 = .ok (.aload_n 0, 1) := by decide +kernel
theorem s75_51 {M : Mm} {st : List Value} {l1 : Option Value} {x : Nat} : EE 75 51 [some (.ref x), l1] st M = EE 75 52 [some (.ref x), l1] (.ref x :: st) M := e_ld d75_51 rfl rfl rfl rfl rfl rfl
theorem d75_52 : decode (cod 75) 52 = .ok (.getfield 12, 3) := by decide +kernel
theorem s75_52 {n : Nat} {I : Nat → Nat → Int32} {R : Nat → Nat → Option Nat} {st : List Value} {l0 l1 : Option Value} {a : Nat} : EE 75 52 [l0, l1] (.ref a :: st) (n, I, R) = (gfI n I R 2 0 a).bind (fun z => EE 75 55 [l0, l1] (z :: st) (n, I, R)) := e_getf d75_52 f2_12 rfl rfl
theorem d75_55 : decode (cod 75) 55 = .ok (.aload_n 0, 1) := by decide +kernel
theorem s75_55 {M : Mm} {st : List Value} {l1 : Option Value} {x : Nat} : EE 75 55 [some (.ref x), l1] st M = EE 75 56 [some (.ref x), l1] (.ref x :: st) M := e_ld d75_55 rfl rfl rfl rfl rfl rfl
theorem d75_56 : decode (cod 75) 56 = .ok (.getfield 33, 3) := by decide +kernel
theorem s75_56 {n : Nat} {I : Nat → Nat → Int32} {R : Nat → Nat → Option Nat} {st : List Value} {l0 l1 : Option Value} {a : Nat} : EE 75 56 [l0, l1] (.ref a :: st) (n, I, R) = (gfI n I R 2 6 a).bind (fun z => EE 75 59 [l0, l1] (z :: st) (n, I, R)) := e_getf d75_56 f2_33 rfl rfl
theorem d75_59 : decode (cod 75) 59 = .ok (.getfield 207, 3) := by decide +kernel
theorem s75_59 {n : Nat} {I : Nat → Nat → Int32} {R : Nat → Nat → Option Nat} {st : List Value} {l0 l1 : Option Value} {a : Nat} : EE 75 59 [l0, l1] (.ref a :: st) (n, I, R) = (gfI n I R 0 3 a).bind (fun z => EE 75 62 [l0, l1] (z :: st) (n, I, R)) := e_getf d75_59 f2_207 rfl rfl
theorem d75_62 : decode (cod 75) 62 = .ok (.aload_n 0, 1) := by decide +kernel
theorem s75_62 {M : Mm} {st : List Value} {l1 : Option Value} {x : Nat} : EE 75 62 [some (.ref x), l1] st M = EE 75 63 [some (.ref x), l1] (.ref x :: st) M := e_ld d75_62 rfl rfl rfl rfl rfl rfl
theorem d75_63 : decode (cod 75) 63 = .ok (.getfield 33, 3) := by decide +kernel
theorem s75_63 {n : Nat} {I : Nat → Nat → Int32} {R : Nat → Nat → Option Nat} {st : List Value} {l0 l1 : Option Value} {a : Nat} : EE 75 63 [l0, l1] (.ref a :: st) (n, I, R) = (gfI n I R 2 6 a).bind (fun z => EE 75 66 [l0, l1] (z :: st) (n, I, R)) := e_getf d75_63 f2_33 rfl rfl
theorem d75_66 : decode (cod 75) 66 = .ok (.getfield 211, 3) := by decide +kernel
theorem s75_66 {n : Nat} {I : Nat → Nat → Int32} {R : Nat → Nat → Option Nat} {st : List Value} {l0 l1 : Option Value} {a : Nat} : EE 75 66 [l0, l1] (.ref a :: st) (n, I, R) = (gfI n I R 0 1 a).bind (fun z => EE 75 69 [l0, l1] (z :: st) (n, I, R)) := e_getf d75_66 f2_211 rfl rfl
theorem d75_69 : decode (cod 75) 69 = .ok (.invokevirtual 214, 3) := by decide +kernel
theorem s75_69 {l0 l1 : Option Value} {a : Nat} {M : Mm} {b0 : Int32} {b1 : Nat} {st : List Value} (hl : st.length ≤ 4) (ho : isO "HandoverDesk$State" M.1 a = true) : EE 75 69 [l0, l1] (.ref b1 :: .int b0 :: .ref a :: st) M = (FF 42 (.ref a :: [.int b0, .ref b1]) M).bind (fun z => EE 75 72 [l0, l1] (psh z.1 st) z.2) := e_calv (av := [.int b0, .ref b1]) d75_69 c2_214 rfl rfl rfl r75_42 rfl hl ho
theorem d75_72 : decode (cod 75) 72 = .ok (.ifCond .lt 9, 3) := by decide +kernel
theorem s75_72 {M : Mm} {st : List Value} {l0 l1 : Option Value} {x : Int32} : EE 75 72 [l0, l1] (.int x :: st) M = if x < 0 then EE 75 81 [l0, l1] st M else EE 75 75 [l0, l1] st M := e_lt0 d75_72 (by decide)
theorem d75_75 : decode (cod 75) 75 = .ok (.iinc 1 1, 3) := by decide +kernel
theorem s75_75 {M : Mm} {st : List Value} {l0 : Option Value} {x : Int32} : EE 75 75 [l0, some (.int x)] st M = EE 75 78 [cln l0, some (.int (x + nI 1))] st M := e_iinc d75_75 rfl (congrArg (fun z => x + z) k_inc_1) rfl
theorem d75_78 : decode (cod 75) 78 = .ok (.goto (-43), 3) := by decide +kernel
theorem s75_78 {M : Mm} {st : List Value} {l0 l1 : Option Value} : EE 75 78 [l0, l1] st M = EE 75 35 [l0, l1] st M := e_goto d75_78 (by decide)
theorem d75_81 : decode (cod 75) 81 = .ok (.aload_n 0, 1) := by decide +kernel
theorem s75_81 {M : Mm} {st : List Value} {l1 : Option Value} {x : Nat} : EE 75 81 [some (.ref x), l1] st M = EE 75 82 [some (.ref x), l1] (.ref x :: st) M := e_ld d75_81 rfl rfl rfl rfl rfl rfl
theorem d75_82 : decode (cod 75) 82 = .ok (.getfield 33, 3) := by decide +kernel
theorem s75_82 {n : Nat} {I : Nat → Nat → Int32} {R : Nat → Nat → Option Nat} {st : List Value} {l0 l1 : Option Value} {a : Nat} : EE 75 82 [l0, l1] (.ref a :: st) (n, I, R) = (gfI n I R 2 6 a).bind (fun z => EE 75 85 [l0, l1] (z :: st) (n, I, R)) := e_getf d75_82 f2_33 rfl rfl
theorem d75_85 : decode (cod 75) 85 = .ok (.iconst 0, 1) := by decide +kernel
theorem s75_85 {M : Mm} {st : List Value} {l0 l1 : Option Value} : EE 75 85 [l0, l1] st M = EE 75 86 [l0, l1] (.int (nI 0) :: st) M := e_con d75_85 k_con_0
theorem d75_86 : decode (cod 75) 86 = .ok (.putfield 162, 3) := by decide +kernel
theorem s75_86 {n : Nat} {I : Nat → Nat → Int32} {R : Nat → Nat → Option Nat} {st : List Value} {l0 l1 : Option Value} {a : Nat} {v : Value} : EE 75 86 [l0, l1] (v :: .ref a :: st) (n, I, R) = (pfI n I R 0 2 a v).bind (fun z => EE 75 89 [l0, l1] st (n, z.1, z.2)) := e_putf d75_86 f2_162 rfl rfl (Or.inr rfl)
theorem d75_89 : decode (cod 75) 89 = .ok (.aload_n 0, 1) := by decide +kernel
theorem s75_89 {M : Mm} {st : List Value} {l1 : Option Value} {x : Nat} : EE 75 89 [some (.ref x), l1] st M = EE 75 90 [some (.ref x), l1] (.ref x :: st) M := e_ld d75_89 rfl rfl rfl rfl rfl rfl
theorem d75_90 : decode (cod 75) 90 = .ok (.iload_n 1, 1) := by decide +kernel
theorem s75_90 {M : Mm} {st : List Value} {l0 : Option Value} {x : Int32} : EE 75 90 [l0, some (.int x)] st M = EE 75 91 [l0, some (.int x)] (.int x :: st) M := e_ld d75_90 rfl rfl rfl rfl rfl rfl
theorem d75_91 : decode (cod 75) 91 = .ok (.invokevirtual 54, 3) := by decide +kernel
theorem s75_91 {l0 l1 : Option Value} {a : Nat} {M : Mm} {b0 : Int32} {st : List Value} (hl : st.length ≤ 4) (ho : isO "HandoverDesk" M.1 a = true) : EE 75 91 [l0, l1] (.int b0 :: .ref a :: st) M = (FF 46 (.ref a :: [.int b0]) M).bind (fun z => EE 75 94 [l0, l1] (psh z.1 st) z.2) := e_calv (av := [.int b0]) d75_91 c2_54 rfl rfl rfl r75_46 rfl hl ho
theorem d75_94 : decode (cod 75) 94 = .ok (.ireturn, 1) := by decide +kernel
theorem s75_94 {M : Mm} {l0 l1 : Option Value} {v : Int32} : EE 75 94 [l0, l1] [.int v] M = some (some (.int v), M) := e_iret d75_94 rfl rfl
theorem FE75 {a : Nat} {M : Mm} : FF 75 [.ref a] M = EE 75 0 [some (.ref a), none] [] M := FF_eq 75 _ _ (Nat.le_of_ble_eq_true rfl)
theorem d76_0 : decode (cod 76) 0 = .ok (.aload_n 0, 1) := by decide +kernel
theorem s76_0 {M : Mm} {st : List Value} {l1 : Option Value} {x : Nat} : EE 76 0 [some (.ref x), l1] st M = EE 76 1 [some (.ref x), l1] (.ref x :: st) M := e_ld d76_0 rfl rfl rfl rfl rfl rfl
theorem d76_1 : decode (cod 76) 1 = .ok (.getfield 165, 3) := by decide +kernel
theorem s76_1 {n : Nat} {I : Nat → Nat → Int32} {R : Nat → Nat → Option Nat} {st : List Value} {l0 l1 : Option Value} {a : Nat} : EE 76 1 [l0, l1] (.ref a :: st) (n, I, R) = (gfI n I R 2 3 a).bind (fun z => EE 76 4 [l0, l1] (z :: st) (n, I, R)) := e_getf d76_1 f2_165 rfl rfl
theorem d76_4 : decode (cod 76) 4 = .ok (.ifCond .gt 6, 3) := by decide +kernel
theorem s76_4 {M : Mm} {st : List Value} {l0 l1 : Option Value} {x : Int32} : EE 76 4 [l0, l1] (.int x :: st) M = if 0 < x then EE 76 10 [l0, l1] st M else EE 76 7 [l0, l1] st M := e_gt0 d76_4 (by decide)
theorem d76_7 : decode (cod 76) 7 = .ok (.bipush (-5), 2) := by decide +kernel
theorem s76_7 {M : Mm} {st : List Value} {l0 l1 : Option Value} : EE 76 7 [l0, l1] st M = EE 76 9 [l0, l1] (.int ((-5)) :: st) M := e_bip d76_7 k_bip_m5
theorem d76_9 : decode (cod 76) 9 = .ok (.ireturn, 1) := by decide +kernel
theorem s76_9 {M : Mm} {l0 l1 : Option Value} {v : Int32} : EE 76 9 [l0, l1] [.int v] M = some (some (.int v), M) := e_iret d76_9 rfl rfl
theorem d76_10 : decode (cod 76) 10 = .ok (.aload_n 0, 1) := by decide +kernel
theorem s76_10 {M : Mm} {st : List Value} {l1 : Option Value} {x : Nat} : EE 76 10 [some (.ref x), l1] st M = EE 76 11 [some (.ref x), l1] (.ref x :: st) M := e_ld d76_10 rfl rfl rfl rfl rfl rfl
theorem d76_11 : decode (cod 76) 11 = .ok (.dup, 1) := by decide +kernel
theorem s76_11i {M : Mm} {st : List Value} {l0 l1 : Option Value} {x : Int32} : EE 76 11 [l0, l1] (.int x :: st) M = EE 76 12 [l0, l1] (.int x :: .int x :: st) M := e_dup d76_11 rfl
theorem s76_11r {M : Mm} {st : List Value} {l0 l1 : Option Value} {x : Nat} : EE 76 11 [l0, l1] (.ref x :: st) M = EE 76 12 [l0, l1] (.ref x :: .ref x :: st) M := e_dup d76_11 rfl
theorem d76_12 : decode (cod 76) 12 = .ok (.getfield 165, 3) := by decide +kernel
theorem s76_12 {n : Nat} {I : Nat → Nat → Int32} {R : Nat → Nat → Option Nat} {st : List Value} {l0 l1 : Option Value} {a : Nat} : EE 76 12 [l0, l1] (.ref a :: st) (n, I, R) = (gfI n I R 2 3 a).bind (fun z => EE 76 15 [l0, l1] (z :: st) (n, I, R)) := e_getf d76_12 f2_165 rfl rfl
theorem d76_15 : decode (cod 76) 15 = .ok (.iconst 1, 1) := by decide +kernel
theorem s76_15 {M : Mm} {st : List Value} {l0 l1 : Option Value} : EE 76 15 [l0, l1] st M = EE 76 16 [l0, l1] (.int (nI 1) :: st) M := e_con d76_15 k_con_1
theorem d76_16 : decode (cod 76) 16 = .ok (.isub, 1) := by decide +kernel
theorem s76_16 {M : Mm} {st : List Value} {l0 l1 : Option Value} {x y : Int32} : EE 76 16 [l0, l1] (.int y :: .int x :: st) M = EE 76 17 [l0, l1] (.int (x - y) :: st) M := e_II d76_16 rfl rfl rfl rfl rfl rfl
theorem d76_17 : decode (cod 76) 17 = .ok (.putfield 165, 3) := by decide +kernel
theorem s76_17 {n : Nat} {I : Nat → Nat → Int32} {R : Nat → Nat → Option Nat} {st : List Value} {l0 l1 : Option Value} {a : Nat} {v : Value} : EE 76 17 [l0, l1] (v :: .ref a :: st) (n, I, R) = (pfI n I R 2 3 a v).bind (fun z => EE 76 20 [l0, l1] st (n, z.1, z.2)) := e_putf d76_17 f2_165 rfl rfl (Or.inr rfl)
theorem d76_20 : decode (cod 76) 20 = .ok (.aload_n 0, 1) := by decide +kernel
theorem s76_20 {M : Mm} {st : List Value} {l1 : Option Value} {x : Nat} : EE 76 20 [some (.ref x), l1] st M = EE 76 21 [some (.ref x), l1] (.ref x :: st) M := e_ld d76_20 rfl rfl rfl rfl rfl rfl
theorem d76_21 : decode (cod 76) 21 = .ok (.getfield 12, 3) := by decide +kernel
theorem s76_21 {n : Nat} {I : Nat → Nat → Int32} {R : Nat → Nat → Option Nat} {st : List Value} {l0 l1 : Option Value} {a : Nat} : EE 76 21 [l0, l1] (.ref a :: st) (n, I, R) = (gfI n I R 2 0 a).bind (fun z => EE 76 24 [l0, l1] (z :: st) (n, I, R)) := e_getf d76_21 f2_12 rfl rfl
theorem d76_24 : decode (cod 76) 24 = .ok (.astore_n 1, 1) := by decide +kernel
theorem s76_24 {M : Mm} {st : List Value} {l0 l1 : Option Value} {x : Nat} : EE 76 24 [l0, l1] (.ref x :: st) M = EE 76 25 [cln l0, some (.ref x)] st M := e_st1 d76_24 rfl rfl rfl rfl rfl rfl rfl (Nat.le_of_ble_eq_true rfl) rfl
theorem d76_25 : decode (cod 76) 25 = .ok (.aload_n 0, 1) := by decide +kernel
theorem s76_25 {M : Mm} {st : List Value} {l1 : Option Value} {x : Nat} : EE 76 25 [some (.ref x), l1] st M = EE 76 26 [some (.ref x), l1] (.ref x :: st) M := e_ld d76_25 rfl rfl rfl rfl rfl rfl
theorem d76_26 : decode (cod 76) 26 = .ok (.aload_n 0, 1) := by decide +kernel
theorem s76_26 {M : Mm} {st : List Value} {l1 : Option Value} {x : Nat} : EE 76 26 [some (.ref x), l1] st M = EE 76 27 [some (.ref x), l1] (.ref x :: st) M := e_ld d76_26 rfl rfl rfl rfl rfl rfl
theorem d76_27 : decode (cod 76) 27 = .ok (.getfield 19, 3) := by decide +kernel
theorem s76_27 {n : Nat} {I : Nat → Nat → Int32} {R : Nat → Nat → Option Nat} {st : List Value} {l0 l1 : Option Value} {a : Nat} : EE 76 27 [l0, l1] (.ref a :: st) (n, I, R) = (gfI n I R 2 2 a).bind (fun z => EE 76 30 [l0, l1] (z :: st) (n, I, R)) := e_getf d76_27 f2_19 rfl rfl
theorem d76_30 : decode (cod 76) 30 = .ok (.aload_n 0, 1) := by decide +kernel
theorem s76_30 {M : Mm} {st : List Value} {l1 : Option Value} {x : Nat} : EE 76 30 [some (.ref x), l1] st M = EE 76 31 [some (.ref x), l1] (.ref x :: st) M := e_ld d76_30 rfl rfl rfl rfl rfl rfl
theorem d76_31 : decode (cod 76) 31 = .ok (.getfield 165, 3) := by decide +kernel
theorem s76_31 {n : Nat} {I : Nat → Nat → Int32} {R : Nat → Nat → Option Nat} {st : List Value} {l0 l1 : Option Value} {a : Nat} : EE 76 31 [l0, l1] (.ref a :: st) (n, I, R) = (gfI n I R 2 3 a).bind (fun z => EE 76 34 [l0, l1] (z :: st) (n, I, R)) := e_getf d76_31 f2_165 rfl rfl
theorem d76_34 : decode (cod 76) 34 = .ok (.aaload, 1) := by decide +kernel
theorem s76_34 {n : Nat} {I : Nat → Nat → Int32} {R : Nat → Nat → Option Nat} {st : List Value} {l0 l1 : Option Value} {j : Int32} {a : Nat} (h : 8 ≤ kd a ∧ a < 1000 ∧ pos a < n ∧ inb j (ln a)) : EE 76 34 [l0, l1] (.int j :: .ref a :: st) (n, I, R) = EE 76 35 [l0, l1] (va_rf (R a j.toNatClampNeg) :: st) (n, I, R) := e_aald d76_34 h
theorem d76_35 : decode (cod 76) 35 = .ok (.putfield 12, 3) := by decide +kernel
theorem s76_35 {n : Nat} {I : Nat → Nat → Int32} {R : Nat → Nat → Option Nat} {st : List Value} {l0 l1 : Option Value} {a : Nat} {v : Value} : EE 76 35 [l0, l1] (v :: .ref a :: st) (n, I, R) = (pfI n I R 2 0 a v).bind (fun z => EE 76 38 [l0, l1] st (n, z.1, z.2)) := e_putf d76_35 f2_12 rfl rfl (Or.inr rfl)
theorem d76_38 : decode (cod 76) 38 = .ok (.aload_n 0, 1) := by decide +kernel
theorem s76_38 {M : Mm} {st : List Value} {l1 : Option Value} {x : Nat} : EE 76 38 [some (.ref x), l1] st M = EE 76 39 [some (.ref x), l1] (.ref x :: st) M := e_ld d76_38 rfl rfl rfl rfl rfl rfl
theorem d76_39 : decode (cod 76) 39 = .ok (.getfield 19, 3) := by decide +kernel
theorem s76_39 {n : Nat} {I : Nat → Nat → Int32} {R : Nat → Nat → Option Nat} {st : List Value} {l0 l1 : Option Value} {a : Nat} : EE 76 39 [l0, l1] (.ref a :: st) (n, I, R) = (gfI n I R 2 2 a).bind (fun z => EE 76 42 [l0, l1] (z :: st) (n, I, R)) := e_getf d76_39 f2_19 rfl rfl
theorem d76_42 : decode (cod 76) 42 = .ok (.aload_n 0, 1) := by decide +kernel
theorem s76_42 {M : Mm} {st : List Value} {l1 : Option Value} {x : Nat} : EE 76 42 [some (.ref x), l1] st M = EE 76 43 [some (.ref x), l1] (.ref x :: st) M := e_ld d76_42 rfl rfl rfl rfl rfl rfl
theorem d76_43 : decode (cod 76) 43 = .ok (.getfield 165, 3) := by decide +kernel
theorem s76_43 {n : Nat} {I : Nat → Nat → Int32} {R : Nat → Nat → Option Nat} {st : List Value} {l0 l1 : Option Value} {a : Nat} : EE 76 43 [l0, l1] (.ref a :: st) (n, I, R) = (gfI n I R 2 3 a).bind (fun z => EE 76 46 [l0, l1] (z :: st) (n, I, R)) := e_getf d76_43 f2_165 rfl rfl
theorem d76_46 : decode (cod 76) 46 = .ok (.aload_n 1, 1) := by decide +kernel
theorem s76_46 {M : Mm} {st : List Value} {l0 : Option Value} {x : Nat} : EE 76 46 [l0, some (.ref x)] st M = EE 76 47 [l0, some (.ref x)] (.ref x :: st) M := e_ld d76_46 rfl rfl rfl rfl rfl rfl
theorem d76_47 : decode (cod 76) 47 = .ok (.aastore, 1) := by decide +kernel
theorem s76_47 {n : Nat} {I : Nat → Nat → Int32} {R : Nat → Nat → Option Nat} {st : List Value} {l0 l1 : Option Value} {j : Int32} {a b : Nat} (h : kd a = 8 ∧ a < 1000 ∧ pos a < n ∧ inb j (ln a) ∧ kd b = 2 ∧ b < 1000 ∧ pos b < n) : EE 76 47 [l0, l1] (.ref b :: .int j :: .ref a :: st) (n, I, R) = EE 76 48 [l0, l1] st (n, I, wR R a j.toNatClampNeg (some b)) := e_aast d76_47 h
theorem d76_48 : decode (cod 76) 48 = .ok (.aload_n 0, 1) := by decide +kernel
theorem s76_48 {M : Mm} {st : List Value} {l1 : Option Value} {x : Nat} : EE 76 48 [some (.ref x), l1] st M = EE 76 49 [some (.ref x), l1] (.ref x :: st) M := e_ld d76_48 rfl rfl rfl rfl rfl rfl
theorem d76_49 : decode (cod 76) 49 = .ok (.getfield 165, 3) := by decide +kernel
theorem s76_49 {n : Nat} {I : Nat → Nat → Int32} {R : Nat → Nat → Option Nat} {st : List Value} {l0 l1 : Option Value} {a : Nat} : EE 76 49 [l0, l1] (.ref a :: st) (n, I, R) = (gfI n I R 2 3 a).bind (fun z => EE 76 52 [l0, l1] (z :: st) (n, I, R)) := e_getf d76_49 f2_165 rfl rfl
theorem d76_52 : decode (cod 76) 52 = .ok (.ireturn, 1) := by decide +kernel
theorem s76_52 {M : Mm} {l0 l1 : Option Value} {v : Int32} : EE 76 52 [l0, l1] [.int v] M = some (some (.int v), M) := e_iret d76_52 rfl rfl
theorem FE76 {a : Nat} {M : Mm} : FF 76 [.ref a] M = EE 76 0 [some (.ref a), none] [] M := FF_eq 76 _ _ (Nat.le_of_ble_eq_true rfl)
theorem d77_0 : decode (cod 77) 0 = .ok (.iload_n 1, 1) := by decide +kernel
theorem s77_0 {M : Mm} {st : List Value} {l0 : Option Value} {x : Int32} : EE 77 0 [l0, some (.int x)] st M = EE 77 1 [l0, some (.int x)] (.int x :: st) M := e_ld d77_0 rfl rfl rfl rfl rfl rfl
theorem d77_1 : decode (cod 77) 1 = .ok (.invokestatic 218, 3) := by decide +kernel
theorem s77_1 {M : Mm} {l0 l1 : Option Value} {b0 : Int32} {st : List Value} (hl : st.length ≤ 4) : EE 77 1 [l0, l1] (.int b0 :: st) M = (FF 78 [.int b0] M).bind (fun z => EE 77 4 [l0, l1] (psh z.1 st) z.2) := e_cals (av := [.int b0]) d77_1 c2_218 (Or.inl rfl) rfl rfl r77_78 rfl hl
theorem d77_4 : decode (cod 77) 4 = .ok (.ifCond .ne 6, 3) := by decide +kernel
theorem s77_4 {M : Mm} {st : List Value} {l0 l1 : Option Value} {x : Int32} : EE 77 4 [l0, l1] (.int x :: st) M = if x = 0 then EE 77 7 [l0, l1] st M else EE 77 10 [l0, l1] st M := e_ne0 d77_4 (by decide)
theorem d77_7 : decode (cod 77) 7 = .ok (.bipush (-2), 2) := by decide +kernel
theorem s77_7 {M : Mm} {st : List Value} {l0 l1 : Option Value} : EE 77 7 [l0, l1] st M = EE 77 9 [l0, l1] (.int ((-2)) :: st) M := e_bip d77_7 k_bip_m2
theorem d77_9 : decode (cod 77) 9 = .ok (.ireturn, 1) := by decide +kernel
theorem s77_9 {M : Mm} {l0 l1 : Option Value} {v : Int32} : EE 77 9 [l0, l1] [.int v] M = some (some (.int v), M) := e_iret d77_9 rfl rfl
theorem d77_10 : decode (cod 77) 10 = .ok (.aload_n 0, 1) := by decide +kernel
theorem s77_10 {M : Mm} {st : List Value} {l1 : Option Value} {x : Nat} : EE 77 10 [some (.ref x), l1] st M = EE 77 11 [some (.ref x), l1] (.ref x :: st) M := e_ld d77_10 rfl rfl rfl rfl rfl rfl
theorem d77_11 : decode (cod 77) 11 = .ok (.getfield 23, 3) := by decide +kernel
theorem s77_11 {n : Nat} {I : Nat → Nat → Int32} {R : Nat → Nat → Option Nat} {st : List Value} {l0 l1 : Option Value} {a : Nat} : EE 77 11 [l0, l1] (.ref a :: st) (n, I, R) = (gfI n I R 2 4 a).bind (fun z => EE 77 14 [l0, l1] (z :: st) (n, I, R)) := e_getf d77_11 f2_23 rfl rfl
theorem d77_14 : decode (cod 77) 14 = .ok (.iload_n 1, 1) := by decide +kernel
theorem s77_14 {M : Mm} {st : List Value} {l0 : Option Value} {x : Int32} : EE 77 14 [l0, some (.int x)] st M = EE 77 15 [l0, some (.int x)] (.int x :: st) M := e_ld d77_14 rfl rfl rfl rfl rfl rfl
theorem d77_15 : decode (cod 77) 15 = .ok (.aaload, 1) := by decide +kernel
theorem s77_15 {n : Nat} {I : Nat → Nat → Int32} {R : Nat → Nat → Option Nat} {st : List Value} {l0 l1 : Option Value} {j : Int32} {a : Nat} (h : 8 ≤ kd a ∧ a < 1000 ∧ pos a < n ∧ inb j (ln a)) : EE 77 15 [l0, l1] (.int j :: .ref a :: st) (n, I, R) = EE 77 16 [l0, l1] (va_rf (R a j.toNatClampNeg) :: st) (n, I, R) := e_aald d77_15 h
theorem d77_16 : decode (cod 77) 16 = .ok (.aload_n 0, 1) := by decide +kernel
theorem s77_16 {M : Mm} {st : List Value} {l1 : Option Value} {x : Nat} : EE 77 16 [some (.ref x), l1] st M = EE 77 17 [some (.ref x), l1] (.ref x :: st) M := e_ld d77_16 rfl rfl rfl rfl rfl rfl
theorem d77_17 : decode (cod 77) 17 = .ok (.getfield 12, 3) := by decide +kernel
theorem s77_17 {n : Nat} {I : Nat → Nat → Int32} {R : Nat → Nat → Option Nat} {st : List Value} {l0 l1 : Option Value} {a : Nat} : EE 77 17 [l0, l1] (.ref a :: st) (n, I, R) = (gfI n I R 2 0 a).bind (fun z => EE 77 20 [l0, l1] (z :: st) (n, I, R)) := e_getf d77_17 f2_12 rfl rfl
theorem d77_20 : decode (cod 77) 20 = .ok (.invokevirtual 46, 3) := by decide +kernel
theorem s77_20 {l0 l1 : Option Value} {a : Nat} {M : Mm} {b0 : Nat} {st : List Value} (hl : st.length ≤ 4) (ho : isO "HandoverDesk$State" M.1 a = true) : EE 77 20 [l0, l1] (.ref b0 :: .ref a :: st) M = (FF 12 (.ref a :: [.ref b0]) M).bind (fun z => EE 77 23 [l0, l1] (psh z.1 st) z.2) := e_calv (av := [.ref b0]) d77_20 c2_46 rfl rfl rfl r77_12 rfl hl ho
theorem d77_23 : decode (cod 77) 23 = .ok (.aload_n 0, 1) := by decide +kernel
theorem s77_23 {M : Mm} {st : List Value} {l1 : Option Value} {x : Nat} : EE 77 23 [some (.ref x), l1] st M = EE 77 24 [some (.ref x), l1] (.ref x :: st) M := e_ld d77_23 rfl rfl rfl rfl rfl rfl
theorem d77_24 : decode (cod 77) 24 = .ok (.getfield 26, 3) := by decide +kernel
theorem s77_24 {n : Nat} {I : Nat → Nat → Int32} {R : Nat → Nat → Option Nat} {st : List Value} {l0 l1 : Option Value} {a : Nat} : EE 77 24 [l0, l1] (.ref a :: st) (n, I, R) = (gfI n I R 2 5 a).bind (fun z => EE 77 27 [l0, l1] (z :: st) (n, I, R)) := e_getf d77_24 f2_26 rfl rfl
theorem d77_27 : decode (cod 77) 27 = .ok (.iload_n 1, 1) := by decide +kernel
theorem s77_27 {M : Mm} {st : List Value} {l0 : Option Value} {x : Int32} : EE 77 27 [l0, some (.int x)] st M = EE 77 28 [l0, some (.int x)] (.int x :: st) M := e_ld d77_27 rfl rfl rfl rfl rfl rfl
theorem d77_28 : decode (cod 77) 28 = .ok (.iconst 1, 1) := by decide +kernel
theorem s77_28 {M : Mm} {st : List Value} {l0 l1 : Option Value} : EE 77 28 [l0, l1] st M = EE 77 29 [l0, l1] (.int (nI 1) :: st) M := e_con d77_28 k_con_1
theorem d77_29 : decode (cod 77) 29 = .ok (.bastore, 1) := by decide +kernel
theorem s77_29 {n : Nat} {I : Nat → Nat → Int32} {R : Nat → Nat → Option Nat} {st : List Value} {l0 l1 : Option Value} {j x : Int32} {a : Nat} (h : acI 7 n a j) : EE 77 29 [l0, l1] (.int x :: .int j :: .ref a :: st) (n, I, R) = EE 77 30 [l0, l1] st (n, wI I a j.toNatClampNeg (vp_nar .boolean x), R) := e_bast d77_29 h
theorem d77_30 : decode (cod 77) 30 = .ok (.aload_n 0, 1) := by decide +kernel
theorem s77_30 {M : Mm} {st : List Value} {l1 : Option Value} {x : Nat} : EE 77 30 [some (.ref x), l1] st M = EE 77 31 [some (.ref x), l1] (.ref x :: st) M := e_ld d77_30 rfl rfl rfl rfl rfl rfl
theorem d77_31 : decode (cod 77) 31 = .ok (.getfield 12, 3) := by decide +kernel
theorem s77_31 {n : Nat} {I : Nat → Nat → Int32} {R : Nat → Nat → Option Nat} {st : List Value} {l0 l1 : Option Value} {a : Nat} : EE 77 31 [l0, l1] (.ref a :: st) (n, I, R) = (gfI n I R 2 0 a).bind (fun z => EE 77 34 [l0, l1] (z :: st) (n, I, R)) := e_getf d77_31 f2_12 rfl rfl
theorem d77_34 : decode (cod 77) 34 = .ok (.getfield 132, 3) := by decide +kernel
theorem s77_34 {n : Nat} {I : Nat → Nat → Int32} {R : Nat → Nat → Option Nat} {st : List Value} {l0 l1 : Option Value} {a : Nat} : EE 77 34 [l0, l1] (.ref a :: st) (n, I, R) = (gfI n I R 1 11 a).bind (fun z => EE 77 37 [l0, l1] (z :: st) (n, I, R)) := e_getf d77_34 f2_132 rfl rfl
theorem d77_37 : decode (cod 77) 37 = .ok (.ireturn, 1) := by decide +kernel
theorem s77_37 {M : Mm} {l0 l1 : Option Value} {v : Int32} : EE 77 37 [l0, l1] [.int v] M = some (some (.int v), M) := e_iret d77_37 rfl rfl
theorem FE77 {a : Nat} {b0 : Int32} {M : Mm} : FF 77 [.ref a, .int b0] M = EE 77 0 [some (.ref a), some (.int b0)] [] M := FF_eq 77 _ _ (Nat.le_of_ble_eq_true rfl)
theorem d78_0 : decode (cod 78) 0 = .ok (.iload_n 0, 1) := by decide +kernel
theorem s78_0 {M : Mm} {st : List Value} {x : Int32} : EE 78 0 [some (.int x)] st M = EE 78 1 [some (.int x)] (.int x :: st) M := e_ld d78_0 rfl rfl rfl rfl rfl rfl
theorem d78_1 : decode (cod 78) 1 = .ok (.ifCond .lt 12, 3) := by decide +kernel
theorem s78_1 {M : Mm} {st : List Value} {l0 : Option Value} {x : Int32} : EE 78 1 [l0] (.int x :: st) M = if x < 0 then EE 78 13 [l0] st M else EE 78 4 [l0] st M := e_lt0 d78_1 (by decide)
theorem d78_4 : decode (cod 78) 4 = .ok (.iload_n 0, 1) := by decide +kernel
theorem s78_4 {M : Mm} {st : List Value} {x : Int32} : EE 78 4 [some (.int x)] st M = EE 78 5 [some (.int x)] (.int x :: st) M := e_ld d78_4 rfl rfl rfl rfl rfl rfl
theorem d78_5 : decode (cod 78) 5 = .ok (.iconst 2, 1) := by decide +kernel
theorem s78_5 {M : Mm} {st : List Value} {l0 : Option Value} : EE 78 5 [l0] st M = EE 78 6 [l0] (.int (nI 2) :: st) M := e_con d78_5 k_con_2
theorem d78_6 : decode (cod 78) 6 = .ok (.if_icmp .ge 7, 3) := by decide +kernel
theorem s78_6 {M : Mm} {st : List Value} {l0 : Option Value} {x y : Int32} : EE 78 6 [l0] (.int y :: .int x :: st) M = if y ≤ x then EE 78 13 [l0] st M else EE 78 9 [l0] st M := e_cge d78_6 (by decide)
theorem d78_9 : decode (cod 78) 9 = .ok (.iconst 1, 1) := by decide +kernel
theorem s78_9 {M : Mm} {st : List Value} {l0 : Option Value} : EE 78 9 [l0] st M = EE 78 10 [l0] (.int (nI 1) :: st) M := e_con d78_9 k_con_1
theorem d78_10 : decode (cod 78) 10 = .ok (.goto 4, 3) := by decide +kernel
theorem s78_10 {M : Mm} {st : List Value} {l0 : Option Value} : EE 78 10 [l0] st M = EE 78 14 [l0] st M := e_goto d78_10 (by decide)
theorem d78_13 : decode (cod 78) 13 = .ok (.iconst 0, 1) := by decide +kernel
theorem s78_13 {M : Mm} {st : List Value} {l0 : Option Value} : EE 78 13 [l0] st M = EE 78 14 [l0] (.int (nI 0) :: st) M := e_con d78_13 k_con_0
theorem d78_14 : decode (cod 78) 14 = .ok (.ireturn, 1) := by decide +kernel
theorem s78_14 {M : Mm} {l0 : Option Value} {v : Int32} (h : narrow .boolean (.int v) = .int v) : EE 78 14 [l0] [.int v] M = some (some (.int v), M) := e_iret d78_14 rfl h
theorem FE78 {b0 : Int32} {M : Mm} : FF 78 [.int b0] M = EE 78 0 [some (.int b0)] [] M := FF_eq 78 _ _ (Nat.le_of_ble_eq_true rfl)
theorem d79_0 : decode (cod 79) 0 = .ok (.iload_n 1, 1) := by decide +kernel
theorem s79_0 {M : Mm} {st : List Value} {l0 : Option Value} {x : Int32} : EE 79 0 [l0, some (.int x)] st M = EE 79 1 [l0, some (.int x)] (.int x :: st) M := e_ld d79_0 rfl rfl rfl rfl rfl rfl
theorem d79_1 : decode (cod 79) 1 = .ok (.invokestatic 218, 3) := by decide +kernel
theorem s79_1 {M : Mm} {l0 l1 : Option Value} {b0 : Int32} {st : List Value} (hl : st.length ≤ 4) : EE 79 1 [l0, l1] (.int b0 :: st) M = (FF 78 [.int b0] M).bind (fun z => EE 79 4 [l0, l1] (psh z.1 st) z.2) := e_cals (av := [.int b0]) d79_1 c2_218 (Or.inl rfl) rfl rfl r79_78 rfl hl
theorem d79_4 : decode (cod 79) 4 = .ok (.ifCond .ne 6, 3) := by decide +kernel
theorem s79_4 {M : Mm} {st : List Value} {l0 l1 : Option Value} {x : Int32} : EE 79 4 [l0, l1] (.int x :: st) M = if x = 0 then EE 79 7 [l0, l1] st M else EE 79 10 [l0, l1] st M := e_ne0 d79_4 (by decide)
theorem d79_7 : decode (cod 79) 7 = .ok (.bipush (-2), 2) := by decide +kernel
theorem s79_7 {M : Mm} {st : List Value} {l0 l1 : Option Value} : EE 79 7 [l0, l1] st M = EE 79 9 [l0, l1] (.int ((-2)) :: st) M := e_bip d79_7 k_bip_m2
theorem d79_9 : decode (cod 79) 9 = .ok (.ireturn, 1) := by decide +kernel
theorem s79_9 {M : Mm} {l0 l1 : Option Value} {v : Int32} : EE 79 9 [l0, l1] [.int v] M = some (some (.int v), M) := e_iret d79_9 rfl rfl
theorem d79_10 : decode (cod 79) 10 = .ok (.aload_n 0, 1) := by decide +kernel
theorem s79_10 {M : Mm} {st : List Value} {l1 : Option Value} {x : Nat} : EE 79 10 [some (.ref x), l1] st M = EE 79 11 [some (.ref x), l1] (.ref x :: st) M := e_ld d79_10 rfl rfl rfl rfl rfl rfl
theorem d79_11 : decode (cod 79) 11 = .ok (.getfield 26, 3) := by decide +kernel
theorem s79_11 {n : Nat} {I : Nat → Nat → Int32} {R : Nat → Nat → Option Nat} {st : List Value} {l0 l1 : Option Value} {a : Nat} : EE 79 11 [l0, l1] (.ref a :: st) (n, I, R) = (gfI n I R 2 5 a).bind (fun z => EE 79 14 [l0, l1] (z :: st) (n, I, R)) := e_getf d79_11 f2_26 rfl rfl
theorem d79_14 : decode (cod 79) 14 = .ok (.iload_n 1, 1) := by decide +kernel
theorem s79_14 {M : Mm} {st : List Value} {l0 : Option Value} {x : Int32} : EE 79 14 [l0, some (.int x)] st M = EE 79 15 [l0, some (.int x)] (.int x :: st) M := e_ld d79_14 rfl rfl rfl rfl rfl rfl
theorem d79_15 : decode (cod 79) 15 = .ok (.baload, 1) := by decide +kernel
theorem s79_15 {n : Nat} {I : Nat → Nat → Int32} {R : Nat → Nat → Option Nat} {st : List Value} {l0 l1 : Option Value} {j : Int32} {a : Nat} : EE 79 15 [l0, l1] (.int j :: .ref a :: st) (n, I, R) = (ardI 7 n I a j).bind (fun z => EE 79 16 [l0, l1] (.int z :: st) (n, I, R)) := e_bald d79_15
theorem d79_16 : decode (cod 79) 16 = .ok (.ifCond .ne 6, 3) := by decide +kernel
theorem s79_16 {M : Mm} {st : List Value} {l0 l1 : Option Value} {x : Int32} : EE 79 16 [l0, l1] (.int x :: st) M = if x = 0 then EE 79 19 [l0, l1] st M else EE 79 22 [l0, l1] st M := e_ne0 d79_16 (by decide)
theorem d79_19 : decode (cod 79) 19 = .ok (.bipush (-5), 2) := by decide +kernel
theorem s79_19 {M : Mm} {st : List Value} {l0 l1 : Option Value} : EE 79 19 [l0, l1] st M = EE 79 21 [l0, l1] (.int ((-5)) :: st) M := e_bip d79_19 k_bip_m5
theorem d79_21 : decode (cod 79) 21 = .ok (.ireturn, 1) := by decide +kernel
theorem s79_21 {M : Mm} {l0 l1 : Option Value} {v : Int32} : EE 79 21 [l0, l1] [.int v] M = some (some (.int v), M) := e_iret d79_21 rfl rfl
theorem d79_22 : decode (cod 79) 22 = .ok (.aload_n 0, 1) := by decide +kernel
theorem s79_22 {M : Mm} {st : List Value} {l1 : Option Value} {x : Nat} : EE 79 22 [some (.ref x), l1] st M = EE 79 23 [some (.ref x), l1] (.ref x :: st) M := e_ld d79_22 rfl rfl rfl rfl rfl rfl
theorem d79_23 : decode (cod 79) 23 = .ok (.getfield 16, 3) := by decide +kernel
theorem s79_23 {n : Nat} {I : Nat → Nat → Int32} {R : Nat → Nat → Option Nat} {st : List Value} {l0 l1 : Option Value} {a : Nat} : EE 79 23 [l0, l1] (.ref a :: st) (n, I, R) = (gfI n I R 2 1 a).bind (fun z => EE 79 26 [l0, l1] (z :: st) (n, I, R)) := e_getf d79_23 f2_16 rfl rfl
theorem d79_26 : decode (cod 79) 26 = .ok (.aload_n 0, 1) := by decide +kernel
theorem s79_26 {M : Mm} {st : List Value} {l1 : Option Value} {x : Nat} : EE 79 26 [some (.ref x), l1] st M = EE 79 27 [some (.ref x), l1] (.ref x :: st) M := e_ld d79_26 rfl rfl rfl rfl rfl rfl
theorem d79_27 : decode (cod 79) 27 = .ok (.getfield 12, 3) := by decide +kernel
theorem s79_27 {n : Nat} {I : Nat → Nat → Int32} {R : Nat → Nat → Option Nat} {st : List Value} {l0 l1 : Option Value} {a : Nat} : EE 79 27 [l0, l1] (.ref a :: st) (n, I, R) = (gfI n I R 2 0 a).bind (fun z => EE 79 30 [l0, l1] (z :: st) (n, I, R)) := e_getf d79_27 f2_12 rfl rfl
theorem d79_30 : decode (cod 79) 30 = .ok (.invokevirtual 46, 3) := by decide +kernel
theorem s79_30 {l0 l1 : Option Value} {a : Nat} {M : Mm} {b0 : Nat} {st : List Value} (hl : st.length ≤ 4) (ho : isO "HandoverDesk$State" M.1 a = true) : EE 79 30 [l0, l1] (.ref b0 :: .ref a :: st) M = (FF 12 (.ref a :: [.ref b0]) M).bind (fun z => EE 79 33 [l0, l1] (psh z.1 st) z.2) := e_calv (av := [.ref b0]) d79_30 c2_46 rfl rfl rfl r79_12 rfl hl ho
theorem d79_33 : decode (cod 79) 33 = .ok (.aload_n 0, 1) := by decide +kernel
theorem s79_33 {M : Mm} {st : List Value} {l1 : Option Value} {x : Nat} : EE 79 33 [some (.ref x), l1] st M = EE 79 34 [some (.ref x), l1] (.ref x :: st) M := e_ld d79_33 rfl rfl rfl rfl rfl rfl
theorem d79_34 : decode (cod 79) 34 = .ok (.getfield 12, 3) := by decide +kernel
theorem s79_34 {n : Nat} {I : Nat → Nat → Int32} {R : Nat → Nat → Option Nat} {st : List Value} {l0 l1 : Option Value} {a : Nat} : EE 79 34 [l0, l1] (.ref a :: st) (n, I, R) = (gfI n I R 2 0 a).bind (fun z => EE 79 37 [l0, l1] (z :: st) (n, I, R)) := e_getf d79_34 f2_12 rfl rfl
theorem d79_37 : decode (cod 79) 37 = .ok (.aload_n 0, 1) := by decide +kernel
theorem s79_37 {M : Mm} {st : List Value} {l1 : Option Value} {x : Nat} : EE 79 37 [some (.ref x), l1] st M = EE 79 38 [some (.ref x), l1] (.ref x :: st) M := e_ld d79_37 rfl rfl rfl rfl rfl rfl
theorem d79_38 : decode (cod 79) 38 = .ok (.getfield 23, 3) := by decide +kernel
theorem s79_38 {n : Nat} {I : Nat → Nat → Int32} {R : Nat → Nat → Option Nat} {st : List Value} {l0 l1 : Option Value} {a : Nat} : EE 79 38 [l0, l1] (.ref a :: st) (n, I, R) = (gfI n I R 2 4 a).bind (fun z => EE 79 41 [l0, l1] (z :: st) (n, I, R)) := e_getf d79_38 f2_23 rfl rfl
theorem d79_41 : decode (cod 79) 41 = .ok (.iload_n 1, 1) := by decide +kernel
theorem s79_41 {M : Mm} {st : List Value} {l0 : Option Value} {x : Int32} : EE 79 41 [l0, some (.int x)] st M = EE 79 42 [l0, some (.int x)] (.int x :: st) M := e_ld d79_41 rfl rfl rfl rfl rfl rfl
theorem d79_42 : decode (cod 79) 42 = .ok (.aaload, 1) := by decide +kernel
theorem s79_42 {n : Nat} {I : Nat → Nat → Int32} {R : Nat → Nat → Option Nat} {st : List Value} {l0 l1 : Option Value} {j : Int32} {a : Nat} (h : 8 ≤ kd a ∧ a < 1000 ∧ pos a < n ∧ inb j (ln a)) : EE 79 42 [l0, l1] (.int j :: .ref a :: st) (n, I, R) = EE 79 43 [l0, l1] (va_rf (R a j.toNatClampNeg) :: st) (n, I, R) := e_aald d79_42 h
theorem d79_43 : decode (cod 79) 43 = .ok (.invokevirtual 46, 3) := by decide +kernel
theorem s79_43 {l0 l1 : Option Value} {a : Nat} {M : Mm} {b0 : Nat} {st : List Value} (hl : st.length ≤ 4) (ho : isO "HandoverDesk$State" M.1 a = true) : EE 79 43 [l0, l1] (.ref b0 :: .ref a :: st) M = (FF 12 (.ref a :: [.ref b0]) M).bind (fun z => EE 79 46 [l0, l1] (psh z.1 st) z.2) := e_calv (av := [.ref b0]) d79_43 c2_46 rfl rfl rfl r79_12 rfl hl ho
theorem d79_46 : decode (cod 79) 46 = .ok (.aload_n 0, 1) := by decide +kernel
theorem s79_46 {M : Mm} {st : List Value} {l1 : Option Value} {x : Nat} : EE 79 46 [some (.ref x), l1] st M = EE 79 47 [some (.ref x), l1] (.ref x :: st) M := e_ld d79_46 rfl rfl rfl rfl rfl rfl
theorem d79_47 : decode (cod 79) 47 = .ok (.aload_n 0, 1) := by decide +kernel
theorem s79_47 {M : Mm} {st : List Value} {l1 : Option Value} {x : Nat} : EE 79 47 [some (.ref x), l1] st M = EE 79 48 [some (.ref x), l1] (.ref x :: st) M := e_ld d79_47 rfl rfl rfl rfl rfl rfl
theorem d79_48 : decode (cod 79) 48 = .ok (.getfield 12, 3) := by decide +kernel
theorem s79_48 {n : Nat} {I : Nat → Nat → Int32} {R : Nat → Nat → Option Nat} {st : List Value} {l0 l1 : Option Value} {a : Nat} : EE 79 48 [l0, l1] (.ref a :: st) (n, I, R) = (gfI n I R 2 0 a).bind (fun z => EE 79 51 [l0, l1] (z :: st) (n, I, R)) := e_getf d79_48 f2_12 rfl rfl
theorem d79_51 : decode (cod 79) 51 = .ok (.getfield 132, 3) := by decide +kernel
theorem s79_51 {n : Nat} {I : Nat → Nat → Int32} {R : Nat → Nat → Option Nat} {st : List Value} {l0 l1 : Option Value} {a : Nat} : EE 79 51 [l0, l1] (.ref a :: st) (n, I, R) = (gfI n I R 1 11 a).bind (fun z => EE 79 54 [l0, l1] (z :: st) (n, I, R)) := e_getf d79_51 f2_132 rfl rfl
theorem d79_54 : decode (cod 79) 54 = .ok (.invokevirtual 54, 3) := by decide +kernel
theorem s79_54 {l0 l1 : Option Value} {a : Nat} {M : Mm} {b0 : Int32} {st : List Value} (hl : st.length ≤ 4) (ho : isO "HandoverDesk" M.1 a = true) : EE 79 54 [l0, l1] (.int b0 :: .ref a :: st) M = (FF 46 (.ref a :: [.int b0]) M).bind (fun z => EE 79 57 [l0, l1] (psh z.1 st) z.2) := e_calv (av := [.int b0]) d79_54 c2_54 rfl rfl rfl r79_46 rfl hl ho
theorem d79_57 : decode (cod 79) 57 = .ok (.ireturn, 1) := by decide +kernel
theorem s79_57 {M : Mm} {l0 l1 : Option Value} {v : Int32} : EE 79 57 [l0, l1] [.int v] M = some (some (.int v), M) := e_iret d79_57 rfl rfl
theorem FE79 {a : Nat} {b0 : Int32} {M : Mm} : FF 79 [.ref a, .int b0] M = EE 79 0 [some (.ref a), some (.int b0)] [] M := FF_eq 79 _ _ (Nat.le_of_ble_eq_true rfl)
theorem d80_0 : decode (cod 80) 0 = .ok (.aload_n 0, 1) := by decide +kernel
theorem s80_0 {M : Mm} {st : List Value} {l1 : Option Value} {x : Nat} : EE 80 0 [some (.ref x), l1] st M = EE 80 1 [some (.ref x), l1] (.ref x :: st) M := e_ld d80_0 rfl rfl rfl rfl rfl rfl
theorem d80_1 : decode (cod 80) 1 = .ok (.invokespecial 1, 3) := by decide +kernel
theorem s80_1 {M : Mm} {l0 l1 : Option Value} {a : Nat} {st : List Value} (hl : st.length ≤ 4) : EE 80 1 [l0, l1] (.ref a :: st) M = EE 80 4 [l0, l1] st M := e_oin d80_1 t3_1 t3_1n (by decide) hl
theorem d80_4 : decode (cod 80) 4 = .ok (.aload_n 0, 1) := by decide +kernel
theorem s80_4 {M : Mm} {st : List Value} {l1 : Option Value} {x : Nat} : EE 80 4 [some (.ref x), l1] st M = EE 80 5 [some (.ref x), l1] (.ref x :: st) M := e_ld d80_4 rfl rfl rfl rfl rfl rfl
theorem d80_5 : decode (cod 80) 5 = .ok (.sipush 148, 3) := by decide +kernel
theorem s80_5 {M : Mm} {st : List Value} {l0 l1 : Option Value} : EE 80 5 [l0, l1] st M = EE 80 8 [l0, l1] (.int (nI 148) :: st) M := e_sip d80_5 k_sip_148
theorem d80_8 : decode (cod 80) 8 = .ok (.newarray .int, 2) := by decide +kernel
theorem s80_8 {st : List Value} {l0 l1 : Option Value} {w : Int32} {M : Mm} (h : M.1 < 210 ∧ kd (adr M.1) = 5 ∧ ¬ w < 0 ∧ w.toNatClampNeg = ln (adr M.1)) : EE 80 8 [l0, l1] (.int w :: st) M = EE 80 10 [l0, l1] (.ref (adr M.1) :: st) (bn M) := e_newa d80_8 h
theorem d80_10 : decode (cod 80) 10 = .ok (.putfield 7, 3) := by decide +kernel
theorem s80_10 {n : Nat} {I : Nat → Nat → Int32} {R : Nat → Nat → Option Nat} {st : List Value} {l0 l1 : Option Value} {a : Nat} {v : Value} : EE 80 10 [l0, l1] (v :: .ref a :: st) (n, I, R) = (pfI n I R 3 0 a v).bind (fun z => EE 80 13 [l0, l1] st (n, z.1, z.2)) := e_putf d80_10 f3_7 rfl rfl (Or.inl ⟨rfl, Or.inl rfl⟩)
theorem d80_13 : decode (cod 80) 13 = .ok (.aload_n 0, 1) := by decide +kernel
theorem s80_13 {M : Mm} {st : List Value} {l1 : Option Value} {x : Nat} : EE 80 13 [some (.ref x), l1] st M = EE 80 14 [some (.ref x), l1] (.ref x :: st) M := e_ld d80_13 rfl rfl rfl rfl rfl rfl
theorem d80_14 : decode (cod 80) 14 = .ok (.sipush 148, 3) := by decide +kernel
theorem s80_14 {M : Mm} {st : List Value} {l0 l1 : Option Value} : EE 80 14 [l0, l1] st M = EE 80 17 [l0, l1] (.int (nI 148) :: st) M := e_sip d80_14 k_sip_148
theorem d80_17 : decode (cod 80) 17 = .ok (.newarray .int, 2) := by decide +kernel
theorem s80_17 {st : List Value} {l0 l1 : Option Value} {w : Int32} {M : Mm} (h : M.1 < 210 ∧ kd (adr M.1) = 5 ∧ ¬ w < 0 ∧ w.toNatClampNeg = ln (adr M.1)) : EE 80 17 [l0, l1] (.int w :: st) M = EE 80 19 [l0, l1] (.ref (adr M.1) :: st) (bn M) := e_newa d80_17 h
theorem d80_19 : decode (cod 80) 19 = .ok (.putfield 13, 3) := by decide +kernel
theorem s80_19 {n : Nat} {I : Nat → Nat → Int32} {R : Nat → Nat → Option Nat} {st : List Value} {l0 l1 : Option Value} {a : Nat} {v : Value} : EE 80 19 [l0, l1] (v :: .ref a :: st) (n, I, R) = (pfI n I R 3 1 a v).bind (fun z => EE 80 22 [l0, l1] st (n, z.1, z.2)) := e_putf d80_19 f3_13 rfl rfl (Or.inl ⟨rfl, Or.inl rfl⟩)
theorem d80_22 : decode (cod 80) 22 = .ok (.aload_n 0, 1) := by decide +kernel
theorem s80_22 {M : Mm} {st : List Value} {l1 : Option Value} {x : Nat} : EE 80 22 [some (.ref x), l1] st M = EE 80 23 [some (.ref x), l1] (.ref x :: st) M := e_ld d80_22 rfl rfl rfl rfl rfl rfl
theorem d80_23 : decode (cod 80) 23 = .ok (.sipush 888, 3) := by decide +kernel
theorem s80_23 {M : Mm} {st : List Value} {l0 l1 : Option Value} : EE 80 23 [l0, l1] st M = EE 80 26 [l0, l1] (.int (nI 888) :: st) M := e_sip d80_23 k_sip_888
theorem d80_26 : decode (cod 80) 26 = .ok (.newarray .int, 2) := by decide +kernel
theorem s80_26 {st : List Value} {l0 l1 : Option Value} {w : Int32} {M : Mm} (h : M.1 < 210 ∧ kd (adr M.1) = 5 ∧ ¬ w < 0 ∧ w.toNatClampNeg = ln (adr M.1)) : EE 80 26 [l0, l1] (.int w :: st) M = EE 80 28 [l0, l1] (.ref (adr M.1) :: st) (bn M) := e_newa d80_26 h
theorem d80_28 : decode (cod 80) 28 = .ok (.putfield 16, 3) := by decide +kernel
theorem s80_28 {n : Nat} {I : Nat → Nat → Int32} {R : Nat → Nat → Option Nat} {st : List Value} {l0 l1 : Option Value} {a : Nat} {v : Value} : EE 80 28 [l0, l1] (v :: .ref a :: st) (n, I, R) = (pfI n I R 3 2 a v).bind (fun z => EE 80 31 [l0, l1] st (n, z.1, z.2)) := e_putf d80_28 f3_16 rfl rfl (Or.inl ⟨rfl, Or.inl rfl⟩)
theorem d80_31 : decode (cod 80) 31 = .ok (.aload_n 0, 1) := by decide +kernel
theorem s80_31 {M : Mm} {st : List Value} {l1 : Option Value} {x : Nat} : EE 80 31 [some (.ref x), l1] st M = EE 80 32 [some (.ref x), l1] (.ref x :: st) M := e_ld d80_31 rfl rfl rfl rfl rfl rfl
theorem d80_32 : decode (cod 80) 32 = .ok (.sipush 296, 3) := by decide +kernel
theorem s80_32 {M : Mm} {st : List Value} {l0 l1 : Option Value} : EE 80 32 [l0, l1] st M = EE 80 35 [l0, l1] (.int (nI 296) :: st) M := e_sip d80_32 k_sip_296
theorem d80_35 : decode (cod 80) 35 = .ok (.newarray .int, 2) := by decide +kernel
theorem s80_35 {st : List Value} {l0 l1 : Option Value} {w : Int32} {M : Mm} (h : M.1 < 210 ∧ kd (adr M.1) = 5 ∧ ¬ w < 0 ∧ w.toNatClampNeg = ln (adr M.1)) : EE 80 35 [l0, l1] (.int w :: st) M = EE 80 37 [l0, l1] (.ref (adr M.1) :: st) (bn M) := e_newa d80_35 h
theorem d80_37 : decode (cod 80) 37 = .ok (.putfield 19, 3) := by decide +kernel
theorem s80_37 {n : Nat} {I : Nat → Nat → Int32} {R : Nat → Nat → Option Nat} {st : List Value} {l0 l1 : Option Value} {a : Nat} {v : Value} : EE 80 37 [l0, l1] (v :: .ref a :: st) (n, I, R) = (pfI n I R 3 4 a v).bind (fun z => EE 80 40 [l0, l1] st (n, z.1, z.2)) := e_putf d80_37 f3_19 rfl rfl (Or.inl ⟨rfl, Or.inl rfl⟩)
theorem d80_40 : decode (cod 80) 40 = .ok (.aload_n 0, 1) := by decide +kernel
theorem s80_40 {M : Mm} {st : List Value} {l1 : Option Value} {x : Nat} : EE 80 40 [some (.ref x), l1] st M = EE 80 41 [some (.ref x), l1] (.ref x :: st) M := e_ld d80_40 rfl rfl rfl rfl rfl rfl
theorem d80_41 : decode (cod 80) 41 = .ok (.iconst 2, 1) := by decide +kernel
theorem s80_41 {M : Mm} {st : List Value} {l0 l1 : Option Value} : EE 80 41 [l0, l1] st M = EE 80 42 [l0, l1] (.int (nI 2) :: st) M := e_con d80_41 k_con_2
theorem d80_42 : decode (cod 80) 42 = .ok (.newarray .boolean, 2) := by decide +kernel
theorem s80_42 {st : List Value} {l0 l1 : Option Value} {w : Int32} {M : Mm} (h : M.1 < 210 ∧ kd (adr M.1) = 7 ∧ ¬ w < 0 ∧ w.toNatClampNeg = ln (adr M.1)) : EE 80 42 [l0, l1] (.int w :: st) M = EE 80 44 [l0, l1] (.ref (adr M.1) :: st) (bn M) := e_newa d80_42 h
theorem d80_44 : decode (cod 80) 44 = .ok (.putfield 22, 3) := by decide +kernel
theorem s80_44 {n : Nat} {I : Nat → Nat → Int32} {R : Nat → Nat → Option Nat} {st : List Value} {l0 l1 : Option Value} {a : Nat} {v : Value} : EE 80 44 [l0, l1] (v :: .ref a :: st) (n, I, R) = (pfI n I R 3 5 a v).bind (fun z => EE 80 47 [l0, l1] st (n, z.1, z.2)) := e_putf d80_44 f3_22 rfl rfl (Or.inl ⟨rfl, Or.inl rfl⟩)
theorem d80_47 : decode (cod 80) 47 = .ok (.aload_n 0, 1) := by decide +kernel
theorem s80_47 {M : Mm} {st : List Value} {l1 : Option Value} {x : Nat} : EE 80 47 [some (.ref x), l1] st M = EE 80 48 [some (.ref x), l1] (.ref x :: st) M := e_ld d80_47 rfl rfl rfl rfl rfl rfl
theorem d80_48 : decode (cod 80) 48 = .ok (.bipush 80, 2) := by decide +kernel
theorem s80_48 {M : Mm} {st : List Value} {l0 l1 : Option Value} : EE 80 48 [l0, l1] st M = EE 80 50 [l0, l1] (.int (nI 80) :: st) M := e_bip d80_48 k_bip_80
theorem d80_50 : decode (cod 80) 50 = .ok (.newarray .int, 2) := by decide +kernel
theorem s80_50 {st : List Value} {l0 l1 : Option Value} {w : Int32} {M : Mm} (h : M.1 < 210 ∧ kd (adr M.1) = 5 ∧ ¬ w < 0 ∧ w.toNatClampNeg = ln (adr M.1)) : EE 80 50 [l0, l1] (.int w :: st) M = EE 80 52 [l0, l1] (.ref (adr M.1) :: st) (bn M) := e_newa d80_50 h
theorem d80_52 : decode (cod 80) 52 = .ok (.putfield 26, 3) := by decide +kernel
theorem s80_52 {n : Nat} {I : Nat → Nat → Int32} {R : Nat → Nat → Option Nat} {st : List Value} {l0 l1 : Option Value} {a : Nat} {v : Value} : EE 80 52 [l0, l1] (v :: .ref a :: st) (n, I, R) = (pfI n I R 3 6 a v).bind (fun z => EE 80 55 [l0, l1] st (n, z.1, z.2)) := e_putf d80_52 f3_26 rfl rfl (Or.inl ⟨rfl, Or.inl rfl⟩)
theorem d80_55 : decode (cod 80) 55 = .ok (.aload_n 0, 1) := by decide +kernel
theorem s80_55 {M : Mm} {st : List Value} {l1 : Option Value} {x : Nat} : EE 80 55 [some (.ref x), l1] st M = EE 80 56 [some (.ref x), l1] (.ref x :: st) M := e_ld d80_55 rfl rfl rfl rfl rfl rfl
theorem d80_56 : decode (cod 80) 56 = .ok (.sipush 164, 3) := by decide +kernel
theorem s80_56 {M : Mm} {st : List Value} {l0 l1 : Option Value} : EE 80 56 [l0, l1] st M = EE 80 59 [l0, l1] (.int (nI 164) :: st) M := e_sip d80_56 k_sip_164
theorem d80_59 : decode (cod 80) 59 = .ok (.newarray .int, 2) := by decide +kernel
theorem s80_59 {st : List Value} {l0 l1 : Option Value} {w : Int32} {M : Mm} (h : M.1 < 210 ∧ kd (adr M.1) = 5 ∧ ¬ w < 0 ∧ w.toNatClampNeg = ln (adr M.1)) : EE 80 59 [l0, l1] (.int w :: st) M = EE 80 61 [l0, l1] (.ref (adr M.1) :: st) (bn M) := e_newa d80_59 h
theorem d80_61 : decode (cod 80) 61 = .ok (.putfield 29, 3) := by decide +kernel
theorem s80_61 {n : Nat} {I : Nat → Nat → Int32} {R : Nat → Nat → Option Nat} {st : List Value} {l0 l1 : Option Value} {a : Nat} {v : Value} : EE 80 61 [l0, l1] (v :: .ref a :: st) (n, I, R) = (pfI n I R 3 9 a v).bind (fun z => EE 80 64 [l0, l1] st (n, z.1, z.2)) := e_putf d80_61 f3_29 rfl rfl (Or.inl ⟨rfl, Or.inl rfl⟩)
theorem d80_64 : decode (cod 80) 64 = .ok (.aload_n 0, 1) := by decide +kernel
theorem s80_64 {M : Mm} {st : List Value} {l1 : Option Value} {x : Nat} : EE 80 64 [some (.ref x), l1] st M = EE 80 65 [some (.ref x), l1] (.ref x :: st) M := e_ld d80_64 rfl rfl rfl rfl rfl rfl
theorem d80_65 : decode (cod 80) 65 = .ok (.getfield 7, 3) := by decide +kernel
theorem s80_65 {n : Nat} {I : Nat → Nat → Int32} {R : Nat → Nat → Option Nat} {st : List Value} {l0 l1 : Option Value} {a : Nat} : EE 80 65 [l0, l1] (.ref a :: st) (n, I, R) = (gfI n I R 3 0 a).bind (fun z => EE 80 68 [l0, l1] (z :: st) (n, I, R)) := e_getf d80_65 f3_7 rfl rfl
theorem d80_68 : decode (cod 80) 68 = .ok (.iconst 2, 1) := by decide +kernel
theorem s80_68 {M : Mm} {st : List Value} {l0 l1 : Option Value} : EE 80 68 [l0, l1] st M = EE 80 69 [l0, l1] (.int (nI 2) :: st) M := e_con d80_68 k_con_2
theorem d80_69 : decode (cod 80) 69 = .ok (.bipush 50, 2) := by decide +kernel
theorem s80_69 {M : Mm} {st : List Value} {l0 l1 : Option Value} : EE 80 69 [l0, l1] st M = EE 80 71 [l0, l1] (.int (nI 50) :: st) M := e_bip d80_69 k_bip_50
theorem d80_71 : decode (cod 80) 71 = .ok (.iastore, 1) := by decide +kernel
theorem s80_71 {n : Nat} {I : Nat → Nat → Int32} {R : Nat → Nat → Option Nat} {st : List Value} {l0 l1 : Option Value} {j x : Int32} {a : Nat} (h : acI 5 n a j) : EE 80 71 [l0, l1] (.int x :: .int j :: .ref a :: st) (n, I, R) = EE 80 72 [l0, l1] st (n, wI I a j.toNatClampNeg x, R) := e_iast d80_71 h
theorem d80_72 : decode (cod 80) 72 = .ok (.aload_n 0, 1) := by decide +kernel
theorem s80_72 {M : Mm} {st : List Value} {l1 : Option Value} {x : Nat} : EE 80 72 [some (.ref x), l1] st M = EE 80 73 [some (.ref x), l1] (.ref x :: st) M := e_ld d80_72 rfl rfl rfl rfl rfl rfl
theorem d80_73 : decode (cod 80) 73 = .ok (.getfield 7, 3) := by decide +kernel
theorem s80_73 {n : Nat} {I : Nat → Nat → Int32} {R : Nat → Nat → Option Nat} {st : List Value} {l0 l1 : Option Value} {a : Nat} : EE 80 73 [l0, l1] (.ref a :: st) (n, I, R) = (gfI n I R 3 0 a).bind (fun z => EE 80 76 [l0, l1] (z :: st) (n, I, R)) := e_getf d80_73 f3_7 rfl rfl
theorem d80_76 : decode (cod 80) 76 = .ok (.iconst 3, 1) := by decide +kernel
theorem s80_76 {M : Mm} {st : List Value} {l0 l1 : Option Value} : EE 80 76 [l0, l1] st M = EE 80 77 [l0, l1] (.int (nI 3) :: st) M := e_con d80_76 k_con_3
theorem d80_77 : decode (cod 80) 77 = .ok (.iconst 5, 1) := by decide +kernel
theorem s80_77 {M : Mm} {st : List Value} {l0 l1 : Option Value} : EE 80 77 [l0, l1] st M = EE 80 78 [l0, l1] (.int (nI 5) :: st) M := e_con d80_77 k_con_5
theorem d80_78 : decode (cod 80) 78 = .ok (.iastore, 1) := by decide +kernel
theorem s80_78 {n : Nat} {I : Nat → Nat → Int32} {R : Nat → Nat → Option Nat} {st : List Value} {l0 l1 : Option Value} {j x : Int32} {a : Nat} (h : acI 5 n a j) : EE 80 78 [l0, l1] (.int x :: .int j :: .ref a :: st) (n, I, R) = EE 80 79 [l0, l1] st (n, wI I a j.toNatClampNeg x, R) := e_iast d80_78 h
theorem d80_79 : decode (cod 80) 79 = .ok (.aload_n 0, 1) := by decide +kernel
theorem s80_79 {M : Mm} {st : List Value} {l1 : Option Value} {x : Nat} : EE 80 79 [some (.ref x), l1] st M = EE 80 80 [some (.ref x), l1] (.ref x :: st) M := e_ld d80_79 rfl rfl rfl rfl rfl rfl
theorem d80_80 : decode (cod 80) 80 = .ok (.getfield 7, 3) := by decide +kernel
theorem s80_80 {n : Nat} {I : Nat → Nat → Int32} {R : Nat → Nat → Option Nat} {st : List Value} {l0 l1 : Option Value} {a : Nat} : EE 80 80 [l0, l1] (.ref a :: st) (n, I, R) = (gfI n I R 3 0 a).bind (fun z => EE 80 83 [l0, l1] (z :: st) (n, I, R)) := e_getf d80_80 f3_7 rfl rfl
theorem d80_83 : decode (cod 80) 83 = .ok (.iconst 4, 1) := by decide +kernel
theorem s80_83 {M : Mm} {st : List Value} {l0 l1 : Option Value} : EE 80 83 [l0, l1] st M = EE 80 84 [l0, l1] (.int (nI 4) :: st) M := e_con d80_83 k_con_4
theorem d80_84 : decode (cod 80) 84 = .ok (.bipush 10, 2) := by decide +kernel
theorem s80_84 {M : Mm} {st : List Value} {l0 l1 : Option Value} : EE 80 84 [l0, l1] st M = EE 80 86 [l0, l1] (.int (nI 10) :: st) M := e_bip d80_84 k_bip_10
theorem d80_86 : decode (cod 80) 86 = .ok (.iastore, 1) := by decide +kernel
theorem s80_86 {n : Nat} {I : Nat → Nat → Int32} {R : Nat → Nat → Option Nat} {st : List Value} {l0 l1 : Option Value} {j x : Int32} {a : Nat} (h : acI 5 n a j) : EE 80 86 [l0, l1] (.int x :: .int j :: .ref a :: st) (n, I, R) = EE 80 87 [l0, l1] st (n, wI I a j.toNatClampNeg x, R) := e_iast d80_86 h
theorem d80_87 : decode (cod 80) 87 = .ok (.aload_n 0, 1) := by decide +kernel
theorem s80_87 {M : Mm} {st : List Value} {l1 : Option Value} {x : Nat} : EE 80 87 [some (.ref x), l1] st M = EE 80 88 [some (.ref x), l1] (.ref x :: st) M := e_ld d80_87 rfl rfl rfl rfl rfl rfl
theorem d80_88 : decode (cod 80) 88 = .ok (.getfield 7, 3) := by decide +kernel
theorem s80_88 {n : Nat} {I : Nat → Nat → Int32} {R : Nat → Nat → Option Nat} {st : List Value} {l0 l1 : Option Value} {a : Nat} : EE 80 88 [l0, l1] (.ref a :: st) (n, I, R) = (gfI n I R 3 0 a).bind (fun z => EE 80 91 [l0, l1] (z :: st) (n, I, R)) := e_getf d80_88 f3_7 rfl rfl
theorem d80_91 : decode (cod 80) 91 = .ok (.iconst 5, 1) := by decide +kernel
theorem s80_91 {M : Mm} {st : List Value} {l0 l1 : Option Value} : EE 80 91 [l0, l1] st M = EE 80 92 [l0, l1] (.int (nI 5) :: st) M := e_con d80_91 k_con_5
theorem d80_92 : decode (cod 80) 92 = .ok (.bipush 8, 2) := by decide +kernel
theorem s80_92 {M : Mm} {st : List Value} {l0 l1 : Option Value} : EE 80 92 [l0, l1] st M = EE 80 94 [l0, l1] (.int (nI 8) :: st) M := e_bip d80_92 k_bip_8
theorem d80_94 : decode (cod 80) 94 = .ok (.iastore, 1) := by decide +kernel
theorem s80_94 {n : Nat} {I : Nat → Nat → Int32} {R : Nat → Nat → Option Nat} {st : List Value} {l0 l1 : Option Value} {j x : Int32} {a : Nat} (h : acI 5 n a j) : EE 80 94 [l0, l1] (.int x :: .int j :: .ref a :: st) (n, I, R) = EE 80 95 [l0, l1] st (n, wI I a j.toNatClampNeg x, R) := e_iast d80_94 h
theorem d80_95 : decode (cod 80) 95 = .ok (.aload_n 0, 1) := by decide +kernel
theorem s80_95 {M : Mm} {st : List Value} {l1 : Option Value} {x : Nat} : EE 80 95 [some (.ref x), l1] st M = EE 80 96 [some (.ref x), l1] (.ref x :: st) M := e_ld d80_95 rfl rfl rfl rfl rfl rfl
theorem d80_96 : decode (cod 80) 96 = .ok (.getfield 7, 3) := by decide +kernel
theorem s80_96 {n : Nat} {I : Nat → Nat → Int32} {R : Nat → Nat → Option Nat} {st : List Value} {l0 l1 : Option Value} {a : Nat} : EE 80 96 [l0, l1] (.ref a :: st) (n, I, R) = (gfI n I R 3 0 a).bind (fun z => EE 80 99 [l0, l1] (z :: st) (n, I, R)) := e_getf d80_96 f3_7 rfl rfl
theorem d80_99 : decode (cod 80) 99 = .ok (.bipush 6, 2) := by decide +kernel
theorem s80_99 {M : Mm} {st : List Value} {l0 l1 : Option Value} : EE 80 99 [l0, l1] st M = EE 80 101 [l0, l1] (.int (nI 6) :: st) M := e_bip d80_99 k_bip_6
theorem d80_101 : decode (cod 80) 101 = .ok (.iconst 3, 1) := by decide +kernel
theorem s80_101 {M : Mm} {st : List Value} {l0 l1 : Option Value} : EE 80 101 [l0, l1] st M = EE 80 102 [l0, l1] (.int (nI 3) :: st) M := e_con d80_101 k_con_3
theorem d80_102 : decode (cod 80) 102 = .ok (.iastore, 1) := by decide +kernel
theorem s80_102 {n : Nat} {I : Nat → Nat → Int32} {R : Nat → Nat → Option Nat} {st : List Value} {l0 l1 : Option Value} {j x : Int32} {a : Nat} (h : acI 5 n a j) : EE 80 102 [l0, l1] (.int x :: .int j :: .ref a :: st) (n, I, R) = EE 80 103 [l0, l1] st (n, wI I a j.toNatClampNeg x, R) := e_iast d80_102 h
theorem d80_103 : decode (cod 80) 103 = .ok (.aload_n 0, 1) := by decide +kernel
theorem s80_103 {M : Mm} {st : List Value} {l1 : Option Value} {x : Nat} : EE 80 103 [some (.ref x), l1] st M = EE 80 104 [some (.ref x), l1] (.ref x :: st) M := e_ld d80_103 rfl rfl rfl rfl rfl rfl
theorem d80_104 : decode (cod 80) 104 = .ok (.getfield 7, 3) := by decide +kernel
theorem s80_104 {n : Nat} {I : Nat → Nat → Int32} {R : Nat → Nat → Option Nat} {st : List Value} {l0 l1 : Option Value} {a : Nat} : EE 80 104 [l0, l1] (.ref a :: st) (n, I, R) = (gfI n I R 3 0 a).bind (fun z => EE 80 107 [l0, l1] (z :: st) (n, I, R)) := e_getf d80_104 f3_7 rfl rfl
theorem d80_107 : decode (cod 80) 107 = .ok (.bipush 7, 2) := by decide +kernel
theorem s80_107 {M : Mm} {st : List Value} {l0 l1 : Option Value} : EE 80 107 [l0, l1] st M = EE 80 109 [l0, l1] (.int (nI 7) :: st) M := e_bip d80_107 k_bip_7
theorem d80_109 : decode (cod 80) 109 = .ok (.bipush 40, 2) := by decide +kernel
theorem s80_109 {M : Mm} {st : List Value} {l0 l1 : Option Value} : EE 80 109 [l0, l1] st M = EE 80 111 [l0, l1] (.int (nI 40) :: st) M := e_bip d80_109 k_bip_40
theorem d80_111 : decode (cod 80) 111 = .ok (.iastore, 1) := by decide +kernel
theorem s80_111 {n : Nat} {I : Nat → Nat → Int32} {R : Nat → Nat → Option Nat} {st : List Value} {l0 l1 : Option Value} {j x : Int32} {a : Nat} (h : acI 5 n a j) : EE 80 111 [l0, l1] (.int x :: .int j :: .ref a :: st) (n, I, R) = EE 80 112 [l0, l1] st (n, wI I a j.toNatClampNeg x, R) := e_iast d80_111 h
theorem d80_112 : decode (cod 80) 112 = .ok (.iconst 0, 1) := by decide +kernel
theorem s80_112 {M : Mm} {st : List Value} {l0 l1 : Option Value} : EE 80 112 [l0, l1] st M = EE 80 113 [l0, l1] (.int (nI 0) :: st) M := e_con d80_112 k_con_0
theorem d80_113 : decode (cod 80) 113 = .ok (.istore_n 1, 1) := by decide +kernel
theorem s80_113 {M : Mm} {st : List Value} {l0 l1 : Option Value} {x : Int32} : EE 80 113 [l0, l1] (.int x :: st) M = EE 80 114 [cln l0, some (.int x)] st M := e_st1 d80_113 rfl rfl rfl rfl rfl rfl rfl (Nat.le_of_ble_eq_true rfl) rfl
theorem d80_114 : decode (cod 80) 114 = .ok (.iload_n 1, 1) := by decide +kernel
theorem s80_114 {M : Mm} {st : List Value} {l0 : Option Value} {x : Int32} : EE 80 114 [l0, some (.int x)] st M = EE 80 115 [l0, some (.int x)] (.int x :: st) M := e_ld d80_114 rfl rfl rfl rfl rfl rfl
theorem d80_115 : decode (cod 80) 115 = .ok (.bipush 12, 2) := by decide +kernel
theorem s80_115 {M : Mm} {st : List Value} {l0 l1 : Option Value} : EE 80 115 [l0, l1] st M = EE 80 117 [l0, l1] (.int (nI 12) :: st) M := e_bip d80_115 k_bip_12
theorem d80_117 : decode (cod 80) 117 = .ok (.if_icmp .ge 32, 3) := by decide +kernel
theorem s80_117 {M : Mm} {st : List Value} {l0 l1 : Option Value} {x y : Int32} : EE 80 117 [l0, l1] (.int y :: .int x :: st) M = if y ≤ x then EE 80 149 [l0, l1] st M else EE 80 120 [l0, l1] st M := e_cge d80_117 (by decide)
theorem d80_120 : decode (cod 80) 120 = .ok (.aload_n 0, 1) := by decide +kernel
theorem s80_120 {M : Mm} {st : List Value} {l1 : Option Value} {x : Nat} : EE 80 120 [some (.ref x), l1] st M = EE 80 121 [some (.ref x), l1] (.ref x :: st) M := e_ld d80_120 rfl rfl rfl rfl rfl rfl
theorem d80_121 : decode (cod 80) 121 = .ok (.getfield 7, 3) := by decide +kernel
theorem s80_121 {n : Nat} {I : Nat → Nat → Int32} {R : Nat → Nat → Option Nat} {st : List Value} {l0 l1 : Option Value} {a : Nat} : EE 80 121 [l0, l1] (.ref a :: st) (n, I, R) = (gfI n I R 3 0 a).bind (fun z => EE 80 124 [l0, l1] (z :: st) (n, I, R)) := e_getf d80_121 f3_7 rfl rfl
theorem d80_124 : decode (cod 80) 124 = .ok (.bipush 14, 2) := by decide +kernel
theorem s80_124 {M : Mm} {st : List Value} {l0 l1 : Option Value} : EE 80 124 [l0, l1] st M = EE 80 126 [l0, l1] (.int (nI 14) :: st) M := e_bip d80_124 k_bip_14
theorem d80_126 : decode (cod 80) 126 = .ok (.iload_n 1, 1) := by decide +kernel
theorem s80_126 {M : Mm} {st : List Value} {l0 : Option Value} {x : Int32} : EE 80 126 [l0, some (.int x)] st M = EE 80 127 [l0, some (.int x)] (.int x :: st) M := e_ld d80_126 rfl rfl rfl rfl rfl rfl
theorem d80_127 : decode (cod 80) 127 = .ok (.iadd, 1) := by decide +kernel
theorem s80_127 {M : Mm} {st : List Value} {l0 l1 : Option Value} {x y : Int32} : EE 80 127 [l0, l1] (.int y :: .int x :: st) M = EE 80 128 [l0, l1] (.int (x + y) :: st) M := e_II d80_127 rfl rfl rfl rfl rfl rfl
theorem d80_128 : decode (cod 80) 128 = .ok (.iload_n 1, 1) := by decide +kernel
theorem s80_128 {M : Mm} {st : List Value} {l0 : Option Value} {x : Int32} : EE 80 128 [l0, some (.int x)] st M = EE 80 129 [l0, some (.int x)] (.int x :: st) M := e_ld d80_128 rfl rfl rfl rfl rfl rfl
theorem d80_129 : decode (cod 80) 129 = .ok (.iconst 3, 1) := by decide +kernel
theorem s80_129 {M : Mm} {st : List Value} {l0 l1 : Option Value} : EE 80 129 [l0, l1] st M = EE 80 130 [l0, l1] (.int (nI 3) :: st) M := e_con d80_129 k_con_3
theorem d80_130 : decode (cod 80) 130 = .ok (.irem, 1) := by decide +kernel
theorem s80_130 {M : Mm} {st : List Value} {l0 l1 : Option Value} {x y : Nat} (h1 : x < 2 ^ 31) (h2 : 0 < y) (h3 : y < 2 ^ 31) : EE 80 130 [l0, l1] (.int (nI y) :: .int (nI x) :: st) M = EE 80 131 [l0, l1] (.int (nI (x % y)) :: st) M := e_remN d80_130 h1 h2 h3
theorem d80_131 : decode (cod 80) 131 = .ok (.iastore, 1) := by decide +kernel
theorem s80_131 {n : Nat} {I : Nat → Nat → Int32} {R : Nat → Nat → Option Nat} {st : List Value} {l0 l1 : Option Value} {j x : Int32} {a : Nat} (h : acI 5 n a j) : EE 80 131 [l0, l1] (.int x :: .int j :: .ref a :: st) (n, I, R) = EE 80 132 [l0, l1] st (n, wI I a j.toNatClampNeg x, R) := e_iast d80_131 h
theorem d80_132 : decode (cod 80) 132 = .ok (.aload_n 0, 1) := by decide +kernel
theorem s80_132 {M : Mm} {st : List Value} {l1 : Option Value} {x : Nat} : EE 80 132 [some (.ref x), l1] st M = EE 80 133 [some (.ref x), l1] (.ref x :: st) M := e_ld d80_132 rfl rfl rfl rfl rfl rfl
theorem d80_133 : decode (cod 80) 133 = .ok (.getfield 7, 3) := by decide +kernel
theorem s80_133 {n : Nat} {I : Nat → Nat → Int32} {R : Nat → Nat → Option Nat} {st : List Value} {l0 l1 : Option Value} {a : Nat} : EE 80 133 [l0, l1] (.ref a :: st) (n, I, R) = (gfI n I R 3 0 a).bind (fun z => EE 80 136 [l0, l1] (z :: st) (n, I, R)) := e_getf d80_133 f3_7 rfl rfl
theorem d80_136 : decode (cod 80) 136 = .ok (.bipush 26, 2) := by decide +kernel
theorem s80_136 {M : Mm} {st : List Value} {l0 l1 : Option Value} : EE 80 136 [l0, l1] st M = EE 80 138 [l0, l1] (.int (nI 26) :: st) M := e_bip d80_136 k_bip_26
theorem d80_138 : decode (cod 80) 138 = .ok (.iload_n 1, 1) := by decide +kernel
theorem s80_138 {M : Mm} {st : List Value} {l0 : Option Value} {x : Int32} : EE 80 138 [l0, some (.int x)] st M = EE 80 139 [l0, some (.int x)] (.int x :: st) M := e_ld d80_138 rfl rfl rfl rfl rfl rfl
theorem d80_139 : decode (cod 80) 139 = .ok (.iadd, 1) := by decide +kernel
theorem s80_139 {M : Mm} {st : List Value} {l0 l1 : Option Value} {x y : Int32} : EE 80 139 [l0, l1] (.int y :: .int x :: st) M = EE 80 140 [l0, l1] (.int (x + y) :: st) M := e_II d80_139 rfl rfl rfl rfl rfl rfl
theorem d80_140 : decode (cod 80) 140 = .ok (.bipush 10, 2) := by decide +kernel
theorem s80_140 {M : Mm} {st : List Value} {l0 l1 : Option Value} : EE 80 140 [l0, l1] st M = EE 80 142 [l0, l1] (.int (nI 10) :: st) M := e_bip d80_140 k_bip_10
theorem d80_142 : decode (cod 80) 142 = .ok (.iastore, 1) := by decide +kernel
theorem s80_142 {n : Nat} {I : Nat → Nat → Int32} {R : Nat → Nat → Option Nat} {st : List Value} {l0 l1 : Option Value} {j x : Int32} {a : Nat} (h : acI 5 n a j) : EE 80 142 [l0, l1] (.int x :: .int j :: .ref a :: st) (n, I, R) = EE 80 143 [l0, l1] st (n, wI I a j.toNatClampNeg x, R) := e_iast d80_142 h
theorem d80_143 : decode (cod 80) 143 = .ok (.iinc 1 1, 3) := by decide +kernel
theorem s80_143 {M : Mm} {st : List Value} {l0 : Option Value} {x : Int32} : EE 80 143 [l0, some (.int x)] st M = EE 80 146 [cln l0, some (.int (x + nI 1))] st M := e_iinc d80_143 rfl (congrArg (fun z => x + z) k_inc_1) rfl
theorem d80_146 : decode (cod 80) 146 = .ok (.goto (-32), 3) := by decide +kernel
theorem s80_146 {M : Mm} {st : List Value} {l0 l1 : Option Value} : EE 80 146 [l0, l1] st M = EE 80 114 [l0, l1] st M := e_goto d80_146 (by decide)
theorem d80_149 : decode (cod 80) 149 = .ok (.return_, 1) := by decide +kernel
theorem s80_149 {M : Mm} {l0 l1 : Option Value} : EE 80 149 [l0, l1] [] M = some (none, M) := e_vret d80_149 rfl
theorem FE80 {a : Nat} {M : Mm} : FF 80 [.ref a] M = EE 80 0 [some (.ref a), none] [] M := FF_eq 80 _ _ (Nat.le_of_ble_eq_true rfl)
theorem d81_0 : decode (cod 81) 0 = .ok (.aload_n 0, 1) := by decide +kernel
theorem s81_0 {M : Mm} {st : List Value} {x : Nat} : EE 81 0 [some (.ref x)] st M = EE 81 1 [some (.ref x)] (.ref x :: st) M := e_ld d81_0 rfl rfl rfl rfl rfl rfl
theorem d81_1 : decode (cod 81) 1 = .ok (.getfield 36, 3) := by decide +kernel
theorem s81_1 {n : Nat} {I : Nat → Nat → Int32} {R : Nat → Nat → Option Nat} {st : List Value} {l0 : Option Value} {a : Nat} : EE 81 1 [l0] (.ref a :: st) (n, I, R) = (gfI n I R 3 3 a).bind (fun z => EE 81 4 [l0] (z :: st) (n, I, R)) := e_getf d81_1 f3_36 rfl rfl
theorem d81_4 : decode (cod 81) 4 = .ok (.ifCond .ne 6, 3) := by decide +kernel
theorem s81_4 {M : Mm} {st : List Value} {l0 : Option Value} {x : Int32} : EE 81 4 [l0] (.int x :: st) M = if x = 0 then EE 81 7 [l0] st M else EE 81 10 [l0] st M := e_ne0 d81_4 (by decide)
theorem d81_7 : decode (cod 81) 7 = .ok (.bipush (-5), 2) := by decide +kernel
theorem s81_7 {M : Mm} {st : List Value} {l0 : Option Value} : EE 81 7 [l0] st M = EE 81 9 [l0] (.int ((-5)) :: st) M := e_bip d81_7 k_bip_m5
theorem d81_9 : decode (cod 81) 9 = .ok (.ireturn, 1) := by decide +kernel
theorem s81_9 {M : Mm} {l0 : Option Value} {v : Int32} : EE 81 9 [l0] [.int v] M = some (some (.int v), M) := e_iret d81_9 rfl rfl
theorem d81_10 : decode (cod 81) 10 = .ok (.aload_n 0, 1) := by decide +kernel
theorem s81_10 {M : Mm} {st : List Value} {x : Nat} : EE 81 10 [some (.ref x)] st M = EE 81 11 [some (.ref x)] (.ref x :: st) M := e_ld d81_10 rfl rfl rfl rfl rfl rfl
theorem d81_11 : decode (cod 81) 11 = .ok (.dup, 1) := by decide +kernel
theorem s81_11i {M : Mm} {st : List Value} {l0 : Option Value} {x : Int32} : EE 81 11 [l0] (.int x :: st) M = EE 81 12 [l0] (.int x :: .int x :: st) M := e_dup d81_11 rfl
theorem s81_11r {M : Mm} {st : List Value} {l0 : Option Value} {x : Nat} : EE 81 11 [l0] (.ref x :: st) M = EE 81 12 [l0] (.ref x :: .ref x :: st) M := e_dup d81_11 rfl
theorem d81_12 : decode (cod 81) 12 = .ok (.getfield 36, 3) := by decide +kernel
theorem s81_12 {n : Nat} {I : Nat → Nat → Int32} {R : Nat → Nat → Option Nat} {st : List Value} {l0 : Option Value} {a : Nat} : EE 81 12 [l0] (.ref a :: st) (n, I, R) = (gfI n I R 3 3 a).bind (fun z => EE 81 15 [l0] (z :: st) (n, I, R)) := e_getf d81_12 f3_36 rfl rfl
theorem d81_15 : decode (cod 81) 15 = .ok (.iconst 1, 1) := by decide +kernel
theorem s81_15 {M : Mm} {st : List Value} {l0 : Option Value} : EE 81 15 [l0] st M = EE 81 16 [l0] (.int (nI 1) :: st) M := e_con d81_15 k_con_1
theorem d81_16 : decode (cod 81) 16 = .ok (.isub, 1) := by decide +kernel
theorem s81_16 {M : Mm} {st : List Value} {l0 : Option Value} {x y : Int32} : EE 81 16 [l0] (.int y :: .int x :: st) M = EE 81 17 [l0] (.int (x - y) :: st) M := e_II d81_16 rfl rfl rfl rfl rfl rfl
theorem d81_17 : decode (cod 81) 17 = .ok (.putfield 36, 3) := by decide +kernel
theorem s81_17 {n : Nat} {I : Nat → Nat → Int32} {R : Nat → Nat → Option Nat} {st : List Value} {l0 : Option Value} {a : Nat} {v : Value} : EE 81 17 [l0] (v :: .ref a :: st) (n, I, R) = (pfI n I R 3 3 a v).bind (fun z => EE 81 20 [l0] st (n, z.1, z.2)) := e_putf d81_17 f3_36 rfl rfl (Or.inr rfl)
theorem d81_20 : decode (cod 81) 20 = .ok (.aload_n 0, 1) := by decide +kernel
theorem s81_20 {M : Mm} {st : List Value} {x : Nat} : EE 81 20 [some (.ref x)] st M = EE 81 21 [some (.ref x)] (.ref x :: st) M := e_ld d81_20 rfl rfl rfl rfl rfl rfl
theorem d81_21 : decode (cod 81) 21 = .ok (.getfield 16, 3) := by decide +kernel
theorem s81_21 {n : Nat} {I : Nat → Nat → Int32} {R : Nat → Nat → Option Nat} {st : List Value} {l0 : Option Value} {a : Nat} : EE 81 21 [l0] (.ref a :: st) (n, I, R) = (gfI n I R 3 2 a).bind (fun z => EE 81 24 [l0] (z :: st) (n, I, R)) := e_getf d81_21 f3_16 rfl rfl
theorem d81_24 : decode (cod 81) 24 = .ok (.sipush 148, 3) := by decide +kernel
theorem s81_24 {M : Mm} {st : List Value} {l0 : Option Value} : EE 81 24 [l0] st M = EE 81 27 [l0] (.int (nI 148) :: st) M := e_sip d81_24 k_sip_148
theorem d81_27 : decode (cod 81) 27 = .ok (.aload_n 0, 1) := by decide +kernel
theorem s81_27 {M : Mm} {st : List Value} {x : Nat} : EE 81 27 [some (.ref x)] st M = EE 81 28 [some (.ref x)] (.ref x :: st) M := e_ld d81_27 rfl rfl rfl rfl rfl rfl
theorem d81_28 : decode (cod 81) 28 = .ok (.getfield 36, 3) := by decide +kernel
theorem s81_28 {n : Nat} {I : Nat → Nat → Int32} {R : Nat → Nat → Option Nat} {st : List Value} {l0 : Option Value} {a : Nat} : EE 81 28 [l0] (.ref a :: st) (n, I, R) = (gfI n I R 3 3 a).bind (fun z => EE 81 31 [l0] (z :: st) (n, I, R)) := e_getf d81_28 f3_36 rfl rfl
theorem d81_31 : decode (cod 81) 31 = .ok (.imul, 1) := by decide +kernel
theorem s81_31 {M : Mm} {st : List Value} {l0 : Option Value} {x y : Int32} : EE 81 31 [l0] (.int y :: .int x :: st) M = EE 81 32 [l0] (.int (x * y) :: st) M := e_II d81_31 rfl rfl rfl rfl rfl rfl
theorem d81_32 : decode (cod 81) 32 = .ok (.aload_n 0, 1) := by decide +kernel
theorem s81_32 {M : Mm} {st : List Value} {x : Nat} : EE 81 32 [some (.ref x)] st M = EE 81 33 [some (.ref x)] (.ref x :: st) M := e_ld d81_32 rfl rfl rfl rfl rfl rfl
theorem d81_33 : decode (cod 81) 33 = .ok (.getfield 7, 3) := by decide +kernel
theorem s81_33 {n : Nat} {I : Nat → Nat → Int32} {R : Nat → Nat → Option Nat} {st : List Value} {l0 : Option Value} {a : Nat} : EE 81 33 [l0] (.ref a :: st) (n, I, R) = (gfI n I R 3 0 a).bind (fun z => EE 81 36 [l0] (z :: st) (n, I, R)) := e_getf d81_33 f3_7 rfl rfl
theorem d81_36 : decode (cod 81) 36 = .ok (.iconst 0, 1) := by decide +kernel
theorem s81_36 {M : Mm} {st : List Value} {l0 : Option Value} : EE 81 36 [l0] st M = EE 81 37 [l0] (.int (nI 0) :: st) M := e_con d81_36 k_con_0
theorem d81_37 : decode (cod 81) 37 = .ok (.invokestatic 40, 3) := by decide +kernel
theorem s81_37 {M : Mm} {l0 : Option Value} {b0 : Nat} {b1 : Int32} {b2 : Nat} {b3 : Int32} {st : List Value} (hl : st.length ≤ 4) : EE 81 37 [l0] (.int b3 :: .ref b2 :: .int b1 :: .ref b0 :: st) M = (FF 82 [.ref b0, .int b1, .ref b2, .int b3] M).bind (fun z => EE 81 40 [l0] (psh z.1 st) z.2) := e_cals (av := [.ref b0, .int b1, .ref b2, .int b3]) d81_37 c3_40 (Or.inl rfl) rfl rfl r81_82 rfl hl
theorem d81_40 : decode (cod 81) 40 = .ok (.aload_n 0, 1) := by decide +kernel
theorem s81_40 {M : Mm} {st : List Value} {x : Nat} : EE 81 40 [some (.ref x)] st M = EE 81 41 [some (.ref x)] (.ref x :: st) M := e_ld d81_40 rfl rfl rfl rfl rfl rfl
theorem d81_41 : decode (cod 81) 41 = .ok (.getfield 36, 3) := by decide +kernel
theorem s81_41 {n : Nat} {I : Nat → Nat → Int32} {R : Nat → Nat → Option Nat} {st : List Value} {l0 : Option Value} {a : Nat} : EE 81 41 [l0] (.ref a :: st) (n, I, R) = (gfI n I R 3 3 a).bind (fun z => EE 81 44 [l0] (z :: st) (n, I, R)) := e_getf d81_41 f3_36 rfl rfl
theorem d81_44 : decode (cod 81) 44 = .ok (.ireturn, 1) := by decide +kernel
theorem s81_44 {M : Mm} {l0 : Option Value} {v : Int32} : EE 81 44 [l0] [.int v] M = some (some (.int v), M) := e_iret d81_44 rfl rfl
theorem FE81 {a : Nat} {M : Mm} : FF 81 [.ref a] M = EE 81 0 [some (.ref a)] [] M := FF_eq 81 _ _ (Nat.le_of_ble_eq_true rfl)
theorem d82_0 : decode (cod 82) 0 = .ok (.iconst 0, 1) := by decide +kernel
theorem s82_0 {M : Mm} {st : List Value} {l0 l1 l2 l3 l4 : Option Value} : EE 82 0 [l0, l1, l2, l3, l4] st M = EE 82 1 [l0, l1, l2, l3, l4] (.int (nI 0) :: st) M := e_con d82_0 k_con_0
theorem d82_1 : decode (cod 82) 1 = .ok (.istore 4, 2) := by decide +kernel
theorem s82_1 {M : Mm} {st : List Value} {l0 l1 l2 l3 l4 : Option Value} {x : Int32} : EE 82 1 [l0, l1, l2, l3, l4] (.int x :: st) M = EE 82 3 [l0, l1, l2, cln l3, some (.int x)] st M := e_st1 d82_1 rfl rfl rfl rfl rfl rfl rfl (Nat.le_of_ble_eq_true rfl) rfl
theorem d82_3 : decode (cod 82) 3 = .ok (.iload 4, 2) := by decide +kernel
theorem s82_3 {M : Mm} {st : List Value} {l0 l1 l2 l3 : Option Value} {x : Int32} : EE 82 3 [l0, l1, l2, l3, some (.int x)] st M = EE 82 5 [l0, l1, l2, l3, some (.int x)] (.int x :: st) M := e_ld d82_3 rfl rfl rfl rfl rfl rfl
theorem d82_5 : decode (cod 82) 5 = .ok (.sipush 148, 3) := by decide +kernel
theorem s82_5 {M : Mm} {st : List Value} {l0 l1 l2 l3 l4 : Option Value} : EE 82 5 [l0, l1, l2, l3, l4] st M = EE 82 8 [l0, l1, l2, l3, l4] (.int (nI 148) :: st) M := e_sip d82_5 k_sip_148
theorem d82_8 : decode (cod 82) 8 = .ok (.if_icmp .ge 21, 3) := by decide +kernel
theorem s82_8 {M : Mm} {st : List Value} {l0 l1 l2 l3 l4 : Option Value} {x y : Int32} : EE 82 8 [l0, l1, l2, l3, l4] (.int y :: .int x :: st) M = if y ≤ x then EE 82 29 [l0, l1, l2, l3, l4] st M else EE 82 11 [l0, l1, l2, l3, l4] st M := e_cge d82_8 (by decide)
theorem d82_11 : decode (cod 82) 11 = .ok (.aload_n 2, 1) := by decide +kernel
theorem s82_11 {M : Mm} {st : List Value} {l0 l1 l3 l4 : Option Value} {x : Nat} : EE 82 11 [l0, l1, some (.ref x), l3, l4] st M = EE 82 12 [l0, l1, some (.ref x), l3, l4] (.ref x :: st) M := e_ld d82_11 rfl rfl rfl rfl rfl rfl
theorem d82_12 : decode (cod 82) 12 = .ok (.iload_n 3, 1) := by decide +kernel
theorem s82_12 {M : Mm} {st : List Value} {l0 l1 l2 l4 : Option Value} {x : Int32} : EE 82 12 [l0, l1, l2, some (.int x), l4] st M = EE 82 13 [l0, l1, l2, some (.int x), l4] (.int x :: st) M := e_ld d82_12 rfl rfl rfl rfl rfl rfl
theorem d82_13 : decode (cod 82) 13 = .ok (.iload 4, 2) := by decide +kernel
theorem s82_13 {M : Mm} {st : List Value} {l0 l1 l2 l3 : Option Value} {x : Int32} : EE 82 13 [l0, l1, l2, l3, some (.int x)] st M = EE 82 15 [l0, l1, l2, l3, some (.int x)] (.int x :: st) M := e_ld d82_13 rfl rfl rfl rfl rfl rfl
theorem d82_15 : decode (cod 82) 15 = .ok (.iadd, 1) := by decide +kernel
theorem s82_15 {M : Mm} {st : List Value} {l0 l1 l2 l3 l4 : Option Value} {x y : Int32} : EE 82 15 [l0, l1, l2, l3, l4] (.int y :: .int x :: st) M = EE 82 16 [l0, l1, l2, l3, l4] (.int (x + y) :: st) M := e_II d82_15 rfl rfl rfl rfl rfl rfl
theorem d82_16 : decode (cod 82) 16 = .ok (.aload_n 0, 1) := by decide +kernel
theorem s82_16 {M : Mm} {st : List Value} {l1 l2 l3 l4 : Option Value} {x : Nat} : EE 82 16 [some (.ref x), l1, l2, l3, l4] st M = EE 82 17 [some (.ref x), l1, l2, l3, l4] (.ref x :: st) M := e_ld d82_16 rfl rfl rfl rfl rfl rfl
theorem d82_17 : decode (cod 82) 17 = .ok (.iload_n 1, 1) := by decide +kernel
theorem s82_17 {M : Mm} {st : List Value} {l0 l2 l3 l4 : Option Value} {x : Int32} : EE 82 17 [l0, some (.int x), l2, l3, l4] st M = EE 82 18 [l0, some (.int x), l2, l3, l4] (.int x :: st) M := e_ld d82_17 rfl rfl rfl rfl rfl rfl
theorem d82_18 : decode (cod 82) 18 = .ok (.iload 4, 2) := by decide +kernel
theorem s82_18 {M : Mm} {st : List Value} {l0 l1 l2 l3 : Option Value} {x : Int32} : EE 82 18 [l0, l1, l2, l3, some (.int x)] st M = EE 82 20 [l0, l1, l2, l3, some (.int x)] (.int x :: st) M := e_ld d82_18 rfl rfl rfl rfl rfl rfl
theorem d82_20 : decode (cod 82) 20 = .ok (.iadd, 1) := by decide +kernel
theorem s82_20 {M : Mm} {st : List Value} {l0 l1 l2 l3 l4 : Option Value} {x y : Int32} : EE 82 20 [l0, l1, l2, l3, l4] (.int y :: .int x :: st) M = EE 82 21 [l0, l1, l2, l3, l4] (.int (x + y) :: st) M := e_II d82_20 rfl rfl rfl rfl rfl rfl
theorem d82_21 : decode (cod 82) 21 = .ok (.iaload, 1) := by decide +kernel
theorem s82_21 {n : Nat} {I : Nat → Nat → Int32} {R : Nat → Nat → Option Nat} {st : List Value} {l0 l1 l2 l3 l4 : Option Value} {j : Int32} {a : Nat} : EE 82 21 [l0, l1, l2, l3, l4] (.int j :: .ref a :: st) (n, I, R) = (ardI 5 n I a j).bind (fun z => EE 82 22 [l0, l1, l2, l3, l4] (.int z :: st) (n, I, R)) := e_iald d82_21
theorem d82_22 : decode (cod 82) 22 = .ok (.iastore, 1) := by decide +kernel
theorem s82_22 {n : Nat} {I : Nat → Nat → Int32} {R : Nat → Nat → Option Nat} {st : List Value} {l0 l1 l2 l3 l4 : Option Value} {j x : Int32} {a : Nat} (h : acI 5 n a j) : EE 82 22 [l0, l1, l2, l3, l4] (.int x :: .int j :: .ref a :: st) (n, I, R) = EE 82 23 [l0, l1, l2, l3, l4] st (n, wI I a j.toNatClampNeg x, R) := e_iast d82_22 h
theorem d82_23 : decode (cod 82) 23 = .ok (.iinc 4 1, 3) := by decide +kernel
theorem s82_23 {M : Mm} {st : List Value} {l0 l1 l2 l3 : Option Value} {x : Int32} : EE 82 23 [l0, l1, l2, l3, some (.int x)] st M = EE 82 26 [l0, l1, l2, cln l3, some (.int (x + nI 1))] st M := e_iinc d82_23 rfl (congrArg (fun z => x + z) k_inc_1) rfl
theorem d82_26 : decode (cod 82) 26 = .ok (.goto (-23), 3) := by decide +kernel
theorem s82_26 {M : Mm} {st : List Value} {l0 l1 l2 l3 l4 : Option Value} : EE 82 26 [l0, l1, l2, l3, l4] st M = EE 82 3 [l0, l1, l2, l3, l4] st M := e_goto d82_26 (by decide)
theorem d82_29 : decode (cod 82) 29 = .ok (.return_, 1) := by decide +kernel
theorem s82_29 {M : Mm} {l0 l1 l2 l3 l4 : Option Value} : EE 82 29 [l0, l1, l2, l3, l4] [] M = some (none, M) := e_vret d82_29 rfl
theorem FE82 {b0 : Nat} {b1 : Int32} {b2 : Nat} {b3 : Int32} {M : Mm} : FF 82 [.ref b0, .int b1, .ref b2, .int b3] M = EE 82 0 [some (.ref b0), some (.int b1), some (.ref b2), some (.int b3), none] [] M := FF_eq 82 _ _ (Nat.le_of_ble_eq_true rfl)
theorem d83_0 : decode (cod 83) 0 = .ok (.iload_n 1, 1) := by decide +kernel
theorem s83_0 {M : Mm} {st : List Value} {l0 : Option Value} {x : Int32} : EE 83 0 [l0, some (.int x)] st M = EE 83 1 [l0, some (.int x)] (.int x :: st) M := e_ld d83_0 rfl rfl rfl rfl rfl rfl
theorem d83_1 : decode (cod 83) 1 = .ok (.iconst 0, 1) := by decide +kernel
theorem s83_1 {M : Mm} {st : List Value} {l0 l1 : Option Value} : EE 83 1 [l0, l1] st M = EE 83 2 [l0, l1] (.int (nI 0) :: st) M := e_con d83_1 k_con_0
theorem d83_2 : decode (cod 83) 2 = .ok (.iconst 1, 1) := by decide +kernel
theorem s83_2 {M : Mm} {st : List Value} {l0 l1 : Option Value} : EE 83 2 [l0, l1] st M = EE 83 3 [l0, l1] (.int (nI 1) :: st) M := e_con d83_2 k_con_1
theorem d83_3 : decode (cod 83) 3 = .ok (.invokestatic 32, 3) := by decide +kernel
theorem s83_3 {M : Mm} {l0 l1 : Option Value} {b0 : Int32} {b1 : Int32} {b2 : Int32} {st : List Value} (hl : st.length ≤ 4) : EE 83 3 [l0, l1] (.int b2 :: .int b1 :: .int b0 :: st) M = (FF 84 [.int b0, .int b1, .int b2] M).bind (fun z => EE 83 6 [l0, l1] (psh z.1 st) z.2) := e_cals (av := [.int b0, .int b1, .int b2]) d83_3 c3_32 (Or.inl rfl) rfl rfl r83_84 rfl hl
theorem d83_6 : decode (cod 83) 6 = .ok (.ifCond .ne 6, 3) := by decide +kernel
theorem s83_6 {M : Mm} {st : List Value} {l0 l1 : Option Value} {x : Int32} : EE 83 6 [l0, l1] (.int x :: st) M = if x = 0 then EE 83 9 [l0, l1] st M else EE 83 12 [l0, l1] st M := e_ne0 d83_6 (by decide)
theorem d83_9 : decode (cod 83) 9 = .ok (.bipush (-2), 2) := by decide +kernel
theorem s83_9 {M : Mm} {st : List Value} {l0 l1 : Option Value} : EE 83 9 [l0, l1] st M = EE 83 11 [l0, l1] (.int ((-2)) :: st) M := e_bip d83_9 k_bip_m2
theorem d83_11 : decode (cod 83) 11 = .ok (.ireturn, 1) := by decide +kernel
theorem s83_11 {M : Mm} {l0 l1 : Option Value} {v : Int32} : EE 83 11 [l0, l1] [.int v] M = some (some (.int v), M) := e_iret d83_11 rfl rfl
theorem d83_12 : decode (cod 83) 12 = .ok (.aload_n 0, 1) := by decide +kernel
theorem s83_12 {M : Mm} {st : List Value} {l1 : Option Value} {x : Nat} : EE 83 12 [some (.ref x), l1] st M = EE 83 13 [some (.ref x), l1] (.ref x :: st) M := e_ld d83_12 rfl rfl rfl rfl rfl rfl
theorem d83_13 : decode (cod 83) 13 = .ok (.getfield 7, 3) := by decide +kernel
theorem s83_13 {n : Nat} {I : Nat → Nat → Int32} {R : Nat → Nat → Option Nat} {st : List Value} {l0 l1 : Option Value} {a : Nat} : EE 83 13 [l0, l1] (.ref a :: st) (n, I, R) = (gfI n I R 3 0 a).bind (fun z => EE 83 16 [l0, l1] (z :: st) (n, I, R)) := e_getf d83_13 f3_7 rfl rfl
theorem d83_16 : decode (cod 83) 16 = .ok (.iconst 0, 1) := by decide +kernel
theorem s83_16 {M : Mm} {st : List Value} {l0 l1 : Option Value} : EE 83 16 [l0, l1] st M = EE 83 17 [l0, l1] (.int (nI 0) :: st) M := e_con d83_16 k_con_0
theorem d83_17 : decode (cod 83) 17 = .ok (.aload_n 0, 1) := by decide +kernel
theorem s83_17 {M : Mm} {st : List Value} {l1 : Option Value} {x : Nat} : EE 83 17 [some (.ref x), l1] st M = EE 83 18 [some (.ref x), l1] (.ref x :: st) M := e_ld d83_17 rfl rfl rfl rfl rfl rfl
theorem d83_18 : decode (cod 83) 18 = .ok (.getfield 19, 3) := by decide +kernel
theorem s83_18 {n : Nat} {I : Nat → Nat → Int32} {R : Nat → Nat → Option Nat} {st : List Value} {l0 l1 : Option Value} {a : Nat} : EE 83 18 [l0, l1] (.ref a :: st) (n, I, R) = (gfI n I R 3 4 a).bind (fun z => EE 83 21 [l0, l1] (z :: st) (n, I, R)) := e_getf d83_18 f3_19 rfl rfl
theorem d83_21 : decode (cod 83) 21 = .ok (.sipush 148, 3) := by decide +kernel
theorem s83_21 {M : Mm} {st : List Value} {l0 l1 : Option Value} : EE 83 21 [l0, l1] st M = EE 83 24 [l0, l1] (.int (nI 148) :: st) M := e_sip d83_21 k_sip_148
theorem d83_24 : decode (cod 83) 24 = .ok (.iload_n 1, 1) := by decide +kernel
theorem s83_24 {M : Mm} {st : List Value} {l0 : Option Value} {x : Int32} : EE 83 24 [l0, some (.int x)] st M = EE 83 25 [l0, some (.int x)] (.int x :: st) M := e_ld d83_24 rfl rfl rfl rfl rfl rfl
theorem d83_25 : decode (cod 83) 25 = .ok (.imul, 1) := by decide +kernel
theorem s83_25 {M : Mm} {st : List Value} {l0 l1 : Option Value} {x y : Int32} : EE 83 25 [l0, l1] (.int y :: .int x :: st) M = EE 83 26 [l0, l1] (.int (x * y) :: st) M := e_II d83_25 rfl rfl rfl rfl rfl rfl
theorem d83_26 : decode (cod 83) 26 = .ok (.invokestatic 40, 3) := by decide +kernel
theorem s83_26 {M : Mm} {l0 l1 : Option Value} {b0 : Nat} {b1 : Int32} {b2 : Nat} {b3 : Int32} {st : List Value} (hl : st.length ≤ 4) : EE 83 26 [l0, l1] (.int b3 :: .ref b2 :: .int b1 :: .ref b0 :: st) M = (FF 82 [.ref b0, .int b1, .ref b2, .int b3] M).bind (fun z => EE 83 29 [l0, l1] (psh z.1 st) z.2) := e_cals (av := [.ref b0, .int b1, .ref b2, .int b3]) d83_26 c3_40 (Or.inl rfl) rfl rfl r83_82 rfl hl
theorem d83_29 : decode (cod 83) 29 = .ok (.aload_n 0, 1) := by decide +kernel
theorem s83_29 {M : Mm} {st : List Value} {l1 : Option Value} {x : Nat} : EE 83 29 [some (.ref x), l1] st M = EE 83 30 [some (.ref x), l1] (.ref x :: st) M := e_ld d83_29 rfl rfl rfl rfl rfl rfl
theorem d83_30 : decode (cod 83) 30 = .ok (.getfield 22, 3) := by decide +kernel
theorem s83_30 {n : Nat} {I : Nat → Nat → Int32} {R : Nat → Nat → Option Nat} {st : List Value} {l0 l1 : Option Value} {a : Nat} : EE 83 30 [l0, l1] (.ref a :: st) (n, I, R) = (gfI n I R 3 5 a).bind (fun z => EE 83 33 [l0, l1] (z :: st) (n, I, R)) := e_getf d83_30 f3_22 rfl rfl
theorem d83_33 : decode (cod 83) 33 = .ok (.iload_n 1, 1) := by decide +kernel
theorem s83_33 {M : Mm} {st : List Value} {l0 : Option Value} {x : Int32} : EE 83 33 [l0, some (.int x)] st M = EE 83 34 [l0, some (.int x)] (.int x :: st) M := e_ld d83_33 rfl rfl rfl rfl rfl rfl
theorem d83_34 : decode (cod 83) 34 = .ok (.iconst 1, 1) := by decide +kernel
theorem s83_34 {M : Mm} {st : List Value} {l0 l1 : Option Value} : EE 83 34 [l0, l1] st M = EE 83 35 [l0, l1] (.int (nI 1) :: st) M := e_con d83_34 k_con_1
theorem d83_35 : decode (cod 83) 35 = .ok (.bastore, 1) := by decide +kernel
theorem s83_35 {n : Nat} {I : Nat → Nat → Int32} {R : Nat → Nat → Option Nat} {st : List Value} {l0 l1 : Option Value} {j x : Int32} {a : Nat} (h : acI 7 n a j) : EE 83 35 [l0, l1] (.int x :: .int j :: .ref a :: st) (n, I, R) = EE 83 36 [l0, l1] st (n, wI I a j.toNatClampNeg (vp_nar .boolean x), R) := e_bast d83_35 h
theorem d83_36 : decode (cod 83) 36 = .ok (.aload_n 0, 1) := by decide +kernel
theorem s83_36 {M : Mm} {st : List Value} {l1 : Option Value} {x : Nat} : EE 83 36 [some (.ref x), l1] st M = EE 83 37 [some (.ref x), l1] (.ref x :: st) M := e_ld d83_36 rfl rfl rfl rfl rfl rfl
theorem d83_37 : decode (cod 83) 37 = .ok (.getfield 7, 3) := by decide +kernel
theorem s83_37 {n : Nat} {I : Nat → Nat → Int32} {R : Nat → Nat → Option Nat} {st : List Value} {l0 l1 : Option Value} {a : Nat} : EE 83 37 [l0, l1] (.ref a :: st) (n, I, R) = (gfI n I R 3 0 a).bind (fun z => EE 83 40 [l0, l1] (z :: st) (n, I, R)) := e_getf d83_37 f3_7 rfl rfl
theorem d83_40 : decode (cod 83) 40 = .ok (.iconst 0, 1) := by decide +kernel
theorem s83_40 {M : Mm} {st : List Value} {l0 l1 : Option Value} : EE 83 40 [l0, l1] st M = EE 83 41 [l0, l1] (.int (nI 0) :: st) M := e_con d83_40 k_con_0
theorem d83_41 : decode (cod 83) 41 = .ok (.iaload, 1) := by decide +kernel
theorem s83_41 {n : Nat} {I : Nat → Nat → Int32} {R : Nat → Nat → Option Nat} {st : List Value} {l0 l1 : Option Value} {j : Int32} {a : Nat} : EE 83 41 [l0, l1] (.int j :: .ref a :: st) (n, I, R) = (ardI 5 n I a j).bind (fun z => EE 83 42 [l0, l1] (.int z :: st) (n, I, R)) := e_iald d83_41
theorem d83_42 : decode (cod 83) 42 = .ok (.ireturn, 1) := by decide +kernel
theorem s83_42 {M : Mm} {l0 l1 : Option Value} {v : Int32} : EE 83 42 [l0, l1] [.int v] M = some (some (.int v), M) := e_iret d83_42 rfl rfl
theorem FE83 {a : Nat} {b0 : Int32} {M : Mm} : FF 83 [.ref a, .int b0] M = EE 83 0 [some (.ref a), some (.int b0)] [] M := FF_eq 83 _ _ (Nat.le_of_ble_eq_true rfl)
theorem d84_0 : decode (cod 84) 0 = .ok (.iload_n 0, 1) := by decide +kernel
theorem s84_0 {M : Mm} {st : List Value} {l1 l2 : Option Value} {x : Int32} : EE 84 0 [some (.int x), l1, l2] st M = EE 84 1 [some (.int x), l1, l2] (.int x :: st) M := e_ld d84_0 rfl rfl rfl rfl rfl rfl
theorem d84_1 : decode (cod 84) 1 = .ok (.iload_n 1, 1) := by decide +kernel
theorem s84_1 {M : Mm} {st : List Value} {l0 l2 : Option Value} {x : Int32} : EE 84 1 [l0, some (.int x), l2] st M = EE 84 2 [l0, some (.int x), l2] (.int x :: st) M := e_ld d84_1 rfl rfl rfl rfl rfl rfl
theorem d84_2 : decode (cod 84) 2 = .ok (.if_icmp .lt 12, 3) := by decide +kernel
theorem s84_2 {M : Mm} {st : List Value} {l0 l1 l2 : Option Value} {x y : Int32} : EE 84 2 [l0, l1, l2] (.int y :: .int x :: st) M = if x < y then EE 84 14 [l0, l1, l2] st M else EE 84 5 [l0, l1, l2] st M := e_clt d84_2 (by decide)
theorem d84_5 : decode (cod 84) 5 = .ok (.iload_n 0, 1) := by decide +kernel
theorem s84_5 {M : Mm} {st : List Value} {l1 l2 : Option Value} {x : Int32} : EE 84 5 [some (.int x), l1, l2] st M = EE 84 6 [some (.int x), l1, l2] (.int x :: st) M := e_ld d84_5 rfl rfl rfl rfl rfl rfl
theorem d84_6 : decode (cod 84) 6 = .ok (.iload_n 2, 1) := by decide +kernel
theorem s84_6 {M : Mm} {st : List Value} {l0 l1 : Option Value} {x : Int32} : EE 84 6 [l0, l1, some (.int x)] st M = EE 84 7 [l0, l1, some (.int x)] (.int x :: st) M := e_ld d84_6 rfl rfl rfl rfl rfl rfl
theorem d84_7 : decode (cod 84) 7 = .ok (.if_icmp .gt 7, 3) := by decide +kernel
theorem s84_7 {M : Mm} {st : List Value} {l0 l1 l2 : Option Value} {x y : Int32} : EE 84 7 [l0, l1, l2] (.int y :: .int x :: st) M = if y < x then EE 84 14 [l0, l1, l2] st M else EE 84 10 [l0, l1, l2] st M := e_cgt d84_7 (by decide)
theorem d84_10 : decode (cod 84) 10 = .ok (.iconst 1, 1) := by decide +kernel
theorem s84_10 {M : Mm} {st : List Value} {l0 l1 l2 : Option Value} : EE 84 10 [l0, l1, l2] st M = EE 84 11 [l0, l1, l2] (.int (nI 1) :: st) M := e_con d84_10 k_con_1
theorem d84_11 : decode (cod 84) 11 = .ok (.goto 4, 3) := by decide +kernel
theorem s84_11 {M : Mm} {st : List Value} {l0 l1 l2 : Option Value} : EE 84 11 [l0, l1, l2] st M = EE 84 15 [l0, l1, l2] st M := e_goto d84_11 (by decide)
theorem d84_14 : decode (cod 84) 14 = .ok (.iconst 0, 1) := by decide +kernel
theorem s84_14 {M : Mm} {st : List Value} {l0 l1 l2 : Option Value} : EE 84 14 [l0, l1, l2] st M = EE 84 15 [l0, l1, l2] (.int (nI 0) :: st) M := e_con d84_14 k_con_0
theorem d84_15 : decode (cod 84) 15 = .ok (.ireturn, 1) := by decide +kernel
theorem s84_15 {M : Mm} {l0 l1 l2 : Option Value} {v : Int32} (h : narrow .boolean (.int v) = .int v) : EE 84 15 [l0, l1, l2] [.int v] M = some (some (.int v), M) := e_iret d84_15 rfl h
theorem FE84 {b0 : Int32} {b1 : Int32} {b2 : Int32} {M : Mm} : FF 84 [.int b0, .int b1, .int b2] M = EE 84 0 [some (.int b0), some (.int b1), some (.int b2)] [] M := FF_eq 84 _ _ (Nat.le_of_ble_eq_true rfl)
theorem d85_0 : decode (cod 85) 0 = .ok (.iload_n 1, 1) := by decide +kernel
theorem s85_0 {M : Mm} {st : List Value} {l0 : Option Value} {x : Int32} : EE 85 0 [l0, some (.int x)] st M = EE 85 1 [l0, some (.int x)] (.int x :: st) M := e_ld d85_0 rfl rfl rfl rfl rfl rfl
theorem d85_1 : decode (cod 85) 1 = .ok (.iconst 0, 1) := by decide +kernel
theorem s85_1 {M : Mm} {st : List Value} {l0 l1 : Option Value} : EE 85 1 [l0, l1] st M = EE 85 2 [l0, l1] (.int (nI 0) :: st) M := e_con d85_1 k_con_0
theorem d85_2 : decode (cod 85) 2 = .ok (.iconst 1, 1) := by decide +kernel
theorem s85_2 {M : Mm} {st : List Value} {l0 l1 : Option Value} : EE 85 2 [l0, l1] st M = EE 85 3 [l0, l1] (.int (nI 1) :: st) M := e_con d85_2 k_con_1
theorem d85_3 : decode (cod 85) 3 = .ok (.invokestatic 32, 3) := by decide +kernel
theorem s85_3 {M : Mm} {l0 l1 : Option Value} {b0 : Int32} {b1 : Int32} {b2 : Int32} {st : List Value} (hl : st.length ≤ 4) : EE 85 3 [l0, l1] (.int b2 :: .int b1 :: .int b0 :: st) M = (FF 84 [.int b0, .int b1, .int b2] M).bind (fun z => EE 85 6 [l0, l1] (psh z.1 st) z.2) := e_cals (av := [.int b0, .int b1, .int b2]) d85_3 c3_32 (Or.inl rfl) rfl rfl r85_84 rfl hl
theorem d85_6 : decode (cod 85) 6 = .ok (.ifCond .ne 6, 3) := by decide +kernel
theorem s85_6 {M : Mm} {st : List Value} {l0 l1 : Option Value} {x : Int32} : EE 85 6 [l0, l1] (.int x :: st) M = if x = 0 then EE 85 9 [l0, l1] st M else EE 85 12 [l0, l1] st M := e_ne0 d85_6 (by decide)
theorem d85_9 : decode (cod 85) 9 = .ok (.bipush (-2), 2) := by decide +kernel
theorem s85_9 {M : Mm} {st : List Value} {l0 l1 : Option Value} : EE 85 9 [l0, l1] st M = EE 85 11 [l0, l1] (.int ((-2)) :: st) M := e_bip d85_9 k_bip_m2
theorem d85_11 : decode (cod 85) 11 = .ok (.ireturn, 1) := by decide +kernel
theorem s85_11 {M : Mm} {l0 l1 : Option Value} {v : Int32} : EE 85 11 [l0, l1] [.int v] M = some (some (.int v), M) := e_iret d85_11 rfl rfl
theorem d85_12 : decode (cod 85) 12 = .ok (.aload_n 0, 1) := by decide +kernel
theorem s85_12 {M : Mm} {st : List Value} {l1 : Option Value} {x : Nat} : EE 85 12 [some (.ref x), l1] st M = EE 85 13 [some (.ref x), l1] (.ref x :: st) M := e_ld d85_12 rfl rfl rfl rfl rfl rfl
theorem d85_13 : decode (cod 85) 13 = .ok (.getfield 22, 3) := by decide +kernel
theorem s85_13 {n : Nat} {I : Nat → Nat → Int32} {R : Nat → Nat → Option Nat} {st : List Value} {l0 l1 : Option Value} {a : Nat} : EE 85 13 [l0, l1] (.ref a :: st) (n, I, R) = (gfI n I R 3 5 a).bind (fun z => EE 85 16 [l0, l1] (z :: st) (n, I, R)) := e_getf d85_13 f3_22 rfl rfl
theorem d85_16 : decode (cod 85) 16 = .ok (.iload_n 1, 1) := by decide +kernel
theorem s85_16 {M : Mm} {st : List Value} {l0 : Option Value} {x : Int32} : EE 85 16 [l0, some (.int x)] st M = EE 85 17 [l0, some (.int x)] (.int x :: st) M := e_ld d85_16 rfl rfl rfl rfl rfl rfl
theorem d85_17 : decode (cod 85) 17 = .ok (.baload, 1) := by decide +kernel
theorem s85_17 {n : Nat} {I : Nat → Nat → Int32} {R : Nat → Nat → Option Nat} {st : List Value} {l0 l1 : Option Value} {j : Int32} {a : Nat} : EE 85 17 [l0, l1] (.int j :: .ref a :: st) (n, I, R) = (ardI 7 n I a j).bind (fun z => EE 85 18 [l0, l1] (.int z :: st) (n, I, R)) := e_bald d85_17
theorem d85_18 : decode (cod 85) 18 = .ok (.ifCond .ne 6, 3) := by decide +kernel
theorem s85_18 {M : Mm} {st : List Value} {l0 l1 : Option Value} {x : Int32} : EE 85 18 [l0, l1] (.int x :: st) M = if x = 0 then EE 85 21 [l0, l1] st M else EE 85 24 [l0, l1] st M := e_ne0 d85_18 (by decide)
theorem d85_21 : decode (cod 85) 21 = .ok (.bipush (-5), 2) := by decide +kernel
theorem s85_21 {M : Mm} {st : List Value} {l0 l1 : Option Value} : EE 85 21 [l0, l1] st M = EE 85 23 [l0, l1] (.int ((-5)) :: st) M := e_bip d85_21 k_bip_m5
theorem d85_23 : decode (cod 85) 23 = .ok (.ireturn, 1) := by decide +kernel
theorem s85_23 {M : Mm} {l0 l1 : Option Value} {v : Int32} : EE 85 23 [l0, l1] [.int v] M = some (some (.int v), M) := e_iret d85_23 rfl rfl
theorem d85_24 : decode (cod 85) 24 = .ok (.aload_n 0, 1) := by decide +kernel
theorem s85_24 {M : Mm} {st : List Value} {l1 : Option Value} {x : Nat} : EE 85 24 [some (.ref x), l1] st M = EE 85 25 [some (.ref x), l1] (.ref x :: st) M := e_ld d85_24 rfl rfl rfl rfl rfl rfl
theorem d85_25 : decode (cod 85) 25 = .ok (.invokevirtual 44, 3) := by decide +kernel
theorem s85_25 {l0 l1 : Option Value} {a : Nat} {M : Mm} {st : List Value} (hl : st.length ≤ 4) (ho : isO "HandoverDeskModel" M.1 a = true) : EE 85 25 [l0, l1] (.ref a :: st) M = (FF 86 (.ref a :: []) M).bind (fun z => EE 85 28 [l0, l1] (psh z.1 st) z.2) := e_calv (av := []) d85_25 c3_44 rfl rfl rfl r85_86 rfl hl ho
theorem d85_28 : decode (cod 85) 28 = .ok (.aload_n 0, 1) := by decide +kernel
theorem s85_28 {M : Mm} {st : List Value} {l1 : Option Value} {x : Nat} : EE 85 28 [some (.ref x), l1] st M = EE 85 29 [some (.ref x), l1] (.ref x :: st) M := e_ld d85_28 rfl rfl rfl rfl rfl rfl
theorem d85_29 : decode (cod 85) 29 = .ok (.getfield 19, 3) := by decide +kernel
theorem s85_29 {n : Nat} {I : Nat → Nat → Int32} {R : Nat → Nat → Option Nat} {st : List Value} {l0 l1 : Option Value} {a : Nat} : EE 85 29 [l0, l1] (.ref a :: st) (n, I, R) = (gfI n I R 3 4 a).bind (fun z => EE 85 32 [l0, l1] (z :: st) (n, I, R)) := e_getf d85_29 f3_19 rfl rfl
theorem d85_32 : decode (cod 85) 32 = .ok (.sipush 148, 3) := by decide +kernel
theorem s85_32 {M : Mm} {st : List Value} {l0 l1 : Option Value} : EE 85 32 [l0, l1] st M = EE 85 35 [l0, l1] (.int (nI 148) :: st) M := e_sip d85_32 k_sip_148
theorem d85_35 : decode (cod 85) 35 = .ok (.iload_n 1, 1) := by decide +kernel
theorem s85_35 {M : Mm} {st : List Value} {l0 : Option Value} {x : Int32} : EE 85 35 [l0, some (.int x)] st M = EE 85 36 [l0, some (.int x)] (.int x :: st) M := e_ld d85_35 rfl rfl rfl rfl rfl rfl
theorem d85_36 : decode (cod 85) 36 = .ok (.imul, 1) := by decide +kernel
theorem s85_36 {M : Mm} {st : List Value} {l0 l1 : Option Value} {x y : Int32} : EE 85 36 [l0, l1] (.int y :: .int x :: st) M = EE 85 37 [l0, l1] (.int (x * y) :: st) M := e_II d85_36 rfl rfl rfl rfl rfl rfl
theorem d85_37 : decode (cod 85) 37 = .ok (.aload_n 0, 1) := by decide +kernel
theorem s85_37 {M : Mm} {st : List Value} {l1 : Option Value} {x : Nat} : EE 85 37 [some (.ref x), l1] st M = EE 85 38 [some (.ref x), l1] (.ref x :: st) M := e_ld d85_37 rfl rfl rfl rfl rfl rfl
theorem d85_38 : decode (cod 85) 38 = .ok (.getfield 7, 3) := by decide +kernel
theorem s85_38 {n : Nat} {I : Nat → Nat → Int32} {R : Nat → Nat → Option Nat} {st : List Value} {l0 l1 : Option Value} {a : Nat} : EE 85 38 [l0, l1] (.ref a :: st) (n, I, R) = (gfI n I R 3 0 a).bind (fun z => EE 85 41 [l0, l1] (z :: st) (n, I, R)) := e_getf d85_38 f3_7 rfl rfl
theorem d85_41 : decode (cod 85) 41 = .ok (.iconst 0, 1) := by decide +kernel
theorem s85_41 {M : Mm} {st : List Value} {l0 l1 : Option Value} : EE 85 41 [l0, l1] st M = EE 85 42 [l0, l1] (.int (nI 0) :: st) M := e_con d85_41 k_con_0
theorem d85_42 : decode (cod 85) 42 = .ok (.invokestatic 40, 3) := by decide +kernel
theorem s85_42 {M : Mm} {l0 l1 : Option Value} {b0 : Nat} {b1 : Int32} {b2 : Nat} {b3 : Int32} {st : List Value} (hl : st.length ≤ 4) : EE 85 42 [l0, l1] (.int b3 :: .ref b2 :: .int b1 :: .ref b0 :: st) M = (FF 82 [.ref b0, .int b1, .ref b2, .int b3] M).bind (fun z => EE 85 45 [l0, l1] (psh z.1 st) z.2) := e_cals (av := [.ref b0, .int b1, .ref b2, .int b3]) d85_42 c3_40 (Or.inl rfl) rfl rfl r85_82 rfl hl
theorem d85_45 : decode (cod 85) 45 = .ok (.aload_n 0, 1) := by decide +kernel
theorem s85_45 {M : Mm} {st : List Value} {l1 : Option Value} {x : Nat} : EE 85 45 [some (.ref x), l1] st M = EE 85 46 [some (.ref x), l1] (.ref x :: st) M := e_ld d85_45 rfl rfl rfl rfl rfl rfl
theorem d85_46 : decode (cod 85) 46 = .ok (.getfield 7, 3) := by decide +kernel
theorem s85_46 {n : Nat} {I : Nat → Nat → Int32} {R : Nat → Nat → Option Nat} {st : List Value} {l0 l1 : Option Value} {a : Nat} : EE 85 46 [l0, l1] (.ref a :: st) (n, I, R) = (gfI n I R 3 0 a).bind (fun z => EE 85 49 [l0, l1] (z :: st) (n, I, R)) := e_getf d85_46 f3_7 rfl rfl
theorem d85_49 : decode (cod 85) 49 = .ok (.iconst 0, 1) := by decide +kernel
theorem s85_49 {M : Mm} {st : List Value} {l0 l1 : Option Value} : EE 85 49 [l0, l1] st M = EE 85 50 [l0, l1] (.int (nI 0) :: st) M := e_con d85_49 k_con_0
theorem d85_50 : decode (cod 85) 50 = .ok (.iaload, 1) := by decide +kernel
theorem s85_50 {n : Nat} {I : Nat → Nat → Int32} {R : Nat → Nat → Option Nat} {st : List Value} {l0 l1 : Option Value} {j : Int32} {a : Nat} : EE 85 50 [l0, l1] (.int j :: .ref a :: st) (n, I, R) = (ardI 5 n I a j).bind (fun z => EE 85 51 [l0, l1] (.int z :: st) (n, I, R)) := e_iald d85_50
theorem d85_51 : decode (cod 85) 51 = .ok (.ireturn, 1) := by decide +kernel
theorem s85_51 {M : Mm} {l0 l1 : Option Value} {v : Int32} : EE 85 51 [l0, l1] [.int v] M = some (some (.int v), M) := e_iret d85_51 rfl rfl
theorem FE85 {a : Nat} {b0 : Int32} {M : Mm} : FF 85 [.ref a, .int b0] M = EE 85 0 [some (.ref a), some (.int b0)] [] M := FF_eq 85 _ _ (Nat.le_of_ble_eq_true rfl)
theorem d86_0 : decode (cod 86) 0 = .ok (.aload_n 0, 1) := by decide +kernel
theorem s86_0 {M : Mm} {st : List Value} {l1 : Option Value} {x : Nat} : EE 86 0 [some (.ref x), l1] st M = EE 86 1 [some (.ref x), l1] (.ref x :: st) M := e_ld d86_0 rfl rfl rfl rfl rfl rfl
theorem d86_1 : decode (cod 86) 1 = .ok (.getfield 36, 3) := by decide +kernel
theorem s86_1 {n : Nat} {I : Nat → Nat → Int32} {R : Nat → Nat → Option Nat} {st : List Value} {l0 l1 : Option Value} {a : Nat} : EE 86 1 [l0, l1] (.ref a :: st) (n, I, R) = (gfI n I R 3 3 a).bind (fun z => EE 86 4 [l0, l1] (z :: st) (n, I, R)) := e_getf d86_1 f3_36 rfl rfl
theorem d86_4 : decode (cod 86) 4 = .ok (.bipush 6, 2) := by decide +kernel
theorem s86_4 {M : Mm} {st : List Value} {l0 l1 : Option Value} : EE 86 4 [l0, l1] st M = EE 86 6 [l0, l1] (.int (nI 6) :: st) M := e_bip d86_4 k_bip_6
theorem d86_6 : decode (cod 86) 6 = .ok (.if_icmp .ne 44, 3) := by decide +kernel
theorem s86_6 {M : Mm} {st : List Value} {l0 l1 : Option Value} {x y : Int32} : EE 86 6 [l0, l1] (.int y :: .int x :: st) M = if x = y then EE 86 9 [l0, l1] st M else EE 86 50 [l0, l1] st M := e_cne d86_6 (by decide)
theorem d86_9 : decode (cod 86) 9 = .ok (.iconst 0, 1) := by decide +kernel
theorem s86_9 {M : Mm} {st : List Value} {l0 l1 : Option Value} : EE 86 9 [l0, l1] st M = EE 86 10 [l0, l1] (.int (nI 0) :: st) M := e_con d86_9 k_con_0
theorem d86_10 : decode (cod 86) 10 = .ok (.istore_n 1, 1) := by decide +kernel
theorem s86_10 {M : Mm} {st : List Value} {l0 l1 : Option Value} {x : Int32} : EE 86 10 [l0, l1] (.int x :: st) M = EE 86 11 [cln l0, some (.int x)] st M := e_st1 d86_10 rfl rfl rfl rfl rfl rfl rfl (Nat.le_of_ble_eq_true rfl) rfl
theorem d86_11 : decode (cod 86) 11 = .ok (.iload_n 1, 1) := by decide +kernel
theorem s86_11 {M : Mm} {st : List Value} {l0 : Option Value} {x : Int32} : EE 86 11 [l0, some (.int x)] st M = EE 86 12 [l0, some (.int x)] (.int x :: st) M := e_ld d86_11 rfl rfl rfl rfl rfl rfl
theorem d86_12 : decode (cod 86) 12 = .ok (.sipush 740, 3) := by decide +kernel
theorem s86_12 {M : Mm} {st : List Value} {l0 l1 : Option Value} : EE 86 12 [l0, l1] st M = EE 86 15 [l0, l1] (.int (nI 740) :: st) M := e_sip d86_12 k_sip_740
theorem d86_15 : decode (cod 86) 15 = .ok (.if_icmp .ge 25, 3) := by decide +kernel
theorem s86_15 {M : Mm} {st : List Value} {l0 l1 : Option Value} {x y : Int32} : EE 86 15 [l0, l1] (.int y :: .int x :: st) M = if y ≤ x then EE 86 40 [l0, l1] st M else EE 86 18 [l0, l1] st M := e_cge d86_15 (by decide)
theorem d86_18 : decode (cod 86) 18 = .ok (.aload_n 0, 1) := by decide +kernel
theorem s86_18 {M : Mm} {st : List Value} {l1 : Option Value} {x : Nat} : EE 86 18 [some (.ref x), l1] st M = EE 86 19 [some (.ref x), l1] (.ref x :: st) M := e_ld d86_18 rfl rfl rfl rfl rfl rfl
theorem d86_19 : decode (cod 86) 19 = .ok (.getfield 16, 3) := by decide +kernel
theorem s86_19 {n : Nat} {I : Nat → Nat → Int32} {R : Nat → Nat → Option Nat} {st : List Value} {l0 l1 : Option Value} {a : Nat} : EE 86 19 [l0, l1] (.ref a :: st) (n, I, R) = (gfI n I R 3 2 a).bind (fun z => EE 86 22 [l0, l1] (z :: st) (n, I, R)) := e_getf d86_19 f3_16 rfl rfl
theorem d86_22 : decode (cod 86) 22 = .ok (.iload_n 1, 1) := by decide +kernel
theorem s86_22 {M : Mm} {st : List Value} {l0 : Option Value} {x : Int32} : EE 86 22 [l0, some (.int x)] st M = EE 86 23 [l0, some (.int x)] (.int x :: st) M := e_ld d86_22 rfl rfl rfl rfl rfl rfl
theorem d86_23 : decode (cod 86) 23 = .ok (.aload_n 0, 1) := by decide +kernel
theorem s86_23 {M : Mm} {st : List Value} {l1 : Option Value} {x : Nat} : EE 86 23 [some (.ref x), l1] st M = EE 86 24 [some (.ref x), l1] (.ref x :: st) M := e_ld d86_23 rfl rfl rfl rfl rfl rfl
theorem d86_24 : decode (cod 86) 24 = .ok (.getfield 16, 3) := by decide +kernel
theorem s86_24 {n : Nat} {I : Nat → Nat → Int32} {R : Nat → Nat → Option Nat} {st : List Value} {l0 l1 : Option Value} {a : Nat} : EE 86 24 [l0, l1] (.ref a :: st) (n, I, R) = (gfI n I R 3 2 a).bind (fun z => EE 86 27 [l0, l1] (z :: st) (n, I, R)) := e_getf d86_24 f3_16 rfl rfl
theorem d86_27 : decode (cod 86) 27 = .ok (.iload_n 1, 1) := by decide +kernel
theorem s86_27 {M : Mm} {st : List Value} {l0 : Option Value} {x : Int32} : EE 86 27 [l0, some (.int x)] st M = EE 86 28 [l0, some (.int x)] (.int x :: st) M := e_ld d86_27 rfl rfl rfl rfl rfl rfl
theorem d86_28 : decode (cod 86) 28 = .ok (.sipush 148, 3) := by decide +kernel
theorem s86_28 {M : Mm} {st : List Value} {l0 l1 : Option Value} : EE 86 28 [l0, l1] st M = EE 86 31 [l0, l1] (.int (nI 148) :: st) M := e_sip d86_28 k_sip_148
theorem d86_31 : decode (cod 86) 31 = .ok (.iadd, 1) := by decide +kernel
theorem s86_31 {M : Mm} {st : List Value} {l0 l1 : Option Value} {x y : Int32} : EE 86 31 [l0, l1] (.int y :: .int x :: st) M = EE 86 32 [l0, l1] (.int (x + y) :: st) M := e_II d86_31 rfl rfl rfl rfl rfl rfl
theorem d86_32 : decode (cod 86) 32 = .ok (.iaload, 1) := by decide +kernel
theorem s86_32 {n : Nat} {I : Nat → Nat → Int32} {R : Nat → Nat → Option Nat} {st : List Value} {l0 l1 : Option Value} {j : Int32} {a : Nat} : EE 86 32 [l0, l1] (.int j :: .ref a :: st) (n, I, R) = (ardI 5 n I a j).bind (fun z => EE 86 33 [l0, l1] (.int z :: st) (n, I, R)) := e_iald d86_32
theorem d86_33 : decode (cod 86) 33 = .ok (.iastore, 1) := by decide +kernel
theorem s86_33 {n : Nat} {I : Nat → Nat → Int32} {R : Nat → Nat → Option Nat} {st : List Value} {l0 l1 : Option Value} {j x : Int32} {a : Nat} (h : acI 5 n a j) : EE 86 33 [l0, l1] (.int x :: .int j :: .ref a :: st) (n, I, R) = EE 86 34 [l0, l1] st (n, wI I a j.toNatClampNeg x, R) := e_iast d86_33 h
theorem d86_34 : decode (cod 86) 34 = .ok (.iinc 1 1, 3) := by decide +kernel
theorem s86_34 {M : Mm} {st : List Value} {l0 : Option Value} {x : Int32} : EE 86 34 [l0, some (.int x)] st M = EE 86 37 [cln l0, some (.int (x + nI 1))] st M := e_iinc d86_34 rfl (congrArg (fun z => x + z) k_inc_1) rfl
theorem d86_37 : decode (cod 86) 37 = .ok (.goto (-26), 3) := by decide +kernel
theorem s86_37 {M : Mm} {st : List Value} {l0 l1 : Option Value} : EE 86 37 [l0, l1] st M = EE 86 11 [l0, l1] st M := e_goto d86_37 (by decide)
theorem d86_40 : decode (cod 86) 40 = .ok (.aload_n 0, 1) := by decide +kernel
theorem s86_40 {M : Mm} {st : List Value} {l1 : Option Value} {x : Nat} : EE 86 40 [some (.ref x), l1] st M = EE 86 41 [some (.ref x), l1] (.ref x :: st) M := e_ld d86_40 rfl rfl rfl rfl rfl rfl
theorem d86_41 : decode (cod 86) 41 = .ok (.dup, 1) := by decide +kernel
theorem s86_41i {M : Mm} {st : List Value} {l0 l1 : Option Value} {x : Int32} : EE 86 41 [l0, l1] (.int x :: st) M = EE 86 42 [l0, l1] (.int x :: .int x :: st) M := e_dup d86_41 rfl
theorem s86_41r {M : Mm} {st : List Value} {l0 l1 : Option Value} {x : Nat} : EE 86 41 [l0, l1] (.ref x :: st) M = EE 86 42 [l0, l1] (.ref x :: .ref x :: st) M := e_dup d86_41 rfl
theorem d86_42 : decode (cod 86) 42 = .ok (.getfield 36, 3) := by decide +kernel
theorem s86_42 {n : Nat} {I : Nat → Nat → Int32} {R : Nat → Nat → Option Nat} {st : List Value} {l0 l1 : Option Value} {a : Nat} : EE 86 42 [l0, l1] (.ref a :: st) (n, I, R) = (gfI n I R 3 3 a).bind (fun z => EE 86 45 [l0, l1] (z :: st) (n, I, R)) := e_getf d86_42 f3_36 rfl rfl
theorem d86_45 : decode (cod 86) 45 = .ok (.iconst 1, 1) := by decide +kernel
theorem s86_45 {M : Mm} {st : List Value} {l0 l1 : Option Value} : EE 86 45 [l0, l1] st M = EE 86 46 [l0, l1] (.int (nI 1) :: st) M := e_con d86_45 k_con_1
theorem d86_46 : decode (cod 86) 46 = .ok (.isub, 1) := by decide +kernel
theorem s86_46 {M : Mm} {st : List Value} {l0 l1 : Option Value} {x y : Int32} : EE 86 46 [l0, l1] (.int y :: .int x :: st) M = EE 86 47 [l0, l1] (.int (x - y) :: st) M := e_II d86_46 rfl rfl rfl rfl rfl rfl
theorem d86_47 : decode (cod 86) 47 = .ok (.putfield 36, 3) := by decide +kernel
theorem s86_47 {n : Nat} {I : Nat → Nat → Int32} {R : Nat → Nat → Option Nat} {st : List Value} {l0 l1 : Option Value} {a : Nat} {v : Value} : EE 86 47 [l0, l1] (v :: .ref a :: st) (n, I, R) = (pfI n I R 3 3 a v).bind (fun z => EE 86 50 [l0, l1] st (n, z.1, z.2)) := e_putf d86_47 f3_36 rfl rfl (Or.inr rfl)
theorem d86_50 : decode (cod 86) 50 = .ok (.aload_n 0, 1) := by decide +kernel
theorem s86_50 {M : Mm} {st : List Value} {l1 : Option Value} {x : Nat} : EE 86 50 [some (.ref x), l1] st M = EE 86 51 [some (.ref x), l1] (.ref x :: st) M := e_ld d86_50 rfl rfl rfl rfl rfl rfl
theorem d86_51 : decode (cod 86) 51 = .ok (.getfield 7, 3) := by decide +kernel
theorem s86_51 {n : Nat} {I : Nat → Nat → Int32} {R : Nat → Nat → Option Nat} {st : List Value} {l0 l1 : Option Value} {a : Nat} : EE 86 51 [l0, l1] (.ref a :: st) (n, I, R) = (gfI n I R 3 0 a).bind (fun z => EE 86 54 [l0, l1] (z :: st) (n, I, R)) := e_getf d86_51 f3_7 rfl rfl
theorem d86_54 : decode (cod 86) 54 = .ok (.iconst 0, 1) := by decide +kernel
theorem s86_54 {M : Mm} {st : List Value} {l0 l1 : Option Value} : EE 86 54 [l0, l1] st M = EE 86 55 [l0, l1] (.int (nI 0) :: st) M := e_con d86_54 k_con_0
theorem d86_55 : decode (cod 86) 55 = .ok (.aload_n 0, 1) := by decide +kernel
theorem s86_55 {M : Mm} {st : List Value} {l1 : Option Value} {x : Nat} : EE 86 55 [some (.ref x), l1] st M = EE 86 56 [some (.ref x), l1] (.ref x :: st) M := e_ld d86_55 rfl rfl rfl rfl rfl rfl
theorem d86_56 : decode (cod 86) 56 = .ok (.getfield 16, 3) := by decide +kernel
theorem s86_56 {n : Nat} {I : Nat → Nat → Int32} {R : Nat → Nat → Option Nat} {st : List Value} {l0 l1 : Option Value} {a : Nat} : EE 86 56 [l0, l1] (.ref a :: st) (n, I, R) = (gfI n I R 3 2 a).bind (fun z => EE 86 59 [l0, l1] (z :: st) (n, I, R)) := e_getf d86_56 f3_16 rfl rfl
theorem d86_59 : decode (cod 86) 59 = .ok (.sipush 148, 3) := by decide +kernel
theorem s86_59 {M : Mm} {st : List Value} {l0 l1 : Option Value} : EE 86 59 [l0, l1] st M = EE 86 62 [l0, l1] (.int (nI 148) :: st) M := e_sip d86_59 k_sip_148
theorem d86_62 : decode (cod 86) 62 = .ok (.aload_n 0, 1) := by decide +kernel
theorem s86_62 {M : Mm} {st : List Value} {l1 : Option Value} {x : Nat} : EE 86 62 [some (.ref x), l1] st M = EE 86 63 [some (.ref x), l1] (.ref x :: st) M := e_ld d86_62 rfl rfl rfl rfl rfl rfl
theorem d86_63 : decode (cod 86) 63 = .ok (.getfield 36, 3) := by decide +kernel
theorem s86_63 {n : Nat} {I : Nat → Nat → Int32} {R : Nat → Nat → Option Nat} {st : List Value} {l0 l1 : Option Value} {a : Nat} : EE 86 63 [l0, l1] (.ref a :: st) (n, I, R) = (gfI n I R 3 3 a).bind (fun z => EE 86 66 [l0, l1] (z :: st) (n, I, R)) := e_getf d86_63 f3_36 rfl rfl
theorem d86_66 : decode (cod 86) 66 = .ok (.imul, 1) := by decide +kernel
theorem s86_66 {M : Mm} {st : List Value} {l0 l1 : Option Value} {x y : Int32} : EE 86 66 [l0, l1] (.int y :: .int x :: st) M = EE 86 67 [l0, l1] (.int (x * y) :: st) M := e_II d86_66 rfl rfl rfl rfl rfl rfl
theorem d86_67 : decode (cod 86) 67 = .ok (.invokestatic 40, 3) := by decide +kernel
theorem s86_67 {M : Mm} {l0 l1 : Option Value} {b0 : Nat} {b1 : Int32} {b2 : Nat} {b3 : Int32} {st : List Value} (hl : st.length ≤ 4) : EE 86 67 [l0, l1] (.int b3 :: .ref b2 :: .int b1 :: .ref b0 :: st) M = (FF 82 [.ref b0, .int b1, .ref b2, .int b3] M).bind (fun z => EE 86 70 [l0, l1] (psh z.1 st) z.2) := e_cals (av := [.ref b0, .int b1, .ref b2, .int b3]) d86_67 c3_40 (Or.inl rfl) rfl rfl r86_82 rfl hl
theorem d86_70 : decode (cod 86) 70 = .ok (.aload_n 0, 1) := by decide +kernel
theorem s86_70 {M : Mm} {st : List Value} {l1 : Option Value} {x : Nat} : EE 86 70 [some (.ref x), l1] st M = EE 86 71 [some (.ref x), l1] (.ref x :: st) M := e_ld d86_70 rfl rfl rfl rfl rfl rfl
theorem d86_71 : decode (cod 86) 71 = .ok (.dup, 1) := by decide +kernel
theorem s86_71i {M : Mm} {st : List Value} {l0 l1 : Option Value} {x : Int32} : EE 86 71 [l0, l1] (.int x :: st) M = EE 86 72 [l0, l1] (.int x :: .int x :: st) M := e_dup d86_71 rfl
theorem s86_71r {M : Mm} {st : List Value} {l0 l1 : Option Value} {x : Nat} : EE 86 71 [l0, l1] (.ref x :: st) M = EE 86 72 [l0, l1] (.ref x :: .ref x :: st) M := e_dup d86_71 rfl
theorem d86_72 : decode (cod 86) 72 = .ok (.getfield 36, 3) := by decide +kernel
theorem s86_72 {n : Nat} {I : Nat → Nat → Int32} {R : Nat → Nat → Option Nat} {st : List Value} {l0 l1 : Option Value} {a : Nat} : EE 86 72 [l0, l1] (.ref a :: st) (n, I, R) = (gfI n I R 3 3 a).bind (fun z => EE 86 75 [l0, l1] (z :: st) (n, I, R)) := e_getf d86_72 f3_36 rfl rfl
theorem d86_75 : decode (cod 86) 75 = .ok (.iconst 1, 1) := by decide +kernel
theorem s86_75 {M : Mm} {st : List Value} {l0 l1 : Option Value} : EE 86 75 [l0, l1] st M = EE 86 76 [l0, l1] (.int (nI 1) :: st) M := e_con d86_75 k_con_1
theorem d86_76 : decode (cod 86) 76 = .ok (.iadd, 1) := by decide +kernel
theorem s86_76 {M : Mm} {st : List Value} {l0 l1 : Option Value} {x y : Int32} : EE 86 76 [l0, l1] (.int y :: .int x :: st) M = EE 86 77 [l0, l1] (.int (x + y) :: st) M := e_II d86_76 rfl rfl rfl rfl rfl rfl
theorem d86_77 : decode (cod 86) 77 = .ok (.putfield 36, 3) := by decide +kernel
theorem s86_77 {n : Nat} {I : Nat → Nat → Int32} {R : Nat → Nat → Option Nat} {st : List Value} {l0 l1 : Option Value} {a : Nat} {v : Value} : EE 86 77 [l0, l1] (v :: .ref a :: st) (n, I, R) = (pfI n I R 3 3 a v).bind (fun z => EE 86 80 [l0, l1] st (n, z.1, z.2)) := e_putf d86_77 f3_36 rfl rfl (Or.inr rfl)
theorem d86_80 : decode (cod 86) 80 = .ok (.return_, 1) := by decide +kernel
theorem s86_80 {M : Mm} {l0 l1 : Option Value} : EE 86 80 [l0, l1] [] M = some (none, M) := e_vret d86_80 rfl
theorem FE86 {a : Nat} {M : Mm} : FF 86 [.ref a] M = EE 86 0 [some (.ref a), none] [] M := FF_eq 86 _ _ (Nat.le_of_ble_eq_true rfl)
theorem d87_0 : decode (cod 87) 0 = .ok (.iload_n 1, 1) := by decide +kernel
theorem s87_0 {M : Mm} {st : List Value} {l0 l2 l3 : Option Value} {x : Int32} : EE 87 0 [l0, some (.int x), l2, l3] st M = EE 87 1 [l0, some (.int x), l2, l3] (.int x :: st) M := e_ld d87_0 rfl rfl rfl rfl rfl rfl
theorem d87_1 : decode (cod 87) 1 = .ok (.iconst 0, 1) := by decide +kernel
theorem s87_1 {M : Mm} {st : List Value} {l0 l1 l2 l3 : Option Value} : EE 87 1 [l0, l1, l2, l3] st M = EE 87 2 [l0, l1, l2, l3] (.int (nI 0) :: st) M := e_con d87_1 k_con_0
theorem d87_2 : decode (cod 87) 2 = .ok (.iconst 5, 1) := by decide +kernel
theorem s87_2 {M : Mm} {st : List Value} {l0 l1 l2 l3 : Option Value} : EE 87 2 [l0, l1, l2, l3] st M = EE 87 3 [l0, l1, l2, l3] (.int (nI 5) :: st) M := e_con d87_2 k_con_5
theorem d87_3 : decode (cod 87) 3 = .ok (.invokestatic 32, 3) := by decide +kernel
theorem s87_3 {M : Mm} {l0 l1 l2 l3 : Option Value} {b0 : Int32} {b1 : Int32} {b2 : Int32} {st : List Value} (hl : st.length ≤ 4) : EE 87 3 [l0, l1, l2, l3] (.int b2 :: .int b1 :: .int b0 :: st) M = (FF 84 [.int b0, .int b1, .int b2] M).bind (fun z => EE 87 6 [l0, l1, l2, l3] (psh z.1 st) z.2) := e_cals (av := [.int b0, .int b1, .int b2]) d87_3 c3_32 (Or.inl rfl) rfl rfl r87_84 rfl hl
theorem d87_6 : decode (cod 87) 6 = .ok (.ifCond .eq 11, 3) := by decide +kernel
theorem s87_6 {M : Mm} {st : List Value} {l0 l1 l2 l3 : Option Value} {x : Int32} : EE 87 6 [l0, l1, l2, l3] (.int x :: st) M = if x = 0 then EE 87 17 [l0, l1, l2, l3] st M else EE 87 9 [l0, l1, l2, l3] st M := e_eq0 d87_6 (by decide)
theorem d87_9 : decode (cod 87) 9 = .ok (.iload_n 1, 1) := by decide +kernel
theorem s87_9 {M : Mm} {st : List Value} {l0 l2 l3 : Option Value} {x : Int32} : EE 87 9 [l0, some (.int x), l2, l3] st M = EE 87 10 [l0, some (.int x), l2, l3] (.int x :: st) M := e_ld d87_9 rfl rfl rfl rfl rfl rfl
theorem d87_10 : decode (cod 87) 10 = .ok (.iload_n 2, 1) := by decide +kernel
theorem s87_10 {M : Mm} {st : List Value} {l0 l1 l3 : Option Value} {x : Int32} : EE 87 10 [l0, l1, some (.int x), l3] st M = EE 87 11 [l0, l1, some (.int x), l3] (.int x :: st) M := e_ld d87_10 rfl rfl rfl rfl rfl rfl
theorem d87_11 : decode (cod 87) 11 = .ok (.invokestatic 81, 3) := by decide +kernel
theorem s87_11 {M : Mm} {l0 l1 l2 l3 : Option Value} {b0 : Int32} {b1 : Int32} {st : List Value} (hl : st.length ≤ 4) : EE 87 11 [l0, l1, l2, l3] (.int b1 :: .int b0 :: st) M = (FF 88 [.int b0, .int b1] M).bind (fun z => EE 87 14 [l0, l1, l2, l3] (psh z.1 st) z.2) := e_cals (av := [.int b0, .int b1]) d87_11 c3_81 (Or.inl rfl) rfl rfl r87_88 rfl hl
theorem d87_14 : decode (cod 87) 14 = .ok (.ifCond .ne 6, 3) := by decide +kernel
theorem s87_14 {M : Mm} {st : List Value} {l0 l1 l2 l3 : Option Value} {x : Int32} : EE 87 14 [l0, l1, l2, l3] (.int x :: st) M = if x = 0 then EE 87 17 [l0, l1, l2, l3] st M else EE 87 20 [l0, l1, l2, l3] st M := e_ne0 d87_14 (by decide)
theorem d87_17 : decode (cod 87) 17 = .ok (.bipush (-2), 2) := by decide +kernel
theorem s87_17 {M : Mm} {st : List Value} {l0 l1 l2 l3 : Option Value} : EE 87 17 [l0, l1, l2, l3] st M = EE 87 19 [l0, l1, l2, l3] (.int ((-2)) :: st) M := e_bip d87_17 k_bip_m2
theorem d87_19 : decode (cod 87) 19 = .ok (.ireturn, 1) := by decide +kernel
theorem s87_19 {M : Mm} {l0 l1 l2 l3 : Option Value} {v : Int32} : EE 87 19 [l0, l1, l2, l3] [.int v] M = some (some (.int v), M) := e_iret d87_19 rfl rfl
theorem d87_20 : decode (cod 87) 20 = .ok (.aload_n 0, 1) := by decide +kernel
theorem s87_20 {M : Mm} {st : List Value} {l1 l2 l3 : Option Value} {x : Nat} : EE 87 20 [some (.ref x), l1, l2, l3] st M = EE 87 21 [some (.ref x), l1, l2, l3] (.ref x :: st) M := e_ld d87_20 rfl rfl rfl rfl rfl rfl
theorem d87_21 : decode (cod 87) 21 = .ok (.invokevirtual 44, 3) := by decide +kernel
theorem s87_21 {l0 l1 l2 l3 : Option Value} {a : Nat} {M : Mm} {st : List Value} (hl : st.length ≤ 4) (ho : isO "HandoverDeskModel" M.1 a = true) : EE 87 21 [l0, l1, l2, l3] (.ref a :: st) M = (FF 86 (.ref a :: []) M).bind (fun z => EE 87 24 [l0, l1, l2, l3] (psh z.1 st) z.2) := e_calv (av := []) d87_21 c3_44 rfl rfl rfl r87_86 rfl hl ho
theorem d87_24 : decode (cod 87) 24 = .ok (.aload_n 0, 1) := by decide +kernel
theorem s87_24 {M : Mm} {st : List Value} {l1 l2 l3 : Option Value} {x : Nat} : EE 87 24 [some (.ref x), l1, l2, l3] st M = EE 87 25 [some (.ref x), l1, l2, l3] (.ref x :: st) M := e_ld d87_24 rfl rfl rfl rfl rfl rfl
theorem d87_25 : decode (cod 87) 25 = .ok (.getfield 7, 3) := by decide +kernel
theorem s87_25 {n : Nat} {I : Nat → Nat → Int32} {R : Nat → Nat → Option Nat} {st : List Value} {l0 l1 l2 l3 : Option Value} {a : Nat} : EE 87 25 [l0, l1, l2, l3] (.ref a :: st) (n, I, R) = (gfI n I R 3 0 a).bind (fun z => EE 87 28 [l0, l1, l2, l3] (z :: st) (n, I, R)) := e_getf d87_25 f3_7 rfl rfl
theorem d87_28 : decode (cod 87) 28 = .ok (.iconst 2, 1) := by decide +kernel
theorem s87_28 {M : Mm} {st : List Value} {l0 l1 l2 l3 : Option Value} : EE 87 28 [l0, l1, l2, l3] st M = EE 87 29 [l0, l1, l2, l3] (.int (nI 2) :: st) M := e_con d87_28 k_con_2
theorem d87_29 : decode (cod 87) 29 = .ok (.iload_n 1, 1) := by decide +kernel
theorem s87_29 {M : Mm} {st : List Value} {l0 l2 l3 : Option Value} {x : Int32} : EE 87 29 [l0, some (.int x), l2, l3] st M = EE 87 30 [l0, some (.int x), l2, l3] (.int x :: st) M := e_ld d87_29 rfl rfl rfl rfl rfl rfl
theorem d87_30 : decode (cod 87) 30 = .ok (.iadd, 1) := by decide +kernel
theorem s87_30 {M : Mm} {st : List Value} {l0 l1 l2 l3 : Option Value} {x y : Int32} : EE 87 30 [l0, l1, l2, l3] (.int y :: .int x :: st) M = EE 87 31 [l0, l1, l2, l3] (.int (x + y) :: st) M := e_II d87_30 rfl rfl rfl rfl rfl rfl
theorem d87_31 : decode (cod 87) 31 = .ok (.iaload, 1) := by decide +kernel
theorem s87_31 {n : Nat} {I : Nat → Nat → Int32} {R : Nat → Nat → Option Nat} {st : List Value} {l0 l1 l2 l3 : Option Value} {j : Int32} {a : Nat} : EE 87 31 [l0, l1, l2, l3] (.int j :: .ref a :: st) (n, I, R) = (ardI 5 n I a j).bind (fun z => EE 87 32 [l0, l1, l2, l3] (.int z :: st) (n, I, R)) := e_iald d87_31
theorem d87_32 : decode (cod 87) 32 = .ok (.istore_n 3, 1) := by decide +kernel
theorem s87_32 {M : Mm} {st : List Value} {l0 l1 l2 l3 : Option Value} {x : Int32} : EE 87 32 [l0, l1, l2, l3] (.int x :: st) M = EE 87 33 [l0, l1, cln l2, some (.int x)] st M := e_st1 d87_32 rfl rfl rfl rfl rfl rfl rfl (Nat.le_of_ble_eq_true rfl) rfl
theorem d87_33 : decode (cod 87) 33 = .ok (.aload_n 0, 1) := by decide +kernel
theorem s87_33 {M : Mm} {st : List Value} {l1 l2 l3 : Option Value} {x : Nat} : EE 87 33 [some (.ref x), l1, l2, l3] st M = EE 87 34 [some (.ref x), l1, l2, l3] (.ref x :: st) M := e_ld d87_33 rfl rfl rfl rfl rfl rfl
theorem d87_34 : decode (cod 87) 34 = .ok (.getfield 7, 3) := by decide +kernel
theorem s87_34 {n : Nat} {I : Nat → Nat → Int32} {R : Nat → Nat → Option Nat} {st : List Value} {l0 l1 l2 l3 : Option Value} {a : Nat} : EE 87 34 [l0, l1, l2, l3] (.ref a :: st) (n, I, R) = (gfI n I R 3 0 a).bind (fun z => EE 87 37 [l0, l1, l2, l3] (z :: st) (n, I, R)) := e_getf d87_34 f3_7 rfl rfl
theorem d87_37 : decode (cod 87) 37 = .ok (.iconst 2, 1) := by decide +kernel
theorem s87_37 {M : Mm} {st : List Value} {l0 l1 l2 l3 : Option Value} : EE 87 37 [l0, l1, l2, l3] st M = EE 87 38 [l0, l1, l2, l3] (.int (nI 2) :: st) M := e_con d87_37 k_con_2
theorem d87_38 : decode (cod 87) 38 = .ok (.iload_n 1, 1) := by decide +kernel
theorem s87_38 {M : Mm} {st : List Value} {l0 l2 l3 : Option Value} {x : Int32} : EE 87 38 [l0, some (.int x), l2, l3] st M = EE 87 39 [l0, some (.int x), l2, l3] (.int x :: st) M := e_ld d87_38 rfl rfl rfl rfl rfl rfl
theorem d87_39 : decode (cod 87) 39 = .ok (.iadd, 1) := by decide +kernel
theorem s87_39 {M : Mm} {st : List Value} {l0 l1 l2 l3 : Option Value} {x y : Int32} : EE 87 39 [l0, l1, l2, l3] (.int y :: .int x :: st) M = EE 87 40 [l0, l1, l2, l3] (.int (x + y) :: st) M := e_II d87_39 rfl rfl rfl rfl rfl rfl
theorem d87_40 : decode (cod 87) 40 = .ok (.iload_n 2, 1) := by decide +kernel
theorem s87_40 {M : Mm} {st : List Value} {l0 l1 l3 : Option Value} {x : Int32} : EE 87 40 [l0, l1, some (.int x), l3] st M = EE 87 41 [l0, l1, some (.int x), l3] (.int x :: st) M := e_ld d87_40 rfl rfl rfl rfl rfl rfl
theorem d87_41 : decode (cod 87) 41 = .ok (.iastore, 1) := by decide +kernel
theorem s87_41 {n : Nat} {I : Nat → Nat → Int32} {R : Nat → Nat → Option Nat} {st : List Value} {l0 l1 l2 l3 : Option Value} {j x : Int32} {a : Nat} (h : acI 5 n a j) : EE 87 41 [l0, l1, l2, l3] (.int x :: .int j :: .ref a :: st) (n, I, R) = EE 87 42 [l0, l1, l2, l3] st (n, wI I a j.toNatClampNeg x, R) := e_iast d87_41 h
theorem d87_42 : decode (cod 87) 42 = .ok (.iload_n 3, 1) := by decide +kernel
theorem s87_42 {M : Mm} {st : List Value} {l0 l1 l2 : Option Value} {x : Int32} : EE 87 42 [l0, l1, l2, some (.int x)] st M = EE 87 43 [l0, l1, l2, some (.int x)] (.int x :: st) M := e_ld d87_42 rfl rfl rfl rfl rfl rfl
theorem d87_43 : decode (cod 87) 43 = .ok (.ireturn, 1) := by decide +kernel
theorem s87_43 {M : Mm} {l0 l1 l2 l3 : Option Value} {v : Int32} : EE 87 43 [l0, l1, l2, l3] [.int v] M = some (some (.int v), M) := e_iret d87_43 rfl rfl
theorem FE87 {a : Nat} {b0 : Int32} {b1 : Int32} {M : Mm} : FF 87 [.ref a, .int b0, .int b1] M = EE 87 0 [some (.ref a), some (.int b0), some (.int b1), none] [] M := FF_eq 87 _ _ (Nat.le_of_ble_eq_true rfl)
