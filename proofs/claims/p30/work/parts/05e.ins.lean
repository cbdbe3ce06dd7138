theorem d83_0 : decode (cod 83) 0 = .ok (.aload_n 0, 1) := by decide +kernel
theorem s83_0 {M : Mm} {st : List Value} {l1 l2 l3 l4 l5 l6 l7 : Option Value} {x : Nat} : EE 83 0 [some (.ref x), l1, l2, l3, l4, l5, l6, l7] st M = EE 83 1 [some (.ref x), l1, l2, l3, l4, l5, l6, l7] (.ref x :: st) M := e_ld d83_0 rfl rfl rfl rfl rfl rfl
theorem d83_1 : decode (cod 83) 1 = .ok (.iconst 2, 1) := by decide +kernel
theorem s83_1 {M : Mm} {st : List Value} {l0 l1 l2 l3 l4 l5 l6 l7 : Option Value} : EE 83 1 [l0, l1, l2, l3, l4, l5, l6, l7] st M = EE 83 2 [l0, l1, l2, l3, l4, l5, l6, l7] (.int (nI 2) :: st) M := e_con d83_1 k_con_2
theorem d83_2 : decode (cod 83) 2 = .ok (.invokevirtual 15, 3) := by decide +kernel
theorem s83_2 {l0 l1 l2 l3 l4 l5 l6 l7 : Option Value} {a : Nat} {M : Mm} {b0 : Int32} {st : List Value} (hl : st.length ≤ 4) (ho : isO "HandoverDesk" M.1 a = true) : EE 83 2 [l0, l1, l2, l3, l4, l5, l6, l7] (.int b0 :: .ref a :: st) M = (FF 61 (.ref a :: [.int b0]) M).bind (fun z => EE 83 5 [l0, l1, l2, l3, l4, l5, l6, l7] (psh z.1 st) z.2) := e_calv (av := [.int b0]) d83_2 c4_15 rfl rfl rfl r83_61 rfl hl ho
theorem d83_5 : decode (cod 83) 5 = .ok (.istore_n 1, 1) := by decide +kernel
theorem s83_5 {M : Mm} {st : List Value} {l0 l1 l2 l3 l4 l5 l6 l7 : Option Value} {x : Int32} : EE 83 5 [l0, l1, l2, l3, l4, l5, l6, l7] (.int x :: st) M = EE 83 6 [cln l0, some (.int x), l2, l3, l4, l5, l6, l7] st M := e_st1 d83_5 rfl rfl rfl rfl rfl rfl rfl (Nat.le_of_ble_eq_true rfl) rfl
theorem d83_6 : decode (cod 83) 6 = .ok (.iconst 0, 1) := by decide +kernel
theorem s83_6 {M : Mm} {st : List Value} {l0 l1 l2 l3 l4 l5 l6 l7 : Option Value} : EE 83 6 [l0, l1, l2, l3, l4, l5, l6, l7] st M = EE 83 7 [l0, l1, l2, l3, l4, l5, l6, l7] (.int (nI 0) :: st) M := e_con d83_6 k_con_0
theorem d83_7 : decode (cod 83) 7 = .ok (.istore_n 2, 1) := by decide +kernel
theorem s83_7 {M : Mm} {st : List Value} {l0 l1 l2 l3 l4 l5 l6 l7 : Option Value} {x : Int32} : EE 83 7 [l0, l1, l2, l3, l4, l5, l6, l7] (.int x :: st) M = EE 83 8 [l0, cln l1, some (.int x), l3, l4, l5, l6, l7] st M := e_st1 d83_7 rfl rfl rfl rfl rfl rfl rfl (Nat.le_of_ble_eq_true rfl) rfl
theorem d83_8 : decode (cod 83) 8 = .ok (.iconst 0, 1) := by decide +kernel
theorem s83_8 {M : Mm} {st : List Value} {l0 l1 l2 l3 l4 l5 l6 l7 : Option Value} : EE 83 8 [l0, l1, l2, l3, l4, l5, l6, l7] st M = EE 83 9 [l0, l1, l2, l3, l4, l5, l6, l7] (.int (nI 0) :: st) M := e_con d83_8 k_con_0
theorem d83_9 : decode (cod 83) 9 = .ok (.istore_n 3, 1) := by decide +kernel
theorem s83_9 {M : Mm} {st : List Value} {l0 l1 l2 l3 l4 l5 l6 l7 : Option Value} {x : Int32} : EE 83 9 [l0, l1, l2, l3, l4, l5, l6, l7] (.int x :: st) M = EE 83 10 [l0, l1, cln l2, some (.int x), l4, l5, l6, l7] st M := e_st1 d83_9 rfl rfl rfl rfl rfl rfl rfl (Nat.le_of_ble_eq_true rfl) rfl
theorem d83_10 : decode (cod 83) 10 = .ok (.iconst 0, 1) := by decide +kernel
theorem s83_10 {M : Mm} {st : List Value} {l0 l1 l2 l3 l4 l5 l6 l7 : Option Value} : EE 83 10 [l0, l1, l2, l3, l4, l5, l6, l7] st M = EE 83 11 [l0, l1, l2, l3, l4, l5, l6, l7] (.int (nI 0) :: st) M := e_con d83_10 k_con_0
theorem d83_11 : decode (cod 83) 11 = .ok (.istore 4, 2) := by decide +kernel
theorem s83_11 {M : Mm} {st : List Value} {l0 l1 l2 l3 l4 l5 l6 l7 : Option Value} {x : Int32} : EE 83 11 [l0, l1, l2, l3, l4, l5, l6, l7] (.int x :: st) M = EE 83 13 [l0, l1, l2, cln l3, some (.int x), l5, l6, l7] st M := e_st1 d83_11 rfl rfl rfl rfl rfl rfl rfl (Nat.le_of_ble_eq_true rfl) rfl
theorem d83_13 : decode (cod 83) 13 = .ok (.iconst 1, 1) := by decide +kernel
theorem s83_13 {M : Mm} {st : List Value} {l0 l1 l2 l3 l4 l5 l6 l7 : Option Value} : EE 83 13 [l0, l1, l2, l3, l4, l5, l6, l7] st M = EE 83 14 [l0, l1, l2, l3, l4, l5, l6, l7] (.int (nI 1) :: st) M := e_con d83_13 k_con_1
theorem d83_14 : decode (cod 83) 14 = .ok (.istore 5, 2) := by decide +kernel
theorem s83_14 {M : Mm} {st : List Value} {l0 l1 l2 l3 l4 l5 l6 l7 : Option Value} {x : Int32} : EE 83 14 [l0, l1, l2, l3, l4, l5, l6, l7] (.int x :: st) M = EE 83 16 [l0, l1, l2, l3, cln l4, some (.int x), l6, l7] st M := e_st1 d83_14 rfl rfl rfl rfl rfl rfl rfl (Nat.le_of_ble_eq_true rfl) rfl
theorem d83_16 : decode (cod 83) 16 = .ok (.iload_n 1, 1) := by decide +kernel
theorem s83_16 {M : Mm} {st : List Value} {l0 l2 l3 l4 l5 l6 l7 : Option Value} {x : Int32} : EE 83 16 [l0, some (.int x), l2, l3, l4, l5, l6, l7] st M = EE 83 17 [l0, some (.int x), l2, l3, l4, l5, l6, l7] (.int x :: st) M := e_ld d83_16 rfl rfl rfl rfl rfl rfl
theorem d83_17 : decode (cod 83) 17 = .ok (.bipush 10, 2) := by decide +kernel
theorem s83_17 {M : Mm} {st : List Value} {l0 l1 l2 l3 l4 l5 l6 l7 : Option Value} : EE 83 17 [l0, l1, l2, l3, l4, l5, l6, l7] st M = EE 83 19 [l0, l1, l2, l3, l4, l5, l6, l7] (.int (nI 10) :: st) M := e_bip d83_17 k_bip_10
theorem d83_19 : decode (cod 83) 19 = .ok (.if_icmp .gt 28, 3) := by decide +kernel
theorem s83_19 {M : Mm} {st : List Value} {l0 l1 l2 l3 l4 l5 l6 l7 : Option Value} {x y : Int32} : EE 83 19 [l0, l1, l2, l3, l4, l5, l6, l7] (.int y :: .int x :: st) M = if y < x then EE 83 47 [l0, l1, l2, l3, l4, l5, l6, l7] st M else EE 83 22 [l0, l1, l2, l3, l4, l5, l6, l7] st M := e_cgt d83_19 (by decide)
theorem d83_22 : decode (cod 83) 22 = .ok (.aload_n 0, 1) := by decide +kernel
theorem s83_22 {M : Mm} {st : List Value} {l1 l2 l3 l4 l5 l6 l7 : Option Value} {x : Nat} : EE 83 22 [some (.ref x), l1, l2, l3, l4, l5, l6, l7] st M = EE 83 23 [some (.ref x), l1, l2, l3, l4, l5, l6, l7] (.ref x :: st) M := e_ld d83_22 rfl rfl rfl rfl rfl rfl
theorem d83_23 : decode (cod 83) 23 = .ok (.iconst 1, 1) := by decide +kernel
theorem s83_23 {M : Mm} {st : List Value} {l0 l1 l2 l3 l4 l5 l6 l7 : Option Value} : EE 83 23 [l0, l1, l2, l3, l4, l5, l6, l7] st M = EE 83 24 [l0, l1, l2, l3, l4, l5, l6, l7] (.int (nI 1) :: st) M := e_con d83_23 k_con_1
theorem d83_24 : decode (cod 83) 24 = .ok (.invokevirtual 15, 3) := by decide +kernel
theorem s83_24 {l0 l1 l2 l3 l4 l5 l6 l7 : Option Value} {a : Nat} {M : Mm} {b0 : Int32} {st : List Value} (hl : st.length ≤ 4) (ho : isO "HandoverDesk" M.1 a = true) : EE 83 24 [l0, l1, l2, l3, l4, l5, l6, l7] (.int b0 :: .ref a :: st) M = (FF 61 (.ref a :: [.int b0]) M).bind (fun z => EE 83 27 [l0, l1, l2, l3, l4, l5, l6, l7] (psh z.1 st) z.2) := e_calv (av := [.int b0]) d83_24 c4_15 rfl rfl rfl r83_61 rfl hl ho
theorem d83_27 : decode (cod 83) 27 = .ok (.aload_n 0, 1) := by decide +kernel
theorem s83_27 {M : Mm} {st : List Value} {l1 l2 l3 l4 l5 l6 l7 : Option Value} {x : Nat} : EE 83 27 [some (.ref x), l1, l2, l3, l4, l5, l6, l7] st M = EE 83 28 [some (.ref x), l1, l2, l3, l4, l5, l6, l7] (.ref x :: st) M := e_ld d83_27 rfl rfl rfl rfl rfl rfl
theorem d83_28 : decode (cod 83) 28 = .ok (.aload_n 0, 1) := by decide +kernel
theorem s83_28 {M : Mm} {st : List Value} {l1 l2 l3 l4 l5 l6 l7 : Option Value} {x : Nat} : EE 83 28 [some (.ref x), l1, l2, l3, l4, l5, l6, l7] st M = EE 83 29 [some (.ref x), l1, l2, l3, l4, l5, l6, l7] (.ref x :: st) M := e_ld d83_28 rfl rfl rfl rfl rfl rfl
theorem d83_29 : decode (cod 83) 29 = .ok (.iconst 0, 1) := by decide +kernel
theorem s83_29 {M : Mm} {st : List Value} {l0 l1 l2 l3 l4 l5 l6 l7 : Option Value} : EE 83 29 [l0, l1, l2, l3, l4, l5, l6, l7] st M = EE 83 30 [l0, l1, l2, l3, l4, l5, l6, l7] (.int (nI 0) :: st) M := e_con d83_29 k_con_0
theorem d83_30 : decode (cod 83) 30 = .ok (.invokevirtual 15, 3) := by decide +kernel
theorem s83_30 {l0 l1 l2 l3 l4 l5 l6 l7 : Option Value} {a : Nat} {M : Mm} {b0 : Int32} {st : List Value} (hl : st.length ≤ 4) (ho : isO "HandoverDesk" M.1 a = true) : EE 83 30 [l0, l1, l2, l3, l4, l5, l6, l7] (.int b0 :: .ref a :: st) M = (FF 61 (.ref a :: [.int b0]) M).bind (fun z => EE 83 33 [l0, l1, l2, l3, l4, l5, l6, l7] (psh z.1 st) z.2) := e_calv (av := [.int b0]) d83_30 c4_15 rfl rfl rfl r83_61 rfl hl ho
theorem d83_33 : decode (cod 83) 33 = .ok (.bipush 12, 2) := by decide +kernel
theorem s83_33 {M : Mm} {st : List Value} {l0 l1 l2 l3 l4 l5 l6 l7 : Option Value} : EE 83 33 [l0, l1, l2, l3, l4, l5, l6, l7] st M = EE 83 35 [l0, l1, l2, l3, l4, l5, l6, l7] (.int (nI 12) :: st) M := e_bip d83_33 k_bip_12
theorem d83_35 : decode (cod 83) 35 = .ok (.irem, 1) := by decide +kernel
theorem s83_35 {M : Mm} {st : List Value} {l0 l1 l2 l3 l4 l5 l6 l7 : Option Value} {x y : Nat} (h1 : x < 2 ^ 31) (h2 : 0 < y) (h3 : y < 2 ^ 31) : EE 83 35 [l0, l1, l2, l3, l4, l5, l6, l7] (.int (nI y) :: .int (nI x) :: st) M = EE 83 36 [l0, l1, l2, l3, l4, l5, l6, l7] (.int (nI (x % y)) :: st) M := e_remN d83_35 h1 h2 h3
theorem d83_36 : decode (cod 83) 36 = .ok (.iconst 0, 1) := by decide +kernel
theorem s83_36 {M : Mm} {st : List Value} {l0 l1 l2 l3 l4 l5 l6 l7 : Option Value} : EE 83 36 [l0, l1, l2, l3, l4, l5, l6, l7] st M = EE 83 37 [l0, l1, l2, l3, l4, l5, l6, l7] (.int (nI 0) :: st) M := e_con d83_36 k_con_0
theorem d83_37 : decode (cod 83) 37 = .ok (.invokevirtual 28, 3) := by decide +kernel
theorem s83_37 {l0 l1 l2 l3 l4 l5 l6 l7 : Option Value} {a : Nat} {M : Mm} {b0 : Int32} {b1 : Int32} {st : List Value} (hl : st.length ≤ 4) (ho : isO "HandoverDesk" M.1 a = true) : EE 83 37 [l0, l1, l2, l3, l4, l5, l6, l7] (.int b1 :: .int b0 :: .ref a :: st) M = (FF 62 (.ref a :: [.int b0, .int b1]) M).bind (fun z => EE 83 40 [l0, l1, l2, l3, l4, l5, l6, l7] (psh z.1 st) z.2) := e_calv (av := [.int b0, .int b1]) d83_37 c4_28 rfl rfl rfl r83_62 rfl hl ho
theorem d83_40 : decode (cod 83) 40 = .ok (.if_icmp .ne 7, 3) := by decide +kernel
theorem s83_40 {M : Mm} {st : List Value} {l0 l1 l2 l3 l4 l5 l6 l7 : Option Value} {x y : Int32} : EE 83 40 [l0, l1, l2, l3, l4, l5, l6, l7] (.int y :: .int x :: st) M = if x = y then EE 83 43 [l0, l1, l2, l3, l4, l5, l6, l7] st M else EE 83 47 [l0, l1, l2, l3, l4, l5, l6, l7] st M := e_cne d83_40 (by decide)
theorem d83_43 : decode (cod 83) 43 = .ok (.iconst 1, 1) := by decide +kernel
theorem s83_43 {M : Mm} {st : List Value} {l0 l1 l2 l3 l4 l5 l6 l7 : Option Value} : EE 83 43 [l0, l1, l2, l3, l4, l5, l6, l7] st M = EE 83 44 [l0, l1, l2, l3, l4, l5, l6, l7] (.int (nI 1) :: st) M := e_con d83_43 k_con_1
theorem d83_44 : decode (cod 83) 44 = .ok (.goto 4, 3) := by decide +kernel
theorem s83_44 {M : Mm} {st : List Value} {l0 l1 l2 l3 l4 l5 l6 l7 : Option Value} : EE 83 44 [l0, l1, l2, l3, l4, l5, l6, l7] st M = EE 83 48 [l0, l1, l2, l3, l4, l5, l6, l7] st M := e_goto d83_44 (by decide)
theorem d83_47 : decode (cod 83) 47 = .ok (.iconst 0, 1) := by decide +kernel
theorem s83_47 {M : Mm} {st : List Value} {l0 l1 l2 l3 l4 l5 l6 l7 : Option Value} : EE 83 47 [l0, l1, l2, l3, l4, l5, l6, l7] st M = EE 83 48 [l0, l1, l2, l3, l4, l5, l6, l7] (.int (nI 0) :: st) M := e_con d83_47 k_con_0
theorem d83_48 : decode (cod 83) 48 = .ok (.istore 6, 2) := by decide +kernel
theorem s83_48 {M : Mm} {st : List Value} {l0 l1 l2 l3 l4 l5 l6 l7 : Option Value} {x : Int32} : EE 83 48 [l0, l1, l2, l3, l4, l5, l6, l7] (.int x :: st) M = EE 83 50 [l0, l1, l2, l3, l4, cln l5, some (.int x), l7] st M := e_st1 d83_48 rfl rfl rfl rfl rfl rfl rfl (Nat.le_of_ble_eq_true rfl) rfl
theorem d83_50 : decode (cod 83) 50 = .ok (.iconst 0, 1) := by decide +kernel
theorem s83_50 {M : Mm} {st : List Value} {l0 l1 l2 l3 l4 l5 l6 l7 : Option Value} : EE 83 50 [l0, l1, l2, l3, l4, l5, l6, l7] st M = EE 83 51 [l0, l1, l2, l3, l4, l5, l6, l7] (.int (nI 0) :: st) M := e_con d83_50 k_con_0
theorem d83_51 : decode (cod 83) 51 = .ok (.istore 7, 2) := by decide +kernel
theorem s83_51 {M : Mm} {st : List Value} {l0 l1 l2 l3 l4 l5 l6 l7 : Option Value} {x : Int32} : EE 83 51 [l0, l1, l2, l3, l4, l5, l6, l7] (.int x :: st) M = EE 83 53 [l0, l1, l2, l3, l4, l5, cln l6, some (.int x)] st M := e_st1 d83_51 rfl rfl rfl rfl rfl rfl rfl (Nat.le_of_ble_eq_true rfl) rfl
theorem d83_53 : decode (cod 83) 53 = .ok (.iload 7, 2) := by decide +kernel
theorem s83_53 {M : Mm} {st : List Value} {l0 l1 l2 l3 l4 l5 l6 : Option Value} {x : Int32} : EE 83 53 [l0, l1, l2, l3, l4, l5, l6, some (.int x)] st M = EE 83 55 [l0, l1, l2, l3, l4, l5, l6, some (.int x)] (.int x :: st) M := e_ld d83_53 rfl rfl rfl rfl rfl rfl
theorem d83_55 : decode (cod 83) 55 = .ok (.iload_n 1, 1) := by decide +kernel
theorem s83_55 {M : Mm} {st : List Value} {l0 l2 l3 l4 l5 l6 l7 : Option Value} {x : Int32} : EE 83 55 [l0, some (.int x), l2, l3, l4, l5, l6, l7] st M = EE 83 56 [l0, some (.int x), l2, l3, l4, l5, l6, l7] (.int x :: st) M := e_ld d83_55 rfl rfl rfl rfl rfl rfl
theorem d83_56 : decode (cod 83) 56 = .ok (.if_icmp .ge 89, 3) := by decide +kernel
theorem s83_56 {M : Mm} {st : List Value} {l0 l1 l2 l3 l4 l5 l6 l7 : Option Value} {x y : Int32} : EE 83 56 [l0, l1, l2, l3, l4, l5, l6, l7] (.int y :: .int x :: st) M = if y ≤ x then EE 83 145 [l0, l1, l2, l3, l4, l5, l6, l7] st M else EE 83 59 [l0, l1, l2, l3, l4, l5, l6, l7] st M := e_cge d83_56 (by decide)
theorem d83_59 : decode (cod 83) 59 = .ok (.iload 6, 2) := by decide +kernel
theorem s83_59 {M : Mm} {st : List Value} {l0 l1 l2 l3 l4 l5 l7 : Option Value} {x : Int32} : EE 83 59 [l0, l1, l2, l3, l4, l5, some (.int x), l7] st M = EE 83 61 [l0, l1, l2, l3, l4, l5, some (.int x), l7] (.int x :: st) M := e_ld d83_59 rfl rfl rfl rfl rfl rfl
theorem d83_61 : decode (cod 83) 61 = .ok (.ifCond .eq 84, 3) := by decide +kernel
theorem s83_61 {M : Mm} {st : List Value} {l0 l1 l2 l3 l4 l5 l6 l7 : Option Value} {x : Int32} : EE 83 61 [l0, l1, l2, l3, l4, l5, l6, l7] (.int x :: st) M = if x = 0 then EE 83 145 [l0, l1, l2, l3, l4, l5, l6, l7] st M else EE 83 64 [l0, l1, l2, l3, l4, l5, l6, l7] st M := e_eq0 d83_61 (by decide)
theorem d83_64 : decode (cod 83) 64 = .ok (.aload_n 0, 1) := by decide +kernel
theorem s83_64 {M : Mm} {st : List Value} {l1 l2 l3 l4 l5 l6 l7 : Option Value} {x : Nat} : EE 83 64 [some (.ref x), l1, l2, l3, l4, l5, l6, l7] st M = EE 83 65 [some (.ref x), l1, l2, l3, l4, l5, l6, l7] (.ref x :: st) M := e_ld d83_64 rfl rfl rfl rfl rfl rfl
theorem d83_65 : decode (cod 83) 65 = .ok (.iload 7, 2) := by decide +kernel
theorem s83_65 {M : Mm} {st : List Value} {l0 l1 l2 l3 l4 l5 l6 : Option Value} {x : Int32} : EE 83 65 [l0, l1, l2, l3, l4, l5, l6, some (.int x)] st M = EE 83 67 [l0, l1, l2, l3, l4, l5, l6, some (.int x)] (.int x :: st) M := e_ld d83_65 rfl rfl rfl rfl rfl rfl
theorem d83_67 : decode (cod 83) 67 = .ok (.invokestatic 31, 3) := by decide +kernel
theorem s83_67 {M : Mm} {l0 l1 l2 l3 l4 l5 l6 l7 : Option Value} {b0 : Nat} {b1 : Int32} {st : List Value} (hl : st.length ≤ 4) : EE 83 67 [l0, l1, l2, l3, l4, l5, l6, l7] (.int b1 :: .ref b0 :: st) M = (FF 82 [.ref b0, .int b1] M).bind (fun z => EE 83 70 [l0, l1, l2, l3, l4, l5, l6, l7] (psh z.1 st) z.2) := e_cals (av := [.ref b0, .int b1]) d83_67 c4_31 (Or.inl rfl) rfl rfl r83_82 rfl hl
theorem d83_70 : decode (cod 83) 70 = .ok (.istore 6, 2) := by decide +kernel
theorem s83_70 {M : Mm} {st : List Value} {l0 l1 l2 l3 l4 l5 l6 l7 : Option Value} {x : Int32} : EE 83 70 [l0, l1, l2, l3, l4, l5, l6, l7] (.int x :: st) M = EE 83 72 [l0, l1, l2, l3, l4, cln l5, some (.int x), l7] st M := e_st1 d83_70 rfl rfl rfl rfl rfl rfl rfl (Nat.le_of_ble_eq_true rfl) rfl
theorem d83_72 : decode (cod 83) 72 = .ok (.iload_n 2, 1) := by decide +kernel
theorem s83_72 {M : Mm} {st : List Value} {l0 l1 l3 l4 l5 l6 l7 : Option Value} {x : Int32} : EE 83 72 [l0, l1, some (.int x), l3, l4, l5, l6, l7] st M = EE 83 73 [l0, l1, some (.int x), l3, l4, l5, l6, l7] (.int x :: st) M := e_ld d83_72 rfl rfl rfl rfl rfl rfl
theorem d83_73 : decode (cod 83) 73 = .ok (.aload_n 0, 1) := by decide +kernel
theorem s83_73 {M : Mm} {st : List Value} {l1 l2 l3 l4 l5 l6 l7 : Option Value} {x : Nat} : EE 83 73 [some (.ref x), l1, l2, l3, l4, l5, l6, l7] st M = EE 83 74 [some (.ref x), l1, l2, l3, l4, l5, l6, l7] (.ref x :: st) M := e_ld d83_73 rfl rfl rfl rfl rfl rfl
theorem d83_74 : decode (cod 83) 74 = .ok (.iload 7, 2) := by decide +kernel
theorem s83_74 {M : Mm} {st : List Value} {l0 l1 l2 l3 l4 l5 l6 : Option Value} {x : Int32} : EE 83 74 [l0, l1, l2, l3, l4, l5, l6, some (.int x)] st M = EE 83 76 [l0, l1, l2, l3, l4, l5, l6, some (.int x)] (.int x :: st) M := e_ld d83_74 rfl rfl rfl rfl rfl rfl
theorem d83_76 : decode (cod 83) 76 = .ok (.iconst 0, 1) := by decide +kernel
theorem s83_76 {M : Mm} {st : List Value} {l0 l1 l2 l3 l4 l5 l6 l7 : Option Value} : EE 83 76 [l0, l1, l2, l3, l4, l5, l6, l7] st M = EE 83 77 [l0, l1, l2, l3, l4, l5, l6, l7] (.int (nI 0) :: st) M := e_con d83_76 k_con_0
theorem d83_77 : decode (cod 83) 77 = .ok (.invokevirtual 19, 3) := by decide +kernel
theorem s83_77 {l0 l1 l2 l3 l4 l5 l6 l7 : Option Value} {a : Nat} {M : Mm} {b0 : Int32} {b1 : Int32} {st : List Value} (hl : st.length ≤ 4) (ho : isO "HandoverDesk" M.1 a = true) : EE 83 77 [l0, l1, l2, l3, l4, l5, l6, l7] (.int b1 :: .int b0 :: .ref a :: st) M = (FF 59 (.ref a :: [.int b0, .int b1]) M).bind (fun z => EE 83 80 [l0, l1, l2, l3, l4, l5, l6, l7] (psh z.1 st) z.2) := e_calv (av := [.int b0, .int b1]) d83_77 c4_19 rfl rfl rfl r83_59 rfl hl ho
theorem d83_80 : decode (cod 83) 80 = .ok (.iadd, 1) := by decide +kernel
theorem s83_80 {M : Mm} {st : List Value} {l0 l1 l2 l3 l4 l5 l6 l7 : Option Value} {x y : Int32} : EE 83 80 [l0, l1, l2, l3, l4, l5, l6, l7] (.int y :: .int x :: st) M = EE 83 81 [l0, l1, l2, l3, l4, l5, l6, l7] (.int (x + y) :: st) M := e_II d83_80 rfl rfl rfl rfl rfl rfl
theorem d83_81 : decode (cod 83) 81 = .ok (.istore_n 2, 1) := by decide +kernel
theorem s83_81 {M : Mm} {st : List Value} {l0 l1 l2 l3 l4 l5 l6 l7 : Option Value} {x : Int32} : EE 83 81 [l0, l1, l2, l3, l4, l5, l6, l7] (.int x :: st) M = EE 83 82 [l0, cln l1, some (.int x), l3, l4, l5, l6, l7] st M := e_st1 d83_81 rfl rfl rfl rfl rfl rfl rfl (Nat.le_of_ble_eq_true rfl) rfl
theorem d83_82 : decode (cod 83) 82 = .ok (.iload_n 3, 1) := by decide +kernel
theorem s83_82 {M : Mm} {st : List Value} {l0 l1 l2 l4 l5 l6 l7 : Option Value} {x : Int32} : EE 83 82 [l0, l1, l2, some (.int x), l4, l5, l6, l7] st M = EE 83 83 [l0, l1, l2, some (.int x), l4, l5, l6, l7] (.int x :: st) M := e_ld d83_82 rfl rfl rfl rfl rfl rfl
theorem d83_83 : decode (cod 83) 83 = .ok (.aload_n 0, 1) := by decide +kernel
theorem s83_83 {M : Mm} {st : List Value} {l1 l2 l3 l4 l5 l6 l7 : Option Value} {x : Nat} : EE 83 83 [some (.ref x), l1, l2, l3, l4, l5, l6, l7] st M = EE 83 84 [some (.ref x), l1, l2, l3, l4, l5, l6, l7] (.ref x :: st) M := e_ld d83_83 rfl rfl rfl rfl rfl rfl
theorem d83_84 : decode (cod 83) 84 = .ok (.iload 7, 2) := by decide +kernel
theorem s83_84 {M : Mm} {st : List Value} {l0 l1 l2 l3 l4 l5 l6 : Option Value} {x : Int32} : EE 83 84 [l0, l1, l2, l3, l4, l5, l6, some (.int x)] st M = EE 83 86 [l0, l1, l2, l3, l4, l5, l6, some (.int x)] (.int x :: st) M := e_ld d83_84 rfl rfl rfl rfl rfl rfl
theorem d83_86 : decode (cod 83) 86 = .ok (.iconst 4, 1) := by decide +kernel
theorem s83_86 {M : Mm} {st : List Value} {l0 l1 l2 l3 l4 l5 l6 l7 : Option Value} : EE 83 86 [l0, l1, l2, l3, l4, l5, l6, l7] st M = EE 83 87 [l0, l1, l2, l3, l4, l5, l6, l7] (.int (nI 4) :: st) M := e_con d83_86 k_con_4
theorem d83_87 : decode (cod 83) 87 = .ok (.invokevirtual 19, 3) := by decide +kernel
theorem s83_87 {l0 l1 l2 l3 l4 l5 l6 l7 : Option Value} {a : Nat} {M : Mm} {b0 : Int32} {b1 : Int32} {st : List Value} (hl : st.length ≤ 4) (ho : isO "HandoverDesk" M.1 a = true) : EE 83 87 [l0, l1, l2, l3, l4, l5, l6, l7] (.int b1 :: .int b0 :: .ref a :: st) M = (FF 59 (.ref a :: [.int b0, .int b1]) M).bind (fun z => EE 83 90 [l0, l1, l2, l3, l4, l5, l6, l7] (psh z.1 st) z.2) := e_calv (av := [.int b0, .int b1]) d83_87 c4_19 rfl rfl rfl r83_59 rfl hl ho
theorem d83_90 : decode (cod 83) 90 = .ok (.iadd, 1) := by decide +kernel
theorem s83_90 {M : Mm} {st : List Value} {l0 l1 l2 l3 l4 l5 l6 l7 : Option Value} {x y : Int32} : EE 83 90 [l0, l1, l2, l3, l4, l5, l6, l7] (.int y :: .int x :: st) M = EE 83 91 [l0, l1, l2, l3, l4, l5, l6, l7] (.int (x + y) :: st) M := e_II d83_90 rfl rfl rfl rfl rfl rfl
theorem d83_91 : decode (cod 83) 91 = .ok (.istore_n 3, 1) := by decide +kernel
theorem s83_91 {M : Mm} {st : List Value} {l0 l1 l2 l3 l4 l5 l6 l7 : Option Value} {x : Int32} : EE 83 91 [l0, l1, l2, l3, l4, l5, l6, l7] (.int x :: st) M = EE 83 92 [l0, l1, cln l2, some (.int x), l4, l5, l6, l7] st M := e_st1 d83_91 rfl rfl rfl rfl rfl rfl rfl (Nat.le_of_ble_eq_true rfl) rfl
theorem d83_92 : decode (cod 83) 92 = .ok (.iload 5, 2) := by decide +kernel
theorem s83_92 {M : Mm} {st : List Value} {l0 l1 l2 l3 l4 l6 l7 : Option Value} {x : Int32} : EE 83 92 [l0, l1, l2, l3, l4, some (.int x), l6, l7] st M = EE 83 94 [l0, l1, l2, l3, l4, some (.int x), l6, l7] (.int x :: st) M := e_ld d83_92 rfl rfl rfl rfl rfl rfl
theorem d83_94 : decode (cod 83) 94 = .ok (.ifCond .eq 17, 3) := by decide +kernel
theorem s83_94 {M : Mm} {st : List Value} {l0 l1 l2 l3 l4 l5 l6 l7 : Option Value} {x : Int32} : EE 83 94 [l0, l1, l2, l3, l4, l5, l6, l7] (.int x :: st) M = if x = 0 then EE 83 111 [l0, l1, l2, l3, l4, l5, l6, l7] st M else EE 83 97 [l0, l1, l2, l3, l4, l5, l6, l7] st M := e_eq0 d83_94 (by decide)
theorem d83_97 : decode (cod 83) 97 = .ok (.aload_n 0, 1) := by decide +kernel
theorem s83_97 {M : Mm} {st : List Value} {l1 l2 l3 l4 l5 l6 l7 : Option Value} {x : Nat} : EE 83 97 [some (.ref x), l1, l2, l3, l4, l5, l6, l7] st M = EE 83 98 [some (.ref x), l1, l2, l3, l4, l5, l6, l7] (.ref x :: st) M := e_ld d83_97 rfl rfl rfl rfl rfl rfl
theorem d83_98 : decode (cod 83) 98 = .ok (.iload 7, 2) := by decide +kernel
theorem s83_98 {M : Mm} {st : List Value} {l0 l1 l2 l3 l4 l5 l6 : Option Value} {x : Int32} : EE 83 98 [l0, l1, l2, l3, l4, l5, l6, some (.int x)] st M = EE 83 100 [l0, l1, l2, l3, l4, l5, l6, some (.int x)] (.int x :: st) M := e_ld d83_98 rfl rfl rfl rfl rfl rfl
theorem d83_100 : decode (cod 83) 100 = .ok (.iconst 1, 1) := by decide +kernel
theorem s83_100 {M : Mm} {st : List Value} {l0 l1 l2 l3 l4 l5 l6 l7 : Option Value} : EE 83 100 [l0, l1, l2, l3, l4, l5, l6, l7] st M = EE 83 101 [l0, l1, l2, l3, l4, l5, l6, l7] (.int (nI 1) :: st) M := e_con d83_100 k_con_1
theorem d83_101 : decode (cod 83) 101 = .ok (.invokevirtual 19, 3) := by decide +kernel
theorem s83_101 {l0 l1 l2 l3 l4 l5 l6 l7 : Option Value} {a : Nat} {M : Mm} {b0 : Int32} {b1 : Int32} {st : List Value} (hl : st.length ≤ 4) (ho : isO "HandoverDesk" M.1 a = true) : EE 83 101 [l0, l1, l2, l3, l4, l5, l6, l7] (.int b1 :: .int b0 :: .ref a :: st) M = (FF 59 (.ref a :: [.int b0, .int b1]) M).bind (fun z => EE 83 104 [l0, l1, l2, l3, l4, l5, l6, l7] (psh z.1 st) z.2) := e_calv (av := [.int b0, .int b1]) d83_101 c4_19 rfl rfl rfl r83_59 rfl hl ho
theorem d83_104 : decode (cod 83) 104 = .ok (.ifCond .gt 7, 3) := by decide +kernel
theorem s83_104 {M : Mm} {st : List Value} {l0 l1 l2 l3 l4 l5 l6 l7 : Option Value} {x : Int32} : EE 83 104 [l0, l1, l2, l3, l4, l5, l6, l7] (.int x :: st) M = if 0 < x then EE 83 111 [l0, l1, l2, l3, l4, l5, l6, l7] st M else EE 83 107 [l0, l1, l2, l3, l4, l5, l6, l7] st M := e_gt0 d83_104 (by decide)
theorem d83_107 : decode (cod 83) 107 = .ok (.iconst 1, 1) := by decide +kernel
theorem s83_107 {M : Mm} {st : List Value} {l0 l1 l2 l3 l4 l5 l6 l7 : Option Value} : EE 83 107 [l0, l1, l2, l3, l4, l5, l6, l7] st M = EE 83 108 [l0, l1, l2, l3, l4, l5, l6, l7] (.int (nI 1) :: st) M := e_con d83_107 k_con_1
theorem d83_108 : decode (cod 83) 108 = .ok (.goto 4, 3) := by decide +kernel
theorem s83_108 {M : Mm} {st : List Value} {l0 l1 l2 l3 l4 l5 l6 l7 : Option Value} : EE 83 108 [l0, l1, l2, l3, l4, l5, l6, l7] st M = EE 83 112 [l0, l1, l2, l3, l4, l5, l6, l7] st M := e_goto d83_108 (by decide)
theorem d83_111 : decode (cod 83) 111 = .ok (.iconst 0, 1) := by decide +kernel
theorem s83_111 {M : Mm} {st : List Value} {l0 l1 l2 l3 l4 l5 l6 l7 : Option Value} : EE 83 111 [l0, l1, l2, l3, l4, l5, l6, l7] st M = EE 83 112 [l0, l1, l2, l3, l4, l5, l6, l7] (.int (nI 0) :: st) M := e_con d83_111 k_con_0
theorem d83_112 : decode (cod 83) 112 = .ok (.istore 5, 2) := by decide +kernel
theorem s83_112 {M : Mm} {st : List Value} {l0 l1 l2 l3 l4 l5 l6 l7 : Option Value} {x : Int32} : EE 83 112 [l0, l1, l2, l3, l4, l5, l6, l7] (.int x :: st) M = EE 83 114 [l0, l1, l2, l3, cln l4, some (.int x), l6, l7] st M := e_st1 d83_112 rfl rfl rfl rfl rfl rfl rfl (Nat.le_of_ble_eq_true rfl) rfl
theorem d83_114 : decode (cod 83) 114 = .ok (.iload 4, 2) := by decide +kernel
theorem s83_114 {M : Mm} {st : List Value} {l0 l1 l2 l3 l5 l6 l7 : Option Value} {x : Int32} : EE 83 114 [l0, l1, l2, l3, some (.int x), l5, l6, l7] st M = EE 83 116 [l0, l1, l2, l3, some (.int x), l5, l6, l7] (.int x :: st) M := e_ld d83_114 rfl rfl rfl rfl rfl rfl
theorem d83_116 : decode (cod 83) 116 = .ok (.iload 5, 2) := by decide +kernel
theorem s83_116 {M : Mm} {st : List Value} {l0 l1 l2 l3 l4 l6 l7 : Option Value} {x : Int32} : EE 83 116 [l0, l1, l2, l3, l4, some (.int x), l6, l7] st M = EE 83 118 [l0, l1, l2, l3, l4, some (.int x), l6, l7] (.int x :: st) M := e_ld d83_116 rfl rfl rfl rfl rfl rfl
theorem d83_118 : decode (cod 83) 118 = .ok (.ifCond .eq 17, 3) := by decide +kernel
theorem s83_118 {M : Mm} {st : List Value} {l0 l1 l2 l3 l4 l5 l6 l7 : Option Value} {x : Int32} : EE 83 118 [l0, l1, l2, l3, l4, l5, l6, l7] (.int x :: st) M = if x = 0 then EE 83 135 [l0, l1, l2, l3, l4, l5, l6, l7] st M else EE 83 121 [l0, l1, l2, l3, l4, l5, l6, l7] st M := e_eq0 d83_118 (by decide)
theorem d83_121 : decode (cod 83) 121 = .ok (.aload_n 0, 1) := by decide +kernel
theorem s83_121 {M : Mm} {st : List Value} {l1 l2 l3 l4 l5 l6 l7 : Option Value} {x : Nat} : EE 83 121 [some (.ref x), l1, l2, l3, l4, l5, l6, l7] st M = EE 83 122 [some (.ref x), l1, l2, l3, l4, l5, l6, l7] (.ref x :: st) M := e_ld d83_121 rfl rfl rfl rfl rfl rfl
theorem d83_122 : decode (cod 83) 122 = .ok (.iload 7, 2) := by decide +kernel
theorem s83_122 {M : Mm} {st : List Value} {l0 l1 l2 l3 l4 l5 l6 : Option Value} {x : Int32} : EE 83 122 [l0, l1, l2, l3, l4, l5, l6, some (.int x)] st M = EE 83 124 [l0, l1, l2, l3, l4, l5, l6, some (.int x)] (.int x :: st) M := e_ld d83_122 rfl rfl rfl rfl rfl rfl
theorem d83_124 : decode (cod 83) 124 = .ok (.iconst 1, 1) := by decide +kernel
theorem s83_124 {M : Mm} {st : List Value} {l0 l1 l2 l3 l4 l5 l6 l7 : Option Value} : EE 83 124 [l0, l1, l2, l3, l4, l5, l6, l7] st M = EE 83 125 [l0, l1, l2, l3, l4, l5, l6, l7] (.int (nI 1) :: st) M := e_con d83_124 k_con_1
theorem d83_125 : decode (cod 83) 125 = .ok (.invokevirtual 19, 3) := by decide +kernel
theorem s83_125 {l0 l1 l2 l3 l4 l5 l6 l7 : Option Value} {a : Nat} {M : Mm} {b0 : Int32} {b1 : Int32} {st : List Value} (hl : st.length ≤ 4) (ho : isO "HandoverDesk" M.1 a = true) : EE 83 125 [l0, l1, l2, l3, l4, l5, l6, l7] (.int b1 :: .int b0 :: .ref a :: st) M = (FF 59 (.ref a :: [.int b0, .int b1]) M).bind (fun z => EE 83 128 [l0, l1, l2, l3, l4, l5, l6, l7] (psh z.1 st) z.2) := e_calv (av := [.int b0, .int b1]) d83_125 c4_19 rfl rfl rfl r83_59 rfl hl ho
theorem d83_128 : decode (cod 83) 128 = .ok (.ifCond .ne 7, 3) := by decide +kernel
theorem s83_128 {M : Mm} {st : List Value} {l0 l1 l2 l3 l4 l5 l6 l7 : Option Value} {x : Int32} : EE 83 128 [l0, l1, l2, l3, l4, l5, l6, l7] (.int x :: st) M = if x = 0 then EE 83 131 [l0, l1, l2, l3, l4, l5, l6, l7] st M else EE 83 135 [l0, l1, l2, l3, l4, l5, l6, l7] st M := e_ne0 d83_128 (by decide)
theorem d83_131 : decode (cod 83) 131 = .ok (.iconst 1, 1) := by decide +kernel
theorem s83_131 {M : Mm} {st : List Value} {l0 l1 l2 l3 l4 l5 l6 l7 : Option Value} : EE 83 131 [l0, l1, l2, l3, l4, l5, l6, l7] st M = EE 83 132 [l0, l1, l2, l3, l4, l5, l6, l7] (.int (nI 1) :: st) M := e_con d83_131 k_con_1
theorem d83_132 : decode (cod 83) 132 = .ok (.goto 4, 3) := by decide +kernel
theorem s83_132 {M : Mm} {st : List Value} {l0 l1 l2 l3 l4 l5 l6 l7 : Option Value} : EE 83 132 [l0, l1, l2, l3, l4, l5, l6, l7] st M = EE 83 136 [l0, l1, l2, l3, l4, l5, l6, l7] st M := e_goto d83_132 (by decide)
theorem d83_135 : decode (cod 83) 135 = .ok (.iconst 0, 1) := by decide +kernel
theorem s83_135 {M : Mm} {st : List Value} {l0 l1 l2 l3 l4 l5 l6 l7 : Option Value} : EE 83 135 [l0, l1, l2, l3, l4, l5, l6, l7] st M = EE 83 136 [l0, l1, l2, l3, l4, l5, l6, l7] (.int (nI 0) :: st) M := e_con d83_135 k_con_0
theorem d83_136 : decode (cod 83) 136 = .ok (.iadd, 1) := by decide +kernel
theorem s83_136 {M : Mm} {st : List Value} {l0 l1 l2 l3 l4 l5 l6 l7 : Option Value} {x y : Int32} : EE 83 136 [l0, l1, l2, l3, l4, l5, l6, l7] (.int y :: .int x :: st) M = EE 83 137 [l0, l1, l2, l3, l4, l5, l6, l7] (.int (x + y) :: st) M := e_II d83_136 rfl rfl rfl rfl rfl rfl
theorem d83_137 : decode (cod 83) 137 = .ok (.istore 4, 2) := by decide +kernel
theorem s83_137 {M : Mm} {st : List Value} {l0 l1 l2 l3 l4 l5 l6 l7 : Option Value} {x : Int32} : EE 83 137 [l0, l1, l2, l3, l4, l5, l6, l7] (.int x :: st) M = EE 83 139 [l0, l1, l2, cln l3, some (.int x), l5, l6, l7] st M := e_st1 d83_137 rfl rfl rfl rfl rfl rfl rfl (Nat.le_of_ble_eq_true rfl) rfl
theorem d83_139 : decode (cod 83) 139 = .ok (.iinc 7 1, 3) := by decide +kernel
theorem s83_139 {M : Mm} {st : List Value} {l0 l1 l2 l3 l4 l5 l6 : Option Value} {x : Int32} : EE 83 139 [l0, l1, l2, l3, l4, l5, l6, some (.int x)] st M = EE 83 142 [l0, l1, l2, l3, l4, l5, cln l6, some (.int (x + nI 1))] st M := e_iinc d83_139 rfl (congrArg (fun z => x + z) k_inc_1) rfl
theorem d83_142 : decode (cod 83) 142 = .ok (.goto (-89), 3) := by decide +kernel
theorem s83_142 {M : Mm} {st : List Value} {l0 l1 l2 l3 l4 l5 l6 l7 : Option Value} : EE 83 142 [l0, l1, l2, l3, l4, l5, l6, l7] st M = EE 83 53 [l0, l1, l2, l3, l4, l5, l6, l7] st M := e_goto d83_142 (by decide)
theorem d83_145 : decode (cod 83) 145 = .ok (.iload 6, 2) := by decide +kernel
theorem s83_145 {M : Mm} {st : List Value} {l0 l1 l2 l3 l4 l5 l7 : Option Value} {x : Int32} : EE 83 145 [l0, l1, l2, l3, l4, l5, some (.int x), l7] st M = EE 83 147 [l0, l1, l2, l3, l4, l5, some (.int x), l7] (.int x :: st) M := e_ld d83_145 rfl rfl rfl rfl rfl rfl
theorem d83_147 : decode (cod 83) 147 = .ok (.ifCond .eq 48, 3) := by decide +kernel
theorem s83_147 {M : Mm} {st : List Value} {l0 l1 l2 l3 l4 l5 l6 l7 : Option Value} {x : Int32} : EE 83 147 [l0, l1, l2, l3, l4, l5, l6, l7] (.int x :: st) M = if x = 0 then EE 83 195 [l0, l1, l2, l3, l4, l5, l6, l7] st M else EE 83 150 [l0, l1, l2, l3, l4, l5, l6, l7] st M := e_eq0 d83_147 (by decide)
theorem d83_150 : decode (cod 83) 150 = .ok (.aload_n 0, 1) := by decide +kernel
theorem s83_150 {M : Mm} {st : List Value} {l1 l2 l3 l4 l5 l6 l7 : Option Value} {x : Nat} : EE 83 150 [some (.ref x), l1, l2, l3, l4, l5, l6, l7] st M = EE 83 151 [some (.ref x), l1, l2, l3, l4, l5, l6, l7] (.ref x :: st) M := e_ld d83_150 rfl rfl rfl rfl rfl rfl
theorem d83_151 : decode (cod 83) 151 = .ok (.iconst 3, 1) := by decide +kernel
theorem s83_151 {M : Mm} {st : List Value} {l0 l1 l2 l3 l4 l5 l6 l7 : Option Value} : EE 83 151 [l0, l1, l2, l3, l4, l5, l6, l7] st M = EE 83 152 [l0, l1, l2, l3, l4, l5, l6, l7] (.int (nI 3) :: st) M := e_con d83_151 k_con_3
theorem d83_152 : decode (cod 83) 152 = .ok (.invokevirtual 15, 3) := by decide +kernel
theorem s83_152 {l0 l1 l2 l3 l4 l5 l6 l7 : Option Value} {a : Nat} {M : Mm} {b0 : Int32} {st : List Value} (hl : st.length ≤ 4) (ho : isO "HandoverDesk" M.1 a = true) : EE 83 152 [l0, l1, l2, l3, l4, l5, l6, l7] (.int b0 :: .ref a :: st) M = (FF 61 (.ref a :: [.int b0]) M).bind (fun z => EE 83 155 [l0, l1, l2, l3, l4, l5, l6, l7] (psh z.1 st) z.2) := e_calv (av := [.int b0]) d83_152 c4_15 rfl rfl rfl r83_61 rfl hl ho
theorem d83_155 : decode (cod 83) 155 = .ok (.iload_n 2, 1) := by decide +kernel
theorem s83_155 {M : Mm} {st : List Value} {l0 l1 l3 l4 l5 l6 l7 : Option Value} {x : Int32} : EE 83 155 [l0, l1, some (.int x), l3, l4, l5, l6, l7] st M = EE 83 156 [l0, l1, some (.int x), l3, l4, l5, l6, l7] (.int x :: st) M := e_ld d83_155 rfl rfl rfl rfl rfl rfl
theorem d83_156 : decode (cod 83) 156 = .ok (.if_icmp .ne 39, 3) := by decide +kernel
theorem s83_156 {M : Mm} {st : List Value} {l0 l1 l2 l3 l4 l5 l6 l7 : Option Value} {x y : Int32} : EE 83 156 [l0, l1, l2, l3, l4, l5, l6, l7] (.int y :: .int x :: st) M = if x = y then EE 83 159 [l0, l1, l2, l3, l4, l5, l6, l7] st M else EE 83 195 [l0, l1, l2, l3, l4, l5, l6, l7] st M := e_cne d83_156 (by decide)
theorem d83_159 : decode (cod 83) 159 = .ok (.aload_n 0, 1) := by decide +kernel
theorem s83_159 {M : Mm} {st : List Value} {l1 l2 l3 l4 l5 l6 l7 : Option Value} {x : Nat} : EE 83 159 [some (.ref x), l1, l2, l3, l4, l5, l6, l7] st M = EE 83 160 [some (.ref x), l1, l2, l3, l4, l5, l6, l7] (.ref x :: st) M := e_ld d83_159 rfl rfl rfl rfl rfl rfl
theorem d83_160 : decode (cod 83) 160 = .ok (.iconst 4, 1) := by decide +kernel
theorem s83_160 {M : Mm} {st : List Value} {l0 l1 l2 l3 l4 l5 l6 l7 : Option Value} : EE 83 160 [l0, l1, l2, l3, l4, l5, l6, l7] st M = EE 83 161 [l0, l1, l2, l3, l4, l5, l6, l7] (.int (nI 4) :: st) M := e_con d83_160 k_con_4
theorem d83_161 : decode (cod 83) 161 = .ok (.invokevirtual 15, 3) := by decide +kernel
theorem s83_161 {l0 l1 l2 l3 l4 l5 l6 l7 : Option Value} {a : Nat} {M : Mm} {b0 : Int32} {st : List Value} (hl : st.length ≤ 4) (ho : isO "HandoverDesk" M.1 a = true) : EE 83 161 [l0, l1, l2, l3, l4, l5, l6, l7] (.int b0 :: .ref a :: st) M = (FF 61 (.ref a :: [.int b0]) M).bind (fun z => EE 83 164 [l0, l1, l2, l3, l4, l5, l6, l7] (psh z.1 st) z.2) := e_calv (av := [.int b0]) d83_161 c4_15 rfl rfl rfl r83_61 rfl hl ho
theorem d83_164 : decode (cod 83) 164 = .ok (.iload_n 3, 1) := by decide +kernel
theorem s83_164 {M : Mm} {st : List Value} {l0 l1 l2 l4 l5 l6 l7 : Option Value} {x : Int32} : EE 83 164 [l0, l1, l2, some (.int x), l4, l5, l6, l7] st M = EE 83 165 [l0, l1, l2, some (.int x), l4, l5, l6, l7] (.int x :: st) M := e_ld d83_164 rfl rfl rfl rfl rfl rfl
theorem d83_165 : decode (cod 83) 165 = .ok (.if_icmp .ne 30, 3) := by decide +kernel
theorem s83_165 {M : Mm} {st : List Value} {l0 l1 l2 l3 l4 l5 l6 l7 : Option Value} {x y : Int32} : EE 83 165 [l0, l1, l2, l3, l4, l5, l6, l7] (.int y :: .int x :: st) M = if x = y then EE 83 168 [l0, l1, l2, l3, l4, l5, l6, l7] st M else EE 83 195 [l0, l1, l2, l3, l4, l5, l6, l7] st M := e_cne d83_165 (by decide)
theorem d83_168 : decode (cod 83) 168 = .ok (.aload_n 0, 1) := by decide +kernel
theorem s83_168 {M : Mm} {st : List Value} {l1 l2 l3 l4 l5 l6 l7 : Option Value} {x : Nat} : EE 83 168 [some (.ref x), l1, l2, l3, l4, l5, l6, l7] st M = EE 83 169 [some (.ref x), l1, l2, l3, l4, l5, l6, l7] (.ref x :: st) M := e_ld d83_168 rfl rfl rfl rfl rfl rfl
theorem d83_169 : decode (cod 83) 169 = .ok (.bipush 6, 2) := by decide +kernel
theorem s83_169 {M : Mm} {st : List Value} {l0 l1 l2 l3 l4 l5 l6 l7 : Option Value} : EE 83 169 [l0, l1, l2, l3, l4, l5, l6, l7] st M = EE 83 171 [l0, l1, l2, l3, l4, l5, l6, l7] (.int (nI 6) :: st) M := e_bip d83_169 k_bip_6
theorem d83_171 : decode (cod 83) 171 = .ok (.invokevirtual 15, 3) := by decide +kernel
theorem s83_171 {l0 l1 l2 l3 l4 l5 l6 l7 : Option Value} {a : Nat} {M : Mm} {b0 : Int32} {st : List Value} (hl : st.length ≤ 4) (ho : isO "HandoverDesk" M.1 a = true) : EE 83 171 [l0, l1, l2, l3, l4, l5, l6, l7] (.int b0 :: .ref a :: st) M = (FF 61 (.ref a :: [.int b0]) M).bind (fun z => EE 83 174 [l0, l1, l2, l3, l4, l5, l6, l7] (psh z.1 st) z.2) := e_calv (av := [.int b0]) d83_171 c4_15 rfl rfl rfl r83_61 rfl hl ho
theorem d83_174 : decode (cod 83) 174 = .ok (.aload_n 0, 1) := by decide +kernel
theorem s83_174 {M : Mm} {st : List Value} {l1 l2 l3 l4 l5 l6 l7 : Option Value} {x : Nat} : EE 83 174 [some (.ref x), l1, l2, l3, l4, l5, l6, l7] st M = EE 83 175 [some (.ref x), l1, l2, l3, l4, l5, l6, l7] (.ref x :: st) M := e_ld d83_174 rfl rfl rfl rfl rfl rfl
theorem d83_175 : decode (cod 83) 175 = .ok (.iconst 5, 1) := by decide +kernel
theorem s83_175 {M : Mm} {st : List Value} {l0 l1 l2 l3 l4 l5 l6 l7 : Option Value} : EE 83 175 [l0, l1, l2, l3, l4, l5, l6, l7] st M = EE 83 176 [l0, l1, l2, l3, l4, l5, l6, l7] (.int (nI 5) :: st) M := e_con d83_175 k_con_5
theorem d83_176 : decode (cod 83) 176 = .ok (.invokevirtual 15, 3) := by decide +kernel
theorem s83_176 {l0 l1 l2 l3 l4 l5 l6 l7 : Option Value} {a : Nat} {M : Mm} {b0 : Int32} {st : List Value} (hl : st.length ≤ 4) (ho : isO "HandoverDesk" M.1 a = true) : EE 83 176 [l0, l1, l2, l3, l4, l5, l6, l7] (.int b0 :: .ref a :: st) M = (FF 61 (.ref a :: [.int b0]) M).bind (fun z => EE 83 179 [l0, l1, l2, l3, l4, l5, l6, l7] (psh z.1 st) z.2) := e_calv (av := [.int b0]) d83_176 c4_15 rfl rfl rfl r83_61 rfl hl ho
theorem d83_179 : decode (cod 83) 179 = .ok (.if_icmp .gt 16, 3) := by decide +kernel
theorem s83_179 {M : Mm} {st : List Value} {l0 l1 l2 l3 l4 l5 l6 l7 : Option Value} {x y : Int32} : EE 83 179 [l0, l1, l2, l3, l4, l5, l6, l7] (.int y :: .int x :: st) M = if y < x then EE 83 195 [l0, l1, l2, l3, l4, l5, l6, l7] st M else EE 83 182 [l0, l1, l2, l3, l4, l5, l6, l7] st M := e_cgt d83_179 (by decide)
theorem d83_182 : decode (cod 83) 182 = .ok (.aload_n 0, 1) := by decide +kernel
theorem s83_182 {M : Mm} {st : List Value} {l1 l2 l3 l4 l5 l6 l7 : Option Value} {x : Nat} : EE 83 182 [some (.ref x), l1, l2, l3, l4, l5, l6, l7] st M = EE 83 183 [some (.ref x), l1, l2, l3, l4, l5, l6, l7] (.ref x :: st) M := e_ld d83_182 rfl rfl rfl rfl rfl rfl
theorem d83_183 : decode (cod 83) 183 = .ok (.invokevirtual 37, 3) := by decide +kernel
theorem s83_183 {l0 l1 l2 l3 l4 l5 l6 l7 : Option Value} {a : Nat} {M : Mm} {st : List Value} (hl : st.length ≤ 4) (ho : isO "HandoverDesk" M.1 a = true) : EE 83 183 [l0, l1, l2, l3, l4, l5, l6, l7] (.ref a :: st) M = (FF 63 (.ref a :: []) M).bind (fun z => EE 83 186 [l0, l1, l2, l3, l4, l5, l6, l7] (psh z.1 st) z.2) := e_calv (av := []) d83_183 c4_37 rfl rfl rfl r83_63 rfl hl ho
theorem d83_186 : decode (cod 83) 186 = .ok (.iload 4, 2) := by decide +kernel
theorem s83_186 {M : Mm} {st : List Value} {l0 l1 l2 l3 l5 l6 l7 : Option Value} {x : Int32} : EE 83 186 [l0, l1, l2, l3, some (.int x), l5, l6, l7] st M = EE 83 188 [l0, l1, l2, l3, some (.int x), l5, l6, l7] (.int x :: st) M := e_ld d83_186 rfl rfl rfl rfl rfl rfl
theorem d83_188 : decode (cod 83) 188 = .ok (.if_icmp .ne 7, 3) := by decide +kernel
theorem s83_188 {M : Mm} {st : List Value} {l0 l1 l2 l3 l4 l5 l6 l7 : Option Value} {x y : Int32} : EE 83 188 [l0, l1, l2, l3, l4, l5, l6, l7] (.int y :: .int x :: st) M = if x = y then EE 83 191 [l0, l1, l2, l3, l4, l5, l6, l7] st M else EE 83 195 [l0, l1, l2, l3, l4, l5, l6, l7] st M := e_cne d83_188 (by decide)
theorem d83_191 : decode (cod 83) 191 = .ok (.iconst 1, 1) := by decide +kernel
theorem s83_191 {M : Mm} {st : List Value} {l0 l1 l2 l3 l4 l5 l6 l7 : Option Value} : EE 83 191 [l0, l1, l2, l3, l4, l5, l6, l7] st M = EE 83 192 [l0, l1, l2, l3, l4, l5, l6, l7] (.int (nI 1) :: st) M := e_con d83_191 k_con_1
theorem d83_192 : decode (cod 83) 192 = .ok (.goto 4, 3) := by decide +kernel
theorem s83_192 {M : Mm} {st : List Value} {l0 l1 l2 l3 l4 l5 l6 l7 : Option Value} : EE 83 192 [l0, l1, l2, l3, l4, l5, l6, l7] st M = EE 83 196 [l0, l1, l2, l3, l4, l5, l6, l7] st M := e_goto d83_192 (by decide)
theorem d83_195 : decode (cod 83) 195 = .ok (.iconst 0, 1) := by decide +kernel
theorem s83_195 {M : Mm} {st : List Value} {l0 l1 l2 l3 l4 l5 l6 l7 : Option Value} : EE 83 195 [l0, l1, l2, l3, l4, l5, l6, l7] st M = EE 83 196 [l0, l1, l2, l3, l4, l5, l6, l7] (.int (nI 0) :: st) M := e_con d83_195 k_con_0
theorem d83_196 : decode (cod 83) 196 = .ok (.istore 6, 2) := by decide +kernel
theorem s83_196 {M : Mm} {st : List Value} {l0 l1 l2 l3 l4 l5 l6 l7 : Option Value} {x : Int32} : EE 83 196 [l0, l1, l2, l3, l4, l5, l6, l7] (.int x :: st) M = EE 83 198 [l0, l1, l2, l3, l4, cln l5, some (.int x), l7] st M := e_st1 d83_196 rfl rfl rfl rfl rfl rfl rfl (Nat.le_of_ble_eq_true rfl) rfl
theorem d83_198 : decode (cod 83) 198 = .ok (.iconst 0, 1) := by decide +kernel
theorem s83_198 {M : Mm} {st : List Value} {l0 l1 l2 l3 l4 l5 l6 l7 : Option Value} : EE 83 198 [l0, l1, l2, l3, l4, l5, l6, l7] st M = EE 83 199 [l0, l1, l2, l3, l4, l5, l6, l7] (.int (nI 0) :: st) M := e_con d83_198 k_con_0
theorem d83_199 : decode (cod 83) 199 = .ok (.istore 7, 2) := by decide +kernel
theorem s83_199 {M : Mm} {st : List Value} {l0 l1 l2 l3 l4 l5 l6 l7 : Option Value} {x : Int32} : EE 83 199 [l0, l1, l2, l3, l4, l5, l6, l7] (.int x :: st) M = EE 83 201 [l0, l1, l2, l3, l4, l5, cln l6, some (.int x)] st M := e_st1 d83_199 rfl rfl rfl rfl rfl rfl rfl (Nat.le_of_ble_eq_true rfl) rfl
theorem d83_201 : decode (cod 83) 201 = .ok (.aload_n 0, 1) := by decide +kernel
theorem s83_201 {M : Mm} {st : List Value} {l1 l2 l3 l4 l5 l6 l7 : Option Value} {x : Nat} : EE 83 201 [some (.ref x), l1, l2, l3, l4, l5, l6, l7] st M = EE 83 202 [some (.ref x), l1, l2, l3, l4, l5, l6, l7] (.ref x :: st) M := e_ld d83_201 rfl rfl rfl rfl rfl rfl
theorem d83_202 : decode (cod 83) 202 = .ok (.iload 7, 2) := by decide +kernel
theorem s83_202 {M : Mm} {st : List Value} {l0 l1 l2 l3 l4 l5 l6 : Option Value} {x : Int32} : EE 83 202 [l0, l1, l2, l3, l4, l5, l6, some (.int x)] st M = EE 83 204 [l0, l1, l2, l3, l4, l5, l6, some (.int x)] (.int x :: st) M := e_ld d83_202 rfl rfl rfl rfl rfl rfl
theorem d83_204 : decode (cod 83) 204 = .ok (.invokevirtual 22, 3) := by decide +kernel
theorem s83_204 {l0 l1 l2 l3 l4 l5 l6 l7 : Option Value} {a : Nat} {M : Mm} {b0 : Int32} {st : List Value} (hl : st.length ≤ 4) (ho : isO "HandoverDesk" M.1 a = true) : EE 83 204 [l0, l1, l2, l3, l4, l5, l6, l7] (.int b0 :: .ref a :: st) M = (FF 60 (.ref a :: [.int b0]) M).bind (fun z => EE 83 207 [l0, l1, l2, l3, l4, l5, l6, l7] (psh z.1 st) z.2) := e_calv (av := [.int b0]) d83_204 c4_22 rfl rfl rfl r83_60 rfl hl ho
theorem d83_207 : decode (cod 83) 207 = .ok (.ifCond .lt 37, 3) := by decide +kernel
theorem s83_207 {M : Mm} {st : List Value} {l0 l1 l2 l3 l4 l5 l6 l7 : Option Value} {x : Int32} : EE 83 207 [l0, l1, l2, l3, l4, l5, l6, l7] (.int x :: st) M = if x < 0 then EE 83 244 [l0, l1, l2, l3, l4, l5, l6, l7] st M else EE 83 210 [l0, l1, l2, l3, l4, l5, l6, l7] st M := e_lt0 d83_207 (by decide)
theorem d83_210 : decode (cod 83) 210 = .ok (.iload 6, 2) := by decide +kernel
theorem s83_210 {M : Mm} {st : List Value} {l0 l1 l2 l3 l4 l5 l7 : Option Value} {x : Int32} : EE 83 210 [l0, l1, l2, l3, l4, l5, some (.int x), l7] st M = EE 83 212 [l0, l1, l2, l3, l4, l5, some (.int x), l7] (.int x :: st) M := e_ld d83_210 rfl rfl rfl rfl rfl rfl
theorem d83_212 : decode (cod 83) 212 = .ok (.ifCond .eq 23, 3) := by decide +kernel
theorem s83_212 {M : Mm} {st : List Value} {l0 l1 l2 l3 l4 l5 l6 l7 : Option Value} {x : Int32} : EE 83 212 [l0, l1, l2, l3, l4, l5, l6, l7] (.int x :: st) M = if x = 0 then EE 83 235 [l0, l1, l2, l3, l4, l5, l6, l7] st M else EE 83 215 [l0, l1, l2, l3, l4, l5, l6, l7] st M := e_eq0 d83_212 (by decide)
theorem d83_215 : decode (cod 83) 215 = .ok (.aload_n 0, 1) := by decide +kernel
theorem s83_215 {M : Mm} {st : List Value} {l1 l2 l3 l4 l5 l6 l7 : Option Value} {x : Nat} : EE 83 215 [some (.ref x), l1, l2, l3, l4, l5, l6, l7] st M = EE 83 216 [some (.ref x), l1, l2, l3, l4, l5, l6, l7] (.ref x :: st) M := e_ld d83_215 rfl rfl rfl rfl rfl rfl
theorem d83_216 : decode (cod 83) 216 = .ok (.aload_n 0, 1) := by decide +kernel
theorem s83_216 {M : Mm} {st : List Value} {l1 l2 l3 l4 l5 l6 l7 : Option Value} {x : Nat} : EE 83 216 [some (.ref x), l1, l2, l3, l4, l5, l6, l7] st M = EE 83 217 [some (.ref x), l1, l2, l3, l4, l5, l6, l7] (.ref x :: st) M := e_ld d83_216 rfl rfl rfl rfl rfl rfl
theorem d83_217 : decode (cod 83) 217 = .ok (.iload 7, 2) := by decide +kernel
theorem s83_217 {M : Mm} {st : List Value} {l0 l1 l2 l3 l4 l5 l6 : Option Value} {x : Int32} : EE 83 217 [l0, l1, l2, l3, l4, l5, l6, some (.int x)] st M = EE 83 219 [l0, l1, l2, l3, l4, l5, l6, some (.int x)] (.int x :: st) M := e_ld d83_217 rfl rfl rfl rfl rfl rfl
theorem d83_219 : decode (cod 83) 219 = .ok (.invokevirtual 22, 3) := by decide +kernel
theorem s83_219 {l0 l1 l2 l3 l4 l5 l6 l7 : Option Value} {a : Nat} {M : Mm} {b0 : Int32} {st : List Value} (hl : st.length ≤ 4) (ho : isO "HandoverDesk" M.1 a = true) : EE 83 219 [l0, l1, l2, l3, l4, l5, l6, l7] (.int b0 :: .ref a :: st) M = (FF 60 (.ref a :: [.int b0]) M).bind (fun z => EE 83 222 [l0, l1, l2, l3, l4, l5, l6, l7] (psh z.1 st) z.2) := e_calv (av := [.int b0]) d83_219 c4_22 rfl rfl rfl r83_60 rfl hl ho
theorem d83_222 : decode (cod 83) 222 = .ok (.iconst 2, 1) := by decide +kernel
theorem s83_222 {M : Mm} {st : List Value} {l0 l1 l2 l3 l4 l5 l6 l7 : Option Value} : EE 83 222 [l0, l1, l2, l3, l4, l5, l6, l7] st M = EE 83 223 [l0, l1, l2, l3, l4, l5, l6, l7] (.int (nI 2) :: st) M := e_con d83_222 k_con_2
theorem d83_223 : decode (cod 83) 223 = .ok (.invokevirtual 19, 3) := by decide +kernel
theorem s83_223 {l0 l1 l2 l3 l4 l5 l6 l7 : Option Value} {a : Nat} {M : Mm} {b0 : Int32} {b1 : Int32} {st : List Value} (hl : st.length ≤ 4) (ho : isO "HandoverDesk" M.1 a = true) : EE 83 223 [l0, l1, l2, l3, l4, l5, l6, l7] (.int b1 :: .int b0 :: .ref a :: st) M = (FF 59 (.ref a :: [.int b0, .int b1]) M).bind (fun z => EE 83 226 [l0, l1, l2, l3, l4, l5, l6, l7] (psh z.1 st) z.2) := e_calv (av := [.int b0, .int b1]) d83_223 c4_19 rfl rfl rfl r83_59 rfl hl ho
theorem d83_226 : decode (cod 83) 226 = .ok (.iload 7, 2) := by decide +kernel
theorem s83_226 {M : Mm} {st : List Value} {l0 l1 l2 l3 l4 l5 l6 : Option Value} {x : Int32} : EE 83 226 [l0, l1, l2, l3, l4, l5, l6, some (.int x)] st M = EE 83 228 [l0, l1, l2, l3, l4, l5, l6, some (.int x)] (.int x :: st) M := e_ld d83_226 rfl rfl rfl rfl rfl rfl
theorem d83_228 : decode (cod 83) 228 = .ok (.if_icmp .ne 7, 3) := by decide +kernel
theorem s83_228 {M : Mm} {st : List Value} {l0 l1 l2 l3 l4 l5 l6 l7 : Option Value} {x y : Int32} : EE 83 228 [l0, l1, l2, l3, l4, l5, l6, l7] (.int y :: .int x :: st) M = if x = y then EE 83 231 [l0, l1, l2, l3, l4, l5, l6, l7] st M else EE 83 235 [l0, l1, l2, l3, l4, l5, l6, l7] st M := e_cne d83_228 (by decide)
theorem d83_231 : decode (cod 83) 231 = .ok (.iconst 1, 1) := by decide +kernel
theorem s83_231 {M : Mm} {st : List Value} {l0 l1 l2 l3 l4 l5 l6 l7 : Option Value} : EE 83 231 [l0, l1, l2, l3, l4, l5, l6, l7] st M = EE 83 232 [l0, l1, l2, l3, l4, l5, l6, l7] (.int (nI 1) :: st) M := e_con d83_231 k_con_1
theorem d83_232 : decode (cod 83) 232 = .ok (.goto 4, 3) := by decide +kernel
theorem s83_232 {M : Mm} {st : List Value} {l0 l1 l2 l3 l4 l5 l6 l7 : Option Value} : EE 83 232 [l0, l1, l2, l3, l4, l5, l6, l7] st M = EE 83 236 [l0, l1, l2, l3, l4, l5, l6, l7] st M := e_goto d83_232 (by decide)
theorem d83_235 : decode (cod 83) 235 = .ok (.iconst 0, 1) := by decide +kernel
theorem s83_235 {M : Mm} {st : List Value} {l0 l1 l2 l3 l4 l5 l6 l7 : Option Value} : EE 83 235 [l0, l1, l2, l3, l4, l5, l6, l7] st M = EE 83 236 [l0, l1, l2, l3, l4, l5, l6, l7] (.int (nI 0) :: st) M := e_con d83_235 k_con_0
theorem d83_236 : decode (cod 83) 236 = .ok (.istore 6, 2) := by decide +kernel
theorem s83_236 {M : Mm} {st : List Value} {l0 l1 l2 l3 l4 l5 l6 l7 : Option Value} {x : Int32} : EE 83 236 [l0, l1, l2, l3, l4, l5, l6, l7] (.int x :: st) M = EE 83 238 [l0, l1, l2, l3, l4, cln l5, some (.int x), l7] st M := e_st1 d83_236 rfl rfl rfl rfl rfl rfl rfl (Nat.le_of_ble_eq_true rfl) rfl
theorem d83_238 : decode (cod 83) 238 = .ok (.iinc 7 1, 3) := by decide +kernel
theorem s83_238 {M : Mm} {st : List Value} {l0 l1 l2 l3 l4 l5 l6 : Option Value} {x : Int32} : EE 83 238 [l0, l1, l2, l3, l4, l5, l6, some (.int x)] st M = EE 83 241 [l0, l1, l2, l3, l4, l5, cln l6, some (.int (x + nI 1))] st M := e_iinc d83_238 rfl (congrArg (fun z => x + z) k_inc_1) rfl
theorem d83_241 : decode (cod 83) 241 = .ok (.goto (-40), 3) := by decide +kernel
theorem s83_241 {M : Mm} {st : List Value} {l0 l1 l2 l3 l4 l5 l6 l7 : Option Value} : EE 83 241 [l0, l1, l2, l3, l4, l5, l6, l7] st M = EE 83 201 [l0, l1, l2, l3, l4, l5, l6, l7] st M := e_goto d83_241 (by decide)
theorem d83_244 : decode (cod 83) 244 = .ok (.iload 6, 2) := by decide +kernel
theorem s83_244 {M : Mm} {st : List Value} {l0 l1 l2 l3 l4 l5 l7 : Option Value} {x : Int32} : EE 83 244 [l0, l1, l2, l3, l4, l5, some (.int x), l7] st M = EE 83 246 [l0, l1, l2, l3, l4, l5, some (.int x), l7] (.int x :: st) M := e_ld d83_244 rfl rfl rfl rfl rfl rfl
theorem d83_246 : decode (cod 83) 246 = .ok (.ifCond .eq 27, 3) := by decide +kernel
theorem s83_246 {M : Mm} {st : List Value} {l0 l1 l2 l3 l4 l5 l6 l7 : Option Value} {x : Int32} : EE 83 246 [l0, l1, l2, l3, l4, l5, l6, l7] (.int x :: st) M = if x = 0 then EE 83 273 [l0, l1, l2, l3, l4, l5, l6, l7] st M else EE 83 249 [l0, l1, l2, l3, l4, l5, l6, l7] st M := e_eq0 d83_246 (by decide)
theorem d83_249 : decode (cod 83) 249 = .ok (.iload 7, 2) := by decide +kernel
theorem s83_249 {M : Mm} {st : List Value} {l0 l1 l2 l3 l4 l5 l6 : Option Value} {x : Int32} : EE 83 249 [l0, l1, l2, l3, l4, l5, l6, some (.int x)] st M = EE 83 251 [l0, l1, l2, l3, l4, l5, l6, some (.int x)] (.int x :: st) M := e_ld d83_249 rfl rfl rfl rfl rfl rfl
theorem d83_251 : decode (cod 83) 251 = .ok (.iload_n 1, 1) := by decide +kernel
theorem s83_251 {M : Mm} {st : List Value} {l0 l2 l3 l4 l5 l6 l7 : Option Value} {x : Int32} : EE 83 251 [l0, some (.int x), l2, l3, l4, l5, l6, l7] st M = EE 83 252 [l0, some (.int x), l2, l3, l4, l5, l6, l7] (.int x :: st) M := e_ld d83_251 rfl rfl rfl rfl rfl rfl
theorem d83_252 : decode (cod 83) 252 = .ok (.if_icmp .gt 21, 3) := by decide +kernel
theorem s83_252 {M : Mm} {st : List Value} {l0 l1 l2 l3 l4 l5 l6 l7 : Option Value} {x y : Int32} : EE 83 252 [l0, l1, l2, l3, l4, l5, l6, l7] (.int y :: .int x :: st) M = if y < x then EE 83 273 [l0, l1, l2, l3, l4, l5, l6, l7] st M else EE 83 255 [l0, l1, l2, l3, l4, l5, l6, l7] st M := e_cgt d83_252 (by decide)
theorem d83_255 : decode (cod 83) 255 = .ok (.iload_n 2, 1) := by decide +kernel
theorem s83_255 {M : Mm} {st : List Value} {l0 l1 l3 l4 l5 l6 l7 : Option Value} {x : Int32} : EE 83 255 [l0, l1, some (.int x), l3, l4, l5, l6, l7] st M = EE 83 256 [l0, l1, some (.int x), l3, l4, l5, l6, l7] (.int x :: st) M := e_ld d83_255 rfl rfl rfl rfl rfl rfl
theorem d83_256 : decode (cod 83) 256 = .ok (.ifCond .gt 13, 3) := by decide +kernel
theorem s83_256 {M : Mm} {st : List Value} {l0 l1 l2 l3 l4 l5 l6 l7 : Option Value} {x : Int32} : EE 83 256 [l0, l1, l2, l3, l4, l5, l6, l7] (.int x :: st) M = if 0 < x then EE 83 269 [l0, l1, l2, l3, l4, l5, l6, l7] st M else EE 83 259 [l0, l1, l2, l3, l4, l5, l6, l7] st M := e_gt0 d83_256 (by decide)
theorem d83_259 : decode (cod 83) 259 = .ok (.aload_n 0, 1) := by decide +kernel
theorem s83_259 {M : Mm} {st : List Value} {l1 l2 l3 l4 l5 l6 l7 : Option Value} {x : Nat} : EE 83 259 [some (.ref x), l1, l2, l3, l4, l5, l6, l7] st M = EE 83 260 [some (.ref x), l1, l2, l3, l4, l5, l6, l7] (.ref x :: st) M := e_ld d83_259 rfl rfl rfl rfl rfl rfl
theorem d83_260 : decode (cod 83) 260 = .ok (.iconst 0, 1) := by decide +kernel
theorem s83_260 {M : Mm} {st : List Value} {l0 l1 l2 l3 l4 l5 l6 l7 : Option Value} : EE 83 260 [l0, l1, l2, l3, l4, l5, l6, l7] st M = EE 83 261 [l0, l1, l2, l3, l4, l5, l6, l7] (.int (nI 0) :: st) M := e_con d83_260 k_con_0
theorem d83_261 : decode (cod 83) 261 = .ok (.invokevirtual 41, 3) := by decide +kernel
theorem s83_261 {l0 l1 l2 l3 l4 l5 l6 l7 : Option Value} {a : Nat} {M : Mm} {b0 : Int32} {st : List Value} (hl : st.length ≤ 4) (ho : isO "HandoverDesk" M.1 a = true) : EE 83 261 [l0, l1, l2, l3, l4, l5, l6, l7] (.int b0 :: .ref a :: st) M = (FF 66 (.ref a :: [.int b0]) M).bind (fun z => EE 83 264 [l0, l1, l2, l3, l4, l5, l6, l7] (psh z.1 st) z.2) := e_calv (av := [.int b0]) d83_261 c4_41 rfl rfl rfl r83_66 rfl hl ho
theorem d83_264 : decode (cod 83) 264 = .ok (.lconst 0, 1) := by decide +kernel
theorem s83_264 {M : Mm} {st : List Value} {l0 l1 l2 l3 l4 l5 l6 l7 : Option Value} : EE 83 264 [l0, l1, l2, l3, l4, l5, l6, l7] st M = EE 83 265 [l0, l1, l2, l3, l4, l5, l6, l7] (.long 0 :: st) M := e_psh d83_264 rfl rfl rfl
theorem d83_265 : decode (cod 83) 265 = .ok (.lcmp, 1) := by decide +kernel
theorem s83_265 {M : Mm} {st : List Value} {l0 l1 l2 l3 l4 l5 l6 l7 : Option Value} {x y : Int64} : EE 83 265 [l0, l1, l2, l3, l4, l5, l6, l7] (.long y :: .long x :: st) M = EE 83 266 [l0, l1, l2, l3, l4, l5, l6, l7] (.int (lg_cmp x y) :: st) M := e_lcmp d83_265
theorem d83_266 : decode (cod 83) 266 = .ok (.ifCond .ne 7, 3) := by decide +kernel
theorem s83_266 {M : Mm} {st : List Value} {l0 l1 l2 l3 l4 l5 l6 l7 : Option Value} {x : Int32} : EE 83 266 [l0, l1, l2, l3, l4, l5, l6, l7] (.int x :: st) M = if x = 0 then EE 83 269 [l0, l1, l2, l3, l4, l5, l6, l7] st M else EE 83 273 [l0, l1, l2, l3, l4, l5, l6, l7] st M := e_ne0 d83_266 (by decide)
theorem d83_269 : decode (cod 83) 269 = .ok (.iconst 1, 1) := by decide +kernel
theorem s83_269 {M : Mm} {st : List Value} {l0 l1 l2 l3 l4 l5 l6 l7 : Option Value} : EE 83 269 [l0, l1, l2, l3, l4, l5, l6, l7] st M = EE 83 270 [l0, l1, l2, l3, l4, l5, l6, l7] (.int (nI 1) :: st) M := e_con d83_269 k_con_1
theorem d83_270 : decode (cod 83) 270 = .ok (.goto 4, 3) := by decide +kernel
theorem s83_270 {M : Mm} {st : List Value} {l0 l1 l2 l3 l4 l5 l6 l7 : Option Value} : EE 83 270 [l0, l1, l2, l3, l4, l5, l6, l7] st M = EE 83 274 [l0, l1, l2, l3, l4, l5, l6, l7] st M := e_goto d83_270 (by decide)
theorem d83_273 : decode (cod 83) 273 = .ok (.iconst 0, 1) := by decide +kernel
theorem s83_273 {M : Mm} {st : List Value} {l0 l1 l2 l3 l4 l5 l6 l7 : Option Value} : EE 83 273 [l0, l1, l2, l3, l4, l5, l6, l7] st M = EE 83 274 [l0, l1, l2, l3, l4, l5, l6, l7] (.int (nI 0) :: st) M := e_con d83_273 k_con_0
theorem d83_274 : decode (cod 83) 274 = .ok (.ireturn, 1) := by decide +kernel
theorem s83_274 {M : Mm} {l0 l1 l2 l3 l4 l5 l6 l7 : Option Value} {v : Int32} (h : narrow .boolean (.int v) = .int v) : EE 83 274 [l0, l1, l2, l3, l4, l5, l6, l7] [.int v] M = some (some (.int v), M) := e_iret d83_274 rfl h
theorem FE83 {b0 : Nat} {M : Mm} : FF 83 [.ref b0] M = EE 83 0 [some (.ref b0), none, none, none, none, none, none, none] [] M := FF_eq 83 _ _ (Nat.le_of_ble_eq_true rfl)
theorem d84_0 : decode (cod 84) 0 = .ok (.aload_n 1, 1) := by decide +kernel
theorem s84_0 {M : Mm} {st : List Value} {l0 l2 l3 l4 l5 : Option Value} {x : Nat} : EE 84 0 [l0, some (.ref x), l2, l3, l4, l5] st M = EE 84 1 [l0, some (.ref x), l2, l3, l4, l5] (.ref x :: st) M := e_ld d84_0 rfl rfl rfl rfl rfl rfl
theorem d84_1 : decode (cod 84) 1 = .ok (.iload_n 2, 1) := by decide +kernel
theorem s84_1 {M : Mm} {st : List Value} {l0 l1 l3 l4 l5 : Option Value} {x : Int32} : EE 84 1 [l0, l1, some (.int x), l3, l4, l5] st M = EE 84 2 [l0, l1, some (.int x), l3, l4, l5] (.int x :: st) M := e_ld d84_1 rfl rfl rfl rfl rfl rfl
theorem d84_2 : decode (cod 84) 2 = .ok (.iconst 1, 1) := by decide +kernel
theorem s84_2 {M : Mm} {st : List Value} {l0 l1 l2 l3 l4 l5 : Option Value} : EE 84 2 [l0, l1, l2, l3, l4, l5] st M = EE 84 3 [l0, l1, l2, l3, l4, l5] (.int (nI 1) :: st) M := e_con d84_2 k_con_1
theorem d84_3 : decode (cod 84) 3 = .ok (.iadd, 1) := by decide +kernel
theorem s84_3 {M : Mm} {st : List Value} {l0 l1 l2 l3 l4 l5 : Option Value} {x y : Int32} : EE 84 3 [l0, l1, l2, l3, l4, l5] (.int y :: .int x :: st) M = EE 84 4 [l0, l1, l2, l3, l4, l5] (.int (x + y) :: st) M := e_II d84_3 rfl rfl rfl rfl rfl rfl
theorem d84_4 : decode (cod 84) 4 = .ok (.invokestatic 45, 3) := by decide +kernel
theorem s84_4 {M : Mm} {l0 l1 l2 l3 l4 l5 : Option Value} {b0 : Nat} {b1 : Int32} {st : List Value} (hl : st.length ≤ 4) : EE 84 4 [l0, l1, l2, l3, l4, l5] (.int b1 :: .ref b0 :: st) M = (FF 81 [.ref b0, .int b1] M).bind (fun z => EE 84 7 [l0, l1, l2, l3, l4, l5] (psh z.1 st) z.2) := e_cals (av := [.ref b0, .int b1]) d84_4 c4_45 (Or.inl rfl) rfl rfl r84_81 rfl hl
theorem d84_7 : decode (cod 84) 7 = .ok (.bipush 11, 2) := by decide +kernel
theorem s84_7 {M : Mm} {st : List Value} {l0 l1 l2 l3 l4 l5 : Option Value} : EE 84 7 [l0, l1, l2, l3, l4, l5] st M = EE 84 9 [l0, l1, l2, l3, l4, l5] (.int (nI 11) :: st) M := e_bip d84_7 k_bip_11
theorem d84_9 : decode (cod 84) 9 = .ok (.invokestatic 49, 3) := by decide +kernel
theorem s84_9 {M : Mm} {l0 l1 l2 l3 l4 l5 : Option Value} {b0 : Int32} {b1 : Int32} {st : List Value} (hl : st.length ≤ 4) : EE 84 9 [l0, l1, l2, l3, l4, l5] (.int b1 :: .int b0 :: st) M = (FF 80 [.int b0, .int b1] M).bind (fun z => EE 84 12 [l0, l1, l2, l3, l4, l5] (psh z.1 st) z.2) := e_cals (av := [.int b0, .int b1]) d84_9 c4_49 (Or.inl rfl) rfl rfl r84_80 rfl hl
theorem d84_12 : decode (cod 84) 12 = .ok (.istore_n 3, 1) := by decide +kernel
theorem s84_12 {M : Mm} {st : List Value} {l0 l1 l2 l3 l4 l5 : Option Value} {x : Int32} : EE 84 12 [l0, l1, l2, l3, l4, l5] (.int x :: st) M = EE 84 13 [l0, l1, cln l2, some (.int x), l4, l5] st M := e_st1 d84_12 rfl rfl rfl rfl rfl rfl rfl (Nat.le_of_ble_eq_true rfl) rfl
theorem d84_13 : decode (cod 84) 13 = .ok (.aload_n 1, 1) := by decide +kernel
theorem s84_13 {M : Mm} {st : List Value} {l0 l2 l3 l4 l5 : Option Value} {x : Nat} : EE 84 13 [l0, some (.ref x), l2, l3, l4, l5] st M = EE 84 14 [l0, some (.ref x), l2, l3, l4, l5] (.ref x :: st) M := e_ld d84_13 rfl rfl rfl rfl rfl rfl
theorem d84_14 : decode (cod 84) 14 = .ok (.iload_n 2, 1) := by decide +kernel
theorem s84_14 {M : Mm} {st : List Value} {l0 l1 l3 l4 l5 : Option Value} {x : Int32} : EE 84 14 [l0, l1, some (.int x), l3, l4, l5] st M = EE 84 15 [l0, l1, some (.int x), l3, l4, l5] (.int x :: st) M := e_ld d84_14 rfl rfl rfl rfl rfl rfl
theorem d84_15 : decode (cod 84) 15 = .ok (.iconst 2, 1) := by decide +kernel
theorem s84_15 {M : Mm} {st : List Value} {l0 l1 l2 l3 l4 l5 : Option Value} : EE 84 15 [l0, l1, l2, l3, l4, l5] st M = EE 84 16 [l0, l1, l2, l3, l4, l5] (.int (nI 2) :: st) M := e_con d84_15 k_con_2
theorem d84_16 : decode (cod 84) 16 = .ok (.iadd, 1) := by decide +kernel
theorem s84_16 {M : Mm} {st : List Value} {l0 l1 l2 l3 l4 l5 : Option Value} {x y : Int32} : EE 84 16 [l0, l1, l2, l3, l4, l5] (.int y :: .int x :: st) M = EE 84 17 [l0, l1, l2, l3, l4, l5] (.int (x + y) :: st) M := e_II d84_16 rfl rfl rfl rfl rfl rfl
theorem d84_17 : decode (cod 84) 17 = .ok (.invokestatic 45, 3) := by decide +kernel
theorem s84_17 {M : Mm} {l0 l1 l2 l3 l4 l5 : Option Value} {b0 : Nat} {b1 : Int32} {st : List Value} (hl : st.length ≤ 4) : EE 84 17 [l0, l1, l2, l3, l4, l5] (.int b1 :: .ref b0 :: st) M = (FF 81 [.ref b0, .int b1] M).bind (fun z => EE 84 20 [l0, l1, l2, l3, l4, l5] (psh z.1 st) z.2) := e_cals (av := [.ref b0, .int b1]) d84_17 c4_45 (Or.inl rfl) rfl rfl r84_81 rfl hl
theorem d84_20 : decode (cod 84) 20 = .ok (.bipush 7, 2) := by decide +kernel
theorem s84_20 {M : Mm} {st : List Value} {l0 l1 l2 l3 l4 l5 : Option Value} : EE 84 20 [l0, l1, l2, l3, l4, l5] st M = EE 84 22 [l0, l1, l2, l3, l4, l5] (.int (nI 7) :: st) M := e_bip d84_20 k_bip_7
theorem d84_22 : decode (cod 84) 22 = .ok (.invokestatic 49, 3) := by decide +kernel
theorem s84_22 {M : Mm} {l0 l1 l2 l3 l4 l5 : Option Value} {b0 : Int32} {b1 : Int32} {st : List Value} (hl : st.length ≤ 4) : EE 84 22 [l0, l1, l2, l3, l4, l5] (.int b1 :: .int b0 :: st) M = (FF 80 [.int b0, .int b1] M).bind (fun z => EE 84 25 [l0, l1, l2, l3, l4, l5] (psh z.1 st) z.2) := e_cals (av := [.int b0, .int b1]) d84_22 c4_49 (Or.inl rfl) rfl rfl r84_80 rfl hl
theorem d84_25 : decode (cod 84) 25 = .ok (.istore 4, 2) := by decide +kernel
theorem s84_25 {M : Mm} {st : List Value} {l0 l1 l2 l3 l4 l5 : Option Value} {x : Int32} : EE 84 25 [l0, l1, l2, l3, l4, l5] (.int x :: st) M = EE 84 27 [l0, l1, l2, cln l3, some (.int x), l5] st M := e_st1 d84_25 rfl rfl rfl rfl rfl rfl rfl (Nat.le_of_ble_eq_true rfl) rfl
theorem d84_27 : decode (cod 84) 27 = .ok (.aload_n 1, 1) := by decide +kernel
theorem s84_27 {M : Mm} {st : List Value} {l0 l2 l3 l4 l5 : Option Value} {x : Nat} : EE 84 27 [l0, some (.ref x), l2, l3, l4, l5] st M = EE 84 28 [l0, some (.ref x), l2, l3, l4, l5] (.ref x :: st) M := e_ld d84_27 rfl rfl rfl rfl rfl rfl
theorem d84_28 : decode (cod 84) 28 = .ok (.iload_n 2, 1) := by decide +kernel
theorem s84_28 {M : Mm} {st : List Value} {l0 l1 l3 l4 l5 : Option Value} {x : Int32} : EE 84 28 [l0, l1, some (.int x), l3, l4, l5] st M = EE 84 29 [l0, l1, some (.int x), l3, l4, l5] (.int x :: st) M := e_ld d84_28 rfl rfl rfl rfl rfl rfl
theorem d84_29 : decode (cod 84) 29 = .ok (.iconst 3, 1) := by decide +kernel
theorem s84_29 {M : Mm} {st : List Value} {l0 l1 l2 l3 l4 l5 : Option Value} : EE 84 29 [l0, l1, l2, l3, l4, l5] st M = EE 84 30 [l0, l1, l2, l3, l4, l5] (.int (nI 3) :: st) M := e_con d84_29 k_con_3
theorem d84_30 : decode (cod 84) 30 = .ok (.iadd, 1) := by decide +kernel
theorem s84_30 {M : Mm} {st : List Value} {l0 l1 l2 l3 l4 l5 : Option Value} {x y : Int32} : EE 84 30 [l0, l1, l2, l3, l4, l5] (.int y :: .int x :: st) M = EE 84 31 [l0, l1, l2, l3, l4, l5] (.int (x + y) :: st) M := e_II d84_30 rfl rfl rfl rfl rfl rfl
theorem d84_31 : decode (cod 84) 31 = .ok (.invokestatic 45, 3) := by decide +kernel
theorem s84_31 {M : Mm} {l0 l1 l2 l3 l4 l5 : Option Value} {b0 : Nat} {b1 : Int32} {st : List Value} (hl : st.length ≤ 4) : EE 84 31 [l0, l1, l2, l3, l4, l5] (.int b1 :: .ref b0 :: st) M = (FF 81 [.ref b0, .int b1] M).bind (fun z => EE 84 34 [l0, l1, l2, l3, l4, l5] (psh z.1 st) z.2) := e_cals (av := [.ref b0, .int b1]) d84_31 c4_45 (Or.inl rfl) rfl rfl r84_81 rfl hl
theorem d84_34 : decode (cod 84) 34 = .ok (.istore 5, 2) := by decide +kernel
theorem s84_34 {M : Mm} {st : List Value} {l0 l1 l2 l3 l4 l5 : Option Value} {x : Int32} : EE 84 34 [l0, l1, l2, l3, l4, l5] (.int x :: st) M = EE 84 36 [l0, l1, l2, l3, cln l4, some (.int x)] st M := e_st1 d84_34 rfl rfl rfl rfl rfl rfl rfl (Nat.le_of_ble_eq_true rfl) rfl
theorem d84_36 : decode (cod 84) 36 = .ok (.aload_n 1, 1) := by decide +kernel
theorem s84_36 {M : Mm} {st : List Value} {l0 l2 l3 l4 l5 : Option Value} {x : Nat} : EE 84 36 [l0, some (.ref x), l2, l3, l4, l5] st M = EE 84 37 [l0, some (.ref x), l2, l3, l4, l5] (.ref x :: st) M := e_ld d84_36 rfl rfl rfl rfl rfl rfl
theorem d84_37 : decode (cod 84) 37 = .ok (.iload_n 2, 1) := by decide +kernel
theorem s84_37 {M : Mm} {st : List Value} {l0 l1 l3 l4 l5 : Option Value} {x : Int32} : EE 84 37 [l0, l1, some (.int x), l3, l4, l5] st M = EE 84 38 [l0, l1, some (.int x), l3, l4, l5] (.int x :: st) M := e_ld d84_37 rfl rfl rfl rfl rfl rfl
theorem d84_38 : decode (cod 84) 38 = .ok (.invokestatic 45, 3) := by decide +kernel
theorem s84_38 {M : Mm} {l0 l1 l2 l3 l4 l5 : Option Value} {b0 : Nat} {b1 : Int32} {st : List Value} (hl : st.length ≤ 4) : EE 84 38 [l0, l1, l2, l3, l4, l5] (.int b1 :: .ref b0 :: st) M = (FF 81 [.ref b0, .int b1] M).bind (fun z => EE 84 41 [l0, l1, l2, l3, l4, l5] (psh z.1 st) z.2) := e_cals (av := [.ref b0, .int b1]) d84_38 c4_45 (Or.inl rfl) rfl rfl r84_81 rfl hl
theorem d84_41 : decode (cod 84) 41 = .ok (.bipush 14, 2) := by decide +kernel
theorem s84_41 {M : Mm} {st : List Value} {l0 l1 l2 l3 l4 l5 : Option Value} : EE 84 41 [l0, l1, l2, l3, l4, l5] st M = EE 84 43 [l0, l1, l2, l3, l4, l5] (.int (nI 14) :: st) M := e_bip d84_41 k_bip_14
theorem d84_43 : decode (cod 84) 43 = .ok (.invokestatic 49, 3) := by decide +kernel
theorem s84_43 {M : Mm} {l0 l1 l2 l3 l4 l5 : Option Value} {b0 : Int32} {b1 : Int32} {st : List Value} (hl : st.length ≤ 4) : EE 84 43 [l0, l1, l2, l3, l4, l5] (.int b1 :: .int b0 :: st) M = (FF 80 [.int b0, .int b1] M).bind (fun z => EE 84 46 [l0, l1, l2, l3, l4, l5] (psh z.1 st) z.2) := e_cals (av := [.int b0, .int b1]) d84_43 c4_49 (Or.inl rfl) rfl rfl r84_80 rfl hl
theorem d84_46 : decode (cod 84) 46 = .ok (.tableswitch 159 0 11 #[62, 62, 67, 73, 73, 79, 79, 94, 100, 115, 128, 154], 62) := by decide +kernel
theorem s84_46_0 {M : Mm} {st : List Value} {l0 l1 l2 l3 l4 l5 : Option Value} : EE 84 46 [l0, l1, l2, l3, l4, l5] (.int (nI 0) :: st) M = EE 84 108 [l0, l1, l2, l3, l4, l5] st M := e_tab d84_46 (by decide +kernel)
theorem s84_46_1 {M : Mm} {st : List Value} {l0 l1 l2 l3 l4 l5 : Option Value} : EE 84 46 [l0, l1, l2, l3, l4, l5] (.int (nI 1) :: st) M = EE 84 108 [l0, l1, l2, l3, l4, l5] st M := e_tab d84_46 (by decide +kernel)
theorem s84_46_2 {M : Mm} {st : List Value} {l0 l1 l2 l3 l4 l5 : Option Value} : EE 84 46 [l0, l1, l2, l3, l4, l5] (.int (nI 2) :: st) M = EE 84 113 [l0, l1, l2, l3, l4, l5] st M := e_tab d84_46 (by decide +kernel)
theorem s84_46_3 {M : Mm} {st : List Value} {l0 l1 l2 l3 l4 l5 : Option Value} : EE 84 46 [l0, l1, l2, l3, l4, l5] (.int (nI 3) :: st) M = EE 84 119 [l0, l1, l2, l3, l4, l5] st M := e_tab d84_46 (by decide +kernel)
theorem s84_46_4 {M : Mm} {st : List Value} {l0 l1 l2 l3 l4 l5 : Option Value} : EE 84 46 [l0, l1, l2, l3, l4, l5] (.int (nI 4) :: st) M = EE 84 119 [l0, l1, l2, l3, l4, l5] st M := e_tab d84_46 (by decide +kernel)
theorem s84_46_5 {M : Mm} {st : List Value} {l0 l1 l2 l3 l4 l5 : Option Value} : EE 84 46 [l0, l1, l2, l3, l4, l5] (.int (nI 5) :: st) M = EE 84 125 [l0, l1, l2, l3, l4, l5] st M := e_tab d84_46 (by decide +kernel)
theorem s84_46_6 {M : Mm} {st : List Value} {l0 l1 l2 l3 l4 l5 : Option Value} : EE 84 46 [l0, l1, l2, l3, l4, l5] (.int (nI 6) :: st) M = EE 84 125 [l0, l1, l2, l3, l4, l5] st M := e_tab d84_46 (by decide +kernel)
theorem s84_46_7 {M : Mm} {st : List Value} {l0 l1 l2 l3 l4 l5 : Option Value} : EE 84 46 [l0, l1, l2, l3, l4, l5] (.int (nI 7) :: st) M = EE 84 140 [l0, l1, l2, l3, l4, l5] st M := e_tab d84_46 (by decide +kernel)
theorem s84_46_8 {M : Mm} {st : List Value} {l0 l1 l2 l3 l4 l5 : Option Value} : EE 84 46 [l0, l1, l2, l3, l4, l5] (.int (nI 8) :: st) M = EE 84 146 [l0, l1, l2, l3, l4, l5] st M := e_tab d84_46 (by decide +kernel)
theorem s84_46_9 {M : Mm} {st : List Value} {l0 l1 l2 l3 l4 l5 : Option Value} : EE 84 46 [l0, l1, l2, l3, l4, l5] (.int (nI 9) :: st) M = EE 84 161 [l0, l1, l2, l3, l4, l5] st M := e_tab d84_46 (by decide +kernel)
theorem s84_46_10 {M : Mm} {st : List Value} {l0 l1 l2 l3 l4 l5 : Option Value} : EE 84 46 [l0, l1, l2, l3, l4, l5] (.int (nI 10) :: st) M = EE 84 174 [l0, l1, l2, l3, l4, l5] st M := e_tab d84_46 (by decide +kernel)
theorem s84_46_11 {M : Mm} {st : List Value} {l0 l1 l2 l3 l4 l5 : Option Value} : EE 84 46 [l0, l1, l2, l3, l4, l5] (.int (nI 11) :: st) M = EE 84 200 [l0, l1, l2, l3, l4, l5] st M := e_tab d84_46 (by decide +kernel)
theorem s84_46_d {M : Mm} {st : List Value} {l0 l1 l2 l3 l4 l5 : Option Value} {x : Int32} (h : x.toInt < 0 ∨ 11 < x.toInt) : EE 84 46 [l0, l1, l2, l3, l4, l5] (.int x :: st) M = EE 84 205 [l0, l1, l2, l3, l4, l5] st M := e_tab d84_46 (by rw [if_pos h]; decide +kernel)
theorem d84_108 : decode (cod 84) 108 = .ok (.aload_n 0, 1) := by decide +kernel
theorem s84_108 {M : Mm} {st : List Value} {l1 l2 l3 l4 l5 : Option Value} {x : Nat} : EE 84 108 [some (.ref x), l1, l2, l3, l4, l5] st M = EE 84 109 [some (.ref x), l1, l2, l3, l4, l5] (.ref x :: st) M := e_ld d84_108 rfl rfl rfl rfl rfl rfl
theorem d84_109 : decode (cod 84) 109 = .ok (.invokevirtual 52, 3) := by decide +kernel
theorem s84_109 {l0 l1 l2 l3 l4 l5 : Option Value} {a : Nat} {M : Mm} {st : List Value} (hl : st.length ≤ 4) (ho : isO "HandoverDesk" M.1 a = true) : EE 84 109 [l0, l1, l2, l3, l4, l5] (.ref a :: st) M = (FF 52 (.ref a :: []) M).bind (fun z => EE 84 112 [l0, l1, l2, l3, l4, l5] (psh z.1 st) z.2) := e_calv (av := []) d84_109 c4_52 rfl rfl rfl r84_52 rfl hl ho
theorem d84_112 : decode (cod 84) 112 = .ok (.ireturn, 1) := by decide +kernel
theorem s84_112 {M : Mm} {l0 l1 l2 l3 l4 l5 : Option Value} {v : Int32} : EE 84 112 [l0, l1, l2, l3, l4, l5] [.int v] M = some (some (.int v), M) := e_iret d84_112 rfl rfl
theorem d84_113 : decode (cod 84) 113 = .ok (.aload_n 0, 1) := by decide +kernel
theorem s84_113 {M : Mm} {st : List Value} {l1 l2 l3 l4 l5 : Option Value} {x : Nat} : EE 84 113 [some (.ref x), l1, l2, l3, l4, l5] st M = EE 84 114 [some (.ref x), l1, l2, l3, l4, l5] (.ref x :: st) M := e_ld d84_113 rfl rfl rfl rfl rfl rfl
theorem d84_114 : decode (cod 84) 114 = .ok (.iload_n 3, 1) := by decide +kernel
theorem s84_114 {M : Mm} {st : List Value} {l0 l1 l2 l4 l5 : Option Value} {x : Int32} : EE 84 114 [l0, l1, l2, some (.int x), l4, l5] st M = EE 84 115 [l0, l1, l2, some (.int x), l4, l5] (.int x :: st) M := e_ld d84_114 rfl rfl rfl rfl rfl rfl
theorem d84_115 : decode (cod 84) 115 = .ok (.invokevirtual 55, 3) := by decide +kernel
theorem s84_115 {l0 l1 l2 l3 l4 l5 : Option Value} {a : Nat} {M : Mm} {b0 : Int32} {st : List Value} (hl : st.length ≤ 4) (ho : isO "HandoverDesk" M.1 a = true) : EE 84 115 [l0, l1, l2, l3, l4, l5] (.int b0 :: .ref a :: st) M = (FF 53 (.ref a :: [.int b0]) M).bind (fun z => EE 84 118 [l0, l1, l2, l3, l4, l5] (psh z.1 st) z.2) := e_calv (av := [.int b0]) d84_115 c4_55 rfl rfl rfl r84_53 rfl hl ho
theorem d84_118 : decode (cod 84) 118 = .ok (.ireturn, 1) := by decide +kernel
theorem s84_118 {M : Mm} {l0 l1 l2 l3 l4 l5 : Option Value} {v : Int32} : EE 84 118 [l0, l1, l2, l3, l4, l5] [.int v] M = some (some (.int v), M) := e_iret d84_118 rfl rfl
theorem d84_119 : decode (cod 84) 119 = .ok (.aload_n 0, 1) := by decide +kernel
theorem s84_119 {M : Mm} {st : List Value} {l1 l2 l3 l4 l5 : Option Value} {x : Nat} : EE 84 119 [some (.ref x), l1, l2, l3, l4, l5] st M = EE 84 120 [some (.ref x), l1, l2, l3, l4, l5] (.ref x :: st) M := e_ld d84_119 rfl rfl rfl rfl rfl rfl
theorem d84_120 : decode (cod 84) 120 = .ok (.iload_n 3, 1) := by decide +kernel
theorem s84_120 {M : Mm} {st : List Value} {l0 l1 l2 l4 l5 : Option Value} {x : Int32} : EE 84 120 [l0, l1, l2, some (.int x), l4, l5] st M = EE 84 121 [l0, l1, l2, some (.int x), l4, l5] (.int x :: st) M := e_ld d84_120 rfl rfl rfl rfl rfl rfl
theorem d84_121 : decode (cod 84) 121 = .ok (.invokevirtual 58, 3) := by decide +kernel
theorem s84_121 {l0 l1 l2 l3 l4 l5 : Option Value} {a : Nat} {M : Mm} {b0 : Int32} {st : List Value} (hl : st.length ≤ 4) (ho : isO "HandoverDesk" M.1 a = true) : EE 84 121 [l0, l1, l2, l3, l4, l5] (.int b0 :: .ref a :: st) M = (FF 54 (.ref a :: [.int b0]) M).bind (fun z => EE 84 124 [l0, l1, l2, l3, l4, l5] (psh z.1 st) z.2) := e_calv (av := [.int b0]) d84_121 c4_58 rfl rfl rfl r84_54 rfl hl ho
theorem d84_124 : decode (cod 84) 124 = .ok (.ireturn, 1) := by decide +kernel
theorem s84_124 {M : Mm} {l0 l1 l2 l3 l4 l5 : Option Value} {v : Int32} : EE 84 124 [l0, l1, l2, l3, l4, l5] [.int v] M = some (some (.int v), M) := e_iret d84_124 rfl rfl
theorem d84_125 : decode (cod 84) 125 = .ok (.aload_n 0, 1) := by decide +kernel
theorem s84_125 {M : Mm} {st : List Value} {l1 l2 l3 l4 l5 : Option Value} {x : Nat} : EE 84 125 [some (.ref x), l1, l2, l3, l4, l5] st M = EE 84 126 [some (.ref x), l1, l2, l3, l4, l5] (.ref x :: st) M := e_ld d84_125 rfl rfl rfl rfl rfl rfl
theorem d84_126 : decode (cod 84) 126 = .ok (.iload 4, 2) := by decide +kernel
theorem s84_126 {M : Mm} {st : List Value} {l0 l1 l2 l3 l5 : Option Value} {x : Int32} : EE 84 126 [l0, l1, l2, l3, some (.int x), l5] st M = EE 84 128 [l0, l1, l2, l3, some (.int x), l5] (.int x :: st) M := e_ld d84_126 rfl rfl rfl rfl rfl rfl
theorem d84_128 : decode (cod 84) 128 = .ok (.iload_n 3, 1) := by decide +kernel
theorem s84_128 {M : Mm} {st : List Value} {l0 l1 l2 l4 l5 : Option Value} {x : Int32} : EE 84 128 [l0, l1, l2, some (.int x), l4, l5] st M = EE 84 129 [l0, l1, l2, some (.int x), l4, l5] (.int x :: st) M := e_ld d84_128 rfl rfl rfl rfl rfl rfl
theorem d84_129 : decode (cod 84) 129 = .ok (.iload 5, 2) := by decide +kernel
theorem s84_129 {M : Mm} {st : List Value} {l0 l1 l2 l3 l4 : Option Value} {x : Int32} : EE 84 129 [l0, l1, l2, l3, l4, some (.int x)] st M = EE 84 131 [l0, l1, l2, l3, l4, some (.int x)] (.int x :: st) M := e_ld d84_129 rfl rfl rfl rfl rfl rfl
theorem d84_131 : decode (cod 84) 131 = .ok (.bipush 103, 2) := by decide +kernel
theorem s84_131 {M : Mm} {st : List Value} {l0 l1 l2 l3 l4 l5 : Option Value} : EE 84 131 [l0, l1, l2, l3, l4, l5] st M = EE 84 133 [l0, l1, l2, l3, l4, l5] (.int (nI 103) :: st) M := e_bip d84_131 k_bip_103
theorem d84_133 : decode (cod 84) 133 = .ok (.invokestatic 49, 3) := by decide +kernel
theorem s84_133 {M : Mm} {l0 l1 l2 l3 l4 l5 : Option Value} {b0 : Int32} {b1 : Int32} {st : List Value} (hl : st.length ≤ 4) : EE 84 133 [l0, l1, l2, l3, l4, l5] (.int b1 :: .int b0 :: st) M = (FF 80 [.int b0, .int b1] M).bind (fun z => EE 84 136 [l0, l1, l2, l3, l4, l5] (psh z.1 st) z.2) := e_cals (av := [.int b0, .int b1]) d84_133 c4_49 (Or.inl rfl) rfl rfl r84_80 rfl hl
theorem d84_136 : decode (cod 84) 136 = .ok (.invokevirtual 61, 3) := by decide +kernel
theorem s84_136 {l0 l1 l2 l3 l4 l5 : Option Value} {a : Nat} {M : Mm} {b0 : Int32} {b1 : Int32} {b2 : Int32} {st : List Value} (hl : st.length ≤ 4) (ho : isO "HandoverDesk" M.1 a = true) : EE 84 136 [l0, l1, l2, l3, l4, l5] (.int b2 :: .int b1 :: .int b0 :: .ref a :: st) M = (FF 55 (.ref a :: [.int b0, .int b1, .int b2]) M).bind (fun z => EE 84 139 [l0, l1, l2, l3, l4, l5] (psh z.1 st) z.2) := e_calv (av := [.int b0, .int b1, .int b2]) d84_136 c4_61 rfl rfl rfl r84_55 rfl hl ho
theorem d84_139 : decode (cod 84) 139 = .ok (.ireturn, 1) := by decide +kernel
theorem s84_139 {M : Mm} {l0 l1 l2 l3 l4 l5 : Option Value} {v : Int32} : EE 84 139 [l0, l1, l2, l3, l4, l5] [.int v] M = some (some (.int v), M) := e_iret d84_139 rfl rfl
theorem d84_140 : decode (cod 84) 140 = .ok (.aload_n 0, 1) := by decide +kernel
theorem s84_140 {M : Mm} {st : List Value} {l1 l2 l3 l4 l5 : Option Value} {x : Nat} : EE 84 140 [some (.ref x), l1, l2, l3, l4, l5] st M = EE 84 141 [some (.ref x), l1, l2, l3, l4, l5] (.ref x :: st) M := e_ld d84_140 rfl rfl rfl rfl rfl rfl
theorem d84_141 : decode (cod 84) 141 = .ok (.iload_n 3, 1) := by decide +kernel
theorem s84_141 {M : Mm} {st : List Value} {l0 l1 l2 l4 l5 : Option Value} {x : Int32} : EE 84 141 [l0, l1, l2, some (.int x), l4, l5] st M = EE 84 142 [l0, l1, l2, some (.int x), l4, l5] (.int x :: st) M := e_ld d84_141 rfl rfl rfl rfl rfl rfl
theorem d84_142 : decode (cod 84) 142 = .ok (.invokevirtual 65, 3) := by decide +kernel
theorem s84_142 {l0 l1 l2 l3 l4 l5 : Option Value} {a : Nat} {M : Mm} {b0 : Int32} {st : List Value} (hl : st.length ≤ 4) (ho : isO "HandoverDesk" M.1 a = true) : EE 84 142 [l0, l1, l2, l3, l4, l5] (.int b0 :: .ref a :: st) M = (FF 56 (.ref a :: [.int b0]) M).bind (fun z => EE 84 145 [l0, l1, l2, l3, l4, l5] (psh z.1 st) z.2) := e_calv (av := [.int b0]) d84_142 c4_65 rfl rfl rfl r84_56 rfl hl ho
theorem d84_145 : decode (cod 84) 145 = .ok (.ireturn, 1) := by decide +kernel
theorem s84_145 {M : Mm} {l0 l1 l2 l3 l4 l5 : Option Value} {v : Int32} : EE 84 145 [l0, l1, l2, l3, l4, l5] [.int v] M = some (some (.int v), M) := e_iret d84_145 rfl rfl
theorem d84_146 : decode (cod 84) 146 = .ok (.aload_n 0, 1) := by decide +kernel
theorem s84_146 {M : Mm} {st : List Value} {l1 l2 l3 l4 l5 : Option Value} {x : Nat} : EE 84 146 [some (.ref x), l1, l2, l3, l4, l5] st M = EE 84 147 [some (.ref x), l1, l2, l3, l4, l5] (.ref x :: st) M := e_ld d84_146 rfl rfl rfl rfl rfl rfl
theorem d84_147 : decode (cod 84) 147 = .ok (.iload_n 3, 1) := by decide +kernel
theorem s84_147 {M : Mm} {st : List Value} {l0 l1 l2 l4 l5 : Option Value} {x : Int32} : EE 84 147 [l0, l1, l2, some (.int x), l4, l5] st M = EE 84 148 [l0, l1, l2, some (.int x), l4, l5] (.int x :: st) M := e_ld d84_147 rfl rfl rfl rfl rfl rfl
theorem d84_148 : decode (cod 84) 148 = .ok (.iload 5, 2) := by decide +kernel
theorem s84_148 {M : Mm} {st : List Value} {l0 l1 l2 l3 l4 : Option Value} {x : Int32} : EE 84 148 [l0, l1, l2, l3, l4, some (.int x)] st M = EE 84 150 [l0, l1, l2, l3, l4, some (.int x)] (.int x :: st) M := e_ld d84_148 rfl rfl rfl rfl rfl rfl
theorem d84_150 : decode (cod 84) 150 = .ok (.iconst 3, 1) := by decide +kernel
theorem s84_150 {M : Mm} {st : List Value} {l0 l1 l2 l3 l4 l5 : Option Value} : EE 84 150 [l0, l1, l2, l3, l4, l5] st M = EE 84 151 [l0, l1, l2, l3, l4, l5] (.int (nI 3) :: st) M := e_con d84_150 k_con_3
theorem d84_151 : decode (cod 84) 151 = .ok (.invokestatic 49, 3) := by decide +kernel
theorem s84_151 {M : Mm} {l0 l1 l2 l3 l4 l5 : Option Value} {b0 : Int32} {b1 : Int32} {st : List Value} (hl : st.length ≤ 4) : EE 84 151 [l0, l1, l2, l3, l4, l5] (.int b1 :: .int b0 :: st) M = (FF 80 [.int b0, .int b1] M).bind (fun z => EE 84 154 [l0, l1, l2, l3, l4, l5] (psh z.1 st) z.2) := e_cals (av := [.int b0, .int b1]) d84_151 c4_49 (Or.inl rfl) rfl rfl r84_80 rfl hl
theorem d84_154 : decode (cod 84) 154 = .ok (.iadd, 1) := by decide +kernel
theorem s84_154 {M : Mm} {st : List Value} {l0 l1 l2 l3 l4 l5 : Option Value} {x y : Int32} : EE 84 154 [l0, l1, l2, l3, l4, l5] (.int y :: .int x :: st) M = EE 84 155 [l0, l1, l2, l3, l4, l5] (.int (x + y) :: st) M := e_II d84_154 rfl rfl rfl rfl rfl rfl
theorem d84_155 : decode (cod 84) 155 = .ok (.iload 4, 2) := by decide +kernel
theorem s84_155 {M : Mm} {st : List Value} {l0 l1 l2 l3 l5 : Option Value} {x : Int32} : EE 84 155 [l0, l1, l2, l3, some (.int x), l5] st M = EE 84 157 [l0, l1, l2, l3, some (.int x), l5] (.int x :: st) M := e_ld d84_155 rfl rfl rfl rfl rfl rfl
theorem d84_157 : decode (cod 84) 157 = .ok (.invokevirtual 68, 3) := by decide +kernel
theorem s84_157 {l0 l1 l2 l3 l4 l5 : Option Value} {a : Nat} {M : Mm} {b0 : Int32} {b1 : Int32} {st : List Value} (hl : st.length ≤ 4) (ho : isO "HandoverDesk" M.1 a = true) : EE 84 157 [l0, l1, l2, l3, l4, l5] (.int b1 :: .int b0 :: .ref a :: st) M = (FF 48 (.ref a :: [.int b0, .int b1]) M).bind (fun z => EE 84 160 [l0, l1, l2, l3, l4, l5] (psh z.1 st) z.2) := e_calv (av := [.int b0, .int b1]) d84_157 c4_68 rfl rfl rfl r84_48 rfl hl ho
theorem d84_160 : decode (cod 84) 160 = .ok (.ireturn, 1) := by decide +kernel
theorem s84_160 {M : Mm} {l0 l1 l2 l3 l4 l5 : Option Value} {v : Int32} : EE 84 160 [l0, l1, l2, l3, l4, l5] [.int v] M = some (some (.int v), M) := e_iret d84_160 rfl rfl
theorem d84_161 : decode (cod 84) 161 = .ok (.aload_n 0, 1) := by decide +kernel
theorem s84_161 {M : Mm} {st : List Value} {l1 l2 l3 l4 l5 : Option Value} {x : Nat} : EE 84 161 [some (.ref x), l1, l2, l3, l4, l5] st M = EE 84 162 [some (.ref x), l1, l2, l3, l4, l5] (.ref x :: st) M := e_ld d84_161 rfl rfl rfl rfl rfl rfl
theorem d84_162 : decode (cod 84) 162 = .ok (.iload_n 3, 1) := by decide +kernel
theorem s84_162 {M : Mm} {st : List Value} {l0 l1 l2 l4 l5 : Option Value} {x : Int32} : EE 84 162 [l0, l1, l2, some (.int x), l4, l5] st M = EE 84 163 [l0, l1, l2, some (.int x), l4, l5] (.int x :: st) M := e_ld d84_162 rfl rfl rfl rfl rfl rfl
theorem d84_163 : decode (cod 84) 163 = .ok (.iload 5, 2) := by decide +kernel
theorem s84_163 {M : Mm} {st : List Value} {l0 l1 l2 l3 l4 : Option Value} {x : Int32} : EE 84 163 [l0, l1, l2, l3, l4, some (.int x)] st M = EE 84 165 [l0, l1, l2, l3, l4, some (.int x)] (.int x :: st) M := e_ld d84_163 rfl rfl rfl rfl rfl rfl
theorem d84_165 : decode (cod 84) 165 = .ok (.bipush 62, 2) := by decide +kernel
theorem s84_165 {M : Mm} {st : List Value} {l0 l1 l2 l3 l4 l5 : Option Value} : EE 84 165 [l0, l1, l2, l3, l4, l5] st M = EE 84 167 [l0, l1, l2, l3, l4, l5] (.int (nI 62) :: st) M := e_bip d84_165 k_bip_62
theorem d84_167 : decode (cod 84) 167 = .ok (.invokestatic 49, 3) := by decide +kernel
theorem s84_167 {M : Mm} {l0 l1 l2 l3 l4 l5 : Option Value} {b0 : Int32} {b1 : Int32} {st : List Value} (hl : st.length ≤ 4) : EE 84 167 [l0, l1, l2, l3, l4, l5] (.int b1 :: .int b0 :: st) M = (FF 80 [.int b0, .int b1] M).bind (fun z => EE 84 170 [l0, l1, l2, l3, l4, l5] (psh z.1 st) z.2) := e_cals (av := [.int b0, .int b1]) d84_167 c4_49 (Or.inl rfl) rfl rfl r84_80 rfl hl
theorem d84_170 : decode (cod 84) 170 = .ok (.invokevirtual 71, 3) := by decide +kernel
theorem s84_170 {l0 l1 l2 l3 l4 l5 : Option Value} {a : Nat} {M : Mm} {b0 : Int32} {b1 : Int32} {st : List Value} (hl : st.length ≤ 4) (ho : isO "HandoverDesk" M.1 a = true) : EE 84 170 [l0, l1, l2, l3, l4, l5] (.int b1 :: .int b0 :: .ref a :: st) M = (FF 51 (.ref a :: [.int b0, .int b1]) M).bind (fun z => EE 84 173 [l0, l1, l2, l3, l4, l5] (psh z.1 st) z.2) := e_calv (av := [.int b0, .int b1]) d84_170 c4_71 rfl rfl rfl r84_51 rfl hl ho
theorem d84_173 : decode (cod 84) 173 = .ok (.ireturn, 1) := by decide +kernel
theorem s84_173 {M : Mm} {l0 l1 l2 l3 l4 l5 : Option Value} {v : Int32} : EE 84 173 [l0, l1, l2, l3, l4, l5] [.int v] M = some (some (.int v), M) := e_iret d84_173 rfl rfl
theorem d84_174 : decode (cod 84) 174 = .ok (.aload_n 0, 1) := by decide +kernel
theorem s84_174 {M : Mm} {st : List Value} {l1 l2 l3 l4 l5 : Option Value} {x : Nat} : EE 84 174 [some (.ref x), l1, l2, l3, l4, l5] st M = EE 84 175 [some (.ref x), l1, l2, l3, l4, l5] (.ref x :: st) M := e_ld d84_174 rfl rfl rfl rfl rfl rfl
theorem d84_175 : decode (cod 84) 175 = .ok (.aload_n 1, 1) := by decide +kernel
theorem s84_175 {M : Mm} {st : List Value} {l0 l2 l3 l4 l5 : Option Value} {x : Nat} : EE 84 175 [l0, some (.ref x), l2, l3, l4, l5] st M = EE 84 176 [l0, some (.ref x), l2, l3, l4, l5] (.ref x :: st) M := e_ld d84_175 rfl rfl rfl rfl rfl rfl
theorem d84_176 : decode (cod 84) 176 = .ok (.iload_n 2, 1) := by decide +kernel
theorem s84_176 {M : Mm} {st : List Value} {l0 l1 l3 l4 l5 : Option Value} {x : Int32} : EE 84 176 [l0, l1, some (.int x), l3, l4, l5] st M = EE 84 177 [l0, l1, some (.int x), l3, l4, l5] (.int x :: st) M := e_ld d84_176 rfl rfl rfl rfl rfl rfl
theorem d84_177 : decode (cod 84) 177 = .ok (.iconst 1, 1) := by decide +kernel
theorem s84_177 {M : Mm} {st : List Value} {l0 l1 l2 l3 l4 l5 : Option Value} : EE 84 177 [l0, l1, l2, l3, l4, l5] st M = EE 84 178 [l0, l1, l2, l3, l4, l5] (.int (nI 1) :: st) M := e_con d84_177 k_con_1
theorem d84_178 : decode (cod 84) 178 = .ok (.iadd, 1) := by decide +kernel
theorem s84_178 {M : Mm} {st : List Value} {l0 l1 l2 l3 l4 l5 : Option Value} {x y : Int32} : EE 84 178 [l0, l1, l2, l3, l4, l5] (.int y :: .int x :: st) M = EE 84 179 [l0, l1, l2, l3, l4, l5] (.int (x + y) :: st) M := e_II d84_178 rfl rfl rfl rfl rfl rfl
theorem d84_179 : decode (cod 84) 179 = .ok (.invokestatic 45, 3) := by decide +kernel
theorem s84_179 {M : Mm} {l0 l1 l2 l3 l4 l5 : Option Value} {b0 : Nat} {b1 : Int32} {st : List Value} (hl : st.length ≤ 4) : EE 84 179 [l0, l1, l2, l3, l4, l5] (.int b1 :: .ref b0 :: st) M = (FF 81 [.ref b0, .int b1] M).bind (fun z => EE 84 182 [l0, l1, l2, l3, l4, l5] (psh z.1 st) z.2) := e_cals (av := [.ref b0, .int b1]) d84_179 c4_45 (Or.inl rfl) rfl rfl r84_81 rfl hl
theorem d84_182 : decode (cod 84) 182 = .ok (.bipush 6, 2) := by decide +kernel
theorem s84_182 {M : Mm} {st : List Value} {l0 l1 l2 l3 l4 l5 : Option Value} : EE 84 182 [l0, l1, l2, l3, l4, l5] st M = EE 84 184 [l0, l1, l2, l3, l4, l5] (.int (nI 6) :: st) M := e_bip d84_182 k_bip_6
theorem d84_184 : decode (cod 84) 184 = .ok (.invokestatic 49, 3) := by decide +kernel
theorem s84_184 {M : Mm} {l0 l1 l2 l3 l4 l5 : Option Value} {b0 : Int32} {b1 : Int32} {st : List Value} (hl : st.length ≤ 4) : EE 84 184 [l0, l1, l2, l3, l4, l5] (.int b1 :: .int b0 :: st) M = (FF 80 [.int b0, .int b1] M).bind (fun z => EE 84 187 [l0, l1, l2, l3, l4, l5] (psh z.1 st) z.2) := e_cals (av := [.int b0, .int b1]) d84_184 c4_49 (Or.inl rfl) rfl rfl r84_80 rfl hl
theorem d84_187 : decode (cod 84) 187 = .ok (.iconst 1, 1) := by decide +kernel
theorem s84_187 {M : Mm} {st : List Value} {l0 l1 l2 l3 l4 l5 : Option Value} : EE 84 187 [l0, l1, l2, l3, l4, l5] st M = EE 84 188 [l0, l1, l2, l3, l4, l5] (.int (nI 1) :: st) M := e_con d84_187 k_con_1
theorem d84_188 : decode (cod 84) 188 = .ok (.iload 5, 2) := by decide +kernel
theorem s84_188 {M : Mm} {st : List Value} {l0 l1 l2 l3 l4 : Option Value} {x : Int32} : EE 84 188 [l0, l1, l2, l3, l4, some (.int x)] st M = EE 84 190 [l0, l1, l2, l3, l4, some (.int x)] (.int x :: st) M := e_ld d84_188 rfl rfl rfl rfl rfl rfl
theorem d84_190 : decode (cod 84) 190 = .ok (.bipush 20, 2) := by decide +kernel
theorem s84_190 {M : Mm} {st : List Value} {l0 l1 l2 l3 l4 l5 : Option Value} : EE 84 190 [l0, l1, l2, l3, l4, l5] st M = EE 84 192 [l0, l1, l2, l3, l4, l5] (.int (nI 20) :: st) M := e_bip d84_190 k_bip_20
theorem d84_192 : decode (cod 84) 192 = .ok (.invokestatic 49, 3) := by decide +kernel
theorem s84_192 {M : Mm} {l0 l1 l2 l3 l4 l5 : Option Value} {b0 : Int32} {b1 : Int32} {st : List Value} (hl : st.length ≤ 4) : EE 84 192 [l0, l1, l2, l3, l4, l5] (.int b1 :: .int b0 :: st) M = (FF 80 [.int b0, .int b1] M).bind (fun z => EE 84 195 [l0, l1, l2, l3, l4, l5] (psh z.1 st) z.2) := e_cals (av := [.int b0, .int b1]) d84_192 c4_49 (Or.inl rfl) rfl rfl r84_80 rfl hl
theorem d84_195 : decode (cod 84) 195 = .ok (.iadd, 1) := by decide +kernel
theorem s84_195 {M : Mm} {st : List Value} {l0 l1 l2 l3 l4 l5 : Option Value} {x y : Int32} : EE 84 195 [l0, l1, l2, l3, l4, l5] (.int y :: .int x :: st) M = EE 84 196 [l0, l1, l2, l3, l4, l5] (.int (x + y) :: st) M := e_II d84_195 rfl rfl rfl rfl rfl rfl
theorem d84_196 : decode (cod 84) 196 = .ok (.invokevirtual 74, 3) := by decide +kernel
theorem s84_196 {l0 l1 l2 l3 l4 l5 : Option Value} {a : Nat} {M : Mm} {b0 : Int32} {b1 : Int32} {st : List Value} (hl : st.length ≤ 4) (ho : isO "HandoverDesk" M.1 a = true) : EE 84 196 [l0, l1, l2, l3, l4, l5] (.int b1 :: .int b0 :: .ref a :: st) M = (FF 44 (.ref a :: [.int b0, .int b1]) M).bind (fun z => EE 84 199 [l0, l1, l2, l3, l4, l5] (psh z.1 st) z.2) := e_calv (av := [.int b0, .int b1]) d84_196 c4_74 rfl rfl rfl r84_44 rfl hl ho
theorem d84_199 : decode (cod 84) 199 = .ok (.ireturn, 1) := by decide +kernel
theorem s84_199 {M : Mm} {l0 l1 l2 l3 l4 l5 : Option Value} {v : Int32} : EE 84 199 [l0, l1, l2, l3, l4, l5] [.int v] M = some (some (.int v), M) := e_iret d84_199 rfl rfl
theorem d84_200 : decode (cod 84) 200 = .ok (.aload_n 0, 1) := by decide +kernel
theorem s84_200 {M : Mm} {st : List Value} {l1 l2 l3 l4 l5 : Option Value} {x : Nat} : EE 84 200 [some (.ref x), l1, l2, l3, l4, l5] st M = EE 84 201 [some (.ref x), l1, l2, l3, l4, l5] (.ref x :: st) M := e_ld d84_200 rfl rfl rfl rfl rfl rfl
theorem d84_201 : decode (cod 84) 201 = .ok (.invokevirtual 77, 3) := by decide +kernel
theorem s84_201 {l0 l1 l2 l3 l4 l5 : Option Value} {a : Nat} {M : Mm} {st : List Value} (hl : st.length ≤ 4) (ho : isO "HandoverDesk" M.1 a = true) : EE 84 201 [l0, l1, l2, l3, l4, l5] (.ref a :: st) M = (FF 76 (.ref a :: []) M).bind (fun z => EE 84 204 [l0, l1, l2, l3, l4, l5] (psh z.1 st) z.2) := e_calv (av := []) d84_201 c4_77 rfl rfl rfl r84_76 rfl hl ho
theorem d84_204 : decode (cod 84) 204 = .ok (.ireturn, 1) := by decide +kernel
theorem s84_204 {M : Mm} {l0 l1 l2 l3 l4 l5 : Option Value} {v : Int32} : EE 84 204 [l0, l1, l2, l3, l4, l5] [.int v] M = some (some (.int v), M) := e_iret d84_204 rfl rfl
theorem d84_205 : decode (cod 84) 205 = .ok (.bipush (-20), 2) := by decide +kernel
theorem s84_205 {M : Mm} {st : List Value} {l0 l1 l2 l3 l4 l5 : Option Value} : EE 84 205 [l0, l1, l2, l3, l4, l5] st M = EE 84 207 [l0, l1, l2, l3, l4, l5] (.int ((-20)) :: st) M := e_bip d84_205 k_bip_m20
theorem d84_207 : decode (cod 84) 207 = .ok (.ireturn, 1) := by decide +kernel
theorem s84_207 {M : Mm} {l0 l1 l2 l3 l4 l5 : Option Value} {v : Int32} : EE 84 207 [l0, l1, l2, l3, l4, l5] [.int v] M = some (some (.int v), M) := e_iret d84_207 rfl rfl
theorem FE84 {b0 : Nat} {b1 : Nat} {b2 : Int32} {M : Mm} : FF 84 [.ref b0, .ref b1, .int b2] M = EE 84 0 [some (.ref b0), some (.ref b1), some (.int b2), none, none, none] [] M := FF_eq 84 _ _ (Nat.le_of_ble_eq_true rfl)
theorem d151_0 : decode (cod 151) 0 = .ok (.iload_n 0, 1) := by decide +kernel
theorem s151_0 {M : Mm} {st : List Value} {l1 : Option Value} {x : Int32} : EE 151 0 [some (.int x), l1] st M = EE 151 1 [some (.int x), l1] (.int x :: st) M := e_ld d151_0 rfl rfl rfl rfl rfl rfl
theorem d151_1 : decode (cod 151) 1 = .ok (.iload_n 1, 1) := by decide +kernel
theorem s151_1 {M : Mm} {st : List Value} {l0 : Option Value} {x : Int32} : EE 151 1 [l0, some (.int x)] st M = EE 151 2 [l0, some (.int x)] (.int x :: st) M := e_ld d151_1 rfl rfl rfl rfl rfl rfl
theorem d151_2 : decode (cod 151) 2 = .ok (.if_icmp .gt 7, 3) := by decide +kernel
theorem s151_2 {M : Mm} {st : List Value} {l0 l1 : Option Value} {x y : Int32} : EE 151 2 [l0, l1] (.int y :: .int x :: st) M = if y < x then EE 151 9 [l0, l1] st M else EE 151 5 [l0, l1] st M := e_cgt d151_2 (by decide)
theorem d151_5 : decode (cod 151) 5 = .ok (.iload_n 0, 1) := by decide +kernel
theorem s151_5 {M : Mm} {st : List Value} {l1 : Option Value} {x : Int32} : EE 151 5 [some (.int x), l1] st M = EE 151 6 [some (.int x), l1] (.int x :: st) M := e_ld d151_5 rfl rfl rfl rfl rfl rfl
theorem d151_6 : decode (cod 151) 6 = .ok (.goto 4, 3) := by decide +kernel
theorem s151_6 {M : Mm} {st : List Value} {l0 l1 : Option Value} : EE 151 6 [l0, l1] st M = EE 151 10 [l0, l1] st M := e_goto d151_6 (by decide)
theorem d151_9 : decode (cod 151) 9 = .ok (.iload_n 1, 1) := by decide +kernel
theorem s151_9 {M : Mm} {st : List Value} {l0 : Option Value} {x : Int32} : EE 151 9 [l0, some (.int x)] st M = EE 151 10 [l0, some (.int x)] (.int x :: st) M := e_ld d151_9 rfl rfl rfl rfl rfl rfl
theorem d151_10 : decode (cod 151) 10 = .ok (.ireturn, 1) := by decide +kernel
theorem s151_10 {M : Mm} {l0 l1 : Option Value} {v : Int32} : EE 151 10 [l0, l1] [.int v] M = some (some (.int v), M) := e_iret d151_10 rfl rfl
theorem FE151 {b0 : Int32} {b1 : Int32} {M : Mm} : FF 151 [.int b0, .int b1] M = EE 151 0 [some (.int b0), some (.int b1)] [] M := FF_eq 151 _ _ (Nat.le_of_ble_eq_true rfl)
theorem d152_0 : decode (cod 152) 0 = .ok (.iload_n 0, 1) := by decide +kernel
theorem s152_0 {M : Mm} {st : List Value} {l1 l2 : Option Value} {x : Int32} : EE 152 0 [some (.int x), l1, l2] st M = EE 152 1 [some (.int x), l1, l2] (.int x :: st) M := e_ld d152_0 rfl rfl rfl rfl rfl rfl
theorem d152_1 : decode (cod 152) 1 = .ok (.iload_n 1, 1) := by decide +kernel
theorem s152_1 {M : Mm} {st : List Value} {l0 l2 : Option Value} {x : Int32} : EE 152 1 [l0, some (.int x), l2] st M = EE 152 2 [l0, some (.int x), l2] (.int x :: st) M := e_ld d152_1 rfl rfl rfl rfl rfl rfl
theorem d152_2 : decode (cod 152) 2 = .ok (.irem, 1) := by decide +kernel
theorem s152_2 {M : Mm} {st : List Value} {l0 l1 l2 : Option Value} {x y : Nat} (h1 : x < 2 ^ 31) (h2 : 0 < y) (h3 : y < 2 ^ 31) : EE 152 2 [l0, l1, l2] (.int (nI y) :: .int (nI x) :: st) M = EE 152 3 [l0, l1, l2] (.int (nI (x % y)) :: st) M := e_remN d152_2 h1 h2 h3
theorem d152_3 : decode (cod 152) 3 = .ok (.istore_n 2, 1) := by decide +kernel
theorem s152_3 {M : Mm} {st : List Value} {l0 l1 l2 : Option Value} {x : Int32} : EE 152 3 [l0, l1, l2] (.int x :: st) M = EE 152 4 [l0, cln l1, some (.int x)] st M := e_st1 d152_3 rfl rfl rfl rfl rfl rfl rfl (Nat.le_of_ble_eq_true rfl) rfl
theorem d152_4 : decode (cod 152) 4 = .ok (.iload_n 0, 1) := by decide +kernel
theorem s152_4 {M : Mm} {st : List Value} {l1 l2 : Option Value} {x : Int32} : EE 152 4 [some (.int x), l1, l2] st M = EE 152 5 [some (.int x), l1, l2] (.int x :: st) M := e_ld d152_4 rfl rfl rfl rfl rfl rfl
theorem d152_5 : decode (cod 152) 5 = .ok (.iload_n 1, 1) := by decide +kernel
theorem s152_5 {M : Mm} {st : List Value} {l0 l2 : Option Value} {x : Int32} : EE 152 5 [l0, some (.int x), l2] st M = EE 152 6 [l0, some (.int x), l2] (.int x :: st) M := e_ld d152_5 rfl rfl rfl rfl rfl rfl
theorem d152_6 : decode (cod 152) 6 = .ok (.ixor, 1) := by decide +kernel
theorem s152_6 {M : Mm} {st : List Value} {l0 l1 l2 : Option Value} {x y : Int32} : EE 152 6 [l0, l1, l2] (.int y :: .int x :: st) M = EE 152 7 [l0, l1, l2] (.int (x ^^^ y) :: st) M := e_II d152_6 rfl rfl rfl rfl rfl rfl
theorem d152_7 : decode (cod 152) 7 = .ok (.ifCond .ge 11, 3) := by decide +kernel
theorem s152_7 {M : Mm} {st : List Value} {l0 l1 l2 : Option Value} {x : Int32} : EE 152 7 [l0, l1, l2] (.int x :: st) M = if 0 ≤ x then EE 152 18 [l0, l1, l2] st M else EE 152 10 [l0, l1, l2] st M := e_ge0 d152_7 (by decide)
theorem d152_10 : decode (cod 152) 10 = .ok (.iload_n 2, 1) := by decide +kernel
theorem s152_10 {M : Mm} {st : List Value} {l0 l1 : Option Value} {x : Int32} : EE 152 10 [l0, l1, some (.int x)] st M = EE 152 11 [l0, l1, some (.int x)] (.int x :: st) M := e_ld d152_10 rfl rfl rfl rfl rfl rfl
theorem d152_11 : decode (cod 152) 11 = .ok (.ifCond .eq 7, 3) := by decide +kernel
theorem s152_11 {M : Mm} {st : List Value} {l0 l1 l2 : Option Value} {x : Int32} : EE 152 11 [l0, l1, l2] (.int x :: st) M = if x = 0 then EE 152 18 [l0, l1, l2] st M else EE 152 14 [l0, l1, l2] st M := e_eq0 d152_11 (by decide)
theorem d152_14 : decode (cod 152) 14 = .ok (.iload_n 2, 1) := by decide +kernel
theorem s152_14 {M : Mm} {st : List Value} {l0 l1 : Option Value} {x : Int32} : EE 152 14 [l0, l1, some (.int x)] st M = EE 152 15 [l0, l1, some (.int x)] (.int x :: st) M := e_ld d152_14 rfl rfl rfl rfl rfl rfl
theorem d152_15 : decode (cod 152) 15 = .ok (.iload_n 1, 1) := by decide +kernel
theorem s152_15 {M : Mm} {st : List Value} {l0 l2 : Option Value} {x : Int32} : EE 152 15 [l0, some (.int x), l2] st M = EE 152 16 [l0, some (.int x), l2] (.int x :: st) M := e_ld d152_15 rfl rfl rfl rfl rfl rfl
theorem d152_16 : decode (cod 152) 16 = .ok (.iadd, 1) := by decide +kernel
theorem s152_16 {M : Mm} {st : List Value} {l0 l1 l2 : Option Value} {x y : Int32} : EE 152 16 [l0, l1, l2] (.int y :: .int x :: st) M = EE 152 17 [l0, l1, l2] (.int (x + y) :: st) M := e_II d152_16 rfl rfl rfl rfl rfl rfl
theorem d152_17 : decode (cod 152) 17 = .ok (.ireturn, 1) := by decide +kernel
theorem s152_17 {M : Mm} {l0 l1 l2 : Option Value} {v : Int32} : EE 152 17 [l0, l1, l2] [.int v] M = some (some (.int v), M) := e_iret d152_17 rfl rfl
theorem d152_18 : decode (cod 152) 18 = .ok (.iload_n 2, 1) := by decide +kernel
theorem s152_18 {M : Mm} {st : List Value} {l0 l1 : Option Value} {x : Int32} : EE 152 18 [l0, l1, some (.int x)] st M = EE 152 19 [l0, l1, some (.int x)] (.int x :: st) M := e_ld d152_18 rfl rfl rfl rfl rfl rfl
theorem d152_19 : decode (cod 152) 19 = .ok (.ireturn, 1) := by decide +kernel
theorem s152_19 {M : Mm} {l0 l1 l2 : Option Value} {v : Int32} : EE 152 19 [l0, l1, l2] [.int v] M = some (some (.int v), M) := e_iret d152_19 rfl rfl
theorem FE152 {b0 : Int32} {b1 : Int32} {M : Mm} : FF 152 [.int b0, .int b1] M = EE 152 0 [some (.int b0), some (.int b1), none] [] M := FF_eq 152 _ _ (Nat.le_of_ble_eq_true rfl)
theorem d154_0 : decode (cod 154) 0 = .ok (.iload_n 0, 1) := by decide +kernel
theorem s154_0 {M : Mm} {st : List Value} {x : Int32} : EE 154 0 [some (.int x)] st M = EE 154 1 [some (.int x)] (.int x :: st) M := e_ld d154_0 rfl rfl rfl rfl rfl rfl
theorem d154_1 : decode (cod 154) 1 = .ok (.iload_n 0, 1) := by decide +kernel
theorem s154_1 {M : Mm} {st : List Value} {x : Int32} : EE 154 1 [some (.int x)] st M = EE 154 2 [some (.int x)] (.int x :: st) M := e_ld d154_1 rfl rfl rfl rfl rfl rfl
theorem d154_2 : decode (cod 154) 2 = .ok (.iconst 1, 1) := by decide +kernel
theorem s154_2 {M : Mm} {st : List Value} {l0 : Option Value} : EE 154 2 [l0] st M = EE 154 3 [l0] (.int (nI 1) :: st) M := e_con d154_2 k_con_1
theorem d154_3 : decode (cod 154) 3 = .ok (.iushr, 1) := by decide +kernel
theorem s154_3 {M : Mm} {st : List Value} {l0 : Option Value} {x y : Int32} : EE 154 3 [l0] (.int y :: .int x :: st) M = EE 154 4 [l0] (.int ((x.toUInt32 >>> (y.toUInt32 &&& Int32.toUInt32 31)).toInt32) :: st) M := e_II d154_3 rfl rfl rfl rfl rfl rfl
theorem d154_4 : decode (cod 154) 4 = .ok (.ldc_w 265, 3) := by decide +kernel
theorem s154_4 {M : Mm} {st : List Value} {l0 : Option Value} : EE 154 4 [l0] st M = EE 154 7 [l0] (.int 1431655765 :: st) M := e_ldcw d154_4 k6_265
theorem d154_7 : decode (cod 154) 7 = .ok (.iand, 1) := by decide +kernel
theorem s154_7 {M : Mm} {st : List Value} {l0 : Option Value} {x y : Int32} : EE 154 7 [l0] (.int y :: .int x :: st) M = EE 154 8 [l0] (.int (x &&& y) :: st) M := e_II d154_7 rfl rfl rfl rfl rfl rfl
theorem d154_8 : decode (cod 154) 8 = .ok (.isub, 1) := by decide +kernel
theorem s154_8 {M : Mm} {st : List Value} {l0 : Option Value} {x y : Int32} : EE 154 8 [l0] (.int y :: .int x :: st) M = EE 154 9 [l0] (.int (x - y) :: st) M := e_II d154_8 rfl rfl rfl rfl rfl rfl
theorem d154_9 : decode (cod 154) 9 = .ok (.istore_n 0, 1) := by decide +kernel
theorem s154_9 {M : Mm} {st : List Value} {l0 : Option Value} {x : Int32} : EE 154 9 [l0] (.int x :: st) M = EE 154 10 [some (.int x)] st M := e_st1 d154_9 rfl rfl rfl rfl rfl rfl rfl (Nat.le_of_ble_eq_true rfl) rfl
theorem d154_10 : decode (cod 154) 10 = .ok (.iload_n 0, 1) := by decide +kernel
theorem s154_10 {M : Mm} {st : List Value} {x : Int32} : EE 154 10 [some (.int x)] st M = EE 154 11 [some (.int x)] (.int x :: st) M := e_ld d154_10 rfl rfl rfl rfl rfl rfl
theorem d154_11 : decode (cod 154) 11 = .ok (.ldc_w 266, 3) := by decide +kernel
theorem s154_11 {M : Mm} {st : List Value} {l0 : Option Value} : EE 154 11 [l0] st M = EE 154 14 [l0] (.int 858993459 :: st) M := e_ldcw d154_11 k6_266
theorem d154_14 : decode (cod 154) 14 = .ok (.iand, 1) := by decide +kernel
theorem s154_14 {M : Mm} {st : List Value} {l0 : Option Value} {x y : Int32} : EE 154 14 [l0] (.int y :: .int x :: st) M = EE 154 15 [l0] (.int (x &&& y) :: st) M := e_II d154_14 rfl rfl rfl rfl rfl rfl
theorem d154_15 : decode (cod 154) 15 = .ok (.iload_n 0, 1) := by decide +kernel
theorem s154_15 {M : Mm} {st : List Value} {x : Int32} : EE 154 15 [some (.int x)] st M = EE 154 16 [some (.int x)] (.int x :: st) M := e_ld d154_15 rfl rfl rfl rfl rfl rfl
theorem d154_16 : decode (cod 154) 16 = .ok (.iconst 2, 1) := by decide +kernel
theorem s154_16 {M : Mm} {st : List Value} {l0 : Option Value} : EE 154 16 [l0] st M = EE 154 17 [l0] (.int (nI 2) :: st) M := e_con d154_16 k_con_2
theorem d154_17 : decode (cod 154) 17 = .ok (.iushr, 1) := by decide +kernel
theorem s154_17 {M : Mm} {st : List Value} {l0 : Option Value} {x y : Int32} : EE 154 17 [l0] (.int y :: .int x :: st) M = EE 154 18 [l0] (.int ((x.toUInt32 >>> (y.toUInt32 &&& Int32.toUInt32 31)).toInt32) :: st) M := e_II d154_17 rfl rfl rfl rfl rfl rfl
theorem d154_18 : decode (cod 154) 18 = .ok (.ldc_w 266, 3) := by decide +kernel
theorem s154_18 {M : Mm} {st : List Value} {l0 : Option Value} : EE 154 18 [l0] st M = EE 154 21 [l0] (.int 858993459 :: st) M := e_ldcw d154_18 k6_266
theorem d154_21 : decode (cod 154) 21 = .ok (.iand, 1) := by decide +kernel
theorem s154_21 {M : Mm} {st : List Value} {l0 : Option Value} {x y : Int32} : EE 154 21 [l0] (.int y :: .int x :: st) M = EE 154 22 [l0] (.int (x &&& y) :: st) M := e_II d154_21 rfl rfl rfl rfl rfl rfl
theorem d154_22 : decode (cod 154) 22 = .ok (.iadd, 1) := by decide +kernel
theorem s154_22 {M : Mm} {st : List Value} {l0 : Option Value} {x y : Int32} : EE 154 22 [l0] (.int y :: .int x :: st) M = EE 154 23 [l0] (.int (x + y) :: st) M := e_II d154_22 rfl rfl rfl rfl rfl rfl
theorem d154_23 : decode (cod 154) 23 = .ok (.istore_n 0, 1) := by decide +kernel
theorem s154_23 {M : Mm} {st : List Value} {l0 : Option Value} {x : Int32} : EE 154 23 [l0] (.int x :: st) M = EE 154 24 [some (.int x)] st M := e_st1 d154_23 rfl rfl rfl rfl rfl rfl rfl (Nat.le_of_ble_eq_true rfl) rfl
theorem d154_24 : decode (cod 154) 24 = .ok (.iload_n 0, 1) := by decide +kernel
theorem s154_24 {M : Mm} {st : List Value} {x : Int32} : EE 154 24 [some (.int x)] st M = EE 154 25 [some (.int x)] (.int x :: st) M := e_ld d154_24 rfl rfl rfl rfl rfl rfl
theorem d154_25 : decode (cod 154) 25 = .ok (.iload_n 0, 1) := by decide +kernel
theorem s154_25 {M : Mm} {st : List Value} {x : Int32} : EE 154 25 [some (.int x)] st M = EE 154 26 [some (.int x)] (.int x :: st) M := e_ld d154_25 rfl rfl rfl rfl rfl rfl
theorem d154_26 : decode (cod 154) 26 = .ok (.iconst 4, 1) := by decide +kernel
theorem s154_26 {M : Mm} {st : List Value} {l0 : Option Value} : EE 154 26 [l0] st M = EE 154 27 [l0] (.int (nI 4) :: st) M := e_con d154_26 k_con_4
theorem d154_27 : decode (cod 154) 27 = .ok (.iushr, 1) := by decide +kernel
theorem s154_27 {M : Mm} {st : List Value} {l0 : Option Value} {x y : Int32} : EE 154 27 [l0] (.int y :: .int x :: st) M = EE 154 28 [l0] (.int ((x.toUInt32 >>> (y.toUInt32 &&& Int32.toUInt32 31)).toInt32) :: st) M := e_II d154_27 rfl rfl rfl rfl rfl rfl
theorem d154_28 : decode (cod 154) 28 = .ok (.iadd, 1) := by decide +kernel
theorem s154_28 {M : Mm} {st : List Value} {l0 : Option Value} {x y : Int32} : EE 154 28 [l0] (.int y :: .int x :: st) M = EE 154 29 [l0] (.int (x + y) :: st) M := e_II d154_28 rfl rfl rfl rfl rfl rfl
theorem d154_29 : decode (cod 154) 29 = .ok (.ldc_w 267, 3) := by decide +kernel
theorem s154_29 {M : Mm} {st : List Value} {l0 : Option Value} : EE 154 29 [l0] st M = EE 154 32 [l0] (.int 252645135 :: st) M := e_ldcw d154_29 k6_267
theorem d154_32 : decode (cod 154) 32 = .ok (.iand, 1) := by decide +kernel
theorem s154_32 {M : Mm} {st : List Value} {l0 : Option Value} {x y : Int32} : EE 154 32 [l0] (.int y :: .int x :: st) M = EE 154 33 [l0] (.int (x &&& y) :: st) M := e_II d154_32 rfl rfl rfl rfl rfl rfl
theorem d154_33 : decode (cod 154) 33 = .ok (.istore_n 0, 1) := by decide +kernel
theorem s154_33 {M : Mm} {st : List Value} {l0 : Option Value} {x : Int32} : EE 154 33 [l0] (.int x :: st) M = EE 154 34 [some (.int x)] st M := e_st1 d154_33 rfl rfl rfl rfl rfl rfl rfl (Nat.le_of_ble_eq_true rfl) rfl
theorem d154_34 : decode (cod 154) 34 = .ok (.iload_n 0, 1) := by decide +kernel
theorem s154_34 {M : Mm} {st : List Value} {x : Int32} : EE 154 34 [some (.int x)] st M = EE 154 35 [some (.int x)] (.int x :: st) M := e_ld d154_34 rfl rfl rfl rfl rfl rfl
theorem d154_35 : decode (cod 154) 35 = .ok (.iload_n 0, 1) := by decide +kernel
theorem s154_35 {M : Mm} {st : List Value} {x : Int32} : EE 154 35 [some (.int x)] st M = EE 154 36 [some (.int x)] (.int x :: st) M := e_ld d154_35 rfl rfl rfl rfl rfl rfl
theorem d154_36 : decode (cod 154) 36 = .ok (.bipush 8, 2) := by decide +kernel
theorem s154_36 {M : Mm} {st : List Value} {l0 : Option Value} : EE 154 36 [l0] st M = EE 154 38 [l0] (.int (nI 8) :: st) M := e_bip d154_36 k_bip_8
theorem d154_38 : decode (cod 154) 38 = .ok (.iushr, 1) := by decide +kernel
theorem s154_38 {M : Mm} {st : List Value} {l0 : Option Value} {x y : Int32} : EE 154 38 [l0] (.int y :: .int x :: st) M = EE 154 39 [l0] (.int ((x.toUInt32 >>> (y.toUInt32 &&& Int32.toUInt32 31)).toInt32) :: st) M := e_II d154_38 rfl rfl rfl rfl rfl rfl
theorem d154_39 : decode (cod 154) 39 = .ok (.iadd, 1) := by decide +kernel
theorem s154_39 {M : Mm} {st : List Value} {l0 : Option Value} {x y : Int32} : EE 154 39 [l0] (.int y :: .int x :: st) M = EE 154 40 [l0] (.int (x + y) :: st) M := e_II d154_39 rfl rfl rfl rfl rfl rfl
theorem d154_40 : decode (cod 154) 40 = .ok (.istore_n 0, 1) := by decide +kernel
theorem s154_40 {M : Mm} {st : List Value} {l0 : Option Value} {x : Int32} : EE 154 40 [l0] (.int x :: st) M = EE 154 41 [some (.int x)] st M := e_st1 d154_40 rfl rfl rfl rfl rfl rfl rfl (Nat.le_of_ble_eq_true rfl) rfl
theorem d154_41 : decode (cod 154) 41 = .ok (.iload_n 0, 1) := by decide +kernel
theorem s154_41 {M : Mm} {st : List Value} {x : Int32} : EE 154 41 [some (.int x)] st M = EE 154 42 [some (.int x)] (.int x :: st) M := e_ld d154_41 rfl rfl rfl rfl rfl rfl
theorem d154_42 : decode (cod 154) 42 = .ok (.iload_n 0, 1) := by decide +kernel
theorem s154_42 {M : Mm} {st : List Value} {x : Int32} : EE 154 42 [some (.int x)] st M = EE 154 43 [some (.int x)] (.int x :: st) M := e_ld d154_42 rfl rfl rfl rfl rfl rfl
theorem d154_43 : decode (cod 154) 43 = .ok (.bipush 16, 2) := by decide +kernel
theorem s154_43 {M : Mm} {st : List Value} {l0 : Option Value} : EE 154 43 [l0] st M = EE 154 45 [l0] (.int (nI 16) :: st) M := e_bip d154_43 k_bip_16
theorem d154_45 : decode (cod 154) 45 = .ok (.iushr, 1) := by decide +kernel
theorem s154_45 {M : Mm} {st : List Value} {l0 : Option Value} {x y : Int32} : EE 154 45 [l0] (.int y :: .int x :: st) M = EE 154 46 [l0] (.int ((x.toUInt32 >>> (y.toUInt32 &&& Int32.toUInt32 31)).toInt32) :: st) M := e_II d154_45 rfl rfl rfl rfl rfl rfl
theorem d154_46 : decode (cod 154) 46 = .ok (.iadd, 1) := by decide +kernel
theorem s154_46 {M : Mm} {st : List Value} {l0 : Option Value} {x y : Int32} : EE 154 46 [l0] (.int y :: .int x :: st) M = EE 154 47 [l0] (.int (x + y) :: st) M := e_II d154_46 rfl rfl rfl rfl rfl rfl
theorem d154_47 : decode (cod 154) 47 = .ok (.istore_n 0, 1) := by decide +kernel
theorem s154_47 {M : Mm} {st : List Value} {l0 : Option Value} {x : Int32} : EE 154 47 [l0] (.int x :: st) M = EE 154 48 [some (.int x)] st M := e_st1 d154_47 rfl rfl rfl rfl rfl rfl rfl (Nat.le_of_ble_eq_true rfl) rfl
theorem d154_48 : decode (cod 154) 48 = .ok (.iload_n 0, 1) := by decide +kernel
theorem s154_48 {M : Mm} {st : List Value} {x : Int32} : EE 154 48 [some (.int x)] st M = EE 154 49 [some (.int x)] (.int x :: st) M := e_ld d154_48 rfl rfl rfl rfl rfl rfl
theorem d154_49 : decode (cod 154) 49 = .ok (.bipush 63, 2) := by decide +kernel
theorem s154_49 {M : Mm} {st : List Value} {l0 : Option Value} : EE 154 49 [l0] st M = EE 154 51 [l0] (.int (nI 63) :: st) M := e_bip d154_49 k_bip_63
theorem d154_51 : decode (cod 154) 51 = .ok (.iand, 1) := by decide +kernel
theorem s154_51 {M : Mm} {st : List Value} {l0 : Option Value} {x y : Int32} : EE 154 51 [l0] (.int y :: .int x :: st) M = EE 154 52 [l0] (.int (x &&& y) :: st) M := e_II d154_51 rfl rfl rfl rfl rfl rfl
theorem d154_52 : decode (cod 154) 52 = .ok (.ireturn, 1) := by decide +kernel
theorem s154_52 {M : Mm} {l0 : Option Value} {v : Int32} : EE 154 52 [l0] [.int v] M = some (some (.int v), M) := e_iret d154_52 rfl rfl
theorem FE154 {b0 : Int32} {M : Mm} : FF 154 [.int b0] M = EE 154 0 [some (.int b0)] [] M := FF_eq 154 _ _ (Nat.le_of_ble_eq_true rfl)
theorem d171_0 : decode (cod 171) 0 = .ok (.new 10, 3) := by decide +kernel
theorem s171_0 {M : Mm} {st : List Value} {l0 l1 l2 l3 l4 l5 l6 l7 l8 l9 l10 l11 l12 l13 l14 l15 : Option Value} (h : M.1 < 202 ∧ kd (adr M.1) = 3) : EE 171 0 [l0, l1, l2, l3, l4, l5, l6, l7, l8, l9, l10, l11, l12, l13, l14, l15] st M = EE 171 3 [l0, l1, l2, l3, l4, l5, l6, l7, l8, l9, l10, l11, l12, l13, l14, l15] (.ref (adr M.1) :: st) (bn M) := e_new d171_0 n4_10 h
theorem d171_3 : decode (cod 171) 3 = .ok (.dup, 1) := by decide +kernel
theorem s171_3i {M : Mm} {st : List Value} {l0 l1 l2 l3 l4 l5 l6 l7 l8 l9 l10 l11 l12 l13 l14 l15 : Option Value} {x : Int32} : EE 171 3 [l0, l1, l2, l3, l4, l5, l6, l7, l8, l9, l10, l11, l12, l13, l14, l15] (.int x :: st) M = EE 171 4 [l0, l1, l2, l3, l4, l5, l6, l7, l8, l9, l10, l11, l12, l13, l14, l15] (.int x :: .int x :: st) M := e_dup d171_3 rfl
theorem s171_3r {M : Mm} {st : List Value} {l0 l1 l2 l3 l4 l5 l6 l7 l8 l9 l10 l11 l12 l13 l14 l15 : Option Value} {x : Nat} : EE 171 3 [l0, l1, l2, l3, l4, l5, l6, l7, l8, l9, l10, l11, l12, l13, l14, l15] (.ref x :: st) M = EE 171 4 [l0, l1, l2, l3, l4, l5, l6, l7, l8, l9, l10, l11, l12, l13, l14, l15] (.ref x :: .ref x :: st) M := e_dup d171_3 rfl
theorem d171_4 : decode (cod 171) 4 = .ok (.invokespecial 80, 3) := by decide +kernel
theorem s171_4 {l0 l1 l2 l3 l4 l5 l6 l7 l8 l9 l10 l11 l12 l13 l14 l15 : Option Value} {a : Nat} {M M' : Mm} {st : List Value} (hl : st.length ≤ 4) (hF : FF 43 [.ref a] M = some (none, M')) : EE 171 4 [l0, l1, l2, l3, l4, l5, l6, l7, l8, l9, l10, l11, l12, l13, l14, l15] (.ref a :: st) M = EE 171 7 [l0, l1, l2, l3, l4, l5, l6, l7, l8, l9, l10, l11, l12, l13, l14, l15] st M' := e_cali d171_4 c4_80 rfl rfl rfl r171_43 hl hF
theorem d171_7 : decode (cod 171) 7 = .ok (.astore_n 1, 1) := by decide +kernel
theorem s171_7 {M : Mm} {st : List Value} {l0 l1 l2 l3 l4 l5 l6 l7 l8 l9 l10 l11 l12 l13 l14 l15 : Option Value} {x : Nat} : EE 171 7 [l0, l1, l2, l3, l4, l5, l6, l7, l8, l9, l10, l11, l12, l13, l14, l15] (.ref x :: st) M = EE 171 8 [cln l0, some (.ref x), l2, l3, l4, l5, l6, l7, l8, l9, l10, l11, l12, l13, l14, l15] st M := e_st1 d171_7 rfl rfl rfl rfl rfl rfl rfl (Nat.le_of_ble_eq_true rfl) rfl
theorem d171_8 : decode (cod 171) 8 = .ok (.iconst 1, 1) := by decide +kernel
theorem s171_8 {M : Mm} {st : List Value} {l0 l1 l2 l3 l4 l5 l6 l7 l8 l9 l10 l11 l12 l13 l14 l15 : Option Value} : EE 171 8 [l0, l1, l2, l3, l4, l5, l6, l7, l8, l9, l10, l11, l12, l13, l14, l15] st M = EE 171 9 [l0, l1, l2, l3, l4, l5, l6, l7, l8, l9, l10, l11, l12, l13, l14, l15] (.int (nI 1) :: st) M := e_con d171_8 k_con_1
theorem d171_9 : decode (cod 171) 9 = .ok (.istore_n 2, 1) := by decide +kernel
theorem s171_9 {M : Mm} {st : List Value} {l0 l1 l2 l3 l4 l5 l6 l7 l8 l9 l10 l11 l12 l13 l14 l15 : Option Value} {x : Int32} : EE 171 9 [l0, l1, l2, l3, l4, l5, l6, l7, l8, l9, l10, l11, l12, l13, l14, l15] (.int x :: st) M = EE 171 10 [l0, cln l1, some (.int x), l3, l4, l5, l6, l7, l8, l9, l10, l11, l12, l13, l14, l15] st M := e_st1 d171_9 rfl rfl rfl rfl rfl rfl rfl (Nat.le_of_ble_eq_true rfl) rfl
theorem d171_10 : decode (cod 171) 10 = .ok (.aload_n 0, 1) := by decide +kernel
theorem s171_10 {M : Mm} {st : List Value} {l1 l2 l3 l4 l5 l6 l7 l8 l9 l10 l11 l12 l13 l14 l15 : Option Value} {x : Nat} : EE 171 10 [some (.ref x), l1, l2, l3, l4, l5, l6, l7, l8, l9, l10, l11, l12, l13, l14, l15] st M = EE 171 11 [some (.ref x), l1, l2, l3, l4, l5, l6, l7, l8, l9, l10, l11, l12, l13, l14, l15] (.ref x :: st) M := e_ld d171_10 rfl rfl rfl rfl rfl rfl
theorem d171_11 : decode (cod 171) 11 = .ok (.arraylength, 1) := by decide +kernel
theorem s171_11 {n : Nat} {I : Nat → Nat → Int32} {R : Nat → Nat → Option Nat} {st : List Value} {l0 l1 l2 l3 l4 l5 l6 l7 l8 l9 l10 l11 l12 l13 l14 l15 : Option Value} {a : Nat} : EE 171 11 [l0, l1, l2, l3, l4, l5, l6, l7, l8, l9, l10, l11, l12, l13, l14, l15] (.ref a :: st) (n, I, R) = (aln n I a).bind (fun z => EE 171 12 [l0, l1, l2, l3, l4, l5, l6, l7, l8, l9, l10, l11, l12, l13, l14, l15] (.int z :: st) (n, I, R)) := e_alenb d171_11
theorem d171_12 : decode (cod 171) 12 = .ok (.iconst 4, 1) := by decide +kernel
theorem s171_12 {M : Mm} {st : List Value} {l0 l1 l2 l3 l4 l5 l6 l7 l8 l9 l10 l11 l12 l13 l14 l15 : Option Value} : EE 171 12 [l0, l1, l2, l3, l4, l5, l6, l7, l8, l9, l10, l11, l12, l13, l14, l15] st M = EE 171 13 [l0, l1, l2, l3, l4, l5, l6, l7, l8, l9, l10, l11, l12, l13, l14, l15] (.int (nI 4) :: st) M := e_con d171_12 k_con_4
theorem d171_13 : decode (cod 171) 13 = .ok (.idiv, 1) := by decide +kernel
theorem s171_13 {M : Mm} {st : List Value} {l0 l1 l2 l3 l4 l5 l6 l7 l8 l9 l10 l11 l12 l13 l14 l15 : Option Value} {x y : Nat} (h1 : x < 2 ^ 31) (h2 : 0 < y) (h3 : y < 2 ^ 31) : EE 171 13 [l0, l1, l2, l3, l4, l5, l6, l7, l8, l9, l10, l11, l12, l13, l14, l15] (.int (nI y) :: .int (nI x) :: st) M = EE 171 14 [l0, l1, l2, l3, l4, l5, l6, l7, l8, l9, l10, l11, l12, l13, l14, l15] (.int (nI (x / y)) :: st) M := e_divN d171_13 h1 h2 h3
theorem d171_14 : decode (cod 171) 14 = .ok (.bipush 30, 2) := by decide +kernel
theorem s171_14 {M : Mm} {st : List Value} {l0 l1 l2 l3 l4 l5 l6 l7 l8 l9 l10 l11 l12 l13 l14 l15 : Option Value} : EE 171 14 [l0, l1, l2, l3, l4, l5, l6, l7, l8, l9, l10, l11, l12, l13, l14, l15] st M = EE 171 16 [l0, l1, l2, l3, l4, l5, l6, l7, l8, l9, l10, l11, l12, l13, l14, l15] (.int (nI 30) :: st) M := e_bip d171_14 k_bip_30
theorem d171_16 : decode (cod 171) 16 = .ok (.if_icmp .le 8, 3) := by decide +kernel
theorem s171_16 {M : Mm} {st : List Value} {l0 l1 l2 l3 l4 l5 l6 l7 l8 l9 l10 l11 l12 l13 l14 l15 : Option Value} {x y : Int32} : EE 171 16 [l0, l1, l2, l3, l4, l5, l6, l7, l8, l9, l10, l11, l12, l13, l14, l15] (.int y :: .int x :: st) M = if x ≤ y then EE 171 24 [l0, l1, l2, l3, l4, l5, l6, l7, l8, l9, l10, l11, l12, l13, l14, l15] st M else EE 171 19 [l0, l1, l2, l3, l4, l5, l6, l7, l8, l9, l10, l11, l12, l13, l14, l15] st M := e_cle d171_16 (by decide)
theorem d171_19 : decode (cod 171) 19 = .ok (.bipush 30, 2) := by decide +kernel
theorem s171_19 {M : Mm} {st : List Value} {l0 l1 l2 l3 l4 l5 l6 l7 l8 l9 l10 l11 l12 l13 l14 l15 : Option Value} : EE 171 19 [l0, l1, l2, l3, l4, l5, l6, l7, l8, l9, l10, l11, l12, l13, l14, l15] st M = EE 171 21 [l0, l1, l2, l3, l4, l5, l6, l7, l8, l9, l10, l11, l12, l13, l14, l15] (.int (nI 30) :: st) M := e_bip d171_19 k_bip_30
theorem d171_21 : decode (cod 171) 21 = .ok (.goto 7, 3) := by decide +kernel
theorem s171_21 {M : Mm} {st : List Value} {l0 l1 l2 l3 l4 l5 l6 l7 l8 l9 l10 l11 l12 l13 l14 l15 : Option Value} : EE 171 21 [l0, l1, l2, l3, l4, l5, l6, l7, l8, l9, l10, l11, l12, l13, l14, l15] st M = EE 171 28 [l0, l1, l2, l3, l4, l5, l6, l7, l8, l9, l10, l11, l12, l13, l14, l15] st M := e_goto d171_21 (by decide)
theorem d171_24 : decode (cod 171) 24 = .ok (.aload_n 0, 1) := by decide +kernel
theorem s171_24 {M : Mm} {st : List Value} {l1 l2 l3 l4 l5 l6 l7 l8 l9 l10 l11 l12 l13 l14 l15 : Option Value} {x : Nat} : EE 171 24 [some (.ref x), l1, l2, l3, l4, l5, l6, l7, l8, l9, l10, l11, l12, l13, l14, l15] st M = EE 171 25 [some (.ref x), l1, l2, l3, l4, l5, l6, l7, l8, l9, l10, l11, l12, l13, l14, l15] (.ref x :: st) M := e_ld d171_24 rfl rfl rfl rfl rfl rfl
theorem d171_25 : decode (cod 171) 25 = .ok (.arraylength, 1) := by decide +kernel
theorem s171_25 {n : Nat} {I : Nat → Nat → Int32} {R : Nat → Nat → Option Nat} {st : List Value} {l0 l1 l2 l3 l4 l5 l6 l7 l8 l9 l10 l11 l12 l13 l14 l15 : Option Value} {a : Nat} : EE 171 25 [l0, l1, l2, l3, l4, l5, l6, l7, l8, l9, l10, l11, l12, l13, l14, l15] (.ref a :: st) (n, I, R) = (aln n I a).bind (fun z => EE 171 26 [l0, l1, l2, l3, l4, l5, l6, l7, l8, l9, l10, l11, l12, l13, l14, l15] (.int z :: st) (n, I, R)) := e_alenb d171_25
theorem d171_26 : decode (cod 171) 26 = .ok (.iconst 4, 1) := by decide +kernel
theorem s171_26 {M : Mm} {st : List Value} {l0 l1 l2 l3 l4 l5 l6 l7 l8 l9 l10 l11 l12 l13 l14 l15 : Option Value} : EE 171 26 [l0, l1, l2, l3, l4, l5, l6, l7, l8, l9, l10, l11, l12, l13, l14, l15] st M = EE 171 27 [l0, l1, l2, l3, l4, l5, l6, l7, l8, l9, l10, l11, l12, l13, l14, l15] (.int (nI 4) :: st) M := e_con d171_26 k_con_4
theorem d171_27 : decode (cod 171) 27 = .ok (.idiv, 1) := by decide +kernel
theorem s171_27 {M : Mm} {st : List Value} {l0 l1 l2 l3 l4 l5 l6 l7 l8 l9 l10 l11 l12 l13 l14 l15 : Option Value} {x y : Nat} (h1 : x < 2 ^ 31) (h2 : 0 < y) (h3 : y < 2 ^ 31) : EE 171 27 [l0, l1, l2, l3, l4, l5, l6, l7, l8, l9, l10, l11, l12, l13, l14, l15] (.int (nI y) :: .int (nI x) :: st) M = EE 171 28 [l0, l1, l2, l3, l4, l5, l6, l7, l8, l9, l10, l11, l12, l13, l14, l15] (.int (nI (x / y)) :: st) M := e_divN d171_27 h1 h2 h3
theorem d171_28 : decode (cod 171) 28 = .ok (.istore_n 3, 1) := by decide +kernel
theorem s171_28 {M : Mm} {st : List Value} {l0 l1 l2 l3 l4 l5 l6 l7 l8 l9 l10 l11 l12 l13 l14 l15 : Option Value} {x : Int32} : EE 171 28 [l0, l1, l2, l3, l4, l5, l6, l7, l8, l9, l10, l11, l12, l13, l14, l15] (.int x :: st) M = EE 171 29 [l0, l1, cln l2, some (.int x), l4, l5, l6, l7, l8, l9, l10, l11, l12, l13, l14, l15] st M := e_st1 d171_28 rfl rfl rfl rfl rfl rfl rfl (Nat.le_of_ble_eq_true rfl) rfl
theorem d171_29 : decode (cod 171) 29 = .ok (.iconst 0, 1) := by decide +kernel
theorem s171_29 {M : Mm} {st : List Value} {l0 l1 l2 l3 l4 l5 l6 l7 l8 l9 l10 l11 l12 l13 l14 l15 : Option Value} : EE 171 29 [l0, l1, l2, l3, l4, l5, l6, l7, l8, l9, l10, l11, l12, l13, l14, l15] st M = EE 171 30 [l0, l1, l2, l3, l4, l5, l6, l7, l8, l9, l10, l11, l12, l13, l14, l15] (.int (nI 0) :: st) M := e_con d171_29 k_con_0
theorem d171_30 : decode (cod 171) 30 = .ok (.istore 4, 2) := by decide +kernel
theorem s171_30 {M : Mm} {st : List Value} {l0 l1 l2 l3 l4 l5 l6 l7 l8 l9 l10 l11 l12 l13 l14 l15 : Option Value} {x : Int32} : EE 171 30 [l0, l1, l2, l3, l4, l5, l6, l7, l8, l9, l10, l11, l12, l13, l14, l15] (.int x :: st) M = EE 171 32 [l0, l1, l2, cln l3, some (.int x), l5, l6, l7, l8, l9, l10, l11, l12, l13, l14, l15] st M := e_st1 d171_30 rfl rfl rfl rfl rfl rfl rfl (Nat.le_of_ble_eq_true rfl) rfl
theorem d171_32 : decode (cod 171) 32 = .ok (.iload 4, 2) := by decide +kernel
theorem s171_32 {M : Mm} {st : List Value} {l0 l1 l2 l3 l5 l6 l7 l8 l9 l10 l11 l12 l13 l14 l15 : Option Value} {x : Int32} : EE 171 32 [l0, l1, l2, l3, some (.int x), l5, l6, l7, l8, l9, l10, l11, l12, l13, l14, l15] st M = EE 171 34 [l0, l1, l2, l3, some (.int x), l5, l6, l7, l8, l9, l10, l11, l12, l13, l14, l15] (.int x :: st) M := e_ld d171_32 rfl rfl rfl rfl rfl rfl
theorem d171_34 : decode (cod 171) 34 = .ok (.iload_n 3, 1) := by decide +kernel
theorem s171_34 {M : Mm} {st : List Value} {l0 l1 l2 l4 l5 l6 l7 l8 l9 l10 l11 l12 l13 l14 l15 : Option Value} {x : Int32} : EE 171 34 [l0, l1, l2, some (.int x), l4, l5, l6, l7, l8, l9, l10, l11, l12, l13, l14, l15] st M = EE 171 35 [l0, l1, l2, some (.int x), l4, l5, l6, l7, l8, l9, l10, l11, l12, l13, l14, l15] (.int x :: st) M := e_ld d171_34 rfl rfl rfl rfl rfl rfl
theorem d171_35 : decode (cod 171) 35 = .ok (.if_icmp .ge 276, 3) := by decide +kernel
theorem s171_35 {M : Mm} {st : List Value} {l0 l1 l2 l3 l4 l5 l6 l7 l8 l9 l10 l11 l12 l13 l14 l15 : Option Value} {x y : Int32} : EE 171 35 [l0, l1, l2, l3, l4, l5, l6, l7, l8, l9, l10, l11, l12, l13, l14, l15] (.int y :: .int x :: st) M = if y ≤ x then EE 171 311 [l0, l1, l2, l3, l4, l5, l6, l7, l8, l9, l10, l11, l12, l13, l14, l15] st M else EE 171 38 [l0, l1, l2, l3, l4, l5, l6, l7, l8, l9, l10, l11, l12, l13, l14, l15] st M := e_cge d171_35 (by decide)
theorem d171_38 : decode (cod 171) 38 = .ok (.iload_n 2, 1) := by decide +kernel
theorem s171_38 {M : Mm} {st : List Value} {l0 l1 l3 l4 l5 l6 l7 l8 l9 l10 l11 l12 l13 l14 l15 : Option Value} {x : Int32} : EE 171 38 [l0, l1, some (.int x), l3, l4, l5, l6, l7, l8, l9, l10, l11, l12, l13, l14, l15] st M = EE 171 39 [l0, l1, some (.int x), l3, l4, l5, l6, l7, l8, l9, l10, l11, l12, l13, l14, l15] (.int x :: st) M := e_ld d171_38 rfl rfl rfl rfl rfl rfl
theorem d171_39 : decode (cod 171) 39 = .ok (.ifCond .eq 272, 3) := by decide +kernel
theorem s171_39 {M : Mm} {st : List Value} {l0 l1 l2 l3 l4 l5 l6 l7 l8 l9 l10 l11 l12 l13 l14 l15 : Option Value} {x : Int32} : EE 171 39 [l0, l1, l2, l3, l4, l5, l6, l7, l8, l9, l10, l11, l12, l13, l14, l15] (.int x :: st) M = if x = 0 then EE 171 311 [l0, l1, l2, l3, l4, l5, l6, l7, l8, l9, l10, l11, l12, l13, l14, l15] st M else EE 171 42 [l0, l1, l2, l3, l4, l5, l6, l7, l8, l9, l10, l11, l12, l13, l14, l15] st M := e_eq0 d171_39 (by decide)
theorem d171_42 : decode (cod 171) 42 = .ok (.aload_n 1, 1) := by decide +kernel
theorem s171_42 {M : Mm} {st : List Value} {l0 l2 l3 l4 l5 l6 l7 l8 l9 l10 l11 l12 l13 l14 l15 : Option Value} {x : Nat} : EE 171 42 [l0, some (.ref x), l2, l3, l4, l5, l6, l7, l8, l9, l10, l11, l12, l13, l14, l15] st M = EE 171 43 [l0, some (.ref x), l2, l3, l4, l5, l6, l7, l8, l9, l10, l11, l12, l13, l14, l15] (.ref x :: st) M := e_ld d171_42 rfl rfl rfl rfl rfl rfl
theorem d171_43 : decode (cod 171) 43 = .ok (.bipush 18, 2) := by decide +kernel
theorem s171_43 {M : Mm} {st : List Value} {l0 l1 l2 l3 l4 l5 l6 l7 l8 l9 l10 l11 l12 l13 l14 l15 : Option Value} : EE 171 43 [l0, l1, l2, l3, l4, l5, l6, l7, l8, l9, l10, l11, l12, l13, l14, l15] st M = EE 171 45 [l0, l1, l2, l3, l4, l5, l6, l7, l8, l9, l10, l11, l12, l13, l14, l15] (.int (nI 18) :: st) M := e_bip d171_43 k_bip_18
theorem d171_45 : decode (cod 171) 45 = .ok (.invokevirtual 15, 3) := by decide +kernel
theorem s171_45 {l0 l1 l2 l3 l4 l5 l6 l7 l8 l9 l10 l11 l12 l13 l14 l15 : Option Value} {a : Nat} {M : Mm} {b0 : Int32} {st : List Value} (hl : st.length ≤ 4) (ho : isO "HandoverDesk" M.1 a = true) : EE 171 45 [l0, l1, l2, l3, l4, l5, l6, l7, l8, l9, l10, l11, l12, l13, l14, l15] (.int b0 :: .ref a :: st) M = (FF 61 (.ref a :: [.int b0]) M).bind (fun z => EE 171 48 [l0, l1, l2, l3, l4, l5, l6, l7, l8, l9, l10, l11, l12, l13, l14, l15] (psh z.1 st) z.2) := e_calv (av := [.int b0]) d171_45 c4_15 rfl rfl rfl r171_61 rfl hl ho
theorem d171_48 : decode (cod 171) 48 = .ok (.istore 5, 2) := by decide +kernel
theorem s171_48 {M : Mm} {st : List Value} {l0 l1 l2 l3 l4 l5 l6 l7 l8 l9 l10 l11 l12 l13 l14 l15 : Option Value} {x : Int32} : EE 171 48 [l0, l1, l2, l3, l4, l5, l6, l7, l8, l9, l10, l11, l12, l13, l14, l15] (.int x :: st) M = EE 171 50 [l0, l1, l2, l3, cln l4, some (.int x), l6, l7, l8, l9, l10, l11, l12, l13, l14, l15] st M := e_st1 d171_48 rfl rfl rfl rfl rfl rfl rfl (Nat.le_of_ble_eq_true rfl) rfl
theorem d171_50 : decode (cod 171) 50 = .ok (.aload_n 1, 1) := by decide +kernel
theorem s171_50 {M : Mm} {st : List Value} {l0 l2 l3 l4 l5 l6 l7 l8 l9 l10 l11 l12 l13 l14 l15 : Option Value} {x : Nat} : EE 171 50 [l0, some (.ref x), l2, l3, l4, l5, l6, l7, l8, l9, l10, l11, l12, l13, l14, l15] st M = EE 171 51 [l0, some (.ref x), l2, l3, l4, l5, l6, l7, l8, l9, l10, l11, l12, l13, l14, l15] (.ref x :: st) M := e_ld d171_50 rfl rfl rfl rfl rfl rfl
theorem d171_51 : decode (cod 171) 51 = .ok (.iconst 4, 1) := by decide +kernel
theorem s171_51 {M : Mm} {st : List Value} {l0 l1 l2 l3 l4 l5 l6 l7 l8 l9 l10 l11 l12 l13 l14 l15 : Option Value} : EE 171 51 [l0, l1, l2, l3, l4, l5, l6, l7, l8, l9, l10, l11, l12, l13, l14, l15] st M = EE 171 52 [l0, l1, l2, l3, l4, l5, l6, l7, l8, l9, l10, l11, l12, l13, l14, l15] (.int (nI 4) :: st) M := e_con d171_51 k_con_4
theorem d171_52 : decode (cod 171) 52 = .ok (.invokevirtual 15, 3) := by decide +kernel
theorem s171_52 {l0 l1 l2 l3 l4 l5 l6 l7 l8 l9 l10 l11 l12 l13 l14 l15 : Option Value} {a : Nat} {M : Mm} {b0 : Int32} {st : List Value} (hl : st.length ≤ 4) (ho : isO "HandoverDesk" M.1 a = true) : EE 171 52 [l0, l1, l2, l3, l4, l5, l6, l7, l8, l9, l10, l11, l12, l13, l14, l15] (.int b0 :: .ref a :: st) M = (FF 61 (.ref a :: [.int b0]) M).bind (fun z => EE 171 55 [l0, l1, l2, l3, l4, l5, l6, l7, l8, l9, l10, l11, l12, l13, l14, l15] (psh z.1 st) z.2) := e_calv (av := [.int b0]) d171_52 c4_15 rfl rfl rfl r171_61 rfl hl ho
theorem d171_55 : decode (cod 171) 55 = .ok (.istore 6, 2) := by decide +kernel
theorem s171_55 {M : Mm} {st : List Value} {l0 l1 l2 l3 l4 l5 l6 l7 l8 l9 l10 l11 l12 l13 l14 l15 : Option Value} {x : Int32} : EE 171 55 [l0, l1, l2, l3, l4, l5, l6, l7, l8, l9, l10, l11, l12, l13, l14, l15] (.int x :: st) M = EE 171 57 [l0, l1, l2, l3, l4, cln l5, some (.int x), l7, l8, l9, l10, l11, l12, l13, l14, l15] st M := e_st1 d171_55 rfl rfl rfl rfl rfl rfl rfl (Nat.le_of_ble_eq_true rfl) rfl
theorem d171_57 : decode (cod 171) 57 = .ok (.aload_n 1, 1) := by decide +kernel
theorem s171_57 {M : Mm} {st : List Value} {l0 l2 l3 l4 l5 l6 l7 l8 l9 l10 l11 l12 l13 l14 l15 : Option Value} {x : Nat} : EE 171 57 [l0, some (.ref x), l2, l3, l4, l5, l6, l7, l8, l9, l10, l11, l12, l13, l14, l15] st M = EE 171 58 [l0, some (.ref x), l2, l3, l4, l5, l6, l7, l8, l9, l10, l11, l12, l13, l14, l15] (.ref x :: st) M := e_ld d171_57 rfl rfl rfl rfl rfl rfl
theorem d171_58 : decode (cod 171) 58 = .ok (.iconst 5, 1) := by decide +kernel
theorem s171_58 {M : Mm} {st : List Value} {l0 l1 l2 l3 l4 l5 l6 l7 l8 l9 l10 l11 l12 l13 l14 l15 : Option Value} : EE 171 58 [l0, l1, l2, l3, l4, l5, l6, l7, l8, l9, l10, l11, l12, l13, l14, l15] st M = EE 171 59 [l0, l1, l2, l3, l4, l5, l6, l7, l8, l9, l10, l11, l12, l13, l14, l15] (.int (nI 5) :: st) M := e_con d171_58 k_con_5
theorem d171_59 : decode (cod 171) 59 = .ok (.invokevirtual 15, 3) := by decide +kernel
theorem s171_59 {l0 l1 l2 l3 l4 l5 l6 l7 l8 l9 l10 l11 l12 l13 l14 l15 : Option Value} {a : Nat} {M : Mm} {b0 : Int32} {st : List Value} (hl : st.length ≤ 4) (ho : isO "HandoverDesk" M.1 a = true) : EE 171 59 [l0, l1, l2, l3, l4, l5, l6, l7, l8, l9, l10, l11, l12, l13, l14, l15] (.int b0 :: .ref a :: st) M = (FF 61 (.ref a :: [.int b0]) M).bind (fun z => EE 171 62 [l0, l1, l2, l3, l4, l5, l6, l7, l8, l9, l10, l11, l12, l13, l14, l15] (psh z.1 st) z.2) := e_calv (av := [.int b0]) d171_59 c4_15 rfl rfl rfl r171_61 rfl hl ho
theorem d171_62 : decode (cod 171) 62 = .ok (.istore 7, 2) := by decide +kernel
theorem s171_62 {M : Mm} {st : List Value} {l0 l1 l2 l3 l4 l5 l6 l7 l8 l9 l10 l11 l12 l13 l14 l15 : Option Value} {x : Int32} : EE 171 62 [l0, l1, l2, l3, l4, l5, l6, l7, l8, l9, l10, l11, l12, l13, l14, l15] (.int x :: st) M = EE 171 64 [l0, l1, l2, l3, l4, l5, cln l6, some (.int x), l8, l9, l10, l11, l12, l13, l14, l15] st M := e_st1 d171_62 rfl rfl rfl rfl rfl rfl rfl (Nat.le_of_ble_eq_true rfl) rfl
theorem d171_64 : decode (cod 171) 64 = .ok (.aload_n 1, 1) := by decide +kernel
theorem s171_64 {M : Mm} {st : List Value} {l0 l2 l3 l4 l5 l6 l7 l8 l9 l10 l11 l12 l13 l14 l15 : Option Value} {x : Nat} : EE 171 64 [l0, some (.ref x), l2, l3, l4, l5, l6, l7, l8, l9, l10, l11, l12, l13, l14, l15] st M = EE 171 65 [l0, some (.ref x), l2, l3, l4, l5, l6, l7, l8, l9, l10, l11, l12, l13, l14, l15] (.ref x :: st) M := e_ld d171_64 rfl rfl rfl rfl rfl rfl
theorem d171_65 : decode (cod 171) 65 = .ok (.bipush 7, 2) := by decide +kernel
theorem s171_65 {M : Mm} {st : List Value} {l0 l1 l2 l3 l4 l5 l6 l7 l8 l9 l10 l11 l12 l13 l14 l15 : Option Value} : EE 171 65 [l0, l1, l2, l3, l4, l5, l6, l7, l8, l9, l10, l11, l12, l13, l14, l15] st M = EE 171 67 [l0, l1, l2, l3, l4, l5, l6, l7, l8, l9, l10, l11, l12, l13, l14, l15] (.int (nI 7) :: st) M := e_bip d171_65 k_bip_7
theorem d171_67 : decode (cod 171) 67 = .ok (.invokevirtual 15, 3) := by decide +kernel
theorem s171_67 {l0 l1 l2 l3 l4 l5 l6 l7 l8 l9 l10 l11 l12 l13 l14 l15 : Option Value} {a : Nat} {M : Mm} {b0 : Int32} {st : List Value} (hl : st.length ≤ 4) (ho : isO "HandoverDesk" M.1 a = true) : EE 171 67 [l0, l1, l2, l3, l4, l5, l6, l7, l8, l9, l10, l11, l12, l13, l14, l15] (.int b0 :: .ref a :: st) M = (FF 61 (.ref a :: [.int b0]) M).bind (fun z => EE 171 70 [l0, l1, l2, l3, l4, l5, l6, l7, l8, l9, l10, l11, l12, l13, l14, l15] (psh z.1 st) z.2) := e_calv (av := [.int b0]) d171_67 c4_15 rfl rfl rfl r171_61 rfl hl ho
theorem d171_70 : decode (cod 171) 70 = .ok (.istore 8, 2) := by decide +kernel
theorem s171_70 {M : Mm} {st : List Value} {l0 l1 l2 l3 l4 l5 l6 l7 l8 l9 l10 l11 l12 l13 l14 l15 : Option Value} {x : Int32} : EE 171 70 [l0, l1, l2, l3, l4, l5, l6, l7, l8, l9, l10, l11, l12, l13, l14, l15] (.int x :: st) M = EE 171 72 [l0, l1, l2, l3, l4, l5, l6, cln l7, some (.int x), l9, l10, l11, l12, l13, l14, l15] st M := e_st1 d171_70 rfl rfl rfl rfl rfl rfl rfl (Nat.le_of_ble_eq_true rfl) rfl
theorem d171_72 : decode (cod 171) 72 = .ok (.aload_n 1, 1) := by decide +kernel
theorem s171_72 {M : Mm} {st : List Value} {l0 l2 l3 l4 l5 l6 l7 l8 l9 l10 l11 l12 l13 l14 l15 : Option Value} {x : Nat} : EE 171 72 [l0, some (.ref x), l2, l3, l4, l5, l6, l7, l8, l9, l10, l11, l12, l13, l14, l15] st M = EE 171 73 [l0, some (.ref x), l2, l3, l4, l5, l6, l7, l8, l9, l10, l11, l12, l13, l14, l15] (.ref x :: st) M := e_ld d171_72 rfl rfl rfl rfl rfl rfl
theorem d171_73 : decode (cod 171) 73 = .ok (.iconst 0, 1) := by decide +kernel
theorem s171_73 {M : Mm} {st : List Value} {l0 l1 l2 l3 l4 l5 l6 l7 l8 l9 l10 l11 l12 l13 l14 l15 : Option Value} : EE 171 73 [l0, l1, l2, l3, l4, l5, l6, l7, l8, l9, l10, l11, l12, l13, l14, l15] st M = EE 171 74 [l0, l1, l2, l3, l4, l5, l6, l7, l8, l9, l10, l11, l12, l13, l14, l15] (.int (nI 0) :: st) M := e_con d171_73 k_con_0
theorem d171_74 : decode (cod 171) 74 = .ok (.invokevirtual 15, 3) := by decide +kernel
theorem s171_74 {l0 l1 l2 l3 l4 l5 l6 l7 l8 l9 l10 l11 l12 l13 l14 l15 : Option Value} {a : Nat} {M : Mm} {b0 : Int32} {st : List Value} (hl : st.length ≤ 4) (ho : isO "HandoverDesk" M.1 a = true) : EE 171 74 [l0, l1, l2, l3, l4, l5, l6, l7, l8, l9, l10, l11, l12, l13, l14, l15] (.int b0 :: .ref a :: st) M = (FF 61 (.ref a :: [.int b0]) M).bind (fun z => EE 171 77 [l0, l1, l2, l3, l4, l5, l6, l7, l8, l9, l10, l11, l12, l13, l14, l15] (psh z.1 st) z.2) := e_calv (av := [.int b0]) d171_74 c4_15 rfl rfl rfl r171_61 rfl hl ho
theorem d171_77 : decode (cod 171) 77 = .ok (.istore 9, 2) := by decide +kernel
theorem s171_77 {M : Mm} {st : List Value} {l0 l1 l2 l3 l4 l5 l6 l7 l8 l9 l10 l11 l12 l13 l14 l15 : Option Value} {x : Int32} : EE 171 77 [l0, l1, l2, l3, l4, l5, l6, l7, l8, l9, l10, l11, l12, l13, l14, l15] (.int x :: st) M = EE 171 79 [l0, l1, l2, l3, l4, l5, l6, l7, cln l8, some (.int x), l10, l11, l12, l13, l14, l15] st M := e_st1 d171_77 rfl rfl rfl rfl rfl rfl rfl (Nat.le_of_ble_eq_true rfl) rfl
theorem d171_79 : decode (cod 171) 79 = .ok (.aload_n 1, 1) := by decide +kernel
theorem s171_79 {M : Mm} {st : List Value} {l0 l2 l3 l4 l5 l6 l7 l8 l9 l10 l11 l12 l13 l14 l15 : Option Value} {x : Nat} : EE 171 79 [l0, some (.ref x), l2, l3, l4, l5, l6, l7, l8, l9, l10, l11, l12, l13, l14, l15] st M = EE 171 80 [l0, some (.ref x), l2, l3, l4, l5, l6, l7, l8, l9, l10, l11, l12, l13, l14, l15] (.ref x :: st) M := e_ld d171_79 rfl rfl rfl rfl rfl rfl
theorem d171_80 : decode (cod 171) 80 = .ok (.bipush 8, 2) := by decide +kernel
theorem s171_80 {M : Mm} {st : List Value} {l0 l1 l2 l3 l4 l5 l6 l7 l8 l9 l10 l11 l12 l13 l14 l15 : Option Value} : EE 171 80 [l0, l1, l2, l3, l4, l5, l6, l7, l8, l9, l10, l11, l12, l13, l14, l15] st M = EE 171 82 [l0, l1, l2, l3, l4, l5, l6, l7, l8, l9, l10, l11, l12, l13, l14, l15] (.int (nI 8) :: st) M := e_bip d171_80 k_bip_8
theorem d171_82 : decode (cod 171) 82 = .ok (.invokevirtual 15, 3) := by decide +kernel
theorem s171_82 {l0 l1 l2 l3 l4 l5 l6 l7 l8 l9 l10 l11 l12 l13 l14 l15 : Option Value} {a : Nat} {M : Mm} {b0 : Int32} {st : List Value} (hl : st.length ≤ 4) (ho : isO "HandoverDesk" M.1 a = true) : EE 171 82 [l0, l1, l2, l3, l4, l5, l6, l7, l8, l9, l10, l11, l12, l13, l14, l15] (.int b0 :: .ref a :: st) M = (FF 61 (.ref a :: [.int b0]) M).bind (fun z => EE 171 85 [l0, l1, l2, l3, l4, l5, l6, l7, l8, l9, l10, l11, l12, l13, l14, l15] (psh z.1 st) z.2) := e_calv (av := [.int b0]) d171_82 c4_15 rfl rfl rfl r171_61 rfl hl ho
theorem d171_85 : decode (cod 171) 85 = .ok (.istore 10, 2) := by decide +kernel
theorem s171_85 {M : Mm} {st : List Value} {l0 l1 l2 l3 l4 l5 l6 l7 l8 l9 l10 l11 l12 l13 l14 l15 : Option Value} {x : Int32} : EE 171 85 [l0, l1, l2, l3, l4, l5, l6, l7, l8, l9, l10, l11, l12, l13, l14, l15] (.int x :: st) M = EE 171 87 [l0, l1, l2, l3, l4, l5, l6, l7, l8, cln l9, some (.int x), l11, l12, l13, l14, l15] st M := e_st1 d171_85 rfl rfl rfl rfl rfl rfl rfl (Nat.le_of_ble_eq_true rfl) rfl
theorem d171_87 : decode (cod 171) 87 = .ok (.aload_n 1, 1) := by decide +kernel
theorem s171_87 {M : Mm} {st : List Value} {l0 l2 l3 l4 l5 l6 l7 l8 l9 l10 l11 l12 l13 l14 l15 : Option Value} {x : Nat} : EE 171 87 [l0, some (.ref x), l2, l3, l4, l5, l6, l7, l8, l9, l10, l11, l12, l13, l14, l15] st M = EE 171 88 [l0, some (.ref x), l2, l3, l4, l5, l6, l7, l8, l9, l10, l11, l12, l13, l14, l15] (.ref x :: st) M := e_ld d171_87 rfl rfl rfl rfl rfl rfl
theorem d171_88 : decode (cod 171) 88 = .ok (.aload_n 0, 1) := by decide +kernel
theorem s171_88 {M : Mm} {st : List Value} {l1 l2 l3 l4 l5 l6 l7 l8 l9 l10 l11 l12 l13 l14 l15 : Option Value} {x : Nat} : EE 171 88 [some (.ref x), l1, l2, l3, l4, l5, l6, l7, l8, l9, l10, l11, l12, l13, l14, l15] st M = EE 171 89 [some (.ref x), l1, l2, l3, l4, l5, l6, l7, l8, l9, l10, l11, l12, l13, l14, l15] (.ref x :: st) M := e_ld d171_88 rfl rfl rfl rfl rfl rfl
theorem d171_89 : decode (cod 171) 89 = .ok (.iconst 4, 1) := by decide +kernel
theorem s171_89 {M : Mm} {st : List Value} {l0 l1 l2 l3 l4 l5 l6 l7 l8 l9 l10 l11 l12 l13 l14 l15 : Option Value} : EE 171 89 [l0, l1, l2, l3, l4, l5, l6, l7, l8, l9, l10, l11, l12, l13, l14, l15] st M = EE 171 90 [l0, l1, l2, l3, l4, l5, l6, l7, l8, l9, l10, l11, l12, l13, l14, l15] (.int (nI 4) :: st) M := e_con d171_89 k_con_4
theorem d171_90 : decode (cod 171) 90 = .ok (.iload 4, 2) := by decide +kernel
theorem s171_90 {M : Mm} {st : List Value} {l0 l1 l2 l3 l5 l6 l7 l8 l9 l10 l11 l12 l13 l14 l15 : Option Value} {x : Int32} : EE 171 90 [l0, l1, l2, l3, some (.int x), l5, l6, l7, l8, l9, l10, l11, l12, l13, l14, l15] st M = EE 171 92 [l0, l1, l2, l3, some (.int x), l5, l6, l7, l8, l9, l10, l11, l12, l13, l14, l15] (.int x :: st) M := e_ld d171_90 rfl rfl rfl rfl rfl rfl
theorem d171_92 : decode (cod 171) 92 = .ok (.imul, 1) := by decide +kernel
theorem s171_92 {M : Mm} {st : List Value} {l0 l1 l2 l3 l4 l5 l6 l7 l8 l9 l10 l11 l12 l13 l14 l15 : Option Value} {x y : Int32} : EE 171 92 [l0, l1, l2, l3, l4, l5, l6, l7, l8, l9, l10, l11, l12, l13, l14, l15] (.int y :: .int x :: st) M = EE 171 93 [l0, l1, l2, l3, l4, l5, l6, l7, l8, l9, l10, l11, l12, l13, l14, l15] (.int (x * y) :: st) M := e_II d171_92 rfl rfl rfl rfl rfl rfl
theorem d171_93 : decode (cod 171) 93 = .ok (.invokestatic 81, 3) := by decide +kernel
theorem s171_93 {M : Mm} {l0 l1 l2 l3 l4 l5 l6 l7 l8 l9 l10 l11 l12 l13 l14 l15 : Option Value} {b0 : Nat} {b1 : Nat} {b2 : Int32} {st : List Value} (hl : st.length ≤ 4) : EE 171 93 [l0, l1, l2, l3, l4, l5, l6, l7, l8, l9, l10, l11, l12, l13, l14, l15] (.int b2 :: .ref b1 :: .ref b0 :: st) M = (FF 84 [.ref b0, .ref b1, .int b2] M).bind (fun z => EE 171 96 [l0, l1, l2, l3, l4, l5, l6, l7, l8, l9, l10, l11, l12, l13, l14, l15] (psh z.1 st) z.2) := e_cals (av := [.ref b0, .ref b1, .int b2]) d171_93 c4_81 (Or.inl rfl) rfl rfl r171_84 rfl hl
theorem d171_96 : decode (cod 171) 96 = .ok (.istore 11, 2) := by decide +kernel
theorem s171_96 {M : Mm} {st : List Value} {l0 l1 l2 l3 l4 l5 l6 l7 l8 l9 l10 l11 l12 l13 l14 l15 : Option Value} {x : Int32} : EE 171 96 [l0, l1, l2, l3, l4, l5, l6, l7, l8, l9, l10, l11, l12, l13, l14, l15] (.int x :: st) M = EE 171 98 [l0, l1, l2, l3, l4, l5, l6, l7, l8, l9, cln l10, some (.int x), l12, l13, l14, l15] st M := e_st1 d171_96 rfl rfl rfl rfl rfl rfl rfl (Nat.le_of_ble_eq_true rfl) rfl
theorem d171_98 : decode (cod 171) 98 = .ok (.iload 11, 2) := by decide +kernel
theorem s171_98 {M : Mm} {st : List Value} {l0 l1 l2 l3 l4 l5 l6 l7 l8 l9 l10 l12 l13 l14 l15 : Option Value} {x : Int32} : EE 171 98 [l0, l1, l2, l3, l4, l5, l6, l7, l8, l9, l10, some (.int x), l12, l13, l14, l15] st M = EE 171 100 [l0, l1, l2, l3, l4, l5, l6, l7, l8, l9, l10, some (.int x), l12, l13, l14, l15] (.int x :: st) M := e_ld d171_98 rfl rfl rfl rfl rfl rfl
theorem d171_100 : decode (cod 171) 100 = .ok (.bipush (-20), 2) := by decide +kernel
theorem s171_100 {M : Mm} {st : List Value} {l0 l1 l2 l3 l4 l5 l6 l7 l8 l9 l10 l11 l12 l13 l14 l15 : Option Value} : EE 171 100 [l0, l1, l2, l3, l4, l5, l6, l7, l8, l9, l10, l11, l12, l13, l14, l15] st M = EE 171 102 [l0, l1, l2, l3, l4, l5, l6, l7, l8, l9, l10, l11, l12, l13, l14, l15] (.int ((-20)) :: st) M := e_bip d171_100 k_bip_m20
theorem d171_102 : decode (cod 171) 102 = .ok (.if_icmp .ne 143, 3) := by decide +kernel
theorem s171_102 {M : Mm} {st : List Value} {l0 l1 l2 l3 l4 l5 l6 l7 l8 l9 l10 l11 l12 l13 l14 l15 : Option Value} {x y : Int32} : EE 171 102 [l0, l1, l2, l3, l4, l5, l6, l7, l8, l9, l10, l11, l12, l13, l14, l15] (.int y :: .int x :: st) M = if x = y then EE 171 105 [l0, l1, l2, l3, l4, l5, l6, l7, l8, l9, l10, l11, l12, l13, l14, l15] st M else EE 171 245 [l0, l1, l2, l3, l4, l5, l6, l7, l8, l9, l10, l11, l12, l13, l14, l15] st M := e_cne d171_102 (by decide)
theorem d171_105 : decode (cod 171) 105 = .ok (.aload_n 1, 1) := by decide +kernel
theorem s171_105 {M : Mm} {st : List Value} {l0 l2 l3 l4 l5 l6 l7 l8 l9 l10 l11 l12 l13 l14 l15 : Option Value} {x : Nat} : EE 171 105 [l0, some (.ref x), l2, l3, l4, l5, l6, l7, l8, l9, l10, l11, l12, l13, l14, l15] st M = EE 171 106 [l0, some (.ref x), l2, l3, l4, l5, l6, l7, l8, l9, l10, l11, l12, l13, l14, l15] (.ref x :: st) M := e_ld d171_105 rfl rfl rfl rfl rfl rfl
theorem d171_106 : decode (cod 171) 106 = .ok (.iconst 1, 1) := by decide +kernel
theorem s171_106 {M : Mm} {st : List Value} {l0 l1 l2 l3 l4 l5 l6 l7 l8 l9 l10 l11 l12 l13 l14 l15 : Option Value} : EE 171 106 [l0, l1, l2, l3, l4, l5, l6, l7, l8, l9, l10, l11, l12, l13, l14, l15] st M = EE 171 107 [l0, l1, l2, l3, l4, l5, l6, l7, l8, l9, l10, l11, l12, l13, l14, l15] (.int (nI 1) :: st) M := e_con d171_106 k_con_1
theorem d171_107 : decode (cod 171) 107 = .ok (.invokevirtual 15, 3) := by decide +kernel
theorem s171_107 {l0 l1 l2 l3 l4 l5 l6 l7 l8 l9 l10 l11 l12 l13 l14 l15 : Option Value} {a : Nat} {M : Mm} {b0 : Int32} {st : List Value} (hl : st.length ≤ 4) (ho : isO "HandoverDesk" M.1 a = true) : EE 171 107 [l0, l1, l2, l3, l4, l5, l6, l7, l8, l9, l10, l11, l12, l13, l14, l15] (.int b0 :: .ref a :: st) M = (FF 61 (.ref a :: [.int b0]) M).bind (fun z => EE 171 110 [l0, l1, l2, l3, l4, l5, l6, l7, l8, l9, l10, l11, l12, l13, l14, l15] (psh z.1 st) z.2) := e_calv (av := [.int b0]) d171_107 c4_15 rfl rfl rfl r171_61 rfl hl ho
theorem d171_110 : decode (cod 171) 110 = .ok (.aload_n 1, 1) := by decide +kernel
theorem s171_110 {M : Mm} {st : List Value} {l0 l2 l3 l4 l5 l6 l7 l8 l9 l10 l11 l12 l13 l14 l15 : Option Value} {x : Nat} : EE 171 110 [l0, some (.ref x), l2, l3, l4, l5, l6, l7, l8, l9, l10, l11, l12, l13, l14, l15] st M = EE 171 111 [l0, some (.ref x), l2, l3, l4, l5, l6, l7, l8, l9, l10, l11, l12, l13, l14, l15] (.ref x :: st) M := e_ld d171_110 rfl rfl rfl rfl rfl rfl
theorem d171_111 : decode (cod 171) 111 = .ok (.iload 9, 2) := by decide +kernel
theorem s171_111 {M : Mm} {st : List Value} {l0 l1 l2 l3 l4 l5 l6 l7 l8 l10 l11 l12 l13 l14 l15 : Option Value} {x : Int32} : EE 171 111 [l0, l1, l2, l3, l4, l5, l6, l7, l8, some (.int x), l10, l11, l12, l13, l14, l15] st M = EE 171 113 [l0, l1, l2, l3, l4, l5, l6, l7, l8, some (.int x), l10, l11, l12, l13, l14, l15] (.int x :: st) M := e_ld d171_111 rfl rfl rfl rfl rfl rfl
theorem d171_113 : decode (cod 171) 113 = .ok (.iconst 1, 1) := by decide +kernel
theorem s171_113 {M : Mm} {st : List Value} {l0 l1 l2 l3 l4 l5 l6 l7 l8 l9 l10 l11 l12 l13 l14 l15 : Option Value} : EE 171 113 [l0, l1, l2, l3, l4, l5, l6, l7, l8, l9, l10, l11, l12, l13, l14, l15] st M = EE 171 114 [l0, l1, l2, l3, l4, l5, l6, l7, l8, l9, l10, l11, l12, l13, l14, l15] (.int (nI 1) :: st) M := e_con d171_113 k_con_1
theorem d171_114 : decode (cod 171) 114 = .ok (.iadd, 1) := by decide +kernel
theorem s171_114 {M : Mm} {st : List Value} {l0 l1 l2 l3 l4 l5 l6 l7 l8 l9 l10 l11 l12 l13 l14 l15 : Option Value} {x y : Int32} : EE 171 114 [l0, l1, l2, l3, l4, l5, l6, l7, l8, l9, l10, l11, l12, l13, l14, l15] (.int y :: .int x :: st) M = EE 171 115 [l0, l1, l2, l3, l4, l5, l6, l7, l8, l9, l10, l11, l12, l13, l14, l15] (.int (x + y) :: st) M := e_II d171_114 rfl rfl rfl rfl rfl rfl
theorem d171_115 : decode (cod 171) 115 = .ok (.bipush 12, 2) := by decide +kernel
theorem s171_115 {M : Mm} {st : List Value} {l0 l1 l2 l3 l4 l5 l6 l7 l8 l9 l10 l11 l12 l13 l14 l15 : Option Value} : EE 171 115 [l0, l1, l2, l3, l4, l5, l6, l7, l8, l9, l10, l11, l12, l13, l14, l15] st M = EE 171 117 [l0, l1, l2, l3, l4, l5, l6, l7, l8, l9, l10, l11, l12, l13, l14, l15] (.int (nI 12) :: st) M := e_bip d171_115 k_bip_12
theorem d171_117 : decode (cod 171) 117 = .ok (.irem, 1) := by decide +kernel
theorem s171_117 {M : Mm} {st : List Value} {l0 l1 l2 l3 l4 l5 l6 l7 l8 l9 l10 l11 l12 l13 l14 l15 : Option Value} {x y : Nat} (h1 : x < 2 ^ 31) (h2 : 0 < y) (h3 : y < 2 ^ 31) : EE 171 117 [l0, l1, l2, l3, l4, l5, l6, l7, l8, l9, l10, l11, l12, l13, l14, l15] (.int (nI y) :: .int (nI x) :: st) M = EE 171 118 [l0, l1, l2, l3, l4, l5, l6, l7, l8, l9, l10, l11, l12, l13, l14, l15] (.int (nI (x % y)) :: st) M := e_remN d171_117 h1 h2 h3
theorem d171_118 : decode (cod 171) 118 = .ok (.iconst 0, 1) := by decide +kernel
theorem s171_118 {M : Mm} {st : List Value} {l0 l1 l2 l3 l4 l5 l6 l7 l8 l9 l10 l11 l12 l13 l14 l15 : Option Value} : EE 171 118 [l0, l1, l2, l3, l4, l5, l6, l7, l8, l9, l10, l11, l12, l13, l14, l15] st M = EE 171 119 [l0, l1, l2, l3, l4, l5, l6, l7, l8, l9, l10, l11, l12, l13, l14, l15] (.int (nI 0) :: st) M := e_con d171_118 k_con_0
theorem d171_119 : decode (cod 171) 119 = .ok (.invokevirtual 28, 3) := by decide +kernel
theorem s171_119 {l0 l1 l2 l3 l4 l5 l6 l7 l8 l9 l10 l11 l12 l13 l14 l15 : Option Value} {a : Nat} {M : Mm} {b0 : Int32} {b1 : Int32} {st : List Value} (hl : st.length ≤ 4) (ho : isO "HandoverDesk" M.1 a = true) : EE 171 119 [l0, l1, l2, l3, l4, l5, l6, l7, l8, l9, l10, l11, l12, l13, l14, l15] (.int b1 :: .int b0 :: .ref a :: st) M = (FF 62 (.ref a :: [.int b0, .int b1]) M).bind (fun z => EE 171 122 [l0, l1, l2, l3, l4, l5, l6, l7, l8, l9, l10, l11, l12, l13, l14, l15] (psh z.1 st) z.2) := e_calv (av := [.int b0, .int b1]) d171_119 c4_28 rfl rfl rfl r171_62 rfl hl ho
theorem d171_122 : decode (cod 171) 122 = .ok (.if_icmp .ne 7, 3) := by decide +kernel
theorem s171_122 {M : Mm} {st : List Value} {l0 l1 l2 l3 l4 l5 l6 l7 l8 l9 l10 l11 l12 l13 l14 l15 : Option Value} {x y : Int32} : EE 171 122 [l0, l1, l2, l3, l4, l5, l6, l7, l8, l9, l10, l11, l12, l13, l14, l15] (.int y :: .int x :: st) M = if x = y then EE 171 125 [l0, l1, l2, l3, l4, l5, l6, l7, l8, l9, l10, l11, l12, l13, l14, l15] st M else EE 171 129 [l0, l1, l2, l3, l4, l5, l6, l7, l8, l9, l10, l11, l12, l13, l14, l15] st M := e_cne d171_122 (by decide)
theorem d171_125 : decode (cod 171) 125 = .ok (.iconst 1, 1) := by decide +kernel
theorem s171_125 {M : Mm} {st : List Value} {l0 l1 l2 l3 l4 l5 l6 l7 l8 l9 l10 l11 l12 l13 l14 l15 : Option Value} : EE 171 125 [l0, l1, l2, l3, l4, l5, l6, l7, l8, l9, l10, l11, l12, l13, l14, l15] st M = EE 171 126 [l0, l1, l2, l3, l4, l5, l6, l7, l8, l9, l10, l11, l12, l13, l14, l15] (.int (nI 1) :: st) M := e_con d171_125 k_con_1
theorem d171_126 : decode (cod 171) 126 = .ok (.goto 4, 3) := by decide +kernel
theorem s171_126 {M : Mm} {st : List Value} {l0 l1 l2 l3 l4 l5 l6 l7 l8 l9 l10 l11 l12 l13 l14 l15 : Option Value} : EE 171 126 [l0, l1, l2, l3, l4, l5, l6, l7, l8, l9, l10, l11, l12, l13, l14, l15] st M = EE 171 130 [l0, l1, l2, l3, l4, l5, l6, l7, l8, l9, l10, l11, l12, l13, l14, l15] st M := e_goto d171_126 (by decide)
theorem d171_129 : decode (cod 171) 129 = .ok (.iconst 0, 1) := by decide +kernel
theorem s171_129 {M : Mm} {st : List Value} {l0 l1 l2 l3 l4 l5 l6 l7 l8 l9 l10 l11 l12 l13 l14 l15 : Option Value} : EE 171 129 [l0, l1, l2, l3, l4, l5, l6, l7, l8, l9, l10, l11, l12, l13, l14, l15] st M = EE 171 130 [l0, l1, l2, l3, l4, l5, l6, l7, l8, l9, l10, l11, l12, l13, l14, l15] (.int (nI 0) :: st) M := e_con d171_129 k_con_0
theorem d171_130 : decode (cod 171) 130 = .ok (.istore 12, 2) := by decide +kernel
theorem s171_130 {M : Mm} {st : List Value} {l0 l1 l2 l3 l4 l5 l6 l7 l8 l9 l10 l11 l12 l13 l14 l15 : Option Value} {x : Int32} : EE 171 130 [l0, l1, l2, l3, l4, l5, l6, l7, l8, l9, l10, l11, l12, l13, l14, l15] (.int x :: st) M = EE 171 132 [l0, l1, l2, l3, l4, l5, l6, l7, l8, l9, l10, cln l11, some (.int x), l13, l14, l15] st M := e_st1 d171_130 rfl rfl rfl rfl rfl rfl rfl (Nat.le_of_ble_eq_true rfl) rfl
theorem d171_132 : decode (cod 171) 132 = .ok (.iload 12, 2) := by decide +kernel
theorem s171_132 {M : Mm} {st : List Value} {l0 l1 l2 l3 l4 l5 l6 l7 l8 l9 l10 l11 l13 l14 l15 : Option Value} {x : Int32} : EE 171 132 [l0, l1, l2, l3, l4, l5, l6, l7, l8, l9, l10, l11, some (.int x), l13, l14, l15] st M = EE 171 134 [l0, l1, l2, l3, l4, l5, l6, l7, l8, l9, l10, l11, some (.int x), l13, l14, l15] (.int x :: st) M := e_ld d171_132 rfl rfl rfl rfl rfl rfl
theorem d171_134 : decode (cod 171) 134 = .ok (.ifCond .eq 7, 3) := by decide +kernel
theorem s171_134 {M : Mm} {st : List Value} {l0 l1 l2 l3 l4 l5 l6 l7 l8 l9 l10 l11 l12 l13 l14 l15 : Option Value} {x : Int32} : EE 171 134 [l0, l1, l2, l3, l4, l5, l6, l7, l8, l9, l10, l11, l12, l13, l14, l15] (.int x :: st) M = if x = 0 then EE 171 141 [l0, l1, l2, l3, l4, l5, l6, l7, l8, l9, l10, l11, l12, l13, l14, l15] st M else EE 171 137 [l0, l1, l2, l3, l4, l5, l6, l7, l8, l9, l10, l11, l12, l13, l14, l15] st M := e_eq0 d171_134 (by decide)
theorem d171_137 : decode (cod 171) 137 = .ok (.iconst 0, 1) := by decide +kernel
theorem s171_137 {M : Mm} {st : List Value} {l0 l1 l2 l3 l4 l5 l6 l7 l8 l9 l10 l11 l12 l13 l14 l15 : Option Value} : EE 171 137 [l0, l1, l2, l3, l4, l5, l6, l7, l8, l9, l10, l11, l12, l13, l14, l15] st M = EE 171 138 [l0, l1, l2, l3, l4, l5, l6, l7, l8, l9, l10, l11, l12, l13, l14, l15] (.int (nI 0) :: st) M := e_con d171_137 k_con_0
theorem d171_138 : decode (cod 171) 138 = .ok (.goto 13, 3) := by decide +kernel
theorem s171_138 {M : Mm} {st : List Value} {l0 l1 l2 l3 l4 l5 l6 l7 l8 l9 l10 l11 l12 l13 l14 l15 : Option Value} : EE 171 138 [l0, l1, l2, l3, l4, l5, l6, l7, l8, l9, l10, l11, l12, l13, l14, l15] st M = EE 171 151 [l0, l1, l2, l3, l4, l5, l6, l7, l8, l9, l10, l11, l12, l13, l14, l15] st M := e_goto d171_138 (by decide)
theorem d171_141 : decode (cod 171) 141 = .ok (.aload_n 1, 1) := by decide +kernel
theorem s171_141 {M : Mm} {st : List Value} {l0 l2 l3 l4 l5 l6 l7 l8 l9 l10 l11 l12 l13 l14 l15 : Option Value} {x : Nat} : EE 171 141 [l0, some (.ref x), l2, l3, l4, l5, l6, l7, l8, l9, l10, l11, l12, l13, l14, l15] st M = EE 171 142 [l0, some (.ref x), l2, l3, l4, l5, l6, l7, l8, l9, l10, l11, l12, l13, l14, l15] (.ref x :: st) M := e_ld d171_141 rfl rfl rfl rfl rfl rfl
theorem d171_142 : decode (cod 171) 142 = .ok (.iload 9, 2) := by decide +kernel
theorem s171_142 {M : Mm} {st : List Value} {l0 l1 l2 l3 l4 l5 l6 l7 l8 l10 l11 l12 l13 l14 l15 : Option Value} {x : Int32} : EE 171 142 [l0, l1, l2, l3, l4, l5, l6, l7, l8, some (.int x), l10, l11, l12, l13, l14, l15] st M = EE 171 144 [l0, l1, l2, l3, l4, l5, l6, l7, l8, some (.int x), l10, l11, l12, l13, l14, l15] (.int x :: st) M := e_ld d171_142 rfl rfl rfl rfl rfl rfl
theorem d171_144 : decode (cod 171) 144 = .ok (.bipush 12, 2) := by decide +kernel
theorem s171_144 {M : Mm} {st : List Value} {l0 l1 l2 l3 l4 l5 l6 l7 l8 l9 l10 l11 l12 l13 l14 l15 : Option Value} : EE 171 144 [l0, l1, l2, l3, l4, l5, l6, l7, l8, l9, l10, l11, l12, l13, l14, l15] st M = EE 171 146 [l0, l1, l2, l3, l4, l5, l6, l7, l8, l9, l10, l11, l12, l13, l14, l15] (.int (nI 12) :: st) M := e_bip d171_144 k_bip_12
theorem d171_146 : decode (cod 171) 146 = .ok (.irem, 1) := by decide +kernel
theorem s171_146 {M : Mm} {st : List Value} {l0 l1 l2 l3 l4 l5 l6 l7 l8 l9 l10 l11 l12 l13 l14 l15 : Option Value} {x y : Nat} (h1 : x < 2 ^ 31) (h2 : 0 < y) (h3 : y < 2 ^ 31) : EE 171 146 [l0, l1, l2, l3, l4, l5, l6, l7, l8, l9, l10, l11, l12, l13, l14, l15] (.int (nI y) :: .int (nI x) :: st) M = EE 171 147 [l0, l1, l2, l3, l4, l5, l6, l7, l8, l9, l10, l11, l12, l13, l14, l15] (.int (nI (x % y)) :: st) M := e_remN d171_146 h1 h2 h3
theorem d171_147 : decode (cod 171) 147 = .ok (.iconst 1, 1) := by decide +kernel
theorem s171_147 {M : Mm} {st : List Value} {l0 l1 l2 l3 l4 l5 l6 l7 l8 l9 l10 l11 l12 l13 l14 l15 : Option Value} : EE 171 147 [l0, l1, l2, l3, l4, l5, l6, l7, l8, l9, l10, l11, l12, l13, l14, l15] st M = EE 171 148 [l0, l1, l2, l3, l4, l5, l6, l7, l8, l9, l10, l11, l12, l13, l14, l15] (.int (nI 1) :: st) M := e_con d171_147 k_con_1
theorem d171_148 : decode (cod 171) 148 = .ok (.invokevirtual 28, 3) := by decide +kernel
theorem s171_148 {l0 l1 l2 l3 l4 l5 l6 l7 l8 l9 l10 l11 l12 l13 l14 l15 : Option Value} {a : Nat} {M : Mm} {b0 : Int32} {b1 : Int32} {st : List Value} (hl : st.length ≤ 4) (ho : isO "HandoverDesk" M.1 a = true) : EE 171 148 [l0, l1, l2, l3, l4, l5, l6, l7, l8, l9, l10, l11, l12, l13, l14, l15] (.int b1 :: .int b0 :: .ref a :: st) M = (FF 62 (.ref a :: [.int b0, .int b1]) M).bind (fun z => EE 171 151 [l0, l1, l2, l3, l4, l5, l6, l7, l8, l9, l10, l11, l12, l13, l14, l15] (psh z.1 st) z.2) := e_calv (av := [.int b0, .int b1]) d171_148 c4_28 rfl rfl rfl r171_62 rfl hl ho
theorem d171_151 : decode (cod 171) 151 = .ok (.istore 13, 2) := by decide +kernel
theorem s171_151 {M : Mm} {st : List Value} {l0 l1 l2 l3 l4 l5 l6 l7 l8 l9 l10 l11 l12 l13 l14 l15 : Option Value} {x : Int32} : EE 171 151 [l0, l1, l2, l3, l4, l5, l6, l7, l8, l9, l10, l11, l12, l13, l14, l15] (.int x :: st) M = EE 171 153 [l0, l1, l2, l3, l4, l5, l6, l7, l8, l9, l10, l11, cln l12, some (.int x), l14, l15] st M := e_st1 d171_151 rfl rfl rfl rfl rfl rfl rfl (Nat.le_of_ble_eq_true rfl) rfl
theorem d171_153 : decode (cod 171) 153 = .ok (.aload_n 1, 1) := by decide +kernel
theorem s171_153 {M : Mm} {st : List Value} {l0 l2 l3 l4 l5 l6 l7 l8 l9 l10 l11 l12 l13 l14 l15 : Option Value} {x : Nat} : EE 171 153 [l0, some (.ref x), l2, l3, l4, l5, l6, l7, l8, l9, l10, l11, l12, l13, l14, l15] st M = EE 171 154 [l0, some (.ref x), l2, l3, l4, l5, l6, l7, l8, l9, l10, l11, l12, l13, l14, l15] (.ref x :: st) M := e_ld d171_153 rfl rfl rfl rfl rfl rfl
theorem d171_154 : decode (cod 171) 154 = .ok (.iconst 1, 1) := by decide +kernel
theorem s171_154 {M : Mm} {st : List Value} {l0 l1 l2 l3 l4 l5 l6 l7 l8 l9 l10 l11 l12 l13 l14 l15 : Option Value} : EE 171 154 [l0, l1, l2, l3, l4, l5, l6, l7, l8, l9, l10, l11, l12, l13, l14, l15] st M = EE 171 155 [l0, l1, l2, l3, l4, l5, l6, l7, l8, l9, l10, l11, l12, l13, l14, l15] (.int (nI 1) :: st) M := e_con d171_154 k_con_1
theorem d171_155 : decode (cod 171) 155 = .ok (.invokevirtual 85, 3) := by decide +kernel
theorem s171_155 {l0 l1 l2 l3 l4 l5 l6 l7 l8 l9 l10 l11 l12 l13 l14 l15 : Option Value} {a : Nat} {M : Mm} {b0 : Int32} {st : List Value} (hl : st.length ≤ 4) (ho : isO "HandoverDesk" M.1 a = true) : EE 171 155 [l0, l1, l2, l3, l4, l5, l6, l7, l8, l9, l10, l11, l12, l13, l14, l15] (.int b0 :: .ref a :: st) M = (FF 69 (.ref a :: [.int b0]) M).bind (fun z => EE 171 158 [l0, l1, l2, l3, l4, l5, l6, l7, l8, l9, l10, l11, l12, l13, l14, l15] (psh z.1 st) z.2) := e_calv (av := [.int b0]) d171_155 c4_85 rfl rfl rfl r171_69 rfl hl ho
theorem d171_158 : decode (cod 171) 158 = .ok (.istore 14, 2) := by decide +kernel
theorem s171_158 {M : Mm} {st : List Value} {l0 l1 l2 l3 l4 l5 l6 l7 l8 l9 l10 l11 l12 l13 l14 l15 : Option Value} {x : Int32} : EE 171 158 [l0, l1, l2, l3, l4, l5, l6, l7, l8, l9, l10, l11, l12, l13, l14, l15] (.int x :: st) M = EE 171 160 [l0, l1, l2, l3, l4, l5, l6, l7, l8, l9, l10, l11, l12, cln l13, some (.int x), l15] st M := e_st1 d171_158 rfl rfl rfl rfl rfl rfl rfl (Nat.le_of_ble_eq_true rfl) rfl
theorem d171_160 : decode (cod 171) 160 = .ok (.aload_n 1, 1) := by decide +kernel
theorem s171_160 {M : Mm} {st : List Value} {l0 l2 l3 l4 l5 l6 l7 l8 l9 l10 l11 l12 l13 l14 l15 : Option Value} {x : Nat} : EE 171 160 [l0, some (.ref x), l2, l3, l4, l5, l6, l7, l8, l9, l10, l11, l12, l13, l14, l15] st M = EE 171 161 [l0, some (.ref x), l2, l3, l4, l5, l6, l7, l8, l9, l10, l11, l12, l13, l14, l15] (.ref x :: st) M := e_ld d171_160 rfl rfl rfl rfl rfl rfl
theorem d171_161 : decode (cod 171) 161 = .ok (.invokevirtual 88, 3) := by decide +kernel
theorem s171_161 {l0 l1 l2 l3 l4 l5 l6 l7 l8 l9 l10 l11 l12 l13 l14 l15 : Option Value} {a : Nat} {M : Mm} {st : List Value} (hl : st.length ≤ 4) (ho : isO "HandoverDesk" M.1 a = true) : EE 171 161 [l0, l1, l2, l3, l4, l5, l6, l7, l8, l9, l10, l11, l12, l13, l14, l15] (.ref a :: st) M = (FF 57 (.ref a :: []) M).bind (fun z => EE 171 164 [l0, l1, l2, l3, l4, l5, l6, l7, l8, l9, l10, l11, l12, l13, l14, l15] (psh z.1 st) z.2) := e_calv (av := []) d171_161 c4_88 rfl rfl rfl r171_57 rfl hl ho
theorem d171_164 : decode (cod 171) 164 = .ok (.istore 15, 2) := by decide +kernel
theorem s171_164 {M : Mm} {st : List Value} {l0 l1 l2 l3 l4 l5 l6 l7 l8 l9 l10 l11 l12 l13 l14 l15 : Option Value} {x : Int32} : EE 171 164 [l0, l1, l2, l3, l4, l5, l6, l7, l8, l9, l10, l11, l12, l13, l14, l15] (.int x :: st) M = EE 171 166 [l0, l1, l2, l3, l4, l5, l6, l7, l8, l9, l10, l11, l12, l13, cln l14, some (.int x)] st M := e_st1 d171_164 rfl rfl rfl rfl rfl rfl rfl (Nat.le_of_ble_eq_true rfl) rfl
theorem d171_166 : decode (cod 171) 166 = .ok (.aload_n 1, 1) := by decide +kernel
theorem s171_166 {M : Mm} {st : List Value} {l0 l2 l3 l4 l5 l6 l7 l8 l9 l10 l11 l12 l13 l14 l15 : Option Value} {x : Nat} : EE 171 166 [l0, some (.ref x), l2, l3, l4, l5, l6, l7, l8, l9, l10, l11, l12, l13, l14, l15] st M = EE 171 167 [l0, some (.ref x), l2, l3, l4, l5, l6, l7, l8, l9, l10, l11, l12, l13, l14, l15] (.ref x :: st) M := e_ld d171_166 rfl rfl rfl rfl rfl rfl
theorem d171_167 : decode (cod 171) 167 = .ok (.iconst 4, 1) := by decide +kernel
theorem s171_167 {M : Mm} {st : List Value} {l0 l1 l2 l3 l4 l5 l6 l7 l8 l9 l10 l11 l12 l13 l14 l15 : Option Value} : EE 171 167 [l0, l1, l2, l3, l4, l5, l6, l7, l8, l9, l10, l11, l12, l13, l14, l15] st M = EE 171 168 [l0, l1, l2, l3, l4, l5, l6, l7, l8, l9, l10, l11, l12, l13, l14, l15] (.int (nI 4) :: st) M := e_con d171_167 k_con_4
theorem d171_168 : decode (cod 171) 168 = .ok (.invokevirtual 15, 3) := by decide +kernel
theorem s171_168 {l0 l1 l2 l3 l4 l5 l6 l7 l8 l9 l10 l11 l12 l13 l14 l15 : Option Value} {a : Nat} {M : Mm} {b0 : Int32} {st : List Value} (hl : st.length ≤ 4) (ho : isO "HandoverDesk" M.1 a = true) : EE 171 168 [l0, l1, l2, l3, l4, l5, l6, l7, l8, l9, l10, l11, l12, l13, l14, l15] (.int b0 :: .ref a :: st) M = (FF 61 (.ref a :: [.int b0]) M).bind (fun z => EE 171 171 [l0, l1, l2, l3, l4, l5, l6, l7, l8, l9, l10, l11, l12, l13, l14, l15] (psh z.1 st) z.2) := e_calv (av := [.int b0]) d171_168 c4_15 rfl rfl rfl r171_61 rfl hl ho
theorem d171_171 : decode (cod 171) 171 = .ok (.iload 6, 2) := by decide +kernel
theorem s171_171 {M : Mm} {st : List Value} {l0 l1 l2 l3 l4 l5 l7 l8 l9 l10 l11 l12 l13 l14 l15 : Option Value} {x : Int32} : EE 171 171 [l0, l1, l2, l3, l4, l5, some (.int x), l7, l8, l9, l10, l11, l12, l13, l14, l15] st M = EE 171 173 [l0, l1, l2, l3, l4, l5, some (.int x), l7, l8, l9, l10, l11, l12, l13, l14, l15] (.int x :: st) M := e_ld d171_171 rfl rfl rfl rfl rfl rfl
theorem d171_173 : decode (cod 171) 173 = .ok (.iload 15, 2) := by decide +kernel
theorem s171_173 {M : Mm} {st : List Value} {l0 l1 l2 l3 l4 l5 l6 l7 l8 l9 l10 l11 l12 l13 l14 : Option Value} {x : Int32} : EE 171 173 [l0, l1, l2, l3, l4, l5, l6, l7, l8, l9, l10, l11, l12, l13, l14, some (.int x)] st M = EE 171 175 [l0, l1, l2, l3, l4, l5, l6, l7, l8, l9, l10, l11, l12, l13, l14, some (.int x)] (.int x :: st) M := e_ld d171_173 rfl rfl rfl rfl rfl rfl
theorem d171_175 : decode (cod 171) 175 = .ok (.iadd, 1) := by decide +kernel
theorem s171_175 {M : Mm} {st : List Value} {l0 l1 l2 l3 l4 l5 l6 l7 l8 l9 l10 l11 l12 l13 l14 l15 : Option Value} {x y : Int32} : EE 171 175 [l0, l1, l2, l3, l4, l5, l6, l7, l8, l9, l10, l11, l12, l13, l14, l15] (.int y :: .int x :: st) M = EE 171 176 [l0, l1, l2, l3, l4, l5, l6, l7, l8, l9, l10, l11, l12, l13, l14, l15] (.int (x + y) :: st) M := e_II d171_175 rfl rfl rfl rfl rfl rfl
theorem d171_176 : decode (cod 171) 176 = .ok (.if_icmp .ne 64, 3) := by decide +kernel
theorem s171_176 {M : Mm} {st : List Value} {l0 l1 l2 l3 l4 l5 l6 l7 l8 l9 l10 l11 l12 l13 l14 l15 : Option Value} {x y : Int32} : EE 171 176 [l0, l1, l2, l3, l4, l5, l6, l7, l8, l9, l10, l11, l12, l13, l14, l15] (.int y :: .int x :: st) M = if x = y then EE 171 179 [l0, l1, l2, l3, l4, l5, l6, l7, l8, l9, l10, l11, l12, l13, l14, l15] st M else EE 171 240 [l0, l1, l2, l3, l4, l5, l6, l7, l8, l9, l10, l11, l12, l13, l14, l15] st M := e_cne d171_176 (by decide)
theorem d171_179 : decode (cod 171) 179 = .ok (.aload_n 1, 1) := by decide +kernel
theorem s171_179 {M : Mm} {st : List Value} {l0 l2 l3 l4 l5 l6 l7 l8 l9 l10 l11 l12 l13 l14 l15 : Option Value} {x : Nat} : EE 171 179 [l0, some (.ref x), l2, l3, l4, l5, l6, l7, l8, l9, l10, l11, l12, l13, l14, l15] st M = EE 171 180 [l0, some (.ref x), l2, l3, l4, l5, l6, l7, l8, l9, l10, l11, l12, l13, l14, l15] (.ref x :: st) M := e_ld d171_179 rfl rfl rfl rfl rfl rfl
theorem d171_180 : decode (cod 171) 180 = .ok (.iconst 5, 1) := by decide +kernel
theorem s171_180 {M : Mm} {st : List Value} {l0 l1 l2 l3 l4 l5 l6 l7 l8 l9 l10 l11 l12 l13 l14 l15 : Option Value} : EE 171 180 [l0, l1, l2, l3, l4, l5, l6, l7, l8, l9, l10, l11, l12, l13, l14, l15] st M = EE 171 181 [l0, l1, l2, l3, l4, l5, l6, l7, l8, l9, l10, l11, l12, l13, l14, l15] (.int (nI 5) :: st) M := e_con d171_180 k_con_5
theorem d171_181 : decode (cod 171) 181 = .ok (.invokevirtual 15, 3) := by decide +kernel
theorem s171_181 {l0 l1 l2 l3 l4 l5 l6 l7 l8 l9 l10 l11 l12 l13 l14 l15 : Option Value} {a : Nat} {M : Mm} {b0 : Int32} {st : List Value} (hl : st.length ≤ 4) (ho : isO "HandoverDesk" M.1 a = true) : EE 171 181 [l0, l1, l2, l3, l4, l5, l6, l7, l8, l9, l10, l11, l12, l13, l14, l15] (.int b0 :: .ref a :: st) M = (FF 61 (.ref a :: [.int b0]) M).bind (fun z => EE 171 184 [l0, l1, l2, l3, l4, l5, l6, l7, l8, l9, l10, l11, l12, l13, l14, l15] (psh z.1 st) z.2) := e_calv (av := [.int b0]) d171_181 c4_15 rfl rfl rfl r171_61 rfl hl ho
theorem d171_184 : decode (cod 171) 184 = .ok (.iload 7, 2) := by decide +kernel
theorem s171_184 {M : Mm} {st : List Value} {l0 l1 l2 l3 l4 l5 l6 l8 l9 l10 l11 l12 l13 l14 l15 : Option Value} {x : Int32} : EE 171 184 [l0, l1, l2, l3, l4, l5, l6, some (.int x), l8, l9, l10, l11, l12, l13, l14, l15] st M = EE 171 186 [l0, l1, l2, l3, l4, l5, l6, some (.int x), l8, l9, l10, l11, l12, l13, l14, l15] (.int x :: st) M := e_ld d171_184 rfl rfl rfl rfl rfl rfl
theorem d171_186 : decode (cod 171) 186 = .ok (.iload 13, 2) := by decide +kernel
theorem s171_186 {M : Mm} {st : List Value} {l0 l1 l2 l3 l4 l5 l6 l7 l8 l9 l10 l11 l12 l14 l15 : Option Value} {x : Int32} : EE 171 186 [l0, l1, l2, l3, l4, l5, l6, l7, l8, l9, l10, l11, l12, some (.int x), l14, l15] st M = EE 171 188 [l0, l1, l2, l3, l4, l5, l6, l7, l8, l9, l10, l11, l12, some (.int x), l14, l15] (.int x :: st) M := e_ld d171_186 rfl rfl rfl rfl rfl rfl
theorem d171_188 : decode (cod 171) 188 = .ok (.iadd, 1) := by decide +kernel
theorem s171_188 {M : Mm} {st : List Value} {l0 l1 l2 l3 l4 l5 l6 l7 l8 l9 l10 l11 l12 l13 l14 l15 : Option Value} {x y : Int32} : EE 171 188 [l0, l1, l2, l3, l4, l5, l6, l7, l8, l9, l10, l11, l12, l13, l14, l15] (.int y :: .int x :: st) M = EE 171 189 [l0, l1, l2, l3, l4, l5, l6, l7, l8, l9, l10, l11, l12, l13, l14, l15] (.int (x + y) :: st) M := e_II d171_188 rfl rfl rfl rfl rfl rfl
theorem d171_189 : decode (cod 171) 189 = .ok (.if_icmp .ne 51, 3) := by decide +kernel
theorem s171_189 {M : Mm} {st : List Value} {l0 l1 l2 l3 l4 l5 l6 l7 l8 l9 l10 l11 l12 l13 l14 l15 : Option Value} {x y : Int32} : EE 171 189 [l0, l1, l2, l3, l4, l5, l6, l7, l8, l9, l10, l11, l12, l13, l14, l15] (.int y :: .int x :: st) M = if x = y then EE 171 192 [l0, l1, l2, l3, l4, l5, l6, l7, l8, l9, l10, l11, l12, l13, l14, l15] st M else EE 171 240 [l0, l1, l2, l3, l4, l5, l6, l7, l8, l9, l10, l11, l12, l13, l14, l15] st M := e_cne d171_189 (by decide)
theorem d171_192 : decode (cod 171) 192 = .ok (.aload_n 1, 1) := by decide +kernel
theorem s171_192 {M : Mm} {st : List Value} {l0 l2 l3 l4 l5 l6 l7 l8 l9 l10 l11 l12 l13 l14 l15 : Option Value} {x : Nat} : EE 171 192 [l0, some (.ref x), l2, l3, l4, l5, l6, l7, l8, l9, l10, l11, l12, l13, l14, l15] st M = EE 171 193 [l0, some (.ref x), l2, l3, l4, l5, l6, l7, l8, l9, l10, l11, l12, l13, l14, l15] (.ref x :: st) M := e_ld d171_192 rfl rfl rfl rfl rfl rfl
theorem d171_193 : decode (cod 171) 193 = .ok (.bipush 7, 2) := by decide +kernel
theorem s171_193 {M : Mm} {st : List Value} {l0 l1 l2 l3 l4 l5 l6 l7 l8 l9 l10 l11 l12 l13 l14 l15 : Option Value} : EE 171 193 [l0, l1, l2, l3, l4, l5, l6, l7, l8, l9, l10, l11, l12, l13, l14, l15] st M = EE 171 195 [l0, l1, l2, l3, l4, l5, l6, l7, l8, l9, l10, l11, l12, l13, l14, l15] (.int (nI 7) :: st) M := e_bip d171_193 k_bip_7
theorem d171_195 : decode (cod 171) 195 = .ok (.invokevirtual 15, 3) := by decide +kernel
theorem s171_195 {l0 l1 l2 l3 l4 l5 l6 l7 l8 l9 l10 l11 l12 l13 l14 l15 : Option Value} {a : Nat} {M : Mm} {b0 : Int32} {st : List Value} (hl : st.length ≤ 4) (ho : isO "HandoverDesk" M.1 a = true) : EE 171 195 [l0, l1, l2, l3, l4, l5, l6, l7, l8, l9, l10, l11, l12, l13, l14, l15] (.int b0 :: .ref a :: st) M = (FF 61 (.ref a :: [.int b0]) M).bind (fun z => EE 171 198 [l0, l1, l2, l3, l4, l5, l6, l7, l8, l9, l10, l11, l12, l13, l14, l15] (psh z.1 st) z.2) := e_calv (av := [.int b0]) d171_195 c4_15 rfl rfl rfl r171_61 rfl hl ho
theorem d171_198 : decode (cod 171) 198 = .ok (.iload 8, 2) := by decide +kernel
theorem s171_198 {M : Mm} {st : List Value} {l0 l1 l2 l3 l4 l5 l6 l7 l9 l10 l11 l12 l13 l14 l15 : Option Value} {x : Int32} : EE 171 198 [l0, l1, l2, l3, l4, l5, l6, l7, some (.int x), l9, l10, l11, l12, l13, l14, l15] st M = EE 171 200 [l0, l1, l2, l3, l4, l5, l6, l7, some (.int x), l9, l10, l11, l12, l13, l14, l15] (.int x :: st) M := e_ld d171_198 rfl rfl rfl rfl rfl rfl
theorem d171_200 : decode (cod 171) 200 = .ok (.iload 13, 2) := by decide +kernel
theorem s171_200 {M : Mm} {st : List Value} {l0 l1 l2 l3 l4 l5 l6 l7 l8 l9 l10 l11 l12 l14 l15 : Option Value} {x : Int32} : EE 171 200 [l0, l1, l2, l3, l4, l5, l6, l7, l8, l9, l10, l11, l12, some (.int x), l14, l15] st M = EE 171 202 [l0, l1, l2, l3, l4, l5, l6, l7, l8, l9, l10, l11, l12, some (.int x), l14, l15] (.int x :: st) M := e_ld d171_200 rfl rfl rfl rfl rfl rfl
theorem d171_202 : decode (cod 171) 202 = .ok (.aload_n 1, 1) := by decide +kernel
theorem s171_202 {M : Mm} {st : List Value} {l0 l2 l3 l4 l5 l6 l7 l8 l9 l10 l11 l12 l13 l14 l15 : Option Value} {x : Nat} : EE 171 202 [l0, some (.ref x), l2, l3, l4, l5, l6, l7, l8, l9, l10, l11, l12, l13, l14, l15] st M = EE 171 203 [l0, some (.ref x), l2, l3, l4, l5, l6, l7, l8, l9, l10, l11, l12, l13, l14, l15] (.ref x :: st) M := e_ld d171_202 rfl rfl rfl rfl rfl rfl
theorem d171_203 : decode (cod 171) 203 = .ok (.bipush 15, 2) := by decide +kernel
theorem s171_203 {M : Mm} {st : List Value} {l0 l1 l2 l3 l4 l5 l6 l7 l8 l9 l10 l11 l12 l13 l14 l15 : Option Value} : EE 171 203 [l0, l1, l2, l3, l4, l5, l6, l7, l8, l9, l10, l11, l12, l13, l14, l15] st M = EE 171 205 [l0, l1, l2, l3, l4, l5, l6, l7, l8, l9, l10, l11, l12, l13, l14, l15] (.int (nI 15) :: st) M := e_bip d171_203 k_bip_15
theorem d171_205 : decode (cod 171) 205 = .ok (.invokevirtual 15, 3) := by decide +kernel
theorem s171_205 {l0 l1 l2 l3 l4 l5 l6 l7 l8 l9 l10 l11 l12 l13 l14 l15 : Option Value} {a : Nat} {M : Mm} {b0 : Int32} {st : List Value} (hl : st.length ≤ 4) (ho : isO "HandoverDesk" M.1 a = true) : EE 171 205 [l0, l1, l2, l3, l4, l5, l6, l7, l8, l9, l10, l11, l12, l13, l14, l15] (.int b0 :: .ref a :: st) M = (FF 61 (.ref a :: [.int b0]) M).bind (fun z => EE 171 208 [l0, l1, l2, l3, l4, l5, l6, l7, l8, l9, l10, l11, l12, l13, l14, l15] (psh z.1 st) z.2) := e_calv (av := [.int b0]) d171_205 c4_15 rfl rfl rfl r171_61 rfl hl ho
theorem d171_208 : decode (cod 171) 208 = .ok (.imul, 1) := by decide +kernel
theorem s171_208 {M : Mm} {st : List Value} {l0 l1 l2 l3 l4 l5 l6 l7 l8 l9 l10 l11 l12 l13 l14 l15 : Option Value} {x y : Int32} : EE 171 208 [l0, l1, l2, l3, l4, l5, l6, l7, l8, l9, l10, l11, l12, l13, l14, l15] (.int y :: .int x :: st) M = EE 171 209 [l0, l1, l2, l3, l4, l5, l6, l7, l8, l9, l10, l11, l12, l13, l14, l15] (.int (x * y) :: st) M := e_II d171_208 rfl rfl rfl rfl rfl rfl
theorem d171_209 : decode (cod 171) 209 = .ok (.iadd, 1) := by decide +kernel
theorem s171_209 {M : Mm} {st : List Value} {l0 l1 l2 l3 l4 l5 l6 l7 l8 l9 l10 l11 l12 l13 l14 l15 : Option Value} {x y : Int32} : EE 171 209 [l0, l1, l2, l3, l4, l5, l6, l7, l8, l9, l10, l11, l12, l13, l14, l15] (.int y :: .int x :: st) M = EE 171 210 [l0, l1, l2, l3, l4, l5, l6, l7, l8, l9, l10, l11, l12, l13, l14, l15] (.int (x + y) :: st) M := e_II d171_209 rfl rfl rfl rfl rfl rfl
theorem d171_210 : decode (cod 171) 210 = .ok (.if_icmp .ne 30, 3) := by decide +kernel
theorem s171_210 {M : Mm} {st : List Value} {l0 l1 l2 l3 l4 l5 l6 l7 l8 l9 l10 l11 l12 l13 l14 l15 : Option Value} {x y : Int32} : EE 171 210 [l0, l1, l2, l3, l4, l5, l6, l7, l8, l9, l10, l11, l12, l13, l14, l15] (.int y :: .int x :: st) M = if x = y then EE 171 213 [l0, l1, l2, l3, l4, l5, l6, l7, l8, l9, l10, l11, l12, l13, l14, l15] st M else EE 171 240 [l0, l1, l2, l3, l4, l5, l6, l7, l8, l9, l10, l11, l12, l13, l14, l15] st M := e_cne d171_210 (by decide)
theorem d171_213 : decode (cod 171) 213 = .ok (.aload_n 1, 1) := by decide +kernel
theorem s171_213 {M : Mm} {st : List Value} {l0 l2 l3 l4 l5 l6 l7 l8 l9 l10 l11 l12 l13 l14 l15 : Option Value} {x : Nat} : EE 171 213 [l0, some (.ref x), l2, l3, l4, l5, l6, l7, l8, l9, l10, l11, l12, l13, l14, l15] st M = EE 171 214 [l0, some (.ref x), l2, l3, l4, l5, l6, l7, l8, l9, l10, l11, l12, l13, l14, l15] (.ref x :: st) M := e_ld d171_213 rfl rfl rfl rfl rfl rfl
theorem d171_214 : decode (cod 171) 214 = .ok (.iconst 0, 1) := by decide +kernel
theorem s171_214 {M : Mm} {st : List Value} {l0 l1 l2 l3 l4 l5 l6 l7 l8 l9 l10 l11 l12 l13 l14 l15 : Option Value} : EE 171 214 [l0, l1, l2, l3, l4, l5, l6, l7, l8, l9, l10, l11, l12, l13, l14, l15] st M = EE 171 215 [l0, l1, l2, l3, l4, l5, l6, l7, l8, l9, l10, l11, l12, l13, l14, l15] (.int (nI 0) :: st) M := e_con d171_214 k_con_0
theorem d171_215 : decode (cod 171) 215 = .ok (.invokevirtual 15, 3) := by decide +kernel
theorem s171_215 {l0 l1 l2 l3 l4 l5 l6 l7 l8 l9 l10 l11 l12 l13 l14 l15 : Option Value} {a : Nat} {M : Mm} {b0 : Int32} {st : List Value} (hl : st.length ≤ 4) (ho : isO "HandoverDesk" M.1 a = true) : EE 171 215 [l0, l1, l2, l3, l4, l5, l6, l7, l8, l9, l10, l11, l12, l13, l14, l15] (.int b0 :: .ref a :: st) M = (FF 61 (.ref a :: [.int b0]) M).bind (fun z => EE 171 218 [l0, l1, l2, l3, l4, l5, l6, l7, l8, l9, l10, l11, l12, l13, l14, l15] (psh z.1 st) z.2) := e_calv (av := [.int b0]) d171_215 c4_15 rfl rfl rfl r171_61 rfl hl ho
theorem d171_218 : decode (cod 171) 218 = .ok (.iload 9, 2) := by decide +kernel
theorem s171_218 {M : Mm} {st : List Value} {l0 l1 l2 l3 l4 l5 l6 l7 l8 l10 l11 l12 l13 l14 l15 : Option Value} {x : Int32} : EE 171 218 [l0, l1, l2, l3, l4, l5, l6, l7, l8, some (.int x), l10, l11, l12, l13, l14, l15] st M = EE 171 220 [l0, l1, l2, l3, l4, l5, l6, l7, l8, some (.int x), l10, l11, l12, l13, l14, l15] (.int x :: st) M := e_ld d171_218 rfl rfl rfl rfl rfl rfl
theorem d171_220 : decode (cod 171) 220 = .ok (.iconst 1, 1) := by decide +kernel
theorem s171_220 {M : Mm} {st : List Value} {l0 l1 l2 l3 l4 l5 l6 l7 l8 l9 l10 l11 l12 l13 l14 l15 : Option Value} : EE 171 220 [l0, l1, l2, l3, l4, l5, l6, l7, l8, l9, l10, l11, l12, l13, l14, l15] st M = EE 171 221 [l0, l1, l2, l3, l4, l5, l6, l7, l8, l9, l10, l11, l12, l13, l14, l15] (.int (nI 1) :: st) M := e_con d171_220 k_con_1
theorem d171_221 : decode (cod 171) 221 = .ok (.iadd, 1) := by decide +kernel
theorem s171_221 {M : Mm} {st : List Value} {l0 l1 l2 l3 l4 l5 l6 l7 l8 l9 l10 l11 l12 l13 l14 l15 : Option Value} {x y : Int32} : EE 171 221 [l0, l1, l2, l3, l4, l5, l6, l7, l8, l9, l10, l11, l12, l13, l14, l15] (.int y :: .int x :: st) M = EE 171 222 [l0, l1, l2, l3, l4, l5, l6, l7, l8, l9, l10, l11, l12, l13, l14, l15] (.int (x + y) :: st) M := e_II d171_221 rfl rfl rfl rfl rfl rfl
theorem d171_222 : decode (cod 171) 222 = .ok (.if_icmp .ne 18, 3) := by decide +kernel
theorem s171_222 {M : Mm} {st : List Value} {l0 l1 l2 l3 l4 l5 l6 l7 l8 l9 l10 l11 l12 l13 l14 l15 : Option Value} {x y : Int32} : EE 171 222 [l0, l1, l2, l3, l4, l5, l6, l7, l8, l9, l10, l11, l12, l13, l14, l15] (.int y :: .int x :: st) M = if x = y then EE 171 225 [l0, l1, l2, l3, l4, l5, l6, l7, l8, l9, l10, l11, l12, l13, l14, l15] st M else EE 171 240 [l0, l1, l2, l3, l4, l5, l6, l7, l8, l9, l10, l11, l12, l13, l14, l15] st M := e_cne d171_222 (by decide)
theorem d171_225 : decode (cod 171) 225 = .ok (.aload_n 1, 1) := by decide +kernel
theorem s171_225 {M : Mm} {st : List Value} {l0 l2 l3 l4 l5 l6 l7 l8 l9 l10 l11 l12 l13 l14 l15 : Option Value} {x : Nat} : EE 171 225 [l0, some (.ref x), l2, l3, l4, l5, l6, l7, l8, l9, l10, l11, l12, l13, l14, l15] st M = EE 171 226 [l0, some (.ref x), l2, l3, l4, l5, l6, l7, l8, l9, l10, l11, l12, l13, l14, l15] (.ref x :: st) M := e_ld d171_225 rfl rfl rfl rfl rfl rfl
theorem d171_226 : decode (cod 171) 226 = .ok (.bipush 9, 2) := by decide +kernel
theorem s171_226 {M : Mm} {st : List Value} {l0 l1 l2 l3 l4 l5 l6 l7 l8 l9 l10 l11 l12 l13 l14 l15 : Option Value} : EE 171 226 [l0, l1, l2, l3, l4, l5, l6, l7, l8, l9, l10, l11, l12, l13, l14, l15] st M = EE 171 228 [l0, l1, l2, l3, l4, l5, l6, l7, l8, l9, l10, l11, l12, l13, l14, l15] (.int (nI 9) :: st) M := e_bip d171_226 k_bip_9
theorem d171_228 : decode (cod 171) 228 = .ok (.invokevirtual 15, 3) := by decide +kernel
theorem s171_228 {l0 l1 l2 l3 l4 l5 l6 l7 l8 l9 l10 l11 l12 l13 l14 l15 : Option Value} {a : Nat} {M : Mm} {b0 : Int32} {st : List Value} (hl : st.length ≤ 4) (ho : isO "HandoverDesk" M.1 a = true) : EE 171 228 [l0, l1, l2, l3, l4, l5, l6, l7, l8, l9, l10, l11, l12, l13, l14, l15] (.int b0 :: .ref a :: st) M = (FF 61 (.ref a :: [.int b0]) M).bind (fun z => EE 171 231 [l0, l1, l2, l3, l4, l5, l6, l7, l8, l9, l10, l11, l12, l13, l14, l15] (psh z.1 st) z.2) := e_calv (av := [.int b0]) d171_228 c4_15 rfl rfl rfl r171_61 rfl hl ho
theorem d171_231 : decode (cod 171) 231 = .ok (.iload 14, 2) := by decide +kernel
theorem s171_231 {M : Mm} {st : List Value} {l0 l1 l2 l3 l4 l5 l6 l7 l8 l9 l10 l11 l12 l13 l15 : Option Value} {x : Int32} : EE 171 231 [l0, l1, l2, l3, l4, l5, l6, l7, l8, l9, l10, l11, l12, l13, some (.int x), l15] st M = EE 171 233 [l0, l1, l2, l3, l4, l5, l6, l7, l8, l9, l10, l11, l12, l13, some (.int x), l15] (.int x :: st) M := e_ld d171_231 rfl rfl rfl rfl rfl rfl
theorem d171_233 : decode (cod 171) 233 = .ok (.if_icmp .ne 7, 3) := by decide +kernel
theorem s171_233 {M : Mm} {st : List Value} {l0 l1 l2 l3 l4 l5 l6 l7 l8 l9 l10 l11 l12 l13 l14 l15 : Option Value} {x y : Int32} : EE 171 233 [l0, l1, l2, l3, l4, l5, l6, l7, l8, l9, l10, l11, l12, l13, l14, l15] (.int y :: .int x :: st) M = if x = y then EE 171 236 [l0, l1, l2, l3, l4, l5, l6, l7, l8, l9, l10, l11, l12, l13, l14, l15] st M else EE 171 240 [l0, l1, l2, l3, l4, l5, l6, l7, l8, l9, l10, l11, l12, l13, l14, l15] st M := e_cne d171_233 (by decide)
theorem d171_236 : decode (cod 171) 236 = .ok (.iconst 1, 1) := by decide +kernel
theorem s171_236 {M : Mm} {st : List Value} {l0 l1 l2 l3 l4 l5 l6 l7 l8 l9 l10 l11 l12 l13 l14 l15 : Option Value} : EE 171 236 [l0, l1, l2, l3, l4, l5, l6, l7, l8, l9, l10, l11, l12, l13, l14, l15] st M = EE 171 237 [l0, l1, l2, l3, l4, l5, l6, l7, l8, l9, l10, l11, l12, l13, l14, l15] (.int (nI 1) :: st) M := e_con d171_236 k_con_1
theorem d171_237 : decode (cod 171) 237 = .ok (.goto 4, 3) := by decide +kernel
theorem s171_237 {M : Mm} {st : List Value} {l0 l1 l2 l3 l4 l5 l6 l7 l8 l9 l10 l11 l12 l13 l14 l15 : Option Value} : EE 171 237 [l0, l1, l2, l3, l4, l5, l6, l7, l8, l9, l10, l11, l12, l13, l14, l15] st M = EE 171 241 [l0, l1, l2, l3, l4, l5, l6, l7, l8, l9, l10, l11, l12, l13, l14, l15] st M := e_goto d171_237 (by decide)
theorem d171_240 : decode (cod 171) 240 = .ok (.iconst 0, 1) := by decide +kernel
theorem s171_240 {M : Mm} {st : List Value} {l0 l1 l2 l3 l4 l5 l6 l7 l8 l9 l10 l11 l12 l13 l14 l15 : Option Value} : EE 171 240 [l0, l1, l2, l3, l4, l5, l6, l7, l8, l9, l10, l11, l12, l13, l14, l15] st M = EE 171 241 [l0, l1, l2, l3, l4, l5, l6, l7, l8, l9, l10, l11, l12, l13, l14, l15] (.int (nI 0) :: st) M := e_con d171_240 k_con_0
theorem d171_241 : decode (cod 171) 241 = .ok (.istore_n 2, 1) := by decide +kernel
theorem s171_241 {M : Mm} {st : List Value} {l0 l1 l2 l3 l4 l5 l6 l7 l8 l9 l10 l11 l12 l13 l14 l15 : Option Value} {x : Int32} : EE 171 241 [l0, l1, l2, l3, l4, l5, l6, l7, l8, l9, l10, l11, l12, l13, l14, l15] (.int x :: st) M = EE 171 242 [l0, cln l1, some (.int x), l3, l4, l5, l6, l7, l8, l9, l10, l11, l12, l13, l14, l15] st M := e_st1 d171_241 rfl rfl rfl rfl rfl rfl rfl (Nat.le_of_ble_eq_true rfl) rfl
theorem d171_242 : decode (cod 171) 242 = .ok (.goto 46, 3) := by decide +kernel
theorem s171_242 {M : Mm} {st : List Value} {l0 l1 l2 l3 l4 l5 l6 l7 l8 l9 l10 l11 l12 l13 l14 l15 : Option Value} : EE 171 242 [l0, l1, l2, l3, l4, l5, l6, l7, l8, l9, l10, l11, l12, l13, l14, l15] st M = EE 171 288 [l0, l1, l2, l3, l4, l5, l6, l7, l8, l9, l10, l11, l12, l13, l14, l15] st M := e_goto d171_242 (by decide)
theorem d171_245 : decode (cod 171) 245 = .ok (.iload 11, 2) := by decide +kernel
theorem s171_245 {M : Mm} {st : List Value} {l0 l1 l2 l3 l4 l5 l6 l7 l8 l9 l10 l12 l13 l14 l15 : Option Value} {x : Int32} : EE 171 245 [l0, l1, l2, l3, l4, l5, l6, l7, l8, l9, l10, some (.int x), l12, l13, l14, l15] st M = EE 171 247 [l0, l1, l2, l3, l4, l5, l6, l7, l8, l9, l10, some (.int x), l12, l13, l14, l15] (.int x :: st) M := e_ld d171_245 rfl rfl rfl rfl rfl rfl
theorem d171_247 : decode (cod 171) 247 = .ok (.ifCond .ge 35, 3) := by decide +kernel
theorem s171_247 {M : Mm} {st : List Value} {l0 l1 l2 l3 l4 l5 l6 l7 l8 l9 l10 l11 l12 l13 l14 l15 : Option Value} {x : Int32} : EE 171 247 [l0, l1, l2, l3, l4, l5, l6, l7, l8, l9, l10, l11, l12, l13, l14, l15] (.int x :: st) M = if 0 ≤ x then EE 171 282 [l0, l1, l2, l3, l4, l5, l6, l7, l8, l9, l10, l11, l12, l13, l14, l15] st M else EE 171 250 [l0, l1, l2, l3, l4, l5, l6, l7, l8, l9, l10, l11, l12, l13, l14, l15] st M := e_ge0 d171_247 (by decide)
theorem d171_250 : decode (cod 171) 250 = .ok (.aload_n 1, 1) := by decide +kernel
theorem s171_250 {M : Mm} {st : List Value} {l0 l2 l3 l4 l5 l6 l7 l8 l9 l10 l11 l12 l13 l14 l15 : Option Value} {x : Nat} : EE 171 250 [l0, some (.ref x), l2, l3, l4, l5, l6, l7, l8, l9, l10, l11, l12, l13, l14, l15] st M = EE 171 251 [l0, some (.ref x), l2, l3, l4, l5, l6, l7, l8, l9, l10, l11, l12, l13, l14, l15] (.ref x :: st) M := e_ld d171_250 rfl rfl rfl rfl rfl rfl
theorem d171_251 : decode (cod 171) 251 = .ok (.bipush 18, 2) := by decide +kernel
theorem s171_251 {M : Mm} {st : List Value} {l0 l1 l2 l3 l4 l5 l6 l7 l8 l9 l10 l11 l12 l13 l14 l15 : Option Value} : EE 171 251 [l0, l1, l2, l3, l4, l5, l6, l7, l8, l9, l10, l11, l12, l13, l14, l15] st M = EE 171 253 [l0, l1, l2, l3, l4, l5, l6, l7, l8, l9, l10, l11, l12, l13, l14, l15] (.int (nI 18) :: st) M := e_bip d171_251 k_bip_18
theorem d171_253 : decode (cod 171) 253 = .ok (.invokevirtual 15, 3) := by decide +kernel
theorem s171_253 {l0 l1 l2 l3 l4 l5 l6 l7 l8 l9 l10 l11 l12 l13 l14 l15 : Option Value} {a : Nat} {M : Mm} {b0 : Int32} {st : List Value} (hl : st.length ≤ 4) (ho : isO "HandoverDesk" M.1 a = true) : EE 171 253 [l0, l1, l2, l3, l4, l5, l6, l7, l8, l9, l10, l11, l12, l13, l14, l15] (.int b0 :: .ref a :: st) M = (FF 61 (.ref a :: [.int b0]) M).bind (fun z => EE 171 256 [l0, l1, l2, l3, l4, l5, l6, l7, l8, l9, l10, l11, l12, l13, l14, l15] (psh z.1 st) z.2) := e_calv (av := [.int b0]) d171_253 c4_15 rfl rfl rfl r171_61 rfl hl ho
theorem d171_256 : decode (cod 171) 256 = .ok (.iload 5, 2) := by decide +kernel
theorem s171_256 {M : Mm} {st : List Value} {l0 l1 l2 l3 l4 l6 l7 l8 l9 l10 l11 l12 l13 l14 l15 : Option Value} {x : Int32} : EE 171 256 [l0, l1, l2, l3, l4, some (.int x), l6, l7, l8, l9, l10, l11, l12, l13, l14, l15] st M = EE 171 258 [l0, l1, l2, l3, l4, some (.int x), l6, l7, l8, l9, l10, l11, l12, l13, l14, l15] (.int x :: st) M := e_ld d171_256 rfl rfl rfl rfl rfl rfl
theorem d171_258 : decode (cod 171) 258 = .ok (.if_icmp .ne 28, 3) := by decide +kernel
theorem s171_258 {M : Mm} {st : List Value} {l0 l1 l2 l3 l4 l5 l6 l7 l8 l9 l10 l11 l12 l13 l14 l15 : Option Value} {x y : Int32} : EE 171 258 [l0, l1, l2, l3, l4, l5, l6, l7, l8, l9, l10, l11, l12, l13, l14, l15] (.int y :: .int x :: st) M = if x = y then EE 171 261 [l0, l1, l2, l3, l4, l5, l6, l7, l8, l9, l10, l11, l12, l13, l14, l15] st M else EE 171 286 [l0, l1, l2, l3, l4, l5, l6, l7, l8, l9, l10, l11, l12, l13, l14, l15] st M := e_cne d171_258 (by decide)
theorem d171_261 : decode (cod 171) 261 = .ok (.aload_n 1, 1) := by decide +kernel
theorem s171_261 {M : Mm} {st : List Value} {l0 l2 l3 l4 l5 l6 l7 l8 l9 l10 l11 l12 l13 l14 l15 : Option Value} {x : Nat} : EE 171 261 [l0, some (.ref x), l2, l3, l4, l5, l6, l7, l8, l9, l10, l11, l12, l13, l14, l15] st M = EE 171 262 [l0, some (.ref x), l2, l3, l4, l5, l6, l7, l8, l9, l10, l11, l12, l13, l14, l15] (.ref x :: st) M := e_ld d171_261 rfl rfl rfl rfl rfl rfl
theorem d171_262 : decode (cod 171) 262 = .ok (.iconst 4, 1) := by decide +kernel
theorem s171_262 {M : Mm} {st : List Value} {l0 l1 l2 l3 l4 l5 l6 l7 l8 l9 l10 l11 l12 l13 l14 l15 : Option Value} : EE 171 262 [l0, l1, l2, l3, l4, l5, l6, l7, l8, l9, l10, l11, l12, l13, l14, l15] st M = EE 171 263 [l0, l1, l2, l3, l4, l5, l6, l7, l8, l9, l10, l11, l12, l13, l14, l15] (.int (nI 4) :: st) M := e_con d171_262 k_con_4
theorem d171_263 : decode (cod 171) 263 = .ok (.invokevirtual 15, 3) := by decide +kernel
theorem s171_263 {l0 l1 l2 l3 l4 l5 l6 l7 l8 l9 l10 l11 l12 l13 l14 l15 : Option Value} {a : Nat} {M : Mm} {b0 : Int32} {st : List Value} (hl : st.length ≤ 4) (ho : isO "HandoverDesk" M.1 a = true) : EE 171 263 [l0, l1, l2, l3, l4, l5, l6, l7, l8, l9, l10, l11, l12, l13, l14, l15] (.int b0 :: .ref a :: st) M = (FF 61 (.ref a :: [.int b0]) M).bind (fun z => EE 171 266 [l0, l1, l2, l3, l4, l5, l6, l7, l8, l9, l10, l11, l12, l13, l14, l15] (psh z.1 st) z.2) := e_calv (av := [.int b0]) d171_263 c4_15 rfl rfl rfl r171_61 rfl hl ho
theorem d171_266 : decode (cod 171) 266 = .ok (.iload 6, 2) := by decide +kernel
theorem s171_266 {M : Mm} {st : List Value} {l0 l1 l2 l3 l4 l5 l7 l8 l9 l10 l11 l12 l13 l14 l15 : Option Value} {x : Int32} : EE 171 266 [l0, l1, l2, l3, l4, l5, some (.int x), l7, l8, l9, l10, l11, l12, l13, l14, l15] st M = EE 171 268 [l0, l1, l2, l3, l4, l5, some (.int x), l7, l8, l9, l10, l11, l12, l13, l14, l15] (.int x :: st) M := e_ld d171_266 rfl rfl rfl rfl rfl rfl
theorem d171_268 : decode (cod 171) 268 = .ok (.if_icmp .ne 18, 3) := by decide +kernel
theorem s171_268 {M : Mm} {st : List Value} {l0 l1 l2 l3 l4 l5 l6 l7 l8 l9 l10 l11 l12 l13 l14 l15 : Option Value} {x y : Int32} : EE 171 268 [l0, l1, l2, l3, l4, l5, l6, l7, l8, l9, l10, l11, l12, l13, l14, l15] (.int y :: .int x :: st) M = if x = y then EE 171 271 [l0, l1, l2, l3, l4, l5, l6, l7, l8, l9, l10, l11, l12, l13, l14, l15] st M else EE 171 286 [l0, l1, l2, l3, l4, l5, l6, l7, l8, l9, l10, l11, l12, l13, l14, l15] st M := e_cne d171_268 (by decide)
theorem d171_271 : decode (cod 171) 271 = .ok (.aload_n 1, 1) := by decide +kernel
theorem s171_271 {M : Mm} {st : List Value} {l0 l2 l3 l4 l5 l6 l7 l8 l9 l10 l11 l12 l13 l14 l15 : Option Value} {x : Nat} : EE 171 271 [l0, some (.ref x), l2, l3, l4, l5, l6, l7, l8, l9, l10, l11, l12, l13, l14, l15] st M = EE 171 272 [l0, some (.ref x), l2, l3, l4, l5, l6, l7, l8, l9, l10, l11, l12, l13, l14, l15] (.ref x :: st) M := e_ld d171_271 rfl rfl rfl rfl rfl rfl
theorem d171_272 : decode (cod 171) 272 = .ok (.bipush 8, 2) := by decide +kernel
theorem s171_272 {M : Mm} {st : List Value} {l0 l1 l2 l3 l4 l5 l6 l7 l8 l9 l10 l11 l12 l13 l14 l15 : Option Value} : EE 171 272 [l0, l1, l2, l3, l4, l5, l6, l7, l8, l9, l10, l11, l12, l13, l14, l15] st M = EE 171 274 [l0, l1, l2, l3, l4, l5, l6, l7, l8, l9, l10, l11, l12, l13, l14, l15] (.int (nI 8) :: st) M := e_bip d171_272 k_bip_8
theorem d171_274 : decode (cod 171) 274 = .ok (.invokevirtual 15, 3) := by decide +kernel
theorem s171_274 {l0 l1 l2 l3 l4 l5 l6 l7 l8 l9 l10 l11 l12 l13 l14 l15 : Option Value} {a : Nat} {M : Mm} {b0 : Int32} {st : List Value} (hl : st.length ≤ 4) (ho : isO "HandoverDesk" M.1 a = true) : EE 171 274 [l0, l1, l2, l3, l4, l5, l6, l7, l8, l9, l10, l11, l12, l13, l14, l15] (.int b0 :: .ref a :: st) M = (FF 61 (.ref a :: [.int b0]) M).bind (fun z => EE 171 277 [l0, l1, l2, l3, l4, l5, l6, l7, l8, l9, l10, l11, l12, l13, l14, l15] (psh z.1 st) z.2) := e_calv (av := [.int b0]) d171_274 c4_15 rfl rfl rfl r171_61 rfl hl ho
theorem d171_277 : decode (cod 171) 277 = .ok (.iload 10, 2) := by decide +kernel
theorem s171_277 {M : Mm} {st : List Value} {l0 l1 l2 l3 l4 l5 l6 l7 l8 l9 l11 l12 l13 l14 l15 : Option Value} {x : Int32} : EE 171 277 [l0, l1, l2, l3, l4, l5, l6, l7, l8, l9, some (.int x), l11, l12, l13, l14, l15] st M = EE 171 279 [l0, l1, l2, l3, l4, l5, l6, l7, l8, l9, some (.int x), l11, l12, l13, l14, l15] (.int x :: st) M := e_ld d171_277 rfl rfl rfl rfl rfl rfl
theorem d171_279 : decode (cod 171) 279 = .ok (.if_icmp .ne 7, 3) := by decide +kernel
theorem s171_279 {M : Mm} {st : List Value} {l0 l1 l2 l3 l4 l5 l6 l7 l8 l9 l10 l11 l12 l13 l14 l15 : Option Value} {x y : Int32} : EE 171 279 [l0, l1, l2, l3, l4, l5, l6, l7, l8, l9, l10, l11, l12, l13, l14, l15] (.int y :: .int x :: st) M = if x = y then EE 171 282 [l0, l1, l2, l3, l4, l5, l6, l7, l8, l9, l10, l11, l12, l13, l14, l15] st M else EE 171 286 [l0, l1, l2, l3, l4, l5, l6, l7, l8, l9, l10, l11, l12, l13, l14, l15] st M := e_cne d171_279 (by decide)
theorem d171_282 : decode (cod 171) 282 = .ok (.iconst 1, 1) := by decide +kernel
theorem s171_282 {M : Mm} {st : List Value} {l0 l1 l2 l3 l4 l5 l6 l7 l8 l9 l10 l11 l12 l13 l14 l15 : Option Value} : EE 171 282 [l0, l1, l2, l3, l4, l5, l6, l7, l8, l9, l10, l11, l12, l13, l14, l15] st M = EE 171 283 [l0, l1, l2, l3, l4, l5, l6, l7, l8, l9, l10, l11, l12, l13, l14, l15] (.int (nI 1) :: st) M := e_con d171_282 k_con_1
theorem d171_283 : decode (cod 171) 283 = .ok (.goto 4, 3) := by decide +kernel
theorem s171_283 {M : Mm} {st : List Value} {l0 l1 l2 l3 l4 l5 l6 l7 l8 l9 l10 l11 l12 l13 l14 l15 : Option Value} : EE 171 283 [l0, l1, l2, l3, l4, l5, l6, l7, l8, l9, l10, l11, l12, l13, l14, l15] st M = EE 171 287 [l0, l1, l2, l3, l4, l5, l6, l7, l8, l9, l10, l11, l12, l13, l14, l15] st M := e_goto d171_283 (by decide)
theorem d171_286 : decode (cod 171) 286 = .ok (.iconst 0, 1) := by decide +kernel
theorem s171_286 {M : Mm} {st : List Value} {l0 l1 l2 l3 l4 l5 l6 l7 l8 l9 l10 l11 l12 l13 l14 l15 : Option Value} : EE 171 286 [l0, l1, l2, l3, l4, l5, l6, l7, l8, l9, l10, l11, l12, l13, l14, l15] st M = EE 171 287 [l0, l1, l2, l3, l4, l5, l6, l7, l8, l9, l10, l11, l12, l13, l14, l15] (.int (nI 0) :: st) M := e_con d171_286 k_con_0
theorem d171_287 : decode (cod 171) 287 = .ok (.istore_n 2, 1) := by decide +kernel
theorem s171_287 {M : Mm} {st : List Value} {l0 l1 l2 l3 l4 l5 l6 l7 l8 l9 l10 l11 l12 l13 l14 l15 : Option Value} {x : Int32} : EE 171 287 [l0, l1, l2, l3, l4, l5, l6, l7, l8, l9, l10, l11, l12, l13, l14, l15] (.int x :: st) M = EE 171 288 [l0, cln l1, some (.int x), l3, l4, l5, l6, l7, l8, l9, l10, l11, l12, l13, l14, l15] st M := e_st1 d171_287 rfl rfl rfl rfl rfl rfl rfl (Nat.le_of_ble_eq_true rfl) rfl
theorem d171_288 : decode (cod 171) 288 = .ok (.iload_n 2, 1) := by decide +kernel
theorem s171_288 {M : Mm} {st : List Value} {l0 l1 l3 l4 l5 l6 l7 l8 l9 l10 l11 l12 l13 l14 l15 : Option Value} {x : Int32} : EE 171 288 [l0, l1, some (.int x), l3, l4, l5, l6, l7, l8, l9, l10, l11, l12, l13, l14, l15] st M = EE 171 289 [l0, l1, some (.int x), l3, l4, l5, l6, l7, l8, l9, l10, l11, l12, l13, l14, l15] (.int x :: st) M := e_ld d171_288 rfl rfl rfl rfl rfl rfl
theorem d171_289 : decode (cod 171) 289 = .ok (.ifCond .eq 14, 3) := by decide +kernel
theorem s171_289 {M : Mm} {st : List Value} {l0 l1 l2 l3 l4 l5 l6 l7 l8 l9 l10 l11 l12 l13 l14 l15 : Option Value} {x : Int32} : EE 171 289 [l0, l1, l2, l3, l4, l5, l6, l7, l8, l9, l10, l11, l12, l13, l14, l15] (.int x :: st) M = if x = 0 then EE 171 303 [l0, l1, l2, l3, l4, l5, l6, l7, l8, l9, l10, l11, l12, l13, l14, l15] st M else EE 171 292 [l0, l1, l2, l3, l4, l5, l6, l7, l8, l9, l10, l11, l12, l13, l14, l15] st M := e_eq0 d171_289 (by decide)
theorem d171_292 : decode (cod 171) 292 = .ok (.aload_n 1, 1) := by decide +kernel
theorem s171_292 {M : Mm} {st : List Value} {l0 l2 l3 l4 l5 l6 l7 l8 l9 l10 l11 l12 l13 l14 l15 : Option Value} {x : Nat} : EE 171 292 [l0, some (.ref x), l2, l3, l4, l5, l6, l7, l8, l9, l10, l11, l12, l13, l14, l15] st M = EE 171 293 [l0, some (.ref x), l2, l3, l4, l5, l6, l7, l8, l9, l10, l11, l12, l13, l14, l15] (.ref x :: st) M := e_ld d171_292 rfl rfl rfl rfl rfl rfl
theorem d171_293 : decode (cod 171) 293 = .ok (.invokestatic 91, 3) := by decide +kernel
theorem s171_293 {M : Mm} {l0 l1 l2 l3 l4 l5 l6 l7 l8 l9 l10 l11 l12 l13 l14 l15 : Option Value} {b0 : Nat} {st : List Value} (hl : st.length ≤ 4) : EE 171 293 [l0, l1, l2, l3, l4, l5, l6, l7, l8, l9, l10, l11, l12, l13, l14, l15] (.ref b0 :: st) M = (FF 83 [.ref b0] M).bind (fun z => EE 171 296 [l0, l1, l2, l3, l4, l5, l6, l7, l8, l9, l10, l11, l12, l13, l14, l15] (psh z.1 st) z.2) := e_cals (av := [.ref b0]) d171_293 c4_91 (Or.inl rfl) rfl rfl r171_83 rfl hl
theorem d171_296 : decode (cod 171) 296 = .ok (.ifCond .eq 7, 3) := by decide +kernel
theorem s171_296 {M : Mm} {st : List Value} {l0 l1 l2 l3 l4 l5 l6 l7 l8 l9 l10 l11 l12 l13 l14 l15 : Option Value} {x : Int32} : EE 171 296 [l0, l1, l2, l3, l4, l5, l6, l7, l8, l9, l10, l11, l12, l13, l14, l15] (.int x :: st) M = if x = 0 then EE 171 303 [l0, l1, l2, l3, l4, l5, l6, l7, l8, l9, l10, l11, l12, l13, l14, l15] st M else EE 171 299 [l0, l1, l2, l3, l4, l5, l6, l7, l8, l9, l10, l11, l12, l13, l14, l15] st M := e_eq0 d171_296 (by decide)
theorem d171_299 : decode (cod 171) 299 = .ok (.iconst 1, 1) := by decide +kernel
theorem s171_299 {M : Mm} {st : List Value} {l0 l1 l2 l3 l4 l5 l6 l7 l8 l9 l10 l11 l12 l13 l14 l15 : Option Value} : EE 171 299 [l0, l1, l2, l3, l4, l5, l6, l7, l8, l9, l10, l11, l12, l13, l14, l15] st M = EE 171 300 [l0, l1, l2, l3, l4, l5, l6, l7, l8, l9, l10, l11, l12, l13, l14, l15] (.int (nI 1) :: st) M := e_con d171_299 k_con_1
theorem d171_300 : decode (cod 171) 300 = .ok (.goto 4, 3) := by decide +kernel
theorem s171_300 {M : Mm} {st : List Value} {l0 l1 l2 l3 l4 l5 l6 l7 l8 l9 l10 l11 l12 l13 l14 l15 : Option Value} : EE 171 300 [l0, l1, l2, l3, l4, l5, l6, l7, l8, l9, l10, l11, l12, l13, l14, l15] st M = EE 171 304 [l0, l1, l2, l3, l4, l5, l6, l7, l8, l9, l10, l11, l12, l13, l14, l15] st M := e_goto d171_300 (by decide)
theorem d171_303 : decode (cod 171) 303 = .ok (.iconst 0, 1) := by decide +kernel
theorem s171_303 {M : Mm} {st : List Value} {l0 l1 l2 l3 l4 l5 l6 l7 l8 l9 l10 l11 l12 l13 l14 l15 : Option Value} : EE 171 303 [l0, l1, l2, l3, l4, l5, l6, l7, l8, l9, l10, l11, l12, l13, l14, l15] st M = EE 171 304 [l0, l1, l2, l3, l4, l5, l6, l7, l8, l9, l10, l11, l12, l13, l14, l15] (.int (nI 0) :: st) M := e_con d171_303 k_con_0
theorem d171_304 : decode (cod 171) 304 = .ok (.istore_n 2, 1) := by decide +kernel
theorem s171_304 {M : Mm} {st : List Value} {l0 l1 l2 l3 l4 l5 l6 l7 l8 l9 l10 l11 l12 l13 l14 l15 : Option Value} {x : Int32} : EE 171 304 [l0, l1, l2, l3, l4, l5, l6, l7, l8, l9, l10, l11, l12, l13, l14, l15] (.int x :: st) M = EE 171 305 [l0, cln l1, some (.int x), l3, l4, l5, l6, l7, l8, l9, l10, l11, l12, l13, l14, l15] st M := e_st1 d171_304 rfl rfl rfl rfl rfl rfl rfl (Nat.le_of_ble_eq_true rfl) rfl
theorem d171_305 : decode (cod 171) 305 = .ok (.iinc 4 1, 3) := by decide +kernel
theorem s171_305 {M : Mm} {st : List Value} {l0 l1 l2 l3 l5 l6 l7 l8 l9 l10 l11 l12 l13 l14 l15 : Option Value} {x : Int32} : EE 171 305 [l0, l1, l2, l3, some (.int x), l5, l6, l7, l8, l9, l10, l11, l12, l13, l14, l15] st M = EE 171 308 [l0, l1, l2, cln l3, some (.int (x + nI 1)), l5, l6, l7, l8, l9, l10, l11, l12, l13, l14, l15] st M := e_iinc d171_305 rfl (congrArg (fun z => x + z) k_inc_1) rfl
theorem d171_308 : decode (cod 171) 308 = .ok (.goto (-276), 3) := by decide +kernel
theorem s171_308 {M : Mm} {st : List Value} {l0 l1 l2 l3 l4 l5 l6 l7 l8 l9 l10 l11 l12 l13 l14 l15 : Option Value} : EE 171 308 [l0, l1, l2, l3, l4, l5, l6, l7, l8, l9, l10, l11, l12, l13, l14, l15] st M = EE 171 32 [l0, l1, l2, l3, l4, l5, l6, l7, l8, l9, l10, l11, l12, l13, l14, l15] st M := e_goto d171_308 (by decide)
theorem d171_311 : decode (cod 171) 311 = .ok (.iload_n 2, 1) := by decide +kernel
theorem s171_311 {M : Mm} {st : List Value} {l0 l1 l3 l4 l5 l6 l7 l8 l9 l10 l11 l12 l13 l14 l15 : Option Value} {x : Int32} : EE 171 311 [l0, l1, some (.int x), l3, l4, l5, l6, l7, l8, l9, l10, l11, l12, l13, l14, l15] st M = EE 171 312 [l0, l1, some (.int x), l3, l4, l5, l6, l7, l8, l9, l10, l11, l12, l13, l14, l15] (.int x :: st) M := e_ld d171_311 rfl rfl rfl rfl rfl rfl
theorem d171_312 : decode (cod 171) 312 = .ok (.ireturn, 1) := by decide +kernel
theorem s171_312 {M : Mm} {l0 l1 l2 l3 l4 l5 l6 l7 l8 l9 l10 l11 l12 l13 l14 l15 : Option Value} {v : Int32} (h : narrow .boolean (.int v) = .int v) : EE 171 312 [l0, l1, l2, l3, l4, l5, l6, l7, l8, l9, l10, l11, l12, l13, l14, l15] [.int v] M = some (some (.int v), M) := e_iret d171_312 rfl h
theorem FE171 {b0 : Nat} {M : Mm} : FF 171 [.ref b0] M = EE 171 0 [some (.ref b0), none, none, none, none, none, none, none, none, none, none, none, none, none, none, none] [] M := FF_eq 171 _ _ (Nat.le_of_ble_eq_true rfl)
