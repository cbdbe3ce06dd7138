theorem d88_0 : decode (cod 88) 0 = .ok (.iload_n 0, 1) := by decide +kernel
theorem s88_0 {M : Mm} {st : List Value} {l1 : Option Value} {x : Int32} : EE 88 0 [some (.int x), l1] st M = EE 88 1 [some (.int x), l1] (.int x :: st) M := e_ld d88_0 rfl rfl rfl rfl rfl rfl
theorem d88_1 : decode (cod 88) 1 = .ok (.ifCond .ne 13, 3) := by decide +kernel
theorem s88_1 {M : Mm} {st : List Value} {l0 l1 : Option Value} {x : Int32} : EE 88 1 [l0, l1] (.int x :: st) M = if x = 0 then EE 88 4 [l0, l1] st M else EE 88 14 [l0, l1] st M := e_ne0 d88_1 (by decide)
theorem d88_4 : decode (cod 88) 4 = .ok (.iload_n 1, 1) := by decide +kernel
theorem s88_4 {M : Mm} {st : List Value} {l0 : Option Value} {x : Int32} : EE 88 4 [l0, some (.int x)] st M = EE 88 5 [l0, some (.int x)] (.int x :: st) M := e_ld d88_4 rfl rfl rfl rfl rfl rfl
theorem d88_5 : decode (cod 88) 5 = .ok (.iconst 1, 1) := by decide +kernel
theorem s88_5 {M : Mm} {st : List Value} {l0 l1 : Option Value} : EE 88 5 [l0, l1] st M = EE 88 6 [l0, l1] (.int (nI 1) :: st) M := e_con d88_5 k_con_1
theorem d88_6 : decode (cod 88) 6 = .ok (.bipush 100, 2) := by decide +kernel
theorem s88_6 {M : Mm} {st : List Value} {l0 l1 : Option Value} : EE 88 6 [l0, l1] st M = EE 88 8 [l0, l1] (.int (nI 100) :: st) M := e_bip d88_6 k_bip_100
theorem d88_8 : decode (cod 88) 8 = .ok (.invokestatic 32, 3) := by decide +kernel
theorem s88_8 {M : Mm} {l0 l1 : Option Value} {b0 : Int32} {b1 : Int32} {b2 : Int32} {st : List Value} (hl : st.length ≤ 4) : EE 88 8 [l0, l1] (.int b2 :: .int b1 :: .int b0 :: st) M = (FF 84 [.int b0, .int b1, .int b2] M).bind (fun z => EE 88 11 [l0, l1] (psh z.1 st) z.2) := e_cals (av := [.int b0, .int b1, .int b2]) d88_8 c3_32 (Or.inl rfl) rfl rfl r88_84 rfl hl
theorem d88_11 : decode (cod 88) 11 = .ok (.goto 71, 3) := by decide +kernel
theorem s88_11 {M : Mm} {st : List Value} {l0 l1 : Option Value} : EE 88 11 [l0, l1] st M = EE 88 82 [l0, l1] st M := e_goto d88_11 (by decide)
theorem d88_14 : decode (cod 88) 14 = .ok (.iload_n 0, 1) := by decide +kernel
theorem s88_14 {M : Mm} {st : List Value} {l1 : Option Value} {x : Int32} : EE 88 14 [some (.int x), l1] st M = EE 88 15 [some (.int x), l1] (.int x :: st) M := e_ld d88_14 rfl rfl rfl rfl rfl rfl
theorem d88_15 : decode (cod 88) 15 = .ok (.iconst 1, 1) := by decide +kernel
theorem s88_15 {M : Mm} {st : List Value} {l0 l1 : Option Value} : EE 88 15 [l0, l1] st M = EE 88 16 [l0, l1] (.int (nI 1) :: st) M := e_con d88_15 k_con_1
theorem d88_16 : decode (cod 88) 16 = .ok (.if_icmp .ne 13, 3) := by decide +kernel
theorem s88_16 {M : Mm} {st : List Value} {l0 l1 : Option Value} {x y : Int32} : EE 88 16 [l0, l1] (.int y :: .int x :: st) M = if x = y then EE 88 19 [l0, l1] st M else EE 88 29 [l0, l1] st M := e_cne d88_16 (by decide)
theorem d88_19 : decode (cod 88) 19 = .ok (.iload_n 1, 1) := by decide +kernel
theorem s88_19 {M : Mm} {st : List Value} {l0 : Option Value} {x : Int32} : EE 88 19 [l0, some (.int x)] st M = EE 88 20 [l0, some (.int x)] (.int x :: st) M := e_ld d88_19 rfl rfl rfl rfl rfl rfl
theorem d88_20 : decode (cod 88) 20 = .ok (.iconst 1, 1) := by decide +kernel
theorem s88_20 {M : Mm} {st : List Value} {l0 l1 : Option Value} : EE 88 20 [l0, l1] st M = EE 88 21 [l0, l1] (.int (nI 1) :: st) M := e_con d88_20 k_con_1
theorem d88_21 : decode (cod 88) 21 = .ok (.bipush 20, 2) := by decide +kernel
theorem s88_21 {M : Mm} {st : List Value} {l0 l1 : Option Value} : EE 88 21 [l0, l1] st M = EE 88 23 [l0, l1] (.int (nI 20) :: st) M := e_bip d88_21 k_bip_20
theorem d88_23 : decode (cod 88) 23 = .ok (.invokestatic 32, 3) := by decide +kernel
theorem s88_23 {M : Mm} {l0 l1 : Option Value} {b0 : Int32} {b1 : Int32} {b2 : Int32} {st : List Value} (hl : st.length ≤ 4) : EE 88 23 [l0, l1] (.int b2 :: .int b1 :: .int b0 :: st) M = (FF 84 [.int b0, .int b1, .int b2] M).bind (fun z => EE 88 26 [l0, l1] (psh z.1 st) z.2) := e_cals (av := [.int b0, .int b1, .int b2]) d88_23 c3_32 (Or.inl rfl) rfl rfl r88_84 rfl hl
theorem d88_26 : decode (cod 88) 26 = .ok (.goto 56, 3) := by decide +kernel
theorem s88_26 {M : Mm} {st : List Value} {l0 l1 : Option Value} : EE 88 26 [l0, l1] st M = EE 88 82 [l0, l1] st M := e_goto d88_26 (by decide)
theorem d88_29 : decode (cod 88) 29 = .ok (.iload_n 0, 1) := by decide +kernel
theorem s88_29 {M : Mm} {st : List Value} {l1 : Option Value} {x : Int32} : EE 88 29 [some (.int x), l1] st M = EE 88 30 [some (.int x), l1] (.int x :: st) M := e_ld d88_29 rfl rfl rfl rfl rfl rfl
theorem d88_30 : decode (cod 88) 30 = .ok (.iconst 2, 1) := by decide +kernel
theorem s88_30 {M : Mm} {st : List Value} {l0 l1 : Option Value} : EE 88 30 [l0, l1] st M = EE 88 31 [l0, l1] (.int (nI 2) :: st) M := e_con d88_30 k_con_2
theorem d88_31 : decode (cod 88) 31 = .ok (.if_icmp .ne 13, 3) := by decide +kernel
theorem s88_31 {M : Mm} {st : List Value} {l0 l1 : Option Value} {x y : Int32} : EE 88 31 [l0, l1] (.int y :: .int x :: st) M = if x = y then EE 88 34 [l0, l1] st M else EE 88 44 [l0, l1] st M := e_cne d88_31 (by decide)
theorem d88_34 : decode (cod 88) 34 = .ok (.iload_n 1, 1) := by decide +kernel
theorem s88_34 {M : Mm} {st : List Value} {l0 : Option Value} {x : Int32} : EE 88 34 [l0, some (.int x)] st M = EE 88 35 [l0, some (.int x)] (.int x :: st) M := e_ld d88_34 rfl rfl rfl rfl rfl rfl
theorem d88_35 : decode (cod 88) 35 = .ok (.iconst 0, 1) := by decide +kernel
theorem s88_35 {M : Mm} {st : List Value} {l0 l1 : Option Value} : EE 88 35 [l0, l1] st M = EE 88 36 [l0, l1] (.int (nI 0) :: st) M := e_con d88_35 k_con_0
theorem d88_36 : decode (cod 88) 36 = .ok (.bipush 50, 2) := by decide +kernel
theorem s88_36 {M : Mm} {st : List Value} {l0 l1 : Option Value} : EE 88 36 [l0, l1] st M = EE 88 38 [l0, l1] (.int (nI 50) :: st) M := e_bip d88_36 k_bip_50
theorem d88_38 : decode (cod 88) 38 = .ok (.invokestatic 32, 3) := by decide +kernel
theorem s88_38 {M : Mm} {l0 l1 : Option Value} {b0 : Int32} {b1 : Int32} {b2 : Int32} {st : List Value} (hl : st.length ≤ 4) : EE 88 38 [l0, l1] (.int b2 :: .int b1 :: .int b0 :: st) M = (FF 84 [.int b0, .int b1, .int b2] M).bind (fun z => EE 88 41 [l0, l1] (psh z.1 st) z.2) := e_cals (av := [.int b0, .int b1, .int b2]) d88_38 c3_32 (Or.inl rfl) rfl rfl r88_84 rfl hl
theorem d88_41 : decode (cod 88) 41 = .ok (.goto 41, 3) := by decide +kernel
theorem s88_41 {M : Mm} {st : List Value} {l0 l1 : Option Value} : EE 88 41 [l0, l1] st M = EE 88 82 [l0, l1] st M := e_goto d88_41 (by decide)
theorem d88_44 : decode (cod 88) 44 = .ok (.iload_n 0, 1) := by decide +kernel
theorem s88_44 {M : Mm} {st : List Value} {l1 : Option Value} {x : Int32} : EE 88 44 [some (.int x), l1] st M = EE 88 45 [some (.int x), l1] (.int x :: st) M := e_ld d88_44 rfl rfl rfl rfl rfl rfl
theorem d88_45 : decode (cod 88) 45 = .ok (.iconst 3, 1) := by decide +kernel
theorem s88_45 {M : Mm} {st : List Value} {l0 l1 : Option Value} : EE 88 45 [l0, l1] st M = EE 88 46 [l0, l1] (.int (nI 3) :: st) M := e_con d88_45 k_con_3
theorem d88_46 : decode (cod 88) 46 = .ok (.if_icmp .ne 13, 3) := by decide +kernel
theorem s88_46 {M : Mm} {st : List Value} {l0 l1 : Option Value} {x y : Int32} : EE 88 46 [l0, l1] (.int y :: .int x :: st) M = if x = y then EE 88 49 [l0, l1] st M else EE 88 59 [l0, l1] st M := e_cne d88_46 (by decide)
theorem d88_49 : decode (cod 88) 49 = .ok (.iload_n 1, 1) := by decide +kernel
theorem s88_49 {M : Mm} {st : List Value} {l0 : Option Value} {x : Int32} : EE 88 49 [l0, some (.int x)] st M = EE 88 50 [l0, some (.int x)] (.int x :: st) M := e_ld d88_49 rfl rfl rfl rfl rfl rfl
theorem d88_50 : decode (cod 88) 50 = .ok (.iconst 0, 1) := by decide +kernel
theorem s88_50 {M : Mm} {st : List Value} {l0 l1 : Option Value} : EE 88 50 [l0, l1] st M = EE 88 51 [l0, l1] (.int (nI 0) :: st) M := e_con d88_50 k_con_0
theorem d88_51 : decode (cod 88) 51 = .ok (.bipush 20, 2) := by decide +kernel
theorem s88_51 {M : Mm} {st : List Value} {l0 l1 : Option Value} : EE 88 51 [l0, l1] st M = EE 88 53 [l0, l1] (.int (nI 20) :: st) M := e_bip d88_51 k_bip_20
theorem d88_53 : decode (cod 88) 53 = .ok (.invokestatic 32, 3) := by decide +kernel
theorem s88_53 {M : Mm} {l0 l1 : Option Value} {b0 : Int32} {b1 : Int32} {b2 : Int32} {st : List Value} (hl : st.length ≤ 4) : EE 88 53 [l0, l1] (.int b2 :: .int b1 :: .int b0 :: st) M = (FF 84 [.int b0, .int b1, .int b2] M).bind (fun z => EE 88 56 [l0, l1] (psh z.1 st) z.2) := e_cals (av := [.int b0, .int b1, .int b2]) d88_53 c3_32 (Or.inl rfl) rfl rfl r88_84 rfl hl
theorem d88_56 : decode (cod 88) 56 = .ok (.goto 26, 3) := by decide +kernel
theorem s88_56 {M : Mm} {st : List Value} {l0 l1 : Option Value} : EE 88 56 [l0, l1] st M = EE 88 82 [l0, l1] st M := e_goto d88_56 (by decide)
theorem d88_59 : decode (cod 88) 59 = .ok (.iload_n 0, 1) := by decide +kernel
theorem s88_59 {M : Mm} {st : List Value} {l1 : Option Value} {x : Int32} : EE 88 59 [some (.int x), l1] st M = EE 88 60 [some (.int x), l1] (.int x :: st) M := e_ld d88_59 rfl rfl rfl rfl rfl rfl
theorem d88_60 : decode (cod 88) 60 = .ok (.iconst 4, 1) := by decide +kernel
theorem s88_60 {M : Mm} {st : List Value} {l0 l1 : Option Value} : EE 88 60 [l0, l1] st M = EE 88 61 [l0, l1] (.int (nI 4) :: st) M := e_con d88_60 k_con_4
theorem d88_61 : decode (cod 88) 61 = .ok (.if_icmp .ne 13, 3) := by decide +kernel
theorem s88_61 {M : Mm} {st : List Value} {l0 l1 : Option Value} {x y : Int32} : EE 88 61 [l0, l1] (.int y :: .int x :: st) M = if x = y then EE 88 64 [l0, l1] st M else EE 88 74 [l0, l1] st M := e_cne d88_61 (by decide)
theorem d88_64 : decode (cod 88) 64 = .ok (.iload_n 1, 1) := by decide +kernel
theorem s88_64 {M : Mm} {st : List Value} {l0 : Option Value} {x : Int32} : EE 88 64 [l0, some (.int x)] st M = EE 88 65 [l0, some (.int x)] (.int x :: st) M := e_ld d88_64 rfl rfl rfl rfl rfl rfl
theorem d88_65 : decode (cod 88) 65 = .ok (.iconst 0, 1) := by decide +kernel
theorem s88_65 {M : Mm} {st : List Value} {l0 l1 : Option Value} : EE 88 65 [l0, l1] st M = EE 88 66 [l0, l1] (.int (nI 0) :: st) M := e_con d88_65 k_con_0
theorem d88_66 : decode (cod 88) 66 = .ok (.bipush 99, 2) := by decide +kernel
theorem s88_66 {M : Mm} {st : List Value} {l0 l1 : Option Value} : EE 88 66 [l0, l1] st M = EE 88 68 [l0, l1] (.int (nI 99) :: st) M := e_bip d88_66 k_bip_99
theorem d88_68 : decode (cod 88) 68 = .ok (.invokestatic 32, 3) := by decide +kernel
theorem s88_68 {M : Mm} {l0 l1 : Option Value} {b0 : Int32} {b1 : Int32} {b2 : Int32} {st : List Value} (hl : st.length ≤ 4) : EE 88 68 [l0, l1] (.int b2 :: .int b1 :: .int b0 :: st) M = (FF 84 [.int b0, .int b1, .int b2] M).bind (fun z => EE 88 71 [l0, l1] (psh z.1 st) z.2) := e_cals (av := [.int b0, .int b1, .int b2]) d88_68 c3_32 (Or.inl rfl) rfl rfl r88_84 rfl hl
theorem d88_71 : decode (cod 88) 71 = .ok (.goto 11, 3) := by decide +kernel
theorem s88_71 {M : Mm} {st : List Value} {l0 l1 : Option Value} : EE 88 71 [l0, l1] st M = EE 88 82 [l0, l1] st M := e_goto d88_71 (by decide)
theorem d88_74 : decode (cod 88) 74 = .ok (.iload_n 1, 1) := by decide +kernel
theorem s88_74 {M : Mm} {st : List Value} {l0 : Option Value} {x : Int32} : EE 88 74 [l0, some (.int x)] st M = EE 88 75 [l0, some (.int x)] (.int x :: st) M := e_ld d88_74 rfl rfl rfl rfl rfl rfl
theorem d88_75 : decode (cod 88) 75 = .ok (.iconst 0, 1) := by decide +kernel
theorem s88_75 {M : Mm} {st : List Value} {l0 l1 : Option Value} : EE 88 75 [l0, l1] st M = EE 88 76 [l0, l1] (.int (nI 0) :: st) M := e_con d88_75 k_con_0
theorem d88_76 : decode (cod 88) 76 = .ok (.sipush 999, 3) := by decide +kernel
theorem s88_76 {M : Mm} {st : List Value} {l0 l1 : Option Value} : EE 88 76 [l0, l1] st M = EE 88 79 [l0, l1] (.int (nI 999) :: st) M := e_sip d88_76 k_sip_999
theorem d88_79 : decode (cod 88) 79 = .ok (.invokestatic 32, 3) := by decide +kernel
theorem s88_79 {M : Mm} {l0 l1 : Option Value} {b0 : Int32} {b1 : Int32} {b2 : Int32} {st : List Value} (hl : st.length ≤ 4) : EE 88 79 [l0, l1] (.int b2 :: .int b1 :: .int b0 :: st) M = (FF 84 [.int b0, .int b1, .int b2] M).bind (fun z => EE 88 82 [l0, l1] (psh z.1 st) z.2) := e_cals (av := [.int b0, .int b1, .int b2]) d88_79 c3_32 (Or.inl rfl) rfl rfl r88_84 rfl hl
theorem d88_82 : decode (cod 88) 82 = .ok (.ireturn, 1) := by decide +kernel
theorem s88_82 {M : Mm} {l0 l1 : Option Value} {v : Int32} (h : narrow .boolean (.int v) = .int v) : EE 88 82 [l0, l1] [.int v] M = some (some (.int v), M) := e_iret d88_82 rfl h
theorem FE88 {b0 : Int32} {b1 : Int32} {M : Mm} : FF 88 [.int b0, .int b1] M = EE 88 0 [some (.int b0), some (.int b1)] [] M := FF_eq 88 _ _ (Nat.le_of_ble_eq_true rfl)
theorem d89_0 : decode (cod 89) 0 = .ok (.iload_n 1, 1) := by decide +kernel
theorem s89_0 {M : Mm} {st : List Value} {l0 l2 l3 : Option Value} {x : Int32} : EE 89 0 [l0, some (.int x), l2, l3] st M = EE 89 1 [l0, some (.int x), l2, l3] (.int x :: st) M := e_ld d89_0 rfl rfl rfl rfl rfl rfl
theorem d89_1 : decode (cod 89) 1 = .ok (.iload_n 2, 1) := by decide +kernel
theorem s89_1 {M : Mm} {st : List Value} {l0 l1 l3 : Option Value} {x : Int32} : EE 89 1 [l0, l1, some (.int x), l3] st M = EE 89 2 [l0, l1, some (.int x), l3] (.int x :: st) M := e_ld d89_1 rfl rfl rfl rfl rfl rfl
theorem d89_2 : decode (cod 89) 2 = .ok (.invokestatic 92, 3) := by decide +kernel
theorem s89_2 {M : Mm} {l0 l1 l2 l3 : Option Value} {b0 : Int32} {b1 : Int32} {st : List Value} (hl : st.length ≤ 4) : EE 89 2 [l0, l1, l2, l3] (.int b1 :: .int b0 :: st) M = (FF 90 [.int b0, .int b1] M).bind (fun z => EE 89 5 [l0, l1, l2, l3] (psh z.1 st) z.2) := e_cals (av := [.int b0, .int b1]) d89_2 c3_92 (Or.inl rfl) rfl rfl r89_90 rfl hl
theorem d89_5 : decode (cod 89) 5 = .ok (.istore_n 3, 1) := by decide +kernel
theorem s89_5 {M : Mm} {st : List Value} {l0 l1 l2 l3 : Option Value} {x : Int32} : EE 89 5 [l0, l1, l2, l3] (.int x :: st) M = EE 89 6 [l0, l1, cln l2, some (.int x)] st M := e_st1 d89_5 rfl rfl rfl rfl rfl rfl rfl (Nat.le_of_ble_eq_true rfl) rfl
theorem d89_6 : decode (cod 89) 6 = .ok (.iload_n 3, 1) := by decide +kernel
theorem s89_6 {M : Mm} {st : List Value} {l0 l1 l2 : Option Value} {x : Int32} : EE 89 6 [l0, l1, l2, some (.int x)] st M = EE 89 7 [l0, l1, l2, some (.int x)] (.int x :: st) M := e_ld d89_6 rfl rfl rfl rfl rfl rfl
theorem d89_7 : decode (cod 89) 7 = .ok (.ifCond .eq 5, 3) := by decide +kernel
theorem s89_7 {M : Mm} {st : List Value} {l0 l1 l2 l3 : Option Value} {x : Int32} : EE 89 7 [l0, l1, l2, l3] (.int x :: st) M = if x = 0 then EE 89 12 [l0, l1, l2, l3] st M else EE 89 10 [l0, l1, l2, l3] st M := e_eq0 d89_7 (by decide)
theorem d89_10 : decode (cod 89) 10 = .ok (.iload_n 3, 1) := by decide +kernel
theorem s89_10 {M : Mm} {st : List Value} {l0 l1 l2 : Option Value} {x : Int32} : EE 89 10 [l0, l1, l2, some (.int x)] st M = EE 89 11 [l0, l1, l2, some (.int x)] (.int x :: st) M := e_ld d89_10 rfl rfl rfl rfl rfl rfl
theorem d89_11 : decode (cod 89) 11 = .ok (.ireturn, 1) := by decide +kernel
theorem s89_11 {M : Mm} {l0 l1 l2 l3 : Option Value} {v : Int32} : EE 89 11 [l0, l1, l2, l3] [.int v] M = some (some (.int v), M) := e_iret d89_11 rfl rfl
theorem d89_12 : decode (cod 89) 12 = .ok (.aload_n 0, 1) := by decide +kernel
theorem s89_12 {M : Mm} {st : List Value} {l1 l2 l3 : Option Value} {x : Nat} : EE 89 12 [some (.ref x), l1, l2, l3] st M = EE 89 13 [some (.ref x), l1, l2, l3] (.ref x :: st) M := e_ld d89_12 rfl rfl rfl rfl rfl rfl
theorem d89_13 : decode (cod 89) 13 = .ok (.invokevirtual 44, 3) := by decide +kernel
theorem s89_13 {l0 l1 l2 l3 : Option Value} {a : Nat} {M : Mm} {st : List Value} (hl : st.length ≤ 4) (ho : isO "HandoverDeskModel" M.1 a = true) : EE 89 13 [l0, l1, l2, l3] (.ref a :: st) M = (FF 86 (.ref a :: []) M).bind (fun z => EE 89 16 [l0, l1, l2, l3] (psh z.1 st) z.2) := e_calv (av := []) d89_13 c3_44 rfl rfl rfl r89_86 rfl hl ho
theorem d89_16 : decode (cod 89) 16 = .ok (.aload_n 0, 1) := by decide +kernel
theorem s89_16 {M : Mm} {st : List Value} {l1 l2 l3 : Option Value} {x : Nat} : EE 89 16 [some (.ref x), l1, l2, l3] st M = EE 89 17 [some (.ref x), l1, l2, l3] (.ref x :: st) M := e_ld d89_16 rfl rfl rfl rfl rfl rfl
theorem d89_17 : decode (cod 89) 17 = .ok (.bipush 14, 2) := by decide +kernel
theorem s89_17 {M : Mm} {st : List Value} {l0 l1 l2 l3 : Option Value} : EE 89 17 [l0, l1, l2, l3] st M = EE 89 19 [l0, l1, l2, l3] (.int (nI 14) :: st) M := e_bip d89_17 k_bip_14
theorem d89_19 : decode (cod 89) 19 = .ok (.iload_n 1, 1) := by decide +kernel
theorem s89_19 {M : Mm} {st : List Value} {l0 l2 l3 : Option Value} {x : Int32} : EE 89 19 [l0, some (.int x), l2, l3] st M = EE 89 20 [l0, some (.int x), l2, l3] (.int x :: st) M := e_ld d89_19 rfl rfl rfl rfl rfl rfl
theorem d89_20 : decode (cod 89) 20 = .ok (.iadd, 1) := by decide +kernel
theorem s89_20 {M : Mm} {st : List Value} {l0 l1 l2 l3 : Option Value} {x y : Int32} : EE 89 20 [l0, l1, l2, l3] (.int y :: .int x :: st) M = EE 89 21 [l0, l1, l2, l3] (.int (x + y) :: st) M := e_II d89_20 rfl rfl rfl rfl rfl rfl
theorem d89_21 : decode (cod 89) 21 = .ok (.iload_n 2, 1) := by decide +kernel
theorem s89_21 {M : Mm} {st : List Value} {l0 l1 l3 : Option Value} {x : Int32} : EE 89 21 [l0, l1, some (.int x), l3] st M = EE 89 22 [l0, l1, some (.int x), l3] (.int x :: st) M := e_ld d89_21 rfl rfl rfl rfl rfl rfl
theorem d89_22 : decode (cod 89) 22 = .ok (.invokevirtual 95, 3) := by decide +kernel
theorem s89_22 {l0 l1 l2 l3 : Option Value} {a : Nat} {M : Mm} {b0 : Int32} {b1 : Int32} {st : List Value} (hl : st.length ≤ 4) (ho : isO "HandoverDeskModel" M.1 a = true) : EE 89 22 [l0, l1, l2, l3] (.int b1 :: .int b0 :: .ref a :: st) M = (FF 93 (.ref a :: [.int b0, .int b1]) M).bind (fun z => EE 89 25 [l0, l1, l2, l3] (psh z.1 st) z.2) := e_calv (av := [.int b0, .int b1]) d89_22 c3_95 rfl rfl rfl r89_93 rfl hl ho
theorem d89_25 : decode (cod 89) 25 = .ok (.ireturn, 1) := by decide +kernel
theorem s89_25 {M : Mm} {l0 l1 l2 l3 : Option Value} {v : Int32} : EE 89 25 [l0, l1, l2, l3] [.int v] M = some (some (.int v), M) := e_iret d89_25 rfl rfl
theorem FE89 {a : Nat} {b0 : Int32} {b1 : Int32} {M : Mm} : FF 89 [.ref a, .int b0, .int b1] M = EE 89 0 [some (.ref a), some (.int b0), some (.int b1), none] [] M := FF_eq 89 _ _ (Nat.le_of_ble_eq_true rfl)
theorem d90_0 : decode (cod 90) 0 = .ok (.iload_n 1, 1) := by decide +kernel
theorem s90_0 {M : Mm} {st : List Value} {l0 : Option Value} {x : Int32} : EE 90 0 [l0, some (.int x)] st M = EE 90 1 [l0, some (.int x)] (.int x :: st) M := e_ld d90_0 rfl rfl rfl rfl rfl rfl
theorem d90_1 : decode (cod 90) 1 = .ok (.invokestatic 85, 3) := by decide +kernel
theorem s90_1 {M : Mm} {l0 l1 : Option Value} {b0 : Int32} {st : List Value} (hl : st.length ≤ 4) : EE 90 1 [l0, l1] (.int b0 :: st) M = (FF 91 [.int b0] M).bind (fun z => EE 90 4 [l0, l1] (psh z.1 st) z.2) := e_cals (av := [.int b0]) d90_1 c3_85 (Or.inl rfl) rfl rfl r90_91 rfl hl
theorem d90_4 : decode (cod 90) 4 = .ok (.ifCond .ne 7, 3) := by decide +kernel
theorem s90_4 {M : Mm} {st : List Value} {l0 l1 : Option Value} {x : Int32} : EE 90 4 [l0, l1] (.int x :: st) M = if x = 0 then EE 90 7 [l0, l1] st M else EE 90 11 [l0, l1] st M := e_ne0 d90_4 (by decide)
theorem d90_7 : decode (cod 90) 7 = .ok (.iconst (-1), 1) := by decide +kernel
theorem s90_7 {M : Mm} {st : List Value} {l0 l1 : Option Value} : EE 90 7 [l0, l1] st M = EE 90 8 [l0, l1] (.int ((-1)) :: st) M := e_con d90_7 k_con_m1
theorem d90_8 : decode (cod 90) 8 = .ok (.goto 16, 3) := by decide +kernel
theorem s90_8 {M : Mm} {st : List Value} {l0 l1 : Option Value} : EE 90 8 [l0, l1] st M = EE 90 24 [l0, l1] st M := e_goto d90_8 (by decide)
theorem d90_11 : decode (cod 90) 11 = .ok (.iload_n 0, 1) := by decide +kernel
theorem s90_11 {M : Mm} {st : List Value} {l1 : Option Value} {x : Int32} : EE 90 11 [some (.int x), l1] st M = EE 90 12 [some (.int x), l1] (.int x :: st) M := e_ld d90_11 rfl rfl rfl rfl rfl rfl
theorem d90_12 : decode (cod 90) 12 = .ok (.invokestatic 89, 3) := by decide +kernel
theorem s90_12 {M : Mm} {l0 l1 : Option Value} {b0 : Int32} {st : List Value} (hl : st.length ≤ 4) : EE 90 12 [l0, l1] (.int b0 :: st) M = (FF 92 [.int b0] M).bind (fun z => EE 90 15 [l0, l1] (psh z.1 st) z.2) := e_cals (av := [.int b0]) d90_12 c3_89 (Or.inl rfl) rfl rfl r90_92 rfl hl
theorem d90_15 : decode (cod 90) 15 = .ok (.ifCond .eq 7, 3) := by decide +kernel
theorem s90_15 {M : Mm} {st : List Value} {l0 l1 : Option Value} {x : Int32} : EE 90 15 [l0, l1] (.int x :: st) M = if x = 0 then EE 90 22 [l0, l1] st M else EE 90 18 [l0, l1] st M := e_eq0 d90_15 (by decide)
theorem d90_18 : decode (cod 90) 18 = .ok (.iconst 0, 1) := by decide +kernel
theorem s90_18 {M : Mm} {st : List Value} {l0 l1 : Option Value} : EE 90 18 [l0, l1] st M = EE 90 19 [l0, l1] (.int (nI 0) :: st) M := e_con d90_18 k_con_0
theorem d90_19 : decode (cod 90) 19 = .ok (.goto 5, 3) := by decide +kernel
theorem s90_19 {M : Mm} {st : List Value} {l0 l1 : Option Value} : EE 90 19 [l0, l1] st M = EE 90 24 [l0, l1] st M := e_goto d90_19 (by decide)
theorem d90_22 : decode (cod 90) 22 = .ok (.bipush (-2), 2) := by decide +kernel
theorem s90_22 {M : Mm} {st : List Value} {l0 l1 : Option Value} : EE 90 22 [l0, l1] st M = EE 90 24 [l0, l1] (.int ((-2)) :: st) M := e_bip d90_22 k_bip_m2
theorem d90_24 : decode (cod 90) 24 = .ok (.ireturn, 1) := by decide +kernel
theorem s90_24 {M : Mm} {l0 l1 : Option Value} {v : Int32} : EE 90 24 [l0, l1] [.int v] M = some (some (.int v), M) := e_iret d90_24 rfl rfl
theorem FE90 {b0 : Int32} {b1 : Int32} {M : Mm} : FF 90 [.int b0, .int b1] M = EE 90 0 [some (.int b0), some (.int b1)] [] M := FF_eq 90 _ _ (Nat.le_of_ble_eq_true rfl)
theorem d91_0 : decode (cod 91) 0 = .ok (.iload_n 0, 1) := by decide +kernel
theorem s91_0 {M : Mm} {st : List Value} {x : Int32} : EE 91 0 [some (.int x)] st M = EE 91 1 [some (.int x)] (.int x :: st) M := e_ld d91_0 rfl rfl rfl rfl rfl rfl
theorem d91_1 : decode (cod 91) 1 = .ok (.iconst 0, 1) := by decide +kernel
theorem s91_1 {M : Mm} {st : List Value} {l0 : Option Value} : EE 91 1 [l0] st M = EE 91 2 [l0] (.int (nI 0) :: st) M := e_con d91_1 k_con_0
theorem d91_2 : decode (cod 91) 2 = .ok (.iconst 5, 1) := by decide +kernel
theorem s91_2 {M : Mm} {st : List Value} {l0 : Option Value} : EE 91 2 [l0] st M = EE 91 3 [l0] (.int (nI 5) :: st) M := e_con d91_2 k_con_5
theorem d91_3 : decode (cod 91) 3 = .ok (.invokestatic 32, 3) := by decide +kernel
theorem s91_3 {M : Mm} {l0 : Option Value} {b0 : Int32} {b1 : Int32} {b2 : Int32} {st : List Value} (hl : st.length ≤ 4) : EE 91 3 [l0] (.int b2 :: .int b1 :: .int b0 :: st) M = (FF 84 [.int b0, .int b1, .int b2] M).bind (fun z => EE 91 6 [l0] (psh z.1 st) z.2) := e_cals (av := [.int b0, .int b1, .int b2]) d91_3 c3_32 (Or.inl rfl) rfl rfl r91_84 rfl hl
theorem d91_6 : decode (cod 91) 6 = .ok (.ireturn, 1) := by decide +kernel
theorem s91_6 {M : Mm} {l0 : Option Value} {v : Int32} (h : narrow .boolean (.int v) = .int v) : EE 91 6 [l0] [.int v] M = some (some (.int v), M) := e_iret d91_6 rfl h
theorem FE91 {b0 : Int32} {M : Mm} : FF 91 [.int b0] M = EE 91 0 [some (.int b0)] [] M := FF_eq 91 _ _ (Nat.le_of_ble_eq_true rfl)
theorem d92_0 : decode (cod 92) 0 = .ok (.iload_n 0, 1) := by decide +kernel
theorem s92_0 {M : Mm} {st : List Value} {x : Int32} : EE 92 0 [some (.int x)] st M = EE 92 1 [some (.int x)] (.int x :: st) M := e_ld d92_0 rfl rfl rfl rfl rfl rfl
theorem d92_1 : decode (cod 92) 1 = .ok (.iconst 0, 1) := by decide +kernel
theorem s92_1 {M : Mm} {st : List Value} {l0 : Option Value} : EE 92 1 [l0] st M = EE 92 2 [l0] (.int (nI 0) :: st) M := e_con d92_1 k_con_0
theorem d92_2 : decode (cod 92) 2 = .ok (.bipush 11, 2) := by decide +kernel
theorem s92_2 {M : Mm} {st : List Value} {l0 : Option Value} : EE 92 2 [l0] st M = EE 92 4 [l0] (.int (nI 11) :: st) M := e_bip d92_2 k_bip_11
theorem d92_4 : decode (cod 92) 4 = .ok (.invokestatic 32, 3) := by decide +kernel
theorem s92_4 {M : Mm} {l0 : Option Value} {b0 : Int32} {b1 : Int32} {b2 : Int32} {st : List Value} (hl : st.length ≤ 4) : EE 92 4 [l0] (.int b2 :: .int b1 :: .int b0 :: st) M = (FF 84 [.int b0, .int b1, .int b2] M).bind (fun z => EE 92 7 [l0] (psh z.1 st) z.2) := e_cals (av := [.int b0, .int b1, .int b2]) d92_4 c3_32 (Or.inl rfl) rfl rfl r92_84 rfl hl
theorem d92_7 : decode (cod 92) 7 = .ok (.ireturn, 1) := by decide +kernel
theorem s92_7 {M : Mm} {l0 : Option Value} {v : Int32} (h : narrow .boolean (.int v) = .int v) : EE 92 7 [l0] [.int v] M = some (some (.int v), M) := e_iret d92_7 rfl h
theorem FE92 {b0 : Int32} {M : Mm} : FF 92 [.int b0] M = EE 92 0 [some (.int b0)] [] M := FF_eq 92 _ _ (Nat.le_of_ble_eq_true rfl)
theorem d93_0 : decode (cod 93) 0 = .ok (.aload_n 0, 1) := by decide +kernel
theorem s93_0 {M : Mm} {st : List Value} {l1 l2 l3 : Option Value} {x : Nat} : EE 93 0 [some (.ref x), l1, l2, l3] st M = EE 93 1 [some (.ref x), l1, l2, l3] (.ref x :: st) M := e_ld d93_0 rfl rfl rfl rfl rfl rfl
theorem d93_1 : decode (cod 93) 1 = .ok (.getfield 7, 3) := by decide +kernel
theorem s93_1 {n : Nat} {I : Nat → Nat → Int32} {R : Nat → Nat → Option Nat} {st : List Value} {l0 l1 l2 l3 : Option Value} {a : Nat} : EE 93 1 [l0, l1, l2, l3] (.ref a :: st) (n, I, R) = (gfI n I R 3 0 a).bind (fun z => EE 93 4 [l0, l1, l2, l3] (z :: st) (n, I, R)) := e_getf d93_1 f3_7 rfl rfl
theorem d93_4 : decode (cod 93) 4 = .ok (.iload_n 1, 1) := by decide +kernel
theorem s93_4 {M : Mm} {st : List Value} {l0 l2 l3 : Option Value} {x : Int32} : EE 93 4 [l0, some (.int x), l2, l3] st M = EE 93 5 [l0, some (.int x), l2, l3] (.int x :: st) M := e_ld d93_4 rfl rfl rfl rfl rfl rfl
theorem d93_5 : decode (cod 93) 5 = .ok (.iaload, 1) := by decide +kernel
theorem s93_5 {n : Nat} {I : Nat → Nat → Int32} {R : Nat → Nat → Option Nat} {st : List Value} {l0 l1 l2 l3 : Option Value} {j : Int32} {a : Nat} : EE 93 5 [l0, l1, l2, l3] (.int j :: .ref a :: st) (n, I, R) = (ardI 5 n I a j).bind (fun z => EE 93 6 [l0, l1, l2, l3] (.int z :: st) (n, I, R)) := e_iald d93_5
theorem d93_6 : decode (cod 93) 6 = .ok (.istore_n 3, 1) := by decide +kernel
theorem s93_6 {M : Mm} {st : List Value} {l0 l1 l2 l3 : Option Value} {x : Int32} : EE 93 6 [l0, l1, l2, l3] (.int x :: st) M = EE 93 7 [l0, l1, cln l2, some (.int x)] st M := e_st1 d93_6 rfl rfl rfl rfl rfl rfl rfl (Nat.le_of_ble_eq_true rfl) rfl
theorem d93_7 : decode (cod 93) 7 = .ok (.aload_n 0, 1) := by decide +kernel
theorem s93_7 {M : Mm} {st : List Value} {l1 l2 l3 : Option Value} {x : Nat} : EE 93 7 [some (.ref x), l1, l2, l3] st M = EE 93 8 [some (.ref x), l1, l2, l3] (.ref x :: st) M := e_ld d93_7 rfl rfl rfl rfl rfl rfl
theorem d93_8 : decode (cod 93) 8 = .ok (.getfield 7, 3) := by decide +kernel
theorem s93_8 {n : Nat} {I : Nat → Nat → Int32} {R : Nat → Nat → Option Nat} {st : List Value} {l0 l1 l2 l3 : Option Value} {a : Nat} : EE 93 8 [l0, l1, l2, l3] (.ref a :: st) (n, I, R) = (gfI n I R 3 0 a).bind (fun z => EE 93 11 [l0, l1, l2, l3] (z :: st) (n, I, R)) := e_getf d93_8 f3_7 rfl rfl
theorem d93_11 : decode (cod 93) 11 = .ok (.iload_n 1, 1) := by decide +kernel
theorem s93_11 {M : Mm} {st : List Value} {l0 l2 l3 : Option Value} {x : Int32} : EE 93 11 [l0, some (.int x), l2, l3] st M = EE 93 12 [l0, some (.int x), l2, l3] (.int x :: st) M := e_ld d93_11 rfl rfl rfl rfl rfl rfl
theorem d93_12 : decode (cod 93) 12 = .ok (.iload_n 2, 1) := by decide +kernel
theorem s93_12 {M : Mm} {st : List Value} {l0 l1 l3 : Option Value} {x : Int32} : EE 93 12 [l0, l1, some (.int x), l3] st M = EE 93 13 [l0, l1, some (.int x), l3] (.int x :: st) M := e_ld d93_12 rfl rfl rfl rfl rfl rfl
theorem d93_13 : decode (cod 93) 13 = .ok (.iastore, 1) := by decide +kernel
theorem s93_13 {n : Nat} {I : Nat → Nat → Int32} {R : Nat → Nat → Option Nat} {st : List Value} {l0 l1 l2 l3 : Option Value} {j x : Int32} {a : Nat} (h : acI 5 n a j) : EE 93 13 [l0, l1, l2, l3] (.int x :: .int j :: .ref a :: st) (n, I, R) = EE 93 14 [l0, l1, l2, l3] st (n, wI I a j.toNatClampNeg x, R) := e_iast d93_13 h
theorem d93_14 : decode (cod 93) 14 = .ok (.iload_n 3, 1) := by decide +kernel
theorem s93_14 {M : Mm} {st : List Value} {l0 l1 l2 : Option Value} {x : Int32} : EE 93 14 [l0, l1, l2, some (.int x)] st M = EE 93 15 [l0, l1, l2, some (.int x)] (.int x :: st) M := e_ld d93_14 rfl rfl rfl rfl rfl rfl
theorem d93_15 : decode (cod 93) 15 = .ok (.ireturn, 1) := by decide +kernel
theorem s93_15 {M : Mm} {l0 l1 l2 l3 : Option Value} {v : Int32} : EE 93 15 [l0, l1, l2, l3] [.int v] M = some (some (.int v), M) := e_iret d93_15 rfl rfl
theorem FE93 {a : Nat} {b0 : Int32} {b1 : Int32} {M : Mm} : FF 93 [.ref a, .int b0, .int b1] M = EE 93 0 [some (.ref a), some (.int b0), some (.int b1), none] [] M := FF_eq 93 _ _ (Nat.le_of_ble_eq_true rfl)
theorem d94_0 : decode (cod 94) 0 = .ok (.iload_n 1, 1) := by decide +kernel
theorem s94_0 {M : Mm} {st : List Value} {l0 l2 l3 : Option Value} {x : Int32} : EE 94 0 [l0, some (.int x), l2, l3] st M = EE 94 1 [l0, some (.int x), l2, l3] (.int x :: st) M := e_ld d94_0 rfl rfl rfl rfl rfl rfl
theorem d94_1 : decode (cod 94) 1 = .ok (.iload_n 2, 1) := by decide +kernel
theorem s94_1 {M : Mm} {st : List Value} {l0 l1 l3 : Option Value} {x : Int32} : EE 94 1 [l0, l1, some (.int x), l3] st M = EE 94 2 [l0, l1, some (.int x), l3] (.int x :: st) M := e_ld d94_1 rfl rfl rfl rfl rfl rfl
theorem d94_2 : decode (cod 94) 2 = .ok (.invokestatic 98, 3) := by decide +kernel
theorem s94_2 {M : Mm} {l0 l1 l2 l3 : Option Value} {b0 : Int32} {b1 : Int32} {st : List Value} (hl : st.length ≤ 4) : EE 94 2 [l0, l1, l2, l3] (.int b1 :: .int b0 :: st) M = (FF 95 [.int b0, .int b1] M).bind (fun z => EE 94 5 [l0, l1, l2, l3] (psh z.1 st) z.2) := e_cals (av := [.int b0, .int b1]) d94_2 c3_98 (Or.inl rfl) rfl rfl r94_95 rfl hl
theorem d94_5 : decode (cod 94) 5 = .ok (.istore_n 3, 1) := by decide +kernel
theorem s94_5 {M : Mm} {st : List Value} {l0 l1 l2 l3 : Option Value} {x : Int32} : EE 94 5 [l0, l1, l2, l3] (.int x :: st) M = EE 94 6 [l0, l1, cln l2, some (.int x)] st M := e_st1 d94_5 rfl rfl rfl rfl rfl rfl rfl (Nat.le_of_ble_eq_true rfl) rfl
theorem d94_6 : decode (cod 94) 6 = .ok (.iload_n 3, 1) := by decide +kernel
theorem s94_6 {M : Mm} {st : List Value} {l0 l1 l2 : Option Value} {x : Int32} : EE 94 6 [l0, l1, l2, some (.int x)] st M = EE 94 7 [l0, l1, l2, some (.int x)] (.int x :: st) M := e_ld d94_6 rfl rfl rfl rfl rfl rfl
theorem d94_7 : decode (cod 94) 7 = .ok (.ifCond .eq 5, 3) := by decide +kernel
theorem s94_7 {M : Mm} {st : List Value} {l0 l1 l2 l3 : Option Value} {x : Int32} : EE 94 7 [l0, l1, l2, l3] (.int x :: st) M = if x = 0 then EE 94 12 [l0, l1, l2, l3] st M else EE 94 10 [l0, l1, l2, l3] st M := e_eq0 d94_7 (by decide)
theorem d94_10 : decode (cod 94) 10 = .ok (.iload_n 3, 1) := by decide +kernel
theorem s94_10 {M : Mm} {st : List Value} {l0 l1 l2 : Option Value} {x : Int32} : EE 94 10 [l0, l1, l2, some (.int x)] st M = EE 94 11 [l0, l1, l2, some (.int x)] (.int x :: st) M := e_ld d94_10 rfl rfl rfl rfl rfl rfl
theorem d94_11 : decode (cod 94) 11 = .ok (.ireturn, 1) := by decide +kernel
theorem s94_11 {M : Mm} {l0 l1 l2 l3 : Option Value} {v : Int32} : EE 94 11 [l0, l1, l2, l3] [.int v] M = some (some (.int v), M) := e_iret d94_11 rfl rfl
theorem d94_12 : decode (cod 94) 12 = .ok (.aload_n 0, 1) := by decide +kernel
theorem s94_12 {M : Mm} {st : List Value} {l1 l2 l3 : Option Value} {x : Nat} : EE 94 12 [some (.ref x), l1, l2, l3] st M = EE 94 13 [some (.ref x), l1, l2, l3] (.ref x :: st) M := e_ld d94_12 rfl rfl rfl rfl rfl rfl
theorem d94_13 : decode (cod 94) 13 = .ok (.invokevirtual 44, 3) := by decide +kernel
theorem s94_13 {l0 l1 l2 l3 : Option Value} {a : Nat} {M : Mm} {st : List Value} (hl : st.length ≤ 4) (ho : isO "HandoverDeskModel" M.1 a = true) : EE 94 13 [l0, l1, l2, l3] (.ref a :: st) M = (FF 86 (.ref a :: []) M).bind (fun z => EE 94 16 [l0, l1, l2, l3] (psh z.1 st) z.2) := e_calv (av := []) d94_13 c3_44 rfl rfl rfl r94_86 rfl hl ho
theorem d94_16 : decode (cod 94) 16 = .ok (.aload_n 0, 1) := by decide +kernel
theorem s94_16 {M : Mm} {st : List Value} {l1 l2 l3 : Option Value} {x : Nat} : EE 94 16 [some (.ref x), l1, l2, l3] st M = EE 94 17 [some (.ref x), l1, l2, l3] (.ref x :: st) M := e_ld d94_16 rfl rfl rfl rfl rfl rfl
theorem d94_17 : decode (cod 94) 17 = .ok (.bipush 26, 2) := by decide +kernel
theorem s94_17 {M : Mm} {st : List Value} {l0 l1 l2 l3 : Option Value} : EE 94 17 [l0, l1, l2, l3] st M = EE 94 19 [l0, l1, l2, l3] (.int (nI 26) :: st) M := e_bip d94_17 k_bip_26
theorem d94_19 : decode (cod 94) 19 = .ok (.iload_n 1, 1) := by decide +kernel
theorem s94_19 {M : Mm} {st : List Value} {l0 l2 l3 : Option Value} {x : Int32} : EE 94 19 [l0, some (.int x), l2, l3] st M = EE 94 20 [l0, some (.int x), l2, l3] (.int x :: st) M := e_ld d94_19 rfl rfl rfl rfl rfl rfl
theorem d94_20 : decode (cod 94) 20 = .ok (.iadd, 1) := by decide +kernel
theorem s94_20 {M : Mm} {st : List Value} {l0 l1 l2 l3 : Option Value} {x y : Int32} : EE 94 20 [l0, l1, l2, l3] (.int y :: .int x :: st) M = EE 94 21 [l0, l1, l2, l3] (.int (x + y) :: st) M := e_II d94_20 rfl rfl rfl rfl rfl rfl
theorem d94_21 : decode (cod 94) 21 = .ok (.iload_n 2, 1) := by decide +kernel
theorem s94_21 {M : Mm} {st : List Value} {l0 l1 l3 : Option Value} {x : Int32} : EE 94 21 [l0, l1, some (.int x), l3] st M = EE 94 22 [l0, l1, some (.int x), l3] (.int x :: st) M := e_ld d94_21 rfl rfl rfl rfl rfl rfl
theorem d94_22 : decode (cod 94) 22 = .ok (.invokevirtual 95, 3) := by decide +kernel
theorem s94_22 {l0 l1 l2 l3 : Option Value} {a : Nat} {M : Mm} {b0 : Int32} {b1 : Int32} {st : List Value} (hl : st.length ≤ 4) (ho : isO "HandoverDeskModel" M.1 a = true) : EE 94 22 [l0, l1, l2, l3] (.int b1 :: .int b0 :: .ref a :: st) M = (FF 93 (.ref a :: [.int b0, .int b1]) M).bind (fun z => EE 94 25 [l0, l1, l2, l3] (psh z.1 st) z.2) := e_calv (av := [.int b0, .int b1]) d94_22 c3_95 rfl rfl rfl r94_93 rfl hl ho
theorem d94_25 : decode (cod 94) 25 = .ok (.ireturn, 1) := by decide +kernel
theorem s94_25 {M : Mm} {l0 l1 l2 l3 : Option Value} {v : Int32} : EE 94 25 [l0, l1, l2, l3] [.int v] M = some (some (.int v), M) := e_iret d94_25 rfl rfl
theorem FE94 {a : Nat} {b0 : Int32} {b1 : Int32} {M : Mm} : FF 94 [.ref a, .int b0, .int b1] M = EE 94 0 [some (.ref a), some (.int b0), some (.int b1), none] [] M := FF_eq 94 _ _ (Nat.le_of_ble_eq_true rfl)
theorem d95_0 : decode (cod 95) 0 = .ok (.iload_n 0, 1) := by decide +kernel
theorem s95_0 {M : Mm} {st : List Value} {l1 : Option Value} {x : Int32} : EE 95 0 [some (.int x), l1] st M = EE 95 1 [some (.int x), l1] (.int x :: st) M := e_ld d95_0 rfl rfl rfl rfl rfl rfl
theorem d95_1 : decode (cod 95) 1 = .ok (.invokestatic 89, 3) := by decide +kernel
theorem s95_1 {M : Mm} {l0 l1 : Option Value} {b0 : Int32} {st : List Value} (hl : st.length ≤ 4) : EE 95 1 [l0, l1] (.int b0 :: st) M = (FF 92 [.int b0] M).bind (fun z => EE 95 4 [l0, l1] (psh z.1 st) z.2) := e_cals (av := [.int b0]) d95_1 c3_89 (Or.inl rfl) rfl rfl r95_92 rfl hl
theorem d95_4 : decode (cod 95) 4 = .ok (.ifCond .eq 17, 3) := by decide +kernel
theorem s95_4 {M : Mm} {st : List Value} {l0 l1 : Option Value} {x : Int32} : EE 95 4 [l0, l1] (.int x :: st) M = if x = 0 then EE 95 21 [l0, l1] st M else EE 95 7 [l0, l1] st M := e_eq0 d95_4 (by decide)
theorem d95_7 : decode (cod 95) 7 = .ok (.iload_n 1, 1) := by decide +kernel
theorem s95_7 {M : Mm} {st : List Value} {l0 : Option Value} {x : Int32} : EE 95 7 [l0, some (.int x)] st M = EE 95 8 [l0, some (.int x)] (.int x :: st) M := e_ld d95_7 rfl rfl rfl rfl rfl rfl
theorem d95_8 : decode (cod 95) 8 = .ok (.iconst 0, 1) := by decide +kernel
theorem s95_8 {M : Mm} {st : List Value} {l0 l1 : Option Value} : EE 95 8 [l0, l1] st M = EE 95 9 [l0, l1] (.int (nI 0) :: st) M := e_con d95_8 k_con_0
theorem d95_9 : decode (cod 95) 9 = .ok (.bipush 60, 2) := by decide +kernel
theorem s95_9 {M : Mm} {st : List Value} {l0 l1 : Option Value} : EE 95 9 [l0, l1] st M = EE 95 11 [l0, l1] (.int (nI 60) :: st) M := e_bip d95_9 k_bip_60
theorem d95_11 : decode (cod 95) 11 = .ok (.invokestatic 32, 3) := by decide +kernel
theorem s95_11 {M : Mm} {l0 l1 : Option Value} {b0 : Int32} {b1 : Int32} {b2 : Int32} {st : List Value} (hl : st.length ≤ 4) : EE 95 11 [l0, l1] (.int b2 :: .int b1 :: .int b0 :: st) M = (FF 84 [.int b0, .int b1, .int b2] M).bind (fun z => EE 95 14 [l0, l1] (psh z.1 st) z.2) := e_cals (av := [.int b0, .int b1, .int b2]) d95_11 c3_32 (Or.inl rfl) rfl rfl r95_84 rfl hl
theorem d95_14 : decode (cod 95) 14 = .ok (.ifCond .eq 7, 3) := by decide +kernel
theorem s95_14 {M : Mm} {st : List Value} {l0 l1 : Option Value} {x : Int32} : EE 95 14 [l0, l1] (.int x :: st) M = if x = 0 then EE 95 21 [l0, l1] st M else EE 95 17 [l0, l1] st M := e_eq0 d95_14 (by decide)
theorem d95_17 : decode (cod 95) 17 = .ok (.iconst 0, 1) := by decide +kernel
theorem s95_17 {M : Mm} {st : List Value} {l0 l1 : Option Value} : EE 95 17 [l0, l1] st M = EE 95 18 [l0, l1] (.int (nI 0) :: st) M := e_con d95_17 k_con_0
theorem d95_18 : decode (cod 95) 18 = .ok (.goto 5, 3) := by decide +kernel
theorem s95_18 {M : Mm} {st : List Value} {l0 l1 : Option Value} : EE 95 18 [l0, l1] st M = EE 95 23 [l0, l1] st M := e_goto d95_18 (by decide)
theorem d95_21 : decode (cod 95) 21 = .ok (.bipush (-2), 2) := by decide +kernel
theorem s95_21 {M : Mm} {st : List Value} {l0 l1 : Option Value} : EE 95 21 [l0, l1] st M = EE 95 23 [l0, l1] (.int ((-2)) :: st) M := e_bip d95_21 k_bip_m2
theorem d95_23 : decode (cod 95) 23 = .ok (.ireturn, 1) := by decide +kernel
theorem s95_23 {M : Mm} {l0 l1 : Option Value} {v : Int32} : EE 95 23 [l0, l1] [.int v] M = some (some (.int v), M) := e_iret d95_23 rfl rfl
theorem FE95 {b0 : Int32} {b1 : Int32} {M : Mm} : FF 95 [.int b0, .int b1] M = EE 95 0 [some (.int b0), some (.int b1)] [] M := FF_eq 95 _ _ (Nat.le_of_ble_eq_true rfl)
theorem d96_0 : decode (cod 96) 0 = .ok (.aload_n 0, 1) := by decide +kernel
theorem s96_0 {M : Mm} {st : List Value} {x : Nat} : EE 96 0 [some (.ref x)] st M = EE 96 1 [some (.ref x)] (.ref x :: st) M := e_ld d96_0 rfl rfl rfl rfl rfl rfl
theorem d96_1 : decode (cod 96) 1 = .ok (.getfield 7, 3) := by decide +kernel
theorem s96_1 {n : Nat} {I : Nat → Nat → Int32} {R : Nat → Nat → Option Nat} {st : List Value} {l0 : Option Value} {a : Nat} : EE 96 1 [l0] (.ref a :: st) (n, I, R) = (gfI n I R 3 0 a).bind (fun z => EE 96 4 [l0] (z :: st) (n, I, R)) := e_getf d96_1 f3_7 rfl rfl
theorem d96_4 : decode (cod 96) 4 = .ok (.iconst 1, 1) := by decide +kernel
theorem s96_4 {M : Mm} {st : List Value} {l0 : Option Value} : EE 96 4 [l0] st M = EE 96 5 [l0] (.int (nI 1) :: st) M := e_con d96_4 k_con_1
theorem d96_5 : decode (cod 96) 5 = .ok (.iaload, 1) := by decide +kernel
theorem s96_5 {n : Nat} {I : Nat → Nat → Int32} {R : Nat → Nat → Option Nat} {st : List Value} {l0 : Option Value} {j : Int32} {a : Nat} : EE 96 5 [l0] (.int j :: .ref a :: st) (n, I, R) = (ardI 5 n I a j).bind (fun z => EE 96 6 [l0] (.int z :: st) (n, I, R)) := e_iald d96_5
theorem d96_6 : decode (cod 96) 6 = .ok (.bipush 10, 2) := by decide +kernel
theorem s96_6 {M : Mm} {st : List Value} {l0 : Option Value} : EE 96 6 [l0] st M = EE 96 8 [l0] (.int (nI 10) :: st) M := e_bip d96_6 k_bip_10
theorem d96_8 : decode (cod 96) 8 = .ok (.if_icmp .ne 6, 3) := by decide +kernel
theorem s96_8 {M : Mm} {st : List Value} {l0 : Option Value} {x y : Int32} : EE 96 8 [l0] (.int y :: .int x :: st) M = if x = y then EE 96 11 [l0] st M else EE 96 14 [l0] st M := e_cne d96_8 (by decide)
theorem d96_11 : decode (cod 96) 11 = .ok (.bipush (-4), 2) := by decide +kernel
theorem s96_11 {M : Mm} {st : List Value} {l0 : Option Value} : EE 96 11 [l0] st M = EE 96 13 [l0] (.int ((-4)) :: st) M := e_bip d96_11 k_bip_m4
theorem d96_13 : decode (cod 96) 13 = .ok (.ireturn, 1) := by decide +kernel
theorem s96_13 {M : Mm} {l0 : Option Value} {v : Int32} : EE 96 13 [l0] [.int v] M = some (some (.int v), M) := e_iret d96_13 rfl rfl
theorem d96_14 : decode (cod 96) 14 = .ok (.aload_n 0, 1) := by decide +kernel
theorem s96_14 {M : Mm} {st : List Value} {x : Nat} : EE 96 14 [some (.ref x)] st M = EE 96 15 [some (.ref x)] (.ref x :: st) M := e_ld d96_14 rfl rfl rfl rfl rfl rfl
theorem d96_15 : decode (cod 96) 15 = .ok (.invokevirtual 44, 3) := by decide +kernel
theorem s96_15 {l0 : Option Value} {a : Nat} {M : Mm} {st : List Value} (hl : st.length ≤ 4) (ho : isO "HandoverDeskModel" M.1 a = true) : EE 96 15 [l0] (.ref a :: st) M = (FF 86 (.ref a :: []) M).bind (fun z => EE 96 18 [l0] (psh z.1 st) z.2) := e_calv (av := []) d96_15 c3_44 rfl rfl rfl r96_86 rfl hl ho
theorem d96_18 : decode (cod 96) 18 = .ok (.aload_n 0, 1) := by decide +kernel
theorem s96_18 {M : Mm} {st : List Value} {x : Nat} : EE 96 18 [some (.ref x)] st M = EE 96 19 [some (.ref x)] (.ref x :: st) M := e_ld d96_18 rfl rfl rfl rfl rfl rfl
theorem d96_19 : decode (cod 96) 19 = .ok (.invokevirtual 101, 3) := by decide +kernel
theorem s96_19 {l0 : Option Value} {a : Nat} {M : Mm} {st : List Value} (hl : st.length ≤ 4) (ho : isO "HandoverDeskModel" M.1 a = true) : EE 96 19 [l0] (.ref a :: st) M = (FF 97 (.ref a :: []) M).bind (fun z => EE 96 22 [l0] (psh z.1 st) z.2) := e_calv (av := []) d96_19 c3_101 rfl rfl rfl r96_97 rfl hl ho
theorem d96_22 : decode (cod 96) 22 = .ok (.aload_n 0, 1) := by decide +kernel
theorem s96_22 {M : Mm} {st : List Value} {x : Nat} : EE 96 22 [some (.ref x)] st M = EE 96 23 [some (.ref x)] (.ref x :: st) M := e_ld d96_22 rfl rfl rfl rfl rfl rfl
theorem d96_23 : decode (cod 96) 23 = .ok (.getfield 7, 3) := by decide +kernel
theorem s96_23 {n : Nat} {I : Nat → Nat → Int32} {R : Nat → Nat → Option Nat} {st : List Value} {l0 : Option Value} {a : Nat} : EE 96 23 [l0] (.ref a :: st) (n, I, R) = (gfI n I R 3 0 a).bind (fun z => EE 96 26 [l0] (z :: st) (n, I, R)) := e_getf d96_23 f3_7 rfl rfl
theorem d96_26 : decode (cod 96) 26 = .ok (.iconst 1, 1) := by decide +kernel
theorem s96_26 {M : Mm} {st : List Value} {l0 : Option Value} : EE 96 26 [l0] st M = EE 96 27 [l0] (.int (nI 1) :: st) M := e_con d96_26 k_con_1
theorem d96_27 : decode (cod 96) 27 = .ok (.iaload, 1) := by decide +kernel
theorem s96_27 {n : Nat} {I : Nat → Nat → Int32} {R : Nat → Nat → Option Nat} {st : List Value} {l0 : Option Value} {j : Int32} {a : Nat} : EE 96 27 [l0] (.int j :: .ref a :: st) (n, I, R) = (ardI 5 n I a j).bind (fun z => EE 96 28 [l0] (.int z :: st) (n, I, R)) := e_iald d96_27
theorem d96_28 : decode (cod 96) 28 = .ok (.iconst 1, 1) := by decide +kernel
theorem s96_28 {M : Mm} {st : List Value} {l0 : Option Value} : EE 96 28 [l0] st M = EE 96 29 [l0] (.int (nI 1) :: st) M := e_con d96_28 k_con_1
theorem d96_29 : decode (cod 96) 29 = .ok (.isub, 1) := by decide +kernel
theorem s96_29 {M : Mm} {st : List Value} {l0 : Option Value} {x y : Int32} : EE 96 29 [l0] (.int y :: .int x :: st) M = EE 96 30 [l0] (.int (x - y) :: st) M := e_II d96_29 rfl rfl rfl rfl rfl rfl
theorem d96_30 : decode (cod 96) 30 = .ok (.ireturn, 1) := by decide +kernel
theorem s96_30 {M : Mm} {l0 : Option Value} {v : Int32} : EE 96 30 [l0] [.int v] M = some (some (.int v), M) := e_iret d96_30 rfl rfl
theorem FE96 {a : Nat} {M : Mm} : FF 96 [.ref a] M = EE 96 0 [some (.ref a)] [] M := FF_eq 96 _ _ (Nat.le_of_ble_eq_true rfl)
theorem d97_0 : decode (cod 97) 0 = .ok (.aload_n 0, 1) := by decide +kernel
theorem s97_0 {M : Mm} {st : List Value} {x : Nat} : EE 97 0 [some (.ref x)] st M = EE 97 1 [some (.ref x)] (.ref x :: st) M := e_ld d97_0 rfl rfl rfl rfl rfl rfl
theorem d97_1 : decode (cod 97) 1 = .ok (.getfield 7, 3) := by decide +kernel
theorem s97_1 {n : Nat} {I : Nat → Nat → Int32} {R : Nat → Nat → Option Nat} {st : List Value} {l0 : Option Value} {a : Nat} : EE 97 1 [l0] (.ref a :: st) (n, I, R) = (gfI n I R 3 0 a).bind (fun z => EE 97 4 [l0] (z :: st) (n, I, R)) := e_getf d97_1 f3_7 rfl rfl
theorem d97_4 : decode (cod 97) 4 = .ok (.bipush 38, 2) := by decide +kernel
theorem s97_4 {M : Mm} {st : List Value} {l0 : Option Value} : EE 97 4 [l0] st M = EE 97 6 [l0] (.int (nI 38) :: st) M := e_bip d97_4 k_bip_38
theorem d97_6 : decode (cod 97) 6 = .ok (.aload_n 0, 1) := by decide +kernel
theorem s97_6 {M : Mm} {st : List Value} {x : Nat} : EE 97 6 [some (.ref x)] st M = EE 97 7 [some (.ref x)] (.ref x :: st) M := e_ld d97_6 rfl rfl rfl rfl rfl rfl
theorem d97_7 : decode (cod 97) 7 = .ok (.getfield 7, 3) := by decide +kernel
theorem s97_7 {n : Nat} {I : Nat → Nat → Int32} {R : Nat → Nat → Option Nat} {st : List Value} {l0 : Option Value} {a : Nat} : EE 97 7 [l0] (.ref a :: st) (n, I, R) = (gfI n I R 3 0 a).bind (fun z => EE 97 10 [l0] (z :: st) (n, I, R)) := e_getf d97_7 f3_7 rfl rfl
theorem d97_10 : decode (cod 97) 10 = .ok (.iconst 1, 1) := by decide +kernel
theorem s97_10 {M : Mm} {st : List Value} {l0 : Option Value} : EE 97 10 [l0] st M = EE 97 11 [l0] (.int (nI 1) :: st) M := e_con d97_10 k_con_1
theorem d97_11 : decode (cod 97) 11 = .ok (.iaload, 1) := by decide +kernel
theorem s97_11 {n : Nat} {I : Nat → Nat → Int32} {R : Nat → Nat → Option Nat} {st : List Value} {l0 : Option Value} {j : Int32} {a : Nat} : EE 97 11 [l0] (.int j :: .ref a :: st) (n, I, R) = (ardI 5 n I a j).bind (fun z => EE 97 12 [l0] (.int z :: st) (n, I, R)) := e_iald d97_11
theorem d97_12 : decode (cod 97) 12 = .ok (.iadd, 1) := by decide +kernel
theorem s97_12 {M : Mm} {st : List Value} {l0 : Option Value} {x y : Int32} : EE 97 12 [l0] (.int y :: .int x :: st) M = EE 97 13 [l0] (.int (x + y) :: st) M := e_II d97_12 rfl rfl rfl rfl rfl rfl
theorem d97_13 : decode (cod 97) 13 = .ok (.iconst 1, 1) := by decide +kernel
theorem s97_13 {M : Mm} {st : List Value} {l0 : Option Value} : EE 97 13 [l0] st M = EE 97 14 [l0] (.int (nI 1) :: st) M := e_con d97_13 k_con_1
theorem d97_14 : decode (cod 97) 14 = .ok (.iastore, 1) := by decide +kernel
theorem s97_14 {n : Nat} {I : Nat → Nat → Int32} {R : Nat → Nat → Option Nat} {st : List Value} {l0 : Option Value} {j x : Int32} {a : Nat} (h : acI 5 n a j) : EE 97 14 [l0] (.int x :: .int j :: .ref a :: st) (n, I, R) = EE 97 15 [l0] st (n, wI I a j.toNatClampNeg x, R) := e_iast d97_14 h
theorem d97_15 : decode (cod 97) 15 = .ok (.aload_n 0, 1) := by decide +kernel
theorem s97_15 {M : Mm} {st : List Value} {x : Nat} : EE 97 15 [some (.ref x)] st M = EE 97 16 [some (.ref x)] (.ref x :: st) M := e_ld d97_15 rfl rfl rfl rfl rfl rfl
theorem d97_16 : decode (cod 97) 16 = .ok (.getfield 7, 3) := by decide +kernel
theorem s97_16 {n : Nat} {I : Nat → Nat → Int32} {R : Nat → Nat → Option Nat} {st : List Value} {l0 : Option Value} {a : Nat} : EE 97 16 [l0] (.ref a :: st) (n, I, R) = (gfI n I R 3 0 a).bind (fun z => EE 97 19 [l0] (z :: st) (n, I, R)) := e_getf d97_16 f3_7 rfl rfl
theorem d97_19 : decode (cod 97) 19 = .ok (.iconst 1, 1) := by decide +kernel
theorem s97_19 {M : Mm} {st : List Value} {l0 : Option Value} : EE 97 19 [l0] st M = EE 97 20 [l0] (.int (nI 1) :: st) M := e_con d97_19 k_con_1
theorem d97_20 : decode (cod 97) 20 = .ok (.dup2, 1) := by decide +kernel
theorem s97_20 {M : Mm} {st : List Value} {l0 : Option Value} {x : Int32} {y : Nat} : EE 97 20 [l0] (.int x :: .ref y :: st) M = EE 97 21 [l0] (.int x :: .ref y :: .int x :: .ref y :: st) M := e_dup2 d97_20 rfl rfl
theorem d97_21 : decode (cod 97) 21 = .ok (.iaload, 1) := by decide +kernel
theorem s97_21 {n : Nat} {I : Nat → Nat → Int32} {R : Nat → Nat → Option Nat} {st : List Value} {l0 : Option Value} {j : Int32} {a : Nat} : EE 97 21 [l0] (.int j :: .ref a :: st) (n, I, R) = (ardI 5 n I a j).bind (fun z => EE 97 22 [l0] (.int z :: st) (n, I, R)) := e_iald d97_21
theorem d97_22 : decode (cod 97) 22 = .ok (.iconst 1, 1) := by decide +kernel
theorem s97_22 {M : Mm} {st : List Value} {l0 : Option Value} : EE 97 22 [l0] st M = EE 97 23 [l0] (.int (nI 1) :: st) M := e_con d97_22 k_con_1
theorem d97_23 : decode (cod 97) 23 = .ok (.iadd, 1) := by decide +kernel
theorem s97_23 {M : Mm} {st : List Value} {l0 : Option Value} {x y : Int32} : EE 97 23 [l0] (.int y :: .int x :: st) M = EE 97 24 [l0] (.int (x + y) :: st) M := e_II d97_23 rfl rfl rfl rfl rfl rfl
theorem d97_24 : decode (cod 97) 24 = .ok (.iastore, 1) := by decide +kernel
theorem s97_24 {n : Nat} {I : Nat → Nat → Int32} {R : Nat → Nat → Option Nat} {st : List Value} {l0 : Option Value} {j x : Int32} {a : Nat} (h : acI 5 n a j) : EE 97 24 [l0] (.int x :: .int j :: .ref a :: st) (n, I, R) = EE 97 25 [l0] st (n, wI I a j.toNatClampNeg x, R) := e_iast d97_24 h
theorem d97_25 : decode (cod 97) 25 = .ok (.return_, 1) := by decide +kernel
theorem s97_25 {M : Mm} {l0 : Option Value} : EE 97 25 [l0] [] M = some (none, M) := e_vret d97_25 rfl
theorem FE97 {a : Nat} {M : Mm} : FF 97 [.ref a] M = EE 97 0 [some (.ref a)] [] M := FF_eq 97 _ _ (Nat.le_of_ble_eq_true rfl)
theorem d98_0 : decode (cod 98) 0 = .ok (.aload_n 0, 1) := by decide +kernel
theorem s98_0 {M : Mm} {st : List Value} {l1 : Option Value} {x : Nat} : EE 98 0 [some (.ref x), l1] st M = EE 98 1 [some (.ref x), l1] (.ref x :: st) M := e_ld d98_0 rfl rfl rfl rfl rfl rfl
theorem d98_1 : decode (cod 98) 1 = .ok (.iload_n 1, 1) := by decide +kernel
theorem s98_1 {M : Mm} {st : List Value} {l0 : Option Value} {x : Int32} : EE 98 1 [l0, some (.int x)] st M = EE 98 2 [l0, some (.int x)] (.int x :: st) M := e_ld d98_1 rfl rfl rfl rfl rfl rfl
theorem d98_2 : decode (cod 98) 2 = .ok (.invokevirtual 104, 3) := by decide +kernel
theorem s98_2 {l0 l1 : Option Value} {a : Nat} {M : Mm} {b0 : Int32} {st : List Value} (hl : st.length ≤ 4) (ho : isO "HandoverDeskModel" M.1 a = true) : EE 98 2 [l0, l1] (.int b0 :: .ref a :: st) M = (FF 99 (.ref a :: [.int b0]) M).bind (fun z => EE 98 5 [l0, l1] (psh z.1 st) z.2) := e_calv (av := [.int b0]) d98_2 c3_104 rfl rfl rfl r98_99 rfl hl ho
theorem d98_5 : decode (cod 98) 5 = .ok (.ifCond .ne 5, 3) := by decide +kernel
theorem s98_5 {M : Mm} {st : List Value} {l0 l1 : Option Value} {x : Int32} : EE 98 5 [l0, l1] (.int x :: st) M = if x = 0 then EE 98 8 [l0, l1] st M else EE 98 10 [l0, l1] st M := e_ne0 d98_5 (by decide)
theorem d98_8 : decode (cod 98) 8 = .ok (.iconst (-1), 1) := by decide +kernel
theorem s98_8 {M : Mm} {st : List Value} {l0 l1 : Option Value} : EE 98 8 [l0, l1] st M = EE 98 9 [l0, l1] (.int ((-1)) :: st) M := e_con d98_8 k_con_m1
theorem d98_9 : decode (cod 98) 9 = .ok (.ireturn, 1) := by decide +kernel
theorem s98_9 {M : Mm} {l0 l1 : Option Value} {v : Int32} : EE 98 9 [l0, l1] [.int v] M = some (some (.int v), M) := e_iret d98_9 rfl rfl
theorem d98_10 : decode (cod 98) 10 = .ok (.aload_n 0, 1) := by decide +kernel
theorem s98_10 {M : Mm} {st : List Value} {l1 : Option Value} {x : Nat} : EE 98 10 [some (.ref x), l1] st M = EE 98 11 [some (.ref x), l1] (.ref x :: st) M := e_ld d98_10 rfl rfl rfl rfl rfl rfl
theorem d98_11 : decode (cod 98) 11 = .ok (.invokevirtual 44, 3) := by decide +kernel
theorem s98_11 {l0 l1 : Option Value} {a : Nat} {M : Mm} {st : List Value} (hl : st.length ≤ 4) (ho : isO "HandoverDeskModel" M.1 a = true) : EE 98 11 [l0, l1] (.ref a :: st) M = (FF 86 (.ref a :: []) M).bind (fun z => EE 98 14 [l0, l1] (psh z.1 st) z.2) := e_calv (av := []) d98_11 c3_44 rfl rfl rfl r98_86 rfl hl ho
theorem d98_14 : decode (cod 98) 14 = .ok (.aload_n 0, 1) := by decide +kernel
theorem s98_14 {M : Mm} {st : List Value} {l1 : Option Value} {x : Nat} : EE 98 14 [some (.ref x), l1] st M = EE 98 15 [some (.ref x), l1] (.ref x :: st) M := e_ld d98_14 rfl rfl rfl rfl rfl rfl
theorem d98_15 : decode (cod 98) 15 = .ok (.iload_n 1, 1) := by decide +kernel
theorem s98_15 {M : Mm} {st : List Value} {l0 : Option Value} {x : Int32} : EE 98 15 [l0, some (.int x)] st M = EE 98 16 [l0, some (.int x)] (.int x :: st) M := e_ld d98_15 rfl rfl rfl rfl rfl rfl
theorem d98_16 : decode (cod 98) 16 = .ok (.invokevirtual 107, 3) := by decide +kernel
theorem s98_16 {l0 l1 : Option Value} {a : Nat} {M : Mm} {b0 : Int32} {st : List Value} (hl : st.length ≤ 4) (ho : isO "HandoverDeskModel" M.1 a = true) : EE 98 16 [l0, l1] (.int b0 :: .ref a :: st) M = (FF 100 (.ref a :: [.int b0]) M).bind (fun z => EE 98 19 [l0, l1] (psh z.1 st) z.2) := e_calv (av := [.int b0]) d98_16 c3_107 rfl rfl rfl r98_100 rfl hl ho
theorem d98_19 : decode (cod 98) 19 = .ok (.ireturn, 1) := by decide +kernel
theorem s98_19 {M : Mm} {l0 l1 : Option Value} {v : Int32} : EE 98 19 [l0, l1] [.int v] M = some (some (.int v), M) := e_iret d98_19 rfl rfl
theorem FE98 {a : Nat} {b0 : Int32} {M : Mm} : FF 98 [.ref a, .int b0] M = EE 98 0 [some (.ref a), some (.int b0)] [] M := FF_eq 98 _ _ (Nat.le_of_ble_eq_true rfl)
theorem d99_0 : decode (cod 99) 0 = .ok (.iload_n 1, 1) := by decide +kernel
theorem s99_0 {M : Mm} {st : List Value} {l0 : Option Value} {x : Int32} : EE 99 0 [l0, some (.int x)] st M = EE 99 1 [l0, some (.int x)] (.int x :: st) M := e_ld d99_0 rfl rfl rfl rfl rfl rfl
theorem d99_1 : decode (cod 99) 1 = .ok (.iconst 0, 1) := by decide +kernel
theorem s99_1 {M : Mm} {st : List Value} {l0 l1 : Option Value} : EE 99 1 [l0, l1] st M = EE 99 2 [l0, l1] (.int (nI 0) :: st) M := e_con d99_1 k_con_0
theorem d99_2 : decode (cod 99) 2 = .ok (.aload_n 0, 1) := by decide +kernel
theorem s99_2 {M : Mm} {st : List Value} {l1 : Option Value} {x : Nat} : EE 99 2 [some (.ref x), l1] st M = EE 99 3 [some (.ref x), l1] (.ref x :: st) M := e_ld d99_2 rfl rfl rfl rfl rfl rfl
theorem d99_3 : decode (cod 99) 3 = .ok (.getfield 7, 3) := by decide +kernel
theorem s99_3 {n : Nat} {I : Nat → Nat → Int32} {R : Nat → Nat → Option Nat} {st : List Value} {l0 l1 : Option Value} {a : Nat} : EE 99 3 [l0, l1] (.ref a :: st) (n, I, R) = (gfI n I R 3 0 a).bind (fun z => EE 99 6 [l0, l1] (z :: st) (n, I, R)) := e_getf d99_3 f3_7 rfl rfl
theorem d99_6 : decode (cod 99) 6 = .ok (.iconst 1, 1) := by decide +kernel
theorem s99_6 {M : Mm} {st : List Value} {l0 l1 : Option Value} : EE 99 6 [l0, l1] st M = EE 99 7 [l0, l1] (.int (nI 1) :: st) M := e_con d99_6 k_con_1
theorem d99_7 : decode (cod 99) 7 = .ok (.iaload, 1) := by decide +kernel
theorem s99_7 {n : Nat} {I : Nat → Nat → Int32} {R : Nat → Nat → Option Nat} {st : List Value} {l0 l1 : Option Value} {j : Int32} {a : Nat} : EE 99 7 [l0, l1] (.int j :: .ref a :: st) (n, I, R) = (ardI 5 n I a j).bind (fun z => EE 99 8 [l0, l1] (.int z :: st) (n, I, R)) := e_iald d99_7
theorem d99_8 : decode (cod 99) 8 = .ok (.iconst 1, 1) := by decide +kernel
theorem s99_8 {M : Mm} {st : List Value} {l0 l1 : Option Value} : EE 99 8 [l0, l1] st M = EE 99 9 [l0, l1] (.int (nI 1) :: st) M := e_con d99_8 k_con_1
theorem d99_9 : decode (cod 99) 9 = .ok (.isub, 1) := by decide +kernel
theorem s99_9 {M : Mm} {st : List Value} {l0 l1 : Option Value} {x y : Int32} : EE 99 9 [l0, l1] (.int y :: .int x :: st) M = EE 99 10 [l0, l1] (.int (x - y) :: st) M := e_II d99_9 rfl rfl rfl rfl rfl rfl
theorem d99_10 : decode (cod 99) 10 = .ok (.invokestatic 32, 3) := by decide +kernel
theorem s99_10 {M : Mm} {l0 l1 : Option Value} {b0 : Int32} {b1 : Int32} {b2 : Int32} {st : List Value} (hl : st.length ≤ 4) : EE 99 10 [l0, l1] (.int b2 :: .int b1 :: .int b0 :: st) M = (FF 84 [.int b0, .int b1, .int b2] M).bind (fun z => EE 99 13 [l0, l1] (psh z.1 st) z.2) := e_cals (av := [.int b0, .int b1, .int b2]) d99_10 c3_32 (Or.inl rfl) rfl rfl r99_84 rfl hl
theorem d99_13 : decode (cod 99) 13 = .ok (.ireturn, 1) := by decide +kernel
theorem s99_13 {M : Mm} {l0 l1 : Option Value} {v : Int32} (h : narrow .boolean (.int v) = .int v) : EE 99 13 [l0, l1] [.int v] M = some (some (.int v), M) := e_iret d99_13 rfl h
theorem FE99 {a : Nat} {b0 : Int32} {M : Mm} : FF 99 [.ref a, .int b0] M = EE 99 0 [some (.ref a), some (.int b0)] [] M := FF_eq 99 _ _ (Nat.le_of_ble_eq_true rfl)
theorem d100_0 : decode (cod 100) 0 = .ok (.aload_n 0, 1) := by decide +kernel
theorem s100_0 {M : Mm} {st : List Value} {l1 : Option Value} {x : Nat} : EE 100 0 [some (.ref x), l1] st M = EE 100 1 [some (.ref x), l1] (.ref x :: st) M := e_ld d100_0 rfl rfl rfl rfl rfl rfl
theorem d100_1 : decode (cod 100) 1 = .ok (.getfield 7, 3) := by decide +kernel
theorem s100_1 {n : Nat} {I : Nat → Nat → Int32} {R : Nat → Nat → Option Nat} {st : List Value} {l0 l1 : Option Value} {a : Nat} : EE 100 1 [l0, l1] (.ref a :: st) (n, I, R) = (gfI n I R 3 0 a).bind (fun z => EE 100 4 [l0, l1] (z :: st) (n, I, R)) := e_getf d100_1 f3_7 rfl rfl
theorem d100_4 : decode (cod 100) 4 = .ok (.bipush 38, 2) := by decide +kernel
theorem s100_4 {M : Mm} {st : List Value} {l0 l1 : Option Value} : EE 100 4 [l0, l1] st M = EE 100 6 [l0, l1] (.int (nI 38) :: st) M := e_bip d100_4 k_bip_38
theorem d100_6 : decode (cod 100) 6 = .ok (.iload_n 1, 1) := by decide +kernel
theorem s100_6 {M : Mm} {st : List Value} {l0 : Option Value} {x : Int32} : EE 100 6 [l0, some (.int x)] st M = EE 100 7 [l0, some (.int x)] (.int x :: st) M := e_ld d100_6 rfl rfl rfl rfl rfl rfl
theorem d100_7 : decode (cod 100) 7 = .ok (.iadd, 1) := by decide +kernel
theorem s100_7 {M : Mm} {st : List Value} {l0 l1 : Option Value} {x y : Int32} : EE 100 7 [l0, l1] (.int y :: .int x :: st) M = EE 100 8 [l0, l1] (.int (x + y) :: st) M := e_II d100_7 rfl rfl rfl rfl rfl rfl
theorem d100_8 : decode (cod 100) 8 = .ok (.iconst 1, 1) := by decide +kernel
theorem s100_8 {M : Mm} {st : List Value} {l0 l1 : Option Value} : EE 100 8 [l0, l1] st M = EE 100 9 [l0, l1] (.int (nI 1) :: st) M := e_con d100_8 k_con_1
theorem d100_9 : decode (cod 100) 9 = .ok (.aload_n 0, 1) := by decide +kernel
theorem s100_9 {M : Mm} {st : List Value} {l1 : Option Value} {x : Nat} : EE 100 9 [some (.ref x), l1] st M = EE 100 10 [some (.ref x), l1] (.ref x :: st) M := e_ld d100_9 rfl rfl rfl rfl rfl rfl
theorem d100_10 : decode (cod 100) 10 = .ok (.getfield 7, 3) := by decide +kernel
theorem s100_10 {n : Nat} {I : Nat → Nat → Int32} {R : Nat → Nat → Option Nat} {st : List Value} {l0 l1 : Option Value} {a : Nat} : EE 100 10 [l0, l1] (.ref a :: st) (n, I, R) = (gfI n I R 3 0 a).bind (fun z => EE 100 13 [l0, l1] (z :: st) (n, I, R)) := e_getf d100_10 f3_7 rfl rfl
theorem d100_13 : decode (cod 100) 13 = .ok (.bipush 38, 2) := by decide +kernel
theorem s100_13 {M : Mm} {st : List Value} {l0 l1 : Option Value} : EE 100 13 [l0, l1] st M = EE 100 15 [l0, l1] (.int (nI 38) :: st) M := e_bip d100_13 k_bip_38
theorem d100_15 : decode (cod 100) 15 = .ok (.iload_n 1, 1) := by decide +kernel
theorem s100_15 {M : Mm} {st : List Value} {l0 : Option Value} {x : Int32} : EE 100 15 [l0, some (.int x)] st M = EE 100 16 [l0, some (.int x)] (.int x :: st) M := e_ld d100_15 rfl rfl rfl rfl rfl rfl
theorem d100_16 : decode (cod 100) 16 = .ok (.iadd, 1) := by decide +kernel
theorem s100_16 {M : Mm} {st : List Value} {l0 l1 : Option Value} {x y : Int32} : EE 100 16 [l0, l1] (.int y :: .int x :: st) M = EE 100 17 [l0, l1] (.int (x + y) :: st) M := e_II d100_16 rfl rfl rfl rfl rfl rfl
theorem d100_17 : decode (cod 100) 17 = .ok (.iaload, 1) := by decide +kernel
theorem s100_17 {n : Nat} {I : Nat → Nat → Int32} {R : Nat → Nat → Option Nat} {st : List Value} {l0 l1 : Option Value} {j : Int32} {a : Nat} : EE 100 17 [l0, l1] (.int j :: .ref a :: st) (n, I, R) = (ardI 5 n I a j).bind (fun z => EE 100 18 [l0, l1] (.int z :: st) (n, I, R)) := e_iald d100_17
theorem d100_18 : decode (cod 100) 18 = .ok (.isub, 1) := by decide +kernel
theorem s100_18 {M : Mm} {st : List Value} {l0 l1 : Option Value} {x y : Int32} : EE 100 18 [l0, l1] (.int y :: .int x :: st) M = EE 100 19 [l0, l1] (.int (x - y) :: st) M := e_II d100_18 rfl rfl rfl rfl rfl rfl
theorem d100_19 : decode (cod 100) 19 = .ok (.iastore, 1) := by decide +kernel
theorem s100_19 {n : Nat} {I : Nat → Nat → Int32} {R : Nat → Nat → Option Nat} {st : List Value} {l0 l1 : Option Value} {j x : Int32} {a : Nat} (h : acI 5 n a j) : EE 100 19 [l0, l1] (.int x :: .int j :: .ref a :: st) (n, I, R) = EE 100 20 [l0, l1] st (n, wI I a j.toNatClampNeg x, R) := e_iast d100_19 h
theorem d100_20 : decode (cod 100) 20 = .ok (.aload_n 0, 1) := by decide +kernel
theorem s100_20 {M : Mm} {st : List Value} {l1 : Option Value} {x : Nat} : EE 100 20 [some (.ref x), l1] st M = EE 100 21 [some (.ref x), l1] (.ref x :: st) M := e_ld d100_20 rfl rfl rfl rfl rfl rfl
theorem d100_21 : decode (cod 100) 21 = .ok (.getfield 7, 3) := by decide +kernel
theorem s100_21 {n : Nat} {I : Nat → Nat → Int32} {R : Nat → Nat → Option Nat} {st : List Value} {l0 l1 : Option Value} {a : Nat} : EE 100 21 [l0, l1] (.ref a :: st) (n, I, R) = (gfI n I R 3 0 a).bind (fun z => EE 100 24 [l0, l1] (z :: st) (n, I, R)) := e_getf d100_21 f3_7 rfl rfl
theorem d100_24 : decode (cod 100) 24 = .ok (.bipush 38, 2) := by decide +kernel
theorem s100_24 {M : Mm} {st : List Value} {l0 l1 : Option Value} : EE 100 24 [l0, l1] st M = EE 100 26 [l0, l1] (.int (nI 38) :: st) M := e_bip d100_24 k_bip_38
theorem d100_26 : decode (cod 100) 26 = .ok (.iload_n 1, 1) := by decide +kernel
theorem s100_26 {M : Mm} {st : List Value} {l0 : Option Value} {x : Int32} : EE 100 26 [l0, some (.int x)] st M = EE 100 27 [l0, some (.int x)] (.int x :: st) M := e_ld d100_26 rfl rfl rfl rfl rfl rfl
theorem d100_27 : decode (cod 100) 27 = .ok (.iadd, 1) := by decide +kernel
theorem s100_27 {M : Mm} {st : List Value} {l0 l1 : Option Value} {x y : Int32} : EE 100 27 [l0, l1] (.int y :: .int x :: st) M = EE 100 28 [l0, l1] (.int (x + y) :: st) M := e_II d100_27 rfl rfl rfl rfl rfl rfl
theorem d100_28 : decode (cod 100) 28 = .ok (.iaload, 1) := by decide +kernel
theorem s100_28 {n : Nat} {I : Nat → Nat → Int32} {R : Nat → Nat → Option Nat} {st : List Value} {l0 l1 : Option Value} {j : Int32} {a : Nat} : EE 100 28 [l0, l1] (.int j :: .ref a :: st) (n, I, R) = (ardI 5 n I a j).bind (fun z => EE 100 29 [l0, l1] (.int z :: st) (n, I, R)) := e_iald d100_28
theorem d100_29 : decode (cod 100) 29 = .ok (.ireturn, 1) := by decide +kernel
theorem s100_29 {M : Mm} {l0 l1 : Option Value} {v : Int32} : EE 100 29 [l0, l1] [.int v] M = some (some (.int v), M) := e_iret d100_29 rfl rfl
theorem FE100 {a : Nat} {b0 : Int32} {M : Mm} : FF 100 [.ref a, .int b0] M = EE 100 0 [some (.ref a), some (.int b0)] [] M := FF_eq 100 _ _ (Nat.le_of_ble_eq_true rfl)
theorem d101_0 : decode (cod 101) 0 = .ok (.aload_n 0, 1) := by decide +kernel
theorem s101_0 {M : Mm} {st : List Value} {l1 : Option Value} {x : Nat} : EE 101 0 [some (.ref x), l1] st M = EE 101 1 [some (.ref x), l1] (.ref x :: st) M := e_ld d101_0 rfl rfl rfl rfl rfl rfl
theorem d101_1 : decode (cod 101) 1 = .ok (.iload_n 1, 1) := by decide +kernel
theorem s101_1 {M : Mm} {st : List Value} {l0 : Option Value} {x : Int32} : EE 101 1 [l0, some (.int x)] st M = EE 101 2 [l0, some (.int x)] (.int x :: st) M := e_ld d101_1 rfl rfl rfl rfl rfl rfl
theorem d101_2 : decode (cod 101) 2 = .ok (.invokevirtual 104, 3) := by decide +kernel
theorem s101_2 {l0 l1 : Option Value} {a : Nat} {M : Mm} {b0 : Int32} {st : List Value} (hl : st.length ≤ 4) (ho : isO "HandoverDeskModel" M.1 a = true) : EE 101 2 [l0, l1] (.int b0 :: .ref a :: st) M = (FF 99 (.ref a :: [.int b0]) M).bind (fun z => EE 101 5 [l0, l1] (psh z.1 st) z.2) := e_calv (av := [.int b0]) d101_2 c3_104 rfl rfl rfl r101_99 rfl hl ho
theorem d101_5 : decode (cod 101) 5 = .ok (.ifCond .ne 5, 3) := by decide +kernel
theorem s101_5 {M : Mm} {st : List Value} {l0 l1 : Option Value} {x : Int32} : EE 101 5 [l0, l1] (.int x :: st) M = if x = 0 then EE 101 8 [l0, l1] st M else EE 101 10 [l0, l1] st M := e_ne0 d101_5 (by decide)
theorem d101_8 : decode (cod 101) 8 = .ok (.iconst (-1), 1) := by decide +kernel
theorem s101_8 {M : Mm} {st : List Value} {l0 l1 : Option Value} : EE 101 8 [l0, l1] st M = EE 101 9 [l0, l1] (.int ((-1)) :: st) M := e_con d101_8 k_con_m1
theorem d101_9 : decode (cod 101) 9 = .ok (.ireturn, 1) := by decide +kernel
theorem s101_9 {M : Mm} {l0 l1 : Option Value} {v : Int32} : EE 101 9 [l0, l1] [.int v] M = some (some (.int v), M) := e_iret d101_9 rfl rfl
theorem d101_10 : decode (cod 101) 10 = .ok (.aload_n 0, 1) := by decide +kernel
theorem s101_10 {M : Mm} {st : List Value} {l1 : Option Value} {x : Nat} : EE 101 10 [some (.ref x), l1] st M = EE 101 11 [some (.ref x), l1] (.ref x :: st) M := e_ld d101_10 rfl rfl rfl rfl rfl rfl
theorem d101_11 : decode (cod 101) 11 = .ok (.invokevirtual 44, 3) := by decide +kernel
theorem s101_11 {l0 l1 : Option Value} {a : Nat} {M : Mm} {st : List Value} (hl : st.length ≤ 4) (ho : isO "HandoverDeskModel" M.1 a = true) : EE 101 11 [l0, l1] (.ref a :: st) M = (FF 86 (.ref a :: []) M).bind (fun z => EE 101 14 [l0, l1] (psh z.1 st) z.2) := e_calv (av := []) d101_11 c3_44 rfl rfl rfl r101_86 rfl hl ho
theorem d101_14 : decode (cod 101) 14 = .ok (.aload_n 0, 1) := by decide +kernel
theorem s101_14 {M : Mm} {st : List Value} {l1 : Option Value} {x : Nat} : EE 101 14 [some (.ref x), l1] st M = EE 101 15 [some (.ref x), l1] (.ref x :: st) M := e_ld d101_14 rfl rfl rfl rfl rfl rfl
theorem d101_15 : decode (cod 101) 15 = .ok (.iload_n 1, 1) := by decide +kernel
theorem s101_15 {M : Mm} {st : List Value} {l0 : Option Value} {x : Int32} : EE 101 15 [l0, some (.int x)] st M = EE 101 16 [l0, some (.int x)] (.int x :: st) M := e_ld d101_15 rfl rfl rfl rfl rfl rfl
theorem d101_16 : decode (cod 101) 16 = .ok (.invokevirtual 114, 3) := by decide +kernel
theorem s101_16 {l0 l1 : Option Value} {a : Nat} {M : Mm} {b0 : Int32} {st : List Value} (hl : st.length ≤ 4) (ho : isO "HandoverDeskModel" M.1 a = true) : EE 101 16 [l0, l1] (.int b0 :: .ref a :: st) M = (FF 102 (.ref a :: [.int b0]) M).bind (fun z => EE 101 19 [l0, l1] (psh z.1 st) z.2) := e_calv (av := [.int b0]) d101_16 c3_114 rfl rfl rfl r101_102 rfl hl ho
theorem d101_19 : decode (cod 101) 19 = .ok (.ireturn, 1) := by decide +kernel
theorem s101_19 {M : Mm} {l0 l1 : Option Value} {v : Int32} : EE 101 19 [l0, l1] [.int v] M = some (some (.int v), M) := e_iret d101_19 rfl rfl
theorem FE101 {a : Nat} {b0 : Int32} {M : Mm} : FF 101 [.ref a, .int b0] M = EE 101 0 [some (.ref a), some (.int b0)] [] M := FF_eq 101 _ _ (Nat.le_of_ble_eq_true rfl)
theorem d102_0 : decode (cod 102) 0 = .ok (.aload_n 0, 1) := by decide +kernel
theorem s102_0 {M : Mm} {st : List Value} {l1 l2 l3 : Option Value} {x : Nat} : EE 102 0 [some (.ref x), l1, l2, l3] st M = EE 102 1 [some (.ref x), l1, l2, l3] (.ref x :: st) M := e_ld d102_0 rfl rfl rfl rfl rfl rfl
theorem d102_1 : decode (cod 102) 1 = .ok (.iload_n 1, 1) := by decide +kernel
theorem s102_1 {M : Mm} {st : List Value} {l0 l2 l3 : Option Value} {x : Int32} : EE 102 1 [l0, some (.int x), l2, l3] st M = EE 102 2 [l0, some (.int x), l2, l3] (.int x :: st) M := e_ld d102_1 rfl rfl rfl rfl rfl rfl
theorem d102_2 : decode (cod 102) 2 = .ok (.invokevirtual 111, 3) := by decide +kernel
theorem s102_2 {l0 l1 l2 l3 : Option Value} {a : Nat} {M : Mm} {b0 : Int32} {st : List Value} (hl : st.length ≤ 4) (ho : isO "HandoverDeskModel" M.1 a = true) : EE 102 2 [l0, l1, l2, l3] (.int b0 :: .ref a :: st) M = (FF 103 (.ref a :: [.int b0]) M).bind (fun z => EE 102 5 [l0, l1, l2, l3] (psh z.1 st) z.2) := e_calv (av := [.int b0]) d102_2 c3_111 rfl rfl rfl r102_103 rfl hl ho
theorem d102_5 : decode (cod 102) 5 = .ok (.istore_n 2, 1) := by decide +kernel
theorem s102_5 {M : Mm} {st : List Value} {l0 l1 l2 l3 : Option Value} {x : Int32} : EE 102 5 [l0, l1, l2, l3] (.int x :: st) M = EE 102 6 [l0, cln l1, some (.int x), l3] st M := e_st1 d102_5 rfl rfl rfl rfl rfl rfl rfl (Nat.le_of_ble_eq_true rfl) rfl
theorem d102_6 : decode (cod 102) 6 = .ok (.iload_n 2, 1) := by decide +kernel
theorem s102_6 {M : Mm} {st : List Value} {l0 l1 l3 : Option Value} {x : Int32} : EE 102 6 [l0, l1, some (.int x), l3] st M = EE 102 7 [l0, l1, some (.int x), l3] (.int x :: st) M := e_ld d102_6 rfl rfl rfl rfl rfl rfl
theorem d102_7 : decode (cod 102) 7 = .ok (.bipush (-6), 2) := by decide +kernel
theorem s102_7 {M : Mm} {st : List Value} {l0 l1 l2 l3 : Option Value} : EE 102 7 [l0, l1, l2, l3] st M = EE 102 9 [l0, l1, l2, l3] (.int ((-6)) :: st) M := e_bip d102_7 k_bip_m6
theorem d102_9 : decode (cod 102) 9 = .ok (.if_icmp .ne 33, 3) := by decide +kernel
theorem s102_9 {M : Mm} {st : List Value} {l0 l1 l2 l3 : Option Value} {x y : Int32} : EE 102 9 [l0, l1, l2, l3] (.int y :: .int x :: st) M = if x = y then EE 102 12 [l0, l1, l2, l3] st M else EE 102 42 [l0, l1, l2, l3] st M := e_cne d102_9 (by decide)
theorem d102_12 : decode (cod 102) 12 = .ok (.aload_n 0, 1) := by decide +kernel
theorem s102_12 {M : Mm} {st : List Value} {l1 l2 l3 : Option Value} {x : Nat} : EE 102 12 [some (.ref x), l1, l2, l3] st M = EE 102 13 [some (.ref x), l1, l2, l3] (.ref x :: st) M := e_ld d102_12 rfl rfl rfl rfl rfl rfl
theorem d102_13 : decode (cod 102) 13 = .ok (.getfield 7, 3) := by decide +kernel
theorem s102_13 {n : Nat} {I : Nat → Nat → Int32} {R : Nat → Nat → Option Nat} {st : List Value} {l0 l1 l2 l3 : Option Value} {a : Nat} : EE 102 13 [l0, l1, l2, l3] (.ref a :: st) (n, I, R) = (gfI n I R 3 0 a).bind (fun z => EE 102 16 [l0, l1, l2, l3] (z :: st) (n, I, R)) := e_getf d102_13 f3_7 rfl rfl
theorem d102_16 : decode (cod 102) 16 = .ok (.bipush 48, 2) := by decide +kernel
theorem s102_16 {M : Mm} {st : List Value} {l0 l1 l2 l3 : Option Value} : EE 102 16 [l0, l1, l2, l3] st M = EE 102 18 [l0, l1, l2, l3] (.int (nI 48) :: st) M := e_bip d102_16 k_bip_48
theorem d102_18 : decode (cod 102) 18 = .ok (.aload_n 0, 1) := by decide +kernel
theorem s102_18 {M : Mm} {st : List Value} {l1 l2 l3 : Option Value} {x : Nat} : EE 102 18 [some (.ref x), l1, l2, l3] st M = EE 102 19 [some (.ref x), l1, l2, l3] (.ref x :: st) M := e_ld d102_18 rfl rfl rfl rfl rfl rfl
theorem d102_19 : decode (cod 102) 19 = .ok (.getfield 7, 3) := by decide +kernel
theorem s102_19 {n : Nat} {I : Nat → Nat → Int32} {R : Nat → Nat → Option Nat} {st : List Value} {l0 l1 l2 l3 : Option Value} {a : Nat} : EE 102 19 [l0, l1, l2, l3] (.ref a :: st) (n, I, R) = (gfI n I R 3 0 a).bind (fun z => EE 102 22 [l0, l1, l2, l3] (z :: st) (n, I, R)) := e_getf d102_19 f3_7 rfl rfl
theorem d102_22 : decode (cod 102) 22 = .ok (.bipush 13, 2) := by decide +kernel
theorem s102_22 {M : Mm} {st : List Value} {l0 l1 l2 l3 : Option Value} : EE 102 22 [l0, l1, l2, l3] st M = EE 102 24 [l0, l1, l2, l3] (.int (nI 13) :: st) M := e_bip d102_22 k_bip_13
theorem d102_24 : decode (cod 102) 24 = .ok (.iaload, 1) := by decide +kernel
theorem s102_24 {n : Nat} {I : Nat → Nat → Int32} {R : Nat → Nat → Option Nat} {st : List Value} {l0 l1 l2 l3 : Option Value} {j : Int32} {a : Nat} : EE 102 24 [l0, l1, l2, l3] (.int j :: .ref a :: st) (n, I, R) = (ardI 5 n I a j).bind (fun z => EE 102 25 [l0, l1, l2, l3] (.int z :: st) (n, I, R)) := e_iald d102_24
theorem d102_25 : decode (cod 102) 25 = .ok (.iadd, 1) := by decide +kernel
theorem s102_25 {M : Mm} {st : List Value} {l0 l1 l2 l3 : Option Value} {x y : Int32} : EE 102 25 [l0, l1, l2, l3] (.int y :: .int x :: st) M = EE 102 26 [l0, l1, l2, l3] (.int (x + y) :: st) M := e_II d102_25 rfl rfl rfl rfl rfl rfl
theorem d102_26 : decode (cod 102) 26 = .ok (.iload_n 1, 1) := by decide +kernel
theorem s102_26 {M : Mm} {st : List Value} {l0 l2 l3 : Option Value} {x : Int32} : EE 102 26 [l0, some (.int x), l2, l3] st M = EE 102 27 [l0, some (.int x), l2, l3] (.int x :: st) M := e_ld d102_26 rfl rfl rfl rfl rfl rfl
theorem d102_27 : decode (cod 102) 27 = .ok (.iastore, 1) := by decide +kernel
theorem s102_27 {n : Nat} {I : Nat → Nat → Int32} {R : Nat → Nat → Option Nat} {st : List Value} {l0 l1 l2 l3 : Option Value} {j x : Int32} {a : Nat} (h : acI 5 n a j) : EE 102 27 [l0, l1, l2, l3] (.int x :: .int j :: .ref a :: st) (n, I, R) = EE 102 28 [l0, l1, l2, l3] st (n, wI I a j.toNatClampNeg x, R) := e_iast d102_27 h
theorem d102_28 : decode (cod 102) 28 = .ok (.aload_n 0, 1) := by decide +kernel
theorem s102_28 {M : Mm} {st : List Value} {l1 l2 l3 : Option Value} {x : Nat} : EE 102 28 [some (.ref x), l1, l2, l3] st M = EE 102 29 [some (.ref x), l1, l2, l3] (.ref x :: st) M := e_ld d102_28 rfl rfl rfl rfl rfl rfl
theorem d102_29 : decode (cod 102) 29 = .ok (.getfield 7, 3) := by decide +kernel
theorem s102_29 {n : Nat} {I : Nat → Nat → Int32} {R : Nat → Nat → Option Nat} {st : List Value} {l0 l1 l2 l3 : Option Value} {a : Nat} : EE 102 29 [l0, l1, l2, l3] (.ref a :: st) (n, I, R) = (gfI n I R 3 0 a).bind (fun z => EE 102 32 [l0, l1, l2, l3] (z :: st) (n, I, R)) := e_getf d102_29 f3_7 rfl rfl
theorem d102_32 : decode (cod 102) 32 = .ok (.bipush 13, 2) := by decide +kernel
theorem s102_32 {M : Mm} {st : List Value} {l0 l1 l2 l3 : Option Value} : EE 102 32 [l0, l1, l2, l3] st M = EE 102 34 [l0, l1, l2, l3] (.int (nI 13) :: st) M := e_bip d102_32 k_bip_13
theorem d102_34 : decode (cod 102) 34 = .ok (.dup2, 1) := by decide +kernel
theorem s102_34 {M : Mm} {st : List Value} {l0 l1 l2 l3 : Option Value} {x : Int32} {y : Nat} : EE 102 34 [l0, l1, l2, l3] (.int x :: .ref y :: st) M = EE 102 35 [l0, l1, l2, l3] (.int x :: .ref y :: .int x :: .ref y :: st) M := e_dup2 d102_34 rfl rfl
theorem d102_35 : decode (cod 102) 35 = .ok (.iaload, 1) := by decide +kernel
theorem s102_35 {n : Nat} {I : Nat → Nat → Int32} {R : Nat → Nat → Option Nat} {st : List Value} {l0 l1 l2 l3 : Option Value} {j : Int32} {a : Nat} : EE 102 35 [l0, l1, l2, l3] (.int j :: .ref a :: st) (n, I, R) = (ardI 5 n I a j).bind (fun z => EE 102 36 [l0, l1, l2, l3] (.int z :: st) (n, I, R)) := e_iald d102_35
theorem d102_36 : decode (cod 102) 36 = .ok (.iconst 1, 1) := by decide +kernel
theorem s102_36 {M : Mm} {st : List Value} {l0 l1 l2 l3 : Option Value} : EE 102 36 [l0, l1, l2, l3] st M = EE 102 37 [l0, l1, l2, l3] (.int (nI 1) :: st) M := e_con d102_36 k_con_1
theorem d102_37 : decode (cod 102) 37 = .ok (.iadd, 1) := by decide +kernel
theorem s102_37 {M : Mm} {st : List Value} {l0 l1 l2 l3 : Option Value} {x y : Int32} : EE 102 37 [l0, l1, l2, l3] (.int y :: .int x :: st) M = EE 102 38 [l0, l1, l2, l3] (.int (x + y) :: st) M := e_II d102_37 rfl rfl rfl rfl rfl rfl
theorem d102_38 : decode (cod 102) 38 = .ok (.iastore, 1) := by decide +kernel
theorem s102_38 {n : Nat} {I : Nat → Nat → Int32} {R : Nat → Nat → Option Nat} {st : List Value} {l0 l1 l2 l3 : Option Value} {j x : Int32} {a : Nat} (h : acI 5 n a j) : EE 102 38 [l0, l1, l2, l3] (.int x :: .int j :: .ref a :: st) (n, I, R) = EE 102 39 [l0, l1, l2, l3] st (n, wI I a j.toNatClampNeg x, R) := e_iast d102_38 h
theorem d102_39 : decode (cod 102) 39 = .ok (.goto 53, 3) := by decide +kernel
theorem s102_39 {M : Mm} {st : List Value} {l0 l1 l2 l3 : Option Value} : EE 102 39 [l0, l1, l2, l3] st M = EE 102 92 [l0, l1, l2, l3] st M := e_goto d102_39 (by decide)
theorem d102_42 : decode (cod 102) 42 = .ok (.aload_n 0, 1) := by decide +kernel
theorem s102_42 {M : Mm} {st : List Value} {l1 l2 l3 : Option Value} {x : Nat} : EE 102 42 [some (.ref x), l1, l2, l3] st M = EE 102 43 [some (.ref x), l1, l2, l3] (.ref x :: st) M := e_ld d102_42 rfl rfl rfl rfl rfl rfl
theorem d102_43 : decode (cod 102) 43 = .ok (.getfield 7, 3) := by decide +kernel
theorem s102_43 {n : Nat} {I : Nat → Nat → Int32} {R : Nat → Nat → Option Nat} {st : List Value} {l0 l1 l2 l3 : Option Value} {a : Nat} : EE 102 43 [l0, l1, l2, l3] (.ref a :: st) (n, I, R) = (gfI n I R 3 0 a).bind (fun z => EE 102 46 [l0, l1, l2, l3] (z :: st) (n, I, R)) := e_getf d102_43 f3_7 rfl rfl
theorem d102_46 : decode (cod 102) 46 = .ok (.bipush 13, 2) := by decide +kernel
theorem s102_46 {M : Mm} {st : List Value} {l0 l1 l2 l3 : Option Value} : EE 102 46 [l0, l1, l2, l3] st M = EE 102 48 [l0, l1, l2, l3] (.int (nI 13) :: st) M := e_bip d102_46 k_bip_13
theorem d102_48 : decode (cod 102) 48 = .ok (.dup2, 1) := by decide +kernel
theorem s102_48 {M : Mm} {st : List Value} {l0 l1 l2 l3 : Option Value} {x : Int32} {y : Nat} : EE 102 48 [l0, l1, l2, l3] (.int x :: .ref y :: st) M = EE 102 49 [l0, l1, l2, l3] (.int x :: .ref y :: .int x :: .ref y :: st) M := e_dup2 d102_48 rfl rfl
theorem d102_49 : decode (cod 102) 49 = .ok (.iaload, 1) := by decide +kernel
theorem s102_49 {n : Nat} {I : Nat → Nat → Int32} {R : Nat → Nat → Option Nat} {st : List Value} {l0 l1 l2 l3 : Option Value} {j : Int32} {a : Nat} : EE 102 49 [l0, l1, l2, l3] (.int j :: .ref a :: st) (n, I, R) = (ardI 5 n I a j).bind (fun z => EE 102 50 [l0, l1, l2, l3] (.int z :: st) (n, I, R)) := e_iald d102_49
theorem d102_50 : decode (cod 102) 50 = .ok (.iconst 1, 1) := by decide +kernel
theorem s102_50 {M : Mm} {st : List Value} {l0 l1 l2 l3 : Option Value} : EE 102 50 [l0, l1, l2, l3] st M = EE 102 51 [l0, l1, l2, l3] (.int (nI 1) :: st) M := e_con d102_50 k_con_1
theorem d102_51 : decode (cod 102) 51 = .ok (.isub, 1) := by decide +kernel
theorem s102_51 {M : Mm} {st : List Value} {l0 l1 l2 l3 : Option Value} {x y : Int32} : EE 102 51 [l0, l1, l2, l3] (.int y :: .int x :: st) M = EE 102 52 [l0, l1, l2, l3] (.int (x - y) :: st) M := e_II d102_51 rfl rfl rfl rfl rfl rfl
theorem d102_52 : decode (cod 102) 52 = .ok (.iastore, 1) := by decide +kernel
theorem s102_52 {n : Nat} {I : Nat → Nat → Int32} {R : Nat → Nat → Option Nat} {st : List Value} {l0 l1 l2 l3 : Option Value} {j x : Int32} {a : Nat} (h : acI 5 n a j) : EE 102 52 [l0, l1, l2, l3] (.int x :: .int j :: .ref a :: st) (n, I, R) = EE 102 53 [l0, l1, l2, l3] st (n, wI I a j.toNatClampNeg x, R) := e_iast d102_52 h
theorem d102_53 : decode (cod 102) 53 = .ok (.iload_n 2, 1) := by decide +kernel
theorem s102_53 {M : Mm} {st : List Value} {l0 l1 l3 : Option Value} {x : Int32} : EE 102 53 [l0, l1, some (.int x), l3] st M = EE 102 54 [l0, l1, some (.int x), l3] (.int x :: st) M := e_ld d102_53 rfl rfl rfl rfl rfl rfl
theorem d102_54 : decode (cod 102) 54 = .ok (.istore_n 3, 1) := by decide +kernel
theorem s102_54 {M : Mm} {st : List Value} {l0 l1 l2 l3 : Option Value} {x : Int32} : EE 102 54 [l0, l1, l2, l3] (.int x :: st) M = EE 102 55 [l0, l1, cln l2, some (.int x)] st M := e_st1 d102_54 rfl rfl rfl rfl rfl rfl rfl (Nat.le_of_ble_eq_true rfl) rfl
theorem d102_55 : decode (cod 102) 55 = .ok (.iload_n 3, 1) := by decide +kernel
theorem s102_55 {M : Mm} {st : List Value} {l0 l1 l2 : Option Value} {x : Int32} : EE 102 55 [l0, l1, l2, some (.int x)] st M = EE 102 56 [l0, l1, l2, some (.int x)] (.int x :: st) M := e_ld d102_55 rfl rfl rfl rfl rfl rfl
theorem d102_56 : decode (cod 102) 56 = .ok (.aload_n 0, 1) := by decide +kernel
theorem s102_56 {M : Mm} {st : List Value} {l1 l2 l3 : Option Value} {x : Nat} : EE 102 56 [some (.ref x), l1, l2, l3] st M = EE 102 57 [some (.ref x), l1, l2, l3] (.ref x :: st) M := e_ld d102_56 rfl rfl rfl rfl rfl rfl
theorem d102_57 : decode (cod 102) 57 = .ok (.getfield 7, 3) := by decide +kernel
theorem s102_57 {n : Nat} {I : Nat → Nat → Int32} {R : Nat → Nat → Option Nat} {st : List Value} {l0 l1 l2 l3 : Option Value} {a : Nat} : EE 102 57 [l0, l1, l2, l3] (.ref a :: st) (n, I, R) = (gfI n I R 3 0 a).bind (fun z => EE 102 60 [l0, l1, l2, l3] (z :: st) (n, I, R)) := e_getf d102_57 f3_7 rfl rfl
theorem d102_60 : decode (cod 102) 60 = .ok (.bipush 13, 2) := by decide +kernel
theorem s102_60 {M : Mm} {st : List Value} {l0 l1 l2 l3 : Option Value} : EE 102 60 [l0, l1, l2, l3] st M = EE 102 62 [l0, l1, l2, l3] (.int (nI 13) :: st) M := e_bip d102_60 k_bip_13
theorem d102_62 : decode (cod 102) 62 = .ok (.iaload, 1) := by decide +kernel
theorem s102_62 {n : Nat} {I : Nat → Nat → Int32} {R : Nat → Nat → Option Nat} {st : List Value} {l0 l1 l2 l3 : Option Value} {j : Int32} {a : Nat} : EE 102 62 [l0, l1, l2, l3] (.int j :: .ref a :: st) (n, I, R) = (ardI 5 n I a j).bind (fun z => EE 102 63 [l0, l1, l2, l3] (.int z :: st) (n, I, R)) := e_iald d102_62
theorem d102_63 : decode (cod 102) 63 = .ok (.if_icmp .ge 29, 3) := by decide +kernel
theorem s102_63 {M : Mm} {st : List Value} {l0 l1 l2 l3 : Option Value} {x y : Int32} : EE 102 63 [l0, l1, l2, l3] (.int y :: .int x :: st) M = if y ≤ x then EE 102 92 [l0, l1, l2, l3] st M else EE 102 66 [l0, l1, l2, l3] st M := e_cge d102_63 (by decide)
theorem d102_66 : decode (cod 102) 66 = .ok (.aload_n 0, 1) := by decide +kernel
theorem s102_66 {M : Mm} {st : List Value} {l1 l2 l3 : Option Value} {x : Nat} : EE 102 66 [some (.ref x), l1, l2, l3] st M = EE 102 67 [some (.ref x), l1, l2, l3] (.ref x :: st) M := e_ld d102_66 rfl rfl rfl rfl rfl rfl
theorem d102_67 : decode (cod 102) 67 = .ok (.getfield 7, 3) := by decide +kernel
theorem s102_67 {n : Nat} {I : Nat → Nat → Int32} {R : Nat → Nat → Option Nat} {st : List Value} {l0 l1 l2 l3 : Option Value} {a : Nat} : EE 102 67 [l0, l1, l2, l3] (.ref a :: st) (n, I, R) = (gfI n I R 3 0 a).bind (fun z => EE 102 70 [l0, l1, l2, l3] (z :: st) (n, I, R)) := e_getf d102_67 f3_7 rfl rfl
theorem d102_70 : decode (cod 102) 70 = .ok (.bipush 48, 2) := by decide +kernel
theorem s102_70 {M : Mm} {st : List Value} {l0 l1 l2 l3 : Option Value} : EE 102 70 [l0, l1, l2, l3] st M = EE 102 72 [l0, l1, l2, l3] (.int (nI 48) :: st) M := e_bip d102_70 k_bip_48
theorem d102_72 : decode (cod 102) 72 = .ok (.iload_n 3, 1) := by decide +kernel
theorem s102_72 {M : Mm} {st : List Value} {l0 l1 l2 : Option Value} {x : Int32} : EE 102 72 [l0, l1, l2, some (.int x)] st M = EE 102 73 [l0, l1, l2, some (.int x)] (.int x :: st) M := e_ld d102_72 rfl rfl rfl rfl rfl rfl
theorem d102_73 : decode (cod 102) 73 = .ok (.iadd, 1) := by decide +kernel
theorem s102_73 {M : Mm} {st : List Value} {l0 l1 l2 l3 : Option Value} {x y : Int32} : EE 102 73 [l0, l1, l2, l3] (.int y :: .int x :: st) M = EE 102 74 [l0, l1, l2, l3] (.int (x + y) :: st) M := e_II d102_73 rfl rfl rfl rfl rfl rfl
theorem d102_74 : decode (cod 102) 74 = .ok (.aload_n 0, 1) := by decide +kernel
theorem s102_74 {M : Mm} {st : List Value} {l1 l2 l3 : Option Value} {x : Nat} : EE 102 74 [some (.ref x), l1, l2, l3] st M = EE 102 75 [some (.ref x), l1, l2, l3] (.ref x :: st) M := e_ld d102_74 rfl rfl rfl rfl rfl rfl
theorem d102_75 : decode (cod 102) 75 = .ok (.getfield 7, 3) := by decide +kernel
theorem s102_75 {n : Nat} {I : Nat → Nat → Int32} {R : Nat → Nat → Option Nat} {st : List Value} {l0 l1 l2 l3 : Option Value} {a : Nat} : EE 102 75 [l0, l1, l2, l3] (.ref a :: st) (n, I, R) = (gfI n I R 3 0 a).bind (fun z => EE 102 78 [l0, l1, l2, l3] (z :: st) (n, I, R)) := e_getf d102_75 f3_7 rfl rfl
theorem d102_78 : decode (cod 102) 78 = .ok (.bipush 48, 2) := by decide +kernel
theorem s102_78 {M : Mm} {st : List Value} {l0 l1 l2 l3 : Option Value} : EE 102 78 [l0, l1, l2, l3] st M = EE 102 80 [l0, l1, l2, l3] (.int (nI 48) :: st) M := e_bip d102_78 k_bip_48
theorem d102_80 : decode (cod 102) 80 = .ok (.iload_n 3, 1) := by decide +kernel
theorem s102_80 {M : Mm} {st : List Value} {l0 l1 l2 : Option Value} {x : Int32} : EE 102 80 [l0, l1, l2, some (.int x)] st M = EE 102 81 [l0, l1, l2, some (.int x)] (.int x :: st) M := e_ld d102_80 rfl rfl rfl rfl rfl rfl
theorem d102_81 : decode (cod 102) 81 = .ok (.iadd, 1) := by decide +kernel
theorem s102_81 {M : Mm} {st : List Value} {l0 l1 l2 l3 : Option Value} {x y : Int32} : EE 102 81 [l0, l1, l2, l3] (.int y :: .int x :: st) M = EE 102 82 [l0, l1, l2, l3] (.int (x + y) :: st) M := e_II d102_81 rfl rfl rfl rfl rfl rfl
theorem d102_82 : decode (cod 102) 82 = .ok (.iconst 1, 1) := by decide +kernel
theorem s102_82 {M : Mm} {st : List Value} {l0 l1 l2 l3 : Option Value} : EE 102 82 [l0, l1, l2, l3] st M = EE 102 83 [l0, l1, l2, l3] (.int (nI 1) :: st) M := e_con d102_82 k_con_1
theorem d102_83 : decode (cod 102) 83 = .ok (.iadd, 1) := by decide +kernel
theorem s102_83 {M : Mm} {st : List Value} {l0 l1 l2 l3 : Option Value} {x y : Int32} : EE 102 83 [l0, l1, l2, l3] (.int y :: .int x :: st) M = EE 102 84 [l0, l1, l2, l3] (.int (x + y) :: st) M := e_II d102_83 rfl rfl rfl rfl rfl rfl
theorem d102_84 : decode (cod 102) 84 = .ok (.iaload, 1) := by decide +kernel
theorem s102_84 {n : Nat} {I : Nat → Nat → Int32} {R : Nat → Nat → Option Nat} {st : List Value} {l0 l1 l2 l3 : Option Value} {j : Int32} {a : Nat} : EE 102 84 [l0, l1, l2, l3] (.int j :: .ref a :: st) (n, I, R) = (ardI 5 n I a j).bind (fun z => EE 102 85 [l0, l1, l2, l3] (.int z :: st) (n, I, R)) := e_iald d102_84
theorem d102_85 : decode (cod 102) 85 = .ok (.iastore, 1) := by decide +kernel
theorem s102_85 {n : Nat} {I : Nat → Nat → Int32} {R : Nat → Nat → Option Nat} {st : List Value} {l0 l1 l2 l3 : Option Value} {j x : Int32} {a : Nat} (h : acI 5 n a j) : EE 102 85 [l0, l1, l2, l3] (.int x :: .int j :: .ref a :: st) (n, I, R) = EE 102 86 [l0, l1, l2, l3] st (n, wI I a j.toNatClampNeg x, R) := e_iast d102_85 h
theorem d102_86 : decode (cod 102) 86 = .ok (.iinc 3 1, 3) := by decide +kernel
theorem s102_86 {M : Mm} {st : List Value} {l0 l1 l2 : Option Value} {x : Int32} : EE 102 86 [l0, l1, l2, some (.int x)] st M = EE 102 89 [l0, l1, cln l2, some (.int (x + nI 1))] st M := e_iinc d102_86 rfl (congrArg (fun z => x + z) k_inc_1) rfl
theorem d102_89 : decode (cod 102) 89 = .ok (.goto (-34), 3) := by decide +kernel
theorem s102_89 {M : Mm} {st : List Value} {l0 l1 l2 l3 : Option Value} : EE 102 89 [l0, l1, l2, l3] st M = EE 102 55 [l0, l1, l2, l3] st M := e_goto d102_89 (by decide)
theorem d102_92 : decode (cod 102) 92 = .ok (.aload_n 0, 1) := by decide +kernel
theorem s102_92 {M : Mm} {st : List Value} {l1 l2 l3 : Option Value} {x : Nat} : EE 102 92 [some (.ref x), l1, l2, l3] st M = EE 102 93 [some (.ref x), l1, l2, l3] (.ref x :: st) M := e_ld d102_92 rfl rfl rfl rfl rfl rfl
theorem d102_93 : decode (cod 102) 93 = .ok (.getfield 7, 3) := by decide +kernel
theorem s102_93 {n : Nat} {I : Nat → Nat → Int32} {R : Nat → Nat → Option Nat} {st : List Value} {l0 l1 l2 l3 : Option Value} {a : Nat} : EE 102 93 [l0, l1, l2, l3] (.ref a :: st) (n, I, R) = (gfI n I R 3 0 a).bind (fun z => EE 102 96 [l0, l1, l2, l3] (z :: st) (n, I, R)) := e_getf d102_93 f3_7 rfl rfl
theorem d102_96 : decode (cod 102) 96 = .ok (.bipush 13, 2) := by decide +kernel
theorem s102_96 {M : Mm} {st : List Value} {l0 l1 l2 l3 : Option Value} : EE 102 96 [l0, l1, l2, l3] st M = EE 102 98 [l0, l1, l2, l3] (.int (nI 13) :: st) M := e_bip d102_96 k_bip_13
theorem d102_98 : decode (cod 102) 98 = .ok (.iaload, 1) := by decide +kernel
theorem s102_98 {n : Nat} {I : Nat → Nat → Int32} {R : Nat → Nat → Option Nat} {st : List Value} {l0 l1 l2 l3 : Option Value} {j : Int32} {a : Nat} : EE 102 98 [l0, l1, l2, l3] (.int j :: .ref a :: st) (n, I, R) = (ardI 5 n I a j).bind (fun z => EE 102 99 [l0, l1, l2, l3] (.int z :: st) (n, I, R)) := e_iald d102_98
theorem d102_99 : decode (cod 102) 99 = .ok (.ireturn, 1) := by decide +kernel
theorem s102_99 {M : Mm} {l0 l1 l2 l3 : Option Value} {v : Int32} : EE 102 99 [l0, l1, l2, l3] [.int v] M = some (some (.int v), M) := e_iret d102_99 rfl rfl
theorem FE102 {a : Nat} {b0 : Int32} {M : Mm} : FF 102 [.ref a, .int b0] M = EE 102 0 [some (.ref a), some (.int b0), none, none] [] M := FF_eq 102 _ _ (Nat.le_of_ble_eq_true rfl)
theorem d103_0 : decode (cod 103) 0 = .ok (.iconst 0, 1) := by decide +kernel
theorem s103_0 {M : Mm} {st : List Value} {l0 l1 l2 : Option Value} : EE 103 0 [l0, l1, l2] st M = EE 103 1 [l0, l1, l2] (.int (nI 0) :: st) M := e_con d103_0 k_con_0
theorem d103_1 : decode (cod 103) 1 = .ok (.istore_n 2, 1) := by decide +kernel
theorem s103_1 {M : Mm} {st : List Value} {l0 l1 l2 : Option Value} {x : Int32} : EE 103 1 [l0, l1, l2] (.int x :: st) M = EE 103 2 [l0, cln l1, some (.int x)] st M := e_st1 d103_1 rfl rfl rfl rfl rfl rfl rfl (Nat.le_of_ble_eq_true rfl) rfl
theorem d103_2 : decode (cod 103) 2 = .ok (.iload_n 2, 1) := by decide +kernel
theorem s103_2 {M : Mm} {st : List Value} {l0 l1 : Option Value} {x : Int32} : EE 103 2 [l0, l1, some (.int x)] st M = EE 103 3 [l0, l1, some (.int x)] (.int x :: st) M := e_ld d103_2 rfl rfl rfl rfl rfl rfl
theorem d103_3 : decode (cod 103) 3 = .ok (.aload_n 0, 1) := by decide +kernel
theorem s103_3 {M : Mm} {st : List Value} {l1 l2 : Option Value} {x : Nat} : EE 103 3 [some (.ref x), l1, l2] st M = EE 103 4 [some (.ref x), l1, l2] (.ref x :: st) M := e_ld d103_3 rfl rfl rfl rfl rfl rfl
theorem d103_4 : decode (cod 103) 4 = .ok (.getfield 7, 3) := by decide +kernel
theorem s103_4 {n : Nat} {I : Nat → Nat → Int32} {R : Nat → Nat → Option Nat} {st : List Value} {l0 l1 l2 : Option Value} {a : Nat} : EE 103 4 [l0, l1, l2] (.ref a :: st) (n, I, R) = (gfI n I R 3 0 a).bind (fun z => EE 103 7 [l0, l1, l2] (z :: st) (n, I, R)) := e_getf d103_4 f3_7 rfl rfl
theorem d103_7 : decode (cod 103) 7 = .ok (.bipush 13, 2) := by decide +kernel
theorem s103_7 {M : Mm} {st : List Value} {l0 l1 l2 : Option Value} : EE 103 7 [l0, l1, l2] st M = EE 103 9 [l0, l1, l2] (.int (nI 13) :: st) M := e_bip d103_7 k_bip_13
theorem d103_9 : decode (cod 103) 9 = .ok (.iaload, 1) := by decide +kernel
theorem s103_9 {n : Nat} {I : Nat → Nat → Int32} {R : Nat → Nat → Option Nat} {st : List Value} {l0 l1 l2 : Option Value} {j : Int32} {a : Nat} : EE 103 9 [l0, l1, l2] (.int j :: .ref a :: st) (n, I, R) = (ardI 5 n I a j).bind (fun z => EE 103 10 [l0, l1, l2] (.int z :: st) (n, I, R)) := e_iald d103_9
theorem d103_10 : decode (cod 103) 10 = .ok (.if_icmp .ge 24, 3) := by decide +kernel
theorem s103_10 {M : Mm} {st : List Value} {l0 l1 l2 : Option Value} {x y : Int32} : EE 103 10 [l0, l1, l2] (.int y :: .int x :: st) M = if y ≤ x then EE 103 34 [l0, l1, l2] st M else EE 103 13 [l0, l1, l2] st M := e_cge d103_10 (by decide)
theorem d103_13 : decode (cod 103) 13 = .ok (.aload_n 0, 1) := by decide +kernel
theorem s103_13 {M : Mm} {st : List Value} {l1 l2 : Option Value} {x : Nat} : EE 103 13 [some (.ref x), l1, l2] st M = EE 103 14 [some (.ref x), l1, l2] (.ref x :: st) M := e_ld d103_13 rfl rfl rfl rfl rfl rfl
theorem d103_14 : decode (cod 103) 14 = .ok (.getfield 7, 3) := by decide +kernel
theorem s103_14 {n : Nat} {I : Nat → Nat → Int32} {R : Nat → Nat → Option Nat} {st : List Value} {l0 l1 l2 : Option Value} {a : Nat} : EE 103 14 [l0, l1, l2] (.ref a :: st) (n, I, R) = (gfI n I R 3 0 a).bind (fun z => EE 103 17 [l0, l1, l2] (z :: st) (n, I, R)) := e_getf d103_14 f3_7 rfl rfl
theorem d103_17 : decode (cod 103) 17 = .ok (.bipush 48, 2) := by decide +kernel
theorem s103_17 {M : Mm} {st : List Value} {l0 l1 l2 : Option Value} : EE 103 17 [l0, l1, l2] st M = EE 103 19 [l0, l1, l2] (.int (nI 48) :: st) M := e_bip d103_17 k_bip_48
theorem d103_19 : decode (cod 103) 19 = .ok (.iload_n 2, 1) := by decide +kernel
theorem s103_19 {M : Mm} {st : List Value} {l0 l1 : Option Value} {x : Int32} : EE 103 19 [l0, l1, some (.int x)] st M = EE 103 20 [l0, l1, some (.int x)] (.int x :: st) M := e_ld d103_19 rfl rfl rfl rfl rfl rfl
theorem d103_20 : decode (cod 103) 20 = .ok (.iadd, 1) := by decide +kernel
theorem s103_20 {M : Mm} {st : List Value} {l0 l1 l2 : Option Value} {x y : Int32} : EE 103 20 [l0, l1, l2] (.int y :: .int x :: st) M = EE 103 21 [l0, l1, l2] (.int (x + y) :: st) M := e_II d103_20 rfl rfl rfl rfl rfl rfl
theorem d103_21 : decode (cod 103) 21 = .ok (.iaload, 1) := by decide +kernel
theorem s103_21 {n : Nat} {I : Nat → Nat → Int32} {R : Nat → Nat → Option Nat} {st : List Value} {l0 l1 l2 : Option Value} {j : Int32} {a : Nat} : EE 103 21 [l0, l1, l2] (.int j :: .ref a :: st) (n, I, R) = (ardI 5 n I a j).bind (fun z => EE 103 22 [l0, l1, l2] (.int z :: st) (n, I, R)) := e_iald d103_21
theorem d103_22 : decode (cod 103) 22 = .ok (.iload_n 1, 1) := by decide +kernel
theorem s103_22 {M : Mm} {st : List Value} {l0 l2 : Option Value} {x : Int32} : EE 103 22 [l0, some (.int x), l2] st M = EE 103 23 [l0, some (.int x), l2] (.int x :: st) M := e_ld d103_22 rfl rfl rfl rfl rfl rfl
theorem d103_23 : decode (cod 103) 23 = .ok (.if_icmp .ne 5, 3) := by decide +kernel
theorem s103_23 {M : Mm} {st : List Value} {l0 l1 l2 : Option Value} {x y : Int32} : EE 103 23 [l0, l1, l2] (.int y :: .int x :: st) M = if x = y then EE 103 26 [l0, l1, l2] st M else EE 103 28 [l0, l1, l2] st M := e_cne d103_23 (by decide)
theorem d103_26 : decode (cod 103) 26 = .ok (.iload_n 2, 1) := by decide +kernel
theorem s103_26 {M : Mm} {st : List Value} {l0 l1 : Option Value} {x : Int32} : EE 103 26 [l0, l1, some (.int x)] st M = EE 103 27 [l0, l1, some (.int x)] (.int x :: st) M := e_ld d103_26 rfl rfl rfl rfl rfl rfl
theorem d103_27 : decode (cod 103) 27 = .ok (.ireturn, 1) := by decide +kernel
theorem s103_27 {M : Mm} {l0 l1 l2 : Option Value} {v : Int32} : EE 103 27 [l0, l1, l2] [.int v] M = some (some (.int v), M) := e_iret d103_27 rfl rfl
theorem d103_28 : decode (cod 103) 28 = .ok (.iinc 2 1, 3) := by decide +kernel
theorem s103_28 {M : Mm} {st : List Value} {l0 l1 : Option Value} {x : Int32} : EE 103 28 [l0, l1, some (.int x)] st M = EE 103 31 [l0, cln l1, some (.int (x + nI 1))] st M := e_iinc d103_28 rfl (congrArg (fun z => x + z) k_inc_1) rfl
theorem d103_31 : decode (cod 103) 31 = .ok (.goto (-29), 3) := by decide +kernel
theorem s103_31 {M : Mm} {st : List Value} {l0 l1 l2 : Option Value} : EE 103 31 [l0, l1, l2] st M = EE 103 2 [l0, l1, l2] st M := e_goto d103_31 (by decide)
theorem d103_34 : decode (cod 103) 34 = .ok (.bipush (-6), 2) := by decide +kernel
theorem s103_34 {M : Mm} {st : List Value} {l0 l1 l2 : Option Value} : EE 103 34 [l0, l1, l2] st M = EE 103 36 [l0, l1, l2] (.int ((-6)) :: st) M := e_bip d103_34 k_bip_m6
theorem d103_36 : decode (cod 103) 36 = .ok (.ireturn, 1) := by decide +kernel
theorem s103_36 {M : Mm} {l0 l1 l2 : Option Value} {v : Int32} : EE 103 36 [l0, l1, l2] [.int v] M = some (some (.int v), M) := e_iret d103_36 rfl rfl
theorem FE103 {a : Nat} {b0 : Int32} {M : Mm} : FF 103 [.ref a, .int b0] M = EE 103 0 [some (.ref a), some (.int b0), none] [] M := FF_eq 103 _ _ (Nat.le_of_ble_eq_true rfl)
theorem d104_0 : decode (cod 104) 0 = .ok (.aload_n 0, 1) := by decide +kernel
theorem s104_0 {M : Mm} {st : List Value} {l1 l2 l3 l4 : Option Value} {x : Nat} : EE 104 0 [some (.ref x), l1, l2, l3, l4] st M = EE 104 1 [some (.ref x), l1, l2, l3, l4] (.ref x :: st) M := e_ld d104_0 rfl rfl rfl rfl rfl rfl
theorem d104_1 : decode (cod 104) 1 = .ok (.iload_n 1, 1) := by decide +kernel
theorem s104_1 {M : Mm} {st : List Value} {l0 l2 l3 l4 : Option Value} {x : Int32} : EE 104 1 [l0, some (.int x), l2, l3, l4] st M = EE 104 2 [l0, some (.int x), l2, l3, l4] (.int x :: st) M := e_ld d104_1 rfl rfl rfl rfl rfl rfl
theorem d104_2 : decode (cod 104) 2 = .ok (.iload_n 2, 1) := by decide +kernel
theorem s104_2 {M : Mm} {st : List Value} {l0 l1 l3 l4 : Option Value} {x : Int32} : EE 104 2 [l0, l1, some (.int x), l3, l4] st M = EE 104 3 [l0, l1, some (.int x), l3, l4] (.int x :: st) M := e_ld d104_2 rfl rfl rfl rfl rfl rfl
theorem d104_3 : decode (cod 104) 3 = .ok (.iload_n 3, 1) := by decide +kernel
theorem s104_3 {M : Mm} {st : List Value} {l0 l1 l2 l4 : Option Value} {x : Int32} : EE 104 3 [l0, l1, l2, some (.int x), l4] st M = EE 104 4 [l0, l1, l2, some (.int x), l4] (.int x :: st) M := e_ld d104_3 rfl rfl rfl rfl rfl rfl
theorem d104_4 : decode (cod 104) 4 = .ok (.invokevirtual 117, 3) := by decide +kernel
theorem s104_4 {l0 l1 l2 l3 l4 : Option Value} {a : Nat} {M : Mm} {b0 : Int32} {b1 : Int32} {b2 : Int32} {st : List Value} (hl : st.length ≤ 4) (ho : isO "HandoverDeskModel" M.1 a = true) : EE 104 4 [l0, l1, l2, l3, l4] (.int b2 :: .int b1 :: .int b0 :: .ref a :: st) M = (FF 105 (.ref a :: [.int b0, .int b1, .int b2]) M).bind (fun z => EE 104 7 [l0, l1, l2, l3, l4] (psh z.1 st) z.2) := e_calv (av := [.int b0, .int b1, .int b2]) d104_4 c3_117 rfl rfl rfl r104_105 rfl hl ho
theorem d104_7 : decode (cod 104) 7 = .ok (.istore 4, 2) := by decide +kernel
theorem s104_7 {M : Mm} {st : List Value} {l0 l1 l2 l3 l4 : Option Value} {x : Int32} : EE 104 7 [l0, l1, l2, l3, l4] (.int x :: st) M = EE 104 9 [l0, l1, l2, cln l3, some (.int x)] st M := e_st1 d104_7 rfl rfl rfl rfl rfl rfl rfl (Nat.le_of_ble_eq_true rfl) rfl
theorem d104_9 : decode (cod 104) 9 = .ok (.iload 4, 2) := by decide +kernel
theorem s104_9 {M : Mm} {st : List Value} {l0 l1 l2 l3 : Option Value} {x : Int32} : EE 104 9 [l0, l1, l2, l3, some (.int x)] st M = EE 104 11 [l0, l1, l2, l3, some (.int x)] (.int x :: st) M := e_ld d104_9 rfl rfl rfl rfl rfl rfl
theorem d104_11 : decode (cod 104) 11 = .ok (.ifCond .eq 6, 3) := by decide +kernel
theorem s104_11 {M : Mm} {st : List Value} {l0 l1 l2 l3 l4 : Option Value} {x : Int32} : EE 104 11 [l0, l1, l2, l3, l4] (.int x :: st) M = if x = 0 then EE 104 17 [l0, l1, l2, l3, l4] st M else EE 104 14 [l0, l1, l2, l3, l4] st M := e_eq0 d104_11 (by decide)
theorem d104_14 : decode (cod 104) 14 = .ok (.iload 4, 2) := by decide +kernel
theorem s104_14 {M : Mm} {st : List Value} {l0 l1 l2 l3 : Option Value} {x : Int32} : EE 104 14 [l0, l1, l2, l3, some (.int x)] st M = EE 104 16 [l0, l1, l2, l3, some (.int x)] (.int x :: st) M := e_ld d104_14 rfl rfl rfl rfl rfl rfl
theorem d104_16 : decode (cod 104) 16 = .ok (.ireturn, 1) := by decide +kernel
theorem s104_16 {M : Mm} {l0 l1 l2 l3 l4 : Option Value} {v : Int32} : EE 104 16 [l0, l1, l2, l3, l4] [.int v] M = some (some (.int v), M) := e_iret d104_16 rfl rfl
theorem d104_17 : decode (cod 104) 17 = .ok (.aload_n 0, 1) := by decide +kernel
theorem s104_17 {M : Mm} {st : List Value} {l1 l2 l3 l4 : Option Value} {x : Nat} : EE 104 17 [some (.ref x), l1, l2, l3, l4] st M = EE 104 18 [some (.ref x), l1, l2, l3, l4] (.ref x :: st) M := e_ld d104_17 rfl rfl rfl rfl rfl rfl
theorem d104_18 : decode (cod 104) 18 = .ok (.invokevirtual 44, 3) := by decide +kernel
theorem s104_18 {l0 l1 l2 l3 l4 : Option Value} {a : Nat} {M : Mm} {st : List Value} (hl : st.length ≤ 4) (ho : isO "HandoverDeskModel" M.1 a = true) : EE 104 18 [l0, l1, l2, l3, l4] (.ref a :: st) M = (FF 86 (.ref a :: []) M).bind (fun z => EE 104 21 [l0, l1, l2, l3, l4] (psh z.1 st) z.2) := e_calv (av := []) d104_18 c3_44 rfl rfl rfl r104_86 rfl hl ho
theorem d104_21 : decode (cod 104) 21 = .ok (.aload_n 0, 1) := by decide +kernel
theorem s104_21 {M : Mm} {st : List Value} {l1 l2 l3 l4 : Option Value} {x : Nat} : EE 104 21 [some (.ref x), l1, l2, l3, l4] st M = EE 104 22 [some (.ref x), l1, l2, l3, l4] (.ref x :: st) M := e_ld d104_21 rfl rfl rfl rfl rfl rfl
theorem d104_22 : decode (cod 104) 22 = .ok (.iload_n 1, 1) := by decide +kernel
theorem s104_22 {M : Mm} {st : List Value} {l0 l2 l3 l4 : Option Value} {x : Int32} : EE 104 22 [l0, some (.int x), l2, l3, l4] st M = EE 104 23 [l0, some (.int x), l2, l3, l4] (.int x :: st) M := e_ld d104_22 rfl rfl rfl rfl rfl rfl
theorem d104_23 : decode (cod 104) 23 = .ok (.iload_n 2, 1) := by decide +kernel
theorem s104_23 {M : Mm} {st : List Value} {l0 l1 l3 l4 : Option Value} {x : Int32} : EE 104 23 [l0, l1, some (.int x), l3, l4] st M = EE 104 24 [l0, l1, some (.int x), l3, l4] (.int x :: st) M := e_ld d104_23 rfl rfl rfl rfl rfl rfl
theorem d104_24 : decode (cod 104) 24 = .ok (.iload_n 3, 1) := by decide +kernel
theorem s104_24 {M : Mm} {st : List Value} {l0 l1 l2 l4 : Option Value} {x : Int32} : EE 104 24 [l0, l1, l2, some (.int x), l4] st M = EE 104 25 [l0, l1, l2, some (.int x), l4] (.int x :: st) M := e_ld d104_24 rfl rfl rfl rfl rfl rfl
theorem d104_25 : decode (cod 104) 25 = .ok (.invokevirtual 121, 3) := by decide +kernel
theorem s104_25 {l0 l1 l2 l3 l4 : Option Value} {a : Nat} {M : Mm} {b0 : Int32} {b1 : Int32} {b2 : Int32} {st : List Value} (hl : st.length ≤ 4) (ho : isO "HandoverDeskModel" M.1 a = true) : EE 104 25 [l0, l1, l2, l3, l4] (.int b2 :: .int b1 :: .int b0 :: .ref a :: st) M = (FF 106 (.ref a :: [.int b0, .int b1, .int b2]) M).bind (fun z => EE 104 28 [l0, l1, l2, l3, l4] (psh z.1 st) z.2) := e_calv (av := [.int b0, .int b1, .int b2]) d104_25 c3_121 rfl rfl rfl r104_106 rfl hl ho
theorem d104_28 : decode (cod 104) 28 = .ok (.ireturn, 1) := by decide +kernel
theorem s104_28 {M : Mm} {l0 l1 l2 l3 l4 : Option Value} {v : Int32} : EE 104 28 [l0, l1, l2, l3, l4] [.int v] M = some (some (.int v), M) := e_iret d104_28 rfl rfl
theorem FE104 {a : Nat} {b0 : Int32} {b1 : Int32} {b2 : Int32} {M : Mm} : FF 104 [.ref a, .int b0, .int b1, .int b2] M = EE 104 0 [some (.ref a), some (.int b0), some (.int b1), some (.int b2), none] [] M := FF_eq 104 _ _ (Nat.le_of_ble_eq_true rfl)
theorem d105_0 : decode (cod 105) 0 = .ok (.iload_n 1, 1) := by decide +kernel
theorem s105_0 {M : Mm} {st : List Value} {l0 l2 l3 : Option Value} {x : Int32} : EE 105 0 [l0, some (.int x), l2, l3] st M = EE 105 1 [l0, some (.int x), l2, l3] (.int x :: st) M := e_ld d105_0 rfl rfl rfl rfl rfl rfl
theorem d105_1 : decode (cod 105) 1 = .ok (.invokestatic 85, 3) := by decide +kernel
theorem s105_1 {M : Mm} {l0 l1 l2 l3 : Option Value} {b0 : Int32} {st : List Value} (hl : st.length ≤ 4) : EE 105 1 [l0, l1, l2, l3] (.int b0 :: st) M = (FF 91 [.int b0] M).bind (fun z => EE 105 4 [l0, l1, l2, l3] (psh z.1 st) z.2) := e_cals (av := [.int b0]) d105_1 c3_85 (Or.inl rfl) rfl rfl r105_91 rfl hl
theorem d105_4 : decode (cod 105) 4 = .ok (.ifCond .eq 11, 3) := by decide +kernel
theorem s105_4 {M : Mm} {st : List Value} {l0 l1 l2 l3 : Option Value} {x : Int32} : EE 105 4 [l0, l1, l2, l3] (.int x :: st) M = if x = 0 then EE 105 15 [l0, l1, l2, l3] st M else EE 105 7 [l0, l1, l2, l3] st M := e_eq0 d105_4 (by decide)
theorem d105_7 : decode (cod 105) 7 = .ok (.aload_n 0, 1) := by decide +kernel
theorem s105_7 {M : Mm} {st : List Value} {l1 l2 l3 : Option Value} {x : Nat} : EE 105 7 [some (.ref x), l1, l2, l3] st M = EE 105 8 [some (.ref x), l1, l2, l3] (.ref x :: st) M := e_ld d105_7 rfl rfl rfl rfl rfl rfl
theorem d105_8 : decode (cod 105) 8 = .ok (.iload_n 2, 1) := by decide +kernel
theorem s105_8 {M : Mm} {st : List Value} {l0 l1 l3 : Option Value} {x : Int32} : EE 105 8 [l0, l1, some (.int x), l3] st M = EE 105 9 [l0, l1, some (.int x), l3] (.int x :: st) M := e_ld d105_8 rfl rfl rfl rfl rfl rfl
theorem d105_9 : decode (cod 105) 9 = .ok (.invokevirtual 104, 3) := by decide +kernel
theorem s105_9 {l0 l1 l2 l3 : Option Value} {a : Nat} {M : Mm} {b0 : Int32} {st : List Value} (hl : st.length ≤ 4) (ho : isO "HandoverDeskModel" M.1 a = true) : EE 105 9 [l0, l1, l2, l3] (.int b0 :: .ref a :: st) M = (FF 99 (.ref a :: [.int b0]) M).bind (fun z => EE 105 12 [l0, l1, l2, l3] (psh z.1 st) z.2) := e_calv (av := [.int b0]) d105_9 c3_104 rfl rfl rfl r105_99 rfl hl ho
theorem d105_12 : decode (cod 105) 12 = .ok (.ifCond .ne 7, 3) := by decide +kernel
theorem s105_12 {M : Mm} {st : List Value} {l0 l1 l2 l3 : Option Value} {x : Int32} : EE 105 12 [l0, l1, l2, l3] (.int x :: st) M = if x = 0 then EE 105 15 [l0, l1, l2, l3] st M else EE 105 19 [l0, l1, l2, l3] st M := e_ne0 d105_12 (by decide)
theorem d105_15 : decode (cod 105) 15 = .ok (.iconst (-1), 1) := by decide +kernel
theorem s105_15 {M : Mm} {st : List Value} {l0 l1 l2 l3 : Option Value} : EE 105 15 [l0, l1, l2, l3] st M = EE 105 16 [l0, l1, l2, l3] (.int ((-1)) :: st) M := e_con d105_15 k_con_m1
theorem d105_16 : decode (cod 105) 16 = .ok (.goto 19, 3) := by decide +kernel
theorem s105_16 {M : Mm} {st : List Value} {l0 l1 l2 l3 : Option Value} : EE 105 16 [l0, l1, l2, l3] st M = EE 105 35 [l0, l1, l2, l3] st M := e_goto d105_16 (by decide)
theorem d105_19 : decode (cod 105) 19 = .ok (.iload_n 3, 1) := by decide +kernel
theorem s105_19 {M : Mm} {st : List Value} {l0 l1 l2 : Option Value} {x : Int32} : EE 105 19 [l0, l1, l2, some (.int x)] st M = EE 105 20 [l0, l1, l2, some (.int x)] (.int x :: st) M := e_ld d105_19 rfl rfl rfl rfl rfl rfl
theorem d105_20 : decode (cod 105) 20 = .ok (.iconst 1, 1) := by decide +kernel
theorem s105_20 {M : Mm} {st : List Value} {l0 l1 l2 l3 : Option Value} : EE 105 20 [l0, l1, l2, l3] st M = EE 105 21 [l0, l1, l2, l3] (.int (nI 1) :: st) M := e_con d105_20 k_con_1
theorem d105_21 : decode (cod 105) 21 = .ok (.bipush 100, 2) := by decide +kernel
theorem s105_21 {M : Mm} {st : List Value} {l0 l1 l2 l3 : Option Value} : EE 105 21 [l0, l1, l2, l3] st M = EE 105 23 [l0, l1, l2, l3] (.int (nI 100) :: st) M := e_bip d105_21 k_bip_100
theorem d105_23 : decode (cod 105) 23 = .ok (.invokestatic 32, 3) := by decide +kernel
theorem s105_23 {M : Mm} {l0 l1 l2 l3 : Option Value} {b0 : Int32} {b1 : Int32} {b2 : Int32} {st : List Value} (hl : st.length ≤ 4) : EE 105 23 [l0, l1, l2, l3] (.int b2 :: .int b1 :: .int b0 :: st) M = (FF 84 [.int b0, .int b1, .int b2] M).bind (fun z => EE 105 26 [l0, l1, l2, l3] (psh z.1 st) z.2) := e_cals (av := [.int b0, .int b1, .int b2]) d105_23 c3_32 (Or.inl rfl) rfl rfl r105_84 rfl hl
theorem d105_26 : decode (cod 105) 26 = .ok (.ifCond .eq 7, 3) := by decide +kernel
theorem s105_26 {M : Mm} {st : List Value} {l0 l1 l2 l3 : Option Value} {x : Int32} : EE 105 26 [l0, l1, l2, l3] (.int x :: st) M = if x = 0 then EE 105 33 [l0, l1, l2, l3] st M else EE 105 29 [l0, l1, l2, l3] st M := e_eq0 d105_26 (by decide)
theorem d105_29 : decode (cod 105) 29 = .ok (.iconst 0, 1) := by decide +kernel
theorem s105_29 {M : Mm} {st : List Value} {l0 l1 l2 l3 : Option Value} : EE 105 29 [l0, l1, l2, l3] st M = EE 105 30 [l0, l1, l2, l3] (.int (nI 0) :: st) M := e_con d105_29 k_con_0
theorem d105_30 : decode (cod 105) 30 = .ok (.goto 5, 3) := by decide +kernel
theorem s105_30 {M : Mm} {st : List Value} {l0 l1 l2 l3 : Option Value} : EE 105 30 [l0, l1, l2, l3] st M = EE 105 35 [l0, l1, l2, l3] st M := e_goto d105_30 (by decide)
theorem d105_33 : decode (cod 105) 33 = .ok (.bipush (-2), 2) := by decide +kernel
theorem s105_33 {M : Mm} {st : List Value} {l0 l1 l2 l3 : Option Value} : EE 105 33 [l0, l1, l2, l3] st M = EE 105 35 [l0, l1, l2, l3] (.int ((-2)) :: st) M := e_bip d105_33 k_bip_m2
theorem d105_35 : decode (cod 105) 35 = .ok (.ireturn, 1) := by decide +kernel
theorem s105_35 {M : Mm} {l0 l1 l2 l3 : Option Value} {v : Int32} : EE 105 35 [l0, l1, l2, l3] [.int v] M = some (some (.int v), M) := e_iret d105_35 rfl rfl
theorem FE105 {a : Nat} {b0 : Int32} {b1 : Int32} {b2 : Int32} {M : Mm} : FF 105 [.ref a, .int b0, .int b1, .int b2] M = EE 105 0 [some (.ref a), some (.int b0), some (.int b1), some (.int b2)] [] M := FF_eq 105 _ _ (Nat.le_of_ble_eq_true rfl)
theorem d106_0 : decode (cod 106) 0 = .ok (.aload_n 0, 1) := by decide +kernel
theorem s106_0 {M : Mm} {st : List Value} {l1 l2 l3 : Option Value} {x : Nat} : EE 106 0 [some (.ref x), l1, l2, l3] st M = EE 106 1 [some (.ref x), l1, l2, l3] (.ref x :: st) M := e_ld d106_0 rfl rfl rfl rfl rfl rfl
theorem d106_1 : decode (cod 106) 1 = .ok (.getfield 7, 3) := by decide +kernel
theorem s106_1 {n : Nat} {I : Nat → Nat → Int32} {R : Nat → Nat → Option Nat} {st : List Value} {l0 l1 l2 l3 : Option Value} {a : Nat} : EE 106 1 [l0, l1, l2, l3] (.ref a :: st) (n, I, R) = (gfI n I R 3 0 a).bind (fun z => EE 106 4 [l0, l1, l2, l3] (z :: st) (n, I, R)) := e_getf d106_1 f3_7 rfl rfl
theorem d106_4 : decode (cod 106) 4 = .ok (.iload_n 1, 1) := by decide +kernel
theorem s106_4 {M : Mm} {st : List Value} {l0 l2 l3 : Option Value} {x : Int32} : EE 106 4 [l0, some (.int x), l2, l3] st M = EE 106 5 [l0, some (.int x), l2, l3] (.int x :: st) M := e_ld d106_4 rfl rfl rfl rfl rfl rfl
theorem d106_5 : decode (cod 106) 5 = .ok (.iload_n 2, 1) := by decide +kernel
theorem s106_5 {M : Mm} {st : List Value} {l0 l1 l3 : Option Value} {x : Int32} : EE 106 5 [l0, l1, some (.int x), l3] st M = EE 106 6 [l0, l1, some (.int x), l3] (.int x :: st) M := e_ld d106_5 rfl rfl rfl rfl rfl rfl
theorem d106_6 : decode (cod 106) 6 = .ok (.invokestatic 47, 3) := by decide +kernel
theorem s106_6 {M : Mm} {l0 l1 l2 l3 : Option Value} {b0 : Int32} {b1 : Int32} {st : List Value} (hl : st.length ≤ 4) : EE 106 6 [l0, l1, l2, l3] (.int b1 :: .int b0 :: st) M = (FF 107 [.int b0, .int b1] M).bind (fun z => EE 106 9 [l0, l1, l2, l3] (psh z.1 st) z.2) := e_cals (av := [.int b0, .int b1]) d106_6 c3_47 (Or.inl rfl) rfl rfl r106_107 rfl hl
theorem d106_9 : decode (cod 106) 9 = .ok (.iload_n 3, 1) := by decide +kernel
theorem s106_9 {M : Mm} {st : List Value} {l0 l1 l2 : Option Value} {x : Int32} : EE 106 9 [l0, l1, l2, some (.int x)] st M = EE 106 10 [l0, l1, l2, some (.int x)] (.int x :: st) M := e_ld d106_9 rfl rfl rfl rfl rfl rfl
theorem d106_10 : decode (cod 106) 10 = .ok (.bipush 100, 2) := by decide +kernel
theorem s106_10 {M : Mm} {st : List Value} {l0 l1 l2 l3 : Option Value} : EE 106 10 [l0, l1, l2, l3] st M = EE 106 12 [l0, l1, l2, l3] (.int (nI 100) :: st) M := e_bip d106_10 k_bip_100
theorem d106_12 : decode (cod 106) 12 = .ok (.invokestatic 59, 3) := by decide +kernel
theorem s106_12 {M : Mm} {l0 l1 l2 l3 : Option Value} {b0 : Nat} {b1 : Int32} {b2 : Int32} {b3 : Int32} {st : List Value} (hl : st.length ≤ 4) : EE 106 12 [l0, l1, l2, l3] (.int b3 :: .int b2 :: .int b1 :: .ref b0 :: st) M = (FF 108 [.ref b0, .int b1, .int b2, .int b3] M).bind (fun z => EE 106 15 [l0, l1, l2, l3] (psh z.1 st) z.2) := e_cals (av := [.ref b0, .int b1, .int b2, .int b3]) d106_12 c3_59 (Or.inl rfl) rfl rfl r106_108 rfl hl
theorem d106_15 : decode (cod 106) 15 = .ok (.aload_n 0, 1) := by decide +kernel
theorem s106_15 {M : Mm} {st : List Value} {l1 l2 l3 : Option Value} {x : Nat} : EE 106 15 [some (.ref x), l1, l2, l3] st M = EE 106 16 [some (.ref x), l1, l2, l3] (.ref x :: st) M := e_ld d106_15 rfl rfl rfl rfl rfl rfl
theorem d106_16 : decode (cod 106) 16 = .ok (.getfield 7, 3) := by decide +kernel
theorem s106_16 {n : Nat} {I : Nat → Nat → Int32} {R : Nat → Nat → Option Nat} {st : List Value} {l0 l1 l2 l3 : Option Value} {a : Nat} : EE 106 16 [l0, l1, l2, l3] (.ref a :: st) (n, I, R) = (gfI n I R 3 0 a).bind (fun z => EE 106 19 [l0, l1, l2, l3] (z :: st) (n, I, R)) := e_getf d106_16 f3_7 rfl rfl
theorem d106_19 : decode (cod 106) 19 = .ok (.iload_n 1, 1) := by decide +kernel
theorem s106_19 {M : Mm} {st : List Value} {l0 l2 l3 : Option Value} {x : Int32} : EE 106 19 [l0, some (.int x), l2, l3] st M = EE 106 20 [l0, some (.int x), l2, l3] (.int x :: st) M := e_ld d106_19 rfl rfl rfl rfl rfl rfl
theorem d106_20 : decode (cod 106) 20 = .ok (.iload_n 2, 1) := by decide +kernel
theorem s106_20 {M : Mm} {st : List Value} {l0 l1 l3 : Option Value} {x : Int32} : EE 106 20 [l0, l1, some (.int x), l3] st M = EE 106 21 [l0, l1, some (.int x), l3] (.int x :: st) M := e_ld d106_20 rfl rfl rfl rfl rfl rfl
theorem d106_21 : decode (cod 106) 21 = .ok (.invokestatic 47, 3) := by decide +kernel
theorem s106_21 {M : Mm} {l0 l1 l2 l3 : Option Value} {b0 : Int32} {b1 : Int32} {st : List Value} (hl : st.length ≤ 4) : EE 106 21 [l0, l1, l2, l3] (.int b1 :: .int b0 :: st) M = (FF 107 [.int b0, .int b1] M).bind (fun z => EE 106 24 [l0, l1, l2, l3] (psh z.1 st) z.2) := e_cals (av := [.int b0, .int b1]) d106_21 c3_47 (Or.inl rfl) rfl rfl r106_107 rfl hl
theorem d106_24 : decode (cod 106) 24 = .ok (.iaload, 1) := by decide +kernel
theorem s106_24 {n : Nat} {I : Nat → Nat → Int32} {R : Nat → Nat → Option Nat} {st : List Value} {l0 l1 l2 l3 : Option Value} {j : Int32} {a : Nat} : EE 106 24 [l0, l1, l2, l3] (.int j :: .ref a :: st) (n, I, R) = (ardI 5 n I a j).bind (fun z => EE 106 25 [l0, l1, l2, l3] (.int z :: st) (n, I, R)) := e_iald d106_24
theorem d106_25 : decode (cod 106) 25 = .ok (.ireturn, 1) := by decide +kernel
theorem s106_25 {M : Mm} {l0 l1 l2 l3 : Option Value} {v : Int32} : EE 106 25 [l0, l1, l2, l3] [.int v] M = some (some (.int v), M) := e_iret d106_25 rfl rfl
theorem FE106 {a : Nat} {b0 : Int32} {b1 : Int32} {b2 : Int32} {M : Mm} : FF 106 [.ref a, .int b0, .int b1, .int b2] M = EE 106 0 [some (.ref a), some (.int b0), some (.int b1), some (.int b2)] [] M := FF_eq 106 _ _ (Nat.le_of_ble_eq_true rfl)
theorem d107_0 : decode (cod 107) 0 = .ok (.bipush 58, 2) := by decide +kernel
theorem s107_0 {M : Mm} {st : List Value} {l0 l1 : Option Value} : EE 107 0 [l0, l1] st M = EE 107 2 [l0, l1] (.int (nI 58) :: st) M := e_bip d107_0 k_bip_58
theorem d107_2 : decode (cod 107) 2 = .ok (.bipush 10, 2) := by decide +kernel
theorem s107_2 {M : Mm} {st : List Value} {l0 l1 : Option Value} : EE 107 2 [l0, l1] st M = EE 107 4 [l0, l1] (.int (nI 10) :: st) M := e_bip d107_2 k_bip_10
theorem d107_4 : decode (cod 107) 4 = .ok (.iload_n 0, 1) := by decide +kernel
theorem s107_4 {M : Mm} {st : List Value} {l1 : Option Value} {x : Int32} : EE 107 4 [some (.int x), l1] st M = EE 107 5 [some (.int x), l1] (.int x :: st) M := e_ld d107_4 rfl rfl rfl rfl rfl rfl
theorem d107_5 : decode (cod 107) 5 = .ok (.imul, 1) := by decide +kernel
theorem s107_5 {M : Mm} {st : List Value} {l0 l1 : Option Value} {x y : Int32} : EE 107 5 [l0, l1] (.int y :: .int x :: st) M = EE 107 6 [l0, l1] (.int (x * y) :: st) M := e_II d107_5 rfl rfl rfl rfl rfl rfl
theorem d107_6 : decode (cod 107) 6 = .ok (.iadd, 1) := by decide +kernel
theorem s107_6 {M : Mm} {st : List Value} {l0 l1 : Option Value} {x y : Int32} : EE 107 6 [l0, l1] (.int y :: .int x :: st) M = EE 107 7 [l0, l1] (.int (x + y) :: st) M := e_II d107_6 rfl rfl rfl rfl rfl rfl
theorem d107_7 : decode (cod 107) 7 = .ok (.iload_n 1, 1) := by decide +kernel
theorem s107_7 {M : Mm} {st : List Value} {l0 : Option Value} {x : Int32} : EE 107 7 [l0, some (.int x)] st M = EE 107 8 [l0, some (.int x)] (.int x :: st) M := e_ld d107_7 rfl rfl rfl rfl rfl rfl
theorem d107_8 : decode (cod 107) 8 = .ok (.iadd, 1) := by decide +kernel
theorem s107_8 {M : Mm} {st : List Value} {l0 l1 : Option Value} {x y : Int32} : EE 107 8 [l0, l1] (.int y :: .int x :: st) M = EE 107 9 [l0, l1] (.int (x + y) :: st) M := e_II d107_8 rfl rfl rfl rfl rfl rfl
theorem d107_9 : decode (cod 107) 9 = .ok (.ireturn, 1) := by decide +kernel
theorem s107_9 {M : Mm} {l0 l1 : Option Value} {v : Int32} : EE 107 9 [l0, l1] [.int v] M = some (some (.int v), M) := e_iret d107_9 rfl rfl
theorem FE107 {b0 : Int32} {b1 : Int32} {M : Mm} : FF 107 [.int b0, .int b1] M = EE 107 0 [some (.int b0), some (.int b1)] [] M := FF_eq 107 _ _ (Nat.le_of_ble_eq_true rfl)
theorem d108_0 : decode (cod 108) 0 = .ok (.aload_n 0, 1) := by decide +kernel
theorem s108_0 {M : Mm} {st : List Value} {l1 l2 l3 : Option Value} {x : Nat} : EE 108 0 [some (.ref x), l1, l2, l3] st M = EE 108 1 [some (.ref x), l1, l2, l3] (.ref x :: st) M := e_ld d108_0 rfl rfl rfl rfl rfl rfl
theorem d108_1 : decode (cod 108) 1 = .ok (.iload_n 1, 1) := by decide +kernel
theorem s108_1 {M : Mm} {st : List Value} {l0 l2 l3 : Option Value} {x : Int32} : EE 108 1 [l0, some (.int x), l2, l3] st M = EE 108 2 [l0, some (.int x), l2, l3] (.int x :: st) M := e_ld d108_1 rfl rfl rfl rfl rfl rfl
theorem d108_2 : decode (cod 108) 2 = .ok (.aload_n 0, 1) := by decide +kernel
theorem s108_2 {M : Mm} {st : List Value} {l1 l2 l3 : Option Value} {x : Nat} : EE 108 2 [some (.ref x), l1, l2, l3] st M = EE 108 3 [some (.ref x), l1, l2, l3] (.ref x :: st) M := e_ld d108_2 rfl rfl rfl rfl rfl rfl
theorem d108_3 : decode (cod 108) 3 = .ok (.iload_n 1, 1) := by decide +kernel
theorem s108_3 {M : Mm} {st : List Value} {l0 l2 l3 : Option Value} {x : Int32} : EE 108 3 [l0, some (.int x), l2, l3] st M = EE 108 4 [l0, some (.int x), l2, l3] (.int x :: st) M := e_ld d108_3 rfl rfl rfl rfl rfl rfl
theorem d108_4 : decode (cod 108) 4 = .ok (.iaload, 1) := by decide +kernel
theorem s108_4 {n : Nat} {I : Nat → Nat → Int32} {R : Nat → Nat → Option Nat} {st : List Value} {l0 l1 l2 l3 : Option Value} {j : Int32} {a : Nat} : EE 108 4 [l0, l1, l2, l3] (.int j :: .ref a :: st) (n, I, R) = (ardI 5 n I a j).bind (fun z => EE 108 5 [l0, l1, l2, l3] (.int z :: st) (n, I, R)) := e_iald d108_4
theorem d108_5 : decode (cod 108) 5 = .ok (.iload_n 2, 1) := by decide +kernel
theorem s108_5 {M : Mm} {st : List Value} {l0 l1 l3 : Option Value} {x : Int32} : EE 108 5 [l0, l1, some (.int x), l3] st M = EE 108 6 [l0, l1, some (.int x), l3] (.int x :: st) M := e_ld d108_5 rfl rfl rfl rfl rfl rfl
theorem d108_6 : decode (cod 108) 6 = .ok (.iadd, 1) := by decide +kernel
theorem s108_6 {M : Mm} {st : List Value} {l0 l1 l2 l3 : Option Value} {x y : Int32} : EE 108 6 [l0, l1, l2, l3] (.int y :: .int x :: st) M = EE 108 7 [l0, l1, l2, l3] (.int (x + y) :: st) M := e_II d108_6 rfl rfl rfl rfl rfl rfl
theorem d108_7 : decode (cod 108) 7 = .ok (.iload_n 3, 1) := by decide +kernel
theorem s108_7 {M : Mm} {st : List Value} {l0 l1 l2 : Option Value} {x : Int32} : EE 108 7 [l0, l1, l2, some (.int x)] st M = EE 108 8 [l0, l1, l2, some (.int x)] (.int x :: st) M := e_ld d108_7 rfl rfl rfl rfl rfl rfl
theorem d108_8 : decode (cod 108) 8 = .ok (.if_icmp .le 7, 3) := by decide +kernel
theorem s108_8 {M : Mm} {st : List Value} {l0 l1 l2 l3 : Option Value} {x y : Int32} : EE 108 8 [l0, l1, l2, l3] (.int y :: .int x :: st) M = if x ≤ y then EE 108 15 [l0, l1, l2, l3] st M else EE 108 11 [l0, l1, l2, l3] st M := e_cle d108_8 (by decide)
theorem d108_11 : decode (cod 108) 11 = .ok (.iload_n 3, 1) := by decide +kernel
theorem s108_11 {M : Mm} {st : List Value} {l0 l1 l2 : Option Value} {x : Int32} : EE 108 11 [l0, l1, l2, some (.int x)] st M = EE 108 12 [l0, l1, l2, some (.int x)] (.int x :: st) M := e_ld d108_11 rfl rfl rfl rfl rfl rfl
theorem d108_12 : decode (cod 108) 12 = .ok (.goto 8, 3) := by decide +kernel
theorem s108_12 {M : Mm} {st : List Value} {l0 l1 l2 l3 : Option Value} : EE 108 12 [l0, l1, l2, l3] st M = EE 108 20 [l0, l1, l2, l3] st M := e_goto d108_12 (by decide)
theorem d108_15 : decode (cod 108) 15 = .ok (.aload_n 0, 1) := by decide +kernel
theorem s108_15 {M : Mm} {st : List Value} {l1 l2 l3 : Option Value} {x : Nat} : EE 108 15 [some (.ref x), l1, l2, l3] st M = EE 108 16 [some (.ref x), l1, l2, l3] (.ref x :: st) M := e_ld d108_15 rfl rfl rfl rfl rfl rfl
theorem d108_16 : decode (cod 108) 16 = .ok (.iload_n 1, 1) := by decide +kernel
theorem s108_16 {M : Mm} {st : List Value} {l0 l2 l3 : Option Value} {x : Int32} : EE 108 16 [l0, some (.int x), l2, l3] st M = EE 108 17 [l0, some (.int x), l2, l3] (.int x :: st) M := e_ld d108_16 rfl rfl rfl rfl rfl rfl
theorem d108_17 : decode (cod 108) 17 = .ok (.iaload, 1) := by decide +kernel
theorem s108_17 {n : Nat} {I : Nat → Nat → Int32} {R : Nat → Nat → Option Nat} {st : List Value} {l0 l1 l2 l3 : Option Value} {j : Int32} {a : Nat} : EE 108 17 [l0, l1, l2, l3] (.int j :: .ref a :: st) (n, I, R) = (ardI 5 n I a j).bind (fun z => EE 108 18 [l0, l1, l2, l3] (.int z :: st) (n, I, R)) := e_iald d108_17
theorem d108_18 : decode (cod 108) 18 = .ok (.iload_n 2, 1) := by decide +kernel
theorem s108_18 {M : Mm} {st : List Value} {l0 l1 l3 : Option Value} {x : Int32} : EE 108 18 [l0, l1, some (.int x), l3] st M = EE 108 19 [l0, l1, some (.int x), l3] (.int x :: st) M := e_ld d108_18 rfl rfl rfl rfl rfl rfl
theorem d108_19 : decode (cod 108) 19 = .ok (.iadd, 1) := by decide +kernel
theorem s108_19 {M : Mm} {st : List Value} {l0 l1 l2 l3 : Option Value} {x y : Int32} : EE 108 19 [l0, l1, l2, l3] (.int y :: .int x :: st) M = EE 108 20 [l0, l1, l2, l3] (.int (x + y) :: st) M := e_II d108_19 rfl rfl rfl rfl rfl rfl
theorem d108_20 : decode (cod 108) 20 = .ok (.iastore, 1) := by decide +kernel
theorem s108_20 {n : Nat} {I : Nat → Nat → Int32} {R : Nat → Nat → Option Nat} {st : List Value} {l0 l1 l2 l3 : Option Value} {j x : Int32} {a : Nat} (h : acI 5 n a j) : EE 108 20 [l0, l1, l2, l3] (.int x :: .int j :: .ref a :: st) (n, I, R) = EE 108 21 [l0, l1, l2, l3] st (n, wI I a j.toNatClampNeg x, R) := e_iast d108_20 h
theorem d108_21 : decode (cod 108) 21 = .ok (.return_, 1) := by decide +kernel
theorem s108_21 {M : Mm} {l0 l1 l2 l3 : Option Value} : EE 108 21 [l0, l1, l2, l3] [] M = some (none, M) := e_vret d108_21 rfl
theorem FE108 {b0 : Nat} {b1 : Int32} {b2 : Int32} {b3 : Int32} {M : Mm} : FF 108 [.ref b0, .int b1, .int b2, .int b3] M = EE 108 0 [some (.ref b0), some (.int b1), some (.int b2), some (.int b3)] [] M := FF_eq 108 _ _ (Nat.le_of_ble_eq_true rfl)
theorem d109_0 : decode (cod 109) 0 = .ok (.aload_n 0, 1) := by decide +kernel
theorem s109_0 {M : Mm} {st : List Value} {l1 l2 : Option Value} {x : Nat} : EE 109 0 [some (.ref x), l1, l2] st M = EE 109 1 [some (.ref x), l1, l2] (.ref x :: st) M := e_ld d109_0 rfl rfl rfl rfl rfl rfl
theorem d109_1 : decode (cod 109) 1 = .ok (.iload_n 1, 1) := by decide +kernel
theorem s109_1 {M : Mm} {st : List Value} {l0 l2 : Option Value} {x : Int32} : EE 109 1 [l0, some (.int x), l2] st M = EE 109 2 [l0, some (.int x), l2] (.int x :: st) M := e_ld d109_1 rfl rfl rfl rfl rfl rfl
theorem d109_2 : decode (cod 109) 2 = .ok (.invokevirtual 127, 3) := by decide +kernel
theorem s109_2 {l0 l1 l2 : Option Value} {a : Nat} {M : Mm} {b0 : Int32} {st : List Value} (hl : st.length ≤ 4) (ho : isO "HandoverDeskModel" M.1 a = true) : EE 109 2 [l0, l1, l2] (.int b0 :: .ref a :: st) M = (FF 110 (.ref a :: [.int b0]) M).bind (fun z => EE 109 5 [l0, l1, l2] (psh z.1 st) z.2) := e_calv (av := [.int b0]) d109_2 c3_127 rfl rfl rfl r109_110 rfl hl ho
theorem d109_5 : decode (cod 109) 5 = .ok (.istore_n 2, 1) := by decide +kernel
theorem s109_5 {M : Mm} {st : List Value} {l0 l1 l2 : Option Value} {x : Int32} : EE 109 5 [l0, l1, l2] (.int x :: st) M = EE 109 6 [l0, cln l1, some (.int x)] st M := e_st1 d109_5 rfl rfl rfl rfl rfl rfl rfl (Nat.le_of_ble_eq_true rfl) rfl
theorem d109_6 : decode (cod 109) 6 = .ok (.iload_n 2, 1) := by decide +kernel
theorem s109_6 {M : Mm} {st : List Value} {l0 l1 : Option Value} {x : Int32} : EE 109 6 [l0, l1, some (.int x)] st M = EE 109 7 [l0, l1, some (.int x)] (.int x :: st) M := e_ld d109_6 rfl rfl rfl rfl rfl rfl
theorem d109_7 : decode (cod 109) 7 = .ok (.ifCond .eq 5, 3) := by decide +kernel
theorem s109_7 {M : Mm} {st : List Value} {l0 l1 l2 : Option Value} {x : Int32} : EE 109 7 [l0, l1, l2] (.int x :: st) M = if x = 0 then EE 109 12 [l0, l1, l2] st M else EE 109 10 [l0, l1, l2] st M := e_eq0 d109_7 (by decide)
theorem d109_10 : decode (cod 109) 10 = .ok (.iload_n 2, 1) := by decide +kernel
theorem s109_10 {M : Mm} {st : List Value} {l0 l1 : Option Value} {x : Int32} : EE 109 10 [l0, l1, some (.int x)] st M = EE 109 11 [l0, l1, some (.int x)] (.int x :: st) M := e_ld d109_10 rfl rfl rfl rfl rfl rfl
theorem d109_11 : decode (cod 109) 11 = .ok (.ireturn, 1) := by decide +kernel
theorem s109_11 {M : Mm} {l0 l1 l2 : Option Value} {v : Int32} : EE 109 11 [l0, l1, l2] [.int v] M = some (some (.int v), M) := e_iret d109_11 rfl rfl
theorem d109_12 : decode (cod 109) 12 = .ok (.aload_n 0, 1) := by decide +kernel
theorem s109_12 {M : Mm} {st : List Value} {l1 l2 : Option Value} {x : Nat} : EE 109 12 [some (.ref x), l1, l2] st M = EE 109 13 [some (.ref x), l1, l2] (.ref x :: st) M := e_ld d109_12 rfl rfl rfl rfl rfl rfl
theorem d109_13 : decode (cod 109) 13 = .ok (.invokevirtual 44, 3) := by decide +kernel
theorem s109_13 {l0 l1 l2 : Option Value} {a : Nat} {M : Mm} {st : List Value} (hl : st.length ≤ 4) (ho : isO "HandoverDeskModel" M.1 a = true) : EE 109 13 [l0, l1, l2] (.ref a :: st) M = (FF 86 (.ref a :: []) M).bind (fun z => EE 109 16 [l0, l1, l2] (psh z.1 st) z.2) := e_calv (av := []) d109_13 c3_44 rfl rfl rfl r109_86 rfl hl ho
theorem d109_16 : decode (cod 109) 16 = .ok (.aload_n 0, 1) := by decide +kernel
theorem s109_16 {M : Mm} {st : List Value} {l1 l2 : Option Value} {x : Nat} : EE 109 16 [some (.ref x), l1, l2] st M = EE 109 17 [some (.ref x), l1, l2] (.ref x :: st) M := e_ld d109_16 rfl rfl rfl rfl rfl rfl
theorem d109_17 : decode (cod 109) 17 = .ok (.iload_n 1, 1) := by decide +kernel
theorem s109_17 {M : Mm} {st : List Value} {l0 l2 : Option Value} {x : Int32} : EE 109 17 [l0, some (.int x), l2] st M = EE 109 18 [l0, some (.int x), l2] (.int x :: st) M := e_ld d109_17 rfl rfl rfl rfl rfl rfl
theorem d109_18 : decode (cod 109) 18 = .ok (.invokevirtual 130, 3) := by decide +kernel
theorem s109_18 {l0 l1 l2 : Option Value} {a : Nat} {M : Mm} {b0 : Int32} {st : List Value} (hl : st.length ≤ 4) (ho : isO "HandoverDeskModel" M.1 a = true) : EE 109 18 [l0, l1, l2] (.int b0 :: .ref a :: st) M = (FF 113 (.ref a :: [.int b0]) M).bind (fun z => EE 109 21 [l0, l1, l2] (psh z.1 st) z.2) := e_calv (av := [.int b0]) d109_18 c3_130 rfl rfl rfl r109_113 rfl hl ho
theorem d109_21 : decode (cod 109) 21 = .ok (.ireturn, 1) := by decide +kernel
theorem s109_21 {M : Mm} {l0 l1 l2 : Option Value} {v : Int32} : EE 109 21 [l0, l1, l2] [.int v] M = some (some (.int v), M) := e_iret d109_21 rfl rfl
theorem FE109 {a : Nat} {b0 : Int32} {M : Mm} : FF 109 [.ref a, .int b0] M = EE 109 0 [some (.ref a), some (.int b0), none] [] M := FF_eq 109 _ _ (Nat.le_of_ble_eq_true rfl)
theorem d110_0 : decode (cod 110) 0 = .ok (.aload_n 0, 1) := by decide +kernel
theorem s110_0 {M : Mm} {st : List Value} {l1 l2 : Option Value} {x : Nat} : EE 110 0 [some (.ref x), l1, l2] st M = EE 110 1 [some (.ref x), l1, l2] (.ref x :: st) M := e_ld d110_0 rfl rfl rfl rfl rfl rfl
theorem d110_1 : decode (cod 110) 1 = .ok (.iload_n 1, 1) := by decide +kernel
theorem s110_1 {M : Mm} {st : List Value} {l0 l2 : Option Value} {x : Int32} : EE 110 1 [l0, some (.int x), l2] st M = EE 110 2 [l0, some (.int x), l2] (.int x :: st) M := e_ld d110_1 rfl rfl rfl rfl rfl rfl
theorem d110_2 : decode (cod 110) 2 = .ok (.invokevirtual 104, 3) := by decide +kernel
theorem s110_2 {l0 l1 l2 : Option Value} {a : Nat} {M : Mm} {b0 : Int32} {st : List Value} (hl : st.length ≤ 4) (ho : isO "HandoverDeskModel" M.1 a = true) : EE 110 2 [l0, l1, l2] (.int b0 :: .ref a :: st) M = (FF 99 (.ref a :: [.int b0]) M).bind (fun z => EE 110 5 [l0, l1, l2] (psh z.1 st) z.2) := e_calv (av := [.int b0]) d110_2 c3_104 rfl rfl rfl r110_99 rfl hl ho
theorem d110_5 : decode (cod 110) 5 = .ok (.ifCond .ne 5, 3) := by decide +kernel
theorem s110_5 {M : Mm} {st : List Value} {l0 l1 l2 : Option Value} {x : Int32} : EE 110 5 [l0, l1, l2] (.int x :: st) M = if x = 0 then EE 110 8 [l0, l1, l2] st M else EE 110 10 [l0, l1, l2] st M := e_ne0 d110_5 (by decide)
theorem d110_8 : decode (cod 110) 8 = .ok (.iconst (-1), 1) := by decide +kernel
theorem s110_8 {M : Mm} {st : List Value} {l0 l1 l2 : Option Value} : EE 110 8 [l0, l1, l2] st M = EE 110 9 [l0, l1, l2] (.int ((-1)) :: st) M := e_con d110_8 k_con_m1
theorem d110_9 : decode (cod 110) 9 = .ok (.ireturn, 1) := by decide +kernel
theorem s110_9 {M : Mm} {l0 l1 l2 : Option Value} {v : Int32} : EE 110 9 [l0, l1, l2] [.int v] M = some (some (.int v), M) := e_iret d110_9 rfl rfl
theorem d110_10 : decode (cod 110) 10 = .ok (.aload_n 0, 1) := by decide +kernel
theorem s110_10 {M : Mm} {st : List Value} {l1 l2 : Option Value} {x : Nat} : EE 110 10 [some (.ref x), l1, l2] st M = EE 110 11 [some (.ref x), l1, l2] (.ref x :: st) M := e_ld d110_10 rfl rfl rfl rfl rfl rfl
theorem d110_11 : decode (cod 110) 11 = .ok (.getfield 7, 3) := by decide +kernel
theorem s110_11 {n : Nat} {I : Nat → Nat → Int32} {R : Nat → Nat → Option Nat} {st : List Value} {l0 l1 l2 : Option Value} {a : Nat} : EE 110 11 [l0, l1, l2] (.ref a :: st) (n, I, R) = (gfI n I R 3 0 a).bind (fun z => EE 110 14 [l0, l1, l2] (z :: st) (n, I, R)) := e_getf d110_11 f3_7 rfl rfl
theorem d110_14 : decode (cod 110) 14 = .ok (.aload_n 0, 1) := by decide +kernel
theorem s110_14 {M : Mm} {st : List Value} {l1 l2 : Option Value} {x : Nat} : EE 110 14 [some (.ref x), l1, l2] st M = EE 110 15 [some (.ref x), l1, l2] (.ref x :: st) M := e_ld d110_14 rfl rfl rfl rfl rfl rfl
theorem d110_15 : decode (cod 110) 15 = .ok (.getfield 7, 3) := by decide +kernel
theorem s110_15 {n : Nat} {I : Nat → Nat → Int32} {R : Nat → Nat → Option Nat} {st : List Value} {l0 l1 l2 : Option Value} {a : Nat} : EE 110 15 [l0, l1, l2] (.ref a :: st) (n, I, R) = (gfI n I R 3 0 a).bind (fun z => EE 110 18 [l0, l1, l2] (z :: st) (n, I, R)) := e_getf d110_15 f3_7 rfl rfl
theorem d110_18 : decode (cod 110) 18 = .ok (.iconst 0, 1) := by decide +kernel
theorem s110_18 {M : Mm} {st : List Value} {l0 l1 l2 : Option Value} : EE 110 18 [l0, l1, l2] st M = EE 110 19 [l0, l1, l2] (.int (nI 0) :: st) M := e_con d110_18 k_con_0
theorem d110_19 : decode (cod 110) 19 = .ok (.iaload, 1) := by decide +kernel
theorem s110_19 {n : Nat} {I : Nat → Nat → Int32} {R : Nat → Nat → Option Nat} {st : List Value} {l0 l1 l2 : Option Value} {j : Int32} {a : Nat} : EE 110 19 [l0, l1, l2] (.int j :: .ref a :: st) (n, I, R) = (ardI 5 n I a j).bind (fun z => EE 110 20 [l0, l1, l2] (.int z :: st) (n, I, R)) := e_iald d110_19
theorem d110_20 : decode (cod 110) 20 = .ok (.invokestatic 63, 3) := by decide +kernel
theorem s110_20 {M : Mm} {l0 l1 l2 : Option Value} {b0 : Nat} {b1 : Int32} {st : List Value} (hl : st.length ≤ 4) : EE 110 20 [l0, l1, l2] (.int b1 :: .ref b0 :: st) M = (FF 111 [.ref b0, .int b1] M).bind (fun z => EE 110 23 [l0, l1, l2] (psh z.1 st) z.2) := e_cals (av := [.ref b0, .int b1]) d110_20 c3_63 (Or.inl rfl) rfl rfl r110_111 rfl hl
theorem d110_23 : decode (cod 110) 23 = .ok (.istore_n 2, 1) := by decide +kernel
theorem s110_23 {M : Mm} {st : List Value} {l0 l1 l2 : Option Value} {x : Int32} : EE 110 23 [l0, l1, l2] (.int x :: st) M = EE 110 24 [l0, cln l1, some (.int x)] st M := e_st1 d110_23 rfl rfl rfl rfl rfl rfl rfl (Nat.le_of_ble_eq_true rfl) rfl
theorem d110_24 : decode (cod 110) 24 = .ok (.aload_n 0, 1) := by decide +kernel
theorem s110_24 {M : Mm} {st : List Value} {l1 l2 : Option Value} {x : Nat} : EE 110 24 [some (.ref x), l1, l2] st M = EE 110 25 [some (.ref x), l1, l2] (.ref x :: st) M := e_ld d110_24 rfl rfl rfl rfl rfl rfl
theorem d110_25 : decode (cod 110) 25 = .ok (.getfield 7, 3) := by decide +kernel
theorem s110_25 {n : Nat} {I : Nat → Nat → Int32} {R : Nat → Nat → Option Nat} {st : List Value} {l0 l1 l2 : Option Value} {a : Nat} : EE 110 25 [l0, l1, l2] (.ref a :: st) (n, I, R) = (gfI n I R 3 0 a).bind (fun z => EE 110 28 [l0, l1, l2] (z :: st) (n, I, R)) := e_getf d110_25 f3_7 rfl rfl
theorem d110_28 : decode (cod 110) 28 = .ok (.bipush 38, 2) := by decide +kernel
theorem s110_28 {M : Mm} {st : List Value} {l0 l1 l2 : Option Value} : EE 110 28 [l0, l1, l2] st M = EE 110 30 [l0, l1, l2] (.int (nI 38) :: st) M := e_bip d110_28 k_bip_38
theorem d110_30 : decode (cod 110) 30 = .ok (.iload_n 1, 1) := by decide +kernel
theorem s110_30 {M : Mm} {st : List Value} {l0 l2 : Option Value} {x : Int32} : EE 110 30 [l0, some (.int x), l2] st M = EE 110 31 [l0, some (.int x), l2] (.int x :: st) M := e_ld d110_30 rfl rfl rfl rfl rfl rfl
theorem d110_31 : decode (cod 110) 31 = .ok (.iadd, 1) := by decide +kernel
theorem s110_31 {M : Mm} {st : List Value} {l0 l1 l2 : Option Value} {x y : Int32} : EE 110 31 [l0, l1, l2] (.int y :: .int x :: st) M = EE 110 32 [l0, l1, l2] (.int (x + y) :: st) M := e_II d110_31 rfl rfl rfl rfl rfl rfl
theorem d110_32 : decode (cod 110) 32 = .ok (.iaload, 1) := by decide +kernel
theorem s110_32 {n : Nat} {I : Nat → Nat → Int32} {R : Nat → Nat → Option Nat} {st : List Value} {l0 l1 l2 : Option Value} {j : Int32} {a : Nat} : EE 110 32 [l0, l1, l2] (.int j :: .ref a :: st) (n, I, R) = (ardI 5 n I a j).bind (fun z => EE 110 33 [l0, l1, l2] (.int z :: st) (n, I, R)) := e_iald d110_32
theorem d110_33 : decode (cod 110) 33 = .ok (.iconst 1, 1) := by decide +kernel
theorem s110_33 {M : Mm} {st : List Value} {l0 l1 l2 : Option Value} : EE 110 33 [l0, l1, l2] st M = EE 110 34 [l0, l1, l2] (.int (nI 1) :: st) M := e_con d110_33 k_con_1
theorem d110_34 : decode (cod 110) 34 = .ok (.if_icmp .ne 34, 3) := by decide +kernel
theorem s110_34 {M : Mm} {st : List Value} {l0 l1 l2 : Option Value} {x y : Int32} : EE 110 34 [l0, l1, l2] (.int y :: .int x :: st) M = if x = y then EE 110 37 [l0, l1, l2] st M else EE 110 68 [l0, l1, l2] st M := e_cne d110_34 (by decide)
theorem d110_37 : decode (cod 110) 37 = .ok (.aload_n 0, 1) := by decide +kernel
theorem s110_37 {M : Mm} {st : List Value} {l1 l2 : Option Value} {x : Nat} : EE 110 37 [some (.ref x), l1, l2] st M = EE 110 38 [some (.ref x), l1, l2] (.ref x :: st) M := e_ld d110_37 rfl rfl rfl rfl rfl rfl
theorem d110_38 : decode (cod 110) 38 = .ok (.getfield 7, 3) := by decide +kernel
theorem s110_38 {n : Nat} {I : Nat → Nat → Int32} {R : Nat → Nat → Option Nat} {st : List Value} {l0 l1 l2 : Option Value} {a : Nat} : EE 110 38 [l0, l1, l2] (.ref a :: st) (n, I, R) = (gfI n I R 3 0 a).bind (fun z => EE 110 41 [l0, l1, l2] (z :: st) (n, I, R)) := e_getf d110_38 f3_7 rfl rfl
theorem d110_41 : decode (cod 110) 41 = .ok (.aload_n 0, 1) := by decide +kernel
theorem s110_41 {M : Mm} {st : List Value} {l1 l2 : Option Value} {x : Nat} : EE 110 41 [some (.ref x), l1, l2] st M = EE 110 42 [some (.ref x), l1, l2] (.ref x :: st) M := e_ld d110_41 rfl rfl rfl rfl rfl rfl
theorem d110_42 : decode (cod 110) 42 = .ok (.iload_n 1, 1) := by decide +kernel
theorem s110_42 {M : Mm} {st : List Value} {l0 l2 : Option Value} {x : Int32} : EE 110 42 [l0, some (.int x), l2] st M = EE 110 43 [l0, some (.int x), l2] (.int x :: st) M := e_ld d110_42 rfl rfl rfl rfl rfl rfl
theorem d110_43 : decode (cod 110) 43 = .ok (.invokevirtual 124, 3) := by decide +kernel
theorem s110_43 {l0 l1 l2 : Option Value} {a : Nat} {M : Mm} {b0 : Int32} {st : List Value} (hl : st.length ≤ 4) (ho : isO "HandoverDeskModel" M.1 a = true) : EE 110 43 [l0, l1, l2] (.int b0 :: .ref a :: st) M = (FF 112 (.ref a :: [.int b0]) M).bind (fun z => EE 110 46 [l0, l1, l2] (psh z.1 st) z.2) := e_calv (av := [.int b0]) d110_43 c3_124 rfl rfl rfl r110_112 rfl hl ho
theorem d110_46 : decode (cod 110) 46 = .ok (.iload_n 1, 1) := by decide +kernel
theorem s110_46 {M : Mm} {st : List Value} {l0 l2 : Option Value} {x : Int32} : EE 110 46 [l0, some (.int x), l2] st M = EE 110 47 [l0, some (.int x), l2] (.int x :: st) M := e_ld d110_46 rfl rfl rfl rfl rfl rfl
theorem d110_47 : decode (cod 110) 47 = .ok (.invokestatic 47, 3) := by decide +kernel
theorem s110_47 {M : Mm} {l0 l1 l2 : Option Value} {b0 : Int32} {b1 : Int32} {st : List Value} (hl : st.length ≤ 4) : EE 110 47 [l0, l1, l2] (.int b1 :: .int b0 :: st) M = (FF 107 [.int b0, .int b1] M).bind (fun z => EE 110 50 [l0, l1, l2] (psh z.1 st) z.2) := e_cals (av := [.int b0, .int b1]) d110_47 c3_47 (Or.inl rfl) rfl rfl r110_107 rfl hl
theorem d110_50 : decode (cod 110) 50 = .ok (.iaload, 1) := by decide +kernel
theorem s110_50 {n : Nat} {I : Nat → Nat → Int32} {R : Nat → Nat → Option Nat} {st : List Value} {l0 l1 l2 : Option Value} {j : Int32} {a : Nat} : EE 110 50 [l0, l1, l2] (.int j :: .ref a :: st) (n, I, R) = (ardI 5 n I a j).bind (fun z => EE 110 51 [l0, l1, l2] (.int z :: st) (n, I, R)) := e_iald d110_50
theorem d110_51 : decode (cod 110) 51 = .ok (.aload_n 0, 1) := by decide +kernel
theorem s110_51 {M : Mm} {st : List Value} {l1 l2 : Option Value} {x : Nat} : EE 110 51 [some (.ref x), l1, l2] st M = EE 110 52 [some (.ref x), l1, l2] (.ref x :: st) M := e_ld d110_51 rfl rfl rfl rfl rfl rfl
theorem d110_52 : decode (cod 110) 52 = .ok (.getfield 7, 3) := by decide +kernel
theorem s110_52 {n : Nat} {I : Nat → Nat → Int32} {R : Nat → Nat → Option Nat} {st : List Value} {l0 l1 l2 : Option Value} {a : Nat} : EE 110 52 [l0, l1, l2] (.ref a :: st) (n, I, R) = (gfI n I R 3 0 a).bind (fun z => EE 110 55 [l0, l1, l2] (z :: st) (n, I, R)) := e_getf d110_52 f3_7 rfl rfl
theorem d110_55 : decode (cod 110) 55 = .ok (.iload_n 2, 1) := by decide +kernel
theorem s110_55 {M : Mm} {st : List Value} {l0 l1 : Option Value} {x : Int32} : EE 110 55 [l0, l1, some (.int x)] st M = EE 110 56 [l0, l1, some (.int x)] (.int x :: st) M := e_ld d110_55 rfl rfl rfl rfl rfl rfl
theorem d110_56 : decode (cod 110) 56 = .ok (.iload_n 1, 1) := by decide +kernel
theorem s110_56 {M : Mm} {st : List Value} {l0 l2 : Option Value} {x : Int32} : EE 110 56 [l0, some (.int x), l2] st M = EE 110 57 [l0, some (.int x), l2] (.int x :: st) M := e_ld d110_56 rfl rfl rfl rfl rfl rfl
theorem d110_57 : decode (cod 110) 57 = .ok (.invokestatic 47, 3) := by decide +kernel
theorem s110_57 {M : Mm} {l0 l1 l2 : Option Value} {b0 : Int32} {b1 : Int32} {st : List Value} (hl : st.length ≤ 4) : EE 110 57 [l0, l1, l2] (.int b1 :: .int b0 :: st) M = (FF 107 [.int b0, .int b1] M).bind (fun z => EE 110 60 [l0, l1, l2] (psh z.1 st) z.2) := e_cals (av := [.int b0, .int b1]) d110_57 c3_47 (Or.inl rfl) rfl rfl r110_107 rfl hl
theorem d110_60 : decode (cod 110) 60 = .ok (.iaload, 1) := by decide +kernel
theorem s110_60 {n : Nat} {I : Nat → Nat → Int32} {R : Nat → Nat → Option Nat} {st : List Value} {l0 l1 l2 : Option Value} {j : Int32} {a : Nat} : EE 110 60 [l0, l1, l2] (.int j :: .ref a :: st) (n, I, R) = (ardI 5 n I a j).bind (fun z => EE 110 61 [l0, l1, l2] (.int z :: st) (n, I, R)) := e_iald d110_60
theorem d110_61 : decode (cod 110) 61 = .ok (.if_icmp .le 7, 3) := by decide +kernel
theorem s110_61 {M : Mm} {st : List Value} {l0 l1 l2 : Option Value} {x y : Int32} : EE 110 61 [l0, l1, l2] (.int y :: .int x :: st) M = if x ≤ y then EE 110 68 [l0, l1, l2] st M else EE 110 64 [l0, l1, l2] st M := e_cle d110_61 (by decide)
theorem d110_64 : decode (cod 110) 64 = .ok (.iconst 0, 1) := by decide +kernel
theorem s110_64 {M : Mm} {st : List Value} {l0 l1 l2 : Option Value} : EE 110 64 [l0, l1, l2] st M = EE 110 65 [l0, l1, l2] (.int (nI 0) :: st) M := e_con d110_64 k_con_0
theorem d110_65 : decode (cod 110) 65 = .ok (.goto 5, 3) := by decide +kernel
theorem s110_65 {M : Mm} {st : List Value} {l0 l1 l2 : Option Value} : EE 110 65 [l0, l1, l2] st M = EE 110 70 [l0, l1, l2] st M := e_goto d110_65 (by decide)
theorem d110_68 : decode (cod 110) 68 = .ok (.bipush (-5), 2) := by decide +kernel
theorem s110_68 {M : Mm} {st : List Value} {l0 l1 l2 : Option Value} : EE 110 68 [l0, l1, l2] st M = EE 110 70 [l0, l1, l2] (.int ((-5)) :: st) M := e_bip d110_68 k_bip_m5
theorem d110_70 : decode (cod 110) 70 = .ok (.ireturn, 1) := by decide +kernel
theorem s110_70 {M : Mm} {l0 l1 l2 : Option Value} {v : Int32} : EE 110 70 [l0, l1, l2] [.int v] M = some (some (.int v), M) := e_iret d110_70 rfl rfl
theorem FE110 {a : Nat} {b0 : Int32} {M : Mm} : FF 110 [.ref a, .int b0] M = EE 110 0 [some (.ref a), some (.int b0), none] [] M := FF_eq 110 _ _ (Nat.le_of_ble_eq_true rfl)
theorem d111_0 : decode (cod 111) 0 = .ok (.aload_n 0, 1) := by decide +kernel
theorem s111_0 {M : Mm} {st : List Value} {l1 : Option Value} {x : Nat} : EE 111 0 [some (.ref x), l1] st M = EE 111 1 [some (.ref x), l1] (.ref x :: st) M := e_ld d111_0 rfl rfl rfl rfl rfl rfl
theorem d111_1 : decode (cod 111) 1 = .ok (.bipush 14, 2) := by decide +kernel
theorem s111_1 {M : Mm} {st : List Value} {l0 l1 : Option Value} : EE 111 1 [l0, l1] st M = EE 111 3 [l0, l1] (.int (nI 14) :: st) M := e_bip d111_1 k_bip_14
theorem d111_3 : decode (cod 111) 3 = .ok (.iload_n 1, 1) := by decide +kernel
theorem s111_3 {M : Mm} {st : List Value} {l0 : Option Value} {x : Int32} : EE 111 3 [l0, some (.int x)] st M = EE 111 4 [l0, some (.int x)] (.int x :: st) M := e_ld d111_3 rfl rfl rfl rfl rfl rfl
theorem d111_4 : decode (cod 111) 4 = .ok (.bipush 12, 2) := by decide +kernel
theorem s111_4 {M : Mm} {st : List Value} {l0 l1 : Option Value} : EE 111 4 [l0, l1] st M = EE 111 6 [l0, l1] (.int (nI 12) :: st) M := e_bip d111_4 k_bip_12
theorem d111_6 : decode (cod 111) 6 = .ok (.irem, 1) := by decide +kernel
theorem s111_6 {M : Mm} {st : List Value} {l0 l1 : Option Value} {x y : Nat} (h1 : x < 2 ^ 31) (h2 : 0 < y) (h3 : y < 2 ^ 31) : EE 111 6 [l0, l1] (.int (nI y) :: .int (nI x) :: st) M = EE 111 7 [l0, l1] (.int (nI (x % y)) :: st) M := e_remN d111_6 h1 h2 h3
theorem d111_7 : decode (cod 111) 7 = .ok (.iadd, 1) := by decide +kernel
theorem s111_7 {M : Mm} {st : List Value} {l0 l1 : Option Value} {x y : Int32} : EE 111 7 [l0, l1] (.int y :: .int x :: st) M = EE 111 8 [l0, l1] (.int (x + y) :: st) M := e_II d111_7 rfl rfl rfl rfl rfl rfl
theorem d111_8 : decode (cod 111) 8 = .ok (.iaload, 1) := by decide +kernel
theorem s111_8 {n : Nat} {I : Nat → Nat → Int32} {R : Nat → Nat → Option Nat} {st : List Value} {l0 l1 : Option Value} {j : Int32} {a : Nat} : EE 111 8 [l0, l1] (.int j :: .ref a :: st) (n, I, R) = (ardI 5 n I a j).bind (fun z => EE 111 9 [l0, l1] (.int z :: st) (n, I, R)) := e_iald d111_8
theorem d111_9 : decode (cod 111) 9 = .ok (.ireturn, 1) := by decide +kernel
theorem s111_9 {M : Mm} {l0 l1 : Option Value} {v : Int32} : EE 111 9 [l0, l1] [.int v] M = some (some (.int v), M) := e_iret d111_9 rfl rfl
theorem FE111 {b0 : Nat} {b1 : Int32} {M : Mm} : FF 111 [.ref b0, .int b1] M = EE 111 0 [some (.ref b0), some (.int b1)] [] M := FF_eq 111 _ _ (Nat.le_of_ble_eq_true rfl)
theorem d112_0 : decode (cod 112) 0 = .ok (.iconst 0, 1) := by decide +kernel
theorem s112_0 {M : Mm} {st : List Value} {l0 l1 l2 l3 : Option Value} : EE 112 0 [l0, l1, l2, l3] st M = EE 112 1 [l0, l1, l2, l3] (.int (nI 0) :: st) M := e_con d112_0 k_con_0
theorem d112_1 : decode (cod 112) 1 = .ok (.istore_n 2, 1) := by decide +kernel
theorem s112_1 {M : Mm} {st : List Value} {l0 l1 l2 l3 : Option Value} {x : Int32} : EE 112 1 [l0, l1, l2, l3] (.int x :: st) M = EE 112 2 [l0, cln l1, some (.int x), l3] st M := e_st1 d112_1 rfl rfl rfl rfl rfl rfl rfl (Nat.le_of_ble_eq_true rfl) rfl
theorem d112_2 : decode (cod 112) 2 = .ok (.iconst 1, 1) := by decide +kernel
theorem s112_2 {M : Mm} {st : List Value} {l0 l1 l2 l3 : Option Value} : EE 112 2 [l0, l1, l2, l3] st M = EE 112 3 [l0, l1, l2, l3] (.int (nI 1) :: st) M := e_con d112_2 k_con_1
theorem d112_3 : decode (cod 112) 3 = .ok (.istore_n 3, 1) := by decide +kernel
theorem s112_3 {M : Mm} {st : List Value} {l0 l1 l2 l3 : Option Value} {x : Int32} : EE 112 3 [l0, l1, l2, l3] (.int x :: st) M = EE 112 4 [l0, l1, cln l2, some (.int x)] st M := e_st1 d112_3 rfl rfl rfl rfl rfl rfl rfl (Nat.le_of_ble_eq_true rfl) rfl
theorem d112_4 : decode (cod 112) 4 = .ok (.iload_n 3, 1) := by decide +kernel
theorem s112_4 {M : Mm} {st : List Value} {l0 l1 l2 : Option Value} {x : Int32} : EE 112 4 [l0, l1, l2, some (.int x)] st M = EE 112 5 [l0, l1, l2, some (.int x)] (.int x :: st) M := e_ld d112_4 rfl rfl rfl rfl rfl rfl
theorem d112_5 : decode (cod 112) 5 = .ok (.bipush 6, 2) := by decide +kernel
theorem s112_5 {M : Mm} {st : List Value} {l0 l1 l2 l3 : Option Value} : EE 112 5 [l0, l1, l2, l3] st M = EE 112 7 [l0, l1, l2, l3] (.int (nI 6) :: st) M := e_bip d112_5 k_bip_6
theorem d112_7 : decode (cod 112) 7 = .ok (.if_icmp .ge 38, 3) := by decide +kernel
theorem s112_7 {M : Mm} {st : List Value} {l0 l1 l2 l3 : Option Value} {x y : Int32} : EE 112 7 [l0, l1, l2, l3] (.int y :: .int x :: st) M = if y ≤ x then EE 112 45 [l0, l1, l2, l3] st M else EE 112 10 [l0, l1, l2, l3] st M := e_cge d112_7 (by decide)
theorem d112_10 : decode (cod 112) 10 = .ok (.aload_n 0, 1) := by decide +kernel
theorem s112_10 {M : Mm} {st : List Value} {l1 l2 l3 : Option Value} {x : Nat} : EE 112 10 [some (.ref x), l1, l2, l3] st M = EE 112 11 [some (.ref x), l1, l2, l3] (.ref x :: st) M := e_ld d112_10 rfl rfl rfl rfl rfl rfl
theorem d112_11 : decode (cod 112) 11 = .ok (.getfield 7, 3) := by decide +kernel
theorem s112_11 {n : Nat} {I : Nat → Nat → Int32} {R : Nat → Nat → Option Nat} {st : List Value} {l0 l1 l2 l3 : Option Value} {a : Nat} : EE 112 11 [l0, l1, l2, l3] (.ref a :: st) (n, I, R) = (gfI n I R 3 0 a).bind (fun z => EE 112 14 [l0, l1, l2, l3] (z :: st) (n, I, R)) := e_getf d112_11 f3_7 rfl rfl
theorem d112_14 : decode (cod 112) 14 = .ok (.iload_n 3, 1) := by decide +kernel
theorem s112_14 {M : Mm} {st : List Value} {l0 l1 l2 : Option Value} {x : Int32} : EE 112 14 [l0, l1, l2, some (.int x)] st M = EE 112 15 [l0, l1, l2, some (.int x)] (.int x :: st) M := e_ld d112_14 rfl rfl rfl rfl rfl rfl
theorem d112_15 : decode (cod 112) 15 = .ok (.iload_n 1, 1) := by decide +kernel
theorem s112_15 {M : Mm} {st : List Value} {l0 l2 l3 : Option Value} {x : Int32} : EE 112 15 [l0, some (.int x), l2, l3] st M = EE 112 16 [l0, some (.int x), l2, l3] (.int x :: st) M := e_ld d112_15 rfl rfl rfl rfl rfl rfl
theorem d112_16 : decode (cod 112) 16 = .ok (.invokestatic 47, 3) := by decide +kernel
theorem s112_16 {M : Mm} {l0 l1 l2 l3 : Option Value} {b0 : Int32} {b1 : Int32} {st : List Value} (hl : st.length ≤ 4) : EE 112 16 [l0, l1, l2, l3] (.int b1 :: .int b0 :: st) M = (FF 107 [.int b0, .int b1] M).bind (fun z => EE 112 19 [l0, l1, l2, l3] (psh z.1 st) z.2) := e_cals (av := [.int b0, .int b1]) d112_16 c3_47 (Or.inl rfl) rfl rfl r112_107 rfl hl
theorem d112_19 : decode (cod 112) 19 = .ok (.iaload, 1) := by decide +kernel
theorem s112_19 {n : Nat} {I : Nat → Nat → Int32} {R : Nat → Nat → Option Nat} {st : List Value} {l0 l1 l2 l3 : Option Value} {j : Int32} {a : Nat} : EE 112 19 [l0, l1, l2, l3] (.int j :: .ref a :: st) (n, I, R) = (ardI 5 n I a j).bind (fun z => EE 112 20 [l0, l1, l2, l3] (.int z :: st) (n, I, R)) := e_iald d112_19
theorem d112_20 : decode (cod 112) 20 = .ok (.aload_n 0, 1) := by decide +kernel
theorem s112_20 {M : Mm} {st : List Value} {l1 l2 l3 : Option Value} {x : Nat} : EE 112 20 [some (.ref x), l1, l2, l3] st M = EE 112 21 [some (.ref x), l1, l2, l3] (.ref x :: st) M := e_ld d112_20 rfl rfl rfl rfl rfl rfl
theorem d112_21 : decode (cod 112) 21 = .ok (.getfield 7, 3) := by decide +kernel
theorem s112_21 {n : Nat} {I : Nat → Nat → Int32} {R : Nat → Nat → Option Nat} {st : List Value} {l0 l1 l2 l3 : Option Value} {a : Nat} : EE 112 21 [l0, l1, l2, l3] (.ref a :: st) (n, I, R) = (gfI n I R 3 0 a).bind (fun z => EE 112 24 [l0, l1, l2, l3] (z :: st) (n, I, R)) := e_getf d112_21 f3_7 rfl rfl
theorem d112_24 : decode (cod 112) 24 = .ok (.iload_n 2, 1) := by decide +kernel
theorem s112_24 {M : Mm} {st : List Value} {l0 l1 l3 : Option Value} {x : Int32} : EE 112 24 [l0, l1, some (.int x), l3] st M = EE 112 25 [l0, l1, some (.int x), l3] (.int x :: st) M := e_ld d112_24 rfl rfl rfl rfl rfl rfl
theorem d112_25 : decode (cod 112) 25 = .ok (.iload_n 1, 1) := by decide +kernel
theorem s112_25 {M : Mm} {st : List Value} {l0 l2 l3 : Option Value} {x : Int32} : EE 112 25 [l0, some (.int x), l2, l3] st M = EE 112 26 [l0, some (.int x), l2, l3] (.int x :: st) M := e_ld d112_25 rfl rfl rfl rfl rfl rfl
theorem d112_26 : decode (cod 112) 26 = .ok (.invokestatic 47, 3) := by decide +kernel
theorem s112_26 {M : Mm} {l0 l1 l2 l3 : Option Value} {b0 : Int32} {b1 : Int32} {st : List Value} (hl : st.length ≤ 4) : EE 112 26 [l0, l1, l2, l3] (.int b1 :: .int b0 :: st) M = (FF 107 [.int b0, .int b1] M).bind (fun z => EE 112 29 [l0, l1, l2, l3] (psh z.1 st) z.2) := e_cals (av := [.int b0, .int b1]) d112_26 c3_47 (Or.inl rfl) rfl rfl r112_107 rfl hl
theorem d112_29 : decode (cod 112) 29 = .ok (.iaload, 1) := by decide +kernel
theorem s112_29 {n : Nat} {I : Nat → Nat → Int32} {R : Nat → Nat → Option Nat} {st : List Value} {l0 l1 l2 l3 : Option Value} {j : Int32} {a : Nat} : EE 112 29 [l0, l1, l2, l3] (.int j :: .ref a :: st) (n, I, R) = (ardI 5 n I a j).bind (fun z => EE 112 30 [l0, l1, l2, l3] (.int z :: st) (n, I, R)) := e_iald d112_29
theorem d112_30 : decode (cod 112) 30 = .ok (.if_icmp .le 7, 3) := by decide +kernel
theorem s112_30 {M : Mm} {st : List Value} {l0 l1 l2 l3 : Option Value} {x y : Int32} : EE 112 30 [l0, l1, l2, l3] (.int y :: .int x :: st) M = if x ≤ y then EE 112 37 [l0, l1, l2, l3] st M else EE 112 33 [l0, l1, l2, l3] st M := e_cle d112_30 (by decide)
theorem d112_33 : decode (cod 112) 33 = .ok (.iload_n 3, 1) := by decide +kernel
theorem s112_33 {M : Mm} {st : List Value} {l0 l1 l2 : Option Value} {x : Int32} : EE 112 33 [l0, l1, l2, some (.int x)] st M = EE 112 34 [l0, l1, l2, some (.int x)] (.int x :: st) M := e_ld d112_33 rfl rfl rfl rfl rfl rfl
theorem d112_34 : decode (cod 112) 34 = .ok (.goto 4, 3) := by decide +kernel
theorem s112_34 {M : Mm} {st : List Value} {l0 l1 l2 l3 : Option Value} : EE 112 34 [l0, l1, l2, l3] st M = EE 112 38 [l0, l1, l2, l3] st M := e_goto d112_34 (by decide)
theorem d112_37 : decode (cod 112) 37 = .ok (.iload_n 2, 1) := by decide +kernel
theorem s112_37 {M : Mm} {st : List Value} {l0 l1 l3 : Option Value} {x : Int32} : EE 112 37 [l0, l1, some (.int x), l3] st M = EE 112 38 [l0, l1, some (.int x), l3] (.int x :: st) M := e_ld d112_37 rfl rfl rfl rfl rfl rfl
theorem d112_38 : decode (cod 112) 38 = .ok (.istore_n 2, 1) := by decide +kernel
theorem s112_38 {M : Mm} {st : List Value} {l0 l1 l2 l3 : Option Value} {x : Int32} : EE 112 38 [l0, l1, l2, l3] (.int x :: st) M = EE 112 39 [l0, cln l1, some (.int x), l3] st M := e_st1 d112_38 rfl rfl rfl rfl rfl rfl rfl (Nat.le_of_ble_eq_true rfl) rfl
theorem d112_39 : decode (cod 112) 39 = .ok (.iinc 3 1, 3) := by decide +kernel
theorem s112_39 {M : Mm} {st : List Value} {l0 l1 l2 : Option Value} {x : Int32} : EE 112 39 [l0, l1, l2, some (.int x)] st M = EE 112 42 [l0, l1, cln l2, some (.int (x + nI 1))] st M := e_iinc d112_39 rfl (congrArg (fun z => x + z) k_inc_1) rfl
theorem d112_42 : decode (cod 112) 42 = .ok (.goto (-38), 3) := by decide +kernel
theorem s112_42 {M : Mm} {st : List Value} {l0 l1 l2 l3 : Option Value} : EE 112 42 [l0, l1, l2, l3] st M = EE 112 4 [l0, l1, l2, l3] st M := e_goto d112_42 (by decide)
theorem d112_45 : decode (cod 112) 45 = .ok (.iload_n 2, 1) := by decide +kernel
theorem s112_45 {M : Mm} {st : List Value} {l0 l1 l3 : Option Value} {x : Int32} : EE 112 45 [l0, l1, some (.int x), l3] st M = EE 112 46 [l0, l1, some (.int x), l3] (.int x :: st) M := e_ld d112_45 rfl rfl rfl rfl rfl rfl
theorem d112_46 : decode (cod 112) 46 = .ok (.ireturn, 1) := by decide +kernel
theorem s112_46 {M : Mm} {l0 l1 l2 l3 : Option Value} {v : Int32} : EE 112 46 [l0, l1, l2, l3] [.int v] M = some (some (.int v), M) := e_iret d112_46 rfl rfl
theorem FE112 {a : Nat} {b0 : Int32} {M : Mm} : FF 112 [.ref a, .int b0] M = EE 112 0 [some (.ref a), some (.int b0), none, none] [] M := FF_eq 112 _ _ (Nat.le_of_ble_eq_true rfl)
theorem d113_0 : decode (cod 113) 0 = .ok (.aload_n 0, 1) := by decide +kernel
theorem s113_0 {M : Mm} {st : List Value} {l1 l2 : Option Value} {x : Nat} : EE 113 0 [some (.ref x), l1, l2] st M = EE 113 1 [some (.ref x), l1, l2] (.ref x :: st) M := e_ld d113_0 rfl rfl rfl rfl rfl rfl
theorem d113_1 : decode (cod 113) 1 = .ok (.getfield 7, 3) := by decide +kernel
theorem s113_1 {n : Nat} {I : Nat → Nat → Int32} {R : Nat → Nat → Option Nat} {st : List Value} {l0 l1 l2 : Option Value} {a : Nat} : EE 113 1 [l0, l1, l2] (.ref a :: st) (n, I, R) = (gfI n I R 3 0 a).bind (fun z => EE 113 4 [l0, l1, l2] (z :: st) (n, I, R)) := e_getf d113_1 f3_7 rfl rfl
theorem d113_4 : decode (cod 113) 4 = .ok (.aload_n 0, 1) := by decide +kernel
theorem s113_4 {M : Mm} {st : List Value} {l1 l2 : Option Value} {x : Nat} : EE 113 4 [some (.ref x), l1, l2] st M = EE 113 5 [some (.ref x), l1, l2] (.ref x :: st) M := e_ld d113_4 rfl rfl rfl rfl rfl rfl
theorem d113_5 : decode (cod 113) 5 = .ok (.getfield 7, 3) := by decide +kernel
theorem s113_5 {n : Nat} {I : Nat → Nat → Int32} {R : Nat → Nat → Option Nat} {st : List Value} {l0 l1 l2 : Option Value} {a : Nat} : EE 113 5 [l0, l1, l2] (.ref a :: st) (n, I, R) = (gfI n I R 3 0 a).bind (fun z => EE 113 8 [l0, l1, l2] (z :: st) (n, I, R)) := e_getf d113_5 f3_7 rfl rfl
theorem d113_8 : decode (cod 113) 8 = .ok (.iconst 0, 1) := by decide +kernel
theorem s113_8 {M : Mm} {st : List Value} {l0 l1 l2 : Option Value} : EE 113 8 [l0, l1, l2] st M = EE 113 9 [l0, l1, l2] (.int (nI 0) :: st) M := e_con d113_8 k_con_0
theorem d113_9 : decode (cod 113) 9 = .ok (.iaload, 1) := by decide +kernel
theorem s113_9 {n : Nat} {I : Nat → Nat → Int32} {R : Nat → Nat → Option Nat} {st : List Value} {l0 l1 l2 : Option Value} {j : Int32} {a : Nat} : EE 113 9 [l0, l1, l2] (.int j :: .ref a :: st) (n, I, R) = (ardI 5 n I a j).bind (fun z => EE 113 10 [l0, l1, l2] (.int z :: st) (n, I, R)) := e_iald d113_9
theorem d113_10 : decode (cod 113) 10 = .ok (.invokestatic 63, 3) := by decide +kernel
theorem s113_10 {M : Mm} {l0 l1 l2 : Option Value} {b0 : Nat} {b1 : Int32} {st : List Value} (hl : st.length ≤ 4) : EE 113 10 [l0, l1, l2] (.int b1 :: .ref b0 :: st) M = (FF 111 [.ref b0, .int b1] M).bind (fun z => EE 113 13 [l0, l1, l2] (psh z.1 st) z.2) := e_cals (av := [.ref b0, .int b1]) d113_10 c3_63 (Or.inl rfl) rfl rfl r113_111 rfl hl
theorem d113_13 : decode (cod 113) 13 = .ok (.iload_n 1, 1) := by decide +kernel
theorem s113_13 {M : Mm} {st : List Value} {l0 l2 : Option Value} {x : Int32} : EE 113 13 [l0, some (.int x), l2] st M = EE 113 14 [l0, some (.int x), l2] (.int x :: st) M := e_ld d113_13 rfl rfl rfl rfl rfl rfl
theorem d113_14 : decode (cod 113) 14 = .ok (.invokestatic 47, 3) := by decide +kernel
theorem s113_14 {M : Mm} {l0 l1 l2 : Option Value} {b0 : Int32} {b1 : Int32} {st : List Value} (hl : st.length ≤ 4) : EE 113 14 [l0, l1, l2] (.int b1 :: .int b0 :: st) M = (FF 107 [.int b0, .int b1] M).bind (fun z => EE 113 17 [l0, l1, l2] (psh z.1 st) z.2) := e_cals (av := [.int b0, .int b1]) d113_14 c3_47 (Or.inl rfl) rfl rfl r113_107 rfl hl
theorem d113_17 : decode (cod 113) 17 = .ok (.istore_n 2, 1) := by decide +kernel
theorem s113_17 {M : Mm} {st : List Value} {l0 l1 l2 : Option Value} {x : Int32} : EE 113 17 [l0, l1, l2] (.int x :: st) M = EE 113 18 [l0, cln l1, some (.int x)] st M := e_st1 d113_17 rfl rfl rfl rfl rfl rfl rfl (Nat.le_of_ble_eq_true rfl) rfl
theorem d113_18 : decode (cod 113) 18 = .ok (.aload_n 0, 1) := by decide +kernel
theorem s113_18 {M : Mm} {st : List Value} {l1 l2 : Option Value} {x : Nat} : EE 113 18 [some (.ref x), l1, l2] st M = EE 113 19 [some (.ref x), l1, l2] (.ref x :: st) M := e_ld d113_18 rfl rfl rfl rfl rfl rfl
theorem d113_19 : decode (cod 113) 19 = .ok (.getfield 7, 3) := by decide +kernel
theorem s113_19 {n : Nat} {I : Nat → Nat → Int32} {R : Nat → Nat → Option Nat} {st : List Value} {l0 l1 l2 : Option Value} {a : Nat} : EE 113 19 [l0, l1, l2] (.ref a :: st) (n, I, R) = (gfI n I R 3 0 a).bind (fun z => EE 113 22 [l0, l1, l2] (z :: st) (n, I, R)) := e_getf d113_19 f3_7 rfl rfl
theorem d113_22 : decode (cod 113) 22 = .ok (.iload_n 2, 1) := by decide +kernel
theorem s113_22 {M : Mm} {st : List Value} {l0 l1 : Option Value} {x : Int32} : EE 113 22 [l0, l1, some (.int x)] st M = EE 113 23 [l0, l1, some (.int x)] (.int x :: st) M := e_ld d113_22 rfl rfl rfl rfl rfl rfl
theorem d113_23 : decode (cod 113) 23 = .ok (.aload_n 0, 1) := by decide +kernel
theorem s113_23 {M : Mm} {st : List Value} {l1 l2 : Option Value} {x : Nat} : EE 113 23 [some (.ref x), l1, l2] st M = EE 113 24 [some (.ref x), l1, l2] (.ref x :: st) M := e_ld d113_23 rfl rfl rfl rfl rfl rfl
theorem d113_24 : decode (cod 113) 24 = .ok (.getfield 7, 3) := by decide +kernel
theorem s113_24 {n : Nat} {I : Nat → Nat → Int32} {R : Nat → Nat → Option Nat} {st : List Value} {l0 l1 l2 : Option Value} {a : Nat} : EE 113 24 [l0, l1, l2] (.ref a :: st) (n, I, R) = (gfI n I R 3 0 a).bind (fun z => EE 113 27 [l0, l1, l2] (z :: st) (n, I, R)) := e_getf d113_24 f3_7 rfl rfl
theorem d113_27 : decode (cod 113) 27 = .ok (.iload_n 2, 1) := by decide +kernel
theorem s113_27 {M : Mm} {st : List Value} {l0 l1 : Option Value} {x : Int32} : EE 113 27 [l0, l1, some (.int x)] st M = EE 113 28 [l0, l1, some (.int x)] (.int x :: st) M := e_ld d113_27 rfl rfl rfl rfl rfl rfl
theorem d113_28 : decode (cod 113) 28 = .ok (.iaload, 1) := by decide +kernel
theorem s113_28 {n : Nat} {I : Nat → Nat → Int32} {R : Nat → Nat → Option Nat} {st : List Value} {l0 l1 l2 : Option Value} {j : Int32} {a : Nat} : EE 113 28 [l0, l1, l2] (.int j :: .ref a :: st) (n, I, R) = (ardI 5 n I a j).bind (fun z => EE 113 29 [l0, l1, l2] (.int z :: st) (n, I, R)) := e_iald d113_28
theorem d113_29 : decode (cod 113) 29 = .ok (.aload_n 0, 1) := by decide +kernel
theorem s113_29 {M : Mm} {st : List Value} {l1 l2 : Option Value} {x : Nat} : EE 113 29 [some (.ref x), l1, l2] st M = EE 113 30 [some (.ref x), l1, l2] (.ref x :: st) M := e_ld d113_29 rfl rfl rfl rfl rfl rfl
theorem d113_30 : decode (cod 113) 30 = .ok (.getfield 7, 3) := by decide +kernel
theorem s113_30 {n : Nat} {I : Nat → Nat → Int32} {R : Nat → Nat → Option Nat} {st : List Value} {l0 l1 l2 : Option Value} {a : Nat} : EE 113 30 [l0, l1, l2] (.ref a :: st) (n, I, R) = (gfI n I R 3 0 a).bind (fun z => EE 113 33 [l0, l1, l2] (z :: st) (n, I, R)) := e_getf d113_30 f3_7 rfl rfl
theorem d113_33 : decode (cod 113) 33 = .ok (.aload_n 0, 1) := by decide +kernel
theorem s113_33 {M : Mm} {st : List Value} {l1 l2 : Option Value} {x : Nat} : EE 113 33 [some (.ref x), l1, l2] st M = EE 113 34 [some (.ref x), l1, l2] (.ref x :: st) M := e_ld d113_33 rfl rfl rfl rfl rfl rfl
theorem d113_34 : decode (cod 113) 34 = .ok (.iload_n 1, 1) := by decide +kernel
theorem s113_34 {M : Mm} {st : List Value} {l0 l2 : Option Value} {x : Int32} : EE 113 34 [l0, some (.int x), l2] st M = EE 113 35 [l0, some (.int x), l2] (.int x :: st) M := e_ld d113_34 rfl rfl rfl rfl rfl rfl
theorem d113_35 : decode (cod 113) 35 = .ok (.invokevirtual 124, 3) := by decide +kernel
theorem s113_35 {l0 l1 l2 : Option Value} {a : Nat} {M : Mm} {b0 : Int32} {st : List Value} (hl : st.length ≤ 4) (ho : isO "HandoverDeskModel" M.1 a = true) : EE 113 35 [l0, l1, l2] (.int b0 :: .ref a :: st) M = (FF 112 (.ref a :: [.int b0]) M).bind (fun z => EE 113 38 [l0, l1, l2] (psh z.1 st) z.2) := e_calv (av := [.int b0]) d113_35 c3_124 rfl rfl rfl r113_112 rfl hl ho
theorem d113_38 : decode (cod 113) 38 = .ok (.iload_n 1, 1) := by decide +kernel
theorem s113_38 {M : Mm} {st : List Value} {l0 l2 : Option Value} {x : Int32} : EE 113 38 [l0, some (.int x), l2] st M = EE 113 39 [l0, some (.int x), l2] (.int x :: st) M := e_ld d113_38 rfl rfl rfl rfl rfl rfl
theorem d113_39 : decode (cod 113) 39 = .ok (.invokestatic 47, 3) := by decide +kernel
theorem s113_39 {M : Mm} {l0 l1 l2 : Option Value} {b0 : Int32} {b1 : Int32} {st : List Value} (hl : st.length ≤ 4) : EE 113 39 [l0, l1, l2] (.int b1 :: .int b0 :: st) M = (FF 107 [.int b0, .int b1] M).bind (fun z => EE 113 42 [l0, l1, l2] (psh z.1 st) z.2) := e_cals (av := [.int b0, .int b1]) d113_39 c3_47 (Or.inl rfl) rfl rfl r113_107 rfl hl
theorem d113_42 : decode (cod 113) 42 = .ok (.iaload, 1) := by decide +kernel
theorem s113_42 {n : Nat} {I : Nat → Nat → Int32} {R : Nat → Nat → Option Nat} {st : List Value} {l0 l1 l2 : Option Value} {j : Int32} {a : Nat} : EE 113 42 [l0, l1, l2] (.int j :: .ref a :: st) (n, I, R) = (ardI 5 n I a j).bind (fun z => EE 113 43 [l0, l1, l2] (.int z :: st) (n, I, R)) := e_iald d113_42
theorem d113_43 : decode (cod 113) 43 = .ok (.iadd, 1) := by decide +kernel
theorem s113_43 {M : Mm} {st : List Value} {l0 l1 l2 : Option Value} {x y : Int32} : EE 113 43 [l0, l1, l2] (.int y :: .int x :: st) M = EE 113 44 [l0, l1, l2] (.int (x + y) :: st) M := e_II d113_43 rfl rfl rfl rfl rfl rfl
theorem d113_44 : decode (cod 113) 44 = .ok (.iconst 1, 1) := by decide +kernel
theorem s113_44 {M : Mm} {st : List Value} {l0 l1 l2 : Option Value} : EE 113 44 [l0, l1, l2] st M = EE 113 45 [l0, l1, l2] (.int (nI 1) :: st) M := e_con d113_44 k_con_1
theorem d113_45 : decode (cod 113) 45 = .ok (.iadd, 1) := by decide +kernel
theorem s113_45 {M : Mm} {st : List Value} {l0 l1 l2 : Option Value} {x y : Int32} : EE 113 45 [l0, l1, l2] (.int y :: .int x :: st) M = EE 113 46 [l0, l1, l2] (.int (x + y) :: st) M := e_II d113_45 rfl rfl rfl rfl rfl rfl
theorem d113_46 : decode (cod 113) 46 = .ok (.iconst 2, 1) := by decide +kernel
theorem s113_46 {M : Mm} {st : List Value} {l0 l1 l2 : Option Value} : EE 113 46 [l0, l1, l2] st M = EE 113 47 [l0, l1, l2] (.int (nI 2) :: st) M := e_con d113_46 k_con_2
theorem d113_47 : decode (cod 113) 47 = .ok (.idiv, 1) := by decide +kernel
theorem s113_47 {M : Mm} {st : List Value} {l0 l1 l2 : Option Value} {x y : Nat} (h1 : x < 2 ^ 31) (h2 : 0 < y) (h3 : y < 2 ^ 31) : EE 113 47 [l0, l1, l2] (.int (nI y) :: .int (nI x) :: st) M = EE 113 48 [l0, l1, l2] (.int (nI (x / y)) :: st) M := e_divN d113_47 h1 h2 h3
theorem d113_48 : decode (cod 113) 48 = .ok (.iastore, 1) := by decide +kernel
theorem s113_48 {n : Nat} {I : Nat → Nat → Int32} {R : Nat → Nat → Option Nat} {st : List Value} {l0 l1 l2 : Option Value} {j x : Int32} {a : Nat} (h : acI 5 n a j) : EE 113 48 [l0, l1, l2] (.int x :: .int j :: .ref a :: st) (n, I, R) = EE 113 49 [l0, l1, l2] st (n, wI I a j.toNatClampNeg x, R) := e_iast d113_48 h
theorem d113_49 : decode (cod 113) 49 = .ok (.aload_n 0, 1) := by decide +kernel
theorem s113_49 {M : Mm} {st : List Value} {l1 l2 : Option Value} {x : Nat} : EE 113 49 [some (.ref x), l1, l2] st M = EE 113 50 [some (.ref x), l1, l2] (.ref x :: st) M := e_ld d113_49 rfl rfl rfl rfl rfl rfl
theorem d113_50 : decode (cod 113) 50 = .ok (.getfield 7, 3) := by decide +kernel
theorem s113_50 {n : Nat} {I : Nat → Nat → Int32} {R : Nat → Nat → Option Nat} {st : List Value} {l0 l1 l2 : Option Value} {a : Nat} : EE 113 50 [l0, l1, l2] (.ref a :: st) (n, I, R) = (gfI n I R 3 0 a).bind (fun z => EE 113 53 [l0, l1, l2] (z :: st) (n, I, R)) := e_getf d113_50 f3_7 rfl rfl
theorem d113_53 : decode (cod 113) 53 = .ok (.bipush 12, 2) := by decide +kernel
theorem s113_53 {M : Mm} {st : List Value} {l0 l1 l2 : Option Value} : EE 113 53 [l0, l1, l2] st M = EE 113 55 [l0, l1, l2] (.int (nI 12) :: st) M := e_bip d113_53 k_bip_12
theorem d113_55 : decode (cod 113) 55 = .ok (.dup2, 1) := by decide +kernel
theorem s113_55 {M : Mm} {st : List Value} {l0 l1 l2 : Option Value} {x : Int32} {y : Nat} : EE 113 55 [l0, l1, l2] (.int x :: .ref y :: st) M = EE 113 56 [l0, l1, l2] (.int x :: .ref y :: .int x :: .ref y :: st) M := e_dup2 d113_55 rfl rfl
theorem d113_56 : decode (cod 113) 56 = .ok (.iaload, 1) := by decide +kernel
theorem s113_56 {n : Nat} {I : Nat → Nat → Int32} {R : Nat → Nat → Option Nat} {st : List Value} {l0 l1 l2 : Option Value} {j : Int32} {a : Nat} : EE 113 56 [l0, l1, l2] (.int j :: .ref a :: st) (n, I, R) = (ardI 5 n I a j).bind (fun z => EE 113 57 [l0, l1, l2] (.int z :: st) (n, I, R)) := e_iald d113_56
theorem d113_57 : decode (cod 113) 57 = .ok (.aload_n 0, 1) := by decide +kernel
theorem s113_57 {M : Mm} {st : List Value} {l1 l2 : Option Value} {x : Nat} : EE 113 57 [some (.ref x), l1, l2] st M = EE 113 58 [some (.ref x), l1, l2] (.ref x :: st) M := e_ld d113_57 rfl rfl rfl rfl rfl rfl
theorem d113_58 : decode (cod 113) 58 = .ok (.getfield 7, 3) := by decide +kernel
theorem s113_58 {n : Nat} {I : Nat → Nat → Int32} {R : Nat → Nat → Option Nat} {st : List Value} {l0 l1 l2 : Option Value} {a : Nat} : EE 113 58 [l0, l1, l2] (.ref a :: st) (n, I, R) = (gfI n I R 3 0 a).bind (fun z => EE 113 61 [l0, l1, l2] (z :: st) (n, I, R)) := e_getf d113_58 f3_7 rfl rfl
theorem d113_61 : decode (cod 113) 61 = .ok (.bipush 7, 2) := by decide +kernel
theorem s113_61 {M : Mm} {st : List Value} {l0 l1 l2 : Option Value} : EE 113 61 [l0, l1, l2] st M = EE 113 63 [l0, l1, l2] (.int (nI 7) :: st) M := e_bip d113_61 k_bip_7
theorem d113_63 : decode (cod 113) 63 = .ok (.iaload, 1) := by decide +kernel
theorem s113_63 {n : Nat} {I : Nat → Nat → Int32} {R : Nat → Nat → Option Nat} {st : List Value} {l0 l1 l2 : Option Value} {j : Int32} {a : Nat} : EE 113 63 [l0, l1, l2] (.int j :: .ref a :: st) (n, I, R) = (ardI 5 n I a j).bind (fun z => EE 113 64 [l0, l1, l2] (.int z :: st) (n, I, R)) := e_iald d113_63
theorem d113_64 : decode (cod 113) 64 = .ok (.iadd, 1) := by decide +kernel
theorem s113_64 {M : Mm} {st : List Value} {l0 l1 l2 : Option Value} {x y : Int32} : EE 113 64 [l0, l1, l2] (.int y :: .int x :: st) M = EE 113 65 [l0, l1, l2] (.int (x + y) :: st) M := e_II d113_64 rfl rfl rfl rfl rfl rfl
theorem d113_65 : decode (cod 113) 65 = .ok (.iastore, 1) := by decide +kernel
theorem s113_65 {n : Nat} {I : Nat → Nat → Int32} {R : Nat → Nat → Option Nat} {st : List Value} {l0 l1 l2 : Option Value} {j x : Int32} {a : Nat} (h : acI 5 n a j) : EE 113 65 [l0, l1, l2] (.int x :: .int j :: .ref a :: st) (n, I, R) = EE 113 66 [l0, l1, l2] st (n, wI I a j.toNatClampNeg x, R) := e_iast d113_65 h
theorem d113_66 : decode (cod 113) 66 = .ok (.aload_n 0, 1) := by decide +kernel
theorem s113_66 {M : Mm} {st : List Value} {l1 l2 : Option Value} {x : Nat} : EE 113 66 [some (.ref x), l1, l2] st M = EE 113 67 [some (.ref x), l1, l2] (.ref x :: st) M := e_ld d113_66 rfl rfl rfl rfl rfl rfl
theorem d113_67 : decode (cod 113) 67 = .ok (.getfield 7, 3) := by decide +kernel
theorem s113_67 {n : Nat} {I : Nat → Nat → Int32} {R : Nat → Nat → Option Nat} {st : List Value} {l0 l1 l2 : Option Value} {a : Nat} : EE 113 67 [l0, l1, l2] (.ref a :: st) (n, I, R) = (gfI n I R 3 0 a).bind (fun z => EE 113 70 [l0, l1, l2] (z :: st) (n, I, R)) := e_getf d113_67 f3_7 rfl rfl
theorem d113_70 : decode (cod 113) 70 = .ok (.iload_n 2, 1) := by decide +kernel
theorem s113_70 {M : Mm} {st : List Value} {l0 l1 : Option Value} {x : Int32} : EE 113 70 [l0, l1, some (.int x)] st M = EE 113 71 [l0, l1, some (.int x)] (.int x :: st) M := e_ld d113_70 rfl rfl rfl rfl rfl rfl
theorem d113_71 : decode (cod 113) 71 = .ok (.iaload, 1) := by decide +kernel
theorem s113_71 {n : Nat} {I : Nat → Nat → Int32} {R : Nat → Nat → Option Nat} {st : List Value} {l0 l1 l2 : Option Value} {j : Int32} {a : Nat} : EE 113 71 [l0, l1, l2] (.int j :: .ref a :: st) (n, I, R) = (ardI 5 n I a j).bind (fun z => EE 113 72 [l0, l1, l2] (.int z :: st) (n, I, R)) := e_iald d113_71
theorem d113_72 : decode (cod 113) 72 = .ok (.ireturn, 1) := by decide +kernel
theorem s113_72 {M : Mm} {l0 l1 l2 : Option Value} {v : Int32} : EE 113 72 [l0, l1, l2] [.int v] M = some (some (.int v), M) := e_iret d113_72 rfl rfl
theorem FE113 {a : Nat} {b0 : Int32} {M : Mm} : FF 113 [.ref a, .int b0] M = EE 113 0 [some (.ref a), some (.int b0), none] [] M := FF_eq 113 _ _ (Nat.le_of_ble_eq_true rfl)
theorem d114_0 : decode (cod 114) 0 = .ok (.aload_n 0, 1) := by decide +kernel
theorem s114_0 {M : Mm} {st : List Value} {x : Nat} : EE 114 0 [some (.ref x)] st M = EE 114 1 [some (.ref x)] (.ref x :: st) M := e_ld d114_0 rfl rfl rfl rfl rfl rfl
theorem d114_1 : decode (cod 114) 1 = .ok (.invokevirtual 44, 3) := by decide +kernel
theorem s114_1 {l0 : Option Value} {a : Nat} {M : Mm} {st : List Value} (hl : st.length ≤ 4) (ho : isO "HandoverDeskModel" M.1 a = true) : EE 114 1 [l0] (.ref a :: st) M = (FF 86 (.ref a :: []) M).bind (fun z => EE 114 4 [l0] (psh z.1 st) z.2) := e_calv (av := []) d114_1 c3_44 rfl rfl rfl r114_86 rfl hl ho
theorem d114_4 : decode (cod 114) 4 = .ok (.aload_n 0, 1) := by decide +kernel
theorem s114_4 {M : Mm} {st : List Value} {x : Nat} : EE 114 4 [some (.ref x)] st M = EE 114 5 [some (.ref x)] (.ref x :: st) M := e_ld d114_4 rfl rfl rfl rfl rfl rfl
theorem d114_5 : decode (cod 114) 5 = .ok (.getfield 7, 3) := by decide +kernel
theorem s114_5 {n : Nat} {I : Nat → Nat → Int32} {R : Nat → Nat → Option Nat} {st : List Value} {l0 : Option Value} {a : Nat} : EE 114 5 [l0] (.ref a :: st) (n, I, R) = (gfI n I R 3 0 a).bind (fun z => EE 114 8 [l0] (z :: st) (n, I, R)) := e_getf d114_5 f3_7 rfl rfl
theorem d114_8 : decode (cod 114) 8 = .ok (.invokestatic 133, 3) := by decide +kernel
theorem s114_8 {M : Mm} {l0 : Option Value} {b0 : Nat} {st : List Value} (hl : st.length ≤ 4) : EE 114 8 [l0] (.ref b0 :: st) M = (FF 115 [.ref b0] M).bind (fun z => EE 114 11 [l0] (psh z.1 st) z.2) := e_cals (av := [.ref b0]) d114_8 c3_133 (Or.inl rfl) rfl rfl r114_115 rfl hl
theorem d114_11 : decode (cod 114) 11 = .ok (.ireturn, 1) := by decide +kernel
theorem s114_11 {M : Mm} {l0 : Option Value} {v : Int32} : EE 114 11 [l0] [.int v] M = some (some (.int v), M) := e_iret d114_11 rfl rfl
theorem FE114 {a : Nat} {M : Mm} : FF 114 [.ref a] M = EE 114 0 [some (.ref a)] [] M := FF_eq 114 _ _ (Nat.le_of_ble_eq_true rfl)
theorem d115_0 : decode (cod 115) 0 = .ok (.aload_n 0, 1) := by decide +kernel
theorem s115_0 {M : Mm} {st : List Value} {l1 l2 l3 : Option Value} {x : Nat} : EE 115 0 [some (.ref x), l1, l2, l3] st M = EE 115 1 [some (.ref x), l1, l2, l3] (.ref x :: st) M := e_ld d115_0 rfl rfl rfl rfl rfl rfl
theorem d115_1 : decode (cod 115) 1 = .ok (.aload_n 0, 1) := by decide +kernel
theorem s115_1 {M : Mm} {st : List Value} {l1 l2 l3 : Option Value} {x : Nat} : EE 115 1 [some (.ref x), l1, l2, l3] st M = EE 115 2 [some (.ref x), l1, l2, l3] (.ref x :: st) M := e_ld d115_1 rfl rfl rfl rfl rfl rfl
theorem d115_2 : decode (cod 115) 2 = .ok (.iconst 0, 1) := by decide +kernel
theorem s115_2 {M : Mm} {st : List Value} {l0 l1 l2 l3 : Option Value} : EE 115 2 [l0, l1, l2, l3] st M = EE 115 3 [l0, l1, l2, l3] (.int (nI 0) :: st) M := e_con d115_2 k_con_0
theorem d115_3 : decode (cod 115) 3 = .ok (.iaload, 1) := by decide +kernel
theorem s115_3 {n : Nat} {I : Nat → Nat → Int32} {R : Nat → Nat → Option Nat} {st : List Value} {l0 l1 l2 l3 : Option Value} {j : Int32} {a : Nat} : EE 115 3 [l0, l1, l2, l3] (.int j :: .ref a :: st) (n, I, R) = (ardI 5 n I a j).bind (fun z => EE 115 4 [l0, l1, l2, l3] (.int z :: st) (n, I, R)) := e_iald d115_3
theorem d115_4 : decode (cod 115) 4 = .ok (.invokestatic 63, 3) := by decide +kernel
theorem s115_4 {M : Mm} {l0 l1 l2 l3 : Option Value} {b0 : Nat} {b1 : Int32} {st : List Value} (hl : st.length ≤ 4) : EE 115 4 [l0, l1, l2, l3] (.int b1 :: .ref b0 :: st) M = (FF 111 [.ref b0, .int b1] M).bind (fun z => EE 115 7 [l0, l1, l2, l3] (psh z.1 st) z.2) := e_cals (av := [.ref b0, .int b1]) d115_4 c3_63 (Or.inl rfl) rfl rfl r115_111 rfl hl
theorem d115_7 : decode (cod 115) 7 = .ok (.istore_n 1, 1) := by decide +kernel
theorem s115_7 {M : Mm} {st : List Value} {l0 l1 l2 l3 : Option Value} {x : Int32} : EE 115 7 [l0, l1, l2, l3] (.int x :: st) M = EE 115 8 [cln l0, some (.int x), l2, l3] st M := e_st1 d115_7 rfl rfl rfl rfl rfl rfl rfl (Nat.le_of_ble_eq_true rfl) rfl
theorem d115_8 : decode (cod 115) 8 = .ok (.aload_n 0, 1) := by decide +kernel
theorem s115_8 {M : Mm} {st : List Value} {l1 l2 l3 : Option Value} {x : Nat} : EE 115 8 [some (.ref x), l1, l2, l3] st M = EE 115 9 [some (.ref x), l1, l2, l3] (.ref x :: st) M := e_ld d115_8 rfl rfl rfl rfl rfl rfl
theorem d115_9 : decode (cod 115) 9 = .ok (.aload_n 0, 1) := by decide +kernel
theorem s115_9 {M : Mm} {st : List Value} {l1 l2 l3 : Option Value} {x : Nat} : EE 115 9 [some (.ref x), l1, l2, l3] st M = EE 115 10 [some (.ref x), l1, l2, l3] (.ref x :: st) M := e_ld d115_9 rfl rfl rfl rfl rfl rfl
theorem d115_10 : decode (cod 115) 10 = .ok (.iconst 0, 1) := by decide +kernel
theorem s115_10 {M : Mm} {st : List Value} {l0 l1 l2 l3 : Option Value} : EE 115 10 [l0, l1, l2, l3] st M = EE 115 11 [l0, l1, l2, l3] (.int (nI 0) :: st) M := e_con d115_10 k_con_0
theorem d115_11 : decode (cod 115) 11 = .ok (.iaload, 1) := by decide +kernel
theorem s115_11 {n : Nat} {I : Nat → Nat → Int32} {R : Nat → Nat → Option Nat} {st : List Value} {l0 l1 l2 l3 : Option Value} {j : Int32} {a : Nat} : EE 115 11 [l0, l1, l2, l3] (.int j :: .ref a :: st) (n, I, R) = (ardI 5 n I a j).bind (fun z => EE 115 12 [l0, l1, l2, l3] (.int z :: st) (n, I, R)) := e_iald d115_11
theorem d115_12 : decode (cod 115) 12 = .ok (.iconst 1, 1) := by decide +kernel
theorem s115_12 {M : Mm} {st : List Value} {l0 l1 l2 l3 : Option Value} : EE 115 12 [l0, l1, l2, l3] st M = EE 115 13 [l0, l1, l2, l3] (.int (nI 1) :: st) M := e_con d115_12 k_con_1
theorem d115_13 : decode (cod 115) 13 = .ok (.iadd, 1) := by decide +kernel
theorem s115_13 {M : Mm} {st : List Value} {l0 l1 l2 l3 : Option Value} {x y : Int32} : EE 115 13 [l0, l1, l2, l3] (.int y :: .int x :: st) M = EE 115 14 [l0, l1, l2, l3] (.int (x + y) :: st) M := e_II d115_13 rfl rfl rfl rfl rfl rfl
theorem d115_14 : decode (cod 115) 14 = .ok (.invokestatic 63, 3) := by decide +kernel
theorem s115_14 {M : Mm} {l0 l1 l2 l3 : Option Value} {b0 : Nat} {b1 : Int32} {st : List Value} (hl : st.length ≤ 4) : EE 115 14 [l0, l1, l2, l3] (.int b1 :: .ref b0 :: st) M = (FF 111 [.ref b0, .int b1] M).bind (fun z => EE 115 17 [l0, l1, l2, l3] (psh z.1 st) z.2) := e_cals (av := [.ref b0, .int b1]) d115_14 c3_63 (Or.inl rfl) rfl rfl r115_111 rfl hl
theorem d115_17 : decode (cod 115) 17 = .ok (.istore_n 2, 1) := by decide +kernel
theorem s115_17 {M : Mm} {st : List Value} {l0 l1 l2 l3 : Option Value} {x : Int32} : EE 115 17 [l0, l1, l2, l3] (.int x :: st) M = EE 115 18 [l0, cln l1, some (.int x), l3] st M := e_st1 d115_17 rfl rfl rfl rfl rfl rfl rfl (Nat.le_of_ble_eq_true rfl) rfl
theorem d115_18 : decode (cod 115) 18 = .ok (.iconst 0, 1) := by decide +kernel
theorem s115_18 {M : Mm} {st : List Value} {l0 l1 l2 l3 : Option Value} : EE 115 18 [l0, l1, l2, l3] st M = EE 115 19 [l0, l1, l2, l3] (.int (nI 0) :: st) M := e_con d115_18 k_con_0
theorem d115_19 : decode (cod 115) 19 = .ok (.istore_n 3, 1) := by decide +kernel
theorem s115_19 {M : Mm} {st : List Value} {l0 l1 l2 l3 : Option Value} {x : Int32} : EE 115 19 [l0, l1, l2, l3] (.int x :: st) M = EE 115 20 [l0, l1, cln l2, some (.int x)] st M := e_st1 d115_19 rfl rfl rfl rfl rfl rfl rfl (Nat.le_of_ble_eq_true rfl) rfl
theorem d115_20 : decode (cod 115) 20 = .ok (.iload_n 3, 1) := by decide +kernel
theorem s115_20 {M : Mm} {st : List Value} {l0 l1 l2 : Option Value} {x : Int32} : EE 115 20 [l0, l1, l2, some (.int x)] st M = EE 115 21 [l0, l1, l2, some (.int x)] (.int x :: st) M := e_ld d115_20 rfl rfl rfl rfl rfl rfl
theorem d115_21 : decode (cod 115) 21 = .ok (.aload_n 0, 1) := by decide +kernel
theorem s115_21 {M : Mm} {st : List Value} {l1 l2 l3 : Option Value} {x : Nat} : EE 115 21 [some (.ref x), l1, l2, l3] st M = EE 115 22 [some (.ref x), l1, l2, l3] (.ref x :: st) M := e_ld d115_21 rfl rfl rfl rfl rfl rfl
theorem d115_22 : decode (cod 115) 22 = .ok (.iconst 1, 1) := by decide +kernel
theorem s115_22 {M : Mm} {st : List Value} {l0 l1 l2 l3 : Option Value} : EE 115 22 [l0, l1, l2, l3] st M = EE 115 23 [l0, l1, l2, l3] (.int (nI 1) :: st) M := e_con d115_22 k_con_1
theorem d115_23 : decode (cod 115) 23 = .ok (.iaload, 1) := by decide +kernel
theorem s115_23 {n : Nat} {I : Nat → Nat → Int32} {R : Nat → Nat → Option Nat} {st : List Value} {l0 l1 l2 l3 : Option Value} {j : Int32} {a : Nat} : EE 115 23 [l0, l1, l2, l3] (.int j :: .ref a :: st) (n, I, R) = (ardI 5 n I a j).bind (fun z => EE 115 24 [l0, l1, l2, l3] (.int z :: st) (n, I, R)) := e_iald d115_23
theorem d115_24 : decode (cod 115) 24 = .ok (.if_icmp .ge 33, 3) := by decide +kernel
theorem s115_24 {M : Mm} {st : List Value} {l0 l1 l2 l3 : Option Value} {x y : Int32} : EE 115 24 [l0, l1, l2, l3] (.int y :: .int x :: st) M = if y ≤ x then EE 115 57 [l0, l1, l2, l3] st M else EE 115 27 [l0, l1, l2, l3] st M := e_cge d115_24 (by decide)
theorem d115_27 : decode (cod 115) 27 = .ok (.aload_n 0, 1) := by decide +kernel
theorem s115_27 {M : Mm} {st : List Value} {l1 l2 l3 : Option Value} {x : Nat} : EE 115 27 [some (.ref x), l1, l2, l3] st M = EE 115 28 [some (.ref x), l1, l2, l3] (.ref x :: st) M := e_ld d115_27 rfl rfl rfl rfl rfl rfl
theorem d115_28 : decode (cod 115) 28 = .ok (.bipush 38, 2) := by decide +kernel
theorem s115_28 {M : Mm} {st : List Value} {l0 l1 l2 l3 : Option Value} : EE 115 28 [l0, l1, l2, l3] st M = EE 115 30 [l0, l1, l2, l3] (.int (nI 38) :: st) M := e_bip d115_28 k_bip_38
theorem d115_30 : decode (cod 115) 30 = .ok (.iload_n 3, 1) := by decide +kernel
theorem s115_30 {M : Mm} {st : List Value} {l0 l1 l2 : Option Value} {x : Int32} : EE 115 30 [l0, l1, l2, some (.int x)] st M = EE 115 31 [l0, l1, l2, some (.int x)] (.int x :: st) M := e_ld d115_30 rfl rfl rfl rfl rfl rfl
theorem d115_31 : decode (cod 115) 31 = .ok (.iadd, 1) := by decide +kernel
theorem s115_31 {M : Mm} {st : List Value} {l0 l1 l2 l3 : Option Value} {x y : Int32} : EE 115 31 [l0, l1, l2, l3] (.int y :: .int x :: st) M = EE 115 32 [l0, l1, l2, l3] (.int (x + y) :: st) M := e_II d115_31 rfl rfl rfl rfl rfl rfl
theorem d115_32 : decode (cod 115) 32 = .ok (.iaload, 1) := by decide +kernel
theorem s115_32 {n : Nat} {I : Nat → Nat → Int32} {R : Nat → Nat → Option Nat} {st : List Value} {l0 l1 l2 l3 : Option Value} {j : Int32} {a : Nat} : EE 115 32 [l0, l1, l2, l3] (.int j :: .ref a :: st) (n, I, R) = (ardI 5 n I a j).bind (fun z => EE 115 33 [l0, l1, l2, l3] (.int z :: st) (n, I, R)) := e_iald d115_32
theorem d115_33 : decode (cod 115) 33 = .ok (.iconst 1, 1) := by decide +kernel
theorem s115_33 {M : Mm} {st : List Value} {l0 l1 l2 l3 : Option Value} : EE 115 33 [l0, l1, l2, l3] st M = EE 115 34 [l0, l1, l2, l3] (.int (nI 1) :: st) M := e_con d115_33 k_con_1
theorem d115_34 : decode (cod 115) 34 = .ok (.if_icmp .ne 17, 3) := by decide +kernel
theorem s115_34 {M : Mm} {st : List Value} {l0 l1 l2 l3 : Option Value} {x y : Int32} : EE 115 34 [l0, l1, l2, l3] (.int y :: .int x :: st) M = if x = y then EE 115 37 [l0, l1, l2, l3] st M else EE 115 51 [l0, l1, l2, l3] st M := e_cne d115_34 (by decide)
theorem d115_37 : decode (cod 115) 37 = .ok (.aload_n 0, 1) := by decide +kernel
theorem s115_37 {M : Mm} {st : List Value} {l1 l2 l3 : Option Value} {x : Nat} : EE 115 37 [some (.ref x), l1, l2, l3] st M = EE 115 38 [some (.ref x), l1, l2, l3] (.ref x :: st) M := e_ld d115_37 rfl rfl rfl rfl rfl rfl
theorem d115_38 : decode (cod 115) 38 = .ok (.iload_n 1, 1) := by decide +kernel
theorem s115_38 {M : Mm} {st : List Value} {l0 l2 l3 : Option Value} {x : Int32} : EE 115 38 [l0, some (.int x), l2, l3] st M = EE 115 39 [l0, some (.int x), l2, l3] (.int x :: st) M := e_ld d115_38 rfl rfl rfl rfl rfl rfl
theorem d115_39 : decode (cod 115) 39 = .ok (.iload_n 3, 1) := by decide +kernel
theorem s115_39 {M : Mm} {st : List Value} {l0 l1 l2 : Option Value} {x : Int32} : EE 115 39 [l0, l1, l2, some (.int x)] st M = EE 115 40 [l0, l1, l2, some (.int x)] (.int x :: st) M := e_ld d115_39 rfl rfl rfl rfl rfl rfl
theorem d115_40 : decode (cod 115) 40 = .ok (.invokestatic 47, 3) := by decide +kernel
theorem s115_40 {M : Mm} {l0 l1 l2 l3 : Option Value} {b0 : Int32} {b1 : Int32} {st : List Value} (hl : st.length ≤ 4) : EE 115 40 [l0, l1, l2, l3] (.int b1 :: .int b0 :: st) M = (FF 107 [.int b0, .int b1] M).bind (fun z => EE 115 43 [l0, l1, l2, l3] (psh z.1 st) z.2) := e_cals (av := [.int b0, .int b1]) d115_40 c3_47 (Or.inl rfl) rfl rfl r115_107 rfl hl
theorem d115_43 : decode (cod 115) 43 = .ok (.aload_n 0, 1) := by decide +kernel
theorem s115_43 {M : Mm} {st : List Value} {l1 l2 l3 : Option Value} {x : Nat} : EE 115 43 [some (.ref x), l1, l2, l3] st M = EE 115 44 [some (.ref x), l1, l2, l3] (.ref x :: st) M := e_ld d115_43 rfl rfl rfl rfl rfl rfl
theorem d115_44 : decode (cod 115) 44 = .ok (.iconst 5, 1) := by decide +kernel
theorem s115_44 {M : Mm} {st : List Value} {l0 l1 l2 l3 : Option Value} : EE 115 44 [l0, l1, l2, l3] st M = EE 115 45 [l0, l1, l2, l3] (.int (nI 5) :: st) M := e_con d115_44 k_con_5
theorem d115_45 : decode (cod 115) 45 = .ok (.iaload, 1) := by decide +kernel
theorem s115_45 {n : Nat} {I : Nat → Nat → Int32} {R : Nat → Nat → Option Nat} {st : List Value} {l0 l1 l2 l3 : Option Value} {j : Int32} {a : Nat} : EE 115 45 [l0, l1, l2, l3] (.int j :: .ref a :: st) (n, I, R) = (ardI 5 n I a j).bind (fun z => EE 115 46 [l0, l1, l2, l3] (.int z :: st) (n, I, R)) := e_iald d115_45
theorem d115_46 : decode (cod 115) 46 = .ok (.bipush 100, 2) := by decide +kernel
theorem s115_46 {M : Mm} {st : List Value} {l0 l1 l2 l3 : Option Value} : EE 115 46 [l0, l1, l2, l3] st M = EE 115 48 [l0, l1, l2, l3] (.int (nI 100) :: st) M := e_bip d115_46 k_bip_100
theorem d115_48 : decode (cod 115) 48 = .ok (.invokestatic 59, 3) := by decide +kernel
theorem s115_48 {M : Mm} {l0 l1 l2 l3 : Option Value} {b0 : Nat} {b1 : Int32} {b2 : Int32} {b3 : Int32} {st : List Value} (hl : st.length ≤ 4) : EE 115 48 [l0, l1, l2, l3] (.int b3 :: .int b2 :: .int b1 :: .ref b0 :: st) M = (FF 108 [.ref b0, .int b1, .int b2, .int b3] M).bind (fun z => EE 115 51 [l0, l1, l2, l3] (psh z.1 st) z.2) := e_cals (av := [.ref b0, .int b1, .int b2, .int b3]) d115_48 c3_59 (Or.inl rfl) rfl rfl r115_108 rfl hl
theorem d115_51 : decode (cod 115) 51 = .ok (.iinc 3 1, 3) := by decide +kernel
theorem s115_51 {M : Mm} {st : List Value} {l0 l1 l2 : Option Value} {x : Int32} : EE 115 51 [l0, l1, l2, some (.int x)] st M = EE 115 54 [l0, l1, cln l2, some (.int (x + nI 1))] st M := e_iinc d115_51 rfl (congrArg (fun z => x + z) k_inc_1) rfl
theorem d115_54 : decode (cod 115) 54 = .ok (.goto (-34), 3) := by decide +kernel
theorem s115_54 {M : Mm} {st : List Value} {l0 l1 l2 l3 : Option Value} : EE 115 54 [l0, l1, l2, l3] st M = EE 115 20 [l0, l1, l2, l3] st M := e_goto d115_54 (by decide)
theorem d115_57 : decode (cod 115) 57 = .ok (.iload_n 2, 1) := by decide +kernel
theorem s115_57 {M : Mm} {st : List Value} {l0 l1 l3 : Option Value} {x : Int32} : EE 115 57 [l0, l1, some (.int x), l3] st M = EE 115 58 [l0, l1, some (.int x), l3] (.int x :: st) M := e_ld d115_57 rfl rfl rfl rfl rfl rfl
theorem d115_58 : decode (cod 115) 58 = .ok (.iload_n 1, 1) := by decide +kernel
theorem s115_58 {M : Mm} {st : List Value} {l0 l2 l3 : Option Value} {x : Int32} : EE 115 58 [l0, some (.int x), l2, l3] st M = EE 115 59 [l0, some (.int x), l2, l3] (.int x :: st) M := e_ld d115_58 rfl rfl rfl rfl rfl rfl
theorem d115_59 : decode (cod 115) 59 = .ok (.if_icmp .eq 9, 3) := by decide +kernel
theorem s115_59 {M : Mm} {st : List Value} {l0 l1 l2 l3 : Option Value} {x y : Int32} : EE 115 59 [l0, l1, l2, l3] (.int y :: .int x :: st) M = if x = y then EE 115 68 [l0, l1, l2, l3] st M else EE 115 62 [l0, l1, l2, l3] st M := e_ceq d115_59 (by decide)
theorem d115_62 : decode (cod 115) 62 = .ok (.aload_n 0, 1) := by decide +kernel
theorem s115_62 {M : Mm} {st : List Value} {l1 l2 l3 : Option Value} {x : Nat} : EE 115 62 [some (.ref x), l1, l2, l3] st M = EE 115 63 [some (.ref x), l1, l2, l3] (.ref x :: st) M := e_ld d115_62 rfl rfl rfl rfl rfl rfl
theorem d115_63 : decode (cod 115) 63 = .ok (.iload_n 1, 1) := by decide +kernel
theorem s115_63 {M : Mm} {st : List Value} {l0 l2 l3 : Option Value} {x : Int32} : EE 115 63 [l0, some (.int x), l2, l3] st M = EE 115 64 [l0, some (.int x), l2, l3] (.int x :: st) M := e_ld d115_63 rfl rfl rfl rfl rfl rfl
theorem d115_64 : decode (cod 115) 64 = .ok (.iload_n 2, 1) := by decide +kernel
theorem s115_64 {M : Mm} {st : List Value} {l0 l1 l3 : Option Value} {x : Int32} : EE 115 64 [l0, l1, some (.int x), l3] st M = EE 115 65 [l0, l1, some (.int x), l3] (.int x :: st) M := e_ld d115_64 rfl rfl rfl rfl rfl rfl
theorem d115_65 : decode (cod 115) 65 = .ok (.invokestatic 67, 3) := by decide +kernel
theorem s115_65 {M : Mm} {l0 l1 l2 l3 : Option Value} {b0 : Nat} {b1 : Int32} {b2 : Int32} {st : List Value} (hl : st.length ≤ 4) : EE 115 65 [l0, l1, l2, l3] (.int b2 :: .int b1 :: .ref b0 :: st) M = (FF 116 [.ref b0, .int b1, .int b2] M).bind (fun z => EE 115 68 [l0, l1, l2, l3] (psh z.1 st) z.2) := e_cals (av := [.ref b0, .int b1, .int b2]) d115_65 c3_67 (Or.inl rfl) rfl rfl r115_116 rfl hl
theorem d115_68 : decode (cod 115) 68 = .ok (.aload_n 0, 1) := by decide +kernel
theorem s115_68 {M : Mm} {st : List Value} {l1 l2 l3 : Option Value} {x : Nat} : EE 115 68 [some (.ref x), l1, l2, l3] st M = EE 115 69 [some (.ref x), l1, l2, l3] (.ref x :: st) M := e_ld d115_68 rfl rfl rfl rfl rfl rfl
theorem d115_69 : decode (cod 115) 69 = .ok (.iconst 0, 1) := by decide +kernel
theorem s115_69 {M : Mm} {st : List Value} {l0 l1 l2 l3 : Option Value} : EE 115 69 [l0, l1, l2, l3] st M = EE 115 70 [l0, l1, l2, l3] (.int (nI 0) :: st) M := e_con d115_69 k_con_0
theorem d115_70 : decode (cod 115) 70 = .ok (.dup2, 1) := by decide +kernel
theorem s115_70 {M : Mm} {st : List Value} {l0 l1 l2 l3 : Option Value} {x : Int32} {y : Nat} : EE 115 70 [l0, l1, l2, l3] (.int x :: .ref y :: st) M = EE 115 71 [l0, l1, l2, l3] (.int x :: .ref y :: .int x :: .ref y :: st) M := e_dup2 d115_70 rfl rfl
theorem d115_71 : decode (cod 115) 71 = .ok (.iaload, 1) := by decide +kernel
theorem s115_71 {n : Nat} {I : Nat → Nat → Int32} {R : Nat → Nat → Option Nat} {st : List Value} {l0 l1 l2 l3 : Option Value} {j : Int32} {a : Nat} : EE 115 71 [l0, l1, l2, l3] (.int j :: .ref a :: st) (n, I, R) = (ardI 5 n I a j).bind (fun z => EE 115 72 [l0, l1, l2, l3] (.int z :: st) (n, I, R)) := e_iald d115_71
theorem d115_72 : decode (cod 115) 72 = .ok (.iconst 1, 1) := by decide +kernel
theorem s115_72 {M : Mm} {st : List Value} {l0 l1 l2 l3 : Option Value} : EE 115 72 [l0, l1, l2, l3] st M = EE 115 73 [l0, l1, l2, l3] (.int (nI 1) :: st) M := e_con d115_72 k_con_1
theorem d115_73 : decode (cod 115) 73 = .ok (.iadd, 1) := by decide +kernel
theorem s115_73 {M : Mm} {st : List Value} {l0 l1 l2 l3 : Option Value} {x y : Int32} : EE 115 73 [l0, l1, l2, l3] (.int y :: .int x :: st) M = EE 115 74 [l0, l1, l2, l3] (.int (x + y) :: st) M := e_II d115_73 rfl rfl rfl rfl rfl rfl
theorem d115_74 : decode (cod 115) 74 = .ok (.iastore, 1) := by decide +kernel
theorem s115_74 {n : Nat} {I : Nat → Nat → Int32} {R : Nat → Nat → Option Nat} {st : List Value} {l0 l1 l2 l3 : Option Value} {j x : Int32} {a : Nat} (h : acI 5 n a j) : EE 115 74 [l0, l1, l2, l3] (.int x :: .int j :: .ref a :: st) (n, I, R) = EE 115 75 [l0, l1, l2, l3] st (n, wI I a j.toNatClampNeg x, R) := e_iast d115_74 h
theorem d115_75 : decode (cod 115) 75 = .ok (.aload_n 0, 1) := by decide +kernel
theorem s115_75 {M : Mm} {st : List Value} {l1 l2 l3 : Option Value} {x : Nat} : EE 115 75 [some (.ref x), l1, l2, l3] st M = EE 115 76 [some (.ref x), l1, l2, l3] (.ref x :: st) M := e_ld d115_75 rfl rfl rfl rfl rfl rfl
theorem d115_76 : decode (cod 115) 76 = .ok (.iload_n 2, 1) := by decide +kernel
theorem s115_76 {M : Mm} {st : List Value} {l0 l1 l3 : Option Value} {x : Int32} : EE 115 76 [l0, l1, some (.int x), l3] st M = EE 115 77 [l0, l1, some (.int x), l3] (.int x :: st) M := e_ld d115_76 rfl rfl rfl rfl rfl rfl
theorem d115_77 : decode (cod 115) 77 = .ok (.invokestatic 71, 3) := by decide +kernel
theorem s115_77 {M : Mm} {l0 l1 l2 l3 : Option Value} {b0 : Nat} {b1 : Int32} {st : List Value} (hl : st.length ≤ 4) : EE 115 77 [l0, l1, l2, l3] (.int b1 :: .ref b0 :: st) M = (FF 119 [.ref b0, .int b1] M).bind (fun z => EE 115 80 [l0, l1, l2, l3] (psh z.1 st) z.2) := e_cals (av := [.ref b0, .int b1]) d115_77 c3_71 (Or.inl rfl) rfl rfl r115_119 rfl hl
theorem d115_80 : decode (cod 115) 80 = .ok (.aload_n 0, 1) := by decide +kernel
theorem s115_80 {M : Mm} {st : List Value} {l1 l2 l3 : Option Value} {x : Nat} : EE 115 80 [some (.ref x), l1, l2, l3] st M = EE 115 81 [some (.ref x), l1, l2, l3] (.ref x :: st) M := e_ld d115_80 rfl rfl rfl rfl rfl rfl
theorem d115_81 : decode (cod 115) 81 = .ok (.iload_n 2, 1) := by decide +kernel
theorem s115_81 {M : Mm} {st : List Value} {l0 l1 l3 : Option Value} {x : Int32} : EE 115 81 [l0, l1, some (.int x), l3] st M = EE 115 82 [l0, l1, some (.int x), l3] (.int x :: st) M := e_ld d115_81 rfl rfl rfl rfl rfl rfl
theorem d115_82 : decode (cod 115) 82 = .ok (.invokestatic 75, 3) := by decide +kernel
theorem s115_82 {M : Mm} {l0 l1 l2 l3 : Option Value} {b0 : Nat} {b1 : Int32} {st : List Value} (hl : st.length ≤ 4) : EE 115 82 [l0, l1, l2, l3] (.int b1 :: .ref b0 :: st) M = (FF 120 [.ref b0, .int b1] M).bind (fun z => EE 115 85 [l0, l1, l2, l3] (psh z.1 st) z.2) := e_cals (av := [.ref b0, .int b1]) d115_82 c3_75 (Or.inl rfl) rfl rfl r115_120 rfl hl
theorem d115_85 : decode (cod 115) 85 = .ok (.ireturn, 1) := by decide +kernel
theorem s115_85 {M : Mm} {l0 l1 l2 l3 : Option Value} {v : Int32} : EE 115 85 [l0, l1, l2, l3] [.int v] M = some (some (.int v), M) := e_iret d115_85 rfl rfl
theorem FE115 {b0 : Nat} {M : Mm} : FF 115 [.ref b0] M = EE 115 0 [some (.ref b0), none, none, none] [] M := FF_eq 115 _ _ (Nat.le_of_ble_eq_true rfl)
theorem d116_0 : decode (cod 116) 0 = .ok (.aload_n 0, 1) := by decide +kernel
theorem s116_0 {M : Mm} {st : List Value} {l1 l2 l3 l4 l5 : Option Value} {x : Nat} : EE 116 0 [some (.ref x), l1, l2, l3, l4, l5] st M = EE 116 1 [some (.ref x), l1, l2, l3, l4, l5] (.ref x :: st) M := e_ld d116_0 rfl rfl rfl rfl rfl rfl
theorem d116_1 : decode (cod 116) 1 = .ok (.bipush 26, 2) := by decide +kernel
theorem s116_1 {M : Mm} {st : List Value} {l0 l1 l2 l3 l4 l5 : Option Value} : EE 116 1 [l0, l1, l2, l3, l4, l5] st M = EE 116 3 [l0, l1, l2, l3, l4, l5] (.int (nI 26) :: st) M := e_bip d116_1 k_bip_26
theorem d116_3 : decode (cod 116) 3 = .ok (.aload_n 0, 1) := by decide +kernel
theorem s116_3 {M : Mm} {st : List Value} {l1 l2 l3 l4 l5 : Option Value} {x : Nat} : EE 116 3 [some (.ref x), l1, l2, l3, l4, l5] st M = EE 116 4 [some (.ref x), l1, l2, l3, l4, l5] (.ref x :: st) M := e_ld d116_3 rfl rfl rfl rfl rfl rfl
theorem d116_4 : decode (cod 116) 4 = .ok (.iconst 0, 1) := by decide +kernel
theorem s116_4 {M : Mm} {st : List Value} {l0 l1 l2 l3 l4 l5 : Option Value} : EE 116 4 [l0, l1, l2, l3, l4, l5] st M = EE 116 5 [l0, l1, l2, l3, l4, l5] (.int (nI 0) :: st) M := e_con d116_4 k_con_0
theorem d116_5 : decode (cod 116) 5 = .ok (.iaload, 1) := by decide +kernel
theorem s116_5 {n : Nat} {I : Nat → Nat → Int32} {R : Nat → Nat → Option Nat} {st : List Value} {l0 l1 l2 l3 l4 l5 : Option Value} {j : Int32} {a : Nat} : EE 116 5 [l0, l1, l2, l3, l4, l5] (.int j :: .ref a :: st) (n, I, R) = (ardI 5 n I a j).bind (fun z => EE 116 6 [l0, l1, l2, l3, l4, l5] (.int z :: st) (n, I, R)) := e_iald d116_5
theorem d116_6 : decode (cod 116) 6 = .ok (.bipush 12, 2) := by decide +kernel
theorem s116_6 {M : Mm} {st : List Value} {l0 l1 l2 l3 l4 l5 : Option Value} : EE 116 6 [l0, l1, l2, l3, l4, l5] st M = EE 116 8 [l0, l1, l2, l3, l4, l5] (.int (nI 12) :: st) M := e_bip d116_6 k_bip_12
theorem d116_8 : decode (cod 116) 8 = .ok (.irem, 1) := by decide +kernel
theorem s116_8 {M : Mm} {st : List Value} {l0 l1 l2 l3 l4 l5 : Option Value} {x y : Nat} (h1 : x < 2 ^ 31) (h2 : 0 < y) (h3 : y < 2 ^ 31) : EE 116 8 [l0, l1, l2, l3, l4, l5] (.int (nI y) :: .int (nI x) :: st) M = EE 116 9 [l0, l1, l2, l3, l4, l5] (.int (nI (x % y)) :: st) M := e_remN d116_8 h1 h2 h3
theorem d116_9 : decode (cod 116) 9 = .ok (.iadd, 1) := by decide +kernel
theorem s116_9 {M : Mm} {st : List Value} {l0 l1 l2 l3 l4 l5 : Option Value} {x y : Int32} : EE 116 9 [l0, l1, l2, l3, l4, l5] (.int y :: .int x :: st) M = EE 116 10 [l0, l1, l2, l3, l4, l5] (.int (x + y) :: st) M := e_II d116_9 rfl rfl rfl rfl rfl rfl
theorem d116_10 : decode (cod 116) 10 = .ok (.iaload, 1) := by decide +kernel
theorem s116_10 {n : Nat} {I : Nat → Nat → Int32} {R : Nat → Nat → Option Nat} {st : List Value} {l0 l1 l2 l3 l4 l5 : Option Value} {j : Int32} {a : Nat} : EE 116 10 [l0, l1, l2, l3, l4, l5] (.int j :: .ref a :: st) (n, I, R) = (ardI 5 n I a j).bind (fun z => EE 116 11 [l0, l1, l2, l3, l4, l5] (.int z :: st) (n, I, R)) := e_iald d116_10
theorem d116_11 : decode (cod 116) 11 = .ok (.istore_n 3, 1) := by decide +kernel
theorem s116_11 {M : Mm} {st : List Value} {l0 l1 l2 l3 l4 l5 : Option Value} {x : Int32} : EE 116 11 [l0, l1, l2, l3, l4, l5] (.int x :: st) M = EE 116 12 [l0, l1, cln l2, some (.int x), l4, l5] st M := e_st1 d116_11 rfl rfl rfl rfl rfl rfl rfl (Nat.le_of_ble_eq_true rfl) rfl
theorem d116_12 : decode (cod 116) 12 = .ok (.iconst 0, 1) := by decide +kernel
theorem s116_12 {M : Mm} {st : List Value} {l0 l1 l2 l3 l4 l5 : Option Value} : EE 116 12 [l0, l1, l2, l3, l4, l5] st M = EE 116 13 [l0, l1, l2, l3, l4, l5] (.int (nI 0) :: st) M := e_con d116_12 k_con_0
theorem d116_13 : decode (cod 116) 13 = .ok (.istore 4, 2) := by decide +kernel
theorem s116_13 {M : Mm} {st : List Value} {l0 l1 l2 l3 l4 l5 : Option Value} {x : Int32} : EE 116 13 [l0, l1, l2, l3, l4, l5] (.int x :: st) M = EE 116 15 [l0, l1, l2, cln l3, some (.int x), l5] st M := e_st1 d116_13 rfl rfl rfl rfl rfl rfl rfl (Nat.le_of_ble_eq_true rfl) rfl
theorem d116_15 : decode (cod 116) 15 = .ok (.iload 4, 2) := by decide +kernel
theorem s116_15 {M : Mm} {st : List Value} {l0 l1 l2 l3 l5 : Option Value} {x : Int32} : EE 116 15 [l0, l1, l2, l3, some (.int x), l5] st M = EE 116 17 [l0, l1, l2, l3, some (.int x), l5] (.int x :: st) M := e_ld d116_15 rfl rfl rfl rfl rfl rfl
theorem d116_17 : decode (cod 116) 17 = .ok (.iload_n 3, 1) := by decide +kernel
theorem s116_17 {M : Mm} {st : List Value} {l0 l1 l2 l4 l5 : Option Value} {x : Int32} : EE 116 17 [l0, l1, l2, some (.int x), l4, l5] st M = EE 116 18 [l0, l1, l2, some (.int x), l4, l5] (.int x :: st) M := e_ld d116_17 rfl rfl rfl rfl rfl rfl
theorem d116_18 : decode (cod 116) 18 = .ok (.if_icmp .ge 73, 3) := by decide +kernel
theorem s116_18 {M : Mm} {st : List Value} {l0 l1 l2 l3 l4 l5 : Option Value} {x y : Int32} : EE 116 18 [l0, l1, l2, l3, l4, l5] (.int y :: .int x :: st) M = if y ≤ x then EE 116 91 [l0, l1, l2, l3, l4, l5] st M else EE 116 21 [l0, l1, l2, l3, l4, l5] st M := e_cge d116_18 (by decide)
theorem d116_21 : decode (cod 116) 21 = .ok (.aload_n 0, 1) := by decide +kernel
theorem s116_21 {M : Mm} {st : List Value} {l1 l2 l3 l4 l5 : Option Value} {x : Nat} : EE 116 21 [some (.ref x), l1, l2, l3, l4, l5] st M = EE 116 22 [some (.ref x), l1, l2, l3, l4, l5] (.ref x :: st) M := e_ld d116_21 rfl rfl rfl rfl rfl rfl
theorem d116_22 : decode (cod 116) 22 = .ok (.iload_n 1, 1) := by decide +kernel
theorem s116_22 {M : Mm} {st : List Value} {l0 l2 l3 l4 l5 : Option Value} {x : Int32} : EE 116 22 [l0, some (.int x), l2, l3, l4, l5] st M = EE 116 23 [l0, some (.int x), l2, l3, l4, l5] (.int x :: st) M := e_ld d116_22 rfl rfl rfl rfl rfl rfl
theorem d116_23 : decode (cod 116) 23 = .ok (.iload_n 2, 1) := by decide +kernel
theorem s116_23 {M : Mm} {st : List Value} {l0 l1 l3 l4 l5 : Option Value} {x : Int32} : EE 116 23 [l0, l1, some (.int x), l3, l4, l5] st M = EE 116 24 [l0, l1, some (.int x), l3, l4, l5] (.int x :: st) M := e_ld d116_23 rfl rfl rfl rfl rfl rfl
theorem d116_24 : decode (cod 116) 24 = .ok (.invokestatic 55, 3) := by decide +kernel
theorem s116_24 {M : Mm} {l0 l1 l2 l3 l4 l5 : Option Value} {b0 : Nat} {b1 : Int32} {b2 : Int32} {st : List Value} (hl : st.length ≤ 4) : EE 116 24 [l0, l1, l2, l3, l4, l5] (.int b2 :: .int b1 :: .ref b0 :: st) M = (FF 117 [.ref b0, .int b1, .int b2] M).bind (fun z => EE 116 27 [l0, l1, l2, l3, l4, l5] (psh z.1 st) z.2) := e_cals (av := [.ref b0, .int b1, .int b2]) d116_24 c3_55 (Or.inl rfl) rfl rfl r116_117 rfl hl
theorem d116_27 : decode (cod 116) 27 = .ok (.istore 5, 2) := by decide +kernel
theorem s116_27 {M : Mm} {st : List Value} {l0 l1 l2 l3 l4 l5 : Option Value} {x : Int32} : EE 116 27 [l0, l1, l2, l3, l4, l5] (.int x :: st) M = EE 116 29 [l0, l1, l2, l3, cln l4, some (.int x)] st M := e_st1 d116_27 rfl rfl rfl rfl rfl rfl rfl (Nat.le_of_ble_eq_true rfl) rfl
theorem d116_29 : decode (cod 116) 29 = .ok (.aload_n 0, 1) := by decide +kernel
theorem s116_29 {M : Mm} {st : List Value} {l1 l2 l3 l4 l5 : Option Value} {x : Nat} : EE 116 29 [some (.ref x), l1, l2, l3, l4, l5] st M = EE 116 30 [some (.ref x), l1, l2, l3, l4, l5] (.ref x :: st) M := e_ld d116_29 rfl rfl rfl rfl rfl rfl
theorem d116_30 : decode (cod 116) 30 = .ok (.bipush 9, 2) := by decide +kernel
theorem s116_30 {M : Mm} {st : List Value} {l0 l1 l2 l3 l4 l5 : Option Value} : EE 116 30 [l0, l1, l2, l3, l4, l5] st M = EE 116 32 [l0, l1, l2, l3, l4, l5] (.int (nI 9) :: st) M := e_bip d116_30 k_bip_9
theorem d116_32 : decode (cod 116) 32 = .ok (.dup2, 1) := by decide +kernel
theorem s116_32 {M : Mm} {st : List Value} {l0 l1 l2 l3 l4 l5 : Option Value} {x : Int32} {y : Nat} : EE 116 32 [l0, l1, l2, l3, l4, l5] (.int x :: .ref y :: st) M = EE 116 33 [l0, l1, l2, l3, l4, l5] (.int x :: .ref y :: .int x :: .ref y :: st) M := e_dup2 d116_32 rfl rfl
theorem d116_33 : decode (cod 116) 33 = .ok (.iaload, 1) := by decide +kernel
theorem s116_33 {n : Nat} {I : Nat → Nat → Int32} {R : Nat → Nat → Option Nat} {st : List Value} {l0 l1 l2 l3 l4 l5 : Option Value} {j : Int32} {a : Nat} : EE 116 33 [l0, l1, l2, l3, l4, l5] (.int j :: .ref a :: st) (n, I, R) = (ardI 5 n I a j).bind (fun z => EE 116 34 [l0, l1, l2, l3, l4, l5] (.int z :: st) (n, I, R)) := e_iald d116_33
theorem d116_34 : decode (cod 116) 34 = .ok (.iconst 1, 1) := by decide +kernel
theorem s116_34 {M : Mm} {st : List Value} {l0 l1 l2 l3 l4 l5 : Option Value} : EE 116 34 [l0, l1, l2, l3, l4, l5] st M = EE 116 35 [l0, l1, l2, l3, l4, l5] (.int (nI 1) :: st) M := e_con d116_34 k_con_1
theorem d116_35 : decode (cod 116) 35 = .ok (.iadd, 1) := by decide +kernel
theorem s116_35 {M : Mm} {st : List Value} {l0 l1 l2 l3 l4 l5 : Option Value} {x y : Int32} : EE 116 35 [l0, l1, l2, l3, l4, l5] (.int y :: .int x :: st) M = EE 116 36 [l0, l1, l2, l3, l4, l5] (.int (x + y) :: st) M := e_II d116_35 rfl rfl rfl rfl rfl rfl
theorem d116_36 : decode (cod 116) 36 = .ok (.iastore, 1) := by decide +kernel
theorem s116_36 {n : Nat} {I : Nat → Nat → Int32} {R : Nat → Nat → Option Nat} {st : List Value} {l0 l1 l2 l3 l4 l5 : Option Value} {j x : Int32} {a : Nat} (h : acI 5 n a j) : EE 116 36 [l0, l1, l2, l3, l4, l5] (.int x :: .int j :: .ref a :: st) (n, I, R) = EE 116 37 [l0, l1, l2, l3, l4, l5] st (n, wI I a j.toNatClampNeg x, R) := e_iast d116_36 h
theorem d116_37 : decode (cod 116) 37 = .ok (.aload_n 0, 1) := by decide +kernel
theorem s116_37 {M : Mm} {st : List Value} {l1 l2 l3 l4 l5 : Option Value} {x : Nat} : EE 116 37 [some (.ref x), l1, l2, l3, l4, l5] st M = EE 116 38 [some (.ref x), l1, l2, l3, l4, l5] (.ref x :: st) M := e_ld d116_37 rfl rfl rfl rfl rfl rfl
theorem d116_38 : decode (cod 116) 38 = .ok (.bipush 11, 2) := by decide +kernel
theorem s116_38 {M : Mm} {st : List Value} {l0 l1 l2 l3 l4 l5 : Option Value} : EE 116 38 [l0, l1, l2, l3, l4, l5] st M = EE 116 40 [l0, l1, l2, l3, l4, l5] (.int (nI 11) :: st) M := e_bip d116_38 k_bip_11
theorem d116_40 : decode (cod 116) 40 = .ok (.dup2, 1) := by decide +kernel
theorem s116_40 {M : Mm} {st : List Value} {l0 l1 l2 l3 l4 l5 : Option Value} {x : Int32} {y : Nat} : EE 116 40 [l0, l1, l2, l3, l4, l5] (.int x :: .ref y :: st) M = EE 116 41 [l0, l1, l2, l3, l4, l5] (.int x :: .ref y :: .int x :: .ref y :: st) M := e_dup2 d116_40 rfl rfl
theorem d116_41 : decode (cod 116) 41 = .ok (.iaload, 1) := by decide +kernel
theorem s116_41 {n : Nat} {I : Nat → Nat → Int32} {R : Nat → Nat → Option Nat} {st : List Value} {l0 l1 l2 l3 l4 l5 : Option Value} {j : Int32} {a : Nat} : EE 116 41 [l0, l1, l2, l3, l4, l5] (.int j :: .ref a :: st) (n, I, R) = (ardI 5 n I a j).bind (fun z => EE 116 42 [l0, l1, l2, l3, l4, l5] (.int z :: st) (n, I, R)) := e_iald d116_41
theorem d116_42 : decode (cod 116) 42 = .ok (.aload_n 0, 1) := by decide +kernel
theorem s116_42 {M : Mm} {st : List Value} {l1 l2 l3 l4 l5 : Option Value} {x : Nat} : EE 116 42 [some (.ref x), l1, l2, l3, l4, l5] st M = EE 116 43 [some (.ref x), l1, l2, l3, l4, l5] (.ref x :: st) M := e_ld d116_42 rfl rfl rfl rfl rfl rfl
theorem d116_43 : decode (cod 116) 43 = .ok (.bipush 6, 2) := by decide +kernel
theorem s116_43 {M : Mm} {st : List Value} {l0 l1 l2 l3 l4 l5 : Option Value} : EE 116 43 [l0, l1, l2, l3, l4, l5] st M = EE 116 45 [l0, l1, l2, l3, l4, l5] (.int (nI 6) :: st) M := e_bip d116_43 k_bip_6
theorem d116_45 : decode (cod 116) 45 = .ok (.iaload, 1) := by decide +kernel
theorem s116_45 {n : Nat} {I : Nat → Nat → Int32} {R : Nat → Nat → Option Nat} {st : List Value} {l0 l1 l2 l3 l4 l5 : Option Value} {j : Int32} {a : Nat} : EE 116 45 [l0, l1, l2, l3, l4, l5] (.int j :: .ref a :: st) (n, I, R) = (ardI 5 n I a j).bind (fun z => EE 116 46 [l0, l1, l2, l3, l4, l5] (.int z :: st) (n, I, R)) := e_iald d116_45
theorem d116_46 : decode (cod 116) 46 = .ok (.iadd, 1) := by decide +kernel
theorem s116_46 {M : Mm} {st : List Value} {l0 l1 l2 l3 l4 l5 : Option Value} {x y : Int32} : EE 116 46 [l0, l1, l2, l3, l4, l5] (.int y :: .int x :: st) M = EE 116 47 [l0, l1, l2, l3, l4, l5] (.int (x + y) :: st) M := e_II d116_46 rfl rfl rfl rfl rfl rfl
theorem d116_47 : decode (cod 116) 47 = .ok (.iastore, 1) := by decide +kernel
theorem s116_47 {n : Nat} {I : Nat → Nat → Int32} {R : Nat → Nat → Option Nat} {st : List Value} {l0 l1 l2 l3 l4 l5 : Option Value} {j x : Int32} {a : Nat} (h : acI 5 n a j) : EE 116 47 [l0, l1, l2, l3, l4, l5] (.int x :: .int j :: .ref a :: st) (n, I, R) = EE 116 48 [l0, l1, l2, l3, l4, l5] st (n, wI I a j.toNatClampNeg x, R) := e_iast d116_47 h
theorem d116_48 : decode (cod 116) 48 = .ok (.iload 5, 2) := by decide +kernel
theorem s116_48 {M : Mm} {st : List Value} {l0 l1 l2 l3 l4 : Option Value} {x : Int32} : EE 116 48 [l0, l1, l2, l3, l4, some (.int x)] st M = EE 116 50 [l0, l1, l2, l3, l4, some (.int x)] (.int x :: st) M := e_ld d116_48 rfl rfl rfl rfl rfl rfl
theorem d116_50 : decode (cod 116) 50 = .ok (.ifCond .ge 14, 3) := by decide +kernel
theorem s116_50 {M : Mm} {st : List Value} {l0 l1 l2 l3 l4 l5 : Option Value} {x : Int32} : EE 116 50 [l0, l1, l2, l3, l4, l5] (.int x :: st) M = if 0 ≤ x then EE 116 64 [l0, l1, l2, l3, l4, l5] st M else EE 116 53 [l0, l1, l2, l3, l4, l5] st M := e_ge0 d116_50 (by decide)
theorem d116_53 : decode (cod 116) 53 = .ok (.aload_n 0, 1) := by decide +kernel
theorem s116_53 {M : Mm} {st : List Value} {l1 l2 l3 l4 l5 : Option Value} {x : Nat} : EE 116 53 [some (.ref x), l1, l2, l3, l4, l5] st M = EE 116 54 [some (.ref x), l1, l2, l3, l4, l5] (.ref x :: st) M := e_ld d116_53 rfl rfl rfl rfl rfl rfl
theorem d116_54 : decode (cod 116) 54 = .ok (.bipush 10, 2) := by decide +kernel
theorem s116_54 {M : Mm} {st : List Value} {l0 l1 l2 l3 l4 l5 : Option Value} : EE 116 54 [l0, l1, l2, l3, l4, l5] st M = EE 116 56 [l0, l1, l2, l3, l4, l5] (.int (nI 10) :: st) M := e_bip d116_54 k_bip_10
theorem d116_56 : decode (cod 116) 56 = .ok (.dup2, 1) := by decide +kernel
theorem s116_56 {M : Mm} {st : List Value} {l0 l1 l2 l3 l4 l5 : Option Value} {x : Int32} {y : Nat} : EE 116 56 [l0, l1, l2, l3, l4, l5] (.int x :: .ref y :: st) M = EE 116 57 [l0, l1, l2, l3, l4, l5] (.int x :: .ref y :: .int x :: .ref y :: st) M := e_dup2 d116_56 rfl rfl
theorem d116_57 : decode (cod 116) 57 = .ok (.iaload, 1) := by decide +kernel
theorem s116_57 {n : Nat} {I : Nat → Nat → Int32} {R : Nat → Nat → Option Nat} {st : List Value} {l0 l1 l2 l3 l4 l5 : Option Value} {j : Int32} {a : Nat} : EE 116 57 [l0, l1, l2, l3, l4, l5] (.int j :: .ref a :: st) (n, I, R) = (ardI 5 n I a j).bind (fun z => EE 116 58 [l0, l1, l2, l3, l4, l5] (.int z :: st) (n, I, R)) := e_iald d116_57
theorem d116_58 : decode (cod 116) 58 = .ok (.iconst 1, 1) := by decide +kernel
theorem s116_58 {M : Mm} {st : List Value} {l0 l1 l2 l3 l4 l5 : Option Value} : EE 116 58 [l0, l1, l2, l3, l4, l5] st M = EE 116 59 [l0, l1, l2, l3, l4, l5] (.int (nI 1) :: st) M := e_con d116_58 k_con_1
theorem d116_59 : decode (cod 116) 59 = .ok (.iadd, 1) := by decide +kernel
theorem s116_59 {M : Mm} {st : List Value} {l0 l1 l2 l3 l4 l5 : Option Value} {x y : Int32} : EE 116 59 [l0, l1, l2, l3, l4, l5] (.int y :: .int x :: st) M = EE 116 60 [l0, l1, l2, l3, l4, l5] (.int (x + y) :: st) M := e_II d116_59 rfl rfl rfl rfl rfl rfl
theorem d116_60 : decode (cod 116) 60 = .ok (.iastore, 1) := by decide +kernel
theorem s116_60 {n : Nat} {I : Nat → Nat → Int32} {R : Nat → Nat → Option Nat} {st : List Value} {l0 l1 l2 l3 l4 l5 : Option Value} {j x : Int32} {a : Nat} (h : acI 5 n a j) : EE 116 60 [l0, l1, l2, l3, l4, l5] (.int x :: .int j :: .ref a :: st) (n, I, R) = EE 116 61 [l0, l1, l2, l3, l4, l5] st (n, wI I a j.toNatClampNeg x, R) := e_iast d116_60 h
theorem d116_61 : decode (cod 116) 61 = .ok (.goto 24, 3) := by decide +kernel
theorem s116_61 {M : Mm} {st : List Value} {l0 l1 l2 l3 l4 l5 : Option Value} : EE 116 61 [l0, l1, l2, l3, l4, l5] st M = EE 116 85 [l0, l1, l2, l3, l4, l5] st M := e_goto d116_61 (by decide)
theorem d116_64 : decode (cod 116) 64 = .ok (.aload_n 0, 1) := by decide +kernel
theorem s116_64 {M : Mm} {st : List Value} {l1 l2 l3 l4 l5 : Option Value} {x : Nat} : EE 116 64 [some (.ref x), l1, l2, l3, l4, l5] st M = EE 116 65 [some (.ref x), l1, l2, l3, l4, l5] (.ref x :: st) M := e_ld d116_64 rfl rfl rfl rfl rfl rfl
theorem d116_65 : decode (cod 116) 65 = .ok (.iload_n 2, 1) := by decide +kernel
theorem s116_65 {M : Mm} {st : List Value} {l0 l1 l3 l4 l5 : Option Value} {x : Int32} : EE 116 65 [l0, l1, some (.int x), l3, l4, l5] st M = EE 116 66 [l0, l1, some (.int x), l3, l4, l5] (.int x :: st) M := e_ld d116_65 rfl rfl rfl rfl rfl rfl
theorem d116_66 : decode (cod 116) 66 = .ok (.iload 5, 2) := by decide +kernel
theorem s116_66 {M : Mm} {st : List Value} {l0 l1 l2 l3 l4 : Option Value} {x : Int32} : EE 116 66 [l0, l1, l2, l3, l4, some (.int x)] st M = EE 116 68 [l0, l1, l2, l3, l4, some (.int x)] (.int x :: st) M := e_ld d116_66 rfl rfl rfl rfl rfl rfl
theorem d116_68 : decode (cod 116) 68 = .ok (.invokestatic 47, 3) := by decide +kernel
theorem s116_68 {M : Mm} {l0 l1 l2 l3 l4 l5 : Option Value} {b0 : Int32} {b1 : Int32} {st : List Value} (hl : st.length ≤ 4) : EE 116 68 [l0, l1, l2, l3, l4, l5] (.int b1 :: .int b0 :: st) M = (FF 107 [.int b0, .int b1] M).bind (fun z => EE 116 71 [l0, l1, l2, l3, l4, l5] (psh z.1 st) z.2) := e_cals (av := [.int b0, .int b1]) d116_68 c3_47 (Or.inl rfl) rfl rfl r116_107 rfl hl
theorem d116_71 : decode (cod 116) 71 = .ok (.aload_n 0, 1) := by decide +kernel
theorem s116_71 {M : Mm} {st : List Value} {l1 l2 l3 l4 l5 : Option Value} {x : Nat} : EE 116 71 [some (.ref x), l1, l2, l3, l4, l5] st M = EE 116 72 [some (.ref x), l1, l2, l3, l4, l5] (.ref x :: st) M := e_ld d116_71 rfl rfl rfl rfl rfl rfl
theorem d116_72 : decode (cod 116) 72 = .ok (.iconst 3, 1) := by decide +kernel
theorem s116_72 {M : Mm} {st : List Value} {l0 l1 l2 l3 l4 l5 : Option Value} : EE 116 72 [l0, l1, l2, l3, l4, l5] st M = EE 116 73 [l0, l1, l2, l3, l4, l5] (.int (nI 3) :: st) M := e_con d116_72 k_con_3
theorem d116_73 : decode (cod 116) 73 = .ok (.iaload, 1) := by decide +kernel
theorem s116_73 {n : Nat} {I : Nat → Nat → Int32} {R : Nat → Nat → Option Nat} {st : List Value} {l0 l1 l2 l3 l4 l5 : Option Value} {j : Int32} {a : Nat} : EE 116 73 [l0, l1, l2, l3, l4, l5] (.int j :: .ref a :: st) (n, I, R) = (ardI 5 n I a j).bind (fun z => EE 116 74 [l0, l1, l2, l3, l4, l5] (.int z :: st) (n, I, R)) := e_iald d116_73
theorem d116_74 : decode (cod 116) 74 = .ok (.aload_n 0, 1) := by decide +kernel
theorem s116_74 {M : Mm} {st : List Value} {l1 l2 l3 l4 l5 : Option Value} {x : Nat} : EE 116 74 [some (.ref x), l1, l2, l3, l4, l5] st M = EE 116 75 [some (.ref x), l1, l2, l3, l4, l5] (.ref x :: st) M := e_ld d116_74 rfl rfl rfl rfl rfl rfl
theorem d116_75 : decode (cod 116) 75 = .ok (.iload_n 1, 1) := by decide +kernel
theorem s116_75 {M : Mm} {st : List Value} {l0 l2 l3 l4 l5 : Option Value} {x : Int32} : EE 116 75 [l0, some (.int x), l2, l3, l4, l5] st M = EE 116 76 [l0, some (.int x), l2, l3, l4, l5] (.int x :: st) M := e_ld d116_75 rfl rfl rfl rfl rfl rfl
theorem d116_76 : decode (cod 116) 76 = .ok (.iload 5, 2) := by decide +kernel
theorem s116_76 {M : Mm} {st : List Value} {l0 l1 l2 l3 l4 : Option Value} {x : Int32} : EE 116 76 [l0, l1, l2, l3, l4, some (.int x)] st M = EE 116 78 [l0, l1, l2, l3, l4, some (.int x)] (.int x :: st) M := e_ld d116_76 rfl rfl rfl rfl rfl rfl
theorem d116_78 : decode (cod 116) 78 = .ok (.invokestatic 47, 3) := by decide +kernel
theorem s116_78 {M : Mm} {l0 l1 l2 l3 l4 l5 : Option Value} {b0 : Int32} {b1 : Int32} {st : List Value} (hl : st.length ≤ 4) : EE 116 78 [l0, l1, l2, l3, l4, l5] (.int b1 :: .int b0 :: st) M = (FF 107 [.int b0, .int b1] M).bind (fun z => EE 116 81 [l0, l1, l2, l3, l4, l5] (psh z.1 st) z.2) := e_cals (av := [.int b0, .int b1]) d116_78 c3_47 (Or.inl rfl) rfl rfl r116_107 rfl hl
theorem d116_81 : decode (cod 116) 81 = .ok (.iaload, 1) := by decide +kernel
theorem s116_81 {n : Nat} {I : Nat → Nat → Int32} {R : Nat → Nat → Option Nat} {st : List Value} {l0 l1 l2 l3 l4 l5 : Option Value} {j : Int32} {a : Nat} : EE 116 81 [l0, l1, l2, l3, l4, l5] (.int j :: .ref a :: st) (n, I, R) = (ardI 5 n I a j).bind (fun z => EE 116 82 [l0, l1, l2, l3, l4, l5] (.int z :: st) (n, I, R)) := e_iald d116_81
theorem d116_82 : decode (cod 116) 82 = .ok (.invokestatic 59, 3) := by decide +kernel
theorem s116_82 {M : Mm} {l0 l1 l2 l3 l4 l5 : Option Value} {b0 : Nat} {b1 : Int32} {b2 : Int32} {b3 : Int32} {st : List Value} (hl : st.length ≤ 4) : EE 116 82 [l0, l1, l2, l3, l4, l5] (.int b3 :: .int b2 :: .int b1 :: .ref b0 :: st) M = (FF 108 [.ref b0, .int b1, .int b2, .int b3] M).bind (fun z => EE 116 85 [l0, l1, l2, l3, l4, l5] (psh z.1 st) z.2) := e_cals (av := [.ref b0, .int b1, .int b2, .int b3]) d116_82 c3_59 (Or.inl rfl) rfl rfl r116_108 rfl hl
theorem d116_85 : decode (cod 116) 85 = .ok (.iinc 4 1, 3) := by decide +kernel
theorem s116_85 {M : Mm} {st : List Value} {l0 l1 l2 l3 l5 : Option Value} {x : Int32} : EE 116 85 [l0, l1, l2, l3, some (.int x), l5] st M = EE 116 88 [l0, l1, l2, cln l3, some (.int (x + nI 1)), l5] st M := e_iinc d116_85 rfl (congrArg (fun z => x + z) k_inc_1) rfl
theorem d116_88 : decode (cod 116) 88 = .ok (.goto (-73), 3) := by decide +kernel
theorem s116_88 {M : Mm} {st : List Value} {l0 l1 l2 l3 l4 l5 : Option Value} : EE 116 88 [l0, l1, l2, l3, l4, l5] st M = EE 116 15 [l0, l1, l2, l3, l4, l5] st M := e_goto d116_88 (by decide)
theorem d116_91 : decode (cod 116) 91 = .ok (.return_, 1) := by decide +kernel
theorem s116_91 {M : Mm} {l0 l1 l2 l3 l4 l5 : Option Value} : EE 116 91 [l0, l1, l2, l3, l4, l5] [] M = some (none, M) := e_vret d116_91 rfl
theorem FE116 {b0 : Nat} {b1 : Int32} {b2 : Int32} {M : Mm} : FF 116 [.ref b0, .int b1, .int b2] M = EE 116 0 [some (.ref b0), some (.int b1), some (.int b2), none, none, none] [] M := FF_eq 116 _ _ (Nat.le_of_ble_eq_true rfl)
