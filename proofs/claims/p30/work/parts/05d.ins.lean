theorem d58_0 : decode (cod 58) 0 = .ok (.iload_n 1, 1) := by decide +kernel
theorem s58_0 {M : Mm} {st : List Value} {l0 l2 : Option Value} {x : Int32} : EE 58 0 [l0, some (.int x), l2] st M = EE 58 1 [l0, some (.int x), l2] (.int x :: st) M := e_ld d58_0 rfl rfl rfl rfl rfl rfl
theorem d58_1 : decode (cod 58) 1 = .ok (.invokestatic 87, 3) := by decide +kernel
theorem s58_1 {M : Mm} {l0 l1 l2 : Option Value} {b0 : Int32} {st : List Value} (hl : st.length ≤ 4) : EE 58 1 [l0, l1, l2] (.int b0 :: st) M = (FF 49 [.int b0] M).bind (fun z => EE 58 4 [l0, l1, l2] (psh z.1 st) z.2) := e_cals (av := [.int b0]) d58_1 c2_87 (Or.inl rfl) rfl rfl r58_49 rfl hl
theorem d58_4 : decode (cod 58) 4 = .ok (.ifCond .eq 26, 3) := by decide +kernel
theorem s58_4 {M : Mm} {st : List Value} {l0 l1 l2 : Option Value} {x : Int32} : EE 58 4 [l0, l1, l2] (.int x :: st) M = if x = 0 then EE 58 30 [l0, l1, l2] st M else EE 58 7 [l0, l1, l2] st M := e_eq0 d58_4 (by decide)
theorem d58_7 : decode (cod 58) 7 = .ok (.aload_n 0, 1) := by decide +kernel
theorem s58_7 {M : Mm} {st : List Value} {l1 l2 : Option Value} {x : Nat} : EE 58 7 [some (.ref x), l1, l2] st M = EE 58 8 [some (.ref x), l1, l2] (.ref x :: st) M := e_ld d58_7 rfl rfl rfl rfl rfl rfl
theorem d58_8 : decode (cod 58) 8 = .ok (.getfield 12, 3) := by decide +kernel
theorem s58_8 {n : Nat} {I : Nat → Nat → Int32} {R : Nat → Nat → Option Nat} {st : List Value} {l0 l1 l2 : Option Value} {a : Nat} : EE 58 8 [l0, l1, l2] (.ref a :: st) (n, I, R) = (gfI n I R 2 0 a).bind (fun z => EE 58 11 [l0, l1, l2] (z :: st) (n, I, R)) := e_getf d58_8 f2_12 rfl rfl
theorem d58_11 : decode (cod 58) 11 = .ok (.iload_n 2, 1) := by decide +kernel
theorem s58_11 {M : Mm} {st : List Value} {l0 l1 : Option Value} {x : Int32} : EE 58 11 [l0, l1, some (.int x)] st M = EE 58 12 [l0, l1, some (.int x)] (.int x :: st) M := e_ld d58_11 rfl rfl rfl rfl rfl rfl
theorem d58_12 : decode (cod 58) 12 = .ok (.invokevirtual 91, 3) := by decide +kernel
theorem s58_12 {l0 l1 l2 : Option Value} {a : Nat} {M : Mm} {b0 : Int32} {st : List Value} (hl : st.length ≤ 4) (ho : isO "HandoverDesk$State" M.1 a = true) : EE 58 12 [l0, l1, l2] (.int b0 :: .ref a :: st) M = (FF 18 (.ref a :: [.int b0]) M).bind (fun z => EE 58 15 [l0, l1, l2] (psh z.1 st) z.2) := e_calv (av := [.int b0]) d58_12 c2_91 rfl rfl rfl r58_18 rfl hl ho
theorem d58_15 : decode (cod 58) 15 = .ok (.ifCond .eq 15, 3) := by decide +kernel
theorem s58_15 {M : Mm} {st : List Value} {l0 l1 l2 : Option Value} {x : Int32} : EE 58 15 [l0, l1, l2] (.int x :: st) M = if x = 0 then EE 58 30 [l0, l1, l2] st M else EE 58 18 [l0, l1, l2] st M := e_eq0 d58_15 (by decide)
theorem d58_18 : decode (cod 58) 18 = .ok (.aload_n 0, 1) := by decide +kernel
theorem s58_18 {M : Mm} {st : List Value} {l1 l2 : Option Value} {x : Nat} : EE 58 18 [some (.ref x), l1, l2] st M = EE 58 19 [some (.ref x), l1, l2] (.ref x :: st) M := e_ld d58_18 rfl rfl rfl rfl rfl rfl
theorem d58_19 : decode (cod 58) 19 = .ok (.getfield 12, 3) := by decide +kernel
theorem s58_19 {n : Nat} {I : Nat → Nat → Int32} {R : Nat → Nat → Option Nat} {st : List Value} {l0 l1 l2 : Option Value} {a : Nat} : EE 58 19 [l0, l1, l2] (.ref a :: st) (n, I, R) = (gfI n I R 2 0 a).bind (fun z => EE 58 22 [l0, l1, l2] (z :: st) (n, I, R)) := e_getf d58_19 f2_12 rfl rfl
theorem d58_22 : decode (cod 58) 22 = .ok (.iload_n 1, 1) := by decide +kernel
theorem s58_22 {M : Mm} {st : List Value} {l0 l2 : Option Value} {x : Int32} : EE 58 22 [l0, some (.int x), l2] st M = EE 58 23 [l0, some (.int x), l2] (.int x :: st) M := e_ld d58_22 rfl rfl rfl rfl rfl rfl
theorem d58_23 : decode (cod 58) 23 = .ok (.iload_n 2, 1) := by decide +kernel
theorem s58_23 {M : Mm} {st : List Value} {l0 l1 : Option Value} {x : Int32} : EE 58 23 [l0, l1, some (.int x)] st M = EE 58 24 [l0, l1, some (.int x)] (.int x :: st) M := e_ld d58_23 rfl rfl rfl rfl rfl rfl
theorem d58_24 : decode (cod 58) 24 = .ok (.invokevirtual 94, 3) := by decide +kernel
theorem s58_24 {l0 l1 l2 : Option Value} {a : Nat} {M : Mm} {b0 : Int32} {b1 : Int32} {st : List Value} (hl : st.length ≤ 4) (ho : isO "HandoverDesk$State" M.1 a = true) : EE 58 24 [l0, l1, l2] (.int b1 :: .int b0 :: .ref a :: st) M = (FF 23 (.ref a :: [.int b0, .int b1]) M).bind (fun z => EE 58 27 [l0, l1, l2] (psh z.1 st) z.2) := e_calv (av := [.int b0, .int b1]) d58_24 c2_94 rfl rfl rfl r58_23 rfl hl ho
theorem d58_27 : decode (cod 58) 27 = .ok (.goto 4, 3) := by decide +kernel
theorem s58_27 {M : Mm} {st : List Value} {l0 l1 l2 : Option Value} : EE 58 27 [l0, l1, l2] st M = EE 58 31 [l0, l1, l2] st M := e_goto d58_27 (by decide)
theorem d58_30 : decode (cod 58) 30 = .ok (.iconst (-1), 1) := by decide +kernel
theorem s58_30 {M : Mm} {st : List Value} {l0 l1 l2 : Option Value} : EE 58 30 [l0, l1, l2] st M = EE 58 31 [l0, l1, l2] (.int ((-1)) :: st) M := e_con d58_30 k_con_m1
theorem d58_31 : decode (cod 58) 31 = .ok (.ireturn, 1) := by decide +kernel
theorem s58_31 {M : Mm} {l0 l1 l2 : Option Value} {v : Int32} : EE 58 31 [l0, l1, l2] [.int v] M = some (some (.int v), M) := e_iret d58_31 rfl rfl
theorem FE58 {a : Nat} {b0 : Int32} {b1 : Int32} {M : Mm} : FF 58 [.ref a, .int b0, .int b1] M = EE 58 0 [some (.ref a), some (.int b0), some (.int b1)] [] M := FF_eq 58 _ _ (Nat.le_of_ble_eq_true rfl)
theorem d59_0 : decode (cod 59) 0 = .ok (.aload_n 0, 1) := by decide +kernel
theorem s59_0 {M : Mm} {st : List Value} {l1 l2 : Option Value} {x : Nat} : EE 59 0 [some (.ref x), l1, l2] st M = EE 59 1 [some (.ref x), l1, l2] (.ref x :: st) M := e_ld d59_0 rfl rfl rfl rfl rfl rfl
theorem d59_1 : decode (cod 59) 1 = .ok (.getfield 12, 3) := by decide +kernel
theorem s59_1 {n : Nat} {I : Nat → Nat → Int32} {R : Nat → Nat → Option Nat} {st : List Value} {l0 l1 l2 : Option Value} {a : Nat} : EE 59 1 [l0, l1, l2] (.ref a :: st) (n, I, R) = (gfI n I R 2 0 a).bind (fun z => EE 59 4 [l0, l1, l2] (z :: st) (n, I, R)) := e_getf d59_1 f2_12 rfl rfl
theorem d59_4 : decode (cod 59) 4 = .ok (.iload_n 1, 1) := by decide +kernel
theorem s59_4 {M : Mm} {st : List Value} {l0 l2 : Option Value} {x : Int32} : EE 59 4 [l0, some (.int x), l2] st M = EE 59 5 [l0, some (.int x), l2] (.int x :: st) M := e_ld d59_4 rfl rfl rfl rfl rfl rfl
theorem d59_5 : decode (cod 59) 5 = .ok (.invokevirtual 91, 3) := by decide +kernel
theorem s59_5 {l0 l1 l2 : Option Value} {a : Nat} {M : Mm} {b0 : Int32} {st : List Value} (hl : st.length ≤ 4) (ho : isO "HandoverDesk$State" M.1 a = true) : EE 59 5 [l0, l1, l2] (.int b0 :: .ref a :: st) M = (FF 18 (.ref a :: [.int b0]) M).bind (fun z => EE 59 8 [l0, l1, l2] (psh z.1 st) z.2) := e_calv (av := [.int b0]) d59_5 c2_91 rfl rfl rfl r59_18 rfl hl ho
theorem d59_8 : decode (cod 59) 8 = .ok (.ifCond .ne 5, 3) := by decide +kernel
theorem s59_8 {M : Mm} {st : List Value} {l0 l1 l2 : Option Value} {x : Int32} : EE 59 8 [l0, l1, l2] (.int x :: st) M = if x = 0 then EE 59 11 [l0, l1, l2] st M else EE 59 13 [l0, l1, l2] st M := e_ne0 d59_8 (by decide)
theorem d59_11 : decode (cod 59) 11 = .ok (.iconst (-1), 1) := by decide +kernel
theorem s59_11 {M : Mm} {st : List Value} {l0 l1 l2 : Option Value} : EE 59 11 [l0, l1, l2] st M = EE 59 12 [l0, l1, l2] (.int ((-1)) :: st) M := e_con d59_11 k_con_m1
theorem d59_12 : decode (cod 59) 12 = .ok (.ireturn, 1) := by decide +kernel
theorem s59_12 {M : Mm} {l0 l1 l2 : Option Value} {v : Int32} : EE 59 12 [l0, l1, l2] [.int v] M = some (some (.int v), M) := e_iret d59_12 rfl rfl
theorem d59_13 : decode (cod 59) 13 = .ok (.iload_n 2, 1) := by decide +kernel
theorem s59_13 {M : Mm} {st : List Value} {l0 l1 : Option Value} {x : Int32} : EE 59 13 [l0, l1, some (.int x)] st M = EE 59 14 [l0, l1, some (.int x)] (.int x :: st) M := e_ld d59_13 rfl rfl rfl rfl rfl rfl
theorem d59_14 : decode (cod 59) 14 = .ok (.tableswitch 132 0 6 #[42, 59, 84, 93, 102, 112, 122], 42) := by decide +kernel
theorem s59_14_0 {M : Mm} {st : List Value} {l0 l1 l2 : Option Value} : EE 59 14 [l0, l1, l2] (.int (nI 0) :: st) M = EE 59 56 [l0, l1, l2] st M := e_tab d59_14 (by decide +kernel)
theorem s59_14_1 {M : Mm} {st : List Value} {l0 l1 l2 : Option Value} : EE 59 14 [l0, l1, l2] (.int (nI 1) :: st) M = EE 59 73 [l0, l1, l2] st M := e_tab d59_14 (by decide +kernel)
theorem s59_14_2 {M : Mm} {st : List Value} {l0 l1 l2 : Option Value} : EE 59 14 [l0, l1, l2] (.int (nI 2) :: st) M = EE 59 98 [l0, l1, l2] st M := e_tab d59_14 (by decide +kernel)
theorem s59_14_3 {M : Mm} {st : List Value} {l0 l1 l2 : Option Value} : EE 59 14 [l0, l1, l2] (.int (nI 3) :: st) M = EE 59 107 [l0, l1, l2] st M := e_tab d59_14 (by decide +kernel)
theorem s59_14_4 {M : Mm} {st : List Value} {l0 l1 l2 : Option Value} : EE 59 14 [l0, l1, l2] (.int (nI 4) :: st) M = EE 59 116 [l0, l1, l2] st M := e_tab d59_14 (by decide +kernel)
theorem s59_14_5 {M : Mm} {st : List Value} {l0 l1 l2 : Option Value} : EE 59 14 [l0, l1, l2] (.int (nI 5) :: st) M = EE 59 126 [l0, l1, l2] st M := e_tab d59_14 (by decide +kernel)
theorem s59_14_6 {M : Mm} {st : List Value} {l0 l1 l2 : Option Value} : EE 59 14 [l0, l1, l2] (.int (nI 6) :: st) M = EE 59 136 [l0, l1, l2] st M := e_tab d59_14 (by decide +kernel)
theorem s59_14_d {M : Mm} {st : List Value} {l0 l1 l2 : Option Value} {x : Int32} (h : x.toInt < 0 ∨ 6 < x.toInt) : EE 59 14 [l0, l1, l2] (.int x :: st) M = EE 59 146 [l0, l1, l2] st M := e_tab d59_14 (by rw [if_pos h]; decide +kernel)
theorem d59_56 : decode (cod 59) 56 = .ok (.aload_n 0, 1) := by decide +kernel
theorem s59_56 {M : Mm} {st : List Value} {l1 l2 : Option Value} {x : Nat} : EE 59 56 [some (.ref x), l1, l2] st M = EE 59 57 [some (.ref x), l1, l2] (.ref x :: st) M := e_ld d59_56 rfl rfl rfl rfl rfl rfl
theorem d59_57 : decode (cod 59) 57 = .ok (.getfield 12, 3) := by decide +kernel
theorem s59_57 {n : Nat} {I : Nat → Nat → Int32} {R : Nat → Nat → Option Nat} {st : List Value} {l0 l1 l2 : Option Value} {a : Nat} : EE 59 57 [l0, l1, l2] (.ref a :: st) (n, I, R) = (gfI n I R 2 0 a).bind (fun z => EE 59 60 [l0, l1, l2] (z :: st) (n, I, R)) := e_getf d59_57 f2_12 rfl rfl
theorem d59_60 : decode (cod 59) 60 = .ok (.iload_n 1, 1) := by decide +kernel
theorem s59_60 {M : Mm} {st : List Value} {l0 l2 : Option Value} {x : Int32} : EE 59 60 [l0, some (.int x), l2] st M = EE 59 61 [l0, some (.int x), l2] (.int x :: st) M := e_ld d59_60 rfl rfl rfl rfl rfl rfl
theorem d59_61 : decode (cod 59) 61 = .ok (.invokevirtual 97, 3) := by decide +kernel
theorem s59_61 {l0 l1 l2 : Option Value} {a : Nat} {M : Mm} {b0 : Int32} {st : List Value} (hl : st.length ≤ 4) (ho : isO "HandoverDesk$State" M.1 a = true) : EE 59 61 [l0, l1, l2] (.int b0 :: .ref a :: st) M = (FF 19 (.ref a :: [.int b0]) M).bind (fun z => EE 59 64 [l0, l1, l2] (psh z.1 st) z.2) := e_calv (av := [.int b0]) d59_61 c2_97 rfl rfl rfl r59_19 rfl hl ho
theorem d59_64 : decode (cod 59) 64 = .ok (.ifCond .eq 7, 3) := by decide +kernel
theorem s59_64 {M : Mm} {st : List Value} {l0 l1 l2 : Option Value} {x : Int32} : EE 59 64 [l0, l1, l2] (.int x :: st) M = if x = 0 then EE 59 71 [l0, l1, l2] st M else EE 59 67 [l0, l1, l2] st M := e_eq0 d59_64 (by decide)
theorem d59_67 : decode (cod 59) 67 = .ok (.iconst 1, 1) := by decide +kernel
theorem s59_67 {M : Mm} {st : List Value} {l0 l1 l2 : Option Value} : EE 59 67 [l0, l1, l2] st M = EE 59 68 [l0, l1, l2] (.int (nI 1) :: st) M := e_con d59_67 k_con_1
theorem d59_68 : decode (cod 59) 68 = .ok (.goto 4, 3) := by decide +kernel
theorem s59_68 {M : Mm} {st : List Value} {l0 l1 l2 : Option Value} : EE 59 68 [l0, l1, l2] st M = EE 59 72 [l0, l1, l2] st M := e_goto d59_68 (by decide)
theorem d59_71 : decode (cod 59) 71 = .ok (.iconst 0, 1) := by decide +kernel
theorem s59_71 {M : Mm} {st : List Value} {l0 l1 l2 : Option Value} : EE 59 71 [l0, l1, l2] st M = EE 59 72 [l0, l1, l2] (.int (nI 0) :: st) M := e_con d59_71 k_con_0
theorem d59_72 : decode (cod 59) 72 = .ok (.ireturn, 1) := by decide +kernel
theorem s59_72 {M : Mm} {l0 l1 l2 : Option Value} {v : Int32} : EE 59 72 [l0, l1, l2] [.int v] M = some (some (.int v), M) := e_iret d59_72 rfl rfl
theorem d59_73 : decode (cod 59) 73 = .ok (.aload_n 0, 1) := by decide +kernel
theorem s59_73 {M : Mm} {st : List Value} {l1 l2 : Option Value} {x : Nat} : EE 59 73 [some (.ref x), l1, l2] st M = EE 59 74 [some (.ref x), l1, l2] (.ref x :: st) M := e_ld d59_73 rfl rfl rfl rfl rfl rfl
theorem d59_74 : decode (cod 59) 74 = .ok (.getfield 12, 3) := by decide +kernel
theorem s59_74 {n : Nat} {I : Nat → Nat → Int32} {R : Nat → Nat → Option Nat} {st : List Value} {l0 l1 l2 : Option Value} {a : Nat} : EE 59 74 [l0, l1, l2] (.ref a :: st) (n, I, R) = (gfI n I R 2 0 a).bind (fun z => EE 59 77 [l0, l1, l2] (z :: st) (n, I, R)) := e_getf d59_74 f2_12 rfl rfl
theorem d59_77 : decode (cod 59) 77 = .ok (.iload_n 1, 1) := by decide +kernel
theorem s59_77 {M : Mm} {st : List Value} {l0 l2 : Option Value} {x : Int32} : EE 59 77 [l0, some (.int x), l2] st M = EE 59 78 [l0, some (.int x), l2] (.int x :: st) M := e_ld d59_77 rfl rfl rfl rfl rfl rfl
theorem d59_78 : decode (cod 59) 78 = .ok (.invokevirtual 97, 3) := by decide +kernel
theorem s59_78 {l0 l1 l2 : Option Value} {a : Nat} {M : Mm} {b0 : Int32} {st : List Value} (hl : st.length ≤ 4) (ho : isO "HandoverDesk$State" M.1 a = true) : EE 59 78 [l0, l1, l2] (.int b0 :: .ref a :: st) M = (FF 19 (.ref a :: [.int b0]) M).bind (fun z => EE 59 81 [l0, l1, l2] (psh z.1 st) z.2) := e_calv (av := [.int b0]) d59_78 c2_97 rfl rfl rfl r59_19 rfl hl ho
theorem d59_81 : decode (cod 59) 81 = .ok (.ifCond .eq 14, 3) := by decide +kernel
theorem s59_81 {M : Mm} {st : List Value} {l0 l1 l2 : Option Value} {x : Int32} : EE 59 81 [l0, l1, l2] (.int x :: st) M = if x = 0 then EE 59 95 [l0, l1, l2] st M else EE 59 84 [l0, l1, l2] st M := e_eq0 d59_81 (by decide)
theorem d59_84 : decode (cod 59) 84 = .ok (.aload_n 0, 1) := by decide +kernel
theorem s59_84 {M : Mm} {st : List Value} {l1 l2 : Option Value} {x : Nat} : EE 59 84 [some (.ref x), l1, l2] st M = EE 59 85 [some (.ref x), l1, l2] (.ref x :: st) M := e_ld d59_84 rfl rfl rfl rfl rfl rfl
theorem d59_85 : decode (cod 59) 85 = .ok (.getfield 12, 3) := by decide +kernel
theorem s59_85 {n : Nat} {I : Nat → Nat → Int32} {R : Nat → Nat → Option Nat} {st : List Value} {l0 l1 l2 : Option Value} {a : Nat} : EE 59 85 [l0, l1, l2] (.ref a :: st) (n, I, R) = (gfI n I R 2 0 a).bind (fun z => EE 59 88 [l0, l1, l2] (z :: st) (n, I, R)) := e_getf d59_85 f2_12 rfl rfl
theorem d59_88 : decode (cod 59) 88 = .ok (.iload_n 1, 1) := by decide +kernel
theorem s59_88 {M : Mm} {st : List Value} {l0 l2 : Option Value} {x : Int32} : EE 59 88 [l0, some (.int x), l2] st M = EE 59 89 [l0, some (.int x), l2] (.int x :: st) M := e_ld d59_88 rfl rfl rfl rfl rfl rfl
theorem d59_89 : decode (cod 59) 89 = .ok (.invokevirtual 100, 3) := by decide +kernel
theorem s59_89 {l0 l1 l2 : Option Value} {a : Nat} {M : Mm} {b0 : Int32} {st : List Value} (hl : st.length ≤ 4) (ho : isO "HandoverDesk$State" M.1 a = true) : EE 59 89 [l0, l1, l2] (.int b0 :: .ref a :: st) M = (FF 37 (.ref a :: [.int b0]) M).bind (fun z => EE 59 92 [l0, l1, l2] (psh z.1 st) z.2) := e_calv (av := [.int b0]) d59_89 c2_100 rfl rfl rfl r59_37 rfl hl ho
theorem d59_92 : decode (cod 59) 92 = .ok (.goto 5, 3) := by decide +kernel
theorem s59_92 {M : Mm} {st : List Value} {l0 l1 l2 : Option Value} : EE 59 92 [l0, l1, l2] st M = EE 59 97 [l0, l1, l2] st M := e_goto d59_92 (by decide)
theorem d59_95 : decode (cod 59) 95 = .ok (.bipush (-6), 2) := by decide +kernel
theorem s59_95 {M : Mm} {st : List Value} {l0 l1 l2 : Option Value} : EE 59 95 [l0, l1, l2] st M = EE 59 97 [l0, l1, l2] (.int ((-6)) :: st) M := e_bip d59_95 k_bip_m6
theorem d59_97 : decode (cod 59) 97 = .ok (.ireturn, 1) := by decide +kernel
theorem s59_97 {M : Mm} {l0 l1 l2 : Option Value} {v : Int32} : EE 59 97 [l0, l1, l2] [.int v] M = some (some (.int v), M) := e_iret d59_97 rfl rfl
theorem d59_98 : decode (cod 59) 98 = .ok (.aload_n 0, 1) := by decide +kernel
theorem s59_98 {M : Mm} {st : List Value} {l1 l2 : Option Value} {x : Nat} : EE 59 98 [some (.ref x), l1, l2] st M = EE 59 99 [some (.ref x), l1, l2] (.ref x :: st) M := e_ld d59_98 rfl rfl rfl rfl rfl rfl
theorem d59_99 : decode (cod 59) 99 = .ok (.getfield 12, 3) := by decide +kernel
theorem s59_99 {n : Nat} {I : Nat → Nat → Int32} {R : Nat → Nat → Option Nat} {st : List Value} {l0 l1 l2 : Option Value} {a : Nat} : EE 59 99 [l0, l1, l2] (.ref a :: st) (n, I, R) = (gfI n I R 2 0 a).bind (fun z => EE 59 102 [l0, l1, l2] (z :: st) (n, I, R)) := e_getf d59_99 f2_12 rfl rfl
theorem d59_102 : decode (cod 59) 102 = .ok (.iload_n 1, 1) := by decide +kernel
theorem s59_102 {M : Mm} {st : List Value} {l0 l2 : Option Value} {x : Int32} : EE 59 102 [l0, some (.int x), l2] st M = EE 59 103 [l0, some (.int x), l2] (.int x :: st) M := e_ld d59_102 rfl rfl rfl rfl rfl rfl
theorem d59_103 : decode (cod 59) 103 = .ok (.invokevirtual 103, 3) := by decide +kernel
theorem s59_103 {l0 l1 l2 : Option Value} {a : Nat} {M : Mm} {b0 : Int32} {st : List Value} (hl : st.length ≤ 4) (ho : isO "HandoverDesk$State" M.1 a = true) : EE 59 103 [l0, l1, l2] (.int b0 :: .ref a :: st) M = (FF 21 (.ref a :: [.int b0]) M).bind (fun z => EE 59 106 [l0, l1, l2] (psh z.1 st) z.2) := e_calv (av := [.int b0]) d59_103 c2_103 rfl rfl rfl r59_21 rfl hl ho
theorem d59_106 : decode (cod 59) 106 = .ok (.ireturn, 1) := by decide +kernel
theorem s59_106 {M : Mm} {l0 l1 l2 : Option Value} {v : Int32} : EE 59 106 [l0, l1, l2] [.int v] M = some (some (.int v), M) := e_iret d59_106 rfl rfl
theorem d59_107 : decode (cod 59) 107 = .ok (.aload_n 0, 1) := by decide +kernel
theorem s59_107 {M : Mm} {st : List Value} {l1 l2 : Option Value} {x : Nat} : EE 59 107 [some (.ref x), l1, l2] st M = EE 59 108 [some (.ref x), l1, l2] (.ref x :: st) M := e_ld d59_107 rfl rfl rfl rfl rfl rfl
theorem d59_108 : decode (cod 59) 108 = .ok (.getfield 12, 3) := by decide +kernel
theorem s59_108 {n : Nat} {I : Nat → Nat → Int32} {R : Nat → Nat → Option Nat} {st : List Value} {l0 l1 l2 : Option Value} {a : Nat} : EE 59 108 [l0, l1, l2] (.ref a :: st) (n, I, R) = (gfI n I R 2 0 a).bind (fun z => EE 59 111 [l0, l1, l2] (z :: st) (n, I, R)) := e_getf d59_108 f2_12 rfl rfl
theorem d59_111 : decode (cod 59) 111 = .ok (.iload_n 1, 1) := by decide +kernel
theorem s59_111 {M : Mm} {st : List Value} {l0 l2 : Option Value} {x : Int32} : EE 59 111 [l0, some (.int x), l2] st M = EE 59 112 [l0, some (.int x), l2] (.int x :: st) M := e_ld d59_111 rfl rfl rfl rfl rfl rfl
theorem d59_112 : decode (cod 59) 112 = .ok (.invokevirtual 106, 3) := by decide +kernel
theorem s59_112 {l0 l1 l2 : Option Value} {a : Nat} {M : Mm} {b0 : Int32} {st : List Value} (hl : st.length ≤ 4) (ho : isO "HandoverDesk$State" M.1 a = true) : EE 59 112 [l0, l1, l2] (.int b0 :: .ref a :: st) M = (FF 27 (.ref a :: [.int b0]) M).bind (fun z => EE 59 115 [l0, l1, l2] (psh z.1 st) z.2) := e_calv (av := [.int b0]) d59_112 c2_106 rfl rfl rfl r59_27 rfl hl ho
theorem d59_115 : decode (cod 59) 115 = .ok (.ireturn, 1) := by decide +kernel
theorem s59_115 {M : Mm} {l0 l1 l2 : Option Value} {v : Int32} : EE 59 115 [l0, l1, l2] [.int v] M = some (some (.int v), M) := e_iret d59_115 rfl rfl
theorem d59_116 : decode (cod 59) 116 = .ok (.aload_n 0, 1) := by decide +kernel
theorem s59_116 {M : Mm} {st : List Value} {l1 l2 : Option Value} {x : Nat} : EE 59 116 [some (.ref x), l1, l2] st M = EE 59 117 [some (.ref x), l1, l2] (.ref x :: st) M := e_ld d59_116 rfl rfl rfl rfl rfl rfl
theorem d59_117 : decode (cod 59) 117 = .ok (.getfield 12, 3) := by decide +kernel
theorem s59_117 {n : Nat} {I : Nat → Nat → Int32} {R : Nat → Nat → Option Nat} {st : List Value} {l0 l1 l2 : Option Value} {a : Nat} : EE 59 117 [l0, l1, l2] (.ref a :: st) (n, I, R) = (gfI n I R 2 0 a).bind (fun z => EE 59 120 [l0, l1, l2] (z :: st) (n, I, R)) := e_getf d59_117 f2_12 rfl rfl
theorem d59_120 : decode (cod 59) 120 = .ok (.getfield 109, 3) := by decide +kernel
theorem s59_120 {n : Nat} {I : Nat → Nat → Int32} {R : Nat → Nat → Option Nat} {st : List Value} {l0 l1 l2 : Option Value} {a : Nat} : EE 59 120 [l0, l1, l2] (.ref a :: st) (n, I, R) = (gfI n I R 1 5 a).bind (fun z => EE 59 123 [l0, l1, l2] (z :: st) (n, I, R)) := e_getf d59_120 f2_109 rfl rfl
theorem d59_123 : decode (cod 59) 123 = .ok (.iload_n 1, 1) := by decide +kernel
theorem s59_123 {M : Mm} {st : List Value} {l0 l2 : Option Value} {x : Int32} : EE 59 123 [l0, some (.int x), l2] st M = EE 59 124 [l0, some (.int x), l2] (.int x :: st) M := e_ld d59_123 rfl rfl rfl rfl rfl rfl
theorem d59_124 : decode (cod 59) 124 = .ok (.iaload, 1) := by decide +kernel
theorem s59_124 {n : Nat} {I : Nat → Nat → Int32} {R : Nat → Nat → Option Nat} {st : List Value} {l0 l1 l2 : Option Value} {j : Int32} {a : Nat} : EE 59 124 [l0, l1, l2] (.int j :: .ref a :: st) (n, I, R) = (ardI 5 n I a j).bind (fun z => EE 59 125 [l0, l1, l2] (.int z :: st) (n, I, R)) := e_iald d59_124
theorem d59_125 : decode (cod 59) 125 = .ok (.ireturn, 1) := by decide +kernel
theorem s59_125 {M : Mm} {l0 l1 l2 : Option Value} {v : Int32} : EE 59 125 [l0, l1, l2] [.int v] M = some (some (.int v), M) := e_iret d59_125 rfl rfl
theorem d59_126 : decode (cod 59) 126 = .ok (.aload_n 0, 1) := by decide +kernel
theorem s59_126 {M : Mm} {st : List Value} {l1 l2 : Option Value} {x : Nat} : EE 59 126 [some (.ref x), l1, l2] st M = EE 59 127 [some (.ref x), l1, l2] (.ref x :: st) M := e_ld d59_126 rfl rfl rfl rfl rfl rfl
theorem d59_127 : decode (cod 59) 127 = .ok (.getfield 12, 3) := by decide +kernel
theorem s59_127 {n : Nat} {I : Nat → Nat → Int32} {R : Nat → Nat → Option Nat} {st : List Value} {l0 l1 l2 : Option Value} {a : Nat} : EE 59 127 [l0, l1, l2] (.ref a :: st) (n, I, R) = (gfI n I R 2 0 a).bind (fun z => EE 59 130 [l0, l1, l2] (z :: st) (n, I, R)) := e_getf d59_127 f2_12 rfl rfl
theorem d59_130 : decode (cod 59) 130 = .ok (.getfield 113, 3) := by decide +kernel
theorem s59_130 {n : Nat} {I : Nat → Nat → Int32} {R : Nat → Nat → Option Nat} {st : List Value} {l0 l1 l2 : Option Value} {a : Nat} : EE 59 130 [l0, l1, l2] (.ref a :: st) (n, I, R) = (gfI n I R 1 6 a).bind (fun z => EE 59 133 [l0, l1, l2] (z :: st) (n, I, R)) := e_getf d59_130 f2_113 rfl rfl
theorem d59_133 : decode (cod 59) 133 = .ok (.iload_n 1, 1) := by decide +kernel
theorem s59_133 {M : Mm} {st : List Value} {l0 l2 : Option Value} {x : Int32} : EE 59 133 [l0, some (.int x), l2] st M = EE 59 134 [l0, some (.int x), l2] (.int x :: st) M := e_ld d59_133 rfl rfl rfl rfl rfl rfl
theorem d59_134 : decode (cod 59) 134 = .ok (.iaload, 1) := by decide +kernel
theorem s59_134 {n : Nat} {I : Nat → Nat → Int32} {R : Nat → Nat → Option Nat} {st : List Value} {l0 l1 l2 : Option Value} {j : Int32} {a : Nat} : EE 59 134 [l0, l1, l2] (.int j :: .ref a :: st) (n, I, R) = (ardI 5 n I a j).bind (fun z => EE 59 135 [l0, l1, l2] (.int z :: st) (n, I, R)) := e_iald d59_134
theorem d59_135 : decode (cod 59) 135 = .ok (.ireturn, 1) := by decide +kernel
theorem s59_135 {M : Mm} {l0 l1 l2 : Option Value} {v : Int32} : EE 59 135 [l0, l1, l2] [.int v] M = some (some (.int v), M) := e_iret d59_135 rfl rfl
theorem d59_136 : decode (cod 59) 136 = .ok (.aload_n 0, 1) := by decide +kernel
theorem s59_136 {M : Mm} {st : List Value} {l1 l2 : Option Value} {x : Nat} : EE 59 136 [some (.ref x), l1, l2] st M = EE 59 137 [some (.ref x), l1, l2] (.ref x :: st) M := e_ld d59_136 rfl rfl rfl rfl rfl rfl
theorem d59_137 : decode (cod 59) 137 = .ok (.getfield 12, 3) := by decide +kernel
theorem s59_137 {n : Nat} {I : Nat → Nat → Int32} {R : Nat → Nat → Option Nat} {st : List Value} {l0 l1 l2 : Option Value} {a : Nat} : EE 59 137 [l0, l1, l2] (.ref a :: st) (n, I, R) = (gfI n I R 2 0 a).bind (fun z => EE 59 140 [l0, l1, l2] (z :: st) (n, I, R)) := e_getf d59_137 f2_12 rfl rfl
theorem d59_140 : decode (cod 59) 140 = .ok (.getfield 116, 3) := by decide +kernel
theorem s59_140 {n : Nat} {I : Nat → Nat → Int32} {R : Nat → Nat → Option Nat} {st : List Value} {l0 l1 l2 : Option Value} {a : Nat} : EE 59 140 [l0, l1, l2] (.ref a :: st) (n, I, R) = (gfI n I R 1 7 a).bind (fun z => EE 59 143 [l0, l1, l2] (z :: st) (n, I, R)) := e_getf d59_140 f2_116 rfl rfl
theorem d59_143 : decode (cod 59) 143 = .ok (.iload_n 1, 1) := by decide +kernel
theorem s59_143 {M : Mm} {st : List Value} {l0 l2 : Option Value} {x : Int32} : EE 59 143 [l0, some (.int x), l2] st M = EE 59 144 [l0, some (.int x), l2] (.int x :: st) M := e_ld d59_143 rfl rfl rfl rfl rfl rfl
theorem d59_144 : decode (cod 59) 144 = .ok (.iaload, 1) := by decide +kernel
theorem s59_144 {n : Nat} {I : Nat → Nat → Int32} {R : Nat → Nat → Option Nat} {st : List Value} {l0 l1 l2 : Option Value} {j : Int32} {a : Nat} : EE 59 144 [l0, l1, l2] (.int j :: .ref a :: st) (n, I, R) = (ardI 5 n I a j).bind (fun z => EE 59 145 [l0, l1, l2] (.int z :: st) (n, I, R)) := e_iald d59_144
theorem d59_145 : decode (cod 59) 145 = .ok (.ireturn, 1) := by decide +kernel
theorem s59_145 {M : Mm} {l0 l1 l2 : Option Value} {v : Int32} : EE 59 145 [l0, l1, l2] [.int v] M = some (some (.int v), M) := e_iret d59_145 rfl rfl
theorem d59_146 : decode (cod 59) 146 = .ok (.bipush (-2), 2) := by decide +kernel
theorem s59_146 {M : Mm} {st : List Value} {l0 l1 l2 : Option Value} : EE 59 146 [l0, l1, l2] st M = EE 59 148 [l0, l1, l2] (.int ((-2)) :: st) M := e_bip d59_146 k_bip_m2
theorem d59_148 : decode (cod 59) 148 = .ok (.ireturn, 1) := by decide +kernel
theorem s59_148 {M : Mm} {l0 l1 l2 : Option Value} {v : Int32} : EE 59 148 [l0, l1, l2] [.int v] M = some (some (.int v), M) := e_iret d59_148 rfl rfl
theorem FE59 {a : Nat} {b0 : Int32} {b1 : Int32} {M : Mm} : FF 59 [.ref a, .int b0, .int b1] M = EE 59 0 [some (.ref a), some (.int b0), some (.int b1)] [] M := FF_eq 59 _ _ (Nat.le_of_ble_eq_true rfl)
theorem d60_0 : decode (cod 60) 0 = .ok (.iload_n 1, 1) := by decide +kernel
theorem s60_0 {M : Mm} {st : List Value} {l0 : Option Value} {x : Int32} : EE 60 0 [l0, some (.int x)] st M = EE 60 1 [l0, some (.int x)] (.int x :: st) M := e_ld d60_0 rfl rfl rfl rfl rfl rfl
theorem d60_1 : decode (cod 60) 1 = .ok (.ifCond .lt 26, 3) := by decide +kernel
theorem s60_1 {M : Mm} {st : List Value} {l0 l1 : Option Value} {x : Int32} : EE 60 1 [l0, l1] (.int x :: st) M = if x < 0 then EE 60 27 [l0, l1] st M else EE 60 4 [l0, l1] st M := e_lt0 d60_1 (by decide)
theorem d60_4 : decode (cod 60) 4 = .ok (.iload_n 1, 1) := by decide +kernel
theorem s60_4 {M : Mm} {st : List Value} {l0 : Option Value} {x : Int32} : EE 60 4 [l0, some (.int x)] st M = EE 60 5 [l0, some (.int x)] (.int x :: st) M := e_ld d60_4 rfl rfl rfl rfl rfl rfl
theorem d60_5 : decode (cod 60) 5 = .ok (.aload_n 0, 1) := by decide +kernel
theorem s60_5 {M : Mm} {st : List Value} {l1 : Option Value} {x : Nat} : EE 60 5 [some (.ref x), l1] st M = EE 60 6 [some (.ref x), l1] (.ref x :: st) M := e_ld d60_5 rfl rfl rfl rfl rfl rfl
theorem d60_6 : decode (cod 60) 6 = .ok (.getfield 12, 3) := by decide +kernel
theorem s60_6 {n : Nat} {I : Nat → Nat → Int32} {R : Nat → Nat → Option Nat} {st : List Value} {l0 l1 : Option Value} {a : Nat} : EE 60 6 [l0, l1] (.ref a :: st) (n, I, R) = (gfI n I R 2 0 a).bind (fun z => EE 60 9 [l0, l1] (z :: st) (n, I, R)) := e_getf d60_6 f2_12 rfl rfl
theorem d60_9 : decode (cod 60) 9 = .ok (.getfield 119, 3) := by decide +kernel
theorem s60_9 {n : Nat} {I : Nat → Nat → Int32} {R : Nat → Nat → Option Nat} {st : List Value} {l0 l1 : Option Value} {a : Nat} : EE 60 9 [l0, l1] (.ref a :: st) (n, I, R) = (gfI n I R 1 10 a).bind (fun z => EE 60 12 [l0, l1] (z :: st) (n, I, R)) := e_getf d60_9 f2_119 rfl rfl
theorem d60_12 : decode (cod 60) 12 = .ok (.if_icmp .ge 15, 3) := by decide +kernel
theorem s60_12 {M : Mm} {st : List Value} {l0 l1 : Option Value} {x y : Int32} : EE 60 12 [l0, l1] (.int y :: .int x :: st) M = if y ≤ x then EE 60 27 [l0, l1] st M else EE 60 15 [l0, l1] st M := e_cge d60_12 (by decide)
theorem d60_15 : decode (cod 60) 15 = .ok (.aload_n 0, 1) := by decide +kernel
theorem s60_15 {M : Mm} {st : List Value} {l1 : Option Value} {x : Nat} : EE 60 15 [some (.ref x), l1] st M = EE 60 16 [some (.ref x), l1] (.ref x :: st) M := e_ld d60_15 rfl rfl rfl rfl rfl rfl
theorem d60_16 : decode (cod 60) 16 = .ok (.getfield 12, 3) := by decide +kernel
theorem s60_16 {n : Nat} {I : Nat → Nat → Int32} {R : Nat → Nat → Option Nat} {st : List Value} {l0 l1 : Option Value} {a : Nat} : EE 60 16 [l0, l1] (.ref a :: st) (n, I, R) = (gfI n I R 2 0 a).bind (fun z => EE 60 19 [l0, l1] (z :: st) (n, I, R)) := e_getf d60_16 f2_12 rfl rfl
theorem d60_19 : decode (cod 60) 19 = .ok (.getfield 123, 3) := by decide +kernel
theorem s60_19 {n : Nat} {I : Nat → Nat → Int32} {R : Nat → Nat → Option Nat} {st : List Value} {l0 l1 : Option Value} {a : Nat} : EE 60 19 [l0, l1] (.ref a :: st) (n, I, R) = (gfI n I R 1 4 a).bind (fun z => EE 60 22 [l0, l1] (z :: st) (n, I, R)) := e_getf d60_19 f2_123 rfl rfl
theorem d60_22 : decode (cod 60) 22 = .ok (.iload_n 1, 1) := by decide +kernel
theorem s60_22 {M : Mm} {st : List Value} {l0 : Option Value} {x : Int32} : EE 60 22 [l0, some (.int x)] st M = EE 60 23 [l0, some (.int x)] (.int x :: st) M := e_ld d60_22 rfl rfl rfl rfl rfl rfl
theorem d60_23 : decode (cod 60) 23 = .ok (.iaload, 1) := by decide +kernel
theorem s60_23 {n : Nat} {I : Nat → Nat → Int32} {R : Nat → Nat → Option Nat} {st : List Value} {l0 l1 : Option Value} {j : Int32} {a : Nat} : EE 60 23 [l0, l1] (.int j :: .ref a :: st) (n, I, R) = (ardI 5 n I a j).bind (fun z => EE 60 24 [l0, l1] (.int z :: st) (n, I, R)) := e_iald d60_23
theorem d60_24 : decode (cod 60) 24 = .ok (.goto 4, 3) := by decide +kernel
theorem s60_24 {M : Mm} {st : List Value} {l0 l1 : Option Value} : EE 60 24 [l0, l1] st M = EE 60 28 [l0, l1] st M := e_goto d60_24 (by decide)
theorem d60_27 : decode (cod 60) 27 = .ok (.iconst (-1), 1) := by decide +kernel
theorem s60_27 {M : Mm} {st : List Value} {l0 l1 : Option Value} : EE 60 27 [l0, l1] st M = EE 60 28 [l0, l1] (.int ((-1)) :: st) M := e_con d60_27 k_con_m1
theorem d60_28 : decode (cod 60) 28 = .ok (.ireturn, 1) := by decide +kernel
theorem s60_28 {M : Mm} {l0 l1 : Option Value} {v : Int32} : EE 60 28 [l0, l1] [.int v] M = some (some (.int v), M) := e_iret d60_28 rfl rfl
theorem FE60 {a : Nat} {b0 : Int32} {M : Mm} : FF 60 [.ref a, .int b0] M = EE 60 0 [some (.ref a), some (.int b0)] [] M := FF_eq 60 _ _ (Nat.le_of_ble_eq_true rfl)
theorem d61_0 : decode (cod 61) 0 = .ok (.iload_n 1, 1) := by decide +kernel
theorem s61_0 {M : Mm} {st : List Value} {l0 l2 : Option Value} {x : Int32} : EE 61 0 [l0, some (.int x), l2] st M = EE 61 1 [l0, some (.int x), l2] (.int x :: st) M := e_ld d61_0 rfl rfl rfl rfl rfl rfl
theorem d61_1 : decode (cod 61) 1 = .ok (.bipush 11, 2) := by decide +kernel
theorem s61_1 {M : Mm} {st : List Value} {l0 l1 l2 : Option Value} : EE 61 1 [l0, l1, l2] st M = EE 61 3 [l0, l1, l2] (.int (nI 11) :: st) M := e_bip d61_1 k_bip_11
theorem d61_3 : decode (cod 61) 3 = .ok (.isub, 1) := by decide +kernel
theorem s61_3 {M : Mm} {st : List Value} {l0 l1 l2 : Option Value} {x y : Int32} : EE 61 3 [l0, l1, l2] (.int y :: .int x :: st) M = EE 61 4 [l0, l1, l2] (.int (x - y) :: st) M := e_II d61_3 rfl rfl rfl rfl rfl rfl
theorem d61_4 : decode (cod 61) 4 = .ok (.istore_n 2, 1) := by decide +kernel
theorem s61_4 {M : Mm} {st : List Value} {l0 l1 l2 : Option Value} {x : Int32} : EE 61 4 [l0, l1, l2] (.int x :: st) M = EE 61 5 [l0, cln l1, some (.int x)] st M := e_st1 d61_4 rfl rfl rfl rfl rfl rfl rfl (Nat.le_of_ble_eq_true rfl) rfl
theorem d61_5 : decode (cod 61) 5 = .ok (.iload_n 2, 1) := by decide +kernel
theorem s61_5 {M : Mm} {st : List Value} {l0 l1 : Option Value} {x : Int32} : EE 61 5 [l0, l1, some (.int x)] st M = EE 61 6 [l0, l1, some (.int x)] (.int x :: st) M := e_ld d61_5 rfl rfl rfl rfl rfl rfl
theorem d61_6 : decode (cod 61) 6 = .ok (.invokestatic 126, 3) := by decide +kernel
theorem s61_6 {M : Mm} {l0 l1 l2 : Option Value} {b0 : Int32} {st : List Value} (hl : st.length ≤ 4) : EE 61 6 [l0, l1, l2] (.int b0 :: st) M = (FF 45 [.int b0] M).bind (fun z => EE 61 9 [l0, l1, l2] (psh z.1 st) z.2) := e_cals (av := [.int b0]) d61_6 c2_126 (Or.inl rfl) rfl rfl r61_45 rfl hl
theorem d61_9 : decode (cod 61) 9 = .ok (.ifCond .eq 13, 3) := by decide +kernel
theorem s61_9 {M : Mm} {st : List Value} {l0 l1 l2 : Option Value} {x : Int32} : EE 61 9 [l0, l1, l2] (.int x :: st) M = if x = 0 then EE 61 22 [l0, l1, l2] st M else EE 61 12 [l0, l1, l2] st M := e_eq0 d61_9 (by decide)
theorem d61_12 : decode (cod 61) 12 = .ok (.aload_n 0, 1) := by decide +kernel
theorem s61_12 {M : Mm} {st : List Value} {l1 l2 : Option Value} {x : Nat} : EE 61 12 [some (.ref x), l1, l2] st M = EE 61 13 [some (.ref x), l1, l2] (.ref x :: st) M := e_ld d61_12 rfl rfl rfl rfl rfl rfl
theorem d61_13 : decode (cod 61) 13 = .ok (.getfield 12, 3) := by decide +kernel
theorem s61_13 {n : Nat} {I : Nat → Nat → Int32} {R : Nat → Nat → Option Nat} {st : List Value} {l0 l1 l2 : Option Value} {a : Nat} : EE 61 13 [l0, l1, l2] (.ref a :: st) (n, I, R) = (gfI n I R 2 0 a).bind (fun z => EE 61 16 [l0, l1, l2] (z :: st) (n, I, R)) := e_getf d61_13 f2_12 rfl rfl
theorem d61_16 : decode (cod 61) 16 = .ok (.getfield 129, 3) := by decide +kernel
theorem s61_16 {n : Nat} {I : Nat → Nat → Int32} {R : Nat → Nat → Option Nat} {st : List Value} {l0 l1 l2 : Option Value} {a : Nat} : EE 61 16 [l0, l1, l2] (.ref a :: st) (n, I, R) = (gfI n I R 1 0 a).bind (fun z => EE 61 19 [l0, l1, l2] (z :: st) (n, I, R)) := e_getf d61_16 f2_129 rfl rfl
theorem d61_19 : decode (cod 61) 19 = .ok (.iload_n 2, 1) := by decide +kernel
theorem s61_19 {M : Mm} {st : List Value} {l0 l1 : Option Value} {x : Int32} : EE 61 19 [l0, l1, some (.int x)] st M = EE 61 20 [l0, l1, some (.int x)] (.int x :: st) M := e_ld d61_19 rfl rfl rfl rfl rfl rfl
theorem d61_20 : decode (cod 61) 20 = .ok (.iaload, 1) := by decide +kernel
theorem s61_20 {n : Nat} {I : Nat → Nat → Int32} {R : Nat → Nat → Option Nat} {st : List Value} {l0 l1 l2 : Option Value} {j : Int32} {a : Nat} : EE 61 20 [l0, l1, l2] (.int j :: .ref a :: st) (n, I, R) = (ardI 5 n I a j).bind (fun z => EE 61 21 [l0, l1, l2] (.int z :: st) (n, I, R)) := e_iald d61_20
theorem d61_21 : decode (cod 61) 21 = .ok (.ireturn, 1) := by decide +kernel
theorem s61_21 {M : Mm} {l0 l1 l2 : Option Value} {v : Int32} : EE 61 21 [l0, l1, l2] [.int v] M = some (some (.int v), M) := e_iret d61_21 rfl rfl
theorem d61_22 : decode (cod 61) 22 = .ok (.iload_n 1, 1) := by decide +kernel
theorem s61_22 {M : Mm} {st : List Value} {l0 l2 : Option Value} {x : Int32} : EE 61 22 [l0, some (.int x), l2] st M = EE 61 23 [l0, some (.int x), l2] (.int x :: st) M := e_ld d61_22 rfl rfl rfl rfl rfl rfl
theorem d61_23 : decode (cod 61) 23 = .ok (.tableswitch 192 0 18 #[89, 97, 105, 113, 121, 129, 137, 145, 153, 161, 170, 192, 192, 192, 192, 192, 192, 179, 187], 89) := by decide +kernel
theorem s61_23_0 {M : Mm} {st : List Value} {l0 l1 l2 : Option Value} : EE 61 23 [l0, l1, l2] (.int (nI 0) :: st) M = EE 61 112 [l0, l1, l2] st M := e_tab d61_23 (by decide +kernel)
theorem s61_23_1 {M : Mm} {st : List Value} {l0 l1 l2 : Option Value} : EE 61 23 [l0, l1, l2] (.int (nI 1) :: st) M = EE 61 120 [l0, l1, l2] st M := e_tab d61_23 (by decide +kernel)
theorem s61_23_2 {M : Mm} {st : List Value} {l0 l1 l2 : Option Value} : EE 61 23 [l0, l1, l2] (.int (nI 2) :: st) M = EE 61 128 [l0, l1, l2] st M := e_tab d61_23 (by decide +kernel)
theorem s61_23_3 {M : Mm} {st : List Value} {l0 l1 l2 : Option Value} : EE 61 23 [l0, l1, l2] (.int (nI 3) :: st) M = EE 61 136 [l0, l1, l2] st M := e_tab d61_23 (by decide +kernel)
theorem s61_23_4 {M : Mm} {st : List Value} {l0 l1 l2 : Option Value} : EE 61 23 [l0, l1, l2] (.int (nI 4) :: st) M = EE 61 144 [l0, l1, l2] st M := e_tab d61_23 (by decide +kernel)
theorem s61_23_5 {M : Mm} {st : List Value} {l0 l1 l2 : Option Value} : EE 61 23 [l0, l1, l2] (.int (nI 5) :: st) M = EE 61 152 [l0, l1, l2] st M := e_tab d61_23 (by decide +kernel)
theorem s61_23_6 {M : Mm} {st : List Value} {l0 l1 l2 : Option Value} : EE 61 23 [l0, l1, l2] (.int (nI 6) :: st) M = EE 61 160 [l0, l1, l2] st M := e_tab d61_23 (by decide +kernel)
theorem s61_23_7 {M : Mm} {st : List Value} {l0 l1 l2 : Option Value} : EE 61 23 [l0, l1, l2] (.int (nI 7) :: st) M = EE 61 168 [l0, l1, l2] st M := e_tab d61_23 (by decide +kernel)
theorem s61_23_8 {M : Mm} {st : List Value} {l0 l1 l2 : Option Value} : EE 61 23 [l0, l1, l2] (.int (nI 8) :: st) M = EE 61 176 [l0, l1, l2] st M := e_tab d61_23 (by decide +kernel)
theorem s61_23_9 {M : Mm} {st : List Value} {l0 l1 l2 : Option Value} : EE 61 23 [l0, l1, l2] (.int (nI 9) :: st) M = EE 61 184 [l0, l1, l2] st M := e_tab d61_23 (by decide +kernel)
theorem s61_23_10 {M : Mm} {st : List Value} {l0 l1 l2 : Option Value} : EE 61 23 [l0, l1, l2] (.int (nI 10) :: st) M = EE 61 193 [l0, l1, l2] st M := e_tab d61_23 (by decide +kernel)
theorem s61_23_11 {M : Mm} {st : List Value} {l0 l1 l2 : Option Value} : EE 61 23 [l0, l1, l2] (.int (nI 11) :: st) M = EE 61 215 [l0, l1, l2] st M := e_tab d61_23 (by decide +kernel)
theorem s61_23_12 {M : Mm} {st : List Value} {l0 l1 l2 : Option Value} : EE 61 23 [l0, l1, l2] (.int (nI 12) :: st) M = EE 61 215 [l0, l1, l2] st M := e_tab d61_23 (by decide +kernel)
theorem s61_23_13 {M : Mm} {st : List Value} {l0 l1 l2 : Option Value} : EE 61 23 [l0, l1, l2] (.int (nI 13) :: st) M = EE 61 215 [l0, l1, l2] st M := e_tab d61_23 (by decide +kernel)
theorem s61_23_14 {M : Mm} {st : List Value} {l0 l1 l2 : Option Value} : EE 61 23 [l0, l1, l2] (.int (nI 14) :: st) M = EE 61 215 [l0, l1, l2] st M := e_tab d61_23 (by decide +kernel)
theorem s61_23_15 {M : Mm} {st : List Value} {l0 l1 l2 : Option Value} : EE 61 23 [l0, l1, l2] (.int (nI 15) :: st) M = EE 61 215 [l0, l1, l2] st M := e_tab d61_23 (by decide +kernel)
theorem s61_23_16 {M : Mm} {st : List Value} {l0 l1 l2 : Option Value} : EE 61 23 [l0, l1, l2] (.int (nI 16) :: st) M = EE 61 215 [l0, l1, l2] st M := e_tab d61_23 (by decide +kernel)
theorem s61_23_17 {M : Mm} {st : List Value} {l0 l1 l2 : Option Value} : EE 61 23 [l0, l1, l2] (.int (nI 17) :: st) M = EE 61 202 [l0, l1, l2] st M := e_tab d61_23 (by decide +kernel)
theorem s61_23_18 {M : Mm} {st : List Value} {l0 l1 l2 : Option Value} : EE 61 23 [l0, l1, l2] (.int (nI 18) :: st) M = EE 61 210 [l0, l1, l2] st M := e_tab d61_23 (by decide +kernel)
theorem s61_23_d {M : Mm} {st : List Value} {l0 l1 l2 : Option Value} {x : Int32} (h : x.toInt < 0 ∨ 18 < x.toInt) : EE 61 23 [l0, l1, l2] (.int x :: st) M = EE 61 215 [l0, l1, l2] st M := e_tab d61_23 (by rw [if_pos h]; decide +kernel)
theorem d61_112 : decode (cod 61) 112 = .ok (.aload_n 0, 1) := by decide +kernel
theorem s61_112 {M : Mm} {st : List Value} {l1 l2 : Option Value} {x : Nat} : EE 61 112 [some (.ref x), l1, l2] st M = EE 61 113 [some (.ref x), l1, l2] (.ref x :: st) M := e_ld d61_112 rfl rfl rfl rfl rfl rfl
theorem d61_113 : decode (cod 61) 113 = .ok (.getfield 12, 3) := by decide +kernel
theorem s61_113 {n : Nat} {I : Nat → Nat → Int32} {R : Nat → Nat → Option Nat} {st : List Value} {l0 l1 l2 : Option Value} {a : Nat} : EE 61 113 [l0, l1, l2] (.ref a :: st) (n, I, R) = (gfI n I R 2 0 a).bind (fun z => EE 61 116 [l0, l1, l2] (z :: st) (n, I, R)) := e_getf d61_113 f2_12 rfl rfl
theorem d61_116 : decode (cod 61) 116 = .ok (.getfield 132, 3) := by decide +kernel
theorem s61_116 {n : Nat} {I : Nat → Nat → Int32} {R : Nat → Nat → Option Nat} {st : List Value} {l0 l1 l2 : Option Value} {a : Nat} : EE 61 116 [l0, l1, l2] (.ref a :: st) (n, I, R) = (gfI n I R 1 11 a).bind (fun z => EE 61 119 [l0, l1, l2] (z :: st) (n, I, R)) := e_getf d61_116 f2_132 rfl rfl
theorem d61_119 : decode (cod 61) 119 = .ok (.ireturn, 1) := by decide +kernel
theorem s61_119 {M : Mm} {l0 l1 l2 : Option Value} {v : Int32} : EE 61 119 [l0, l1, l2] [.int v] M = some (some (.int v), M) := e_iret d61_119 rfl rfl
theorem d61_120 : decode (cod 61) 120 = .ok (.aload_n 0, 1) := by decide +kernel
theorem s61_120 {M : Mm} {st : List Value} {l1 l2 : Option Value} {x : Nat} : EE 61 120 [some (.ref x), l1, l2] st M = EE 61 121 [some (.ref x), l1, l2] (.ref x :: st) M := e_ld d61_120 rfl rfl rfl rfl rfl rfl
theorem d61_121 : decode (cod 61) 121 = .ok (.getfield 12, 3) := by decide +kernel
theorem s61_121 {n : Nat} {I : Nat → Nat → Int32} {R : Nat → Nat → Option Nat} {st : List Value} {l0 l1 l2 : Option Value} {a : Nat} : EE 61 121 [l0, l1, l2] (.ref a :: st) (n, I, R) = (gfI n I R 2 0 a).bind (fun z => EE 61 124 [l0, l1, l2] (z :: st) (n, I, R)) := e_getf d61_121 f2_12 rfl rfl
theorem d61_124 : decode (cod 61) 124 = .ok (.invokevirtual 135, 3) := by decide +kernel
theorem s61_124 {l0 l1 l2 : Option Value} {a : Nat} {M : Mm} {st : List Value} (hl : st.length ≤ 4) (ho : isO "HandoverDesk$State" M.1 a = true) : EE 61 124 [l0, l1, l2] (.ref a :: st) M = (FF 26 (.ref a :: []) M).bind (fun z => EE 61 127 [l0, l1, l2] (psh z.1 st) z.2) := e_calv (av := []) d61_124 c2_135 rfl rfl rfl r61_26 rfl hl ho
theorem d61_127 : decode (cod 61) 127 = .ok (.ireturn, 1) := by decide +kernel
theorem s61_127 {M : Mm} {l0 l1 l2 : Option Value} {v : Int32} : EE 61 127 [l0, l1, l2] [.int v] M = some (some (.int v), M) := e_iret d61_127 rfl rfl
theorem d61_128 : decode (cod 61) 128 = .ok (.aload_n 0, 1) := by decide +kernel
theorem s61_128 {M : Mm} {st : List Value} {l1 l2 : Option Value} {x : Nat} : EE 61 128 [some (.ref x), l1, l2] st M = EE 61 129 [some (.ref x), l1, l2] (.ref x :: st) M := e_ld d61_128 rfl rfl rfl rfl rfl rfl
theorem d61_129 : decode (cod 61) 129 = .ok (.getfield 12, 3) := by decide +kernel
theorem s61_129 {n : Nat} {I : Nat → Nat → Int32} {R : Nat → Nat → Option Nat} {st : List Value} {l0 l1 l2 : Option Value} {a : Nat} : EE 61 129 [l0, l1, l2] (.ref a :: st) (n, I, R) = (gfI n I R 2 0 a).bind (fun z => EE 61 132 [l0, l1, l2] (z :: st) (n, I, R)) := e_getf d61_129 f2_12 rfl rfl
theorem d61_132 : decode (cod 61) 132 = .ok (.getfield 138, 3) := by decide +kernel
theorem s61_132 {n : Nat} {I : Nat → Nat → Int32} {R : Nat → Nat → Option Nat} {st : List Value} {l0 l1 l2 : Option Value} {a : Nat} : EE 61 132 [l0, l1, l2] (.ref a :: st) (n, I, R) = (gfI n I R 1 8 a).bind (fun z => EE 61 135 [l0, l1, l2] (z :: st) (n, I, R)) := e_getf d61_132 f2_138 rfl rfl
theorem d61_135 : decode (cod 61) 135 = .ok (.ireturn, 1) := by decide +kernel
theorem s61_135 {M : Mm} {l0 l1 l2 : Option Value} {v : Int32} : EE 61 135 [l0, l1, l2] [.int v] M = some (some (.int v), M) := e_iret d61_135 rfl rfl
theorem d61_136 : decode (cod 61) 136 = .ok (.aload_n 0, 1) := by decide +kernel
theorem s61_136 {M : Mm} {st : List Value} {l1 l2 : Option Value} {x : Nat} : EE 61 136 [some (.ref x), l1, l2] st M = EE 61 137 [some (.ref x), l1, l2] (.ref x :: st) M := e_ld d61_136 rfl rfl rfl rfl rfl rfl
theorem d61_137 : decode (cod 61) 137 = .ok (.getfield 12, 3) := by decide +kernel
theorem s61_137 {n : Nat} {I : Nat → Nat → Int32} {R : Nat → Nat → Option Nat} {st : List Value} {l0 l1 l2 : Option Value} {a : Nat} : EE 61 137 [l0, l1, l2] (.ref a :: st) (n, I, R) = (gfI n I R 2 0 a).bind (fun z => EE 61 140 [l0, l1, l2] (z :: st) (n, I, R)) := e_getf d61_137 f2_12 rfl rfl
theorem d61_140 : decode (cod 61) 140 = .ok (.invokevirtual 141, 3) := by decide +kernel
theorem s61_140 {l0 l1 l2 : Option Value} {a : Nat} {M : Mm} {st : List Value} (hl : st.length ≤ 4) (ho : isO "HandoverDesk$State" M.1 a = true) : EE 61 140 [l0, l1, l2] (.ref a :: st) M = (FF 39 (.ref a :: []) M).bind (fun z => EE 61 143 [l0, l1, l2] (psh z.1 st) z.2) := e_calv (av := []) d61_140 c2_141 rfl rfl rfl r61_39 rfl hl ho
theorem d61_143 : decode (cod 61) 143 = .ok (.ireturn, 1) := by decide +kernel
theorem s61_143 {M : Mm} {l0 l1 l2 : Option Value} {v : Int32} : EE 61 143 [l0, l1, l2] [.int v] M = some (some (.int v), M) := e_iret d61_143 rfl rfl
theorem d61_144 : decode (cod 61) 144 = .ok (.aload_n 0, 1) := by decide +kernel
theorem s61_144 {M : Mm} {st : List Value} {l1 l2 : Option Value} {x : Nat} : EE 61 144 [some (.ref x), l1, l2] st M = EE 61 145 [some (.ref x), l1, l2] (.ref x :: st) M := e_ld d61_144 rfl rfl rfl rfl rfl rfl
theorem d61_145 : decode (cod 61) 145 = .ok (.getfield 12, 3) := by decide +kernel
theorem s61_145 {n : Nat} {I : Nat → Nat → Int32} {R : Nat → Nat → Option Nat} {st : List Value} {l0 l1 l2 : Option Value} {a : Nat} : EE 61 145 [l0, l1, l2] (.ref a :: st) (n, I, R) = (gfI n I R 2 0 a).bind (fun z => EE 61 148 [l0, l1, l2] (z :: st) (n, I, R)) := e_getf d61_145 f2_12 rfl rfl
theorem d61_148 : decode (cod 61) 148 = .ok (.getfield 144, 3) := by decide +kernel
theorem s61_148 {n : Nat} {I : Nat → Nat → Int32} {R : Nat → Nat → Option Nat} {st : List Value} {l0 l1 l2 : Option Value} {a : Nat} : EE 61 148 [l0, l1, l2] (.ref a :: st) (n, I, R) = (gfI n I R 1 12 a).bind (fun z => EE 61 151 [l0, l1, l2] (z :: st) (n, I, R)) := e_getf d61_148 f2_144 rfl rfl
theorem d61_151 : decode (cod 61) 151 = .ok (.ireturn, 1) := by decide +kernel
theorem s61_151 {M : Mm} {l0 l1 l2 : Option Value} {v : Int32} : EE 61 151 [l0, l1, l2] [.int v] M = some (some (.int v), M) := e_iret d61_151 rfl rfl
theorem d61_152 : decode (cod 61) 152 = .ok (.aload_n 0, 1) := by decide +kernel
theorem s61_152 {M : Mm} {st : List Value} {l1 l2 : Option Value} {x : Nat} : EE 61 152 [some (.ref x), l1, l2] st M = EE 61 153 [some (.ref x), l1, l2] (.ref x :: st) M := e_ld d61_152 rfl rfl rfl rfl rfl rfl
theorem d61_153 : decode (cod 61) 153 = .ok (.getfield 12, 3) := by decide +kernel
theorem s61_153 {n : Nat} {I : Nat → Nat → Int32} {R : Nat → Nat → Option Nat} {st : List Value} {l0 l1 l2 : Option Value} {a : Nat} : EE 61 153 [l0, l1, l2] (.ref a :: st) (n, I, R) = (gfI n I R 2 0 a).bind (fun z => EE 61 156 [l0, l1, l2] (z :: st) (n, I, R)) := e_getf d61_153 f2_12 rfl rfl
theorem d61_156 : decode (cod 61) 156 = .ok (.getfield 147, 3) := by decide +kernel
theorem s61_156 {n : Nat} {I : Nat → Nat → Int32} {R : Nat → Nat → Option Nat} {st : List Value} {l0 l1 l2 : Option Value} {a : Nat} : EE 61 156 [l0, l1, l2] (.ref a :: st) (n, I, R) = (gfI n I R 1 13 a).bind (fun z => EE 61 159 [l0, l1, l2] (z :: st) (n, I, R)) := e_getf d61_156 f2_147 rfl rfl
theorem d61_159 : decode (cod 61) 159 = .ok (.ireturn, 1) := by decide +kernel
theorem s61_159 {M : Mm} {l0 l1 l2 : Option Value} {v : Int32} : EE 61 159 [l0, l1, l2] [.int v] M = some (some (.int v), M) := e_iret d61_159 rfl rfl
theorem d61_160 : decode (cod 61) 160 = .ok (.aload_n 0, 1) := by decide +kernel
theorem s61_160 {M : Mm} {st : List Value} {l1 l2 : Option Value} {x : Nat} : EE 61 160 [some (.ref x), l1, l2] st M = EE 61 161 [some (.ref x), l1, l2] (.ref x :: st) M := e_ld d61_160 rfl rfl rfl rfl rfl rfl
theorem d61_161 : decode (cod 61) 161 = .ok (.getfield 12, 3) := by decide +kernel
theorem s61_161 {n : Nat} {I : Nat → Nat → Int32} {R : Nat → Nat → Option Nat} {st : List Value} {l0 l1 l2 : Option Value} {a : Nat} : EE 61 161 [l0, l1, l2] (.ref a :: st) (n, I, R) = (gfI n I R 2 0 a).bind (fun z => EE 61 164 [l0, l1, l2] (z :: st) (n, I, R)) := e_getf d61_161 f2_12 rfl rfl
theorem d61_164 : decode (cod 61) 164 = .ok (.getfield 150, 3) := by decide +kernel
theorem s61_164 {n : Nat} {I : Nat → Nat → Int32} {R : Nat → Nat → Option Nat} {st : List Value} {l0 l1 l2 : Option Value} {a : Nat} : EE 61 164 [l0, l1, l2] (.ref a :: st) (n, I, R) = (gfI n I R 1 14 a).bind (fun z => EE 61 167 [l0, l1, l2] (z :: st) (n, I, R)) := e_getf d61_164 f2_150 rfl rfl
theorem d61_167 : decode (cod 61) 167 = .ok (.ireturn, 1) := by decide +kernel
theorem s61_167 {M : Mm} {l0 l1 l2 : Option Value} {v : Int32} : EE 61 167 [l0, l1, l2] [.int v] M = some (some (.int v), M) := e_iret d61_167 rfl rfl
theorem d61_168 : decode (cod 61) 168 = .ok (.aload_n 0, 1) := by decide +kernel
theorem s61_168 {M : Mm} {st : List Value} {l1 l2 : Option Value} {x : Nat} : EE 61 168 [some (.ref x), l1, l2] st M = EE 61 169 [some (.ref x), l1, l2] (.ref x :: st) M := e_ld d61_168 rfl rfl rfl rfl rfl rfl
theorem d61_169 : decode (cod 61) 169 = .ok (.getfield 12, 3) := by decide +kernel
theorem s61_169 {n : Nat} {I : Nat → Nat → Int32} {R : Nat → Nat → Option Nat} {st : List Value} {l0 l1 l2 : Option Value} {a : Nat} : EE 61 169 [l0, l1, l2] (.ref a :: st) (n, I, R) = (gfI n I R 2 0 a).bind (fun z => EE 61 172 [l0, l1, l2] (z :: st) (n, I, R)) := e_getf d61_169 f2_12 rfl rfl
theorem d61_172 : decode (cod 61) 172 = .ok (.getfield 153, 3) := by decide +kernel
theorem s61_172 {n : Nat} {I : Nat → Nat → Int32} {R : Nat → Nat → Option Nat} {st : List Value} {l0 l1 l2 : Option Value} {a : Nat} : EE 61 172 [l0, l1, l2] (.ref a :: st) (n, I, R) = (gfI n I R 1 15 a).bind (fun z => EE 61 175 [l0, l1, l2] (z :: st) (n, I, R)) := e_getf d61_172 f2_153 rfl rfl
theorem d61_175 : decode (cod 61) 175 = .ok (.ireturn, 1) := by decide +kernel
theorem s61_175 {M : Mm} {l0 l1 l2 : Option Value} {v : Int32} : EE 61 175 [l0, l1, l2] [.int v] M = some (some (.int v), M) := e_iret d61_175 rfl rfl
theorem d61_176 : decode (cod 61) 176 = .ok (.aload_n 0, 1) := by decide +kernel
theorem s61_176 {M : Mm} {st : List Value} {l1 l2 : Option Value} {x : Nat} : EE 61 176 [some (.ref x), l1, l2] st M = EE 61 177 [some (.ref x), l1, l2] (.ref x :: st) M := e_ld d61_176 rfl rfl rfl rfl rfl rfl
theorem d61_177 : decode (cod 61) 177 = .ok (.getfield 12, 3) := by decide +kernel
theorem s61_177 {n : Nat} {I : Nat → Nat → Int32} {R : Nat → Nat → Option Nat} {st : List Value} {l0 l1 l2 : Option Value} {a : Nat} : EE 61 177 [l0, l1, l2] (.ref a :: st) (n, I, R) = (gfI n I R 2 0 a).bind (fun z => EE 61 180 [l0, l1, l2] (z :: st) (n, I, R)) := e_getf d61_177 f2_12 rfl rfl
theorem d61_180 : decode (cod 61) 180 = .ok (.getfield 156, 3) := by decide +kernel
theorem s61_180 {n : Nat} {I : Nat → Nat → Int32} {R : Nat → Nat → Option Nat} {st : List Value} {l0 l1 l2 : Option Value} {a : Nat} : EE 61 180 [l0, l1, l2] (.ref a :: st) (n, I, R) = (gfI n I R 1 16 a).bind (fun z => EE 61 183 [l0, l1, l2] (z :: st) (n, I, R)) := e_getf d61_180 f2_156 rfl rfl
theorem d61_183 : decode (cod 61) 183 = .ok (.ireturn, 1) := by decide +kernel
theorem s61_183 {M : Mm} {l0 l1 l2 : Option Value} {v : Int32} : EE 61 183 [l0, l1, l2] [.int v] M = some (some (.int v), M) := e_iret d61_183 rfl rfl
theorem d61_184 : decode (cod 61) 184 = .ok (.aload_n 0, 1) := by decide +kernel
theorem s61_184 {M : Mm} {st : List Value} {l1 l2 : Option Value} {x : Nat} : EE 61 184 [some (.ref x), l1, l2] st M = EE 61 185 [some (.ref x), l1, l2] (.ref x :: st) M := e_ld d61_184 rfl rfl rfl rfl rfl rfl
theorem d61_185 : decode (cod 61) 185 = .ok (.getfield 12, 3) := by decide +kernel
theorem s61_185 {n : Nat} {I : Nat → Nat → Int32} {R : Nat → Nat → Option Nat} {st : List Value} {l0 l1 l2 : Option Value} {a : Nat} : EE 61 185 [l0, l1, l2] (.ref a :: st) (n, I, R) = (gfI n I R 2 0 a).bind (fun z => EE 61 188 [l0, l1, l2] (z :: st) (n, I, R)) := e_getf d61_185 f2_12 rfl rfl
theorem d61_188 : decode (cod 61) 188 = .ok (.iconst 2, 1) := by decide +kernel
theorem s61_188 {M : Mm} {st : List Value} {l0 l1 l2 : Option Value} : EE 61 188 [l0, l1, l2] st M = EE 61 189 [l0, l1, l2] (.int (nI 2) :: st) M := e_con d61_188 k_con_2
theorem d61_189 : decode (cod 61) 189 = .ok (.invokevirtual 159, 3) := by decide +kernel
theorem s61_189 {l0 l1 l2 : Option Value} {a : Nat} {M : Mm} {b0 : Int32} {st : List Value} (hl : st.length ≤ 4) (ho : isO "HandoverDesk$State" M.1 a = true) : EE 61 189 [l0, l1, l2] (.int b0 :: .ref a :: st) M = (FF 40 (.ref a :: [.int b0]) M).bind (fun z => EE 61 192 [l0, l1, l2] (psh z.1 st) z.2) := e_calv (av := [.int b0]) d61_189 c2_159 rfl rfl rfl r61_40 rfl hl ho
theorem d61_192 : decode (cod 61) 192 = .ok (.ireturn, 1) := by decide +kernel
theorem s61_192 {M : Mm} {l0 l1 l2 : Option Value} {v : Int32} : EE 61 192 [l0, l1, l2] [.int v] M = some (some (.int v), M) := e_iret d61_192 rfl rfl
theorem d61_193 : decode (cod 61) 193 = .ok (.aload_n 0, 1) := by decide +kernel
theorem s61_193 {M : Mm} {st : List Value} {l1 l2 : Option Value} {x : Nat} : EE 61 193 [some (.ref x), l1, l2] st M = EE 61 194 [some (.ref x), l1, l2] (.ref x :: st) M := e_ld d61_193 rfl rfl rfl rfl rfl rfl
theorem d61_194 : decode (cod 61) 194 = .ok (.getfield 12, 3) := by decide +kernel
theorem s61_194 {n : Nat} {I : Nat → Nat → Int32} {R : Nat → Nat → Option Nat} {st : List Value} {l0 l1 l2 : Option Value} {a : Nat} : EE 61 194 [l0, l1, l2] (.ref a :: st) (n, I, R) = (gfI n I R 2 0 a).bind (fun z => EE 61 197 [l0, l1, l2] (z :: st) (n, I, R)) := e_getf d61_194 f2_12 rfl rfl
theorem d61_197 : decode (cod 61) 197 = .ok (.iconst 1, 1) := by decide +kernel
theorem s61_197 {M : Mm} {st : List Value} {l0 l1 l2 : Option Value} : EE 61 197 [l0, l1, l2] st M = EE 61 198 [l0, l1, l2] (.int (nI 1) :: st) M := e_con d61_197 k_con_1
theorem d61_198 : decode (cod 61) 198 = .ok (.invokevirtual 159, 3) := by decide +kernel
theorem s61_198 {l0 l1 l2 : Option Value} {a : Nat} {M : Mm} {b0 : Int32} {st : List Value} (hl : st.length ≤ 4) (ho : isO "HandoverDesk$State" M.1 a = true) : EE 61 198 [l0, l1, l2] (.int b0 :: .ref a :: st) M = (FF 40 (.ref a :: [.int b0]) M).bind (fun z => EE 61 201 [l0, l1, l2] (psh z.1 st) z.2) := e_calv (av := [.int b0]) d61_198 c2_159 rfl rfl rfl r61_40 rfl hl ho
theorem d61_201 : decode (cod 61) 201 = .ok (.ireturn, 1) := by decide +kernel
theorem s61_201 {M : Mm} {l0 l1 l2 : Option Value} {v : Int32} : EE 61 201 [l0, l1, l2] [.int v] M = some (some (.int v), M) := e_iret d61_201 rfl rfl
theorem d61_202 : decode (cod 61) 202 = .ok (.aload_n 0, 1) := by decide +kernel
theorem s61_202 {M : Mm} {st : List Value} {l1 l2 : Option Value} {x : Nat} : EE 61 202 [some (.ref x), l1, l2] st M = EE 61 203 [some (.ref x), l1, l2] (.ref x :: st) M := e_ld d61_202 rfl rfl rfl rfl rfl rfl
theorem d61_203 : decode (cod 61) 203 = .ok (.getfield 33, 3) := by decide +kernel
theorem s61_203 {n : Nat} {I : Nat → Nat → Int32} {R : Nat → Nat → Option Nat} {st : List Value} {l0 l1 l2 : Option Value} {a : Nat} : EE 61 203 [l0, l1, l2] (.ref a :: st) (n, I, R) = (gfI n I R 2 6 a).bind (fun z => EE 61 206 [l0, l1, l2] (z :: st) (n, I, R)) := e_getf d61_203 f2_33 rfl rfl
theorem d61_206 : decode (cod 61) 206 = .ok (.getfield 162, 3) := by decide +kernel
theorem s61_206 {n : Nat} {I : Nat → Nat → Int32} {R : Nat → Nat → Option Nat} {st : List Value} {l0 l1 l2 : Option Value} {a : Nat} : EE 61 206 [l0, l1, l2] (.ref a :: st) (n, I, R) = (gfI n I R 0 2 a).bind (fun z => EE 61 209 [l0, l1, l2] (z :: st) (n, I, R)) := e_getf d61_206 f2_162 rfl rfl
theorem d61_209 : decode (cod 61) 209 = .ok (.ireturn, 1) := by decide +kernel
theorem s61_209 {M : Mm} {l0 l1 l2 : Option Value} {v : Int32} : EE 61 209 [l0, l1, l2] [.int v] M = some (some (.int v), M) := e_iret d61_209 rfl rfl
theorem d61_210 : decode (cod 61) 210 = .ok (.aload_n 0, 1) := by decide +kernel
theorem s61_210 {M : Mm} {st : List Value} {l1 l2 : Option Value} {x : Nat} : EE 61 210 [some (.ref x), l1, l2] st M = EE 61 211 [some (.ref x), l1, l2] (.ref x :: st) M := e_ld d61_210 rfl rfl rfl rfl rfl rfl
theorem d61_211 : decode (cod 61) 211 = .ok (.getfield 165, 3) := by decide +kernel
theorem s61_211 {n : Nat} {I : Nat → Nat → Int32} {R : Nat → Nat → Option Nat} {st : List Value} {l0 l1 l2 : Option Value} {a : Nat} : EE 61 211 [l0, l1, l2] (.ref a :: st) (n, I, R) = (gfI n I R 2 3 a).bind (fun z => EE 61 214 [l0, l1, l2] (z :: st) (n, I, R)) := e_getf d61_211 f2_165 rfl rfl
theorem d61_214 : decode (cod 61) 214 = .ok (.ireturn, 1) := by decide +kernel
theorem s61_214 {M : Mm} {l0 l1 l2 : Option Value} {v : Int32} : EE 61 214 [l0, l1, l2] [.int v] M = some (some (.int v), M) := e_iret d61_214 rfl rfl
theorem d61_215 : decode (cod 61) 215 = .ok (.bipush (-2), 2) := by decide +kernel
theorem s61_215 {M : Mm} {st : List Value} {l0 l1 l2 : Option Value} : EE 61 215 [l0, l1, l2] st M = EE 61 217 [l0, l1, l2] (.int ((-2)) :: st) M := e_bip d61_215 k_bip_m2
theorem d61_217 : decode (cod 61) 217 = .ok (.ireturn, 1) := by decide +kernel
theorem s61_217 {M : Mm} {l0 l1 l2 : Option Value} {v : Int32} : EE 61 217 [l0, l1, l2] [.int v] M = some (some (.int v), M) := e_iret d61_217 rfl rfl
theorem FE61 {a : Nat} {b0 : Int32} {M : Mm} : FF 61 [.ref a, .int b0] M = EE 61 0 [some (.ref a), some (.int b0), none] [] M := FF_eq 61 _ _ (Nat.le_of_ble_eq_true rfl)
theorem d62_0 : decode (cod 62) 0 = .ok (.iload_n 1, 1) := by decide +kernel
theorem s62_0 {M : Mm} {st : List Value} {l0 l2 : Option Value} {x : Int32} : EE 62 0 [l0, some (.int x), l2] st M = EE 62 1 [l0, some (.int x), l2] (.int x :: st) M := e_ld d62_0 rfl rfl rfl rfl rfl rfl
theorem d62_1 : decode (cod 62) 1 = .ok (.invokestatic 168, 3) := by decide +kernel
theorem s62_1 {M : Mm} {l0 l1 l2 : Option Value} {b0 : Int32} {st : List Value} (hl : st.length ≤ 4) : EE 62 1 [l0, l1, l2] (.int b0 :: st) M = (FF 50 [.int b0] M).bind (fun z => EE 62 4 [l0, l1, l2] (psh z.1 st) z.2) := e_cals (av := [.int b0]) d62_1 c2_168 (Or.inl rfl) rfl rfl r62_50 rfl hl
theorem d62_4 : decode (cod 62) 4 = .ok (.ifCond .eq 12, 3) := by decide +kernel
theorem s62_4 {M : Mm} {st : List Value} {l0 l1 l2 : Option Value} {x : Int32} : EE 62 4 [l0, l1, l2] (.int x :: st) M = if x = 0 then EE 62 16 [l0, l1, l2] st M else EE 62 7 [l0, l1, l2] st M := e_eq0 d62_4 (by decide)
theorem d62_7 : decode (cod 62) 7 = .ok (.iload_n 2, 1) := by decide +kernel
theorem s62_7 {M : Mm} {st : List Value} {l0 l1 : Option Value} {x : Int32} : EE 62 7 [l0, l1, some (.int x)] st M = EE 62 8 [l0, l1, some (.int x)] (.int x :: st) M := e_ld d62_7 rfl rfl rfl rfl rfl rfl
theorem d62_8 : decode (cod 62) 8 = .ok (.ifCond .lt 8, 3) := by decide +kernel
theorem s62_8 {M : Mm} {st : List Value} {l0 l1 l2 : Option Value} {x : Int32} : EE 62 8 [l0, l1, l2] (.int x :: st) M = if x < 0 then EE 62 16 [l0, l1, l2] st M else EE 62 11 [l0, l1, l2] st M := e_lt0 d62_8 (by decide)
theorem d62_11 : decode (cod 62) 11 = .ok (.iload_n 2, 1) := by decide +kernel
theorem s62_11 {M : Mm} {st : List Value} {l0 l1 : Option Value} {x : Int32} : EE 62 11 [l0, l1, some (.int x)] st M = EE 62 12 [l0, l1, some (.int x)] (.int x :: st) M := e_ld d62_11 rfl rfl rfl rfl rfl rfl
theorem d62_12 : decode (cod 62) 12 = .ok (.iconst 1, 1) := by decide +kernel
theorem s62_12 {M : Mm} {st : List Value} {l0 l1 l2 : Option Value} : EE 62 12 [l0, l1, l2] st M = EE 62 13 [l0, l1, l2] (.int (nI 1) :: st) M := e_con d62_12 k_con_1
theorem d62_13 : decode (cod 62) 13 = .ok (.if_icmp .le 6, 3) := by decide +kernel
theorem s62_13 {M : Mm} {st : List Value} {l0 l1 l2 : Option Value} {x y : Int32} : EE 62 13 [l0, l1, l2] (.int y :: .int x :: st) M = if x ≤ y then EE 62 19 [l0, l1, l2] st M else EE 62 16 [l0, l1, l2] st M := e_cle d62_13 (by decide)
theorem d62_16 : decode (cod 62) 16 = .ok (.bipush (-2), 2) := by decide +kernel
theorem s62_16 {M : Mm} {st : List Value} {l0 l1 l2 : Option Value} : EE 62 16 [l0, l1, l2] st M = EE 62 18 [l0, l1, l2] (.int ((-2)) :: st) M := e_bip d62_16 k_bip_m2
theorem d62_18 : decode (cod 62) 18 = .ok (.ireturn, 1) := by decide +kernel
theorem s62_18 {M : Mm} {l0 l1 l2 : Option Value} {v : Int32} : EE 62 18 [l0, l1, l2] [.int v] M = some (some (.int v), M) := e_iret d62_18 rfl rfl
theorem d62_19 : decode (cod 62) 19 = .ok (.iload_n 2, 1) := by decide +kernel
theorem s62_19 {M : Mm} {st : List Value} {l0 l1 : Option Value} {x : Int32} : EE 62 19 [l0, l1, some (.int x)] st M = EE 62 20 [l0, l1, some (.int x)] (.int x :: st) M := e_ld d62_19 rfl rfl rfl rfl rfl rfl
theorem d62_20 : decode (cod 62) 20 = .ok (.ifCond .ne 15, 3) := by decide +kernel
theorem s62_20 {M : Mm} {st : List Value} {l0 l1 l2 : Option Value} {x : Int32} : EE 62 20 [l0, l1, l2] (.int x :: st) M = if x = 0 then EE 62 23 [l0, l1, l2] st M else EE 62 35 [l0, l1, l2] st M := e_ne0 d62_20 (by decide)
theorem d62_23 : decode (cod 62) 23 = .ok (.aload_n 0, 1) := by decide +kernel
theorem s62_23 {M : Mm} {st : List Value} {l1 l2 : Option Value} {x : Nat} : EE 62 23 [some (.ref x), l1, l2] st M = EE 62 24 [some (.ref x), l1, l2] (.ref x :: st) M := e_ld d62_23 rfl rfl rfl rfl rfl rfl
theorem d62_24 : decode (cod 62) 24 = .ok (.getfield 12, 3) := by decide +kernel
theorem s62_24 {n : Nat} {I : Nat → Nat → Int32} {R : Nat → Nat → Option Nat} {st : List Value} {l0 l1 l2 : Option Value} {a : Nat} : EE 62 24 [l0, l1, l2] (.ref a :: st) (n, I, R) = (gfI n I R 2 0 a).bind (fun z => EE 62 27 [l0, l1, l2] (z :: st) (n, I, R)) := e_getf d62_24 f2_12 rfl rfl
theorem d62_27 : decode (cod 62) 27 = .ok (.getfield 171, 3) := by decide +kernel
theorem s62_27 {n : Nat} {I : Nat → Nat → Int32} {R : Nat → Nat → Option Nat} {st : List Value} {l0 l1 l2 : Option Value} {a : Nat} : EE 62 27 [l0, l1, l2] (.ref a :: st) (n, I, R) = (gfI n I R 1 1 a).bind (fun z => EE 62 30 [l0, l1, l2] (z :: st) (n, I, R)) := e_getf d62_27 f2_171 rfl rfl
theorem d62_30 : decode (cod 62) 30 = .ok (.iload_n 1, 1) := by decide +kernel
theorem s62_30 {M : Mm} {st : List Value} {l0 l2 : Option Value} {x : Int32} : EE 62 30 [l0, some (.int x), l2] st M = EE 62 31 [l0, some (.int x), l2] (.int x :: st) M := e_ld d62_30 rfl rfl rfl rfl rfl rfl
theorem d62_31 : decode (cod 62) 31 = .ok (.iaload, 1) := by decide +kernel
theorem s62_31 {n : Nat} {I : Nat → Nat → Int32} {R : Nat → Nat → Option Nat} {st : List Value} {l0 l1 l2 : Option Value} {j : Int32} {a : Nat} : EE 62 31 [l0, l1, l2] (.int j :: .ref a :: st) (n, I, R) = (ardI 5 n I a j).bind (fun z => EE 62 32 [l0, l1, l2] (.int z :: st) (n, I, R)) := e_iald d62_31
theorem d62_32 : decode (cod 62) 32 = .ok (.goto 12, 3) := by decide +kernel
theorem s62_32 {M : Mm} {st : List Value} {l0 l1 l2 : Option Value} : EE 62 32 [l0, l1, l2] st M = EE 62 44 [l0, l1, l2] st M := e_goto d62_32 (by decide)
theorem d62_35 : decode (cod 62) 35 = .ok (.aload_n 0, 1) := by decide +kernel
theorem s62_35 {M : Mm} {st : List Value} {l1 l2 : Option Value} {x : Nat} : EE 62 35 [some (.ref x), l1, l2] st M = EE 62 36 [some (.ref x), l1, l2] (.ref x :: st) M := e_ld d62_35 rfl rfl rfl rfl rfl rfl
theorem d62_36 : decode (cod 62) 36 = .ok (.getfield 12, 3) := by decide +kernel
theorem s62_36 {n : Nat} {I : Nat → Nat → Int32} {R : Nat → Nat → Option Nat} {st : List Value} {l0 l1 l2 : Option Value} {a : Nat} : EE 62 36 [l0, l1, l2] (.ref a :: st) (n, I, R) = (gfI n I R 2 0 a).bind (fun z => EE 62 39 [l0, l1, l2] (z :: st) (n, I, R)) := e_getf d62_36 f2_12 rfl rfl
theorem d62_39 : decode (cod 62) 39 = .ok (.getfield 174, 3) := by decide +kernel
theorem s62_39 {n : Nat} {I : Nat → Nat → Int32} {R : Nat → Nat → Option Nat} {st : List Value} {l0 l1 l2 : Option Value} {a : Nat} : EE 62 39 [l0, l1, l2] (.ref a :: st) (n, I, R) = (gfI n I R 1 2 a).bind (fun z => EE 62 42 [l0, l1, l2] (z :: st) (n, I, R)) := e_getf d62_39 f2_174 rfl rfl
theorem d62_42 : decode (cod 62) 42 = .ok (.iload_n 1, 1) := by decide +kernel
theorem s62_42 {M : Mm} {st : List Value} {l0 l2 : Option Value} {x : Int32} : EE 62 42 [l0, some (.int x), l2] st M = EE 62 43 [l0, some (.int x), l2] (.int x :: st) M := e_ld d62_42 rfl rfl rfl rfl rfl rfl
theorem d62_43 : decode (cod 62) 43 = .ok (.iaload, 1) := by decide +kernel
theorem s62_43 {n : Nat} {I : Nat → Nat → Int32} {R : Nat → Nat → Option Nat} {st : List Value} {l0 l1 l2 : Option Value} {j : Int32} {a : Nat} : EE 62 43 [l0, l1, l2] (.int j :: .ref a :: st) (n, I, R) = (ardI 5 n I a j).bind (fun z => EE 62 44 [l0, l1, l2] (.int z :: st) (n, I, R)) := e_iald d62_43
theorem d62_44 : decode (cod 62) 44 = .ok (.ireturn, 1) := by decide +kernel
theorem s62_44 {M : Mm} {l0 l1 l2 : Option Value} {v : Int32} : EE 62 44 [l0, l1, l2] [.int v] M = some (some (.int v), M) := e_iret d62_44 rfl rfl
theorem FE62 {a : Nat} {b0 : Int32} {b1 : Int32} {M : Mm} : FF 62 [.ref a, .int b0, .int b1] M = EE 62 0 [some (.ref a), some (.int b0), some (.int b1)] [] M := FF_eq 62 _ _ (Nat.le_of_ble_eq_true rfl)
theorem d63_0 : decode (cod 63) 0 = .ok (.iconst 0, 1) := by decide +kernel
theorem s63_0 {M : Mm} {st : List Value} {l0 l1 l2 : Option Value} : EE 63 0 [l0, l1, l2] st M = EE 63 1 [l0, l1, l2] (.int (nI 0) :: st) M := e_con d63_0 k_con_0
theorem d63_1 : decode (cod 63) 1 = .ok (.istore_n 1, 1) := by decide +kernel
theorem s63_1 {M : Mm} {st : List Value} {l0 l1 l2 : Option Value} {x : Int32} : EE 63 1 [l0, l1, l2] (.int x :: st) M = EE 63 2 [cln l0, some (.int x), l2] st M := e_st1 d63_1 rfl rfl rfl rfl rfl rfl rfl (Nat.le_of_ble_eq_true rfl) rfl
theorem d63_2 : decode (cod 63) 2 = .ok (.iconst 0, 1) := by decide +kernel
theorem s63_2 {M : Mm} {st : List Value} {l0 l1 l2 : Option Value} : EE 63 2 [l0, l1, l2] st M = EE 63 3 [l0, l1, l2] (.int (nI 0) :: st) M := e_con d63_2 k_con_0
theorem d63_3 : decode (cod 63) 3 = .ok (.istore_n 2, 1) := by decide +kernel
theorem s63_3 {M : Mm} {st : List Value} {l0 l1 l2 : Option Value} {x : Int32} : EE 63 3 [l0, l1, l2] (.int x :: st) M = EE 63 4 [l0, cln l1, some (.int x)] st M := e_st1 d63_3 rfl rfl rfl rfl rfl rfl rfl (Nat.le_of_ble_eq_true rfl) rfl
theorem d63_4 : decode (cod 63) 4 = .ok (.iload_n 2, 1) := by decide +kernel
theorem s63_4 {M : Mm} {st : List Value} {l0 l1 : Option Value} {x : Int32} : EE 63 4 [l0, l1, some (.int x)] st M = EE 63 5 [l0, l1, some (.int x)] (.int x :: st) M := e_ld d63_4 rfl rfl rfl rfl rfl rfl
theorem d63_5 : decode (cod 63) 5 = .ok (.aload_n 0, 1) := by decide +kernel
theorem s63_5 {M : Mm} {st : List Value} {l1 l2 : Option Value} {x : Nat} : EE 63 5 [some (.ref x), l1, l2] st M = EE 63 6 [some (.ref x), l1, l2] (.ref x :: st) M := e_ld d63_5 rfl rfl rfl rfl rfl rfl
theorem d63_6 : decode (cod 63) 6 = .ok (.getfield 12, 3) := by decide +kernel
theorem s63_6 {n : Nat} {I : Nat → Nat → Int32} {R : Nat → Nat → Option Nat} {st : List Value} {l0 l1 l2 : Option Value} {a : Nat} : EE 63 6 [l0, l1, l2] (.ref a :: st) (n, I, R) = (gfI n I R 2 0 a).bind (fun z => EE 63 9 [l0, l1, l2] (z :: st) (n, I, R)) := e_getf d63_6 f2_12 rfl rfl
theorem d63_9 : decode (cod 63) 9 = .ok (.getfield 138, 3) := by decide +kernel
theorem s63_9 {n : Nat} {I : Nat → Nat → Int32} {R : Nat → Nat → Option Nat} {st : List Value} {l0 l1 l2 : Option Value} {a : Nat} : EE 63 9 [l0, l1, l2] (.ref a :: st) (n, I, R) = (gfI n I R 1 8 a).bind (fun z => EE 63 12 [l0, l1, l2] (z :: st) (n, I, R)) := e_getf d63_9 f2_138 rfl rfl
theorem d63_12 : decode (cod 63) 12 = .ok (.if_icmp .ge 36, 3) := by decide +kernel
theorem s63_12 {M : Mm} {st : List Value} {l0 l1 l2 : Option Value} {x y : Int32} : EE 63 12 [l0, l1, l2] (.int y :: .int x :: st) M = if y ≤ x then EE 63 48 [l0, l1, l2] st M else EE 63 15 [l0, l1, l2] st M := e_cge d63_12 (by decide)
theorem d63_15 : decode (cod 63) 15 = .ok (.aload_n 0, 1) := by decide +kernel
theorem s63_15 {M : Mm} {st : List Value} {l1 l2 : Option Value} {x : Nat} : EE 63 15 [some (.ref x), l1, l2] st M = EE 63 16 [some (.ref x), l1, l2] (.ref x :: st) M := e_ld d63_15 rfl rfl rfl rfl rfl rfl
theorem d63_16 : decode (cod 63) 16 = .ok (.getfield 12, 3) := by decide +kernel
theorem s63_16 {n : Nat} {I : Nat → Nat → Int32} {R : Nat → Nat → Option Nat} {st : List Value} {l0 l1 l2 : Option Value} {a : Nat} : EE 63 16 [l0, l1, l2] (.ref a :: st) (n, I, R) = (gfI n I R 2 0 a).bind (fun z => EE 63 19 [l0, l1, l2] (z :: st) (n, I, R)) := e_getf d63_16 f2_12 rfl rfl
theorem d63_19 : decode (cod 63) 19 = .ok (.iload_n 2, 1) := by decide +kernel
theorem s63_19 {M : Mm} {st : List Value} {l0 l1 : Option Value} {x : Int32} : EE 63 19 [l0, l1, some (.int x)] st M = EE 63 20 [l0, l1, some (.int x)] (.int x :: st) M := e_ld d63_19 rfl rfl rfl rfl rfl rfl
theorem d63_20 : decode (cod 63) 20 = .ok (.invokevirtual 97, 3) := by decide +kernel
theorem s63_20 {l0 l1 l2 : Option Value} {a : Nat} {M : Mm} {b0 : Int32} {st : List Value} (hl : st.length ≤ 4) (ho : isO "HandoverDesk$State" M.1 a = true) : EE 63 20 [l0, l1, l2] (.int b0 :: .ref a :: st) M = (FF 19 (.ref a :: [.int b0]) M).bind (fun z => EE 63 23 [l0, l1, l2] (psh z.1 st) z.2) := e_calv (av := [.int b0]) d63_20 c2_97 rfl rfl rfl r63_19 rfl hl ho
theorem d63_23 : decode (cod 63) 23 = .ok (.ifCond .eq 19, 3) := by decide +kernel
theorem s63_23 {M : Mm} {st : List Value} {l0 l1 l2 : Option Value} {x : Int32} : EE 63 23 [l0, l1, l2] (.int x :: st) M = if x = 0 then EE 63 42 [l0, l1, l2] st M else EE 63 26 [l0, l1, l2] st M := e_eq0 d63_23 (by decide)
theorem d63_26 : decode (cod 63) 26 = .ok (.aload_n 0, 1) := by decide +kernel
theorem s63_26 {M : Mm} {st : List Value} {l1 l2 : Option Value} {x : Nat} : EE 63 26 [some (.ref x), l1, l2] st M = EE 63 27 [some (.ref x), l1, l2] (.ref x :: st) M := e_ld d63_26 rfl rfl rfl rfl rfl rfl
theorem d63_27 : decode (cod 63) 27 = .ok (.getfield 12, 3) := by decide +kernel
theorem s63_27 {n : Nat} {I : Nat → Nat → Int32} {R : Nat → Nat → Option Nat} {st : List Value} {l0 l1 l2 : Option Value} {a : Nat} : EE 63 27 [l0, l1, l2] (.ref a :: st) (n, I, R) = (gfI n I R 2 0 a).bind (fun z => EE 63 30 [l0, l1, l2] (z :: st) (n, I, R)) := e_getf d63_27 f2_12 rfl rfl
theorem d63_30 : decode (cod 63) 30 = .ok (.iload_n 2, 1) := by decide +kernel
theorem s63_30 {M : Mm} {st : List Value} {l0 l1 : Option Value} {x : Int32} : EE 63 30 [l0, l1, some (.int x)] st M = EE 63 31 [l0, l1, some (.int x)] (.int x :: st) M := e_ld d63_30 rfl rfl rfl rfl rfl rfl
theorem d63_31 : decode (cod 63) 31 = .ok (.invokevirtual 100, 3) := by decide +kernel
theorem s63_31 {l0 l1 l2 : Option Value} {a : Nat} {M : Mm} {b0 : Int32} {st : List Value} (hl : st.length ≤ 4) (ho : isO "HandoverDesk$State" M.1 a = true) : EE 63 31 [l0, l1, l2] (.int b0 :: .ref a :: st) M = (FF 37 (.ref a :: [.int b0]) M).bind (fun z => EE 63 34 [l0, l1, l2] (psh z.1 st) z.2) := e_calv (av := [.int b0]) d63_31 c2_100 rfl rfl rfl r63_37 rfl hl ho
theorem d63_34 : decode (cod 63) 34 = .ok (.ifCond .eq 5, 3) := by decide +kernel
theorem s63_34 {M : Mm} {st : List Value} {l0 l1 l2 : Option Value} {x : Int32} : EE 63 34 [l0, l1, l2] (.int x :: st) M = if x = 0 then EE 63 39 [l0, l1, l2] st M else EE 63 37 [l0, l1, l2] st M := e_eq0 d63_34 (by decide)
theorem d63_37 : decode (cod 63) 37 = .ok (.iload_n 1, 1) := by decide +kernel
theorem s63_37 {M : Mm} {st : List Value} {l0 l2 : Option Value} {x : Int32} : EE 63 37 [l0, some (.int x), l2] st M = EE 63 38 [l0, some (.int x), l2] (.int x :: st) M := e_ld d63_37 rfl rfl rfl rfl rfl rfl
theorem d63_38 : decode (cod 63) 38 = .ok (.ireturn, 1) := by decide +kernel
theorem s63_38 {M : Mm} {l0 l1 l2 : Option Value} {v : Int32} : EE 63 38 [l0, l1, l2] [.int v] M = some (some (.int v), M) := e_iret d63_38 rfl rfl
theorem d63_39 : decode (cod 63) 39 = .ok (.iinc 1 1, 3) := by decide +kernel
theorem s63_39 {M : Mm} {st : List Value} {l0 l2 : Option Value} {x : Int32} : EE 63 39 [l0, some (.int x), l2] st M = EE 63 42 [cln l0, some (.int (x + nI 1)), l2] st M := e_iinc d63_39 rfl (congrArg (fun z => x + z) k_inc_1) rfl
theorem d63_42 : decode (cod 63) 42 = .ok (.iinc 2 1, 3) := by decide +kernel
theorem s63_42 {M : Mm} {st : List Value} {l0 l1 : Option Value} {x : Int32} : EE 63 42 [l0, l1, some (.int x)] st M = EE 63 45 [l0, cln l1, some (.int (x + nI 1))] st M := e_iinc d63_42 rfl (congrArg (fun z => x + z) k_inc_1) rfl
theorem d63_45 : decode (cod 63) 45 = .ok (.goto (-41), 3) := by decide +kernel
theorem s63_45 {M : Mm} {st : List Value} {l0 l1 l2 : Option Value} : EE 63 45 [l0, l1, l2] st M = EE 63 4 [l0, l1, l2] st M := e_goto d63_45 (by decide)
theorem d63_48 : decode (cod 63) 48 = .ok (.iload_n 1, 1) := by decide +kernel
theorem s63_48 {M : Mm} {st : List Value} {l0 l2 : Option Value} {x : Int32} : EE 63 48 [l0, some (.int x), l2] st M = EE 63 49 [l0, some (.int x), l2] (.int x :: st) M := e_ld d63_48 rfl rfl rfl rfl rfl rfl
theorem d63_49 : decode (cod 63) 49 = .ok (.ireturn, 1) := by decide +kernel
theorem s63_49 {M : Mm} {l0 l1 l2 : Option Value} {v : Int32} : EE 63 49 [l0, l1, l2] [.int v] M = some (some (.int v), M) := e_iret d63_49 rfl rfl
theorem FE63 {a : Nat} {M : Mm} : FF 63 [.ref a] M = EE 63 0 [some (.ref a), none, none] [] M := FF_eq 63 _ _ (Nat.le_of_ble_eq_true rfl)
theorem d64_0 : decode (cod 64) 0 = .ok (.aload_n 0, 1) := by decide +kernel
theorem s64_0 {M : Mm} {st : List Value} {l1 l2 : Option Value} {x : Nat} : EE 64 0 [some (.ref x), l1, l2] st M = EE 64 1 [some (.ref x), l1, l2] (.ref x :: st) M := e_ld d64_0 rfl rfl rfl rfl rfl rfl
theorem d64_1 : decode (cod 64) 1 = .ok (.getfield 12, 3) := by decide +kernel
theorem s64_1 {n : Nat} {I : Nat → Nat → Int32} {R : Nat → Nat → Option Nat} {st : List Value} {l0 l1 l2 : Option Value} {a : Nat} : EE 64 1 [l0, l1, l2] (.ref a :: st) (n, I, R) = (gfI n I R 2 0 a).bind (fun z => EE 64 4 [l0, l1, l2] (z :: st) (n, I, R)) := e_getf d64_1 f2_12 rfl rfl
theorem d64_4 : decode (cod 64) 4 = .ok (.iload_n 1, 1) := by decide +kernel
theorem s64_4 {M : Mm} {st : List Value} {l0 l2 : Option Value} {x : Int32} : EE 64 4 [l0, some (.int x), l2] st M = EE 64 5 [l0, some (.int x), l2] (.int x :: st) M := e_ld d64_4 rfl rfl rfl rfl rfl rfl
theorem d64_5 : decode (cod 64) 5 = .ok (.invokevirtual 91, 3) := by decide +kernel
theorem s64_5 {l0 l1 l2 : Option Value} {a : Nat} {M : Mm} {b0 : Int32} {st : List Value} (hl : st.length ≤ 4) (ho : isO "HandoverDesk$State" M.1 a = true) : EE 64 5 [l0, l1, l2] (.int b0 :: .ref a :: st) M = (FF 18 (.ref a :: [.int b0]) M).bind (fun z => EE 64 8 [l0, l1, l2] (psh z.1 st) z.2) := e_calv (av := [.int b0]) d64_5 c2_91 rfl rfl rfl r64_18 rfl hl ho
theorem d64_8 : decode (cod 64) 8 = .ok (.ifCond .ne 5, 3) := by decide +kernel
theorem s64_8 {M : Mm} {st : List Value} {l0 l1 l2 : Option Value} {x : Int32} : EE 64 8 [l0, l1, l2] (.int x :: st) M = if x = 0 then EE 64 11 [l0, l1, l2] st M else EE 64 13 [l0, l1, l2] st M := e_ne0 d64_8 (by decide)
theorem d64_11 : decode (cod 64) 11 = .ok (.iconst (-1), 1) := by decide +kernel
theorem s64_11 {M : Mm} {st : List Value} {l0 l1 l2 : Option Value} : EE 64 11 [l0, l1, l2] st M = EE 64 12 [l0, l1, l2] (.int ((-1)) :: st) M := e_con d64_11 k_con_m1
theorem d64_12 : decode (cod 64) 12 = .ok (.ireturn, 1) := by decide +kernel
theorem s64_12 {M : Mm} {l0 l1 l2 : Option Value} {v : Int32} : EE 64 12 [l0, l1, l2] [.int v] M = some (some (.int v), M) := e_iret d64_12 rfl rfl
theorem d64_13 : decode (cod 64) 13 = .ok (.aload_n 0, 1) := by decide +kernel
theorem s64_13 {M : Mm} {st : List Value} {l1 l2 : Option Value} {x : Nat} : EE 64 13 [some (.ref x), l1, l2] st M = EE 64 14 [some (.ref x), l1, l2] (.ref x :: st) M := e_ld d64_13 rfl rfl rfl rfl rfl rfl
theorem d64_14 : decode (cod 64) 14 = .ok (.getfield 12, 3) := by decide +kernel
theorem s64_14 {n : Nat} {I : Nat → Nat → Int32} {R : Nat → Nat → Option Nat} {st : List Value} {l0 l1 l2 : Option Value} {a : Nat} : EE 64 14 [l0, l1, l2] (.ref a :: st) (n, I, R) = (gfI n I R 2 0 a).bind (fun z => EE 64 17 [l0, l1, l2] (z :: st) (n, I, R)) := e_getf d64_14 f2_12 rfl rfl
theorem d64_17 : decode (cod 64) 17 = .ok (.getfield 113, 3) := by decide +kernel
theorem s64_17 {n : Nat} {I : Nat → Nat → Int32} {R : Nat → Nat → Option Nat} {st : List Value} {l0 l1 l2 : Option Value} {a : Nat} : EE 64 17 [l0, l1, l2] (.ref a :: st) (n, I, R) = (gfI n I R 1 6 a).bind (fun z => EE 64 20 [l0, l1, l2] (z :: st) (n, I, R)) := e_getf d64_17 f2_113 rfl rfl
theorem d64_20 : decode (cod 64) 20 = .ok (.iload_n 1, 1) := by decide +kernel
theorem s64_20 {M : Mm} {st : List Value} {l0 l2 : Option Value} {x : Int32} : EE 64 20 [l0, some (.int x), l2] st M = EE 64 21 [l0, some (.int x), l2] (.int x :: st) M := e_ld d64_20 rfl rfl rfl rfl rfl rfl
theorem d64_21 : decode (cod 64) 21 = .ok (.iaload, 1) := by decide +kernel
theorem s64_21 {n : Nat} {I : Nat → Nat → Int32} {R : Nat → Nat → Option Nat} {st : List Value} {l0 l1 l2 : Option Value} {j : Int32} {a : Nat} : EE 64 21 [l0, l1, l2] (.int j :: .ref a :: st) (n, I, R) = (ardI 5 n I a j).bind (fun z => EE 64 22 [l0, l1, l2] (.int z :: st) (n, I, R)) := e_iald d64_21
theorem d64_22 : decode (cod 64) 22 = .ok (.istore_n 2, 1) := by decide +kernel
theorem s64_22 {M : Mm} {st : List Value} {l0 l1 l2 : Option Value} {x : Int32} : EE 64 22 [l0, l1, l2] (.int x :: st) M = EE 64 23 [l0, cln l1, some (.int x)] st M := e_st1 d64_22 rfl rfl rfl rfl rfl rfl rfl (Nat.le_of_ble_eq_true rfl) rfl
theorem d64_23 : decode (cod 64) 23 = .ok (.iload_n 2, 1) := by decide +kernel
theorem s64_23 {M : Mm} {st : List Value} {l0 l1 : Option Value} {x : Int32} : EE 64 23 [l0, l1, some (.int x)] st M = EE 64 24 [l0, l1, some (.int x)] (.int x :: st) M := e_ld d64_23 rfl rfl rfl rfl rfl rfl
theorem d64_24 : decode (cod 64) 24 = .ok (.ifCond .le 23, 3) := by decide +kernel
theorem s64_24 {M : Mm} {st : List Value} {l0 l1 l2 : Option Value} {x : Int32} : EE 64 24 [l0, l1, l2] (.int x :: st) M = if x ≤ 0 then EE 64 47 [l0, l1, l2] st M else EE 64 27 [l0, l1, l2] st M := e_le0 d64_24 (by decide)
theorem d64_27 : decode (cod 64) 27 = .ok (.aload_n 0, 1) := by decide +kernel
theorem s64_27 {M : Mm} {st : List Value} {l1 l2 : Option Value} {x : Nat} : EE 64 27 [some (.ref x), l1, l2] st M = EE 64 28 [some (.ref x), l1, l2] (.ref x :: st) M := e_ld d64_27 rfl rfl rfl rfl rfl rfl
theorem d64_28 : decode (cod 64) 28 = .ok (.getfield 12, 3) := by decide +kernel
theorem s64_28 {n : Nat} {I : Nat → Nat → Int32} {R : Nat → Nat → Option Nat} {st : List Value} {l0 l1 l2 : Option Value} {a : Nat} : EE 64 28 [l0, l1, l2] (.ref a :: st) (n, I, R) = (gfI n I R 2 0 a).bind (fun z => EE 64 31 [l0, l1, l2] (z :: st) (n, I, R)) := e_getf d64_28 f2_12 rfl rfl
theorem d64_31 : decode (cod 64) 31 = .ok (.getfield 116, 3) := by decide +kernel
theorem s64_31 {n : Nat} {I : Nat → Nat → Int32} {R : Nat → Nat → Option Nat} {st : List Value} {l0 l1 l2 : Option Value} {a : Nat} : EE 64 31 [l0, l1, l2] (.ref a :: st) (n, I, R) = (gfI n I R 1 7 a).bind (fun z => EE 64 34 [l0, l1, l2] (z :: st) (n, I, R)) := e_getf d64_31 f2_116 rfl rfl
theorem d64_34 : decode (cod 64) 34 = .ok (.iload_n 1, 1) := by decide +kernel
theorem s64_34 {M : Mm} {st : List Value} {l0 l2 : Option Value} {x : Int32} : EE 64 34 [l0, some (.int x), l2] st M = EE 64 35 [l0, some (.int x), l2] (.int x :: st) M := e_ld d64_34 rfl rfl rfl rfl rfl rfl
theorem d64_35 : decode (cod 64) 35 = .ok (.iaload, 1) := by decide +kernel
theorem s64_35 {n : Nat} {I : Nat → Nat → Int32} {R : Nat → Nat → Option Nat} {st : List Value} {l0 l1 l2 : Option Value} {j : Int32} {a : Nat} : EE 64 35 [l0, l1, l2] (.int j :: .ref a :: st) (n, I, R) = (ardI 5 n I a j).bind (fun z => EE 64 36 [l0, l1, l2] (.int z :: st) (n, I, R)) := e_iald d64_35
theorem d64_36 : decode (cod 64) 36 = .ok (.i2d, 1) := by decide +kernel
theorem s64_36 {M : Mm} {st : List Value} {l0 l1 l2 : Option Value} {x : Int32} : EE 64 36 [l0, l1, l2] (.int x :: st) M = EE 64 37 [l0, l1, l2] (.double (FP.i2d x) :: st) M := e_U d64_36 rfl rfl rfl rfl rfl (bn_i2d x) rfl
theorem d64_37 : decode (cod 64) 37 = .ok (.iload_n 2, 1) := by decide +kernel
theorem s64_37 {M : Mm} {st : List Value} {l0 l1 : Option Value} {x : Int32} : EE 64 37 [l0, l1, some (.int x)] st M = EE 64 38 [l0, l1, some (.int x)] (.int x :: st) M := e_ld d64_37 rfl rfl rfl rfl rfl rfl
theorem d64_38 : decode (cod 64) 38 = .ok (.i2d, 1) := by decide +kernel
theorem s64_38 {M : Mm} {st : List Value} {l0 l1 l2 : Option Value} {x : Int32} : EE 64 38 [l0, l1, l2] (.int x :: st) M = EE 64 39 [l0, l1, l2] (.double (FP.i2d x) :: st) M := e_U d64_38 rfl rfl rfl rfl rfl (bn_i2d x) rfl
theorem d64_39 : decode (cod 64) 39 = .ok (.ddiv, 1) := by decide +kernel
theorem s64_39 {M : Mm} {st : List Value} {l0 l1 l2 : Option Value} {x y : UInt64} (h : FP.ddiv x y &&& 0x7fffffffffffffff ≤ 0x7ff0000000000000) : EE 64 39 [l0, l1, l2] (.double y :: .double x :: st) M = EE 64 40 [l0, l1, l2] (.double (FP.ddiv x y) :: st) M := e_ddiv d64_39 h
theorem d64_40 : decode (cod 64) 40 = .ok (.d2f, 1) := by decide +kernel
theorem s64_40 {M : Mm} {st : List Value} {l0 l1 l2 : Option Value} {x : UInt64} (h : FP.d2f x &&& 0x7fffffff ≤ 0x7f800000) : EE 64 40 [l0, l1, l2] (.double x :: st) M = EE 64 41 [l0, l1, l2] (.float (FP.d2f x) :: st) M := e_d2f d64_40 h
theorem d64_41 : decode (cod 64) 41 = .ok (.invokestatic 177, 3) := by decide +kernel
theorem s64_41 {M : Mm} {l0 l1 l2 : Option Value} {b0 : UInt32} {st : List Value} (hl : st.length ≤ 4) : EE 64 41 [l0, l1, l2] (.float b0 :: st) M = (FF 65 [.float b0] M).bind (fun z => EE 64 44 [l0, l1, l2] (psh z.1 st) z.2) := e_cals (av := [.float b0]) d64_41 c2_177 (Or.inl rfl) rfl rfl r64_65 rfl hl
theorem d64_44 : decode (cod 64) 44 = .ok (.goto 5, 3) := by decide +kernel
theorem s64_44 {M : Mm} {st : List Value} {l0 l1 l2 : Option Value} : EE 64 44 [l0, l1, l2] st M = EE 64 49 [l0, l1, l2] st M := e_goto d64_44 (by decide)
theorem d64_47 : decode (cod 64) 47 = .ok (.bipush (-6), 2) := by decide +kernel
theorem s64_47 {M : Mm} {st : List Value} {l0 l1 l2 : Option Value} : EE 64 47 [l0, l1, l2] st M = EE 64 49 [l0, l1, l2] (.int ((-6)) :: st) M := e_bip d64_47 k_bip_m6
theorem d64_49 : decode (cod 64) 49 = .ok (.ireturn, 1) := by decide +kernel
theorem s64_49 {M : Mm} {l0 l1 l2 : Option Value} {v : Int32} : EE 64 49 [l0, l1, l2] [.int v] M = some (some (.int v), M) := e_iret d64_49 rfl rfl
theorem FE64 {a : Nat} {b0 : Int32} {M : Mm} : FF 64 [.ref a, .int b0] M = EE 64 0 [some (.ref a), some (.int b0), none] [] M := FF_eq 64 _ _ (Nat.le_of_ble_eq_true rfl)
theorem d65_0 : decode (cod 65) 0 = .ok (.fload_n 0, 1) := by decide +kernel
theorem s65_0 {M : Mm} {st : List Value} {l1 l2 : Option Value} {x : UInt32} : EE 65 0 [some (.float x), l1, l2] st M = EE 65 1 [some (.float x), l1, l2] (.float x :: st) M := e_ld d65_0 rfl rfl rfl rfl rfl rfl
theorem d65_1 : decode (cod 65) 1 = .ok (.fconst 0, 1) := by decide +kernel
theorem s65_1 {M : Mm} {st : List Value} {l0 l1 l2 : Option Value} : EE 65 1 [l0, l1, l2] st M = EE 65 2 [l0, l1, l2] (.float FP.fconst0 :: st) M := e_psh d65_1 rfl rfl rfl
theorem d65_2 : decode (cod 65) 2 = .ok (.fcmp .g, 1) := by decide +kernel
theorem s65_2 {M : Mm} {st : List Value} {l0 l1 l2 : Option Value} {x y : UInt32} : EE 65 2 [l0, l1, l2] (.float y :: .float x :: st) M = EE 65 3 [l0, l1, l2] (.int (Op.cmpValue (FP.fcmp x y) .g) :: st) M := e_fcmp d65_2
theorem d65_3 : decode (cod 65) 3 = .ok (.ifCond .gt 5, 3) := by decide +kernel
theorem s65_3 {M : Mm} {st : List Value} {l0 l1 l2 : Option Value} {x : Int32} : EE 65 3 [l0, l1, l2] (.int x :: st) M = if 0 < x then EE 65 8 [l0, l1, l2] st M else EE 65 6 [l0, l1, l2] st M := e_gt0 d65_3 (by decide)
theorem d65_6 : decode (cod 65) 6 = .ok (.iconst 0, 1) := by decide +kernel
theorem s65_6 {M : Mm} {st : List Value} {l0 l1 l2 : Option Value} : EE 65 6 [l0, l1, l2] st M = EE 65 7 [l0, l1, l2] (.int (nI 0) :: st) M := e_con d65_6 k_con_0
theorem d65_7 : decode (cod 65) 7 = .ok (.ireturn, 1) := by decide +kernel
theorem s65_7 {M : Mm} {l0 l1 l2 : Option Value} {v : Int32} : EE 65 7 [l0, l1, l2] [.int v] M = some (some (.int v), M) := e_iret d65_7 rfl rfl
theorem d65_8 : decode (cod 65) 8 = .ok (.fload_n 0, 1) := by decide +kernel
theorem s65_8 {M : Mm} {st : List Value} {l1 l2 : Option Value} {x : UInt32} : EE 65 8 [some (.float x), l1, l2] st M = EE 65 9 [some (.float x), l1, l2] (.float x :: st) M := e_ld d65_8 rfl rfl rfl rfl rfl rfl
theorem d65_9 : decode (cod 65) 9 = .ok (.fstore_n 1, 1) := by decide +kernel
theorem s65_9 {M : Mm} {st : List Value} {l0 l1 l2 : Option Value} {x : UInt32} : EE 65 9 [l0, l1, l2] (.float x :: st) M = EE 65 10 [cln l0, some (.float x), l2] st M := e_st1 d65_9 rfl rfl rfl rfl rfl rfl rfl (Nat.le_of_ble_eq_true rfl) rfl
theorem d65_10 : decode (cod 65) 10 = .ok (.bipush 127, 2) := by decide +kernel
theorem s65_10 {M : Mm} {st : List Value} {l0 l1 l2 : Option Value} : EE 65 10 [l0, l1, l2] st M = EE 65 12 [l0, l1, l2] (.int (nI 127) :: st) M := e_bip d65_10 k_bip_127
theorem d65_12 : decode (cod 65) 12 = .ok (.istore_n 2, 1) := by decide +kernel
theorem s65_12 {M : Mm} {st : List Value} {l0 l1 l2 : Option Value} {x : Int32} : EE 65 12 [l0, l1, l2] (.int x :: st) M = EE 65 13 [l0, cln l1, some (.int x)] st M := e_st1 d65_12 rfl rfl rfl rfl rfl rfl rfl (Nat.le_of_ble_eq_true rfl) rfl
theorem d65_13 : decode (cod 65) 13 = .ok (.fload_n 1, 1) := by decide +kernel
theorem s65_13 {M : Mm} {st : List Value} {l0 l2 : Option Value} {x : UInt32} : EE 65 13 [l0, some (.float x), l2] st M = EE 65 14 [l0, some (.float x), l2] (.float x :: st) M := e_ld d65_13 rfl rfl rfl rfl rfl rfl
theorem d65_14 : decode (cod 65) 14 = .ok (.fconst 1, 1) := by decide +kernel
theorem s65_14 {M : Mm} {st : List Value} {l0 l1 l2 : Option Value} : EE 65 14 [l0, l1, l2] st M = EE 65 15 [l0, l1, l2] (.float FP.fconst1 :: st) M := e_psh d65_14 rfl rfl rfl
theorem d65_15 : decode (cod 65) 15 = .ok (.fcmp .g, 1) := by decide +kernel
theorem s65_15 {M : Mm} {st : List Value} {l0 l1 l2 : Option Value} {x y : UInt32} : EE 65 15 [l0, l1, l2] (.float y :: .float x :: st) M = EE 65 16 [l0, l1, l2] (.int (Op.cmpValue (FP.fcmp x y) .g) :: st) M := e_fcmp d65_15
theorem d65_16 : decode (cod 65) 16 = .ok (.ifCond .ge 18, 3) := by decide +kernel
theorem s65_16 {M : Mm} {st : List Value} {l0 l1 l2 : Option Value} {x : Int32} : EE 65 16 [l0, l1, l2] (.int x :: st) M = if 0 ≤ x then EE 65 34 [l0, l1, l2] st M else EE 65 19 [l0, l1, l2] st M := e_ge0 d65_16 (by decide)
theorem d65_19 : decode (cod 65) 19 = .ok (.iload_n 2, 1) := by decide +kernel
theorem s65_19 {M : Mm} {st : List Value} {l0 l1 : Option Value} {x : Int32} : EE 65 19 [l0, l1, some (.int x)] st M = EE 65 20 [l0, l1, some (.int x)] (.int x :: st) M := e_ld d65_19 rfl rfl rfl rfl rfl rfl
theorem d65_20 : decode (cod 65) 20 = .ok (.iconst 1, 1) := by decide +kernel
theorem s65_20 {M : Mm} {st : List Value} {l0 l1 l2 : Option Value} : EE 65 20 [l0, l1, l2] st M = EE 65 21 [l0, l1, l2] (.int (nI 1) :: st) M := e_con d65_20 k_con_1
theorem d65_21 : decode (cod 65) 21 = .ok (.if_icmp .le 13, 3) := by decide +kernel
theorem s65_21 {M : Mm} {st : List Value} {l0 l1 l2 : Option Value} {x y : Int32} : EE 65 21 [l0, l1, l2] (.int y :: .int x :: st) M = if x ≤ y then EE 65 34 [l0, l1, l2] st M else EE 65 24 [l0, l1, l2] st M := e_cle d65_21 (by decide)
theorem d65_24 : decode (cod 65) 24 = .ok (.fload_n 1, 1) := by decide +kernel
theorem s65_24 {M : Mm} {st : List Value} {l0 l2 : Option Value} {x : UInt32} : EE 65 24 [l0, some (.float x), l2] st M = EE 65 25 [l0, some (.float x), l2] (.float x :: st) M := e_ld d65_24 rfl rfl rfl rfl rfl rfl
theorem d65_25 : decode (cod 65) 25 = .ok (.fconst 2, 1) := by decide +kernel
theorem s65_25 {M : Mm} {st : List Value} {l0 l1 l2 : Option Value} : EE 65 25 [l0, l1, l2] st M = EE 65 26 [l0, l1, l2] (.float FP.fconst2 :: st) M := e_psh d65_25 rfl rfl rfl
theorem d65_26 : decode (cod 65) 26 = .ok (.fmul, 1) := by decide +kernel
theorem s65_26 {M : Mm} {st : List Value} {l0 l1 l2 : Option Value} {x y : UInt32} (h : FP.fmul x y &&& 0x7fffffff ≤ 0x7f800000) : EE 65 26 [l0, l1, l2] (.float y :: .float x :: st) M = EE 65 27 [l0, l1, l2] (.float (FP.fmul x y) :: st) M := e_fmul d65_26 h
theorem d65_27 : decode (cod 65) 27 = .ok (.fstore_n 1, 1) := by decide +kernel
theorem s65_27 {M : Mm} {st : List Value} {l0 l1 l2 : Option Value} {x : UInt32} : EE 65 27 [l0, l1, l2] (.float x :: st) M = EE 65 28 [cln l0, some (.float x), l2] st M := e_st1 d65_27 rfl rfl rfl rfl rfl rfl rfl (Nat.le_of_ble_eq_true rfl) rfl
theorem d65_28 : decode (cod 65) 28 = .ok (.iinc 2 (-1), 3) := by decide +kernel
theorem s65_28 {M : Mm} {st : List Value} {l0 l1 : Option Value} {x : Int32} : EE 65 28 [l0, l1, some (.int x)] st M = EE 65 31 [l0, cln l1, some (.int (x + (-1)))] st M := e_iinc d65_28 rfl (congrArg (fun z => x + z) k_inc_m1) rfl
theorem d65_31 : decode (cod 65) 31 = .ok (.goto (-18), 3) := by decide +kernel
theorem s65_31 {M : Mm} {st : List Value} {l0 l1 l2 : Option Value} : EE 65 31 [l0, l1, l2] st M = EE 65 13 [l0, l1, l2] st M := e_goto d65_31 (by decide)
theorem d65_34 : decode (cod 65) 34 = .ok (.iload_n 2, 1) := by decide +kernel
theorem s65_34 {M : Mm} {st : List Value} {l0 l1 : Option Value} {x : Int32} : EE 65 34 [l0, l1, some (.int x)] st M = EE 65 35 [l0, l1, some (.int x)] (.int x :: st) M := e_ld d65_34 rfl rfl rfl rfl rfl rfl
theorem d65_35 : decode (cod 65) 35 = .ok (.bipush 23, 2) := by decide +kernel
theorem s65_35 {M : Mm} {st : List Value} {l0 l1 l2 : Option Value} : EE 65 35 [l0, l1, l2] st M = EE 65 37 [l0, l1, l2] (.int (nI 23) :: st) M := e_bip d65_35 k_bip_23
theorem d65_37 : decode (cod 65) 37 = .ok (.ishl, 1) := by decide +kernel
theorem s65_37 {M : Mm} {st : List Value} {l0 l1 l2 : Option Value} {x y : Int32} : EE 65 37 [l0, l1, l2] (.int y :: .int x :: st) M = EE 65 38 [l0, l1, l2] (.int (x <<< (y &&& 31)) :: st) M := e_II d65_37 rfl rfl rfl rfl rfl rfl
theorem d65_38 : decode (cod 65) 38 = .ok (.fload_n 1, 1) := by decide +kernel
theorem s65_38 {M : Mm} {st : List Value} {l0 l2 : Option Value} {x : UInt32} : EE 65 38 [l0, some (.float x), l2] st M = EE 65 39 [l0, some (.float x), l2] (.float x :: st) M := e_ld d65_38 rfl rfl rfl rfl rfl rfl
theorem d65_39 : decode (cod 65) 39 = .ok (.ldc 224, 2) := by decide +kernel
theorem s65_39 {M : Mm} {st : List Value} {l0 l1 l2 : Option Value} : EE 65 39 [l0, l1, l2] st M = EE 65 41 [l0, l1, l2] (.float 1258291200 :: st) M := e_ldc d65_39 k2_224
theorem d65_41 : decode (cod 65) 41 = .ok (.fmul, 1) := by decide +kernel
theorem s65_41 {M : Mm} {st : List Value} {l0 l1 l2 : Option Value} {x y : UInt32} (h : FP.fmul x y &&& 0x7fffffff ≤ 0x7f800000) : EE 65 41 [l0, l1, l2] (.float y :: .float x :: st) M = EE 65 42 [l0, l1, l2] (.float (FP.fmul x y) :: st) M := e_fmul d65_41 h
theorem d65_42 : decode (cod 65) 42 = .ok (.f2i, 1) := by decide +kernel
theorem s65_42 {M : Mm} {st : List Value} {l0 l1 l2 : Option Value} {x : UInt32} : EE 65 42 [l0, l1, l2] (.float x :: st) M = EE 65 43 [l0, l1, l2] (.int (FP.f2i x) :: st) M := e_U d65_42 rfl rfl rfl rfl rfl (bn_f2i x) rfl
theorem d65_43 : decode (cod 65) 43 = .ok (.ldc 225, 2) := by decide +kernel
theorem s65_43 {M : Mm} {st : List Value} {l0 l1 l2 : Option Value} : EE 65 43 [l0, l1, l2] st M = EE 65 45 [l0, l1, l2] (.int 8388608 :: st) M := e_ldc d65_43 k2_225
theorem d65_45 : decode (cod 65) 45 = .ok (.isub, 1) := by decide +kernel
theorem s65_45 {M : Mm} {st : List Value} {l0 l1 l2 : Option Value} {x y : Int32} : EE 65 45 [l0, l1, l2] (.int y :: .int x :: st) M = EE 65 46 [l0, l1, l2] (.int (x - y) :: st) M := e_II d65_45 rfl rfl rfl rfl rfl rfl
theorem d65_46 : decode (cod 65) 46 = .ok (.iadd, 1) := by decide +kernel
theorem s65_46 {M : Mm} {st : List Value} {l0 l1 l2 : Option Value} {x y : Int32} : EE 65 46 [l0, l1, l2] (.int y :: .int x :: st) M = EE 65 47 [l0, l1, l2] (.int (x + y) :: st) M := e_II d65_46 rfl rfl rfl rfl rfl rfl
theorem d65_47 : decode (cod 65) 47 = .ok (.ireturn, 1) := by decide +kernel
theorem s65_47 {M : Mm} {l0 l1 l2 : Option Value} {v : Int32} : EE 65 47 [l0, l1, l2] [.int v] M = some (some (.int v), M) := e_iret d65_47 rfl rfl
theorem FE65 {b0 : UInt32} {M : Mm} : FF 65 [.float b0] M = EE 65 0 [some (.float b0), none, none] [] M := FF_eq 65 _ _ (Nat.le_of_ble_eq_true rfl)
theorem d66_0 : decode (cod 66) 0 = .ok (.iload_n 1, 1) := by decide +kernel
theorem s66_0 {M : Mm} {st : List Value} {l0 l2 : Option Value} {x : Int32} : EE 66 0 [l0, some (.int x), l2] st M = EE 66 1 [l0, some (.int x), l2] (.int x :: st) M := e_ld d66_0 rfl rfl rfl rfl rfl rfl
theorem d66_1 : decode (cod 66) 1 = .ok (.invokestatic 87, 3) := by decide +kernel
theorem s66_1 {M : Mm} {l0 l1 l2 : Option Value} {b0 : Int32} {st : List Value} (hl : st.length ≤ 4) : EE 66 1 [l0, l1, l2] (.int b0 :: st) M = (FF 49 [.int b0] M).bind (fun z => EE 66 4 [l0, l1, l2] (psh z.1 st) z.2) := e_cals (av := [.int b0]) d66_1 c2_87 (Or.inl rfl) rfl rfl r66_49 rfl hl
theorem d66_4 : decode (cod 66) 4 = .ok (.ifCond .ne 7, 3) := by decide +kernel
theorem s66_4 {M : Mm} {st : List Value} {l0 l1 l2 : Option Value} {x : Int32} : EE 66 4 [l0, l1, l2] (.int x :: st) M = if x = 0 then EE 66 7 [l0, l1, l2] st M else EE 66 11 [l0, l1, l2] st M := e_ne0 d66_4 (by decide)
theorem d66_7 : decode (cod 66) 7 = .ok (.ldc2_w 181, 3) := by decide +kernel
theorem s66_7 {M : Mm} {st : List Value} {l0 l1 l2 : Option Value} : EE 66 7 [l0, l1, l2] st M = EE 66 10 [l0, l1, l2] (.long (-1) :: st) M := e_ldc2 d66_7 q2_181
theorem d66_10 : decode (cod 66) 10 = .ok (.lreturn, 1) := by decide +kernel
theorem s66_10 {M : Mm} {l0 l1 l2 : Option Value} {v : Int64} : EE 66 10 [l0, l1, l2] [.long v] M = some (some (.long v), M) := e_lret d66_10 rfl
theorem d66_11 : decode (cod 66) 11 = .ok (.aload_n 0, 1) := by decide +kernel
theorem s66_11 {M : Mm} {st : List Value} {l1 l2 : Option Value} {x : Nat} : EE 66 11 [some (.ref x), l1, l2] st M = EE 66 12 [some (.ref x), l1, l2] (.ref x :: st) M := e_ld d66_11 rfl rfl rfl rfl rfl rfl
theorem d66_12 : decode (cod 66) 12 = .ok (.getfield 12, 3) := by decide +kernel
theorem s66_12 {n : Nat} {I : Nat → Nat → Int32} {R : Nat → Nat → Option Nat} {st : List Value} {l0 l1 l2 : Option Value} {a : Nat} : EE 66 12 [l0, l1, l2] (.ref a :: st) (n, I, R) = (gfI n I R 2 0 a).bind (fun z => EE 66 15 [l0, l1, l2] (z :: st) (n, I, R)) := e_getf d66_12 f2_12 rfl rfl
theorem d66_15 : decode (cod 66) 15 = .ok (.invokevirtual 141, 3) := by decide +kernel
theorem s66_15 {l0 l1 l2 : Option Value} {a : Nat} {M : Mm} {st : List Value} (hl : st.length ≤ 4) (ho : isO "HandoverDesk$State" M.1 a = true) : EE 66 15 [l0, l1, l2] (.ref a :: st) M = (FF 39 (.ref a :: []) M).bind (fun z => EE 66 18 [l0, l1, l2] (psh z.1 st) z.2) := e_calv (av := []) d66_15 c2_141 rfl rfl rfl r66_39 rfl hl ho
theorem d66_18 : decode (cod 66) 18 = .ok (.istore_n 2, 1) := by decide +kernel
theorem s66_18 {M : Mm} {st : List Value} {l0 l1 l2 : Option Value} {x : Int32} : EE 66 18 [l0, l1, l2] (.int x :: st) M = EE 66 19 [l0, cln l1, some (.int x)] st M := e_st1 d66_18 rfl rfl rfl rfl rfl rfl rfl (Nat.le_of_ble_eq_true rfl) rfl
theorem d66_19 : decode (cod 66) 19 = .ok (.iload_n 2, 1) := by decide +kernel
theorem s66_19 {M : Mm} {st : List Value} {l0 l1 : Option Value} {x : Int32} : EE 66 19 [l0, l1, some (.int x)] st M = EE 66 20 [l0, l1, some (.int x)] (.int x :: st) M := e_ld d66_19 rfl rfl rfl rfl rfl rfl
theorem d66_20 : decode (cod 66) 20 = .ok (.ifCond .le 21, 3) := by decide +kernel
theorem s66_20 {M : Mm} {st : List Value} {l0 l1 l2 : Option Value} {x : Int32} : EE 66 20 [l0, l1, l2] (.int x :: st) M = if x ≤ 0 then EE 66 41 [l0, l1, l2] st M else EE 66 23 [l0, l1, l2] st M := e_le0 d66_20 (by decide)
theorem d66_23 : decode (cod 66) 23 = .ok (.aload_n 0, 1) := by decide +kernel
theorem s66_23 {M : Mm} {st : List Value} {l1 l2 : Option Value} {x : Nat} : EE 66 23 [some (.ref x), l1, l2] st M = EE 66 24 [some (.ref x), l1, l2] (.ref x :: st) M := e_ld d66_23 rfl rfl rfl rfl rfl rfl
theorem d66_24 : decode (cod 66) 24 = .ok (.getfield 12, 3) := by decide +kernel
theorem s66_24 {n : Nat} {I : Nat → Nat → Int32} {R : Nat → Nat → Option Nat} {st : List Value} {l0 l1 l2 : Option Value} {a : Nat} : EE 66 24 [l0, l1, l2] (.ref a :: st) (n, I, R) = (gfI n I R 2 0 a).bind (fun z => EE 66 27 [l0, l1, l2] (z :: st) (n, I, R)) := e_getf d66_24 f2_12 rfl rfl
theorem d66_27 : decode (cod 66) 27 = .ok (.iload_n 1, 1) := by decide +kernel
theorem s66_27 {M : Mm} {st : List Value} {l0 l2 : Option Value} {x : Int32} : EE 66 27 [l0, some (.int x), l2] st M = EE 66 28 [l0, some (.int x), l2] (.int x :: st) M := e_ld d66_27 rfl rfl rfl rfl rfl rfl
theorem d66_28 : decode (cod 66) 28 = .ok (.invokevirtual 183, 3) := by decide +kernel
theorem s66_28 {l0 l1 l2 : Option Value} {a : Nat} {M : Mm} {b0 : Int32} {st : List Value} (hl : st.length ≤ 4) (ho : isO "HandoverDesk$State" M.1 a = true) : EE 66 28 [l0, l1, l2] (.int b0 :: .ref a :: st) M = (FF 41 (.ref a :: [.int b0]) M).bind (fun z => EE 66 31 [l0, l1, l2] (psh z.1 st) z.2) := e_calv (av := [.int b0]) d66_28 c2_183 rfl rfl rfl r66_41 rfl hl ho
theorem d66_31 : decode (cod 66) 31 = .ok (.i2d, 1) := by decide +kernel
theorem s66_31 {M : Mm} {st : List Value} {l0 l1 l2 : Option Value} {x : Int32} : EE 66 31 [l0, l1, l2] (.int x :: st) M = EE 66 32 [l0, l1, l2] (.double (FP.i2d x) :: st) M := e_U d66_31 rfl rfl rfl rfl rfl (bn_i2d x) rfl
theorem d66_32 : decode (cod 66) 32 = .ok (.iload_n 2, 1) := by decide +kernel
theorem s66_32 {M : Mm} {st : List Value} {l0 l1 : Option Value} {x : Int32} : EE 66 32 [l0, l1, some (.int x)] st M = EE 66 33 [l0, l1, some (.int x)] (.int x :: st) M := e_ld d66_32 rfl rfl rfl rfl rfl rfl
theorem d66_33 : decode (cod 66) 33 = .ok (.i2d, 1) := by decide +kernel
theorem s66_33 {M : Mm} {st : List Value} {l0 l1 l2 : Option Value} {x : Int32} : EE 66 33 [l0, l1, l2] (.int x :: st) M = EE 66 34 [l0, l1, l2] (.double (FP.i2d x) :: st) M := e_U d66_33 rfl rfl rfl rfl rfl (bn_i2d x) rfl
theorem d66_34 : decode (cod 66) 34 = .ok (.ddiv, 1) := by decide +kernel
theorem s66_34 {M : Mm} {st : List Value} {l0 l1 l2 : Option Value} {x y : UInt64} (h : FP.ddiv x y &&& 0x7fffffffffffffff ≤ 0x7ff0000000000000) : EE 66 34 [l0, l1, l2] (.double y :: .double x :: st) M = EE 66 35 [l0, l1, l2] (.double (FP.ddiv x y) :: st) M := e_ddiv d66_34 h
theorem d66_35 : decode (cod 66) 35 = .ok (.invokestatic 186, 3) := by decide +kernel
theorem s66_35 {M : Mm} {l0 l1 l2 : Option Value} {b0 : UInt64} {st : List Value} (hl : st.length ≤ 4) : EE 66 35 [l0, l1, l2] (.double b0 :: st) M = (FF 67 [.double b0] M).bind (fun z => EE 66 38 [l0, l1, l2] (psh z.1 st) z.2) := e_cals (av := [.double b0]) d66_35 c2_186 (Or.inl rfl) rfl rfl r66_67 rfl hl
theorem d66_38 : decode (cod 66) 38 = .ok (.goto 4, 3) := by decide +kernel
theorem s66_38 {M : Mm} {st : List Value} {l0 l1 l2 : Option Value} : EE 66 38 [l0, l1, l2] st M = EE 66 42 [l0, l1, l2] st M := e_goto d66_38 (by decide)
theorem d66_41 : decode (cod 66) 41 = .ok (.lconst 0, 1) := by decide +kernel
theorem s66_41 {M : Mm} {st : List Value} {l0 l1 l2 : Option Value} : EE 66 41 [l0, l1, l2] st M = EE 66 42 [l0, l1, l2] (.long 0 :: st) M := e_psh d66_41 rfl rfl rfl
theorem d66_42 : decode (cod 66) 42 = .ok (.lreturn, 1) := by decide +kernel
theorem s66_42 {M : Mm} {l0 l1 l2 : Option Value} {v : Int64} : EE 66 42 [l0, l1, l2] [.long v] M = some (some (.long v), M) := e_lret d66_42 rfl
theorem FE66 {a : Nat} {b0 : Int32} {M : Mm} : FF 66 [.ref a, .int b0] M = EE 66 0 [some (.ref a), some (.int b0), none] [] M := FF_eq 66 _ _ (Nat.le_of_ble_eq_true rfl)
theorem d67_0 : decode (cod 67) 0 = .ok (.dload_n 0, 1) := by decide +kernel
theorem s67_0 {M : Mm} {st : List Value} {l1 l2 l3 l4 : Option Value} {x : UInt64} : EE 67 0 [some (.double x), l1, l2, l3, l4] st M = EE 67 1 [some (.double x), l1, l2, l3, l4] (.double x :: st) M := e_ld d67_0 rfl rfl rfl rfl rfl rfl
theorem d67_1 : decode (cod 67) 1 = .ok (.dconst 0, 1) := by decide +kernel
theorem s67_1 {M : Mm} {st : List Value} {l0 l1 l2 l3 l4 : Option Value} : EE 67 1 [l0, l1, l2, l3, l4] st M = EE 67 2 [l0, l1, l2, l3, l4] (.double FP.dconst0 :: st) M := e_psh d67_1 rfl rfl rfl
theorem d67_2 : decode (cod 67) 2 = .ok (.dcmp .g, 1) := by decide +kernel
theorem s67_2 {M : Mm} {st : List Value} {l0 l1 l2 l3 l4 : Option Value} {x y : UInt64} : EE 67 2 [l0, l1, l2, l3, l4] (.double y :: .double x :: st) M = EE 67 3 [l0, l1, l2, l3, l4] (.int (Op.cmpValue (FP.dcmp x y) .g) :: st) M := e_dcmp d67_2
theorem d67_3 : decode (cod 67) 3 = .ok (.ifCond .gt 5, 3) := by decide +kernel
theorem s67_3 {M : Mm} {st : List Value} {l0 l1 l2 l3 l4 : Option Value} {x : Int32} : EE 67 3 [l0, l1, l2, l3, l4] (.int x :: st) M = if 0 < x then EE 67 8 [l0, l1, l2, l3, l4] st M else EE 67 6 [l0, l1, l2, l3, l4] st M := e_gt0 d67_3 (by decide)
theorem d67_6 : decode (cod 67) 6 = .ok (.lconst 0, 1) := by decide +kernel
theorem s67_6 {M : Mm} {st : List Value} {l0 l1 l2 l3 l4 : Option Value} : EE 67 6 [l0, l1, l2, l3, l4] st M = EE 67 7 [l0, l1, l2, l3, l4] (.long 0 :: st) M := e_psh d67_6 rfl rfl rfl
theorem d67_7 : decode (cod 67) 7 = .ok (.lreturn, 1) := by decide +kernel
theorem s67_7 {M : Mm} {l0 l1 l2 l3 l4 : Option Value} {v : Int64} : EE 67 7 [l0, l1, l2, l3, l4] [.long v] M = some (some (.long v), M) := e_lret d67_7 rfl
theorem d67_8 : decode (cod 67) 8 = .ok (.dload_n 0, 1) := by decide +kernel
theorem s67_8 {M : Mm} {st : List Value} {l1 l2 l3 l4 : Option Value} {x : UInt64} : EE 67 8 [some (.double x), l1, l2, l3, l4] st M = EE 67 9 [some (.double x), l1, l2, l3, l4] (.double x :: st) M := e_ld d67_8 rfl rfl rfl rfl rfl rfl
theorem d67_9 : decode (cod 67) 9 = .ok (.dstore_n 2, 1) := by decide +kernel
theorem s67_9 {M : Mm} {st : List Value} {l0 l1 l2 l3 l4 : Option Value} {x : UInt64} : EE 67 9 [l0, l1, l2, l3, l4] (.double x :: st) M = EE 67 10 [l0, cln l1, some (.double x), none, l4] st M := e_st2 d67_9 rfl rfl rfl rfl rfl rfl rfl (Nat.le_of_ble_eq_true rfl) rfl
theorem d67_10 : decode (cod 67) 10 = .ok (.sipush 1023, 3) := by decide +kernel
theorem s67_10 {M : Mm} {st : List Value} {l0 l1 l2 l3 l4 : Option Value} : EE 67 10 [l0, l1, l2, l3, l4] st M = EE 67 13 [l0, l1, l2, l3, l4] (.int (nI 1023) :: st) M := e_sip d67_10 k_sip_1023
theorem d67_13 : decode (cod 67) 13 = .ok (.istore 4, 2) := by decide +kernel
theorem s67_13 {M : Mm} {st : List Value} {l0 l1 l2 l3 l4 : Option Value} {x : Int32} : EE 67 13 [l0, l1, l2, l3, l4] (.int x :: st) M = EE 67 15 [l0, l1, l2, cln l3, some (.int x)] st M := e_st1 d67_13 rfl rfl rfl rfl rfl rfl rfl (Nat.le_of_ble_eq_true rfl) rfl
theorem d67_15 : decode (cod 67) 15 = .ok (.dload_n 2, 1) := by decide +kernel
theorem s67_15 {M : Mm} {st : List Value} {l0 l1 l3 l4 : Option Value} {x : UInt64} : EE 67 15 [l0, l1, some (.double x), l3, l4] st M = EE 67 16 [l0, l1, some (.double x), l3, l4] (.double x :: st) M := e_ld d67_15 rfl rfl rfl rfl rfl rfl
theorem d67_16 : decode (cod 67) 16 = .ok (.dconst 1, 1) := by decide +kernel
theorem s67_16 {M : Mm} {st : List Value} {l0 l1 l2 l3 l4 : Option Value} : EE 67 16 [l0, l1, l2, l3, l4] st M = EE 67 17 [l0, l1, l2, l3, l4] (.double FP.dconst1 :: st) M := e_psh d67_16 rfl rfl rfl
theorem d67_17 : decode (cod 67) 17 = .ok (.dcmp .g, 1) := by decide +kernel
theorem s67_17 {M : Mm} {st : List Value} {l0 l1 l2 l3 l4 : Option Value} {x y : UInt64} : EE 67 17 [l0, l1, l2, l3, l4] (.double y :: .double x :: st) M = EE 67 18 [l0, l1, l2, l3, l4] (.int (Op.cmpValue (FP.dcmp x y) .g) :: st) M := e_dcmp d67_17
theorem d67_18 : decode (cod 67) 18 = .ok (.ifCond .ge 21, 3) := by decide +kernel
theorem s67_18 {M : Mm} {st : List Value} {l0 l1 l2 l3 l4 : Option Value} {x : Int32} : EE 67 18 [l0, l1, l2, l3, l4] (.int x :: st) M = if 0 ≤ x then EE 67 39 [l0, l1, l2, l3, l4] st M else EE 67 21 [l0, l1, l2, l3, l4] st M := e_ge0 d67_18 (by decide)
theorem d67_21 : decode (cod 67) 21 = .ok (.iload 4, 2) := by decide +kernel
theorem s67_21 {M : Mm} {st : List Value} {l0 l1 l2 l3 : Option Value} {x : Int32} : EE 67 21 [l0, l1, l2, l3, some (.int x)] st M = EE 67 23 [l0, l1, l2, l3, some (.int x)] (.int x :: st) M := e_ld d67_21 rfl rfl rfl rfl rfl rfl
theorem d67_23 : decode (cod 67) 23 = .ok (.iconst 1, 1) := by decide +kernel
theorem s67_23 {M : Mm} {st : List Value} {l0 l1 l2 l3 l4 : Option Value} : EE 67 23 [l0, l1, l2, l3, l4] st M = EE 67 24 [l0, l1, l2, l3, l4] (.int (nI 1) :: st) M := e_con d67_23 k_con_1
theorem d67_24 : decode (cod 67) 24 = .ok (.if_icmp .le 15, 3) := by decide +kernel
theorem s67_24 {M : Mm} {st : List Value} {l0 l1 l2 l3 l4 : Option Value} {x y : Int32} : EE 67 24 [l0, l1, l2, l3, l4] (.int y :: .int x :: st) M = if x ≤ y then EE 67 39 [l0, l1, l2, l3, l4] st M else EE 67 27 [l0, l1, l2, l3, l4] st M := e_cle d67_24 (by decide)
theorem d67_27 : decode (cod 67) 27 = .ok (.dload_n 2, 1) := by decide +kernel
theorem s67_27 {M : Mm} {st : List Value} {l0 l1 l3 l4 : Option Value} {x : UInt64} : EE 67 27 [l0, l1, some (.double x), l3, l4] st M = EE 67 28 [l0, l1, some (.double x), l3, l4] (.double x :: st) M := e_ld d67_27 rfl rfl rfl rfl rfl rfl
theorem d67_28 : decode (cod 67) 28 = .ok (.ldc2_w 226, 3) := by decide +kernel
theorem s67_28 {M : Mm} {st : List Value} {l0 l1 l2 l3 l4 : Option Value} : EE 67 28 [l0, l1, l2, l3, l4] st M = EE 67 31 [l0, l1, l2, l3, l4] (.double 4611686018427387904 :: st) M := e_ldc2 d67_28 q2_226
theorem d67_31 : decode (cod 67) 31 = .ok (.dmul, 1) := by decide +kernel
theorem s67_31 {M : Mm} {st : List Value} {l0 l1 l2 l3 l4 : Option Value} {x y : UInt64} (h : FP.dmul x y &&& 0x7fffffffffffffff ≤ 0x7ff0000000000000) : EE 67 31 [l0, l1, l2, l3, l4] (.double y :: .double x :: st) M = EE 67 32 [l0, l1, l2, l3, l4] (.double (FP.dmul x y) :: st) M := e_dmul d67_31 h
theorem d67_32 : decode (cod 67) 32 = .ok (.dstore_n 2, 1) := by decide +kernel
theorem s67_32 {M : Mm} {st : List Value} {l0 l1 l2 l3 l4 : Option Value} {x : UInt64} : EE 67 32 [l0, l1, l2, l3, l4] (.double x :: st) M = EE 67 33 [l0, cln l1, some (.double x), none, l4] st M := e_st2 d67_32 rfl rfl rfl rfl rfl rfl rfl (Nat.le_of_ble_eq_true rfl) rfl
theorem d67_33 : decode (cod 67) 33 = .ok (.iinc 4 (-1), 3) := by decide +kernel
theorem s67_33 {M : Mm} {st : List Value} {l0 l1 l2 l3 : Option Value} {x : Int32} : EE 67 33 [l0, l1, l2, l3, some (.int x)] st M = EE 67 36 [l0, l1, l2, cln l3, some (.int (x + (-1)))] st M := e_iinc d67_33 rfl (congrArg (fun z => x + z) k_inc_m1) rfl
theorem d67_36 : decode (cod 67) 36 = .ok (.goto (-21), 3) := by decide +kernel
theorem s67_36 {M : Mm} {st : List Value} {l0 l1 l2 l3 l4 : Option Value} : EE 67 36 [l0, l1, l2, l3, l4] st M = EE 67 15 [l0, l1, l2, l3, l4] st M := e_goto d67_36 (by decide)
theorem d67_39 : decode (cod 67) 39 = .ok (.dload_n 2, 1) := by decide +kernel
theorem s67_39 {M : Mm} {st : List Value} {l0 l1 l3 l4 : Option Value} {x : UInt64} : EE 67 39 [l0, l1, some (.double x), l3, l4] st M = EE 67 40 [l0, l1, some (.double x), l3, l4] (.double x :: st) M := e_ld d67_39 rfl rfl rfl rfl rfl rfl
theorem d67_40 : decode (cod 67) 40 = .ok (.ldc2_w 226, 3) := by decide +kernel
theorem s67_40 {M : Mm} {st : List Value} {l0 l1 l2 l3 l4 : Option Value} : EE 67 40 [l0, l1, l2, l3, l4] st M = EE 67 43 [l0, l1, l2, l3, l4] (.double 4611686018427387904 :: st) M := e_ldc2 d67_40 q2_226
theorem d67_43 : decode (cod 67) 43 = .ok (.dcmp .l, 1) := by decide +kernel
theorem s67_43 {M : Mm} {st : List Value} {l0 l1 l2 l3 l4 : Option Value} {x y : UInt64} : EE 67 43 [l0, l1, l2, l3, l4] (.double y :: .double x :: st) M = EE 67 44 [l0, l1, l2, l3, l4] (.int (Op.cmpValue (FP.dcmp x y) .l) :: st) M := e_dcmp d67_43
theorem d67_44 : decode (cod 67) 44 = .ok (.ifCond .lt 23, 3) := by decide +kernel
theorem s67_44 {M : Mm} {st : List Value} {l0 l1 l2 l3 l4 : Option Value} {x : Int32} : EE 67 44 [l0, l1, l2, l3, l4] (.int x :: st) M = if x < 0 then EE 67 67 [l0, l1, l2, l3, l4] st M else EE 67 47 [l0, l1, l2, l3, l4] st M := e_lt0 d67_44 (by decide)
theorem d67_47 : decode (cod 67) 47 = .ok (.iload 4, 2) := by decide +kernel
theorem s67_47 {M : Mm} {st : List Value} {l0 l1 l2 l3 : Option Value} {x : Int32} : EE 67 47 [l0, l1, l2, l3, some (.int x)] st M = EE 67 49 [l0, l1, l2, l3, some (.int x)] (.int x :: st) M := e_ld d67_47 rfl rfl rfl rfl rfl rfl
theorem d67_49 : decode (cod 67) 49 = .ok (.sipush 2046, 3) := by decide +kernel
theorem s67_49 {M : Mm} {st : List Value} {l0 l1 l2 l3 l4 : Option Value} : EE 67 49 [l0, l1, l2, l3, l4] st M = EE 67 52 [l0, l1, l2, l3, l4] (.int (nI 2046) :: st) M := e_sip d67_49 k_sip_2046
theorem d67_52 : decode (cod 67) 52 = .ok (.if_icmp .ge 15, 3) := by decide +kernel
theorem s67_52 {M : Mm} {st : List Value} {l0 l1 l2 l3 l4 : Option Value} {x y : Int32} : EE 67 52 [l0, l1, l2, l3, l4] (.int y :: .int x :: st) M = if y ≤ x then EE 67 67 [l0, l1, l2, l3, l4] st M else EE 67 55 [l0, l1, l2, l3, l4] st M := e_cge d67_52 (by decide)
theorem d67_55 : decode (cod 67) 55 = .ok (.dload_n 2, 1) := by decide +kernel
theorem s67_55 {M : Mm} {st : List Value} {l0 l1 l3 l4 : Option Value} {x : UInt64} : EE 67 55 [l0, l1, some (.double x), l3, l4] st M = EE 67 56 [l0, l1, some (.double x), l3, l4] (.double x :: st) M := e_ld d67_55 rfl rfl rfl rfl rfl rfl
theorem d67_56 : decode (cod 67) 56 = .ok (.ldc2_w 226, 3) := by decide +kernel
theorem s67_56 {M : Mm} {st : List Value} {l0 l1 l2 l3 l4 : Option Value} : EE 67 56 [l0, l1, l2, l3, l4] st M = EE 67 59 [l0, l1, l2, l3, l4] (.double 4611686018427387904 :: st) M := e_ldc2 d67_56 q2_226
theorem d67_59 : decode (cod 67) 59 = .ok (.ddiv, 1) := by decide +kernel
theorem s67_59 {M : Mm} {st : List Value} {l0 l1 l2 l3 l4 : Option Value} {x y : UInt64} (h : FP.ddiv x y &&& 0x7fffffffffffffff ≤ 0x7ff0000000000000) : EE 67 59 [l0, l1, l2, l3, l4] (.double y :: .double x :: st) M = EE 67 60 [l0, l1, l2, l3, l4] (.double (FP.ddiv x y) :: st) M := e_ddiv d67_59 h
theorem d67_60 : decode (cod 67) 60 = .ok (.dstore_n 2, 1) := by decide +kernel
theorem s67_60 {M : Mm} {st : List Value} {l0 l1 l2 l3 l4 : Option Value} {x : UInt64} : EE 67 60 [l0, l1, l2, l3, l4] (.double x :: st) M = EE 67 61 [l0, cln l1, some (.double x), none, l4] st M := e_st2 d67_60 rfl rfl rfl rfl rfl rfl rfl (Nat.le_of_ble_eq_true rfl) rfl
theorem d67_61 : decode (cod 67) 61 = .ok (.iinc 4 1, 3) := by decide +kernel
theorem s67_61 {M : Mm} {st : List Value} {l0 l1 l2 l3 : Option Value} {x : Int32} : EE 67 61 [l0, l1, l2, l3, some (.int x)] st M = EE 67 64 [l0, l1, l2, cln l3, some (.int (x + nI 1))] st M := e_iinc d67_61 rfl (congrArg (fun z => x + z) k_inc_1) rfl
theorem d67_64 : decode (cod 67) 64 = .ok (.goto (-25), 3) := by decide +kernel
theorem s67_64 {M : Mm} {st : List Value} {l0 l1 l2 l3 l4 : Option Value} : EE 67 64 [l0, l1, l2, l3, l4] st M = EE 67 39 [l0, l1, l2, l3, l4] st M := e_goto d67_64 (by decide)
theorem d67_67 : decode (cod 67) 67 = .ok (.iload 4, 2) := by decide +kernel
theorem s67_67 {M : Mm} {st : List Value} {l0 l1 l2 l3 : Option Value} {x : Int32} : EE 67 67 [l0, l1, l2, l3, some (.int x)] st M = EE 67 69 [l0, l1, l2, l3, some (.int x)] (.int x :: st) M := e_ld d67_67 rfl rfl rfl rfl rfl rfl
theorem d67_69 : decode (cod 67) 69 = .ok (.i2l, 1) := by decide +kernel
theorem s67_69 {M : Mm} {st : List Value} {l0 l1 l2 l3 l4 : Option Value} {x : Int32} : EE 67 69 [l0, l1, l2, l3, l4] (.int x :: st) M = EE 67 70 [l0, l1, l2, l3, l4] (.long x.toInt64 :: st) M := e_U d67_69 rfl rfl rfl rfl rfl (bn_i2l x) rfl
theorem d67_70 : decode (cod 67) 70 = .ok (.bipush 52, 2) := by decide +kernel
theorem s67_70 {M : Mm} {st : List Value} {l0 l1 l2 l3 l4 : Option Value} : EE 67 70 [l0, l1, l2, l3, l4] st M = EE 67 72 [l0, l1, l2, l3, l4] (.int (nI 52) :: st) M := e_bip d67_70 k_bip_52
theorem d67_72 : decode (cod 67) 72 = .ok (.lshl, 1) := by decide +kernel
theorem s67_72 {M : Mm} {st : List Value} {l0 l1 l2 l3 l4 : Option Value} {x : Int64} {y : Int32} : EE 67 72 [l0, l1, l2, l3, l4] (.int y :: .long x :: st) M = EE 67 73 [l0, l1, l2, l3, l4] (.long (x <<< (y.toInt64 &&& 63)) :: st) M := e_sh d67_72 rfl rfl rfl rfl rfl rfl
theorem d67_73 : decode (cod 67) 73 = .ok (.dload_n 2, 1) := by decide +kernel
theorem s67_73 {M : Mm} {st : List Value} {l0 l1 l3 l4 : Option Value} {x : UInt64} : EE 67 73 [l0, l1, some (.double x), l3, l4] st M = EE 67 74 [l0, l1, some (.double x), l3, l4] (.double x :: st) M := e_ld d67_73 rfl rfl rfl rfl rfl rfl
theorem d67_74 : decode (cod 67) 74 = .ok (.ldc2_w 228, 3) := by decide +kernel
theorem s67_74 {M : Mm} {st : List Value} {l0 l1 l2 l3 l4 : Option Value} : EE 67 74 [l0, l1, l2, l3, l4] st M = EE 67 77 [l0, l1, l2, l3, l4] (.double 4841369599423283200 :: st) M := e_ldc2 d67_74 q2_228
theorem d67_77 : decode (cod 67) 77 = .ok (.dmul, 1) := by decide +kernel
theorem s67_77 {M : Mm} {st : List Value} {l0 l1 l2 l3 l4 : Option Value} {x y : UInt64} (h : FP.dmul x y &&& 0x7fffffffffffffff ≤ 0x7ff0000000000000) : EE 67 77 [l0, l1, l2, l3, l4] (.double y :: .double x :: st) M = EE 67 78 [l0, l1, l2, l3, l4] (.double (FP.dmul x y) :: st) M := e_dmul d67_77 h
theorem d67_78 : decode (cod 67) 78 = .ok (.d2l, 1) := by decide +kernel
theorem s67_78 {M : Mm} {st : List Value} {l0 l1 l2 l3 l4 : Option Value} {x : UInt64} : EE 67 78 [l0, l1, l2, l3, l4] (.double x :: st) M = EE 67 79 [l0, l1, l2, l3, l4] (.long (FP.d2l x) :: st) M := e_U d67_78 rfl rfl rfl rfl rfl (bn_d2l x) rfl
theorem d67_79 : decode (cod 67) 79 = .ok (.ldc2_w 230, 3) := by decide +kernel
theorem s67_79 {M : Mm} {st : List Value} {l0 l1 l2 l3 l4 : Option Value} : EE 67 79 [l0, l1, l2, l3, l4] st M = EE 67 82 [l0, l1, l2, l3, l4] (.long (4503599627370496) :: st) M := e_ldc2 d67_79 q2_230
theorem d67_82 : decode (cod 67) 82 = .ok (.lsub, 1) := by decide +kernel
theorem s67_82 {M : Mm} {st : List Value} {l0 l1 l2 l3 l4 : Option Value} {x y : Int64} : EE 67 82 [l0, l1, l2, l3, l4] (.long y :: .long x :: st) M = EE 67 83 [l0, l1, l2, l3, l4] (.long (x - y) :: st) M := e_LL d67_82 rfl rfl rfl rfl rfl rfl
theorem d67_83 : decode (cod 67) 83 = .ok (.ladd, 1) := by decide +kernel
theorem s67_83 {M : Mm} {st : List Value} {l0 l1 l2 l3 l4 : Option Value} {x y : Int64} : EE 67 83 [l0, l1, l2, l3, l4] (.long y :: .long x :: st) M = EE 67 84 [l0, l1, l2, l3, l4] (.long (x + y) :: st) M := e_LL d67_83 rfl rfl rfl rfl rfl rfl
theorem d67_84 : decode (cod 67) 84 = .ok (.lreturn, 1) := by decide +kernel
theorem s67_84 {M : Mm} {l0 l1 l2 l3 l4 : Option Value} {v : Int64} : EE 67 84 [l0, l1, l2, l3, l4] [.long v] M = some (some (.long v), M) := e_lret d67_84 rfl
theorem FE67 {b0 : UInt64} {M : Mm} : FF 67 [.double b0] M = EE 67 0 [some (.double b0), none, none, none, none] [] M := FF_eq 67 _ _ (Nat.le_of_ble_eq_true rfl)
theorem d69_0 : decode (cod 69) 0 = .ok (.iload_n 1, 1) := by decide +kernel
theorem s69_0 {M : Mm} {st : List Value} {l0 l2 : Option Value} {x : Int32} : EE 69 0 [l0, some (.int x), l2] st M = EE 69 1 [l0, some (.int x), l2] (.int x :: st) M := e_ld d69_0 rfl rfl rfl rfl rfl rfl
theorem d69_1 : decode (cod 69) 1 = .ok (.iconst 1, 1) := by decide +kernel
theorem s69_1 {M : Mm} {st : List Value} {l0 l1 l2 : Option Value} : EE 69 1 [l0, l1, l2] st M = EE 69 2 [l0, l1, l2] (.int (nI 1) :: st) M := e_con d69_1 k_con_1
theorem d69_2 : decode (cod 69) 2 = .ok (.if_icmp .lt 9, 3) := by decide +kernel
theorem s69_2 {M : Mm} {st : List Value} {l0 l1 l2 : Option Value} {x y : Int32} : EE 69 2 [l0, l1, l2] (.int y :: .int x :: st) M = if x < y then EE 69 11 [l0, l1, l2] st M else EE 69 5 [l0, l1, l2] st M := e_clt d69_2 (by decide)
theorem d69_5 : decode (cod 69) 5 = .ok (.iload_n 1, 1) := by decide +kernel
theorem s69_5 {M : Mm} {st : List Value} {l0 l2 : Option Value} {x : Int32} : EE 69 5 [l0, some (.int x), l2] st M = EE 69 6 [l0, some (.int x), l2] (.int x :: st) M := e_ld d69_5 rfl rfl rfl rfl rfl rfl
theorem d69_6 : decode (cod 69) 6 = .ok (.bipush 50, 2) := by decide +kernel
theorem s69_6 {M : Mm} {st : List Value} {l0 l1 l2 : Option Value} : EE 69 6 [l0, l1, l2] st M = EE 69 8 [l0, l1, l2] (.int (nI 50) :: st) M := e_bip d69_6 k_bip_50
theorem d69_8 : decode (cod 69) 8 = .ok (.if_icmp .le 6, 3) := by decide +kernel
theorem s69_8 {M : Mm} {st : List Value} {l0 l1 l2 : Option Value} {x y : Int32} : EE 69 8 [l0, l1, l2] (.int y :: .int x :: st) M = if x ≤ y then EE 69 14 [l0, l1, l2] st M else EE 69 11 [l0, l1, l2] st M := e_cle d69_8 (by decide)
theorem d69_11 : decode (cod 69) 11 = .ok (.bipush (-2), 2) := by decide +kernel
theorem s69_11 {M : Mm} {st : List Value} {l0 l1 l2 : Option Value} : EE 69 11 [l0, l1, l2] st M = EE 69 13 [l0, l1, l2] (.int ((-2)) :: st) M := e_bip d69_11 k_bip_m2
theorem d69_13 : decode (cod 69) 13 = .ok (.ireturn, 1) := by decide +kernel
theorem s69_13 {M : Mm} {l0 l1 l2 : Option Value} {v : Int32} : EE 69 13 [l0, l1, l2] [.int v] M = some (some (.int v), M) := e_iret d69_13 rfl rfl
theorem d69_14 : decode (cod 69) 14 = .ok (.aload_n 0, 1) := by decide +kernel
theorem s69_14 {M : Mm} {st : List Value} {l1 l2 : Option Value} {x : Nat} : EE 69 14 [some (.ref x), l1, l2] st M = EE 69 15 [some (.ref x), l1, l2] (.ref x :: st) M := e_ld d69_14 rfl rfl rfl rfl rfl rfl
theorem d69_15 : decode (cod 69) 15 = .ok (.getfield 37, 3) := by decide +kernel
theorem s69_15 {n : Nat} {I : Nat → Nat → Int32} {R : Nat → Nat → Option Nat} {st : List Value} {l0 l1 l2 : Option Value} {a : Nat} : EE 69 15 [l0, l1, l2] (.ref a :: st) (n, I, R) = (gfI n I R 2 7 a).bind (fun z => EE 69 18 [l0, l1, l2] (z :: st) (n, I, R)) := e_getf d69_15 f2_37 rfl rfl
theorem d69_18 : decode (cod 69) 18 = .ok (.aload_n 0, 1) := by decide +kernel
theorem s69_18 {M : Mm} {st : List Value} {l1 l2 : Option Value} {x : Nat} : EE 69 18 [some (.ref x), l1, l2] st M = EE 69 19 [some (.ref x), l1, l2] (.ref x :: st) M := e_ld d69_18 rfl rfl rfl rfl rfl rfl
theorem d69_19 : decode (cod 69) 19 = .ok (.getfield 12, 3) := by decide +kernel
theorem s69_19 {n : Nat} {I : Nat → Nat → Int32} {R : Nat → Nat → Option Nat} {st : List Value} {l0 l1 l2 : Option Value} {a : Nat} : EE 69 19 [l0, l1, l2] (.ref a :: st) (n, I, R) = (gfI n I R 2 0 a).bind (fun z => EE 69 22 [l0, l1, l2] (z :: st) (n, I, R)) := e_getf d69_19 f2_12 rfl rfl
theorem d69_22 : decode (cod 69) 22 = .ok (.invokevirtual 46, 3) := by decide +kernel
theorem s69_22 {l0 l1 l2 : Option Value} {a : Nat} {M : Mm} {b0 : Nat} {st : List Value} (hl : st.length ≤ 4) (ho : isO "HandoverDesk$State" M.1 a = true) : EE 69 22 [l0, l1, l2] (.ref b0 :: .ref a :: st) M = (FF 12 (.ref a :: [.ref b0]) M).bind (fun z => EE 69 25 [l0, l1, l2] (psh z.1 st) z.2) := e_calv (av := [.ref b0]) d69_22 c2_46 rfl rfl rfl r69_12 rfl hl ho
theorem d69_25 : decode (cod 69) 25 = .ok (.iconst 0, 1) := by decide +kernel
theorem s69_25 {M : Mm} {st : List Value} {l0 l1 l2 : Option Value} : EE 69 25 [l0, l1, l2] st M = EE 69 26 [l0, l1, l2] (.int (nI 0) :: st) M := e_con d69_25 k_con_0
theorem d69_26 : decode (cod 69) 26 = .ok (.istore_n 2, 1) := by decide +kernel
theorem s69_26 {M : Mm} {st : List Value} {l0 l1 l2 : Option Value} {x : Int32} : EE 69 26 [l0, l1, l2] (.int x :: st) M = EE 69 27 [l0, cln l1, some (.int x)] st M := e_st1 d69_26 rfl rfl rfl rfl rfl rfl rfl (Nat.le_of_ble_eq_true rfl) rfl
theorem d69_27 : decode (cod 69) 27 = .ok (.iload_n 2, 1) := by decide +kernel
theorem s69_27 {M : Mm} {st : List Value} {l0 l1 : Option Value} {x : Int32} : EE 69 27 [l0, l1, some (.int x)] st M = EE 69 28 [l0, l1, some (.int x)] (.int x :: st) M := e_ld d69_27 rfl rfl rfl rfl rfl rfl
theorem d69_28 : decode (cod 69) 28 = .ok (.iload_n 1, 1) := by decide +kernel
theorem s69_28 {M : Mm} {st : List Value} {l0 l2 : Option Value} {x : Int32} : EE 69 28 [l0, some (.int x), l2] st M = EE 69 29 [l0, some (.int x), l2] (.int x :: st) M := e_ld d69_28 rfl rfl rfl rfl rfl rfl
theorem d69_29 : decode (cod 69) 29 = .ok (.if_icmp .ge 24, 3) := by decide +kernel
theorem s69_29 {M : Mm} {st : List Value} {l0 l1 l2 : Option Value} {x y : Int32} : EE 69 29 [l0, l1, l2] (.int y :: .int x :: st) M = if y ≤ x then EE 69 53 [l0, l1, l2] st M else EE 69 32 [l0, l1, l2] st M := e_cge d69_29 (by decide)
theorem d69_32 : decode (cod 69) 32 = .ok (.aload_n 0, 1) := by decide +kernel
theorem s69_32 {M : Mm} {st : List Value} {l1 l2 : Option Value} {x : Nat} : EE 69 32 [some (.ref x), l1, l2] st M = EE 69 33 [some (.ref x), l1, l2] (.ref x :: st) M := e_ld d69_32 rfl rfl rfl rfl rfl rfl
theorem d69_33 : decode (cod 69) 33 = .ok (.getfield 37, 3) := by decide +kernel
theorem s69_33 {n : Nat} {I : Nat → Nat → Int32} {R : Nat → Nat → Option Nat} {st : List Value} {l0 l1 l2 : Option Value} {a : Nat} : EE 69 33 [l0, l1, l2] (.ref a :: st) (n, I, R) = (gfI n I R 2 7 a).bind (fun z => EE 69 36 [l0, l1, l2] (z :: st) (n, I, R)) := e_getf d69_33 f2_37 rfl rfl
theorem d69_36 : decode (cod 69) 36 = .ok (.aload_n 0, 1) := by decide +kernel
theorem s69_36 {M : Mm} {st : List Value} {l1 l2 : Option Value} {x : Nat} : EE 69 36 [some (.ref x), l1, l2] st M = EE 69 37 [some (.ref x), l1, l2] (.ref x :: st) M := e_ld d69_36 rfl rfl rfl rfl rfl rfl
theorem d69_37 : decode (cod 69) 37 = .ok (.getfield 37, 3) := by decide +kernel
theorem s69_37 {n : Nat} {I : Nat → Nat → Int32} {R : Nat → Nat → Option Nat} {st : List Value} {l0 l1 l2 : Option Value} {a : Nat} : EE 69 37 [l0, l1, l2] (.ref a :: st) (n, I, R) = (gfI n I R 2 7 a).bind (fun z => EE 69 40 [l0, l1, l2] (z :: st) (n, I, R)) := e_getf d69_37 f2_37 rfl rfl
theorem d69_40 : decode (cod 69) 40 = .ok (.invokevirtual 81, 3) := by decide +kernel
theorem s69_40 {l0 l1 l2 : Option Value} {a : Nat} {M : Mm} {st : List Value} (hl : st.length ≤ 4) (ho : isO "HandoverDesk$State" M.1 a = true) : EE 69 40 [l0, l1, l2] (.ref a :: st) M = (FF 28 (.ref a :: []) M).bind (fun z => EE 69 43 [l0, l1, l2] (psh z.1 st) z.2) := e_calv (av := []) d69_40 c2_81 rfl rfl rfl r69_28 rfl hl ho
theorem d69_43 : decode (cod 69) 43 = .ok (.invokevirtual 84, 3) := by decide +kernel
theorem s69_43 {l0 l1 l2 : Option Value} {a : Nat} {M : Mm} {b0 : Int32} {st : List Value} (hl : st.length ≤ 4) (ho : isO "HandoverDesk$State" M.1 a = true) : EE 69 43 [l0, l1, l2] (.int b0 :: .ref a :: st) M = (FF 29 (.ref a :: [.int b0]) M).bind (fun z => EE 69 46 [l0, l1, l2] (psh z.1 st) z.2) := e_calv (av := [.int b0]) d69_43 c2_84 rfl rfl rfl r69_29 rfl hl ho
theorem d69_46 : decode (cod 69) 46 = .ok (.pop, 1) := by decide +kernel
theorem s69_46i {M : Mm} {st : List Value} {l0 l1 l2 : Option Value} {x : Int32} : EE 69 46 [l0, l1, l2] (.int x :: st) M = EE 69 47 [l0, l1, l2] st M := e_pop d69_46 rfl
theorem s69_46r {M : Mm} {st : List Value} {l0 l1 l2 : Option Value} {x : Nat} : EE 69 46 [l0, l1, l2] (.ref x :: st) M = EE 69 47 [l0, l1, l2] st M := e_pop d69_46 rfl
theorem d69_47 : decode (cod 69) 47 = .ok (.iinc 2 1, 3) := by decide +kernel
theorem s69_47 {M : Mm} {st : List Value} {l0 l1 : Option Value} {x : Int32} : EE 69 47 [l0, l1, some (.int x)] st M = EE 69 50 [l0, cln l1, some (.int (x + nI 1))] st M := e_iinc d69_47 rfl (congrArg (fun z => x + z) k_inc_1) rfl
theorem d69_50 : decode (cod 69) 50 = .ok (.goto (-23), 3) := by decide +kernel
theorem s69_50 {M : Mm} {st : List Value} {l0 l1 l2 : Option Value} : EE 69 50 [l0, l1, l2] st M = EE 69 27 [l0, l1, l2] st M := e_goto d69_50 (by decide)
theorem d69_53 : decode (cod 69) 53 = .ok (.aload_n 0, 1) := by decide +kernel
theorem s69_53 {M : Mm} {st : List Value} {l1 l2 : Option Value} {x : Nat} : EE 69 53 [some (.ref x), l1, l2] st M = EE 69 54 [some (.ref x), l1, l2] (.ref x :: st) M := e_ld d69_53 rfl rfl rfl rfl rfl rfl
theorem d69_54 : decode (cod 69) 54 = .ok (.getfield 37, 3) := by decide +kernel
theorem s69_54 {n : Nat} {I : Nat → Nat → Int32} {R : Nat → Nat → Option Nat} {st : List Value} {l0 l1 l2 : Option Value} {a : Nat} : EE 69 54 [l0, l1, l2] (.ref a :: st) (n, I, R) = (gfI n I R 2 7 a).bind (fun z => EE 69 57 [l0, l1, l2] (z :: st) (n, I, R)) := e_getf d69_54 f2_37 rfl rfl
theorem d69_57 : decode (cod 69) 57 = .ok (.iconst 2, 1) := by decide +kernel
theorem s69_57 {M : Mm} {st : List Value} {l0 l1 l2 : Option Value} : EE 69 57 [l0, l1, l2] st M = EE 69 58 [l0, l1, l2] (.int (nI 2) :: st) M := e_con d69_57 k_con_2
theorem d69_58 : decode (cod 69) 58 = .ok (.invokevirtual 159, 3) := by decide +kernel
theorem s69_58 {l0 l1 l2 : Option Value} {a : Nat} {M : Mm} {b0 : Int32} {st : List Value} (hl : st.length ≤ 4) (ho : isO "HandoverDesk$State" M.1 a = true) : EE 69 58 [l0, l1, l2] (.int b0 :: .ref a :: st) M = (FF 40 (.ref a :: [.int b0]) M).bind (fun z => EE 69 61 [l0, l1, l2] (psh z.1 st) z.2) := e_calv (av := [.int b0]) d69_58 c2_159 rfl rfl rfl r69_40 rfl hl ho
theorem d69_61 : decode (cod 69) 61 = .ok (.ireturn, 1) := by decide +kernel
theorem s69_61 {M : Mm} {l0 l1 l2 : Option Value} {v : Int32} : EE 69 61 [l0, l1, l2] [.int v] M = some (some (.int v), M) := e_iret d69_61 rfl rfl
theorem FE69 {a : Nat} {b0 : Int32} {M : Mm} : FF 69 [.ref a, .int b0] M = EE 69 0 [some (.ref a), some (.int b0), none] [] M := FF_eq 69 _ _ (Nat.le_of_ble_eq_true rfl)
theorem d76_0 : decode (cod 76) 0 = .ok (.aload_n 0, 1) := by decide +kernel
theorem s76_0 {M : Mm} {st : List Value} {l1 : Option Value} {x : Nat} : EE 76 0 [some (.ref x), l1] st M = EE 76 1 [some (.ref x), l1] (.ref x :: st) M := e_ld d76_0 rfl rfl rfl rfl rfl rfl
theorem d76_1 : decode (cod 76) 1 = .ok (.getfield 165, 3) := by decide +kernel
theorem s76_1 {n : Nat} {I : Nat → Nat → Int32} {R : Nat → Nat → Option Nat} {st : List Value} {l0 l1 : Option Value} {a : Nat} : EE 76 1 [l0, l1] (.ref a :: st) (n, I, R) = (gfI n I R 2 3 a).bind (fun z => EE 76 4 [l0, l1] (z :: st) (n, I, R)) := e_getf d76_1 f2_165 rfl rfl
theorem d76_4 : decode (cod 76) 4 = .ok (.ifCond .gt 6, 3) := by decide +kernel
theorem s76_4 {M : Mm} {st : List Value} {l0 l1 : Option Value} {x : Int32} : EE 76 4 [l0, l1] (.int x :: st) M = if 0 < x then EE 76 10 [l0, l1] st M else EE 76 7 [l0, l1] st M := e_gt0 d76_4 (by decide)
theorem d76_7 : decode (cod 76) 7 = .ok (.bipush (-5), 2) := by decide +kernel
theorem s76_7 {M : Mm} {st : List Value} {l0 l1 : Option Value} : EE 76 7 [l0, l1] st M = EE 76 9 [l0, l1] (.int ((-5)) :: st) M := e_bip d76_7 k_bip_m5
theorem d76_9 : decode (cod 76) 9 = .ok (.ireturn, 1) := by decide +kernel
theorem s76_9 {M : Mm} {l0 l1 : Option Value} {v : Int32} : EE 76 9 [l0, l1] [.int v] M = some (some (.int v), M) := e_iret d76_9 rfl rfl
theorem d76_10 : decode (cod 76) 10 = .ok (.aload_n 0, 1) := by decide +kernel
theorem s76_10 {M : Mm} {st : List Value} {l1 : Option Value} {x : Nat} : EE 76 10 [some (.ref x), l1] st M = EE 76 11 [some (.ref x), l1] (.ref x :: st) M := e_ld d76_10 rfl rfl rfl rfl rfl rfl
theorem d76_11 : decode (cod 76) 11 = .ok (.dup, 1) := by decide +kernel
theorem s76_11i {M : Mm} {st : List Value} {l0 l1 : Option Value} {x : Int32} : EE 76 11 [l0, l1] (.int x :: st) M = EE 76 12 [l0, l1] (.int x :: .int x :: st) M := e_dup d76_11 rfl
theorem s76_11r {M : Mm} {st : List Value} {l0 l1 : Option Value} {x : Nat} : EE 76 11 [l0, l1] (.ref x :: st) M = EE 76 12 [l0, l1] (.ref x :: .ref x :: st) M := e_dup d76_11 rfl
theorem d76_12 : decode (cod 76) 12 = .ok (.getfield 165, 3) := by decide +kernel
theorem s76_12 {n : Nat} {I : Nat → Nat → Int32} {R : Nat → Nat → Option Nat} {st : List Value} {l0 l1 : Option Value} {a : Nat} : EE 76 12 [l0, l1] (.ref a :: st) (n, I, R) = (gfI n I R 2 3 a).bind (fun z => EE 76 15 [l0, l1] (z :: st) (n, I, R)) := e_getf d76_12 f2_165 rfl rfl
theorem d76_15 : decode (cod 76) 15 = .ok (.iconst 1, 1) := by decide +kernel
theorem s76_15 {M : Mm} {st : List Value} {l0 l1 : Option Value} : EE 76 15 [l0, l1] st M = EE 76 16 [l0, l1] (.int (nI 1) :: st) M := e_con d76_15 k_con_1
theorem d76_16 : decode (cod 76) 16 = .ok (.isub, 1) := by decide +kernel
theorem s76_16 {M : Mm} {st : List Value} {l0 l1 : Option Value} {x y : Int32} : EE 76 16 [l0, l1] (.int y :: .int x :: st) M = EE 76 17 [l0, l1] (.int (x - y) :: st) M := e_II d76_16 rfl rfl rfl rfl rfl rfl
theorem d76_17 : decode (cod 76) 17 = .ok (.putfield 165, 3) := by decide +kernel
theorem s76_17 {n : Nat} {I : Nat → Nat → Int32} {R : Nat → Nat → Option Nat} {st : List Value} {l0 l1 : Option Value} {a : Nat} {v : Value} : EE 76 17 [l0, l1] (v :: .ref a :: st) (n, I, R) = (pfI n I R 2 3 a v).bind (fun z => EE 76 20 [l0, l1] st (n, z.1, z.2)) := e_putf d76_17 f2_165 rfl rfl (Or.inr rfl)
theorem d76_20 : decode (cod 76) 20 = .ok (.aload_n 0, 1) := by decide +kernel
theorem s76_20 {M : Mm} {st : List Value} {l1 : Option Value} {x : Nat} : EE 76 20 [some (.ref x), l1] st M = EE 76 21 [some (.ref x), l1] (.ref x :: st) M := e_ld d76_20 rfl rfl rfl rfl rfl rfl
theorem d76_21 : decode (cod 76) 21 = .ok (.getfield 12, 3) := by decide +kernel
theorem s76_21 {n : Nat} {I : Nat → Nat → Int32} {R : Nat → Nat → Option Nat} {st : List Value} {l0 l1 : Option Value} {a : Nat} : EE 76 21 [l0, l1] (.ref a :: st) (n, I, R) = (gfI n I R 2 0 a).bind (fun z => EE 76 24 [l0, l1] (z :: st) (n, I, R)) := e_getf d76_21 f2_12 rfl rfl
theorem d76_24 : decode (cod 76) 24 = .ok (.astore_n 1, 1) := by decide +kernel
theorem s76_24 {M : Mm} {st : List Value} {l0 l1 : Option Value} {x : Nat} : EE 76 24 [l0, l1] (.ref x :: st) M = EE 76 25 [cln l0, some (.ref x)] st M := e_st1 d76_24 rfl rfl rfl rfl rfl rfl rfl (Nat.le_of_ble_eq_true rfl) rfl
theorem d76_25 : decode (cod 76) 25 = .ok (.aload_n 0, 1) := by decide +kernel
theorem s76_25 {M : Mm} {st : List Value} {l1 : Option Value} {x : Nat} : EE 76 25 [some (.ref x), l1] st M = EE 76 26 [some (.ref x), l1] (.ref x :: st) M := e_ld d76_25 rfl rfl rfl rfl rfl rfl
theorem d76_26 : decode (cod 76) 26 = .ok (.aload_n 0, 1) := by decide +kernel
theorem s76_26 {M : Mm} {st : List Value} {l1 : Option Value} {x : Nat} : EE 76 26 [some (.ref x), l1] st M = EE 76 27 [some (.ref x), l1] (.ref x :: st) M := e_ld d76_26 rfl rfl rfl rfl rfl rfl
theorem d76_27 : decode (cod 76) 27 = .ok (.getfield 19, 3) := by decide +kernel
theorem s76_27 {n : Nat} {I : Nat → Nat → Int32} {R : Nat → Nat → Option Nat} {st : List Value} {l0 l1 : Option Value} {a : Nat} : EE 76 27 [l0, l1] (.ref a :: st) (n, I, R) = (gfI n I R 2 2 a).bind (fun z => EE 76 30 [l0, l1] (z :: st) (n, I, R)) := e_getf d76_27 f2_19 rfl rfl
theorem d76_30 : decode (cod 76) 30 = .ok (.aload_n 0, 1) := by decide +kernel
theorem s76_30 {M : Mm} {st : List Value} {l1 : Option Value} {x : Nat} : EE 76 30 [some (.ref x), l1] st M = EE 76 31 [some (.ref x), l1] (.ref x :: st) M := e_ld d76_30 rfl rfl rfl rfl rfl rfl
theorem d76_31 : decode (cod 76) 31 = .ok (.getfield 165, 3) := by decide +kernel
theorem s76_31 {n : Nat} {I : Nat → Nat → Int32} {R : Nat → Nat → Option Nat} {st : List Value} {l0 l1 : Option Value} {a : Nat} : EE 76 31 [l0, l1] (.ref a :: st) (n, I, R) = (gfI n I R 2 3 a).bind (fun z => EE 76 34 [l0, l1] (z :: st) (n, I, R)) := e_getf d76_31 f2_165 rfl rfl
theorem d76_34 : decode (cod 76) 34 = .ok (.aaload, 1) := by decide +kernel
theorem s76_34 {n : Nat} {I : Nat → Nat → Int32} {R : Nat → Nat → Option Nat} {st : List Value} {l0 l1 : Option Value} {j : Int32} {a : Nat} (h : 8 ≤ kd a ∧ a < 1000 ∧ pos a < n ∧ inb j (ln a)) : EE 76 34 [l0, l1] (.int j :: .ref a :: st) (n, I, R) = EE 76 35 [l0, l1] (va_rf (R a j.toNatClampNeg) :: st) (n, I, R) := e_aald d76_34 h
theorem d76_35 : decode (cod 76) 35 = .ok (.putfield 12, 3) := by decide +kernel
theorem s76_35 {n : Nat} {I : Nat → Nat → Int32} {R : Nat → Nat → Option Nat} {st : List Value} {l0 l1 : Option Value} {a : Nat} {v : Value} : EE 76 35 [l0, l1] (v :: .ref a :: st) (n, I, R) = (pfI n I R 2 0 a v).bind (fun z => EE 76 38 [l0, l1] st (n, z.1, z.2)) := e_putf d76_35 f2_12 rfl rfl (Or.inr rfl)
theorem d76_38 : decode (cod 76) 38 = .ok (.aload_n 0, 1) := by decide +kernel
theorem s76_38 {M : Mm} {st : List Value} {l1 : Option Value} {x : Nat} : EE 76 38 [some (.ref x), l1] st M = EE 76 39 [some (.ref x), l1] (.ref x :: st) M := e_ld d76_38 rfl rfl rfl rfl rfl rfl
theorem d76_39 : decode (cod 76) 39 = .ok (.getfield 19, 3) := by decide +kernel
theorem s76_39 {n : Nat} {I : Nat → Nat → Int32} {R : Nat → Nat → Option Nat} {st : List Value} {l0 l1 : Option Value} {a : Nat} : EE 76 39 [l0, l1] (.ref a :: st) (n, I, R) = (gfI n I R 2 2 a).bind (fun z => EE 76 42 [l0, l1] (z :: st) (n, I, R)) := e_getf d76_39 f2_19 rfl rfl
theorem d76_42 : decode (cod 76) 42 = .ok (.aload_n 0, 1) := by decide +kernel
theorem s76_42 {M : Mm} {st : List Value} {l1 : Option Value} {x : Nat} : EE 76 42 [some (.ref x), l1] st M = EE 76 43 [some (.ref x), l1] (.ref x :: st) M := e_ld d76_42 rfl rfl rfl rfl rfl rfl
theorem d76_43 : decode (cod 76) 43 = .ok (.getfield 165, 3) := by decide +kernel
theorem s76_43 {n : Nat} {I : Nat → Nat → Int32} {R : Nat → Nat → Option Nat} {st : List Value} {l0 l1 : Option Value} {a : Nat} : EE 76 43 [l0, l1] (.ref a :: st) (n, I, R) = (gfI n I R 2 3 a).bind (fun z => EE 76 46 [l0, l1] (z :: st) (n, I, R)) := e_getf d76_43 f2_165 rfl rfl
theorem d76_46 : decode (cod 76) 46 = .ok (.aload_n 1, 1) := by decide +kernel
theorem s76_46 {M : Mm} {st : List Value} {l0 : Option Value} {x : Nat} : EE 76 46 [l0, some (.ref x)] st M = EE 76 47 [l0, some (.ref x)] (.ref x :: st) M := e_ld d76_46 rfl rfl rfl rfl rfl rfl
theorem d76_47 : decode (cod 76) 47 = .ok (.aastore, 1) := by decide +kernel
theorem s76_47 {n : Nat} {I : Nat → Nat → Int32} {R : Nat → Nat → Option Nat} {st : List Value} {l0 l1 : Option Value} {j : Int32} {a b : Nat} (h : kd a = 8 ∧ a < 1000 ∧ pos a < n ∧ inb j (ln a) ∧ kd b = 2 ∧ b < 1000 ∧ pos b < n) : EE 76 47 [l0, l1] (.ref b :: .int j :: .ref a :: st) (n, I, R) = EE 76 48 [l0, l1] st (n, I, wR R a j.toNatClampNeg (some b)) := e_aast d76_47 h
theorem d76_48 : decode (cod 76) 48 = .ok (.aload_n 0, 1) := by decide +kernel
theorem s76_48 {M : Mm} {st : List Value} {l1 : Option Value} {x : Nat} : EE 76 48 [some (.ref x), l1] st M = EE 76 49 [some (.ref x), l1] (.ref x :: st) M := e_ld d76_48 rfl rfl rfl rfl rfl rfl
theorem d76_49 : decode (cod 76) 49 = .ok (.getfield 165, 3) := by decide +kernel
theorem s76_49 {n : Nat} {I : Nat → Nat → Int32} {R : Nat → Nat → Option Nat} {st : List Value} {l0 l1 : Option Value} {a : Nat} : EE 76 49 [l0, l1] (.ref a :: st) (n, I, R) = (gfI n I R 2 3 a).bind (fun z => EE 76 52 [l0, l1] (z :: st) (n, I, R)) := e_getf d76_49 f2_165 rfl rfl
theorem d76_52 : decode (cod 76) 52 = .ok (.ireturn, 1) := by decide +kernel
theorem s76_52 {M : Mm} {l0 l1 : Option Value} {v : Int32} : EE 76 52 [l0, l1] [.int v] M = some (some (.int v), M) := e_iret d76_52 rfl rfl
theorem FE76 {a : Nat} {M : Mm} : FF 76 [.ref a] M = EE 76 0 [some (.ref a), none] [] M := FF_eq 76 _ _ (Nat.le_of_ble_eq_true rfl)
theorem d80_0 : decode (cod 80) 0 = .ok (.iload_n 0, 1) := by decide +kernel
theorem s80_0 {M : Mm} {st : List Value} {l1 : Option Value} {x : Int32} : EE 80 0 [some (.int x), l1] st M = EE 80 1 [some (.int x), l1] (.int x :: st) M := e_ld d80_0 rfl rfl rfl rfl rfl rfl
theorem d80_1 : decode (cod 80) 1 = .ok (.ldc 7, 2) := by decide +kernel
theorem s80_1 {M : Mm} {st : List Value} {l0 l1 : Option Value} : EE 80 1 [l0, l1] st M = EE 80 3 [l0, l1] (.int 2147483647 :: st) M := e_ldc d80_1 k4_7
theorem d80_3 : decode (cod 80) 3 = .ok (.iand, 1) := by decide +kernel
theorem s80_3 {M : Mm} {st : List Value} {l0 l1 : Option Value} {x y : Int32} : EE 80 3 [l0, l1] (.int y :: .int x :: st) M = EE 80 4 [l0, l1] (.int (x &&& y) :: st) M := e_II d80_3 rfl rfl rfl rfl rfl rfl
theorem d80_4 : decode (cod 80) 4 = .ok (.iload_n 1, 1) := by decide +kernel
theorem s80_4 {M : Mm} {st : List Value} {l0 : Option Value} {x : Int32} : EE 80 4 [l0, some (.int x)] st M = EE 80 5 [l0, some (.int x)] (.int x :: st) M := e_ld d80_4 rfl rfl rfl rfl rfl rfl
theorem d80_5 : decode (cod 80) 5 = .ok (.irem, 1) := by decide +kernel
theorem s80_5 {M : Mm} {st : List Value} {l0 l1 : Option Value} {x y : Nat} (h1 : x < 2 ^ 31) (h2 : 0 < y) (h3 : y < 2 ^ 31) : EE 80 5 [l0, l1] (.int (nI y) :: .int (nI x) :: st) M = EE 80 6 [l0, l1] (.int (nI (x % y)) :: st) M := e_remN d80_5 h1 h2 h3
theorem d80_6 : decode (cod 80) 6 = .ok (.ireturn, 1) := by decide +kernel
theorem s80_6 {M : Mm} {l0 l1 : Option Value} {v : Int32} : EE 80 6 [l0, l1] [.int v] M = some (some (.int v), M) := e_iret d80_6 rfl rfl
theorem FE80 {b0 : Int32} {b1 : Int32} {M : Mm} : FF 80 [.int b0, .int b1] M = EE 80 0 [some (.int b0), some (.int b1)] [] M := FF_eq 80 _ _ (Nat.le_of_ble_eq_true rfl)
theorem d81_0 : decode (cod 81) 0 = .ok (.iload_n 1, 1) := by decide +kernel
theorem s81_0 {M : Mm} {st : List Value} {l0 : Option Value} {x : Int32} : EE 81 0 [l0, some (.int x)] st M = EE 81 1 [l0, some (.int x)] (.int x :: st) M := e_ld d81_0 rfl rfl rfl rfl rfl rfl
theorem d81_1 : decode (cod 81) 1 = .ok (.aload_n 0, 1) := by decide +kernel
theorem s81_1 {M : Mm} {st : List Value} {l1 : Option Value} {x : Nat} : EE 81 1 [some (.ref x), l1] st M = EE 81 2 [some (.ref x), l1] (.ref x :: st) M := e_ld d81_1 rfl rfl rfl rfl rfl rfl
theorem d81_2 : decode (cod 81) 2 = .ok (.arraylength, 1) := by decide +kernel
theorem s81_2 {n : Nat} {I : Nat → Nat → Int32} {R : Nat → Nat → Option Nat} {st : List Value} {l0 l1 : Option Value} {a : Nat} : EE 81 2 [l0, l1] (.ref a :: st) (n, I, R) = (aln n I a).bind (fun z => EE 81 3 [l0, l1] (.int z :: st) (n, I, R)) := e_alenb d81_2
theorem d81_3 : decode (cod 81) 3 = .ok (.if_icmp .ge 9, 3) := by decide +kernel
theorem s81_3 {M : Mm} {st : List Value} {l0 l1 : Option Value} {x y : Int32} : EE 81 3 [l0, l1] (.int y :: .int x :: st) M = if y ≤ x then EE 81 12 [l0, l1] st M else EE 81 6 [l0, l1] st M := e_cge d81_3 (by decide)
theorem d81_6 : decode (cod 81) 6 = .ok (.aload_n 0, 1) := by decide +kernel
theorem s81_6 {M : Mm} {st : List Value} {l1 : Option Value} {x : Nat} : EE 81 6 [some (.ref x), l1] st M = EE 81 7 [some (.ref x), l1] (.ref x :: st) M := e_ld d81_6 rfl rfl rfl rfl rfl rfl
theorem d81_7 : decode (cod 81) 7 = .ok (.iload_n 1, 1) := by decide +kernel
theorem s81_7 {M : Mm} {st : List Value} {l0 : Option Value} {x : Int32} : EE 81 7 [l0, some (.int x)] st M = EE 81 8 [l0, some (.int x)] (.int x :: st) M := e_ld d81_7 rfl rfl rfl rfl rfl rfl
theorem d81_8 : decode (cod 81) 8 = .ok (.iaload, 1) := by decide +kernel
theorem s81_8 {n : Nat} {I : Nat → Nat → Int32} {R : Nat → Nat → Option Nat} {st : List Value} {l0 l1 : Option Value} {j : Int32} {a : Nat} : EE 81 8 [l0, l1] (.int j :: .ref a :: st) (n, I, R) = (ardI 5 n I a j).bind (fun z => EE 81 9 [l0, l1] (.int z :: st) (n, I, R)) := e_iald d81_8
theorem d81_9 : decode (cod 81) 9 = .ok (.goto 11, 3) := by decide +kernel
theorem s81_9 {M : Mm} {st : List Value} {l0 l1 : Option Value} : EE 81 9 [l0, l1] st M = EE 81 20 [l0, l1] st M := e_goto d81_9 (by decide)
theorem d81_12 : decode (cod 81) 12 = .ok (.ldc 8, 2) := by decide +kernel
theorem s81_12 {M : Mm} {st : List Value} {l0 l1 : Option Value} : EE 81 12 [l0, l1] st M = EE 81 14 [l0, l1] (.int 40503 :: st) M := e_ldc d81_12 k4_8
theorem d81_14 : decode (cod 81) 14 = .ok (.iload_n 1, 1) := by decide +kernel
theorem s81_14 {M : Mm} {st : List Value} {l0 : Option Value} {x : Int32} : EE 81 14 [l0, some (.int x)] st M = EE 81 15 [l0, some (.int x)] (.int x :: st) M := e_ld d81_14 rfl rfl rfl rfl rfl rfl
theorem d81_15 : decode (cod 81) 15 = .ok (.imul, 1) := by decide +kernel
theorem s81_15 {M : Mm} {st : List Value} {l0 l1 : Option Value} {x y : Int32} : EE 81 15 [l0, l1] (.int y :: .int x :: st) M = EE 81 16 [l0, l1] (.int (x * y) :: st) M := e_II d81_15 rfl rfl rfl rfl rfl rfl
theorem d81_16 : decode (cod 81) 16 = .ok (.sipush 977, 3) := by decide +kernel
theorem s81_16 {M : Mm} {st : List Value} {l0 l1 : Option Value} : EE 81 16 [l0, l1] st M = EE 81 19 [l0, l1] (.int (nI 977) :: st) M := e_sip d81_16 k_sip_977
theorem d81_19 : decode (cod 81) 19 = .ok (.iadd, 1) := by decide +kernel
theorem s81_19 {M : Mm} {st : List Value} {l0 l1 : Option Value} {x y : Int32} : EE 81 19 [l0, l1] (.int y :: .int x :: st) M = EE 81 20 [l0, l1] (.int (x + y) :: st) M := e_II d81_19 rfl rfl rfl rfl rfl rfl
theorem d81_20 : decode (cod 81) 20 = .ok (.ireturn, 1) := by decide +kernel
theorem s81_20 {M : Mm} {l0 l1 : Option Value} {v : Int32} : EE 81 20 [l0, l1] [.int v] M = some (some (.int v), M) := e_iret d81_20 rfl rfl
theorem FE81 {b0 : Nat} {b1 : Int32} {M : Mm} : FF 81 [.ref b0, .int b1] M = EE 81 0 [some (.ref b0), some (.int b1)] [] M := FF_eq 81 _ _ (Nat.le_of_ble_eq_true rfl)
theorem d82_0 : decode (cod 82) 0 = .ok (.iconst 0, 1) := by decide +kernel
theorem s82_0 {M : Mm} {st : List Value} {l0 l1 l2 l3 l4 l5 l6 l7 : Option Value} : EE 82 0 [l0, l1, l2, l3, l4, l5, l6, l7] st M = EE 82 1 [l0, l1, l2, l3, l4, l5, l6, l7] (.int (nI 0) :: st) M := e_con d82_0 k_con_0
theorem d82_1 : decode (cod 82) 1 = .ok (.istore_n 2, 1) := by decide +kernel
theorem s82_1 {M : Mm} {st : List Value} {l0 l1 l2 l3 l4 l5 l6 l7 : Option Value} {x : Int32} : EE 82 1 [l0, l1, l2, l3, l4, l5, l6, l7] (.int x :: st) M = EE 82 2 [l0, cln l1, some (.int x), l3, l4, l5, l6, l7] st M := e_st1 d82_1 rfl rfl rfl rfl rfl rfl rfl (Nat.le_of_ble_eq_true rfl) rfl
theorem d82_2 : decode (cod 82) 2 = .ok (.iconst 0, 1) := by decide +kernel
theorem s82_2 {M : Mm} {st : List Value} {l0 l1 l2 l3 l4 l5 l6 l7 : Option Value} : EE 82 2 [l0, l1, l2, l3, l4, l5, l6, l7] st M = EE 82 3 [l0, l1, l2, l3, l4, l5, l6, l7] (.int (nI 0) :: st) M := e_con d82_2 k_con_0
theorem d82_3 : decode (cod 82) 3 = .ok (.istore_n 3, 1) := by decide +kernel
theorem s82_3 {M : Mm} {st : List Value} {l0 l1 l2 l3 l4 l5 l6 l7 : Option Value} {x : Int32} : EE 82 3 [l0, l1, l2, l3, l4, l5, l6, l7] (.int x :: st) M = EE 82 4 [l0, l1, cln l2, some (.int x), l4, l5, l6, l7] st M := e_st1 d82_3 rfl rfl rfl rfl rfl rfl rfl (Nat.le_of_ble_eq_true rfl) rfl
theorem d82_4 : decode (cod 82) 4 = .ok (.iconst 1, 1) := by decide +kernel
theorem s82_4 {M : Mm} {st : List Value} {l0 l1 l2 l3 l4 l5 l6 l7 : Option Value} : EE 82 4 [l0, l1, l2, l3, l4, l5, l6, l7] st M = EE 82 5 [l0, l1, l2, l3, l4, l5, l6, l7] (.int (nI 1) :: st) M := e_con d82_4 k_con_1
theorem d82_5 : decode (cod 82) 5 = .ok (.istore 4, 2) := by decide +kernel
theorem s82_5 {M : Mm} {st : List Value} {l0 l1 l2 l3 l4 l5 l6 l7 : Option Value} {x : Int32} : EE 82 5 [l0, l1, l2, l3, l4, l5, l6, l7] (.int x :: st) M = EE 82 7 [l0, l1, l2, cln l3, some (.int x), l5, l6, l7] st M := e_st1 d82_5 rfl rfl rfl rfl rfl rfl rfl (Nat.le_of_ble_eq_true rfl) rfl
theorem d82_7 : decode (cod 82) 7 = .ok (.iconst 0, 1) := by decide +kernel
theorem s82_7 {M : Mm} {st : List Value} {l0 l1 l2 l3 l4 l5 l6 l7 : Option Value} : EE 82 7 [l0, l1, l2, l3, l4, l5, l6, l7] st M = EE 82 8 [l0, l1, l2, l3, l4, l5, l6, l7] (.int (nI 0) :: st) M := e_con d82_7 k_con_0
theorem d82_8 : decode (cod 82) 8 = .ok (.istore 5, 2) := by decide +kernel
theorem s82_8 {M : Mm} {st : List Value} {l0 l1 l2 l3 l4 l5 l6 l7 : Option Value} {x : Int32} : EE 82 8 [l0, l1, l2, l3, l4, l5, l6, l7] (.int x :: st) M = EE 82 10 [l0, l1, l2, l3, cln l4, some (.int x), l6, l7] st M := e_st1 d82_8 rfl rfl rfl rfl rfl rfl rfl (Nat.le_of_ble_eq_true rfl) rfl
theorem d82_10 : decode (cod 82) 10 = .ok (.iload 5, 2) := by decide +kernel
theorem s82_10 {M : Mm} {st : List Value} {l0 l1 l2 l3 l4 l6 l7 : Option Value} {x : Int32} : EE 82 10 [l0, l1, l2, l3, l4, some (.int x), l6, l7] st M = EE 82 12 [l0, l1, l2, l3, l4, some (.int x), l6, l7] (.int x :: st) M := e_ld d82_10 rfl rfl rfl rfl rfl rfl
theorem d82_12 : decode (cod 82) 12 = .ok (.bipush 6, 2) := by decide +kernel
theorem s82_12 {M : Mm} {st : List Value} {l0 l1 l2 l3 l4 l5 l6 l7 : Option Value} : EE 82 12 [l0, l1, l2, l3, l4, l5, l6, l7] st M = EE 82 14 [l0, l1, l2, l3, l4, l5, l6, l7] (.int (nI 6) :: st) M := e_bip d82_12 k_bip_6
theorem d82_14 : decode (cod 82) 14 = .ok (.if_icmp .ge 92, 3) := by decide +kernel
theorem s82_14 {M : Mm} {st : List Value} {l0 l1 l2 l3 l4 l5 l6 l7 : Option Value} {x y : Int32} : EE 82 14 [l0, l1, l2, l3, l4, l5, l6, l7] (.int y :: .int x :: st) M = if y ≤ x then EE 82 106 [l0, l1, l2, l3, l4, l5, l6, l7] st M else EE 82 17 [l0, l1, l2, l3, l4, l5, l6, l7] st M := e_cge d82_14 (by decide)
theorem d82_17 : decode (cod 82) 17 = .ok (.iload 4, 2) := by decide +kernel
theorem s82_17 {M : Mm} {st : List Value} {l0 l1 l2 l3 l5 l6 l7 : Option Value} {x : Int32} : EE 82 17 [l0, l1, l2, l3, some (.int x), l5, l6, l7] st M = EE 82 19 [l0, l1, l2, l3, some (.int x), l5, l6, l7] (.int x :: st) M := e_ld d82_17 rfl rfl rfl rfl rfl rfl
theorem d82_19 : decode (cod 82) 19 = .ok (.ifCond .eq 87, 3) := by decide +kernel
theorem s82_19 {M : Mm} {st : List Value} {l0 l1 l2 l3 l4 l5 l6 l7 : Option Value} {x : Int32} : EE 82 19 [l0, l1, l2, l3, l4, l5, l6, l7] (.int x :: st) M = if x = 0 then EE 82 106 [l0, l1, l2, l3, l4, l5, l6, l7] st M else EE 82 22 [l0, l1, l2, l3, l4, l5, l6, l7] st M := e_eq0 d82_19 (by decide)
theorem d82_22 : decode (cod 82) 22 = .ok (.aload_n 0, 1) := by decide +kernel
theorem s82_22 {M : Mm} {st : List Value} {l1 l2 l3 l4 l5 l6 l7 : Option Value} {x : Nat} : EE 82 22 [some (.ref x), l1, l2, l3, l4, l5, l6, l7] st M = EE 82 23 [some (.ref x), l1, l2, l3, l4, l5, l6, l7] (.ref x :: st) M := e_ld d82_22 rfl rfl rfl rfl rfl rfl
theorem d82_23 : decode (cod 82) 23 = .ok (.iload 5, 2) := by decide +kernel
theorem s82_23 {M : Mm} {st : List Value} {l0 l1 l2 l3 l4 l6 l7 : Option Value} {x : Int32} : EE 82 23 [l0, l1, l2, l3, l4, some (.int x), l6, l7] st M = EE 82 25 [l0, l1, l2, l3, l4, some (.int x), l6, l7] (.int x :: st) M := e_ld d82_23 rfl rfl rfl rfl rfl rfl
theorem d82_25 : decode (cod 82) 25 = .ok (.iload_n 1, 1) := by decide +kernel
theorem s82_25 {M : Mm} {st : List Value} {l0 l2 l3 l4 l5 l6 l7 : Option Value} {x : Int32} : EE 82 25 [l0, some (.int x), l2, l3, l4, l5, l6, l7] st M = EE 82 26 [l0, some (.int x), l2, l3, l4, l5, l6, l7] (.int x :: st) M := e_ld d82_25 rfl rfl rfl rfl rfl rfl
theorem d82_26 : decode (cod 82) 26 = .ok (.invokevirtual 9, 3) := by decide +kernel
theorem s82_26 {l0 l1 l2 l3 l4 l5 l6 l7 : Option Value} {a : Nat} {M : Mm} {b0 : Int32} {b1 : Int32} {st : List Value} (hl : st.length ≤ 4) (ho : isO "HandoverDesk" M.1 a = true) : EE 82 26 [l0, l1, l2, l3, l4, l5, l6, l7] (.int b1 :: .int b0 :: .ref a :: st) M = (FF 58 (.ref a :: [.int b0, .int b1]) M).bind (fun z => EE 82 29 [l0, l1, l2, l3, l4, l5, l6, l7] (psh z.1 st) z.2) := e_calv (av := [.int b0, .int b1]) d82_26 c4_9 rfl rfl rfl r82_58 rfl hl ho
theorem d82_29 : decode (cod 82) 29 = .ok (.ifCond .lt 19, 3) := by decide +kernel
theorem s82_29 {M : Mm} {st : List Value} {l0 l1 l2 l3 l4 l5 l6 l7 : Option Value} {x : Int32} : EE 82 29 [l0, l1, l2, l3, l4, l5, l6, l7] (.int x :: st) M = if x < 0 then EE 82 48 [l0, l1, l2, l3, l4, l5, l6, l7] st M else EE 82 32 [l0, l1, l2, l3, l4, l5, l6, l7] st M := e_lt0 d82_29 (by decide)
theorem d82_32 : decode (cod 82) 32 = .ok (.aload_n 0, 1) := by decide +kernel
theorem s82_32 {M : Mm} {st : List Value} {l1 l2 l3 l4 l5 l6 l7 : Option Value} {x : Nat} : EE 82 32 [some (.ref x), l1, l2, l3, l4, l5, l6, l7] st M = EE 82 33 [some (.ref x), l1, l2, l3, l4, l5, l6, l7] (.ref x :: st) M := e_ld d82_32 rfl rfl rfl rfl rfl rfl
theorem d82_33 : decode (cod 82) 33 = .ok (.iload 5, 2) := by decide +kernel
theorem s82_33 {M : Mm} {st : List Value} {l0 l1 l2 l3 l4 l6 l7 : Option Value} {x : Int32} : EE 82 33 [l0, l1, l2, l3, l4, some (.int x), l6, l7] st M = EE 82 35 [l0, l1, l2, l3, l4, some (.int x), l6, l7] (.int x :: st) M := e_ld d82_33 rfl rfl rfl rfl rfl rfl
theorem d82_35 : decode (cod 82) 35 = .ok (.iload_n 1, 1) := by decide +kernel
theorem s82_35 {M : Mm} {st : List Value} {l0 l2 l3 l4 l5 l6 l7 : Option Value} {x : Int32} : EE 82 35 [l0, some (.int x), l2, l3, l4, l5, l6, l7] st M = EE 82 36 [l0, some (.int x), l2, l3, l4, l5, l6, l7] (.int x :: st) M := e_ld d82_35 rfl rfl rfl rfl rfl rfl
theorem d82_36 : decode (cod 82) 36 = .ok (.invokevirtual 9, 3) := by decide +kernel
theorem s82_36 {l0 l1 l2 l3 l4 l5 l6 l7 : Option Value} {a : Nat} {M : Mm} {b0 : Int32} {b1 : Int32} {st : List Value} (hl : st.length ≤ 4) (ho : isO "HandoverDesk" M.1 a = true) : EE 82 36 [l0, l1, l2, l3, l4, l5, l6, l7] (.int b1 :: .int b0 :: .ref a :: st) M = (FF 58 (.ref a :: [.int b0, .int b1]) M).bind (fun z => EE 82 39 [l0, l1, l2, l3, l4, l5, l6, l7] (psh z.1 st) z.2) := e_calv (av := [.int b0, .int b1]) d82_36 c4_9 rfl rfl rfl r82_58 rfl hl ho
theorem d82_39 : decode (cod 82) 39 = .ok (.bipush 100, 2) := by decide +kernel
theorem s82_39 {M : Mm} {st : List Value} {l0 l1 l2 l3 l4 l5 l6 l7 : Option Value} : EE 82 39 [l0, l1, l2, l3, l4, l5, l6, l7] st M = EE 82 41 [l0, l1, l2, l3, l4, l5, l6, l7] (.int (nI 100) :: st) M := e_bip d82_39 k_bip_100
theorem d82_41 : decode (cod 82) 41 = .ok (.if_icmp .gt 7, 3) := by decide +kernel
theorem s82_41 {M : Mm} {st : List Value} {l0 l1 l2 l3 l4 l5 l6 l7 : Option Value} {x y : Int32} : EE 82 41 [l0, l1, l2, l3, l4, l5, l6, l7] (.int y :: .int x :: st) M = if y < x then EE 82 48 [l0, l1, l2, l3, l4, l5, l6, l7] st M else EE 82 44 [l0, l1, l2, l3, l4, l5, l6, l7] st M := e_cgt d82_41 (by decide)
theorem d82_44 : decode (cod 82) 44 = .ok (.iconst 1, 1) := by decide +kernel
theorem s82_44 {M : Mm} {st : List Value} {l0 l1 l2 l3 l4 l5 l6 l7 : Option Value} : EE 82 44 [l0, l1, l2, l3, l4, l5, l6, l7] st M = EE 82 45 [l0, l1, l2, l3, l4, l5, l6, l7] (.int (nI 1) :: st) M := e_con d82_44 k_con_1
theorem d82_45 : decode (cod 82) 45 = .ok (.goto 4, 3) := by decide +kernel
theorem s82_45 {M : Mm} {st : List Value} {l0 l1 l2 l3 l4 l5 l6 l7 : Option Value} : EE 82 45 [l0, l1, l2, l3, l4, l5, l6, l7] st M = EE 82 49 [l0, l1, l2, l3, l4, l5, l6, l7] st M := e_goto d82_45 (by decide)
theorem d82_48 : decode (cod 82) 48 = .ok (.iconst 0, 1) := by decide +kernel
theorem s82_48 {M : Mm} {st : List Value} {l0 l1 l2 l3 l4 l5 l6 l7 : Option Value} : EE 82 48 [l0, l1, l2, l3, l4, l5, l6, l7] st M = EE 82 49 [l0, l1, l2, l3, l4, l5, l6, l7] (.int (nI 0) :: st) M := e_con d82_48 k_con_0
theorem d82_49 : decode (cod 82) 49 = .ok (.istore 4, 2) := by decide +kernel
theorem s82_49 {M : Mm} {st : List Value} {l0 l1 l2 l3 l4 l5 l6 l7 : Option Value} {x : Int32} : EE 82 49 [l0, l1, l2, l3, l4, l5, l6, l7] (.int x :: st) M = EE 82 51 [l0, l1, l2, cln l3, some (.int x), l5, l6, l7] st M := e_st1 d82_49 rfl rfl rfl rfl rfl rfl rfl (Nat.le_of_ble_eq_true rfl) rfl
theorem d82_51 : decode (cod 82) 51 = .ok (.aload_n 0, 1) := by decide +kernel
theorem s82_51 {M : Mm} {st : List Value} {l1 l2 l3 l4 l5 l6 l7 : Option Value} {x : Nat} : EE 82 51 [some (.ref x), l1, l2, l3, l4, l5, l6, l7] st M = EE 82 52 [some (.ref x), l1, l2, l3, l4, l5, l6, l7] (.ref x :: st) M := e_ld d82_51 rfl rfl rfl rfl rfl rfl
theorem d82_52 : decode (cod 82) 52 = .ok (.iload 5, 2) := by decide +kernel
theorem s82_52 {M : Mm} {st : List Value} {l0 l1 l2 l3 l4 l6 l7 : Option Value} {x : Int32} : EE 82 52 [l0, l1, l2, l3, l4, some (.int x), l6, l7] st M = EE 82 54 [l0, l1, l2, l3, l4, some (.int x), l6, l7] (.int x :: st) M := e_ld d82_52 rfl rfl rfl rfl rfl rfl
theorem d82_54 : decode (cod 82) 54 = .ok (.iload_n 1, 1) := by decide +kernel
theorem s82_54 {M : Mm} {st : List Value} {l0 l2 l3 l4 l5 l6 l7 : Option Value} {x : Int32} : EE 82 54 [l0, some (.int x), l2, l3, l4, l5, l6, l7] st M = EE 82 55 [l0, some (.int x), l2, l3, l4, l5, l6, l7] (.int x :: st) M := e_ld d82_54 rfl rfl rfl rfl rfl rfl
theorem d82_55 : decode (cod 82) 55 = .ok (.invokevirtual 9, 3) := by decide +kernel
theorem s82_55 {l0 l1 l2 l3 l4 l5 l6 l7 : Option Value} {a : Nat} {M : Mm} {b0 : Int32} {b1 : Int32} {st : List Value} (hl : st.length ≤ 4) (ho : isO "HandoverDesk" M.1 a = true) : EE 82 55 [l0, l1, l2, l3, l4, l5, l6, l7] (.int b1 :: .int b0 :: .ref a :: st) M = (FF 58 (.ref a :: [.int b0, .int b1]) M).bind (fun z => EE 82 58 [l0, l1, l2, l3, l4, l5, l6, l7] (psh z.1 st) z.2) := e_calv (av := [.int b0, .int b1]) d82_55 c4_9 rfl rfl rfl r82_58 rfl hl ho
theorem d82_58 : decode (cod 82) 58 = .ok (.aload_n 0, 1) := by decide +kernel
theorem s82_58 {M : Mm} {st : List Value} {l1 l2 l3 l4 l5 l6 l7 : Option Value} {x : Nat} : EE 82 58 [some (.ref x), l1, l2, l3, l4, l5, l6, l7] st M = EE 82 59 [some (.ref x), l1, l2, l3, l4, l5, l6, l7] (.ref x :: st) M := e_ld d82_58 rfl rfl rfl rfl rfl rfl
theorem d82_59 : decode (cod 82) 59 = .ok (.iload_n 2, 1) := by decide +kernel
theorem s82_59 {M : Mm} {st : List Value} {l0 l1 l3 l4 l5 l6 l7 : Option Value} {x : Int32} : EE 82 59 [l0, l1, some (.int x), l3, l4, l5, l6, l7] st M = EE 82 60 [l0, l1, some (.int x), l3, l4, l5, l6, l7] (.int x :: st) M := e_ld d82_59 rfl rfl rfl rfl rfl rfl
theorem d82_60 : decode (cod 82) 60 = .ok (.iload_n 1, 1) := by decide +kernel
theorem s82_60 {M : Mm} {st : List Value} {l0 l2 l3 l4 l5 l6 l7 : Option Value} {x : Int32} : EE 82 60 [l0, some (.int x), l2, l3, l4, l5, l6, l7] st M = EE 82 61 [l0, some (.int x), l2, l3, l4, l5, l6, l7] (.int x :: st) M := e_ld d82_60 rfl rfl rfl rfl rfl rfl
theorem d82_61 : decode (cod 82) 61 = .ok (.invokevirtual 9, 3) := by decide +kernel
theorem s82_61 {l0 l1 l2 l3 l4 l5 l6 l7 : Option Value} {a : Nat} {M : Mm} {b0 : Int32} {b1 : Int32} {st : List Value} (hl : st.length ≤ 4) (ho : isO "HandoverDesk" M.1 a = true) : EE 82 61 [l0, l1, l2, l3, l4, l5, l6, l7] (.int b1 :: .int b0 :: .ref a :: st) M = (FF 58 (.ref a :: [.int b0, .int b1]) M).bind (fun z => EE 82 64 [l0, l1, l2, l3, l4, l5, l6, l7] (psh z.1 st) z.2) := e_calv (av := [.int b0, .int b1]) d82_61 c4_9 rfl rfl rfl r82_58 rfl hl ho
theorem d82_64 : decode (cod 82) 64 = .ok (.if_icmp .le 8, 3) := by decide +kernel
theorem s82_64 {M : Mm} {st : List Value} {l0 l1 l2 l3 l4 l5 l6 l7 : Option Value} {x y : Int32} : EE 82 64 [l0, l1, l2, l3, l4, l5, l6, l7] (.int y :: .int x :: st) M = if x ≤ y then EE 82 72 [l0, l1, l2, l3, l4, l5, l6, l7] st M else EE 82 67 [l0, l1, l2, l3, l4, l5, l6, l7] st M := e_cle d82_64 (by decide)
theorem d82_67 : decode (cod 82) 67 = .ok (.iload 5, 2) := by decide +kernel
theorem s82_67 {M : Mm} {st : List Value} {l0 l1 l2 l3 l4 l6 l7 : Option Value} {x : Int32} : EE 82 67 [l0, l1, l2, l3, l4, some (.int x), l6, l7] st M = EE 82 69 [l0, l1, l2, l3, l4, some (.int x), l6, l7] (.int x :: st) M := e_ld d82_67 rfl rfl rfl rfl rfl rfl
theorem d82_69 : decode (cod 82) 69 = .ok (.goto 4, 3) := by decide +kernel
theorem s82_69 {M : Mm} {st : List Value} {l0 l1 l2 l3 l4 l5 l6 l7 : Option Value} : EE 82 69 [l0, l1, l2, l3, l4, l5, l6, l7] st M = EE 82 73 [l0, l1, l2, l3, l4, l5, l6, l7] st M := e_goto d82_69 (by decide)
theorem d82_72 : decode (cod 82) 72 = .ok (.iload_n 2, 1) := by decide +kernel
theorem s82_72 {M : Mm} {st : List Value} {l0 l1 l3 l4 l5 l6 l7 : Option Value} {x : Int32} : EE 82 72 [l0, l1, some (.int x), l3, l4, l5, l6, l7] st M = EE 82 73 [l0, l1, some (.int x), l3, l4, l5, l6, l7] (.int x :: st) M := e_ld d82_72 rfl rfl rfl rfl rfl rfl
theorem d82_73 : decode (cod 82) 73 = .ok (.istore_n 2, 1) := by decide +kernel
theorem s82_73 {M : Mm} {st : List Value} {l0 l1 l2 l3 l4 l5 l6 l7 : Option Value} {x : Int32} : EE 82 73 [l0, l1, l2, l3, l4, l5, l6, l7] (.int x :: st) M = EE 82 74 [l0, cln l1, some (.int x), l3, l4, l5, l6, l7] st M := e_st1 d82_73 rfl rfl rfl rfl rfl rfl rfl (Nat.le_of_ble_eq_true rfl) rfl
theorem d82_74 : decode (cod 82) 74 = .ok (.iload_n 3, 1) := by decide +kernel
theorem s82_74 {M : Mm} {st : List Value} {l0 l1 l2 l4 l5 l6 l7 : Option Value} {x : Int32} : EE 82 74 [l0, l1, l2, some (.int x), l4, l5, l6, l7] st M = EE 82 75 [l0, l1, l2, some (.int x), l4, l5, l6, l7] (.int x :: st) M := e_ld d82_74 rfl rfl rfl rfl rfl rfl
theorem d82_75 : decode (cod 82) 75 = .ok (.ifCond .ne 19, 3) := by decide +kernel
theorem s82_75 {M : Mm} {st : List Value} {l0 l1 l2 l3 l4 l5 l6 l7 : Option Value} {x : Int32} : EE 82 75 [l0, l1, l2, l3, l4, l5, l6, l7] (.int x :: st) M = if x = 0 then EE 82 78 [l0, l1, l2, l3, l4, l5, l6, l7] st M else EE 82 94 [l0, l1, l2, l3, l4, l5, l6, l7] st M := e_ne0 d82_75 (by decide)
theorem d82_78 : decode (cod 82) 78 = .ok (.aload_n 0, 1) := by decide +kernel
theorem s82_78 {M : Mm} {st : List Value} {l1 l2 l3 l4 l5 l6 l7 : Option Value} {x : Nat} : EE 82 78 [some (.ref x), l1, l2, l3, l4, l5, l6, l7] st M = EE 82 79 [some (.ref x), l1, l2, l3, l4, l5, l6, l7] (.ref x :: st) M := e_ld d82_78 rfl rfl rfl rfl rfl rfl
theorem d82_79 : decode (cod 82) 79 = .ok (.iload 5, 2) := by decide +kernel
theorem s82_79 {M : Mm} {st : List Value} {l0 l1 l2 l3 l4 l6 l7 : Option Value} {x : Int32} : EE 82 79 [l0, l1, l2, l3, l4, some (.int x), l6, l7] st M = EE 82 81 [l0, l1, l2, l3, l4, some (.int x), l6, l7] (.int x :: st) M := e_ld d82_79 rfl rfl rfl rfl rfl rfl
theorem d82_81 : decode (cod 82) 81 = .ok (.iload_n 1, 1) := by decide +kernel
theorem s82_81 {M : Mm} {st : List Value} {l0 l2 l3 l4 l5 l6 l7 : Option Value} {x : Int32} : EE 82 81 [l0, some (.int x), l2, l3, l4, l5, l6, l7] st M = EE 82 82 [l0, some (.int x), l2, l3, l4, l5, l6, l7] (.int x :: st) M := e_ld d82_81 rfl rfl rfl rfl rfl rfl
theorem d82_82 : decode (cod 82) 82 = .ok (.invokevirtual 9, 3) := by decide +kernel
theorem s82_82 {l0 l1 l2 l3 l4 l5 l6 l7 : Option Value} {a : Nat} {M : Mm} {b0 : Int32} {b1 : Int32} {st : List Value} (hl : st.length ≤ 4) (ho : isO "HandoverDesk" M.1 a = true) : EE 82 82 [l0, l1, l2, l3, l4, l5, l6, l7] (.int b1 :: .int b0 :: .ref a :: st) M = (FF 58 (.ref a :: [.int b0, .int b1]) M).bind (fun z => EE 82 85 [l0, l1, l2, l3, l4, l5, l6, l7] (psh z.1 st) z.2) := e_calv (av := [.int b0, .int b1]) d82_82 c4_9 rfl rfl rfl r82_58 rfl hl ho
theorem d82_85 : decode (cod 82) 85 = .ok (.aload_n 0, 1) := by decide +kernel
theorem s82_85 {M : Mm} {st : List Value} {l1 l2 l3 l4 l5 l6 l7 : Option Value} {x : Nat} : EE 82 85 [some (.ref x), l1, l2, l3, l4, l5, l6, l7] st M = EE 82 86 [some (.ref x), l1, l2, l3, l4, l5, l6, l7] (.ref x :: st) M := e_ld d82_85 rfl rfl rfl rfl rfl rfl
theorem d82_86 : decode (cod 82) 86 = .ok (.bipush 11, 2) := by decide +kernel
theorem s82_86 {M : Mm} {st : List Value} {l0 l1 l2 l3 l4 l5 l6 l7 : Option Value} : EE 82 86 [l0, l1, l2, l3, l4, l5, l6, l7] st M = EE 82 88 [l0, l1, l2, l3, l4, l5, l6, l7] (.int (nI 11) :: st) M := e_bip d82_86 k_bip_11
theorem d82_88 : decode (cod 82) 88 = .ok (.invokevirtual 15, 3) := by decide +kernel
theorem s82_88 {l0 l1 l2 l3 l4 l5 l6 l7 : Option Value} {a : Nat} {M : Mm} {b0 : Int32} {st : List Value} (hl : st.length ≤ 4) (ho : isO "HandoverDesk" M.1 a = true) : EE 82 88 [l0, l1, l2, l3, l4, l5, l6, l7] (.int b0 :: .ref a :: st) M = (FF 61 (.ref a :: [.int b0]) M).bind (fun z => EE 82 91 [l0, l1, l2, l3, l4, l5, l6, l7] (psh z.1 st) z.2) := e_calv (av := [.int b0]) d82_88 c4_15 rfl rfl rfl r82_61 rfl hl ho
theorem d82_91 : decode (cod 82) 91 = .ok (.if_icmp .lt 7, 3) := by decide +kernel
theorem s82_91 {M : Mm} {st : List Value} {l0 l1 l2 l3 l4 l5 l6 l7 : Option Value} {x y : Int32} : EE 82 91 [l0, l1, l2, l3, l4, l5, l6, l7] (.int y :: .int x :: st) M = if x < y then EE 82 98 [l0, l1, l2, l3, l4, l5, l6, l7] st M else EE 82 94 [l0, l1, l2, l3, l4, l5, l6, l7] st M := e_clt d82_91 (by decide)
theorem d82_94 : decode (cod 82) 94 = .ok (.iconst 1, 1) := by decide +kernel
theorem s82_94 {M : Mm} {st : List Value} {l0 l1 l2 l3 l4 l5 l6 l7 : Option Value} : EE 82 94 [l0, l1, l2, l3, l4, l5, l6, l7] st M = EE 82 95 [l0, l1, l2, l3, l4, l5, l6, l7] (.int (nI 1) :: st) M := e_con d82_94 k_con_1
theorem d82_95 : decode (cod 82) 95 = .ok (.goto 4, 3) := by decide +kernel
theorem s82_95 {M : Mm} {st : List Value} {l0 l1 l2 l3 l4 l5 l6 l7 : Option Value} : EE 82 95 [l0, l1, l2, l3, l4, l5, l6, l7] st M = EE 82 99 [l0, l1, l2, l3, l4, l5, l6, l7] st M := e_goto d82_95 (by decide)
theorem d82_98 : decode (cod 82) 98 = .ok (.iconst 0, 1) := by decide +kernel
theorem s82_98 {M : Mm} {st : List Value} {l0 l1 l2 l3 l4 l5 l6 l7 : Option Value} : EE 82 98 [l0, l1, l2, l3, l4, l5, l6, l7] st M = EE 82 99 [l0, l1, l2, l3, l4, l5, l6, l7] (.int (nI 0) :: st) M := e_con d82_98 k_con_0
theorem d82_99 : decode (cod 82) 99 = .ok (.istore_n 3, 1) := by decide +kernel
theorem s82_99 {M : Mm} {st : List Value} {l0 l1 l2 l3 l4 l5 l6 l7 : Option Value} {x : Int32} : EE 82 99 [l0, l1, l2, l3, l4, l5, l6, l7] (.int x :: st) M = EE 82 100 [l0, l1, cln l2, some (.int x), l4, l5, l6, l7] st M := e_st1 d82_99 rfl rfl rfl rfl rfl rfl rfl (Nat.le_of_ble_eq_true rfl) rfl
theorem d82_100 : decode (cod 82) 100 = .ok (.iinc 5 1, 3) := by decide +kernel
theorem s82_100 {M : Mm} {st : List Value} {l0 l1 l2 l3 l4 l6 l7 : Option Value} {x : Int32} : EE 82 100 [l0, l1, l2, l3, l4, some (.int x), l6, l7] st M = EE 82 103 [l0, l1, l2, l3, cln l4, some (.int (x + nI 1)), l6, l7] st M := e_iinc d82_100 rfl (congrArg (fun z => x + z) k_inc_1) rfl
theorem d82_103 : decode (cod 82) 103 = .ok (.goto (-93), 3) := by decide +kernel
theorem s82_103 {M : Mm} {st : List Value} {l0 l1 l2 l3 l4 l5 l6 l7 : Option Value} : EE 82 103 [l0, l1, l2, l3, l4, l5, l6, l7] st M = EE 82 10 [l0, l1, l2, l3, l4, l5, l6, l7] st M := e_goto d82_103 (by decide)
theorem d82_106 : decode (cod 82) 106 = .ok (.aload_n 0, 1) := by decide +kernel
theorem s82_106 {M : Mm} {st : List Value} {l1 l2 l3 l4 l5 l6 l7 : Option Value} {x : Nat} : EE 82 106 [some (.ref x), l1, l2, l3, l4, l5, l6, l7] st M = EE 82 107 [some (.ref x), l1, l2, l3, l4, l5, l6, l7] (.ref x :: st) M := e_ld d82_106 rfl rfl rfl rfl rfl rfl
theorem d82_107 : decode (cod 82) 107 = .ok (.iload_n 1, 1) := by decide +kernel
theorem s82_107 {M : Mm} {st : List Value} {l0 l2 l3 l4 l5 l6 l7 : Option Value} {x : Int32} : EE 82 107 [l0, some (.int x), l2, l3, l4, l5, l6, l7] st M = EE 82 108 [l0, some (.int x), l2, l3, l4, l5, l6, l7] (.int x :: st) M := e_ld d82_107 rfl rfl rfl rfl rfl rfl
theorem d82_108 : decode (cod 82) 108 = .ok (.iconst 0, 1) := by decide +kernel
theorem s82_108 {M : Mm} {st : List Value} {l0 l1 l2 l3 l4 l5 l6 l7 : Option Value} : EE 82 108 [l0, l1, l2, l3, l4, l5, l6, l7] st M = EE 82 109 [l0, l1, l2, l3, l4, l5, l6, l7] (.int (nI 0) :: st) M := e_con d82_108 k_con_0
theorem d82_109 : decode (cod 82) 109 = .ok (.invokevirtual 19, 3) := by decide +kernel
theorem s82_109 {l0 l1 l2 l3 l4 l5 l6 l7 : Option Value} {a : Nat} {M : Mm} {b0 : Int32} {b1 : Int32} {st : List Value} (hl : st.length ≤ 4) (ho : isO "HandoverDesk" M.1 a = true) : EE 82 109 [l0, l1, l2, l3, l4, l5, l6, l7] (.int b1 :: .int b0 :: .ref a :: st) M = (FF 59 (.ref a :: [.int b0, .int b1]) M).bind (fun z => EE 82 112 [l0, l1, l2, l3, l4, l5, l6, l7] (psh z.1 st) z.2) := e_calv (av := [.int b0, .int b1]) d82_109 c4_19 rfl rfl rfl r82_59 rfl hl ho
theorem d82_112 : decode (cod 82) 112 = .ok (.iconst 1, 1) := by decide +kernel
theorem s82_112 {M : Mm} {st : List Value} {l0 l1 l2 l3 l4 l5 l6 l7 : Option Value} : EE 82 112 [l0, l1, l2, l3, l4, l5, l6, l7] st M = EE 82 113 [l0, l1, l2, l3, l4, l5, l6, l7] (.int (nI 1) :: st) M := e_con d82_112 k_con_1
theorem d82_113 : decode (cod 82) 113 = .ok (.if_icmp .ne 7, 3) := by decide +kernel
theorem s82_113 {M : Mm} {st : List Value} {l0 l1 l2 l3 l4 l5 l6 l7 : Option Value} {x y : Int32} : EE 82 113 [l0, l1, l2, l3, l4, l5, l6, l7] (.int y :: .int x :: st) M = if x = y then EE 82 116 [l0, l1, l2, l3, l4, l5, l6, l7] st M else EE 82 120 [l0, l1, l2, l3, l4, l5, l6, l7] st M := e_cne d82_113 (by decide)
theorem d82_116 : decode (cod 82) 116 = .ok (.iconst 1, 1) := by decide +kernel
theorem s82_116 {M : Mm} {st : List Value} {l0 l1 l2 l3 l4 l5 l6 l7 : Option Value} : EE 82 116 [l0, l1, l2, l3, l4, l5, l6, l7] st M = EE 82 117 [l0, l1, l2, l3, l4, l5, l6, l7] (.int (nI 1) :: st) M := e_con d82_116 k_con_1
theorem d82_117 : decode (cod 82) 117 = .ok (.goto 4, 3) := by decide +kernel
theorem s82_117 {M : Mm} {st : List Value} {l0 l1 l2 l3 l4 l5 l6 l7 : Option Value} : EE 82 117 [l0, l1, l2, l3, l4, l5, l6, l7] st M = EE 82 121 [l0, l1, l2, l3, l4, l5, l6, l7] st M := e_goto d82_117 (by decide)
theorem d82_120 : decode (cod 82) 120 = .ok (.iconst 0, 1) := by decide +kernel
theorem s82_120 {M : Mm} {st : List Value} {l0 l1 l2 l3 l4 l5 l6 l7 : Option Value} : EE 82 120 [l0, l1, l2, l3, l4, l5, l6, l7] st M = EE 82 121 [l0, l1, l2, l3, l4, l5, l6, l7] (.int (nI 0) :: st) M := e_con d82_120 k_con_0
theorem d82_121 : decode (cod 82) 121 = .ok (.istore 5, 2) := by decide +kernel
theorem s82_121 {M : Mm} {st : List Value} {l0 l1 l2 l3 l4 l5 l6 l7 : Option Value} {x : Int32} : EE 82 121 [l0, l1, l2, l3, l4, l5, l6, l7] (.int x :: st) M = EE 82 123 [l0, l1, l2, l3, cln l4, some (.int x), l6, l7] st M := e_st1 d82_121 rfl rfl rfl rfl rfl rfl rfl (Nat.le_of_ble_eq_true rfl) rfl
theorem d82_123 : decode (cod 82) 123 = .ok (.iload 5, 2) := by decide +kernel
theorem s82_123 {M : Mm} {st : List Value} {l0 l1 l2 l3 l4 l6 l7 : Option Value} {x : Int32} : EE 82 123 [l0, l1, l2, l3, l4, some (.int x), l6, l7] st M = EE 82 125 [l0, l1, l2, l3, l4, some (.int x), l6, l7] (.int x :: st) M := e_ld d82_123 rfl rfl rfl rfl rfl rfl
theorem d82_125 : decode (cod 82) 125 = .ok (.ifCond .ne 8, 3) := by decide +kernel
theorem s82_125 {M : Mm} {st : List Value} {l0 l1 l2 l3 l4 l5 l6 l7 : Option Value} {x : Int32} : EE 82 125 [l0, l1, l2, l3, l4, l5, l6, l7] (.int x :: st) M = if x = 0 then EE 82 128 [l0, l1, l2, l3, l4, l5, l6, l7] st M else EE 82 133 [l0, l1, l2, l3, l4, l5, l6, l7] st M := e_ne0 d82_125 (by decide)
theorem d82_128 : decode (cod 82) 128 = .ok (.bipush (-6), 2) := by decide +kernel
theorem s82_128 {M : Mm} {st : List Value} {l0 l1 l2 l3 l4 l5 l6 l7 : Option Value} : EE 82 128 [l0, l1, l2, l3, l4, l5, l6, l7] st M = EE 82 130 [l0, l1, l2, l3, l4, l5, l6, l7] (.int ((-6)) :: st) M := e_bip d82_128 k_bip_m6
theorem d82_130 : decode (cod 82) 130 = .ok (.goto 35, 3) := by decide +kernel
theorem s82_130 {M : Mm} {st : List Value} {l0 l1 l2 l3 l4 l5 l6 l7 : Option Value} : EE 82 130 [l0, l1, l2, l3, l4, l5, l6, l7] st M = EE 82 165 [l0, l1, l2, l3, l4, l5, l6, l7] st M := e_goto d82_130 (by decide)
theorem d82_133 : decode (cod 82) 133 = .ok (.aload_n 0, 1) := by decide +kernel
theorem s82_133 {M : Mm} {st : List Value} {l1 l2 l3 l4 l5 l6 l7 : Option Value} {x : Nat} : EE 82 133 [some (.ref x), l1, l2, l3, l4, l5, l6, l7] st M = EE 82 134 [some (.ref x), l1, l2, l3, l4, l5, l6, l7] (.ref x :: st) M := e_ld d82_133 rfl rfl rfl rfl rfl rfl
theorem d82_134 : decode (cod 82) 134 = .ok (.aload_n 0, 1) := by decide +kernel
theorem s82_134 {M : Mm} {st : List Value} {l1 l2 l3 l4 l5 l6 l7 : Option Value} {x : Nat} : EE 82 134 [some (.ref x), l1, l2, l3, l4, l5, l6, l7] st M = EE 82 135 [some (.ref x), l1, l2, l3, l4, l5, l6, l7] (.ref x :: st) M := e_ld d82_134 rfl rfl rfl rfl rfl rfl
theorem d82_135 : decode (cod 82) 135 = .ok (.iconst 1, 1) := by decide +kernel
theorem s82_135 {M : Mm} {st : List Value} {l0 l1 l2 l3 l4 l5 l6 l7 : Option Value} : EE 82 135 [l0, l1, l2, l3, l4, l5, l6, l7] st M = EE 82 136 [l0, l1, l2, l3, l4, l5, l6, l7] (.int (nI 1) :: st) M := e_con d82_135 k_con_1
theorem d82_136 : decode (cod 82) 136 = .ok (.invokevirtual 15, 3) := by decide +kernel
theorem s82_136 {l0 l1 l2 l3 l4 l5 l6 l7 : Option Value} {a : Nat} {M : Mm} {b0 : Int32} {st : List Value} (hl : st.length ≤ 4) (ho : isO "HandoverDesk" M.1 a = true) : EE 82 136 [l0, l1, l2, l3, l4, l5, l6, l7] (.int b0 :: .ref a :: st) M = (FF 61 (.ref a :: [.int b0]) M).bind (fun z => EE 82 139 [l0, l1, l2, l3, l4, l5, l6, l7] (psh z.1 st) z.2) := e_calv (av := [.int b0]) d82_136 c4_15 rfl rfl rfl r82_61 rfl hl ho
theorem d82_139 : decode (cod 82) 139 = .ok (.iload_n 1, 1) := by decide +kernel
theorem s82_139 {M : Mm} {st : List Value} {l0 l2 l3 l4 l5 l6 l7 : Option Value} {x : Int32} : EE 82 139 [l0, some (.int x), l2, l3, l4, l5, l6, l7] st M = EE 82 140 [l0, some (.int x), l2, l3, l4, l5, l6, l7] (.int x :: st) M := e_ld d82_139 rfl rfl rfl rfl rfl rfl
theorem d82_140 : decode (cod 82) 140 = .ok (.invokevirtual 9, 3) := by decide +kernel
theorem s82_140 {l0 l1 l2 l3 l4 l5 l6 l7 : Option Value} {a : Nat} {M : Mm} {b0 : Int32} {b1 : Int32} {st : List Value} (hl : st.length ≤ 4) (ho : isO "HandoverDesk" M.1 a = true) : EE 82 140 [l0, l1, l2, l3, l4, l5, l6, l7] (.int b1 :: .int b0 :: .ref a :: st) M = (FF 58 (.ref a :: [.int b0, .int b1]) M).bind (fun z => EE 82 143 [l0, l1, l2, l3, l4, l5, l6, l7] (psh z.1 st) z.2) := e_calv (av := [.int b0, .int b1]) d82_140 c4_9 rfl rfl rfl r82_58 rfl hl ho
theorem d82_143 : decode (cod 82) 143 = .ok (.aload_n 0, 1) := by decide +kernel
theorem s82_143 {M : Mm} {st : List Value} {l1 l2 l3 l4 l5 l6 l7 : Option Value} {x : Nat} : EE 82 143 [some (.ref x), l1, l2, l3, l4, l5, l6, l7] st M = EE 82 144 [some (.ref x), l1, l2, l3, l4, l5, l6, l7] (.ref x :: st) M := e_ld d82_143 rfl rfl rfl rfl rfl rfl
theorem d82_144 : decode (cod 82) 144 = .ok (.bipush 11, 2) := by decide +kernel
theorem s82_144 {M : Mm} {st : List Value} {l0 l1 l2 l3 l4 l5 l6 l7 : Option Value} : EE 82 144 [l0, l1, l2, l3, l4, l5, l6, l7] st M = EE 82 146 [l0, l1, l2, l3, l4, l5, l6, l7] (.int (nI 11) :: st) M := e_bip d82_144 k_bip_11
theorem d82_146 : decode (cod 82) 146 = .ok (.invokevirtual 15, 3) := by decide +kernel
theorem s82_146 {l0 l1 l2 l3 l4 l5 l6 l7 : Option Value} {a : Nat} {M : Mm} {b0 : Int32} {st : List Value} (hl : st.length ≤ 4) (ho : isO "HandoverDesk" M.1 a = true) : EE 82 146 [l0, l1, l2, l3, l4, l5, l6, l7] (.int b0 :: .ref a :: st) M = (FF 61 (.ref a :: [.int b0]) M).bind (fun z => EE 82 149 [l0, l1, l2, l3, l4, l5, l6, l7] (psh z.1 st) z.2) := e_calv (av := [.int b0]) d82_146 c4_15 rfl rfl rfl r82_61 rfl hl ho
theorem d82_149 : decode (cod 82) 149 = .ok (.if_icmp .lt 7, 3) := by decide +kernel
theorem s82_149 {M : Mm} {st : List Value} {l0 l1 l2 l3 l4 l5 l6 l7 : Option Value} {x y : Int32} : EE 82 149 [l0, l1, l2, l3, l4, l5, l6, l7] (.int y :: .int x :: st) M = if x < y then EE 82 156 [l0, l1, l2, l3, l4, l5, l6, l7] st M else EE 82 152 [l0, l1, l2, l3, l4, l5, l6, l7] st M := e_clt d82_149 (by decide)
theorem d82_152 : decode (cod 82) 152 = .ok (.iconst 0, 1) := by decide +kernel
theorem s82_152 {M : Mm} {st : List Value} {l0 l1 l2 l3 l4 l5 l6 l7 : Option Value} : EE 82 152 [l0, l1, l2, l3, l4, l5, l6, l7] st M = EE 82 153 [l0, l1, l2, l3, l4, l5, l6, l7] (.int (nI 0) :: st) M := e_con d82_152 k_con_0
theorem d82_153 : decode (cod 82) 153 = .ok (.goto 12, 3) := by decide +kernel
theorem s82_153 {M : Mm} {st : List Value} {l0 l1 l2 l3 l4 l5 l6 l7 : Option Value} : EE 82 153 [l0, l1, l2, l3, l4, l5, l6, l7] st M = EE 82 165 [l0, l1, l2, l3, l4, l5, l6, l7] st M := e_goto d82_153 (by decide)
theorem d82_156 : decode (cod 82) 156 = .ok (.iload_n 3, 1) := by decide +kernel
theorem s82_156 {M : Mm} {st : List Value} {l0 l1 l2 l4 l5 l6 l7 : Option Value} {x : Int32} : EE 82 156 [l0, l1, l2, some (.int x), l4, l5, l6, l7] st M = EE 82 157 [l0, l1, l2, some (.int x), l4, l5, l6, l7] (.int x :: st) M := e_ld d82_156 rfl rfl rfl rfl rfl rfl
theorem d82_157 : decode (cod 82) 157 = .ok (.ifCond .eq 7, 3) := by decide +kernel
theorem s82_157 {M : Mm} {st : List Value} {l0 l1 l2 l3 l4 l5 l6 l7 : Option Value} {x : Int32} : EE 82 157 [l0, l1, l2, l3, l4, l5, l6, l7] (.int x :: st) M = if x = 0 then EE 82 164 [l0, l1, l2, l3, l4, l5, l6, l7] st M else EE 82 160 [l0, l1, l2, l3, l4, l5, l6, l7] st M := e_eq0 d82_157 (by decide)
theorem d82_160 : decode (cod 82) 160 = .ok (.iconst 1, 1) := by decide +kernel
theorem s82_160 {M : Mm} {st : List Value} {l0 l1 l2 l3 l4 l5 l6 l7 : Option Value} : EE 82 160 [l0, l1, l2, l3, l4, l5, l6, l7] st M = EE 82 161 [l0, l1, l2, l3, l4, l5, l6, l7] (.int (nI 1) :: st) M := e_con d82_160 k_con_1
theorem d82_161 : decode (cod 82) 161 = .ok (.goto 4, 3) := by decide +kernel
theorem s82_161 {M : Mm} {st : List Value} {l0 l1 l2 l3 l4 l5 l6 l7 : Option Value} : EE 82 161 [l0, l1, l2, l3, l4, l5, l6, l7] st M = EE 82 165 [l0, l1, l2, l3, l4, l5, l6, l7] st M := e_goto d82_161 (by decide)
theorem d82_164 : decode (cod 82) 164 = .ok (.iconst 2, 1) := by decide +kernel
theorem s82_164 {M : Mm} {st : List Value} {l0 l1 l2 l3 l4 l5 l6 l7 : Option Value} : EE 82 164 [l0, l1, l2, l3, l4, l5, l6, l7] st M = EE 82 165 [l0, l1, l2, l3, l4, l5, l6, l7] (.int (nI 2) :: st) M := e_con d82_164 k_con_2
theorem d82_165 : decode (cod 82) 165 = .ok (.istore 6, 2) := by decide +kernel
theorem s82_165 {M : Mm} {st : List Value} {l0 l1 l2 l3 l4 l5 l6 l7 : Option Value} {x : Int32} : EE 82 165 [l0, l1, l2, l3, l4, l5, l6, l7] (.int x :: st) M = EE 82 167 [l0, l1, l2, l3, l4, cln l5, some (.int x), l7] st M := e_st1 d82_165 rfl rfl rfl rfl rfl rfl rfl (Nat.le_of_ble_eq_true rfl) rfl
theorem d82_167 : decode (cod 82) 167 = .ok (.iload 4, 2) := by decide +kernel
theorem s82_167 {M : Mm} {st : List Value} {l0 l1 l2 l3 l5 l6 l7 : Option Value} {x : Int32} : EE 82 167 [l0, l1, l2, l3, some (.int x), l5, l6, l7] st M = EE 82 169 [l0, l1, l2, l3, some (.int x), l5, l6, l7] (.int x :: st) M := e_ld d82_167 rfl rfl rfl rfl rfl rfl
theorem d82_169 : decode (cod 82) 169 = .ok (.ifCond .eq 76, 3) := by decide +kernel
theorem s82_169 {M : Mm} {st : List Value} {l0 l1 l2 l3 l4 l5 l6 l7 : Option Value} {x : Int32} : EE 82 169 [l0, l1, l2, l3, l4, l5, l6, l7] (.int x :: st) M = if x = 0 then EE 82 245 [l0, l1, l2, l3, l4, l5, l6, l7] st M else EE 82 172 [l0, l1, l2, l3, l4, l5, l6, l7] st M := e_eq0 d82_169 (by decide)
theorem d82_172 : decode (cod 82) 172 = .ok (.aload_n 0, 1) := by decide +kernel
theorem s82_172 {M : Mm} {st : List Value} {l1 l2 l3 l4 l5 l6 l7 : Option Value} {x : Nat} : EE 82 172 [some (.ref x), l1, l2, l3, l4, l5, l6, l7] st M = EE 82 173 [some (.ref x), l1, l2, l3, l4, l5, l6, l7] (.ref x :: st) M := e_ld d82_172 rfl rfl rfl rfl rfl rfl
theorem d82_173 : decode (cod 82) 173 = .ok (.iload_n 1, 1) := by decide +kernel
theorem s82_173 {M : Mm} {st : List Value} {l0 l2 l3 l4 l5 l6 l7 : Option Value} {x : Int32} : EE 82 173 [l0, some (.int x), l2, l3, l4, l5, l6, l7] st M = EE 82 174 [l0, some (.int x), l2, l3, l4, l5, l6, l7] (.int x :: st) M := e_ld d82_173 rfl rfl rfl rfl rfl rfl
theorem d82_174 : decode (cod 82) 174 = .ok (.iconst 1, 1) := by decide +kernel
theorem s82_174 {M : Mm} {st : List Value} {l0 l1 l2 l3 l4 l5 l6 l7 : Option Value} : EE 82 174 [l0, l1, l2, l3, l4, l5, l6, l7] st M = EE 82 175 [l0, l1, l2, l3, l4, l5, l6, l7] (.int (nI 1) :: st) M := e_con d82_174 k_con_1
theorem d82_175 : decode (cod 82) 175 = .ok (.invokevirtual 19, 3) := by decide +kernel
theorem s82_175 {l0 l1 l2 l3 l4 l5 l6 l7 : Option Value} {a : Nat} {M : Mm} {b0 : Int32} {b1 : Int32} {st : List Value} (hl : st.length ≤ 4) (ho : isO "HandoverDesk" M.1 a = true) : EE 82 175 [l0, l1, l2, l3, l4, l5, l6, l7] (.int b1 :: .int b0 :: .ref a :: st) M = (FF 59 (.ref a :: [.int b0, .int b1]) M).bind (fun z => EE 82 178 [l0, l1, l2, l3, l4, l5, l6, l7] (psh z.1 st) z.2) := e_calv (av := [.int b0, .int b1]) d82_175 c4_19 rfl rfl rfl r82_59 rfl hl ho
theorem d82_178 : decode (cod 82) 178 = .ok (.iload 6, 2) := by decide +kernel
theorem s82_178 {M : Mm} {st : List Value} {l0 l1 l2 l3 l4 l5 l7 : Option Value} {x : Int32} : EE 82 178 [l0, l1, l2, l3, l4, l5, some (.int x), l7] st M = EE 82 180 [l0, l1, l2, l3, l4, l5, some (.int x), l7] (.int x :: st) M := e_ld d82_178 rfl rfl rfl rfl rfl rfl
theorem d82_180 : decode (cod 82) 180 = .ok (.if_icmp .ne 65, 3) := by decide +kernel
theorem s82_180 {M : Mm} {st : List Value} {l0 l1 l2 l3 l4 l5 l6 l7 : Option Value} {x y : Int32} : EE 82 180 [l0, l1, l2, l3, l4, l5, l6, l7] (.int y :: .int x :: st) M = if x = y then EE 82 183 [l0, l1, l2, l3, l4, l5, l6, l7] st M else EE 82 245 [l0, l1, l2, l3, l4, l5, l6, l7] st M := e_cne d82_180 (by decide)
theorem d82_183 : decode (cod 82) 183 = .ok (.aload_n 0, 1) := by decide +kernel
theorem s82_183 {M : Mm} {st : List Value} {l1 l2 l3 l4 l5 l6 l7 : Option Value} {x : Nat} : EE 82 183 [some (.ref x), l1, l2, l3, l4, l5, l6, l7] st M = EE 82 184 [some (.ref x), l1, l2, l3, l4, l5, l6, l7] (.ref x :: st) M := e_ld d82_183 rfl rfl rfl rfl rfl rfl
theorem d82_184 : decode (cod 82) 184 = .ok (.iload_n 1, 1) := by decide +kernel
theorem s82_184 {M : Mm} {st : List Value} {l0 l2 l3 l4 l5 l6 l7 : Option Value} {x : Int32} : EE 82 184 [l0, some (.int x), l2, l3, l4, l5, l6, l7] st M = EE 82 185 [l0, some (.int x), l2, l3, l4, l5, l6, l7] (.int x :: st) M := e_ld d82_184 rfl rfl rfl rfl rfl rfl
theorem d82_185 : decode (cod 82) 185 = .ok (.iconst 3, 1) := by decide +kernel
theorem s82_185 {M : Mm} {st : List Value} {l0 l1 l2 l3 l4 l5 l6 l7 : Option Value} : EE 82 185 [l0, l1, l2, l3, l4, l5, l6, l7] st M = EE 82 186 [l0, l1, l2, l3, l4, l5, l6, l7] (.int (nI 3) :: st) M := e_con d82_185 k_con_3
theorem d82_186 : decode (cod 82) 186 = .ok (.invokevirtual 19, 3) := by decide +kernel
theorem s82_186 {l0 l1 l2 l3 l4 l5 l6 l7 : Option Value} {a : Nat} {M : Mm} {b0 : Int32} {b1 : Int32} {st : List Value} (hl : st.length ≤ 4) (ho : isO "HandoverDesk" M.1 a = true) : EE 82 186 [l0, l1, l2, l3, l4, l5, l6, l7] (.int b1 :: .int b0 :: .ref a :: st) M = (FF 59 (.ref a :: [.int b0, .int b1]) M).bind (fun z => EE 82 189 [l0, l1, l2, l3, l4, l5, l6, l7] (psh z.1 st) z.2) := e_calv (av := [.int b0, .int b1]) d82_186 c4_19 rfl rfl rfl r82_59 rfl hl ho
theorem d82_189 : decode (cod 82) 189 = .ok (.iload_n 2, 1) := by decide +kernel
theorem s82_189 {M : Mm} {st : List Value} {l0 l1 l3 l4 l5 l6 l7 : Option Value} {x : Int32} : EE 82 189 [l0, l1, some (.int x), l3, l4, l5, l6, l7] st M = EE 82 190 [l0, l1, some (.int x), l3, l4, l5, l6, l7] (.int x :: st) M := e_ld d82_189 rfl rfl rfl rfl rfl rfl
theorem d82_190 : decode (cod 82) 190 = .ok (.if_icmp .ne 55, 3) := by decide +kernel
theorem s82_190 {M : Mm} {st : List Value} {l0 l1 l2 l3 l4 l5 l6 l7 : Option Value} {x y : Int32} : EE 82 190 [l0, l1, l2, l3, l4, l5, l6, l7] (.int y :: .int x :: st) M = if x = y then EE 82 193 [l0, l1, l2, l3, l4, l5, l6, l7] st M else EE 82 245 [l0, l1, l2, l3, l4, l5, l6, l7] st M := e_cne d82_190 (by decide)
theorem d82_193 : decode (cod 82) 193 = .ok (.aload_n 0, 1) := by decide +kernel
theorem s82_193 {M : Mm} {st : List Value} {l1 l2 l3 l4 l5 l6 l7 : Option Value} {x : Nat} : EE 82 193 [some (.ref x), l1, l2, l3, l4, l5, l6, l7] st M = EE 82 194 [some (.ref x), l1, l2, l3, l4, l5, l6, l7] (.ref x :: st) M := e_ld d82_193 rfl rfl rfl rfl rfl rfl
theorem d82_194 : decode (cod 82) 194 = .ok (.bipush 9, 2) := by decide +kernel
theorem s82_194 {M : Mm} {st : List Value} {l0 l1 l2 l3 l4 l5 l6 l7 : Option Value} : EE 82 194 [l0, l1, l2, l3, l4, l5, l6, l7] st M = EE 82 196 [l0, l1, l2, l3, l4, l5, l6, l7] (.int (nI 9) :: st) M := e_bip d82_194 k_bip_9
theorem d82_196 : decode (cod 82) 196 = .ok (.invokevirtual 15, 3) := by decide +kernel
theorem s82_196 {l0 l1 l2 l3 l4 l5 l6 l7 : Option Value} {a : Nat} {M : Mm} {b0 : Int32} {st : List Value} (hl : st.length ≤ 4) (ho : isO "HandoverDesk" M.1 a = true) : EE 82 196 [l0, l1, l2, l3, l4, l5, l6, l7] (.int b0 :: .ref a :: st) M = (FF 61 (.ref a :: [.int b0]) M).bind (fun z => EE 82 199 [l0, l1, l2, l3, l4, l5, l6, l7] (psh z.1 st) z.2) := e_calv (av := [.int b0]) d82_196 c4_15 rfl rfl rfl r82_61 rfl hl ho
theorem d82_199 : decode (cod 82) 199 = .ok (.iload_n 1, 1) := by decide +kernel
theorem s82_199 {M : Mm} {st : List Value} {l0 l2 l3 l4 l5 l6 l7 : Option Value} {x : Int32} : EE 82 199 [l0, some (.int x), l2, l3, l4, l5, l6, l7] st M = EE 82 200 [l0, some (.int x), l2, l3, l4, l5, l6, l7] (.int x :: st) M := e_ld d82_199 rfl rfl rfl rfl rfl rfl
theorem d82_200 : decode (cod 82) 200 = .ok (.ishr, 1) := by decide +kernel
theorem s82_200 {M : Mm} {st : List Value} {l0 l1 l2 l3 l4 l5 l6 l7 : Option Value} {x y : Int32} : EE 82 200 [l0, l1, l2, l3, l4, l5, l6, l7] (.int y :: .int x :: st) M = EE 82 201 [l0, l1, l2, l3, l4, l5, l6, l7] (.int (x >>> (y &&& 31)) :: st) M := e_II d82_200 rfl rfl rfl rfl rfl rfl
theorem d82_201 : decode (cod 82) 201 = .ok (.iconst 1, 1) := by decide +kernel
theorem s82_201 {M : Mm} {st : List Value} {l0 l1 l2 l3 l4 l5 l6 l7 : Option Value} : EE 82 201 [l0, l1, l2, l3, l4, l5, l6, l7] st M = EE 82 202 [l0, l1, l2, l3, l4, l5, l6, l7] (.int (nI 1) :: st) M := e_con d82_201 k_con_1
theorem d82_202 : decode (cod 82) 202 = .ok (.iand, 1) := by decide +kernel
theorem s82_202 {M : Mm} {st : List Value} {l0 l1 l2 l3 l4 l5 l6 l7 : Option Value} {x y : Int32} : EE 82 202 [l0, l1, l2, l3, l4, l5, l6, l7] (.int y :: .int x :: st) M = EE 82 203 [l0, l1, l2, l3, l4, l5, l6, l7] (.int (x &&& y) :: st) M := e_II d82_202 rfl rfl rfl rfl rfl rfl
theorem d82_203 : decode (cod 82) 203 = .ok (.iload 6, 2) := by decide +kernel
theorem s82_203 {M : Mm} {st : List Value} {l0 l1 l2 l3 l4 l5 l7 : Option Value} {x : Int32} : EE 82 203 [l0, l1, l2, l3, l4, l5, some (.int x), l7] st M = EE 82 205 [l0, l1, l2, l3, l4, l5, some (.int x), l7] (.int x :: st) M := e_ld d82_203 rfl rfl rfl rfl rfl rfl
theorem d82_205 : decode (cod 82) 205 = .ok (.iconst 2, 1) := by decide +kernel
theorem s82_205 {M : Mm} {st : List Value} {l0 l1 l2 l3 l4 l5 l6 l7 : Option Value} : EE 82 205 [l0, l1, l2, l3, l4, l5, l6, l7] st M = EE 82 206 [l0, l1, l2, l3, l4, l5, l6, l7] (.int (nI 2) :: st) M := e_con d82_205 k_con_2
theorem d82_206 : decode (cod 82) 206 = .ok (.if_icmp .ne 7, 3) := by decide +kernel
theorem s82_206 {M : Mm} {st : List Value} {l0 l1 l2 l3 l4 l5 l6 l7 : Option Value} {x y : Int32} : EE 82 206 [l0, l1, l2, l3, l4, l5, l6, l7] (.int y :: .int x :: st) M = if x = y then EE 82 209 [l0, l1, l2, l3, l4, l5, l6, l7] st M else EE 82 213 [l0, l1, l2, l3, l4, l5, l6, l7] st M := e_cne d82_206 (by decide)
theorem d82_209 : decode (cod 82) 209 = .ok (.iconst 1, 1) := by decide +kernel
theorem s82_209 {M : Mm} {st : List Value} {l0 l1 l2 l3 l4 l5 l6 l7 : Option Value} : EE 82 209 [l0, l1, l2, l3, l4, l5, l6, l7] st M = EE 82 210 [l0, l1, l2, l3, l4, l5, l6, l7] (.int (nI 1) :: st) M := e_con d82_209 k_con_1
theorem d82_210 : decode (cod 82) 210 = .ok (.goto 4, 3) := by decide +kernel
theorem s82_210 {M : Mm} {st : List Value} {l0 l1 l2 l3 l4 l5 l6 l7 : Option Value} : EE 82 210 [l0, l1, l2, l3, l4, l5, l6, l7] st M = EE 82 214 [l0, l1, l2, l3, l4, l5, l6, l7] st M := e_goto d82_210 (by decide)
theorem d82_213 : decode (cod 82) 213 = .ok (.iconst 0, 1) := by decide +kernel
theorem s82_213 {M : Mm} {st : List Value} {l0 l1 l2 l3 l4 l5 l6 l7 : Option Value} : EE 82 213 [l0, l1, l2, l3, l4, l5, l6, l7] st M = EE 82 214 [l0, l1, l2, l3, l4, l5, l6, l7] (.int (nI 0) :: st) M := e_con d82_213 k_con_0
theorem d82_214 : decode (cod 82) 214 = .ok (.if_icmp .ne 31, 3) := by decide +kernel
theorem s82_214 {M : Mm} {st : List Value} {l0 l1 l2 l3 l4 l5 l6 l7 : Option Value} {x y : Int32} : EE 82 214 [l0, l1, l2, l3, l4, l5, l6, l7] (.int y :: .int x :: st) M = if x = y then EE 82 217 [l0, l1, l2, l3, l4, l5, l6, l7] st M else EE 82 245 [l0, l1, l2, l3, l4, l5, l6, l7] st M := e_cne d82_214 (by decide)
theorem d82_217 : decode (cod 82) 217 = .ok (.aload_n 0, 1) := by decide +kernel
theorem s82_217 {M : Mm} {st : List Value} {l1 l2 l3 l4 l5 l6 l7 : Option Value} {x : Nat} : EE 82 217 [some (.ref x), l1, l2, l3, l4, l5, l6, l7] st M = EE 82 218 [some (.ref x), l1, l2, l3, l4, l5, l6, l7] (.ref x :: st) M := e_ld d82_217 rfl rfl rfl rfl rfl rfl
theorem d82_218 : decode (cod 82) 218 = .ok (.bipush 10, 2) := by decide +kernel
theorem s82_218 {M : Mm} {st : List Value} {l0 l1 l2 l3 l4 l5 l6 l7 : Option Value} : EE 82 218 [l0, l1, l2, l3, l4, l5, l6, l7] st M = EE 82 220 [l0, l1, l2, l3, l4, l5, l6, l7] (.int (nI 10) :: st) M := e_bip d82_218 k_bip_10
theorem d82_220 : decode (cod 82) 220 = .ok (.invokevirtual 15, 3) := by decide +kernel
theorem s82_220 {l0 l1 l2 l3 l4 l5 l6 l7 : Option Value} {a : Nat} {M : Mm} {b0 : Int32} {st : List Value} (hl : st.length ≤ 4) (ho : isO "HandoverDesk" M.1 a = true) : EE 82 220 [l0, l1, l2, l3, l4, l5, l6, l7] (.int b0 :: .ref a :: st) M = (FF 61 (.ref a :: [.int b0]) M).bind (fun z => EE 82 223 [l0, l1, l2, l3, l4, l5, l6, l7] (psh z.1 st) z.2) := e_calv (av := [.int b0]) d82_220 c4_15 rfl rfl rfl r82_61 rfl hl ho
theorem d82_223 : decode (cod 82) 223 = .ok (.iload_n 1, 1) := by decide +kernel
theorem s82_223 {M : Mm} {st : List Value} {l0 l2 l3 l4 l5 l6 l7 : Option Value} {x : Int32} : EE 82 223 [l0, some (.int x), l2, l3, l4, l5, l6, l7] st M = EE 82 224 [l0, some (.int x), l2, l3, l4, l5, l6, l7] (.int x :: st) M := e_ld d82_223 rfl rfl rfl rfl rfl rfl
theorem d82_224 : decode (cod 82) 224 = .ok (.ishr, 1) := by decide +kernel
theorem s82_224 {M : Mm} {st : List Value} {l0 l1 l2 l3 l4 l5 l6 l7 : Option Value} {x y : Int32} : EE 82 224 [l0, l1, l2, l3, l4, l5, l6, l7] (.int y :: .int x :: st) M = EE 82 225 [l0, l1, l2, l3, l4, l5, l6, l7] (.int (x >>> (y &&& 31)) :: st) M := e_II d82_224 rfl rfl rfl rfl rfl rfl
theorem d82_225 : decode (cod 82) 225 = .ok (.iconst 1, 1) := by decide +kernel
theorem s82_225 {M : Mm} {st : List Value} {l0 l1 l2 l3 l4 l5 l6 l7 : Option Value} : EE 82 225 [l0, l1, l2, l3, l4, l5, l6, l7] st M = EE 82 226 [l0, l1, l2, l3, l4, l5, l6, l7] (.int (nI 1) :: st) M := e_con d82_225 k_con_1
theorem d82_226 : decode (cod 82) 226 = .ok (.iand, 1) := by decide +kernel
theorem s82_226 {M : Mm} {st : List Value} {l0 l1 l2 l3 l4 l5 l6 l7 : Option Value} {x y : Int32} : EE 82 226 [l0, l1, l2, l3, l4, l5, l6, l7] (.int y :: .int x :: st) M = EE 82 227 [l0, l1, l2, l3, l4, l5, l6, l7] (.int (x &&& y) :: st) M := e_II d82_226 rfl rfl rfl rfl rfl rfl
theorem d82_227 : decode (cod 82) 227 = .ok (.iload 6, 2) := by decide +kernel
theorem s82_227 {M : Mm} {st : List Value} {l0 l1 l2 l3 l4 l5 l7 : Option Value} {x : Int32} : EE 82 227 [l0, l1, l2, l3, l4, l5, some (.int x), l7] st M = EE 82 229 [l0, l1, l2, l3, l4, l5, some (.int x), l7] (.int x :: st) M := e_ld d82_227 rfl rfl rfl rfl rfl rfl
theorem d82_229 : decode (cod 82) 229 = .ok (.iconst 1, 1) := by decide +kernel
theorem s82_229 {M : Mm} {st : List Value} {l0 l1 l2 l3 l4 l5 l6 l7 : Option Value} : EE 82 229 [l0, l1, l2, l3, l4, l5, l6, l7] st M = EE 82 230 [l0, l1, l2, l3, l4, l5, l6, l7] (.int (nI 1) :: st) M := e_con d82_229 k_con_1
theorem d82_230 : decode (cod 82) 230 = .ok (.if_icmp .ne 7, 3) := by decide +kernel
theorem s82_230 {M : Mm} {st : List Value} {l0 l1 l2 l3 l4 l5 l6 l7 : Option Value} {x y : Int32} : EE 82 230 [l0, l1, l2, l3, l4, l5, l6, l7] (.int y :: .int x :: st) M = if x = y then EE 82 233 [l0, l1, l2, l3, l4, l5, l6, l7] st M else EE 82 237 [l0, l1, l2, l3, l4, l5, l6, l7] st M := e_cne d82_230 (by decide)
theorem d82_233 : decode (cod 82) 233 = .ok (.iconst 1, 1) := by decide +kernel
theorem s82_233 {M : Mm} {st : List Value} {l0 l1 l2 l3 l4 l5 l6 l7 : Option Value} : EE 82 233 [l0, l1, l2, l3, l4, l5, l6, l7] st M = EE 82 234 [l0, l1, l2, l3, l4, l5, l6, l7] (.int (nI 1) :: st) M := e_con d82_233 k_con_1
theorem d82_234 : decode (cod 82) 234 = .ok (.goto 4, 3) := by decide +kernel
theorem s82_234 {M : Mm} {st : List Value} {l0 l1 l2 l3 l4 l5 l6 l7 : Option Value} : EE 82 234 [l0, l1, l2, l3, l4, l5, l6, l7] st M = EE 82 238 [l0, l1, l2, l3, l4, l5, l6, l7] st M := e_goto d82_234 (by decide)
theorem d82_237 : decode (cod 82) 237 = .ok (.iconst 0, 1) := by decide +kernel
theorem s82_237 {M : Mm} {st : List Value} {l0 l1 l2 l3 l4 l5 l6 l7 : Option Value} : EE 82 237 [l0, l1, l2, l3, l4, l5, l6, l7] st M = EE 82 238 [l0, l1, l2, l3, l4, l5, l6, l7] (.int (nI 0) :: st) M := e_con d82_237 k_con_0
theorem d82_238 : decode (cod 82) 238 = .ok (.if_icmp .ne 7, 3) := by decide +kernel
theorem s82_238 {M : Mm} {st : List Value} {l0 l1 l2 l3 l4 l5 l6 l7 : Option Value} {x y : Int32} : EE 82 238 [l0, l1, l2, l3, l4, l5, l6, l7] (.int y :: .int x :: st) M = if x = y then EE 82 241 [l0, l1, l2, l3, l4, l5, l6, l7] st M else EE 82 245 [l0, l1, l2, l3, l4, l5, l6, l7] st M := e_cne d82_238 (by decide)
theorem d82_241 : decode (cod 82) 241 = .ok (.iconst 1, 1) := by decide +kernel
theorem s82_241 {M : Mm} {st : List Value} {l0 l1 l2 l3 l4 l5 l6 l7 : Option Value} : EE 82 241 [l0, l1, l2, l3, l4, l5, l6, l7] st M = EE 82 242 [l0, l1, l2, l3, l4, l5, l6, l7] (.int (nI 1) :: st) M := e_con d82_241 k_con_1
theorem d82_242 : decode (cod 82) 242 = .ok (.goto 4, 3) := by decide +kernel
theorem s82_242 {M : Mm} {st : List Value} {l0 l1 l2 l3 l4 l5 l6 l7 : Option Value} : EE 82 242 [l0, l1, l2, l3, l4, l5, l6, l7] st M = EE 82 246 [l0, l1, l2, l3, l4, l5, l6, l7] st M := e_goto d82_242 (by decide)
theorem d82_245 : decode (cod 82) 245 = .ok (.iconst 0, 1) := by decide +kernel
theorem s82_245 {M : Mm} {st : List Value} {l0 l1 l2 l3 l4 l5 l6 l7 : Option Value} : EE 82 245 [l0, l1, l2, l3, l4, l5, l6, l7] st M = EE 82 246 [l0, l1, l2, l3, l4, l5, l6, l7] (.int (nI 0) :: st) M := e_con d82_245 k_con_0
theorem d82_246 : decode (cod 82) 246 = .ok (.istore 4, 2) := by decide +kernel
theorem s82_246 {M : Mm} {st : List Value} {l0 l1 l2 l3 l4 l5 l6 l7 : Option Value} {x : Int32} : EE 82 246 [l0, l1, l2, l3, l4, l5, l6, l7] (.int x :: st) M = EE 82 248 [l0, l1, l2, cln l3, some (.int x), l5, l6, l7] st M := e_st1 d82_246 rfl rfl rfl rfl rfl rfl rfl (Nat.le_of_ble_eq_true rfl) rfl
theorem d82_248 : decode (cod 82) 248 = .ok (.aload_n 0, 1) := by decide +kernel
theorem s82_248 {M : Mm} {st : List Value} {l1 l2 l3 l4 l5 l6 l7 : Option Value} {x : Nat} : EE 82 248 [some (.ref x), l1, l2, l3, l4, l5, l6, l7] st M = EE 82 249 [some (.ref x), l1, l2, l3, l4, l5, l6, l7] (.ref x :: st) M := e_ld d82_248 rfl rfl rfl rfl rfl rfl
theorem d82_249 : decode (cod 82) 249 = .ok (.iload_n 1, 1) := by decide +kernel
theorem s82_249 {M : Mm} {st : List Value} {l0 l2 l3 l4 l5 l6 l7 : Option Value} {x : Int32} : EE 82 249 [l0, some (.int x), l2, l3, l4, l5, l6, l7] st M = EE 82 250 [l0, some (.int x), l2, l3, l4, l5, l6, l7] (.int x :: st) M := e_ld d82_249 rfl rfl rfl rfl rfl rfl
theorem d82_250 : decode (cod 82) 250 = .ok (.iconst 2, 1) := by decide +kernel
theorem s82_250 {M : Mm} {st : List Value} {l0 l1 l2 l3 l4 l5 l6 l7 : Option Value} : EE 82 250 [l0, l1, l2, l3, l4, l5, l6, l7] st M = EE 82 251 [l0, l1, l2, l3, l4, l5, l6, l7] (.int (nI 2) :: st) M := e_con d82_250 k_con_2
theorem d82_251 : decode (cod 82) 251 = .ok (.invokevirtual 19, 3) := by decide +kernel
theorem s82_251 {l0 l1 l2 l3 l4 l5 l6 l7 : Option Value} {a : Nat} {M : Mm} {b0 : Int32} {b1 : Int32} {st : List Value} (hl : st.length ≤ 4) (ho : isO "HandoverDesk" M.1 a = true) : EE 82 251 [l0, l1, l2, l3, l4, l5, l6, l7] (.int b1 :: .int b0 :: .ref a :: st) M = (FF 59 (.ref a :: [.int b0, .int b1]) M).bind (fun z => EE 82 254 [l0, l1, l2, l3, l4, l5, l6, l7] (psh z.1 st) z.2) := e_calv (av := [.int b0, .int b1]) d82_251 c4_19 rfl rfl rfl r82_59 rfl hl ho
theorem d82_254 : decode (cod 82) 254 = .ok (.istore 7, 2) := by decide +kernel
theorem s82_254 {M : Mm} {st : List Value} {l0 l1 l2 l3 l4 l5 l6 l7 : Option Value} {x : Int32} : EE 82 254 [l0, l1, l2, l3, l4, l5, l6, l7] (.int x :: st) M = EE 82 256 [l0, l1, l2, l3, l4, l5, cln l6, some (.int x)] st M := e_st1 d82_254 rfl rfl rfl rfl rfl rfl rfl (Nat.le_of_ble_eq_true rfl) rfl
theorem d82_256 : decode (cod 82) 256 = .ok (.iload 4, 2) := by decide +kernel
theorem s82_256 {M : Mm} {st : List Value} {l0 l1 l2 l3 l5 l6 l7 : Option Value} {x : Int32} : EE 82 256 [l0, l1, l2, l3, some (.int x), l5, l6, l7] st M = EE 82 258 [l0, l1, l2, l3, some (.int x), l5, l6, l7] (.int x :: st) M := e_ld d82_256 rfl rfl rfl rfl rfl rfl
theorem d82_258 : decode (cod 82) 258 = .ok (.ifCond .eq 63, 3) := by decide +kernel
theorem s82_258 {M : Mm} {st : List Value} {l0 l1 l2 l3 l4 l5 l6 l7 : Option Value} {x : Int32} : EE 82 258 [l0, l1, l2, l3, l4, l5, l6, l7] (.int x :: st) M = if x = 0 then EE 82 321 [l0, l1, l2, l3, l4, l5, l6, l7] st M else EE 82 261 [l0, l1, l2, l3, l4, l5, l6, l7] st M := e_eq0 d82_258 (by decide)
theorem d82_261 : decode (cod 82) 261 = .ok (.iload 7, 2) := by decide +kernel
theorem s82_261 {M : Mm} {st : List Value} {l0 l1 l2 l3 l4 l5 l6 : Option Value} {x : Int32} : EE 82 261 [l0, l1, l2, l3, l4, l5, l6, some (.int x)] st M = EE 82 263 [l0, l1, l2, l3, l4, l5, l6, some (.int x)] (.int x :: st) M := e_ld d82_261 rfl rfl rfl rfl rfl rfl
theorem d82_263 : decode (cod 82) 263 = .ok (.bipush (-6), 2) := by decide +kernel
theorem s82_263 {M : Mm} {st : List Value} {l0 l1 l2 l3 l4 l5 l6 l7 : Option Value} : EE 82 263 [l0, l1, l2, l3, l4, l5, l6, l7] st M = EE 82 265 [l0, l1, l2, l3, l4, l5, l6, l7] (.int ((-6)) :: st) M := e_bip d82_263 k_bip_m6
theorem d82_265 : decode (cod 82) 265 = .ok (.if_icmp .eq 13, 3) := by decide +kernel
theorem s82_265 {M : Mm} {st : List Value} {l0 l1 l2 l3 l4 l5 l6 l7 : Option Value} {x y : Int32} : EE 82 265 [l0, l1, l2, l3, l4, l5, l6, l7] (.int y :: .int x :: st) M = if x = y then EE 82 278 [l0, l1, l2, l3, l4, l5, l6, l7] st M else EE 82 268 [l0, l1, l2, l3, l4, l5, l6, l7] st M := e_ceq d82_265 (by decide)
theorem d82_268 : decode (cod 82) 268 = .ok (.aload_n 0, 1) := by decide +kernel
theorem s82_268 {M : Mm} {st : List Value} {l1 l2 l3 l4 l5 l6 l7 : Option Value} {x : Nat} : EE 82 268 [some (.ref x), l1, l2, l3, l4, l5, l6, l7] st M = EE 82 269 [some (.ref x), l1, l2, l3, l4, l5, l6, l7] (.ref x :: st) M := e_ld d82_268 rfl rfl rfl rfl rfl rfl
theorem d82_269 : decode (cod 82) 269 = .ok (.iload 7, 2) := by decide +kernel
theorem s82_269 {M : Mm} {st : List Value} {l0 l1 l2 l3 l4 l5 l6 : Option Value} {x : Int32} : EE 82 269 [l0, l1, l2, l3, l4, l5, l6, some (.int x)] st M = EE 82 271 [l0, l1, l2, l3, l4, l5, l6, some (.int x)] (.int x :: st) M := e_ld d82_269 rfl rfl rfl rfl rfl rfl
theorem d82_271 : decode (cod 82) 271 = .ok (.invokevirtual 22, 3) := by decide +kernel
theorem s82_271 {l0 l1 l2 l3 l4 l5 l6 l7 : Option Value} {a : Nat} {M : Mm} {b0 : Int32} {st : List Value} (hl : st.length ≤ 4) (ho : isO "HandoverDesk" M.1 a = true) : EE 82 271 [l0, l1, l2, l3, l4, l5, l6, l7] (.int b0 :: .ref a :: st) M = (FF 60 (.ref a :: [.int b0]) M).bind (fun z => EE 82 274 [l0, l1, l2, l3, l4, l5, l6, l7] (psh z.1 st) z.2) := e_calv (av := [.int b0]) d82_271 c4_22 rfl rfl rfl r82_60 rfl hl ho
theorem d82_274 : decode (cod 82) 274 = .ok (.iload_n 1, 1) := by decide +kernel
theorem s82_274 {M : Mm} {st : List Value} {l0 l2 l3 l4 l5 l6 l7 : Option Value} {x : Int32} : EE 82 274 [l0, some (.int x), l2, l3, l4, l5, l6, l7] st M = EE 82 275 [l0, some (.int x), l2, l3, l4, l5, l6, l7] (.int x :: st) M := e_ld d82_274 rfl rfl rfl rfl rfl rfl
theorem d82_275 : decode (cod 82) 275 = .ok (.if_icmp .ne 46, 3) := by decide +kernel
theorem s82_275 {M : Mm} {st : List Value} {l0 l1 l2 l3 l4 l5 l6 l7 : Option Value} {x y : Int32} : EE 82 275 [l0, l1, l2, l3, l4, l5, l6, l7] (.int y :: .int x :: st) M = if x = y then EE 82 278 [l0, l1, l2, l3, l4, l5, l6, l7] st M else EE 82 321 [l0, l1, l2, l3, l4, l5, l6, l7] st M := e_cne d82_275 (by decide)
theorem d82_278 : decode (cod 82) 278 = .ok (.aload_n 0, 1) := by decide +kernel
theorem s82_278 {M : Mm} {st : List Value} {l1 l2 l3 l4 l5 l6 l7 : Option Value} {x : Nat} : EE 82 278 [some (.ref x), l1, l2, l3, l4, l5, l6, l7] st M = EE 82 279 [some (.ref x), l1, l2, l3, l4, l5, l6, l7] (.ref x :: st) M := e_ld d82_278 rfl rfl rfl rfl rfl rfl
theorem d82_279 : decode (cod 82) 279 = .ok (.iload_n 1, 1) := by decide +kernel
theorem s82_279 {M : Mm} {st : List Value} {l0 l2 l3 l4 l5 l6 l7 : Option Value} {x : Int32} : EE 82 279 [l0, some (.int x), l2, l3, l4, l5, l6, l7] st M = EE 82 280 [l0, some (.int x), l2, l3, l4, l5, l6, l7] (.int x :: st) M := e_ld d82_279 rfl rfl rfl rfl rfl rfl
theorem d82_280 : decode (cod 82) 280 = .ok (.bipush 6, 2) := by decide +kernel
theorem s82_280 {M : Mm} {st : List Value} {l0 l1 l2 l3 l4 l5 l6 l7 : Option Value} : EE 82 280 [l0, l1, l2, l3, l4, l5, l6, l7] st M = EE 82 282 [l0, l1, l2, l3, l4, l5, l6, l7] (.int (nI 6) :: st) M := e_bip d82_280 k_bip_6
theorem d82_282 : decode (cod 82) 282 = .ok (.invokevirtual 19, 3) := by decide +kernel
theorem s82_282 {l0 l1 l2 l3 l4 l5 l6 l7 : Option Value} {a : Nat} {M : Mm} {b0 : Int32} {b1 : Int32} {st : List Value} (hl : st.length ≤ 4) (ho : isO "HandoverDesk" M.1 a = true) : EE 82 282 [l0, l1, l2, l3, l4, l5, l6, l7] (.int b1 :: .int b0 :: .ref a :: st) M = (FF 59 (.ref a :: [.int b0, .int b1]) M).bind (fun z => EE 82 285 [l0, l1, l2, l3, l4, l5, l6, l7] (psh z.1 st) z.2) := e_calv (av := [.int b0, .int b1]) d82_282 c4_19 rfl rfl rfl r82_59 rfl hl ho
theorem d82_285 : decode (cod 82) 285 = .ok (.aload_n 0, 1) := by decide +kernel
theorem s82_285 {M : Mm} {st : List Value} {l1 l2 l3 l4 l5 l6 l7 : Option Value} {x : Nat} : EE 82 285 [some (.ref x), l1, l2, l3, l4, l5, l6, l7] st M = EE 82 286 [some (.ref x), l1, l2, l3, l4, l5, l6, l7] (.ref x :: st) M := e_ld d82_285 rfl rfl rfl rfl rfl rfl
theorem d82_286 : decode (cod 82) 286 = .ok (.iload_n 1, 1) := by decide +kernel
theorem s82_286 {M : Mm} {st : List Value} {l0 l2 l3 l4 l5 l6 l7 : Option Value} {x : Int32} : EE 82 286 [l0, some (.int x), l2, l3, l4, l5, l6, l7] st M = EE 82 287 [l0, some (.int x), l2, l3, l4, l5, l6, l7] (.int x :: st) M := e_ld d82_286 rfl rfl rfl rfl rfl rfl
theorem d82_287 : decode (cod 82) 287 = .ok (.iconst 5, 1) := by decide +kernel
theorem s82_287 {M : Mm} {st : List Value} {l0 l1 l2 l3 l4 l5 l6 l7 : Option Value} : EE 82 287 [l0, l1, l2, l3, l4, l5, l6, l7] st M = EE 82 288 [l0, l1, l2, l3, l4, l5, l6, l7] (.int (nI 5) :: st) M := e_con d82_287 k_con_5
theorem d82_288 : decode (cod 82) 288 = .ok (.invokevirtual 19, 3) := by decide +kernel
theorem s82_288 {l0 l1 l2 l3 l4 l5 l6 l7 : Option Value} {a : Nat} {M : Mm} {b0 : Int32} {b1 : Int32} {st : List Value} (hl : st.length ≤ 4) (ho : isO "HandoverDesk" M.1 a = true) : EE 82 288 [l0, l1, l2, l3, l4, l5, l6, l7] (.int b1 :: .int b0 :: .ref a :: st) M = (FF 59 (.ref a :: [.int b0, .int b1]) M).bind (fun z => EE 82 291 [l0, l1, l2, l3, l4, l5, l6, l7] (psh z.1 st) z.2) := e_calv (av := [.int b0, .int b1]) d82_288 c4_19 rfl rfl rfl r82_59 rfl hl ho
theorem d82_291 : decode (cod 82) 291 = .ok (.if_icmp .gt 30, 3) := by decide +kernel
theorem s82_291 {M : Mm} {st : List Value} {l0 l1 l2 l3 l4 l5 l6 l7 : Option Value} {x y : Int32} : EE 82 291 [l0, l1, l2, l3, l4, l5, l6, l7] (.int y :: .int x :: st) M = if y < x then EE 82 321 [l0, l1, l2, l3, l4, l5, l6, l7] st M else EE 82 294 [l0, l1, l2, l3, l4, l5, l6, l7] st M := e_cgt d82_291 (by decide)
theorem d82_294 : decode (cod 82) 294 = .ok (.aload_n 0, 1) := by decide +kernel
theorem s82_294 {M : Mm} {st : List Value} {l1 l2 l3 l4 l5 l6 l7 : Option Value} {x : Nat} : EE 82 294 [some (.ref x), l1, l2, l3, l4, l5, l6, l7] st M = EE 82 295 [some (.ref x), l1, l2, l3, l4, l5, l6, l7] (.ref x :: st) M := e_ld d82_294 rfl rfl rfl rfl rfl rfl
theorem d82_295 : decode (cod 82) 295 = .ok (.iload_n 1, 1) := by decide +kernel
theorem s82_295 {M : Mm} {st : List Value} {l0 l2 l3 l4 l5 l6 l7 : Option Value} {x : Int32} : EE 82 295 [l0, some (.int x), l2, l3, l4, l5, l6, l7] st M = EE 82 296 [l0, some (.int x), l2, l3, l4, l5, l6, l7] (.int x :: st) M := e_ld d82_295 rfl rfl rfl rfl rfl rfl
theorem d82_296 : decode (cod 82) 296 = .ok (.iconst 4, 1) := by decide +kernel
theorem s82_296 {M : Mm} {st : List Value} {l0 l1 l2 l3 l4 l5 l6 l7 : Option Value} : EE 82 296 [l0, l1, l2, l3, l4, l5, l6, l7] st M = EE 82 297 [l0, l1, l2, l3, l4, l5, l6, l7] (.int (nI 4) :: st) M := e_con d82_296 k_con_4
theorem d82_297 : decode (cod 82) 297 = .ok (.invokevirtual 19, 3) := by decide +kernel
theorem s82_297 {l0 l1 l2 l3 l4 l5 l6 l7 : Option Value} {a : Nat} {M : Mm} {b0 : Int32} {b1 : Int32} {st : List Value} (hl : st.length ≤ 4) (ho : isO "HandoverDesk" M.1 a = true) : EE 82 297 [l0, l1, l2, l3, l4, l5, l6, l7] (.int b1 :: .int b0 :: .ref a :: st) M = (FF 59 (.ref a :: [.int b0, .int b1]) M).bind (fun z => EE 82 300 [l0, l1, l2, l3, l4, l5, l6, l7] (psh z.1 st) z.2) := e_calv (av := [.int b0, .int b1]) d82_297 c4_19 rfl rfl rfl r82_59 rfl hl ho
theorem d82_300 : decode (cod 82) 300 = .ok (.aload_n 0, 1) := by decide +kernel
theorem s82_300 {M : Mm} {st : List Value} {l1 l2 l3 l4 l5 l6 l7 : Option Value} {x : Nat} : EE 82 300 [some (.ref x), l1, l2, l3, l4, l5, l6, l7] st M = EE 82 301 [some (.ref x), l1, l2, l3, l4, l5, l6, l7] (.ref x :: st) M := e_ld d82_300 rfl rfl rfl rfl rfl rfl
theorem d82_301 : decode (cod 82) 301 = .ok (.iload_n 1, 1) := by decide +kernel
theorem s82_301 {M : Mm} {st : List Value} {l0 l2 l3 l4 l5 l6 l7 : Option Value} {x : Int32} : EE 82 301 [l0, some (.int x), l2, l3, l4, l5, l6, l7] st M = EE 82 302 [l0, some (.int x), l2, l3, l4, l5, l6, l7] (.int x :: st) M := e_ld d82_301 rfl rfl rfl rfl rfl rfl
theorem d82_302 : decode (cod 82) 302 = .ok (.bipush 6, 2) := by decide +kernel
theorem s82_302 {M : Mm} {st : List Value} {l0 l1 l2 l3 l4 l5 l6 l7 : Option Value} : EE 82 302 [l0, l1, l2, l3, l4, l5, l6, l7] st M = EE 82 304 [l0, l1, l2, l3, l4, l5, l6, l7] (.int (nI 6) :: st) M := e_bip d82_302 k_bip_6
theorem d82_304 : decode (cod 82) 304 = .ok (.invokevirtual 19, 3) := by decide +kernel
theorem s82_304 {l0 l1 l2 l3 l4 l5 l6 l7 : Option Value} {a : Nat} {M : Mm} {b0 : Int32} {b1 : Int32} {st : List Value} (hl : st.length ≤ 4) (ho : isO "HandoverDesk" M.1 a = true) : EE 82 304 [l0, l1, l2, l3, l4, l5, l6, l7] (.int b1 :: .int b0 :: .ref a :: st) M = (FF 59 (.ref a :: [.int b0, .int b1]) M).bind (fun z => EE 82 307 [l0, l1, l2, l3, l4, l5, l6, l7] (psh z.1 st) z.2) := e_calv (av := [.int b0, .int b1]) d82_304 c4_19 rfl rfl rfl r82_59 rfl hl ho
theorem d82_307 : decode (cod 82) 307 = .ok (.iadd, 1) := by decide +kernel
theorem s82_307 {M : Mm} {st : List Value} {l0 l1 l2 l3 l4 l5 l6 l7 : Option Value} {x y : Int32} : EE 82 307 [l0, l1, l2, l3, l4, l5, l6, l7] (.int y :: .int x :: st) M = EE 82 308 [l0, l1, l2, l3, l4, l5, l6, l7] (.int (x + y) :: st) M := e_II d82_307 rfl rfl rfl rfl rfl rfl
theorem d82_308 : decode (cod 82) 308 = .ok (.aload_n 0, 1) := by decide +kernel
theorem s82_308 {M : Mm} {st : List Value} {l1 l2 l3 l4 l5 l6 l7 : Option Value} {x : Nat} : EE 82 308 [some (.ref x), l1, l2, l3, l4, l5, l6, l7] st M = EE 82 309 [some (.ref x), l1, l2, l3, l4, l5, l6, l7] (.ref x :: st) M := e_ld d82_308 rfl rfl rfl rfl rfl rfl
theorem d82_309 : decode (cod 82) 309 = .ok (.iload_n 1, 1) := by decide +kernel
theorem s82_309 {M : Mm} {st : List Value} {l0 l2 l3 l4 l5 l6 l7 : Option Value} {x : Int32} : EE 82 309 [l0, some (.int x), l2, l3, l4, l5, l6, l7] st M = EE 82 310 [l0, some (.int x), l2, l3, l4, l5, l6, l7] (.int x :: st) M := e_ld d82_309 rfl rfl rfl rfl rfl rfl
theorem d82_310 : decode (cod 82) 310 = .ok (.iconst 5, 1) := by decide +kernel
theorem s82_310 {M : Mm} {st : List Value} {l0 l1 l2 l3 l4 l5 l6 l7 : Option Value} : EE 82 310 [l0, l1, l2, l3, l4, l5, l6, l7] st M = EE 82 311 [l0, l1, l2, l3, l4, l5, l6, l7] (.int (nI 5) :: st) M := e_con d82_310 k_con_5
theorem d82_311 : decode (cod 82) 311 = .ok (.invokevirtual 19, 3) := by decide +kernel
theorem s82_311 {l0 l1 l2 l3 l4 l5 l6 l7 : Option Value} {a : Nat} {M : Mm} {b0 : Int32} {b1 : Int32} {st : List Value} (hl : st.length ≤ 4) (ho : isO "HandoverDesk" M.1 a = true) : EE 82 311 [l0, l1, l2, l3, l4, l5, l6, l7] (.int b1 :: .int b0 :: .ref a :: st) M = (FF 59 (.ref a :: [.int b0, .int b1]) M).bind (fun z => EE 82 314 [l0, l1, l2, l3, l4, l5, l6, l7] (psh z.1 st) z.2) := e_calv (av := [.int b0, .int b1]) d82_311 c4_19 rfl rfl rfl r82_59 rfl hl ho
theorem d82_314 : decode (cod 82) 314 = .ok (.if_icmp .gt 7, 3) := by decide +kernel
theorem s82_314 {M : Mm} {st : List Value} {l0 l1 l2 l3 l4 l5 l6 l7 : Option Value} {x y : Int32} : EE 82 314 [l0, l1, l2, l3, l4, l5, l6, l7] (.int y :: .int x :: st) M = if y < x then EE 82 321 [l0, l1, l2, l3, l4, l5, l6, l7] st M else EE 82 317 [l0, l1, l2, l3, l4, l5, l6, l7] st M := e_cgt d82_314 (by decide)
theorem d82_317 : decode (cod 82) 317 = .ok (.iconst 1, 1) := by decide +kernel
theorem s82_317 {M : Mm} {st : List Value} {l0 l1 l2 l3 l4 l5 l6 l7 : Option Value} : EE 82 317 [l0, l1, l2, l3, l4, l5, l6, l7] st M = EE 82 318 [l0, l1, l2, l3, l4, l5, l6, l7] (.int (nI 1) :: st) M := e_con d82_317 k_con_1
theorem d82_318 : decode (cod 82) 318 = .ok (.goto 4, 3) := by decide +kernel
theorem s82_318 {M : Mm} {st : List Value} {l0 l1 l2 l3 l4 l5 l6 l7 : Option Value} : EE 82 318 [l0, l1, l2, l3, l4, l5, l6, l7] st M = EE 82 322 [l0, l1, l2, l3, l4, l5, l6, l7] st M := e_goto d82_318 (by decide)
theorem d82_321 : decode (cod 82) 321 = .ok (.iconst 0, 1) := by decide +kernel
theorem s82_321 {M : Mm} {st : List Value} {l0 l1 l2 l3 l4 l5 l6 l7 : Option Value} : EE 82 321 [l0, l1, l2, l3, l4, l5, l6, l7] st M = EE 82 322 [l0, l1, l2, l3, l4, l5, l6, l7] (.int (nI 0) :: st) M := e_con d82_321 k_con_0
theorem d82_322 : decode (cod 82) 322 = .ok (.istore 4, 2) := by decide +kernel
theorem s82_322 {M : Mm} {st : List Value} {l0 l1 l2 l3 l4 l5 l6 l7 : Option Value} {x : Int32} : EE 82 322 [l0, l1, l2, l3, l4, l5, l6, l7] (.int x :: st) M = EE 82 324 [l0, l1, l2, cln l3, some (.int x), l5, l6, l7] st M := e_st1 d82_322 rfl rfl rfl rfl rfl rfl rfl (Nat.le_of_ble_eq_true rfl) rfl
theorem d82_324 : decode (cod 82) 324 = .ok (.iload 4, 2) := by decide +kernel
theorem s82_324 {M : Mm} {st : List Value} {l0 l1 l2 l3 l5 l6 l7 : Option Value} {x : Int32} : EE 82 324 [l0, l1, l2, l3, some (.int x), l5, l6, l7] st M = EE 82 326 [l0, l1, l2, l3, some (.int x), l5, l6, l7] (.int x :: st) M := e_ld d82_324 rfl rfl rfl rfl rfl rfl
theorem d82_326 : decode (cod 82) 326 = .ok (.ifCond .eq 53, 3) := by decide +kernel
theorem s82_326 {M : Mm} {st : List Value} {l0 l1 l2 l3 l4 l5 l6 l7 : Option Value} {x : Int32} : EE 82 326 [l0, l1, l2, l3, l4, l5, l6, l7] (.int x :: st) M = if x = 0 then EE 82 379 [l0, l1, l2, l3, l4, l5, l6, l7] st M else EE 82 329 [l0, l1, l2, l3, l4, l5, l6, l7] st M := e_eq0 d82_326 (by decide)
theorem d82_329 : decode (cod 82) 329 = .ok (.aload_n 0, 1) := by decide +kernel
theorem s82_329 {M : Mm} {st : List Value} {l1 l2 l3 l4 l5 l6 l7 : Option Value} {x : Nat} : EE 82 329 [some (.ref x), l1, l2, l3, l4, l5, l6, l7] st M = EE 82 330 [some (.ref x), l1, l2, l3, l4, l5, l6, l7] (.ref x :: st) M := e_ld d82_329 rfl rfl rfl rfl rfl rfl
theorem d82_330 : decode (cod 82) 330 = .ok (.iload_n 1, 1) := by decide +kernel
theorem s82_330 {M : Mm} {st : List Value} {l0 l2 l3 l4 l5 l6 l7 : Option Value} {x : Int32} : EE 82 330 [l0, some (.int x), l2, l3, l4, l5, l6, l7] st M = EE 82 331 [l0, some (.int x), l2, l3, l4, l5, l6, l7] (.int x :: st) M := e_ld d82_330 rfl rfl rfl rfl rfl rfl
theorem d82_331 : decode (cod 82) 331 = .ok (.iconst 5, 1) := by decide +kernel
theorem s82_331 {M : Mm} {st : List Value} {l0 l1 l2 l3 l4 l5 l6 l7 : Option Value} : EE 82 331 [l0, l1, l2, l3, l4, l5, l6, l7] st M = EE 82 332 [l0, l1, l2, l3, l4, l5, l6, l7] (.int (nI 5) :: st) M := e_con d82_331 k_con_5
theorem d82_332 : decode (cod 82) 332 = .ok (.invokevirtual 19, 3) := by decide +kernel
theorem s82_332 {l0 l1 l2 l3 l4 l5 l6 l7 : Option Value} {a : Nat} {M : Mm} {b0 : Int32} {b1 : Int32} {st : List Value} (hl : st.length ≤ 4) (ho : isO "HandoverDesk" M.1 a = true) : EE 82 332 [l0, l1, l2, l3, l4, l5, l6, l7] (.int b1 :: .int b0 :: .ref a :: st) M = (FF 59 (.ref a :: [.int b0, .int b1]) M).bind (fun z => EE 82 335 [l0, l1, l2, l3, l4, l5, l6, l7] (psh z.1 st) z.2) := e_calv (av := [.int b0, .int b1]) d82_332 c4_19 rfl rfl rfl r82_59 rfl hl ho
theorem d82_335 : decode (cod 82) 335 = .ok (.aload_n 0, 1) := by decide +kernel
theorem s82_335 {M : Mm} {st : List Value} {l1 l2 l3 l4 l5 l6 l7 : Option Value} {x : Nat} : EE 82 335 [some (.ref x), l1, l2, l3, l4, l5, l6, l7] st M = EE 82 336 [some (.ref x), l1, l2, l3, l4, l5, l6, l7] (.ref x :: st) M := e_ld d82_335 rfl rfl rfl rfl rfl rfl
theorem d82_336 : decode (cod 82) 336 = .ok (.iconst 0, 1) := by decide +kernel
theorem s82_336 {M : Mm} {st : List Value} {l0 l1 l2 l3 l4 l5 l6 l7 : Option Value} : EE 82 336 [l0, l1, l2, l3, l4, l5, l6, l7] st M = EE 82 337 [l0, l1, l2, l3, l4, l5, l6, l7] (.int (nI 0) :: st) M := e_con d82_336 k_con_0
theorem d82_337 : decode (cod 82) 337 = .ok (.invokevirtual 15, 3) := by decide +kernel
theorem s82_337 {l0 l1 l2 l3 l4 l5 l6 l7 : Option Value} {a : Nat} {M : Mm} {b0 : Int32} {st : List Value} (hl : st.length ≤ 4) (ho : isO "HandoverDesk" M.1 a = true) : EE 82 337 [l0, l1, l2, l3, l4, l5, l6, l7] (.int b0 :: .ref a :: st) M = (FF 61 (.ref a :: [.int b0]) M).bind (fun z => EE 82 340 [l0, l1, l2, l3, l4, l5, l6, l7] (psh z.1 st) z.2) := e_calv (av := [.int b0]) d82_337 c4_15 rfl rfl rfl r82_61 rfl hl ho
theorem d82_340 : decode (cod 82) 340 = .ok (.if_icmp .gt 39, 3) := by decide +kernel
theorem s82_340 {M : Mm} {st : List Value} {l0 l1 l2 l3 l4 l5 l6 l7 : Option Value} {x y : Int32} : EE 82 340 [l0, l1, l2, l3, l4, l5, l6, l7] (.int y :: .int x :: st) M = if y < x then EE 82 379 [l0, l1, l2, l3, l4, l5, l6, l7] st M else EE 82 343 [l0, l1, l2, l3, l4, l5, l6, l7] st M := e_cgt d82_340 (by decide)
theorem d82_343 : decode (cod 82) 343 = .ok (.aload_n 0, 1) := by decide +kernel
theorem s82_343 {M : Mm} {st : List Value} {l1 l2 l3 l4 l5 l6 l7 : Option Value} {x : Nat} : EE 82 343 [some (.ref x), l1, l2, l3, l4, l5, l6, l7] st M = EE 82 344 [some (.ref x), l1, l2, l3, l4, l5, l6, l7] (.ref x :: st) M := e_ld d82_343 rfl rfl rfl rfl rfl rfl
theorem d82_344 : decode (cod 82) 344 = .ok (.iload_n 1, 1) := by decide +kernel
theorem s82_344 {M : Mm} {st : List Value} {l0 l2 l3 l4 l5 l6 l7 : Option Value} {x : Int32} : EE 82 344 [l0, some (.int x), l2, l3, l4, l5, l6, l7] st M = EE 82 345 [l0, some (.int x), l2, l3, l4, l5, l6, l7] (.int x :: st) M := e_ld d82_344 rfl rfl rfl rfl rfl rfl
theorem d82_345 : decode (cod 82) 345 = .ok (.invokevirtual 25, 3) := by decide +kernel
theorem s82_345 {l0 l1 l2 l3 l4 l5 l6 l7 : Option Value} {a : Nat} {M : Mm} {b0 : Int32} {st : List Value} (hl : st.length ≤ 4) (ho : isO "HandoverDesk" M.1 a = true) : EE 82 345 [l0, l1, l2, l3, l4, l5, l6, l7] (.int b0 :: .ref a :: st) M = (FF 64 (.ref a :: [.int b0]) M).bind (fun z => EE 82 348 [l0, l1, l2, l3, l4, l5, l6, l7] (psh z.1 st) z.2) := e_calv (av := [.int b0]) d82_345 c4_25 rfl rfl rfl r82_64 rfl hl ho
theorem d82_348 : decode (cod 82) 348 = .ok (.bipush (-6), 2) := by decide +kernel
theorem s82_348 {M : Mm} {st : List Value} {l0 l1 l2 l3 l4 l5 l6 l7 : Option Value} : EE 82 348 [l0, l1, l2, l3, l4, l5, l6, l7] st M = EE 82 350 [l0, l1, l2, l3, l4, l5, l6, l7] (.int ((-6)) :: st) M := e_bip d82_348 k_bip_m6
theorem d82_350 : decode (cod 82) 350 = .ok (.if_icmp .ne 7, 3) := by decide +kernel
theorem s82_350 {M : Mm} {st : List Value} {l0 l1 l2 l3 l4 l5 l6 l7 : Option Value} {x y : Int32} : EE 82 350 [l0, l1, l2, l3, l4, l5, l6, l7] (.int y :: .int x :: st) M = if x = y then EE 82 353 [l0, l1, l2, l3, l4, l5, l6, l7] st M else EE 82 357 [l0, l1, l2, l3, l4, l5, l6, l7] st M := e_cne d82_350 (by decide)
theorem d82_353 : decode (cod 82) 353 = .ok (.iconst 1, 1) := by decide +kernel
theorem s82_353 {M : Mm} {st : List Value} {l0 l1 l2 l3 l4 l5 l6 l7 : Option Value} : EE 82 353 [l0, l1, l2, l3, l4, l5, l6, l7] st M = EE 82 354 [l0, l1, l2, l3, l4, l5, l6, l7] (.int (nI 1) :: st) M := e_con d82_353 k_con_1
theorem d82_354 : decode (cod 82) 354 = .ok (.goto 4, 3) := by decide +kernel
theorem s82_354 {M : Mm} {st : List Value} {l0 l1 l2 l3 l4 l5 l6 l7 : Option Value} : EE 82 354 [l0, l1, l2, l3, l4, l5, l6, l7] st M = EE 82 358 [l0, l1, l2, l3, l4, l5, l6, l7] st M := e_goto d82_354 (by decide)
theorem d82_357 : decode (cod 82) 357 = .ok (.iconst 0, 1) := by decide +kernel
theorem s82_357 {M : Mm} {st : List Value} {l0 l1 l2 l3 l4 l5 l6 l7 : Option Value} : EE 82 357 [l0, l1, l2, l3, l4, l5, l6, l7] st M = EE 82 358 [l0, l1, l2, l3, l4, l5, l6, l7] (.int (nI 0) :: st) M := e_con d82_357 k_con_0
theorem d82_358 : decode (cod 82) 358 = .ok (.aload_n 0, 1) := by decide +kernel
theorem s82_358 {M : Mm} {st : List Value} {l1 l2 l3 l4 l5 l6 l7 : Option Value} {x : Nat} : EE 82 358 [some (.ref x), l1, l2, l3, l4, l5, l6, l7] st M = EE 82 359 [some (.ref x), l1, l2, l3, l4, l5, l6, l7] (.ref x :: st) M := e_ld d82_358 rfl rfl rfl rfl rfl rfl
theorem d82_359 : decode (cod 82) 359 = .ok (.iload_n 1, 1) := by decide +kernel
theorem s82_359 {M : Mm} {st : List Value} {l0 l2 l3 l4 l5 l6 l7 : Option Value} {x : Int32} : EE 82 359 [l0, some (.int x), l2, l3, l4, l5, l6, l7] st M = EE 82 360 [l0, some (.int x), l2, l3, l4, l5, l6, l7] (.int x :: st) M := e_ld d82_359 rfl rfl rfl rfl rfl rfl
theorem d82_360 : decode (cod 82) 360 = .ok (.iconst 5, 1) := by decide +kernel
theorem s82_360 {M : Mm} {st : List Value} {l0 l1 l2 l3 l4 l5 l6 l7 : Option Value} : EE 82 360 [l0, l1, l2, l3, l4, l5, l6, l7] st M = EE 82 361 [l0, l1, l2, l3, l4, l5, l6, l7] (.int (nI 5) :: st) M := e_con d82_360 k_con_5
theorem d82_361 : decode (cod 82) 361 = .ok (.invokevirtual 19, 3) := by decide +kernel
theorem s82_361 {l0 l1 l2 l3 l4 l5 l6 l7 : Option Value} {a : Nat} {M : Mm} {b0 : Int32} {b1 : Int32} {st : List Value} (hl : st.length ≤ 4) (ho : isO "HandoverDesk" M.1 a = true) : EE 82 361 [l0, l1, l2, l3, l4, l5, l6, l7] (.int b1 :: .int b0 :: .ref a :: st) M = (FF 59 (.ref a :: [.int b0, .int b1]) M).bind (fun z => EE 82 364 [l0, l1, l2, l3, l4, l5, l6, l7] (psh z.1 st) z.2) := e_calv (av := [.int b0, .int b1]) d82_361 c4_19 rfl rfl rfl r82_59 rfl hl ho
theorem d82_364 : decode (cod 82) 364 = .ok (.ifCond .ne 7, 3) := by decide +kernel
theorem s82_364 {M : Mm} {st : List Value} {l0 l1 l2 l3 l4 l5 l6 l7 : Option Value} {x : Int32} : EE 82 364 [l0, l1, l2, l3, l4, l5, l6, l7] (.int x :: st) M = if x = 0 then EE 82 367 [l0, l1, l2, l3, l4, l5, l6, l7] st M else EE 82 371 [l0, l1, l2, l3, l4, l5, l6, l7] st M := e_ne0 d82_364 (by decide)
theorem d82_367 : decode (cod 82) 367 = .ok (.iconst 1, 1) := by decide +kernel
theorem s82_367 {M : Mm} {st : List Value} {l0 l1 l2 l3 l4 l5 l6 l7 : Option Value} : EE 82 367 [l0, l1, l2, l3, l4, l5, l6, l7] st M = EE 82 368 [l0, l1, l2, l3, l4, l5, l6, l7] (.int (nI 1) :: st) M := e_con d82_367 k_con_1
theorem d82_368 : decode (cod 82) 368 = .ok (.goto 4, 3) := by decide +kernel
theorem s82_368 {M : Mm} {st : List Value} {l0 l1 l2 l3 l4 l5 l6 l7 : Option Value} : EE 82 368 [l0, l1, l2, l3, l4, l5, l6, l7] st M = EE 82 372 [l0, l1, l2, l3, l4, l5, l6, l7] st M := e_goto d82_368 (by decide)
theorem d82_371 : decode (cod 82) 371 = .ok (.iconst 0, 1) := by decide +kernel
theorem s82_371 {M : Mm} {st : List Value} {l0 l1 l2 l3 l4 l5 l6 l7 : Option Value} : EE 82 371 [l0, l1, l2, l3, l4, l5, l6, l7] st M = EE 82 372 [l0, l1, l2, l3, l4, l5, l6, l7] (.int (nI 0) :: st) M := e_con d82_371 k_con_0
theorem d82_372 : decode (cod 82) 372 = .ok (.if_icmp .ne 7, 3) := by decide +kernel
theorem s82_372 {M : Mm} {st : List Value} {l0 l1 l2 l3 l4 l5 l6 l7 : Option Value} {x y : Int32} : EE 82 372 [l0, l1, l2, l3, l4, l5, l6, l7] (.int y :: .int x :: st) M = if x = y then EE 82 375 [l0, l1, l2, l3, l4, l5, l6, l7] st M else EE 82 379 [l0, l1, l2, l3, l4, l5, l6, l7] st M := e_cne d82_372 (by decide)
theorem d82_375 : decode (cod 82) 375 = .ok (.iconst 1, 1) := by decide +kernel
theorem s82_375 {M : Mm} {st : List Value} {l0 l1 l2 l3 l4 l5 l6 l7 : Option Value} : EE 82 375 [l0, l1, l2, l3, l4, l5, l6, l7] st M = EE 82 376 [l0, l1, l2, l3, l4, l5, l6, l7] (.int (nI 1) :: st) M := e_con d82_375 k_con_1
theorem d82_376 : decode (cod 82) 376 = .ok (.goto 4, 3) := by decide +kernel
theorem s82_376 {M : Mm} {st : List Value} {l0 l1 l2 l3 l4 l5 l6 l7 : Option Value} : EE 82 376 [l0, l1, l2, l3, l4, l5, l6, l7] st M = EE 82 380 [l0, l1, l2, l3, l4, l5, l6, l7] st M := e_goto d82_376 (by decide)
theorem d82_379 : decode (cod 82) 379 = .ok (.iconst 0, 1) := by decide +kernel
theorem s82_379 {M : Mm} {st : List Value} {l0 l1 l2 l3 l4 l5 l6 l7 : Option Value} : EE 82 379 [l0, l1, l2, l3, l4, l5, l6, l7] st M = EE 82 380 [l0, l1, l2, l3, l4, l5, l6, l7] (.int (nI 0) :: st) M := e_con d82_379 k_con_0
theorem d82_380 : decode (cod 82) 380 = .ok (.ireturn, 1) := by decide +kernel
theorem s82_380 {M : Mm} {l0 l1 l2 l3 l4 l5 l6 l7 : Option Value} {v : Int32} (h : narrow .boolean (.int v) = .int v) : EE 82 380 [l0, l1, l2, l3, l4, l5, l6, l7] [.int v] M = some (some (.int v), M) := e_iret d82_380 rfl h
theorem FE82 {b0 : Nat} {b1 : Int32} {M : Mm} : FF 82 [.ref b0, .int b1] M = EE 82 0 [some (.ref b0), some (.int b1), none, none, none, none, none, none] [] M := FF_eq 82 _ _ (Nat.le_of_ble_eq_true rfl)
