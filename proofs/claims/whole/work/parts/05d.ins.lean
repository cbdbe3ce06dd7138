theorem d41_0 : decode (cod 41) 0 = .ok (.iconst 0, 1) := by decide +kernel
theorem s41_0 {M : Mm} {st : List Value} {l0 l1 l2 l3 : Option Value} : EE 41 0 [l0, l1, l2, l3] st M = EE 41 1 [l0, l1, l2, l3] (.int (nI 0) :: st) M := e_con d41_0 k_con_0
theorem d41_1 : decode (cod 41) 1 = .ok (.istore_n 2, 1) := by decide +kernel
theorem s41_1 {M : Mm} {st : List Value} {l0 l1 l2 l3 : Option Value} {x : Int32} : EE 41 1 [l0, l1, l2, l3] (.int x :: st) M = EE 41 2 [l0, cln l1, some (.int x), l3] st M := e_st1 d41_1 rfl rfl rfl rfl rfl rfl rfl (Nat.le_of_ble_eq_true rfl) rfl
theorem d41_2 : decode (cod 41) 2 = .ok (.iconst 0, 1) := by decide +kernel
theorem s41_2 {M : Mm} {st : List Value} {l0 l1 l2 l3 : Option Value} : EE 41 2 [l0, l1, l2, l3] st M = EE 41 3 [l0, l1, l2, l3] (.int (nI 0) :: st) M := e_con d41_2 k_con_0
theorem d41_3 : decode (cod 41) 3 = .ok (.istore_n 3, 1) := by decide +kernel
theorem s41_3 {M : Mm} {st : List Value} {l0 l1 l2 l3 : Option Value} {x : Int32} : EE 41 3 [l0, l1, l2, l3] (.int x :: st) M = EE 41 4 [l0, l1, cln l2, some (.int x)] st M := e_st1 d41_3 rfl rfl rfl rfl rfl rfl rfl (Nat.le_of_ble_eq_true rfl) rfl
theorem d41_4 : decode (cod 41) 4 = .ok (.iload_n 3, 1) := by decide +kernel
theorem s41_4 {M : Mm} {st : List Value} {l0 l1 l2 : Option Value} {x : Int32} : EE 41 4 [l0, l1, l2, some (.int x)] st M = EE 41 5 [l0, l1, l2, some (.int x)] (.int x :: st) M := e_ld d41_4 rfl rfl rfl rfl rfl rfl
theorem d41_5 : decode (cod 41) 5 = .ok (.aload_n 0, 1) := by decide +kernel
theorem s41_5 {M : Mm} {st : List Value} {l1 l2 l3 : Option Value} {x : Nat} : EE 41 5 [some (.ref x), l1, l2, l3] st M = EE 41 6 [some (.ref x), l1, l2, l3] (.ref x :: st) M := e_ld d41_5 rfl rfl rfl rfl rfl rfl
theorem d41_6 : decode (cod 41) 6 = .ok (.getfield 47, 3) := by decide +kernel
theorem s41_6 {n : Nat} {I : Nat → Nat → Int32} {R : Nat → Nat → Option Nat} {st : List Value} {l0 l1 l2 l3 : Option Value} {a : Nat} : EE 41 6 [l0, l1, l2, l3] (.ref a :: st) (n, I, R) = (gfI n I R 1 8 a).bind (fun z => EE 41 9 [l0, l1, l2, l3] (z :: st) (n, I, R)) := e_getf d41_6 f1_47 rfl rfl
theorem d41_9 : decode (cod 41) 9 = .ok (.if_icmp .ge 26, 3) := by decide +kernel
theorem s41_9 {M : Mm} {st : List Value} {l0 l1 l2 l3 : Option Value} {x y : Int32} : EE 41 9 [l0, l1, l2, l3] (.int y :: .int x :: st) M = if y ≤ x then EE 41 35 [l0, l1, l2, l3] st M else EE 41 12 [l0, l1, l2, l3] st M := e_cge d41_9 (by decide)
theorem d41_12 : decode (cod 41) 12 = .ok (.aload_n 0, 1) := by decide +kernel
theorem s41_12 {M : Mm} {st : List Value} {l1 l2 l3 : Option Value} {x : Nat} : EE 41 12 [some (.ref x), l1, l2, l3] st M = EE 41 13 [some (.ref x), l1, l2, l3] (.ref x :: st) M := e_ld d41_12 rfl rfl rfl rfl rfl rfl
theorem d41_13 : decode (cod 41) 13 = .ok (.iload_n 3, 1) := by decide +kernel
theorem s41_13 {M : Mm} {st : List Value} {l0 l1 l2 : Option Value} {x : Int32} : EE 41 13 [l0, l1, l2, some (.int x)] st M = EE 41 14 [l0, l1, l2, some (.int x)] (.int x :: st) M := e_ld d41_13 rfl rfl rfl rfl rfl rfl
theorem d41_14 : decode (cod 41) 14 = .ok (.invokevirtual 99, 3) := by decide +kernel
theorem s41_14 {l0 l1 l2 l3 : Option Value} {a : Nat} {M : Mm} {b0 : Int32} {st : List Value} (hl : st.length ≤ 4) (ho : isO "HandoverDesk$State" M.1 a = true) : EE 41 14 [l0, l1, l2, l3] (.int b0 :: .ref a :: st) M = (FF 19 (.ref a :: [.int b0]) M).bind (fun z => EE 41 17 [l0, l1, l2, l3] (psh z.1 st) z.2) := e_calv (av := [.int b0]) d41_14 c1_99 rfl rfl rfl r41_19 rfl hl ho
theorem d41_17 : decode (cod 41) 17 = .ok (.ifCond .eq 12, 3) := by decide +kernel
theorem s41_17 {M : Mm} {st : List Value} {l0 l1 l2 l3 : Option Value} {x : Int32} : EE 41 17 [l0, l1, l2, l3] (.int x :: st) M = if x = 0 then EE 41 29 [l0, l1, l2, l3] st M else EE 41 20 [l0, l1, l2, l3] st M := e_eq0 d41_17 (by decide)
theorem d41_20 : decode (cod 41) 20 = .ok (.iload_n 2, 1) := by decide +kernel
theorem s41_20 {M : Mm} {st : List Value} {l0 l1 l3 : Option Value} {x : Int32} : EE 41 20 [l0, l1, some (.int x), l3] st M = EE 41 21 [l0, l1, some (.int x), l3] (.int x :: st) M := e_ld d41_20 rfl rfl rfl rfl rfl rfl
theorem d41_21 : decode (cod 41) 21 = .ok (.aload_n 0, 1) := by decide +kernel
theorem s41_21 {M : Mm} {st : List Value} {l1 l2 l3 : Option Value} {x : Nat} : EE 41 21 [some (.ref x), l1, l2, l3] st M = EE 41 22 [some (.ref x), l1, l2, l3] (.ref x :: st) M := e_ld d41_21 rfl rfl rfl rfl rfl rfl
theorem d41_22 : decode (cod 41) 22 = .ok (.iload_n 1, 1) := by decide +kernel
theorem s41_22 {M : Mm} {st : List Value} {l0 l2 l3 : Option Value} {x : Int32} : EE 41 22 [l0, some (.int x), l2, l3] st M = EE 41 23 [l0, some (.int x), l2, l3] (.int x :: st) M := e_ld d41_22 rfl rfl rfl rfl rfl rfl
theorem d41_23 : decode (cod 41) 23 = .ok (.iload_n 3, 1) := by decide +kernel
theorem s41_23 {M : Mm} {st : List Value} {l0 l1 l2 : Option Value} {x : Int32} : EE 41 23 [l0, l1, l2, some (.int x)] st M = EE 41 24 [l0, l1, l2, some (.int x)] (.int x :: st) M := e_ld d41_23 rfl rfl rfl rfl rfl rfl
theorem d41_24 : decode (cod 41) 24 = .ok (.invokevirtual 88, 3) := by decide +kernel
theorem s41_24 {l0 l1 l2 l3 : Option Value} {a : Nat} {M : Mm} {b0 : Int32} {b1 : Int32} {st : List Value} (hl : st.length ≤ 4) (ho : isO "HandoverDesk$State" M.1 a = true) : EE 41 24 [l0, l1, l2, l3] (.int b1 :: .int b0 :: .ref a :: st) M = (FF 23 (.ref a :: [.int b0, .int b1]) M).bind (fun z => EE 41 27 [l0, l1, l2, l3] (psh z.1 st) z.2) := e_calv (av := [.int b0, .int b1]) d41_24 c1_88 rfl rfl rfl r41_23 rfl hl ho
theorem d41_27 : decode (cod 41) 27 = .ok (.iadd, 1) := by decide +kernel
theorem s41_27 {M : Mm} {st : List Value} {l0 l1 l2 l3 : Option Value} {x y : Int32} : EE 41 27 [l0, l1, l2, l3] (.int y :: .int x :: st) M = EE 41 28 [l0, l1, l2, l3] (.int (x + y) :: st) M := e_II d41_27 rfl rfl rfl rfl rfl rfl
theorem d41_28 : decode (cod 41) 28 = .ok (.istore_n 2, 1) := by decide +kernel
theorem s41_28 {M : Mm} {st : List Value} {l0 l1 l2 l3 : Option Value} {x : Int32} : EE 41 28 [l0, l1, l2, l3] (.int x :: st) M = EE 41 29 [l0, cln l1, some (.int x), l3] st M := e_st1 d41_28 rfl rfl rfl rfl rfl rfl rfl (Nat.le_of_ble_eq_true rfl) rfl
theorem d41_29 : decode (cod 41) 29 = .ok (.iinc 3 1, 3) := by decide +kernel
theorem s41_29 {M : Mm} {st : List Value} {l0 l1 l2 : Option Value} {x : Int32} : EE 41 29 [l0, l1, l2, some (.int x)] st M = EE 41 32 [l0, l1, cln l2, some (.int (x + nI 1))] st M := e_iinc d41_29 rfl (congrArg (fun z => x + z) k_inc_1) rfl
theorem d41_32 : decode (cod 41) 32 = .ok (.goto (-28), 3) := by decide +kernel
theorem s41_32 {M : Mm} {st : List Value} {l0 l1 l2 l3 : Option Value} : EE 41 32 [l0, l1, l2, l3] st M = EE 41 4 [l0, l1, l2, l3] st M := e_goto d41_32 (by decide)
theorem d41_35 : decode (cod 41) 35 = .ok (.iload_n 2, 1) := by decide +kernel
theorem s41_35 {M : Mm} {st : List Value} {l0 l1 l3 : Option Value} {x : Int32} : EE 41 35 [l0, l1, some (.int x), l3] st M = EE 41 36 [l0, l1, some (.int x), l3] (.int x :: st) M := e_ld d41_35 rfl rfl rfl rfl rfl rfl
theorem d41_36 : decode (cod 41) 36 = .ok (.ireturn, 1) := by decide +kernel
theorem s41_36 {M : Mm} {l0 l1 l2 l3 : Option Value} {v : Int32} : EE 41 36 [l0, l1, l2, l3] [.int v] M = some (some (.int v), M) := e_iret d41_36 rfl rfl
theorem FE41 {a : Nat} {b0 : Int32} {M : Mm} : FF 41 [.ref a, .int b0] M = EE 41 0 [some (.ref a), some (.int b0), none, none] [] M := FF_eq 41 _ _ (Nat.le_of_ble_eq_true rfl)
theorem d42_0 : decode (cod 42) 0 = .ok (.iload_n 1, 1) := by decide +kernel
theorem s42_0 {M : Mm} {st : List Value} {l0 l2 : Option Value} {x : Int32} : EE 42 0 [l0, some (.int x), l2] st M = EE 42 1 [l0, some (.int x), l2] (.int x :: st) M := e_ld d42_0 rfl rfl rfl rfl rfl rfl
theorem d42_1 : decode (cod 42) 1 = .ok (.tableswitch 168 99 120 #[124, 168, 168, 168, 168, 168, 168, 168, 116, 132, 157, 168, 103, 168, 168, 146, 168, 168, 168, 168, 168, 108], 103) := by decide +kernel
theorem s42_1_99 {M : Mm} {st : List Value} {l0 l1 l2 : Option Value} : EE 42 1 [l0, l1, l2] (.int (nI 99) :: st) M = EE 42 125 [l0, l1, l2] st M := e_tab d42_1 (by decide +kernel)
theorem s42_1_100 {M : Mm} {st : List Value} {l0 l1 l2 : Option Value} : EE 42 1 [l0, l1, l2] (.int (nI 100) :: st) M = EE 42 169 [l0, l1, l2] st M := e_tab d42_1 (by decide +kernel)
theorem s42_1_101 {M : Mm} {st : List Value} {l0 l1 l2 : Option Value} : EE 42 1 [l0, l1, l2] (.int (nI 101) :: st) M = EE 42 169 [l0, l1, l2] st M := e_tab d42_1 (by decide +kernel)
theorem s42_1_102 {M : Mm} {st : List Value} {l0 l1 l2 : Option Value} : EE 42 1 [l0, l1, l2] (.int (nI 102) :: st) M = EE 42 169 [l0, l1, l2] st M := e_tab d42_1 (by decide +kernel)
theorem s42_1_103 {M : Mm} {st : List Value} {l0 l1 l2 : Option Value} : EE 42 1 [l0, l1, l2] (.int (nI 103) :: st) M = EE 42 169 [l0, l1, l2] st M := e_tab d42_1 (by decide +kernel)
theorem s42_1_104 {M : Mm} {st : List Value} {l0 l1 l2 : Option Value} : EE 42 1 [l0, l1, l2] (.int (nI 104) :: st) M = EE 42 169 [l0, l1, l2] st M := e_tab d42_1 (by decide +kernel)
theorem s42_1_105 {M : Mm} {st : List Value} {l0 l1 l2 : Option Value} : EE 42 1 [l0, l1, l2] (.int (nI 105) :: st) M = EE 42 169 [l0, l1, l2] st M := e_tab d42_1 (by decide +kernel)
theorem s42_1_106 {M : Mm} {st : List Value} {l0 l1 l2 : Option Value} : EE 42 1 [l0, l1, l2] (.int (nI 106) :: st) M = EE 42 169 [l0, l1, l2] st M := e_tab d42_1 (by decide +kernel)
theorem s42_1_107 {M : Mm} {st : List Value} {l0 l1 l2 : Option Value} : EE 42 1 [l0, l1, l2] (.int (nI 107) :: st) M = EE 42 117 [l0, l1, l2] st M := e_tab d42_1 (by decide +kernel)
theorem s42_1_108 {M : Mm} {st : List Value} {l0 l1 l2 : Option Value} : EE 42 1 [l0, l1, l2] (.int (nI 108) :: st) M = EE 42 133 [l0, l1, l2] st M := e_tab d42_1 (by decide +kernel)
theorem s42_1_109 {M : Mm} {st : List Value} {l0 l1 l2 : Option Value} : EE 42 1 [l0, l1, l2] (.int (nI 109) :: st) M = EE 42 158 [l0, l1, l2] st M := e_tab d42_1 (by decide +kernel)
theorem s42_1_110 {M : Mm} {st : List Value} {l0 l1 l2 : Option Value} : EE 42 1 [l0, l1, l2] (.int (nI 110) :: st) M = EE 42 169 [l0, l1, l2] st M := e_tab d42_1 (by decide +kernel)
theorem s42_1_111 {M : Mm} {st : List Value} {l0 l1 l2 : Option Value} : EE 42 1 [l0, l1, l2] (.int (nI 111) :: st) M = EE 42 104 [l0, l1, l2] st M := e_tab d42_1 (by decide +kernel)
theorem s42_1_112 {M : Mm} {st : List Value} {l0 l1 l2 : Option Value} : EE 42 1 [l0, l1, l2] (.int (nI 112) :: st) M = EE 42 169 [l0, l1, l2] st M := e_tab d42_1 (by decide +kernel)
theorem s42_1_113 {M : Mm} {st : List Value} {l0 l1 l2 : Option Value} : EE 42 1 [l0, l1, l2] (.int (nI 113) :: st) M = EE 42 169 [l0, l1, l2] st M := e_tab d42_1 (by decide +kernel)
theorem s42_1_114 {M : Mm} {st : List Value} {l0 l1 l2 : Option Value} : EE 42 1 [l0, l1, l2] (.int (nI 114) :: st) M = EE 42 147 [l0, l1, l2] st M := e_tab d42_1 (by decide +kernel)
theorem s42_1_115 {M : Mm} {st : List Value} {l0 l1 l2 : Option Value} : EE 42 1 [l0, l1, l2] (.int (nI 115) :: st) M = EE 42 169 [l0, l1, l2] st M := e_tab d42_1 (by decide +kernel)
theorem s42_1_116 {M : Mm} {st : List Value} {l0 l1 l2 : Option Value} : EE 42 1 [l0, l1, l2] (.int (nI 116) :: st) M = EE 42 169 [l0, l1, l2] st M := e_tab d42_1 (by decide +kernel)
theorem s42_1_117 {M : Mm} {st : List Value} {l0 l1 l2 : Option Value} : EE 42 1 [l0, l1, l2] (.int (nI 117) :: st) M = EE 42 169 [l0, l1, l2] st M := e_tab d42_1 (by decide +kernel)
theorem s42_1_118 {M : Mm} {st : List Value} {l0 l1 l2 : Option Value} : EE 42 1 [l0, l1, l2] (.int (nI 118) :: st) M = EE 42 169 [l0, l1, l2] st M := e_tab d42_1 (by decide +kernel)
theorem s42_1_119 {M : Mm} {st : List Value} {l0 l1 l2 : Option Value} : EE 42 1 [l0, l1, l2] (.int (nI 119) :: st) M = EE 42 169 [l0, l1, l2] st M := e_tab d42_1 (by decide +kernel)
theorem s42_1_120 {M : Mm} {st : List Value} {l0 l1 l2 : Option Value} : EE 42 1 [l0, l1, l2] (.int (nI 120) :: st) M = EE 42 109 [l0, l1, l2] st M := e_tab d42_1 (by decide +kernel)
theorem s42_1_d {M : Mm} {st : List Value} {l0 l1 l2 : Option Value} {x : Int32} (h : x.toInt < 99 ∨ 120 < x.toInt) : EE 42 1 [l0, l1, l2] (.int x :: st) M = EE 42 169 [l0, l1, l2] st M := e_tab d42_1 (by rw [if_pos h]; decide +kernel)
theorem d42_104 : decode (cod 42) 104 = .ok (.aload_n 0, 1) := by decide +kernel
theorem s42_104 {M : Mm} {st : List Value} {l1 l2 : Option Value} {x : Nat} : EE 42 104 [some (.ref x), l1, l2] st M = EE 42 105 [some (.ref x), l1, l2] (.ref x :: st) M := e_ld d42_104 rfl rfl rfl rfl rfl rfl
theorem d42_105 : decode (cod 42) 105 = .ok (.invokevirtual 161, 3) := by decide +kernel
theorem s42_105 {l0 l1 l2 : Option Value} {a : Nat} {M : Mm} {st : List Value} (hl : st.length ≤ 4) (ho : isO "HandoverDesk$State" M.1 a = true) : EE 42 105 [l0, l1, l2] (.ref a :: st) M = (FF 16 (.ref a :: []) M).bind (fun z => EE 42 108 [l0, l1, l2] (psh z.1 st) z.2) := e_calv (av := []) d42_105 c1_161 rfl rfl rfl r42_16 rfl hl ho
theorem d42_108 : decode (cod 42) 108 = .ok (.ireturn, 1) := by decide +kernel
theorem s42_108 {M : Mm} {l0 l1 l2 : Option Value} {v : Int32} : EE 42 108 [l0, l1, l2] [.int v] M = some (some (.int v), M) := e_iret d42_108 rfl rfl
theorem d42_109 : decode (cod 42) 109 = .ok (.aload_n 0, 1) := by decide +kernel
theorem s42_109 {M : Mm} {st : List Value} {l1 l2 : Option Value} {x : Nat} : EE 42 109 [some (.ref x), l1, l2] st M = EE 42 110 [some (.ref x), l1, l2] (.ref x :: st) M := e_ld d42_109 rfl rfl rfl rfl rfl rfl
theorem d42_110 : decode (cod 42) 110 = .ok (.aload_n 2, 1) := by decide +kernel
theorem s42_110 {M : Mm} {st : List Value} {l0 l1 : Option Value} {x : Nat} : EE 42 110 [l0, l1, some (.ref x)] st M = EE 42 111 [l0, l1, some (.ref x)] (.ref x :: st) M := e_ld d42_110 rfl rfl rfl rfl rfl rfl
theorem d42_111 : decode (cod 42) 111 = .ok (.iconst 0, 1) := by decide +kernel
theorem s42_111 {M : Mm} {st : List Value} {l0 l1 l2 : Option Value} : EE 42 111 [l0, l1, l2] st M = EE 42 112 [l0, l1, l2] (.int (nI 0) :: st) M := e_con d42_111 k_con_0
theorem d42_112 : decode (cod 42) 112 = .ok (.iaload, 1) := by decide +kernel
theorem s42_112 {n : Nat} {I : Nat → Nat → Int32} {R : Nat → Nat → Option Nat} {st : List Value} {l0 l1 l2 : Option Value} {j : Int32} {a : Nat} : EE 42 112 [l0, l1, l2] (.int j :: .ref a :: st) (n, I, R) = (ardI 5 n I a j).bind (fun z => EE 42 113 [l0, l1, l2] (.int z :: st) (n, I, R)) := e_iald d42_112
theorem d42_113 : decode (cod 42) 113 = .ok (.invokevirtual 164, 3) := by decide +kernel
theorem s42_113 {l0 l1 l2 : Option Value} {a : Nat} {M : Mm} {b0 : Int32} {st : List Value} (hl : st.length ≤ 4) (ho : isO "HandoverDesk$State" M.1 a = true) : EE 42 113 [l0, l1, l2] (.int b0 :: .ref a :: st) M = (FF 17 (.ref a :: [.int b0]) M).bind (fun z => EE 42 116 [l0, l1, l2] (psh z.1 st) z.2) := e_calv (av := [.int b0]) d42_113 c1_164 rfl rfl rfl r42_17 rfl hl ho
theorem d42_116 : decode (cod 42) 116 = .ok (.ireturn, 1) := by decide +kernel
theorem s42_116 {M : Mm} {l0 l1 l2 : Option Value} {v : Int32} : EE 42 116 [l0, l1, l2] [.int v] M = some (some (.int v), M) := e_iret d42_116 rfl rfl
theorem d42_117 : decode (cod 42) 117 = .ok (.aload_n 0, 1) := by decide +kernel
theorem s42_117 {M : Mm} {st : List Value} {l1 l2 : Option Value} {x : Nat} : EE 42 117 [some (.ref x), l1, l2] st M = EE 42 118 [some (.ref x), l1, l2] (.ref x :: st) M := e_ld d42_117 rfl rfl rfl rfl rfl rfl
theorem d42_118 : decode (cod 42) 118 = .ok (.aload_n 2, 1) := by decide +kernel
theorem s42_118 {M : Mm} {st : List Value} {l0 l1 : Option Value} {x : Nat} : EE 42 118 [l0, l1, some (.ref x)] st M = EE 42 119 [l0, l1, some (.ref x)] (.ref x :: st) M := e_ld d42_118 rfl rfl rfl rfl rfl rfl
theorem d42_119 : decode (cod 42) 119 = .ok (.iconst 0, 1) := by decide +kernel
theorem s42_119 {M : Mm} {st : List Value} {l0 l1 l2 : Option Value} : EE 42 119 [l0, l1, l2] st M = EE 42 120 [l0, l1, l2] (.int (nI 0) :: st) M := e_con d42_119 k_con_0
theorem d42_120 : decode (cod 42) 120 = .ok (.iaload, 1) := by decide +kernel
theorem s42_120 {n : Nat} {I : Nat → Nat → Int32} {R : Nat → Nat → Option Nat} {st : List Value} {l0 l1 l2 : Option Value} {j : Int32} {a : Nat} : EE 42 120 [l0, l1, l2] (.int j :: .ref a :: st) (n, I, R) = (ardI 5 n I a j).bind (fun z => EE 42 121 [l0, l1, l2] (.int z :: st) (n, I, R)) := e_iald d42_120
theorem d42_121 : decode (cod 42) 121 = .ok (.invokevirtual 167, 3) := by decide +kernel
theorem s42_121 {l0 l1 l2 : Option Value} {a : Nat} {M : Mm} {b0 : Int32} {st : List Value} (hl : st.length ≤ 4) (ho : isO "HandoverDesk$State" M.1 a = true) : EE 42 121 [l0, l1, l2] (.int b0 :: .ref a :: st) M = (FF 20 (.ref a :: [.int b0]) M).bind (fun z => EE 42 124 [l0, l1, l2] (psh z.1 st) z.2) := e_calv (av := [.int b0]) d42_121 c1_167 rfl rfl rfl r42_20 rfl hl ho
theorem d42_124 : decode (cod 42) 124 = .ok (.ireturn, 1) := by decide +kernel
theorem s42_124 {M : Mm} {l0 l1 l2 : Option Value} {v : Int32} : EE 42 124 [l0, l1, l2] [.int v] M = some (some (.int v), M) := e_iret d42_124 rfl rfl
theorem d42_125 : decode (cod 42) 125 = .ok (.aload_n 0, 1) := by decide +kernel
theorem s42_125 {M : Mm} {st : List Value} {l1 l2 : Option Value} {x : Nat} : EE 42 125 [some (.ref x), l1, l2] st M = EE 42 126 [some (.ref x), l1, l2] (.ref x :: st) M := e_ld d42_125 rfl rfl rfl rfl rfl rfl
theorem d42_126 : decode (cod 42) 126 = .ok (.aload_n 2, 1) := by decide +kernel
theorem s42_126 {M : Mm} {st : List Value} {l0 l1 : Option Value} {x : Nat} : EE 42 126 [l0, l1, some (.ref x)] st M = EE 42 127 [l0, l1, some (.ref x)] (.ref x :: st) M := e_ld d42_126 rfl rfl rfl rfl rfl rfl
theorem d42_127 : decode (cod 42) 127 = .ok (.iconst 0, 1) := by decide +kernel
theorem s42_127 {M : Mm} {st : List Value} {l0 l1 l2 : Option Value} : EE 42 127 [l0, l1, l2] st M = EE 42 128 [l0, l1, l2] (.int (nI 0) :: st) M := e_con d42_127 k_con_0
theorem d42_128 : decode (cod 42) 128 = .ok (.iaload, 1) := by decide +kernel
theorem s42_128 {n : Nat} {I : Nat → Nat → Int32} {R : Nat → Nat → Option Nat} {st : List Value} {l0 l1 l2 : Option Value} {j : Int32} {a : Nat} : EE 42 128 [l0, l1, l2] (.int j :: .ref a :: st) (n, I, R) = (ardI 5 n I a j).bind (fun z => EE 42 129 [l0, l1, l2] (.int z :: st) (n, I, R)) := e_iald d42_128
theorem d42_129 : decode (cod 42) 129 = .ok (.invokevirtual 170, 3) := by decide +kernel
theorem s42_129 {l0 l1 l2 : Option Value} {a : Nat} {M : Mm} {b0 : Int32} {st : List Value} (hl : st.length ≤ 4) (ho : isO "HandoverDesk$State" M.1 a = true) : EE 42 129 [l0, l1, l2] (.int b0 :: .ref a :: st) M = (FF 25 (.ref a :: [.int b0]) M).bind (fun z => EE 42 132 [l0, l1, l2] (psh z.1 st) z.2) := e_calv (av := [.int b0]) d42_129 c1_170 rfl rfl rfl r42_25 rfl hl ho
theorem d42_132 : decode (cod 42) 132 = .ok (.ireturn, 1) := by decide +kernel
theorem s42_132 {M : Mm} {l0 l1 l2 : Option Value} {v : Int32} : EE 42 132 [l0, l1, l2] [.int v] M = some (some (.int v), M) := e_iret d42_132 rfl rfl
theorem d42_133 : decode (cod 42) 133 = .ok (.aload_n 0, 1) := by decide +kernel
theorem s42_133 {M : Mm} {st : List Value} {l1 l2 : Option Value} {x : Nat} : EE 42 133 [some (.ref x), l1, l2] st M = EE 42 134 [some (.ref x), l1, l2] (.ref x :: st) M := e_ld d42_133 rfl rfl rfl rfl rfl rfl
theorem d42_134 : decode (cod 42) 134 = .ok (.aload_n 2, 1) := by decide +kernel
theorem s42_134 {M : Mm} {st : List Value} {l0 l1 : Option Value} {x : Nat} : EE 42 134 [l0, l1, some (.ref x)] st M = EE 42 135 [l0, l1, some (.ref x)] (.ref x :: st) M := e_ld d42_134 rfl rfl rfl rfl rfl rfl
theorem d42_135 : decode (cod 42) 135 = .ok (.iconst 0, 1) := by decide +kernel
theorem s42_135 {M : Mm} {st : List Value} {l0 l1 l2 : Option Value} : EE 42 135 [l0, l1, l2] st M = EE 42 136 [l0, l1, l2] (.int (nI 0) :: st) M := e_con d42_135 k_con_0
theorem d42_136 : decode (cod 42) 136 = .ok (.iaload, 1) := by decide +kernel
theorem s42_136 {n : Nat} {I : Nat → Nat → Int32} {R : Nat → Nat → Option Nat} {st : List Value} {l0 l1 l2 : Option Value} {j : Int32} {a : Nat} : EE 42 136 [l0, l1, l2] (.int j :: .ref a :: st) (n, I, R) = (ardI 5 n I a j).bind (fun z => EE 42 137 [l0, l1, l2] (.int z :: st) (n, I, R)) := e_iald d42_136
theorem d42_137 : decode (cod 42) 137 = .ok (.aload_n 2, 1) := by decide +kernel
theorem s42_137 {M : Mm} {st : List Value} {l0 l1 : Option Value} {x : Nat} : EE 42 137 [l0, l1, some (.ref x)] st M = EE 42 138 [l0, l1, some (.ref x)] (.ref x :: st) M := e_ld d42_137 rfl rfl rfl rfl rfl rfl
theorem d42_138 : decode (cod 42) 138 = .ok (.iconst 1, 1) := by decide +kernel
theorem s42_138 {M : Mm} {st : List Value} {l0 l1 l2 : Option Value} : EE 42 138 [l0, l1, l2] st M = EE 42 139 [l0, l1, l2] (.int (nI 1) :: st) M := e_con d42_138 k_con_1
theorem d42_139 : decode (cod 42) 139 = .ok (.iaload, 1) := by decide +kernel
theorem s42_139 {n : Nat} {I : Nat → Nat → Int32} {R : Nat → Nat → Option Nat} {st : List Value} {l0 l1 l2 : Option Value} {j : Int32} {a : Nat} : EE 42 139 [l0, l1, l2] (.int j :: .ref a :: st) (n, I, R) = (ardI 5 n I a j).bind (fun z => EE 42 140 [l0, l1, l2] (.int z :: st) (n, I, R)) := e_iald d42_139
theorem d42_140 : decode (cod 42) 140 = .ok (.aload_n 2, 1) := by decide +kernel
theorem s42_140 {M : Mm} {st : List Value} {l0 l1 : Option Value} {x : Nat} : EE 42 140 [l0, l1, some (.ref x)] st M = EE 42 141 [l0, l1, some (.ref x)] (.ref x :: st) M := e_ld d42_140 rfl rfl rfl rfl rfl rfl
theorem d42_141 : decode (cod 42) 141 = .ok (.iconst 2, 1) := by decide +kernel
theorem s42_141 {M : Mm} {st : List Value} {l0 l1 l2 : Option Value} : EE 42 141 [l0, l1, l2] st M = EE 42 142 [l0, l1, l2] (.int (nI 2) :: st) M := e_con d42_141 k_con_2
theorem d42_142 : decode (cod 42) 142 = .ok (.iaload, 1) := by decide +kernel
theorem s42_142 {n : Nat} {I : Nat → Nat → Int32} {R : Nat → Nat → Option Nat} {st : List Value} {l0 l1 l2 : Option Value} {j : Int32} {a : Nat} : EE 42 142 [l0, l1, l2] (.int j :: .ref a :: st) (n, I, R) = (ardI 5 n I a j).bind (fun z => EE 42 143 [l0, l1, l2] (.int z :: st) (n, I, R)) := e_iald d42_142
theorem d42_143 : decode (cod 42) 143 = .ok (.invokevirtual 173, 3) := by decide +kernel
theorem s42_143 {l0 l1 l2 : Option Value} {a : Nat} {M : Mm} {b0 : Int32} {b1 : Int32} {b2 : Int32} {st : List Value} (hl : st.length ≤ 4) (ho : isO "HandoverDesk$State" M.1 a = true) : EE 42 143 [l0, l1, l2] (.int b2 :: .int b1 :: .int b0 :: .ref a :: st) M = (FF 22 (.ref a :: [.int b0, .int b1, .int b2]) M).bind (fun z => EE 42 146 [l0, l1, l2] (psh z.1 st) z.2) := e_calv (av := [.int b0, .int b1, .int b2]) d42_143 c1_173 rfl rfl rfl r42_22 rfl hl ho
theorem d42_146 : decode (cod 42) 146 = .ok (.ireturn, 1) := by decide +kernel
theorem s42_146 {M : Mm} {l0 l1 l2 : Option Value} {v : Int32} : EE 42 146 [l0, l1, l2] [.int v] M = some (some (.int v), M) := e_iret d42_146 rfl rfl
theorem d42_147 : decode (cod 42) 147 = .ok (.aload_n 0, 1) := by decide +kernel
theorem s42_147 {M : Mm} {st : List Value} {l1 l2 : Option Value} {x : Nat} : EE 42 147 [some (.ref x), l1, l2] st M = EE 42 148 [some (.ref x), l1, l2] (.ref x :: st) M := e_ld d42_147 rfl rfl rfl rfl rfl rfl
theorem d42_148 : decode (cod 42) 148 = .ok (.aload_n 2, 1) := by decide +kernel
theorem s42_148 {M : Mm} {st : List Value} {l0 l1 : Option Value} {x : Nat} : EE 42 148 [l0, l1, some (.ref x)] st M = EE 42 149 [l0, l1, some (.ref x)] (.ref x :: st) M := e_ld d42_148 rfl rfl rfl rfl rfl rfl
theorem d42_149 : decode (cod 42) 149 = .ok (.iconst 0, 1) := by decide +kernel
theorem s42_149 {M : Mm} {st : List Value} {l0 l1 l2 : Option Value} : EE 42 149 [l0, l1, l2] st M = EE 42 150 [l0, l1, l2] (.int (nI 0) :: st) M := e_con d42_149 k_con_0
theorem d42_150 : decode (cod 42) 150 = .ok (.iaload, 1) := by decide +kernel
theorem s42_150 {n : Nat} {I : Nat → Nat → Int32} {R : Nat → Nat → Option Nat} {st : List Value} {l0 l1 l2 : Option Value} {j : Int32} {a : Nat} : EE 42 150 [l0, l1, l2] (.int j :: .ref a :: st) (n, I, R) = (ardI 5 n I a j).bind (fun z => EE 42 151 [l0, l1, l2] (.int z :: st) (n, I, R)) := e_iald d42_150
theorem d42_151 : decode (cod 42) 151 = .ok (.aload_n 2, 1) := by decide +kernel
theorem s42_151 {M : Mm} {st : List Value} {l0 l1 : Option Value} {x : Nat} : EE 42 151 [l0, l1, some (.ref x)] st M = EE 42 152 [l0, l1, some (.ref x)] (.ref x :: st) M := e_ld d42_151 rfl rfl rfl rfl rfl rfl
theorem d42_152 : decode (cod 42) 152 = .ok (.iconst 1, 1) := by decide +kernel
theorem s42_152 {M : Mm} {st : List Value} {l0 l1 l2 : Option Value} : EE 42 152 [l0, l1, l2] st M = EE 42 153 [l0, l1, l2] (.int (nI 1) :: st) M := e_con d42_152 k_con_1
theorem d42_153 : decode (cod 42) 153 = .ok (.iaload, 1) := by decide +kernel
theorem s42_153 {n : Nat} {I : Nat → Nat → Int32} {R : Nat → Nat → Option Nat} {st : List Value} {l0 l1 l2 : Option Value} {j : Int32} {a : Nat} : EE 42 153 [l0, l1, l2] (.int j :: .ref a :: st) (n, I, R) = (ardI 5 n I a j).bind (fun z => EE 42 154 [l0, l1, l2] (.int z :: st) (n, I, R)) := e_iald d42_153
theorem d42_154 : decode (cod 42) 154 = .ok (.invokevirtual 177, 3) := by decide +kernel
theorem s42_154 {l0 l1 l2 : Option Value} {a : Nat} {M : Mm} {b0 : Int32} {b1 : Int32} {st : List Value} (hl : st.length ≤ 4) (ho : isO "HandoverDesk$State" M.1 a = true) : EE 42 154 [l0, l1, l2] (.int b1 :: .int b0 :: .ref a :: st) M = (FF 14 (.ref a :: [.int b0, .int b1]) M).bind (fun z => EE 42 157 [l0, l1, l2] (psh z.1 st) z.2) := e_calv (av := [.int b0, .int b1]) d42_154 c1_177 rfl rfl rfl r42_14 rfl hl ho
theorem d42_157 : decode (cod 42) 157 = .ok (.ireturn, 1) := by decide +kernel
theorem s42_157 {M : Mm} {l0 l1 l2 : Option Value} {v : Int32} : EE 42 157 [l0, l1, l2] [.int v] M = some (some (.int v), M) := e_iret d42_157 rfl rfl
theorem d42_158 : decode (cod 42) 158 = .ok (.aload_n 0, 1) := by decide +kernel
theorem s42_158 {M : Mm} {st : List Value} {l1 l2 : Option Value} {x : Nat} : EE 42 158 [some (.ref x), l1, l2] st M = EE 42 159 [some (.ref x), l1, l2] (.ref x :: st) M := e_ld d42_158 rfl rfl rfl rfl rfl rfl
theorem d42_159 : decode (cod 42) 159 = .ok (.aload_n 2, 1) := by decide +kernel
theorem s42_159 {M : Mm} {st : List Value} {l0 l1 : Option Value} {x : Nat} : EE 42 159 [l0, l1, some (.ref x)] st M = EE 42 160 [l0, l1, some (.ref x)] (.ref x :: st) M := e_ld d42_159 rfl rfl rfl rfl rfl rfl
theorem d42_160 : decode (cod 42) 160 = .ok (.iconst 0, 1) := by decide +kernel
theorem s42_160 {M : Mm} {st : List Value} {l0 l1 l2 : Option Value} : EE 42 160 [l0, l1, l2] st M = EE 42 161 [l0, l1, l2] (.int (nI 0) :: st) M := e_con d42_160 k_con_0
theorem d42_161 : decode (cod 42) 161 = .ok (.iaload, 1) := by decide +kernel
theorem s42_161 {n : Nat} {I : Nat → Nat → Int32} {R : Nat → Nat → Option Nat} {st : List Value} {l0 l1 l2 : Option Value} {j : Int32} {a : Nat} : EE 42 161 [l0, l1, l2] (.int j :: .ref a :: st) (n, I, R) = (ardI 5 n I a j).bind (fun z => EE 42 162 [l0, l1, l2] (.int z :: st) (n, I, R)) := e_iald d42_161
theorem d42_162 : decode (cod 42) 162 = .ok (.aload_n 2, 1) := by decide +kernel
theorem s42_162 {M : Mm} {st : List Value} {l0 l1 : Option Value} {x : Nat} : EE 42 162 [l0, l1, some (.ref x)] st M = EE 42 163 [l0, l1, some (.ref x)] (.ref x :: st) M := e_ld d42_162 rfl rfl rfl rfl rfl rfl
theorem d42_163 : decode (cod 42) 163 = .ok (.iconst 1, 1) := by decide +kernel
theorem s42_163 {M : Mm} {st : List Value} {l0 l1 l2 : Option Value} : EE 42 163 [l0, l1, l2] st M = EE 42 164 [l0, l1, l2] (.int (nI 1) :: st) M := e_con d42_163 k_con_1
theorem d42_164 : decode (cod 42) 164 = .ok (.iaload, 1) := by decide +kernel
theorem s42_164 {n : Nat} {I : Nat → Nat → Int32} {R : Nat → Nat → Option Nat} {st : List Value} {l0 l1 l2 : Option Value} {j : Int32} {a : Nat} : EE 42 164 [l0, l1, l2] (.int j :: .ref a :: st) (n, I, R) = (ardI 5 n I a j).bind (fun z => EE 42 165 [l0, l1, l2] (.int z :: st) (n, I, R)) := e_iald d42_164
theorem d42_165 : decode (cod 42) 165 = .ok (.invokevirtual 180, 3) := by decide +kernel
theorem s42_165 {l0 l1 l2 : Option Value} {a : Nat} {M : Mm} {b0 : Int32} {b1 : Int32} {st : List Value} (hl : st.length ≤ 4) (ho : isO "HandoverDesk$State" M.1 a = true) : EE 42 165 [l0, l1, l2] (.int b1 :: .int b0 :: .ref a :: st) M = (FF 15 (.ref a :: [.int b0, .int b1]) M).bind (fun z => EE 42 168 [l0, l1, l2] (psh z.1 st) z.2) := e_calv (av := [.int b0, .int b1]) d42_165 c1_180 rfl rfl rfl r42_15 rfl hl ho
theorem d42_168 : decode (cod 42) 168 = .ok (.ireturn, 1) := by decide +kernel
theorem s42_168 {M : Mm} {l0 l1 l2 : Option Value} {v : Int32} : EE 42 168 [l0, l1, l2] [.int v] M = some (some (.int v), M) := e_iret d42_168 rfl rfl
theorem d42_169 : decode (cod 42) 169 = .ok (.aload_n 0, 1) := by decide +kernel
theorem s42_169 {M : Mm} {st : List Value} {l1 l2 : Option Value} {x : Nat} : EE 42 169 [some (.ref x), l1, l2] st M = EE 42 170 [some (.ref x), l1, l2] (.ref x :: st) M := e_ld d42_169 rfl rfl rfl rfl rfl rfl
theorem d42_170 : decode (cod 42) 170 = .ok (.aload_n 0, 1) := by decide +kernel
theorem s42_170 {M : Mm} {st : List Value} {l1 l2 : Option Value} {x : Nat} : EE 42 170 [some (.ref x), l1, l2] st M = EE 42 171 [some (.ref x), l1, l2] (.ref x :: st) M := e_ld d42_170 rfl rfl rfl rfl rfl rfl
theorem d42_171 : decode (cod 42) 171 = .ok (.invokevirtual 183, 3) := by decide +kernel
theorem s42_171 {l0 l1 l2 : Option Value} {a : Nat} {M : Mm} {st : List Value} (hl : st.length ≤ 4) (ho : isO "HandoverDesk$State" M.1 a = true) : EE 42 171 [l0, l1, l2] (.ref a :: st) M = (FF 28 (.ref a :: []) M).bind (fun z => EE 42 174 [l0, l1, l2] (psh z.1 st) z.2) := e_calv (av := []) d42_171 c1_183 rfl rfl rfl r42_28 rfl hl ho
theorem d42_174 : decode (cod 42) 174 = .ok (.invokevirtual 186, 3) := by decide +kernel
theorem s42_174 {l0 l1 l2 : Option Value} {a : Nat} {M : Mm} {b0 : Int32} {st : List Value} (hl : st.length ≤ 4) (ho : isO "HandoverDesk$State" M.1 a = true) : EE 42 174 [l0, l1, l2] (.int b0 :: .ref a :: st) M = (FF 29 (.ref a :: [.int b0]) M).bind (fun z => EE 42 177 [l0, l1, l2] (psh z.1 st) z.2) := e_calv (av := [.int b0]) d42_174 c1_186 rfl rfl rfl r42_29 rfl hl ho
theorem d42_177 : decode (cod 42) 177 = .ok (.ireturn, 1) := by decide +kernel
theorem s42_177 {M : Mm} {l0 l1 l2 : Option Value} {v : Int32} : EE 42 177 [l0, l1, l2] [.int v] M = some (some (.int v), M) := e_iret d42_177 rfl rfl
theorem FE42 {a : Nat} {b0 : Int32} {b1 : Nat} {M : Mm} : FF 42 [.ref a, .int b0, .ref b1] M = EE 42 0 [some (.ref a), some (.int b0), some (.ref b1)] [] M := FF_eq 42 _ _ (Nat.le_of_ble_eq_true rfl)
theorem d43_0 : decode (cod 43) 0 = .ok (.aload_n 0, 1) := by decide +kernel
theorem s43_0 {M : Mm} {st : List Value} {l1 : Option Value} {x : Nat} : EE 43 0 [some (.ref x), l1] st M = EE 43 1 [some (.ref x), l1] (.ref x :: st) M := e_ld d43_0 rfl rfl rfl rfl rfl rfl
theorem d43_1 : decode (cod 43) 1 = .ok (.invokespecial 3, 3) := by decide +kernel
theorem s43_1 {M : Mm} {l0 l1 : Option Value} {a : Nat} {st : List Value} (hl : st.length ≤ 4) : EE 43 1 [l0, l1] (.ref a :: st) M = EE 43 4 [l0, l1] st M := e_oin d43_1 t2_3 t2_3n (by decide) hl
theorem d43_4 : decode (cod 43) 4 = .ok (.aload_n 0, 1) := by decide +kernel
theorem s43_4 {M : Mm} {st : List Value} {l1 : Option Value} {x : Nat} : EE 43 4 [some (.ref x), l1] st M = EE 43 5 [some (.ref x), l1] (.ref x :: st) M := e_ld d43_4 rfl rfl rfl rfl rfl rfl
theorem d43_5 : decode (cod 43) 5 = .ok (.new 9, 3) := by decide +kernel
theorem s43_5 {M : Mm} {st : List Value} {l0 l1 : Option Value} (h : M.1 < 210 ∧ kd (adr M.1) = 2) : EE 43 5 [l0, l1] st M = EE 43 8 [l0, l1] (.ref (adr M.1) :: st) (bn M) := e_new d43_5 n2_9 h
theorem d43_8 : decode (cod 43) 8 = .ok (.dup, 1) := by decide +kernel
theorem s43_8i {M : Mm} {st : List Value} {l0 l1 : Option Value} {x : Int32} : EE 43 8 [l0, l1] (.int x :: st) M = EE 43 9 [l0, l1] (.int x :: .int x :: st) M := e_dup d43_8 rfl
theorem s43_8r {M : Mm} {st : List Value} {l0 l1 : Option Value} {x : Nat} : EE 43 8 [l0, l1] (.ref x :: st) M = EE 43 9 [l0, l1] (.ref x :: .ref x :: st) M := e_dup d43_8 rfl
theorem d43_9 : decode (cod 43) 9 = .ok (.invokespecial 11, 3) := by decide +kernel
theorem s43_9 {l0 l1 : Option Value} {a : Nat} {M M' : Mm} {st : List Value} (hl : st.length ≤ 4) (hF : FF 11 [.ref a] M = some (none, M')) : EE 43 9 [l0, l1] (.ref a :: st) M = EE 43 12 [l0, l1] st M' := e_cali d43_9 c2_11 rfl rfl rfl r43_11 hl hF
theorem d43_12 : decode (cod 43) 12 = .ok (.putfield 12, 3) := by decide +kernel
theorem s43_12 {n : Nat} {I : Nat → Nat → Int32} {R : Nat → Nat → Option Nat} {st : List Value} {l0 l1 : Option Value} {a : Nat} {v : Value} : EE 43 12 [l0, l1] (v :: .ref a :: st) (n, I, R) = (pfI n I R 2 0 a v).bind (fun z => EE 43 15 [l0, l1] st (n, z.1, z.2)) := e_putf d43_12 f2_12 rfl rfl (Or.inr rfl)
theorem d43_15 : decode (cod 43) 15 = .ok (.aload_n 0, 1) := by decide +kernel
theorem s43_15 {M : Mm} {st : List Value} {l1 : Option Value} {x : Nat} : EE 43 15 [some (.ref x), l1] st M = EE 43 16 [some (.ref x), l1] (.ref x :: st) M := e_ld d43_15 rfl rfl rfl rfl rfl rfl
theorem d43_16 : decode (cod 43) 16 = .ok (.new 9, 3) := by decide +kernel
theorem s43_16 {M : Mm} {st : List Value} {l0 l1 : Option Value} (h : M.1 < 210 ∧ kd (adr M.1) = 2) : EE 43 16 [l0, l1] st M = EE 43 19 [l0, l1] (.ref (adr M.1) :: st) (bn M) := e_new d43_16 n2_9 h
theorem d43_19 : decode (cod 43) 19 = .ok (.dup, 1) := by decide +kernel
theorem s43_19i {M : Mm} {st : List Value} {l0 l1 : Option Value} {x : Int32} : EE 43 19 [l0, l1] (.int x :: st) M = EE 43 20 [l0, l1] (.int x :: .int x :: st) M := e_dup d43_19 rfl
theorem s43_19r {M : Mm} {st : List Value} {l0 l1 : Option Value} {x : Nat} : EE 43 19 [l0, l1] (.ref x :: st) M = EE 43 20 [l0, l1] (.ref x :: .ref x :: st) M := e_dup d43_19 rfl
theorem d43_20 : decode (cod 43) 20 = .ok (.invokespecial 11, 3) := by decide +kernel
theorem s43_20 {l0 l1 : Option Value} {a : Nat} {M M' : Mm} {st : List Value} (hl : st.length ≤ 4) (hF : FF 11 [.ref a] M = some (none, M')) : EE 43 20 [l0, l1] (.ref a :: st) M = EE 43 23 [l0, l1] st M' := e_cali d43_20 c2_11 rfl rfl rfl r43_11 hl hF
theorem d43_23 : decode (cod 43) 23 = .ok (.putfield 16, 3) := by decide +kernel
theorem s43_23 {n : Nat} {I : Nat → Nat → Int32} {R : Nat → Nat → Option Nat} {st : List Value} {l0 l1 : Option Value} {a : Nat} {v : Value} : EE 43 23 [l0, l1] (v :: .ref a :: st) (n, I, R) = (pfI n I R 2 1 a v).bind (fun z => EE 43 26 [l0, l1] st (n, z.1, z.2)) := e_putf d43_23 f2_16 rfl rfl (Or.inr rfl)
theorem d43_26 : decode (cod 43) 26 = .ok (.aload_n 0, 1) := by decide +kernel
theorem s43_26 {M : Mm} {st : List Value} {l1 : Option Value} {x : Nat} : EE 43 26 [some (.ref x), l1] st M = EE 43 27 [some (.ref x), l1] (.ref x :: st) M := e_ld d43_26 rfl rfl rfl rfl rfl rfl
theorem d43_27 : decode (cod 43) 27 = .ok (.bipush 6, 2) := by decide +kernel
theorem s43_27 {M : Mm} {st : List Value} {l0 l1 : Option Value} : EE 43 27 [l0, l1] st M = EE 43 29 [l0, l1] (.int (nI 6) :: st) M := e_bip d43_27 k_bip_6
theorem d43_29 : decode (cod 43) 29 = .ok (.anewarray 9, 3) := by decide +kernel
theorem s43_29 {st : List Value} {l0 l1 : Option Value} {w : Int32} {M : Mm} (h : M.1 < 210 ∧ kd (adr M.1) = 8 ∧ ¬ w < 0 ∧ w.toNatClampNeg = ln (adr M.1)) : EE 43 29 [l0, l1] (.int w :: st) M = EE 43 32 [l0, l1] (.ref (adr M.1) :: st) (bn M) := e_anew d43_29 ⟨rfl, h⟩
theorem d43_32 : decode (cod 43) 32 = .ok (.putfield 19, 3) := by decide +kernel
theorem s43_32 {n : Nat} {I : Nat → Nat → Int32} {R : Nat → Nat → Option Nat} {st : List Value} {l0 l1 : Option Value} {a : Nat} {v : Value} : EE 43 32 [l0, l1] (v :: .ref a :: st) (n, I, R) = (pfI n I R 2 2 a v).bind (fun z => EE 43 35 [l0, l1] st (n, z.1, z.2)) := e_putf d43_32 f2_19 rfl rfl (Or.inl ⟨rfl, Or.inl rfl⟩)
theorem d43_35 : decode (cod 43) 35 = .ok (.iconst 0, 1) := by decide +kernel
theorem s43_35 {M : Mm} {st : List Value} {l0 l1 : Option Value} : EE 43 35 [l0, l1] st M = EE 43 36 [l0, l1] (.int (nI 0) :: st) M := e_con d43_35 k_con_0
theorem d43_36 : decode (cod 43) 36 = .ok (.istore_n 1, 1) := by decide +kernel
theorem s43_36 {M : Mm} {st : List Value} {l0 l1 : Option Value} {x : Int32} : EE 43 36 [l0, l1] (.int x :: st) M = EE 43 37 [cln l0, some (.int x)] st M := e_st1 d43_36 rfl rfl rfl rfl rfl rfl rfl (Nat.le_of_ble_eq_true rfl) rfl
theorem d43_37 : decode (cod 43) 37 = .ok (.iload_n 1, 1) := by decide +kernel
theorem s43_37 {M : Mm} {st : List Value} {l0 : Option Value} {x : Int32} : EE 43 37 [l0, some (.int x)] st M = EE 43 38 [l0, some (.int x)] (.int x :: st) M := e_ld d43_37 rfl rfl rfl rfl rfl rfl
theorem d43_38 : decode (cod 43) 38 = .ok (.bipush 6, 2) := by decide +kernel
theorem s43_38 {M : Mm} {st : List Value} {l0 l1 : Option Value} : EE 43 38 [l0, l1] st M = EE 43 40 [l0, l1] (.int (nI 6) :: st) M := e_bip d43_38 k_bip_6
theorem d43_40 : decode (cod 43) 40 = .ok (.if_icmp .ge 22, 3) := by decide +kernel
theorem s43_40 {M : Mm} {st : List Value} {l0 l1 : Option Value} {x y : Int32} : EE 43 40 [l0, l1] (.int y :: .int x :: st) M = if y ≤ x then EE 43 62 [l0, l1] st M else EE 43 43 [l0, l1] st M := e_cge d43_40 (by decide)
theorem d43_43 : decode (cod 43) 43 = .ok (.aload_n 0, 1) := by decide +kernel
theorem s43_43 {M : Mm} {st : List Value} {l1 : Option Value} {x : Nat} : EE 43 43 [some (.ref x), l1] st M = EE 43 44 [some (.ref x), l1] (.ref x :: st) M := e_ld d43_43 rfl rfl rfl rfl rfl rfl
theorem d43_44 : decode (cod 43) 44 = .ok (.getfield 19, 3) := by decide +kernel
theorem s43_44 {n : Nat} {I : Nat → Nat → Int32} {R : Nat → Nat → Option Nat} {st : List Value} {l0 l1 : Option Value} {a : Nat} : EE 43 44 [l0, l1] (.ref a :: st) (n, I, R) = (gfI n I R 2 2 a).bind (fun z => EE 43 47 [l0, l1] (z :: st) (n, I, R)) := e_getf d43_44 f2_19 rfl rfl
theorem d43_47 : decode (cod 43) 47 = .ok (.iload_n 1, 1) := by decide +kernel
theorem s43_47 {M : Mm} {st : List Value} {l0 : Option Value} {x : Int32} : EE 43 47 [l0, some (.int x)] st M = EE 43 48 [l0, some (.int x)] (.int x :: st) M := e_ld d43_47 rfl rfl rfl rfl rfl rfl
theorem d43_48 : decode (cod 43) 48 = .ok (.new 9, 3) := by decide +kernel
theorem s43_48 {M : Mm} {st : List Value} {l0 l1 : Option Value} (h : M.1 < 210 ∧ kd (adr M.1) = 2) : EE 43 48 [l0, l1] st M = EE 43 51 [l0, l1] (.ref (adr M.1) :: st) (bn M) := e_new d43_48 n2_9 h
theorem d43_51 : decode (cod 43) 51 = .ok (.dup, 1) := by decide +kernel
theorem s43_51i {M : Mm} {st : List Value} {l0 l1 : Option Value} {x : Int32} : EE 43 51 [l0, l1] (.int x :: st) M = EE 43 52 [l0, l1] (.int x :: .int x :: st) M := e_dup d43_51 rfl
theorem s43_51r {M : Mm} {st : List Value} {l0 l1 : Option Value} {x : Nat} : EE 43 51 [l0, l1] (.ref x :: st) M = EE 43 52 [l0, l1] (.ref x :: .ref x :: st) M := e_dup d43_51 rfl
theorem d43_52 : decode (cod 43) 52 = .ok (.invokespecial 11, 3) := by decide +kernel
theorem s43_52 {l0 l1 : Option Value} {a : Nat} {M M' : Mm} {st : List Value} (hl : st.length ≤ 4) (hF : FF 11 [.ref a] M = some (none, M')) : EE 43 52 [l0, l1] (.ref a :: st) M = EE 43 55 [l0, l1] st M' := e_cali d43_52 c2_11 rfl rfl rfl r43_11 hl hF
theorem d43_55 : decode (cod 43) 55 = .ok (.aastore, 1) := by decide +kernel
theorem s43_55 {n : Nat} {I : Nat → Nat → Int32} {R : Nat → Nat → Option Nat} {st : List Value} {l0 l1 : Option Value} {j : Int32} {a b : Nat} (h : kd a = 8 ∧ a < 1000 ∧ pos a < n ∧ inb j (ln a) ∧ kd b = 2 ∧ b < 1000 ∧ pos b < n) : EE 43 55 [l0, l1] (.ref b :: .int j :: .ref a :: st) (n, I, R) = EE 43 56 [l0, l1] st (n, I, wR R a j.toNatClampNeg (some b)) := e_aast d43_55 h
theorem d43_56 : decode (cod 43) 56 = .ok (.iinc 1 1, 3) := by decide +kernel
theorem s43_56 {M : Mm} {st : List Value} {l0 : Option Value} {x : Int32} : EE 43 56 [l0, some (.int x)] st M = EE 43 59 [cln l0, some (.int (x + nI 1))] st M := e_iinc d43_56 rfl (congrArg (fun z => x + z) k_inc_1) rfl
theorem d43_59 : decode (cod 43) 59 = .ok (.goto (-22), 3) := by decide +kernel
theorem s43_59 {M : Mm} {st : List Value} {l0 l1 : Option Value} : EE 43 59 [l0, l1] st M = EE 43 37 [l0, l1] st M := e_goto d43_59 (by decide)
theorem d43_62 : decode (cod 43) 62 = .ok (.aload_n 0, 1) := by decide +kernel
theorem s43_62 {M : Mm} {st : List Value} {l1 : Option Value} {x : Nat} : EE 43 62 [some (.ref x), l1] st M = EE 43 63 [some (.ref x), l1] (.ref x :: st) M := e_ld d43_62 rfl rfl rfl rfl rfl rfl
theorem d43_63 : decode (cod 43) 63 = .ok (.iconst 2, 1) := by decide +kernel
theorem s43_63 {M : Mm} {st : List Value} {l0 l1 : Option Value} : EE 43 63 [l0, l1] st M = EE 43 64 [l0, l1] (.int (nI 2) :: st) M := e_con d43_63 k_con_2
theorem d43_64 : decode (cod 43) 64 = .ok (.anewarray 9, 3) := by decide +kernel
theorem s43_64 {st : List Value} {l0 l1 : Option Value} {w : Int32} {M : Mm} (h : M.1 < 210 ∧ kd (adr M.1) = 8 ∧ ¬ w < 0 ∧ w.toNatClampNeg = ln (adr M.1)) : EE 43 64 [l0, l1] (.int w :: st) M = EE 43 67 [l0, l1] (.ref (adr M.1) :: st) (bn M) := e_anew d43_64 ⟨rfl, h⟩
theorem d43_67 : decode (cod 43) 67 = .ok (.putfield 23, 3) := by decide +kernel
theorem s43_67 {n : Nat} {I : Nat → Nat → Int32} {R : Nat → Nat → Option Nat} {st : List Value} {l0 l1 : Option Value} {a : Nat} {v : Value} : EE 43 67 [l0, l1] (v :: .ref a :: st) (n, I, R) = (pfI n I R 2 4 a v).bind (fun z => EE 43 70 [l0, l1] st (n, z.1, z.2)) := e_putf d43_67 f2_23 rfl rfl (Or.inl ⟨rfl, Or.inl rfl⟩)
theorem d43_70 : decode (cod 43) 70 = .ok (.iconst 0, 1) := by decide +kernel
theorem s43_70 {M : Mm} {st : List Value} {l0 l1 : Option Value} : EE 43 70 [l0, l1] st M = EE 43 71 [l0, l1] (.int (nI 0) :: st) M := e_con d43_70 k_con_0
theorem d43_71 : decode (cod 43) 71 = .ok (.istore_n 1, 1) := by decide +kernel
theorem s43_71 {M : Mm} {st : List Value} {l0 l1 : Option Value} {x : Int32} : EE 43 71 [l0, l1] (.int x :: st) M = EE 43 72 [cln l0, some (.int x)] st M := e_st1 d43_71 rfl rfl rfl rfl rfl rfl rfl (Nat.le_of_ble_eq_true rfl) rfl
theorem d43_72 : decode (cod 43) 72 = .ok (.iload_n 1, 1) := by decide +kernel
theorem s43_72 {M : Mm} {st : List Value} {l0 : Option Value} {x : Int32} : EE 43 72 [l0, some (.int x)] st M = EE 43 73 [l0, some (.int x)] (.int x :: st) M := e_ld d43_72 rfl rfl rfl rfl rfl rfl
theorem d43_73 : decode (cod 43) 73 = .ok (.iconst 2, 1) := by decide +kernel
theorem s43_73 {M : Mm} {st : List Value} {l0 l1 : Option Value} : EE 43 73 [l0, l1] st M = EE 43 74 [l0, l1] (.int (nI 2) :: st) M := e_con d43_73 k_con_2
theorem d43_74 : decode (cod 43) 74 = .ok (.if_icmp .ge 22, 3) := by decide +kernel
theorem s43_74 {M : Mm} {st : List Value} {l0 l1 : Option Value} {x y : Int32} : EE 43 74 [l0, l1] (.int y :: .int x :: st) M = if y ≤ x then EE 43 96 [l0, l1] st M else EE 43 77 [l0, l1] st M := e_cge d43_74 (by decide)
theorem d43_77 : decode (cod 43) 77 = .ok (.aload_n 0, 1) := by decide +kernel
theorem s43_77 {M : Mm} {st : List Value} {l1 : Option Value} {x : Nat} : EE 43 77 [some (.ref x), l1] st M = EE 43 78 [some (.ref x), l1] (.ref x :: st) M := e_ld d43_77 rfl rfl rfl rfl rfl rfl
theorem d43_78 : decode (cod 43) 78 = .ok (.getfield 23, 3) := by decide +kernel
theorem s43_78 {n : Nat} {I : Nat → Nat → Int32} {R : Nat → Nat → Option Nat} {st : List Value} {l0 l1 : Option Value} {a : Nat} : EE 43 78 [l0, l1] (.ref a :: st) (n, I, R) = (gfI n I R 2 4 a).bind (fun z => EE 43 81 [l0, l1] (z :: st) (n, I, R)) := e_getf d43_78 f2_23 rfl rfl
theorem d43_81 : decode (cod 43) 81 = .ok (.iload_n 1, 1) := by decide +kernel
theorem s43_81 {M : Mm} {st : List Value} {l0 : Option Value} {x : Int32} : EE 43 81 [l0, some (.int x)] st M = EE 43 82 [l0, some (.int x)] (.int x :: st) M := e_ld d43_81 rfl rfl rfl rfl rfl rfl
theorem d43_82 : decode (cod 43) 82 = .ok (.new 9, 3) := by decide +kernel
theorem s43_82 {M : Mm} {st : List Value} {l0 l1 : Option Value} (h : M.1 < 210 ∧ kd (adr M.1) = 2) : EE 43 82 [l0, l1] st M = EE 43 85 [l0, l1] (.ref (adr M.1) :: st) (bn M) := e_new d43_82 n2_9 h
theorem d43_85 : decode (cod 43) 85 = .ok (.dup, 1) := by decide +kernel
theorem s43_85i {M : Mm} {st : List Value} {l0 l1 : Option Value} {x : Int32} : EE 43 85 [l0, l1] (.int x :: st) M = EE 43 86 [l0, l1] (.int x :: .int x :: st) M := e_dup d43_85 rfl
theorem s43_85r {M : Mm} {st : List Value} {l0 l1 : Option Value} {x : Nat} : EE 43 85 [l0, l1] (.ref x :: st) M = EE 43 86 [l0, l1] (.ref x :: .ref x :: st) M := e_dup d43_85 rfl
theorem d43_86 : decode (cod 43) 86 = .ok (.invokespecial 11, 3) := by decide +kernel
theorem s43_86 {l0 l1 : Option Value} {a : Nat} {M M' : Mm} {st : List Value} (hl : st.length ≤ 4) (hF : FF 11 [.ref a] M = some (none, M')) : EE 43 86 [l0, l1] (.ref a :: st) M = EE 43 89 [l0, l1] st M' := e_cali d43_86 c2_11 rfl rfl rfl r43_11 hl hF
theorem d43_89 : decode (cod 43) 89 = .ok (.aastore, 1) := by decide +kernel
theorem s43_89 {n : Nat} {I : Nat → Nat → Int32} {R : Nat → Nat → Option Nat} {st : List Value} {l0 l1 : Option Value} {j : Int32} {a b : Nat} (h : kd a = 8 ∧ a < 1000 ∧ pos a < n ∧ inb j (ln a) ∧ kd b = 2 ∧ b < 1000 ∧ pos b < n) : EE 43 89 [l0, l1] (.ref b :: .int j :: .ref a :: st) (n, I, R) = EE 43 90 [l0, l1] st (n, I, wR R a j.toNatClampNeg (some b)) := e_aast d43_89 h
theorem d43_90 : decode (cod 43) 90 = .ok (.iinc 1 1, 3) := by decide +kernel
theorem s43_90 {M : Mm} {st : List Value} {l0 : Option Value} {x : Int32} : EE 43 90 [l0, some (.int x)] st M = EE 43 93 [cln l0, some (.int (x + nI 1))] st M := e_iinc d43_90 rfl (congrArg (fun z => x + z) k_inc_1) rfl
theorem d43_93 : decode (cod 43) 93 = .ok (.goto (-21), 3) := by decide +kernel
theorem s43_93 {M : Mm} {st : List Value} {l0 l1 : Option Value} : EE 43 93 [l0, l1] st M = EE 43 72 [l0, l1] st M := e_goto d43_93 (by decide)
theorem d43_96 : decode (cod 43) 96 = .ok (.aload_n 0, 1) := by decide +kernel
theorem s43_96 {M : Mm} {st : List Value} {l1 : Option Value} {x : Nat} : EE 43 96 [some (.ref x), l1] st M = EE 43 97 [some (.ref x), l1] (.ref x :: st) M := e_ld d43_96 rfl rfl rfl rfl rfl rfl
theorem d43_97 : decode (cod 43) 97 = .ok (.iconst 2, 1) := by decide +kernel
theorem s43_97 {M : Mm} {st : List Value} {l0 l1 : Option Value} : EE 43 97 [l0, l1] st M = EE 43 98 [l0, l1] (.int (nI 2) :: st) M := e_con d43_97 k_con_2
theorem d43_98 : decode (cod 43) 98 = .ok (.newarray .boolean, 2) := by decide +kernel
theorem s43_98 {st : List Value} {l0 l1 : Option Value} {w : Int32} {M : Mm} (h : M.1 < 210 ∧ kd (adr M.1) = 7 ∧ ¬ w < 0 ∧ w.toNatClampNeg = ln (adr M.1)) : EE 43 98 [l0, l1] (.int w :: st) M = EE 43 100 [l0, l1] (.ref (adr M.1) :: st) (bn M) := e_newa d43_98 h
theorem d43_100 : decode (cod 43) 100 = .ok (.putfield 26, 3) := by decide +kernel
theorem s43_100 {n : Nat} {I : Nat → Nat → Int32} {R : Nat → Nat → Option Nat} {st : List Value} {l0 l1 : Option Value} {a : Nat} {v : Value} : EE 43 100 [l0, l1] (v :: .ref a :: st) (n, I, R) = (pfI n I R 2 5 a v).bind (fun z => EE 43 103 [l0, l1] st (n, z.1, z.2)) := e_putf d43_100 f2_26 rfl rfl (Or.inl ⟨rfl, Or.inl rfl⟩)
theorem d43_103 : decode (cod 43) 103 = .ok (.aload_n 0, 1) := by decide +kernel
theorem s43_103 {M : Mm} {st : List Value} {l1 : Option Value} {x : Nat} : EE 43 103 [some (.ref x), l1] st M = EE 43 104 [some (.ref x), l1] (.ref x :: st) M := e_ld d43_103 rfl rfl rfl rfl rfl rfl
theorem d43_104 : decode (cod 43) 104 = .ok (.new 30, 3) := by decide +kernel
theorem s43_104 {M : Mm} {st : List Value} {l0 l1 : Option Value} (h : M.1 < 210 ∧ kd (adr M.1) = 1) : EE 43 104 [l0, l1] st M = EE 43 107 [l0, l1] (.ref (adr M.1) :: st) (bn M) := e_new d43_104 n2_30 h
theorem d43_107 : decode (cod 43) 107 = .ok (.dup, 1) := by decide +kernel
theorem s43_107i {M : Mm} {st : List Value} {l0 l1 : Option Value} {x : Int32} : EE 43 107 [l0, l1] (.int x :: st) M = EE 43 108 [l0, l1] (.int x :: .int x :: st) M := e_dup d43_107 rfl
theorem s43_107r {M : Mm} {st : List Value} {l0 l1 : Option Value} {x : Nat} : EE 43 107 [l0, l1] (.ref x :: st) M = EE 43 108 [l0, l1] (.ref x :: .ref x :: st) M := e_dup d43_107 rfl
theorem d43_108 : decode (cod 43) 108 = .ok (.invokespecial 32, 3) := by decide +kernel
theorem s43_108 {l0 l1 : Option Value} {a : Nat} {M M' : Mm} {st : List Value} (hl : st.length ≤ 4) (hF : FF 0 [.ref a] M = some (none, M')) : EE 43 108 [l0, l1] (.ref a :: st) M = EE 43 111 [l0, l1] st M' := e_cali d43_108 c2_32 rfl rfl rfl r43_0 hl hF
theorem d43_111 : decode (cod 43) 111 = .ok (.putfield 33, 3) := by decide +kernel
theorem s43_111 {n : Nat} {I : Nat → Nat → Int32} {R : Nat → Nat → Option Nat} {st : List Value} {l0 l1 : Option Value} {a : Nat} {v : Value} : EE 43 111 [l0, l1] (v :: .ref a :: st) (n, I, R) = (pfI n I R 2 6 a v).bind (fun z => EE 43 114 [l0, l1] st (n, z.1, z.2)) := e_putf d43_111 f2_33 rfl rfl (Or.inl ⟨rfl, Or.inl rfl⟩)
theorem d43_114 : decode (cod 43) 114 = .ok (.aload_n 0, 1) := by decide +kernel
theorem s43_114 {M : Mm} {st : List Value} {l1 : Option Value} {x : Nat} : EE 43 114 [some (.ref x), l1] st M = EE 43 115 [some (.ref x), l1] (.ref x :: st) M := e_ld d43_114 rfl rfl rfl rfl rfl rfl
theorem d43_115 : decode (cod 43) 115 = .ok (.new 9, 3) := by decide +kernel
theorem s43_115 {M : Mm} {st : List Value} {l0 l1 : Option Value} (h : M.1 < 210 ∧ kd (adr M.1) = 2) : EE 43 115 [l0, l1] st M = EE 43 118 [l0, l1] (.ref (adr M.1) :: st) (bn M) := e_new d43_115 n2_9 h
theorem d43_118 : decode (cod 43) 118 = .ok (.dup, 1) := by decide +kernel
theorem s43_118i {M : Mm} {st : List Value} {l0 l1 : Option Value} {x : Int32} : EE 43 118 [l0, l1] (.int x :: st) M = EE 43 119 [l0, l1] (.int x :: .int x :: st) M := e_dup d43_118 rfl
theorem s43_118r {M : Mm} {st : List Value} {l0 l1 : Option Value} {x : Nat} : EE 43 118 [l0, l1] (.ref x :: st) M = EE 43 119 [l0, l1] (.ref x :: .ref x :: st) M := e_dup d43_118 rfl
theorem d43_119 : decode (cod 43) 119 = .ok (.invokespecial 11, 3) := by decide +kernel
theorem s43_119 {l0 l1 : Option Value} {a : Nat} {M M' : Mm} {st : List Value} (hl : st.length ≤ 4) (hF : FF 11 [.ref a] M = some (none, M')) : EE 43 119 [l0, l1] (.ref a :: st) M = EE 43 122 [l0, l1] st M' := e_cali d43_119 c2_11 rfl rfl rfl r43_11 hl hF
theorem d43_122 : decode (cod 43) 122 = .ok (.putfield 37, 3) := by decide +kernel
theorem s43_122 {n : Nat} {I : Nat → Nat → Int32} {R : Nat → Nat → Option Nat} {st : List Value} {l0 l1 : Option Value} {a : Nat} {v : Value} : EE 43 122 [l0, l1] (v :: .ref a :: st) (n, I, R) = (pfI n I R 2 7 a v).bind (fun z => EE 43 125 [l0, l1] st (n, z.1, z.2)) := e_putf d43_122 f2_37 rfl rfl (Or.inl ⟨rfl, Or.inl rfl⟩)
theorem d43_125 : decode (cod 43) 125 = .ok (.aload_n 0, 1) := by decide +kernel
theorem s43_125 {M : Mm} {st : List Value} {l1 : Option Value} {x : Nat} : EE 43 125 [some (.ref x), l1] st M = EE 43 126 [some (.ref x), l1] (.ref x :: st) M := e_ld d43_125 rfl rfl rfl rfl rfl rfl
theorem d43_126 : decode (cod 43) 126 = .ok (.new 9, 3) := by decide +kernel
theorem s43_126 {M : Mm} {st : List Value} {l0 l1 : Option Value} (h : M.1 < 210 ∧ kd (adr M.1) = 2) : EE 43 126 [l0, l1] st M = EE 43 129 [l0, l1] (.ref (adr M.1) :: st) (bn M) := e_new d43_126 n2_9 h
theorem d43_129 : decode (cod 43) 129 = .ok (.dup, 1) := by decide +kernel
theorem s43_129i {M : Mm} {st : List Value} {l0 l1 : Option Value} {x : Int32} : EE 43 129 [l0, l1] (.int x :: st) M = EE 43 130 [l0, l1] (.int x :: .int x :: st) M := e_dup d43_129 rfl
theorem s43_129r {M : Mm} {st : List Value} {l0 l1 : Option Value} {x : Nat} : EE 43 129 [l0, l1] (.ref x :: st) M = EE 43 130 [l0, l1] (.ref x :: .ref x :: st) M := e_dup d43_129 rfl
theorem d43_130 : decode (cod 43) 130 = .ok (.invokespecial 11, 3) := by decide +kernel
theorem s43_130 {l0 l1 : Option Value} {a : Nat} {M M' : Mm} {st : List Value} (hl : st.length ≤ 4) (hF : FF 11 [.ref a] M = some (none, M')) : EE 43 130 [l0, l1] (.ref a :: st) M = EE 43 133 [l0, l1] st M' := e_cali d43_130 c2_11 rfl rfl rfl r43_11 hl hF
theorem d43_133 : decode (cod 43) 133 = .ok (.putfield 40, 3) := by decide +kernel
theorem s43_133 {n : Nat} {I : Nat → Nat → Int32} {R : Nat → Nat → Option Nat} {st : List Value} {l0 l1 : Option Value} {a : Nat} {v : Value} : EE 43 133 [l0, l1] (v :: .ref a :: st) (n, I, R) = (pfI n I R 2 8 a v).bind (fun z => EE 43 136 [l0, l1] st (n, z.1, z.2)) := e_putf d43_133 f2_40 rfl rfl (Or.inl ⟨rfl, Or.inl rfl⟩)
theorem d43_136 : decode (cod 43) 136 = .ok (.aload_n 0, 1) := by decide +kernel
theorem s43_136 {M : Mm} {st : List Value} {l1 : Option Value} {x : Nat} : EE 43 136 [some (.ref x), l1] st M = EE 43 137 [some (.ref x), l1] (.ref x :: st) M := e_ld d43_136 rfl rfl rfl rfl rfl rfl
theorem d43_137 : decode (cod 43) 137 = .ok (.new 9, 3) := by decide +kernel
theorem s43_137 {M : Mm} {st : List Value} {l0 l1 : Option Value} (h : M.1 < 210 ∧ kd (adr M.1) = 2) : EE 43 137 [l0, l1] st M = EE 43 140 [l0, l1] (.ref (adr M.1) :: st) (bn M) := e_new d43_137 n2_9 h
theorem d43_140 : decode (cod 43) 140 = .ok (.dup, 1) := by decide +kernel
theorem s43_140i {M : Mm} {st : List Value} {l0 l1 : Option Value} {x : Int32} : EE 43 140 [l0, l1] (.int x :: st) M = EE 43 141 [l0, l1] (.int x :: .int x :: st) M := e_dup d43_140 rfl
theorem s43_140r {M : Mm} {st : List Value} {l0 l1 : Option Value} {x : Nat} : EE 43 140 [l0, l1] (.ref x :: st) M = EE 43 141 [l0, l1] (.ref x :: .ref x :: st) M := e_dup d43_140 rfl
theorem d43_141 : decode (cod 43) 141 = .ok (.invokespecial 11, 3) := by decide +kernel
theorem s43_141 {l0 l1 : Option Value} {a : Nat} {M M' : Mm} {st : List Value} (hl : st.length ≤ 4) (hF : FF 11 [.ref a] M = some (none, M')) : EE 43 141 [l0, l1] (.ref a :: st) M = EE 43 144 [l0, l1] st M' := e_cali d43_141 c2_11 rfl rfl rfl r43_11 hl hF
theorem d43_144 : decode (cod 43) 144 = .ok (.putfield 43, 3) := by decide +kernel
theorem s43_144 {n : Nat} {I : Nat → Nat → Int32} {R : Nat → Nat → Option Nat} {st : List Value} {l0 l1 : Option Value} {a : Nat} {v : Value} : EE 43 144 [l0, l1] (v :: .ref a :: st) (n, I, R) = (pfI n I R 2 9 a v).bind (fun z => EE 43 147 [l0, l1] st (n, z.1, z.2)) := e_putf d43_144 f2_43 rfl rfl (Or.inl ⟨rfl, Or.inl rfl⟩)
theorem d43_147 : decode (cod 43) 147 = .ok (.return_, 1) := by decide +kernel
theorem s43_147 {M : Mm} {l0 l1 : Option Value} : EE 43 147 [l0, l1] [] M = some (none, M) := e_vret d43_147 rfl
theorem FE43 {a : Nat} {M : Mm} : FF 43 [.ref a] M = EE 43 0 [some (.ref a), none] [] M := FF_eq 43 _ _ (Nat.le_of_ble_eq_true rfl)
theorem d44_0 : decode (cod 44) 0 = .ok (.aload_n 0, 1) := by decide +kernel
theorem s44_0 {M : Mm} {st : List Value} {l1 l2 : Option Value} {x : Nat} : EE 44 0 [some (.ref x), l1, l2] st M = EE 44 1 [some (.ref x), l1, l2] (.ref x :: st) M := e_ld d44_0 rfl rfl rfl rfl rfl rfl
theorem d44_1 : decode (cod 44) 1 = .ok (.getfield 16, 3) := by decide +kernel
theorem s44_1 {n : Nat} {I : Nat → Nat → Int32} {R : Nat → Nat → Option Nat} {st : List Value} {l0 l1 l2 : Option Value} {a : Nat} : EE 44 1 [l0, l1, l2] (.ref a :: st) (n, I, R) = (gfI n I R 2 1 a).bind (fun z => EE 44 4 [l0, l1, l2] (z :: st) (n, I, R)) := e_getf d44_1 f2_16 rfl rfl
theorem d44_4 : decode (cod 44) 4 = .ok (.aload_n 0, 1) := by decide +kernel
theorem s44_4 {M : Mm} {st : List Value} {l1 l2 : Option Value} {x : Nat} : EE 44 4 [some (.ref x), l1, l2] st M = EE 44 5 [some (.ref x), l1, l2] (.ref x :: st) M := e_ld d44_4 rfl rfl rfl rfl rfl rfl
theorem d44_5 : decode (cod 44) 5 = .ok (.getfield 12, 3) := by decide +kernel
theorem s44_5 {n : Nat} {I : Nat → Nat → Int32} {R : Nat → Nat → Option Nat} {st : List Value} {l0 l1 l2 : Option Value} {a : Nat} : EE 44 5 [l0, l1, l2] (.ref a :: st) (n, I, R) = (gfI n I R 2 0 a).bind (fun z => EE 44 8 [l0, l1, l2] (z :: st) (n, I, R)) := e_getf d44_5 f2_12 rfl rfl
theorem d44_8 : decode (cod 44) 8 = .ok (.invokevirtual 46, 3) := by decide +kernel
theorem s44_8 {l0 l1 l2 : Option Value} {a : Nat} {M : Mm} {b0 : Nat} {st : List Value} (hl : st.length ≤ 4) (ho : isO "HandoverDesk$State" M.1 a = true) : EE 44 8 [l0, l1, l2] (.ref b0 :: .ref a :: st) M = (FF 12 (.ref a :: [.ref b0]) M).bind (fun z => EE 44 11 [l0, l1, l2] (psh z.1 st) z.2) := e_calv (av := [.ref b0]) d44_8 c2_46 rfl rfl rfl r44_12 rfl hl ho
theorem d44_11 : decode (cod 44) 11 = .ok (.aload_n 0, 1) := by decide +kernel
theorem s44_11 {M : Mm} {st : List Value} {l1 l2 : Option Value} {x : Nat} : EE 44 11 [some (.ref x), l1, l2] st M = EE 44 12 [some (.ref x), l1, l2] (.ref x :: st) M := e_ld d44_11 rfl rfl rfl rfl rfl rfl
theorem d44_12 : decode (cod 44) 12 = .ok (.aload_n 0, 1) := by decide +kernel
theorem s44_12 {M : Mm} {st : List Value} {l1 l2 : Option Value} {x : Nat} : EE 44 12 [some (.ref x), l1, l2] st M = EE 44 13 [some (.ref x), l1, l2] (.ref x :: st) M := e_ld d44_12 rfl rfl rfl rfl rfl rfl
theorem d44_13 : decode (cod 44) 13 = .ok (.getfield 12, 3) := by decide +kernel
theorem s44_13 {n : Nat} {I : Nat → Nat → Int32} {R : Nat → Nat → Option Nat} {st : List Value} {l0 l1 l2 : Option Value} {a : Nat} : EE 44 13 [l0, l1, l2] (.ref a :: st) (n, I, R) = (gfI n I R 2 0 a).bind (fun z => EE 44 16 [l0, l1, l2] (z :: st) (n, I, R)) := e_getf d44_13 f2_12 rfl rfl
theorem d44_16 : decode (cod 44) 16 = .ok (.iload_n 1, 1) := by decide +kernel
theorem s44_16 {M : Mm} {st : List Value} {l0 l2 : Option Value} {x : Int32} : EE 44 16 [l0, some (.int x), l2] st M = EE 44 17 [l0, some (.int x), l2] (.int x :: st) M := e_ld d44_16 rfl rfl rfl rfl rfl rfl
theorem d44_17 : decode (cod 44) 17 = .ok (.iload_n 2, 1) := by decide +kernel
theorem s44_17 {M : Mm} {st : List Value} {l0 l1 : Option Value} {x : Int32} : EE 44 17 [l0, l1, some (.int x)] st M = EE 44 18 [l0, l1, some (.int x)] (.int x :: st) M := e_ld d44_17 rfl rfl rfl rfl rfl rfl
theorem d44_18 : decode (cod 44) 18 = .ok (.invokevirtual 50, 3) := by decide +kernel
theorem s44_18 {l0 l1 l2 : Option Value} {a : Nat} {M : Mm} {b0 : Int32} {b1 : Int32} {st : List Value} (hl : st.length ≤ 4) (ho : isO "HandoverDesk$State" M.1 a = true) : EE 44 18 [l0, l1, l2] (.int b1 :: .int b0 :: .ref a :: st) M = (FF 13 (.ref a :: [.int b0, .int b1]) M).bind (fun z => EE 44 21 [l0, l1, l2] (psh z.1 st) z.2) := e_calv (av := [.int b0, .int b1]) d44_18 c2_50 rfl rfl rfl r44_13 rfl hl ho
theorem d44_21 : decode (cod 44) 21 = .ok (.invokevirtual 54, 3) := by decide +kernel
theorem s44_21 {l0 l1 l2 : Option Value} {a : Nat} {M : Mm} {b0 : Int32} {st : List Value} (hl : st.length ≤ 4) (ho : isO "HandoverDesk" M.1 a = true) : EE 44 21 [l0, l1, l2] (.int b0 :: .ref a :: st) M = (FF 46 (.ref a :: [.int b0]) M).bind (fun z => EE 44 24 [l0, l1, l2] (psh z.1 st) z.2) := e_calv (av := [.int b0]) d44_21 c2_54 rfl rfl rfl r44_46 rfl hl ho
theorem d44_24 : decode (cod 44) 24 = .ok (.ireturn, 1) := by decide +kernel
theorem s44_24 {M : Mm} {l0 l1 l2 : Option Value} {v : Int32} : EE 44 24 [l0, l1, l2] [.int v] M = some (some (.int v), M) := e_iret d44_24 rfl rfl
theorem FE44 {a : Nat} {b0 : Int32} {b1 : Int32} {M : Mm} : FF 44 [.ref a, .int b0, .int b1] M = EE 44 0 [some (.ref a), some (.int b0), some (.int b1)] [] M := FF_eq 44 _ _ (Nat.le_of_ble_eq_true rfl)
theorem d45_0 : decode (cod 45) 0 = .ok (.iload_n 0, 1) := by decide +kernel
theorem s45_0 {M : Mm} {st : List Value} {x : Int32} : EE 45 0 [some (.int x)] st M = EE 45 1 [some (.int x)] (.int x :: st) M := e_ld d45_0 rfl rfl rfl rfl rfl rfl
theorem d45_1 : decode (cod 45) 1 = .ok (.ifCond .lt 13, 3) := by decide +kernel
theorem s45_1 {M : Mm} {st : List Value} {l0 : Option Value} {x : Int32} : EE 45 1 [l0] (.int x :: st) M = if x < 0 then EE 45 14 [l0] st M else EE 45 4 [l0] st M := e_lt0 d45_1 (by decide)
theorem d45_4 : decode (cod 45) 4 = .ok (.iload_n 0, 1) := by decide +kernel
theorem s45_4 {M : Mm} {st : List Value} {x : Int32} : EE 45 4 [some (.int x)] st M = EE 45 5 [some (.int x)] (.int x :: st) M := e_ld d45_4 rfl rfl rfl rfl rfl rfl
theorem d45_5 : decode (cod 45) 5 = .ok (.bipush 6, 2) := by decide +kernel
theorem s45_5 {M : Mm} {st : List Value} {l0 : Option Value} : EE 45 5 [l0] st M = EE 45 7 [l0] (.int (nI 6) :: st) M := e_bip d45_5 k_bip_6
theorem d45_7 : decode (cod 45) 7 = .ok (.if_icmp .ge 7, 3) := by decide +kernel
theorem s45_7 {M : Mm} {st : List Value} {l0 : Option Value} {x y : Int32} : EE 45 7 [l0] (.int y :: .int x :: st) M = if y ≤ x then EE 45 14 [l0] st M else EE 45 10 [l0] st M := e_cge d45_7 (by decide)
theorem d45_10 : decode (cod 45) 10 = .ok (.iconst 1, 1) := by decide +kernel
theorem s45_10 {M : Mm} {st : List Value} {l0 : Option Value} : EE 45 10 [l0] st M = EE 45 11 [l0] (.int (nI 1) :: st) M := e_con d45_10 k_con_1
theorem d45_11 : decode (cod 45) 11 = .ok (.goto 4, 3) := by decide +kernel
theorem s45_11 {M : Mm} {st : List Value} {l0 : Option Value} : EE 45 11 [l0] st M = EE 45 15 [l0] st M := e_goto d45_11 (by decide)
theorem d45_14 : decode (cod 45) 14 = .ok (.iconst 0, 1) := by decide +kernel
theorem s45_14 {M : Mm} {st : List Value} {l0 : Option Value} : EE 45 14 [l0] st M = EE 45 15 [l0] (.int (nI 0) :: st) M := e_con d45_14 k_con_0
theorem d45_15 : decode (cod 45) 15 = .ok (.ireturn, 1) := by decide +kernel
theorem s45_15 {M : Mm} {l0 : Option Value} {v : Int32} (h : narrow .boolean (.int v) = .int v) : EE 45 15 [l0] [.int v] M = some (some (.int v), M) := e_iret d45_15 rfl h
theorem FE45 {b0 : Int32} {M : Mm} : FF 45 [.int b0] M = EE 45 0 [some (.int b0)] [] M := FF_eq 45 _ _ (Nat.le_of_ble_eq_true rfl)
theorem d46_0 : decode (cod 46) 0 = .ok (.iload_n 1, 1) := by decide +kernel
theorem s46_0 {M : Mm} {st : List Value} {l0 l2 : Option Value} {x : Int32} : EE 46 0 [l0, some (.int x), l2] st M = EE 46 1 [l0, some (.int x), l2] (.int x :: st) M := e_ld d46_0 rfl rfl rfl rfl rfl rfl
theorem d46_1 : decode (cod 46) 1 = .ok (.ifCond .ge 5, 3) := by decide +kernel
theorem s46_1 {M : Mm} {st : List Value} {l0 l1 l2 : Option Value} {x : Int32} : EE 46 1 [l0, l1, l2] (.int x :: st) M = if 0 ≤ x then EE 46 6 [l0, l1, l2] st M else EE 46 4 [l0, l1, l2] st M := e_ge0 d46_1 (by decide)
theorem d46_4 : decode (cod 46) 4 = .ok (.iload_n 1, 1) := by decide +kernel
theorem s46_4 {M : Mm} {st : List Value} {l0 l2 : Option Value} {x : Int32} : EE 46 4 [l0, some (.int x), l2] st M = EE 46 5 [l0, some (.int x), l2] (.int x :: st) M := e_ld d46_4 rfl rfl rfl rfl rfl rfl
theorem d46_5 : decode (cod 46) 5 = .ok (.ireturn, 1) := by decide +kernel
theorem s46_5 {M : Mm} {l0 l1 l2 : Option Value} {v : Int32} : EE 46 5 [l0, l1, l2] [.int v] M = some (some (.int v), M) := e_iret d46_5 rfl rfl
theorem d46_6 : decode (cod 46) 6 = .ok (.aload_n 0, 1) := by decide +kernel
theorem s46_6 {M : Mm} {st : List Value} {l1 l2 : Option Value} {x : Nat} : EE 46 6 [some (.ref x), l1, l2] st M = EE 46 7 [some (.ref x), l1, l2] (.ref x :: st) M := e_ld d46_6 rfl rfl rfl rfl rfl rfl
theorem d46_7 : decode (cod 46) 7 = .ok (.getfield 165, 3) := by decide +kernel
theorem s46_7 {n : Nat} {I : Nat → Nat → Int32} {R : Nat → Nat → Option Nat} {st : List Value} {l0 l1 l2 : Option Value} {a : Nat} : EE 46 7 [l0, l1, l2] (.ref a :: st) (n, I, R) = (gfI n I R 2 3 a).bind (fun z => EE 46 10 [l0, l1, l2] (z :: st) (n, I, R)) := e_getf d46_7 f2_165 rfl rfl
theorem d46_10 : decode (cod 46) 10 = .ok (.bipush 6, 2) := by decide +kernel
theorem s46_10 {M : Mm} {st : List Value} {l0 l1 l2 : Option Value} : EE 46 10 [l0, l1, l2] st M = EE 46 12 [l0, l1, l2] (.int (nI 6) :: st) M := e_bip d46_10 k_bip_6
theorem d46_12 : decode (cod 46) 12 = .ok (.if_icmp .lt 7, 3) := by decide +kernel
theorem s46_12 {M : Mm} {st : List Value} {l0 l1 l2 : Option Value} {x y : Int32} : EE 46 12 [l0, l1, l2] (.int y :: .int x :: st) M = if x < y then EE 46 19 [l0, l1, l2] st M else EE 46 15 [l0, l1, l2] st M := e_clt d46_12 (by decide)
theorem d46_15 : decode (cod 46) 15 = .ok (.aload_n 0, 1) := by decide +kernel
theorem s46_15 {M : Mm} {st : List Value} {l1 l2 : Option Value} {x : Nat} : EE 46 15 [some (.ref x), l1, l2] st M = EE 46 16 [some (.ref x), l1, l2] (.ref x :: st) M := e_ld d46_15 rfl rfl rfl rfl rfl rfl
theorem d46_16 : decode (cod 46) 16 = .ok (.invokevirtual 221, 3) := by decide +kernel
theorem s46_16 {l0 l1 l2 : Option Value} {a : Nat} {M : Mm} {st : List Value} (hl : st.length ≤ 4) (ho : isO "HandoverDesk" M.1 a = true) : EE 46 16 [l0, l1, l2] (.ref a :: st) M = (FF 47 (.ref a :: []) M).bind (fun z => EE 46 19 [l0, l1, l2] (psh z.1 st) z.2) := e_calv (av := []) d46_16 c2_221 rfl rfl rfl r46_47 rfl hl ho
theorem d46_19 : decode (cod 46) 19 = .ok (.aload_n 0, 1) := by decide +kernel
theorem s46_19 {M : Mm} {st : List Value} {l1 l2 : Option Value} {x : Nat} : EE 46 19 [some (.ref x), l1, l2] st M = EE 46 20 [some (.ref x), l1, l2] (.ref x :: st) M := e_ld d46_19 rfl rfl rfl rfl rfl rfl
theorem d46_20 : decode (cod 46) 20 = .ok (.getfield 19, 3) := by decide +kernel
theorem s46_20 {n : Nat} {I : Nat → Nat → Int32} {R : Nat → Nat → Option Nat} {st : List Value} {l0 l1 l2 : Option Value} {a : Nat} : EE 46 20 [l0, l1, l2] (.ref a :: st) (n, I, R) = (gfI n I R 2 2 a).bind (fun z => EE 46 23 [l0, l1, l2] (z :: st) (n, I, R)) := e_getf d46_20 f2_19 rfl rfl
theorem d46_23 : decode (cod 46) 23 = .ok (.aload_n 0, 1) := by decide +kernel
theorem s46_23 {M : Mm} {st : List Value} {l1 l2 : Option Value} {x : Nat} : EE 46 23 [some (.ref x), l1, l2] st M = EE 46 24 [some (.ref x), l1, l2] (.ref x :: st) M := e_ld d46_23 rfl rfl rfl rfl rfl rfl
theorem d46_24 : decode (cod 46) 24 = .ok (.getfield 165, 3) := by decide +kernel
theorem s46_24 {n : Nat} {I : Nat → Nat → Int32} {R : Nat → Nat → Option Nat} {st : List Value} {l0 l1 l2 : Option Value} {a : Nat} : EE 46 24 [l0, l1, l2] (.ref a :: st) (n, I, R) = (gfI n I R 2 3 a).bind (fun z => EE 46 27 [l0, l1, l2] (z :: st) (n, I, R)) := e_getf d46_24 f2_165 rfl rfl
theorem d46_27 : decode (cod 46) 27 = .ok (.aaload, 1) := by decide +kernel
theorem s46_27 {n : Nat} {I : Nat → Nat → Int32} {R : Nat → Nat → Option Nat} {st : List Value} {l0 l1 l2 : Option Value} {j : Int32} {a : Nat} (h : 8 ≤ kd a ∧ a < 1000 ∧ pos a < n ∧ inb j (ln a)) : EE 46 27 [l0, l1, l2] (.int j :: .ref a :: st) (n, I, R) = EE 46 28 [l0, l1, l2] (va_rf (R a j.toNatClampNeg) :: st) (n, I, R) := e_aald d46_27 h
theorem d46_28 : decode (cod 46) 28 = .ok (.astore_n 2, 1) := by decide +kernel
theorem s46_28 {M : Mm} {st : List Value} {l0 l1 l2 : Option Value} {x : Nat} : EE 46 28 [l0, l1, l2] (.ref x :: st) M = EE 46 29 [l0, cln l1, some (.ref x)] st M := e_st1 d46_28 rfl rfl rfl rfl rfl rfl rfl (Nat.le_of_ble_eq_true rfl) rfl
theorem d46_29 : decode (cod 46) 29 = .ok (.aload_n 0, 1) := by decide +kernel
theorem s46_29 {M : Mm} {st : List Value} {l1 l2 : Option Value} {x : Nat} : EE 46 29 [some (.ref x), l1, l2] st M = EE 46 30 [some (.ref x), l1, l2] (.ref x :: st) M := e_ld d46_29 rfl rfl rfl rfl rfl rfl
theorem d46_30 : decode (cod 46) 30 = .ok (.getfield 19, 3) := by decide +kernel
theorem s46_30 {n : Nat} {I : Nat → Nat → Int32} {R : Nat → Nat → Option Nat} {st : List Value} {l0 l1 l2 : Option Value} {a : Nat} : EE 46 30 [l0, l1, l2] (.ref a :: st) (n, I, R) = (gfI n I R 2 2 a).bind (fun z => EE 46 33 [l0, l1, l2] (z :: st) (n, I, R)) := e_getf d46_30 f2_19 rfl rfl
theorem d46_33 : decode (cod 46) 33 = .ok (.aload_n 0, 1) := by decide +kernel
theorem s46_33 {M : Mm} {st : List Value} {l1 l2 : Option Value} {x : Nat} : EE 46 33 [some (.ref x), l1, l2] st M = EE 46 34 [some (.ref x), l1, l2] (.ref x :: st) M := e_ld d46_33 rfl rfl rfl rfl rfl rfl
theorem d46_34 : decode (cod 46) 34 = .ok (.getfield 165, 3) := by decide +kernel
theorem s46_34 {n : Nat} {I : Nat → Nat → Int32} {R : Nat → Nat → Option Nat} {st : List Value} {l0 l1 l2 : Option Value} {a : Nat} : EE 46 34 [l0, l1, l2] (.ref a :: st) (n, I, R) = (gfI n I R 2 3 a).bind (fun z => EE 46 37 [l0, l1, l2] (z :: st) (n, I, R)) := e_getf d46_34 f2_165 rfl rfl
theorem d46_37 : decode (cod 46) 37 = .ok (.aload_n 0, 1) := by decide +kernel
theorem s46_37 {M : Mm} {st : List Value} {l1 l2 : Option Value} {x : Nat} : EE 46 37 [some (.ref x), l1, l2] st M = EE 46 38 [some (.ref x), l1, l2] (.ref x :: st) M := e_ld d46_37 rfl rfl rfl rfl rfl rfl
theorem d46_38 : decode (cod 46) 38 = .ok (.getfield 16, 3) := by decide +kernel
theorem s46_38 {n : Nat} {I : Nat → Nat → Int32} {R : Nat → Nat → Option Nat} {st : List Value} {l0 l1 l2 : Option Value} {a : Nat} : EE 46 38 [l0, l1, l2] (.ref a :: st) (n, I, R) = (gfI n I R 2 1 a).bind (fun z => EE 46 41 [l0, l1, l2] (z :: st) (n, I, R)) := e_getf d46_38 f2_16 rfl rfl
theorem d46_41 : decode (cod 46) 41 = .ok (.aastore, 1) := by decide +kernel
theorem s46_41 {n : Nat} {I : Nat → Nat → Int32} {R : Nat → Nat → Option Nat} {st : List Value} {l0 l1 l2 : Option Value} {j : Int32} {a b : Nat} (h : kd a = 8 ∧ a < 1000 ∧ pos a < n ∧ inb j (ln a) ∧ kd b = 2 ∧ b < 1000 ∧ pos b < n) : EE 46 41 [l0, l1, l2] (.ref b :: .int j :: .ref a :: st) (n, I, R) = EE 46 42 [l0, l1, l2] st (n, I, wR R a j.toNatClampNeg (some b)) := e_aast d46_41 h
theorem d46_42 : decode (cod 46) 42 = .ok (.aload_n 0, 1) := by decide +kernel
theorem s46_42 {M : Mm} {st : List Value} {l1 l2 : Option Value} {x : Nat} : EE 46 42 [some (.ref x), l1, l2] st M = EE 46 43 [some (.ref x), l1, l2] (.ref x :: st) M := e_ld d46_42 rfl rfl rfl rfl rfl rfl
theorem d46_43 : decode (cod 46) 43 = .ok (.aload_n 2, 1) := by decide +kernel
theorem s46_43 {M : Mm} {st : List Value} {l0 l1 : Option Value} {x : Nat} : EE 46 43 [l0, l1, some (.ref x)] st M = EE 46 44 [l0, l1, some (.ref x)] (.ref x :: st) M := e_ld d46_43 rfl rfl rfl rfl rfl rfl
theorem d46_44 : decode (cod 46) 44 = .ok (.putfield 16, 3) := by decide +kernel
theorem s46_44 {n : Nat} {I : Nat → Nat → Int32} {R : Nat → Nat → Option Nat} {st : List Value} {l0 l1 l2 : Option Value} {a : Nat} {v : Value} : EE 46 44 [l0, l1, l2] (v :: .ref a :: st) (n, I, R) = (pfI n I R 2 1 a v).bind (fun z => EE 46 47 [l0, l1, l2] st (n, z.1, z.2)) := e_putf d46_44 f2_16 rfl rfl (Or.inr rfl)
theorem d46_47 : decode (cod 46) 47 = .ok (.aload_n 0, 1) := by decide +kernel
theorem s46_47 {M : Mm} {st : List Value} {l1 l2 : Option Value} {x : Nat} : EE 46 47 [some (.ref x), l1, l2] st M = EE 46 48 [some (.ref x), l1, l2] (.ref x :: st) M := e_ld d46_47 rfl rfl rfl rfl rfl rfl
theorem d46_48 : decode (cod 46) 48 = .ok (.dup, 1) := by decide +kernel
theorem s46_48i {M : Mm} {st : List Value} {l0 l1 l2 : Option Value} {x : Int32} : EE 46 48 [l0, l1, l2] (.int x :: st) M = EE 46 49 [l0, l1, l2] (.int x :: .int x :: st) M := e_dup d46_48 rfl
theorem s46_48r {M : Mm} {st : List Value} {l0 l1 l2 : Option Value} {x : Nat} : EE 46 48 [l0, l1, l2] (.ref x :: st) M = EE 46 49 [l0, l1, l2] (.ref x :: .ref x :: st) M := e_dup d46_48 rfl
theorem d46_49 : decode (cod 46) 49 = .ok (.getfield 165, 3) := by decide +kernel
theorem s46_49 {n : Nat} {I : Nat → Nat → Int32} {R : Nat → Nat → Option Nat} {st : List Value} {l0 l1 l2 : Option Value} {a : Nat} : EE 46 49 [l0, l1, l2] (.ref a :: st) (n, I, R) = (gfI n I R 2 3 a).bind (fun z => EE 46 52 [l0, l1, l2] (z :: st) (n, I, R)) := e_getf d46_49 f2_165 rfl rfl
theorem d46_52 : decode (cod 46) 52 = .ok (.iconst 1, 1) := by decide +kernel
theorem s46_52 {M : Mm} {st : List Value} {l0 l1 l2 : Option Value} : EE 46 52 [l0, l1, l2] st M = EE 46 53 [l0, l1, l2] (.int (nI 1) :: st) M := e_con d46_52 k_con_1
theorem d46_53 : decode (cod 46) 53 = .ok (.iadd, 1) := by decide +kernel
theorem s46_53 {M : Mm} {st : List Value} {l0 l1 l2 : Option Value} {x y : Int32} : EE 46 53 [l0, l1, l2] (.int y :: .int x :: st) M = EE 46 54 [l0, l1, l2] (.int (x + y) :: st) M := e_II d46_53 rfl rfl rfl rfl rfl rfl
theorem d46_54 : decode (cod 46) 54 = .ok (.putfield 165, 3) := by decide +kernel
theorem s46_54 {n : Nat} {I : Nat → Nat → Int32} {R : Nat → Nat → Option Nat} {st : List Value} {l0 l1 l2 : Option Value} {a : Nat} {v : Value} : EE 46 54 [l0, l1, l2] (v :: .ref a :: st) (n, I, R) = (pfI n I R 2 3 a v).bind (fun z => EE 46 57 [l0, l1, l2] st (n, z.1, z.2)) := e_putf d46_54 f2_165 rfl rfl (Or.inr rfl)
theorem d46_57 : decode (cod 46) 57 = .ok (.iload_n 1, 1) := by decide +kernel
theorem s46_57 {M : Mm} {st : List Value} {l0 l2 : Option Value} {x : Int32} : EE 46 57 [l0, some (.int x), l2] st M = EE 46 58 [l0, some (.int x), l2] (.int x :: st) M := e_ld d46_57 rfl rfl rfl rfl rfl rfl
theorem d46_58 : decode (cod 46) 58 = .ok (.ireturn, 1) := by decide +kernel
theorem s46_58 {M : Mm} {l0 l1 l2 : Option Value} {v : Int32} : EE 46 58 [l0, l1, l2] [.int v] M = some (some (.int v), M) := e_iret d46_58 rfl rfl
theorem FE46 {a : Nat} {b0 : Int32} {M : Mm} : FF 46 [.ref a, .int b0] M = EE 46 0 [some (.ref a), some (.int b0), none] [] M := FF_eq 46 _ _ (Nat.le_of_ble_eq_true rfl)
theorem d47_0 : decode (cod 47) 0 = .ok (.aload_n 0, 1) := by decide +kernel
theorem s47_0 {M : Mm} {st : List Value} {l1 l2 : Option Value} {x : Nat} : EE 47 0 [some (.ref x), l1, l2] st M = EE 47 1 [some (.ref x), l1, l2] (.ref x :: st) M := e_ld d47_0 rfl rfl rfl rfl rfl rfl
theorem d47_1 : decode (cod 47) 1 = .ok (.getfield 19, 3) := by decide +kernel
theorem s47_1 {n : Nat} {I : Nat → Nat → Int32} {R : Nat → Nat → Option Nat} {st : List Value} {l0 l1 l2 : Option Value} {a : Nat} : EE 47 1 [l0, l1, l2] (.ref a :: st) (n, I, R) = (gfI n I R 2 2 a).bind (fun z => EE 47 4 [l0, l1, l2] (z :: st) (n, I, R)) := e_getf d47_1 f2_19 rfl rfl
theorem d47_4 : decode (cod 47) 4 = .ok (.iconst 0, 1) := by decide +kernel
theorem s47_4 {M : Mm} {st : List Value} {l0 l1 l2 : Option Value} : EE 47 4 [l0, l1, l2] st M = EE 47 5 [l0, l1, l2] (.int (nI 0) :: st) M := e_con d47_4 k_con_0
theorem d47_5 : decode (cod 47) 5 = .ok (.aaload, 1) := by decide +kernel
theorem s47_5 {n : Nat} {I : Nat → Nat → Int32} {R : Nat → Nat → Option Nat} {st : List Value} {l0 l1 l2 : Option Value} {j : Int32} {a : Nat} (h : 8 ≤ kd a ∧ a < 1000 ∧ pos a < n ∧ inb j (ln a)) : EE 47 5 [l0, l1, l2] (.int j :: .ref a :: st) (n, I, R) = EE 47 6 [l0, l1, l2] (va_rf (R a j.toNatClampNeg) :: st) (n, I, R) := e_aald d47_5 h
theorem d47_6 : decode (cod 47) 6 = .ok (.astore_n 1, 1) := by decide +kernel
theorem s47_6 {M : Mm} {st : List Value} {l0 l1 l2 : Option Value} {x : Nat} : EE 47 6 [l0, l1, l2] (.ref x :: st) M = EE 47 7 [cln l0, some (.ref x), l2] st M := e_st1 d47_6 rfl rfl rfl rfl rfl rfl rfl (Nat.le_of_ble_eq_true rfl) rfl
theorem d47_7 : decode (cod 47) 7 = .ok (.iconst 1, 1) := by decide +kernel
theorem s47_7 {M : Mm} {st : List Value} {l0 l1 l2 : Option Value} : EE 47 7 [l0, l1, l2] st M = EE 47 8 [l0, l1, l2] (.int (nI 1) :: st) M := e_con d47_7 k_con_1
theorem d47_8 : decode (cod 47) 8 = .ok (.istore_n 2, 1) := by decide +kernel
theorem s47_8 {M : Mm} {st : List Value} {l0 l1 l2 : Option Value} {x : Int32} : EE 47 8 [l0, l1, l2] (.int x :: st) M = EE 47 9 [l0, cln l1, some (.int x)] st M := e_st1 d47_8 rfl rfl rfl rfl rfl rfl rfl (Nat.le_of_ble_eq_true rfl) rfl
theorem d47_9 : decode (cod 47) 9 = .ok (.iload_n 2, 1) := by decide +kernel
theorem s47_9 {M : Mm} {st : List Value} {l0 l1 : Option Value} {x : Int32} : EE 47 9 [l0, l1, some (.int x)] st M = EE 47 10 [l0, l1, some (.int x)] (.int x :: st) M := e_ld d47_9 rfl rfl rfl rfl rfl rfl
theorem d47_10 : decode (cod 47) 10 = .ok (.bipush 6, 2) := by decide +kernel
theorem s47_10 {M : Mm} {st : List Value} {l0 l1 l2 : Option Value} : EE 47 10 [l0, l1, l2] st M = EE 47 12 [l0, l1, l2] (.int (nI 6) :: st) M := e_bip d47_10 k_bip_6
theorem d47_12 : decode (cod 47) 12 = .ok (.if_icmp .ge 23, 3) := by decide +kernel
theorem s47_12 {M : Mm} {st : List Value} {l0 l1 l2 : Option Value} {x y : Int32} : EE 47 12 [l0, l1, l2] (.int y :: .int x :: st) M = if y ≤ x then EE 47 35 [l0, l1, l2] st M else EE 47 15 [l0, l1, l2] st M := e_cge d47_12 (by decide)
theorem d47_15 : decode (cod 47) 15 = .ok (.aload_n 0, 1) := by decide +kernel
theorem s47_15 {M : Mm} {st : List Value} {l1 l2 : Option Value} {x : Nat} : EE 47 15 [some (.ref x), l1, l2] st M = EE 47 16 [some (.ref x), l1, l2] (.ref x :: st) M := e_ld d47_15 rfl rfl rfl rfl rfl rfl
theorem d47_16 : decode (cod 47) 16 = .ok (.getfield 19, 3) := by decide +kernel
theorem s47_16 {n : Nat} {I : Nat → Nat → Int32} {R : Nat → Nat → Option Nat} {st : List Value} {l0 l1 l2 : Option Value} {a : Nat} : EE 47 16 [l0, l1, l2] (.ref a :: st) (n, I, R) = (gfI n I R 2 2 a).bind (fun z => EE 47 19 [l0, l1, l2] (z :: st) (n, I, R)) := e_getf d47_16 f2_19 rfl rfl
theorem d47_19 : decode (cod 47) 19 = .ok (.iload_n 2, 1) := by decide +kernel
theorem s47_19 {M : Mm} {st : List Value} {l0 l1 : Option Value} {x : Int32} : EE 47 19 [l0, l1, some (.int x)] st M = EE 47 20 [l0, l1, some (.int x)] (.int x :: st) M := e_ld d47_19 rfl rfl rfl rfl rfl rfl
theorem d47_20 : decode (cod 47) 20 = .ok (.iconst 1, 1) := by decide +kernel
theorem s47_20 {M : Mm} {st : List Value} {l0 l1 l2 : Option Value} : EE 47 20 [l0, l1, l2] st M = EE 47 21 [l0, l1, l2] (.int (nI 1) :: st) M := e_con d47_20 k_con_1
theorem d47_21 : decode (cod 47) 21 = .ok (.isub, 1) := by decide +kernel
theorem s47_21 {M : Mm} {st : List Value} {l0 l1 l2 : Option Value} {x y : Int32} : EE 47 21 [l0, l1, l2] (.int y :: .int x :: st) M = EE 47 22 [l0, l1, l2] (.int (x - y) :: st) M := e_II d47_21 rfl rfl rfl rfl rfl rfl
theorem d47_22 : decode (cod 47) 22 = .ok (.aload_n 0, 1) := by decide +kernel
theorem s47_22 {M : Mm} {st : List Value} {l1 l2 : Option Value} {x : Nat} : EE 47 22 [some (.ref x), l1, l2] st M = EE 47 23 [some (.ref x), l1, l2] (.ref x :: st) M := e_ld d47_22 rfl rfl rfl rfl rfl rfl
theorem d47_23 : decode (cod 47) 23 = .ok (.getfield 19, 3) := by decide +kernel
theorem s47_23 {n : Nat} {I : Nat → Nat → Int32} {R : Nat → Nat → Option Nat} {st : List Value} {l0 l1 l2 : Option Value} {a : Nat} : EE 47 23 [l0, l1, l2] (.ref a :: st) (n, I, R) = (gfI n I R 2 2 a).bind (fun z => EE 47 26 [l0, l1, l2] (z :: st) (n, I, R)) := e_getf d47_23 f2_19 rfl rfl
theorem d47_26 : decode (cod 47) 26 = .ok (.iload_n 2, 1) := by decide +kernel
theorem s47_26 {M : Mm} {st : List Value} {l0 l1 : Option Value} {x : Int32} : EE 47 26 [l0, l1, some (.int x)] st M = EE 47 27 [l0, l1, some (.int x)] (.int x :: st) M := e_ld d47_26 rfl rfl rfl rfl rfl rfl
theorem d47_27 : decode (cod 47) 27 = .ok (.aaload, 1) := by decide +kernel
theorem s47_27 {n : Nat} {I : Nat → Nat → Int32} {R : Nat → Nat → Option Nat} {st : List Value} {l0 l1 l2 : Option Value} {j : Int32} {a : Nat} (h : 8 ≤ kd a ∧ a < 1000 ∧ pos a < n ∧ inb j (ln a)) : EE 47 27 [l0, l1, l2] (.int j :: .ref a :: st) (n, I, R) = EE 47 28 [l0, l1, l2] (va_rf (R a j.toNatClampNeg) :: st) (n, I, R) := e_aald d47_27 h
theorem d47_28 : decode (cod 47) 28 = .ok (.aastore, 1) := by decide +kernel
theorem s47_28 {n : Nat} {I : Nat → Nat → Int32} {R : Nat → Nat → Option Nat} {st : List Value} {l0 l1 l2 : Option Value} {j : Int32} {a b : Nat} (h : kd a = 8 ∧ a < 1000 ∧ pos a < n ∧ inb j (ln a) ∧ kd b = 2 ∧ b < 1000 ∧ pos b < n) : EE 47 28 [l0, l1, l2] (.ref b :: .int j :: .ref a :: st) (n, I, R) = EE 47 29 [l0, l1, l2] st (n, I, wR R a j.toNatClampNeg (some b)) := e_aast d47_28 h
theorem d47_29 : decode (cod 47) 29 = .ok (.iinc 2 1, 3) := by decide +kernel
theorem s47_29 {M : Mm} {st : List Value} {l0 l1 : Option Value} {x : Int32} : EE 47 29 [l0, l1, some (.int x)] st M = EE 47 32 [l0, cln l1, some (.int (x + nI 1))] st M := e_iinc d47_29 rfl (congrArg (fun z => x + z) k_inc_1) rfl
theorem d47_32 : decode (cod 47) 32 = .ok (.goto (-23), 3) := by decide +kernel
theorem s47_32 {M : Mm} {st : List Value} {l0 l1 l2 : Option Value} : EE 47 32 [l0, l1, l2] st M = EE 47 9 [l0, l1, l2] st M := e_goto d47_32 (by decide)
theorem d47_35 : decode (cod 47) 35 = .ok (.aload_n 0, 1) := by decide +kernel
theorem s47_35 {M : Mm} {st : List Value} {l1 l2 : Option Value} {x : Nat} : EE 47 35 [some (.ref x), l1, l2] st M = EE 47 36 [some (.ref x), l1, l2] (.ref x :: st) M := e_ld d47_35 rfl rfl rfl rfl rfl rfl
theorem d47_36 : decode (cod 47) 36 = .ok (.getfield 19, 3) := by decide +kernel
theorem s47_36 {n : Nat} {I : Nat → Nat → Int32} {R : Nat → Nat → Option Nat} {st : List Value} {l0 l1 l2 : Option Value} {a : Nat} : EE 47 36 [l0, l1, l2] (.ref a :: st) (n, I, R) = (gfI n I R 2 2 a).bind (fun z => EE 47 39 [l0, l1, l2] (z :: st) (n, I, R)) := e_getf d47_36 f2_19 rfl rfl
theorem d47_39 : decode (cod 47) 39 = .ok (.iconst 5, 1) := by decide +kernel
theorem s47_39 {M : Mm} {st : List Value} {l0 l1 l2 : Option Value} : EE 47 39 [l0, l1, l2] st M = EE 47 40 [l0, l1, l2] (.int (nI 5) :: st) M := e_con d47_39 k_con_5
theorem d47_40 : decode (cod 47) 40 = .ok (.aload_n 1, 1) := by decide +kernel
theorem s47_40 {M : Mm} {st : List Value} {l0 l2 : Option Value} {x : Nat} : EE 47 40 [l0, some (.ref x), l2] st M = EE 47 41 [l0, some (.ref x), l2] (.ref x :: st) M := e_ld d47_40 rfl rfl rfl rfl rfl rfl
theorem d47_41 : decode (cod 47) 41 = .ok (.aastore, 1) := by decide +kernel
theorem s47_41 {n : Nat} {I : Nat → Nat → Int32} {R : Nat → Nat → Option Nat} {st : List Value} {l0 l1 l2 : Option Value} {j : Int32} {a b : Nat} (h : kd a = 8 ∧ a < 1000 ∧ pos a < n ∧ inb j (ln a) ∧ kd b = 2 ∧ b < 1000 ∧ pos b < n) : EE 47 41 [l0, l1, l2] (.ref b :: .int j :: .ref a :: st) (n, I, R) = EE 47 42 [l0, l1, l2] st (n, I, wR R a j.toNatClampNeg (some b)) := e_aast d47_41 h
theorem d47_42 : decode (cod 47) 42 = .ok (.aload_n 0, 1) := by decide +kernel
theorem s47_42 {M : Mm} {st : List Value} {l1 l2 : Option Value} {x : Nat} : EE 47 42 [some (.ref x), l1, l2] st M = EE 47 43 [some (.ref x), l1, l2] (.ref x :: st) M := e_ld d47_42 rfl rfl rfl rfl rfl rfl
theorem d47_43 : decode (cod 47) 43 = .ok (.iconst 5, 1) := by decide +kernel
theorem s47_43 {M : Mm} {st : List Value} {l0 l1 l2 : Option Value} : EE 47 43 [l0, l1, l2] st M = EE 47 44 [l0, l1, l2] (.int (nI 5) :: st) M := e_con d47_43 k_con_5
theorem d47_44 : decode (cod 47) 44 = .ok (.putfield 165, 3) := by decide +kernel
theorem s47_44 {n : Nat} {I : Nat → Nat → Int32} {R : Nat → Nat → Option Nat} {st : List Value} {l0 l1 l2 : Option Value} {a : Nat} {v : Value} : EE 47 44 [l0, l1, l2] (v :: .ref a :: st) (n, I, R) = (pfI n I R 2 3 a v).bind (fun z => EE 47 47 [l0, l1, l2] st (n, z.1, z.2)) := e_putf d47_44 f2_165 rfl rfl (Or.inr rfl)
theorem d47_47 : decode (cod 47) 47 = .ok (.return_, 1) := by decide +kernel
theorem s47_47 {M : Mm} {l0 l1 l2 : Option Value} : EE 47 47 [l0, l1, l2] [] M = some (none, M) := e_vret d47_47 rfl
theorem FE47 {a : Nat} {M : Mm} : FF 47 [.ref a] M = EE 47 0 [some (.ref a), none, none] [] M := FF_eq 47 _ _ (Nat.le_of_ble_eq_true rfl)
theorem d48_0 : decode (cod 48) 0 = .ok (.aload_n 0, 1) := by decide +kernel
theorem s48_0 {M : Mm} {st : List Value} {l1 l2 : Option Value} {x : Nat} : EE 48 0 [some (.ref x), l1, l2] st M = EE 48 1 [some (.ref x), l1, l2] (.ref x :: st) M := e_ld d48_0 rfl rfl rfl rfl rfl rfl
theorem d48_1 : decode (cod 48) 1 = .ok (.getfield 16, 3) := by decide +kernel
theorem s48_1 {n : Nat} {I : Nat → Nat → Int32} {R : Nat → Nat → Option Nat} {st : List Value} {l0 l1 l2 : Option Value} {a : Nat} : EE 48 1 [l0, l1, l2] (.ref a :: st) (n, I, R) = (gfI n I R 2 1 a).bind (fun z => EE 48 4 [l0, l1, l2] (z :: st) (n, I, R)) := e_getf d48_1 f2_16 rfl rfl
theorem d48_4 : decode (cod 48) 4 = .ok (.aload_n 0, 1) := by decide +kernel
theorem s48_4 {M : Mm} {st : List Value} {l1 l2 : Option Value} {x : Nat} : EE 48 4 [some (.ref x), l1, l2] st M = EE 48 5 [some (.ref x), l1, l2] (.ref x :: st) M := e_ld d48_4 rfl rfl rfl rfl rfl rfl
theorem d48_5 : decode (cod 48) 5 = .ok (.getfield 12, 3) := by decide +kernel
theorem s48_5 {n : Nat} {I : Nat → Nat → Int32} {R : Nat → Nat → Option Nat} {st : List Value} {l0 l1 l2 : Option Value} {a : Nat} : EE 48 5 [l0, l1, l2] (.ref a :: st) (n, I, R) = (gfI n I R 2 0 a).bind (fun z => EE 48 8 [l0, l1, l2] (z :: st) (n, I, R)) := e_getf d48_5 f2_12 rfl rfl
theorem d48_8 : decode (cod 48) 8 = .ok (.invokevirtual 46, 3) := by decide +kernel
theorem s48_8 {l0 l1 l2 : Option Value} {a : Nat} {M : Mm} {b0 : Nat} {st : List Value} (hl : st.length ≤ 4) (ho : isO "HandoverDesk$State" M.1 a = true) : EE 48 8 [l0, l1, l2] (.ref b0 :: .ref a :: st) M = (FF 12 (.ref a :: [.ref b0]) M).bind (fun z => EE 48 11 [l0, l1, l2] (psh z.1 st) z.2) := e_calv (av := [.ref b0]) d48_8 c2_46 rfl rfl rfl r48_12 rfl hl ho
theorem d48_11 : decode (cod 48) 11 = .ok (.aload_n 0, 1) := by decide +kernel
theorem s48_11 {M : Mm} {st : List Value} {l1 l2 : Option Value} {x : Nat} : EE 48 11 [some (.ref x), l1, l2] st M = EE 48 12 [some (.ref x), l1, l2] (.ref x :: st) M := e_ld d48_11 rfl rfl rfl rfl rfl rfl
theorem d48_12 : decode (cod 48) 12 = .ok (.aload_n 0, 1) := by decide +kernel
theorem s48_12 {M : Mm} {st : List Value} {l1 l2 : Option Value} {x : Nat} : EE 48 12 [some (.ref x), l1, l2] st M = EE 48 13 [some (.ref x), l1, l2] (.ref x :: st) M := e_ld d48_12 rfl rfl rfl rfl rfl rfl
theorem d48_13 : decode (cod 48) 13 = .ok (.getfield 12, 3) := by decide +kernel
theorem s48_13 {n : Nat} {I : Nat → Nat → Int32} {R : Nat → Nat → Option Nat} {st : List Value} {l0 l1 l2 : Option Value} {a : Nat} : EE 48 13 [l0, l1, l2] (.ref a :: st) (n, I, R) = (gfI n I R 2 0 a).bind (fun z => EE 48 16 [l0, l1, l2] (z :: st) (n, I, R)) := e_getf d48_13 f2_12 rfl rfl
theorem d48_16 : decode (cod 48) 16 = .ok (.iload_n 1, 1) := by decide +kernel
theorem s48_16 {M : Mm} {st : List Value} {l0 l2 : Option Value} {x : Int32} : EE 48 16 [l0, some (.int x), l2] st M = EE 48 17 [l0, some (.int x), l2] (.int x :: st) M := e_ld d48_16 rfl rfl rfl rfl rfl rfl
theorem d48_17 : decode (cod 48) 17 = .ok (.iload_n 2, 1) := by decide +kernel
theorem s48_17 {M : Mm} {st : List Value} {l0 l1 : Option Value} {x : Int32} : EE 48 17 [l0, l1, some (.int x)] st M = EE 48 18 [l0, l1, some (.int x)] (.int x :: st) M := e_ld d48_17 rfl rfl rfl rfl rfl rfl
theorem d48_18 : decode (cod 48) 18 = .ok (.invokevirtual 58, 3) := by decide +kernel
theorem s48_18 {l0 l1 l2 : Option Value} {a : Nat} {M : Mm} {b0 : Int32} {b1 : Int32} {st : List Value} (hl : st.length ≤ 4) (ho : isO "HandoverDesk$State" M.1 a = true) : EE 48 18 [l0, l1, l2] (.int b1 :: .int b0 :: .ref a :: st) M = (FF 14 (.ref a :: [.int b0, .int b1]) M).bind (fun z => EE 48 21 [l0, l1, l2] (psh z.1 st) z.2) := e_calv (av := [.int b0, .int b1]) d48_18 c2_58 rfl rfl rfl r48_14 rfl hl ho
theorem d48_21 : decode (cod 48) 21 = .ok (.invokevirtual 54, 3) := by decide +kernel
theorem s48_21 {l0 l1 l2 : Option Value} {a : Nat} {M : Mm} {b0 : Int32} {st : List Value} (hl : st.length ≤ 4) (ho : isO "HandoverDesk" M.1 a = true) : EE 48 21 [l0, l1, l2] (.int b0 :: .ref a :: st) M = (FF 46 (.ref a :: [.int b0]) M).bind (fun z => EE 48 24 [l0, l1, l2] (psh z.1 st) z.2) := e_calv (av := [.int b0]) d48_21 c2_54 rfl rfl rfl r48_46 rfl hl ho
theorem d48_24 : decode (cod 48) 24 = .ok (.ireturn, 1) := by decide +kernel
theorem s48_24 {M : Mm} {l0 l1 l2 : Option Value} {v : Int32} : EE 48 24 [l0, l1, l2] [.int v] M = some (some (.int v), M) := e_iret d48_24 rfl rfl
theorem FE48 {a : Nat} {b0 : Int32} {b1 : Int32} {M : Mm} : FF 48 [.ref a, .int b0, .int b1] M = EE 48 0 [some (.ref a), some (.int b0), some (.int b1)] [] M := FF_eq 48 _ _ (Nat.le_of_ble_eq_true rfl)
theorem d49_0 : decode (cod 49) 0 = .ok (.iload_n 0, 1) := by decide +kernel
theorem s49_0 {M : Mm} {st : List Value} {x : Int32} : EE 49 0 [some (.int x)] st M = EE 49 1 [some (.int x)] (.int x :: st) M := e_ld d49_0 rfl rfl rfl rfl rfl rfl
theorem d49_1 : decode (cod 49) 1 = .ok (.ifCond .lt 13, 3) := by decide +kernel
theorem s49_1 {M : Mm} {st : List Value} {l0 : Option Value} {x : Int32} : EE 49 1 [l0] (.int x :: st) M = if x < 0 then EE 49 14 [l0] st M else EE 49 4 [l0] st M := e_lt0 d49_1 (by decide)
theorem d49_4 : decode (cod 49) 4 = .ok (.iload_n 0, 1) := by decide +kernel
theorem s49_4 {M : Mm} {st : List Value} {x : Int32} : EE 49 4 [some (.int x)] st M = EE 49 5 [some (.int x)] (.int x :: st) M := e_ld d49_4 rfl rfl rfl rfl rfl rfl
theorem d49_5 : decode (cod 49) 5 = .ok (.bipush 6, 2) := by decide +kernel
theorem s49_5 {M : Mm} {st : List Value} {l0 : Option Value} : EE 49 5 [l0] st M = EE 49 7 [l0] (.int (nI 6) :: st) M := e_bip d49_5 k_bip_6
theorem d49_7 : decode (cod 49) 7 = .ok (.if_icmp .ge 7, 3) := by decide +kernel
theorem s49_7 {M : Mm} {st : List Value} {l0 : Option Value} {x y : Int32} : EE 49 7 [l0] (.int y :: .int x :: st) M = if y ≤ x then EE 49 14 [l0] st M else EE 49 10 [l0] st M := e_cge d49_7 (by decide)
theorem d49_10 : decode (cod 49) 10 = .ok (.iconst 1, 1) := by decide +kernel
theorem s49_10 {M : Mm} {st : List Value} {l0 : Option Value} : EE 49 10 [l0] st M = EE 49 11 [l0] (.int (nI 1) :: st) M := e_con d49_10 k_con_1
theorem d49_11 : decode (cod 49) 11 = .ok (.goto 4, 3) := by decide +kernel
theorem s49_11 {M : Mm} {st : List Value} {l0 : Option Value} : EE 49 11 [l0] st M = EE 49 15 [l0] st M := e_goto d49_11 (by decide)
theorem d49_14 : decode (cod 49) 14 = .ok (.iconst 0, 1) := by decide +kernel
theorem s49_14 {M : Mm} {st : List Value} {l0 : Option Value} : EE 49 14 [l0] st M = EE 49 15 [l0] (.int (nI 0) :: st) M := e_con d49_14 k_con_0
theorem d49_15 : decode (cod 49) 15 = .ok (.ireturn, 1) := by decide +kernel
theorem s49_15 {M : Mm} {l0 : Option Value} {v : Int32} (h : narrow .boolean (.int v) = .int v) : EE 49 15 [l0] [.int v] M = some (some (.int v), M) := e_iret d49_15 rfl h
theorem FE49 {b0 : Int32} {M : Mm} : FF 49 [.int b0] M = EE 49 0 [some (.int b0)] [] M := FF_eq 49 _ _ (Nat.le_of_ble_eq_true rfl)
theorem d50_0 : decode (cod 50) 0 = .ok (.iload_n 0, 1) := by decide +kernel
theorem s50_0 {M : Mm} {st : List Value} {x : Int32} : EE 50 0 [some (.int x)] st M = EE 50 1 [some (.int x)] (.int x :: st) M := e_ld d50_0 rfl rfl rfl rfl rfl rfl
theorem d50_1 : decode (cod 50) 1 = .ok (.ifCond .lt 13, 3) := by decide +kernel
theorem s50_1 {M : Mm} {st : List Value} {l0 : Option Value} {x : Int32} : EE 50 1 [l0] (.int x :: st) M = if x < 0 then EE 50 14 [l0] st M else EE 50 4 [l0] st M := e_lt0 d50_1 (by decide)
theorem d50_4 : decode (cod 50) 4 = .ok (.iload_n 0, 1) := by decide +kernel
theorem s50_4 {M : Mm} {st : List Value} {x : Int32} : EE 50 4 [some (.int x)] st M = EE 50 5 [some (.int x)] (.int x :: st) M := e_ld d50_4 rfl rfl rfl rfl rfl rfl
theorem d50_5 : decode (cod 50) 5 = .ok (.bipush 12, 2) := by decide +kernel
theorem s50_5 {M : Mm} {st : List Value} {l0 : Option Value} : EE 50 5 [l0] st M = EE 50 7 [l0] (.int (nI 12) :: st) M := e_bip d50_5 k_bip_12
theorem d50_7 : decode (cod 50) 7 = .ok (.if_icmp .ge 7, 3) := by decide +kernel
theorem s50_7 {M : Mm} {st : List Value} {l0 : Option Value} {x y : Int32} : EE 50 7 [l0] (.int y :: .int x :: st) M = if y ≤ x then EE 50 14 [l0] st M else EE 50 10 [l0] st M := e_cge d50_7 (by decide)
theorem d50_10 : decode (cod 50) 10 = .ok (.iconst 1, 1) := by decide +kernel
theorem s50_10 {M : Mm} {st : List Value} {l0 : Option Value} : EE 50 10 [l0] st M = EE 50 11 [l0] (.int (nI 1) :: st) M := e_con d50_10 k_con_1
theorem d50_11 : decode (cod 50) 11 = .ok (.goto 4, 3) := by decide +kernel
theorem s50_11 {M : Mm} {st : List Value} {l0 : Option Value} : EE 50 11 [l0] st M = EE 50 15 [l0] st M := e_goto d50_11 (by decide)
theorem d50_14 : decode (cod 50) 14 = .ok (.iconst 0, 1) := by decide +kernel
theorem s50_14 {M : Mm} {st : List Value} {l0 : Option Value} : EE 50 14 [l0] st M = EE 50 15 [l0] (.int (nI 0) :: st) M := e_con d50_14 k_con_0
theorem d50_15 : decode (cod 50) 15 = .ok (.ireturn, 1) := by decide +kernel
theorem s50_15 {M : Mm} {l0 : Option Value} {v : Int32} (h : narrow .boolean (.int v) = .int v) : EE 50 15 [l0] [.int v] M = some (some (.int v), M) := e_iret d50_15 rfl h
theorem FE50 {b0 : Int32} {M : Mm} : FF 50 [.int b0] M = EE 50 0 [some (.int b0)] [] M := FF_eq 50 _ _ (Nat.le_of_ble_eq_true rfl)
theorem d51_0 : decode (cod 51) 0 = .ok (.aload_n 0, 1) := by decide +kernel
theorem s51_0 {M : Mm} {st : List Value} {l1 l2 : Option Value} {x : Nat} : EE 51 0 [some (.ref x), l1, l2] st M = EE 51 1 [some (.ref x), l1, l2] (.ref x :: st) M := e_ld d51_0 rfl rfl rfl rfl rfl rfl
theorem d51_1 : decode (cod 51) 1 = .ok (.getfield 16, 3) := by decide +kernel
theorem s51_1 {n : Nat} {I : Nat → Nat → Int32} {R : Nat → Nat → Option Nat} {st : List Value} {l0 l1 l2 : Option Value} {a : Nat} : EE 51 1 [l0, l1, l2] (.ref a :: st) (n, I, R) = (gfI n I R 2 1 a).bind (fun z => EE 51 4 [l0, l1, l2] (z :: st) (n, I, R)) := e_getf d51_1 f2_16 rfl rfl
theorem d51_4 : decode (cod 51) 4 = .ok (.aload_n 0, 1) := by decide +kernel
theorem s51_4 {M : Mm} {st : List Value} {l1 l2 : Option Value} {x : Nat} : EE 51 4 [some (.ref x), l1, l2] st M = EE 51 5 [some (.ref x), l1, l2] (.ref x :: st) M := e_ld d51_4 rfl rfl rfl rfl rfl rfl
theorem d51_5 : decode (cod 51) 5 = .ok (.getfield 12, 3) := by decide +kernel
theorem s51_5 {n : Nat} {I : Nat → Nat → Int32} {R : Nat → Nat → Option Nat} {st : List Value} {l0 l1 l2 : Option Value} {a : Nat} : EE 51 5 [l0, l1, l2] (.ref a :: st) (n, I, R) = (gfI n I R 2 0 a).bind (fun z => EE 51 8 [l0, l1, l2] (z :: st) (n, I, R)) := e_getf d51_5 f2_12 rfl rfl
theorem d51_8 : decode (cod 51) 8 = .ok (.invokevirtual 46, 3) := by decide +kernel
theorem s51_8 {l0 l1 l2 : Option Value} {a : Nat} {M : Mm} {b0 : Nat} {st : List Value} (hl : st.length ≤ 4) (ho : isO "HandoverDesk$State" M.1 a = true) : EE 51 8 [l0, l1, l2] (.ref b0 :: .ref a :: st) M = (FF 12 (.ref a :: [.ref b0]) M).bind (fun z => EE 51 11 [l0, l1, l2] (psh z.1 st) z.2) := e_calv (av := [.ref b0]) d51_8 c2_46 rfl rfl rfl r51_12 rfl hl ho
theorem d51_11 : decode (cod 51) 11 = .ok (.aload_n 0, 1) := by decide +kernel
theorem s51_11 {M : Mm} {st : List Value} {l1 l2 : Option Value} {x : Nat} : EE 51 11 [some (.ref x), l1, l2] st M = EE 51 12 [some (.ref x), l1, l2] (.ref x :: st) M := e_ld d51_11 rfl rfl rfl rfl rfl rfl
theorem d51_12 : decode (cod 51) 12 = .ok (.aload_n 0, 1) := by decide +kernel
theorem s51_12 {M : Mm} {st : List Value} {l1 l2 : Option Value} {x : Nat} : EE 51 12 [some (.ref x), l1, l2] st M = EE 51 13 [some (.ref x), l1, l2] (.ref x :: st) M := e_ld d51_12 rfl rfl rfl rfl rfl rfl
theorem d51_13 : decode (cod 51) 13 = .ok (.getfield 12, 3) := by decide +kernel
theorem s51_13 {n : Nat} {I : Nat → Nat → Int32} {R : Nat → Nat → Option Nat} {st : List Value} {l0 l1 l2 : Option Value} {a : Nat} : EE 51 13 [l0, l1, l2] (.ref a :: st) (n, I, R) = (gfI n I R 2 0 a).bind (fun z => EE 51 16 [l0, l1, l2] (z :: st) (n, I, R)) := e_getf d51_13 f2_12 rfl rfl
theorem d51_16 : decode (cod 51) 16 = .ok (.iload_n 1, 1) := by decide +kernel
theorem s51_16 {M : Mm} {st : List Value} {l0 l2 : Option Value} {x : Int32} : EE 51 16 [l0, some (.int x), l2] st M = EE 51 17 [l0, some (.int x), l2] (.int x :: st) M := e_ld d51_16 rfl rfl rfl rfl rfl rfl
theorem d51_17 : decode (cod 51) 17 = .ok (.iload_n 2, 1) := by decide +kernel
theorem s51_17 {M : Mm} {st : List Value} {l0 l1 : Option Value} {x : Int32} : EE 51 17 [l0, l1, some (.int x)] st M = EE 51 18 [l0, l1, some (.int x)] (.int x :: st) M := e_ld d51_17 rfl rfl rfl rfl rfl rfl
theorem d51_18 : decode (cod 51) 18 = .ok (.invokevirtual 61, 3) := by decide +kernel
theorem s51_18 {l0 l1 l2 : Option Value} {a : Nat} {M : Mm} {b0 : Int32} {b1 : Int32} {st : List Value} (hl : st.length ≤ 4) (ho : isO "HandoverDesk$State" M.1 a = true) : EE 51 18 [l0, l1, l2] (.int b1 :: .int b0 :: .ref a :: st) M = (FF 15 (.ref a :: [.int b0, .int b1]) M).bind (fun z => EE 51 21 [l0, l1, l2] (psh z.1 st) z.2) := e_calv (av := [.int b0, .int b1]) d51_18 c2_61 rfl rfl rfl r51_15 rfl hl ho
theorem d51_21 : decode (cod 51) 21 = .ok (.invokevirtual 54, 3) := by decide +kernel
theorem s51_21 {l0 l1 l2 : Option Value} {a : Nat} {M : Mm} {b0 : Int32} {st : List Value} (hl : st.length ≤ 4) (ho : isO "HandoverDesk" M.1 a = true) : EE 51 21 [l0, l1, l2] (.int b0 :: .ref a :: st) M = (FF 46 (.ref a :: [.int b0]) M).bind (fun z => EE 51 24 [l0, l1, l2] (psh z.1 st) z.2) := e_calv (av := [.int b0]) d51_21 c2_54 rfl rfl rfl r51_46 rfl hl ho
theorem d51_24 : decode (cod 51) 24 = .ok (.ireturn, 1) := by decide +kernel
theorem s51_24 {M : Mm} {l0 l1 l2 : Option Value} {v : Int32} : EE 51 24 [l0, l1, l2] [.int v] M = some (some (.int v), M) := e_iret d51_24 rfl rfl
theorem FE51 {a : Nat} {b0 : Int32} {b1 : Int32} {M : Mm} : FF 51 [.ref a, .int b0, .int b1] M = EE 51 0 [some (.ref a), some (.int b0), some (.int b1)] [] M := FF_eq 51 _ _ (Nat.le_of_ble_eq_true rfl)
theorem d52_0 : decode (cod 52) 0 = .ok (.aload_n 0, 1) := by decide +kernel
theorem s52_0 {M : Mm} {st : List Value} {x : Nat} : EE 52 0 [some (.ref x)] st M = EE 52 1 [some (.ref x)] (.ref x :: st) M := e_ld d52_0 rfl rfl rfl rfl rfl rfl
theorem d52_1 : decode (cod 52) 1 = .ok (.getfield 16, 3) := by decide +kernel
theorem s52_1 {n : Nat} {I : Nat → Nat → Int32} {R : Nat → Nat → Option Nat} {st : List Value} {l0 : Option Value} {a : Nat} : EE 52 1 [l0] (.ref a :: st) (n, I, R) = (gfI n I R 2 1 a).bind (fun z => EE 52 4 [l0] (z :: st) (n, I, R)) := e_getf d52_1 f2_16 rfl rfl
theorem d52_4 : decode (cod 52) 4 = .ok (.aload_n 0, 1) := by decide +kernel
theorem s52_4 {M : Mm} {st : List Value} {x : Nat} : EE 52 4 [some (.ref x)] st M = EE 52 5 [some (.ref x)] (.ref x :: st) M := e_ld d52_4 rfl rfl rfl rfl rfl rfl
theorem d52_5 : decode (cod 52) 5 = .ok (.getfield 12, 3) := by decide +kernel
theorem s52_5 {n : Nat} {I : Nat → Nat → Int32} {R : Nat → Nat → Option Nat} {st : List Value} {l0 : Option Value} {a : Nat} : EE 52 5 [l0] (.ref a :: st) (n, I, R) = (gfI n I R 2 0 a).bind (fun z => EE 52 8 [l0] (z :: st) (n, I, R)) := e_getf d52_5 f2_12 rfl rfl
theorem d52_8 : decode (cod 52) 8 = .ok (.invokevirtual 46, 3) := by decide +kernel
theorem s52_8 {l0 : Option Value} {a : Nat} {M : Mm} {b0 : Nat} {st : List Value} (hl : st.length ≤ 4) (ho : isO "HandoverDesk$State" M.1 a = true) : EE 52 8 [l0] (.ref b0 :: .ref a :: st) M = (FF 12 (.ref a :: [.ref b0]) M).bind (fun z => EE 52 11 [l0] (psh z.1 st) z.2) := e_calv (av := [.ref b0]) d52_8 c2_46 rfl rfl rfl r52_12 rfl hl ho
theorem d52_11 : decode (cod 52) 11 = .ok (.aload_n 0, 1) := by decide +kernel
theorem s52_11 {M : Mm} {st : List Value} {x : Nat} : EE 52 11 [some (.ref x)] st M = EE 52 12 [some (.ref x)] (.ref x :: st) M := e_ld d52_11 rfl rfl rfl rfl rfl rfl
theorem d52_12 : decode (cod 52) 12 = .ok (.aload_n 0, 1) := by decide +kernel
theorem s52_12 {M : Mm} {st : List Value} {x : Nat} : EE 52 12 [some (.ref x)] st M = EE 52 13 [some (.ref x)] (.ref x :: st) M := e_ld d52_12 rfl rfl rfl rfl rfl rfl
theorem d52_13 : decode (cod 52) 13 = .ok (.getfield 12, 3) := by decide +kernel
theorem s52_13 {n : Nat} {I : Nat → Nat → Int32} {R : Nat → Nat → Option Nat} {st : List Value} {l0 : Option Value} {a : Nat} : EE 52 13 [l0] (.ref a :: st) (n, I, R) = (gfI n I R 2 0 a).bind (fun z => EE 52 16 [l0] (z :: st) (n, I, R)) := e_getf d52_13 f2_12 rfl rfl
theorem d52_16 : decode (cod 52) 16 = .ok (.invokevirtual 64, 3) := by decide +kernel
theorem s52_16 {l0 : Option Value} {a : Nat} {M : Mm} {st : List Value} (hl : st.length ≤ 4) (ho : isO "HandoverDesk$State" M.1 a = true) : EE 52 16 [l0] (.ref a :: st) M = (FF 16 (.ref a :: []) M).bind (fun z => EE 52 19 [l0] (psh z.1 st) z.2) := e_calv (av := []) d52_16 c2_64 rfl rfl rfl r52_16 rfl hl ho
theorem d52_19 : decode (cod 52) 19 = .ok (.invokevirtual 54, 3) := by decide +kernel
theorem s52_19 {l0 : Option Value} {a : Nat} {M : Mm} {b0 : Int32} {st : List Value} (hl : st.length ≤ 4) (ho : isO "HandoverDesk" M.1 a = true) : EE 52 19 [l0] (.int b0 :: .ref a :: st) M = (FF 46 (.ref a :: [.int b0]) M).bind (fun z => EE 52 22 [l0] (psh z.1 st) z.2) := e_calv (av := [.int b0]) d52_19 c2_54 rfl rfl rfl r52_46 rfl hl ho
theorem d52_22 : decode (cod 52) 22 = .ok (.ireturn, 1) := by decide +kernel
theorem s52_22 {M : Mm} {l0 : Option Value} {v : Int32} : EE 52 22 [l0] [.int v] M = some (some (.int v), M) := e_iret d52_22 rfl rfl
theorem FE52 {a : Nat} {M : Mm} : FF 52 [.ref a] M = EE 52 0 [some (.ref a)] [] M := FF_eq 52 _ _ (Nat.le_of_ble_eq_true rfl)
theorem d53_0 : decode (cod 53) 0 = .ok (.aload_n 0, 1) := by decide +kernel
theorem s53_0 {M : Mm} {st : List Value} {l1 : Option Value} {x : Nat} : EE 53 0 [some (.ref x), l1] st M = EE 53 1 [some (.ref x), l1] (.ref x :: st) M := e_ld d53_0 rfl rfl rfl rfl rfl rfl
theorem d53_1 : decode (cod 53) 1 = .ok (.getfield 16, 3) := by decide +kernel
theorem s53_1 {n : Nat} {I : Nat → Nat → Int32} {R : Nat → Nat → Option Nat} {st : List Value} {l0 l1 : Option Value} {a : Nat} : EE 53 1 [l0, l1] (.ref a :: st) (n, I, R) = (gfI n I R 2 1 a).bind (fun z => EE 53 4 [l0, l1] (z :: st) (n, I, R)) := e_getf d53_1 f2_16 rfl rfl
theorem d53_4 : decode (cod 53) 4 = .ok (.aload_n 0, 1) := by decide +kernel
theorem s53_4 {M : Mm} {st : List Value} {l1 : Option Value} {x : Nat} : EE 53 4 [some (.ref x), l1] st M = EE 53 5 [some (.ref x), l1] (.ref x :: st) M := e_ld d53_4 rfl rfl rfl rfl rfl rfl
theorem d53_5 : decode (cod 53) 5 = .ok (.getfield 12, 3) := by decide +kernel
theorem s53_5 {n : Nat} {I : Nat → Nat → Int32} {R : Nat → Nat → Option Nat} {st : List Value} {l0 l1 : Option Value} {a : Nat} : EE 53 5 [l0, l1] (.ref a :: st) (n, I, R) = (gfI n I R 2 0 a).bind (fun z => EE 53 8 [l0, l1] (z :: st) (n, I, R)) := e_getf d53_5 f2_12 rfl rfl
theorem d53_8 : decode (cod 53) 8 = .ok (.invokevirtual 46, 3) := by decide +kernel
theorem s53_8 {l0 l1 : Option Value} {a : Nat} {M : Mm} {b0 : Nat} {st : List Value} (hl : st.length ≤ 4) (ho : isO "HandoverDesk$State" M.1 a = true) : EE 53 8 [l0, l1] (.ref b0 :: .ref a :: st) M = (FF 12 (.ref a :: [.ref b0]) M).bind (fun z => EE 53 11 [l0, l1] (psh z.1 st) z.2) := e_calv (av := [.ref b0]) d53_8 c2_46 rfl rfl rfl r53_12 rfl hl ho
theorem d53_11 : decode (cod 53) 11 = .ok (.aload_n 0, 1) := by decide +kernel
theorem s53_11 {M : Mm} {st : List Value} {l1 : Option Value} {x : Nat} : EE 53 11 [some (.ref x), l1] st M = EE 53 12 [some (.ref x), l1] (.ref x :: st) M := e_ld d53_11 rfl rfl rfl rfl rfl rfl
theorem d53_12 : decode (cod 53) 12 = .ok (.aload_n 0, 1) := by decide +kernel
theorem s53_12 {M : Mm} {st : List Value} {l1 : Option Value} {x : Nat} : EE 53 12 [some (.ref x), l1] st M = EE 53 13 [some (.ref x), l1] (.ref x :: st) M := e_ld d53_12 rfl rfl rfl rfl rfl rfl
theorem d53_13 : decode (cod 53) 13 = .ok (.getfield 12, 3) := by decide +kernel
theorem s53_13 {n : Nat} {I : Nat → Nat → Int32} {R : Nat → Nat → Option Nat} {st : List Value} {l0 l1 : Option Value} {a : Nat} : EE 53 13 [l0, l1] (.ref a :: st) (n, I, R) = (gfI n I R 2 0 a).bind (fun z => EE 53 16 [l0, l1] (z :: st) (n, I, R)) := e_getf d53_13 f2_12 rfl rfl
theorem d53_16 : decode (cod 53) 16 = .ok (.iload_n 1, 1) := by decide +kernel
theorem s53_16 {M : Mm} {st : List Value} {l0 : Option Value} {x : Int32} : EE 53 16 [l0, some (.int x)] st M = EE 53 17 [l0, some (.int x)] (.int x :: st) M := e_ld d53_16 rfl rfl rfl rfl rfl rfl
theorem d53_17 : decode (cod 53) 17 = .ok (.invokevirtual 68, 3) := by decide +kernel
theorem s53_17 {l0 l1 : Option Value} {a : Nat} {M : Mm} {b0 : Int32} {st : List Value} (hl : st.length ≤ 4) (ho : isO "HandoverDesk$State" M.1 a = true) : EE 53 17 [l0, l1] (.int b0 :: .ref a :: st) M = (FF 17 (.ref a :: [.int b0]) M).bind (fun z => EE 53 20 [l0, l1] (psh z.1 st) z.2) := e_calv (av := [.int b0]) d53_17 c2_68 rfl rfl rfl r53_17 rfl hl ho
theorem d53_20 : decode (cod 53) 20 = .ok (.invokevirtual 54, 3) := by decide +kernel
theorem s53_20 {l0 l1 : Option Value} {a : Nat} {M : Mm} {b0 : Int32} {st : List Value} (hl : st.length ≤ 4) (ho : isO "HandoverDesk" M.1 a = true) : EE 53 20 [l0, l1] (.int b0 :: .ref a :: st) M = (FF 46 (.ref a :: [.int b0]) M).bind (fun z => EE 53 23 [l0, l1] (psh z.1 st) z.2) := e_calv (av := [.int b0]) d53_20 c2_54 rfl rfl rfl r53_46 rfl hl ho
theorem d53_23 : decode (cod 53) 23 = .ok (.ireturn, 1) := by decide +kernel
theorem s53_23 {M : Mm} {l0 l1 : Option Value} {v : Int32} : EE 53 23 [l0, l1] [.int v] M = some (some (.int v), M) := e_iret d53_23 rfl rfl
theorem FE53 {a : Nat} {b0 : Int32} {M : Mm} : FF 53 [.ref a, .int b0] M = EE 53 0 [some (.ref a), some (.int b0)] [] M := FF_eq 53 _ _ (Nat.le_of_ble_eq_true rfl)
theorem d54_0 : decode (cod 54) 0 = .ok (.aload_n 0, 1) := by decide +kernel
theorem s54_0 {M : Mm} {st : List Value} {l1 : Option Value} {x : Nat} : EE 54 0 [some (.ref x), l1] st M = EE 54 1 [some (.ref x), l1] (.ref x :: st) M := e_ld d54_0 rfl rfl rfl rfl rfl rfl
theorem d54_1 : decode (cod 54) 1 = .ok (.getfield 16, 3) := by decide +kernel
theorem s54_1 {n : Nat} {I : Nat → Nat → Int32} {R : Nat → Nat → Option Nat} {st : List Value} {l0 l1 : Option Value} {a : Nat} : EE 54 1 [l0, l1] (.ref a :: st) (n, I, R) = (gfI n I R 2 1 a).bind (fun z => EE 54 4 [l0, l1] (z :: st) (n, I, R)) := e_getf d54_1 f2_16 rfl rfl
theorem d54_4 : decode (cod 54) 4 = .ok (.aload_n 0, 1) := by decide +kernel
theorem s54_4 {M : Mm} {st : List Value} {l1 : Option Value} {x : Nat} : EE 54 4 [some (.ref x), l1] st M = EE 54 5 [some (.ref x), l1] (.ref x :: st) M := e_ld d54_4 rfl rfl rfl rfl rfl rfl
theorem d54_5 : decode (cod 54) 5 = .ok (.getfield 12, 3) := by decide +kernel
theorem s54_5 {n : Nat} {I : Nat → Nat → Int32} {R : Nat → Nat → Option Nat} {st : List Value} {l0 l1 : Option Value} {a : Nat} : EE 54 5 [l0, l1] (.ref a :: st) (n, I, R) = (gfI n I R 2 0 a).bind (fun z => EE 54 8 [l0, l1] (z :: st) (n, I, R)) := e_getf d54_5 f2_12 rfl rfl
theorem d54_8 : decode (cod 54) 8 = .ok (.invokevirtual 46, 3) := by decide +kernel
theorem s54_8 {l0 l1 : Option Value} {a : Nat} {M : Mm} {b0 : Nat} {st : List Value} (hl : st.length ≤ 4) (ho : isO "HandoverDesk$State" M.1 a = true) : EE 54 8 [l0, l1] (.ref b0 :: .ref a :: st) M = (FF 12 (.ref a :: [.ref b0]) M).bind (fun z => EE 54 11 [l0, l1] (psh z.1 st) z.2) := e_calv (av := [.ref b0]) d54_8 c2_46 rfl rfl rfl r54_12 rfl hl ho
theorem d54_11 : decode (cod 54) 11 = .ok (.aload_n 0, 1) := by decide +kernel
theorem s54_11 {M : Mm} {st : List Value} {l1 : Option Value} {x : Nat} : EE 54 11 [some (.ref x), l1] st M = EE 54 12 [some (.ref x), l1] (.ref x :: st) M := e_ld d54_11 rfl rfl rfl rfl rfl rfl
theorem d54_12 : decode (cod 54) 12 = .ok (.aload_n 0, 1) := by decide +kernel
theorem s54_12 {M : Mm} {st : List Value} {l1 : Option Value} {x : Nat} : EE 54 12 [some (.ref x), l1] st M = EE 54 13 [some (.ref x), l1] (.ref x :: st) M := e_ld d54_12 rfl rfl rfl rfl rfl rfl
theorem d54_13 : decode (cod 54) 13 = .ok (.getfield 12, 3) := by decide +kernel
theorem s54_13 {n : Nat} {I : Nat → Nat → Int32} {R : Nat → Nat → Option Nat} {st : List Value} {l0 l1 : Option Value} {a : Nat} : EE 54 13 [l0, l1] (.ref a :: st) (n, I, R) = (gfI n I R 2 0 a).bind (fun z => EE 54 16 [l0, l1] (z :: st) (n, I, R)) := e_getf d54_13 f2_12 rfl rfl
theorem d54_16 : decode (cod 54) 16 = .ok (.iload_n 1, 1) := by decide +kernel
theorem s54_16 {M : Mm} {st : List Value} {l0 : Option Value} {x : Int32} : EE 54 16 [l0, some (.int x)] st M = EE 54 17 [l0, some (.int x)] (.int x :: st) M := e_ld d54_16 rfl rfl rfl rfl rfl rfl
theorem d54_17 : decode (cod 54) 17 = .ok (.invokevirtual 71, 3) := by decide +kernel
theorem s54_17 {l0 l1 : Option Value} {a : Nat} {M : Mm} {b0 : Int32} {st : List Value} (hl : st.length ≤ 4) (ho : isO "HandoverDesk$State" M.1 a = true) : EE 54 17 [l0, l1] (.int b0 :: .ref a :: st) M = (FF 20 (.ref a :: [.int b0]) M).bind (fun z => EE 54 20 [l0, l1] (psh z.1 st) z.2) := e_calv (av := [.int b0]) d54_17 c2_71 rfl rfl rfl r54_20 rfl hl ho
theorem d54_20 : decode (cod 54) 20 = .ok (.invokevirtual 54, 3) := by decide +kernel
theorem s54_20 {l0 l1 : Option Value} {a : Nat} {M : Mm} {b0 : Int32} {st : List Value} (hl : st.length ≤ 4) (ho : isO "HandoverDesk" M.1 a = true) : EE 54 20 [l0, l1] (.int b0 :: .ref a :: st) M = (FF 46 (.ref a :: [.int b0]) M).bind (fun z => EE 54 23 [l0, l1] (psh z.1 st) z.2) := e_calv (av := [.int b0]) d54_20 c2_54 rfl rfl rfl r54_46 rfl hl ho
theorem d54_23 : decode (cod 54) 23 = .ok (.ireturn, 1) := by decide +kernel
theorem s54_23 {M : Mm} {l0 l1 : Option Value} {v : Int32} : EE 54 23 [l0, l1] [.int v] M = some (some (.int v), M) := e_iret d54_23 rfl rfl
theorem FE54 {a : Nat} {b0 : Int32} {M : Mm} : FF 54 [.ref a, .int b0] M = EE 54 0 [some (.ref a), some (.int b0)] [] M := FF_eq 54 _ _ (Nat.le_of_ble_eq_true rfl)
theorem d55_0 : decode (cod 55) 0 = .ok (.aload_n 0, 1) := by decide +kernel
theorem s55_0 {M : Mm} {st : List Value} {l1 l2 l3 : Option Value} {x : Nat} : EE 55 0 [some (.ref x), l1, l2, l3] st M = EE 55 1 [some (.ref x), l1, l2, l3] (.ref x :: st) M := e_ld d55_0 rfl rfl rfl rfl rfl rfl
theorem d55_1 : decode (cod 55) 1 = .ok (.getfield 16, 3) := by decide +kernel
theorem s55_1 {n : Nat} {I : Nat → Nat → Int32} {R : Nat → Nat → Option Nat} {st : List Value} {l0 l1 l2 l3 : Option Value} {a : Nat} : EE 55 1 [l0, l1, l2, l3] (.ref a :: st) (n, I, R) = (gfI n I R 2 1 a).bind (fun z => EE 55 4 [l0, l1, l2, l3] (z :: st) (n, I, R)) := e_getf d55_1 f2_16 rfl rfl
theorem d55_4 : decode (cod 55) 4 = .ok (.aload_n 0, 1) := by decide +kernel
theorem s55_4 {M : Mm} {st : List Value} {l1 l2 l3 : Option Value} {x : Nat} : EE 55 4 [some (.ref x), l1, l2, l3] st M = EE 55 5 [some (.ref x), l1, l2, l3] (.ref x :: st) M := e_ld d55_4 rfl rfl rfl rfl rfl rfl
theorem d55_5 : decode (cod 55) 5 = .ok (.getfield 12, 3) := by decide +kernel
theorem s55_5 {n : Nat} {I : Nat → Nat → Int32} {R : Nat → Nat → Option Nat} {st : List Value} {l0 l1 l2 l3 : Option Value} {a : Nat} : EE 55 5 [l0, l1, l2, l3] (.ref a :: st) (n, I, R) = (gfI n I R 2 0 a).bind (fun z => EE 55 8 [l0, l1, l2, l3] (z :: st) (n, I, R)) := e_getf d55_5 f2_12 rfl rfl
theorem d55_8 : decode (cod 55) 8 = .ok (.invokevirtual 46, 3) := by decide +kernel
theorem s55_8 {l0 l1 l2 l3 : Option Value} {a : Nat} {M : Mm} {b0 : Nat} {st : List Value} (hl : st.length ≤ 4) (ho : isO "HandoverDesk$State" M.1 a = true) : EE 55 8 [l0, l1, l2, l3] (.ref b0 :: .ref a :: st) M = (FF 12 (.ref a :: [.ref b0]) M).bind (fun z => EE 55 11 [l0, l1, l2, l3] (psh z.1 st) z.2) := e_calv (av := [.ref b0]) d55_8 c2_46 rfl rfl rfl r55_12 rfl hl ho
theorem d55_11 : decode (cod 55) 11 = .ok (.aload_n 0, 1) := by decide +kernel
theorem s55_11 {M : Mm} {st : List Value} {l1 l2 l3 : Option Value} {x : Nat} : EE 55 11 [some (.ref x), l1, l2, l3] st M = EE 55 12 [some (.ref x), l1, l2, l3] (.ref x :: st) M := e_ld d55_11 rfl rfl rfl rfl rfl rfl
theorem d55_12 : decode (cod 55) 12 = .ok (.aload_n 0, 1) := by decide +kernel
theorem s55_12 {M : Mm} {st : List Value} {l1 l2 l3 : Option Value} {x : Nat} : EE 55 12 [some (.ref x), l1, l2, l3] st M = EE 55 13 [some (.ref x), l1, l2, l3] (.ref x :: st) M := e_ld d55_12 rfl rfl rfl rfl rfl rfl
theorem d55_13 : decode (cod 55) 13 = .ok (.getfield 12, 3) := by decide +kernel
theorem s55_13 {n : Nat} {I : Nat → Nat → Int32} {R : Nat → Nat → Option Nat} {st : List Value} {l0 l1 l2 l3 : Option Value} {a : Nat} : EE 55 13 [l0, l1, l2, l3] (.ref a :: st) (n, I, R) = (gfI n I R 2 0 a).bind (fun z => EE 55 16 [l0, l1, l2, l3] (z :: st) (n, I, R)) := e_getf d55_13 f2_12 rfl rfl
theorem d55_16 : decode (cod 55) 16 = .ok (.iload_n 1, 1) := by decide +kernel
theorem s55_16 {M : Mm} {st : List Value} {l0 l2 l3 : Option Value} {x : Int32} : EE 55 16 [l0, some (.int x), l2, l3] st M = EE 55 17 [l0, some (.int x), l2, l3] (.int x :: st) M := e_ld d55_16 rfl rfl rfl rfl rfl rfl
theorem d55_17 : decode (cod 55) 17 = .ok (.iload_n 2, 1) := by decide +kernel
theorem s55_17 {M : Mm} {st : List Value} {l0 l1 l3 : Option Value} {x : Int32} : EE 55 17 [l0, l1, some (.int x), l3] st M = EE 55 18 [l0, l1, some (.int x), l3] (.int x :: st) M := e_ld d55_17 rfl rfl rfl rfl rfl rfl
theorem d55_18 : decode (cod 55) 18 = .ok (.iload_n 3, 1) := by decide +kernel
theorem s55_18 {M : Mm} {st : List Value} {l0 l1 l2 : Option Value} {x : Int32} : EE 55 18 [l0, l1, l2, some (.int x)] st M = EE 55 19 [l0, l1, l2, some (.int x)] (.int x :: st) M := e_ld d55_18 rfl rfl rfl rfl rfl rfl
theorem d55_19 : decode (cod 55) 19 = .ok (.invokevirtual 74, 3) := by decide +kernel
theorem s55_19 {l0 l1 l2 l3 : Option Value} {a : Nat} {M : Mm} {b0 : Int32} {b1 : Int32} {b2 : Int32} {st : List Value} (hl : st.length ≤ 4) (ho : isO "HandoverDesk$State" M.1 a = true) : EE 55 19 [l0, l1, l2, l3] (.int b2 :: .int b1 :: .int b0 :: .ref a :: st) M = (FF 22 (.ref a :: [.int b0, .int b1, .int b2]) M).bind (fun z => EE 55 22 [l0, l1, l2, l3] (psh z.1 st) z.2) := e_calv (av := [.int b0, .int b1, .int b2]) d55_19 c2_74 rfl rfl rfl r55_22 rfl hl ho
theorem d55_22 : decode (cod 55) 22 = .ok (.invokevirtual 54, 3) := by decide +kernel
theorem s55_22 {l0 l1 l2 l3 : Option Value} {a : Nat} {M : Mm} {b0 : Int32} {st : List Value} (hl : st.length ≤ 4) (ho : isO "HandoverDesk" M.1 a = true) : EE 55 22 [l0, l1, l2, l3] (.int b0 :: .ref a :: st) M = (FF 46 (.ref a :: [.int b0]) M).bind (fun z => EE 55 25 [l0, l1, l2, l3] (psh z.1 st) z.2) := e_calv (av := [.int b0]) d55_22 c2_54 rfl rfl rfl r55_46 rfl hl ho
theorem d55_25 : decode (cod 55) 25 = .ok (.ireturn, 1) := by decide +kernel
theorem s55_25 {M : Mm} {l0 l1 l2 l3 : Option Value} {v : Int32} : EE 55 25 [l0, l1, l2, l3] [.int v] M = some (some (.int v), M) := e_iret d55_25 rfl rfl
theorem FE55 {a : Nat} {b0 : Int32} {b1 : Int32} {b2 : Int32} {M : Mm} : FF 55 [.ref a, .int b0, .int b1, .int b2] M = EE 55 0 [some (.ref a), some (.int b0), some (.int b1), some (.int b2)] [] M := FF_eq 55 _ _ (Nat.le_of_ble_eq_true rfl)
theorem d56_0 : decode (cod 56) 0 = .ok (.aload_n 0, 1) := by decide +kernel
theorem s56_0 {M : Mm} {st : List Value} {l1 : Option Value} {x : Nat} : EE 56 0 [some (.ref x), l1] st M = EE 56 1 [some (.ref x), l1] (.ref x :: st) M := e_ld d56_0 rfl rfl rfl rfl rfl rfl
theorem d56_1 : decode (cod 56) 1 = .ok (.getfield 16, 3) := by decide +kernel
theorem s56_1 {n : Nat} {I : Nat → Nat → Int32} {R : Nat → Nat → Option Nat} {st : List Value} {l0 l1 : Option Value} {a : Nat} : EE 56 1 [l0, l1] (.ref a :: st) (n, I, R) = (gfI n I R 2 1 a).bind (fun z => EE 56 4 [l0, l1] (z :: st) (n, I, R)) := e_getf d56_1 f2_16 rfl rfl
theorem d56_4 : decode (cod 56) 4 = .ok (.aload_n 0, 1) := by decide +kernel
theorem s56_4 {M : Mm} {st : List Value} {l1 : Option Value} {x : Nat} : EE 56 4 [some (.ref x), l1] st M = EE 56 5 [some (.ref x), l1] (.ref x :: st) M := e_ld d56_4 rfl rfl rfl rfl rfl rfl
theorem d56_5 : decode (cod 56) 5 = .ok (.getfield 12, 3) := by decide +kernel
theorem s56_5 {n : Nat} {I : Nat → Nat → Int32} {R : Nat → Nat → Option Nat} {st : List Value} {l0 l1 : Option Value} {a : Nat} : EE 56 5 [l0, l1] (.ref a :: st) (n, I, R) = (gfI n I R 2 0 a).bind (fun z => EE 56 8 [l0, l1] (z :: st) (n, I, R)) := e_getf d56_5 f2_12 rfl rfl
theorem d56_8 : decode (cod 56) 8 = .ok (.invokevirtual 46, 3) := by decide +kernel
theorem s56_8 {l0 l1 : Option Value} {a : Nat} {M : Mm} {b0 : Nat} {st : List Value} (hl : st.length ≤ 4) (ho : isO "HandoverDesk$State" M.1 a = true) : EE 56 8 [l0, l1] (.ref b0 :: .ref a :: st) M = (FF 12 (.ref a :: [.ref b0]) M).bind (fun z => EE 56 11 [l0, l1] (psh z.1 st) z.2) := e_calv (av := [.ref b0]) d56_8 c2_46 rfl rfl rfl r56_12 rfl hl ho
theorem d56_11 : decode (cod 56) 11 = .ok (.aload_n 0, 1) := by decide +kernel
theorem s56_11 {M : Mm} {st : List Value} {l1 : Option Value} {x : Nat} : EE 56 11 [some (.ref x), l1] st M = EE 56 12 [some (.ref x), l1] (.ref x :: st) M := e_ld d56_11 rfl rfl rfl rfl rfl rfl
theorem d56_12 : decode (cod 56) 12 = .ok (.aload_n 0, 1) := by decide +kernel
theorem s56_12 {M : Mm} {st : List Value} {l1 : Option Value} {x : Nat} : EE 56 12 [some (.ref x), l1] st M = EE 56 13 [some (.ref x), l1] (.ref x :: st) M := e_ld d56_12 rfl rfl rfl rfl rfl rfl
theorem d56_13 : decode (cod 56) 13 = .ok (.getfield 12, 3) := by decide +kernel
theorem s56_13 {n : Nat} {I : Nat → Nat → Int32} {R : Nat → Nat → Option Nat} {st : List Value} {l0 l1 : Option Value} {a : Nat} : EE 56 13 [l0, l1] (.ref a :: st) (n, I, R) = (gfI n I R 2 0 a).bind (fun z => EE 56 16 [l0, l1] (z :: st) (n, I, R)) := e_getf d56_13 f2_12 rfl rfl
theorem d56_16 : decode (cod 56) 16 = .ok (.iload_n 1, 1) := by decide +kernel
theorem s56_16 {M : Mm} {st : List Value} {l0 : Option Value} {x : Int32} : EE 56 16 [l0, some (.int x)] st M = EE 56 17 [l0, some (.int x)] (.int x :: st) M := e_ld d56_16 rfl rfl rfl rfl rfl rfl
theorem d56_17 : decode (cod 56) 17 = .ok (.invokevirtual 78, 3) := by decide +kernel
theorem s56_17 {l0 l1 : Option Value} {a : Nat} {M : Mm} {b0 : Int32} {st : List Value} (hl : st.length ≤ 4) (ho : isO "HandoverDesk$State" M.1 a = true) : EE 56 17 [l0, l1] (.int b0 :: .ref a :: st) M = (FF 25 (.ref a :: [.int b0]) M).bind (fun z => EE 56 20 [l0, l1] (psh z.1 st) z.2) := e_calv (av := [.int b0]) d56_17 c2_78 rfl rfl rfl r56_25 rfl hl ho
theorem d56_20 : decode (cod 56) 20 = .ok (.invokevirtual 54, 3) := by decide +kernel
theorem s56_20 {l0 l1 : Option Value} {a : Nat} {M : Mm} {b0 : Int32} {st : List Value} (hl : st.length ≤ 4) (ho : isO "HandoverDesk" M.1 a = true) : EE 56 20 [l0, l1] (.int b0 :: .ref a :: st) M = (FF 46 (.ref a :: [.int b0]) M).bind (fun z => EE 56 23 [l0, l1] (psh z.1 st) z.2) := e_calv (av := [.int b0]) d56_20 c2_54 rfl rfl rfl r56_46 rfl hl ho
theorem d56_23 : decode (cod 56) 23 = .ok (.ireturn, 1) := by decide +kernel
theorem s56_23 {M : Mm} {l0 l1 : Option Value} {v : Int32} : EE 56 23 [l0, l1] [.int v] M = some (some (.int v), M) := e_iret d56_23 rfl rfl
theorem FE56 {a : Nat} {b0 : Int32} {M : Mm} : FF 56 [.ref a, .int b0] M = EE 56 0 [some (.ref a), some (.int b0)] [] M := FF_eq 56 _ _ (Nat.le_of_ble_eq_true rfl)
theorem d57_0 : decode (cod 57) 0 = .ok (.aload_n 0, 1) := by decide +kernel
theorem s57_0 {M : Mm} {st : List Value} {x : Nat} : EE 57 0 [some (.ref x)] st M = EE 57 1 [some (.ref x)] (.ref x :: st) M := e_ld d57_0 rfl rfl rfl rfl rfl rfl
theorem d57_1 : decode (cod 57) 1 = .ok (.getfield 16, 3) := by decide +kernel
theorem s57_1 {n : Nat} {I : Nat → Nat → Int32} {R : Nat → Nat → Option Nat} {st : List Value} {l0 : Option Value} {a : Nat} : EE 57 1 [l0] (.ref a :: st) (n, I, R) = (gfI n I R 2 1 a).bind (fun z => EE 57 4 [l0] (z :: st) (n, I, R)) := e_getf d57_1 f2_16 rfl rfl
theorem d57_4 : decode (cod 57) 4 = .ok (.aload_n 0, 1) := by decide +kernel
theorem s57_4 {M : Mm} {st : List Value} {x : Nat} : EE 57 4 [some (.ref x)] st M = EE 57 5 [some (.ref x)] (.ref x :: st) M := e_ld d57_4 rfl rfl rfl rfl rfl rfl
theorem d57_5 : decode (cod 57) 5 = .ok (.getfield 12, 3) := by decide +kernel
theorem s57_5 {n : Nat} {I : Nat → Nat → Int32} {R : Nat → Nat → Option Nat} {st : List Value} {l0 : Option Value} {a : Nat} : EE 57 5 [l0] (.ref a :: st) (n, I, R) = (gfI n I R 2 0 a).bind (fun z => EE 57 8 [l0] (z :: st) (n, I, R)) := e_getf d57_5 f2_12 rfl rfl
theorem d57_8 : decode (cod 57) 8 = .ok (.invokevirtual 46, 3) := by decide +kernel
theorem s57_8 {l0 : Option Value} {a : Nat} {M : Mm} {b0 : Nat} {st : List Value} (hl : st.length ≤ 4) (ho : isO "HandoverDesk$State" M.1 a = true) : EE 57 8 [l0] (.ref b0 :: .ref a :: st) M = (FF 12 (.ref a :: [.ref b0]) M).bind (fun z => EE 57 11 [l0] (psh z.1 st) z.2) := e_calv (av := [.ref b0]) d57_8 c2_46 rfl rfl rfl r57_12 rfl hl ho
theorem d57_11 : decode (cod 57) 11 = .ok (.aload_n 0, 1) := by decide +kernel
theorem s57_11 {M : Mm} {st : List Value} {x : Nat} : EE 57 11 [some (.ref x)] st M = EE 57 12 [some (.ref x)] (.ref x :: st) M := e_ld d57_11 rfl rfl rfl rfl rfl rfl
theorem d57_12 : decode (cod 57) 12 = .ok (.aload_n 0, 1) := by decide +kernel
theorem s57_12 {M : Mm} {st : List Value} {x : Nat} : EE 57 12 [some (.ref x)] st M = EE 57 13 [some (.ref x)] (.ref x :: st) M := e_ld d57_12 rfl rfl rfl rfl rfl rfl
theorem d57_13 : decode (cod 57) 13 = .ok (.getfield 12, 3) := by decide +kernel
theorem s57_13 {n : Nat} {I : Nat → Nat → Int32} {R : Nat → Nat → Option Nat} {st : List Value} {l0 : Option Value} {a : Nat} : EE 57 13 [l0] (.ref a :: st) (n, I, R) = (gfI n I R 2 0 a).bind (fun z => EE 57 16 [l0] (z :: st) (n, I, R)) := e_getf d57_13 f2_12 rfl rfl
theorem d57_16 : decode (cod 57) 16 = .ok (.aload_n 0, 1) := by decide +kernel
theorem s57_16 {M : Mm} {st : List Value} {x : Nat} : EE 57 16 [some (.ref x)] st M = EE 57 17 [some (.ref x)] (.ref x :: st) M := e_ld d57_16 rfl rfl rfl rfl rfl rfl
theorem d57_17 : decode (cod 57) 17 = .ok (.getfield 12, 3) := by decide +kernel
theorem s57_17 {n : Nat} {I : Nat → Nat → Int32} {R : Nat → Nat → Option Nat} {st : List Value} {l0 : Option Value} {a : Nat} : EE 57 17 [l0] (.ref a :: st) (n, I, R) = (gfI n I R 2 0 a).bind (fun z => EE 57 20 [l0] (z :: st) (n, I, R)) := e_getf d57_17 f2_12 rfl rfl
theorem d57_20 : decode (cod 57) 20 = .ok (.invokevirtual 81, 3) := by decide +kernel
theorem s57_20 {l0 : Option Value} {a : Nat} {M : Mm} {st : List Value} (hl : st.length ≤ 4) (ho : isO "HandoverDesk$State" M.1 a = true) : EE 57 20 [l0] (.ref a :: st) M = (FF 28 (.ref a :: []) M).bind (fun z => EE 57 23 [l0] (psh z.1 st) z.2) := e_calv (av := []) d57_20 c2_81 rfl rfl rfl r57_28 rfl hl ho
theorem d57_23 : decode (cod 57) 23 = .ok (.invokevirtual 84, 3) := by decide +kernel
theorem s57_23 {l0 : Option Value} {a : Nat} {M : Mm} {b0 : Int32} {st : List Value} (hl : st.length ≤ 4) (ho : isO "HandoverDesk$State" M.1 a = true) : EE 57 23 [l0] (.int b0 :: .ref a :: st) M = (FF 29 (.ref a :: [.int b0]) M).bind (fun z => EE 57 26 [l0] (psh z.1 st) z.2) := e_calv (av := [.int b0]) d57_23 c2_84 rfl rfl rfl r57_29 rfl hl ho
theorem d57_26 : decode (cod 57) 26 = .ok (.invokevirtual 54, 3) := by decide +kernel
theorem s57_26 {l0 : Option Value} {a : Nat} {M : Mm} {b0 : Int32} {st : List Value} (hl : st.length ≤ 4) (ho : isO "HandoverDesk" M.1 a = true) : EE 57 26 [l0] (.int b0 :: .ref a :: st) M = (FF 46 (.ref a :: [.int b0]) M).bind (fun z => EE 57 29 [l0] (psh z.1 st) z.2) := e_calv (av := [.int b0]) d57_26 c2_54 rfl rfl rfl r57_46 rfl hl ho
theorem d57_29 : decode (cod 57) 29 = .ok (.ireturn, 1) := by decide +kernel
theorem s57_29 {M : Mm} {l0 : Option Value} {v : Int32} : EE 57 29 [l0] [.int v] M = some (some (.int v), M) := e_iret d57_29 rfl rfl
theorem FE57 {a : Nat} {M : Mm} : FF 57 [.ref a] M = EE 57 0 [some (.ref a)] [] M := FF_eq 57 _ _ (Nat.le_of_ble_eq_true rfl)
theorem d58_0 : decode (cod 58) 0 = .ok (.iload_n 1, 1) := by decide +kernel
theorem s58_0 {M : Mm} {st : List Value} {l0 l2 : Option Value} {x : Int32} : EE 58 0 [l0, some (.int x), l2] st M = EE 58 1 [l0, some (.int x), l2] (.int x :: st) M := e_ld d58_0 rfl rfl rfl rfl rfl rfl
theorem d58_1 : decode (cod 58) 1 = .ok (.invokestatic 87, 3) := by decide +kernel
theorem s58_1 {M : Mm} {l0 l1 l2 : Option Value} {b0 : Int32} {st : List Value} (hl : st.length ≤ 4) : EE 58 1 [l0, l1, l2] (.int b0 :: st) M = (FF 49 [.int b0] M).bind (fun z => EE 58 4 [l0, l1, l2] (psh z.1 st) z.2) := e_cals (av := [.int b0]) d58_1 c2_87 (Or.inl rfl) rfl rfl r58_49 rfl hl
theorem d58_4 : decode (cod 58) 4 = .ok (.ifCond .eq 26, 3) := by decide +kernel
theorem s58_4 {M : Mm} {st : List Value} {l0 l1 l2 : Option Value} {x : Int32} : EE 58 4 [l0, l1, l2] (.int x :: st) M = if x = 0 then EE 58 30 [l0, l1, l2] st M else EE 58 7 [l0, l1, l2] st M := e_eq0 d58_4 (by decide)
theorem d58_7 : decode (cod 58) 7 = .ok (.aload_n 0, 1) := by decide +kernel
theorem s58_7 {M : Mm} {st : List Value} {l1 l2 : Option Value} {x : Nat} : EE 58 7 [some (.ref x), l1, l2] st M = EE 58 8 [some (.ref x), l1, l2] (.ref x :: st) M := e_ld d58_7 rfl rfl rfl rfl rfl rfl
theorem d58_8 : decode (cod 58) 8 = .ok (.getfield 12, 3) := by decide +kernel
theorem s58_8 {n : Nat} {I : Nat → Nat → Int32} {R : Nat → Nat → Option Nat} {st : List Value} {l0 l1 l2 : Option Value} {a : Nat} : EE 58 8 [l0, l1, l2] (.ref a :: st) (n, I, R) = (gfI n I R 2 0 a).bind (fun z => EE 58 11 [l0, l1, l2] (z :: st) (n, I, R)) := e_getf d58_8 f2_12 rfl rfl
theorem d58_11 : decode (cod 58) 11 = .ok (.iload_n 2, 1) := by decide +kernel
theorem s58_11 {M : Mm} {st : List Value} {l0 l1 : Option Value} {x : Int32} : EE 58 11 [l0, l1, some (.int x)] st M = EE 58 12 [l0, l1, some (.int x)] (.int x :: st) M := e_ld d58_11 rfl rfl rfl rfl rfl rfl
theorem d58_12 : decode (cod 58) 12 = .ok (.invokevirtual 91, 3) := by decide +kernel
theorem s58_12 {l0 l1 l2 : Option Value} {a : Nat} {M : Mm} {b0 : Int32} {st : List Value} (hl : st.length ≤ 4) (ho : isO "HandoverDesk$State" M.1 a = true) : EE 58 12 [l0, l1, l2] (.int b0 :: .ref a :: st) M = (FF 18 (.ref a :: [.int b0]) M).bind (fun z => EE 58 15 [l0, l1, l2] (psh z.1 st) z.2) := e_calv (av := [.int b0]) d58_12 c2_91 rfl rfl rfl r58_18 rfl hl ho
theorem d58_15 : decode (cod 58) 15 = .ok (.ifCond .eq 15, 3) := by decide +kernel
theorem s58_15 {M : Mm} {st : List Value} {l0 l1 l2 : Option Value} {x : Int32} : EE 58 15 [l0, l1, l2] (.int x :: st) M = if x = 0 then EE 58 30 [l0, l1, l2] st M else EE 58 18 [l0, l1, l2] st M := e_eq0 d58_15 (by decide)
theorem d58_18 : decode (cod 58) 18 = .ok (.aload_n 0, 1) := by decide +kernel
theorem s58_18 {M : Mm} {st : List Value} {l1 l2 : Option Value} {x : Nat} : EE 58 18 [some (.ref x), l1, l2] st M = EE 58 19 [some (.ref x), l1, l2] (.ref x :: st) M := e_ld d58_18 rfl rfl rfl rfl rfl rfl
theorem d58_19 : decode (cod 58) 19 = .ok (.getfield 12, 3) := by decide +kernel
theorem s58_19 {n : Nat} {I : Nat → Nat → Int32} {R : Nat → Nat → Option Nat} {st : List Value} {l0 l1 l2 : Option Value} {a : Nat} : EE 58 19 [l0, l1, l2] (.ref a :: st) (n, I, R) = (gfI n I R 2 0 a).bind (fun z => EE 58 22 [l0, l1, l2] (z :: st) (n, I, R)) := e_getf d58_19 f2_12 rfl rfl
theorem d58_22 : decode (cod 58) 22 = .ok (.iload_n 1, 1) := by decide +kernel
theorem s58_22 {M : Mm} {st : List Value} {l0 l2 : Option Value} {x : Int32} : EE 58 22 [l0, some (.int x), l2] st M = EE 58 23 [l0, some (.int x), l2] (.int x :: st) M := e_ld d58_22 rfl rfl rfl rfl rfl rfl
theorem d58_23 : decode (cod 58) 23 = .ok (.iload_n 2, 1) := by decide +kernel
theorem s58_23 {M : Mm} {st : List Value} {l0 l1 : Option Value} {x : Int32} : EE 58 23 [l0, l1, some (.int x)] st M = EE 58 24 [l0, l1, some (.int x)] (.int x :: st) M := e_ld d58_23 rfl rfl rfl rfl rfl rfl
theorem d58_24 : decode (cod 58) 24 = .ok (.invokevirtual 94, 3) := by decide +kernel
theorem s58_24 {l0 l1 l2 : Option Value} {a : Nat} {M : Mm} {b0 : Int32} {b1 : Int32} {st : List Value} (hl : st.length ≤ 4) (ho : isO "HandoverDesk$State" M.1 a = true) : EE 58 24 [l0, l1, l2] (.int b1 :: .int b0 :: .ref a :: st) M = (FF 23 (.ref a :: [.int b0, .int b1]) M).bind (fun z => EE 58 27 [l0, l1, l2] (psh z.1 st) z.2) := e_calv (av := [.int b0, .int b1]) d58_24 c2_94 rfl rfl rfl r58_23 rfl hl ho
theorem d58_27 : decode (cod 58) 27 = .ok (.goto 4, 3) := by decide +kernel
theorem s58_27 {M : Mm} {st : List Value} {l0 l1 l2 : Option Value} : EE 58 27 [l0, l1, l2] st M = EE 58 31 [l0, l1, l2] st M := e_goto d58_27 (by decide)
theorem d58_30 : decode (cod 58) 30 = .ok (.iconst (-1), 1) := by decide +kernel
theorem s58_30 {M : Mm} {st : List Value} {l0 l1 l2 : Option Value} : EE 58 30 [l0, l1, l2] st M = EE 58 31 [l0, l1, l2] (.int ((-1)) :: st) M := e_con d58_30 k_con_m1
theorem d58_31 : decode (cod 58) 31 = .ok (.ireturn, 1) := by decide +kernel
theorem s58_31 {M : Mm} {l0 l1 l2 : Option Value} {v : Int32} : EE 58 31 [l0, l1, l2] [.int v] M = some (some (.int v), M) := e_iret d58_31 rfl rfl
theorem FE58 {a : Nat} {b0 : Int32} {b1 : Int32} {M : Mm} : FF 58 [.ref a, .int b0, .int b1] M = EE 58 0 [some (.ref a), some (.int b0), some (.int b1)] [] M := FF_eq 58 _ _ (Nat.le_of_ble_eq_true rfl)
theorem d59_0 : decode (cod 59) 0 = .ok (.aload_n 0, 1) := by decide +kernel
theorem s59_0 {M : Mm} {st : List Value} {l1 l2 : Option Value} {x : Nat} : EE 59 0 [some (.ref x), l1, l2] st M = EE 59 1 [some (.ref x), l1, l2] (.ref x :: st) M := e_ld d59_0 rfl rfl rfl rfl rfl rfl
theorem d59_1 : decode (cod 59) 1 = .ok (.getfield 12, 3) := by decide +kernel
theorem s59_1 {n : Nat} {I : Nat → Nat → Int32} {R : Nat → Nat → Option Nat} {st : List Value} {l0 l1 l2 : Option Value} {a : Nat} : EE 59 1 [l0, l1, l2] (.ref a :: st) (n, I, R) = (gfI n I R 2 0 a).bind (fun z => EE 59 4 [l0, l1, l2] (z :: st) (n, I, R)) := e_getf d59_1 f2_12 rfl rfl
theorem d59_4 : decode (cod 59) 4 = .ok (.iload_n 1, 1) := by decide +kernel
theorem s59_4 {M : Mm} {st : List Value} {l0 l2 : Option Value} {x : Int32} : EE 59 4 [l0, some (.int x), l2] st M = EE 59 5 [l0, some (.int x), l2] (.int x :: st) M := e_ld d59_4 rfl rfl rfl rfl rfl rfl
theorem d59_5 : decode (cod 59) 5 = .ok (.invokevirtual 91, 3) := by decide +kernel
theorem s59_5 {l0 l1 l2 : Option Value} {a : Nat} {M : Mm} {b0 : Int32} {st : List Value} (hl : st.length ≤ 4) (ho : isO "HandoverDesk$State" M.1 a = true) : EE 59 5 [l0, l1, l2] (.int b0 :: .ref a :: st) M = (FF 18 (.ref a :: [.int b0]) M).bind (fun z => EE 59 8 [l0, l1, l2] (psh z.1 st) z.2) := e_calv (av := [.int b0]) d59_5 c2_91 rfl rfl rfl r59_18 rfl hl ho
theorem d59_8 : decode (cod 59) 8 = .ok (.ifCond .ne 5, 3) := by decide +kernel
theorem s59_8 {M : Mm} {st : List Value} {l0 l1 l2 : Option Value} {x : Int32} : EE 59 8 [l0, l1, l2] (.int x :: st) M = if x = 0 then EE 59 11 [l0, l1, l2] st M else EE 59 13 [l0, l1, l2] st M := e_ne0 d59_8 (by decide)
theorem d59_11 : decode (cod 59) 11 = .ok (.iconst (-1), 1) := by decide +kernel
theorem s59_11 {M : Mm} {st : List Value} {l0 l1 l2 : Option Value} : EE 59 11 [l0, l1, l2] st M = EE 59 12 [l0, l1, l2] (.int ((-1)) :: st) M := e_con d59_11 k_con_m1
theorem d59_12 : decode (cod 59) 12 = .ok (.ireturn, 1) := by decide +kernel
theorem s59_12 {M : Mm} {l0 l1 l2 : Option Value} {v : Int32} : EE 59 12 [l0, l1, l2] [.int v] M = some (some (.int v), M) := e_iret d59_12 rfl rfl
theorem d59_13 : decode (cod 59) 13 = .ok (.iload_n 2, 1) := by decide +kernel
theorem s59_13 {M : Mm} {st : List Value} {l0 l1 : Option Value} {x : Int32} : EE 59 13 [l0, l1, some (.int x)] st M = EE 59 14 [l0, l1, some (.int x)] (.int x :: st) M := e_ld d59_13 rfl rfl rfl rfl rfl rfl
theorem d59_14 : decode (cod 59) 14 = .ok (.tableswitch 132 0 6 #[42, 59, 84, 93, 102, 112, 122], 42) := by decide +kernel
theorem s59_14_0 {M : Mm} {st : List Value} {l0 l1 l2 : Option Value} : EE 59 14 [l0, l1, l2] (.int (nI 0) :: st) M = EE 59 56 [l0, l1, l2] st M := e_tab d59_14 (by decide +kernel)
theorem s59_14_1 {M : Mm} {st : List Value} {l0 l1 l2 : Option Value} : EE 59 14 [l0, l1, l2] (.int (nI 1) :: st) M = EE 59 73 [l0, l1, l2] st M := e_tab d59_14 (by decide +kernel)
theorem s59_14_2 {M : Mm} {st : List Value} {l0 l1 l2 : Option Value} : EE 59 14 [l0, l1, l2] (.int (nI 2) :: st) M = EE 59 98 [l0, l1, l2] st M := e_tab d59_14 (by decide +kernel)
theorem s59_14_3 {M : Mm} {st : List Value} {l0 l1 l2 : Option Value} : EE 59 14 [l0, l1, l2] (.int (nI 3) :: st) M = EE 59 107 [l0, l1, l2] st M := e_tab d59_14 (by decide +kernel)
theorem s59_14_4 {M : Mm} {st : List Value} {l0 l1 l2 : Option Value} : EE 59 14 [l0, l1, l2] (.int (nI 4) :: st) M = EE 59 116 [l0, l1, l2] st M := e_tab d59_14 (by decide +kernel)
theorem s59_14_5 {M : Mm} {st : List Value} {l0 l1 l2 : Option Value} : EE 59 14 [l0, l1, l2] (.int (nI 5) :: st) M = EE 59 126 [l0, l1, l2] st M := e_tab d59_14 (by decide +kernel)
theorem s59_14_6 {M : Mm} {st : List Value} {l0 l1 l2 : Option Value} : EE 59 14 [l0, l1, l2] (.int (nI 6) :: st) M = EE 59 136 [l0, l1, l2] st M := e_tab d59_14 (by decide +kernel)
theorem s59_14_d {M : Mm} {st : List Value} {l0 l1 l2 : Option Value} {x : Int32} (h : x.toInt < 0 ∨ 6 < x.toInt) : EE 59 14 [l0, l1, l2] (.int x :: st) M = EE 59 146 [l0, l1, l2] st M := e_tab d59_14 (by rw [if_pos h]; decide +kernel)
theorem d59_56 : decode (cod 59) 56 = .ok (.aload_n 0, 1) := by decide +kernel
theorem s59_56 {M : Mm} {st : List Value} {l1 l2 : Option Value} {x : Nat} : EE 59 56 [some (.ref x), l1, l2] st M = EE 59 57 [some (.ref x), l1, l2] (.ref x :: st) M := e_ld d59_56 rfl rfl rfl rfl rfl rfl
theorem d59_57 : decode (cod 59) 57 = .ok (.getfield 12, 3) := by decide +kernel
theorem s59_57 {n : Nat} {I : Nat → Nat → Int32} {R : Nat → Nat → Option Nat} {st : List Value} {l0 l1 l2 : Option Value} {a : Nat} : EE 59 57 [l0, l1, l2] (.ref a :: st) (n, I, R) = (gfI n I R 2 0 a).bind (fun z => EE 59 60 [l0, l1, l2] (z :: st) (n, I, R)) := e_getf d59_57 f2_12 rfl rfl
theorem d59_60 : decode (cod 59) 60 = .ok (.iload_n 1, 1) := by decide +kernel
theorem s59_60 {M : Mm} {st : List Value} {l0 l2 : Option Value} {x : Int32} : EE 59 60 [l0, some (.int x), l2] st M = EE 59 61 [l0, some (.int x), l2] (.int x :: st) M := e_ld d59_60 rfl rfl rfl rfl rfl rfl
theorem d59_61 : decode (cod 59) 61 = .ok (.invokevirtual 97, 3) := by decide +kernel
theorem s59_61 {l0 l1 l2 : Option Value} {a : Nat} {M : Mm} {b0 : Int32} {st : List Value} (hl : st.length ≤ 4) (ho : isO "HandoverDesk$State" M.1 a = true) : EE 59 61 [l0, l1, l2] (.int b0 :: .ref a :: st) M = (FF 19 (.ref a :: [.int b0]) M).bind (fun z => EE 59 64 [l0, l1, l2] (psh z.1 st) z.2) := e_calv (av := [.int b0]) d59_61 c2_97 rfl rfl rfl r59_19 rfl hl ho
theorem d59_64 : decode (cod 59) 64 = .ok (.ifCond .eq 7, 3) := by decide +kernel
theorem s59_64 {M : Mm} {st : List Value} {l0 l1 l2 : Option Value} {x : Int32} : EE 59 64 [l0, l1, l2] (.int x :: st) M = if x = 0 then EE 59 71 [l0, l1, l2] st M else EE 59 67 [l0, l1, l2] st M := e_eq0 d59_64 (by decide)
theorem d59_67 : decode (cod 59) 67 = .ok (.iconst 1, 1) := by decide +kernel
theorem s59_67 {M : Mm} {st : List Value} {l0 l1 l2 : Option Value} : EE 59 67 [l0, l1, l2] st M = EE 59 68 [l0, l1, l2] (.int (nI 1) :: st) M := e_con d59_67 k_con_1
theorem d59_68 : decode (cod 59) 68 = .ok (.goto 4, 3) := by decide +kernel
theorem s59_68 {M : Mm} {st : List Value} {l0 l1 l2 : Option Value} : EE 59 68 [l0, l1, l2] st M = EE 59 72 [l0, l1, l2] st M := e_goto d59_68 (by decide)
theorem d59_71 : decode (cod 59) 71 = .ok (.iconst 0, 1) := by decide +kernel
theorem s59_71 {M : Mm} {st : List Value} {l0 l1 l2 : Option Value} : EE 59 71 [l0, l1, l2] st M = EE 59 72 [l0, l1, l2] (.int (nI 0) :: st) M := e_con d59_71 k_con_0
theorem d59_72 : decode (cod 59) 72 = .ok (.ireturn, 1) := by decide +kernel
theorem s59_72 {M : Mm} {l0 l1 l2 : Option Value} {v : Int32} : EE 59 72 [l0, l1, l2] [.int v] M = some (some (.int v), M) := e_iret d59_72 rfl rfl
theorem d59_73 : decode (cod 59) 73 = .ok (.aload_n 0, 1) := by decide +kernel
theorem s59_73 {M : Mm} {st : List Value} {l1 l2 : Option Value} {x : Nat} : EE 59 73 [some (.ref x), l1, l2] st M = EE 59 74 [some (.ref x), l1, l2] (.ref x :: st) M := e_ld d59_73 rfl rfl rfl rfl rfl rfl
theorem d59_74 : decode (cod 59) 74 = .ok (.getfield 12, 3) := by decide +kernel
theorem s59_74 {n : Nat} {I : Nat → Nat → Int32} {R : Nat → Nat → Option Nat} {st : List Value} {l0 l1 l2 : Option Value} {a : Nat} : EE 59 74 [l0, l1, l2] (.ref a :: st) (n, I, R) = (gfI n I R 2 0 a).bind (fun z => EE 59 77 [l0, l1, l2] (z :: st) (n, I, R)) := e_getf d59_74 f2_12 rfl rfl
theorem d59_77 : decode (cod 59) 77 = .ok (.iload_n 1, 1) := by decide +kernel
theorem s59_77 {M : Mm} {st : List Value} {l0 l2 : Option Value} {x : Int32} : EE 59 77 [l0, some (.int x), l2] st M = EE 59 78 [l0, some (.int x), l2] (.int x :: st) M := e_ld d59_77 rfl rfl rfl rfl rfl rfl
theorem d59_78 : decode (cod 59) 78 = .ok (.invokevirtual 97, 3) := by decide +kernel
theorem s59_78 {l0 l1 l2 : Option Value} {a : Nat} {M : Mm} {b0 : Int32} {st : List Value} (hl : st.length ≤ 4) (ho : isO "HandoverDesk$State" M.1 a = true) : EE 59 78 [l0, l1, l2] (.int b0 :: .ref a :: st) M = (FF 19 (.ref a :: [.int b0]) M).bind (fun z => EE 59 81 [l0, l1, l2] (psh z.1 st) z.2) := e_calv (av := [.int b0]) d59_78 c2_97 rfl rfl rfl r59_19 rfl hl ho
theorem d59_81 : decode (cod 59) 81 = .ok (.ifCond .eq 14, 3) := by decide +kernel
theorem s59_81 {M : Mm} {st : List Value} {l0 l1 l2 : Option Value} {x : Int32} : EE 59 81 [l0, l1, l2] (.int x :: st) M = if x = 0 then EE 59 95 [l0, l1, l2] st M else EE 59 84 [l0, l1, l2] st M := e_eq0 d59_81 (by decide)
theorem d59_84 : decode (cod 59) 84 = .ok (.aload_n 0, 1) := by decide +kernel
theorem s59_84 {M : Mm} {st : List Value} {l1 l2 : Option Value} {x : Nat} : EE 59 84 [some (.ref x), l1, l2] st M = EE 59 85 [some (.ref x), l1, l2] (.ref x :: st) M := e_ld d59_84 rfl rfl rfl rfl rfl rfl
theorem d59_85 : decode (cod 59) 85 = .ok (.getfield 12, 3) := by decide +kernel
theorem s59_85 {n : Nat} {I : Nat → Nat → Int32} {R : Nat → Nat → Option Nat} {st : List Value} {l0 l1 l2 : Option Value} {a : Nat} : EE 59 85 [l0, l1, l2] (.ref a :: st) (n, I, R) = (gfI n I R 2 0 a).bind (fun z => EE 59 88 [l0, l1, l2] (z :: st) (n, I, R)) := e_getf d59_85 f2_12 rfl rfl
theorem d59_88 : decode (cod 59) 88 = .ok (.iload_n 1, 1) := by decide +kernel
theorem s59_88 {M : Mm} {st : List Value} {l0 l2 : Option Value} {x : Int32} : EE 59 88 [l0, some (.int x), l2] st M = EE 59 89 [l0, some (.int x), l2] (.int x :: st) M := e_ld d59_88 rfl rfl rfl rfl rfl rfl
theorem d59_89 : decode (cod 59) 89 = .ok (.invokevirtual 100, 3) := by decide +kernel
theorem s59_89 {l0 l1 l2 : Option Value} {a : Nat} {M : Mm} {b0 : Int32} {st : List Value} (hl : st.length ≤ 4) (ho : isO "HandoverDesk$State" M.1 a = true) : EE 59 89 [l0, l1, l2] (.int b0 :: .ref a :: st) M = (FF 37 (.ref a :: [.int b0]) M).bind (fun z => EE 59 92 [l0, l1, l2] (psh z.1 st) z.2) := e_calv (av := [.int b0]) d59_89 c2_100 rfl rfl rfl r59_37 rfl hl ho
theorem d59_92 : decode (cod 59) 92 = .ok (.goto 5, 3) := by decide +kernel
theorem s59_92 {M : Mm} {st : List Value} {l0 l1 l2 : Option Value} : EE 59 92 [l0, l1, l2] st M = EE 59 97 [l0, l1, l2] st M := e_goto d59_92 (by decide)
theorem d59_95 : decode (cod 59) 95 = .ok (.bipush (-6), 2) := by decide +kernel
theorem s59_95 {M : Mm} {st : List Value} {l0 l1 l2 : Option Value} : EE 59 95 [l0, l1, l2] st M = EE 59 97 [l0, l1, l2] (.int ((-6)) :: st) M := e_bip d59_95 k_bip_m6
theorem d59_97 : decode (cod 59) 97 = .ok (.ireturn, 1) := by decide +kernel
theorem s59_97 {M : Mm} {l0 l1 l2 : Option Value} {v : Int32} : EE 59 97 [l0, l1, l2] [.int v] M = some (some (.int v), M) := e_iret d59_97 rfl rfl
theorem d59_98 : decode (cod 59) 98 = .ok (.aload_n 0, 1) := by decide +kernel
theorem s59_98 {M : Mm} {st : List Value} {l1 l2 : Option Value} {x : Nat} : EE 59 98 [some (.ref x), l1, l2] st M = EE 59 99 [some (.ref x), l1, l2] (.ref x :: st) M := e_ld d59_98 rfl rfl rfl rfl rfl rfl
theorem d59_99 : decode (cod 59) 99 = .ok (.getfield 12, 3) := by decide +kernel
theorem s59_99 {n : Nat} {I : Nat → Nat → Int32} {R : Nat → Nat → Option Nat} {st : List Value} {l0 l1 l2 : Option Value} {a : Nat} : EE 59 99 [l0, l1, l2] (.ref a :: st) (n, I, R) = (gfI n I R 2 0 a).bind (fun z => EE 59 102 [l0, l1, l2] (z :: st) (n, I, R)) := e_getf d59_99 f2_12 rfl rfl
theorem d59_102 : decode (cod 59) 102 = .ok (.iload_n 1, 1) := by decide +kernel
theorem s59_102 {M : Mm} {st : List Value} {l0 l2 : Option Value} {x : Int32} : EE 59 102 [l0, some (.int x), l2] st M = EE 59 103 [l0, some (.int x), l2] (.int x :: st) M := e_ld d59_102 rfl rfl rfl rfl rfl rfl
theorem d59_103 : decode (cod 59) 103 = .ok (.invokevirtual 103, 3) := by decide +kernel
theorem s59_103 {l0 l1 l2 : Option Value} {a : Nat} {M : Mm} {b0 : Int32} {st : List Value} (hl : st.length ≤ 4) (ho : isO "HandoverDesk$State" M.1 a = true) : EE 59 103 [l0, l1, l2] (.int b0 :: .ref a :: st) M = (FF 21 (.ref a :: [.int b0]) M).bind (fun z => EE 59 106 [l0, l1, l2] (psh z.1 st) z.2) := e_calv (av := [.int b0]) d59_103 c2_103 rfl rfl rfl r59_21 rfl hl ho
theorem d59_106 : decode (cod 59) 106 = .ok (.ireturn, 1) := by decide +kernel
theorem s59_106 {M : Mm} {l0 l1 l2 : Option Value} {v : Int32} : EE 59 106 [l0, l1, l2] [.int v] M = some (some (.int v), M) := e_iret d59_106 rfl rfl
theorem d59_107 : decode (cod 59) 107 = .ok (.aload_n 0, 1) := by decide +kernel
theorem s59_107 {M : Mm} {st : List Value} {l1 l2 : Option Value} {x : Nat} : EE 59 107 [some (.ref x), l1, l2] st M = EE 59 108 [some (.ref x), l1, l2] (.ref x :: st) M := e_ld d59_107 rfl rfl rfl rfl rfl rfl
theorem d59_108 : decode (cod 59) 108 = .ok (.getfield 12, 3) := by decide +kernel
theorem s59_108 {n : Nat} {I : Nat → Nat → Int32} {R : Nat → Nat → Option Nat} {st : List Value} {l0 l1 l2 : Option Value} {a : Nat} : EE 59 108 [l0, l1, l2] (.ref a :: st) (n, I, R) = (gfI n I R 2 0 a).bind (fun z => EE 59 111 [l0, l1, l2] (z :: st) (n, I, R)) := e_getf d59_108 f2_12 rfl rfl
theorem d59_111 : decode (cod 59) 111 = .ok (.iload_n 1, 1) := by decide +kernel
theorem s59_111 {M : Mm} {st : List Value} {l0 l2 : Option Value} {x : Int32} : EE 59 111 [l0, some (.int x), l2] st M = EE 59 112 [l0, some (.int x), l2] (.int x :: st) M := e_ld d59_111 rfl rfl rfl rfl rfl rfl
theorem d59_112 : decode (cod 59) 112 = .ok (.invokevirtual 106, 3) := by decide +kernel
theorem s59_112 {l0 l1 l2 : Option Value} {a : Nat} {M : Mm} {b0 : Int32} {st : List Value} (hl : st.length ≤ 4) (ho : isO "HandoverDesk$State" M.1 a = true) : EE 59 112 [l0, l1, l2] (.int b0 :: .ref a :: st) M = (FF 27 (.ref a :: [.int b0]) M).bind (fun z => EE 59 115 [l0, l1, l2] (psh z.1 st) z.2) := e_calv (av := [.int b0]) d59_112 c2_106 rfl rfl rfl r59_27 rfl hl ho
theorem d59_115 : decode (cod 59) 115 = .ok (.ireturn, 1) := by decide +kernel
theorem s59_115 {M : Mm} {l0 l1 l2 : Option Value} {v : Int32} : EE 59 115 [l0, l1, l2] [.int v] M = some (some (.int v), M) := e_iret d59_115 rfl rfl
theorem d59_116 : decode (cod 59) 116 = .ok (.aload_n 0, 1) := by decide +kernel
theorem s59_116 {M : Mm} {st : List Value} {l1 l2 : Option Value} {x : Nat} : EE 59 116 [some (.ref x), l1, l2] st M = EE 59 117 [some (.ref x), l1, l2] (.ref x :: st) M := e_ld d59_116 rfl rfl rfl rfl rfl rfl
theorem d59_117 : decode (cod 59) 117 = .ok (.getfield 12, 3) := by decide +kernel
theorem s59_117 {n : Nat} {I : Nat → Nat → Int32} {R : Nat → Nat → Option Nat} {st : List Value} {l0 l1 l2 : Option Value} {a : Nat} : EE 59 117 [l0, l1, l2] (.ref a :: st) (n, I, R) = (gfI n I R 2 0 a).bind (fun z => EE 59 120 [l0, l1, l2] (z :: st) (n, I, R)) := e_getf d59_117 f2_12 rfl rfl
theorem d59_120 : decode (cod 59) 120 = .ok (.getfield 109, 3) := by decide +kernel
theorem s59_120 {n : Nat} {I : Nat → Nat → Int32} {R : Nat → Nat → Option Nat} {st : List Value} {l0 l1 l2 : Option Value} {a : Nat} : EE 59 120 [l0, l1, l2] (.ref a :: st) (n, I, R) = (gfI n I R 1 5 a).bind (fun z => EE 59 123 [l0, l1, l2] (z :: st) (n, I, R)) := e_getf d59_120 f2_109 rfl rfl
theorem d59_123 : decode (cod 59) 123 = .ok (.iload_n 1, 1) := by decide +kernel
theorem s59_123 {M : Mm} {st : List Value} {l0 l2 : Option Value} {x : Int32} : EE 59 123 [l0, some (.int x), l2] st M = EE 59 124 [l0, some (.int x), l2] (.int x :: st) M := e_ld d59_123 rfl rfl rfl rfl rfl rfl
theorem d59_124 : decode (cod 59) 124 = .ok (.iaload, 1) := by decide +kernel
theorem s59_124 {n : Nat} {I : Nat → Nat → Int32} {R : Nat → Nat → Option Nat} {st : List Value} {l0 l1 l2 : Option Value} {j : Int32} {a : Nat} : EE 59 124 [l0, l1, l2] (.int j :: .ref a :: st) (n, I, R) = (ardI 5 n I a j).bind (fun z => EE 59 125 [l0, l1, l2] (.int z :: st) (n, I, R)) := e_iald d59_124
theorem d59_125 : decode (cod 59) 125 = .ok (.ireturn, 1) := by decide +kernel
theorem s59_125 {M : Mm} {l0 l1 l2 : Option Value} {v : Int32} : EE 59 125 [l0, l1, l2] [.int v] M = some (some (.int v), M) := e_iret d59_125 rfl rfl
theorem d59_126 : decode (cod 59) 126 = .ok (.aload_n 0, 1) := by decide +kernel
theorem s59_126 {M : Mm} {st : List Value} {l1 l2 : Option Value} {x : Nat} : EE 59 126 [some (.ref x), l1, l2] st M = EE 59 127 [some (.ref x), l1, l2] (.ref x :: st) M := e_ld d59_126 rfl rfl rfl rfl rfl rfl
theorem d59_127 : decode (cod 59) 127 = .ok (.getfield 12, 3) := by decide +kernel
theorem s59_127 {n : Nat} {I : Nat → Nat → Int32} {R : Nat → Nat → Option Nat} {st : List Value} {l0 l1 l2 : Option Value} {a : Nat} : EE 59 127 [l0, l1, l2] (.ref a :: st) (n, I, R) = (gfI n I R 2 0 a).bind (fun z => EE 59 130 [l0, l1, l2] (z :: st) (n, I, R)) := e_getf d59_127 f2_12 rfl rfl
theorem d59_130 : decode (cod 59) 130 = .ok (.getfield 113, 3) := by decide +kernel
theorem s59_130 {n : Nat} {I : Nat → Nat → Int32} {R : Nat → Nat → Option Nat} {st : List Value} {l0 l1 l2 : Option Value} {a : Nat} : EE 59 130 [l0, l1, l2] (.ref a :: st) (n, I, R) = (gfI n I R 1 6 a).bind (fun z => EE 59 133 [l0, l1, l2] (z :: st) (n, I, R)) := e_getf d59_130 f2_113 rfl rfl
theorem d59_133 : decode (cod 59) 133 = .ok (.iload_n 1, 1) := by decide +kernel
theorem s59_133 {M : Mm} {st : List Value} {l0 l2 : Option Value} {x : Int32} : EE 59 133 [l0, some (.int x), l2] st M = EE 59 134 [l0, some (.int x), l2] (.int x :: st) M := e_ld d59_133 rfl rfl rfl rfl rfl rfl
theorem d59_134 : decode (cod 59) 134 = .ok (.iaload, 1) := by decide +kernel
theorem s59_134 {n : Nat} {I : Nat → Nat → Int32} {R : Nat → Nat → Option Nat} {st : List Value} {l0 l1 l2 : Option Value} {j : Int32} {a : Nat} : EE 59 134 [l0, l1, l2] (.int j :: .ref a :: st) (n, I, R) = (ardI 5 n I a j).bind (fun z => EE 59 135 [l0, l1, l2] (.int z :: st) (n, I, R)) := e_iald d59_134
theorem d59_135 : decode (cod 59) 135 = .ok (.ireturn, 1) := by decide +kernel
theorem s59_135 {M : Mm} {l0 l1 l2 : Option Value} {v : Int32} : EE 59 135 [l0, l1, l2] [.int v] M = some (some (.int v), M) := e_iret d59_135 rfl rfl
theorem d59_136 : decode (cod 59) 136 = .ok (.aload_n 0, 1) := by decide +kernel
theorem s59_136 {M : Mm} {st : List Value} {l1 l2 : Option Value} {x : Nat} : EE 59 136 [some (.ref x), l1, l2] st M = EE 59 137 [some (.ref x), l1, l2] (.ref x :: st) M := e_ld d59_136 rfl rfl rfl rfl rfl rfl
theorem d59_137 : decode (cod 59) 137 = .ok (.getfield 12, 3) := by decide +kernel
theorem s59_137 {n : Nat} {I : Nat → Nat → Int32} {R : Nat → Nat → Option Nat} {st : List Value} {l0 l1 l2 : Option Value} {a : Nat} : EE 59 137 [l0, l1, l2] (.ref a :: st) (n, I, R) = (gfI n I R 2 0 a).bind (fun z => EE 59 140 [l0, l1, l2] (z :: st) (n, I, R)) := e_getf d59_137 f2_12 rfl rfl
theorem d59_140 : decode (cod 59) 140 = .ok (.getfield 116, 3) := by decide +kernel
theorem s59_140 {n : Nat} {I : Nat → Nat → Int32} {R : Nat → Nat → Option Nat} {st : List Value} {l0 l1 l2 : Option Value} {a : Nat} : EE 59 140 [l0, l1, l2] (.ref a :: st) (n, I, R) = (gfI n I R 1 7 a).bind (fun z => EE 59 143 [l0, l1, l2] (z :: st) (n, I, R)) := e_getf d59_140 f2_116 rfl rfl
theorem d59_143 : decode (cod 59) 143 = .ok (.iload_n 1, 1) := by decide +kernel
theorem s59_143 {M : Mm} {st : List Value} {l0 l2 : Option Value} {x : Int32} : EE 59 143 [l0, some (.int x), l2] st M = EE 59 144 [l0, some (.int x), l2] (.int x :: st) M := e_ld d59_143 rfl rfl rfl rfl rfl rfl
theorem d59_144 : decode (cod 59) 144 = .ok (.iaload, 1) := by decide +kernel
theorem s59_144 {n : Nat} {I : Nat → Nat → Int32} {R : Nat → Nat → Option Nat} {st : List Value} {l0 l1 l2 : Option Value} {j : Int32} {a : Nat} : EE 59 144 [l0, l1, l2] (.int j :: .ref a :: st) (n, I, R) = (ardI 5 n I a j).bind (fun z => EE 59 145 [l0, l1, l2] (.int z :: st) (n, I, R)) := e_iald d59_144
theorem d59_145 : decode (cod 59) 145 = .ok (.ireturn, 1) := by decide +kernel
theorem s59_145 {M : Mm} {l0 l1 l2 : Option Value} {v : Int32} : EE 59 145 [l0, l1, l2] [.int v] M = some (some (.int v), M) := e_iret d59_145 rfl rfl
theorem d59_146 : decode (cod 59) 146 = .ok (.bipush (-2), 2) := by decide +kernel
theorem s59_146 {M : Mm} {st : List Value} {l0 l1 l2 : Option Value} : EE 59 146 [l0, l1, l2] st M = EE 59 148 [l0, l1, l2] (.int ((-2)) :: st) M := e_bip d59_146 k_bip_m2
theorem d59_148 : decode (cod 59) 148 = .ok (.ireturn, 1) := by decide +kernel
theorem s59_148 {M : Mm} {l0 l1 l2 : Option Value} {v : Int32} : EE 59 148 [l0, l1, l2] [.int v] M = some (some (.int v), M) := e_iret d59_148 rfl rfl
theorem FE59 {a : Nat} {b0 : Int32} {b1 : Int32} {M : Mm} : FF 59 [.ref a, .int b0, .int b1] M = EE 59 0 [some (.ref a), some (.int b0), some (.int b1)] [] M := FF_eq 59 _ _ (Nat.le_of_ble_eq_true rfl)
theorem d60_0 : decode (cod 60) 0 = .ok (.iload_n 1, 1) := by decide +kernel
theorem s60_0 {M : Mm} {st : List Value} {l0 : Option Value} {x : Int32} : EE 60 0 [l0, some (.int x)] st M = EE 60 1 [l0, some (.int x)] (.int x :: st) M := e_ld d60_0 rfl rfl rfl rfl rfl rfl
theorem d60_1 : decode (cod 60) 1 = .ok (.ifCond .lt 26, 3) := by decide +kernel
theorem s60_1 {M : Mm} {st : List Value} {l0 l1 : Option Value} {x : Int32} : EE 60 1 [l0, l1] (.int x :: st) M = if x < 0 then EE 60 27 [l0, l1] st M else EE 60 4 [l0, l1] st M := e_lt0 d60_1 (by decide)
theorem d60_4 : decode (cod 60) 4 = .ok (.iload_n 1, 1) := by decide +kernel
theorem s60_4 {M : Mm} {st : List Value} {l0 : Option Value} {x : Int32} : EE 60 4 [l0, some (.int x)] st M = EE 60 5 [l0, some (.int x)] (.int x :: st) M := e_ld d60_4 rfl rfl rfl rfl rfl rfl
theorem d60_5 : decode (cod 60) 5 = .ok (.aload_n 0, 1) := by decide +kernel
theorem s60_5 {M : Mm} {st : List Value} {l1 : Option Value} {x : Nat} : EE 60 5 [some (.ref x), l1] st M = EE 60 6 [some (.ref x), l1] (.ref x :: st) M := e_ld d60_5 rfl rfl rfl rfl rfl rfl
theorem d60_6 : decode (cod 60) 6 = .ok (.getfield 12, 3) := by decide +kernel
theorem s60_6 {n : Nat} {I : Nat → Nat → Int32} {R : Nat → Nat → Option Nat} {st : List Value} {l0 l1 : Option Value} {a : Nat} : EE 60 6 [l0, l1] (.ref a :: st) (n, I, R) = (gfI n I R 2 0 a).bind (fun z => EE 60 9 [l0, l1] (z :: st) (n, I, R)) := e_getf d60_6 f2_12 rfl rfl
theorem d60_9 : decode (cod 60) 9 = .ok (.getfield 119, 3) := by decide +kernel
theorem s60_9 {n : Nat} {I : Nat → Nat → Int32} {R : Nat → Nat → Option Nat} {st : List Value} {l0 l1 : Option Value} {a : Nat} : EE 60 9 [l0, l1] (.ref a :: st) (n, I, R) = (gfI n I R 1 10 a).bind (fun z => EE 60 12 [l0, l1] (z :: st) (n, I, R)) := e_getf d60_9 f2_119 rfl rfl
theorem d60_12 : decode (cod 60) 12 = .ok (.if_icmp .ge 15, 3) := by decide +kernel
theorem s60_12 {M : Mm} {st : List Value} {l0 l1 : Option Value} {x y : Int32} : EE 60 12 [l0, l1] (.int y :: .int x :: st) M = if y ≤ x then EE 60 27 [l0, l1] st M else EE 60 15 [l0, l1] st M := e_cge d60_12 (by decide)
theorem d60_15 : decode (cod 60) 15 = .ok (.aload_n 0, 1) := by decide +kernel
theorem s60_15 {M : Mm} {st : List Value} {l1 : Option Value} {x : Nat} : EE 60 15 [some (.ref x), l1] st M = EE 60 16 [some (.ref x), l1] (.ref x :: st) M := e_ld d60_15 rfl rfl rfl rfl rfl rfl
theorem d60_16 : decode (cod 60) 16 = .ok (.getfield 12, 3) := by decide +kernel
theorem s60_16 {n : Nat} {I : Nat → Nat → Int32} {R : Nat → Nat → Option Nat} {st : List Value} {l0 l1 : Option Value} {a : Nat} : EE 60 16 [l0, l1] (.ref a :: st) (n, I, R) = (gfI n I R 2 0 a).bind (fun z => EE 60 19 [l0, l1] (z :: st) (n, I, R)) := e_getf d60_16 f2_12 rfl rfl
theorem d60_19 : decode (cod 60) 19 = .ok (.getfield 123, 3) := by decide +kernel
theorem s60_19 {n : Nat} {I : Nat → Nat → Int32} {R : Nat → Nat → Option Nat} {st : List Value} {l0 l1 : Option Value} {a : Nat} : EE 60 19 [l0, l1] (.ref a :: st) (n, I, R) = (gfI n I R 1 4 a).bind (fun z => EE 60 22 [l0, l1] (z :: st) (n, I, R)) := e_getf d60_19 f2_123 rfl rfl
theorem d60_22 : decode (cod 60) 22 = .ok (.iload_n 1, 1) := by decide +kernel
theorem s60_22 {M : Mm} {st : List Value} {l0 : Option Value} {x : Int32} : EE 60 22 [l0, some (.int x)] st M = EE 60 23 [l0, some (.int x)] (.int x :: st) M := e_ld d60_22 rfl rfl rfl rfl rfl rfl
theorem d60_23 : decode (cod 60) 23 = .ok (.iaload, 1) := by decide +kernel
theorem s60_23 {n : Nat} {I : Nat → Nat → Int32} {R : Nat → Nat → Option Nat} {st : List Value} {l0 l1 : Option Value} {j : Int32} {a : Nat} : EE 60 23 [l0, l1] (.int j :: .ref a :: st) (n, I, R) = (ardI 5 n I a j).bind (fun z => EE 60 24 [l0, l1] (.int z :: st) (n, I, R)) := e_iald d60_23
theorem d60_24 : decode (cod 60) 24 = .ok (.goto 4, 3) := by decide +kernel
theorem s60_24 {M : Mm} {st : List Value} {l0 l1 : Option Value} : EE 60 24 [l0, l1] st M = EE 60 28 [l0, l1] st M := e_goto d60_24 (by decide)
theorem d60_27 : decode (cod 60) 27 = .ok (.iconst (-1), 1) := by decide +kernel
theorem s60_27 {M : Mm} {st : List Value} {l0 l1 : Option Value} : EE 60 27 [l0, l1] st M = EE 60 28 [l0, l1] (.int ((-1)) :: st) M := e_con d60_27 k_con_m1
theorem d60_28 : decode (cod 60) 28 = .ok (.ireturn, 1) := by decide +kernel
theorem s60_28 {M : Mm} {l0 l1 : Option Value} {v : Int32} : EE 60 28 [l0, l1] [.int v] M = some (some (.int v), M) := e_iret d60_28 rfl rfl
theorem FE60 {a : Nat} {b0 : Int32} {M : Mm} : FF 60 [.ref a, .int b0] M = EE 60 0 [some (.ref a), some (.int b0)] [] M := FF_eq 60 _ _ (Nat.le_of_ble_eq_true rfl)
theorem d61_0 : decode (cod 61) 0 = .ok (.iload_n 1, 1) := by decide +kernel
theorem s61_0 {M : Mm} {st : List Value} {l0 l2 : Option Value} {x : Int32} : EE 61 0 [l0, some (.int x), l2] st M = EE 61 1 [l0, some (.int x), l2] (.int x :: st) M := e_ld d61_0 rfl rfl rfl rfl rfl rfl
theorem d61_1 : decode (cod 61) 1 = .ok (.bipush 11, 2) := by decide +kernel
theorem s61_1 {M : Mm} {st : List Value} {l0 l1 l2 : Option Value} : EE 61 1 [l0, l1, l2] st M = EE 61 3 [l0, l1, l2] (.int (nI 11) :: st) M := e_bip d61_1 k_bip_11
theorem d61_3 : decode (cod 61) 3 = .ok (.isub, 1) := by decide +kernel
theorem s61_3 {M : Mm} {st : List Value} {l0 l1 l2 : Option Value} {x y : Int32} : EE 61 3 [l0, l1, l2] (.int y :: .int x :: st) M = EE 61 4 [l0, l1, l2] (.int (x - y) :: st) M := e_II d61_3 rfl rfl rfl rfl rfl rfl
theorem d61_4 : decode (cod 61) 4 = .ok (.istore_n 2, 1) := by decide +kernel
theorem s61_4 {M : Mm} {st : List Value} {l0 l1 l2 : Option Value} {x : Int32} : EE 61 4 [l0, l1, l2] (.int x :: st) M = EE 61 5 [l0, cln l1, some (.int x)] st M := e_st1 d61_4 rfl rfl rfl rfl rfl rfl rfl (Nat.le_of_ble_eq_true rfl) rfl
theorem d61_5 : decode (cod 61) 5 = .ok (.iload_n 2, 1) := by decide +kernel
theorem s61_5 {M : Mm} {st : List Value} {l0 l1 : Option Value} {x : Int32} : EE 61 5 [l0, l1, some (.int x)] st M = EE 61 6 [l0, l1, some (.int x)] (.int x :: st) M := e_ld d61_5 rfl rfl rfl rfl rfl rfl
theorem d61_6 : decode (cod 61) 6 = .ok (.invokestatic 126, 3) := by decide +kernel
theorem s61_6 {M : Mm} {l0 l1 l2 : Option Value} {b0 : Int32} {st : List Value} (hl : st.length ≤ 4) : EE 61 6 [l0, l1, l2] (.int b0 :: st) M = (FF 45 [.int b0] M).bind (fun z => EE 61 9 [l0, l1, l2] (psh z.1 st) z.2) := e_cals (av := [.int b0]) d61_6 c2_126 (Or.inl rfl) rfl rfl r61_45 rfl hl
theorem d61_9 : decode (cod 61) 9 = .ok (.ifCond .eq 13, 3) := by decide +kernel
theorem s61_9 {M : Mm} {st : List Value} {l0 l1 l2 : Option Value} {x : Int32} : EE 61 9 [l0, l1, l2] (.int x :: st) M = if x = 0 then EE 61 22 [l0, l1, l2] st M else EE 61 12 [l0, l1, l2] st M := e_eq0 d61_9 (by decide)
theorem d61_12 : decode (cod 61) 12 = .ok (.aload_n 0, 1) := by decide +kernel
theorem s61_12 {M : Mm} {st : List Value} {l1 l2 : Option Value} {x : Nat} : EE 61 12 [some (.ref x), l1, l2] st M = EE 61 13 [some (.ref x), l1, l2] (.ref x :: st) M := e_ld d61_12 rfl rfl rfl rfl rfl rfl
theorem d61_13 : decode (cod 61) 13 = .ok (.getfield 12, 3) := by decide +kernel
theorem s61_13 {n : Nat} {I : Nat → Nat → Int32} {R : Nat → Nat → Option Nat} {st : List Value} {l0 l1 l2 : Option Value} {a : Nat} : EE 61 13 [l0, l1, l2] (.ref a :: st) (n, I, R) = (gfI n I R 2 0 a).bind (fun z => EE 61 16 [l0, l1, l2] (z :: st) (n, I, R)) := e_getf d61_13 f2_12 rfl rfl
theorem d61_16 : decode (cod 61) 16 = .ok (.getfield 129, 3) := by decide +kernel
theorem s61_16 {n : Nat} {I : Nat → Nat → Int32} {R : Nat → Nat → Option Nat} {st : List Value} {l0 l1 l2 : Option Value} {a : Nat} : EE 61 16 [l0, l1, l2] (.ref a :: st) (n, I, R) = (gfI n I R 1 0 a).bind (fun z => EE 61 19 [l0, l1, l2] (z :: st) (n, I, R)) := e_getf d61_16 f2_129 rfl rfl
theorem d61_19 : decode (cod 61) 19 = .ok (.iload_n 2, 1) := by decide +kernel
theorem s61_19 {M : Mm} {st : List Value} {l0 l1 : Option Value} {x : Int32} : EE 61 19 [l0, l1, some (.int x)] st M = EE 61 20 [l0, l1, some (.int x)] (.int x :: st) M := e_ld d61_19 rfl rfl rfl rfl rfl rfl
theorem d61_20 : decode (cod 61) 20 = .ok (.iaload, 1) := by decide +kernel
theorem s61_20 {n : Nat} {I : Nat → Nat → Int32} {R : Nat → Nat → Option Nat} {st : List Value} {l0 l1 l2 : Option Value} {j : Int32} {a : Nat} : EE 61 20 [l0, l1, l2] (.int j :: .ref a :: st) (n, I, R) = (ardI 5 n I a j).bind (fun z => EE 61 21 [l0, l1, l2] (.int z :: st) (n, I, R)) := e_iald d61_20
theorem d61_21 : decode (cod 61) 21 = .ok (.ireturn, 1) := by decide +kernel
theorem s61_21 {M : Mm} {l0 l1 l2 : Option Value} {v : Int32} : EE 61 21 [l0, l1, l2] [.int v] M = some (some (.int v), M) := e_iret d61_21 rfl rfl
theorem d61_22 : decode (cod 61) 22 = .ok (.iload_n 1, 1) := by decide +kernel
theorem s61_22 {M : Mm} {st : List Value} {l0 l2 : Option Value} {x : Int32} : EE 61 22 [l0, some (.int x), l2] st M = EE 61 23 [l0, some (.int x), l2] (.int x :: st) M := e_ld d61_22 rfl rfl rfl rfl rfl rfl
theorem d61_23 : decode (cod 61) 23 = .ok (.tableswitch 192 0 18 #[89, 97, 105, 113, 121, 129, 137, 145, 153, 161, 170, 192, 192, 192, 192, 192, 192, 179, 187], 89) := by decide +kernel
theorem s61_23_0 {M : Mm} {st : List Value} {l0 l1 l2 : Option Value} : EE 61 23 [l0, l1, l2] (.int (nI 0) :: st) M = EE 61 112 [l0, l1, l2] st M := e_tab d61_23 (by decide +kernel)
theorem s61_23_1 {M : Mm} {st : List Value} {l0 l1 l2 : Option Value} : EE 61 23 [l0, l1, l2] (.int (nI 1) :: st) M = EE 61 120 [l0, l1, l2] st M := e_tab d61_23 (by decide +kernel)
theorem s61_23_2 {M : Mm} {st : List Value} {l0 l1 l2 : Option Value} : EE 61 23 [l0, l1, l2] (.int (nI 2) :: st) M = EE 61 128 [l0, l1, l2] st M := e_tab d61_23 (by decide +kernel)
theorem s61_23_3 {M : Mm} {st : List Value} {l0 l1 l2 : Option Value} : EE 61 23 [l0, l1, l2] (.int (nI 3) :: st) M = EE 61 136 [l0, l1, l2] st M := e_tab d61_23 (by decide +kernel)
theorem s61_23_4 {M : Mm} {st : List Value} {l0 l1 l2 : Option Value} : EE 61 23 [l0, l1, l2] (.int (nI 4) :: st) M = EE 61 144 [l0, l1, l2] st M := e_tab d61_23 (by decide +kernel)
theorem s61_23_5 {M : Mm} {st : List Value} {l0 l1 l2 : Option Value} : EE 61 23 [l0, l1, l2] (.int (nI 5) :: st) M = EE 61 152 [l0, l1, l2] st M := e_tab d61_23 (by decide +kernel)
theorem s61_23_6 {M : Mm} {st : List Value} {l0 l1 l2 : Option Value} : EE 61 23 [l0, l1, l2] (.int (nI 6) :: st) M = EE 61 160 [l0, l1, l2] st M := e_tab d61_23 (by decide +kernel)
theorem s61_23_7 {M : Mm} {st : List Value} {l0 l1 l2 : Option Value} : EE 61 23 [l0, l1, l2] (.int (nI 7) :: st) M = EE 61 168 [l0, l1, l2] st M := e_tab d61_23 (by decide +kernel)
theorem s61_23_8 {M : Mm} {st : List Value} {l0 l1 l2 : Option Value} : EE 61 23 [l0, l1, l2] (.int (nI 8) :: st) M = EE 61 176 [l0, l1, l2] st M := e_tab d61_23 (by decide +kernel)
theorem s61_23_9 {M : Mm} {st : List Value} {l0 l1 l2 : Option Value} : EE 61 23 [l0, l1, l2] (.int (nI 9) :: st) M = EE 61 184 [l0, l1, l2] st M := e_tab d61_23 (by decide +kernel)
theorem s61_23_10 {M : Mm} {st : List Value} {l0 l1 l2 : Option Value} : EE 61 23 [l0, l1, l2] (.int (nI 10) :: st) M = EE 61 193 [l0, l1, l2] st M := e_tab d61_23 (by decide +kernel)
theorem s61_23_11 {M : Mm} {st : List Value} {l0 l1 l2 : Option Value} : EE 61 23 [l0, l1, l2] (.int (nI 11) :: st) M = EE 61 215 [l0, l1, l2] st M := e_tab d61_23 (by decide +kernel)
theorem s61_23_12 {M : Mm} {st : List Value} {l0 l1 l2 : Option Value} : EE 61 23 [l0, l1, l2] (.int (nI 12) :: st) M = EE 61 215 [l0, l1, l2] st M := e_tab d61_23 (by decide +kernel)
theorem s61_23_13 {M : Mm} {st : List Value} {l0 l1 l2 : Option Value} : EE 61 23 [l0, l1, l2] (.int (nI 13) :: st) M = EE 61 215 [l0, l1, l2] st M := e_tab d61_23 (by decide +kernel)
theorem s61_23_14 {M : Mm} {st : List Value} {l0 l1 l2 : Option Value} : EE 61 23 [l0, l1, l2] (.int (nI 14) :: st) M = EE 61 215 [l0, l1, l2] st M := e_tab d61_23 (by decide +kernel)
theorem s61_23_15 {M : Mm} {st : List Value} {l0 l1 l2 : Option Value} : EE 61 23 [l0, l1, l2] (.int (nI 15) :: st) M = EE 61 215 [l0, l1, l2] st M := e_tab d61_23 (by decide +kernel)
theorem s61_23_16 {M : Mm} {st : List Value} {l0 l1 l2 : Option Value} : EE 61 23 [l0, l1, l2] (.int (nI 16) :: st) M = EE 61 215 [l0, l1, l2] st M := e_tab d61_23 (by decide +kernel)
theorem s61_23_17 {M : Mm} {st : List Value} {l0 l1 l2 : Option Value} : EE 61 23 [l0, l1, l2] (.int (nI 17) :: st) M = EE 61 202 [l0, l1, l2] st M := e_tab d61_23 (by decide +kernel)
theorem s61_23_18 {M : Mm} {st : List Value} {l0 l1 l2 : Option Value} : EE 61 23 [l0, l1, l2] (.int (nI 18) :: st) M = EE 61 210 [l0, l1, l2] st M := e_tab d61_23 (by decide +kernel)
theorem s61_23_d {M : Mm} {st : List Value} {l0 l1 l2 : Option Value} {x : Int32} (h : x.toInt < 0 ∨ 18 < x.toInt) : EE 61 23 [l0, l1, l2] (.int x :: st) M = EE 61 215 [l0, l1, l2] st M := e_tab d61_23 (by rw [if_pos h]; decide +kernel)
theorem d61_112 : decode (cod 61) 112 = .ok (.aload_n 0, 1) := by decide +kernel
theorem s61_112 {M : Mm} {st : List Value} {l1 l2 : Option Value} {x : Nat} : EE 61 112 [some (.ref x), l1, l2] st M = EE 61 113 [some (.ref x), l1, l2] (.ref x :: st) M := e_ld d61_112 rfl rfl rfl rfl rfl rfl
theorem d61_113 : decode (cod 61) 113 = .ok (.getfield 12, 3) := by decide +kernel
theorem s61_113 {n : Nat} {I : Nat → Nat → Int32} {R : Nat → Nat → Option Nat} {st : List Value} {l0 l1 l2 : Option Value} {a : Nat} : EE 61 113 [l0, l1, l2] (.ref a :: st) (n, I, R) = (gfI n I R 2 0 a).bind (fun z => EE 61 116 [l0, l1, l2] (z :: st) (n, I, R)) := e_getf d61_113 f2_12 rfl rfl
theorem d61_116 : decode (cod 61) 116 = .ok (.getfield 132, 3) := by decide +kernel
theorem s61_116 {n : Nat} {I : Nat → Nat → Int32} {R : Nat → Nat → Option Nat} {st : List Value} {l0 l1 l2 : Option Value} {a : Nat} : EE 61 116 [l0, l1, l2] (.ref a :: st) (n, I, R) = (gfI n I R 1 11 a).bind (fun z => EE 61 119 [l0, l1, l2] (z :: st) (n, I, R)) := e_getf d61_116 f2_132 rfl rfl
theorem d61_119 : decode (cod 61) 119 = .ok (.ireturn, 1) := by decide +kernel
theorem s61_119 {M : Mm} {l0 l1 l2 : Option Value} {v : Int32} : EE 61 119 [l0, l1, l2] [.int v] M = some (some (.int v), M) := e_iret d61_119 rfl rfl
theorem d61_120 : decode (cod 61) 120 = .ok (.aload_n 0, 1) := by decide +kernel
theorem s61_120 {M : Mm} {st : List Value} {l1 l2 : Option Value} {x : Nat} : EE 61 120 [some (.ref x), l1, l2] st M = EE 61 121 [some (.ref x), l1, l2] (.ref x :: st) M := e_ld d61_120 rfl rfl rfl rfl rfl rfl
theorem d61_121 : decode (cod 61) 121 = .ok (.getfield 12, 3) := by decide +kernel
theorem s61_121 {n : Nat} {I : Nat → Nat → Int32} {R : Nat → Nat → Option Nat} {st : List Value} {l0 l1 l2 : Option Value} {a : Nat} : EE 61 121 [l0, l1, l2] (.ref a :: st) (n, I, R) = (gfI n I R 2 0 a).bind (fun z => EE 61 124 [l0, l1, l2] (z :: st) (n, I, R)) := e_getf d61_121 f2_12 rfl rfl
theorem d61_124 : decode (cod 61) 124 = .ok (.invokevirtual 135, 3) := by decide +kernel
theorem s61_124 {l0 l1 l2 : Option Value} {a : Nat} {M : Mm} {st : List Value} (hl : st.length ≤ 4) (ho : isO "HandoverDesk$State" M.1 a = true) : EE 61 124 [l0, l1, l2] (.ref a :: st) M = (FF 26 (.ref a :: []) M).bind (fun z => EE 61 127 [l0, l1, l2] (psh z.1 st) z.2) := e_calv (av := []) d61_124 c2_135 rfl rfl rfl r61_26 rfl hl ho
theorem d61_127 : decode (cod 61) 127 = .ok (.ireturn, 1) := by decide +kernel
theorem s61_127 {M : Mm} {l0 l1 l2 : Option Value} {v : Int32} : EE 61 127 [l0, l1, l2] [.int v] M = some (some (.int v), M) := e_iret d61_127 rfl rfl
theorem d61_128 : decode (cod 61) 128 = .ok (.aload_n 0, 1) := by decide +kernel
theorem s61_128 {M : Mm} {st : List Value} {l1 l2 : Option Value} {x : Nat} : EE 61 128 [some (.ref x), l1, l2] st M = EE 61 129 [some (.ref x), l1, l2] (.ref x :: st) M := e_ld d61_128 rfl rfl rfl rfl rfl rfl
theorem d61_129 : decode (cod 61) 129 = .ok (.getfield 12, 3) := by decide +kernel
theorem s61_129 {n : Nat} {I : Nat → Nat → Int32} {R : Nat → Nat → Option Nat} {st : List Value} {l0 l1 l2 : Option Value} {a : Nat} : EE 61 129 [l0, l1, l2] (.ref a :: st) (n, I, R) = (gfI n I R 2 0 a).bind (fun z => EE 61 132 [l0, l1, l2] (z :: st) (n, I, R)) := e_getf d61_129 f2_12 rfl rfl
theorem d61_132 : decode (cod 61) 132 = .ok (.getfield 138, 3) := by decide +kernel
theorem s61_132 {n : Nat} {I : Nat → Nat → Int32} {R : Nat → Nat → Option Nat} {st : List Value} {l0 l1 l2 : Option Value} {a : Nat} : EE 61 132 [l0, l1, l2] (.ref a :: st) (n, I, R) = (gfI n I R 1 8 a).bind (fun z => EE 61 135 [l0, l1, l2] (z :: st) (n, I, R)) := e_getf d61_132 f2_138 rfl rfl
theorem d61_135 : decode (cod 61) 135 = .ok (.ireturn, 1) := by decide +kernel
theorem s61_135 {M : Mm} {l0 l1 l2 : Option Value} {v : Int32} : EE 61 135 [l0, l1, l2] [.int v] M = some (some (.int v), M) := e_iret d61_135 rfl rfl
theorem d61_136 : decode (cod 61) 136 = .ok (.aload_n 0, 1) := by decide +kernel
theorem s61_136 {M : Mm} {st : List Value} {l1 l2 : Option Value} {x : Nat} : EE 61 136 [some (.ref x), l1, l2] st M = EE 61 137 [some (.ref x), l1, l2] (.ref x :: st) M := e_ld d61_136 rfl rfl rfl rfl rfl rfl
theorem d61_137 : decode (cod 61) 137 = .ok (.getfield 12, 3) := by decide +kernel
theorem s61_137 {n : Nat} {I : Nat → Nat → Int32} {R : Nat → Nat → Option Nat} {st : List Value} {l0 l1 l2 : Option Value} {a : Nat} : EE 61 137 [l0, l1, l2] (.ref a :: st) (n, I, R) = (gfI n I R 2 0 a).bind (fun z => EE 61 140 [l0, l1, l2] (z :: st) (n, I, R)) := e_getf d61_137 f2_12 rfl rfl
theorem d61_140 : decode (cod 61) 140 = .ok (.invokevirtual 141, 3) := by decide +kernel
theorem s61_140 {l0 l1 l2 : Option Value} {a : Nat} {M : Mm} {st : List Value} (hl : st.length ≤ 4) (ho : isO "HandoverDesk$State" M.1 a = true) : EE 61 140 [l0, l1, l2] (.ref a :: st) M = (FF 39 (.ref a :: []) M).bind (fun z => EE 61 143 [l0, l1, l2] (psh z.1 st) z.2) := e_calv (av := []) d61_140 c2_141 rfl rfl rfl r61_39 rfl hl ho
theorem d61_143 : decode (cod 61) 143 = .ok (.ireturn, 1) := by decide +kernel
theorem s61_143 {M : Mm} {l0 l1 l2 : Option Value} {v : Int32} : EE 61 143 [l0, l1, l2] [.int v] M = some (some (.int v), M) := e_iret d61_143 rfl rfl
theorem d61_144 : decode (cod 61) 144 = .ok (.aload_n 0, 1) := by decide +kernel
theorem s61_144 {M : Mm} {st : List Value} {l1 l2 : Option Value} {x : Nat} : EE 61 144 [some (.ref x), l1, l2] st M = EE 61 145 [some (.ref x), l1, l2] (.ref x :: st) M := e_ld d61_144 rfl rfl rfl rfl rfl rfl
theorem d61_145 : decode (cod 61) 145 = .ok (.getfield 12, 3) := by decide +kernel
theorem s61_145 {n : Nat} {I : Nat → Nat → Int32} {R : Nat → Nat → Option Nat} {st : List Value} {l0 l1 l2 : Option Value} {a : Nat} : EE 61 145 [l0, l1, l2] (.ref a :: st) (n, I, R) = (gfI n I R 2 0 a).bind (fun z => EE 61 148 [l0, l1, l2] (z :: st) (n, I, R)) := e_getf d61_145 f2_12 rfl rfl
theorem d61_148 : decode (cod 61) 148 = .ok (.getfield 144, 3) := by decide +kernel
theorem s61_148 {n : Nat} {I : Nat → Nat → Int32} {R : Nat → Nat → Option Nat} {st : List Value} {l0 l1 l2 : Option Value} {a : Nat} : EE 61 148 [l0, l1, l2] (.ref a :: st) (n, I, R) = (gfI n I R 1 12 a).bind (fun z => EE 61 151 [l0, l1, l2] (z :: st) (n, I, R)) := e_getf d61_148 f2_144 rfl rfl
theorem d61_151 : decode (cod 61) 151 = .ok (.ireturn, 1) := by decide +kernel
theorem s61_151 {M : Mm} {l0 l1 l2 : Option Value} {v : Int32} : EE 61 151 [l0, l1, l2] [.int v] M = some (some (.int v), M) := e_iret d61_151 rfl rfl
theorem d61_152 : decode (cod 61) 152 = .ok (.aload_n 0, 1) := by decide +kernel
theorem s61_152 {M : Mm} {st : List Value} {l1 l2 : Option Value} {x : Nat} : EE 61 152 [some (.ref x), l1, l2] st M = EE 61 153 [some (.ref x), l1, l2] (.ref x :: st) M := e_ld d61_152 rfl rfl rfl rfl rfl rfl
theorem d61_153 : decode (cod 61) 153 = .ok (.getfield 12, 3) := by decide +kernel
theorem s61_153 {n : Nat} {I : Nat → Nat → Int32} {R : Nat → Nat → Option Nat} {st : List Value} {l0 l1 l2 : Option Value} {a : Nat} : EE 61 153 [l0, l1, l2] (.ref a :: st) (n, I, R) = (gfI n I R 2 0 a).bind (fun z => EE 61 156 [l0, l1, l2] (z :: st) (n, I, R)) := e_getf d61_153 f2_12 rfl rfl
theorem d61_156 : decode (cod 61) 156 = .ok (.getfield 147, 3) := by decide +kernel
theorem s61_156 {n : Nat} {I : Nat → Nat → Int32} {R : Nat → Nat → Option Nat} {st : List Value} {l0 l1 l2 : Option Value} {a : Nat} : EE 61 156 [l0, l1, l2] (.ref a :: st) (n, I, R) = (gfI n I R 1 13 a).bind (fun z => EE 61 159 [l0, l1, l2] (z :: st) (n, I, R)) := e_getf d61_156 f2_147 rfl rfl
theorem d61_159 : decode (cod 61) 159 = .ok (.ireturn, 1) := by decide +kernel
theorem s61_159 {M : Mm} {l0 l1 l2 : Option Value} {v : Int32} : EE 61 159 [l0, l1, l2] [.int v] M = some (some (.int v), M) := e_iret d61_159 rfl rfl
theorem d61_160 : decode (cod 61) 160 = .ok (.aload_n 0, 1) := by decide +kernel
theorem s61_160 {M : Mm} {st : List Value} {l1 l2 : Option Value} {x : Nat} : EE 61 160 [some (.ref x), l1, l2] st M = EE 61 161 [some (.ref x), l1, l2] (.ref x :: st) M := e_ld d61_160 rfl rfl rfl rfl rfl rfl
theorem d61_161 : decode (cod 61) 161 = .ok (.getfield 12, 3) := by decide +kernel
theorem s61_161 {n : Nat} {I : Nat → Nat → Int32} {R : Nat → Nat → Option Nat} {st : List Value} {l0 l1 l2 : Option Value} {a : Nat} : EE 61 161 [l0, l1, l2] (.ref a :: st) (n, I, R) = (gfI n I R 2 0 a).bind (fun z => EE 61 164 [l0, l1, l2] (z :: st) (n, I, R)) := e_getf d61_161 f2_12 rfl rfl
theorem d61_164 : decode (cod 61) 164 = .ok (.getfield 150, 3) := by decide +kernel
theorem s61_164 {n : Nat} {I : Nat → Nat → Int32} {R : Nat → Nat → Option Nat} {st : List Value} {l0 l1 l2 : Option Value} {a : Nat} : EE 61 164 [l0, l1, l2] (.ref a :: st) (n, I, R) = (gfI n I R 1 14 a).bind (fun z => EE 61 167 [l0, l1, l2] (z :: st) (n, I, R)) := e_getf d61_164 f2_150 rfl rfl
theorem d61_167 : decode (cod 61) 167 = .ok (.ireturn, 1) := by decide +kernel
theorem s61_167 {M : Mm} {l0 l1 l2 : Option Value} {v : Int32} : EE 61 167 [l0, l1, l2] [.int v] M = some (some (.int v), M) := e_iret d61_167 rfl rfl
theorem d61_168 : decode (cod 61) 168 = .ok (.aload_n 0, 1) := by decide +kernel
theorem s61_168 {M : Mm} {st : List Value} {l1 l2 : Option Value} {x : Nat} : EE 61 168 [some (.ref x), l1, l2] st M = EE 61 169 [some (.ref x), l1, l2] (.ref x :: st) M := e_ld d61_168 rfl rfl rfl rfl rfl rfl
theorem d61_169 : decode (cod 61) 169 = .ok (.getfield 12, 3) := by decide +kernel
theorem s61_169 {n : Nat} {I : Nat → Nat → Int32} {R : Nat → Nat → Option Nat} {st : List Value} {l0 l1 l2 : Option Value} {a : Nat} : EE 61 169 [l0, l1, l2] (.ref a :: st) (n, I, R) = (gfI n I R 2 0 a).bind (fun z => EE 61 172 [l0, l1, l2] (z :: st) (n, I, R)) := e_getf d61_169 f2_12 rfl rfl
theorem d61_172 : decode (cod 61) 172 = .ok (.getfield 153, 3) := by decide +kernel
theorem s61_172 {n : Nat} {I : Nat → Nat → Int32} {R : Nat → Nat → Option Nat} {st : List Value} {l0 l1 l2 : Option Value} {a : Nat} : EE 61 172 [l0, l1, l2] (.ref a :: st) (n, I, R) = (gfI n I R 1 15 a).bind (fun z => EE 61 175 [l0, l1, l2] (z :: st) (n, I, R)) := e_getf d61_172 f2_153 rfl rfl
theorem d61_175 : decode (cod 61) 175 = .ok (.ireturn, 1) := by decide +kernel
theorem s61_175 {M : Mm} {l0 l1 l2 : Option Value} {v : Int32} : EE 61 175 [l0, l1, l2] [.int v] M = some (some (.int v), M) := e_iret d61_175 rfl rfl
theorem d61_176 : decode (cod 61) 176 = .ok (.aload_n 0, 1) := by decide +kernel
theorem s61_176 {M : Mm} {st : List Value} {l1 l2 : Option Value} {x : Nat} : EE 61 176 [some (.ref x), l1, l2] st M = EE 61 177 [some (.ref x), l1, l2] (.ref x :: st) M := e_ld d61_176 rfl rfl rfl rfl rfl rfl
theorem d61_177 : decode (cod 61) 177 = .ok (.getfield 12, 3) := by decide +kernel
theorem s61_177 {n : Nat} {I : Nat → Nat → Int32} {R : Nat → Nat → Option Nat} {st : List Value} {l0 l1 l2 : Option Value} {a : Nat} : EE 61 177 [l0, l1, l2] (.ref a :: st) (n, I, R) = (gfI n I R 2 0 a).bind (fun z => EE 61 180 [l0, l1, l2] (z :: st) (n, I, R)) := e_getf d61_177 f2_12 rfl rfl
theorem d61_180 : decode (cod 61) 180 = .ok (.getfield 156, 3) := by decide +kernel
theorem s61_180 {n : Nat} {I : Nat → Nat → Int32} {R : Nat → Nat → Option Nat} {st : List Value} {l0 l1 l2 : Option Value} {a : Nat} : EE 61 180 [l0, l1, l2] (.ref a :: st) (n, I, R) = (gfI n I R 1 16 a).bind (fun z => EE 61 183 [l0, l1, l2] (z :: st) (n, I, R)) := e_getf d61_180 f2_156 rfl rfl
theorem d61_183 : decode (cod 61) 183 = .ok (.ireturn, 1) := by decide +kernel
theorem s61_183 {M : Mm} {l0 l1 l2 : Option Value} {v : Int32} : EE 61 183 [l0, l1, l2] [.int v] M = some (some (.int v), M) := e_iret d61_183 rfl rfl
theorem d61_184 : decode (cod 61) 184 = .ok (.aload_n 0, 1) := by decide +kernel
theorem s61_184 {M : Mm} {st : List Value} {l1 l2 : Option Value} {x : Nat} : EE 61 184 [some (.ref x), l1, l2] st M = EE 61 185 [some (.ref x), l1, l2] (.ref x :: st) M := e_ld d61_184 rfl rfl rfl rfl rfl rfl
theorem d61_185 : decode (cod 61) 185 = .ok (.getfield 12, 3) := by decide +kernel
theorem s61_185 {n : Nat} {I : Nat → Nat → Int32} {R : Nat → Nat → Option Nat} {st : List Value} {l0 l1 l2 : Option Value} {a : Nat} : EE 61 185 [l0, l1, l2] (.ref a :: st) (n, I, R) = (gfI n I R 2 0 a).bind (fun z => EE 61 188 [l0, l1, l2] (z :: st) (n, I, R)) := e_getf d61_185 f2_12 rfl rfl
theorem d61_188 : decode (cod 61) 188 = .ok (.iconst 2, 1) := by decide +kernel
theorem s61_188 {M : Mm} {st : List Value} {l0 l1 l2 : Option Value} : EE 61 188 [l0, l1, l2] st M = EE 61 189 [l0, l1, l2] (.int (nI 2) :: st) M := e_con d61_188 k_con_2
theorem d61_189 : decode (cod 61) 189 = .ok (.invokevirtual 159, 3) := by decide +kernel
theorem s61_189 {l0 l1 l2 : Option Value} {a : Nat} {M : Mm} {b0 : Int32} {st : List Value} (hl : st.length ≤ 4) (ho : isO "HandoverDesk$State" M.1 a = true) : EE 61 189 [l0, l1, l2] (.int b0 :: .ref a :: st) M = (FF 40 (.ref a :: [.int b0]) M).bind (fun z => EE 61 192 [l0, l1, l2] (psh z.1 st) z.2) := e_calv (av := [.int b0]) d61_189 c2_159 rfl rfl rfl r61_40 rfl hl ho
theorem d61_192 : decode (cod 61) 192 = .ok (.ireturn, 1) := by decide +kernel
theorem s61_192 {M : Mm} {l0 l1 l2 : Option Value} {v : Int32} : EE 61 192 [l0, l1, l2] [.int v] M = some (some (.int v), M) := e_iret d61_192 rfl rfl
theorem d61_193 : decode (cod 61) 193 = .ok (.aload_n 0, 1) := by decide +kernel
theorem s61_193 {M : Mm} {st : List Value} {l1 l2 : Option Value} {x : Nat} : EE 61 193 [some (.ref x), l1, l2] st M = EE 61 194 [some (.ref x), l1, l2] (.ref x :: st) M := e_ld d61_193 rfl rfl rfl rfl rfl rfl
theorem d61_194 : decode (cod 61) 194 = .ok (.getfield 12, 3) := by decide +kernel
theorem s61_194 {n : Nat} {I : Nat → Nat → Int32} {R : Nat → Nat → Option Nat} {st : List Value} {l0 l1 l2 : Option Value} {a : Nat} : EE 61 194 [l0, l1, l2] (.ref a :: st) (n, I, R) = (gfI n I R 2 0 a).bind (fun z => EE 61 197 [l0, l1, l2] (z :: st) (n, I, R)) := e_getf d61_194 f2_12 rfl rfl
theorem d61_197 : decode (cod 61) 197 = .ok (.iconst 1, 1) := by decide +kernel
theorem s61_197 {M : Mm} {st : List Value} {l0 l1 l2 : Option Value} : EE 61 197 [l0, l1, l2] st M = EE 61 198 [l0, l1, l2] (.int (nI 1) :: st) M := e_con d61_197 k_con_1
theorem d61_198 : decode (cod 61) 198 = .ok (.invokevirtual 159, 3) := by decide +kernel
theorem s61_198 {l0 l1 l2 : Option Value} {a : Nat} {M : Mm} {b0 : Int32} {st : List Value} (hl : st.length ≤ 4) (ho : isO "HandoverDesk$State" M.1 a = true) : EE 61 198 [l0, l1, l2] (.int b0 :: .ref a :: st) M = (FF 40 (.ref a :: [.int b0]) M).bind (fun z => EE 61 201 [l0, l1, l2] (psh z.1 st) z.2) := e_calv (av := [.int b0]) d61_198 c2_159 rfl rfl rfl r61_40 rfl hl ho
theorem d61_201 : decode (cod 61) 201 = .ok (.ireturn, 1) := by decide +kernel
theorem s61_201 {M : Mm} {l0 l1 l2 : Option Value} {v : Int32} : EE 61 201 [l0, l1, l2] [.int v] M = some (some (.int v), M) := e_iret d61_201 rfl rfl
theorem d61_202 : decode (cod 61) 202 = .ok (.aload_n 0, 1) := by decide +kernel
theorem s61_202 {M : Mm} {st : List Value} {l1 l2 : Option Value} {x : Nat} : EE 61 202 [some (.ref x), l1, l2] st M = EE 61 203 [some (.ref x), l1, l2] (.ref x :: st) M := e_ld d61_202 rfl rfl rfl rfl rfl rfl
theorem d61_203 : decode (cod 61) 203 = .ok (.getfield 33, 3) := by decide +kernel
theorem s61_203 {n : Nat} {I : Nat → Nat → Int32} {R : Nat → Nat → Option Nat} {st : List Value} {l0 l1 l2 : Option Value} {a : Nat} : EE 61 203 [l0, l1, l2] (.ref a :: st) (n, I, R) = (gfI n I R 2 6 a).bind (fun z => EE 61 206 [l0, l1, l2] (z :: st) (n, I, R)) := e_getf d61_203 f2_33 rfl rfl
theorem d61_206 : decode (cod 61) 206 = .ok (.getfield 162, 3) := by decide +kernel
theorem s61_206 {n : Nat} {I : Nat → Nat → Int32} {R : Nat → Nat → Option Nat} {st : List Value} {l0 l1 l2 : Option Value} {a : Nat} : EE 61 206 [l0, l1, l2] (.ref a :: st) (n, I, R) = (gfI n I R 0 2 a).bind (fun z => EE 61 209 [l0, l1, l2] (z :: st) (n, I, R)) := e_getf d61_206 f2_162 rfl rfl
theorem d61_209 : decode (cod 61) 209 = .ok (.ireturn, 1) := by decide +kernel
theorem s61_209 {M : Mm} {l0 l1 l2 : Option Value} {v : Int32} : EE 61 209 [l0, l1, l2] [.int v] M = some (some (.int v), M) := e_iret d61_209 rfl rfl
theorem d61_210 : decode (cod 61) 210 = .ok (.aload_n 0, 1) := by decide +kernel
theorem s61_210 {M : Mm} {st : List Value} {l1 l2 : Option Value} {x : Nat} : EE 61 210 [some (.ref x), l1, l2] st M = EE 61 211 [some (.ref x), l1, l2] (.ref x :: st) M := e_ld d61_210 rfl rfl rfl rfl rfl rfl
theorem d61_211 : decode (cod 61) 211 = .ok (.getfield 165, 3) := by decide +kernel
theorem s61_211 {n : Nat} {I : Nat → Nat → Int32} {R : Nat → Nat → Option Nat} {st : List Value} {l0 l1 l2 : Option Value} {a : Nat} : EE 61 211 [l0, l1, l2] (.ref a :: st) (n, I, R) = (gfI n I R 2 3 a).bind (fun z => EE 61 214 [l0, l1, l2] (z :: st) (n, I, R)) := e_getf d61_211 f2_165 rfl rfl
theorem d61_214 : decode (cod 61) 214 = .ok (.ireturn, 1) := by decide +kernel
theorem s61_214 {M : Mm} {l0 l1 l2 : Option Value} {v : Int32} : EE 61 214 [l0, l1, l2] [.int v] M = some (some (.int v), M) := e_iret d61_214 rfl rfl
theorem d61_215 : decode (cod 61) 215 = .ok (.bipush (-2), 2) := by decide +kernel
theorem s61_215 {M : Mm} {st : List Value} {l0 l1 l2 : Option Value} : EE 61 215 [l0, l1, l2] st M = EE 61 217 [l0, l1, l2] (.int ((-2)) :: st) M := e_bip d61_215 k_bip_m2
theorem d61_217 : decode (cod 61) 217 = .ok (.ireturn, 1) := by decide +kernel
theorem s61_217 {M : Mm} {l0 l1 l2 : Option Value} {v : Int32} : EE 61 217 [l0, l1, l2] [.int v] M = some (some (.int v), M) := e_iret d61_217 rfl rfl
theorem FE61 {a : Nat} {b0 : Int32} {M : Mm} : FF 61 [.ref a, .int b0] M = EE 61 0 [some (.ref a), some (.int b0), none] [] M := FF_eq 61 _ _ (Nat.le_of_ble_eq_true rfl)
theorem d62_0 : decode (cod 62) 0 = .ok (.iload_n 1, 1) := by decide +kernel
theorem s62_0 {M : Mm} {st : List Value} {l0 l2 : Option Value} {x : Int32} : EE 62 0 [l0, some (.int x), l2] st M = EE 62 1 [l0, some (.int x), l2] (.int x :: st) M := e_ld d62_0 rfl rfl rfl rfl rfl rfl
theorem d62_1 : decode (cod 62) 1 = .ok (.invokestatic 168, 3) := by decide +kernel
theorem s62_1 {M : Mm} {l0 l1 l2 : Option Value} {b0 : Int32} {st : List Value} (hl : st.length ≤ 4) : EE 62 1 [l0, l1, l2] (.int b0 :: st) M = (FF 50 [.int b0] M).bind (fun z => EE 62 4 [l0, l1, l2] (psh z.1 st) z.2) := e_cals (av := [.int b0]) d62_1 c2_168 (Or.inl rfl) rfl rfl r62_50 rfl hl
theorem d62_4 : decode (cod 62) 4 = .ok (.ifCond .eq 12, 3) := by decide +kernel
theorem s62_4 {M : Mm} {st : List Value} {l0 l1 l2 : Option Value} {x : Int32} : EE 62 4 [l0, l1, l2] (.int x :: st) M = if x = 0 then EE 62 16 [l0, l1, l2] st M else EE 62 7 [l0, l1, l2] st M := e_eq0 d62_4 (by decide)
theorem d62_7 : decode (cod 62) 7 = .ok (.iload_n 2, 1) := by decide +kernel
theorem s62_7 {M : Mm} {st : List Value} {l0 l1 : Option Value} {x : Int32} : EE 62 7 [l0, l1, some (.int x)] st M = EE 62 8 [l0, l1, some (.int x)] (.int x :: st) M := e_ld d62_7 rfl rfl rfl rfl rfl rfl
theorem d62_8 : decode (cod 62) 8 = .ok (.ifCond .lt 8, 3) := by decide +kernel
theorem s62_8 {M : Mm} {st : List Value} {l0 l1 l2 : Option Value} {x : Int32} : EE 62 8 [l0, l1, l2] (.int x :: st) M = if x < 0 then EE 62 16 [l0, l1, l2] st M else EE 62 11 [l0, l1, l2] st M := e_lt0 d62_8 (by decide)
theorem d62_11 : decode (cod 62) 11 = .ok (.iload_n 2, 1) := by decide +kernel
theorem s62_11 {M : Mm} {st : List Value} {l0 l1 : Option Value} {x : Int32} : EE 62 11 [l0, l1, some (.int x)] st M = EE 62 12 [l0, l1, some (.int x)] (.int x :: st) M := e_ld d62_11 rfl rfl rfl rfl rfl rfl
theorem d62_12 : decode (cod 62) 12 = .ok (.iconst 1, 1) := by decide +kernel
theorem s62_12 {M : Mm} {st : List Value} {l0 l1 l2 : Option Value} : EE 62 12 [l0, l1, l2] st M = EE 62 13 [l0, l1, l2] (.int (nI 1) :: st) M := e_con d62_12 k_con_1
theorem d62_13 : decode (cod 62) 13 = .ok (.if_icmp .le 6, 3) := by decide +kernel
theorem s62_13 {M : Mm} {st : List Value} {l0 l1 l2 : Option Value} {x y : Int32} : EE 62 13 [l0, l1, l2] (.int y :: .int x :: st) M = if x ≤ y then EE 62 19 [l0, l1, l2] st M else EE 62 16 [l0, l1, l2] st M := e_cle d62_13 (by decide)
theorem d62_16 : decode (cod 62) 16 = .ok (.bipush (-2), 2) := by decide +kernel
theorem s62_16 {M : Mm} {st : List Value} {l0 l1 l2 : Option Value} : EE 62 16 [l0, l1, l2] st M = EE 62 18 [l0, l1, l2] (.int ((-2)) :: st) M := e_bip d62_16 k_bip_m2
theorem d62_18 : decode (cod 62) 18 = .ok (.ireturn, 1) := by decide +kernel
theorem s62_18 {M : Mm} {l0 l1 l2 : Option Value} {v : Int32} : EE 62 18 [l0, l1, l2] [.int v] M = some (some (.int v), M) := e_iret d62_18 rfl rfl
theorem d62_19 : decode (cod 62) 19 = .ok (.iload_n 2, 1) := by decide +kernel
theorem s62_19 {M : Mm} {st : List Value} {l0 l1 : Option Value} {x : Int32} : EE 62 19 [l0, l1, some (.int x)] st M = EE 62 20 [l0, l1, some (.int x)] (.int x :: st) M := e_ld d62_19 rfl rfl rfl rfl rfl rfl
theorem d62_20 : decode (cod 62) 20 = .ok (.ifCond .ne 15, 3) := by decide +kernel
theorem s62_20 {M : Mm} {st : List Value} {l0 l1 l2 : Option Value} {x : Int32} : EE 62 20 [l0, l1, l2] (.int x :: st) M = if x = 0 then EE 62 23 [l0, l1, l2] st M else EE 62 35 [l0, l1, l2] st M := e_ne0 d62_20 (by decide)
theorem d62_23 : decode (cod 62) 23 = .ok (.aload_n 0, 1) := by decide +kernel
theorem s62_23 {M : Mm} {st : List Value} {l1 l2 : Option Value} {x : Nat} : EE 62 23 [some (.ref x), l1, l2] st M = EE 62 24 [some (.ref x), l1, l2] (.ref x :: st) M := e_ld d62_23 rfl rfl rfl rfl rfl rfl
theorem d62_24 : decode (cod 62) 24 = .ok (.getfield 12, 3) := by decide +kernel
theorem s62_24 {n : Nat} {I : Nat → Nat → Int32} {R : Nat → Nat → Option Nat} {st : List Value} {l0 l1 l2 : Option Value} {a : Nat} : EE 62 24 [l0, l1, l2] (.ref a :: st) (n, I, R) = (gfI n I R 2 0 a).bind (fun z => EE 62 27 [l0, l1, l2] (z :: st) (n, I, R)) := e_getf d62_24 f2_12 rfl rfl
theorem d62_27 : decode (cod 62) 27 = .ok (.getfield 171, 3) := by decide +kernel
theorem s62_27 {n : Nat} {I : Nat → Nat → Int32} {R : Nat → Nat → Option Nat} {st : List Value} {l0 l1 l2 : Option Value} {a : Nat} : EE 62 27 [l0, l1, l2] (.ref a :: st) (n, I, R) = (gfI n I R 1 1 a).bind (fun z => EE 62 30 [l0, l1, l2] (z :: st) (n, I, R)) := e_getf d62_27 f2_171 rfl rfl
theorem d62_30 : decode (cod 62) 30 = .ok (.iload_n 1, 1) := by decide +kernel
theorem s62_30 {M : Mm} {st : List Value} {l0 l2 : Option Value} {x : Int32} : EE 62 30 [l0, some (.int x), l2] st M = EE 62 31 [l0, some (.int x), l2] (.int x :: st) M := e_ld d62_30 rfl rfl rfl rfl rfl rfl
theorem d62_31 : decode (cod 62) 31 = .ok (.iaload, 1) := by decide +kernel
theorem s62_31 {n : Nat} {I : Nat → Nat → Int32} {R : Nat → Nat → Option Nat} {st : List Value} {l0 l1 l2 : Option Value} {j : Int32} {a : Nat} : EE 62 31 [l0, l1, l2] (.int j :: .ref a :: st) (n, I, R) = (ardI 5 n I a j).bind (fun z => EE 62 32 [l0, l1, l2] (.int z :: st) (n, I, R)) := e_iald d62_31
theorem d62_32 : decode (cod 62) 32 = .ok (.goto 12, 3) := by decide +kernel
theorem s62_32 {M : Mm} {st : List Value} {l0 l1 l2 : Option Value} : EE 62 32 [l0, l1, l2] st M = EE 62 44 [l0, l1, l2] st M := e_goto d62_32 (by decide)
theorem d62_35 : decode (cod 62) 35 = .ok (.aload_n 0, 1) := by decide +kernel
theorem s62_35 {M : Mm} {st : List Value} {l1 l2 : Option Value} {x : Nat} : EE 62 35 [some (.ref x), l1, l2] st M = EE 62 36 [some (.ref x), l1, l2] (.ref x :: st) M := e_ld d62_35 rfl rfl rfl rfl rfl rfl
theorem d62_36 : decode (cod 62) 36 = .ok (.getfield 12, 3) := by decide +kernel
theorem s62_36 {n : Nat} {I : Nat → Nat → Int32} {R : Nat → Nat → Option Nat} {st : List Value} {l0 l1 l2 : Option Value} {a : Nat} : EE 62 36 [l0, l1, l2] (.ref a :: st) (n, I, R) = (gfI n I R 2 0 a).bind (fun z => EE 62 39 [l0, l1, l2] (z :: st) (n, I, R)) := e_getf d62_36 f2_12 rfl rfl
theorem d62_39 : decode (cod 62) 39 = .ok (.getfield 174, 3) := by decide +kernel
theorem s62_39 {n : Nat} {I : Nat → Nat → Int32} {R : Nat → Nat → Option Nat} {st : List Value} {l0 l1 l2 : Option Value} {a : Nat} : EE 62 39 [l0, l1, l2] (.ref a :: st) (n, I, R) = (gfI n I R 1 2 a).bind (fun z => EE 62 42 [l0, l1, l2] (z :: st) (n, I, R)) := e_getf d62_39 f2_174 rfl rfl
theorem d62_42 : decode (cod 62) 42 = .ok (.iload_n 1, 1) := by decide +kernel
theorem s62_42 {M : Mm} {st : List Value} {l0 l2 : Option Value} {x : Int32} : EE 62 42 [l0, some (.int x), l2] st M = EE 62 43 [l0, some (.int x), l2] (.int x :: st) M := e_ld d62_42 rfl rfl rfl rfl rfl rfl
theorem d62_43 : decode (cod 62) 43 = .ok (.iaload, 1) := by decide +kernel
theorem s62_43 {n : Nat} {I : Nat → Nat → Int32} {R : Nat → Nat → Option Nat} {st : List Value} {l0 l1 l2 : Option Value} {j : Int32} {a : Nat} : EE 62 43 [l0, l1, l2] (.int j :: .ref a :: st) (n, I, R) = (ardI 5 n I a j).bind (fun z => EE 62 44 [l0, l1, l2] (.int z :: st) (n, I, R)) := e_iald d62_43
theorem d62_44 : decode (cod 62) 44 = .ok (.ireturn, 1) := by decide +kernel
theorem s62_44 {M : Mm} {l0 l1 l2 : Option Value} {v : Int32} : EE 62 44 [l0, l1, l2] [.int v] M = some (some (.int v), M) := e_iret d62_44 rfl rfl
theorem FE62 {a : Nat} {b0 : Int32} {b1 : Int32} {M : Mm} : FF 62 [.ref a, .int b0, .int b1] M = EE 62 0 [some (.ref a), some (.int b0), some (.int b1)] [] M := FF_eq 62 _ _ (Nat.le_of_ble_eq_true rfl)
theorem d63_0 : decode (cod 63) 0 = .ok (.iconst 0, 1) := by decide +kernel
theorem s63_0 {M : Mm} {st : List Value} {l0 l1 l2 : Option Value} : EE 63 0 [l0, l1, l2] st M = EE 63 1 [l0, l1, l2] (.int (nI 0) :: st) M := e_con d63_0 k_con_0
theorem d63_1 : decode (cod 63) 1 = .ok (.istore_n 1, 1) := by decide +kernel
theorem s63_1 {M : Mm} {st : List Value} {l0 l1 l2 : Option Value} {x : Int32} : EE 63 1 [l0, l1, l2] (.int x :: st) M = EE 63 2 [cln l0, some (.int x), l2] st M := e_st1 d63_1 rfl rfl rfl rfl rfl rfl rfl (Nat.le_of_ble_eq_true rfl) rfl
theorem d63_2 : decode (cod 63) 2 = .ok (.iconst 0, 1) := by decide +kernel
theorem s63_2 {M : Mm} {st : List Value} {l0 l1 l2 : Option Value} : EE 63 2 [l0, l1, l2] st M = EE 63 3 [l0, l1, l2] (.int (nI 0) :: st) M := e_con d63_2 k_con_0
theorem d63_3 : decode (cod 63) 3 = .ok (.istore_n 2, 1) := by decide +kernel
theorem s63_3 {M : Mm} {st : List Value} {l0 l1 l2 : Option Value} {x : Int32} : EE 63 3 [l0, l1, l2] (.int x :: st) M = EE 63 4 [l0, cln l1, some (.int x)] st M := e_st1 d63_3 rfl rfl rfl rfl rfl rfl rfl (Nat.le_of_ble_eq_true rfl) rfl
theorem d63_4 : decode (cod 63) 4 = .ok (.iload_n 2, 1) := by decide +kernel
theorem s63_4 {M : Mm} {st : List Value} {l0 l1 : Option Value} {x : Int32} : EE 63 4 [l0, l1, some (.int x)] st M = EE 63 5 [l0, l1, some (.int x)] (.int x :: st) M := e_ld d63_4 rfl rfl rfl rfl rfl rfl
theorem d63_5 : decode (cod 63) 5 = .ok (.aload_n 0, 1) := by decide +kernel
theorem s63_5 {M : Mm} {st : List Value} {l1 l2 : Option Value} {x : Nat} : EE 63 5 [some (.ref x), l1, l2] st M = EE 63 6 [some (.ref x), l1, l2] (.ref x :: st) M := e_ld d63_5 rfl rfl rfl rfl rfl rfl
theorem d63_6 : decode (cod 63) 6 = .ok (.getfield 12, 3) := by decide +kernel
theorem s63_6 {n : Nat} {I : Nat → Nat → Int32} {R : Nat → Nat → Option Nat} {st : List Value} {l0 l1 l2 : Option Value} {a : Nat} : EE 63 6 [l0, l1, l2] (.ref a :: st) (n, I, R) = (gfI n I R 2 0 a).bind (fun z => EE 63 9 [l0, l1, l2] (z :: st) (n, I, R)) := e_getf d63_6 f2_12 rfl rfl
theorem d63_9 : decode (cod 63) 9 = .ok (.getfield 138, 3) := by decide +kernel
theorem s63_9 {n : Nat} {I : Nat → Nat → Int32} {R : Nat → Nat → Option Nat} {st : List Value} {l0 l1 l2 : Option Value} {a : Nat} : EE 63 9 [l0, l1, l2] (.ref a :: st) (n, I, R) = (gfI n I R 1 8 a).bind (fun z => EE 63 12 [l0, l1, l2] (z :: st) (n, I, R)) := e_getf d63_9 f2_138 rfl rfl
theorem d63_12 : decode (cod 63) 12 = .ok (.if_icmp .ge 36, 3) := by decide +kernel
theorem s63_12 {M : Mm} {st : List Value} {l0 l1 l2 : Option Value} {x y : Int32} : EE 63 12 [l0, l1, l2] (.int y :: .int x :: st) M = if y ≤ x then EE 63 48 [l0, l1, l2] st M else EE 63 15 [l0, l1, l2] st M := e_cge d63_12 (by decide)
theorem d63_15 : decode (cod 63) 15 = .ok (.aload_n 0, 1) := by decide +kernel
theorem s63_15 {M : Mm} {st : List Value} {l1 l2 : Option Value} {x : Nat} : EE 63 15 [some (.ref x), l1, l2] st M = EE 63 16 [some (.ref x), l1, l2] (.ref x :: st) M := e_ld d63_15 rfl rfl rfl rfl rfl rfl
theorem d63_16 : decode (cod 63) 16 = .ok (.getfield 12, 3) := by decide +kernel
theorem s63_16 {n : Nat} {I : Nat → Nat → Int32} {R : Nat → Nat → Option Nat} {st : List Value} {l0 l1 l2 : Option Value} {a : Nat} : EE 63 16 [l0, l1, l2] (.ref a :: st) (n, I, R) = (gfI n I R 2 0 a).bind (fun z => EE 63 19 [l0, l1, l2] (z :: st) (n, I, R)) := e_getf d63_16 f2_12 rfl rfl
theorem d63_19 : decode (cod 63) 19 = .ok (.iload_n 2, 1) := by decide +kernel
theorem s63_19 {M : Mm} {st : List Value} {l0 l1 : Option Value} {x : Int32} : EE 63 19 [l0, l1, some (.int x)] st M = EE 63 20 [l0, l1, some (.int x)] (.int x :: st) M := e_ld d63_19 rfl rfl rfl rfl rfl rfl
theorem d63_20 : decode (cod 63) 20 = .ok (.invokevirtual 97, 3) := by decide +kernel
theorem s63_20 {l0 l1 l2 : Option Value} {a : Nat} {M : Mm} {b0 : Int32} {st : List Value} (hl : st.length ≤ 4) (ho : isO "HandoverDesk$State" M.1 a = true) : EE 63 20 [l0, l1, l2] (.int b0 :: .ref a :: st) M = (FF 19 (.ref a :: [.int b0]) M).bind (fun z => EE 63 23 [l0, l1, l2] (psh z.1 st) z.2) := e_calv (av := [.int b0]) d63_20 c2_97 rfl rfl rfl r63_19 rfl hl ho
theorem d63_23 : decode (cod 63) 23 = .ok (.ifCond .eq 19, 3) := by decide +kernel
theorem s63_23 {M : Mm} {st : List Value} {l0 l1 l2 : Option Value} {x : Int32} : EE 63 23 [l0, l1, l2] (.int x :: st) M = if x = 0 then EE 63 42 [l0, l1, l2] st M else EE 63 26 [l0, l1, l2] st M := e_eq0 d63_23 (by decide)
theorem d63_26 : decode (cod 63) 26 = .ok (.aload_n 0, 1) := by decide +kernel
theorem s63_26 {M : Mm} {st : List Value} {l1 l2 : Option Value} {x : Nat} : EE 63 26 [some (.ref x), l1, l2] st M = EE 63 27 [some (.ref x), l1, l2] (.ref x :: st) M := e_ld d63_26 rfl rfl rfl rfl rfl rfl
theorem d63_27 : decode (cod 63) 27 = .ok (.getfield 12, 3) := by decide +kernel
theorem s63_27 {n : Nat} {I : Nat → Nat → Int32} {R : Nat → Nat → Option Nat} {st : List Value} {l0 l1 l2 : Option Value} {a : Nat} : EE 63 27 [l0, l1, l2] (.ref a :: st) (n, I, R) = (gfI n I R 2 0 a).bind (fun z => EE 63 30 [l0, l1, l2] (z :: st) (n, I, R)) := e_getf d63_27 f2_12 rfl rfl
theorem d63_30 : decode (cod 63) 30 = .ok (.iload_n 2, 1) := by decide +kernel
theorem s63_30 {M : Mm} {st : List Value} {l0 l1 : Option Value} {x : Int32} : EE 63 30 [l0, l1, some (.int x)] st M = EE 63 31 [l0, l1, some (.int x)] (.int x :: st) M := e_ld d63_30 rfl rfl rfl rfl rfl rfl
theorem d63_31 : decode (cod 63) 31 = .ok (.invokevirtual 100, 3) := by decide +kernel
theorem s63_31 {l0 l1 l2 : Option Value} {a : Nat} {M : Mm} {b0 : Int32} {st : List Value} (hl : st.length ≤ 4) (ho : isO "HandoverDesk$State" M.1 a = true) : EE 63 31 [l0, l1, l2] (.int b0 :: .ref a :: st) M = (FF 37 (.ref a :: [.int b0]) M).bind (fun z => EE 63 34 [l0, l1, l2] (psh z.1 st) z.2) := e_calv (av := [.int b0]) d63_31 c2_100 rfl rfl rfl r63_37 rfl hl ho
theorem d63_34 : decode (cod 63) 34 = .ok (.ifCond .eq 5, 3) := by decide +kernel
theorem s63_34 {M : Mm} {st : List Value} {l0 l1 l2 : Option Value} {x : Int32} : EE 63 34 [l0, l1, l2] (.int x :: st) M = if x = 0 then EE 63 39 [l0, l1, l2] st M else EE 63 37 [l0, l1, l2] st M := e_eq0 d63_34 (by decide)
theorem d63_37 : decode (cod 63) 37 = .ok (.iload_n 1, 1) := by decide +kernel
theorem s63_37 {M : Mm} {st : List Value} {l0 l2 : Option Value} {x : Int32} : EE 63 37 [l0, some (.int x), l2] st M = EE 63 38 [l0, some (.int x), l2] (.int x :: st) M := e_ld d63_37 rfl rfl rfl rfl rfl rfl
theorem d63_38 : decode (cod 63) 38 = .ok (.ireturn, 1) := by decide +kernel
theorem s63_38 {M : Mm} {l0 l1 l2 : Option Value} {v : Int32} : EE 63 38 [l0, l1, l2] [.int v] M = some (some (.int v), M) := e_iret d63_38 rfl rfl
theorem d63_39 : decode (cod 63) 39 = .ok (.iinc 1 1, 3) := by decide +kernel
theorem s63_39 {M : Mm} {st : List Value} {l0 l2 : Option Value} {x : Int32} : EE 63 39 [l0, some (.int x), l2] st M = EE 63 42 [cln l0, some (.int (x + nI 1)), l2] st M := e_iinc d63_39 rfl (congrArg (fun z => x + z) k_inc_1) rfl
theorem d63_42 : decode (cod 63) 42 = .ok (.iinc 2 1, 3) := by decide +kernel
theorem s63_42 {M : Mm} {st : List Value} {l0 l1 : Option Value} {x : Int32} : EE 63 42 [l0, l1, some (.int x)] st M = EE 63 45 [l0, cln l1, some (.int (x + nI 1))] st M := e_iinc d63_42 rfl (congrArg (fun z => x + z) k_inc_1) rfl
theorem d63_45 : decode (cod 63) 45 = .ok (.goto (-41), 3) := by decide +kernel
theorem s63_45 {M : Mm} {st : List Value} {l0 l1 l2 : Option Value} : EE 63 45 [l0, l1, l2] st M = EE 63 4 [l0, l1, l2] st M := e_goto d63_45 (by decide)
theorem d63_48 : decode (cod 63) 48 = .ok (.iload_n 1, 1) := by decide +kernel
theorem s63_48 {M : Mm} {st : List Value} {l0 l2 : Option Value} {x : Int32} : EE 63 48 [l0, some (.int x), l2] st M = EE 63 49 [l0, some (.int x), l2] (.int x :: st) M := e_ld d63_48 rfl rfl rfl rfl rfl rfl
theorem d63_49 : decode (cod 63) 49 = .ok (.ireturn, 1) := by decide +kernel
theorem s63_49 {M : Mm} {l0 l1 l2 : Option Value} {v : Int32} : EE 63 49 [l0, l1, l2] [.int v] M = some (some (.int v), M) := e_iret d63_49 rfl rfl
theorem FE63 {a : Nat} {M : Mm} : FF 63 [.ref a] M = EE 63 0 [some (.ref a), none, none] [] M := FF_eq 63 _ _ (Nat.le_of_ble_eq_true rfl)
theorem d64_0 : decode (cod 64) 0 = .ok (.aload_n 0, 1) := by decide +kernel
theorem s64_0 {M : Mm} {st : List Value} {l1 l2 : Option Value} {x : Nat} : EE 64 0 [some (.ref x), l1, l2] st M = EE 64 1 [some (.ref x), l1, l2] (.ref x :: st) M := e_ld d64_0 rfl rfl rfl rfl rfl rfl
theorem d64_1 : decode (cod 64) 1 = .ok (.getfield 12, 3) := by decide +kernel
theorem s64_1 {n : Nat} {I : Nat → Nat → Int32} {R : Nat → Nat → Option Nat} {st : List Value} {l0 l1 l2 : Option Value} {a : Nat} : EE 64 1 [l0, l1, l2] (.ref a :: st) (n, I, R) = (gfI n I R 2 0 a).bind (fun z => EE 64 4 [l0, l1, l2] (z :: st) (n, I, R)) := e_getf d64_1 f2_12 rfl rfl
theorem d64_4 : decode (cod 64) 4 = .ok (.iload_n 1, 1) := by decide +kernel
theorem s64_4 {M : Mm} {st : List Value} {l0 l2 : Option Value} {x : Int32} : EE 64 4 [l0, some (.int x), l2] st M = EE 64 5 [l0, some (.int x), l2] (.int x :: st) M := e_ld d64_4 rfl rfl rfl rfl rfl rfl
theorem d64_5 : decode (cod 64) 5 = .ok (.invokevirtual 91, 3) := by decide +kernel
theorem s64_5 {l0 l1 l2 : Option Value} {a : Nat} {M : Mm} {b0 : Int32} {st : List Value} (hl : st.length ≤ 4) (ho : isO "HandoverDesk$State" M.1 a = true) : EE 64 5 [l0, l1, l2] (.int b0 :: .ref a :: st) M = (FF 18 (.ref a :: [.int b0]) M).bind (fun z => EE 64 8 [l0, l1, l2] (psh z.1 st) z.2) := e_calv (av := [.int b0]) d64_5 c2_91 rfl rfl rfl r64_18 rfl hl ho
theorem d64_8 : decode (cod 64) 8 = .ok (.ifCond .ne 5, 3) := by decide +kernel
theorem s64_8 {M : Mm} {st : List Value} {l0 l1 l2 : Option Value} {x : Int32} : EE 64 8 [l0, l1, l2] (.int x :: st) M = if x = 0 then EE 64 11 [l0, l1, l2] st M else EE 64 13 [l0, l1, l2] st M := e_ne0 d64_8 (by decide)
theorem d64_11 : decode (cod 64) 11 = .ok (.iconst (-1), 1) := by decide +kernel
theorem s64_11 {M : Mm} {st : List Value} {l0 l1 l2 : Option Value} : EE 64 11 [l0, l1, l2] st M = EE 64 12 [l0, l1, l2] (.int ((-1)) :: st) M := e_con d64_11 k_con_m1
theorem d64_12 : decode (cod 64) 12 = .ok (.ireturn, 1) := by decide +kernel
theorem s64_12 {M : Mm} {l0 l1 l2 : Option Value} {v : Int32} : EE 64 12 [l0, l1, l2] [.int v] M = some (some (.int v), M) := e_iret d64_12 rfl rfl
theorem d64_13 : decode (cod 64) 13 = .ok (.aload_n 0, 1) := by decide +kernel
theorem s64_13 {M : Mm} {st : List Value} {l1 l2 : Option Value} {x : Nat} : EE 64 13 [some (.ref x), l1, l2] st M = EE 64 14 [some (.ref x), l1, l2] (.ref x :: st) M := e_ld d64_13 rfl rfl rfl rfl rfl rfl
theorem d64_14 : decode (cod 64) 14 = .ok (.getfield 12, 3) := by decide +kernel
theorem s64_14 {n : Nat} {I : Nat → Nat → Int32} {R : Nat → Nat → Option Nat} {st : List Value} {l0 l1 l2 : Option Value} {a : Nat} : EE 64 14 [l0, l1, l2] (.ref a :: st) (n, I, R) = (gfI n I R 2 0 a).bind (fun z => EE 64 17 [l0, l1, l2] (z :: st) (n, I, R)) := e_getf d64_14 f2_12 rfl rfl
theorem d64_17 : decode (cod 64) 17 = .ok (.getfield 113, 3) := by decide +kernel
theorem s64_17 {n : Nat} {I : Nat → Nat → Int32} {R : Nat → Nat → Option Nat} {st : List Value} {l0 l1 l2 : Option Value} {a : Nat} : EE 64 17 [l0, l1, l2] (.ref a :: st) (n, I, R) = (gfI n I R 1 6 a).bind (fun z => EE 64 20 [l0, l1, l2] (z :: st) (n, I, R)) := e_getf d64_17 f2_113 rfl rfl
theorem d64_20 : decode (cod 64) 20 = .ok (.iload_n 1, 1) := by decide +kernel
theorem s64_20 {M : Mm} {st : List Value} {l0 l2 : Option Value} {x : Int32} : EE 64 20 [l0, some (.int x), l2] st M = EE 64 21 [l0, some (.int x), l2] (.int x :: st) M := e_ld d64_20 rfl rfl rfl rfl rfl rfl
theorem d64_21 : decode (cod 64) 21 = .ok (.iaload, 1) := by decide +kernel
theorem s64_21 {n : Nat} {I : Nat → Nat → Int32} {R : Nat → Nat → Option Nat} {st : List Value} {l0 l1 l2 : Option Value} {j : Int32} {a : Nat} : EE 64 21 [l0, l1, l2] (.int j :: .ref a :: st) (n, I, R) = (ardI 5 n I a j).bind (fun z => EE 64 22 [l0, l1, l2] (.int z :: st) (n, I, R)) := e_iald d64_21
theorem d64_22 : decode (cod 64) 22 = .ok (.istore_n 2, 1) := by decide +kernel
theorem s64_22 {M : Mm} {st : List Value} {l0 l1 l2 : Option Value} {x : Int32} : EE 64 22 [l0, l1, l2] (.int x :: st) M = EE 64 23 [l0, cln l1, some (.int x)] st M := e_st1 d64_22 rfl rfl rfl rfl rfl rfl rfl (Nat.le_of_ble_eq_true rfl) rfl
theorem d64_23 : decode (cod 64) 23 = .ok (.iload_n 2, 1) := by decide +kernel
theorem s64_23 {M : Mm} {st : List Value} {l0 l1 : Option Value} {x : Int32} : EE 64 23 [l0, l1, some (.int x)] st M = EE 64 24 [l0, l1, some (.int x)] (.int x :: st) M := e_ld d64_23 rfl rfl rfl rfl rfl rfl
theorem d64_24 : decode (cod 64) 24 = .ok (.ifCond .le 23, 3) := by decide +kernel
theorem s64_24 {M : Mm} {st : List Value} {l0 l1 l2 : Option Value} {x : Int32} : EE 64 24 [l0, l1, l2] (.int x :: st) M = if x ≤ 0 then EE 64 47 [l0, l1, l2] st M else EE 64 27 [l0, l1, l2] st M := e_le0 d64_24 (by decide)
theorem d64_27 : decode (cod 64) 27 = .ok (.aload_n 0, 1) := by decide +kernel
theorem s64_27 {M : Mm} {st : List Value} {l1 l2 : Option Value} {x : Nat} : EE 64 27 [some (.ref x), l1, l2] st M = EE 64 28 [some (.ref x), l1, l2] (.ref x :: st) M := e_ld d64_27 rfl rfl rfl rfl rfl rfl
theorem d64_28 : decode (cod 64) 28 = .ok (.getfield 12, 3) := by decide +kernel
theorem s64_28 {n : Nat} {I : Nat → Nat → Int32} {R : Nat → Nat → Option Nat} {st : List Value} {l0 l1 l2 : Option Value} {a : Nat} : EE 64 28 [l0, l1, l2] (.ref a :: st) (n, I, R) = (gfI n I R 2 0 a).bind (fun z => EE 64 31 [l0, l1, l2] (z :: st) (n, I, R)) := e_getf d64_28 f2_12 rfl rfl
theorem d64_31 : decode (cod 64) 31 = .ok (.getfield 116, 3) := by decide +kernel
theorem s64_31 {n : Nat} {I : Nat → Nat → Int32} {R : Nat → Nat → Option Nat} {st : List Value} {l0 l1 l2 : Option Value} {a : Nat} : EE 64 31 [l0, l1, l2] (.ref a :: st) (n, I, R) = (gfI n I R 1 7 a).bind (fun z => EE 64 34 [l0, l1, l2] (z :: st) (n, I, R)) := e_getf d64_31 f2_116 rfl rfl
theorem d64_34 : decode (cod 64) 34 = .ok (.iload_n 1, 1) := by decide +kernel
theorem s64_34 {M : Mm} {st : List Value} {l0 l2 : Option Value} {x : Int32} : EE 64 34 [l0, some (.int x), l2] st M = EE 64 35 [l0, some (.int x), l2] (.int x :: st) M := e_ld d64_34 rfl rfl rfl rfl rfl rfl
theorem d64_35 : decode (cod 64) 35 = .ok (.iaload, 1) := by decide +kernel
theorem s64_35 {n : Nat} {I : Nat → Nat → Int32} {R : Nat → Nat → Option Nat} {st : List Value} {l0 l1 l2 : Option Value} {j : Int32} {a : Nat} : EE 64 35 [l0, l1, l2] (.int j :: .ref a :: st) (n, I, R) = (ardI 5 n I a j).bind (fun z => EE 64 36 [l0, l1, l2] (.int z :: st) (n, I, R)) := e_iald d64_35
theorem d64_36 : decode (cod 64) 36 = .ok (.i2d, 1) := by decide +kernel
theorem s64_36 {M : Mm} {st : List Value} {l0 l1 l2 : Option Value} {x : Int32} : EE 64 36 [l0, l1, l2] (.int x :: st) M = EE 64 37 [l0, l1, l2] (.double (FP.i2d x) :: st) M := e_U d64_36 rfl rfl rfl rfl rfl (bn_i2d x) rfl
theorem d64_37 : decode (cod 64) 37 = .ok (.iload_n 2, 1) := by decide +kernel
theorem s64_37 {M : Mm} {st : List Value} {l0 l1 : Option Value} {x : Int32} : EE 64 37 [l0, l1, some (.int x)] st M = EE 64 38 [l0, l1, some (.int x)] (.int x :: st) M := e_ld d64_37 rfl rfl rfl rfl rfl rfl
theorem d64_38 : decode (cod 64) 38 = .ok (.i2d, 1) := by decide +kernel
theorem s64_38 {M : Mm} {st : List Value} {l0 l1 l2 : Option Value} {x : Int32} : EE 64 38 [l0, l1, l2] (.int x :: st) M = EE 64 39 [l0, l1, l2] (.double (FP.i2d x) :: st) M := e_U d64_38 rfl rfl rfl rfl rfl (bn_i2d x) rfl
theorem d64_39 : decode (cod 64) 39 = .ok (.ddiv, 1) := by decide +kernel
theorem s64_39 {M : Mm} {st : List Value} {l0 l1 l2 : Option Value} {x y : UInt64} (h : FP.ddiv x y &&& 0x7fffffffffffffff ≤ 0x7ff0000000000000) : EE 64 39 [l0, l1, l2] (.double y :: .double x :: st) M = EE 64 40 [l0, l1, l2] (.double (FP.ddiv x y) :: st) M := e_ddiv d64_39 h
theorem d64_40 : decode (cod 64) 40 = .ok (.d2f, 1) := by decide +kernel
theorem s64_40 {M : Mm} {st : List Value} {l0 l1 l2 : Option Value} {x : UInt64} (h : FP.d2f x &&& 0x7fffffff ≤ 0x7f800000) : EE 64 40 [l0, l1, l2] (.double x :: st) M = EE 64 41 [l0, l1, l2] (.float (FP.d2f x) :: st) M := e_d2f d64_40 h
theorem d64_41 : decode (cod 64) 41 = .ok (.invokestatic 177, 3) := by decide +kernel
theorem s64_41 {M : Mm} {l0 l1 l2 : Option Value} {b0 : UInt32} {st : List Value} (hl : st.length ≤ 4) : EE 64 41 [l0, l1, l2] (.float b0 :: st) M = (FF 65 [.float b0] M).bind (fun z => EE 64 44 [l0, l1, l2] (psh z.1 st) z.2) := e_cals (av := [.float b0]) d64_41 c2_177 (Or.inl rfl) rfl rfl r64_65 rfl hl
theorem d64_44 : decode (cod 64) 44 = .ok (.goto 5, 3) := by decide +kernel
theorem s64_44 {M : Mm} {st : List Value} {l0 l1 l2 : Option Value} : EE 64 44 [l0, l1, l2] st M = EE 64 49 [l0, l1, l2] st M := e_goto d64_44 (by decide)
theorem d64_47 : decode (cod 64) 47 = .ok (.bipush (-6), 2) := by decide +kernel
theorem s64_47 {M : Mm} {st : List Value} {l0 l1 l2 : Option Value} : EE 64 47 [l0, l1, l2] st M = EE 64 49 [l0, l1, l2] (.int ((-6)) :: st) M := e_bip d64_47 k_bip_m6
theorem d64_49 : decode (cod 64) 49 = .ok (.ireturn, 1) := by decide +kernel
theorem s64_49 {M : Mm} {l0 l1 l2 : Option Value} {v : Int32} : EE 64 49 [l0, l1, l2] [.int v] M = some (some (.int v), M) := e_iret d64_49 rfl rfl
theorem FE64 {a : Nat} {b0 : Int32} {M : Mm} : FF 64 [.ref a, .int b0] M = EE 64 0 [some (.ref a), some (.int b0), none] [] M := FF_eq 64 _ _ (Nat.le_of_ble_eq_true rfl)
theorem d65_0 : decode (cod 65) 0 = .ok (.fload_n 0, 1) := by decide +kernel
theorem s65_0 {M : Mm} {st : List Value} {l1 l2 : Option Value} {x : UInt32} : EE 65 0 [some (.float x), l1, l2] st M = EE 65 1 [some (.float x), l1, l2] (.float x :: st) M := e_ld d65_0 rfl rfl rfl rfl rfl rfl
theorem d65_1 : decode (cod 65) 1 = .ok (.fconst 0, 1) := by decide +kernel
theorem s65_1 {M : Mm} {st : List Value} {l0 l1 l2 : Option Value} : EE 65 1 [l0, l1, l2] st M = EE 65 2 [l0, l1, l2] (.float FP.fconst0 :: st) M := e_psh d65_1 rfl rfl rfl
theorem d65_2 : decode (cod 65) 2 = .ok (.fcmp .g, 1) := by decide +kernel
theorem s65_2 {M : Mm} {st : List Value} {l0 l1 l2 : Option Value} {x y : UInt32} : EE 65 2 [l0, l1, l2] (.float y :: .float x :: st) M = EE 65 3 [l0, l1, l2] (.int (Op.cmpValue (FP.fcmp x y) .g) :: st) M := e_fcmp d65_2
theorem d65_3 : decode (cod 65) 3 = .ok (.ifCond .gt 5, 3) := by decide +kernel
theorem s65_3 {M : Mm} {st : List Value} {l0 l1 l2 : Option Value} {x : Int32} : EE 65 3 [l0, l1, l2] (.int x :: st) M = if 0 < x then EE 65 8 [l0, l1, l2] st M else EE 65 6 [l0, l1, l2] st M := e_gt0 d65_3 (by decide)
theorem d65_6 : decode (cod 65) 6 = .ok (.iconst 0, 1) := by decide +kernel
theorem s65_6 {M : Mm} {st : List Value} {l0 l1 l2 : Option Value} : EE 65 6 [l0, l1, l2] st M = EE 65 7 [l0, l1, l2] (.int (nI 0) :: st) M := e_con d65_6 k_con_0
theorem d65_7 : decode (cod 65) 7 = .ok (.ireturn, 1) := by decide +kernel
theorem s65_7 {M : Mm} {l0 l1 l2 : Option Value} {v : Int32} : EE 65 7 [l0, l1, l2] [.int v] M = some (some (.int v), M) := e_iret d65_7 rfl rfl
theorem d65_8 : decode (cod 65) 8 = .ok (.fload_n 0, 1) := by decide +kernel
theorem s65_8 {M : Mm} {st : List Value} {l1 l2 : Option Value} {x : UInt32} : EE 65 8 [some (.float x), l1, l2] st M = EE 65 9 [some (.float x), l1, l2] (.float x :: st) M := e_ld d65_8 rfl rfl rfl rfl rfl rfl
theorem d65_9 : decode (cod 65) 9 = .ok (.fstore_n 1, 1) := by decide +kernel
theorem s65_9 {M : Mm} {st : List Value} {l0 l1 l2 : Option Value} {x : UInt32} : EE 65 9 [l0, l1, l2] (.float x :: st) M = EE 65 10 [cln l0, some (.float x), l2] st M := e_st1 d65_9 rfl rfl rfl rfl rfl rfl rfl (Nat.le_of_ble_eq_true rfl) rfl
theorem d65_10 : decode (cod 65) 10 = .ok (.bipush 127, 2) := by decide +kernel
theorem s65_10 {M : Mm} {st : List Value} {l0 l1 l2 : Option Value} : EE 65 10 [l0, l1, l2] st M = EE 65 12 [l0, l1, l2] (.int (nI 127) :: st) M := e_bip d65_10 k_bip_127
theorem d65_12 : decode (cod 65) 12 = .ok (.istore_n 2, 1) := by decide +kernel
theorem s65_12 {M : Mm} {st : List Value} {l0 l1 l2 : Option Value} {x : Int32} : EE 65 12 [l0, l1, l2] (.int x :: st) M = EE 65 13 [l0, cln l1, some (.int x)] st M := e_st1 d65_12 rfl rfl rfl rfl rfl rfl rfl (Nat.le_of_ble_eq_true rfl) rfl
theorem d65_13 : decode (cod 65) 13 = .ok (.fload_n 1, 1) := by decide +kernel
theorem s65_13 {M : Mm} {st : List Value} {l0 l2 : Option Value} {x : UInt32} : EE 65 13 [l0, some (.float x), l2] st M = EE 65 14 [l0, some (.float x), l2] (.float x :: st) M := e_ld d65_13 rfl rfl rfl rfl rfl rfl
theorem d65_14 : decode (cod 65) 14 = .ok (.fconst 1, 1) := by decide +kernel
theorem s65_14 {M : Mm} {st : List Value} {l0 l1 l2 : Option Value} : EE 65 14 [l0, l1, l2] st M = EE 65 15 [l0, l1, l2] (.float FP.fconst1 :: st) M := e_psh d65_14 rfl rfl rfl
theorem d65_15 : decode (cod 65) 15 = .ok (.fcmp .g, 1) := by decide +kernel
theorem s65_15 {M : Mm} {st : List Value} {l0 l1 l2 : Option Value} {x y : UInt32} : EE 65 15 [l0, l1, l2] (.float y :: .float x :: st) M = EE 65 16 [l0, l1, l2] (.int (Op.cmpValue (FP.fcmp x y) .g) :: st) M := e_fcmp d65_15
theorem d65_16 : decode (cod 65) 16 = .ok (.ifCond .ge 18, 3) := by decide +kernel
theorem s65_16 {M : Mm} {st : List Value} {l0 l1 l2 : Option Value} {x : Int32} : EE 65 16 [l0, l1, l2] (.int x :: st) M = if 0 ≤ x then EE 65 34 [l0, l1, l2] st M else EE 65 19 [l0, l1, l2] st M := e_ge0 d65_16 (by decide)
theorem d65_19 : decode (cod 65) 19 = .ok (.iload_n 2, 1) := by decide +kernel
theorem s65_19 {M : Mm} {st : List Value} {l0 l1 : Option Value} {x : Int32} : EE 65 19 [l0, l1, some (.int x)] st M = EE 65 20 [l0, l1, some (.int x)] (.int x :: st) M := e_ld d65_19 rfl rfl rfl rfl rfl rfl
theorem d65_20 : decode (cod 65) 20 = .ok (.iconst 1, 1) := by decide +kernel
theorem s65_20 {M : Mm} {st : List Value} {l0 l1 l2 : Option Value} : EE 65 20 [l0, l1, l2] st M = EE 65 21 [l0, l1, l2] (.int (nI 1) :: st) M := e_con d65_20 k_con_1
theorem d65_21 : decode (cod 65) 21 = .ok (.if_icmp .le 13, 3) := by decide +kernel
theorem s65_21 {M : Mm} {st : List Value} {l0 l1 l2 : Option Value} {x y : Int32} : EE 65 21 [l0, l1, l2] (.int y :: .int x :: st) M = if x ≤ y then EE 65 34 [l0, l1, l2] st M else EE 65 24 [l0, l1, l2] st M := e_cle d65_21 (by decide)
theorem d65_24 : decode (cod 65) 24 = .ok (.fload_n 1, 1) := by decide +kernel
theorem s65_24 {M : Mm} {st : List Value} {l0 l2 : Option Value} {x : UInt32} : EE 65 24 [l0, some (.float x), l2] st M = EE 65 25 [l0, some (.float x), l2] (.float x :: st) M := e_ld d65_24 rfl rfl rfl rfl rfl rfl
theorem d65_25 : decode (cod 65) 25 = .ok (.fconst 2, 1) := by decide +kernel
theorem s65_25 {M : Mm} {st : List Value} {l0 l1 l2 : Option Value} : EE 65 25 [l0, l1, l2] st M = EE 65 26 [l0, l1, l2] (.float FP.fconst2 :: st) M := e_psh d65_25 rfl rfl rfl
theorem d65_26 : decode (cod 65) 26 = .ok (.fmul, 1) := by decide +kernel
theorem s65_26 {M : Mm} {st : List Value} {l0 l1 l2 : Option Value} {x y : UInt32} (h : FP.fmul x y &&& 0x7fffffff ≤ 0x7f800000) : EE 65 26 [l0, l1, l2] (.float y :: .float x :: st) M = EE 65 27 [l0, l1, l2] (.float (FP.fmul x y) :: st) M := e_fmul d65_26 h
theorem d65_27 : decode (cod 65) 27 = .ok (.fstore_n 1, 1) := by decide +kernel
theorem s65_27 {M : Mm} {st : List Value} {l0 l1 l2 : Option Value} {x : UInt32} : EE 65 27 [l0, l1, l2] (.float x :: st) M = EE 65 28 [cln l0, some (.float x), l2] st M := e_st1 d65_27 rfl rfl rfl rfl rfl rfl rfl (Nat.le_of_ble_eq_true rfl) rfl
theorem d65_28 : decode (cod 65) 28 = .ok (.iinc 2 (-1), 3) := by decide +kernel
theorem s65_28 {M : Mm} {st : List Value} {l0 l1 : Option Value} {x : Int32} : EE 65 28 [l0, l1, some (.int x)] st M = EE 65 31 [l0, cln l1, some (.int (x + (-1)))] st M := e_iinc d65_28 rfl (congrArg (fun z => x + z) k_inc_m1) rfl
theorem d65_31 : decode (cod 65) 31 = .ok (.goto (-18), 3) := by decide +kernel
theorem s65_31 {M : Mm} {st : List Value} {l0 l1 l2 : Option Value} : EE 65 31 [l0, l1, l2] st M = EE 65 13 [l0, l1, l2] st M := e_goto d65_31 (by decide)
theorem d65_34 : decode (cod 65) 34 = .ok (.iload_n 2, 1) := by decide +kernel
theorem s65_34 {M : Mm} {st : List Value} {l0 l1 : Option Value} {x : Int32} : EE 65 34 [l0, l1, some (.int x)] st M = EE 65 35 [l0, l1, some (.int x)] (.int x :: st) M := e_ld d65_34 rfl rfl rfl rfl rfl rfl
theorem d65_35 : decode (cod 65) 35 = .ok (.bipush 23, 2) := by decide +kernel
theorem s65_35 {M : Mm} {st : List Value} {l0 l1 l2 : Option Value} : EE 65 35 [l0, l1, l2] st M = EE 65 37 [l0, l1, l2] (.int (nI 23) :: st) M := e_bip d65_35 k_bip_23
theorem d65_37 : decode (cod 65) 37 = .ok (.ishl, 1) := by decide +kernel
theorem s65_37 {M : Mm} {st : List Value} {l0 l1 l2 : Option Value} {x y : Int32} : EE 65 37 [l0, l1, l2] (.int y :: .int x :: st) M = EE 65 38 [l0, l1, l2] (.int (x <<< (y &&& 31)) :: st) M := e_II d65_37 rfl rfl rfl rfl rfl rfl
theorem d65_38 : decode (cod 65) 38 = .ok (.fload_n 1, 1) := by decide +kernel
theorem s65_38 {M : Mm} {st : List Value} {l0 l2 : Option Value} {x : UInt32} : EE 65 38 [l0, some (.float x), l2] st M = EE 65 39 [l0, some (.float x), l2] (.float x :: st) M := e_ld d65_38 rfl rfl rfl rfl rfl rfl
theorem d65_39 : decode (cod 65) 39 = .ok (.ldc 224, 2) := by decide +kernel
theorem s65_39 {M : Mm} {st : List Value} {l0 l1 l2 : Option Value} : EE 65 39 [l0, l1, l2] st M = EE 65 41 [l0, l1, l2] (.float 1258291200 :: st) M := e_ldc d65_39 k2_224
theorem d65_41 : decode (cod 65) 41 = .ok (.fmul, 1) := by decide +kernel
theorem s65_41 {M : Mm} {st : List Value} {l0 l1 l2 : Option Value} {x y : UInt32} (h : FP.fmul x y &&& 0x7fffffff ≤ 0x7f800000) : EE 65 41 [l0, l1, l2] (.float y :: .float x :: st) M = EE 65 42 [l0, l1, l2] (.float (FP.fmul x y) :: st) M := e_fmul d65_41 h
theorem d65_42 : decode (cod 65) 42 = .ok (.f2i, 1) := by decide +kernel
theorem s65_42 {M : Mm} {st : List Value} {l0 l1 l2 : Option Value} {x : UInt32} : EE 65 42 [l0, l1, l2] (.float x :: st) M = EE 65 43 [l0, l1, l2] (.int (FP.f2i x) :: st) M := e_U d65_42 rfl rfl rfl rfl rfl (bn_f2i x) rfl
theorem d65_43 : decode (cod 65) 43 = .ok (.ldc 225, 2) := by decide +kernel
theorem s65_43 {M : Mm} {st : List Value} {l0 l1 l2 : Option Value} : EE 65 43 [l0, l1, l2] st M = EE 65 45 [l0, l1, l2] (.int 8388608 :: st) M := e_ldc d65_43 k2_225
theorem d65_45 : decode (cod 65) 45 = .ok (.isub, 1) := by decide +kernel
theorem s65_45 {M : Mm} {st : List Value} {l0 l1 l2 : Option Value} {x y : Int32} : EE 65 45 [l0, l1, l2] (.int y :: .int x :: st) M = EE 65 46 [l0, l1, l2] (.int (x - y) :: st) M := e_II d65_45 rfl rfl rfl rfl rfl rfl
theorem d65_46 : decode (cod 65) 46 = .ok (.iadd, 1) := by decide +kernel
theorem s65_46 {M : Mm} {st : List Value} {l0 l1 l2 : Option Value} {x y : Int32} : EE 65 46 [l0, l1, l2] (.int y :: .int x :: st) M = EE 65 47 [l0, l1, l2] (.int (x + y) :: st) M := e_II d65_46 rfl rfl rfl rfl rfl rfl
theorem d65_47 : decode (cod 65) 47 = .ok (.ireturn, 1) := by decide +kernel
theorem s65_47 {M : Mm} {l0 l1 l2 : Option Value} {v : Int32} : EE 65 47 [l0, l1, l2] [.int v] M = some (some (.int v), M) := e_iret d65_47 rfl rfl
theorem FE65 {b0 : UInt32} {M : Mm} : FF 65 [.float b0] M = EE 65 0 [some (.float b0), none, none] [] M := FF_eq 65 _ _ (Nat.le_of_ble_eq_true rfl)
