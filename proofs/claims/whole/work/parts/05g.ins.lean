theorem d117_0 : decode (cod 117) 0 = .ok (.iconst 0, 1) := by decide +kernel
theorem s117_0 {M : Mm} {st : List Value} {l0 l1 l2 l3 l4 l5 l6 : Option Value} : EE 117 0 [l0, l1, l2, l3, l4, l5, l6] st M = EE 117 1 [l0, l1, l2, l3, l4, l5, l6] (.int (nI 0) :: st) M := e_con d117_0 k_con_0
theorem d117_1 : decode (cod 117) 1 = .ok (.istore_n 3, 1) := by decide +kernel
theorem s117_1 {M : Mm} {st : List Value} {l0 l1 l2 l3 l4 l5 l6 : Option Value} {x : Int32} : EE 117 1 [l0, l1, l2, l3, l4, l5, l6] (.int x :: st) M = EE 117 2 [l0, l1, cln l2, some (.int x), l4, l5, l6] st M := e_st1 d117_1 rfl rfl rfl rfl rfl rfl rfl (Nat.le_of_ble_eq_true rfl) rfl
theorem d117_2 : decode (cod 117) 2 = .ok (.iload_n 3, 1) := by decide +kernel
theorem s117_2 {M : Mm} {st : List Value} {l0 l1 l2 l4 l5 l6 : Option Value} {x : Int32} : EE 117 2 [l0, l1, l2, some (.int x), l4, l5, l6] st M = EE 117 3 [l0, l1, l2, some (.int x), l4, l5, l6] (.int x :: st) M := e_ld d117_2 rfl rfl rfl rfl rfl rfl
theorem d117_3 : decode (cod 117) 3 = .ok (.aload_n 0, 1) := by decide +kernel
theorem s117_3 {M : Mm} {st : List Value} {l1 l2 l3 l4 l5 l6 : Option Value} {x : Nat} : EE 117 3 [some (.ref x), l1, l2, l3, l4, l5, l6] st M = EE 117 4 [some (.ref x), l1, l2, l3, l4, l5, l6] (.ref x :: st) M := e_ld d117_3 rfl rfl rfl rfl rfl rfl
theorem d117_4 : decode (cod 117) 4 = .ok (.bipush 13, 2) := by decide +kernel
theorem s117_4 {M : Mm} {st : List Value} {l0 l1 l2 l3 l4 l5 l6 : Option Value} : EE 117 4 [l0, l1, l2, l3, l4, l5, l6] st M = EE 117 6 [l0, l1, l2, l3, l4, l5, l6] (.int (nI 13) :: st) M := e_bip d117_4 k_bip_13
theorem d117_6 : decode (cod 117) 6 = .ok (.iaload, 1) := by decide +kernel
theorem s117_6 {n : Nat} {I : Nat → Nat → Int32} {R : Nat → Nat → Option Nat} {st : List Value} {l0 l1 l2 l3 l4 l5 l6 : Option Value} {j : Int32} {a : Nat} : EE 117 6 [l0, l1, l2, l3, l4, l5, l6] (.int j :: .ref a :: st) (n, I, R) = (ardI 5 n I a j).bind (fun z => EE 117 7 [l0, l1, l2, l3, l4, l5, l6] (.int z :: st) (n, I, R)) := e_iald d117_6
theorem d117_7 : decode (cod 117) 7 = .ok (.if_icmp .ge 60, 3) := by decide +kernel
theorem s117_7 {M : Mm} {st : List Value} {l0 l1 l2 l3 l4 l5 l6 : Option Value} {x y : Int32} : EE 117 7 [l0, l1, l2, l3, l4, l5, l6] (.int y :: .int x :: st) M = if y ≤ x then EE 117 67 [l0, l1, l2, l3, l4, l5, l6] st M else EE 117 10 [l0, l1, l2, l3, l4, l5, l6] st M := e_cge d117_7 (by decide)
theorem d117_10 : decode (cod 117) 10 = .ok (.aload_n 0, 1) := by decide +kernel
theorem s117_10 {M : Mm} {st : List Value} {l1 l2 l3 l4 l5 l6 : Option Value} {x : Nat} : EE 117 10 [some (.ref x), l1, l2, l3, l4, l5, l6] st M = EE 117 11 [some (.ref x), l1, l2, l3, l4, l5, l6] (.ref x :: st) M := e_ld d117_10 rfl rfl rfl rfl rfl rfl
theorem d117_11 : decode (cod 117) 11 = .ok (.bipush 48, 2) := by decide +kernel
theorem s117_11 {M : Mm} {st : List Value} {l0 l1 l2 l3 l4 l5 l6 : Option Value} : EE 117 11 [l0, l1, l2, l3, l4, l5, l6] st M = EE 117 13 [l0, l1, l2, l3, l4, l5, l6] (.int (nI 48) :: st) M := e_bip d117_11 k_bip_48
theorem d117_13 : decode (cod 117) 13 = .ok (.iload_n 3, 1) := by decide +kernel
theorem s117_13 {M : Mm} {st : List Value} {l0 l1 l2 l4 l5 l6 : Option Value} {x : Int32} : EE 117 13 [l0, l1, l2, some (.int x), l4, l5, l6] st M = EE 117 14 [l0, l1, l2, some (.int x), l4, l5, l6] (.int x :: st) M := e_ld d117_13 rfl rfl rfl rfl rfl rfl
theorem d117_14 : decode (cod 117) 14 = .ok (.iadd, 1) := by decide +kernel
theorem s117_14 {M : Mm} {st : List Value} {l0 l1 l2 l3 l4 l5 l6 : Option Value} {x y : Int32} : EE 117 14 [l0, l1, l2, l3, l4, l5, l6] (.int y :: .int x :: st) M = EE 117 15 [l0, l1, l2, l3, l4, l5, l6] (.int (x + y) :: st) M := e_II d117_14 rfl rfl rfl rfl rfl rfl
theorem d117_15 : decode (cod 117) 15 = .ok (.iaload, 1) := by decide +kernel
theorem s117_15 {n : Nat} {I : Nat → Nat → Int32} {R : Nat → Nat → Option Nat} {st : List Value} {l0 l1 l2 l3 l4 l5 l6 : Option Value} {j : Int32} {a : Nat} : EE 117 15 [l0, l1, l2, l3, l4, l5, l6] (.int j :: .ref a :: st) (n, I, R) = (ardI 5 n I a j).bind (fun z => EE 117 16 [l0, l1, l2, l3, l4, l5, l6] (.int z :: st) (n, I, R)) := e_iald d117_15
theorem d117_16 : decode (cod 117) 16 = .ok (.istore 4, 2) := by decide +kernel
theorem s117_16 {M : Mm} {st : List Value} {l0 l1 l2 l3 l4 l5 l6 : Option Value} {x : Int32} : EE 117 16 [l0, l1, l2, l3, l4, l5, l6] (.int x :: st) M = EE 117 18 [l0, l1, l2, cln l3, some (.int x), l5, l6] st M := e_st1 d117_16 rfl rfl rfl rfl rfl rfl rfl (Nat.le_of_ble_eq_true rfl) rfl
theorem d117_18 : decode (cod 117) 18 = .ok (.aload_n 0, 1) := by decide +kernel
theorem s117_18 {M : Mm} {st : List Value} {l1 l2 l3 l4 l5 l6 : Option Value} {x : Nat} : EE 117 18 [some (.ref x), l1, l2, l3, l4, l5, l6] st M = EE 117 19 [some (.ref x), l1, l2, l3, l4, l5, l6] (.ref x :: st) M := e_ld d117_18 rfl rfl rfl rfl rfl rfl
theorem d117_19 : decode (cod 117) 19 = .ok (.bipush 38, 2) := by decide +kernel
theorem s117_19 {M : Mm} {st : List Value} {l0 l1 l2 l3 l4 l5 l6 : Option Value} : EE 117 19 [l0, l1, l2, l3, l4, l5, l6] st M = EE 117 21 [l0, l1, l2, l3, l4, l5, l6] (.int (nI 38) :: st) M := e_bip d117_19 k_bip_38
theorem d117_21 : decode (cod 117) 21 = .ok (.iload 4, 2) := by decide +kernel
theorem s117_21 {M : Mm} {st : List Value} {l0 l1 l2 l3 l5 l6 : Option Value} {x : Int32} : EE 117 21 [l0, l1, l2, l3, some (.int x), l5, l6] st M = EE 117 23 [l0, l1, l2, l3, some (.int x), l5, l6] (.int x :: st) M := e_ld d117_21 rfl rfl rfl rfl rfl rfl
theorem d117_23 : decode (cod 117) 23 = .ok (.iadd, 1) := by decide +kernel
theorem s117_23 {M : Mm} {st : List Value} {l0 l1 l2 l3 l4 l5 l6 : Option Value} {x y : Int32} : EE 117 23 [l0, l1, l2, l3, l4, l5, l6] (.int y :: .int x :: st) M = EE 117 24 [l0, l1, l2, l3, l4, l5, l6] (.int (x + y) :: st) M := e_II d117_23 rfl rfl rfl rfl rfl rfl
theorem d117_24 : decode (cod 117) 24 = .ok (.iaload, 1) := by decide +kernel
theorem s117_24 {n : Nat} {I : Nat → Nat → Int32} {R : Nat → Nat → Option Nat} {st : List Value} {l0 l1 l2 l3 l4 l5 l6 : Option Value} {j : Int32} {a : Nat} : EE 117 24 [l0, l1, l2, l3, l4, l5, l6] (.int j :: .ref a :: st) (n, I, R) = (ardI 5 n I a j).bind (fun z => EE 117 25 [l0, l1, l2, l3, l4, l5, l6] (.int z :: st) (n, I, R)) := e_iald d117_24
theorem d117_25 : decode (cod 117) 25 = .ok (.iconst 1, 1) := by decide +kernel
theorem s117_25 {M : Mm} {st : List Value} {l0 l1 l2 l3 l4 l5 l6 : Option Value} : EE 117 25 [l0, l1, l2, l3, l4, l5, l6] st M = EE 117 26 [l0, l1, l2, l3, l4, l5, l6] (.int (nI 1) :: st) M := e_con d117_25 k_con_1
theorem d117_26 : decode (cod 117) 26 = .ok (.if_icmp .ne 35, 3) := by decide +kernel
theorem s117_26 {M : Mm} {st : List Value} {l0 l1 l2 l3 l4 l5 l6 : Option Value} {x y : Int32} : EE 117 26 [l0, l1, l2, l3, l4, l5, l6] (.int y :: .int x :: st) M = if x = y then EE 117 29 [l0, l1, l2, l3, l4, l5, l6] st M else EE 117 61 [l0, l1, l2, l3, l4, l5, l6] st M := e_cne d117_26 (by decide)
theorem d117_29 : decode (cod 117) 29 = .ok (.aload_n 0, 1) := by decide +kernel
theorem s117_29 {M : Mm} {st : List Value} {l1 l2 l3 l4 l5 l6 : Option Value} {x : Nat} : EE 117 29 [some (.ref x), l1, l2, l3, l4, l5, l6] st M = EE 117 30 [some (.ref x), l1, l2, l3, l4, l5, l6] (.ref x :: st) M := e_ld d117_29 rfl rfl rfl rfl rfl rfl
theorem d117_30 : decode (cod 117) 30 = .ok (.iload_n 2, 1) := by decide +kernel
theorem s117_30 {M : Mm} {st : List Value} {l0 l1 l3 l4 l5 l6 : Option Value} {x : Int32} : EE 117 30 [l0, l1, some (.int x), l3, l4, l5, l6] st M = EE 117 31 [l0, l1, some (.int x), l3, l4, l5, l6] (.int x :: st) M := e_ld d117_30 rfl rfl rfl rfl rfl rfl
theorem d117_31 : decode (cod 117) 31 = .ok (.iload 4, 2) := by decide +kernel
theorem s117_31 {M : Mm} {st : List Value} {l0 l1 l2 l3 l5 l6 : Option Value} {x : Int32} : EE 117 31 [l0, l1, l2, l3, some (.int x), l5, l6] st M = EE 117 33 [l0, l1, l2, l3, some (.int x), l5, l6] (.int x :: st) M := e_ld d117_31 rfl rfl rfl rfl rfl rfl
theorem d117_33 : decode (cod 117) 33 = .ok (.invokestatic 51, 3) := by decide +kernel
theorem s117_33 {M : Mm} {l0 l1 l2 l3 l4 l5 l6 : Option Value} {b0 : Nat} {b1 : Int32} {b2 : Int32} {st : List Value} (hl : st.length ≤ 4) : EE 117 33 [l0, l1, l2, l3, l4, l5, l6] (.int b2 :: .int b1 :: .ref b0 :: st) M = (FF 118 [.ref b0, .int b1, .int b2] M).bind (fun z => EE 117 36 [l0, l1, l2, l3, l4, l5, l6] (psh z.1 st) z.2) := e_cals (av := [.ref b0, .int b1, .int b2]) d117_33 c3_51 (Or.inl rfl) rfl rfl r117_118 rfl hl
theorem d117_36 : decode (cod 117) 36 = .ok (.ifCond .ne 25, 3) := by decide +kernel
theorem s117_36 {M : Mm} {st : List Value} {l0 l1 l2 l3 l4 l5 l6 : Option Value} {x : Int32} : EE 117 36 [l0, l1, l2, l3, l4, l5, l6] (.int x :: st) M = if x = 0 then EE 117 39 [l0, l1, l2, l3, l4, l5, l6] st M else EE 117 61 [l0, l1, l2, l3, l4, l5, l6] st M := e_ne0 d117_36 (by decide)
theorem d117_39 : decode (cod 117) 39 = .ok (.aload_n 0, 1) := by decide +kernel
theorem s117_39 {M : Mm} {st : List Value} {l1 l2 l3 l4 l5 l6 : Option Value} {x : Nat} : EE 117 39 [some (.ref x), l1, l2, l3, l4, l5, l6] st M = EE 117 40 [some (.ref x), l1, l2, l3, l4, l5, l6] (.ref x :: st) M := e_ld d117_39 rfl rfl rfl rfl rfl rfl
theorem d117_40 : decode (cod 117) 40 = .ok (.iload_n 2, 1) := by decide +kernel
theorem s117_40 {M : Mm} {st : List Value} {l0 l1 l3 l4 l5 l6 : Option Value} {x : Int32} : EE 117 40 [l0, l1, some (.int x), l3, l4, l5, l6] st M = EE 117 41 [l0, l1, some (.int x), l3, l4, l5, l6] (.int x :: st) M := e_ld d117_40 rfl rfl rfl rfl rfl rfl
theorem d117_41 : decode (cod 117) 41 = .ok (.iload 4, 2) := by decide +kernel
theorem s117_41 {M : Mm} {st : List Value} {l0 l1 l2 l3 l5 l6 : Option Value} {x : Int32} : EE 117 41 [l0, l1, l2, l3, some (.int x), l5, l6] st M = EE 117 43 [l0, l1, l2, l3, some (.int x), l5, l6] (.int x :: st) M := e_ld d117_41 rfl rfl rfl rfl rfl rfl
theorem d117_43 : decode (cod 117) 43 = .ok (.invokestatic 47, 3) := by decide +kernel
theorem s117_43 {M : Mm} {l0 l1 l2 l3 l4 l5 l6 : Option Value} {b0 : Int32} {b1 : Int32} {st : List Value} (hl : st.length ≤ 4) : EE 117 43 [l0, l1, l2, l3, l4, l5, l6] (.int b1 :: .int b0 :: st) M = (FF 107 [.int b0, .int b1] M).bind (fun z => EE 117 46 [l0, l1, l2, l3, l4, l5, l6] (psh z.1 st) z.2) := e_cals (av := [.int b0, .int b1]) d117_43 c3_47 (Or.inl rfl) rfl rfl r117_107 rfl hl
theorem d117_46 : decode (cod 117) 46 = .ok (.iaload, 1) := by decide +kernel
theorem s117_46 {n : Nat} {I : Nat → Nat → Int32} {R : Nat → Nat → Option Nat} {st : List Value} {l0 l1 l2 l3 l4 l5 l6 : Option Value} {j : Int32} {a : Nat} : EE 117 46 [l0, l1, l2, l3, l4, l5, l6] (.int j :: .ref a :: st) (n, I, R) = (ardI 5 n I a j).bind (fun z => EE 117 47 [l0, l1, l2, l3, l4, l5, l6] (.int z :: st) (n, I, R)) := e_iald d117_46
theorem d117_47 : decode (cod 117) 47 = .ok (.aload_n 0, 1) := by decide +kernel
theorem s117_47 {M : Mm} {st : List Value} {l1 l2 l3 l4 l5 l6 : Option Value} {x : Nat} : EE 117 47 [some (.ref x), l1, l2, l3, l4, l5, l6] st M = EE 117 48 [some (.ref x), l1, l2, l3, l4, l5, l6] (.ref x :: st) M := e_ld d117_47 rfl rfl rfl rfl rfl rfl
theorem d117_48 : decode (cod 117) 48 = .ok (.iload_n 1, 1) := by decide +kernel
theorem s117_48 {M : Mm} {st : List Value} {l0 l2 l3 l4 l5 l6 : Option Value} {x : Int32} : EE 117 48 [l0, some (.int x), l2, l3, l4, l5, l6] st M = EE 117 49 [l0, some (.int x), l2, l3, l4, l5, l6] (.int x :: st) M := e_ld d117_48 rfl rfl rfl rfl rfl rfl
theorem d117_49 : decode (cod 117) 49 = .ok (.iload 4, 2) := by decide +kernel
theorem s117_49 {M : Mm} {st : List Value} {l0 l1 l2 l3 l5 l6 : Option Value} {x : Int32} : EE 117 49 [l0, l1, l2, l3, some (.int x), l5, l6] st M = EE 117 51 [l0, l1, l2, l3, some (.int x), l5, l6] (.int x :: st) M := e_ld d117_49 rfl rfl rfl rfl rfl rfl
theorem d117_51 : decode (cod 117) 51 = .ok (.invokestatic 47, 3) := by decide +kernel
theorem s117_51 {M : Mm} {l0 l1 l2 l3 l4 l5 l6 : Option Value} {b0 : Int32} {b1 : Int32} {st : List Value} (hl : st.length ≤ 4) : EE 117 51 [l0, l1, l2, l3, l4, l5, l6] (.int b1 :: .int b0 :: st) M = (FF 107 [.int b0, .int b1] M).bind (fun z => EE 117 54 [l0, l1, l2, l3, l4, l5, l6] (psh z.1 st) z.2) := e_cals (av := [.int b0, .int b1]) d117_51 c3_47 (Or.inl rfl) rfl rfl r117_107 rfl hl
theorem d117_54 : decode (cod 117) 54 = .ok (.iaload, 1) := by decide +kernel
theorem s117_54 {n : Nat} {I : Nat → Nat → Int32} {R : Nat → Nat → Option Nat} {st : List Value} {l0 l1 l2 l3 l4 l5 l6 : Option Value} {j : Int32} {a : Nat} : EE 117 54 [l0, l1, l2, l3, l4, l5, l6] (.int j :: .ref a :: st) (n, I, R) = (ardI 5 n I a j).bind (fun z => EE 117 55 [l0, l1, l2, l3, l4, l5, l6] (.int z :: st) (n, I, R)) := e_iald d117_54
theorem d117_55 : decode (cod 117) 55 = .ok (.if_icmp .ge 6, 3) := by decide +kernel
theorem s117_55 {M : Mm} {st : List Value} {l0 l1 l2 l3 l4 l5 l6 : Option Value} {x y : Int32} : EE 117 55 [l0, l1, l2, l3, l4, l5, l6] (.int y :: .int x :: st) M = if y ≤ x then EE 117 61 [l0, l1, l2, l3, l4, l5, l6] st M else EE 117 58 [l0, l1, l2, l3, l4, l5, l6] st M := e_cge d117_55 (by decide)
theorem d117_58 : decode (cod 117) 58 = .ok (.iload 4, 2) := by decide +kernel
theorem s117_58 {M : Mm} {st : List Value} {l0 l1 l2 l3 l5 l6 : Option Value} {x : Int32} : EE 117 58 [l0, l1, l2, l3, some (.int x), l5, l6] st M = EE 117 60 [l0, l1, l2, l3, some (.int x), l5, l6] (.int x :: st) M := e_ld d117_58 rfl rfl rfl rfl rfl rfl
theorem d117_60 : decode (cod 117) 60 = .ok (.ireturn, 1) := by decide +kernel
theorem s117_60 {M : Mm} {l0 l1 l2 l3 l4 l5 l6 : Option Value} {v : Int32} : EE 117 60 [l0, l1, l2, l3, l4, l5, l6] [.int v] M = some (some (.int v), M) := e_iret d117_60 rfl rfl
theorem d117_61 : decode (cod 117) 61 = .ok (.iinc 3 1, 3) := by decide +kernel
theorem s117_61 {M : Mm} {st : List Value} {l0 l1 l2 l4 l5 l6 : Option Value} {x : Int32} : EE 117 61 [l0, l1, l2, some (.int x), l4, l5, l6] st M = EE 117 64 [l0, l1, cln l2, some (.int (x + nI 1)), l4, l5, l6] st M := e_iinc d117_61 rfl (congrArg (fun z => x + z) k_inc_1) rfl
theorem d117_64 : decode (cod 117) 64 = .ok (.goto (-62), 3) := by decide +kernel
theorem s117_64 {M : Mm} {st : List Value} {l0 l1 l2 l3 l4 l5 l6 : Option Value} : EE 117 64 [l0, l1, l2, l3, l4, l5, l6] st M = EE 117 2 [l0, l1, l2, l3, l4, l5, l6] st M := e_goto d117_64 (by decide)
theorem d117_67 : decode (cod 117) 67 = .ok (.iconst (-1), 1) := by decide +kernel
theorem s117_67 {M : Mm} {st : List Value} {l0 l1 l2 l3 l4 l5 l6 : Option Value} : EE 117 67 [l0, l1, l2, l3, l4, l5, l6] st M = EE 117 68 [l0, l1, l2, l3, l4, l5, l6] (.int ((-1)) :: st) M := e_con d117_67 k_con_m1
theorem d117_68 : decode (cod 117) 68 = .ok (.istore_n 3, 1) := by decide +kernel
theorem s117_68 {M : Mm} {st : List Value} {l0 l1 l2 l3 l4 l5 l6 : Option Value} {x : Int32} : EE 117 68 [l0, l1, l2, l3, l4, l5, l6] (.int x :: st) M = EE 117 69 [l0, l1, cln l2, some (.int x), l4, l5, l6] st M := e_st1 d117_68 rfl rfl rfl rfl rfl rfl rfl (Nat.le_of_ble_eq_true rfl) rfl
theorem d117_69 : decode (cod 117) 69 = .ok (.iconst 0, 1) := by decide +kernel
theorem s117_69 {M : Mm} {st : List Value} {l0 l1 l2 l3 l4 l5 l6 : Option Value} : EE 117 69 [l0, l1, l2, l3, l4, l5, l6] st M = EE 117 70 [l0, l1, l2, l3, l4, l5, l6] (.int (nI 0) :: st) M := e_con d117_69 k_con_0
theorem d117_70 : decode (cod 117) 70 = .ok (.istore 4, 2) := by decide +kernel
theorem s117_70 {M : Mm} {st : List Value} {l0 l1 l2 l3 l4 l5 l6 : Option Value} {x : Int32} : EE 117 70 [l0, l1, l2, l3, l4, l5, l6] (.int x :: st) M = EE 117 72 [l0, l1, l2, cln l3, some (.int x), l5, l6] st M := e_st1 d117_70 rfl rfl rfl rfl rfl rfl rfl (Nat.le_of_ble_eq_true rfl) rfl
theorem d117_72 : decode (cod 117) 72 = .ok (.iconst 0, 1) := by decide +kernel
theorem s117_72 {M : Mm} {st : List Value} {l0 l1 l2 l3 l4 l5 l6 : Option Value} : EE 117 72 [l0, l1, l2, l3, l4, l5, l6] st M = EE 117 73 [l0, l1, l2, l3, l4, l5, l6] (.int (nI 0) :: st) M := e_con d117_72 k_con_0
theorem d117_73 : decode (cod 117) 73 = .ok (.istore 5, 2) := by decide +kernel
theorem s117_73 {M : Mm} {st : List Value} {l0 l1 l2 l3 l4 l5 l6 : Option Value} {x : Int32} : EE 117 73 [l0, l1, l2, l3, l4, l5, l6] (.int x :: st) M = EE 117 75 [l0, l1, l2, l3, cln l4, some (.int x), l6] st M := e_st1 d117_73 rfl rfl rfl rfl rfl rfl rfl (Nat.le_of_ble_eq_true rfl) rfl
theorem d117_75 : decode (cod 117) 75 = .ok (.iload 5, 2) := by decide +kernel
theorem s117_75 {M : Mm} {st : List Value} {l0 l1 l2 l3 l4 l6 : Option Value} {x : Int32} : EE 117 75 [l0, l1, l2, l3, l4, some (.int x), l6] st M = EE 117 77 [l0, l1, l2, l3, l4, some (.int x), l6] (.int x :: st) M := e_ld d117_75 rfl rfl rfl rfl rfl rfl
theorem d117_77 : decode (cod 117) 77 = .ok (.aload_n 0, 1) := by decide +kernel
theorem s117_77 {M : Mm} {st : List Value} {l1 l2 l3 l4 l5 l6 : Option Value} {x : Nat} : EE 117 77 [some (.ref x), l1, l2, l3, l4, l5, l6] st M = EE 117 78 [some (.ref x), l1, l2, l3, l4, l5, l6] (.ref x :: st) M := e_ld d117_77 rfl rfl rfl rfl rfl rfl
theorem d117_78 : decode (cod 117) 78 = .ok (.iconst 1, 1) := by decide +kernel
theorem s117_78 {M : Mm} {st : List Value} {l0 l1 l2 l3 l4 l5 l6 : Option Value} : EE 117 78 [l0, l1, l2, l3, l4, l5, l6] st M = EE 117 79 [l0, l1, l2, l3, l4, l5, l6] (.int (nI 1) :: st) M := e_con d117_78 k_con_1
theorem d117_79 : decode (cod 117) 79 = .ok (.iaload, 1) := by decide +kernel
theorem s117_79 {n : Nat} {I : Nat → Nat → Int32} {R : Nat → Nat → Option Nat} {st : List Value} {l0 l1 l2 l3 l4 l5 l6 : Option Value} {j : Int32} {a : Nat} : EE 117 79 [l0, l1, l2, l3, l4, l5, l6] (.int j :: .ref a :: st) (n, I, R) = (ardI 5 n I a j).bind (fun z => EE 117 80 [l0, l1, l2, l3, l4, l5, l6] (.int z :: st) (n, I, R)) := e_iald d117_79
theorem d117_80 : decode (cod 117) 80 = .ok (.if_icmp .ge 53, 3) := by decide +kernel
theorem s117_80 {M : Mm} {st : List Value} {l0 l1 l2 l3 l4 l5 l6 : Option Value} {x y : Int32} : EE 117 80 [l0, l1, l2, l3, l4, l5, l6] (.int y :: .int x :: st) M = if y ≤ x then EE 117 133 [l0, l1, l2, l3, l4, l5, l6] st M else EE 117 83 [l0, l1, l2, l3, l4, l5, l6] st M := e_cge d117_80 (by decide)
theorem d117_83 : decode (cod 117) 83 = .ok (.aload_n 0, 1) := by decide +kernel
theorem s117_83 {M : Mm} {st : List Value} {l1 l2 l3 l4 l5 l6 : Option Value} {x : Nat} : EE 117 83 [some (.ref x), l1, l2, l3, l4, l5, l6] st M = EE 117 84 [some (.ref x), l1, l2, l3, l4, l5, l6] (.ref x :: st) M := e_ld d117_83 rfl rfl rfl rfl rfl rfl
theorem d117_84 : decode (cod 117) 84 = .ok (.iload_n 1, 1) := by decide +kernel
theorem s117_84 {M : Mm} {st : List Value} {l0 l2 l3 l4 l5 l6 : Option Value} {x : Int32} : EE 117 84 [l0, some (.int x), l2, l3, l4, l5, l6] st M = EE 117 85 [l0, some (.int x), l2, l3, l4, l5, l6] (.int x :: st) M := e_ld d117_84 rfl rfl rfl rfl rfl rfl
theorem d117_85 : decode (cod 117) 85 = .ok (.iload 5, 2) := by decide +kernel
theorem s117_85 {M : Mm} {st : List Value} {l0 l1 l2 l3 l4 l6 : Option Value} {x : Int32} : EE 117 85 [l0, l1, l2, l3, l4, some (.int x), l6] st M = EE 117 87 [l0, l1, l2, l3, l4, some (.int x), l6] (.int x :: st) M := e_ld d117_85 rfl rfl rfl rfl rfl rfl
theorem d117_87 : decode (cod 117) 87 = .ok (.invokestatic 47, 3) := by decide +kernel
theorem s117_87 {M : Mm} {l0 l1 l2 l3 l4 l5 l6 : Option Value} {b0 : Int32} {b1 : Int32} {st : List Value} (hl : st.length ≤ 4) : EE 117 87 [l0, l1, l2, l3, l4, l5, l6] (.int b1 :: .int b0 :: st) M = (FF 107 [.int b0, .int b1] M).bind (fun z => EE 117 90 [l0, l1, l2, l3, l4, l5, l6] (psh z.1 st) z.2) := e_cals (av := [.int b0, .int b1]) d117_87 c3_47 (Or.inl rfl) rfl rfl r117_107 rfl hl
theorem d117_90 : decode (cod 117) 90 = .ok (.iaload, 1) := by decide +kernel
theorem s117_90 {n : Nat} {I : Nat → Nat → Int32} {R : Nat → Nat → Option Nat} {st : List Value} {l0 l1 l2 l3 l4 l5 l6 : Option Value} {j : Int32} {a : Nat} : EE 117 90 [l0, l1, l2, l3, l4, l5, l6] (.int j :: .ref a :: st) (n, I, R) = (ardI 5 n I a j).bind (fun z => EE 117 91 [l0, l1, l2, l3, l4, l5, l6] (.int z :: st) (n, I, R)) := e_iald d117_90
theorem d117_91 : decode (cod 117) 91 = .ok (.aload_n 0, 1) := by decide +kernel
theorem s117_91 {M : Mm} {st : List Value} {l1 l2 l3 l4 l5 l6 : Option Value} {x : Nat} : EE 117 91 [some (.ref x), l1, l2, l3, l4, l5, l6] st M = EE 117 92 [some (.ref x), l1, l2, l3, l4, l5, l6] (.ref x :: st) M := e_ld d117_91 rfl rfl rfl rfl rfl rfl
theorem d117_92 : decode (cod 117) 92 = .ok (.iload_n 2, 1) := by decide +kernel
theorem s117_92 {M : Mm} {st : List Value} {l0 l1 l3 l4 l5 l6 : Option Value} {x : Int32} : EE 117 92 [l0, l1, some (.int x), l3, l4, l5, l6] st M = EE 117 93 [l0, l1, some (.int x), l3, l4, l5, l6] (.int x :: st) M := e_ld d117_92 rfl rfl rfl rfl rfl rfl
theorem d117_93 : decode (cod 117) 93 = .ok (.iload 5, 2) := by decide +kernel
theorem s117_93 {M : Mm} {st : List Value} {l0 l1 l2 l3 l4 l6 : Option Value} {x : Int32} : EE 117 93 [l0, l1, l2, l3, l4, some (.int x), l6] st M = EE 117 95 [l0, l1, l2, l3, l4, some (.int x), l6] (.int x :: st) M := e_ld d117_93 rfl rfl rfl rfl rfl rfl
theorem d117_95 : decode (cod 117) 95 = .ok (.invokestatic 47, 3) := by decide +kernel
theorem s117_95 {M : Mm} {l0 l1 l2 l3 l4 l5 l6 : Option Value} {b0 : Int32} {b1 : Int32} {st : List Value} (hl : st.length ≤ 4) : EE 117 95 [l0, l1, l2, l3, l4, l5, l6] (.int b1 :: .int b0 :: st) M = (FF 107 [.int b0, .int b1] M).bind (fun z => EE 117 98 [l0, l1, l2, l3, l4, l5, l6] (psh z.1 st) z.2) := e_cals (av := [.int b0, .int b1]) d117_95 c3_47 (Or.inl rfl) rfl rfl r117_107 rfl hl
theorem d117_98 : decode (cod 117) 98 = .ok (.iaload, 1) := by decide +kernel
theorem s117_98 {n : Nat} {I : Nat → Nat → Int32} {R : Nat → Nat → Option Nat} {st : List Value} {l0 l1 l2 l3 l4 l5 l6 : Option Value} {j : Int32} {a : Nat} : EE 117 98 [l0, l1, l2, l3, l4, l5, l6] (.int j :: .ref a :: st) (n, I, R) = (ardI 5 n I a j).bind (fun z => EE 117 99 [l0, l1, l2, l3, l4, l5, l6] (.int z :: st) (n, I, R)) := e_iald d117_98
theorem d117_99 : decode (cod 117) 99 = .ok (.isub, 1) := by decide +kernel
theorem s117_99 {M : Mm} {st : List Value} {l0 l1 l2 l3 l4 l5 l6 : Option Value} {x y : Int32} : EE 117 99 [l0, l1, l2, l3, l4, l5, l6] (.int y :: .int x :: st) M = EE 117 100 [l0, l1, l2, l3, l4, l5, l6] (.int (x - y) :: st) M := e_II d117_99 rfl rfl rfl rfl rfl rfl
theorem d117_100 : decode (cod 117) 100 = .ok (.istore 6, 2) := by decide +kernel
theorem s117_100 {M : Mm} {st : List Value} {l0 l1 l2 l3 l4 l5 l6 : Option Value} {x : Int32} : EE 117 100 [l0, l1, l2, l3, l4, l5, l6] (.int x :: st) M = EE 117 102 [l0, l1, l2, l3, l4, cln l5, some (.int x)] st M := e_st1 d117_100 rfl rfl rfl rfl rfl rfl rfl (Nat.le_of_ble_eq_true rfl) rfl
theorem d117_102 : decode (cod 117) 102 = .ok (.aload_n 0, 1) := by decide +kernel
theorem s117_102 {M : Mm} {st : List Value} {l1 l2 l3 l4 l5 l6 : Option Value} {x : Nat} : EE 117 102 [some (.ref x), l1, l2, l3, l4, l5, l6] st M = EE 117 103 [some (.ref x), l1, l2, l3, l4, l5, l6] (.ref x :: st) M := e_ld d117_102 rfl rfl rfl rfl rfl rfl
theorem d117_103 : decode (cod 117) 103 = .ok (.bipush 38, 2) := by decide +kernel
theorem s117_103 {M : Mm} {st : List Value} {l0 l1 l2 l3 l4 l5 l6 : Option Value} : EE 117 103 [l0, l1, l2, l3, l4, l5, l6] st M = EE 117 105 [l0, l1, l2, l3, l4, l5, l6] (.int (nI 38) :: st) M := e_bip d117_103 k_bip_38
theorem d117_105 : decode (cod 117) 105 = .ok (.iload 5, 2) := by decide +kernel
theorem s117_105 {M : Mm} {st : List Value} {l0 l1 l2 l3 l4 l6 : Option Value} {x : Int32} : EE 117 105 [l0, l1, l2, l3, l4, some (.int x), l6] st M = EE 117 107 [l0, l1, l2, l3, l4, some (.int x), l6] (.int x :: st) M := e_ld d117_105 rfl rfl rfl rfl rfl rfl
theorem d117_107 : decode (cod 117) 107 = .ok (.iadd, 1) := by decide +kernel
theorem s117_107 {M : Mm} {st : List Value} {l0 l1 l2 l3 l4 l5 l6 : Option Value} {x y : Int32} : EE 117 107 [l0, l1, l2, l3, l4, l5, l6] (.int y :: .int x :: st) M = EE 117 108 [l0, l1, l2, l3, l4, l5, l6] (.int (x + y) :: st) M := e_II d117_107 rfl rfl rfl rfl rfl rfl
theorem d117_108 : decode (cod 117) 108 = .ok (.iaload, 1) := by decide +kernel
theorem s117_108 {n : Nat} {I : Nat → Nat → Int32} {R : Nat → Nat → Option Nat} {st : List Value} {l0 l1 l2 l3 l4 l5 l6 : Option Value} {j : Int32} {a : Nat} : EE 117 108 [l0, l1, l2, l3, l4, l5, l6] (.int j :: .ref a :: st) (n, I, R) = (ardI 5 n I a j).bind (fun z => EE 117 109 [l0, l1, l2, l3, l4, l5, l6] (.int z :: st) (n, I, R)) := e_iald d117_108
theorem d117_109 : decode (cod 117) 109 = .ok (.iconst 1, 1) := by decide +kernel
theorem s117_109 {M : Mm} {st : List Value} {l0 l1 l2 l3 l4 l5 l6 : Option Value} : EE 117 109 [l0, l1, l2, l3, l4, l5, l6] st M = EE 117 110 [l0, l1, l2, l3, l4, l5, l6] (.int (nI 1) :: st) M := e_con d117_109 k_con_1
theorem d117_110 : decode (cod 117) 110 = .ok (.if_icmp .ne 17, 3) := by decide +kernel
theorem s117_110 {M : Mm} {st : List Value} {l0 l1 l2 l3 l4 l5 l6 : Option Value} {x y : Int32} : EE 117 110 [l0, l1, l2, l3, l4, l5, l6] (.int y :: .int x :: st) M = if x = y then EE 117 113 [l0, l1, l2, l3, l4, l5, l6] st M else EE 117 127 [l0, l1, l2, l3, l4, l5, l6] st M := e_cne d117_110 (by decide)
theorem d117_113 : decode (cod 117) 113 = .ok (.iload 6, 2) := by decide +kernel
theorem s117_113 {M : Mm} {st : List Value} {l0 l1 l2 l3 l4 l5 : Option Value} {x : Int32} : EE 117 113 [l0, l1, l2, l3, l4, l5, some (.int x)] st M = EE 117 115 [l0, l1, l2, l3, l4, l5, some (.int x)] (.int x :: st) M := e_ld d117_113 rfl rfl rfl rfl rfl rfl
theorem d117_115 : decode (cod 117) 115 = .ok (.iload 4, 2) := by decide +kernel
theorem s117_115 {M : Mm} {st : List Value} {l0 l1 l2 l3 l5 l6 : Option Value} {x : Int32} : EE 117 115 [l0, l1, l2, l3, some (.int x), l5, l6] st M = EE 117 117 [l0, l1, l2, l3, some (.int x), l5, l6] (.int x :: st) M := e_ld d117_115 rfl rfl rfl rfl rfl rfl
theorem d117_117 : decode (cod 117) 117 = .ok (.if_icmp .le 10, 3) := by decide +kernel
theorem s117_117 {M : Mm} {st : List Value} {l0 l1 l2 l3 l4 l5 l6 : Option Value} {x y : Int32} : EE 117 117 [l0, l1, l2, l3, l4, l5, l6] (.int y :: .int x :: st) M = if x ≤ y then EE 117 127 [l0, l1, l2, l3, l4, l5, l6] st M else EE 117 120 [l0, l1, l2, l3, l4, l5, l6] st M := e_cle d117_117 (by decide)
theorem d117_120 : decode (cod 117) 120 = .ok (.iload 5, 2) := by decide +kernel
theorem s117_120 {M : Mm} {st : List Value} {l0 l1 l2 l3 l4 l6 : Option Value} {x : Int32} : EE 117 120 [l0, l1, l2, l3, l4, some (.int x), l6] st M = EE 117 122 [l0, l1, l2, l3, l4, some (.int x), l6] (.int x :: st) M := e_ld d117_120 rfl rfl rfl rfl rfl rfl
theorem d117_122 : decode (cod 117) 122 = .ok (.istore_n 3, 1) := by decide +kernel
theorem s117_122 {M : Mm} {st : List Value} {l0 l1 l2 l3 l4 l5 l6 : Option Value} {x : Int32} : EE 117 122 [l0, l1, l2, l3, l4, l5, l6] (.int x :: st) M = EE 117 123 [l0, l1, cln l2, some (.int x), l4, l5, l6] st M := e_st1 d117_122 rfl rfl rfl rfl rfl rfl rfl (Nat.le_of_ble_eq_true rfl) rfl
theorem d117_123 : decode (cod 117) 123 = .ok (.iload 6, 2) := by decide +kernel
theorem s117_123 {M : Mm} {st : List Value} {l0 l1 l2 l3 l4 l5 : Option Value} {x : Int32} : EE 117 123 [l0, l1, l2, l3, l4, l5, some (.int x)] st M = EE 117 125 [l0, l1, l2, l3, l4, l5, some (.int x)] (.int x :: st) M := e_ld d117_123 rfl rfl rfl rfl rfl rfl
theorem d117_125 : decode (cod 117) 125 = .ok (.istore 4, 2) := by decide +kernel
theorem s117_125 {M : Mm} {st : List Value} {l0 l1 l2 l3 l4 l5 l6 : Option Value} {x : Int32} : EE 117 125 [l0, l1, l2, l3, l4, l5, l6] (.int x :: st) M = EE 117 127 [l0, l1, l2, cln l3, some (.int x), l5, l6] st M := e_st1 d117_125 rfl rfl rfl rfl rfl rfl rfl (Nat.le_of_ble_eq_true rfl) rfl
theorem d117_127 : decode (cod 117) 127 = .ok (.iinc 5 1, 3) := by decide +kernel
theorem s117_127 {M : Mm} {st : List Value} {l0 l1 l2 l3 l4 l6 : Option Value} {x : Int32} : EE 117 127 [l0, l1, l2, l3, l4, some (.int x), l6] st M = EE 117 130 [l0, l1, l2, l3, cln l4, some (.int (x + nI 1)), l6] st M := e_iinc d117_127 rfl (congrArg (fun z => x + z) k_inc_1) rfl
theorem d117_130 : decode (cod 117) 130 = .ok (.goto (-55), 3) := by decide +kernel
theorem s117_130 {M : Mm} {st : List Value} {l0 l1 l2 l3 l4 l5 l6 : Option Value} : EE 117 130 [l0, l1, l2, l3, l4, l5, l6] st M = EE 117 75 [l0, l1, l2, l3, l4, l5, l6] st M := e_goto d117_130 (by decide)
theorem d117_133 : decode (cod 117) 133 = .ok (.iload_n 3, 1) := by decide +kernel
theorem s117_133 {M : Mm} {st : List Value} {l0 l1 l2 l4 l5 l6 : Option Value} {x : Int32} : EE 117 133 [l0, l1, l2, some (.int x), l4, l5, l6] st M = EE 117 134 [l0, l1, l2, some (.int x), l4, l5, l6] (.int x :: st) M := e_ld d117_133 rfl rfl rfl rfl rfl rfl
theorem d117_134 : decode (cod 117) 134 = .ok (.ireturn, 1) := by decide +kernel
theorem s117_134 {M : Mm} {l0 l1 l2 l3 l4 l5 l6 : Option Value} {v : Int32} : EE 117 134 [l0, l1, l2, l3, l4, l5, l6] [.int v] M = some (some (.int v), M) := e_iret d117_134 rfl rfl
theorem FE117 {b0 : Nat} {b1 : Int32} {b2 : Int32} {M : Mm} : FF 117 [.ref b0, .int b1, .int b2] M = EE 117 0 [some (.ref b0), some (.int b1), some (.int b2), none, none, none, none] [] M := FF_eq 117 _ _ (Nat.le_of_ble_eq_true rfl)
theorem d118_0 : decode (cod 118) 0 = .ok (.aload_n 0, 1) := by decide +kernel
theorem s118_0 {M : Mm} {st : List Value} {l1 l2 : Option Value} {x : Nat} : EE 118 0 [some (.ref x), l1, l2] st M = EE 118 1 [some (.ref x), l1, l2] (.ref x :: st) M := e_ld d118_0 rfl rfl rfl rfl rfl rfl
theorem d118_1 : decode (cod 118) 1 = .ok (.iload_n 1, 1) := by decide +kernel
theorem s118_1 {M : Mm} {st : List Value} {l0 l2 : Option Value} {x : Int32} : EE 118 1 [l0, some (.int x), l2] st M = EE 118 2 [l0, some (.int x), l2] (.int x :: st) M := e_ld d118_1 rfl rfl rfl rfl rfl rfl
theorem d118_2 : decode (cod 118) 2 = .ok (.iload_n 2, 1) := by decide +kernel
theorem s118_2 {M : Mm} {st : List Value} {l0 l1 : Option Value} {x : Int32} : EE 118 2 [l0, l1, some (.int x)] st M = EE 118 3 [l0, l1, some (.int x)] (.int x :: st) M := e_ld d118_2 rfl rfl rfl rfl rfl rfl
theorem d118_3 : decode (cod 118) 3 = .ok (.invokestatic 47, 3) := by decide +kernel
theorem s118_3 {M : Mm} {l0 l1 l2 : Option Value} {b0 : Int32} {b1 : Int32} {st : List Value} (hl : st.length ≤ 4) : EE 118 3 [l0, l1, l2] (.int b1 :: .int b0 :: st) M = (FF 107 [.int b0, .int b1] M).bind (fun z => EE 118 6 [l0, l1, l2] (psh z.1 st) z.2) := e_cals (av := [.int b0, .int b1]) d118_3 c3_47 (Or.inl rfl) rfl rfl r118_107 rfl hl
theorem d118_6 : decode (cod 118) 6 = .ok (.iaload, 1) := by decide +kernel
theorem s118_6 {n : Nat} {I : Nat → Nat → Int32} {R : Nat → Nat → Option Nat} {st : List Value} {l0 l1 l2 : Option Value} {j : Int32} {a : Nat} : EE 118 6 [l0, l1, l2] (.int j :: .ref a :: st) (n, I, R) = (ardI 5 n I a j).bind (fun z => EE 118 7 [l0, l1, l2] (.int z :: st) (n, I, R)) := e_iald d118_6
theorem d118_7 : decode (cod 118) 7 = .ok (.aload_n 0, 1) := by decide +kernel
theorem s118_7 {M : Mm} {st : List Value} {l1 l2 : Option Value} {x : Nat} : EE 118 7 [some (.ref x), l1, l2] st M = EE 118 8 [some (.ref x), l1, l2] (.ref x :: st) M := e_ld d118_7 rfl rfl rfl rfl rfl rfl
theorem d118_8 : decode (cod 118) 8 = .ok (.iconst 2, 1) := by decide +kernel
theorem s118_8 {M : Mm} {st : List Value} {l0 l1 l2 : Option Value} : EE 118 8 [l0, l1, l2] st M = EE 118 9 [l0, l1, l2] (.int (nI 2) :: st) M := e_con d118_8 k_con_2
theorem d118_9 : decode (cod 118) 9 = .ok (.iaload, 1) := by decide +kernel
theorem s118_9 {n : Nat} {I : Nat → Nat → Int32} {R : Nat → Nat → Option Nat} {st : List Value} {l0 l1 l2 : Option Value} {j : Int32} {a : Nat} : EE 118 9 [l0, l1, l2] (.int j :: .ref a :: st) (n, I, R) = (ardI 5 n I a j).bind (fun z => EE 118 10 [l0, l1, l2] (.int z :: st) (n, I, R)) := e_iald d118_9
theorem d118_10 : decode (cod 118) 10 = .ok (.if_icmp .lt 7, 3) := by decide +kernel
theorem s118_10 {M : Mm} {st : List Value} {l0 l1 l2 : Option Value} {x y : Int32} : EE 118 10 [l0, l1, l2] (.int y :: .int x :: st) M = if x < y then EE 118 17 [l0, l1, l2] st M else EE 118 13 [l0, l1, l2] st M := e_clt d118_10 (by decide)
theorem d118_13 : decode (cod 118) 13 = .ok (.iconst 1, 1) := by decide +kernel
theorem s118_13 {M : Mm} {st : List Value} {l0 l1 l2 : Option Value} : EE 118 13 [l0, l1, l2] st M = EE 118 14 [l0, l1, l2] (.int (nI 1) :: st) M := e_con d118_13 k_con_1
theorem d118_14 : decode (cod 118) 14 = .ok (.goto 4, 3) := by decide +kernel
theorem s118_14 {M : Mm} {st : List Value} {l0 l1 l2 : Option Value} : EE 118 14 [l0, l1, l2] st M = EE 118 18 [l0, l1, l2] st M := e_goto d118_14 (by decide)
theorem d118_17 : decode (cod 118) 17 = .ok (.iconst 0, 1) := by decide +kernel
theorem s118_17 {M : Mm} {st : List Value} {l0 l1 l2 : Option Value} : EE 118 17 [l0, l1, l2] st M = EE 118 18 [l0, l1, l2] (.int (nI 0) :: st) M := e_con d118_17 k_con_0
theorem d118_18 : decode (cod 118) 18 = .ok (.ireturn, 1) := by decide +kernel
theorem s118_18 {M : Mm} {l0 l1 l2 : Option Value} {v : Int32} (h : narrow .boolean (.int v) = .int v) : EE 118 18 [l0, l1, l2] [.int v] M = some (some (.int v), M) := e_iret d118_18 rfl h
theorem FE118 {b0 : Nat} {b1 : Int32} {b2 : Int32} {M : Mm} : FF 118 [.ref b0, .int b1, .int b2] M = EE 118 0 [some (.ref b0), some (.int b1), some (.int b2)] [] M := FF_eq 118 _ _ (Nat.le_of_ble_eq_true rfl)
theorem d119_0 : decode (cod 119) 0 = .ok (.iconst 0, 1) := by decide +kernel
theorem s119_0 {M : Mm} {st : List Value} {l0 l1 l2 l3 : Option Value} : EE 119 0 [l0, l1, l2, l3] st M = EE 119 1 [l0, l1, l2, l3] (.int (nI 0) :: st) M := e_con d119_0 k_con_0
theorem d119_1 : decode (cod 119) 1 = .ok (.istore_n 2, 1) := by decide +kernel
theorem s119_1 {M : Mm} {st : List Value} {l0 l1 l2 l3 : Option Value} {x : Int32} : EE 119 1 [l0, l1, l2, l3] (.int x :: st) M = EE 119 2 [l0, cln l1, some (.int x), l3] st M := e_st1 d119_1 rfl rfl rfl rfl rfl rfl rfl (Nat.le_of_ble_eq_true rfl) rfl
theorem d119_2 : decode (cod 119) 2 = .ok (.iload_n 2, 1) := by decide +kernel
theorem s119_2 {M : Mm} {st : List Value} {l0 l1 l3 : Option Value} {x : Int32} : EE 119 2 [l0, l1, some (.int x), l3] st M = EE 119 3 [l0, l1, some (.int x), l3] (.int x :: st) M := e_ld d119_2 rfl rfl rfl rfl rfl rfl
theorem d119_3 : decode (cod 119) 3 = .ok (.bipush 6, 2) := by decide +kernel
theorem s119_3 {M : Mm} {st : List Value} {l0 l1 l2 l3 : Option Value} : EE 119 3 [l0, l1, l2, l3] st M = EE 119 5 [l0, l1, l2, l3] (.int (nI 6) :: st) M := e_bip d119_3 k_bip_6
theorem d119_5 : decode (cod 119) 5 = .ok (.if_icmp .ge 56, 3) := by decide +kernel
theorem s119_5 {M : Mm} {st : List Value} {l0 l1 l2 l3 : Option Value} {x y : Int32} : EE 119 5 [l0, l1, l2, l3] (.int y :: .int x :: st) M = if y ≤ x then EE 119 61 [l0, l1, l2, l3] st M else EE 119 8 [l0, l1, l2, l3] st M := e_cge d119_5 (by decide)
theorem d119_8 : decode (cod 119) 8 = .ok (.iconst 0, 1) := by decide +kernel
theorem s119_8 {M : Mm} {st : List Value} {l0 l1 l2 l3 : Option Value} : EE 119 8 [l0, l1, l2, l3] st M = EE 119 9 [l0, l1, l2, l3] (.int (nI 0) :: st) M := e_con d119_8 k_con_0
theorem d119_9 : decode (cod 119) 9 = .ok (.istore_n 3, 1) := by decide +kernel
theorem s119_9 {M : Mm} {st : List Value} {l0 l1 l2 l3 : Option Value} {x : Int32} : EE 119 9 [l0, l1, l2, l3] (.int x :: st) M = EE 119 10 [l0, l1, cln l2, some (.int x)] st M := e_st1 d119_9 rfl rfl rfl rfl rfl rfl rfl (Nat.le_of_ble_eq_true rfl) rfl
theorem d119_10 : decode (cod 119) 10 = .ok (.iload_n 3, 1) := by decide +kernel
theorem s119_10 {M : Mm} {st : List Value} {l0 l1 l2 : Option Value} {x : Int32} : EE 119 10 [l0, l1, l2, some (.int x)] st M = EE 119 11 [l0, l1, l2, some (.int x)] (.int x :: st) M := e_ld d119_10 rfl rfl rfl rfl rfl rfl
theorem d119_11 : decode (cod 119) 11 = .ok (.aload_n 0, 1) := by decide +kernel
theorem s119_11 {M : Mm} {st : List Value} {l1 l2 l3 : Option Value} {x : Nat} : EE 119 11 [some (.ref x), l1, l2, l3] st M = EE 119 12 [some (.ref x), l1, l2, l3] (.ref x :: st) M := e_ld d119_11 rfl rfl rfl rfl rfl rfl
theorem d119_12 : decode (cod 119) 12 = .ok (.iconst 1, 1) := by decide +kernel
theorem s119_12 {M : Mm} {st : List Value} {l0 l1 l2 l3 : Option Value} : EE 119 12 [l0, l1, l2, l3] st M = EE 119 13 [l0, l1, l2, l3] (.int (nI 1) :: st) M := e_con d119_12 k_con_1
theorem d119_13 : decode (cod 119) 13 = .ok (.iaload, 1) := by decide +kernel
theorem s119_13 {n : Nat} {I : Nat → Nat → Int32} {R : Nat → Nat → Option Nat} {st : List Value} {l0 l1 l2 l3 : Option Value} {j : Int32} {a : Nat} : EE 119 13 [l0, l1, l2, l3] (.int j :: .ref a :: st) (n, I, R) = (ardI 5 n I a j).bind (fun z => EE 119 14 [l0, l1, l2, l3] (.int z :: st) (n, I, R)) := e_iald d119_13
theorem d119_14 : decode (cod 119) 14 = .ok (.if_icmp .ge 41, 3) := by decide +kernel
theorem s119_14 {M : Mm} {st : List Value} {l0 l1 l2 l3 : Option Value} {x y : Int32} : EE 119 14 [l0, l1, l2, l3] (.int y :: .int x :: st) M = if y ≤ x then EE 119 55 [l0, l1, l2, l3] st M else EE 119 17 [l0, l1, l2, l3] st M := e_cge d119_14 (by decide)
theorem d119_17 : decode (cod 119) 17 = .ok (.iload_n 2, 1) := by decide +kernel
theorem s119_17 {M : Mm} {st : List Value} {l0 l1 l3 : Option Value} {x : Int32} : EE 119 17 [l0, l1, some (.int x), l3] st M = EE 119 18 [l0, l1, some (.int x), l3] (.int x :: st) M := e_ld d119_17 rfl rfl rfl rfl rfl rfl
theorem d119_18 : decode (cod 119) 18 = .ok (.iload_n 1, 1) := by decide +kernel
theorem s119_18 {M : Mm} {st : List Value} {l0 l2 l3 : Option Value} {x : Int32} : EE 119 18 [l0, some (.int x), l2, l3] st M = EE 119 19 [l0, some (.int x), l2, l3] (.int x :: st) M := e_ld d119_18 rfl rfl rfl rfl rfl rfl
theorem d119_19 : decode (cod 119) 19 = .ok (.if_icmp .eq 36, 3) := by decide +kernel
theorem s119_19 {M : Mm} {st : List Value} {l0 l1 l2 l3 : Option Value} {x y : Int32} : EE 119 19 [l0, l1, l2, l3] (.int y :: .int x :: st) M = if x = y then EE 119 55 [l0, l1, l2, l3] st M else EE 119 22 [l0, l1, l2, l3] st M := e_ceq d119_19 (by decide)
theorem d119_22 : decode (cod 119) 22 = .ok (.aload_n 0, 1) := by decide +kernel
theorem s119_22 {M : Mm} {st : List Value} {l1 l2 l3 : Option Value} {x : Nat} : EE 119 22 [some (.ref x), l1, l2, l3] st M = EE 119 23 [some (.ref x), l1, l2, l3] (.ref x :: st) M := e_ld d119_22 rfl rfl rfl rfl rfl rfl
theorem d119_23 : decode (cod 119) 23 = .ok (.iload_n 2, 1) := by decide +kernel
theorem s119_23 {M : Mm} {st : List Value} {l0 l1 l3 : Option Value} {x : Int32} : EE 119 23 [l0, l1, some (.int x), l3] st M = EE 119 24 [l0, l1, some (.int x), l3] (.int x :: st) M := e_ld d119_23 rfl rfl rfl rfl rfl rfl
theorem d119_24 : decode (cod 119) 24 = .ok (.iload_n 3, 1) := by decide +kernel
theorem s119_24 {M : Mm} {st : List Value} {l0 l1 l2 : Option Value} {x : Int32} : EE 119 24 [l0, l1, l2, some (.int x)] st M = EE 119 25 [l0, l1, l2, some (.int x)] (.int x :: st) M := e_ld d119_24 rfl rfl rfl rfl rfl rfl
theorem d119_25 : decode (cod 119) 25 = .ok (.invokestatic 47, 3) := by decide +kernel
theorem s119_25 {M : Mm} {l0 l1 l2 l3 : Option Value} {b0 : Int32} {b1 : Int32} {st : List Value} (hl : st.length ≤ 4) : EE 119 25 [l0, l1, l2, l3] (.int b1 :: .int b0 :: st) M = (FF 107 [.int b0, .int b1] M).bind (fun z => EE 119 28 [l0, l1, l2, l3] (psh z.1 st) z.2) := e_cals (av := [.int b0, .int b1]) d119_25 c3_47 (Or.inl rfl) rfl rfl r119_107 rfl hl
theorem d119_28 : decode (cod 119) 28 = .ok (.dup2, 1) := by decide +kernel
theorem s119_28 {M : Mm} {st : List Value} {l0 l1 l2 l3 : Option Value} {x : Int32} {y : Nat} : EE 119 28 [l0, l1, l2, l3] (.int x :: .ref y :: st) M = EE 119 29 [l0, l1, l2, l3] (.int x :: .ref y :: .int x :: .ref y :: st) M := e_dup2 d119_28 rfl rfl
theorem d119_29 : decode (cod 119) 29 = .ok (.iaload, 1) := by decide +kernel
theorem s119_29 {n : Nat} {I : Nat → Nat → Int32} {R : Nat → Nat → Option Nat} {st : List Value} {l0 l1 l2 l3 : Option Value} {j : Int32} {a : Nat} : EE 119 29 [l0, l1, l2, l3] (.int j :: .ref a :: st) (n, I, R) = (ardI 5 n I a j).bind (fun z => EE 119 30 [l0, l1, l2, l3] (.int z :: st) (n, I, R)) := e_iald d119_29
theorem d119_30 : decode (cod 119) 30 = .ok (.aload_n 0, 1) := by decide +kernel
theorem s119_30 {M : Mm} {st : List Value} {l1 l2 l3 : Option Value} {x : Nat} : EE 119 30 [some (.ref x), l1, l2, l3] st M = EE 119 31 [some (.ref x), l1, l2, l3] (.ref x :: st) M := e_ld d119_30 rfl rfl rfl rfl rfl rfl
theorem d119_31 : decode (cod 119) 31 = .ok (.iload_n 2, 1) := by decide +kernel
theorem s119_31 {M : Mm} {st : List Value} {l0 l1 l3 : Option Value} {x : Int32} : EE 119 31 [l0, l1, some (.int x), l3] st M = EE 119 32 [l0, l1, some (.int x), l3] (.int x :: st) M := e_ld d119_31 rfl rfl rfl rfl rfl rfl
theorem d119_32 : decode (cod 119) 32 = .ok (.iload_n 3, 1) := by decide +kernel
theorem s119_32 {M : Mm} {st : List Value} {l0 l1 l2 : Option Value} {x : Int32} : EE 119 32 [l0, l1, l2, some (.int x)] st M = EE 119 33 [l0, l1, l2, some (.int x)] (.int x :: st) M := e_ld d119_32 rfl rfl rfl rfl rfl rfl
theorem d119_33 : decode (cod 119) 33 = .ok (.invokestatic 47, 3) := by decide +kernel
theorem s119_33 {M : Mm} {l0 l1 l2 l3 : Option Value} {b0 : Int32} {b1 : Int32} {st : List Value} (hl : st.length ≤ 4) : EE 119 33 [l0, l1, l2, l3] (.int b1 :: .int b0 :: st) M = (FF 107 [.int b0, .int b1] M).bind (fun z => EE 119 36 [l0, l1, l2, l3] (psh z.1 st) z.2) := e_cals (av := [.int b0, .int b1]) d119_33 c3_47 (Or.inl rfl) rfl rfl r119_107 rfl hl
theorem d119_36 : decode (cod 119) 36 = .ok (.iaload, 1) := by decide +kernel
theorem s119_36 {n : Nat} {I : Nat → Nat → Int32} {R : Nat → Nat → Option Nat} {st : List Value} {l0 l1 l2 l3 : Option Value} {j : Int32} {a : Nat} : EE 119 36 [l0, l1, l2, l3] (.int j :: .ref a :: st) (n, I, R) = (ardI 5 n I a j).bind (fun z => EE 119 37 [l0, l1, l2, l3] (.int z :: st) (n, I, R)) := e_iald d119_36
theorem d119_37 : decode (cod 119) 37 = .ok (.aload_n 0, 1) := by decide +kernel
theorem s119_37 {M : Mm} {st : List Value} {l1 l2 l3 : Option Value} {x : Nat} : EE 119 37 [some (.ref x), l1, l2, l3] st M = EE 119 38 [some (.ref x), l1, l2, l3] (.ref x :: st) M := e_ld d119_37 rfl rfl rfl rfl rfl rfl
theorem d119_38 : decode (cod 119) 38 = .ok (.iconst 4, 1) := by decide +kernel
theorem s119_38 {M : Mm} {st : List Value} {l0 l1 l2 l3 : Option Value} : EE 119 38 [l0, l1, l2, l3] st M = EE 119 39 [l0, l1, l2, l3] (.int (nI 4) :: st) M := e_con d119_38 k_con_4
theorem d119_39 : decode (cod 119) 39 = .ok (.iaload, 1) := by decide +kernel
theorem s119_39 {n : Nat} {I : Nat → Nat → Int32} {R : Nat → Nat → Option Nat} {st : List Value} {l0 l1 l2 l3 : Option Value} {j : Int32} {a : Nat} : EE 119 39 [l0, l1, l2, l3] (.int j :: .ref a :: st) (n, I, R) = (ardI 5 n I a j).bind (fun z => EE 119 40 [l0, l1, l2, l3] (.int z :: st) (n, I, R)) := e_iald d119_39
theorem d119_40 : decode (cod 119) 40 = .ok (.imul, 1) := by decide +kernel
theorem s119_40 {M : Mm} {st : List Value} {l0 l1 l2 l3 : Option Value} {x y : Int32} : EE 119 40 [l0, l1, l2, l3] (.int y :: .int x :: st) M = EE 119 41 [l0, l1, l2, l3] (.int (x * y) :: st) M := e_II d119_40 rfl rfl rfl rfl rfl rfl
theorem d119_41 : decode (cod 119) 41 = .ok (.bipush 99, 2) := by decide +kernel
theorem s119_41 {M : Mm} {st : List Value} {l0 l1 l2 l3 : Option Value} : EE 119 41 [l0, l1, l2, l3] st M = EE 119 43 [l0, l1, l2, l3] (.int (nI 99) :: st) M := e_bip d119_41 k_bip_99
theorem d119_43 : decode (cod 119) 43 = .ok (.iadd, 1) := by decide +kernel
theorem s119_43 {M : Mm} {st : List Value} {l0 l1 l2 l3 : Option Value} {x y : Int32} : EE 119 43 [l0, l1, l2, l3] (.int y :: .int x :: st) M = EE 119 44 [l0, l1, l2, l3] (.int (x + y) :: st) M := e_II d119_43 rfl rfl rfl rfl rfl rfl
theorem d119_44 : decode (cod 119) 44 = .ok (.bipush 100, 2) := by decide +kernel
theorem s119_44 {M : Mm} {st : List Value} {l0 l1 l2 l3 : Option Value} : EE 119 44 [l0, l1, l2, l3] st M = EE 119 46 [l0, l1, l2, l3] (.int (nI 100) :: st) M := e_bip d119_44 k_bip_100
theorem d119_46 : decode (cod 119) 46 = .ok (.idiv, 1) := by decide +kernel
theorem s119_46 {M : Mm} {st : List Value} {l0 l1 l2 l3 : Option Value} {x y : Nat} (h1 : x < 2 ^ 31) (h2 : 0 < y) (h3 : y < 2 ^ 31) : EE 119 46 [l0, l1, l2, l3] (.int (nI y) :: .int (nI x) :: st) M = EE 119 47 [l0, l1, l2, l3] (.int (nI (x / y)) :: st) M := e_divN d119_46 h1 h2 h3
theorem d119_47 : decode (cod 119) 47 = .ok (.isub, 1) := by decide +kernel
theorem s119_47 {M : Mm} {st : List Value} {l0 l1 l2 l3 : Option Value} {x y : Int32} : EE 119 47 [l0, l1, l2, l3] (.int y :: .int x :: st) M = EE 119 48 [l0, l1, l2, l3] (.int (x - y) :: st) M := e_II d119_47 rfl rfl rfl rfl rfl rfl
theorem d119_48 : decode (cod 119) 48 = .ok (.iastore, 1) := by decide +kernel
theorem s119_48 {n : Nat} {I : Nat → Nat → Int32} {R : Nat → Nat → Option Nat} {st : List Value} {l0 l1 l2 l3 : Option Value} {j x : Int32} {a : Nat} (h : acI 5 n a j) : EE 119 48 [l0, l1, l2, l3] (.int x :: .int j :: .ref a :: st) (n, I, R) = EE 119 49 [l0, l1, l2, l3] st (n, wI I a j.toNatClampNeg x, R) := e_iast d119_48 h
theorem d119_49 : decode (cod 119) 49 = .ok (.iinc 3 1, 3) := by decide +kernel
theorem s119_49 {M : Mm} {st : List Value} {l0 l1 l2 : Option Value} {x : Int32} : EE 119 49 [l0, l1, l2, some (.int x)] st M = EE 119 52 [l0, l1, cln l2, some (.int (x + nI 1))] st M := e_iinc d119_49 rfl (congrArg (fun z => x + z) k_inc_1) rfl
theorem d119_52 : decode (cod 119) 52 = .ok (.goto (-42), 3) := by decide +kernel
theorem s119_52 {M : Mm} {st : List Value} {l0 l1 l2 l3 : Option Value} : EE 119 52 [l0, l1, l2, l3] st M = EE 119 10 [l0, l1, l2, l3] st M := e_goto d119_52 (by decide)
theorem d119_55 : decode (cod 119) 55 = .ok (.iinc 2 1, 3) := by decide +kernel
theorem s119_55 {M : Mm} {st : List Value} {l0 l1 l3 : Option Value} {x : Int32} : EE 119 55 [l0, l1, some (.int x), l3] st M = EE 119 58 [l0, cln l1, some (.int (x + nI 1)), l3] st M := e_iinc d119_55 rfl (congrArg (fun z => x + z) k_inc_1) rfl
theorem d119_58 : decode (cod 119) 58 = .ok (.goto (-56), 3) := by decide +kernel
theorem s119_58 {M : Mm} {st : List Value} {l0 l1 l2 l3 : Option Value} : EE 119 58 [l0, l1, l2, l3] st M = EE 119 2 [l0, l1, l2, l3] st M := e_goto d119_58 (by decide)
theorem d119_61 : decode (cod 119) 61 = .ok (.return_, 1) := by decide +kernel
theorem s119_61 {M : Mm} {l0 l1 l2 l3 : Option Value} : EE 119 61 [l0, l1, l2, l3] [] M = some (none, M) := e_vret d119_61 rfl
theorem FE119 {b0 : Nat} {b1 : Int32} {M : Mm} : FF 119 [.ref b0, .int b1] M = EE 119 0 [some (.ref b0), some (.int b1), none, none] [] M := FF_eq 119 _ _ (Nat.le_of_ble_eq_true rfl)
theorem d120_0 : decode (cod 120) 0 = .ok (.iconst 0, 1) := by decide +kernel
theorem s120_0 {M : Mm} {st : List Value} {l0 l1 l2 l3 l4 l5 : Option Value} : EE 120 0 [l0, l1, l2, l3, l4, l5] st M = EE 120 1 [l0, l1, l2, l3, l4, l5] (.int (nI 0) :: st) M := e_con d120_0 k_con_0
theorem d120_1 : decode (cod 120) 1 = .ok (.istore_n 2, 1) := by decide +kernel
theorem s120_1 {M : Mm} {st : List Value} {l0 l1 l2 l3 l4 l5 : Option Value} {x : Int32} : EE 120 1 [l0, l1, l2, l3, l4, l5] (.int x :: st) M = EE 120 2 [l0, cln l1, some (.int x), l3, l4, l5] st M := e_st1 d120_1 rfl rfl rfl rfl rfl rfl rfl (Nat.le_of_ble_eq_true rfl) rfl
theorem d120_2 : decode (cod 120) 2 = .ok (.iconst 0, 1) := by decide +kernel
theorem s120_2 {M : Mm} {st : List Value} {l0 l1 l2 l3 l4 l5 : Option Value} : EE 120 2 [l0, l1, l2, l3, l4, l5] st M = EE 120 3 [l0, l1, l2, l3, l4, l5] (.int (nI 0) :: st) M := e_con d120_2 k_con_0
theorem d120_3 : decode (cod 120) 3 = .ok (.istore_n 3, 1) := by decide +kernel
theorem s120_3 {M : Mm} {st : List Value} {l0 l1 l2 l3 l4 l5 : Option Value} {x : Int32} : EE 120 3 [l0, l1, l2, l3, l4, l5] (.int x :: st) M = EE 120 4 [l0, l1, cln l2, some (.int x), l4, l5] st M := e_st1 d120_3 rfl rfl rfl rfl rfl rfl rfl (Nat.le_of_ble_eq_true rfl) rfl
theorem d120_4 : decode (cod 120) 4 = .ok (.iload_n 3, 1) := by decide +kernel
theorem s120_4 {M : Mm} {st : List Value} {l0 l1 l2 l4 l5 : Option Value} {x : Int32} : EE 120 4 [l0, l1, l2, some (.int x), l4, l5] st M = EE 120 5 [l0, l1, l2, some (.int x), l4, l5] (.int x :: st) M := e_ld d120_4 rfl rfl rfl rfl rfl rfl
theorem d120_5 : decode (cod 120) 5 = .ok (.aload_n 0, 1) := by decide +kernel
theorem s120_5 {M : Mm} {st : List Value} {l1 l2 l3 l4 l5 : Option Value} {x : Nat} : EE 120 5 [some (.ref x), l1, l2, l3, l4, l5] st M = EE 120 6 [some (.ref x), l1, l2, l3, l4, l5] (.ref x :: st) M := e_ld d120_5 rfl rfl rfl rfl rfl rfl
theorem d120_6 : decode (cod 120) 6 = .ok (.bipush 13, 2) := by decide +kernel
theorem s120_6 {M : Mm} {st : List Value} {l0 l1 l2 l3 l4 l5 : Option Value} : EE 120 6 [l0, l1, l2, l3, l4, l5] st M = EE 120 8 [l0, l1, l2, l3, l4, l5] (.int (nI 13) :: st) M := e_bip d120_6 k_bip_13
theorem d120_8 : decode (cod 120) 8 = .ok (.iaload, 1) := by decide +kernel
theorem s120_8 {n : Nat} {I : Nat → Nat → Int32} {R : Nat → Nat → Option Nat} {st : List Value} {l0 l1 l2 l3 l4 l5 : Option Value} {j : Int32} {a : Nat} : EE 120 8 [l0, l1, l2, l3, l4, l5] (.int j :: .ref a :: st) (n, I, R) = (ardI 5 n I a j).bind (fun z => EE 120 9 [l0, l1, l2, l3, l4, l5] (.int z :: st) (n, I, R)) := e_iald d120_8
theorem d120_9 : decode (cod 120) 9 = .ok (.if_icmp .ge 78, 3) := by decide +kernel
theorem s120_9 {M : Mm} {st : List Value} {l0 l1 l2 l3 l4 l5 : Option Value} {x y : Int32} : EE 120 9 [l0, l1, l2, l3, l4, l5] (.int y :: .int x :: st) M = if y ≤ x then EE 120 87 [l0, l1, l2, l3, l4, l5] st M else EE 120 12 [l0, l1, l2, l3, l4, l5] st M := e_cge d120_9 (by decide)
theorem d120_12 : decode (cod 120) 12 = .ok (.aload_n 0, 1) := by decide +kernel
theorem s120_12 {M : Mm} {st : List Value} {l1 l2 l3 l4 l5 : Option Value} {x : Nat} : EE 120 12 [some (.ref x), l1, l2, l3, l4, l5] st M = EE 120 13 [some (.ref x), l1, l2, l3, l4, l5] (.ref x :: st) M := e_ld d120_12 rfl rfl rfl rfl rfl rfl
theorem d120_13 : decode (cod 120) 13 = .ok (.bipush 48, 2) := by decide +kernel
theorem s120_13 {M : Mm} {st : List Value} {l0 l1 l2 l3 l4 l5 : Option Value} : EE 120 13 [l0, l1, l2, l3, l4, l5] st M = EE 120 15 [l0, l1, l2, l3, l4, l5] (.int (nI 48) :: st) M := e_bip d120_13 k_bip_48
theorem d120_15 : decode (cod 120) 15 = .ok (.iload_n 3, 1) := by decide +kernel
theorem s120_15 {M : Mm} {st : List Value} {l0 l1 l2 l4 l5 : Option Value} {x : Int32} : EE 120 15 [l0, l1, l2, some (.int x), l4, l5] st M = EE 120 16 [l0, l1, l2, some (.int x), l4, l5] (.int x :: st) M := e_ld d120_15 rfl rfl rfl rfl rfl rfl
theorem d120_16 : decode (cod 120) 16 = .ok (.iadd, 1) := by decide +kernel
theorem s120_16 {M : Mm} {st : List Value} {l0 l1 l2 l3 l4 l5 : Option Value} {x y : Int32} : EE 120 16 [l0, l1, l2, l3, l4, l5] (.int y :: .int x :: st) M = EE 120 17 [l0, l1, l2, l3, l4, l5] (.int (x + y) :: st) M := e_II d120_16 rfl rfl rfl rfl rfl rfl
theorem d120_17 : decode (cod 120) 17 = .ok (.iaload, 1) := by decide +kernel
theorem s120_17 {n : Nat} {I : Nat → Nat → Int32} {R : Nat → Nat → Option Nat} {st : List Value} {l0 l1 l2 l3 l4 l5 : Option Value} {j : Int32} {a : Nat} : EE 120 17 [l0, l1, l2, l3, l4, l5] (.int j :: .ref a :: st) (n, I, R) = (ardI 5 n I a j).bind (fun z => EE 120 18 [l0, l1, l2, l3, l4, l5] (.int z :: st) (n, I, R)) := e_iald d120_17
theorem d120_18 : decode (cod 120) 18 = .ok (.istore 4, 2) := by decide +kernel
theorem s120_18 {M : Mm} {st : List Value} {l0 l1 l2 l3 l4 l5 : Option Value} {x : Int32} : EE 120 18 [l0, l1, l2, l3, l4, l5] (.int x :: st) M = EE 120 20 [l0, l1, l2, cln l3, some (.int x), l5] st M := e_st1 d120_18 rfl rfl rfl rfl rfl rfl rfl (Nat.le_of_ble_eq_true rfl) rfl
theorem d120_20 : decode (cod 120) 20 = .ok (.aload_n 0, 1) := by decide +kernel
theorem s120_20 {M : Mm} {st : List Value} {l1 l2 l3 l4 l5 : Option Value} {x : Nat} : EE 120 20 [some (.ref x), l1, l2, l3, l4, l5] st M = EE 120 21 [some (.ref x), l1, l2, l3, l4, l5] (.ref x :: st) M := e_ld d120_20 rfl rfl rfl rfl rfl rfl
theorem d120_21 : decode (cod 120) 21 = .ok (.bipush 38, 2) := by decide +kernel
theorem s120_21 {M : Mm} {st : List Value} {l0 l1 l2 l3 l4 l5 : Option Value} : EE 120 21 [l0, l1, l2, l3, l4, l5] st M = EE 120 23 [l0, l1, l2, l3, l4, l5] (.int (nI 38) :: st) M := e_bip d120_21 k_bip_38
theorem d120_23 : decode (cod 120) 23 = .ok (.iload 4, 2) := by decide +kernel
theorem s120_23 {M : Mm} {st : List Value} {l0 l1 l2 l3 l5 : Option Value} {x : Int32} : EE 120 23 [l0, l1, l2, l3, some (.int x), l5] st M = EE 120 25 [l0, l1, l2, l3, some (.int x), l5] (.int x :: st) M := e_ld d120_23 rfl rfl rfl rfl rfl rfl
theorem d120_25 : decode (cod 120) 25 = .ok (.iadd, 1) := by decide +kernel
theorem s120_25 {M : Mm} {st : List Value} {l0 l1 l2 l3 l4 l5 : Option Value} {x y : Int32} : EE 120 25 [l0, l1, l2, l3, l4, l5] (.int y :: .int x :: st) M = EE 120 26 [l0, l1, l2, l3, l4, l5] (.int (x + y) :: st) M := e_II d120_25 rfl rfl rfl rfl rfl rfl
theorem d120_26 : decode (cod 120) 26 = .ok (.iaload, 1) := by decide +kernel
theorem s120_26 {n : Nat} {I : Nat → Nat → Int32} {R : Nat → Nat → Option Nat} {st : List Value} {l0 l1 l2 l3 l4 l5 : Option Value} {j : Int32} {a : Nat} : EE 120 26 [l0, l1, l2, l3, l4, l5] (.int j :: .ref a :: st) (n, I, R) = (ardI 5 n I a j).bind (fun z => EE 120 27 [l0, l1, l2, l3, l4, l5] (.int z :: st) (n, I, R)) := e_iald d120_26
theorem d120_27 : decode (cod 120) 27 = .ok (.iconst 1, 1) := by decide +kernel
theorem s120_27 {M : Mm} {st : List Value} {l0 l1 l2 l3 l4 l5 : Option Value} : EE 120 27 [l0, l1, l2, l3, l4, l5] st M = EE 120 28 [l0, l1, l2, l3, l4, l5] (.int (nI 1) :: st) M := e_con d120_27 k_con_1
theorem d120_28 : decode (cod 120) 28 = .ok (.if_icmp .ne 17, 3) := by decide +kernel
theorem s120_28 {M : Mm} {st : List Value} {l0 l1 l2 l3 l4 l5 : Option Value} {x y : Int32} : EE 120 28 [l0, l1, l2, l3, l4, l5] (.int y :: .int x :: st) M = if x = y then EE 120 31 [l0, l1, l2, l3, l4, l5] st M else EE 120 45 [l0, l1, l2, l3, l4, l5] st M := e_cne d120_28 (by decide)
theorem d120_31 : decode (cod 120) 31 = .ok (.aload_n 0, 1) := by decide +kernel
theorem s120_31 {M : Mm} {st : List Value} {l1 l2 l3 l4 l5 : Option Value} {x : Nat} : EE 120 31 [some (.ref x), l1, l2, l3, l4, l5] st M = EE 120 32 [some (.ref x), l1, l2, l3, l4, l5] (.ref x :: st) M := e_ld d120_31 rfl rfl rfl rfl rfl rfl
theorem d120_32 : decode (cod 120) 32 = .ok (.iload_n 1, 1) := by decide +kernel
theorem s120_32 {M : Mm} {st : List Value} {l0 l2 l3 l4 l5 : Option Value} {x : Int32} : EE 120 32 [l0, some (.int x), l2, l3, l4, l5] st M = EE 120 33 [l0, some (.int x), l2, l3, l4, l5] (.int x :: st) M := e_ld d120_32 rfl rfl rfl rfl rfl rfl
theorem d120_33 : decode (cod 120) 33 = .ok (.iload 4, 2) := by decide +kernel
theorem s120_33 {M : Mm} {st : List Value} {l0 l1 l2 l3 l5 : Option Value} {x : Int32} : EE 120 33 [l0, l1, l2, l3, some (.int x), l5] st M = EE 120 35 [l0, l1, l2, l3, some (.int x), l5] (.int x :: st) M := e_ld d120_33 rfl rfl rfl rfl rfl rfl
theorem d120_35 : decode (cod 120) 35 = .ok (.invokestatic 51, 3) := by decide +kernel
theorem s120_35 {M : Mm} {l0 l1 l2 l3 l4 l5 : Option Value} {b0 : Nat} {b1 : Int32} {b2 : Int32} {st : List Value} (hl : st.length ≤ 4) : EE 120 35 [l0, l1, l2, l3, l4, l5] (.int b2 :: .int b1 :: .ref b0 :: st) M = (FF 118 [.ref b0, .int b1, .int b2] M).bind (fun z => EE 120 38 [l0, l1, l2, l3, l4, l5] (psh z.1 st) z.2) := e_cals (av := [.ref b0, .int b1, .int b2]) d120_35 c3_51 (Or.inl rfl) rfl rfl r120_118 rfl hl
theorem d120_38 : decode (cod 120) 38 = .ok (.ifCond .ne 7, 3) := by decide +kernel
theorem s120_38 {M : Mm} {st : List Value} {l0 l1 l2 l3 l4 l5 : Option Value} {x : Int32} : EE 120 38 [l0, l1, l2, l3, l4, l5] (.int x :: st) M = if x = 0 then EE 120 41 [l0, l1, l2, l3, l4, l5] st M else EE 120 45 [l0, l1, l2, l3, l4, l5] st M := e_ne0 d120_38 (by decide)
theorem d120_41 : decode (cod 120) 41 = .ok (.iconst 1, 1) := by decide +kernel
theorem s120_41 {M : Mm} {st : List Value} {l0 l1 l2 l3 l4 l5 : Option Value} : EE 120 41 [l0, l1, l2, l3, l4, l5] st M = EE 120 42 [l0, l1, l2, l3, l4, l5] (.int (nI 1) :: st) M := e_con d120_41 k_con_1
theorem d120_42 : decode (cod 120) 42 = .ok (.goto 4, 3) := by decide +kernel
theorem s120_42 {M : Mm} {st : List Value} {l0 l1 l2 l3 l4 l5 : Option Value} : EE 120 42 [l0, l1, l2, l3, l4, l5] st M = EE 120 46 [l0, l1, l2, l3, l4, l5] st M := e_goto d120_42 (by decide)
theorem d120_45 : decode (cod 120) 45 = .ok (.iconst 0, 1) := by decide +kernel
theorem s120_45 {M : Mm} {st : List Value} {l0 l1 l2 l3 l4 l5 : Option Value} : EE 120 45 [l0, l1, l2, l3, l4, l5] st M = EE 120 46 [l0, l1, l2, l3, l4, l5] (.int (nI 0) :: st) M := e_con d120_45 k_con_0
theorem d120_46 : decode (cod 120) 46 = .ok (.istore 5, 2) := by decide +kernel
theorem s120_46 {M : Mm} {st : List Value} {l0 l1 l2 l3 l4 l5 : Option Value} {x : Int32} : EE 120 46 [l0, l1, l2, l3, l4, l5] (.int x :: st) M = EE 120 48 [l0, l1, l2, l3, cln l4, some (.int x)] st M := e_st1 d120_46 rfl rfl rfl rfl rfl rfl rfl (Nat.le_of_ble_eq_true rfl) rfl
theorem d120_48 : decode (cod 120) 48 = .ok (.iload_n 2, 1) := by decide +kernel
theorem s120_48 {M : Mm} {st : List Value} {l0 l1 l3 l4 l5 : Option Value} {x : Int32} : EE 120 48 [l0, l1, some (.int x), l3, l4, l5] st M = EE 120 49 [l0, l1, some (.int x), l3, l4, l5] (.int x :: st) M := e_ld d120_48 rfl rfl rfl rfl rfl rfl
theorem d120_49 : decode (cod 120) 49 = .ok (.iload 5, 2) := by decide +kernel
theorem s120_49 {M : Mm} {st : List Value} {l0 l1 l2 l3 l4 : Option Value} {x : Int32} : EE 120 49 [l0, l1, l2, l3, l4, some (.int x)] st M = EE 120 51 [l0, l1, l2, l3, l4, some (.int x)] (.int x :: st) M := e_ld d120_49 rfl rfl rfl rfl rfl rfl
theorem d120_51 : decode (cod 120) 51 = .ok (.ifCond .eq 7, 3) := by decide +kernel
theorem s120_51 {M : Mm} {st : List Value} {l0 l1 l2 l3 l4 l5 : Option Value} {x : Int32} : EE 120 51 [l0, l1, l2, l3, l4, l5] (.int x :: st) M = if x = 0 then EE 120 58 [l0, l1, l2, l3, l4, l5] st M else EE 120 54 [l0, l1, l2, l3, l4, l5] st M := e_eq0 d120_51 (by decide)
theorem d120_54 : decode (cod 120) 54 = .ok (.iconst 1, 1) := by decide +kernel
theorem s120_54 {M : Mm} {st : List Value} {l0 l1 l2 l3 l4 l5 : Option Value} : EE 120 54 [l0, l1, l2, l3, l4, l5] st M = EE 120 55 [l0, l1, l2, l3, l4, l5] (.int (nI 1) :: st) M := e_con d120_54 k_con_1
theorem d120_55 : decode (cod 120) 55 = .ok (.goto 4, 3) := by decide +kernel
theorem s120_55 {M : Mm} {st : List Value} {l0 l1 l2 l3 l4 l5 : Option Value} : EE 120 55 [l0, l1, l2, l3, l4, l5] st M = EE 120 59 [l0, l1, l2, l3, l4, l5] st M := e_goto d120_55 (by decide)
theorem d120_58 : decode (cod 120) 58 = .ok (.iconst 0, 1) := by decide +kernel
theorem s120_58 {M : Mm} {st : List Value} {l0 l1 l2 l3 l4 l5 : Option Value} : EE 120 58 [l0, l1, l2, l3, l4, l5] st M = EE 120 59 [l0, l1, l2, l3, l4, l5] (.int (nI 0) :: st) M := e_con d120_58 k_con_0
theorem d120_59 : decode (cod 120) 59 = .ok (.iadd, 1) := by decide +kernel
theorem s120_59 {M : Mm} {st : List Value} {l0 l1 l2 l3 l4 l5 : Option Value} {x y : Int32} : EE 120 59 [l0, l1, l2, l3, l4, l5] (.int y :: .int x :: st) M = EE 120 60 [l0, l1, l2, l3, l4, l5] (.int (x + y) :: st) M := e_II d120_59 rfl rfl rfl rfl rfl rfl
theorem d120_60 : decode (cod 120) 60 = .ok (.istore_n 2, 1) := by decide +kernel
theorem s120_60 {M : Mm} {st : List Value} {l0 l1 l2 l3 l4 l5 : Option Value} {x : Int32} : EE 120 60 [l0, l1, l2, l3, l4, l5] (.int x :: st) M = EE 120 61 [l0, cln l1, some (.int x), l3, l4, l5] st M := e_st1 d120_60 rfl rfl rfl rfl rfl rfl rfl (Nat.le_of_ble_eq_true rfl) rfl
theorem d120_61 : decode (cod 120) 61 = .ok (.aload_n 0, 1) := by decide +kernel
theorem s120_61 {M : Mm} {st : List Value} {l1 l2 l3 l4 l5 : Option Value} {x : Nat} : EE 120 61 [some (.ref x), l1, l2, l3, l4, l5] st M = EE 120 62 [some (.ref x), l1, l2, l3, l4, l5] (.ref x :: st) M := e_ld d120_61 rfl rfl rfl rfl rfl rfl
theorem d120_62 : decode (cod 120) 62 = .ok (.bipush 118, 2) := by decide +kernel
theorem s120_62 {M : Mm} {st : List Value} {l0 l1 l2 l3 l4 l5 : Option Value} : EE 120 62 [l0, l1, l2, l3, l4, l5] st M = EE 120 64 [l0, l1, l2, l3, l4, l5] (.int (nI 118) :: st) M := e_bip d120_62 k_bip_118
theorem d120_64 : decode (cod 120) 64 = .ok (.iload 4, 2) := by decide +kernel
theorem s120_64 {M : Mm} {st : List Value} {l0 l1 l2 l3 l5 : Option Value} {x : Int32} : EE 120 64 [l0, l1, l2, l3, some (.int x), l5] st M = EE 120 66 [l0, l1, l2, l3, some (.int x), l5] (.int x :: st) M := e_ld d120_64 rfl rfl rfl rfl rfl rfl
theorem d120_66 : decode (cod 120) 66 = .ok (.iadd, 1) := by decide +kernel
theorem s120_66 {M : Mm} {st : List Value} {l0 l1 l2 l3 l4 l5 : Option Value} {x y : Int32} : EE 120 66 [l0, l1, l2, l3, l4, l5] (.int y :: .int x :: st) M = EE 120 67 [l0, l1, l2, l3, l4, l5] (.int (x + y) :: st) M := e_II d120_66 rfl rfl rfl rfl rfl rfl
theorem d120_67 : decode (cod 120) 67 = .ok (.dup2, 1) := by decide +kernel
theorem s120_67 {M : Mm} {st : List Value} {l0 l1 l2 l3 l4 l5 : Option Value} {x : Int32} {y : Nat} : EE 120 67 [l0, l1, l2, l3, l4, l5] (.int x :: .ref y :: st) M = EE 120 68 [l0, l1, l2, l3, l4, l5] (.int x :: .ref y :: .int x :: .ref y :: st) M := e_dup2 d120_67 rfl rfl
theorem d120_68 : decode (cod 120) 68 = .ok (.iaload, 1) := by decide +kernel
theorem s120_68 {n : Nat} {I : Nat → Nat → Int32} {R : Nat → Nat → Option Nat} {st : List Value} {l0 l1 l2 l3 l4 l5 : Option Value} {j : Int32} {a : Nat} : EE 120 68 [l0, l1, l2, l3, l4, l5] (.int j :: .ref a :: st) (n, I, R) = (ardI 5 n I a j).bind (fun z => EE 120 69 [l0, l1, l2, l3, l4, l5] (.int z :: st) (n, I, R)) := e_iald d120_68
theorem d120_69 : decode (cod 120) 69 = .ok (.iload 5, 2) := by decide +kernel
theorem s120_69 {M : Mm} {st : List Value} {l0 l1 l2 l3 l4 : Option Value} {x : Int32} : EE 120 69 [l0, l1, l2, l3, l4, some (.int x)] st M = EE 120 71 [l0, l1, l2, l3, l4, some (.int x)] (.int x :: st) M := e_ld d120_69 rfl rfl rfl rfl rfl rfl
theorem d120_71 : decode (cod 120) 71 = .ok (.ifCond .eq 7, 3) := by decide +kernel
theorem s120_71 {M : Mm} {st : List Value} {l0 l1 l2 l3 l4 l5 : Option Value} {x : Int32} : EE 120 71 [l0, l1, l2, l3, l4, l5] (.int x :: st) M = if x = 0 then EE 120 78 [l0, l1, l2, l3, l4, l5] st M else EE 120 74 [l0, l1, l2, l3, l4, l5] st M := e_eq0 d120_71 (by decide)
theorem d120_74 : decode (cod 120) 74 = .ok (.iconst 1, 1) := by decide +kernel
theorem s120_74 {M : Mm} {st : List Value} {l0 l1 l2 l3 l4 l5 : Option Value} : EE 120 74 [l0, l1, l2, l3, l4, l5] st M = EE 120 75 [l0, l1, l2, l3, l4, l5] (.int (nI 1) :: st) M := e_con d120_74 k_con_1
theorem d120_75 : decode (cod 120) 75 = .ok (.goto 4, 3) := by decide +kernel
theorem s120_75 {M : Mm} {st : List Value} {l0 l1 l2 l3 l4 l5 : Option Value} : EE 120 75 [l0, l1, l2, l3, l4, l5] st M = EE 120 79 [l0, l1, l2, l3, l4, l5] st M := e_goto d120_75 (by decide)
theorem d120_78 : decode (cod 120) 78 = .ok (.iconst 0, 1) := by decide +kernel
theorem s120_78 {M : Mm} {st : List Value} {l0 l1 l2 l3 l4 l5 : Option Value} : EE 120 78 [l0, l1, l2, l3, l4, l5] st M = EE 120 79 [l0, l1, l2, l3, l4, l5] (.int (nI 0) :: st) M := e_con d120_78 k_con_0
theorem d120_79 : decode (cod 120) 79 = .ok (.iadd, 1) := by decide +kernel
theorem s120_79 {M : Mm} {st : List Value} {l0 l1 l2 l3 l4 l5 : Option Value} {x y : Int32} : EE 120 79 [l0, l1, l2, l3, l4, l5] (.int y :: .int x :: st) M = EE 120 80 [l0, l1, l2, l3, l4, l5] (.int (x + y) :: st) M := e_II d120_79 rfl rfl rfl rfl rfl rfl
theorem d120_80 : decode (cod 120) 80 = .ok (.iastore, 1) := by decide +kernel
theorem s120_80 {n : Nat} {I : Nat → Nat → Int32} {R : Nat → Nat → Option Nat} {st : List Value} {l0 l1 l2 l3 l4 l5 : Option Value} {j x : Int32} {a : Nat} (h : acI 5 n a j) : EE 120 80 [l0, l1, l2, l3, l4, l5] (.int x :: .int j :: .ref a :: st) (n, I, R) = EE 120 81 [l0, l1, l2, l3, l4, l5] st (n, wI I a j.toNatClampNeg x, R) := e_iast d120_80 h
theorem d120_81 : decode (cod 120) 81 = .ok (.iinc 3 1, 3) := by decide +kernel
theorem s120_81 {M : Mm} {st : List Value} {l0 l1 l2 l4 l5 : Option Value} {x : Int32} : EE 120 81 [l0, l1, l2, some (.int x), l4, l5] st M = EE 120 84 [l0, l1, cln l2, some (.int (x + nI 1)), l4, l5] st M := e_iinc d120_81 rfl (congrArg (fun z => x + z) k_inc_1) rfl
theorem d120_84 : decode (cod 120) 84 = .ok (.goto (-80), 3) := by decide +kernel
theorem s120_84 {M : Mm} {st : List Value} {l0 l1 l2 l3 l4 l5 : Option Value} : EE 120 84 [l0, l1, l2, l3, l4, l5] st M = EE 120 4 [l0, l1, l2, l3, l4, l5] st M := e_goto d120_84 (by decide)
theorem d120_87 : decode (cod 120) 87 = .ok (.iconst 0, 1) := by decide +kernel
theorem s120_87 {M : Mm} {st : List Value} {l0 l1 l2 l3 l4 l5 : Option Value} : EE 120 87 [l0, l1, l2, l3, l4, l5] st M = EE 120 88 [l0, l1, l2, l3, l4, l5] (.int (nI 0) :: st) M := e_con d120_87 k_con_0
theorem d120_88 : decode (cod 120) 88 = .ok (.istore_n 3, 1) := by decide +kernel
theorem s120_88 {M : Mm} {st : List Value} {l0 l1 l2 l3 l4 l5 : Option Value} {x : Int32} : EE 120 88 [l0, l1, l2, l3, l4, l5] (.int x :: st) M = EE 120 89 [l0, l1, cln l2, some (.int x), l4, l5] st M := e_st1 d120_88 rfl rfl rfl rfl rfl rfl rfl (Nat.le_of_ble_eq_true rfl) rfl
theorem d120_89 : decode (cod 120) 89 = .ok (.iload_n 3, 1) := by decide +kernel
theorem s120_89 {M : Mm} {st : List Value} {l0 l1 l2 l4 l5 : Option Value} {x : Int32} : EE 120 89 [l0, l1, l2, some (.int x), l4, l5] st M = EE 120 90 [l0, l1, l2, some (.int x), l4, l5] (.int x :: st) M := e_ld d120_89 rfl rfl rfl rfl rfl rfl
theorem d120_90 : decode (cod 120) 90 = .ok (.aload_n 0, 1) := by decide +kernel
theorem s120_90 {M : Mm} {st : List Value} {l1 l2 l3 l4 l5 : Option Value} {x : Nat} : EE 120 90 [some (.ref x), l1, l2, l3, l4, l5] st M = EE 120 91 [some (.ref x), l1, l2, l3, l4, l5] (.ref x :: st) M := e_ld d120_90 rfl rfl rfl rfl rfl rfl
theorem d120_91 : decode (cod 120) 91 = .ok (.iconst 1, 1) := by decide +kernel
theorem s120_91 {M : Mm} {st : List Value} {l0 l1 l2 l3 l4 l5 : Option Value} : EE 120 91 [l0, l1, l2, l3, l4, l5] st M = EE 120 92 [l0, l1, l2, l3, l4, l5] (.int (nI 1) :: st) M := e_con d120_91 k_con_1
theorem d120_92 : decode (cod 120) 92 = .ok (.iaload, 1) := by decide +kernel
theorem s120_92 {n : Nat} {I : Nat → Nat → Int32} {R : Nat → Nat → Option Nat} {st : List Value} {l0 l1 l2 l3 l4 l5 : Option Value} {j : Int32} {a : Nat} : EE 120 92 [l0, l1, l2, l3, l4, l5] (.int j :: .ref a :: st) (n, I, R) = (ardI 5 n I a j).bind (fun z => EE 120 93 [l0, l1, l2, l3, l4, l5] (.int z :: st) (n, I, R)) := e_iald d120_92
theorem d120_93 : decode (cod 120) 93 = .ok (.if_icmp .ge 59, 3) := by decide +kernel
theorem s120_93 {M : Mm} {st : List Value} {l0 l1 l2 l3 l4 l5 : Option Value} {x y : Int32} : EE 120 93 [l0, l1, l2, l3, l4, l5] (.int y :: .int x :: st) M = if y ≤ x then EE 120 152 [l0, l1, l2, l3, l4, l5] st M else EE 120 96 [l0, l1, l2, l3, l4, l5] st M := e_cge d120_93 (by decide)
theorem d120_96 : decode (cod 120) 96 = .ok (.aload_n 0, 1) := by decide +kernel
theorem s120_96 {M : Mm} {st : List Value} {l1 l2 l3 l4 l5 : Option Value} {x : Nat} : EE 120 96 [some (.ref x), l1, l2, l3, l4, l5] st M = EE 120 97 [some (.ref x), l1, l2, l3, l4, l5] (.ref x :: st) M := e_ld d120_96 rfl rfl rfl rfl rfl rfl
theorem d120_97 : decode (cod 120) 97 = .ok (.sipush 128, 3) := by decide +kernel
theorem s120_97 {M : Mm} {st : List Value} {l0 l1 l2 l3 l4 l5 : Option Value} : EE 120 97 [l0, l1, l2, l3, l4, l5] st M = EE 120 100 [l0, l1, l2, l3, l4, l5] (.int (nI 128) :: st) M := e_sip d120_97 k_sip_128
theorem d120_100 : decode (cod 120) 100 = .ok (.iload_n 3, 1) := by decide +kernel
theorem s120_100 {M : Mm} {st : List Value} {l0 l1 l2 l4 l5 : Option Value} {x : Int32} : EE 120 100 [l0, l1, l2, some (.int x), l4, l5] st M = EE 120 101 [l0, l1, l2, some (.int x), l4, l5] (.int x :: st) M := e_ld d120_100 rfl rfl rfl rfl rfl rfl
theorem d120_101 : decode (cod 120) 101 = .ok (.iadd, 1) := by decide +kernel
theorem s120_101 {M : Mm} {st : List Value} {l0 l1 l2 l3 l4 l5 : Option Value} {x y : Int32} : EE 120 101 [l0, l1, l2, l3, l4, l5] (.int y :: .int x :: st) M = EE 120 102 [l0, l1, l2, l3, l4, l5] (.int (x + y) :: st) M := e_II d120_101 rfl rfl rfl rfl rfl rfl
theorem d120_102 : decode (cod 120) 102 = .ok (.dup2, 1) := by decide +kernel
theorem s120_102 {M : Mm} {st : List Value} {l0 l1 l2 l3 l4 l5 : Option Value} {x : Int32} {y : Nat} : EE 120 102 [l0, l1, l2, l3, l4, l5] (.int x :: .ref y :: st) M = EE 120 103 [l0, l1, l2, l3, l4, l5] (.int x :: .ref y :: .int x :: .ref y :: st) M := e_dup2 d120_102 rfl rfl
theorem d120_103 : decode (cod 120) 103 = .ok (.iaload, 1) := by decide +kernel
theorem s120_103 {n : Nat} {I : Nat → Nat → Int32} {R : Nat → Nat → Option Nat} {st : List Value} {l0 l1 l2 l3 l4 l5 : Option Value} {j : Int32} {a : Nat} : EE 120 103 [l0, l1, l2, l3, l4, l5] (.int j :: .ref a :: st) (n, I, R) = (ardI 5 n I a j).bind (fun z => EE 120 104 [l0, l1, l2, l3, l4, l5] (.int z :: st) (n, I, R)) := e_iald d120_103
theorem d120_104 : decode (cod 120) 104 = .ok (.aload_n 0, 1) := by decide +kernel
theorem s120_104 {M : Mm} {st : List Value} {l1 l2 l3 l4 l5 : Option Value} {x : Nat} : EE 120 104 [some (.ref x), l1, l2, l3, l4, l5] st M = EE 120 105 [some (.ref x), l1, l2, l3, l4, l5] (.ref x :: st) M := e_ld d120_104 rfl rfl rfl rfl rfl rfl
theorem d120_105 : decode (cod 120) 105 = .ok (.bipush 38, 2) := by decide +kernel
theorem s120_105 {M : Mm} {st : List Value} {l0 l1 l2 l3 l4 l5 : Option Value} : EE 120 105 [l0, l1, l2, l3, l4, l5] st M = EE 120 107 [l0, l1, l2, l3, l4, l5] (.int (nI 38) :: st) M := e_bip d120_105 k_bip_38
theorem d120_107 : decode (cod 120) 107 = .ok (.iload_n 3, 1) := by decide +kernel
theorem s120_107 {M : Mm} {st : List Value} {l0 l1 l2 l4 l5 : Option Value} {x : Int32} : EE 120 107 [l0, l1, l2, some (.int x), l4, l5] st M = EE 120 108 [l0, l1, l2, some (.int x), l4, l5] (.int x :: st) M := e_ld d120_107 rfl rfl rfl rfl rfl rfl
theorem d120_108 : decode (cod 120) 108 = .ok (.iadd, 1) := by decide +kernel
theorem s120_108 {M : Mm} {st : List Value} {l0 l1 l2 l3 l4 l5 : Option Value} {x y : Int32} : EE 120 108 [l0, l1, l2, l3, l4, l5] (.int y :: .int x :: st) M = EE 120 109 [l0, l1, l2, l3, l4, l5] (.int (x + y) :: st) M := e_II d120_108 rfl rfl rfl rfl rfl rfl
theorem d120_109 : decode (cod 120) 109 = .ok (.iaload, 1) := by decide +kernel
theorem s120_109 {n : Nat} {I : Nat → Nat → Int32} {R : Nat → Nat → Option Nat} {st : List Value} {l0 l1 l2 l3 l4 l5 : Option Value} {j : Int32} {a : Nat} : EE 120 109 [l0, l1, l2, l3, l4, l5] (.int j :: .ref a :: st) (n, I, R) = (ardI 5 n I a j).bind (fun z => EE 120 110 [l0, l1, l2, l3, l4, l5] (.int z :: st) (n, I, R)) := e_iald d120_109
theorem d120_110 : decode (cod 120) 110 = .ok (.iadd, 1) := by decide +kernel
theorem s120_110 {M : Mm} {st : List Value} {l0 l1 l2 l3 l4 l5 : Option Value} {x y : Int32} : EE 120 110 [l0, l1, l2, l3, l4, l5] (.int y :: .int x :: st) M = EE 120 111 [l0, l1, l2, l3, l4, l5] (.int (x + y) :: st) M := e_II d120_110 rfl rfl rfl rfl rfl rfl
theorem d120_111 : decode (cod 120) 111 = .ok (.iastore, 1) := by decide +kernel
theorem s120_111 {n : Nat} {I : Nat → Nat → Int32} {R : Nat → Nat → Option Nat} {st : List Value} {l0 l1 l2 l3 l4 l5 : Option Value} {j x : Int32} {a : Nat} (h : acI 5 n a j) : EE 120 111 [l0, l1, l2, l3, l4, l5] (.int x :: .int j :: .ref a :: st) (n, I, R) = EE 120 112 [l0, l1, l2, l3, l4, l5] st (n, wI I a j.toNatClampNeg x, R) := e_iast d120_111 h
theorem d120_112 : decode (cod 120) 112 = .ok (.aload_n 0, 1) := by decide +kernel
theorem s120_112 {M : Mm} {st : List Value} {l1 l2 l3 l4 l5 : Option Value} {x : Nat} : EE 120 112 [some (.ref x), l1, l2, l3, l4, l5] st M = EE 120 113 [some (.ref x), l1, l2, l3, l4, l5] (.ref x :: st) M := e_ld d120_112 rfl rfl rfl rfl rfl rfl
theorem d120_113 : decode (cod 120) 113 = .ok (.sipush 138, 3) := by decide +kernel
theorem s120_113 {M : Mm} {st : List Value} {l0 l1 l2 l3 l4 l5 : Option Value} : EE 120 113 [l0, l1, l2, l3, l4, l5] st M = EE 120 116 [l0, l1, l2, l3, l4, l5] (.int (nI 138) :: st) M := e_sip d120_113 k_sip_138
theorem d120_116 : decode (cod 120) 116 = .ok (.iload_n 3, 1) := by decide +kernel
theorem s120_116 {M : Mm} {st : List Value} {l0 l1 l2 l4 l5 : Option Value} {x : Int32} : EE 120 116 [l0, l1, l2, some (.int x), l4, l5] st M = EE 120 117 [l0, l1, l2, some (.int x), l4, l5] (.int x :: st) M := e_ld d120_116 rfl rfl rfl rfl rfl rfl
theorem d120_117 : decode (cod 120) 117 = .ok (.iadd, 1) := by decide +kernel
theorem s120_117 {M : Mm} {st : List Value} {l0 l1 l2 l3 l4 l5 : Option Value} {x y : Int32} : EE 120 117 [l0, l1, l2, l3, l4, l5] (.int y :: .int x :: st) M = EE 120 118 [l0, l1, l2, l3, l4, l5] (.int (x + y) :: st) M := e_II d120_117 rfl rfl rfl rfl rfl rfl
theorem d120_118 : decode (cod 120) 118 = .ok (.dup2, 1) := by decide +kernel
theorem s120_118 {M : Mm} {st : List Value} {l0 l1 l2 l3 l4 l5 : Option Value} {x : Int32} {y : Nat} : EE 120 118 [l0, l1, l2, l3, l4, l5] (.int x :: .ref y :: st) M = EE 120 119 [l0, l1, l2, l3, l4, l5] (.int x :: .ref y :: .int x :: .ref y :: st) M := e_dup2 d120_118 rfl rfl
theorem d120_119 : decode (cod 120) 119 = .ok (.iaload, 1) := by decide +kernel
theorem s120_119 {n : Nat} {I : Nat → Nat → Int32} {R : Nat → Nat → Option Nat} {st : List Value} {l0 l1 l2 l3 l4 l5 : Option Value} {j : Int32} {a : Nat} : EE 120 119 [l0, l1, l2, l3, l4, l5] (.int j :: .ref a :: st) (n, I, R) = (ardI 5 n I a j).bind (fun z => EE 120 120 [l0, l1, l2, l3, l4, l5] (.int z :: st) (n, I, R)) := e_iald d120_119
theorem d120_120 : decode (cod 120) 120 = .ok (.aload_n 0, 1) := by decide +kernel
theorem s120_120 {M : Mm} {st : List Value} {l1 l2 l3 l4 l5 : Option Value} {x : Nat} : EE 120 120 [some (.ref x), l1, l2, l3, l4, l5] st M = EE 120 121 [some (.ref x), l1, l2, l3, l4, l5] (.ref x :: st) M := e_ld d120_120 rfl rfl rfl rfl rfl rfl
theorem d120_121 : decode (cod 120) 121 = .ok (.bipush 38, 2) := by decide +kernel
theorem s120_121 {M : Mm} {st : List Value} {l0 l1 l2 l3 l4 l5 : Option Value} : EE 120 121 [l0, l1, l2, l3, l4, l5] st M = EE 120 123 [l0, l1, l2, l3, l4, l5] (.int (nI 38) :: st) M := e_bip d120_121 k_bip_38
theorem d120_123 : decode (cod 120) 123 = .ok (.iload_n 3, 1) := by decide +kernel
theorem s120_123 {M : Mm} {st : List Value} {l0 l1 l2 l4 l5 : Option Value} {x : Int32} : EE 120 123 [l0, l1, l2, some (.int x), l4, l5] st M = EE 120 124 [l0, l1, l2, some (.int x), l4, l5] (.int x :: st) M := e_ld d120_123 rfl rfl rfl rfl rfl rfl
theorem d120_124 : decode (cod 120) 124 = .ok (.iadd, 1) := by decide +kernel
theorem s120_124 {M : Mm} {st : List Value} {l0 l1 l2 l3 l4 l5 : Option Value} {x y : Int32} : EE 120 124 [l0, l1, l2, l3, l4, l5] (.int y :: .int x :: st) M = EE 120 125 [l0, l1, l2, l3, l4, l5] (.int (x + y) :: st) M := e_II d120_124 rfl rfl rfl rfl rfl rfl
theorem d120_125 : decode (cod 120) 125 = .ok (.iaload, 1) := by decide +kernel
theorem s120_125 {n : Nat} {I : Nat → Nat → Int32} {R : Nat → Nat → Option Nat} {st : List Value} {l0 l1 l2 l3 l4 l5 : Option Value} {j : Int32} {a : Nat} : EE 120 125 [l0, l1, l2, l3, l4, l5] (.int j :: .ref a :: st) (n, I, R) = (ardI 5 n I a j).bind (fun z => EE 120 126 [l0, l1, l2, l3, l4, l5] (.int z :: st) (n, I, R)) := e_iald d120_125
theorem d120_126 : decode (cod 120) 126 = .ok (.iconst 1, 1) := by decide +kernel
theorem s120_126 {M : Mm} {st : List Value} {l0 l1 l2 l3 l4 l5 : Option Value} : EE 120 126 [l0, l1, l2, l3, l4, l5] st M = EE 120 127 [l0, l1, l2, l3, l4, l5] (.int (nI 1) :: st) M := e_con d120_126 k_con_1
theorem d120_127 : decode (cod 120) 127 = .ok (.if_icmp .ne 16, 3) := by decide +kernel
theorem s120_127 {M : Mm} {st : List Value} {l0 l1 l2 l3 l4 l5 : Option Value} {x y : Int32} : EE 120 127 [l0, l1, l2, l3, l4, l5] (.int y :: .int x :: st) M = if x = y then EE 120 130 [l0, l1, l2, l3, l4, l5] st M else EE 120 143 [l0, l1, l2, l3, l4, l5] st M := e_cne d120_127 (by decide)
theorem d120_130 : decode (cod 120) 130 = .ok (.aload_n 0, 1) := by decide +kernel
theorem s120_130 {M : Mm} {st : List Value} {l1 l2 l3 l4 l5 : Option Value} {x : Nat} : EE 120 130 [some (.ref x), l1, l2, l3, l4, l5] st M = EE 120 131 [some (.ref x), l1, l2, l3, l4, l5] (.ref x :: st) M := e_ld d120_130 rfl rfl rfl rfl rfl rfl
theorem d120_131 : decode (cod 120) 131 = .ok (.iload_n 1, 1) := by decide +kernel
theorem s120_131 {M : Mm} {st : List Value} {l0 l2 l3 l4 l5 : Option Value} {x : Int32} : EE 120 131 [l0, some (.int x), l2, l3, l4, l5] st M = EE 120 132 [l0, some (.int x), l2, l3, l4, l5] (.int x :: st) M := e_ld d120_131 rfl rfl rfl rfl rfl rfl
theorem d120_132 : decode (cod 120) 132 = .ok (.iload_n 3, 1) := by decide +kernel
theorem s120_132 {M : Mm} {st : List Value} {l0 l1 l2 l4 l5 : Option Value} {x : Int32} : EE 120 132 [l0, l1, l2, some (.int x), l4, l5] st M = EE 120 133 [l0, l1, l2, some (.int x), l4, l5] (.int x :: st) M := e_ld d120_132 rfl rfl rfl rfl rfl rfl
theorem d120_133 : decode (cod 120) 133 = .ok (.invokestatic 51, 3) := by decide +kernel
theorem s120_133 {M : Mm} {l0 l1 l2 l3 l4 l5 : Option Value} {b0 : Nat} {b1 : Int32} {b2 : Int32} {st : List Value} (hl : st.length ≤ 4) : EE 120 133 [l0, l1, l2, l3, l4, l5] (.int b2 :: .int b1 :: .ref b0 :: st) M = (FF 118 [.ref b0, .int b1, .int b2] M).bind (fun z => EE 120 136 [l0, l1, l2, l3, l4, l5] (psh z.1 st) z.2) := e_cals (av := [.ref b0, .int b1, .int b2]) d120_133 c3_51 (Or.inl rfl) rfl rfl r120_118 rfl hl
theorem d120_136 : decode (cod 120) 136 = .ok (.ifCond .eq 7, 3) := by decide +kernel
theorem s120_136 {M : Mm} {st : List Value} {l0 l1 l2 l3 l4 l5 : Option Value} {x : Int32} : EE 120 136 [l0, l1, l2, l3, l4, l5] (.int x :: st) M = if x = 0 then EE 120 143 [l0, l1, l2, l3, l4, l5] st M else EE 120 139 [l0, l1, l2, l3, l4, l5] st M := e_eq0 d120_136 (by decide)
theorem d120_139 : decode (cod 120) 139 = .ok (.iconst 1, 1) := by decide +kernel
theorem s120_139 {M : Mm} {st : List Value} {l0 l1 l2 l3 l4 l5 : Option Value} : EE 120 139 [l0, l1, l2, l3, l4, l5] st M = EE 120 140 [l0, l1, l2, l3, l4, l5] (.int (nI 1) :: st) M := e_con d120_139 k_con_1
theorem d120_140 : decode (cod 120) 140 = .ok (.goto 4, 3) := by decide +kernel
theorem s120_140 {M : Mm} {st : List Value} {l0 l1 l2 l3 l4 l5 : Option Value} : EE 120 140 [l0, l1, l2, l3, l4, l5] st M = EE 120 144 [l0, l1, l2, l3, l4, l5] st M := e_goto d120_140 (by decide)
theorem d120_143 : decode (cod 120) 143 = .ok (.iconst 0, 1) := by decide +kernel
theorem s120_143 {M : Mm} {st : List Value} {l0 l1 l2 l3 l4 l5 : Option Value} : EE 120 143 [l0, l1, l2, l3, l4, l5] st M = EE 120 144 [l0, l1, l2, l3, l4, l5] (.int (nI 0) :: st) M := e_con d120_143 k_con_0
theorem d120_144 : decode (cod 120) 144 = .ok (.iadd, 1) := by decide +kernel
theorem s120_144 {M : Mm} {st : List Value} {l0 l1 l2 l3 l4 l5 : Option Value} {x y : Int32} : EE 120 144 [l0, l1, l2, l3, l4, l5] (.int y :: .int x :: st) M = EE 120 145 [l0, l1, l2, l3, l4, l5] (.int (x + y) :: st) M := e_II d120_144 rfl rfl rfl rfl rfl rfl
theorem d120_145 : decode (cod 120) 145 = .ok (.iastore, 1) := by decide +kernel
theorem s120_145 {n : Nat} {I : Nat → Nat → Int32} {R : Nat → Nat → Option Nat} {st : List Value} {l0 l1 l2 l3 l4 l5 : Option Value} {j x : Int32} {a : Nat} (h : acI 5 n a j) : EE 120 145 [l0, l1, l2, l3, l4, l5] (.int x :: .int j :: .ref a :: st) (n, I, R) = EE 120 146 [l0, l1, l2, l3, l4, l5] st (n, wI I a j.toNatClampNeg x, R) := e_iast d120_145 h
theorem d120_146 : decode (cod 120) 146 = .ok (.iinc 3 1, 3) := by decide +kernel
theorem s120_146 {M : Mm} {st : List Value} {l0 l1 l2 l4 l5 : Option Value} {x : Int32} : EE 120 146 [l0, l1, l2, some (.int x), l4, l5] st M = EE 120 149 [l0, l1, cln l2, some (.int (x + nI 1)), l4, l5] st M := e_iinc d120_146 rfl (congrArg (fun z => x + z) k_inc_1) rfl
theorem d120_149 : decode (cod 120) 149 = .ok (.goto (-60), 3) := by decide +kernel
theorem s120_149 {M : Mm} {st : List Value} {l0 l1 l2 l3 l4 l5 : Option Value} : EE 120 149 [l0, l1, l2, l3, l4, l5] st M = EE 120 89 [l0, l1, l2, l3, l4, l5] st M := e_goto d120_149 (by decide)
theorem d120_152 : decode (cod 120) 152 = .ok (.aload_n 0, 1) := by decide +kernel
theorem s120_152 {M : Mm} {st : List Value} {l1 l2 l3 l4 l5 : Option Value} {x : Nat} : EE 120 152 [some (.ref x), l1, l2, l3, l4, l5] st M = EE 120 153 [some (.ref x), l1, l2, l3, l4, l5] (.ref x :: st) M := e_ld d120_152 rfl rfl rfl rfl rfl rfl
theorem d120_153 : decode (cod 120) 153 = .ok (.bipush 8, 2) := by decide +kernel
theorem s120_153 {M : Mm} {st : List Value} {l0 l1 l2 l3 l4 l5 : Option Value} : EE 120 153 [l0, l1, l2, l3, l4, l5] st M = EE 120 155 [l0, l1, l2, l3, l4, l5] (.int (nI 8) :: st) M := e_bip d120_153 k_bip_8
theorem d120_155 : decode (cod 120) 155 = .ok (.dup2, 1) := by decide +kernel
theorem s120_155 {M : Mm} {st : List Value} {l0 l1 l2 l3 l4 l5 : Option Value} {x : Int32} {y : Nat} : EE 120 155 [l0, l1, l2, l3, l4, l5] (.int x :: .ref y :: st) M = EE 120 156 [l0, l1, l2, l3, l4, l5] (.int x :: .ref y :: .int x :: .ref y :: st) M := e_dup2 d120_155 rfl rfl
theorem d120_156 : decode (cod 120) 156 = .ok (.iaload, 1) := by decide +kernel
theorem s120_156 {n : Nat} {I : Nat → Nat → Int32} {R : Nat → Nat → Option Nat} {st : List Value} {l0 l1 l2 l3 l4 l5 : Option Value} {j : Int32} {a : Nat} : EE 120 156 [l0, l1, l2, l3, l4, l5] (.int j :: .ref a :: st) (n, I, R) = (ardI 5 n I a j).bind (fun z => EE 120 157 [l0, l1, l2, l3, l4, l5] (.int z :: st) (n, I, R)) := e_iald d120_156
theorem d120_157 : decode (cod 120) 157 = .ok (.iload_n 2, 1) := by decide +kernel
theorem s120_157 {M : Mm} {st : List Value} {l0 l1 l3 l4 l5 : Option Value} {x : Int32} : EE 120 157 [l0, l1, some (.int x), l3, l4, l5] st M = EE 120 158 [l0, l1, some (.int x), l3, l4, l5] (.int x :: st) M := e_ld d120_157 rfl rfl rfl rfl rfl rfl
theorem d120_158 : decode (cod 120) 158 = .ok (.iadd, 1) := by decide +kernel
theorem s120_158 {M : Mm} {st : List Value} {l0 l1 l2 l3 l4 l5 : Option Value} {x y : Int32} : EE 120 158 [l0, l1, l2, l3, l4, l5] (.int y :: .int x :: st) M = EE 120 159 [l0, l1, l2, l3, l4, l5] (.int (x + y) :: st) M := e_II d120_158 rfl rfl rfl rfl rfl rfl
theorem d120_159 : decode (cod 120) 159 = .ok (.iastore, 1) := by decide +kernel
theorem s120_159 {n : Nat} {I : Nat → Nat → Int32} {R : Nat → Nat → Option Nat} {st : List Value} {l0 l1 l2 l3 l4 l5 : Option Value} {j x : Int32} {a : Nat} (h : acI 5 n a j) : EE 120 159 [l0, l1, l2, l3, l4, l5] (.int x :: .int j :: .ref a :: st) (n, I, R) = EE 120 160 [l0, l1, l2, l3, l4, l5] st (n, wI I a j.toNatClampNeg x, R) := e_iast d120_159 h
theorem d120_160 : decode (cod 120) 160 = .ok (.iload_n 2, 1) := by decide +kernel
theorem s120_160 {M : Mm} {st : List Value} {l0 l1 l3 l4 l5 : Option Value} {x : Int32} : EE 120 160 [l0, l1, some (.int x), l3, l4, l5] st M = EE 120 161 [l0, l1, some (.int x), l3, l4, l5] (.int x :: st) M := e_ld d120_160 rfl rfl rfl rfl rfl rfl
theorem d120_161 : decode (cod 120) 161 = .ok (.ireturn, 1) := by decide +kernel
theorem s120_161 {M : Mm} {l0 l1 l2 l3 l4 l5 : Option Value} {v : Int32} : EE 120 161 [l0, l1, l2, l3, l4, l5] [.int v] M = some (some (.int v), M) := e_iret d120_161 rfl rfl
theorem FE120 {b0 : Nat} {b1 : Int32} {M : Mm} : FF 120 [.ref b0, .int b1] M = EE 120 0 [some (.ref b0), some (.int b1), none, none, none, none] [] M := FF_eq 120 _ _ (Nat.le_of_ble_eq_true rfl)
theorem d121_0 : decode (cod 121) 0 = .ok (.iload_n 1, 1) := by decide +kernel
theorem s121_0 {M : Mm} {st : List Value} {l0 l2 : Option Value} {x : Int32} : EE 121 0 [l0, some (.int x), l2] st M = EE 121 1 [l0, some (.int x), l2] (.int x :: st) M := e_ld d121_0 rfl rfl rfl rfl rfl rfl
theorem d121_1 : decode (cod 121) 1 = .ok (.invokestatic 85, 3) := by decide +kernel
theorem s121_1 {M : Mm} {l0 l1 l2 : Option Value} {b0 : Int32} {st : List Value} (hl : st.length ≤ 4) : EE 121 1 [l0, l1, l2] (.int b0 :: st) M = (FF 91 [.int b0] M).bind (fun z => EE 121 4 [l0, l1, l2] (psh z.1 st) z.2) := e_cals (av := [.int b0]) d121_1 c3_85 (Or.inl rfl) rfl rfl r121_91 rfl hl
theorem d121_4 : decode (cod 121) 4 = .ok (.ifCond .eq 24, 3) := by decide +kernel
theorem s121_4 {M : Mm} {st : List Value} {l0 l1 l2 : Option Value} {x : Int32} : EE 121 4 [l0, l1, l2] (.int x :: st) M = if x = 0 then EE 121 28 [l0, l1, l2] st M else EE 121 7 [l0, l1, l2] st M := e_eq0 d121_4 (by decide)
theorem d121_7 : decode (cod 121) 7 = .ok (.aload_n 0, 1) := by decide +kernel
theorem s121_7 {M : Mm} {st : List Value} {l1 l2 : Option Value} {x : Nat} : EE 121 7 [some (.ref x), l1, l2] st M = EE 121 8 [some (.ref x), l1, l2] (.ref x :: st) M := e_ld d121_7 rfl rfl rfl rfl rfl rfl
theorem d121_8 : decode (cod 121) 8 = .ok (.iload_n 2, 1) := by decide +kernel
theorem s121_8 {M : Mm} {st : List Value} {l0 l1 : Option Value} {x : Int32} : EE 121 8 [l0, l1, some (.int x)] st M = EE 121 9 [l0, l1, some (.int x)] (.int x :: st) M := e_ld d121_8 rfl rfl rfl rfl rfl rfl
theorem d121_9 : decode (cod 121) 9 = .ok (.invokevirtual 104, 3) := by decide +kernel
theorem s121_9 {l0 l1 l2 : Option Value} {a : Nat} {M : Mm} {b0 : Int32} {st : List Value} (hl : st.length ≤ 4) (ho : isO "HandoverDeskModel" M.1 a = true) : EE 121 9 [l0, l1, l2] (.int b0 :: .ref a :: st) M = (FF 99 (.ref a :: [.int b0]) M).bind (fun z => EE 121 12 [l0, l1, l2] (psh z.1 st) z.2) := e_calv (av := [.int b0]) d121_9 c3_104 rfl rfl rfl r121_99 rfl hl ho
theorem d121_12 : decode (cod 121) 12 = .ok (.ifCond .eq 16, 3) := by decide +kernel
theorem s121_12 {M : Mm} {st : List Value} {l0 l1 l2 : Option Value} {x : Int32} : EE 121 12 [l0, l1, l2] (.int x :: st) M = if x = 0 then EE 121 28 [l0, l1, l2] st M else EE 121 15 [l0, l1, l2] st M := e_eq0 d121_12 (by decide)
theorem d121_15 : decode (cod 121) 15 = .ok (.aload_n 0, 1) := by decide +kernel
theorem s121_15 {M : Mm} {st : List Value} {l1 l2 : Option Value} {x : Nat} : EE 121 15 [some (.ref x), l1, l2] st M = EE 121 16 [some (.ref x), l1, l2] (.ref x :: st) M := e_ld d121_15 rfl rfl rfl rfl rfl rfl
theorem d121_16 : decode (cod 121) 16 = .ok (.getfield 7, 3) := by decide +kernel
theorem s121_16 {n : Nat} {I : Nat → Nat → Int32} {R : Nat → Nat → Option Nat} {st : List Value} {l0 l1 l2 : Option Value} {a : Nat} : EE 121 16 [l0, l1, l2] (.ref a :: st) (n, I, R) = (gfI n I R 3 0 a).bind (fun z => EE 121 19 [l0, l1, l2] (z :: st) (n, I, R)) := e_getf d121_16 f3_7 rfl rfl
theorem d121_19 : decode (cod 121) 19 = .ok (.iload_n 1, 1) := by decide +kernel
theorem s121_19 {M : Mm} {st : List Value} {l0 l2 : Option Value} {x : Int32} : EE 121 19 [l0, some (.int x), l2] st M = EE 121 20 [l0, some (.int x), l2] (.int x :: st) M := e_ld d121_19 rfl rfl rfl rfl rfl rfl
theorem d121_20 : decode (cod 121) 20 = .ok (.iload_n 2, 1) := by decide +kernel
theorem s121_20 {M : Mm} {st : List Value} {l0 l1 : Option Value} {x : Int32} : EE 121 20 [l0, l1, some (.int x)] st M = EE 121 21 [l0, l1, some (.int x)] (.int x :: st) M := e_ld d121_20 rfl rfl rfl rfl rfl rfl
theorem d121_21 : decode (cod 121) 21 = .ok (.invokestatic 47, 3) := by decide +kernel
theorem s121_21 {M : Mm} {l0 l1 l2 : Option Value} {b0 : Int32} {b1 : Int32} {st : List Value} (hl : st.length ≤ 4) : EE 121 21 [l0, l1, l2] (.int b1 :: .int b0 :: st) M = (FF 107 [.int b0, .int b1] M).bind (fun z => EE 121 24 [l0, l1, l2] (psh z.1 st) z.2) := e_cals (av := [.int b0, .int b1]) d121_21 c3_47 (Or.inl rfl) rfl rfl r121_107 rfl hl
theorem d121_24 : decode (cod 121) 24 = .ok (.iaload, 1) := by decide +kernel
theorem s121_24 {n : Nat} {I : Nat → Nat → Int32} {R : Nat → Nat → Option Nat} {st : List Value} {l0 l1 l2 : Option Value} {j : Int32} {a : Nat} : EE 121 24 [l0, l1, l2] (.int j :: .ref a :: st) (n, I, R) = (ardI 5 n I a j).bind (fun z => EE 121 25 [l0, l1, l2] (.int z :: st) (n, I, R)) := e_iald d121_24
theorem d121_25 : decode (cod 121) 25 = .ok (.goto 4, 3) := by decide +kernel
theorem s121_25 {M : Mm} {st : List Value} {l0 l1 l2 : Option Value} : EE 121 25 [l0, l1, l2] st M = EE 121 29 [l0, l1, l2] st M := e_goto d121_25 (by decide)
theorem d121_28 : decode (cod 121) 28 = .ok (.iconst (-1), 1) := by decide +kernel
theorem s121_28 {M : Mm} {st : List Value} {l0 l1 l2 : Option Value} : EE 121 28 [l0, l1, l2] st M = EE 121 29 [l0, l1, l2] (.int ((-1)) :: st) M := e_con d121_28 k_con_m1
theorem d121_29 : decode (cod 121) 29 = .ok (.ireturn, 1) := by decide +kernel
theorem s121_29 {M : Mm} {l0 l1 l2 : Option Value} {v : Int32} : EE 121 29 [l0, l1, l2] [.int v] M = some (some (.int v), M) := e_iret d121_29 rfl rfl
theorem FE121 {a : Nat} {b0 : Int32} {b1 : Int32} {M : Mm} : FF 121 [.ref a, .int b0, .int b1] M = EE 121 0 [some (.ref a), some (.int b0), some (.int b1)] [] M := FF_eq 121 _ _ (Nat.le_of_ble_eq_true rfl)
theorem d122_0 : decode (cod 122) 0 = .ok (.aload_n 0, 1) := by decide +kernel
theorem s122_0 {M : Mm} {st : List Value} {l1 l2 : Option Value} {x : Nat} : EE 122 0 [some (.ref x), l1, l2] st M = EE 122 1 [some (.ref x), l1, l2] (.ref x :: st) M := e_ld d122_0 rfl rfl rfl rfl rfl rfl
theorem d122_1 : decode (cod 122) 1 = .ok (.iload_n 1, 1) := by decide +kernel
theorem s122_1 {M : Mm} {st : List Value} {l0 l2 : Option Value} {x : Int32} : EE 122 1 [l0, some (.int x), l2] st M = EE 122 2 [l0, some (.int x), l2] (.int x :: st) M := e_ld d122_1 rfl rfl rfl rfl rfl rfl
theorem d122_2 : decode (cod 122) 2 = .ok (.invokevirtual 104, 3) := by decide +kernel
theorem s122_2 {l0 l1 l2 : Option Value} {a : Nat} {M : Mm} {b0 : Int32} {st : List Value} (hl : st.length ≤ 4) (ho : isO "HandoverDeskModel" M.1 a = true) : EE 122 2 [l0, l1, l2] (.int b0 :: .ref a :: st) M = (FF 99 (.ref a :: [.int b0]) M).bind (fun z => EE 122 5 [l0, l1, l2] (psh z.1 st) z.2) := e_calv (av := [.int b0]) d122_2 c3_104 rfl rfl rfl r122_99 rfl hl ho
theorem d122_5 : decode (cod 122) 5 = .ok (.ifCond .ne 5, 3) := by decide +kernel
theorem s122_5 {M : Mm} {st : List Value} {l0 l1 l2 : Option Value} {x : Int32} : EE 122 5 [l0, l1, l2] (.int x :: st) M = if x = 0 then EE 122 8 [l0, l1, l2] st M else EE 122 10 [l0, l1, l2] st M := e_ne0 d122_5 (by decide)
theorem d122_8 : decode (cod 122) 8 = .ok (.iconst (-1), 1) := by decide +kernel
theorem s122_8 {M : Mm} {st : List Value} {l0 l1 l2 : Option Value} : EE 122 8 [l0, l1, l2] st M = EE 122 9 [l0, l1, l2] (.int ((-1)) :: st) M := e_con d122_8 k_con_m1
theorem d122_9 : decode (cod 122) 9 = .ok (.ireturn, 1) := by decide +kernel
theorem s122_9 {M : Mm} {l0 l1 l2 : Option Value} {v : Int32} : EE 122 9 [l0, l1, l2] [.int v] M = some (some (.int v), M) := e_iret d122_9 rfl rfl
theorem d122_10 : decode (cod 122) 10 = .ok (.iload_n 2, 1) := by decide +kernel
theorem s122_10 {M : Mm} {st : List Value} {l0 l1 : Option Value} {x : Int32} : EE 122 10 [l0, l1, some (.int x)] st M = EE 122 11 [l0, l1, some (.int x)] (.int x :: st) M := e_ld d122_10 rfl rfl rfl rfl rfl rfl
theorem d122_11 : decode (cod 122) 11 = .ok (.iconst 0, 1) := by decide +kernel
theorem s122_11 {M : Mm} {st : List Value} {l0 l1 l2 : Option Value} : EE 122 11 [l0, l1, l2] st M = EE 122 12 [l0, l1, l2] (.int (nI 0) :: st) M := e_con d122_11 k_con_0
theorem d122_12 : decode (cod 122) 12 = .ok (.bipush 6, 2) := by decide +kernel
theorem s122_12 {M : Mm} {st : List Value} {l0 l1 l2 : Option Value} : EE 122 12 [l0, l1, l2] st M = EE 122 14 [l0, l1, l2] (.int (nI 6) :: st) M := e_bip d122_12 k_bip_6
theorem d122_14 : decode (cod 122) 14 = .ok (.invokestatic 32, 3) := by decide +kernel
theorem s122_14 {M : Mm} {l0 l1 l2 : Option Value} {b0 : Int32} {b1 : Int32} {b2 : Int32} {st : List Value} (hl : st.length ≤ 4) : EE 122 14 [l0, l1, l2] (.int b2 :: .int b1 :: .int b0 :: st) M = (FF 84 [.int b0, .int b1, .int b2] M).bind (fun z => EE 122 17 [l0, l1, l2] (psh z.1 st) z.2) := e_cals (av := [.int b0, .int b1, .int b2]) d122_14 c3_32 (Or.inl rfl) rfl rfl r122_84 rfl hl
theorem d122_17 : decode (cod 122) 17 = .ok (.ifCond .ne 6, 3) := by decide +kernel
theorem s122_17 {M : Mm} {st : List Value} {l0 l1 l2 : Option Value} {x : Int32} : EE 122 17 [l0, l1, l2] (.int x :: st) M = if x = 0 then EE 122 20 [l0, l1, l2] st M else EE 122 23 [l0, l1, l2] st M := e_ne0 d122_17 (by decide)
theorem d122_20 : decode (cod 122) 20 = .ok (.bipush (-2), 2) := by decide +kernel
theorem s122_20 {M : Mm} {st : List Value} {l0 l1 l2 : Option Value} : EE 122 20 [l0, l1, l2] st M = EE 122 22 [l0, l1, l2] (.int ((-2)) :: st) M := e_bip d122_20 k_bip_m2
theorem d122_22 : decode (cod 122) 22 = .ok (.ireturn, 1) := by decide +kernel
theorem s122_22 {M : Mm} {l0 l1 l2 : Option Value} {v : Int32} : EE 122 22 [l0, l1, l2] [.int v] M = some (some (.int v), M) := e_iret d122_22 rfl rfl
theorem d122_23 : decode (cod 122) 23 = .ok (.iload_n 2, 1) := by decide +kernel
theorem s122_23 {M : Mm} {st : List Value} {l0 l1 : Option Value} {x : Int32} : EE 122 23 [l0, l1, some (.int x)] st M = EE 122 24 [l0, l1, some (.int x)] (.int x :: st) M := e_ld d122_23 rfl rfl rfl rfl rfl rfl
theorem d122_24 : decode (cod 122) 24 = .ok (.iconst 4, 1) := by decide +kernel
theorem s122_24 {M : Mm} {st : List Value} {l0 l1 l2 : Option Value} : EE 122 24 [l0, l1, l2] st M = EE 122 25 [l0, l1, l2] (.int (nI 4) :: st) M := e_con d122_24 k_con_4
theorem d122_25 : decode (cod 122) 25 = .ok (.if_icmp .ge 54, 3) := by decide +kernel
theorem s122_25 {M : Mm} {st : List Value} {l0 l1 l2 : Option Value} {x y : Int32} : EE 122 25 [l0, l1, l2] (.int y :: .int x :: st) M = if y ≤ x then EE 122 79 [l0, l1, l2] st M else EE 122 28 [l0, l1, l2] st M := e_cge d122_25 (by decide)
theorem d122_28 : decode (cod 122) 28 = .ok (.iload_n 2, 1) := by decide +kernel
theorem s122_28 {M : Mm} {st : List Value} {l0 l1 : Option Value} {x : Int32} : EE 122 28 [l0, l1, some (.int x)] st M = EE 122 29 [l0, l1, some (.int x)] (.int x :: st) M := e_ld d122_28 rfl rfl rfl rfl rfl rfl
theorem d122_29 : decode (cod 122) 29 = .ok (.ifCond .ne 15, 3) := by decide +kernel
theorem s122_29 {M : Mm} {st : List Value} {l0 l1 l2 : Option Value} {x : Int32} : EE 122 29 [l0, l1, l2] (.int x :: st) M = if x = 0 then EE 122 32 [l0, l1, l2] st M else EE 122 44 [l0, l1, l2] st M := e_ne0 d122_29 (by decide)
theorem d122_32 : decode (cod 122) 32 = .ok (.aload_n 0, 1) := by decide +kernel
theorem s122_32 {M : Mm} {st : List Value} {l1 l2 : Option Value} {x : Nat} : EE 122 32 [some (.ref x), l1, l2] st M = EE 122 33 [some (.ref x), l1, l2] (.ref x :: st) M := e_ld d122_32 rfl rfl rfl rfl rfl rfl
theorem d122_33 : decode (cod 122) 33 = .ok (.getfield 7, 3) := by decide +kernel
theorem s122_33 {n : Nat} {I : Nat → Nat → Int32} {R : Nat → Nat → Option Nat} {st : List Value} {l0 l1 l2 : Option Value} {a : Nat} : EE 122 33 [l0, l1, l2] (.ref a :: st) (n, I, R) = (gfI n I R 3 0 a).bind (fun z => EE 122 36 [l0, l1, l2] (z :: st) (n, I, R)) := e_getf d122_33 f3_7 rfl rfl
theorem d122_36 : decode (cod 122) 36 = .ok (.bipush 38, 2) := by decide +kernel
theorem s122_36 {M : Mm} {st : List Value} {l0 l1 l2 : Option Value} : EE 122 36 [l0, l1, l2] st M = EE 122 38 [l0, l1, l2] (.int (nI 38) :: st) M := e_bip d122_36 k_bip_38
theorem d122_38 : decode (cod 122) 38 = .ok (.iload_n 1, 1) := by decide +kernel
theorem s122_38 {M : Mm} {st : List Value} {l0 l2 : Option Value} {x : Int32} : EE 122 38 [l0, some (.int x), l2] st M = EE 122 39 [l0, some (.int x), l2] (.int x :: st) M := e_ld d122_38 rfl rfl rfl rfl rfl rfl
theorem d122_39 : decode (cod 122) 39 = .ok (.iadd, 1) := by decide +kernel
theorem s122_39 {M : Mm} {st : List Value} {l0 l1 l2 : Option Value} {x y : Int32} : EE 122 39 [l0, l1, l2] (.int y :: .int x :: st) M = EE 122 40 [l0, l1, l2] (.int (x + y) :: st) M := e_II d122_39 rfl rfl rfl rfl rfl rfl
theorem d122_40 : decode (cod 122) 40 = .ok (.iaload, 1) := by decide +kernel
theorem s122_40 {n : Nat} {I : Nat → Nat → Int32} {R : Nat → Nat → Option Nat} {st : List Value} {l0 l1 l2 : Option Value} {j : Int32} {a : Nat} : EE 122 40 [l0, l1, l2] (.int j :: .ref a :: st) (n, I, R) = (ardI 5 n I a j).bind (fun z => EE 122 41 [l0, l1, l2] (.int z :: st) (n, I, R)) := e_iald d122_40
theorem d122_41 : decode (cod 122) 41 = .ok (.goto 37, 3) := by decide +kernel
theorem s122_41 {M : Mm} {st : List Value} {l0 l1 l2 : Option Value} : EE 122 41 [l0, l1, l2] st M = EE 122 78 [l0, l1, l2] st M := e_goto d122_41 (by decide)
theorem d122_44 : decode (cod 122) 44 = .ok (.iload_n 2, 1) := by decide +kernel
theorem s122_44 {M : Mm} {st : List Value} {l0 l1 : Option Value} {x : Int32} : EE 122 44 [l0, l1, some (.int x)] st M = EE 122 45 [l0, l1, some (.int x)] (.int x :: st) M := e_ld d122_44 rfl rfl rfl rfl rfl rfl
theorem d122_45 : decode (cod 122) 45 = .ok (.iconst 1, 1) := by decide +kernel
theorem s122_45 {M : Mm} {st : List Value} {l0 l1 l2 : Option Value} : EE 122 45 [l0, l1, l2] st M = EE 122 46 [l0, l1, l2] (.int (nI 1) :: st) M := e_con d122_45 k_con_1
theorem d122_46 : decode (cod 122) 46 = .ok (.if_icmp .ne 14, 3) := by decide +kernel
theorem s122_46 {M : Mm} {st : List Value} {l0 l1 l2 : Option Value} {x y : Int32} : EE 122 46 [l0, l1, l2] (.int y :: .int x :: st) M = if x = y then EE 122 49 [l0, l1, l2] st M else EE 122 60 [l0, l1, l2] st M := e_cne d122_46 (by decide)
theorem d122_49 : decode (cod 122) 49 = .ok (.aload_n 0, 1) := by decide +kernel
theorem s122_49 {M : Mm} {st : List Value} {l1 l2 : Option Value} {x : Nat} : EE 122 49 [some (.ref x), l1, l2] st M = EE 122 50 [some (.ref x), l1, l2] (.ref x :: st) M := e_ld d122_49 rfl rfl rfl rfl rfl rfl
theorem d122_50 : decode (cod 122) 50 = .ok (.getfield 7, 3) := by decide +kernel
theorem s122_50 {n : Nat} {I : Nat → Nat → Int32} {R : Nat → Nat → Option Nat} {st : List Value} {l0 l1 l2 : Option Value} {a : Nat} : EE 122 50 [l0, l1, l2] (.ref a :: st) (n, I, R) = (gfI n I R 3 0 a).bind (fun z => EE 122 53 [l0, l1, l2] (z :: st) (n, I, R)) := e_getf d122_50 f3_7 rfl rfl
theorem d122_53 : decode (cod 122) 53 = .ok (.iload_n 1, 1) := by decide +kernel
theorem s122_53 {M : Mm} {st : List Value} {l0 l2 : Option Value} {x : Int32} : EE 122 53 [l0, some (.int x), l2] st M = EE 122 54 [l0, some (.int x), l2] (.int x :: st) M := e_ld d122_53 rfl rfl rfl rfl rfl rfl
theorem d122_54 : decode (cod 122) 54 = .ok (.invokestatic 78, 3) := by decide +kernel
theorem s122_54 {M : Mm} {l0 l1 l2 : Option Value} {b0 : Nat} {b1 : Int32} {st : List Value} (hl : st.length ≤ 4) : EE 122 54 [l0, l1, l2] (.int b1 :: .ref b0 :: st) M = (FF 123 [.ref b0, .int b1] M).bind (fun z => EE 122 57 [l0, l1, l2] (psh z.1 st) z.2) := e_cals (av := [.ref b0, .int b1]) d122_54 c3_78 (Or.inl rfl) rfl rfl r122_123 rfl hl
theorem d122_57 : decode (cod 122) 57 = .ok (.goto 21, 3) := by decide +kernel
theorem s122_57 {M : Mm} {st : List Value} {l0 l1 l2 : Option Value} : EE 122 57 [l0, l1, l2] st M = EE 122 78 [l0, l1, l2] st M := e_goto d122_57 (by decide)
theorem d122_60 : decode (cod 122) 60 = .ok (.iload_n 2, 1) := by decide +kernel
theorem s122_60 {M : Mm} {st : List Value} {l0 l1 : Option Value} {x : Int32} : EE 122 60 [l0, l1, some (.int x)] st M = EE 122 61 [l0, l1, some (.int x)] (.int x :: st) M := e_ld d122_60 rfl rfl rfl rfl rfl rfl
theorem d122_61 : decode (cod 122) 61 = .ok (.iconst 2, 1) := by decide +kernel
theorem s122_61 {M : Mm} {st : List Value} {l0 l1 l2 : Option Value} : EE 122 61 [l0, l1, l2] st M = EE 122 62 [l0, l1, l2] (.int (nI 2) :: st) M := e_con d122_61 k_con_2
theorem d122_62 : decode (cod 122) 62 = .ok (.if_icmp .ne 11, 3) := by decide +kernel
theorem s122_62 {M : Mm} {st : List Value} {l0 l1 l2 : Option Value} {x y : Int32} : EE 122 62 [l0, l1, l2] (.int y :: .int x :: st) M = if x = y then EE 122 65 [l0, l1, l2] st M else EE 122 73 [l0, l1, l2] st M := e_cne d122_62 (by decide)
theorem d122_65 : decode (cod 122) 65 = .ok (.aload_n 0, 1) := by decide +kernel
theorem s122_65 {M : Mm} {st : List Value} {l1 l2 : Option Value} {x : Nat} : EE 122 65 [some (.ref x), l1, l2] st M = EE 122 66 [some (.ref x), l1, l2] (.ref x :: st) M := e_ld d122_65 rfl rfl rfl rfl rfl rfl
theorem d122_66 : decode (cod 122) 66 = .ok (.iload_n 1, 1) := by decide +kernel
theorem s122_66 {M : Mm} {st : List Value} {l0 l2 : Option Value} {x : Int32} : EE 122 66 [l0, some (.int x), l2] st M = EE 122 67 [l0, some (.int x), l2] (.int x :: st) M := e_ld d122_66 rfl rfl rfl rfl rfl rfl
theorem d122_67 : decode (cod 122) 67 = .ok (.invokevirtual 111, 3) := by decide +kernel
theorem s122_67 {l0 l1 l2 : Option Value} {a : Nat} {M : Mm} {b0 : Int32} {st : List Value} (hl : st.length ≤ 4) (ho : isO "HandoverDeskModel" M.1 a = true) : EE 122 67 [l0, l1, l2] (.int b0 :: .ref a :: st) M = (FF 103 (.ref a :: [.int b0]) M).bind (fun z => EE 122 70 [l0, l1, l2] (psh z.1 st) z.2) := e_calv (av := [.int b0]) d122_67 c3_111 rfl rfl rfl r122_103 rfl hl ho
theorem d122_70 : decode (cod 122) 70 = .ok (.goto 8, 3) := by decide +kernel
theorem s122_70 {M : Mm} {st : List Value} {l0 l1 l2 : Option Value} : EE 122 70 [l0, l1, l2] st M = EE 122 78 [l0, l1, l2] st M := e_goto d122_70 (by decide)
theorem d122_73 : decode (cod 122) 73 = .ok (.aload_n 0, 1) := by decide +kernel
theorem s122_73 {M : Mm} {st : List Value} {l1 l2 : Option Value} {x : Nat} : EE 122 73 [some (.ref x), l1, l2] st M = EE 122 74 [some (.ref x), l1, l2] (.ref x :: st) M := e_ld d122_73 rfl rfl rfl rfl rfl rfl
theorem d122_74 : decode (cod 122) 74 = .ok (.iload_n 1, 1) := by decide +kernel
theorem s122_74 {M : Mm} {st : List Value} {l0 l2 : Option Value} {x : Int32} : EE 122 74 [l0, some (.int x), l2] st M = EE 122 75 [l0, some (.int x), l2] (.int x :: st) M := e_ld d122_74 rfl rfl rfl rfl rfl rfl
theorem d122_75 : decode (cod 122) 75 = .ok (.invokevirtual 124, 3) := by decide +kernel
theorem s122_75 {l0 l1 l2 : Option Value} {a : Nat} {M : Mm} {b0 : Int32} {st : List Value} (hl : st.length ≤ 4) (ho : isO "HandoverDeskModel" M.1 a = true) : EE 122 75 [l0, l1, l2] (.int b0 :: .ref a :: st) M = (FF 112 (.ref a :: [.int b0]) M).bind (fun z => EE 122 78 [l0, l1, l2] (psh z.1 st) z.2) := e_calv (av := [.int b0]) d122_75 c3_124 rfl rfl rfl r122_112 rfl hl ho
theorem d122_78 : decode (cod 122) 78 = .ok (.ireturn, 1) := by decide +kernel
theorem s122_78 {M : Mm} {l0 l1 l2 : Option Value} {v : Int32} : EE 122 78 [l0, l1, l2] [.int v] M = some (some (.int v), M) := e_iret d122_78 rfl rfl
theorem d122_79 : decode (cod 122) 79 = .ok (.aload_n 0, 1) := by decide +kernel
theorem s122_79 {M : Mm} {st : List Value} {l1 l2 : Option Value} {x : Nat} : EE 122 79 [some (.ref x), l1, l2] st M = EE 122 80 [some (.ref x), l1, l2] (.ref x :: st) M := e_ld d122_79 rfl rfl rfl rfl rfl rfl
theorem d122_80 : decode (cod 122) 80 = .ok (.getfield 7, 3) := by decide +kernel
theorem s122_80 {n : Nat} {I : Nat → Nat → Int32} {R : Nat → Nat → Option Nat} {st : List Value} {l0 l1 l2 : Option Value} {a : Nat} : EE 122 80 [l0, l1, l2] (.ref a :: st) (n, I, R) = (gfI n I R 3 0 a).bind (fun z => EE 122 83 [l0, l1, l2] (z :: st) (n, I, R)) := e_getf d122_80 f3_7 rfl rfl
theorem d122_83 : decode (cod 122) 83 = .ok (.bipush 118, 2) := by decide +kernel
theorem s122_83 {M : Mm} {st : List Value} {l0 l1 l2 : Option Value} : EE 122 83 [l0, l1, l2] st M = EE 122 85 [l0, l1, l2] (.int (nI 118) :: st) M := e_bip d122_83 k_bip_118
theorem d122_85 : decode (cod 122) 85 = .ok (.bipush 10, 2) := by decide +kernel
theorem s122_85 {M : Mm} {st : List Value} {l0 l1 l2 : Option Value} : EE 122 85 [l0, l1, l2] st M = EE 122 87 [l0, l1, l2] (.int (nI 10) :: st) M := e_bip d122_85 k_bip_10
theorem d122_87 : decode (cod 122) 87 = .ok (.iload_n 2, 1) := by decide +kernel
theorem s122_87 {M : Mm} {st : List Value} {l0 l1 : Option Value} {x : Int32} : EE 122 87 [l0, l1, some (.int x)] st M = EE 122 88 [l0, l1, some (.int x)] (.int x :: st) M := e_ld d122_87 rfl rfl rfl rfl rfl rfl
theorem d122_88 : decode (cod 122) 88 = .ok (.iconst 4, 1) := by decide +kernel
theorem s122_88 {M : Mm} {st : List Value} {l0 l1 l2 : Option Value} : EE 122 88 [l0, l1, l2] st M = EE 122 89 [l0, l1, l2] (.int (nI 4) :: st) M := e_con d122_88 k_con_4
theorem d122_89 : decode (cod 122) 89 = .ok (.isub, 1) := by decide +kernel
theorem s122_89 {M : Mm} {st : List Value} {l0 l1 l2 : Option Value} {x y : Int32} : EE 122 89 [l0, l1, l2] (.int y :: .int x :: st) M = EE 122 90 [l0, l1, l2] (.int (x - y) :: st) M := e_II d122_89 rfl rfl rfl rfl rfl rfl
theorem d122_90 : decode (cod 122) 90 = .ok (.imul, 1) := by decide +kernel
theorem s122_90 {M : Mm} {st : List Value} {l0 l1 l2 : Option Value} {x y : Int32} : EE 122 90 [l0, l1, l2] (.int y :: .int x :: st) M = EE 122 91 [l0, l1, l2] (.int (x * y) :: st) M := e_II d122_90 rfl rfl rfl rfl rfl rfl
theorem d122_91 : decode (cod 122) 91 = .ok (.iadd, 1) := by decide +kernel
theorem s122_91 {M : Mm} {st : List Value} {l0 l1 l2 : Option Value} {x y : Int32} : EE 122 91 [l0, l1, l2] (.int y :: .int x :: st) M = EE 122 92 [l0, l1, l2] (.int (x + y) :: st) M := e_II d122_91 rfl rfl rfl rfl rfl rfl
theorem d122_92 : decode (cod 122) 92 = .ok (.iload_n 1, 1) := by decide +kernel
theorem s122_92 {M : Mm} {st : List Value} {l0 l2 : Option Value} {x : Int32} : EE 122 92 [l0, some (.int x), l2] st M = EE 122 93 [l0, some (.int x), l2] (.int x :: st) M := e_ld d122_92 rfl rfl rfl rfl rfl rfl
theorem d122_93 : decode (cod 122) 93 = .ok (.iadd, 1) := by decide +kernel
theorem s122_93 {M : Mm} {st : List Value} {l0 l1 l2 : Option Value} {x y : Int32} : EE 122 93 [l0, l1, l2] (.int y :: .int x :: st) M = EE 122 94 [l0, l1, l2] (.int (x + y) :: st) M := e_II d122_93 rfl rfl rfl rfl rfl rfl
theorem d122_94 : decode (cod 122) 94 = .ok (.iaload, 1) := by decide +kernel
theorem s122_94 {n : Nat} {I : Nat → Nat → Int32} {R : Nat → Nat → Option Nat} {st : List Value} {l0 l1 l2 : Option Value} {j : Int32} {a : Nat} : EE 122 94 [l0, l1, l2] (.int j :: .ref a :: st) (n, I, R) = (ardI 5 n I a j).bind (fun z => EE 122 95 [l0, l1, l2] (.int z :: st) (n, I, R)) := e_iald d122_94
theorem d122_95 : decode (cod 122) 95 = .ok (.ireturn, 1) := by decide +kernel
theorem s122_95 {M : Mm} {l0 l1 l2 : Option Value} {v : Int32} : EE 122 95 [l0, l1, l2] [.int v] M = some (some (.int v), M) := e_iret d122_95 rfl rfl
theorem FE122 {a : Nat} {b0 : Int32} {b1 : Int32} {M : Mm} : FF 122 [.ref a, .int b0, .int b1] M = EE 122 0 [some (.ref a), some (.int b0), some (.int b1)] [] M := FF_eq 122 _ _ (Nat.le_of_ble_eq_true rfl)
theorem d123_0 : decode (cod 123) 0 = .ok (.aload_n 0, 1) := by decide +kernel
theorem s123_0 {M : Mm} {st : List Value} {l1 l2 l3 : Option Value} {x : Nat} : EE 123 0 [some (.ref x), l1, l2, l3] st M = EE 123 1 [some (.ref x), l1, l2, l3] (.ref x :: st) M := e_ld d123_0 rfl rfl rfl rfl rfl rfl
theorem d123_1 : decode (cod 123) 1 = .ok (.bipush 38, 2) := by decide +kernel
theorem s123_1 {M : Mm} {st : List Value} {l0 l1 l2 l3 : Option Value} : EE 123 1 [l0, l1, l2, l3] st M = EE 123 3 [l0, l1, l2, l3] (.int (nI 38) :: st) M := e_bip d123_1 k_bip_38
theorem d123_3 : decode (cod 123) 3 = .ok (.iload_n 1, 1) := by decide +kernel
theorem s123_3 {M : Mm} {st : List Value} {l0 l2 l3 : Option Value} {x : Int32} : EE 123 3 [l0, some (.int x), l2, l3] st M = EE 123 4 [l0, some (.int x), l2, l3] (.int x :: st) M := e_ld d123_3 rfl rfl rfl rfl rfl rfl
theorem d123_4 : decode (cod 123) 4 = .ok (.iadd, 1) := by decide +kernel
theorem s123_4 {M : Mm} {st : List Value} {l0 l1 l2 l3 : Option Value} {x y : Int32} : EE 123 4 [l0, l1, l2, l3] (.int y :: .int x :: st) M = EE 123 5 [l0, l1, l2, l3] (.int (x + y) :: st) M := e_II d123_4 rfl rfl rfl rfl rfl rfl
theorem d123_5 : decode (cod 123) 5 = .ok (.iaload, 1) := by decide +kernel
theorem s123_5 {n : Nat} {I : Nat → Nat → Int32} {R : Nat → Nat → Option Nat} {st : List Value} {l0 l1 l2 l3 : Option Value} {j : Int32} {a : Nat} : EE 123 5 [l0, l1, l2, l3] (.int j :: .ref a :: st) (n, I, R) = (ardI 5 n I a j).bind (fun z => EE 123 6 [l0, l1, l2, l3] (.int z :: st) (n, I, R)) := e_iald d123_5
theorem d123_6 : decode (cod 123) 6 = .ok (.ifCond .ne 6, 3) := by decide +kernel
theorem s123_6 {M : Mm} {st : List Value} {l0 l1 l2 l3 : Option Value} {x : Int32} : EE 123 6 [l0, l1, l2, l3] (.int x :: st) M = if x = 0 then EE 123 9 [l0, l1, l2, l3] st M else EE 123 12 [l0, l1, l2, l3] st M := e_ne0 d123_6 (by decide)
theorem d123_9 : decode (cod 123) 9 = .ok (.bipush (-6), 2) := by decide +kernel
theorem s123_9 {M : Mm} {st : List Value} {l0 l1 l2 l3 : Option Value} : EE 123 9 [l0, l1, l2, l3] st M = EE 123 11 [l0, l1, l2, l3] (.int ((-6)) :: st) M := e_bip d123_9 k_bip_m6
theorem d123_11 : decode (cod 123) 11 = .ok (.ireturn, 1) := by decide +kernel
theorem s123_11 {M : Mm} {l0 l1 l2 l3 : Option Value} {v : Int32} : EE 123 11 [l0, l1, l2, l3] [.int v] M = some (some (.int v), M) := e_iret d123_11 rfl rfl
theorem d123_12 : decode (cod 123) 12 = .ok (.iconst 0, 1) := by decide +kernel
theorem s123_12 {M : Mm} {st : List Value} {l0 l1 l2 l3 : Option Value} : EE 123 12 [l0, l1, l2, l3] st M = EE 123 13 [l0, l1, l2, l3] (.int (nI 0) :: st) M := e_con d123_12 k_con_0
theorem d123_13 : decode (cod 123) 13 = .ok (.istore_n 2, 1) := by decide +kernel
theorem s123_13 {M : Mm} {st : List Value} {l0 l1 l2 l3 : Option Value} {x : Int32} : EE 123 13 [l0, l1, l2, l3] (.int x :: st) M = EE 123 14 [l0, cln l1, some (.int x), l3] st M := e_st1 d123_13 rfl rfl rfl rfl rfl rfl rfl (Nat.le_of_ble_eq_true rfl) rfl
theorem d123_14 : decode (cod 123) 14 = .ok (.iconst 0, 1) := by decide +kernel
theorem s123_14 {M : Mm} {st : List Value} {l0 l1 l2 l3 : Option Value} : EE 123 14 [l0, l1, l2, l3] st M = EE 123 15 [l0, l1, l2, l3] (.int (nI 0) :: st) M := e_con d123_14 k_con_0
theorem d123_15 : decode (cod 123) 15 = .ok (.istore_n 3, 1) := by decide +kernel
theorem s123_15 {M : Mm} {st : List Value} {l0 l1 l2 l3 : Option Value} {x : Int32} : EE 123 15 [l0, l1, l2, l3] (.int x :: st) M = EE 123 16 [l0, l1, cln l2, some (.int x)] st M := e_st1 d123_15 rfl rfl rfl rfl rfl rfl rfl (Nat.le_of_ble_eq_true rfl) rfl
theorem d123_16 : decode (cod 123) 16 = .ok (.iload_n 3, 1) := by decide +kernel
theorem s123_16 {M : Mm} {st : List Value} {l0 l1 l2 : Option Value} {x : Int32} : EE 123 16 [l0, l1, l2, some (.int x)] st M = EE 123 17 [l0, l1, l2, some (.int x)] (.int x :: st) M := e_ld d123_16 rfl rfl rfl rfl rfl rfl
theorem d123_17 : decode (cod 123) 17 = .ok (.bipush 6, 2) := by decide +kernel
theorem s123_17 {M : Mm} {st : List Value} {l0 l1 l2 l3 : Option Value} : EE 123 17 [l0, l1, l2, l3] st M = EE 123 19 [l0, l1, l2, l3] (.int (nI 6) :: st) M := e_bip d123_17 k_bip_6
theorem d123_19 : decode (cod 123) 19 = .ok (.if_icmp .ge 28, 3) := by decide +kernel
theorem s123_19 {M : Mm} {st : List Value} {l0 l1 l2 l3 : Option Value} {x y : Int32} : EE 123 19 [l0, l1, l2, l3] (.int y :: .int x :: st) M = if y ≤ x then EE 123 47 [l0, l1, l2, l3] st M else EE 123 22 [l0, l1, l2, l3] st M := e_cge d123_19 (by decide)
theorem d123_22 : decode (cod 123) 22 = .ok (.iload_n 2, 1) := by decide +kernel
theorem s123_22 {M : Mm} {st : List Value} {l0 l1 l3 : Option Value} {x : Int32} : EE 123 22 [l0, l1, some (.int x), l3] st M = EE 123 23 [l0, l1, some (.int x), l3] (.int x :: st) M := e_ld d123_22 rfl rfl rfl rfl rfl rfl
theorem d123_23 : decode (cod 123) 23 = .ok (.ifCond .ne 12, 3) := by decide +kernel
theorem s123_23 {M : Mm} {st : List Value} {l0 l1 l2 l3 : Option Value} {x : Int32} : EE 123 23 [l0, l1, l2, l3] (.int x :: st) M = if x = 0 then EE 123 26 [l0, l1, l2, l3] st M else EE 123 35 [l0, l1, l2, l3] st M := e_ne0 d123_23 (by decide)
theorem d123_26 : decode (cod 123) 26 = .ok (.aload_n 0, 1) := by decide +kernel
theorem s123_26 {M : Mm} {st : List Value} {l1 l2 l3 : Option Value} {x : Nat} : EE 123 26 [some (.ref x), l1, l2, l3] st M = EE 123 27 [some (.ref x), l1, l2, l3] (.ref x :: st) M := e_ld d123_26 rfl rfl rfl rfl rfl rfl
theorem d123_27 : decode (cod 123) 27 = .ok (.iload_n 3, 1) := by decide +kernel
theorem s123_27 {M : Mm} {st : List Value} {l0 l1 l2 : Option Value} {x : Int32} : EE 123 27 [l0, l1, l2, some (.int x)] st M = EE 123 28 [l0, l1, l2, some (.int x)] (.int x :: st) M := e_ld d123_27 rfl rfl rfl rfl rfl rfl
theorem d123_28 : decode (cod 123) 28 = .ok (.iload_n 1, 1) := by decide +kernel
theorem s123_28 {M : Mm} {st : List Value} {l0 l2 l3 : Option Value} {x : Int32} : EE 123 28 [l0, some (.int x), l2, l3] st M = EE 123 29 [l0, some (.int x), l2, l3] (.int x :: st) M := e_ld d123_28 rfl rfl rfl rfl rfl rfl
theorem d123_29 : decode (cod 123) 29 = .ok (.invokestatic 51, 3) := by decide +kernel
theorem s123_29 {M : Mm} {l0 l1 l2 l3 : Option Value} {b0 : Nat} {b1 : Int32} {b2 : Int32} {st : List Value} (hl : st.length ≤ 4) : EE 123 29 [l0, l1, l2, l3] (.int b2 :: .int b1 :: .ref b0 :: st) M = (FF 118 [.ref b0, .int b1, .int b2] M).bind (fun z => EE 123 32 [l0, l1, l2, l3] (psh z.1 st) z.2) := e_cals (av := [.ref b0, .int b1, .int b2]) d123_29 c3_51 (Or.inl rfl) rfl rfl r123_118 rfl hl
theorem d123_32 : decode (cod 123) 32 = .ok (.ifCond .eq 7, 3) := by decide +kernel
theorem s123_32 {M : Mm} {st : List Value} {l0 l1 l2 l3 : Option Value} {x : Int32} : EE 123 32 [l0, l1, l2, l3] (.int x :: st) M = if x = 0 then EE 123 39 [l0, l1, l2, l3] st M else EE 123 35 [l0, l1, l2, l3] st M := e_eq0 d123_32 (by decide)
theorem d123_35 : decode (cod 123) 35 = .ok (.iconst 1, 1) := by decide +kernel
theorem s123_35 {M : Mm} {st : List Value} {l0 l1 l2 l3 : Option Value} : EE 123 35 [l0, l1, l2, l3] st M = EE 123 36 [l0, l1, l2, l3] (.int (nI 1) :: st) M := e_con d123_35 k_con_1
theorem d123_36 : decode (cod 123) 36 = .ok (.goto 4, 3) := by decide +kernel
theorem s123_36 {M : Mm} {st : List Value} {l0 l1 l2 l3 : Option Value} : EE 123 36 [l0, l1, l2, l3] st M = EE 123 40 [l0, l1, l2, l3] st M := e_goto d123_36 (by decide)
theorem d123_39 : decode (cod 123) 39 = .ok (.iconst 0, 1) := by decide +kernel
theorem s123_39 {M : Mm} {st : List Value} {l0 l1 l2 l3 : Option Value} : EE 123 39 [l0, l1, l2, l3] st M = EE 123 40 [l0, l1, l2, l3] (.int (nI 0) :: st) M := e_con d123_39 k_con_0
theorem d123_40 : decode (cod 123) 40 = .ok (.istore_n 2, 1) := by decide +kernel
theorem s123_40 {M : Mm} {st : List Value} {l0 l1 l2 l3 : Option Value} {x : Int32} : EE 123 40 [l0, l1, l2, l3] (.int x :: st) M = EE 123 41 [l0, cln l1, some (.int x), l3] st M := e_st1 d123_40 rfl rfl rfl rfl rfl rfl rfl (Nat.le_of_ble_eq_true rfl) rfl
theorem d123_41 : decode (cod 123) 41 = .ok (.iinc 3 1, 3) := by decide +kernel
theorem s123_41 {M : Mm} {st : List Value} {l0 l1 l2 : Option Value} {x : Int32} : EE 123 41 [l0, l1, l2, some (.int x)] st M = EE 123 44 [l0, l1, cln l2, some (.int (x + nI 1))] st M := e_iinc d123_41 rfl (congrArg (fun z => x + z) k_inc_1) rfl
theorem d123_44 : decode (cod 123) 44 = .ok (.goto (-28), 3) := by decide +kernel
theorem s123_44 {M : Mm} {st : List Value} {l0 l1 l2 l3 : Option Value} : EE 123 44 [l0, l1, l2, l3] st M = EE 123 16 [l0, l1, l2, l3] st M := e_goto d123_44 (by decide)
theorem d123_47 : decode (cod 123) 47 = .ok (.aload_n 0, 1) := by decide +kernel
theorem s123_47 {M : Mm} {st : List Value} {l1 l2 l3 : Option Value} {x : Nat} : EE 123 47 [some (.ref x), l1, l2, l3] st M = EE 123 48 [some (.ref x), l1, l2, l3] (.ref x :: st) M := e_ld d123_47 rfl rfl rfl rfl rfl rfl
theorem d123_48 : decode (cod 123) 48 = .ok (.aload_n 0, 1) := by decide +kernel
theorem s123_48 {M : Mm} {st : List Value} {l1 l2 l3 : Option Value} {x : Nat} : EE 123 48 [some (.ref x), l1, l2, l3] st M = EE 123 49 [some (.ref x), l1, l2, l3] (.ref x :: st) M := e_ld d123_48 rfl rfl rfl rfl rfl rfl
theorem d123_49 : decode (cod 123) 49 = .ok (.aload_n 0, 1) := by decide +kernel
theorem s123_49 {M : Mm} {st : List Value} {l1 l2 l3 : Option Value} {x : Nat} : EE 123 49 [some (.ref x), l1, l2, l3] st M = EE 123 50 [some (.ref x), l1, l2, l3] (.ref x :: st) M := e_ld d123_49 rfl rfl rfl rfl rfl rfl
theorem d123_50 : decode (cod 123) 50 = .ok (.iconst 0, 1) := by decide +kernel
theorem s123_50 {M : Mm} {st : List Value} {l0 l1 l2 l3 : Option Value} : EE 123 50 [l0, l1, l2, l3] st M = EE 123 51 [l0, l1, l2, l3] (.int (nI 0) :: st) M := e_con d123_50 k_con_0
theorem d123_51 : decode (cod 123) 51 = .ok (.iaload, 1) := by decide +kernel
theorem s123_51 {n : Nat} {I : Nat → Nat → Int32} {R : Nat → Nat → Option Nat} {st : List Value} {l0 l1 l2 l3 : Option Value} {j : Int32} {a : Nat} : EE 123 51 [l0, l1, l2, l3] (.int j :: .ref a :: st) (n, I, R) = (ardI 5 n I a j).bind (fun z => EE 123 52 [l0, l1, l2, l3] (.int z :: st) (n, I, R)) := e_iald d123_51
theorem d123_52 : decode (cod 123) 52 = .ok (.invokestatic 63, 3) := by decide +kernel
theorem s123_52 {M : Mm} {l0 l1 l2 l3 : Option Value} {b0 : Nat} {b1 : Int32} {st : List Value} (hl : st.length ≤ 4) : EE 123 52 [l0, l1, l2, l3] (.int b1 :: .ref b0 :: st) M = (FF 111 [.ref b0, .int b1] M).bind (fun z => EE 123 55 [l0, l1, l2, l3] (psh z.1 st) z.2) := e_cals (av := [.ref b0, .int b1]) d123_52 c3_63 (Or.inl rfl) rfl rfl r123_111 rfl hl
theorem d123_55 : decode (cod 123) 55 = .ok (.iload_n 1, 1) := by decide +kernel
theorem s123_55 {M : Mm} {st : List Value} {l0 l2 l3 : Option Value} {x : Int32} : EE 123 55 [l0, some (.int x), l2, l3] st M = EE 123 56 [l0, some (.int x), l2, l3] (.int x :: st) M := e_ld d123_55 rfl rfl rfl rfl rfl rfl
theorem d123_56 : decode (cod 123) 56 = .ok (.invokestatic 51, 3) := by decide +kernel
theorem s123_56 {M : Mm} {l0 l1 l2 l3 : Option Value} {b0 : Nat} {b1 : Int32} {b2 : Int32} {st : List Value} (hl : st.length ≤ 4) : EE 123 56 [l0, l1, l2, l3] (.int b2 :: .int b1 :: .ref b0 :: st) M = (FF 118 [.ref b0, .int b1, .int b2] M).bind (fun z => EE 123 59 [l0, l1, l2, l3] (psh z.1 st) z.2) := e_cals (av := [.ref b0, .int b1, .int b2]) d123_56 c3_51 (Or.inl rfl) rfl rfl r123_118 rfl hl
theorem d123_59 : decode (cod 123) 59 = .ok (.ifCond .eq 7, 3) := by decide +kernel
theorem s123_59 {M : Mm} {st : List Value} {l0 l1 l2 l3 : Option Value} {x : Int32} : EE 123 59 [l0, l1, l2, l3] (.int x :: st) M = if x = 0 then EE 123 66 [l0, l1, l2, l3] st M else EE 123 62 [l0, l1, l2, l3] st M := e_eq0 d123_59 (by decide)
theorem d123_62 : decode (cod 123) 62 = .ok (.iconst 0, 1) := by decide +kernel
theorem s123_62 {M : Mm} {st : List Value} {l0 l1 l2 l3 : Option Value} : EE 123 62 [l0, l1, l2, l3] st M = EE 123 63 [l0, l1, l2, l3] (.int (nI 0) :: st) M := e_con d123_62 k_con_0
theorem d123_63 : decode (cod 123) 63 = .ok (.goto 12, 3) := by decide +kernel
theorem s123_63 {M : Mm} {st : List Value} {l0 l1 l2 l3 : Option Value} : EE 123 63 [l0, l1, l2, l3] st M = EE 123 75 [l0, l1, l2, l3] st M := e_goto d123_63 (by decide)
theorem d123_66 : decode (cod 123) 66 = .ok (.iload_n 2, 1) := by decide +kernel
theorem s123_66 {M : Mm} {st : List Value} {l0 l1 l3 : Option Value} {x : Int32} : EE 123 66 [l0, l1, some (.int x), l3] st M = EE 123 67 [l0, l1, some (.int x), l3] (.int x :: st) M := e_ld d123_66 rfl rfl rfl rfl rfl rfl
theorem d123_67 : decode (cod 123) 67 = .ok (.ifCond .eq 7, 3) := by decide +kernel
theorem s123_67 {M : Mm} {st : List Value} {l0 l1 l2 l3 : Option Value} {x : Int32} : EE 123 67 [l0, l1, l2, l3] (.int x :: st) M = if x = 0 then EE 123 74 [l0, l1, l2, l3] st M else EE 123 70 [l0, l1, l2, l3] st M := e_eq0 d123_67 (by decide)
theorem d123_70 : decode (cod 123) 70 = .ok (.iconst 1, 1) := by decide +kernel
theorem s123_70 {M : Mm} {st : List Value} {l0 l1 l2 l3 : Option Value} : EE 123 70 [l0, l1, l2, l3] st M = EE 123 71 [l0, l1, l2, l3] (.int (nI 1) :: st) M := e_con d123_70 k_con_1
theorem d123_71 : decode (cod 123) 71 = .ok (.goto 4, 3) := by decide +kernel
theorem s123_71 {M : Mm} {st : List Value} {l0 l1 l2 l3 : Option Value} : EE 123 71 [l0, l1, l2, l3] st M = EE 123 75 [l0, l1, l2, l3] st M := e_goto d123_71 (by decide)
theorem d123_74 : decode (cod 123) 74 = .ok (.iconst 2, 1) := by decide +kernel
theorem s123_74 {M : Mm} {st : List Value} {l0 l1 l2 l3 : Option Value} : EE 123 74 [l0, l1, l2, l3] st M = EE 123 75 [l0, l1, l2, l3] (.int (nI 2) :: st) M := e_con d123_74 k_con_2
theorem d123_75 : decode (cod 123) 75 = .ok (.ireturn, 1) := by decide +kernel
theorem s123_75 {M : Mm} {l0 l1 l2 l3 : Option Value} {v : Int32} : EE 123 75 [l0, l1, l2, l3] [.int v] M = some (some (.int v), M) := e_iret d123_75 rfl rfl
theorem FE123 {b0 : Nat} {b1 : Int32} {M : Mm} : FF 123 [.ref b0, .int b1] M = EE 123 0 [some (.ref b0), some (.int b1), none, none] [] M := FF_eq 123 _ _ (Nat.le_of_ble_eq_true rfl)
theorem d124_0 : decode (cod 124) 0 = .ok (.iload_n 1, 1) := by decide +kernel
theorem s124_0 {M : Mm} {st : List Value} {l0 : Option Value} {x : Int32} : EE 124 0 [l0, some (.int x)] st M = EE 124 1 [l0, some (.int x)] (.int x :: st) M := e_ld d124_0 rfl rfl rfl rfl rfl rfl
theorem d124_1 : decode (cod 124) 1 = .ok (.iconst 0, 1) := by decide +kernel
theorem s124_1 {M : Mm} {st : List Value} {l0 l1 : Option Value} : EE 124 1 [l0, l1] st M = EE 124 2 [l0, l1] (.int (nI 0) :: st) M := e_con d124_1 k_con_0
theorem d124_2 : decode (cod 124) 2 = .ok (.aload_n 0, 1) := by decide +kernel
theorem s124_2 {M : Mm} {st : List Value} {l1 : Option Value} {x : Nat} : EE 124 2 [some (.ref x), l1] st M = EE 124 3 [some (.ref x), l1] (.ref x :: st) M := e_ld d124_2 rfl rfl rfl rfl rfl rfl
theorem d124_3 : decode (cod 124) 3 = .ok (.getfield 7, 3) := by decide +kernel
theorem s124_3 {n : Nat} {I : Nat → Nat → Int32} {R : Nat → Nat → Option Nat} {st : List Value} {l0 l1 : Option Value} {a : Nat} : EE 124 3 [l0, l1] (.ref a :: st) (n, I, R) = (gfI n I R 3 0 a).bind (fun z => EE 124 6 [l0, l1] (z :: st) (n, I, R)) := e_getf d124_3 f3_7 rfl rfl
theorem d124_6 : decode (cod 124) 6 = .ok (.bipush 13, 2) := by decide +kernel
theorem s124_6 {M : Mm} {st : List Value} {l0 l1 : Option Value} : EE 124 6 [l0, l1] st M = EE 124 8 [l0, l1] (.int (nI 13) :: st) M := e_bip d124_6 k_bip_13
theorem d124_8 : decode (cod 124) 8 = .ok (.iaload, 1) := by decide +kernel
theorem s124_8 {n : Nat} {I : Nat → Nat → Int32} {R : Nat → Nat → Option Nat} {st : List Value} {l0 l1 : Option Value} {j : Int32} {a : Nat} : EE 124 8 [l0, l1] (.int j :: .ref a :: st) (n, I, R) = (ardI 5 n I a j).bind (fun z => EE 124 9 [l0, l1] (.int z :: st) (n, I, R)) := e_iald d124_8
theorem d124_9 : decode (cod 124) 9 = .ok (.iconst 1, 1) := by decide +kernel
theorem s124_9 {M : Mm} {st : List Value} {l0 l1 : Option Value} : EE 124 9 [l0, l1] st M = EE 124 10 [l0, l1] (.int (nI 1) :: st) M := e_con d124_9 k_con_1
theorem d124_10 : decode (cod 124) 10 = .ok (.isub, 1) := by decide +kernel
theorem s124_10 {M : Mm} {st : List Value} {l0 l1 : Option Value} {x y : Int32} : EE 124 10 [l0, l1] (.int y :: .int x :: st) M = EE 124 11 [l0, l1] (.int (x - y) :: st) M := e_II d124_10 rfl rfl rfl rfl rfl rfl
theorem d124_11 : decode (cod 124) 11 = .ok (.invokestatic 32, 3) := by decide +kernel
theorem s124_11 {M : Mm} {l0 l1 : Option Value} {b0 : Int32} {b1 : Int32} {b2 : Int32} {st : List Value} (hl : st.length ≤ 4) : EE 124 11 [l0, l1] (.int b2 :: .int b1 :: .int b0 :: st) M = (FF 84 [.int b0, .int b1, .int b2] M).bind (fun z => EE 124 14 [l0, l1] (psh z.1 st) z.2) := e_cals (av := [.int b0, .int b1, .int b2]) d124_11 c3_32 (Or.inl rfl) rfl rfl r124_84 rfl hl
theorem d124_14 : decode (cod 124) 14 = .ok (.ifCond .eq 15, 3) := by decide +kernel
theorem s124_14 {M : Mm} {st : List Value} {l0 l1 : Option Value} {x : Int32} : EE 124 14 [l0, l1] (.int x :: st) M = if x = 0 then EE 124 29 [l0, l1] st M else EE 124 17 [l0, l1] st M := e_eq0 d124_14 (by decide)
theorem d124_17 : decode (cod 124) 17 = .ok (.aload_n 0, 1) := by decide +kernel
theorem s124_17 {M : Mm} {st : List Value} {l1 : Option Value} {x : Nat} : EE 124 17 [some (.ref x), l1] st M = EE 124 18 [some (.ref x), l1] (.ref x :: st) M := e_ld d124_17 rfl rfl rfl rfl rfl rfl
theorem d124_18 : decode (cod 124) 18 = .ok (.getfield 7, 3) := by decide +kernel
theorem s124_18 {n : Nat} {I : Nat → Nat → Int32} {R : Nat → Nat → Option Nat} {st : List Value} {l0 l1 : Option Value} {a : Nat} : EE 124 18 [l0, l1] (.ref a :: st) (n, I, R) = (gfI n I R 3 0 a).bind (fun z => EE 124 21 [l0, l1] (z :: st) (n, I, R)) := e_getf d124_18 f3_7 rfl rfl
theorem d124_21 : decode (cod 124) 21 = .ok (.bipush 48, 2) := by decide +kernel
theorem s124_21 {M : Mm} {st : List Value} {l0 l1 : Option Value} : EE 124 21 [l0, l1] st M = EE 124 23 [l0, l1] (.int (nI 48) :: st) M := e_bip d124_21 k_bip_48
theorem d124_23 : decode (cod 124) 23 = .ok (.iload_n 1, 1) := by decide +kernel
theorem s124_23 {M : Mm} {st : List Value} {l0 : Option Value} {x : Int32} : EE 124 23 [l0, some (.int x)] st M = EE 124 24 [l0, some (.int x)] (.int x :: st) M := e_ld d124_23 rfl rfl rfl rfl rfl rfl
theorem d124_24 : decode (cod 124) 24 = .ok (.iadd, 1) := by decide +kernel
theorem s124_24 {M : Mm} {st : List Value} {l0 l1 : Option Value} {x y : Int32} : EE 124 24 [l0, l1] (.int y :: .int x :: st) M = EE 124 25 [l0, l1] (.int (x + y) :: st) M := e_II d124_24 rfl rfl rfl rfl rfl rfl
theorem d124_25 : decode (cod 124) 25 = .ok (.iaload, 1) := by decide +kernel
theorem s124_25 {n : Nat} {I : Nat → Nat → Int32} {R : Nat → Nat → Option Nat} {st : List Value} {l0 l1 : Option Value} {j : Int32} {a : Nat} : EE 124 25 [l0, l1] (.int j :: .ref a :: st) (n, I, R) = (ardI 5 n I a j).bind (fun z => EE 124 26 [l0, l1] (.int z :: st) (n, I, R)) := e_iald d124_25
theorem d124_26 : decode (cod 124) 26 = .ok (.goto 4, 3) := by decide +kernel
theorem s124_26 {M : Mm} {st : List Value} {l0 l1 : Option Value} : EE 124 26 [l0, l1] st M = EE 124 30 [l0, l1] st M := e_goto d124_26 (by decide)
theorem d124_29 : decode (cod 124) 29 = .ok (.iconst (-1), 1) := by decide +kernel
theorem s124_29 {M : Mm} {st : List Value} {l0 l1 : Option Value} : EE 124 29 [l0, l1] st M = EE 124 30 [l0, l1] (.int ((-1)) :: st) M := e_con d124_29 k_con_m1
theorem d124_30 : decode (cod 124) 30 = .ok (.ireturn, 1) := by decide +kernel
theorem s124_30 {M : Mm} {l0 l1 : Option Value} {v : Int32} : EE 124 30 [l0, l1] [.int v] M = some (some (.int v), M) := e_iret d124_30 rfl rfl
theorem FE124 {a : Nat} {b0 : Int32} {M : Mm} : FF 124 [.ref a, .int b0] M = EE 124 0 [some (.ref a), some (.int b0)] [] M := FF_eq 124 _ _ (Nat.le_of_ble_eq_true rfl)
theorem d125_0 : decode (cod 125) 0 = .ok (.iload_n 1, 1) := by decide +kernel
theorem s125_0 {M : Mm} {st : List Value} {l0 : Option Value} {x : Int32} : EE 125 0 [l0, some (.int x)] st M = EE 125 1 [l0, some (.int x)] (.int x :: st) M := e_ld d125_0 rfl rfl rfl rfl rfl rfl
theorem d125_1 : decode (cod 125) 1 = .ok (.iconst 0, 1) := by decide +kernel
theorem s125_1 {M : Mm} {st : List Value} {l0 l1 : Option Value} : EE 125 1 [l0, l1] st M = EE 125 2 [l0, l1] (.int (nI 0) :: st) M := e_con d125_1 k_con_0
theorem d125_2 : decode (cod 125) 2 = .ok (.bipush 18, 2) := by decide +kernel
theorem s125_2 {M : Mm} {st : List Value} {l0 l1 : Option Value} : EE 125 2 [l0, l1] st M = EE 125 4 [l0, l1] (.int (nI 18) :: st) M := e_bip d125_2 k_bip_18
theorem d125_4 : decode (cod 125) 4 = .ok (.invokestatic 32, 3) := by decide +kernel
theorem s125_4 {M : Mm} {l0 l1 : Option Value} {b0 : Int32} {b1 : Int32} {b2 : Int32} {st : List Value} (hl : st.length ≤ 4) : EE 125 4 [l0, l1] (.int b2 :: .int b1 :: .int b0 :: st) M = (FF 84 [.int b0, .int b1, .int b2] M).bind (fun z => EE 125 7 [l0, l1] (psh z.1 st) z.2) := e_cals (av := [.int b0, .int b1, .int b2]) d125_4 c3_32 (Or.inl rfl) rfl rfl r125_84 rfl hl
theorem d125_7 : decode (cod 125) 7 = .ok (.ifCond .ne 6, 3) := by decide +kernel
theorem s125_7 {M : Mm} {st : List Value} {l0 l1 : Option Value} {x : Int32} : EE 125 7 [l0, l1] (.int x :: st) M = if x = 0 then EE 125 10 [l0, l1] st M else EE 125 13 [l0, l1] st M := e_ne0 d125_7 (by decide)
theorem d125_10 : decode (cod 125) 10 = .ok (.bipush (-2), 2) := by decide +kernel
theorem s125_10 {M : Mm} {st : List Value} {l0 l1 : Option Value} : EE 125 10 [l0, l1] st M = EE 125 12 [l0, l1] (.int ((-2)) :: st) M := e_bip d125_10 k_bip_m2
theorem d125_12 : decode (cod 125) 12 = .ok (.ireturn, 1) := by decide +kernel
theorem s125_12 {M : Mm} {l0 l1 : Option Value} {v : Int32} : EE 125 12 [l0, l1] [.int v] M = some (some (.int v), M) := e_iret d125_12 rfl rfl
theorem d125_13 : decode (cod 125) 13 = .ok (.iload_n 1, 1) := by decide +kernel
theorem s125_13 {M : Mm} {st : List Value} {l0 : Option Value} {x : Int32} : EE 125 13 [l0, some (.int x)] st M = EE 125 14 [l0, some (.int x)] (.int x :: st) M := e_ld d125_13 rfl rfl rfl rfl rfl rfl
theorem d125_14 : decode (cod 125) 14 = .ok (.iconst 4, 1) := by decide +kernel
theorem s125_14 {M : Mm} {st : List Value} {l0 l1 : Option Value} : EE 125 14 [l0, l1] st M = EE 125 15 [l0, l1] (.int (nI 4) :: st) M := e_con d125_14 k_con_4
theorem d125_15 : decode (cod 125) 15 = .ok (.if_icmp .ge 56, 3) := by decide +kernel
theorem s125_15 {M : Mm} {st : List Value} {l0 l1 : Option Value} {x y : Int32} : EE 125 15 [l0, l1] (.int y :: .int x :: st) M = if y ≤ x then EE 125 71 [l0, l1] st M else EE 125 18 [l0, l1] st M := e_cge d125_15 (by decide)
theorem d125_18 : decode (cod 125) 18 = .ok (.iload_n 1, 1) := by decide +kernel
theorem s125_18 {M : Mm} {st : List Value} {l0 : Option Value} {x : Int32} : EE 125 18 [l0, some (.int x)] st M = EE 125 19 [l0, some (.int x)] (.int x :: st) M := e_ld d125_18 rfl rfl rfl rfl rfl rfl
theorem d125_19 : decode (cod 125) 19 = .ok (.ifCond .ne 12, 3) := by decide +kernel
theorem s125_19 {M : Mm} {st : List Value} {l0 l1 : Option Value} {x : Int32} : EE 125 19 [l0, l1] (.int x :: st) M = if x = 0 then EE 125 22 [l0, l1] st M else EE 125 31 [l0, l1] st M := e_ne0 d125_19 (by decide)
theorem d125_22 : decode (cod 125) 22 = .ok (.aload_n 0, 1) := by decide +kernel
theorem s125_22 {M : Mm} {st : List Value} {l1 : Option Value} {x : Nat} : EE 125 22 [some (.ref x), l1] st M = EE 125 23 [some (.ref x), l1] (.ref x :: st) M := e_ld d125_22 rfl rfl rfl rfl rfl rfl
theorem d125_23 : decode (cod 125) 23 = .ok (.getfield 7, 3) := by decide +kernel
theorem s125_23 {n : Nat} {I : Nat → Nat → Int32} {R : Nat → Nat → Option Nat} {st : List Value} {l0 l1 : Option Value} {a : Nat} : EE 125 23 [l0, l1] (.ref a :: st) (n, I, R) = (gfI n I R 3 0 a).bind (fun z => EE 125 26 [l0, l1] (z :: st) (n, I, R)) := e_getf d125_23 f3_7 rfl rfl
theorem d125_26 : decode (cod 125) 26 = .ok (.iconst 0, 1) := by decide +kernel
theorem s125_26 {M : Mm} {st : List Value} {l0 l1 : Option Value} : EE 125 26 [l0, l1] st M = EE 125 27 [l0, l1] (.int (nI 0) :: st) M := e_con d125_26 k_con_0
theorem d125_27 : decode (cod 125) 27 = .ok (.iaload, 1) := by decide +kernel
theorem s125_27 {n : Nat} {I : Nat → Nat → Int32} {R : Nat → Nat → Option Nat} {st : List Value} {l0 l1 : Option Value} {j : Int32} {a : Nat} : EE 125 27 [l0, l1] (.int j :: .ref a :: st) (n, I, R) = (ardI 5 n I a j).bind (fun z => EE 125 28 [l0, l1] (.int z :: st) (n, I, R)) := e_iald d125_27
theorem d125_28 : decode (cod 125) 28 = .ok (.goto 42, 3) := by decide +kernel
theorem s125_28 {M : Mm} {st : List Value} {l0 l1 : Option Value} : EE 125 28 [l0, l1] st M = EE 125 70 [l0, l1] st M := e_goto d125_28 (by decide)
theorem d125_31 : decode (cod 125) 31 = .ok (.iload_n 1, 1) := by decide +kernel
theorem s125_31 {M : Mm} {st : List Value} {l0 : Option Value} {x : Int32} : EE 125 31 [l0, some (.int x)] st M = EE 125 32 [l0, some (.int x)] (.int x :: st) M := e_ld d125_31 rfl rfl rfl rfl rfl rfl
theorem d125_32 : decode (cod 125) 32 = .ok (.iconst 1, 1) := by decide +kernel
theorem s125_32 {M : Mm} {st : List Value} {l0 l1 : Option Value} : EE 125 32 [l0, l1] st M = EE 125 33 [l0, l1] (.int (nI 1) :: st) M := e_con d125_32 k_con_1
theorem d125_33 : decode (cod 125) 33 = .ok (.if_icmp .ne 19, 3) := by decide +kernel
theorem s125_33 {M : Mm} {st : List Value} {l0 l1 : Option Value} {x y : Int32} : EE 125 33 [l0, l1] (.int y :: .int x :: st) M = if x = y then EE 125 36 [l0, l1] st M else EE 125 52 [l0, l1] st M := e_cne d125_33 (by decide)
theorem d125_36 : decode (cod 125) 36 = .ok (.aload_n 0, 1) := by decide +kernel
theorem s125_36 {M : Mm} {st : List Value} {l1 : Option Value} {x : Nat} : EE 125 36 [some (.ref x), l1] st M = EE 125 37 [some (.ref x), l1] (.ref x :: st) M := e_ld d125_36 rfl rfl rfl rfl rfl rfl
theorem d125_37 : decode (cod 125) 37 = .ok (.getfield 7, 3) := by decide +kernel
theorem s125_37 {n : Nat} {I : Nat → Nat → Int32} {R : Nat → Nat → Option Nat} {st : List Value} {l0 l1 : Option Value} {a : Nat} : EE 125 37 [l0, l1] (.ref a :: st) (n, I, R) = (gfI n I R 3 0 a).bind (fun z => EE 125 40 [l0, l1] (z :: st) (n, I, R)) := e_getf d125_37 f3_7 rfl rfl
theorem d125_40 : decode (cod 125) 40 = .ok (.aload_n 0, 1) := by decide +kernel
theorem s125_40 {M : Mm} {st : List Value} {l1 : Option Value} {x : Nat} : EE 125 40 [some (.ref x), l1] st M = EE 125 41 [some (.ref x), l1] (.ref x :: st) M := e_ld d125_40 rfl rfl rfl rfl rfl rfl
theorem d125_41 : decode (cod 125) 41 = .ok (.getfield 7, 3) := by decide +kernel
theorem s125_41 {n : Nat} {I : Nat → Nat → Int32} {R : Nat → Nat → Option Nat} {st : List Value} {l0 l1 : Option Value} {a : Nat} : EE 125 41 [l0, l1] (.ref a :: st) (n, I, R) = (gfI n I R 3 0 a).bind (fun z => EE 125 44 [l0, l1] (z :: st) (n, I, R)) := e_getf d125_41 f3_7 rfl rfl
theorem d125_44 : decode (cod 125) 44 = .ok (.iconst 0, 1) := by decide +kernel
theorem s125_44 {M : Mm} {st : List Value} {l0 l1 : Option Value} : EE 125 44 [l0, l1] st M = EE 125 45 [l0, l1] (.int (nI 0) :: st) M := e_con d125_44 k_con_0
theorem d125_45 : decode (cod 125) 45 = .ok (.iaload, 1) := by decide +kernel
theorem s125_45 {n : Nat} {I : Nat → Nat → Int32} {R : Nat → Nat → Option Nat} {st : List Value} {l0 l1 : Option Value} {j : Int32} {a : Nat} : EE 125 45 [l0, l1] (.int j :: .ref a :: st) (n, I, R) = (ardI 5 n I a j).bind (fun z => EE 125 46 [l0, l1] (.int z :: st) (n, I, R)) := e_iald d125_45
theorem d125_46 : decode (cod 125) 46 = .ok (.invokestatic 63, 3) := by decide +kernel
theorem s125_46 {M : Mm} {l0 l1 : Option Value} {b0 : Nat} {b1 : Int32} {st : List Value} (hl : st.length ≤ 4) : EE 125 46 [l0, l1] (.int b1 :: .ref b0 :: st) M = (FF 111 [.ref b0, .int b1] M).bind (fun z => EE 125 49 [l0, l1] (psh z.1 st) z.2) := e_cals (av := [.ref b0, .int b1]) d125_46 c3_63 (Or.inl rfl) rfl rfl r125_111 rfl hl
theorem d125_49 : decode (cod 125) 49 = .ok (.goto 21, 3) := by decide +kernel
theorem s125_49 {M : Mm} {st : List Value} {l0 l1 : Option Value} : EE 125 49 [l0, l1] st M = EE 125 70 [l0, l1] st M := e_goto d125_49 (by decide)
theorem d125_52 : decode (cod 125) 52 = .ok (.iload_n 1, 1) := by decide +kernel
theorem s125_52 {M : Mm} {st : List Value} {l0 : Option Value} {x : Int32} : EE 125 52 [l0, some (.int x)] st M = EE 125 53 [l0, some (.int x)] (.int x :: st) M := e_ld d125_52 rfl rfl rfl rfl rfl rfl
theorem d125_53 : decode (cod 125) 53 = .ok (.iconst 2, 1) := by decide +kernel
theorem s125_53 {M : Mm} {st : List Value} {l0 l1 : Option Value} : EE 125 53 [l0, l1] st M = EE 125 54 [l0, l1] (.int (nI 2) :: st) M := e_con d125_53 k_con_2
theorem d125_54 : decode (cod 125) 54 = .ok (.if_icmp .ne 12, 3) := by decide +kernel
theorem s125_54 {M : Mm} {st : List Value} {l0 l1 : Option Value} {x y : Int32} : EE 125 54 [l0, l1] (.int y :: .int x :: st) M = if x = y then EE 125 57 [l0, l1] st M else EE 125 66 [l0, l1] st M := e_cne d125_54 (by decide)
theorem d125_57 : decode (cod 125) 57 = .ok (.aload_n 0, 1) := by decide +kernel
theorem s125_57 {M : Mm} {st : List Value} {l1 : Option Value} {x : Nat} : EE 125 57 [some (.ref x), l1] st M = EE 125 58 [some (.ref x), l1] (.ref x :: st) M := e_ld d125_57 rfl rfl rfl rfl rfl rfl
theorem d125_58 : decode (cod 125) 58 = .ok (.getfield 7, 3) := by decide +kernel
theorem s125_58 {n : Nat} {I : Nat → Nat → Int32} {R : Nat → Nat → Option Nat} {st : List Value} {l0 l1 : Option Value} {a : Nat} : EE 125 58 [l0, l1] (.ref a :: st) (n, I, R) = (gfI n I R 3 0 a).bind (fun z => EE 125 61 [l0, l1] (z :: st) (n, I, R)) := e_getf d125_58 f3_7 rfl rfl
theorem d125_61 : decode (cod 125) 61 = .ok (.iconst 1, 1) := by decide +kernel
theorem s125_61 {M : Mm} {st : List Value} {l0 l1 : Option Value} : EE 125 61 [l0, l1] st M = EE 125 62 [l0, l1] (.int (nI 1) :: st) M := e_con d125_61 k_con_1
theorem d125_62 : decode (cod 125) 62 = .ok (.iaload, 1) := by decide +kernel
theorem s125_62 {n : Nat} {I : Nat → Nat → Int32} {R : Nat → Nat → Option Nat} {st : List Value} {l0 l1 : Option Value} {j : Int32} {a : Nat} : EE 125 62 [l0, l1] (.int j :: .ref a :: st) (n, I, R) = (ardI 5 n I a j).bind (fun z => EE 125 63 [l0, l1] (.int z :: st) (n, I, R)) := e_iald d125_62
theorem d125_63 : decode (cod 125) 63 = .ok (.goto 7, 3) := by decide +kernel
theorem s125_63 {M : Mm} {st : List Value} {l0 l1 : Option Value} : EE 125 63 [l0, l1] st M = EE 125 70 [l0, l1] st M := e_goto d125_63 (by decide)
theorem d125_66 : decode (cod 125) 66 = .ok (.aload_n 0, 1) := by decide +kernel
theorem s125_66 {M : Mm} {st : List Value} {l1 : Option Value} {x : Nat} : EE 125 66 [some (.ref x), l1] st M = EE 125 67 [some (.ref x), l1] (.ref x :: st) M := e_ld d125_66 rfl rfl rfl rfl rfl rfl
theorem d125_67 : decode (cod 125) 67 = .ok (.invokevirtual 137, 3) := by decide +kernel
theorem s125_67 {l0 l1 : Option Value} {a : Nat} {M : Mm} {st : List Value} (hl : st.length ≤ 4) (ho : isO "HandoverDeskModel" M.1 a = true) : EE 125 67 [l0, l1] (.ref a :: st) M = (FF 126 (.ref a :: []) M).bind (fun z => EE 125 70 [l0, l1] (psh z.1 st) z.2) := e_calv (av := []) d125_67 c3_137 rfl rfl rfl r125_126 rfl hl ho
theorem d125_70 : decode (cod 125) 70 = .ok (.ireturn, 1) := by decide +kernel
theorem s125_70 {M : Mm} {l0 l1 : Option Value} {v : Int32} : EE 125 70 [l0, l1] [.int v] M = some (some (.int v), M) := e_iret d125_70 rfl rfl
theorem d125_71 : decode (cod 125) 71 = .ok (.iload_n 1, 1) := by decide +kernel
theorem s125_71 {M : Mm} {st : List Value} {l0 : Option Value} {x : Int32} : EE 125 71 [l0, some (.int x)] st M = EE 125 72 [l0, some (.int x)] (.int x :: st) M := e_ld d125_71 rfl rfl rfl rfl rfl rfl
theorem d125_72 : decode (cod 125) 72 = .ok (.bipush 11, 2) := by decide +kernel
theorem s125_72 {M : Mm} {st : List Value} {l0 l1 : Option Value} : EE 125 72 [l0, l1] st M = EE 125 74 [l0, l1] (.int (nI 11) :: st) M := e_bip d125_72 k_bip_11
theorem d125_74 : decode (cod 125) 74 = .ok (.if_icmp .ge 42, 3) := by decide +kernel
theorem s125_74 {M : Mm} {st : List Value} {l0 l1 : Option Value} {x y : Int32} : EE 125 74 [l0, l1] (.int y :: .int x :: st) M = if y ≤ x then EE 125 116 [l0, l1] st M else EE 125 77 [l0, l1] st M := e_cge d125_74 (by decide)
theorem d125_77 : decode (cod 125) 77 = .ok (.iload_n 1, 1) := by decide +kernel
theorem s125_77 {M : Mm} {st : List Value} {l0 : Option Value} {x : Int32} : EE 125 77 [l0, some (.int x)] st M = EE 125 78 [l0, some (.int x)] (.int x :: st) M := e_ld d125_77 rfl rfl rfl rfl rfl rfl
theorem d125_78 : decode (cod 125) 78 = .ok (.bipush 9, 2) := by decide +kernel
theorem s125_78 {M : Mm} {st : List Value} {l0 l1 : Option Value} : EE 125 78 [l0, l1] st M = EE 125 80 [l0, l1] (.int (nI 9) :: st) M := e_bip d125_78 k_bip_9
theorem d125_80 : decode (cod 125) 80 = .ok (.if_icmp .ge 17, 3) := by decide +kernel
theorem s125_80 {M : Mm} {st : List Value} {l0 l1 : Option Value} {x y : Int32} : EE 125 80 [l0, l1] (.int y :: .int x :: st) M = if y ≤ x then EE 125 97 [l0, l1] st M else EE 125 83 [l0, l1] st M := e_cge d125_80 (by decide)
theorem d125_83 : decode (cod 125) 83 = .ok (.aload_n 0, 1) := by decide +kernel
theorem s125_83 {M : Mm} {st : List Value} {l1 : Option Value} {x : Nat} : EE 125 83 [some (.ref x), l1] st M = EE 125 84 [some (.ref x), l1] (.ref x :: st) M := e_ld d125_83 rfl rfl rfl rfl rfl rfl
theorem d125_84 : decode (cod 125) 84 = .ok (.getfield 7, 3) := by decide +kernel
theorem s125_84 {n : Nat} {I : Nat → Nat → Int32} {R : Nat → Nat → Option Nat} {st : List Value} {l0 l1 : Option Value} {a : Nat} : EE 125 84 [l0, l1] (.ref a :: st) (n, I, R) = (gfI n I R 3 0 a).bind (fun z => EE 125 87 [l0, l1] (z :: st) (n, I, R)) := e_getf d125_84 f3_7 rfl rfl
theorem d125_87 : decode (cod 125) 87 = .ok (.bipush 8, 2) := by decide +kernel
theorem s125_87 {M : Mm} {st : List Value} {l0 l1 : Option Value} : EE 125 87 [l0, l1] st M = EE 125 89 [l0, l1] (.int (nI 8) :: st) M := e_bip d125_87 k_bip_8
theorem d125_89 : decode (cod 125) 89 = .ok (.iload_n 1, 1) := by decide +kernel
theorem s125_89 {M : Mm} {st : List Value} {l0 : Option Value} {x : Int32} : EE 125 89 [l0, some (.int x)] st M = EE 125 90 [l0, some (.int x)] (.int x :: st) M := e_ld d125_89 rfl rfl rfl rfl rfl rfl
theorem d125_90 : decode (cod 125) 90 = .ok (.iadd, 1) := by decide +kernel
theorem s125_90 {M : Mm} {st : List Value} {l0 l1 : Option Value} {x y : Int32} : EE 125 90 [l0, l1] (.int y :: .int x :: st) M = EE 125 91 [l0, l1] (.int (x + y) :: st) M := e_II d125_90 rfl rfl rfl rfl rfl rfl
theorem d125_91 : decode (cod 125) 91 = .ok (.iconst 4, 1) := by decide +kernel
theorem s125_91 {M : Mm} {st : List Value} {l0 l1 : Option Value} : EE 125 91 [l0, l1] st M = EE 125 92 [l0, l1] (.int (nI 4) :: st) M := e_con d125_91 k_con_4
theorem d125_92 : decode (cod 125) 92 = .ok (.isub, 1) := by decide +kernel
theorem s125_92 {M : Mm} {st : List Value} {l0 l1 : Option Value} {x y : Int32} : EE 125 92 [l0, l1] (.int y :: .int x :: st) M = EE 125 93 [l0, l1] (.int (x - y) :: st) M := e_II d125_92 rfl rfl rfl rfl rfl rfl
theorem d125_93 : decode (cod 125) 93 = .ok (.iaload, 1) := by decide +kernel
theorem s125_93 {n : Nat} {I : Nat → Nat → Int32} {R : Nat → Nat → Option Nat} {st : List Value} {l0 l1 : Option Value} {j : Int32} {a : Nat} : EE 125 93 [l0, l1] (.int j :: .ref a :: st) (n, I, R) = (ardI 5 n I a j).bind (fun z => EE 125 94 [l0, l1] (.int z :: st) (n, I, R)) := e_iald d125_93
theorem d125_94 : decode (cod 125) 94 = .ok (.goto 21, 3) := by decide +kernel
theorem s125_94 {M : Mm} {st : List Value} {l0 l1 : Option Value} : EE 125 94 [l0, l1] st M = EE 125 115 [l0, l1] st M := e_goto d125_94 (by decide)
theorem d125_97 : decode (cod 125) 97 = .ok (.aload_n 0, 1) := by decide +kernel
theorem s125_97 {M : Mm} {st : List Value} {l1 : Option Value} {x : Nat} : EE 125 97 [some (.ref x), l1] st M = EE 125 98 [some (.ref x), l1] (.ref x :: st) M := e_ld d125_97 rfl rfl rfl rfl rfl rfl
theorem d125_98 : decode (cod 125) 98 = .ok (.getfield 7, 3) := by decide +kernel
theorem s125_98 {n : Nat} {I : Nat → Nat → Int32} {R : Nat → Nat → Option Nat} {st : List Value} {l0 l1 : Option Value} {a : Nat} : EE 125 98 [l0, l1] (.ref a :: st) (n, I, R) = (gfI n I R 3 0 a).bind (fun z => EE 125 101 [l0, l1] (z :: st) (n, I, R)) := e_getf d125_98 f3_7 rfl rfl
theorem d125_101 : decode (cod 125) 101 = .ok (.iload_n 1, 1) := by decide +kernel
theorem s125_101 {M : Mm} {st : List Value} {l0 : Option Value} {x : Int32} : EE 125 101 [l0, some (.int x)] st M = EE 125 102 [l0, some (.int x)] (.int x :: st) M := e_ld d125_101 rfl rfl rfl rfl rfl rfl
theorem d125_102 : decode (cod 125) 102 = .ok (.bipush 9, 2) := by decide +kernel
theorem s125_102 {M : Mm} {st : List Value} {l0 l1 : Option Value} : EE 125 102 [l0, l1] st M = EE 125 104 [l0, l1] (.int (nI 9) :: st) M := e_bip d125_102 k_bip_9
theorem d125_104 : decode (cod 125) 104 = .ok (.if_icmp .ne 7, 3) := by decide +kernel
theorem s125_104 {M : Mm} {st : List Value} {l0 l1 : Option Value} {x y : Int32} : EE 125 104 [l0, l1] (.int y :: .int x :: st) M = if x = y then EE 125 107 [l0, l1] st M else EE 125 111 [l0, l1] st M := e_cne d125_104 (by decide)
theorem d125_107 : decode (cod 125) 107 = .ok (.iconst 2, 1) := by decide +kernel
theorem s125_107 {M : Mm} {st : List Value} {l0 l1 : Option Value} : EE 125 107 [l0, l1] st M = EE 125 108 [l0, l1] (.int (nI 2) :: st) M := e_con d125_107 k_con_2
theorem d125_108 : decode (cod 125) 108 = .ok (.goto 4, 3) := by decide +kernel
theorem s125_108 {M : Mm} {st : List Value} {l0 l1 : Option Value} : EE 125 108 [l0, l1] st M = EE 125 112 [l0, l1] st M := e_goto d125_108 (by decide)
theorem d125_111 : decode (cod 125) 111 = .ok (.iconst 1, 1) := by decide +kernel
theorem s125_111 {M : Mm} {st : List Value} {l0 l1 : Option Value} : EE 125 111 [l0, l1] st M = EE 125 112 [l0, l1] (.int (nI 1) :: st) M := e_con d125_111 k_con_1
theorem d125_112 : decode (cod 125) 112 = .ok (.invokestatic 141, 3) := by decide +kernel
theorem s125_112 {M : Mm} {l0 l1 : Option Value} {b0 : Nat} {b1 : Int32} {st : List Value} (hl : st.length ≤ 4) : EE 125 112 [l0, l1] (.int b1 :: .ref b0 :: st) M = (FF 127 [.ref b0, .int b1] M).bind (fun z => EE 125 115 [l0, l1] (psh z.1 st) z.2) := e_cals (av := [.ref b0, .int b1]) d125_112 c3_141 (Or.inl rfl) rfl rfl r125_127 rfl hl
theorem d125_115 : decode (cod 125) 115 = .ok (.ireturn, 1) := by decide +kernel
theorem s125_115 {M : Mm} {l0 l1 : Option Value} {v : Int32} : EE 125 115 [l0, l1] [.int v] M = some (some (.int v), M) := e_iret d125_115 rfl rfl
theorem d125_116 : decode (cod 125) 116 = .ok (.iload_n 1, 1) := by decide +kernel
theorem s125_116 {M : Mm} {st : List Value} {l0 : Option Value} {x : Int32} : EE 125 116 [l0, some (.int x)] st M = EE 125 117 [l0, some (.int x)] (.int x :: st) M := e_ld d125_116 rfl rfl rfl rfl rfl rfl
theorem d125_117 : decode (cod 125) 117 = .ok (.bipush 17, 2) := by decide +kernel
theorem s125_117 {M : Mm} {st : List Value} {l0 l1 : Option Value} : EE 125 117 [l0, l1] st M = EE 125 119 [l0, l1] (.int (nI 17) :: st) M := e_bip d125_117 k_bip_17
theorem d125_119 : decode (cod 125) 119 = .ok (.if_icmp .ge 17, 3) := by decide +kernel
theorem s125_119 {M : Mm} {st : List Value} {l0 l1 : Option Value} {x y : Int32} : EE 125 119 [l0, l1] (.int y :: .int x :: st) M = if y ≤ x then EE 125 136 [l0, l1] st M else EE 125 122 [l0, l1] st M := e_cge d125_119 (by decide)
theorem d125_122 : decode (cod 125) 122 = .ok (.aload_n 0, 1) := by decide +kernel
theorem s125_122 {M : Mm} {st : List Value} {l1 : Option Value} {x : Nat} : EE 125 122 [some (.ref x), l1] st M = EE 125 123 [some (.ref x), l1] (.ref x :: st) M := e_ld d125_122 rfl rfl rfl rfl rfl rfl
theorem d125_123 : decode (cod 125) 123 = .ok (.getfield 7, 3) := by decide +kernel
theorem s125_123 {n : Nat} {I : Nat → Nat → Int32} {R : Nat → Nat → Option Nat} {st : List Value} {l0 l1 : Option Value} {a : Nat} : EE 125 123 [l0, l1] (.ref a :: st) (n, I, R) = (gfI n I R 3 0 a).bind (fun z => EE 125 126 [l0, l1] (z :: st) (n, I, R)) := e_getf d125_123 f3_7 rfl rfl
theorem d125_126 : decode (cod 125) 126 = .ok (.iconst 2, 1) := by decide +kernel
theorem s125_126 {M : Mm} {st : List Value} {l0 l1 : Option Value} : EE 125 126 [l0, l1] st M = EE 125 127 [l0, l1] (.int (nI 2) :: st) M := e_con d125_126 k_con_2
theorem d125_127 : decode (cod 125) 127 = .ok (.iload_n 1, 1) := by decide +kernel
theorem s125_127 {M : Mm} {st : List Value} {l0 : Option Value} {x : Int32} : EE 125 127 [l0, some (.int x)] st M = EE 125 128 [l0, some (.int x)] (.int x :: st) M := e_ld d125_127 rfl rfl rfl rfl rfl rfl
theorem d125_128 : decode (cod 125) 128 = .ok (.iadd, 1) := by decide +kernel
theorem s125_128 {M : Mm} {st : List Value} {l0 l1 : Option Value} {x y : Int32} : EE 125 128 [l0, l1] (.int y :: .int x :: st) M = EE 125 129 [l0, l1] (.int (x + y) :: st) M := e_II d125_128 rfl rfl rfl rfl rfl rfl
theorem d125_129 : decode (cod 125) 129 = .ok (.bipush 11, 2) := by decide +kernel
theorem s125_129 {M : Mm} {st : List Value} {l0 l1 : Option Value} : EE 125 129 [l0, l1] st M = EE 125 131 [l0, l1] (.int (nI 11) :: st) M := e_bip d125_129 k_bip_11
theorem d125_131 : decode (cod 125) 131 = .ok (.isub, 1) := by decide +kernel
theorem s125_131 {M : Mm} {st : List Value} {l0 l1 : Option Value} {x y : Int32} : EE 125 131 [l0, l1] (.int y :: .int x :: st) M = EE 125 132 [l0, l1] (.int (x - y) :: st) M := e_II d125_131 rfl rfl rfl rfl rfl rfl
theorem d125_132 : decode (cod 125) 132 = .ok (.iaload, 1) := by decide +kernel
theorem s125_132 {n : Nat} {I : Nat → Nat → Int32} {R : Nat → Nat → Option Nat} {st : List Value} {l0 l1 : Option Value} {j : Int32} {a : Nat} : EE 125 132 [l0, l1] (.int j :: .ref a :: st) (n, I, R) = (ardI 5 n I a j).bind (fun z => EE 125 133 [l0, l1] (.int z :: st) (n, I, R)) := e_iald d125_132
theorem d125_133 : decode (cod 125) 133 = .ok (.goto 20, 3) := by decide +kernel
theorem s125_133 {M : Mm} {st : List Value} {l0 l1 : Option Value} : EE 125 133 [l0, l1] st M = EE 125 153 [l0, l1] st M := e_goto d125_133 (by decide)
theorem d125_136 : decode (cod 125) 136 = .ok (.iload_n 1, 1) := by decide +kernel
theorem s125_136 {M : Mm} {st : List Value} {l0 : Option Value} {x : Int32} : EE 125 136 [l0, some (.int x)] st M = EE 125 137 [l0, some (.int x)] (.int x :: st) M := e_ld d125_136 rfl rfl rfl rfl rfl rfl
theorem d125_137 : decode (cod 125) 137 = .ok (.bipush 17, 2) := by decide +kernel
theorem s125_137 {M : Mm} {st : List Value} {l0 l1 : Option Value} : EE 125 137 [l0, l1] st M = EE 125 139 [l0, l1] (.int (nI 17) :: st) M := e_bip d125_137 k_bip_17
theorem d125_139 : decode (cod 125) 139 = .ok (.if_icmp .ne 10, 3) := by decide +kernel
theorem s125_139 {M : Mm} {st : List Value} {l0 l1 : Option Value} {x y : Int32} : EE 125 139 [l0, l1] (.int y :: .int x :: st) M = if x = y then EE 125 142 [l0, l1] st M else EE 125 149 [l0, l1] st M := e_cne d125_139 (by decide)
theorem d125_142 : decode (cod 125) 142 = .ok (.aload_n 0, 1) := by decide +kernel
theorem s125_142 {M : Mm} {st : List Value} {l1 : Option Value} {x : Nat} : EE 125 142 [some (.ref x), l1] st M = EE 125 143 [some (.ref x), l1] (.ref x :: st) M := e_ld d125_142 rfl rfl rfl rfl rfl rfl
theorem d125_143 : decode (cod 125) 143 = .ok (.getfield 144, 3) := by decide +kernel
theorem s125_143 {n : Nat} {I : Nat → Nat → Int32} {R : Nat → Nat → Option Nat} {st : List Value} {l0 l1 : Option Value} {a : Nat} : EE 125 143 [l0, l1] (.ref a :: st) (n, I, R) = (gfI n I R 3 7 a).bind (fun z => EE 125 146 [l0, l1] (z :: st) (n, I, R)) := e_getf d125_143 f3_144 rfl rfl
theorem d125_146 : decode (cod 125) 146 = .ok (.goto 7, 3) := by decide +kernel
theorem s125_146 {M : Mm} {st : List Value} {l0 l1 : Option Value} : EE 125 146 [l0, l1] st M = EE 125 153 [l0, l1] st M := e_goto d125_146 (by decide)
theorem d125_149 : decode (cod 125) 149 = .ok (.aload_n 0, 1) := by decide +kernel
theorem s125_149 {M : Mm} {st : List Value} {l1 : Option Value} {x : Nat} : EE 125 149 [some (.ref x), l1] st M = EE 125 150 [some (.ref x), l1] (.ref x :: st) M := e_ld d125_149 rfl rfl rfl rfl rfl rfl
theorem d125_150 : decode (cod 125) 150 = .ok (.getfield 36, 3) := by decide +kernel
theorem s125_150 {n : Nat} {I : Nat → Nat → Int32} {R : Nat → Nat → Option Nat} {st : List Value} {l0 l1 : Option Value} {a : Nat} : EE 125 150 [l0, l1] (.ref a :: st) (n, I, R) = (gfI n I R 3 3 a).bind (fun z => EE 125 153 [l0, l1] (z :: st) (n, I, R)) := e_getf d125_150 f3_36 rfl rfl
theorem d125_153 : decode (cod 125) 153 = .ok (.ireturn, 1) := by decide +kernel
theorem s125_153 {M : Mm} {l0 l1 : Option Value} {v : Int32} : EE 125 153 [l0, l1] [.int v] M = some (some (.int v), M) := e_iret d125_153 rfl rfl
theorem FE125 {a : Nat} {b0 : Int32} {M : Mm} : FF 125 [.ref a, .int b0] M = EE 125 0 [some (.ref a), some (.int b0)] [] M := FF_eq 125 _ _ (Nat.le_of_ble_eq_true rfl)
theorem d126_0 : decode (cod 126) 0 = .ok (.iconst 0, 1) := by decide +kernel
theorem s126_0 {M : Mm} {st : List Value} {l0 l1 l2 : Option Value} : EE 126 0 [l0, l1, l2] st M = EE 126 1 [l0, l1, l2] (.int (nI 0) :: st) M := e_con d126_0 k_con_0
theorem d126_1 : decode (cod 126) 1 = .ok (.istore_n 1, 1) := by decide +kernel
theorem s126_1 {M : Mm} {st : List Value} {l0 l1 l2 : Option Value} {x : Int32} : EE 126 1 [l0, l1, l2] (.int x :: st) M = EE 126 2 [cln l0, some (.int x), l2] st M := e_st1 d126_1 rfl rfl rfl rfl rfl rfl rfl (Nat.le_of_ble_eq_true rfl) rfl
theorem d126_2 : decode (cod 126) 2 = .ok (.iconst 0, 1) := by decide +kernel
theorem s126_2 {M : Mm} {st : List Value} {l0 l1 l2 : Option Value} : EE 126 2 [l0, l1, l2] st M = EE 126 3 [l0, l1, l2] (.int (nI 0) :: st) M := e_con d126_2 k_con_0
theorem d126_3 : decode (cod 126) 3 = .ok (.istore_n 2, 1) := by decide +kernel
theorem s126_3 {M : Mm} {st : List Value} {l0 l1 l2 : Option Value} {x : Int32} : EE 126 3 [l0, l1, l2] (.int x :: st) M = EE 126 4 [l0, cln l1, some (.int x)] st M := e_st1 d126_3 rfl rfl rfl rfl rfl rfl rfl (Nat.le_of_ble_eq_true rfl) rfl
theorem d126_4 : decode (cod 126) 4 = .ok (.iload_n 2, 1) := by decide +kernel
theorem s126_4 {M : Mm} {st : List Value} {l0 l1 : Option Value} {x : Int32} : EE 126 4 [l0, l1, some (.int x)] st M = EE 126 5 [l0, l1, some (.int x)] (.int x :: st) M := e_ld d126_4 rfl rfl rfl rfl rfl rfl
theorem d126_5 : decode (cod 126) 5 = .ok (.aload_n 0, 1) := by decide +kernel
theorem s126_5 {M : Mm} {st : List Value} {l1 l2 : Option Value} {x : Nat} : EE 126 5 [some (.ref x), l1, l2] st M = EE 126 6 [some (.ref x), l1, l2] (.ref x :: st) M := e_ld d126_5 rfl rfl rfl rfl rfl rfl
theorem d126_6 : decode (cod 126) 6 = .ok (.getfield 7, 3) := by decide +kernel
theorem s126_6 {n : Nat} {I : Nat → Nat → Int32} {R : Nat → Nat → Option Nat} {st : List Value} {l0 l1 l2 : Option Value} {a : Nat} : EE 126 6 [l0, l1, l2] (.ref a :: st) (n, I, R) = (gfI n I R 3 0 a).bind (fun z => EE 126 9 [l0, l1, l2] (z :: st) (n, I, R)) := e_getf d126_6 f3_7 rfl rfl
theorem d126_9 : decode (cod 126) 9 = .ok (.iconst 1, 1) := by decide +kernel
theorem s126_9 {M : Mm} {st : List Value} {l0 l1 l2 : Option Value} : EE 126 9 [l0, l1, l2] st M = EE 126 10 [l0, l1, l2] (.int (nI 1) :: st) M := e_con d126_9 k_con_1
theorem d126_10 : decode (cod 126) 10 = .ok (.iaload, 1) := by decide +kernel
theorem s126_10 {n : Nat} {I : Nat → Nat → Int32} {R : Nat → Nat → Option Nat} {st : List Value} {l0 l1 l2 : Option Value} {j : Int32} {a : Nat} : EE 126 10 [l0, l1, l2] (.int j :: .ref a :: st) (n, I, R) = (ardI 5 n I a j).bind (fun z => EE 126 11 [l0, l1, l2] (.int z :: st) (n, I, R)) := e_iald d126_10
theorem d126_11 : decode (cod 126) 11 = .ok (.if_icmp .ge 21, 3) := by decide +kernel
theorem s126_11 {M : Mm} {st : List Value} {l0 l1 l2 : Option Value} {x y : Int32} : EE 126 11 [l0, l1, l2] (.int y :: .int x :: st) M = if y ≤ x then EE 126 32 [l0, l1, l2] st M else EE 126 14 [l0, l1, l2] st M := e_cge d126_11 (by decide)
theorem d126_14 : decode (cod 126) 14 = .ok (.iload_n 1, 1) := by decide +kernel
theorem s126_14 {M : Mm} {st : List Value} {l0 l2 : Option Value} {x : Int32} : EE 126 14 [l0, some (.int x), l2] st M = EE 126 15 [l0, some (.int x), l2] (.int x :: st) M := e_ld d126_14 rfl rfl rfl rfl rfl rfl
theorem d126_15 : decode (cod 126) 15 = .ok (.aload_n 0, 1) := by decide +kernel
theorem s126_15 {M : Mm} {st : List Value} {l1 l2 : Option Value} {x : Nat} : EE 126 15 [some (.ref x), l1, l2] st M = EE 126 16 [some (.ref x), l1, l2] (.ref x :: st) M := e_ld d126_15 rfl rfl rfl rfl rfl rfl
theorem d126_16 : decode (cod 126) 16 = .ok (.getfield 7, 3) := by decide +kernel
theorem s126_16 {n : Nat} {I : Nat → Nat → Int32} {R : Nat → Nat → Option Nat} {st : List Value} {l0 l1 l2 : Option Value} {a : Nat} : EE 126 16 [l0, l1, l2] (.ref a :: st) (n, I, R) = (gfI n I R 3 0 a).bind (fun z => EE 126 19 [l0, l1, l2] (z :: st) (n, I, R)) := e_getf d126_16 f3_7 rfl rfl
theorem d126_19 : decode (cod 126) 19 = .ok (.bipush 38, 2) := by decide +kernel
theorem s126_19 {M : Mm} {st : List Value} {l0 l1 l2 : Option Value} : EE 126 19 [l0, l1, l2] st M = EE 126 21 [l0, l1, l2] (.int (nI 38) :: st) M := e_bip d126_19 k_bip_38
theorem d126_21 : decode (cod 126) 21 = .ok (.iload_n 2, 1) := by decide +kernel
theorem s126_21 {M : Mm} {st : List Value} {l0 l1 : Option Value} {x : Int32} : EE 126 21 [l0, l1, some (.int x)] st M = EE 126 22 [l0, l1, some (.int x)] (.int x :: st) M := e_ld d126_21 rfl rfl rfl rfl rfl rfl
theorem d126_22 : decode (cod 126) 22 = .ok (.iadd, 1) := by decide +kernel
theorem s126_22 {M : Mm} {st : List Value} {l0 l1 l2 : Option Value} {x y : Int32} : EE 126 22 [l0, l1, l2] (.int y :: .int x :: st) M = EE 126 23 [l0, l1, l2] (.int (x + y) :: st) M := e_II d126_22 rfl rfl rfl rfl rfl rfl
theorem d126_23 : decode (cod 126) 23 = .ok (.iaload, 1) := by decide +kernel
theorem s126_23 {n : Nat} {I : Nat → Nat → Int32} {R : Nat → Nat → Option Nat} {st : List Value} {l0 l1 l2 : Option Value} {j : Int32} {a : Nat} : EE 126 23 [l0, l1, l2] (.int j :: .ref a :: st) (n, I, R) = (ardI 5 n I a j).bind (fun z => EE 126 24 [l0, l1, l2] (.int z :: st) (n, I, R)) := e_iald d126_23
theorem d126_24 : decode (cod 126) 24 = .ok (.iadd, 1) := by decide +kernel
theorem s126_24 {M : Mm} {st : List Value} {l0 l1 l2 : Option Value} {x y : Int32} : EE 126 24 [l0, l1, l2] (.int y :: .int x :: st) M = EE 126 25 [l0, l1, l2] (.int (x + y) :: st) M := e_II d126_24 rfl rfl rfl rfl rfl rfl
theorem d126_25 : decode (cod 126) 25 = .ok (.istore_n 1, 1) := by decide +kernel
theorem s126_25 {M : Mm} {st : List Value} {l0 l1 l2 : Option Value} {x : Int32} : EE 126 25 [l0, l1, l2] (.int x :: st) M = EE 126 26 [cln l0, some (.int x), l2] st M := e_st1 d126_25 rfl rfl rfl rfl rfl rfl rfl (Nat.le_of_ble_eq_true rfl) rfl
theorem d126_26 : decode (cod 126) 26 = .ok (.iinc 2 1, 3) := by decide +kernel
theorem s126_26 {M : Mm} {st : List Value} {l0 l1 : Option Value} {x : Int32} : EE 126 26 [l0, l1, some (.int x)] st M = EE 126 29 [l0, cln l1, some (.int (x + nI 1))] st M := e_iinc d126_26 rfl (congrArg (fun z => x + z) k_inc_1) rfl
theorem d126_29 : decode (cod 126) 29 = .ok (.goto (-25), 3) := by decide +kernel
theorem s126_29 {M : Mm} {st : List Value} {l0 l1 l2 : Option Value} : EE 126 29 [l0, l1, l2] st M = EE 126 4 [l0, l1, l2] st M := e_goto d126_29 (by decide)
theorem d126_32 : decode (cod 126) 32 = .ok (.iload_n 1, 1) := by decide +kernel
theorem s126_32 {M : Mm} {st : List Value} {l0 l2 : Option Value} {x : Int32} : EE 126 32 [l0, some (.int x), l2] st M = EE 126 33 [l0, some (.int x), l2] (.int x :: st) M := e_ld d126_32 rfl rfl rfl rfl rfl rfl
theorem d126_33 : decode (cod 126) 33 = .ok (.ireturn, 1) := by decide +kernel
theorem s126_33 {M : Mm} {l0 l1 l2 : Option Value} {v : Int32} : EE 126 33 [l0, l1, l2] [.int v] M = some (some (.int v), M) := e_iret d126_33 rfl rfl
theorem FE126 {a : Nat} {M : Mm} : FF 126 [.ref a] M = EE 126 0 [some (.ref a), none, none] [] M := FF_eq 126 _ _ (Nat.le_of_ble_eq_true rfl)
theorem d127_0 : decode (cod 127) 0 = .ok (.iconst 0, 1) := by decide +kernel
theorem s127_0 {M : Mm} {st : List Value} {l0 l1 l2 l3 : Option Value} : EE 127 0 [l0, l1, l2, l3] st M = EE 127 1 [l0, l1, l2, l3] (.int (nI 0) :: st) M := e_con d127_0 k_con_0
theorem d127_1 : decode (cod 127) 1 = .ok (.istore_n 2, 1) := by decide +kernel
theorem s127_1 {M : Mm} {st : List Value} {l0 l1 l2 l3 : Option Value} {x : Int32} : EE 127 1 [l0, l1, l2, l3] (.int x :: st) M = EE 127 2 [l0, cln l1, some (.int x), l3] st M := e_st1 d127_1 rfl rfl rfl rfl rfl rfl rfl (Nat.le_of_ble_eq_true rfl) rfl
theorem d127_2 : decode (cod 127) 2 = .ok (.iconst 0, 1) := by decide +kernel
theorem s127_2 {M : Mm} {st : List Value} {l0 l1 l2 l3 : Option Value} : EE 127 2 [l0, l1, l2, l3] st M = EE 127 3 [l0, l1, l2, l3] (.int (nI 0) :: st) M := e_con d127_2 k_con_0
theorem d127_3 : decode (cod 127) 3 = .ok (.istore_n 3, 1) := by decide +kernel
theorem s127_3 {M : Mm} {st : List Value} {l0 l1 l2 l3 : Option Value} {x : Int32} : EE 127 3 [l0, l1, l2, l3] (.int x :: st) M = EE 127 4 [l0, l1, cln l2, some (.int x)] st M := e_st1 d127_3 rfl rfl rfl rfl rfl rfl rfl (Nat.le_of_ble_eq_true rfl) rfl
theorem d127_4 : decode (cod 127) 4 = .ok (.iload_n 3, 1) := by decide +kernel
theorem s127_4 {M : Mm} {st : List Value} {l0 l1 l2 : Option Value} {x : Int32} : EE 127 4 [l0, l1, l2, some (.int x)] st M = EE 127 5 [l0, l1, l2, some (.int x)] (.int x :: st) M := e_ld d127_4 rfl rfl rfl rfl rfl rfl
theorem d127_5 : decode (cod 127) 5 = .ok (.aload_n 0, 1) := by decide +kernel
theorem s127_5 {M : Mm} {st : List Value} {l1 l2 l3 : Option Value} {x : Nat} : EE 127 5 [some (.ref x), l1, l2, l3] st M = EE 127 6 [some (.ref x), l1, l2, l3] (.ref x :: st) M := e_ld d127_5 rfl rfl rfl rfl rfl rfl
theorem d127_6 : decode (cod 127) 6 = .ok (.iconst 1, 1) := by decide +kernel
theorem s127_6 {M : Mm} {st : List Value} {l0 l1 l2 l3 : Option Value} : EE 127 6 [l0, l1, l2, l3] st M = EE 127 7 [l0, l1, l2, l3] (.int (nI 1) :: st) M := e_con d127_6 k_con_1
theorem d127_7 : decode (cod 127) 7 = .ok (.iaload, 1) := by decide +kernel
theorem s127_7 {n : Nat} {I : Nat → Nat → Int32} {R : Nat → Nat → Option Nat} {st : List Value} {l0 l1 l2 l3 : Option Value} {j : Int32} {a : Nat} : EE 127 7 [l0, l1, l2, l3] (.int j :: .ref a :: st) (n, I, R) = (ardI 5 n I a j).bind (fun z => EE 127 8 [l0, l1, l2, l3] (.int z :: st) (n, I, R)) := e_iald d127_7
theorem d127_8 : decode (cod 127) 8 = .ok (.if_icmp .ge 28, 3) := by decide +kernel
theorem s127_8 {M : Mm} {st : List Value} {l0 l1 l2 l3 : Option Value} {x y : Int32} : EE 127 8 [l0, l1, l2, l3] (.int y :: .int x :: st) M = if y ≤ x then EE 127 36 [l0, l1, l2, l3] st M else EE 127 11 [l0, l1, l2, l3] st M := e_cge d127_8 (by decide)
theorem d127_11 : decode (cod 127) 11 = .ok (.iload_n 2, 1) := by decide +kernel
theorem s127_11 {M : Mm} {st : List Value} {l0 l1 l3 : Option Value} {x : Int32} : EE 127 11 [l0, l1, some (.int x), l3] st M = EE 127 12 [l0, l1, some (.int x), l3] (.int x :: st) M := e_ld d127_11 rfl rfl rfl rfl rfl rfl
theorem d127_12 : decode (cod 127) 12 = .ok (.aload_n 0, 1) := by decide +kernel
theorem s127_12 {M : Mm} {st : List Value} {l1 l2 l3 : Option Value} {x : Nat} : EE 127 12 [some (.ref x), l1, l2, l3] st M = EE 127 13 [some (.ref x), l1, l2, l3] (.ref x :: st) M := e_ld d127_12 rfl rfl rfl rfl rfl rfl
theorem d127_13 : decode (cod 127) 13 = .ok (.iload_n 3, 1) := by decide +kernel
theorem s127_13 {M : Mm} {st : List Value} {l0 l1 l2 : Option Value} {x : Int32} : EE 127 13 [l0, l1, l2, some (.int x)] st M = EE 127 14 [l0, l1, l2, some (.int x)] (.int x :: st) M := e_ld d127_13 rfl rfl rfl rfl rfl rfl
theorem d127_14 : decode (cod 127) 14 = .ok (.invokestatic 78, 3) := by decide +kernel
theorem s127_14 {M : Mm} {l0 l1 l2 l3 : Option Value} {b0 : Nat} {b1 : Int32} {st : List Value} (hl : st.length ≤ 4) : EE 127 14 [l0, l1, l2, l3] (.int b1 :: .ref b0 :: st) M = (FF 123 [.ref b0, .int b1] M).bind (fun z => EE 127 17 [l0, l1, l2, l3] (psh z.1 st) z.2) := e_cals (av := [.ref b0, .int b1]) d127_14 c3_78 (Or.inl rfl) rfl rfl r127_123 rfl hl
theorem d127_17 : decode (cod 127) 17 = .ok (.iload_n 1, 1) := by decide +kernel
theorem s127_17 {M : Mm} {st : List Value} {l0 l2 l3 : Option Value} {x : Int32} : EE 127 17 [l0, some (.int x), l2, l3] st M = EE 127 18 [l0, some (.int x), l2, l3] (.int x :: st) M := e_ld d127_17 rfl rfl rfl rfl rfl rfl
theorem d127_18 : decode (cod 127) 18 = .ok (.if_icmp .ne 9, 3) := by decide +kernel
theorem s127_18 {M : Mm} {st : List Value} {l0 l1 l2 l3 : Option Value} {x y : Int32} : EE 127 18 [l0, l1, l2, l3] (.int y :: .int x :: st) M = if x = y then EE 127 21 [l0, l1, l2, l3] st M else EE 127 27 [l0, l1, l2, l3] st M := e_cne d127_18 (by decide)
theorem d127_21 : decode (cod 127) 21 = .ok (.iconst 1, 1) := by decide +kernel
theorem s127_21 {M : Mm} {st : List Value} {l0 l1 l2 l3 : Option Value} : EE 127 21 [l0, l1, l2, l3] st M = EE 127 22 [l0, l1, l2, l3] (.int (nI 1) :: st) M := e_con d127_21 k_con_1
theorem d127_22 : decode (cod 127) 22 = .ok (.iload_n 3, 1) := by decide +kernel
theorem s127_22 {M : Mm} {st : List Value} {l0 l1 l2 : Option Value} {x : Int32} : EE 127 22 [l0, l1, l2, some (.int x)] st M = EE 127 23 [l0, l1, l2, some (.int x)] (.int x :: st) M := e_ld d127_22 rfl rfl rfl rfl rfl rfl
theorem d127_23 : decode (cod 127) 23 = .ok (.ishl, 1) := by decide +kernel
theorem s127_23 {M : Mm} {st : List Value} {l0 l1 l2 l3 : Option Value} {x y : Int32} : EE 127 23 [l0, l1, l2, l3] (.int y :: .int x :: st) M = EE 127 24 [l0, l1, l2, l3] (.int (x <<< (y &&& 31)) :: st) M := e_II d127_23 rfl rfl rfl rfl rfl rfl
theorem d127_24 : decode (cod 127) 24 = .ok (.goto 4, 3) := by decide +kernel
theorem s127_24 {M : Mm} {st : List Value} {l0 l1 l2 l3 : Option Value} : EE 127 24 [l0, l1, l2, l3] st M = EE 127 28 [l0, l1, l2, l3] st M := e_goto d127_24 (by decide)
theorem d127_27 : decode (cod 127) 27 = .ok (.iconst 0, 1) := by decide +kernel
theorem s127_27 {M : Mm} {st : List Value} {l0 l1 l2 l3 : Option Value} : EE 127 27 [l0, l1, l2, l3] st M = EE 127 28 [l0, l1, l2, l3] (.int (nI 0) :: st) M := e_con d127_27 k_con_0
theorem d127_28 : decode (cod 127) 28 = .ok (.ior, 1) := by decide +kernel
theorem s127_28 {M : Mm} {st : List Value} {l0 l1 l2 l3 : Option Value} {x y : Int32} : EE 127 28 [l0, l1, l2, l3] (.int y :: .int x :: st) M = EE 127 29 [l0, l1, l2, l3] (.int (x ||| y) :: st) M := e_II d127_28 rfl rfl rfl rfl rfl rfl
theorem d127_29 : decode (cod 127) 29 = .ok (.istore_n 2, 1) := by decide +kernel
theorem s127_29 {M : Mm} {st : List Value} {l0 l1 l2 l3 : Option Value} {x : Int32} : EE 127 29 [l0, l1, l2, l3] (.int x :: st) M = EE 127 30 [l0, cln l1, some (.int x), l3] st M := e_st1 d127_29 rfl rfl rfl rfl rfl rfl rfl (Nat.le_of_ble_eq_true rfl) rfl
theorem d127_30 : decode (cod 127) 30 = .ok (.iinc 3 1, 3) := by decide +kernel
theorem s127_30 {M : Mm} {st : List Value} {l0 l1 l2 : Option Value} {x : Int32} : EE 127 30 [l0, l1, l2, some (.int x)] st M = EE 127 33 [l0, l1, cln l2, some (.int (x + nI 1))] st M := e_iinc d127_30 rfl (congrArg (fun z => x + z) k_inc_1) rfl
theorem d127_33 : decode (cod 127) 33 = .ok (.goto (-29), 3) := by decide +kernel
theorem s127_33 {M : Mm} {st : List Value} {l0 l1 l2 l3 : Option Value} : EE 127 33 [l0, l1, l2, l3] st M = EE 127 4 [l0, l1, l2, l3] st M := e_goto d127_33 (by decide)
theorem d127_36 : decode (cod 127) 36 = .ok (.iload_n 2, 1) := by decide +kernel
theorem s127_36 {M : Mm} {st : List Value} {l0 l1 l3 : Option Value} {x : Int32} : EE 127 36 [l0, l1, some (.int x), l3] st M = EE 127 37 [l0, l1, some (.int x), l3] (.int x :: st) M := e_ld d127_36 rfl rfl rfl rfl rfl rfl
theorem d127_37 : decode (cod 127) 37 = .ok (.ireturn, 1) := by decide +kernel
theorem s127_37 {M : Mm} {l0 l1 l2 l3 : Option Value} {v : Int32} : EE 127 37 [l0, l1, l2, l3] [.int v] M = some (some (.int v), M) := e_iret d127_37 rfl rfl
theorem FE127 {b0 : Nat} {b1 : Int32} {M : Mm} : FF 127 [.ref b0, .int b1] M = EE 127 0 [some (.ref b0), some (.int b1), none, none] [] M := FF_eq 127 _ _ (Nat.le_of_ble_eq_true rfl)
theorem d128_0 : decode (cod 128) 0 = .ok (.iload_n 1, 1) := by decide +kernel
theorem s128_0 {M : Mm} {st : List Value} {l0 l2 : Option Value} {x : Int32} : EE 128 0 [l0, some (.int x), l2] st M = EE 128 1 [l0, some (.int x), l2] (.int x :: st) M := e_ld d128_0 rfl rfl rfl rfl rfl rfl
theorem d128_1 : decode (cod 128) 1 = .ok (.invokestatic 89, 3) := by decide +kernel
theorem s128_1 {M : Mm} {l0 l1 l2 : Option Value} {b0 : Int32} {st : List Value} (hl : st.length ≤ 4) : EE 128 1 [l0, l1, l2] (.int b0 :: st) M = (FF 92 [.int b0] M).bind (fun z => EE 128 4 [l0, l1, l2] (psh z.1 st) z.2) := e_cals (av := [.int b0]) d128_1 c3_89 (Or.inl rfl) rfl rfl r128_92 rfl hl
theorem d128_4 : decode (cod 128) 4 = .ok (.ifCond .eq 33, 3) := by decide +kernel
theorem s128_4 {M : Mm} {st : List Value} {l0 l1 l2 : Option Value} {x : Int32} : EE 128 4 [l0, l1, l2] (.int x :: st) M = if x = 0 then EE 128 37 [l0, l1, l2] st M else EE 128 7 [l0, l1, l2] st M := e_eq0 d128_4 (by decide)
theorem d128_7 : decode (cod 128) 7 = .ok (.iload_n 2, 1) := by decide +kernel
theorem s128_7 {M : Mm} {st : List Value} {l0 l1 : Option Value} {x : Int32} : EE 128 7 [l0, l1, some (.int x)] st M = EE 128 8 [l0, l1, some (.int x)] (.int x :: st) M := e_ld d128_7 rfl rfl rfl rfl rfl rfl
theorem d128_8 : decode (cod 128) 8 = .ok (.iconst 0, 1) := by decide +kernel
theorem s128_8 {M : Mm} {st : List Value} {l0 l1 l2 : Option Value} : EE 128 8 [l0, l1, l2] st M = EE 128 9 [l0, l1, l2] (.int (nI 0) :: st) M := e_con d128_8 k_con_0
theorem d128_9 : decode (cod 128) 9 = .ok (.iconst 1, 1) := by decide +kernel
theorem s128_9 {M : Mm} {st : List Value} {l0 l1 l2 : Option Value} : EE 128 9 [l0, l1, l2] st M = EE 128 10 [l0, l1, l2] (.int (nI 1) :: st) M := e_con d128_9 k_con_1
theorem d128_10 : decode (cod 128) 10 = .ok (.invokestatic 32, 3) := by decide +kernel
theorem s128_10 {M : Mm} {l0 l1 l2 : Option Value} {b0 : Int32} {b1 : Int32} {b2 : Int32} {st : List Value} (hl : st.length ≤ 4) : EE 128 10 [l0, l1, l2] (.int b2 :: .int b1 :: .int b0 :: st) M = (FF 84 [.int b0, .int b1, .int b2] M).bind (fun z => EE 128 13 [l0, l1, l2] (psh z.1 st) z.2) := e_cals (av := [.int b0, .int b1, .int b2]) d128_10 c3_32 (Or.inl rfl) rfl rfl r128_84 rfl hl
theorem d128_13 : decode (cod 128) 13 = .ok (.ifCond .eq 24, 3) := by decide +kernel
theorem s128_13 {M : Mm} {st : List Value} {l0 l1 l2 : Option Value} {x : Int32} : EE 128 13 [l0, l1, l2] (.int x :: st) M = if x = 0 then EE 128 37 [l0, l1, l2] st M else EE 128 16 [l0, l1, l2] st M := e_eq0 d128_13 (by decide)
theorem d128_16 : decode (cod 128) 16 = .ok (.aload_n 0, 1) := by decide +kernel
theorem s128_16 {M : Mm} {st : List Value} {l1 l2 : Option Value} {x : Nat} : EE 128 16 [some (.ref x), l1, l2] st M = EE 128 17 [some (.ref x), l1, l2] (.ref x :: st) M := e_ld d128_16 rfl rfl rfl rfl rfl rfl
theorem d128_17 : decode (cod 128) 17 = .ok (.getfield 7, 3) := by decide +kernel
theorem s128_17 {n : Nat} {I : Nat → Nat → Int32} {R : Nat → Nat → Option Nat} {st : List Value} {l0 l1 l2 : Option Value} {a : Nat} : EE 128 17 [l0, l1, l2] (.ref a :: st) (n, I, R) = (gfI n I R 3 0 a).bind (fun z => EE 128 20 [l0, l1, l2] (z :: st) (n, I, R)) := e_getf d128_17 f3_7 rfl rfl
theorem d128_20 : decode (cod 128) 20 = .ok (.iload_n 2, 1) := by decide +kernel
theorem s128_20 {M : Mm} {st : List Value} {l0 l1 : Option Value} {x : Int32} : EE 128 20 [l0, l1, some (.int x)] st M = EE 128 21 [l0, l1, some (.int x)] (.int x :: st) M := e_ld d128_20 rfl rfl rfl rfl rfl rfl
theorem d128_21 : decode (cod 128) 21 = .ok (.ifCond .ne 8, 3) := by decide +kernel
theorem s128_21 {M : Mm} {st : List Value} {l0 l1 l2 : Option Value} {x : Int32} : EE 128 21 [l0, l1, l2] (.int x :: st) M = if x = 0 then EE 128 24 [l0, l1, l2] st M else EE 128 29 [l0, l1, l2] st M := e_ne0 d128_21 (by decide)
theorem d128_24 : decode (cod 128) 24 = .ok (.bipush 14, 2) := by decide +kernel
theorem s128_24 {M : Mm} {st : List Value} {l0 l1 l2 : Option Value} : EE 128 24 [l0, l1, l2] st M = EE 128 26 [l0, l1, l2] (.int (nI 14) :: st) M := e_bip d128_24 k_bip_14
theorem d128_26 : decode (cod 128) 26 = .ok (.goto 5, 3) := by decide +kernel
theorem s128_26 {M : Mm} {st : List Value} {l0 l1 l2 : Option Value} : EE 128 26 [l0, l1, l2] st M = EE 128 31 [l0, l1, l2] st M := e_goto d128_26 (by decide)
theorem d128_29 : decode (cod 128) 29 = .ok (.bipush 26, 2) := by decide +kernel
theorem s128_29 {M : Mm} {st : List Value} {l0 l1 l2 : Option Value} : EE 128 29 [l0, l1, l2] st M = EE 128 31 [l0, l1, l2] (.int (nI 26) :: st) M := e_bip d128_29 k_bip_26
theorem d128_31 : decode (cod 128) 31 = .ok (.iload_n 1, 1) := by decide +kernel
theorem s128_31 {M : Mm} {st : List Value} {l0 l2 : Option Value} {x : Int32} : EE 128 31 [l0, some (.int x), l2] st M = EE 128 32 [l0, some (.int x), l2] (.int x :: st) M := e_ld d128_31 rfl rfl rfl rfl rfl rfl
theorem d128_32 : decode (cod 128) 32 = .ok (.iadd, 1) := by decide +kernel
theorem s128_32 {M : Mm} {st : List Value} {l0 l1 l2 : Option Value} {x y : Int32} : EE 128 32 [l0, l1, l2] (.int y :: .int x :: st) M = EE 128 33 [l0, l1, l2] (.int (x + y) :: st) M := e_II d128_32 rfl rfl rfl rfl rfl rfl
theorem d128_33 : decode (cod 128) 33 = .ok (.iaload, 1) := by decide +kernel
theorem s128_33 {n : Nat} {I : Nat → Nat → Int32} {R : Nat → Nat → Option Nat} {st : List Value} {l0 l1 l2 : Option Value} {j : Int32} {a : Nat} : EE 128 33 [l0, l1, l2] (.int j :: .ref a :: st) (n, I, R) = (ardI 5 n I a j).bind (fun z => EE 128 34 [l0, l1, l2] (.int z :: st) (n, I, R)) := e_iald d128_33
theorem d128_34 : decode (cod 128) 34 = .ok (.goto 5, 3) := by decide +kernel
theorem s128_34 {M : Mm} {st : List Value} {l0 l1 l2 : Option Value} : EE 128 34 [l0, l1, l2] st M = EE 128 39 [l0, l1, l2] st M := e_goto d128_34 (by decide)
theorem d128_37 : decode (cod 128) 37 = .ok (.bipush (-2), 2) := by decide +kernel
theorem s128_37 {M : Mm} {st : List Value} {l0 l1 l2 : Option Value} : EE 128 37 [l0, l1, l2] st M = EE 128 39 [l0, l1, l2] (.int ((-2)) :: st) M := e_bip d128_37 k_bip_m2
theorem d128_39 : decode (cod 128) 39 = .ok (.ireturn, 1) := by decide +kernel
theorem s128_39 {M : Mm} {l0 l1 l2 : Option Value} {v : Int32} : EE 128 39 [l0, l1, l2] [.int v] M = some (some (.int v), M) := e_iret d128_39 rfl rfl
theorem FE128 {a : Nat} {b0 : Int32} {b1 : Int32} {M : Mm} : FF 128 [.ref a, .int b0, .int b1] M = EE 128 0 [some (.ref a), some (.int b0), some (.int b1)] [] M := FF_eq 128 _ _ (Nat.le_of_ble_eq_true rfl)
theorem d129_0 : decode (cod 129) 0 = .ok (.iconst 0, 1) := by decide +kernel
theorem s129_0 {M : Mm} {st : List Value} {l0 l1 l2 l3 : Option Value} : EE 129 0 [l0, l1, l2, l3] st M = EE 129 1 [l0, l1, l2, l3] (.int (nI 0) :: st) M := e_con d129_0 k_con_0
theorem d129_1 : decode (cod 129) 1 = .ok (.istore_n 1, 1) := by decide +kernel
theorem s129_1 {M : Mm} {st : List Value} {l0 l1 l2 l3 : Option Value} {x : Int32} : EE 129 1 [l0, l1, l2, l3] (.int x :: st) M = EE 129 2 [cln l0, some (.int x), l2, l3] st M := e_st1 d129_1 rfl rfl rfl rfl rfl rfl rfl (Nat.le_of_ble_eq_true rfl) rfl
theorem d129_2 : decode (cod 129) 2 = .ok (.iconst 0, 1) := by decide +kernel
theorem s129_2 {M : Mm} {st : List Value} {l0 l1 l2 l3 : Option Value} : EE 129 2 [l0, l1, l2, l3] st M = EE 129 3 [l0, l1, l2, l3] (.int (nI 0) :: st) M := e_con d129_2 k_con_0
theorem d129_3 : decode (cod 129) 3 = .ok (.istore_n 2, 1) := by decide +kernel
theorem s129_3 {M : Mm} {st : List Value} {l0 l1 l2 l3 : Option Value} {x : Int32} : EE 129 3 [l0, l1, l2, l3] (.int x :: st) M = EE 129 4 [l0, cln l1, some (.int x), l3] st M := e_st1 d129_3 rfl rfl rfl rfl rfl rfl rfl (Nat.le_of_ble_eq_true rfl) rfl
theorem d129_4 : decode (cod 129) 4 = .ok (.iload_n 2, 1) := by decide +kernel
theorem s129_4 {M : Mm} {st : List Value} {l0 l1 l3 : Option Value} {x : Int32} : EE 129 4 [l0, l1, some (.int x), l3] st M = EE 129 5 [l0, l1, some (.int x), l3] (.int x :: st) M := e_ld d129_4 rfl rfl rfl rfl rfl rfl
theorem d129_5 : decode (cod 129) 5 = .ok (.aload_n 0, 1) := by decide +kernel
theorem s129_5 {M : Mm} {st : List Value} {l1 l2 l3 : Option Value} {x : Nat} : EE 129 5 [some (.ref x), l1, l2, l3] st M = EE 129 6 [some (.ref x), l1, l2, l3] (.ref x :: st) M := e_ld d129_5 rfl rfl rfl rfl rfl rfl
theorem d129_6 : decode (cod 129) 6 = .ok (.getfield 7, 3) := by decide +kernel
theorem s129_6 {n : Nat} {I : Nat → Nat → Int32} {R : Nat → Nat → Option Nat} {st : List Value} {l0 l1 l2 l3 : Option Value} {a : Nat} : EE 129 6 [l0, l1, l2, l3] (.ref a :: st) (n, I, R) = (gfI n I R 3 0 a).bind (fun z => EE 129 9 [l0, l1, l2, l3] (z :: st) (n, I, R)) := e_getf d129_6 f3_7 rfl rfl
theorem d129_9 : decode (cod 129) 9 = .ok (.iconst 1, 1) := by decide +kernel
theorem s129_9 {M : Mm} {st : List Value} {l0 l1 l2 l3 : Option Value} : EE 129 9 [l0, l1, l2, l3] st M = EE 129 10 [l0, l1, l2, l3] (.int (nI 1) :: st) M := e_con d129_9 k_con_1
theorem d129_10 : decode (cod 129) 10 = .ok (.iaload, 1) := by decide +kernel
theorem s129_10 {n : Nat} {I : Nat → Nat → Int32} {R : Nat → Nat → Option Nat} {st : List Value} {l0 l1 l2 l3 : Option Value} {j : Int32} {a : Nat} : EE 129 10 [l0, l1, l2, l3] (.int j :: .ref a :: st) (n, I, R) = (ardI 5 n I a j).bind (fun z => EE 129 11 [l0, l1, l2, l3] (.int z :: st) (n, I, R)) := e_iald d129_10
theorem d129_11 : decode (cod 129) 11 = .ok (.if_icmp .ge 36, 3) := by decide +kernel
theorem s129_11 {M : Mm} {st : List Value} {l0 l1 l2 l3 : Option Value} {x y : Int32} : EE 129 11 [l0, l1, l2, l3] (.int y :: .int x :: st) M = if y ≤ x then EE 129 47 [l0, l1, l2, l3] st M else EE 129 14 [l0, l1, l2, l3] st M := e_cge d129_11 (by decide)
theorem d129_14 : decode (cod 129) 14 = .ok (.aload_n 0, 1) := by decide +kernel
theorem s129_14 {M : Mm} {st : List Value} {l1 l2 l3 : Option Value} {x : Nat} : EE 129 14 [some (.ref x), l1, l2, l3] st M = EE 129 15 [some (.ref x), l1, l2, l3] (.ref x :: st) M := e_ld d129_14 rfl rfl rfl rfl rfl rfl
theorem d129_15 : decode (cod 129) 15 = .ok (.getfield 7, 3) := by decide +kernel
theorem s129_15 {n : Nat} {I : Nat → Nat → Int32} {R : Nat → Nat → Option Nat} {st : List Value} {l0 l1 l2 l3 : Option Value} {a : Nat} : EE 129 15 [l0, l1, l2, l3] (.ref a :: st) (n, I, R) = (gfI n I R 3 0 a).bind (fun z => EE 129 18 [l0, l1, l2, l3] (z :: st) (n, I, R)) := e_getf d129_15 f3_7 rfl rfl
theorem d129_18 : decode (cod 129) 18 = .ok (.iload_n 2, 1) := by decide +kernel
theorem s129_18 {M : Mm} {st : List Value} {l0 l1 l3 : Option Value} {x : Int32} : EE 129 18 [l0, l1, some (.int x), l3] st M = EE 129 19 [l0, l1, some (.int x), l3] (.int x :: st) M := e_ld d129_18 rfl rfl rfl rfl rfl rfl
theorem d129_19 : decode (cod 129) 19 = .ok (.invokestatic 78, 3) := by decide +kernel
theorem s129_19 {M : Mm} {l0 l1 l2 l3 : Option Value} {b0 : Nat} {b1 : Int32} {st : List Value} (hl : st.length ≤ 4) : EE 129 19 [l0, l1, l2, l3] (.int b1 :: .ref b0 :: st) M = (FF 123 [.ref b0, .int b1] M).bind (fun z => EE 129 22 [l0, l1, l2, l3] (psh z.1 st) z.2) := e_cals (av := [.ref b0, .int b1]) d129_19 c3_78 (Or.inl rfl) rfl rfl r129_123 rfl hl
theorem d129_22 : decode (cod 129) 22 = .ok (.istore_n 3, 1) := by decide +kernel
theorem s129_22 {M : Mm} {st : List Value} {l0 l1 l2 l3 : Option Value} {x : Int32} : EE 129 22 [l0, l1, l2, l3] (.int x :: st) M = EE 129 23 [l0, l1, cln l2, some (.int x)] st M := e_st1 d129_22 rfl rfl rfl rfl rfl rfl rfl (Nat.le_of_ble_eq_true rfl) rfl
theorem d129_23 : decode (cod 129) 23 = .ok (.iload_n 3, 1) := by decide +kernel
theorem s129_23 {M : Mm} {st : List Value} {l0 l1 l2 : Option Value} {x : Int32} : EE 129 23 [l0, l1, l2, some (.int x)] st M = EE 129 24 [l0, l1, l2, some (.int x)] (.int x :: st) M := e_ld d129_23 rfl rfl rfl rfl rfl rfl
theorem d129_24 : decode (cod 129) 24 = .ok (.ifCond .le 5, 3) := by decide +kernel
theorem s129_24 {M : Mm} {st : List Value} {l0 l1 l2 l3 : Option Value} {x : Int32} : EE 129 24 [l0, l1, l2, l3] (.int x :: st) M = if x ≤ 0 then EE 129 29 [l0, l1, l2, l3] st M else EE 129 27 [l0, l1, l2, l3] st M := e_le0 d129_24 (by decide)
theorem d129_27 : decode (cod 129) 27 = .ok (.iload_n 1, 1) := by decide +kernel
theorem s129_27 {M : Mm} {st : List Value} {l0 l2 l3 : Option Value} {x : Int32} : EE 129 27 [l0, some (.int x), l2, l3] st M = EE 129 28 [l0, some (.int x), l2, l3] (.int x :: st) M := e_ld d129_27 rfl rfl rfl rfl rfl rfl
theorem d129_28 : decode (cod 129) 28 = .ok (.ireturn, 1) := by decide +kernel
theorem s129_28 {M : Mm} {l0 l1 l2 l3 : Option Value} {v : Int32} : EE 129 28 [l0, l1, l2, l3] [.int v] M = some (some (.int v), M) := e_iret d129_28 rfl rfl
theorem d129_29 : decode (cod 129) 29 = .ok (.iload_n 1, 1) := by decide +kernel
theorem s129_29 {M : Mm} {st : List Value} {l0 l2 l3 : Option Value} {x : Int32} : EE 129 29 [l0, some (.int x), l2, l3] st M = EE 129 30 [l0, some (.int x), l2, l3] (.int x :: st) M := e_ld d129_29 rfl rfl rfl rfl rfl rfl
theorem d129_30 : decode (cod 129) 30 = .ok (.iload_n 3, 1) := by decide +kernel
theorem s129_30 {M : Mm} {st : List Value} {l0 l1 l2 : Option Value} {x : Int32} : EE 129 30 [l0, l1, l2, some (.int x)] st M = EE 129 31 [l0, l1, l2, some (.int x)] (.int x :: st) M := e_ld d129_30 rfl rfl rfl rfl rfl rfl
theorem d129_31 : decode (cod 129) 31 = .ok (.ifCond .ne 7, 3) := by decide +kernel
theorem s129_31 {M : Mm} {st : List Value} {l0 l1 l2 l3 : Option Value} {x : Int32} : EE 129 31 [l0, l1, l2, l3] (.int x :: st) M = if x = 0 then EE 129 34 [l0, l1, l2, l3] st M else EE 129 38 [l0, l1, l2, l3] st M := e_ne0 d129_31 (by decide)
theorem d129_34 : decode (cod 129) 34 = .ok (.iconst 1, 1) := by decide +kernel
theorem s129_34 {M : Mm} {st : List Value} {l0 l1 l2 l3 : Option Value} : EE 129 34 [l0, l1, l2, l3] st M = EE 129 35 [l0, l1, l2, l3] (.int (nI 1) :: st) M := e_con d129_34 k_con_1
theorem d129_35 : decode (cod 129) 35 = .ok (.goto 4, 3) := by decide +kernel
theorem s129_35 {M : Mm} {st : List Value} {l0 l1 l2 l3 : Option Value} : EE 129 35 [l0, l1, l2, l3] st M = EE 129 39 [l0, l1, l2, l3] st M := e_goto d129_35 (by decide)
theorem d129_38 : decode (cod 129) 38 = .ok (.iconst 0, 1) := by decide +kernel
theorem s129_38 {M : Mm} {st : List Value} {l0 l1 l2 l3 : Option Value} : EE 129 38 [l0, l1, l2, l3] st M = EE 129 39 [l0, l1, l2, l3] (.int (nI 0) :: st) M := e_con d129_38 k_con_0
theorem d129_39 : decode (cod 129) 39 = .ok (.iadd, 1) := by decide +kernel
theorem s129_39 {M : Mm} {st : List Value} {l0 l1 l2 l3 : Option Value} {x y : Int32} : EE 129 39 [l0, l1, l2, l3] (.int y :: .int x :: st) M = EE 129 40 [l0, l1, l2, l3] (.int (x + y) :: st) M := e_II d129_39 rfl rfl rfl rfl rfl rfl
theorem d129_40 : decode (cod 129) 40 = .ok (.istore_n 1, 1) := by decide +kernel
theorem s129_40 {M : Mm} {st : List Value} {l0 l1 l2 l3 : Option Value} {x : Int32} : EE 129 40 [l0, l1, l2, l3] (.int x :: st) M = EE 129 41 [cln l0, some (.int x), l2, l3] st M := e_st1 d129_40 rfl rfl rfl rfl rfl rfl rfl (Nat.le_of_ble_eq_true rfl) rfl
theorem d129_41 : decode (cod 129) 41 = .ok (.iinc 2 1, 3) := by decide +kernel
theorem s129_41 {M : Mm} {st : List Value} {l0 l1 l3 : Option Value} {x : Int32} : EE 129 41 [l0, l1, some (.int x), l3] st M = EE 129 44 [l0, cln l1, some (.int (x + nI 1)), l3] st M := e_iinc d129_41 rfl (congrArg (fun z => x + z) k_inc_1) rfl
theorem d129_44 : decode (cod 129) 44 = .ok (.goto (-40), 3) := by decide +kernel
theorem s129_44 {M : Mm} {st : List Value} {l0 l1 l2 l3 : Option Value} : EE 129 44 [l0, l1, l2, l3] st M = EE 129 4 [l0, l1, l2, l3] st M := e_goto d129_44 (by decide)
theorem d129_47 : decode (cod 129) 47 = .ok (.iload_n 1, 1) := by decide +kernel
theorem s129_47 {M : Mm} {st : List Value} {l0 l2 l3 : Option Value} {x : Int32} : EE 129 47 [l0, some (.int x), l2, l3] st M = EE 129 48 [l0, some (.int x), l2, l3] (.int x :: st) M := e_ld d129_47 rfl rfl rfl rfl rfl rfl
theorem d129_48 : decode (cod 129) 48 = .ok (.ireturn, 1) := by decide +kernel
theorem s129_48 {M : Mm} {l0 l1 l2 l3 : Option Value} {v : Int32} : EE 129 48 [l0, l1, l2, l3] [.int v] M = some (some (.int v), M) := e_iret d129_48 rfl rfl
theorem FE129 {a : Nat} {M : Mm} : FF 129 [.ref a] M = EE 129 0 [some (.ref a), none, none, none] [] M := FF_eq 129 _ _ (Nat.le_of_ble_eq_true rfl)
theorem d130_0 : decode (cod 130) 0 = .ok (.aload_n 0, 1) := by decide +kernel
theorem s130_0 {M : Mm} {st : List Value} {l1 l2 : Option Value} {x : Nat} : EE 130 0 [some (.ref x), l1, l2] st M = EE 130 1 [some (.ref x), l1, l2] (.ref x :: st) M := e_ld d130_0 rfl rfl rfl rfl rfl rfl
theorem d130_1 : decode (cod 130) 1 = .ok (.iload_n 1, 1) := by decide +kernel
theorem s130_1 {M : Mm} {st : List Value} {l0 l2 : Option Value} {x : Int32} : EE 130 1 [l0, some (.int x), l2] st M = EE 130 2 [l0, some (.int x), l2] (.int x :: st) M := e_ld d130_1 rfl rfl rfl rfl rfl rfl
theorem d130_2 : decode (cod 130) 2 = .ok (.invokevirtual 104, 3) := by decide +kernel
theorem s130_2 {l0 l1 l2 : Option Value} {a : Nat} {M : Mm} {b0 : Int32} {st : List Value} (hl : st.length ≤ 4) (ho : isO "HandoverDeskModel" M.1 a = true) : EE 130 2 [l0, l1, l2] (.int b0 :: .ref a :: st) M = (FF 99 (.ref a :: [.int b0]) M).bind (fun z => EE 130 5 [l0, l1, l2] (psh z.1 st) z.2) := e_calv (av := [.int b0]) d130_2 c3_104 rfl rfl rfl r130_99 rfl hl ho
theorem d130_5 : decode (cod 130) 5 = .ok (.ifCond .ne 5, 3) := by decide +kernel
theorem s130_5 {M : Mm} {st : List Value} {l0 l1 l2 : Option Value} {x : Int32} : EE 130 5 [l0, l1, l2] (.int x :: st) M = if x = 0 then EE 130 8 [l0, l1, l2] st M else EE 130 10 [l0, l1, l2] st M := e_ne0 d130_5 (by decide)
theorem d130_8 : decode (cod 130) 8 = .ok (.iconst (-1), 1) := by decide +kernel
theorem s130_8 {M : Mm} {st : List Value} {l0 l1 l2 : Option Value} : EE 130 8 [l0, l1, l2] st M = EE 130 9 [l0, l1, l2] (.int ((-1)) :: st) M := e_con d130_8 k_con_m1
theorem d130_9 : decode (cod 130) 9 = .ok (.ireturn, 1) := by decide +kernel
theorem s130_9 {M : Mm} {l0 l1 l2 : Option Value} {v : Int32} : EE 130 9 [l0, l1, l2] [.int v] M = some (some (.int v), M) := e_iret d130_9 rfl rfl
theorem d130_10 : decode (cod 130) 10 = .ok (.aload_n 0, 1) := by decide +kernel
theorem s130_10 {M : Mm} {st : List Value} {l1 l2 : Option Value} {x : Nat} : EE 130 10 [some (.ref x), l1, l2] st M = EE 130 11 [some (.ref x), l1, l2] (.ref x :: st) M := e_ld d130_10 rfl rfl rfl rfl rfl rfl
theorem d130_11 : decode (cod 130) 11 = .ok (.getfield 7, 3) := by decide +kernel
theorem s130_11 {n : Nat} {I : Nat → Nat → Int32} {R : Nat → Nat → Option Nat} {st : List Value} {l0 l1 l2 : Option Value} {a : Nat} : EE 130 11 [l0, l1, l2] (.ref a :: st) (n, I, R) = (gfI n I R 3 0 a).bind (fun z => EE 130 14 [l0, l1, l2] (z :: st) (n, I, R)) := e_getf d130_11 f3_7 rfl rfl
theorem d130_14 : decode (cod 130) 14 = .ok (.sipush 128, 3) := by decide +kernel
theorem s130_14 {M : Mm} {st : List Value} {l0 l1 l2 : Option Value} : EE 130 14 [l0, l1, l2] st M = EE 130 17 [l0, l1, l2] (.int (nI 128) :: st) M := e_sip d130_14 k_sip_128
theorem d130_17 : decode (cod 130) 17 = .ok (.iload_n 1, 1) := by decide +kernel
theorem s130_17 {M : Mm} {st : List Value} {l0 l2 : Option Value} {x : Int32} : EE 130 17 [l0, some (.int x), l2] st M = EE 130 18 [l0, some (.int x), l2] (.int x :: st) M := e_ld d130_17 rfl rfl rfl rfl rfl rfl
theorem d130_18 : decode (cod 130) 18 = .ok (.iadd, 1) := by decide +kernel
theorem s130_18 {M : Mm} {st : List Value} {l0 l1 l2 : Option Value} {x y : Int32} : EE 130 18 [l0, l1, l2] (.int y :: .int x :: st) M = EE 130 19 [l0, l1, l2] (.int (x + y) :: st) M := e_II d130_18 rfl rfl rfl rfl rfl rfl
theorem d130_19 : decode (cod 130) 19 = .ok (.iaload, 1) := by decide +kernel
theorem s130_19 {n : Nat} {I : Nat → Nat → Int32} {R : Nat → Nat → Option Nat} {st : List Value} {l0 l1 l2 : Option Value} {j : Int32} {a : Nat} : EE 130 19 [l0, l1, l2] (.int j :: .ref a :: st) (n, I, R) = (ardI 5 n I a j).bind (fun z => EE 130 20 [l0, l1, l2] (.int z :: st) (n, I, R)) := e_iald d130_19
theorem d130_20 : decode (cod 130) 20 = .ok (.istore_n 2, 1) := by decide +kernel
theorem s130_20 {M : Mm} {st : List Value} {l0 l1 l2 : Option Value} {x : Int32} : EE 130 20 [l0, l1, l2] (.int x :: st) M = EE 130 21 [l0, cln l1, some (.int x)] st M := e_st1 d130_20 rfl rfl rfl rfl rfl rfl rfl (Nat.le_of_ble_eq_true rfl) rfl
theorem d130_21 : decode (cod 130) 21 = .ok (.iload_n 2, 1) := by decide +kernel
theorem s130_21 {M : Mm} {st : List Value} {l0 l1 : Option Value} {x : Int32} : EE 130 21 [l0, l1, some (.int x)] st M = EE 130 22 [l0, l1, some (.int x)] (.int x :: st) M := e_ld d130_21 rfl rfl rfl rfl rfl rfl
theorem d130_22 : decode (cod 130) 22 = .ok (.ifCond .ne 8, 3) := by decide +kernel
theorem s130_22 {M : Mm} {st : List Value} {l0 l1 l2 : Option Value} {x : Int32} : EE 130 22 [l0, l1, l2] (.int x :: st) M = if x = 0 then EE 130 25 [l0, l1, l2] st M else EE 130 30 [l0, l1, l2] st M := e_ne0 d130_22 (by decide)
theorem d130_25 : decode (cod 130) 25 = .ok (.bipush (-6), 2) := by decide +kernel
theorem s130_25 {M : Mm} {st : List Value} {l0 l1 l2 : Option Value} : EE 130 25 [l0, l1, l2] st M = EE 130 27 [l0, l1, l2] (.int ((-6)) :: st) M := e_bip d130_25 k_bip_m6
theorem d130_27 : decode (cod 130) 27 = .ok (.goto 21, 3) := by decide +kernel
theorem s130_27 {M : Mm} {st : List Value} {l0 l1 l2 : Option Value} : EE 130 27 [l0, l1, l2] st M = EE 130 48 [l0, l1, l2] st M := e_goto d130_27 (by decide)
theorem d130_30 : decode (cod 130) 30 = .ok (.aload_n 0, 1) := by decide +kernel
theorem s130_30 {M : Mm} {st : List Value} {l1 l2 : Option Value} {x : Nat} : EE 130 30 [some (.ref x), l1, l2] st M = EE 130 31 [some (.ref x), l1, l2] (.ref x :: st) M := e_ld d130_30 rfl rfl rfl rfl rfl rfl
theorem d130_31 : decode (cod 130) 31 = .ok (.getfield 7, 3) := by decide +kernel
theorem s130_31 {n : Nat} {I : Nat → Nat → Int32} {R : Nat → Nat → Option Nat} {st : List Value} {l0 l1 l2 : Option Value} {a : Nat} : EE 130 31 [l0, l1, l2] (.ref a :: st) (n, I, R) = (gfI n I R 3 0 a).bind (fun z => EE 130 34 [l0, l1, l2] (z :: st) (n, I, R)) := e_getf d130_31 f3_7 rfl rfl
theorem d130_34 : decode (cod 130) 34 = .ok (.sipush 138, 3) := by decide +kernel
theorem s130_34 {M : Mm} {st : List Value} {l0 l1 l2 : Option Value} : EE 130 34 [l0, l1, l2] st M = EE 130 37 [l0, l1, l2] (.int (nI 138) :: st) M := e_sip d130_34 k_sip_138
theorem d130_37 : decode (cod 130) 37 = .ok (.iload_n 1, 1) := by decide +kernel
theorem s130_37 {M : Mm} {st : List Value} {l0 l2 : Option Value} {x : Int32} : EE 130 37 [l0, some (.int x), l2] st M = EE 130 38 [l0, some (.int x), l2] (.int x :: st) M := e_ld d130_37 rfl rfl rfl rfl rfl rfl
theorem d130_38 : decode (cod 130) 38 = .ok (.iadd, 1) := by decide +kernel
theorem s130_38 {M : Mm} {st : List Value} {l0 l1 l2 : Option Value} {x y : Int32} : EE 130 38 [l0, l1, l2] (.int y :: .int x :: st) M = EE 130 39 [l0, l1, l2] (.int (x + y) :: st) M := e_II d130_38 rfl rfl rfl rfl rfl rfl
theorem d130_39 : decode (cod 130) 39 = .ok (.iaload, 1) := by decide +kernel
theorem s130_39 {n : Nat} {I : Nat → Nat → Int32} {R : Nat → Nat → Option Nat} {st : List Value} {l0 l1 l2 : Option Value} {j : Int32} {a : Nat} : EE 130 39 [l0, l1, l2] (.int j :: .ref a :: st) (n, I, R) = (ardI 5 n I a j).bind (fun z => EE 130 40 [l0, l1, l2] (.int z :: st) (n, I, R)) := e_iald d130_39
theorem d130_40 : decode (cod 130) 40 = .ok (.i2d, 1) := by decide +kernel
theorem s130_40 {M : Mm} {st : List Value} {l0 l1 l2 : Option Value} {x : Int32} : EE 130 40 [l0, l1, l2] (.int x :: st) M = EE 130 41 [l0, l1, l2] (.double (FP.i2d x) :: st) M := e_U d130_40 rfl rfl rfl rfl rfl (bn_i2d x) rfl
theorem d130_41 : decode (cod 130) 41 = .ok (.iload_n 2, 1) := by decide +kernel
theorem s130_41 {M : Mm} {st : List Value} {l0 l1 : Option Value} {x : Int32} : EE 130 41 [l0, l1, some (.int x)] st M = EE 130 42 [l0, l1, some (.int x)] (.int x :: st) M := e_ld d130_41 rfl rfl rfl rfl rfl rfl
theorem d130_42 : decode (cod 130) 42 = .ok (.i2d, 1) := by decide +kernel
theorem s130_42 {M : Mm} {st : List Value} {l0 l1 l2 : Option Value} {x : Int32} : EE 130 42 [l0, l1, l2] (.int x :: st) M = EE 130 43 [l0, l1, l2] (.double (FP.i2d x) :: st) M := e_U d130_42 rfl rfl rfl rfl rfl (bn_i2d x) rfl
theorem d130_43 : decode (cod 130) 43 = .ok (.ddiv, 1) := by decide +kernel
theorem s130_43 {M : Mm} {st : List Value} {l0 l1 l2 : Option Value} {x y : UInt64} (h : FP.ddiv x y &&& 0x7fffffffffffffff ≤ 0x7ff0000000000000) : EE 130 43 [l0, l1, l2] (.double y :: .double x :: st) M = EE 130 44 [l0, l1, l2] (.double (FP.ddiv x y) :: st) M := e_ddiv d130_43 h
theorem d130_44 : decode (cod 130) 44 = .ok (.d2f, 1) := by decide +kernel
theorem s130_44 {M : Mm} {st : List Value} {l0 l1 l2 : Option Value} {x : UInt64} (h : FP.d2f x &&& 0x7fffffff ≤ 0x7f800000) : EE 130 44 [l0, l1, l2] (.double x :: st) M = EE 130 45 [l0, l1, l2] (.float (FP.d2f x) :: st) M := e_d2f d130_44 h
theorem d130_45 : decode (cod 130) 45 = .ok (.invokestatic 147, 3) := by decide +kernel
theorem s130_45 {M : Mm} {l0 l1 l2 : Option Value} {b0 : UInt32} {st : List Value} (hl : st.length ≤ 4) : EE 130 45 [l0, l1, l2] (.float b0 :: st) M = (FF 167 [.float b0] M).bind (fun z => EE 130 48 [l0, l1, l2] (psh z.1 st) z.2) := e_cals (av := [.float b0]) d130_45 c3_147 (Or.inl rfl) rfl rfl r130_167 rfl hl
theorem d130_48 : decode (cod 130) 48 = .ok (.ireturn, 1) := by decide +kernel
theorem s130_48 {M : Mm} {l0 l1 l2 : Option Value} {v : Int32} : EE 130 48 [l0, l1, l2] [.int v] M = some (some (.int v), M) := e_iret d130_48 rfl rfl
theorem FE130 {a : Nat} {b0 : Int32} {M : Mm} : FF 130 [.ref a, .int b0] M = EE 130 0 [some (.ref a), some (.int b0), none] [] M := FF_eq 130 _ _ (Nat.le_of_ble_eq_true rfl)
theorem d131_0 : decode (cod 131) 0 = .ok (.iload_n 1, 1) := by decide +kernel
theorem s131_0 {M : Mm} {st : List Value} {l0 l2 l3 : Option Value} {x : Int32} : EE 131 0 [l0, some (.int x), l2, l3] st M = EE 131 1 [l0, some (.int x), l2, l3] (.int x :: st) M := e_ld d131_0 rfl rfl rfl rfl rfl rfl
theorem d131_1 : decode (cod 131) 1 = .ok (.invokestatic 85, 3) := by decide +kernel
theorem s131_1 {M : Mm} {l0 l1 l2 l3 : Option Value} {b0 : Int32} {st : List Value} (hl : st.length ≤ 4) : EE 131 1 [l0, l1, l2, l3] (.int b0 :: st) M = (FF 91 [.int b0] M).bind (fun z => EE 131 4 [l0, l1, l2, l3] (psh z.1 st) z.2) := e_cals (av := [.int b0]) d131_1 c3_85 (Or.inl rfl) rfl rfl r131_91 rfl hl
theorem d131_4 : decode (cod 131) 4 = .ok (.ifCond .ne 7, 3) := by decide +kernel
theorem s131_4 {M : Mm} {st : List Value} {l0 l1 l2 l3 : Option Value} {x : Int32} : EE 131 4 [l0, l1, l2, l3] (.int x :: st) M = if x = 0 then EE 131 7 [l0, l1, l2, l3] st M else EE 131 11 [l0, l1, l2, l3] st M := e_ne0 d131_4 (by decide)
theorem d131_7 : decode (cod 131) 7 = .ok (.ldc2_w 153, 3) := by decide +kernel
theorem s131_7 {M : Mm} {st : List Value} {l0 l1 l2 l3 : Option Value} : EE 131 7 [l0, l1, l2, l3] st M = EE 131 10 [l0, l1, l2, l3] (.long (-1) :: st) M := e_ldc2 d131_7 q3_153
theorem d131_10 : decode (cod 131) 10 = .ok (.lreturn, 1) := by decide +kernel
theorem s131_10 {M : Mm} {l0 l1 l2 l3 : Option Value} {v : Int64} : EE 131 10 [l0, l1, l2, l3] [.long v] M = some (some (.long v), M) := e_lret d131_10 rfl
theorem d131_11 : decode (cod 131) 11 = .ok (.iconst 0, 1) := by decide +kernel
theorem s131_11 {M : Mm} {st : List Value} {l0 l1 l2 l3 : Option Value} : EE 131 11 [l0, l1, l2, l3] st M = EE 131 12 [l0, l1, l2, l3] (.int (nI 0) :: st) M := e_con d131_11 k_con_0
theorem d131_12 : decode (cod 131) 12 = .ok (.istore_n 2, 1) := by decide +kernel
theorem s131_12 {M : Mm} {st : List Value} {l0 l1 l2 l3 : Option Value} {x : Int32} : EE 131 12 [l0, l1, l2, l3] (.int x :: st) M = EE 131 13 [l0, cln l1, some (.int x), l3] st M := e_st1 d131_12 rfl rfl rfl rfl rfl rfl rfl (Nat.le_of_ble_eq_true rfl) rfl
theorem d131_13 : decode (cod 131) 13 = .ok (.iconst 0, 1) := by decide +kernel
theorem s131_13 {M : Mm} {st : List Value} {l0 l1 l2 l3 : Option Value} : EE 131 13 [l0, l1, l2, l3] st M = EE 131 14 [l0, l1, l2, l3] (.int (nI 0) :: st) M := e_con d131_13 k_con_0
theorem d131_14 : decode (cod 131) 14 = .ok (.istore_n 3, 1) := by decide +kernel
theorem s131_14 {M : Mm} {st : List Value} {l0 l1 l2 l3 : Option Value} {x : Int32} : EE 131 14 [l0, l1, l2, l3] (.int x :: st) M = EE 131 15 [l0, l1, cln l2, some (.int x)] st M := e_st1 d131_14 rfl rfl rfl rfl rfl rfl rfl (Nat.le_of_ble_eq_true rfl) rfl
theorem d131_15 : decode (cod 131) 15 = .ok (.iload_n 3, 1) := by decide +kernel
theorem s131_15 {M : Mm} {st : List Value} {l0 l1 l2 : Option Value} {x : Int32} : EE 131 15 [l0, l1, l2, some (.int x)] st M = EE 131 16 [l0, l1, l2, some (.int x)] (.int x :: st) M := e_ld d131_15 rfl rfl rfl rfl rfl rfl
theorem d131_16 : decode (cod 131) 16 = .ok (.aload_n 0, 1) := by decide +kernel
theorem s131_16 {M : Mm} {st : List Value} {l1 l2 l3 : Option Value} {x : Nat} : EE 131 16 [some (.ref x), l1, l2, l3] st M = EE 131 17 [some (.ref x), l1, l2, l3] (.ref x :: st) M := e_ld d131_16 rfl rfl rfl rfl rfl rfl
theorem d131_17 : decode (cod 131) 17 = .ok (.getfield 7, 3) := by decide +kernel
theorem s131_17 {n : Nat} {I : Nat → Nat → Int32} {R : Nat → Nat → Option Nat} {st : List Value} {l0 l1 l2 l3 : Option Value} {a : Nat} : EE 131 17 [l0, l1, l2, l3] (.ref a :: st) (n, I, R) = (gfI n I R 3 0 a).bind (fun z => EE 131 20 [l0, l1, l2, l3] (z :: st) (n, I, R)) := e_getf d131_17 f3_7 rfl rfl
theorem d131_20 : decode (cod 131) 20 = .ok (.iconst 1, 1) := by decide +kernel
theorem s131_20 {M : Mm} {st : List Value} {l0 l1 l2 l3 : Option Value} : EE 131 20 [l0, l1, l2, l3] st M = EE 131 21 [l0, l1, l2, l3] (.int (nI 1) :: st) M := e_con d131_20 k_con_1
theorem d131_21 : decode (cod 131) 21 = .ok (.iaload, 1) := by decide +kernel
theorem s131_21 {n : Nat} {I : Nat → Nat → Int32} {R : Nat → Nat → Option Nat} {st : List Value} {l0 l1 l2 l3 : Option Value} {j : Int32} {a : Nat} : EE 131 21 [l0, l1, l2, l3] (.int j :: .ref a :: st) (n, I, R) = (ardI 5 n I a j).bind (fun z => EE 131 22 [l0, l1, l2, l3] (.int z :: st) (n, I, R)) := e_iald d131_21
theorem d131_22 : decode (cod 131) 22 = .ok (.if_icmp .ge 32, 3) := by decide +kernel
theorem s131_22 {M : Mm} {st : List Value} {l0 l1 l2 l3 : Option Value} {x y : Int32} : EE 131 22 [l0, l1, l2, l3] (.int y :: .int x :: st) M = if y ≤ x then EE 131 54 [l0, l1, l2, l3] st M else EE 131 25 [l0, l1, l2, l3] st M := e_cge d131_22 (by decide)
theorem d131_25 : decode (cod 131) 25 = .ok (.iload_n 2, 1) := by decide +kernel
theorem s131_25 {M : Mm} {st : List Value} {l0 l1 l3 : Option Value} {x : Int32} : EE 131 25 [l0, l1, some (.int x), l3] st M = EE 131 26 [l0, l1, some (.int x), l3] (.int x :: st) M := e_ld d131_25 rfl rfl rfl rfl rfl rfl
theorem d131_26 : decode (cod 131) 26 = .ok (.aload_n 0, 1) := by decide +kernel
theorem s131_26 {M : Mm} {st : List Value} {l1 l2 l3 : Option Value} {x : Nat} : EE 131 26 [some (.ref x), l1, l2, l3] st M = EE 131 27 [some (.ref x), l1, l2, l3] (.ref x :: st) M := e_ld d131_26 rfl rfl rfl rfl rfl rfl
theorem d131_27 : decode (cod 131) 27 = .ok (.getfield 7, 3) := by decide +kernel
theorem s131_27 {n : Nat} {I : Nat → Nat → Int32} {R : Nat → Nat → Option Nat} {st : List Value} {l0 l1 l2 l3 : Option Value} {a : Nat} : EE 131 27 [l0, l1, l2, l3] (.ref a :: st) (n, I, R) = (gfI n I R 3 0 a).bind (fun z => EE 131 30 [l0, l1, l2, l3] (z :: st) (n, I, R)) := e_getf d131_27 f3_7 rfl rfl
theorem d131_30 : decode (cod 131) 30 = .ok (.bipush 38, 2) := by decide +kernel
theorem s131_30 {M : Mm} {st : List Value} {l0 l1 l2 l3 : Option Value} : EE 131 30 [l0, l1, l2, l3] st M = EE 131 32 [l0, l1, l2, l3] (.int (nI 38) :: st) M := e_bip d131_30 k_bip_38
theorem d131_32 : decode (cod 131) 32 = .ok (.iload_n 3, 1) := by decide +kernel
theorem s131_32 {M : Mm} {st : List Value} {l0 l1 l2 : Option Value} {x : Int32} : EE 131 32 [l0, l1, l2, some (.int x)] st M = EE 131 33 [l0, l1, l2, some (.int x)] (.int x :: st) M := e_ld d131_32 rfl rfl rfl rfl rfl rfl
theorem d131_33 : decode (cod 131) 33 = .ok (.iadd, 1) := by decide +kernel
theorem s131_33 {M : Mm} {st : List Value} {l0 l1 l2 l3 : Option Value} {x y : Int32} : EE 131 33 [l0, l1, l2, l3] (.int y :: .int x :: st) M = EE 131 34 [l0, l1, l2, l3] (.int (x + y) :: st) M := e_II d131_33 rfl rfl rfl rfl rfl rfl
theorem d131_34 : decode (cod 131) 34 = .ok (.iaload, 1) := by decide +kernel
theorem s131_34 {n : Nat} {I : Nat → Nat → Int32} {R : Nat → Nat → Option Nat} {st : List Value} {l0 l1 l2 l3 : Option Value} {j : Int32} {a : Nat} : EE 131 34 [l0, l1, l2, l3] (.int j :: .ref a :: st) (n, I, R) = (ardI 5 n I a j).bind (fun z => EE 131 35 [l0, l1, l2, l3] (.int z :: st) (n, I, R)) := e_iald d131_34
theorem d131_35 : decode (cod 131) 35 = .ok (.aload_n 0, 1) := by decide +kernel
theorem s131_35 {M : Mm} {st : List Value} {l1 l2 l3 : Option Value} {x : Nat} : EE 131 35 [some (.ref x), l1, l2, l3] st M = EE 131 36 [some (.ref x), l1, l2, l3] (.ref x :: st) M := e_ld d131_35 rfl rfl rfl rfl rfl rfl
theorem d131_36 : decode (cod 131) 36 = .ok (.getfield 7, 3) := by decide +kernel
theorem s131_36 {n : Nat} {I : Nat → Nat → Int32} {R : Nat → Nat → Option Nat} {st : List Value} {l0 l1 l2 l3 : Option Value} {a : Nat} : EE 131 36 [l0, l1, l2, l3] (.ref a :: st) (n, I, R) = (gfI n I R 3 0 a).bind (fun z => EE 131 39 [l0, l1, l2, l3] (z :: st) (n, I, R)) := e_getf d131_36 f3_7 rfl rfl
theorem d131_39 : decode (cod 131) 39 = .ok (.iload_n 1, 1) := by decide +kernel
theorem s131_39 {M : Mm} {st : List Value} {l0 l2 l3 : Option Value} {x : Int32} : EE 131 39 [l0, some (.int x), l2, l3] st M = EE 131 40 [l0, some (.int x), l2, l3] (.int x :: st) M := e_ld d131_39 rfl rfl rfl rfl rfl rfl
theorem d131_40 : decode (cod 131) 40 = .ok (.iload_n 3, 1) := by decide +kernel
theorem s131_40 {M : Mm} {st : List Value} {l0 l1 l2 : Option Value} {x : Int32} : EE 131 40 [l0, l1, l2, some (.int x)] st M = EE 131 41 [l0, l1, l2, some (.int x)] (.int x :: st) M := e_ld d131_40 rfl rfl rfl rfl rfl rfl
theorem d131_41 : decode (cod 131) 41 = .ok (.invokestatic 47, 3) := by decide +kernel
theorem s131_41 {M : Mm} {l0 l1 l2 l3 : Option Value} {b0 : Int32} {b1 : Int32} {st : List Value} (hl : st.length ≤ 4) : EE 131 41 [l0, l1, l2, l3] (.int b1 :: .int b0 :: st) M = (FF 107 [.int b0, .int b1] M).bind (fun z => EE 131 44 [l0, l1, l2, l3] (psh z.1 st) z.2) := e_cals (av := [.int b0, .int b1]) d131_41 c3_47 (Or.inl rfl) rfl rfl r131_107 rfl hl
theorem d131_44 : decode (cod 131) 44 = .ok (.iaload, 1) := by decide +kernel
theorem s131_44 {n : Nat} {I : Nat → Nat → Int32} {R : Nat → Nat → Option Nat} {st : List Value} {l0 l1 l2 l3 : Option Value} {j : Int32} {a : Nat} : EE 131 44 [l0, l1, l2, l3] (.int j :: .ref a :: st) (n, I, R) = (ardI 5 n I a j).bind (fun z => EE 131 45 [l0, l1, l2, l3] (.int z :: st) (n, I, R)) := e_iald d131_44
theorem d131_45 : decode (cod 131) 45 = .ok (.imul, 1) := by decide +kernel
theorem s131_45 {M : Mm} {st : List Value} {l0 l1 l2 l3 : Option Value} {x y : Int32} : EE 131 45 [l0, l1, l2, l3] (.int y :: .int x :: st) M = EE 131 46 [l0, l1, l2, l3] (.int (x * y) :: st) M := e_II d131_45 rfl rfl rfl rfl rfl rfl
theorem d131_46 : decode (cod 131) 46 = .ok (.iadd, 1) := by decide +kernel
theorem s131_46 {M : Mm} {st : List Value} {l0 l1 l2 l3 : Option Value} {x y : Int32} : EE 131 46 [l0, l1, l2, l3] (.int y :: .int x :: st) M = EE 131 47 [l0, l1, l2, l3] (.int (x + y) :: st) M := e_II d131_46 rfl rfl rfl rfl rfl rfl
theorem d131_47 : decode (cod 131) 47 = .ok (.istore_n 2, 1) := by decide +kernel
theorem s131_47 {M : Mm} {st : List Value} {l0 l1 l2 l3 : Option Value} {x : Int32} : EE 131 47 [l0, l1, l2, l3] (.int x :: st) M = EE 131 48 [l0, cln l1, some (.int x), l3] st M := e_st1 d131_47 rfl rfl rfl rfl rfl rfl rfl (Nat.le_of_ble_eq_true rfl) rfl
theorem d131_48 : decode (cod 131) 48 = .ok (.iinc 3 1, 3) := by decide +kernel
theorem s131_48 {M : Mm} {st : List Value} {l0 l1 l2 : Option Value} {x : Int32} : EE 131 48 [l0, l1, l2, some (.int x)] st M = EE 131 51 [l0, l1, cln l2, some (.int (x + nI 1))] st M := e_iinc d131_48 rfl (congrArg (fun z => x + z) k_inc_1) rfl
theorem d131_51 : decode (cod 131) 51 = .ok (.goto (-36), 3) := by decide +kernel
theorem s131_51 {M : Mm} {st : List Value} {l0 l1 l2 l3 : Option Value} : EE 131 51 [l0, l1, l2, l3] st M = EE 131 15 [l0, l1, l2, l3] st M := e_goto d131_51 (by decide)
theorem d131_54 : decode (cod 131) 54 = .ok (.aload_n 0, 1) := by decide +kernel
theorem s131_54 {M : Mm} {st : List Value} {l1 l2 l3 : Option Value} {x : Nat} : EE 131 54 [some (.ref x), l1, l2, l3] st M = EE 131 55 [some (.ref x), l1, l2, l3] (.ref x :: st) M := e_ld d131_54 rfl rfl rfl rfl rfl rfl
theorem d131_55 : decode (cod 131) 55 = .ok (.invokevirtual 137, 3) := by decide +kernel
theorem s131_55 {l0 l1 l2 l3 : Option Value} {a : Nat} {M : Mm} {st : List Value} (hl : st.length ≤ 4) (ho : isO "HandoverDeskModel" M.1 a = true) : EE 131 55 [l0, l1, l2, l3] (.ref a :: st) M = (FF 126 (.ref a :: []) M).bind (fun z => EE 131 58 [l0, l1, l2, l3] (psh z.1 st) z.2) := e_calv (av := []) d131_55 c3_137 rfl rfl rfl r131_126 rfl hl ho
theorem d131_58 : decode (cod 131) 58 = .ok (.ifCond .ne 7, 3) := by decide +kernel
theorem s131_58 {M : Mm} {st : List Value} {l0 l1 l2 l3 : Option Value} {x : Int32} : EE 131 58 [l0, l1, l2, l3] (.int x :: st) M = if x = 0 then EE 131 61 [l0, l1, l2, l3] st M else EE 131 65 [l0, l1, l2, l3] st M := e_ne0 d131_58 (by decide)
theorem d131_61 : decode (cod 131) 61 = .ok (.lconst 0, 1) := by decide +kernel
theorem s131_61 {M : Mm} {st : List Value} {l0 l1 l2 l3 : Option Value} : EE 131 61 [l0, l1, l2, l3] st M = EE 131 62 [l0, l1, l2, l3] (.long 0 :: st) M := e_psh d131_61 rfl rfl rfl
theorem d131_62 : decode (cod 131) 62 = .ok (.goto 14, 3) := by decide +kernel
theorem s131_62 {M : Mm} {st : List Value} {l0 l1 l2 l3 : Option Value} : EE 131 62 [l0, l1, l2, l3] st M = EE 131 76 [l0, l1, l2, l3] st M := e_goto d131_62 (by decide)
theorem d131_65 : decode (cod 131) 65 = .ok (.iload_n 2, 1) := by decide +kernel
theorem s131_65 {M : Mm} {st : List Value} {l0 l1 l3 : Option Value} {x : Int32} : EE 131 65 [l0, l1, some (.int x), l3] st M = EE 131 66 [l0, l1, some (.int x), l3] (.int x :: st) M := e_ld d131_65 rfl rfl rfl rfl rfl rfl
theorem d131_66 : decode (cod 131) 66 = .ok (.i2d, 1) := by decide +kernel
theorem s131_66 {M : Mm} {st : List Value} {l0 l1 l2 l3 : Option Value} {x : Int32} : EE 131 66 [l0, l1, l2, l3] (.int x :: st) M = EE 131 67 [l0, l1, l2, l3] (.double (FP.i2d x) :: st) M := e_U d131_66 rfl rfl rfl rfl rfl (bn_i2d x) rfl
theorem d131_67 : decode (cod 131) 67 = .ok (.aload_n 0, 1) := by decide +kernel
theorem s131_67 {M : Mm} {st : List Value} {l1 l2 l3 : Option Value} {x : Nat} : EE 131 67 [some (.ref x), l1, l2, l3] st M = EE 131 68 [some (.ref x), l1, l2, l3] (.ref x :: st) M := e_ld d131_67 rfl rfl rfl rfl rfl rfl
theorem d131_68 : decode (cod 131) 68 = .ok (.invokevirtual 137, 3) := by decide +kernel
theorem s131_68 {l0 l1 l2 l3 : Option Value} {a : Nat} {M : Mm} {st : List Value} (hl : st.length ≤ 4) (ho : isO "HandoverDeskModel" M.1 a = true) : EE 131 68 [l0, l1, l2, l3] (.ref a :: st) M = (FF 126 (.ref a :: []) M).bind (fun z => EE 131 71 [l0, l1, l2, l3] (psh z.1 st) z.2) := e_calv (av := []) d131_68 c3_137 rfl rfl rfl r131_126 rfl hl ho
theorem d131_71 : decode (cod 131) 71 = .ok (.i2d, 1) := by decide +kernel
theorem s131_71 {M : Mm} {st : List Value} {l0 l1 l2 l3 : Option Value} {x : Int32} : EE 131 71 [l0, l1, l2, l3] (.int x :: st) M = EE 131 72 [l0, l1, l2, l3] (.double (FP.i2d x) :: st) M := e_U d131_71 rfl rfl rfl rfl rfl (bn_i2d x) rfl
theorem d131_72 : decode (cod 131) 72 = .ok (.ddiv, 1) := by decide +kernel
theorem s131_72 {M : Mm} {st : List Value} {l0 l1 l2 l3 : Option Value} {x y : UInt64} (h : FP.ddiv x y &&& 0x7fffffffffffffff ≤ 0x7ff0000000000000) : EE 131 72 [l0, l1, l2, l3] (.double y :: .double x :: st) M = EE 131 73 [l0, l1, l2, l3] (.double (FP.ddiv x y) :: st) M := e_ddiv d131_72 h
theorem d131_73 : decode (cod 131) 73 = .ok (.invokestatic 155, 3) := by decide +kernel
theorem s131_73 {M : Mm} {l0 l1 l2 l3 : Option Value} {b0 : UInt64} {st : List Value} (hl : st.length ≤ 4) : EE 131 73 [l0, l1, l2, l3] (.double b0 :: st) M = (FF 169 [.double b0] M).bind (fun z => EE 131 76 [l0, l1, l2, l3] (psh z.1 st) z.2) := e_cals (av := [.double b0]) d131_73 c3_155 (Or.inl rfl) rfl rfl r131_169 rfl hl
theorem d131_76 : decode (cod 131) 76 = .ok (.lreturn, 1) := by decide +kernel
theorem s131_76 {M : Mm} {l0 l1 l2 l3 : Option Value} {v : Int64} : EE 131 76 [l0, l1, l2, l3] [.long v] M = some (some (.long v), M) := e_lret d131_76 rfl
theorem FE131 {a : Nat} {b0 : Int32} {M : Mm} : FF 131 [.ref a, .int b0] M = EE 131 0 [some (.ref a), some (.int b0), none, none] [] M := FF_eq 131 _ _ (Nat.le_of_ble_eq_true rfl)
theorem d132_0 : decode (cod 132) 0 = .ok (.iconst 0, 1) := by decide +kernel
theorem s132_0 {M : Mm} {st : List Value} {l0 l1 : Option Value} : EE 132 0 [l0, l1] st M = EE 132 1 [l0, l1] (.int (nI 0) :: st) M := e_con d132_0 k_con_0
theorem d132_1 : decode (cod 132) 1 = .ok (.istore_n 1, 1) := by decide +kernel
theorem s132_1 {M : Mm} {st : List Value} {l0 l1 : Option Value} {x : Int32} : EE 132 1 [l0, l1] (.int x :: st) M = EE 132 2 [cln l0, some (.int x)] st M := e_st1 d132_1 rfl rfl rfl rfl rfl rfl rfl (Nat.le_of_ble_eq_true rfl) rfl
theorem d132_2 : decode (cod 132) 2 = .ok (.iload_n 1, 1) := by decide +kernel
theorem s132_2 {M : Mm} {st : List Value} {l0 : Option Value} {x : Int32} : EE 132 2 [l0, some (.int x)] st M = EE 132 3 [l0, some (.int x)] (.int x :: st) M := e_ld d132_2 rfl rfl rfl rfl rfl rfl
theorem d132_3 : decode (cod 132) 3 = .ok (.bipush 60, 2) := by decide +kernel
theorem s132_3 {M : Mm} {st : List Value} {l0 l1 : Option Value} : EE 132 3 [l0, l1] st M = EE 132 5 [l0, l1] (.int (nI 60) :: st) M := e_bip d132_3 k_bip_60
theorem d132_5 : decode (cod 132) 5 = .ok (.if_icmp .gt 43, 3) := by decide +kernel
theorem s132_5 {M : Mm} {st : List Value} {l0 l1 : Option Value} {x y : Int32} : EE 132 5 [l0, l1] (.int y :: .int x :: st) M = if y < x then EE 132 48 [l0, l1] st M else EE 132 8 [l0, l1] st M := e_cgt d132_5 (by decide)
theorem d132_8 : decode (cod 132) 8 = .ok (.aload_n 0, 1) := by decide +kernel
theorem s132_8 {M : Mm} {st : List Value} {l1 : Option Value} {x : Nat} : EE 132 8 [some (.ref x), l1] st M = EE 132 9 [some (.ref x), l1] (.ref x :: st) M := e_ld d132_8 rfl rfl rfl rfl rfl rfl
theorem d132_9 : decode (cod 132) 9 = .ok (.invokevirtual 161, 3) := by decide +kernel
theorem s132_9 {l0 l1 : Option Value} {a : Nat} {M : Mm} {st : List Value} (hl : st.length ≤ 4) (ho : isO "HandoverDeskModel" M.1 a = true) : EE 132 9 [l0, l1] (.ref a :: st) M = (FF 133 (.ref a :: []) M).bind (fun z => EE 132 12 [l0, l1] (psh z.1 st) z.2) := e_calv (av := []) d132_9 c3_161 rfl rfl rfl r132_133 rfl hl ho
theorem d132_12 : decode (cod 132) 12 = .ok (.aload_n 0, 1) := by decide +kernel
theorem s132_12 {M : Mm} {st : List Value} {l1 : Option Value} {x : Nat} : EE 132 12 [some (.ref x), l1] st M = EE 132 13 [some (.ref x), l1] (.ref x :: st) M := e_ld d132_12 rfl rfl rfl rfl rfl rfl
theorem d132_13 : decode (cod 132) 13 = .ok (.getfield 13, 3) := by decide +kernel
theorem s132_13 {n : Nat} {I : Nat → Nat → Int32} {R : Nat → Nat → Option Nat} {st : List Value} {l0 l1 : Option Value} {a : Nat} : EE 132 13 [l0, l1] (.ref a :: st) (n, I, R) = (gfI n I R 3 1 a).bind (fun z => EE 132 16 [l0, l1] (z :: st) (n, I, R)) := e_getf d132_13 f3_13 rfl rfl
theorem d132_16 : decode (cod 132) 16 = .ok (.bipush 26, 2) := by decide +kernel
theorem s132_16 {M : Mm} {st : List Value} {l0 l1 : Option Value} : EE 132 16 [l0, l1] st M = EE 132 18 [l0, l1] (.int (nI 26) :: st) M := e_bip d132_16 k_bip_26
theorem d132_18 : decode (cod 132) 18 = .ok (.aload_n 0, 1) := by decide +kernel
theorem s132_18 {M : Mm} {st : List Value} {l1 : Option Value} {x : Nat} : EE 132 18 [some (.ref x), l1] st M = EE 132 19 [some (.ref x), l1] (.ref x :: st) M := e_ld d132_18 rfl rfl rfl rfl rfl rfl
theorem d132_19 : decode (cod 132) 19 = .ok (.getfield 13, 3) := by decide +kernel
theorem s132_19 {n : Nat} {I : Nat → Nat → Int32} {R : Nat → Nat → Option Nat} {st : List Value} {l0 l1 : Option Value} {a : Nat} : EE 132 19 [l0, l1] (.ref a :: st) (n, I, R) = (gfI n I R 3 1 a).bind (fun z => EE 132 22 [l0, l1] (z :: st) (n, I, R)) := e_getf d132_19 f3_13 rfl rfl
theorem d132_22 : decode (cod 132) 22 = .ok (.iconst 0, 1) := by decide +kernel
theorem s132_22 {M : Mm} {st : List Value} {l0 l1 : Option Value} : EE 132 22 [l0, l1] st M = EE 132 23 [l0, l1] (.int (nI 0) :: st) M := e_con d132_22 k_con_0
theorem d132_23 : decode (cod 132) 23 = .ok (.iaload, 1) := by decide +kernel
theorem s132_23 {n : Nat} {I : Nat → Nat → Int32} {R : Nat → Nat → Option Nat} {st : List Value} {l0 l1 : Option Value} {j : Int32} {a : Nat} : EE 132 23 [l0, l1] (.int j :: .ref a :: st) (n, I, R) = (ardI 5 n I a j).bind (fun z => EE 132 24 [l0, l1] (.int z :: st) (n, I, R)) := e_iald d132_23
theorem d132_24 : decode (cod 132) 24 = .ok (.bipush 12, 2) := by decide +kernel
theorem s132_24 {M : Mm} {st : List Value} {l0 l1 : Option Value} : EE 132 24 [l0, l1] st M = EE 132 26 [l0, l1] (.int (nI 12) :: st) M := e_bip d132_24 k_bip_12
theorem d132_26 : decode (cod 132) 26 = .ok (.irem, 1) := by decide +kernel
theorem s132_26 {M : Mm} {st : List Value} {l0 l1 : Option Value} {x y : Nat} (h1 : x < 2 ^ 31) (h2 : 0 < y) (h3 : y < 2 ^ 31) : EE 132 26 [l0, l1] (.int (nI y) :: .int (nI x) :: st) M = EE 132 27 [l0, l1] (.int (nI (x % y)) :: st) M := e_remN d132_26 h1 h2 h3
theorem d132_27 : decode (cod 132) 27 = .ok (.iadd, 1) := by decide +kernel
theorem s132_27 {M : Mm} {st : List Value} {l0 l1 : Option Value} {x y : Int32} : EE 132 27 [l0, l1] (.int y :: .int x :: st) M = EE 132 28 [l0, l1] (.int (x + y) :: st) M := e_II d132_27 rfl rfl rfl rfl rfl rfl
theorem d132_28 : decode (cod 132) 28 = .ok (.iload_n 1, 1) := by decide +kernel
theorem s132_28 {M : Mm} {st : List Value} {l0 : Option Value} {x : Int32} : EE 132 28 [l0, some (.int x)] st M = EE 132 29 [l0, some (.int x)] (.int x :: st) M := e_ld d132_28 rfl rfl rfl rfl rfl rfl
theorem d132_29 : decode (cod 132) 29 = .ok (.iastore, 1) := by decide +kernel
theorem s132_29 {n : Nat} {I : Nat → Nat → Int32} {R : Nat → Nat → Option Nat} {st : List Value} {l0 l1 : Option Value} {j x : Int32} {a : Nat} (h : acI 5 n a j) : EE 132 29 [l0, l1] (.int x :: .int j :: .ref a :: st) (n, I, R) = EE 132 30 [l0, l1] st (n, wI I a j.toNatClampNeg x, R) := e_iast d132_29 h
theorem d132_30 : decode (cod 132) 30 = .ok (.aload_n 0, 1) := by decide +kernel
theorem s132_30 {M : Mm} {st : List Value} {l1 : Option Value} {x : Nat} : EE 132 30 [some (.ref x), l1] st M = EE 132 31 [some (.ref x), l1] (.ref x :: st) M := e_ld d132_30 rfl rfl rfl rfl rfl rfl
theorem d132_31 : decode (cod 132) 31 = .ok (.getfield 13, 3) := by decide +kernel
theorem s132_31 {n : Nat} {I : Nat → Nat → Int32} {R : Nat → Nat → Option Nat} {st : List Value} {l0 l1 : Option Value} {a : Nat} : EE 132 31 [l0, l1] (.ref a :: st) (n, I, R) = (gfI n I R 3 1 a).bind (fun z => EE 132 34 [l0, l1] (z :: st) (n, I, R)) := e_getf d132_31 f3_13 rfl rfl
theorem d132_34 : decode (cod 132) 34 = .ok (.invokestatic 133, 3) := by decide +kernel
theorem s132_34 {M : Mm} {l0 l1 : Option Value} {b0 : Nat} {st : List Value} (hl : st.length ≤ 4) : EE 132 34 [l0, l1] (.ref b0 :: st) M = (FF 115 [.ref b0] M).bind (fun z => EE 132 37 [l0, l1] (psh z.1 st) z.2) := e_cals (av := [.ref b0]) d132_34 c3_133 (Or.inl rfl) rfl rfl r132_115 rfl hl
theorem d132_37 : decode (cod 132) 37 = .ok (.ifCond .ne 5, 3) := by decide +kernel
theorem s132_37 {M : Mm} {st : List Value} {l0 l1 : Option Value} {x : Int32} : EE 132 37 [l0, l1] (.int x :: st) M = if x = 0 then EE 132 40 [l0, l1] st M else EE 132 42 [l0, l1] st M := e_ne0 d132_37 (by decide)
theorem d132_40 : decode (cod 132) 40 = .ok (.iload_n 1, 1) := by decide +kernel
theorem s132_40 {M : Mm} {st : List Value} {l0 : Option Value} {x : Int32} : EE 132 40 [l0, some (.int x)] st M = EE 132 41 [l0, some (.int x)] (.int x :: st) M := e_ld d132_40 rfl rfl rfl rfl rfl rfl
theorem d132_41 : decode (cod 132) 41 = .ok (.ireturn, 1) := by decide +kernel
theorem s132_41 {M : Mm} {l0 l1 : Option Value} {v : Int32} : EE 132 41 [l0, l1] [.int v] M = some (some (.int v), M) := e_iret d132_41 rfl rfl
theorem d132_42 : decode (cod 132) 42 = .ok (.iinc 1 1, 3) := by decide +kernel
theorem s132_42 {M : Mm} {st : List Value} {l0 : Option Value} {x : Int32} : EE 132 42 [l0, some (.int x)] st M = EE 132 45 [cln l0, some (.int (x + nI 1))] st M := e_iinc d132_42 rfl (congrArg (fun z => x + z) k_inc_1) rfl
theorem d132_45 : decode (cod 132) 45 = .ok (.goto (-43), 3) := by decide +kernel
theorem s132_45 {M : Mm} {st : List Value} {l0 l1 : Option Value} : EE 132 45 [l0, l1] st M = EE 132 2 [l0, l1] st M := e_goto d132_45 (by decide)
theorem d132_48 : decode (cod 132) 48 = .ok (.bipush (-6), 2) := by decide +kernel
theorem s132_48 {M : Mm} {st : List Value} {l0 l1 : Option Value} : EE 132 48 [l0, l1] st M = EE 132 50 [l0, l1] (.int ((-6)) :: st) M := e_bip d132_48 k_bip_m6
theorem d132_50 : decode (cod 132) 50 = .ok (.ireturn, 1) := by decide +kernel
theorem s132_50 {M : Mm} {l0 l1 : Option Value} {v : Int32} : EE 132 50 [l0, l1] [.int v] M = some (some (.int v), M) := e_iret d132_50 rfl rfl
theorem FE132 {a : Nat} {M : Mm} : FF 132 [.ref a] M = EE 132 0 [some (.ref a), none] [] M := FF_eq 132 _ _ (Nat.le_of_ble_eq_true rfl)
