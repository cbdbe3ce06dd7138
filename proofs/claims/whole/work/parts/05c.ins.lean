theorem d20_0 : decode (cod 20) 0 = .ok (.aload_n 0, 1) := by decide +kernel
theorem s20_0 {M : Mm} {st : List Value} {l1 l2 l3 : Option Value} {x : Nat} : EE 20 0 [some (.ref x), l1, l2, l3] st M = EE 20 1 [some (.ref x), l1, l2, l3] (.ref x :: st) M := e_ld d20_0 rfl rfl rfl rfl rfl rfl
theorem d20_1 : decode (cod 20) 1 = .ok (.iload_n 1, 1) := by decide +kernel
theorem s20_1 {M : Mm} {st : List Value} {l0 l2 l3 : Option Value} {x : Int32} : EE 20 1 [l0, some (.int x), l2, l3] st M = EE 20 2 [l0, some (.int x), l2, l3] (.int x :: st) M := e_ld d20_1 rfl rfl rfl rfl rfl rfl
theorem d20_2 : decode (cod 20) 2 = .ok (.invokevirtual 85, 3) := by decide +kernel
theorem s20_2 {l0 l1 l2 l3 : Option Value} {a : Nat} {M : Mm} {b0 : Int32} {st : List Value} (hl : st.length ≤ 4) (ho : isO "HandoverDesk$State" M.1 a = true) : EE 20 2 [l0, l1, l2, l3] (.int b0 :: .ref a :: st) M = (FF 18 (.ref a :: [.int b0]) M).bind (fun z => EE 20 5 [l0, l1, l2, l3] (psh z.1 st) z.2) := e_calv (av := [.int b0]) d20_2 c1_85 rfl rfl rfl r20_18 rfl hl ho
theorem d20_5 : decode (cod 20) 5 = .ok (.ifCond .ne 5, 3) := by decide +kernel
theorem s20_5 {M : Mm} {st : List Value} {l0 l1 l2 l3 : Option Value} {x : Int32} : EE 20 5 [l0, l1, l2, l3] (.int x :: st) M = if x = 0 then EE 20 8 [l0, l1, l2, l3] st M else EE 20 10 [l0, l1, l2, l3] st M := e_ne0 d20_5 (by decide)
theorem d20_8 : decode (cod 20) 8 = .ok (.iconst (-1), 1) := by decide +kernel
theorem s20_8 {M : Mm} {st : List Value} {l0 l1 l2 l3 : Option Value} : EE 20 8 [l0, l1, l2, l3] st M = EE 20 9 [l0, l1, l2, l3] (.int ((-1)) :: st) M := e_con d20_8 k_con_m1
theorem d20_9 : decode (cod 20) 9 = .ok (.ireturn, 1) := by decide +kernel
theorem s20_9 {M : Mm} {l0 l1 l2 l3 : Option Value} {v : Int32} : EE 20 9 [l0, l1, l2, l3] [.int v] M = some (some (.int v), M) := e_iret d20_9 rfl rfl
theorem d20_10 : decode (cod 20) 10 = .ok (.aload_n 0, 1) := by decide +kernel
theorem s20_10 {M : Mm} {st : List Value} {l1 l2 l3 : Option Value} {x : Nat} : EE 20 10 [some (.ref x), l1, l2, l3] st M = EE 20 11 [some (.ref x), l1, l2, l3] (.ref x :: st) M := e_ld d20_10 rfl rfl rfl rfl rfl rfl
theorem d20_11 : decode (cod 20) 11 = .ok (.iload_n 1, 1) := by decide +kernel
theorem s20_11 {M : Mm} {st : List Value} {l0 l2 l3 : Option Value} {x : Int32} : EE 20 11 [l0, some (.int x), l2, l3] st M = EE 20 12 [l0, some (.int x), l2, l3] (.int x :: st) M := e_ld d20_11 rfl rfl rfl rfl rfl rfl
theorem d20_12 : decode (cod 20) 12 = .ok (.invokevirtual 123, 3) := by decide +kernel
theorem s20_12 {l0 l1 l2 l3 : Option Value} {a : Nat} {M : Mm} {b0 : Int32} {st : List Value} (hl : st.length ≤ 4) (ho : isO "HandoverDesk$State" M.1 a = true) : EE 20 12 [l0, l1, l2, l3] (.int b0 :: .ref a :: st) M = (FF 21 (.ref a :: [.int b0]) M).bind (fun z => EE 20 15 [l0, l1, l2, l3] (psh z.1 st) z.2) := e_calv (av := [.int b0]) d20_12 c1_123 rfl rfl rfl r20_21 rfl hl ho
theorem d20_15 : decode (cod 20) 15 = .ok (.istore_n 2, 1) := by decide +kernel
theorem s20_15 {M : Mm} {st : List Value} {l0 l1 l2 l3 : Option Value} {x : Int32} : EE 20 15 [l0, l1, l2, l3] (.int x :: st) M = EE 20 16 [l0, cln l1, some (.int x), l3] st M := e_st1 d20_15 rfl rfl rfl rfl rfl rfl rfl (Nat.le_of_ble_eq_true rfl) rfl
theorem d20_16 : decode (cod 20) 16 = .ok (.iload_n 2, 1) := by decide +kernel
theorem s20_16 {M : Mm} {st : List Value} {l0 l1 l3 : Option Value} {x : Int32} : EE 20 16 [l0, l1, some (.int x), l3] st M = EE 20 17 [l0, l1, some (.int x), l3] (.int x :: st) M := e_ld d20_16 rfl rfl rfl rfl rfl rfl
theorem d20_17 : decode (cod 20) 17 = .ok (.ifCond .lt 46, 3) := by decide +kernel
theorem s20_17 {M : Mm} {st : List Value} {l0 l1 l2 l3 : Option Value} {x : Int32} : EE 20 17 [l0, l1, l2, l3] (.int x :: st) M = if x < 0 then EE 20 63 [l0, l1, l2, l3] st M else EE 20 20 [l0, l1, l2, l3] st M := e_lt0 d20_17 (by decide)
theorem d20_20 : decode (cod 20) 20 = .ok (.aload_n 0, 1) := by decide +kernel
theorem s20_20 {M : Mm} {st : List Value} {l1 l2 l3 : Option Value} {x : Nat} : EE 20 20 [some (.ref x), l1, l2, l3] st M = EE 20 21 [some (.ref x), l1, l2, l3] (.ref x :: st) M := e_ld d20_20 rfl rfl rfl rfl rfl rfl
theorem d20_21 : decode (cod 20) 21 = .ok (.dup, 1) := by decide +kernel
theorem s20_21i {M : Mm} {st : List Value} {l0 l1 l2 l3 : Option Value} {x : Int32} : EE 20 21 [l0, l1, l2, l3] (.int x :: st) M = EE 20 22 [l0, l1, l2, l3] (.int x :: .int x :: st) M := e_dup d20_21 rfl
theorem s20_21r {M : Mm} {st : List Value} {l0 l1 l2 l3 : Option Value} {x : Nat} : EE 20 21 [l0, l1, l2, l3] (.ref x :: st) M = EE 20 22 [l0, l1, l2, l3] (.ref x :: .ref x :: st) M := e_dup d20_21 rfl
theorem d20_22 : decode (cod 20) 22 = .ok (.getfield 54, 3) := by decide +kernel
theorem s20_22 {n : Nat} {I : Nat → Nat → Int32} {R : Nat → Nat → Option Nat} {st : List Value} {l0 l1 l2 l3 : Option Value} {a : Nat} : EE 20 22 [l0, l1, l2, l3] (.ref a :: st) (n, I, R) = (gfI n I R 1 10 a).bind (fun z => EE 20 25 [l0, l1, l2, l3] (z :: st) (n, I, R)) := e_getf d20_22 f1_54 rfl rfl
theorem d20_25 : decode (cod 20) 25 = .ok (.iconst 1, 1) := by decide +kernel
theorem s20_25 {M : Mm} {st : List Value} {l0 l1 l2 l3 : Option Value} : EE 20 25 [l0, l1, l2, l3] st M = EE 20 26 [l0, l1, l2, l3] (.int (nI 1) :: st) M := e_con d20_25 k_con_1
theorem d20_26 : decode (cod 20) 26 = .ok (.isub, 1) := by decide +kernel
theorem s20_26 {M : Mm} {st : List Value} {l0 l1 l2 l3 : Option Value} {x y : Int32} : EE 20 26 [l0, l1, l2, l3] (.int y :: .int x :: st) M = EE 20 27 [l0, l1, l2, l3] (.int (x - y) :: st) M := e_II d20_26 rfl rfl rfl rfl rfl rfl
theorem d20_27 : decode (cod 20) 27 = .ok (.putfield 54, 3) := by decide +kernel
theorem s20_27 {n : Nat} {I : Nat → Nat → Int32} {R : Nat → Nat → Option Nat} {st : List Value} {l0 l1 l2 l3 : Option Value} {a : Nat} {v : Value} : EE 20 27 [l0, l1, l2, l3] (v :: .ref a :: st) (n, I, R) = (pfI n I R 1 10 a v).bind (fun z => EE 20 30 [l0, l1, l2, l3] st (n, z.1, z.2)) := e_putf d20_27 f1_54 rfl rfl (Or.inr rfl)
theorem d20_30 : decode (cod 20) 30 = .ok (.iload_n 2, 1) := by decide +kernel
theorem s20_30 {M : Mm} {st : List Value} {l0 l1 l3 : Option Value} {x : Int32} : EE 20 30 [l0, l1, some (.int x), l3] st M = EE 20 31 [l0, l1, some (.int x), l3] (.int x :: st) M := e_ld d20_30 rfl rfl rfl rfl rfl rfl
theorem d20_31 : decode (cod 20) 31 = .ok (.istore_n 3, 1) := by decide +kernel
theorem s20_31 {M : Mm} {st : List Value} {l0 l1 l2 l3 : Option Value} {x : Int32} : EE 20 31 [l0, l1, l2, l3] (.int x :: st) M = EE 20 32 [l0, l1, cln l2, some (.int x)] st M := e_st1 d20_31 rfl rfl rfl rfl rfl rfl rfl (Nat.le_of_ble_eq_true rfl) rfl
theorem d20_32 : decode (cod 20) 32 = .ok (.iload_n 3, 1) := by decide +kernel
theorem s20_32 {M : Mm} {st : List Value} {l0 l1 l2 : Option Value} {x : Int32} : EE 20 32 [l0, l1, l2, some (.int x)] st M = EE 20 33 [l0, l1, l2, some (.int x)] (.int x :: st) M := e_ld d20_32 rfl rfl rfl rfl rfl rfl
theorem d20_33 : decode (cod 20) 33 = .ok (.aload_n 0, 1) := by decide +kernel
theorem s20_33 {M : Mm} {st : List Value} {l1 l2 l3 : Option Value} {x : Nat} : EE 20 33 [some (.ref x), l1, l2, l3] st M = EE 20 34 [some (.ref x), l1, l2, l3] (.ref x :: st) M := e_ld d20_33 rfl rfl rfl rfl rfl rfl
theorem d20_34 : decode (cod 20) 34 = .ok (.getfield 54, 3) := by decide +kernel
theorem s20_34 {n : Nat} {I : Nat → Nat → Int32} {R : Nat → Nat → Option Nat} {st : List Value} {l0 l1 l2 l3 : Option Value} {a : Nat} : EE 20 34 [l0, l1, l2, l3] (.ref a :: st) (n, I, R) = (gfI n I R 1 10 a).bind (fun z => EE 20 37 [l0, l1, l2, l3] (z :: st) (n, I, R)) := e_getf d20_34 f1_54 rfl rfl
theorem d20_37 : decode (cod 20) 37 = .ok (.if_icmp .ge 23, 3) := by decide +kernel
theorem s20_37 {M : Mm} {st : List Value} {l0 l1 l2 l3 : Option Value} {x y : Int32} : EE 20 37 [l0, l1, l2, l3] (.int y :: .int x :: st) M = if y ≤ x then EE 20 60 [l0, l1, l2, l3] st M else EE 20 40 [l0, l1, l2, l3] st M := e_cge d20_37 (by decide)
theorem d20_40 : decode (cod 20) 40 = .ok (.aload_n 0, 1) := by decide +kernel
theorem s20_40 {M : Mm} {st : List Value} {l1 l2 l3 : Option Value} {x : Nat} : EE 20 40 [some (.ref x), l1, l2, l3] st M = EE 20 41 [some (.ref x), l1, l2, l3] (.ref x :: st) M := e_ld d20_40 rfl rfl rfl rfl rfl rfl
theorem d20_41 : decode (cod 20) 41 = .ok (.getfield 35, 3) := by decide +kernel
theorem s20_41 {n : Nat} {I : Nat → Nat → Int32} {R : Nat → Nat → Option Nat} {st : List Value} {l0 l1 l2 l3 : Option Value} {a : Nat} : EE 20 41 [l0, l1, l2, l3] (.ref a :: st) (n, I, R) = (gfI n I R 1 4 a).bind (fun z => EE 20 44 [l0, l1, l2, l3] (z :: st) (n, I, R)) := e_getf d20_41 f1_35 rfl rfl
theorem d20_44 : decode (cod 20) 44 = .ok (.iload_n 3, 1) := by decide +kernel
theorem s20_44 {M : Mm} {st : List Value} {l0 l1 l2 : Option Value} {x : Int32} : EE 20 44 [l0, l1, l2, some (.int x)] st M = EE 20 45 [l0, l1, l2, some (.int x)] (.int x :: st) M := e_ld d20_44 rfl rfl rfl rfl rfl rfl
theorem d20_45 : decode (cod 20) 45 = .ok (.aload_n 0, 1) := by decide +kernel
theorem s20_45 {M : Mm} {st : List Value} {l1 l2 l3 : Option Value} {x : Nat} : EE 20 45 [some (.ref x), l1, l2, l3] st M = EE 20 46 [some (.ref x), l1, l2, l3] (.ref x :: st) M := e_ld d20_45 rfl rfl rfl rfl rfl rfl
theorem d20_46 : decode (cod 20) 46 = .ok (.getfield 35, 3) := by decide +kernel
theorem s20_46 {n : Nat} {I : Nat → Nat → Int32} {R : Nat → Nat → Option Nat} {st : List Value} {l0 l1 l2 l3 : Option Value} {a : Nat} : EE 20 46 [l0, l1, l2, l3] (.ref a :: st) (n, I, R) = (gfI n I R 1 4 a).bind (fun z => EE 20 49 [l0, l1, l2, l3] (z :: st) (n, I, R)) := e_getf d20_46 f1_35 rfl rfl
theorem d20_49 : decode (cod 20) 49 = .ok (.iload_n 3, 1) := by decide +kernel
theorem s20_49 {M : Mm} {st : List Value} {l0 l1 l2 : Option Value} {x : Int32} : EE 20 49 [l0, l1, l2, some (.int x)] st M = EE 20 50 [l0, l1, l2, some (.int x)] (.int x :: st) M := e_ld d20_49 rfl rfl rfl rfl rfl rfl
theorem d20_50 : decode (cod 20) 50 = .ok (.iconst 1, 1) := by decide +kernel
theorem s20_50 {M : Mm} {st : List Value} {l0 l1 l2 l3 : Option Value} : EE 20 50 [l0, l1, l2, l3] st M = EE 20 51 [l0, l1, l2, l3] (.int (nI 1) :: st) M := e_con d20_50 k_con_1
theorem d20_51 : decode (cod 20) 51 = .ok (.iadd, 1) := by decide +kernel
theorem s20_51 {M : Mm} {st : List Value} {l0 l1 l2 l3 : Option Value} {x y : Int32} : EE 20 51 [l0, l1, l2, l3] (.int y :: .int x :: st) M = EE 20 52 [l0, l1, l2, l3] (.int (x + y) :: st) M := e_II d20_51 rfl rfl rfl rfl rfl rfl
theorem d20_52 : decode (cod 20) 52 = .ok (.iaload, 1) := by decide +kernel
theorem s20_52 {n : Nat} {I : Nat → Nat → Int32} {R : Nat → Nat → Option Nat} {st : List Value} {l0 l1 l2 l3 : Option Value} {j : Int32} {a : Nat} : EE 20 52 [l0, l1, l2, l3] (.int j :: .ref a :: st) (n, I, R) = (ardI 5 n I a j).bind (fun z => EE 20 53 [l0, l1, l2, l3] (.int z :: st) (n, I, R)) := e_iald d20_52
theorem d20_53 : decode (cod 20) 53 = .ok (.iastore, 1) := by decide +kernel
theorem s20_53 {n : Nat} {I : Nat → Nat → Int32} {R : Nat → Nat → Option Nat} {st : List Value} {l0 l1 l2 l3 : Option Value} {j x : Int32} {a : Nat} (h : acI 5 n a j) : EE 20 53 [l0, l1, l2, l3] (.int x :: .int j :: .ref a :: st) (n, I, R) = EE 20 54 [l0, l1, l2, l3] st (n, wI I a j.toNatClampNeg x, R) := e_iast d20_53 h
theorem d20_54 : decode (cod 20) 54 = .ok (.iinc 3 1, 3) := by decide +kernel
theorem s20_54 {M : Mm} {st : List Value} {l0 l1 l2 : Option Value} {x : Int32} : EE 20 54 [l0, l1, l2, some (.int x)] st M = EE 20 57 [l0, l1, cln l2, some (.int (x + nI 1))] st M := e_iinc d20_54 rfl (congrArg (fun z => x + z) k_inc_1) rfl
theorem d20_57 : decode (cod 20) 57 = .ok (.goto (-25), 3) := by decide +kernel
theorem s20_57 {M : Mm} {st : List Value} {l0 l1 l2 l3 : Option Value} : EE 20 57 [l0, l1, l2, l3] st M = EE 20 32 [l0, l1, l2, l3] st M := e_goto d20_57 (by decide)
theorem d20_60 : decode (cod 20) 60 = .ok (.goto 32, 3) := by decide +kernel
theorem s20_60 {M : Mm} {st : List Value} {l0 l1 l2 l3 : Option Value} : EE 20 60 [l0, l1, l2, l3] st M = EE 20 92 [l0, l1, l2, l3] st M := e_goto d20_60 (by decide)
theorem d20_63 : decode (cod 20) 63 = .ok (.aload_n 0, 1) := by decide +kernel
theorem s20_63 {M : Mm} {st : List Value} {l1 l2 l3 : Option Value} {x : Nat} : EE 20 63 [some (.ref x), l1, l2, l3] st M = EE 20 64 [some (.ref x), l1, l2, l3] (.ref x :: st) M := e_ld d20_63 rfl rfl rfl rfl rfl rfl
theorem d20_64 : decode (cod 20) 64 = .ok (.getfield 54, 3) := by decide +kernel
theorem s20_64 {n : Nat} {I : Nat → Nat → Int32} {R : Nat → Nat → Option Nat} {st : List Value} {l0 l1 l2 l3 : Option Value} {a : Nat} : EE 20 64 [l0, l1, l2, l3] (.ref a :: st) (n, I, R) = (gfI n I R 1 10 a).bind (fun z => EE 20 67 [l0, l1, l2, l3] (z :: st) (n, I, R)) := e_getf d20_64 f1_54 rfl rfl
theorem d20_67 : decode (cod 20) 67 = .ok (.bipush 10, 2) := by decide +kernel
theorem s20_67 {M : Mm} {st : List Value} {l0 l1 l2 l3 : Option Value} : EE 20 67 [l0, l1, l2, l3] st M = EE 20 69 [l0, l1, l2, l3] (.int (nI 10) :: st) M := e_bip d20_67 k_bip_10
theorem d20_69 : decode (cod 20) 69 = .ok (.if_icmp .ge 23, 3) := by decide +kernel
theorem s20_69 {M : Mm} {st : List Value} {l0 l1 l2 l3 : Option Value} {x y : Int32} : EE 20 69 [l0, l1, l2, l3] (.int y :: .int x :: st) M = if y ≤ x then EE 20 92 [l0, l1, l2, l3] st M else EE 20 72 [l0, l1, l2, l3] st M := e_cge d20_69 (by decide)
theorem d20_72 : decode (cod 20) 72 = .ok (.aload_n 0, 1) := by decide +kernel
theorem s20_72 {M : Mm} {st : List Value} {l1 l2 l3 : Option Value} {x : Nat} : EE 20 72 [some (.ref x), l1, l2, l3] st M = EE 20 73 [some (.ref x), l1, l2, l3] (.ref x :: st) M := e_ld d20_72 rfl rfl rfl rfl rfl rfl
theorem d20_73 : decode (cod 20) 73 = .ok (.getfield 35, 3) := by decide +kernel
theorem s20_73 {n : Nat} {I : Nat → Nat → Int32} {R : Nat → Nat → Option Nat} {st : List Value} {l0 l1 l2 l3 : Option Value} {a : Nat} : EE 20 73 [l0, l1, l2, l3] (.ref a :: st) (n, I, R) = (gfI n I R 1 4 a).bind (fun z => EE 20 76 [l0, l1, l2, l3] (z :: st) (n, I, R)) := e_getf d20_73 f1_35 rfl rfl
theorem d20_76 : decode (cod 20) 76 = .ok (.aload_n 0, 1) := by decide +kernel
theorem s20_76 {M : Mm} {st : List Value} {l1 l2 l3 : Option Value} {x : Nat} : EE 20 76 [some (.ref x), l1, l2, l3] st M = EE 20 77 [some (.ref x), l1, l2, l3] (.ref x :: st) M := e_ld d20_76 rfl rfl rfl rfl rfl rfl
theorem d20_77 : decode (cod 20) 77 = .ok (.getfield 54, 3) := by decide +kernel
theorem s20_77 {n : Nat} {I : Nat → Nat → Int32} {R : Nat → Nat → Option Nat} {st : List Value} {l0 l1 l2 l3 : Option Value} {a : Nat} : EE 20 77 [l0, l1, l2, l3] (.ref a :: st) (n, I, R) = (gfI n I R 1 10 a).bind (fun z => EE 20 80 [l0, l1, l2, l3] (z :: st) (n, I, R)) := e_getf d20_77 f1_54 rfl rfl
theorem d20_80 : decode (cod 20) 80 = .ok (.iload_n 1, 1) := by decide +kernel
theorem s20_80 {M : Mm} {st : List Value} {l0 l2 l3 : Option Value} {x : Int32} : EE 20 80 [l0, some (.int x), l2, l3] st M = EE 20 81 [l0, some (.int x), l2, l3] (.int x :: st) M := e_ld d20_80 rfl rfl rfl rfl rfl rfl
theorem d20_81 : decode (cod 20) 81 = .ok (.iastore, 1) := by decide +kernel
theorem s20_81 {n : Nat} {I : Nat → Nat → Int32} {R : Nat → Nat → Option Nat} {st : List Value} {l0 l1 l2 l3 : Option Value} {j x : Int32} {a : Nat} (h : acI 5 n a j) : EE 20 81 [l0, l1, l2, l3] (.int x :: .int j :: .ref a :: st) (n, I, R) = EE 20 82 [l0, l1, l2, l3] st (n, wI I a j.toNatClampNeg x, R) := e_iast d20_81 h
theorem d20_82 : decode (cod 20) 82 = .ok (.aload_n 0, 1) := by decide +kernel
theorem s20_82 {M : Mm} {st : List Value} {l1 l2 l3 : Option Value} {x : Nat} : EE 20 82 [some (.ref x), l1, l2, l3] st M = EE 20 83 [some (.ref x), l1, l2, l3] (.ref x :: st) M := e_ld d20_82 rfl rfl rfl rfl rfl rfl
theorem d20_83 : decode (cod 20) 83 = .ok (.dup, 1) := by decide +kernel
theorem s20_83i {M : Mm} {st : List Value} {l0 l1 l2 l3 : Option Value} {x : Int32} : EE 20 83 [l0, l1, l2, l3] (.int x :: st) M = EE 20 84 [l0, l1, l2, l3] (.int x :: .int x :: st) M := e_dup d20_83 rfl
theorem s20_83r {M : Mm} {st : List Value} {l0 l1 l2 l3 : Option Value} {x : Nat} : EE 20 83 [l0, l1, l2, l3] (.ref x :: st) M = EE 20 84 [l0, l1, l2, l3] (.ref x :: .ref x :: st) M := e_dup d20_83 rfl
theorem d20_84 : decode (cod 20) 84 = .ok (.getfield 54, 3) := by decide +kernel
theorem s20_84 {n : Nat} {I : Nat → Nat → Int32} {R : Nat → Nat → Option Nat} {st : List Value} {l0 l1 l2 l3 : Option Value} {a : Nat} : EE 20 84 [l0, l1, l2, l3] (.ref a :: st) (n, I, R) = (gfI n I R 1 10 a).bind (fun z => EE 20 87 [l0, l1, l2, l3] (z :: st) (n, I, R)) := e_getf d20_84 f1_54 rfl rfl
theorem d20_87 : decode (cod 20) 87 = .ok (.iconst 1, 1) := by decide +kernel
theorem s20_87 {M : Mm} {st : List Value} {l0 l1 l2 l3 : Option Value} : EE 20 87 [l0, l1, l2, l3] st M = EE 20 88 [l0, l1, l2, l3] (.int (nI 1) :: st) M := e_con d20_87 k_con_1
theorem d20_88 : decode (cod 20) 88 = .ok (.iadd, 1) := by decide +kernel
theorem s20_88 {M : Mm} {st : List Value} {l0 l1 l2 l3 : Option Value} {x y : Int32} : EE 20 88 [l0, l1, l2, l3] (.int y :: .int x :: st) M = EE 20 89 [l0, l1, l2, l3] (.int (x + y) :: st) M := e_II d20_88 rfl rfl rfl rfl rfl rfl
theorem d20_89 : decode (cod 20) 89 = .ok (.putfield 54, 3) := by decide +kernel
theorem s20_89 {n : Nat} {I : Nat → Nat → Int32} {R : Nat → Nat → Option Nat} {st : List Value} {l0 l1 l2 l3 : Option Value} {a : Nat} {v : Value} : EE 20 89 [l0, l1, l2, l3] (v :: .ref a :: st) (n, I, R) = (pfI n I R 1 10 a v).bind (fun z => EE 20 92 [l0, l1, l2, l3] st (n, z.1, z.2)) := e_putf d20_89 f1_54 rfl rfl (Or.inr rfl)
theorem d20_92 : decode (cod 20) 92 = .ok (.aload_n 0, 1) := by decide +kernel
theorem s20_92 {M : Mm} {st : List Value} {l1 l2 l3 : Option Value} {x : Nat} : EE 20 92 [some (.ref x), l1, l2, l3] st M = EE 20 93 [some (.ref x), l1, l2, l3] (.ref x :: st) M := e_ld d20_92 rfl rfl rfl rfl rfl rfl
theorem d20_93 : decode (cod 20) 93 = .ok (.getfield 54, 3) := by decide +kernel
theorem s20_93 {n : Nat} {I : Nat → Nat → Int32} {R : Nat → Nat → Option Nat} {st : List Value} {l0 l1 l2 l3 : Option Value} {a : Nat} : EE 20 93 [l0, l1, l2, l3] (.ref a :: st) (n, I, R) = (gfI n I R 1 10 a).bind (fun z => EE 20 96 [l0, l1, l2, l3] (z :: st) (n, I, R)) := e_getf d20_93 f1_54 rfl rfl
theorem d20_96 : decode (cod 20) 96 = .ok (.ireturn, 1) := by decide +kernel
theorem s20_96 {M : Mm} {l0 l1 l2 l3 : Option Value} {v : Int32} : EE 20 96 [l0, l1, l2, l3] [.int v] M = some (some (.int v), M) := e_iret d20_96 rfl rfl
theorem FE20 {a : Nat} {b0 : Int32} {M : Mm} : FF 20 [.ref a, .int b0] M = EE 20 0 [some (.ref a), some (.int b0), none, none] [] M := FF_eq 20 _ _ (Nat.le_of_ble_eq_true rfl)
theorem d21_0 : decode (cod 21) 0 = .ok (.iconst 0, 1) := by decide +kernel
theorem s21_0 {M : Mm} {st : List Value} {l0 l1 l2 : Option Value} : EE 21 0 [l0, l1, l2] st M = EE 21 1 [l0, l1, l2] (.int (nI 0) :: st) M := e_con d21_0 k_con_0
theorem d21_1 : decode (cod 21) 1 = .ok (.istore_n 2, 1) := by decide +kernel
theorem s21_1 {M : Mm} {st : List Value} {l0 l1 l2 : Option Value} {x : Int32} : EE 21 1 [l0, l1, l2] (.int x :: st) M = EE 21 2 [l0, cln l1, some (.int x)] st M := e_st1 d21_1 rfl rfl rfl rfl rfl rfl rfl (Nat.le_of_ble_eq_true rfl) rfl
theorem d21_2 : decode (cod 21) 2 = .ok (.iload_n 2, 1) := by decide +kernel
theorem s21_2 {M : Mm} {st : List Value} {l0 l1 : Option Value} {x : Int32} : EE 21 2 [l0, l1, some (.int x)] st M = EE 21 3 [l0, l1, some (.int x)] (.int x :: st) M := e_ld d21_2 rfl rfl rfl rfl rfl rfl
theorem d21_3 : decode (cod 21) 3 = .ok (.aload_n 0, 1) := by decide +kernel
theorem s21_3 {M : Mm} {st : List Value} {l1 l2 : Option Value} {x : Nat} : EE 21 3 [some (.ref x), l1, l2] st M = EE 21 4 [some (.ref x), l1, l2] (.ref x :: st) M := e_ld d21_3 rfl rfl rfl rfl rfl rfl
theorem d21_4 : decode (cod 21) 4 = .ok (.getfield 54, 3) := by decide +kernel
theorem s21_4 {n : Nat} {I : Nat → Nat → Int32} {R : Nat → Nat → Option Nat} {st : List Value} {l0 l1 l2 : Option Value} {a : Nat} : EE 21 4 [l0, l1, l2] (.ref a :: st) (n, I, R) = (gfI n I R 1 10 a).bind (fun z => EE 21 7 [l0, l1, l2] (z :: st) (n, I, R)) := e_getf d21_4 f1_54 rfl rfl
theorem d21_7 : decode (cod 21) 7 = .ok (.if_icmp .ge 21, 3) := by decide +kernel
theorem s21_7 {M : Mm} {st : List Value} {l0 l1 l2 : Option Value} {x y : Int32} : EE 21 7 [l0, l1, l2] (.int y :: .int x :: st) M = if y ≤ x then EE 21 28 [l0, l1, l2] st M else EE 21 10 [l0, l1, l2] st M := e_cge d21_7 (by decide)
theorem d21_10 : decode (cod 21) 10 = .ok (.aload_n 0, 1) := by decide +kernel
theorem s21_10 {M : Mm} {st : List Value} {l1 l2 : Option Value} {x : Nat} : EE 21 10 [some (.ref x), l1, l2] st M = EE 21 11 [some (.ref x), l1, l2] (.ref x :: st) M := e_ld d21_10 rfl rfl rfl rfl rfl rfl
theorem d21_11 : decode (cod 21) 11 = .ok (.getfield 35, 3) := by decide +kernel
theorem s21_11 {n : Nat} {I : Nat → Nat → Int32} {R : Nat → Nat → Option Nat} {st : List Value} {l0 l1 l2 : Option Value} {a : Nat} : EE 21 11 [l0, l1, l2] (.ref a :: st) (n, I, R) = (gfI n I R 1 4 a).bind (fun z => EE 21 14 [l0, l1, l2] (z :: st) (n, I, R)) := e_getf d21_11 f1_35 rfl rfl
theorem d21_14 : decode (cod 21) 14 = .ok (.iload_n 2, 1) := by decide +kernel
theorem s21_14 {M : Mm} {st : List Value} {l0 l1 : Option Value} {x : Int32} : EE 21 14 [l0, l1, some (.int x)] st M = EE 21 15 [l0, l1, some (.int x)] (.int x :: st) M := e_ld d21_14 rfl rfl rfl rfl rfl rfl
theorem d21_15 : decode (cod 21) 15 = .ok (.iaload, 1) := by decide +kernel
theorem s21_15 {n : Nat} {I : Nat → Nat → Int32} {R : Nat → Nat → Option Nat} {st : List Value} {l0 l1 l2 : Option Value} {j : Int32} {a : Nat} : EE 21 15 [l0, l1, l2] (.int j :: .ref a :: st) (n, I, R) = (ardI 5 n I a j).bind (fun z => EE 21 16 [l0, l1, l2] (.int z :: st) (n, I, R)) := e_iald d21_15
theorem d21_16 : decode (cod 21) 16 = .ok (.iload_n 1, 1) := by decide +kernel
theorem s21_16 {M : Mm} {st : List Value} {l0 l2 : Option Value} {x : Int32} : EE 21 16 [l0, some (.int x), l2] st M = EE 21 17 [l0, some (.int x), l2] (.int x :: st) M := e_ld d21_16 rfl rfl rfl rfl rfl rfl
theorem d21_17 : decode (cod 21) 17 = .ok (.if_icmp .ne 5, 3) := by decide +kernel
theorem s21_17 {M : Mm} {st : List Value} {l0 l1 l2 : Option Value} {x y : Int32} : EE 21 17 [l0, l1, l2] (.int y :: .int x :: st) M = if x = y then EE 21 20 [l0, l1, l2] st M else EE 21 22 [l0, l1, l2] st M := e_cne d21_17 (by decide)
theorem d21_20 : decode (cod 21) 20 = .ok (.iload_n 2, 1) := by decide +kernel
theorem s21_20 {M : Mm} {st : List Value} {l0 l1 : Option Value} {x : Int32} : EE 21 20 [l0, l1, some (.int x)] st M = EE 21 21 [l0, l1, some (.int x)] (.int x :: st) M := e_ld d21_20 rfl rfl rfl rfl rfl rfl
theorem d21_21 : decode (cod 21) 21 = .ok (.ireturn, 1) := by decide +kernel
theorem s21_21 {M : Mm} {l0 l1 l2 : Option Value} {v : Int32} : EE 21 21 [l0, l1, l2] [.int v] M = some (some (.int v), M) := e_iret d21_21 rfl rfl
theorem d21_22 : decode (cod 21) 22 = .ok (.iinc 2 1, 3) := by decide +kernel
theorem s21_22 {M : Mm} {st : List Value} {l0 l1 : Option Value} {x : Int32} : EE 21 22 [l0, l1, some (.int x)] st M = EE 21 25 [l0, cln l1, some (.int (x + nI 1))] st M := e_iinc d21_22 rfl (congrArg (fun z => x + z) k_inc_1) rfl
theorem d21_25 : decode (cod 21) 25 = .ok (.goto (-23), 3) := by decide +kernel
theorem s21_25 {M : Mm} {st : List Value} {l0 l1 l2 : Option Value} : EE 21 25 [l0, l1, l2] st M = EE 21 2 [l0, l1, l2] st M := e_goto d21_25 (by decide)
theorem d21_28 : decode (cod 21) 28 = .ok (.bipush (-6), 2) := by decide +kernel
theorem s21_28 {M : Mm} {st : List Value} {l0 l1 l2 : Option Value} : EE 21 28 [l0, l1, l2] st M = EE 21 30 [l0, l1, l2] (.int ((-6)) :: st) M := e_bip d21_28 k_bip_m6
theorem d21_30 : decode (cod 21) 30 = .ok (.ireturn, 1) := by decide +kernel
theorem s21_30 {M : Mm} {l0 l1 l2 : Option Value} {v : Int32} : EE 21 30 [l0, l1, l2] [.int v] M = some (some (.int v), M) := e_iret d21_30 rfl rfl
theorem FE21 {a : Nat} {b0 : Int32} {M : Mm} : FF 21 [.ref a, .int b0] M = EE 21 0 [some (.ref a), some (.int b0), none] [] M := FF_eq 21 _ _ (Nat.le_of_ble_eq_true rfl)
theorem d22_0 : decode (cod 22) 0 = .ok (.iload_n 1, 1) := by decide +kernel
theorem s22_0 {M : Mm} {st : List Value} {l0 l2 l3 l4 : Option Value} {x : Int32} : EE 22 0 [l0, some (.int x), l2, l3, l4] st M = EE 22 1 [l0, some (.int x), l2, l3, l4] (.int x :: st) M := e_ld d22_0 rfl rfl rfl rfl rfl rfl
theorem d22_1 : decode (cod 22) 1 = .ok (.invokestatic 81, 3) := by decide +kernel
theorem s22_1 {M : Mm} {l0 l1 l2 l3 l4 : Option Value} {b0 : Int32} {st : List Value} (hl : st.length ≤ 4) : EE 22 1 [l0, l1, l2, l3, l4] (.int b0 :: st) M = (FF 49 [.int b0] M).bind (fun z => EE 22 4 [l0, l1, l2, l3, l4] (psh z.1 st) z.2) := e_cals (av := [.int b0]) d22_1 c1_81 (Or.inr rfl) rfl rfl r22_49 rfl hl
theorem d22_4 : decode (cod 22) 4 = .ok (.ifCond .eq 11, 3) := by decide +kernel
theorem s22_4 {M : Mm} {st : List Value} {l0 l1 l2 l3 l4 : Option Value} {x : Int32} : EE 22 4 [l0, l1, l2, l3, l4] (.int x :: st) M = if x = 0 then EE 22 15 [l0, l1, l2, l3, l4] st M else EE 22 7 [l0, l1, l2, l3, l4] st M := e_eq0 d22_4 (by decide)
theorem d22_7 : decode (cod 22) 7 = .ok (.aload_n 0, 1) := by decide +kernel
theorem s22_7 {M : Mm} {st : List Value} {l1 l2 l3 l4 : Option Value} {x : Nat} : EE 22 7 [some (.ref x), l1, l2, l3, l4] st M = EE 22 8 [some (.ref x), l1, l2, l3, l4] (.ref x :: st) M := e_ld d22_7 rfl rfl rfl rfl rfl rfl
theorem d22_8 : decode (cod 22) 8 = .ok (.iload_n 2, 1) := by decide +kernel
theorem s22_8 {M : Mm} {st : List Value} {l0 l1 l3 l4 : Option Value} {x : Int32} : EE 22 8 [l0, l1, some (.int x), l3, l4] st M = EE 22 9 [l0, l1, some (.int x), l3, l4] (.int x :: st) M := e_ld d22_8 rfl rfl rfl rfl rfl rfl
theorem d22_9 : decode (cod 22) 9 = .ok (.invokevirtual 85, 3) := by decide +kernel
theorem s22_9 {l0 l1 l2 l3 l4 : Option Value} {a : Nat} {M : Mm} {b0 : Int32} {st : List Value} (hl : st.length ≤ 4) (ho : isO "HandoverDesk$State" M.1 a = true) : EE 22 9 [l0, l1, l2, l3, l4] (.int b0 :: .ref a :: st) M = (FF 18 (.ref a :: [.int b0]) M).bind (fun z => EE 22 12 [l0, l1, l2, l3, l4] (psh z.1 st) z.2) := e_calv (av := [.int b0]) d22_9 c1_85 rfl rfl rfl r22_18 rfl hl ho
theorem d22_12 : decode (cod 22) 12 = .ok (.ifCond .ne 5, 3) := by decide +kernel
theorem s22_12 {M : Mm} {st : List Value} {l0 l1 l2 l3 l4 : Option Value} {x : Int32} : EE 22 12 [l0, l1, l2, l3, l4] (.int x :: st) M = if x = 0 then EE 22 15 [l0, l1, l2, l3, l4] st M else EE 22 17 [l0, l1, l2, l3, l4] st M := e_ne0 d22_12 (by decide)
theorem d22_15 : decode (cod 22) 15 = .ok (.iconst (-1), 1) := by decide +kernel
theorem s22_15 {M : Mm} {st : List Value} {l0 l1 l2 l3 l4 : Option Value} : EE 22 15 [l0, l1, l2, l3, l4] st M = EE 22 16 [l0, l1, l2, l3, l4] (.int ((-1)) :: st) M := e_con d22_15 k_con_m1
theorem d22_16 : decode (cod 22) 16 = .ok (.ireturn, 1) := by decide +kernel
theorem s22_16 {M : Mm} {l0 l1 l2 l3 l4 : Option Value} {v : Int32} : EE 22 16 [l0, l1, l2, l3, l4] [.int v] M = some (some (.int v), M) := e_iret d22_16 rfl rfl
theorem d22_17 : decode (cod 22) 17 = .ok (.iload_n 3, 1) := by decide +kernel
theorem s22_17 {M : Mm} {st : List Value} {l0 l1 l2 l4 : Option Value} {x : Int32} : EE 22 17 [l0, l1, l2, some (.int x), l4] st M = EE 22 18 [l0, l1, l2, some (.int x), l4] (.int x :: st) M := e_ld d22_17 rfl rfl rfl rfl rfl rfl
theorem d22_18 : decode (cod 22) 18 = .ok (.iconst 1, 1) := by decide +kernel
theorem s22_18 {M : Mm} {st : List Value} {l0 l1 l2 l3 l4 : Option Value} : EE 22 18 [l0, l1, l2, l3, l4] st M = EE 22 19 [l0, l1, l2, l3, l4] (.int (nI 1) :: st) M := e_con d22_18 k_con_1
theorem d22_19 : decode (cod 22) 19 = .ok (.if_icmp .lt 9, 3) := by decide +kernel
theorem s22_19 {M : Mm} {st : List Value} {l0 l1 l2 l3 l4 : Option Value} {x y : Int32} : EE 22 19 [l0, l1, l2, l3, l4] (.int y :: .int x :: st) M = if x < y then EE 22 28 [l0, l1, l2, l3, l4] st M else EE 22 22 [l0, l1, l2, l3, l4] st M := e_clt d22_19 (by decide)
theorem d22_22 : decode (cod 22) 22 = .ok (.iload_n 3, 1) := by decide +kernel
theorem s22_22 {M : Mm} {st : List Value} {l0 l1 l2 l4 : Option Value} {x : Int32} : EE 22 22 [l0, l1, l2, some (.int x), l4] st M = EE 22 23 [l0, l1, l2, some (.int x), l4] (.int x :: st) M := e_ld d22_22 rfl rfl rfl rfl rfl rfl
theorem d22_23 : decode (cod 22) 23 = .ok (.bipush 100, 2) := by decide +kernel
theorem s22_23 {M : Mm} {st : List Value} {l0 l1 l2 l3 l4 : Option Value} : EE 22 23 [l0, l1, l2, l3, l4] st M = EE 22 25 [l0, l1, l2, l3, l4] (.int (nI 100) :: st) M := e_bip d22_23 k_bip_100
theorem d22_25 : decode (cod 22) 25 = .ok (.if_icmp .le 6, 3) := by decide +kernel
theorem s22_25 {M : Mm} {st : List Value} {l0 l1 l2 l3 l4 : Option Value} {x y : Int32} : EE 22 25 [l0, l1, l2, l3, l4] (.int y :: .int x :: st) M = if x ≤ y then EE 22 31 [l0, l1, l2, l3, l4] st M else EE 22 28 [l0, l1, l2, l3, l4] st M := e_cle d22_25 (by decide)
theorem d22_28 : decode (cod 22) 28 = .ok (.bipush (-2), 2) := by decide +kernel
theorem s22_28 {M : Mm} {st : List Value} {l0 l1 l2 l3 l4 : Option Value} : EE 22 28 [l0, l1, l2, l3, l4] st M = EE 22 30 [l0, l1, l2, l3, l4] (.int ((-2)) :: st) M := e_bip d22_28 k_bip_m2
theorem d22_30 : decode (cod 22) 30 = .ok (.ireturn, 1) := by decide +kernel
theorem s22_30 {M : Mm} {l0 l1 l2 l3 l4 : Option Value} {v : Int32} : EE 22 30 [l0, l1, l2, l3, l4] [.int v] M = some (some (.int v), M) := e_iret d22_30 rfl rfl
theorem d22_31 : decode (cod 22) 31 = .ok (.bipush 100, 2) := by decide +kernel
theorem s22_31 {M : Mm} {st : List Value} {l0 l1 l2 l3 l4 : Option Value} : EE 22 31 [l0, l1, l2, l3, l4] st M = EE 22 33 [l0, l1, l2, l3, l4] (.int (nI 100) :: st) M := e_bip d22_31 k_bip_100
theorem d22_33 : decode (cod 22) 33 = .ok (.aload_n 0, 1) := by decide +kernel
theorem s22_33 {M : Mm} {st : List Value} {l1 l2 l3 l4 : Option Value} {x : Nat} : EE 22 33 [some (.ref x), l1, l2, l3, l4] st M = EE 22 34 [some (.ref x), l1, l2, l3, l4] (.ref x :: st) M := e_ld d22_33 rfl rfl rfl rfl rfl rfl
theorem d22_34 : decode (cod 22) 34 = .ok (.iload_n 1, 1) := by decide +kernel
theorem s22_34 {M : Mm} {st : List Value} {l0 l2 l3 l4 : Option Value} {x : Int32} : EE 22 34 [l0, some (.int x), l2, l3, l4] st M = EE 22 35 [l0, some (.int x), l2, l3, l4] (.int x :: st) M := e_ld d22_34 rfl rfl rfl rfl rfl rfl
theorem d22_35 : decode (cod 22) 35 = .ok (.iload_n 2, 1) := by decide +kernel
theorem s22_35 {M : Mm} {st : List Value} {l0 l1 l3 l4 : Option Value} {x : Int32} : EE 22 35 [l0, l1, some (.int x), l3, l4] st M = EE 22 36 [l0, l1, some (.int x), l3, l4] (.int x :: st) M := e_ld d22_35 rfl rfl rfl rfl rfl rfl
theorem d22_36 : decode (cod 22) 36 = .ok (.invokevirtual 88, 3) := by decide +kernel
theorem s22_36 {l0 l1 l2 l3 l4 : Option Value} {a : Nat} {M : Mm} {b0 : Int32} {b1 : Int32} {st : List Value} (hl : st.length ≤ 4) (ho : isO "HandoverDesk$State" M.1 a = true) : EE 22 36 [l0, l1, l2, l3, l4] (.int b1 :: .int b0 :: .ref a :: st) M = (FF 23 (.ref a :: [.int b0, .int b1]) M).bind (fun z => EE 22 39 [l0, l1, l2, l3, l4] (psh z.1 st) z.2) := e_calv (av := [.int b0, .int b1]) d22_36 c1_88 rfl rfl rfl r22_23 rfl hl ho
theorem d22_39 : decode (cod 22) 39 = .ok (.iload_n 3, 1) := by decide +kernel
theorem s22_39 {M : Mm} {st : List Value} {l0 l1 l2 l4 : Option Value} {x : Int32} : EE 22 39 [l0, l1, l2, some (.int x), l4] st M = EE 22 40 [l0, l1, l2, some (.int x), l4] (.int x :: st) M := e_ld d22_39 rfl rfl rfl rfl rfl rfl
theorem d22_40 : decode (cod 22) 40 = .ok (.iadd, 1) := by decide +kernel
theorem s22_40 {M : Mm} {st : List Value} {l0 l1 l2 l3 l4 : Option Value} {x y : Int32} : EE 22 40 [l0, l1, l2, l3, l4] (.int y :: .int x :: st) M = EE 22 41 [l0, l1, l2, l3, l4] (.int (x + y) :: st) M := e_II d22_40 rfl rfl rfl rfl rfl rfl
theorem d22_41 : decode (cod 22) 41 = .ok (.invokestatic 126, 3) := by decide +kernel
theorem s22_41 {M : Mm} {l0 l1 l2 l3 l4 : Option Value} {b0 : Int32} {b1 : Int32} {st : List Value} (hl : st.length ≤ 4) : EE 22 41 [l0, l1, l2, l3, l4] (.int b1 :: .int b0 :: st) M = (FF 151 [.int b0, .int b1] M).bind (fun z => EE 22 44 [l0, l1, l2, l3, l4] (psh z.1 st) z.2) := e_cals (av := [.int b0, .int b1]) d22_41 c1_126 (Or.inl rfl) rfl rfl r22_151 rfl hl
theorem d22_44 : decode (cod 22) 44 = .ok (.istore 4, 2) := by decide +kernel
theorem s22_44 {M : Mm} {st : List Value} {l0 l1 l2 l3 l4 : Option Value} {x : Int32} : EE 22 44 [l0, l1, l2, l3, l4] (.int x :: st) M = EE 22 46 [l0, l1, l2, cln l3, some (.int x)] st M := e_st1 d22_44 rfl rfl rfl rfl rfl rfl rfl (Nat.le_of_ble_eq_true rfl) rfl
theorem d22_46 : decode (cod 22) 46 = .ok (.aload_n 0, 1) := by decide +kernel
theorem s22_46 {M : Mm} {st : List Value} {l1 l2 l3 l4 : Option Value} {x : Nat} : EE 22 46 [some (.ref x), l1, l2, l3, l4] st M = EE 22 47 [some (.ref x), l1, l2, l3, l4] (.ref x :: st) M := e_ld d22_46 rfl rfl rfl rfl rfl rfl
theorem d22_47 : decode (cod 22) 47 = .ok (.iload_n 1, 1) := by decide +kernel
theorem s22_47 {M : Mm} {st : List Value} {l0 l2 l3 l4 : Option Value} {x : Int32} : EE 22 47 [l0, some (.int x), l2, l3, l4] st M = EE 22 48 [l0, some (.int x), l2, l3, l4] (.int x :: st) M := e_ld d22_47 rfl rfl rfl rfl rfl rfl
theorem d22_48 : decode (cod 22) 48 = .ok (.iload_n 2, 1) := by decide +kernel
theorem s22_48 {M : Mm} {st : List Value} {l0 l1 l3 l4 : Option Value} {x : Int32} : EE 22 48 [l0, l1, some (.int x), l3, l4] st M = EE 22 49 [l0, l1, some (.int x), l3, l4] (.int x :: st) M := e_ld d22_48 rfl rfl rfl rfl rfl rfl
theorem d22_49 : decode (cod 22) 49 = .ok (.iload 4, 2) := by decide +kernel
theorem s22_49 {M : Mm} {st : List Value} {l0 l1 l2 l3 : Option Value} {x : Int32} : EE 22 49 [l0, l1, l2, l3, some (.int x)] st M = EE 22 51 [l0, l1, l2, l3, some (.int x)] (.int x :: st) M := e_ld d22_49 rfl rfl rfl rfl rfl rfl
theorem d22_51 : decode (cod 22) 51 = .ok (.invokevirtual 129, 3) := by decide +kernel
theorem s22_51 {l0 l1 l2 l3 l4 : Option Value} {a : Nat} {M : Mm} {b0 : Int32} {b1 : Int32} {b2 : Int32} {st : List Value} (hl : st.length ≤ 4) (ho : isO "HandoverDesk$State" M.1 a = true) : EE 22 51 [l0, l1, l2, l3, l4] (.int b2 :: .int b1 :: .int b0 :: .ref a :: st) M = (FF 24 (.ref a :: [.int b0, .int b1, .int b2]) M).bind (fun z => EE 22 54 [l0, l1, l2, l3, l4] (psh z.1 st) z.2) := e_calv (av := [.int b0, .int b1, .int b2]) d22_51 c1_129 rfl rfl rfl r22_24 rfl hl ho
theorem d22_54 : decode (cod 22) 54 = .ok (.iload 4, 2) := by decide +kernel
theorem s22_54 {M : Mm} {st : List Value} {l0 l1 l2 l3 : Option Value} {x : Int32} : EE 22 54 [l0, l1, l2, l3, some (.int x)] st M = EE 22 56 [l0, l1, l2, l3, some (.int x)] (.int x :: st) M := e_ld d22_54 rfl rfl rfl rfl rfl rfl
theorem d22_56 : decode (cod 22) 56 = .ok (.ireturn, 1) := by decide +kernel
theorem s22_56 {M : Mm} {l0 l1 l2 l3 l4 : Option Value} {v : Int32} : EE 22 56 [l0, l1, l2, l3, l4] [.int v] M = some (some (.int v), M) := e_iret d22_56 rfl rfl
theorem FE22 {a : Nat} {b0 : Int32} {b1 : Int32} {b2 : Int32} {M : Mm} : FF 22 [.ref a, .int b0, .int b1, .int b2] M = EE 22 0 [some (.ref a), some (.int b0), some (.int b1), some (.int b2), none] [] M := FF_eq 22 _ _ (Nat.le_of_ble_eq_true rfl)
theorem d23_0 : decode (cod 23) 0 = .ok (.iload_n 1, 1) := by decide +kernel
theorem s23_0 {M : Mm} {st : List Value} {l0 l2 : Option Value} {x : Int32} : EE 23 0 [l0, some (.int x), l2] st M = EE 23 1 [l0, some (.int x), l2] (.int x :: st) M := e_ld d23_0 rfl rfl rfl rfl rfl rfl
theorem d23_1 : decode (cod 23) 1 = .ok (.invokestatic 81, 3) := by decide +kernel
theorem s23_1 {M : Mm} {l0 l1 l2 : Option Value} {b0 : Int32} {st : List Value} (hl : st.length ≤ 4) : EE 23 1 [l0, l1, l2] (.int b0 :: st) M = (FF 49 [.int b0] M).bind (fun z => EE 23 4 [l0, l1, l2] (psh z.1 st) z.2) := e_cals (av := [.int b0]) d23_1 c1_81 (Or.inr rfl) rfl rfl r23_49 rfl hl
theorem d23_4 : decode (cod 23) 4 = .ok (.ifCond .eq 22, 3) := by decide +kernel
theorem s23_4 {M : Mm} {st : List Value} {l0 l1 l2 : Option Value} {x : Int32} : EE 23 4 [l0, l1, l2] (.int x :: st) M = if x = 0 then EE 23 26 [l0, l1, l2] st M else EE 23 7 [l0, l1, l2] st M := e_eq0 d23_4 (by decide)
theorem d23_7 : decode (cod 23) 7 = .ok (.aload_n 0, 1) := by decide +kernel
theorem s23_7 {M : Mm} {st : List Value} {l1 l2 : Option Value} {x : Nat} : EE 23 7 [some (.ref x), l1, l2] st M = EE 23 8 [some (.ref x), l1, l2] (.ref x :: st) M := e_ld d23_7 rfl rfl rfl rfl rfl rfl
theorem d23_8 : decode (cod 23) 8 = .ok (.iload_n 2, 1) := by decide +kernel
theorem s23_8 {M : Mm} {st : List Value} {l0 l1 : Option Value} {x : Int32} : EE 23 8 [l0, l1, some (.int x)] st M = EE 23 9 [l0, l1, some (.int x)] (.int x :: st) M := e_ld d23_8 rfl rfl rfl rfl rfl rfl
theorem d23_9 : decode (cod 23) 9 = .ok (.invokevirtual 85, 3) := by decide +kernel
theorem s23_9 {l0 l1 l2 : Option Value} {a : Nat} {M : Mm} {b0 : Int32} {st : List Value} (hl : st.length ≤ 4) (ho : isO "HandoverDesk$State" M.1 a = true) : EE 23 9 [l0, l1, l2] (.int b0 :: .ref a :: st) M = (FF 18 (.ref a :: [.int b0]) M).bind (fun z => EE 23 12 [l0, l1, l2] (psh z.1 st) z.2) := e_calv (av := [.int b0]) d23_9 c1_85 rfl rfl rfl r23_18 rfl hl ho
theorem d23_12 : decode (cod 23) 12 = .ok (.ifCond .eq 14, 3) := by decide +kernel
theorem s23_12 {M : Mm} {st : List Value} {l0 l1 l2 : Option Value} {x : Int32} : EE 23 12 [l0, l1, l2] (.int x :: st) M = if x = 0 then EE 23 26 [l0, l1, l2] st M else EE 23 15 [l0, l1, l2] st M := e_eq0 d23_12 (by decide)
theorem d23_15 : decode (cod 23) 15 = .ok (.aload_n 0, 1) := by decide +kernel
theorem s23_15 {M : Mm} {st : List Value} {l1 l2 : Option Value} {x : Nat} : EE 23 15 [some (.ref x), l1, l2] st M = EE 23 16 [some (.ref x), l1, l2] (.ref x :: st) M := e_ld d23_15 rfl rfl rfl rfl rfl rfl
theorem d23_16 : decode (cod 23) 16 = .ok (.getfield 32, 3) := by decide +kernel
theorem s23_16 {n : Nat} {I : Nat → Nat → Int32} {R : Nat → Nat → Option Nat} {st : List Value} {l0 l1 l2 : Option Value} {a : Nat} : EE 23 16 [l0, l1, l2] (.ref a :: st) (n, I, R) = (gfI n I R 1 3 a).bind (fun z => EE 23 19 [l0, l1, l2] (z :: st) (n, I, R)) := e_getf d23_16 f1_32 rfl rfl
theorem d23_19 : decode (cod 23) 19 = .ok (.iload_n 1, 1) := by decide +kernel
theorem s23_19 {M : Mm} {st : List Value} {l0 l2 : Option Value} {x : Int32} : EE 23 19 [l0, some (.int x), l2] st M = EE 23 20 [l0, some (.int x), l2] (.int x :: st) M := e_ld d23_19 rfl rfl rfl rfl rfl rfl
theorem d23_20 : decode (cod 23) 20 = .ok (.aaload, 1) := by decide +kernel
theorem s23_20 {n : Nat} {I : Nat → Nat → Int32} {R : Nat → Nat → Option Nat} {st : List Value} {l0 l1 l2 : Option Value} {j : Int32} {a : Nat} (h : 8 ≤ kd a ∧ a < 1000 ∧ pos a < n ∧ inb j (ln a)) : EE 23 20 [l0, l1, l2] (.int j :: .ref a :: st) (n, I, R) = EE 23 21 [l0, l1, l2] (va_rf (R a j.toNatClampNeg) :: st) (n, I, R) := e_aald d23_20 h
theorem d23_21 : decode (cod 23) 21 = .ok (.iload_n 2, 1) := by decide +kernel
theorem s23_21 {M : Mm} {st : List Value} {l0 l1 : Option Value} {x : Int32} : EE 23 21 [l0, l1, some (.int x)] st M = EE 23 22 [l0, l1, some (.int x)] (.int x :: st) M := e_ld d23_21 rfl rfl rfl rfl rfl rfl
theorem d23_22 : decode (cod 23) 22 = .ok (.iaload, 1) := by decide +kernel
theorem s23_22 {n : Nat} {I : Nat → Nat → Int32} {R : Nat → Nat → Option Nat} {st : List Value} {l0 l1 l2 : Option Value} {j : Int32} {a : Nat} : EE 23 22 [l0, l1, l2] (.int j :: .ref a :: st) (n, I, R) = (ardI 5 n I a j).bind (fun z => EE 23 23 [l0, l1, l2] (.int z :: st) (n, I, R)) := e_iald d23_22
theorem d23_23 : decode (cod 23) 23 = .ok (.goto 4, 3) := by decide +kernel
theorem s23_23 {M : Mm} {st : List Value} {l0 l1 l2 : Option Value} : EE 23 23 [l0, l1, l2] st M = EE 23 27 [l0, l1, l2] st M := e_goto d23_23 (by decide)
theorem d23_26 : decode (cod 23) 26 = .ok (.iconst 0, 1) := by decide +kernel
theorem s23_26 {M : Mm} {st : List Value} {l0 l1 l2 : Option Value} : EE 23 26 [l0, l1, l2] st M = EE 23 27 [l0, l1, l2] (.int (nI 0) :: st) M := e_con d23_26 k_con_0
theorem d23_27 : decode (cod 23) 27 = .ok (.ireturn, 1) := by decide +kernel
theorem s23_27 {M : Mm} {l0 l1 l2 : Option Value} {v : Int32} : EE 23 27 [l0, l1, l2] [.int v] M = some (some (.int v), M) := e_iret d23_27 rfl rfl
theorem FE23 {a : Nat} {b0 : Int32} {b1 : Int32} {M : Mm} : FF 23 [.ref a, .int b0, .int b1] M = EE 23 0 [some (.ref a), some (.int b0), some (.int b1)] [] M := FF_eq 23 _ _ (Nat.le_of_ble_eq_true rfl)
theorem d24_0 : decode (cod 24) 0 = .ok (.iload_n 1, 1) := by decide +kernel
theorem s24_0 {M : Mm} {st : List Value} {l0 l2 l3 : Option Value} {x : Int32} : EE 24 0 [l0, some (.int x), l2, l3] st M = EE 24 1 [l0, some (.int x), l2, l3] (.int x :: st) M := e_ld d24_0 rfl rfl rfl rfl rfl rfl
theorem d24_1 : decode (cod 24) 1 = .ok (.invokestatic 81, 3) := by decide +kernel
theorem s24_1 {M : Mm} {l0 l1 l2 l3 : Option Value} {b0 : Int32} {st : List Value} (hl : st.length ≤ 4) : EE 24 1 [l0, l1, l2, l3] (.int b0 :: st) M = (FF 49 [.int b0] M).bind (fun z => EE 24 4 [l0, l1, l2, l3] (psh z.1 st) z.2) := e_cals (av := [.int b0]) d24_1 c1_81 (Or.inr rfl) rfl rfl r24_49 rfl hl
theorem d24_4 : decode (cod 24) 4 = .ok (.ifCond .eq 20, 3) := by decide +kernel
theorem s24_4 {M : Mm} {st : List Value} {l0 l1 l2 l3 : Option Value} {x : Int32} : EE 24 4 [l0, l1, l2, l3] (.int x :: st) M = if x = 0 then EE 24 24 [l0, l1, l2, l3] st M else EE 24 7 [l0, l1, l2, l3] st M := e_eq0 d24_4 (by decide)
theorem d24_7 : decode (cod 24) 7 = .ok (.aload_n 0, 1) := by decide +kernel
theorem s24_7 {M : Mm} {st : List Value} {l1 l2 l3 : Option Value} {x : Nat} : EE 24 7 [some (.ref x), l1, l2, l3] st M = EE 24 8 [some (.ref x), l1, l2, l3] (.ref x :: st) M := e_ld d24_7 rfl rfl rfl rfl rfl rfl
theorem d24_8 : decode (cod 24) 8 = .ok (.iload_n 2, 1) := by decide +kernel
theorem s24_8 {M : Mm} {st : List Value} {l0 l1 l3 : Option Value} {x : Int32} : EE 24 8 [l0, l1, some (.int x), l3] st M = EE 24 9 [l0, l1, some (.int x), l3] (.int x :: st) M := e_ld d24_8 rfl rfl rfl rfl rfl rfl
theorem d24_9 : decode (cod 24) 9 = .ok (.invokevirtual 85, 3) := by decide +kernel
theorem s24_9 {l0 l1 l2 l3 : Option Value} {a : Nat} {M : Mm} {b0 : Int32} {st : List Value} (hl : st.length ≤ 4) (ho : isO "HandoverDesk$State" M.1 a = true) : EE 24 9 [l0, l1, l2, l3] (.int b0 :: .ref a :: st) M = (FF 18 (.ref a :: [.int b0]) M).bind (fun z => EE 24 12 [l0, l1, l2, l3] (psh z.1 st) z.2) := e_calv (av := [.int b0]) d24_9 c1_85 rfl rfl rfl r24_18 rfl hl ho
theorem d24_12 : decode (cod 24) 12 = .ok (.ifCond .eq 12, 3) := by decide +kernel
theorem s24_12 {M : Mm} {st : List Value} {l0 l1 l2 l3 : Option Value} {x : Int32} : EE 24 12 [l0, l1, l2, l3] (.int x :: st) M = if x = 0 then EE 24 24 [l0, l1, l2, l3] st M else EE 24 15 [l0, l1, l2, l3] st M := e_eq0 d24_12 (by decide)
theorem d24_15 : decode (cod 24) 15 = .ok (.aload_n 0, 1) := by decide +kernel
theorem s24_15 {M : Mm} {st : List Value} {l1 l2 l3 : Option Value} {x : Nat} : EE 24 15 [some (.ref x), l1, l2, l3] st M = EE 24 16 [some (.ref x), l1, l2, l3] (.ref x :: st) M := e_ld d24_15 rfl rfl rfl rfl rfl rfl
theorem d24_16 : decode (cod 24) 16 = .ok (.getfield 32, 3) := by decide +kernel
theorem s24_16 {n : Nat} {I : Nat → Nat → Int32} {R : Nat → Nat → Option Nat} {st : List Value} {l0 l1 l2 l3 : Option Value} {a : Nat} : EE 24 16 [l0, l1, l2, l3] (.ref a :: st) (n, I, R) = (gfI n I R 1 3 a).bind (fun z => EE 24 19 [l0, l1, l2, l3] (z :: st) (n, I, R)) := e_getf d24_16 f1_32 rfl rfl
theorem d24_19 : decode (cod 24) 19 = .ok (.iload_n 1, 1) := by decide +kernel
theorem s24_19 {M : Mm} {st : List Value} {l0 l2 l3 : Option Value} {x : Int32} : EE 24 19 [l0, some (.int x), l2, l3] st M = EE 24 20 [l0, some (.int x), l2, l3] (.int x :: st) M := e_ld d24_19 rfl rfl rfl rfl rfl rfl
theorem d24_20 : decode (cod 24) 20 = .ok (.aaload, 1) := by decide +kernel
theorem s24_20 {n : Nat} {I : Nat → Nat → Int32} {R : Nat → Nat → Option Nat} {st : List Value} {l0 l1 l2 l3 : Option Value} {j : Int32} {a : Nat} (h : 8 ≤ kd a ∧ a < 1000 ∧ pos a < n ∧ inb j (ln a)) : EE 24 20 [l0, l1, l2, l3] (.int j :: .ref a :: st) (n, I, R) = EE 24 21 [l0, l1, l2, l3] (va_rf (R a j.toNatClampNeg) :: st) (n, I, R) := e_aald d24_20 h
theorem d24_21 : decode (cod 24) 21 = .ok (.iload_n 2, 1) := by decide +kernel
theorem s24_21 {M : Mm} {st : List Value} {l0 l1 l3 : Option Value} {x : Int32} : EE 24 21 [l0, l1, some (.int x), l3] st M = EE 24 22 [l0, l1, some (.int x), l3] (.int x :: st) M := e_ld d24_21 rfl rfl rfl rfl rfl rfl
theorem d24_22 : decode (cod 24) 22 = .ok (.iload_n 3, 1) := by decide +kernel
theorem s24_22 {M : Mm} {st : List Value} {l0 l1 l2 : Option Value} {x : Int32} : EE 24 22 [l0, l1, l2, some (.int x)] st M = EE 24 23 [l0, l1, l2, some (.int x)] (.int x :: st) M := e_ld d24_22 rfl rfl rfl rfl rfl rfl
theorem d24_23 : decode (cod 24) 23 = .ok (.iastore, 1) := by decide +kernel
theorem s24_23 {n : Nat} {I : Nat → Nat → Int32} {R : Nat → Nat → Option Nat} {st : List Value} {l0 l1 l2 l3 : Option Value} {j x : Int32} {a : Nat} (h : acI 5 n a j) : EE 24 23 [l0, l1, l2, l3] (.int x :: .int j :: .ref a :: st) (n, I, R) = EE 24 24 [l0, l1, l2, l3] st (n, wI I a j.toNatClampNeg x, R) := e_iast d24_23 h
theorem d24_24 : decode (cod 24) 24 = .ok (.return_, 1) := by decide +kernel
theorem s24_24 {M : Mm} {l0 l1 l2 l3 : Option Value} : EE 24 24 [l0, l1, l2, l3] [] M = some (none, M) := e_vret d24_24 rfl
theorem FE24 {a : Nat} {b0 : Int32} {b1 : Int32} {b2 : Int32} {M : Mm} : FF 24 [.ref a, .int b0, .int b1, .int b2] M = EE 24 0 [some (.ref a), some (.int b0), some (.int b1), some (.int b2)] [] M := FF_eq 24 _ _ (Nat.le_of_ble_eq_true rfl)
theorem d25_0 : decode (cod 25) 0 = .ok (.aload_n 0, 1) := by decide +kernel
theorem s25_0 {M : Mm} {st : List Value} {l1 l2 l3 l4 l5 : Option Value} {x : Nat} : EE 25 0 [some (.ref x), l1, l2, l3, l4, l5] st M = EE 25 1 [some (.ref x), l1, l2, l3, l4, l5] (.ref x :: st) M := e_ld d25_0 rfl rfl rfl rfl rfl rfl
theorem d25_1 : decode (cod 25) 1 = .ok (.iload_n 1, 1) := by decide +kernel
theorem s25_1 {M : Mm} {st : List Value} {l0 l2 l3 l4 l5 : Option Value} {x : Int32} : EE 25 1 [l0, some (.int x), l2, l3, l4, l5] st M = EE 25 2 [l0, some (.int x), l2, l3, l4, l5] (.int x :: st) M := e_ld d25_1 rfl rfl rfl rfl rfl rfl
theorem d25_2 : decode (cod 25) 2 = .ok (.invokevirtual 85, 3) := by decide +kernel
theorem s25_2 {l0 l1 l2 l3 l4 l5 : Option Value} {a : Nat} {M : Mm} {b0 : Int32} {st : List Value} (hl : st.length ≤ 4) (ho : isO "HandoverDesk$State" M.1 a = true) : EE 25 2 [l0, l1, l2, l3, l4, l5] (.int b0 :: .ref a :: st) M = (FF 18 (.ref a :: [.int b0]) M).bind (fun z => EE 25 5 [l0, l1, l2, l3, l4, l5] (psh z.1 st) z.2) := e_calv (av := [.int b0]) d25_2 c1_85 rfl rfl rfl r25_18 rfl hl ho
theorem d25_5 : decode (cod 25) 5 = .ok (.ifCond .ne 5, 3) := by decide +kernel
theorem s25_5 {M : Mm} {st : List Value} {l0 l1 l2 l3 l4 l5 : Option Value} {x : Int32} : EE 25 5 [l0, l1, l2, l3, l4, l5] (.int x :: st) M = if x = 0 then EE 25 8 [l0, l1, l2, l3, l4, l5] st M else EE 25 10 [l0, l1, l2, l3, l4, l5] st M := e_ne0 d25_5 (by decide)
theorem d25_8 : decode (cod 25) 8 = .ok (.iconst (-1), 1) := by decide +kernel
theorem s25_8 {M : Mm} {st : List Value} {l0 l1 l2 l3 l4 l5 : Option Value} : EE 25 8 [l0, l1, l2, l3, l4, l5] st M = EE 25 9 [l0, l1, l2, l3, l4, l5] (.int ((-1)) :: st) M := e_con d25_8 k_con_m1
theorem d25_9 : decode (cod 25) 9 = .ok (.ireturn, 1) := by decide +kernel
theorem s25_9 {M : Mm} {l0 l1 l2 l3 l4 l5 : Option Value} {v : Int32} : EE 25 9 [l0, l1, l2, l3, l4, l5] [.int v] M = some (some (.int v), M) := e_iret d25_9 rfl rfl
theorem d25_10 : decode (cod 25) 10 = .ok (.aload_n 0, 1) := by decide +kernel
theorem s25_10 {M : Mm} {st : List Value} {l1 l2 l3 l4 l5 : Option Value} {x : Nat} : EE 25 10 [some (.ref x), l1, l2, l3, l4, l5] st M = EE 25 11 [some (.ref x), l1, l2, l3, l4, l5] (.ref x :: st) M := e_ld d25_10 rfl rfl rfl rfl rfl rfl
theorem d25_11 : decode (cod 25) 11 = .ok (.invokevirtual 91, 3) := by decide +kernel
theorem s25_11 {l0 l1 l2 l3 l4 l5 : Option Value} {a : Nat} {M : Mm} {st : List Value} (hl : st.length ≤ 4) (ho : isO "HandoverDesk$State" M.1 a = true) : EE 25 11 [l0, l1, l2, l3, l4, l5] (.ref a :: st) M = (FF 26 (.ref a :: []) M).bind (fun z => EE 25 14 [l0, l1, l2, l3, l4, l5] (psh z.1 st) z.2) := e_calv (av := []) d25_11 c1_91 rfl rfl rfl r25_26 rfl hl ho
theorem d25_14 : decode (cod 25) 14 = .ok (.istore_n 2, 1) := by decide +kernel
theorem s25_14 {M : Mm} {st : List Value} {l0 l1 l2 l3 l4 l5 : Option Value} {x : Int32} : EE 25 14 [l0, l1, l2, l3, l4, l5] (.int x :: st) M = EE 25 15 [l0, cln l1, some (.int x), l3, l4, l5] st M := e_st1 d25_14 rfl rfl rfl rfl rfl rfl rfl (Nat.le_of_ble_eq_true rfl) rfl
theorem d25_15 : decode (cod 25) 15 = .ok (.aload_n 0, 1) := by decide +kernel
theorem s25_15 {M : Mm} {st : List Value} {l1 l2 l3 l4 l5 : Option Value} {x : Nat} : EE 25 15 [some (.ref x), l1, l2, l3, l4, l5] st M = EE 25 16 [some (.ref x), l1, l2, l3, l4, l5] (.ref x :: st) M := e_ld d25_15 rfl rfl rfl rfl rfl rfl
theorem d25_16 : decode (cod 25) 16 = .ok (.iload_n 2, 1) := by decide +kernel
theorem s25_16 {M : Mm} {st : List Value} {l0 l1 l3 l4 l5 : Option Value} {x : Int32} : EE 25 16 [l0, l1, some (.int x), l3, l4, l5] st M = EE 25 17 [l0, l1, some (.int x), l3, l4, l5] (.int x :: st) M := e_ld d25_16 rfl rfl rfl rfl rfl rfl
theorem d25_17 : decode (cod 25) 17 = .ok (.iload_n 1, 1) := by decide +kernel
theorem s25_17 {M : Mm} {st : List Value} {l0 l2 l3 l4 l5 : Option Value} {x : Int32} : EE 25 17 [l0, some (.int x), l2, l3, l4, l5] st M = EE 25 18 [l0, some (.int x), l2, l3, l4, l5] (.int x :: st) M := e_ld d25_17 rfl rfl rfl rfl rfl rfl
theorem d25_18 : decode (cod 25) 18 = .ok (.invokevirtual 88, 3) := by decide +kernel
theorem s25_18 {l0 l1 l2 l3 l4 l5 : Option Value} {a : Nat} {M : Mm} {b0 : Int32} {b1 : Int32} {st : List Value} (hl : st.length ≤ 4) (ho : isO "HandoverDesk$State" M.1 a = true) : EE 25 18 [l0, l1, l2, l3, l4, l5] (.int b1 :: .int b0 :: .ref a :: st) M = (FF 23 (.ref a :: [.int b0, .int b1]) M).bind (fun z => EE 25 21 [l0, l1, l2, l3, l4, l5] (psh z.1 st) z.2) := e_calv (av := [.int b0, .int b1]) d25_18 c1_88 rfl rfl rfl r25_23 rfl hl ho
theorem d25_21 : decode (cod 25) 21 = .ok (.istore_n 3, 1) := by decide +kernel
theorem s25_21 {M : Mm} {st : List Value} {l0 l1 l2 l3 l4 l5 : Option Value} {x : Int32} : EE 25 21 [l0, l1, l2, l3, l4, l5] (.int x :: st) M = EE 25 22 [l0, l1, cln l2, some (.int x), l4, l5] st M := e_st1 d25_21 rfl rfl rfl rfl rfl rfl rfl (Nat.le_of_ble_eq_true rfl) rfl
theorem d25_22 : decode (cod 25) 22 = .ok (.aload_n 0, 1) := by decide +kernel
theorem s25_22 {M : Mm} {st : List Value} {l1 l2 l3 l4 l5 : Option Value} {x : Nat} : EE 25 22 [some (.ref x), l1, l2, l3, l4, l5] st M = EE 25 23 [some (.ref x), l1, l2, l3, l4, l5] (.ref x :: st) M := e_ld d25_22 rfl rfl rfl rfl rfl rfl
theorem d25_23 : decode (cod 25) 23 = .ok (.aload_n 0, 1) := by decide +kernel
theorem s25_23 {M : Mm} {st : List Value} {l1 l2 l3 l4 l5 : Option Value} {x : Nat} : EE 25 23 [some (.ref x), l1, l2, l3, l4, l5] st M = EE 25 24 [some (.ref x), l1, l2, l3, l4, l5] (.ref x :: st) M := e_ld d25_23 rfl rfl rfl rfl rfl rfl
theorem d25_24 : decode (cod 25) 24 = .ok (.iload_n 1, 1) := by decide +kernel
theorem s25_24 {M : Mm} {st : List Value} {l0 l2 l3 l4 l5 : Option Value} {x : Int32} : EE 25 24 [l0, some (.int x), l2, l3, l4, l5] st M = EE 25 25 [l0, some (.int x), l2, l3, l4, l5] (.int x :: st) M := e_ld d25_24 rfl rfl rfl rfl rfl rfl
theorem d25_25 : decode (cod 25) 25 = .ok (.invokevirtual 133, 3) := by decide +kernel
theorem s25_25 {l0 l1 l2 l3 l4 l5 : Option Value} {a : Nat} {M : Mm} {b0 : Int32} {st : List Value} (hl : st.length ≤ 4) (ho : isO "HandoverDesk$State" M.1 a = true) : EE 25 25 [l0, l1, l2, l3, l4, l5] (.int b0 :: .ref a :: st) M = (FF 27 (.ref a :: [.int b0]) M).bind (fun z => EE 25 28 [l0, l1, l2, l3, l4, l5] (psh z.1 st) z.2) := e_calv (av := [.int b0]) d25_25 c1_133 rfl rfl rfl r25_27 rfl hl ho
theorem d25_28 : decode (cod 25) 28 = .ok (.iload_n 1, 1) := by decide +kernel
theorem s25_28 {M : Mm} {st : List Value} {l0 l2 l3 l4 l5 : Option Value} {x : Int32} : EE 25 28 [l0, some (.int x), l2, l3, l4, l5] st M = EE 25 29 [l0, some (.int x), l2, l3, l4, l5] (.int x :: st) M := e_ld d25_28 rfl rfl rfl rfl rfl rfl
theorem d25_29 : decode (cod 25) 29 = .ok (.invokevirtual 88, 3) := by decide +kernel
theorem s25_29 {l0 l1 l2 l3 l4 l5 : Option Value} {a : Nat} {M : Mm} {b0 : Int32} {b1 : Int32} {st : List Value} (hl : st.length ≤ 4) (ho : isO "HandoverDesk$State" M.1 a = true) : EE 25 29 [l0, l1, l2, l3, l4, l5] (.int b1 :: .int b0 :: .ref a :: st) M = (FF 23 (.ref a :: [.int b0, .int b1]) M).bind (fun z => EE 25 32 [l0, l1, l2, l3, l4, l5] (psh z.1 st) z.2) := e_calv (av := [.int b0, .int b1]) d25_29 c1_88 rfl rfl rfl r25_23 rfl hl ho
theorem d25_32 : decode (cod 25) 32 = .ok (.istore 4, 2) := by decide +kernel
theorem s25_32 {M : Mm} {st : List Value} {l0 l1 l2 l3 l4 l5 : Option Value} {x : Int32} : EE 25 32 [l0, l1, l2, l3, l4, l5] (.int x :: st) M = EE 25 34 [l0, l1, l2, cln l3, some (.int x), l5] st M := e_st1 d25_32 rfl rfl rfl rfl rfl rfl rfl (Nat.le_of_ble_eq_true rfl) rfl
theorem d25_34 : decode (cod 25) 34 = .ok (.aload_n 0, 1) := by decide +kernel
theorem s25_34 {M : Mm} {st : List Value} {l1 l2 l3 l4 l5 : Option Value} {x : Nat} : EE 25 34 [some (.ref x), l1, l2, l3, l4, l5] st M = EE 25 35 [some (.ref x), l1, l2, l3, l4, l5] (.ref x :: st) M := e_ld d25_34 rfl rfl rfl rfl rfl rfl
theorem d25_35 : decode (cod 25) 35 = .ok (.iload_n 1, 1) := by decide +kernel
theorem s25_35 {M : Mm} {st : List Value} {l0 l2 l3 l4 l5 : Option Value} {x : Int32} : EE 25 35 [l0, some (.int x), l2, l3, l4, l5] st M = EE 25 36 [l0, some (.int x), l2, l3, l4, l5] (.int x :: st) M := e_ld d25_35 rfl rfl rfl rfl rfl rfl
theorem d25_36 : decode (cod 25) 36 = .ok (.invokevirtual 99, 3) := by decide +kernel
theorem s25_36 {l0 l1 l2 l3 l4 l5 : Option Value} {a : Nat} {M : Mm} {b0 : Int32} {st : List Value} (hl : st.length ≤ 4) (ho : isO "HandoverDesk$State" M.1 a = true) : EE 25 36 [l0, l1, l2, l3, l4, l5] (.int b0 :: .ref a :: st) M = (FF 19 (.ref a :: [.int b0]) M).bind (fun z => EE 25 39 [l0, l1, l2, l3, l4, l5] (psh z.1 st) z.2) := e_calv (av := [.int b0]) d25_36 c1_99 rfl rfl rfl r25_19 rfl hl ho
theorem d25_39 : decode (cod 25) 39 = .ok (.ifCond .eq 9, 3) := by decide +kernel
theorem s25_39 {M : Mm} {st : List Value} {l0 l1 l2 l3 l4 l5 : Option Value} {x : Int32} : EE 25 39 [l0, l1, l2, l3, l4, l5] (.int x :: st) M = if x = 0 then EE 25 48 [l0, l1, l2, l3, l4, l5] st M else EE 25 42 [l0, l1, l2, l3, l4, l5] st M := e_eq0 d25_39 (by decide)
theorem d25_42 : decode (cod 25) 42 = .ok (.iload 4, 2) := by decide +kernel
theorem s25_42 {M : Mm} {st : List Value} {l0 l1 l2 l3 l5 : Option Value} {x : Int32} : EE 25 42 [l0, l1, l2, l3, some (.int x), l5] st M = EE 25 44 [l0, l1, l2, l3, some (.int x), l5] (.int x :: st) M := e_ld d25_42 rfl rfl rfl rfl rfl rfl
theorem d25_44 : decode (cod 25) 44 = .ok (.iload_n 3, 1) := by decide +kernel
theorem s25_44 {M : Mm} {st : List Value} {l0 l1 l2 l4 l5 : Option Value} {x : Int32} : EE 25 44 [l0, l1, l2, some (.int x), l4, l5] st M = EE 25 45 [l0, l1, l2, some (.int x), l4, l5] (.int x :: st) M := e_ld d25_44 rfl rfl rfl rfl rfl rfl
theorem d25_45 : decode (cod 25) 45 = .ok (.if_icmp .gt 6, 3) := by decide +kernel
theorem s25_45 {M : Mm} {st : List Value} {l0 l1 l2 l3 l4 l5 : Option Value} {x y : Int32} : EE 25 45 [l0, l1, l2, l3, l4, l5] (.int y :: .int x :: st) M = if y < x then EE 25 51 [l0, l1, l2, l3, l4, l5] st M else EE 25 48 [l0, l1, l2, l3, l4, l5] st M := e_cgt d25_45 (by decide)
theorem d25_48 : decode (cod 25) 48 = .ok (.bipush (-5), 2) := by decide +kernel
theorem s25_48 {M : Mm} {st : List Value} {l0 l1 l2 l3 l4 l5 : Option Value} : EE 25 48 [l0, l1, l2, l3, l4, l5] st M = EE 25 50 [l0, l1, l2, l3, l4, l5] (.int ((-5)) :: st) M := e_bip d25_48 k_bip_m5
theorem d25_50 : decode (cod 25) 50 = .ok (.ireturn, 1) := by decide +kernel
theorem s25_50 {M : Mm} {l0 l1 l2 l3 l4 l5 : Option Value} {v : Int32} : EE 25 50 [l0, l1, l2, l3, l4, l5] [.int v] M = some (some (.int v), M) := e_iret d25_50 rfl rfl
theorem d25_51 : decode (cod 25) 51 = .ok (.iload_n 3, 1) := by decide +kernel
theorem s25_51 {M : Mm} {st : List Value} {l0 l1 l2 l4 l5 : Option Value} {x : Int32} : EE 25 51 [l0, l1, l2, some (.int x), l4, l5] st M = EE 25 52 [l0, l1, l2, some (.int x), l4, l5] (.int x :: st) M := e_ld d25_51 rfl rfl rfl rfl rfl rfl
theorem d25_52 : decode (cod 25) 52 = .ok (.iload 4, 2) := by decide +kernel
theorem s25_52 {M : Mm} {st : List Value} {l0 l1 l2 l3 l5 : Option Value} {x : Int32} : EE 25 52 [l0, l1, l2, l3, some (.int x), l5] st M = EE 25 54 [l0, l1, l2, l3, some (.int x), l5] (.int x :: st) M := e_ld d25_52 rfl rfl rfl rfl rfl rfl
theorem d25_54 : decode (cod 25) 54 = .ok (.iadd, 1) := by decide +kernel
theorem s25_54 {M : Mm} {st : List Value} {l0 l1 l2 l3 l4 l5 : Option Value} {x y : Int32} : EE 25 54 [l0, l1, l2, l3, l4, l5] (.int y :: .int x :: st) M = EE 25 55 [l0, l1, l2, l3, l4, l5] (.int (x + y) :: st) M := e_II d25_54 rfl rfl rfl rfl rfl rfl
theorem d25_55 : decode (cod 25) 55 = .ok (.iconst 1, 1) := by decide +kernel
theorem s25_55 {M : Mm} {st : List Value} {l0 l1 l2 l3 l4 l5 : Option Value} : EE 25 55 [l0, l1, l2, l3, l4, l5] st M = EE 25 56 [l0, l1, l2, l3, l4, l5] (.int (nI 1) :: st) M := e_con d25_55 k_con_1
theorem d25_56 : decode (cod 25) 56 = .ok (.iadd, 1) := by decide +kernel
theorem s25_56 {M : Mm} {st : List Value} {l0 l1 l2 l3 l4 l5 : Option Value} {x y : Int32} : EE 25 56 [l0, l1, l2, l3, l4, l5] (.int y :: .int x :: st) M = EE 25 57 [l0, l1, l2, l3, l4, l5] (.int (x + y) :: st) M := e_II d25_56 rfl rfl rfl rfl rfl rfl
theorem d25_57 : decode (cod 25) 57 = .ok (.iconst 2, 1) := by decide +kernel
theorem s25_57 {M : Mm} {st : List Value} {l0 l1 l2 l3 l4 l5 : Option Value} : EE 25 57 [l0, l1, l2, l3, l4, l5] st M = EE 25 58 [l0, l1, l2, l3, l4, l5] (.int (nI 2) :: st) M := e_con d25_57 k_con_2
theorem d25_58 : decode (cod 25) 58 = .ok (.idiv, 1) := by decide +kernel
theorem s25_58 {M : Mm} {st : List Value} {l0 l1 l2 l3 l4 l5 : Option Value} {x y : Nat} (h1 : x < 2 ^ 31) (h2 : 0 < y) (h3 : y < 2 ^ 31) : EE 25 58 [l0, l1, l2, l3, l4, l5] (.int (nI y) :: .int (nI x) :: st) M = EE 25 59 [l0, l1, l2, l3, l4, l5] (.int (nI (x / y)) :: st) M := e_divN d25_58 h1 h2 h3
theorem d25_59 : decode (cod 25) 59 = .ok (.istore 5, 2) := by decide +kernel
theorem s25_59 {M : Mm} {st : List Value} {l0 l1 l2 l3 l4 l5 : Option Value} {x : Int32} : EE 25 59 [l0, l1, l2, l3, l4, l5] (.int x :: st) M = EE 25 61 [l0, l1, l2, l3, cln l4, some (.int x)] st M := e_st1 d25_59 rfl rfl rfl rfl rfl rfl rfl (Nat.le_of_ble_eq_true rfl) rfl
theorem d25_61 : decode (cod 25) 61 = .ok (.aload_n 0, 1) := by decide +kernel
theorem s25_61 {M : Mm} {st : List Value} {l1 l2 l3 l4 l5 : Option Value} {x : Nat} : EE 25 61 [some (.ref x), l1, l2, l3, l4, l5] st M = EE 25 62 [some (.ref x), l1, l2, l3, l4, l5] (.ref x :: st) M := e_ld d25_61 rfl rfl rfl rfl rfl rfl
theorem d25_62 : decode (cod 25) 62 = .ok (.iload_n 2, 1) := by decide +kernel
theorem s25_62 {M : Mm} {st : List Value} {l0 l1 l3 l4 l5 : Option Value} {x : Int32} : EE 25 62 [l0, l1, some (.int x), l3, l4, l5] st M = EE 25 63 [l0, l1, some (.int x), l3, l4, l5] (.int x :: st) M := e_ld d25_62 rfl rfl rfl rfl rfl rfl
theorem d25_63 : decode (cod 25) 63 = .ok (.iload_n 1, 1) := by decide +kernel
theorem s25_63 {M : Mm} {st : List Value} {l0 l2 l3 l4 l5 : Option Value} {x : Int32} : EE 25 63 [l0, some (.int x), l2, l3, l4, l5] st M = EE 25 64 [l0, some (.int x), l2, l3, l4, l5] (.int x :: st) M := e_ld d25_63 rfl rfl rfl rfl rfl rfl
theorem d25_64 : decode (cod 25) 64 = .ok (.iload 5, 2) := by decide +kernel
theorem s25_64 {M : Mm} {st : List Value} {l0 l1 l2 l3 l4 : Option Value} {x : Int32} : EE 25 64 [l0, l1, l2, l3, l4, some (.int x)] st M = EE 25 66 [l0, l1, l2, l3, l4, some (.int x)] (.int x :: st) M := e_ld d25_64 rfl rfl rfl rfl rfl rfl
theorem d25_66 : decode (cod 25) 66 = .ok (.invokevirtual 129, 3) := by decide +kernel
theorem s25_66 {l0 l1 l2 l3 l4 l5 : Option Value} {a : Nat} {M : Mm} {b0 : Int32} {b1 : Int32} {b2 : Int32} {st : List Value} (hl : st.length ≤ 4) (ho : isO "HandoverDesk$State" M.1 a = true) : EE 25 66 [l0, l1, l2, l3, l4, l5] (.int b2 :: .int b1 :: .int b0 :: .ref a :: st) M = (FF 24 (.ref a :: [.int b0, .int b1, .int b2]) M).bind (fun z => EE 25 69 [l0, l1, l2, l3, l4, l5] (psh z.1 st) z.2) := e_calv (av := [.int b0, .int b1, .int b2]) d25_66 c1_129 rfl rfl rfl r25_24 rfl hl ho
theorem d25_69 : decode (cod 25) 69 = .ok (.aload_n 0, 1) := by decide +kernel
theorem s25_69 {M : Mm} {st : List Value} {l1 l2 l3 l4 l5 : Option Value} {x : Nat} : EE 25 69 [some (.ref x), l1, l2, l3, l4, l5] st M = EE 25 70 [some (.ref x), l1, l2, l3, l4, l5] (.ref x :: st) M := e_ld d25_69 rfl rfl rfl rfl rfl rfl
theorem d25_70 : decode (cod 25) 70 = .ok (.dup, 1) := by decide +kernel
theorem s25_70i {M : Mm} {st : List Value} {l0 l1 l2 l3 l4 l5 : Option Value} {x : Int32} : EE 25 70 [l0, l1, l2, l3, l4, l5] (.int x :: st) M = EE 25 71 [l0, l1, l2, l3, l4, l5] (.int x :: .int x :: st) M := e_dup d25_70 rfl
theorem s25_70r {M : Mm} {st : List Value} {l0 l1 l2 l3 l4 l5 : Option Value} {x : Nat} : EE 25 70 [l0, l1, l2, l3, l4, l5] (.ref x :: st) M = EE 25 71 [l0, l1, l2, l3, l4, l5] (.ref x :: .ref x :: st) M := e_dup d25_70 rfl
theorem d25_71 : decode (cod 25) 71 = .ok (.getfield 72, 3) := by decide +kernel
theorem s25_71 {n : Nat} {I : Nat → Nat → Int32} {R : Nat → Nat → Option Nat} {st : List Value} {l0 l1 l2 l3 l4 l5 : Option Value} {a : Nat} : EE 25 71 [l0, l1, l2, l3, l4, l5] (.ref a :: st) (n, I, R) = (gfI n I R 1 16 a).bind (fun z => EE 25 74 [l0, l1, l2, l3, l4, l5] (z :: st) (n, I, R)) := e_getf d25_71 f1_72 rfl rfl
theorem d25_74 : decode (cod 25) 74 = .ok (.aload_n 0, 1) := by decide +kernel
theorem s25_74 {M : Mm} {st : List Value} {l1 l2 l3 l4 l5 : Option Value} {x : Nat} : EE 25 74 [some (.ref x), l1, l2, l3, l4, l5] st M = EE 25 75 [some (.ref x), l1, l2, l3, l4, l5] (.ref x :: st) M := e_ld d25_74 rfl rfl rfl rfl rfl rfl
theorem d25_75 : decode (cod 25) 75 = .ok (.getfield 9, 3) := by decide +kernel
theorem s25_75 {n : Nat} {I : Nat → Nat → Int32} {R : Nat → Nat → Option Nat} {st : List Value} {l0 l1 l2 l3 l4 l5 : Option Value} {a : Nat} : EE 25 75 [l0, l1, l2, l3, l4, l5] (.ref a :: st) (n, I, R) = (gfI n I R 1 0 a).bind (fun z => EE 25 78 [l0, l1, l2, l3, l4, l5] (z :: st) (n, I, R)) := e_getf d25_75 f1_9 rfl rfl
theorem d25_78 : decode (cod 25) 78 = .ok (.iconst 5, 1) := by decide +kernel
theorem s25_78 {M : Mm} {st : List Value} {l0 l1 l2 l3 l4 l5 : Option Value} : EE 25 78 [l0, l1, l2, l3, l4, l5] st M = EE 25 79 [l0, l1, l2, l3, l4, l5] (.int (nI 5) :: st) M := e_con d25_78 k_con_5
theorem d25_79 : decode (cod 25) 79 = .ok (.iaload, 1) := by decide +kernel
theorem s25_79 {n : Nat} {I : Nat → Nat → Int32} {R : Nat → Nat → Option Nat} {st : List Value} {l0 l1 l2 l3 l4 l5 : Option Value} {j : Int32} {a : Nat} : EE 25 79 [l0, l1, l2, l3, l4, l5] (.int j :: .ref a :: st) (n, I, R) = (ardI 5 n I a j).bind (fun z => EE 25 80 [l0, l1, l2, l3, l4, l5] (.int z :: st) (n, I, R)) := e_iald d25_79
theorem d25_80 : decode (cod 25) 80 = .ok (.iadd, 1) := by decide +kernel
theorem s25_80 {M : Mm} {st : List Value} {l0 l1 l2 l3 l4 l5 : Option Value} {x y : Int32} : EE 25 80 [l0, l1, l2, l3, l4, l5] (.int y :: .int x :: st) M = EE 25 81 [l0, l1, l2, l3, l4, l5] (.int (x + y) :: st) M := e_II d25_80 rfl rfl rfl rfl rfl rfl
theorem d25_81 : decode (cod 25) 81 = .ok (.putfield 72, 3) := by decide +kernel
theorem s25_81 {n : Nat} {I : Nat → Nat → Int32} {R : Nat → Nat → Option Nat} {st : List Value} {l0 l1 l2 l3 l4 l5 : Option Value} {a : Nat} {v : Value} : EE 25 81 [l0, l1, l2, l3, l4, l5] (v :: .ref a :: st) (n, I, R) = (pfI n I R 1 16 a v).bind (fun z => EE 25 84 [l0, l1, l2, l3, l4, l5] st (n, z.1, z.2)) := e_putf d25_81 f1_72 rfl rfl (Or.inr rfl)
theorem d25_84 : decode (cod 25) 84 = .ok (.iload 5, 2) := by decide +kernel
theorem s25_84 {M : Mm} {st : List Value} {l0 l1 l2 l3 l4 : Option Value} {x : Int32} : EE 25 84 [l0, l1, l2, l3, l4, some (.int x)] st M = EE 25 86 [l0, l1, l2, l3, l4, some (.int x)] (.int x :: st) M := e_ld d25_84 rfl rfl rfl rfl rfl rfl
theorem d25_86 : decode (cod 25) 86 = .ok (.ireturn, 1) := by decide +kernel
theorem s25_86 {M : Mm} {l0 l1 l2 l3 l4 l5 : Option Value} {v : Int32} : EE 25 86 [l0, l1, l2, l3, l4, l5] [.int v] M = some (some (.int v), M) := e_iret d25_86 rfl rfl
theorem FE25 {a : Nat} {b0 : Int32} {M : Mm} : FF 25 [.ref a, .int b0] M = EE 25 0 [some (.ref a), some (.int b0), none, none, none, none] [] M := FF_eq 25 _ _ (Nat.le_of_ble_eq_true rfl)
theorem d26_0 : decode (cod 26) 0 = .ok (.aload_n 0, 1) := by decide +kernel
theorem s26_0 {M : Mm} {st : List Value} {x : Nat} : EE 26 0 [some (.ref x)] st M = EE 26 1 [some (.ref x)] (.ref x :: st) M := e_ld d26_0 rfl rfl rfl rfl rfl rfl
theorem d26_1 : decode (cod 26) 1 = .ok (.getfield 24, 3) := by decide +kernel
theorem s26_1 {n : Nat} {I : Nat → Nat → Int32} {R : Nat → Nat → Option Nat} {st : List Value} {l0 : Option Value} {a : Nat} : EE 26 1 [l0] (.ref a :: st) (n, I, R) = (gfI n I R 1 1 a).bind (fun z => EE 26 4 [l0] (z :: st) (n, I, R)) := e_getf d26_1 f1_24 rfl rfl
theorem d26_4 : decode (cod 26) 4 = .ok (.aload_n 0, 1) := by decide +kernel
theorem s26_4 {M : Mm} {st : List Value} {x : Nat} : EE 26 4 [some (.ref x)] st M = EE 26 5 [some (.ref x)] (.ref x :: st) M := e_ld d26_4 rfl rfl rfl rfl rfl rfl
theorem d26_5 : decode (cod 26) 5 = .ok (.getfield 57, 3) := by decide +kernel
theorem s26_5 {n : Nat} {I : Nat → Nat → Int32} {R : Nat → Nat → Option Nat} {st : List Value} {l0 : Option Value} {a : Nat} : EE 26 5 [l0] (.ref a :: st) (n, I, R) = (gfI n I R 1 11 a).bind (fun z => EE 26 8 [l0] (z :: st) (n, I, R)) := e_getf d26_5 f1_57 rfl rfl
theorem d26_8 : decode (cod 26) 8 = .ok (.bipush 12, 2) := by decide +kernel
theorem s26_8 {M : Mm} {st : List Value} {l0 : Option Value} : EE 26 8 [l0] st M = EE 26 10 [l0] (.int (nI 12) :: st) M := e_bip d26_8 k_bip_12
theorem d26_10 : decode (cod 26) 10 = .ok (.invokestatic 75, 3) := by decide +kernel
theorem s26_10 {M : Mm} {l0 : Option Value} {b0 : Int32} {b1 : Int32} {st : List Value} (hl : st.length ≤ 4) : EE 26 10 [l0] (.int b1 :: .int b0 :: st) M = (FF 152 [.int b0, .int b1] M).bind (fun z => EE 26 13 [l0] (psh z.1 st) z.2) := e_cals (av := [.int b0, .int b1]) d26_10 c1_75 (Or.inl rfl) rfl rfl r26_152 rfl hl
theorem d26_13 : decode (cod 26) 13 = .ok (.iaload, 1) := by decide +kernel
theorem s26_13 {n : Nat} {I : Nat → Nat → Int32} {R : Nat → Nat → Option Nat} {st : List Value} {l0 : Option Value} {j : Int32} {a : Nat} : EE 26 13 [l0] (.int j :: .ref a :: st) (n, I, R) = (ardI 5 n I a j).bind (fun z => EE 26 14 [l0] (.int z :: st) (n, I, R)) := e_iald d26_13
theorem d26_14 : decode (cod 26) 14 = .ok (.ireturn, 1) := by decide +kernel
theorem s26_14 {M : Mm} {l0 : Option Value} {v : Int32} : EE 26 14 [l0] [.int v] M = some (some (.int v), M) := e_iret d26_14 rfl rfl
theorem FE26 {a : Nat} {M : Mm} : FF 26 [.ref a] M = EE 26 0 [some (.ref a)] [] M := FF_eq 26 _ _ (Nat.le_of_ble_eq_true rfl)
theorem d27_0 : decode (cod 27) 0 = .ok (.iconst 0, 1) := by decide +kernel
theorem s27_0 {M : Mm} {st : List Value} {l0 l1 l2 l3 : Option Value} : EE 27 0 [l0, l1, l2, l3] st M = EE 27 1 [l0, l1, l2, l3] (.int (nI 0) :: st) M := e_con d27_0 k_con_0
theorem d27_1 : decode (cod 27) 1 = .ok (.istore_n 2, 1) := by decide +kernel
theorem s27_1 {M : Mm} {st : List Value} {l0 l1 l2 l3 : Option Value} {x : Int32} : EE 27 1 [l0, l1, l2, l3] (.int x :: st) M = EE 27 2 [l0, cln l1, some (.int x), l3] st M := e_st1 d27_1 rfl rfl rfl rfl rfl rfl rfl (Nat.le_of_ble_eq_true rfl) rfl
theorem d27_2 : decode (cod 27) 2 = .ok (.iconst 1, 1) := by decide +kernel
theorem s27_2 {M : Mm} {st : List Value} {l0 l1 l2 l3 : Option Value} : EE 27 2 [l0, l1, l2, l3] st M = EE 27 3 [l0, l1, l2, l3] (.int (nI 1) :: st) M := e_con d27_2 k_con_1
theorem d27_3 : decode (cod 27) 3 = .ok (.istore_n 3, 1) := by decide +kernel
theorem s27_3 {M : Mm} {st : List Value} {l0 l1 l2 l3 : Option Value} {x : Int32} : EE 27 3 [l0, l1, l2, l3] (.int x :: st) M = EE 27 4 [l0, l1, cln l2, some (.int x)] st M := e_st1 d27_3 rfl rfl rfl rfl rfl rfl rfl (Nat.le_of_ble_eq_true rfl) rfl
theorem d27_4 : decode (cod 27) 4 = .ok (.iload_n 3, 1) := by decide +kernel
theorem s27_4 {M : Mm} {st : List Value} {l0 l1 l2 : Option Value} {x : Int32} : EE 27 4 [l0, l1, l2, some (.int x)] st M = EE 27 5 [l0, l1, l2, some (.int x)] (.int x :: st) M := e_ld d27_4 rfl rfl rfl rfl rfl rfl
theorem d27_5 : decode (cod 27) 5 = .ok (.bipush 6, 2) := by decide +kernel
theorem s27_5 {M : Mm} {st : List Value} {l0 l1 l2 l3 : Option Value} : EE 27 5 [l0, l1, l2, l3] st M = EE 27 7 [l0, l1, l2, l3] (.int (nI 6) :: st) M := e_bip d27_5 k_bip_6
theorem d27_7 : decode (cod 27) 7 = .ok (.if_icmp .ge 26, 3) := by decide +kernel
theorem s27_7 {M : Mm} {st : List Value} {l0 l1 l2 l3 : Option Value} {x y : Int32} : EE 27 7 [l0, l1, l2, l3] (.int y :: .int x :: st) M = if y ≤ x then EE 27 33 [l0, l1, l2, l3] st M else EE 27 10 [l0, l1, l2, l3] st M := e_cge d27_7 (by decide)
theorem d27_10 : decode (cod 27) 10 = .ok (.aload_n 0, 1) := by decide +kernel
theorem s27_10 {M : Mm} {st : List Value} {l1 l2 l3 : Option Value} {x : Nat} : EE 27 10 [some (.ref x), l1, l2, l3] st M = EE 27 11 [some (.ref x), l1, l2, l3] (.ref x :: st) M := e_ld d27_10 rfl rfl rfl rfl rfl rfl
theorem d27_11 : decode (cod 27) 11 = .ok (.iload_n 3, 1) := by decide +kernel
theorem s27_11 {M : Mm} {st : List Value} {l0 l1 l2 : Option Value} {x : Int32} : EE 27 11 [l0, l1, l2, some (.int x)] st M = EE 27 12 [l0, l1, l2, some (.int x)] (.int x :: st) M := e_ld d27_11 rfl rfl rfl rfl rfl rfl
theorem d27_12 : decode (cod 27) 12 = .ok (.iload_n 1, 1) := by decide +kernel
theorem s27_12 {M : Mm} {st : List Value} {l0 l2 l3 : Option Value} {x : Int32} : EE 27 12 [l0, some (.int x), l2, l3] st M = EE 27 13 [l0, some (.int x), l2, l3] (.int x :: st) M := e_ld d27_12 rfl rfl rfl rfl rfl rfl
theorem d27_13 : decode (cod 27) 13 = .ok (.invokevirtual 88, 3) := by decide +kernel
theorem s27_13 {l0 l1 l2 l3 : Option Value} {a : Nat} {M : Mm} {b0 : Int32} {b1 : Int32} {st : List Value} (hl : st.length ≤ 4) (ho : isO "HandoverDesk$State" M.1 a = true) : EE 27 13 [l0, l1, l2, l3] (.int b1 :: .int b0 :: .ref a :: st) M = (FF 23 (.ref a :: [.int b0, .int b1]) M).bind (fun z => EE 27 16 [l0, l1, l2, l3] (psh z.1 st) z.2) := e_calv (av := [.int b0, .int b1]) d27_13 c1_88 rfl rfl rfl r27_23 rfl hl ho
theorem d27_16 : decode (cod 27) 16 = .ok (.aload_n 0, 1) := by decide +kernel
theorem s27_16 {M : Mm} {st : List Value} {l1 l2 l3 : Option Value} {x : Nat} : EE 27 16 [some (.ref x), l1, l2, l3] st M = EE 27 17 [some (.ref x), l1, l2, l3] (.ref x :: st) M := e_ld d27_16 rfl rfl rfl rfl rfl rfl
theorem d27_17 : decode (cod 27) 17 = .ok (.iload_n 2, 1) := by decide +kernel
theorem s27_17 {M : Mm} {st : List Value} {l0 l1 l3 : Option Value} {x : Int32} : EE 27 17 [l0, l1, some (.int x), l3] st M = EE 27 18 [l0, l1, some (.int x), l3] (.int x :: st) M := e_ld d27_17 rfl rfl rfl rfl rfl rfl
theorem d27_18 : decode (cod 27) 18 = .ok (.iload_n 1, 1) := by decide +kernel
theorem s27_18 {M : Mm} {st : List Value} {l0 l2 l3 : Option Value} {x : Int32} : EE 27 18 [l0, some (.int x), l2, l3] st M = EE 27 19 [l0, some (.int x), l2, l3] (.int x :: st) M := e_ld d27_18 rfl rfl rfl rfl rfl rfl
theorem d27_19 : decode (cod 27) 19 = .ok (.invokevirtual 88, 3) := by decide +kernel
theorem s27_19 {l0 l1 l2 l3 : Option Value} {a : Nat} {M : Mm} {b0 : Int32} {b1 : Int32} {st : List Value} (hl : st.length ≤ 4) (ho : isO "HandoverDesk$State" M.1 a = true) : EE 27 19 [l0, l1, l2, l3] (.int b1 :: .int b0 :: .ref a :: st) M = (FF 23 (.ref a :: [.int b0, .int b1]) M).bind (fun z => EE 27 22 [l0, l1, l2, l3] (psh z.1 st) z.2) := e_calv (av := [.int b0, .int b1]) d27_19 c1_88 rfl rfl rfl r27_23 rfl hl ho
theorem d27_22 : decode (cod 27) 22 = .ok (.if_icmp .le 5, 3) := by decide +kernel
theorem s27_22 {M : Mm} {st : List Value} {l0 l1 l2 l3 : Option Value} {x y : Int32} : EE 27 22 [l0, l1, l2, l3] (.int y :: .int x :: st) M = if x ≤ y then EE 27 27 [l0, l1, l2, l3] st M else EE 27 25 [l0, l1, l2, l3] st M := e_cle d27_22 (by decide)
theorem d27_25 : decode (cod 27) 25 = .ok (.iload_n 3, 1) := by decide +kernel
theorem s27_25 {M : Mm} {st : List Value} {l0 l1 l2 : Option Value} {x : Int32} : EE 27 25 [l0, l1, l2, some (.int x)] st M = EE 27 26 [l0, l1, l2, some (.int x)] (.int x :: st) M := e_ld d27_25 rfl rfl rfl rfl rfl rfl
theorem d27_26 : decode (cod 27) 26 = .ok (.istore_n 2, 1) := by decide +kernel
theorem s27_26 {M : Mm} {st : List Value} {l0 l1 l2 l3 : Option Value} {x : Int32} : EE 27 26 [l0, l1, l2, l3] (.int x :: st) M = EE 27 27 [l0, cln l1, some (.int x), l3] st M := e_st1 d27_26 rfl rfl rfl rfl rfl rfl rfl (Nat.le_of_ble_eq_true rfl) rfl
theorem d27_27 : decode (cod 27) 27 = .ok (.iinc 3 1, 3) := by decide +kernel
theorem s27_27 {M : Mm} {st : List Value} {l0 l1 l2 : Option Value} {x : Int32} : EE 27 27 [l0, l1, l2, some (.int x)] st M = EE 27 30 [l0, l1, cln l2, some (.int (x + nI 1))] st M := e_iinc d27_27 rfl (congrArg (fun z => x + z) k_inc_1) rfl
theorem d27_30 : decode (cod 27) 30 = .ok (.goto (-26), 3) := by decide +kernel
theorem s27_30 {M : Mm} {st : List Value} {l0 l1 l2 l3 : Option Value} : EE 27 30 [l0, l1, l2, l3] st M = EE 27 4 [l0, l1, l2, l3] st M := e_goto d27_30 (by decide)
theorem d27_33 : decode (cod 27) 33 = .ok (.iload_n 2, 1) := by decide +kernel
theorem s27_33 {M : Mm} {st : List Value} {l0 l1 l3 : Option Value} {x : Int32} : EE 27 33 [l0, l1, some (.int x), l3] st M = EE 27 34 [l0, l1, some (.int x), l3] (.int x :: st) M := e_ld d27_33 rfl rfl rfl rfl rfl rfl
theorem d27_34 : decode (cod 27) 34 = .ok (.ireturn, 1) := by decide +kernel
theorem s27_34 {M : Mm} {l0 l1 l2 l3 : Option Value} {v : Int32} : EE 27 34 [l0, l1, l2, l3] [.int v] M = some (some (.int v), M) := e_iret d27_34 rfl rfl
theorem FE27 {a : Nat} {b0 : Int32} {M : Mm} : FF 27 [.ref a, .int b0] M = EE 27 0 [some (.ref a), some (.int b0), none, none] [] M := FF_eq 27 _ _ (Nat.le_of_ble_eq_true rfl)
theorem d28_0 : decode (cod 28) 0 = .ok (.aload_n 0, 1) := by decide +kernel
theorem s28_0 {M : Mm} {st : List Value} {x : Nat} : EE 28 0 [some (.ref x)] st M = EE 28 1 [some (.ref x)] (.ref x :: st) M := e_ld d28_0 rfl rfl rfl rfl rfl rfl
theorem d28_1 : decode (cod 28) 1 = .ok (.getfield 27, 3) := by decide +kernel
theorem s28_1 {n : Nat} {I : Nat → Nat → Int32} {R : Nat → Nat → Option Nat} {st : List Value} {l0 : Option Value} {a : Nat} : EE 28 1 [l0] (.ref a :: st) (n, I, R) = (gfI n I R 1 2 a).bind (fun z => EE 28 4 [l0] (z :: st) (n, I, R)) := e_getf d28_1 f1_27 rfl rfl
theorem d28_4 : decode (cod 28) 4 = .ok (.aload_n 0, 1) := by decide +kernel
theorem s28_4 {M : Mm} {st : List Value} {x : Nat} : EE 28 4 [some (.ref x)] st M = EE 28 5 [some (.ref x)] (.ref x :: st) M := e_ld d28_4 rfl rfl rfl rfl rfl rfl
theorem d28_5 : decode (cod 28) 5 = .ok (.getfield 57, 3) := by decide +kernel
theorem s28_5 {n : Nat} {I : Nat → Nat → Int32} {R : Nat → Nat → Option Nat} {st : List Value} {l0 : Option Value} {a : Nat} : EE 28 5 [l0] (.ref a :: st) (n, I, R) = (gfI n I R 1 11 a).bind (fun z => EE 28 8 [l0] (z :: st) (n, I, R)) := e_getf d28_5 f1_57 rfl rfl
theorem d28_8 : decode (cod 28) 8 = .ok (.bipush 12, 2) := by decide +kernel
theorem s28_8 {M : Mm} {st : List Value} {l0 : Option Value} : EE 28 8 [l0] st M = EE 28 10 [l0] (.int (nI 12) :: st) M := e_bip d28_8 k_bip_12
theorem d28_10 : decode (cod 28) 10 = .ok (.invokestatic 75, 3) := by decide +kernel
theorem s28_10 {M : Mm} {l0 : Option Value} {b0 : Int32} {b1 : Int32} {st : List Value} (hl : st.length ≤ 4) : EE 28 10 [l0] (.int b1 :: .int b0 :: st) M = (FF 152 [.int b0, .int b1] M).bind (fun z => EE 28 13 [l0] (psh z.1 st) z.2) := e_cals (av := [.int b0, .int b1]) d28_10 c1_75 (Or.inl rfl) rfl rfl r28_152 rfl hl
theorem d28_13 : decode (cod 28) 13 = .ok (.iaload, 1) := by decide +kernel
theorem s28_13 {n : Nat} {I : Nat → Nat → Int32} {R : Nat → Nat → Option Nat} {st : List Value} {l0 : Option Value} {j : Int32} {a : Nat} : EE 28 13 [l0] (.int j :: .ref a :: st) (n, I, R) = (ardI 5 n I a j).bind (fun z => EE 28 14 [l0] (.int z :: st) (n, I, R)) := e_iald d28_13
theorem d28_14 : decode (cod 28) 14 = .ok (.ireturn, 1) := by decide +kernel
theorem s28_14 {M : Mm} {l0 : Option Value} {v : Int32} : EE 28 14 [l0] [.int v] M = some (some (.int v), M) := e_iret d28_14 rfl rfl
theorem FE28 {a : Nat} {M : Mm} : FF 28 [.ref a] M = EE 28 0 [some (.ref a)] [] M := FF_eq 28 _ _ (Nat.le_of_ble_eq_true rfl)
theorem d29_0 : decode (cod 29) 0 = .ok (.aload_n 0, 1) := by decide +kernel
theorem s29_0 {M : Mm} {st : List Value} {l1 l2 l3 l4 : Option Value} {x : Nat} : EE 29 0 [some (.ref x), l1, l2, l3, l4] st M = EE 29 1 [some (.ref x), l1, l2, l3, l4] (.ref x :: st) M := e_ld d29_0 rfl rfl rfl rfl rfl rfl
theorem d29_1 : decode (cod 29) 1 = .ok (.invokevirtual 91, 3) := by decide +kernel
theorem s29_1 {l0 l1 l2 l3 l4 : Option Value} {a : Nat} {M : Mm} {st : List Value} (hl : st.length ≤ 4) (ho : isO "HandoverDesk$State" M.1 a = true) : EE 29 1 [l0, l1, l2, l3, l4] (.ref a :: st) M = (FF 26 (.ref a :: []) M).bind (fun z => EE 29 4 [l0, l1, l2, l3, l4] (psh z.1 st) z.2) := e_calv (av := []) d29_1 c1_91 rfl rfl rfl r29_26 rfl hl ho
theorem d29_4 : decode (cod 29) 4 = .ok (.istore_n 2, 1) := by decide +kernel
theorem s29_4 {M : Mm} {st : List Value} {l0 l1 l2 l3 l4 : Option Value} {x : Int32} : EE 29 4 [l0, l1, l2, l3, l4] (.int x :: st) M = EE 29 5 [l0, cln l1, some (.int x), l3, l4] st M := e_st1 d29_4 rfl rfl rfl rfl rfl rfl rfl (Nat.le_of_ble_eq_true rfl) rfl
theorem d29_5 : decode (cod 29) 5 = .ok (.aload_n 0, 1) := by decide +kernel
theorem s29_5 {M : Mm} {st : List Value} {l1 l2 l3 l4 : Option Value} {x : Nat} : EE 29 5 [some (.ref x), l1, l2, l3, l4] st M = EE 29 6 [some (.ref x), l1, l2, l3, l4] (.ref x :: st) M := e_ld d29_5 rfl rfl rfl rfl rfl rfl
theorem d29_6 : decode (cod 29) 6 = .ok (.invokevirtual 136, 3) := by decide +kernel
theorem s29_6 {l0 l1 l2 l3 l4 : Option Value} {a : Nat} {M : Mm} {st : List Value} (hl : st.length ≤ 4) (ho : isO "HandoverDesk$State" M.1 a = true) : EE 29 6 [l0, l1, l2, l3, l4] (.ref a :: st) M = (FF 30 (.ref a :: []) M).bind (fun z => EE 29 9 [l0, l1, l2, l3, l4] (psh z.1 st) z.2) := e_calv (av := []) d29_6 c1_136 rfl rfl rfl r29_30 rfl hl ho
theorem d29_9 : decode (cod 29) 9 = .ok (.istore_n 3, 1) := by decide +kernel
theorem s29_9 {M : Mm} {st : List Value} {l0 l1 l2 l3 l4 : Option Value} {x : Int32} : EE 29 9 [l0, l1, l2, l3, l4] (.int x :: st) M = EE 29 10 [l0, l1, cln l2, some (.int x), l4] st M := e_st1 d29_9 rfl rfl rfl rfl rfl rfl rfl (Nat.le_of_ble_eq_true rfl) rfl
theorem d29_10 : decode (cod 29) 10 = .ok (.iload_n 2, 1) := by decide +kernel
theorem s29_10 {M : Mm} {st : List Value} {l0 l1 l3 l4 : Option Value} {x : Int32} : EE 29 10 [l0, l1, some (.int x), l3, l4] st M = EE 29 11 [l0, l1, some (.int x), l3, l4] (.int x :: st) M := e_ld d29_10 rfl rfl rfl rfl rfl rfl
theorem d29_11 : decode (cod 29) 11 = .ok (.invokestatic 81, 3) := by decide +kernel
theorem s29_11 {M : Mm} {l0 l1 l2 l3 l4 : Option Value} {b0 : Int32} {st : List Value} (hl : st.length ≤ 4) : EE 29 11 [l0, l1, l2, l3, l4] (.int b0 :: st) M = (FF 49 [.int b0] M).bind (fun z => EE 29 14 [l0, l1, l2, l3, l4] (psh z.1 st) z.2) := e_cals (av := [.int b0]) d29_11 c1_81 (Or.inr rfl) rfl rfl r29_49 rfl hl
theorem d29_14 : decode (cod 29) 14 = .ok (.ifCond .eq 10, 3) := by decide +kernel
theorem s29_14 {M : Mm} {st : List Value} {l0 l1 l2 l3 l4 : Option Value} {x : Int32} : EE 29 14 [l0, l1, l2, l3, l4] (.int x :: st) M = if x = 0 then EE 29 24 [l0, l1, l2, l3, l4] st M else EE 29 17 [l0, l1, l2, l3, l4] st M := e_eq0 d29_14 (by decide)
theorem d29_17 : decode (cod 29) 17 = .ok (.iload_n 3, 1) := by decide +kernel
theorem s29_17 {M : Mm} {st : List Value} {l0 l1 l2 l4 : Option Value} {x : Int32} : EE 29 17 [l0, l1, l2, some (.int x), l4] st M = EE 29 18 [l0, l1, l2, some (.int x), l4] (.int x :: st) M := e_ld d29_17 rfl rfl rfl rfl rfl rfl
theorem d29_18 : decode (cod 29) 18 = .ok (.invokestatic 81, 3) := by decide +kernel
theorem s29_18 {M : Mm} {l0 l1 l2 l3 l4 : Option Value} {b0 : Int32} {st : List Value} (hl : st.length ≤ 4) : EE 29 18 [l0, l1, l2, l3, l4] (.int b0 :: st) M = (FF 49 [.int b0] M).bind (fun z => EE 29 21 [l0, l1, l2, l3, l4] (psh z.1 st) z.2) := e_cals (av := [.int b0]) d29_18 c1_81 (Or.inr rfl) rfl rfl r29_49 rfl hl
theorem d29_21 : decode (cod 29) 21 = .ok (.ifCond .ne 5, 3) := by decide +kernel
theorem s29_21 {M : Mm} {st : List Value} {l0 l1 l2 l3 l4 : Option Value} {x : Int32} : EE 29 21 [l0, l1, l2, l3, l4] (.int x :: st) M = if x = 0 then EE 29 24 [l0, l1, l2, l3, l4] st M else EE 29 26 [l0, l1, l2, l3, l4] st M := e_ne0 d29_21 (by decide)
theorem d29_24 : decode (cod 29) 24 = .ok (.iconst 0, 1) := by decide +kernel
theorem s29_24 {M : Mm} {st : List Value} {l0 l1 l2 l3 l4 : Option Value} : EE 29 24 [l0, l1, l2, l3, l4] st M = EE 29 25 [l0, l1, l2, l3, l4] (.int (nI 0) :: st) M := e_con d29_24 k_con_0
theorem d29_25 : decode (cod 29) 25 = .ok (.ireturn, 1) := by decide +kernel
theorem s29_25 {M : Mm} {l0 l1 l2 l3 l4 : Option Value} {v : Int32} : EE 29 25 [l0, l1, l2, l3, l4] [.int v] M = some (some (.int v), M) := e_iret d29_25 rfl rfl
theorem d29_26 : decode (cod 29) 26 = .ok (.aload_n 0, 1) := by decide +kernel
theorem s29_26 {M : Mm} {st : List Value} {l1 l2 l3 l4 : Option Value} {x : Nat} : EE 29 26 [some (.ref x), l1, l2, l3, l4] st M = EE 29 27 [some (.ref x), l1, l2, l3, l4] (.ref x :: st) M := e_ld d29_26 rfl rfl rfl rfl rfl rfl
theorem d29_27 : decode (cod 29) 27 = .ok (.aload_n 0, 1) := by decide +kernel
theorem s29_27 {M : Mm} {st : List Value} {l1 l2 l3 l4 : Option Value} {x : Nat} : EE 29 27 [some (.ref x), l1, l2, l3, l4] st M = EE 29 28 [some (.ref x), l1, l2, l3, l4] (.ref x :: st) M := e_ld d29_27 rfl rfl rfl rfl rfl rfl
theorem d29_28 : decode (cod 29) 28 = .ok (.getfield 32, 3) := by decide +kernel
theorem s29_28 {n : Nat} {I : Nat → Nat → Int32} {R : Nat → Nat → Option Nat} {st : List Value} {l0 l1 l2 l3 l4 : Option Value} {a : Nat} : EE 29 28 [l0, l1, l2, l3, l4] (.ref a :: st) (n, I, R) = (gfI n I R 1 3 a).bind (fun z => EE 29 31 [l0, l1, l2, l3, l4] (z :: st) (n, I, R)) := e_getf d29_28 f1_32 rfl rfl
theorem d29_31 : decode (cod 29) 31 = .ok (.iload_n 2, 1) := by decide +kernel
theorem s29_31 {M : Mm} {st : List Value} {l0 l1 l3 l4 : Option Value} {x : Int32} : EE 29 31 [l0, l1, some (.int x), l3, l4] st M = EE 29 32 [l0, l1, some (.int x), l3, l4] (.int x :: st) M := e_ld d29_31 rfl rfl rfl rfl rfl rfl
theorem d29_32 : decode (cod 29) 32 = .ok (.aaload, 1) := by decide +kernel
theorem s29_32 {n : Nat} {I : Nat → Nat → Int32} {R : Nat → Nat → Option Nat} {st : List Value} {l0 l1 l2 l3 l4 : Option Value} {j : Int32} {a : Nat} (h : 8 ≤ kd a ∧ a < 1000 ∧ pos a < n ∧ inb j (ln a)) : EE 29 32 [l0, l1, l2, l3, l4] (.int j :: .ref a :: st) (n, I, R) = EE 29 33 [l0, l1, l2, l3, l4] (va_rf (R a j.toNatClampNeg) :: st) (n, I, R) := e_aald d29_32 h
theorem d29_33 : decode (cod 29) 33 = .ok (.invokevirtual 139, 3) := by decide +kernel
theorem s29_33 {l0 l1 l2 l3 l4 : Option Value} {a : Nat} {M : Mm} {b0 : Nat} {st : List Value} (hl : st.length ≤ 4) (ho : isO "HandoverDesk$State" M.1 a = true) : EE 29 33 [l0, l1, l2, l3, l4] (.ref b0 :: .ref a :: st) M = (FF 31 (.ref a :: [.ref b0]) M).bind (fun z => EE 29 36 [l0, l1, l2, l3, l4] (psh z.1 st) z.2) := e_calv (av := [.ref b0]) d29_33 c1_139 rfl rfl rfl r29_31 rfl hl ho
theorem d29_36 : decode (cod 29) 36 = .ok (.iload_n 3, 1) := by decide +kernel
theorem s29_36 {M : Mm} {st : List Value} {l0 l1 l2 l4 : Option Value} {x : Int32} : EE 29 36 [l0, l1, l2, some (.int x), l4] st M = EE 29 37 [l0, l1, l2, some (.int x), l4] (.int x :: st) M := e_ld d29_36 rfl rfl rfl rfl rfl rfl
theorem d29_37 : decode (cod 29) 37 = .ok (.iload_n 2, 1) := by decide +kernel
theorem s29_37 {M : Mm} {st : List Value} {l0 l1 l3 l4 : Option Value} {x : Int32} : EE 29 37 [l0, l1, some (.int x), l3, l4] st M = EE 29 38 [l0, l1, some (.int x), l3, l4] (.int x :: st) M := e_ld d29_37 rfl rfl rfl rfl rfl rfl
theorem d29_38 : decode (cod 29) 38 = .ok (.if_icmp .eq 56, 3) := by decide +kernel
theorem s29_38 {M : Mm} {st : List Value} {l0 l1 l2 l3 l4 : Option Value} {x y : Int32} : EE 29 38 [l0, l1, l2, l3, l4] (.int y :: .int x :: st) M = if x = y then EE 29 94 [l0, l1, l2, l3, l4] st M else EE 29 41 [l0, l1, l2, l3, l4] st M := e_ceq d29_38 (by decide)
theorem d29_41 : decode (cod 29) 41 = .ok (.aload_n 0, 1) := by decide +kernel
theorem s29_41 {M : Mm} {st : List Value} {l1 l2 l3 l4 : Option Value} {x : Nat} : EE 29 41 [some (.ref x), l1, l2, l3, l4] st M = EE 29 42 [some (.ref x), l1, l2, l3, l4] (.ref x :: st) M := e_ld d29_41 rfl rfl rfl rfl rfl rfl
theorem d29_42 : decode (cod 29) 42 = .ok (.dup, 1) := by decide +kernel
theorem s29_42i {M : Mm} {st : List Value} {l0 l1 l2 l3 l4 : Option Value} {x : Int32} : EE 29 42 [l0, l1, l2, l3, l4] (.int x :: st) M = EE 29 43 [l0, l1, l2, l3, l4] (.int x :: .int x :: st) M := e_dup d29_42 rfl
theorem s29_42r {M : Mm} {st : List Value} {l0 l1 l2 l3 l4 : Option Value} {x : Nat} : EE 29 42 [l0, l1, l2, l3, l4] (.ref x :: st) M = EE 29 43 [l0, l1, l2, l3, l4] (.ref x :: .ref x :: st) M := e_dup d29_42 rfl
theorem d29_43 : decode (cod 29) 43 = .ok (.getfield 66, 3) := by decide +kernel
theorem s29_43 {n : Nat} {I : Nat → Nat → Int32} {R : Nat → Nat → Option Nat} {st : List Value} {l0 l1 l2 l3 l4 : Option Value} {a : Nat} : EE 29 43 [l0, l1, l2, l3, l4] (.ref a :: st) (n, I, R) = (gfI n I R 1 14 a).bind (fun z => EE 29 46 [l0, l1, l2, l3, l4] (z :: st) (n, I, R)) := e_getf d29_43 f1_66 rfl rfl
theorem d29_46 : decode (cod 29) 46 = .ok (.aload_n 0, 1) := by decide +kernel
theorem s29_46 {M : Mm} {st : List Value} {l1 l2 l3 l4 : Option Value} {x : Nat} : EE 29 46 [some (.ref x), l1, l2, l3, l4] st M = EE 29 47 [some (.ref x), l1, l2, l3, l4] (.ref x :: st) M := e_ld d29_46 rfl rfl rfl rfl rfl rfl
theorem d29_47 : decode (cod 29) 47 = .ok (.aload_n 0, 1) := by decide +kernel
theorem s29_47 {M : Mm} {st : List Value} {l1 l2 l3 l4 : Option Value} {x : Nat} : EE 29 47 [some (.ref x), l1, l2, l3, l4] st M = EE 29 48 [some (.ref x), l1, l2, l3, l4] (.ref x :: st) M := e_ld d29_47 rfl rfl rfl rfl rfl rfl
theorem d29_48 : decode (cod 29) 48 = .ok (.getfield 32, 3) := by decide +kernel
theorem s29_48 {n : Nat} {I : Nat → Nat → Int32} {R : Nat → Nat → Option Nat} {st : List Value} {l0 l1 l2 l3 l4 : Option Value} {a : Nat} : EE 29 48 [l0, l1, l2, l3, l4] (.ref a :: st) (n, I, R) = (gfI n I R 1 3 a).bind (fun z => EE 29 51 [l0, l1, l2, l3, l4] (z :: st) (n, I, R)) := e_getf d29_48 f1_32 rfl rfl
theorem d29_51 : decode (cod 29) 51 = .ok (.iload_n 2, 1) := by decide +kernel
theorem s29_51 {M : Mm} {st : List Value} {l0 l1 l3 l4 : Option Value} {x : Int32} : EE 29 51 [l0, l1, some (.int x), l3, l4] st M = EE 29 52 [l0, l1, some (.int x), l3, l4] (.int x :: st) M := e_ld d29_51 rfl rfl rfl rfl rfl rfl
theorem d29_52 : decode (cod 29) 52 = .ok (.aaload, 1) := by decide +kernel
theorem s29_52 {n : Nat} {I : Nat → Nat → Int32} {R : Nat → Nat → Option Nat} {st : List Value} {l0 l1 l2 l3 l4 : Option Value} {j : Int32} {a : Nat} (h : 8 ≤ kd a ∧ a < 1000 ∧ pos a < n ∧ inb j (ln a)) : EE 29 52 [l0, l1, l2, l3, l4] (.int j :: .ref a :: st) (n, I, R) = EE 29 53 [l0, l1, l2, l3, l4] (va_rf (R a j.toNatClampNeg) :: st) (n, I, R) := e_aald d29_52 h
theorem d29_53 : decode (cod 29) 53 = .ok (.aload_n 0, 1) := by decide +kernel
theorem s29_53 {M : Mm} {st : List Value} {l1 l2 l3 l4 : Option Value} {x : Nat} : EE 29 53 [some (.ref x), l1, l2, l3, l4] st M = EE 29 54 [some (.ref x), l1, l2, l3, l4] (.ref x :: st) M := e_ld d29_53 rfl rfl rfl rfl rfl rfl
theorem d29_54 : decode (cod 29) 54 = .ok (.getfield 32, 3) := by decide +kernel
theorem s29_54 {n : Nat} {I : Nat → Nat → Int32} {R : Nat → Nat → Option Nat} {st : List Value} {l0 l1 l2 l3 l4 : Option Value} {a : Nat} : EE 29 54 [l0, l1, l2, l3, l4] (.ref a :: st) (n, I, R) = (gfI n I R 1 3 a).bind (fun z => EE 29 57 [l0, l1, l2, l3, l4] (z :: st) (n, I, R)) := e_getf d29_54 f1_32 rfl rfl
theorem d29_57 : decode (cod 29) 57 = .ok (.iload_n 3, 1) := by decide +kernel
theorem s29_57 {M : Mm} {st : List Value} {l0 l1 l2 l4 : Option Value} {x : Int32} : EE 29 57 [l0, l1, l2, some (.int x), l4] st M = EE 29 58 [l0, l1, l2, some (.int x), l4] (.int x :: st) M := e_ld d29_57 rfl rfl rfl rfl rfl rfl
theorem d29_58 : decode (cod 29) 58 = .ok (.aaload, 1) := by decide +kernel
theorem s29_58 {n : Nat} {I : Nat → Nat → Int32} {R : Nat → Nat → Option Nat} {st : List Value} {l0 l1 l2 l3 l4 : Option Value} {j : Int32} {a : Nat} (h : 8 ≤ kd a ∧ a < 1000 ∧ pos a < n ∧ inb j (ln a)) : EE 29 58 [l0, l1, l2, l3, l4] (.int j :: .ref a :: st) (n, I, R) = EE 29 59 [l0, l1, l2, l3, l4] (va_rf (R a j.toNatClampNeg) :: st) (n, I, R) := e_aald d29_58 h
theorem d29_59 : decode (cod 29) 59 = .ok (.iload_n 1, 1) := by decide +kernel
theorem s29_59 {M : Mm} {st : List Value} {l0 l2 l3 l4 : Option Value} {x : Int32} : EE 29 59 [l0, some (.int x), l2, l3, l4] st M = EE 29 60 [l0, some (.int x), l2, l3, l4] (.int x :: st) M := e_ld d29_59 rfl rfl rfl rfl rfl rfl
theorem d29_60 : decode (cod 29) 60 = .ok (.invokevirtual 143, 3) := by decide +kernel
theorem s29_60 {l0 l1 l2 l3 l4 : Option Value} {a : Nat} {M : Mm} {b0 : Nat} {b1 : Nat} {b2 : Int32} {st : List Value} (hl : st.length ≤ 4) (ho : isO "HandoverDesk$State" M.1 a = true) : EE 29 60 [l0, l1, l2, l3, l4] (.int b2 :: .ref b1 :: .ref b0 :: .ref a :: st) M = (FF 32 (.ref a :: [.ref b0, .ref b1, .int b2]) M).bind (fun z => EE 29 63 [l0, l1, l2, l3, l4] (psh z.1 st) z.2) := e_calv (av := [.ref b0, .ref b1, .int b2]) d29_60 c1_143 rfl rfl rfl r29_32 rfl hl ho
theorem d29_63 : decode (cod 29) 63 = .ok (.iadd, 1) := by decide +kernel
theorem s29_63 {M : Mm} {st : List Value} {l0 l1 l2 l3 l4 : Option Value} {x y : Int32} : EE 29 63 [l0, l1, l2, l3, l4] (.int y :: .int x :: st) M = EE 29 64 [l0, l1, l2, l3, l4] (.int (x + y) :: st) M := e_II d29_63 rfl rfl rfl rfl rfl rfl
theorem d29_64 : decode (cod 29) 64 = .ok (.putfield 66, 3) := by decide +kernel
theorem s29_64 {n : Nat} {I : Nat → Nat → Int32} {R : Nat → Nat → Option Nat} {st : List Value} {l0 l1 l2 l3 l4 : Option Value} {a : Nat} {v : Value} : EE 29 64 [l0, l1, l2, l3, l4] (v :: .ref a :: st) (n, I, R) = (pfI n I R 1 14 a v).bind (fun z => EE 29 67 [l0, l1, l2, l3, l4] st (n, z.1, z.2)) := e_putf d29_64 f1_66 rfl rfl (Or.inr rfl)
theorem d29_67 : decode (cod 29) 67 = .ok (.aload_n 0, 1) := by decide +kernel
theorem s29_67 {M : Mm} {st : List Value} {l1 l2 l3 l4 : Option Value} {x : Nat} : EE 29 67 [some (.ref x), l1, l2, l3, l4] st M = EE 29 68 [some (.ref x), l1, l2, l3, l4] (.ref x :: st) M := e_ld d29_67 rfl rfl rfl rfl rfl rfl
theorem d29_68 : decode (cod 29) 68 = .ok (.dup, 1) := by decide +kernel
theorem s29_68i {M : Mm} {st : List Value} {l0 l1 l2 l3 l4 : Option Value} {x : Int32} : EE 29 68 [l0, l1, l2, l3, l4] (.int x :: st) M = EE 29 69 [l0, l1, l2, l3, l4] (.int x :: .int x :: st) M := e_dup d29_68 rfl
theorem s29_68r {M : Mm} {st : List Value} {l0 l1 l2 l3 l4 : Option Value} {x : Nat} : EE 29 68 [l0, l1, l2, l3, l4] (.ref x :: st) M = EE 29 69 [l0, l1, l2, l3, l4] (.ref x :: .ref x :: st) M := e_dup d29_68 rfl
theorem d29_69 : decode (cod 29) 69 = .ok (.getfield 63, 3) := by decide +kernel
theorem s29_69 {n : Nat} {I : Nat → Nat → Int32} {R : Nat → Nat → Option Nat} {st : List Value} {l0 l1 l2 l3 l4 : Option Value} {a : Nat} : EE 29 69 [l0, l1, l2, l3, l4] (.ref a :: st) (n, I, R) = (gfI n I R 1 13 a).bind (fun z => EE 29 72 [l0, l1, l2, l3, l4] (z :: st) (n, I, R)) := e_getf d29_69 f1_63 rfl rfl
theorem d29_72 : decode (cod 29) 72 = .ok (.iload_n 1, 1) := by decide +kernel
theorem s29_72 {M : Mm} {st : List Value} {l0 l2 l3 l4 : Option Value} {x : Int32} : EE 29 72 [l0, some (.int x), l2, l3, l4] st M = EE 29 73 [l0, some (.int x), l2, l3, l4] (.int x :: st) M := e_ld d29_72 rfl rfl rfl rfl rfl rfl
theorem d29_73 : decode (cod 29) 73 = .ok (.iadd, 1) := by decide +kernel
theorem s29_73 {M : Mm} {st : List Value} {l0 l1 l2 l3 l4 : Option Value} {x y : Int32} : EE 29 73 [l0, l1, l2, l3, l4] (.int y :: .int x :: st) M = EE 29 74 [l0, l1, l2, l3, l4] (.int (x + y) :: st) M := e_II d29_73 rfl rfl rfl rfl rfl rfl
theorem d29_74 : decode (cod 29) 74 = .ok (.putfield 63, 3) := by decide +kernel
theorem s29_74 {n : Nat} {I : Nat → Nat → Int32} {R : Nat → Nat → Option Nat} {st : List Value} {l0 l1 l2 l3 l4 : Option Value} {a : Nat} {v : Value} : EE 29 74 [l0, l1, l2, l3, l4] (v :: .ref a :: st) (n, I, R) = (pfI n I R 1 13 a v).bind (fun z => EE 29 77 [l0, l1, l2, l3, l4] st (n, z.1, z.2)) := e_putf d29_74 f1_63 rfl rfl (Or.inr rfl)
theorem d29_77 : decode (cod 29) 77 = .ok (.aload_n 0, 1) := by decide +kernel
theorem s29_77 {M : Mm} {st : List Value} {l1 l2 l3 l4 : Option Value} {x : Nat} : EE 29 77 [some (.ref x), l1, l2, l3, l4] st M = EE 29 78 [some (.ref x), l1, l2, l3, l4] (.ref x :: st) M := e_ld d29_77 rfl rfl rfl rfl rfl rfl
theorem d29_78 : decode (cod 29) 78 = .ok (.dup, 1) := by decide +kernel
theorem s29_78i {M : Mm} {st : List Value} {l0 l1 l2 l3 l4 : Option Value} {x : Int32} : EE 29 78 [l0, l1, l2, l3, l4] (.int x :: st) M = EE 29 79 [l0, l1, l2, l3, l4] (.int x :: .int x :: st) M := e_dup d29_78 rfl
theorem s29_78r {M : Mm} {st : List Value} {l0 l1 l2 l3 l4 : Option Value} {x : Nat} : EE 29 78 [l0, l1, l2, l3, l4] (.ref x :: st) M = EE 29 79 [l0, l1, l2, l3, l4] (.ref x :: .ref x :: st) M := e_dup d29_78 rfl
theorem d29_79 : decode (cod 29) 79 = .ok (.getfield 69, 3) := by decide +kernel
theorem s29_79 {n : Nat} {I : Nat → Nat → Int32} {R : Nat → Nat → Option Nat} {st : List Value} {l0 l1 l2 l3 l4 : Option Value} {a : Nat} : EE 29 79 [l0, l1, l2, l3, l4] (.ref a :: st) (n, I, R) = (gfI n I R 1 15 a).bind (fun z => EE 29 82 [l0, l1, l2, l3, l4] (z :: st) (n, I, R)) := e_getf d29_79 f1_69 rfl rfl
theorem d29_82 : decode (cod 29) 82 = .ok (.iload_n 1, 1) := by decide +kernel
theorem s29_82 {M : Mm} {st : List Value} {l0 l2 l3 l4 : Option Value} {x : Int32} : EE 29 82 [l0, some (.int x), l2, l3, l4] st M = EE 29 83 [l0, some (.int x), l2, l3, l4] (.int x :: st) M := e_ld d29_82 rfl rfl rfl rfl rfl rfl
theorem d29_83 : decode (cod 29) 83 = .ok (.aload_n 0, 1) := by decide +kernel
theorem s29_83 {M : Mm} {st : List Value} {l1 l2 l3 l4 : Option Value} {x : Nat} : EE 29 83 [some (.ref x), l1, l2, l3, l4] st M = EE 29 84 [some (.ref x), l1, l2, l3, l4] (.ref x :: st) M := e_ld d29_83 rfl rfl rfl rfl rfl rfl
theorem d29_84 : decode (cod 29) 84 = .ok (.getfield 9, 3) := by decide +kernel
theorem s29_84 {n : Nat} {I : Nat → Nat → Int32} {R : Nat → Nat → Option Nat} {st : List Value} {l0 l1 l2 l3 l4 : Option Value} {a : Nat} : EE 29 84 [l0, l1, l2, l3, l4] (.ref a :: st) (n, I, R) = (gfI n I R 1 0 a).bind (fun z => EE 29 87 [l0, l1, l2, l3, l4] (z :: st) (n, I, R)) := e_getf d29_84 f1_9 rfl rfl
theorem d29_87 : decode (cod 29) 87 = .ok (.iconst 4, 1) := by decide +kernel
theorem s29_87 {M : Mm} {st : List Value} {l0 l1 l2 l3 l4 : Option Value} : EE 29 87 [l0, l1, l2, l3, l4] st M = EE 29 88 [l0, l1, l2, l3, l4] (.int (nI 4) :: st) M := e_con d29_87 k_con_4
theorem d29_88 : decode (cod 29) 88 = .ok (.iaload, 1) := by decide +kernel
theorem s29_88 {n : Nat} {I : Nat → Nat → Int32} {R : Nat → Nat → Option Nat} {st : List Value} {l0 l1 l2 l3 l4 : Option Value} {j : Int32} {a : Nat} : EE 29 88 [l0, l1, l2, l3, l4] (.int j :: .ref a :: st) (n, I, R) = (ardI 5 n I a j).bind (fun z => EE 29 89 [l0, l1, l2, l3, l4] (.int z :: st) (n, I, R)) := e_iald d29_88
theorem d29_89 : decode (cod 29) 89 = .ok (.imul, 1) := by decide +kernel
theorem s29_89 {M : Mm} {st : List Value} {l0 l1 l2 l3 l4 : Option Value} {x y : Int32} : EE 29 89 [l0, l1, l2, l3, l4] (.int y :: .int x :: st) M = EE 29 90 [l0, l1, l2, l3, l4] (.int (x * y) :: st) M := e_II d29_89 rfl rfl rfl rfl rfl rfl
theorem d29_90 : decode (cod 29) 90 = .ok (.iadd, 1) := by decide +kernel
theorem s29_90 {M : Mm} {st : List Value} {l0 l1 l2 l3 l4 : Option Value} {x y : Int32} : EE 29 90 [l0, l1, l2, l3, l4] (.int y :: .int x :: st) M = EE 29 91 [l0, l1, l2, l3, l4] (.int (x + y) :: st) M := e_II d29_90 rfl rfl rfl rfl rfl rfl
theorem d29_91 : decode (cod 29) 91 = .ok (.putfield 69, 3) := by decide +kernel
theorem s29_91 {n : Nat} {I : Nat → Nat → Int32} {R : Nat → Nat → Option Nat} {st : List Value} {l0 l1 l2 l3 l4 : Option Value} {a : Nat} {v : Value} : EE 29 91 [l0, l1, l2, l3, l4] (v :: .ref a :: st) (n, I, R) = (pfI n I R 1 15 a v).bind (fun z => EE 29 94 [l0, l1, l2, l3, l4] st (n, z.1, z.2)) := e_putf d29_91 f1_69 rfl rfl (Or.inr rfl)
theorem d29_94 : decode (cod 29) 94 = .ok (.aload_n 0, 1) := by decide +kernel
theorem s29_94 {M : Mm} {st : List Value} {l1 l2 l3 l4 : Option Value} {x : Nat} : EE 29 94 [some (.ref x), l1, l2, l3, l4] st M = EE 29 95 [some (.ref x), l1, l2, l3, l4] (.ref x :: st) M := e_ld d29_94 rfl rfl rfl rfl rfl rfl
theorem d29_95 : decode (cod 29) 95 = .ok (.dup, 1) := by decide +kernel
theorem s29_95i {M : Mm} {st : List Value} {l0 l1 l2 l3 l4 : Option Value} {x : Int32} : EE 29 95 [l0, l1, l2, l3, l4] (.int x :: st) M = EE 29 96 [l0, l1, l2, l3, l4] (.int x :: .int x :: st) M := e_dup d29_95 rfl
theorem s29_95r {M : Mm} {st : List Value} {l0 l1 l2 l3 l4 : Option Value} {x : Nat} : EE 29 95 [l0, l1, l2, l3, l4] (.ref x :: st) M = EE 29 96 [l0, l1, l2, l3, l4] (.ref x :: .ref x :: st) M := e_dup d29_95 rfl
theorem d29_96 : decode (cod 29) 96 = .ok (.getfield 57, 3) := by decide +kernel
theorem s29_96 {n : Nat} {I : Nat → Nat → Int32} {R : Nat → Nat → Option Nat} {st : List Value} {l0 l1 l2 l3 l4 : Option Value} {a : Nat} : EE 29 96 [l0, l1, l2, l3, l4] (.ref a :: st) (n, I, R) = (gfI n I R 1 11 a).bind (fun z => EE 29 99 [l0, l1, l2, l3, l4] (z :: st) (n, I, R)) := e_getf d29_96 f1_57 rfl rfl
theorem d29_99 : decode (cod 29) 99 = .ok (.iconst 1, 1) := by decide +kernel
theorem s29_99 {M : Mm} {st : List Value} {l0 l1 l2 l3 l4 : Option Value} : EE 29 99 [l0, l1, l2, l3, l4] st M = EE 29 100 [l0, l1, l2, l3, l4] (.int (nI 1) :: st) M := e_con d29_99 k_con_1
theorem d29_100 : decode (cod 29) 100 = .ok (.iadd, 1) := by decide +kernel
theorem s29_100 {M : Mm} {st : List Value} {l0 l1 l2 l3 l4 : Option Value} {x y : Int32} : EE 29 100 [l0, l1, l2, l3, l4] (.int y :: .int x :: st) M = EE 29 101 [l0, l1, l2, l3, l4] (.int (x + y) :: st) M := e_II d29_100 rfl rfl rfl rfl rfl rfl
theorem d29_101 : decode (cod 29) 101 = .ok (.putfield 57, 3) := by decide +kernel
theorem s29_101 {n : Nat} {I : Nat → Nat → Int32} {R : Nat → Nat → Option Nat} {st : List Value} {l0 l1 l2 l3 l4 : Option Value} {a : Nat} {v : Value} : EE 29 101 [l0, l1, l2, l3, l4] (v :: .ref a :: st) (n, I, R) = (pfI n I R 1 11 a v).bind (fun z => EE 29 104 [l0, l1, l2, l3, l4] st (n, z.1, z.2)) := e_putf d29_101 f1_57 rfl rfl (Or.inr rfl)
theorem d29_104 : decode (cod 29) 104 = .ok (.iconst 0, 1) := by decide +kernel
theorem s29_104 {M : Mm} {st : List Value} {l0 l1 l2 l3 l4 : Option Value} : EE 29 104 [l0, l1, l2, l3, l4] st M = EE 29 105 [l0, l1, l2, l3, l4] (.int (nI 0) :: st) M := e_con d29_104 k_con_0
theorem d29_105 : decode (cod 29) 105 = .ok (.istore 4, 2) := by decide +kernel
theorem s29_105 {M : Mm} {st : List Value} {l0 l1 l2 l3 l4 : Option Value} {x : Int32} : EE 29 105 [l0, l1, l2, l3, l4] (.int x :: st) M = EE 29 107 [l0, l1, l2, cln l3, some (.int x)] st M := e_st1 d29_105 rfl rfl rfl rfl rfl rfl rfl (Nat.le_of_ble_eq_true rfl) rfl
theorem d29_107 : decode (cod 29) 107 = .ok (.iload 4, 2) := by decide +kernel
theorem s29_107 {M : Mm} {st : List Value} {l0 l1 l2 l3 : Option Value} {x : Int32} : EE 29 107 [l0, l1, l2, l3, some (.int x)] st M = EE 29 109 [l0, l1, l2, l3, some (.int x)] (.int x :: st) M := e_ld d29_107 rfl rfl rfl rfl rfl rfl
theorem d29_109 : decode (cod 29) 109 = .ok (.bipush 6, 2) := by decide +kernel
theorem s29_109 {M : Mm} {st : List Value} {l0 l1 l2 l3 l4 : Option Value} : EE 29 109 [l0, l1, l2, l3, l4] st M = EE 29 111 [l0, l1, l2, l3, l4] (.int (nI 6) :: st) M := e_bip d29_109 k_bip_6
theorem d29_111 : decode (cod 29) 111 = .ok (.if_icmp .ge 26, 3) := by decide +kernel
theorem s29_111 {M : Mm} {st : List Value} {l0 l1 l2 l3 l4 : Option Value} {x y : Int32} : EE 29 111 [l0, l1, l2, l3, l4] (.int y :: .int x :: st) M = if y ≤ x then EE 29 137 [l0, l1, l2, l3, l4] st M else EE 29 114 [l0, l1, l2, l3, l4] st M := e_cge d29_111 (by decide)
theorem d29_114 : decode (cod 29) 114 = .ok (.iload 4, 2) := by decide +kernel
theorem s29_114 {M : Mm} {st : List Value} {l0 l1 l2 l3 : Option Value} {x : Int32} : EE 29 114 [l0, l1, l2, l3, some (.int x)] st M = EE 29 116 [l0, l1, l2, l3, some (.int x)] (.int x :: st) M := e_ld d29_114 rfl rfl rfl rfl rfl rfl
theorem d29_116 : decode (cod 29) 116 = .ok (.iload_n 3, 1) := by decide +kernel
theorem s29_116 {M : Mm} {st : List Value} {l0 l1 l2 l4 : Option Value} {x : Int32} : EE 29 116 [l0, l1, l2, some (.int x), l4] st M = EE 29 117 [l0, l1, l2, some (.int x), l4] (.int x :: st) M := e_ld d29_116 rfl rfl rfl rfl rfl rfl
theorem d29_117 : decode (cod 29) 117 = .ok (.if_icmp .eq 14, 3) := by decide +kernel
theorem s29_117 {M : Mm} {st : List Value} {l0 l1 l2 l3 l4 : Option Value} {x y : Int32} : EE 29 117 [l0, l1, l2, l3, l4] (.int y :: .int x :: st) M = if x = y then EE 29 131 [l0, l1, l2, l3, l4] st M else EE 29 120 [l0, l1, l2, l3, l4] st M := e_ceq d29_117 (by decide)
theorem d29_120 : decode (cod 29) 120 = .ok (.aload_n 0, 1) := by decide +kernel
theorem s29_120 {M : Mm} {st : List Value} {l1 l2 l3 l4 : Option Value} {x : Nat} : EE 29 120 [some (.ref x), l1, l2, l3, l4] st M = EE 29 121 [some (.ref x), l1, l2, l3, l4] (.ref x :: st) M := e_ld d29_120 rfl rfl rfl rfl rfl rfl
theorem d29_121 : decode (cod 29) 121 = .ok (.aload_n 0, 1) := by decide +kernel
theorem s29_121 {M : Mm} {st : List Value} {l1 l2 l3 l4 : Option Value} {x : Nat} : EE 29 121 [some (.ref x), l1, l2, l3, l4] st M = EE 29 122 [some (.ref x), l1, l2, l3, l4] (.ref x :: st) M := e_ld d29_121 rfl rfl rfl rfl rfl rfl
theorem d29_122 : decode (cod 29) 122 = .ok (.getfield 32, 3) := by decide +kernel
theorem s29_122 {n : Nat} {I : Nat → Nat → Int32} {R : Nat → Nat → Option Nat} {st : List Value} {l0 l1 l2 l3 l4 : Option Value} {a : Nat} : EE 29 122 [l0, l1, l2, l3, l4] (.ref a :: st) (n, I, R) = (gfI n I R 1 3 a).bind (fun z => EE 29 125 [l0, l1, l2, l3, l4] (z :: st) (n, I, R)) := e_getf d29_122 f1_32 rfl rfl
theorem d29_125 : decode (cod 29) 125 = .ok (.iload 4, 2) := by decide +kernel
theorem s29_125 {M : Mm} {st : List Value} {l0 l1 l2 l3 : Option Value} {x : Int32} : EE 29 125 [l0, l1, l2, l3, some (.int x)] st M = EE 29 127 [l0, l1, l2, l3, some (.int x)] (.int x :: st) M := e_ld d29_125 rfl rfl rfl rfl rfl rfl
theorem d29_127 : decode (cod 29) 127 = .ok (.aaload, 1) := by decide +kernel
theorem s29_127 {n : Nat} {I : Nat → Nat → Int32} {R : Nat → Nat → Option Nat} {st : List Value} {l0 l1 l2 l3 l4 : Option Value} {j : Int32} {a : Nat} (h : 8 ≤ kd a ∧ a < 1000 ∧ pos a < n ∧ inb j (ln a)) : EE 29 127 [l0, l1, l2, l3, l4] (.int j :: .ref a :: st) (n, I, R) = EE 29 128 [l0, l1, l2, l3, l4] (va_rf (R a j.toNatClampNeg) :: st) (n, I, R) := e_aald d29_127 h
theorem d29_128 : decode (cod 29) 128 = .ok (.invokevirtual 147, 3) := by decide +kernel
theorem s29_128 {l0 l1 l2 l3 l4 : Option Value} {a : Nat} {M : Mm} {b0 : Nat} {st : List Value} (hl : st.length ≤ 4) (ho : isO "HandoverDesk$State" M.1 a = true) : EE 29 128 [l0, l1, l2, l3, l4] (.ref b0 :: .ref a :: st) M = (FF 34 (.ref a :: [.ref b0]) M).bind (fun z => EE 29 131 [l0, l1, l2, l3, l4] (psh z.1 st) z.2) := e_calv (av := [.ref b0]) d29_128 c1_147 rfl rfl rfl r29_34 rfl hl ho
theorem d29_131 : decode (cod 29) 131 = .ok (.iinc 4 1, 3) := by decide +kernel
theorem s29_131 {M : Mm} {st : List Value} {l0 l1 l2 l3 : Option Value} {x : Int32} : EE 29 131 [l0, l1, l2, l3, some (.int x)] st M = EE 29 134 [l0, l1, l2, cln l3, some (.int (x + nI 1))] st M := e_iinc d29_131 rfl (congrArg (fun z => x + z) k_inc_1) rfl
theorem d29_134 : decode (cod 29) 134 = .ok (.goto (-27), 3) := by decide +kernel
theorem s29_134 {M : Mm} {st : List Value} {l0 l1 l2 l3 l4 : Option Value} : EE 29 134 [l0, l1, l2, l3, l4] st M = EE 29 107 [l0, l1, l2, l3, l4] st M := e_goto d29_134 (by decide)
theorem d29_137 : decode (cod 29) 137 = .ok (.aload_n 0, 1) := by decide +kernel
theorem s29_137 {M : Mm} {st : List Value} {l1 l2 l3 l4 : Option Value} {x : Nat} : EE 29 137 [some (.ref x), l1, l2, l3, l4] st M = EE 29 138 [some (.ref x), l1, l2, l3, l4] (.ref x :: st) M := e_ld d29_137 rfl rfl rfl rfl rfl rfl
theorem d29_138 : decode (cod 29) 138 = .ok (.aload_n 0, 1) := by decide +kernel
theorem s29_138 {M : Mm} {st : List Value} {l1 l2 l3 l4 : Option Value} {x : Nat} : EE 29 138 [some (.ref x), l1, l2, l3, l4] st M = EE 29 139 [some (.ref x), l1, l2, l3, l4] (.ref x :: st) M := e_ld d29_138 rfl rfl rfl rfl rfl rfl
theorem d29_139 : decode (cod 29) 139 = .ok (.getfield 32, 3) := by decide +kernel
theorem s29_139 {n : Nat} {I : Nat → Nat → Int32} {R : Nat → Nat → Option Nat} {st : List Value} {l0 l1 l2 l3 l4 : Option Value} {a : Nat} : EE 29 139 [l0, l1, l2, l3, l4] (.ref a :: st) (n, I, R) = (gfI n I R 1 3 a).bind (fun z => EE 29 142 [l0, l1, l2, l3, l4] (z :: st) (n, I, R)) := e_getf d29_139 f1_32 rfl rfl
theorem d29_142 : decode (cod 29) 142 = .ok (.iload_n 3, 1) := by decide +kernel
theorem s29_142 {M : Mm} {st : List Value} {l0 l1 l2 l4 : Option Value} {x : Int32} : EE 29 142 [l0, l1, l2, some (.int x), l4] st M = EE 29 143 [l0, l1, l2, some (.int x), l4] (.int x :: st) M := e_ld d29_142 rfl rfl rfl rfl rfl rfl
theorem d29_143 : decode (cod 29) 143 = .ok (.aaload, 1) := by decide +kernel
theorem s29_143 {n : Nat} {I : Nat → Nat → Int32} {R : Nat → Nat → Option Nat} {st : List Value} {l0 l1 l2 l3 l4 : Option Value} {j : Int32} {a : Nat} (h : 8 ≤ kd a ∧ a < 1000 ∧ pos a < n ∧ inb j (ln a)) : EE 29 143 [l0, l1, l2, l3, l4] (.int j :: .ref a :: st) (n, I, R) = EE 29 144 [l0, l1, l2, l3, l4] (va_rf (R a j.toNatClampNeg) :: st) (n, I, R) := e_aald d29_143 h
theorem d29_144 : decode (cod 29) 144 = .ok (.invokevirtual 150, 3) := by decide +kernel
theorem s29_144 {l0 l1 l2 l3 l4 : Option Value} {a : Nat} {M : Mm} {b0 : Nat} {st : List Value} (hl : st.length ≤ 4) (ho : isO "HandoverDesk$State" M.1 a = true) : EE 29 144 [l0, l1, l2, l3, l4] (.ref b0 :: .ref a :: st) M = (FF 35 (.ref a :: [.ref b0]) M).bind (fun z => EE 29 147 [l0, l1, l2, l3, l4] (psh z.1 st) z.2) := e_calv (av := [.ref b0]) d29_144 c1_150 rfl rfl rfl r29_35 rfl hl ho
theorem d29_147 : decode (cod 29) 147 = .ok (.aload_n 0, 1) := by decide +kernel
theorem s29_147 {M : Mm} {st : List Value} {l1 l2 l3 l4 : Option Value} {x : Nat} : EE 29 147 [some (.ref x), l1, l2, l3, l4] st M = EE 29 148 [some (.ref x), l1, l2, l3, l4] (.ref x :: st) M := e_ld d29_147 rfl rfl rfl rfl rfl rfl
theorem d29_148 : decode (cod 29) 148 = .ok (.aload_n 0, 1) := by decide +kernel
theorem s29_148 {M : Mm} {st : List Value} {l1 l2 l3 l4 : Option Value} {x : Nat} : EE 29 148 [some (.ref x), l1, l2, l3, l4] st M = EE 29 149 [some (.ref x), l1, l2, l3, l4] (.ref x :: st) M := e_ld d29_148 rfl rfl rfl rfl rfl rfl
theorem d29_149 : decode (cod 29) 149 = .ok (.getfield 32, 3) := by decide +kernel
theorem s29_149 {n : Nat} {I : Nat → Nat → Int32} {R : Nat → Nat → Option Nat} {st : List Value} {l0 l1 l2 l3 l4 : Option Value} {a : Nat} : EE 29 149 [l0, l1, l2, l3, l4] (.ref a :: st) (n, I, R) = (gfI n I R 1 3 a).bind (fun z => EE 29 152 [l0, l1, l2, l3, l4] (z :: st) (n, I, R)) := e_getf d29_149 f1_32 rfl rfl
theorem d29_152 : decode (cod 29) 152 = .ok (.iload_n 3, 1) := by decide +kernel
theorem s29_152 {M : Mm} {st : List Value} {l0 l1 l2 l4 : Option Value} {x : Int32} : EE 29 152 [l0, l1, l2, some (.int x), l4] st M = EE 29 153 [l0, l1, l2, some (.int x), l4] (.int x :: st) M := e_ld d29_152 rfl rfl rfl rfl rfl rfl
theorem d29_153 : decode (cod 29) 153 = .ok (.aaload, 1) := by decide +kernel
theorem s29_153 {n : Nat} {I : Nat → Nat → Int32} {R : Nat → Nat → Option Nat} {st : List Value} {l0 l1 l2 l3 l4 : Option Value} {j : Int32} {a : Nat} (h : 8 ≤ kd a ∧ a < 1000 ∧ pos a < n ∧ inb j (ln a)) : EE 29 153 [l0, l1, l2, l3, l4] (.int j :: .ref a :: st) (n, I, R) = EE 29 154 [l0, l1, l2, l3, l4] (va_rf (R a j.toNatClampNeg) :: st) (n, I, R) := e_aald d29_153 h
theorem d29_154 : decode (cod 29) 154 = .ok (.invokevirtual 153, 3) := by decide +kernel
theorem s29_154 {l0 l1 l2 l3 l4 : Option Value} {a : Nat} {M : Mm} {b0 : Nat} {st : List Value} (hl : st.length ≤ 4) (ho : isO "HandoverDesk$State" M.1 a = true) : EE 29 154 [l0, l1, l2, l3, l4] (.ref b0 :: .ref a :: st) M = (FF 36 (.ref a :: [.ref b0]) M).bind (fun z => EE 29 157 [l0, l1, l2, l3, l4] (psh z.1 st) z.2) := e_calv (av := [.ref b0]) d29_154 c1_153 rfl rfl rfl r29_36 rfl hl ho
theorem d29_157 : decode (cod 29) 157 = .ok (.ireturn, 1) := by decide +kernel
theorem s29_157 {M : Mm} {l0 l1 l2 l3 l4 : Option Value} {v : Int32} : EE 29 157 [l0, l1, l2, l3, l4] [.int v] M = some (some (.int v), M) := e_iret d29_157 rfl rfl
theorem FE29 {a : Nat} {b0 : Int32} {M : Mm} : FF 29 [.ref a, .int b0] M = EE 29 0 [some (.ref a), some (.int b0), none, none, none] [] M := FF_eq 29 _ _ (Nat.le_of_ble_eq_true rfl)
theorem d30_0 : decode (cod 30) 0 = .ok (.aload_n 0, 1) := by decide +kernel
theorem s30_0 {M : Mm} {st : List Value} {x : Nat} : EE 30 0 [some (.ref x)] st M = EE 30 1 [some (.ref x)] (.ref x :: st) M := e_ld d30_0 rfl rfl rfl rfl rfl rfl
theorem d30_1 : decode (cod 30) 1 = .ok (.getfield 24, 3) := by decide +kernel
theorem s30_1 {n : Nat} {I : Nat → Nat → Int32} {R : Nat → Nat → Option Nat} {st : List Value} {l0 : Option Value} {a : Nat} : EE 30 1 [l0] (.ref a :: st) (n, I, R) = (gfI n I R 1 1 a).bind (fun z => EE 30 4 [l0] (z :: st) (n, I, R)) := e_getf d30_1 f1_24 rfl rfl
theorem d30_4 : decode (cod 30) 4 = .ok (.aload_n 0, 1) := by decide +kernel
theorem s30_4 {M : Mm} {st : List Value} {x : Nat} : EE 30 4 [some (.ref x)] st M = EE 30 5 [some (.ref x)] (.ref x :: st) M := e_ld d30_4 rfl rfl rfl rfl rfl rfl
theorem d30_5 : decode (cod 30) 5 = .ok (.getfield 57, 3) := by decide +kernel
theorem s30_5 {n : Nat} {I : Nat → Nat → Int32} {R : Nat → Nat → Option Nat} {st : List Value} {l0 : Option Value} {a : Nat} : EE 30 5 [l0] (.ref a :: st) (n, I, R) = (gfI n I R 1 11 a).bind (fun z => EE 30 8 [l0] (z :: st) (n, I, R)) := e_getf d30_5 f1_57 rfl rfl
theorem d30_8 : decode (cod 30) 8 = .ok (.iconst 1, 1) := by decide +kernel
theorem s30_8 {M : Mm} {st : List Value} {l0 : Option Value} : EE 30 8 [l0] st M = EE 30 9 [l0] (.int (nI 1) :: st) M := e_con d30_8 k_con_1
theorem d30_9 : decode (cod 30) 9 = .ok (.iadd, 1) := by decide +kernel
theorem s30_9 {M : Mm} {st : List Value} {l0 : Option Value} {x y : Int32} : EE 30 9 [l0] (.int y :: .int x :: st) M = EE 30 10 [l0] (.int (x + y) :: st) M := e_II d30_9 rfl rfl rfl rfl rfl rfl
theorem d30_10 : decode (cod 30) 10 = .ok (.bipush 12, 2) := by decide +kernel
theorem s30_10 {M : Mm} {st : List Value} {l0 : Option Value} : EE 30 10 [l0] st M = EE 30 12 [l0] (.int (nI 12) :: st) M := e_bip d30_10 k_bip_12
theorem d30_12 : decode (cod 30) 12 = .ok (.invokestatic 75, 3) := by decide +kernel
theorem s30_12 {M : Mm} {l0 : Option Value} {b0 : Int32} {b1 : Int32} {st : List Value} (hl : st.length ≤ 4) : EE 30 12 [l0] (.int b1 :: .int b0 :: st) M = (FF 152 [.int b0, .int b1] M).bind (fun z => EE 30 15 [l0] (psh z.1 st) z.2) := e_cals (av := [.int b0, .int b1]) d30_12 c1_75 (Or.inl rfl) rfl rfl r30_152 rfl hl
theorem d30_15 : decode (cod 30) 15 = .ok (.iaload, 1) := by decide +kernel
theorem s30_15 {n : Nat} {I : Nat → Nat → Int32} {R : Nat → Nat → Option Nat} {st : List Value} {l0 : Option Value} {j : Int32} {a : Nat} : EE 30 15 [l0] (.int j :: .ref a :: st) (n, I, R) = (ardI 5 n I a j).bind (fun z => EE 30 16 [l0] (.int z :: st) (n, I, R)) := e_iald d30_15
theorem d30_16 : decode (cod 30) 16 = .ok (.ireturn, 1) := by decide +kernel
theorem s30_16 {M : Mm} {l0 : Option Value} {v : Int32} : EE 30 16 [l0] [.int v] M = some (some (.int v), M) := e_iret d30_16 rfl rfl
theorem FE30 {a : Nat} {M : Mm} : FF 30 [.ref a] M = EE 30 0 [some (.ref a)] [] M := FF_eq 30 _ _ (Nat.le_of_ble_eq_true rfl)
theorem d31_0 : decode (cod 31) 0 = .ok (.iconst 0, 1) := by decide +kernel
theorem s31_0 {M : Mm} {st : List Value} {l0 l1 l2 : Option Value} : EE 31 0 [l0, l1, l2] st M = EE 31 1 [l0, l1, l2] (.int (nI 0) :: st) M := e_con d31_0 k_con_0
theorem d31_1 : decode (cod 31) 1 = .ok (.istore_n 2, 1) := by decide +kernel
theorem s31_1 {M : Mm} {st : List Value} {l0 l1 l2 : Option Value} {x : Int32} : EE 31 1 [l0, l1, l2] (.int x :: st) M = EE 31 2 [l0, cln l1, some (.int x)] st M := e_st1 d31_1 rfl rfl rfl rfl rfl rfl rfl (Nat.le_of_ble_eq_true rfl) rfl
theorem d31_2 : decode (cod 31) 2 = .ok (.iload_n 2, 1) := by decide +kernel
theorem s31_2 {M : Mm} {st : List Value} {l0 l1 : Option Value} {x : Int32} : EE 31 2 [l0, l1, some (.int x)] st M = EE 31 3 [l0, l1, some (.int x)] (.int x :: st) M := e_ld d31_2 rfl rfl rfl rfl rfl rfl
theorem d31_3 : decode (cod 31) 3 = .ok (.aload_n 0, 1) := by decide +kernel
theorem s31_3 {M : Mm} {st : List Value} {l1 l2 : Option Value} {x : Nat} : EE 31 3 [some (.ref x), l1, l2] st M = EE 31 4 [some (.ref x), l1, l2] (.ref x :: st) M := e_ld d31_3 rfl rfl rfl rfl rfl rfl
theorem d31_4 : decode (cod 31) 4 = .ok (.getfield 47, 3) := by decide +kernel
theorem s31_4 {n : Nat} {I : Nat → Nat → Int32} {R : Nat → Nat → Option Nat} {st : List Value} {l0 l1 l2 : Option Value} {a : Nat} : EE 31 4 [l0, l1, l2] (.ref a :: st) (n, I, R) = (gfI n I R 1 8 a).bind (fun z => EE 31 7 [l0, l1, l2] (z :: st) (n, I, R)) := e_getf d31_4 f1_47 rfl rfl
theorem d31_7 : decode (cod 31) 7 = .ok (.if_icmp .ge 35, 3) := by decide +kernel
theorem s31_7 {M : Mm} {st : List Value} {l0 l1 l2 : Option Value} {x y : Int32} : EE 31 7 [l0, l1, l2] (.int y :: .int x :: st) M = if y ≤ x then EE 31 42 [l0, l1, l2] st M else EE 31 10 [l0, l1, l2] st M := e_cge d31_7 (by decide)
theorem d31_10 : decode (cod 31) 10 = .ok (.aload_n 0, 1) := by decide +kernel
theorem s31_10 {M : Mm} {st : List Value} {l1 l2 : Option Value} {x : Nat} : EE 31 10 [some (.ref x), l1, l2] st M = EE 31 11 [some (.ref x), l1, l2] (.ref x :: st) M := e_ld d31_10 rfl rfl rfl rfl rfl rfl
theorem d31_11 : decode (cod 31) 11 = .ok (.iload_n 2, 1) := by decide +kernel
theorem s31_11 {M : Mm} {st : List Value} {l0 l1 : Option Value} {x : Int32} : EE 31 11 [l0, l1, some (.int x)] st M = EE 31 12 [l0, l1, some (.int x)] (.int x :: st) M := e_ld d31_11 rfl rfl rfl rfl rfl rfl
theorem d31_12 : decode (cod 31) 12 = .ok (.invokevirtual 99, 3) := by decide +kernel
theorem s31_12 {l0 l1 l2 : Option Value} {a : Nat} {M : Mm} {b0 : Int32} {st : List Value} (hl : st.length ≤ 4) (ho : isO "HandoverDesk$State" M.1 a = true) : EE 31 12 [l0, l1, l2] (.int b0 :: .ref a :: st) M = (FF 19 (.ref a :: [.int b0]) M).bind (fun z => EE 31 15 [l0, l1, l2] (psh z.1 st) z.2) := e_calv (av := [.int b0]) d31_12 c1_99 rfl rfl rfl r31_19 rfl hl ho
theorem d31_15 : decode (cod 31) 15 = .ok (.ifCond .eq 21, 3) := by decide +kernel
theorem s31_15 {M : Mm} {st : List Value} {l0 l1 l2 : Option Value} {x : Int32} : EE 31 15 [l0, l1, l2] (.int x :: st) M = if x = 0 then EE 31 36 [l0, l1, l2] st M else EE 31 18 [l0, l1, l2] st M := e_eq0 d31_15 (by decide)
theorem d31_18 : decode (cod 31) 18 = .ok (.aload_n 1, 1) := by decide +kernel
theorem s31_18 {M : Mm} {st : List Value} {l0 l2 : Option Value} {x : Nat} : EE 31 18 [l0, some (.ref x), l2] st M = EE 31 19 [l0, some (.ref x), l2] (.ref x :: st) M := e_ld d31_18 rfl rfl rfl rfl rfl rfl
theorem d31_19 : decode (cod 31) 19 = .ok (.iload_n 2, 1) := by decide +kernel
theorem s31_19 {M : Mm} {st : List Value} {l0 l1 : Option Value} {x : Int32} : EE 31 19 [l0, l1, some (.int x)] st M = EE 31 20 [l0, l1, some (.int x)] (.int x :: st) M := e_ld d31_19 rfl rfl rfl rfl rfl rfl
theorem d31_20 : decode (cod 31) 20 = .ok (.bipush 100, 2) := by decide +kernel
theorem s31_20 {M : Mm} {st : List Value} {l0 l1 l2 : Option Value} : EE 31 20 [l0, l1, l2] st M = EE 31 22 [l0, l1, l2] (.int (nI 100) :: st) M := e_bip d31_20 k_bip_100
theorem d31_22 : decode (cod 31) 22 = .ok (.aload_n 1, 1) := by decide +kernel
theorem s31_22 {M : Mm} {st : List Value} {l0 l2 : Option Value} {x : Nat} : EE 31 22 [l0, some (.ref x), l2] st M = EE 31 23 [l0, some (.ref x), l2] (.ref x :: st) M := e_ld d31_22 rfl rfl rfl rfl rfl rfl
theorem d31_23 : decode (cod 31) 23 = .ok (.iload_n 2, 1) := by decide +kernel
theorem s31_23 {M : Mm} {st : List Value} {l0 l1 : Option Value} {x : Int32} : EE 31 23 [l0, l1, some (.int x)] st M = EE 31 24 [l0, l1, some (.int x)] (.int x :: st) M := e_ld d31_23 rfl rfl rfl rfl rfl rfl
theorem d31_24 : decode (cod 31) 24 = .ok (.iaload, 1) := by decide +kernel
theorem s31_24 {n : Nat} {I : Nat → Nat → Int32} {R : Nat → Nat → Option Nat} {st : List Value} {l0 l1 l2 : Option Value} {j : Int32} {a : Nat} : EE 31 24 [l0, l1, l2] (.int j :: .ref a :: st) (n, I, R) = (ardI 5 n I a j).bind (fun z => EE 31 25 [l0, l1, l2] (.int z :: st) (n, I, R)) := e_iald d31_24
theorem d31_25 : decode (cod 31) 25 = .ok (.aload_n 0, 1) := by decide +kernel
theorem s31_25 {M : Mm} {st : List Value} {l1 l2 : Option Value} {x : Nat} : EE 31 25 [some (.ref x), l1, l2] st M = EE 31 26 [some (.ref x), l1, l2] (.ref x :: st) M := e_ld d31_25 rfl rfl rfl rfl rfl rfl
theorem d31_26 : decode (cod 31) 26 = .ok (.getfield 9, 3) := by decide +kernel
theorem s31_26 {n : Nat} {I : Nat → Nat → Int32} {R : Nat → Nat → Option Nat} {st : List Value} {l0 l1 l2 : Option Value} {a : Nat} : EE 31 26 [l0, l1, l2] (.ref a :: st) (n, I, R) = (gfI n I R 1 0 a).bind (fun z => EE 31 29 [l0, l1, l2] (z :: st) (n, I, R)) := e_getf d31_26 f1_9 rfl rfl
theorem d31_29 : decode (cod 31) 29 = .ok (.iconst 3, 1) := by decide +kernel
theorem s31_29 {M : Mm} {st : List Value} {l0 l1 l2 : Option Value} : EE 31 29 [l0, l1, l2] st M = EE 31 30 [l0, l1, l2] (.int (nI 3) :: st) M := e_con d31_29 k_con_3
theorem d31_30 : decode (cod 31) 30 = .ok (.iaload, 1) := by decide +kernel
theorem s31_30 {n : Nat} {I : Nat → Nat → Int32} {R : Nat → Nat → Option Nat} {st : List Value} {l0 l1 l2 : Option Value} {j : Int32} {a : Nat} : EE 31 30 [l0, l1, l2] (.int j :: .ref a :: st) (n, I, R) = (ardI 5 n I a j).bind (fun z => EE 31 31 [l0, l1, l2] (.int z :: st) (n, I, R)) := e_iald d31_30
theorem d31_31 : decode (cod 31) 31 = .ok (.iadd, 1) := by decide +kernel
theorem s31_31 {M : Mm} {st : List Value} {l0 l1 l2 : Option Value} {x y : Int32} : EE 31 31 [l0, l1, l2] (.int y :: .int x :: st) M = EE 31 32 [l0, l1, l2] (.int (x + y) :: st) M := e_II d31_31 rfl rfl rfl rfl rfl rfl
theorem d31_32 : decode (cod 31) 32 = .ok (.invokestatic 126, 3) := by decide +kernel
theorem s31_32 {M : Mm} {l0 l1 l2 : Option Value} {b0 : Int32} {b1 : Int32} {st : List Value} (hl : st.length ≤ 4) : EE 31 32 [l0, l1, l2] (.int b1 :: .int b0 :: st) M = (FF 151 [.int b0, .int b1] M).bind (fun z => EE 31 35 [l0, l1, l2] (psh z.1 st) z.2) := e_cals (av := [.int b0, .int b1]) d31_32 c1_126 (Or.inl rfl) rfl rfl r31_151 rfl hl
theorem d31_35 : decode (cod 31) 35 = .ok (.iastore, 1) := by decide +kernel
theorem s31_35 {n : Nat} {I : Nat → Nat → Int32} {R : Nat → Nat → Option Nat} {st : List Value} {l0 l1 l2 : Option Value} {j x : Int32} {a : Nat} (h : acI 5 n a j) : EE 31 35 [l0, l1, l2] (.int x :: .int j :: .ref a :: st) (n, I, R) = EE 31 36 [l0, l1, l2] st (n, wI I a j.toNatClampNeg x, R) := e_iast d31_35 h
theorem d31_36 : decode (cod 31) 36 = .ok (.iinc 2 1, 3) := by decide +kernel
theorem s31_36 {M : Mm} {st : List Value} {l0 l1 : Option Value} {x : Int32} : EE 31 36 [l0, l1, some (.int x)] st M = EE 31 39 [l0, cln l1, some (.int (x + nI 1))] st M := e_iinc d31_36 rfl (congrArg (fun z => x + z) k_inc_1) rfl
theorem d31_39 : decode (cod 31) 39 = .ok (.goto (-37), 3) := by decide +kernel
theorem s31_39 {M : Mm} {st : List Value} {l0 l1 l2 : Option Value} : EE 31 39 [l0, l1, l2] st M = EE 31 2 [l0, l1, l2] st M := e_goto d31_39 (by decide)
theorem d31_42 : decode (cod 31) 42 = .ok (.return_, 1) := by decide +kernel
theorem s31_42 {M : Mm} {l0 l1 l2 : Option Value} : EE 31 42 [l0, l1, l2] [] M = some (none, M) := e_vret d31_42 rfl
theorem FE31 {a : Nat} {b0 : Nat} {M : Mm} : FF 31 [.ref a, .ref b0] M = EE 31 0 [some (.ref a), some (.ref b0), none] [] M := FF_eq 31 _ _ (Nat.le_of_ble_eq_true rfl)
theorem d32_0 : decode (cod 32) 0 = .ok (.iload_n 3, 1) := by decide +kernel
theorem s32_0 {M : Mm} {st : List Value} {l0 l1 l2 l4 l5 l6 : Option Value} {x : Int32} : EE 32 0 [l0, l1, l2, some (.int x), l4, l5, l6] st M = EE 32 1 [l0, l1, l2, some (.int x), l4, l5, l6] (.int x :: st) M := e_ld d32_0 rfl rfl rfl rfl rfl rfl
theorem d32_1 : decode (cod 32) 1 = .ok (.istore 4, 2) := by decide +kernel
theorem s32_1 {M : Mm} {st : List Value} {l0 l1 l2 l3 l4 l5 l6 : Option Value} {x : Int32} : EE 32 1 [l0, l1, l2, l3, l4, l5, l6] (.int x :: st) M = EE 32 3 [l0, l1, l2, cln l3, some (.int x), l5, l6] st M := e_st1 d32_1 rfl rfl rfl rfl rfl rfl rfl (Nat.le_of_ble_eq_true rfl) rfl
theorem d32_3 : decode (cod 32) 3 = .ok (.iconst 0, 1) := by decide +kernel
theorem s32_3 {M : Mm} {st : List Value} {l0 l1 l2 l3 l4 l5 l6 : Option Value} : EE 32 3 [l0, l1, l2, l3, l4, l5, l6] st M = EE 32 4 [l0, l1, l2, l3, l4, l5, l6] (.int (nI 0) :: st) M := e_con d32_3 k_con_0
theorem d32_4 : decode (cod 32) 4 = .ok (.istore 5, 2) := by decide +kernel
theorem s32_4 {M : Mm} {st : List Value} {l0 l1 l2 l3 l4 l5 l6 : Option Value} {x : Int32} : EE 32 4 [l0, l1, l2, l3, l4, l5, l6] (.int x :: st) M = EE 32 6 [l0, l1, l2, l3, cln l4, some (.int x), l6] st M := e_st1 d32_4 rfl rfl rfl rfl rfl rfl rfl (Nat.le_of_ble_eq_true rfl) rfl
theorem d32_6 : decode (cod 32) 6 = .ok (.iload 5, 2) := by decide +kernel
theorem s32_6 {M : Mm} {st : List Value} {l0 l1 l2 l3 l4 l6 : Option Value} {x : Int32} : EE 32 6 [l0, l1, l2, l3, l4, some (.int x), l6] st M = EE 32 8 [l0, l1, l2, l3, l4, some (.int x), l6] (.int x :: st) M := e_ld d32_6 rfl rfl rfl rfl rfl rfl
theorem d32_8 : decode (cod 32) 8 = .ok (.aload_n 0, 1) := by decide +kernel
theorem s32_8 {M : Mm} {st : List Value} {l1 l2 l3 l4 l5 l6 : Option Value} {x : Nat} : EE 32 8 [some (.ref x), l1, l2, l3, l4, l5, l6] st M = EE 32 9 [some (.ref x), l1, l2, l3, l4, l5, l6] (.ref x :: st) M := e_ld d32_8 rfl rfl rfl rfl rfl rfl
theorem d32_9 : decode (cod 32) 9 = .ok (.getfield 54, 3) := by decide +kernel
theorem s32_9 {n : Nat} {I : Nat → Nat → Int32} {R : Nat → Nat → Option Nat} {st : List Value} {l0 l1 l2 l3 l4 l5 l6 : Option Value} {a : Nat} : EE 32 9 [l0, l1, l2, l3, l4, l5, l6] (.ref a :: st) (n, I, R) = (gfI n I R 1 10 a).bind (fun z => EE 32 12 [l0, l1, l2, l3, l4, l5, l6] (z :: st) (n, I, R)) := e_getf d32_9 f1_54 rfl rfl
theorem d32_12 : decode (cod 32) 12 = .ok (.if_icmp .ge 80, 3) := by decide +kernel
theorem s32_12 {M : Mm} {st : List Value} {l0 l1 l2 l3 l4 l5 l6 : Option Value} {x y : Int32} : EE 32 12 [l0, l1, l2, l3, l4, l5, l6] (.int y :: .int x :: st) M = if y ≤ x then EE 32 92 [l0, l1, l2, l3, l4, l5, l6] st M else EE 32 15 [l0, l1, l2, l3, l4, l5, l6] st M := e_cge d32_12 (by decide)
theorem d32_15 : decode (cod 32) 15 = .ok (.aload_n 0, 1) := by decide +kernel
theorem s32_15 {M : Mm} {st : List Value} {l1 l2 l3 l4 l5 l6 : Option Value} {x : Nat} : EE 32 15 [some (.ref x), l1, l2, l3, l4, l5, l6] st M = EE 32 16 [some (.ref x), l1, l2, l3, l4, l5, l6] (.ref x :: st) M := e_ld d32_15 rfl rfl rfl rfl rfl rfl
theorem d32_16 : decode (cod 32) 16 = .ok (.getfield 35, 3) := by decide +kernel
theorem s32_16 {n : Nat} {I : Nat → Nat → Int32} {R : Nat → Nat → Option Nat} {st : List Value} {l0 l1 l2 l3 l4 l5 l6 : Option Value} {a : Nat} : EE 32 16 [l0, l1, l2, l3, l4, l5, l6] (.ref a :: st) (n, I, R) = (gfI n I R 1 4 a).bind (fun z => EE 32 19 [l0, l1, l2, l3, l4, l5, l6] (z :: st) (n, I, R)) := e_getf d32_16 f1_35 rfl rfl
theorem d32_19 : decode (cod 32) 19 = .ok (.iload 5, 2) := by decide +kernel
theorem s32_19 {M : Mm} {st : List Value} {l0 l1 l2 l3 l4 l6 : Option Value} {x : Int32} : EE 32 19 [l0, l1, l2, l3, l4, some (.int x), l6] st M = EE 32 21 [l0, l1, l2, l3, l4, some (.int x), l6] (.int x :: st) M := e_ld d32_19 rfl rfl rfl rfl rfl rfl
theorem d32_21 : decode (cod 32) 21 = .ok (.iaload, 1) := by decide +kernel
theorem s32_21 {n : Nat} {I : Nat → Nat → Int32} {R : Nat → Nat → Option Nat} {st : List Value} {l0 l1 l2 l3 l4 l5 l6 : Option Value} {j : Int32} {a : Nat} : EE 32 21 [l0, l1, l2, l3, l4, l5, l6] (.int j :: .ref a :: st) (n, I, R) = (ardI 5 n I a j).bind (fun z => EE 32 22 [l0, l1, l2, l3, l4, l5, l6] (.int z :: st) (n, I, R)) := e_iald d32_21
theorem d32_22 : decode (cod 32) 22 = .ok (.istore 6, 2) := by decide +kernel
theorem s32_22 {M : Mm} {st : List Value} {l0 l1 l2 l3 l4 l5 l6 : Option Value} {x : Int32} : EE 32 22 [l0, l1, l2, l3, l4, l5, l6] (.int x :: st) M = EE 32 24 [l0, l1, l2, l3, l4, cln l5, some (.int x)] st M := e_st1 d32_22 rfl rfl rfl rfl rfl rfl rfl (Nat.le_of_ble_eq_true rfl) rfl
theorem d32_24 : decode (cod 32) 24 = .ok (.iload 4, 2) := by decide +kernel
theorem s32_24 {M : Mm} {st : List Value} {l0 l1 l2 l3 l5 l6 : Option Value} {x : Int32} : EE 32 24 [l0, l1, l2, l3, some (.int x), l5, l6] st M = EE 32 26 [l0, l1, l2, l3, some (.int x), l5, l6] (.int x :: st) M := e_ld d32_24 rfl rfl rfl rfl rfl rfl
theorem d32_26 : decode (cod 32) 26 = .ok (.ifCond .le 60, 3) := by decide +kernel
theorem s32_26 {M : Mm} {st : List Value} {l0 l1 l2 l3 l4 l5 l6 : Option Value} {x : Int32} : EE 32 26 [l0, l1, l2, l3, l4, l5, l6] (.int x :: st) M = if x ≤ 0 then EE 32 86 [l0, l1, l2, l3, l4, l5, l6] st M else EE 32 29 [l0, l1, l2, l3, l4, l5, l6] st M := e_le0 d32_26 (by decide)
theorem d32_29 : decode (cod 32) 29 = .ok (.aload_n 0, 1) := by decide +kernel
theorem s32_29 {M : Mm} {st : List Value} {l1 l2 l3 l4 l5 l6 : Option Value} {x : Nat} : EE 32 29 [some (.ref x), l1, l2, l3, l4, l5, l6] st M = EE 32 30 [some (.ref x), l1, l2, l3, l4, l5, l6] (.ref x :: st) M := e_ld d32_29 rfl rfl rfl rfl rfl rfl
theorem d32_30 : decode (cod 32) 30 = .ok (.iload 6, 2) := by decide +kernel
theorem s32_30 {M : Mm} {st : List Value} {l0 l1 l2 l3 l4 l5 : Option Value} {x : Int32} : EE 32 30 [l0, l1, l2, l3, l4, l5, some (.int x)] st M = EE 32 32 [l0, l1, l2, l3, l4, l5, some (.int x)] (.int x :: st) M := e_ld d32_30 rfl rfl rfl rfl rfl rfl
theorem d32_32 : decode (cod 32) 32 = .ok (.invokevirtual 99, 3) := by decide +kernel
theorem s32_32 {l0 l1 l2 l3 l4 l5 l6 : Option Value} {a : Nat} {M : Mm} {b0 : Int32} {st : List Value} (hl : st.length ≤ 4) (ho : isO "HandoverDesk$State" M.1 a = true) : EE 32 32 [l0, l1, l2, l3, l4, l5, l6] (.int b0 :: .ref a :: st) M = (FF 19 (.ref a :: [.int b0]) M).bind (fun z => EE 32 35 [l0, l1, l2, l3, l4, l5, l6] (psh z.1 st) z.2) := e_calv (av := [.int b0]) d32_32 c1_99 rfl rfl rfl r32_19 rfl hl ho
theorem d32_35 : decode (cod 32) 35 = .ok (.ifCond .eq 51, 3) := by decide +kernel
theorem s32_35 {M : Mm} {st : List Value} {l0 l1 l2 l3 l4 l5 l6 : Option Value} {x : Int32} : EE 32 35 [l0, l1, l2, l3, l4, l5, l6] (.int x :: st) M = if x = 0 then EE 32 86 [l0, l1, l2, l3, l4, l5, l6] st M else EE 32 38 [l0, l1, l2, l3, l4, l5, l6] st M := e_eq0 d32_35 (by decide)
theorem d32_38 : decode (cod 32) 38 = .ok (.aload_n 2, 1) := by decide +kernel
theorem s32_38 {M : Mm} {st : List Value} {l0 l1 l3 l4 l5 l6 : Option Value} {x : Nat} : EE 32 38 [l0, l1, some (.ref x), l3, l4, l5, l6] st M = EE 32 39 [l0, l1, some (.ref x), l3, l4, l5, l6] (.ref x :: st) M := e_ld d32_38 rfl rfl rfl rfl rfl rfl
theorem d32_39 : decode (cod 32) 39 = .ok (.iload 6, 2) := by decide +kernel
theorem s32_39 {M : Mm} {st : List Value} {l0 l1 l2 l3 l4 l5 : Option Value} {x : Int32} : EE 32 39 [l0, l1, l2, l3, l4, l5, some (.int x)] st M = EE 32 41 [l0, l1, l2, l3, l4, l5, some (.int x)] (.int x :: st) M := e_ld d32_39 rfl rfl rfl rfl rfl rfl
theorem d32_41 : decode (cod 32) 41 = .ok (.iaload, 1) := by decide +kernel
theorem s32_41 {n : Nat} {I : Nat → Nat → Int32} {R : Nat → Nat → Option Nat} {st : List Value} {l0 l1 l2 l3 l4 l5 l6 : Option Value} {j : Int32} {a : Nat} : EE 32 41 [l0, l1, l2, l3, l4, l5, l6] (.int j :: .ref a :: st) (n, I, R) = (ardI 5 n I a j).bind (fun z => EE 32 42 [l0, l1, l2, l3, l4, l5, l6] (.int z :: st) (n, I, R)) := e_iald d32_41
theorem d32_42 : decode (cod 32) 42 = .ok (.aload_n 0, 1) := by decide +kernel
theorem s32_42 {M : Mm} {st : List Value} {l1 l2 l3 l4 l5 l6 : Option Value} {x : Nat} : EE 32 42 [some (.ref x), l1, l2, l3, l4, l5, l6] st M = EE 32 43 [some (.ref x), l1, l2, l3, l4, l5, l6] (.ref x :: st) M := e_ld d32_42 rfl rfl rfl rfl rfl rfl
theorem d32_43 : decode (cod 32) 43 = .ok (.getfield 9, 3) := by decide +kernel
theorem s32_43 {n : Nat} {I : Nat → Nat → Int32} {R : Nat → Nat → Option Nat} {st : List Value} {l0 l1 l2 l3 l4 l5 l6 : Option Value} {a : Nat} : EE 32 43 [l0, l1, l2, l3, l4, l5, l6] (.ref a :: st) (n, I, R) = (gfI n I R 1 0 a).bind (fun z => EE 32 46 [l0, l1, l2, l3, l4, l5, l6] (z :: st) (n, I, R)) := e_getf d32_43 f1_9 rfl rfl
theorem d32_46 : decode (cod 32) 46 = .ok (.iconst 0, 1) := by decide +kernel
theorem s32_46 {M : Mm} {st : List Value} {l0 l1 l2 l3 l4 l5 l6 : Option Value} : EE 32 46 [l0, l1, l2, l3, l4, l5, l6] st M = EE 32 47 [l0, l1, l2, l3, l4, l5, l6] (.int (nI 0) :: st) M := e_con d32_46 k_con_0
theorem d32_47 : decode (cod 32) 47 = .ok (.iaload, 1) := by decide +kernel
theorem s32_47 {n : Nat} {I : Nat → Nat → Int32} {R : Nat → Nat → Option Nat} {st : List Value} {l0 l1 l2 l3 l4 l5 l6 : Option Value} {j : Int32} {a : Nat} : EE 32 47 [l0, l1, l2, l3, l4, l5, l6] (.int j :: .ref a :: st) (n, I, R) = (ardI 5 n I a j).bind (fun z => EE 32 48 [l0, l1, l2, l3, l4, l5, l6] (.int z :: st) (n, I, R)) := e_iald d32_47
theorem d32_48 : decode (cod 32) 48 = .ok (.aload_n 1, 1) := by decide +kernel
theorem s32_48 {M : Mm} {st : List Value} {l0 l2 l3 l4 l5 l6 : Option Value} {x : Nat} : EE 32 48 [l0, some (.ref x), l2, l3, l4, l5, l6] st M = EE 32 49 [l0, some (.ref x), l2, l3, l4, l5, l6] (.ref x :: st) M := e_ld d32_48 rfl rfl rfl rfl rfl rfl
theorem d32_49 : decode (cod 32) 49 = .ok (.iload 6, 2) := by decide +kernel
theorem s32_49 {M : Mm} {st : List Value} {l0 l1 l2 l3 l4 l5 : Option Value} {x : Int32} : EE 32 49 [l0, l1, l2, l3, l4, l5, some (.int x)] st M = EE 32 51 [l0, l1, l2, l3, l4, l5, some (.int x)] (.int x :: st) M := e_ld d32_49 rfl rfl rfl rfl rfl rfl
theorem d32_51 : decode (cod 32) 51 = .ok (.iaload, 1) := by decide +kernel
theorem s32_51 {n : Nat} {I : Nat → Nat → Int32} {R : Nat → Nat → Option Nat} {st : List Value} {l0 l1 l2 l3 l4 l5 l6 : Option Value} {j : Int32} {a : Nat} : EE 32 51 [l0, l1, l2, l3, l4, l5, l6] (.int j :: .ref a :: st) (n, I, R) = (ardI 5 n I a j).bind (fun z => EE 32 52 [l0, l1, l2, l3, l4, l5, l6] (.int z :: st) (n, I, R)) := e_iald d32_51
theorem d32_52 : decode (cod 32) 52 = .ok (.invokestatic 126, 3) := by decide +kernel
theorem s32_52 {M : Mm} {l0 l1 l2 l3 l4 l5 l6 : Option Value} {b0 : Int32} {b1 : Int32} {st : List Value} (hl : st.length ≤ 4) : EE 32 52 [l0, l1, l2, l3, l4, l5, l6] (.int b1 :: .int b0 :: st) M = (FF 151 [.int b0, .int b1] M).bind (fun z => EE 32 55 [l0, l1, l2, l3, l4, l5, l6] (psh z.1 st) z.2) := e_cals (av := [.int b0, .int b1]) d32_52 c1_126 (Or.inl rfl) rfl rfl r32_151 rfl hl
theorem d32_55 : decode (cod 32) 55 = .ok (.if_icmp .ge 31, 3) := by decide +kernel
theorem s32_55 {M : Mm} {st : List Value} {l0 l1 l2 l3 l4 l5 l6 : Option Value} {x y : Int32} : EE 32 55 [l0, l1, l2, l3, l4, l5, l6] (.int y :: .int x :: st) M = if y ≤ x then EE 32 86 [l0, l1, l2, l3, l4, l5, l6] st M else EE 32 58 [l0, l1, l2, l3, l4, l5, l6] st M := e_cge d32_55 (by decide)
theorem d32_58 : decode (cod 32) 58 = .ok (.aload_n 2, 1) := by decide +kernel
theorem s32_58 {M : Mm} {st : List Value} {l0 l1 l3 l4 l5 l6 : Option Value} {x : Nat} : EE 32 58 [l0, l1, some (.ref x), l3, l4, l5, l6] st M = EE 32 59 [l0, l1, some (.ref x), l3, l4, l5, l6] (.ref x :: st) M := e_ld d32_58 rfl rfl rfl rfl rfl rfl
theorem d32_59 : decode (cod 32) 59 = .ok (.iload 6, 2) := by decide +kernel
theorem s32_59 {M : Mm} {st : List Value} {l0 l1 l2 l3 l4 l5 : Option Value} {x : Int32} : EE 32 59 [l0, l1, l2, l3, l4, l5, some (.int x)] st M = EE 32 61 [l0, l1, l2, l3, l4, l5, some (.int x)] (.int x :: st) M := e_ld d32_59 rfl rfl rfl rfl rfl rfl
theorem d32_61 : decode (cod 32) 61 = .ok (.aload_n 1, 1) := by decide +kernel
theorem s32_61 {M : Mm} {st : List Value} {l0 l2 l3 l4 l5 l6 : Option Value} {x : Nat} : EE 32 61 [l0, some (.ref x), l2, l3, l4, l5, l6] st M = EE 32 62 [l0, some (.ref x), l2, l3, l4, l5, l6] (.ref x :: st) M := e_ld d32_61 rfl rfl rfl rfl rfl rfl
theorem d32_62 : decode (cod 32) 62 = .ok (.iload 6, 2) := by decide +kernel
theorem s32_62 {M : Mm} {st : List Value} {l0 l1 l2 l3 l4 l5 : Option Value} {x : Int32} : EE 32 62 [l0, l1, l2, l3, l4, l5, some (.int x)] st M = EE 32 64 [l0, l1, l2, l3, l4, l5, some (.int x)] (.int x :: st) M := e_ld d32_62 rfl rfl rfl rfl rfl rfl
theorem d32_64 : decode (cod 32) 64 = .ok (.iaload, 1) := by decide +kernel
theorem s32_64 {n : Nat} {I : Nat → Nat → Int32} {R : Nat → Nat → Option Nat} {st : List Value} {l0 l1 l2 l3 l4 l5 l6 : Option Value} {j : Int32} {a : Nat} : EE 32 64 [l0, l1, l2, l3, l4, l5, l6] (.int j :: .ref a :: st) (n, I, R) = (ardI 5 n I a j).bind (fun z => EE 32 65 [l0, l1, l2, l3, l4, l5, l6] (.int z :: st) (n, I, R)) := e_iald d32_64
theorem d32_65 : decode (cod 32) 65 = .ok (.aload_n 2, 1) := by decide +kernel
theorem s32_65 {M : Mm} {st : List Value} {l0 l1 l3 l4 l5 l6 : Option Value} {x : Nat} : EE 32 65 [l0, l1, some (.ref x), l3, l4, l5, l6] st M = EE 32 66 [l0, l1, some (.ref x), l3, l4, l5, l6] (.ref x :: st) M := e_ld d32_65 rfl rfl rfl rfl rfl rfl
theorem d32_66 : decode (cod 32) 66 = .ok (.iload 6, 2) := by decide +kernel
theorem s32_66 {M : Mm} {st : List Value} {l0 l1 l2 l3 l4 l5 : Option Value} {x : Int32} : EE 32 66 [l0, l1, l2, l3, l4, l5, some (.int x)] st M = EE 32 68 [l0, l1, l2, l3, l4, l5, some (.int x)] (.int x :: st) M := e_ld d32_66 rfl rfl rfl rfl rfl rfl
theorem d32_68 : decode (cod 32) 68 = .ok (.iaload, 1) := by decide +kernel
theorem s32_68 {n : Nat} {I : Nat → Nat → Int32} {R : Nat → Nat → Option Nat} {st : List Value} {l0 l1 l2 l3 l4 l5 l6 : Option Value} {j : Int32} {a : Nat} : EE 32 68 [l0, l1, l2, l3, l4, l5, l6] (.int j :: .ref a :: st) (n, I, R) = (ardI 5 n I a j).bind (fun z => EE 32 69 [l0, l1, l2, l3, l4, l5, l6] (.int z :: st) (n, I, R)) := e_iald d32_68
theorem d32_69 : decode (cod 32) 69 = .ok (.aload_n 0, 1) := by decide +kernel
theorem s32_69 {M : Mm} {st : List Value} {l1 l2 l3 l4 l5 l6 : Option Value} {x : Nat} : EE 32 69 [some (.ref x), l1, l2, l3, l4, l5, l6] st M = EE 32 70 [some (.ref x), l1, l2, l3, l4, l5, l6] (.ref x :: st) M := e_ld d32_69 rfl rfl rfl rfl rfl rfl
theorem d32_70 : decode (cod 32) 70 = .ok (.getfield 9, 3) := by decide +kernel
theorem s32_70 {n : Nat} {I : Nat → Nat → Int32} {R : Nat → Nat → Option Nat} {st : List Value} {l0 l1 l2 l3 l4 l5 l6 : Option Value} {a : Nat} : EE 32 70 [l0, l1, l2, l3, l4, l5, l6] (.ref a :: st) (n, I, R) = (gfI n I R 1 0 a).bind (fun z => EE 32 73 [l0, l1, l2, l3, l4, l5, l6] (z :: st) (n, I, R)) := e_getf d32_70 f1_9 rfl rfl
theorem d32_73 : decode (cod 32) 73 = .ok (.iconst 1, 1) := by decide +kernel
theorem s32_73 {M : Mm} {st : List Value} {l0 l1 l2 l3 l4 l5 l6 : Option Value} : EE 32 73 [l0, l1, l2, l3, l4, l5, l6] st M = EE 32 74 [l0, l1, l2, l3, l4, l5, l6] (.int (nI 1) :: st) M := e_con d32_73 k_con_1
theorem d32_74 : decode (cod 32) 74 = .ok (.iaload, 1) := by decide +kernel
theorem s32_74 {n : Nat} {I : Nat → Nat → Int32} {R : Nat → Nat → Option Nat} {st : List Value} {l0 l1 l2 l3 l4 l5 l6 : Option Value} {j : Int32} {a : Nat} : EE 32 74 [l0, l1, l2, l3, l4, l5, l6] (.int j :: .ref a :: st) (n, I, R) = (ardI 5 n I a j).bind (fun z => EE 32 75 [l0, l1, l2, l3, l4, l5, l6] (.int z :: st) (n, I, R)) := e_iald d32_74
theorem d32_75 : decode (cod 32) 75 = .ok (.iadd, 1) := by decide +kernel
theorem s32_75 {M : Mm} {st : List Value} {l0 l1 l2 l3 l4 l5 l6 : Option Value} {x y : Int32} : EE 32 75 [l0, l1, l2, l3, l4, l5, l6] (.int y :: .int x :: st) M = EE 32 76 [l0, l1, l2, l3, l4, l5, l6] (.int (x + y) :: st) M := e_II d32_75 rfl rfl rfl rfl rfl rfl
theorem d32_76 : decode (cod 32) 76 = .ok (.invokestatic 126, 3) := by decide +kernel
theorem s32_76 {M : Mm} {l0 l1 l2 l3 l4 l5 l6 : Option Value} {b0 : Int32} {b1 : Int32} {st : List Value} (hl : st.length ≤ 4) : EE 32 76 [l0, l1, l2, l3, l4, l5, l6] (.int b1 :: .int b0 :: st) M = (FF 151 [.int b0, .int b1] M).bind (fun z => EE 32 79 [l0, l1, l2, l3, l4, l5, l6] (psh z.1 st) z.2) := e_cals (av := [.int b0, .int b1]) d32_76 c1_126 (Or.inl rfl) rfl rfl r32_151 rfl hl
theorem d32_79 : decode (cod 32) 79 = .ok (.iastore, 1) := by decide +kernel
theorem s32_79 {n : Nat} {I : Nat → Nat → Int32} {R : Nat → Nat → Option Nat} {st : List Value} {l0 l1 l2 l3 l4 l5 l6 : Option Value} {j x : Int32} {a : Nat} (h : acI 5 n a j) : EE 32 79 [l0, l1, l2, l3, l4, l5, l6] (.int x :: .int j :: .ref a :: st) (n, I, R) = EE 32 80 [l0, l1, l2, l3, l4, l5, l6] st (n, wI I a j.toNatClampNeg x, R) := e_iast d32_79 h
theorem d32_80 : decode (cod 32) 80 = .ok (.iinc 4 (-1), 3) := by decide +kernel
theorem s32_80 {M : Mm} {st : List Value} {l0 l1 l2 l3 l5 l6 : Option Value} {x : Int32} : EE 32 80 [l0, l1, l2, l3, some (.int x), l5, l6] st M = EE 32 83 [l0, l1, l2, cln l3, some (.int (x + (-1))), l5, l6] st M := e_iinc d32_80 rfl (congrArg (fun z => x + z) k_inc_m1) rfl
theorem d32_83 : decode (cod 32) 83 = .ok (.goto (-59), 3) := by decide +kernel
theorem s32_83 {M : Mm} {st : List Value} {l0 l1 l2 l3 l4 l5 l6 : Option Value} : EE 32 83 [l0, l1, l2, l3, l4, l5, l6] st M = EE 32 24 [l0, l1, l2, l3, l4, l5, l6] st M := e_goto d32_83 (by decide)
theorem d32_86 : decode (cod 32) 86 = .ok (.iinc 5 1, 3) := by decide +kernel
theorem s32_86 {M : Mm} {st : List Value} {l0 l1 l2 l3 l4 l6 : Option Value} {x : Int32} : EE 32 86 [l0, l1, l2, l3, l4, some (.int x), l6] st M = EE 32 89 [l0, l1, l2, l3, cln l4, some (.int (x + nI 1)), l6] st M := e_iinc d32_86 rfl (congrArg (fun z => x + z) k_inc_1) rfl
theorem d32_89 : decode (cod 32) 89 = .ok (.goto (-83), 3) := by decide +kernel
theorem s32_89 {M : Mm} {st : List Value} {l0 l1 l2 l3 l4 l5 l6 : Option Value} : EE 32 89 [l0, l1, l2, l3, l4, l5, l6] st M = EE 32 6 [l0, l1, l2, l3, l4, l5, l6] st M := e_goto d32_89 (by decide)
theorem d32_92 : decode (cod 32) 92 = .ok (.aload_n 0, 1) := by decide +kernel
theorem s32_92 {M : Mm} {st : List Value} {l1 l2 l3 l4 l5 l6 : Option Value} {x : Nat} : EE 32 92 [some (.ref x), l1, l2, l3, l4, l5, l6] st M = EE 32 93 [some (.ref x), l1, l2, l3, l4, l5, l6] (.ref x :: st) M := e_ld d32_92 rfl rfl rfl rfl rfl rfl
theorem d32_93 : decode (cod 32) 93 = .ok (.aload_n 1, 1) := by decide +kernel
theorem s32_93 {M : Mm} {st : List Value} {l0 l2 l3 l4 l5 l6 : Option Value} {x : Nat} : EE 32 93 [l0, some (.ref x), l2, l3, l4, l5, l6] st M = EE 32 94 [l0, some (.ref x), l2, l3, l4, l5, l6] (.ref x :: st) M := e_ld d32_93 rfl rfl rfl rfl rfl rfl
theorem d32_94 : decode (cod 32) 94 = .ok (.aload_n 2, 1) := by decide +kernel
theorem s32_94 {M : Mm} {st : List Value} {l0 l1 l3 l4 l5 l6 : Option Value} {x : Nat} : EE 32 94 [l0, l1, some (.ref x), l3, l4, l5, l6] st M = EE 32 95 [l0, l1, some (.ref x), l3, l4, l5, l6] (.ref x :: st) M := e_ld d32_94 rfl rfl rfl rfl rfl rfl
theorem d32_95 : decode (cod 32) 95 = .ok (.invokevirtual 157, 3) := by decide +kernel
theorem s32_95 {l0 l1 l2 l3 l4 l5 l6 : Option Value} {a : Nat} {M : Mm} {b0 : Nat} {b1 : Nat} {st : List Value} (hl : st.length ≤ 4) (ho : isO "HandoverDesk$State" M.1 a = true) : EE 32 95 [l0, l1, l2, l3, l4, l5, l6] (.ref b1 :: .ref b0 :: .ref a :: st) M = (FF 33 (.ref a :: [.ref b0, .ref b1]) M).bind (fun z => EE 32 98 [l0, l1, l2, l3, l4, l5, l6] (psh z.1 st) z.2) := e_calv (av := [.ref b0, .ref b1]) d32_95 c1_157 rfl rfl rfl r32_33 rfl hl ho
theorem d32_98 : decode (cod 32) 98 = .ok (.istore 5, 2) := by decide +kernel
theorem s32_98 {M : Mm} {st : List Value} {l0 l1 l2 l3 l4 l5 l6 : Option Value} {x : Int32} : EE 32 98 [l0, l1, l2, l3, l4, l5, l6] (.int x :: st) M = EE 32 100 [l0, l1, l2, l3, cln l4, some (.int x), l6] st M := e_st1 d32_98 rfl rfl rfl rfl rfl rfl rfl (Nat.le_of_ble_eq_true rfl) rfl
theorem d32_100 : decode (cod 32) 100 = .ok (.iload 4, 2) := by decide +kernel
theorem s32_100 {M : Mm} {st : List Value} {l0 l1 l2 l3 l5 l6 : Option Value} {x : Int32} : EE 32 100 [l0, l1, l2, l3, some (.int x), l5, l6] st M = EE 32 102 [l0, l1, l2, l3, some (.int x), l5, l6] (.int x :: st) M := e_ld d32_100 rfl rfl rfl rfl rfl rfl
theorem d32_102 : decode (cod 32) 102 = .ok (.ifCond .le 44, 3) := by decide +kernel
theorem s32_102 {M : Mm} {st : List Value} {l0 l1 l2 l3 l4 l5 l6 : Option Value} {x : Int32} : EE 32 102 [l0, l1, l2, l3, l4, l5, l6] (.int x :: st) M = if x ≤ 0 then EE 32 146 [l0, l1, l2, l3, l4, l5, l6] st M else EE 32 105 [l0, l1, l2, l3, l4, l5, l6] st M := e_le0 d32_102 (by decide)
theorem d32_105 : decode (cod 32) 105 = .ok (.iload 5, 2) := by decide +kernel
theorem s32_105 {M : Mm} {st : List Value} {l0 l1 l2 l3 l4 l6 : Option Value} {x : Int32} : EE 32 105 [l0, l1, l2, l3, l4, some (.int x), l6] st M = EE 32 107 [l0, l1, l2, l3, l4, some (.int x), l6] (.int x :: st) M := e_ld d32_105 rfl rfl rfl rfl rfl rfl
theorem d32_107 : decode (cod 32) 107 = .ok (.ifCond .lt 39, 3) := by decide +kernel
theorem s32_107 {M : Mm} {st : List Value} {l0 l1 l2 l3 l4 l5 l6 : Option Value} {x : Int32} : EE 32 107 [l0, l1, l2, l3, l4, l5, l6] (.int x :: st) M = if x < 0 then EE 32 146 [l0, l1, l2, l3, l4, l5, l6] st M else EE 32 110 [l0, l1, l2, l3, l4, l5, l6] st M := e_lt0 d32_107 (by decide)
theorem d32_110 : decode (cod 32) 110 = .ok (.aload_n 2, 1) := by decide +kernel
theorem s32_110 {M : Mm} {st : List Value} {l0 l1 l3 l4 l5 l6 : Option Value} {x : Nat} : EE 32 110 [l0, l1, some (.ref x), l3, l4, l5, l6] st M = EE 32 111 [l0, l1, some (.ref x), l3, l4, l5, l6] (.ref x :: st) M := e_ld d32_110 rfl rfl rfl rfl rfl rfl
theorem d32_111 : decode (cod 32) 111 = .ok (.iload 5, 2) := by decide +kernel
theorem s32_111 {M : Mm} {st : List Value} {l0 l1 l2 l3 l4 l6 : Option Value} {x : Int32} : EE 32 111 [l0, l1, l2, l3, l4, some (.int x), l6] st M = EE 32 113 [l0, l1, l2, l3, l4, some (.int x), l6] (.int x :: st) M := e_ld d32_111 rfl rfl rfl rfl rfl rfl
theorem d32_113 : decode (cod 32) 113 = .ok (.aload_n 1, 1) := by decide +kernel
theorem s32_113 {M : Mm} {st : List Value} {l0 l2 l3 l4 l5 l6 : Option Value} {x : Nat} : EE 32 113 [l0, some (.ref x), l2, l3, l4, l5, l6] st M = EE 32 114 [l0, some (.ref x), l2, l3, l4, l5, l6] (.ref x :: st) M := e_ld d32_113 rfl rfl rfl rfl rfl rfl
theorem d32_114 : decode (cod 32) 114 = .ok (.iload 5, 2) := by decide +kernel
theorem s32_114 {M : Mm} {st : List Value} {l0 l1 l2 l3 l4 l6 : Option Value} {x : Int32} : EE 32 114 [l0, l1, l2, l3, l4, some (.int x), l6] st M = EE 32 116 [l0, l1, l2, l3, l4, some (.int x), l6] (.int x :: st) M := e_ld d32_114 rfl rfl rfl rfl rfl rfl
theorem d32_116 : decode (cod 32) 116 = .ok (.iaload, 1) := by decide +kernel
theorem s32_116 {n : Nat} {I : Nat → Nat → Int32} {R : Nat → Nat → Option Nat} {st : List Value} {l0 l1 l2 l3 l4 l5 l6 : Option Value} {j : Int32} {a : Nat} : EE 32 116 [l0, l1, l2, l3, l4, l5, l6] (.int j :: .ref a :: st) (n, I, R) = (ardI 5 n I a j).bind (fun z => EE 32 117 [l0, l1, l2, l3, l4, l5, l6] (.int z :: st) (n, I, R)) := e_iald d32_116
theorem d32_117 : decode (cod 32) 117 = .ok (.aload_n 2, 1) := by decide +kernel
theorem s32_117 {M : Mm} {st : List Value} {l0 l1 l3 l4 l5 l6 : Option Value} {x : Nat} : EE 32 117 [l0, l1, some (.ref x), l3, l4, l5, l6] st M = EE 32 118 [l0, l1, some (.ref x), l3, l4, l5, l6] (.ref x :: st) M := e_ld d32_117 rfl rfl rfl rfl rfl rfl
theorem d32_118 : decode (cod 32) 118 = .ok (.iload 5, 2) := by decide +kernel
theorem s32_118 {M : Mm} {st : List Value} {l0 l1 l2 l3 l4 l6 : Option Value} {x : Int32} : EE 32 118 [l0, l1, l2, l3, l4, some (.int x), l6] st M = EE 32 120 [l0, l1, l2, l3, l4, some (.int x), l6] (.int x :: st) M := e_ld d32_118 rfl rfl rfl rfl rfl rfl
theorem d32_120 : decode (cod 32) 120 = .ok (.iaload, 1) := by decide +kernel
theorem s32_120 {n : Nat} {I : Nat → Nat → Int32} {R : Nat → Nat → Option Nat} {st : List Value} {l0 l1 l2 l3 l4 l5 l6 : Option Value} {j : Int32} {a : Nat} : EE 32 120 [l0, l1, l2, l3, l4, l5, l6] (.int j :: .ref a :: st) (n, I, R) = (ardI 5 n I a j).bind (fun z => EE 32 121 [l0, l1, l2, l3, l4, l5, l6] (.int z :: st) (n, I, R)) := e_iald d32_120
theorem d32_121 : decode (cod 32) 121 = .ok (.aload_n 0, 1) := by decide +kernel
theorem s32_121 {M : Mm} {st : List Value} {l1 l2 l3 l4 l5 l6 : Option Value} {x : Nat} : EE 32 121 [some (.ref x), l1, l2, l3, l4, l5, l6] st M = EE 32 122 [some (.ref x), l1, l2, l3, l4, l5, l6] (.ref x :: st) M := e_ld d32_121 rfl rfl rfl rfl rfl rfl
theorem d32_122 : decode (cod 32) 122 = .ok (.getfield 9, 3) := by decide +kernel
theorem s32_122 {n : Nat} {I : Nat → Nat → Int32} {R : Nat → Nat → Option Nat} {st : List Value} {l0 l1 l2 l3 l4 l5 l6 : Option Value} {a : Nat} : EE 32 122 [l0, l1, l2, l3, l4, l5, l6] (.ref a :: st) (n, I, R) = (gfI n I R 1 0 a).bind (fun z => EE 32 125 [l0, l1, l2, l3, l4, l5, l6] (z :: st) (n, I, R)) := e_getf d32_122 f1_9 rfl rfl
theorem d32_125 : decode (cod 32) 125 = .ok (.iconst 1, 1) := by decide +kernel
theorem s32_125 {M : Mm} {st : List Value} {l0 l1 l2 l3 l4 l5 l6 : Option Value} : EE 32 125 [l0, l1, l2, l3, l4, l5, l6] st M = EE 32 126 [l0, l1, l2, l3, l4, l5, l6] (.int (nI 1) :: st) M := e_con d32_125 k_con_1
theorem d32_126 : decode (cod 32) 126 = .ok (.iaload, 1) := by decide +kernel
theorem s32_126 {n : Nat} {I : Nat → Nat → Int32} {R : Nat → Nat → Option Nat} {st : List Value} {l0 l1 l2 l3 l4 l5 l6 : Option Value} {j : Int32} {a : Nat} : EE 32 126 [l0, l1, l2, l3, l4, l5, l6] (.int j :: .ref a :: st) (n, I, R) = (ardI 5 n I a j).bind (fun z => EE 32 127 [l0, l1, l2, l3, l4, l5, l6] (.int z :: st) (n, I, R)) := e_iald d32_126
theorem d32_127 : decode (cod 32) 127 = .ok (.iadd, 1) := by decide +kernel
theorem s32_127 {M : Mm} {st : List Value} {l0 l1 l2 l3 l4 l5 l6 : Option Value} {x y : Int32} : EE 32 127 [l0, l1, l2, l3, l4, l5, l6] (.int y :: .int x :: st) M = EE 32 128 [l0, l1, l2, l3, l4, l5, l6] (.int (x + y) :: st) M := e_II d32_127 rfl rfl rfl rfl rfl rfl
theorem d32_128 : decode (cod 32) 128 = .ok (.invokestatic 126, 3) := by decide +kernel
theorem s32_128 {M : Mm} {l0 l1 l2 l3 l4 l5 l6 : Option Value} {b0 : Int32} {b1 : Int32} {st : List Value} (hl : st.length ≤ 4) : EE 32 128 [l0, l1, l2, l3, l4, l5, l6] (.int b1 :: .int b0 :: st) M = (FF 151 [.int b0, .int b1] M).bind (fun z => EE 32 131 [l0, l1, l2, l3, l4, l5, l6] (psh z.1 st) z.2) := e_cals (av := [.int b0, .int b1]) d32_128 c1_126 (Or.inl rfl) rfl rfl r32_151 rfl hl
theorem d32_131 : decode (cod 32) 131 = .ok (.iastore, 1) := by decide +kernel
theorem s32_131 {n : Nat} {I : Nat → Nat → Int32} {R : Nat → Nat → Option Nat} {st : List Value} {l0 l1 l2 l3 l4 l5 l6 : Option Value} {j x : Int32} {a : Nat} (h : acI 5 n a j) : EE 32 131 [l0, l1, l2, l3, l4, l5, l6] (.int x :: .int j :: .ref a :: st) (n, I, R) = EE 32 132 [l0, l1, l2, l3, l4, l5, l6] st (n, wI I a j.toNatClampNeg x, R) := e_iast d32_131 h
theorem d32_132 : decode (cod 32) 132 = .ok (.iinc 4 (-1), 3) := by decide +kernel
theorem s32_132 {M : Mm} {st : List Value} {l0 l1 l2 l3 l5 l6 : Option Value} {x : Int32} : EE 32 132 [l0, l1, l2, l3, some (.int x), l5, l6] st M = EE 32 135 [l0, l1, l2, cln l3, some (.int (x + (-1))), l5, l6] st M := e_iinc d32_132 rfl (congrArg (fun z => x + z) k_inc_m1) rfl
theorem d32_135 : decode (cod 32) 135 = .ok (.aload_n 0, 1) := by decide +kernel
theorem s32_135 {M : Mm} {st : List Value} {l1 l2 l3 l4 l5 l6 : Option Value} {x : Nat} : EE 32 135 [some (.ref x), l1, l2, l3, l4, l5, l6] st M = EE 32 136 [some (.ref x), l1, l2, l3, l4, l5, l6] (.ref x :: st) M := e_ld d32_135 rfl rfl rfl rfl rfl rfl
theorem d32_136 : decode (cod 32) 136 = .ok (.aload_n 1, 1) := by decide +kernel
theorem s32_136 {M : Mm} {st : List Value} {l0 l2 l3 l4 l5 l6 : Option Value} {x : Nat} : EE 32 136 [l0, some (.ref x), l2, l3, l4, l5, l6] st M = EE 32 137 [l0, some (.ref x), l2, l3, l4, l5, l6] (.ref x :: st) M := e_ld d32_136 rfl rfl rfl rfl rfl rfl
theorem d32_137 : decode (cod 32) 137 = .ok (.aload_n 2, 1) := by decide +kernel
theorem s32_137 {M : Mm} {st : List Value} {l0 l1 l3 l4 l5 l6 : Option Value} {x : Nat} : EE 32 137 [l0, l1, some (.ref x), l3, l4, l5, l6] st M = EE 32 138 [l0, l1, some (.ref x), l3, l4, l5, l6] (.ref x :: st) M := e_ld d32_137 rfl rfl rfl rfl rfl rfl
theorem d32_138 : decode (cod 32) 138 = .ok (.invokevirtual 157, 3) := by decide +kernel
theorem s32_138 {l0 l1 l2 l3 l4 l5 l6 : Option Value} {a : Nat} {M : Mm} {b0 : Nat} {b1 : Nat} {st : List Value} (hl : st.length ≤ 4) (ho : isO "HandoverDesk$State" M.1 a = true) : EE 32 138 [l0, l1, l2, l3, l4, l5, l6] (.ref b1 :: .ref b0 :: .ref a :: st) M = (FF 33 (.ref a :: [.ref b0, .ref b1]) M).bind (fun z => EE 32 141 [l0, l1, l2, l3, l4, l5, l6] (psh z.1 st) z.2) := e_calv (av := [.ref b0, .ref b1]) d32_138 c1_157 rfl rfl rfl r32_33 rfl hl ho
theorem d32_141 : decode (cod 32) 141 = .ok (.istore 5, 2) := by decide +kernel
theorem s32_141 {M : Mm} {st : List Value} {l0 l1 l2 l3 l4 l5 l6 : Option Value} {x : Int32} : EE 32 141 [l0, l1, l2, l3, l4, l5, l6] (.int x :: st) M = EE 32 143 [l0, l1, l2, l3, cln l4, some (.int x), l6] st M := e_st1 d32_141 rfl rfl rfl rfl rfl rfl rfl (Nat.le_of_ble_eq_true rfl) rfl
theorem d32_143 : decode (cod 32) 143 = .ok (.goto (-43), 3) := by decide +kernel
theorem s32_143 {M : Mm} {st : List Value} {l0 l1 l2 l3 l4 l5 l6 : Option Value} : EE 32 143 [l0, l1, l2, l3, l4, l5, l6] st M = EE 32 100 [l0, l1, l2, l3, l4, l5, l6] st M := e_goto d32_143 (by decide)
theorem d32_146 : decode (cod 32) 146 = .ok (.iload 4, 2) := by decide +kernel
theorem s32_146 {M : Mm} {st : List Value} {l0 l1 l2 l3 l5 l6 : Option Value} {x : Int32} : EE 32 146 [l0, l1, l2, l3, some (.int x), l5, l6] st M = EE 32 148 [l0, l1, l2, l3, some (.int x), l5, l6] (.int x :: st) M := e_ld d32_146 rfl rfl rfl rfl rfl rfl
theorem d32_148 : decode (cod 32) 148 = .ok (.ireturn, 1) := by decide +kernel
theorem s32_148 {M : Mm} {l0 l1 l2 l3 l4 l5 l6 : Option Value} {v : Int32} : EE 32 148 [l0, l1, l2, l3, l4, l5, l6] [.int v] M = some (some (.int v), M) := e_iret d32_148 rfl rfl
theorem FE32 {a : Nat} {b0 : Nat} {b1 : Nat} {b2 : Int32} {M : Mm} : FF 32 [.ref a, .ref b0, .ref b1, .int b2] M = EE 32 0 [some (.ref a), some (.ref b0), some (.ref b1), some (.int b2), none, none, none] [] M := FF_eq 32 _ _ (Nat.le_of_ble_eq_true rfl)
theorem d33_0 : decode (cod 33) 0 = .ok (.bipush (-6), 2) := by decide +kernel
theorem s33_0 {M : Mm} {st : List Value} {l0 l1 l2 l3 l4 l5 : Option Value} : EE 33 0 [l0, l1, l2, l3, l4, l5] st M = EE 33 2 [l0, l1, l2, l3, l4, l5] (.int ((-6)) :: st) M := e_bip d33_0 k_bip_m6
theorem d33_2 : decode (cod 33) 2 = .ok (.istore_n 3, 1) := by decide +kernel
theorem s33_2 {M : Mm} {st : List Value} {l0 l1 l2 l3 l4 l5 : Option Value} {x : Int32} : EE 33 2 [l0, l1, l2, l3, l4, l5] (.int x :: st) M = EE 33 3 [l0, l1, cln l2, some (.int x), l4, l5] st M := e_st1 d33_2 rfl rfl rfl rfl rfl rfl rfl (Nat.le_of_ble_eq_true rfl) rfl
theorem d33_3 : decode (cod 33) 3 = .ok (.iconst 0, 1) := by decide +kernel
theorem s33_3 {M : Mm} {st : List Value} {l0 l1 l2 l3 l4 l5 : Option Value} : EE 33 3 [l0, l1, l2, l3, l4, l5] st M = EE 33 4 [l0, l1, l2, l3, l4, l5] (.int (nI 0) :: st) M := e_con d33_3 k_con_0
theorem d33_4 : decode (cod 33) 4 = .ok (.istore 4, 2) := by decide +kernel
theorem s33_4 {M : Mm} {st : List Value} {l0 l1 l2 l3 l4 l5 : Option Value} {x : Int32} : EE 33 4 [l0, l1, l2, l3, l4, l5] (.int x :: st) M = EE 33 6 [l0, l1, l2, cln l3, some (.int x), l5] st M := e_st1 d33_4 rfl rfl rfl rfl rfl rfl rfl (Nat.le_of_ble_eq_true rfl) rfl
theorem d33_6 : decode (cod 33) 6 = .ok (.iconst 0, 1) := by decide +kernel
theorem s33_6 {M : Mm} {st : List Value} {l0 l1 l2 l3 l4 l5 : Option Value} : EE 33 6 [l0, l1, l2, l3, l4, l5] st M = EE 33 7 [l0, l1, l2, l3, l4, l5] (.int (nI 0) :: st) M := e_con d33_6 k_con_0
theorem d33_7 : decode (cod 33) 7 = .ok (.istore 5, 2) := by decide +kernel
theorem s33_7 {M : Mm} {st : List Value} {l0 l1 l2 l3 l4 l5 : Option Value} {x : Int32} : EE 33 7 [l0, l1, l2, l3, l4, l5] (.int x :: st) M = EE 33 9 [l0, l1, l2, l3, cln l4, some (.int x)] st M := e_st1 d33_7 rfl rfl rfl rfl rfl rfl rfl (Nat.le_of_ble_eq_true rfl) rfl
theorem d33_9 : decode (cod 33) 9 = .ok (.iload 5, 2) := by decide +kernel
theorem s33_9 {M : Mm} {st : List Value} {l0 l1 l2 l3 l4 : Option Value} {x : Int32} : EE 33 9 [l0, l1, l2, l3, l4, some (.int x)] st M = EE 33 11 [l0, l1, l2, l3, l4, some (.int x)] (.int x :: st) M := e_ld d33_9 rfl rfl rfl rfl rfl rfl
theorem d33_11 : decode (cod 33) 11 = .ok (.aload_n 0, 1) := by decide +kernel
theorem s33_11 {M : Mm} {st : List Value} {l1 l2 l3 l4 l5 : Option Value} {x : Nat} : EE 33 11 [some (.ref x), l1, l2, l3, l4, l5] st M = EE 33 12 [some (.ref x), l1, l2, l3, l4, l5] (.ref x :: st) M := e_ld d33_11 rfl rfl rfl rfl rfl rfl
theorem d33_12 : decode (cod 33) 12 = .ok (.getfield 47, 3) := by decide +kernel
theorem s33_12 {n : Nat} {I : Nat → Nat → Int32} {R : Nat → Nat → Option Nat} {st : List Value} {l0 l1 l2 l3 l4 l5 : Option Value} {a : Nat} : EE 33 12 [l0, l1, l2, l3, l4, l5] (.ref a :: st) (n, I, R) = (gfI n I R 1 8 a).bind (fun z => EE 33 15 [l0, l1, l2, l3, l4, l5] (z :: st) (n, I, R)) := e_getf d33_12 f1_47 rfl rfl
theorem d33_15 : decode (cod 33) 15 = .ok (.if_icmp .ge 46, 3) := by decide +kernel
theorem s33_15 {M : Mm} {st : List Value} {l0 l1 l2 l3 l4 l5 : Option Value} {x y : Int32} : EE 33 15 [l0, l1, l2, l3, l4, l5] (.int y :: .int x :: st) M = if y ≤ x then EE 33 61 [l0, l1, l2, l3, l4, l5] st M else EE 33 18 [l0, l1, l2, l3, l4, l5] st M := e_cge d33_15 (by decide)
theorem d33_18 : decode (cod 33) 18 = .ok (.aload_n 0, 1) := by decide +kernel
theorem s33_18 {M : Mm} {st : List Value} {l1 l2 l3 l4 l5 : Option Value} {x : Nat} : EE 33 18 [some (.ref x), l1, l2, l3, l4, l5] st M = EE 33 19 [some (.ref x), l1, l2, l3, l4, l5] (.ref x :: st) M := e_ld d33_18 rfl rfl rfl rfl rfl rfl
theorem d33_19 : decode (cod 33) 19 = .ok (.iload 5, 2) := by decide +kernel
theorem s33_19 {M : Mm} {st : List Value} {l0 l1 l2 l3 l4 : Option Value} {x : Int32} : EE 33 19 [l0, l1, l2, l3, l4, some (.int x)] st M = EE 33 21 [l0, l1, l2, l3, l4, some (.int x)] (.int x :: st) M := e_ld d33_19 rfl rfl rfl rfl rfl rfl
theorem d33_21 : decode (cod 33) 21 = .ok (.invokevirtual 99, 3) := by decide +kernel
theorem s33_21 {l0 l1 l2 l3 l4 l5 : Option Value} {a : Nat} {M : Mm} {b0 : Int32} {st : List Value} (hl : st.length ≤ 4) (ho : isO "HandoverDesk$State" M.1 a = true) : EE 33 21 [l0, l1, l2, l3, l4, l5] (.int b0 :: .ref a :: st) M = (FF 19 (.ref a :: [.int b0]) M).bind (fun z => EE 33 24 [l0, l1, l2, l3, l4, l5] (psh z.1 st) z.2) := e_calv (av := [.int b0]) d33_21 c1_99 rfl rfl rfl r33_19 rfl hl ho
theorem d33_24 : decode (cod 33) 24 = .ok (.ifCond .eq 31, 3) := by decide +kernel
theorem s33_24 {M : Mm} {st : List Value} {l0 l1 l2 l3 l4 l5 : Option Value} {x : Int32} : EE 33 24 [l0, l1, l2, l3, l4, l5] (.int x :: st) M = if x = 0 then EE 33 55 [l0, l1, l2, l3, l4, l5] st M else EE 33 27 [l0, l1, l2, l3, l4, l5] st M := e_eq0 d33_24 (by decide)
theorem d33_27 : decode (cod 33) 27 = .ok (.aload_n 1, 1) := by decide +kernel
theorem s33_27 {M : Mm} {st : List Value} {l0 l2 l3 l4 l5 : Option Value} {x : Nat} : EE 33 27 [l0, some (.ref x), l2, l3, l4, l5] st M = EE 33 28 [l0, some (.ref x), l2, l3, l4, l5] (.ref x :: st) M := e_ld d33_27 rfl rfl rfl rfl rfl rfl
theorem d33_28 : decode (cod 33) 28 = .ok (.iload 5, 2) := by decide +kernel
theorem s33_28 {M : Mm} {st : List Value} {l0 l1 l2 l3 l4 : Option Value} {x : Int32} : EE 33 28 [l0, l1, l2, l3, l4, some (.int x)] st M = EE 33 30 [l0, l1, l2, l3, l4, some (.int x)] (.int x :: st) M := e_ld d33_28 rfl rfl rfl rfl rfl rfl
theorem d33_30 : decode (cod 33) 30 = .ok (.iaload, 1) := by decide +kernel
theorem s33_30 {n : Nat} {I : Nat → Nat → Int32} {R : Nat → Nat → Option Nat} {st : List Value} {l0 l1 l2 l3 l4 l5 : Option Value} {j : Int32} {a : Nat} : EE 33 30 [l0, l1, l2, l3, l4, l5] (.int j :: .ref a :: st) (n, I, R) = (ardI 5 n I a j).bind (fun z => EE 33 31 [l0, l1, l2, l3, l4, l5] (.int z :: st) (n, I, R)) := e_iald d33_30
theorem d33_31 : decode (cod 33) 31 = .ok (.aload_n 2, 1) := by decide +kernel
theorem s33_31 {M : Mm} {st : List Value} {l0 l1 l3 l4 l5 : Option Value} {x : Nat} : EE 33 31 [l0, l1, some (.ref x), l3, l4, l5] st M = EE 33 32 [l0, l1, some (.ref x), l3, l4, l5] (.ref x :: st) M := e_ld d33_31 rfl rfl rfl rfl rfl rfl
theorem d33_32 : decode (cod 33) 32 = .ok (.iload 5, 2) := by decide +kernel
theorem s33_32 {M : Mm} {st : List Value} {l0 l1 l2 l3 l4 : Option Value} {x : Int32} : EE 33 32 [l0, l1, l2, l3, l4, some (.int x)] st M = EE 33 34 [l0, l1, l2, l3, l4, some (.int x)] (.int x :: st) M := e_ld d33_32 rfl rfl rfl rfl rfl rfl
theorem d33_34 : decode (cod 33) 34 = .ok (.iaload, 1) := by decide +kernel
theorem s33_34 {n : Nat} {I : Nat → Nat → Int32} {R : Nat → Nat → Option Nat} {st : List Value} {l0 l1 l2 l3 l4 l5 : Option Value} {j : Int32} {a : Nat} : EE 33 34 [l0, l1, l2, l3, l4, l5] (.int j :: .ref a :: st) (n, I, R) = (ardI 5 n I a j).bind (fun z => EE 33 35 [l0, l1, l2, l3, l4, l5] (.int z :: st) (n, I, R)) := e_iald d33_34
theorem d33_35 : decode (cod 33) 35 = .ok (.isub, 1) := by decide +kernel
theorem s33_35 {M : Mm} {st : List Value} {l0 l1 l2 l3 l4 l5 : Option Value} {x y : Int32} : EE 33 35 [l0, l1, l2, l3, l4, l5] (.int y :: .int x :: st) M = EE 33 36 [l0, l1, l2, l3, l4, l5] (.int (x - y) :: st) M := e_II d33_35 rfl rfl rfl rfl rfl rfl
theorem d33_36 : decode (cod 33) 36 = .ok (.iload 4, 2) := by decide +kernel
theorem s33_36 {M : Mm} {st : List Value} {l0 l1 l2 l3 l5 : Option Value} {x : Int32} : EE 33 36 [l0, l1, l2, l3, some (.int x), l5] st M = EE 33 38 [l0, l1, l2, l3, some (.int x), l5] (.int x :: st) M := e_ld d33_36 rfl rfl rfl rfl rfl rfl
theorem d33_38 : decode (cod 33) 38 = .ok (.if_icmp .le 17, 3) := by decide +kernel
theorem s33_38 {M : Mm} {st : List Value} {l0 l1 l2 l3 l4 l5 : Option Value} {x y : Int32} : EE 33 38 [l0, l1, l2, l3, l4, l5] (.int y :: .int x :: st) M = if x ≤ y then EE 33 55 [l0, l1, l2, l3, l4, l5] st M else EE 33 41 [l0, l1, l2, l3, l4, l5] st M := e_cle d33_38 (by decide)
theorem d33_41 : decode (cod 33) 41 = .ok (.iload 5, 2) := by decide +kernel
theorem s33_41 {M : Mm} {st : List Value} {l0 l1 l2 l3 l4 : Option Value} {x : Int32} : EE 33 41 [l0, l1, l2, l3, l4, some (.int x)] st M = EE 33 43 [l0, l1, l2, l3, l4, some (.int x)] (.int x :: st) M := e_ld d33_41 rfl rfl rfl rfl rfl rfl
theorem d33_43 : decode (cod 33) 43 = .ok (.istore_n 3, 1) := by decide +kernel
theorem s33_43 {M : Mm} {st : List Value} {l0 l1 l2 l3 l4 l5 : Option Value} {x : Int32} : EE 33 43 [l0, l1, l2, l3, l4, l5] (.int x :: st) M = EE 33 44 [l0, l1, cln l2, some (.int x), l4, l5] st M := e_st1 d33_43 rfl rfl rfl rfl rfl rfl rfl (Nat.le_of_ble_eq_true rfl) rfl
theorem d33_44 : decode (cod 33) 44 = .ok (.aload_n 1, 1) := by decide +kernel
theorem s33_44 {M : Mm} {st : List Value} {l0 l2 l3 l4 l5 : Option Value} {x : Nat} : EE 33 44 [l0, some (.ref x), l2, l3, l4, l5] st M = EE 33 45 [l0, some (.ref x), l2, l3, l4, l5] (.ref x :: st) M := e_ld d33_44 rfl rfl rfl rfl rfl rfl
theorem d33_45 : decode (cod 33) 45 = .ok (.iload 5, 2) := by decide +kernel
theorem s33_45 {M : Mm} {st : List Value} {l0 l1 l2 l3 l4 : Option Value} {x : Int32} : EE 33 45 [l0, l1, l2, l3, l4, some (.int x)] st M = EE 33 47 [l0, l1, l2, l3, l4, some (.int x)] (.int x :: st) M := e_ld d33_45 rfl rfl rfl rfl rfl rfl
theorem d33_47 : decode (cod 33) 47 = .ok (.iaload, 1) := by decide +kernel
theorem s33_47 {n : Nat} {I : Nat → Nat → Int32} {R : Nat → Nat → Option Nat} {st : List Value} {l0 l1 l2 l3 l4 l5 : Option Value} {j : Int32} {a : Nat} : EE 33 47 [l0, l1, l2, l3, l4, l5] (.int j :: .ref a :: st) (n, I, R) = (ardI 5 n I a j).bind (fun z => EE 33 48 [l0, l1, l2, l3, l4, l5] (.int z :: st) (n, I, R)) := e_iald d33_47
theorem d33_48 : decode (cod 33) 48 = .ok (.aload_n 2, 1) := by decide +kernel
theorem s33_48 {M : Mm} {st : List Value} {l0 l1 l3 l4 l5 : Option Value} {x : Nat} : EE 33 48 [l0, l1, some (.ref x), l3, l4, l5] st M = EE 33 49 [l0, l1, some (.ref x), l3, l4, l5] (.ref x :: st) M := e_ld d33_48 rfl rfl rfl rfl rfl rfl
theorem d33_49 : decode (cod 33) 49 = .ok (.iload 5, 2) := by decide +kernel
theorem s33_49 {M : Mm} {st : List Value} {l0 l1 l2 l3 l4 : Option Value} {x : Int32} : EE 33 49 [l0, l1, l2, l3, l4, some (.int x)] st M = EE 33 51 [l0, l1, l2, l3, l4, some (.int x)] (.int x :: st) M := e_ld d33_49 rfl rfl rfl rfl rfl rfl
theorem d33_51 : decode (cod 33) 51 = .ok (.iaload, 1) := by decide +kernel
theorem s33_51 {n : Nat} {I : Nat → Nat → Int32} {R : Nat → Nat → Option Nat} {st : List Value} {l0 l1 l2 l3 l4 l5 : Option Value} {j : Int32} {a : Nat} : EE 33 51 [l0, l1, l2, l3, l4, l5] (.int j :: .ref a :: st) (n, I, R) = (ardI 5 n I a j).bind (fun z => EE 33 52 [l0, l1, l2, l3, l4, l5] (.int z :: st) (n, I, R)) := e_iald d33_51
theorem d33_52 : decode (cod 33) 52 = .ok (.isub, 1) := by decide +kernel
theorem s33_52 {M : Mm} {st : List Value} {l0 l1 l2 l3 l4 l5 : Option Value} {x y : Int32} : EE 33 52 [l0, l1, l2, l3, l4, l5] (.int y :: .int x :: st) M = EE 33 53 [l0, l1, l2, l3, l4, l5] (.int (x - y) :: st) M := e_II d33_52 rfl rfl rfl rfl rfl rfl
theorem d33_53 : decode (cod 33) 53 = .ok (.istore 4, 2) := by decide +kernel
theorem s33_53 {M : Mm} {st : List Value} {l0 l1 l2 l3 l4 l5 : Option Value} {x : Int32} : EE 33 53 [l0, l1, l2, l3, l4, l5] (.int x :: st) M = EE 33 55 [l0, l1, l2, cln l3, some (.int x), l5] st M := e_st1 d33_53 rfl rfl rfl rfl rfl rfl rfl (Nat.le_of_ble_eq_true rfl) rfl
theorem d33_55 : decode (cod 33) 55 = .ok (.iinc 5 1, 3) := by decide +kernel
theorem s33_55 {M : Mm} {st : List Value} {l0 l1 l2 l3 l4 : Option Value} {x : Int32} : EE 33 55 [l0, l1, l2, l3, l4, some (.int x)] st M = EE 33 58 [l0, l1, l2, l3, cln l4, some (.int (x + nI 1))] st M := e_iinc d33_55 rfl (congrArg (fun z => x + z) k_inc_1) rfl
theorem d33_58 : decode (cod 33) 58 = .ok (.goto (-49), 3) := by decide +kernel
theorem s33_58 {M : Mm} {st : List Value} {l0 l1 l2 l3 l4 l5 : Option Value} : EE 33 58 [l0, l1, l2, l3, l4, l5] st M = EE 33 9 [l0, l1, l2, l3, l4, l5] st M := e_goto d33_58 (by decide)
theorem d33_61 : decode (cod 33) 61 = .ok (.iload_n 3, 1) := by decide +kernel
theorem s33_61 {M : Mm} {st : List Value} {l0 l1 l2 l4 l5 : Option Value} {x : Int32} : EE 33 61 [l0, l1, l2, some (.int x), l4, l5] st M = EE 33 62 [l0, l1, l2, some (.int x), l4, l5] (.int x :: st) M := e_ld d33_61 rfl rfl rfl rfl rfl rfl
theorem d33_62 : decode (cod 33) 62 = .ok (.ireturn, 1) := by decide +kernel
theorem s33_62 {M : Mm} {l0 l1 l2 l3 l4 l5 : Option Value} {v : Int32} : EE 33 62 [l0, l1, l2, l3, l4, l5] [.int v] M = some (some (.int v), M) := e_iret d33_62 rfl rfl
theorem FE33 {a : Nat} {b0 : Nat} {b1 : Nat} {M : Mm} : FF 33 [.ref a, .ref b0, .ref b1] M = EE 33 0 [some (.ref a), some (.ref b0), some (.ref b1), none, none, none] [] M := FF_eq 33 _ _ (Nat.le_of_ble_eq_true rfl)
theorem d34_0 : decode (cod 34) 0 = .ok (.iconst 0, 1) := by decide +kernel
theorem s34_0 {M : Mm} {st : List Value} {l0 l1 l2 : Option Value} : EE 34 0 [l0, l1, l2] st M = EE 34 1 [l0, l1, l2] (.int (nI 0) :: st) M := e_con d34_0 k_con_0
theorem d34_1 : decode (cod 34) 1 = .ok (.istore_n 2, 1) := by decide +kernel
theorem s34_1 {M : Mm} {st : List Value} {l0 l1 l2 : Option Value} {x : Int32} : EE 34 1 [l0, l1, l2] (.int x :: st) M = EE 34 2 [l0, cln l1, some (.int x)] st M := e_st1 d34_1 rfl rfl rfl rfl rfl rfl rfl (Nat.le_of_ble_eq_true rfl) rfl
theorem d34_2 : decode (cod 34) 2 = .ok (.iload_n 2, 1) := by decide +kernel
theorem s34_2 {M : Mm} {st : List Value} {l0 l1 : Option Value} {x : Int32} : EE 34 2 [l0, l1, some (.int x)] st M = EE 34 3 [l0, l1, some (.int x)] (.int x :: st) M := e_ld d34_2 rfl rfl rfl rfl rfl rfl
theorem d34_3 : decode (cod 34) 3 = .ok (.bipush 10, 2) := by decide +kernel
theorem s34_3 {M : Mm} {st : List Value} {l0 l1 l2 : Option Value} : EE 34 3 [l0, l1, l2] st M = EE 34 5 [l0, l1, l2] (.int (nI 10) :: st) M := e_bip d34_3 k_bip_10
theorem d34_5 : decode (cod 34) 5 = .ok (.if_icmp .ge 31, 3) := by decide +kernel
theorem s34_5 {M : Mm} {st : List Value} {l0 l1 l2 : Option Value} {x y : Int32} : EE 34 5 [l0, l1, l2] (.int y :: .int x :: st) M = if y ≤ x then EE 34 36 [l0, l1, l2] st M else EE 34 8 [l0, l1, l2] st M := e_cge d34_5 (by decide)
theorem d34_8 : decode (cod 34) 8 = .ok (.aload_n 1, 1) := by decide +kernel
theorem s34_8 {M : Mm} {st : List Value} {l0 l2 : Option Value} {x : Nat} : EE 34 8 [l0, some (.ref x), l2] st M = EE 34 9 [l0, some (.ref x), l2] (.ref x :: st) M := e_ld d34_8 rfl rfl rfl rfl rfl rfl
theorem d34_9 : decode (cod 34) 9 = .ok (.iload_n 2, 1) := by decide +kernel
theorem s34_9 {M : Mm} {st : List Value} {l0 l1 : Option Value} {x : Int32} : EE 34 9 [l0, l1, some (.int x)] st M = EE 34 10 [l0, l1, some (.int x)] (.int x :: st) M := e_ld d34_9 rfl rfl rfl rfl rfl rfl
theorem d34_10 : decode (cod 34) 10 = .ok (.dup2, 1) := by decide +kernel
theorem s34_10 {M : Mm} {st : List Value} {l0 l1 l2 : Option Value} {x : Int32} {y : Nat} : EE 34 10 [l0, l1, l2] (.int x :: .ref y :: st) M = EE 34 11 [l0, l1, l2] (.int x :: .ref y :: .int x :: .ref y :: st) M := e_dup2 d34_10 rfl rfl
theorem d34_11 : decode (cod 34) 11 = .ok (.iaload, 1) := by decide +kernel
theorem s34_11 {n : Nat} {I : Nat → Nat → Int32} {R : Nat → Nat → Option Nat} {st : List Value} {l0 l1 l2 : Option Value} {j : Int32} {a : Nat} : EE 34 11 [l0, l1, l2] (.int j :: .ref a :: st) (n, I, R) = (ardI 5 n I a j).bind (fun z => EE 34 12 [l0, l1, l2] (.int z :: st) (n, I, R)) := e_iald d34_11
theorem d34_12 : decode (cod 34) 12 = .ok (.aload_n 1, 1) := by decide +kernel
theorem s34_12 {M : Mm} {st : List Value} {l0 l2 : Option Value} {x : Nat} : EE 34 12 [l0, some (.ref x), l2] st M = EE 34 13 [l0, some (.ref x), l2] (.ref x :: st) M := e_ld d34_12 rfl rfl rfl rfl rfl rfl
theorem d34_13 : decode (cod 34) 13 = .ok (.iload_n 2, 1) := by decide +kernel
theorem s34_13 {M : Mm} {st : List Value} {l0 l1 : Option Value} {x : Int32} : EE 34 13 [l0, l1, some (.int x)] st M = EE 34 14 [l0, l1, some (.int x)] (.int x :: st) M := e_ld d34_13 rfl rfl rfl rfl rfl rfl
theorem d34_14 : decode (cod 34) 14 = .ok (.iaload, 1) := by decide +kernel
theorem s34_14 {n : Nat} {I : Nat → Nat → Int32} {R : Nat → Nat → Option Nat} {st : List Value} {l0 l1 l2 : Option Value} {j : Int32} {a : Nat} : EE 34 14 [l0, l1, l2] (.int j :: .ref a :: st) (n, I, R) = (ardI 5 n I a j).bind (fun z => EE 34 15 [l0, l1, l2] (.int z :: st) (n, I, R)) := e_iald d34_14
theorem d34_15 : decode (cod 34) 15 = .ok (.aload_n 0, 1) := by decide +kernel
theorem s34_15 {M : Mm} {st : List Value} {l1 l2 : Option Value} {x : Nat} : EE 34 15 [some (.ref x), l1, l2] st M = EE 34 16 [some (.ref x), l1, l2] (.ref x :: st) M := e_ld d34_15 rfl rfl rfl rfl rfl rfl
theorem d34_16 : decode (cod 34) 16 = .ok (.getfield 9, 3) := by decide +kernel
theorem s34_16 {n : Nat} {I : Nat → Nat → Int32} {R : Nat → Nat → Option Nat} {st : List Value} {l0 l1 l2 : Option Value} {a : Nat} : EE 34 16 [l0, l1, l2] (.ref a :: st) (n, I, R) = (gfI n I R 1 0 a).bind (fun z => EE 34 19 [l0, l1, l2] (z :: st) (n, I, R)) := e_getf d34_16 f1_9 rfl rfl
theorem d34_19 : decode (cod 34) 19 = .ok (.iconst 2, 1) := by decide +kernel
theorem s34_19 {M : Mm} {st : List Value} {l0 l1 l2 : Option Value} : EE 34 19 [l0, l1, l2] st M = EE 34 20 [l0, l1, l2] (.int (nI 2) :: st) M := e_con d34_19 k_con_2
theorem d34_20 : decode (cod 34) 20 = .ok (.iaload, 1) := by decide +kernel
theorem s34_20 {n : Nat} {I : Nat → Nat → Int32} {R : Nat → Nat → Option Nat} {st : List Value} {l0 l1 l2 : Option Value} {j : Int32} {a : Nat} : EE 34 20 [l0, l1, l2] (.int j :: .ref a :: st) (n, I, R) = (ardI 5 n I a j).bind (fun z => EE 34 21 [l0, l1, l2] (.int z :: st) (n, I, R)) := e_iald d34_20
theorem d34_21 : decode (cod 34) 21 = .ok (.imul, 1) := by decide +kernel
theorem s34_21 {M : Mm} {st : List Value} {l0 l1 l2 : Option Value} {x y : Int32} : EE 34 21 [l0, l1, l2] (.int y :: .int x :: st) M = EE 34 22 [l0, l1, l2] (.int (x * y) :: st) M := e_II d34_21 rfl rfl rfl rfl rfl rfl
theorem d34_22 : decode (cod 34) 22 = .ok (.bipush 99, 2) := by decide +kernel
theorem s34_22 {M : Mm} {st : List Value} {l0 l1 l2 : Option Value} : EE 34 22 [l0, l1, l2] st M = EE 34 24 [l0, l1, l2] (.int (nI 99) :: st) M := e_bip d34_22 k_bip_99
theorem d34_24 : decode (cod 34) 24 = .ok (.iadd, 1) := by decide +kernel
theorem s34_24 {M : Mm} {st : List Value} {l0 l1 l2 : Option Value} {x y : Int32} : EE 34 24 [l0, l1, l2] (.int y :: .int x :: st) M = EE 34 25 [l0, l1, l2] (.int (x + y) :: st) M := e_II d34_24 rfl rfl rfl rfl rfl rfl
theorem d34_25 : decode (cod 34) 25 = .ok (.bipush 100, 2) := by decide +kernel
theorem s34_25 {M : Mm} {st : List Value} {l0 l1 l2 : Option Value} : EE 34 25 [l0, l1, l2] st M = EE 34 27 [l0, l1, l2] (.int (nI 100) :: st) M := e_bip d34_25 k_bip_100
theorem d34_27 : decode (cod 34) 27 = .ok (.idiv, 1) := by decide +kernel
theorem s34_27 {M : Mm} {st : List Value} {l0 l1 l2 : Option Value} {x y : Nat} (h1 : x < 2 ^ 31) (h2 : 0 < y) (h3 : y < 2 ^ 31) : EE 34 27 [l0, l1, l2] (.int (nI y) :: .int (nI x) :: st) M = EE 34 28 [l0, l1, l2] (.int (nI (x / y)) :: st) M := e_divN d34_27 h1 h2 h3
theorem d34_28 : decode (cod 34) 28 = .ok (.isub, 1) := by decide +kernel
theorem s34_28 {M : Mm} {st : List Value} {l0 l1 l2 : Option Value} {x y : Int32} : EE 34 28 [l0, l1, l2] (.int y :: .int x :: st) M = EE 34 29 [l0, l1, l2] (.int (x - y) :: st) M := e_II d34_28 rfl rfl rfl rfl rfl rfl
theorem d34_29 : decode (cod 34) 29 = .ok (.iastore, 1) := by decide +kernel
theorem s34_29 {n : Nat} {I : Nat → Nat → Int32} {R : Nat → Nat → Option Nat} {st : List Value} {l0 l1 l2 : Option Value} {j x : Int32} {a : Nat} (h : acI 5 n a j) : EE 34 29 [l0, l1, l2] (.int x :: .int j :: .ref a :: st) (n, I, R) = EE 34 30 [l0, l1, l2] st (n, wI I a j.toNatClampNeg x, R) := e_iast d34_29 h
theorem d34_30 : decode (cod 34) 30 = .ok (.iinc 2 1, 3) := by decide +kernel
theorem s34_30 {M : Mm} {st : List Value} {l0 l1 : Option Value} {x : Int32} : EE 34 30 [l0, l1, some (.int x)] st M = EE 34 33 [l0, cln l1, some (.int (x + nI 1))] st M := e_iinc d34_30 rfl (congrArg (fun z => x + z) k_inc_1) rfl
theorem d34_33 : decode (cod 34) 33 = .ok (.goto (-31), 3) := by decide +kernel
theorem s34_33 {M : Mm} {st : List Value} {l0 l1 l2 : Option Value} : EE 34 33 [l0, l1, l2] st M = EE 34 2 [l0, l1, l2] st M := e_goto d34_33 (by decide)
theorem d34_36 : decode (cod 34) 36 = .ok (.return_, 1) := by decide +kernel
theorem s34_36 {M : Mm} {l0 l1 l2 : Option Value} : EE 34 36 [l0, l1, l2] [] M = some (none, M) := e_vret d34_36 rfl
theorem FE34 {a : Nat} {b0 : Nat} {M : Mm} : FF 34 [.ref a, .ref b0] M = EE 34 0 [some (.ref a), some (.ref b0), none] [] M := FF_eq 34 _ _ (Nat.le_of_ble_eq_true rfl)
theorem d35_0 : decode (cod 35) 0 = .ok (.iconst 0, 1) := by decide +kernel
theorem s35_0 {M : Mm} {st : List Value} {l0 l1 l2 : Option Value} : EE 35 0 [l0, l1, l2] st M = EE 35 1 [l0, l1, l2] (.int (nI 0) :: st) M := e_con d35_0 k_con_0
theorem d35_1 : decode (cod 35) 1 = .ok (.istore_n 2, 1) := by decide +kernel
theorem s35_1 {M : Mm} {st : List Value} {l0 l1 l2 : Option Value} {x : Int32} : EE 35 1 [l0, l1, l2] (.int x :: st) M = EE 35 2 [l0, cln l1, some (.int x)] st M := e_st1 d35_1 rfl rfl rfl rfl rfl rfl rfl (Nat.le_of_ble_eq_true rfl) rfl
theorem d35_2 : decode (cod 35) 2 = .ok (.iload_n 2, 1) := by decide +kernel
theorem s35_2 {M : Mm} {st : List Value} {l0 l1 : Option Value} {x : Int32} : EE 35 2 [l0, l1, some (.int x)] st M = EE 35 3 [l0, l1, some (.int x)] (.int x :: st) M := e_ld d35_2 rfl rfl rfl rfl rfl rfl
theorem d35_3 : decode (cod 35) 3 = .ok (.aload_n 0, 1) := by decide +kernel
theorem s35_3 {M : Mm} {st : List Value} {l1 l2 : Option Value} {x : Nat} : EE 35 3 [some (.ref x), l1, l2] st M = EE 35 4 [some (.ref x), l1, l2] (.ref x :: st) M := e_ld d35_3 rfl rfl rfl rfl rfl rfl
theorem d35_4 : decode (cod 35) 4 = .ok (.getfield 47, 3) := by decide +kernel
theorem s35_4 {n : Nat} {I : Nat → Nat → Int32} {R : Nat → Nat → Option Nat} {st : List Value} {l0 l1 l2 : Option Value} {a : Nat} : EE 35 4 [l0, l1, l2] (.ref a :: st) (n, I, R) = (gfI n I R 1 8 a).bind (fun z => EE 35 7 [l0, l1, l2] (z :: st) (n, I, R)) := e_getf d35_4 f1_47 rfl rfl
theorem d35_7 : decode (cod 35) 7 = .ok (.if_icmp .ge 49, 3) := by decide +kernel
theorem s35_7 {M : Mm} {st : List Value} {l0 l1 l2 : Option Value} {x y : Int32} : EE 35 7 [l0, l1, l2] (.int y :: .int x :: st) M = if y ≤ x then EE 35 56 [l0, l1, l2] st M else EE 35 10 [l0, l1, l2] st M := e_cge d35_7 (by decide)
theorem d35_10 : decode (cod 35) 10 = .ok (.aload_n 0, 1) := by decide +kernel
theorem s35_10 {M : Mm} {st : List Value} {l1 l2 : Option Value} {x : Nat} : EE 35 10 [some (.ref x), l1, l2] st M = EE 35 11 [some (.ref x), l1, l2] (.ref x :: st) M := e_ld d35_10 rfl rfl rfl rfl rfl rfl
theorem d35_11 : decode (cod 35) 11 = .ok (.iload_n 2, 1) := by decide +kernel
theorem s35_11 {M : Mm} {st : List Value} {l0 l1 : Option Value} {x : Int32} : EE 35 11 [l0, l1, some (.int x)] st M = EE 35 12 [l0, l1, some (.int x)] (.int x :: st) M := e_ld d35_11 rfl rfl rfl rfl rfl rfl
theorem d35_12 : decode (cod 35) 12 = .ok (.invokevirtual 99, 3) := by decide +kernel
theorem s35_12 {l0 l1 l2 : Option Value} {a : Nat} {M : Mm} {b0 : Int32} {st : List Value} (hl : st.length ≤ 4) (ho : isO "HandoverDesk$State" M.1 a = true) : EE 35 12 [l0, l1, l2] (.int b0 :: .ref a :: st) M = (FF 19 (.ref a :: [.int b0]) M).bind (fun z => EE 35 15 [l0, l1, l2] (psh z.1 st) z.2) := e_calv (av := [.int b0]) d35_12 c1_99 rfl rfl rfl r35_19 rfl hl ho
theorem d35_15 : decode (cod 35) 15 = .ok (.ifCond .eq 35, 3) := by decide +kernel
theorem s35_15 {M : Mm} {st : List Value} {l0 l1 l2 : Option Value} {x : Int32} : EE 35 15 [l0, l1, l2] (.int x :: st) M = if x = 0 then EE 35 50 [l0, l1, l2] st M else EE 35 18 [l0, l1, l2] st M := e_eq0 d35_15 (by decide)
theorem d35_18 : decode (cod 35) 18 = .ok (.aload_n 0, 1) := by decide +kernel
theorem s35_18 {M : Mm} {st : List Value} {l1 l2 : Option Value} {x : Nat} : EE 35 18 [some (.ref x), l1, l2] st M = EE 35 19 [some (.ref x), l1, l2] (.ref x :: st) M := e_ld d35_18 rfl rfl rfl rfl rfl rfl
theorem d35_19 : decode (cod 35) 19 = .ok (.getfield 41, 3) := by decide +kernel
theorem s35_19 {n : Nat} {I : Nat → Nat → Int32} {R : Nat → Nat → Option Nat} {st : List Value} {l0 l1 l2 : Option Value} {a : Nat} : EE 35 19 [l0, l1, l2] (.ref a :: st) (n, I, R) = (gfI n I R 1 6 a).bind (fun z => EE 35 22 [l0, l1, l2] (z :: st) (n, I, R)) := e_getf d35_19 f1_41 rfl rfl
theorem d35_22 : decode (cod 35) 22 = .ok (.iload_n 2, 1) := by decide +kernel
theorem s35_22 {M : Mm} {st : List Value} {l0 l1 : Option Value} {x : Int32} : EE 35 22 [l0, l1, some (.int x)] st M = EE 35 23 [l0, l1, some (.int x)] (.int x :: st) M := e_ld d35_22 rfl rfl rfl rfl rfl rfl
theorem d35_23 : decode (cod 35) 23 = .ok (.dup2, 1) := by decide +kernel
theorem s35_23 {M : Mm} {st : List Value} {l0 l1 l2 : Option Value} {x : Int32} {y : Nat} : EE 35 23 [l0, l1, l2] (.int x :: .ref y :: st) M = EE 35 24 [l0, l1, l2] (.int x :: .ref y :: .int x :: .ref y :: st) M := e_dup2 d35_23 rfl rfl
theorem d35_24 : decode (cod 35) 24 = .ok (.iaload, 1) := by decide +kernel
theorem s35_24 {n : Nat} {I : Nat → Nat → Int32} {R : Nat → Nat → Option Nat} {st : List Value} {l0 l1 l2 : Option Value} {j : Int32} {a : Nat} : EE 35 24 [l0, l1, l2] (.int j :: .ref a :: st) (n, I, R) = (ardI 5 n I a j).bind (fun z => EE 35 25 [l0, l1, l2] (.int z :: st) (n, I, R)) := e_iald d35_24
theorem d35_25 : decode (cod 35) 25 = .ok (.iconst 1, 1) := by decide +kernel
theorem s35_25 {M : Mm} {st : List Value} {l0 l1 l2 : Option Value} : EE 35 25 [l0, l1, l2] st M = EE 35 26 [l0, l1, l2] (.int (nI 1) :: st) M := e_con d35_25 k_con_1
theorem d35_26 : decode (cod 35) 26 = .ok (.iadd, 1) := by decide +kernel
theorem s35_26 {M : Mm} {st : List Value} {l0 l1 l2 : Option Value} {x y : Int32} : EE 35 26 [l0, l1, l2] (.int y :: .int x :: st) M = EE 35 27 [l0, l1, l2] (.int (x + y) :: st) M := e_II d35_26 rfl rfl rfl rfl rfl rfl
theorem d35_27 : decode (cod 35) 27 = .ok (.iastore, 1) := by decide +kernel
theorem s35_27 {n : Nat} {I : Nat → Nat → Int32} {R : Nat → Nat → Option Nat} {st : List Value} {l0 l1 l2 : Option Value} {j x : Int32} {a : Nat} (h : acI 5 n a j) : EE 35 27 [l0, l1, l2] (.int x :: .int j :: .ref a :: st) (n, I, R) = EE 35 28 [l0, l1, l2] st (n, wI I a j.toNatClampNeg x, R) := e_iast d35_27 h
theorem d35_28 : decode (cod 35) 28 = .ok (.aload_n 1, 1) := by decide +kernel
theorem s35_28 {M : Mm} {st : List Value} {l0 l2 : Option Value} {x : Nat} : EE 35 28 [l0, some (.ref x), l2] st M = EE 35 29 [l0, some (.ref x), l2] (.ref x :: st) M := e_ld d35_28 rfl rfl rfl rfl rfl rfl
theorem d35_29 : decode (cod 35) 29 = .ok (.iload_n 2, 1) := by decide +kernel
theorem s35_29 {M : Mm} {st : List Value} {l0 l1 : Option Value} {x : Int32} : EE 35 29 [l0, l1, some (.int x)] st M = EE 35 30 [l0, l1, some (.int x)] (.int x :: st) M := e_ld d35_29 rfl rfl rfl rfl rfl rfl
theorem d35_30 : decode (cod 35) 30 = .ok (.iaload, 1) := by decide +kernel
theorem s35_30 {n : Nat} {I : Nat → Nat → Int32} {R : Nat → Nat → Option Nat} {st : List Value} {l0 l1 l2 : Option Value} {j : Int32} {a : Nat} : EE 35 30 [l0, l1, l2] (.int j :: .ref a :: st) (n, I, R) = (ardI 5 n I a j).bind (fun z => EE 35 31 [l0, l1, l2] (.int z :: st) (n, I, R)) := e_iald d35_30
theorem d35_31 : decode (cod 35) 31 = .ok (.aload_n 0, 1) := by decide +kernel
theorem s35_31 {M : Mm} {st : List Value} {l1 l2 : Option Value} {x : Nat} : EE 35 31 [some (.ref x), l1, l2] st M = EE 35 32 [some (.ref x), l1, l2] (.ref x :: st) M := e_ld d35_31 rfl rfl rfl rfl rfl rfl
theorem d35_32 : decode (cod 35) 32 = .ok (.getfield 9, 3) := by decide +kernel
theorem s35_32 {n : Nat} {I : Nat → Nat → Int32} {R : Nat → Nat → Option Nat} {st : List Value} {l0 l1 l2 : Option Value} {a : Nat} : EE 35 32 [l0, l1, l2] (.ref a :: st) (n, I, R) = (gfI n I R 1 0 a).bind (fun z => EE 35 35 [l0, l1, l2] (z :: st) (n, I, R)) := e_getf d35_32 f1_9 rfl rfl
theorem d35_35 : decode (cod 35) 35 = .ok (.iconst 0, 1) := by decide +kernel
theorem s35_35 {M : Mm} {st : List Value} {l0 l1 l2 : Option Value} : EE 35 35 [l0, l1, l2] st M = EE 35 36 [l0, l1, l2] (.int (nI 0) :: st) M := e_con d35_35 k_con_0
theorem d35_36 : decode (cod 35) 36 = .ok (.iaload, 1) := by decide +kernel
theorem s35_36 {n : Nat} {I : Nat → Nat → Int32} {R : Nat → Nat → Option Nat} {st : List Value} {l0 l1 l2 : Option Value} {j : Int32} {a : Nat} : EE 35 36 [l0, l1, l2] (.int j :: .ref a :: st) (n, I, R) = (ardI 5 n I a j).bind (fun z => EE 35 37 [l0, l1, l2] (.int z :: st) (n, I, R)) := e_iald d35_36
theorem d35_37 : decode (cod 35) 37 = .ok (.if_icmp .lt 13, 3) := by decide +kernel
theorem s35_37 {M : Mm} {st : List Value} {l0 l1 l2 : Option Value} {x y : Int32} : EE 35 37 [l0, l1, l2] (.int y :: .int x :: st) M = if x < y then EE 35 50 [l0, l1, l2] st M else EE 35 40 [l0, l1, l2] st M := e_clt d35_37 (by decide)
theorem d35_40 : decode (cod 35) 40 = .ok (.aload_n 0, 1) := by decide +kernel
theorem s35_40 {M : Mm} {st : List Value} {l1 l2 : Option Value} {x : Nat} : EE 35 40 [some (.ref x), l1, l2] st M = EE 35 41 [some (.ref x), l1, l2] (.ref x :: st) M := e_ld d35_40 rfl rfl rfl rfl rfl rfl
theorem d35_41 : decode (cod 35) 41 = .ok (.getfield 44, 3) := by decide +kernel
theorem s35_41 {n : Nat} {I : Nat → Nat → Int32} {R : Nat → Nat → Option Nat} {st : List Value} {l0 l1 l2 : Option Value} {a : Nat} : EE 35 41 [l0, l1, l2] (.ref a :: st) (n, I, R) = (gfI n I R 1 7 a).bind (fun z => EE 35 44 [l0, l1, l2] (z :: st) (n, I, R)) := e_getf d35_41 f1_44 rfl rfl
theorem d35_44 : decode (cod 35) 44 = .ok (.iload_n 2, 1) := by decide +kernel
theorem s35_44 {M : Mm} {st : List Value} {l0 l1 : Option Value} {x : Int32} : EE 35 44 [l0, l1, some (.int x)] st M = EE 35 45 [l0, l1, some (.int x)] (.int x :: st) M := e_ld d35_44 rfl rfl rfl rfl rfl rfl
theorem d35_45 : decode (cod 35) 45 = .ok (.dup2, 1) := by decide +kernel
theorem s35_45 {M : Mm} {st : List Value} {l0 l1 l2 : Option Value} {x : Int32} {y : Nat} : EE 35 45 [l0, l1, l2] (.int x :: .ref y :: st) M = EE 35 46 [l0, l1, l2] (.int x :: .ref y :: .int x :: .ref y :: st) M := e_dup2 d35_45 rfl rfl
theorem d35_46 : decode (cod 35) 46 = .ok (.iaload, 1) := by decide +kernel
theorem s35_46 {n : Nat} {I : Nat → Nat → Int32} {R : Nat → Nat → Option Nat} {st : List Value} {l0 l1 l2 : Option Value} {j : Int32} {a : Nat} : EE 35 46 [l0, l1, l2] (.int j :: .ref a :: st) (n, I, R) = (ardI 5 n I a j).bind (fun z => EE 35 47 [l0, l1, l2] (.int z :: st) (n, I, R)) := e_iald d35_46
theorem d35_47 : decode (cod 35) 47 = .ok (.iconst 1, 1) := by decide +kernel
theorem s35_47 {M : Mm} {st : List Value} {l0 l1 l2 : Option Value} : EE 35 47 [l0, l1, l2] st M = EE 35 48 [l0, l1, l2] (.int (nI 1) :: st) M := e_con d35_47 k_con_1
theorem d35_48 : decode (cod 35) 48 = .ok (.iadd, 1) := by decide +kernel
theorem s35_48 {M : Mm} {st : List Value} {l0 l1 l2 : Option Value} {x y : Int32} : EE 35 48 [l0, l1, l2] (.int y :: .int x :: st) M = EE 35 49 [l0, l1, l2] (.int (x + y) :: st) M := e_II d35_48 rfl rfl rfl rfl rfl rfl
theorem d35_49 : decode (cod 35) 49 = .ok (.iastore, 1) := by decide +kernel
theorem s35_49 {n : Nat} {I : Nat → Nat → Int32} {R : Nat → Nat → Option Nat} {st : List Value} {l0 l1 l2 : Option Value} {j x : Int32} {a : Nat} (h : acI 5 n a j) : EE 35 49 [l0, l1, l2] (.int x :: .int j :: .ref a :: st) (n, I, R) = EE 35 50 [l0, l1, l2] st (n, wI I a j.toNatClampNeg x, R) := e_iast d35_49 h
theorem d35_50 : decode (cod 35) 50 = .ok (.iinc 2 1, 3) := by decide +kernel
theorem s35_50 {M : Mm} {st : List Value} {l0 l1 : Option Value} {x : Int32} : EE 35 50 [l0, l1, some (.int x)] st M = EE 35 53 [l0, cln l1, some (.int (x + nI 1))] st M := e_iinc d35_50 rfl (congrArg (fun z => x + z) k_inc_1) rfl
theorem d35_53 : decode (cod 35) 53 = .ok (.goto (-51), 3) := by decide +kernel
theorem s35_53 {M : Mm} {st : List Value} {l0 l1 l2 : Option Value} : EE 35 53 [l0, l1, l2] st M = EE 35 2 [l0, l1, l2] st M := e_goto d35_53 (by decide)
theorem d35_56 : decode (cod 35) 56 = .ok (.return_, 1) := by decide +kernel
theorem s35_56 {M : Mm} {l0 l1 l2 : Option Value} : EE 35 56 [l0, l1, l2] [] M = some (none, M) := e_vret d35_56 rfl
theorem FE35 {a : Nat} {b0 : Nat} {M : Mm} : FF 35 [.ref a, .ref b0] M = EE 35 0 [some (.ref a), some (.ref b0), none] [] M := FF_eq 35 _ _ (Nat.le_of_ble_eq_true rfl)
theorem d36_0 : decode (cod 36) 0 = .ok (.iconst 0, 1) := by decide +kernel
theorem s36_0 {M : Mm} {st : List Value} {l0 l1 l2 l3 l4 : Option Value} : EE 36 0 [l0, l1, l2, l3, l4] st M = EE 36 1 [l0, l1, l2, l3, l4] (.int (nI 0) :: st) M := e_con d36_0 k_con_0
theorem d36_1 : decode (cod 36) 1 = .ok (.istore_n 2, 1) := by decide +kernel
theorem s36_1 {M : Mm} {st : List Value} {l0 l1 l2 l3 l4 : Option Value} {x : Int32} : EE 36 1 [l0, l1, l2, l3, l4] (.int x :: st) M = EE 36 2 [l0, cln l1, some (.int x), l3, l4] st M := e_st1 d36_1 rfl rfl rfl rfl rfl rfl rfl (Nat.le_of_ble_eq_true rfl) rfl
theorem d36_2 : decode (cod 36) 2 = .ok (.iconst 0, 1) := by decide +kernel
theorem s36_2 {M : Mm} {st : List Value} {l0 l1 l2 l3 l4 : Option Value} : EE 36 2 [l0, l1, l2, l3, l4] st M = EE 36 3 [l0, l1, l2, l3, l4] (.int (nI 0) :: st) M := e_con d36_2 k_con_0
theorem d36_3 : decode (cod 36) 3 = .ok (.istore_n 3, 1) := by decide +kernel
theorem s36_3 {M : Mm} {st : List Value} {l0 l1 l2 l3 l4 : Option Value} {x : Int32} : EE 36 3 [l0, l1, l2, l3, l4] (.int x :: st) M = EE 36 4 [l0, l1, cln l2, some (.int x), l4] st M := e_st1 d36_3 rfl rfl rfl rfl rfl rfl rfl (Nat.le_of_ble_eq_true rfl) rfl
theorem d36_4 : decode (cod 36) 4 = .ok (.iload_n 3, 1) := by decide +kernel
theorem s36_4 {M : Mm} {st : List Value} {l0 l1 l2 l4 : Option Value} {x : Int32} : EE 36 4 [l0, l1, l2, some (.int x), l4] st M = EE 36 5 [l0, l1, l2, some (.int x), l4] (.int x :: st) M := e_ld d36_4 rfl rfl rfl rfl rfl rfl
theorem d36_5 : decode (cod 36) 5 = .ok (.aload_n 0, 1) := by decide +kernel
theorem s36_5 {M : Mm} {st : List Value} {l1 l2 l3 l4 : Option Value} {x : Nat} : EE 36 5 [some (.ref x), l1, l2, l3, l4] st M = EE 36 6 [some (.ref x), l1, l2, l3, l4] (.ref x :: st) M := e_ld d36_5 rfl rfl rfl rfl rfl rfl
theorem d36_6 : decode (cod 36) 6 = .ok (.getfield 54, 3) := by decide +kernel
theorem s36_6 {n : Nat} {I : Nat → Nat → Int32} {R : Nat → Nat → Option Nat} {st : List Value} {l0 l1 l2 l3 l4 : Option Value} {a : Nat} : EE 36 6 [l0, l1, l2, l3, l4] (.ref a :: st) (n, I, R) = (gfI n I R 1 10 a).bind (fun z => EE 36 9 [l0, l1, l2, l3, l4] (z :: st) (n, I, R)) := e_getf d36_6 f1_54 rfl rfl
theorem d36_9 : decode (cod 36) 9 = .ok (.if_icmp .ge 53, 3) := by decide +kernel
theorem s36_9 {M : Mm} {st : List Value} {l0 l1 l2 l3 l4 : Option Value} {x y : Int32} : EE 36 9 [l0, l1, l2, l3, l4] (.int y :: .int x :: st) M = if y ≤ x then EE 36 62 [l0, l1, l2, l3, l4] st M else EE 36 12 [l0, l1, l2, l3, l4] st M := e_cge d36_9 (by decide)
theorem d36_12 : decode (cod 36) 12 = .ok (.aload_n 0, 1) := by decide +kernel
theorem s36_12 {M : Mm} {st : List Value} {l1 l2 l3 l4 : Option Value} {x : Nat} : EE 36 12 [some (.ref x), l1, l2, l3, l4] st M = EE 36 13 [some (.ref x), l1, l2, l3, l4] (.ref x :: st) M := e_ld d36_12 rfl rfl rfl rfl rfl rfl
theorem d36_13 : decode (cod 36) 13 = .ok (.getfield 35, 3) := by decide +kernel
theorem s36_13 {n : Nat} {I : Nat → Nat → Int32} {R : Nat → Nat → Option Nat} {st : List Value} {l0 l1 l2 l3 l4 : Option Value} {a : Nat} : EE 36 13 [l0, l1, l2, l3, l4] (.ref a :: st) (n, I, R) = (gfI n I R 1 4 a).bind (fun z => EE 36 16 [l0, l1, l2, l3, l4] (z :: st) (n, I, R)) := e_getf d36_13 f1_35 rfl rfl
theorem d36_16 : decode (cod 36) 16 = .ok (.iload_n 3, 1) := by decide +kernel
theorem s36_16 {M : Mm} {st : List Value} {l0 l1 l2 l4 : Option Value} {x : Int32} : EE 36 16 [l0, l1, l2, some (.int x), l4] st M = EE 36 17 [l0, l1, l2, some (.int x), l4] (.int x :: st) M := e_ld d36_16 rfl rfl rfl rfl rfl rfl
theorem d36_17 : decode (cod 36) 17 = .ok (.iaload, 1) := by decide +kernel
theorem s36_17 {n : Nat} {I : Nat → Nat → Int32} {R : Nat → Nat → Option Nat} {st : List Value} {l0 l1 l2 l3 l4 : Option Value} {j : Int32} {a : Nat} : EE 36 17 [l0, l1, l2, l3, l4] (.int j :: .ref a :: st) (n, I, R) = (ardI 5 n I a j).bind (fun z => EE 36 18 [l0, l1, l2, l3, l4] (.int z :: st) (n, I, R)) := e_iald d36_17
theorem d36_18 : decode (cod 36) 18 = .ok (.istore 4, 2) := by decide +kernel
theorem s36_18 {M : Mm} {st : List Value} {l0 l1 l2 l3 l4 : Option Value} {x : Int32} : EE 36 18 [l0, l1, l2, l3, l4] (.int x :: st) M = EE 36 20 [l0, l1, l2, cln l3, some (.int x)] st M := e_st1 d36_18 rfl rfl rfl rfl rfl rfl rfl (Nat.le_of_ble_eq_true rfl) rfl
theorem d36_20 : decode (cod 36) 20 = .ok (.aload_n 0, 1) := by decide +kernel
theorem s36_20 {M : Mm} {st : List Value} {l1 l2 l3 l4 : Option Value} {x : Nat} : EE 36 20 [some (.ref x), l1, l2, l3, l4] st M = EE 36 21 [some (.ref x), l1, l2, l3, l4] (.ref x :: st) M := e_ld d36_20 rfl rfl rfl rfl rfl rfl
theorem d36_21 : decode (cod 36) 21 = .ok (.iload 4, 2) := by decide +kernel
theorem s36_21 {M : Mm} {st : List Value} {l0 l1 l2 l3 : Option Value} {x : Int32} : EE 36 21 [l0, l1, l2, l3, some (.int x)] st M = EE 36 23 [l0, l1, l2, l3, some (.int x)] (.int x :: st) M := e_ld d36_21 rfl rfl rfl rfl rfl rfl
theorem d36_23 : decode (cod 36) 23 = .ok (.invokevirtual 99, 3) := by decide +kernel
theorem s36_23 {l0 l1 l2 l3 l4 : Option Value} {a : Nat} {M : Mm} {b0 : Int32} {st : List Value} (hl : st.length ≤ 4) (ho : isO "HandoverDesk$State" M.1 a = true) : EE 36 23 [l0, l1, l2, l3, l4] (.int b0 :: .ref a :: st) M = (FF 19 (.ref a :: [.int b0]) M).bind (fun z => EE 36 26 [l0, l1, l2, l3, l4] (psh z.1 st) z.2) := e_calv (av := [.int b0]) d36_23 c1_99 rfl rfl rfl r36_19 rfl hl ho
theorem d36_26 : decode (cod 36) 26 = .ok (.ifCond .eq 30, 3) := by decide +kernel
theorem s36_26 {M : Mm} {st : List Value} {l0 l1 l2 l3 l4 : Option Value} {x : Int32} : EE 36 26 [l0, l1, l2, l3, l4] (.int x :: st) M = if x = 0 then EE 36 56 [l0, l1, l2, l3, l4] st M else EE 36 29 [l0, l1, l2, l3, l4] st M := e_eq0 d36_26 (by decide)
theorem d36_29 : decode (cod 36) 29 = .ok (.aload_n 1, 1) := by decide +kernel
theorem s36_29 {M : Mm} {st : List Value} {l0 l2 l3 l4 : Option Value} {x : Nat} : EE 36 29 [l0, some (.ref x), l2, l3, l4] st M = EE 36 30 [l0, some (.ref x), l2, l3, l4] (.ref x :: st) M := e_ld d36_29 rfl rfl rfl rfl rfl rfl
theorem d36_30 : decode (cod 36) 30 = .ok (.iload 4, 2) := by decide +kernel
theorem s36_30 {M : Mm} {st : List Value} {l0 l1 l2 l3 : Option Value} {x : Int32} : EE 36 30 [l0, l1, l2, l3, some (.int x)] st M = EE 36 32 [l0, l1, l2, l3, some (.int x)] (.int x :: st) M := e_ld d36_30 rfl rfl rfl rfl rfl rfl
theorem d36_32 : decode (cod 36) 32 = .ok (.iaload, 1) := by decide +kernel
theorem s36_32 {n : Nat} {I : Nat → Nat → Int32} {R : Nat → Nat → Option Nat} {st : List Value} {l0 l1 l2 l3 l4 : Option Value} {j : Int32} {a : Nat} : EE 36 32 [l0, l1, l2, l3, l4] (.int j :: .ref a :: st) (n, I, R) = (ardI 5 n I a j).bind (fun z => EE 36 33 [l0, l1, l2, l3, l4] (.int z :: st) (n, I, R)) := e_iald d36_32
theorem d36_33 : decode (cod 36) 33 = .ok (.aload_n 0, 1) := by decide +kernel
theorem s36_33 {M : Mm} {st : List Value} {l1 l2 l3 l4 : Option Value} {x : Nat} : EE 36 33 [some (.ref x), l1, l2, l3, l4] st M = EE 36 34 [some (.ref x), l1, l2, l3, l4] (.ref x :: st) M := e_ld d36_33 rfl rfl rfl rfl rfl rfl
theorem d36_34 : decode (cod 36) 34 = .ok (.getfield 9, 3) := by decide +kernel
theorem s36_34 {n : Nat} {I : Nat → Nat → Int32} {R : Nat → Nat → Option Nat} {st : List Value} {l0 l1 l2 l3 l4 : Option Value} {a : Nat} : EE 36 34 [l0, l1, l2, l3, l4] (.ref a :: st) (n, I, R) = (gfI n I R 1 0 a).bind (fun z => EE 36 37 [l0, l1, l2, l3, l4] (z :: st) (n, I, R)) := e_getf d36_34 f1_9 rfl rfl
theorem d36_37 : decode (cod 36) 37 = .ok (.iconst 0, 1) := by decide +kernel
theorem s36_37 {M : Mm} {st : List Value} {l0 l1 l2 l3 l4 : Option Value} : EE 36 37 [l0, l1, l2, l3, l4] st M = EE 36 38 [l0, l1, l2, l3, l4] (.int (nI 0) :: st) M := e_con d36_37 k_con_0
theorem d36_38 : decode (cod 36) 38 = .ok (.iaload, 1) := by decide +kernel
theorem s36_38 {n : Nat} {I : Nat → Nat → Int32} {R : Nat → Nat → Option Nat} {st : List Value} {l0 l1 l2 l3 l4 : Option Value} {j : Int32} {a : Nat} : EE 36 38 [l0, l1, l2, l3, l4] (.int j :: .ref a :: st) (n, I, R) = (ardI 5 n I a j).bind (fun z => EE 36 39 [l0, l1, l2, l3, l4] (.int z :: st) (n, I, R)) := e_iald d36_38
theorem d36_39 : decode (cod 36) 39 = .ok (.if_icmp .ge 17, 3) := by decide +kernel
theorem s36_39 {M : Mm} {st : List Value} {l0 l1 l2 l3 l4 : Option Value} {x y : Int32} : EE 36 39 [l0, l1, l2, l3, l4] (.int y :: .int x :: st) M = if y ≤ x then EE 36 56 [l0, l1, l2, l3, l4] st M else EE 36 42 [l0, l1, l2, l3, l4] st M := e_cge d36_39 (by decide)
theorem d36_42 : decode (cod 36) 42 = .ok (.aload_n 0, 1) := by decide +kernel
theorem s36_42 {M : Mm} {st : List Value} {l1 l2 l3 l4 : Option Value} {x : Nat} : EE 36 42 [some (.ref x), l1, l2, l3, l4] st M = EE 36 43 [some (.ref x), l1, l2, l3, l4] (.ref x :: st) M := e_ld d36_42 rfl rfl rfl rfl rfl rfl
theorem d36_43 : decode (cod 36) 43 = .ok (.getfield 38, 3) := by decide +kernel
theorem s36_43 {n : Nat} {I : Nat → Nat → Int32} {R : Nat → Nat → Option Nat} {st : List Value} {l0 l1 l2 l3 l4 : Option Value} {a : Nat} : EE 36 43 [l0, l1, l2, l3, l4] (.ref a :: st) (n, I, R) = (gfI n I R 1 5 a).bind (fun z => EE 36 46 [l0, l1, l2, l3, l4] (z :: st) (n, I, R)) := e_getf d36_43 f1_38 rfl rfl
theorem d36_46 : decode (cod 36) 46 = .ok (.iload 4, 2) := by decide +kernel
theorem s36_46 {M : Mm} {st : List Value} {l0 l1 l2 l3 : Option Value} {x : Int32} : EE 36 46 [l0, l1, l2, l3, some (.int x)] st M = EE 36 48 [l0, l1, l2, l3, some (.int x)] (.int x :: st) M := e_ld d36_46 rfl rfl rfl rfl rfl rfl
theorem d36_48 : decode (cod 36) 48 = .ok (.dup2, 1) := by decide +kernel
theorem s36_48 {M : Mm} {st : List Value} {l0 l1 l2 l3 l4 : Option Value} {x : Int32} {y : Nat} : EE 36 48 [l0, l1, l2, l3, l4] (.int x :: .ref y :: st) M = EE 36 49 [l0, l1, l2, l3, l4] (.int x :: .ref y :: .int x :: .ref y :: st) M := e_dup2 d36_48 rfl rfl
theorem d36_49 : decode (cod 36) 49 = .ok (.iaload, 1) := by decide +kernel
theorem s36_49 {n : Nat} {I : Nat → Nat → Int32} {R : Nat → Nat → Option Nat} {st : List Value} {l0 l1 l2 l3 l4 : Option Value} {j : Int32} {a : Nat} : EE 36 49 [l0, l1, l2, l3, l4] (.int j :: .ref a :: st) (n, I, R) = (ardI 5 n I a j).bind (fun z => EE 36 50 [l0, l1, l2, l3, l4] (.int z :: st) (n, I, R)) := e_iald d36_49
theorem d36_50 : decode (cod 36) 50 = .ok (.iconst 1, 1) := by decide +kernel
theorem s36_50 {M : Mm} {st : List Value} {l0 l1 l2 l3 l4 : Option Value} : EE 36 50 [l0, l1, l2, l3, l4] st M = EE 36 51 [l0, l1, l2, l3, l4] (.int (nI 1) :: st) M := e_con d36_50 k_con_1
theorem d36_51 : decode (cod 36) 51 = .ok (.iadd, 1) := by decide +kernel
theorem s36_51 {M : Mm} {st : List Value} {l0 l1 l2 l3 l4 : Option Value} {x y : Int32} : EE 36 51 [l0, l1, l2, l3, l4] (.int y :: .int x :: st) M = EE 36 52 [l0, l1, l2, l3, l4] (.int (x + y) :: st) M := e_II d36_51 rfl rfl rfl rfl rfl rfl
theorem d36_52 : decode (cod 36) 52 = .ok (.iastore, 1) := by decide +kernel
theorem s36_52 {n : Nat} {I : Nat → Nat → Int32} {R : Nat → Nat → Option Nat} {st : List Value} {l0 l1 l2 l3 l4 : Option Value} {j x : Int32} {a : Nat} (h : acI 5 n a j) : EE 36 52 [l0, l1, l2, l3, l4] (.int x :: .int j :: .ref a :: st) (n, I, R) = EE 36 53 [l0, l1, l2, l3, l4] st (n, wI I a j.toNatClampNeg x, R) := e_iast d36_52 h
theorem d36_53 : decode (cod 36) 53 = .ok (.iinc 2 1, 3) := by decide +kernel
theorem s36_53 {M : Mm} {st : List Value} {l0 l1 l3 l4 : Option Value} {x : Int32} : EE 36 53 [l0, l1, some (.int x), l3, l4] st M = EE 36 56 [l0, cln l1, some (.int (x + nI 1)), l3, l4] st M := e_iinc d36_53 rfl (congrArg (fun z => x + z) k_inc_1) rfl
theorem d36_56 : decode (cod 36) 56 = .ok (.iinc 3 1, 3) := by decide +kernel
theorem s36_56 {M : Mm} {st : List Value} {l0 l1 l2 l4 : Option Value} {x : Int32} : EE 36 56 [l0, l1, l2, some (.int x), l4] st M = EE 36 59 [l0, l1, cln l2, some (.int (x + nI 1)), l4] st M := e_iinc d36_56 rfl (congrArg (fun z => x + z) k_inc_1) rfl
theorem d36_59 : decode (cod 36) 59 = .ok (.goto (-55), 3) := by decide +kernel
theorem s36_59 {M : Mm} {st : List Value} {l0 l1 l2 l3 l4 : Option Value} : EE 36 59 [l0, l1, l2, l3, l4] st M = EE 36 4 [l0, l1, l2, l3, l4] st M := e_goto d36_59 (by decide)
theorem d36_62 : decode (cod 36) 62 = .ok (.aload_n 0, 1) := by decide +kernel
theorem s36_62 {M : Mm} {st : List Value} {l1 l2 l3 l4 : Option Value} {x : Nat} : EE 36 62 [some (.ref x), l1, l2, l3, l4] st M = EE 36 63 [some (.ref x), l1, l2, l3, l4] (.ref x :: st) M := e_ld d36_62 rfl rfl rfl rfl rfl rfl
theorem d36_63 : decode (cod 36) 63 = .ok (.dup, 1) := by decide +kernel
theorem s36_63i {M : Mm} {st : List Value} {l0 l1 l2 l3 l4 : Option Value} {x : Int32} : EE 36 63 [l0, l1, l2, l3, l4] (.int x :: st) M = EE 36 64 [l0, l1, l2, l3, l4] (.int x :: .int x :: st) M := e_dup d36_63 rfl
theorem s36_63r {M : Mm} {st : List Value} {l0 l1 l2 l3 l4 : Option Value} {x : Nat} : EE 36 63 [l0, l1, l2, l3, l4] (.ref x :: st) M = EE 36 64 [l0, l1, l2, l3, l4] (.ref x :: .ref x :: st) M := e_dup d36_63 rfl
theorem d36_64 : decode (cod 36) 64 = .ok (.getfield 60, 3) := by decide +kernel
theorem s36_64 {n : Nat} {I : Nat → Nat → Int32} {R : Nat → Nat → Option Nat} {st : List Value} {l0 l1 l2 l3 l4 : Option Value} {a : Nat} : EE 36 64 [l0, l1, l2, l3, l4] (.ref a :: st) (n, I, R) = (gfI n I R 1 12 a).bind (fun z => EE 36 67 [l0, l1, l2, l3, l4] (z :: st) (n, I, R)) := e_getf d36_64 f1_60 rfl rfl
theorem d36_67 : decode (cod 36) 67 = .ok (.iload_n 2, 1) := by decide +kernel
theorem s36_67 {M : Mm} {st : List Value} {l0 l1 l3 l4 : Option Value} {x : Int32} : EE 36 67 [l0, l1, some (.int x), l3, l4] st M = EE 36 68 [l0, l1, some (.int x), l3, l4] (.int x :: st) M := e_ld d36_67 rfl rfl rfl rfl rfl rfl
theorem d36_68 : decode (cod 36) 68 = .ok (.iadd, 1) := by decide +kernel
theorem s36_68 {M : Mm} {st : List Value} {l0 l1 l2 l3 l4 : Option Value} {x y : Int32} : EE 36 68 [l0, l1, l2, l3, l4] (.int y :: .int x :: st) M = EE 36 69 [l0, l1, l2, l3, l4] (.int (x + y) :: st) M := e_II d36_68 rfl rfl rfl rfl rfl rfl
theorem d36_69 : decode (cod 36) 69 = .ok (.putfield 60, 3) := by decide +kernel
theorem s36_69 {n : Nat} {I : Nat → Nat → Int32} {R : Nat → Nat → Option Nat} {st : List Value} {l0 l1 l2 l3 l4 : Option Value} {a : Nat} {v : Value} : EE 36 69 [l0, l1, l2, l3, l4] (v :: .ref a :: st) (n, I, R) = (pfI n I R 1 12 a v).bind (fun z => EE 36 72 [l0, l1, l2, l3, l4] st (n, z.1, z.2)) := e_putf d36_69 f1_60 rfl rfl (Or.inr rfl)
theorem d36_72 : decode (cod 36) 72 = .ok (.iload_n 2, 1) := by decide +kernel
theorem s36_72 {M : Mm} {st : List Value} {l0 l1 l3 l4 : Option Value} {x : Int32} : EE 36 72 [l0, l1, some (.int x), l3, l4] st M = EE 36 73 [l0, l1, some (.int x), l3, l4] (.int x :: st) M := e_ld d36_72 rfl rfl rfl rfl rfl rfl
theorem d36_73 : decode (cod 36) 73 = .ok (.ireturn, 1) := by decide +kernel
theorem s36_73 {M : Mm} {l0 l1 l2 l3 l4 : Option Value} {v : Int32} : EE 36 73 [l0, l1, l2, l3, l4] [.int v] M = some (some (.int v), M) := e_iret d36_73 rfl rfl
theorem FE36 {a : Nat} {b0 : Nat} {M : Mm} : FF 36 [.ref a, .ref b0] M = EE 36 0 [some (.ref a), some (.ref b0), none, none, none] [] M := FF_eq 36 _ _ (Nat.le_of_ble_eq_true rfl)
theorem d37_0 : decode (cod 37) 0 = .ok (.aload_n 0, 1) := by decide +kernel
theorem s37_0 {M : Mm} {st : List Value} {l1 l2 : Option Value} {x : Nat} : EE 37 0 [some (.ref x), l1, l2] st M = EE 37 1 [some (.ref x), l1, l2] (.ref x :: st) M := e_ld d37_0 rfl rfl rfl rfl rfl rfl
theorem d37_1 : decode (cod 37) 1 = .ok (.aload_n 0, 1) := by decide +kernel
theorem s37_1 {M : Mm} {st : List Value} {l1 l2 : Option Value} {x : Nat} : EE 37 1 [some (.ref x), l1, l2] st M = EE 37 2 [some (.ref x), l1, l2] (.ref x :: st) M := e_ld d37_1 rfl rfl rfl rfl rfl rfl
theorem d37_2 : decode (cod 37) 2 = .ok (.invokevirtual 91, 3) := by decide +kernel
theorem s37_2 {l0 l1 l2 : Option Value} {a : Nat} {M : Mm} {st : List Value} (hl : st.length ≤ 4) (ho : isO "HandoverDesk$State" M.1 a = true) : EE 37 2 [l0, l1, l2] (.ref a :: st) M = (FF 26 (.ref a :: []) M).bind (fun z => EE 37 5 [l0, l1, l2] (psh z.1 st) z.2) := e_calv (av := []) d37_2 c1_91 rfl rfl rfl r37_26 rfl hl ho
theorem d37_5 : decode (cod 37) 5 = .ok (.iload_n 1, 1) := by decide +kernel
theorem s37_5 {M : Mm} {st : List Value} {l0 l2 : Option Value} {x : Int32} : EE 37 5 [l0, some (.int x), l2] st M = EE 37 6 [l0, some (.int x), l2] (.int x :: st) M := e_ld d37_5 rfl rfl rfl rfl rfl rfl
theorem d37_6 : decode (cod 37) 6 = .ok (.invokevirtual 95, 3) := by decide +kernel
theorem s37_6 {l0 l1 l2 : Option Value} {a : Nat} {M : Mm} {b0 : Int32} {b1 : Int32} {st : List Value} (hl : st.length ≤ 4) (ho : isO "HandoverDesk$State" M.1 a = true) : EE 37 6 [l0, l1, l2] (.int b1 :: .int b0 :: .ref a :: st) M = (FF 38 (.ref a :: [.int b0, .int b1]) M).bind (fun z => EE 37 9 [l0, l1, l2] (psh z.1 st) z.2) := e_calv (av := [.int b0, .int b1]) d37_6 c1_95 rfl rfl rfl r37_38 rfl hl ho
theorem d37_9 : decode (cod 37) 9 = .ok (.ifCond .eq 5, 3) := by decide +kernel
theorem s37_9 {M : Mm} {st : List Value} {l0 l1 l2 : Option Value} {x : Int32} : EE 37 9 [l0, l1, l2] (.int x :: st) M = if x = 0 then EE 37 14 [l0, l1, l2] st M else EE 37 12 [l0, l1, l2] st M := e_eq0 d37_9 (by decide)
theorem d37_12 : decode (cod 37) 12 = .ok (.iconst 0, 1) := by decide +kernel
theorem s37_12 {M : Mm} {st : List Value} {l0 l1 l2 : Option Value} : EE 37 12 [l0, l1, l2] st M = EE 37 13 [l0, l1, l2] (.int (nI 0) :: st) M := e_con d37_12 k_con_0
theorem d37_13 : decode (cod 37) 13 = .ok (.ireturn, 1) := by decide +kernel
theorem s37_13 {M : Mm} {l0 l1 l2 : Option Value} {v : Int32} : EE 37 13 [l0, l1, l2] [.int v] M = some (some (.int v), M) := e_iret d37_13 rfl rfl
theorem d37_14 : decode (cod 37) 14 = .ok (.iconst 0, 1) := by decide +kernel
theorem s37_14 {M : Mm} {st : List Value} {l0 l1 l2 : Option Value} : EE 37 14 [l0, l1, l2] st M = EE 37 15 [l0, l1, l2] (.int (nI 0) :: st) M := e_con d37_14 k_con_0
theorem d37_15 : decode (cod 37) 15 = .ok (.istore_n 2, 1) := by decide +kernel
theorem s37_15 {M : Mm} {st : List Value} {l0 l1 l2 : Option Value} {x : Int32} : EE 37 15 [l0, l1, l2] (.int x :: st) M = EE 37 16 [l0, cln l1, some (.int x)] st M := e_st1 d37_15 rfl rfl rfl rfl rfl rfl rfl (Nat.le_of_ble_eq_true rfl) rfl
theorem d37_16 : decode (cod 37) 16 = .ok (.iload_n 2, 1) := by decide +kernel
theorem s37_16 {M : Mm} {st : List Value} {l0 l1 : Option Value} {x : Int32} : EE 37 16 [l0, l1, some (.int x)] st M = EE 37 17 [l0, l1, some (.int x)] (.int x :: st) M := e_ld d37_16 rfl rfl rfl rfl rfl rfl
theorem d37_17 : decode (cod 37) 17 = .ok (.bipush 6, 2) := by decide +kernel
theorem s37_17 {M : Mm} {st : List Value} {l0 l1 l2 : Option Value} : EE 37 17 [l0, l1, l2] st M = EE 37 19 [l0, l1, l2] (.int (nI 6) :: st) M := e_bip d37_17 k_bip_6
theorem d37_19 : decode (cod 37) 19 = .ok (.if_icmp .ge 20, 3) := by decide +kernel
theorem s37_19 {M : Mm} {st : List Value} {l0 l1 l2 : Option Value} {x y : Int32} : EE 37 19 [l0, l1, l2] (.int y :: .int x :: st) M = if y ≤ x then EE 37 39 [l0, l1, l2] st M else EE 37 22 [l0, l1, l2] st M := e_cge d37_19 (by decide)
theorem d37_22 : decode (cod 37) 22 = .ok (.aload_n 0, 1) := by decide +kernel
theorem s37_22 {M : Mm} {st : List Value} {l1 l2 : Option Value} {x : Nat} : EE 37 22 [some (.ref x), l1, l2] st M = EE 37 23 [some (.ref x), l1, l2] (.ref x :: st) M := e_ld d37_22 rfl rfl rfl rfl rfl rfl
theorem d37_23 : decode (cod 37) 23 = .ok (.iload_n 2, 1) := by decide +kernel
theorem s37_23 {M : Mm} {st : List Value} {l0 l1 : Option Value} {x : Int32} : EE 37 23 [l0, l1, some (.int x)] st M = EE 37 24 [l0, l1, some (.int x)] (.int x :: st) M := e_ld d37_23 rfl rfl rfl rfl rfl rfl
theorem d37_24 : decode (cod 37) 24 = .ok (.iload_n 1, 1) := by decide +kernel
theorem s37_24 {M : Mm} {st : List Value} {l0 l2 : Option Value} {x : Int32} : EE 37 24 [l0, some (.int x), l2] st M = EE 37 25 [l0, some (.int x), l2] (.int x :: st) M := e_ld d37_24 rfl rfl rfl rfl rfl rfl
theorem d37_25 : decode (cod 37) 25 = .ok (.invokevirtual 95, 3) := by decide +kernel
theorem s37_25 {l0 l1 l2 : Option Value} {a : Nat} {M : Mm} {b0 : Int32} {b1 : Int32} {st : List Value} (hl : st.length ≤ 4) (ho : isO "HandoverDesk$State" M.1 a = true) : EE 37 25 [l0, l1, l2] (.int b1 :: .int b0 :: .ref a :: st) M = (FF 38 (.ref a :: [.int b0, .int b1]) M).bind (fun z => EE 37 28 [l0, l1, l2] (psh z.1 st) z.2) := e_calv (av := [.int b0, .int b1]) d37_25 c1_95 rfl rfl rfl r37_38 rfl hl ho
theorem d37_28 : decode (cod 37) 28 = .ok (.ifCond .eq 5, 3) := by decide +kernel
theorem s37_28 {M : Mm} {st : List Value} {l0 l1 l2 : Option Value} {x : Int32} : EE 37 28 [l0, l1, l2] (.int x :: st) M = if x = 0 then EE 37 33 [l0, l1, l2] st M else EE 37 31 [l0, l1, l2] st M := e_eq0 d37_28 (by decide)
theorem d37_31 : decode (cod 37) 31 = .ok (.iconst 1, 1) := by decide +kernel
theorem s37_31 {M : Mm} {st : List Value} {l0 l1 l2 : Option Value} : EE 37 31 [l0, l1, l2] st M = EE 37 32 [l0, l1, l2] (.int (nI 1) :: st) M := e_con d37_31 k_con_1
theorem d37_32 : decode (cod 37) 32 = .ok (.ireturn, 1) := by decide +kernel
theorem s37_32 {M : Mm} {l0 l1 l2 : Option Value} {v : Int32} : EE 37 32 [l0, l1, l2] [.int v] M = some (some (.int v), M) := e_iret d37_32 rfl rfl
theorem d37_33 : decode (cod 37) 33 = .ok (.iinc 2 1, 3) := by decide +kernel
theorem s37_33 {M : Mm} {st : List Value} {l0 l1 : Option Value} {x : Int32} : EE 37 33 [l0, l1, some (.int x)] st M = EE 37 36 [l0, cln l1, some (.int (x + nI 1))] st M := e_iinc d37_33 rfl (congrArg (fun z => x + z) k_inc_1) rfl
theorem d37_36 : decode (cod 37) 36 = .ok (.goto (-20), 3) := by decide +kernel
theorem s37_36 {M : Mm} {st : List Value} {l0 l1 l2 : Option Value} : EE 37 36 [l0, l1, l2] st M = EE 37 16 [l0, l1, l2] st M := e_goto d37_36 (by decide)
theorem d37_39 : decode (cod 37) 39 = .ok (.iconst 2, 1) := by decide +kernel
theorem s37_39 {M : Mm} {st : List Value} {l0 l1 l2 : Option Value} : EE 37 39 [l0, l1, l2] st M = EE 37 40 [l0, l1, l2] (.int (nI 2) :: st) M := e_con d37_39 k_con_2
theorem d37_40 : decode (cod 37) 40 = .ok (.ireturn, 1) := by decide +kernel
theorem s37_40 {M : Mm} {l0 l1 l2 : Option Value} {v : Int32} : EE 37 40 [l0, l1, l2] [.int v] M = some (some (.int v), M) := e_iret d37_40 rfl rfl
theorem FE37 {a : Nat} {b0 : Int32} {M : Mm} : FF 37 [.ref a, .int b0] M = EE 37 0 [some (.ref a), some (.int b0), none] [] M := FF_eq 37 _ _ (Nat.le_of_ble_eq_true rfl)
theorem d38_0 : decode (cod 38) 0 = .ok (.aload_n 0, 1) := by decide +kernel
theorem s38_0 {M : Mm} {st : List Value} {l1 l2 : Option Value} {x : Nat} : EE 38 0 [some (.ref x), l1, l2] st M = EE 38 1 [some (.ref x), l1, l2] (.ref x :: st) M := e_ld d38_0 rfl rfl rfl rfl rfl rfl
theorem d38_1 : decode (cod 38) 1 = .ok (.iload_n 1, 1) := by decide +kernel
theorem s38_1 {M : Mm} {st : List Value} {l0 l2 : Option Value} {x : Int32} : EE 38 1 [l0, some (.int x), l2] st M = EE 38 2 [l0, some (.int x), l2] (.int x :: st) M := e_ld d38_1 rfl rfl rfl rfl rfl rfl
theorem d38_2 : decode (cod 38) 2 = .ok (.iload_n 2, 1) := by decide +kernel
theorem s38_2 {M : Mm} {st : List Value} {l0 l1 : Option Value} {x : Int32} : EE 38 2 [l0, l1, some (.int x)] st M = EE 38 3 [l0, l1, some (.int x)] (.int x :: st) M := e_ld d38_2 rfl rfl rfl rfl rfl rfl
theorem d38_3 : decode (cod 38) 3 = .ok (.invokevirtual 88, 3) := by decide +kernel
theorem s38_3 {l0 l1 l2 : Option Value} {a : Nat} {M : Mm} {b0 : Int32} {b1 : Int32} {st : List Value} (hl : st.length ≤ 4) (ho : isO "HandoverDesk$State" M.1 a = true) : EE 38 3 [l0, l1, l2] (.int b1 :: .int b0 :: .ref a :: st) M = (FF 23 (.ref a :: [.int b0, .int b1]) M).bind (fun z => EE 38 6 [l0, l1, l2] (psh z.1 st) z.2) := e_calv (av := [.int b0, .int b1]) d38_3 c1_88 rfl rfl rfl r38_23 rfl hl ho
theorem d38_6 : decode (cod 38) 6 = .ok (.aload_n 0, 1) := by decide +kernel
theorem s38_6 {M : Mm} {st : List Value} {l1 l2 : Option Value} {x : Nat} : EE 38 6 [some (.ref x), l1, l2] st M = EE 38 7 [some (.ref x), l1, l2] (.ref x :: st) M := e_ld d38_6 rfl rfl rfl rfl rfl rfl
theorem d38_7 : decode (cod 38) 7 = .ok (.getfield 9, 3) := by decide +kernel
theorem s38_7 {n : Nat} {I : Nat → Nat → Int32} {R : Nat → Nat → Option Nat} {st : List Value} {l0 l1 l2 : Option Value} {a : Nat} : EE 38 7 [l0, l1, l2] (.ref a :: st) (n, I, R) = (gfI n I R 1 0 a).bind (fun z => EE 38 10 [l0, l1, l2] (z :: st) (n, I, R)) := e_getf d38_7 f1_9 rfl rfl
theorem d38_10 : decode (cod 38) 10 = .ok (.iconst 0, 1) := by decide +kernel
theorem s38_10 {M : Mm} {st : List Value} {l0 l1 l2 : Option Value} : EE 38 10 [l0, l1, l2] st M = EE 38 11 [l0, l1, l2] (.int (nI 0) :: st) M := e_con d38_10 k_con_0
theorem d38_11 : decode (cod 38) 11 = .ok (.iaload, 1) := by decide +kernel
theorem s38_11 {n : Nat} {I : Nat → Nat → Int32} {R : Nat → Nat → Option Nat} {st : List Value} {l0 l1 l2 : Option Value} {j : Int32} {a : Nat} : EE 38 11 [l0, l1, l2] (.int j :: .ref a :: st) (n, I, R) = (ardI 5 n I a j).bind (fun z => EE 38 12 [l0, l1, l2] (.int z :: st) (n, I, R)) := e_iald d38_11
theorem d38_12 : decode (cod 38) 12 = .ok (.if_icmp .lt 7, 3) := by decide +kernel
theorem s38_12 {M : Mm} {st : List Value} {l0 l1 l2 : Option Value} {x y : Int32} : EE 38 12 [l0, l1, l2] (.int y :: .int x :: st) M = if x < y then EE 38 19 [l0, l1, l2] st M else EE 38 15 [l0, l1, l2] st M := e_clt d38_12 (by decide)
theorem d38_15 : decode (cod 38) 15 = .ok (.iconst 1, 1) := by decide +kernel
theorem s38_15 {M : Mm} {st : List Value} {l0 l1 l2 : Option Value} : EE 38 15 [l0, l1, l2] st M = EE 38 16 [l0, l1, l2] (.int (nI 1) :: st) M := e_con d38_15 k_con_1
theorem d38_16 : decode (cod 38) 16 = .ok (.goto 4, 3) := by decide +kernel
theorem s38_16 {M : Mm} {st : List Value} {l0 l1 l2 : Option Value} : EE 38 16 [l0, l1, l2] st M = EE 38 20 [l0, l1, l2] st M := e_goto d38_16 (by decide)
theorem d38_19 : decode (cod 38) 19 = .ok (.iconst 0, 1) := by decide +kernel
theorem s38_19 {M : Mm} {st : List Value} {l0 l1 l2 : Option Value} : EE 38 19 [l0, l1, l2] st M = EE 38 20 [l0, l1, l2] (.int (nI 0) :: st) M := e_con d38_19 k_con_0
theorem d38_20 : decode (cod 38) 20 = .ok (.ireturn, 1) := by decide +kernel
theorem s38_20 {M : Mm} {l0 l1 l2 : Option Value} {v : Int32} (h : narrow .boolean (.int v) = .int v) : EE 38 20 [l0, l1, l2] [.int v] M = some (some (.int v), M) := e_iret d38_20 rfl h
theorem FE38 {a : Nat} {b0 : Int32} {b1 : Int32} {M : Mm} : FF 38 [.ref a, .int b0, .int b1] M = EE 38 0 [some (.ref a), some (.int b0), some (.int b1)] [] M := FF_eq 38 _ _ (Nat.le_of_ble_eq_true rfl)
theorem d39_0 : decode (cod 39) 0 = .ok (.aload_n 0, 1) := by decide +kernel
theorem s39_0 {M : Mm} {st : List Value} {x : Nat} : EE 39 0 [some (.ref x)] st M = EE 39 1 [some (.ref x)] (.ref x :: st) M := e_ld d39_0 rfl rfl rfl rfl rfl rfl
theorem d39_1 : decode (cod 39) 1 = .ok (.getfield 51, 3) := by decide +kernel
theorem s39_1 {n : Nat} {I : Nat → Nat → Int32} {R : Nat → Nat → Option Nat} {st : List Value} {l0 : Option Value} {a : Nat} : EE 39 1 [l0] (.ref a :: st) (n, I, R) = (gfI n I R 1 9 a).bind (fun z => EE 39 4 [l0] (z :: st) (n, I, R)) := e_getf d39_1 f1_51 rfl rfl
theorem d39_4 : decode (cod 39) 4 = .ok (.invokestatic 106, 3) := by decide +kernel
theorem s39_4 {M : Mm} {l0 : Option Value} {b0 : Int32} {st : List Value} (hl : st.length ≤ 4) : EE 39 4 [l0] (.int b0 :: st) M = (FF 154 [.int b0] M).bind (fun z => EE 39 7 [l0] (psh z.1 st) z.2) := e_cals (av := [.int b0]) d39_4 c1_106 (Or.inl rfl) rfl rfl r39_154 rfl hl
theorem d39_7 : decode (cod 39) 7 = .ok (.ireturn, 1) := by decide +kernel
theorem s39_7 {M : Mm} {l0 : Option Value} {v : Int32} : EE 39 7 [l0] [.int v] M = some (some (.int v), M) := e_iret d39_7 rfl rfl
theorem FE39 {a : Nat} {M : Mm} : FF 39 [.ref a] M = EE 39 0 [some (.ref a)] [] M := FF_eq 39 _ _ (Nat.le_of_ble_eq_true rfl)
theorem d40_0 : decode (cod 40) 0 = .ok (.iconst 0, 1) := by decide +kernel
theorem s40_0 {M : Mm} {st : List Value} {l0 l1 l2 l3 : Option Value} : EE 40 0 [l0, l1, l2, l3] st M = EE 40 1 [l0, l1, l2, l3] (.int (nI 0) :: st) M := e_con d40_0 k_con_0
theorem d40_1 : decode (cod 40) 1 = .ok (.istore_n 2, 1) := by decide +kernel
theorem s40_1 {M : Mm} {st : List Value} {l0 l1 l2 l3 : Option Value} {x : Int32} : EE 40 1 [l0, l1, l2, l3] (.int x :: st) M = EE 40 2 [l0, cln l1, some (.int x), l3] st M := e_st1 d40_1 rfl rfl rfl rfl rfl rfl rfl (Nat.le_of_ble_eq_true rfl) rfl
theorem d40_2 : decode (cod 40) 2 = .ok (.iconst 0, 1) := by decide +kernel
theorem s40_2 {M : Mm} {st : List Value} {l0 l1 l2 l3 : Option Value} : EE 40 2 [l0, l1, l2, l3] st M = EE 40 3 [l0, l1, l2, l3] (.int (nI 0) :: st) M := e_con d40_2 k_con_0
theorem d40_3 : decode (cod 40) 3 = .ok (.istore_n 3, 1) := by decide +kernel
theorem s40_3 {M : Mm} {st : List Value} {l0 l1 l2 l3 : Option Value} {x : Int32} : EE 40 3 [l0, l1, l2, l3] (.int x :: st) M = EE 40 4 [l0, l1, cln l2, some (.int x)] st M := e_st1 d40_3 rfl rfl rfl rfl rfl rfl rfl (Nat.le_of_ble_eq_true rfl) rfl
theorem d40_4 : decode (cod 40) 4 = .ok (.iload_n 3, 1) := by decide +kernel
theorem s40_4 {M : Mm} {st : List Value} {l0 l1 l2 : Option Value} {x : Int32} : EE 40 4 [l0, l1, l2, some (.int x)] st M = EE 40 5 [l0, l1, l2, some (.int x)] (.int x :: st) M := e_ld d40_4 rfl rfl rfl rfl rfl rfl
theorem d40_5 : decode (cod 40) 5 = .ok (.aload_n 0, 1) := by decide +kernel
theorem s40_5 {M : Mm} {st : List Value} {l1 l2 l3 : Option Value} {x : Nat} : EE 40 5 [some (.ref x), l1, l2, l3] st M = EE 40 6 [some (.ref x), l1, l2, l3] (.ref x :: st) M := e_ld d40_5 rfl rfl rfl rfl rfl rfl
theorem d40_6 : decode (cod 40) 6 = .ok (.getfield 47, 3) := by decide +kernel
theorem s40_6 {n : Nat} {I : Nat → Nat → Int32} {R : Nat → Nat → Option Nat} {st : List Value} {l0 l1 l2 l3 : Option Value} {a : Nat} : EE 40 6 [l0, l1, l2, l3] (.ref a :: st) (n, I, R) = (gfI n I R 1 8 a).bind (fun z => EE 40 9 [l0, l1, l2, l3] (z :: st) (n, I, R)) := e_getf d40_6 f1_47 rfl rfl
theorem d40_9 : decode (cod 40) 9 = .ok (.if_icmp .ge 32, 3) := by decide +kernel
theorem s40_9 {M : Mm} {st : List Value} {l0 l1 l2 l3 : Option Value} {x y : Int32} : EE 40 9 [l0, l1, l2, l3] (.int y :: .int x :: st) M = if y ≤ x then EE 40 41 [l0, l1, l2, l3] st M else EE 40 12 [l0, l1, l2, l3] st M := e_cge d40_9 (by decide)
theorem d40_12 : decode (cod 40) 12 = .ok (.aload_n 0, 1) := by decide +kernel
theorem s40_12 {M : Mm} {st : List Value} {l1 l2 l3 : Option Value} {x : Nat} : EE 40 12 [some (.ref x), l1, l2, l3] st M = EE 40 13 [some (.ref x), l1, l2, l3] (.ref x :: st) M := e_ld d40_12 rfl rfl rfl rfl rfl rfl
theorem d40_13 : decode (cod 40) 13 = .ok (.iload_n 3, 1) := by decide +kernel
theorem s40_13 {M : Mm} {st : List Value} {l0 l1 l2 : Option Value} {x : Int32} : EE 40 13 [l0, l1, l2, some (.int x)] st M = EE 40 14 [l0, l1, l2, some (.int x)] (.int x :: st) M := e_ld d40_13 rfl rfl rfl rfl rfl rfl
theorem d40_14 : decode (cod 40) 14 = .ok (.invokevirtual 99, 3) := by decide +kernel
theorem s40_14 {l0 l1 l2 l3 : Option Value} {a : Nat} {M : Mm} {b0 : Int32} {st : List Value} (hl : st.length ≤ 4) (ho : isO "HandoverDesk$State" M.1 a = true) : EE 40 14 [l0, l1, l2, l3] (.int b0 :: .ref a :: st) M = (FF 19 (.ref a :: [.int b0]) M).bind (fun z => EE 40 17 [l0, l1, l2, l3] (psh z.1 st) z.2) := e_calv (av := [.int b0]) d40_14 c1_99 rfl rfl rfl r40_19 rfl hl ho
theorem d40_17 : decode (cod 40) 17 = .ok (.ifCond .eq 18, 3) := by decide +kernel
theorem s40_17 {M : Mm} {st : List Value} {l0 l1 l2 l3 : Option Value} {x : Int32} : EE 40 17 [l0, l1, l2, l3] (.int x :: st) M = if x = 0 then EE 40 35 [l0, l1, l2, l3] st M else EE 40 20 [l0, l1, l2, l3] st M := e_eq0 d40_17 (by decide)
theorem d40_20 : decode (cod 40) 20 = .ok (.aload_n 0, 1) := by decide +kernel
theorem s40_20 {M : Mm} {st : List Value} {l1 l2 l3 : Option Value} {x : Nat} : EE 40 20 [some (.ref x), l1, l2, l3] st M = EE 40 21 [some (.ref x), l1, l2, l3] (.ref x :: st) M := e_ld d40_20 rfl rfl rfl rfl rfl rfl
theorem d40_21 : decode (cod 40) 21 = .ok (.iload_n 3, 1) := by decide +kernel
theorem s40_21 {M : Mm} {st : List Value} {l0 l1 l2 : Option Value} {x : Int32} : EE 40 21 [l0, l1, l2, some (.int x)] st M = EE 40 22 [l0, l1, l2, some (.int x)] (.int x :: st) M := e_ld d40_21 rfl rfl rfl rfl rfl rfl
theorem d40_22 : decode (cod 40) 22 = .ok (.invokevirtual 102, 3) := by decide +kernel
theorem s40_22 {l0 l1 l2 l3 : Option Value} {a : Nat} {M : Mm} {b0 : Int32} {st : List Value} (hl : st.length ≤ 4) (ho : isO "HandoverDesk$State" M.1 a = true) : EE 40 22 [l0, l1, l2, l3] (.int b0 :: .ref a :: st) M = (FF 37 (.ref a :: [.int b0]) M).bind (fun z => EE 40 25 [l0, l1, l2, l3] (psh z.1 st) z.2) := e_calv (av := [.int b0]) d40_22 c1_102 rfl rfl rfl r40_37 rfl hl ho
theorem d40_25 : decode (cod 40) 25 = .ok (.iload_n 1, 1) := by decide +kernel
theorem s40_25 {M : Mm} {st : List Value} {l0 l2 l3 : Option Value} {x : Int32} : EE 40 25 [l0, some (.int x), l2, l3] st M = EE 40 26 [l0, some (.int x), l2, l3] (.int x :: st) M := e_ld d40_25 rfl rfl rfl rfl rfl rfl
theorem d40_26 : decode (cod 40) 26 = .ok (.if_icmp .ne 9, 3) := by decide +kernel
theorem s40_26 {M : Mm} {st : List Value} {l0 l1 l2 l3 : Option Value} {x y : Int32} : EE 40 26 [l0, l1, l2, l3] (.int y :: .int x :: st) M = if x = y then EE 40 29 [l0, l1, l2, l3] st M else EE 40 35 [l0, l1, l2, l3] st M := e_cne d40_26 (by decide)
theorem d40_29 : decode (cod 40) 29 = .ok (.iload_n 2, 1) := by decide +kernel
theorem s40_29 {M : Mm} {st : List Value} {l0 l1 l3 : Option Value} {x : Int32} : EE 40 29 [l0, l1, some (.int x), l3] st M = EE 40 30 [l0, l1, some (.int x), l3] (.int x :: st) M := e_ld d40_29 rfl rfl rfl rfl rfl rfl
theorem d40_30 : decode (cod 40) 30 = .ok (.iconst 1, 1) := by decide +kernel
theorem s40_30 {M : Mm} {st : List Value} {l0 l1 l2 l3 : Option Value} : EE 40 30 [l0, l1, l2, l3] st M = EE 40 31 [l0, l1, l2, l3] (.int (nI 1) :: st) M := e_con d40_30 k_con_1
theorem d40_31 : decode (cod 40) 31 = .ok (.iload_n 3, 1) := by decide +kernel
theorem s40_31 {M : Mm} {st : List Value} {l0 l1 l2 : Option Value} {x : Int32} : EE 40 31 [l0, l1, l2, some (.int x)] st M = EE 40 32 [l0, l1, l2, some (.int x)] (.int x :: st) M := e_ld d40_31 rfl rfl rfl rfl rfl rfl
theorem d40_32 : decode (cod 40) 32 = .ok (.ishl, 1) := by decide +kernel
theorem s40_32 {M : Mm} {st : List Value} {l0 l1 l2 l3 : Option Value} {x y : Int32} : EE 40 32 [l0, l1, l2, l3] (.int y :: .int x :: st) M = EE 40 33 [l0, l1, l2, l3] (.int (x <<< (y &&& 31)) :: st) M := e_II d40_32 rfl rfl rfl rfl rfl rfl
theorem d40_33 : decode (cod 40) 33 = .ok (.ior, 1) := by decide +kernel
theorem s40_33 {M : Mm} {st : List Value} {l0 l1 l2 l3 : Option Value} {x y : Int32} : EE 40 33 [l0, l1, l2, l3] (.int y :: .int x :: st) M = EE 40 34 [l0, l1, l2, l3] (.int (x ||| y) :: st) M := e_II d40_33 rfl rfl rfl rfl rfl rfl
theorem d40_34 : decode (cod 40) 34 = .ok (.istore_n 2, 1) := by decide +kernel
theorem s40_34 {M : Mm} {st : List Value} {l0 l1 l2 l3 : Option Value} {x : Int32} : EE 40 34 [l0, l1, l2, l3] (.int x :: st) M = EE 40 35 [l0, cln l1, some (.int x), l3] st M := e_st1 d40_34 rfl rfl rfl rfl rfl rfl rfl (Nat.le_of_ble_eq_true rfl) rfl
theorem d40_35 : decode (cod 40) 35 = .ok (.iinc 3 1, 3) := by decide +kernel
theorem s40_35 {M : Mm} {st : List Value} {l0 l1 l2 : Option Value} {x : Int32} : EE 40 35 [l0, l1, l2, some (.int x)] st M = EE 40 38 [l0, l1, cln l2, some (.int (x + nI 1))] st M := e_iinc d40_35 rfl (congrArg (fun z => x + z) k_inc_1) rfl
theorem d40_38 : decode (cod 40) 38 = .ok (.goto (-34), 3) := by decide +kernel
theorem s40_38 {M : Mm} {st : List Value} {l0 l1 l2 l3 : Option Value} : EE 40 38 [l0, l1, l2, l3] st M = EE 40 4 [l0, l1, l2, l3] st M := e_goto d40_38 (by decide)
theorem d40_41 : decode (cod 40) 41 = .ok (.iload_n 2, 1) := by decide +kernel
theorem s40_41 {M : Mm} {st : List Value} {l0 l1 l3 : Option Value} {x : Int32} : EE 40 41 [l0, l1, some (.int x), l3] st M = EE 40 42 [l0, l1, some (.int x), l3] (.int x :: st) M := e_ld d40_41 rfl rfl rfl rfl rfl rfl
theorem d40_42 : decode (cod 40) 42 = .ok (.ireturn, 1) := by decide +kernel
theorem s40_42 {M : Mm} {l0 l1 l2 l3 : Option Value} {v : Int32} : EE 40 42 [l0, l1, l2, l3] [.int v] M = some (some (.int v), M) := e_iret d40_42 rfl rfl
theorem FE40 {a : Nat} {b0 : Int32} {M : Mm} : FF 40 [.ref a, .int b0] M = EE 40 0 [some (.ref a), some (.int b0), none, none] [] M := FF_eq 40 _ _ (Nat.le_of_ble_eq_true rfl)
