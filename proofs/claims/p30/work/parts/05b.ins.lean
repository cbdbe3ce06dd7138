theorem d0_0 : decode (cod 0) 0 = .ok (.aload_n 0, 1) := by decide +kernel
theorem s0_0 {M : Mm} {st : List Value} {x : Nat} : EE 0 0 [some (.ref x)] st M = EE 0 1 [some (.ref x)] (.ref x :: st) M := e_ld d0_0 rfl rfl rfl rfl rfl rfl
theorem d0_1 : decode (cod 0) 1 = .ok (.invokespecial 3, 3) := by decide +kernel
theorem s0_1 {M : Mm} {l0 : Option Value} {a : Nat} {st : List Value} (hl : st.length ≤ 4) : EE 0 1 [l0] (.ref a :: st) M = EE 0 4 [l0] st M := e_oin d0_1 t0_3 t0_3n (by decide) hl
theorem d0_4 : decode (cod 0) 4 = .ok (.aload_n 0, 1) := by decide +kernel
theorem s0_4 {M : Mm} {st : List Value} {x : Nat} : EE 0 4 [some (.ref x)] st M = EE 0 5 [some (.ref x)] (.ref x :: st) M := e_ld d0_4 rfl rfl rfl rfl rfl rfl
theorem d0_5 : decode (cod 0) 5 = .ok (.bipush 80, 2) := by decide +kernel
theorem s0_5 {M : Mm} {st : List Value} {l0 : Option Value} : EE 0 5 [l0] st M = EE 0 7 [l0] (.int (nI 80) :: st) M := e_bip d0_5 k_bip_80
theorem d0_7 : decode (cod 0) 7 = .ok (.newarray .char, 2) := by decide +kernel
theorem s0_7 {st : List Value} {l0 : Option Value} {w : Int32} {M : Mm} (h : M.1 < 202 ∧ kd (adr M.1) = 6 ∧ ¬ w < 0 ∧ w.toNatClampNeg = ln (adr M.1)) : EE 0 7 [l0] (.int w :: st) M = EE 0 9 [l0] (.ref (adr M.1) :: st) (bn M) := e_newa d0_7 h
theorem d0_9 : decode (cod 0) 9 = .ok (.putfield 9, 3) := by decide +kernel
theorem s0_9 {n : Nat} {I : Nat → Nat → Int32} {R : Nat → Nat → Option Nat} {st : List Value} {l0 : Option Value} {a : Nat} {v : Value} : EE 0 9 [l0] (v :: .ref a :: st) (n, I, R) = (pfI n I R 0 0 a v).bind (fun z => EE 0 12 [l0] st (n, z.1, z.2)) := e_putf d0_9 f0_9 rfl rfl (Or.inl ⟨rfl, Or.inl rfl⟩)
theorem d0_12 : decode (cod 0) 12 = .ok (.aload_n 0, 1) := by decide +kernel
theorem s0_12 {M : Mm} {st : List Value} {x : Nat} : EE 0 12 [some (.ref x)] st M = EE 0 13 [some (.ref x)] (.ref x :: st) M := e_ld d0_12 rfl rfl rfl rfl rfl rfl
theorem d0_13 : decode (cod 0) 13 = .ok (.iconst 3, 1) := by decide +kernel
theorem s0_13 {M : Mm} {st : List Value} {l0 : Option Value} : EE 0 13 [l0] st M = EE 0 14 [l0] (.int (nI 3) :: st) M := e_con d0_13 k_con_3
theorem d0_14 : decode (cod 0) 14 = .ok (.newarray .int, 2) := by decide +kernel
theorem s0_14 {st : List Value} {l0 : Option Value} {w : Int32} {M : Mm} (h : M.1 < 202 ∧ kd (adr M.1) = 5 ∧ ¬ w < 0 ∧ w.toNatClampNeg = ln (adr M.1)) : EE 0 14 [l0] (.int w :: st) M = EE 0 16 [l0] (.ref (adr M.1) :: st) (bn M) := e_newa d0_14 h
theorem d0_16 : decode (cod 0) 16 = .ok (.putfield 15, 3) := by decide +kernel
theorem s0_16 {n : Nat} {I : Nat → Nat → Int32} {R : Nat → Nat → Option Nat} {st : List Value} {l0 : Option Value} {a : Nat} {v : Value} : EE 0 16 [l0] (v :: .ref a :: st) (n, I, R) = (pfI n I R 0 1 a v).bind (fun z => EE 0 19 [l0] st (n, z.1, z.2)) := e_putf d0_16 f0_15 rfl rfl (Or.inl ⟨rfl, Or.inl rfl⟩)
theorem d0_19 : decode (cod 0) 19 = .ok (.return_, 1) := by decide +kernel
theorem s0_19 {M : Mm} {l0 : Option Value} : EE 0 19 [l0] [] M = some (none, M) := e_vret d0_19 rfl
theorem FE0 {a : Nat} {M : Mm} : FF 0 [.ref a] M = EE 0 0 [some (.ref a)] [] M := FF_eq 0 _ _ (Nat.le_of_ble_eq_true rfl)
theorem d11_0 : decode (cod 11) 0 = .ok (.aload_n 0, 1) := by decide +kernel
theorem s11_0 {M : Mm} {st : List Value} {l1 : Option Value} {x : Nat} : EE 11 0 [some (.ref x), l1] st M = EE 11 1 [some (.ref x), l1] (.ref x :: st) M := e_ld d11_0 rfl rfl rfl rfl rfl rfl
theorem d11_1 : decode (cod 11) 1 = .ok (.invokespecial 3, 3) := by decide +kernel
theorem s11_1 {M : Mm} {l0 l1 : Option Value} {a : Nat} {st : List Value} (hl : st.length ≤ 4) : EE 11 1 [l0, l1] (.ref a :: st) M = EE 11 4 [l0, l1] st M := e_oin d11_1 t1_3 t1_3n (by decide) hl
theorem d11_4 : decode (cod 11) 4 = .ok (.aload_n 0, 1) := by decide +kernel
theorem s11_4 {M : Mm} {st : List Value} {l1 : Option Value} {x : Nat} : EE 11 4 [some (.ref x), l1] st M = EE 11 5 [some (.ref x), l1] (.ref x :: st) M := e_ld d11_4 rfl rfl rfl rfl rfl rfl
theorem d11_5 : decode (cod 11) 5 = .ok (.bipush 6, 2) := by decide +kernel
theorem s11_5 {M : Mm} {st : List Value} {l0 l1 : Option Value} : EE 11 5 [l0, l1] st M = EE 11 7 [l0, l1] (.int (nI 6) :: st) M := e_bip d11_5 k_bip_6
theorem d11_7 : decode (cod 11) 7 = .ok (.newarray .int, 2) := by decide +kernel
theorem s11_7 {st : List Value} {l0 l1 : Option Value} {w : Int32} {M : Mm} (h : M.1 < 202 ∧ kd (adr M.1) = 5 ∧ ¬ w < 0 ∧ w.toNatClampNeg = ln (adr M.1)) : EE 11 7 [l0, l1] (.int w :: st) M = EE 11 9 [l0, l1] (.ref (adr M.1) :: st) (bn M) := e_newa d11_7 h
theorem d11_9 : decode (cod 11) 9 = .ok (.putfield 9, 3) := by decide +kernel
theorem s11_9 {n : Nat} {I : Nat → Nat → Int32} {R : Nat → Nat → Option Nat} {st : List Value} {l0 l1 : Option Value} {a : Nat} {v : Value} : EE 11 9 [l0, l1] (v :: .ref a :: st) (n, I, R) = (pfI n I R 1 0 a v).bind (fun z => EE 11 12 [l0, l1] st (n, z.1, z.2)) := e_putf d11_9 f1_9 rfl rfl (Or.inl ⟨rfl, Or.inl rfl⟩)
theorem d11_12 : decode (cod 11) 12 = .ok (.getstatic 15, 3) := by decide +kernel
theorem s11_12 {M : Mm} {st : List Value} {l0 l1 : Option Value} : EE 11 12 [l0, l1] st M = EE 11 15 [l0, l1] (.ref 1001 :: st) M := e_gets d11_12 g1_15 (by decide)
theorem d11_15 : decode (cod 11) 15 = .ok (.iconst 0, 1) := by decide +kernel
theorem s11_15 {M : Mm} {st : List Value} {l0 l1 : Option Value} : EE 11 15 [l0, l1] st M = EE 11 16 [l0, l1] (.int (nI 0) :: st) M := e_con d11_15 k_con_0
theorem d11_16 : decode (cod 11) 16 = .ok (.aload_n 0, 1) := by decide +kernel
theorem s11_16 {M : Mm} {st : List Value} {l1 : Option Value} {x : Nat} : EE 11 16 [some (.ref x), l1] st M = EE 11 17 [some (.ref x), l1] (.ref x :: st) M := e_ld d11_16 rfl rfl rfl rfl rfl rfl
theorem d11_17 : decode (cod 11) 17 = .ok (.getfield 9, 3) := by decide +kernel
theorem s11_17 {n : Nat} {I : Nat → Nat → Int32} {R : Nat → Nat → Option Nat} {st : List Value} {l0 l1 : Option Value} {a : Nat} : EE 11 17 [l0, l1] (.ref a :: st) (n, I, R) = (gfI n I R 1 0 a).bind (fun z => EE 11 20 [l0, l1] (z :: st) (n, I, R)) := e_getf d11_17 f1_9 rfl rfl
theorem d11_20 : decode (cod 11) 20 = .ok (.iconst 0, 1) := by decide +kernel
theorem s11_20 {M : Mm} {st : List Value} {l0 l1 : Option Value} : EE 11 20 [l0, l1] st M = EE 11 21 [l0, l1] (.int (nI 0) :: st) M := e_con d11_20 k_con_0
theorem d11_21 : decode (cod 11) 21 = .ok (.bipush 6, 2) := by decide +kernel
theorem s11_21 {M : Mm} {st : List Value} {l0 l1 : Option Value} : EE 11 21 [l0, l1] st M = EE 11 23 [l0, l1] (.int (nI 6) :: st) M := e_bip d11_21 k_bip_6
theorem d11_23 : decode (cod 11) 23 = .ok (.invokestatic 18, 3) := by decide +kernel
theorem s11_23 {n : Nat} {I : Nat → Nat → Int32} {R : Nat → Nat → Option Nat} {l0 l1 : Option Value} {a0 a1 : Nat} {sp dp w : Int32} {st : List Value} (hl : st.length ≤ 4) : EE 11 23 [l0, l1] (.int w :: .int dp :: .ref a1 :: .int sp :: .ref a0 :: st) (n, I, R) = (cpI n I a0 sp a1 dp w).bind (fun z => EE 11 26 [l0, l1] st (n, z, R)) := e_cpy d11_23 t1_18 t1_18n (by decide) hl
theorem d11_26 : decode (cod 11) 26 = .ok (.aload_n 0, 1) := by decide +kernel
theorem s11_26 {M : Mm} {st : List Value} {l1 : Option Value} {x : Nat} : EE 11 26 [some (.ref x), l1] st M = EE 11 27 [some (.ref x), l1] (.ref x :: st) M := e_ld d11_26 rfl rfl rfl rfl rfl rfl
theorem d11_27 : decode (cod 11) 27 = .ok (.bipush 12, 2) := by decide +kernel
theorem s11_27 {M : Mm} {st : List Value} {l0 l1 : Option Value} : EE 11 27 [l0, l1] st M = EE 11 29 [l0, l1] (.int (nI 12) :: st) M := e_bip d11_27 k_bip_12
theorem d11_29 : decode (cod 11) 29 = .ok (.newarray .int, 2) := by decide +kernel
theorem s11_29 {st : List Value} {l0 l1 : Option Value} {w : Int32} {M : Mm} (h : M.1 < 202 ∧ kd (adr M.1) = 5 ∧ ¬ w < 0 ∧ w.toNatClampNeg = ln (adr M.1)) : EE 11 29 [l0, l1] (.int w :: st) M = EE 11 31 [l0, l1] (.ref (adr M.1) :: st) (bn M) := e_newa d11_29 h
theorem d11_31 : decode (cod 11) 31 = .ok (.putfield 24, 3) := by decide +kernel
theorem s11_31 {n : Nat} {I : Nat → Nat → Int32} {R : Nat → Nat → Option Nat} {st : List Value} {l0 l1 : Option Value} {a : Nat} {v : Value} : EE 11 31 [l0, l1] (v :: .ref a :: st) (n, I, R) = (pfI n I R 1 1 a v).bind (fun z => EE 11 34 [l0, l1] st (n, z.1, z.2)) := e_putf d11_31 f1_24 rfl rfl (Or.inl ⟨rfl, Or.inl rfl⟩)
theorem d11_34 : decode (cod 11) 34 = .ok (.aload_n 0, 1) := by decide +kernel
theorem s11_34 {M : Mm} {st : List Value} {l1 : Option Value} {x : Nat} : EE 11 34 [some (.ref x), l1] st M = EE 11 35 [some (.ref x), l1] (.ref x :: st) M := e_ld d11_34 rfl rfl rfl rfl rfl rfl
theorem d11_35 : decode (cod 11) 35 = .ok (.bipush 12, 2) := by decide +kernel
theorem s11_35 {M : Mm} {st : List Value} {l0 l1 : Option Value} : EE 11 35 [l0, l1] st M = EE 11 37 [l0, l1] (.int (nI 12) :: st) M := e_bip d11_35 k_bip_12
theorem d11_37 : decode (cod 11) 37 = .ok (.newarray .int, 2) := by decide +kernel
theorem s11_37 {st : List Value} {l0 l1 : Option Value} {w : Int32} {M : Mm} (h : M.1 < 202 ∧ kd (adr M.1) = 5 ∧ ¬ w < 0 ∧ w.toNatClampNeg = ln (adr M.1)) : EE 11 37 [l0, l1] (.int w :: st) M = EE 11 39 [l0, l1] (.ref (adr M.1) :: st) (bn M) := e_newa d11_37 h
theorem d11_39 : decode (cod 11) 39 = .ok (.putfield 27, 3) := by decide +kernel
theorem s11_39 {n : Nat} {I : Nat → Nat → Int32} {R : Nat → Nat → Option Nat} {st : List Value} {l0 l1 : Option Value} {a : Nat} {v : Value} : EE 11 39 [l0, l1] (v :: .ref a :: st) (n, I, R) = (pfI n I R 1 2 a v).bind (fun z => EE 11 42 [l0, l1] st (n, z.1, z.2)) := e_putf d11_39 f1_27 rfl rfl (Or.inl ⟨rfl, Or.inl rfl⟩)
theorem d11_42 : decode (cod 11) 42 = .ok (.iconst 0, 1) := by decide +kernel
theorem s11_42 {M : Mm} {st : List Value} {l0 l1 : Option Value} : EE 11 42 [l0, l1] st M = EE 11 43 [l0, l1] (.int (nI 0) :: st) M := e_con d11_42 k_con_0
theorem d11_43 : decode (cod 11) 43 = .ok (.istore_n 1, 1) := by decide +kernel
theorem s11_43 {M : Mm} {st : List Value} {l0 l1 : Option Value} {x : Int32} : EE 11 43 [l0, l1] (.int x :: st) M = EE 11 44 [cln l0, some (.int x)] st M := e_st1 d11_43 rfl rfl rfl rfl rfl rfl rfl (Nat.le_of_ble_eq_true rfl) rfl
theorem d11_44 : decode (cod 11) 44 = .ok (.iload_n 1, 1) := by decide +kernel
theorem s11_44 {M : Mm} {st : List Value} {l0 : Option Value} {x : Int32} : EE 11 44 [l0, some (.int x)] st M = EE 11 45 [l0, some (.int x)] (.int x :: st) M := e_ld d11_44 rfl rfl rfl rfl rfl rfl
theorem d11_45 : decode (cod 11) 45 = .ok (.bipush 12, 2) := by decide +kernel
theorem s11_45 {M : Mm} {st : List Value} {l0 l1 : Option Value} : EE 11 45 [l0, l1] st M = EE 11 47 [l0, l1] (.int (nI 12) :: st) M := e_bip d11_45 k_bip_12
theorem d11_47 : decode (cod 11) 47 = .ok (.if_icmp .ge 26, 3) := by decide +kernel
theorem s11_47 {M : Mm} {st : List Value} {l0 l1 : Option Value} {x y : Int32} : EE 11 47 [l0, l1] (.int y :: .int x :: st) M = if y ≤ x then EE 11 73 [l0, l1] st M else EE 11 50 [l0, l1] st M := e_cge d11_47 (by decide)
theorem d11_50 : decode (cod 11) 50 = .ok (.aload_n 0, 1) := by decide +kernel
theorem s11_50 {M : Mm} {st : List Value} {l1 : Option Value} {x : Nat} : EE 11 50 [some (.ref x), l1] st M = EE 11 51 [some (.ref x), l1] (.ref x :: st) M := e_ld d11_50 rfl rfl rfl rfl rfl rfl
theorem d11_51 : decode (cod 11) 51 = .ok (.getfield 24, 3) := by decide +kernel
theorem s11_51 {n : Nat} {I : Nat → Nat → Int32} {R : Nat → Nat → Option Nat} {st : List Value} {l0 l1 : Option Value} {a : Nat} : EE 11 51 [l0, l1] (.ref a :: st) (n, I, R) = (gfI n I R 1 1 a).bind (fun z => EE 11 54 [l0, l1] (z :: st) (n, I, R)) := e_getf d11_51 f1_24 rfl rfl
theorem d11_54 : decode (cod 11) 54 = .ok (.iload_n 1, 1) := by decide +kernel
theorem s11_54 {M : Mm} {st : List Value} {l0 : Option Value} {x : Int32} : EE 11 54 [l0, some (.int x)] st M = EE 11 55 [l0, some (.int x)] (.int x :: st) M := e_ld d11_54 rfl rfl rfl rfl rfl rfl
theorem d11_55 : decode (cod 11) 55 = .ok (.iload_n 1, 1) := by decide +kernel
theorem s11_55 {M : Mm} {st : List Value} {l0 : Option Value} {x : Int32} : EE 11 55 [l0, some (.int x)] st M = EE 11 56 [l0, some (.int x)] (.int x :: st) M := e_ld d11_55 rfl rfl rfl rfl rfl rfl
theorem d11_56 : decode (cod 11) 56 = .ok (.iconst 3, 1) := by decide +kernel
theorem s11_56 {M : Mm} {st : List Value} {l0 l1 : Option Value} : EE 11 56 [l0, l1] st M = EE 11 57 [l0, l1] (.int (nI 3) :: st) M := e_con d11_56 k_con_3
theorem d11_57 : decode (cod 11) 57 = .ok (.irem, 1) := by decide +kernel
theorem s11_57 {M : Mm} {st : List Value} {l0 l1 : Option Value} {x y : Nat} (h1 : x < 2 ^ 31) (h2 : 0 < y) (h3 : y < 2 ^ 31) : EE 11 57 [l0, l1] (.int (nI y) :: .int (nI x) :: st) M = EE 11 58 [l0, l1] (.int (nI (x % y)) :: st) M := e_remN d11_57 h1 h2 h3
theorem d11_58 : decode (cod 11) 58 = .ok (.iastore, 1) := by decide +kernel
theorem s11_58 {n : Nat} {I : Nat → Nat → Int32} {R : Nat → Nat → Option Nat} {st : List Value} {l0 l1 : Option Value} {j x : Int32} {a : Nat} (h : acI 5 n a j) : EE 11 58 [l0, l1] (.int x :: .int j :: .ref a :: st) (n, I, R) = EE 11 59 [l0, l1] st (n, wI I a j.toNatClampNeg x, R) := e_iast d11_58 h
theorem d11_59 : decode (cod 11) 59 = .ok (.aload_n 0, 1) := by decide +kernel
theorem s11_59 {M : Mm} {st : List Value} {l1 : Option Value} {x : Nat} : EE 11 59 [some (.ref x), l1] st M = EE 11 60 [some (.ref x), l1] (.ref x :: st) M := e_ld d11_59 rfl rfl rfl rfl rfl rfl
theorem d11_60 : decode (cod 11) 60 = .ok (.getfield 27, 3) := by decide +kernel
theorem s11_60 {n : Nat} {I : Nat → Nat → Int32} {R : Nat → Nat → Option Nat} {st : List Value} {l0 l1 : Option Value} {a : Nat} : EE 11 60 [l0, l1] (.ref a :: st) (n, I, R) = (gfI n I R 1 2 a).bind (fun z => EE 11 63 [l0, l1] (z :: st) (n, I, R)) := e_getf d11_60 f1_27 rfl rfl
theorem d11_63 : decode (cod 11) 63 = .ok (.iload_n 1, 1) := by decide +kernel
theorem s11_63 {M : Mm} {st : List Value} {l0 : Option Value} {x : Int32} : EE 11 63 [l0, some (.int x)] st M = EE 11 64 [l0, some (.int x)] (.int x :: st) M := e_ld d11_63 rfl rfl rfl rfl rfl rfl
theorem d11_64 : decode (cod 11) 64 = .ok (.bipush 10, 2) := by decide +kernel
theorem s11_64 {M : Mm} {st : List Value} {l0 l1 : Option Value} : EE 11 64 [l0, l1] st M = EE 11 66 [l0, l1] (.int (nI 10) :: st) M := e_bip d11_64 k_bip_10
theorem d11_66 : decode (cod 11) 66 = .ok (.iastore, 1) := by decide +kernel
theorem s11_66 {n : Nat} {I : Nat → Nat → Int32} {R : Nat → Nat → Option Nat} {st : List Value} {l0 l1 : Option Value} {j x : Int32} {a : Nat} (h : acI 5 n a j) : EE 11 66 [l0, l1] (.int x :: .int j :: .ref a :: st) (n, I, R) = EE 11 67 [l0, l1] st (n, wI I a j.toNatClampNeg x, R) := e_iast d11_66 h
theorem d11_67 : decode (cod 11) 67 = .ok (.iinc 1 1, 3) := by decide +kernel
theorem s11_67 {M : Mm} {st : List Value} {l0 : Option Value} {x : Int32} : EE 11 67 [l0, some (.int x)] st M = EE 11 70 [cln l0, some (.int (x + nI 1))] st M := e_iinc d11_67 rfl (congrArg (fun z => x + z) k_inc_1) rfl
theorem d11_70 : decode (cod 11) 70 = .ok (.goto (-26), 3) := by decide +kernel
theorem s11_70 {M : Mm} {st : List Value} {l0 l1 : Option Value} : EE 11 70 [l0, l1] st M = EE 11 44 [l0, l1] st M := e_goto d11_70 (by decide)
theorem d11_73 : decode (cod 11) 73 = .ok (.aload_n 0, 1) := by decide +kernel
theorem s11_73 {M : Mm} {st : List Value} {l1 : Option Value} {x : Nat} : EE 11 73 [some (.ref x), l1] st M = EE 11 74 [some (.ref x), l1] (.ref x :: st) M := e_ld d11_73 rfl rfl rfl rfl rfl rfl
theorem d11_74 : decode (cod 11) 74 = .ok (.bipush 6, 2) := by decide +kernel
theorem s11_74 {M : Mm} {st : List Value} {l0 l1 : Option Value} : EE 11 74 [l0, l1] st M = EE 11 76 [l0, l1] (.int (nI 6) :: st) M := e_bip d11_74 k_bip_6
theorem d11_76 : decode (cod 11) 76 = .ok (.bipush 10, 2) := by decide +kernel
theorem s11_76 {M : Mm} {st : List Value} {l0 l1 : Option Value} : EE 11 76 [l0, l1] st M = EE 11 78 [l0, l1] (.int (nI 10) :: st) M := e_bip d11_76 k_bip_10
theorem d11_78 : decode (cod 11) 78 = .ok (.multianewarray 30 2, 4) := by decide +kernel
theorem s11_78 {st : List Value} {l0 l1 : Option Value} {M : Mm} (h : M.1 + 7 ≤ 202 ∧ kd (adr M.1) = 9 ∧ adr M.1 + 6 < 208 ∧ (List.range 6).all (fun j => adr (M.1 + 1 + j) == adr M.1 + 1 + j) = true) : EE 11 78 [l0, l1] (.int (nI 10) :: .int (nI 6) :: st) M = EE 11 82 [l0, l1] (.ref (adr M.1) :: st) (mnM M) := e_mna d11_78 rfl h
theorem d11_82 : decode (cod 11) 82 = .ok (.putfield 32, 3) := by decide +kernel
theorem s11_82 {n : Nat} {I : Nat → Nat → Int32} {R : Nat → Nat → Option Nat} {st : List Value} {l0 l1 : Option Value} {a : Nat} {v : Value} : EE 11 82 [l0, l1] (v :: .ref a :: st) (n, I, R) = (pfI n I R 1 3 a v).bind (fun z => EE 11 85 [l0, l1] st (n, z.1, z.2)) := e_putf d11_82 f1_32 rfl rfl (Or.inl ⟨rfl, Or.inl rfl⟩)
theorem d11_85 : decode (cod 11) 85 = .ok (.aload_n 0, 1) := by decide +kernel
theorem s11_85 {M : Mm} {st : List Value} {l1 : Option Value} {x : Nat} : EE 11 85 [some (.ref x), l1] st M = EE 11 86 [some (.ref x), l1] (.ref x :: st) M := e_ld d11_85 rfl rfl rfl rfl rfl rfl
theorem d11_86 : decode (cod 11) 86 = .ok (.bipush 10, 2) := by decide +kernel
theorem s11_86 {M : Mm} {st : List Value} {l0 l1 : Option Value} : EE 11 86 [l0, l1] st M = EE 11 88 [l0, l1] (.int (nI 10) :: st) M := e_bip d11_86 k_bip_10
theorem d11_88 : decode (cod 11) 88 = .ok (.newarray .int, 2) := by decide +kernel
theorem s11_88 {st : List Value} {l0 l1 : Option Value} {w : Int32} {M : Mm} (h : M.1 < 202 ∧ kd (adr M.1) = 5 ∧ ¬ w < 0 ∧ w.toNatClampNeg = ln (adr M.1)) : EE 11 88 [l0, l1] (.int w :: st) M = EE 11 90 [l0, l1] (.ref (adr M.1) :: st) (bn M) := e_newa d11_88 h
theorem d11_90 : decode (cod 11) 90 = .ok (.putfield 35, 3) := by decide +kernel
theorem s11_90 {n : Nat} {I : Nat → Nat → Int32} {R : Nat → Nat → Option Nat} {st : List Value} {l0 l1 : Option Value} {a : Nat} {v : Value} : EE 11 90 [l0, l1] (v :: .ref a :: st) (n, I, R) = (pfI n I R 1 4 a v).bind (fun z => EE 11 93 [l0, l1] st (n, z.1, z.2)) := e_putf d11_90 f1_35 rfl rfl (Or.inl ⟨rfl, Or.inl rfl⟩)
theorem d11_93 : decode (cod 11) 93 = .ok (.aload_n 0, 1) := by decide +kernel
theorem s11_93 {M : Mm} {st : List Value} {l1 : Option Value} {x : Nat} : EE 11 93 [some (.ref x), l1] st M = EE 11 94 [some (.ref x), l1] (.ref x :: st) M := e_ld d11_93 rfl rfl rfl rfl rfl rfl
theorem d11_94 : decode (cod 11) 94 = .ok (.bipush 10, 2) := by decide +kernel
theorem s11_94 {M : Mm} {st : List Value} {l0 l1 : Option Value} : EE 11 94 [l0, l1] st M = EE 11 96 [l0, l1] (.int (nI 10) :: st) M := e_bip d11_94 k_bip_10
theorem d11_96 : decode (cod 11) 96 = .ok (.newarray .int, 2) := by decide +kernel
theorem s11_96 {st : List Value} {l0 l1 : Option Value} {w : Int32} {M : Mm} (h : M.1 < 202 ∧ kd (adr M.1) = 5 ∧ ¬ w < 0 ∧ w.toNatClampNeg = ln (adr M.1)) : EE 11 96 [l0, l1] (.int w :: st) M = EE 11 98 [l0, l1] (.ref (adr M.1) :: st) (bn M) := e_newa d11_96 h
theorem d11_98 : decode (cod 11) 98 = .ok (.putfield 38, 3) := by decide +kernel
theorem s11_98 {n : Nat} {I : Nat → Nat → Int32} {R : Nat → Nat → Option Nat} {st : List Value} {l0 l1 : Option Value} {a : Nat} {v : Value} : EE 11 98 [l0, l1] (v :: .ref a :: st) (n, I, R) = (pfI n I R 1 5 a v).bind (fun z => EE 11 101 [l0, l1] st (n, z.1, z.2)) := e_putf d11_98 f1_38 rfl rfl (Or.inl ⟨rfl, Or.inl rfl⟩)
theorem d11_101 : decode (cod 11) 101 = .ok (.aload_n 0, 1) := by decide +kernel
theorem s11_101 {M : Mm} {st : List Value} {l1 : Option Value} {x : Nat} : EE 11 101 [some (.ref x), l1] st M = EE 11 102 [some (.ref x), l1] (.ref x :: st) M := e_ld d11_101 rfl rfl rfl rfl rfl rfl
theorem d11_102 : decode (cod 11) 102 = .ok (.bipush 10, 2) := by decide +kernel
theorem s11_102 {M : Mm} {st : List Value} {l0 l1 : Option Value} : EE 11 102 [l0, l1] st M = EE 11 104 [l0, l1] (.int (nI 10) :: st) M := e_bip d11_102 k_bip_10
theorem d11_104 : decode (cod 11) 104 = .ok (.newarray .int, 2) := by decide +kernel
theorem s11_104 {st : List Value} {l0 l1 : Option Value} {w : Int32} {M : Mm} (h : M.1 < 202 ∧ kd (adr M.1) = 5 ∧ ¬ w < 0 ∧ w.toNatClampNeg = ln (adr M.1)) : EE 11 104 [l0, l1] (.int w :: st) M = EE 11 106 [l0, l1] (.ref (adr M.1) :: st) (bn M) := e_newa d11_104 h
theorem d11_106 : decode (cod 11) 106 = .ok (.putfield 41, 3) := by decide +kernel
theorem s11_106 {n : Nat} {I : Nat → Nat → Int32} {R : Nat → Nat → Option Nat} {st : List Value} {l0 l1 : Option Value} {a : Nat} {v : Value} : EE 11 106 [l0, l1] (v :: .ref a :: st) (n, I, R) = (pfI n I R 1 6 a v).bind (fun z => EE 11 109 [l0, l1] st (n, z.1, z.2)) := e_putf d11_106 f1_41 rfl rfl (Or.inl ⟨rfl, Or.inl rfl⟩)
theorem d11_109 : decode (cod 11) 109 = .ok (.aload_n 0, 1) := by decide +kernel
theorem s11_109 {M : Mm} {st : List Value} {l1 : Option Value} {x : Nat} : EE 11 109 [some (.ref x), l1] st M = EE 11 110 [some (.ref x), l1] (.ref x :: st) M := e_ld d11_109 rfl rfl rfl rfl rfl rfl
theorem d11_110 : decode (cod 11) 110 = .ok (.bipush 10, 2) := by decide +kernel
theorem s11_110 {M : Mm} {st : List Value} {l0 l1 : Option Value} : EE 11 110 [l0, l1] st M = EE 11 112 [l0, l1] (.int (nI 10) :: st) M := e_bip d11_110 k_bip_10
theorem d11_112 : decode (cod 11) 112 = .ok (.newarray .int, 2) := by decide +kernel
theorem s11_112 {st : List Value} {l0 l1 : Option Value} {w : Int32} {M : Mm} (h : M.1 < 202 ∧ kd (adr M.1) = 5 ∧ ¬ w < 0 ∧ w.toNatClampNeg = ln (adr M.1)) : EE 11 112 [l0, l1] (.int w :: st) M = EE 11 114 [l0, l1] (.ref (adr M.1) :: st) (bn M) := e_newa d11_112 h
theorem d11_114 : decode (cod 11) 114 = .ok (.putfield 44, 3) := by decide +kernel
theorem s11_114 {n : Nat} {I : Nat → Nat → Int32} {R : Nat → Nat → Option Nat} {st : List Value} {l0 l1 : Option Value} {a : Nat} {v : Value} : EE 11 114 [l0, l1] (v :: .ref a :: st) (n, I, R) = (pfI n I R 1 7 a v).bind (fun z => EE 11 117 [l0, l1] st (n, z.1, z.2)) := e_putf d11_114 f1_44 rfl rfl (Or.inl ⟨rfl, Or.inl rfl⟩)
theorem d11_117 : decode (cod 11) 117 = .ok (.return_, 1) := by decide +kernel
theorem s11_117 {M : Mm} {l0 l1 : Option Value} : EE 11 117 [l0, l1] [] M = some (none, M) := e_vret d11_117 rfl
theorem FE11 {a : Nat} {M : Mm} : FF 11 [.ref a] M = EE 11 0 [some (.ref a), none] [] M := FF_eq 11 _ _ (Nat.le_of_ble_eq_true rfl)
theorem d12_0 : decode (cod 12) 0 = .ok (.aload_n 1, 1) := by decide +kernel
theorem s12_0 {M : Mm} {st : List Value} {l0 l2 : Option Value} {x : Nat} : EE 12 0 [l0, some (.ref x), l2] st M = EE 12 1 [l0, some (.ref x), l2] (.ref x :: st) M := e_ld d12_0 rfl rfl rfl rfl rfl rfl
theorem d12_1 : decode (cod 12) 1 = .ok (.getfield 9, 3) := by decide +kernel
theorem s12_1 {n : Nat} {I : Nat → Nat → Int32} {R : Nat → Nat → Option Nat} {st : List Value} {l0 l1 l2 : Option Value} {a : Nat} : EE 12 1 [l0, l1, l2] (.ref a :: st) (n, I, R) = (gfI n I R 1 0 a).bind (fun z => EE 12 4 [l0, l1, l2] (z :: st) (n, I, R)) := e_getf d12_1 f1_9 rfl rfl
theorem d12_4 : decode (cod 12) 4 = .ok (.iconst 0, 1) := by decide +kernel
theorem s12_4 {M : Mm} {st : List Value} {l0 l1 l2 : Option Value} : EE 12 4 [l0, l1, l2] st M = EE 12 5 [l0, l1, l2] (.int (nI 0) :: st) M := e_con d12_4 k_con_0
theorem d12_5 : decode (cod 12) 5 = .ok (.aload_n 0, 1) := by decide +kernel
theorem s12_5 {M : Mm} {st : List Value} {l1 l2 : Option Value} {x : Nat} : EE 12 5 [some (.ref x), l1, l2] st M = EE 12 6 [some (.ref x), l1, l2] (.ref x :: st) M := e_ld d12_5 rfl rfl rfl rfl rfl rfl
theorem d12_6 : decode (cod 12) 6 = .ok (.getfield 9, 3) := by decide +kernel
theorem s12_6 {n : Nat} {I : Nat → Nat → Int32} {R : Nat → Nat → Option Nat} {st : List Value} {l0 l1 l2 : Option Value} {a : Nat} : EE 12 6 [l0, l1, l2] (.ref a :: st) (n, I, R) = (gfI n I R 1 0 a).bind (fun z => EE 12 9 [l0, l1, l2] (z :: st) (n, I, R)) := e_getf d12_6 f1_9 rfl rfl
theorem d12_9 : decode (cod 12) 9 = .ok (.iconst 0, 1) := by decide +kernel
theorem s12_9 {M : Mm} {st : List Value} {l0 l1 l2 : Option Value} : EE 12 9 [l0, l1, l2] st M = EE 12 10 [l0, l1, l2] (.int (nI 0) :: st) M := e_con d12_9 k_con_0
theorem d12_10 : decode (cod 12) 10 = .ok (.bipush 6, 2) := by decide +kernel
theorem s12_10 {M : Mm} {st : List Value} {l0 l1 l2 : Option Value} : EE 12 10 [l0, l1, l2] st M = EE 12 12 [l0, l1, l2] (.int (nI 6) :: st) M := e_bip d12_10 k_bip_6
theorem d12_12 : decode (cod 12) 12 = .ok (.invokestatic 18, 3) := by decide +kernel
theorem s12_12 {n : Nat} {I : Nat → Nat → Int32} {R : Nat → Nat → Option Nat} {l0 l1 l2 : Option Value} {a0 a1 : Nat} {sp dp w : Int32} {st : List Value} (hl : st.length ≤ 4) : EE 12 12 [l0, l1, l2] (.int w :: .int dp :: .ref a1 :: .int sp :: .ref a0 :: st) (n, I, R) = (cpI n I a0 sp a1 dp w).bind (fun z => EE 12 15 [l0, l1, l2] st (n, z, R)) := e_cpy d12_12 t1_18 t1_18n (by decide) hl
theorem d12_15 : decode (cod 12) 15 = .ok (.aload_n 1, 1) := by decide +kernel
theorem s12_15 {M : Mm} {st : List Value} {l0 l2 : Option Value} {x : Nat} : EE 12 15 [l0, some (.ref x), l2] st M = EE 12 16 [l0, some (.ref x), l2] (.ref x :: st) M := e_ld d12_15 rfl rfl rfl rfl rfl rfl
theorem d12_16 : decode (cod 12) 16 = .ok (.getfield 24, 3) := by decide +kernel
theorem s12_16 {n : Nat} {I : Nat → Nat → Int32} {R : Nat → Nat → Option Nat} {st : List Value} {l0 l1 l2 : Option Value} {a : Nat} : EE 12 16 [l0, l1, l2] (.ref a :: st) (n, I, R) = (gfI n I R 1 1 a).bind (fun z => EE 12 19 [l0, l1, l2] (z :: st) (n, I, R)) := e_getf d12_16 f1_24 rfl rfl
theorem d12_19 : decode (cod 12) 19 = .ok (.iconst 0, 1) := by decide +kernel
theorem s12_19 {M : Mm} {st : List Value} {l0 l1 l2 : Option Value} : EE 12 19 [l0, l1, l2] st M = EE 12 20 [l0, l1, l2] (.int (nI 0) :: st) M := e_con d12_19 k_con_0
theorem d12_20 : decode (cod 12) 20 = .ok (.aload_n 0, 1) := by decide +kernel
theorem s12_20 {M : Mm} {st : List Value} {l1 l2 : Option Value} {x : Nat} : EE 12 20 [some (.ref x), l1, l2] st M = EE 12 21 [some (.ref x), l1, l2] (.ref x :: st) M := e_ld d12_20 rfl rfl rfl rfl rfl rfl
theorem d12_21 : decode (cod 12) 21 = .ok (.getfield 24, 3) := by decide +kernel
theorem s12_21 {n : Nat} {I : Nat → Nat → Int32} {R : Nat → Nat → Option Nat} {st : List Value} {l0 l1 l2 : Option Value} {a : Nat} : EE 12 21 [l0, l1, l2] (.ref a :: st) (n, I, R) = (gfI n I R 1 1 a).bind (fun z => EE 12 24 [l0, l1, l2] (z :: st) (n, I, R)) := e_getf d12_21 f1_24 rfl rfl
theorem d12_24 : decode (cod 12) 24 = .ok (.iconst 0, 1) := by decide +kernel
theorem s12_24 {M : Mm} {st : List Value} {l0 l1 l2 : Option Value} : EE 12 24 [l0, l1, l2] st M = EE 12 25 [l0, l1, l2] (.int (nI 0) :: st) M := e_con d12_24 k_con_0
theorem d12_25 : decode (cod 12) 25 = .ok (.bipush 12, 2) := by decide +kernel
theorem s12_25 {M : Mm} {st : List Value} {l0 l1 l2 : Option Value} : EE 12 25 [l0, l1, l2] st M = EE 12 27 [l0, l1, l2] (.int (nI 12) :: st) M := e_bip d12_25 k_bip_12
theorem d12_27 : decode (cod 12) 27 = .ok (.invokestatic 18, 3) := by decide +kernel
theorem s12_27 {n : Nat} {I : Nat → Nat → Int32} {R : Nat → Nat → Option Nat} {l0 l1 l2 : Option Value} {a0 a1 : Nat} {sp dp w : Int32} {st : List Value} (hl : st.length ≤ 4) : EE 12 27 [l0, l1, l2] (.int w :: .int dp :: .ref a1 :: .int sp :: .ref a0 :: st) (n, I, R) = (cpI n I a0 sp a1 dp w).bind (fun z => EE 12 30 [l0, l1, l2] st (n, z, R)) := e_cpy d12_27 t1_18 t1_18n (by decide) hl
theorem d12_30 : decode (cod 12) 30 = .ok (.aload_n 1, 1) := by decide +kernel
theorem s12_30 {M : Mm} {st : List Value} {l0 l2 : Option Value} {x : Nat} : EE 12 30 [l0, some (.ref x), l2] st M = EE 12 31 [l0, some (.ref x), l2] (.ref x :: st) M := e_ld d12_30 rfl rfl rfl rfl rfl rfl
theorem d12_31 : decode (cod 12) 31 = .ok (.getfield 27, 3) := by decide +kernel
theorem s12_31 {n : Nat} {I : Nat → Nat → Int32} {R : Nat → Nat → Option Nat} {st : List Value} {l0 l1 l2 : Option Value} {a : Nat} : EE 12 31 [l0, l1, l2] (.ref a :: st) (n, I, R) = (gfI n I R 1 2 a).bind (fun z => EE 12 34 [l0, l1, l2] (z :: st) (n, I, R)) := e_getf d12_31 f1_27 rfl rfl
theorem d12_34 : decode (cod 12) 34 = .ok (.iconst 0, 1) := by decide +kernel
theorem s12_34 {M : Mm} {st : List Value} {l0 l1 l2 : Option Value} : EE 12 34 [l0, l1, l2] st M = EE 12 35 [l0, l1, l2] (.int (nI 0) :: st) M := e_con d12_34 k_con_0
theorem d12_35 : decode (cod 12) 35 = .ok (.aload_n 0, 1) := by decide +kernel
theorem s12_35 {M : Mm} {st : List Value} {l1 l2 : Option Value} {x : Nat} : EE 12 35 [some (.ref x), l1, l2] st M = EE 12 36 [some (.ref x), l1, l2] (.ref x :: st) M := e_ld d12_35 rfl rfl rfl rfl rfl rfl
theorem d12_36 : decode (cod 12) 36 = .ok (.getfield 27, 3) := by decide +kernel
theorem s12_36 {n : Nat} {I : Nat → Nat → Int32} {R : Nat → Nat → Option Nat} {st : List Value} {l0 l1 l2 : Option Value} {a : Nat} : EE 12 36 [l0, l1, l2] (.ref a :: st) (n, I, R) = (gfI n I R 1 2 a).bind (fun z => EE 12 39 [l0, l1, l2] (z :: st) (n, I, R)) := e_getf d12_36 f1_27 rfl rfl
theorem d12_39 : decode (cod 12) 39 = .ok (.iconst 0, 1) := by decide +kernel
theorem s12_39 {M : Mm} {st : List Value} {l0 l1 l2 : Option Value} : EE 12 39 [l0, l1, l2] st M = EE 12 40 [l0, l1, l2] (.int (nI 0) :: st) M := e_con d12_39 k_con_0
theorem d12_40 : decode (cod 12) 40 = .ok (.bipush 12, 2) := by decide +kernel
theorem s12_40 {M : Mm} {st : List Value} {l0 l1 l2 : Option Value} : EE 12 40 [l0, l1, l2] st M = EE 12 42 [l0, l1, l2] (.int (nI 12) :: st) M := e_bip d12_40 k_bip_12
theorem d12_42 : decode (cod 12) 42 = .ok (.invokestatic 18, 3) := by decide +kernel
theorem s12_42 {n : Nat} {I : Nat → Nat → Int32} {R : Nat → Nat → Option Nat} {l0 l1 l2 : Option Value} {a0 a1 : Nat} {sp dp w : Int32} {st : List Value} (hl : st.length ≤ 4) : EE 12 42 [l0, l1, l2] (.int w :: .int dp :: .ref a1 :: .int sp :: .ref a0 :: st) (n, I, R) = (cpI n I a0 sp a1 dp w).bind (fun z => EE 12 45 [l0, l1, l2] st (n, z, R)) := e_cpy d12_42 t1_18 t1_18n (by decide) hl
theorem d12_45 : decode (cod 12) 45 = .ok (.iconst 0, 1) := by decide +kernel
theorem s12_45 {M : Mm} {st : List Value} {l0 l1 l2 : Option Value} : EE 12 45 [l0, l1, l2] st M = EE 12 46 [l0, l1, l2] (.int (nI 0) :: st) M := e_con d12_45 k_con_0
theorem d12_46 : decode (cod 12) 46 = .ok (.istore_n 2, 1) := by decide +kernel
theorem s12_46 {M : Mm} {st : List Value} {l0 l1 l2 : Option Value} {x : Int32} : EE 12 46 [l0, l1, l2] (.int x :: st) M = EE 12 47 [l0, cln l1, some (.int x)] st M := e_st1 d12_46 rfl rfl rfl rfl rfl rfl rfl (Nat.le_of_ble_eq_true rfl) rfl
theorem d12_47 : decode (cod 12) 47 = .ok (.iload_n 2, 1) := by decide +kernel
theorem s12_47 {M : Mm} {st : List Value} {l0 l1 : Option Value} {x : Int32} : EE 12 47 [l0, l1, some (.int x)] st M = EE 12 48 [l0, l1, some (.int x)] (.int x :: st) M := e_ld d12_47 rfl rfl rfl rfl rfl rfl
theorem d12_48 : decode (cod 12) 48 = .ok (.bipush 6, 2) := by decide +kernel
theorem s12_48 {M : Mm} {st : List Value} {l0 l1 l2 : Option Value} : EE 12 48 [l0, l1, l2] st M = EE 12 50 [l0, l1, l2] (.int (nI 6) :: st) M := e_bip d12_48 k_bip_6
theorem d12_50 : decode (cod 12) 50 = .ok (.if_icmp .ge 28, 3) := by decide +kernel
theorem s12_50 {M : Mm} {st : List Value} {l0 l1 l2 : Option Value} {x y : Int32} : EE 12 50 [l0, l1, l2] (.int y :: .int x :: st) M = if y ≤ x then EE 12 78 [l0, l1, l2] st M else EE 12 53 [l0, l1, l2] st M := e_cge d12_50 (by decide)
theorem d12_53 : decode (cod 12) 53 = .ok (.aload_n 1, 1) := by decide +kernel
theorem s12_53 {M : Mm} {st : List Value} {l0 l2 : Option Value} {x : Nat} : EE 12 53 [l0, some (.ref x), l2] st M = EE 12 54 [l0, some (.ref x), l2] (.ref x :: st) M := e_ld d12_53 rfl rfl rfl rfl rfl rfl
theorem d12_54 : decode (cod 12) 54 = .ok (.getfield 32, 3) := by decide +kernel
theorem s12_54 {n : Nat} {I : Nat → Nat → Int32} {R : Nat → Nat → Option Nat} {st : List Value} {l0 l1 l2 : Option Value} {a : Nat} : EE 12 54 [l0, l1, l2] (.ref a :: st) (n, I, R) = (gfI n I R 1 3 a).bind (fun z => EE 12 57 [l0, l1, l2] (z :: st) (n, I, R)) := e_getf d12_54 f1_32 rfl rfl
theorem d12_57 : decode (cod 12) 57 = .ok (.iload_n 2, 1) := by decide +kernel
theorem s12_57 {M : Mm} {st : List Value} {l0 l1 : Option Value} {x : Int32} : EE 12 57 [l0, l1, some (.int x)] st M = EE 12 58 [l0, l1, some (.int x)] (.int x :: st) M := e_ld d12_57 rfl rfl rfl rfl rfl rfl
theorem d12_58 : decode (cod 12) 58 = .ok (.aaload, 1) := by decide +kernel
theorem s12_58 {n : Nat} {I : Nat → Nat → Int32} {R : Nat → Nat → Option Nat} {st : List Value} {l0 l1 l2 : Option Value} {j : Int32} {a : Nat} (h : 8 ≤ kd a ∧ a < 1000 ∧ pos a < n ∧ inb j (ln a)) : EE 12 58 [l0, l1, l2] (.int j :: .ref a :: st) (n, I, R) = EE 12 59 [l0, l1, l2] (va_rf (R a j.toNatClampNeg) :: st) (n, I, R) := e_aald d12_58 h
theorem d12_59 : decode (cod 12) 59 = .ok (.iconst 0, 1) := by decide +kernel
theorem s12_59 {M : Mm} {st : List Value} {l0 l1 l2 : Option Value} : EE 12 59 [l0, l1, l2] st M = EE 12 60 [l0, l1, l2] (.int (nI 0) :: st) M := e_con d12_59 k_con_0
theorem d12_60 : decode (cod 12) 60 = .ok (.aload_n 0, 1) := by decide +kernel
theorem s12_60 {M : Mm} {st : List Value} {l1 l2 : Option Value} {x : Nat} : EE 12 60 [some (.ref x), l1, l2] st M = EE 12 61 [some (.ref x), l1, l2] (.ref x :: st) M := e_ld d12_60 rfl rfl rfl rfl rfl rfl
theorem d12_61 : decode (cod 12) 61 = .ok (.getfield 32, 3) := by decide +kernel
theorem s12_61 {n : Nat} {I : Nat → Nat → Int32} {R : Nat → Nat → Option Nat} {st : List Value} {l0 l1 l2 : Option Value} {a : Nat} : EE 12 61 [l0, l1, l2] (.ref a :: st) (n, I, R) = (gfI n I R 1 3 a).bind (fun z => EE 12 64 [l0, l1, l2] (z :: st) (n, I, R)) := e_getf d12_61 f1_32 rfl rfl
theorem d12_64 : decode (cod 12) 64 = .ok (.iload_n 2, 1) := by decide +kernel
theorem s12_64 {M : Mm} {st : List Value} {l0 l1 : Option Value} {x : Int32} : EE 12 64 [l0, l1, some (.int x)] st M = EE 12 65 [l0, l1, some (.int x)] (.int x :: st) M := e_ld d12_64 rfl rfl rfl rfl rfl rfl
theorem d12_65 : decode (cod 12) 65 = .ok (.aaload, 1) := by decide +kernel
theorem s12_65 {n : Nat} {I : Nat → Nat → Int32} {R : Nat → Nat → Option Nat} {st : List Value} {l0 l1 l2 : Option Value} {j : Int32} {a : Nat} (h : 8 ≤ kd a ∧ a < 1000 ∧ pos a < n ∧ inb j (ln a)) : EE 12 65 [l0, l1, l2] (.int j :: .ref a :: st) (n, I, R) = EE 12 66 [l0, l1, l2] (va_rf (R a j.toNatClampNeg) :: st) (n, I, R) := e_aald d12_65 h
theorem d12_66 : decode (cod 12) 66 = .ok (.iconst 0, 1) := by decide +kernel
theorem s12_66 {M : Mm} {st : List Value} {l0 l1 l2 : Option Value} : EE 12 66 [l0, l1, l2] st M = EE 12 67 [l0, l1, l2] (.int (nI 0) :: st) M := e_con d12_66 k_con_0
theorem d12_67 : decode (cod 12) 67 = .ok (.bipush 10, 2) := by decide +kernel
theorem s12_67 {M : Mm} {st : List Value} {l0 l1 l2 : Option Value} : EE 12 67 [l0, l1, l2] st M = EE 12 69 [l0, l1, l2] (.int (nI 10) :: st) M := e_bip d12_67 k_bip_10
theorem d12_69 : decode (cod 12) 69 = .ok (.invokestatic 18, 3) := by decide +kernel
theorem s12_69 {n : Nat} {I : Nat → Nat → Int32} {R : Nat → Nat → Option Nat} {l0 l1 l2 : Option Value} {a0 a1 : Nat} {sp dp w : Int32} {st : List Value} (hl : st.length ≤ 4) : EE 12 69 [l0, l1, l2] (.int w :: .int dp :: .ref a1 :: .int sp :: .ref a0 :: st) (n, I, R) = (cpI n I a0 sp a1 dp w).bind (fun z => EE 12 72 [l0, l1, l2] st (n, z, R)) := e_cpy d12_69 t1_18 t1_18n (by decide) hl
theorem d12_72 : decode (cod 12) 72 = .ok (.iinc 2 1, 3) := by decide +kernel
theorem s12_72 {M : Mm} {st : List Value} {l0 l1 : Option Value} {x : Int32} : EE 12 72 [l0, l1, some (.int x)] st M = EE 12 75 [l0, cln l1, some (.int (x + nI 1))] st M := e_iinc d12_72 rfl (congrArg (fun z => x + z) k_inc_1) rfl
theorem d12_75 : decode (cod 12) 75 = .ok (.goto (-28), 3) := by decide +kernel
theorem s12_75 {M : Mm} {st : List Value} {l0 l1 l2 : Option Value} : EE 12 75 [l0, l1, l2] st M = EE 12 47 [l0, l1, l2] st M := e_goto d12_75 (by decide)
theorem d12_78 : decode (cod 12) 78 = .ok (.aload_n 1, 1) := by decide +kernel
theorem s12_78 {M : Mm} {st : List Value} {l0 l2 : Option Value} {x : Nat} : EE 12 78 [l0, some (.ref x), l2] st M = EE 12 79 [l0, some (.ref x), l2] (.ref x :: st) M := e_ld d12_78 rfl rfl rfl rfl rfl rfl
theorem d12_79 : decode (cod 12) 79 = .ok (.getfield 35, 3) := by decide +kernel
theorem s12_79 {n : Nat} {I : Nat → Nat → Int32} {R : Nat → Nat → Option Nat} {st : List Value} {l0 l1 l2 : Option Value} {a : Nat} : EE 12 79 [l0, l1, l2] (.ref a :: st) (n, I, R) = (gfI n I R 1 4 a).bind (fun z => EE 12 82 [l0, l1, l2] (z :: st) (n, I, R)) := e_getf d12_79 f1_35 rfl rfl
theorem d12_82 : decode (cod 12) 82 = .ok (.iconst 0, 1) := by decide +kernel
theorem s12_82 {M : Mm} {st : List Value} {l0 l1 l2 : Option Value} : EE 12 82 [l0, l1, l2] st M = EE 12 83 [l0, l1, l2] (.int (nI 0) :: st) M := e_con d12_82 k_con_0
theorem d12_83 : decode (cod 12) 83 = .ok (.aload_n 0, 1) := by decide +kernel
theorem s12_83 {M : Mm} {st : List Value} {l1 l2 : Option Value} {x : Nat} : EE 12 83 [some (.ref x), l1, l2] st M = EE 12 84 [some (.ref x), l1, l2] (.ref x :: st) M := e_ld d12_83 rfl rfl rfl rfl rfl rfl
theorem d12_84 : decode (cod 12) 84 = .ok (.getfield 35, 3) := by decide +kernel
theorem s12_84 {n : Nat} {I : Nat → Nat → Int32} {R : Nat → Nat → Option Nat} {st : List Value} {l0 l1 l2 : Option Value} {a : Nat} : EE 12 84 [l0, l1, l2] (.ref a :: st) (n, I, R) = (gfI n I R 1 4 a).bind (fun z => EE 12 87 [l0, l1, l2] (z :: st) (n, I, R)) := e_getf d12_84 f1_35 rfl rfl
theorem d12_87 : decode (cod 12) 87 = .ok (.iconst 0, 1) := by decide +kernel
theorem s12_87 {M : Mm} {st : List Value} {l0 l1 l2 : Option Value} : EE 12 87 [l0, l1, l2] st M = EE 12 88 [l0, l1, l2] (.int (nI 0) :: st) M := e_con d12_87 k_con_0
theorem d12_88 : decode (cod 12) 88 = .ok (.bipush 10, 2) := by decide +kernel
theorem s12_88 {M : Mm} {st : List Value} {l0 l1 l2 : Option Value} : EE 12 88 [l0, l1, l2] st M = EE 12 90 [l0, l1, l2] (.int (nI 10) :: st) M := e_bip d12_88 k_bip_10
theorem d12_90 : decode (cod 12) 90 = .ok (.invokestatic 18, 3) := by decide +kernel
theorem s12_90 {n : Nat} {I : Nat → Nat → Int32} {R : Nat → Nat → Option Nat} {l0 l1 l2 : Option Value} {a0 a1 : Nat} {sp dp w : Int32} {st : List Value} (hl : st.length ≤ 4) : EE 12 90 [l0, l1, l2] (.int w :: .int dp :: .ref a1 :: .int sp :: .ref a0 :: st) (n, I, R) = (cpI n I a0 sp a1 dp w).bind (fun z => EE 12 93 [l0, l1, l2] st (n, z, R)) := e_cpy d12_90 t1_18 t1_18n (by decide) hl
theorem d12_93 : decode (cod 12) 93 = .ok (.aload_n 1, 1) := by decide +kernel
theorem s12_93 {M : Mm} {st : List Value} {l0 l2 : Option Value} {x : Nat} : EE 12 93 [l0, some (.ref x), l2] st M = EE 12 94 [l0, some (.ref x), l2] (.ref x :: st) M := e_ld d12_93 rfl rfl rfl rfl rfl rfl
theorem d12_94 : decode (cod 12) 94 = .ok (.getfield 38, 3) := by decide +kernel
theorem s12_94 {n : Nat} {I : Nat → Nat → Int32} {R : Nat → Nat → Option Nat} {st : List Value} {l0 l1 l2 : Option Value} {a : Nat} : EE 12 94 [l0, l1, l2] (.ref a :: st) (n, I, R) = (gfI n I R 1 5 a).bind (fun z => EE 12 97 [l0, l1, l2] (z :: st) (n, I, R)) := e_getf d12_94 f1_38 rfl rfl
theorem d12_97 : decode (cod 12) 97 = .ok (.iconst 0, 1) := by decide +kernel
theorem s12_97 {M : Mm} {st : List Value} {l0 l1 l2 : Option Value} : EE 12 97 [l0, l1, l2] st M = EE 12 98 [l0, l1, l2] (.int (nI 0) :: st) M := e_con d12_97 k_con_0
theorem d12_98 : decode (cod 12) 98 = .ok (.aload_n 0, 1) := by decide +kernel
theorem s12_98 {M : Mm} {st : List Value} {l1 l2 : Option Value} {x : Nat} : EE 12 98 [some (.ref x), l1, l2] st M = EE 12 99 [some (.ref x), l1, l2] (.ref x :: st) M := e_ld d12_98 rfl rfl rfl rfl rfl rfl
theorem d12_99 : decode (cod 12) 99 = .ok (.getfield 38, 3) := by decide +kernel
theorem s12_99 {n : Nat} {I : Nat → Nat → Int32} {R : Nat → Nat → Option Nat} {st : List Value} {l0 l1 l2 : Option Value} {a : Nat} : EE 12 99 [l0, l1, l2] (.ref a :: st) (n, I, R) = (gfI n I R 1 5 a).bind (fun z => EE 12 102 [l0, l1, l2] (z :: st) (n, I, R)) := e_getf d12_99 f1_38 rfl rfl
theorem d12_102 : decode (cod 12) 102 = .ok (.iconst 0, 1) := by decide +kernel
theorem s12_102 {M : Mm} {st : List Value} {l0 l1 l2 : Option Value} : EE 12 102 [l0, l1, l2] st M = EE 12 103 [l0, l1, l2] (.int (nI 0) :: st) M := e_con d12_102 k_con_0
theorem d12_103 : decode (cod 12) 103 = .ok (.bipush 10, 2) := by decide +kernel
theorem s12_103 {M : Mm} {st : List Value} {l0 l1 l2 : Option Value} : EE 12 103 [l0, l1, l2] st M = EE 12 105 [l0, l1, l2] (.int (nI 10) :: st) M := e_bip d12_103 k_bip_10
theorem d12_105 : decode (cod 12) 105 = .ok (.invokestatic 18, 3) := by decide +kernel
theorem s12_105 {n : Nat} {I : Nat → Nat → Int32} {R : Nat → Nat → Option Nat} {l0 l1 l2 : Option Value} {a0 a1 : Nat} {sp dp w : Int32} {st : List Value} (hl : st.length ≤ 4) : EE 12 105 [l0, l1, l2] (.int w :: .int dp :: .ref a1 :: .int sp :: .ref a0 :: st) (n, I, R) = (cpI n I a0 sp a1 dp w).bind (fun z => EE 12 108 [l0, l1, l2] st (n, z, R)) := e_cpy d12_105 t1_18 t1_18n (by decide) hl
theorem d12_108 : decode (cod 12) 108 = .ok (.aload_n 1, 1) := by decide +kernel
theorem s12_108 {M : Mm} {st : List Value} {l0 l2 : Option Value} {x : Nat} : EE 12 108 [l0, some (.ref x), l2] st M = EE 12 109 [l0, some (.ref x), l2] (.ref x :: st) M := e_ld d12_108 rfl rfl rfl rfl rfl rfl
theorem d12_109 : decode (cod 12) 109 = .ok (.getfield 41, 3) := by decide +kernel
theorem s12_109 {n : Nat} {I : Nat → Nat → Int32} {R : Nat → Nat → Option Nat} {st : List Value} {l0 l1 l2 : Option Value} {a : Nat} : EE 12 109 [l0, l1, l2] (.ref a :: st) (n, I, R) = (gfI n I R 1 6 a).bind (fun z => EE 12 112 [l0, l1, l2] (z :: st) (n, I, R)) := e_getf d12_109 f1_41 rfl rfl
theorem d12_112 : decode (cod 12) 112 = .ok (.iconst 0, 1) := by decide +kernel
theorem s12_112 {M : Mm} {st : List Value} {l0 l1 l2 : Option Value} : EE 12 112 [l0, l1, l2] st M = EE 12 113 [l0, l1, l2] (.int (nI 0) :: st) M := e_con d12_112 k_con_0
theorem d12_113 : decode (cod 12) 113 = .ok (.aload_n 0, 1) := by decide +kernel
theorem s12_113 {M : Mm} {st : List Value} {l1 l2 : Option Value} {x : Nat} : EE 12 113 [some (.ref x), l1, l2] st M = EE 12 114 [some (.ref x), l1, l2] (.ref x :: st) M := e_ld d12_113 rfl rfl rfl rfl rfl rfl
theorem d12_114 : decode (cod 12) 114 = .ok (.getfield 41, 3) := by decide +kernel
theorem s12_114 {n : Nat} {I : Nat → Nat → Int32} {R : Nat → Nat → Option Nat} {st : List Value} {l0 l1 l2 : Option Value} {a : Nat} : EE 12 114 [l0, l1, l2] (.ref a :: st) (n, I, R) = (gfI n I R 1 6 a).bind (fun z => EE 12 117 [l0, l1, l2] (z :: st) (n, I, R)) := e_getf d12_114 f1_41 rfl rfl
theorem d12_117 : decode (cod 12) 117 = .ok (.iconst 0, 1) := by decide +kernel
theorem s12_117 {M : Mm} {st : List Value} {l0 l1 l2 : Option Value} : EE 12 117 [l0, l1, l2] st M = EE 12 118 [l0, l1, l2] (.int (nI 0) :: st) M := e_con d12_117 k_con_0
theorem d12_118 : decode (cod 12) 118 = .ok (.bipush 10, 2) := by decide +kernel
theorem s12_118 {M : Mm} {st : List Value} {l0 l1 l2 : Option Value} : EE 12 118 [l0, l1, l2] st M = EE 12 120 [l0, l1, l2] (.int (nI 10) :: st) M := e_bip d12_118 k_bip_10
theorem d12_120 : decode (cod 12) 120 = .ok (.invokestatic 18, 3) := by decide +kernel
theorem s12_120 {n : Nat} {I : Nat → Nat → Int32} {R : Nat → Nat → Option Nat} {l0 l1 l2 : Option Value} {a0 a1 : Nat} {sp dp w : Int32} {st : List Value} (hl : st.length ≤ 4) : EE 12 120 [l0, l1, l2] (.int w :: .int dp :: .ref a1 :: .int sp :: .ref a0 :: st) (n, I, R) = (cpI n I a0 sp a1 dp w).bind (fun z => EE 12 123 [l0, l1, l2] st (n, z, R)) := e_cpy d12_120 t1_18 t1_18n (by decide) hl
theorem d12_123 : decode (cod 12) 123 = .ok (.aload_n 1, 1) := by decide +kernel
theorem s12_123 {M : Mm} {st : List Value} {l0 l2 : Option Value} {x : Nat} : EE 12 123 [l0, some (.ref x), l2] st M = EE 12 124 [l0, some (.ref x), l2] (.ref x :: st) M := e_ld d12_123 rfl rfl rfl rfl rfl rfl
theorem d12_124 : decode (cod 12) 124 = .ok (.getfield 44, 3) := by decide +kernel
theorem s12_124 {n : Nat} {I : Nat → Nat → Int32} {R : Nat → Nat → Option Nat} {st : List Value} {l0 l1 l2 : Option Value} {a : Nat} : EE 12 124 [l0, l1, l2] (.ref a :: st) (n, I, R) = (gfI n I R 1 7 a).bind (fun z => EE 12 127 [l0, l1, l2] (z :: st) (n, I, R)) := e_getf d12_124 f1_44 rfl rfl
theorem d12_127 : decode (cod 12) 127 = .ok (.iconst 0, 1) := by decide +kernel
theorem s12_127 {M : Mm} {st : List Value} {l0 l1 l2 : Option Value} : EE 12 127 [l0, l1, l2] st M = EE 12 128 [l0, l1, l2] (.int (nI 0) :: st) M := e_con d12_127 k_con_0
theorem d12_128 : decode (cod 12) 128 = .ok (.aload_n 0, 1) := by decide +kernel
theorem s12_128 {M : Mm} {st : List Value} {l1 l2 : Option Value} {x : Nat} : EE 12 128 [some (.ref x), l1, l2] st M = EE 12 129 [some (.ref x), l1, l2] (.ref x :: st) M := e_ld d12_128 rfl rfl rfl rfl rfl rfl
theorem d12_129 : decode (cod 12) 129 = .ok (.getfield 44, 3) := by decide +kernel
theorem s12_129 {n : Nat} {I : Nat → Nat → Int32} {R : Nat → Nat → Option Nat} {st : List Value} {l0 l1 l2 : Option Value} {a : Nat} : EE 12 129 [l0, l1, l2] (.ref a :: st) (n, I, R) = (gfI n I R 1 7 a).bind (fun z => EE 12 132 [l0, l1, l2] (z :: st) (n, I, R)) := e_getf d12_129 f1_44 rfl rfl
theorem d12_132 : decode (cod 12) 132 = .ok (.iconst 0, 1) := by decide +kernel
theorem s12_132 {M : Mm} {st : List Value} {l0 l1 l2 : Option Value} : EE 12 132 [l0, l1, l2] st M = EE 12 133 [l0, l1, l2] (.int (nI 0) :: st) M := e_con d12_132 k_con_0
theorem d12_133 : decode (cod 12) 133 = .ok (.bipush 10, 2) := by decide +kernel
theorem s12_133 {M : Mm} {st : List Value} {l0 l1 l2 : Option Value} : EE 12 133 [l0, l1, l2] st M = EE 12 135 [l0, l1, l2] (.int (nI 10) :: st) M := e_bip d12_133 k_bip_10
theorem d12_135 : decode (cod 12) 135 = .ok (.invokestatic 18, 3) := by decide +kernel
theorem s12_135 {n : Nat} {I : Nat → Nat → Int32} {R : Nat → Nat → Option Nat} {l0 l1 l2 : Option Value} {a0 a1 : Nat} {sp dp w : Int32} {st : List Value} (hl : st.length ≤ 4) : EE 12 135 [l0, l1, l2] (.int w :: .int dp :: .ref a1 :: .int sp :: .ref a0 :: st) (n, I, R) = (cpI n I a0 sp a1 dp w).bind (fun z => EE 12 138 [l0, l1, l2] st (n, z, R)) := e_cpy d12_135 t1_18 t1_18n (by decide) hl
theorem d12_138 : decode (cod 12) 138 = .ok (.aload_n 0, 1) := by decide +kernel
theorem s12_138 {M : Mm} {st : List Value} {l1 l2 : Option Value} {x : Nat} : EE 12 138 [some (.ref x), l1, l2] st M = EE 12 139 [some (.ref x), l1, l2] (.ref x :: st) M := e_ld d12_138 rfl rfl rfl rfl rfl rfl
theorem d12_139 : decode (cod 12) 139 = .ok (.aload_n 1, 1) := by decide +kernel
theorem s12_139 {M : Mm} {st : List Value} {l0 l2 : Option Value} {x : Nat} : EE 12 139 [l0, some (.ref x), l2] st M = EE 12 140 [l0, some (.ref x), l2] (.ref x :: st) M := e_ld d12_139 rfl rfl rfl rfl rfl rfl
theorem d12_140 : decode (cod 12) 140 = .ok (.getfield 47, 3) := by decide +kernel
theorem s12_140 {n : Nat} {I : Nat → Nat → Int32} {R : Nat → Nat → Option Nat} {st : List Value} {l0 l1 l2 : Option Value} {a : Nat} : EE 12 140 [l0, l1, l2] (.ref a :: st) (n, I, R) = (gfI n I R 1 8 a).bind (fun z => EE 12 143 [l0, l1, l2] (z :: st) (n, I, R)) := e_getf d12_140 f1_47 rfl rfl
theorem d12_143 : decode (cod 12) 143 = .ok (.putfield 47, 3) := by decide +kernel
theorem s12_143 {n : Nat} {I : Nat → Nat → Int32} {R : Nat → Nat → Option Nat} {st : List Value} {l0 l1 l2 : Option Value} {a : Nat} {v : Value} : EE 12 143 [l0, l1, l2] (v :: .ref a :: st) (n, I, R) = (pfI n I R 1 8 a v).bind (fun z => EE 12 146 [l0, l1, l2] st (n, z.1, z.2)) := e_putf d12_143 f1_47 rfl rfl (Or.inr rfl)
theorem d12_146 : decode (cod 12) 146 = .ok (.aload_n 0, 1) := by decide +kernel
theorem s12_146 {M : Mm} {st : List Value} {l1 l2 : Option Value} {x : Nat} : EE 12 146 [some (.ref x), l1, l2] st M = EE 12 147 [some (.ref x), l1, l2] (.ref x :: st) M := e_ld d12_146 rfl rfl rfl rfl rfl rfl
theorem d12_147 : decode (cod 12) 147 = .ok (.aload_n 1, 1) := by decide +kernel
theorem s12_147 {M : Mm} {st : List Value} {l0 l2 : Option Value} {x : Nat} : EE 12 147 [l0, some (.ref x), l2] st M = EE 12 148 [l0, some (.ref x), l2] (.ref x :: st) M := e_ld d12_147 rfl rfl rfl rfl rfl rfl
theorem d12_148 : decode (cod 12) 148 = .ok (.getfield 51, 3) := by decide +kernel
theorem s12_148 {n : Nat} {I : Nat → Nat → Int32} {R : Nat → Nat → Option Nat} {st : List Value} {l0 l1 l2 : Option Value} {a : Nat} : EE 12 148 [l0, l1, l2] (.ref a :: st) (n, I, R) = (gfI n I R 1 9 a).bind (fun z => EE 12 151 [l0, l1, l2] (z :: st) (n, I, R)) := e_getf d12_148 f1_51 rfl rfl
theorem d12_151 : decode (cod 12) 151 = .ok (.putfield 51, 3) := by decide +kernel
theorem s12_151 {n : Nat} {I : Nat → Nat → Int32} {R : Nat → Nat → Option Nat} {st : List Value} {l0 l1 l2 : Option Value} {a : Nat} {v : Value} : EE 12 151 [l0, l1, l2] (v :: .ref a :: st) (n, I, R) = (pfI n I R 1 9 a v).bind (fun z => EE 12 154 [l0, l1, l2] st (n, z.1, z.2)) := e_putf d12_151 f1_51 rfl rfl (Or.inr rfl)
theorem d12_154 : decode (cod 12) 154 = .ok (.aload_n 0, 1) := by decide +kernel
theorem s12_154 {M : Mm} {st : List Value} {l1 l2 : Option Value} {x : Nat} : EE 12 154 [some (.ref x), l1, l2] st M = EE 12 155 [some (.ref x), l1, l2] (.ref x :: st) M := e_ld d12_154 rfl rfl rfl rfl rfl rfl
theorem d12_155 : decode (cod 12) 155 = .ok (.aload_n 1, 1) := by decide +kernel
theorem s12_155 {M : Mm} {st : List Value} {l0 l2 : Option Value} {x : Nat} : EE 12 155 [l0, some (.ref x), l2] st M = EE 12 156 [l0, some (.ref x), l2] (.ref x :: st) M := e_ld d12_155 rfl rfl rfl rfl rfl rfl
theorem d12_156 : decode (cod 12) 156 = .ok (.getfield 54, 3) := by decide +kernel
theorem s12_156 {n : Nat} {I : Nat → Nat → Int32} {R : Nat → Nat → Option Nat} {st : List Value} {l0 l1 l2 : Option Value} {a : Nat} : EE 12 156 [l0, l1, l2] (.ref a :: st) (n, I, R) = (gfI n I R 1 10 a).bind (fun z => EE 12 159 [l0, l1, l2] (z :: st) (n, I, R)) := e_getf d12_156 f1_54 rfl rfl
theorem d12_159 : decode (cod 12) 159 = .ok (.putfield 54, 3) := by decide +kernel
theorem s12_159 {n : Nat} {I : Nat → Nat → Int32} {R : Nat → Nat → Option Nat} {st : List Value} {l0 l1 l2 : Option Value} {a : Nat} {v : Value} : EE 12 159 [l0, l1, l2] (v :: .ref a :: st) (n, I, R) = (pfI n I R 1 10 a v).bind (fun z => EE 12 162 [l0, l1, l2] st (n, z.1, z.2)) := e_putf d12_159 f1_54 rfl rfl (Or.inr rfl)
theorem d12_162 : decode (cod 12) 162 = .ok (.aload_n 0, 1) := by decide +kernel
theorem s12_162 {M : Mm} {st : List Value} {l1 l2 : Option Value} {x : Nat} : EE 12 162 [some (.ref x), l1, l2] st M = EE 12 163 [some (.ref x), l1, l2] (.ref x :: st) M := e_ld d12_162 rfl rfl rfl rfl rfl rfl
theorem d12_163 : decode (cod 12) 163 = .ok (.aload_n 1, 1) := by decide +kernel
theorem s12_163 {M : Mm} {st : List Value} {l0 l2 : Option Value} {x : Nat} : EE 12 163 [l0, some (.ref x), l2] st M = EE 12 164 [l0, some (.ref x), l2] (.ref x :: st) M := e_ld d12_163 rfl rfl rfl rfl rfl rfl
theorem d12_164 : decode (cod 12) 164 = .ok (.getfield 57, 3) := by decide +kernel
theorem s12_164 {n : Nat} {I : Nat → Nat → Int32} {R : Nat → Nat → Option Nat} {st : List Value} {l0 l1 l2 : Option Value} {a : Nat} : EE 12 164 [l0, l1, l2] (.ref a :: st) (n, I, R) = (gfI n I R 1 11 a).bind (fun z => EE 12 167 [l0, l1, l2] (z :: st) (n, I, R)) := e_getf d12_164 f1_57 rfl rfl
theorem d12_167 : decode (cod 12) 167 = .ok (.putfield 57, 3) := by decide +kernel
theorem s12_167 {n : Nat} {I : Nat → Nat → Int32} {R : Nat → Nat → Option Nat} {st : List Value} {l0 l1 l2 : Option Value} {a : Nat} {v : Value} : EE 12 167 [l0, l1, l2] (v :: .ref a :: st) (n, I, R) = (pfI n I R 1 11 a v).bind (fun z => EE 12 170 [l0, l1, l2] st (n, z.1, z.2)) := e_putf d12_167 f1_57 rfl rfl (Or.inr rfl)
theorem d12_170 : decode (cod 12) 170 = .ok (.aload_n 0, 1) := by decide +kernel
theorem s12_170 {M : Mm} {st : List Value} {l1 l2 : Option Value} {x : Nat} : EE 12 170 [some (.ref x), l1, l2] st M = EE 12 171 [some (.ref x), l1, l2] (.ref x :: st) M := e_ld d12_170 rfl rfl rfl rfl rfl rfl
theorem d12_171 : decode (cod 12) 171 = .ok (.aload_n 1, 1) := by decide +kernel
theorem s12_171 {M : Mm} {st : List Value} {l0 l2 : Option Value} {x : Nat} : EE 12 171 [l0, some (.ref x), l2] st M = EE 12 172 [l0, some (.ref x), l2] (.ref x :: st) M := e_ld d12_171 rfl rfl rfl rfl rfl rfl
theorem d12_172 : decode (cod 12) 172 = .ok (.getfield 60, 3) := by decide +kernel
theorem s12_172 {n : Nat} {I : Nat → Nat → Int32} {R : Nat → Nat → Option Nat} {st : List Value} {l0 l1 l2 : Option Value} {a : Nat} : EE 12 172 [l0, l1, l2] (.ref a :: st) (n, I, R) = (gfI n I R 1 12 a).bind (fun z => EE 12 175 [l0, l1, l2] (z :: st) (n, I, R)) := e_getf d12_172 f1_60 rfl rfl
theorem d12_175 : decode (cod 12) 175 = .ok (.putfield 60, 3) := by decide +kernel
theorem s12_175 {n : Nat} {I : Nat → Nat → Int32} {R : Nat → Nat → Option Nat} {st : List Value} {l0 l1 l2 : Option Value} {a : Nat} {v : Value} : EE 12 175 [l0, l1, l2] (v :: .ref a :: st) (n, I, R) = (pfI n I R 1 12 a v).bind (fun z => EE 12 178 [l0, l1, l2] st (n, z.1, z.2)) := e_putf d12_175 f1_60 rfl rfl (Or.inr rfl)
theorem d12_178 : decode (cod 12) 178 = .ok (.aload_n 0, 1) := by decide +kernel
theorem s12_178 {M : Mm} {st : List Value} {l1 l2 : Option Value} {x : Nat} : EE 12 178 [some (.ref x), l1, l2] st M = EE 12 179 [some (.ref x), l1, l2] (.ref x :: st) M := e_ld d12_178 rfl rfl rfl rfl rfl rfl
theorem d12_179 : decode (cod 12) 179 = .ok (.aload_n 1, 1) := by decide +kernel
theorem s12_179 {M : Mm} {st : List Value} {l0 l2 : Option Value} {x : Nat} : EE 12 179 [l0, some (.ref x), l2] st M = EE 12 180 [l0, some (.ref x), l2] (.ref x :: st) M := e_ld d12_179 rfl rfl rfl rfl rfl rfl
theorem d12_180 : decode (cod 12) 180 = .ok (.getfield 63, 3) := by decide +kernel
theorem s12_180 {n : Nat} {I : Nat → Nat → Int32} {R : Nat → Nat → Option Nat} {st : List Value} {l0 l1 l2 : Option Value} {a : Nat} : EE 12 180 [l0, l1, l2] (.ref a :: st) (n, I, R) = (gfI n I R 1 13 a).bind (fun z => EE 12 183 [l0, l1, l2] (z :: st) (n, I, R)) := e_getf d12_180 f1_63 rfl rfl
theorem d12_183 : decode (cod 12) 183 = .ok (.putfield 63, 3) := by decide +kernel
theorem s12_183 {n : Nat} {I : Nat → Nat → Int32} {R : Nat → Nat → Option Nat} {st : List Value} {l0 l1 l2 : Option Value} {a : Nat} {v : Value} : EE 12 183 [l0, l1, l2] (v :: .ref a :: st) (n, I, R) = (pfI n I R 1 13 a v).bind (fun z => EE 12 186 [l0, l1, l2] st (n, z.1, z.2)) := e_putf d12_183 f1_63 rfl rfl (Or.inr rfl)
theorem d12_186 : decode (cod 12) 186 = .ok (.aload_n 0, 1) := by decide +kernel
theorem s12_186 {M : Mm} {st : List Value} {l1 l2 : Option Value} {x : Nat} : EE 12 186 [some (.ref x), l1, l2] st M = EE 12 187 [some (.ref x), l1, l2] (.ref x :: st) M := e_ld d12_186 rfl rfl rfl rfl rfl rfl
theorem d12_187 : decode (cod 12) 187 = .ok (.aload_n 1, 1) := by decide +kernel
theorem s12_187 {M : Mm} {st : List Value} {l0 l2 : Option Value} {x : Nat} : EE 12 187 [l0, some (.ref x), l2] st M = EE 12 188 [l0, some (.ref x), l2] (.ref x :: st) M := e_ld d12_187 rfl rfl rfl rfl rfl rfl
theorem d12_188 : decode (cod 12) 188 = .ok (.getfield 66, 3) := by decide +kernel
theorem s12_188 {n : Nat} {I : Nat → Nat → Int32} {R : Nat → Nat → Option Nat} {st : List Value} {l0 l1 l2 : Option Value} {a : Nat} : EE 12 188 [l0, l1, l2] (.ref a :: st) (n, I, R) = (gfI n I R 1 14 a).bind (fun z => EE 12 191 [l0, l1, l2] (z :: st) (n, I, R)) := e_getf d12_188 f1_66 rfl rfl
theorem d12_191 : decode (cod 12) 191 = .ok (.putfield 66, 3) := by decide +kernel
theorem s12_191 {n : Nat} {I : Nat → Nat → Int32} {R : Nat → Nat → Option Nat} {st : List Value} {l0 l1 l2 : Option Value} {a : Nat} {v : Value} : EE 12 191 [l0, l1, l2] (v :: .ref a :: st) (n, I, R) = (pfI n I R 1 14 a v).bind (fun z => EE 12 194 [l0, l1, l2] st (n, z.1, z.2)) := e_putf d12_191 f1_66 rfl rfl (Or.inr rfl)
theorem d12_194 : decode (cod 12) 194 = .ok (.aload_n 0, 1) := by decide +kernel
theorem s12_194 {M : Mm} {st : List Value} {l1 l2 : Option Value} {x : Nat} : EE 12 194 [some (.ref x), l1, l2] st M = EE 12 195 [some (.ref x), l1, l2] (.ref x :: st) M := e_ld d12_194 rfl rfl rfl rfl rfl rfl
theorem d12_195 : decode (cod 12) 195 = .ok (.aload_n 1, 1) := by decide +kernel
theorem s12_195 {M : Mm} {st : List Value} {l0 l2 : Option Value} {x : Nat} : EE 12 195 [l0, some (.ref x), l2] st M = EE 12 196 [l0, some (.ref x), l2] (.ref x :: st) M := e_ld d12_195 rfl rfl rfl rfl rfl rfl
theorem d12_196 : decode (cod 12) 196 = .ok (.getfield 69, 3) := by decide +kernel
theorem s12_196 {n : Nat} {I : Nat → Nat → Int32} {R : Nat → Nat → Option Nat} {st : List Value} {l0 l1 l2 : Option Value} {a : Nat} : EE 12 196 [l0, l1, l2] (.ref a :: st) (n, I, R) = (gfI n I R 1 15 a).bind (fun z => EE 12 199 [l0, l1, l2] (z :: st) (n, I, R)) := e_getf d12_196 f1_69 rfl rfl
theorem d12_199 : decode (cod 12) 199 = .ok (.putfield 69, 3) := by decide +kernel
theorem s12_199 {n : Nat} {I : Nat → Nat → Int32} {R : Nat → Nat → Option Nat} {st : List Value} {l0 l1 l2 : Option Value} {a : Nat} {v : Value} : EE 12 199 [l0, l1, l2] (v :: .ref a :: st) (n, I, R) = (pfI n I R 1 15 a v).bind (fun z => EE 12 202 [l0, l1, l2] st (n, z.1, z.2)) := e_putf d12_199 f1_69 rfl rfl (Or.inr rfl)
theorem d12_202 : decode (cod 12) 202 = .ok (.aload_n 0, 1) := by decide +kernel
theorem s12_202 {M : Mm} {st : List Value} {l1 l2 : Option Value} {x : Nat} : EE 12 202 [some (.ref x), l1, l2] st M = EE 12 203 [some (.ref x), l1, l2] (.ref x :: st) M := e_ld d12_202 rfl rfl rfl rfl rfl rfl
theorem d12_203 : decode (cod 12) 203 = .ok (.aload_n 1, 1) := by decide +kernel
theorem s12_203 {M : Mm} {st : List Value} {l0 l2 : Option Value} {x : Nat} : EE 12 203 [l0, some (.ref x), l2] st M = EE 12 204 [l0, some (.ref x), l2] (.ref x :: st) M := e_ld d12_203 rfl rfl rfl rfl rfl rfl
theorem d12_204 : decode (cod 12) 204 = .ok (.getfield 72, 3) := by decide +kernel
theorem s12_204 {n : Nat} {I : Nat → Nat → Int32} {R : Nat → Nat → Option Nat} {st : List Value} {l0 l1 l2 : Option Value} {a : Nat} : EE 12 204 [l0, l1, l2] (.ref a :: st) (n, I, R) = (gfI n I R 1 16 a).bind (fun z => EE 12 207 [l0, l1, l2] (z :: st) (n, I, R)) := e_getf d12_204 f1_72 rfl rfl
theorem d12_207 : decode (cod 12) 207 = .ok (.putfield 72, 3) := by decide +kernel
theorem s12_207 {n : Nat} {I : Nat → Nat → Int32} {R : Nat → Nat → Option Nat} {st : List Value} {l0 l1 l2 : Option Value} {a : Nat} {v : Value} : EE 12 207 [l0, l1, l2] (v :: .ref a :: st) (n, I, R) = (pfI n I R 1 16 a v).bind (fun z => EE 12 210 [l0, l1, l2] st (n, z.1, z.2)) := e_putf d12_207 f1_72 rfl rfl (Or.inr rfl)
theorem d12_210 : decode (cod 12) 210 = .ok (.return_, 1) := by decide +kernel
theorem s12_210 {M : Mm} {l0 l1 l2 : Option Value} : EE 12 210 [l0, l1, l2] [] M = some (none, M) := e_vret d12_210 rfl
theorem FE12 {a : Nat} {b0 : Nat} {M : Mm} : FF 12 [.ref a, .ref b0] M = EE 12 0 [some (.ref a), some (.ref b0), none] [] M := FF_eq 12 _ _ (Nat.le_of_ble_eq_true rfl)
theorem d13_0 : decode (cod 13) 0 = .ok (.iload_n 1, 1) := by decide +kernel
theorem s13_0 {M : Mm} {st : List Value} {l0 l2 l3 : Option Value} {x : Int32} : EE 13 0 [l0, some (.int x), l2, l3] st M = EE 13 1 [l0, some (.int x), l2, l3] (.int x :: st) M := e_ld d13_0 rfl rfl rfl rfl rfl rfl
theorem d13_1 : decode (cod 13) 1 = .ok (.invokestatic 111, 3) := by decide +kernel
theorem s13_1 {M : Mm} {l0 l1 l2 l3 : Option Value} {b0 : Int32} {st : List Value} (hl : st.length ≤ 4) : EE 13 1 [l0, l1, l2, l3] (.int b0 :: st) M = (FF 45 [.int b0] M).bind (fun z => EE 13 4 [l0, l1, l2, l3] (psh z.1 st) z.2) := e_cals (av := [.int b0]) d13_1 c1_111 (Or.inr rfl) rfl rfl r13_45 rfl hl
theorem d13_4 : decode (cod 13) 4 = .ok (.ifCond .eq 21, 3) := by decide +kernel
theorem s13_4 {M : Mm} {st : List Value} {l0 l1 l2 l3 : Option Value} {x : Int32} : EE 13 4 [l0, l1, l2, l3] (.int x :: st) M = if x = 0 then EE 13 25 [l0, l1, l2, l3] st M else EE 13 7 [l0, l1, l2, l3] st M := e_eq0 d13_4 (by decide)
theorem d13_7 : decode (cod 13) 7 = .ok (.iload_n 2, 1) := by decide +kernel
theorem s13_7 {M : Mm} {st : List Value} {l0 l1 l3 : Option Value} {x : Int32} : EE 13 7 [l0, l1, some (.int x), l3] st M = EE 13 8 [l0, l1, some (.int x), l3] (.int x :: st) M := e_ld d13_7 rfl rfl rfl rfl rfl rfl
theorem d13_8 : decode (cod 13) 8 = .ok (.getstatic 114, 3) := by decide +kernel
theorem s13_8 {M : Mm} {st : List Value} {l0 l1 l2 l3 : Option Value} : EE 13 8 [l0, l1, l2, l3] st M = EE 13 11 [l0, l1, l2, l3] (.ref 1002 :: st) M := e_gets d13_8 g1_114 (by decide)
theorem d13_11 : decode (cod 13) 11 = .ok (.iload_n 1, 1) := by decide +kernel
theorem s13_11 {M : Mm} {st : List Value} {l0 l2 l3 : Option Value} {x : Int32} : EE 13 11 [l0, some (.int x), l2, l3] st M = EE 13 12 [l0, some (.int x), l2, l3] (.int x :: st) M := e_ld d13_11 rfl rfl rfl rfl rfl rfl
theorem d13_12 : decode (cod 13) 12 = .ok (.iaload, 1) := by decide +kernel
theorem s13_12 {n : Nat} {I : Nat → Nat → Int32} {R : Nat → Nat → Option Nat} {st : List Value} {l0 l1 l2 l3 : Option Value} {j : Int32} {a : Nat} : EE 13 12 [l0, l1, l2, l3] (.int j :: .ref a :: st) (n, I, R) = (ardI 5 n I a j).bind (fun z => EE 13 13 [l0, l1, l2, l3] (.int z :: st) (n, I, R)) := e_iald d13_12
theorem d13_13 : decode (cod 13) 13 = .ok (.if_icmp .lt 12, 3) := by decide +kernel
theorem s13_13 {M : Mm} {st : List Value} {l0 l1 l2 l3 : Option Value} {x y : Int32} : EE 13 13 [l0, l1, l2, l3] (.int y :: .int x :: st) M = if x < y then EE 13 25 [l0, l1, l2, l3] st M else EE 13 16 [l0, l1, l2, l3] st M := e_clt d13_13 (by decide)
theorem d13_16 : decode (cod 13) 16 = .ok (.iload_n 2, 1) := by decide +kernel
theorem s13_16 {M : Mm} {st : List Value} {l0 l1 l3 : Option Value} {x : Int32} : EE 13 16 [l0, l1, some (.int x), l3] st M = EE 13 17 [l0, l1, some (.int x), l3] (.int x :: st) M := e_ld d13_16 rfl rfl rfl rfl rfl rfl
theorem d13_17 : decode (cod 13) 17 = .ok (.getstatic 117, 3) := by decide +kernel
theorem s13_17 {M : Mm} {st : List Value} {l0 l1 l2 l3 : Option Value} : EE 13 17 [l0, l1, l2, l3] st M = EE 13 20 [l0, l1, l2, l3] (.ref 1003 :: st) M := e_gets d13_17 g1_117 (by decide)
theorem d13_20 : decode (cod 13) 20 = .ok (.iload_n 1, 1) := by decide +kernel
theorem s13_20 {M : Mm} {st : List Value} {l0 l2 l3 : Option Value} {x : Int32} : EE 13 20 [l0, some (.int x), l2, l3] st M = EE 13 21 [l0, some (.int x), l2, l3] (.int x :: st) M := e_ld d13_20 rfl rfl rfl rfl rfl rfl
theorem d13_21 : decode (cod 13) 21 = .ok (.iaload, 1) := by decide +kernel
theorem s13_21 {n : Nat} {I : Nat → Nat → Int32} {R : Nat → Nat → Option Nat} {st : List Value} {l0 l1 l2 l3 : Option Value} {j : Int32} {a : Nat} : EE 13 21 [l0, l1, l2, l3] (.int j :: .ref a :: st) (n, I, R) = (ardI 5 n I a j).bind (fun z => EE 13 22 [l0, l1, l2, l3] (.int z :: st) (n, I, R)) := e_iald d13_21
theorem d13_22 : decode (cod 13) 22 = .ok (.if_icmp .le 6, 3) := by decide +kernel
theorem s13_22 {M : Mm} {st : List Value} {l0 l1 l2 l3 : Option Value} {x y : Int32} : EE 13 22 [l0, l1, l2, l3] (.int y :: .int x :: st) M = if x ≤ y then EE 13 28 [l0, l1, l2, l3] st M else EE 13 25 [l0, l1, l2, l3] st M := e_cle d13_22 (by decide)
theorem d13_25 : decode (cod 13) 25 = .ok (.bipush (-2), 2) := by decide +kernel
theorem s13_25 {M : Mm} {st : List Value} {l0 l1 l2 l3 : Option Value} : EE 13 25 [l0, l1, l2, l3] st M = EE 13 27 [l0, l1, l2, l3] (.int ((-2)) :: st) M := e_bip d13_25 k_bip_m2
theorem d13_27 : decode (cod 13) 27 = .ok (.ireturn, 1) := by decide +kernel
theorem s13_27 {M : Mm} {l0 l1 l2 l3 : Option Value} {v : Int32} : EE 13 27 [l0, l1, l2, l3] [.int v] M = some (some (.int v), M) := e_iret d13_27 rfl rfl
theorem d13_28 : decode (cod 13) 28 = .ok (.aload_n 0, 1) := by decide +kernel
theorem s13_28 {M : Mm} {st : List Value} {l1 l2 l3 : Option Value} {x : Nat} : EE 13 28 [some (.ref x), l1, l2, l3] st M = EE 13 29 [some (.ref x), l1, l2, l3] (.ref x :: st) M := e_ld d13_28 rfl rfl rfl rfl rfl rfl
theorem d13_29 : decode (cod 13) 29 = .ok (.getfield 9, 3) := by decide +kernel
theorem s13_29 {n : Nat} {I : Nat → Nat → Int32} {R : Nat → Nat → Option Nat} {st : List Value} {l0 l1 l2 l3 : Option Value} {a : Nat} : EE 13 29 [l0, l1, l2, l3] (.ref a :: st) (n, I, R) = (gfI n I R 1 0 a).bind (fun z => EE 13 32 [l0, l1, l2, l3] (z :: st) (n, I, R)) := e_getf d13_29 f1_9 rfl rfl
theorem d13_32 : decode (cod 13) 32 = .ok (.iload_n 1, 1) := by decide +kernel
theorem s13_32 {M : Mm} {st : List Value} {l0 l2 l3 : Option Value} {x : Int32} : EE 13 32 [l0, some (.int x), l2, l3] st M = EE 13 33 [l0, some (.int x), l2, l3] (.int x :: st) M := e_ld d13_32 rfl rfl rfl rfl rfl rfl
theorem d13_33 : decode (cod 13) 33 = .ok (.iaload, 1) := by decide +kernel
theorem s13_33 {n : Nat} {I : Nat → Nat → Int32} {R : Nat → Nat → Option Nat} {st : List Value} {l0 l1 l2 l3 : Option Value} {j : Int32} {a : Nat} : EE 13 33 [l0, l1, l2, l3] (.int j :: .ref a :: st) (n, I, R) = (ardI 5 n I a j).bind (fun z => EE 13 34 [l0, l1, l2, l3] (.int z :: st) (n, I, R)) := e_iald d13_33
theorem d13_34 : decode (cod 13) 34 = .ok (.istore_n 3, 1) := by decide +kernel
theorem s13_34 {M : Mm} {st : List Value} {l0 l1 l2 l3 : Option Value} {x : Int32} : EE 13 34 [l0, l1, l2, l3] (.int x :: st) M = EE 13 35 [l0, l1, cln l2, some (.int x)] st M := e_st1 d13_34 rfl rfl rfl rfl rfl rfl rfl (Nat.le_of_ble_eq_true rfl) rfl
theorem d13_35 : decode (cod 13) 35 = .ok (.aload_n 0, 1) := by decide +kernel
theorem s13_35 {M : Mm} {st : List Value} {l1 l2 l3 : Option Value} {x : Nat} : EE 13 35 [some (.ref x), l1, l2, l3] st M = EE 13 36 [some (.ref x), l1, l2, l3] (.ref x :: st) M := e_ld d13_35 rfl rfl rfl rfl rfl rfl
theorem d13_36 : decode (cod 13) 36 = .ok (.getfield 9, 3) := by decide +kernel
theorem s13_36 {n : Nat} {I : Nat → Nat → Int32} {R : Nat → Nat → Option Nat} {st : List Value} {l0 l1 l2 l3 : Option Value} {a : Nat} : EE 13 36 [l0, l1, l2, l3] (.ref a :: st) (n, I, R) = (gfI n I R 1 0 a).bind (fun z => EE 13 39 [l0, l1, l2, l3] (z :: st) (n, I, R)) := e_getf d13_36 f1_9 rfl rfl
theorem d13_39 : decode (cod 13) 39 = .ok (.iload_n 1, 1) := by decide +kernel
theorem s13_39 {M : Mm} {st : List Value} {l0 l2 l3 : Option Value} {x : Int32} : EE 13 39 [l0, some (.int x), l2, l3] st M = EE 13 40 [l0, some (.int x), l2, l3] (.int x :: st) M := e_ld d13_39 rfl rfl rfl rfl rfl rfl
theorem d13_40 : decode (cod 13) 40 = .ok (.iload_n 2, 1) := by decide +kernel
theorem s13_40 {M : Mm} {st : List Value} {l0 l1 l3 : Option Value} {x : Int32} : EE 13 40 [l0, l1, some (.int x), l3] st M = EE 13 41 [l0, l1, some (.int x), l3] (.int x :: st) M := e_ld d13_40 rfl rfl rfl rfl rfl rfl
theorem d13_41 : decode (cod 13) 41 = .ok (.iastore, 1) := by decide +kernel
theorem s13_41 {n : Nat} {I : Nat → Nat → Int32} {R : Nat → Nat → Option Nat} {st : List Value} {l0 l1 l2 l3 : Option Value} {j x : Int32} {a : Nat} (h : acI 5 n a j) : EE 13 41 [l0, l1, l2, l3] (.int x :: .int j :: .ref a :: st) (n, I, R) = EE 13 42 [l0, l1, l2, l3] st (n, wI I a j.toNatClampNeg x, R) := e_iast d13_41 h
theorem d13_42 : decode (cod 13) 42 = .ok (.iload_n 3, 1) := by decide +kernel
theorem s13_42 {M : Mm} {st : List Value} {l0 l1 l2 : Option Value} {x : Int32} : EE 13 42 [l0, l1, l2, some (.int x)] st M = EE 13 43 [l0, l1, l2, some (.int x)] (.int x :: st) M := e_ld d13_42 rfl rfl rfl rfl rfl rfl
theorem d13_43 : decode (cod 13) 43 = .ok (.ireturn, 1) := by decide +kernel
theorem s13_43 {M : Mm} {l0 l1 l2 l3 : Option Value} {v : Int32} : EE 13 43 [l0, l1, l2, l3] [.int v] M = some (some (.int v), M) := e_iret d13_43 rfl rfl
theorem FE13 {a : Nat} {b0 : Int32} {b1 : Int32} {M : Mm} : FF 13 [.ref a, .int b0, .int b1] M = EE 13 0 [some (.ref a), some (.int b0), some (.int b1), none] [] M := FF_eq 13 _ _ (Nat.le_of_ble_eq_true rfl)
theorem d14_0 : decode (cod 14) 0 = .ok (.iload_n 2, 1) := by decide +kernel
theorem s14_0 {M : Mm} {st : List Value} {l0 l1 l3 : Option Value} {x : Int32} : EE 14 0 [l0, l1, some (.int x), l3] st M = EE 14 1 [l0, l1, some (.int x), l3] (.int x :: st) M := e_ld d14_0 rfl rfl rfl rfl rfl rfl
theorem d14_1 : decode (cod 14) 1 = .ok (.invokestatic 81, 3) := by decide +kernel
theorem s14_1 {M : Mm} {l0 l1 l2 l3 : Option Value} {b0 : Int32} {st : List Value} (hl : st.length ≤ 4) : EE 14 1 [l0, l1, l2, l3] (.int b0 :: st) M = (FF 49 [.int b0] M).bind (fun z => EE 14 4 [l0, l1, l2, l3] (psh z.1 st) z.2) := e_cals (av := [.int b0]) d14_1 c1_81 (Or.inr rfl) rfl rfl r14_49 rfl hl
theorem d14_4 : decode (cod 14) 4 = .ok (.ifCond .ne 5, 3) := by decide +kernel
theorem s14_4 {M : Mm} {st : List Value} {l0 l1 l2 l3 : Option Value} {x : Int32} : EE 14 4 [l0, l1, l2, l3] (.int x :: st) M = if x = 0 then EE 14 7 [l0, l1, l2, l3] st M else EE 14 9 [l0, l1, l2, l3] st M := e_ne0 d14_4 (by decide)
theorem d14_7 : decode (cod 14) 7 = .ok (.iconst (-1), 1) := by decide +kernel
theorem s14_7 {M : Mm} {st : List Value} {l0 l1 l2 l3 : Option Value} : EE 14 7 [l0, l1, l2, l3] st M = EE 14 8 [l0, l1, l2, l3] (.int ((-1)) :: st) M := e_con d14_7 k_con_m1
theorem d14_8 : decode (cod 14) 8 = .ok (.ireturn, 1) := by decide +kernel
theorem s14_8 {M : Mm} {l0 l1 l2 l3 : Option Value} {v : Int32} : EE 14 8 [l0, l1, l2, l3] [.int v] M = some (some (.int v), M) := e_iret d14_8 rfl rfl
theorem d14_9 : decode (cod 14) 9 = .ok (.iload_n 1, 1) := by decide +kernel
theorem s14_9 {M : Mm} {st : List Value} {l0 l2 l3 : Option Value} {x : Int32} : EE 14 9 [l0, some (.int x), l2, l3] st M = EE 14 10 [l0, some (.int x), l2, l3] (.int x :: st) M := e_ld d14_9 rfl rfl rfl rfl rfl rfl
theorem d14_10 : decode (cod 14) 10 = .ok (.invokestatic 120, 3) := by decide +kernel
theorem s14_10 {M : Mm} {l0 l1 l2 l3 : Option Value} {b0 : Int32} {st : List Value} (hl : st.length ≤ 4) : EE 14 10 [l0, l1, l2, l3] (.int b0 :: st) M = (FF 50 [.int b0] M).bind (fun z => EE 14 13 [l0, l1, l2, l3] (psh z.1 st) z.2) := e_cals (av := [.int b0]) d14_10 c1_120 (Or.inr rfl) rfl rfl r14_50 rfl hl
theorem d14_13 : decode (cod 14) 13 = .ok (.ifCond .ne 6, 3) := by decide +kernel
theorem s14_13 {M : Mm} {st : List Value} {l0 l1 l2 l3 : Option Value} {x : Int32} : EE 14 13 [l0, l1, l2, l3] (.int x :: st) M = if x = 0 then EE 14 16 [l0, l1, l2, l3] st M else EE 14 19 [l0, l1, l2, l3] st M := e_ne0 d14_13 (by decide)
theorem d14_16 : decode (cod 14) 16 = .ok (.bipush (-2), 2) := by decide +kernel
theorem s14_16 {M : Mm} {st : List Value} {l0 l1 l2 l3 : Option Value} : EE 14 16 [l0, l1, l2, l3] st M = EE 14 18 [l0, l1, l2, l3] (.int ((-2)) :: st) M := e_bip d14_16 k_bip_m2
theorem d14_18 : decode (cod 14) 18 = .ok (.ireturn, 1) := by decide +kernel
theorem s14_18 {M : Mm} {l0 l1 l2 l3 : Option Value} {v : Int32} : EE 14 18 [l0, l1, l2, l3] [.int v] M = some (some (.int v), M) := e_iret d14_18 rfl rfl
theorem d14_19 : decode (cod 14) 19 = .ok (.aload_n 0, 1) := by decide +kernel
theorem s14_19 {M : Mm} {st : List Value} {l1 l2 l3 : Option Value} {x : Nat} : EE 14 19 [some (.ref x), l1, l2, l3] st M = EE 14 20 [some (.ref x), l1, l2, l3] (.ref x :: st) M := e_ld d14_19 rfl rfl rfl rfl rfl rfl
theorem d14_20 : decode (cod 14) 20 = .ok (.getfield 24, 3) := by decide +kernel
theorem s14_20 {n : Nat} {I : Nat → Nat → Int32} {R : Nat → Nat → Option Nat} {st : List Value} {l0 l1 l2 l3 : Option Value} {a : Nat} : EE 14 20 [l0, l1, l2, l3] (.ref a :: st) (n, I, R) = (gfI n I R 1 1 a).bind (fun z => EE 14 23 [l0, l1, l2, l3] (z :: st) (n, I, R)) := e_getf d14_20 f1_24 rfl rfl
theorem d14_23 : decode (cod 14) 23 = .ok (.iload_n 1, 1) := by decide +kernel
theorem s14_23 {M : Mm} {st : List Value} {l0 l2 l3 : Option Value} {x : Int32} : EE 14 23 [l0, some (.int x), l2, l3] st M = EE 14 24 [l0, some (.int x), l2, l3] (.int x :: st) M := e_ld d14_23 rfl rfl rfl rfl rfl rfl
theorem d14_24 : decode (cod 14) 24 = .ok (.iaload, 1) := by decide +kernel
theorem s14_24 {n : Nat} {I : Nat → Nat → Int32} {R : Nat → Nat → Option Nat} {st : List Value} {l0 l1 l2 l3 : Option Value} {j : Int32} {a : Nat} : EE 14 24 [l0, l1, l2, l3] (.int j :: .ref a :: st) (n, I, R) = (ardI 5 n I a j).bind (fun z => EE 14 25 [l0, l1, l2, l3] (.int z :: st) (n, I, R)) := e_iald d14_24
theorem d14_25 : decode (cod 14) 25 = .ok (.istore_n 3, 1) := by decide +kernel
theorem s14_25 {M : Mm} {st : List Value} {l0 l1 l2 l3 : Option Value} {x : Int32} : EE 14 25 [l0, l1, l2, l3] (.int x :: st) M = EE 14 26 [l0, l1, cln l2, some (.int x)] st M := e_st1 d14_25 rfl rfl rfl rfl rfl rfl rfl (Nat.le_of_ble_eq_true rfl) rfl
theorem d14_26 : decode (cod 14) 26 = .ok (.aload_n 0, 1) := by decide +kernel
theorem s14_26 {M : Mm} {st : List Value} {l1 l2 l3 : Option Value} {x : Nat} : EE 14 26 [some (.ref x), l1, l2, l3] st M = EE 14 27 [some (.ref x), l1, l2, l3] (.ref x :: st) M := e_ld d14_26 rfl rfl rfl rfl rfl rfl
theorem d14_27 : decode (cod 14) 27 = .ok (.getfield 24, 3) := by decide +kernel
theorem s14_27 {n : Nat} {I : Nat → Nat → Int32} {R : Nat → Nat → Option Nat} {st : List Value} {l0 l1 l2 l3 : Option Value} {a : Nat} : EE 14 27 [l0, l1, l2, l3] (.ref a :: st) (n, I, R) = (gfI n I R 1 1 a).bind (fun z => EE 14 30 [l0, l1, l2, l3] (z :: st) (n, I, R)) := e_getf d14_27 f1_24 rfl rfl
theorem d14_30 : decode (cod 14) 30 = .ok (.iload_n 1, 1) := by decide +kernel
theorem s14_30 {M : Mm} {st : List Value} {l0 l2 l3 : Option Value} {x : Int32} : EE 14 30 [l0, some (.int x), l2, l3] st M = EE 14 31 [l0, some (.int x), l2, l3] (.int x :: st) M := e_ld d14_30 rfl rfl rfl rfl rfl rfl
theorem d14_31 : decode (cod 14) 31 = .ok (.iload_n 2, 1) := by decide +kernel
theorem s14_31 {M : Mm} {st : List Value} {l0 l1 l3 : Option Value} {x : Int32} : EE 14 31 [l0, l1, some (.int x), l3] st M = EE 14 32 [l0, l1, some (.int x), l3] (.int x :: st) M := e_ld d14_31 rfl rfl rfl rfl rfl rfl
theorem d14_32 : decode (cod 14) 32 = .ok (.iastore, 1) := by decide +kernel
theorem s14_32 {n : Nat} {I : Nat → Nat → Int32} {R : Nat → Nat → Option Nat} {st : List Value} {l0 l1 l2 l3 : Option Value} {j x : Int32} {a : Nat} (h : acI 5 n a j) : EE 14 32 [l0, l1, l2, l3] (.int x :: .int j :: .ref a :: st) (n, I, R) = EE 14 33 [l0, l1, l2, l3] st (n, wI I a j.toNatClampNeg x, R) := e_iast d14_32 h
theorem d14_33 : decode (cod 14) 33 = .ok (.iload_n 3, 1) := by decide +kernel
theorem s14_33 {M : Mm} {st : List Value} {l0 l1 l2 : Option Value} {x : Int32} : EE 14 33 [l0, l1, l2, some (.int x)] st M = EE 14 34 [l0, l1, l2, some (.int x)] (.int x :: st) M := e_ld d14_33 rfl rfl rfl rfl rfl rfl
theorem d14_34 : decode (cod 14) 34 = .ok (.ireturn, 1) := by decide +kernel
theorem s14_34 {M : Mm} {l0 l1 l2 l3 : Option Value} {v : Int32} : EE 14 34 [l0, l1, l2, l3] [.int v] M = some (some (.int v), M) := e_iret d14_34 rfl rfl
theorem FE14 {a : Nat} {b0 : Int32} {b1 : Int32} {M : Mm} : FF 14 [.ref a, .int b0, .int b1] M = EE 14 0 [some (.ref a), some (.int b0), some (.int b1), none] [] M := FF_eq 14 _ _ (Nat.le_of_ble_eq_true rfl)
theorem d15_0 : decode (cod 15) 0 = .ok (.iload_n 1, 1) := by decide +kernel
theorem s15_0 {M : Mm} {st : List Value} {l0 l2 l3 : Option Value} {x : Int32} : EE 15 0 [l0, some (.int x), l2, l3] st M = EE 15 1 [l0, some (.int x), l2, l3] (.int x :: st) M := e_ld d15_0 rfl rfl rfl rfl rfl rfl
theorem d15_1 : decode (cod 15) 1 = .ok (.invokestatic 120, 3) := by decide +kernel
theorem s15_1 {M : Mm} {l0 l1 l2 l3 : Option Value} {b0 : Int32} {st : List Value} (hl : st.length ≤ 4) : EE 15 1 [l0, l1, l2, l3] (.int b0 :: st) M = (FF 50 [.int b0] M).bind (fun z => EE 15 4 [l0, l1, l2, l3] (psh z.1 st) z.2) := e_cals (av := [.int b0]) d15_1 c1_120 (Or.inr rfl) rfl rfl r15_50 rfl hl
theorem d15_4 : decode (cod 15) 4 = .ok (.ifCond .eq 13, 3) := by decide +kernel
theorem s15_4 {M : Mm} {st : List Value} {l0 l1 l2 l3 : Option Value} {x : Int32} : EE 15 4 [l0, l1, l2, l3] (.int x :: st) M = if x = 0 then EE 15 17 [l0, l1, l2, l3] st M else EE 15 7 [l0, l1, l2, l3] st M := e_eq0 d15_4 (by decide)
theorem d15_7 : decode (cod 15) 7 = .ok (.iload_n 2, 1) := by decide +kernel
theorem s15_7 {M : Mm} {st : List Value} {l0 l1 l3 : Option Value} {x : Int32} : EE 15 7 [l0, l1, some (.int x), l3] st M = EE 15 8 [l0, l1, some (.int x), l3] (.int x :: st) M := e_ld d15_7 rfl rfl rfl rfl rfl rfl
theorem d15_8 : decode (cod 15) 8 = .ok (.ifCond .lt 9, 3) := by decide +kernel
theorem s15_8 {M : Mm} {st : List Value} {l0 l1 l2 l3 : Option Value} {x : Int32} : EE 15 8 [l0, l1, l2, l3] (.int x :: st) M = if x < 0 then EE 15 17 [l0, l1, l2, l3] st M else EE 15 11 [l0, l1, l2, l3] st M := e_lt0 d15_8 (by decide)
theorem d15_11 : decode (cod 15) 11 = .ok (.iload_n 2, 1) := by decide +kernel
theorem s15_11 {M : Mm} {st : List Value} {l0 l1 l3 : Option Value} {x : Int32} : EE 15 11 [l0, l1, some (.int x), l3] st M = EE 15 12 [l0, l1, some (.int x), l3] (.int x :: st) M := e_ld d15_11 rfl rfl rfl rfl rfl rfl
theorem d15_12 : decode (cod 15) 12 = .ok (.bipush 60, 2) := by decide +kernel
theorem s15_12 {M : Mm} {st : List Value} {l0 l1 l2 l3 : Option Value} : EE 15 12 [l0, l1, l2, l3] st M = EE 15 14 [l0, l1, l2, l3] (.int (nI 60) :: st) M := e_bip d15_12 k_bip_60
theorem d15_14 : decode (cod 15) 14 = .ok (.if_icmp .le 6, 3) := by decide +kernel
theorem s15_14 {M : Mm} {st : List Value} {l0 l1 l2 l3 : Option Value} {x y : Int32} : EE 15 14 [l0, l1, l2, l3] (.int y :: .int x :: st) M = if x ≤ y then EE 15 20 [l0, l1, l2, l3] st M else EE 15 17 [l0, l1, l2, l3] st M := e_cle d15_14 (by decide)
theorem d15_17 : decode (cod 15) 17 = .ok (.bipush (-2), 2) := by decide +kernel
theorem s15_17 {M : Mm} {st : List Value} {l0 l1 l2 l3 : Option Value} : EE 15 17 [l0, l1, l2, l3] st M = EE 15 19 [l0, l1, l2, l3] (.int ((-2)) :: st) M := e_bip d15_17 k_bip_m2
theorem d15_19 : decode (cod 15) 19 = .ok (.ireturn, 1) := by decide +kernel
theorem s15_19 {M : Mm} {l0 l1 l2 l3 : Option Value} {v : Int32} : EE 15 19 [l0, l1, l2, l3] [.int v] M = some (some (.int v), M) := e_iret d15_19 rfl rfl
theorem d15_20 : decode (cod 15) 20 = .ok (.aload_n 0, 1) := by decide +kernel
theorem s15_20 {M : Mm} {st : List Value} {l1 l2 l3 : Option Value} {x : Nat} : EE 15 20 [some (.ref x), l1, l2, l3] st M = EE 15 21 [some (.ref x), l1, l2, l3] (.ref x :: st) M := e_ld d15_20 rfl rfl rfl rfl rfl rfl
theorem d15_21 : decode (cod 15) 21 = .ok (.getfield 27, 3) := by decide +kernel
theorem s15_21 {n : Nat} {I : Nat → Nat → Int32} {R : Nat → Nat → Option Nat} {st : List Value} {l0 l1 l2 l3 : Option Value} {a : Nat} : EE 15 21 [l0, l1, l2, l3] (.ref a :: st) (n, I, R) = (gfI n I R 1 2 a).bind (fun z => EE 15 24 [l0, l1, l2, l3] (z :: st) (n, I, R)) := e_getf d15_21 f1_27 rfl rfl
theorem d15_24 : decode (cod 15) 24 = .ok (.iload_n 1, 1) := by decide +kernel
theorem s15_24 {M : Mm} {st : List Value} {l0 l2 l3 : Option Value} {x : Int32} : EE 15 24 [l0, some (.int x), l2, l3] st M = EE 15 25 [l0, some (.int x), l2, l3] (.int x :: st) M := e_ld d15_24 rfl rfl rfl rfl rfl rfl
theorem d15_25 : decode (cod 15) 25 = .ok (.iaload, 1) := by decide +kernel
theorem s15_25 {n : Nat} {I : Nat → Nat → Int32} {R : Nat → Nat → Option Nat} {st : List Value} {l0 l1 l2 l3 : Option Value} {j : Int32} {a : Nat} : EE 15 25 [l0, l1, l2, l3] (.int j :: .ref a :: st) (n, I, R) = (ardI 5 n I a j).bind (fun z => EE 15 26 [l0, l1, l2, l3] (.int z :: st) (n, I, R)) := e_iald d15_25
theorem d15_26 : decode (cod 15) 26 = .ok (.istore_n 3, 1) := by decide +kernel
theorem s15_26 {M : Mm} {st : List Value} {l0 l1 l2 l3 : Option Value} {x : Int32} : EE 15 26 [l0, l1, l2, l3] (.int x :: st) M = EE 15 27 [l0, l1, cln l2, some (.int x)] st M := e_st1 d15_26 rfl rfl rfl rfl rfl rfl rfl (Nat.le_of_ble_eq_true rfl) rfl
theorem d15_27 : decode (cod 15) 27 = .ok (.aload_n 0, 1) := by decide +kernel
theorem s15_27 {M : Mm} {st : List Value} {l1 l2 l3 : Option Value} {x : Nat} : EE 15 27 [some (.ref x), l1, l2, l3] st M = EE 15 28 [some (.ref x), l1, l2, l3] (.ref x :: st) M := e_ld d15_27 rfl rfl rfl rfl rfl rfl
theorem d15_28 : decode (cod 15) 28 = .ok (.getfield 27, 3) := by decide +kernel
theorem s15_28 {n : Nat} {I : Nat → Nat → Int32} {R : Nat → Nat → Option Nat} {st : List Value} {l0 l1 l2 l3 : Option Value} {a : Nat} : EE 15 28 [l0, l1, l2, l3] (.ref a :: st) (n, I, R) = (gfI n I R 1 2 a).bind (fun z => EE 15 31 [l0, l1, l2, l3] (z :: st) (n, I, R)) := e_getf d15_28 f1_27 rfl rfl
theorem d15_31 : decode (cod 15) 31 = .ok (.iload_n 1, 1) := by decide +kernel
theorem s15_31 {M : Mm} {st : List Value} {l0 l2 l3 : Option Value} {x : Int32} : EE 15 31 [l0, some (.int x), l2, l3] st M = EE 15 32 [l0, some (.int x), l2, l3] (.int x :: st) M := e_ld d15_31 rfl rfl rfl rfl rfl rfl
theorem d15_32 : decode (cod 15) 32 = .ok (.iload_n 2, 1) := by decide +kernel
theorem s15_32 {M : Mm} {st : List Value} {l0 l1 l3 : Option Value} {x : Int32} : EE 15 32 [l0, l1, some (.int x), l3] st M = EE 15 33 [l0, l1, some (.int x), l3] (.int x :: st) M := e_ld d15_32 rfl rfl rfl rfl rfl rfl
theorem d15_33 : decode (cod 15) 33 = .ok (.iastore, 1) := by decide +kernel
theorem s15_33 {n : Nat} {I : Nat → Nat → Int32} {R : Nat → Nat → Option Nat} {st : List Value} {l0 l1 l2 l3 : Option Value} {j x : Int32} {a : Nat} (h : acI 5 n a j) : EE 15 33 [l0, l1, l2, l3] (.int x :: .int j :: .ref a :: st) (n, I, R) = EE 15 34 [l0, l1, l2, l3] st (n, wI I a j.toNatClampNeg x, R) := e_iast d15_33 h
theorem d15_34 : decode (cod 15) 34 = .ok (.iload_n 3, 1) := by decide +kernel
theorem s15_34 {M : Mm} {st : List Value} {l0 l1 l2 : Option Value} {x : Int32} : EE 15 34 [l0, l1, l2, some (.int x)] st M = EE 15 35 [l0, l1, l2, some (.int x)] (.int x :: st) M := e_ld d15_34 rfl rfl rfl rfl rfl rfl
theorem d15_35 : decode (cod 15) 35 = .ok (.ireturn, 1) := by decide +kernel
theorem s15_35 {M : Mm} {l0 l1 l2 l3 : Option Value} {v : Int32} : EE 15 35 [l0, l1, l2, l3] [.int v] M = some (some (.int v), M) := e_iret d15_35 rfl rfl
theorem FE15 {a : Nat} {b0 : Int32} {b1 : Int32} {M : Mm} : FF 15 [.ref a, .int b0, .int b1] M = EE 15 0 [some (.ref a), some (.int b0), some (.int b1), none] [] M := FF_eq 15 _ _ (Nat.le_of_ble_eq_true rfl)
theorem d16_0 : decode (cod 16) 0 = .ok (.aload_n 0, 1) := by decide +kernel
theorem s16_0 {M : Mm} {st : List Value} {l1 : Option Value} {x : Nat} : EE 16 0 [some (.ref x), l1] st M = EE 16 1 [some (.ref x), l1] (.ref x :: st) M := e_ld d16_0 rfl rfl rfl rfl rfl rfl
theorem d16_1 : decode (cod 16) 1 = .ok (.getfield 47, 3) := by decide +kernel
theorem s16_1 {n : Nat} {I : Nat → Nat → Int32} {R : Nat → Nat → Option Nat} {st : List Value} {l0 l1 : Option Value} {a : Nat} : EE 16 1 [l0, l1] (.ref a :: st) (n, I, R) = (gfI n I R 1 8 a).bind (fun z => EE 16 4 [l0, l1] (z :: st) (n, I, R)) := e_getf d16_1 f1_47 rfl rfl
theorem d16_4 : decode (cod 16) 4 = .ok (.bipush 10, 2) := by decide +kernel
theorem s16_4 {M : Mm} {st : List Value} {l0 l1 : Option Value} : EE 16 4 [l0, l1] st M = EE 16 6 [l0, l1] (.int (nI 10) :: st) M := e_bip d16_4 k_bip_10
theorem d16_6 : decode (cod 16) 6 = .ok (.if_icmp .lt 6, 3) := by decide +kernel
theorem s16_6 {M : Mm} {st : List Value} {l0 l1 : Option Value} {x y : Int32} : EE 16 6 [l0, l1] (.int y :: .int x :: st) M = if x < y then EE 16 12 [l0, l1] st M else EE 16 9 [l0, l1] st M := e_clt d16_6 (by decide)
theorem d16_9 : decode (cod 16) 9 = .ok (.bipush (-4), 2) := by decide +kernel
theorem s16_9 {M : Mm} {st : List Value} {l0 l1 : Option Value} : EE 16 9 [l0, l1] st M = EE 16 11 [l0, l1] (.int ((-4)) :: st) M := e_bip d16_9 k_bip_m4
theorem d16_11 : decode (cod 16) 11 = .ok (.ireturn, 1) := by decide +kernel
theorem s16_11 {M : Mm} {l0 l1 : Option Value} {v : Int32} : EE 16 11 [l0, l1] [.int v] M = some (some (.int v), M) := e_iret d16_11 rfl rfl
theorem d16_12 : decode (cod 16) 12 = .ok (.aload_n 0, 1) := by decide +kernel
theorem s16_12 {M : Mm} {st : List Value} {l1 : Option Value} {x : Nat} : EE 16 12 [some (.ref x), l1] st M = EE 16 13 [some (.ref x), l1] (.ref x :: st) M := e_ld d16_12 rfl rfl rfl rfl rfl rfl
theorem d16_13 : decode (cod 16) 13 = .ok (.getfield 47, 3) := by decide +kernel
theorem s16_13 {n : Nat} {I : Nat → Nat → Int32} {R : Nat → Nat → Option Nat} {st : List Value} {l0 l1 : Option Value} {a : Nat} : EE 16 13 [l0, l1] (.ref a :: st) (n, I, R) = (gfI n I R 1 8 a).bind (fun z => EE 16 16 [l0, l1] (z :: st) (n, I, R)) := e_getf d16_13 f1_47 rfl rfl
theorem d16_16 : decode (cod 16) 16 = .ok (.istore_n 1, 1) := by decide +kernel
theorem s16_16 {M : Mm} {st : List Value} {l0 l1 : Option Value} {x : Int32} : EE 16 16 [l0, l1] (.int x :: st) M = EE 16 17 [cln l0, some (.int x)] st M := e_st1 d16_16 rfl rfl rfl rfl rfl rfl rfl (Nat.le_of_ble_eq_true rfl) rfl
theorem d16_17 : decode (cod 16) 17 = .ok (.aload_n 0, 1) := by decide +kernel
theorem s16_17 {M : Mm} {st : List Value} {l1 : Option Value} {x : Nat} : EE 16 17 [some (.ref x), l1] st M = EE 16 18 [some (.ref x), l1] (.ref x :: st) M := e_ld d16_17 rfl rfl rfl rfl rfl rfl
theorem d16_18 : decode (cod 16) 18 = .ok (.dup, 1) := by decide +kernel
theorem s16_18i {M : Mm} {st : List Value} {l0 l1 : Option Value} {x : Int32} : EE 16 18 [l0, l1] (.int x :: st) M = EE 16 19 [l0, l1] (.int x :: .int x :: st) M := e_dup d16_18 rfl
theorem s16_18r {M : Mm} {st : List Value} {l0 l1 : Option Value} {x : Nat} : EE 16 18 [l0, l1] (.ref x :: st) M = EE 16 19 [l0, l1] (.ref x :: .ref x :: st) M := e_dup d16_18 rfl
theorem d16_19 : decode (cod 16) 19 = .ok (.getfield 51, 3) := by decide +kernel
theorem s16_19 {n : Nat} {I : Nat → Nat → Int32} {R : Nat → Nat → Option Nat} {st : List Value} {l0 l1 : Option Value} {a : Nat} : EE 16 19 [l0, l1] (.ref a :: st) (n, I, R) = (gfI n I R 1 9 a).bind (fun z => EE 16 22 [l0, l1] (z :: st) (n, I, R)) := e_getf d16_19 f1_51 rfl rfl
theorem d16_22 : decode (cod 16) 22 = .ok (.iconst 1, 1) := by decide +kernel
theorem s16_22 {M : Mm} {st : List Value} {l0 l1 : Option Value} : EE 16 22 [l0, l1] st M = EE 16 23 [l0, l1] (.int (nI 1) :: st) M := e_con d16_22 k_con_1
theorem d16_23 : decode (cod 16) 23 = .ok (.iload_n 1, 1) := by decide +kernel
theorem s16_23 {M : Mm} {st : List Value} {l0 : Option Value} {x : Int32} : EE 16 23 [l0, some (.int x)] st M = EE 16 24 [l0, some (.int x)] (.int x :: st) M := e_ld d16_23 rfl rfl rfl rfl rfl rfl
theorem d16_24 : decode (cod 16) 24 = .ok (.ishl, 1) := by decide +kernel
theorem s16_24 {M : Mm} {st : List Value} {l0 l1 : Option Value} {x y : Int32} : EE 16 24 [l0, l1] (.int y :: .int x :: st) M = EE 16 25 [l0, l1] (.int (x <<< (y &&& 31)) :: st) M := e_II d16_24 rfl rfl rfl rfl rfl rfl
theorem d16_25 : decode (cod 16) 25 = .ok (.ior, 1) := by decide +kernel
theorem s16_25 {M : Mm} {st : List Value} {l0 l1 : Option Value} {x y : Int32} : EE 16 25 [l0, l1] (.int y :: .int x :: st) M = EE 16 26 [l0, l1] (.int (x ||| y) :: st) M := e_II d16_25 rfl rfl rfl rfl rfl rfl
theorem d16_26 : decode (cod 16) 26 = .ok (.putfield 51, 3) := by decide +kernel
theorem s16_26 {n : Nat} {I : Nat → Nat → Int32} {R : Nat → Nat → Option Nat} {st : List Value} {l0 l1 : Option Value} {a : Nat} {v : Value} : EE 16 26 [l0, l1] (v :: .ref a :: st) (n, I, R) = (pfI n I R 1 9 a v).bind (fun z => EE 16 29 [l0, l1] st (n, z.1, z.2)) := e_putf d16_26 f1_51 rfl rfl (Or.inr rfl)
theorem d16_29 : decode (cod 16) 29 = .ok (.aload_n 0, 1) := by decide +kernel
theorem s16_29 {M : Mm} {st : List Value} {l1 : Option Value} {x : Nat} : EE 16 29 [some (.ref x), l1] st M = EE 16 30 [some (.ref x), l1] (.ref x :: st) M := e_ld d16_29 rfl rfl rfl rfl rfl rfl
theorem d16_30 : decode (cod 16) 30 = .ok (.dup, 1) := by decide +kernel
theorem s16_30i {M : Mm} {st : List Value} {l0 l1 : Option Value} {x : Int32} : EE 16 30 [l0, l1] (.int x :: st) M = EE 16 31 [l0, l1] (.int x :: .int x :: st) M := e_dup d16_30 rfl
theorem s16_30r {M : Mm} {st : List Value} {l0 l1 : Option Value} {x : Nat} : EE 16 30 [l0, l1] (.ref x :: st) M = EE 16 31 [l0, l1] (.ref x :: .ref x :: st) M := e_dup d16_30 rfl
theorem d16_31 : decode (cod 16) 31 = .ok (.getfield 47, 3) := by decide +kernel
theorem s16_31 {n : Nat} {I : Nat → Nat → Int32} {R : Nat → Nat → Option Nat} {st : List Value} {l0 l1 : Option Value} {a : Nat} : EE 16 31 [l0, l1] (.ref a :: st) (n, I, R) = (gfI n I R 1 8 a).bind (fun z => EE 16 34 [l0, l1] (z :: st) (n, I, R)) := e_getf d16_31 f1_47 rfl rfl
theorem d16_34 : decode (cod 16) 34 = .ok (.iconst 1, 1) := by decide +kernel
theorem s16_34 {M : Mm} {st : List Value} {l0 l1 : Option Value} : EE 16 34 [l0, l1] st M = EE 16 35 [l0, l1] (.int (nI 1) :: st) M := e_con d16_34 k_con_1
theorem d16_35 : decode (cod 16) 35 = .ok (.iadd, 1) := by decide +kernel
theorem s16_35 {M : Mm} {st : List Value} {l0 l1 : Option Value} {x y : Int32} : EE 16 35 [l0, l1] (.int y :: .int x :: st) M = EE 16 36 [l0, l1] (.int (x + y) :: st) M := e_II d16_35 rfl rfl rfl rfl rfl rfl
theorem d16_36 : decode (cod 16) 36 = .ok (.putfield 47, 3) := by decide +kernel
theorem s16_36 {n : Nat} {I : Nat → Nat → Int32} {R : Nat → Nat → Option Nat} {st : List Value} {l0 l1 : Option Value} {a : Nat} {v : Value} : EE 16 36 [l0, l1] (v :: .ref a :: st) (n, I, R) = (pfI n I R 1 8 a v).bind (fun z => EE 16 39 [l0, l1] st (n, z.1, z.2)) := e_putf d16_36 f1_47 rfl rfl (Or.inr rfl)
theorem d16_39 : decode (cod 16) 39 = .ok (.iload_n 1, 1) := by decide +kernel
theorem s16_39 {M : Mm} {st : List Value} {l0 : Option Value} {x : Int32} : EE 16 39 [l0, some (.int x)] st M = EE 16 40 [l0, some (.int x)] (.int x :: st) M := e_ld d16_39 rfl rfl rfl rfl rfl rfl
theorem d16_40 : decode (cod 16) 40 = .ok (.ireturn, 1) := by decide +kernel
theorem s16_40 {M : Mm} {l0 l1 : Option Value} {v : Int32} : EE 16 40 [l0, l1] [.int v] M = some (some (.int v), M) := e_iret d16_40 rfl rfl
theorem FE16 {a : Nat} {M : Mm} : FF 16 [.ref a] M = EE 16 0 [some (.ref a), none] [] M := FF_eq 16 _ _ (Nat.le_of_ble_eq_true rfl)
theorem d17_0 : decode (cod 17) 0 = .ok (.aload_n 0, 1) := by decide +kernel
theorem s17_0 {M : Mm} {st : List Value} {l1 : Option Value} {x : Nat} : EE 17 0 [some (.ref x), l1] st M = EE 17 1 [some (.ref x), l1] (.ref x :: st) M := e_ld d17_0 rfl rfl rfl rfl rfl rfl
theorem d17_1 : decode (cod 17) 1 = .ok (.iload_n 1, 1) := by decide +kernel
theorem s17_1 {M : Mm} {st : List Value} {l0 : Option Value} {x : Int32} : EE 17 1 [l0, some (.int x)] st M = EE 17 2 [l0, some (.int x)] (.int x :: st) M := e_ld d17_1 rfl rfl rfl rfl rfl rfl
theorem d17_2 : decode (cod 17) 2 = .ok (.invokevirtual 85, 3) := by decide +kernel
theorem s17_2 {l0 l1 : Option Value} {a : Nat} {M : Mm} {b0 : Int32} {st : List Value} (hl : st.length ≤ 4) (ho : isO "HandoverDesk$State" M.1 a = true) : EE 17 2 [l0, l1] (.int b0 :: .ref a :: st) M = (FF 18 (.ref a :: [.int b0]) M).bind (fun z => EE 17 5 [l0, l1] (psh z.1 st) z.2) := e_calv (av := [.int b0]) d17_2 c1_85 rfl rfl rfl r17_18 rfl hl ho
theorem d17_5 : decode (cod 17) 5 = .ok (.ifCond .ne 5, 3) := by decide +kernel
theorem s17_5 {M : Mm} {st : List Value} {l0 l1 : Option Value} {x : Int32} : EE 17 5 [l0, l1] (.int x :: st) M = if x = 0 then EE 17 8 [l0, l1] st M else EE 17 10 [l0, l1] st M := e_ne0 d17_5 (by decide)
theorem d17_8 : decode (cod 17) 8 = .ok (.iconst (-1), 1) := by decide +kernel
theorem s17_8 {M : Mm} {st : List Value} {l0 l1 : Option Value} : EE 17 8 [l0, l1] st M = EE 17 9 [l0, l1] (.int ((-1)) :: st) M := e_con d17_8 k_con_m1
theorem d17_9 : decode (cod 17) 9 = .ok (.ireturn, 1) := by decide +kernel
theorem s17_9 {M : Mm} {l0 l1 : Option Value} {v : Int32} : EE 17 9 [l0, l1] [.int v] M = some (some (.int v), M) := e_iret d17_9 rfl rfl
theorem d17_10 : decode (cod 17) 10 = .ok (.aload_n 0, 1) := by decide +kernel
theorem s17_10 {M : Mm} {st : List Value} {l1 : Option Value} {x : Nat} : EE 17 10 [some (.ref x), l1] st M = EE 17 11 [some (.ref x), l1] (.ref x :: st) M := e_ld d17_10 rfl rfl rfl rfl rfl rfl
theorem d17_11 : decode (cod 17) 11 = .ok (.dup, 1) := by decide +kernel
theorem s17_11i {M : Mm} {st : List Value} {l0 l1 : Option Value} {x : Int32} : EE 17 11 [l0, l1] (.int x :: st) M = EE 17 12 [l0, l1] (.int x :: .int x :: st) M := e_dup d17_11 rfl
theorem s17_11r {M : Mm} {st : List Value} {l0 l1 : Option Value} {x : Nat} : EE 17 11 [l0, l1] (.ref x :: st) M = EE 17 12 [l0, l1] (.ref x :: .ref x :: st) M := e_dup d17_11 rfl
theorem d17_12 : decode (cod 17) 12 = .ok (.getfield 51, 3) := by decide +kernel
theorem s17_12 {n : Nat} {I : Nat → Nat → Int32} {R : Nat → Nat → Option Nat} {st : List Value} {l0 l1 : Option Value} {a : Nat} : EE 17 12 [l0, l1] (.ref a :: st) (n, I, R) = (gfI n I R 1 9 a).bind (fun z => EE 17 15 [l0, l1] (z :: st) (n, I, R)) := e_getf d17_12 f1_51 rfl rfl
theorem d17_15 : decode (cod 17) 15 = .ok (.iconst 1, 1) := by decide +kernel
theorem s17_15 {M : Mm} {st : List Value} {l0 l1 : Option Value} : EE 17 15 [l0, l1] st M = EE 17 16 [l0, l1] (.int (nI 1) :: st) M := e_con d17_15 k_con_1
theorem d17_16 : decode (cod 17) 16 = .ok (.iload_n 1, 1) := by decide +kernel
theorem s17_16 {M : Mm} {st : List Value} {l0 : Option Value} {x : Int32} : EE 17 16 [l0, some (.int x)] st M = EE 17 17 [l0, some (.int x)] (.int x :: st) M := e_ld d17_16 rfl rfl rfl rfl rfl rfl
theorem d17_17 : decode (cod 17) 17 = .ok (.ishl, 1) := by decide +kernel
theorem s17_17 {M : Mm} {st : List Value} {l0 l1 : Option Value} {x y : Int32} : EE 17 17 [l0, l1] (.int y :: .int x :: st) M = EE 17 18 [l0, l1] (.int (x <<< (y &&& 31)) :: st) M := e_II d17_17 rfl rfl rfl rfl rfl rfl
theorem d17_18 : decode (cod 17) 18 = .ok (.ixor, 1) := by decide +kernel
theorem s17_18 {M : Mm} {st : List Value} {l0 l1 : Option Value} {x y : Int32} : EE 17 18 [l0, l1] (.int y :: .int x :: st) M = EE 17 19 [l0, l1] (.int (x ^^^ y) :: st) M := e_II d17_18 rfl rfl rfl rfl rfl rfl
theorem d17_19 : decode (cod 17) 19 = .ok (.putfield 51, 3) := by decide +kernel
theorem s17_19 {n : Nat} {I : Nat → Nat → Int32} {R : Nat → Nat → Option Nat} {st : List Value} {l0 l1 : Option Value} {a : Nat} {v : Value} : EE 17 19 [l0, l1] (v :: .ref a :: st) (n, I, R) = (pfI n I R 1 9 a v).bind (fun z => EE 17 22 [l0, l1] st (n, z.1, z.2)) := e_putf d17_19 f1_51 rfl rfl (Or.inr rfl)
theorem d17_22 : decode (cod 17) 22 = .ok (.aload_n 0, 1) := by decide +kernel
theorem s17_22 {M : Mm} {st : List Value} {l1 : Option Value} {x : Nat} : EE 17 22 [some (.ref x), l1] st M = EE 17 23 [some (.ref x), l1] (.ref x :: st) M := e_ld d17_22 rfl rfl rfl rfl rfl rfl
theorem d17_23 : decode (cod 17) 23 = .ok (.iload_n 1, 1) := by decide +kernel
theorem s17_23 {M : Mm} {st : List Value} {l0 : Option Value} {x : Int32} : EE 17 23 [l0, some (.int x)] st M = EE 17 24 [l0, some (.int x)] (.int x :: st) M := e_ld d17_23 rfl rfl rfl rfl rfl rfl
theorem d17_24 : decode (cod 17) 24 = .ok (.invokevirtual 99, 3) := by decide +kernel
theorem s17_24 {l0 l1 : Option Value} {a : Nat} {M : Mm} {b0 : Int32} {st : List Value} (hl : st.length ≤ 4) (ho : isO "HandoverDesk$State" M.1 a = true) : EE 17 24 [l0, l1] (.int b0 :: .ref a :: st) M = (FF 19 (.ref a :: [.int b0]) M).bind (fun z => EE 17 27 [l0, l1] (psh z.1 st) z.2) := e_calv (av := [.int b0]) d17_24 c1_99 rfl rfl rfl r17_19 rfl hl ho
theorem d17_27 : decode (cod 17) 27 = .ok (.ifCond .eq 7, 3) := by decide +kernel
theorem s17_27 {M : Mm} {st : List Value} {l0 l1 : Option Value} {x : Int32} : EE 17 27 [l0, l1] (.int x :: st) M = if x = 0 then EE 17 34 [l0, l1] st M else EE 17 30 [l0, l1] st M := e_eq0 d17_27 (by decide)
theorem d17_30 : decode (cod 17) 30 = .ok (.iconst 1, 1) := by decide +kernel
theorem s17_30 {M : Mm} {st : List Value} {l0 l1 : Option Value} : EE 17 30 [l0, l1] st M = EE 17 31 [l0, l1] (.int (nI 1) :: st) M := e_con d17_30 k_con_1
theorem d17_31 : decode (cod 17) 31 = .ok (.goto 4, 3) := by decide +kernel
theorem s17_31 {M : Mm} {st : List Value} {l0 l1 : Option Value} : EE 17 31 [l0, l1] st M = EE 17 35 [l0, l1] st M := e_goto d17_31 (by decide)
theorem d17_34 : decode (cod 17) 34 = .ok (.iconst 0, 1) := by decide +kernel
theorem s17_34 {M : Mm} {st : List Value} {l0 l1 : Option Value} : EE 17 34 [l0, l1] st M = EE 17 35 [l0, l1] (.int (nI 0) :: st) M := e_con d17_34 k_con_0
theorem d17_35 : decode (cod 17) 35 = .ok (.ireturn, 1) := by decide +kernel
theorem s17_35 {M : Mm} {l0 l1 : Option Value} {v : Int32} : EE 17 35 [l0, l1] [.int v] M = some (some (.int v), M) := e_iret d17_35 rfl rfl
theorem FE17 {a : Nat} {b0 : Int32} {M : Mm} : FF 17 [.ref a, .int b0] M = EE 17 0 [some (.ref a), some (.int b0)] [] M := FF_eq 17 _ _ (Nat.le_of_ble_eq_true rfl)
theorem d18_0 : decode (cod 18) 0 = .ok (.iload_n 1, 1) := by decide +kernel
theorem s18_0 {M : Mm} {st : List Value} {l0 : Option Value} {x : Int32} : EE 18 0 [l0, some (.int x)] st M = EE 18 1 [l0, some (.int x)] (.int x :: st) M := e_ld d18_0 rfl rfl rfl rfl rfl rfl
theorem d18_1 : decode (cod 18) 1 = .ok (.ifCond .lt 15, 3) := by decide +kernel
theorem s18_1 {M : Mm} {st : List Value} {l0 l1 : Option Value} {x : Int32} : EE 18 1 [l0, l1] (.int x :: st) M = if x < 0 then EE 18 16 [l0, l1] st M else EE 18 4 [l0, l1] st M := e_lt0 d18_1 (by decide)
theorem d18_4 : decode (cod 18) 4 = .ok (.iload_n 1, 1) := by decide +kernel
theorem s18_4 {M : Mm} {st : List Value} {l0 : Option Value} {x : Int32} : EE 18 4 [l0, some (.int x)] st M = EE 18 5 [l0, some (.int x)] (.int x :: st) M := e_ld d18_4 rfl rfl rfl rfl rfl rfl
theorem d18_5 : decode (cod 18) 5 = .ok (.aload_n 0, 1) := by decide +kernel
theorem s18_5 {M : Mm} {st : List Value} {l1 : Option Value} {x : Nat} : EE 18 5 [some (.ref x), l1] st M = EE 18 6 [some (.ref x), l1] (.ref x :: st) M := e_ld d18_5 rfl rfl rfl rfl rfl rfl
theorem d18_6 : decode (cod 18) 6 = .ok (.getfield 47, 3) := by decide +kernel
theorem s18_6 {n : Nat} {I : Nat → Nat → Int32} {R : Nat → Nat → Option Nat} {st : List Value} {l0 l1 : Option Value} {a : Nat} : EE 18 6 [l0, l1] (.ref a :: st) (n, I, R) = (gfI n I R 1 8 a).bind (fun z => EE 18 9 [l0, l1] (z :: st) (n, I, R)) := e_getf d18_6 f1_47 rfl rfl
theorem d18_9 : decode (cod 18) 9 = .ok (.if_icmp .ge 7, 3) := by decide +kernel
theorem s18_9 {M : Mm} {st : List Value} {l0 l1 : Option Value} {x y : Int32} : EE 18 9 [l0, l1] (.int y :: .int x :: st) M = if y ≤ x then EE 18 16 [l0, l1] st M else EE 18 12 [l0, l1] st M := e_cge d18_9 (by decide)
theorem d18_12 : decode (cod 18) 12 = .ok (.iconst 1, 1) := by decide +kernel
theorem s18_12 {M : Mm} {st : List Value} {l0 l1 : Option Value} : EE 18 12 [l0, l1] st M = EE 18 13 [l0, l1] (.int (nI 1) :: st) M := e_con d18_12 k_con_1
theorem d18_13 : decode (cod 18) 13 = .ok (.goto 4, 3) := by decide +kernel
theorem s18_13 {M : Mm} {st : List Value} {l0 l1 : Option Value} : EE 18 13 [l0, l1] st M = EE 18 17 [l0, l1] st M := e_goto d18_13 (by decide)
theorem d18_16 : decode (cod 18) 16 = .ok (.iconst 0, 1) := by decide +kernel
theorem s18_16 {M : Mm} {st : List Value} {l0 l1 : Option Value} : EE 18 16 [l0, l1] st M = EE 18 17 [l0, l1] (.int (nI 0) :: st) M := e_con d18_16 k_con_0
theorem d18_17 : decode (cod 18) 17 = .ok (.ireturn, 1) := by decide +kernel
theorem s18_17 {M : Mm} {l0 l1 : Option Value} {v : Int32} (h : narrow .boolean (.int v) = .int v) : EE 18 17 [l0, l1] [.int v] M = some (some (.int v), M) := e_iret d18_17 rfl h
theorem FE18 {a : Nat} {b0 : Int32} {M : Mm} : FF 18 [.ref a, .int b0] M = EE 18 0 [some (.ref a), some (.int b0)] [] M := FF_eq 18 _ _ (Nat.le_of_ble_eq_true rfl)
theorem d19_0 : decode (cod 19) 0 = .ok (.iload_n 1, 1) := by decide +kernel
theorem s19_0 {M : Mm} {st : List Value} {l0 : Option Value} {x : Int32} : EE 19 0 [l0, some (.int x)] st M = EE 19 1 [l0, some (.int x)] (.int x :: st) M := e_ld d19_0 rfl rfl rfl rfl rfl rfl
theorem d19_1 : decode (cod 19) 1 = .ok (.ifCond .lt 25, 3) := by decide +kernel
theorem s19_1 {M : Mm} {st : List Value} {l0 l1 : Option Value} {x : Int32} : EE 19 1 [l0, l1] (.int x :: st) M = if x < 0 then EE 19 26 [l0, l1] st M else EE 19 4 [l0, l1] st M := e_lt0 d19_1 (by decide)
theorem d19_4 : decode (cod 19) 4 = .ok (.iload_n 1, 1) := by decide +kernel
theorem s19_4 {M : Mm} {st : List Value} {l0 : Option Value} {x : Int32} : EE 19 4 [l0, some (.int x)] st M = EE 19 5 [l0, some (.int x)] (.int x :: st) M := e_ld d19_4 rfl rfl rfl rfl rfl rfl
theorem d19_5 : decode (cod 19) 5 = .ok (.bipush 10, 2) := by decide +kernel
theorem s19_5 {M : Mm} {st : List Value} {l0 l1 : Option Value} : EE 19 5 [l0, l1] st M = EE 19 7 [l0, l1] (.int (nI 10) :: st) M := e_bip d19_5 k_bip_10
theorem d19_7 : decode (cod 19) 7 = .ok (.if_icmp .ge 19, 3) := by decide +kernel
theorem s19_7 {M : Mm} {st : List Value} {l0 l1 : Option Value} {x y : Int32} : EE 19 7 [l0, l1] (.int y :: .int x :: st) M = if y ≤ x then EE 19 26 [l0, l1] st M else EE 19 10 [l0, l1] st M := e_cge d19_7 (by decide)
theorem d19_10 : decode (cod 19) 10 = .ok (.aload_n 0, 1) := by decide +kernel
theorem s19_10 {M : Mm} {st : List Value} {l1 : Option Value} {x : Nat} : EE 19 10 [some (.ref x), l1] st M = EE 19 11 [some (.ref x), l1] (.ref x :: st) M := e_ld d19_10 rfl rfl rfl rfl rfl rfl
theorem d19_11 : decode (cod 19) 11 = .ok (.getfield 51, 3) := by decide +kernel
theorem s19_11 {n : Nat} {I : Nat → Nat → Int32} {R : Nat → Nat → Option Nat} {st : List Value} {l0 l1 : Option Value} {a : Nat} : EE 19 11 [l0, l1] (.ref a :: st) (n, I, R) = (gfI n I R 1 9 a).bind (fun z => EE 19 14 [l0, l1] (z :: st) (n, I, R)) := e_getf d19_11 f1_51 rfl rfl
theorem d19_14 : decode (cod 19) 14 = .ok (.iload_n 1, 1) := by decide +kernel
theorem s19_14 {M : Mm} {st : List Value} {l0 : Option Value} {x : Int32} : EE 19 14 [l0, some (.int x)] st M = EE 19 15 [l0, some (.int x)] (.int x :: st) M := e_ld d19_14 rfl rfl rfl rfl rfl rfl
theorem d19_15 : decode (cod 19) 15 = .ok (.ishr, 1) := by decide +kernel
theorem s19_15 {M : Mm} {st : List Value} {l0 l1 : Option Value} {x y : Int32} : EE 19 15 [l0, l1] (.int y :: .int x :: st) M = EE 19 16 [l0, l1] (.int (x >>> (y &&& 31)) :: st) M := e_II d19_15 rfl rfl rfl rfl rfl rfl
theorem d19_16 : decode (cod 19) 16 = .ok (.iconst 1, 1) := by decide +kernel
theorem s19_16 {M : Mm} {st : List Value} {l0 l1 : Option Value} : EE 19 16 [l0, l1] st M = EE 19 17 [l0, l1] (.int (nI 1) :: st) M := e_con d19_16 k_con_1
theorem d19_17 : decode (cod 19) 17 = .ok (.iand, 1) := by decide +kernel
theorem s19_17 {M : Mm} {st : List Value} {l0 l1 : Option Value} {x y : Int32} : EE 19 17 [l0, l1] (.int y :: .int x :: st) M = EE 19 18 [l0, l1] (.int (x &&& y) :: st) M := e_II d19_17 rfl rfl rfl rfl rfl rfl
theorem d19_18 : decode (cod 19) 18 = .ok (.iconst 1, 1) := by decide +kernel
theorem s19_18 {M : Mm} {st : List Value} {l0 l1 : Option Value} : EE 19 18 [l0, l1] st M = EE 19 19 [l0, l1] (.int (nI 1) :: st) M := e_con d19_18 k_con_1
theorem d19_19 : decode (cod 19) 19 = .ok (.if_icmp .ne 7, 3) := by decide +kernel
theorem s19_19 {M : Mm} {st : List Value} {l0 l1 : Option Value} {x y : Int32} : EE 19 19 [l0, l1] (.int y :: .int x :: st) M = if x = y then EE 19 22 [l0, l1] st M else EE 19 26 [l0, l1] st M := e_cne d19_19 (by decide)
theorem d19_22 : decode (cod 19) 22 = .ok (.iconst 1, 1) := by decide +kernel
theorem s19_22 {M : Mm} {st : List Value} {l0 l1 : Option Value} : EE 19 22 [l0, l1] st M = EE 19 23 [l0, l1] (.int (nI 1) :: st) M := e_con d19_22 k_con_1
theorem d19_23 : decode (cod 19) 23 = .ok (.goto 4, 3) := by decide +kernel
theorem s19_23 {M : Mm} {st : List Value} {l0 l1 : Option Value} : EE 19 23 [l0, l1] st M = EE 19 27 [l0, l1] st M := e_goto d19_23 (by decide)
theorem d19_26 : decode (cod 19) 26 = .ok (.iconst 0, 1) := by decide +kernel
theorem s19_26 {M : Mm} {st : List Value} {l0 l1 : Option Value} : EE 19 26 [l0, l1] st M = EE 19 27 [l0, l1] (.int (nI 0) :: st) M := e_con d19_26 k_con_0
theorem d19_27 : decode (cod 19) 27 = .ok (.ireturn, 1) := by decide +kernel
theorem s19_27 {M : Mm} {l0 l1 : Option Value} {v : Int32} (h : narrow .boolean (.int v) = .int v) : EE 19 27 [l0, l1] [.int v] M = some (some (.int v), M) := e_iret d19_27 rfl h
theorem FE19 {a : Nat} {b0 : Int32} {M : Mm} : FF 19 [.ref a, .int b0] M = EE 19 0 [some (.ref a), some (.int b0)] [] M := FF_eq 19 _ _ (Nat.le_of_ble_eq_true rfl)
theorem d20_0 : decode (cod 20) 0 = .ok (.aload_n 0, 1) := by decide +kernel
theorem s20_0 {M : Mm} {st : List Value} {l1 l2 l3 : Option Value} {x : Nat} : EE 20 0 [some (.ref x), l1, l2, l3] st M = EE 20 1 [some (.ref x), l1, l2, l3] (.ref x :: st) M := e_ld d20_0 rfl rfl rfl rfl rfl rfl
theorem d20_1 : decode (cod 20) 1 = .ok (.iload_n 1, 1) := by decide +kernel
theorem s20_1 {M : Mm} {st : List Value} {l0 l2 l3 : Option Value} {x : Int32} : EE 20 1 [l0, some (.int x), l2, l3] st M = EE 20 2 [l0, some (.int x), l2, l3] (.int x :: st) M := e_ld d20_1 rfl rfl rfl rfl rfl rfl
theorem d20_2 : decode (cod 20) 2 = .ok (.invokevirtual 85, 3) := by decide +kernel
theorem s20_2 {l0 l1 l2 l3 : Option Value} {a : Nat} {M : Mm} {b0 : Int32} {st : List Value} (hl : st.length ≤ 4) (ho : isO "HandoverDesk$State" M.1 a = true) : EE 20 2 [l0, l1, l2, l3] (.int b0 :: .ref a :: st) M = (FF 18 (.ref a :: [.int b0]) M).bind (fun z => EE 20 5 [l0, l1, l2, l3] (psh z.1 st) z.2) := e_calv (av := [.int b0]) d20_2 c1_85 rfl rfl rfl r20_18 rfl hl ho
theorem d20_5 : decode (cod 20) 5 = .ok (.ifCond .ne 5, 3) := by decide +kernel
theorem s20_5 {M : Mm} {st : List Value} {l0 l1 l2 l3 : Option Value} {x : Int32} : EE 20 5 [l0, l1, l2, l3] (.int x :: st) M = if x = 0 then EE 20 8 [l0, l1, l2, l3] st M else EE 20 10 [l0, l1, l2, l3] st M := e_ne0 d20_5 (by decide)
theorem d20_8 : decode (cod 20) 8 = .ok (.iconst (-1), 1) := by decide +kernel
theorem s20_8 {M : Mm} {st : List Value} {l0 l1 l2 l3 : Option Value} : EE 20 8 [l0, l1, l2, l3] st M = EE 20 9 [l0, l1, l2, l3] (.int ((-1)) :: st) M := e_con d20_8 k_con_m1
theorem d20_9 : decode (cod 20) 9 = .ok (.ireturn, 1) := by decide +kernel
theorem s20_9 {M : Mm} {l0 l1 l2 l3 : Option Value} {v : Int32} : EE 20 9 [l0, l1, l2, l3] [.int v] M = some (some (.int v), M) := e_iret d20_9 rfl rfl
theorem d20_10 : decode (cod 20) 10 = .ok (.aload_n 0, 1) := by decide +kernel
theorem s20_10 {M : Mm} {st : List Value} {l1 l2 l3 : Option Value} {x : Nat} : EE 20 10 [some (.ref x), l1, l2, l3] st M = EE 20 11 [some (.ref x), l1, l2, l3] (.ref x :: st) M := e_ld d20_10 rfl rfl rfl rfl rfl rfl
theorem d20_11 : decode (cod 20) 11 = .ok (.iload_n 1, 1) := by decide +kernel
theorem s20_11 {M : Mm} {st : List Value} {l0 l2 l3 : Option Value} {x : Int32} : EE 20 11 [l0, some (.int x), l2, l3] st M = EE 20 12 [l0, some (.int x), l2, l3] (.int x :: st) M := e_ld d20_11 rfl rfl rfl rfl rfl rfl
theorem d20_12 : decode (cod 20) 12 = .ok (.invokevirtual 123, 3) := by decide +kernel
theorem s20_12 {l0 l1 l2 l3 : Option Value} {a : Nat} {M : Mm} {b0 : Int32} {st : List Value} (hl : st.length ≤ 4) (ho : isO "HandoverDesk$State" M.1 a = true) : EE 20 12 [l0, l1, l2, l3] (.int b0 :: .ref a :: st) M = (FF 21 (.ref a :: [.int b0]) M).bind (fun z => EE 20 15 [l0, l1, l2, l3] (psh z.1 st) z.2) := e_calv (av := [.int b0]) d20_12 c1_123 rfl rfl rfl r20_21 rfl hl ho
theorem d20_15 : decode (cod 20) 15 = .ok (.istore_n 2, 1) := by decide +kernel
theorem s20_15 {M : Mm} {st : List Value} {l0 l1 l2 l3 : Option Value} {x : Int32} : EE 20 15 [l0, l1, l2, l3] (.int x :: st) M = EE 20 16 [l0, cln l1, some (.int x), l3] st M := e_st1 d20_15 rfl rfl rfl rfl rfl rfl rfl (Nat.le_of_ble_eq_true rfl) rfl
theorem d20_16 : decode (cod 20) 16 = .ok (.iload_n 2, 1) := by decide +kernel
theorem s20_16 {M : Mm} {st : List Value} {l0 l1 l3 : Option Value} {x : Int32} : EE 20 16 [l0, l1, some (.int x), l3] st M = EE 20 17 [l0, l1, some (.int x), l3] (.int x :: st) M := e_ld d20_16 rfl rfl rfl rfl rfl rfl
theorem d20_17 : decode (cod 20) 17 = .ok (.ifCond .lt 46, 3) := by decide +kernel
theorem s20_17 {M : Mm} {st : List Value} {l0 l1 l2 l3 : Option Value} {x : Int32} : EE 20 17 [l0, l1, l2, l3] (.int x :: st) M = if x < 0 then EE 20 63 [l0, l1, l2, l3] st M else EE 20 20 [l0, l1, l2, l3] st M := e_lt0 d20_17 (by decide)
theorem d20_20 : decode (cod 20) 20 = .ok (.aload_n 0, 1) := by decide +kernel
theorem s20_20 {M : Mm} {st : List Value} {l1 l2 l3 : Option Value} {x : Nat} : EE 20 20 [some (.ref x), l1, l2, l3] st M = EE 20 21 [some (.ref x), l1, l2, l3] (.ref x :: st) M := e_ld d20_20 rfl rfl rfl rfl rfl rfl
theorem d20_21 : decode (cod 20) 21 = .ok (.dup, 1) := by decide +kernel
theorem s20_21i {M : Mm} {st : List Value} {l0 l1 l2 l3 : Option Value} {x : Int32} : EE 20 21 [l0, l1, l2, l3] (.int x :: st) M = EE 20 22 [l0, l1, l2, l3] (.int x :: .int x :: st) M := e_dup d20_21 rfl
theorem s20_21r {M : Mm} {st : List Value} {l0 l1 l2 l3 : Option Value} {x : Nat} : EE 20 21 [l0, l1, l2, l3] (.ref x :: st) M = EE 20 22 [l0, l1, l2, l3] (.ref x :: .ref x :: st) M := e_dup d20_21 rfl
theorem d20_22 : decode (cod 20) 22 = .ok (.getfield 54, 3) := by decide +kernel
theorem s20_22 {n : Nat} {I : Nat → Nat → Int32} {R : Nat → Nat → Option Nat} {st : List Value} {l0 l1 l2 l3 : Option Value} {a : Nat} : EE 20 22 [l0, l1, l2, l3] (.ref a :: st) (n, I, R) = (gfI n I R 1 10 a).bind (fun z => EE 20 25 [l0, l1, l2, l3] (z :: st) (n, I, R)) := e_getf d20_22 f1_54 rfl rfl
theorem d20_25 : decode (cod 20) 25 = .ok (.iconst 1, 1) := by decide +kernel
theorem s20_25 {M : Mm} {st : List Value} {l0 l1 l2 l3 : Option Value} : EE 20 25 [l0, l1, l2, l3] st M = EE 20 26 [l0, l1, l2, l3] (.int (nI 1) :: st) M := e_con d20_25 k_con_1
theorem d20_26 : decode (cod 20) 26 = .ok (.isub, 1) := by decide +kernel
theorem s20_26 {M : Mm} {st : List Value} {l0 l1 l2 l3 : Option Value} {x y : Int32} : EE 20 26 [l0, l1, l2, l3] (.int y :: .int x :: st) M = EE 20 27 [l0, l1, l2, l3] (.int (x - y) :: st) M := e_II d20_26 rfl rfl rfl rfl rfl rfl
theorem d20_27 : decode (cod 20) 27 = .ok (.putfield 54, 3) := by decide +kernel
theorem s20_27 {n : Nat} {I : Nat → Nat → Int32} {R : Nat → Nat → Option Nat} {st : List Value} {l0 l1 l2 l3 : Option Value} {a : Nat} {v : Value} : EE 20 27 [l0, l1, l2, l3] (v :: .ref a :: st) (n, I, R) = (pfI n I R 1 10 a v).bind (fun z => EE 20 30 [l0, l1, l2, l3] st (n, z.1, z.2)) := e_putf d20_27 f1_54 rfl rfl (Or.inr rfl)
theorem d20_30 : decode (cod 20) 30 = .ok (.iload_n 2, 1) := by decide +kernel
theorem s20_30 {M : Mm} {st : List Value} {l0 l1 l3 : Option Value} {x : Int32} : EE 20 30 [l0, l1, some (.int x), l3] st M = EE 20 31 [l0, l1, some (.int x), l3] (.int x :: st) M := e_ld d20_30 rfl rfl rfl rfl rfl rfl
theorem d20_31 : decode (cod 20) 31 = .ok (.istore_n 3, 1) := by decide +kernel
theorem s20_31 {M : Mm} {st : List Value} {l0 l1 l2 l3 : Option Value} {x : Int32} : EE 20 31 [l0, l1, l2, l3] (.int x :: st) M = EE 20 32 [l0, l1, cln l2, some (.int x)] st M := e_st1 d20_31 rfl rfl rfl rfl rfl rfl rfl (Nat.le_of_ble_eq_true rfl) rfl
theorem d20_32 : decode (cod 20) 32 = .ok (.iload_n 3, 1) := by decide +kernel
theorem s20_32 {M : Mm} {st : List Value} {l0 l1 l2 : Option Value} {x : Int32} : EE 20 32 [l0, l1, l2, some (.int x)] st M = EE 20 33 [l0, l1, l2, some (.int x)] (.int x :: st) M := e_ld d20_32 rfl rfl rfl rfl rfl rfl
theorem d20_33 : decode (cod 20) 33 = .ok (.aload_n 0, 1) := by decide +kernel
theorem s20_33 {M : Mm} {st : List Value} {l1 l2 l3 : Option Value} {x : Nat} : EE 20 33 [some (.ref x), l1, l2, l3] st M = EE 20 34 [some (.ref x), l1, l2, l3] (.ref x :: st) M := e_ld d20_33 rfl rfl rfl rfl rfl rfl
theorem d20_34 : decode (cod 20) 34 = .ok (.getfield 54, 3) := by decide +kernel
theorem s20_34 {n : Nat} {I : Nat → Nat → Int32} {R : Nat → Nat → Option Nat} {st : List Value} {l0 l1 l2 l3 : Option Value} {a : Nat} : EE 20 34 [l0, l1, l2, l3] (.ref a :: st) (n, I, R) = (gfI n I R 1 10 a).bind (fun z => EE 20 37 [l0, l1, l2, l3] (z :: st) (n, I, R)) := e_getf d20_34 f1_54 rfl rfl
theorem d20_37 : decode (cod 20) 37 = .ok (.if_icmp .ge 23, 3) := by decide +kernel
theorem s20_37 {M : Mm} {st : List Value} {l0 l1 l2 l3 : Option Value} {x y : Int32} : EE 20 37 [l0, l1, l2, l3] (.int y :: .int x :: st) M = if y ≤ x then EE 20 60 [l0, l1, l2, l3] st M else EE 20 40 [l0, l1, l2, l3] st M := e_cge d20_37 (by decide)
theorem d20_40 : decode (cod 20) 40 = .ok (.aload_n 0, 1) := by decide +kernel
theorem s20_40 {M : Mm} {st : List Value} {l1 l2 l3 : Option Value} {x : Nat} : EE 20 40 [some (.ref x), l1, l2, l3] st M = EE 20 41 [some (.ref x), l1, l2, l3] (.ref x :: st) M := e_ld d20_40 rfl rfl rfl rfl rfl rfl
theorem d20_41 : decode (cod 20) 41 = .ok (.getfield 35, 3) := by decide +kernel
theorem s20_41 {n : Nat} {I : Nat → Nat → Int32} {R : Nat → Nat → Option Nat} {st : List Value} {l0 l1 l2 l3 : Option Value} {a : Nat} : EE 20 41 [l0, l1, l2, l3] (.ref a :: st) (n, I, R) = (gfI n I R 1 4 a).bind (fun z => EE 20 44 [l0, l1, l2, l3] (z :: st) (n, I, R)) := e_getf d20_41 f1_35 rfl rfl
theorem d20_44 : decode (cod 20) 44 = .ok (.iload_n 3, 1) := by decide +kernel
theorem s20_44 {M : Mm} {st : List Value} {l0 l1 l2 : Option Value} {x : Int32} : EE 20 44 [l0, l1, l2, some (.int x)] st M = EE 20 45 [l0, l1, l2, some (.int x)] (.int x :: st) M := e_ld d20_44 rfl rfl rfl rfl rfl rfl
theorem d20_45 : decode (cod 20) 45 = .ok (.aload_n 0, 1) := by decide +kernel
theorem s20_45 {M : Mm} {st : List Value} {l1 l2 l3 : Option Value} {x : Nat} : EE 20 45 [some (.ref x), l1, l2, l3] st M = EE 20 46 [some (.ref x), l1, l2, l3] (.ref x :: st) M := e_ld d20_45 rfl rfl rfl rfl rfl rfl
theorem d20_46 : decode (cod 20) 46 = .ok (.getfield 35, 3) := by decide +kernel
theorem s20_46 {n : Nat} {I : Nat → Nat → Int32} {R : Nat → Nat → Option Nat} {st : List Value} {l0 l1 l2 l3 : Option Value} {a : Nat} : EE 20 46 [l0, l1, l2, l3] (.ref a :: st) (n, I, R) = (gfI n I R 1 4 a).bind (fun z => EE 20 49 [l0, l1, l2, l3] (z :: st) (n, I, R)) := e_getf d20_46 f1_35 rfl rfl
theorem d20_49 : decode (cod 20) 49 = .ok (.iload_n 3, 1) := by decide +kernel
theorem s20_49 {M : Mm} {st : List Value} {l0 l1 l2 : Option Value} {x : Int32} : EE 20 49 [l0, l1, l2, some (.int x)] st M = EE 20 50 [l0, l1, l2, some (.int x)] (.int x :: st) M := e_ld d20_49 rfl rfl rfl rfl rfl rfl
theorem d20_50 : decode (cod 20) 50 = .ok (.iconst 1, 1) := by decide +kernel
theorem s20_50 {M : Mm} {st : List Value} {l0 l1 l2 l3 : Option Value} : EE 20 50 [l0, l1, l2, l3] st M = EE 20 51 [l0, l1, l2, l3] (.int (nI 1) :: st) M := e_con d20_50 k_con_1
theorem d20_51 : decode (cod 20) 51 = .ok (.iadd, 1) := by decide +kernel
theorem s20_51 {M : Mm} {st : List Value} {l0 l1 l2 l3 : Option Value} {x y : Int32} : EE 20 51 [l0, l1, l2, l3] (.int y :: .int x :: st) M = EE 20 52 [l0, l1, l2, l3] (.int (x + y) :: st) M := e_II d20_51 rfl rfl rfl rfl rfl rfl
theorem d20_52 : decode (cod 20) 52 = .ok (.iaload, 1) := by decide +kernel
theorem s20_52 {n : Nat} {I : Nat → Nat → Int32} {R : Nat → Nat → Option Nat} {st : List Value} {l0 l1 l2 l3 : Option Value} {j : Int32} {a : Nat} : EE 20 52 [l0, l1, l2, l3] (.int j :: .ref a :: st) (n, I, R) = (ardI 5 n I a j).bind (fun z => EE 20 53 [l0, l1, l2, l3] (.int z :: st) (n, I, R)) := e_iald d20_52
theorem d20_53 : decode (cod 20) 53 = .ok (.iastore, 1) := by decide +kernel
theorem s20_53 {n : Nat} {I : Nat → Nat → Int32} {R : Nat → Nat → Option Nat} {st : List Value} {l0 l1 l2 l3 : Option Value} {j x : Int32} {a : Nat} (h : acI 5 n a j) : EE 20 53 [l0, l1, l2, l3] (.int x :: .int j :: .ref a :: st) (n, I, R) = EE 20 54 [l0, l1, l2, l3] st (n, wI I a j.toNatClampNeg x, R) := e_iast d20_53 h
theorem d20_54 : decode (cod 20) 54 = .ok (.iinc 3 1, 3) := by decide +kernel
theorem s20_54 {M : Mm} {st : List Value} {l0 l1 l2 : Option Value} {x : Int32} : EE 20 54 [l0, l1, l2, some (.int x)] st M = EE 20 57 [l0, l1, cln l2, some (.int (x + nI 1))] st M := e_iinc d20_54 rfl (congrArg (fun z => x + z) k_inc_1) rfl
theorem d20_57 : decode (cod 20) 57 = .ok (.goto (-25), 3) := by decide +kernel
theorem s20_57 {M : Mm} {st : List Value} {l0 l1 l2 l3 : Option Value} : EE 20 57 [l0, l1, l2, l3] st M = EE 20 32 [l0, l1, l2, l3] st M := e_goto d20_57 (by decide)
theorem d20_60 : decode (cod 20) 60 = .ok (.goto 32, 3) := by decide +kernel
theorem s20_60 {M : Mm} {st : List Value} {l0 l1 l2 l3 : Option Value} : EE 20 60 [l0, l1, l2, l3] st M = EE 20 92 [l0, l1, l2, l3] st M := e_goto d20_60 (by decide)
theorem d20_63 : decode (cod 20) 63 = .ok (.aload_n 0, 1) := by decide +kernel
theorem s20_63 {M : Mm} {st : List Value} {l1 l2 l3 : Option Value} {x : Nat} : EE 20 63 [some (.ref x), l1, l2, l3] st M = EE 20 64 [some (.ref x), l1, l2, l3] (.ref x :: st) M := e_ld d20_63 rfl rfl rfl rfl rfl rfl
theorem d20_64 : decode (cod 20) 64 = .ok (.getfield 54, 3) := by decide +kernel
theorem s20_64 {n : Nat} {I : Nat → Nat → Int32} {R : Nat → Nat → Option Nat} {st : List Value} {l0 l1 l2 l3 : Option Value} {a : Nat} : EE 20 64 [l0, l1, l2, l3] (.ref a :: st) (n, I, R) = (gfI n I R 1 10 a).bind (fun z => EE 20 67 [l0, l1, l2, l3] (z :: st) (n, I, R)) := e_getf d20_64 f1_54 rfl rfl
theorem d20_67 : decode (cod 20) 67 = .ok (.bipush 10, 2) := by decide +kernel
theorem s20_67 {M : Mm} {st : List Value} {l0 l1 l2 l3 : Option Value} : EE 20 67 [l0, l1, l2, l3] st M = EE 20 69 [l0, l1, l2, l3] (.int (nI 10) :: st) M := e_bip d20_67 k_bip_10
theorem d20_69 : decode (cod 20) 69 = .ok (.if_icmp .ge 23, 3) := by decide +kernel
theorem s20_69 {M : Mm} {st : List Value} {l0 l1 l2 l3 : Option Value} {x y : Int32} : EE 20 69 [l0, l1, l2, l3] (.int y :: .int x :: st) M = if y ≤ x then EE 20 92 [l0, l1, l2, l3] st M else EE 20 72 [l0, l1, l2, l3] st M := e_cge d20_69 (by decide)
theorem d20_72 : decode (cod 20) 72 = .ok (.aload_n 0, 1) := by decide +kernel
theorem s20_72 {M : Mm} {st : List Value} {l1 l2 l3 : Option Value} {x : Nat} : EE 20 72 [some (.ref x), l1, l2, l3] st M = EE 20 73 [some (.ref x), l1, l2, l3] (.ref x :: st) M := e_ld d20_72 rfl rfl rfl rfl rfl rfl
theorem d20_73 : decode (cod 20) 73 = .ok (.getfield 35, 3) := by decide +kernel
theorem s20_73 {n : Nat} {I : Nat → Nat → Int32} {R : Nat → Nat → Option Nat} {st : List Value} {l0 l1 l2 l3 : Option Value} {a : Nat} : EE 20 73 [l0, l1, l2, l3] (.ref a :: st) (n, I, R) = (gfI n I R 1 4 a).bind (fun z => EE 20 76 [l0, l1, l2, l3] (z :: st) (n, I, R)) := e_getf d20_73 f1_35 rfl rfl
theorem d20_76 : decode (cod 20) 76 = .ok (.aload_n 0, 1) := by decide +kernel
theorem s20_76 {M : Mm} {st : List Value} {l1 l2 l3 : Option Value} {x : Nat} : EE 20 76 [some (.ref x), l1, l2, l3] st M = EE 20 77 [some (.ref x), l1, l2, l3] (.ref x :: st) M := e_ld d20_76 rfl rfl rfl rfl rfl rfl
theorem d20_77 : decode (cod 20) 77 = .ok (.getfield 54, 3) := by decide +kernel
theorem s20_77 {n : Nat} {I : Nat → Nat → Int32} {R : Nat → Nat → Option Nat} {st : List Value} {l0 l1 l2 l3 : Option Value} {a : Nat} : EE 20 77 [l0, l1, l2, l3] (.ref a :: st) (n, I, R) = (gfI n I R 1 10 a).bind (fun z => EE 20 80 [l0, l1, l2, l3] (z :: st) (n, I, R)) := e_getf d20_77 f1_54 rfl rfl
theorem d20_80 : decode (cod 20) 80 = .ok (.iload_n 1, 1) := by decide +kernel
theorem s20_80 {M : Mm} {st : List Value} {l0 l2 l3 : Option Value} {x : Int32} : EE 20 80 [l0, some (.int x), l2, l3] st M = EE 20 81 [l0, some (.int x), l2, l3] (.int x :: st) M := e_ld d20_80 rfl rfl rfl rfl rfl rfl
theorem d20_81 : decode (cod 20) 81 = .ok (.iastore, 1) := by decide +kernel
theorem s20_81 {n : Nat} {I : Nat → Nat → Int32} {R : Nat → Nat → Option Nat} {st : List Value} {l0 l1 l2 l3 : Option Value} {j x : Int32} {a : Nat} (h : acI 5 n a j) : EE 20 81 [l0, l1, l2, l3] (.int x :: .int j :: .ref a :: st) (n, I, R) = EE 20 82 [l0, l1, l2, l3] st (n, wI I a j.toNatClampNeg x, R) := e_iast d20_81 h
theorem d20_82 : decode (cod 20) 82 = .ok (.aload_n 0, 1) := by decide +kernel
theorem s20_82 {M : Mm} {st : List Value} {l1 l2 l3 : Option Value} {x : Nat} : EE 20 82 [some (.ref x), l1, l2, l3] st M = EE 20 83 [some (.ref x), l1, l2, l3] (.ref x :: st) M := e_ld d20_82 rfl rfl rfl rfl rfl rfl
theorem d20_83 : decode (cod 20) 83 = .ok (.dup, 1) := by decide +kernel
theorem s20_83i {M : Mm} {st : List Value} {l0 l1 l2 l3 : Option Value} {x : Int32} : EE 20 83 [l0, l1, l2, l3] (.int x :: st) M = EE 20 84 [l0, l1, l2, l3] (.int x :: .int x :: st) M := e_dup d20_83 rfl
theorem s20_83r {M : Mm} {st : List Value} {l0 l1 l2 l3 : Option Value} {x : Nat} : EE 20 83 [l0, l1, l2, l3] (.ref x :: st) M = EE 20 84 [l0, l1, l2, l3] (.ref x :: .ref x :: st) M := e_dup d20_83 rfl
theorem d20_84 : decode (cod 20) 84 = .ok (.getfield 54, 3) := by decide +kernel
theorem s20_84 {n : Nat} {I : Nat → Nat → Int32} {R : Nat → Nat → Option Nat} {st : List Value} {l0 l1 l2 l3 : Option Value} {a : Nat} : EE 20 84 [l0, l1, l2, l3] (.ref a :: st) (n, I, R) = (gfI n I R 1 10 a).bind (fun z => EE 20 87 [l0, l1, l2, l3] (z :: st) (n, I, R)) := e_getf d20_84 f1_54 rfl rfl
theorem d20_87 : decode (cod 20) 87 = .ok (.iconst 1, 1) := by decide +kernel
theorem s20_87 {M : Mm} {st : List Value} {l0 l1 l2 l3 : Option Value} : EE 20 87 [l0, l1, l2, l3] st M = EE 20 88 [l0, l1, l2, l3] (.int (nI 1) :: st) M := e_con d20_87 k_con_1
theorem d20_88 : decode (cod 20) 88 = .ok (.iadd, 1) := by decide +kernel
theorem s20_88 {M : Mm} {st : List Value} {l0 l1 l2 l3 : Option Value} {x y : Int32} : EE 20 88 [l0, l1, l2, l3] (.int y :: .int x :: st) M = EE 20 89 [l0, l1, l2, l3] (.int (x + y) :: st) M := e_II d20_88 rfl rfl rfl rfl rfl rfl
theorem d20_89 : decode (cod 20) 89 = .ok (.putfield 54, 3) := by decide +kernel
theorem s20_89 {n : Nat} {I : Nat → Nat → Int32} {R : Nat → Nat → Option Nat} {st : List Value} {l0 l1 l2 l3 : Option Value} {a : Nat} {v : Value} : EE 20 89 [l0, l1, l2, l3] (v :: .ref a :: st) (n, I, R) = (pfI n I R 1 10 a v).bind (fun z => EE 20 92 [l0, l1, l2, l3] st (n, z.1, z.2)) := e_putf d20_89 f1_54 rfl rfl (Or.inr rfl)
theorem d20_92 : decode (cod 20) 92 = .ok (.aload_n 0, 1) := by decide +kernel
theorem s20_92 {M : Mm} {st : List Value} {l1 l2 l3 : Option Value} {x : Nat} : EE 20 92 [some (.ref x), l1, l2, l3] st M = EE 20 93 [some (.ref x), l1, l2, l3] (.ref x :: st) M := e_ld d20_92 rfl rfl rfl rfl rfl rfl
theorem d20_93 : decode (cod 20) 93 = .ok (.getfield 54, 3) := by decide +kernel
theorem s20_93 {n : Nat} {I : Nat → Nat → Int32} {R : Nat → Nat → Option Nat} {st : List Value} {l0 l1 l2 l3 : Option Value} {a : Nat} : EE 20 93 [l0, l1, l2, l3] (.ref a :: st) (n, I, R) = (gfI n I R 1 10 a).bind (fun z => EE 20 96 [l0, l1, l2, l3] (z :: st) (n, I, R)) := e_getf d20_93 f1_54 rfl rfl
theorem d20_96 : decode (cod 20) 96 = .ok (.ireturn, 1) := by decide +kernel
theorem s20_96 {M : Mm} {l0 l1 l2 l3 : Option Value} {v : Int32} : EE 20 96 [l0, l1, l2, l3] [.int v] M = some (some (.int v), M) := e_iret d20_96 rfl rfl
theorem FE20 {a : Nat} {b0 : Int32} {M : Mm} : FF 20 [.ref a, .int b0] M = EE 20 0 [some (.ref a), some (.int b0), none, none] [] M := FF_eq 20 _ _ (Nat.le_of_ble_eq_true rfl)
theorem d21_0 : decode (cod 21) 0 = .ok (.iconst 0, 1) := by decide +kernel
theorem s21_0 {M : Mm} {st : List Value} {l0 l1 l2 : Option Value} : EE 21 0 [l0, l1, l2] st M = EE 21 1 [l0, l1, l2] (.int (nI 0) :: st) M := e_con d21_0 k_con_0
theorem d21_1 : decode (cod 21) 1 = .ok (.istore_n 2, 1) := by decide +kernel
theorem s21_1 {M : Mm} {st : List Value} {l0 l1 l2 : Option Value} {x : Int32} : EE 21 1 [l0, l1, l2] (.int x :: st) M = EE 21 2 [l0, cln l1, some (.int x)] st M := e_st1 d21_1 rfl rfl rfl rfl rfl rfl rfl (Nat.le_of_ble_eq_true rfl) rfl
theorem d21_2 : decode (cod 21) 2 = .ok (.iload_n 2, 1) := by decide +kernel
theorem s21_2 {M : Mm} {st : List Value} {l0 l1 : Option Value} {x : Int32} : EE 21 2 [l0, l1, some (.int x)] st M = EE 21 3 [l0, l1, some (.int x)] (.int x :: st) M := e_ld d21_2 rfl rfl rfl rfl rfl rfl
theorem d21_3 : decode (cod 21) 3 = .ok (.aload_n 0, 1) := by decide +kernel
theorem s21_3 {M : Mm} {st : List Value} {l1 l2 : Option Value} {x : Nat} : EE 21 3 [some (.ref x), l1, l2] st M = EE 21 4 [some (.ref x), l1, l2] (.ref x :: st) M := e_ld d21_3 rfl rfl rfl rfl rfl rfl
theorem d21_4 : decode (cod 21) 4 = .ok (.getfield 54, 3) := by decide +kernel
theorem s21_4 {n : Nat} {I : Nat → Nat → Int32} {R : Nat → Nat → Option Nat} {st : List Value} {l0 l1 l2 : Option Value} {a : Nat} : EE 21 4 [l0, l1, l2] (.ref a :: st) (n, I, R) = (gfI n I R 1 10 a).bind (fun z => EE 21 7 [l0, l1, l2] (z :: st) (n, I, R)) := e_getf d21_4 f1_54 rfl rfl
theorem d21_7 : decode (cod 21) 7 = .ok (.if_icmp .ge 21, 3) := by decide +kernel
theorem s21_7 {M : Mm} {st : List Value} {l0 l1 l2 : Option Value} {x y : Int32} : EE 21 7 [l0, l1, l2] (.int y :: .int x :: st) M = if y ≤ x then EE 21 28 [l0, l1, l2] st M else EE 21 10 [l0, l1, l2] st M := e_cge d21_7 (by decide)
theorem d21_10 : decode (cod 21) 10 = .ok (.aload_n 0, 1) := by decide +kernel
theorem s21_10 {M : Mm} {st : List Value} {l1 l2 : Option Value} {x : Nat} : EE 21 10 [some (.ref x), l1, l2] st M = EE 21 11 [some (.ref x), l1, l2] (.ref x :: st) M := e_ld d21_10 rfl rfl rfl rfl rfl rfl
theorem d21_11 : decode (cod 21) 11 = .ok (.getfield 35, 3) := by decide +kernel
theorem s21_11 {n : Nat} {I : Nat → Nat → Int32} {R : Nat → Nat → Option Nat} {st : List Value} {l0 l1 l2 : Option Value} {a : Nat} : EE 21 11 [l0, l1, l2] (.ref a :: st) (n, I, R) = (gfI n I R 1 4 a).bind (fun z => EE 21 14 [l0, l1, l2] (z :: st) (n, I, R)) := e_getf d21_11 f1_35 rfl rfl
theorem d21_14 : decode (cod 21) 14 = .ok (.iload_n 2, 1) := by decide +kernel
theorem s21_14 {M : Mm} {st : List Value} {l0 l1 : Option Value} {x : Int32} : EE 21 14 [l0, l1, some (.int x)] st M = EE 21 15 [l0, l1, some (.int x)] (.int x :: st) M := e_ld d21_14 rfl rfl rfl rfl rfl rfl
theorem d21_15 : decode (cod 21) 15 = .ok (.iaload, 1) := by decide +kernel
theorem s21_15 {n : Nat} {I : Nat → Nat → Int32} {R : Nat → Nat → Option Nat} {st : List Value} {l0 l1 l2 : Option Value} {j : Int32} {a : Nat} : EE 21 15 [l0, l1, l2] (.int j :: .ref a :: st) (n, I, R) = (ardI 5 n I a j).bind (fun z => EE 21 16 [l0, l1, l2] (.int z :: st) (n, I, R)) := e_iald d21_15
theorem d21_16 : decode (cod 21) 16 = .ok (.iload_n 1, 1) := by decide +kernel
theorem s21_16 {M : Mm} {st : List Value} {l0 l2 : Option Value} {x : Int32} : EE 21 16 [l0, some (.int x), l2] st M = EE 21 17 [l0, some (.int x), l2] (.int x :: st) M := e_ld d21_16 rfl rfl rfl rfl rfl rfl
theorem d21_17 : decode (cod 21) 17 = .ok (.if_icmp .ne 5, 3) := by decide +kernel
theorem s21_17 {M : Mm} {st : List Value} {l0 l1 l2 : Option Value} {x y : Int32} : EE 21 17 [l0, l1, l2] (.int y :: .int x :: st) M = if x = y then EE 21 20 [l0, l1, l2] st M else EE 21 22 [l0, l1, l2] st M := e_cne d21_17 (by decide)
theorem d21_20 : decode (cod 21) 20 = .ok (.iload_n 2, 1) := by decide +kernel
theorem s21_20 {M : Mm} {st : List Value} {l0 l1 : Option Value} {x : Int32} : EE 21 20 [l0, l1, some (.int x)] st M = EE 21 21 [l0, l1, some (.int x)] (.int x :: st) M := e_ld d21_20 rfl rfl rfl rfl rfl rfl
theorem d21_21 : decode (cod 21) 21 = .ok (.ireturn, 1) := by decide +kernel
theorem s21_21 {M : Mm} {l0 l1 l2 : Option Value} {v : Int32} : EE 21 21 [l0, l1, l2] [.int v] M = some (some (.int v), M) := e_iret d21_21 rfl rfl
theorem d21_22 : decode (cod 21) 22 = .ok (.iinc 2 1, 3) := by decide +kernel
theorem s21_22 {M : Mm} {st : List Value} {l0 l1 : Option Value} {x : Int32} : EE 21 22 [l0, l1, some (.int x)] st M = EE 21 25 [l0, cln l1, some (.int (x + nI 1))] st M := e_iinc d21_22 rfl (congrArg (fun z => x + z) k_inc_1) rfl
theorem d21_25 : decode (cod 21) 25 = .ok (.goto (-23), 3) := by decide +kernel
theorem s21_25 {M : Mm} {st : List Value} {l0 l1 l2 : Option Value} : EE 21 25 [l0, l1, l2] st M = EE 21 2 [l0, l1, l2] st M := e_goto d21_25 (by decide)
theorem d21_28 : decode (cod 21) 28 = .ok (.bipush (-6), 2) := by decide +kernel
theorem s21_28 {M : Mm} {st : List Value} {l0 l1 l2 : Option Value} : EE 21 28 [l0, l1, l2] st M = EE 21 30 [l0, l1, l2] (.int ((-6)) :: st) M := e_bip d21_28 k_bip_m6
theorem d21_30 : decode (cod 21) 30 = .ok (.ireturn, 1) := by decide +kernel
theorem s21_30 {M : Mm} {l0 l1 l2 : Option Value} {v : Int32} : EE 21 30 [l0, l1, l2] [.int v] M = some (some (.int v), M) := e_iret d21_30 rfl rfl
theorem FE21 {a : Nat} {b0 : Int32} {M : Mm} : FF 21 [.ref a, .int b0] M = EE 21 0 [some (.ref a), some (.int b0), none] [] M := FF_eq 21 _ _ (Nat.le_of_ble_eq_true rfl)
theorem d22_0 : decode (cod 22) 0 = .ok (.iload_n 1, 1) := by decide +kernel
theorem s22_0 {M : Mm} {st : List Value} {l0 l2 l3 l4 : Option Value} {x : Int32} : EE 22 0 [l0, some (.int x), l2, l3, l4] st M = EE 22 1 [l0, some (.int x), l2, l3, l4] (.int x :: st) M := e_ld d22_0 rfl rfl rfl rfl rfl rfl
theorem d22_1 : decode (cod 22) 1 = .ok (.invokestatic 81, 3) := by decide +kernel
theorem s22_1 {M : Mm} {l0 l1 l2 l3 l4 : Option Value} {b0 : Int32} {st : List Value} (hl : st.length ≤ 4) : EE 22 1 [l0, l1, l2, l3, l4] (.int b0 :: st) M = (FF 49 [.int b0] M).bind (fun z => EE 22 4 [l0, l1, l2, l3, l4] (psh z.1 st) z.2) := e_cals (av := [.int b0]) d22_1 c1_81 (Or.inr rfl) rfl rfl r22_49 rfl hl
theorem d22_4 : decode (cod 22) 4 = .ok (.ifCond .eq 11, 3) := by decide +kernel
theorem s22_4 {M : Mm} {st : List Value} {l0 l1 l2 l3 l4 : Option Value} {x : Int32} : EE 22 4 [l0, l1, l2, l3, l4] (.int x :: st) M = if x = 0 then EE 22 15 [l0, l1, l2, l3, l4] st M else EE 22 7 [l0, l1, l2, l3, l4] st M := e_eq0 d22_4 (by decide)
theorem d22_7 : decode (cod 22) 7 = .ok (.aload_n 0, 1) := by decide +kernel
theorem s22_7 {M : Mm} {st : List Value} {l1 l2 l3 l4 : Option Value} {x : Nat} : EE 22 7 [some (.ref x), l1, l2, l3, l4] st M = EE 22 8 [some (.ref x), l1, l2, l3, l4] (.ref x :: st) M := e_ld d22_7 rfl rfl rfl rfl rfl rfl
theorem d22_8 : decode (cod 22) 8 = .ok (.iload_n 2, 1) := by decide +kernel
theorem s22_8 {M : Mm} {st : List Value} {l0 l1 l3 l4 : Option Value} {x : Int32} : EE 22 8 [l0, l1, some (.int x), l3, l4] st M = EE 22 9 [l0, l1, some (.int x), l3, l4] (.int x :: st) M := e_ld d22_8 rfl rfl rfl rfl rfl rfl
theorem d22_9 : decode (cod 22) 9 = .ok (.invokevirtual 85, 3) := by decide +kernel
theorem s22_9 {l0 l1 l2 l3 l4 : Option Value} {a : Nat} {M : Mm} {b0 : Int32} {st : List Value} (hl : st.length ≤ 4) (ho : isO "HandoverDesk$State" M.1 a = true) : EE 22 9 [l0, l1, l2, l3, l4] (.int b0 :: .ref a :: st) M = (FF 18 (.ref a :: [.int b0]) M).bind (fun z => EE 22 12 [l0, l1, l2, l3, l4] (psh z.1 st) z.2) := e_calv (av := [.int b0]) d22_9 c1_85 rfl rfl rfl r22_18 rfl hl ho
theorem d22_12 : decode (cod 22) 12 = .ok (.ifCond .ne 5, 3) := by decide +kernel
theorem s22_12 {M : Mm} {st : List Value} {l0 l1 l2 l3 l4 : Option Value} {x : Int32} : EE 22 12 [l0, l1, l2, l3, l4] (.int x :: st) M = if x = 0 then EE 22 15 [l0, l1, l2, l3, l4] st M else EE 22 17 [l0, l1, l2, l3, l4] st M := e_ne0 d22_12 (by decide)
theorem d22_15 : decode (cod 22) 15 = .ok (.iconst (-1), 1) := by decide +kernel
theorem s22_15 {M : Mm} {st : List Value} {l0 l1 l2 l3 l4 : Option Value} : EE 22 15 [l0, l1, l2, l3, l4] st M = EE 22 16 [l0, l1, l2, l3, l4] (.int ((-1)) :: st) M := e_con d22_15 k_con_m1
theorem d22_16 : decode (cod 22) 16 = .ok (.ireturn, 1) := by decide +kernel
theorem s22_16 {M : Mm} {l0 l1 l2 l3 l4 : Option Value} {v : Int32} : EE 22 16 [l0, l1, l2, l3, l4] [.int v] M = some (some (.int v), M) := e_iret d22_16 rfl rfl
theorem d22_17 : decode (cod 22) 17 = .ok (.iload_n 3, 1) := by decide +kernel
theorem s22_17 {M : Mm} {st : List Value} {l0 l1 l2 l4 : Option Value} {x : Int32} : EE 22 17 [l0, l1, l2, some (.int x), l4] st M = EE 22 18 [l0, l1, l2, some (.int x), l4] (.int x :: st) M := e_ld d22_17 rfl rfl rfl rfl rfl rfl
theorem d22_18 : decode (cod 22) 18 = .ok (.iconst 1, 1) := by decide +kernel
theorem s22_18 {M : Mm} {st : List Value} {l0 l1 l2 l3 l4 : Option Value} : EE 22 18 [l0, l1, l2, l3, l4] st M = EE 22 19 [l0, l1, l2, l3, l4] (.int (nI 1) :: st) M := e_con d22_18 k_con_1
theorem d22_19 : decode (cod 22) 19 = .ok (.if_icmp .lt 9, 3) := by decide +kernel
theorem s22_19 {M : Mm} {st : List Value} {l0 l1 l2 l3 l4 : Option Value} {x y : Int32} : EE 22 19 [l0, l1, l2, l3, l4] (.int y :: .int x :: st) M = if x < y then EE 22 28 [l0, l1, l2, l3, l4] st M else EE 22 22 [l0, l1, l2, l3, l4] st M := e_clt d22_19 (by decide)
theorem d22_22 : decode (cod 22) 22 = .ok (.iload_n 3, 1) := by decide +kernel
theorem s22_22 {M : Mm} {st : List Value} {l0 l1 l2 l4 : Option Value} {x : Int32} : EE 22 22 [l0, l1, l2, some (.int x), l4] st M = EE 22 23 [l0, l1, l2, some (.int x), l4] (.int x :: st) M := e_ld d22_22 rfl rfl rfl rfl rfl rfl
theorem d22_23 : decode (cod 22) 23 = .ok (.bipush 100, 2) := by decide +kernel
theorem s22_23 {M : Mm} {st : List Value} {l0 l1 l2 l3 l4 : Option Value} : EE 22 23 [l0, l1, l2, l3, l4] st M = EE 22 25 [l0, l1, l2, l3, l4] (.int (nI 100) :: st) M := e_bip d22_23 k_bip_100
theorem d22_25 : decode (cod 22) 25 = .ok (.if_icmp .le 6, 3) := by decide +kernel
theorem s22_25 {M : Mm} {st : List Value} {l0 l1 l2 l3 l4 : Option Value} {x y : Int32} : EE 22 25 [l0, l1, l2, l3, l4] (.int y :: .int x :: st) M = if x ≤ y then EE 22 31 [l0, l1, l2, l3, l4] st M else EE 22 28 [l0, l1, l2, l3, l4] st M := e_cle d22_25 (by decide)
theorem d22_28 : decode (cod 22) 28 = .ok (.bipush (-2), 2) := by decide +kernel
theorem s22_28 {M : Mm} {st : List Value} {l0 l1 l2 l3 l4 : Option Value} : EE 22 28 [l0, l1, l2, l3, l4] st M = EE 22 30 [l0, l1, l2, l3, l4] (.int ((-2)) :: st) M := e_bip d22_28 k_bip_m2
theorem d22_30 : decode (cod 22) 30 = .ok (.ireturn, 1) := by decide +kernel
theorem s22_30 {M : Mm} {l0 l1 l2 l3 l4 : Option Value} {v : Int32} : EE 22 30 [l0, l1, l2, l3, l4] [.int v] M = some (some (.int v), M) := e_iret d22_30 rfl rfl
theorem d22_31 : decode (cod 22) 31 = .ok (.bipush 100, 2) := by decide +kernel
theorem s22_31 {M : Mm} {st : List Value} {l0 l1 l2 l3 l4 : Option Value} : EE 22 31 [l0, l1, l2, l3, l4] st M = EE 22 33 [l0, l1, l2, l3, l4] (.int (nI 100) :: st) M := e_bip d22_31 k_bip_100
theorem d22_33 : decode (cod 22) 33 = .ok (.aload_n 0, 1) := by decide +kernel
theorem s22_33 {M : Mm} {st : List Value} {l1 l2 l3 l4 : Option Value} {x : Nat} : EE 22 33 [some (.ref x), l1, l2, l3, l4] st M = EE 22 34 [some (.ref x), l1, l2, l3, l4] (.ref x :: st) M := e_ld d22_33 rfl rfl rfl rfl rfl rfl
theorem d22_34 : decode (cod 22) 34 = .ok (.iload_n 1, 1) := by decide +kernel
theorem s22_34 {M : Mm} {st : List Value} {l0 l2 l3 l4 : Option Value} {x : Int32} : EE 22 34 [l0, some (.int x), l2, l3, l4] st M = EE 22 35 [l0, some (.int x), l2, l3, l4] (.int x :: st) M := e_ld d22_34 rfl rfl rfl rfl rfl rfl
theorem d22_35 : decode (cod 22) 35 = .ok (.iload_n 2, 1) := by decide +kernel
theorem s22_35 {M : Mm} {st : List Value} {l0 l1 l3 l4 : Option Value} {x : Int32} : EE 22 35 [l0, l1, some (.int x), l3, l4] st M = EE 22 36 [l0, l1, some (.int x), l3, l4] (.int x :: st) M := e_ld d22_35 rfl rfl rfl rfl rfl rfl
theorem d22_36 : decode (cod 22) 36 = .ok (.invokevirtual 88, 3) := by decide +kernel
theorem s22_36 {l0 l1 l2 l3 l4 : Option Value} {a : Nat} {M : Mm} {b0 : Int32} {b1 : Int32} {st : List Value} (hl : st.length ≤ 4) (ho : isO "HandoverDesk$State" M.1 a = true) : EE 22 36 [l0, l1, l2, l3, l4] (.int b1 :: .int b0 :: .ref a :: st) M = (FF 23 (.ref a :: [.int b0, .int b1]) M).bind (fun z => EE 22 39 [l0, l1, l2, l3, l4] (psh z.1 st) z.2) := e_calv (av := [.int b0, .int b1]) d22_36 c1_88 rfl rfl rfl r22_23 rfl hl ho
theorem d22_39 : decode (cod 22) 39 = .ok (.iload_n 3, 1) := by decide +kernel
theorem s22_39 {M : Mm} {st : List Value} {l0 l1 l2 l4 : Option Value} {x : Int32} : EE 22 39 [l0, l1, l2, some (.int x), l4] st M = EE 22 40 [l0, l1, l2, some (.int x), l4] (.int x :: st) M := e_ld d22_39 rfl rfl rfl rfl rfl rfl
theorem d22_40 : decode (cod 22) 40 = .ok (.iadd, 1) := by decide +kernel
theorem s22_40 {M : Mm} {st : List Value} {l0 l1 l2 l3 l4 : Option Value} {x y : Int32} : EE 22 40 [l0, l1, l2, l3, l4] (.int y :: .int x :: st) M = EE 22 41 [l0, l1, l2, l3, l4] (.int (x + y) :: st) M := e_II d22_40 rfl rfl rfl rfl rfl rfl
theorem d22_41 : decode (cod 22) 41 = .ok (.invokestatic 126, 3) := by decide +kernel
theorem s22_41 {M : Mm} {l0 l1 l2 l3 l4 : Option Value} {b0 : Int32} {b1 : Int32} {st : List Value} (hl : st.length ≤ 4) : EE 22 41 [l0, l1, l2, l3, l4] (.int b1 :: .int b0 :: st) M = (FF 151 [.int b0, .int b1] M).bind (fun z => EE 22 44 [l0, l1, l2, l3, l4] (psh z.1 st) z.2) := e_cals (av := [.int b0, .int b1]) d22_41 c1_126 (Or.inl rfl) rfl rfl r22_151 rfl hl
theorem d22_44 : decode (cod 22) 44 = .ok (.istore 4, 2) := by decide +kernel
theorem s22_44 {M : Mm} {st : List Value} {l0 l1 l2 l3 l4 : Option Value} {x : Int32} : EE 22 44 [l0, l1, l2, l3, l4] (.int x :: st) M = EE 22 46 [l0, l1, l2, cln l3, some (.int x)] st M := e_st1 d22_44 rfl rfl rfl rfl rfl rfl rfl (Nat.le_of_ble_eq_true rfl) rfl
theorem d22_46 : decode (cod 22) 46 = .ok (.aload_n 0, 1) := by decide +kernel
theorem s22_46 {M : Mm} {st : List Value} {l1 l2 l3 l4 : Option Value} {x : Nat} : EE 22 46 [some (.ref x), l1, l2, l3, l4] st M = EE 22 47 [some (.ref x), l1, l2, l3, l4] (.ref x :: st) M := e_ld d22_46 rfl rfl rfl rfl rfl rfl
theorem d22_47 : decode (cod 22) 47 = .ok (.iload_n 1, 1) := by decide +kernel
theorem s22_47 {M : Mm} {st : List Value} {l0 l2 l3 l4 : Option Value} {x : Int32} : EE 22 47 [l0, some (.int x), l2, l3, l4] st M = EE 22 48 [l0, some (.int x), l2, l3, l4] (.int x :: st) M := e_ld d22_47 rfl rfl rfl rfl rfl rfl
theorem d22_48 : decode (cod 22) 48 = .ok (.iload_n 2, 1) := by decide +kernel
theorem s22_48 {M : Mm} {st : List Value} {l0 l1 l3 l4 : Option Value} {x : Int32} : EE 22 48 [l0, l1, some (.int x), l3, l4] st M = EE 22 49 [l0, l1, some (.int x), l3, l4] (.int x :: st) M := e_ld d22_48 rfl rfl rfl rfl rfl rfl
theorem d22_49 : decode (cod 22) 49 = .ok (.iload 4, 2) := by decide +kernel
theorem s22_49 {M : Mm} {st : List Value} {l0 l1 l2 l3 : Option Value} {x : Int32} : EE 22 49 [l0, l1, l2, l3, some (.int x)] st M = EE 22 51 [l0, l1, l2, l3, some (.int x)] (.int x :: st) M := e_ld d22_49 rfl rfl rfl rfl rfl rfl
theorem d22_51 : decode (cod 22) 51 = .ok (.invokevirtual 129, 3) := by decide +kernel
theorem s22_51 {l0 l1 l2 l3 l4 : Option Value} {a : Nat} {M : Mm} {b0 : Int32} {b1 : Int32} {b2 : Int32} {st : List Value} (hl : st.length ≤ 4) (ho : isO "HandoverDesk$State" M.1 a = true) : EE 22 51 [l0, l1, l2, l3, l4] (.int b2 :: .int b1 :: .int b0 :: .ref a :: st) M = (FF 24 (.ref a :: [.int b0, .int b1, .int b2]) M).bind (fun z => EE 22 54 [l0, l1, l2, l3, l4] (psh z.1 st) z.2) := e_calv (av := [.int b0, .int b1, .int b2]) d22_51 c1_129 rfl rfl rfl r22_24 rfl hl ho
theorem d22_54 : decode (cod 22) 54 = .ok (.iload 4, 2) := by decide +kernel
theorem s22_54 {M : Mm} {st : List Value} {l0 l1 l2 l3 : Option Value} {x : Int32} : EE 22 54 [l0, l1, l2, l3, some (.int x)] st M = EE 22 56 [l0, l1, l2, l3, some (.int x)] (.int x :: st) M := e_ld d22_54 rfl rfl rfl rfl rfl rfl
theorem d22_56 : decode (cod 22) 56 = .ok (.ireturn, 1) := by decide +kernel
theorem s22_56 {M : Mm} {l0 l1 l2 l3 l4 : Option Value} {v : Int32} : EE 22 56 [l0, l1, l2, l3, l4] [.int v] M = some (some (.int v), M) := e_iret d22_56 rfl rfl
theorem FE22 {a : Nat} {b0 : Int32} {b1 : Int32} {b2 : Int32} {M : Mm} : FF 22 [.ref a, .int b0, .int b1, .int b2] M = EE 22 0 [some (.ref a), some (.int b0), some (.int b1), some (.int b2), none] [] M := FF_eq 22 _ _ (Nat.le_of_ble_eq_true rfl)
theorem d23_0 : decode (cod 23) 0 = .ok (.iload_n 1, 1) := by decide +kernel
theorem s23_0 {M : Mm} {st : List Value} {l0 l2 : Option Value} {x : Int32} : EE 23 0 [l0, some (.int x), l2] st M = EE 23 1 [l0, some (.int x), l2] (.int x :: st) M := e_ld d23_0 rfl rfl rfl rfl rfl rfl
theorem d23_1 : decode (cod 23) 1 = .ok (.invokestatic 81, 3) := by decide +kernel
theorem s23_1 {M : Mm} {l0 l1 l2 : Option Value} {b0 : Int32} {st : List Value} (hl : st.length ≤ 4) : EE 23 1 [l0, l1, l2] (.int b0 :: st) M = (FF 49 [.int b0] M).bind (fun z => EE 23 4 [l0, l1, l2] (psh z.1 st) z.2) := e_cals (av := [.int b0]) d23_1 c1_81 (Or.inr rfl) rfl rfl r23_49 rfl hl
theorem d23_4 : decode (cod 23) 4 = .ok (.ifCond .eq 22, 3) := by decide +kernel
theorem s23_4 {M : Mm} {st : List Value} {l0 l1 l2 : Option Value} {x : Int32} : EE 23 4 [l0, l1, l2] (.int x :: st) M = if x = 0 then EE 23 26 [l0, l1, l2] st M else EE 23 7 [l0, l1, l2] st M := e_eq0 d23_4 (by decide)
theorem d23_7 : decode (cod 23) 7 = .ok (.aload_n 0, 1) := by decide +kernel
theorem s23_7 {M : Mm} {st : List Value} {l1 l2 : Option Value} {x : Nat} : EE 23 7 [some (.ref x), l1, l2] st M = EE 23 8 [some (.ref x), l1, l2] (.ref x :: st) M := e_ld d23_7 rfl rfl rfl rfl rfl rfl
theorem d23_8 : decode (cod 23) 8 = .ok (.iload_n 2, 1) := by decide +kernel
theorem s23_8 {M : Mm} {st : List Value} {l0 l1 : Option Value} {x : Int32} : EE 23 8 [l0, l1, some (.int x)] st M = EE 23 9 [l0, l1, some (.int x)] (.int x :: st) M := e_ld d23_8 rfl rfl rfl rfl rfl rfl
theorem d23_9 : decode (cod 23) 9 = .ok (.invokevirtual 85, 3) := by decide +kernel
theorem s23_9 {l0 l1 l2 : Option Value} {a : Nat} {M : Mm} {b0 : Int32} {st : List Value} (hl : st.length ≤ 4) (ho : isO "HandoverDesk$State" M.1 a = true) : EE 23 9 [l0, l1, l2] (.int b0 :: .ref a :: st) M = (FF 18 (.ref a :: [.int b0]) M).bind (fun z => EE 23 12 [l0, l1, l2] (psh z.1 st) z.2) := e_calv (av := [.int b0]) d23_9 c1_85 rfl rfl rfl r23_18 rfl hl ho
theorem d23_12 : decode (cod 23) 12 = .ok (.ifCond .eq 14, 3) := by decide +kernel
theorem s23_12 {M : Mm} {st : List Value} {l0 l1 l2 : Option Value} {x : Int32} : EE 23 12 [l0, l1, l2] (.int x :: st) M = if x = 0 then EE 23 26 [l0, l1, l2] st M else EE 23 15 [l0, l1, l2] st M := e_eq0 d23_12 (by decide)
theorem d23_15 : decode (cod 23) 15 = .ok (.aload_n 0, 1) := by decide +kernel
theorem s23_15 {M : Mm} {st : List Value} {l1 l2 : Option Value} {x : Nat} : EE 23 15 [some (.ref x), l1, l2] st M = EE 23 16 [some (.ref x), l1, l2] (.ref x :: st) M := e_ld d23_15 rfl rfl rfl rfl rfl rfl
theorem d23_16 : decode (cod 23) 16 = .ok (.getfield 32, 3) := by decide +kernel
theorem s23_16 {n : Nat} {I : Nat → Nat → Int32} {R : Nat → Nat → Option Nat} {st : List Value} {l0 l1 l2 : Option Value} {a : Nat} : EE 23 16 [l0, l1, l2] (.ref a :: st) (n, I, R) = (gfI n I R 1 3 a).bind (fun z => EE 23 19 [l0, l1, l2] (z :: st) (n, I, R)) := e_getf d23_16 f1_32 rfl rfl
theorem d23_19 : decode (cod 23) 19 = .ok (.iload_n 1, 1) := by decide +kernel
theorem s23_19 {M : Mm} {st : List Value} {l0 l2 : Option Value} {x : Int32} : EE 23 19 [l0, some (.int x), l2] st M = EE 23 20 [l0, some (.int x), l2] (.int x :: st) M := e_ld d23_19 rfl rfl rfl rfl rfl rfl
theorem d23_20 : decode (cod 23) 20 = .ok (.aaload, 1) := by decide +kernel
theorem s23_20 {n : Nat} {I : Nat → Nat → Int32} {R : Nat → Nat → Option Nat} {st : List Value} {l0 l1 l2 : Option Value} {j : Int32} {a : Nat} (h : 8 ≤ kd a ∧ a < 1000 ∧ pos a < n ∧ inb j (ln a)) : EE 23 20 [l0, l1, l2] (.int j :: .ref a :: st) (n, I, R) = EE 23 21 [l0, l1, l2] (va_rf (R a j.toNatClampNeg) :: st) (n, I, R) := e_aald d23_20 h
theorem d23_21 : decode (cod 23) 21 = .ok (.iload_n 2, 1) := by decide +kernel
theorem s23_21 {M : Mm} {st : List Value} {l0 l1 : Option Value} {x : Int32} : EE 23 21 [l0, l1, some (.int x)] st M = EE 23 22 [l0, l1, some (.int x)] (.int x :: st) M := e_ld d23_21 rfl rfl rfl rfl rfl rfl
theorem d23_22 : decode (cod 23) 22 = .ok (.iaload, 1) := by decide +kernel
theorem s23_22 {n : Nat} {I : Nat → Nat → Int32} {R : Nat → Nat → Option Nat} {st : List Value} {l0 l1 l2 : Option Value} {j : Int32} {a : Nat} : EE 23 22 [l0, l1, l2] (.int j :: .ref a :: st) (n, I, R) = (ardI 5 n I a j).bind (fun z => EE 23 23 [l0, l1, l2] (.int z :: st) (n, I, R)) := e_iald d23_22
theorem d23_23 : decode (cod 23) 23 = .ok (.goto 4, 3) := by decide +kernel
theorem s23_23 {M : Mm} {st : List Value} {l0 l1 l2 : Option Value} : EE 23 23 [l0, l1, l2] st M = EE 23 27 [l0, l1, l2] st M := e_goto d23_23 (by decide)
theorem d23_26 : decode (cod 23) 26 = .ok (.iconst 0, 1) := by decide +kernel
theorem s23_26 {M : Mm} {st : List Value} {l0 l1 l2 : Option Value} : EE 23 26 [l0, l1, l2] st M = EE 23 27 [l0, l1, l2] (.int (nI 0) :: st) M := e_con d23_26 k_con_0
theorem d23_27 : decode (cod 23) 27 = .ok (.ireturn, 1) := by decide +kernel
theorem s23_27 {M : Mm} {l0 l1 l2 : Option Value} {v : Int32} : EE 23 27 [l0, l1, l2] [.int v] M = some (some (.int v), M) := e_iret d23_27 rfl rfl
theorem FE23 {a : Nat} {b0 : Int32} {b1 : Int32} {M : Mm} : FF 23 [.ref a, .int b0, .int b1] M = EE 23 0 [some (.ref a), some (.int b0), some (.int b1)] [] M := FF_eq 23 _ _ (Nat.le_of_ble_eq_true rfl)
theorem d24_0 : decode (cod 24) 0 = .ok (.iload_n 1, 1) := by decide +kernel
theorem s24_0 {M : Mm} {st : List Value} {l0 l2 l3 : Option Value} {x : Int32} : EE 24 0 [l0, some (.int x), l2, l3] st M = EE 24 1 [l0, some (.int x), l2, l3] (.int x :: st) M := e_ld d24_0 rfl rfl rfl rfl rfl rfl
theorem d24_1 : decode (cod 24) 1 = .ok (.invokestatic 81, 3) := by decide +kernel
theorem s24_1 {M : Mm} {l0 l1 l2 l3 : Option Value} {b0 : Int32} {st : List Value} (hl : st.length ≤ 4) : EE 24 1 [l0, l1, l2, l3] (.int b0 :: st) M = (FF 49 [.int b0] M).bind (fun z => EE 24 4 [l0, l1, l2, l3] (psh z.1 st) z.2) := e_cals (av := [.int b0]) d24_1 c1_81 (Or.inr rfl) rfl rfl r24_49 rfl hl
theorem d24_4 : decode (cod 24) 4 = .ok (.ifCond .eq 20, 3) := by decide +kernel
theorem s24_4 {M : Mm} {st : List Value} {l0 l1 l2 l3 : Option Value} {x : Int32} : EE 24 4 [l0, l1, l2, l3] (.int x :: st) M = if x = 0 then EE 24 24 [l0, l1, l2, l3] st M else EE 24 7 [l0, l1, l2, l3] st M := e_eq0 d24_4 (by decide)
theorem d24_7 : decode (cod 24) 7 = .ok (.aload_n 0, 1) := by decide +kernel
theorem s24_7 {M : Mm} {st : List Value} {l1 l2 l3 : Option Value} {x : Nat} : EE 24 7 [some (.ref x), l1, l2, l3] st M = EE 24 8 [some (.ref x), l1, l2, l3] (.ref x :: st) M := e_ld d24_7 rfl rfl rfl rfl rfl rfl
theorem d24_8 : decode (cod 24) 8 = .ok (.iload_n 2, 1) := by decide +kernel
theorem s24_8 {M : Mm} {st : List Value} {l0 l1 l3 : Option Value} {x : Int32} : EE 24 8 [l0, l1, some (.int x), l3] st M = EE 24 9 [l0, l1, some (.int x), l3] (.int x :: st) M := e_ld d24_8 rfl rfl rfl rfl rfl rfl
theorem d24_9 : decode (cod 24) 9 = .ok (.invokevirtual 85, 3) := by decide +kernel
theorem s24_9 {l0 l1 l2 l3 : Option Value} {a : Nat} {M : Mm} {b0 : Int32} {st : List Value} (hl : st.length ≤ 4) (ho : isO "HandoverDesk$State" M.1 a = true) : EE 24 9 [l0, l1, l2, l3] (.int b0 :: .ref a :: st) M = (FF 18 (.ref a :: [.int b0]) M).bind (fun z => EE 24 12 [l0, l1, l2, l3] (psh z.1 st) z.2) := e_calv (av := [.int b0]) d24_9 c1_85 rfl rfl rfl r24_18 rfl hl ho
theorem d24_12 : decode (cod 24) 12 = .ok (.ifCond .eq 12, 3) := by decide +kernel
theorem s24_12 {M : Mm} {st : List Value} {l0 l1 l2 l3 : Option Value} {x : Int32} : EE 24 12 [l0, l1, l2, l3] (.int x :: st) M = if x = 0 then EE 24 24 [l0, l1, l2, l3] st M else EE 24 15 [l0, l1, l2, l3] st M := e_eq0 d24_12 (by decide)
theorem d24_15 : decode (cod 24) 15 = .ok (.aload_n 0, 1) := by decide +kernel
theorem s24_15 {M : Mm} {st : List Value} {l1 l2 l3 : Option Value} {x : Nat} : EE 24 15 [some (.ref x), l1, l2, l3] st M = EE 24 16 [some (.ref x), l1, l2, l3] (.ref x :: st) M := e_ld d24_15 rfl rfl rfl rfl rfl rfl
theorem d24_16 : decode (cod 24) 16 = .ok (.getfield 32, 3) := by decide +kernel
theorem s24_16 {n : Nat} {I : Nat → Nat → Int32} {R : Nat → Nat → Option Nat} {st : List Value} {l0 l1 l2 l3 : Option Value} {a : Nat} : EE 24 16 [l0, l1, l2, l3] (.ref a :: st) (n, I, R) = (gfI n I R 1 3 a).bind (fun z => EE 24 19 [l0, l1, l2, l3] (z :: st) (n, I, R)) := e_getf d24_16 f1_32 rfl rfl
theorem d24_19 : decode (cod 24) 19 = .ok (.iload_n 1, 1) := by decide +kernel
theorem s24_19 {M : Mm} {st : List Value} {l0 l2 l3 : Option Value} {x : Int32} : EE 24 19 [l0, some (.int x), l2, l3] st M = EE 24 20 [l0, some (.int x), l2, l3] (.int x :: st) M := e_ld d24_19 rfl rfl rfl rfl rfl rfl
theorem d24_20 : decode (cod 24) 20 = .ok (.aaload, 1) := by decide +kernel
theorem s24_20 {n : Nat} {I : Nat → Nat → Int32} {R : Nat → Nat → Option Nat} {st : List Value} {l0 l1 l2 l3 : Option Value} {j : Int32} {a : Nat} (h : 8 ≤ kd a ∧ a < 1000 ∧ pos a < n ∧ inb j (ln a)) : EE 24 20 [l0, l1, l2, l3] (.int j :: .ref a :: st) (n, I, R) = EE 24 21 [l0, l1, l2, l3] (va_rf (R a j.toNatClampNeg) :: st) (n, I, R) := e_aald d24_20 h
theorem d24_21 : decode (cod 24) 21 = .ok (.iload_n 2, 1) := by decide +kernel
theorem s24_21 {M : Mm} {st : List Value} {l0 l1 l3 : Option Value} {x : Int32} : EE 24 21 [l0, l1, some (.int x), l3] st M = EE 24 22 [l0, l1, some (.int x), l3] (.int x :: st) M := e_ld d24_21 rfl rfl rfl rfl rfl rfl
theorem d24_22 : decode (cod 24) 22 = .ok (.iload_n 3, 1) := by decide +kernel
theorem s24_22 {M : Mm} {st : List Value} {l0 l1 l2 : Option Value} {x : Int32} : EE 24 22 [l0, l1, l2, some (.int x)] st M = EE 24 23 [l0, l1, l2, some (.int x)] (.int x :: st) M := e_ld d24_22 rfl rfl rfl rfl rfl rfl
theorem d24_23 : decode (cod 24) 23 = .ok (.iastore, 1) := by decide +kernel
theorem s24_23 {n : Nat} {I : Nat → Nat → Int32} {R : Nat → Nat → Option Nat} {st : List Value} {l0 l1 l2 l3 : Option Value} {j x : Int32} {a : Nat} (h : acI 5 n a j) : EE 24 23 [l0, l1, l2, l3] (.int x :: .int j :: .ref a :: st) (n, I, R) = EE 24 24 [l0, l1, l2, l3] st (n, wI I a j.toNatClampNeg x, R) := e_iast d24_23 h
theorem d24_24 : decode (cod 24) 24 = .ok (.return_, 1) := by decide +kernel
theorem s24_24 {M : Mm} {l0 l1 l2 l3 : Option Value} : EE 24 24 [l0, l1, l2, l3] [] M = some (none, M) := e_vret d24_24 rfl
theorem FE24 {a : Nat} {b0 : Int32} {b1 : Int32} {b2 : Int32} {M : Mm} : FF 24 [.ref a, .int b0, .int b1, .int b2] M = EE 24 0 [some (.ref a), some (.int b0), some (.int b1), some (.int b2)] [] M := FF_eq 24 _ _ (Nat.le_of_ble_eq_true rfl)
theorem d25_0 : decode (cod 25) 0 = .ok (.aload_n 0, 1) := by decide +kernel
theorem s25_0 {M : Mm} {st : List Value} {l1 l2 l3 l4 l5 : Option Value} {x : Nat} : EE 25 0 [some (.ref x), l1, l2, l3, l4, l5] st M = EE 25 1 [some (.ref x), l1, l2, l3, l4, l5] (.ref x :: st) M := e_ld d25_0 rfl rfl rfl rfl rfl rfl
theorem d25_1 : decode (cod 25) 1 = .ok (.iload_n 1, 1) := by decide +kernel
theorem s25_1 {M : Mm} {st : List Value} {l0 l2 l3 l4 l5 : Option Value} {x : Int32} : EE 25 1 [l0, some (.int x), l2, l3, l4, l5] st M = EE 25 2 [l0, some (.int x), l2, l3, l4, l5] (.int x :: st) M := e_ld d25_1 rfl rfl rfl rfl rfl rfl
theorem d25_2 : decode (cod 25) 2 = .ok (.invokevirtual 85, 3) := by decide +kernel
theorem s25_2 {l0 l1 l2 l3 l4 l5 : Option Value} {a : Nat} {M : Mm} {b0 : Int32} {st : List Value} (hl : st.length ≤ 4) (ho : isO "HandoverDesk$State" M.1 a = true) : EE 25 2 [l0, l1, l2, l3, l4, l5] (.int b0 :: .ref a :: st) M = (FF 18 (.ref a :: [.int b0]) M).bind (fun z => EE 25 5 [l0, l1, l2, l3, l4, l5] (psh z.1 st) z.2) := e_calv (av := [.int b0]) d25_2 c1_85 rfl rfl rfl r25_18 rfl hl ho
theorem d25_5 : decode (cod 25) 5 = .ok (.ifCond .ne 5, 3) := by decide +kernel
theorem s25_5 {M : Mm} {st : List Value} {l0 l1 l2 l3 l4 l5 : Option Value} {x : Int32} : EE 25 5 [l0, l1, l2, l3, l4, l5] (.int x :: st) M = if x = 0 then EE 25 8 [l0, l1, l2, l3, l4, l5] st M else EE 25 10 [l0, l1, l2, l3, l4, l5] st M := e_ne0 d25_5 (by decide)
theorem d25_8 : decode (cod 25) 8 = .ok (.iconst (-1), 1) := by decide +kernel
theorem s25_8 {M : Mm} {st : List Value} {l0 l1 l2 l3 l4 l5 : Option Value} : EE 25 8 [l0, l1, l2, l3, l4, l5] st M = EE 25 9 [l0, l1, l2, l3, l4, l5] (.int ((-1)) :: st) M := e_con d25_8 k_con_m1
theorem d25_9 : decode (cod 25) 9 = .ok (.ireturn, 1) := by decide +kernel
theorem s25_9 {M : Mm} {l0 l1 l2 l3 l4 l5 : Option Value} {v : Int32} : EE 25 9 [l0, l1, l2, l3, l4, l5] [.int v] M = some (some (.int v), M) := e_iret d25_9 rfl rfl
theorem d25_10 : decode (cod 25) 10 = .ok (.aload_n 0, 1) := by decide +kernel
theorem s25_10 {M : Mm} {st : List Value} {l1 l2 l3 l4 l5 : Option Value} {x : Nat} : EE 25 10 [some (.ref x), l1, l2, l3, l4, l5] st M = EE 25 11 [some (.ref x), l1, l2, l3, l4, l5] (.ref x :: st) M := e_ld d25_10 rfl rfl rfl rfl rfl rfl
theorem d25_11 : decode (cod 25) 11 = .ok (.invokevirtual 91, 3) := by decide +kernel
theorem s25_11 {l0 l1 l2 l3 l4 l5 : Option Value} {a : Nat} {M : Mm} {st : List Value} (hl : st.length ≤ 4) (ho : isO "HandoverDesk$State" M.1 a = true) : EE 25 11 [l0, l1, l2, l3, l4, l5] (.ref a :: st) M = (FF 26 (.ref a :: []) M).bind (fun z => EE 25 14 [l0, l1, l2, l3, l4, l5] (psh z.1 st) z.2) := e_calv (av := []) d25_11 c1_91 rfl rfl rfl r25_26 rfl hl ho
theorem d25_14 : decode (cod 25) 14 = .ok (.istore_n 2, 1) := by decide +kernel
theorem s25_14 {M : Mm} {st : List Value} {l0 l1 l2 l3 l4 l5 : Option Value} {x : Int32} : EE 25 14 [l0, l1, l2, l3, l4, l5] (.int x :: st) M = EE 25 15 [l0, cln l1, some (.int x), l3, l4, l5] st M := e_st1 d25_14 rfl rfl rfl rfl rfl rfl rfl (Nat.le_of_ble_eq_true rfl) rfl
theorem d25_15 : decode (cod 25) 15 = .ok (.aload_n 0, 1) := by decide +kernel
theorem s25_15 {M : Mm} {st : List Value} {l1 l2 l3 l4 l5 : Option Value} {x : Nat} : EE 25 15 [some (.ref x), l1, l2, l3, l4, l5] st M = EE 25 16 [some (.ref x), l1, l2, l3, l4, l5] (.ref x :: st) M := e_ld d25_15 rfl rfl rfl rfl rfl rfl
theorem d25_16 : decode (cod 25) 16 = .ok (.iload_n 2, 1) := by decide +kernel
theorem s25_16 {M : Mm} {st : List Value} {l0 l1 l3 l4 l5 : Option Value} {x : Int32} : EE 25 16 [l0, l1, some (.int x), l3, l4, l5] st M = EE 25 17 [l0, l1, some (.int x), l3, l4, l5] (.int x :: st) M := e_ld d25_16 rfl rfl rfl rfl rfl rfl
theorem d25_17 : decode (cod 25) 17 = .ok (.iload_n 1, 1) := by decide +kernel
theorem s25_17 {M : Mm} {st : List Value} {l0 l2 l3 l4 l5 : Option Value} {x : Int32} : EE 25 17 [l0, some (.int x), l2, l3, l4, l5] st M = EE 25 18 [l0, some (.int x), l2, l3, l4, l5] (.int x :: st) M := e_ld d25_17 rfl rfl rfl rfl rfl rfl
theorem d25_18 : decode (cod 25) 18 = .ok (.invokevirtual 88, 3) := by decide +kernel
theorem s25_18 {l0 l1 l2 l3 l4 l5 : Option Value} {a : Nat} {M : Mm} {b0 : Int32} {b1 : Int32} {st : List Value} (hl : st.length ≤ 4) (ho : isO "HandoverDesk$State" M.1 a = true) : EE 25 18 [l0, l1, l2, l3, l4, l5] (.int b1 :: .int b0 :: .ref a :: st) M = (FF 23 (.ref a :: [.int b0, .int b1]) M).bind (fun z => EE 25 21 [l0, l1, l2, l3, l4, l5] (psh z.1 st) z.2) := e_calv (av := [.int b0, .int b1]) d25_18 c1_88 rfl rfl rfl r25_23 rfl hl ho
theorem d25_21 : decode (cod 25) 21 = .ok (.istore_n 3, 1) := by decide +kernel
theorem s25_21 {M : Mm} {st : List Value} {l0 l1 l2 l3 l4 l5 : Option Value} {x : Int32} : EE 25 21 [l0, l1, l2, l3, l4, l5] (.int x :: st) M = EE 25 22 [l0, l1, cln l2, some (.int x), l4, l5] st M := e_st1 d25_21 rfl rfl rfl rfl rfl rfl rfl (Nat.le_of_ble_eq_true rfl) rfl
theorem d25_22 : decode (cod 25) 22 = .ok (.aload_n 0, 1) := by decide +kernel
theorem s25_22 {M : Mm} {st : List Value} {l1 l2 l3 l4 l5 : Option Value} {x : Nat} : EE 25 22 [some (.ref x), l1, l2, l3, l4, l5] st M = EE 25 23 [some (.ref x), l1, l2, l3, l4, l5] (.ref x :: st) M := e_ld d25_22 rfl rfl rfl rfl rfl rfl
theorem d25_23 : decode (cod 25) 23 = .ok (.aload_n 0, 1) := by decide +kernel
theorem s25_23 {M : Mm} {st : List Value} {l1 l2 l3 l4 l5 : Option Value} {x : Nat} : EE 25 23 [some (.ref x), l1, l2, l3, l4, l5] st M = EE 25 24 [some (.ref x), l1, l2, l3, l4, l5] (.ref x :: st) M := e_ld d25_23 rfl rfl rfl rfl rfl rfl
theorem d25_24 : decode (cod 25) 24 = .ok (.iload_n 1, 1) := by decide +kernel
theorem s25_24 {M : Mm} {st : List Value} {l0 l2 l3 l4 l5 : Option Value} {x : Int32} : EE 25 24 [l0, some (.int x), l2, l3, l4, l5] st M = EE 25 25 [l0, some (.int x), l2, l3, l4, l5] (.int x :: st) M := e_ld d25_24 rfl rfl rfl rfl rfl rfl
theorem d25_25 : decode (cod 25) 25 = .ok (.invokevirtual 133, 3) := by decide +kernel
theorem s25_25 {l0 l1 l2 l3 l4 l5 : Option Value} {a : Nat} {M : Mm} {b0 : Int32} {st : List Value} (hl : st.length ≤ 4) (ho : isO "HandoverDesk$State" M.1 a = true) : EE 25 25 [l0, l1, l2, l3, l4, l5] (.int b0 :: .ref a :: st) M = (FF 27 (.ref a :: [.int b0]) M).bind (fun z => EE 25 28 [l0, l1, l2, l3, l4, l5] (psh z.1 st) z.2) := e_calv (av := [.int b0]) d25_25 c1_133 rfl rfl rfl r25_27 rfl hl ho
theorem d25_28 : decode (cod 25) 28 = .ok (.iload_n 1, 1) := by decide +kernel
theorem s25_28 {M : Mm} {st : List Value} {l0 l2 l3 l4 l5 : Option Value} {x : Int32} : EE 25 28 [l0, some (.int x), l2, l3, l4, l5] st M = EE 25 29 [l0, some (.int x), l2, l3, l4, l5] (.int x :: st) M := e_ld d25_28 rfl rfl rfl rfl rfl rfl
theorem d25_29 : decode (cod 25) 29 = .ok (.invokevirtual 88, 3) := by decide +kernel
theorem s25_29 {l0 l1 l2 l3 l4 l5 : Option Value} {a : Nat} {M : Mm} {b0 : Int32} {b1 : Int32} {st : List Value} (hl : st.length ≤ 4) (ho : isO "HandoverDesk$State" M.1 a = true) : EE 25 29 [l0, l1, l2, l3, l4, l5] (.int b1 :: .int b0 :: .ref a :: st) M = (FF 23 (.ref a :: [.int b0, .int b1]) M).bind (fun z => EE 25 32 [l0, l1, l2, l3, l4, l5] (psh z.1 st) z.2) := e_calv (av := [.int b0, .int b1]) d25_29 c1_88 rfl rfl rfl r25_23 rfl hl ho
theorem d25_32 : decode (cod 25) 32 = .ok (.istore 4, 2) := by decide +kernel
theorem s25_32 {M : Mm} {st : List Value} {l0 l1 l2 l3 l4 l5 : Option Value} {x : Int32} : EE 25 32 [l0, l1, l2, l3, l4, l5] (.int x :: st) M = EE 25 34 [l0, l1, l2, cln l3, some (.int x), l5] st M := e_st1 d25_32 rfl rfl rfl rfl rfl rfl rfl (Nat.le_of_ble_eq_true rfl) rfl
theorem d25_34 : decode (cod 25) 34 = .ok (.aload_n 0, 1) := by decide +kernel
theorem s25_34 {M : Mm} {st : List Value} {l1 l2 l3 l4 l5 : Option Value} {x : Nat} : EE 25 34 [some (.ref x), l1, l2, l3, l4, l5] st M = EE 25 35 [some (.ref x), l1, l2, l3, l4, l5] (.ref x :: st) M := e_ld d25_34 rfl rfl rfl rfl rfl rfl
theorem d25_35 : decode (cod 25) 35 = .ok (.iload_n 1, 1) := by decide +kernel
theorem s25_35 {M : Mm} {st : List Value} {l0 l2 l3 l4 l5 : Option Value} {x : Int32} : EE 25 35 [l0, some (.int x), l2, l3, l4, l5] st M = EE 25 36 [l0, some (.int x), l2, l3, l4, l5] (.int x :: st) M := e_ld d25_35 rfl rfl rfl rfl rfl rfl
theorem d25_36 : decode (cod 25) 36 = .ok (.invokevirtual 99, 3) := by decide +kernel
theorem s25_36 {l0 l1 l2 l3 l4 l5 : Option Value} {a : Nat} {M : Mm} {b0 : Int32} {st : List Value} (hl : st.length ≤ 4) (ho : isO "HandoverDesk$State" M.1 a = true) : EE 25 36 [l0, l1, l2, l3, l4, l5] (.int b0 :: .ref a :: st) M = (FF 19 (.ref a :: [.int b0]) M).bind (fun z => EE 25 39 [l0, l1, l2, l3, l4, l5] (psh z.1 st) z.2) := e_calv (av := [.int b0]) d25_36 c1_99 rfl rfl rfl r25_19 rfl hl ho
theorem d25_39 : decode (cod 25) 39 = .ok (.ifCond .eq 9, 3) := by decide +kernel
theorem s25_39 {M : Mm} {st : List Value} {l0 l1 l2 l3 l4 l5 : Option Value} {x : Int32} : EE 25 39 [l0, l1, l2, l3, l4, l5] (.int x :: st) M = if x = 0 then EE 25 48 [l0, l1, l2, l3, l4, l5] st M else EE 25 42 [l0, l1, l2, l3, l4, l5] st M := e_eq0 d25_39 (by decide)
theorem d25_42 : decode (cod 25) 42 = .ok (.iload 4, 2) := by decide +kernel
theorem s25_42 {M : Mm} {st : List Value} {l0 l1 l2 l3 l5 : Option Value} {x : Int32} : EE 25 42 [l0, l1, l2, l3, some (.int x), l5] st M = EE 25 44 [l0, l1, l2, l3, some (.int x), l5] (.int x :: st) M := e_ld d25_42 rfl rfl rfl rfl rfl rfl
theorem d25_44 : decode (cod 25) 44 = .ok (.iload_n 3, 1) := by decide +kernel
theorem s25_44 {M : Mm} {st : List Value} {l0 l1 l2 l4 l5 : Option Value} {x : Int32} : EE 25 44 [l0, l1, l2, some (.int x), l4, l5] st M = EE 25 45 [l0, l1, l2, some (.int x), l4, l5] (.int x :: st) M := e_ld d25_44 rfl rfl rfl rfl rfl rfl
theorem d25_45 : decode (cod 25) 45 = .ok (.if_icmp .gt 6, 3) := by decide +kernel
theorem s25_45 {M : Mm} {st : List Value} {l0 l1 l2 l3 l4 l5 : Option Value} {x y : Int32} : EE 25 45 [l0, l1, l2, l3, l4, l5] (.int y :: .int x :: st) M = if y < x then EE 25 51 [l0, l1, l2, l3, l4, l5] st M else EE 25 48 [l0, l1, l2, l3, l4, l5] st M := e_cgt d25_45 (by decide)
theorem d25_48 : decode (cod 25) 48 = .ok (.bipush (-5), 2) := by decide +kernel
theorem s25_48 {M : Mm} {st : List Value} {l0 l1 l2 l3 l4 l5 : Option Value} : EE 25 48 [l0, l1, l2, l3, l4, l5] st M = EE 25 50 [l0, l1, l2, l3, l4, l5] (.int ((-5)) :: st) M := e_bip d25_48 k_bip_m5
theorem d25_50 : decode (cod 25) 50 = .ok (.ireturn, 1) := by decide +kernel
theorem s25_50 {M : Mm} {l0 l1 l2 l3 l4 l5 : Option Value} {v : Int32} : EE 25 50 [l0, l1, l2, l3, l4, l5] [.int v] M = some (some (.int v), M) := e_iret d25_50 rfl rfl
theorem d25_51 : decode (cod 25) 51 = .ok (.iload_n 3, 1) := by decide +kernel
theorem s25_51 {M : Mm} {st : List Value} {l0 l1 l2 l4 l5 : Option Value} {x : Int32} : EE 25 51 [l0, l1, l2, some (.int x), l4, l5] st M = EE 25 52 [l0, l1, l2, some (.int x), l4, l5] (.int x :: st) M := e_ld d25_51 rfl rfl rfl rfl rfl rfl
theorem d25_52 : decode (cod 25) 52 = .ok (.iload 4, 2) := by decide +kernel
theorem s25_52 {M : Mm} {st : List Value} {l0 l1 l2 l3 l5 : Option Value} {x : Int32} : EE 25 52 [l0, l1, l2, l3, some (.int x), l5] st M = EE 25 54 [l0, l1, l2, l3, some (.int x), l5] (.int x :: st) M := e_ld d25_52 rfl rfl rfl rfl rfl rfl
theorem d25_54 : decode (cod 25) 54 = .ok (.iadd, 1) := by decide +kernel
theorem s25_54 {M : Mm} {st : List Value} {l0 l1 l2 l3 l4 l5 : Option Value} {x y : Int32} : EE 25 54 [l0, l1, l2, l3, l4, l5] (.int y :: .int x :: st) M = EE 25 55 [l0, l1, l2, l3, l4, l5] (.int (x + y) :: st) M := e_II d25_54 rfl rfl rfl rfl rfl rfl
theorem d25_55 : decode (cod 25) 55 = .ok (.iconst 1, 1) := by decide +kernel
theorem s25_55 {M : Mm} {st : List Value} {l0 l1 l2 l3 l4 l5 : Option Value} : EE 25 55 [l0, l1, l2, l3, l4, l5] st M = EE 25 56 [l0, l1, l2, l3, l4, l5] (.int (nI 1) :: st) M := e_con d25_55 k_con_1
theorem d25_56 : decode (cod 25) 56 = .ok (.iadd, 1) := by decide +kernel
theorem s25_56 {M : Mm} {st : List Value} {l0 l1 l2 l3 l4 l5 : Option Value} {x y : Int32} : EE 25 56 [l0, l1, l2, l3, l4, l5] (.int y :: .int x :: st) M = EE 25 57 [l0, l1, l2, l3, l4, l5] (.int (x + y) :: st) M := e_II d25_56 rfl rfl rfl rfl rfl rfl
theorem d25_57 : decode (cod 25) 57 = .ok (.iconst 2, 1) := by decide +kernel
theorem s25_57 {M : Mm} {st : List Value} {l0 l1 l2 l3 l4 l5 : Option Value} : EE 25 57 [l0, l1, l2, l3, l4, l5] st M = EE 25 58 [l0, l1, l2, l3, l4, l5] (.int (nI 2) :: st) M := e_con d25_57 k_con_2
theorem d25_58 : decode (cod 25) 58 = .ok (.idiv, 1) := by decide +kernel
theorem s25_58 {M : Mm} {st : List Value} {l0 l1 l2 l3 l4 l5 : Option Value} {x y : Nat} (h1 : x < 2 ^ 31) (h2 : 0 < y) (h3 : y < 2 ^ 31) : EE 25 58 [l0, l1, l2, l3, l4, l5] (.int (nI y) :: .int (nI x) :: st) M = EE 25 59 [l0, l1, l2, l3, l4, l5] (.int (nI (x / y)) :: st) M := e_divN d25_58 h1 h2 h3
theorem d25_59 : decode (cod 25) 59 = .ok (.istore 5, 2) := by decide +kernel
theorem s25_59 {M : Mm} {st : List Value} {l0 l1 l2 l3 l4 l5 : Option Value} {x : Int32} : EE 25 59 [l0, l1, l2, l3, l4, l5] (.int x :: st) M = EE 25 61 [l0, l1, l2, l3, cln l4, some (.int x)] st M := e_st1 d25_59 rfl rfl rfl rfl rfl rfl rfl (Nat.le_of_ble_eq_true rfl) rfl
theorem d25_61 : decode (cod 25) 61 = .ok (.aload_n 0, 1) := by decide +kernel
theorem s25_61 {M : Mm} {st : List Value} {l1 l2 l3 l4 l5 : Option Value} {x : Nat} : EE 25 61 [some (.ref x), l1, l2, l3, l4, l5] st M = EE 25 62 [some (.ref x), l1, l2, l3, l4, l5] (.ref x :: st) M := e_ld d25_61 rfl rfl rfl rfl rfl rfl
theorem d25_62 : decode (cod 25) 62 = .ok (.iload_n 2, 1) := by decide +kernel
theorem s25_62 {M : Mm} {st : List Value} {l0 l1 l3 l4 l5 : Option Value} {x : Int32} : EE 25 62 [l0, l1, some (.int x), l3, l4, l5] st M = EE 25 63 [l0, l1, some (.int x), l3, l4, l5] (.int x :: st) M := e_ld d25_62 rfl rfl rfl rfl rfl rfl
theorem d25_63 : decode (cod 25) 63 = .ok (.iload_n 1, 1) := by decide +kernel
theorem s25_63 {M : Mm} {st : List Value} {l0 l2 l3 l4 l5 : Option Value} {x : Int32} : EE 25 63 [l0, some (.int x), l2, l3, l4, l5] st M = EE 25 64 [l0, some (.int x), l2, l3, l4, l5] (.int x :: st) M := e_ld d25_63 rfl rfl rfl rfl rfl rfl
theorem d25_64 : decode (cod 25) 64 = .ok (.iload 5, 2) := by decide +kernel
theorem s25_64 {M : Mm} {st : List Value} {l0 l1 l2 l3 l4 : Option Value} {x : Int32} : EE 25 64 [l0, l1, l2, l3, l4, some (.int x)] st M = EE 25 66 [l0, l1, l2, l3, l4, some (.int x)] (.int x :: st) M := e_ld d25_64 rfl rfl rfl rfl rfl rfl
theorem d25_66 : decode (cod 25) 66 = .ok (.invokevirtual 129, 3) := by decide +kernel
theorem s25_66 {l0 l1 l2 l3 l4 l5 : Option Value} {a : Nat} {M : Mm} {b0 : Int32} {b1 : Int32} {b2 : Int32} {st : List Value} (hl : st.length ≤ 4) (ho : isO "HandoverDesk$State" M.1 a = true) : EE 25 66 [l0, l1, l2, l3, l4, l5] (.int b2 :: .int b1 :: .int b0 :: .ref a :: st) M = (FF 24 (.ref a :: [.int b0, .int b1, .int b2]) M).bind (fun z => EE 25 69 [l0, l1, l2, l3, l4, l5] (psh z.1 st) z.2) := e_calv (av := [.int b0, .int b1, .int b2]) d25_66 c1_129 rfl rfl rfl r25_24 rfl hl ho
theorem d25_69 : decode (cod 25) 69 = .ok (.aload_n 0, 1) := by decide +kernel
theorem s25_69 {M : Mm} {st : List Value} {l1 l2 l3 l4 l5 : Option Value} {x : Nat} : EE 25 69 [some (.ref x), l1, l2, l3, l4, l5] st M = EE 25 70 [some (.ref x), l1, l2, l3, l4, l5] (.ref x :: st) M := e_ld d25_69 rfl rfl rfl rfl rfl rfl
theorem d25_70 : decode (cod 25) 70 = .ok (.dup, 1) := by decide +kernel
theorem s25_70i {M : Mm} {st : List Value} {l0 l1 l2 l3 l4 l5 : Option Value} {x : Int32} : EE 25 70 [l0, l1, l2, l3, l4, l5] (.int x :: st) M = EE 25 71 [l0, l1, l2, l3, l4, l5] (.int x :: .int x :: st) M := e_dup d25_70 rfl
theorem s25_70r {M : Mm} {st : List Value} {l0 l1 l2 l3 l4 l5 : Option Value} {x : Nat} : EE 25 70 [l0, l1, l2, l3, l4, l5] (.ref x :: st) M = EE 25 71 [l0, l1, l2, l3, l4, l5] (.ref x :: .ref x :: st) M := e_dup d25_70 rfl
theorem d25_71 : decode (cod 25) 71 = .ok (.getfield 72, 3) := by decide +kernel
theorem s25_71 {n : Nat} {I : Nat → Nat → Int32} {R : Nat → Nat → Option Nat} {st : List Value} {l0 l1 l2 l3 l4 l5 : Option Value} {a : Nat} : EE 25 71 [l0, l1, l2, l3, l4, l5] (.ref a :: st) (n, I, R) = (gfI n I R 1 16 a).bind (fun z => EE 25 74 [l0, l1, l2, l3, l4, l5] (z :: st) (n, I, R)) := e_getf d25_71 f1_72 rfl rfl
theorem d25_74 : decode (cod 25) 74 = .ok (.aload_n 0, 1) := by decide +kernel
theorem s25_74 {M : Mm} {st : List Value} {l1 l2 l3 l4 l5 : Option Value} {x : Nat} : EE 25 74 [some (.ref x), l1, l2, l3, l4, l5] st M = EE 25 75 [some (.ref x), l1, l2, l3, l4, l5] (.ref x :: st) M := e_ld d25_74 rfl rfl rfl rfl rfl rfl
theorem d25_75 : decode (cod 25) 75 = .ok (.getfield 9, 3) := by decide +kernel
theorem s25_75 {n : Nat} {I : Nat → Nat → Int32} {R : Nat → Nat → Option Nat} {st : List Value} {l0 l1 l2 l3 l4 l5 : Option Value} {a : Nat} : EE 25 75 [l0, l1, l2, l3, l4, l5] (.ref a :: st) (n, I, R) = (gfI n I R 1 0 a).bind (fun z => EE 25 78 [l0, l1, l2, l3, l4, l5] (z :: st) (n, I, R)) := e_getf d25_75 f1_9 rfl rfl
theorem d25_78 : decode (cod 25) 78 = .ok (.iconst 5, 1) := by decide +kernel
theorem s25_78 {M : Mm} {st : List Value} {l0 l1 l2 l3 l4 l5 : Option Value} : EE 25 78 [l0, l1, l2, l3, l4, l5] st M = EE 25 79 [l0, l1, l2, l3, l4, l5] (.int (nI 5) :: st) M := e_con d25_78 k_con_5
theorem d25_79 : decode (cod 25) 79 = .ok (.iaload, 1) := by decide +kernel
theorem s25_79 {n : Nat} {I : Nat → Nat → Int32} {R : Nat → Nat → Option Nat} {st : List Value} {l0 l1 l2 l3 l4 l5 : Option Value} {j : Int32} {a : Nat} : EE 25 79 [l0, l1, l2, l3, l4, l5] (.int j :: .ref a :: st) (n, I, R) = (ardI 5 n I a j).bind (fun z => EE 25 80 [l0, l1, l2, l3, l4, l5] (.int z :: st) (n, I, R)) := e_iald d25_79
theorem d25_80 : decode (cod 25) 80 = .ok (.iadd, 1) := by decide +kernel
theorem s25_80 {M : Mm} {st : List Value} {l0 l1 l2 l3 l4 l5 : Option Value} {x y : Int32} : EE 25 80 [l0, l1, l2, l3, l4, l5] (.int y :: .int x :: st) M = EE 25 81 [l0, l1, l2, l3, l4, l5] (.int (x + y) :: st) M := e_II d25_80 rfl rfl rfl rfl rfl rfl
theorem d25_81 : decode (cod 25) 81 = .ok (.putfield 72, 3) := by decide +kernel
theorem s25_81 {n : Nat} {I : Nat → Nat → Int32} {R : Nat → Nat → Option Nat} {st : List Value} {l0 l1 l2 l3 l4 l5 : Option Value} {a : Nat} {v : Value} : EE 25 81 [l0, l1, l2, l3, l4, l5] (v :: .ref a :: st) (n, I, R) = (pfI n I R 1 16 a v).bind (fun z => EE 25 84 [l0, l1, l2, l3, l4, l5] st (n, z.1, z.2)) := e_putf d25_81 f1_72 rfl rfl (Or.inr rfl)
theorem d25_84 : decode (cod 25) 84 = .ok (.iload 5, 2) := by decide +kernel
theorem s25_84 {M : Mm} {st : List Value} {l0 l1 l2 l3 l4 : Option Value} {x : Int32} : EE 25 84 [l0, l1, l2, l3, l4, some (.int x)] st M = EE 25 86 [l0, l1, l2, l3, l4, some (.int x)] (.int x :: st) M := e_ld d25_84 rfl rfl rfl rfl rfl rfl
theorem d25_86 : decode (cod 25) 86 = .ok (.ireturn, 1) := by decide +kernel
theorem s25_86 {M : Mm} {l0 l1 l2 l3 l4 l5 : Option Value} {v : Int32} : EE 25 86 [l0, l1, l2, l3, l4, l5] [.int v] M = some (some (.int v), M) := e_iret d25_86 rfl rfl
theorem FE25 {a : Nat} {b0 : Int32} {M : Mm} : FF 25 [.ref a, .int b0] M = EE 25 0 [some (.ref a), some (.int b0), none, none, none, none] [] M := FF_eq 25 _ _ (Nat.le_of_ble_eq_true rfl)
theorem d26_0 : decode (cod 26) 0 = .ok (.aload_n 0, 1) := by decide +kernel
theorem s26_0 {M : Mm} {st : List Value} {x : Nat} : EE 26 0 [some (.ref x)] st M = EE 26 1 [some (.ref x)] (.ref x :: st) M := e_ld d26_0 rfl rfl rfl rfl rfl rfl
theorem d26_1 : decode (cod 26) 1 = .ok (.getfield 24, 3) := by decide +kernel
theorem s26_1 {n : Nat} {I : Nat → Nat → Int32} {R : Nat → Nat → Option Nat} {st : List Value} {l0 : Option Value} {a : Nat} : EE 26 1 [l0] (.ref a :: st) (n, I, R) = (gfI n I R 1 1 a).bind (fun z => EE 26 4 [l0] (z :: st) (n, I, R)) := e_getf d26_1 f1_24 rfl rfl
theorem d26_4 : decode (cod 26) 4 = .ok (.aload_n 0, 1) := by decide +kernel
theorem s26_4 {M : Mm} {st : List Value} {x : Nat} : EE 26 4 [some (.ref x)] st M = EE 26 5 [some (.ref x)] (.ref x :: st) M := e_ld d26_4 rfl rfl rfl rfl rfl rfl
theorem d26_5 : decode (cod 26) 5 = .ok (.getfield 57, 3) := by decide +kernel
theorem s26_5 {n : Nat} {I : Nat → Nat → Int32} {R : Nat → Nat → Option Nat} {st : List Value} {l0 : Option Value} {a : Nat} : EE 26 5 [l0] (.ref a :: st) (n, I, R) = (gfI n I R 1 11 a).bind (fun z => EE 26 8 [l0] (z :: st) (n, I, R)) := e_getf d26_5 f1_57 rfl rfl
theorem d26_8 : decode (cod 26) 8 = .ok (.bipush 12, 2) := by decide +kernel
theorem s26_8 {M : Mm} {st : List Value} {l0 : Option Value} : EE 26 8 [l0] st M = EE 26 10 [l0] (.int (nI 12) :: st) M := e_bip d26_8 k_bip_12
theorem d26_10 : decode (cod 26) 10 = .ok (.invokestatic 75, 3) := by decide +kernel
theorem s26_10 {M : Mm} {l0 : Option Value} {b0 : Int32} {b1 : Int32} {st : List Value} (hl : st.length ≤ 4) : EE 26 10 [l0] (.int b1 :: .int b0 :: st) M = (FF 152 [.int b0, .int b1] M).bind (fun z => EE 26 13 [l0] (psh z.1 st) z.2) := e_cals (av := [.int b0, .int b1]) d26_10 c1_75 (Or.inl rfl) rfl rfl r26_152 rfl hl
theorem d26_13 : decode (cod 26) 13 = .ok (.iaload, 1) := by decide +kernel
theorem s26_13 {n : Nat} {I : Nat → Nat → Int32} {R : Nat → Nat → Option Nat} {st : List Value} {l0 : Option Value} {j : Int32} {a : Nat} : EE 26 13 [l0] (.int j :: .ref a :: st) (n, I, R) = (ardI 5 n I a j).bind (fun z => EE 26 14 [l0] (.int z :: st) (n, I, R)) := e_iald d26_13
theorem d26_14 : decode (cod 26) 14 = .ok (.ireturn, 1) := by decide +kernel
theorem s26_14 {M : Mm} {l0 : Option Value} {v : Int32} : EE 26 14 [l0] [.int v] M = some (some (.int v), M) := e_iret d26_14 rfl rfl
theorem FE26 {a : Nat} {M : Mm} : FF 26 [.ref a] M = EE 26 0 [some (.ref a)] [] M := FF_eq 26 _ _ (Nat.le_of_ble_eq_true rfl)
theorem d27_0 : decode (cod 27) 0 = .ok (.iconst 0, 1) := by decide +kernel
theorem s27_0 {M : Mm} {st : List Value} {l0 l1 l2 l3 : Option Value} : EE 27 0 [l0, l1, l2, l3] st M = EE 27 1 [l0, l1, l2, l3] (.int (nI 0) :: st) M := e_con d27_0 k_con_0
theorem d27_1 : decode (cod 27) 1 = .ok (.istore_n 2, 1) := by decide +kernel
theorem s27_1 {M : Mm} {st : List Value} {l0 l1 l2 l3 : Option Value} {x : Int32} : EE 27 1 [l0, l1, l2, l3] (.int x :: st) M = EE 27 2 [l0, cln l1, some (.int x), l3] st M := e_st1 d27_1 rfl rfl rfl rfl rfl rfl rfl (Nat.le_of_ble_eq_true rfl) rfl
theorem d27_2 : decode (cod 27) 2 = .ok (.iconst 1, 1) := by decide +kernel
theorem s27_2 {M : Mm} {st : List Value} {l0 l1 l2 l3 : Option Value} : EE 27 2 [l0, l1, l2, l3] st M = EE 27 3 [l0, l1, l2, l3] (.int (nI 1) :: st) M := e_con d27_2 k_con_1
theorem d27_3 : decode (cod 27) 3 = .ok (.istore_n 3, 1) := by decide +kernel
theorem s27_3 {M : Mm} {st : List Value} {l0 l1 l2 l3 : Option Value} {x : Int32} : EE 27 3 [l0, l1, l2, l3] (.int x :: st) M = EE 27 4 [l0, l1, cln l2, some (.int x)] st M := e_st1 d27_3 rfl rfl rfl rfl rfl rfl rfl (Nat.le_of_ble_eq_true rfl) rfl
theorem d27_4 : decode (cod 27) 4 = .ok (.iload_n 3, 1) := by decide +kernel
theorem s27_4 {M : Mm} {st : List Value} {l0 l1 l2 : Option Value} {x : Int32} : EE 27 4 [l0, l1, l2, some (.int x)] st M = EE 27 5 [l0, l1, l2, some (.int x)] (.int x :: st) M := e_ld d27_4 rfl rfl rfl rfl rfl rfl
theorem d27_5 : decode (cod 27) 5 = .ok (.bipush 6, 2) := by decide +kernel
theorem s27_5 {M : Mm} {st : List Value} {l0 l1 l2 l3 : Option Value} : EE 27 5 [l0, l1, l2, l3] st M = EE 27 7 [l0, l1, l2, l3] (.int (nI 6) :: st) M := e_bip d27_5 k_bip_6
theorem d27_7 : decode (cod 27) 7 = .ok (.if_icmp .ge 26, 3) := by decide +kernel
theorem s27_7 {M : Mm} {st : List Value} {l0 l1 l2 l3 : Option Value} {x y : Int32} : EE 27 7 [l0, l1, l2, l3] (.int y :: .int x :: st) M = if y ≤ x then EE 27 33 [l0, l1, l2, l3] st M else EE 27 10 [l0, l1, l2, l3] st M := e_cge d27_7 (by decide)
theorem d27_10 : decode (cod 27) 10 = .ok (.aload_n 0, 1) := by decide +kernel
theorem s27_10 {M : Mm} {st : List Value} {l1 l2 l3 : Option Value} {x : Nat} : EE 27 10 [some (.ref x), l1, l2, l3] st M = EE 27 11 [some (.ref x), l1, l2, l3] (.ref x :: st) M := e_ld d27_10 rfl rfl rfl rfl rfl rfl
theorem d27_11 : decode (cod 27) 11 = .ok (.iload_n 3, 1) := by decide +kernel
theorem s27_11 {M : Mm} {st : List Value} {l0 l1 l2 : Option Value} {x : Int32} : EE 27 11 [l0, l1, l2, some (.int x)] st M = EE 27 12 [l0, l1, l2, some (.int x)] (.int x :: st) M := e_ld d27_11 rfl rfl rfl rfl rfl rfl
theorem d27_12 : decode (cod 27) 12 = .ok (.iload_n 1, 1) := by decide +kernel
theorem s27_12 {M : Mm} {st : List Value} {l0 l2 l3 : Option Value} {x : Int32} : EE 27 12 [l0, some (.int x), l2, l3] st M = EE 27 13 [l0, some (.int x), l2, l3] (.int x :: st) M := e_ld d27_12 rfl rfl rfl rfl rfl rfl
theorem d27_13 : decode (cod 27) 13 = .ok (.invokevirtual 88, 3) := by decide +kernel
theorem s27_13 {l0 l1 l2 l3 : Option Value} {a : Nat} {M : Mm} {b0 : Int32} {b1 : Int32} {st : List Value} (hl : st.length ≤ 4) (ho : isO "HandoverDesk$State" M.1 a = true) : EE 27 13 [l0, l1, l2, l3] (.int b1 :: .int b0 :: .ref a :: st) M = (FF 23 (.ref a :: [.int b0, .int b1]) M).bind (fun z => EE 27 16 [l0, l1, l2, l3] (psh z.1 st) z.2) := e_calv (av := [.int b0, .int b1]) d27_13 c1_88 rfl rfl rfl r27_23 rfl hl ho
theorem d27_16 : decode (cod 27) 16 = .ok (.aload_n 0, 1) := by decide +kernel
theorem s27_16 {M : Mm} {st : List Value} {l1 l2 l3 : Option Value} {x : Nat} : EE 27 16 [some (.ref x), l1, l2, l3] st M = EE 27 17 [some (.ref x), l1, l2, l3] (.ref x :: st) M := e_ld d27_16 rfl rfl rfl rfl rfl rfl
theorem d27_17 : decode (cod 27) 17 = .ok (.iload_n 2, 1) := by decide +kernel
theorem s27_17 {M : Mm} {st : List Value} {l0 l1 l3 : Option Value} {x : Int32} : EE 27 17 [l0, l1, some (.int x), l3] st M = EE 27 18 [l0, l1, some (.int x), l3] (.int x :: st) M := e_ld d27_17 rfl rfl rfl rfl rfl rfl
theorem d27_18 : decode (cod 27) 18 = .ok (.iload_n 1, 1) := by decide +kernel
theorem s27_18 {M : Mm} {st : List Value} {l0 l2 l3 : Option Value} {x : Int32} : EE 27 18 [l0, some (.int x), l2, l3] st M = EE 27 19 [l0, some (.int x), l2, l3] (.int x :: st) M := e_ld d27_18 rfl rfl rfl rfl rfl rfl
theorem d27_19 : decode (cod 27) 19 = .ok (.invokevirtual 88, 3) := by decide +kernel
theorem s27_19 {l0 l1 l2 l3 : Option Value} {a : Nat} {M : Mm} {b0 : Int32} {b1 : Int32} {st : List Value} (hl : st.length ≤ 4) (ho : isO "HandoverDesk$State" M.1 a = true) : EE 27 19 [l0, l1, l2, l3] (.int b1 :: .int b0 :: .ref a :: st) M = (FF 23 (.ref a :: [.int b0, .int b1]) M).bind (fun z => EE 27 22 [l0, l1, l2, l3] (psh z.1 st) z.2) := e_calv (av := [.int b0, .int b1]) d27_19 c1_88 rfl rfl rfl r27_23 rfl hl ho
theorem d27_22 : decode (cod 27) 22 = .ok (.if_icmp .le 5, 3) := by decide +kernel
theorem s27_22 {M : Mm} {st : List Value} {l0 l1 l2 l3 : Option Value} {x y : Int32} : EE 27 22 [l0, l1, l2, l3] (.int y :: .int x :: st) M = if x ≤ y then EE 27 27 [l0, l1, l2, l3] st M else EE 27 25 [l0, l1, l2, l3] st M := e_cle d27_22 (by decide)
theorem d27_25 : decode (cod 27) 25 = .ok (.iload_n 3, 1) := by decide +kernel
theorem s27_25 {M : Mm} {st : List Value} {l0 l1 l2 : Option Value} {x : Int32} : EE 27 25 [l0, l1, l2, some (.int x)] st M = EE 27 26 [l0, l1, l2, some (.int x)] (.int x :: st) M := e_ld d27_25 rfl rfl rfl rfl rfl rfl
theorem d27_26 : decode (cod 27) 26 = .ok (.istore_n 2, 1) := by decide +kernel
theorem s27_26 {M : Mm} {st : List Value} {l0 l1 l2 l3 : Option Value} {x : Int32} : EE 27 26 [l0, l1, l2, l3] (.int x :: st) M = EE 27 27 [l0, cln l1, some (.int x), l3] st M := e_st1 d27_26 rfl rfl rfl rfl rfl rfl rfl (Nat.le_of_ble_eq_true rfl) rfl
theorem d27_27 : decode (cod 27) 27 = .ok (.iinc 3 1, 3) := by decide +kernel
theorem s27_27 {M : Mm} {st : List Value} {l0 l1 l2 : Option Value} {x : Int32} : EE 27 27 [l0, l1, l2, some (.int x)] st M = EE 27 30 [l0, l1, cln l2, some (.int (x + nI 1))] st M := e_iinc d27_27 rfl (congrArg (fun z => x + z) k_inc_1) rfl
theorem d27_30 : decode (cod 27) 30 = .ok (.goto (-26), 3) := by decide +kernel
theorem s27_30 {M : Mm} {st : List Value} {l0 l1 l2 l3 : Option Value} : EE 27 30 [l0, l1, l2, l3] st M = EE 27 4 [l0, l1, l2, l3] st M := e_goto d27_30 (by decide)
theorem d27_33 : decode (cod 27) 33 = .ok (.iload_n 2, 1) := by decide +kernel
theorem s27_33 {M : Mm} {st : List Value} {l0 l1 l3 : Option Value} {x : Int32} : EE 27 33 [l0, l1, some (.int x), l3] st M = EE 27 34 [l0, l1, some (.int x), l3] (.int x :: st) M := e_ld d27_33 rfl rfl rfl rfl rfl rfl
theorem d27_34 : decode (cod 27) 34 = .ok (.ireturn, 1) := by decide +kernel
theorem s27_34 {M : Mm} {l0 l1 l2 l3 : Option Value} {v : Int32} : EE 27 34 [l0, l1, l2, l3] [.int v] M = some (some (.int v), M) := e_iret d27_34 rfl rfl
theorem FE27 {a : Nat} {b0 : Int32} {M : Mm} : FF 27 [.ref a, .int b0] M = EE 27 0 [some (.ref a), some (.int b0), none, none] [] M := FF_eq 27 _ _ (Nat.le_of_ble_eq_true rfl)
theorem d28_0 : decode (cod 28) 0 = .ok (.aload_n 0, 1) := by decide +kernel
theorem s28_0 {M : Mm} {st : List Value} {x : Nat} : EE 28 0 [some (.ref x)] st M = EE 28 1 [some (.ref x)] (.ref x :: st) M := e_ld d28_0 rfl rfl rfl rfl rfl rfl
theorem d28_1 : decode (cod 28) 1 = .ok (.getfield 27, 3) := by decide +kernel
theorem s28_1 {n : Nat} {I : Nat → Nat → Int32} {R : Nat → Nat → Option Nat} {st : List Value} {l0 : Option Value} {a : Nat} : EE 28 1 [l0] (.ref a :: st) (n, I, R) = (gfI n I R 1 2 a).bind (fun z => EE 28 4 [l0] (z :: st) (n, I, R)) := e_getf d28_1 f1_27 rfl rfl
theorem d28_4 : decode (cod 28) 4 = .ok (.aload_n 0, 1) := by decide +kernel
theorem s28_4 {M : Mm} {st : List Value} {x : Nat} : EE 28 4 [some (.ref x)] st M = EE 28 5 [some (.ref x)] (.ref x :: st) M := e_ld d28_4 rfl rfl rfl rfl rfl rfl
theorem d28_5 : decode (cod 28) 5 = .ok (.getfield 57, 3) := by decide +kernel
theorem s28_5 {n : Nat} {I : Nat → Nat → Int32} {R : Nat → Nat → Option Nat} {st : List Value} {l0 : Option Value} {a : Nat} : EE 28 5 [l0] (.ref a :: st) (n, I, R) = (gfI n I R 1 11 a).bind (fun z => EE 28 8 [l0] (z :: st) (n, I, R)) := e_getf d28_5 f1_57 rfl rfl
theorem d28_8 : decode (cod 28) 8 = .ok (.bipush 12, 2) := by decide +kernel
theorem s28_8 {M : Mm} {st : List Value} {l0 : Option Value} : EE 28 8 [l0] st M = EE 28 10 [l0] (.int (nI 12) :: st) M := e_bip d28_8 k_bip_12
theorem d28_10 : decode (cod 28) 10 = .ok (.invokestatic 75, 3) := by decide +kernel
theorem s28_10 {M : Mm} {l0 : Option Value} {b0 : Int32} {b1 : Int32} {st : List Value} (hl : st.length ≤ 4) : EE 28 10 [l0] (.int b1 :: .int b0 :: st) M = (FF 152 [.int b0, .int b1] M).bind (fun z => EE 28 13 [l0] (psh z.1 st) z.2) := e_cals (av := [.int b0, .int b1]) d28_10 c1_75 (Or.inl rfl) rfl rfl r28_152 rfl hl
theorem d28_13 : decode (cod 28) 13 = .ok (.iaload, 1) := by decide +kernel
theorem s28_13 {n : Nat} {I : Nat → Nat → Int32} {R : Nat → Nat → Option Nat} {st : List Value} {l0 : Option Value} {j : Int32} {a : Nat} : EE 28 13 [l0] (.int j :: .ref a :: st) (n, I, R) = (ardI 5 n I a j).bind (fun z => EE 28 14 [l0] (.int z :: st) (n, I, R)) := e_iald d28_13
theorem d28_14 : decode (cod 28) 14 = .ok (.ireturn, 1) := by decide +kernel
theorem s28_14 {M : Mm} {l0 : Option Value} {v : Int32} : EE 28 14 [l0] [.int v] M = some (some (.int v), M) := e_iret d28_14 rfl rfl
theorem FE28 {a : Nat} {M : Mm} : FF 28 [.ref a] M = EE 28 0 [some (.ref a)] [] M := FF_eq 28 _ _ (Nat.le_of_ble_eq_true rfl)
theorem d29_0 : decode (cod 29) 0 = .ok (.aload_n 0, 1) := by decide +kernel
theorem s29_0 {M : Mm} {st : List Value} {l1 l2 l3 l4 : Option Value} {x : Nat} : EE 29 0 [some (.ref x), l1, l2, l3, l4] st M = EE 29 1 [some (.ref x), l1, l2, l3, l4] (.ref x :: st) M := e_ld d29_0 rfl rfl rfl rfl rfl rfl
theorem d29_1 : decode (cod 29) 1 = .ok (.invokevirtual 91, 3) := by decide +kernel
theorem s29_1 {l0 l1 l2 l3 l4 : Option Value} {a : Nat} {M : Mm} {st : List Value} (hl : st.length ≤ 4) (ho : isO "HandoverDesk$State" M.1 a = true) : EE 29 1 [l0, l1, l2, l3, l4] (.ref a :: st) M = (FF 26 (.ref a :: []) M).bind (fun z => EE 29 4 [l0, l1, l2, l3, l4] (psh z.1 st) z.2) := e_calv (av := []) d29_1 c1_91 rfl rfl rfl r29_26 rfl hl ho
theorem d29_4 : decode (cod 29) 4 = .ok (.istore_n 2, 1) := by decide +kernel
theorem s29_4 {M : Mm} {st : List Value} {l0 l1 l2 l3 l4 : Option Value} {x : Int32} : EE 29 4 [l0, l1, l2, l3, l4] (.int x :: st) M = EE 29 5 [l0, cln l1, some (.int x), l3, l4] st M := e_st1 d29_4 rfl rfl rfl rfl rfl rfl rfl (Nat.le_of_ble_eq_true rfl) rfl
theorem d29_5 : decode (cod 29) 5 = .ok (.aload_n 0, 1) := by decide +kernel
theorem s29_5 {M : Mm} {st : List Value} {l1 l2 l3 l4 : Option Value} {x : Nat} : EE 29 5 [some (.ref x), l1, l2, l3, l4] st M = EE 29 6 [some (.ref x), l1, l2, l3, l4] (.ref x :: st) M := e_ld d29_5 rfl rfl rfl rfl rfl rfl
theorem d29_6 : decode (cod 29) 6 = .ok (.invokevirtual 136, 3) := by decide +kernel
theorem s29_6 {l0 l1 l2 l3 l4 : Option Value} {a : Nat} {M : Mm} {st : List Value} (hl : st.length ≤ 4) (ho : isO "HandoverDesk$State" M.1 a = true) : EE 29 6 [l0, l1, l2, l3, l4] (.ref a :: st) M = (FF 30 (.ref a :: []) M).bind (fun z => EE 29 9 [l0, l1, l2, l3, l4] (psh z.1 st) z.2) := e_calv (av := []) d29_6 c1_136 rfl rfl rfl r29_30 rfl hl ho
theorem d29_9 : decode (cod 29) 9 = .ok (.istore_n 3, 1) := by decide +kernel
theorem s29_9 {M : Mm} {st : List Value} {l0 l1 l2 l3 l4 : Option Value} {x : Int32} : EE 29 9 [l0, l1, l2, l3, l4] (.int x :: st) M = EE 29 10 [l0, l1, cln l2, some (.int x), l4] st M := e_st1 d29_9 rfl rfl rfl rfl rfl rfl rfl (Nat.le_of_ble_eq_true rfl) rfl
theorem d29_10 : decode (cod 29) 10 = .ok (.iload_n 2, 1) := by decide +kernel
theorem s29_10 {M : Mm} {st : List Value} {l0 l1 l3 l4 : Option Value} {x : Int32} : EE 29 10 [l0, l1, some (.int x), l3, l4] st M = EE 29 11 [l0, l1, some (.int x), l3, l4] (.int x :: st) M := e_ld d29_10 rfl rfl rfl rfl rfl rfl
theorem d29_11 : decode (cod 29) 11 = .ok (.invokestatic 81, 3) := by decide +kernel
theorem s29_11 {M : Mm} {l0 l1 l2 l3 l4 : Option Value} {b0 : Int32} {st : List Value} (hl : st.length ≤ 4) : EE 29 11 [l0, l1, l2, l3, l4] (.int b0 :: st) M = (FF 49 [.int b0] M).bind (fun z => EE 29 14 [l0, l1, l2, l3, l4] (psh z.1 st) z.2) := e_cals (av := [.int b0]) d29_11 c1_81 (Or.inr rfl) rfl rfl r29_49 rfl hl
theorem d29_14 : decode (cod 29) 14 = .ok (.ifCond .eq 10, 3) := by decide +kernel
theorem s29_14 {M : Mm} {st : List Value} {l0 l1 l2 l3 l4 : Option Value} {x : Int32} : EE 29 14 [l0, l1, l2, l3, l4] (.int x :: st) M = if x = 0 then EE 29 24 [l0, l1, l2, l3, l4] st M else EE 29 17 [l0, l1, l2, l3, l4] st M := e_eq0 d29_14 (by decide)
theorem d29_17 : decode (cod 29) 17 = .ok (.iload_n 3, 1) := by decide +kernel
theorem s29_17 {M : Mm} {st : List Value} {l0 l1 l2 l4 : Option Value} {x : Int32} : EE 29 17 [l0, l1, l2, some (.int x), l4] st M = EE 29 18 [l0, l1, l2, some (.int x), l4] (.int x :: st) M := e_ld d29_17 rfl rfl rfl rfl rfl rfl
theorem d29_18 : decode (cod 29) 18 = .ok (.invokestatic 81, 3) := by decide +kernel
theorem s29_18 {M : Mm} {l0 l1 l2 l3 l4 : Option Value} {b0 : Int32} {st : List Value} (hl : st.length ≤ 4) : EE 29 18 [l0, l1, l2, l3, l4] (.int b0 :: st) M = (FF 49 [.int b0] M).bind (fun z => EE 29 21 [l0, l1, l2, l3, l4] (psh z.1 st) z.2) := e_cals (av := [.int b0]) d29_18 c1_81 (Or.inr rfl) rfl rfl r29_49 rfl hl
theorem d29_21 : decode (cod 29) 21 = .ok (.ifCond .ne 5, 3) := by decide +kernel
theorem s29_21 {M : Mm} {st : List Value} {l0 l1 l2 l3 l4 : Option Value} {x : Int32} : EE 29 21 [l0, l1, l2, l3, l4] (.int x :: st) M = if x = 0 then EE 29 24 [l0, l1, l2, l3, l4] st M else EE 29 26 [l0, l1, l2, l3, l4] st M := e_ne0 d29_21 (by decide)
theorem d29_24 : decode (cod 29) 24 = .ok (.iconst 0, 1) := by decide +kernel
theorem s29_24 {M : Mm} {st : List Value} {l0 l1 l2 l3 l4 : Option Value} : EE 29 24 [l0, l1, l2, l3, l4] st M = EE 29 25 [l0, l1, l2, l3, l4] (.int (nI 0) :: st) M := e_con d29_24 k_con_0
theorem d29_25 : decode (cod 29) 25 = .ok (.ireturn, 1) := by decide +kernel
theorem s29_25 {M : Mm} {l0 l1 l2 l3 l4 : Option Value} {v : Int32} : EE 29 25 [l0, l1, l2, l3, l4] [.int v] M = some (some (.int v), M) := e_iret d29_25 rfl rfl
theorem d29_26 : decode (cod 29) 26 = .ok (.aload_n 0, 1) := by decide +kernel
theorem s29_26 {M : Mm} {st : List Value} {l1 l2 l3 l4 : Option Value} {x : Nat} : EE 29 26 [some (.ref x), l1, l2, l3, l4] st M = EE 29 27 [some (.ref x), l1, l2, l3, l4] (.ref x :: st) M := e_ld d29_26 rfl rfl rfl rfl rfl rfl
theorem d29_27 : decode (cod 29) 27 = .ok (.aload_n 0, 1) := by decide +kernel
theorem s29_27 {M : Mm} {st : List Value} {l1 l2 l3 l4 : Option Value} {x : Nat} : EE 29 27 [some (.ref x), l1, l2, l3, l4] st M = EE 29 28 [some (.ref x), l1, l2, l3, l4] (.ref x :: st) M := e_ld d29_27 rfl rfl rfl rfl rfl rfl
theorem d29_28 : decode (cod 29) 28 = .ok (.getfield 32, 3) := by decide +kernel
theorem s29_28 {n : Nat} {I : Nat → Nat → Int32} {R : Nat → Nat → Option Nat} {st : List Value} {l0 l1 l2 l3 l4 : Option Value} {a : Nat} : EE 29 28 [l0, l1, l2, l3, l4] (.ref a :: st) (n, I, R) = (gfI n I R 1 3 a).bind (fun z => EE 29 31 [l0, l1, l2, l3, l4] (z :: st) (n, I, R)) := e_getf d29_28 f1_32 rfl rfl
theorem d29_31 : decode (cod 29) 31 = .ok (.iload_n 2, 1) := by decide +kernel
theorem s29_31 {M : Mm} {st : List Value} {l0 l1 l3 l4 : Option Value} {x : Int32} : EE 29 31 [l0, l1, some (.int x), l3, l4] st M = EE 29 32 [l0, l1, some (.int x), l3, l4] (.int x :: st) M := e_ld d29_31 rfl rfl rfl rfl rfl rfl
theorem d29_32 : decode (cod 29) 32 = .ok (.aaload, 1) := by decide +kernel
theorem s29_32 {n : Nat} {I : Nat → Nat → Int32} {R : Nat → Nat → Option Nat} {st : List Value} {l0 l1 l2 l3 l4 : Option Value} {j : Int32} {a : Nat} (h : 8 ≤ kd a ∧ a < 1000 ∧ pos a < n ∧ inb j (ln a)) : EE 29 32 [l0, l1, l2, l3, l4] (.int j :: .ref a :: st) (n, I, R) = EE 29 33 [l0, l1, l2, l3, l4] (va_rf (R a j.toNatClampNeg) :: st) (n, I, R) := e_aald d29_32 h
theorem d29_33 : decode (cod 29) 33 = .ok (.invokevirtual 139, 3) := by decide +kernel
theorem s29_33 {l0 l1 l2 l3 l4 : Option Value} {a : Nat} {M : Mm} {b0 : Nat} {st : List Value} (hl : st.length ≤ 4) (ho : isO "HandoverDesk$State" M.1 a = true) : EE 29 33 [l0, l1, l2, l3, l4] (.ref b0 :: .ref a :: st) M = (FF 31 (.ref a :: [.ref b0]) M).bind (fun z => EE 29 36 [l0, l1, l2, l3, l4] (psh z.1 st) z.2) := e_calv (av := [.ref b0]) d29_33 c1_139 rfl rfl rfl r29_31 rfl hl ho
theorem d29_36 : decode (cod 29) 36 = .ok (.iload_n 3, 1) := by decide +kernel
theorem s29_36 {M : Mm} {st : List Value} {l0 l1 l2 l4 : Option Value} {x : Int32} : EE 29 36 [l0, l1, l2, some (.int x), l4] st M = EE 29 37 [l0, l1, l2, some (.int x), l4] (.int x :: st) M := e_ld d29_36 rfl rfl rfl rfl rfl rfl
theorem d29_37 : decode (cod 29) 37 = .ok (.iload_n 2, 1) := by decide +kernel
theorem s29_37 {M : Mm} {st : List Value} {l0 l1 l3 l4 : Option Value} {x : Int32} : EE 29 37 [l0, l1, some (.int x), l3, l4] st M = EE 29 38 [l0, l1, some (.int x), l3, l4] (.int x :: st) M := e_ld d29_37 rfl rfl rfl rfl rfl rfl
theorem d29_38 : decode (cod 29) 38 = .ok (.if_icmp .eq 56, 3) := by decide +kernel
theorem s29_38 {M : Mm} {st : List Value} {l0 l1 l2 l3 l4 : Option Value} {x y : Int32} : EE 29 38 [l0, l1, l2, l3, l4] (.int y :: .int x :: st) M = if x = y then EE 29 94 [l0, l1, l2, l3, l4] st M else EE 29 41 [l0, l1, l2, l3, l4] st M := e_ceq d29_38 (by decide)
theorem d29_41 : decode (cod 29) 41 = .ok (.aload_n 0, 1) := by decide +kernel
theorem s29_41 {M : Mm} {st : List Value} {l1 l2 l3 l4 : Option Value} {x : Nat} : EE 29 41 [some (.ref x), l1, l2, l3, l4] st M = EE 29 42 [some (.ref x), l1, l2, l3, l4] (.ref x :: st) M := e_ld d29_41 rfl rfl rfl rfl rfl rfl
theorem d29_42 : decode (cod 29) 42 = .ok (.dup, 1) := by decide +kernel
theorem s29_42i {M : Mm} {st : List Value} {l0 l1 l2 l3 l4 : Option Value} {x : Int32} : EE 29 42 [l0, l1, l2, l3, l4] (.int x :: st) M = EE 29 43 [l0, l1, l2, l3, l4] (.int x :: .int x :: st) M := e_dup d29_42 rfl
theorem s29_42r {M : Mm} {st : List Value} {l0 l1 l2 l3 l4 : Option Value} {x : Nat} : EE 29 42 [l0, l1, l2, l3, l4] (.ref x :: st) M = EE 29 43 [l0, l1, l2, l3, l4] (.ref x :: .ref x :: st) M := e_dup d29_42 rfl
theorem d29_43 : decode (cod 29) 43 = .ok (.getfield 66, 3) := by decide +kernel
theorem s29_43 {n : Nat} {I : Nat → Nat → Int32} {R : Nat → Nat → Option Nat} {st : List Value} {l0 l1 l2 l3 l4 : Option Value} {a : Nat} : EE 29 43 [l0, l1, l2, l3, l4] (.ref a :: st) (n, I, R) = (gfI n I R 1 14 a).bind (fun z => EE 29 46 [l0, l1, l2, l3, l4] (z :: st) (n, I, R)) := e_getf d29_43 f1_66 rfl rfl
theorem d29_46 : decode (cod 29) 46 = .ok (.aload_n 0, 1) := by decide +kernel
theorem s29_46 {M : Mm} {st : List Value} {l1 l2 l3 l4 : Option Value} {x : Nat} : EE 29 46 [some (.ref x), l1, l2, l3, l4] st M = EE 29 47 [some (.ref x), l1, l2, l3, l4] (.ref x :: st) M := e_ld d29_46 rfl rfl rfl rfl rfl rfl
theorem d29_47 : decode (cod 29) 47 = .ok (.aload_n 0, 1) := by decide +kernel
theorem s29_47 {M : Mm} {st : List Value} {l1 l2 l3 l4 : Option Value} {x : Nat} : EE 29 47 [some (.ref x), l1, l2, l3, l4] st M = EE 29 48 [some (.ref x), l1, l2, l3, l4] (.ref x :: st) M := e_ld d29_47 rfl rfl rfl rfl rfl rfl
theorem d29_48 : decode (cod 29) 48 = .ok (.getfield 32, 3) := by decide +kernel
theorem s29_48 {n : Nat} {I : Nat → Nat → Int32} {R : Nat → Nat → Option Nat} {st : List Value} {l0 l1 l2 l3 l4 : Option Value} {a : Nat} : EE 29 48 [l0, l1, l2, l3, l4] (.ref a :: st) (n, I, R) = (gfI n I R 1 3 a).bind (fun z => EE 29 51 [l0, l1, l2, l3, l4] (z :: st) (n, I, R)) := e_getf d29_48 f1_32 rfl rfl
theorem d29_51 : decode (cod 29) 51 = .ok (.iload_n 2, 1) := by decide +kernel
theorem s29_51 {M : Mm} {st : List Value} {l0 l1 l3 l4 : Option Value} {x : Int32} : EE 29 51 [l0, l1, some (.int x), l3, l4] st M = EE 29 52 [l0, l1, some (.int x), l3, l4] (.int x :: st) M := e_ld d29_51 rfl rfl rfl rfl rfl rfl
theorem d29_52 : decode (cod 29) 52 = .ok (.aaload, 1) := by decide +kernel
theorem s29_52 {n : Nat} {I : Nat → Nat → Int32} {R : Nat → Nat → Option Nat} {st : List Value} {l0 l1 l2 l3 l4 : Option Value} {j : Int32} {a : Nat} (h : 8 ≤ kd a ∧ a < 1000 ∧ pos a < n ∧ inb j (ln a)) : EE 29 52 [l0, l1, l2, l3, l4] (.int j :: .ref a :: st) (n, I, R) = EE 29 53 [l0, l1, l2, l3, l4] (va_rf (R a j.toNatClampNeg) :: st) (n, I, R) := e_aald d29_52 h
theorem d29_53 : decode (cod 29) 53 = .ok (.aload_n 0, 1) := by decide +kernel
theorem s29_53 {M : Mm} {st : List Value} {l1 l2 l3 l4 : Option Value} {x : Nat} : EE 29 53 [some (.ref x), l1, l2, l3, l4] st M = EE 29 54 [some (.ref x), l1, l2, l3, l4] (.ref x :: st) M := e_ld d29_53 rfl rfl rfl rfl rfl rfl
theorem d29_54 : decode (cod 29) 54 = .ok (.getfield 32, 3) := by decide +kernel
theorem s29_54 {n : Nat} {I : Nat → Nat → Int32} {R : Nat → Nat → Option Nat} {st : List Value} {l0 l1 l2 l3 l4 : Option Value} {a : Nat} : EE 29 54 [l0, l1, l2, l3, l4] (.ref a :: st) (n, I, R) = (gfI n I R 1 3 a).bind (fun z => EE 29 57 [l0, l1, l2, l3, l4] (z :: st) (n, I, R)) := e_getf d29_54 f1_32 rfl rfl
theorem d29_57 : decode (cod 29) 57 = .ok (.iload_n 3, 1) := by decide +kernel
theorem s29_57 {M : Mm} {st : List Value} {l0 l1 l2 l4 : Option Value} {x : Int32} : EE 29 57 [l0, l1, l2, some (.int x), l4] st M = EE 29 58 [l0, l1, l2, some (.int x), l4] (.int x :: st) M := e_ld d29_57 rfl rfl rfl rfl rfl rfl
theorem d29_58 : decode (cod 29) 58 = .ok (.aaload, 1) := by decide +kernel
theorem s29_58 {n : Nat} {I : Nat → Nat → Int32} {R : Nat → Nat → Option Nat} {st : List Value} {l0 l1 l2 l3 l4 : Option Value} {j : Int32} {a : Nat} (h : 8 ≤ kd a ∧ a < 1000 ∧ pos a < n ∧ inb j (ln a)) : EE 29 58 [l0, l1, l2, l3, l4] (.int j :: .ref a :: st) (n, I, R) = EE 29 59 [l0, l1, l2, l3, l4] (va_rf (R a j.toNatClampNeg) :: st) (n, I, R) := e_aald d29_58 h
theorem d29_59 : decode (cod 29) 59 = .ok (.iload_n 1, 1) := by decide +kernel
theorem s29_59 {M : Mm} {st : List Value} {l0 l2 l3 l4 : Option Value} {x : Int32} : EE 29 59 [l0, some (.int x), l2, l3, l4] st M = EE 29 60 [l0, some (.int x), l2, l3, l4] (.int x :: st) M := e_ld d29_59 rfl rfl rfl rfl rfl rfl
theorem d29_60 : decode (cod 29) 60 = .ok (.invokevirtual 143, 3) := by decide +kernel
theorem s29_60 {l0 l1 l2 l3 l4 : Option Value} {a : Nat} {M : Mm} {b0 : Nat} {b1 : Nat} {b2 : Int32} {st : List Value} (hl : st.length ≤ 4) (ho : isO "HandoverDesk$State" M.1 a = true) : EE 29 60 [l0, l1, l2, l3, l4] (.int b2 :: .ref b1 :: .ref b0 :: .ref a :: st) M = (FF 32 (.ref a :: [.ref b0, .ref b1, .int b2]) M).bind (fun z => EE 29 63 [l0, l1, l2, l3, l4] (psh z.1 st) z.2) := e_calv (av := [.ref b0, .ref b1, .int b2]) d29_60 c1_143 rfl rfl rfl r29_32 rfl hl ho
theorem d29_63 : decode (cod 29) 63 = .ok (.iadd, 1) := by decide +kernel
theorem s29_63 {M : Mm} {st : List Value} {l0 l1 l2 l3 l4 : Option Value} {x y : Int32} : EE 29 63 [l0, l1, l2, l3, l4] (.int y :: .int x :: st) M = EE 29 64 [l0, l1, l2, l3, l4] (.int (x + y) :: st) M := e_II d29_63 rfl rfl rfl rfl rfl rfl
theorem d29_64 : decode (cod 29) 64 = .ok (.putfield 66, 3) := by decide +kernel
theorem s29_64 {n : Nat} {I : Nat → Nat → Int32} {R : Nat → Nat → Option Nat} {st : List Value} {l0 l1 l2 l3 l4 : Option Value} {a : Nat} {v : Value} : EE 29 64 [l0, l1, l2, l3, l4] (v :: .ref a :: st) (n, I, R) = (pfI n I R 1 14 a v).bind (fun z => EE 29 67 [l0, l1, l2, l3, l4] st (n, z.1, z.2)) := e_putf d29_64 f1_66 rfl rfl (Or.inr rfl)
theorem d29_67 : decode (cod 29) 67 = .ok (.aload_n 0, 1) := by decide +kernel
theorem s29_67 {M : Mm} {st : List Value} {l1 l2 l3 l4 : Option Value} {x : Nat} : EE 29 67 [some (.ref x), l1, l2, l3, l4] st M = EE 29 68 [some (.ref x), l1, l2, l3, l4] (.ref x :: st) M := e_ld d29_67 rfl rfl rfl rfl rfl rfl
theorem d29_68 : decode (cod 29) 68 = .ok (.dup, 1) := by decide +kernel
theorem s29_68i {M : Mm} {st : List Value} {l0 l1 l2 l3 l4 : Option Value} {x : Int32} : EE 29 68 [l0, l1, l2, l3, l4] (.int x :: st) M = EE 29 69 [l0, l1, l2, l3, l4] (.int x :: .int x :: st) M := e_dup d29_68 rfl
theorem s29_68r {M : Mm} {st : List Value} {l0 l1 l2 l3 l4 : Option Value} {x : Nat} : EE 29 68 [l0, l1, l2, l3, l4] (.ref x :: st) M = EE 29 69 [l0, l1, l2, l3, l4] (.ref x :: .ref x :: st) M := e_dup d29_68 rfl
theorem d29_69 : decode (cod 29) 69 = .ok (.getfield 63, 3) := by decide +kernel
theorem s29_69 {n : Nat} {I : Nat → Nat → Int32} {R : Nat → Nat → Option Nat} {st : List Value} {l0 l1 l2 l3 l4 : Option Value} {a : Nat} : EE 29 69 [l0, l1, l2, l3, l4] (.ref a :: st) (n, I, R) = (gfI n I R 1 13 a).bind (fun z => EE 29 72 [l0, l1, l2, l3, l4] (z :: st) (n, I, R)) := e_getf d29_69 f1_63 rfl rfl
theorem d29_72 : decode (cod 29) 72 = .ok (.iload_n 1, 1) := by decide +kernel
theorem s29_72 {M : Mm} {st : List Value} {l0 l2 l3 l4 : Option Value} {x : Int32} : EE 29 72 [l0, some (.int x), l2, l3, l4] st M = EE 29 73 [l0, some (.int x), l2, l3, l4] (.int x :: st) M := e_ld d29_72 rfl rfl rfl rfl rfl rfl
theorem d29_73 : decode (cod 29) 73 = .ok (.iadd, 1) := by decide +kernel
theorem s29_73 {M : Mm} {st : List Value} {l0 l1 l2 l3 l4 : Option Value} {x y : Int32} : EE 29 73 [l0, l1, l2, l3, l4] (.int y :: .int x :: st) M = EE 29 74 [l0, l1, l2, l3, l4] (.int (x + y) :: st) M := e_II d29_73 rfl rfl rfl rfl rfl rfl
theorem d29_74 : decode (cod 29) 74 = .ok (.putfield 63, 3) := by decide +kernel
theorem s29_74 {n : Nat} {I : Nat → Nat → Int32} {R : Nat → Nat → Option Nat} {st : List Value} {l0 l1 l2 l3 l4 : Option Value} {a : Nat} {v : Value} : EE 29 74 [l0, l1, l2, l3, l4] (v :: .ref a :: st) (n, I, R) = (pfI n I R 1 13 a v).bind (fun z => EE 29 77 [l0, l1, l2, l3, l4] st (n, z.1, z.2)) := e_putf d29_74 f1_63 rfl rfl (Or.inr rfl)
theorem d29_77 : decode (cod 29) 77 = .ok (.aload_n 0, 1) := by decide +kernel
theorem s29_77 {M : Mm} {st : List Value} {l1 l2 l3 l4 : Option Value} {x : Nat} : EE 29 77 [some (.ref x), l1, l2, l3, l4] st M = EE 29 78 [some (.ref x), l1, l2, l3, l4] (.ref x :: st) M := e_ld d29_77 rfl rfl rfl rfl rfl rfl
theorem d29_78 : decode (cod 29) 78 = .ok (.dup, 1) := by decide +kernel
theorem s29_78i {M : Mm} {st : List Value} {l0 l1 l2 l3 l4 : Option Value} {x : Int32} : EE 29 78 [l0, l1, l2, l3, l4] (.int x :: st) M = EE 29 79 [l0, l1, l2, l3, l4] (.int x :: .int x :: st) M := e_dup d29_78 rfl
theorem s29_78r {M : Mm} {st : List Value} {l0 l1 l2 l3 l4 : Option Value} {x : Nat} : EE 29 78 [l0, l1, l2, l3, l4] (.ref x :: st) M = EE 29 79 [l0, l1, l2, l3, l4] (.ref x :: .ref x :: st) M := e_dup d29_78 rfl
theorem d29_79 : decode (cod 29) 79 = .ok (.getfield 69, 3) := by decide +kernel
theorem s29_79 {n : Nat} {I : Nat → Nat → Int32} {R : Nat → Nat → Option Nat} {st : List Value} {l0 l1 l2 l3 l4 : Option Value} {a : Nat} : EE 29 79 [l0, l1, l2, l3, l4] (.ref a :: st) (n, I, R) = (gfI n I R 1 15 a).bind (fun z => EE 29 82 [l0, l1, l2, l3, l4] (z :: st) (n, I, R)) := e_getf d29_79 f1_69 rfl rfl
theorem d29_82 : decode (cod 29) 82 = .ok (.iload_n 1, 1) := by decide +kernel
theorem s29_82 {M : Mm} {st : List Value} {l0 l2 l3 l4 : Option Value} {x : Int32} : EE 29 82 [l0, some (.int x), l2, l3, l4] st M = EE 29 83 [l0, some (.int x), l2, l3, l4] (.int x :: st) M := e_ld d29_82 rfl rfl rfl rfl rfl rfl
theorem d29_83 : decode (cod 29) 83 = .ok (.aload_n 0, 1) := by decide +kernel
theorem s29_83 {M : Mm} {st : List Value} {l1 l2 l3 l4 : Option Value} {x : Nat} : EE 29 83 [some (.ref x), l1, l2, l3, l4] st M = EE 29 84 [some (.ref x), l1, l2, l3, l4] (.ref x :: st) M := e_ld d29_83 rfl rfl rfl rfl rfl rfl
theorem d29_84 : decode (cod 29) 84 = .ok (.getfield 9, 3) := by decide +kernel
theorem s29_84 {n : Nat} {I : Nat → Nat → Int32} {R : Nat → Nat → Option Nat} {st : List Value} {l0 l1 l2 l3 l4 : Option Value} {a : Nat} : EE 29 84 [l0, l1, l2, l3, l4] (.ref a :: st) (n, I, R) = (gfI n I R 1 0 a).bind (fun z => EE 29 87 [l0, l1, l2, l3, l4] (z :: st) (n, I, R)) := e_getf d29_84 f1_9 rfl rfl
theorem d29_87 : decode (cod 29) 87 = .ok (.iconst 4, 1) := by decide +kernel
theorem s29_87 {M : Mm} {st : List Value} {l0 l1 l2 l3 l4 : Option Value} : EE 29 87 [l0, l1, l2, l3, l4] st M = EE 29 88 [l0, l1, l2, l3, l4] (.int (nI 4) :: st) M := e_con d29_87 k_con_4
theorem d29_88 : decode (cod 29) 88 = .ok (.iaload, 1) := by decide +kernel
theorem s29_88 {n : Nat} {I : Nat → Nat → Int32} {R : Nat → Nat → Option Nat} {st : List Value} {l0 l1 l2 l3 l4 : Option Value} {j : Int32} {a : Nat} : EE 29 88 [l0, l1, l2, l3, l4] (.int j :: .ref a :: st) (n, I, R) = (ardI 5 n I a j).bind (fun z => EE 29 89 [l0, l1, l2, l3, l4] (.int z :: st) (n, I, R)) := e_iald d29_88
theorem d29_89 : decode (cod 29) 89 = .ok (.imul, 1) := by decide +kernel
theorem s29_89 {M : Mm} {st : List Value} {l0 l1 l2 l3 l4 : Option Value} {x y : Int32} : EE 29 89 [l0, l1, l2, l3, l4] (.int y :: .int x :: st) M = EE 29 90 [l0, l1, l2, l3, l4] (.int (x * y) :: st) M := e_II d29_89 rfl rfl rfl rfl rfl rfl
theorem d29_90 : decode (cod 29) 90 = .ok (.iadd, 1) := by decide +kernel
theorem s29_90 {M : Mm} {st : List Value} {l0 l1 l2 l3 l4 : Option Value} {x y : Int32} : EE 29 90 [l0, l1, l2, l3, l4] (.int y :: .int x :: st) M = EE 29 91 [l0, l1, l2, l3, l4] (.int (x + y) :: st) M := e_II d29_90 rfl rfl rfl rfl rfl rfl
theorem d29_91 : decode (cod 29) 91 = .ok (.putfield 69, 3) := by decide +kernel
theorem s29_91 {n : Nat} {I : Nat → Nat → Int32} {R : Nat → Nat → Option Nat} {st : List Value} {l0 l1 l2 l3 l4 : Option Value} {a : Nat} {v : Value} : EE 29 91 [l0, l1, l2, l3, l4] (v :: .ref a :: st) (n, I, R) = (pfI n I R 1 15 a v).bind (fun z => EE 29 94 [l0, l1, l2, l3, l4] st (n, z.1, z.2)) := e_putf d29_91 f1_69 rfl rfl (Or.inr rfl)
theorem d29_94 : decode (cod 29) 94 = .ok (.aload_n 0, 1) := by decide +kernel
theorem s29_94 {M : Mm} {st : List Value} {l1 l2 l3 l4 : Option Value} {x : Nat} : EE 29 94 [some (.ref x), l1, l2, l3, l4] st M = EE 29 95 [some (.ref x), l1, l2, l3, l4] (.ref x :: st) M := e_ld d29_94 rfl rfl rfl rfl rfl rfl
theorem d29_95 : decode (cod 29) 95 = .ok (.dup, 1) := by decide +kernel
theorem s29_95i {M : Mm} {st : List Value} {l0 l1 l2 l3 l4 : Option Value} {x : Int32} : EE 29 95 [l0, l1, l2, l3, l4] (.int x :: st) M = EE 29 96 [l0, l1, l2, l3, l4] (.int x :: .int x :: st) M := e_dup d29_95 rfl
theorem s29_95r {M : Mm} {st : List Value} {l0 l1 l2 l3 l4 : Option Value} {x : Nat} : EE 29 95 [l0, l1, l2, l3, l4] (.ref x :: st) M = EE 29 96 [l0, l1, l2, l3, l4] (.ref x :: .ref x :: st) M := e_dup d29_95 rfl
theorem d29_96 : decode (cod 29) 96 = .ok (.getfield 57, 3) := by decide +kernel
theorem s29_96 {n : Nat} {I : Nat → Nat → Int32} {R : Nat → Nat → Option Nat} {st : List Value} {l0 l1 l2 l3 l4 : Option Value} {a : Nat} : EE 29 96 [l0, l1, l2, l3, l4] (.ref a :: st) (n, I, R) = (gfI n I R 1 11 a).bind (fun z => EE 29 99 [l0, l1, l2, l3, l4] (z :: st) (n, I, R)) := e_getf d29_96 f1_57 rfl rfl
theorem d29_99 : decode (cod 29) 99 = .ok (.iconst 1, 1) := by decide +kernel
theorem s29_99 {M : Mm} {st : List Value} {l0 l1 l2 l3 l4 : Option Value} : EE 29 99 [l0, l1, l2, l3, l4] st M = EE 29 100 [l0, l1, l2, l3, l4] (.int (nI 1) :: st) M := e_con d29_99 k_con_1
theorem d29_100 : decode (cod 29) 100 = .ok (.iadd, 1) := by decide +kernel
theorem s29_100 {M : Mm} {st : List Value} {l0 l1 l2 l3 l4 : Option Value} {x y : Int32} : EE 29 100 [l0, l1, l2, l3, l4] (.int y :: .int x :: st) M = EE 29 101 [l0, l1, l2, l3, l4] (.int (x + y) :: st) M := e_II d29_100 rfl rfl rfl rfl rfl rfl
theorem d29_101 : decode (cod 29) 101 = .ok (.putfield 57, 3) := by decide +kernel
theorem s29_101 {n : Nat} {I : Nat → Nat → Int32} {R : Nat → Nat → Option Nat} {st : List Value} {l0 l1 l2 l3 l4 : Option Value} {a : Nat} {v : Value} : EE 29 101 [l0, l1, l2, l3, l4] (v :: .ref a :: st) (n, I, R) = (pfI n I R 1 11 a v).bind (fun z => EE 29 104 [l0, l1, l2, l3, l4] st (n, z.1, z.2)) := e_putf d29_101 f1_57 rfl rfl (Or.inr rfl)
theorem d29_104 : decode (cod 29) 104 = .ok (.iconst 0, 1) := by decide +kernel
theorem s29_104 {M : Mm} {st : List Value} {l0 l1 l2 l3 l4 : Option Value} : EE 29 104 [l0, l1, l2, l3, l4] st M = EE 29 105 [l0, l1, l2, l3, l4] (.int (nI 0) :: st) M := e_con d29_104 k_con_0
theorem d29_105 : decode (cod 29) 105 = .ok (.istore 4, 2) := by decide +kernel
theorem s29_105 {M : Mm} {st : List Value} {l0 l1 l2 l3 l4 : Option Value} {x : Int32} : EE 29 105 [l0, l1, l2, l3, l4] (.int x :: st) M = EE 29 107 [l0, l1, l2, cln l3, some (.int x)] st M := e_st1 d29_105 rfl rfl rfl rfl rfl rfl rfl (Nat.le_of_ble_eq_true rfl) rfl
theorem d29_107 : decode (cod 29) 107 = .ok (.iload 4, 2) := by decide +kernel
theorem s29_107 {M : Mm} {st : List Value} {l0 l1 l2 l3 : Option Value} {x : Int32} : EE 29 107 [l0, l1, l2, l3, some (.int x)] st M = EE 29 109 [l0, l1, l2, l3, some (.int x)] (.int x :: st) M := e_ld d29_107 rfl rfl rfl rfl rfl rfl
theorem d29_109 : decode (cod 29) 109 = .ok (.bipush 6, 2) := by decide +kernel
theorem s29_109 {M : Mm} {st : List Value} {l0 l1 l2 l3 l4 : Option Value} : EE 29 109 [l0, l1, l2, l3, l4] st M = EE 29 111 [l0, l1, l2, l3, l4] (.int (nI 6) :: st) M := e_bip d29_109 k_bip_6
theorem d29_111 : decode (cod 29) 111 = .ok (.if_icmp .ge 26, 3) := by decide +kernel
theorem s29_111 {M : Mm} {st : List Value} {l0 l1 l2 l3 l4 : Option Value} {x y : Int32} : EE 29 111 [l0, l1, l2, l3, l4] (.int y :: .int x :: st) M = if y ≤ x then EE 29 137 [l0, l1, l2, l3, l4] st M else EE 29 114 [l0, l1, l2, l3, l4] st M := e_cge d29_111 (by decide)
theorem d29_114 : decode (cod 29) 114 = .ok (.iload 4, 2) := by decide +kernel
theorem s29_114 {M : Mm} {st : List Value} {l0 l1 l2 l3 : Option Value} {x : Int32} : EE 29 114 [l0, l1, l2, l3, some (.int x)] st M = EE 29 116 [l0, l1, l2, l3, some (.int x)] (.int x :: st) M := e_ld d29_114 rfl rfl rfl rfl rfl rfl
theorem d29_116 : decode (cod 29) 116 = .ok (.iload_n 3, 1) := by decide +kernel
theorem s29_116 {M : Mm} {st : List Value} {l0 l1 l2 l4 : Option Value} {x : Int32} : EE 29 116 [l0, l1, l2, some (.int x), l4] st M = EE 29 117 [l0, l1, l2, some (.int x), l4] (.int x :: st) M := e_ld d29_116 rfl rfl rfl rfl rfl rfl
theorem d29_117 : decode (cod 29) 117 = .ok (.if_icmp .eq 14, 3) := by decide +kernel
theorem s29_117 {M : Mm} {st : List Value} {l0 l1 l2 l3 l4 : Option Value} {x y : Int32} : EE 29 117 [l0, l1, l2, l3, l4] (.int y :: .int x :: st) M = if x = y then EE 29 131 [l0, l1, l2, l3, l4] st M else EE 29 120 [l0, l1, l2, l3, l4] st M := e_ceq d29_117 (by decide)
theorem d29_120 : decode (cod 29) 120 = .ok (.aload_n 0, 1) := by decide +kernel
theorem s29_120 {M : Mm} {st : List Value} {l1 l2 l3 l4 : Option Value} {x : Nat} : EE 29 120 [some (.ref x), l1, l2, l3, l4] st M = EE 29 121 [some (.ref x), l1, l2, l3, l4] (.ref x :: st) M := e_ld d29_120 rfl rfl rfl rfl rfl rfl
theorem d29_121 : decode (cod 29) 121 = .ok (.aload_n 0, 1) := by decide +kernel
theorem s29_121 {M : Mm} {st : List Value} {l1 l2 l3 l4 : Option Value} {x : Nat} : EE 29 121 [some (.ref x), l1, l2, l3, l4] st M = EE 29 122 [some (.ref x), l1, l2, l3, l4] (.ref x :: st) M := e_ld d29_121 rfl rfl rfl rfl rfl rfl
theorem d29_122 : decode (cod 29) 122 = .ok (.getfield 32, 3) := by decide +kernel
theorem s29_122 {n : Nat} {I : Nat → Nat → Int32} {R : Nat → Nat → Option Nat} {st : List Value} {l0 l1 l2 l3 l4 : Option Value} {a : Nat} : EE 29 122 [l0, l1, l2, l3, l4] (.ref a :: st) (n, I, R) = (gfI n I R 1 3 a).bind (fun z => EE 29 125 [l0, l1, l2, l3, l4] (z :: st) (n, I, R)) := e_getf d29_122 f1_32 rfl rfl
theorem d29_125 : decode (cod 29) 125 = .ok (.iload 4, 2) := by decide +kernel
theorem s29_125 {M : Mm} {st : List Value} {l0 l1 l2 l3 : Option Value} {x : Int32} : EE 29 125 [l0, l1, l2, l3, some (.int x)] st M = EE 29 127 [l0, l1, l2, l3, some (.int x)] (.int x :: st) M := e_ld d29_125 rfl rfl rfl rfl rfl rfl
theorem d29_127 : decode (cod 29) 127 = .ok (.aaload, 1) := by decide +kernel
theorem s29_127 {n : Nat} {I : Nat → Nat → Int32} {R : Nat → Nat → Option Nat} {st : List Value} {l0 l1 l2 l3 l4 : Option Value} {j : Int32} {a : Nat} (h : 8 ≤ kd a ∧ a < 1000 ∧ pos a < n ∧ inb j (ln a)) : EE 29 127 [l0, l1, l2, l3, l4] (.int j :: .ref a :: st) (n, I, R) = EE 29 128 [l0, l1, l2, l3, l4] (va_rf (R a j.toNatClampNeg) :: st) (n, I, R) := e_aald d29_127 h
theorem d29_128 : decode (cod 29) 128 = .ok (.invokevirtual 147, 3) := by decide +kernel
theorem s29_128 {l0 l1 l2 l3 l4 : Option Value} {a : Nat} {M : Mm} {b0 : Nat} {st : List Value} (hl : st.length ≤ 4) (ho : isO "HandoverDesk$State" M.1 a = true) : EE 29 128 [l0, l1, l2, l3, l4] (.ref b0 :: .ref a :: st) M = (FF 34 (.ref a :: [.ref b0]) M).bind (fun z => EE 29 131 [l0, l1, l2, l3, l4] (psh z.1 st) z.2) := e_calv (av := [.ref b0]) d29_128 c1_147 rfl rfl rfl r29_34 rfl hl ho
theorem d29_131 : decode (cod 29) 131 = .ok (.iinc 4 1, 3) := by decide +kernel
theorem s29_131 {M : Mm} {st : List Value} {l0 l1 l2 l3 : Option Value} {x : Int32} : EE 29 131 [l0, l1, l2, l3, some (.int x)] st M = EE 29 134 [l0, l1, l2, cln l3, some (.int (x + nI 1))] st M := e_iinc d29_131 rfl (congrArg (fun z => x + z) k_inc_1) rfl
theorem d29_134 : decode (cod 29) 134 = .ok (.goto (-27), 3) := by decide +kernel
theorem s29_134 {M : Mm} {st : List Value} {l0 l1 l2 l3 l4 : Option Value} : EE 29 134 [l0, l1, l2, l3, l4] st M = EE 29 107 [l0, l1, l2, l3, l4] st M := e_goto d29_134 (by decide)
theorem d29_137 : decode (cod 29) 137 = .ok (.aload_n 0, 1) := by decide +kernel
theorem s29_137 {M : Mm} {st : List Value} {l1 l2 l3 l4 : Option Value} {x : Nat} : EE 29 137 [some (.ref x), l1, l2, l3, l4] st M = EE 29 138 [some (.ref x), l1, l2, l3, l4] (.ref x :: st) M := e_ld d29_137 rfl rfl rfl rfl rfl rfl
theorem d29_138 : decode (cod 29) 138 = .ok (.aload_n 0, 1) := by decide +kernel
theorem s29_138 {M : Mm} {st : List Value} {l1 l2 l3 l4 : Option Value} {x : Nat} : EE 29 138 [some (.ref x), l1, l2, l3, l4] st M = EE 29 139 [some (.ref x), l1, l2, l3, l4] (.ref x :: st) M := e_ld d29_138 rfl rfl rfl rfl rfl rfl
theorem d29_139 : decode (cod 29) 139 = .ok (.getfield 32, 3) := by decide +kernel
theorem s29_139 {n : Nat} {I : Nat → Nat → Int32} {R : Nat → Nat → Option Nat} {st : List Value} {l0 l1 l2 l3 l4 : Option Value} {a : Nat} : EE 29 139 [l0, l1, l2, l3, l4] (.ref a :: st) (n, I, R) = (gfI n I R 1 3 a).bind (fun z => EE 29 142 [l0, l1, l2, l3, l4] (z :: st) (n, I, R)) := e_getf d29_139 f1_32 rfl rfl
theorem d29_142 : decode (cod 29) 142 = .ok (.iload_n 3, 1) := by decide +kernel
theorem s29_142 {M : Mm} {st : List Value} {l0 l1 l2 l4 : Option Value} {x : Int32} : EE 29 142 [l0, l1, l2, some (.int x), l4] st M = EE 29 143 [l0, l1, l2, some (.int x), l4] (.int x :: st) M := e_ld d29_142 rfl rfl rfl rfl rfl rfl
theorem d29_143 : decode (cod 29) 143 = .ok (.aaload, 1) := by decide +kernel
theorem s29_143 {n : Nat} {I : Nat → Nat → Int32} {R : Nat → Nat → Option Nat} {st : List Value} {l0 l1 l2 l3 l4 : Option Value} {j : Int32} {a : Nat} (h : 8 ≤ kd a ∧ a < 1000 ∧ pos a < n ∧ inb j (ln a)) : EE 29 143 [l0, l1, l2, l3, l4] (.int j :: .ref a :: st) (n, I, R) = EE 29 144 [l0, l1, l2, l3, l4] (va_rf (R a j.toNatClampNeg) :: st) (n, I, R) := e_aald d29_143 h
theorem d29_144 : decode (cod 29) 144 = .ok (.invokevirtual 150, 3) := by decide +kernel
theorem s29_144 {l0 l1 l2 l3 l4 : Option Value} {a : Nat} {M : Mm} {b0 : Nat} {st : List Value} (hl : st.length ≤ 4) (ho : isO "HandoverDesk$State" M.1 a = true) : EE 29 144 [l0, l1, l2, l3, l4] (.ref b0 :: .ref a :: st) M = (FF 35 (.ref a :: [.ref b0]) M).bind (fun z => EE 29 147 [l0, l1, l2, l3, l4] (psh z.1 st) z.2) := e_calv (av := [.ref b0]) d29_144 c1_150 rfl rfl rfl r29_35 rfl hl ho
theorem d29_147 : decode (cod 29) 147 = .ok (.aload_n 0, 1) := by decide +kernel
theorem s29_147 {M : Mm} {st : List Value} {l1 l2 l3 l4 : Option Value} {x : Nat} : EE 29 147 [some (.ref x), l1, l2, l3, l4] st M = EE 29 148 [some (.ref x), l1, l2, l3, l4] (.ref x :: st) M := e_ld d29_147 rfl rfl rfl rfl rfl rfl
theorem d29_148 : decode (cod 29) 148 = .ok (.aload_n 0, 1) := by decide +kernel
theorem s29_148 {M : Mm} {st : List Value} {l1 l2 l3 l4 : Option Value} {x : Nat} : EE 29 148 [some (.ref x), l1, l2, l3, l4] st M = EE 29 149 [some (.ref x), l1, l2, l3, l4] (.ref x :: st) M := e_ld d29_148 rfl rfl rfl rfl rfl rfl
theorem d29_149 : decode (cod 29) 149 = .ok (.getfield 32, 3) := by decide +kernel
theorem s29_149 {n : Nat} {I : Nat → Nat → Int32} {R : Nat → Nat → Option Nat} {st : List Value} {l0 l1 l2 l3 l4 : Option Value} {a : Nat} : EE 29 149 [l0, l1, l2, l3, l4] (.ref a :: st) (n, I, R) = (gfI n I R 1 3 a).bind (fun z => EE 29 152 [l0, l1, l2, l3, l4] (z :: st) (n, I, R)) := e_getf d29_149 f1_32 rfl rfl
theorem d29_152 : decode (cod 29) 152 = .ok (.iload_n 3, 1) := by decide +kernel
theorem s29_152 {M : Mm} {st : List Value} {l0 l1 l2 l4 : Option Value} {x : Int32} : EE 29 152 [l0, l1, l2, some (.int x), l4] st M = EE 29 153 [l0, l1, l2, some (.int x), l4] (.int x :: st) M := e_ld d29_152 rfl rfl rfl rfl rfl rfl
theorem d29_153 : decode (cod 29) 153 = .ok (.aaload, 1) := by decide +kernel
theorem s29_153 {n : Nat} {I : Nat → Nat → Int32} {R : Nat → Nat → Option Nat} {st : List Value} {l0 l1 l2 l3 l4 : Option Value} {j : Int32} {a : Nat} (h : 8 ≤ kd a ∧ a < 1000 ∧ pos a < n ∧ inb j (ln a)) : EE 29 153 [l0, l1, l2, l3, l4] (.int j :: .ref a :: st) (n, I, R) = EE 29 154 [l0, l1, l2, l3, l4] (va_rf (R a j.toNatClampNeg) :: st) (n, I, R) := e_aald d29_153 h
theorem d29_154 : decode (cod 29) 154 = .ok (.invokevirtual 153, 3) := by decide +kernel
theorem s29_154 {l0 l1 l2 l3 l4 : Option Value} {a : Nat} {M : Mm} {b0 : Nat} {st : List Value} (hl : st.length ≤ 4) (ho : isO "HandoverDesk$State" M.1 a = true) : EE 29 154 [l0, l1, l2, l3, l4] (.ref b0 :: .ref a :: st) M = (FF 36 (.ref a :: [.ref b0]) M).bind (fun z => EE 29 157 [l0, l1, l2, l3, l4] (psh z.1 st) z.2) := e_calv (av := [.ref b0]) d29_154 c1_153 rfl rfl rfl r29_36 rfl hl ho
theorem d29_157 : decode (cod 29) 157 = .ok (.ireturn, 1) := by decide +kernel
theorem s29_157 {M : Mm} {l0 l1 l2 l3 l4 : Option Value} {v : Int32} : EE 29 157 [l0, l1, l2, l3, l4] [.int v] M = some (some (.int v), M) := e_iret d29_157 rfl rfl
theorem FE29 {a : Nat} {b0 : Int32} {M : Mm} : FF 29 [.ref a, .int b0] M = EE 29 0 [some (.ref a), some (.int b0), none, none, none] [] M := FF_eq 29 _ _ (Nat.le_of_ble_eq_true rfl)
